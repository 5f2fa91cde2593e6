theorem s_RX3_217 : SiteV "LentRoom" 217 "LentRoom$Device" yX0_noiseOf cX0_noiseOf 2 (some .int) 1 := ⟨⟨q_261, q_262, q_263, q_32, q_264⟩, rfl, by decide, by decide, by decide +kernel⟩
set_option maxHeartbeats 4000000 in
theorem k_X3_noisy (l : Launch) (g : Gt) (b : Nat) (sz ac : Int) (TX F DIA KEP ISK : Nat → Int) (T : Int) (hJ : J F z0 T) (hT : T ≤ 900000)  : CP l yX3_noisy cX3_noisy 3 (some .int) 1 21 g [.ref b] (CW g b sz ac TX F DIA KEP ISK) (some (.int (iI (nz F (F 0).toNat)))) := by
  refine cp_of "LentRoom" (by decide) rfl (Nat.le_of_ble_eq_true rfl) ?_
  intro zp ze zs zm za zb zt zc ls C hP hl
  obtain ⟨first, G, TR, GU, hRG, hb, ht, hg, hd, hh, hq, hm, hsl, hfi, hbl, htr, hgu, hsf⟩ := hP
  have hac9 := hRG.1
  have hfi9 := hRG.2.1
  have hl : lv_has ls 3 [(0, .ref b)] := hl
  have hS := hJ.S
  have hSm : Sm F := hS.m (by omega)
  have hZ := hJ.Z
  have hn5 := hJ.n
  have hC := hJ.C
  have hG := hJ.G
  have hPgA : ∀ s : Nat, (s : Int) < F 0 → Pg F s := fun s _ => hJ.Pg (fun _ _ _ => rfl)
  have cut4 : ∀ (N : Nat) (i : Nat) (v1 : Int) (v2 : Int), 5 - i < N → ((i : Int) ≤ F 0) → (v1 = nz F i) → (v2 = (i : Int)) → ∀ ls : Array Slot, lv_has ls 3 [(0, .ref b), (1, .int (iI v1)), (2, .int (iI v2))] → W zp l ze (rmc 1 21) zs zm za zb zt zc zs.heap [] 0 0 (MQ zb (PQ (some (.int (iI (nz F (F 0).toNat))))) za zs 0 0 (fun _ => False)) (F0 zm 4 ls []) := by
    intro N
    induction N with
    | zero => intro i v1 v2; exact fun hms => absurd hms (Nat.not_lt_zero _)
    | succ N ih =>
      intro i v1 v2 hms hi hv1 hv2 ls hl
      have hnb := nz_b F i
      have hnn : noise F i = F (2 + 52 * i + 4) - 2 * F (2 + 52 * i + 5) := rfl
      have hnm : noise F (nz F i).toNat = F (2 + 52 * (nz F i).toNat + 4) - 2 * F (2 + 52 * (nz F i).toNat + 5) := rfl
      refine r_iload_n C rfl (lv_at hl 2 rfl) dX3_noisy_4 ?_
      refine r_aload_n C rfl (lv_at hl 0 rfl) dX3_noisy_5 ?_
      refine r_get C (ci := 3) (v := .ref (b + 3)) rfl uin3 hb.o 1 (by decide) q_138 rfl rfl dX3_noisy_6 ?_
      refine r_get C (ci := 0) (v := .int (iI (F 0))) rfl uin0 hd.o 0 (by decide) q_79 rfl rfl dX3_noisy_9 ?_
      have b1 := hSm.1 0 (by omega)
      have b2 := hSm.2
      refine r_icmp_ge (tgt := 47) C (by decide) (by omega) (by omega) dX3_noisy_12 (fun c3 => ?_) (fun c3 => ?_)
      · refine r_iload_n C rfl (lv_at hl 1 rfl) dX3_noisy_47 ?_
        exact r_iretP C rfl rfl (congrArg iI (by rw [hv1, show i = (F 0).toNat by omega])) dX3_noisy_48
      · refine r_iload_n C rfl (lv_at hl 1 rfl) dX3_noisy_15 ?_
        refine r_iconst C dX3_noisy_16 ?_
        refine r_icmp_eq (tgt := 39) C (by decide) (by omega) (by decide) dX3_noisy_17 (fun c4 => ?_) (fun c4 => ?_)
        · refine r_iload_n C rfl (lv_at hl 2 rfl) dX3_noisy_39 ?_
          refine r_istore_n (lv' := [(1, .int (iI v2)), (0, .ref b), (2, .int (iI v2))]) C rfl hl (by decide) rfl dX3_noisy_40 (fun ls hl => ?_)
          refine r_iinc (lv' := [(2, .int (iI (v2 + 1))), (1, .int (iI v2)), (0, .ref b)]) C hl (q := 2) rfl (by decide) rfl dX3_noisy_41 (fun ls hl => ?_)
          refine r_goto (tgt := 4) C (by decide) dX3_noisy_44 ?_
          exact ih (i + 1) v2 (v2 + 1) (by omega) (by omega) (by first | (rw [nz_f (show ¬ (nz F i = -1 ∨ noise F (nz F i).toNat < noise F i) by omega)]; exact hv1) | (rw [nz_t (by omega)]; omega)) (by omega) _ (lv_sub hl [2, 1, 0] rfl)
        · refine r_aload_n C rfl (lv_at hl 0 rfl) dX3_noisy_20 ?_
          refine r_get C (ci := 3) (v := .ref (b + 3)) rfl uin3 hb.o 1 (by decide) q_138 rfl rfl dX3_noisy_21 ?_
          refine r_iload_n C rfl (lv_at hl 2 rfl) dX3_noisy_24 ?_
          refine r_vPi (rest := []) C (k_X0_noiseOf l g (b + 3) F hSm v2 i (by omega) (by omega)) s_RX3_217 hd (recv C (ci := 0) rfl hd.o) hl.1 rfl ⟨by decide, by decide⟩ rfl (Nat.le_of_ble_eq_true rfl) ⟨Nat.le_refl 0, Nat.le_refl 0⟩ dX3_noisy_25 ?_
          have b5 := hSm.f i 4 (by omega) (by omega)
          have b6 := hSm.f i 5 (by omega) (by omega)
          refine r_aload_n C rfl (lv_at hl 0 rfl) dX3_noisy_28 ?_
          refine r_get C (ci := 3) (v := .ref (b + 3)) rfl uin3 hb.o 1 (by decide) q_138 rfl rfl dX3_noisy_29 ?_
          refine r_iload_n C rfl (lv_at hl 1 rfl) dX3_noisy_32 ?_
          refine r_vPi (rest := [.int (iI (F (2 + 52 * i + 4) - 2 * F (2 + 52 * i + 5)))]) C (k_X0_noiseOf l g (b + 3) F hSm v1 ((nz F i).toNat) (by omega) (by omega)) s_RX3_217 hd (recv C (ci := 0) rfl hd.o) hl.1 rfl ⟨by decide, by decide⟩ rfl (Nat.le_of_ble_eq_true rfl) ⟨Nat.le_refl 0, Nat.le_refl 0⟩ dX3_noisy_33 ?_
          have b7 := hSm.f ((nz F i).toNat) 4 (by omega) (by omega)
          have b8 := hSm.f ((nz F i).toNat) 5 (by omega) (by omega)
          refine r_icmp_le (tgt := 41) C (by decide) (by omega) (by omega) dX3_noisy_36 (fun c9 => ?_) (fun c9 => ?_)
          · refine r_iinc (lv' := [(2, .int (iI (v2 + 1))), (0, .ref b), (1, .int (iI v1))]) C hl (q := 2) rfl (by decide) rfl dX3_noisy_41 (fun ls hl => ?_)
            refine r_goto (tgt := 4) C (by decide) dX3_noisy_44 ?_
            exact ih (i + 1) v1 (v2 + 1) (by omega) (by omega) (by first | (rw [nz_f (show ¬ (nz F i = -1 ∨ noise F (nz F i).toNat < noise F i) by omega)]; exact hv1) | (rw [nz_t (by omega)]; omega)) (by omega) _ (lv_sub hl [1, 2, 0] rfl)
          · refine r_iload_n C rfl (lv_at hl 2 rfl) dX3_noisy_39 ?_
            refine r_istore_n (lv' := [(1, .int (iI v2)), (0, .ref b), (2, .int (iI v2))]) C rfl hl (by decide) rfl dX3_noisy_40 (fun ls hl => ?_)
            refine r_iinc (lv' := [(2, .int (iI (v2 + 1))), (1, .int (iI v2)), (0, .ref b)]) C hl (q := 2) rfl (by decide) rfl dX3_noisy_41 (fun ls hl => ?_)
            refine r_goto (tgt := 4) C (by decide) dX3_noisy_44 ?_
            exact ih (i + 1) v2 (v2 + 1) (by omega) (by omega) (by first | (rw [nz_f (show ¬ (nz F i = -1 ∨ noise F (nz F i).toNat < noise F i) by omega)]; exact hv1) | (rw [nz_t (by omega)]; omega)) (by omega) _ (lv_sub hl [2, 1, 0] rfl)
  refine r_iconst C dX3_noisy_0 ?_
  refine r_istore_n (lv' := [(1, .int (iI (-1))), (0, .ref b)]) C rfl hl (by decide) rfl dX3_noisy_1 (fun ls hl => ?_)
  refine r_iconst C dX3_noisy_2 ?_
  refine r_istore_n (lv' := [(2, .int (iI 0)), (1, .int (iI (-1))), (0, .ref b)]) C rfl hl (by decide) rfl dX3_noisy_3 (fun ls hl => ?_)
  exact cut4 _ 0 (-1) 0 (Nat.lt_succ_self _) (by omega) (by rfl) (by omega) _ (lv_sub hl [2, 1, 0] rfl)

set_option maxHeartbeats 4000000 in
theorem k_X3_harm (l : Launch) (hst : l.stackTraces = false) (g : Gt) (kt : Kt) (b : Nat) (sz ac : Int) (TX F DIA KEP ISK : Nat → Int) (T : Int) (hJ : J F z0 T) (hT : T ≤ 900000) (x y : Int) (hx : Rg x) (hy : Rg y) (s k : Nat) (hs : 0 ≤ x → x = (s : Int)) (hk : 0 ≤ y → y = (k : Int)) : XM l yX3_harm cX3_harm 3 (some .int) 7 118 2 g kt [.ref b, .int (iI x), .int (iI y)] (CW g b sz ac TX F DIA KEP ISK) (if ¬ (0 ≤ x ∧ x < F 0) then 1 else if ¬ (0 ≤ y ∧ y ≤ 60) then 2 else 0) [eIB, eIA] (some (.int (iI (S5 (gF F s (gN F s k 0)) 5 - S5 F 5)))) (Cdp b) (CW g b sz ac TX F DIA KEP ISK) := by
  refine xm_of "LentRoom" (by decide) rfl (Nat.le_of_ble_eq_true rfl) ?_
  intro zp ze zs zm za zb zt zc ls C K9 ht9 hP hF hl
  obtain ⟨first, G, TR, GU, hRG, hb, ht, hg, hd, hh, hq, hm, hsl, hfi, hbl, htr, hgu, hsf⟩ := hP
  have hac9 := hRG.1
  have hfi9 := hRG.2.1
  have hl : lv_has ls 3 [(0, .ref b), (1, .int (iI x)), (2, .int (iI y))] := hl
  have hS := hJ.S
  have hSm : Sm F := hS.m (by omega)
  have hZ := hJ.Z
  have hn5 := hJ.n
  have hC := hJ.C
  have hG := hJ.G
  have hPgA : ∀ s : Nat, (s : Int) < F 0 → Pg F s := fun s _ => hJ.Pg (fun _ _ _ => rfl)
  refine r_aload_n C rfl (lv_at hl 0 rfl) dX3_harm_0 ?_
  refine r_iload_n C rfl (lv_at hl 1 rfl) dX3_harm_1 ?_
  refine r_vXn (rest := []) C K9 ht9 (k_X3_needSpace l hst g kt b F hSm x (by omega)) s_RX3_121 ⟨hb, hd⟩ (recv C (ci := 3) rfl hb.o) (fun hq9 => by obtain ⟨e9, n9⟩ := Kd_n hq9; have e8 : ((if ¬ (0 ≤ x ∧ x < F 0) then 1 else if ¬ (0 ≤ y ∧ y ≤ 60) then 2 else 0) : Int) = 1 := (by (repeat' split) <;> omega); (first | rw [e9, e8] | rw [e9]); exact ⟨by decide, rfl⟩) hl.1 rfl ⟨by decide, by decide⟩ rfl (Nat.le_of_ble_eq_true rfl) ⟨by decide, by decide⟩ ⟨by decide, by decide⟩ dX3_harm_2 (fun x1 => ?_)
  have v2 := Kd_0.mp x1
  refine r_iload_n C rfl (lv_at hl 2 rfl) dX3_harm_5 ?_
  refine r_if_lt (tgt := 15) C (by decide) (by omega) dX3_harm_6 (fun c3 => ?_) (fun c3 => ?_)
  · exact r_throw (text := "number of pages out of range") C hst K9 ht9 rfl th_IA (by decide +kernel) (by rw [show ((if ¬ (0 ≤ x ∧ x < F 0) then 1 else if ¬ (0 ≤ y ∧ y ≤ 60) then 2 else 0) : Int) = 2 from (by (repeat' split) <;> omega)]; decide) (by rw [show ((if ¬ (0 ≤ x ∧ x < F 0) then 1 else if ¬ (0 ≤ y ∧ y ≤ 60) then 2 else 0) : Int) = 2 from (by (repeat' split) <;> omega)]; rfl) hl.1 dX3_harm_15 dX3_harm_18 dX3_harm_19 dX3_harm_21 dX3_harm_24 (by decide) (Nat.le_of_ble_eq_true rfl) ⟨by decide, by decide⟩ ⟨by decide, by decide⟩
  · refine r_iload_n C rfl (lv_at hl 2 rfl) dX3_harm_9 ?_
    refine r_bipush C (by decide) dX3_harm_10 ?_
    refine r_icmp_le (tgt := 25) C (by decide) (by omega) (by decide) dX3_harm_12 (fun c4 => ?_) (fun c4 => ?_)
    · refine r_aload_n C rfl (lv_at hl 0 rfl) dX3_harm_25 ?_
      refine r_aload_n C rfl (lv_at hl 0 rfl) dX3_harm_26 ?_
      refine r_get C (ci := 3) (v := .ref (b + 3)) rfl uin3 hb.o 1 (by decide) q_138 rfl rfl dX3_harm_27 ?_
      refine r_iload_n C rfl (lv_at hl 1 rfl) dX3_harm_30 ?_
      refine r_iload_n C rfl (lv_at hl 2 rfl) dX3_harm_31 ?_
      refine r_vHi (rest := []) C (k_X3_growGuess l g b (b + 3) F GU T (by omega) hJ (by omega) x s (by omega) (by omega) (by omega) y k (by omega) (by omega)) s_RX3_199 ⟨hb, hd, hgu⟩ hF (fun q hq => by obtain ⟨h1, h2⟩ := hq; exact ⟨by omega, by omega⟩) (recv C (ci := 3) rfl hb.o) hl.1 rfl ⟨by decide, by decide⟩ rfl (Nat.le_of_ble_eq_true rfl) ⟨by decide, by decide⟩ dX3_harm_32 (fun H5 locs5 h5 ho5 hz5 hF => ?_)
      have ht := ht.kept (ho5 _ (not_dvp (by omega)))
      have hg := hg.kept (ho5 _ (not_dvp (by omega)))
      have hh := hh.kept (ho5 _ (not_dvp (by omega)))
      have hq := hq.kept (ho5 _ (not_dvp (by omega)))
      have hm := hm.kept (fun q h1 h2 => ho5 _ (not_dvp (by omega)))
      have hsl := hsl.kept (ho5 _ (not_dvp (by omega)))
      have hfi := hfi.kept (ho5 _ (not_dvp (by omega)))
      have hbl := hbl.kept (fun q h1 h2 => ho5 _ (not_dvp (by omega)))
      have htr := htr.kept (fun q h1 h2 => ho5 _ (not_dvp (by omega)))
      have hsf := hsf.kept (fun q h1 h2 => ho5 _ (not_dvp (by omega)))
      obtain ⟨hb, hd, hgu⟩ := h5
      have hgb := gN_b F s k 0
      obtain ⟨dlG, hdG, hJG, h0G⟩ := hJ.gr (s := s) (by omega) (by omega) (fun _ _ _ => rfl) (gN F s k 0) (by omega)
      have hSmG : Sm (gF F s (gN F s k 0)) := hJG.S.m (by omega)
      refine r_pop C rfl dX3_harm_35 ?_
      refine r_aload_n C rfl (lv_at hl 0 rfl) dX3_harm_36 ?_
      refine r_get C (ci := 3) (v := .ref (b + 347)) rfl uin3 hb.o 7 (by decide) q_144 rfl rfl dX3_harm_37 ?_
      refine r_vPi (rest := []) C (k_X0_lostByAll l g (b + 347) (gF F s (gN F s k 0)) hSmG) s_RX3_205 hgu (recv C (ci := 0) rfl hgu.o) hl.1 rfl ⟨by decide, by decide⟩ rfl (Nat.le_of_ble_eq_true rfl) ⟨by decide, by decide⟩ dX3_harm_40 ?_
      have b6 := S5_b hSmG 5 (by omega)
      refine r_aload_n C rfl (lv_at hl 0 rfl) dX3_harm_43 ?_
      refine r_get C (ci := 3) (v := .ref (b + 3)) rfl uin3 hb.o 1 (by decide) q_138 rfl rfl dX3_harm_44 ?_
      refine r_vPi (rest := [.int (iI (S5 (gF F s (gN F s k 0)) 5))]) C (k_X0_lostByAll l g (b + 3) F hSm) s_RX3_205 hd (recv C (ci := 0) rfl hd.o) hl.1 rfl ⟨by decide, by decide⟩ rfl (Nat.le_of_ble_eq_true rfl) ⟨by decide, by decide⟩ dX3_harm_47 ?_
      have b7 := S5_b hSm 5 (by omega)
      refine r_isub C dX3_harm_50 ?_
      have hK0 : ((if ¬ (0 ≤ x ∧ x < F 0) then 1 else if ¬ (0 ≤ y ∧ y ≤ 60) then 2 else 0) : Int) = 0 := (by (repeat' split) <;> omega)
      exact r_iretX C rfl rfl (congrArg iI (by rfl)) hF hK0 (by exact ⟨first, G, TR, gF F s (gN F s k 0), hRG, hb, ht, hg, hd, hh, hq, hm, hsl, hfi, hbl, htr, hgu, hsf⟩) (by decide) (by decide) dX3_harm_51
    · exact r_throw (text := "number of pages out of range") C hst K9 ht9 rfl th_IA (by decide +kernel) (by rw [show ((if ¬ (0 ≤ x ∧ x < F 0) then 1 else if ¬ (0 ≤ y ∧ y ≤ 60) then 2 else 0) : Int) = 2 from (by (repeat' split) <;> omega)]; decide) (by rw [show ((if ¬ (0 ≤ x ∧ x < F 0) then 1 else if ¬ (0 ≤ y ∧ y ≤ 60) then 2 else 0) : Int) = 2 from (by (repeat' split) <;> omega)]; rfl) hl.1 dX3_harm_15 dX3_harm_18 dX3_harm_19 dX3_harm_21 dX3_harm_24 (by decide) (Nat.le_of_ble_eq_true rfl) ⟨by decide, by decide⟩ ⟨by decide, by decide⟩

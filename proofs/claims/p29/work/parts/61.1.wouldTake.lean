theorem s_RL_162 : SiteS "LentRoomLaw" 162 yL_call cL_call 5 (some .int) 5 := ⟨⟨q_5148, q_5149, q_29, q_5150⟩, by decide, by decide, by decide +kernel⟩
set_option maxHeartbeats 4000000 in
theorem k_wouldTake (l : Launch) (hst : l.stackTraces = false) (g : Gt) (kt : Kt) (b : Nat) (hkb : kt.1 ≤ b) {ac : Int} {F DIA KEP ISK : Nat → Int} {T : Int} (hI : IVS ac F DIA KEP ISK T) (hT : T ≤ 900000) (s : Nat) (hs : s < 5) (hsn : (s : Int) < F 0) (hne : tk F s ≠ 40) : TM l yL_wouldTake (.code yL_wouldTake cL_wouldTake 3 (some .boolean)) 10 186 82 g kt [.ref b, .int (iI (s : Int))] (DW g b ac F DIA KEP ISK) (pI (needR F s ≠ 5)) (Cdp b) (DW g b ac F DIA KEP ISK) := by
  refine tm_of "LentRoomLaw" (by decide) rfl (Nat.le_of_ble_eq_true rfl) ?_
  intro zp ze zs zm za zb zt zc ls C KZ hP G0 hl
  have hl : lv_has ls 3 [(0, .ref b), (1, .int (iI (s : Int)))] := hl
  have hJ := hI.j
  have hac := hI.acb
  have hn := hJ.n
  have h1 := hI.ev.1
  have hlt := hP.lt
  have hkz : kt.1 ≤ zs.heap.size := by omega
  obtain ⟨p0, hp0, e0⟩ := page_free hJ hT hs hne
  have bF := hJ.S.1
  have hnb := needR_b F s
  have loop : ∀ (w p : Nat), w = p0 - p → p ≤ p0 → (∀ r, r < p → 0 < F (2 + 52 * s + (12 + r))) → ∀ (H : Heap) (locs : List Loc), DW g b ac F DIA KEP ISK H → GT (Cdp b) zs.heap H locs → ∀ ls : Array Slot, lv_has ls 3 [(2, .int (iI (p : Int))), (0, .ref b), (1, .int (iI (s : Int)))] → W zp l ze (rmx 10 186 82) zs zm za zb zt zc H locs (0 + 2 * p + 0) (6 * (0 + 2 * p + 0)) (MQ zb (TQ (pI (needR F s ≠ 5)) (Cdp b) (DW g b ac F DIA KEP ISK)) za zs 82 (6 * 82) (Cdp b)) (F0 zm 2 ls []) := by
    intro w
    induction w with
    | zero =>
      intro p hw hp hall H locs hP G0 ls hl
      have K1 := G0.sk KZ hkz (fun q hq => by have := hq.1; omega)
      have hb := bF (2 + 52 * s + (12 + p)) (by omega)
      have ep : p = p0 := by omega
      subst ep
      refine r_iload_n C rfl (lv_at hl 0 rfl) dL_wouldTake_2 ?_
      refine r_bipush C (by decide) dL_wouldTake_3 ?_
      refine r_icmp_ge (tgt := 45) C (by decide) (by omega) (by decide) dL_wouldTake_5 (fun z9 => absurd z9 (by omega)) (fun z9 => ?_)
      refine r_aload_n C rfl (lv_at hl 1 rfl) dL_wouldTake_8 ?_
      refine r_iconst C dL_wouldTake_9 ?_
      refine r_iload_n C rfl (lv_at hl 2 rfl) dL_wouldTake_10 ?_
      refine r_iload_n C rfl (lv_at hl 0 rfl) dL_wouldTake_11 ?_
      refine r_iconst C dL_wouldTake_12 ?_
      refine r_sT (rest := []) (c9 := 0 + 2 * p + 1) (r := (-1)) C K1 (k_call_5 l hst g kt b 0 ac z0 F DIA KEP ISK T hJ hT (s : Int) (p : Int) (by omega) (by omega) s p (fun _ => by omega) (fun _ => by omega) 0) ((tv_0 (Kd_0.mpr ⟨⟨by omega, by omega⟩, ⟨by omega, by omega⟩⟩)).trans (if_pos e0)) s_RL_162 hP hl.1 rfl ⟨by decide, by decide⟩ rfl (Nat.le_of_ble_eq_true rfl) (by omega) (show 0 + 2 * p + 1 ≤ 82 by omega) (Nat.le_refl _) dL_wouldTake_13 (pc9 := 16) rfl (fun H1 L1 p1 F1 => ?_)
      have G1 := G0.call (fun _ h => h) F1
      have K1 := G1.sk KZ hkz (fun q hq => by have := hq.1; omega)
      have hP1 := rdw p1
      refine r_iconst C dL_wouldTake_16 ?_
      refine r_icmp_ne (tgt := 39) C (by decide) (by decide) (by decide) dL_wouldTake_17 (fun z9 => absurd z9 (by decide)) (fun z9 => ?_)
      refine r_aload_n C rfl (lv_at hl 1 rfl) dL_wouldTake_20 ?_
      refine r_bipush C (by decide) dL_wouldTake_21 ?_
      refine r_iload_n C rfl (lv_at hl 2 rfl) dL_wouldTake_23 ?_
      refine r_iload_n C rfl (lv_at hl 0 rfl) dL_wouldTake_24 ?_
      refine r_iconst C dL_wouldTake_25 ?_
      refine r_sT (rest := []) (c9 := 0 + 2 * p + 2) (r := needR F s) C K1 (k_call_13 l hst g kt b 0 ac z0 F DIA KEP ISK T hJ hT (s : Int) (p : Int) (by omega) (by omega) s p (fun _ => by omega) (fun _ => by omega) 0) ((tv_0 (Kd_0.mpr ⟨⟨by omega, by omega⟩, ⟨by omega, by omega⟩⟩)).trans (if_neg (by omega))) s_RL_162 hP1 hl.1 rfl ⟨by decide, by decide⟩ rfl (Nat.le_of_ble_eq_true rfl) (by omega) (show 0 + 2 * p + 2 ≤ 82 by omega) (Nat.le_refl _) dL_wouldTake_26 (pc9 := 29) rfl (fun H2 L2 p2 F2 => ?_)
      have G2 := G1.call (fun _ h => h) F2
      have K2 := G2.sk KZ hkz (fun q hq => by have := hq.1; omega)
      have hP2 := rdw p2
      refine r_iconst C dL_wouldTake_29 ?_
      refine r_icmp_ge (tgt := 37) C (by decide) (by omega) (by decide) dL_wouldTake_30 (fun z8 => ?_) (fun z8 => ?_)
      · skip
        refine r_iconst C dL_wouldTake_37 ?_
        exact r_tret C rfl (by first | rfl | exact nar_pI _) (by rw [pI_f (by omega)]) G2 hP2 (by omega) (by omega) dL_wouldTake_38
      · skip
        refine r_iconst C dL_wouldTake_33 ?_
        refine r_goto (tgt := 38) C (by decide) dL_wouldTake_34 ?_
        exact r_tret C rfl (by first | rfl | exact nar_pI _) (by rw [pI_t (by omega)]) G2 hP2 (by omega) (by omega) dL_wouldTake_38
    | succ w ih =>
      intro p hw hp hall H locs hP G0 ls hl
      have K1 := G0.sk KZ hkz (fun q hq => by have := hq.1; omega)
      have hb := bF (2 + 52 * s + (12 + p)) (by omega)
      by_cases ez : F (2 + 52 * s + (12 + p)) = 0
      · skip
        refine r_iload_n C rfl (lv_at hl 0 rfl) dL_wouldTake_2 ?_
        refine r_bipush C (by decide) dL_wouldTake_3 ?_
        refine r_icmp_ge (tgt := 45) C (by decide) (by omega) (by decide) dL_wouldTake_5 (fun z9 => absurd z9 (by omega)) (fun z9 => ?_)
        refine r_aload_n C rfl (lv_at hl 1 rfl) dL_wouldTake_8 ?_
        refine r_iconst C dL_wouldTake_9 ?_
        refine r_iload_n C rfl (lv_at hl 2 rfl) dL_wouldTake_10 ?_
        refine r_iload_n C rfl (lv_at hl 0 rfl) dL_wouldTake_11 ?_
        refine r_iconst C dL_wouldTake_12 ?_
        refine r_sT (rest := []) (c9 := 0 + 2 * p + 1) (r := (-1)) C K1 (k_call_5 l hst g kt b 0 ac z0 F DIA KEP ISK T hJ hT (s : Int) (p : Int) (by omega) (by omega) s p (fun _ => by omega) (fun _ => by omega) 0) ((tv_0 (Kd_0.mpr ⟨⟨by omega, by omega⟩, ⟨by omega, by omega⟩⟩)).trans (if_pos ez)) s_RL_162 hP hl.1 rfl ⟨by decide, by decide⟩ rfl (Nat.le_of_ble_eq_true rfl) (by omega) (show 0 + 2 * p + 1 ≤ 82 by omega) (Nat.le_refl _) dL_wouldTake_13 (pc9 := 16) rfl (fun H3 L3 p3 F3 => ?_)
        have G3 := G0.call (fun _ h => h) F3
        have K3 := G3.sk KZ hkz (fun q hq => by have := hq.1; omega)
        have hP3 := rdw p3
        refine r_iconst C dL_wouldTake_16 ?_
        refine r_icmp_ne (tgt := 39) C (by decide) (by decide) (by decide) dL_wouldTake_17 (fun z9 => absurd z9 (by decide)) (fun z9 => ?_)
        refine r_aload_n C rfl (lv_at hl 1 rfl) dL_wouldTake_20 ?_
        refine r_bipush C (by decide) dL_wouldTake_21 ?_
        refine r_iload_n C rfl (lv_at hl 2 rfl) dL_wouldTake_23 ?_
        refine r_iload_n C rfl (lv_at hl 0 rfl) dL_wouldTake_24 ?_
        refine r_iconst C dL_wouldTake_25 ?_
        refine r_sT (rest := []) (c9 := 0 + 2 * p + 2) (r := needR F s) C K3 (k_call_13 l hst g kt b 0 ac z0 F DIA KEP ISK T hJ hT (s : Int) (p : Int) (by omega) (by omega) s p (fun _ => by omega) (fun _ => by omega) 0) ((tv_0 (Kd_0.mpr ⟨⟨by omega, by omega⟩, ⟨by omega, by omega⟩⟩)).trans (if_neg (by omega))) s_RL_162 hP3 hl.1 rfl ⟨by decide, by decide⟩ rfl (Nat.le_of_ble_eq_true rfl) (by omega) (show 0 + 2 * p + 2 ≤ 82 by omega) (Nat.le_refl _) dL_wouldTake_26 (pc9 := 29) rfl (fun H4 L4 p4 F4 => ?_)
        have G4 := G3.call (fun _ h => h) F4
        have K4 := G4.sk KZ hkz (fun q hq => by have := hq.1; omega)
        have hP4 := rdw p4
        refine r_iconst C dL_wouldTake_29 ?_
        refine r_icmp_ge (tgt := 37) C (by decide) (by omega) (by decide) dL_wouldTake_30 (fun z8 => ?_) (fun z8 => ?_)
        · skip
          refine r_iconst C dL_wouldTake_37 ?_
          exact r_tret C rfl (by first | rfl | exact nar_pI _) (by rw [pI_f (by omega)]) G4 hP4 (by omega) (by omega) dL_wouldTake_38
        · skip
          refine r_iconst C dL_wouldTake_33 ?_
          refine r_goto (tgt := 38) C (by decide) dL_wouldTake_34 ?_
          exact r_tret C rfl (by first | rfl | exact nar_pI _) (by rw [pI_t (by omega)]) G4 hP4 (by omega) (by omega) dL_wouldTake_38
      · skip
        refine r_iload_n C rfl (lv_at hl 0 rfl) dL_wouldTake_2 ?_
        refine r_bipush C (by decide) dL_wouldTake_3 ?_
        refine r_icmp_ge (tgt := 45) C (by decide) (by omega) (by decide) dL_wouldTake_5 (fun z9 => absurd z9 (by omega)) (fun z9 => ?_)
        refine r_aload_n C rfl (lv_at hl 1 rfl) dL_wouldTake_8 ?_
        refine r_iconst C dL_wouldTake_9 ?_
        refine r_iload_n C rfl (lv_at hl 2 rfl) dL_wouldTake_10 ?_
        refine r_iload_n C rfl (lv_at hl 0 rfl) dL_wouldTake_11 ?_
        refine r_iconst C dL_wouldTake_12 ?_
        refine r_sT (rest := []) (c9 := 0 + 2 * p + 1) (r := F (2 + 52 * s + (12 + p))) C K1 (k_call_5 l hst g kt b 0 ac z0 F DIA KEP ISK T hJ hT (s : Int) (p : Int) (by omega) (by omega) s p (fun _ => by omega) (fun _ => by omega) 0) ((tv_0 (Kd_0.mpr ⟨⟨by omega, by omega⟩, ⟨by omega, by omega⟩⟩)).trans (if_neg ez)) s_RL_162 hP hl.1 rfl ⟨by decide, by decide⟩ rfl (Nat.le_of_ble_eq_true rfl) (by omega) (show 0 + 2 * p + 1 ≤ 82 by omega) (Nat.le_refl _) dL_wouldTake_13 (pc9 := 16) rfl (fun H5 L5 p5 F5 => ?_)
        have G5 := G0.call (fun _ h => h) F5
        have K5 := G5.sk KZ hkz (fun q hq => by have := hq.1; omega)
        have hP5 := rdw p5
        refine r_iconst C dL_wouldTake_16 ?_
        refine r_icmp_ne (tgt := 39) C (by decide) (by omega) (by decide) dL_wouldTake_17 (fun z9 => ?_) (fun z9 => absurd z9 (by omega))
        refine r_iinc (lv' := [(2, .int (iI ((p : Int) + 1))), (0, .ref b), (1, .int (iI (s : Int)))]) C hl (q := 0) rfl (by decide) rfl dL_wouldTake_39 (fun ls hl => ?_)
        refine r_goto (tgt := 2) C (by decide) dL_wouldTake_42 ?_
        have hne9 : p ≠ p0 := fun e => ez (by rw [e]; exact e0)
        rw [show ((p : Int) + 1) = ((p + 1 : Nat) : Int) by omega] at hl
        exact W.widen (by omega) (by omega) (ih (p + 1) (by omega) (by omega) (fun r hr => by by_cases e : r = p; (rw [e]; omega); exact hall r (by omega)) H5 _ hP5 G5 _ (lv_sub hl [0, 1, 2] rfl))
  refine r_iconst C dL_wouldTake_0 ?_
  refine r_istore_n (lv' := [(2, .int (iI 0)), (0, .ref b), (1, .int (iI (s : Int)))]) C rfl hl (by decide) rfl dL_wouldTake_1 (fun ls hl => ?_)
  exact W.widen (by omega) (by omega) (loop (p0 - 0) 0 rfl (by omega) (fun r hr => absurd hr (Nat.not_lt_zero r)) _ _ hP G0 _ hl)

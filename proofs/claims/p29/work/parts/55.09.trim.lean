set_option maxHeartbeats 4000000 in
theorem k_X3_trim (l : Launch) (hst : l.stackTraces = false) (g : Gt) (kt : Kt) (b : Nat) (sz ac : Int) (TX F DIA KEP ISK : Nat → Int) (T : Int) (hJ : J F z0 T) (hT : T ≤ 900000) (x y : Int) (hx : Rg x) (hy : Rg y) (s k : Nat) (hs : 0 ≤ x → x = (s : Int)) (hk : 0 ≤ y → y = (k : Int)) (hac : 0 ≤ ac ∧ ac ≤ 14) : XM l yX3_trim cX3_trim 3 (some .int) 7 112 2 g kt [.ref b, .int (iI x), .int (iI y)] (CW g b sz ac TX F DIA KEP ISK) (if ¬ ((0 ≤ x ∧ x < F 0) ∧ (0 ≤ y ∧ y < 40)) then 1 else if ¬ (0 < F (2 + 52 * s + (12 + k))) then 2 else 0) [eIB, eIS] (some (.int (iI (tk (trF F s k) s)))) (Cdp b) (CW g b sz (remA ac) TX (trF F s k) (rem DIA F ac) KEP ISK) := by
  refine xm_of "LentRoom" (by decide) rfl (Nat.le_of_ble_eq_true rfl) ?_
  intro zp ze zs zm za zb zt zc ls C K9 ht9 hP hF hl
  obtain ⟨first, G, TR, GU, hRG, hb, ht, hg, hd, hh, hq, hm, hsl, hfi, hbl, htr, hgu, hsf⟩ := hP
  have hac9 := hRG.1
  have hfi9 := hRG.2.1
  have hl : lv_has ls 3 [(0, .ref b), (1, .int (iI x)), (2, .int (iI y))] := hl
  have hS := hJ.S
  have hSm : Sm F := hS.m (by omega)
  have hZ := hJ.Z
  have hn5 := hJ.n
  have hC := hJ.C
  have hG := hJ.G
  have hPgA : ∀ s : Nat, (s : Int) < F 0 → Pg F s := fun s _ => hJ.Pg (fun _ _ _ => rfl)
  refine r_aload_n C rfl (lv_at hl 0 rfl) dX3_trim_0 ?_
  refine r_iload_n C rfl (lv_at hl 1 rfl) dX3_trim_1 ?_
  refine r_iload_n C rfl (lv_at hl 2 rfl) dX3_trim_2 ?_
  refine r_vXn (rest := []) C K9 ht9 (k_X3_needPage l hst g kt b F hSm x y (by omega) (by omega)) s_RX3_135 ⟨hb, hd⟩ (recv C (ci := 3) rfl hb.o) (fun hq9 => by obtain ⟨e9, n9⟩ := Kd_n hq9; have e8 : ((if ¬ ((0 ≤ x ∧ x < F 0) ∧ (0 ≤ y ∧ y < 40)) then 1 else if ¬ (0 < F (2 + 52 * s + (12 + k))) then 2 else 0) : Int) = 1 := (by (repeat' split) <;> omega); (first | rw [e9, e8] | rw [e9]); exact ⟨by decide, rfl⟩) hl.1 rfl ⟨by decide, by decide⟩ rfl (Nat.le_of_ble_eq_true rfl) ⟨by decide, by decide⟩ ⟨by decide, by decide⟩ dX3_trim_3 (fun x1 => ?_)
  have v2 := Kd_0.mp x1
  refine r_aload_n C rfl (lv_at hl 0 rfl) dX3_trim_6 ?_
  refine r_get C (ci := 3) (v := .ref (b + 3)) rfl uin3 hb.o 1 (by decide) q_138 rfl rfl dX3_trim_7 ?_
  refine r_iload_n C rfl (lv_at hl 1 rfl) dX3_trim_10 ?_
  refine r_iload_n C rfl (lv_at hl 2 rfl) dX3_trim_11 ?_
  refine r_vPi (rest := []) C (k_X0_isWritten l g (b + 3) F hSm x y s k (by omega) (by omega) (by omega) (by omega)) s_RX3_139 hd (recv C (ci := 0) rfl hd.o) hl.1 rfl ⟨by decide, by decide⟩ rfl (Nat.le_of_ble_eq_true rfl) ⟨by decide, by decide⟩ dX3_trim_12 ?_
  have b3 := hSm.n
  refine r_ifP_ne (tgt := 28) C (by decide) dX3_trim_15 (fun c4 => ?_) (fun c4 => ?_)
  · refine r_aload_n C rfl (lv_at hl 0 rfl) dX3_trim_28 ?_
    refine r_get C (ci := 3) (v := .ref (b + 23)) rfl uin3 hb.o 2 (by decide) q_139 rfl rfl dX3_trim_29 ?_
    refine r_aload_n C rfl (lv_at hl 0 rfl) dX3_trim_32 ?_
    refine r_get C (ci := 3) (v := .ref (b + 3)) rfl uin3 hb.o 1 (by decide) q_138 rfl rfl dX3_trim_33 ?_
    refine r_vHn (rest := []) C (k_X1_remember l g (b + 23) first ac G (b + 3) F (by omega) (by omega) (by omega)) s_RX3_160 ⟨hh, hq, hm, hd⟩ hF (fun q hq => by obtain ⟨h1, h2⟩ := hq; exact ⟨by omega, by omega⟩) (recv C (ci := 1) rfl hh.o) hl.1 rfl ⟨by decide, by decide⟩ rfl (Nat.le_of_ble_eq_true rfl) ⟨by decide, by decide⟩ dX3_trim_36 (fun H5 locs5 h5 ho5 hz5 hF => ?_)
    have hb := hb.kept (ho5 _ (fun h => by obtain ⟨h1, h2⟩ := h; omega))
    have ht := ht.kept (ho5 _ (fun h => by obtain ⟨h1, h2⟩ := h; omega))
    have hg := hg.kept (ho5 _ (fun h => by obtain ⟨h1, h2⟩ := h; omega))
    have hsl := hsl.kept (ho5 _ (fun h => by obtain ⟨h1, h2⟩ := h; omega))
    have hfi := hfi.kept (ho5 _ (fun h => by obtain ⟨h1, h2⟩ := h; omega))
    have hbl := hbl.kept (fun q h1 h2 => ho5 _ (fun h => by obtain ⟨h1, h2⟩ := h; omega))
    have htr := htr.kept (fun q h1 h2 => ho5 _ (fun h => by obtain ⟨h1, h2⟩ := h; omega))
    have hgu := hgu.kept (fun q h1 h2 => ho5 _ (fun h => by obtain ⟨h1, h2⟩ := h; omega))
    have hsf := hsf.kept (fun q h1 h2 => ho5 _ (fun h => by obtain ⟨h1, h2⟩ := h; omega))
    obtain ⟨hh, hq, hm, hd⟩ := h5
    refine r_aload_n C rfl (lv_at hl 0 rfl) dX3_trim_39 ?_
    refine r_get C (ci := 3) (v := .ref (b + 3)) rfl uin3 hb.o 1 (by decide) q_138 rfl rfl dX3_trim_40 ?_
    refine r_iload_n C rfl (lv_at hl 1 rfl) dX3_trim_43 ?_
    refine r_iload_n C rfl (lv_at hl 2 rfl) dX3_trim_44 ?_
    refine r_vHi (rest := []) C (k_X0_dropPage l g (b + 3) F T hS (by omega) hC x y s k (by omega) (by omega) (by omega) (by omega)) s_RX3_108 hd hF (fun q hq => by obtain ⟨h1, h2⟩ := hq; exact ⟨by omega, by omega⟩) (recv C (ci := 0) rfl hd.o) hl.1 rfl ⟨by decide, by decide⟩ rfl (Nat.le_of_ble_eq_true rfl) ⟨by decide, by decide⟩ dX3_trim_45 (fun H6 locs6 h6 ho6 hz6 hF => ?_)
    have hb := hb.kept (ho6 _ (not_dvp (by omega)))
    have ht := ht.kept (ho6 _ (not_dvp (by omega)))
    have hg := hg.kept (ho6 _ (not_dvp (by omega)))
    have hh := hh.kept (ho6 _ (not_dvp (by omega)))
    have hq := hq.kept (ho6 _ (not_dvp (by omega)))
    have hm := hm.kept (fun q h1 h2 => ho6 _ (not_dvp (by omega)))
    have hsl := hsl.kept (ho6 _ (not_dvp (by omega)))
    have hfi := hfi.kept (ho6 _ (not_dvp (by omega)))
    have hbl := hbl.kept (fun q h1 h2 => ho6 _ (not_dvp (by omega)))
    have htr := htr.kept (fun q h1 h2 => ho6 _ (not_dvp (by omega)))
    have hgu := hgu.kept (fun q h1 h2 => ho6 _ (not_dvp (by omega)))
    have hsf := hsf.kept (fun q h1 h2 => ho6 _ (not_dvp (by omega)))
    have hd := h6
    have hw9 : 0 ≤ x ∧ x < F 0 ∧ 0 ≤ y ∧ y < 40 ∧ 0 < F (2 + 52 * s + (12 + k)) := Decidable.not_not.mp (fun z => by omega)
    rw [if_pos hw9] at hd
    obtain ⟨hJ2, -, -⟩ := hJ.tr (s := s) (p := k) (by omega) (by omega) (by omega) (by omega) hw9.2.2.2.2
    have hSm2 : Sm (trF F s k) := hJ2.S.m (by omega)
    refine r_pop C rfl dX3_trim_48 ?_
    refine r_aload_n C rfl (lv_at hl 0 rfl) dX3_trim_49 ?_
    refine r_get C (ci := 3) (v := .ref (b + 3)) rfl uin3 hb.o 1 (by decide) q_138 rfl rfl dX3_trim_50 ?_
    refine r_iload_n C rfl (lv_at hl 1 rfl) dX3_trim_53 ?_
    refine r_vPi (rest := []) C (k_X0_pagesOf l g (b + 3) (trF F s k) hSm2 x s (by omega) (by omega)) s_RX3_165 hd (recv C (ci := 0) rfl hd.o) hl.1 rfl ⟨by decide, by decide⟩ rfl (Nat.le_of_ble_eq_true rfl) ⟨by decide, by decide⟩ dX3_trim_54 ?_
    have b7 := tk_b hSm2 s (by omega)
    have hK0 : ((if ¬ ((0 ≤ x ∧ x < F 0) ∧ (0 ≤ y ∧ y < 40)) then 1 else if ¬ (0 < F (2 + 52 * s + (12 + k))) then 2 else 0) : Int) = 0 := (by (repeat' split) <;> omega)
    exact r_iretX C rfl rfl (congrArg iI (by rfl)) hF hK0 (by exact ⟨rmFi first ac, rmG G first ac F, TR, GU, (hRG.mem F), hb, ht, hg, hd, hh, hq, hm, hsl, hfi, hbl, htr, hgu, hsf⟩) (by decide) (by decide) dX3_trim_57
  · exact r_throw (text := "the page is not written") C hst K9 ht9 rfl th_IS (by decide +kernel) (by rw [show ((if ¬ ((0 ≤ x ∧ x < F 0) ∧ (0 ≤ y ∧ y < 40)) then 1 else if ¬ (0 < F (2 + 52 * s + (12 + k))) then 2 else 0) : Int) = 2 from (by (repeat' split) <;> omega)]; decide) (by rw [show ((if ¬ ((0 ≤ x ∧ x < F 0) ∧ (0 ≤ y ∧ y < 40)) then 1 else if ¬ (0 < F (2 + 52 * s + (12 + k))) then 2 else 0) : Int) = 2 from (by (repeat' split) <;> omega)]; rfl) hl.1 dX3_trim_18 dX3_trim_21 dX3_trim_22 dX3_trim_24 dX3_trim_27 (by decide) (Nat.le_of_ble_eq_true rfl) ⟨by decide, by decide⟩ ⟨by decide, by decide⟩

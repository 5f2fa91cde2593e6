set_option maxHeartbeats 4000000 in
theorem k_X3_write (l : Launch) (hst : l.stackTraces = false) (g : Gt) (kt : Kt) (b : Nat) (sz ac : Int) (TX F DIA KEP ISK : Nat → Int) (T : Int) (hJ : J F z0 T) (hT : T ≤ 900000) (x y : Int) (hx : Rg x) (hy : Rg y) (s k : Nat) (hs : 0 ≤ x → x = (s : Int)) (hk : 0 ≤ y → y = (k : Int)) (hac : 0 ≤ ac ∧ ac ≤ 14) : XM l yX3_write cX3_write 3 (some .int) 7 117 1 g kt [.ref b, .int (iI x), .int (iI y)] (CW g b sz ac TX F DIA KEP ISK) (Kd ((0 ≤ x ∧ x < F 0) ∧ (0 ≤ y ∧ y < 40))) [eIB] (some (.int (iI (wrR F s k)))) (Cdp b) (CW g b sz (remA ac) TX (wrF F s k) (rem DIA F ac) KEP ISK) := by
  refine xm_of "LentRoom" (by decide) rfl (Nat.le_of_ble_eq_true rfl) ?_
  intro zp ze zs zm za zb zt zc ls C K9 ht9 hP hF hl
  obtain ⟨first, G, TR, GU, hRG, hb, ht, hg, hd, hh, hq, hm, hsl, hfi, hbl, htr, hgu, hsf⟩ := hP
  have hac9 := hRG.1
  have hfi9 := hRG.2.1
  have hl : lv_has ls 3 [(0, .ref b), (1, .int (iI x)), (2, .int (iI y))] := hl
  have hS := hJ.S
  have hSm : Sm F := hS.m (by omega)
  have hZ := hJ.Z
  have hn5 := hJ.n
  have hC := hJ.C
  have hG := hJ.G
  have hPgA : ∀ s : Nat, (s : Int) < F 0 → Pg F s := fun s _ => hJ.Pg (fun _ _ _ => rfl)
  refine r_aload_n C rfl (lv_at hl 0 rfl) dX3_write_0 ?_
  refine r_iload_n C rfl (lv_at hl 1 rfl) dX3_write_1 ?_
  refine r_iload_n C rfl (lv_at hl 2 rfl) dX3_write_2 ?_
  refine r_vXn (rest := []) C K9 ht9 (k_X3_needPage l hst g kt b F hSm x y (by omega) (by omega)) s_RX3_135 ⟨hb, hd⟩ (recv C (ci := 3) rfl hb.o) (fun hq9 => by obtain ⟨e9, n9⟩ := Kd_n hq9; have e8 : ((Kd ((0 ≤ x ∧ x < F 0) ∧ (0 ≤ y ∧ y < 40))) : Int) = 1 := (by exact if_neg (by omega)); (first | rw [e9, e8] | rw [e9]); exact ⟨by decide, rfl⟩) hl.1 rfl ⟨by decide, by decide⟩ rfl (Nat.le_of_ble_eq_true rfl) ⟨by decide, by decide⟩ ⟨by decide, by decide⟩ dX3_write_3 (fun x1 => ?_)
  have v2 := Kd_0.mp x1
  refine r_aload_n C rfl (lv_at hl 0 rfl) dX3_write_6 ?_
  refine r_get C (ci := 3) (v := .ref (b + 23)) rfl uin3 hb.o 2 (by decide) q_139 rfl rfl dX3_write_7 ?_
  refine r_aload_n C rfl (lv_at hl 0 rfl) dX3_write_10 ?_
  refine r_get C (ci := 3) (v := .ref (b + 3)) rfl uin3 hb.o 1 (by decide) q_138 rfl rfl dX3_write_11 ?_
  refine r_vHn (rest := []) C (k_X1_remember l g (b + 23) first ac G (b + 3) F (by omega) (by omega) (by omega)) s_RX3_160 ⟨hh, hq, hm, hd⟩ hF (fun q hq => by obtain ⟨h1, h2⟩ := hq; exact ⟨by omega, by omega⟩) (recv C (ci := 1) rfl hh.o) hl.1 rfl ⟨by decide, by decide⟩ rfl (Nat.le_of_ble_eq_true rfl) ⟨by decide, by decide⟩ dX3_write_14 (fun H3 locs3 h3 ho3 hz3 hF => ?_)
  have hb := hb.kept (ho3 _ (fun h => by obtain ⟨h1, h2⟩ := h; omega))
  have ht := ht.kept (ho3 _ (fun h => by obtain ⟨h1, h2⟩ := h; omega))
  have hg := hg.kept (ho3 _ (fun h => by obtain ⟨h1, h2⟩ := h; omega))
  have hsl := hsl.kept (ho3 _ (fun h => by obtain ⟨h1, h2⟩ := h; omega))
  have hfi := hfi.kept (ho3 _ (fun h => by obtain ⟨h1, h2⟩ := h; omega))
  have hbl := hbl.kept (fun q h1 h2 => ho3 _ (fun h => by obtain ⟨h1, h2⟩ := h; omega))
  have htr := htr.kept (fun q h1 h2 => ho3 _ (fun h => by obtain ⟨h1, h2⟩ := h; omega))
  have hgu := hgu.kept (fun q h1 h2 => ho3 _ (fun h => by obtain ⟨h1, h2⟩ := h; omega))
  have hsf := hsf.kept (fun q h1 h2 => ho3 _ (fun h => by obtain ⟨h1, h2⟩ := h; omega))
  obtain ⟨hh, hq, hm, hd⟩ := h3
  refine r_aload_n C rfl (lv_at hl 0 rfl) dX3_write_17 ?_
  refine r_get C (ci := 3) (v := .ref (b + 3)) rfl uin3 hb.o 1 (by decide) q_138 rfl rfl dX3_write_18 ?_
  refine r_iload_n C rfl (lv_at hl 1 rfl) dX3_write_21 ?_
  refine r_iload_n C rfl (lv_at hl 2 rfl) dX3_write_22 ?_
  refine r_vHi (rest := []) C (k_X0_putPage l g (b + 3) F T hS (by omega) hZ hG hPgA x y s k (by omega) (by omega) (by omega) (by omega)) s_RX3_105 hd hF (fun q hq => by obtain ⟨h1, h2⟩ := hq; exact ⟨by omega, by omega⟩) (recv C (ci := 0) rfl hd.o) hl.1 rfl ⟨by decide, by decide⟩ rfl (Nat.le_of_ble_eq_true rfl) ⟨by decide, by decide⟩ dX3_write_23 (fun H4 locs4 h4 ho4 hz4 hF => ?_)
  have hb := hb.kept (ho4 _ (not_dvp (by omega)))
  have ht := ht.kept (ho4 _ (not_dvp (by omega)))
  have hg := hg.kept (ho4 _ (not_dvp (by omega)))
  have hh := hh.kept (ho4 _ (not_dvp (by omega)))
  have hq := hq.kept (ho4 _ (not_dvp (by omega)))
  have hm := hm.kept (fun q h1 h2 => ho4 _ (not_dvp (by omega)))
  have hsl := hsl.kept (ho4 _ (not_dvp (by omega)))
  have hfi := hfi.kept (ho4 _ (not_dvp (by omega)))
  have hbl := hbl.kept (fun q h1 h2 => ho4 _ (not_dvp (by omega)))
  have htr := htr.kept (fun q h1 h2 => ho4 _ (not_dvp (by omega)))
  have hgu := hgu.kept (fun q h1 h2 => ho4 _ (not_dvp (by omega)))
  have hsf := hsf.kept (fun q h1 h2 => ho4 _ (not_dvp (by omega)))
  have hd := h4
  have hK0 : ((Kd ((0 ≤ x ∧ x < F 0) ∧ (0 ≤ y ∧ y < 40))) : Int) = 0 := (by exact if_pos (by omega))
  rw [if_pos (show 0 ≤ x ∧ x < F 0 ∧ 0 ≤ y ∧ y < 40 by omega)] at hd
  exact r_iretX C rfl rfl (congrArg iI (by rw [if_pos (by omega)])) hF hK0 (by exact ⟨rmFi first ac, rmG G first ac F, TR, GU, (hRG.mem F), hb, ht, hg, hd, hh, hq, hm, hsl, hfi, hbl, htr, hgu, hsf⟩) (by decide) (by decide) dX3_write_26

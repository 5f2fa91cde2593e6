theorem s_RX3_150 : SiteV "LentRoom" 150 "LentRoom$Device" yX0_areBounds cX0_areBounds 3 (some .boolean) 2 := ⟨⟨q_598, q_403, q_404, q_32, q_405⟩, rfl, by decide, by decide, by decide +kernel⟩
theorem s_RX3_155 : SiteV "LentRoom" 155 "LentRoom$Device" yX0_hasRoomForSpace cX0_hasRoomForSpace 2 (some .boolean) 1 := ⟨⟨q_600, q_407, q_408, q_32, q_409⟩, rfl, by decide, by decide, by decide +kernel⟩
theorem s_RX3_160 : SiteV "LentRoom" 160 "LentRoom$History" yX1_remember cX1_remember 2 none 1 := ⟨⟨q_602, q_603, q_604, q_33, q_605⟩, rfl, by decide, by decide, by decide +kernel⟩
set_option maxHeartbeats 4000000 in
theorem k_X3_make (l : Launch) (hst : l.stackTraces = false) (g : Gt) (kt : Kt) (b : Nat) (sz ac : Int) (TX F DIA KEP ISK : Nat → Int) (T : Int) (hJ : J F z0 T) (hT : T ≤ 900000) (x y : Int) (hx : Rg x) (hy : Rg y) (hac : 0 ≤ ac ∧ ac ≤ 14) : XM l yX3_make cX3_make 3 (some .int) 6 90 2 g kt [.ref b, .int (iI x), .int (iI y)] (CW g b sz ac TX F DIA KEP ISK) (whyMk F x y) [eIA, eIS] (some (.int (iI (F 0)))) (Cdp b) (CW g b sz (remA ac) TX (mkF F x y) (rem DIA F ac) KEP ISK) := by
  refine xm_of "LentRoom" (by decide) rfl (Nat.le_of_ble_eq_true rfl) ?_
  intro zp ze zs zm za zb zt zc ls C K9 ht9 hP hF hl
  obtain ⟨first, G, TR, GU, hRG, hb, ht, hg, hd, hh, hq, hm, hsl, hfi, hbl, htr, hgu, hsf⟩ := hP
  have hac9 := hRG.1
  have hfi9 := hRG.2.1
  have hl : lv_has ls 3 [(0, .ref b), (1, .int (iI x)), (2, .int (iI y))] := hl
  have hS := hJ.S
  have hSm : Sm F := hS.m (by omega)
  have hZ := hJ.Z
  have hn5 := hJ.n
  have hC := hJ.C
  have hG := hJ.G
  have hPgA : ∀ s : Nat, (s : Int) < F 0 → Pg F s := fun s _ => hJ.Pg (fun _ _ _ => rfl)
  refine r_aload_n C rfl (lv_at hl 0 rfl) dX3_make_0 ?_
  refine r_get C (ci := 3) (v := .ref (b + 3)) rfl uin3 hb.o 1 (by decide) q_138 rfl rfl dX3_make_1 ?_
  refine r_iload_n C rfl (lv_at hl 1 rfl) dX3_make_4 ?_
  refine r_iload_n C rfl (lv_at hl 2 rfl) dX3_make_5 ?_
  refine r_vPi (rest := []) C (k_X0_areBounds l g (b + 3) F hSm x y (by omega) (by omega)) s_RX3_150 hd (recv C (ci := 0) rfl hd.o) hl.1 rfl ⟨by decide, by decide⟩ rfl (Nat.le_of_ble_eq_true rfl) ⟨by decide, by decide⟩ dX3_make_6 ?_
  refine r_ifP_ne (tgt := 22) C (by decide) dX3_make_9 (fun c1 => ?_) (fun c1 => ?_)
  · refine r_aload_n C rfl (lv_at hl 0 rfl) dX3_make_22 ?_
    refine r_get C (ci := 3) (v := .ref (b + 3)) rfl uin3 hb.o 1 (by decide) q_138 rfl rfl dX3_make_23 ?_
    refine r_iload_n C rfl (lv_at hl 1 rfl) dX3_make_26 ?_
    refine r_vPi (rest := []) C (k_X0_hasRoomForSpace l g (b + 3) F hSm x (by omega)) s_RX3_155 hd (recv C (ci := 0) rfl hd.o) hl.1 rfl ⟨by decide, by decide⟩ rfl (Nat.le_of_ble_eq_true rfl) ⟨by decide, by decide⟩ dX3_make_27 ?_
    refine r_ifP_ne (tgt := 43) C (by decide) dX3_make_30 (fun c2 => ?_) (fun c2 => ?_)
    · have hok : okMk F x y := ⟨by omega, by omega⟩
      refine r_aload_n C rfl (lv_at hl 0 rfl) dX3_make_43 ?_
      refine r_get C (ci := 3) (v := .ref (b + 23)) rfl uin3 hb.o 2 (by decide) q_139 rfl rfl dX3_make_44 ?_
      refine r_aload_n C rfl (lv_at hl 0 rfl) dX3_make_47 ?_
      refine r_get C (ci := 3) (v := .ref (b + 3)) rfl uin3 hb.o 1 (by decide) q_138 rfl rfl dX3_make_48 ?_
      refine r_vHn (rest := []) C (k_X1_remember l g (b + 23) first ac G (b + 3) F (by omega) (by omega) (by omega)) s_RX3_160 ⟨hh, hq, hm, hd⟩ hF (fun q hq => by obtain ⟨h1, h2⟩ := hq; exact ⟨by omega, by omega⟩) (recv C (ci := 1) rfl hh.o) hl.1 rfl ⟨by decide, by decide⟩ rfl (Nat.le_of_ble_eq_true rfl) ⟨by decide, by decide⟩ dX3_make_51 (fun H3 locs3 h3 ho3 hz3 hF => ?_)
      have hb := hb.kept (ho3 _ (fun h => by obtain ⟨h1, h2⟩ := h; omega))
      have ht := ht.kept (ho3 _ (fun h => by obtain ⟨h1, h2⟩ := h; omega))
      have hg := hg.kept (ho3 _ (fun h => by obtain ⟨h1, h2⟩ := h; omega))
      have hsl := hsl.kept (ho3 _ (fun h => by obtain ⟨h1, h2⟩ := h; omega))
      have hfi := hfi.kept (ho3 _ (fun h => by obtain ⟨h1, h2⟩ := h; omega))
      have hbl := hbl.kept (fun q h1 h2 => ho3 _ (fun h => by obtain ⟨h1, h2⟩ := h; omega))
      have htr := htr.kept (fun q h1 h2 => ho3 _ (fun h => by obtain ⟨h1, h2⟩ := h; omega))
      have hgu := hgu.kept (fun q h1 h2 => ho3 _ (fun h => by obtain ⟨h1, h2⟩ := h; omega))
      have hsf := hsf.kept (fun q h1 h2 => ho3 _ (fun h => by obtain ⟨h1, h2⟩ := h; omega))
      obtain ⟨hh, hq, hm, hd⟩ := h3
      refine r_aload_n C rfl (lv_at hl 0 rfl) dX3_make_54 ?_
      refine r_get C (ci := 3) (v := .ref (b + 3)) rfl uin3 hb.o 1 (by decide) q_138 rfl rfl dX3_make_55 ?_
      refine r_iload_n C rfl (lv_at hl 1 rfl) dX3_make_58 ?_
      refine r_iload_n C rfl (lv_at hl 2 rfl) dX3_make_59 ?_
      refine r_vHi (rest := []) C (k_X0_addSpace l g (b + 3) F T hS (by omega) x y (by omega) (by omega)) s_RX3_102 hd hF (fun q hq => by obtain ⟨h1, h2⟩ := hq; exact ⟨by omega, by omega⟩) (recv C (ci := 0) rfl hd.o) hl.1 rfl ⟨by decide, by decide⟩ rfl (Nat.le_of_ble_eq_true rfl) ⟨by decide, by decide⟩ dX3_make_60 (fun H4 locs4 h4 ho4 hz4 hF => ?_)
      have hb := hb.kept (ho4 _ (not_dvp (by omega)))
      have ht := ht.kept (ho4 _ (not_dvp (by omega)))
      have hg := hg.kept (ho4 _ (not_dvp (by omega)))
      have hh := hh.kept (ho4 _ (not_dvp (by omega)))
      have hq := hq.kept (ho4 _ (not_dvp (by omega)))
      have hm := hm.kept (fun q h1 h2 => ho4 _ (not_dvp (by omega)))
      have hsl := hsl.kept (ho4 _ (not_dvp (by omega)))
      have hfi := hfi.kept (ho4 _ (not_dvp (by omega)))
      have hbl := hbl.kept (fun q h1 h2 => ho4 _ (not_dvp (by omega)))
      have htr := htr.kept (fun q h1 h2 => ho4 _ (not_dvp (by omega)))
      have hgu := hgu.kept (fun q h1 h2 => ho4 _ (not_dvp (by omega)))
      have hsf := hsf.kept (fun q h1 h2 => ho4 _ (not_dvp (by omega)))
      have hd := h4
      have hK0 : ((whyMk F x y) : Int) = 0 := (by exact (mk_iff hn5).mpr hok)
      rw [if_pos hok] at hd
      exact r_iretX C rfl rfl (congrArg iI (by rw [if_pos hok])) hF hK0 (by exact ⟨rmFi first ac, rmG G first ac F, TR, GU, (hRG.mem F), hb, ht, hg, hd, hh, hq, hm, hsl, hfi, hbl, htr, hgu, hsf⟩) (by decide) (by decide) dX3_make_63
    · exact r_throw (text := "no more spaces, or too little common room") C hst K9 ht9 rfl th_IS (by decide +kernel) (by rw [show ((whyMk F x y) : Int) = 2 from (by unfold whyMk; (repeat' split) <;> omega)]; decide) (by rw [show ((whyMk F x y) : Int) = 2 from (by unfold whyMk; (repeat' split) <;> omega)]; rfl) hl.1 dX3_make_33 dX3_make_36 dX3_make_37 dX3_make_39 dX3_make_42 (by decide) (Nat.le_of_ble_eq_true rfl) ⟨by decide, by decide⟩ ⟨by decide, by decide⟩
  · exact r_throw (text := "floor or ceiling out of range") C hst K9 ht9 rfl th_IA (by decide +kernel) (by rw [show ((whyMk F x y) : Int) = 1 from (by have hq9 := mt (mk_iff (F := F) hn5 (x := x) (y := y)).mp (fun z => by omega); unfold whyMk; (repeat' split) <;> omega)]; decide) (by rw [show ((whyMk F x y) : Int) = 1 from (by have hq9 := mt (mk_iff (F := F) hn5 (x := x) (y := y)).mp (fun z => by omega); unfold whyMk; (repeat' split) <;> omega)]; rfl) hl.1 dX3_make_12 dX3_make_15 dX3_make_16 dX3_make_18 dX3_make_21 (by decide) (Nat.le_of_ble_eq_true rfl) ⟨by decide, by decide⟩ ⟨by decide, by decide⟩

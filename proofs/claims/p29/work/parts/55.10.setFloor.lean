theorem s_RX3_170 : SiteV "LentRoom" 170 "LentRoom$Device" yX0_takesFloor cX0_takesFloor 3 (some .boolean) 2 := ⟨⟨q_631, q_478, q_479, q_32, q_480⟩, rfl, by decide, by decide, by decide +kernel⟩
set_option maxHeartbeats 4000000 in
theorem k_X3_setFloor (l : Launch) (hst : l.stackTraces = false) (g : Gt) (kt : Kt) (b : Nat) (sz ac : Int) (TX F DIA KEP ISK : Nat → Int) (T : Int) (hJ : J F z0 T) (hT : T ≤ 900000) (x v : Int) (hx : Rg x) (hv : Rg v) (s : Nat) (hs : 0 ≤ x → x = (s : Int)) (hac : 0 ≤ ac ∧ ac ≤ 14) : XM l yX3_setFloor cX3_setFloor 4 (some .int) 7 111 2 g kt [.ref b, .int (iI x), .int (iI v)] (CW g b sz ac TX F DIA KEP ISK) (whyFl F x s v) [eIB, eIA, eIS] (some (.int (iI (F (2 + 52 * s + 0))))) (Cdp b) (CW g b sz (remA ac) TX (up F (2 + 52 * s + 0) v) (rem DIA F ac) KEP ISK) := by
  refine xm_of "LentRoom" (by decide) rfl (Nat.le_of_ble_eq_true rfl) ?_
  intro zp ze zs zm za zb zt zc ls C K9 ht9 hP hF hl
  obtain ⟨first, G, TR, GU, hRG, hb, ht, hg, hd, hh, hq, hm, hsl, hfi, hbl, htr, hgu, hsf⟩ := hP
  have hac9 := hRG.1
  have hfi9 := hRG.2.1
  have hl : lv_has ls 4 [(0, .ref b), (1, .int (iI x)), (2, .int (iI v))] := hl
  have hS := hJ.S
  have hSm : Sm F := hS.m (by omega)
  have hZ := hJ.Z
  have hn5 := hJ.n
  have hC := hJ.C
  have hG := hJ.G
  have hPgA : ∀ s : Nat, (s : Int) < F 0 → Pg F s := fun s _ => hJ.Pg (fun _ _ _ => rfl)
  refine r_aload_n C rfl (lv_at hl 0 rfl) dX3_setFloor_0 ?_
  refine r_iload_n C rfl (lv_at hl 1 rfl) dX3_setFloor_1 ?_
  refine r_vXn (rest := []) C K9 ht9 (k_X3_needSpace l hst g kt b F hSm x (by omega)) s_RX3_121 ⟨hb, hd⟩ (recv C (ci := 3) rfl hb.o) (fun hq9 => by obtain ⟨e9, n9⟩ := Kd_n hq9; have e8 : ((whyFl F x s v) : Int) = 1 := (by unfold whyFl; exact if_pos (by omega)); (first | rw [e9, e8] | rw [e9]); exact ⟨by decide, rfl⟩) hl.1 rfl ⟨by decide, by decide⟩ rfl (Nat.le_of_ble_eq_true rfl) ⟨by decide, by decide⟩ ⟨by decide, by decide⟩ dX3_setFloor_2 (fun x1 => ?_)
  have v2 := Kd_0.mp x1
  refine r_iload_n C rfl (lv_at hl 2 rfl) dX3_setFloor_5 ?_
  refine r_if_lt (tgt := 15) C (by decide) (by omega) dX3_setFloor_6 (fun c3 => ?_) (fun c3 => ?_)
  · exact r_throw (text := "floor out of range") C hst K9 ht9 rfl th_IA (by decide +kernel) (by rw [show ((whyFl F x s v) : Int) = 2 from (by unfold whyFl; (repeat' split) <;> omega)]; decide) (by rw [show ((whyFl F x s v) : Int) = 2 from (by unfold whyFl; (repeat' split) <;> omega)]; rfl) hl.1 dX3_setFloor_15 dX3_setFloor_18 dX3_setFloor_19 dX3_setFloor_21 dX3_setFloor_24 (by decide) (Nat.le_of_ble_eq_true rfl) ⟨by decide, by decide⟩ ⟨by decide, by decide⟩
  · refine r_iload_n C rfl (lv_at hl 2 rfl) dX3_setFloor_9 ?_
    refine r_bipush C (by decide) dX3_setFloor_10 ?_
    refine r_icmp_le (tgt := 25) C (by decide) (by omega) (by decide) dX3_setFloor_12 (fun c4 => ?_) (fun c4 => ?_)
    · refine r_aload_n C rfl (lv_at hl 0 rfl) dX3_setFloor_25 ?_
      refine r_get C (ci := 3) (v := .ref (b + 3)) rfl uin3 hb.o 1 (by decide) q_138 rfl rfl dX3_setFloor_26 ?_
      refine r_iload_n C rfl (lv_at hl 1 rfl) dX3_setFloor_29 ?_
      refine r_iload_n C rfl (lv_at hl 2 rfl) dX3_setFloor_30 ?_
      refine r_vPi (rest := []) C (k_X0_takesFloor l g (b + 3) F hSm x v s (by omega) (by omega) (by omega)) s_RX3_170 hd (recv C (ci := 0) rfl hd.o) hl.1 rfl ⟨by decide, by decide⟩ rfl (Nat.le_of_ble_eq_true rfl) ⟨by decide, by decide⟩ dX3_setFloor_31 ?_
      have b5 := hSm.n
      refine r_ifP_ne (tgt := 47) C (by decide) dX3_setFloor_34 (fun c6 => ?_) (fun c6 => ?_)
      · have hok := c6
        refine r_aload_n C rfl (lv_at hl 0 rfl) dX3_setFloor_47 ?_
        refine r_get C (ci := 3) (v := .ref (b + 23)) rfl uin3 hb.o 2 (by decide) q_139 rfl rfl dX3_setFloor_48 ?_
        refine r_aload_n C rfl (lv_at hl 0 rfl) dX3_setFloor_51 ?_
        refine r_get C (ci := 3) (v := .ref (b + 3)) rfl uin3 hb.o 1 (by decide) q_138 rfl rfl dX3_setFloor_52 ?_
        refine r_vHn (rest := []) C (k_X1_remember l g (b + 23) first ac G (b + 3) F (by omega) (by omega) (by omega)) s_RX3_160 ⟨hh, hq, hm, hd⟩ hF (fun q hq => by obtain ⟨h1, h2⟩ := hq; exact ⟨by omega, by omega⟩) (recv C (ci := 1) rfl hh.o) hl.1 rfl ⟨by decide, by decide⟩ rfl (Nat.le_of_ble_eq_true rfl) ⟨by decide, by decide⟩ dX3_setFloor_55 (fun H7 locs7 h7 ho7 hz7 hF => ?_)
        have hb := hb.kept (ho7 _ (fun h => by obtain ⟨h1, h2⟩ := h; omega))
        have ht := ht.kept (ho7 _ (fun h => by obtain ⟨h1, h2⟩ := h; omega))
        have hg := hg.kept (ho7 _ (fun h => by obtain ⟨h1, h2⟩ := h; omega))
        have hsl := hsl.kept (ho7 _ (fun h => by obtain ⟨h1, h2⟩ := h; omega))
        have hfi := hfi.kept (ho7 _ (fun h => by obtain ⟨h1, h2⟩ := h; omega))
        have hbl := hbl.kept (fun q h1 h2 => ho7 _ (fun h => by obtain ⟨h1, h2⟩ := h; omega))
        have htr := htr.kept (fun q h1 h2 => ho7 _ (fun h => by obtain ⟨h1, h2⟩ := h; omega))
        have hgu := hgu.kept (fun q h1 h2 => ho7 _ (fun h => by obtain ⟨h1, h2⟩ := h; omega))
        have hsf := hsf.kept (fun q h1 h2 => ho7 _ (fun h => by obtain ⟨h1, h2⟩ := h; omega))
        obtain ⟨hh, hq, hm, hd⟩ := h7
        refine r_aload_n C rfl (lv_at hl 0 rfl) dX3_setFloor_58 ?_
        refine r_get C (ci := 3) (v := .ref (b + 3)) rfl uin3 hb.o 1 (by decide) q_138 rfl rfl dX3_setFloor_59 ?_
        refine r_get C (ci := 0) (v := .ref (b + 3 + 1)) rfl uin0 hd.o 2 (by decide) q_82 rfl rfl dX3_setFloor_62 ?_
        refine r_iload_n C rfl (lv_at hl 1 rfl) dX3_setFloor_65 ?_
        refine r_iald (v := F (2 + 52 * s + 0)) C hd.c0 s (by omega) (by omega) (by omega) rfl dX3_setFloor_66 ?_
        have b8 := hSm.1 (2 + 52 * s + 0) (by omega)
        refine r_istore_n (lv' := [(3, .int (iI (F (2 + 52 * s + 0)))), (0, .ref b), (1, .int (iI x)), (2, .int (iI v))]) C rfl hl (by decide) rfl dX3_setFloor_67 (fun ls hl => ?_)
        refine r_aload_n C rfl (lv_at hl 1 rfl) dX3_setFloor_68 ?_
        refine r_get C (ci := 3) (v := .ref (b + 3)) rfl uin3 hb.o 1 (by decide) q_138 rfl rfl dX3_setFloor_69 ?_
        refine r_iload_n C rfl (lv_at hl 2 rfl) dX3_setFloor_72 ?_
        refine r_iload_n C rfl (lv_at hl 3 rfl) dX3_setFloor_73 ?_
        refine r_vHi (rest := []) C (k_X0_changeFloor l g (b + 3) F T hS (by omega) x v s (by omega) (by omega) (by omega)) s_RX3_112 hd hF (fun q hq => by obtain ⟨h1, h2⟩ := hq; exact ⟨by omega, by omega⟩) (recv C (ci := 0) rfl hd.o) hl.1 rfl ⟨by decide, by decide⟩ rfl (Nat.le_of_ble_eq_true rfl) ⟨by decide, by decide⟩ dX3_setFloor_74 (fun H9 locs9 h9 ho9 hz9 hF => ?_)
        have hb := hb.kept (ho9 _ (not_dvp (by omega)))
        have ht := ht.kept (ho9 _ (not_dvp (by omega)))
        have hg := hg.kept (ho9 _ (not_dvp (by omega)))
        have hh := hh.kept (ho9 _ (not_dvp (by omega)))
        have hq := hq.kept (ho9 _ (not_dvp (by omega)))
        have hm := hm.kept (fun q h1 h2 => ho9 _ (not_dvp (by omega)))
        have hsl := hsl.kept (ho9 _ (not_dvp (by omega)))
        have hfi := hfi.kept (ho9 _ (not_dvp (by omega)))
        have hbl := hbl.kept (fun q h1 h2 => ho9 _ (not_dvp (by omega)))
        have htr := htr.kept (fun q h1 h2 => ho9 _ (not_dvp (by omega)))
        have hgu := hgu.kept (fun q h1 h2 => ho9 _ (not_dvp (by omega)))
        have hsf := hsf.kept (fun q h1 h2 => ho9 _ (not_dvp (by omega)))
        have hd := h9
        refine r_pop C rfl dX3_setFloor_77 ?_
        refine r_iload_n C rfl (lv_at hl 0 rfl) dX3_setFloor_78 ?_
        have hK0 : ((whyFl F x s v) : Int) = 0 := (by exact (fl_iff (by omega)).mpr hok)
        rw [if_pos hok] at hd
        exact r_iretX C rfl rfl (congrArg iI (by rfl)) hF hK0 (by exact ⟨rmFi first ac, rmG G first ac F, TR, GU, (hRG.mem F), hb, ht, hg, hd, hh, hq, hm, hsl, hfi, hbl, htr, hgu, hsf⟩) (by decide) (by decide) dX3_setFloor_79
      · exact r_throw (text := "the floor is not possible") C hst K9 ht9 rfl th_IS (by decide +kernel) (by rw [show ((whyFl F x s v) : Int) = 3 from (by have hq9 := mt (fl_iff (F := F) (x := x) (s := s) (v := v) (by omega)).mp (by assumption); unfold whyFl at hq9 ⊢; (repeat' split at hq9) <;> (repeat' split) <;> omega)]; decide) (by rw [show ((whyFl F x s v) : Int) = 3 from (by have hq9 := mt (fl_iff (F := F) (x := x) (s := s) (v := v) (by omega)).mp (by assumption); unfold whyFl at hq9 ⊢; (repeat' split at hq9) <;> (repeat' split) <;> omega)]; rfl) hl.1 dX3_setFloor_37 dX3_setFloor_40 dX3_setFloor_41 dX3_setFloor_43 dX3_setFloor_46 (by decide) (Nat.le_of_ble_eq_true rfl) ⟨by decide, by decide⟩ ⟨by decide, by decide⟩
    · exact r_throw (text := "floor out of range") C hst K9 ht9 rfl th_IA (by decide +kernel) (by rw [show ((whyFl F x s v) : Int) = 2 from (by unfold whyFl; (repeat' split) <;> omega)]; decide) (by rw [show ((whyFl F x s v) : Int) = 2 from (by unfold whyFl; (repeat' split) <;> omega)]; rfl) hl.1 dX3_setFloor_15 dX3_setFloor_18 dX3_setFloor_19 dX3_setFloor_21 dX3_setFloor_24 (by decide) (Nat.le_of_ble_eq_true rfl) ⟨by decide, by decide⟩ ⟨by decide, by decide⟩

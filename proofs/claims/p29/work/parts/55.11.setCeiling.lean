theorem s_RX3_179 : SiteV "LentRoom" 179 "LentRoom$Device" yX0_takesCeiling cX0_takesCeiling 3 (some .boolean) 2 := ⟨⟨q_640, q_641, q_642, q_32, q_643⟩, rfl, by decide, by decide, by decide +kernel⟩
set_option maxHeartbeats 4000000 in
theorem k_X3_setCeiling (l : Launch) (hst : l.stackTraces = false) (g : Gt) (kt : Kt) (b : Nat) (sz ac : Int) (TX F DIA KEP ISK : Nat → Int) (T : Int) (hJ : J F z0 T) (hT : T ≤ 900000) (x v : Int) (hx : Rg x) (hv : Rg v) (s : Nat) (hs : 0 ≤ x → x = (s : Int)) (hac : 0 ≤ ac ∧ ac ≤ 14) : XM l yX3_setCeiling cX3_setCeiling 4 (some .int) 7 111 2 g kt [.ref b, .int (iI x), .int (iI v)] (CW g b sz ac TX F DIA KEP ISK) (whyCe F x s v) [eIB, eIA] (some (.int (iI (F (2 + 52 * s + 1))))) (Cdp b) (CW g b sz (remA ac) TX (up F (2 + 52 * s + 1) v) (rem DIA F ac) KEP ISK) := by
  refine xm_of "LentRoom" (by decide) rfl (Nat.le_of_ble_eq_true rfl) ?_
  intro zp ze zs zm za zb zt zc ls C K9 ht9 hP hF hl
  obtain ⟨first, G, TR, GU, hRG, hb, ht, hg, hd, hh, hq, hm, hsl, hfi, hbl, htr, hgu, hsf⟩ := hP
  have hac9 := hRG.1
  have hfi9 := hRG.2.1
  have hl : lv_has ls 4 [(0, .ref b), (1, .int (iI x)), (2, .int (iI v))] := hl
  have hS := hJ.S
  have hSm : Sm F := hS.m (by omega)
  have hZ := hJ.Z
  have hn5 := hJ.n
  have hC := hJ.C
  have hG := hJ.G
  have hPgA : ∀ s : Nat, (s : Int) < F 0 → Pg F s := fun s _ => hJ.Pg (fun _ _ _ => rfl)
  refine r_aload_n C rfl (lv_at hl 0 rfl) dX3_setCeiling_0 ?_
  refine r_iload_n C rfl (lv_at hl 1 rfl) dX3_setCeiling_1 ?_
  refine r_vXn (rest := []) C K9 ht9 (k_X3_needSpace l hst g kt b F hSm x (by omega)) s_RX3_121 ⟨hb, hd⟩ (recv C (ci := 3) rfl hb.o) (fun hq9 => by obtain ⟨e9, n9⟩ := Kd_n hq9; have e8 : ((whyCe F x s v) : Int) = 1 := (by unfold whyCe; exact if_pos (by omega)); (first | rw [e9, e8] | rw [e9]); exact ⟨by decide, rfl⟩) hl.1 rfl ⟨by decide, by decide⟩ rfl (Nat.le_of_ble_eq_true rfl) ⟨by decide, by decide⟩ ⟨by decide, by decide⟩ dX3_setCeiling_2 (fun x1 => ?_)
  have v2 := Kd_0.mp x1
  refine r_aload_n C rfl (lv_at hl 0 rfl) dX3_setCeiling_5 ?_
  refine r_get C (ci := 3) (v := .ref (b + 3)) rfl uin3 hb.o 1 (by decide) q_138 rfl rfl dX3_setCeiling_6 ?_
  refine r_iload_n C rfl (lv_at hl 1 rfl) dX3_setCeiling_9 ?_
  refine r_iload_n C rfl (lv_at hl 2 rfl) dX3_setCeiling_10 ?_
  refine r_vPi (rest := []) C (k_X0_takesCeiling l g (b + 3) F hSm x v s (by omega) (by omega) (by omega)) s_RX3_179 hd (recv C (ci := 0) rfl hd.o) hl.1 rfl ⟨by decide, by decide⟩ rfl (Nat.le_of_ble_eq_true rfl) ⟨by decide, by decide⟩ dX3_setCeiling_11 ?_
  have b3 := hSm.n
  refine r_ifP_ne (tgt := 27) C (by decide) dX3_setCeiling_14 (fun c4 => ?_) (fun c4 => ?_)
  · have hok := c4
    refine r_aload_n C rfl (lv_at hl 0 rfl) dX3_setCeiling_27 ?_
    refine r_get C (ci := 3) (v := .ref (b + 23)) rfl uin3 hb.o 2 (by decide) q_139 rfl rfl dX3_setCeiling_28 ?_
    refine r_aload_n C rfl (lv_at hl 0 rfl) dX3_setCeiling_31 ?_
    refine r_get C (ci := 3) (v := .ref (b + 3)) rfl uin3 hb.o 1 (by decide) q_138 rfl rfl dX3_setCeiling_32 ?_
    refine r_vHn (rest := []) C (k_X1_remember l g (b + 23) first ac G (b + 3) F (by omega) (by omega) (by omega)) s_RX3_160 ⟨hh, hq, hm, hd⟩ hF (fun q hq => by obtain ⟨h1, h2⟩ := hq; exact ⟨by omega, by omega⟩) (recv C (ci := 1) rfl hh.o) hl.1 rfl ⟨by decide, by decide⟩ rfl (Nat.le_of_ble_eq_true rfl) ⟨by decide, by decide⟩ dX3_setCeiling_35 (fun H5 locs5 h5 ho5 hz5 hF => ?_)
    have hb := hb.kept (ho5 _ (fun h => by obtain ⟨h1, h2⟩ := h; omega))
    have ht := ht.kept (ho5 _ (fun h => by obtain ⟨h1, h2⟩ := h; omega))
    have hg := hg.kept (ho5 _ (fun h => by obtain ⟨h1, h2⟩ := h; omega))
    have hsl := hsl.kept (ho5 _ (fun h => by obtain ⟨h1, h2⟩ := h; omega))
    have hfi := hfi.kept (ho5 _ (fun h => by obtain ⟨h1, h2⟩ := h; omega))
    have hbl := hbl.kept (fun q h1 h2 => ho5 _ (fun h => by obtain ⟨h1, h2⟩ := h; omega))
    have htr := htr.kept (fun q h1 h2 => ho5 _ (fun h => by obtain ⟨h1, h2⟩ := h; omega))
    have hgu := hgu.kept (fun q h1 h2 => ho5 _ (fun h => by obtain ⟨h1, h2⟩ := h; omega))
    have hsf := hsf.kept (fun q h1 h2 => ho5 _ (fun h => by obtain ⟨h1, h2⟩ := h; omega))
    obtain ⟨hh, hq, hm, hd⟩ := h5
    refine r_aload_n C rfl (lv_at hl 0 rfl) dX3_setCeiling_38 ?_
    refine r_get C (ci := 3) (v := .ref (b + 3)) rfl uin3 hb.o 1 (by decide) q_138 rfl rfl dX3_setCeiling_39 ?_
    refine r_get C (ci := 0) (v := .ref (b + 3 + 2)) rfl uin0 hd.o 3 (by decide) q_84 rfl rfl dX3_setCeiling_42 ?_
    refine r_iload_n C rfl (lv_at hl 1 rfl) dX3_setCeiling_45 ?_
    refine r_iald (v := F (2 + 52 * s + 1)) C hd.c1 s (by omega) (by omega) (by omega) rfl dX3_setCeiling_46 ?_
    have b6 := hSm.1 (2 + 52 * s + 1) (by omega)
    refine r_istore_n (lv' := [(3, .int (iI (F (2 + 52 * s + 1)))), (0, .ref b), (1, .int (iI x)), (2, .int (iI v))]) C rfl hl (by decide) rfl dX3_setCeiling_47 (fun ls hl => ?_)
    refine r_aload_n C rfl (lv_at hl 1 rfl) dX3_setCeiling_48 ?_
    refine r_get C (ci := 3) (v := .ref (b + 3)) rfl uin3 hb.o 1 (by decide) q_138 rfl rfl dX3_setCeiling_49 ?_
    refine r_iload_n C rfl (lv_at hl 2 rfl) dX3_setCeiling_52 ?_
    refine r_iload_n C rfl (lv_at hl 3 rfl) dX3_setCeiling_53 ?_
    refine r_vHi (rest := []) C (k_X0_changeCeiling l g (b + 3) F T hS (by omega) x v s (by omega) (by omega) (by omega)) s_RX3_187 hd hF (fun q hq => by obtain ⟨h1, h2⟩ := hq; exact ⟨by omega, by omega⟩) (recv C (ci := 0) rfl hd.o) hl.1 rfl ⟨by decide, by decide⟩ rfl (Nat.le_of_ble_eq_true rfl) ⟨by decide, by decide⟩ dX3_setCeiling_54 (fun H7 locs7 h7 ho7 hz7 hF => ?_)
    have hb := hb.kept (ho7 _ (not_dvp (by omega)))
    have ht := ht.kept (ho7 _ (not_dvp (by omega)))
    have hg := hg.kept (ho7 _ (not_dvp (by omega)))
    have hh := hh.kept (ho7 _ (not_dvp (by omega)))
    have hq := hq.kept (ho7 _ (not_dvp (by omega)))
    have hm := hm.kept (fun q h1 h2 => ho7 _ (not_dvp (by omega)))
    have hsl := hsl.kept (ho7 _ (not_dvp (by omega)))
    have hfi := hfi.kept (ho7 _ (not_dvp (by omega)))
    have hbl := hbl.kept (fun q h1 h2 => ho7 _ (not_dvp (by omega)))
    have htr := htr.kept (fun q h1 h2 => ho7 _ (not_dvp (by omega)))
    have hgu := hgu.kept (fun q h1 h2 => ho7 _ (not_dvp (by omega)))
    have hsf := hsf.kept (fun q h1 h2 => ho7 _ (not_dvp (by omega)))
    have hd := h7
    refine r_pop C rfl dX3_setCeiling_57 ?_
    refine r_iload_n C rfl (lv_at hl 0 rfl) dX3_setCeiling_58 ?_
    have hK0 : ((whyCe F x s v) : Int) = 0 := (by exact ce_iff.mpr hok)
    rw [if_pos hok] at hd
    exact r_iretX C rfl rfl (congrArg iI (by rfl)) hF hK0 (by exact ⟨rmFi first ac, rmG G first ac F, TR, GU, (hRG.mem F), hb, ht, hg, hd, hh, hq, hm, hsl, hfi, hbl, htr, hgu, hsf⟩) (by decide) (by decide) dX3_setCeiling_59
  · exact r_throw (text := "ceiling out of range, or less than the floor") C hst K9 ht9 rfl th_IA (by decide +kernel) (by rw [show ((whyCe F x s v) : Int) = 2 from (by have hq9 := mt (ce_iff (F := F) (x := x) (s := s) (v := v)).mp (by assumption); unfold whyCe at hq9 ⊢; (repeat' split at hq9) <;> (repeat' split) <;> omega)]; decide) (by rw [show ((whyCe F x s v) : Int) = 2 from (by have hq9 := mt (ce_iff (F := F) (x := x) (s := s) (v := v)).mp (by assumption); unfold whyCe at hq9 ⊢; (repeat' split at hq9) <;> (repeat' split) <;> omega)]; rfl) hl.1 dX3_setCeiling_17 dX3_setCeiling_20 dX3_setCeiling_21 dX3_setCeiling_23 dX3_setCeiling_26 (by decide) (Nat.le_of_ble_eq_true rfl) ⟨by decide, by decide⟩ ⟨by decide, by decide⟩

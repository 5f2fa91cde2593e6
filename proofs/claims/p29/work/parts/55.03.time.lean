theorem s_RX3_135 : SiteV "LentRoom" 135 "LentRoom" yX3_needPage cX3_needPage 3 none 2 := ⟨⟨q_572, q_574, q_10, q_30, q_575⟩, rfl, by decide, by decide, by decide +kernel⟩
theorem s_RX3_139 : SiteV "LentRoom" 139 "LentRoom$Device" yX0_isWritten cX0_isWritten 3 (some .boolean) 2 := ⟨⟨q_578, q_430, q_431, q_32, q_432⟩, rfl, by decide, by decide, by decide +kernel⟩
set_option maxHeartbeats 4000000 in
theorem k_X3_time (l : Launch) (hst : l.stackTraces = false) (g : Gt) (kt : Kt) (b : Nat) (sz ac : Int) (TX F DIA KEP ISK : Nat → Int) (T : Int) (hJ : J F z0 T) (hT : T ≤ 900000) (x y : Int) (hx : Rg x) (hy : Rg y) (s k : Nat) (hs : 0 ≤ x → x = (s : Int)) (hk : 0 ≤ y → y = (k : Int)) : XM l yX3_time cX3_time 3 (some .int) 7 112 1 g kt [.ref b, .int (iI x), .int (iI y)] (CW g b sz ac TX F DIA KEP ISK) (Kd ((0 ≤ x ∧ x < F 0) ∧ (0 ≤ y ∧ y < 40))) [eIB] (some (.int (iI (if F (2 + 52 * s + (12 + k)) = 0 then -1 else F (2 + 52 * s + (12 + k)))))) (Cdp b) (CW g b sz ac TX F DIA KEP ISK) := by
  refine xm_of "LentRoom" (by decide) rfl (Nat.le_of_ble_eq_true rfl) ?_
  intro zp ze zs zm za zb zt zc ls C K9 ht9 hP hF hl
  obtain ⟨first, G, TR, GU, hRG, hb, ht, hg, hd, hh, hq, hm, hsl, hfi, hbl, htr, hgu, hsf⟩ := hP
  have hac9 := hRG.1
  have hfi9 := hRG.2.1
  have hl : lv_has ls 3 [(0, .ref b), (1, .int (iI x)), (2, .int (iI y))] := hl
  have hS := hJ.S
  have hSm : Sm F := hS.m (by omega)
  have hZ := hJ.Z
  have hn5 := hJ.n
  have hC := hJ.C
  have hG := hJ.G
  have hPgA : ∀ s : Nat, (s : Int) < F 0 → Pg F s := fun s _ => hJ.Pg (fun _ _ _ => rfl)
  refine r_aload_n C rfl (lv_at hl 0 rfl) dX3_time_0 ?_
  refine r_iload_n C rfl (lv_at hl 1 rfl) dX3_time_1 ?_
  refine r_iload_n C rfl (lv_at hl 2 rfl) dX3_time_2 ?_
  refine r_vXn (rest := []) C K9 ht9 (k_X3_needPage l hst g kt b F hSm x y (by omega) (by omega)) s_RX3_135 ⟨hb, hd⟩ (recv C (ci := 3) rfl hb.o) (fun hq9 => by obtain ⟨e9, n9⟩ := Kd_n hq9; have e8 : ((Kd ((0 ≤ x ∧ x < F 0) ∧ (0 ≤ y ∧ y < 40))) : Int) = 1 := (by exact if_neg (by omega)); (first | rw [e9, e8] | rw [e9]); exact ⟨by decide, rfl⟩) hl.1 rfl ⟨by decide, by decide⟩ rfl (Nat.le_of_ble_eq_true rfl) ⟨by decide, by decide⟩ ⟨by decide, by decide⟩ dX3_time_3 (fun x1 => ?_)
  have v2 := Kd_0.mp x1
  refine r_aload_n C rfl (lv_at hl 0 rfl) dX3_time_6 ?_
  refine r_get C (ci := 3) (v := .ref (b + 3)) rfl uin3 hb.o 1 (by decide) q_138 rfl rfl dX3_time_7 ?_
  refine r_iload_n C rfl (lv_at hl 1 rfl) dX3_time_10 ?_
  refine r_iload_n C rfl (lv_at hl 2 rfl) dX3_time_11 ?_
  refine r_vPi (rest := []) C (k_X0_isWritten l g (b + 3) F hSm x y s k (by omega) (by omega) (by omega) (by omega)) s_RX3_139 hd (recv C (ci := 0) rfl hd.o) hl.1 rfl ⟨by decide, by decide⟩ rfl (Nat.le_of_ble_eq_true rfl) ⟨by decide, by decide⟩ dX3_time_12 ?_
  have b3 := hSm.n
  refine r_ifP_eq (tgt := 32) C (by decide) dX3_time_15 (fun c4 => ?_) (fun c4 => ?_)
  · refine r_iconst C dX3_time_32 ?_
    have hK0 : ((Kd ((0 ≤ x ∧ x < F 0) ∧ (0 ≤ y ∧ y < 40))) : Int) = 0 := (by exact if_pos (by omega))
    have hF9 := hSm.f s (12 + k) (by omega) (by omega)
    exact r_iretX C rfl rfl (congrArg iI (by rw [if_pos (by omega)])) hF hK0 (by exact ⟨first, G, TR, GU, hRG, hb, ht, hg, hd, hh, hq, hm, hsl, hfi, hbl, htr, hgu, hsf⟩) (by decide) (by decide) dX3_time_33
  · refine r_aload_n C rfl (lv_at hl 0 rfl) dX3_time_18 ?_
    refine r_get C (ci := 3) (v := .ref (b + 3)) rfl uin3 hb.o 1 (by decide) q_138 rfl rfl dX3_time_19 ?_
    refine r_get C (ci := 0) (v := .ref (b + 3 + 11)) rfl uin0 hd.o 7 (by decide) q_90 rfl rfl dX3_time_22 ?_
    refine r_iload_n C rfl (lv_at hl 1 rfl) dX3_time_25 ?_
    refine r_aaldr (v := b + 3 + 12 + s) C hd.rw s (by omega) (by omega) (by omega) rfl dX3_time_26 ?_
    refine r_iload_n C rfl (lv_at hl 2 rfl) dX3_time_27 ?_
    refine r_iald (v := F (2 + 52 * s + (12 + k))) C (hd.w s (by omega)) k (by omega) (by omega) (by omega) rfl dX3_time_28 ?_
    have b5 := hSm.1 (2 + 52 * s + (12 + k)) (by omega)
    refine r_goto (tgt := 33) C (by decide) dX3_time_29 ?_
    have hK0 : ((Kd ((0 ≤ x ∧ x < F 0) ∧ (0 ≤ y ∧ y < 40))) : Int) = 0 := (by exact if_pos (by omega))
    have hF9 := hSm.f s (12 + k) (by omega) (by omega)
    exact r_iretX C rfl rfl (congrArg iI (by rw [if_neg (by omega)])) hF hK0 (by exact ⟨first, G, TR, GU, hRG, hb, ht, hg, hd, hh, hq, hm, hsl, hfi, hbl, htr, hgu, hsf⟩) (by decide) (by decide) dX3_time_33

theorem s_RX3_273 : SiteV "LentRoom" 273 "LentRoom$Device" yX0_hasPage cX0_hasPage 3 (some .boolean) 2 := ⟨⟨q_576, q_422, q_423, q_32, q_424⟩, rfl, by decide, by decide, by decide +kernel⟩
set_option maxHeartbeats 4000000 in
theorem k_X3_needPage (l : Launch) (hst : l.stackTraces = false) (g : Gt) (kt : Kt) (b : Nat) (F : Nat → Int) (hSm : Sm F) (x p : Int) (hx : Rg x) (hp : Rg p) : XP l yX3_needPage cX3_needPage 3 none 6 90 1 g kt [.ref b, .int (iI x), .int (iI p)] (fun H => lrAt g b H ∧ dvAt g (b + 3) F H) (Kd ((0 ≤ x ∧ x < F 0) ∧ (0 ≤ p ∧ p < 40))) [eIB] (none) := by
  refine xp_of "LentRoom" (by decide) rfl (Nat.le_of_ble_eq_true rfl) ?_
  intro zp ze zs zm za zb zt zc ls C K9 ht9 hP hl
  obtain ⟨hb, hd⟩ := hP
  have hl : lv_has ls 3 [(0, .ref b), (1, .int (iI x)), (2, .int (iI p))] := hl
  refine r_aload_n C rfl (lv_at hl 0 rfl) dX3_needPage_0 ?_
  refine r_get C (ci := 3) (v := .ref (b + 3)) rfl uin3 hb.o 1 (by decide) q_138 rfl rfl dX3_needPage_1 ?_
  refine r_iload_n C rfl (lv_at hl 1 rfl) dX3_needPage_4 ?_
  refine r_iload_n C rfl (lv_at hl 2 rfl) dX3_needPage_5 ?_
  refine r_vPi (rest := []) C (k_X0_hasPage l g (b + 3) F hSm x p (by omega) (by omega)) s_RX3_273 hd (recv C (ci := 0) rfl hd.o) hl.1 rfl ⟨by decide, by decide⟩ rfl (Nat.le_of_ble_eq_true rfl) ⟨by decide, by decide⟩ dX3_needPage_6 ?_
  have b1 := hSm.n
  refine r_ifP_ne (tgt := 23) C (by decide) dX3_needPage_9 (fun c2 => ?_) (fun c2 => ?_)
  · exact r_vretXP C rfl (by exact if_pos (by omega)) (by decide) (by decide) dX3_needPage_23
  · exact r_throwW (text := "no such space or page") C hst K9 ht9 rfl th_IB (by decide +kernel) (by rw [show (Kd ((0 ≤ x ∧ x < F 0) ∧ (0 ≤ p ∧ p < 40))) = 1 from if_neg (by omega)]; decide) (by rw [show (Kd ((0 ≤ x ∧ x < F 0) ∧ (0 ≤ p ∧ p < 40))) = 1 from if_neg (by omega)]; rfl) hl.1 dX3_needPage_12 dX3_needPage_15 dX3_needPage_16 dX3_needPage_19 dX3_needPage_22 (by decide) (Nat.le_of_ble_eq_true rfl) ⟨by decide, by decide⟩ ⟨by decide, by decide⟩

set_option maxHeartbeats 4000000 in
theorem k_X3_needSpace (l : Launch) (hst : l.stackTraces = false) (g : Gt) (kt : Kt) (b : Nat) (F : Nat → Int) (hSm : Sm F) (x : Int) (hx : Rg x) : XP l yX3_needSpace cX3_needSpace 2 none 6 90 1 g kt [.ref b, .int (iI x)] (fun H => lrAt g b H ∧ dvAt g (b + 3) F H) (Kd (0 ≤ x ∧ x < F 0)) [eIB] (none) := by
  refine xp_of "LentRoom" (by decide) rfl (Nat.le_of_ble_eq_true rfl) ?_
  intro zp ze zs zm za zb zt zc ls C K9 ht9 hP hl
  obtain ⟨hb, hd⟩ := hP
  have hl : lv_has ls 2 [(0, .ref b), (1, .int (iI x))] := hl
  refine r_aload_n C rfl (lv_at hl 0 rfl) dX3_needSpace_0 ?_
  refine r_get C (ci := 3) (v := .ref (b + 3)) rfl uin3 hb.o 1 (by decide) q_138 rfl rfl dX3_needSpace_1 ?_
  refine r_iload_n C rfl (lv_at hl 1 rfl) dX3_needSpace_4 ?_
  refine r_vPi (rest := []) C (k_X0_hasSpace l g (b + 3) F hSm x (by omega)) s_RX3_239 hd (recv C (ci := 0) rfl hd.o) hl.1 rfl ⟨by decide, by decide⟩ rfl (Nat.le_of_ble_eq_true rfl) ⟨by decide, by decide⟩ dX3_needSpace_5 ?_
  have b1 := hSm.n
  refine r_ifP_ne (tgt := 22) C (by decide) dX3_needSpace_8 (fun c2 => ?_) (fun c2 => ?_)
  · exact r_vretXP C rfl (by exact if_pos (by omega)) (by decide) (by decide) dX3_needSpace_22
  · exact r_throwW (text := "no such space") C hst K9 ht9 rfl th_IB (by decide +kernel) (by rw [show (Kd (0 ≤ x ∧ x < F 0)) = 1 from if_neg (by omega)]; decide) (by rw [show (Kd (0 ≤ x ∧ x < F 0)) = 1 from if_neg (by omega)]; rfl) hl.1 dX3_needSpace_11 dX3_needSpace_14 dX3_needSpace_15 dX3_needSpace_18 dX3_needSpace_21 (by decide) (Nat.le_of_ble_eq_true rfl) ⟨by decide, by decide⟩ ⟨by decide, by decide⟩

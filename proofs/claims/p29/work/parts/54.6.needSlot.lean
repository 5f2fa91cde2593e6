set_option maxHeartbeats 4000000 in
theorem k_X3_needSlot (l : Launch) (hst : l.stackTraces = false) (g : Gt) (kt : Kt) (k : Int) (hk : Rg k) : XP l yX3_needSlot cX3_needSlot 1 none 6 90 1 g kt [.int (iI k)] (fun _ => True) (Kd (0 ≤ k ∧ k ≤ 1)) [eIB] (none) := by
  refine xp_of "LentRoom" (by decide) rfl (Nat.le_of_ble_eq_true rfl) ?_
  intro zp ze zs zm za zb zt zc ls C K9 ht9 hP hl
  have hl : lv_has ls 1 [(0, .int (iI k))] := hl
  refine r_iload_n C rfl (lv_at hl 0 rfl) dX3_needSlot_0 ?_
  refine r_if_lt (tgt := 9) C (by decide) (by omega) dX3_needSlot_1 (fun c1 => ?_) (fun c1 => ?_)
  · exact r_throwW (text := "no such save slot") C hst K9 ht9 rfl th_IB (by decide +kernel) (by rw [show (Kd (0 ≤ k ∧ k ≤ 1)) = 1 from if_neg (by omega)]; decide) (by rw [show (Kd (0 ≤ k ∧ k ≤ 1)) = 1 from if_neg (by omega)]; rfl) hl.1 dX3_needSlot_9 dX3_needSlot_12 dX3_needSlot_13 dX3_needSlot_16 dX3_needSlot_19 (by decide) (Nat.le_of_ble_eq_true rfl) ⟨by decide, by decide⟩ ⟨by decide, by decide⟩
  · refine r_iload_n C rfl (lv_at hl 0 rfl) dX3_needSlot_4 ?_
    refine r_iconst C dX3_needSlot_5 ?_
    refine r_icmp_lt (tgt := 20) C (by decide) (by omega) (by decide) dX3_needSlot_6 (fun c2 => ?_) (fun c2 => ?_)
    · exact r_vretXP C rfl (by exact if_pos (by omega)) (by decide) (by decide) dX3_needSlot_20
    · exact r_throwW (text := "no such save slot") C hst K9 ht9 rfl th_IB (by decide +kernel) (by rw [show (Kd (0 ≤ k ∧ k ≤ 1)) = 1 from if_neg (by omega)]; decide) (by rw [show (Kd (0 ≤ k ∧ k ≤ 1)) = 1 from if_neg (by omega)]; rfl) hl.1 dX3_needSlot_9 dX3_needSlot_12 dX3_needSlot_13 dX3_needSlot_16 dX3_needSlot_19 (by decide) (Nat.le_of_ble_eq_true rfl) ⟨by decide, by decide⟩ ⟨by decide, by decide⟩

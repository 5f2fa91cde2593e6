theorem s_RX2_19 : SiteV "LentRoom$Text" 19 "LentRoom$Text" yX2_isFull cX2_isFull 1 (some .boolean) 0 := ⟨⟨q_365, q_342, q_343, q_31, q_344⟩, rfl, by decide, by decide, by decide +kernel⟩
theorem s_RX1_25 : SiteV "LentRoom$History" 25 "LentRoom$Device" yX0_become cX0_become 3 none 1 := ⟨⟨q_606, q_375, q_376, q_32, q_377⟩, rfl, by decide, by decide, by decide +kernel⟩
set_option maxHeartbeats 4000000 in
theorem k_X2_add (l : Launch) (g : Gt) (t n : Nat) (TX : Nat → Int) (hTX : ∀ k : Nat, k < 120 → 0 ≤ TX k ∧ TX k ≤ 255) (hn : n < 120) (x : Int) (hx : 0 ≤ x ∧ x ≤ 255) : CH l yX2_add cX2_add 2 (some .int) 1 20 g [.ref t, .int (iI x)] (fun H => txAt g t (n : Int) H ∧ cAt g (t + 1) 120 TX H) (some (.int (iI ((n : Int) + 1)))) (fun q => q = t ∨ q = t + 1) (fun H => txAt g t ((n : Int) + 1) H ∧ cAt g (t + 1) 120 (up TX n x) H) := by
  refine ch_of "LentRoom$Text" (by decide) rfl (Nat.le_of_ble_eq_true rfl) ?_
  intro zp ze zs zm za zb zt zc ls C hP hF hl
  obtain ⟨ht, hg⟩ := hP
  have hl : lv_has ls 2 [(0, .ref t), (1, .int (iI x))] := hl
  refine r_aload_n C rfl (lv_at hl 0 rfl) dX2_add_0 ?_
  refine r_vPi (rest := []) C (k_X2_isFull l g t n TX hTX (by omega)) s_RX2_19 ⟨ht, hg⟩ (recv C (ci := 2) rfl ht.o) hl.1 rfl ⟨by decide, by decide⟩ rfl (Nat.le_of_ble_eq_true rfl) ⟨Nat.le_refl 0, Nat.le_refl 0⟩ dX2_add_1 ?_
  refine r_ifP_ne (tgt := 27) C (by decide) dX2_add_4 (fun c1 => ?_) (fun c1 => ?_)
  · exact absurd c1 (by omega)
  · refine r_aload_n C rfl (lv_at hl 0 rfl) dX2_add_7 ?_
    refine r_get C (ci := 2) (v := .ref (t + 1)) rfl uin2 ht.o 1 (by decide) q_63 rfl rfl dX2_add_8 ?_
    refine r_aload_n C rfl (lv_at hl 0 rfl) dX2_add_11 ?_
    refine r_get C (ci := 2) (v := .int (iI (n : Int))) rfl uin2 ht.o 0 (by decide) q_61 rfl rfl dX2_add_12 ?_
    refine r_iload_n C rfl (lv_at hl 1 rfl) dX2_add_15 ?_
    refine r_cast C hg hF (Or.inr rfl) n (by omega) (by omega) (by omega) (nar_ch (by omega)) dX2_add_16 (fun H2 locs2 h2 ho2 hz2 hF => ?_)
    have ht := ht.kept (ho2 _ (by omega))
    have hg := h2
    refine r_aload_n C rfl (lv_at hl 0 rfl) dX2_add_17 ?_
    refine r_dup C rfl dX2_add_18 ?_
    refine r_get C (ci := 2) (v := .int (iI (n : Int))) rfl uin2 ht.o 0 (by decide) q_61 rfl rfl dX2_add_19 ?_
    refine r_iconst C dX2_add_22 ?_
    refine r_iadd C dX2_add_23 ?_
    refine r_put C (ci := 2) rfl uin2 tyX2_ok nmX2 ht.o hF (Or.inl rfl) 0 (by decide) q_61 rfl rfl rfl rfl (by show 0 < 2; decide) dX2_add_24 (fun H3 locs3 h3 ho3 hz3 hF => ?_)
    have hg := hg.kept (ho3 _ (by omega))
    have ht : txAt g t ((n : Int) + 1) H3 := ht.put h3 ho3
    refine r_aload_n C rfl (lv_at hl 0 rfl) dX2_add_27 ?_
    refine r_get C (ci := 2) (v := .int (iI ((n : Int) + 1))) rfl uin2 ht.o 0 (by decide) q_61 rfl rfl dX2_add_28 ?_
    exact r_iretH C rfl rfl (congrArg iI (by rfl)) hF (by exact ⟨ht, hg⟩) dX2_add_31
set_option maxHeartbeats 4000000 in
theorem k_X1_isEmpty (l : Launch) (g : Gt) (h : Nat) (first count : Int) (hc : 0 ≤ count ∧ count ≤ 14) : CP l yX1_isEmpty cX1_isEmpty 1 (some .boolean) 0 0 g [.ref h] (hoAt g h first count) (some (.int (iI (pI (count = 0))))) := by
  refine cp_of "LentRoom$History" (by decide) rfl (Nat.le_of_ble_eq_true rfl) ?_
  intro zp ze zs zm za zb zt zc ls C hP hl
  have hh := hP
  have hl : lv_has ls 1 [(0, .ref h)] := hl
  refine r_aload_n C rfl (lv_at hl 0 rfl) dX1_isEmpty_0 ?_
  refine r_get C (ci := 1) (v := .int (iI count)) rfl uin1 hh.o 2 (by decide) q_129 rfl rfl dX1_isEmpty_1 ?_
  refine r_if_ne (tgt := 11) C (by decide) (by omega) dX1_isEmpty_4 (fun c1 => ?_) (fun c1 => ?_)
  · refine r_iconst C dX1_isEmpty_11 ?_
    exact r_iretP C rfl rfl (congrArg iI (pI_f (by omega)).symm) dX1_isEmpty_12
  · refine r_iconst C dX1_isEmpty_7 ?_
    refine r_goto (tgt := 12) C (by decide) dX1_isEmpty_8 ?_
    exact r_iretP C rfl rfl (congrArg iI (pI_t (by omega)).symm) dX1_isEmpty_12
set_option maxHeartbeats 4000000 in
theorem k_X1_forgetAll (l : Launch) (g : Gt) (h : Nat) (first count : Int) : CH l yX1_forgetAll cX1_forgetAll 1 none 0 0 g [.ref h] (hoAt g h first count) (none) (fun q => q = h) (hoAt g h first 0) := by
  refine ch_of "LentRoom$History" (by decide) rfl (Nat.le_of_ble_eq_true rfl) ?_
  intro zp ze zs zm za zb zt zc ls C hP hF hl
  have hh := hP
  have hl : lv_has ls 1 [(0, .ref h)] := hl
  refine r_aload_n C rfl (lv_at hl 0 rfl) dX1_forgetAll_0 ?_
  refine r_iconst C dX1_forgetAll_1 ?_
  refine r_put C (ci := 1) rfl uin1 tyX1_ok nmX1 hh.o hF rfl 2 (by decide) q_129 rfl rfl rfl rfl (by show 2 < 3; decide) dX1_forgetAll_2 (fun H1 locs1 h1 ho1 hz1 hF => ?_)
  have hh : hoAt g h first 0 H1 := h1
  exact r_vretH C rfl hF (by exact hh) dX1_forgetAll_5
set_option maxHeartbeats 4000000 in
theorem k_X1_remember (l : Launch) (g : Gt) (h : Nat) (first count : Int) (G : Nat → Nat → Int) (d : Nat) (F : Nat → Int) (hc : 0 ≤ count ∧ count ≤ 14) (hfi : 0 ≤ first ∧ first < 14) (hd2 : d + 20 ≤ h ∨ h + 282 ≤ d) : CH l yX1_remember cX1_remember 2 none 3 69 g [.ref h, .ref d] (fun H => hoAt g h first count H ∧ qAt g (h + 1) 14 (fun i => some (h + 2 + 20 * i)) H ∧ fmAt g (h + 2) 14 G H ∧ dvAt g d F H) (none) (Hip h) (fun H => hoAt g h (rmFi first count) (rmCo count) H ∧ qAt g (h + 1) 14 (fun i => some (h + 2 + 20 * i)) H ∧ fmAt g (h + 2) 14 (rmG G first count F) H ∧ dvAt g d F H) := by
  refine ch_of "LentRoom$History" (by decide) rfl (Nat.le_of_ble_eq_true rfl) ?_
  intro zp ze zs zm za zb zt zc ls C hP hF hl
  obtain ⟨hh, hq, hm, hd⟩ := hP
  have hl : lv_has ls 2 [(0, .ref h), (1, .ref d)] := hl
  refine r_aload_n C rfl (lv_at hl 0 rfl) dX1_remember_0 ?_
  refine r_get C (ci := 1) (v := .int (iI count)) rfl uin1 hh.o 2 (by decide) q_129 rfl rfl dX1_remember_1 ?_
  refine r_bipush C (by decide) dX1_remember_4 ?_
  refine r_icmp_ne (tgt := 32) C (by decide) (by omega) (by decide) dX1_remember_6 (fun c1 => ?_) (fun c1 => ?_)
  · refine r_aload_n C rfl (lv_at hl 0 rfl) dX1_remember_32 ?_
    refine r_get C (ci := 1) (v := .ref (h + 1)) rfl uin1 hh.o 0 (by decide) q_127 rfl rfl dX1_remember_33 ?_
    refine r_aload_n C rfl (lv_at hl 0 rfl) dX1_remember_36 ?_
    refine r_get C (ci := 1) (v := .int (iI first)) rfl uin1 hh.o 1 (by decide) q_128 rfl rfl dX1_remember_37 ?_
    refine r_aload_n C rfl (lv_at hl 0 rfl) dX1_remember_40 ?_
    refine r_get C (ci := 1) (v := .int (iI count)) rfl uin1 hh.o 2 (by decide) q_129 rfl rfl dX1_remember_41 ?_
    refine r_iadd C dX1_remember_44 ?_
    refine r_bipush C (by decide) dX1_remember_45 ?_
    refine r_irem C (by omega) (by omega) dX1_remember_47 ?_
    refine r_aaldq (v := h + 2 + 20 * (((first + count) % 14).toNat)) C hq (((first + count) % 14).toNat) (by omega) (by omega) (by omega) rfl dX1_remember_48 ?_
    refine r_aload_n C rfl (lv_at hl 1 rfl) dX1_remember_49 ?_
    refine r_vHn (rest := []) C (k_X0_become l g (h + 2 + 20 * (((first + count) % 14).toNat)) (G (((first + count) % 14).toNat)) d F (by omega)) s_RX1_25 ⟨hm (((first + count) % 14).toNat) (by omega), hd⟩ hF (fun q hq => by obtain ⟨h1, h2⟩ := hq; exact ⟨by omega, by omega⟩) (recv C (ci := 0) rfl (hm (((first + count) % 14).toNat) (by omega)).o) hl.1 rfl ⟨by decide, by decide⟩ rfl (Nat.le_of_ble_eq_true rfl) ⟨Nat.le_refl 0, Nat.le_refl 0⟩ dX1_remember_50 (fun H2 locs2 h2 ho2 hz2 hF => ?_)
    have hm := hm.put (i := (((first + count) % 14).toNat)) (by omega) h2.1 (fun q hq => ho2 q hq)
    have hd := h2.2
    have hh := hh.kept (ho2 _ (not_dvp (by omega)))
    have hq := hq.kept (ho2 _ (not_dvp (by omega)))
    refine r_aload_n C rfl (lv_at hl 0 rfl) dX1_remember_53 ?_
    refine r_dup C rfl dX1_remember_54 ?_
    refine r_get C (ci := 1) (v := .int (iI count)) rfl uin1 hh.o 2 (by decide) q_129 rfl rfl dX1_remember_55 ?_
    refine r_iconst C dX1_remember_58 ?_
    refine r_iadd C dX1_remember_59 ?_
    refine r_put C (ci := 1) rfl uin1 tyX1_ok nmX1 hh.o hF ⟨by omega, by omega⟩ 2 (by decide) q_129 rfl rfl rfl rfl (by show 2 < 3; decide) dX1_remember_60 (fun H3 locs3 h3 ho3 hz3 hF => ?_)
    have hq := hq.kept (ho3 _ (by omega))
    have hm := hm.kept (fun q h1 h2 => ho3 _ (by omega))
    have hd := hd.kept (fun q h1 h2 => ho3 _ (by omega))
    have hh : hoAt g h first (count + 1) H3 := h3
    have e1 : rmFi first count = first := if_neg (by assumption)
    have e2 : rmCo count = count + 1 := (by unfold rmCo; rw [if_neg (by assumption)] <;> omega)
    have e3 : rmIx first count = (((first + count) % 14).toNat) := (by unfold rmIx; rw [e1, e2]; congr 2; omega)
    exact r_vretH C rfl hF (by rw [e1, e2]; exact ⟨hh, hq, by unfold rmG; rw [e3]; exact hm, hd⟩) dX1_remember_63
  · refine r_aload_n C rfl (lv_at hl 0 rfl) dX1_remember_9 ?_
    refine r_aload_n C rfl (lv_at hl 0 rfl) dX1_remember_10 ?_
    refine r_get C (ci := 1) (v := .int (iI first)) rfl uin1 hh.o 1 (by decide) q_128 rfl rfl dX1_remember_11 ?_
    refine r_iconst C dX1_remember_14 ?_
    refine r_iadd C dX1_remember_15 ?_
    refine r_bipush C (by decide) dX1_remember_16 ?_
    refine r_irem C (by omega) (by omega) dX1_remember_18 ?_
    refine r_put C (ci := 1) rfl uin1 tyX1_ok nmX1 hh.o hF ⟨by omega, by omega⟩ 1 (by decide) q_128 rfl rfl rfl rfl (by show 1 < 3; decide) dX1_remember_19 (fun H4 locs4 h4 ho4 hz4 hF => ?_)
    have hq := hq.kept (ho4 _ (by omega))
    have hm := hm.kept (fun q h1 h2 => ho4 _ (by omega))
    have hd := hd.kept (fun q h1 h2 => ho4 _ (by omega))
    have hh : hoAt g h ((first + 1) % 14) count H4 := h4
    refine r_aload_n C rfl (lv_at hl 0 rfl) dX1_remember_22 ?_
    refine r_dup C rfl dX1_remember_23 ?_
    refine r_get C (ci := 1) (v := .int (iI count)) rfl uin1 hh.o 2 (by decide) q_129 rfl rfl dX1_remember_24 ?_
    refine r_iconst C dX1_remember_27 ?_
    refine r_isub C dX1_remember_28 ?_
    refine r_put C (ci := 1) rfl uin1 tyX1_ok nmX1 hh.o hF ⟨by omega, by omega⟩ 2 (by decide) q_129 rfl rfl rfl rfl (by show 2 < 3; decide) dX1_remember_29 (fun H5 locs5 h5 ho5 hz5 hF => ?_)
    have hq := hq.kept (ho5 _ (by omega))
    have hm := hm.kept (fun q h1 h2 => ho5 _ (by omega))
    have hd := hd.kept (fun q h1 h2 => ho5 _ (by omega))
    have hh : hoAt g h ((first + 1) % 14) (count - 1) H5 := h5
    refine r_aload_n C rfl (lv_at hl 0 rfl) dX1_remember_32 ?_
    refine r_get C (ci := 1) (v := .ref (h + 1)) rfl uin1 hh.o 0 (by decide) q_127 rfl rfl dX1_remember_33 ?_
    refine r_aload_n C rfl (lv_at hl 0 rfl) dX1_remember_36 ?_
    refine r_get C (ci := 1) (v := .int (iI ((first + 1) % 14))) rfl uin1 hh.o 1 (by decide) q_128 rfl rfl dX1_remember_37 ?_
    refine r_aload_n C rfl (lv_at hl 0 rfl) dX1_remember_40 ?_
    refine r_get C (ci := 1) (v := .int (iI (count - 1))) rfl uin1 hh.o 2 (by decide) q_129 rfl rfl dX1_remember_41 ?_
    refine r_iadd C dX1_remember_44 ?_
    refine r_bipush C (by decide) dX1_remember_45 ?_
    refine r_irem C (by omega) (by omega) dX1_remember_47 ?_
    refine r_aaldq (v := h + 2 + 20 * (((((first + 1) % 14) + (count - 1)) % 14).toNat)) C hq (((((first + 1) % 14) + (count - 1)) % 14).toNat) (by omega) (by omega) (by omega) rfl dX1_remember_48 ?_
    refine r_aload_n C rfl (lv_at hl 1 rfl) dX1_remember_49 ?_
    refine r_vHn (rest := []) C (k_X0_become l g (h + 2 + 20 * (((((first + 1) % 14) + (count - 1)) % 14).toNat)) (G (((((first + 1) % 14) + (count - 1)) % 14).toNat)) d F (by omega)) s_RX1_25 ⟨hm (((((first + 1) % 14) + (count - 1)) % 14).toNat) (by omega), hd⟩ hF (fun q hq => by obtain ⟨h1, h2⟩ := hq; exact ⟨by omega, by omega⟩) (recv C (ci := 0) rfl (hm (((((first + 1) % 14) + (count - 1)) % 14).toNat) (by omega)).o) hl.1 rfl ⟨by decide, by decide⟩ rfl (Nat.le_of_ble_eq_true rfl) ⟨Nat.le_refl 0, Nat.le_refl 0⟩ dX1_remember_50 (fun H6 locs6 h6 ho6 hz6 hF => ?_)
    have hm := hm.put (i := (((((first + 1) % 14) + (count - 1)) % 14).toNat)) (by omega) h6.1 (fun q hq => ho6 q hq)
    have hd := h6.2
    have hh := hh.kept (ho6 _ (not_dvp (by omega)))
    have hq := hq.kept (ho6 _ (not_dvp (by omega)))
    refine r_aload_n C rfl (lv_at hl 0 rfl) dX1_remember_53 ?_
    refine r_dup C rfl dX1_remember_54 ?_
    refine r_get C (ci := 1) (v := .int (iI (count - 1))) rfl uin1 hh.o 2 (by decide) q_129 rfl rfl dX1_remember_55 ?_
    refine r_iconst C dX1_remember_58 ?_
    refine r_iadd C dX1_remember_59 ?_
    refine r_put C (ci := 1) rfl uin1 tyX1_ok nmX1 hh.o hF ⟨by omega, by omega⟩ 2 (by decide) q_129 rfl rfl rfl rfl (by show 2 < 3; decide) dX1_remember_60 (fun H7 locs7 h7 ho7 hz7 hF => ?_)
    have hq := hq.kept (ho7 _ (by omega))
    have hm := hm.kept (fun q h1 h2 => ho7 _ (by omega))
    have hd := hd.kept (fun q h1 h2 => ho7 _ (by omega))
    have hh : hoAt g h ((first + 1) % 14) ((count - 1) + 1) H7 := h7
    have e1 : rmFi first count = (first + 1) % 14 := if_pos (by assumption)
    have e2 : rmCo count = (count - 1) + 1 := (by unfold rmCo; rw [if_pos (by assumption)] <;> omega)
    have e3 : rmIx first count = (((((first + 1) % 14) + (count - 1)) % 14).toNat) := (by unfold rmIx; rw [e1, e2]; congr 2; omega)
    exact r_vretH C rfl hF (by rw [e1, e2]; exact ⟨hh, hq, by unfold rmG; rw [e3]; exact hm, hd⟩) dX1_remember_63
set_option maxHeartbeats 4000000 in
theorem k_X1_takeBack (l : Launch) (g : Gt) (h : Nat) (first count : Int) (G : Nat → Nat → Int) (d : Nat) (F : Nat → Int) (hc : 0 ≤ count ∧ count ≤ 14) (hfi : 0 ≤ first ∧ first < 14) (hd2 : d + 20 ≤ h ∨ h + 282 ≤ d) (h0 : 0 < count) : CH l yX1_takeBack cX1_takeBack 2 (some .int) 3 69 g [.ref h, .ref d] (fun H => hoAt g h first count H ∧ qAt g (h + 1) 14 (fun i => some (h + 2 + 20 * i)) H ∧ fmAt g (h + 2) 14 G H ∧ dvAt g d F H) (some (.int (iI (count - 1)))) (fun q => q = h ∨ Dvp d q) (fun H => hoAt g h first (count - 1) H ∧ qAt g (h + 1) 14 (fun i => some (h + 2 + 20 * i)) H ∧ fmAt g (h + 2) 14 G H ∧ dvAt g d (G ((first + (count - 1)) % 14).toNat) H) := by
  refine ch_of "LentRoom$History" (by decide) rfl (Nat.le_of_ble_eq_true rfl) ?_
  intro zp ze zs zm za zb zt zc ls C hP hF hl
  obtain ⟨hh, hq, hm, hd⟩ := hP
  have hl : lv_has ls 2 [(0, .ref h), (1, .ref d)] := hl
  refine r_aload_n C rfl (lv_at hl 0 rfl) dX1_takeBack_0 ?_
  refine r_get C (ci := 1) (v := .int (iI count)) rfl uin1 hh.o 2 (by decide) q_129 rfl rfl dX1_takeBack_1 ?_
  refine r_if_le (tgt := 38) C (by decide) (by omega) dX1_takeBack_4 (fun c1 => ?_) (fun c1 => ?_)
  · exact absurd c1 (by omega)
  · refine r_aload_n C rfl (lv_at hl 0 rfl) dX1_takeBack_7 ?_
    refine r_dup C rfl dX1_takeBack_8 ?_
    refine r_get C (ci := 1) (v := .int (iI count)) rfl uin1 hh.o 2 (by decide) q_129 rfl rfl dX1_takeBack_9 ?_
    refine r_iconst C dX1_takeBack_12 ?_
    refine r_isub C dX1_takeBack_13 ?_
    refine r_put C (ci := 1) rfl uin1 tyX1_ok nmX1 hh.o hF (Or.inl rfl) 2 (by decide) q_129 rfl rfl rfl rfl (by show 2 < 3; decide) dX1_takeBack_14 (fun H2 locs2 h2 ho2 hz2 hF => ?_)
    have hq := hq.kept (ho2 _ (by omega))
    have hm := hm.kept (fun q h1 h2 => ho2 _ (by omega))
    have hd := hd.kept (fun q h1 h2 => ho2 _ (by omega))
    have hh : hoAt g h first (count - 1) H2 := h2
    refine r_aload_n C rfl (lv_at hl 1 rfl) dX1_takeBack_17 ?_
    refine r_aload_n C rfl (lv_at hl 0 rfl) dX1_takeBack_18 ?_
    refine r_get C (ci := 1) (v := .ref (h + 1)) rfl uin1 hh.o 0 (by decide) q_127 rfl rfl dX1_takeBack_19 ?_
    refine r_aload_n C rfl (lv_at hl 0 rfl) dX1_takeBack_22 ?_
    refine r_get C (ci := 1) (v := .int (iI first)) rfl uin1 hh.o 1 (by decide) q_128 rfl rfl dX1_takeBack_23 ?_
    refine r_aload_n C rfl (lv_at hl 0 rfl) dX1_takeBack_26 ?_
    refine r_get C (ci := 1) (v := .int (iI (count - 1))) rfl uin1 hh.o 2 (by decide) q_129 rfl rfl dX1_takeBack_27 ?_
    refine r_iadd C dX1_takeBack_30 ?_
    refine r_bipush C (by decide) dX1_takeBack_31 ?_
    refine r_irem C (by omega) (by omega) dX1_takeBack_33 ?_
    refine r_aaldq (v := h + 2 + 20 * (((first + (count - 1)) % 14).toNat)) C hq (((first + (count - 1)) % 14).toNat) (by omega) (by omega) (by omega) rfl dX1_takeBack_34 ?_
    refine r_vHn (rest := []) C (k_X0_become l g d F (h + 2 + 20 * (((first + (count - 1)) % 14).toNat)) (G (((first + (count - 1)) % 14).toNat)) (by omega)) s_RX1_25 ⟨hd, hm (((first + (count - 1)) % 14).toNat) (by omega)⟩ hF (fun q hq => Or.inr hq) (recv C (ci := 0) rfl hd.o) hl.1 rfl ⟨by decide, by decide⟩ rfl (Nat.le_of_ble_eq_true rfl) ⟨Nat.le_refl 0, Nat.le_refl 0⟩ dX1_takeBack_35 (fun H3 locs3 h3 ho3 hz3 hF => ?_)
    have hd := h3.1
    have hm := hm.kept (fun q h1 h2 => ho3 q (not_dvp (by omega)))
    have hh := hh.kept (ho3 _ (not_dvp (by omega)))
    have hq := hq.kept (ho3 _ (not_dvp (by omega)))
    refine r_aload_n C rfl (lv_at hl 0 rfl) dX1_takeBack_38 ?_
    refine r_get C (ci := 1) (v := .int (iI (count - 1))) rfl uin1 hh.o 2 (by decide) q_129 rfl rfl dX1_takeBack_39 ?_
    exact r_iretH C rfl rfl (congrArg iI (by rfl)) hF (by exact ⟨hh, hq, hm, hd⟩) dX1_takeBack_42

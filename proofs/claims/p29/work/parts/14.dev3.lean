theorem s_RX0_108 : SiteV "LentRoom$Device" 108 "LentRoom$Device" yX0_hasRoomForSpace cX0_hasRoomForSpace 2 (some .boolean) 1 := ⟨⟨q_406, q_407, q_408, q_32, q_409⟩, rfl, by decide, by decide, by decide +kernel⟩
theorem s_RX0_117 : SiteV "LentRoom$Device" 117 "LentRoom$Device" yX0_takesFloor cX0_takesFloor 3 (some .boolean) 2 := ⟨⟨q_477, q_478, q_479, q_32, q_480⟩, rfl, by decide, by decide, by decide +kernel⟩
theorem s_RX0_120 : SiteV "LentRoom$Device" 120 "LentRoom$Device" yX0_takesCeiling cX0_takesCeiling 3 (some .boolean) 2 := ⟨⟨q_649, q_641, q_642, q_32, q_643⟩, rfl, by decide, by decide, by decide +kernel⟩
theorem s_RX0_139 : SiteV "LentRoom$Device" 139 "LentRoom$Device" yX0_greatestBorrower cX0_greatestBorrower 4 (some .int) 1 := ⟨⟨q_449, q_451, q_4, q_32, q_452⟩, rfl, by decide, by decide, by decide +kernel⟩
theorem s_RX0_136 : SiteV "LentRoom$Device" 136 "LentRoom$Device" yX0_idlestBut cX0_idlestBut 7 (some .int) 2 := ⟨⟨q_453, q_455, q_5, q_32, q_456⟩, rfl, by decide, by decide, by decide +kernel⟩
theorem s_RX0_142 : SiteV "LentRoom$Device" 142 "LentRoom$Device" yX0_loseOldest cX0_loseOldest 3 none 1 := ⟨⟨q_457, q_459, q_6, q_32, q_460⟩, rfl, by decide, by decide, by decide +kernel⟩
theorem s_RX0_132 : SiteV "LentRoom$Device" 132 "LentRoom$Device" yX0_recallLoan cX0_recallLoan 4 none 1 := ⟨⟨q_445, q_447, q_3, q_32, q_448⟩, rfl, by decide, by decide, by decide +kernel⟩
set_option maxHeartbeats 4000000 in
theorem k_X0_addSpace (l : Launch) (g : Gt) (d : Nat) (F : Nat → Int) (M : Int) (hS : Sn F M) (hM : M ≤ 999000) (x y : Int) (hx : Rg x) (hy : Rg y) : CH l yX0_addSpace cX0_addSpace 3 (some .int) 3 66 g [.ref d, .int (iI x), .int (iI y)] (dvAt g d F) (some (.int (iI (if okMk F x y then F 0 else -1)))) (Dvp d) (dvAt g d (if okMk F x y then mkF F x y else F)) := by
  refine ch_of "LentRoom$Device" (by decide) rfl (Nat.le_of_ble_eq_true rfl) ?_
  intro zp ze zs zm za zb zt zc ls C hP hF hl
  have hd := hP
  have hl : lv_has ls 3 [(0, .ref d), (1, .int (iI x)), (2, .int (iI y))] := hl
  have hSm : Sm F := hS.m (by omega)
  refine r_aload_n C rfl (lv_at hl 0 rfl) dX0_addSpace_0 ?_
  refine r_iload_n C rfl (lv_at hl 1 rfl) dX0_addSpace_1 ?_
  refine r_iload_n C rfl (lv_at hl 2 rfl) dX0_addSpace_2 ?_
  refine r_vPi (rest := []) C (k_X0_areBounds l g d F hSm x y (by omega) (by omega)) s_RX0_105 hd (recv C (ci := 0) rfl hd.o) hl.1 rfl ⟨by decide, by decide⟩ rfl (Nat.le_of_ble_eq_true rfl) ⟨Nat.le_refl 0, Nat.le_refl 0⟩ dX0_addSpace_3 ?_
  refine r_ifP_eq (tgt := 17) C (by decide) dX0_addSpace_6 (fun c1 => ?_) (fun c1 => ?_)
  · refine r_iconst C dX0_addSpace_17 ?_
    exact r_iretH C rfl rfl (congrArg iI (by rw [if_neg (by unfold okMk; omega)])) hF (by rw [if_neg (by unfold okMk; omega)]; exact hd) dX0_addSpace_18
  · refine r_aload_n C rfl (lv_at hl 0 rfl) dX0_addSpace_9 ?_
    refine r_iload_n C rfl (lv_at hl 1 rfl) dX0_addSpace_10 ?_
    refine r_vPi (rest := []) C (k_X0_hasRoomForSpace l g d F hSm x (by omega)) s_RX0_108 hd (recv C (ci := 0) rfl hd.o) hl.1 rfl ⟨by decide, by decide⟩ rfl (Nat.le_of_ble_eq_true rfl) ⟨Nat.le_refl 0, Nat.le_refl 0⟩ dX0_addSpace_11 ?_
    refine r_ifP_ne (tgt := 19) C (by decide) dX0_addSpace_14 (fun c2 => ?_) (fun c2 => ?_)
    · have hn := hSm.n
      have hok : okMk F x y := (by unfold okMk; exact ⟨by omega, by omega⟩)
      refine r_aload_n C rfl (lv_at hl 0 rfl) dX0_addSpace_19 ?_
      refine r_get C (ci := 0) (v := .ref (d + 1)) rfl uin0 hd.o 2 (by decide) q_81 rfl rfl dX0_addSpace_20 ?_
      refine r_aload_n C rfl (lv_at hl 0 rfl) dX0_addSpace_23 ?_
      refine r_get C (ci := 0) (v := .int (iI (F 0))) rfl uin0 hd.o 0 (by decide) q_78 rfl rfl dX0_addSpace_24 ?_
      have b3 := hSm.1 0 (by omega)
      have b4 := hSm.2
      refine r_iload_n C rfl (lv_at hl 1 rfl) dX0_addSpace_27 ?_
      refine r_iast C hd.c0 hF (is_dvp (by omega)) ((F 0).toNat) (by omega) (by omega) (by omega) dX0_addSpace_28 (fun H5 locs5 h5 ho5 hz5 hF => ?_)
      have hd : dvAt g d (up F (2 + 52 * ((F 0).toNat) + 0) x) H5 := hd.putc 0 ((F 0).toNat) (by decide) h5 ho5
      refine r_aload_n C rfl (lv_at hl 0 rfl) dX0_addSpace_29 ?_
      refine r_get C (ci := 0) (v := .ref (d + 2)) rfl uin0 hd.o 3 (by decide) q_83 rfl rfl dX0_addSpace_30 ?_
      refine r_aload_n C rfl (lv_at hl 0 rfl) dX0_addSpace_33 ?_
      refine r_get C (ci := 0) (v := .int (iI ((up F (2 + 52 * ((F 0).toNat) + 0) x) 0))) rfl uin0 hd.o 0 (by decide) q_78 rfl rfl dX0_addSpace_34 ?_
      have er6 : (up F (2 + 52 * ((F 0).toNat) + 0) x) 0 = F 0 := (by rw [up_n _ _ (by omega)])
      rw [er6]
      refine r_iload_n C rfl (lv_at hl 2 rfl) dX0_addSpace_37 ?_
      refine r_iast C hd.c1 hF (is_dvp (by omega)) ((F 0).toNat) (by omega) (by omega) (by omega) dX0_addSpace_38 (fun H7 locs7 h7 ho7 hz7 hF => ?_)
      have hd : dvAt g d (up (up F (2 + 52 * ((F 0).toNat) + 0) x) (2 + 52 * ((F 0).toNat) + 1) y) H7 := hd.putc 1 ((F 0).toNat) (by decide) h7 ho7
      refine r_aload_n C rfl (lv_at hl 0 rfl) dX0_addSpace_39 ?_
      refine r_dup C rfl dX0_addSpace_40 ?_
      refine r_get C (ci := 0) (v := .int (iI ((up (up F (2 + 52 * ((F 0).toNat) + 0) x) (2 + 52 * ((F 0).toNat) + 1) y) 0))) rfl uin0 hd.o 0 (by decide) q_78 rfl rfl dX0_addSpace_41 ?_
      have er8 : (up (up F (2 + 52 * ((F 0).toNat) + 0) x) (2 + 52 * ((F 0).toNat) + 1) y) 0 = F 0 := (by rw [up_n _ _ (by omega), up_n _ _ (by omega)])
      rw [er8]
      refine r_iconst C dX0_addSpace_44 ?_
      refine r_iadd C dX0_addSpace_45 ?_
      refine r_put C (ci := 0) rfl uin0 tyX0_ok nmX0 hd.o hF (is_dvp (by omega)) 0 (by decide) q_78 rfl rfl rfl rfl (by show 0 < 11; decide) dX0_addSpace_46 (fun H9 locs9 h9 ho9 hz9 hF => ?_)
      have hd : dvAt g d (up (up (up F (2 + 52 * ((F 0).toNat) + 0) x) (2 + 52 * ((F 0).toNat) + 1) y) 0 ((F 0) + 1)) H9 := hd.put0 h9 ho9
      refine r_aload_n C rfl (lv_at hl 0 rfl) dX0_addSpace_49 ?_
      refine r_get C (ci := 0) (v := .int (iI ((up (up (up F (2 + 52 * ((F 0).toNat) + 0) x) (2 + 52 * ((F 0).toNat) + 1) y) 0 ((F 0) + 1)) 0))) rfl uin0 hd.o 0 (by decide) q_78 rfl rfl dX0_addSpace_50 ?_
      have er10 : (up (up (up F (2 + 52 * ((F 0).toNat) + 0) x) (2 + 52 * ((F 0).toNat) + 1) y) 0 ((F 0) + 1)) 0 = (F 0) + 1 := (by rw [up_s])
      rw [er10]
      refine r_iconst C dX0_addSpace_53 ?_
      refine r_isub C dX0_addSpace_54 ?_
      exact r_iretH C rfl rfl (congrArg iI (by rw [if_pos hok]; omega)) hF (by rw [if_pos hok]; exact hd) dX0_addSpace_55
    · refine r_iconst C dX0_addSpace_17 ?_
      exact r_iretH C rfl rfl (congrArg iI (by rw [if_neg (by unfold okMk; omega)])) hF (by rw [if_neg (by unfold okMk; omega)]; exact hd) dX0_addSpace_18
set_option maxHeartbeats 4000000 in
theorem k_X0_changeFloor (l : Launch) (g : Gt) (d : Nat) (F : Nat → Int) (M : Int) (hS : Sn F M) (hM : M ≤ 999000) (x v : Int) (s : Nat) (hx : Rg x) (hv : Rg v) (hs : 0 ≤ x → x = (s : Int)) : CH l yX0_changeFloor cX0_changeFloor 3 (some .boolean) 4 88 g [.ref d, .int (iI x), .int (iI v)] (dvAt g d F) (some (.int (iI (pI ((0 ≤ x ∧ x < F 0) ∧ okFl F s v))))) (Dvp d) (dvAt g d (if (0 ≤ x ∧ x < F 0) ∧ okFl F s v then up F (2 + 52 * s + 0) v else F)) := by
  refine ch_of "LentRoom$Device" (by decide) rfl (Nat.le_of_ble_eq_true rfl) ?_
  intro zp ze zs zm za zb zt zc ls C hP hF hl
  have hd := hP
  have hl : lv_has ls 3 [(0, .ref d), (1, .int (iI x)), (2, .int (iI v))] := hl
  have hSm : Sm F := hS.m (by omega)
  refine r_aload_n C rfl (lv_at hl 0 rfl) dX0_changeFloor_0 ?_
  refine r_iload_n C rfl (lv_at hl 1 rfl) dX0_changeFloor_1 ?_
  refine r_iload_n C rfl (lv_at hl 2 rfl) dX0_changeFloor_2 ?_
  refine r_vPi (rest := []) C (k_X0_takesFloor l g d F hSm x v s (by omega) (by omega) (by omega)) s_RX0_117 hd (recv C (ci := 0) rfl hd.o) hl.1 rfl ⟨by decide, by decide⟩ rfl (Nat.le_of_ble_eq_true rfl) ⟨Nat.le_refl 0, Nat.le_refl 0⟩ dX0_changeFloor_3 ?_
  have b1 := hSm.n
  refine r_ifP_ne (tgt := 11) C (by decide) dX0_changeFloor_6 (fun c2 => ?_) (fun c2 => ?_)
  · have hn := hSm.n
    refine r_aload_n C rfl (lv_at hl 0 rfl) dX0_changeFloor_11 ?_
    refine r_get C (ci := 0) (v := .ref (d + 1)) rfl uin0 hd.o 2 (by decide) q_81 rfl rfl dX0_changeFloor_12 ?_
    refine r_iload_n C rfl (lv_at hl 1 rfl) dX0_changeFloor_15 ?_
    refine r_iload_n C rfl (lv_at hl 2 rfl) dX0_changeFloor_16 ?_
    refine r_iast C hd.c0 hF (is_dvp (by omega)) s (by omega) (by omega) (by omega) dX0_changeFloor_17 (fun H3 locs3 h3 ho3 hz3 hF => ?_)
    have hd : dvAt g d (up F (2 + 52 * s + 0) v) H3 := hd.putc 0 s (by decide) h3 ho3
    refine r_iconst C dX0_changeFloor_18 ?_
    exact r_iretH C rfl rfl (congrArg iI (pI_t (by assumption)).symm) hF (by rw [if_pos c2]; exact hd) dX0_changeFloor_19
  · refine r_iconst C dX0_changeFloor_9 ?_
    exact r_iretH C rfl rfl (congrArg iI (pI_f (by assumption)).symm) hF (by rw [if_neg c2]; exact hd) dX0_changeFloor_10
set_option maxHeartbeats 4000000 in
theorem k_X0_changeCeiling (l : Launch) (g : Gt) (d : Nat) (F : Nat → Int) (M : Int) (hS : Sn F M) (hM : M ≤ 999000) (x v : Int) (s : Nat) (hx : Rg x) (hv : Rg v) (hs : 0 ≤ x → x = (s : Int)) : CH l yX0_changeCeiling cX0_changeCeiling 3 (some .boolean) 2 44 g [.ref d, .int (iI x), .int (iI v)] (dvAt g d F) (some (.int (iI (pI ((0 ≤ x ∧ x < F 0) ∧ okCe F s v))))) (Dvp d) (dvAt g d (if (0 ≤ x ∧ x < F 0) ∧ okCe F s v then up F (2 + 52 * s + 1) v else F)) := by
  refine ch_of "LentRoom$Device" (by decide) rfl (Nat.le_of_ble_eq_true rfl) ?_
  intro zp ze zs zm za zb zt zc ls C hP hF hl
  have hd := hP
  have hl : lv_has ls 3 [(0, .ref d), (1, .int (iI x)), (2, .int (iI v))] := hl
  have hSm : Sm F := hS.m (by omega)
  refine r_aload_n C rfl (lv_at hl 0 rfl) dX0_changeCeiling_0 ?_
  refine r_iload_n C rfl (lv_at hl 1 rfl) dX0_changeCeiling_1 ?_
  refine r_iload_n C rfl (lv_at hl 2 rfl) dX0_changeCeiling_2 ?_
  refine r_vPi (rest := []) C (k_X0_takesCeiling l g d F hSm x v s (by omega) (by omega) (by omega)) s_RX0_120 hd (recv C (ci := 0) rfl hd.o) hl.1 rfl ⟨by decide, by decide⟩ rfl (Nat.le_of_ble_eq_true rfl) ⟨Nat.le_refl 0, Nat.le_refl 0⟩ dX0_changeCeiling_3 ?_
  have b1 := hSm.n
  refine r_ifP_ne (tgt := 11) C (by decide) dX0_changeCeiling_6 (fun c2 => ?_) (fun c2 => ?_)
  · have hn := hSm.n
    refine r_aload_n C rfl (lv_at hl 0 rfl) dX0_changeCeiling_11 ?_
    refine r_get C (ci := 0) (v := .ref (d + 2)) rfl uin0 hd.o 3 (by decide) q_83 rfl rfl dX0_changeCeiling_12 ?_
    refine r_iload_n C rfl (lv_at hl 1 rfl) dX0_changeCeiling_15 ?_
    refine r_iload_n C rfl (lv_at hl 2 rfl) dX0_changeCeiling_16 ?_
    refine r_iast C hd.c1 hF (is_dvp (by omega)) s (by omega) (by omega) (by omega) dX0_changeCeiling_17 (fun H3 locs3 h3 ho3 hz3 hF => ?_)
    have hd : dvAt g d (up F (2 + 52 * s + 1) v) H3 := hd.putc 1 s (by decide) h3 ho3
    refine r_iconst C dX0_changeCeiling_18 ?_
    exact r_iretH C rfl rfl (congrArg iI (pI_t (by assumption)).symm) hF (by rw [if_pos c2]; exact hd) dX0_changeCeiling_19
  · refine r_iconst C dX0_changeCeiling_9 ?_
    exact r_iretH C rfl rfl (congrArg iI (pI_f (by assumption)).symm) hF (by rw [if_neg c2]; exact hd) dX0_changeCeiling_10
set_option maxHeartbeats 4000000 in
theorem k_X0_loseOldest (l : Launch) (g : Gt) (d : Nat) (F : Nat → Int) (M : Int) (hS : Sn F M) (hM : M ≤ 999000) (x : Int) (s : Nat) (hx : x = (s : Int)) (hs : s < 5) (hp : least F s ≠ -1) : CH l yX0_loseOldest cX0_loseOldest 3 none 1 24 g [.ref d, .int (iI x)] (dvAt g d F) (none) (Dvp d) (dvAt g d (lose F s)) := by
  refine ch_of "LentRoom$Device" (by decide) rfl (Nat.le_of_ble_eq_true rfl) ?_
  intro zp ze zs zm za zb zt zc ls C hP hF hl
  have hd := hP
  have hl : lv_has ls 3 [(0, .ref d), (1, .int (iI x))] := hl
  have hSm : Sm F := hS.m (by omega)
  refine r_aload_n C rfl (lv_at hl 0 rfl) dX0_loseOldest_0 ?_
  refine r_iload_n C rfl (lv_at hl 1 rfl) dX0_loseOldest_1 ?_
  refine r_iconst C dX0_loseOldest_2 ?_
  refine r_vPi (rest := []) C (k_X0_oldestAfter l g d F hSm x s (by omega) (by omega) 0 (by omega)) s_RX0_102 hd (recv C (ci := 0) rfl hd.o) hl.1 rfl ⟨by decide, by decide⟩ rfl (Nat.le_of_ble_eq_true rfl) ⟨Nat.le_refl 0, Nat.le_refl 0⟩ dX0_loseOldest_3 ?_
  have b1 := oa_b (F := F) s 0 40
  refine r_istore_n (lv' := [(2, .int (iI (oa F s 0 40))), (0, .ref d), (1, .int (iI x))]) C rfl hl (by decide) rfl dX0_loseOldest_6 (fun ls hl => ?_)
  have hlb := oa_b (F := F) s 0 40
  refine r_iload_n C rfl (lv_at hl 0 rfl) dX0_loseOldest_7 ?_
  refine r_iconst C dX0_loseOldest_8 ?_
  refine r_icmp_eq (tgt := 31) C (by decide) (by omega) (by decide) dX0_loseOldest_9 (fun c2 => ?_) (fun c2 => ?_)
  · exact absurd c2 hp
  · refine r_aload_n C rfl (lv_at hl 1 rfl) dX0_loseOldest_12 ?_
    refine r_get C (ci := 0) (v := .ref (d + 11)) rfl uin0 hd.o 7 (by decide) q_89 rfl rfl dX0_loseOldest_13 ?_
    refine r_iload_n C rfl (lv_at hl 2 rfl) dX0_loseOldest_16 ?_
    refine r_aaldr (v := d + 12 + s) C hd.rw s (by omega) (by omega) (by omega) rfl dX0_loseOldest_17 ?_
    refine r_iload_n C rfl (lv_at hl 0 rfl) dX0_loseOldest_18 ?_
    refine r_iconst C dX0_loseOldest_19 ?_
    refine r_iast C (hd.w s (by omega)) hF (is_dvp (by omega)) ((oa F s 0 40).toNat) (by omega) (by omega) (by omega) dX0_loseOldest_20 (fun H3 locs3 h3 ho3 hz3 hF => ?_)
    have hd : dvAt g d (up F (2 + 52 * s + (12 + ((oa F s 0 40).toNat))) 0) H3 := hd.putw s ((oa F s 0 40).toNat) (by omega) (by omega) h3 ho3
    refine r_aload_n C rfl (lv_at hl 1 rfl) dX0_loseOldest_21 ?_
    refine r_get C (ci := 0) (v := .ref (d + 18)) rfl uin0 hd.o 9 (by decide) q_92 rfl rfl dX0_loseOldest_22 ?_
    refine r_iload_n C rfl (lv_at hl 2 rfl) dX0_loseOldest_25 ?_
    refine r_dup2 C rfl rfl dX0_loseOldest_26 ?_
    refine r_iald (v := (up F (2 + 52 * s + (12 + ((oa F s 0 40).toNat))) 0) (2 + 52 * s + 5)) C hd.c5 s (by omega) (by omega) (by omega) rfl dX0_loseOldest_27 ?_
    refine r_iconst C dX0_loseOldest_28 ?_
    refine r_iadd C dX0_loseOldest_29 ?_
    refine r_iast C hd.c5 hF (is_dvp (by omega)) s (by omega) (by omega) (by omega) dX0_loseOldest_30 (fun H4 locs4 h4 ho4 hz4 hF => ?_)
    have hd : dvAt g d (up (up F (2 + 52 * s + (12 + ((oa F s 0 40).toNat))) 0) (2 + 52 * s + 5) (((up F (2 + 52 * s + (12 + ((oa F s 0 40).toNat))) 0) (2 + 52 * s + 5)) + 1)) H4 := hd.putc 5 s (by decide) h4 ho4
    exact r_vretH C rfl hF (by unfold lose inc; rw [if_neg hp]; exact hd) dX0_loseOldest_31
set_option maxHeartbeats 4000000 in
theorem k_X0_recallLoan (l : Launch) (g : Gt) (d : Nat) (F : Nat → Int) (M : Int) (hS : Sn F M) (hM : M ≤ 998000) (hZ : Zr F) (hg : Dg F) (x : Int) (s : Nat) (hx : x = (s : Int)) (hs : s < 5) (hpg : Pg F s) (hp : 0 < S5 F (7 + s)) : CH l yX0_recallLoan cX0_recallLoan 4 none 2 49 g [.ref d, .int (iI x)] (dvAt g d F) (none) (Dvp d) (dvAt g d (recall F s)) := by
  refine ch_of "LentRoom$Device" (by decide) rfl (Nat.le_of_ble_eq_true rfl) ?_
  intro zp ze zs zm za zb zt zc ls C hP hF hl
  have hd := hP
  have hl : lv_has ls 4 [(0, .ref d), (1, .int (iI x))] := hl
  have hSm : Sm F := hS.m (by omega)
  refine r_aload_n C rfl (lv_at hl 0 rfl) dX0_recallLoan_0 ?_
  refine r_iload_n C rfl (lv_at hl 1 rfl) dX0_recallLoan_1 ?_
  refine r_vPi (rest := []) C (k_X0_greatestBorrower l g d F hSm x s (by omega) (by omega)) s_RX0_139 hd (recv C (ci := 0) rfl hd.o) hl.1 rfl ⟨by decide, by decide⟩ rfl (Nat.le_of_ble_eq_true rfl) ⟨Nat.le_refl 0, Nat.le_refl 0⟩ dX0_recallLoan_2 ?_
  have b1 := gb_b (F := F) s (F 0).toNat
  obtain ⟨hgb, hb5, hlo⟩ := gb_most hSm hZ hs hp
  rw [hgb]
  have hbs : mostOf F s ≠ s := (fun h => by have h9 := hg s hs; rw [h] at hlo; omega)
  have hn := hSm.n
  refine r_istore_n (lv' := [(2, .int (iI ((mostOf F s : Nat) : Int))), (0, .ref d), (1, .int (iI x))]) C rfl hl (by decide) rfl dX0_recallLoan_5 (fun ls hl => ?_)
  refine r_iload_n C rfl (lv_at hl 0 rfl) dX0_recallLoan_6 ?_
  refine r_iconst C dX0_recallLoan_7 ?_
  refine r_icmp_ne (tgt := 12) C (by decide) (by omega) (by decide) dX0_recallLoan_8 (fun c2 => ?_) (fun c2 => ?_)
  · refine r_aload_n C rfl (lv_at hl 1 rfl) dX0_recallLoan_12 ?_
    refine r_get C (ci := 0) (v := .ref (d + 5)) rfl uin0 hd.o 6 (by decide) q_87 rfl rfl dX0_recallLoan_13 ?_
    refine r_iload_n C rfl (lv_at hl 0 rfl) dX0_recallLoan_16 ?_
    refine r_aaldr (v := d + 6 + (mostOf F s)) C hd.rl (mostOf F s) (by omega) (by omega) (by omega) rfl dX0_recallLoan_17 ?_
    refine r_iload_n C rfl (lv_at hl 2 rfl) dX0_recallLoan_18 ?_
    refine r_dup2 C rfl rfl dX0_recallLoan_19 ?_
    refine r_iald (v := F (2 + 52 * (mostOf F s) + (7 + s))) C (hd.l (mostOf F s) (by omega)) s (by omega) (by omega) (by omega) rfl dX0_recallLoan_20 ?_
    have b3 := hSm.1 (2 + 52 * (mostOf F s) + (7 + s)) (by omega)
    refine r_iconst C dX0_recallLoan_21 ?_
    refine r_isub C dX0_recallLoan_22 ?_
    refine r_iast C (hd.l (mostOf F s) (by omega)) hF (is_dvp (by omega)) s (by omega) (by omega) (by omega) dX0_recallLoan_23 (fun H4 locs4 h4 ho4 hz4 hF => ?_)
    have hd : dvAt g d (up F (2 + 52 * (mostOf F s) + (7 + s)) ((F (2 + 52 * (mostOf F s) + (7 + s))) - 1)) H4 := hd.putl (mostOf F s) s (by omega) (by omega) h4 ho4
    refine r_aload_n C rfl (lv_at hl 1 rfl) dX0_recallLoan_24 ?_
    refine r_get C (ci := 0) (v := .ref (d + 17)) rfl uin0 hd.o 8 (by decide) q_91 rfl rfl dX0_recallLoan_25 ?_
    refine r_iload_n C rfl (lv_at hl 2 rfl) dX0_recallLoan_28 ?_
    refine r_dup2 C rfl rfl dX0_recallLoan_29 ?_
    refine r_iald (v := (up F (2 + 52 * (mostOf F s) + (7 + s)) ((F (2 + 52 * (mostOf F s) + (7 + s))) - 1)) (2 + 52 * s + 4)) C hd.c4 s (by omega) (by omega) (by omega) rfl dX0_recallLoan_30 ?_
    refine r_iconst C dX0_recallLoan_31 ?_
    refine r_iadd C dX0_recallLoan_32 ?_
    refine r_iast C hd.c4 hF (is_dvp (by omega)) s (by omega) (by omega) (by omega) dX0_recallLoan_33 (fun H5 locs5 h5 ho5 hz5 hF => ?_)
    have hd : dvAt g d (up (up F (2 + 52 * (mostOf F s) + (7 + s)) ((F (2 + 52 * (mostOf F s) + (7 + s))) - 1)) (2 + 52 * s + 4) (((up F (2 + 52 * (mostOf F s) + (7 + s)) ((F (2 + 52 * (mostOf F s) + (7 + s))) - 1)) (2 + 52 * s + 4)) + 1)) H5 := hd.putc 4 s (by decide) h5 ho5
    have hd : dvAt g d (rc1 F s) H5 := hd
    have hS1 : Sn (rc1 F s) (M + 1) := rc1_S hS (by omega) hZ hs hp
    have hSm1 : Sm (rc1 F s) := hS1.m (by omega)
    have e0 : rc1 F s 0 = F 0 := rc1_0 F s
    have hls : least (rc1 F s) (mostOf F s) ≠ -1 := rc1_least hSm hs (by omega) hbs hlo hpg
    refine r_aload_n C rfl (lv_at hl 1 rfl) dX0_recallLoan_34 ?_
    refine r_iload_n C rfl (lv_at hl 0 rfl) dX0_recallLoan_35 ?_
    refine r_vPi (rest := []) C (k_X0_idleOf l g d (rc1 F s) hSm1 ((mostOf F s : Nat) : Int) (mostOf F s) (by omega) (by omega)) s_RX0_80 hd (recv C (ci := 0) rfl hd.o) hl.1 rfl ⟨by decide, by decide⟩ rfl (Nat.le_of_ble_eq_true rfl) ⟨Nat.le_refl 0, Nat.le_refl 0⟩ dX0_recallLoan_36 ?_
    have b6 := idle_b hSm1 (mostOf F s) (by omega)
    refine r_if_le (tgt := 53) C (by decide) (by omega) dX0_recallLoan_39 (fun c7 => ?_) (fun c7 => ?_)
    · refine r_aload_n C rfl (lv_at hl 1 rfl) dX0_recallLoan_53 ?_
      refine r_vPi (rest := []) C (k_X0_freeCommonRoom l g d (rc1 F s) hSm1) s_RX0_90 hd (recv C (ci := 0) rfl hd.o) hl.1 rfl ⟨by decide, by decide⟩ rfl (Nat.le_of_ble_eq_true rfl) ⟨Nat.le_refl 0, Nat.le_refl 0⟩ dX0_recallLoan_54 ?_
      have b8 := free_b hSm1
      refine r_if_le (tgt := 71) C (by decide) (by omega) dX0_recallLoan_57 (fun c9 => ?_) (fun c9 => ?_)
      · refine r_aload_n C rfl (lv_at hl 1 rfl) dX0_recallLoan_71 ?_
        refine r_iload_n C rfl (lv_at hl 0 rfl) dX0_recallLoan_72 ?_
        refine r_iload_n C rfl (lv_at hl 2 rfl) dX0_recallLoan_73 ?_
        refine r_vPi (rest := []) C (k_X0_idlestBut l g d (rc1 F s) hSm1 ((mostOf F s : Nat) : Int) x (mostOf F s) s (by omega) (by omega) (by omega) (by omega)) s_RX0_136 hd (recv C (ci := 0) rfl hd.o) hl.1 rfl ⟨by decide, by decide⟩ rfl (Nat.le_of_ble_eq_true rfl) ⟨Nat.le_refl 0, Nat.le_refl 0⟩ dX0_recallLoan_74 ?_
        have b10 := lender_b hSm1 (mostOf F s) s
        refine r_istore_n (lv' := [(3, .int (iI (lender (rc1 F s) (mostOf F s) s))), (2, .int (iI ((mostOf F s : Nat) : Int))), (0, .ref d), (1, .int (iI x))]) C rfl hl (by decide) rfl dX0_recallLoan_77 (fun ls hl => ?_)
        refine r_iload_n C rfl (lv_at hl 0 rfl) dX0_recallLoan_78 ?_
        refine r_iconst C dX0_recallLoan_79 ?_
        refine r_icmp_eq (tgt := 98) C (by decide) (by omega) (by decide) dX0_recallLoan_80 (fun c11 => ?_) (fun c11 => ?_)
        · refine r_aload_n C rfl (lv_at hl 2 rfl) dX0_recallLoan_98 ?_
          refine r_iload_n C rfl (lv_at hl 1 rfl) dX0_recallLoan_99 ?_
          refine r_vHn (rest := []) C (k_X0_loseOldest l g d (rc1 F s) (M + 1) hS1 (by omega) ((mostOf F s : Nat) : Int) (mostOf F s) (by omega) (by omega) hls) s_RX0_142 hd hF (fun _ h => h) (recv C (ci := 0) rfl hd.o) hl.1 rfl ⟨by decide, by decide⟩ rfl (Nat.le_of_ble_eq_true rfl) ⟨Nat.le_refl 0, Nat.le_refl 0⟩ dX0_recallLoan_100 (fun H12 locs12 h12 ho12 hz12 hF => ?_)
          have hd := h12
          exact r_vretH C rfl hF (by unfold recall rehouse; rw [if_neg (by omega), if_neg (by omega), if_pos (by omega)]; exact hd) dX0_recallLoan_103
        · refine r_aload_n C rfl (lv_at hl 2 rfl) dX0_recallLoan_83 ?_
          refine r_get C (ci := 0) (v := .ref (d + 5)) rfl uin0 hd.o 6 (by decide) q_87 rfl rfl dX0_recallLoan_84 ?_
          refine r_iload_n C rfl (lv_at hl 1 rfl) dX0_recallLoan_87 ?_
          refine r_aaldr (v := d + 6 + (mostOf F s)) C hd.rl (mostOf F s) (by omega) (by omega) (by omega) rfl dX0_recallLoan_88 ?_
          refine r_iload_n C rfl (lv_at hl 0 rfl) dX0_recallLoan_89 ?_
          refine r_dup2 C rfl rfl dX0_recallLoan_90 ?_
          refine r_iald (v := (rc1 F s) (2 + 52 * (mostOf F s) + (7 + ((lender (rc1 F s) (mostOf F s) s).toNat)))) C (hd.l (mostOf F s) (by omega)) ((lender (rc1 F s) (mostOf F s) s).toNat) (by omega) (by omega) (by omega) rfl dX0_recallLoan_91 ?_
          have b13 := hSm1.1 (2 + 52 * (mostOf F s) + (7 + ((lender (rc1 F s) (mostOf F s) s).toNat))) (by omega)
          refine r_iconst C dX0_recallLoan_92 ?_
          refine r_iadd C dX0_recallLoan_93 ?_
          refine r_iast C (hd.l (mostOf F s) (by omega)) hF (is_dvp (by omega)) ((lender (rc1 F s) (mostOf F s) s).toNat) (by omega) (by omega) (by omega) dX0_recallLoan_94 (fun H14 locs14 h14 ho14 hz14 hF => ?_)
          have hd : dvAt g d (up (rc1 F s) (2 + 52 * (mostOf F s) + (7 + ((lender (rc1 F s) (mostOf F s) s).toNat))) (((rc1 F s) (2 + 52 * (mostOf F s) + (7 + ((lender (rc1 F s) (mostOf F s) s).toNat)))) + 1)) H14 := hd.putl (mostOf F s) ((lender (rc1 F s) (mostOf F s) s).toNat) (by omega) (by omega) h14 ho14
          refine r_goto (tgt := 103) C (by decide) dX0_recallLoan_95 ?_
          exact r_vretH C rfl hF (by unfold recall rehouse; rw [if_neg (by omega), if_neg (by omega), if_neg (by omega)]; exact hd) dX0_recallLoan_103
      · refine r_aload_n C rfl (lv_at hl 1 rfl) dX0_recallLoan_60 ?_
        refine r_get C (ci := 0) (v := .ref (d + 4)) rfl uin0 hd.o 5 (by decide) q_86 rfl rfl dX0_recallLoan_61 ?_
        refine r_iload_n C rfl (lv_at hl 0 rfl) dX0_recallLoan_64 ?_
        refine r_dup2 C rfl rfl dX0_recallLoan_65 ?_
        refine r_iald (v := (rc1 F s) (2 + 52 * (mostOf F s) + 3)) C hd.c3 (mostOf F s) (by omega) (by omega) (by omega) rfl dX0_recallLoan_66 ?_
        have b15 := hSm1.1 (2 + 52 * (mostOf F s) + 3) (by omega)
        refine r_iconst C dX0_recallLoan_67 ?_
        refine r_iadd C dX0_recallLoan_68 ?_
        refine r_iast C hd.c3 hF (is_dvp (by omega)) (mostOf F s) (by omega) (by omega) (by omega) dX0_recallLoan_69 (fun H16 locs16 h16 ho16 hz16 hF => ?_)
        have hd : dvAt g d (up (rc1 F s) (2 + 52 * (mostOf F s) + 3) (((rc1 F s) (2 + 52 * (mostOf F s) + 3)) + 1)) H16 := hd.putc 3 (mostOf F s) (by decide) h16 ho16
        exact r_vretH C rfl hF (by unfold recall rehouse; rw [if_neg (by omega), if_pos (by omega)]; exact hd) dX0_recallLoan_70
    · refine r_aload_n C rfl (lv_at hl 1 rfl) dX0_recallLoan_42 ?_
      refine r_get C (ci := 0) (v := .ref (d + 3)) rfl uin0 hd.o 4 (by decide) q_85 rfl rfl dX0_recallLoan_43 ?_
      refine r_iload_n C rfl (lv_at hl 0 rfl) dX0_recallLoan_46 ?_
      refine r_dup2 C rfl rfl dX0_recallLoan_47 ?_
      refine r_iald (v := (rc1 F s) (2 + 52 * (mostOf F s) + 2)) C hd.c2 (mostOf F s) (by omega) (by omega) (by omega) rfl dX0_recallLoan_48 ?_
      have b17 := hSm1.1 (2 + 52 * (mostOf F s) + 2) (by omega)
      refine r_iconst C dX0_recallLoan_49 ?_
      refine r_iadd C dX0_recallLoan_50 ?_
      refine r_iast C hd.c2 hF (is_dvp (by omega)) (mostOf F s) (by omega) (by omega) (by omega) dX0_recallLoan_51 (fun H18 locs18 h18 ho18 hz18 hF => ?_)
      have hd : dvAt g d (up (rc1 F s) (2 + 52 * (mostOf F s) + 2) (((rc1 F s) (2 + 52 * (mostOf F s) + 2)) + 1)) H18 := hd.putc 2 (mostOf F s) (by decide) h18 ho18
      exact r_vretH C rfl hF (by unfold recall rehouse; rw [if_pos (by omega)]; exact hd) dX0_recallLoan_52
  · exact absurd c2 (by omega)
set_option maxHeartbeats 4000000 in
theorem k_X0_takeBlock (l : Launch) (g : Gt) (d : Nat) (F : Nat → Int) (M : Int) (hS : Sn F M) (hM : M ≤ 998000) (hZ : Zr F) (hg : Dg F) (x : Int) (s : Nat) (hx : x = (s : Int)) (hs : s < 5) (hpg : Pg F s) : CH l yX0_takeBlock cX0_takeBlock 3 (some .int) 3 72 g [.ref d, .int (iI x)] (dvAt g d F) (some (.int (iI (needR F s)))) (Dvp d) (dvAt g d (needF F s)) := by
  refine ch_of "LentRoom$Device" (by decide) rfl (Nat.le_of_ble_eq_true rfl) ?_
  intro zp ze zs zm za zb zt zc ls C hP hF hl
  have hd := hP
  have hl : lv_has ls 3 [(0, .ref d), (1, .int (iI x))] := hl
  have hSm : Sm F := hS.m (by omega)
  have hid : idle F s = F (2 + 52 * s + 0) - F (2 + 52 * s + 2) - S5 F (7 + s) := rfl
  have hib := S5_b hSm (7 + s) (by omega)
  have hlb := lnd_b (F := F) s s (F 0).toNat
  have hn := hSm.n
  have hle : lender F s s = lnd F s s (F 0).toNat := rfl
  refine r_aload_n C rfl (lv_at hl 0 rfl) dX0_takeBlock_0 ?_
  refine r_iload_n C rfl (lv_at hl 1 rfl) dX0_takeBlock_1 ?_
  refine r_vPi (rest := []) C (k_X0_pagesOf l g d F hSm x s (by omega) (by omega)) s_RX0_76 hd (recv C (ci := 0) rfl hd.o) hl.1 rfl ⟨by decide, by decide⟩ rfl (Nat.le_of_ble_eq_true rfl) ⟨Nat.le_refl 0, Nat.le_refl 0⟩ dX0_takeBlock_2 ?_
  have b1 := tk_b hSm s (by omega)
  refine r_aload_n C rfl (lv_at hl 0 rfl) dX0_takeBlock_5 ?_
  refine r_get C (ci := 0) (v := .ref (d + 2)) rfl uin0 hd.o 3 (by decide) q_83 rfl rfl dX0_takeBlock_6 ?_
  refine r_iload_n C rfl (lv_at hl 1 rfl) dX0_takeBlock_9 ?_
  refine r_iald (v := F (2 + 52 * s + 1)) C hd.c1 s (by omega) (by omega) (by omega) rfl dX0_takeBlock_10 ?_
  have b2 := hSm.1 (2 + 52 * s + 1) (by omega)
  refine r_icmp_lt (tgt := 16) C (by decide) (by omega) (by omega) dX0_takeBlock_11 (fun c3 => ?_) (fun c3 => ?_)
  · refine r_aload_n C rfl (lv_at hl 0 rfl) dX0_takeBlock_16 ?_
    refine r_iload_n C rfl (lv_at hl 1 rfl) dX0_takeBlock_17 ?_
    refine r_vPi (rest := []) C (k_X0_idleOf l g d F hSm x s (by omega) (by omega)) s_RX0_80 hd (recv C (ci := 0) rfl hd.o) hl.1 rfl ⟨by decide, by decide⟩ rfl (Nat.le_of_ble_eq_true rfl) ⟨Nat.le_refl 0, Nat.le_refl 0⟩ dX0_takeBlock_18 ?_
    have b4 := idle_b hSm s (by omega)
    refine r_if_le (tgt := 36) C (by decide) (by omega) dX0_takeBlock_21 (fun c5 => ?_) (fun c5 => ?_)
    · refine r_aload_n C rfl (lv_at hl 0 rfl) dX0_takeBlock_36 ?_
      refine r_get C (ci := 0) (v := .ref (d + 3)) rfl uin0 hd.o 4 (by decide) q_85 rfl rfl dX0_takeBlock_37 ?_
      refine r_iload_n C rfl (lv_at hl 1 rfl) dX0_takeBlock_40 ?_
      refine r_iald (v := F (2 + 52 * s + 2)) C hd.c2 s (by omega) (by omega) (by omega) rfl dX0_takeBlock_41 ?_
      have b6 := hSm.1 (2 + 52 * s + 2) (by omega)
      refine r_aload_n C rfl (lv_at hl 0 rfl) dX0_takeBlock_42 ?_
      refine r_get C (ci := 0) (v := .ref (d + 1)) rfl uin0 hd.o 2 (by decide) q_81 rfl rfl dX0_takeBlock_43 ?_
      refine r_iload_n C rfl (lv_at hl 1 rfl) dX0_takeBlock_46 ?_
      refine r_iald (v := F (2 + 52 * s + 0)) C hd.c0 s (by omega) (by omega) (by omega) rfl dX0_takeBlock_47 ?_
      have b7 := hSm.1 (2 + 52 * s + 0) (by omega)
      refine r_icmp_ge (tgt := 68) C (by decide) (by omega) (by omega) dX0_takeBlock_48 (fun c8 => ?_) (fun c8 => ?_)
      · refine r_aload_n C rfl (lv_at hl 0 rfl) dX0_takeBlock_68 ?_
        refine r_vPi (rest := []) C (k_X0_freeCommonRoom l g d F hSm) s_RX0_90 hd (recv C (ci := 0) rfl hd.o) hl.1 rfl ⟨by decide, by decide⟩ rfl (Nat.le_of_ble_eq_true rfl) ⟨Nat.le_refl 0, Nat.le_refl 0⟩ dX0_takeBlock_69 ?_
        have b9 := free_b hSm
        refine r_if_le (tgt := 87) C (by decide) (by omega) dX0_takeBlock_72 (fun c10 => ?_) (fun c10 => ?_)
        · refine r_aload_n C rfl (lv_at hl 0 rfl) dX0_takeBlock_87 ?_
          refine r_iload_n C rfl (lv_at hl 1 rfl) dX0_takeBlock_88 ?_
          refine r_iload_n C rfl (lv_at hl 1 rfl) dX0_takeBlock_89 ?_
          refine r_vPi (rest := []) C (k_X0_idlestBut l g d F hSm x x s s (by omega) (by omega) (by omega) (by omega)) s_RX0_136 hd (recv C (ci := 0) rfl hd.o) hl.1 rfl ⟨by decide, by decide⟩ rfl (Nat.le_of_ble_eq_true rfl) ⟨Nat.le_refl 0, Nat.le_refl 0⟩ dX0_takeBlock_90 ?_
          have b11 := lender_b hSm s s
          refine r_istore_n (lv' := [(2, .int (iI (lender F s s))), (0, .ref d), (1, .int (iI x))]) C rfl hl (by decide) rfl dX0_takeBlock_93 (fun ls hl => ?_)
          refine r_iload_n C rfl (lv_at hl 0 rfl) dX0_takeBlock_94 ?_
          refine r_iconst C dX0_takeBlock_95 ?_
          refine r_icmp_ne (tgt := 101) C (by decide) (by omega) (by decide) dX0_takeBlock_96 (fun c12 => ?_) (fun c12 => ?_)
          · refine r_aload_n C rfl (lv_at hl 1 rfl) dX0_takeBlock_101 ?_
            refine r_get C (ci := 0) (v := .ref (d + 5)) rfl uin0 hd.o 6 (by decide) q_87 rfl rfl dX0_takeBlock_102 ?_
            refine r_iload_n C rfl (lv_at hl 2 rfl) dX0_takeBlock_105 ?_
            refine r_aaldr (v := d + 6 + s) C hd.rl s (by omega) (by omega) (by omega) rfl dX0_takeBlock_106 ?_
            refine r_iload_n C rfl (lv_at hl 0 rfl) dX0_takeBlock_107 ?_
            refine r_dup2 C rfl rfl dX0_takeBlock_108 ?_
            refine r_iald (v := F (2 + 52 * s + (7 + ((lender F s s).toNat)))) C (hd.l s (by omega)) ((lender F s s).toNat) (by omega) (by omega) (by omega) rfl dX0_takeBlock_109 ?_
            have b13 := hSm.1 (2 + 52 * s + (7 + ((lender F s s).toNat))) (by omega)
            refine r_iconst C dX0_takeBlock_110 ?_
            refine r_iadd C dX0_takeBlock_111 ?_
            refine r_iast C (hd.l s (by omega)) hF (is_dvp (by omega)) ((lender F s s).toNat) (by omega) (by omega) (by omega) dX0_takeBlock_112 (fun H14 locs14 h14 ho14 hz14 hF => ?_)
            have hd : dvAt g d (up F (2 + 52 * s + (7 + ((lender F s s).toNat))) ((F (2 + 52 * s + (7 + ((lender F s s).toNat)))) + 1)) H14 := hd.putl s ((lender F s s).toNat) (by omega) (by omega) h14 ho14
            refine r_iconst C dX0_takeBlock_113 ?_
            exact r_iretH C rfl rfl (congrArg iI (by unfold needR; rw [if_neg (by omega), if_neg (by omega), if_neg (by omega), if_neg (by omega)])) hF (by unfold needF; rw [if_neg (by omega), if_neg (by omega), if_neg (by omega), if_neg (by omega)]; exact hd) dX0_takeBlock_114
          · refine r_iconst C dX0_takeBlock_99 ?_
            exact r_iretH C rfl rfl (congrArg iI (by unfold needR; rw [if_neg (by omega), if_neg (by omega), if_neg (by omega), if_pos (by omega)])) hF (by unfold needF; rw [if_neg (by omega), if_neg (by omega), if_neg (by omega), if_pos (by omega)]; exact hd) dX0_takeBlock_100
        · refine r_aload_n C rfl (lv_at hl 0 rfl) dX0_takeBlock_75 ?_
          refine r_get C (ci := 0) (v := .ref (d + 4)) rfl uin0 hd.o 5 (by decide) q_86 rfl rfl dX0_takeBlock_76 ?_
          refine r_iload_n C rfl (lv_at hl 1 rfl) dX0_takeBlock_79 ?_
          refine r_dup2 C rfl rfl dX0_takeBlock_80 ?_
          refine r_iald (v := F (2 + 52 * s + 3)) C hd.c3 s (by omega) (by omega) (by omega) rfl dX0_takeBlock_81 ?_
          have b15 := hSm.1 (2 + 52 * s + 3) (by omega)
          refine r_iconst C dX0_takeBlock_82 ?_
          refine r_iadd C dX0_takeBlock_83 ?_
          refine r_iast C hd.c3 hF (is_dvp (by omega)) s (by omega) (by omega) (by omega) dX0_takeBlock_84 (fun H16 locs16 h16 ho16 hz16 hF => ?_)
          have hd : dvAt g d (up F (2 + 52 * s + 3) ((F (2 + 52 * s + 3)) + 1)) H16 := hd.putc 3 s (by decide) h16 ho16
          refine r_iconst C dX0_takeBlock_85 ?_
          exact r_iretH C rfl rfl (congrArg iI (by unfold needR; rw [if_neg (by omega), if_neg (by omega), if_pos (by omega)])) hF (by unfold needF; rw [if_neg (by omega), if_neg (by omega), if_pos (by omega)]; exact hd) dX0_takeBlock_86
      · refine r_aload_n C rfl (lv_at hl 0 rfl) dX0_takeBlock_51 ?_
        refine r_iload_n C rfl (lv_at hl 1 rfl) dX0_takeBlock_52 ?_
        refine r_vHn (rest := []) C (k_X0_recallLoan l g d F M hS (by omega) hZ hg x s (by omega) (by omega) hpg (by omega)) s_RX0_132 hd hF (fun _ h => h) (recv C (ci := 0) rfl hd.o) hl.1 rfl ⟨by decide, by decide⟩ rfl (Nat.le_of_ble_eq_true rfl) ⟨Nat.le_refl 0, Nat.le_refl 0⟩ dX0_takeBlock_53 (fun H17 locs17 h17 ho17 hz17 hF => ?_)
        have hd := h17
        refine r_aload_n C rfl (lv_at hl 0 rfl) dX0_takeBlock_56 ?_
        refine r_get C (ci := 0) (v := .ref (d + 3)) rfl uin0 hd.o 4 (by decide) q_85 rfl rfl dX0_takeBlock_57 ?_
        refine r_iload_n C rfl (lv_at hl 1 rfl) dX0_takeBlock_60 ?_
        refine r_dup2 C rfl rfl dX0_takeBlock_61 ?_
        refine r_iald (v := (recall F s) (2 + 52 * s + 2)) C hd.c2 s (by omega) (by omega) (by omega) rfl dX0_takeBlock_62 ?_
        refine r_iconst C dX0_takeBlock_63 ?_
        refine r_iadd C dX0_takeBlock_64 ?_
        refine r_iast C hd.c2 hF (is_dvp (by omega)) s (by omega) (by omega) (by omega) dX0_takeBlock_65 (fun H18 locs18 h18 ho18 hz18 hF => ?_)
        have hd : dvAt g d (up (recall F s) (2 + 52 * s + 2) (((recall F s) (2 + 52 * s + 2)) + 1)) H18 := hd.putc 2 s (by decide) h18 ho18
        refine r_iconst C dX0_takeBlock_66 ?_
        exact r_iretH C rfl rfl (congrArg iI (by unfold needR; rw [if_neg (by omega), if_pos (by omega), if_neg (by omega)])) hF (by unfold needF; rw [if_neg (by omega), if_pos (by omega), if_neg (by omega)]; exact hd) dX0_takeBlock_67
    · refine r_aload_n C rfl (lv_at hl 0 rfl) dX0_takeBlock_24 ?_
      refine r_get C (ci := 0) (v := .ref (d + 3)) rfl uin0 hd.o 4 (by decide) q_85 rfl rfl dX0_takeBlock_25 ?_
      refine r_iload_n C rfl (lv_at hl 1 rfl) dX0_takeBlock_28 ?_
      refine r_dup2 C rfl rfl dX0_takeBlock_29 ?_
      refine r_iald (v := F (2 + 52 * s + 2)) C hd.c2 s (by omega) (by omega) (by omega) rfl dX0_takeBlock_30 ?_
      have b19 := hSm.1 (2 + 52 * s + 2) (by omega)
      refine r_iconst C dX0_takeBlock_31 ?_
      refine r_iadd C dX0_takeBlock_32 ?_
      refine r_iast C hd.c2 hF (is_dvp (by omega)) s (by omega) (by omega) (by omega) dX0_takeBlock_33 (fun H20 locs20 h20 ho20 hz20 hF => ?_)
      have hd : dvAt g d (up F (2 + 52 * s + 2) ((F (2 + 52 * s + 2)) + 1)) H20 := hd.putc 2 s (by decide) h20 ho20
      refine r_iconst C dX0_takeBlock_34 ?_
      exact r_iretH C rfl rfl (congrArg iI (by unfold needR; rw [if_neg (by omega), if_pos (by omega), if_pos (by omega)])) hF (by unfold needF; rw [if_neg (by omega), if_pos (by omega), if_pos (by omega)]; exact hd) dX0_takeBlock_35
  · refine r_iconst C dX0_takeBlock_14 ?_
    exact r_iretH C rfl rfl (congrArg iI (by unfold needR; rw [if_pos (by omega)])) hF (by unfold needF; rw [if_pos (by omega)]; exact hd) dX0_takeBlock_15

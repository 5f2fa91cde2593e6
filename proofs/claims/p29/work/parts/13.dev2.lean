theorem s_RX0_111 : SiteV "LentRoom$Device" 111 "LentRoom$Device" yX0_smallestFloor cX0_smallestFloor 2 (some .int) 1 := ⟨⟨q_481, q_482, q_483, q_32, q_484⟩, rfl, by decide, by decide, by decide +kernel⟩
theorem s_RX0_114 : SiteV "LentRoom$Device" 114 "LentRoom$Device" yX0_greatestFloor cX0_greatestFloor 2 (some .int) 1 := ⟨⟨q_485, q_486, q_487, q_32, q_488⟩, rfl, by decide, by decide, by decide +kernel⟩
theorem s_RX0_105 : SiteV "LentRoom$Device" 105 "LentRoom$Device" yX0_areBounds cX0_areBounds 3 (some .boolean) 2 := ⟨⟨q_402, q_403, q_404, q_32, q_405⟩, rfl, by decide, by decide, by decide +kernel⟩
theorem s_RX0_83 : SiteV "LentRoom$Device" 83 "LentRoom$Device" yX0_pagesOfAll cX0_pagesOfAll 3 (some .int) 0 := ⟨⟨q_501, q_502, q_503, q_32, q_504⟩, rfl, by decide, by decide, by decide +kernel⟩
theorem s_RX0_87 : SiteV "LentRoom$Device" 87 "LentRoom$Device" yX0_commonRoom cX0_commonRoom 1 (some .int) 0 := ⟨⟨q_505, q_506, q_507, q_32, q_508⟩, rfl, by decide, by decide, by decide +kernel⟩
theorem s_RX0_93 : SiteV "LentRoom$Device" 93 "LentRoom$Device" yX0_loansOfAll cX0_loansOfAll 3 (some .int) 0 := ⟨⟨q_509, q_510, q_511, q_32, q_512⟩, rfl, by decide, by decide, by decide +kernel⟩
theorem s_RX0_96 : SiteV "LentRoom$Device" 96 "LentRoom$Device" yX0_lostByAll cX0_lostByAll 1 (some .int) 0 := ⟨⟨q_513, q_514, q_515, q_32, q_516⟩, rfl, by decide, by decide, by decide +kernel⟩
theorem s_RX0_99 : SiteV "LentRoom$Device" 99 "LentRoom$Device" yX0_lendsOf cX0_lendsOf 2 (some .int) 1 := ⟨⟨q_550, q_551, q_552, q_32, q_553⟩, rfl, by decide, by decide, by decide +kernel⟩
set_option maxHeartbeats 4000000 in
theorem k_X0_greatestFloor (l : Launch) (g : Gt) (d : Nat) (F : Nat → Int) (hSm : Sm F) (x : Int) (s : Nat) (hx : x = (s : Int)) (hs : s < 5) : CP l yX0_greatestFloor cX0_greatestFloor 2 (some .int) 2 45 g [.ref d, .int (iI x)] (dvAt g d F) (some (.int (iI (mn (F (2 + 52 * s + 1)) (F (2 + 52 * s + 0) + free F))))) := by
  refine cp_of "LentRoom$Device" (by decide) rfl (Nat.le_of_ble_eq_true rfl) ?_
  intro zp ze zs zm za zb zt zc ls C hP hl
  have hd := hP
  have hl : lv_has ls 2 [(0, .ref d), (1, .int (iI x))] := hl
  refine r_aload_n C rfl (lv_at hl 0 rfl) dX0_greatestFloor_0 ?_
  refine r_get C (ci := 0) (v := .ref (d + 2)) rfl uin0 hd.o 3 (by decide) q_83 rfl rfl dX0_greatestFloor_1 ?_
  refine r_iload_n C rfl (lv_at hl 1 rfl) dX0_greatestFloor_4 ?_
  refine r_iald (v := F (2 + 52 * s + 1)) C hd.c1 s (by omega) (by omega) (by omega) rfl dX0_greatestFloor_5 ?_
  have b1 := hSm.1 (2 + 52 * s + 1) (by omega)
  refine r_aload_n C rfl (lv_at hl 0 rfl) dX0_greatestFloor_6 ?_
  refine r_get C (ci := 0) (v := .ref (d + 1)) rfl uin0 hd.o 2 (by decide) q_81 rfl rfl dX0_greatestFloor_7 ?_
  refine r_iload_n C rfl (lv_at hl 1 rfl) dX0_greatestFloor_10 ?_
  refine r_iald (v := F (2 + 52 * s + 0)) C hd.c0 s (by omega) (by omega) (by omega) rfl dX0_greatestFloor_11 ?_
  have b2 := hSm.1 (2 + 52 * s + 0) (by omega)
  refine r_aload_n C rfl (lv_at hl 0 rfl) dX0_greatestFloor_12 ?_
  refine r_vPi (rest := [.int (iI (F (2 + 52 * s + 0))), .int (iI (F (2 + 52 * s + 1)))]) C (k_X0_freeCommonRoom l g d F hSm) s_RX0_90 hd (recv C (ci := 0) rfl hd.o) hl.1 rfl ⟨by decide, by decide⟩ rfl (Nat.le_of_ble_eq_true rfl) ⟨Nat.le_refl 0, Nat.le_refl 0⟩ dX0_greatestFloor_13 ?_
  have b3 := free_b hSm
  refine r_iadd C dX0_greatestFloor_16 ?_
  refine r_min C hl.1 q_381 q_382 q_44 q_383 (by omega) (by omega) (by decide) (Nat.le_of_ble_eq_true rfl) (Nat.le_refl 0) (Nat.le_refl 0) dX0_greatestFloor_17 ?_
  exact r_iretP C rfl rfl (congrArg iI (by rfl)) dX0_greatestFloor_20
set_option maxHeartbeats 4000000 in
theorem k_X0_takesFloor (l : Launch) (g : Gt) (d : Nat) (F : Nat → Int) (hSm : Sm F) (x v : Int) (s : Nat) (hx : Rg x) (hv : Rg v) (hs : 0 ≤ x → x = (s : Int)) : CP l yX0_takesFloor cX0_takesFloor 3 (some .boolean) 3 66 g [.ref d, .int (iI x), .int (iI v)] (dvAt g d F) (some (.int (iI (pI ((0 ≤ x ∧ x < F 0) ∧ okFl F s v))))) := by
  refine cp_of "LentRoom$Device" (by decide) rfl (Nat.le_of_ble_eq_true rfl) ?_
  intro zp ze zs zm za zb zt zc ls C hP hl
  have hd := hP
  have hl : lv_has ls 3 [(0, .ref d), (1, .int (iI x)), (2, .int (iI v))] := hl
  refine r_aload_n C rfl (lv_at hl 0 rfl) dX0_takesFloor_0 ?_
  refine r_iload_n C rfl (lv_at hl 1 rfl) dX0_takesFloor_1 ?_
  refine r_vPi (rest := []) C (k_X0_hasSpace l g d F hSm x (by omega)) s_RX0_64 hd (recv C (ci := 0) rfl hd.o) hl.1 rfl ⟨by decide, by decide⟩ rfl (Nat.le_of_ble_eq_true rfl) ⟨Nat.le_refl 0, Nat.le_refl 0⟩ dX0_takesFloor_2 ?_
  have b1 := hSm.n
  refine r_ifP_eq (tgt := 30) C (by decide) dX0_takesFloor_5 (fun c2 => ?_) (fun c2 => ?_)
  · refine r_iconst C dX0_takesFloor_30 ?_
    exact r_iretP C rfl rfl (congrArg iI (pI_f (by omega)).symm) dX0_takesFloor_31
  · refine r_iload_n C rfl (lv_at hl 2 rfl) dX0_takesFloor_8 ?_
    refine r_aload_n C rfl (lv_at hl 0 rfl) dX0_takesFloor_9 ?_
    refine r_iload_n C rfl (lv_at hl 1 rfl) dX0_takesFloor_10 ?_
    refine r_vPi (rest := [.int (iI v)]) C (k_X0_smallestFloor l g d F hSm x s (by omega) (by omega)) s_RX0_111 hd (recv C (ci := 0) rfl hd.o) hl.1 rfl ⟨by decide, by decide⟩ rfl (Nat.le_of_ble_eq_true rfl) ⟨Nat.le_refl 0, Nat.le_refl 0⟩ dX0_takesFloor_11 ?_
    have b3 := idle_b hSm s (by omega)
    have b4 := hSm.f s 0 (by omega) (by omega)
    refine r_icmp_lt (tgt := 30) C (by decide) (by omega) (by omega) dX0_takesFloor_14 (fun c5 => ?_) (fun c5 => ?_)
    · refine r_iconst C dX0_takesFloor_30 ?_
      exact r_iretP C rfl rfl (congrArg iI (pI_f (by omega)).symm) dX0_takesFloor_31
    · refine r_iload_n C rfl (lv_at hl 2 rfl) dX0_takesFloor_17 ?_
      refine r_aload_n C rfl (lv_at hl 0 rfl) dX0_takesFloor_18 ?_
      refine r_iload_n C rfl (lv_at hl 1 rfl) dX0_takesFloor_19 ?_
      refine r_vPi (rest := [.int (iI v)]) C (k_X0_greatestFloor l g d F hSm x s (by omega) (by omega)) s_RX0_114 hd (recv C (ci := 0) rfl hd.o) hl.1 rfl ⟨by decide, by decide⟩ rfl (Nat.le_of_ble_eq_true rfl) ⟨Nat.le_refl 0, Nat.le_refl 0⟩ dX0_takesFloor_20 ?_
      have b6 := hSm.f s 1 (by omega) (by omega)
      have b7 := hSm.f s 0 (by omega) (by omega)
      have b8 := free_b hSm
      have b9 := mn_b (F (2 + 52 * s + 1)) (F (2 + 52 * s + 0) + free F)
      refine r_icmp_gt (tgt := 30) C (by decide) (by omega) (by omega) dX0_takesFloor_23 (fun c10 => ?_) (fun c10 => ?_)
      · refine r_iconst C dX0_takesFloor_30 ?_
        exact r_iretP C rfl rfl (congrArg iI (pI_f (by omega)).symm) dX0_takesFloor_31
      · refine r_iconst C dX0_takesFloor_26 ?_
        refine r_goto (tgt := 31) C (by decide) dX0_takesFloor_27 ?_
        exact r_iretP C rfl rfl (congrArg iI (pI_t (by omega)).symm) dX0_takesFloor_31
set_option maxHeartbeats 4000000 in
theorem k_X0_takesCeiling (l : Launch) (g : Gt) (d : Nat) (F : Nat → Int) (hSm : Sm F) (x v : Int) (s : Nat) (hx : Rg x) (hv : Rg v) (hs : 0 ≤ x → x = (s : Int)) : CP l yX0_takesCeiling cX0_takesCeiling 3 (some .boolean) 1 22 g [.ref d, .int (iI x), .int (iI v)] (dvAt g d F) (some (.int (iI (pI ((0 ≤ x ∧ x < F 0) ∧ okCe F s v))))) := by
  refine cp_of "LentRoom$Device" (by decide) rfl (Nat.le_of_ble_eq_true rfl) ?_
  intro zp ze zs zm za zb zt zc ls C hP hl
  have hd := hP
  have hl : lv_has ls 3 [(0, .ref d), (1, .int (iI x)), (2, .int (iI v))] := hl
  refine r_aload_n C rfl (lv_at hl 0 rfl) dX0_takesCeiling_0 ?_
  refine r_iload_n C rfl (lv_at hl 1 rfl) dX0_takesCeiling_1 ?_
  refine r_vPi (rest := []) C (k_X0_hasSpace l g d F hSm x (by omega)) s_RX0_64 hd (recv C (ci := 0) rfl hd.o) hl.1 rfl ⟨by decide, by decide⟩ rfl (Nat.le_of_ble_eq_true rfl) ⟨Nat.le_refl 0, Nat.le_refl 0⟩ dX0_takesCeiling_2 ?_
  have b1 := hSm.n
  refine r_ifP_eq (tgt := 26) C (by decide) dX0_takesCeiling_5 (fun c2 => ?_) (fun c2 => ?_)
  · refine r_iconst C dX0_takesCeiling_26 ?_
    exact r_iretP C rfl rfl (congrArg iI (pI_f (by omega)).symm) dX0_takesCeiling_27
  · refine r_aload_n C rfl (lv_at hl 0 rfl) dX0_takesCeiling_8 ?_
    refine r_aload_n C rfl (lv_at hl 0 rfl) dX0_takesCeiling_9 ?_
    refine r_get C (ci := 0) (v := .ref (d + 1)) rfl uin0 hd.o 2 (by decide) q_81 rfl rfl dX0_takesCeiling_10 ?_
    refine r_iload_n C rfl (lv_at hl 1 rfl) dX0_takesCeiling_13 ?_
    refine r_iald (v := F (2 + 52 * s + 0)) C hd.c0 s (by omega) (by omega) (by omega) rfl dX0_takesCeiling_14 ?_
    have b3 := hSm.1 (2 + 52 * s + 0) (by omega)
    refine r_iload_n C rfl (lv_at hl 2 rfl) dX0_takesCeiling_15 ?_
    refine r_vPi (rest := []) C (k_X0_areBounds l g d F hSm (F (2 + 52 * s + 0)) v (by omega) (by omega)) s_RX0_105 hd (recv C (ci := 0) rfl hd.o) hl.1 rfl ⟨by decide, by decide⟩ rfl (Nat.le_of_ble_eq_true rfl) ⟨Nat.le_refl 0, Nat.le_refl 0⟩ dX0_takesCeiling_16 ?_
    refine r_ifP_eq (tgt := 26) C (by decide) dX0_takesCeiling_19 (fun c4 => ?_) (fun c4 => ?_)
    · refine r_iconst C dX0_takesCeiling_26 ?_
      exact r_iretP C rfl rfl (congrArg iI (pI_f (by omega)).symm) dX0_takesCeiling_27
    · refine r_iconst C dX0_takesCeiling_22 ?_
      refine r_goto (tgt := 27) C (by decide) dX0_takesCeiling_23 ?_
      exact r_iretP C rfl rfl (congrArg iI (pI_t (by omega)).symm) dX0_takesCeiling_27
set_option maxHeartbeats 4000000 in
theorem k_X0_firstLoserSince (l : Launch) (g : Gt) (d : Nat) (F : Nat → Int) (hSm : Sm F) (d2 : Nat) (F2 : Nat → Int) (hSm2 : Sm F2) : CP l yX0_firstLoserSince cX0_firstLoserSince 3 (some .int) 0 0 g [.ref d, .ref d2] (fun H => dvAt g d F H ∧ dvAt g d2 F2 H) (some (.int (iI (fls F F2 (F 0).toNat 0)))) := by
  refine cp_of "LentRoom$Device" (by decide) rfl (Nat.le_of_ble_eq_true rfl) ?_
  intro zp ze zs zm za zb zt zc ls C hP hl
  obtain ⟨hd, hd2⟩ := hP
  have hl : lv_has ls 3 [(0, .ref d), (1, .ref d2)] := hl
  have cut2 : ∀ (N : Nat) (i : Nat) (v2 : Int), 5 - i < N → ((i : Int) ≤ F 0) → (fls F F2 (F 0).toNat 0 = fls F F2 ((F 0).toNat - i) i) → (v2 = (i : Int)) → ∀ ls : Array Slot, lv_has ls 3 [(0, .ref d), (1, .ref d2), (2, .int (iI v2))] → W zp l ze (rmc 0 0) zs zm za zb zt zc zs.heap [] 0 0 (MQ zb (PQ (some (.int (iI (fls F F2 (F 0).toNat 0))))) za zs 0 0 (fun _ => False)) (F0 zm 2 ls []) := by
    intro N
    induction N with
    | zero => intro i v2; exact fun hms => absurd hms (Nat.not_lt_zero _)
    | succ N ih =>
      intro i v2 hms hi hq hv2 ls hl
      refine r_iload_n C rfl (lv_at hl 2 rfl) dX0_firstLoserSince_2 ?_
      refine r_aload_n C rfl (lv_at hl 0 rfl) dX0_firstLoserSince_3 ?_
      refine r_get C (ci := 0) (v := .int (iI (F 0))) rfl uin0 hd.o 0 (by decide) q_78 rfl rfl dX0_firstLoserSince_4 ?_
      have b1 := hSm.1 0 (by omega)
      have b2 := hSm.2
      refine r_icmp_ge (tgt := 33) C (by decide) (by omega) (by omega) dX0_firstLoserSince_7 (fun c3 => ?_) (fun c3 => ?_)
      · refine r_iconst C dX0_firstLoserSince_33 ?_
        exact r_iretP C rfl rfl (congrArg iI (by rw [hq, show (F 0).toNat - i = 0 by omega]; rfl)) dX0_firstLoserSince_34
      · refine r_aload_n C rfl (lv_at hl 0 rfl) dX0_firstLoserSince_10 ?_
        refine r_get C (ci := 0) (v := .ref (d + 18)) rfl uin0 hd.o 9 (by decide) q_92 rfl rfl dX0_firstLoserSince_11 ?_
        refine r_iload_n C rfl (lv_at hl 2 rfl) dX0_firstLoserSince_14 ?_
        refine r_iald (v := F (2 + 52 * i + 5)) C hd.c5 i (by omega) (by omega) (by omega) rfl dX0_firstLoserSince_15 ?_
        have b4 := hSm.1 (2 + 52 * i + 5) (by omega)
        refine r_aload_n C rfl (lv_at hl 1 rfl) dX0_firstLoserSince_16 ?_
        refine r_get C (ci := 0) (v := .ref (d2 + 18)) rfl uin0 hd2.o 9 (by decide) q_92 rfl rfl dX0_firstLoserSince_17 ?_
        refine r_iload_n C rfl (lv_at hl 2 rfl) dX0_firstLoserSince_20 ?_
        refine r_iald (v := F2 (2 + 52 * i + 5)) C hd2.c5 i (by omega) (by omega) (by omega) rfl dX0_firstLoserSince_21 ?_
        have b5 := hSm2.1 (2 + 52 * i + 5) (by omega)
        refine r_icmp_le (tgt := 27) C (by decide) (by omega) (by omega) dX0_firstLoserSince_22 (fun c6 => ?_) (fun c6 => ?_)
        · refine r_iinc (lv' := [(2, .int (iI (v2 + 1))), (0, .ref d), (1, .ref d2)]) C hl (q := 2) rfl (by decide) rfl dX0_firstLoserSince_27 (fun ls hl => ?_)
          refine r_goto (tgt := 2) C (by decide) dX0_firstLoserSince_30 ?_
          exact ih (i + 1) (v2 + 1) (by omega) (by omega) (by rw [hq, show (F 0).toNat - i = ((F 0).toNat - (i + 1)) + 1 by omega]; simp only [fls]; rw [if_neg (by omega)]) (by omega) _ (lv_sub hl [1, 2, 0] rfl)
        · refine r_iload_n C rfl (lv_at hl 2 rfl) dX0_firstLoserSince_25 ?_
          exact r_iretP C rfl rfl (congrArg iI (by rw [hq, show (F 0).toNat - i = ((F 0).toNat - (i + 1)) + 1 by omega]; simp only [fls]; rw [if_pos (by omega), hv2])) dX0_firstLoserSince_26
  refine r_iconst C dX0_firstLoserSince_0 ?_
  refine r_istore_n (lv' := [(2, .int (iI 0)), (0, .ref d), (1, .ref d2)]) C rfl hl (by decide) rfl dX0_firstLoserSince_1 (fun ls hl => ?_)
  exact cut2 _ 0 0 (Nat.lt_succ_self _) (by have := hSm.n; omega) (by rfl) (by omega) _ (lv_sub hl [1, 2, 0] rfl)
set_option maxHeartbeats 4000000 in
theorem k_X0_numberOfAll (l : Launch) (g : Gt) (d : Nat) (F : Nat → Int) (hSm : Sm F) (hZ : Zr F) (w : Int) (hw : 0 ≤ w ∧ w ≤ 8) : CP l yX0_numberOfAll cX0_numberOfAll 2 (some .int) 3 68 g [.ref d, .int (iI w)] (dvAt g d F) (some (.int (iI (nAll F w)))) := by
  refine cp_of "LentRoom$Device" (by decide) rfl (Nat.le_of_ble_eq_true rfl) ?_
  intro zp ze zs zm za zb zt zc ls C hP hl
  have hd := hP
  have hl : lv_has ls 2 [(0, .ref d), (1, .int (iI w))] := hl
  refine r_iload_n C rfl (lv_at hl 1 rfl) dX0_numberOfAll_0 ?_
  by_cases e1 : w = 0
  · refine r_tsIn (tgt := 48) C (by omega) 0 e1 (by decide) (by decide) rfl (by decide) dX0_numberOfAll_1 ?_
    refine r_aload_n C rfl (lv_at hl 0 rfl) dX0_numberOfAll_48 ?_
    refine r_get C (ci := 0) (v := .int (iI (F 0))) rfl uin0 hd.o 0 (by decide) q_78 rfl rfl dX0_numberOfAll_49 ?_
    have b2 := hSm.1 0 (by omega)
    have b3 := hSm.2
    exact r_iretP C rfl rfl (congrArg iI (by unfold nAll; rw [if_pos (by omega)])) dX0_numberOfAll_52
  by_cases e4 : w = 1
  · refine r_tsIn (tgt := 53) C (by omega) 1 e4 (by decide) (by decide) rfl (by decide) dX0_numberOfAll_1 ?_
    refine r_aload_n C rfl (lv_at hl 0 rfl) dX0_numberOfAll_53 ?_
    refine r_vPi (rest := []) C (k_X0_pagesOfAll l g d F hSm hZ) s_RX0_83 hd (recv C (ci := 0) rfl hd.o) hl.1 rfl ⟨by decide, by decide⟩ rfl (Nat.le_of_ble_eq_true rfl) ⟨Nat.le_refl 0, Nat.le_refl 0⟩ dX0_numberOfAll_54 ?_
    have b5 := tkA_b hSm
    exact r_iretP C rfl rfl (congrArg iI (by unfold nAll; rw [if_neg (by omega), if_pos (by omega)])) dX0_numberOfAll_57
  by_cases e6 : w = 2
  · refine r_tsIn (tgt := 58) C (by omega) 2 e6 (by decide) (by decide) rfl (by decide) dX0_numberOfAll_1 ?_
    refine r_aload_n C rfl (lv_at hl 0 rfl) dX0_numberOfAll_58 ?_
    refine r_vPi (rest := []) C (k_X0_commonRoom l g d F hSm) s_RX0_87 hd (recv C (ci := 0) rfl hd.o) hl.1 rfl ⟨by decide, by decide⟩ rfl (Nat.le_of_ble_eq_true rfl) ⟨Nat.le_refl 0, Nat.le_refl 0⟩ dX0_numberOfAll_59 ?_
    exact r_iretP C rfl rfl (congrArg iI (by unfold nAll; rw [if_neg (by omega), if_neg (by omega), if_pos (by omega)])) dX0_numberOfAll_62
  by_cases e7 : w = 3
  · refine r_tsIn (tgt := 63) C (by omega) 3 e7 (by decide) (by decide) rfl (by decide) dX0_numberOfAll_1 ?_
    refine r_aload_n C rfl (lv_at hl 0 rfl) dX0_numberOfAll_63 ?_
    refine r_vPi (rest := []) C (k_X0_freeCommonRoom l g d F hSm) s_RX0_90 hd (recv C (ci := 0) rfl hd.o) hl.1 rfl ⟨by decide, by decide⟩ rfl (Nat.le_of_ble_eq_true rfl) ⟨Nat.le_refl 0, Nat.le_refl 0⟩ dX0_numberOfAll_64 ?_
    have b8 := free_b hSm
    exact r_iretP C rfl rfl (congrArg iI (by unfold nAll; rw [if_neg (by omega), if_neg (by omega), if_neg (by omega), if_pos (by omega)])) dX0_numberOfAll_67
  by_cases e9 : w = 4
  · refine r_tsIn (tgt := 68) C (by omega) 4 e9 (by decide) (by decide) rfl (by decide) dX0_numberOfAll_1 ?_
    refine r_aload_n C rfl (lv_at hl 0 rfl) dX0_numberOfAll_68 ?_
    refine r_vPi (rest := []) C (k_X0_loansOfAll l g d F hSm hZ) s_RX0_93 hd (recv C (ci := 0) rfl hd.o) hl.1 rfl ⟨by decide, by decide⟩ rfl (Nat.le_of_ble_eq_true rfl) ⟨Nat.le_refl 0, Nat.le_refl 0⟩ dX0_numberOfAll_69 ?_
    exact r_iretP C rfl rfl (congrArg iI (by unfold nAll; rw [if_neg (by omega), if_neg (by omega), if_neg (by omega), if_neg (by omega), if_pos (by omega)])) dX0_numberOfAll_72
  by_cases e10 : w = 5
  · refine r_tsIn (tgt := 73) C (by omega) 5 e10 (by decide) (by decide) rfl (by decide) dX0_numberOfAll_1 ?_
    refine r_aload_n C rfl (lv_at hl 0 rfl) dX0_numberOfAll_73 ?_
    refine r_get C (ci := 0) (v := .int (iI (F 1))) rfl uin0 hd.o 1 (by decide) q_80 rfl rfl dX0_numberOfAll_74 ?_
    have b11 := hSm.1 1 (by omega)
    exact r_iretP C rfl rfl (congrArg iI (by unfold nAll; rw [if_neg (by omega), if_neg (by omega), if_neg (by omega), if_neg (by omega), if_neg (by omega), if_pos (by omega)])) dX0_numberOfAll_77
  by_cases e12 : w = 6
  · refine r_tsIn (tgt := 78) C (by omega) 6 e12 (by decide) (by decide) rfl (by decide) dX0_numberOfAll_1 ?_
    refine r_aload_n C rfl (lv_at hl 0 rfl) dX0_numberOfAll_78 ?_
    refine r_get C (ci := 0) (v := .ref (d + 17)) rfl uin0 hd.o 8 (by decide) q_91 rfl rfl dX0_numberOfAll_79 ?_
    refine r_sPi (rest := []) C (k_X0_sum l g (d + 17) 5 (fun z => F (2 + 52 * z + 4)) 1000000 (by omega) (by omega) (fun z hz => hSm.f z 4 hz (by omega))) s_RX0_72 hd.c4 hl.1 rfl ⟨by decide, by decide⟩ rfl (Nat.le_of_ble_eq_true rfl) ⟨Nat.le_refl 0, Nat.le_refl 0⟩ dX0_numberOfAll_82 ?_
    exact r_iretP C rfl rfl (congrArg iI (by unfold nAll; rw [if_neg (by omega), if_neg (by omega), if_neg (by omega), if_neg (by omega), if_neg (by omega), if_neg (by omega), if_pos (by omega)]; rfl)) dX0_numberOfAll_85
  by_cases e13 : w = 7
  · refine r_tsIn (tgt := 86) C (by omega) 7 e13 (by decide) (by decide) rfl (by decide) dX0_numberOfAll_1 ?_
    refine r_aload_n C rfl (lv_at hl 0 rfl) dX0_numberOfAll_86 ?_
    refine r_vPi (rest := []) C (k_X0_lostByAll l g d F hSm) s_RX0_96 hd (recv C (ci := 0) rfl hd.o) hl.1 rfl ⟨by decide, by decide⟩ rfl (Nat.le_of_ble_eq_true rfl) ⟨Nat.le_refl 0, Nat.le_refl 0⟩ dX0_numberOfAll_87 ?_
    have b14 := S5_b hSm 5 (by omega)
    exact r_iretP C rfl rfl (congrArg iI (by unfold nAll; rw [if_neg (by omega), if_neg (by omega), if_neg (by omega), if_neg (by omega), if_neg (by omega), if_neg (by omega), if_neg (by omega), if_pos (by omega)])) dX0_numberOfAll_90
  refine r_tsOut (tgt := 91) C (by omega) (by omega) (by decide) dX0_numberOfAll_1 ?_
  refine r_aload_n C rfl (lv_at hl 0 rfl) dX0_numberOfAll_91 ?_
  refine r_get C (ci := 0) (v := .ref (d + 19)) rfl uin0 hd.o 10 (by decide) q_93 rfl rfl dX0_numberOfAll_92 ?_
  refine r_sPi (rest := []) C (k_X0_sum l g (d + 19) 5 (fun z => F (2 + 52 * z + 6)) 1000000 (by omega) (by omega) (fun z hz => hSm.f z 6 hz (by omega))) s_RX0_72 hd.c6 hl.1 rfl ⟨by decide, by decide⟩ rfl (Nat.le_of_ble_eq_true rfl) ⟨Nat.le_refl 0, Nat.le_refl 0⟩ dX0_numberOfAll_95 ?_
  exact r_iretP C rfl rfl (congrArg iI (by unfold nAll; rw [if_neg (by omega), if_neg (by omega), if_neg (by omega), if_neg (by omega), if_neg (by omega), if_neg (by omega), if_neg (by omega), if_neg (by omega)]; rfl)) dX0_numberOfAll_98
set_option maxHeartbeats 4000000 in
theorem k_X0_sizeOf (l : Launch) (g : Gt) (d : Nat) (F : Nat → Int) (hSm : Sm F) (x : Int) (s : Nat) (hx : x = (s : Int)) (hs : s < 5) (w : Int) (hw : 0 ≤ w ∧ w ≤ 7) : CP l yX0_sizeOf cX0_sizeOf 3 (some .int) 2 46 g [.ref d, .int (iI x), .int (iI w)] (dvAt g d F) (some (.int (iI (nOf F s w)))) := by
  refine cp_of "LentRoom$Device" (by decide) rfl (Nat.le_of_ble_eq_true rfl) ?_
  intro zp ze zs zm za zb zt zc ls C hP hl
  have hd := hP
  have hl : lv_has ls 3 [(0, .ref d), (1, .int (iI x)), (2, .int (iI w))] := hl
  refine r_iload_n C rfl (lv_at hl 2 rfl) dX0_sizeOf_0 ?_
  by_cases e1 : w = 0
  · refine r_tsIn (tgt := 44) C (by omega) 0 e1 (by decide) (by decide) rfl (by decide) dX0_sizeOf_1 ?_
    refine r_aload_n C rfl (lv_at hl 0 rfl) dX0_sizeOf_44 ?_
    refine r_get C (ci := 0) (v := .ref (d + 1)) rfl uin0 hd.o 2 (by decide) q_81 rfl rfl dX0_sizeOf_45 ?_
    refine r_iload_n C rfl (lv_at hl 1 rfl) dX0_sizeOf_48 ?_
    refine r_iald (v := F (2 + 52 * s + 0)) C hd.c0 s (by omega) (by omega) (by omega) rfl dX0_sizeOf_49 ?_
    have b2 := hSm.1 (2 + 52 * s + 0) (by omega)
    exact r_iretP C rfl rfl (congrArg iI (by unfold nOf; rw [if_pos (by omega)])) dX0_sizeOf_50
  by_cases e3 : w = 1
  · refine r_tsIn (tgt := 51) C (by omega) 1 e3 (by decide) (by decide) rfl (by decide) dX0_sizeOf_1 ?_
    refine r_aload_n C rfl (lv_at hl 0 rfl) dX0_sizeOf_51 ?_
    refine r_get C (ci := 0) (v := .ref (d + 2)) rfl uin0 hd.o 3 (by decide) q_83 rfl rfl dX0_sizeOf_52 ?_
    refine r_iload_n C rfl (lv_at hl 1 rfl) dX0_sizeOf_55 ?_
    refine r_iald (v := F (2 + 52 * s + 1)) C hd.c1 s (by omega) (by omega) (by omega) rfl dX0_sizeOf_56 ?_
    have b4 := hSm.1 (2 + 52 * s + 1) (by omega)
    exact r_iretP C rfl rfl (congrArg iI (by unfold nOf; rw [if_neg (by omega), if_pos (by omega)])) dX0_sizeOf_57
  by_cases e5 : w = 2
  · refine r_tsIn (tgt := 58) C (by omega) 2 e5 (by decide) (by decide) rfl (by decide) dX0_sizeOf_1 ?_
    refine r_aload_n C rfl (lv_at hl 0 rfl) dX0_sizeOf_58 ?_
    refine r_iload_n C rfl (lv_at hl 1 rfl) dX0_sizeOf_59 ?_
    refine r_vPi (rest := []) C (k_X0_pagesOf l g d F hSm x s (by omega) (by omega)) s_RX0_76 hd (recv C (ci := 0) rfl hd.o) hl.1 rfl ⟨by decide, by decide⟩ rfl (Nat.le_of_ble_eq_true rfl) ⟨Nat.le_refl 0, Nat.le_refl 0⟩ dX0_sizeOf_60 ?_
    have b6 := tk_b hSm s (by omega)
    exact r_iretP C rfl rfl (congrArg iI (by unfold nOf; rw [if_neg (by omega), if_neg (by omega), if_pos (by omega)])) dX0_sizeOf_63
  by_cases e7 : w = 3
  · refine r_tsIn (tgt := 64) C (by omega) 3 e7 (by decide) (by decide) rfl (by decide) dX0_sizeOf_1 ?_
    refine r_aload_n C rfl (lv_at hl 0 rfl) dX0_sizeOf_64 ?_
    refine r_get C (ci := 0) (v := .ref (d + 3)) rfl uin0 hd.o 4 (by decide) q_85 rfl rfl dX0_sizeOf_65 ?_
    refine r_iload_n C rfl (lv_at hl 1 rfl) dX0_sizeOf_68 ?_
    refine r_iald (v := F (2 + 52 * s + 2)) C hd.c2 s (by omega) (by omega) (by omega) rfl dX0_sizeOf_69 ?_
    have b8 := hSm.1 (2 + 52 * s + 2) (by omega)
    exact r_iretP C rfl rfl (congrArg iI (by unfold nOf; rw [if_neg (by omega), if_neg (by omega), if_neg (by omega), if_pos (by omega)])) dX0_sizeOf_70
  by_cases e9 : w = 4
  · refine r_tsIn (tgt := 71) C (by omega) 4 e9 (by decide) (by decide) rfl (by decide) dX0_sizeOf_1 ?_
    refine r_aload_n C rfl (lv_at hl 0 rfl) dX0_sizeOf_71 ?_
    refine r_get C (ci := 0) (v := .ref (d + 4)) rfl uin0 hd.o 5 (by decide) q_86 rfl rfl dX0_sizeOf_72 ?_
    refine r_iload_n C rfl (lv_at hl 1 rfl) dX0_sizeOf_75 ?_
    refine r_iald (v := F (2 + 52 * s + 3)) C hd.c3 s (by omega) (by omega) (by omega) rfl dX0_sizeOf_76 ?_
    have b10 := hSm.1 (2 + 52 * s + 3) (by omega)
    exact r_iretP C rfl rfl (congrArg iI (by unfold nOf; rw [if_neg (by omega), if_neg (by omega), if_neg (by omega), if_neg (by omega), if_pos (by omega)])) dX0_sizeOf_77
  by_cases e11 : w = 5
  · refine r_tsIn (tgt := 78) C (by omega) 5 e11 (by decide) (by decide) rfl (by decide) dX0_sizeOf_1 ?_
    refine r_aload_n C rfl (lv_at hl 0 rfl) dX0_sizeOf_78 ?_
    refine r_get C (ci := 0) (v := .ref (d + 5)) rfl uin0 hd.o 6 (by decide) q_87 rfl rfl dX0_sizeOf_79 ?_
    refine r_iload_n C rfl (lv_at hl 1 rfl) dX0_sizeOf_82 ?_
    refine r_aaldr (v := d + 6 + s) C hd.rl s (by omega) (by omega) (by omega) rfl dX0_sizeOf_83 ?_
    refine r_sPi (rest := []) C (k_X0_sum l g (d + 6 + s) 5 (fun z => F (2 + 52 * s + (7 + z))) 1000000 (by omega) (by omega) (fun z hz => hSm.f s (7 + z) (by omega) (by omega))) s_RX0_72 (hd.l s (by omega)) hl.1 rfl ⟨by decide, by decide⟩ rfl (Nat.le_of_ble_eq_true rfl) ⟨Nat.le_refl 0, Nat.le_refl 0⟩ dX0_sizeOf_84 ?_
    exact r_iretP C rfl rfl (congrArg iI (by unfold nOf; rw [if_neg (by omega), if_neg (by omega), if_neg (by omega), if_neg (by omega), if_neg (by omega), if_pos (by omega)]; rfl)) dX0_sizeOf_87
  by_cases e12 : w = 6
  · refine r_tsIn (tgt := 88) C (by omega) 6 e12 (by decide) (by decide) rfl (by decide) dX0_sizeOf_1 ?_
    refine r_aload_n C rfl (lv_at hl 0 rfl) dX0_sizeOf_88 ?_
    refine r_iload_n C rfl (lv_at hl 1 rfl) dX0_sizeOf_89 ?_
    refine r_vPi (rest := []) C (k_X0_lendsOf l g d F hSm x s (by omega) (by omega)) s_RX0_99 hd (recv C (ci := 0) rfl hd.o) hl.1 rfl ⟨by decide, by decide⟩ rfl (Nat.le_of_ble_eq_true rfl) ⟨Nat.le_refl 0, Nat.le_refl 0⟩ dX0_sizeOf_90 ?_
    exact r_iretP C rfl rfl (congrArg iI (by unfold nOf; rw [if_neg (by omega), if_neg (by omega), if_neg (by omega), if_neg (by omega), if_neg (by omega), if_neg (by omega), if_pos (by omega)])) dX0_sizeOf_93
  refine r_tsOut (tgt := 94) C (by omega) (by omega) (by decide) dX0_sizeOf_1 ?_
  refine r_aload_n C rfl (lv_at hl 0 rfl) dX0_sizeOf_94 ?_
  refine r_iload_n C rfl (lv_at hl 1 rfl) dX0_sizeOf_95 ?_
  refine r_vPi (rest := []) C (k_X0_idleOf l g d F hSm x s (by omega) (by omega)) s_RX0_80 hd (recv C (ci := 0) rfl hd.o) hl.1 rfl ⟨by decide, by decide⟩ rfl (Nat.le_of_ble_eq_true rfl) ⟨Nat.le_refl 0, Nat.le_refl 0⟩ dX0_sizeOf_96 ?_
  have b13 := idle_b hSm s (by omega)
  exact r_iretP C rfl rfl (congrArg iI (by unfold nOf; rw [if_neg (by omega), if_neg (by omega), if_neg (by omega), if_neg (by omega), if_neg (by omega), if_neg (by omega), if_neg (by omega), if_pos (by omega)])) dX0_sizeOf_99
set_option maxHeartbeats 4000000 in
theorem k_X0_countOf (l : Launch) (g : Gt) (d : Nat) (F : Nat → Int) (hSm : Sm F) (x : Int) (s : Nat) (hx : x = (s : Int)) (hs : s < 5) (w : Int) (hw : 8 ≤ w ∧ w ≤ 10) : CP l yX0_countOf cX0_countOf 3 (some .int) 0 0 g [.ref d, .int (iI x), .int (iI w)] (dvAt g d F) (some (.int (iI (nOf F s w)))) := by
  refine cp_of "LentRoom$Device" (by decide) rfl (Nat.le_of_ble_eq_true rfl) ?_
  intro zp ze zs zm za zb zt zc ls C hP hl
  have hd := hP
  have hl : lv_has ls 3 [(0, .ref d), (1, .int (iI x)), (2, .int (iI w))] := hl
  refine r_iload_n C rfl (lv_at hl 2 rfl) dX0_countOf_0 ?_
  by_cases e1 : w = 8
  · refine r_lk (tgt := 28) (off := 27) C (by omega) (by decide) (by rw [e1]; rfl) (by decide) dX0_countOf_1 ?_
    refine r_aload_n C rfl (lv_at hl 0 rfl) dX0_countOf_28 ?_
    refine r_get C (ci := 0) (v := .ref (d + 17)) rfl uin0 hd.o 8 (by decide) q_91 rfl rfl dX0_countOf_29 ?_
    refine r_iload_n C rfl (lv_at hl 1 rfl) dX0_countOf_32 ?_
    refine r_iald (v := F (2 + 52 * s + 4)) C hd.c4 s (by omega) (by omega) (by omega) rfl dX0_countOf_33 ?_
    have b2 := hSm.1 (2 + 52 * s + 4) (by omega)
    exact r_iretP C rfl rfl (congrArg iI (by unfold nOf; rw [if_neg (by omega), if_neg (by omega), if_neg (by omega), if_neg (by omega), if_neg (by omega), if_neg (by omega), if_neg (by omega), if_neg (by omega), if_pos (by omega)])) dX0_countOf_34
  by_cases e3 : w = 9
  · refine r_lk (tgt := 35) (off := 34) C (by omega) (by decide) (by rw [e3]; rfl) (by decide) dX0_countOf_1 ?_
    refine r_aload_n C rfl (lv_at hl 0 rfl) dX0_countOf_35 ?_
    refine r_get C (ci := 0) (v := .ref (d + 18)) rfl uin0 hd.o 9 (by decide) q_92 rfl rfl dX0_countOf_36 ?_
    refine r_iload_n C rfl (lv_at hl 1 rfl) dX0_countOf_39 ?_
    refine r_iald (v := F (2 + 52 * s + 5)) C hd.c5 s (by omega) (by omega) (by omega) rfl dX0_countOf_40 ?_
    have b4 := hSm.1 (2 + 52 * s + 5) (by omega)
    exact r_iretP C rfl rfl (congrArg iI (by unfold nOf; rw [if_neg (by omega), if_neg (by omega), if_neg (by omega), if_neg (by omega), if_neg (by omega), if_neg (by omega), if_neg (by omega), if_neg (by omega), if_neg (by omega), if_pos (by omega)])) dX0_countOf_41
  refine r_lk (tgt := 42) (off := 41) C (by omega) (by decide) (by show (if (8 : Int) = w then 27 else if (9 : Int) = w then 34 else 41) = _; rw [if_neg (by omega), if_neg (by omega)]) (by decide) dX0_countOf_1 ?_
  refine r_aload_n C rfl (lv_at hl 0 rfl) dX0_countOf_42 ?_
  refine r_get C (ci := 0) (v := .ref (d + 19)) rfl uin0 hd.o 10 (by decide) q_93 rfl rfl dX0_countOf_43 ?_
  refine r_iload_n C rfl (lv_at hl 1 rfl) dX0_countOf_46 ?_
  refine r_iald (v := F (2 + 52 * s + 6)) C hd.c6 s (by omega) (by omega) (by omega) rfl dX0_countOf_47 ?_
  have b5 := hSm.1 (2 + 52 * s + 6) (by omega)
  exact r_iretP C rfl rfl (congrArg iI (by unfold nOf; rw [if_neg (by omega), if_neg (by omega), if_neg (by omega), if_neg (by omega), if_neg (by omega), if_neg (by omega), if_neg (by omega), if_neg (by omega), if_neg (by omega), if_neg (by omega)])) dX0_countOf_48

theorem s_RX0_64 : SiteV "LentRoom$Device" 64 "LentRoom$Device" yX0_hasSpace cX0_hasSpace 2 (some .boolean) 1 := ⟨⟨q_425, q_426, q_427, q_32, q_428⟩, rfl, by decide, by decide, by decide +kernel⟩
theorem s_RX0_68 : SiteV "LentRoom$Device" 68 "LentRoom$Device" yX0_hasPage cX0_hasPage 3 (some .boolean) 2 := ⟨⟨q_421, q_422, q_423, q_32, q_424⟩, rfl, by decide, by decide, by decide +kernel⟩
theorem s_RX0_72 : SiteS "LentRoom$Device" 72 yX0_sum cX0_sum 6 (some .int) 1 := ⟨⟨q_414, q_415, q_32, q_416⟩, by decide, by decide, by decide +kernel⟩
theorem s_RX0_76 : SiteV "LentRoom$Device" 76 "LentRoom$Device" yX0_pagesOf cX0_pagesOf 2 (some .int) 1 := ⟨⟨q_437, q_438, q_439, q_32, q_440⟩, rfl, by decide, by decide, by decide +kernel⟩
theorem s_RX0_80 : SiteV "LentRoom$Device" 80 "LentRoom$Device" yX0_idleOf cX0_idleOf 4 (some .int) 1 := ⟨⟨q_441, q_442, q_443, q_32, q_444⟩, rfl, by decide, by decide, by decide +kernel⟩
theorem s_RX0_102 : SiteV "LentRoom$Device" 102 "LentRoom$Device" yX0_oldestAfter cX0_oldestAfter 5 (some .int) 2 := ⟨⟨q_461, q_463, q_7, q_32, q_464⟩, rfl, by decide, by decide, by decide +kernel⟩
theorem s_RX0_90 : SiteV "LentRoom$Device" 90 "LentRoom$Device" yX0_freeCommonRoom cX0_freeCommonRoom 1 (some .int) 0 := ⟨⟨q_410, q_411, q_412, q_32, q_413⟩, rfl, by decide, by decide, by decide +kernel⟩
set_option maxHeartbeats 4000000 in
theorem k_X0_sum (l : Launch) (g : Gt) (a n : Nat) (f : Nat → Int) (M : Int) (hn : n ≤ 60) (hM : 0 ≤ M ∧ M ≤ 1000000) (hb : ∀ k, k < n → 0 ≤ f k ∧ f k ≤ M) : CP l yX0_sum cX0_sum 6 (some .int) 0 0 g [.ref a] (aAt g a n f) (some (.int (iI (sumI f n)))) := by
  refine cp_of "LentRoom$Device" (by decide) rfl (Nat.le_of_ble_eq_true rfl) ?_
  intro zp ze zs zm za zb zt zc ls C hP hl
  have ha := hP
  have hl : lv_has ls 6 [(0, .ref a)] := hl
  have cut10 : ∀ (N : Nat) (i : Nat) (v1 : Int) (v4 : Int), n - i < N → (i ≤ n) → (v1 = sumI f i) → (v4 = (i : Int)) → ∀ ls : Array Slot, lv_has ls 6 [(0, .ref a), (1, .int (iI v1)), (2, .ref a), (3, .int (iI (n : Int))), (4, .int (iI v4))] → W zp l ze (rmc 0 0) zs zm za zb zt zc zs.heap [] 0 0 (MQ zb (PQ (some (.int (iI (sumI f n))))) za zs 0 0 (fun _ => False)) (F0 zm 10 ls []) := by
    intro N
    induction N with
    | zero => intro i v1 v4; exact fun hms => absurd hms (Nat.not_lt_zero _)
    | succ N ih =>
      intro i v1 v4 hms hi hv1 hv4 ls hl
      refine r_iload C (lv_at hl 4 rfl) dX0_sum_10 ?_
      refine r_iload_n C rfl (lv_at hl 3 rfl) dX0_sum_12 ?_
      refine r_icmp_ge (tgt := 33) C (by decide) (by omega) (by omega) dX0_sum_13 (fun c1 => ?_) (fun c1 => ?_)
      · refine r_iload_n C rfl (lv_at hl 1 rfl) dX0_sum_33 ?_
        exact r_iretP C rfl rfl (congrArg iI (by rw [hv1, show i = n by omega])) dX0_sum_34
      · refine r_aload_n C rfl (lv_at hl 2 rfl) dX0_sum_16 ?_
        refine r_iload C (lv_at hl 4 rfl) dX0_sum_17 ?_
        refine r_iald (v := f i) C ha i (by omega) (by omega) (by omega) rfl dX0_sum_19 ?_
        have b2 := hb i (by omega)
        refine r_istore (lv' := [(5, .int (iI (f i))), (0, .ref a), (1, .int (iI v1)), (2, .ref a), (3, .int (iI (n : Int))), (4, .int (iI v4))]) C hl (by decide) rfl dX0_sum_20 (fun ls hl => ?_)
        refine r_iload_n C rfl (lv_at hl 2 rfl) dX0_sum_22 ?_
        refine r_iload C (lv_at hl 0 rfl) dX0_sum_23 ?_
        refine r_iadd C dX0_sum_25 ?_
        refine r_istore_n (lv' := [(1, .int (iI (v1 + (f i)))), (5, .int (iI (f i))), (0, .ref a), (2, .ref a), (3, .int (iI (n : Int))), (4, .int (iI v4))]) C rfl hl (by decide) rfl dX0_sum_26 (fun ls hl => ?_)
        refine r_iinc (lv' := [(4, .int (iI (v4 + 1))), (1, .int (iI (v1 + (f i)))), (5, .int (iI (f i))), (0, .ref a), (2, .ref a), (3, .int (iI (n : Int)))]) C hl (q := 5) rfl (by decide) rfl dX0_sum_27 (fun ls hl => ?_)
        refine r_goto (tgt := 10) C (by decide) dX0_sum_30 ?_
        exact ih (i + 1) (v1 + (f i)) (v4 + 1) (by omega) (by omega) (by rw [sumI, hv1]) (by omega) _ (lv_sub hl [3, 1, 4, 5, 0] rfl)
  refine r_iconst C dX0_sum_0 ?_
  refine r_istore_n (lv' := [(1, .int (iI 0)), (0, .ref a)]) C rfl hl (by decide) rfl dX0_sum_1 (fun ls hl => ?_)
  refine r_aload_n C rfl (lv_at hl 1 rfl) dX0_sum_2 ?_
  refine r_astore_n (lv' := [(2, .ref a), (1, .int (iI 0)), (0, .ref a)]) C rfl hl (by decide) rfl dX0_sum_3 (fun ls hl => ?_)
  refine r_aload_n C rfl (lv_at hl 0 rfl) dX0_sum_4 ?_
  refine r_alen C ha dX0_sum_5 ?_
  refine r_istore_n (lv' := [(3, .int (iI (n : Int))), (2, .ref a), (1, .int (iI 0)), (0, .ref a)]) C rfl hl (by decide) rfl dX0_sum_6 (fun ls hl => ?_)
  refine r_iconst C dX0_sum_7 ?_
  refine r_istore (lv' := [(4, .int (iI 0)), (3, .int (iI (n : Int))), (2, .ref a), (1, .int (iI 0)), (0, .ref a)]) C hl (by decide) rfl dX0_sum_8 (fun ls hl => ?_)
  exact cut10 _ 0 0 0 (Nat.lt_succ_self _) (by omega) (by rfl) (by omega) _ (lv_sub hl [4, 3, 2, 1, 0] rfl)
set_option maxHeartbeats 4000000 in
theorem k_X0_hasSpace (l : Launch) (g : Gt) (d : Nat) (F : Nat → Int) (hSm : Sm F) (x : Int) (hx : Rg x) : CP l yX0_hasSpace cX0_hasSpace 2 (some .boolean) 0 0 g [.ref d, .int (iI x)] (dvAt g d F) (some (.int (iI (pI (0 ≤ x ∧ x < F 0))))) := by
  refine cp_of "LentRoom$Device" (by decide) rfl (Nat.le_of_ble_eq_true rfl) ?_
  intro zp ze zs zm za zb zt zc ls C hP hl
  have hd := hP
  have hl : lv_has ls 2 [(0, .ref d), (1, .int (iI x))] := hl
  refine r_iload_n C rfl (lv_at hl 1 rfl) dX0_hasSpace_0 ?_
  refine r_if_lt (tgt := 16) C (by decide) (by omega) dX0_hasSpace_1 (fun c1 => ?_) (fun c1 => ?_)
  · refine r_iconst C dX0_hasSpace_16 ?_
    exact r_iretP C rfl rfl (congrArg iI (pI_f (by omega)).symm) dX0_hasSpace_17
  · refine r_iload_n C rfl (lv_at hl 1 rfl) dX0_hasSpace_4 ?_
    refine r_aload_n C rfl (lv_at hl 0 rfl) dX0_hasSpace_5 ?_
    refine r_get C (ci := 0) (v := .int (iI (F 0))) rfl uin0 hd.o 0 (by decide) q_78 rfl rfl dX0_hasSpace_6 ?_
    have b2 := hSm.1 0 (by omega)
    have b3 := hSm.2
    refine r_icmp_ge (tgt := 16) C (by decide) (by omega) (by omega) dX0_hasSpace_9 (fun c4 => ?_) (fun c4 => ?_)
    · refine r_iconst C dX0_hasSpace_16 ?_
      exact r_iretP C rfl rfl (congrArg iI (pI_f (by omega)).symm) dX0_hasSpace_17
    · refine r_iconst C dX0_hasSpace_12 ?_
      refine r_goto (tgt := 17) C (by decide) dX0_hasSpace_13 ?_
      exact r_iretP C rfl rfl (congrArg iI (pI_t (by omega)).symm) dX0_hasSpace_17
set_option maxHeartbeats 4000000 in
theorem k_X0_hasPage (l : Launch) (g : Gt) (d : Nat) (F : Nat → Int) (hSm : Sm F) (x p : Int) (hx : Rg x) (hp : Rg p) : CP l yX0_hasPage cX0_hasPage 3 (some .boolean) 1 21 g [.ref d, .int (iI x), .int (iI p)] (dvAt g d F) (some (.int (iI (pI (0 ≤ x ∧ x < F 0 ∧ 0 ≤ p ∧ p < 40))))) := by
  refine cp_of "LentRoom$Device" (by decide) rfl (Nat.le_of_ble_eq_true rfl) ?_
  intro zp ze zs zm za zb zt zc ls C hP hl
  have hd := hP
  have hl : lv_has ls 3 [(0, .ref d), (1, .int (iI x)), (2, .int (iI p))] := hl
  refine r_aload_n C rfl (lv_at hl 0 rfl) dX0_hasPage_0 ?_
  refine r_iload_n C rfl (lv_at hl 1 rfl) dX0_hasPage_1 ?_
  refine r_vPi (rest := []) C (k_X0_hasSpace l g d F hSm x (by omega)) s_RX0_64 hd (recv C (ci := 0) rfl hd.o) hl.1 rfl ⟨by decide, by decide⟩ rfl (Nat.le_of_ble_eq_true rfl) ⟨Nat.le_refl 0, Nat.le_refl 0⟩ dX0_hasPage_2 ?_
  have b1 := hSm.n
  refine r_ifP_eq (tgt := 22) C (by decide) dX0_hasPage_5 (fun c2 => ?_) (fun c2 => ?_)
  · refine r_iconst C dX0_hasPage_22 ?_
    exact r_iretP C rfl rfl (congrArg iI (pI_f (by omega)).symm) dX0_hasPage_23
  · refine r_iload_n C rfl (lv_at hl 2 rfl) dX0_hasPage_8 ?_
    refine r_if_lt (tgt := 22) C (by decide) (by omega) dX0_hasPage_9 (fun c3 => ?_) (fun c3 => ?_)
    · refine r_iconst C dX0_hasPage_22 ?_
      exact r_iretP C rfl rfl (congrArg iI (pI_f (by omega)).symm) dX0_hasPage_23
    · refine r_iload_n C rfl (lv_at hl 2 rfl) dX0_hasPage_12 ?_
      refine r_bipush C (by decide) dX0_hasPage_13 ?_
      refine r_icmp_ge (tgt := 22) C (by decide) (by omega) (by decide) dX0_hasPage_15 (fun c4 => ?_) (fun c4 => ?_)
      · refine r_iconst C dX0_hasPage_22 ?_
        exact r_iretP C rfl rfl (congrArg iI (pI_f (by omega)).symm) dX0_hasPage_23
      · refine r_iconst C dX0_hasPage_18 ?_
        refine r_goto (tgt := 23) C (by decide) dX0_hasPage_19 ?_
        exact r_iretP C rfl rfl (congrArg iI (pI_t (by omega)).symm) dX0_hasPage_23
set_option maxHeartbeats 4000000 in
theorem k_X0_isWritten (l : Launch) (g : Gt) (d : Nat) (F : Nat → Int) (hSm : Sm F) (x p : Int) (s q : Nat) (hx : Rg x) (hp : Rg p) (hs : 0 ≤ x → x = (s : Int)) (hq : 0 ≤ p → p = (q : Int)) : CP l yX0_isWritten cX0_isWritten 3 (some .boolean) 2 43 g [.ref d, .int (iI x), .int (iI p)] (dvAt g d F) (some (.int (iI (pI (0 ≤ x ∧ x < F 0 ∧ 0 ≤ p ∧ p < 40 ∧ 0 < F (2 + 52 * s + (12 + q))))))) := by
  refine cp_of "LentRoom$Device" (by decide) rfl (Nat.le_of_ble_eq_true rfl) ?_
  intro zp ze zs zm za zb zt zc ls C hP hl
  have hd := hP
  have hl : lv_has ls 3 [(0, .ref d), (1, .int (iI x)), (2, .int (iI p))] := hl
  refine r_aload_n C rfl (lv_at hl 0 rfl) dX0_isWritten_0 ?_
  refine r_iload_n C rfl (lv_at hl 1 rfl) dX0_isWritten_1 ?_
  refine r_iload_n C rfl (lv_at hl 2 rfl) dX0_isWritten_2 ?_
  refine r_vPi (rest := []) C (k_X0_hasPage l g d F hSm x p (by omega) (by omega)) s_RX0_68 hd (recv C (ci := 0) rfl hd.o) hl.1 rfl ⟨by decide, by decide⟩ rfl (Nat.le_of_ble_eq_true rfl) ⟨Nat.le_refl 0, Nat.le_refl 0⟩ dX0_isWritten_3 ?_
  have b1 := hSm.n
  refine r_ifP_eq (tgt := 24) C (by decide) dX0_isWritten_6 (fun c2 => ?_) (fun c2 => ?_)
  · refine r_iconst C dX0_isWritten_24 ?_
    exact r_iretP C rfl rfl (congrArg iI (pI_f (by omega)).symm) dX0_isWritten_25
  · refine r_aload_n C rfl (lv_at hl 0 rfl) dX0_isWritten_9 ?_
    refine r_get C (ci := 0) (v := .ref (d + 11)) rfl uin0 hd.o 7 (by decide) q_89 rfl rfl dX0_isWritten_10 ?_
    refine r_iload_n C rfl (lv_at hl 1 rfl) dX0_isWritten_13 ?_
    refine r_aaldr (v := d + 12 + s) C hd.rw s (by omega) (by omega) (by omega) rfl dX0_isWritten_14 ?_
    refine r_iload_n C rfl (lv_at hl 2 rfl) dX0_isWritten_15 ?_
    refine r_iald (v := F (2 + 52 * s + (12 + q))) C (hd.w s (by omega)) q (by omega) (by omega) (by omega) rfl dX0_isWritten_16 ?_
    have b3 := hSm.1 (2 + 52 * s + (12 + q)) (by omega)
    refine r_if_le (tgt := 24) C (by decide) (by omega) dX0_isWritten_17 (fun c4 => ?_) (fun c4 => ?_)
    · refine r_iconst C dX0_isWritten_24 ?_
      exact r_iretP C rfl rfl (congrArg iI (pI_f (by omega)).symm) dX0_isWritten_25
    · refine r_iconst C dX0_isWritten_20 ?_
      refine r_goto (tgt := 25) C (by decide) dX0_isWritten_21 ?_
      exact r_iretP C rfl rfl (congrArg iI (pI_t (by omega)).symm) dX0_isWritten_25
set_option maxHeartbeats 4000000 in
theorem k_X0_pagesOf (l : Launch) (g : Gt) (d : Nat) (F : Nat → Int) (hSm : Sm F) (x : Int) (s : Nat) (hx : x = (s : Int)) (hs : s < 5) : CP l yX0_pagesOf cX0_pagesOf 2 (some .int) 1 25 g [.ref d, .int (iI x)] (dvAt g d F) (some (.int (iI (tk F s)))) := by
  refine cp_of "LentRoom$Device" (by decide) rfl (Nat.le_of_ble_eq_true rfl) ?_
  intro zp ze zs zm za zb zt zc ls C hP hl
  have hd := hP
  have hl : lv_has ls 2 [(0, .ref d), (1, .int (iI x))] := hl
  refine r_aload_n C rfl (lv_at hl 0 rfl) dX0_pagesOf_0 ?_
  refine r_get C (ci := 0) (v := .ref (d + 3)) rfl uin0 hd.o 4 (by decide) q_85 rfl rfl dX0_pagesOf_1 ?_
  refine r_iload_n C rfl (lv_at hl 1 rfl) dX0_pagesOf_4 ?_
  refine r_iald (v := F (2 + 52 * s + 2)) C hd.c2 s (by omega) (by omega) (by omega) rfl dX0_pagesOf_5 ?_
  have b1 := hSm.1 (2 + 52 * s + 2) (by omega)
  refine r_aload_n C rfl (lv_at hl 0 rfl) dX0_pagesOf_6 ?_
  refine r_get C (ci := 0) (v := .ref (d + 4)) rfl uin0 hd.o 5 (by decide) q_86 rfl rfl dX0_pagesOf_7 ?_
  refine r_iload_n C rfl (lv_at hl 1 rfl) dX0_pagesOf_10 ?_
  refine r_iald (v := F (2 + 52 * s + 3)) C hd.c3 s (by omega) (by omega) (by omega) rfl dX0_pagesOf_11 ?_
  have b2 := hSm.1 (2 + 52 * s + 3) (by omega)
  refine r_iadd C dX0_pagesOf_12 ?_
  refine r_aload_n C rfl (lv_at hl 0 rfl) dX0_pagesOf_13 ?_
  refine r_get C (ci := 0) (v := .ref (d + 5)) rfl uin0 hd.o 6 (by decide) q_87 rfl rfl dX0_pagesOf_14 ?_
  refine r_iload_n C rfl (lv_at hl 1 rfl) dX0_pagesOf_17 ?_
  refine r_aaldr (v := d + 6 + s) C hd.rl s (by omega) (by omega) (by omega) rfl dX0_pagesOf_18 ?_
  refine r_sPi (rest := [.int (iI ((F (2 + 52 * s + 2)) + (F (2 + 52 * s + 3))))]) C (k_X0_sum l g (d + 6 + s) 5 (fun z => F (2 + 52 * s + (7 + z))) 1000000 (by omega) (by omega) (fun z hz => hSm.f s (7 + z) (by omega) (by omega))) s_RX0_72 (hd.l s (by omega)) hl.1 rfl ⟨by decide, by decide⟩ rfl (Nat.le_of_ble_eq_true rfl) ⟨Nat.le_refl 0, Nat.le_refl 0⟩ dX0_pagesOf_19 ?_
  refine r_iadd C dX0_pagesOf_22 ?_
  exact r_iretP C rfl rfl (congrArg iI (by rfl)) dX0_pagesOf_23
set_option maxHeartbeats 4000000 in
theorem k_X0_pagesOfAll (l : Launch) (g : Gt) (d : Nat) (F : Nat → Int) (hSm : Sm F) (hZ : Zr F) : CP l yX0_pagesOfAll cX0_pagesOfAll 3 (some .int) 2 46 g [.ref d] (dvAt g d F) (some (.int (iI (tkA F)))) := by
  refine cp_of "LentRoom$Device" (by decide) rfl (Nat.le_of_ble_eq_true rfl) ?_
  intro zp ze zs zm za zb zt zc ls C hP hl
  have hd := hP
  have hl : lv_has ls 3 [(0, .ref d)] := hl
  have cut4 : ∀ (N : Nat) (i : Nat) (v1 : Int) (v2 : Int), 5 - i < N → ((i : Int) ≤ F 0) → (v1 = sumI (tk F) i) → (v2 = (i : Int)) → ∀ ls : Array Slot, lv_has ls 3 [(0, .ref d), (1, .int (iI v1)), (2, .int (iI v2))] → W zp l ze (rmc 2 46) zs zm za zb zt zc zs.heap [] 0 0 (MQ zb (PQ (some (.int (iI (tkA F))))) za zs 0 0 (fun _ => False)) (F0 zm 4 ls []) := by
    intro N
    induction N with
    | zero => intro i v1 v2; exact fun hms => absurd hms (Nat.not_lt_zero _)
    | succ N ih =>
      intro i v1 v2 hms hi hv1 hv2 ls hl
      refine r_iload_n C rfl (lv_at hl 2 rfl) dX0_pagesOfAll_4 ?_
      refine r_aload_n C rfl (lv_at hl 0 rfl) dX0_pagesOfAll_5 ?_
      refine r_get C (ci := 0) (v := .int (iI (F 0))) rfl uin0 hd.o 0 (by decide) q_78 rfl rfl dX0_pagesOfAll_6 ?_
      have b1 := hSm.1 0 (by omega)
      have b2 := hSm.2
      refine r_icmp_ge (tgt := 26) C (by decide) (by omega) (by omega) dX0_pagesOfAll_9 (fun c3 => ?_) (fun c3 => ?_)
      · refine r_iload_n C rfl (lv_at hl 1 rfl) dX0_pagesOfAll_26 ?_
        exact r_iretP C rfl rfl (congrArg iI (by rw [hv1, show i = (F 0).toNat by omega]; exact tkA_n hSm hZ)) dX0_pagesOfAll_27
      · refine r_iload_n C rfl (lv_at hl 1 rfl) dX0_pagesOfAll_12 ?_
        refine r_aload_n C rfl (lv_at hl 0 rfl) dX0_pagesOfAll_13 ?_
        refine r_iload_n C rfl (lv_at hl 2 rfl) dX0_pagesOfAll_14 ?_
        refine r_vPi (rest := [.int (iI v1)]) C (k_X0_pagesOf l g d F hSm v2 i (by omega) (by omega)) s_RX0_76 hd (recv C (ci := 0) rfl hd.o) hl.1 rfl ⟨by decide, by decide⟩ rfl (Nat.le_of_ble_eq_true rfl) ⟨Nat.le_refl 0, Nat.le_refl 0⟩ dX0_pagesOfAll_15 ?_
        have b4 := tk_b hSm i (by omega)
        refine r_iadd C dX0_pagesOfAll_18 ?_
        refine r_istore_n (lv' := [(1, .int (iI (v1 + (tk F i)))), (0, .ref d), (2, .int (iI v2))]) C rfl hl (by decide) rfl dX0_pagesOfAll_19 (fun ls hl => ?_)
        refine r_iinc (lv' := [(2, .int (iI (v2 + 1))), (1, .int (iI (v1 + (tk F i)))), (0, .ref d)]) C hl (q := 2) rfl (by decide) rfl dX0_pagesOfAll_20 (fun ls hl => ?_)
        refine r_goto (tgt := 4) C (by decide) dX0_pagesOfAll_23 ?_
        exact ih (i + 1) (v1 + (tk F i)) (v2 + 1) (by omega) (by omega) (by rw [sumI, hv1]) (by omega) _ (lv_sub hl [2, 1, 0] rfl)
  refine r_iconst C dX0_pagesOfAll_0 ?_
  refine r_istore_n (lv' := [(1, .int (iI 0)), (0, .ref d)]) C rfl hl (by decide) rfl dX0_pagesOfAll_1 (fun ls hl => ?_)
  refine r_iconst C dX0_pagesOfAll_2 ?_
  refine r_istore_n (lv' := [(2, .int (iI 0)), (1, .int (iI 0)), (0, .ref d)]) C rfl hl (by decide) rfl dX0_pagesOfAll_3 (fun ls hl => ?_)
  exact cut4 _ 0 0 0 (Nat.lt_succ_self _) (by have := hSm.n; omega) (by rfl) (by omega) _ (lv_sub hl [2, 1, 0] rfl)
set_option maxHeartbeats 4000000 in
theorem k_X0_idleOf (l : Launch) (g : Gt) (d : Nat) (F : Nat → Int) (hSm : Sm F) (x : Int) (s : Nat) (hx : x = (s : Int)) (hs : s < 5) : CP l yX0_idleOf cX0_idleOf 4 (some .int) 0 0 g [.ref d, .int (iI x)] (dvAt g d F) (some (.int (iI (idle F s)))) := by
  refine cp_of "LentRoom$Device" (by decide) rfl (Nat.le_of_ble_eq_true rfl) ?_
  intro zp ze zs zm za zb zt zc ls C hP hl
  have hd := hP
  have hl : lv_has ls 4 [(0, .ref d), (1, .int (iI x))] := hl
  have cut16 : ∀ (N : Nat) (i : Nat) (v2 : Int) (v3 : Int), 5 - i < N → (i ≤ 5) → (v2 = F (2 + 52 * s + 0) - F (2 + 52 * s + 2) - sumI (fun b => F (2 + 52 * b + (7 + s))) i) → (v3 = (i : Int)) → ∀ ls : Array Slot, lv_has ls 4 [(0, .ref d), (1, .int (iI x)), (2, .int (iI v2)), (3, .int (iI v3))] → W zp l ze (rmc 0 0) zs zm za zb zt zc zs.heap [] 0 0 (MQ zb (PQ (some (.int (iI (idle F s))))) za zs 0 0 (fun _ => False)) (F0 zm 16 ls []) := by
    intro N
    induction N with
    | zero => intro i v2 v3; exact fun hms => absurd hms (Nat.not_lt_zero _)
    | succ N ih =>
      intro i v2 v3 hms hi hv2 hv3 ls hl
      refine r_iload_n C rfl (lv_at hl 3 rfl) dX0_idleOf_16 ?_
      refine r_iconst C dX0_idleOf_17 ?_
      refine r_icmp_ge (tgt := 38) C (by decide) (by omega) (by decide) dX0_idleOf_18 (fun c1 => ?_) (fun c1 => ?_)
      · refine r_iload_n C rfl (lv_at hl 2 rfl) dX0_idleOf_38 ?_
        exact r_iretP C rfl rfl (congrArg iI (by rw [hv2, show i = 5 by omega]; rfl)) dX0_idleOf_39
      · refine r_iload_n C rfl (lv_at hl 2 rfl) dX0_idleOf_21 ?_
        refine r_aload_n C rfl (lv_at hl 0 rfl) dX0_idleOf_22 ?_
        refine r_get C (ci := 0) (v := .ref (d + 5)) rfl uin0 hd.o 6 (by decide) q_87 rfl rfl dX0_idleOf_23 ?_
        refine r_iload_n C rfl (lv_at hl 3 rfl) dX0_idleOf_26 ?_
        refine r_aaldr (v := d + 6 + i) C hd.rl i (by omega) (by omega) (by omega) rfl dX0_idleOf_27 ?_
        refine r_iload_n C rfl (lv_at hl 1 rfl) dX0_idleOf_28 ?_
        refine r_iald (v := F (2 + 52 * i + (7 + s))) C (hd.l i (by omega)) s (by omega) (by omega) (by omega) rfl dX0_idleOf_29 ?_
        have b2 := hSm.1 (2 + 52 * i + (7 + s)) (by omega)
        refine r_isub C dX0_idleOf_30 ?_
        refine r_istore_n (lv' := [(2, .int (iI (v2 - (F (2 + 52 * i + (7 + s)))))), (0, .ref d), (1, .int (iI x)), (3, .int (iI v3))]) C rfl hl (by decide) rfl dX0_idleOf_31 (fun ls hl => ?_)
        refine r_iinc (lv' := [(3, .int (iI (v3 + 1))), (2, .int (iI (v2 - (F (2 + 52 * i + (7 + s)))))), (0, .ref d), (1, .int (iI x))]) C hl (q := 3) rfl (by decide) rfl dX0_idleOf_32 (fun ls hl => ?_)
        refine r_goto (tgt := 16) C (by decide) dX0_idleOf_35 ?_
        exact ih (i + 1) (v2 - (F (2 + 52 * i + (7 + s)))) (v3 + 1) (by omega) (by omega) (by rw [sumI, hv2]; omega) (by omega) _ (lv_sub hl [2, 3, 1, 0] rfl)
  refine r_aload_n C rfl (lv_at hl 0 rfl) dX0_idleOf_0 ?_
  refine r_get C (ci := 0) (v := .ref (d + 1)) rfl uin0 hd.o 2 (by decide) q_81 rfl rfl dX0_idleOf_1 ?_
  refine r_iload_n C rfl (lv_at hl 1 rfl) dX0_idleOf_4 ?_
  refine r_iald (v := F (2 + 52 * s + 0)) C hd.c0 s (by omega) (by omega) (by omega) rfl dX0_idleOf_5 ?_
  have b3 := hSm.1 (2 + 52 * s + 0) (by omega)
  refine r_aload_n C rfl (lv_at hl 0 rfl) dX0_idleOf_6 ?_
  refine r_get C (ci := 0) (v := .ref (d + 3)) rfl uin0 hd.o 4 (by decide) q_85 rfl rfl dX0_idleOf_7 ?_
  refine r_iload_n C rfl (lv_at hl 1 rfl) dX0_idleOf_10 ?_
  refine r_iald (v := F (2 + 52 * s + 2)) C hd.c2 s (by omega) (by omega) (by omega) rfl dX0_idleOf_11 ?_
  have b4 := hSm.1 (2 + 52 * s + 2) (by omega)
  refine r_isub C dX0_idleOf_12 ?_
  refine r_istore_n (lv' := [(2, .int (iI ((F (2 + 52 * s + 0)) - (F (2 + 52 * s + 2))))), (0, .ref d), (1, .int (iI x))]) C rfl hl (by decide) rfl dX0_idleOf_13 (fun ls hl => ?_)
  refine r_iconst C dX0_idleOf_14 ?_
  refine r_istore_n (lv' := [(3, .int (iI 0)), (2, .int (iI ((F (2 + 52 * s + 0)) - (F (2 + 52 * s + 2))))), (0, .ref d), (1, .int (iI x))]) C rfl hl (by decide) rfl dX0_idleOf_15 (fun ls hl => ?_)
  exact cut16 _ 0 ((F (2 + 52 * s + 0)) - (F (2 + 52 * s + 2))) 0 (Nat.lt_succ_self _) (by omega) (by simp only [sumI]; omega) (by omega) _ (lv_sub hl [2, 3, 1, 0] rfl)
set_option maxHeartbeats 4000000 in
theorem k_X0_lendsOf (l : Launch) (g : Gt) (d : Nat) (F : Nat → Int) (hSm : Sm F) (x : Int) (s : Nat) (hx : x = (s : Int)) (hs : s < 5) : CP l yX0_lendsOf cX0_lendsOf 2 (some .int) 1 23 g [.ref d, .int (iI x)] (dvAt g d F) (some (.int (iI (S5 F (7 + s))))) := by
  refine cp_of "LentRoom$Device" (by decide) rfl (Nat.le_of_ble_eq_true rfl) ?_
  intro zp ze zs zm za zb zt zc ls C hP hl
  have hd := hP
  have hl : lv_has ls 2 [(0, .ref d), (1, .int (iI x))] := hl
  refine r_aload_n C rfl (lv_at hl 0 rfl) dX0_lendsOf_0 ?_
  refine r_get C (ci := 0) (v := .ref (d + 1)) rfl uin0 hd.o 2 (by decide) q_81 rfl rfl dX0_lendsOf_1 ?_
  refine r_iload_n C rfl (lv_at hl 1 rfl) dX0_lendsOf_4 ?_
  refine r_iald (v := F (2 + 52 * s + 0)) C hd.c0 s (by omega) (by omega) (by omega) rfl dX0_lendsOf_5 ?_
  have b1 := hSm.1 (2 + 52 * s + 0) (by omega)
  refine r_aload_n C rfl (lv_at hl 0 rfl) dX0_lendsOf_6 ?_
  refine r_get C (ci := 0) (v := .ref (d + 3)) rfl uin0 hd.o 4 (by decide) q_85 rfl rfl dX0_lendsOf_7 ?_
  refine r_iload_n C rfl (lv_at hl 1 rfl) dX0_lendsOf_10 ?_
  refine r_iald (v := F (2 + 52 * s + 2)) C hd.c2 s (by omega) (by omega) (by omega) rfl dX0_lendsOf_11 ?_
  have b2 := hSm.1 (2 + 52 * s + 2) (by omega)
  refine r_isub C dX0_lendsOf_12 ?_
  refine r_aload_n C rfl (lv_at hl 0 rfl) dX0_lendsOf_13 ?_
  refine r_iload_n C rfl (lv_at hl 1 rfl) dX0_lendsOf_14 ?_
  refine r_vPi (rest := [.int (iI ((F (2 + 52 * s + 0)) - (F (2 + 52 * s + 2))))]) C (k_X0_idleOf l g d F hSm x s (by omega) (by omega)) s_RX0_80 hd (recv C (ci := 0) rfl hd.o) hl.1 rfl ⟨by decide, by decide⟩ rfl (Nat.le_of_ble_eq_true rfl) ⟨Nat.le_refl 0, Nat.le_refl 0⟩ dX0_lendsOf_15 ?_
  have b3 := idle_b hSm s (by omega)
  refine r_isub C dX0_lendsOf_18 ?_
  exact r_iretP C rfl rfl (congrArg iI (by unfold idle; omega)) dX0_lendsOf_19
set_option maxHeartbeats 4000000 in
theorem k_X0_commonRoom (l : Launch) (g : Gt) (d : Nat) (F : Nat → Int) (hSm : Sm F)  : CP l yX0_commonRoom cX0_commonRoom 1 (some .int) 1 25 g [.ref d] (dvAt g d F) (some (.int (iI (60 - S5 F 0)))) := by
  refine cp_of "LentRoom$Device" (by decide) rfl (Nat.le_of_ble_eq_true rfl) ?_
  intro zp ze zs zm za zb zt zc ls C hP hl
  have hd := hP
  have hl : lv_has ls 1 [(0, .ref d)] := hl
  refine r_bipush C (by decide) dX0_commonRoom_0 ?_
  refine r_aload_n C rfl (lv_at hl 0 rfl) dX0_commonRoom_2 ?_
  refine r_get C (ci := 0) (v := .ref (d + 1)) rfl uin0 hd.o 2 (by decide) q_81 rfl rfl dX0_commonRoom_3 ?_
  refine r_sPi (rest := [.int (iI 60)]) C (k_X0_sum l g (d + 1) 5 (fun z => F (2 + 52 * z + 0)) 1000000 (by omega) (by omega) (fun z hz => hSm.f z 0 hz (by omega))) s_RX0_72 hd.c0 hl.1 rfl ⟨by decide, by decide⟩ rfl (Nat.le_of_ble_eq_true rfl) ⟨Nat.le_refl 0, Nat.le_refl 0⟩ dX0_commonRoom_6 ?_
  refine r_isub C dX0_commonRoom_9 ?_
  exact r_iretP C rfl rfl (congrArg iI (by rfl)) dX0_commonRoom_10
set_option maxHeartbeats 4000000 in
theorem k_X0_freeCommonRoom (l : Launch) (g : Gt) (d : Nat) (F : Nat → Int) (hSm : Sm F)  : CP l yX0_freeCommonRoom cX0_freeCommonRoom 1 (some .int) 1 25 g [.ref d] (dvAt g d F) (some (.int (iI (free F)))) := by
  refine cp_of "LentRoom$Device" (by decide) rfl (Nat.le_of_ble_eq_true rfl) ?_
  intro zp ze zs zm za zb zt zc ls C hP hl
  have hd := hP
  have hl : lv_has ls 1 [(0, .ref d)] := hl
  refine r_bipush C (by decide) dX0_freeCommonRoom_0 ?_
  refine r_aload_n C rfl (lv_at hl 0 rfl) dX0_freeCommonRoom_2 ?_
  refine r_get C (ci := 0) (v := .ref (d + 1)) rfl uin0 hd.o 2 (by decide) q_81 rfl rfl dX0_freeCommonRoom_3 ?_
  refine r_sPi (rest := [.int (iI 60)]) C (k_X0_sum l g (d + 1) 5 (fun z => F (2 + 52 * z + 0)) 1000000 (by omega) (by omega) (fun z hz => hSm.f z 0 hz (by omega))) s_RX0_72 hd.c0 hl.1 rfl ⟨by decide, by decide⟩ rfl (Nat.le_of_ble_eq_true rfl) ⟨Nat.le_refl 0, Nat.le_refl 0⟩ dX0_freeCommonRoom_6 ?_
  refine r_isub C dX0_freeCommonRoom_9 ?_
  refine r_aload_n C rfl (lv_at hl 0 rfl) dX0_freeCommonRoom_10 ?_
  refine r_get C (ci := 0) (v := .ref (d + 4)) rfl uin0 hd.o 5 (by decide) q_86 rfl rfl dX0_freeCommonRoom_11 ?_
  refine r_sPi (rest := [.int (iI (60 - (sumI (fun z => F (2 + 52 * z + 0)) 5)))]) C (k_X0_sum l g (d + 4) 5 (fun z => F (2 + 52 * z + 3)) 1000000 (by omega) (by omega) (fun z hz => hSm.f z 3 hz (by omega))) s_RX0_72 hd.c3 hl.1 rfl ⟨by decide, by decide⟩ rfl (Nat.le_of_ble_eq_true rfl) ⟨Nat.le_refl 0, Nat.le_refl 0⟩ dX0_freeCommonRoom_14 ?_
  refine r_isub C dX0_freeCommonRoom_17 ?_
  exact r_iretP C rfl rfl (congrArg iI (by rfl)) dX0_freeCommonRoom_18
set_option maxHeartbeats 4000000 in
theorem k_X0_loansOfAll (l : Launch) (g : Gt) (d : Nat) (F : Nat → Int) (hSm : Sm F) (hZ : Zr F) : CP l yX0_loansOfAll cX0_loansOfAll 3 (some .int) 1 25 g [.ref d] (dvAt g d F) (some (.int (iI (borrA F)))) := by
  refine cp_of "LentRoom$Device" (by decide) rfl (Nat.le_of_ble_eq_true rfl) ?_
  intro zp ze zs zm za zb zt zc ls C hP hl
  have hd := hP
  have hl : lv_has ls 3 [(0, .ref d)] := hl
  have cut4 : ∀ (N : Nat) (i : Nat) (v1 : Int) (v2 : Int), 5 - i < N → ((i : Int) ≤ F 0) → (v1 = sumI (borr F) i) → (v2 = (i : Int)) → ∀ ls : Array Slot, lv_has ls 3 [(0, .ref d), (1, .int (iI v1)), (2, .int (iI v2))] → W zp l ze (rmc 1 25) zs zm za zb zt zc zs.heap [] 0 0 (MQ zb (PQ (some (.int (iI (borrA F))))) za zs 0 0 (fun _ => False)) (F0 zm 4 ls []) := by
    intro N
    induction N with
    | zero => intro i v1 v2; exact fun hms => absurd hms (Nat.not_lt_zero _)
    | succ N ih =>
      intro i v1 v2 hms hi hv1 hv2 ls hl
      refine r_iload_n C rfl (lv_at hl 2 rfl) dX0_loansOfAll_4 ?_
      refine r_aload_n C rfl (lv_at hl 0 rfl) dX0_loansOfAll_5 ?_
      refine r_get C (ci := 0) (v := .int (iI (F 0))) rfl uin0 hd.o 0 (by decide) q_78 rfl rfl dX0_loansOfAll_6 ?_
      have b1 := hSm.1 0 (by omega)
      have b2 := hSm.2
      refine r_icmp_ge (tgt := 30) C (by decide) (by omega) (by omega) dX0_loansOfAll_9 (fun c3 => ?_) (fun c3 => ?_)
      · refine r_iload_n C rfl (lv_at hl 1 rfl) dX0_loansOfAll_30 ?_
        exact r_iretP C rfl rfl (congrArg iI (by rw [hv1, show i = (F 0).toNat by omega]; exact borrA_n hSm hZ)) dX0_loansOfAll_31
      · refine r_iload_n C rfl (lv_at hl 1 rfl) dX0_loansOfAll_12 ?_
        refine r_aload_n C rfl (lv_at hl 0 rfl) dX0_loansOfAll_13 ?_
        refine r_get C (ci := 0) (v := .ref (d + 5)) rfl uin0 hd.o 6 (by decide) q_87 rfl rfl dX0_loansOfAll_14 ?_
        refine r_iload_n C rfl (lv_at hl 2 rfl) dX0_loansOfAll_17 ?_
        refine r_aaldr (v := d + 6 + i) C hd.rl i (by omega) (by omega) (by omega) rfl dX0_loansOfAll_18 ?_
        refine r_sPi (rest := [.int (iI v1)]) C (k_X0_sum l g (d + 6 + i) 5 (fun z => F (2 + 52 * i + (7 + z))) 1000000 (by omega) (by omega) (fun z hz => hSm.f i (7 + z) (by omega) (by omega))) s_RX0_72 (hd.l i (by omega)) hl.1 rfl ⟨by decide, by decide⟩ rfl (Nat.le_of_ble_eq_true rfl) ⟨Nat.le_refl 0, Nat.le_refl 0⟩ dX0_loansOfAll_19 ?_
        refine r_iadd C dX0_loansOfAll_22 ?_
        refine r_istore_n (lv' := [(1, .int (iI (v1 + (sumI (fun z => F (2 + 52 * i + (7 + z))) 5)))), (0, .ref d), (2, .int (iI v2))]) C rfl hl (by decide) rfl dX0_loansOfAll_23 (fun ls hl => ?_)
        refine r_iinc (lv' := [(2, .int (iI (v2 + 1))), (1, .int (iI (v1 + (sumI (fun z => F (2 + 52 * i + (7 + z))) 5)))), (0, .ref d)]) C hl (q := 2) rfl (by decide) rfl dX0_loansOfAll_24 (fun ls hl => ?_)
        refine r_goto (tgt := 4) C (by decide) dX0_loansOfAll_27 ?_
        exact ih (i + 1) (v1 + (sumI (fun z => F (2 + 52 * i + (7 + z))) 5)) (v2 + 1) (by omega) (by omega) (by rw [sumI, hv1]; rfl) (by omega) _ (lv_sub hl [2, 1, 0] rfl)
  refine r_iconst C dX0_loansOfAll_0 ?_
  refine r_istore_n (lv' := [(1, .int (iI 0)), (0, .ref d)]) C rfl hl (by decide) rfl dX0_loansOfAll_1 (fun ls hl => ?_)
  refine r_iconst C dX0_loansOfAll_2 ?_
  refine r_istore_n (lv' := [(2, .int (iI 0)), (1, .int (iI 0)), (0, .ref d)]) C rfl hl (by decide) rfl dX0_loansOfAll_3 (fun ls hl => ?_)
  exact cut4 _ 0 0 0 (Nat.lt_succ_self _) (by have := hSm.n; omega) (by rfl) (by omega) _ (lv_sub hl [2, 1, 0] rfl)
set_option maxHeartbeats 4000000 in
theorem k_X0_lostByAll (l : Launch) (g : Gt) (d : Nat) (F : Nat → Int) (hSm : Sm F)  : CP l yX0_lostByAll cX0_lostByAll 1 (some .int) 1 25 g [.ref d] (dvAt g d F) (some (.int (iI (S5 F 5)))) := by
  refine cp_of "LentRoom$Device" (by decide) rfl (Nat.le_of_ble_eq_true rfl) ?_
  intro zp ze zs zm za zb zt zc ls C hP hl
  have hd := hP
  have hl : lv_has ls 1 [(0, .ref d)] := hl
  refine r_aload_n C rfl (lv_at hl 0 rfl) dX0_lostByAll_0 ?_
  refine r_get C (ci := 0) (v := .ref (d + 18)) rfl uin0 hd.o 9 (by decide) q_92 rfl rfl dX0_lostByAll_1 ?_
  refine r_sPi (rest := []) C (k_X0_sum l g (d + 18) 5 (fun z => F (2 + 52 * z + 5)) 1000000 (by omega) (by omega) (fun z hz => hSm.f z 5 hz (by omega))) s_RX0_72 hd.c5 hl.1 rfl ⟨by decide, by decide⟩ rfl (Nat.le_of_ble_eq_true rfl) ⟨Nat.le_refl 0, Nat.le_refl 0⟩ dX0_lostByAll_4 ?_
  exact r_iretP C rfl rfl (congrArg iI (by rfl)) dX0_lostByAll_7
set_option maxHeartbeats 4000000 in
theorem k_X0_noiseOf (l : Launch) (g : Gt) (d : Nat) (F : Nat → Int) (hSm : Sm F) (x : Int) (s : Nat) (hx : x = (s : Int)) (hs : s < 5) : CP l yX0_noiseOf cX0_noiseOf 2 (some .int) 0 0 g [.ref d, .int (iI x)] (dvAt g d F) (some (.int (iI (F (2 + 52 * s + 4) - 2 * F (2 + 52 * s + 5))))) := by
  refine cp_of "LentRoom$Device" (by decide) rfl (Nat.le_of_ble_eq_true rfl) ?_
  intro zp ze zs zm za zb zt zc ls C hP hl
  have hd := hP
  have hl : lv_has ls 2 [(0, .ref d), (1, .int (iI x))] := hl
  refine r_aload_n C rfl (lv_at hl 0 rfl) dX0_noiseOf_0 ?_
  refine r_get C (ci := 0) (v := .ref (d + 17)) rfl uin0 hd.o 8 (by decide) q_91 rfl rfl dX0_noiseOf_1 ?_
  refine r_iload_n C rfl (lv_at hl 1 rfl) dX0_noiseOf_4 ?_
  refine r_iald (v := F (2 + 52 * s + 4)) C hd.c4 s (by omega) (by omega) (by omega) rfl dX0_noiseOf_5 ?_
  have b1 := hSm.1 (2 + 52 * s + 4) (by omega)
  refine r_iconst C dX0_noiseOf_6 ?_
  refine r_aload_n C rfl (lv_at hl 0 rfl) dX0_noiseOf_7 ?_
  refine r_get C (ci := 0) (v := .ref (d + 18)) rfl uin0 hd.o 9 (by decide) q_92 rfl rfl dX0_noiseOf_8 ?_
  refine r_iload_n C rfl (lv_at hl 1 rfl) dX0_noiseOf_11 ?_
  refine r_iald (v := F (2 + 52 * s + 5)) C hd.c5 s (by omega) (by omega) (by omega) rfl dX0_noiseOf_12 ?_
  have b2 := hSm.1 (2 + 52 * s + 5) (by omega)
  refine r_imul C dX0_noiseOf_13 ?_
  refine r_isub C dX0_noiseOf_14 ?_
  exact r_iretP C rfl rfl (congrArg iI (by first | rfl | omega)) dX0_noiseOf_15
set_option maxHeartbeats 4000000 in
theorem k_X0_oldestAfter (l : Launch) (g : Gt) (d : Nat) (F : Nat → Int) (hSm : Sm F) (x : Int) (s : Nat) (hx : x = (s : Int)) (hs : s < 5) (t : Int) (ht : Rg t) : CP l yX0_oldestAfter cX0_oldestAfter 5 (some .int) 0 0 g [.ref d, .int (iI x), .int (iI t)] (dvAt g d F) (some (.int (iI (oa F s t 40)))) := by
  refine cp_of "LentRoom$Device" (by decide) rfl (Nat.le_of_ble_eq_true rfl) ?_
  intro zp ze zs zm za zb zt zc ls C hP hl
  have hd := hP
  have hl : lv_has ls 5 [(0, .ref d), (1, .int (iI x)), (2, .int (iI t))] := hl
  have cut5 : ∀ (N : Nat) (i : Nat) (v3 : Int) (v4 : Int), 40 - i < N → (i ≤ 40) → (-1 ≤ v3 ∧ v3 < i) → (v3 = oa F s t i) → (v4 = (i : Int)) → ∀ ls : Array Slot, lv_has ls 5 [(0, .ref d), (1, .int (iI x)), (2, .int (iI t)), (3, .int (iI v3)), (4, .int (iI v4))] → W zp l ze (rmc 0 0) zs zm za zb zt zc zs.heap [] 0 0 (MQ zb (PQ (some (.int (iI (oa F s t 40))))) za zs 0 0 (fun _ => False)) (F0 zm 5 ls []) := by
    intro N
    induction N with
    | zero => intro i v3 v4; exact fun hms => absurd hms (Nat.not_lt_zero _)
    | succ N ih =>
      intro i v3 v4 hms hi hb3 hv3 hv4 ls hl
      refine r_iload C (lv_at hl 4 rfl) dX0_oldestAfter_5 ?_
      refine r_bipush C (by decide) dX0_oldestAfter_7 ?_
      refine r_icmp_ge (tgt := 59) C (by decide) (by omega) (by decide) dX0_oldestAfter_9 (fun c1 => ?_) (fun c1 => ?_)
      · refine r_iload_n C rfl (lv_at hl 3 rfl) dX0_oldestAfter_59 ?_
        exact r_iretP C rfl rfl (congrArg iI (by rw [hv3, show i = 40 by omega])) dX0_oldestAfter_60
      · refine r_aload_n C rfl (lv_at hl 0 rfl) dX0_oldestAfter_12 ?_
        refine r_get C (ci := 0) (v := .ref (d + 11)) rfl uin0 hd.o 7 (by decide) q_89 rfl rfl dX0_oldestAfter_13 ?_
        refine r_iload_n C rfl (lv_at hl 1 rfl) dX0_oldestAfter_16 ?_
        refine r_aaldr (v := d + 12 + s) C hd.rw s (by omega) (by omega) (by omega) rfl dX0_oldestAfter_17 ?_
        refine r_iload C (lv_at hl 4 rfl) dX0_oldestAfter_18 ?_
        refine r_iald (v := F (2 + 52 * s + (12 + i))) C (hd.w s (by omega)) i (by omega) (by omega) (by omega) rfl dX0_oldestAfter_20 ?_
        have b2 := hSm.1 (2 + 52 * s + (12 + i)) (by omega)
        refine r_iload_n C rfl (lv_at hl 2 rfl) dX0_oldestAfter_21 ?_
        refine r_icmp_le (tgt := 53) C (by decide) (by omega) (by omega) dX0_oldestAfter_22 (fun c3 => ?_) (fun c3 => ?_)
        · refine r_iinc (lv' := [(4, .int (iI (v4 + 1))), (0, .ref d), (1, .int (iI x)), (2, .int (iI t)), (3, .int (iI v3))]) C hl (q := 4) rfl (by decide) rfl dX0_oldestAfter_53 (fun ls hl => ?_)
          refine r_goto (tgt := 5) C (by decide) dX0_oldestAfter_56 ?_
          exact ih (i + 1) v3 (v4 + 1) (by omega) (by omega) (by omega) (by subst hv3; simp only [oa]; split <;> omega) (by omega) _ (lv_sub hl [1, 2, 3, 4, 0] rfl)
        · refine r_iload_n C rfl (lv_at hl 3 rfl) dX0_oldestAfter_25 ?_
          refine r_iconst C dX0_oldestAfter_26 ?_
          refine r_icmp_eq (tgt := 50) C (by decide) (by omega) (by decide) dX0_oldestAfter_27 (fun c4 => ?_) (fun c4 => ?_)
          · refine r_iload C (lv_at hl 4 rfl) dX0_oldestAfter_50 ?_
            refine r_istore_n (lv' := [(3, .int (iI v4)), (0, .ref d), (1, .int (iI x)), (2, .int (iI t)), (4, .int (iI v4))]) C rfl hl (by decide) rfl dX0_oldestAfter_52 (fun ls hl => ?_)
            refine r_iinc (lv' := [(4, .int (iI (v4 + 1))), (3, .int (iI v4)), (0, .ref d), (1, .int (iI x)), (2, .int (iI t))]) C hl (q := 4) rfl (by decide) rfl dX0_oldestAfter_53 (fun ls hl => ?_)
            refine r_goto (tgt := 5) C (by decide) dX0_oldestAfter_56 ?_
            exact ih (i + 1) v4 (v4 + 1) (by omega) (by omega) (by omega) (by subst hv3; simp only [oa]; split <;> omega) (by omega) _ (lv_sub hl [2, 3, 4, 1, 0] rfl)
          · refine r_aload_n C rfl (lv_at hl 0 rfl) dX0_oldestAfter_30 ?_
            refine r_get C (ci := 0) (v := .ref (d + 11)) rfl uin0 hd.o 7 (by decide) q_89 rfl rfl dX0_oldestAfter_31 ?_
            refine r_iload_n C rfl (lv_at hl 1 rfl) dX0_oldestAfter_34 ?_
            refine r_aaldr (v := d + 12 + s) C hd.rw s (by omega) (by omega) (by omega) rfl dX0_oldestAfter_35 ?_
            refine r_iload C (lv_at hl 4 rfl) dX0_oldestAfter_36 ?_
            refine r_iald (v := F (2 + 52 * s + (12 + i))) C (hd.w s (by omega)) i (by omega) (by omega) (by omega) rfl dX0_oldestAfter_38 ?_
            have b5 := hSm.1 (2 + 52 * s + (12 + i)) (by omega)
            refine r_aload_n C rfl (lv_at hl 0 rfl) dX0_oldestAfter_39 ?_
            refine r_get C (ci := 0) (v := .ref (d + 11)) rfl uin0 hd.o 7 (by decide) q_89 rfl rfl dX0_oldestAfter_40 ?_
            refine r_iload_n C rfl (lv_at hl 1 rfl) dX0_oldestAfter_43 ?_
            refine r_aaldr (v := d + 12 + s) C hd.rw s (by omega) (by omega) (by omega) rfl dX0_oldestAfter_44 ?_
            refine r_iload_n C rfl (lv_at hl 3 rfl) dX0_oldestAfter_45 ?_
            refine r_iald (v := F (2 + 52 * s + (12 + ((v3).toNat)))) C (hd.w s (by omega)) ((v3).toNat) (by omega) (by omega) (by omega) rfl dX0_oldestAfter_46 ?_
            have b6 := hSm.1 (2 + 52 * s + (12 + ((v3).toNat))) (by omega)
            refine r_icmp_ge (tgt := 53) C (by decide) (by omega) (by omega) dX0_oldestAfter_47 (fun c7 => ?_) (fun c7 => ?_)
            · refine r_iinc (lv' := [(4, .int (iI (v4 + 1))), (0, .ref d), (1, .int (iI x)), (2, .int (iI t)), (3, .int (iI v3))]) C hl (q := 4) rfl (by decide) rfl dX0_oldestAfter_53 (fun ls hl => ?_)
              refine r_goto (tgt := 5) C (by decide) dX0_oldestAfter_56 ?_
              exact ih (i + 1) v3 (v4 + 1) (by omega) (by omega) (by omega) (by subst hv3; simp only [oa]; split <;> omega) (by omega) _ (lv_sub hl [1, 2, 3, 4, 0] rfl)
            · refine r_iload C (lv_at hl 4 rfl) dX0_oldestAfter_50 ?_
              refine r_istore_n (lv' := [(3, .int (iI v4)), (0, .ref d), (1, .int (iI x)), (2, .int (iI t)), (4, .int (iI v4))]) C rfl hl (by decide) rfl dX0_oldestAfter_52 (fun ls hl => ?_)
              refine r_iinc (lv' := [(4, .int (iI (v4 + 1))), (3, .int (iI v4)), (0, .ref d), (1, .int (iI x)), (2, .int (iI t))]) C hl (q := 4) rfl (by decide) rfl dX0_oldestAfter_53 (fun ls hl => ?_)
              refine r_goto (tgt := 5) C (by decide) dX0_oldestAfter_56 ?_
              exact ih (i + 1) v4 (v4 + 1) (by omega) (by omega) (by omega) (by subst hv3; simp only [oa]; split <;> omega) (by omega) _ (lv_sub hl [2, 3, 4, 1, 0] rfl)
  refine r_iconst C dX0_oldestAfter_0 ?_
  refine r_istore_n (lv' := [(3, .int (iI (-1))), (0, .ref d), (1, .int (iI x)), (2, .int (iI t))]) C rfl hl (by decide) rfl dX0_oldestAfter_1 (fun ls hl => ?_)
  refine r_iconst C dX0_oldestAfter_2 ?_
  refine r_istore (lv' := [(4, .int (iI 0)), (3, .int (iI (-1))), (0, .ref d), (1, .int (iI x)), (2, .int (iI t))]) C hl (by decide) rfl dX0_oldestAfter_3 (fun ls hl => ?_)
  exact cut5 _ 0 (-1) 0 (Nat.lt_succ_self _) (by omega) (by omega) (by rfl) (by omega) _ (lv_sub hl [2, 3, 4, 1, 0] rfl)
set_option maxHeartbeats 4000000 in
theorem k_X0_greatestBorrower (l : Launch) (g : Gt) (d : Nat) (F : Nat → Int) (hSm : Sm F) (x : Int) (s : Nat) (hx : x = (s : Int)) (hs : s < 5) : CP l yX0_greatestBorrower cX0_greatestBorrower 4 (some .int) 0 0 g [.ref d, .int (iI x)] (dvAt g d F) (some (.int (iI (gb F s (F 0).toNat)))) := by
  refine cp_of "LentRoom$Device" (by decide) rfl (Nat.le_of_ble_eq_true rfl) ?_
  intro zp ze zs zm za zb zt zc ls C hP hl
  have hd := hP
  have hl : lv_has ls 4 [(0, .ref d), (1, .int (iI x))] := hl
  have cut4 : ∀ (N : Nat) (i : Nat) (v2 : Int) (v3 : Int), 5 - i < N → ((i : Int) ≤ F 0) → (-1 ≤ v2 ∧ v2 < i) → (v2 = gb F s i) → (v3 = (i : Int)) → ∀ ls : Array Slot, lv_has ls 4 [(0, .ref d), (1, .int (iI x)), (2, .int (iI v2)), (3, .int (iI v3))] → W zp l ze (rmc 0 0) zs zm za zb zt zc zs.heap [] 0 0 (MQ zb (PQ (some (.int (iI (gb F s (F 0).toNat))))) za zs 0 0 (fun _ => False)) (F0 zm 4 ls []) := by
    intro N
    induction N with
    | zero => intro i v2 v3; exact fun hms => absurd hms (Nat.not_lt_zero _)
    | succ N ih =>
      intro i v2 v3 hms hi hb2 hv2 hv3 ls hl
      refine r_iload_n C rfl (lv_at hl 3 rfl) dX0_greatestBorrower_4 ?_
      refine r_aload_n C rfl (lv_at hl 0 rfl) dX0_greatestBorrower_5 ?_
      refine r_get C (ci := 0) (v := .int (iI (F 0))) rfl uin0 hd.o 0 (by decide) q_78 rfl rfl dX0_greatestBorrower_6 ?_
      have b1 := hSm.1 0 (by omega)
      have b2 := hSm.2
      refine r_icmp_ge (tgt := 48) C (by decide) (by omega) (by omega) dX0_greatestBorrower_9 (fun c3 => ?_) (fun c3 => ?_)
      · refine r_iload_n C rfl (lv_at hl 2 rfl) dX0_greatestBorrower_48 ?_
        exact r_iretP C rfl rfl (congrArg iI (by rw [hv2, show i = (F 0).toNat by omega])) dX0_greatestBorrower_49
      · refine r_aload_n C rfl (lv_at hl 0 rfl) dX0_greatestBorrower_12 ?_
        refine r_get C (ci := 0) (v := .ref (d + 5)) rfl uin0 hd.o 6 (by decide) q_87 rfl rfl dX0_greatestBorrower_13 ?_
        refine r_iload_n C rfl (lv_at hl 3 rfl) dX0_greatestBorrower_16 ?_
        refine r_aaldr (v := d + 6 + i) C hd.rl i (by omega) (by omega) (by omega) rfl dX0_greatestBorrower_17 ?_
        refine r_iload_n C rfl (lv_at hl 1 rfl) dX0_greatestBorrower_18 ?_
        refine r_iald (v := F (2 + 52 * i + (7 + s))) C (hd.l i (by omega)) s (by omega) (by omega) (by omega) rfl dX0_greatestBorrower_19 ?_
        have b4 := hSm.1 (2 + 52 * i + (7 + s)) (by omega)
        refine r_iload_n C rfl (lv_at hl 2 rfl) dX0_greatestBorrower_20 ?_
        refine r_iconst C dX0_greatestBorrower_21 ?_
        refine r_icmp_ne (tgt := 29) C (by decide) (by omega) (by decide) dX0_greatestBorrower_22 (fun c5 => ?_) (fun c5 => ?_)
        · refine r_aload_n C rfl (lv_at hl 0 rfl) dX0_greatestBorrower_29 ?_
          refine r_get C (ci := 0) (v := .ref (d + 5)) rfl uin0 hd.o 6 (by decide) q_87 rfl rfl dX0_greatestBorrower_30 ?_
          refine r_iload_n C rfl (lv_at hl 2 rfl) dX0_greatestBorrower_33 ?_
          refine r_aaldr (v := d + 6 + ((v2).toNat)) C hd.rl ((v2).toNat) (by omega) (by omega) (by omega) rfl dX0_greatestBorrower_34 ?_
          refine r_iload_n C rfl (lv_at hl 1 rfl) dX0_greatestBorrower_35 ?_
          refine r_iald (v := F (2 + 52 * ((v2).toNat) + (7 + s))) C (hd.l ((v2).toNat) (by omega)) s (by omega) (by omega) (by omega) rfl dX0_greatestBorrower_36 ?_
          have b6 := hSm.1 (2 + 52 * ((v2).toNat) + (7 + s)) (by omega)
          refine r_icmp_le (tgt := 42) C (by decide) (by omega) (by omega) dX0_greatestBorrower_37 (fun c7 => ?_) (fun c7 => ?_)
          · refine r_iinc (lv' := [(3, .int (iI (v3 + 1))), (0, .ref d), (1, .int (iI x)), (2, .int (iI v2))]) C hl (q := 3) rfl (by decide) rfl dX0_greatestBorrower_42 (fun ls hl => ?_)
            refine r_goto (tgt := 4) C (by decide) dX0_greatestBorrower_45 ?_
            exact ih (i + 1) v2 (v3 + 1) (by omega) (by omega) (by omega) (by subst hv2; simp only [gb]; split <;> (first | omega | (split at * <;> omega))) (by omega) _ (lv_sub hl [1, 2, 3, 0] rfl)
          · refine r_iload_n C rfl (lv_at hl 3 rfl) dX0_greatestBorrower_40 ?_
            refine r_istore_n (lv' := [(2, .int (iI v3)), (0, .ref d), (1, .int (iI x)), (3, .int (iI v3))]) C rfl hl (by decide) rfl dX0_greatestBorrower_41 (fun ls hl => ?_)
            refine r_iinc (lv' := [(3, .int (iI (v3 + 1))), (2, .int (iI v3)), (0, .ref d), (1, .int (iI x))]) C hl (q := 3) rfl (by decide) rfl dX0_greatestBorrower_42 (fun ls hl => ?_)
            refine r_goto (tgt := 4) C (by decide) dX0_greatestBorrower_45 ?_
            exact ih (i + 1) v3 (v3 + 1) (by omega) (by omega) (by omega) (by subst hv2; simp only [gb]; split <;> (first | omega | (split at * <;> omega))) (by omega) _ (lv_sub hl [2, 3, 1, 0] rfl)
        · refine r_iconst C dX0_greatestBorrower_25 ?_
          refine r_goto (tgt := 37) C (by decide) dX0_greatestBorrower_26 ?_
          refine r_icmp_le (tgt := 42) C (by decide) (by omega) (by decide) dX0_greatestBorrower_37 (fun c8 => ?_) (fun c8 => ?_)
          · refine r_iinc (lv' := [(3, .int (iI (v3 + 1))), (0, .ref d), (1, .int (iI x)), (2, .int (iI v2))]) C hl (q := 3) rfl (by decide) rfl dX0_greatestBorrower_42 (fun ls hl => ?_)
            refine r_goto (tgt := 4) C (by decide) dX0_greatestBorrower_45 ?_
            exact ih (i + 1) v2 (v3 + 1) (by omega) (by omega) (by omega) (by subst hv2; simp only [gb]; split <;> (first | omega | (split at * <;> omega))) (by omega) _ (lv_sub hl [1, 2, 3, 0] rfl)
          · refine r_iload_n C rfl (lv_at hl 3 rfl) dX0_greatestBorrower_40 ?_
            refine r_istore_n (lv' := [(2, .int (iI v3)), (0, .ref d), (1, .int (iI x)), (3, .int (iI v3))]) C rfl hl (by decide) rfl dX0_greatestBorrower_41 (fun ls hl => ?_)
            refine r_iinc (lv' := [(3, .int (iI (v3 + 1))), (2, .int (iI v3)), (0, .ref d), (1, .int (iI x))]) C hl (q := 3) rfl (by decide) rfl dX0_greatestBorrower_42 (fun ls hl => ?_)
            refine r_goto (tgt := 4) C (by decide) dX0_greatestBorrower_45 ?_
            exact ih (i + 1) v3 (v3 + 1) (by omega) (by omega) (by omega) (by subst hv2; simp only [gb]; split <;> (first | omega | (split at * <;> omega))) (by omega) _ (lv_sub hl [2, 3, 1, 0] rfl)
  refine r_iconst C dX0_greatestBorrower_0 ?_
  refine r_istore_n (lv' := [(2, .int (iI (-1))), (0, .ref d), (1, .int (iI x))]) C rfl hl (by decide) rfl dX0_greatestBorrower_1 (fun ls hl => ?_)
  refine r_iconst C dX0_greatestBorrower_2 ?_
  refine r_istore_n (lv' := [(3, .int (iI 0)), (2, .int (iI (-1))), (0, .ref d), (1, .int (iI x))]) C rfl hl (by decide) rfl dX0_greatestBorrower_3 (fun ls hl => ?_)
  exact cut4 _ 0 (-1) 0 (Nat.lt_succ_self _) (by have := hSm.n; omega) (by omega) (by rfl) (by omega) _ (lv_sub hl [2, 3, 1, 0] rfl)
set_option maxHeartbeats 4000000 in
theorem k_X0_greatestLender (l : Launch) (g : Gt) (d : Nat) (F : Nat → Int) (hSm : Sm F) (x : Int) (s : Nat) (hx : x = (s : Int)) (hs : s < 5) : CP l yX0_greatestLender cX0_greatestLender 4 (some .int) 0 0 g [.ref d, .int (iI x)] (dvAt g d F) (some (.int (iI (gl F s (F 0).toNat)))) := by
  refine cp_of "LentRoom$Device" (by decide) rfl (Nat.le_of_ble_eq_true rfl) ?_
  intro zp ze zs zm za zb zt zc ls C hP hl
  have hd := hP
  have hl : lv_has ls 4 [(0, .ref d), (1, .int (iI x))] := hl
  have cut4 : ∀ (N : Nat) (i : Nat) (v2 : Int) (v3 : Int), 5 - i < N → ((i : Int) ≤ F 0) → (-1 ≤ v2 ∧ v2 < i) → (v2 = gl F s i) → (v3 = (i : Int)) → ∀ ls : Array Slot, lv_has ls 4 [(0, .ref d), (1, .int (iI x)), (2, .int (iI v2)), (3, .int (iI v3))] → W zp l ze (rmc 0 0) zs zm za zb zt zc zs.heap [] 0 0 (MQ zb (PQ (some (.int (iI (gl F s (F 0).toNat))))) za zs 0 0 (fun _ => False)) (F0 zm 4 ls []) := by
    intro N
    induction N with
    | zero => intro i v2 v3; exact fun hms => absurd hms (Nat.not_lt_zero _)
    | succ N ih =>
      intro i v2 v3 hms hi hb2 hv2 hv3 ls hl
      refine r_iload_n C rfl (lv_at hl 3 rfl) dX0_greatestLender_4 ?_
      refine r_aload_n C rfl (lv_at hl 0 rfl) dX0_greatestLender_5 ?_
      refine r_get C (ci := 0) (v := .int (iI (F 0))) rfl uin0 hd.o 0 (by decide) q_78 rfl rfl dX0_greatestLender_6 ?_
      have b1 := hSm.1 0 (by omega)
      have b2 := hSm.2
      refine r_icmp_ge (tgt := 48) C (by decide) (by omega) (by omega) dX0_greatestLender_9 (fun c3 => ?_) (fun c3 => ?_)
      · refine r_iload_n C rfl (lv_at hl 2 rfl) dX0_greatestLender_48 ?_
        exact r_iretP C rfl rfl (congrArg iI (by rw [hv2, show i = (F 0).toNat by omega])) dX0_greatestLender_49
      · refine r_aload_n C rfl (lv_at hl 0 rfl) dX0_greatestLender_12 ?_
        refine r_get C (ci := 0) (v := .ref (d + 5)) rfl uin0 hd.o 6 (by decide) q_87 rfl rfl dX0_greatestLender_13 ?_
        refine r_iload_n C rfl (lv_at hl 1 rfl) dX0_greatestLender_16 ?_
        refine r_aaldr (v := d + 6 + s) C hd.rl s (by omega) (by omega) (by omega) rfl dX0_greatestLender_17 ?_
        refine r_iload_n C rfl (lv_at hl 3 rfl) dX0_greatestLender_18 ?_
        refine r_iald (v := F (2 + 52 * s + (7 + i))) C (hd.l s (by omega)) i (by omega) (by omega) (by omega) rfl dX0_greatestLender_19 ?_
        have b4 := hSm.1 (2 + 52 * s + (7 + i)) (by omega)
        refine r_iload_n C rfl (lv_at hl 2 rfl) dX0_greatestLender_20 ?_
        refine r_iconst C dX0_greatestLender_21 ?_
        refine r_icmp_ne (tgt := 29) C (by decide) (by omega) (by decide) dX0_greatestLender_22 (fun c5 => ?_) (fun c5 => ?_)
        · refine r_aload_n C rfl (lv_at hl 0 rfl) dX0_greatestLender_29 ?_
          refine r_get C (ci := 0) (v := .ref (d + 5)) rfl uin0 hd.o 6 (by decide) q_87 rfl rfl dX0_greatestLender_30 ?_
          refine r_iload_n C rfl (lv_at hl 1 rfl) dX0_greatestLender_33 ?_
          refine r_aaldr (v := d + 6 + s) C hd.rl s (by omega) (by omega) (by omega) rfl dX0_greatestLender_34 ?_
          refine r_iload_n C rfl (lv_at hl 2 rfl) dX0_greatestLender_35 ?_
          refine r_iald (v := F (2 + 52 * s + (7 + ((v2).toNat)))) C (hd.l s (by omega)) ((v2).toNat) (by omega) (by omega) (by omega) rfl dX0_greatestLender_36 ?_
          have b6 := hSm.1 (2 + 52 * s + (7 + ((v2).toNat))) (by omega)
          refine r_icmp_le (tgt := 42) C (by decide) (by omega) (by omega) dX0_greatestLender_37 (fun c7 => ?_) (fun c7 => ?_)
          · refine r_iinc (lv' := [(3, .int (iI (v3 + 1))), (0, .ref d), (1, .int (iI x)), (2, .int (iI v2))]) C hl (q := 3) rfl (by decide) rfl dX0_greatestLender_42 (fun ls hl => ?_)
            refine r_goto (tgt := 4) C (by decide) dX0_greatestLender_45 ?_
            exact ih (i + 1) v2 (v3 + 1) (by omega) (by omega) (by omega) (by subst hv2; simp only [gl]; split <;> (first | omega | (split at * <;> omega))) (by omega) _ (lv_sub hl [1, 2, 3, 0] rfl)
          · refine r_iload_n C rfl (lv_at hl 3 rfl) dX0_greatestLender_40 ?_
            refine r_istore_n (lv' := [(2, .int (iI v3)), (0, .ref d), (1, .int (iI x)), (3, .int (iI v3))]) C rfl hl (by decide) rfl dX0_greatestLender_41 (fun ls hl => ?_)
            refine r_iinc (lv' := [(3, .int (iI (v3 + 1))), (2, .int (iI v3)), (0, .ref d), (1, .int (iI x))]) C hl (q := 3) rfl (by decide) rfl dX0_greatestLender_42 (fun ls hl => ?_)
            refine r_goto (tgt := 4) C (by decide) dX0_greatestLender_45 ?_
            exact ih (i + 1) v3 (v3 + 1) (by omega) (by omega) (by omega) (by subst hv2; simp only [gl]; split <;> (first | omega | (split at * <;> omega))) (by omega) _ (lv_sub hl [2, 3, 1, 0] rfl)
        · refine r_iconst C dX0_greatestLender_25 ?_
          refine r_goto (tgt := 37) C (by decide) dX0_greatestLender_26 ?_
          refine r_icmp_le (tgt := 42) C (by decide) (by omega) (by decide) dX0_greatestLender_37 (fun c8 => ?_) (fun c8 => ?_)
          · refine r_iinc (lv' := [(3, .int (iI (v3 + 1))), (0, .ref d), (1, .int (iI x)), (2, .int (iI v2))]) C hl (q := 3) rfl (by decide) rfl dX0_greatestLender_42 (fun ls hl => ?_)
            refine r_goto (tgt := 4) C (by decide) dX0_greatestLender_45 ?_
            exact ih (i + 1) v2 (v3 + 1) (by omega) (by omega) (by omega) (by subst hv2; simp only [gl]; split <;> (first | omega | (split at * <;> omega))) (by omega) _ (lv_sub hl [1, 2, 3, 0] rfl)
          · refine r_iload_n C rfl (lv_at hl 3 rfl) dX0_greatestLender_40 ?_
            refine r_istore_n (lv' := [(2, .int (iI v3)), (0, .ref d), (1, .int (iI x)), (3, .int (iI v3))]) C rfl hl (by decide) rfl dX0_greatestLender_41 (fun ls hl => ?_)
            refine r_iinc (lv' := [(3, .int (iI (v3 + 1))), (2, .int (iI v3)), (0, .ref d), (1, .int (iI x))]) C hl (q := 3) rfl (by decide) rfl dX0_greatestLender_42 (fun ls hl => ?_)
            refine r_goto (tgt := 4) C (by decide) dX0_greatestLender_45 ?_
            exact ih (i + 1) v3 (v3 + 1) (by omega) (by omega) (by omega) (by subst hv2; simp only [gl]; split <;> (first | omega | (split at * <;> omega))) (by omega) _ (lv_sub hl [2, 3, 1, 0] rfl)
  refine r_iconst C dX0_greatestLender_0 ?_
  refine r_istore_n (lv' := [(2, .int (iI (-1))), (0, .ref d), (1, .int (iI x))]) C rfl hl (by decide) rfl dX0_greatestLender_1 (fun ls hl => ?_)
  refine r_iconst C dX0_greatestLender_2 ?_
  refine r_istore_n (lv' := [(3, .int (iI 0)), (2, .int (iI (-1))), (0, .ref d), (1, .int (iI x))]) C rfl hl (by decide) rfl dX0_greatestLender_3 (fun ls hl => ?_)
  exact cut4 _ 0 (-1) 0 (Nat.lt_succ_self _) (by have := hSm.n; omega) (by omega) (by rfl) (by omega) _ (lv_sub hl [2, 3, 1, 0] rfl)
set_option maxHeartbeats 4000000 in
theorem k_X0_idlestBut (l : Launch) (g : Gt) (d : Nat) (F : Nat → Int) (hSm : Sm F) (x y : Int) (a b : Nat) (hx : x = (a : Int)) (hy : y = (b : Int)) (ha : a < 5) (hb : b < 5) : CP l yX0_idlestBut cX0_idlestBut 7 (some .int) 1 23 g [.ref d, .int (iI x), .int (iI y)] (dvAt g d F) (some (.int (iI (lender F a b)))) := by
  refine cp_of "LentRoom$Device" (by decide) rfl (Nat.le_of_ble_eq_true rfl) ?_
  intro zp ze zs zm za zb zt zc ls C hP hl
  have hd := hP
  have hl : lv_has ls 7 [(0, .ref d), (1, .int (iI x)), (2, .int (iI y))] := hl
  have cut8 : ∀ (N : Nat) (i : Nat) (v3 : Int) (v4 : Int) (v5 : Int), 5 - i < N → ((i : Int) ≤ F 0) → (-1 ≤ v3 ∧ v3 < i) → (0 ≤ v4 ∧ v4 ≤ 1000000) → (v3 = lnd F a b i) → (v4 = if lnd F a b i = -1 then 0 else idle F (lnd F a b i).toNat) → (v5 = (i : Int)) → ∀ ls : Array Slot, lv_has ls 7 [(0, .ref d), (1, .int (iI x)), (2, .int (iI y)), (3, .int (iI v3)), (4, .int (iI v4)), (5, .int (iI v5))] → W zp l ze (rmc 1 23) zs zm za zb zt zc zs.heap [] 0 0 (MQ zb (PQ (some (.int (iI (lender F a b))))) za zs 0 0 (fun _ => False)) (F0 zm 8 ls []) := by
    intro N
    induction N with
    | zero => intro i v3 v4 v5; exact fun hms => absurd hms (Nat.not_lt_zero _)
    | succ N ih =>
      intro i v3 v4 v5 hms hi hb3 hb4 hv3 hv4 hv5 ls hl
      refine r_iload C (lv_at hl 5 rfl) dX0_idlestBut_8 ?_
      refine r_aload_n C rfl (lv_at hl 0 rfl) dX0_idlestBut_10 ?_
      refine r_get C (ci := 0) (v := .int (iI (F 0))) rfl uin0 hd.o 0 (by decide) q_78 rfl rfl dX0_idlestBut_11 ?_
      have b1 := hSm.1 0 (by omega)
      have b2 := hSm.2
      refine r_icmp_ge (tgt := 57) C (by decide) (by omega) (by omega) dX0_idlestBut_14 (fun c3 => ?_) (fun c3 => ?_)
      · refine r_iload_n C rfl (lv_at hl 3 rfl) dX0_idlestBut_57 ?_
        exact r_iretP C rfl rfl (congrArg iI (by rw [hv3, show i = (F 0).toNat by omega]; rfl)) dX0_idlestBut_58
      · refine r_aload_n C rfl (lv_at hl 0 rfl) dX0_idlestBut_17 ?_
        refine r_iload C (lv_at hl 5 rfl) dX0_idlestBut_18 ?_
        refine r_vPi (rest := []) C (k_X0_idleOf l g d F hSm v5 i (by omega) (by omega)) s_RX0_80 hd (recv C (ci := 0) rfl hd.o) hl.1 rfl ⟨by decide, by decide⟩ rfl (Nat.le_of_ble_eq_true rfl) ⟨Nat.le_refl 0, Nat.le_refl 0⟩ dX0_idlestBut_20 ?_
        have b4 := idle_b hSm i (by omega)
        refine r_istore (lv' := [(6, .int (iI (idle F i))), (0, .ref d), (1, .int (iI x)), (2, .int (iI y)), (3, .int (iI v3)), (4, .int (iI v4)), (5, .int (iI v5))]) C hl (by decide) rfl dX0_idlestBut_23 (fun ls hl => ?_)
        refine r_iload C (lv_at hl 6 rfl) dX0_idlestBut_25 ?_
        refine r_iload_n C rfl (lv_at hl 2 rfl) dX0_idlestBut_27 ?_
        refine r_icmp_eq (tgt := 51) C (by decide) (by omega) (by omega) dX0_idlestBut_28 (fun c5 => ?_) (fun c5 => ?_)
        · refine r_iinc (lv' := [(5, .int (iI (v5 + 1))), (6, .int (iI (idle F i))), (0, .ref d), (1, .int (iI x)), (2, .int (iI y)), (3, .int (iI v3)), (4, .int (iI v4))]) C hl (q := 6) rfl (by decide) rfl dX0_idlestBut_51 (fun ls hl => ?_)
          refine r_goto (tgt := 8) C (by decide) dX0_idlestBut_54 ?_
          exact ih (i + 1) v3 v4 (v5 + 1) (by omega) (by omega) (by omega) (by omega) (by subst hv3 hv4; simp only [lnd]; have hq := lnd_i (F := F) a b i; (repeat' split) <;> (try simp only [Int.toNat_natCast] at *) <;> omega) (by subst hv3 hv4; simp only [lnd]; have hq := lnd_i (F := F) a b i; (repeat' split) <;> (try simp only [Int.toNat_natCast] at *) <;> omega) (by omega) _ (lv_sub hl [2, 3, 4, 5, 6, 0] rfl)
        · refine r_iload C (lv_at hl 6 rfl) dX0_idlestBut_31 ?_
          refine r_iload_n C rfl (lv_at hl 3 rfl) dX0_idlestBut_33 ?_
          refine r_icmp_eq (tgt := 51) C (by decide) (by omega) (by omega) dX0_idlestBut_34 (fun c6 => ?_) (fun c6 => ?_)
          · refine r_iinc (lv' := [(5, .int (iI (v5 + 1))), (6, .int (iI (idle F i))), (0, .ref d), (1, .int (iI x)), (2, .int (iI y)), (3, .int (iI v3)), (4, .int (iI v4))]) C hl (q := 6) rfl (by decide) rfl dX0_idlestBut_51 (fun ls hl => ?_)
            refine r_goto (tgt := 8) C (by decide) dX0_idlestBut_54 ?_
            exact ih (i + 1) v3 v4 (v5 + 1) (by omega) (by omega) (by omega) (by omega) (by subst hv3 hv4; simp only [lnd]; have hq := lnd_i (F := F) a b i; (repeat' split) <;> (try simp only [Int.toNat_natCast] at *) <;> omega) (by subst hv3 hv4; simp only [lnd]; have hq := lnd_i (F := F) a b i; (repeat' split) <;> (try simp only [Int.toNat_natCast] at *) <;> omega) (by omega) _ (lv_sub hl [2, 3, 4, 5, 6, 0] rfl)
          · refine r_iload C (lv_at hl 0 rfl) dX0_idlestBut_37 ?_
            refine r_iload C (lv_at hl 5 rfl) dX0_idlestBut_39 ?_
            refine r_icmp_le (tgt := 51) C (by decide) (by omega) (by omega) dX0_idlestBut_41 (fun c7 => ?_) (fun c7 => ?_)
            · refine r_iinc (lv' := [(5, .int (iI (v5 + 1))), (6, .int (iI (idle F i))), (0, .ref d), (1, .int (iI x)), (2, .int (iI y)), (3, .int (iI v3)), (4, .int (iI v4))]) C hl (q := 6) rfl (by decide) rfl dX0_idlestBut_51 (fun ls hl => ?_)
              refine r_goto (tgt := 8) C (by decide) dX0_idlestBut_54 ?_
              exact ih (i + 1) v3 v4 (v5 + 1) (by omega) (by omega) (by omega) (by omega) (by subst hv3 hv4; simp only [lnd]; have hq := lnd_i (F := F) a b i; (repeat' split) <;> (try simp only [Int.toNat_natCast] at *) <;> omega) (by subst hv3 hv4; simp only [lnd]; have hq := lnd_i (F := F) a b i; (repeat' split) <;> (try simp only [Int.toNat_natCast] at *) <;> omega) (by omega) _ (lv_sub hl [2, 3, 4, 5, 6, 0] rfl)
            · refine r_iload C (lv_at hl 6 rfl) dX0_idlestBut_44 ?_
              refine r_istore_n (lv' := [(3, .int (iI v5)), (6, .int (iI (idle F i))), (0, .ref d), (1, .int (iI x)), (2, .int (iI y)), (4, .int (iI v4)), (5, .int (iI v5))]) C rfl hl (by decide) rfl dX0_idlestBut_46 (fun ls hl => ?_)
              refine r_iload C (lv_at hl 1 rfl) dX0_idlestBut_47 ?_
              refine r_istore (lv' := [(4, .int (iI (idle F i))), (3, .int (iI v5)), (6, .int (iI (idle F i))), (0, .ref d), (1, .int (iI x)), (2, .int (iI y)), (5, .int (iI v5))]) C hl (by decide) rfl dX0_idlestBut_49 (fun ls hl => ?_)
              refine r_iinc (lv' := [(5, .int (iI (v5 + 1))), (4, .int (iI (idle F i))), (3, .int (iI v5)), (6, .int (iI (idle F i))), (0, .ref d), (1, .int (iI x)), (2, .int (iI y))]) C hl (q := 6) rfl (by decide) rfl dX0_idlestBut_51 (fun ls hl => ?_)
              refine r_goto (tgt := 8) C (by decide) dX0_idlestBut_54 ?_
              exact ih (i + 1) v5 (idle F i) (v5 + 1) (by omega) (by omega) (by omega) (by omega) (by subst hv3 hv4; simp only [lnd]; have hq := lnd_i (F := F) a b i; (repeat' split) <;> (try simp only [Int.toNat_natCast] at *) <;> omega) (by subst hv3 hv4; simp only [lnd]; have hq := lnd_i (F := F) a b i; (repeat' split) <;> (try simp only [Int.toNat_natCast] at *) <;> omega) (by omega) _ (lv_sub hl [4, 5, 6, 2, 1, 0] rfl)
  refine r_iconst C dX0_idlestBut_0 ?_
  refine r_istore_n (lv' := [(3, .int (iI (-1))), (0, .ref d), (1, .int (iI x)), (2, .int (iI y))]) C rfl hl (by decide) rfl dX0_idlestBut_1 (fun ls hl => ?_)
  refine r_iconst C dX0_idlestBut_2 ?_
  refine r_istore (lv' := [(4, .int (iI 0)), (3, .int (iI (-1))), (0, .ref d), (1, .int (iI x)), (2, .int (iI y))]) C hl (by decide) rfl dX0_idlestBut_3 (fun ls hl => ?_)
  refine r_iconst C dX0_idlestBut_5 ?_
  refine r_istore (lv' := [(5, .int (iI 0)), (4, .int (iI 0)), (3, .int (iI (-1))), (0, .ref d), (1, .int (iI x)), (2, .int (iI y))]) C hl (by decide) rfl dX0_idlestBut_6 (fun ls hl => ?_)
  exact cut8 _ 0 (-1) 0 0 (Nat.lt_succ_self _) (by have := hSm.n; omega) (by omega) (by omega) (by rfl) (by rfl) (by omega) _ (lv_sub hl [3, 4, 5, 2, 1, 0] rfl)
set_option maxHeartbeats 4000000 in
theorem k_X0_pageByAge (l : Launch) (g : Gt) (d : Nat) (F : Nat → Int) (hSm : Sm F) (x : Int) (s : Nat) (hx : x = (s : Int)) (hs : s < 5) (y : Int) (k : Nat) (hy : y = (k : Int)) (hry : Rg y) : CP l yX0_pageByAge cX0_pageByAge 5 (some .int) 1 24 g [.ref d, .int (iI x), .int (iI y)] (dvAt g d F) (some (.int (iI (if y < 40 then pba F s k else -1)))) := by
  refine cp_of "LentRoom$Device" (by decide) rfl (Nat.le_of_ble_eq_true rfl) ?_
  intro zp ze zs zm za zb zt zc ls C hP hl
  have hd := hP
  have hl : lv_has ls 5 [(0, .ref d), (1, .int (iI x)), (2, .int (iI y))] := hl
  have cut18 : ∀ (N : Nat) (i : Nat) (v3 : Int) (v4 : Int), k - i < N → (i ≤ k) → (k < 40) → (-1 ≤ v3 ∧ v3 < 40) → (v3 = pba F s i) → (v4 = (i : Int)) → ∀ ls : Array Slot, lv_has ls 5 [(0, .ref d), (1, .int (iI x)), (2, .int (iI y)), (3, .int (iI v3)), (4, .int (iI v4))] → W zp l ze (rmc 1 24) zs zm za zb zt zc zs.heap [] 0 0 (MQ zb (PQ (some (.int (iI (if y < 40 then pba F s k else -1))))) za zs 0 0 (fun _ => False)) (F0 zm 18 ls []) := by
    intro N
    induction N with
    | zero => intro i v3 v4; exact fun hms => absurd hms (Nat.not_lt_zero _)
    | succ N ih =>
      intro i v3 v4 hms hi hk hb3 hv3 hv4 ls hl
      refine r_iload C (lv_at hl 4 rfl) dX0_pageByAge_18 ?_
      refine r_iload_n C rfl (lv_at hl 2 rfl) dX0_pageByAge_20 ?_
      refine r_icmp_ge (tgt := 49) C (by decide) (by omega) (by omega) dX0_pageByAge_21 (fun c1 => ?_) (fun c1 => ?_)
      · refine r_iload_n C rfl (lv_at hl 3 rfl) dX0_pageByAge_49 ?_
        exact r_iretP C rfl rfl (congrArg iI (by rw [if_pos (by omega), hv3]; rw [show i = k by omega])) dX0_pageByAge_50
      · refine r_iload_n C rfl (lv_at hl 3 rfl) dX0_pageByAge_24 ?_
        refine r_iconst C dX0_pageByAge_25 ?_
        refine r_icmp_eq (tgt := 49) C (by decide) (by omega) (by decide) dX0_pageByAge_26 (fun c2 => ?_) (fun c2 => ?_)
        · refine r_iload_n C rfl (lv_at hl 3 rfl) dX0_pageByAge_49 ?_
          exact r_iretP C rfl rfl (congrArg iI (by rw [if_pos (by omega), hv3]; have h9 : ∀ j, pba F s (i + j) = -1 := (fun j => by induction j with | zero => (have : v3 = -1 := (by omega); rw [Nat.add_zero]; omega) | succ j ih => (show pba F s ((i + j) + 1) = -1; simp only [pba]; rw [if_pos ih])); have := h9 (k - i); rw [show i + (k - i) = k by omega] at this; have := h9 0; rw [Nat.add_zero] at this; omega)) dX0_pageByAge_50
        · refine r_aload_n C rfl (lv_at hl 0 rfl) dX0_pageByAge_29 ?_
          refine r_iload_n C rfl (lv_at hl 1 rfl) dX0_pageByAge_30 ?_
          refine r_aload_n C rfl (lv_at hl 0 rfl) dX0_pageByAge_31 ?_
          refine r_get C (ci := 0) (v := .ref (d + 11)) rfl uin0 hd.o 7 (by decide) q_89 rfl rfl dX0_pageByAge_32 ?_
          refine r_iload_n C rfl (lv_at hl 1 rfl) dX0_pageByAge_35 ?_
          refine r_aaldr (v := d + 12 + s) C hd.rw s (by omega) (by omega) (by omega) rfl dX0_pageByAge_36 ?_
          refine r_iload_n C rfl (lv_at hl 3 rfl) dX0_pageByAge_37 ?_
          refine r_iald (v := F (2 + 52 * s + (12 + ((v3).toNat)))) C (hd.w s (by omega)) ((v3).toNat) (by omega) (by omega) (by omega) rfl dX0_pageByAge_38 ?_
          have b3 := hSm.1 (2 + 52 * s + (12 + ((v3).toNat))) (by omega)
          refine r_vPi (rest := []) C (k_X0_oldestAfter l g d F hSm x s (by omega) (by omega) (F (2 + 52 * s + (12 + ((v3).toNat)))) (by omega)) s_RX0_102 hd (recv C (ci := 0) rfl hd.o) hl.1 rfl ⟨by decide, by decide⟩ rfl (Nat.le_of_ble_eq_true rfl) ⟨Nat.le_refl 0, Nat.le_refl 0⟩ dX0_pageByAge_39 ?_
          have b4 := oa_b (F := F) s (F (2 + 52 * s + (12 + ((v3).toNat)))) 40
          refine r_istore_n (lv' := [(3, .int (iI (oa F s (F (2 + 52 * s + (12 + ((v3).toNat)))) 40))), (0, .ref d), (1, .int (iI x)), (2, .int (iI y)), (4, .int (iI v4))]) C rfl hl (by decide) rfl dX0_pageByAge_42 (fun ls hl => ?_)
          refine r_iinc (lv' := [(4, .int (iI (v4 + 1))), (3, .int (iI (oa F s (F (2 + 52 * s + (12 + ((v3).toNat)))) 40))), (0, .ref d), (1, .int (iI x)), (2, .int (iI y))]) C hl (q := 4) rfl (by decide) rfl dX0_pageByAge_43 (fun ls hl => ?_)
          refine r_goto (tgt := 18) C (by decide) dX0_pageByAge_46 ?_
          exact ih (i + 1) (oa F s (F (2 + 52 * s + (12 + ((v3).toNat)))) 40) (v4 + 1) (by omega) (by omega) (by omega) (by omega) (by subst hv3; simp only [pba]; rw [if_neg (by omega)]) (by omega) _ (lv_sub hl [2, 3, 4, 1, 0] rfl)
  refine r_iload_n C rfl (lv_at hl 2 rfl) dX0_pageByAge_0 ?_
  refine r_bipush C (by decide) dX0_pageByAge_1 ?_
  refine r_icmp_lt (tgt := 8) C (by decide) (by omega) (by decide) dX0_pageByAge_3 (fun c5 => ?_) (fun c5 => ?_)
  · refine r_aload_n C rfl (lv_at hl 0 rfl) dX0_pageByAge_8 ?_
    refine r_iload_n C rfl (lv_at hl 1 rfl) dX0_pageByAge_9 ?_
    refine r_iconst C dX0_pageByAge_10 ?_
    refine r_vPi (rest := []) C (k_X0_oldestAfter l g d F hSm x s (by omega) (by omega) 0 (by omega)) s_RX0_102 hd (recv C (ci := 0) rfl hd.o) hl.1 rfl ⟨by decide, by decide⟩ rfl (Nat.le_of_ble_eq_true rfl) ⟨Nat.le_refl 0, Nat.le_refl 0⟩ dX0_pageByAge_11 ?_
    have b6 := oa_b (F := F) s 0 40
    refine r_istore_n (lv' := [(3, .int (iI (oa F s 0 40))), (0, .ref d), (1, .int (iI x)), (2, .int (iI y))]) C rfl hl (by decide) rfl dX0_pageByAge_14 (fun ls hl => ?_)
    refine r_iconst C dX0_pageByAge_15 ?_
    refine r_istore (lv' := [(4, .int (iI 0)), (3, .int (iI (oa F s 0 40))), (0, .ref d), (1, .int (iI x)), (2, .int (iI y))]) C hl (by decide) rfl dX0_pageByAge_16 (fun ls hl => ?_)
    exact cut18 _ 0 (oa F s 0 40) 0 (Nat.lt_succ_self _) (by omega) (by omega) (by omega) (by rfl) (by omega) _ (lv_sub hl [2, 3, 4, 1, 0] rfl)
  · refine r_iconst C dX0_pageByAge_6 ?_
    exact r_iretP C rfl rfl (congrArg iI (by rw [if_neg (by omega)])) dX0_pageByAge_7
set_option maxHeartbeats 4000000 in
theorem k_X0_areBounds (l : Launch) (g : Gt) (d : Nat) (F : Nat → Int) (hSm : Sm F) (x y : Int) (hx : Rg x) (hy : Rg y) : CP l yX0_areBounds cX0_areBounds 3 (some .boolean) 0 0 g [.ref d, .int (iI x), .int (iI y)] (dvAt g d F) (some (.int (iI (pI (0 ≤ x ∧ x ≤ y ∧ 1 ≤ y ∧ y ≤ 60))))) := by
  refine cp_of "LentRoom$Device" (by decide) rfl (Nat.le_of_ble_eq_true rfl) ?_
  intro zp ze zs zm za zb zt zc ls C hP hl
  have hd := hP
  have hl : lv_has ls 3 [(0, .ref d), (1, .int (iI x)), (2, .int (iI y))] := hl
  refine r_iload_n C rfl (lv_at hl 1 rfl) dX0_areBounds_0 ?_
  refine r_if_lt (tgt := 24) C (by decide) (by omega) dX0_areBounds_1 (fun c1 => ?_) (fun c1 => ?_)
  · refine r_iconst C dX0_areBounds_24 ?_
    exact r_iretP C rfl rfl (congrArg iI (pI_f (by omega)).symm) dX0_areBounds_25
  · refine r_iload_n C rfl (lv_at hl 1 rfl) dX0_areBounds_4 ?_
    refine r_iload_n C rfl (lv_at hl 2 rfl) dX0_areBounds_5 ?_
    refine r_icmp_gt (tgt := 24) C (by decide) (by omega) (by omega) dX0_areBounds_6 (fun c2 => ?_) (fun c2 => ?_)
    · refine r_iconst C dX0_areBounds_24 ?_
      exact r_iretP C rfl rfl (congrArg iI (pI_f (by omega)).symm) dX0_areBounds_25
    · refine r_iload_n C rfl (lv_at hl 2 rfl) dX0_areBounds_9 ?_
      refine r_iconst C dX0_areBounds_10 ?_
      refine r_icmp_lt (tgt := 24) C (by decide) (by omega) (by decide) dX0_areBounds_11 (fun c3 => ?_) (fun c3 => ?_)
      · refine r_iconst C dX0_areBounds_24 ?_
        exact r_iretP C rfl rfl (congrArg iI (pI_f (by omega)).symm) dX0_areBounds_25
      · refine r_iload_n C rfl (lv_at hl 2 rfl) dX0_areBounds_14 ?_
        refine r_bipush C (by decide) dX0_areBounds_15 ?_
        refine r_icmp_gt (tgt := 24) C (by decide) (by omega) (by decide) dX0_areBounds_17 (fun c4 => ?_) (fun c4 => ?_)
        · refine r_iconst C dX0_areBounds_24 ?_
          exact r_iretP C rfl rfl (congrArg iI (pI_f (by omega)).symm) dX0_areBounds_25
        · refine r_iconst C dX0_areBounds_20 ?_
          refine r_goto (tgt := 25) C (by decide) dX0_areBounds_21 ?_
          exact r_iretP C rfl rfl (congrArg iI (pI_t (by omega)).symm) dX0_areBounds_25
set_option maxHeartbeats 4000000 in
theorem k_X0_hasRoomForSpace (l : Launch) (g : Gt) (d : Nat) (F : Nat → Int) (hSm : Sm F) (x : Int) (hx : Rg x) : CP l yX0_hasRoomForSpace cX0_hasRoomForSpace 2 (some .boolean) 2 45 g [.ref d, .int (iI x)] (dvAt g d F) (some (.int (iI (pI (F 0 < 5 ∧ x ≤ free F))))) := by
  refine cp_of "LentRoom$Device" (by decide) rfl (Nat.le_of_ble_eq_true rfl) ?_
  intro zp ze zs zm za zb zt zc ls C hP hl
  have hd := hP
  have hl : lv_has ls 2 [(0, .ref d), (1, .int (iI x))] := hl
  refine r_aload_n C rfl (lv_at hl 0 rfl) dX0_hasRoomForSpace_0 ?_
  refine r_get C (ci := 0) (v := .int (iI (F 0))) rfl uin0 hd.o 0 (by decide) q_78 rfl rfl dX0_hasRoomForSpace_1 ?_
  have b1 := hSm.1 0 (by omega)
  have b2 := hSm.2
  refine r_iconst C dX0_hasRoomForSpace_4 ?_
  refine r_icmp_ge (tgt := 20) C (by decide) (by omega) (by decide) dX0_hasRoomForSpace_5 (fun c3 => ?_) (fun c3 => ?_)
  · refine r_iconst C dX0_hasRoomForSpace_20 ?_
    exact r_iretP C rfl rfl (congrArg iI (pI_f (by omega)).symm) dX0_hasRoomForSpace_21
  · refine r_iload_n C rfl (lv_at hl 1 rfl) dX0_hasRoomForSpace_8 ?_
    refine r_aload_n C rfl (lv_at hl 0 rfl) dX0_hasRoomForSpace_9 ?_
    refine r_vPi (rest := [.int (iI x)]) C (k_X0_freeCommonRoom l g d F hSm) s_RX0_90 hd (recv C (ci := 0) rfl hd.o) hl.1 rfl ⟨by decide, by decide⟩ rfl (Nat.le_of_ble_eq_true rfl) ⟨Nat.le_refl 0, Nat.le_refl 0⟩ dX0_hasRoomForSpace_10 ?_
    have b4 := free_b hSm
    refine r_icmp_gt (tgt := 20) C (by decide) (by omega) (by omega) dX0_hasRoomForSpace_13 (fun c5 => ?_) (fun c5 => ?_)
    · refine r_iconst C dX0_hasRoomForSpace_20 ?_
      exact r_iretP C rfl rfl (congrArg iI (pI_f (by omega)).symm) dX0_hasRoomForSpace_21
    · refine r_iconst C dX0_hasRoomForSpace_16 ?_
      refine r_goto (tgt := 21) C (by decide) dX0_hasRoomForSpace_17 ?_
      exact r_iretP C rfl rfl (congrArg iI (pI_t (by omega)).symm) dX0_hasRoomForSpace_21
set_option maxHeartbeats 4000000 in
theorem k_X0_smallestFloor (l : Launch) (g : Gt) (d : Nat) (F : Nat → Int) (hSm : Sm F) (x : Int) (s : Nat) (hx : x = (s : Int)) (hs : s < 5) : CP l yX0_smallestFloor cX0_smallestFloor 2 (some .int) 1 23 g [.ref d, .int (iI x)] (dvAt g d F) (some (.int (iI (F (2 + 52 * s + 0) - idle F s)))) := by
  refine cp_of "LentRoom$Device" (by decide) rfl (Nat.le_of_ble_eq_true rfl) ?_
  intro zp ze zs zm za zb zt zc ls C hP hl
  have hd := hP
  have hl : lv_has ls 2 [(0, .ref d), (1, .int (iI x))] := hl
  refine r_aload_n C rfl (lv_at hl 0 rfl) dX0_smallestFloor_0 ?_
  refine r_get C (ci := 0) (v := .ref (d + 1)) rfl uin0 hd.o 2 (by decide) q_81 rfl rfl dX0_smallestFloor_1 ?_
  refine r_iload_n C rfl (lv_at hl 1 rfl) dX0_smallestFloor_4 ?_
  refine r_iald (v := F (2 + 52 * s + 0)) C hd.c0 s (by omega) (by omega) (by omega) rfl dX0_smallestFloor_5 ?_
  have b1 := hSm.1 (2 + 52 * s + 0) (by omega)
  refine r_aload_n C rfl (lv_at hl 0 rfl) dX0_smallestFloor_6 ?_
  refine r_iload_n C rfl (lv_at hl 1 rfl) dX0_smallestFloor_7 ?_
  refine r_vPi (rest := [.int (iI (F (2 + 52 * s + 0)))]) C (k_X0_idleOf l g d F hSm x s (by omega) (by omega)) s_RX0_80 hd (recv C (ci := 0) rfl hd.o) hl.1 rfl ⟨by decide, by decide⟩ rfl (Nat.le_of_ble_eq_true rfl) ⟨Nat.le_refl 0, Nat.le_refl 0⟩ dX0_smallestFloor_8 ?_
  have b2 := idle_b hSm s (by omega)
  refine r_isub C dX0_smallestFloor_11 ?_
  exact r_iretP C rfl rfl (congrArg iI (by first | rfl | omega)) dX0_smallestFloor_12

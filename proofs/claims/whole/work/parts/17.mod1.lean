theorem s_RX4_39 : SiteS "LentRoomModel" 39 yX4_in cX4_in 6 (some .boolean) 3 := ⟨⟨q_834, q_835, q_34, q_836⟩, by decide, by decide, by decide +kernel⟩
theorem s_RX4_45 : SiteS "LentRoomModel" 45 yX4_at cX4_at 1 (some .int) 1 := ⟨⟨q_875, q_876, q_34, q_877⟩, by decide, by decide, by decide +kernel⟩
theorem s_RX4_49 : SiteS "LentRoomModel" 49 yX4_of cX4_of 3 (some .int) 3 := ⟨⟨q_872, q_873, q_34, q_874⟩, by decide, by decide, by decide +kernel⟩
theorem s_RX4_53 : SiteS "LentRoomModel" 53 yX4_sum cX4_sum 4 (some .int) 2 := ⟨⟨q_869, q_870, q_34, q_871⟩, by decide, by decide, by decide +kernel⟩
theorem s_RX4_57 : SiteS "LentRoomModel" 57 yX4_borrowed cX4_borrowed 4 (some .int) 2 := ⟨⟨q_899, q_900, q_34, q_901⟩, by decide, by decide, by decide +kernel⟩
theorem s_RX4_60 : SiteS "LentRoomModel" 60 yX4_lends cX4_lends 2 (some .int) 2 := ⟨⟨q_905, q_906, q_34, q_907⟩, by decide, by decide, by decide +kernel⟩
theorem s_RX4_63 : SiteS "LentRoomModel" 63 yX4_idle cX4_idle 2 (some .int) 2 := ⟨⟨q_902, q_903, q_34, q_904⟩, by decide, by decide, by decide +kernel⟩
theorem s_RX4_72 : SiteS "LentRoomModel" 72 yX4_free cX4_free 1 (some .int) 1 := ⟨⟨q_866, q_867, q_34, q_868⟩, by decide, by decide, by decide +kernel⟩
theorem s_RX4_94 : SiteS "LentRoomModel" 94 yX4_isSpace cX4_isSpace 2 (some .boolean) 2 := ⟨⟨q_885, q_886, q_34, q_887⟩, by decide, by decide, by decide +kernel⟩
theorem s_RX4_98 : SiteS "LentRoomModel" 98 yX4_least cX4_least 2 (some .int) 2 := ⟨⟨q_937, q_938, q_34, q_939⟩, by decide, by decide, by decide +kernel⟩
theorem s_RX4_101 : SiteS "LentRoomModel" 101 yX4_most cX4_most 3 (some .int) 2 := ⟨⟨q_940, q_941, q_34, q_942⟩, by decide, by decide, by decide +kernel⟩
theorem s_RX4_79 : SiteS "LentRoomModel" 79 yX4_taken cX4_taken 2 (some .int) 2 := ⟨⟨q_896, q_897, q_34, q_898⟩, by decide, by decide, by decide +kernel⟩
set_option maxHeartbeats 4000000 in
theorem k_X4_in (l : Launch) (g : Gt) (a b c : Int) (ha : RgL a) (hb : RgL b) (hc : RgL c) : CP l yX4_in cX4_in 6 (some .boolean) 0 0 g [.long (iL a), .long (iL b), .long (iL c)] (fun _ => True) (some (.int (iI (pI (b ≤ a ∧ a ≤ c))))) := by
  refine cp_of "LentRoomModel" (by decide) rfl (Nat.le_of_ble_eq_true rfl) ?_
  intro zp ze zs zm za zb zt zc ls C hP hl
  have hl : lv_has ls 6 [(0, .long (iL a)), (2, .long (iL b)), (4, .long (iL c))] := hl
  refine r_lload_n C rfl (lv_at hl 0 rfl) dX4_in_0 ?_
  refine r_lload_n C rfl (lv_at hl 1 rfl) dX4_in_1 ?_
  refine r_lcmp C (by omega) (by omega) dX4_in_2 ?_
  refine r_ifc_lt (tgt := 17) C (by decide) dX4_in_3 (fun c1 => ?_) (fun c1 => ?_)
  · refine r_iconst C dX4_in_17 ?_
    exact r_iretP C rfl rfl (congrArg iI (pI_f (by omega)).symm) dX4_in_18
  · refine r_lload_n C rfl (lv_at hl 0 rfl) dX4_in_6 ?_
    refine r_lload C (lv_at hl 2 rfl) dX4_in_7 ?_
    refine r_lcmp C (by omega) (by omega) dX4_in_9 ?_
    refine r_ifc_gt (tgt := 17) C (by decide) dX4_in_10 (fun c2 => ?_) (fun c2 => ?_)
    · refine r_iconst C dX4_in_17 ?_
      exact r_iretP C rfl rfl (congrArg iI (pI_f (by omega)).symm) dX4_in_18
    · refine r_iconst C dX4_in_13 ?_
      refine r_goto (tgt := 18) C (by decide) dX4_in_14 ?_
      exact r_iretP C rfl rfl (congrArg iI (pI_t (by omega)).symm) dX4_in_18
set_option maxHeartbeats 4000000 in
theorem k_X4_at (l : Launch) (g : Gt) (x : Int) : CP l yX4_at cX4_at 1 (some .int) 0 0 g [.int (iI x)] (fun _ => True) (some (.int (iI (2 + 52 * x)))) := by
  refine cp_of "LentRoomModel" (by decide) rfl (Nat.le_of_ble_eq_true rfl) ?_
  intro zp ze zs zm za zb zt zc ls C hP hl
  have hl : lv_has ls 1 [(0, .int (iI x))] := hl
  refine r_iconst C dX4_at_0 ?_
  refine r_bipush C (by decide) dX4_at_1 ?_
  refine r_iload_n C rfl (lv_at hl 0 rfl) dX4_at_3 ?_
  refine r_imul C dX4_at_4 ?_
  refine r_iadd C dX4_at_5 ?_
  exact r_iretP C rfl rfl (congrArg iI (by first | rfl | omega)) dX4_at_6
set_option maxHeartbeats 4000000 in
theorem k_X4_isPage (l : Launch) (g : Gt) (x : Int) (hx : Rg x) : CP l yX4_isPage cX4_isPage 1 (some .boolean) 1 25 g [.int (iI x)] (fun _ => True) (some (.int (iI (pI (0 ≤ x ∧ x < 40))))) := by
  refine cp_of "LentRoomModel" (by decide) rfl (Nat.le_of_ble_eq_true rfl) ?_
  intro zp ze zs zm za zb zt zc ls C hP hl
  have hl : lv_has ls 1 [(0, .int (iI x))] := hl
  refine r_iload_n C rfl (lv_at hl 0 rfl) dX4_isPage_0 ?_
  refine r_i2l C (by omega) dX4_isPage_1 ?_
  refine r_lconst C 0 rfl dX4_isPage_2 ?_
  refine r_ldc2 C (v := iL 39) q_981 dX4_isPage_3 ?_
  refine r_sPi (rest := []) C (k_X4_in l g x 0 39 (by omega) (by omega) (by omega)) s_RX4_39 trivial hl.1 rfl ⟨by decide, by decide⟩ rfl (Nat.le_of_ble_eq_true rfl) ⟨Nat.le_refl 0, Nat.le_refl 0⟩ dX4_isPage_6 ?_
  exact r_iretP C rfl (nar_pI _) (congrArg iI (pI_c (by omega))) dX4_isPage_9
set_option maxHeartbeats 4000000 in
theorem k_X4_isSpace (l : Launch) (g : Gt) (a : Nat) (F : Nat → Int) (hSm : Sm F) (x : Int) (hx : Rg x) : CP l yX4_isSpace cX4_isSpace 2 (some .boolean) 1 25 g [.ref a, .int (iI x)] (aAt g a 262 F) (some (.int (iI (pI (0 ≤ x ∧ x < F 0))))) := by
  refine cp_of "LentRoomModel" (by decide) rfl (Nat.le_of_ble_eq_true rfl) ?_
  intro zp ze zs zm za zb zt zc ls C hP hl
  have hr := hP
  have hl : lv_has ls 2 [(0, .ref a), (1, .int (iI x))] := hl
  refine r_iload_n C rfl (lv_at hl 1 rfl) dX4_isSpace_0 ?_
  refine r_i2l C (by omega) dX4_isSpace_1 ?_
  refine r_lconst C 0 rfl dX4_isSpace_2 ?_
  refine r_aload_n C rfl (lv_at hl 0 rfl) dX4_isSpace_3 ?_
  refine r_iconst C dX4_isSpace_4 ?_
  refine r_iald (v := F 0) C hr 0 rfl (by omega) (by omega) rfl dX4_isSpace_5 ?_
  have b1 := hSm.1 0 (by omega)
  have b2 := hSm.2
  refine r_iconst C dX4_isSpace_6 ?_
  refine r_isub C dX4_isSpace_7 ?_
  refine r_i2l C (by omega) dX4_isSpace_8 ?_
  refine r_sPi (rest := []) C (k_X4_in l g x 0 ((F 0) - 1) (by omega) (by omega) (by omega)) s_RX4_39 trivial hl.1 rfl ⟨by decide, by decide⟩ rfl (Nat.le_of_ble_eq_true rfl) ⟨Nat.le_refl 0, Nat.le_refl 0⟩ dX4_isSpace_9 ?_
  exact r_iretP C rfl (nar_pI _) (congrArg iI (pI_c (by omega))) dX4_isSpace_12
set_option maxHeartbeats 4000000 in
theorem k_X4_of (l : Launch) (g : Gt) (a : Nat) (F : Nat → Int) (hSm : Sm F) (x w : Int) (s k : Nat) (hx : x = (s : Int)) (hw : w = (k : Int)) (hs : s < 5) (hk : k < 52) : CP l yX4_of cX4_of 3 (some .int) 1 20 g [.ref a, .int (iI x), .int (iI w)] (aAt g a 262 F) (some (.int (iI (F (2 + 52 * s + k))))) := by
  refine cp_of "LentRoomModel" (by decide) rfl (Nat.le_of_ble_eq_true rfl) ?_
  intro zp ze zs zm za zb zt zc ls C hP hl
  have hr := hP
  have hl : lv_has ls 3 [(0, .ref a), (1, .int (iI x)), (2, .int (iI w))] := hl
  refine r_aload_n C rfl (lv_at hl 0 rfl) dX4_of_0 ?_
  refine r_iload_n C rfl (lv_at hl 1 rfl) dX4_of_1 ?_
  refine r_sPi (rest := [.ref a]) C (k_X4_at l g x) s_RX4_45 trivial hl.1 rfl ⟨by decide, by decide⟩ rfl (Nat.le_of_ble_eq_true rfl) ⟨Nat.le_refl 0, Nat.le_refl 0⟩ dX4_of_2 ?_
  refine r_iload_n C rfl (lv_at hl 2 rfl) dX4_of_5 ?_
  refine r_iadd C dX4_of_6 ?_
  refine r_iald (v := F (2 + 52 * s + k)) C hr (2 + 52 * s + k) (by omega) (by omega) (by omega) rfl dX4_of_7 ?_
  have b1 := hSm.1 (2 + 52 * s + k) (by omega)
  exact r_iretP C rfl rfl (congrArg iI (by first | rfl | omega)) dX4_of_8
set_option maxHeartbeats 4000000 in
theorem k_X4_sum (l : Launch) (g : Gt) (a : Nat) (F : Nat → Int) (hSm : Sm F) (hZ : Zr F) (w : Int) (k : Nat) (hw : w = (k : Int)) (hk : k < 52) : CP l yX4_sum cX4_sum 4 (some .int) 2 42 g [.ref a, .int (iI w)] (aAt g a 262 F) (some (.int (iI (S5 F k)))) := by
  refine cp_of "LentRoomModel" (by decide) rfl (Nat.le_of_ble_eq_true rfl) ?_
  intro zp ze zs zm za zb zt zc ls C hP hl
  have hr := hP
  have hl : lv_has ls 4 [(0, .ref a), (1, .int (iI w))] := hl
  have cut4 : ∀ (N : Nat) (i : Nat) (v2 : Int) (v3 : Int), 5 - i < N → ((i : Int) ≤ F 0) → (v2 = sumI (fun s => F (2 + 52 * s + k)) i) → (v3 = (i : Int)) → ∀ ls : Array Slot, lv_has ls 4 [(0, .ref a), (1, .int (iI w)), (2, .int (iI v2)), (3, .int (iI v3))] → W zp l ze (rmc 2 42) zs zm za zb zt zc zs.heap [] 0 0 (MQ zb (PQ (some (.int (iI (S5 F k))))) za zs 0 0 (fun _ => False)) (F0 zm 4 ls []) := by
    intro N
    induction N with
    | zero => intro i v2 v3; exact fun hms => absurd hms (Nat.not_lt_zero _)
    | succ N ih =>
      intro i v2 v3 hms hi hv2 hv3 ls hl
      refine r_iload_n C rfl (lv_at hl 3 rfl) dX4_sum_4 ?_
      refine r_aload_n C rfl (lv_at hl 0 rfl) dX4_sum_5 ?_
      refine r_iconst C dX4_sum_6 ?_
      refine r_iald (v := F 0) C hr 0 rfl (by omega) (by omega) rfl dX4_sum_7 ?_
      have b1 := hSm.1 0 (by omega)
      have b2 := hSm.2
      refine r_icmp_ge (tgt := 26) C (by decide) (by omega) (by omega) dX4_sum_8 (fun c3 => ?_) (fun c3 => ?_)
      · refine r_iload_n C rfl (lv_at hl 2 rfl) dX4_sum_26 ?_
        exact r_iretP C rfl rfl (congrArg iI (by rw [hv2, show i = (F 0).toNat by omega]; exact S5_n hSm hZ k hk)) dX4_sum_27
      · refine r_iload_n C rfl (lv_at hl 2 rfl) dX4_sum_11 ?_
        refine r_aload_n C rfl (lv_at hl 0 rfl) dX4_sum_12 ?_
        refine r_iload_n C rfl (lv_at hl 3 rfl) dX4_sum_13 ?_
        refine r_iload_n C rfl (lv_at hl 1 rfl) dX4_sum_14 ?_
        refine r_sPi (rest := [.int (iI v2)]) C (k_X4_of l g a F hSm v3 w i k (by omega) (by omega) (by omega) (by omega)) s_RX4_49 hr hl.1 rfl ⟨by decide, by decide⟩ rfl (Nat.le_of_ble_eq_true rfl) ⟨Nat.le_refl 0, Nat.le_refl 0⟩ dX4_sum_15 ?_
        have b4 := hSm.f i k (by omega) (by omega)
        refine r_iadd C dX4_sum_18 ?_
        refine r_istore_n (lv' := [(2, .int (iI (v2 + (F (2 + 52 * i + k))))), (0, .ref a), (1, .int (iI w)), (3, .int (iI v3))]) C rfl hl (by decide) rfl dX4_sum_19 (fun ls hl => ?_)
        refine r_iinc (lv' := [(3, .int (iI (v3 + 1))), (2, .int (iI (v2 + (F (2 + 52 * i + k))))), (0, .ref a), (1, .int (iI w))]) C hl (q := 3) rfl (by decide) rfl dX4_sum_20 (fun ls hl => ?_)
        refine r_goto (tgt := 4) C (by decide) dX4_sum_23 ?_
        exact ih (i + 1) (v2 + (F (2 + 52 * i + k))) (v3 + 1) (by omega) (by omega) (by rw [sumI, hv2]) (by omega) _ (lv_sub hl [2, 3, 1, 0] rfl)
  refine r_iconst C dX4_sum_0 ?_
  refine r_istore_n (lv' := [(2, .int (iI 0)), (0, .ref a), (1, .int (iI w))]) C rfl hl (by decide) rfl dX4_sum_1 (fun ls hl => ?_)
  refine r_iconst C dX4_sum_2 ?_
  refine r_istore_n (lv' := [(3, .int (iI 0)), (2, .int (iI 0)), (0, .ref a), (1, .int (iI w))]) C rfl hl (by decide) rfl dX4_sum_3 (fun ls hl => ?_)
  exact cut4 _ 0 0 0 (Nat.lt_succ_self _) (by have := hSm.n; omega) (by rfl) (by omega) _ (lv_sub hl [2, 3, 1, 0] rfl)
set_option maxHeartbeats 4000000 in
theorem k_X4_lends (l : Launch) (g : Gt) (a : Nat) (F : Nat → Int) (hSm : Sm F) (hZ : Zr F) (x : Int) (s : Nat) (hx : x = (s : Int)) (hs : s < 5) : CP l yX4_lends cX4_lends 2 (some .int) 3 65 g [.ref a, .int (iI x)] (aAt g a 262 F) (some (.int (iI (S5 F (7 + s))))) := by
  refine cp_of "LentRoomModel" (by decide) rfl (Nat.le_of_ble_eq_true rfl) ?_
  intro zp ze zs zm za zb zt zc ls C hP hl
  have hr := hP
  have hl : lv_has ls 2 [(0, .ref a), (1, .int (iI x))] := hl
  refine r_aload_n C rfl (lv_at hl 0 rfl) dX4_lends_0 ?_
  refine r_bipush C (by decide) dX4_lends_1 ?_
  refine r_iload_n C rfl (lv_at hl 1 rfl) dX4_lends_3 ?_
  refine r_iadd C dX4_lends_4 ?_
  refine r_sPi (rest := []) C (k_X4_sum l g a F hSm hZ (7 + x) (7 + s) (by omega) (by omega)) s_RX4_53 hr hl.1 rfl ⟨by decide, by decide⟩ rfl (Nat.le_of_ble_eq_true rfl) ⟨Nat.le_refl 0, Nat.le_refl 0⟩ dX4_lends_5 ?_
  have b1 := S5_b hSm (7 + s) (by omega)
  exact r_iretP C rfl rfl (congrArg iI (by rfl)) dX4_lends_8
set_option maxHeartbeats 4000000 in
theorem k_X4_borrowed (l : Launch) (g : Gt) (a : Nat) (F : Nat → Int) (hSm : Sm F) (x : Int) (s : Nat) (hx : x = (s : Int)) (hs : s < 5) : CP l yX4_borrowed cX4_borrowed 4 (some .int) 2 42 g [.ref a, .int (iI x)] (aAt g a 262 F) (some (.int (iI (borr F s)))) := by
  refine cp_of "LentRoomModel" (by decide) rfl (Nat.le_of_ble_eq_true rfl) ?_
  intro zp ze zs zm za zb zt zc ls C hP hl
  have hr := hP
  have hl : lv_has ls 4 [(0, .ref a), (1, .int (iI x))] := hl
  have cut4 : ∀ (N : Nat) (i : Nat) (v2 : Int) (v3 : Int), 5 - i < N → (i ≤ 5) → (v2 = sumI (fun l => F (2 + 52 * s + (7 + l))) i) → (v3 = (i : Int)) → ∀ ls : Array Slot, lv_has ls 4 [(0, .ref a), (1, .int (iI x)), (2, .int (iI v2)), (3, .int (iI v3))] → W zp l ze (rmc 2 42) zs zm za zb zt zc zs.heap [] 0 0 (MQ zb (PQ (some (.int (iI (borr F s))))) za zs 0 0 (fun _ => False)) (F0 zm 4 ls []) := by
    intro N
    induction N with
    | zero => intro i v2 v3; exact fun hms => absurd hms (Nat.not_lt_zero _)
    | succ N ih =>
      intro i v2 v3 hms hi hv2 hv3 ls hl
      refine r_iload_n C rfl (lv_at hl 3 rfl) dX4_borrowed_4 ?_
      refine r_iconst C dX4_borrowed_5 ?_
      refine r_icmp_ge (tgt := 27) C (by decide) (by omega) (by decide) dX4_borrowed_6 (fun c1 => ?_) (fun c1 => ?_)
      · refine r_iload_n C rfl (lv_at hl 2 rfl) dX4_borrowed_27 ?_
        exact r_iretP C rfl rfl (congrArg iI (by rw [hv2, show i = 5 by omega]; rfl)) dX4_borrowed_28
      · refine r_iload_n C rfl (lv_at hl 2 rfl) dX4_borrowed_9 ?_
        refine r_aload_n C rfl (lv_at hl 0 rfl) dX4_borrowed_10 ?_
        refine r_iload_n C rfl (lv_at hl 1 rfl) dX4_borrowed_11 ?_
        refine r_bipush C (by decide) dX4_borrowed_12 ?_
        refine r_iload_n C rfl (lv_at hl 3 rfl) dX4_borrowed_14 ?_
        refine r_iadd C dX4_borrowed_15 ?_
        refine r_sPi (rest := [.int (iI v2)]) C (k_X4_of l g a F hSm x (7 + v3) s (7 + i) (by omega) (by omega) (by omega) (by omega)) s_RX4_49 hr hl.1 rfl ⟨by decide, by decide⟩ rfl (Nat.le_of_ble_eq_true rfl) ⟨Nat.le_refl 0, Nat.le_refl 0⟩ dX4_borrowed_16 ?_
        have b2 := hSm.f s (7 + i) (by omega) (by omega)
        refine r_iadd C dX4_borrowed_19 ?_
        refine r_istore_n (lv' := [(2, .int (iI (v2 + (F (2 + 52 * s + (7 + i)))))), (0, .ref a), (1, .int (iI x)), (3, .int (iI v3))]) C rfl hl (by decide) rfl dX4_borrowed_20 (fun ls hl => ?_)
        refine r_iinc (lv' := [(3, .int (iI (v3 + 1))), (2, .int (iI (v2 + (F (2 + 52 * s + (7 + i)))))), (0, .ref a), (1, .int (iI x))]) C hl (q := 3) rfl (by decide) rfl dX4_borrowed_21 (fun ls hl => ?_)
        refine r_goto (tgt := 4) C (by decide) dX4_borrowed_24 ?_
        exact ih (i + 1) (v2 + (F (2 + 52 * s + (7 + i)))) (v3 + 1) (by omega) (by omega) (by rw [sumI, hv2]) (by omega) _ (lv_sub hl [2, 3, 1, 0] rfl)
  refine r_iconst C dX4_borrowed_0 ?_
  refine r_istore_n (lv' := [(2, .int (iI 0)), (0, .ref a), (1, .int (iI x))]) C rfl hl (by decide) rfl dX4_borrowed_1 (fun ls hl => ?_)
  refine r_iconst C dX4_borrowed_2 ?_
  refine r_istore_n (lv' := [(3, .int (iI 0)), (2, .int (iI 0)), (0, .ref a), (1, .int (iI x))]) C rfl hl (by decide) rfl dX4_borrowed_3 (fun ls hl => ?_)
  exact cut4 _ 0 0 0 (Nat.lt_succ_self _) (by omega) (by rfl) (by omega) _ (lv_sub hl [2, 3, 1, 0] rfl)
set_option maxHeartbeats 4000000 in
theorem k_X4_taken (l : Launch) (g : Gt) (a : Nat) (F : Nat → Int) (hSm : Sm F) (x : Int) (s : Nat) (hx : x = (s : Int)) (hs : s < 5) : CP l yX4_taken cX4_taken 2 (some .int) 3 65 g [.ref a, .int (iI x)] (aAt g a 262 F) (some (.int (iI (tk F s)))) := by
  refine cp_of "LentRoomModel" (by decide) rfl (Nat.le_of_ble_eq_true rfl) ?_
  intro zp ze zs zm za zb zt zc ls C hP hl
  have hr := hP
  have hl : lv_has ls 2 [(0, .ref a), (1, .int (iI x))] := hl
  refine r_aload_n C rfl (lv_at hl 0 rfl) dX4_taken_0 ?_
  refine r_iload_n C rfl (lv_at hl 1 rfl) dX4_taken_1 ?_
  refine r_iconst C dX4_taken_2 ?_
  refine r_sPi (rest := []) C (k_X4_of l g a F hSm x 2 s 2 (by omega) (by omega) (by omega) (by omega)) s_RX4_49 hr hl.1 rfl ⟨by decide, by decide⟩ rfl (Nat.le_of_ble_eq_true rfl) ⟨Nat.le_refl 0, Nat.le_refl 0⟩ dX4_taken_3 ?_
  have b1 := hSm.f s 2 (by omega) (by omega)
  refine r_aload_n C rfl (lv_at hl 0 rfl) dX4_taken_6 ?_
  refine r_iload_n C rfl (lv_at hl 1 rfl) dX4_taken_7 ?_
  refine r_iconst C dX4_taken_8 ?_
  refine r_sPi (rest := [.int (iI (F (2 + 52 * s + 2)))]) C (k_X4_of l g a F hSm x 3 s 3 (by omega) (by omega) (by omega) (by omega)) s_RX4_49 hr hl.1 rfl ⟨by decide, by decide⟩ rfl (Nat.le_of_ble_eq_true rfl) ⟨Nat.le_refl 0, Nat.le_refl 0⟩ dX4_taken_9 ?_
  have b2 := hSm.f s 3 (by omega) (by omega)
  refine r_iadd C dX4_taken_12 ?_
  refine r_aload_n C rfl (lv_at hl 0 rfl) dX4_taken_13 ?_
  refine r_iload_n C rfl (lv_at hl 1 rfl) dX4_taken_14 ?_
  refine r_sPi (rest := [.int (iI ((F (2 + 52 * s + 2)) + (F (2 + 52 * s + 3))))]) C (k_X4_borrowed l g a F hSm x s (by omega) (by omega)) s_RX4_57 hr hl.1 rfl ⟨by decide, by decide⟩ rfl (Nat.le_of_ble_eq_true rfl) ⟨Nat.le_refl 0, Nat.le_refl 0⟩ dX4_taken_15 ?_
  have b3 := borr_b hSm s (by omega)
  refine r_iadd C dX4_taken_18 ?_
  exact r_iretP C rfl rfl (congrArg iI (by rfl)) dX4_taken_19
set_option maxHeartbeats 4000000 in
theorem k_X4_idle (l : Launch) (g : Gt) (a : Nat) (F : Nat → Int) (hSm : Sm F) (hZ : Zr F) (x : Int) (s : Nat) (hx : x = (s : Int)) (hs : s < 5) : CP l yX4_idle cX4_idle 2 (some .int) 4 86 g [.ref a, .int (iI x)] (aAt g a 262 F) (some (.int (iI (idle F s)))) := by
  refine cp_of "LentRoomModel" (by decide) rfl (Nat.le_of_ble_eq_true rfl) ?_
  intro zp ze zs zm za zb zt zc ls C hP hl
  have hr := hP
  have hl : lv_has ls 2 [(0, .ref a), (1, .int (iI x))] := hl
  refine r_aload_n C rfl (lv_at hl 0 rfl) dX4_idle_0 ?_
  refine r_iload_n C rfl (lv_at hl 1 rfl) dX4_idle_1 ?_
  refine r_iconst C dX4_idle_2 ?_
  refine r_sPi (rest := []) C (k_X4_of l g a F hSm x 0 s 0 (by omega) (by omega) (by omega) (by omega)) s_RX4_49 hr hl.1 rfl ⟨by decide, by decide⟩ rfl (Nat.le_of_ble_eq_true rfl) ⟨Nat.le_refl 0, Nat.le_refl 0⟩ dX4_idle_3 ?_
  have b1 := hSm.f s 0 (by omega) (by omega)
  refine r_aload_n C rfl (lv_at hl 0 rfl) dX4_idle_6 ?_
  refine r_iload_n C rfl (lv_at hl 1 rfl) dX4_idle_7 ?_
  refine r_iconst C dX4_idle_8 ?_
  refine r_sPi (rest := [.int (iI (F (2 + 52 * s + 0)))]) C (k_X4_of l g a F hSm x 2 s 2 (by omega) (by omega) (by omega) (by omega)) s_RX4_49 hr hl.1 rfl ⟨by decide, by decide⟩ rfl (Nat.le_of_ble_eq_true rfl) ⟨Nat.le_refl 0, Nat.le_refl 0⟩ dX4_idle_9 ?_
  have b2 := hSm.f s 2 (by omega) (by omega)
  refine r_isub C dX4_idle_12 ?_
  refine r_aload_n C rfl (lv_at hl 0 rfl) dX4_idle_13 ?_
  refine r_iload_n C rfl (lv_at hl 1 rfl) dX4_idle_14 ?_
  refine r_sPi (rest := [.int (iI ((F (2 + 52 * s + 0)) - (F (2 + 52 * s + 2))))]) C (k_X4_lends l g a F hSm hZ x s (by omega) (by omega)) s_RX4_60 hr hl.1 rfl ⟨by decide, by decide⟩ rfl (Nat.le_of_ble_eq_true rfl) ⟨Nat.le_refl 0, Nat.le_refl 0⟩ dX4_idle_15 ?_
  have b3 := S5_b hSm (7 + s) (by omega)
  refine r_isub C dX4_idle_18 ?_
  exact r_iretP C rfl rfl (congrArg iI (by rfl)) dX4_idle_19
set_option maxHeartbeats 4000000 in
theorem k_X4_free (l : Launch) (g : Gt) (a : Nat) (F : Nat → Int) (hSm : Sm F) (hZ : Zr F) : CP l yX4_free cX4_free 1 (some .int) 3 65 g [.ref a] (aAt g a 262 F) (some (.int (iI (free F)))) := by
  refine cp_of "LentRoomModel" (by decide) rfl (Nat.le_of_ble_eq_true rfl) ?_
  intro zp ze zs zm za zb zt zc ls C hP hl
  have hr := hP
  have hl : lv_has ls 1 [(0, .ref a)] := hl
  refine r_bipush C (by decide) dX4_free_0 ?_
  refine r_aload_n C rfl (lv_at hl 0 rfl) dX4_free_2 ?_
  refine r_iconst C dX4_free_3 ?_
  refine r_sPi (rest := [.int (iI 60)]) C (k_X4_sum l g a F hSm hZ 0 0 (by omega) (by omega)) s_RX4_53 hr hl.1 rfl ⟨by decide, by decide⟩ rfl (Nat.le_of_ble_eq_true rfl) ⟨Nat.le_refl 0, Nat.le_refl 0⟩ dX4_free_4 ?_
  have b1 := S5_b hSm 0 (by omega)
  refine r_isub C dX4_free_7 ?_
  refine r_aload_n C rfl (lv_at hl 0 rfl) dX4_free_8 ?_
  refine r_iconst C dX4_free_9 ?_
  refine r_sPi (rest := [.int (iI (60 - (S5 F 0)))]) C (k_X4_sum l g a F hSm hZ 3 3 (by omega) (by omega)) s_RX4_53 hr hl.1 rfl ⟨by decide, by decide⟩ rfl (Nat.le_of_ble_eq_true rfl) ⟨Nat.le_refl 0, Nat.le_refl 0⟩ dX4_free_10 ?_
  have b2 := S5_b hSm 3 (by omega)
  refine r_isub C dX4_free_13 ?_
  exact r_iretP C rfl rfl (congrArg iI (by rfl)) dX4_free_14
set_option maxHeartbeats 4000000 in
theorem k_X4_lender (l : Launch) (g : Gt) (a : Nat) (F : Nat → Int) (hSm : Sm F) (hZ : Zr F) (x y : Int) (b c : Nat) (hx : x = (b : Int)) (hy : y = (c : Int)) (hb : b < 5) (hc : c < 5) : CP l yX4_lender cX4_lender 6 (some .int) 5 107 g [.ref a, .int (iI x), .int (iI y)] (aAt g a 262 F) (some (.int (iI (lender F b c)))) := by
  refine cp_of "LentRoomModel" (by decide) rfl (Nat.le_of_ble_eq_true rfl) ?_
  intro zp ze zs zm za zb zt zc ls C hP hl
  have hr := hP
  have hl : lv_has ls 6 [(0, .ref a), (1, .int (iI x)), (2, .int (iI y))] := hl
  have cut5 : ∀ (N : Nat) (i : Nat) (v3 : Int) (v4 : Int), 5 - i < N → ((i : Int) ≤ F 0) → (-1 ≤ v3 ∧ v3 < i) → (v3 = lnd F b c i) → (v4 = (i : Int)) → ∀ ls : Array Slot, lv_has ls 6 [(0, .ref a), (1, .int (iI x)), (2, .int (iI y)), (3, .int (iI v3)), (4, .int (iI v4))] → W zp l ze (rmc 5 107) zs zm za zb zt zc zs.heap [] 0 0 (MQ zb (PQ (some (.int (iI (lender F b c))))) za zs 0 0 (fun _ => False)) (F0 zm 5 ls []) := by
    intro N
    induction N with
    | zero => intro i v3 v4; exact fun hms => absurd hms (Nat.not_lt_zero _)
    | succ N ih =>
      intro i v3 v4 hms hi hb3 hv3 hv4 ls hl
      refine r_iload C (lv_at hl 4 rfl) dX4_lender_5 ?_
      refine r_aload_n C rfl (lv_at hl 0 rfl) dX4_lender_7 ?_
      refine r_iconst C dX4_lender_8 ?_
      refine r_iald (v := F 0) C hr 0 rfl (by omega) (by omega) rfl dX4_lender_9 ?_
      have b1 := hSm.1 0 (by omega)
      have b2 := hSm.2
      refine r_icmp_ge (tgt := 78) C (by decide) (by omega) (by omega) dX4_lender_10 (fun c3 => ?_) (fun c3 => ?_)
      · refine r_iload_n C rfl (lv_at hl 3 rfl) dX4_lender_78 ?_
        exact r_iretP C rfl rfl (congrArg iI (by rw [hv3, show i = (F 0).toNat by omega]; rfl)) dX4_lender_79
      · refine r_iload C (lv_at hl 4 rfl) dX4_lender_13 ?_
        refine r_iload_n C rfl (lv_at hl 1 rfl) dX4_lender_15 ?_
        refine r_icmp_eq (tgt := 38) C (by decide) (by omega) (by omega) dX4_lender_16 (fun c4 => ?_) (fun c4 => ?_)
        · refine r_iconst C dX4_lender_38 ?_
          refine r_istore (lv' := [(5, .int (iI 0)), (0, .ref a), (1, .int (iI x)), (2, .int (iI y)), (3, .int (iI v3)), (4, .int (iI v4))]) C hl (by decide) rfl dX4_lender_39 (fun ls hl => ?_)
          refine r_iload C (lv_at hl 0 rfl) dX4_lender_41 ?_
          refine r_if_eq (tgt := 70) C (by decide) (by decide) dX4_lender_43 (fun c5 => ?_) (fun c5 => ?_)
          · refine r_iload_n C rfl (lv_at hl 4 rfl) dX4_lender_70 ?_
            refine r_istore_n (lv' := [(3, .int (iI v3)), (5, .int (iI 0)), (0, .ref a), (1, .int (iI x)), (2, .int (iI y)), (4, .int (iI v4))]) C rfl hl (by decide) rfl dX4_lender_71 (fun ls hl => ?_)
            refine r_iinc (lv' := [(4, .int (iI (v4 + 1))), (3, .int (iI v3)), (5, .int (iI 0)), (0, .ref a), (1, .int (iI x)), (2, .int (iI y))]) C hl (q := 5) rfl (by decide) rfl dX4_lender_72 (fun ls hl => ?_)
            refine r_goto (tgt := 5) C (by decide) dX4_lender_75 ?_
            exact ih (i + 1) v3 (v4 + 1) (by omega) (by omega) (by omega) (by subst hv3; simp only [lnd]; split <;> omega) (by omega) _ (lv_sub hl [3, 4, 5, 1, 0] rfl)
          · exact absurd c5 (by decide)
        · refine r_iload C (lv_at hl 4 rfl) dX4_lender_19 ?_
          refine r_iload_n C rfl (lv_at hl 2 rfl) dX4_lender_21 ?_
          refine r_icmp_eq (tgt := 38) C (by decide) (by omega) (by omega) dX4_lender_22 (fun c6 => ?_) (fun c6 => ?_)
          · refine r_iconst C dX4_lender_38 ?_
            refine r_istore (lv' := [(5, .int (iI 0)), (0, .ref a), (1, .int (iI x)), (2, .int (iI y)), (3, .int (iI v3)), (4, .int (iI v4))]) C hl (by decide) rfl dX4_lender_39 (fun ls hl => ?_)
            refine r_iload C (lv_at hl 0 rfl) dX4_lender_41 ?_
            refine r_if_eq (tgt := 70) C (by decide) (by decide) dX4_lender_43 (fun c7 => ?_) (fun c7 => ?_)
            · refine r_iload_n C rfl (lv_at hl 4 rfl) dX4_lender_70 ?_
              refine r_istore_n (lv' := [(3, .int (iI v3)), (5, .int (iI 0)), (0, .ref a), (1, .int (iI x)), (2, .int (iI y)), (4, .int (iI v4))]) C rfl hl (by decide) rfl dX4_lender_71 (fun ls hl => ?_)
              refine r_iinc (lv' := [(4, .int (iI (v4 + 1))), (3, .int (iI v3)), (5, .int (iI 0)), (0, .ref a), (1, .int (iI x)), (2, .int (iI y))]) C hl (q := 5) rfl (by decide) rfl dX4_lender_72 (fun ls hl => ?_)
              refine r_goto (tgt := 5) C (by decide) dX4_lender_75 ?_
              exact ih (i + 1) v3 (v4 + 1) (by omega) (by omega) (by omega) (by subst hv3; simp only [lnd]; split <;> omega) (by omega) _ (lv_sub hl [3, 4, 5, 1, 0] rfl)
            · exact absurd c7 (by decide)
          · refine r_aload_n C rfl (lv_at hl 0 rfl) dX4_lender_25 ?_
            refine r_iload C (lv_at hl 4 rfl) dX4_lender_26 ?_
            refine r_sPi (rest := []) C (k_X4_idle l g a F hSm hZ v4 i (by omega) (by omega)) s_RX4_63 hr hl.1 rfl ⟨by decide, by decide⟩ rfl (Nat.le_of_ble_eq_true rfl) ⟨Nat.le_refl 0, Nat.le_refl 0⟩ dX4_lender_28 ?_
            have b8 := idle_b hSm i (by omega)
            refine r_if_le (tgt := 38) C (by decide) (by omega) dX4_lender_31 (fun c9 => ?_) (fun c9 => ?_)
            · refine r_iconst C dX4_lender_38 ?_
              refine r_istore (lv' := [(5, .int (iI 0)), (0, .ref a), (1, .int (iI x)), (2, .int (iI y)), (3, .int (iI v3)), (4, .int (iI v4))]) C hl (by decide) rfl dX4_lender_39 (fun ls hl => ?_)
              refine r_iload C (lv_at hl 0 rfl) dX4_lender_41 ?_
              refine r_if_eq (tgt := 70) C (by decide) (by decide) dX4_lender_43 (fun c10 => ?_) (fun c10 => ?_)
              · refine r_iload_n C rfl (lv_at hl 4 rfl) dX4_lender_70 ?_
                refine r_istore_n (lv' := [(3, .int (iI v3)), (5, .int (iI 0)), (0, .ref a), (1, .int (iI x)), (2, .int (iI y)), (4, .int (iI v4))]) C rfl hl (by decide) rfl dX4_lender_71 (fun ls hl => ?_)
                refine r_iinc (lv' := [(4, .int (iI (v4 + 1))), (3, .int (iI v3)), (5, .int (iI 0)), (0, .ref a), (1, .int (iI x)), (2, .int (iI y))]) C hl (q := 5) rfl (by decide) rfl dX4_lender_72 (fun ls hl => ?_)
                refine r_goto (tgt := 5) C (by decide) dX4_lender_75 ?_
                exact ih (i + 1) v3 (v4 + 1) (by omega) (by omega) (by omega) (by subst hv3; simp only [lnd]; split <;> omega) (by omega) _ (lv_sub hl [3, 4, 5, 1, 0] rfl)
              · exact absurd c10 (by decide)
            · refine r_iconst C dX4_lender_34 ?_
              refine r_goto (tgt := 39) C (by decide) dX4_lender_35 ?_
              refine r_istore (lv' := [(5, .int (iI 1)), (0, .ref a), (1, .int (iI x)), (2, .int (iI y)), (3, .int (iI v3)), (4, .int (iI v4))]) C hl (by decide) rfl dX4_lender_39 (fun ls hl => ?_)
              refine r_iload C (lv_at hl 0 rfl) dX4_lender_41 ?_
              refine r_if_eq (tgt := 70) C (by decide) (by decide) dX4_lender_43 (fun c11 => ?_) (fun c11 => ?_)
              · exact absurd c11 (by decide)
              · refine r_iload_n C rfl (lv_at hl 4 rfl) dX4_lender_46 ?_
                refine r_iconst C dX4_lender_47 ?_
                refine r_icmp_eq (tgt := 65) C (by decide) (by omega) (by decide) dX4_lender_48 (fun c12 => ?_) (fun c12 => ?_)
                · refine r_iload C (lv_at hl 5 rfl) dX4_lender_65 ?_
                  refine r_goto (tgt := 71) C (by decide) dX4_lender_67 ?_
                  refine r_istore_n (lv' := [(3, .int (iI v4)), (5, .int (iI 1)), (0, .ref a), (1, .int (iI x)), (2, .int (iI y)), (4, .int (iI v4))]) C rfl hl (by decide) rfl dX4_lender_71 (fun ls hl => ?_)
                  refine r_iinc (lv' := [(4, .int (iI (v4 + 1))), (3, .int (iI v4)), (5, .int (iI 1)), (0, .ref a), (1, .int (iI x)), (2, .int (iI y))]) C hl (q := 5) rfl (by decide) rfl dX4_lender_72 (fun ls hl => ?_)
                  refine r_goto (tgt := 5) C (by decide) dX4_lender_75 ?_
                  exact ih (i + 1) v4 (v4 + 1) (by omega) (by omega) (by omega) (by subst hv3; simp only [lnd]; split <;> omega) (by omega) _ (lv_sub hl [3, 4, 5, 1, 0] rfl)
                · refine r_aload_n C rfl (lv_at hl 1 rfl) dX4_lender_51 ?_
                  refine r_iload C (lv_at hl 5 rfl) dX4_lender_52 ?_
                  refine r_sPi (rest := []) C (k_X4_idle l g a F hSm hZ v4 i (by omega) (by omega)) s_RX4_63 hr hl.1 rfl ⟨by decide, by decide⟩ rfl (Nat.le_of_ble_eq_true rfl) ⟨Nat.le_refl 0, Nat.le_refl 0⟩ dX4_lender_54 ?_
                  have b13 := idle_b hSm i (by omega)
                  refine r_aload_n C rfl (lv_at hl 1 rfl) dX4_lender_57 ?_
                  refine r_iload_n C rfl (lv_at hl 4 rfl) dX4_lender_58 ?_
                  refine r_sPi (rest := [.int (iI (idle F i))]) C (k_X4_idle l g a F hSm hZ v3 ((v3).toNat) (by omega) (by omega)) s_RX4_63 hr hl.1 rfl ⟨by decide, by decide⟩ rfl (Nat.le_of_ble_eq_true rfl) ⟨Nat.le_refl 0, Nat.le_refl 0⟩ dX4_lender_59 ?_
                  have b14 := idle_b hSm ((v3).toNat) (by omega)
                  refine r_icmp_le (tgt := 70) C (by decide) (by omega) (by omega) dX4_lender_62 (fun c15 => ?_) (fun c15 => ?_)
                  · refine r_iload_n C rfl (lv_at hl 4 rfl) dX4_lender_70 ?_
                    refine r_istore_n (lv' := [(3, .int (iI v3)), (5, .int (iI 1)), (0, .ref a), (1, .int (iI x)), (2, .int (iI y)), (4, .int (iI v4))]) C rfl hl (by decide) rfl dX4_lender_71 (fun ls hl => ?_)
                    refine r_iinc (lv' := [(4, .int (iI (v4 + 1))), (3, .int (iI v3)), (5, .int (iI 1)), (0, .ref a), (1, .int (iI x)), (2, .int (iI y))]) C hl (q := 5) rfl (by decide) rfl dX4_lender_72 (fun ls hl => ?_)
                    refine r_goto (tgt := 5) C (by decide) dX4_lender_75 ?_
                    exact ih (i + 1) v3 (v4 + 1) (by omega) (by omega) (by omega) (by subst hv3; simp only [lnd]; split <;> omega) (by omega) _ (lv_sub hl [3, 4, 5, 1, 0] rfl)
                  · refine r_iload C (lv_at hl 5 rfl) dX4_lender_65 ?_
                    refine r_goto (tgt := 71) C (by decide) dX4_lender_67 ?_
                    refine r_istore_n (lv' := [(3, .int (iI v4)), (5, .int (iI 1)), (0, .ref a), (1, .int (iI x)), (2, .int (iI y)), (4, .int (iI v4))]) C rfl hl (by decide) rfl dX4_lender_71 (fun ls hl => ?_)
                    refine r_iinc (lv' := [(4, .int (iI (v4 + 1))), (3, .int (iI v4)), (5, .int (iI 1)), (0, .ref a), (1, .int (iI x)), (2, .int (iI y))]) C hl (q := 5) rfl (by decide) rfl dX4_lender_72 (fun ls hl => ?_)
                    refine r_goto (tgt := 5) C (by decide) dX4_lender_75 ?_
                    exact ih (i + 1) v4 (v4 + 1) (by omega) (by omega) (by omega) (by subst hv3; simp only [lnd]; split <;> omega) (by omega) _ (lv_sub hl [3, 4, 5, 1, 0] rfl)
  refine r_iconst C dX4_lender_0 ?_
  refine r_istore_n (lv' := [(3, .int (iI (-1))), (0, .ref a), (1, .int (iI x)), (2, .int (iI y))]) C rfl hl (by decide) rfl dX4_lender_1 (fun ls hl => ?_)
  refine r_iconst C dX4_lender_2 ?_
  refine r_istore (lv' := [(4, .int (iI 0)), (3, .int (iI (-1))), (0, .ref a), (1, .int (iI x)), (2, .int (iI y))]) C hl (by decide) rfl dX4_lender_3 (fun ls hl => ?_)
  exact cut5 _ 0 (-1) 0 (Nat.lt_succ_self _) (by have := hSm.n; omega) (by omega) (by rfl) (by omega) _ (lv_sub hl [2, 3, 4, 1, 0] rfl)
set_option maxHeartbeats 4000000 in
theorem k_X4_mostFrom (l : Launch) (g : Gt) (a : Nat) (F : Nat → Int) (hSm : Sm F) (x : Int) (s : Nat) (hx : x = (s : Int)) (hs : s < 5) : CP l yX4_mostFrom cX4_mostFrom 4 (some .int) 2 42 g [.ref a, .int (iI x)] (aAt g a 262 F) (some (.int (iI ((mostFrom F s : Nat) : Int)))) := by
  refine cp_of "LentRoomModel" (by decide) rfl (Nat.le_of_ble_eq_true rfl) ?_
  intro zp ze zs zm za zb zt zc ls C hP hl
  have hr := hP
  have hl : lv_has ls 4 [(0, .ref a), (1, .int (iI x))] := hl
  have cut4 : ∀ (N : Nat) (i : Nat) (v2 : Int) (v3 : Int), 5 - i < N → (1 ≤ i ∧ i ≤ 5) → (mf F s i < 5) → (v2 = ((mf F s i : Nat) : Int)) → (v3 = (i : Int)) → ∀ ls : Array Slot, lv_has ls 4 [(0, .ref a), (1, .int (iI x)), (2, .int (iI v2)), (3, .int (iI v3))] → W zp l ze (rmc 2 42) zs zm za zb zt zc zs.heap [] 0 0 (MQ zb (PQ (some (.int (iI ((mostFrom F s : Nat) : Int))))) za zs 0 0 (fun _ => False)) (F0 zm 4 ls []) := by
    intro N
    induction N with
    | zero => intro i v2 v3; exact fun hms => absurd hms (Nat.not_lt_zero _)
    | succ N ih =>
      intro i v2 v3 hms hi hb2 hv2 hv3 ls hl
      refine r_iload_n C rfl (lv_at hl 3 rfl) dX4_mostFrom_4 ?_
      refine r_iconst C dX4_mostFrom_5 ?_
      refine r_icmp_ge (tgt := 42) C (by decide) (by omega) (by decide) dX4_mostFrom_6 (fun c1 => ?_) (fun c1 => ?_)
      · refine r_iload_n C rfl (lv_at hl 2 rfl) dX4_mostFrom_42 ?_
        exact r_iretP C rfl rfl (congrArg iI (by rw [hv2, show i = 5 by omega]; rfl)) dX4_mostFrom_43
      · refine r_aload_n C rfl (lv_at hl 0 rfl) dX4_mostFrom_9 ?_
        refine r_iload_n C rfl (lv_at hl 1 rfl) dX4_mostFrom_10 ?_
        refine r_bipush C (by decide) dX4_mostFrom_11 ?_
        refine r_iload_n C rfl (lv_at hl 3 rfl) dX4_mostFrom_13 ?_
        refine r_iadd C dX4_mostFrom_14 ?_
        refine r_sPi (rest := []) C (k_X4_of l g a F hSm x (7 + v3) s (7 + i) (by omega) (by omega) (by omega) (by omega)) s_RX4_49 hr hl.1 rfl ⟨by decide, by decide⟩ rfl (Nat.le_of_ble_eq_true rfl) ⟨Nat.le_refl 0, Nat.le_refl 0⟩ dX4_mostFrom_15 ?_
        have b2 := hSm.f s (7 + i) (by omega) (by omega)
        refine r_aload_n C rfl (lv_at hl 0 rfl) dX4_mostFrom_18 ?_
        refine r_iload_n C rfl (lv_at hl 1 rfl) dX4_mostFrom_19 ?_
        refine r_bipush C (by decide) dX4_mostFrom_20 ?_
        refine r_iload_n C rfl (lv_at hl 2 rfl) dX4_mostFrom_22 ?_
        refine r_iadd C dX4_mostFrom_23 ?_
        refine r_sPi (rest := [.int (iI (F (2 + 52 * s + (7 + i))))]) C (k_X4_of l g a F hSm x (7 + v2) s (7 + (mf F s i)) (by omega) (by omega) (by omega) (by omega)) s_RX4_49 hr hl.1 rfl ⟨by decide, by decide⟩ rfl (Nat.le_of_ble_eq_true rfl) ⟨Nat.le_refl 0, Nat.le_refl 0⟩ dX4_mostFrom_24 ?_
        have b3 := hSm.f s (7 + (mf F s i)) (by omega) (by omega)
        refine r_icmp_le (tgt := 34) C (by decide) (by omega) (by omega) dX4_mostFrom_27 (fun c4 => ?_) (fun c4 => ?_)
        · refine r_iload_n C rfl (lv_at hl 2 rfl) dX4_mostFrom_34 ?_
          refine r_istore_n (lv' := [(2, .int (iI v2)), (0, .ref a), (1, .int (iI x)), (3, .int (iI v3))]) C rfl hl (by decide) rfl dX4_mostFrom_35 (fun ls hl => ?_)
          refine r_iinc (lv' := [(3, .int (iI (v3 + 1))), (2, .int (iI v2)), (0, .ref a), (1, .int (iI x))]) C hl (q := 3) rfl (by decide) rfl dX4_mostFrom_36 (fun ls hl => ?_)
          refine r_goto (tgt := 4) C (by decide) dX4_mostFrom_39 ?_
          exact ih (i + 1) v2 (v3 + 1) (by omega) (by omega) (by have := mf_b (F := F) s (i + 1); omega) (by simp only [mf]; split <;> omega) (by omega) _ (lv_sub hl [2, 3, 1, 0] rfl)
        · refine r_iload_n C rfl (lv_at hl 3 rfl) dX4_mostFrom_30 ?_
          refine r_goto (tgt := 35) C (by decide) dX4_mostFrom_31 ?_
          refine r_istore_n (lv' := [(2, .int (iI v3)), (0, .ref a), (1, .int (iI x)), (3, .int (iI v3))]) C rfl hl (by decide) rfl dX4_mostFrom_35 (fun ls hl => ?_)
          refine r_iinc (lv' := [(3, .int (iI (v3 + 1))), (2, .int (iI v3)), (0, .ref a), (1, .int (iI x))]) C hl (q := 3) rfl (by decide) rfl dX4_mostFrom_36 (fun ls hl => ?_)
          refine r_goto (tgt := 4) C (by decide) dX4_mostFrom_39 ?_
          exact ih (i + 1) v3 (v3 + 1) (by omega) (by omega) (by have := mf_b (F := F) s (i + 1); omega) (by simp only [mf]; split <;> omega) (by omega) _ (lv_sub hl [2, 3, 1, 0] rfl)
  refine r_iconst C dX4_mostFrom_0 ?_
  refine r_istore_n (lv' := [(2, .int (iI 0)), (0, .ref a), (1, .int (iI x))]) C rfl hl (by decide) rfl dX4_mostFrom_1 (fun ls hl => ?_)
  refine r_iconst C dX4_mostFrom_2 ?_
  refine r_istore_n (lv' := [(3, .int (iI 1)), (2, .int (iI 0)), (0, .ref a), (1, .int (iI x))]) C rfl hl (by decide) rfl dX4_mostFrom_3 (fun ls hl => ?_)
  exact cut4 _ 1 0 1 (Nat.lt_succ_self _) (by omega) (by rw [mf_1]; omega) (by rw [mf_1]; rfl) (by omega) _ (lv_sub hl [2, 3, 1, 0] rfl)
set_option maxHeartbeats 4000000 in
theorem k_X4_mostOf (l : Launch) (g : Gt) (a : Nat) (F : Nat → Int) (hSm : Sm F) (x : Int) (s : Nat) (hx : x = (s : Int)) (hs : s < 5) : CP l yX4_mostOf cX4_mostOf 4 (some .int) 2 42 g [.ref a, .int (iI x)] (aAt g a 262 F) (some (.int (iI ((mostOf F s : Nat) : Int)))) := by
  refine cp_of "LentRoomModel" (by decide) rfl (Nat.le_of_ble_eq_true rfl) ?_
  intro zp ze zs zm za zb zt zc ls C hP hl
  have hr := hP
  have hl : lv_has ls 4 [(0, .ref a), (1, .int (iI x))] := hl
  have cut4 : ∀ (N : Nat) (i : Nat) (v2 : Int) (v3 : Int), 5 - i < N → (1 ≤ i ∧ ((i : Int) ≤ F 0 ∨ i = 1)) → (mo F s i < 5) → (v2 = ((mo F s i : Nat) : Int)) → (v3 = (i : Int)) → ∀ ls : Array Slot, lv_has ls 4 [(0, .ref a), (1, .int (iI x)), (2, .int (iI v2)), (3, .int (iI v3))] → W zp l ze (rmc 2 42) zs zm za zb zt zc zs.heap [] 0 0 (MQ zb (PQ (some (.int (iI ((mostOf F s : Nat) : Int))))) za zs 0 0 (fun _ => False)) (F0 zm 4 ls []) := by
    intro N
    induction N with
    | zero => intro i v2 v3; exact fun hms => absurd hms (Nat.not_lt_zero _)
    | succ N ih =>
      intro i v2 v3 hms hi hb2 hv2 hv3 ls hl
      refine r_iload_n C rfl (lv_at hl 3 rfl) dX4_mostOf_4 ?_
      refine r_aload_n C rfl (lv_at hl 0 rfl) dX4_mostOf_5 ?_
      refine r_iconst C dX4_mostOf_6 ?_
      refine r_iald (v := F 0) C hr 0 rfl (by omega) (by omega) rfl dX4_mostOf_7 ?_
      have b1 := hSm.1 0 (by omega)
      have b2 := hSm.2
      refine r_icmp_ge (tgt := 44) C (by decide) (by omega) (by omega) dX4_mostOf_8 (fun c3 => ?_) (fun c3 => ?_)
      · refine r_iload_n C rfl (lv_at hl 2 rfl) dX4_mostOf_44 ?_
        have hn := hSm.n
        exact r_iretP C rfl rfl (congrArg iI (by rw [hv2, mo_end hi (by omega) (by omega)])) dX4_mostOf_45
      · refine r_aload_n C rfl (lv_at hl 0 rfl) dX4_mostOf_11 ?_
        refine r_iload_n C rfl (lv_at hl 3 rfl) dX4_mostOf_12 ?_
        refine r_bipush C (by decide) dX4_mostOf_13 ?_
        refine r_iload_n C rfl (lv_at hl 1 rfl) dX4_mostOf_15 ?_
        refine r_iadd C dX4_mostOf_16 ?_
        refine r_sPi (rest := []) C (k_X4_of l g a F hSm v3 (7 + x) i (7 + s) (by omega) (by omega) (by omega) (by omega)) s_RX4_49 hr hl.1 rfl ⟨by decide, by decide⟩ rfl (Nat.le_of_ble_eq_true rfl) ⟨Nat.le_refl 0, Nat.le_refl 0⟩ dX4_mostOf_17 ?_
        have b4 := hSm.f i (7 + s) (by omega) (by omega)
        refine r_aload_n C rfl (lv_at hl 0 rfl) dX4_mostOf_20 ?_
        refine r_iload_n C rfl (lv_at hl 2 rfl) dX4_mostOf_21 ?_
        refine r_bipush C (by decide) dX4_mostOf_22 ?_
        refine r_iload_n C rfl (lv_at hl 1 rfl) dX4_mostOf_24 ?_
        refine r_iadd C dX4_mostOf_25 ?_
        refine r_sPi (rest := [.int (iI (F (2 + 52 * i + (7 + s))))]) C (k_X4_of l g a F hSm v2 (7 + x) (mo F s i) (7 + s) (by omega) (by omega) (by omega) (by omega)) s_RX4_49 hr hl.1 rfl ⟨by decide, by decide⟩ rfl (Nat.le_of_ble_eq_true rfl) ⟨Nat.le_refl 0, Nat.le_refl 0⟩ dX4_mostOf_26 ?_
        have b5 := hSm.f (mo F s i) (7 + s) (by omega) (by omega)
        refine r_icmp_le (tgt := 36) C (by decide) (by omega) (by omega) dX4_mostOf_29 (fun c6 => ?_) (fun c6 => ?_)
        · refine r_iload_n C rfl (lv_at hl 2 rfl) dX4_mostOf_36 ?_
          refine r_istore_n (lv' := [(2, .int (iI v2)), (0, .ref a), (1, .int (iI x)), (3, .int (iI v3))]) C rfl hl (by decide) rfl dX4_mostOf_37 (fun ls hl => ?_)
          refine r_iinc (lv' := [(3, .int (iI (v3 + 1))), (2, .int (iI v2)), (0, .ref a), (1, .int (iI x))]) C hl (q := 3) rfl (by decide) rfl dX4_mostOf_38 (fun ls hl => ?_)
          refine r_goto (tgt := 4) C (by decide) dX4_mostOf_41 ?_
          exact ih (i + 1) v2 (v3 + 1) (by omega) (by omega) (by have := mo_b (F := F) s (i + 1); omega) (by simp only [mo]; split <;> omega) (by omega) _ (lv_sub hl [2, 3, 1, 0] rfl)
        · refine r_iload_n C rfl (lv_at hl 3 rfl) dX4_mostOf_32 ?_
          refine r_goto (tgt := 37) C (by decide) dX4_mostOf_33 ?_
          refine r_istore_n (lv' := [(2, .int (iI v3)), (0, .ref a), (1, .int (iI x)), (3, .int (iI v3))]) C rfl hl (by decide) rfl dX4_mostOf_37 (fun ls hl => ?_)
          refine r_iinc (lv' := [(3, .int (iI (v3 + 1))), (2, .int (iI v3)), (0, .ref a), (1, .int (iI x))]) C hl (q := 3) rfl (by decide) rfl dX4_mostOf_38 (fun ls hl => ?_)
          refine r_goto (tgt := 4) C (by decide) dX4_mostOf_41 ?_
          exact ih (i + 1) v3 (v3 + 1) (by omega) (by omega) (by have := mo_b (F := F) s (i + 1); omega) (by simp only [mo]; split <;> omega) (by omega) _ (lv_sub hl [2, 3, 1, 0] rfl)
  refine r_iconst C dX4_mostOf_0 ?_
  refine r_istore_n (lv' := [(2, .int (iI 0)), (0, .ref a), (1, .int (iI x))]) C rfl hl (by decide) rfl dX4_mostOf_1 (fun ls hl => ?_)
  refine r_iconst C dX4_mostOf_2 ?_
  refine r_istore_n (lv' := [(3, .int (iI 1)), (2, .int (iI 0)), (0, .ref a), (1, .int (iI x))]) C rfl hl (by decide) rfl dX4_mostOf_3 (fun ls hl => ?_)
  exact cut4 _ 1 0 1 (Nat.lt_succ_self _) (by omega) (by rw [mo_1]; omega) (by rw [mo_1]; rfl) (by omega) _ (lv_sub hl [2, 3, 1, 0] rfl)
set_option maxHeartbeats 4000000 in
theorem k_X4_leastPage (l : Launch) (g : Gt) (a : Nat) (F : Nat → Int) (hSm : Sm F) (x : Int) (s : Nat) (hx : x = (s : Int)) (hs : s < 5) : CP l yX4_leastPage cX4_leastPage 5 (some .int) 2 42 g [.ref a, .int (iI x)] (aAt g a 262 F) (some (.int (iI (least F s)))) := by
  refine cp_of "LentRoomModel" (by decide) rfl (Nat.le_of_ble_eq_true rfl) ?_
  intro zp ze zs zm za zb zt zc ls C hP hl
  have hr := hP
  have hl : lv_has ls 5 [(0, .ref a), (1, .int (iI x))] := hl
  have cut4 : ∀ (N : Nat) (i : Nat) (v2 : Int) (v3 : Int), 40 - i < N → (i ≤ 40) → (-1 ≤ v2 ∧ v2 < i) → (v2 = oa F s 0 i) → (v3 = (i : Int)) → ∀ ls : Array Slot, lv_has ls 5 [(0, .ref a), (1, .int (iI x)), (2, .int (iI v2)), (3, .int (iI v3))] → W zp l ze (rmc 2 42) zs zm za zb zt zc zs.heap [] 0 0 (MQ zb (PQ (some (.int (iI (least F s))))) za zs 0 0 (fun _ => False)) (F0 zm 4 ls []) := by
    intro N
    induction N with
    | zero => intro i v2 v3; exact fun hms => absurd hms (Nat.not_lt_zero _)
    | succ N ih =>
      intro i v2 v3 hms hi hb2 hv2 hv3 ls hl
      refine r_iload_n C rfl (lv_at hl 3 rfl) dX4_leastPage_4 ?_
      refine r_bipush C (by decide) dX4_leastPage_5 ?_
      refine r_icmp_ge (tgt := 57) C (by decide) (by omega) (by decide) dX4_leastPage_7 (fun c1 => ?_) (fun c1 => ?_)
      · refine r_iload_n C rfl (lv_at hl 2 rfl) dX4_leastPage_57 ?_
        exact r_iretP C rfl rfl (congrArg iI (by rw [hv2, show i = 40 by omega]; rfl)) dX4_leastPage_58
      · refine r_aload_n C rfl (lv_at hl 0 rfl) dX4_leastPage_10 ?_
        refine r_iload_n C rfl (lv_at hl 1 rfl) dX4_leastPage_11 ?_
        refine r_bipush C (by decide) dX4_leastPage_12 ?_
        refine r_iload_n C rfl (lv_at hl 3 rfl) dX4_leastPage_14 ?_
        refine r_iadd C dX4_leastPage_15 ?_
        refine r_sPi (rest := []) C (k_X4_of l g a F hSm x (12 + v3) s (12 + i) (by omega) (by omega) (by omega) (by omega)) s_RX4_49 hr hl.1 rfl ⟨by decide, by decide⟩ rfl (Nat.le_of_ble_eq_true rfl) ⟨Nat.le_refl 0, Nat.le_refl 0⟩ dX4_leastPage_16 ?_
        have b2 := hSm.f s (12 + i) (by omega) (by omega)
        refine r_istore (lv' := [(4, .int (iI (F (2 + 52 * s + (12 + i))))), (0, .ref a), (1, .int (iI x)), (2, .int (iI v2)), (3, .int (iI v3))]) C hl (by decide) rfl dX4_leastPage_19 (fun ls hl => ?_)
        refine r_iload C (lv_at hl 0 rfl) dX4_leastPage_21 ?_
        refine r_if_le (tgt := 49) C (by decide) (by omega) dX4_leastPage_23 (fun c3 => ?_) (fun c3 => ?_)
        · refine r_iload_n C rfl (lv_at hl 3 rfl) dX4_leastPage_49 ?_
          refine r_istore_n (lv' := [(2, .int (iI v2)), (4, .int (iI (F (2 + 52 * s + (12 + i))))), (0, .ref a), (1, .int (iI x)), (3, .int (iI v3))]) C rfl hl (by decide) rfl dX4_leastPage_50 (fun ls hl => ?_)
          refine r_iinc (lv' := [(3, .int (iI (v3 + 1))), (2, .int (iI v2)), (4, .int (iI (F (2 + 52 * s + (12 + i))))), (0, .ref a), (1, .int (iI x))]) C hl (q := 4) rfl (by decide) rfl dX4_leastPage_51 (fun ls hl => ?_)
          refine r_goto (tgt := 4) C (by decide) dX4_leastPage_54 ?_
          exact ih (i + 1) v2 (v3 + 1) (by omega) (by omega) (by omega) (by subst hv2; simp only [oa]; split <;> omega) (by omega) _ (lv_sub hl [3, 4, 1, 0] rfl)
        · refine r_iload_n C rfl (lv_at hl 3 rfl) dX4_leastPage_26 ?_
          refine r_iconst C dX4_leastPage_27 ?_
          refine r_icmp_eq (tgt := 45) C (by decide) (by omega) (by decide) dX4_leastPage_28 (fun c4 => ?_) (fun c4 => ?_)
          · refine r_iload_n C rfl (lv_at hl 4 rfl) dX4_leastPage_45 ?_
            refine r_goto (tgt := 50) C (by decide) dX4_leastPage_46 ?_
            refine r_istore_n (lv' := [(2, .int (iI v3)), (4, .int (iI (F (2 + 52 * s + (12 + i))))), (0, .ref a), (1, .int (iI x)), (3, .int (iI v3))]) C rfl hl (by decide) rfl dX4_leastPage_50 (fun ls hl => ?_)
            refine r_iinc (lv' := [(3, .int (iI (v3 + 1))), (2, .int (iI v3)), (4, .int (iI (F (2 + 52 * s + (12 + i))))), (0, .ref a), (1, .int (iI x))]) C hl (q := 4) rfl (by decide) rfl dX4_leastPage_51 (fun ls hl => ?_)
            refine r_goto (tgt := 4) C (by decide) dX4_leastPage_54 ?_
            exact ih (i + 1) v3 (v3 + 1) (by omega) (by omega) (by omega) (by subst hv2; simp only [oa]; split <;> omega) (by omega) _ (lv_sub hl [3, 4, 1, 0] rfl)
          · refine r_iload C (lv_at hl 0 rfl) dX4_leastPage_31 ?_
            refine r_aload_n C rfl (lv_at hl 1 rfl) dX4_leastPage_33 ?_
            refine r_iload_n C rfl (lv_at hl 2 rfl) dX4_leastPage_34 ?_
            refine r_bipush C (by decide) dX4_leastPage_35 ?_
            refine r_iload_n C rfl (lv_at hl 3 rfl) dX4_leastPage_37 ?_
            refine r_iadd C dX4_leastPage_38 ?_
            refine r_sPi (rest := [.int (iI (F (2 + 52 * s + (12 + i))))]) C (k_X4_of l g a F hSm x (12 + v2) s (12 + v2.toNat) (by omega) (by omega) (by omega) (by omega)) s_RX4_49 hr hl.1 rfl ⟨by decide, by decide⟩ rfl (Nat.le_of_ble_eq_true rfl) ⟨Nat.le_refl 0, Nat.le_refl 0⟩ dX4_leastPage_39 ?_
            have b5 := hSm.f s (12 + v2.toNat) (by omega) (by omega)
            refine r_icmp_ge (tgt := 49) C (by decide) (by omega) (by omega) dX4_leastPage_42 (fun c6 => ?_) (fun c6 => ?_)
            · refine r_iload_n C rfl (lv_at hl 3 rfl) dX4_leastPage_49 ?_
              refine r_istore_n (lv' := [(2, .int (iI v2)), (4, .int (iI (F (2 + 52 * s + (12 + i))))), (0, .ref a), (1, .int (iI x)), (3, .int (iI v3))]) C rfl hl (by decide) rfl dX4_leastPage_50 (fun ls hl => ?_)
              refine r_iinc (lv' := [(3, .int (iI (v3 + 1))), (2, .int (iI v2)), (4, .int (iI (F (2 + 52 * s + (12 + i))))), (0, .ref a), (1, .int (iI x))]) C hl (q := 4) rfl (by decide) rfl dX4_leastPage_51 (fun ls hl => ?_)
              refine r_goto (tgt := 4) C (by decide) dX4_leastPage_54 ?_
              exact ih (i + 1) v2 (v3 + 1) (by omega) (by omega) (by omega) (by subst hv2; simp only [oa]; split <;> omega) (by omega) _ (lv_sub hl [3, 4, 1, 0] rfl)
            · refine r_iload_n C rfl (lv_at hl 4 rfl) dX4_leastPage_45 ?_
              refine r_goto (tgt := 50) C (by decide) dX4_leastPage_46 ?_
              refine r_istore_n (lv' := [(2, .int (iI v3)), (4, .int (iI (F (2 + 52 * s + (12 + i))))), (0, .ref a), (1, .int (iI x)), (3, .int (iI v3))]) C rfl hl (by decide) rfl dX4_leastPage_50 (fun ls hl => ?_)
              refine r_iinc (lv' := [(3, .int (iI (v3 + 1))), (2, .int (iI v3)), (4, .int (iI (F (2 + 52 * s + (12 + i))))), (0, .ref a), (1, .int (iI x))]) C hl (q := 4) rfl (by decide) rfl dX4_leastPage_51 (fun ls hl => ?_)
              refine r_goto (tgt := 4) C (by decide) dX4_leastPage_54 ?_
              exact ih (i + 1) v3 (v3 + 1) (by omega) (by omega) (by omega) (by subst hv2; simp only [oa]; split <;> omega) (by omega) _ (lv_sub hl [3, 4, 1, 0] rfl)
  refine r_iconst C dX4_leastPage_0 ?_
  refine r_istore_n (lv' := [(2, .int (iI (-1))), (0, .ref a), (1, .int (iI x))]) C rfl hl (by decide) rfl dX4_leastPage_1 (fun ls hl => ?_)
  refine r_iconst C dX4_leastPage_2 ?_
  refine r_istore_n (lv' := [(3, .int (iI 0)), (2, .int (iI (-1))), (0, .ref a), (1, .int (iI x))]) C rfl hl (by decide) rfl dX4_leastPage_3 (fun ls hl => ?_)
  exact cut4 _ 0 (-1) 0 (Nat.lt_succ_self _) (by omega) (by omega) (by rfl) (by omega) _ (lv_sub hl [2, 3, 1, 0] rfl)
set_option maxHeartbeats 4000000 in
theorem k_X4_canTrim (l : Launch) (g : Gt) (a : Nat) (F : Nat → Int) (hSm : Sm F) (x p : Int) (s q : Nat) (hx : x = (s : Int)) (hp : p = (q : Int)) (hs : s < 5) (hq : q < 40) : CP l yX4_canTrim cX4_canTrim 3 (some .boolean) 2 42 g [.ref a, .int (iI x), .int (iI p)] (aAt g a 262 F) (some (.int (iI (pI (0 < F (2 + 52 * s + (12 + q))))))) := by
  refine cp_of "LentRoomModel" (by decide) rfl (Nat.le_of_ble_eq_true rfl) ?_
  intro zp ze zs zm za zb zt zc ls C hP hl
  have hr := hP
  have hl : lv_has ls 3 [(0, .ref a), (1, .int (iI x)), (2, .int (iI p))] := hl
  refine r_aload_n C rfl (lv_at hl 0 rfl) dX4_canTrim_0 ?_
  refine r_iload_n C rfl (lv_at hl 1 rfl) dX4_canTrim_1 ?_
  refine r_bipush C (by decide) dX4_canTrim_2 ?_
  refine r_iload_n C rfl (lv_at hl 2 rfl) dX4_canTrim_4 ?_
  refine r_iadd C dX4_canTrim_5 ?_
  refine r_sPi (rest := []) C (k_X4_of l g a F hSm x (12 + p) s (12 + q) (by omega) (by omega) (by omega) (by omega)) s_RX4_49 hr hl.1 rfl ⟨by decide, by decide⟩ rfl (Nat.le_of_ble_eq_true rfl) ⟨Nat.le_refl 0, Nat.le_refl 0⟩ dX4_canTrim_6 ?_
  have b1 := hSm.f s (12 + q) (by omega) (by omega)
  refine r_if_le (tgt := 16) C (by decide) (by omega) dX4_canTrim_9 (fun c2 => ?_) (fun c2 => ?_)
  · refine r_iconst C dX4_canTrim_16 ?_
    exact r_iretP C rfl rfl (congrArg iI (pI_f (by omega)).symm) dX4_canTrim_17
  · refine r_iconst C dX4_canTrim_12 ?_
    refine r_goto (tgt := 17) C (by decide) dX4_canTrim_13 ?_
    exact r_iretP C rfl rfl (congrArg iI (pI_t (by omega)).symm) dX4_canTrim_17
set_option maxHeartbeats 4000000 in
theorem k_X4_whyNotMake (l : Launch) (g : Gt) (a : Nat) (F : Nat → Int) (hSm : Sm F) (hZ : Zr F) (x y : Int) (hx : Rg x) (hy : Rg y) : CP l yX4_whyNotMake cX4_whyNotMake 3 (some .int) 4 85 g [.ref a, .int (iI x), .int (iI y)] (aAt g a 262 F) (some (.int (iI (whyMk F x y)))) := by
  refine cp_of "LentRoomModel" (by decide) rfl (Nat.le_of_ble_eq_true rfl) ?_
  intro zp ze zs zm za zb zt zc ls C hP hl
  have hr := hP
  have hl : lv_has ls 3 [(0, .ref a), (1, .int (iI x)), (2, .int (iI y))] := hl
  refine r_iload_n C rfl (lv_at hl 1 rfl) dX4_whyNotMake_0 ?_
  refine r_i2l C (by omega) dX4_whyNotMake_1 ?_
  refine r_lconst C 0 rfl dX4_whyNotMake_2 ?_
  refine r_ldc2 C (v := iL 60) q_865 dX4_whyNotMake_3 ?_
  refine r_sPi (rest := []) C (k_X4_in l g x 0 60 (by omega) (by omega) (by omega)) s_RX4_39 trivial hl.1 rfl ⟨by decide, by decide⟩ rfl (Nat.le_of_ble_eq_true rfl) ⟨Nat.le_refl 0, Nat.le_refl 0⟩ dX4_whyNotMake_6 ?_
  refine r_ifP_eq (tgt := 30) C (by decide) dX4_whyNotMake_9 (fun c1 => ?_) (fun c1 => ?_)
  · refine r_iconst C dX4_whyNotMake_30 ?_
    refine r_goto (tgt := 54) C (by decide) dX4_whyNotMake_31 ?_
    exact r_iretP C rfl rfl (congrArg iI (by unfold whyMk; (repeat' split) <;> omega)) dX4_whyNotMake_54
  · refine r_iload_n C rfl (lv_at hl 2 rfl) dX4_whyNotMake_12 ?_
    refine r_i2l C (by omega) dX4_whyNotMake_13 ?_
    refine r_iload_n C rfl (lv_at hl 1 rfl) dX4_whyNotMake_14 ?_
    refine r_i2l C (by omega) dX4_whyNotMake_15 ?_
    refine r_ldc2 C (v := iL 60) q_865 dX4_whyNotMake_16 ?_
    refine r_sPi (rest := []) C (k_X4_in l g y x 60 (by omega) (by omega) (by omega)) s_RX4_39 trivial hl.1 rfl ⟨by decide, by decide⟩ rfl (Nat.le_of_ble_eq_true rfl) ⟨Nat.le_refl 0, Nat.le_refl 0⟩ dX4_whyNotMake_19 ?_
    refine r_ifP_eq (tgt := 30) C (by decide) dX4_whyNotMake_22 (fun c2 => ?_) (fun c2 => ?_)
    · refine r_iconst C dX4_whyNotMake_30 ?_
      refine r_goto (tgt := 54) C (by decide) dX4_whyNotMake_31 ?_
      exact r_iretP C rfl rfl (congrArg iI (by unfold whyMk; (repeat' split) <;> omega)) dX4_whyNotMake_54
    · refine r_iload_n C rfl (lv_at hl 2 rfl) dX4_whyNotMake_25 ?_
      refine r_iconst C dX4_whyNotMake_26 ?_
      refine r_icmp_ge (tgt := 34) C (by decide) (by omega) (by decide) dX4_whyNotMake_27 (fun c3 => ?_) (fun c3 => ?_)
      · refine r_aload_n C rfl (lv_at hl 0 rfl) dX4_whyNotMake_34 ?_
        refine r_iconst C dX4_whyNotMake_35 ?_
        refine r_iald (v := F 0) C hr 0 rfl (by omega) (by omega) rfl dX4_whyNotMake_36 ?_
        have b4 := hSm.1 0 (by omega)
        have b5 := hSm.2
        refine r_iconst C dX4_whyNotMake_37 ?_
        refine r_icmp_eq (tgt := 49) C (by decide) (by omega) (by decide) dX4_whyNotMake_38 (fun c6 => ?_) (fun c6 => ?_)
        · refine r_iconst C dX4_whyNotMake_49 ?_
          refine r_goto (tgt := 54) C (by decide) dX4_whyNotMake_50 ?_
          exact r_iretP C rfl rfl (congrArg iI (by unfold whyMk; (repeat' split) <;> omega)) dX4_whyNotMake_54
        · refine r_iload_n C rfl (lv_at hl 1 rfl) dX4_whyNotMake_41 ?_
          refine r_aload_n C rfl (lv_at hl 0 rfl) dX4_whyNotMake_42 ?_
          refine r_sPi (rest := [.int (iI x)]) C (k_X4_free l g a F hSm hZ) s_RX4_72 hr hl.1 rfl ⟨by decide, by decide⟩ rfl (Nat.le_of_ble_eq_true rfl) ⟨Nat.le_refl 0, Nat.le_refl 0⟩ dX4_whyNotMake_43 ?_
          have b7 := free_b hSm
          refine r_icmp_le (tgt := 53) C (by decide) (by omega) (by omega) dX4_whyNotMake_46 (fun c8 => ?_) (fun c8 => ?_)
          · refine r_iconst C dX4_whyNotMake_53 ?_
            exact r_iretP C rfl rfl (congrArg iI (by unfold whyMk; (repeat' split) <;> omega)) dX4_whyNotMake_54
          · refine r_iconst C dX4_whyNotMake_49 ?_
            refine r_goto (tgt := 54) C (by decide) dX4_whyNotMake_50 ?_
            exact r_iretP C rfl rfl (congrArg iI (by unfold whyMk; (repeat' split) <;> omega)) dX4_whyNotMake_54
      · refine r_iconst C dX4_whyNotMake_30 ?_
        refine r_goto (tgt := 54) C (by decide) dX4_whyNotMake_31 ?_
        exact r_iretP C rfl rfl (congrArg iI (by unfold whyMk; (repeat' split) <;> omega)) dX4_whyNotMake_54
set_option maxHeartbeats 4000000 in
theorem k_X4_most (l : Launch) (g : Gt) (a : Nat) (F : Nat → Int) (hSm : Sm F) (hZ : Zr F) (x : Int) (s : Nat) (hx : x = (s : Int)) (hs : s < 5) : CP l yX4_most cX4_most 3 (some .int) 4 85 g [.ref a, .int (iI x)] (aAt g a 262 F) (some (.int (iI (mn (F (2 + 52 * s + 1)) (F (2 + 52 * s + 0) + free F))))) := by
  refine cp_of "LentRoomModel" (by decide) rfl (Nat.le_of_ble_eq_true rfl) ?_
  intro zp ze zs zm za zb zt zc ls C hP hl
  have hr := hP
  have hl : lv_has ls 3 [(0, .ref a), (1, .int (iI x))] := hl
  refine r_aload_n C rfl (lv_at hl 0 rfl) dX4_most_0 ?_
  refine r_iload_n C rfl (lv_at hl 1 rfl) dX4_most_1 ?_
  refine r_iconst C dX4_most_2 ?_
  refine r_sPi (rest := []) C (k_X4_of l g a F hSm x 0 s 0 (by omega) (by omega) (by omega) (by omega)) s_RX4_49 hr hl.1 rfl ⟨by decide, by decide⟩ rfl (Nat.le_of_ble_eq_true rfl) ⟨Nat.le_refl 0, Nat.le_refl 0⟩ dX4_most_3 ?_
  have b1 := hSm.f s 0 (by omega) (by omega)
  refine r_aload_n C rfl (lv_at hl 0 rfl) dX4_most_6 ?_
  refine r_sPi (rest := [.int (iI (F (2 + 52 * s + 0)))]) C (k_X4_free l g a F hSm hZ) s_RX4_72 hr hl.1 rfl ⟨by decide, by decide⟩ rfl (Nat.le_of_ble_eq_true rfl) ⟨Nat.le_refl 0, Nat.le_refl 0⟩ dX4_most_7 ?_
  have b2 := free_b hSm
  refine r_iadd C dX4_most_10 ?_
  refine r_istore_n (lv' := [(2, .int (iI ((F (2 + 52 * s + 0)) + (free F)))), (0, .ref a), (1, .int (iI x))]) C rfl hl (by decide) rfl dX4_most_11 (fun ls hl => ?_)
  refine r_iload_n C rfl (lv_at hl 0 rfl) dX4_most_12 ?_
  refine r_aload_n C rfl (lv_at hl 1 rfl) dX4_most_13 ?_
  refine r_iload_n C rfl (lv_at hl 2 rfl) dX4_most_14 ?_
  refine r_iconst C dX4_most_15 ?_
  refine r_sPi (rest := [.int (iI ((F (2 + 52 * s + 0)) + (free F)))]) C (k_X4_of l g a F hSm x 1 s 1 (by omega) (by omega) (by omega) (by omega)) s_RX4_49 hr hl.1 rfl ⟨by decide, by decide⟩ rfl (Nat.le_of_ble_eq_true rfl) ⟨Nat.le_refl 0, Nat.le_refl 0⟩ dX4_most_16 ?_
  have b3 := hSm.f s 1 (by omega) (by omega)
  refine r_icmp_ge (tgt := 26) C (by decide) (by omega) (by omega) dX4_most_19 (fun c4 => ?_) (fun c4 => ?_)
  · refine r_aload_n C rfl (lv_at hl 1 rfl) dX4_most_26 ?_
    refine r_iload_n C rfl (lv_at hl 2 rfl) dX4_most_27 ?_
    refine r_iconst C dX4_most_28 ?_
    refine r_sPi (rest := []) C (k_X4_of l g a F hSm x 1 s 1 (by omega) (by omega) (by omega) (by omega)) s_RX4_49 hr hl.1 rfl ⟨by decide, by decide⟩ rfl (Nat.le_of_ble_eq_true rfl) ⟨Nat.le_refl 0, Nat.le_refl 0⟩ dX4_most_29 ?_
    have b5 := hSm.f s 1 (by omega) (by omega)
    exact r_iretP C rfl rfl (congrArg iI (by unfold mn; split <;> omega)) dX4_most_32
  · refine r_iload_n C rfl (lv_at hl 0 rfl) dX4_most_22 ?_
    refine r_goto (tgt := 32) C (by decide) dX4_most_23 ?_
    exact r_iretP C rfl rfl (congrArg iI (by unfold mn; split <;> omega)) dX4_most_32
set_option maxHeartbeats 4000000 in
theorem k_X4_least (l : Launch) (g : Gt) (a : Nat) (F : Nat → Int) (hSm : Sm F) (hZ : Zr F) (x : Int) (s : Nat) (hx : x = (s : Int)) (hs : s < 5) : CP l yX4_least cX4_least 2 (some .int) 4 86 g [.ref a, .int (iI x)] (aAt g a 262 F) (some (.int (iI (F (2 + 52 * s + 0) - idle F s)))) := by
  refine cp_of "LentRoomModel" (by decide) rfl (Nat.le_of_ble_eq_true rfl) ?_
  intro zp ze zs zm za zb zt zc ls C hP hl
  have hr := hP
  have hl : lv_has ls 2 [(0, .ref a), (1, .int (iI x))] := hl
  refine r_aload_n C rfl (lv_at hl 0 rfl) dX4_least_0 ?_
  refine r_iload_n C rfl (lv_at hl 1 rfl) dX4_least_1 ?_
  refine r_iconst C dX4_least_2 ?_
  refine r_sPi (rest := []) C (k_X4_of l g a F hSm x 2 s 2 (by omega) (by omega) (by omega) (by omega)) s_RX4_49 hr hl.1 rfl ⟨by decide, by decide⟩ rfl (Nat.le_of_ble_eq_true rfl) ⟨Nat.le_refl 0, Nat.le_refl 0⟩ dX4_least_3 ?_
  have b1 := hSm.f s 2 (by omega) (by omega)
  refine r_aload_n C rfl (lv_at hl 0 rfl) dX4_least_6 ?_
  refine r_iload_n C rfl (lv_at hl 1 rfl) dX4_least_7 ?_
  refine r_sPi (rest := [.int (iI (F (2 + 52 * s + 2)))]) C (k_X4_lends l g a F hSm hZ x s (by omega) (by omega)) s_RX4_60 hr hl.1 rfl ⟨by decide, by decide⟩ rfl (Nat.le_of_ble_eq_true rfl) ⟨Nat.le_refl 0, Nat.le_refl 0⟩ dX4_least_8 ?_
  have b2 := S5_b hSm (7 + s) (by omega)
  refine r_iadd C dX4_least_11 ?_
  exact r_iretP C rfl rfl (congrArg iI (by unfold idle; omega)) dX4_least_12
set_option maxHeartbeats 4000000 in
theorem k_X4_whyNotFloor (l : Launch) (g : Gt) (a : Nat) (F : Nat → Int) (hSm : Sm F) (hZ : Zr F) (x v : Int) (s : Nat) (hx : Rg x) (hv : Rg v) (hs : 0 ≤ x → x = (s : Int)) : CP l yX4_whyNotFloor cX4_whyNotFloor 3 (some .int) 5 107 g [.ref a, .int (iI x), .int (iI v)] (aAt g a 262 F) (some (.int (iI (whyFl F x s v)))) := by
  refine cp_of "LentRoomModel" (by decide) rfl (Nat.le_of_ble_eq_true rfl) ?_
  intro zp ze zs zm za zb zt zc ls C hP hl
  have hr := hP
  have hl : lv_has ls 3 [(0, .ref a), (1, .int (iI x)), (2, .int (iI v))] := hl
  refine r_aload_n C rfl (lv_at hl 0 rfl) dX4_whyNotFloor_0 ?_
  refine r_iload_n C rfl (lv_at hl 1 rfl) dX4_whyNotFloor_1 ?_
  refine r_sPi (rest := []) C (k_X4_isSpace l g a F hSm x (by omega)) s_RX4_94 hr hl.1 rfl ⟨by decide, by decide⟩ rfl (Nat.le_of_ble_eq_true rfl) ⟨Nat.le_refl 0, Nat.le_refl 0⟩ dX4_whyNotFloor_2 ?_
  have b1 := hSm.n
  refine r_ifP_ne (tgt := 12) C (by decide) dX4_whyNotFloor_5 (fun c2 => ?_) (fun c2 => ?_)
  · refine r_iload_n C rfl (lv_at hl 2 rfl) dX4_whyNotFloor_12 ?_
    refine r_i2l C (by omega) dX4_whyNotFloor_13 ?_
    refine r_lconst C 0 rfl dX4_whyNotFloor_14 ?_
    refine r_ldc2 C (v := iL 60) q_865 dX4_whyNotFloor_15 ?_
    refine r_sPi (rest := []) C (k_X4_in l g v 0 60 (by omega) (by omega) (by omega)) s_RX4_39 trivial hl.1 rfl ⟨by decide, by decide⟩ rfl (Nat.le_of_ble_eq_true rfl) ⟨Nat.le_refl 0, Nat.le_refl 0⟩ dX4_whyNotFloor_18 ?_
    refine r_ifP_ne (tgt := 28) C (by decide) dX4_whyNotFloor_21 (fun c3 => ?_) (fun c3 => ?_)
    · refine r_iload_n C rfl (lv_at hl 2 rfl) dX4_whyNotFloor_28 ?_
      refine r_i2l C (by omega) dX4_whyNotFloor_29 ?_
      refine r_aload_n C rfl (lv_at hl 0 rfl) dX4_whyNotFloor_30 ?_
      refine r_iload_n C rfl (lv_at hl 1 rfl) dX4_whyNotFloor_31 ?_
      refine r_sPi (rest := [.long (iL v)]) C (k_X4_least l g a F hSm hZ x s (by omega) (by omega)) s_RX4_98 hr hl.1 rfl ⟨by decide, by decide⟩ rfl (Nat.le_of_ble_eq_true rfl) ⟨Nat.le_refl 0, Nat.le_refl 0⟩ dX4_whyNotFloor_32 ?_
      have b4 := hSm.f s 0 (by omega) (by omega)
      have b5 := idle_b hSm s (by omega)
      refine r_i2l C (by omega) dX4_whyNotFloor_35 ?_
      refine r_aload_n C rfl (lv_at hl 0 rfl) dX4_whyNotFloor_36 ?_
      refine r_iload_n C rfl (lv_at hl 1 rfl) dX4_whyNotFloor_37 ?_
      refine r_sPi (rest := [.long (iL (F (2 + 52 * s + 0) - idle F s)), .long (iL v)]) C (k_X4_most l g a F hSm hZ x s (by omega) (by omega)) s_RX4_101 hr hl.1 rfl ⟨by decide, by decide⟩ rfl (Nat.le_of_ble_eq_true rfl) ⟨Nat.le_refl 0, Nat.le_refl 0⟩ dX4_whyNotFloor_38 ?_
      have b6 := hSm.f s 1 (by omega) (by omega)
      have b7 := hSm.f s 0 (by omega) (by omega)
      have b8 := free_b hSm
      have b9 := mn_b (F (2 + 52 * s + 1)) (F (2 + 52 * s + 0) + free F)
      refine r_i2l C (by omega) dX4_whyNotFloor_41 ?_
      refine r_sPi (rest := []) C (k_X4_in l g v (F (2 + 52 * s + 0) - idle F s) (mn (F (2 + 52 * s + 1)) (F (2 + 52 * s + 0) + free F)) (by omega) (by omega) (by omega)) s_RX4_39 trivial hl.1 rfl ⟨by decide, by decide⟩ rfl (Nat.le_of_ble_eq_true rfl) ⟨Nat.le_refl 0, Nat.le_refl 0⟩ dX4_whyNotFloor_42 ?_
      refine r_ifP_eq (tgt := 52) C (by decide) dX4_whyNotFloor_45 (fun c10 => ?_) (fun c10 => ?_)
      · refine r_iconst C dX4_whyNotFloor_52 ?_
        exact r_iretP C rfl rfl (congrArg iI (by unfold whyFl; (repeat' split) <;> omega)) dX4_whyNotFloor_53
      · refine r_iconst C dX4_whyNotFloor_48 ?_
        refine r_goto (tgt := 53) C (by decide) dX4_whyNotFloor_49 ?_
        exact r_iretP C rfl rfl (congrArg iI (by unfold whyFl; (repeat' split) <;> omega)) dX4_whyNotFloor_53
    · refine r_iconst C dX4_whyNotFloor_24 ?_
      refine r_goto (tgt := 53) C (by decide) dX4_whyNotFloor_25 ?_
      exact r_iretP C rfl rfl (congrArg iI (by unfold whyFl; (repeat' split) <;> omega)) dX4_whyNotFloor_53
  · refine r_iconst C dX4_whyNotFloor_8 ?_
    refine r_goto (tgt := 53) C (by decide) dX4_whyNotFloor_9 ?_
    exact r_iretP C rfl rfl (congrArg iI (by unfold whyFl; (repeat' split) <;> omega)) dX4_whyNotFloor_53
set_option maxHeartbeats 4000000 in
theorem k_X4_whyNotCeiling (l : Launch) (g : Gt) (a : Nat) (F : Nat → Int) (hSm : Sm F) (x v : Int) (s : Nat) (hx : Rg x) (hv : Rg v) (hs : 0 ≤ x → x = (s : Int)) : CP l yX4_whyNotCeiling cX4_whyNotCeiling 3 (some .int) 2 46 g [.ref a, .int (iI x), .int (iI v)] (aAt g a 262 F) (some (.int (iI (whyCe F x s v)))) := by
  refine cp_of "LentRoomModel" (by decide) rfl (Nat.le_of_ble_eq_true rfl) ?_
  intro zp ze zs zm za zb zt zc ls C hP hl
  have hr := hP
  have hl : lv_has ls 3 [(0, .ref a), (1, .int (iI x)), (2, .int (iI v))] := hl
  refine r_aload_n C rfl (lv_at hl 0 rfl) dX4_whyNotCeiling_0 ?_
  refine r_iload_n C rfl (lv_at hl 1 rfl) dX4_whyNotCeiling_1 ?_
  refine r_sPi (rest := []) C (k_X4_isSpace l g a F hSm x (by omega)) s_RX4_94 hr hl.1 rfl ⟨by decide, by decide⟩ rfl (Nat.le_of_ble_eq_true rfl) ⟨Nat.le_refl 0, Nat.le_refl 0⟩ dX4_whyNotCeiling_2 ?_
  have b1 := hSm.n
  refine r_ifP_ne (tgt := 12) C (by decide) dX4_whyNotCeiling_5 (fun c2 => ?_) (fun c2 => ?_)
  · refine r_iload_n C rfl (lv_at hl 2 rfl) dX4_whyNotCeiling_12 ?_
    refine r_i2l C (by omega) dX4_whyNotCeiling_13 ?_
    refine r_lconst C 1 rfl dX4_whyNotCeiling_14 ?_
    refine r_ldc2 C (v := iL 60) q_865 dX4_whyNotCeiling_15 ?_
    refine r_sPi (rest := []) C (k_X4_in l g v 1 60 (by omega) (by omega) (by omega)) s_RX4_39 trivial hl.1 rfl ⟨by decide, by decide⟩ rfl (Nat.le_of_ble_eq_true rfl) ⟨Nat.le_refl 0, Nat.le_refl 0⟩ dX4_whyNotCeiling_18 ?_
    refine r_ifP_eq (tgt := 38) C (by decide) dX4_whyNotCeiling_21 (fun c3 => ?_) (fun c3 => ?_)
    · refine r_iconst C dX4_whyNotCeiling_38 ?_
      exact r_iretP C rfl rfl (congrArg iI (by unfold whyCe; (repeat' split) <;> omega)) dX4_whyNotCeiling_39
    · refine r_iload_n C rfl (lv_at hl 2 rfl) dX4_whyNotCeiling_24 ?_
      refine r_aload_n C rfl (lv_at hl 0 rfl) dX4_whyNotCeiling_25 ?_
      refine r_iload_n C rfl (lv_at hl 1 rfl) dX4_whyNotCeiling_26 ?_
      refine r_iconst C dX4_whyNotCeiling_27 ?_
      refine r_sPi (rest := [.int (iI v)]) C (k_X4_of l g a F hSm x 0 s 0 (by omega) (by omega) (by omega) (by omega)) s_RX4_49 hr hl.1 rfl ⟨by decide, by decide⟩ rfl (Nat.le_of_ble_eq_true rfl) ⟨Nat.le_refl 0, Nat.le_refl 0⟩ dX4_whyNotCeiling_28 ?_
      have b4 := hSm.f s 0 (by omega) (by omega)
      refine r_icmp_lt (tgt := 38) C (by decide) (by omega) (by omega) dX4_whyNotCeiling_31 (fun c5 => ?_) (fun c5 => ?_)
      · refine r_iconst C dX4_whyNotCeiling_38 ?_
        exact r_iretP C rfl rfl (congrArg iI (by unfold whyCe; (repeat' split) <;> omega)) dX4_whyNotCeiling_39
      · refine r_iconst C dX4_whyNotCeiling_34 ?_
        refine r_goto (tgt := 39) C (by decide) dX4_whyNotCeiling_35 ?_
        exact r_iretP C rfl rfl (congrArg iI (by unfold whyCe; (repeat' split) <;> omega)) dX4_whyNotCeiling_39
  · refine r_iconst C dX4_whyNotCeiling_8 ?_
    refine r_goto (tgt := 39) C (by decide) dX4_whyNotCeiling_9 ?_
    exact r_iretP C rfl rfl (congrArg iI (by unfold whyCe; (repeat' split) <;> omega)) dX4_whyNotCeiling_39
set_option maxHeartbeats 4000000 in
theorem k_X4_written (l : Launch) (g : Gt) (a : Nat) (F : Nat → Int) (hSm : Sm F) (hZ : Zr F) : CP l yX4_written cX4_written 3 (some .int) 4 86 g [.ref a] (aAt g a 262 F) (some (.int (iI (tkA F)))) := by
  refine cp_of "LentRoomModel" (by decide) rfl (Nat.le_of_ble_eq_true rfl) ?_
  intro zp ze zs zm za zb zt zc ls C hP hl
  have hr := hP
  have hl : lv_has ls 3 [(0, .ref a)] := hl
  have cut4 : ∀ (N : Nat) (i : Nat) (v1 : Int) (v2 : Int), 5 - i < N → ((i : Int) ≤ F 0) → (v1 = sumI (tk F) i) → (v2 = (i : Int)) → ∀ ls : Array Slot, lv_has ls 3 [(0, .ref a), (1, .int (iI v1)), (2, .int (iI v2))] → W zp l ze (rmc 4 86) zs zm za zb zt zc zs.heap [] 0 0 (MQ zb (PQ (some (.int (iI (tkA F))))) za zs 0 0 (fun _ => False)) (F0 zm 4 ls []) := by
    intro N
    induction N with
    | zero => intro i v1 v2; exact fun hms => absurd hms (Nat.not_lt_zero _)
    | succ N ih =>
      intro i v1 v2 hms hi hv1 hv2 ls hl
      refine r_iload_n C rfl (lv_at hl 2 rfl) dX4_written_4 ?_
      refine r_aload_n C rfl (lv_at hl 0 rfl) dX4_written_5 ?_
      refine r_iconst C dX4_written_6 ?_
      refine r_iald (v := F 0) C hr 0 rfl (by omega) (by omega) rfl dX4_written_7 ?_
      have b1 := hSm.1 0 (by omega)
      have b2 := hSm.2
      refine r_icmp_ge (tgt := 25) C (by decide) (by omega) (by omega) dX4_written_8 (fun c3 => ?_) (fun c3 => ?_)
      · refine r_iload_n C rfl (lv_at hl 1 rfl) dX4_written_25 ?_
        exact r_iretP C rfl rfl (congrArg iI (by rw [hv1, show i = (F 0).toNat by omega]; exact tkA_n hSm hZ)) dX4_written_26
      · refine r_iload_n C rfl (lv_at hl 1 rfl) dX4_written_11 ?_
        refine r_aload_n C rfl (lv_at hl 0 rfl) dX4_written_12 ?_
        refine r_iload_n C rfl (lv_at hl 2 rfl) dX4_written_13 ?_
        refine r_sPi (rest := [.int (iI v1)]) C (k_X4_taken l g a F hSm v2 i (by omega) (by omega)) s_RX4_79 hr hl.1 rfl ⟨by decide, by decide⟩ rfl (Nat.le_of_ble_eq_true rfl) ⟨Nat.le_refl 0, Nat.le_refl 0⟩ dX4_written_14 ?_
        have b4 := tk_b hSm i (by omega)
        refine r_iadd C dX4_written_17 ?_
        refine r_istore_n (lv' := [(1, .int (iI (v1 + (tk F i)))), (0, .ref a), (2, .int (iI v2))]) C rfl hl (by decide) rfl dX4_written_18 (fun ls hl => ?_)
        refine r_iinc (lv' := [(2, .int (iI (v2 + 1))), (1, .int (iI (v1 + (tk F i)))), (0, .ref a)]) C hl (q := 2) rfl (by decide) rfl dX4_written_19 (fun ls hl => ?_)
        refine r_goto (tgt := 4) C (by decide) dX4_written_22 ?_
        exact ih (i + 1) (v1 + (tk F i)) (v2 + 1) (by omega) (by omega) (by rw [sumI, hv1]) (by omega) _ (lv_sub hl [2, 1, 0] rfl)
  refine r_iconst C dX4_written_0 ?_
  refine r_istore_n (lv' := [(1, .int (iI 0)), (0, .ref a)]) C rfl hl (by decide) rfl dX4_written_1 (fun ls hl => ?_)
  refine r_iconst C dX4_written_2 ?_
  refine r_istore_n (lv' := [(2, .int (iI 0)), (1, .int (iI 0)), (0, .ref a)]) C rfl hl (by decide) rfl dX4_written_3 (fun ls hl => ?_)
  exact cut4 _ 0 0 0 (Nat.lt_succ_self _) (by have := hSm.n; omega) (by rfl) (by omega) _ (lv_sub hl [2, 1, 0] rfl)

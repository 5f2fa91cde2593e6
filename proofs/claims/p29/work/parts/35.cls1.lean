theorem s_RX2_23 : SiteV "LentRoom$Text" 23 "LentRoom$Text" yX2_sign cX2_sign 2 (some .char) 1 := ⟨⟨q_232, q_233, q_234, q_31, q_235⟩, rfl, by decide, by decide, by decide +kernel⟩
theorem s_RX2_27 : SiteV "LentRoom$Text" 27 "LentRoom$Text" yX2_isDigit cX2_isDigit 2 (some .boolean) 1 := ⟨⟨q_236, q_237, q_238, q_31, q_239⟩, rfl, by decide, by decide, by decide +kernel⟩
theorem s_RX2_62 : SiteV "LentRoom$Text" 62 "LentRoom$Text" yX2_number cX2_number 5 (some .int) 2 := ⟨⟨q_240, q_241, q_242, q_31, q_243⟩, rfl, by decide, by decide, by decide +kernel⟩
set_option maxHeartbeats 4000000 in
theorem k_X2_isFull (l : Launch) (g : Gt) (t n : Nat) (TX : Nat → Int) (hTX : ∀ k : Nat, k < 120 → 0 ≤ TX k ∧ TX k ≤ 255) (hn : n ≤ 120)  : CP l yX2_isFull cX2_isFull 1 (some .boolean) 0 0 g [.ref t] (fun H => txAt g t (n : Int) H ∧ cAt g (t + 1) 120 TX H) (some (.int (iI (pI ((n : Int) = 120))))) := by
  refine cp_of "LentRoom$Text" (by decide) rfl (Nat.le_of_ble_eq_true rfl) ?_
  intro zp ze zs zm za zb zt zc ls C hP hl
  obtain ⟨ht, hg⟩ := hP
  have hl : lv_has ls 1 [(0, .ref t)] := hl
  refine r_aload_n C rfl (lv_at hl 0 rfl) dX2_isFull_0 ?_
  refine r_get C (ci := 2) (v := .int (iI (n : Int))) rfl uin2 ht.o 0 (by decide) q_61 rfl rfl dX2_isFull_1 ?_
  refine r_bipush C (by decide) dX2_isFull_4 ?_
  refine r_icmp_lt (tgt := 13) C (by decide) (by omega) (by decide) dX2_isFull_6 (fun c1 => ?_) (fun c1 => ?_)
  · refine r_iconst C dX2_isFull_13 ?_
    exact r_iretP C rfl rfl (congrArg iI (pI_f (by omega)).symm) dX2_isFull_14
  · refine r_iconst C dX2_isFull_9 ?_
    refine r_goto (tgt := 14) C (by decide) dX2_isFull_10 ?_
    exact r_iretP C rfl rfl (congrArg iI (pI_t (by omega)).symm) dX2_isFull_14
set_option maxHeartbeats 4000000 in
theorem k_X2_sign (l : Launch) (g : Gt) (t n : Nat) (TX : Nat → Int) (hTX : ∀ k : Nat, k < 120 → 0 ≤ TX k ∧ TX k ≤ 255) (hn : n ≤ 120) (x : Int) (hx : Rg x) : CP l yX2_sign cX2_sign 2 (some .char) 0 0 g [.ref t, .int (iI x)] (fun H => txAt g t (n : Int) H ∧ cAt g (t + 1) 120 TX H) (some (.int (iI (sgn TX n x)))) := by
  refine cp_of "LentRoom$Text" (by decide) rfl (Nat.le_of_ble_eq_true rfl) ?_
  intro zp ze zs zm za zb zt zc ls C hP hl
  obtain ⟨ht, hg⟩ := hP
  have hl : lv_has ls 2 [(0, .ref t), (1, .int (iI x))] := hl
  refine r_iload_n C rfl (lv_at hl 1 rfl) dX2_sign_0 ?_
  refine r_if_lt (tgt := 21) C (by decide) (by omega) dX2_sign_1 (fun c1 => ?_) (fun c1 => ?_)
  · refine r_bipush C (by decide) dX2_sign_21 ?_
    exact r_iretP C rfl (nar_ch (by omega)) (congrArg iI (by unfold sgn; rw [if_neg (by omega)])) dX2_sign_23
  · refine r_iload_n C rfl (lv_at hl 1 rfl) dX2_sign_4 ?_
    refine r_aload_n C rfl (lv_at hl 0 rfl) dX2_sign_5 ?_
    refine r_get C (ci := 2) (v := .int (iI (n : Int))) rfl uin2 ht.o 0 (by decide) q_61 rfl rfl dX2_sign_6 ?_
    refine r_icmp_ge (tgt := 21) C (by decide) (by omega) (by omega) dX2_sign_9 (fun c2 => ?_) (fun c2 => ?_)
    · refine r_bipush C (by decide) dX2_sign_21 ?_
      exact r_iretP C rfl (nar_ch (by omega)) (congrArg iI (by unfold sgn; rw [if_neg (by omega)])) dX2_sign_23
    · refine r_aload_n C rfl (lv_at hl 0 rfl) dX2_sign_12 ?_
      refine r_get C (ci := 2) (v := .ref (t + 1)) rfl uin2 ht.o 1 (by decide) q_63 rfl rfl dX2_sign_13 ?_
      refine r_iload_n C rfl (lv_at hl 1 rfl) dX2_sign_16 ?_
      refine r_cald (v := TX ((x).toNat)) C hg ((x).toNat) (by omega) (by omega) (by omega) rfl dX2_sign_17 ?_
      have b3 := hTX ((x).toNat) (by omega)
      refine r_goto (tgt := 23) C (by decide) dX2_sign_18 ?_
      exact r_iretP C rfl (nar_ch (by omega)) (congrArg iI (by unfold sgn; rw [if_pos (by omega)])) dX2_sign_23
set_option maxHeartbeats 4000000 in
theorem k_X2_isDigit (l : Launch) (g : Gt) (t n : Nat) (TX : Nat → Int) (hTX : ∀ k : Nat, k < 120 → 0 ≤ TX k ∧ TX k ≤ 255) (hn : n ≤ 120) (x : Int) (hx : Rg x) : CP l yX2_isDigit cX2_isDigit 2 (some .boolean) 1 21 g [.ref t, .int (iI x)] (fun H => txAt g t (n : Int) H ∧ cAt g (t + 1) 120 TX H) (some (.int (iI (pI (isD TX n x))))) := by
  refine cp_of "LentRoom$Text" (by decide) rfl (Nat.le_of_ble_eq_true rfl) ?_
  intro zp ze zs zm za zb zt zc ls C hP hl
  obtain ⟨ht, hg⟩ := hP
  have hl : lv_has ls 2 [(0, .ref t), (1, .int (iI x))] := hl
  refine r_aload_n C rfl (lv_at hl 0 rfl) dX2_isDigit_0 ?_
  refine r_iload_n C rfl (lv_at hl 1 rfl) dX2_isDigit_1 ?_
  refine r_vPi (rest := []) C (k_X2_sign l g t n TX hTX hn x (by omega)) s_RX2_23 ⟨ht, hg⟩ (recv C (ci := 2) rfl ht.o) hl.1 rfl ⟨by decide, by decide⟩ rfl (Nat.le_of_ble_eq_true rfl) ⟨Nat.le_refl 0, Nat.le_refl 0⟩ dX2_isDigit_2 ?_
  have b1 := sgn_b hTX hn x
  refine r_bipush C (by decide) dX2_isDigit_5 ?_
  refine r_icmp_lt (tgt := 24) C (by decide) (by omega) (by decide) dX2_isDigit_7 (fun c2 => ?_) (fun c2 => ?_)
  · refine r_iconst C dX2_isDigit_24 ?_
    exact r_iretP C rfl rfl (congrArg iI (pI_f (by omega)).symm) dX2_isDigit_25
  · refine r_aload_n C rfl (lv_at hl 0 rfl) dX2_isDigit_10 ?_
    refine r_iload_n C rfl (lv_at hl 1 rfl) dX2_isDigit_11 ?_
    refine r_vPi (rest := []) C (k_X2_sign l g t n TX hTX hn x (by omega)) s_RX2_23 ⟨ht, hg⟩ (recv C (ci := 2) rfl ht.o) hl.1 rfl ⟨by decide, by decide⟩ rfl (Nat.le_of_ble_eq_true rfl) ⟨Nat.le_refl 0, Nat.le_refl 0⟩ dX2_isDigit_12 ?_
    have b3 := sgn_b hTX hn x
    refine r_bipush C (by decide) dX2_isDigit_15 ?_
    refine r_icmp_gt (tgt := 24) C (by decide) (by omega) (by decide) dX2_isDigit_17 (fun c4 => ?_) (fun c4 => ?_)
    · refine r_iconst C dX2_isDigit_24 ?_
      exact r_iretP C rfl rfl (congrArg iI (pI_f (by omega)).symm) dX2_isDigit_25
    · refine r_iconst C dX2_isDigit_20 ?_
      refine r_goto (tgt := 25) C (by decide) dX2_isDigit_21 ?_
      exact r_iretP C rfl rfl (congrArg iI (pI_t (by omega)).symm) dX2_isDigit_25
set_option maxHeartbeats 4000000 in
theorem k_X2_number (l : Launch) (g : Gt) (t n : Nat) (TX : Nat → Int) (hTX : ∀ k : Nat, k < 120 → 0 ≤ TX k ∧ TX k ≤ 255) (hn : n ≤ 120) (x d : Int) (hx : -1000 ≤ x ∧ x ≤ 1000) (k : Nat) (hd : d = (k : Int)) (hk : k ≤ 2) : CP l yX2_number cX2_number 5 (some .int) 2 42 g [.ref t, .int (iI x), .int (iI d)] (fun H => txAt g t (n : Int) H ∧ cAt g (t + 1) 120 TX H) (some (.int (iI (nuV TX n x k)))) := by
  refine cp_of "LentRoom$Text" (by decide) rfl (Nat.le_of_ble_eq_true rfl) ?_
  intro zp ze zs zm za zb zt zc ls C hP hl
  obtain ⟨ht, hg⟩ := hP
  have hl : lv_has ls 5 [(0, .ref t), (1, .int (iI x)), (2, .int (iI d))] := hl
  have cut5 : ∀ (N : Nat) (i : Nat) (v3 : Int) (v4 : Int), 3 - i < N → (i ≤ k) → (v3 = nuV TX n x i) → (v4 = (i : Int)) → ∀ ls : Array Slot, lv_has ls 5 [(0, .ref t), (1, .int (iI x)), (2, .int (iI d)), (3, .int (iI v3)), (4, .int (iI v4))] → W zp l ze (rmc 2 42) zs zm za zb zt zc zs.heap [] 0 0 (MQ zb (PQ (some (.int (iI (nuV TX n x k))))) za zs 0 0 (fun _ => False)) (F0 zm 5 ls []) := by
    intro N
    induction N with
    | zero => intro i v3 v4; exact fun hms => absurd hms (Nat.not_lt_zero _)
    | succ N ih =>
      intro i v3 v4 hms hi hv3 hv4 ls hl
      have hnb : 0 ≤ nuV TX n x i ∧ nuV TX n x i ≤ 99 := (by have := nuV_b TX n x; rcases (by omega : i = 0 ∨ i = 1 ∨ i = 2) with h | h | h <;> subst h <;> omega)
      refine r_iload C (lv_at hl 4 rfl) dX2_number_5 ?_
      refine r_iload_n C rfl (lv_at hl 2 rfl) dX2_number_7 ?_
      refine r_icmp_ge (tgt := 45) C (by decide) (by omega) (by omega) dX2_number_8 (fun c1 => ?_) (fun c1 => ?_)
      · refine r_iload_n C rfl (lv_at hl 3 rfl) dX2_number_45 ?_
        exact r_iretP C rfl rfl (congrArg iI (by rw [hv3, show i = k by omega])) dX2_number_46
      · refine r_aload_n C rfl (lv_at hl 0 rfl) dX2_number_11 ?_
        refine r_iload_n C rfl (lv_at hl 1 rfl) dX2_number_12 ?_
        refine r_iload C (lv_at hl 4 rfl) dX2_number_13 ?_
        refine r_iadd C dX2_number_15 ?_
        refine r_vPi (rest := []) C (k_X2_isDigit l g t n TX hTX hn (x + v4) (by omega)) s_RX2_27 ⟨ht, hg⟩ (recv C (ci := 2) rfl ht.o) hl.1 rfl ⟨by decide, by decide⟩ rfl (Nat.le_of_ble_eq_true rfl) ⟨Nat.le_refl 0, Nat.le_refl 0⟩ dX2_number_16 ?_
        refine r_ifP_eq (tgt := 39) C (by decide) dX2_number_19 (fun c2 => ?_) (fun c2 => ?_)
        · refine r_iinc (lv' := [(4, .int (iI (v4 + 1))), (0, .ref t), (1, .int (iI x)), (2, .int (iI d)), (3, .int (iI v3))]) C hl (q := 4) rfl (by decide) rfl dX2_number_39 (fun ls hl => ?_)
          refine r_goto (tgt := 5) C (by decide) dX2_number_42 ?_
          exact ih (i + 1) v3 (v4 + 1) (by omega) (by omega) (by simp only [nuV]; rw [← hv4]; first | (rw [if_pos (by assumption)]; omega) | (rw [if_neg (by assumption)]; exact hv3)) (by omega) _ (lv_sub hl [1, 2, 3, 4, 0] rfl)
        · refine r_bipush C (by decide) dX2_number_22 ?_
          refine r_iload_n C rfl (lv_at hl 3 rfl) dX2_number_24 ?_
          refine r_imul C dX2_number_25 ?_
          refine r_aload_n C rfl (lv_at hl 0 rfl) dX2_number_26 ?_
          refine r_iload_n C rfl (lv_at hl 1 rfl) dX2_number_27 ?_
          refine r_iload C (lv_at hl 4 rfl) dX2_number_28 ?_
          refine r_iadd C dX2_number_30 ?_
          refine r_vPi (rest := [.int (iI (10 * v3))]) C (k_X2_sign l g t n TX hTX hn (x + v4) (by omega)) s_RX2_23 ⟨ht, hg⟩ (recv C (ci := 2) rfl ht.o) hl.1 rfl ⟨by decide, by decide⟩ rfl (Nat.le_of_ble_eq_true rfl) ⟨Nat.le_refl 0, Nat.le_refl 0⟩ dX2_number_31 ?_
          have b3 := sgn_b hTX hn (x + v4)
          refine r_iadd C dX2_number_34 ?_
          refine r_bipush C (by decide) dX2_number_35 ?_
          refine r_isub C dX2_number_37 ?_
          refine r_istore_n (lv' := [(3, .int (iI (((10 * v3) + (sgn TX n (x + v4))) - 48))), (0, .ref t), (1, .int (iI x)), (2, .int (iI d)), (4, .int (iI v4))]) C rfl hl (by decide) rfl dX2_number_38 (fun ls hl => ?_)
          refine r_iinc (lv' := [(4, .int (iI (v4 + 1))), (3, .int (iI (((10 * v3) + (sgn TX n (x + v4))) - 48))), (0, .ref t), (1, .int (iI x)), (2, .int (iI d))]) C hl (q := 4) rfl (by decide) rfl dX2_number_39 (fun ls hl => ?_)
          refine r_goto (tgt := 5) C (by decide) dX2_number_42 ?_
          exact ih (i + 1) (((10 * v3) + (sgn TX n (x + v4))) - 48) (v4 + 1) (by omega) (by omega) (by simp only [nuV]; rw [← hv4]; first | (rw [if_pos (by assumption)]; omega) | (rw [if_neg (by assumption)]; exact hv3)) (by omega) _ (lv_sub hl [2, 3, 4, 1, 0] rfl)
  refine r_iconst C dX2_number_0 ?_
  refine r_istore_n (lv' := [(3, .int (iI 0)), (0, .ref t), (1, .int (iI x)), (2, .int (iI d))]) C rfl hl (by decide) rfl dX2_number_1 (fun ls hl => ?_)
  refine r_iconst C dX2_number_2 ?_
  refine r_istore (lv' := [(4, .int (iI 0)), (3, .int (iI 0)), (0, .ref t), (1, .int (iI x)), (2, .int (iI d))]) C hl (by decide) rfl dX2_number_3 (fun ls hl => ?_)
  exact cut5 _ 0 0 0 (Nat.lt_succ_self _) (by omega) (by rfl) (by omega) _ (lv_sub hl [2, 3, 4, 1, 0] rfl)
set_option maxHeartbeats 4000000 in
theorem k_X2_fits (l : Launch) (g : Gt) (t n : Nat) (TX : Nat → Int) (hTX : ∀ k : Nat, k < 120 → 0 ≤ TX k ∧ TX k ≤ 255) (hn : n ≤ 120) (c x : Int) (hc : 0 ≤ c ∧ c ≤ 65535) (hx : 0 ≤ x ∧ x ≤ 120) : CP l yX2_fits cX2_fits 4 (some .boolean) 3 66 g [.ref t, .int (iI c), .int (iI x)] (fun H => txAt g t (n : Int) H ∧ cAt g (t + 1) 120 TX H) (some (.int (iI (ftP TX n c x)))) := by
  refine cp_of "LentRoom$Text" (by decide) rfl (Nat.le_of_ble_eq_true rfl) ?_
  intro zp ze zs zm za zb zt zc ls C hP hl
  obtain ⟨ht, hg⟩ := hP
  have hl : lv_has ls 4 [(0, .ref t), (1, .int (iI c)), (2, .int (iI x))] := hl
  refine r_iload_n C rfl (lv_at hl 1 rfl) dX2_fits_0 ?_
  refine r_bipush C (by decide) dX2_fits_1 ?_
  refine r_icmp_ne (tgt := 22) C (by decide) (by omega) (by decide) dX2_fits_3 (fun c1 => ?_) (fun c1 => ?_)
  · refine r_aload_n C rfl (lv_at hl 0 rfl) dX2_fits_22 ?_
    refine r_iload_n C rfl (lv_at hl 2 rfl) dX2_fits_23 ?_
    refine r_vPi (rest := []) C (k_X2_isDigit l g t n TX hTX hn x (by omega)) s_RX2_27 ⟨ht, hg⟩ (recv C (ci := 2) rfl ht.o) hl.1 rfl ⟨by decide, by decide⟩ rfl (Nat.le_of_ble_eq_true rfl) ⟨Nat.le_refl 0, Nat.le_refl 0⟩ dX2_fits_24 ?_
    refine r_ifP_ne (tgt := 32) C (by decide) dX2_fits_27 (fun c2 => ?_) (fun c2 => ?_)
    · refine r_aload_n C rfl (lv_at hl 0 rfl) dX2_fits_32 ?_
      refine r_iload_n C rfl (lv_at hl 2 rfl) dX2_fits_33 ?_
      refine r_iconst C dX2_fits_34 ?_
      refine r_vPi (rest := []) C (k_X2_number l g t n TX hTX hn x 1 (by omega) 1 (by omega) (by omega)) s_RX2_62 ⟨ht, hg⟩ (recv C (ci := 2) rfl ht.o) hl.1 rfl ⟨by decide, by decide⟩ rfl (Nat.le_of_ble_eq_true rfl) ⟨Nat.le_refl 0, Nat.le_refl 0⟩ dX2_fits_35 ?_
      have b3 := nuV_b TX n x
      refine r_istore_n (lv' := [(3, .int (iI (nuV TX n x 1))), (0, .ref t), (1, .int (iI c)), (2, .int (iI x))]) C rfl hl (by decide) rfl dX2_fits_38 (fun ls hl => ?_)
      refine r_iload_n C rfl (lv_at hl 2 rfl) dX2_fits_39 ?_
      by_cases e4 : c = 80
      · refine r_lk (tgt := 103) (off := 63) C (by omega) (by decide) (by rw [e4]; rfl) (by decide) dX2_fits_40 ?_
        refine r_bipush C (by decide) dX2_fits_103 ?_
        refine r_iload_n C rfl (lv_at hl 0 rfl) dX2_fits_105 ?_
        refine r_imul C dX2_fits_106 ?_
        refine r_bipush C (by decide) dX2_fits_107 ?_
        refine r_icmp_ge (tgt := 116) C (by decide) (by omega) (by decide) dX2_fits_109 (fun c5 => ?_) (fun c5 => ?_)
        · refine r_iconst C dX2_fits_116 ?_
          exact r_iretP C rfl rfl (congrArg iI (by unfold ftP; rw [if_neg (by omega), if_neg (by omega), if_neg (by omega), if_pos (by omega)]; exact (pI_f (by omega)).symm)) dX2_fits_117
        · refine r_iconst C dX2_fits_112 ?_
          refine r_goto (tgt := 117) C (by decide) dX2_fits_113 ?_
          exact r_iretP C rfl rfl (congrArg iI (by unfold ftP; rw [if_neg (by omega), if_neg (by omega), if_neg (by omega), if_pos (by omega)]; exact (pI_t (by omega)).symm)) dX2_fits_117
      by_cases e6 : c = 83
      · refine r_lk (tgt := 92) (off := 52) C (by omega) (by decide) (by rw [e6]; rfl) (by decide) dX2_fits_40 ?_
        refine r_iload_n C rfl (lv_at hl 0 rfl) dX2_fits_92 ?_
        refine r_iconst C dX2_fits_93 ?_
        refine r_icmp_ge (tgt := 101) C (by decide) (by omega) (by decide) dX2_fits_94 (fun c7 => ?_) (fun c7 => ?_)
        · refine r_iconst C dX2_fits_101 ?_
          exact r_iretP C rfl rfl (congrArg iI (by unfold ftP; rw [if_neg (by omega), if_neg (by omega), if_pos (by omega)]; exact (pI_f (by omega)).symm)) dX2_fits_102
        · refine r_iconst C dX2_fits_97 ?_
          refine r_goto (tgt := 102) C (by decide) dX2_fits_98 ?_
          exact r_iretP C rfl rfl (congrArg iI (by unfold ftP; rw [if_neg (by omega), if_neg (by omega), if_pos (by omega)]; exact (pI_t (by omega)).symm)) dX2_fits_102
      by_cases e8 : c = 99
      · refine r_lk (tgt := 137) (off := 97) C (by omega) (by decide) (by rw [e8]; rfl) (by decide) dX2_fits_40 ?_
        refine r_aload_n C rfl (lv_at hl 1 rfl) dX2_fits_137 ?_
        refine r_iload_n C rfl (lv_at hl 3 rfl) dX2_fits_138 ?_
        refine r_iconst C dX2_fits_139 ?_
        refine r_isub C dX2_fits_140 ?_
        refine r_iconst C dX2_fits_141 ?_
        refine r_vPi (rest := []) C (k_X2_number l g t n TX hTX hn (x - 1) 2 (by omega) 2 (by omega) (by omega)) s_RX2_62 ⟨ht, hg⟩ (recv C (ci := 2) rfl ht.o) hl.1 rfl ⟨by decide, by decide⟩ rfl (Nat.le_of_ble_eq_true rfl) ⟨Nat.le_refl 0, Nat.le_refl 0⟩ dX2_fits_142 ?_
        have b9 := nuV_b TX n (x - 1)
        refine r_iconst C dX2_fits_145 ?_
        refine r_icmp_lt (tgt := 166) C (by decide) (by omega) (by decide) dX2_fits_146 (fun c10 => ?_) (fun c10 => ?_)
        · refine r_iconst C dX2_fits_166 ?_
          exact r_iretP C rfl rfl (congrArg iI (by unfold ftP; rw [if_neg (by omega), if_neg (by omega), if_neg (by omega), if_neg (by omega), if_neg (by omega), if_pos (by omega)]; exact (pI_f (by omega)).symm)) dX2_fits_167
        · refine r_aload_n C rfl (lv_at hl 1 rfl) dX2_fits_149 ?_
          refine r_iload_n C rfl (lv_at hl 3 rfl) dX2_fits_150 ?_
          refine r_iconst C dX2_fits_151 ?_
          refine r_isub C dX2_fits_152 ?_
          refine r_iconst C dX2_fits_153 ?_
          refine r_vPi (rest := []) C (k_X2_number l g t n TX hTX hn (x - 1) 2 (by omega) 2 (by omega) (by omega)) s_RX2_62 ⟨ht, hg⟩ (recv C (ci := 2) rfl ht.o) hl.1 rfl ⟨by decide, by decide⟩ rfl (Nat.le_of_ble_eq_true rfl) ⟨Nat.le_refl 0, Nat.le_refl 0⟩ dX2_fits_154 ?_
          have b11 := nuV_b TX n (x - 1)
          refine r_bipush C (by decide) dX2_fits_157 ?_
          refine r_icmp_gt (tgt := 166) C (by decide) (by omega) (by decide) dX2_fits_159 (fun c12 => ?_) (fun c12 => ?_)
          · refine r_iconst C dX2_fits_166 ?_
            exact r_iretP C rfl rfl (congrArg iI (by unfold ftP; rw [if_neg (by omega), if_neg (by omega), if_neg (by omega), if_neg (by omega), if_neg (by omega), if_pos (by omega)]; exact (pI_f (by omega)).symm)) dX2_fits_167
          · refine r_iconst C dX2_fits_162 ?_
            refine r_goto (tgt := 167) C (by decide) dX2_fits_163 ?_
            exact r_iretP C rfl rfl (congrArg iI (by unfold ftP; rw [if_neg (by omega), if_neg (by omega), if_neg (by omega), if_neg (by omega), if_neg (by omega), if_pos (by omega)]; exact (pI_t (by omega)).symm)) dX2_fits_167
      by_cases e13 : c = 102
      · refine r_lk (tgt := 168) (off := 128) C (by omega) (by decide) (by rw [e13]; rfl) (by decide) dX2_fits_40 ?_
        refine r_aload_n C rfl (lv_at hl 1 rfl) dX2_fits_168 ?_
        refine r_iload_n C rfl (lv_at hl 3 rfl) dX2_fits_169 ?_
        refine r_iconst C dX2_fits_170 ?_
        refine r_isub C dX2_fits_171 ?_
        refine r_iconst C dX2_fits_172 ?_
        refine r_vPi (rest := []) C (k_X2_number l g t n TX hTX hn (x - 1) 2 (by omega) 2 (by omega) (by omega)) s_RX2_62 ⟨ht, hg⟩ (recv C (ci := 2) rfl ht.o) hl.1 rfl ⟨by decide, by decide⟩ rfl (Nat.le_of_ble_eq_true rfl) ⟨Nat.le_refl 0, Nat.le_refl 0⟩ dX2_fits_173 ?_
        have b14 := nuV_b TX n (x - 1)
        refine r_bipush C (by decide) dX2_fits_176 ?_
        refine r_icmp_gt (tgt := 185) C (by decide) (by omega) (by decide) dX2_fits_178 (fun c15 => ?_) (fun c15 => ?_)
        · refine r_iconst C dX2_fits_185 ?_
          exact r_iretP C rfl rfl (congrArg iI (by unfold ftP; rw [if_neg (by omega), if_neg (by omega), if_neg (by omega), if_neg (by omega), if_neg (by omega), if_neg (by omega), if_pos (by omega)]; exact (pI_f (by omega)).symm)) dX2_fits_186
        · refine r_iconst C dX2_fits_181 ?_
          refine r_goto (tgt := 186) C (by decide) dX2_fits_182 ?_
          exact r_iretP C rfl rfl (congrArg iI (by unfold ftP; rw [if_neg (by omega), if_neg (by omega), if_neg (by omega), if_neg (by omega), if_neg (by omega), if_neg (by omega), if_pos (by omega)]; exact (pI_t (by omega)).symm)) dX2_fits_186
      by_cases e16 : c = 112
      · refine r_lk (tgt := 118) (off := 78) C (by omega) (by decide) (by rw [e16]; rfl) (by decide) dX2_fits_40 ?_
        refine r_aload_n C rfl (lv_at hl 1 rfl) dX2_fits_118 ?_
        refine r_iload_n C rfl (lv_at hl 3 rfl) dX2_fits_119 ?_
        refine r_iconst C dX2_fits_120 ?_
        refine r_isub C dX2_fits_121 ?_
        refine r_iconst C dX2_fits_122 ?_
        refine r_vPi (rest := []) C (k_X2_number l g t n TX hTX hn (x - 1) 2 (by omega) 2 (by omega) (by omega)) s_RX2_62 ⟨ht, hg⟩ (recv C (ci := 2) rfl ht.o) hl.1 rfl ⟨by decide, by decide⟩ rfl (Nat.le_of_ble_eq_true rfl) ⟨Nat.le_refl 0, Nat.le_refl 0⟩ dX2_fits_123 ?_
        have b17 := nuV_b TX n (x - 1)
        refine r_bipush C (by decide) dX2_fits_126 ?_
        refine r_icmp_ge (tgt := 135) C (by decide) (by omega) (by decide) dX2_fits_128 (fun c18 => ?_) (fun c18 => ?_)
        · refine r_iconst C dX2_fits_135 ?_
          exact r_iretP C rfl rfl (congrArg iI (by unfold ftP; rw [if_neg (by omega), if_neg (by omega), if_neg (by omega), if_neg (by omega), if_pos (by omega)]; exact (pI_f (by omega)).symm)) dX2_fits_136
        · refine r_iconst C dX2_fits_131 ?_
          refine r_goto (tgt := 136) C (by decide) dX2_fits_132 ?_
          exact r_iretP C rfl rfl (congrArg iI (by unfold ftP; rw [if_neg (by omega), if_neg (by omega), if_neg (by omega), if_neg (by omega), if_pos (by omega)]; exact (pI_t (by omega)).symm)) dX2_fits_136
      refine r_lk (tgt := 187) (off := 147) C (by omega) (by decide) (by show (if (80 : Int) = c then 63 else if (83 : Int) = c then 52 else if (99 : Int) = c then 97 else if (102 : Int) = c then 128 else if (112 : Int) = c then 78 else 147) = _; rw [if_neg (by omega), if_neg (by omega), if_neg (by omega), if_neg (by omega), if_neg (by omega)]) (by decide) dX2_fits_40 ?_
      refine r_bipush C (by decide) dX2_fits_187 ?_
      refine r_iload_n C rfl (lv_at hl 0 rfl) dX2_fits_189 ?_
      refine r_imul C dX2_fits_190 ?_
      refine r_bipush C (by decide) dX2_fits_191 ?_
      refine r_icmp_gt (tgt := 200) C (by decide) (by omega) (by decide) dX2_fits_193 (fun c19 => ?_) (fun c19 => ?_)
      · refine r_iconst C dX2_fits_200 ?_
        exact r_iretP C rfl rfl (congrArg iI (by unfold ftP; rw [if_neg (by omega), if_neg (by omega), if_neg (by omega), if_neg (by omega), if_neg (by omega), if_neg (by omega), if_neg (by omega)]; exact (pI_f (by omega)).symm)) dX2_fits_201
      · refine r_iconst C dX2_fits_196 ?_
        refine r_goto (tgt := 201) C (by decide) dX2_fits_197 ?_
        exact r_iretP C rfl rfl (congrArg iI (by unfold ftP; rw [if_neg (by omega), if_neg (by omega), if_neg (by omega), if_neg (by omega), if_neg (by omega), if_neg (by omega), if_neg (by omega)]; exact (pI_t (by omega)).symm)) dX2_fits_201
    · refine r_iconst C dX2_fits_30 ?_
      exact r_iretP C rfl rfl (congrArg iI (by unfold ftP; rw [if_neg (by omega), if_pos (by assumption)])) dX2_fits_31
  · refine r_aload_n C rfl (lv_at hl 0 rfl) dX2_fits_6 ?_
    refine r_iload_n C rfl (lv_at hl 2 rfl) dX2_fits_7 ?_
    refine r_vPi (rest := []) C (k_X2_sign l g t n TX hTX hn x (by omega)) s_RX2_23 ⟨ht, hg⟩ (recv C (ci := 2) rfl ht.o) hl.1 rfl ⟨by decide, by decide⟩ rfl (Nat.le_of_ble_eq_true rfl) ⟨Nat.le_refl 0, Nat.le_refl 0⟩ dX2_fits_8 ?_
    have b20 := sgn_b hTX hn x
    refine r_bipush C (by decide) dX2_fits_11 ?_
    refine r_icmp_ne (tgt := 20) C (by decide) (by omega) (by decide) dX2_fits_13 (fun c21 => ?_) (fun c21 => ?_)
    · refine r_iconst C dX2_fits_20 ?_
      exact r_iretP C rfl rfl (congrArg iI (by unfold ftP; rw [if_pos (by omega)]; exact (pI_f (by omega)).symm)) dX2_fits_21
    · refine r_iconst C dX2_fits_16 ?_
      refine r_goto (tgt := 21) C (by decide) dX2_fits_17 ?_
      exact r_iretP C rfl rfl (congrArg iI (by unfold ftP; rw [if_pos (by omega)]; exact (pI_t (by omega)).symm)) dX2_fits_21

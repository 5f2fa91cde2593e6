theorem s_RX0_123 : SiteV "LentRoom$Device" 123 "LentRoom$Device" yX0_isWritten cX0_isWritten 3 (some .boolean) 2 := ⟨⟨q_429, q_430, q_431, q_32, q_432⟩, rfl, by decide, by decide, by decide +kernel⟩
theorem s_RX0_126 : SiteV "LentRoom$Device" 126 "LentRoom$Device" yX0_takeBlock cX0_takeBlock 3 (some .int) 1 := ⟨⟨q_433, q_434, q_435, q_32, q_436⟩, rfl, by decide, by decide, by decide +kernel⟩
theorem s_RX0_129 : SiteV "LentRoom$Device" 129 "LentRoom$Device" yX0_greatestLender cX0_greatestLender 4 (some .int) 1 := ⟨⟨q_469, q_471, q_8, q_32, q_472⟩, rfl, by decide, by decide, by decide +kernel⟩
theorem s_RX0_48 : SiteS "LentRoom$Device" 48 yX0_copyRow cX0_copyRow 2 none 2 := ⟨⟨q_378, q_379, q_32, q_380⟩, by decide, by decide, by decide +kernel⟩
set_option maxHeartbeats 4000000 in
theorem k_X0_putPage (l : Launch) (g : Gt) (d : Nat) (F : Nat → Int) (M : Int) (hS : Sn F M) (hM : M ≤ 998000) (hZ : Zr F) (hg : Dg F) (hpg : ∀ s : Nat, (s : Int) < F 0 → Pg F s) (x p : Int) (s q : Nat) (hx : Rg x) (hp : Rg p) (hs : 0 ≤ x → x = (s : Int)) (hq : 0 ≤ p → p = (q : Int)) : CH l yX0_putPage cX0_putPage 4 (some .int) 4 94 g [.ref d, .int (iI x), .int (iI p)] (dvAt g d F) (some (.int (iI (if 0 ≤ x ∧ x < F 0 ∧ 0 ≤ p ∧ p < 40 then wrR F s q else -1)))) (Dvp d) (dvAt g d (if 0 ≤ x ∧ x < F 0 ∧ 0 ≤ p ∧ p < 40 then wrF F s q else F)) := by
  refine ch_of "LentRoom$Device" (by decide) rfl (Nat.le_of_ble_eq_true rfl) ?_
  intro zp ze zs zm za zb zt zc ls C hP hF hl
  have hd := hP
  have hl : lv_has ls 4 [(0, .ref d), (1, .int (iI x)), (2, .int (iI p))] := hl
  have hSm : Sm F := hS.m (by omega)
  refine r_aload_n C rfl (lv_at hl 0 rfl) dX0_putPage_0 ?_
  refine r_iload_n C rfl (lv_at hl 1 rfl) dX0_putPage_1 ?_
  refine r_iload_n C rfl (lv_at hl 2 rfl) dX0_putPage_2 ?_
  refine r_vPi (rest := []) C (k_X0_hasPage l g d F hSm x p (by omega) (by omega)) s_RX0_68 hd (recv C (ci := 0) rfl hd.o) hl.1 rfl ⟨by decide, by decide⟩ rfl (Nat.le_of_ble_eq_true rfl) ⟨Nat.le_refl 0, Nat.le_refl 0⟩ dX0_putPage_3 ?_
  have b1 := hSm.n
  refine r_ifP_ne (tgt := 11) C (by decide) dX0_putPage_6 (fun c2 => ?_) (fun c2 => ?_)
  · have hv : 0 ≤ x ∧ x < F 0 ∧ 0 ≤ p ∧ p < 40 := c2
    have hn := hSm.n
    have hpg0 := hpg s (by omega)
    refine r_aload_n C rfl (lv_at hl 0 rfl) dX0_putPage_11 ?_
    refine r_iload_n C rfl (lv_at hl 1 rfl) dX0_putPage_12 ?_
    refine r_iload_n C rfl (lv_at hl 2 rfl) dX0_putPage_13 ?_
    refine r_vPi (rest := []) C (k_X0_isWritten l g d F hSm x p s q (by omega) (by omega) (by omega) (by omega)) s_RX0_123 hd (recv C (ci := 0) rfl hd.o) hl.1 rfl ⟨by decide, by decide⟩ rfl (Nat.le_of_ble_eq_true rfl) ⟨Nat.le_refl 0, Nat.le_refl 0⟩ dX0_putPage_14 ?_
    have b3 := hSm.n
    refine r_ifP_eq (tgt := 24) C (by decide) dX0_putPage_17 (fun c4 => ?_) (fun c4 => ?_)
    · refine r_aload_n C rfl (lv_at hl 0 rfl) dX0_putPage_24 ?_
      refine r_iload_n C rfl (lv_at hl 1 rfl) dX0_putPage_25 ?_
      refine r_vHi (rest := []) C (k_X0_takeBlock l g d F M hS (by omega) hZ hg x s (by omega) (by omega) hpg0) s_RX0_126 hd hF (fun _ h => h) (recv C (ci := 0) rfl hd.o) hl.1 rfl ⟨by decide, by decide⟩ rfl (Nat.le_of_ble_eq_true rfl) ⟨Nat.le_refl 0, Nat.le_refl 0⟩ dX0_putPage_26 (fun H6 locs6 h6 ho6 hz6 hF => ?_)
      have hd := h6
      have b5 := needR_b F s
      refine r_istore_n (lv' := [(3, .int (iI (needR F s))), (0, .ref d), (1, .int (iI x)), (2, .int (iI p))]) C rfl hl (by decide) rfl dX0_putPage_29 (fun ls hl => ?_)
      refine r_iload_n C rfl (lv_at hl 0 rfl) dX0_putPage_30 ?_
      refine r_iconst C dX0_putPage_31 ?_
      refine r_icmp_ne (tgt := 47) C (by decide) (by omega) (by decide) dX0_putPage_32 (fun c7 => ?_) (fun c7 => ?_)
      · refine r_aload_n C rfl (lv_at hl 1 rfl) dX0_putPage_47 ?_
        refine r_dup C rfl dX0_putPage_48 ?_
        refine r_get C (ci := 0) (v := .int (iI ((needF F s) 1))) rfl uin0 hd.o 1 (by decide) q_80 rfl rfl dX0_putPage_49 ?_
        refine r_iconst C dX0_putPage_52 ?_
        refine r_iadd C dX0_putPage_53 ?_
        refine r_put C (ci := 0) rfl uin0 tyX0_ok nmX0 hd.o hF (is_dvp (by omega)) 1 (by decide) q_80 rfl rfl rfl rfl (by show 1 < 11; decide) dX0_putPage_54 (fun H8 locs8 h8 ho8 hz8 hF => ?_)
        have hd : dvAt g d (up (needF F s) 1 (((needF F s) 1) + 1)) H8 := hd.put1 h8 ho8
        refine r_aload_n C rfl (lv_at hl 1 rfl) dX0_putPage_57 ?_
        refine r_get C (ci := 0) (v := .ref (d + 11)) rfl uin0 hd.o 7 (by decide) q_89 rfl rfl dX0_putPage_58 ?_
        refine r_iload_n C rfl (lv_at hl 2 rfl) dX0_putPage_61 ?_
        refine r_aaldr (v := d + 12 + s) C hd.rw s (by omega) (by omega) (by omega) rfl dX0_putPage_62 ?_
        refine r_iload_n C rfl (lv_at hl 3 rfl) dX0_putPage_63 ?_
        refine r_aload_n C rfl (lv_at hl 1 rfl) dX0_putPage_64 ?_
        refine r_get C (ci := 0) (v := .int (iI ((up (needF F s) 1 (((needF F s) 1) + 1)) 1))) rfl uin0 hd.o 1 (by decide) q_80 rfl rfl dX0_putPage_65 ?_
        have er9 : (up (needF F s) 1 (((needF F s) 1) + 1)) 1 = ((needF F s) 1) + 1 := (by rw [up_s])
        rw [er9]
        refine r_iast C (hd.w s (by omega)) hF (is_dvp (by omega)) q (by omega) (by omega) (by omega) dX0_putPage_68 (fun H10 locs10 h10 ho10 hz10 hF => ?_)
        have hd : dvAt g d (up (up (needF F s) 1 (((needF F s) 1) + 1)) (2 + 52 * s + (12 + q)) (((needF F s) 1) + 1)) H10 := hd.putw s q (by omega) (by omega) h10 ho10
        refine r_iload_n C rfl (lv_at hl 0 rfl) dX0_putPage_69 ?_
        exact r_iretH C rfl rfl (congrArg iI (by rw [if_pos hv]; unfold wrR; rw [if_neg (by omega)])) hF (by rw [if_pos hv]; unfold wrF; rw [if_neg (by omega), if_neg (by omega)]; exact hd) dX0_putPage_70
      · refine r_aload_n C rfl (lv_at hl 1 rfl) dX0_putPage_35 ?_
        refine r_get C (ci := 0) (v := .ref (d + 19)) rfl uin0 hd.o 10 (by decide) q_93 rfl rfl dX0_putPage_36 ?_
        refine r_iload_n C rfl (lv_at hl 2 rfl) dX0_putPage_39 ?_
        refine r_dup2 C rfl rfl dX0_putPage_40 ?_
        refine r_iald (v := (needF F s) (2 + 52 * s + 6)) C hd.c6 s (by omega) (by omega) (by omega) rfl dX0_putPage_41 ?_
        refine r_iconst C dX0_putPage_42 ?_
        refine r_iadd C dX0_putPage_43 ?_
        refine r_iast C hd.c6 hF (is_dvp (by omega)) s (by omega) (by omega) (by omega) dX0_putPage_44 (fun H11 locs11 h11 ho11 hz11 hF => ?_)
        have hd : dvAt g d (up (needF F s) (2 + 52 * s + 6) (((needF F s) (2 + 52 * s + 6)) + 1)) H11 := hd.putc 6 s (by decide) h11 ho11
        refine r_iconst C dX0_putPage_45 ?_
        exact r_iretH C rfl rfl (congrArg iI (by rw [if_pos hv]; unfold wrR; rw [if_neg (by omega)]; omega)) hF (by rw [if_pos hv]; unfold wrF; rw [if_neg (by omega), if_pos (by omega)]; exact hd) dX0_putPage_46
    · refine r_iconst C dX0_putPage_20 ?_
      refine r_goto (tgt := 29) C (by decide) dX0_putPage_21 ?_
      refine r_istore_n (lv' := [(3, .int (iI 0)), (0, .ref d), (1, .int (iI x)), (2, .int (iI p))]) C rfl hl (by decide) rfl dX0_putPage_29 (fun ls hl => ?_)
      refine r_iload_n C rfl (lv_at hl 0 rfl) dX0_putPage_30 ?_
      refine r_iconst C dX0_putPage_31 ?_
      refine r_icmp_ne (tgt := 47) C (by decide) (by decide) (by decide) dX0_putPage_32 (fun c12 => ?_) (fun c12 => ?_)
      · refine r_aload_n C rfl (lv_at hl 1 rfl) dX0_putPage_47 ?_
        refine r_dup C rfl dX0_putPage_48 ?_
        refine r_get C (ci := 0) (v := .int (iI (F 1))) rfl uin0 hd.o 1 (by decide) q_80 rfl rfl dX0_putPage_49 ?_
        have b13 := hSm.1 1 (by omega)
        refine r_iconst C dX0_putPage_52 ?_
        refine r_iadd C dX0_putPage_53 ?_
        refine r_put C (ci := 0) rfl uin0 tyX0_ok nmX0 hd.o hF (is_dvp (by omega)) 1 (by decide) q_80 rfl rfl rfl rfl (by show 1 < 11; decide) dX0_putPage_54 (fun H14 locs14 h14 ho14 hz14 hF => ?_)
        have hd : dvAt g d (up F 1 ((F 1) + 1)) H14 := hd.put1 h14 ho14
        refine r_aload_n C rfl (lv_at hl 1 rfl) dX0_putPage_57 ?_
        refine r_get C (ci := 0) (v := .ref (d + 11)) rfl uin0 hd.o 7 (by decide) q_89 rfl rfl dX0_putPage_58 ?_
        refine r_iload_n C rfl (lv_at hl 2 rfl) dX0_putPage_61 ?_
        refine r_aaldr (v := d + 12 + s) C hd.rw s (by omega) (by omega) (by omega) rfl dX0_putPage_62 ?_
        refine r_iload_n C rfl (lv_at hl 3 rfl) dX0_putPage_63 ?_
        refine r_aload_n C rfl (lv_at hl 1 rfl) dX0_putPage_64 ?_
        refine r_get C (ci := 0) (v := .int (iI ((up F 1 ((F 1) + 1)) 1))) rfl uin0 hd.o 1 (by decide) q_80 rfl rfl dX0_putPage_65 ?_
        have er15 : (up F 1 ((F 1) + 1)) 1 = (F 1) + 1 := (by rw [up_s])
        rw [er15]
        refine r_iast C (hd.w s (by omega)) hF (is_dvp (by omega)) q (by omega) (by omega) (by omega) dX0_putPage_68 (fun H16 locs16 h16 ho16 hz16 hF => ?_)
        have hd : dvAt g d (up (up F 1 ((F 1) + 1)) (2 + 52 * s + (12 + q)) ((F 1) + 1)) H16 := hd.putw s q (by omega) (by omega) h16 ho16
        refine r_iload_n C rfl (lv_at hl 0 rfl) dX0_putPage_69 ?_
        exact r_iretH C rfl rfl (congrArg iI (by rw [if_pos hv]; unfold wrR; rw [if_pos (by omega)])) hF (by rw [if_pos hv]; unfold wrF; rw [if_pos (by omega)]; exact hd) dX0_putPage_70
      · exact absurd c12 (by decide)
  · refine r_iconst C dX0_putPage_9 ?_
    exact r_iretH C rfl rfl (congrArg iI (by rw [if_neg c2])) hF (by rw [if_neg c2]; exact hd) dX0_putPage_10
set_option maxHeartbeats 4000000 in
theorem k_X0_dropPage (l : Launch) (g : Gt) (d : Nat) (F : Nat → Int) (M : Int) (hS : Sn F M) (hM : M ≤ 999000) (hC : Cz F) (x p : Int) (s q : Nat) (hx : Rg x) (hp : Rg p) (hs : 0 ≤ x → x = (s : Int)) (hq : 0 ≤ p → p = (q : Int)) : CH l yX0_dropPage cX0_dropPage 4 (some .boolean) 3 65 g [.ref d, .int (iI x), .int (iI p)] (dvAt g d F) (some (.int (iI (pI (0 ≤ x ∧ x < F 0 ∧ 0 ≤ p ∧ p < 40 ∧ 0 < F (2 + 52 * s + (12 + q))))))) (Dvp d) (dvAt g d (if 0 ≤ x ∧ x < F 0 ∧ 0 ≤ p ∧ p < 40 ∧ 0 < F (2 + 52 * s + (12 + q)) then trF F s q else F)) := by
  refine ch_of "LentRoom$Device" (by decide) rfl (Nat.le_of_ble_eq_true rfl) ?_
  intro zp ze zs zm za zb zt zc ls C hP hF hl
  have hd := hP
  have hl : lv_has ls 4 [(0, .ref d), (1, .int (iI x)), (2, .int (iI p))] := hl
  have hSm : Sm F := hS.m (by omega)
  refine r_aload_n C rfl (lv_at hl 0 rfl) dX0_dropPage_0 ?_
  refine r_iload_n C rfl (lv_at hl 1 rfl) dX0_dropPage_1 ?_
  refine r_iload_n C rfl (lv_at hl 2 rfl) dX0_dropPage_2 ?_
  refine r_vPi (rest := []) C (k_X0_isWritten l g d F hSm x p s q (by omega) (by omega) (by omega) (by omega)) s_RX0_123 hd (recv C (ci := 0) rfl hd.o) hl.1 rfl ⟨by decide, by decide⟩ rfl (Nat.le_of_ble_eq_true rfl) ⟨Nat.le_refl 0, Nat.le_refl 0⟩ dX0_dropPage_3 ?_
  have b1 := hSm.n
  refine r_ifP_ne (tgt := 11) C (by decide) dX0_dropPage_6 (fun c2 => ?_) (fun c2 => ?_)
  · refine r_aload_n C rfl (lv_at hl 0 rfl) dX0_dropPage_11 ?_
    refine r_get C (ci := 0) (v := .ref (d + 11)) rfl uin0 hd.o 7 (by decide) q_89 rfl rfl dX0_dropPage_12 ?_
    refine r_iload_n C rfl (lv_at hl 1 rfl) dX0_dropPage_15 ?_
    refine r_aaldr (v := d + 12 + s) C hd.rw s (by omega) (by omega) (by omega) rfl dX0_dropPage_16 ?_
    refine r_iload_n C rfl (lv_at hl 2 rfl) dX0_dropPage_17 ?_
    refine r_iconst C dX0_dropPage_18 ?_
    refine r_iast C (hd.w s (by omega)) hF (is_dvp (by omega)) q (by omega) (by omega) (by omega) dX0_dropPage_19 (fun H3 locs3 h3 ho3 hz3 hF => ?_)
    have hd : dvAt g d (up F (2 + 52 * s + (12 + q)) 0) H3 := hd.putw s q (by omega) (by omega) h3 ho3
    have hw := c2
    have hn := hSm.n
    have hd : dvAt g d (tr1 F s q) H3 := hd
    have hSm1 : Sm (tr1 F s q) := (tr1_S hS (by have := hS.1 0 (by omega); omega) s q).m (by omega)
    have hC1 := tr1_C hC s q (by omega)
    have e0 : tr1 F s q 0 = F 0 := up_n _ _ (by omega)
    refine r_aload_n C rfl (lv_at hl 0 rfl) dX0_dropPage_20 ?_
    refine r_iload_n C rfl (lv_at hl 1 rfl) dX0_dropPage_21 ?_
    refine r_vPi (rest := []) C (k_X0_greatestLender l g d (tr1 F s q) hSm1 x s (by omega) (by omega)) s_RX0_129 hd (recv C (ci := 0) rfl hd.o) hl.1 rfl ⟨by decide, by decide⟩ rfl (Nat.le_of_ble_eq_true rfl) ⟨Nat.le_refl 0, Nat.le_refl 0⟩ dX0_dropPage_22 ?_
    have b4 := gl_b (F := tr1 F s q) s ((tr1 F s q) 0).toNat
    refine r_istore_n (lv' := [(3, .int (iI (gl (tr1 F s q) s ((tr1 F s q) 0).toNat))), (0, .ref d), (1, .int (iI x)), (2, .int (iI p))]) C rfl hl (by decide) rfl dX0_dropPage_25 (fun ls hl => ?_)
    refine r_iload_n C rfl (lv_at hl 0 rfl) dX0_dropPage_26 ?_
    refine r_iconst C dX0_dropPage_27 ?_
    refine r_icmp_eq (tgt := 46) C (by decide) (by omega) (by decide) dX0_dropPage_28 (fun c5 => ?_) (fun c5 => ?_)
    · have hbo : ¬ 0 < borr (tr1 F s q) s := (fun h => by have := (gl_pos hSm1 hC1 (s := s) (by omega) h).1; omega)
      refine r_aload_n C rfl (lv_at hl 1 rfl) dX0_dropPage_46 ?_
      refine r_get C (ci := 0) (v := .ref (d + 4)) rfl uin0 hd.o 5 (by decide) q_86 rfl rfl dX0_dropPage_47 ?_
      refine r_iload_n C rfl (lv_at hl 2 rfl) dX0_dropPage_50 ?_
      refine r_iald (v := (tr1 F s q) (2 + 52 * s + 3)) C hd.c3 s (by omega) (by omega) (by omega) rfl dX0_dropPage_51 ?_
      have b6 := hSm1.1 (2 + 52 * s + 3) (by omega)
      refine r_if_le (tgt := 68) C (by decide) (by omega) dX0_dropPage_52 (fun c7 => ?_) (fun c7 => ?_)
      · refine r_aload_n C rfl (lv_at hl 1 rfl) dX0_dropPage_68 ?_
        refine r_get C (ci := 0) (v := .ref (d + 3)) rfl uin0 hd.o 4 (by decide) q_85 rfl rfl dX0_dropPage_69 ?_
        refine r_iload_n C rfl (lv_at hl 2 rfl) dX0_dropPage_72 ?_
        refine r_dup2 C rfl rfl dX0_dropPage_73 ?_
        refine r_iald (v := (tr1 F s q) (2 + 52 * s + 2)) C hd.c2 s (by omega) (by omega) (by omega) rfl dX0_dropPage_74 ?_
        have b8 := hSm1.1 (2 + 52 * s + 2) (by omega)
        refine r_iconst C dX0_dropPage_75 ?_
        refine r_isub C dX0_dropPage_76 ?_
        refine r_iast C hd.c2 hF (is_dvp (by omega)) s (by omega) (by omega) (by omega) dX0_dropPage_77 (fun H9 locs9 h9 ho9 hz9 hF => ?_)
        have hd : dvAt g d (up (tr1 F s q) (2 + 52 * s + 2) (((tr1 F s q) (2 + 52 * s + 2)) - 1)) H9 := hd.putc 2 s (by decide) h9 ho9
        refine r_iconst C dX0_dropPage_78 ?_
        exact r_iretH C rfl rfl (congrArg iI (pI_t (by exact hw)).symm) hF (by rw [if_pos hw]; unfold trF unback; rw [if_neg hbo, if_neg (by omega)]; exact hd) dX0_dropPage_79
      · refine r_aload_n C rfl (lv_at hl 1 rfl) dX0_dropPage_55 ?_
        refine r_get C (ci := 0) (v := .ref (d + 4)) rfl uin0 hd.o 5 (by decide) q_86 rfl rfl dX0_dropPage_56 ?_
        refine r_iload_n C rfl (lv_at hl 2 rfl) dX0_dropPage_59 ?_
        refine r_dup2 C rfl rfl dX0_dropPage_60 ?_
        refine r_iald (v := (tr1 F s q) (2 + 52 * s + 3)) C hd.c3 s (by omega) (by omega) (by omega) rfl dX0_dropPage_61 ?_
        have b10 := hSm1.1 (2 + 52 * s + 3) (by omega)
        refine r_iconst C dX0_dropPage_62 ?_
        refine r_isub C dX0_dropPage_63 ?_
        refine r_iast C hd.c3 hF (is_dvp (by omega)) s (by omega) (by omega) (by omega) dX0_dropPage_64 (fun H11 locs11 h11 ho11 hz11 hF => ?_)
        have hd : dvAt g d (up (tr1 F s q) (2 + 52 * s + 3) (((tr1 F s q) (2 + 52 * s + 3)) - 1)) H11 := hd.putc 3 s (by decide) h11 ho11
        refine r_goto (tgt := 78) C (by decide) dX0_dropPage_65 ?_
        refine r_iconst C dX0_dropPage_78 ?_
        exact r_iretH C rfl rfl (congrArg iI (pI_t (by exact hw)).symm) hF (by rw [if_pos hw]; unfold trF unback; rw [if_neg hbo, if_pos (by omega)]; exact hd) dX0_dropPage_79
    · have hbo : 0 < borr (tr1 F s q) s := Decidable.not_not.mp (fun h => c5 (gl_neg hSm1 hC1 (by omega) h))
      obtain ⟨hgm, hm5, hmp⟩ := gl_pos hSm1 hC1 (s := s) (by omega) hbo
      refine r_aload_n C rfl (lv_at hl 1 rfl) dX0_dropPage_31 ?_
      refine r_get C (ci := 0) (v := .ref (d + 5)) rfl uin0 hd.o 6 (by decide) q_87 rfl rfl dX0_dropPage_32 ?_
      refine r_iload_n C rfl (lv_at hl 2 rfl) dX0_dropPage_35 ?_
      refine r_aaldr (v := d + 6 + s) C hd.rl s (by omega) (by omega) (by omega) rfl dX0_dropPage_36 ?_
      refine r_iload_n C rfl (lv_at hl 0 rfl) dX0_dropPage_37 ?_
      rw [hgm]
      refine r_dup2 C rfl rfl dX0_dropPage_38 ?_
      refine r_iald (v := (tr1 F s q) (2 + 52 * s + (7 + (mostFrom (tr1 F s q) s)))) C (hd.l s (by omega)) (mostFrom (tr1 F s q) s) (by omega) (by omega) (by omega) rfl dX0_dropPage_39 ?_
      have b12 := hSm1.1 (2 + 52 * s + (7 + (mostFrom (tr1 F s q) s))) (by omega)
      refine r_iconst C dX0_dropPage_40 ?_
      refine r_isub C dX0_dropPage_41 ?_
      refine r_iast C (hd.l s (by omega)) hF (is_dvp (by omega)) (mostFrom (tr1 F s q) s) (by omega) (by omega) (by omega) dX0_dropPage_42 (fun H13 locs13 h13 ho13 hz13 hF => ?_)
      have hd : dvAt g d (up (tr1 F s q) (2 + 52 * s + (7 + (mostFrom (tr1 F s q) s))) (((tr1 F s q) (2 + 52 * s + (7 + (mostFrom (tr1 F s q) s)))) - 1)) H13 := hd.putl s (mostFrom (tr1 F s q) s) (by omega) (by omega) h13 ho13
      refine r_goto (tgt := 78) C (by decide) dX0_dropPage_43 ?_
      refine r_iconst C dX0_dropPage_78 ?_
      exact r_iretH C rfl rfl (congrArg iI (pI_t (by exact hw)).symm) hF (by rw [if_pos hw]; unfold trF unback; rw [if_pos hbo]; exact hd) dX0_dropPage_79
  · refine r_iconst C dX0_dropPage_9 ?_
    exact r_iretH C rfl rfl (congrArg iI (pI_f (by assumption)).symm) hF (by rw [if_neg c2]; exact hd) dX0_dropPage_10
set_option maxHeartbeats 4000000 in
theorem k_X0_copyRow (l : Launch) (g : Gt) (a b n : Nat) (f f1 : Nat → Int) (hn : n ≤ 60) (hab : a ≠ b) : CH l yX0_copyRow cX0_copyRow 2 none 1 26 g [.ref a, .ref b] (fun H => aAt g a n f H ∧ aAt g b n f1 H) (none) (fun q => q = b) (fun H => aAt g a n f H ∧ aAt g b n f H) := by
  refine ch_of "LentRoom$Device" (by decide) rfl (Nat.le_of_ble_eq_true rfl) ?_
  intro zp ze zs zm za zb zt zc ls C hP hF hl
  obtain ⟨ha, hb⟩ := hP
  have hl : lv_has ls 2 [(0, .ref a), (1, .ref b)] := hl
  refine r_aload_n C rfl (lv_at hl 0 rfl) dX0_copyRow_0 ?_
  refine r_iconst C dX0_copyRow_1 ?_
  refine r_aload_n C rfl (lv_at hl 1 rfl) dX0_copyRow_2 ?_
  refine r_iconst C dX0_copyRow_3 ?_
  refine r_aload_n C rfl (lv_at hl 0 rfl) dX0_copyRow_4 ?_
  refine r_alen C ha dX0_copyRow_5 ?_
  refine r_aload_n C rfl (lv_at hl 1 rfl) dX0_copyRow_6 ?_
  refine r_alen C hb dX0_copyRow_7 ?_
  refine r_min C hl.1 q_381 q_382 q_44 q_383 (by omega) (by omega) (by decide) (Nat.le_of_ble_eq_true rfl) (Nat.le_refl 0) (Nat.le_refl 0) dX0_copyRow_8 ?_
  rw [mn_self]
  refine r_copy C ha hb hF rfl (by omega) hl.1 q_384 q_386 q_385 q_45 (by decide) (Nat.le_of_ble_eq_true rfl) dX0_copyRow_11 (fun H1 locs1 h1 ho1 hz1 hF => ?_)
  have ha := ha.kept (ho1 _ (by omega))
  have hb := h1
  exact r_vretH C rfl hF (by exact ⟨ha, hb⟩) dX0_copyRow_14
set_option maxHeartbeats 4000000 in
theorem k_X0_become (l : Launch) (g : Gt) (d : Nat) (F : Nat → Int) (d2 : Nat) (F2 : Nat → Int) (hdis : d + 20 ≤ d2 ∨ d2 + 20 ≤ d) : CH l yX0_become cX0_become 3 none 2 47 g [.ref d, .ref d2] (fun H => dvAt g d F H ∧ dvAt g d2 F2 H) (none) (Dvp d) (fun H => dvAt g d F2 H ∧ dvAt g d2 F2 H) := by
  refine ch_of "LentRoom$Device" (by decide) rfl (Nat.le_of_ble_eq_true rfl) ?_
  intro zp ze zs zm za zb zt zc ls C hP hF hl
  obtain ⟨hd, hd2⟩ := hP
  have hl : lv_has ls 3 [(0, .ref d), (1, .ref d2)] := hl
  have cut95 : ∀ (N : Nat) (i : Nat) (v2 : Int), 5 - i < N → (i ≤ 5) → (v2 = (i : Int)) → ∀ (H : Heap) (locs : List Loc), dvAt g d (mx F F2 (9 + 2 * i)) H → dvAt g d2 F2 H → Fr (Dvp d) zs.heap H locs → ∀ ls : Array Slot, lv_has ls 3 [(0, .ref d), (1, .ref d2), (2, .int (iI v2))] → W zp l ze (rmc 2 47) zs zm za zb zt zc H locs 0 0 (MQ zb (HQ none (Dvp d) (fun H => dvAt g d F2 H ∧ dvAt g d2 F2 H)) za zs 0 0 (Dvp d)) (F0 zm 95 ls []) := by
    intro N
    induction N with
    | zero => intro i v2; exact fun hms => absurd hms (Nat.not_lt_zero _)
    | succ N ih =>
      intro i v2 hms hi hv2 H locs hd hd2 hF ls hl
      refine r_iload_n C rfl (lv_at hl 2 rfl) dX0_become_95 ?_
      refine r_iconst C dX0_become_96 ?_
      refine r_icmp_ge (tgt := 136) C (by decide) (by omega) (by decide) dX0_become_97 (fun c1 => ?_) (fun c1 => ?_)
      · exact r_vretH C rfl hF (by have hd : dvAt g d (mx F F2 19) H := (by rw [show 19 = 9 + 2 * i by omega]; exact hd); exact ⟨hd.mxe, hd2⟩) dX0_become_136
      · refine r_aload_n C rfl (lv_at hl 1 rfl) dX0_become_100 ?_
        refine r_get C (ci := 0) (v := .ref (d2 + 5)) rfl uin0 hd2.o 6 (by decide) q_87 rfl rfl dX0_become_101 ?_
        refine r_iload_n C rfl (lv_at hl 2 rfl) dX0_become_104 ?_
        refine r_aaldr (v := d2 + 6 + i) C hd2.rl i (by omega) (by omega) (by omega) rfl dX0_become_105 ?_
        refine r_aload_n C rfl (lv_at hl 0 rfl) dX0_become_106 ?_
        refine r_get C (ci := 0) (v := .ref (d + 5)) rfl uin0 hd.o 6 (by decide) q_87 rfl rfl dX0_become_107 ?_
        refine r_iload_n C rfl (lv_at hl 2 rfl) dX0_become_110 ?_
        refine r_aaldr (v := d + 6 + i) C hd.rl i (by omega) (by omega) (by omega) rfl dX0_become_111 ?_
        refine r_sHn (rest := []) C (k_X0_copyRow l g (d2 + 6 + i) (d + 6 + i) 5 (fun z => F2 (2 + 52 * i + (7 + z))) (fun z => (mx F F2 (9 + 2 * i)) (2 + 52 * i + (7 + z))) (by omega) (by omega)) s_RX0_48 ⟨(hd2.l i (by omega)), (hd.l i (by omega))⟩ hF (fun z hz => (is_dvp (by have hz : z = _ := hz; omega))) hl.1 rfl ⟨by decide, by decide⟩ rfl (Nat.le_of_ble_eq_true rfl) ⟨Nat.le_refl 0, Nat.le_refl 0⟩ dX0_become_112 (fun H2 locs2 h2 ho2 hz2 hF => ?_)
        have hd2 : dvAt g d2 F2 H2 := hd2.kept (fun q h1 h2 => ho2 _ (by show ¬ _ = _; omega))
        have hd : dvAt g d (mx F F2 (10 + 2 * i)) H2 := (by rw [show 10 + 2 * i = 9 + 2 * i + 1 by omega]; exact dvAt.mxl i (by omega) hd h2.2 (fun b hb => ho2 b hb))
        refine r_aload_n C rfl (lv_at hl 1 rfl) dX0_become_115 ?_
        refine r_get C (ci := 0) (v := .ref (d2 + 11)) rfl uin0 hd2.o 7 (by decide) q_89 rfl rfl dX0_become_116 ?_
        refine r_iload_n C rfl (lv_at hl 2 rfl) dX0_become_119 ?_
        refine r_aaldr (v := d2 + 12 + i) C hd2.rw i (by omega) (by omega) (by omega) rfl dX0_become_120 ?_
        refine r_aload_n C rfl (lv_at hl 0 rfl) dX0_become_121 ?_
        refine r_get C (ci := 0) (v := .ref (d + 11)) rfl uin0 hd.o 7 (by decide) q_89 rfl rfl dX0_become_122 ?_
        refine r_iload_n C rfl (lv_at hl 2 rfl) dX0_become_125 ?_
        refine r_aaldr (v := d + 12 + i) C hd.rw i (by omega) (by omega) (by omega) rfl dX0_become_126 ?_
        refine r_sHn (rest := []) C (k_X0_copyRow l g (d2 + 12 + i) (d + 12 + i) 40 (fun z => F2 (2 + 52 * i + (12 + z))) (fun z => (mx F F2 (10 + 2 * i)) (2 + 52 * i + (12 + z))) (by omega) (by omega)) s_RX0_48 ⟨(hd2.w i (by omega)), (hd.w i (by omega))⟩ hF (fun z hz => (is_dvp (by have hz : z = _ := hz; omega))) hl.1 rfl ⟨by decide, by decide⟩ rfl (Nat.le_of_ble_eq_true rfl) ⟨Nat.le_refl 0, Nat.le_refl 0⟩ dX0_become_127 (fun H3 locs3 h3 ho3 hz3 hF => ?_)
        have hd2 : dvAt g d2 F2 H3 := hd2.kept (fun q h1 h2 => ho3 _ (by show ¬ _ = _; omega))
        have hd : dvAt g d (mx F F2 (9 + 2 * (i + 1))) H3 := (by rw [show 9 + 2 * (i + 1) = 10 + 2 * i + 1 by omega]; exact dvAt.mxw i (by omega) hd h3.2 (fun b hb => ho3 b hb))
        refine r_iinc (lv' := [(2, .int (iI (v2 + 1))), (0, .ref d), (1, .ref d2)]) C hl (q := 2) rfl (by decide) rfl dX0_become_130 (fun ls hl => ?_)
        refine r_goto (tgt := 95) C (by decide) dX0_become_133 ?_
        exact ih (i + 1) (v2 + 1) (by omega) (by omega) (by omega) _ _ hd hd2 hF _ (lv_sub hl [1, 2, 0] rfl)
  refine r_aload_n C rfl (lv_at hl 0 rfl) dX0_become_0 ?_
  refine r_aload_n C rfl (lv_at hl 1 rfl) dX0_become_1 ?_
  refine r_get C (ci := 0) (v := .int (iI (F2 0))) rfl uin0 hd2.o 0 (by decide) q_78 rfl rfl dX0_become_2 ?_
  refine r_put C (ci := 0) rfl uin0 tyX0_ok nmX0 hd.o hF (is_dvp (by omega)) 0 (by decide) q_78 rfl rfl rfl rfl (by show 0 < 11; decide) dX0_become_5 (fun H4 locs4 h4 ho4 hz4 hF => ?_)
  have hd2 := hd2.kept (fun q h1 h2 => ho4 _ (by omega))
  have hd : dvAt g d (up F 0 (F2 0)) H4 := hd.put0 h4 ho4
  have hd := hd.mx0
  refine r_aload_n C rfl (lv_at hl 0 rfl) dX0_become_8 ?_
  refine r_aload_n C rfl (lv_at hl 1 rfl) dX0_become_9 ?_
  refine r_get C (ci := 0) (v := .int (iI (F2 1))) rfl uin0 hd2.o 1 (by decide) q_80 rfl rfl dX0_become_10 ?_
  refine r_put C (ci := 0) rfl uin0 tyX0_ok nmX0 hd.o hF (is_dvp (by omega)) 1 (by decide) q_80 rfl rfl rfl rfl (by show 1 < 11; decide) dX0_become_13 (fun H5 locs5 h5 ho5 hz5 hF => ?_)
  have hd2 := hd2.kept (fun q h1 h2 => ho5 _ (by omega))
  have hd : dvAt g d (up (mx F F2 1) 1 (F2 1)) H5 := hd.put1 h5 ho5
  have hd := hd.mx1
  refine r_aload_n C rfl (lv_at hl 1 rfl) dX0_become_16 ?_
  refine r_get C (ci := 0) (v := .ref (d2 + 1)) rfl uin0 hd2.o 2 (by decide) q_81 rfl rfl dX0_become_17 ?_
  refine r_aload_n C rfl (lv_at hl 0 rfl) dX0_become_20 ?_
  refine r_get C (ci := 0) (v := .ref (d + 1)) rfl uin0 hd.o 2 (by decide) q_81 rfl rfl dX0_become_21 ?_
  refine r_sHn (rest := []) C (k_X0_copyRow l g (d2 + 1) (d + 1) 5 (fun z => F2 (2 + 52 * z + 0)) (fun z => (mx F F2 2) (2 + 52 * z + 0)) (by omega) (by omega)) s_RX0_48 ⟨hd2.c0, hd.c0⟩ hF (fun z hz => (is_dvp (by have hz : z = _ := hz; omega))) hl.1 rfl ⟨by decide, by decide⟩ rfl (Nat.le_of_ble_eq_true rfl) ⟨Nat.le_refl 0, Nat.le_refl 0⟩ dX0_become_24 (fun H6 locs6 h6 ho6 hz6 hF => ?_)
  have hd2 : dvAt g d2 F2 H6 := hd2.kept (fun q h1 h2 => ho6 _ (by show ¬ _ = _; omega))
  have hd : dvAt g d (mx F F2 3) H6 := dvAt.mxc 0 (by decide) hd h6.2 (fun b hb => ho6 b hb)
  refine r_aload_n C rfl (lv_at hl 1 rfl) dX0_become_27 ?_
  refine r_get C (ci := 0) (v := .ref (d2 + 2)) rfl uin0 hd2.o 3 (by decide) q_83 rfl rfl dX0_become_28 ?_
  refine r_aload_n C rfl (lv_at hl 0 rfl) dX0_become_31 ?_
  refine r_get C (ci := 0) (v := .ref (d + 2)) rfl uin0 hd.o 3 (by decide) q_83 rfl rfl dX0_become_32 ?_
  refine r_sHn (rest := []) C (k_X0_copyRow l g (d2 + 2) (d + 2) 5 (fun z => F2 (2 + 52 * z + 1)) (fun z => (mx F F2 3) (2 + 52 * z + 1)) (by omega) (by omega)) s_RX0_48 ⟨hd2.c1, hd.c1⟩ hF (fun z hz => (is_dvp (by have hz : z = _ := hz; omega))) hl.1 rfl ⟨by decide, by decide⟩ rfl (Nat.le_of_ble_eq_true rfl) ⟨Nat.le_refl 0, Nat.le_refl 0⟩ dX0_become_35 (fun H7 locs7 h7 ho7 hz7 hF => ?_)
  have hd2 : dvAt g d2 F2 H7 := hd2.kept (fun q h1 h2 => ho7 _ (by show ¬ _ = _; omega))
  have hd : dvAt g d (mx F F2 4) H7 := dvAt.mxc 1 (by decide) hd h7.2 (fun b hb => ho7 b hb)
  refine r_aload_n C rfl (lv_at hl 1 rfl) dX0_become_38 ?_
  refine r_get C (ci := 0) (v := .ref (d2 + 3)) rfl uin0 hd2.o 4 (by decide) q_85 rfl rfl dX0_become_39 ?_
  refine r_aload_n C rfl (lv_at hl 0 rfl) dX0_become_42 ?_
  refine r_get C (ci := 0) (v := .ref (d + 3)) rfl uin0 hd.o 4 (by decide) q_85 rfl rfl dX0_become_43 ?_
  refine r_sHn (rest := []) C (k_X0_copyRow l g (d2 + 3) (d + 3) 5 (fun z => F2 (2 + 52 * z + 2)) (fun z => (mx F F2 4) (2 + 52 * z + 2)) (by omega) (by omega)) s_RX0_48 ⟨hd2.c2, hd.c2⟩ hF (fun z hz => (is_dvp (by have hz : z = _ := hz; omega))) hl.1 rfl ⟨by decide, by decide⟩ rfl (Nat.le_of_ble_eq_true rfl) ⟨Nat.le_refl 0, Nat.le_refl 0⟩ dX0_become_46 (fun H8 locs8 h8 ho8 hz8 hF => ?_)
  have hd2 : dvAt g d2 F2 H8 := hd2.kept (fun q h1 h2 => ho8 _ (by show ¬ _ = _; omega))
  have hd : dvAt g d (mx F F2 5) H8 := dvAt.mxc 2 (by decide) hd h8.2 (fun b hb => ho8 b hb)
  refine r_aload_n C rfl (lv_at hl 1 rfl) dX0_become_49 ?_
  refine r_get C (ci := 0) (v := .ref (d2 + 4)) rfl uin0 hd2.o 5 (by decide) q_86 rfl rfl dX0_become_50 ?_
  refine r_aload_n C rfl (lv_at hl 0 rfl) dX0_become_53 ?_
  refine r_get C (ci := 0) (v := .ref (d + 4)) rfl uin0 hd.o 5 (by decide) q_86 rfl rfl dX0_become_54 ?_
  refine r_sHn (rest := []) C (k_X0_copyRow l g (d2 + 4) (d + 4) 5 (fun z => F2 (2 + 52 * z + 3)) (fun z => (mx F F2 5) (2 + 52 * z + 3)) (by omega) (by omega)) s_RX0_48 ⟨hd2.c3, hd.c3⟩ hF (fun z hz => (is_dvp (by have hz : z = _ := hz; omega))) hl.1 rfl ⟨by decide, by decide⟩ rfl (Nat.le_of_ble_eq_true rfl) ⟨Nat.le_refl 0, Nat.le_refl 0⟩ dX0_become_57 (fun H9 locs9 h9 ho9 hz9 hF => ?_)
  have hd2 : dvAt g d2 F2 H9 := hd2.kept (fun q h1 h2 => ho9 _ (by show ¬ _ = _; omega))
  have hd : dvAt g d (mx F F2 6) H9 := dvAt.mxc 3 (by decide) hd h9.2 (fun b hb => ho9 b hb)
  refine r_aload_n C rfl (lv_at hl 1 rfl) dX0_become_60 ?_
  refine r_get C (ci := 0) (v := .ref (d2 + 17)) rfl uin0 hd2.o 8 (by decide) q_91 rfl rfl dX0_become_61 ?_
  refine r_aload_n C rfl (lv_at hl 0 rfl) dX0_become_64 ?_
  refine r_get C (ci := 0) (v := .ref (d + 17)) rfl uin0 hd.o 8 (by decide) q_91 rfl rfl dX0_become_65 ?_
  refine r_sHn (rest := []) C (k_X0_copyRow l g (d2 + 17) (d + 17) 5 (fun z => F2 (2 + 52 * z + 4)) (fun z => (mx F F2 6) (2 + 52 * z + 4)) (by omega) (by omega)) s_RX0_48 ⟨hd2.c4, hd.c4⟩ hF (fun z hz => (is_dvp (by have hz : z = _ := hz; omega))) hl.1 rfl ⟨by decide, by decide⟩ rfl (Nat.le_of_ble_eq_true rfl) ⟨Nat.le_refl 0, Nat.le_refl 0⟩ dX0_become_68 (fun H10 locs10 h10 ho10 hz10 hF => ?_)
  have hd2 : dvAt g d2 F2 H10 := hd2.kept (fun q h1 h2 => ho10 _ (by show ¬ _ = _; omega))
  have hd : dvAt g d (mx F F2 7) H10 := dvAt.mxc 4 (by decide) hd h10.2 (fun b hb => ho10 b hb)
  refine r_aload_n C rfl (lv_at hl 1 rfl) dX0_become_71 ?_
  refine r_get C (ci := 0) (v := .ref (d2 + 18)) rfl uin0 hd2.o 9 (by decide) q_92 rfl rfl dX0_become_72 ?_
  refine r_aload_n C rfl (lv_at hl 0 rfl) dX0_become_75 ?_
  refine r_get C (ci := 0) (v := .ref (d + 18)) rfl uin0 hd.o 9 (by decide) q_92 rfl rfl dX0_become_76 ?_
  refine r_sHn (rest := []) C (k_X0_copyRow l g (d2 + 18) (d + 18) 5 (fun z => F2 (2 + 52 * z + 5)) (fun z => (mx F F2 7) (2 + 52 * z + 5)) (by omega) (by omega)) s_RX0_48 ⟨hd2.c5, hd.c5⟩ hF (fun z hz => (is_dvp (by have hz : z = _ := hz; omega))) hl.1 rfl ⟨by decide, by decide⟩ rfl (Nat.le_of_ble_eq_true rfl) ⟨Nat.le_refl 0, Nat.le_refl 0⟩ dX0_become_79 (fun H11 locs11 h11 ho11 hz11 hF => ?_)
  have hd2 : dvAt g d2 F2 H11 := hd2.kept (fun q h1 h2 => ho11 _ (by show ¬ _ = _; omega))
  have hd : dvAt g d (mx F F2 8) H11 := dvAt.mxc 5 (by decide) hd h11.2 (fun b hb => ho11 b hb)
  refine r_aload_n C rfl (lv_at hl 1 rfl) dX0_become_82 ?_
  refine r_get C (ci := 0) (v := .ref (d2 + 19)) rfl uin0 hd2.o 10 (by decide) q_93 rfl rfl dX0_become_83 ?_
  refine r_aload_n C rfl (lv_at hl 0 rfl) dX0_become_86 ?_
  refine r_get C (ci := 0) (v := .ref (d + 19)) rfl uin0 hd.o 10 (by decide) q_93 rfl rfl dX0_become_87 ?_
  refine r_sHn (rest := []) C (k_X0_copyRow l g (d2 + 19) (d + 19) 5 (fun z => F2 (2 + 52 * z + 6)) (fun z => (mx F F2 8) (2 + 52 * z + 6)) (by omega) (by omega)) s_RX0_48 ⟨hd2.c6, hd.c6⟩ hF (fun z hz => (is_dvp (by have hz : z = _ := hz; omega))) hl.1 rfl ⟨by decide, by decide⟩ rfl (Nat.le_of_ble_eq_true rfl) ⟨Nat.le_refl 0, Nat.le_refl 0⟩ dX0_become_90 (fun H12 locs12 h12 ho12 hz12 hF => ?_)
  have hd2 : dvAt g d2 F2 H12 := hd2.kept (fun q h1 h2 => ho12 _ (by show ¬ _ = _; omega))
  have hd : dvAt g d (mx F F2 9) H12 := dvAt.mxc 6 (by decide) hd h12.2 (fun b hb => ho12 b hb)
  refine r_iconst C dX0_become_93 ?_
  refine r_istore_n (lv' := [(2, .int (iI 0)), (0, .ref d), (1, .ref d2)]) C rfl hl (by decide) rfl dX0_become_94 (fun ls hl => ?_)
  exact cut95 _ 0 0 (Nat.lt_succ_self _) (by omega) (by omega) _ _ hd hd2 hF _ (lv_sub hl [1, 2, 0] rfl)

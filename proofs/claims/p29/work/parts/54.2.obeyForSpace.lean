theorem s_RX3_187 : SiteV "LentRoom" 187 "LentRoom$Device" yX0_changeCeiling cX0_changeCeiling 3 (some .boolean) 2 := ⟨⟨q_645, q_646, q_647, q_32, q_648⟩, rfl, by decide, by decide, by decide +kernel⟩
theorem s_RX3_165 : SiteV "LentRoom" 165 "LentRoom$Device" yX0_pagesOf cX0_pagesOf 2 (some .int) 1 := ⟨⟨q_622, q_438, q_439, q_32, q_440⟩, rfl, by decide, by decide, by decide +kernel⟩
theorem s_RX3_199 : SiteV "LentRoom" 199 "LentRoom" yX3_growGuess cX3_growGuess 5 (some .int) 3 := ⟨⟨q_680, q_682, q_11, q_30, q_683⟩, rfl, by decide, by decide, by decide +kernel⟩
set_option maxHeartbeats 4000000 in
theorem k_X3_obeyForSpace (l : Launch) (g : Gt) (b : Nat) (F : Nat → Int) (T : Int) (hJ : J F z0 T) (h60 : 60 ≤ T) (hT : T ≤ 950000) (k x v : Int) (hk : (0 ≤ k ∧ k ≤ 9) ∧ k ≠ 5 ∧ k ≠ 8 ∧ k ≠ 9) (hx : 0 ≤ x ∧ x < F 0) (hv : 0 ≤ v ∧ v ≤ 99) : CH l yX3_obeyForSpace cX3_obeyForSpace 5 (some .boolean) 5 118 g [.ref b, .int (iI k), .int (iI x), .int (iI v)] (cdC g b F) (some (.int (iI (pI (coD k x 0 v F))))) (fun q => Dvp (b + 327) q ∨ Dvp (b + 347) q) (cdC g b (coF k x 0 v F)) := by
  refine ch_of "LentRoom" (by decide) rfl (Nat.le_of_ble_eq_true rfl) ?_
  intro zp ze zs zm za zb zt zc ls C hP hF hl
  obtain ⟨hb, htr, GU, hgu⟩ := hP
  have hl : lv_has ls 5 [(0, .ref b), (1, .int (iI k)), (2, .int (iI x)), (3, .int (iI v))] := hl
  have hS := hJ.S
  have hSm : Sm F := hS.m (by omega)
  have hZ := hJ.Z
  have hn5 := hJ.n
  have hC := hJ.C
  have hG := hJ.G
  have hPgA : ∀ s : Nat, (s : Int) < F 0 → Pg F s := fun s _ => hJ.Pg (fun _ _ _ => rfl)
  refine r_iload_n C rfl (lv_at hl 1 rfl) dX3_obeyForSpace_0 ?_
  by_cases e1 : k = 1
  · refine r_tsIn (tgt := 44) C (by omega) 1 e1 (by decide) (by decide) rfl (by decide) dX3_obeyForSpace_1 ?_
    refine r_aload_n C rfl (lv_at hl 0 rfl) dX3_obeyForSpace_44 ?_
    refine r_get C (ci := 3) (v := .ref (b + 327)) rfl uin3 hb.o 6 (by decide) q_143 rfl rfl dX3_obeyForSpace_45 ?_
    refine r_iload_n C rfl (lv_at hl 2 rfl) dX3_obeyForSpace_48 ?_
    refine r_iload_n C rfl (lv_at hl 3 rfl) dX3_obeyForSpace_49 ?_
    refine r_vHi (rest := []) C (k_X0_putPage l g (b + 327) F T hS (by omega) hZ hG hPgA x v x.toNat v.toNat (by omega) (by omega) (by omega) (by omega)) s_RX3_105 htr hF (fun _ h => Or.inl h) (recv C (ci := 0) rfl htr.o) hl.1 rfl ⟨by decide, by decide⟩ rfl (Nat.le_of_ble_eq_true rfl) ⟨Nat.le_refl 0, Nat.le_refl 0⟩ dX3_obeyForSpace_50 (fun H2 locs2 h2 ho2 hz2 hF => ?_)
    have hb := hb.kept (ho2 _ (not_dvp (by omega)))
    have hgu := hgu.kept (fun q h1 h2 => ho2 _ (not_dvp (by omega)))
    have htr := h2
    have hpr := wr_n1 (F := F) (s := x.toNat) (q := v.toNat) (P := 0 ≤ x ∧ x < F 0 ∧ 0 ≤ v ∧ v < 40)
    refine r_istore (lv' := [(4, .int (iI (if 0 ≤ x ∧ x < F 0 ∧ 0 ≤ v ∧ v < 40 then wrR F x.toNat v.toNat else -1))), (0, .ref b), (1, .int (iI k)), (2, .int (iI x)), (3, .int (iI v))]) C hl (by decide) rfl dX3_obeyForSpace_53 (fun ls hl => ?_)
    refine r_iload C (lv_at hl 0 rfl) dX3_obeyForSpace_55 ?_
    refine r_iconst C dX3_obeyForSpace_57 ?_
    refine r_icmp_eq (tgt := 71) C (by decide) (by omega) (by decide) dX3_obeyForSpace_58 (fun c3 => ?_) (fun c3 => ?_)
    · refine r_iconst C dX3_obeyForSpace_71 ?_
      have eF : coF k x 0 v F = if 0 ≤ x ∧ x < F 0 ∧ 0 ≤ v ∧ v < 40 then wrF F x.toNat v.toNat else F := (by unfold coF; rw [if_pos (by omega)]; exact ite_c (by omega))
      exact r_iretH C rfl rfl (congrArg iI (pI_f (by have hw := hpr.1.mp c3; unfold coD; omega)).symm) hF (by rw [eF]; exact ⟨hb, htr, _, hgu⟩) dX3_obeyForSpace_72
    · refine r_iload C (lv_at hl 0 rfl) dX3_obeyForSpace_61 ?_
      refine r_iconst C dX3_obeyForSpace_63 ?_
      refine r_icmp_eq (tgt := 71) C (by decide) (by omega) (by decide) dX3_obeyForSpace_64 (fun c4 => ?_) (fun c4 => ?_)
      · refine r_iconst C dX3_obeyForSpace_71 ?_
        have eF : coF k x 0 v F = if 0 ≤ x ∧ x < F 0 ∧ 0 ≤ v ∧ v < 40 then wrF F x.toNat v.toNat else F := (by unfold coF; rw [if_pos (by omega)]; exact ite_c (by omega))
        exact r_iretH C rfl rfl (congrArg iI (pI_f (by have hw := hpr.2.1.mp c4; unfold coD; omega)).symm) hF (by rw [eF]; exact ⟨hb, htr, _, hgu⟩) dX3_obeyForSpace_72
      · refine r_iconst C dX3_obeyForSpace_67 ?_
        refine r_goto (tgt := 72) C (by decide) dX3_obeyForSpace_68 ?_
        have eF : coF k x 0 v F = if 0 ≤ x ∧ x < F 0 ∧ 0 ≤ v ∧ v < 40 then wrF F x.toNat v.toNat else F := (by unfold coF; rw [if_pos (by omega)]; exact ite_c (by omega))
        exact r_iretH C rfl rfl (congrArg iI (pI_t (by have hw := Decidable.not_not.mp (fun z => absurd (hpr.1.mpr z) c3); have hw5 : ¬ wrR F x.toNat v.toNat = 5 := (fun z => absurd (hpr.2.1.mpr ⟨hw, z⟩) c4); have hwb := wrR_b F x.toNat v.toNat; have hw6 : wrR F x.toNat v.toNat < 5 := Decidable.byContradiction (fun z => hw5 (by omega)); unfold coD; omega)).symm) hF (by rw [eF]; exact ⟨hb, htr, _, hgu⟩) dX3_obeyForSpace_72
  by_cases e5 : k = 2
  · refine r_tsIn (tgt := 73) C (by omega) 2 e5 (by decide) (by decide) rfl (by decide) dX3_obeyForSpace_1 ?_
    refine r_aload_n C rfl (lv_at hl 0 rfl) dX3_obeyForSpace_73 ?_
    refine r_get C (ci := 3) (v := .ref (b + 327)) rfl uin3 hb.o 6 (by decide) q_143 rfl rfl dX3_obeyForSpace_74 ?_
    refine r_iload_n C rfl (lv_at hl 2 rfl) dX3_obeyForSpace_77 ?_
    refine r_iload_n C rfl (lv_at hl 3 rfl) dX3_obeyForSpace_78 ?_
    refine r_vHi (rest := []) C (k_X0_dropPage l g (b + 327) F T hS (by omega) hC x v x.toNat v.toNat (by omega) (by omega) (by omega) (by omega)) s_RX3_108 htr hF (fun _ h => Or.inl h) (recv C (ci := 0) rfl htr.o) hl.1 rfl ⟨by decide, by decide⟩ rfl (Nat.le_of_ble_eq_true rfl) ⟨Nat.le_refl 0, Nat.le_refl 0⟩ dX3_obeyForSpace_79 (fun H6 locs6 h6 ho6 hz6 hF => ?_)
    have hb := hb.kept (ho6 _ (not_dvp (by omega)))
    have hgu := hgu.kept (fun q h1 h2 => ho6 _ (not_dvp (by omega)))
    have htr := h6
    have eF : coF k x 0 v F = if 0 ≤ x ∧ x < F 0 ∧ 0 ≤ v ∧ v < 40 ∧ 0 < F (2 + 52 * x.toNat + (12 + v.toNat)) then trF F x.toNat v.toNat else F := (by unfold coF; rw [if_neg (show ¬ k = 1 by omega), if_pos (by omega)]; exact ite_c (by omega))
    exact r_iretH C rfl (nar_pI _) (congrArg iI (pI_c (by unfold coD; omega))) hF (by rw [eF]; exact ⟨hb, htr, _, hgu⟩) dX3_obeyForSpace_82
  by_cases e7 : k = 3
  · refine r_tsIn (tgt := 83) C (by omega) 3 e7 (by decide) (by decide) rfl (by decide) dX3_obeyForSpace_1 ?_
    refine r_aload_n C rfl (lv_at hl 0 rfl) dX3_obeyForSpace_83 ?_
    refine r_get C (ci := 3) (v := .ref (b + 327)) rfl uin3 hb.o 6 (by decide) q_143 rfl rfl dX3_obeyForSpace_84 ?_
    refine r_iload_n C rfl (lv_at hl 2 rfl) dX3_obeyForSpace_87 ?_
    refine r_iload_n C rfl (lv_at hl 3 rfl) dX3_obeyForSpace_88 ?_
    refine r_vHi (rest := []) C (k_X0_changeFloor l g (b + 327) F T hS (by omega) x v x.toNat (by omega) (by omega) (by omega)) s_RX3_112 htr hF (fun _ h => Or.inl h) (recv C (ci := 0) rfl htr.o) hl.1 rfl ⟨by decide, by decide⟩ rfl (Nat.le_of_ble_eq_true rfl) ⟨Nat.le_refl 0, Nat.le_refl 0⟩ dX3_obeyForSpace_89 (fun H8 locs8 h8 ho8 hz8 hF => ?_)
    have hb := hb.kept (ho8 _ (not_dvp (by omega)))
    have hgu := hgu.kept (fun q h1 h2 => ho8 _ (not_dvp (by omega)))
    have htr := h8
    have eF : coF k x 0 v F = if (0 ≤ x ∧ x < F 0) ∧ okFl F x.toNat v then up F (2 + 52 * x.toNat + 0) v else F := (by unfold coF; rw [if_neg (show ¬ k = 1 by omega), if_neg (show ¬ k = 2 by omega), if_pos (by omega)]; exact ite_c ((and_iff_right rfl).trans (fl_iffJ hJ (by omega) (by omega))))
    exact r_iretH C rfl (nar_pI _) (congrArg iI (pI_c (by exact (fl_iffJ hJ (by omega) (by omega)).symm.trans (by unfold coD; omega)))) hF (by rw [eF]; exact ⟨hb, htr, _, hgu⟩) dX3_obeyForSpace_92
  by_cases e9 : k = 4
  · refine r_tsIn (tgt := 93) C (by omega) 4 e9 (by decide) (by decide) rfl (by decide) dX3_obeyForSpace_1 ?_
    refine r_aload_n C rfl (lv_at hl 0 rfl) dX3_obeyForSpace_93 ?_
    refine r_get C (ci := 3) (v := .ref (b + 327)) rfl uin3 hb.o 6 (by decide) q_143 rfl rfl dX3_obeyForSpace_94 ?_
    refine r_iload_n C rfl (lv_at hl 2 rfl) dX3_obeyForSpace_97 ?_
    refine r_iload_n C rfl (lv_at hl 3 rfl) dX3_obeyForSpace_98 ?_
    refine r_vHi (rest := []) C (k_X0_changeCeiling l g (b + 327) F T hS (by omega) x v x.toNat (by omega) (by omega) (by omega)) s_RX3_187 htr hF (fun _ h => Or.inl h) (recv C (ci := 0) rfl htr.o) hl.1 rfl ⟨by decide, by decide⟩ rfl (Nat.le_of_ble_eq_true rfl) ⟨Nat.le_refl 0, Nat.le_refl 0⟩ dX3_obeyForSpace_99 (fun H10 locs10 h10 ho10 hz10 hF => ?_)
    have hb := hb.kept (ho10 _ (not_dvp (by omega)))
    have hgu := hgu.kept (fun q h1 h2 => ho10 _ (not_dvp (by omega)))
    have htr := h10
    have eF : coF k x 0 v F = if (0 ≤ x ∧ x < F 0) ∧ okCe F x.toNat v then up F (2 + 52 * x.toNat + 1) v else F := (by unfold coF; rw [if_neg (show ¬ k = 1 by omega), if_neg (show ¬ k = 2 by omega), if_neg (show ¬ k = 3 by omega), if_pos (by omega)]; exact ite_c ((and_iff_right rfl).trans ce_iff))
    exact r_iretH C rfl (nar_pI _) (congrArg iI (pI_c (by exact ce_iff.symm.trans (by unfold coD; omega)))) hF (by rw [eF]; exact ⟨hb, htr, _, hgu⟩) dX3_obeyForSpace_102
  by_cases e11 : k = 5
  · refine r_tsIn (tgt := 142) C (by omega) 5 e11 (by decide) (by decide) rfl (by decide) dX3_obeyForSpace_1 ?_
    refine r_iconst C dX3_obeyForSpace_142 ?_
    have eF : coF k x 0 v F = F := (by unfold coF; rw [if_neg (show ¬ k = 1 by omega), if_neg (show ¬ k = 2 by omega), if_neg (show ¬ k = 3 by omega), if_neg (show ¬ k = 4 by omega), if_neg (show ¬ k = 5 by omega)])
    exact r_iretH C rfl rfl (congrArg iI (pI_f (by unfold coD; omega)).symm) hF (by rw [eF]; exact ⟨hb, htr, _, hgu⟩) dX3_obeyForSpace_143
  by_cases e12 : k = 6
  · refine r_tsIn (tgt := 103) C (by omega) 6 e12 (by decide) (by decide) rfl (by decide) dX3_obeyForSpace_1 ?_
    refine r_aload_n C rfl (lv_at hl 0 rfl) dX3_obeyForSpace_103 ?_
    refine r_get C (ci := 3) (v := .ref (b + 327)) rfl uin3 hb.o 6 (by decide) q_143 rfl rfl dX3_obeyForSpace_104 ?_
    refine r_iload_n C rfl (lv_at hl 2 rfl) dX3_obeyForSpace_107 ?_
    refine r_vPi (rest := []) C (k_X0_pagesOf l g (b + 327) F hSm x x.toNat (by omega) (by omega)) s_RX3_165 htr (recv C (ci := 0) rfl htr.o) hl.1 rfl ⟨by decide, by decide⟩ rfl (Nat.le_of_ble_eq_true rfl) ⟨Nat.le_refl 0, Nat.le_refl 0⟩ dX3_obeyForSpace_108 ?_
    have b13 := tk_b hSm x.toNat (by omega)
    refine r_iload_n C rfl (lv_at hl 3 rfl) dX3_obeyForSpace_111 ?_
    refine r_icmp_lt (tgt := 119) C (by decide) (by omega) (by omega) dX3_obeyForSpace_112 (fun c14 => ?_) (fun c14 => ?_)
    · refine r_iconst C dX3_obeyForSpace_119 ?_
      have eF : coF k x 0 v F = F := (by unfold coF; rw [if_neg (show ¬ k = 1 by omega), if_neg (show ¬ k = 2 by omega), if_neg (show ¬ k = 3 by omega), if_neg (show ¬ k = 4 by omega), if_neg (show ¬ k = 5 by omega)])
      exact r_iretH C rfl rfl (congrArg iI (pI_f (by unfold coD; omega)).symm) hF (by rw [eF]; exact ⟨hb, htr, _, hgu⟩) dX3_obeyForSpace_120
    · refine r_iconst C dX3_obeyForSpace_115 ?_
      refine r_goto (tgt := 120) C (by decide) dX3_obeyForSpace_116 ?_
      have eF : coF k x 0 v F = F := (by unfold coF; rw [if_neg (show ¬ k = 1 by omega), if_neg (show ¬ k = 2 by omega), if_neg (show ¬ k = 3 by omega), if_neg (show ¬ k = 4 by omega), if_neg (show ¬ k = 5 by omega)])
      exact r_iretH C rfl rfl (congrArg iI (pI_t (by unfold coD; omega)).symm) hF (by rw [eF]; exact ⟨hb, htr, _, hgu⟩) dX3_obeyForSpace_120
  by_cases e15 : k = 7
  · refine r_tsIn (tgt := 121) C (by omega) 7 e15 (by decide) (by decide) rfl (by decide) dX3_obeyForSpace_1 ?_
    refine r_aload_n C rfl (lv_at hl 0 rfl) dX3_obeyForSpace_121 ?_
    refine r_aload_n C rfl (lv_at hl 0 rfl) dX3_obeyForSpace_122 ?_
    refine r_get C (ci := 3) (v := .ref (b + 327)) rfl uin3 hb.o 6 (by decide) q_143 rfl rfl dX3_obeyForSpace_123 ?_
    refine r_iload_n C rfl (lv_at hl 2 rfl) dX3_obeyForSpace_126 ?_
    refine r_bipush C (by decide) dX3_obeyForSpace_127 ?_
    refine r_vHi (rest := []) C (k_X3_growGuess l g b (b + 327) F GU T (by omega) hJ (by omega) x x.toNat (by omega) (by omega) (by omega) 60 60 (by omega) (by omega)) s_RX3_199 ⟨hb, htr, hgu⟩ hF (fun _ h => Or.inr h) (recv C (ci := 3) rfl hb.o) hl.1 rfl ⟨by decide, by decide⟩ rfl (Nat.le_of_ble_eq_true rfl) ⟨Nat.le_refl 0, Nat.le_refl 0⟩ dX3_obeyForSpace_129 (fun H16 locs16 h16 ho16 hz16 hF => ?_)
    obtain ⟨hb, htr, hgu⟩ := h16
    have hgb := gN_b F x.toNat 60 0
    refine r_iload_n C rfl (lv_at hl 3 rfl) dX3_obeyForSpace_132 ?_
    refine r_icmp_lt (tgt := 140) C (by decide) (by omega) (by omega) dX3_obeyForSpace_133 (fun c17 => ?_) (fun c17 => ?_)
    · refine r_iconst C dX3_obeyForSpace_140 ?_
      have eF : coF k x 0 v F = F := (by unfold coF; rw [if_neg (show ¬ k = 1 by omega), if_neg (show ¬ k = 2 by omega), if_neg (show ¬ k = 3 by omega), if_neg (show ¬ k = 4 by omega), if_neg (show ¬ k = 5 by omega)])
      exact r_iretH C rfl rfl (congrArg iI (pI_f (by have h61 := gN_61 hJ (s := x.toNat) (by omega) (by omega) (by omega); unfold coD; omega)).symm) hF (by rw [eF]; exact ⟨hb, htr, _, hgu⟩) dX3_obeyForSpace_141
    · refine r_iconst C dX3_obeyForSpace_136 ?_
      refine r_goto (tgt := 141) C (by decide) dX3_obeyForSpace_137 ?_
      have eF : coF k x 0 v F = F := (by unfold coF; rw [if_neg (show ¬ k = 1 by omega), if_neg (show ¬ k = 2 by omega), if_neg (show ¬ k = 3 by omega), if_neg (show ¬ k = 4 by omega), if_neg (show ¬ k = 5 by omega)])
      exact r_iretH C rfl rfl (congrArg iI (pI_t (by have h61 := gN_61 hJ (s := x.toNat) (by omega) (by omega) (by omega); unfold coD; omega)).symm) hF (by rw [eF]; exact ⟨hb, htr, _, hgu⟩) dX3_obeyForSpace_141
  refine r_tsOut (tgt := 142) C (by omega) (by omega) (by decide) dX3_obeyForSpace_1 ?_
  refine r_iconst C dX3_obeyForSpace_142 ?_
  have eF : coF k x 0 v F = F := (by unfold coF; rw [if_neg (show ¬ k = 1 by omega), if_neg (show ¬ k = 2 by omega), if_neg (show ¬ k = 3 by omega), if_neg (show ¬ k = 4 by omega), if_neg (show ¬ k = 5 by omega)])
  exact r_iretH C rfl rfl (congrArg iI (pI_f (by unfold coD; omega)).symm) hF (by rw [eF]; exact ⟨hb, htr, _, hgu⟩) dX3_obeyForSpace_143

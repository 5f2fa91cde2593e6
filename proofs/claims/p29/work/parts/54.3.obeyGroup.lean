theorem s_RX3_239 : SiteV "LentRoom" 239 "LentRoom$Device" yX0_hasSpace cX0_hasSpace 2 (some .boolean) 1 := ⟨⟨q_529, q_426, q_427, q_32, q_428⟩, rfl, by decide, by decide, by decide +kernel⟩
theorem s_RX3_242 : SiteV "LentRoom" 242 "LentRoom" yX3_obeyForSpace cX3_obeyForSpace 5 (some .boolean) 3 := ⟨⟨q_738, q_740, q_13, q_30, q_741⟩, rfl, by decide, by decide, by decide +kernel⟩
theorem s_RX3_205 : SiteV "LentRoom" 205 "LentRoom$Device" yX0_lostByAll cX0_lostByAll 1 (some .int) 0 := ⟨⟨q_693, q_514, q_515, q_32, q_516⟩, rfl, by decide, by decide, by decide +kernel⟩
set_option maxHeartbeats 4000000 in
theorem k_X3_obeyGroup (l : Launch) (g : Gt) (b : Nat) (F : Nat → Int) (T : Int) (hJ : J F z0 T) (h60 : 60 ≤ T) (hT : T ≤ 950000) (q : Int) (hq : 0 ≤ q ∧ q < 100000) : CH l yX3_obeyGroup cX3_obeyGroup 6 (some .boolean) 6 142 g [.ref b, .int (iI q)] (cdC g b F) (some (.int (iI (coV (q / 10000) (q / 1000 % 10) (q / 100 % 10) (q % 100) F)))) (fun q => Dvp (b + 327) q ∨ Dvp (b + 347) q) (cdC g b (coF (q / 10000) (q / 1000 % 10) (q / 100 % 10) (q % 100) F)) := by
  refine ch_of "LentRoom" (by decide) rfl (Nat.le_of_ble_eq_true rfl) ?_
  intro zp ze zs zm za zb zt zc ls C hP hF hl
  obtain ⟨hb, htr, GU, hgu⟩ := hP
  have hl : lv_has ls 6 [(0, .ref b), (1, .int (iI q))] := hl
  have hS := hJ.S
  have hSm : Sm F := hS.m (by omega)
  have hZ := hJ.Z
  have hn5 := hJ.n
  have hC := hJ.C
  have hG := hJ.G
  have hPgA : ∀ s : Nat, (s : Int) < F 0 → Pg F s := fun s _ => hJ.Pg (fun _ _ _ => rfl)
  refine r_iload_n C rfl (lv_at hl 1 rfl) dX3_obeyGroup_0 ?_
  refine r_sipush C (by decide) dX3_obeyGroup_1 ?_
  refine r_idiv C (by omega) (by omega) dX3_obeyGroup_4 ?_
  refine r_istore_n (lv' := [(2, .int (iI (q / 10000))), (0, .ref b), (1, .int (iI q))]) C rfl hl (by decide) rfl dX3_obeyGroup_5 (fun ls hl => ?_)
  refine r_iload_n C rfl (lv_at hl 2 rfl) dX3_obeyGroup_6 ?_
  refine r_sipush C (by decide) dX3_obeyGroup_7 ?_
  refine r_idiv C (by omega) (by omega) dX3_obeyGroup_10 ?_
  refine r_bipush C (by decide) dX3_obeyGroup_11 ?_
  refine r_irem C (by omega) (by omega) dX3_obeyGroup_13 ?_
  refine r_istore_n (lv' := [(3, .int (iI ((q / 1000) % 10))), (2, .int (iI (q / 10000))), (0, .ref b), (1, .int (iI q))]) C rfl hl (by decide) rfl dX3_obeyGroup_14 (fun ls hl => ?_)
  refine r_iload_n C rfl (lv_at hl 3 rfl) dX3_obeyGroup_15 ?_
  refine r_bipush C (by decide) dX3_obeyGroup_16 ?_
  refine r_idiv C (by omega) (by omega) dX3_obeyGroup_18 ?_
  refine r_bipush C (by decide) dX3_obeyGroup_19 ?_
  refine r_irem C (by omega) (by omega) dX3_obeyGroup_21 ?_
  refine r_istore (lv' := [(4, .int (iI ((q / 100) % 10))), (3, .int (iI ((q / 1000) % 10))), (2, .int (iI (q / 10000))), (0, .ref b), (1, .int (iI q))]) C hl (by decide) rfl dX3_obeyGroup_22 (fun ls hl => ?_)
  refine r_iload_n C rfl (lv_at hl 4 rfl) dX3_obeyGroup_24 ?_
  refine r_bipush C (by decide) dX3_obeyGroup_25 ?_
  refine r_irem C (by omega) (by omega) dX3_obeyGroup_27 ?_
  refine r_istore (lv' := [(5, .int (iI (q % 100))), (4, .int (iI ((q / 100) % 10))), (3, .int (iI ((q / 1000) % 10))), (2, .int (iI (q / 10000))), (0, .ref b), (1, .int (iI q))]) C hl (by decide) rfl dX3_obeyGroup_28 (fun ls hl => ?_)
  refine r_iload_n C rfl (lv_at hl 3 rfl) dX3_obeyGroup_30 ?_
  refine r_iconst C dX3_obeyGroup_31 ?_
  refine r_icmp_ne (tgt := 61) C (by decide) (by omega) (by decide) dX3_obeyGroup_32 (fun c1 => ?_) (fun c1 => ?_)
  · refine r_iload_n C rfl (lv_at hl 3 rfl) dX3_obeyGroup_61 ?_
    refine r_bipush C (by decide) dX3_obeyGroup_62 ?_
    refine r_icmp_ne (tgt := 113) C (by decide) (by omega) (by decide) dX3_obeyGroup_64 (fun c2 => ?_) (fun c2 => ?_)
    · refine r_iload C (lv_at hl 1 rfl) dX3_obeyGroup_113 ?_
      refine r_if_eq (tgt := 120) C (by decide) (by omega) dX3_obeyGroup_115 (fun c3 => ?_) (fun c3 => ?_)
      · refine r_iload_n C rfl (lv_at hl 3 rfl) dX3_obeyGroup_120 ?_
        refine r_bipush C (by decide) dX3_obeyGroup_121 ?_
        refine r_icmp_ne (tgt := 148) C (by decide) (by omega) (by decide) dX3_obeyGroup_123 (fun c4 => ?_) (fun c4 => ?_)
        · refine r_aload_n C rfl (lv_at hl 4 rfl) dX3_obeyGroup_148 ?_
          refine r_get C (ci := 3) (v := .ref (b + 327)) rfl uin3 hb.o 6 (by decide) q_143 rfl rfl dX3_obeyGroup_149 ?_
          refine r_iload_n C rfl (lv_at hl 2 rfl) dX3_obeyGroup_152 ?_
          refine r_vPi (rest := []) C (k_X0_hasSpace l g (b + 327) F hSm ((q / 1000) % 10) (by omega)) s_RX3_239 htr (recv C (ci := 0) rfl htr.o) hl.1 rfl ⟨by decide, by decide⟩ rfl (Nat.le_of_ble_eq_true rfl) ⟨Nat.le_refl 0, Nat.le_refl 0⟩ dX3_obeyGroup_153 ?_
          have b5 := hSm.n
          refine r_ifP_eq (tgt := 174) C (by decide) dX3_obeyGroup_156 (fun c6 => ?_) (fun c6 => ?_)
          · refine r_iconst C dX3_obeyGroup_174 ?_
            have hfl : whyFl F (q / 1000 % 10) (q / 1000 % 10).toNat (q % 100) = 0 → q / 1000 % 10 < F 0 := fun z => (whyFl_0 z).1.2
            have hce : whyCe F (q / 1000 % 10) (q / 1000 % 10).toNat (q % 100) = 0 → q / 1000 % 10 < F 0 := fun z => (whyCe_0 z).1.2
            have eF : coF (q / 10000) (q / 1000 % 10) (q / 100 % 10) (q % 100) F = F := (by unfold coF; (repeat' split) <;> first | rfl | (exfalso; omega))
            exact r_iretH C rfl rfl (congrArg iI (by unfold coV; exact (pI_f (by rw [show q / 100 % 10 = 0 by omega]; unfold coD; omega)).symm)) hF (by rw [eF]; exact ⟨hb, htr, _, hgu⟩) dX3_obeyGroup_175
          · refine r_aload_n C rfl (lv_at hl 4 rfl) dX3_obeyGroup_159 ?_
            refine r_iload_n C rfl (lv_at hl 3 rfl) dX3_obeyGroup_160 ?_
            refine r_iload_n C rfl (lv_at hl 2 rfl) dX3_obeyGroup_161 ?_
            refine r_iload C (lv_at hl 0 rfl) dX3_obeyGroup_162 ?_
            refine r_vHi (rest := []) C (k_X3_obeyForSpace l g b F T hJ (by omega) (by omega) (q / 10000) ((q / 1000) % 10) (q % 100) (by omega) (by omega) (by omega)) s_RX3_242 ⟨hb, htr, _, hgu⟩ hF (fun _ h => h) (recv C (ci := 3) rfl hb.o) hl.1 rfl ⟨by decide, by decide⟩ rfl (Nat.le_of_ble_eq_true rfl) ⟨Nat.le_refl 0, Nat.le_refl 0⟩ dX3_obeyGroup_164 (fun H7 locs7 h7 ho7 hz7 hF => ?_)
            obtain ⟨hb, htr, GU, hgu⟩ := h7
            refine r_ifP_eq (tgt := 174) C (by decide) dX3_obeyGroup_167 (fun c8 => ?_) (fun c8 => ?_)
            · refine r_iconst C dX3_obeyGroup_174 ?_
              have hfl : whyFl F (q / 1000 % 10) (q / 1000 % 10).toNat (q % 100) = 0 → q / 1000 % 10 < F 0 := fun z => (whyFl_0 z).1.2
              have hce : whyCe F (q / 1000 % 10) (q / 1000 % 10).toNat (q % 100) = 0 → q / 1000 % 10 < F 0 := fun z => (whyCe_0 z).1.2
              have eF : coF (q / 10000) (q / 1000 % 10) (q / 100 % 10) (q % 100) F = coF (q / 10000) ((q / 1000) % 10) 0 (q % 100) F := (by rw [show q / 100 % 10 = 0 by omega])
              exact r_iretH C rfl rfl (congrArg iI (by unfold coV; exact (pI_f (by rw [show q / 100 % 10 = 0 by omega]; assumption)).symm)) hF (by rw [eF]; exact ⟨hb, htr, _, hgu⟩) dX3_obeyGroup_175
            · refine r_iconst C dX3_obeyGroup_170 ?_
              refine r_goto (tgt := 175) C (by decide) dX3_obeyGroup_171 ?_
              have hfl : whyFl F (q / 1000 % 10) (q / 1000 % 10).toNat (q % 100) = 0 → q / 1000 % 10 < F 0 := fun z => (whyFl_0 z).1.2
              have hce : whyCe F (q / 1000 % 10) (q / 1000 % 10).toNat (q % 100) = 0 → q / 1000 % 10 < F 0 := fun z => (whyCe_0 z).1.2
              have eF : coF (q / 10000) (q / 1000 % 10) (q / 100 % 10) (q % 100) F = coF (q / 10000) ((q / 1000) % 10) 0 (q % 100) F := (by rw [show q / 100 % 10 = 0 by omega])
              exact r_iretH C rfl rfl (congrArg iI (by unfold coV; exact (pI_t (by rw [show q / 100 % 10 = 0 by omega]; assumption)).symm)) hF (by rw [eF]; exact ⟨hb, htr, _, hgu⟩) dX3_obeyGroup_175
        · refine r_iload_n C rfl (lv_at hl 2 rfl) dX3_obeyGroup_126 ?_
          refine r_if_ne (tgt := 146) C (by decide) (by omega) dX3_obeyGroup_127 (fun c9 => ?_) (fun c9 => ?_)
          · refine r_iconst C dX3_obeyGroup_146 ?_
            have hfl : whyFl F (q / 1000 % 10) (q / 1000 % 10).toNat (q % 100) = 0 → q / 1000 % 10 < F 0 := fun z => (whyFl_0 z).1.2
            have hce : whyCe F (q / 1000 % 10) (q / 1000 % 10).toNat (q % 100) = 0 → q / 1000 % 10 < F 0 := fun z => (whyCe_0 z).1.2
            have eF : coF (q / 10000) (q / 1000 % 10) (q / 100 % 10) (q % 100) F = F := (by unfold coF; (repeat' split) <;> first | rfl | (exfalso; omega))
            exact r_iretH C rfl rfl (congrArg iI (by unfold coV; exact (pI_f (by unfold coD; omega)).symm)) hF (by rw [eF]; exact ⟨hb, htr, _, hgu⟩) dX3_obeyGroup_147
          · refine r_aload_n C rfl (lv_at hl 4 rfl) dX3_obeyGroup_130 ?_
            refine r_get C (ci := 3) (v := .ref (b + 327)) rfl uin3 hb.o 6 (by decide) q_143 rfl rfl dX3_obeyGroup_131 ?_
            refine r_vPi (rest := []) C (k_X0_lostByAll l g (b + 327) F hSm) s_RX3_205 htr (recv C (ci := 0) rfl htr.o) hl.1 rfl ⟨by decide, by decide⟩ rfl (Nat.le_of_ble_eq_true rfl) ⟨Nat.le_refl 0, Nat.le_refl 0⟩ dX3_obeyGroup_134 ?_
            have b10 := S5_b hSm 5 (by omega)
            refine r_iload C (lv_at hl 0 rfl) dX3_obeyGroup_137 ?_
            refine r_icmp_gt (tgt := 146) C (by decide) (by omega) (by omega) dX3_obeyGroup_139 (fun c11 => ?_) (fun c11 => ?_)
            · refine r_iconst C dX3_obeyGroup_146 ?_
              have hfl : whyFl F (q / 1000 % 10) (q / 1000 % 10).toNat (q % 100) = 0 → q / 1000 % 10 < F 0 := fun z => (whyFl_0 z).1.2
              have hce : whyCe F (q / 1000 % 10) (q / 1000 % 10).toNat (q % 100) = 0 → q / 1000 % 10 < F 0 := fun z => (whyCe_0 z).1.2
              have eF : coF (q / 10000) (q / 1000 % 10) (q / 100 % 10) (q % 100) F = F := (by unfold coF; (repeat' split) <;> first | rfl | (exfalso; omega))
              exact r_iretH C rfl rfl (congrArg iI (by unfold coV; exact (pI_f (by unfold coD; omega)).symm)) hF (by rw [eF]; exact ⟨hb, htr, _, hgu⟩) dX3_obeyGroup_147
            · refine r_iconst C dX3_obeyGroup_142 ?_
              refine r_goto (tgt := 147) C (by decide) dX3_obeyGroup_143 ?_
              have hfl : whyFl F (q / 1000 % 10) (q / 1000 % 10).toNat (q % 100) = 0 → q / 1000 % 10 < F 0 := fun z => (whyFl_0 z).1.2
              have hce : whyCe F (q / 1000 % 10) (q / 1000 % 10).toNat (q % 100) = 0 → q / 1000 % 10 < F 0 := fun z => (whyCe_0 z).1.2
              have eF : coF (q / 10000) (q / 1000 % 10) (q / 100 % 10) (q % 100) F = F := (by unfold coF; (repeat' split) <;> first | rfl | (exfalso; omega))
              exact r_iretH C rfl rfl (congrArg iI (by unfold coV; exact (pI_t (by unfold coD; omega)).symm)) hF (by rw [eF]; exact ⟨hb, htr, _, hgu⟩) dX3_obeyGroup_147
      · refine r_iconst C dX3_obeyGroup_118 ?_
        have hfl : whyFl F (q / 1000 % 10) (q / 1000 % 10).toNat (q % 100) = 0 → q / 1000 % 10 < F 0 := fun z => (whyFl_0 z).1.2
        have hce : whyCe F (q / 1000 % 10) (q / 1000 % 10).toNat (q % 100) = 0 → q / 1000 % 10 < F 0 := fun z => (whyCe_0 z).1.2
        have eF : coF (q / 10000) (q / 1000 % 10) (q / 100 % 10) (q % 100) F = F := (by unfold coF; (repeat' split) <;> first | rfl | (exfalso; omega))
        exact r_iretH C rfl rfl (congrArg iI (by unfold coV; exact (pI_f (by unfold coD; omega)).symm)) hF (by rw [eF]; exact ⟨hb, htr, _, hgu⟩) dX3_obeyGroup_119
    · refine r_aload_n C rfl (lv_at hl 4 rfl) dX3_obeyGroup_67 ?_
      refine r_get C (ci := 3) (v := .ref (b + 327)) rfl uin3 hb.o 6 (by decide) q_143 rfl rfl dX3_obeyGroup_68 ?_
      refine r_iload_n C rfl (lv_at hl 2 rfl) dX3_obeyGroup_71 ?_
      refine r_vPi (rest := []) C (k_X0_hasSpace l g (b + 327) F hSm ((q / 1000) % 10) (by omega)) s_RX3_239 htr (recv C (ci := 0) rfl htr.o) hl.1 rfl ⟨by decide, by decide⟩ rfl (Nat.le_of_ble_eq_true rfl) ⟨Nat.le_refl 0, Nat.le_refl 0⟩ dX3_obeyGroup_72 ?_
      have b12 := hSm.n
      refine r_ifP_eq (tgt := 111) C (by decide) dX3_obeyGroup_75 (fun c13 => ?_) (fun c13 => ?_)
      · refine r_iconst C dX3_obeyGroup_111 ?_
        have hfl : whyFl F (q / 1000 % 10) (q / 1000 % 10).toNat (q % 100) = 0 → q / 1000 % 10 < F 0 := fun z => (whyFl_0 z).1.2
        have hce : whyCe F (q / 1000 % 10) (q / 1000 % 10).toNat (q % 100) = 0 → q / 1000 % 10 < F 0 := fun z => (whyCe_0 z).1.2
        have eF : coF (q / 10000) (q / 1000 % 10) (q / 100 % 10) (q % 100) F = F := (by unfold coF; (repeat' split) <;> first | rfl | (exfalso; omega))
        exact r_iretH C rfl rfl (congrArg iI (by unfold coV; exact (pI_f (by unfold coD; omega)).symm)) hF (by rw [eF]; exact ⟨hb, htr, _, hgu⟩) dX3_obeyGroup_112
      · refine r_aload_n C rfl (lv_at hl 4 rfl) dX3_obeyGroup_78 ?_
        refine r_get C (ci := 3) (v := .ref (b + 327)) rfl uin3 hb.o 6 (by decide) q_143 rfl rfl dX3_obeyGroup_79 ?_
        refine r_iload C (lv_at hl 1 rfl) dX3_obeyGroup_82 ?_
        refine r_vPi (rest := []) C (k_X0_hasSpace l g (b + 327) F hSm ((q / 100) % 10) (by omega)) s_RX3_239 htr (recv C (ci := 0) rfl htr.o) hl.1 rfl ⟨by decide, by decide⟩ rfl (Nat.le_of_ble_eq_true rfl) ⟨Nat.le_refl 0, Nat.le_refl 0⟩ dX3_obeyGroup_84 ?_
        have b14 := hSm.n
        refine r_ifP_eq (tgt := 111) C (by decide) dX3_obeyGroup_87 (fun c15 => ?_) (fun c15 => ?_)
        · refine r_iconst C dX3_obeyGroup_111 ?_
          have hfl : whyFl F (q / 1000 % 10) (q / 1000 % 10).toNat (q % 100) = 0 → q / 1000 % 10 < F 0 := fun z => (whyFl_0 z).1.2
          have hce : whyCe F (q / 1000 % 10) (q / 1000 % 10).toNat (q % 100) = 0 → q / 1000 % 10 < F 0 := fun z => (whyCe_0 z).1.2
          have eF : coF (q / 10000) (q / 1000 % 10) (q / 100 % 10) (q % 100) F = F := (by unfold coF; (repeat' split) <;> first | rfl | (exfalso; omega))
          exact r_iretH C rfl rfl (congrArg iI (by unfold coV; exact (pI_f (by unfold coD; omega)).symm)) hF (by rw [eF]; exact ⟨hb, htr, _, hgu⟩) dX3_obeyGroup_112
        · refine r_aload_n C rfl (lv_at hl 4 rfl) dX3_obeyGroup_90 ?_
          refine r_get C (ci := 3) (v := .ref (b + 327)) rfl uin3 hb.o 6 (by decide) q_143 rfl rfl dX3_obeyGroup_91 ?_
          refine r_get C (ci := 0) (v := .ref (b + 327 + 5)) rfl uin0 htr.o 6 (by decide) q_88 rfl rfl dX3_obeyGroup_94 ?_
          refine r_iload_n C rfl (lv_at hl 2 rfl) dX3_obeyGroup_97 ?_
          refine r_aaldr (v := b + 327 + 6 + (((q / 1000) % 10).toNat)) C htr.rl (((q / 1000) % 10).toNat) (by omega) (by omega) (by omega) rfl dX3_obeyGroup_98 ?_
          refine r_iload C (lv_at hl 1 rfl) dX3_obeyGroup_99 ?_
          refine r_iald (v := F (2 + 52 * (((q / 1000) % 10).toNat) + (7 + (((q / 100) % 10).toNat)))) C (htr.l (((q / 1000) % 10).toNat) (by omega)) (((q / 100) % 10).toNat) (by omega) (by omega) (by omega) rfl dX3_obeyGroup_101 ?_
          have b16 := hSm.1 (2 + 52 * (((q / 1000) % 10).toNat) + (7 + (((q / 100) % 10).toNat))) (by omega)
          refine r_iload C (lv_at hl 0 rfl) dX3_obeyGroup_102 ?_
          refine r_icmp_lt (tgt := 111) C (by decide) (by omega) (by omega) dX3_obeyGroup_104 (fun c17 => ?_) (fun c17 => ?_)
          · refine r_iconst C dX3_obeyGroup_111 ?_
            have hfl : whyFl F (q / 1000 % 10) (q / 1000 % 10).toNat (q % 100) = 0 → q / 1000 % 10 < F 0 := fun z => (whyFl_0 z).1.2
            have hce : whyCe F (q / 1000 % 10) (q / 1000 % 10).toNat (q % 100) = 0 → q / 1000 % 10 < F 0 := fun z => (whyCe_0 z).1.2
            have eF : coF (q / 10000) (q / 1000 % 10) (q / 100 % 10) (q % 100) F = F := (by unfold coF; (repeat' split) <;> first | rfl | (exfalso; omega))
            exact r_iretH C rfl rfl (congrArg iI (by unfold coV; exact (pI_f (by unfold coD; omega)).symm)) hF (by rw [eF]; exact ⟨hb, htr, _, hgu⟩) dX3_obeyGroup_112
          · refine r_iconst C dX3_obeyGroup_107 ?_
            refine r_goto (tgt := 112) C (by decide) dX3_obeyGroup_108 ?_
            have hfl : whyFl F (q / 1000 % 10) (q / 1000 % 10).toNat (q % 100) = 0 → q / 1000 % 10 < F 0 := fun z => (whyFl_0 z).1.2
            have hce : whyCe F (q / 1000 % 10) (q / 1000 % 10).toNat (q % 100) = 0 → q / 1000 % 10 < F 0 := fun z => (whyCe_0 z).1.2
            have eF : coF (q / 10000) (q / 1000 % 10) (q / 100 % 10) (q % 100) F = F := (by unfold coF; (repeat' split) <;> first | rfl | (exfalso; omega))
            exact r_iretH C rfl rfl (congrArg iI (by unfold coV; exact (pI_t (by unfold coD; omega)).symm)) hF (by rw [eF]; exact ⟨hb, htr, _, hgu⟩) dX3_obeyGroup_112
  · refine r_aload_n C rfl (lv_at hl 4 rfl) dX3_obeyGroup_35 ?_
    refine r_get C (ci := 3) (v := .ref (b + 327)) rfl uin3 hb.o 6 (by decide) q_143 rfl rfl dX3_obeyGroup_36 ?_
    refine r_iload_n C rfl (lv_at hl 5 rfl) dX3_obeyGroup_39 ?_
    refine r_bipush C (by decide) dX3_obeyGroup_40 ?_
    refine r_idiv C (by omega) (by omega) dX3_obeyGroup_42 ?_
    refine r_bipush C (by decide) dX3_obeyGroup_43 ?_
    refine r_irem C (by omega) (by omega) dX3_obeyGroup_45 ?_
    refine r_iload C (lv_at hl 0 rfl) dX3_obeyGroup_46 ?_
    refine r_vHi (rest := []) C (k_X0_addSpace l g (b + 327) F T hS (by omega) ((q / 100) % 100) (q % 100) (by omega) (by omega)) s_RX3_102 htr hF (fun _ h => Or.inl h) (recv C (ci := 0) rfl htr.o) hl.1 rfl ⟨by decide, by decide⟩ rfl (Nat.le_of_ble_eq_true rfl) ⟨Nat.le_refl 0, Nat.le_refl 0⟩ dX3_obeyGroup_48 (fun H18 locs18 h18 ho18 hz18 hF => ?_)
    have hb := hb.kept (ho18 _ (not_dvp (by omega)))
    have hgu := hgu.kept (fun q h1 h2 => ho18 _ (not_dvp (by omega)))
    have htr := h18
    have hpr := mk_n1 (F := F) hn5 (P := okMk F (q / 100 % 100) (q % 100))
    refine r_iconst C dX3_obeyGroup_51 ?_
    refine r_icmp_eq (tgt := 59) C (by decide) (by omega) (by decide) dX3_obeyGroup_52 (fun c19 => ?_) (fun c19 => ?_)
    · refine r_iconst C dX3_obeyGroup_59 ?_
      have hfl : whyFl F (q / 1000 % 10) (q / 1000 % 10).toNat (q % 100) = 0 → q / 1000 % 10 < F 0 := fun z => (whyFl_0 z).1.2
      have hce : whyCe F (q / 1000 % 10) (q / 1000 % 10).toNat (q % 100) = 0 → q / 1000 % 10 < F 0 := fun z => (whyCe_0 z).1.2
      have eF : coF (q / 10000) (q / 1000 % 10) (q / 100 % 10) (q % 100) F = if okMk F ((q / 100) % 100) (q % 100) then mkF F ((q / 100) % 100) (q % 100) else F := (by unfold coF; rw [if_neg (show ¬ q / 10000 = 1 by omega), if_neg (show ¬ q / 10000 = 2 by omega), if_neg (show ¬ q / 10000 = 3 by omega), if_neg (show ¬ q / 10000 = 4 by omega), if_pos (by omega), show 10 * (q / 1000 % 10) + q / 100 % 10 = q / 100 % 100 by omega]; exact ite_c (mk_iff hn5))
      exact r_iretH C rfl rfl (congrArg iI (by unfold coV; exact (pI_f (by have hw := hpr.1.mp c19; have e9 : 10 * (q / 1000 % 10) + q / 100 % 10 = q / 100 % 100 := (by omega); have h9 := mk_iff (F := F) hn5 (x := q / 100 % 100) (y := q % 100); unfold coD; rw [e9]; have h8 : ¬ whyMk F (q / 100 % 100) (q % 100) = 0 := (fun z => hw (h9.mp z)); omega)).symm)) hF (by rw [eF]; exact ⟨hb, htr, _, hgu⟩) dX3_obeyGroup_60
    · refine r_iconst C dX3_obeyGroup_55 ?_
      refine r_goto (tgt := 60) C (by decide) dX3_obeyGroup_56 ?_
      have hfl : whyFl F (q / 1000 % 10) (q / 1000 % 10).toNat (q % 100) = 0 → q / 1000 % 10 < F 0 := fun z => (whyFl_0 z).1.2
      have hce : whyCe F (q / 1000 % 10) (q / 1000 % 10).toNat (q % 100) = 0 → q / 1000 % 10 < F 0 := fun z => (whyCe_0 z).1.2
      have eF : coF (q / 10000) (q / 1000 % 10) (q / 100 % 10) (q % 100) F = if okMk F ((q / 100) % 100) (q % 100) then mkF F ((q / 100) % 100) (q % 100) else F := (by unfold coF; rw [if_neg (show ¬ q / 10000 = 1 by omega), if_neg (show ¬ q / 10000 = 2 by omega), if_neg (show ¬ q / 10000 = 3 by omega), if_neg (show ¬ q / 10000 = 4 by omega), if_pos (by omega), show 10 * (q / 1000 % 10) + q / 100 % 10 = q / 100 % 100 by omega]; exact ite_c (mk_iff hn5))
      exact r_iretH C rfl rfl (congrArg iI (by unfold coV; exact (pI_t (by have hw := (fun z => Decidable.not_not.mp (fun y => absurd (hpr.1.mpr y) z)) c19; have e9 : 10 * (q / 1000 % 10) + q / 100 % 10 = q / 100 % 100 := (by omega); have h9 := mk_iff (F := F) hn5 (x := q / 100 % 100) (y := q % 100); unfold coD; rw [e9]; exact Or.inr (Or.inr (Or.inr (Or.inr (Or.inl ⟨by omega, h9.mpr hw⟩)))))).symm)) hF (by rw [eF]; exact ⟨hb, htr, _, hgu⟩) dX3_obeyGroup_60

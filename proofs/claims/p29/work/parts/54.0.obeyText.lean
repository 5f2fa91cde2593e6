theorem s_RX3_105 : SiteV "LentRoom" 105 "LentRoom$Device" yX0_putPage cX0_putPage 4 (some .int) 2 := ⟨⟨q_417, q_418, q_419, q_32, q_420⟩, rfl, by decide, by decide, by decide +kernel⟩
theorem s_RX3_94 : SiteV "LentRoom" 94 "LentRoom$Text" yX2_number cX2_number 5 (some .int) 2 := ⟨⟨q_396, q_241, q_242, q_31, q_243⟩, rfl, by decide, by decide, by decide +kernel⟩
theorem s_RX3_98 : SiteV "LentRoom" 98 "LentRoom$Text" yX2_sign cX2_sign 2 (some .char) 1 := ⟨⟨q_397, q_233, q_234, q_31, q_235⟩, rfl, by decide, by decide, by decide +kernel⟩
theorem s_RX3_112 : SiteV "LentRoom" 112 "LentRoom$Device" yX0_changeFloor cX0_changeFloor 3 (some .boolean) 2 := ⟨⟨q_473, q_474, q_475, q_32, q_476⟩, rfl, by decide, by decide, by decide +kernel⟩
theorem s_RX3_102 : SiteV "LentRoom" 102 "LentRoom$Device" yX0_addSpace cX0_addSpace 3 (some .int) 2 := ⟨⟨q_398, q_399, q_400, q_32, q_401⟩, rfl, by decide, by decide, by decide +kernel⟩
theorem s_RX3_108 : SiteV "LentRoom" 108 "LentRoom$Device" yX0_dropPage cX0_dropPage 4 (some .boolean) 2 := ⟨⟨q_465, q_466, q_467, q_32, q_468⟩, rfl, by decide, by decide, by decide +kernel⟩
set_option maxHeartbeats 4000000 in
theorem k_X3_obeyText (l : Launch) (g : Gt) (b n p : Nat) (TX : Nat → Int) (hTX : ∀ k : Nat, k < 120 → 0 ≤ TX k ∧ TX k ≤ 255) (hn : n ≤ 120) (hpn : p < n) (ho : rcOk TX n p) (F : Nat → Int) (T : Int) (hJ : J F z0 T) (hT : T ≤ 900000) (v : Int) (hv : v = (p : Int)) : CH l yX3_obeyText cX3_obeyText 7 (some .boolean) 5 117 g [.ref b, .int (iI v)] (fun H => lrAt g b H ∧ txAt g (b + 1) (n : Int) H ∧ cAt g (b + 1 + 1) 120 TX H ∧ dvAt g (b + 3) F H) (some (.int (iI (pI (rcD TX n p F = 0))))) (Dvp (b + 3)) (fun H => lrAt g b H ∧ txAt g (b + 1) (n : Int) H ∧ cAt g (b + 1 + 1) 120 TX H ∧ dvAt g (b + 3) (rcF TX n p F) H) := by
  refine ch_of "LentRoom" (by decide) rfl (Nat.le_of_ble_eq_true rfl) ?_
  intro zp ze zs zm za zb zt zc ls C hP hF hl
  obtain ⟨hb, ht, hg, hd⟩ := hP
  have hl : lv_has ls 7 [(0, .ref b), (1, .int (iI v))] := hl
  have hS := hJ.S
  have hSm : Sm F := hS.m (by omega)
  have hZ := hJ.Z
  have hn5 := hJ.n
  have hC := hJ.C
  have hG := hJ.G
  have hPgA : ∀ s : Nat, (s : Int) < F 0 → Pg F s := fun s _ => hJ.Pg (fun _ _ _ => rfl)
  obtain ⟨hN1, hN2, hN3, hN4, hN5, hN6, hN7, hN8⟩ := cm_ok hpn ho
  have hco := rc_ok ho
  unfold cmOk at hco
  have hsg : sgn TX n v = TX p := (by rw [hv]; exact sgn_n hpn)
  have cut173 : ∀ (N : Nat) (i : Nat) (v5 : Int) (v6 : Int), 41 - i < N → ((i : Int) + rcY TX n p ≤ rcZ TX n p + 1 ∨ i = 0) → (i ≤ 40) → (TX p = 114) → (v5 = pI (i = 0 ∨ rcX TX n p < F 0)) → (v6 = rcY TX n p + i) → ∀ (H : Heap) (locs : List Loc), lrAt g b H → txAt g (b + 1) (n : Int) H → cAt g (b + 1 + 1) 120 TX H → dvAt g (b + 3) (rsI F (rcX TX n p).toNat (rcY TX n p).toNat i) H → Fr (Dvp (b + 3)) zs.heap H locs → ∀ ls : Array Slot, lv_has ls 7 [(0, .ref b), (2, .int (iI (rcX TX n p))), (4, .int (iI (rcZ TX n p))), (5, .int (iI v5)), (6, .int (iI v6))] → W zp l ze (rmc 5 117) zs zm za zb zt zc H locs 0 0 (MQ zb (HQ (some (.int (iI (pI (rcD TX n p F = 0))))) (Dvp (b + 3)) (fun H => lrAt g b H ∧ txAt g (b + 1) (n : Int) H ∧ cAt g (b + 1 + 1) 120 TX H ∧ dvAt g (b + 3) (rcF TX n p F) H)) za zs 0 0 (Dvp (b + 3))) (F0 zm 173 ls []) := by
    intro N
    induction N with
    | zero => intro i v5 v6; exact fun hms => absurd hms (Nat.not_lt_zero _)
    | succ N ih =>
      intro i v5 v6 hms hi hii eL hv5 hv6 H locs hb ht hg hd hF ls hl
      obtain ⟨hJ1, hJ10⟩ := hJ.rsi (s := (rcX TX n p).toNat) (q := (rcY TX n p).toNat) (by omega) i (by omega) (by omega)
      have hS1 := hJ1.S
      have hSm1 : Sm (rsI F (rcX TX n p).toNat (rcY TX n p).toNat i) := hS1.m (by omega)
      have hZ1 := hJ1.Z
      have hG1 := hJ1.G
      have hPg1 : ∀ s : Nat, (s : Int) < rsI F (rcX TX n p).toNat (rcY TX n p).toNat i 0 → Pg (rsI F (rcX TX n p).toNat (rcY TX n p).toNat i) s := fun s _ => hJ1.Pg (fun _ _ _ => rfl)
      have hp5 := pI_rg (i = 0 ∨ rcX TX n p < F 0)
      refine r_iload C (lv_at hl 4 rfl) dX3_obeyText_173 ?_
      refine r_iload C (lv_at hl 2 rfl) dX3_obeyText_175 ?_
      refine r_icmp_gt (tgt := 207) C (by decide) (by omega) (by omega) dX3_obeyText_177 (fun c1 => ?_) (fun c1 => ?_)
      · refine r_iload C (lv_at hl 3 rfl) dX3_obeyText_207 ?_
        obtain ⟨eF, eD⟩ := rcF_r (F := F) ho eL
        have hv5b : v5 = pI (rcD TX n p F = 0) := (by rw [hv5]; exact pI_c (by omega))
        exact r_iretH C rfl (by rw [hv5b]; exact nar_pI _) (congrArg iI (by exact hv5b)) hF (by exact ⟨hb, ht, hg, by rw [eF, show (rcZ TX n p).toNat + 1 - (rcY TX n p).toNat = i by omega]; exact hd⟩) dX3_obeyText_209
      · refine r_aload_n C rfl (lv_at hl 0 rfl) dX3_obeyText_180 ?_
        refine r_get C (ci := 3) (v := .ref (b + 3)) rfl uin3 hb.o 1 (by decide) q_138 rfl rfl dX3_obeyText_181 ?_
        refine r_iload_n C rfl (lv_at hl 1 rfl) dX3_obeyText_184 ?_
        refine r_iload C (lv_at hl 4 rfl) dX3_obeyText_185 ?_
        refine r_vHi (rest := []) C (k_X0_putPage l g (b + 3) (rsI F (rcX TX n p).toNat (rcY TX n p).toNat i) (T + 6 * i) hS1 (by omega) hZ1 hG1 hPg1 (rcX TX n p) v6 ((rcX TX n p).toNat) ((rcY TX n p).toNat + i) (by omega) (by omega) (by omega) (by omega)) s_RX3_105 hd hF (fun _ h => h) (recv C (ci := 0) rfl hd.o) hl.1 rfl ⟨by decide, by decide⟩ rfl (Nat.le_of_ble_eq_true rfl) ⟨Nat.le_refl 0, Nat.le_refl 0⟩ dX3_obeyText_187 (fun H2 locs2 h2 ho2 hz2 hF => ?_)
        have hb := hb.kept (ho2 _ (not_dvp (by omega)))
        have ht := ht.kept (ho2 _ (not_dvp (by omega)))
        have hg := hg.kept (ho2 _ (not_dvp (by omega)))
        have hd := h2
        have hd : dvAt g (b + 3) (rsI F (rcX TX n p).toNat (rcY TX n p).toNat (i + 1)) H2 := (by rw [rsI_s (x := rcX TX n p) (by omega) hJ10 (r := (rcY TX n p).toNat + i) rfl (by omega)] at hd; exact hd)
        have hpr := wr_n1 (F := rsI F (rcX TX n p).toNat (rcY TX n p).toNat i) (s := (rcX TX n p).toNat) (q := (rcY TX n p).toNat + i) (P := 0 ≤ rcX TX n p ∧ rcX TX n p < rsI F (rcX TX n p).toNat (rcY TX n p).toNat i 0 ∧ 0 ≤ v6 ∧ v6 < 40)
        refine r_iconst C dX3_obeyText_190 ?_
        refine r_icmp_eq (tgt := 198) C (by decide) (by omega) (by decide) dX3_obeyText_191 (fun c3 => ?_) (fun c3 => ?_)
        · refine r_iconst C dX3_obeyText_198 ?_
          refine r_istore (lv' := [(5, .int (iI 0)), (0, .ref b), (2, .int (iI (rcX TX n p))), (4, .int (iI (rcZ TX n p))), (6, .int (iI v6))]) C hl (by decide) rfl dX3_obeyText_199 (fun ls hl => ?_)
          refine r_iinc (lv' := [(6, .int (iI (v6 + 1))), (5, .int (iI 0)), (0, .ref b), (2, .int (iI (rcX TX n p))), (4, .int (iI (rcZ TX n p)))]) C hl (q := 4) rfl (by decide) rfl dX3_obeyText_201 (fun ls hl => ?_)
          refine r_goto (tgt := 173) C (by decide) dX3_obeyText_204 ?_
          exact ih (i + 1) 0 (v6 + 1) (by omega) (by omega) (by omega) (by omega) (by first | exact (pI_t (by omega)).symm | exact (pI_f (by omega)).symm) (by omega) _ _ hb ht hg hd hF _ (lv_sub hl [2, 3, 4, 1, 0] rfl)
        · refine r_iconst C dX3_obeyText_194 ?_
          refine r_goto (tgt := 199) C (by decide) dX3_obeyText_195 ?_
          refine r_istore (lv' := [(5, .int (iI 1)), (0, .ref b), (2, .int (iI (rcX TX n p))), (4, .int (iI (rcZ TX n p))), (6, .int (iI v6))]) C hl (by decide) rfl dX3_obeyText_199 (fun ls hl => ?_)
          refine r_iinc (lv' := [(6, .int (iI (v6 + 1))), (5, .int (iI 1)), (0, .ref b), (2, .int (iI (rcX TX n p))), (4, .int (iI (rcZ TX n p)))]) C hl (q := 4) rfl (by decide) rfl dX3_obeyText_201 (fun ls hl => ?_)
          refine r_goto (tgt := 173) C (by decide) dX3_obeyText_204 ?_
          exact ih (i + 1) 1 (v6 + 1) (by omega) (by omega) (by omega) (by omega) (by first | exact (pI_t (by omega)).symm | exact (pI_f (by omega)).symm) (by omega) _ _ hb ht hg hd hF _ (lv_sub hl [2, 3, 4, 1, 0] rfl)
  refine r_aload_n C rfl (lv_at hl 0 rfl) dX3_obeyText_0 ?_
  refine r_get C (ci := 3) (v := .ref (b + 1)) rfl uin3 hb.o 0 (by decide) q_137 rfl rfl dX3_obeyText_1 ?_
  refine r_iload_n C rfl (lv_at hl 1 rfl) dX3_obeyText_4 ?_
  refine r_iconst C dX3_obeyText_5 ?_
  refine r_iadd C dX3_obeyText_6 ?_
  refine r_iconst C dX3_obeyText_7 ?_
  refine r_vPi (rest := []) C (k_X2_number l g (b + 1) n TX hTX hn (v + 1) 1 (by omega) 1 (by omega) (by omega)) s_RX3_94 ⟨ht, hg⟩ (recv C (ci := 2) rfl ht.o) hl.1 rfl ⟨by decide, by decide⟩ rfl (Nat.le_of_ble_eq_true rfl) ⟨Nat.le_refl 0, Nat.le_refl 0⟩ dX3_obeyText_8 ?_
  have b4 := nuV_b TX n (v + 1)
  refine r_istore_n (lv' := [(2, .int (iI (nuV TX n (v + 1) 1))), (0, .ref b), (1, .int (iI v))]) C rfl hl (by decide) rfl dX3_obeyText_11 (fun ls hl => ?_)
  refine r_aload_n C rfl (lv_at hl 1 rfl) dX3_obeyText_12 ?_
  refine r_get C (ci := 3) (v := .ref (b + 1)) rfl uin3 hb.o 0 (by decide) q_137 rfl rfl dX3_obeyText_13 ?_
  refine r_iload_n C rfl (lv_at hl 2 rfl) dX3_obeyText_16 ?_
  refine r_iconst C dX3_obeyText_17 ?_
  refine r_iadd C dX3_obeyText_18 ?_
  refine r_iconst C dX3_obeyText_19 ?_
  refine r_vPi (rest := []) C (k_X2_number l g (b + 1) n TX hTX hn (v + 2) 2 (by omega) 2 (by omega) (by omega)) s_RX3_94 ⟨ht, hg⟩ (recv C (ci := 2) rfl ht.o) hl.1 rfl ⟨by decide, by decide⟩ rfl (Nat.le_of_ble_eq_true rfl) ⟨Nat.le_refl 0, Nat.le_refl 0⟩ dX3_obeyText_20 ?_
  have b5 := nuV_b TX n (v + 2)
  refine r_istore_n (lv' := [(3, .int (iI (nuV TX n (v + 2) 2))), (2, .int (iI (nuV TX n (v + 1) 1))), (0, .ref b), (1, .int (iI v))]) C rfl hl (by decide) rfl dX3_obeyText_23 (fun ls hl => ?_)
  refine r_aload_n C rfl (lv_at hl 2 rfl) dX3_obeyText_24 ?_
  refine r_get C (ci := 3) (v := .ref (b + 1)) rfl uin3 hb.o 0 (by decide) q_137 rfl rfl dX3_obeyText_25 ?_
  refine r_iload_n C rfl (lv_at hl 3 rfl) dX3_obeyText_28 ?_
  refine r_vPi (rest := []) C (k_X2_sign l g (b + 1) n TX hTX hn v (by omega)) s_RX3_98 ⟨ht, hg⟩ (recv C (ci := 2) rfl ht.o) hl.1 rfl ⟨by decide, by decide⟩ rfl (Nat.le_of_ble_eq_true rfl) ⟨Nat.le_refl 0, Nat.le_refl 0⟩ dX3_obeyText_29 ?_
  have b6 := sgn_b hTX hn v
  by_cases e7 : (sgn TX n v) = 102
  · refine r_lk (tgt := 144) (off := 112) C (by omega) (by decide) (by rw [e7]; rfl) (by decide) dX3_obeyText_32 ?_
    have eL : TX p = 102 := (by omega)
    have eX2 : nuV TX n (v + 1) 1 = rcX TX n p := (by rw [hv]; exact (hN6 (by omega)).1.symm)
    have eY2 : nuV TX n (v + 2) 2 = rcY TX n p := (by rw [hv]; exact (hN6 (by omega)).2.symm)
    rw [eX2, eY2] at hl
    refine r_aload_n C rfl (lv_at hl 2 rfl) dX3_obeyText_144 ?_
    refine r_get C (ci := 3) (v := .ref (b + 3)) rfl uin3 hb.o 1 (by decide) q_138 rfl rfl dX3_obeyText_145 ?_
    refine r_iload_n C rfl (lv_at hl 1 rfl) dX3_obeyText_148 ?_
    refine r_iload_n C rfl (lv_at hl 0 rfl) dX3_obeyText_149 ?_
    refine r_vHi (rest := []) C (k_X0_changeFloor l g (b + 3) F T hS (by omega) (rcX TX n p) (rcY TX n p) ((rcX TX n p).toNat) (by omega) (by omega) (by omega)) s_RX3_112 hd hF (fun _ h => h) (recv C (ci := 0) rfl hd.o) hl.1 rfl ⟨by decide, by decide⟩ rfl (Nat.le_of_ble_eq_true rfl) ⟨Nat.le_refl 0, Nat.le_refl 0⟩ dX3_obeyText_150 (fun H8 locs8 h8 ho8 hz8 hF => ?_)
    have hb := hb.kept (ho8 _ (not_dvp (by omega)))
    have ht := ht.kept (ho8 _ (not_dvp (by omega)))
    have hg := hg.kept (ho8 _ (not_dvp (by omega)))
    have hd := h8
    obtain ⟨eF, eD⟩ := rcF_f (F := F) ho eL
    exact r_iretH C rfl (nar_pI _) (congrArg iI (pI_c (by exact eD.symm))) hF (by exact ⟨hb, ht, hg, by rw [eF]; exact hd⟩) dX3_obeyText_153
  by_cases e9 : (sgn TX n v) = 115
  · refine r_lk (tgt := 76) (off := 44) C (by omega) (by decide) (by rw [e9]; rfl) (by decide) dX3_obeyText_32 ?_
    have eL : TX p = 115 := (by omega)
    refine r_aload_n C rfl (lv_at hl 2 rfl) dX3_obeyText_76 ?_
    refine r_get C (ci := 3) (v := .ref (b + 3)) rfl uin3 hb.o 1 (by decide) q_138 rfl rfl dX3_obeyText_77 ?_
    refine r_aload_n C rfl (lv_at hl 2 rfl) dX3_obeyText_80 ?_
    refine r_get C (ci := 3) (v := .ref (b + 1)) rfl uin3 hb.o 0 (by decide) q_137 rfl rfl dX3_obeyText_81 ?_
    refine r_iload_n C rfl (lv_at hl 3 rfl) dX3_obeyText_84 ?_
    refine r_iconst C dX3_obeyText_85 ?_
    refine r_iadd C dX3_obeyText_86 ?_
    refine r_iconst C dX3_obeyText_87 ?_
    refine r_vPi (rest := [.ref (b + 3)]) C (k_X2_number l g (b + 1) n TX hTX hn (v + 1) 2 (by omega) 2 (by omega) (by omega)) s_RX3_94 ⟨ht, hg⟩ (recv C (ci := 2) rfl ht.o) hl.1 rfl ⟨by decide, by decide⟩ rfl (Nat.le_of_ble_eq_true rfl) ⟨Nat.le_refl 0, Nat.le_refl 0⟩ dX3_obeyText_88 ?_
    have b10 := nuV_b TX n (v + 1)
    rw [show nuV TX n (v + 1) 2 = rcX TX n p from (by rw [hv]; exact (hN5 eL).1.symm)]
    refine r_aload_n C rfl (lv_at hl 2 rfl) dX3_obeyText_91 ?_
    refine r_get C (ci := 3) (v := .ref (b + 1)) rfl uin3 hb.o 0 (by decide) q_137 rfl rfl dX3_obeyText_92 ?_
    refine r_iload_n C rfl (lv_at hl 3 rfl) dX3_obeyText_95 ?_
    refine r_iconst C dX3_obeyText_96 ?_
    refine r_iadd C dX3_obeyText_97 ?_
    refine r_iconst C dX3_obeyText_98 ?_
    refine r_vPi (rest := [.int (iI (rcX TX n p)), .ref (b + 3)]) C (k_X2_number l g (b + 1) n TX hTX hn (v + 3) 2 (by omega) 2 (by omega) (by omega)) s_RX3_94 ⟨ht, hg⟩ (recv C (ci := 2) rfl ht.o) hl.1 rfl ⟨by decide, by decide⟩ rfl (Nat.le_of_ble_eq_true rfl) ⟨Nat.le_refl 0, Nat.le_refl 0⟩ dX3_obeyText_99 ?_
    have b11 := nuV_b TX n (v + 3)
    rw [show nuV TX n (v + 3) 2 = rcY TX n p from (by rw [hv]; exact (hN5 eL).2.symm)]
    refine r_vHi (rest := []) C (k_X0_addSpace l g (b + 3) F T hS (by omega) (rcX TX n p) (rcY TX n p) (by omega) (by omega)) s_RX3_102 hd hF (fun _ h => h) (recv C (ci := 0) rfl hd.o) hl.1 rfl ⟨by decide, by decide⟩ rfl (Nat.le_of_ble_eq_true rfl) ⟨Nat.le_refl 0, Nat.le_refl 0⟩ dX3_obeyText_102 (fun H12 locs12 h12 ho12 hz12 hF => ?_)
    have hb := hb.kept (ho12 _ (not_dvp (by omega)))
    have ht := ht.kept (ho12 _ (not_dvp (by omega)))
    have hg := hg.kept (ho12 _ (not_dvp (by omega)))
    have hd := h12
    have hpr := mk_n1 (F := F) hn5 (P := okMk F (rcX TX n p) (rcY TX n p))
    refine r_iconst C dX3_obeyText_105 ?_
    refine r_icmp_eq (tgt := 113) C (by decide) (by omega) (by decide) dX3_obeyText_106 (fun c13 => ?_) (fun c13 => ?_)
    · refine r_iconst C dX3_obeyText_113 ?_
      obtain ⟨eF, eD⟩ := rcF_s (F := F) hn5 ho eL
      exact r_iretH C rfl rfl (congrArg iI (pI_f (by rw [eD]; exact hpr.1.mp c13)).symm) hF (by exact ⟨hb, ht, hg, by rw [eF]; exact hd⟩) dX3_obeyText_114
    · refine r_iconst C dX3_obeyText_109 ?_
      refine r_goto (tgt := 114) C (by decide) dX3_obeyText_110 ?_
      obtain ⟨eF, eD⟩ := rcF_s (F := F) hn5 ho eL
      exact r_iretH C rfl rfl (congrArg iI (pI_t (by rw [eD]; exact Decidable.not_not.mp (fun z => absurd (hpr.1.mpr z) c13))).symm) hF (by exact ⟨hb, ht, hg, by rw [eF]; exact hd⟩) dX3_obeyText_114
  by_cases e14 : (sgn TX n v) = 116
  · refine r_lk (tgt := 134) (off := 102) C (by omega) (by decide) (by rw [e14]; rfl) (by decide) dX3_obeyText_32 ?_
    have eL : TX p = 116 := (by omega)
    have eX2 : nuV TX n (v + 1) 1 = rcX TX n p := (by rw [hv]; exact (hN6 (by omega)).1.symm)
    have eY2 : nuV TX n (v + 2) 2 = rcY TX n p := (by rw [hv]; exact (hN6 (by omega)).2.symm)
    rw [eX2, eY2] at hl
    refine r_aload_n C rfl (lv_at hl 2 rfl) dX3_obeyText_134 ?_
    refine r_get C (ci := 3) (v := .ref (b + 3)) rfl uin3 hb.o 1 (by decide) q_138 rfl rfl dX3_obeyText_135 ?_
    refine r_iload_n C rfl (lv_at hl 1 rfl) dX3_obeyText_138 ?_
    refine r_iload_n C rfl (lv_at hl 0 rfl) dX3_obeyText_139 ?_
    refine r_vHi (rest := []) C (k_X0_dropPage l g (b + 3) F T hS (by omega) hC (rcX TX n p) (rcY TX n p) ((rcX TX n p).toNat) ((rcY TX n p).toNat) (by omega) (by omega) (by omega) (by omega)) s_RX3_108 hd hF (fun _ h => h) (recv C (ci := 0) rfl hd.o) hl.1 rfl ⟨by decide, by decide⟩ rfl (Nat.le_of_ble_eq_true rfl) ⟨Nat.le_refl 0, Nat.le_refl 0⟩ dX3_obeyText_140 (fun H15 locs15 h15 ho15 hz15 hF => ?_)
    have hb := hb.kept (ho15 _ (not_dvp (by omega)))
    have ht := ht.kept (ho15 _ (not_dvp (by omega)))
    have hg := hg.kept (ho15 _ (not_dvp (by omega)))
    have hd := h15
    obtain ⟨eF, eD⟩ := rcF_t (F := F) ho eL
    exact r_iretH C rfl (nar_pI _) (congrArg iI (pI_c (by exact eD.symm))) hF (by exact ⟨hb, ht, hg, by rw [eF]; exact hd⟩) dX3_obeyText_143
  by_cases e16 : (sgn TX n v) = 119
  · refine r_lk (tgt := 115) (off := 83) C (by omega) (by decide) (by rw [e16]; rfl) (by decide) dX3_obeyText_32 ?_
    have eL : TX p = 119 := (by omega)
    have eX2 : nuV TX n (v + 1) 1 = rcX TX n p := (by rw [hv]; exact (hN6 (by omega)).1.symm)
    have eY2 : nuV TX n (v + 2) 2 = rcY TX n p := (by rw [hv]; exact (hN6 (by omega)).2.symm)
    rw [eX2, eY2] at hl
    refine r_aload_n C rfl (lv_at hl 2 rfl) dX3_obeyText_115 ?_
    refine r_get C (ci := 3) (v := .ref (b + 3)) rfl uin3 hb.o 1 (by decide) q_138 rfl rfl dX3_obeyText_116 ?_
    refine r_iload_n C rfl (lv_at hl 1 rfl) dX3_obeyText_119 ?_
    refine r_iload_n C rfl (lv_at hl 0 rfl) dX3_obeyText_120 ?_
    refine r_vHi (rest := []) C (k_X0_putPage l g (b + 3) F T hS (by omega) hZ hG hPgA (rcX TX n p) (rcY TX n p) ((rcX TX n p).toNat) ((rcY TX n p).toNat) (by omega) (by omega) (by omega) (by omega)) s_RX3_105 hd hF (fun _ h => h) (recv C (ci := 0) rfl hd.o) hl.1 rfl ⟨by decide, by decide⟩ rfl (Nat.le_of_ble_eq_true rfl) ⟨Nat.le_refl 0, Nat.le_refl 0⟩ dX3_obeyText_121 (fun H17 locs17 h17 ho17 hz17 hF => ?_)
    have hb := hb.kept (ho17 _ (not_dvp (by omega)))
    have ht := ht.kept (ho17 _ (not_dvp (by omega)))
    have hg := hg.kept (ho17 _ (not_dvp (by omega)))
    have hd := h17
    have hpr := wr_n1 (F := F) (s := (rcX TX n p).toNat) (q := (rcY TX n p).toNat) (P := 0 ≤ rcX TX n p ∧ rcX TX n p < F 0 ∧ 0 ≤ rcY TX n p ∧ rcY TX n p < 40)
    refine r_iconst C dX3_obeyText_124 ?_
    refine r_icmp_eq (tgt := 132) C (by decide) (by omega) (by decide) dX3_obeyText_125 (fun c18 => ?_) (fun c18 => ?_)
    · refine r_iconst C dX3_obeyText_132 ?_
      obtain ⟨eF, eD⟩ := rcF_w (F := F) ho eL
      exact r_iretH C rfl rfl (congrArg iI (pI_f (by rw [eD]; exact hpr.1.mp c18)).symm) hF (by exact ⟨hb, ht, hg, by rw [eF]; exact hd⟩) dX3_obeyText_133
    · refine r_iconst C dX3_obeyText_128 ?_
      refine r_goto (tgt := 133) C (by decide) dX3_obeyText_129 ?_
      obtain ⟨eF, eD⟩ := rcF_w (F := F) ho eL
      exact r_iretH C rfl rfl (congrArg iI (pI_t (by rw [eD]; exact Decidable.not_not.mp (fun z => absurd (hpr.1.mpr z) c18))).symm) hF (by exact ⟨hb, ht, hg, by rw [eF]; exact hd⟩) dX3_obeyText_133
  refine r_lk (tgt := 154) (off := 122) C (by omega) (by decide) (by show (if (102 : Int) = (sgn TX n v) then 112 else if (115 : Int) = (sgn TX n v) then 44 else if (116 : Int) = (sgn TX n v) then 102 else if (119 : Int) = (sgn TX n v) then 83 else 122) = _; rw [if_neg (by omega), if_neg (by omega), if_neg (by omega), if_neg (by omega)]) (by decide) dX3_obeyText_32 ?_
  have eL : TX p = 114 := (by have := ho.1; unfold rcL at this; omega)
  have eX2 : nuV TX n (v + 1) 1 = rcX TX n p := (by rw [hv]; exact (hN6 (by omega)).1.symm)
  have eY2 : nuV TX n (v + 2) 2 = rcY TX n p := (by rw [hv]; exact (hN6 (by omega)).2.symm)
  rw [eX2, eY2] at hl
  refine r_aload_n C rfl (lv_at hl 2 rfl) dX3_obeyText_154 ?_
  refine r_get C (ci := 3) (v := .ref (b + 1)) rfl uin3 hb.o 0 (by decide) q_137 rfl rfl dX3_obeyText_155 ?_
  refine r_iload_n C rfl (lv_at hl 3 rfl) dX3_obeyText_158 ?_
  refine r_iconst C dX3_obeyText_159 ?_
  refine r_iadd C dX3_obeyText_160 ?_
  refine r_iconst C dX3_obeyText_161 ?_
  refine r_vPi (rest := []) C (k_X2_number l g (b + 1) n TX hTX hn (v + 4) 2 (by omega) 2 (by omega) (by omega)) s_RX3_94 ⟨ht, hg⟩ (recv C (ci := 2) rfl ht.o) hl.1 rfl ⟨by decide, by decide⟩ rfl (Nat.le_of_ble_eq_true rfl) ⟨Nat.le_refl 0, Nat.le_refl 0⟩ dX3_obeyText_162 ?_
  have b19 := nuV_b TX n (v + 4)
  rw [show nuV TX n (v + 4) 2 = rcZ TX n p from (by rw [hv]; exact (hN7 eL).symm)]
  refine r_istore (lv' := [(4, .int (iI (rcZ TX n p))), (3, .int (iI (rcY TX n p))), (2, .int (iI (rcX TX n p))), (0, .ref b), (1, .int (iI v))]) C hl (by decide) rfl dX3_obeyText_165 (fun ls hl => ?_)
  refine r_iconst C dX3_obeyText_167 ?_
  refine r_istore (lv' := [(5, .int (iI 1)), (4, .int (iI (rcZ TX n p))), (3, .int (iI (rcY TX n p))), (2, .int (iI (rcX TX n p))), (0, .ref b), (1, .int (iI v))]) C hl (by decide) rfl dX3_obeyText_168 (fun ls hl => ?_)
  refine r_iload_n C rfl (lv_at hl 2 rfl) dX3_obeyText_170 ?_
  refine r_istore (lv' := [(6, .int (iI (rcY TX n p))), (5, .int (iI 1)), (4, .int (iI (rcZ TX n p))), (3, .int (iI (rcY TX n p))), (2, .int (iI (rcX TX n p))), (0, .ref b), (1, .int (iI v))]) C hl (by decide) rfl dX3_obeyText_171 (fun ls hl => ?_)
  have hd : dvAt g (b + 3) (rsI F (rcX TX n p).toNat (rcY TX n p).toNat 0) zs.heap := (by rw [rsI_0]; exact hd)
  exact cut173 _ 0 1 (rcY TX n p) (Nat.lt_succ_self _) (by omega) (by omega) (by omega) (by exact (pI_t (Or.inl rfl)).symm) (by omega) _ _ hb ht hg hd hF _ (lv_sub hl [5, 4, 2, 1, 0] rfl)

theorem free_mk {F : Nat → Int} {T x y : Int} (hT : T ≤ 1000000) (h : J F z0 T) : F 0 < 5 → free (mkF F x y) = free F - x := fun h5 => by
  have hn := h.n
  generalize hk : (F 0).toNat = n
  have hz := h.Z n 0 (by omega) (by omega) (by omega)
  have ef : mkF F x y (2 + 52 * n + 0) = x := by unfold mkF; rw [hk, up_n _ _ (by omega), up_n _ _ (by omega), up_s]
  have e : ∀ j : Nat, j ≠ 0 → j ≠ 2 + 52 * n + 0 → j ≠ 2 + 52 * n + 1 → mkF F x y j = F j := fun j h1 h2 h3 => by unfold mkF; rw [hk, up_n _ _ h1, up_n _ _ h3, up_n _ _ h2]
  have es : S5 (mkF F x y) 3 = S5 F 3 := sumI_cg (fun i hi => e _ (by omega) (by omega) (by omega))
  have es0 : S5 (mkF F x y) 0 = S5 F 0 + x := by
    unfold S5
    rw [sumI_one (f := fun s => F (2 + 52 * s + 0)) (s := n) (fun i hi => e _ (by omega) (by omega) (by omega)) (by omega), ef, hz]
    omega
  unfold free
  rw [es, es0]
  omega
set_option maxRecDepth 100000 in
set_option maxHeartbeats 4000000 in
theorem t_start (l : Launch) (hst : l.stackTraces = false) {zp : Program} {ze : Env} {zs : State} {zm : MethodId} {za : Array Value} {zb : List Frame} {zt : Method} {zc : Code} {Q : State → Prop} {x9 : Cond} {g : Gt} (kt : Kt) (C : Cx zp zs zm za zt zc cL_law 15 "LentRoomLaw" (some .boolean) x9 g) (KZ : SK kt zs zs.heap) (hkz : kt.1 ≤ zs.heap.size) (b c sc L : Nat) (X : Nat → Int32) (hbz : zs.heap.size ≤ b) (hbc : b + 407 ≤ c) (hsc : sc < zs.heap.size) (hX0 : va_X sc L X zs zs.heap) (hL : L ≤ 260) (kend : ∀ (H : Heap) (locs : List Loc), GT (fun q => zs.heap.size ≤ q) zs.heap H locs → ∀ ls : Array Slot, lv_has ls 15 [(4, .int (iI 1))] → W zp l ze room_1 zs zm za zb zt zc H locs (100000) (6 * (100000)) Q (F0 zm 522 ls [])) : ∀ (H : Heap) (locs : List Loc), DW g b 0 z0 z0 z0 z0 H → DW g c 0 z0 z0 z0 z0 H → GT (fun q => zs.heap.size ≤ q) zs.heap H locs → ∀ ls : Array Slot, lv_has ls 15 [(2, .ref c), (1, .ref b), (0, .ref sc)] → W zp l ze room_1 zs zm za zb zt zc H locs 4000 (6 * 4000) Q (F0 zm 16 ls []) := by
  obtain ⟨f9, hf9⟩ : ∃ f9 : Int, f9 = clV X L 0 := ⟨_, rfl⟩
  have hf : 0 ≤ f9 ∧ f9 < 2147483648 := by rw [hf9]; exact clV_b X L 0
  have hc1 := clV_b X L 1
  obtain ⟨tn, htn⟩ : ∃ tn : Nat, 8 + clV X L 1 % 19 = (tn : Int) := ⟨(8 + clV X L 1 % 19).toNat, by omega⟩
  have htn9 : tn ≤ 26 := by omega
  have hJ0 : J z0 z0 100 := J.zero (by decide)
  have hT0 : (100 : Int) ≤ 900000 := by decide
  have hac0 : (0 : Int) ≤ 0 ∧ (0 : Int) ≤ 14 := by decide
  have e00 : z0 0 = 0 := rfl
  have ef0 : free z0 = 60 := by simp [free, S5, sumI]
  have hK1 : whyMk z0 (f9 % 30) 60 = 0 := by unfold whyMk; rw [if_neg (by omega), if_neg (by omega)]
  have m1 := hJ0.mk (by decide) (whyMk_0 (by omega) hK1)
  obtain ⟨FA, hFA⟩ : ∃ FA : Nat → Int, FA = mkF z0 (f9 % 30) 60 := ⟨_, rfl⟩
  obtain ⟨DA, hDA⟩ : ∃ DA : Nat → Int, DA = rem z0 z0 0 := ⟨_, rfl⟩
  obtain ⟨aA, haA⟩ : ∃ aA : Int, aA = remA 0 := ⟨_, rfl⟩
  have haA1 : aA = 1 := by rw [haA]; rfl
  have dA : DJ DA aA 100 := by rw [hDA, haA]; exact dj_rem (fun i hi => absurd hi (by omega)) hJ0 hac0
  have efA : free FA = 60 - f9 % 30 := by rw [hFA, free_mk (by decide) hJ0 (by omega), ef0]
  rw [← hFA] at m1
  have eA : FA 0 = 1 := by have := m1.2; omega
  have hJ1 := m1.1
  have hI1 : IVS aA FA DA z0 z0 100 := ⟨by omega, hJ1, dA, fun k hk => ⟨⟨(show (0 : Int) ≤ 0 by decide), (show (0 : Int) ≤ 1 by decide)⟩, fun h => absurd rfl h⟩, ⟨by omega, fun i hi => Or.inr (by rw [if_pos (by omega)]; omega)⟩, fun k hk h => absurd rfl h⟩
  have hac1 := hI1.acb
  have hK2 : whyMk FA (f9 / 64 % 31) 31 = 0 := by unfold whyMk; rw [if_neg (by omega), if_neg (by omega)]
  have m2 := hJ1.mk (by decide) (whyMk_0 (by omega) hK2)
  have hI2 := hI1.push m2.1 (Int.le_refl _) (by rw [m2.2]; omega)
  intro H locs hP hQ G0 ls hl
  have Ks := G0.sk KZ hkz (fun q hq => by omega)
  refine r_aload_n C rfl (lv_at hl 2 rfl) dL_law_16 ?_
  refine r_iconst C dL_law_17 ?_
  refine r_cell (k := 0) C (hX0.kept (G0.2.1 sc hsc (by omega))) hL (by omega) (by omega) s_RL_184 hl.1 ⟨by decide, by decide⟩ (Nat.le_of_ble_eq_true rfl) (r1_c (by omega)) dL_law_18 ?_
  rw [← hf9]
  refine r_istore_n (lv' := [(3, .int (iI f9)), (2, .ref c), (1, .ref b), (0, .ref sc)]) C rfl hl (by decide) rfl dL_law_21 (fun ls hl => ?_)
  refine r_aload_n C rfl (lv_at hl 2 rfl) dL_law_22 ?_
  refine r_bipush C (by decide) dL_law_23 ?_
  refine r_iload_n C rfl (lv_at hl 0 rfl) dL_law_25 ?_
  refine r_bipush C (by decide) dL_law_26 ?_
  refine r_irem C (by omega) (by omega) dL_law_28 ?_
  refine r_bipush C (by decide) dL_law_29 ?_
  refine r_iconst C dL_law_31 ?_
  refine r_sT (rest := []) (c9 := 4002) (r := 0) C Ks (k_call_7 l hst g kt b 0 0 z0 z0 z0 z0 z0 100 hJ0 hT0 (f9 % 30) 60 (by omega) (by omega) hac0 0) (tv_0 (hK1)) s_RL_162 hP hl.1 rfl ⟨by decide, by decide⟩ rfl (Nat.le_of_ble_eq_true rfl) (by omega) (show 4002 ≤ 600130 by omega) (Nat.le_of_ble_eq_true rfl) dL_law_32 (pc9 := 35) rfl (fun H1 L1 p1 F1 => ?_)
  have G1 := G0.call (fun q h => by have := h.1; omega) F1
  have K1 := G1.sk KZ hkz (fun q hq => by omega)
  have hP1 := p1.1 (hK1)
  rw [← hFA, ← haA, ← hDA] at hP1
  have hQ_1 := hQ.kept (fun q h8 h9 => F1.2.1 q (by have := hQ.lt; omega) (not_cdp (by omega)))
  refine r_if_ne (tgt := 98) C (by decide) (by decide) dL_law_35 (fun z9 => absurd z9 (by decide)) (fun z9 => ?_)
  refine r_aload_n C rfl (lv_at hl 1 rfl) dL_law_38 ?_
  refine r_bipush C (by decide) dL_law_39 ?_
  refine r_iload_n C rfl (lv_at hl 0 rfl) dL_law_41 ?_
  refine r_bipush C (by decide) dL_law_42 ?_
  refine r_irem C (by omega) (by omega) dL_law_44 ?_
  refine r_bipush C (by decide) dL_law_45 ?_
  refine r_iconst C dL_law_47 ?_
  refine r_sT (rest := []) (c9 := 4004) (r := 0) C K1 (k_call_7 l hst g kt c 0 0 z0 z0 z0 z0 z0 100 hJ0 hT0 (f9 % 30) 60 (by omega) (by omega) hac0 0) (tv_0 (hK1)) s_RL_162 hQ_1 hl.1 rfl ⟨by decide, by decide⟩ rfl (Nat.le_of_ble_eq_true rfl) (by omega) (show 4004 ≤ 600130 by omega) (Nat.le_of_ble_eq_true rfl) dL_law_48 (pc9 := 51) rfl (fun H2 L2 p2 F2 => ?_)
  have G2 := G1.call (fun q h => by have := h.1; omega) F2
  have K2 := G2.sk KZ hkz (fun q hq => by omega)
  have hQ2 := p2.1 (hK1)
  rw [← hFA, ← haA, ← hDA] at hQ2
  have hP1_2 := hP1.kept (fun q h8 h9 => F2.2.1 q (by have := hP1.lt; omega) (not_cdp (by omega)))
  refine r_if_ne (tgt := 98) C (by decide) (by decide) dL_law_51 (fun z9 => absurd z9 (by decide)) (fun z9 => ?_)
  refine r_aload_n C rfl (lv_at hl 2 rfl) dL_law_54 ?_
  refine r_bipush C (by decide) dL_law_55 ?_
  refine r_iload_n C rfl (lv_at hl 0 rfl) dL_law_57 ?_
  refine r_bipush C (by decide) dL_law_58 ?_
  refine r_idiv C (by omega) (by omega) dL_law_60 ?_
  refine r_bipush C (by decide) dL_law_61 ?_
  refine r_irem C (by omega) (by omega) dL_law_63 ?_
  refine r_bipush C (by decide) dL_law_64 ?_
  refine r_iconst C dL_law_66 ?_
  refine r_sT (rest := []) (c9 := 4006) (r := 1) C K2 (k_call_7 l hst g kt b 0 aA z0 FA DA z0 z0 100 hJ1 hT0 (f9 / 64 % 31) 31 (by omega) (by omega) hac1 0) ((tv_0 hK2).trans eA) s_RL_162 hP1_2 hl.1 rfl ⟨by decide, by decide⟩ rfl (Nat.le_of_ble_eq_true rfl) (by omega) (show 4006 ≤ 600130 by omega) (Nat.le_of_ble_eq_true rfl) dL_law_67 (pc9 := 70) rfl (fun H3 L3 p3 F3 => ?_)
  have G3 := G2.call (fun q h => by have := h.1; omega) F3
  have K3 := G3.sk KZ hkz (fun q hq => by omega)
  have hP3 := p3.1 hK2
  have hQ2_3 := hQ2.kept (fun q h8 h9 => F3.2.1 q (by have := hQ2.lt; omega) (not_cdp (by omega)))
  refine r_iconst C dL_law_70 ?_
  refine r_icmp_ne (tgt := 98) C (by decide) (by decide) (by decide) dL_law_71 (fun z9 => absurd z9 (by decide)) (fun z9 => ?_)
  refine r_aload_n C rfl (lv_at hl 1 rfl) dL_law_74 ?_
  refine r_bipush C (by decide) dL_law_75 ?_
  refine r_iload_n C rfl (lv_at hl 0 rfl) dL_law_77 ?_
  refine r_bipush C (by decide) dL_law_78 ?_
  refine r_idiv C (by omega) (by omega) dL_law_80 ?_
  refine r_bipush C (by decide) dL_law_81 ?_
  refine r_irem C (by omega) (by omega) dL_law_83 ?_
  refine r_bipush C (by decide) dL_law_84 ?_
  refine r_iconst C dL_law_86 ?_
  refine r_sT (rest := []) (c9 := 4008) (r := 1) C K3 (k_call_7 l hst g kt c 0 aA z0 FA DA z0 z0 100 hJ1 hT0 (f9 / 64 % 31) 31 (by omega) (by omega) hac1 0) ((tv_0 hK2).trans eA) s_RL_162 hQ2_3 hl.1 rfl ⟨by decide, by decide⟩ rfl (Nat.le_of_ble_eq_true rfl) (by omega) (show 4008 ≤ 600130 by omega) (Nat.le_of_ble_eq_true rfl) dL_law_87 (pc9 := 90) rfl (fun H4 L4 p4 F4 => ?_)
  have G4 := G3.call (fun q h => by have := h.1; omega) F4
  have K4 := G4.sk KZ hkz (fun q hq => by omega)
  have hQ4 := p4.1 hK2
  have hP3_4 := hP3.kept (fun q h8 h9 => F4.2.1 q (by have := hP3.lt; omega) (not_cdp (by omega)))
  refine r_iconst C dL_law_90 ?_
  refine r_icmp_ne (tgt := 98) C (by decide) (by decide) (by decide) dL_law_91 (fun z9 => absurd z9 (by decide)) (fun z9 => ?_)
  refine r_iconst C dL_law_94 ?_
  refine r_goto (tgt := 99) C (by decide) dL_law_95 ?_
  refine r_istore (lv' := [(4, .int (iI 1)), (3, .int (iI f9)), (2, .ref c), (1, .ref b), (0, .ref sc)]) C hl (by decide) rfl dL_law_99 (fun ls hl => ?_)
  refine r_bipush C (by decide) dL_law_101 ?_
  refine r_aload_n C rfl (lv_at hl 4 rfl) dL_law_103 ?_
  refine r_iconst C dL_law_104 ?_
  refine r_cell (k := 1) C (hX0.kept (G4.2.1 sc hsc (by omega))) hL (by omega) (by omega) s_RL_184 hl.1 ⟨by decide, by decide⟩ (Nat.le_of_ble_eq_true rfl) (r1_c (by omega)) dL_law_105 ?_
  refine r_bipush C (by decide) dL_law_108 ?_
  refine r_irem C (by omega) (by omega) dL_law_110 ?_
  refine r_iadd C dL_law_111 ?_
  rw [htn]
  refine r_istore (lv' := [(5, .int (iI (tn : Int))), (4, .int (iI 1)), (3, .int (iI f9)), (2, .ref c), (1, .ref b), (0, .ref sc)]) C hl (by decide) rfl dL_law_112 (fun ls hl => ?_)
  refine r_iconst C dL_law_114 ?_
  refine r_istore (lv' := [(6, .int (iI 0)), (5, .int (iI (tn : Int))), (4, .int (iI 1)), (3, .int (iI f9)), (2, .ref c), (1, .ref b), (0, .ref sc)]) C hl (by decide) rfl dL_law_115 (fun ls hl => ?_)
  exact W.widen (by omega) (by omega) (law_loop l hst kt C KZ hkz b c sc L X hbz hbc hsc hX0 hL tn htn9 f9 kend tn 0 (Nat.zero_add _) _ _ _ _ _ (hI2.mono (by omega)) _ _ hP3_4 hQ4 G4 _ (lv_sub hl [0, 1, 2, 3, 4, 5, 6] rfl))

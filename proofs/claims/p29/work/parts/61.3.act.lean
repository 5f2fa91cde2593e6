/-- what act does, in any place -/
def ACT (l : Launch) (g : Gt) (kt : Kt) (ac : Int) (F DIA KEP ISK : Nat → Int) (T x : Int) : Prop := ∃ (v : Int) (ac' : Int) (F' DIA' KEP' ISK' : Nat → Int), IVS ac' F' DIA' KEP' ISK' (T + 6) ∧ ∀ b : Nat, kt.1 ≤ b → TM l yL_act (.code yL_act cL_act 5 (some .int)) 10 186 3 g kt [.ref b, .int (iI x)] (DW g b ac F DIA KEP ISK) v (Cdp b) (DW g b ac' F' DIA' KEP' ISK')

set_option maxHeartbeats 4000000 in
theorem a_mk0 (l : Launch) (hst : l.stackTraces = false) (g : Gt) (kt : Kt) {ac : Int} {F DIA KEP ISK : Nat → Int} {T : Int} (hI : IVS ac F DIA KEP ISK T) (hT9 : 60 ≤ T ∧ T ≤ 890000) (x : Int) (hx : 0 ≤ x ∧ x < 2147483648) (hj : x % 16 = 0) (hK : (whyMk F (x / 16 % 25) (25 + x / 400 % 36)) = 0) : ACT l g kt ac F DIA KEP ISK T x := by
  have hJ := hI.j
  have hac := hI.acb
  have hn := hJ.n
  have h1 := hI.ev.1
  have hT : T ≤ 900000 := by omega
  have hs0 : 0 ≤ x / 16 % F 0 := Int.emod_nonneg _ (by omega)
  have hs1 : x / 16 % F 0 < F 0 := Int.emod_lt_of_pos _ (by omega)
  refine ⟨F 0, remA ac, mkF F (x / 16 % 25) (25 + x / 400 % 36), rem DIA F ac, KEP, ISK, hI.push ((hJ.mk (by omega) (whyMk_0 hn.2 hK)).1.mono (by omega)) (by omega) (by rw [(hJ.mk (by omega) (whyMk_0 hn.2 hK)).2]; omega), fun b hkb => ?_⟩
  refine tm_of "LentRoomLaw" (by decide) rfl (Nat.le_of_ble_eq_true rfl) ?_
  intro zp ze zs zm za zb zt zc ls C KZ hP G0 hl
  have hl : lv_has ls 5 [(0, .ref b), (1, .int (iI x))] := hl
  have hlt := hP.lt
  have hkz : kt.1 ≤ zs.heap.size := by omega
  refine r_aload_n C rfl (lv_at hl 0 rfl) dL_act_0 ?_
  refine r_iconst C dL_act_1 ?_
  refine r_iconst C dL_act_2 ?_
  refine r_iconst C dL_act_3 ?_
  refine r_iconst C dL_act_4 ?_
  refine r_sT (rest := []) (c9 := 1) (r := F 0) C KZ (k_call_2 l hst g kt b 0 ac z0 F DIA KEP ISK T hJ hT 0 (by omega) 0 0) ((tv_0 (Kd_0.mpr ⟨by omega, by omega⟩)).trans (rfl)) s_RL_162 hP hl.1 rfl ⟨by decide, by decide⟩ rfl (Nat.le_of_ble_eq_true rfl) (by omega) (show 1 ≤ 3 by omega) (Nat.le_refl _) dL_act_5 (pc9 := 8) rfl (fun H1 L1 p1 F1 => ?_)
  have G1 := G0.call (fun _ h => h) F1
  have K1 := G1.sk KZ hkz (fun q hq => by have := hq.1; omega)
  have hP1 := rdw p1
  refine r_istore_n (lv' := [(2, .int (iI (F 0))), (0, .ref b), (1, .int (iI x))]) C rfl hl (by decide) rfl dL_act_8 (fun ls hl => ?_)
  refine r_iload_n C rfl (lv_at hl 0 rfl) dL_act_9 ?_
  refine r_if_ne (tgt := 17) C (by decide) (by omega) dL_act_10 (fun z9 => ?_) (fun z9 => absurd z9 (by omega))
  refine r_iload_n C rfl (lv_at hl 2 rfl) dL_act_17 ?_
  refine r_bipush C (by decide) dL_act_18 ?_
  refine r_idiv C (by omega) (by omega) dL_act_20 ?_
  refine r_iload_n C rfl (lv_at hl 0 rfl) dL_act_21 ?_
  refine r_irem C (by omega) (by omega) dL_act_22 ?_
  refine r_istore_n (lv' := [(3, .int (iI ((x / 16) % (F 0)))), (2, .int (iI (F 0))), (0, .ref b), (1, .int (iI x))]) C rfl hl (by decide) rfl dL_act_23 (fun ls hl => ?_)
  refine r_iload_n C rfl (lv_at hl 3 rfl) dL_act_24 ?_
  refine r_sipush C (by decide) dL_act_25 ?_
  refine r_idiv C (by omega) (by omega) dL_act_28 ?_
  refine r_bipush C (by decide) dL_act_29 ?_
  refine r_irem C (by omega) (by omega) dL_act_31 ?_
  refine r_istore (lv' := [(4, .int (iI ((x / 128) % 40))), (3, .int (iI ((x / 16) % (F 0)))), (2, .int (iI (F 0))), (0, .ref b), (1, .int (iI x))]) C hl (by decide) rfl dL_act_32 (fun ls hl => ?_)
  refine r_iload_n C rfl (lv_at hl 4 rfl) dL_act_34 ?_
  refine r_bipush C (by decide) dL_act_35 ?_
  refine r_irem C (by omega) (by omega) dL_act_37 ?_
  refine r_tsIn (tgt := 84) C (by omega) 0 hj (by decide) (by decide) rfl (by decide) dL_act_38 ?_
  refine r_aload_n C rfl (lv_at hl 3 rfl) dL_act_84 ?_
  refine r_bipush C (by decide) dL_act_85 ?_
  refine r_iload_n C rfl (lv_at hl 4 rfl) dL_act_87 ?_
  refine r_bipush C (by decide) dL_act_88 ?_
  refine r_idiv C (by omega) (by omega) dL_act_90 ?_
  refine r_bipush C (by decide) dL_act_91 ?_
  refine r_irem C (by omega) (by omega) dL_act_93 ?_
  refine r_bipush C (by decide) dL_act_94 ?_
  refine r_iload_n C rfl (lv_at hl 4 rfl) dL_act_96 ?_
  refine r_sipush C (by decide) dL_act_97 ?_
  refine r_idiv C (by omega) (by omega) dL_act_100 ?_
  refine r_bipush C (by decide) dL_act_101 ?_
  refine r_irem C (by omega) (by omega) dL_act_103 ?_
  refine r_iadd C dL_act_104 ?_
  refine r_iconst C dL_act_105 ?_
  refine r_sT (rest := []) (c9 := 3) (r := _) C K1 (k_call_7 l hst g kt b 0 ac z0 F DIA KEP ISK T hJ hT ((x / 16) % 25) (25 + ((x / 400) % 36)) (by omega) (by omega) hac 0) (tv_0 hK) s_RL_162 hP1 hl.1 rfl ⟨by decide, by decide⟩ rfl (Nat.le_of_ble_eq_true rfl) (by omega) (show 3 ≤ 3 by omega) (Nat.le_refl _) dL_act_106 (pc9 := 109) rfl (fun H2 L2 p2 F2 => ?_)
  have G2 := G1.call (fun _ h => h) F2
  have K2 := G2.sk KZ hkz (fun q hq => by have := hq.1; omega)
  have hP2 := p2.1 hK
  exact r_tret C rfl rfl rfl G2 hP2 (by omega) (by omega) dL_act_109
set_option maxHeartbeats 4000000 in
theorem a_mk1 (l : Launch) (hst : l.stackTraces = false) (g : Gt) (kt : Kt) {ac : Int} {F DIA KEP ISK : Nat → Int} {T : Int} (hI : IVS ac F DIA KEP ISK T) (hT9 : 60 ≤ T ∧ T ≤ 890000) (x : Int) (hx : 0 ≤ x ∧ x < 2147483648) (hj : x % 16 = 0) (hK : (whyMk F (x / 16 % 25) (25 + x / 400 % 36)) ≠ 0) : ACT l g kt ac F DIA KEP ISK T x := by
  have hJ := hI.j
  have hac := hI.acb
  have hn := hJ.n
  have h1 := hI.ev.1
  have hT : T ≤ 900000 := by omega
  have hs0 : 0 ≤ x / 16 % F 0 := Int.emod_nonneg _ (by omega)
  have hs1 : x / 16 % F 0 < F 0 := Int.emod_lt_of_pos _ (by omega)
  refine ⟨tv [-9999002, -9999003] (whyMk F (x / 16 % 25) (25 + x / 400 % 36)) (F 0), ac, F, DIA, KEP, ISK, hI.mono (by omega), fun b hkb => ?_⟩
  refine tm_of "LentRoomLaw" (by decide) rfl (Nat.le_of_ble_eq_true rfl) ?_
  intro zp ze zs zm za zb zt zc ls C KZ hP G0 hl
  have hl : lv_has ls 5 [(0, .ref b), (1, .int (iI x))] := hl
  have hlt := hP.lt
  have hkz : kt.1 ≤ zs.heap.size := by omega
  refine r_aload_n C rfl (lv_at hl 0 rfl) dL_act_0 ?_
  refine r_iconst C dL_act_1 ?_
  refine r_iconst C dL_act_2 ?_
  refine r_iconst C dL_act_3 ?_
  refine r_iconst C dL_act_4 ?_
  refine r_sT (rest := []) (c9 := 1) (r := F 0) C KZ (k_call_2 l hst g kt b 0 ac z0 F DIA KEP ISK T hJ hT 0 (by omega) 0 0) ((tv_0 (Kd_0.mpr ⟨by omega, by omega⟩)).trans (rfl)) s_RL_162 hP hl.1 rfl ⟨by decide, by decide⟩ rfl (Nat.le_of_ble_eq_true rfl) (by omega) (show 1 ≤ 3 by omega) (Nat.le_refl _) dL_act_5 (pc9 := 8) rfl (fun H1 L1 p1 F1 => ?_)
  have G1 := G0.call (fun _ h => h) F1
  have K1 := G1.sk KZ hkz (fun q hq => by have := hq.1; omega)
  have hP1 := rdw p1
  refine r_istore_n (lv' := [(2, .int (iI (F 0))), (0, .ref b), (1, .int (iI x))]) C rfl hl (by decide) rfl dL_act_8 (fun ls hl => ?_)
  refine r_iload_n C rfl (lv_at hl 0 rfl) dL_act_9 ?_
  refine r_if_ne (tgt := 17) C (by decide) (by omega) dL_act_10 (fun z9 => ?_) (fun z9 => absurd z9 (by omega))
  refine r_iload_n C rfl (lv_at hl 2 rfl) dL_act_17 ?_
  refine r_bipush C (by decide) dL_act_18 ?_
  refine r_idiv C (by omega) (by omega) dL_act_20 ?_
  refine r_iload_n C rfl (lv_at hl 0 rfl) dL_act_21 ?_
  refine r_irem C (by omega) (by omega) dL_act_22 ?_
  refine r_istore_n (lv' := [(3, .int (iI ((x / 16) % (F 0)))), (2, .int (iI (F 0))), (0, .ref b), (1, .int (iI x))]) C rfl hl (by decide) rfl dL_act_23 (fun ls hl => ?_)
  refine r_iload_n C rfl (lv_at hl 3 rfl) dL_act_24 ?_
  refine r_sipush C (by decide) dL_act_25 ?_
  refine r_idiv C (by omega) (by omega) dL_act_28 ?_
  refine r_bipush C (by decide) dL_act_29 ?_
  refine r_irem C (by omega) (by omega) dL_act_31 ?_
  refine r_istore (lv' := [(4, .int (iI ((x / 128) % 40))), (3, .int (iI ((x / 16) % (F 0)))), (2, .int (iI (F 0))), (0, .ref b), (1, .int (iI x))]) C hl (by decide) rfl dL_act_32 (fun ls hl => ?_)
  refine r_iload_n C rfl (lv_at hl 4 rfl) dL_act_34 ?_
  refine r_bipush C (by decide) dL_act_35 ?_
  refine r_irem C (by omega) (by omega) dL_act_37 ?_
  refine r_tsIn (tgt := 84) C (by omega) 0 hj (by decide) (by decide) rfl (by decide) dL_act_38 ?_
  refine r_aload_n C rfl (lv_at hl 3 rfl) dL_act_84 ?_
  refine r_bipush C (by decide) dL_act_85 ?_
  refine r_iload_n C rfl (lv_at hl 4 rfl) dL_act_87 ?_
  refine r_bipush C (by decide) dL_act_88 ?_
  refine r_idiv C (by omega) (by omega) dL_act_90 ?_
  refine r_bipush C (by decide) dL_act_91 ?_
  refine r_irem C (by omega) (by omega) dL_act_93 ?_
  refine r_bipush C (by decide) dL_act_94 ?_
  refine r_iload_n C rfl (lv_at hl 4 rfl) dL_act_96 ?_
  refine r_sipush C (by decide) dL_act_97 ?_
  refine r_idiv C (by omega) (by omega) dL_act_100 ?_
  refine r_bipush C (by decide) dL_act_101 ?_
  refine r_irem C (by omega) (by omega) dL_act_103 ?_
  refine r_iadd C dL_act_104 ?_
  refine r_iconst C dL_act_105 ?_
  refine r_sT (rest := []) (c9 := 3) (r := _) C K1 (k_call_7 l hst g kt b 0 ac z0 F DIA KEP ISK T hJ hT ((x / 16) % 25) (25 + ((x / 400) % 36)) (by omega) (by omega) hac 0) (rfl) s_RL_162 hP1 hl.1 rfl ⟨by decide, by decide⟩ rfl (Nat.le_of_ble_eq_true rfl) (by omega) (show 3 ≤ 3 by omega) (Nat.le_refl _) dL_act_106 (pc9 := 109) rfl (fun H2 L2 p2 F2 => ?_)
  have G2 := G1.call (fun _ h => h) F2
  have K2 := G2.sk KZ hkz (fun q hq => by have := hq.1; omega)
  have hP2 := p2.2 hK
  exact r_tret C rfl rfl rfl G2 hP2 (by omega) (by omega) dL_act_109
set_option maxHeartbeats 4000000 in
theorem a_fl0 (l : Launch) (hst : l.stackTraces = false) (g : Gt) (kt : Kt) {ac : Int} {F DIA KEP ISK : Nat → Int} {T : Int} (hI : IVS ac F DIA KEP ISK T) (hT9 : 60 ≤ T ∧ T ≤ 890000) (x : Int) (hx : 0 ≤ x ∧ x < 2147483648) (hj : x % 16 = 1) (hK : (whyFl F (x / 16 % F 0) ((x / 16 % F 0 : Int).toNat) (x / 128 % 61)) = 0) : ACT l g kt ac F DIA KEP ISK T x := by
  have hJ := hI.j
  have hac := hI.acb
  have hn := hJ.n
  have h1 := hI.ev.1
  have hT : T ≤ 900000 := by omega
  have hs0 : 0 ≤ x / 16 % F 0 := Int.emod_nonneg _ (by omega)
  have hs1 : x / 16 % F 0 < F 0 := Int.emod_lt_of_pos _ (by omega)
  have w9 := whyFl_0 hK
  refine ⟨F (2 + 52 * ((x / 16 % F 0 : Int).toNat) + 0), remA ac, up F (2 + 52 * (x / 16 % F 0 : Int).toNat + 0) (x / 128 % 61), rem DIA F ac, KEP, ISK, hI.push ((hJ.bnd (by omega) (s := (x / 16 % F 0 : Int).toNat) (k := 0) (v := x / 128 % 61) (by omega) (by omega) (by omega) w9.2.1 (fun _ => w9.2.2) (fun z => absurd z (by omega))).1.mono (by omega)) (by omega) (by rw [(hJ.bnd (by omega) (s := (x / 16 % F 0 : Int).toNat) (k := 0) (v := x / 128 % 61) (by omega) (by omega) (by omega) w9.2.1 (fun _ => w9.2.2) (fun z => absurd z (by omega))).2]; omega), fun b hkb => ?_⟩
  refine tm_of "LentRoomLaw" (by decide) rfl (Nat.le_of_ble_eq_true rfl) ?_
  intro zp ze zs zm za zb zt zc ls C KZ hP G0 hl
  have hl : lv_has ls 5 [(0, .ref b), (1, .int (iI x))] := hl
  have hlt := hP.lt
  have hkz : kt.1 ≤ zs.heap.size := by omega
  refine r_aload_n C rfl (lv_at hl 0 rfl) dL_act_0 ?_
  refine r_iconst C dL_act_1 ?_
  refine r_iconst C dL_act_2 ?_
  refine r_iconst C dL_act_3 ?_
  refine r_iconst C dL_act_4 ?_
  refine r_sT (rest := []) (c9 := 1) (r := F 0) C KZ (k_call_2 l hst g kt b 0 ac z0 F DIA KEP ISK T hJ hT 0 (by omega) 0 0) ((tv_0 (Kd_0.mpr ⟨by omega, by omega⟩)).trans (rfl)) s_RL_162 hP hl.1 rfl ⟨by decide, by decide⟩ rfl (Nat.le_of_ble_eq_true rfl) (by omega) (show 1 ≤ 3 by omega) (Nat.le_refl _) dL_act_5 (pc9 := 8) rfl (fun H1 L1 p1 F1 => ?_)
  have G1 := G0.call (fun _ h => h) F1
  have K1 := G1.sk KZ hkz (fun q hq => by have := hq.1; omega)
  have hP1 := rdw p1
  refine r_istore_n (lv' := [(2, .int (iI (F 0))), (0, .ref b), (1, .int (iI x))]) C rfl hl (by decide) rfl dL_act_8 (fun ls hl => ?_)
  refine r_iload_n C rfl (lv_at hl 0 rfl) dL_act_9 ?_
  refine r_if_ne (tgt := 17) C (by decide) (by omega) dL_act_10 (fun z9 => ?_) (fun z9 => absurd z9 (by omega))
  refine r_iload_n C rfl (lv_at hl 2 rfl) dL_act_17 ?_
  refine r_bipush C (by decide) dL_act_18 ?_
  refine r_idiv C (by omega) (by omega) dL_act_20 ?_
  refine r_iload_n C rfl (lv_at hl 0 rfl) dL_act_21 ?_
  refine r_irem C (by omega) (by omega) dL_act_22 ?_
  refine r_istore_n (lv' := [(3, .int (iI ((x / 16) % (F 0)))), (2, .int (iI (F 0))), (0, .ref b), (1, .int (iI x))]) C rfl hl (by decide) rfl dL_act_23 (fun ls hl => ?_)
  refine r_iload_n C rfl (lv_at hl 3 rfl) dL_act_24 ?_
  refine r_sipush C (by decide) dL_act_25 ?_
  refine r_idiv C (by omega) (by omega) dL_act_28 ?_
  refine r_bipush C (by decide) dL_act_29 ?_
  refine r_irem C (by omega) (by omega) dL_act_31 ?_
  refine r_istore (lv' := [(4, .int (iI ((x / 128) % 40))), (3, .int (iI ((x / 16) % (F 0)))), (2, .int (iI (F 0))), (0, .ref b), (1, .int (iI x))]) C hl (by decide) rfl dL_act_32 (fun ls hl => ?_)
  refine r_iload_n C rfl (lv_at hl 4 rfl) dL_act_34 ?_
  refine r_bipush C (by decide) dL_act_35 ?_
  refine r_irem C (by omega) (by omega) dL_act_37 ?_
  refine r_tsIn (tgt := 110) C (by omega) 1 hj (by decide) (by decide) rfl (by decide) dL_act_38 ?_
  refine r_aload_n C rfl (lv_at hl 3 rfl) dL_act_110 ?_
  refine r_bipush C (by decide) dL_act_111 ?_
  refine r_iload_n C rfl (lv_at hl 1 rfl) dL_act_113 ?_
  refine r_iload_n C rfl (lv_at hl 4 rfl) dL_act_114 ?_
  refine r_sipush C (by decide) dL_act_115 ?_
  refine r_idiv C (by omega) (by omega) dL_act_118 ?_
  refine r_bipush C (by decide) dL_act_119 ?_
  refine r_irem C (by omega) (by omega) dL_act_121 ?_
  refine r_iconst C dL_act_122 ?_
  refine r_sT (rest := []) (c9 := 3) (r := _) C K1 (k_call_10 l hst g kt b 0 ac z0 F DIA KEP ISK T hJ hT ((x / 16) % (F 0)) ((x / 128) % 61) (by omega) (by omega) (((x / 16) % (F 0) : Int).toNat) (fun h => (Int.toNat_of_nonneg h).symm) hac 0) (tv_0 hK) s_RL_162 hP1 hl.1 rfl ⟨by decide, by decide⟩ rfl (Nat.le_of_ble_eq_true rfl) (by omega) (show 3 ≤ 3 by omega) (Nat.le_refl _) dL_act_123 (pc9 := 126) rfl (fun H2 L2 p2 F2 => ?_)
  have G2 := G1.call (fun _ h => h) F2
  have K2 := G2.sk KZ hkz (fun q hq => by have := hq.1; omega)
  have hP2 := p2.1 hK
  exact r_tret C rfl rfl rfl G2 hP2 (by omega) (by omega) dL_act_126
set_option maxHeartbeats 4000000 in
theorem a_fl1 (l : Launch) (hst : l.stackTraces = false) (g : Gt) (kt : Kt) {ac : Int} {F DIA KEP ISK : Nat → Int} {T : Int} (hI : IVS ac F DIA KEP ISK T) (hT9 : 60 ≤ T ∧ T ≤ 890000) (x : Int) (hx : 0 ≤ x ∧ x < 2147483648) (hj : x % 16 = 1) (hK : (whyFl F (x / 16 % F 0) ((x / 16 % F 0 : Int).toNat) (x / 128 % 61)) ≠ 0) : ACT l g kt ac F DIA KEP ISK T x := by
  have hJ := hI.j
  have hac := hI.acb
  have hn := hJ.n
  have h1 := hI.ev.1
  have hT : T ≤ 900000 := by omega
  have hs0 : 0 ≤ x / 16 % F 0 := Int.emod_nonneg _ (by omega)
  have hs1 : x / 16 % F 0 < F 0 := Int.emod_lt_of_pos _ (by omega)
  refine ⟨tv [-9999001, -9999002, -9999003] (whyFl F (x / 16 % F 0) ((x / 16 % F 0 : Int).toNat) (x / 128 % 61)) (F (2 + 52 * ((x / 16 % F 0 : Int).toNat) + 0)), ac, F, DIA, KEP, ISK, hI.mono (by omega), fun b hkb => ?_⟩
  refine tm_of "LentRoomLaw" (by decide) rfl (Nat.le_of_ble_eq_true rfl) ?_
  intro zp ze zs zm za zb zt zc ls C KZ hP G0 hl
  have hl : lv_has ls 5 [(0, .ref b), (1, .int (iI x))] := hl
  have hlt := hP.lt
  have hkz : kt.1 ≤ zs.heap.size := by omega
  refine r_aload_n C rfl (lv_at hl 0 rfl) dL_act_0 ?_
  refine r_iconst C dL_act_1 ?_
  refine r_iconst C dL_act_2 ?_
  refine r_iconst C dL_act_3 ?_
  refine r_iconst C dL_act_4 ?_
  refine r_sT (rest := []) (c9 := 1) (r := F 0) C KZ (k_call_2 l hst g kt b 0 ac z0 F DIA KEP ISK T hJ hT 0 (by omega) 0 0) ((tv_0 (Kd_0.mpr ⟨by omega, by omega⟩)).trans (rfl)) s_RL_162 hP hl.1 rfl ⟨by decide, by decide⟩ rfl (Nat.le_of_ble_eq_true rfl) (by omega) (show 1 ≤ 3 by omega) (Nat.le_refl _) dL_act_5 (pc9 := 8) rfl (fun H1 L1 p1 F1 => ?_)
  have G1 := G0.call (fun _ h => h) F1
  have K1 := G1.sk KZ hkz (fun q hq => by have := hq.1; omega)
  have hP1 := rdw p1
  refine r_istore_n (lv' := [(2, .int (iI (F 0))), (0, .ref b), (1, .int (iI x))]) C rfl hl (by decide) rfl dL_act_8 (fun ls hl => ?_)
  refine r_iload_n C rfl (lv_at hl 0 rfl) dL_act_9 ?_
  refine r_if_ne (tgt := 17) C (by decide) (by omega) dL_act_10 (fun z9 => ?_) (fun z9 => absurd z9 (by omega))
  refine r_iload_n C rfl (lv_at hl 2 rfl) dL_act_17 ?_
  refine r_bipush C (by decide) dL_act_18 ?_
  refine r_idiv C (by omega) (by omega) dL_act_20 ?_
  refine r_iload_n C rfl (lv_at hl 0 rfl) dL_act_21 ?_
  refine r_irem C (by omega) (by omega) dL_act_22 ?_
  refine r_istore_n (lv' := [(3, .int (iI ((x / 16) % (F 0)))), (2, .int (iI (F 0))), (0, .ref b), (1, .int (iI x))]) C rfl hl (by decide) rfl dL_act_23 (fun ls hl => ?_)
  refine r_iload_n C rfl (lv_at hl 3 rfl) dL_act_24 ?_
  refine r_sipush C (by decide) dL_act_25 ?_
  refine r_idiv C (by omega) (by omega) dL_act_28 ?_
  refine r_bipush C (by decide) dL_act_29 ?_
  refine r_irem C (by omega) (by omega) dL_act_31 ?_
  refine r_istore (lv' := [(4, .int (iI ((x / 128) % 40))), (3, .int (iI ((x / 16) % (F 0)))), (2, .int (iI (F 0))), (0, .ref b), (1, .int (iI x))]) C hl (by decide) rfl dL_act_32 (fun ls hl => ?_)
  refine r_iload_n C rfl (lv_at hl 4 rfl) dL_act_34 ?_
  refine r_bipush C (by decide) dL_act_35 ?_
  refine r_irem C (by omega) (by omega) dL_act_37 ?_
  refine r_tsIn (tgt := 110) C (by omega) 1 hj (by decide) (by decide) rfl (by decide) dL_act_38 ?_
  refine r_aload_n C rfl (lv_at hl 3 rfl) dL_act_110 ?_
  refine r_bipush C (by decide) dL_act_111 ?_
  refine r_iload_n C rfl (lv_at hl 1 rfl) dL_act_113 ?_
  refine r_iload_n C rfl (lv_at hl 4 rfl) dL_act_114 ?_
  refine r_sipush C (by decide) dL_act_115 ?_
  refine r_idiv C (by omega) (by omega) dL_act_118 ?_
  refine r_bipush C (by decide) dL_act_119 ?_
  refine r_irem C (by omega) (by omega) dL_act_121 ?_
  refine r_iconst C dL_act_122 ?_
  refine r_sT (rest := []) (c9 := 3) (r := _) C K1 (k_call_10 l hst g kt b 0 ac z0 F DIA KEP ISK T hJ hT ((x / 16) % (F 0)) ((x / 128) % 61) (by omega) (by omega) (((x / 16) % (F 0) : Int).toNat) (fun h => (Int.toNat_of_nonneg h).symm) hac 0) (rfl) s_RL_162 hP1 hl.1 rfl ⟨by decide, by decide⟩ rfl (Nat.le_of_ble_eq_true rfl) (by omega) (show 3 ≤ 3 by omega) (Nat.le_refl _) dL_act_123 (pc9 := 126) rfl (fun H2 L2 p2 F2 => ?_)
  have G2 := G1.call (fun _ h => h) F2
  have K2 := G2.sk KZ hkz (fun q hq => by have := hq.1; omega)
  have hP2 := p2.2 hK
  exact r_tret C rfl rfl rfl G2 hP2 (by omega) (by omega) dL_act_126
set_option maxHeartbeats 4000000 in
theorem a_ce0 (l : Launch) (hst : l.stackTraces = false) (g : Gt) (kt : Kt) {ac : Int} {F DIA KEP ISK : Nat → Int} {T : Int} (hI : IVS ac F DIA KEP ISK T) (hT9 : 60 ≤ T ∧ T ≤ 890000) (x : Int) (hx : 0 ≤ x ∧ x < 2147483648) (hj : x % 16 = 2) (hK : (whyCe F (x / 16 % F 0) ((x / 16 % F 0 : Int).toNat) (x / 128 % 61)) = 0) : ACT l g kt ac F DIA KEP ISK T x := by
  have hJ := hI.j
  have hac := hI.acb
  have hn := hJ.n
  have h1 := hI.ev.1
  have hT : T ≤ 900000 := by omega
  have hs0 : 0 ≤ x / 16 % F 0 := Int.emod_nonneg _ (by omega)
  have hs1 : x / 16 % F 0 < F 0 := Int.emod_lt_of_pos _ (by omega)
  have w9 := whyCe_0 hK
  refine ⟨F (2 + 52 * ((x / 16 % F 0 : Int).toNat) + 1), remA ac, up F (2 + 52 * (x / 16 % F 0 : Int).toNat + 1) (x / 128 % 61), rem DIA F ac, KEP, ISK, hI.push ((hJ.bnd (by omega) (s := (x / 16 % F 0 : Int).toNat) (k := 1) (v := x / 128 % 61) (by omega) (by omega) (by omega) ⟨by omega, w9.2.2.2⟩ (fun z => absurd z (by omega)) (fun _ => w9.2)).1.mono (by omega)) (by omega) (by rw [(hJ.bnd (by omega) (s := (x / 16 % F 0 : Int).toNat) (k := 1) (v := x / 128 % 61) (by omega) (by omega) (by omega) ⟨by omega, w9.2.2.2⟩ (fun z => absurd z (by omega)) (fun _ => w9.2)).2]; omega), fun b hkb => ?_⟩
  refine tm_of "LentRoomLaw" (by decide) rfl (Nat.le_of_ble_eq_true rfl) ?_
  intro zp ze zs zm za zb zt zc ls C KZ hP G0 hl
  have hl : lv_has ls 5 [(0, .ref b), (1, .int (iI x))] := hl
  have hlt := hP.lt
  have hkz : kt.1 ≤ zs.heap.size := by omega
  refine r_aload_n C rfl (lv_at hl 0 rfl) dL_act_0 ?_
  refine r_iconst C dL_act_1 ?_
  refine r_iconst C dL_act_2 ?_
  refine r_iconst C dL_act_3 ?_
  refine r_iconst C dL_act_4 ?_
  refine r_sT (rest := []) (c9 := 1) (r := F 0) C KZ (k_call_2 l hst g kt b 0 ac z0 F DIA KEP ISK T hJ hT 0 (by omega) 0 0) ((tv_0 (Kd_0.mpr ⟨by omega, by omega⟩)).trans (rfl)) s_RL_162 hP hl.1 rfl ⟨by decide, by decide⟩ rfl (Nat.le_of_ble_eq_true rfl) (by omega) (show 1 ≤ 3 by omega) (Nat.le_refl _) dL_act_5 (pc9 := 8) rfl (fun H1 L1 p1 F1 => ?_)
  have G1 := G0.call (fun _ h => h) F1
  have K1 := G1.sk KZ hkz (fun q hq => by have := hq.1; omega)
  have hP1 := rdw p1
  refine r_istore_n (lv' := [(2, .int (iI (F 0))), (0, .ref b), (1, .int (iI x))]) C rfl hl (by decide) rfl dL_act_8 (fun ls hl => ?_)
  refine r_iload_n C rfl (lv_at hl 0 rfl) dL_act_9 ?_
  refine r_if_ne (tgt := 17) C (by decide) (by omega) dL_act_10 (fun z9 => ?_) (fun z9 => absurd z9 (by omega))
  refine r_iload_n C rfl (lv_at hl 2 rfl) dL_act_17 ?_
  refine r_bipush C (by decide) dL_act_18 ?_
  refine r_idiv C (by omega) (by omega) dL_act_20 ?_
  refine r_iload_n C rfl (lv_at hl 0 rfl) dL_act_21 ?_
  refine r_irem C (by omega) (by omega) dL_act_22 ?_
  refine r_istore_n (lv' := [(3, .int (iI ((x / 16) % (F 0)))), (2, .int (iI (F 0))), (0, .ref b), (1, .int (iI x))]) C rfl hl (by decide) rfl dL_act_23 (fun ls hl => ?_)
  refine r_iload_n C rfl (lv_at hl 3 rfl) dL_act_24 ?_
  refine r_sipush C (by decide) dL_act_25 ?_
  refine r_idiv C (by omega) (by omega) dL_act_28 ?_
  refine r_bipush C (by decide) dL_act_29 ?_
  refine r_irem C (by omega) (by omega) dL_act_31 ?_
  refine r_istore (lv' := [(4, .int (iI ((x / 128) % 40))), (3, .int (iI ((x / 16) % (F 0)))), (2, .int (iI (F 0))), (0, .ref b), (1, .int (iI x))]) C hl (by decide) rfl dL_act_32 (fun ls hl => ?_)
  refine r_iload_n C rfl (lv_at hl 4 rfl) dL_act_34 ?_
  refine r_bipush C (by decide) dL_act_35 ?_
  refine r_irem C (by omega) (by omega) dL_act_37 ?_
  refine r_tsIn (tgt := 127) C (by omega) 2 hj (by decide) (by decide) rfl (by decide) dL_act_38 ?_
  refine r_aload_n C rfl (lv_at hl 3 rfl) dL_act_127 ?_
  refine r_bipush C (by decide) dL_act_128 ?_
  refine r_iload_n C rfl (lv_at hl 1 rfl) dL_act_130 ?_
  refine r_iload_n C rfl (lv_at hl 4 rfl) dL_act_131 ?_
  refine r_sipush C (by decide) dL_act_132 ?_
  refine r_idiv C (by omega) (by omega) dL_act_135 ?_
  refine r_bipush C (by decide) dL_act_136 ?_
  refine r_irem C (by omega) (by omega) dL_act_138 ?_
  refine r_iconst C dL_act_139 ?_
  refine r_sT (rest := []) (c9 := 3) (r := _) C K1 (k_call_11 l hst g kt b 0 ac z0 F DIA KEP ISK T hJ hT ((x / 16) % (F 0)) ((x / 128) % 61) (by omega) (by omega) (((x / 16) % (F 0) : Int).toNat) (fun h => (Int.toNat_of_nonneg h).symm) hac 0) (tv_0 hK) s_RL_162 hP1 hl.1 rfl ⟨by decide, by decide⟩ rfl (Nat.le_of_ble_eq_true rfl) (by omega) (show 3 ≤ 3 by omega) (Nat.le_refl _) dL_act_140 (pc9 := 143) rfl (fun H2 L2 p2 F2 => ?_)
  have G2 := G1.call (fun _ h => h) F2
  have K2 := G2.sk KZ hkz (fun q hq => by have := hq.1; omega)
  have hP2 := p2.1 hK
  exact r_tret C rfl rfl rfl G2 hP2 (by omega) (by omega) dL_act_143
set_option maxHeartbeats 4000000 in
theorem a_ce1 (l : Launch) (hst : l.stackTraces = false) (g : Gt) (kt : Kt) {ac : Int} {F DIA KEP ISK : Nat → Int} {T : Int} (hI : IVS ac F DIA KEP ISK T) (hT9 : 60 ≤ T ∧ T ≤ 890000) (x : Int) (hx : 0 ≤ x ∧ x < 2147483648) (hj : x % 16 = 2) (hK : (whyCe F (x / 16 % F 0) ((x / 16 % F 0 : Int).toNat) (x / 128 % 61)) ≠ 0) : ACT l g kt ac F DIA KEP ISK T x := by
  have hJ := hI.j
  have hac := hI.acb
  have hn := hJ.n
  have h1 := hI.ev.1
  have hT : T ≤ 900000 := by omega
  have hs0 : 0 ≤ x / 16 % F 0 := Int.emod_nonneg _ (by omega)
  have hs1 : x / 16 % F 0 < F 0 := Int.emod_lt_of_pos _ (by omega)
  refine ⟨tv [-9999001, -9999002] (whyCe F (x / 16 % F 0) ((x / 16 % F 0 : Int).toNat) (x / 128 % 61)) (F (2 + 52 * ((x / 16 % F 0 : Int).toNat) + 1)), ac, F, DIA, KEP, ISK, hI.mono (by omega), fun b hkb => ?_⟩
  refine tm_of "LentRoomLaw" (by decide) rfl (Nat.le_of_ble_eq_true rfl) ?_
  intro zp ze zs zm za zb zt zc ls C KZ hP G0 hl
  have hl : lv_has ls 5 [(0, .ref b), (1, .int (iI x))] := hl
  have hlt := hP.lt
  have hkz : kt.1 ≤ zs.heap.size := by omega
  refine r_aload_n C rfl (lv_at hl 0 rfl) dL_act_0 ?_
  refine r_iconst C dL_act_1 ?_
  refine r_iconst C dL_act_2 ?_
  refine r_iconst C dL_act_3 ?_
  refine r_iconst C dL_act_4 ?_
  refine r_sT (rest := []) (c9 := 1) (r := F 0) C KZ (k_call_2 l hst g kt b 0 ac z0 F DIA KEP ISK T hJ hT 0 (by omega) 0 0) ((tv_0 (Kd_0.mpr ⟨by omega, by omega⟩)).trans (rfl)) s_RL_162 hP hl.1 rfl ⟨by decide, by decide⟩ rfl (Nat.le_of_ble_eq_true rfl) (by omega) (show 1 ≤ 3 by omega) (Nat.le_refl _) dL_act_5 (pc9 := 8) rfl (fun H1 L1 p1 F1 => ?_)
  have G1 := G0.call (fun _ h => h) F1
  have K1 := G1.sk KZ hkz (fun q hq => by have := hq.1; omega)
  have hP1 := rdw p1
  refine r_istore_n (lv' := [(2, .int (iI (F 0))), (0, .ref b), (1, .int (iI x))]) C rfl hl (by decide) rfl dL_act_8 (fun ls hl => ?_)
  refine r_iload_n C rfl (lv_at hl 0 rfl) dL_act_9 ?_
  refine r_if_ne (tgt := 17) C (by decide) (by omega) dL_act_10 (fun z9 => ?_) (fun z9 => absurd z9 (by omega))
  refine r_iload_n C rfl (lv_at hl 2 rfl) dL_act_17 ?_
  refine r_bipush C (by decide) dL_act_18 ?_
  refine r_idiv C (by omega) (by omega) dL_act_20 ?_
  refine r_iload_n C rfl (lv_at hl 0 rfl) dL_act_21 ?_
  refine r_irem C (by omega) (by omega) dL_act_22 ?_
  refine r_istore_n (lv' := [(3, .int (iI ((x / 16) % (F 0)))), (2, .int (iI (F 0))), (0, .ref b), (1, .int (iI x))]) C rfl hl (by decide) rfl dL_act_23 (fun ls hl => ?_)
  refine r_iload_n C rfl (lv_at hl 3 rfl) dL_act_24 ?_
  refine r_sipush C (by decide) dL_act_25 ?_
  refine r_idiv C (by omega) (by omega) dL_act_28 ?_
  refine r_bipush C (by decide) dL_act_29 ?_
  refine r_irem C (by omega) (by omega) dL_act_31 ?_
  refine r_istore (lv' := [(4, .int (iI ((x / 128) % 40))), (3, .int (iI ((x / 16) % (F 0)))), (2, .int (iI (F 0))), (0, .ref b), (1, .int (iI x))]) C hl (by decide) rfl dL_act_32 (fun ls hl => ?_)
  refine r_iload_n C rfl (lv_at hl 4 rfl) dL_act_34 ?_
  refine r_bipush C (by decide) dL_act_35 ?_
  refine r_irem C (by omega) (by omega) dL_act_37 ?_
  refine r_tsIn (tgt := 127) C (by omega) 2 hj (by decide) (by decide) rfl (by decide) dL_act_38 ?_
  refine r_aload_n C rfl (lv_at hl 3 rfl) dL_act_127 ?_
  refine r_bipush C (by decide) dL_act_128 ?_
  refine r_iload_n C rfl (lv_at hl 1 rfl) dL_act_130 ?_
  refine r_iload_n C rfl (lv_at hl 4 rfl) dL_act_131 ?_
  refine r_sipush C (by decide) dL_act_132 ?_
  refine r_idiv C (by omega) (by omega) dL_act_135 ?_
  refine r_bipush C (by decide) dL_act_136 ?_
  refine r_irem C (by omega) (by omega) dL_act_138 ?_
  refine r_iconst C dL_act_139 ?_
  refine r_sT (rest := []) (c9 := 3) (r := _) C K1 (k_call_11 l hst g kt b 0 ac z0 F DIA KEP ISK T hJ hT ((x / 16) % (F 0)) ((x / 128) % 61) (by omega) (by omega) (((x / 16) % (F 0) : Int).toNat) (fun h => (Int.toNat_of_nonneg h).symm) hac 0) (rfl) s_RL_162 hP1 hl.1 rfl ⟨by decide, by decide⟩ rfl (Nat.le_of_ble_eq_true rfl) (by omega) (show 3 ≤ 3 by omega) (Nat.le_refl _) dL_act_140 (pc9 := 143) rfl (fun H2 L2 p2 F2 => ?_)
  have G2 := G1.call (fun _ h => h) F2
  have K2 := G2.sk KZ hkz (fun q hq => by have := hq.1; omega)
  have hP2 := p2.2 hK
  exact r_tret C rfl rfl rfl G2 hP2 (by omega) (by omega) dL_act_143
set_option maxHeartbeats 4000000 in
theorem a_tr03 (l : Launch) (hst : l.stackTraces = false) (g : Gt) (kt : Kt) {ac : Int} {F DIA KEP ISK : Nat → Int} {T : Int} (hI : IVS ac F DIA KEP ISK T) (hT9 : 60 ≤ T ∧ T ≤ 890000) (x : Int) (hx : 0 ≤ x ∧ x < 2147483648) (hj : x % 16 = 3) (hw : 0 < F (2 + 52 * (x / 16 % F 0 : Int).toNat + (12 + (x / 128 % 40 : Int).toNat))) : ACT l g kt ac F DIA KEP ISK T x := by
  have hJ := hI.j
  have hac := hI.acb
  have hn := hJ.n
  have h1 := hI.ev.1
  have hT : T ≤ 900000 := by omega
  have hs0 : 0 ≤ x / 16 % F 0 := Int.emod_nonneg _ (by omega)
  have hs1 : x / 16 % F 0 < F 0 := Int.emod_lt_of_pos _ (by omega)
  have hK : ((if ¬ ((0 ≤ (x / 16 % F 0) ∧ (x / 16 % F 0) < F 0) ∧ (0 ≤ (x / 128 % 40) ∧ (x / 128 % 40) < 40)) then 1 else if ¬ (0 < F (2 + 52 * ((x / 16 % F 0 : Int).toNat) + (12 + ((x / 128 % 40 : Int).toNat)))) then 2 else 0) : Int) = 0 := by rw [if_neg (by omega), if_neg (by omega)]
  refine ⟨tk (trF F ((x / 16 % F 0 : Int).toNat) ((x / 128 % 40 : Int).toNat)) ((x / 16 % F 0 : Int).toNat), remA ac, trF F (x / 16 % F 0 : Int).toNat (x / 128 % 40 : Int).toNat, rem DIA F ac, KEP, ISK, hI.push ((hJ.tr (by omega) (s := (x / 16 % F 0 : Int).toNat) (p := (x / 128 % 40 : Int).toNat) (by omega) (by omega) (by omega) hw).1.mono (by omega)) (by omega) (by rw [(hJ.tr (by omega) (s := (x / 16 % F 0 : Int).toNat) (p := (x / 128 % 40 : Int).toNat) (by omega) (by omega) (by omega) hw).2.1]; omega), fun b hkb => ?_⟩
  refine tm_of "LentRoomLaw" (by decide) rfl (Nat.le_of_ble_eq_true rfl) ?_
  intro zp ze zs zm za zb zt zc ls C KZ hP G0 hl
  have hl : lv_has ls 5 [(0, .ref b), (1, .int (iI x))] := hl
  have hlt := hP.lt
  have hkz : kt.1 ≤ zs.heap.size := by omega
  refine r_aload_n C rfl (lv_at hl 0 rfl) dL_act_0 ?_
  refine r_iconst C dL_act_1 ?_
  refine r_iconst C dL_act_2 ?_
  refine r_iconst C dL_act_3 ?_
  refine r_iconst C dL_act_4 ?_
  refine r_sT (rest := []) (c9 := 1) (r := F 0) C KZ (k_call_2 l hst g kt b 0 ac z0 F DIA KEP ISK T hJ hT 0 (by omega) 0 0) ((tv_0 (Kd_0.mpr ⟨by omega, by omega⟩)).trans (rfl)) s_RL_162 hP hl.1 rfl ⟨by decide, by decide⟩ rfl (Nat.le_of_ble_eq_true rfl) (by omega) (show 1 ≤ 3 by omega) (Nat.le_refl _) dL_act_5 (pc9 := 8) rfl (fun H1 L1 p1 F1 => ?_)
  have G1 := G0.call (fun _ h => h) F1
  have K1 := G1.sk KZ hkz (fun q hq => by have := hq.1; omega)
  have hP1 := rdw p1
  refine r_istore_n (lv' := [(2, .int (iI (F 0))), (0, .ref b), (1, .int (iI x))]) C rfl hl (by decide) rfl dL_act_8 (fun ls hl => ?_)
  refine r_iload_n C rfl (lv_at hl 0 rfl) dL_act_9 ?_
  refine r_if_ne (tgt := 17) C (by decide) (by omega) dL_act_10 (fun z9 => ?_) (fun z9 => absurd z9 (by omega))
  refine r_iload_n C rfl (lv_at hl 2 rfl) dL_act_17 ?_
  refine r_bipush C (by decide) dL_act_18 ?_
  refine r_idiv C (by omega) (by omega) dL_act_20 ?_
  refine r_iload_n C rfl (lv_at hl 0 rfl) dL_act_21 ?_
  refine r_irem C (by omega) (by omega) dL_act_22 ?_
  refine r_istore_n (lv' := [(3, .int (iI ((x / 16) % (F 0)))), (2, .int (iI (F 0))), (0, .ref b), (1, .int (iI x))]) C rfl hl (by decide) rfl dL_act_23 (fun ls hl => ?_)
  refine r_iload_n C rfl (lv_at hl 3 rfl) dL_act_24 ?_
  refine r_sipush C (by decide) dL_act_25 ?_
  refine r_idiv C (by omega) (by omega) dL_act_28 ?_
  refine r_bipush C (by decide) dL_act_29 ?_
  refine r_irem C (by omega) (by omega) dL_act_31 ?_
  refine r_istore (lv' := [(4, .int (iI ((x / 128) % 40))), (3, .int (iI ((x / 16) % (F 0)))), (2, .int (iI (F 0))), (0, .ref b), (1, .int (iI x))]) C hl (by decide) rfl dL_act_32 (fun ls hl => ?_)
  refine r_iload_n C rfl (lv_at hl 4 rfl) dL_act_34 ?_
  refine r_bipush C (by decide) dL_act_35 ?_
  refine r_irem C (by omega) (by omega) dL_act_37 ?_
  refine r_tsIn (tgt := 144) C (by omega) 3 hj (by decide) (by decide) rfl (by decide) dL_act_38 ?_
  refine r_aload_n C rfl (lv_at hl 3 rfl) dL_act_144 ?_
  refine r_bipush C (by decide) dL_act_145 ?_
  refine r_iload_n C rfl (lv_at hl 1 rfl) dL_act_147 ?_
  refine r_iload C (lv_at hl 0 rfl) dL_act_148 ?_
  refine r_iconst C dL_act_150 ?_
  refine r_sT (rest := []) (c9 := 3) (r := _) C K1 (k_call_9 l hst g kt b 0 ac z0 F DIA KEP ISK T hJ hT ((x / 16) % (F 0)) ((x / 128) % 40) (by omega) (by omega) (((x / 16) % (F 0) : Int).toNat) (((x / 128) % 40 : Int).toNat) (fun h => (Int.toNat_of_nonneg h).symm) (fun h => (Int.toNat_of_nonneg h).symm) hac 0) (tv_0 hK) s_RL_162 hP1 hl.1 rfl ⟨by decide, by decide⟩ rfl (Nat.le_of_ble_eq_true rfl) (by omega) (show 3 ≤ 3 by omega) (Nat.le_refl _) dL_act_151 (pc9 := 154) rfl (fun H2 L2 p2 F2 => ?_)
  have G2 := G1.call (fun _ h => h) F2
  have K2 := G2.sk KZ hkz (fun q hq => by have := hq.1; omega)
  have hP2 := p2.1 hK
  exact r_tret C rfl rfl rfl G2 hP2 (by omega) (by omega) dL_act_154
set_option maxHeartbeats 4000000 in
theorem a_tr13 (l : Launch) (hst : l.stackTraces = false) (g : Gt) (kt : Kt) {ac : Int} {F DIA KEP ISK : Nat → Int} {T : Int} (hI : IVS ac F DIA KEP ISK T) (hT9 : 60 ≤ T ∧ T ≤ 890000) (x : Int) (hx : 0 ≤ x ∧ x < 2147483648) (hj : x % 16 = 3) (hw : ¬ 0 < F (2 + 52 * (x / 16 % F 0 : Int).toNat + (12 + (x / 128 % 40 : Int).toNat))) : ACT l g kt ac F DIA KEP ISK T x := by
  have hJ := hI.j
  have hac := hI.acb
  have hn := hJ.n
  have h1 := hI.ev.1
  have hT : T ≤ 900000 := by omega
  have hs0 : 0 ≤ x / 16 % F 0 := Int.emod_nonneg _ (by omega)
  have hs1 : x / 16 % F 0 < F 0 := Int.emod_lt_of_pos _ (by omega)
  have hK : ((if ¬ ((0 ≤ (x / 16 % F 0) ∧ (x / 16 % F 0) < F 0) ∧ (0 ≤ (x / 128 % 40) ∧ (x / 128 % 40) < 40)) then 1 else if ¬ (0 < F (2 + 52 * ((x / 16 % F 0 : Int).toNat) + (12 + ((x / 128 % 40 : Int).toNat)))) then 2 else 0) : Int) ≠ 0 := by rw [if_neg (by omega), if_pos (by omega)]; decide
  refine ⟨tv [-9999001, -9999003] (if ¬ ((0 ≤ (x / 16 % F 0) ∧ (x / 16 % F 0) < F 0) ∧ (0 ≤ (x / 128 % 40) ∧ (x / 128 % 40) < 40)) then 1 else if ¬ (0 < F (2 + 52 * ((x / 16 % F 0 : Int).toNat) + (12 + ((x / 128 % 40 : Int).toNat)))) then 2 else 0) (tk (trF F ((x / 16 % F 0 : Int).toNat) ((x / 128 % 40 : Int).toNat)) ((x / 16 % F 0 : Int).toNat)), ac, F, DIA, KEP, ISK, hI.mono (by omega), fun b hkb => ?_⟩
  refine tm_of "LentRoomLaw" (by decide) rfl (Nat.le_of_ble_eq_true rfl) ?_
  intro zp ze zs zm za zb zt zc ls C KZ hP G0 hl
  have hl : lv_has ls 5 [(0, .ref b), (1, .int (iI x))] := hl
  have hlt := hP.lt
  have hkz : kt.1 ≤ zs.heap.size := by omega
  refine r_aload_n C rfl (lv_at hl 0 rfl) dL_act_0 ?_
  refine r_iconst C dL_act_1 ?_
  refine r_iconst C dL_act_2 ?_
  refine r_iconst C dL_act_3 ?_
  refine r_iconst C dL_act_4 ?_
  refine r_sT (rest := []) (c9 := 1) (r := F 0) C KZ (k_call_2 l hst g kt b 0 ac z0 F DIA KEP ISK T hJ hT 0 (by omega) 0 0) ((tv_0 (Kd_0.mpr ⟨by omega, by omega⟩)).trans (rfl)) s_RL_162 hP hl.1 rfl ⟨by decide, by decide⟩ rfl (Nat.le_of_ble_eq_true rfl) (by omega) (show 1 ≤ 3 by omega) (Nat.le_refl _) dL_act_5 (pc9 := 8) rfl (fun H1 L1 p1 F1 => ?_)
  have G1 := G0.call (fun _ h => h) F1
  have K1 := G1.sk KZ hkz (fun q hq => by have := hq.1; omega)
  have hP1 := rdw p1
  refine r_istore_n (lv' := [(2, .int (iI (F 0))), (0, .ref b), (1, .int (iI x))]) C rfl hl (by decide) rfl dL_act_8 (fun ls hl => ?_)
  refine r_iload_n C rfl (lv_at hl 0 rfl) dL_act_9 ?_
  refine r_if_ne (tgt := 17) C (by decide) (by omega) dL_act_10 (fun z9 => ?_) (fun z9 => absurd z9 (by omega))
  refine r_iload_n C rfl (lv_at hl 2 rfl) dL_act_17 ?_
  refine r_bipush C (by decide) dL_act_18 ?_
  refine r_idiv C (by omega) (by omega) dL_act_20 ?_
  refine r_iload_n C rfl (lv_at hl 0 rfl) dL_act_21 ?_
  refine r_irem C (by omega) (by omega) dL_act_22 ?_
  refine r_istore_n (lv' := [(3, .int (iI ((x / 16) % (F 0)))), (2, .int (iI (F 0))), (0, .ref b), (1, .int (iI x))]) C rfl hl (by decide) rfl dL_act_23 (fun ls hl => ?_)
  refine r_iload_n C rfl (lv_at hl 3 rfl) dL_act_24 ?_
  refine r_sipush C (by decide) dL_act_25 ?_
  refine r_idiv C (by omega) (by omega) dL_act_28 ?_
  refine r_bipush C (by decide) dL_act_29 ?_
  refine r_irem C (by omega) (by omega) dL_act_31 ?_
  refine r_istore (lv' := [(4, .int (iI ((x / 128) % 40))), (3, .int (iI ((x / 16) % (F 0)))), (2, .int (iI (F 0))), (0, .ref b), (1, .int (iI x))]) C hl (by decide) rfl dL_act_32 (fun ls hl => ?_)
  refine r_iload_n C rfl (lv_at hl 4 rfl) dL_act_34 ?_
  refine r_bipush C (by decide) dL_act_35 ?_
  refine r_irem C (by omega) (by omega) dL_act_37 ?_
  refine r_tsIn (tgt := 144) C (by omega) 3 hj (by decide) (by decide) rfl (by decide) dL_act_38 ?_
  refine r_aload_n C rfl (lv_at hl 3 rfl) dL_act_144 ?_
  refine r_bipush C (by decide) dL_act_145 ?_
  refine r_iload_n C rfl (lv_at hl 1 rfl) dL_act_147 ?_
  refine r_iload C (lv_at hl 0 rfl) dL_act_148 ?_
  refine r_iconst C dL_act_150 ?_
  refine r_sT (rest := []) (c9 := 3) (r := _) C K1 (k_call_9 l hst g kt b 0 ac z0 F DIA KEP ISK T hJ hT ((x / 16) % (F 0)) ((x / 128) % 40) (by omega) (by omega) (((x / 16) % (F 0) : Int).toNat) (((x / 128) % 40 : Int).toNat) (fun h => (Int.toNat_of_nonneg h).symm) (fun h => (Int.toNat_of_nonneg h).symm) hac 0) (rfl) s_RL_162 hP1 hl.1 rfl ⟨by decide, by decide⟩ rfl (Nat.le_of_ble_eq_true rfl) (by omega) (show 3 ≤ 3 by omega) (Nat.le_refl _) dL_act_151 (pc9 := 154) rfl (fun H2 L2 p2 F2 => ?_)
  have G2 := G1.call (fun _ h => h) F2
  have K2 := G2.sk KZ hkz (fun q hq => by have := hq.1; omega)
  have hP2 := p2.2 hK
  exact r_tret C rfl rfl rfl G2 hP2 (by omega) (by omega) dL_act_154
set_option maxHeartbeats 4000000 in
theorem a_tr04 (l : Launch) (hst : l.stackTraces = false) (g : Gt) (kt : Kt) {ac : Int} {F DIA KEP ISK : Nat → Int} {T : Int} (hI : IVS ac F DIA KEP ISK T) (hT9 : 60 ≤ T ∧ T ≤ 890000) (x : Int) (hx : 0 ≤ x ∧ x < 2147483648) (hj : x % 16 = 4) (hw : 0 < F (2 + 52 * (x / 16 % F 0 : Int).toNat + (12 + (x / 128 % 40 : Int).toNat))) : ACT l g kt ac F DIA KEP ISK T x := by
  have hJ := hI.j
  have hac := hI.acb
  have hn := hJ.n
  have h1 := hI.ev.1
  have hT : T ≤ 900000 := by omega
  have hs0 : 0 ≤ x / 16 % F 0 := Int.emod_nonneg _ (by omega)
  have hs1 : x / 16 % F 0 < F 0 := Int.emod_lt_of_pos _ (by omega)
  have hK : ((if ¬ ((0 ≤ (x / 16 % F 0) ∧ (x / 16 % F 0) < F 0) ∧ (0 ≤ (x / 128 % 40) ∧ (x / 128 % 40) < 40)) then 1 else if ¬ (0 < F (2 + 52 * ((x / 16 % F 0 : Int).toNat) + (12 + ((x / 128 % 40 : Int).toNat)))) then 2 else 0) : Int) = 0 := by rw [if_neg (by omega), if_neg (by omega)]
  refine ⟨tk (trF F ((x / 16 % F 0 : Int).toNat) ((x / 128 % 40 : Int).toNat)) ((x / 16 % F 0 : Int).toNat), remA ac, trF F (x / 16 % F 0 : Int).toNat (x / 128 % 40 : Int).toNat, rem DIA F ac, KEP, ISK, hI.push ((hJ.tr (by omega) (s := (x / 16 % F 0 : Int).toNat) (p := (x / 128 % 40 : Int).toNat) (by omega) (by omega) (by omega) hw).1.mono (by omega)) (by omega) (by rw [(hJ.tr (by omega) (s := (x / 16 % F 0 : Int).toNat) (p := (x / 128 % 40 : Int).toNat) (by omega) (by omega) (by omega) hw).2.1]; omega), fun b hkb => ?_⟩
  refine tm_of "LentRoomLaw" (by decide) rfl (Nat.le_of_ble_eq_true rfl) ?_
  intro zp ze zs zm za zb zt zc ls C KZ hP G0 hl
  have hl : lv_has ls 5 [(0, .ref b), (1, .int (iI x))] := hl
  have hlt := hP.lt
  have hkz : kt.1 ≤ zs.heap.size := by omega
  refine r_aload_n C rfl (lv_at hl 0 rfl) dL_act_0 ?_
  refine r_iconst C dL_act_1 ?_
  refine r_iconst C dL_act_2 ?_
  refine r_iconst C dL_act_3 ?_
  refine r_iconst C dL_act_4 ?_
  refine r_sT (rest := []) (c9 := 1) (r := F 0) C KZ (k_call_2 l hst g kt b 0 ac z0 F DIA KEP ISK T hJ hT 0 (by omega) 0 0) ((tv_0 (Kd_0.mpr ⟨by omega, by omega⟩)).trans (rfl)) s_RL_162 hP hl.1 rfl ⟨by decide, by decide⟩ rfl (Nat.le_of_ble_eq_true rfl) (by omega) (show 1 ≤ 3 by omega) (Nat.le_refl _) dL_act_5 (pc9 := 8) rfl (fun H1 L1 p1 F1 => ?_)
  have G1 := G0.call (fun _ h => h) F1
  have K1 := G1.sk KZ hkz (fun q hq => by have := hq.1; omega)
  have hP1 := rdw p1
  refine r_istore_n (lv' := [(2, .int (iI (F 0))), (0, .ref b), (1, .int (iI x))]) C rfl hl (by decide) rfl dL_act_8 (fun ls hl => ?_)
  refine r_iload_n C rfl (lv_at hl 0 rfl) dL_act_9 ?_
  refine r_if_ne (tgt := 17) C (by decide) (by omega) dL_act_10 (fun z9 => ?_) (fun z9 => absurd z9 (by omega))
  refine r_iload_n C rfl (lv_at hl 2 rfl) dL_act_17 ?_
  refine r_bipush C (by decide) dL_act_18 ?_
  refine r_idiv C (by omega) (by omega) dL_act_20 ?_
  refine r_iload_n C rfl (lv_at hl 0 rfl) dL_act_21 ?_
  refine r_irem C (by omega) (by omega) dL_act_22 ?_
  refine r_istore_n (lv' := [(3, .int (iI ((x / 16) % (F 0)))), (2, .int (iI (F 0))), (0, .ref b), (1, .int (iI x))]) C rfl hl (by decide) rfl dL_act_23 (fun ls hl => ?_)
  refine r_iload_n C rfl (lv_at hl 3 rfl) dL_act_24 ?_
  refine r_sipush C (by decide) dL_act_25 ?_
  refine r_idiv C (by omega) (by omega) dL_act_28 ?_
  refine r_bipush C (by decide) dL_act_29 ?_
  refine r_irem C (by omega) (by omega) dL_act_31 ?_
  refine r_istore (lv' := [(4, .int (iI ((x / 128) % 40))), (3, .int (iI ((x / 16) % (F 0)))), (2, .int (iI (F 0))), (0, .ref b), (1, .int (iI x))]) C hl (by decide) rfl dL_act_32 (fun ls hl => ?_)
  refine r_iload_n C rfl (lv_at hl 4 rfl) dL_act_34 ?_
  refine r_bipush C (by decide) dL_act_35 ?_
  refine r_irem C (by omega) (by omega) dL_act_37 ?_
  refine r_tsIn (tgt := 144) C (by omega) 4 hj (by decide) (by decide) rfl (by decide) dL_act_38 ?_
  refine r_aload_n C rfl (lv_at hl 3 rfl) dL_act_144 ?_
  refine r_bipush C (by decide) dL_act_145 ?_
  refine r_iload_n C rfl (lv_at hl 1 rfl) dL_act_147 ?_
  refine r_iload C (lv_at hl 0 rfl) dL_act_148 ?_
  refine r_iconst C dL_act_150 ?_
  refine r_sT (rest := []) (c9 := 3) (r := _) C K1 (k_call_9 l hst g kt b 0 ac z0 F DIA KEP ISK T hJ hT ((x / 16) % (F 0)) ((x / 128) % 40) (by omega) (by omega) (((x / 16) % (F 0) : Int).toNat) (((x / 128) % 40 : Int).toNat) (fun h => (Int.toNat_of_nonneg h).symm) (fun h => (Int.toNat_of_nonneg h).symm) hac 0) (tv_0 hK) s_RL_162 hP1 hl.1 rfl ⟨by decide, by decide⟩ rfl (Nat.le_of_ble_eq_true rfl) (by omega) (show 3 ≤ 3 by omega) (Nat.le_refl _) dL_act_151 (pc9 := 154) rfl (fun H2 L2 p2 F2 => ?_)
  have G2 := G1.call (fun _ h => h) F2
  have K2 := G2.sk KZ hkz (fun q hq => by have := hq.1; omega)
  have hP2 := p2.1 hK
  exact r_tret C rfl rfl rfl G2 hP2 (by omega) (by omega) dL_act_154
set_option maxHeartbeats 4000000 in
theorem a_tr14 (l : Launch) (hst : l.stackTraces = false) (g : Gt) (kt : Kt) {ac : Int} {F DIA KEP ISK : Nat → Int} {T : Int} (hI : IVS ac F DIA KEP ISK T) (hT9 : 60 ≤ T ∧ T ≤ 890000) (x : Int) (hx : 0 ≤ x ∧ x < 2147483648) (hj : x % 16 = 4) (hw : ¬ 0 < F (2 + 52 * (x / 16 % F 0 : Int).toNat + (12 + (x / 128 % 40 : Int).toNat))) : ACT l g kt ac F DIA KEP ISK T x := by
  have hJ := hI.j
  have hac := hI.acb
  have hn := hJ.n
  have h1 := hI.ev.1
  have hT : T ≤ 900000 := by omega
  have hs0 : 0 ≤ x / 16 % F 0 := Int.emod_nonneg _ (by omega)
  have hs1 : x / 16 % F 0 < F 0 := Int.emod_lt_of_pos _ (by omega)
  have hK : ((if ¬ ((0 ≤ (x / 16 % F 0) ∧ (x / 16 % F 0) < F 0) ∧ (0 ≤ (x / 128 % 40) ∧ (x / 128 % 40) < 40)) then 1 else if ¬ (0 < F (2 + 52 * ((x / 16 % F 0 : Int).toNat) + (12 + ((x / 128 % 40 : Int).toNat)))) then 2 else 0) : Int) ≠ 0 := by rw [if_neg (by omega), if_pos (by omega)]; decide
  refine ⟨tv [-9999001, -9999003] (if ¬ ((0 ≤ (x / 16 % F 0) ∧ (x / 16 % F 0) < F 0) ∧ (0 ≤ (x / 128 % 40) ∧ (x / 128 % 40) < 40)) then 1 else if ¬ (0 < F (2 + 52 * ((x / 16 % F 0 : Int).toNat) + (12 + ((x / 128 % 40 : Int).toNat)))) then 2 else 0) (tk (trF F ((x / 16 % F 0 : Int).toNat) ((x / 128 % 40 : Int).toNat)) ((x / 16 % F 0 : Int).toNat)), ac, F, DIA, KEP, ISK, hI.mono (by omega), fun b hkb => ?_⟩
  refine tm_of "LentRoomLaw" (by decide) rfl (Nat.le_of_ble_eq_true rfl) ?_
  intro zp ze zs zm za zb zt zc ls C KZ hP G0 hl
  have hl : lv_has ls 5 [(0, .ref b), (1, .int (iI x))] := hl
  have hlt := hP.lt
  have hkz : kt.1 ≤ zs.heap.size := by omega
  refine r_aload_n C rfl (lv_at hl 0 rfl) dL_act_0 ?_
  refine r_iconst C dL_act_1 ?_
  refine r_iconst C dL_act_2 ?_
  refine r_iconst C dL_act_3 ?_
  refine r_iconst C dL_act_4 ?_
  refine r_sT (rest := []) (c9 := 1) (r := F 0) C KZ (k_call_2 l hst g kt b 0 ac z0 F DIA KEP ISK T hJ hT 0 (by omega) 0 0) ((tv_0 (Kd_0.mpr ⟨by omega, by omega⟩)).trans (rfl)) s_RL_162 hP hl.1 rfl ⟨by decide, by decide⟩ rfl (Nat.le_of_ble_eq_true rfl) (by omega) (show 1 ≤ 3 by omega) (Nat.le_refl _) dL_act_5 (pc9 := 8) rfl (fun H1 L1 p1 F1 => ?_)
  have G1 := G0.call (fun _ h => h) F1
  have K1 := G1.sk KZ hkz (fun q hq => by have := hq.1; omega)
  have hP1 := rdw p1
  refine r_istore_n (lv' := [(2, .int (iI (F 0))), (0, .ref b), (1, .int (iI x))]) C rfl hl (by decide) rfl dL_act_8 (fun ls hl => ?_)
  refine r_iload_n C rfl (lv_at hl 0 rfl) dL_act_9 ?_
  refine r_if_ne (tgt := 17) C (by decide) (by omega) dL_act_10 (fun z9 => ?_) (fun z9 => absurd z9 (by omega))
  refine r_iload_n C rfl (lv_at hl 2 rfl) dL_act_17 ?_
  refine r_bipush C (by decide) dL_act_18 ?_
  refine r_idiv C (by omega) (by omega) dL_act_20 ?_
  refine r_iload_n C rfl (lv_at hl 0 rfl) dL_act_21 ?_
  refine r_irem C (by omega) (by omega) dL_act_22 ?_
  refine r_istore_n (lv' := [(3, .int (iI ((x / 16) % (F 0)))), (2, .int (iI (F 0))), (0, .ref b), (1, .int (iI x))]) C rfl hl (by decide) rfl dL_act_23 (fun ls hl => ?_)
  refine r_iload_n C rfl (lv_at hl 3 rfl) dL_act_24 ?_
  refine r_sipush C (by decide) dL_act_25 ?_
  refine r_idiv C (by omega) (by omega) dL_act_28 ?_
  refine r_bipush C (by decide) dL_act_29 ?_
  refine r_irem C (by omega) (by omega) dL_act_31 ?_
  refine r_istore (lv' := [(4, .int (iI ((x / 128) % 40))), (3, .int (iI ((x / 16) % (F 0)))), (2, .int (iI (F 0))), (0, .ref b), (1, .int (iI x))]) C hl (by decide) rfl dL_act_32 (fun ls hl => ?_)
  refine r_iload_n C rfl (lv_at hl 4 rfl) dL_act_34 ?_
  refine r_bipush C (by decide) dL_act_35 ?_
  refine r_irem C (by omega) (by omega) dL_act_37 ?_
  refine r_tsIn (tgt := 144) C (by omega) 4 hj (by decide) (by decide) rfl (by decide) dL_act_38 ?_
  refine r_aload_n C rfl (lv_at hl 3 rfl) dL_act_144 ?_
  refine r_bipush C (by decide) dL_act_145 ?_
  refine r_iload_n C rfl (lv_at hl 1 rfl) dL_act_147 ?_
  refine r_iload C (lv_at hl 0 rfl) dL_act_148 ?_
  refine r_iconst C dL_act_150 ?_
  refine r_sT (rest := []) (c9 := 3) (r := _) C K1 (k_call_9 l hst g kt b 0 ac z0 F DIA KEP ISK T hJ hT ((x / 16) % (F 0)) ((x / 128) % 40) (by omega) (by omega) (((x / 16) % (F 0) : Int).toNat) (((x / 128) % 40 : Int).toNat) (fun h => (Int.toNat_of_nonneg h).symm) (fun h => (Int.toNat_of_nonneg h).symm) hac 0) (rfl) s_RL_162 hP1 hl.1 rfl ⟨by decide, by decide⟩ rfl (Nat.le_of_ble_eq_true rfl) (by omega) (show 3 ≤ 3 by omega) (Nat.le_refl _) dL_act_151 (pc9 := 154) rfl (fun H2 L2 p2 F2 => ?_)
  have G2 := G1.call (fun _ h => h) F2
  have K2 := G2.sk KZ hkz (fun q hq => by have := hq.1; omega)
  have hP2 := p2.2 hK
  exact r_tret C rfl rfl rfl G2 hP2 (by omega) (by omega) dL_act_154
set_option maxHeartbeats 4000000 in
theorem a_un (l : Launch) (hst : l.stackTraces = false) (g : Gt) (kt : Kt) {ac : Int} {F DIA KEP ISK : Nat → Int} {T : Int} (hI : IVS ac F DIA KEP ISK T) (hT9 : 60 ≤ T ∧ T ≤ 890000) (x : Int) (hx : 0 ≤ x ∧ x < 2147483648) (hj : x % 16 = 5) (h2 : F 0 < 2) : ACT l g kt ac F DIA KEP ISK T x := by
  have hJ := hI.j
  have hac := hI.acb
  have hn := hJ.n
  have h1 := hI.ev.1
  have hT : T ≤ 900000 := by omega
  have hs0 : 0 ≤ x / 16 % F 0 := Int.emod_nonneg _ (by omega)
  have hs1 : x / 16 % F 0 < F 0 := Int.emod_lt_of_pos _ (by omega)
  refine ⟨-1, ac, F, DIA, KEP, ISK, hI.mono (by omega), fun b hkb => ?_⟩
  refine tm_of "LentRoomLaw" (by decide) rfl (Nat.le_of_ble_eq_true rfl) ?_
  intro zp ze zs zm za zb zt zc ls C KZ hP G0 hl
  have hl : lv_has ls 5 [(0, .ref b), (1, .int (iI x))] := hl
  have hlt := hP.lt
  have hkz : kt.1 ≤ zs.heap.size := by omega
  refine r_aload_n C rfl (lv_at hl 0 rfl) dL_act_0 ?_
  refine r_iconst C dL_act_1 ?_
  refine r_iconst C dL_act_2 ?_
  refine r_iconst C dL_act_3 ?_
  refine r_iconst C dL_act_4 ?_
  refine r_sT (rest := []) (c9 := 1) (r := F 0) C KZ (k_call_2 l hst g kt b 0 ac z0 F DIA KEP ISK T hJ hT 0 (by omega) 0 0) ((tv_0 (Kd_0.mpr ⟨by omega, by omega⟩)).trans (rfl)) s_RL_162 hP hl.1 rfl ⟨by decide, by decide⟩ rfl (Nat.le_of_ble_eq_true rfl) (by omega) (show 1 ≤ 3 by omega) (Nat.le_refl _) dL_act_5 (pc9 := 8) rfl (fun H1 L1 p1 F1 => ?_)
  have G1 := G0.call (fun _ h => h) F1
  have K1 := G1.sk KZ hkz (fun q hq => by have := hq.1; omega)
  have hP1 := rdw p1
  refine r_istore_n (lv' := [(2, .int (iI (F 0))), (0, .ref b), (1, .int (iI x))]) C rfl hl (by decide) rfl dL_act_8 (fun ls hl => ?_)
  refine r_iload_n C rfl (lv_at hl 0 rfl) dL_act_9 ?_
  refine r_if_ne (tgt := 17) C (by decide) (by omega) dL_act_10 (fun z9 => ?_) (fun z9 => absurd z9 (by omega))
  refine r_iload_n C rfl (lv_at hl 2 rfl) dL_act_17 ?_
  refine r_bipush C (by decide) dL_act_18 ?_
  refine r_idiv C (by omega) (by omega) dL_act_20 ?_
  refine r_iload_n C rfl (lv_at hl 0 rfl) dL_act_21 ?_
  refine r_irem C (by omega) (by omega) dL_act_22 ?_
  refine r_istore_n (lv' := [(3, .int (iI ((x / 16) % (F 0)))), (2, .int (iI (F 0))), (0, .ref b), (1, .int (iI x))]) C rfl hl (by decide) rfl dL_act_23 (fun ls hl => ?_)
  refine r_iload_n C rfl (lv_at hl 3 rfl) dL_act_24 ?_
  refine r_sipush C (by decide) dL_act_25 ?_
  refine r_idiv C (by omega) (by omega) dL_act_28 ?_
  refine r_bipush C (by decide) dL_act_29 ?_
  refine r_irem C (by omega) (by omega) dL_act_31 ?_
  refine r_istore (lv' := [(4, .int (iI ((x / 128) % 40))), (3, .int (iI ((x / 16) % (F 0)))), (2, .int (iI (F 0))), (0, .ref b), (1, .int (iI x))]) C hl (by decide) rfl dL_act_32 (fun ls hl => ?_)
  refine r_iload_n C rfl (lv_at hl 4 rfl) dL_act_34 ?_
  refine r_bipush C (by decide) dL_act_35 ?_
  refine r_irem C (by omega) (by omega) dL_act_37 ?_
  refine r_tsIn (tgt := 155) C (by omega) 5 hj (by decide) (by decide) rfl (by decide) dL_act_38 ?_
  refine r_iload_n C rfl (lv_at hl 2 rfl) dL_act_155 ?_
  refine r_iconst C dL_act_156 ?_
  refine r_icmp_ge (tgt := 164) C (by decide) (by omega) (by decide) dL_act_157 (fun z9 => absurd z9 (by omega)) (fun z9 => ?_)
  refine r_iconst C dL_act_160 ?_
  refine r_goto (tgt := 173) C (by decide) dL_act_161 ?_
  exact r_tret C rfl rfl rfl G1 hP1 (by omega) (by omega) dL_act_173
set_option maxHeartbeats 4000000 in
theorem a_un0 (l : Launch) (hst : l.stackTraces = false) (g : Gt) (kt : Kt) {ac : Int} {F DIA KEP ISK : Nat → Int} {T : Int} (hI : IVS ac F DIA KEP ISK T) (hT9 : 60 ≤ T ∧ T ≤ 890000) (x : Int) (hx : 0 ≤ x ∧ x < 2147483648) (hj : x % 16 = 5) (h2 : 2 ≤ F 0) (hz : ac ≠ 0) : ACT l g kt ac F DIA KEP ISK T x := by
  have hJ := hI.j
  have hac := hI.acb
  have hn := hJ.n
  have h1 := hI.ev.1
  have hT : T ≤ 900000 := by omega
  have hs0 : 0 ≤ x / 16 % F 0 := Int.emod_nonneg _ (by omega)
  have hs1 : x / 16 % F 0 < F 0 := Int.emod_lt_of_pos _ (by omega)
  have hK : (Kd (ac ≠ 0)) = 0 := Kd_0.mpr hz
  refine ⟨ac - 1, ac - 1, fun k => DIA (262 * (ac - 1).toNat + k), DIA, KEP, ISK, (hI.pop hz (Or.inl h2)).mono (by omega), fun b hkb => ?_⟩
  refine tm_of "LentRoomLaw" (by decide) rfl (Nat.le_of_ble_eq_true rfl) ?_
  intro zp ze zs zm za zb zt zc ls C KZ hP G0 hl
  have hl : lv_has ls 5 [(0, .ref b), (1, .int (iI x))] := hl
  have hlt := hP.lt
  have hkz : kt.1 ≤ zs.heap.size := by omega
  refine r_aload_n C rfl (lv_at hl 0 rfl) dL_act_0 ?_
  refine r_iconst C dL_act_1 ?_
  refine r_iconst C dL_act_2 ?_
  refine r_iconst C dL_act_3 ?_
  refine r_iconst C dL_act_4 ?_
  refine r_sT (rest := []) (c9 := 1) (r := F 0) C KZ (k_call_2 l hst g kt b 0 ac z0 F DIA KEP ISK T hJ hT 0 (by omega) 0 0) ((tv_0 (Kd_0.mpr ⟨by omega, by omega⟩)).trans (rfl)) s_RL_162 hP hl.1 rfl ⟨by decide, by decide⟩ rfl (Nat.le_of_ble_eq_true rfl) (by omega) (show 1 ≤ 3 by omega) (Nat.le_refl _) dL_act_5 (pc9 := 8) rfl (fun H1 L1 p1 F1 => ?_)
  have G1 := G0.call (fun _ h => h) F1
  have K1 := G1.sk KZ hkz (fun q hq => by have := hq.1; omega)
  have hP1 := rdw p1
  refine r_istore_n (lv' := [(2, .int (iI (F 0))), (0, .ref b), (1, .int (iI x))]) C rfl hl (by decide) rfl dL_act_8 (fun ls hl => ?_)
  refine r_iload_n C rfl (lv_at hl 0 rfl) dL_act_9 ?_
  refine r_if_ne (tgt := 17) C (by decide) (by omega) dL_act_10 (fun z9 => ?_) (fun z9 => absurd z9 (by omega))
  refine r_iload_n C rfl (lv_at hl 2 rfl) dL_act_17 ?_
  refine r_bipush C (by decide) dL_act_18 ?_
  refine r_idiv C (by omega) (by omega) dL_act_20 ?_
  refine r_iload_n C rfl (lv_at hl 0 rfl) dL_act_21 ?_
  refine r_irem C (by omega) (by omega) dL_act_22 ?_
  refine r_istore_n (lv' := [(3, .int (iI ((x / 16) % (F 0)))), (2, .int (iI (F 0))), (0, .ref b), (1, .int (iI x))]) C rfl hl (by decide) rfl dL_act_23 (fun ls hl => ?_)
  refine r_iload_n C rfl (lv_at hl 3 rfl) dL_act_24 ?_
  refine r_sipush C (by decide) dL_act_25 ?_
  refine r_idiv C (by omega) (by omega) dL_act_28 ?_
  refine r_bipush C (by decide) dL_act_29 ?_
  refine r_irem C (by omega) (by omega) dL_act_31 ?_
  refine r_istore (lv' := [(4, .int (iI ((x / 128) % 40))), (3, .int (iI ((x / 16) % (F 0)))), (2, .int (iI (F 0))), (0, .ref b), (1, .int (iI x))]) C hl (by decide) rfl dL_act_32 (fun ls hl => ?_)
  refine r_iload_n C rfl (lv_at hl 4 rfl) dL_act_34 ?_
  refine r_bipush C (by decide) dL_act_35 ?_
  refine r_irem C (by omega) (by omega) dL_act_37 ?_
  refine r_tsIn (tgt := 155) C (by omega) 5 hj (by decide) (by decide) rfl (by decide) dL_act_38 ?_
  refine r_iload_n C rfl (lv_at hl 2 rfl) dL_act_155 ?_
  refine r_iconst C dL_act_156 ?_
  refine r_icmp_ge (tgt := 164) C (by decide) (by omega) (by decide) dL_act_157 (fun z9 => ?_) (fun z9 => absurd z9 (by omega))
  refine r_aload_n C rfl (lv_at hl 3 rfl) dL_act_164 ?_
  refine r_bipush C (by decide) dL_act_165 ?_
  refine r_iconst C dL_act_167 ?_
  refine r_iconst C dL_act_168 ?_
  refine r_iconst C dL_act_169 ?_
  refine r_sT (rest := []) (c9 := 2) (r := _) C K1 (k_call_12 l hst g kt b 0 ac z0 F DIA KEP ISK T hJ hT hac 0 0 0) (tv_0 hK) s_RL_162 hP1 hl.1 rfl ⟨by decide, by decide⟩ rfl (Nat.le_of_ble_eq_true rfl) (by omega) (show 2 ≤ 3 by omega) (Nat.le_refl _) dL_act_170 (pc9 := 173) rfl (fun H2 L2 p2 F2 => ?_)
  have G2 := G1.call (fun _ h => h) F2
  have K2 := G2.sk KZ hkz (fun q hq => by have := hq.1; omega)
  have hP2 := p2.1 hK
  exact r_tret C rfl rfl rfl G2 hP2 (by omega) (by omega) dL_act_173
set_option maxHeartbeats 4000000 in
theorem a_un1 (l : Launch) (hst : l.stackTraces = false) (g : Gt) (kt : Kt) {ac : Int} {F DIA KEP ISK : Nat → Int} {T : Int} (hI : IVS ac F DIA KEP ISK T) (hT9 : 60 ≤ T ∧ T ≤ 890000) (x : Int) (hx : 0 ≤ x ∧ x < 2147483648) (hj : x % 16 = 5) (h2 : 2 ≤ F 0) (hz : ac = 0) : ACT l g kt ac F DIA KEP ISK T x := by
  have hJ := hI.j
  have hac := hI.acb
  have hn := hJ.n
  have h1 := hI.ev.1
  have hT : T ≤ 900000 := by omega
  have hs0 : 0 ≤ x / 16 % F 0 := Int.emod_nonneg _ (by omega)
  have hs1 : x / 16 % F 0 < F 0 := Int.emod_lt_of_pos _ (by omega)
  have hK : (Kd (ac ≠ 0)) ≠ 0 := by rw [Kd_f (by omega)]; decide
  refine ⟨tv [-9999003] (Kd (ac ≠ 0)) (ac - 1), ac, F, DIA, KEP, ISK, hI.mono (by omega), fun b hkb => ?_⟩
  refine tm_of "LentRoomLaw" (by decide) rfl (Nat.le_of_ble_eq_true rfl) ?_
  intro zp ze zs zm za zb zt zc ls C KZ hP G0 hl
  have hl : lv_has ls 5 [(0, .ref b), (1, .int (iI x))] := hl
  have hlt := hP.lt
  have hkz : kt.1 ≤ zs.heap.size := by omega
  refine r_aload_n C rfl (lv_at hl 0 rfl) dL_act_0 ?_
  refine r_iconst C dL_act_1 ?_
  refine r_iconst C dL_act_2 ?_
  refine r_iconst C dL_act_3 ?_
  refine r_iconst C dL_act_4 ?_
  refine r_sT (rest := []) (c9 := 1) (r := F 0) C KZ (k_call_2 l hst g kt b 0 ac z0 F DIA KEP ISK T hJ hT 0 (by omega) 0 0) ((tv_0 (Kd_0.mpr ⟨by omega, by omega⟩)).trans (rfl)) s_RL_162 hP hl.1 rfl ⟨by decide, by decide⟩ rfl (Nat.le_of_ble_eq_true rfl) (by omega) (show 1 ≤ 3 by omega) (Nat.le_refl _) dL_act_5 (pc9 := 8) rfl (fun H1 L1 p1 F1 => ?_)
  have G1 := G0.call (fun _ h => h) F1
  have K1 := G1.sk KZ hkz (fun q hq => by have := hq.1; omega)
  have hP1 := rdw p1
  refine r_istore_n (lv' := [(2, .int (iI (F 0))), (0, .ref b), (1, .int (iI x))]) C rfl hl (by decide) rfl dL_act_8 (fun ls hl => ?_)
  refine r_iload_n C rfl (lv_at hl 0 rfl) dL_act_9 ?_
  refine r_if_ne (tgt := 17) C (by decide) (by omega) dL_act_10 (fun z9 => ?_) (fun z9 => absurd z9 (by omega))
  refine r_iload_n C rfl (lv_at hl 2 rfl) dL_act_17 ?_
  refine r_bipush C (by decide) dL_act_18 ?_
  refine r_idiv C (by omega) (by omega) dL_act_20 ?_
  refine r_iload_n C rfl (lv_at hl 0 rfl) dL_act_21 ?_
  refine r_irem C (by omega) (by omega) dL_act_22 ?_
  refine r_istore_n (lv' := [(3, .int (iI ((x / 16) % (F 0)))), (2, .int (iI (F 0))), (0, .ref b), (1, .int (iI x))]) C rfl hl (by decide) rfl dL_act_23 (fun ls hl => ?_)
  refine r_iload_n C rfl (lv_at hl 3 rfl) dL_act_24 ?_
  refine r_sipush C (by decide) dL_act_25 ?_
  refine r_idiv C (by omega) (by omega) dL_act_28 ?_
  refine r_bipush C (by decide) dL_act_29 ?_
  refine r_irem C (by omega) (by omega) dL_act_31 ?_
  refine r_istore (lv' := [(4, .int (iI ((x / 128) % 40))), (3, .int (iI ((x / 16) % (F 0)))), (2, .int (iI (F 0))), (0, .ref b), (1, .int (iI x))]) C hl (by decide) rfl dL_act_32 (fun ls hl => ?_)
  refine r_iload_n C rfl (lv_at hl 4 rfl) dL_act_34 ?_
  refine r_bipush C (by decide) dL_act_35 ?_
  refine r_irem C (by omega) (by omega) dL_act_37 ?_
  refine r_tsIn (tgt := 155) C (by omega) 5 hj (by decide) (by decide) rfl (by decide) dL_act_38 ?_
  refine r_iload_n C rfl (lv_at hl 2 rfl) dL_act_155 ?_
  refine r_iconst C dL_act_156 ?_
  refine r_icmp_ge (tgt := 164) C (by decide) (by omega) (by decide) dL_act_157 (fun z9 => ?_) (fun z9 => absurd z9 (by omega))
  refine r_aload_n C rfl (lv_at hl 3 rfl) dL_act_164 ?_
  refine r_bipush C (by decide) dL_act_165 ?_
  refine r_iconst C dL_act_167 ?_
  refine r_iconst C dL_act_168 ?_
  refine r_iconst C dL_act_169 ?_
  refine r_sT (rest := []) (c9 := 2) (r := _) C K1 (k_call_12 l hst g kt b 0 ac z0 F DIA KEP ISK T hJ hT hac 0 0 0) (rfl) s_RL_162 hP1 hl.1 rfl ⟨by decide, by decide⟩ rfl (Nat.le_of_ble_eq_true rfl) (by omega) (show 2 ≤ 3 by omega) (Nat.le_refl _) dL_act_170 (pc9 := 173) rfl (fun H2 L2 p2 F2 => ?_)
  have G2 := G1.call (fun _ h => h) F2
  have K2 := G2.sk KZ hkz (fun q hq => by have := hq.1; omega)
  have hP2 := p2.2 hK
  exact r_tret C rfl rfl rfl G2 hP2 (by omega) (by omega) dL_act_173
set_option maxHeartbeats 4000000 in
theorem a_kp (l : Launch) (hst : l.stackTraces = false) (g : Gt) (kt : Kt) {ac : Int} {F DIA KEP ISK : Nat → Int} {T : Int} (hI : IVS ac F DIA KEP ISK T) (hT9 : 60 ≤ T ∧ T ≤ 890000) (x : Int) (hx : 0 ≤ x ∧ x < 2147483648) (hj : x % 16 = 6) : ACT l g kt ac F DIA KEP ISK T x := by
  have hJ := hI.j
  have hac := hI.acb
  have hn := hJ.n
  have h1 := hI.ev.1
  have hT : T ≤ 900000 := by omega
  have hs0 : 0 ≤ x / 16 % F 0 := Int.emod_nonneg _ (by omega)
  have hs1 : x / 16 % F 0 < F 0 := Int.emod_lt_of_pos _ (by omega)
  have hK : (Kd (0 ≤ (x / 16 % 2) ∧ (x / 16 % 2) ≤ 1)) = 0 := Kd_0.mpr ⟨by omega, by omega⟩
  refine ⟨tkA F, ac, F, DIA, cpy KEP F (262 * (x / 16 % 2 : Int).toNat) 0 262, up ISK (x / 16 % 2 : Int).toNat 1, (hI.keep (k := (x / 16 % 2 : Int).toNat) (by omega)).mono (by omega), fun b hkb => ?_⟩
  refine tm_of "LentRoomLaw" (by decide) rfl (Nat.le_of_ble_eq_true rfl) ?_
  intro zp ze zs zm za zb zt zc ls C KZ hP G0 hl
  have hl : lv_has ls 5 [(0, .ref b), (1, .int (iI x))] := hl
  have hlt := hP.lt
  have hkz : kt.1 ≤ zs.heap.size := by omega
  refine r_aload_n C rfl (lv_at hl 0 rfl) dL_act_0 ?_
  refine r_iconst C dL_act_1 ?_
  refine r_iconst C dL_act_2 ?_
  refine r_iconst C dL_act_3 ?_
  refine r_iconst C dL_act_4 ?_
  refine r_sT (rest := []) (c9 := 1) (r := F 0) C KZ (k_call_2 l hst g kt b 0 ac z0 F DIA KEP ISK T hJ hT 0 (by omega) 0 0) ((tv_0 (Kd_0.mpr ⟨by omega, by omega⟩)).trans (rfl)) s_RL_162 hP hl.1 rfl ⟨by decide, by decide⟩ rfl (Nat.le_of_ble_eq_true rfl) (by omega) (show 1 ≤ 3 by omega) (Nat.le_refl _) dL_act_5 (pc9 := 8) rfl (fun H1 L1 p1 F1 => ?_)
  have G1 := G0.call (fun _ h => h) F1
  have K1 := G1.sk KZ hkz (fun q hq => by have := hq.1; omega)
  have hP1 := rdw p1
  refine r_istore_n (lv' := [(2, .int (iI (F 0))), (0, .ref b), (1, .int (iI x))]) C rfl hl (by decide) rfl dL_act_8 (fun ls hl => ?_)
  refine r_iload_n C rfl (lv_at hl 0 rfl) dL_act_9 ?_
  refine r_if_ne (tgt := 17) C (by decide) (by omega) dL_act_10 (fun z9 => ?_) (fun z9 => absurd z9 (by omega))
  refine r_iload_n C rfl (lv_at hl 2 rfl) dL_act_17 ?_
  refine r_bipush C (by decide) dL_act_18 ?_
  refine r_idiv C (by omega) (by omega) dL_act_20 ?_
  refine r_iload_n C rfl (lv_at hl 0 rfl) dL_act_21 ?_
  refine r_irem C (by omega) (by omega) dL_act_22 ?_
  refine r_istore_n (lv' := [(3, .int (iI ((x / 16) % (F 0)))), (2, .int (iI (F 0))), (0, .ref b), (1, .int (iI x))]) C rfl hl (by decide) rfl dL_act_23 (fun ls hl => ?_)
  refine r_iload_n C rfl (lv_at hl 3 rfl) dL_act_24 ?_
  refine r_sipush C (by decide) dL_act_25 ?_
  refine r_idiv C (by omega) (by omega) dL_act_28 ?_
  refine r_bipush C (by decide) dL_act_29 ?_
  refine r_irem C (by omega) (by omega) dL_act_31 ?_
  refine r_istore (lv' := [(4, .int (iI ((x / 128) % 40))), (3, .int (iI ((x / 16) % (F 0)))), (2, .int (iI (F 0))), (0, .ref b), (1, .int (iI x))]) C hl (by decide) rfl dL_act_32 (fun ls hl => ?_)
  refine r_iload_n C rfl (lv_at hl 4 rfl) dL_act_34 ?_
  refine r_bipush C (by decide) dL_act_35 ?_
  refine r_irem C (by omega) (by omega) dL_act_37 ?_
  refine r_tsIn (tgt := 174) C (by omega) 6 hj (by decide) (by decide) rfl (by decide) dL_act_38 ?_
  refine r_aload_n C rfl (lv_at hl 3 rfl) dL_act_174 ?_
  refine r_bipush C (by decide) dL_act_175 ?_
  refine r_iload_n C rfl (lv_at hl 4 rfl) dL_act_177 ?_
  refine r_bipush C (by decide) dL_act_178 ?_
  refine r_idiv C (by omega) (by omega) dL_act_180 ?_
  refine r_iconst C dL_act_181 ?_
  refine r_irem C (by omega) (by omega) dL_act_182 ?_
  refine r_iconst C dL_act_183 ?_
  refine r_iconst C dL_act_184 ?_
  refine r_sT (rest := []) (c9 := 2) (r := _) C K1 (k_call_19 l hst g kt b 0 ac z0 F DIA KEP ISK T hJ hT ((x / 16) % 2) (by omega) (((x / 16) % 2 : Int).toNat) (fun h => (Int.toNat_of_nonneg h).symm) 0 0) (tv_0 hK) s_RL_162 hP1 hl.1 rfl ⟨by decide, by decide⟩ rfl (Nat.le_of_ble_eq_true rfl) (by omega) (show 2 ≤ 3 by omega) (Nat.le_refl _) dL_act_185 (pc9 := 188) rfl (fun H2 L2 p2 F2 => ?_)
  have G2 := G1.call (fun _ h => h) F2
  have K2 := G2.sk KZ hkz (fun q hq => by have := hq.1; omega)
  have hP2 := p2.1 hK
  exact r_tret C rfl rfl rfl G2 hP2 (by omega) (by omega) dL_act_188
set_option maxHeartbeats 4000000 in
theorem a_bk0 (l : Launch) (hst : l.stackTraces = false) (g : Gt) (kt : Kt) {ac : Int} {F DIA KEP ISK : Nat → Int} {T : Int} (hI : IVS ac F DIA KEP ISK T) (hT9 : 60 ≤ T ∧ T ≤ 890000) (x : Int) (hx : 0 ≤ x ∧ x < 2147483648) (hj : x % 16 = 7) (hz : ISK (x / 16 % 2 : Int).toNat ≠ 0) : ACT l g kt ac F DIA KEP ISK T x := by
  have hJ := hI.j
  have hac := hI.acb
  have hn := hJ.n
  have h1 := hI.ev.1
  have hT : T ≤ 900000 := by omega
  have hs0 : 0 ≤ x / 16 % F 0 := Int.emod_nonneg _ (by omega)
  have hs1 : x / 16 % F 0 < F 0 := Int.emod_lt_of_pos _ (by omega)
  have hK : ((if ¬ (0 ≤ (x / 16 % 2) ∧ (x / 16 % 2) ≤ 1) then 1 else if ISK ((x / 16 % 2 : Int).toNat) = 0 then 2 else 0) : Int) = 0 := by rw [if_neg (by omega), if_neg hz]
  refine ⟨tkA (fun i => KEP (262 * ((x / 16 % 2 : Int).toNat) + i)), 0, fun i => KEP (262 * (x / 16 % 2 : Int).toNat + i), DIA, KEP, ISK, (hI.back (k := (x / 16 % 2 : Int).toNat) (by omega) hz).mono (by omega), fun b hkb => ?_⟩
  refine tm_of "LentRoomLaw" (by decide) rfl (Nat.le_of_ble_eq_true rfl) ?_
  intro zp ze zs zm za zb zt zc ls C KZ hP G0 hl
  have hl : lv_has ls 5 [(0, .ref b), (1, .int (iI x))] := hl
  have hlt := hP.lt
  have hkz : kt.1 ≤ zs.heap.size := by omega
  refine r_aload_n C rfl (lv_at hl 0 rfl) dL_act_0 ?_
  refine r_iconst C dL_act_1 ?_
  refine r_iconst C dL_act_2 ?_
  refine r_iconst C dL_act_3 ?_
  refine r_iconst C dL_act_4 ?_
  refine r_sT (rest := []) (c9 := 1) (r := F 0) C KZ (k_call_2 l hst g kt b 0 ac z0 F DIA KEP ISK T hJ hT 0 (by omega) 0 0) ((tv_0 (Kd_0.mpr ⟨by omega, by omega⟩)).trans (rfl)) s_RL_162 hP hl.1 rfl ⟨by decide, by decide⟩ rfl (Nat.le_of_ble_eq_true rfl) (by omega) (show 1 ≤ 3 by omega) (Nat.le_refl _) dL_act_5 (pc9 := 8) rfl (fun H1 L1 p1 F1 => ?_)
  have G1 := G0.call (fun _ h => h) F1
  have K1 := G1.sk KZ hkz (fun q hq => by have := hq.1; omega)
  have hP1 := rdw p1
  refine r_istore_n (lv' := [(2, .int (iI (F 0))), (0, .ref b), (1, .int (iI x))]) C rfl hl (by decide) rfl dL_act_8 (fun ls hl => ?_)
  refine r_iload_n C rfl (lv_at hl 0 rfl) dL_act_9 ?_
  refine r_if_ne (tgt := 17) C (by decide) (by omega) dL_act_10 (fun z9 => ?_) (fun z9 => absurd z9 (by omega))
  refine r_iload_n C rfl (lv_at hl 2 rfl) dL_act_17 ?_
  refine r_bipush C (by decide) dL_act_18 ?_
  refine r_idiv C (by omega) (by omega) dL_act_20 ?_
  refine r_iload_n C rfl (lv_at hl 0 rfl) dL_act_21 ?_
  refine r_irem C (by omega) (by omega) dL_act_22 ?_
  refine r_istore_n (lv' := [(3, .int (iI ((x / 16) % (F 0)))), (2, .int (iI (F 0))), (0, .ref b), (1, .int (iI x))]) C rfl hl (by decide) rfl dL_act_23 (fun ls hl => ?_)
  refine r_iload_n C rfl (lv_at hl 3 rfl) dL_act_24 ?_
  refine r_sipush C (by decide) dL_act_25 ?_
  refine r_idiv C (by omega) (by omega) dL_act_28 ?_
  refine r_bipush C (by decide) dL_act_29 ?_
  refine r_irem C (by omega) (by omega) dL_act_31 ?_
  refine r_istore (lv' := [(4, .int (iI ((x / 128) % 40))), (3, .int (iI ((x / 16) % (F 0)))), (2, .int (iI (F 0))), (0, .ref b), (1, .int (iI x))]) C hl (by decide) rfl dL_act_32 (fun ls hl => ?_)
  refine r_iload_n C rfl (lv_at hl 4 rfl) dL_act_34 ?_
  refine r_bipush C (by decide) dL_act_35 ?_
  refine r_irem C (by omega) (by omega) dL_act_37 ?_
  refine r_tsIn (tgt := 189) C (by omega) 7 hj (by decide) (by decide) rfl (by decide) dL_act_38 ?_
  refine r_aload_n C rfl (lv_at hl 3 rfl) dL_act_189 ?_
  refine r_bipush C (by decide) dL_act_190 ?_
  refine r_iload_n C rfl (lv_at hl 4 rfl) dL_act_192 ?_
  refine r_bipush C (by decide) dL_act_193 ?_
  refine r_idiv C (by omega) (by omega) dL_act_195 ?_
  refine r_iconst C dL_act_196 ?_
  refine r_irem C (by omega) (by omega) dL_act_197 ?_
  refine r_iconst C dL_act_198 ?_
  refine r_iconst C dL_act_199 ?_
  refine r_sT (rest := []) (c9 := 3) (r := _) C K1 (k_call_20 l hst g kt b 0 ac z0 F DIA KEP ISK T hJ hT ((x / 16) % 2) (by omega) (((x / 16) % 2 : Int).toNat) (fun h => (Int.toNat_of_nonneg h).symm) (fun k hk => (hI.2.2.2.1 k hk).1) (fun hx hz => (hI.2.2.2.1 _ (by omega)).2 hz) 0 0) (tv_0 hK) s_RL_162 hP1 hl.1 rfl ⟨by decide, by decide⟩ rfl (Nat.le_of_ble_eq_true rfl) (by omega) (show 3 ≤ 3 by omega) (Nat.le_refl _) dL_act_200 (pc9 := 203) rfl (fun H2 L2 p2 F2 => ?_)
  have G2 := G1.call (fun _ h => h) F2
  have K2 := G2.sk KZ hkz (fun q hq => by have := hq.1; omega)
  have hP2 := p2.1 hK
  exact r_tret C rfl rfl rfl G2 hP2 (by omega) (by omega) dL_act_203
set_option maxHeartbeats 4000000 in
theorem a_bk1 (l : Launch) (hst : l.stackTraces = false) (g : Gt) (kt : Kt) {ac : Int} {F DIA KEP ISK : Nat → Int} {T : Int} (hI : IVS ac F DIA KEP ISK T) (hT9 : 60 ≤ T ∧ T ≤ 890000) (x : Int) (hx : 0 ≤ x ∧ x < 2147483648) (hj : x % 16 = 7) (hz : ISK (x / 16 % 2 : Int).toNat = 0) : ACT l g kt ac F DIA KEP ISK T x := by
  have hJ := hI.j
  have hac := hI.acb
  have hn := hJ.n
  have h1 := hI.ev.1
  have hT : T ≤ 900000 := by omega
  have hs0 : 0 ≤ x / 16 % F 0 := Int.emod_nonneg _ (by omega)
  have hs1 : x / 16 % F 0 < F 0 := Int.emod_lt_of_pos _ (by omega)
  have hK : ((if ¬ (0 ≤ (x / 16 % 2) ∧ (x / 16 % 2) ≤ 1) then 1 else if ISK ((x / 16 % 2 : Int).toNat) = 0 then 2 else 0) : Int) ≠ 0 := by rw [if_neg (by omega), if_pos hz]; decide
  refine ⟨tv [-9999001, -9999003] (if ¬ (0 ≤ (x / 16 % 2) ∧ (x / 16 % 2) ≤ 1) then 1 else if ISK ((x / 16 % 2 : Int).toNat) = 0 then 2 else 0) (tkA (fun i => KEP (262 * ((x / 16 % 2 : Int).toNat) + i))), ac, F, DIA, KEP, ISK, hI.mono (by omega), fun b hkb => ?_⟩
  refine tm_of "LentRoomLaw" (by decide) rfl (Nat.le_of_ble_eq_true rfl) ?_
  intro zp ze zs zm za zb zt zc ls C KZ hP G0 hl
  have hl : lv_has ls 5 [(0, .ref b), (1, .int (iI x))] := hl
  have hlt := hP.lt
  have hkz : kt.1 ≤ zs.heap.size := by omega
  refine r_aload_n C rfl (lv_at hl 0 rfl) dL_act_0 ?_
  refine r_iconst C dL_act_1 ?_
  refine r_iconst C dL_act_2 ?_
  refine r_iconst C dL_act_3 ?_
  refine r_iconst C dL_act_4 ?_
  refine r_sT (rest := []) (c9 := 1) (r := F 0) C KZ (k_call_2 l hst g kt b 0 ac z0 F DIA KEP ISK T hJ hT 0 (by omega) 0 0) ((tv_0 (Kd_0.mpr ⟨by omega, by omega⟩)).trans (rfl)) s_RL_162 hP hl.1 rfl ⟨by decide, by decide⟩ rfl (Nat.le_of_ble_eq_true rfl) (by omega) (show 1 ≤ 3 by omega) (Nat.le_refl _) dL_act_5 (pc9 := 8) rfl (fun H1 L1 p1 F1 => ?_)
  have G1 := G0.call (fun _ h => h) F1
  have K1 := G1.sk KZ hkz (fun q hq => by have := hq.1; omega)
  have hP1 := rdw p1
  refine r_istore_n (lv' := [(2, .int (iI (F 0))), (0, .ref b), (1, .int (iI x))]) C rfl hl (by decide) rfl dL_act_8 (fun ls hl => ?_)
  refine r_iload_n C rfl (lv_at hl 0 rfl) dL_act_9 ?_
  refine r_if_ne (tgt := 17) C (by decide) (by omega) dL_act_10 (fun z9 => ?_) (fun z9 => absurd z9 (by omega))
  refine r_iload_n C rfl (lv_at hl 2 rfl) dL_act_17 ?_
  refine r_bipush C (by decide) dL_act_18 ?_
  refine r_idiv C (by omega) (by omega) dL_act_20 ?_
  refine r_iload_n C rfl (lv_at hl 0 rfl) dL_act_21 ?_
  refine r_irem C (by omega) (by omega) dL_act_22 ?_
  refine r_istore_n (lv' := [(3, .int (iI ((x / 16) % (F 0)))), (2, .int (iI (F 0))), (0, .ref b), (1, .int (iI x))]) C rfl hl (by decide) rfl dL_act_23 (fun ls hl => ?_)
  refine r_iload_n C rfl (lv_at hl 3 rfl) dL_act_24 ?_
  refine r_sipush C (by decide) dL_act_25 ?_
  refine r_idiv C (by omega) (by omega) dL_act_28 ?_
  refine r_bipush C (by decide) dL_act_29 ?_
  refine r_irem C (by omega) (by omega) dL_act_31 ?_
  refine r_istore (lv' := [(4, .int (iI ((x / 128) % 40))), (3, .int (iI ((x / 16) % (F 0)))), (2, .int (iI (F 0))), (0, .ref b), (1, .int (iI x))]) C hl (by decide) rfl dL_act_32 (fun ls hl => ?_)
  refine r_iload_n C rfl (lv_at hl 4 rfl) dL_act_34 ?_
  refine r_bipush C (by decide) dL_act_35 ?_
  refine r_irem C (by omega) (by omega) dL_act_37 ?_
  refine r_tsIn (tgt := 189) C (by omega) 7 hj (by decide) (by decide) rfl (by decide) dL_act_38 ?_
  refine r_aload_n C rfl (lv_at hl 3 rfl) dL_act_189 ?_
  refine r_bipush C (by decide) dL_act_190 ?_
  refine r_iload_n C rfl (lv_at hl 4 rfl) dL_act_192 ?_
  refine r_bipush C (by decide) dL_act_193 ?_
  refine r_idiv C (by omega) (by omega) dL_act_195 ?_
  refine r_iconst C dL_act_196 ?_
  refine r_irem C (by omega) (by omega) dL_act_197 ?_
  refine r_iconst C dL_act_198 ?_
  refine r_iconst C dL_act_199 ?_
  refine r_sT (rest := []) (c9 := 3) (r := _) C K1 (k_call_20 l hst g kt b 0 ac z0 F DIA KEP ISK T hJ hT ((x / 16) % 2) (by omega) (((x / 16) % 2 : Int).toNat) (fun h => (Int.toNat_of_nonneg h).symm) (fun k hk => (hI.2.2.2.1 k hk).1) (fun hx hz => (hI.2.2.2.1 _ (by omega)).2 hz) 0 0) (rfl) s_RL_162 hP1 hl.1 rfl ⟨by decide, by decide⟩ rfl (Nat.le_of_ble_eq_true rfl) (by omega) (show 3 ≤ 3 by omega) (Nat.le_refl _) dL_act_200 (pc9 := 203) rfl (fun H2 L2 p2 F2 => ?_)
  have G2 := G1.call (fun _ h => h) F2
  have K2 := G2.sk KZ hkz (fun q hq => by have := hq.1; omega)
  have hP2 := p2.2 hK
  exact r_tret C rfl rfl rfl G2 hP2 (by omega) (by omega) dL_act_203
set_option maxHeartbeats 4000000 in
theorem a_wr (l : Launch) (hst : l.stackTraces = false) (g : Gt) (kt : Kt) {ac : Int} {F DIA KEP ISK : Nat → Int} {T : Int} (hI : IVS ac F DIA KEP ISK T) (hT9 : 60 ≤ T ∧ T ≤ 890000) (x : Int) (hx : 0 ≤ x ∧ x < 2147483648) (hj : 8 ≤ x % 16) : ACT l g kt ac F DIA KEP ISK T x := by
  have hJ := hI.j
  have hac := hI.acb
  have hn := hJ.n
  have h1 := hI.ev.1
  have hT : T ≤ 900000 := by omega
  have hs0 : 0 ≤ x / 16 % F 0 := Int.emod_nonneg _ (by omega)
  have hs1 : x / 16 % F 0 < F 0 := Int.emod_lt_of_pos _ (by omega)
  have hK : (Kd ((0 ≤ (x / 16 % F 0) ∧ (x / 16 % F 0) < F 0) ∧ (0 ≤ (x / 128 % 40) ∧ (x / 128 % 40) < 40))) = 0 := Kd_0.mpr ⟨⟨by omega, by omega⟩, ⟨by omega, by omega⟩⟩
  refine ⟨wrR F ((x / 16 % F 0 : Int).toNat) ((x / 128 % 40 : Int).toNat), remA ac, wrF F (x / 16 % F 0 : Int).toNat (x / 128 % 40 : Int).toNat, rem DIA F ac, KEP, ISK, hI.push (hJ.wr (by omega) (s := (x / 16 % F 0 : Int).toNat) (p := (x / 128 % 40 : Int).toNat) (by omega) (by omega) (by omega)).1 (by omega) (by rw [(hJ.wr (by omega) (s := (x / 16 % F 0 : Int).toNat) (p := (x / 128 % 40 : Int).toNat) (by omega) (by omega) (by omega)).2]; omega), fun b hkb => ?_⟩
  refine tm_of "LentRoomLaw" (by decide) rfl (Nat.le_of_ble_eq_true rfl) ?_
  intro zp ze zs zm za zb zt zc ls C KZ hP G0 hl
  have hl : lv_has ls 5 [(0, .ref b), (1, .int (iI x))] := hl
  have hlt := hP.lt
  have hkz : kt.1 ≤ zs.heap.size := by omega
  refine r_aload_n C rfl (lv_at hl 0 rfl) dL_act_0 ?_
  refine r_iconst C dL_act_1 ?_
  refine r_iconst C dL_act_2 ?_
  refine r_iconst C dL_act_3 ?_
  refine r_iconst C dL_act_4 ?_
  refine r_sT (rest := []) (c9 := 1) (r := F 0) C KZ (k_call_2 l hst g kt b 0 ac z0 F DIA KEP ISK T hJ hT 0 (by omega) 0 0) ((tv_0 (Kd_0.mpr ⟨by omega, by omega⟩)).trans (rfl)) s_RL_162 hP hl.1 rfl ⟨by decide, by decide⟩ rfl (Nat.le_of_ble_eq_true rfl) (by omega) (show 1 ≤ 3 by omega) (Nat.le_refl _) dL_act_5 (pc9 := 8) rfl (fun H1 L1 p1 F1 => ?_)
  have G1 := G0.call (fun _ h => h) F1
  have K1 := G1.sk KZ hkz (fun q hq => by have := hq.1; omega)
  have hP1 := rdw p1
  refine r_istore_n (lv' := [(2, .int (iI (F 0))), (0, .ref b), (1, .int (iI x))]) C rfl hl (by decide) rfl dL_act_8 (fun ls hl => ?_)
  refine r_iload_n C rfl (lv_at hl 0 rfl) dL_act_9 ?_
  refine r_if_ne (tgt := 17) C (by decide) (by omega) dL_act_10 (fun z9 => ?_) (fun z9 => absurd z9 (by omega))
  refine r_iload_n C rfl (lv_at hl 2 rfl) dL_act_17 ?_
  refine r_bipush C (by decide) dL_act_18 ?_
  refine r_idiv C (by omega) (by omega) dL_act_20 ?_
  refine r_iload_n C rfl (lv_at hl 0 rfl) dL_act_21 ?_
  refine r_irem C (by omega) (by omega) dL_act_22 ?_
  refine r_istore_n (lv' := [(3, .int (iI ((x / 16) % (F 0)))), (2, .int (iI (F 0))), (0, .ref b), (1, .int (iI x))]) C rfl hl (by decide) rfl dL_act_23 (fun ls hl => ?_)
  refine r_iload_n C rfl (lv_at hl 3 rfl) dL_act_24 ?_
  refine r_sipush C (by decide) dL_act_25 ?_
  refine r_idiv C (by omega) (by omega) dL_act_28 ?_
  refine r_bipush C (by decide) dL_act_29 ?_
  refine r_irem C (by omega) (by omega) dL_act_31 ?_
  refine r_istore (lv' := [(4, .int (iI ((x / 128) % 40))), (3, .int (iI ((x / 16) % (F 0)))), (2, .int (iI (F 0))), (0, .ref b), (1, .int (iI x))]) C hl (by decide) rfl dL_act_32 (fun ls hl => ?_)
  refine r_iload_n C rfl (lv_at hl 4 rfl) dL_act_34 ?_
  refine r_bipush C (by decide) dL_act_35 ?_
  refine r_irem C (by omega) (by omega) dL_act_37 ?_
  refine r_tsOut (tgt := 204) C (by omega) (by omega) (by decide) dL_act_38 ?_
  refine r_aload_n C rfl (lv_at hl 3 rfl) dL_act_204 ?_
  refine r_bipush C (by decide) dL_act_205 ?_
  refine r_iload_n C rfl (lv_at hl 1 rfl) dL_act_207 ?_
  refine r_iload C (lv_at hl 0 rfl) dL_act_208 ?_
  refine r_iconst C dL_act_210 ?_
  refine r_sT (rest := []) (c9 := 2) (r := _) C K1 (k_call_8 l hst g kt b 0 ac z0 F DIA KEP ISK T hJ hT ((x / 16) % (F 0)) ((x / 128) % 40) (by omega) (by omega) (((x / 16) % (F 0) : Int).toNat) (((x / 128) % 40 : Int).toNat) (fun h => (Int.toNat_of_nonneg h).symm) (fun h => (Int.toNat_of_nonneg h).symm) hac 0) (tv_0 hK) s_RL_162 hP1 hl.1 rfl ⟨by decide, by decide⟩ rfl (Nat.le_of_ble_eq_true rfl) (by omega) (show 2 ≤ 3 by omega) (Nat.le_refl _) dL_act_211 (pc9 := 214) rfl (fun H2 L2 p2 F2 => ?_)
  have G2 := G1.call (fun _ h => h) F2
  have K2 := G2.sk KZ hkz (fun q hq => by have := hq.1; omega)
  have hP2 := p2.1 hK
  exact r_tret C rfl rfl rfl G2 hP2 (by omega) (by omega) dL_act_214
theorem k_act (l : Launch) (hst : l.stackTraces = false) (g : Gt) (kt : Kt) {ac : Int} {F DIA KEP ISK : Nat → Int} {T : Int} (hI : IVS ac F DIA KEP ISK T) (hT9 : 60 ≤ T ∧ T ≤ 890000) (x : Int) (hx : 0 ≤ x ∧ x < 2147483648) : ACT l g kt ac F DIA KEP ISK T x := by
  have hw9 : 0 ≤ x % 16 ∧ x % 16 < 16 := by omega
  by_cases h0 : x % 16 = 0
  · by_cases hK : (whyMk F (x / 16 % 25) (25 + x / 400 % 36)) = 0
    · exact a_mk0 l hst g kt hI hT9 x hx h0 hK
    · exact a_mk1 l hst g kt hI hT9 x hx h0 hK
  by_cases h1 : x % 16 = 1
  · by_cases hK : (whyFl F (x / 16 % F 0) ((x / 16 % F 0 : Int).toNat) (x / 128 % 61)) = 0
    · exact a_fl0 l hst g kt hI hT9 x hx h1 hK
    · exact a_fl1 l hst g kt hI hT9 x hx h1 hK
  by_cases h2 : x % 16 = 2
  · by_cases hK : (whyCe F (x / 16 % F 0) ((x / 16 % F 0 : Int).toNat) (x / 128 % 61)) = 0
    · exact a_ce0 l hst g kt hI hT9 x hx h2 hK
    · exact a_ce1 l hst g kt hI hT9 x hx h2 hK
  by_cases h3 : x % 16 = 3
  · by_cases hw : 0 < F (2 + 52 * (x / 16 % F 0 : Int).toNat + (12 + (x / 128 % 40 : Int).toNat))
    · exact a_tr03 l hst g kt hI hT9 x hx h3 hw
    · exact a_tr13 l hst g kt hI hT9 x hx h3 hw
  by_cases h4 : x % 16 = 4
  · by_cases hw : 0 < F (2 + 52 * (x / 16 % F 0 : Int).toNat + (12 + (x / 128 % 40 : Int).toNat))
    · exact a_tr04 l hst g kt hI hT9 x hx h4 hw
    · exact a_tr14 l hst g kt hI hT9 x hx h4 hw
  by_cases h5 : x % 16 = 5
  · by_cases h9 : F 0 < 2
    · exact a_un l hst g kt hI hT9 x hx h5 h9
    · by_cases hz : ac = 0
      · exact a_un1 l hst g kt hI hT9 x hx h5 (by omega) hz
      · exact a_un0 l hst g kt hI hT9 x hx h5 (by omega) hz
  by_cases h6 : x % 16 = 6
  · exact a_kp l hst g kt hI hT9 x hx h6
  by_cases h7 : x % 16 = 7
  · by_cases hz : ISK (x / 16 % 2 : Int).toNat = 0
    · exact a_bk1 l hst g kt hI hT9 x hx h7 hz
    · exact a_bk0 l hst g kt hI hT9 x hx h7 hz
  exact a_wr l hst g kt hI hT9 x hx (by omega)

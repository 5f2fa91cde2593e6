theorem s_RL_166 : SiteW 166 yL_tryScript cL_tryScript 5 [(0, 6, 7, 13)] 3 := ⟨⟨q_5723, q_5724, q_29, q_5725⟩, by decide, by decide, by decide +kernel⟩
theorem s_RL_172 : SiteW 172 yL_trySimulate cL_trySimulate 5 [(0, 6, 7, 13)] 3 := ⟨⟨q_5745, q_5746, q_29, q_5747⟩, by decide, by decide, by decide +kernel⟩
set_option maxHeartbeats 4000000 in
theorem k_refuses (l : Launch) (hst : l.stackTraces = false) (g : Gt) (kt : Kt) (b : Nat) (hkb : kt.1 ≤ b) {ac : Int} {F DIA KEP ISK : Nat → Int} {T : Int} (hI : IVS ac F DIA KEP ISK T) (hT : T ≤ 900000) (x : Int) (hx : 0 ≤ x ∧ x < 100000) : TM l yL_refuses (.code yL_refuses cL_refuses 4 (some .boolean)) 10 216 35 g kt [.ref b, .int (iI x)] (DW g b ac F DIA KEP ISK) 1 (Cdp b) (DW g b ac F DIA KEP ISK) := by
  refine tm_of "LentRoomLaw" (by decide) rfl (Nat.le_of_ble_eq_true rfl) ?_
  intro zp ze zs zm za zb zt zc ls C KZ hP G0 hl
  have hl : lv_has ls 4 [(0, .ref b), (1, .int (iI x))] := hl
  have hJ := hI.j
  have hac := hI.acb
  have hn := hJ.n
  have h1 := hI.ev.1
  have hlt := hP.lt
  have hkz : kt.1 ≤ zs.heap.size := by omega
  have tail : ∀ (bad a1 : Int), (bad < 0 ∨ 60 < bad) → (-1000 < bad ∧ bad < 1000) → (a1 < 0 ∨ 255 < a1) → (-1000 < a1 ∧ a1 < 1000) → ∀ (H : Heap) (locs : List Loc), DW g b ac F DIA KEP ISK H → GT (Cdp b) zs.heap H locs → ∀ ls : Array Slot, lv_has ls 4 [(3, .int (iI bad)), (2, .int (iI (F 0 + x % 50))), (0, .ref b), (1, .int (iI x))] → W zp l ze (rmx 10 216 35) zs zm za zb zt zc H locs 1 (6 * 1) (MQ zb (TQ 1 (Cdp b) (DW g b ac F DIA KEP ISK)) za zs 35 (6 * 35) (Cdp b)) (F0 zm 62 ls [.int (iI a1), .int (iI 0), .ref b]) := by
    intro bad a1 hbad hbr ha1 har H locs hP G0 ls hl
    have K1 := G0.sk KZ hkz (fun q hq => by have := hq.1; omega)
    refine r_iconst C dL_refuses_62 ?_
    refine r_iconst C dL_refuses_63 ?_
    refine r_sT (rest := []) (c9 := 2) (r := (-9999002)) C K1 (k_call_0 l hst g kt b 0 ac z0 F DIA KEP ISK T hJ hT a1 (by omega) (by omega) z0 (fun _ _ => ⟨Int.le_refl 0, (by decide : (0 : Int) ≤ 255)⟩) 0 0) (by rw [if_pos (by omega)] <;> rfl) s_RL_162 hP hl.1 rfl ⟨by decide, by decide⟩ rfl (Nat.le_of_ble_eq_true rfl) (by omega) (show 2 ≤ 35 by omega) (Nat.le_refl _) dL_refuses_64 (pc9 := 67) rfl (fun H1 L1 p1 F1 => ?_)
    have G1 := G0.call (fun _ h => h) F1
    have K1 := G1.sk KZ hkz (fun q hq => by have := hq.1; omega)
    have hP1 := p1.2 (by rw [if_pos (by omega)]; decide)
    refine r_ldcI (w := -9999002) C (by decide) q_5253 dL_refuses_67 ?_
    refine r_icmp_ne (tgt := 429) C (by decide) (by decide) (by decide) dL_refuses_69 (fun z9 => absurd z9 (by decide)) (fun z9 => ?_)
    refine r_aload_n C rfl (lv_at hl 2 rfl) dL_refuses_72 ?_
    refine r_iconst C dL_refuses_73 ?_
    refine r_bipush C (by decide) dL_refuses_74 ?_
    refine r_iload_n C rfl (lv_at hl 3 rfl) dL_refuses_76 ?_
    refine r_bipush C (by decide) dL_refuses_77 ?_
    refine r_irem C (by omega) (by omega) dL_refuses_79 ?_
    refine r_iadd C dL_refuses_80 ?_
    refine r_iconst C dL_refuses_81 ?_
    refine r_iconst C dL_refuses_82 ?_
    refine r_sT (rest := []) (c9 := 3) (r := (-9999002)) C K1 (k_call_2 l hst g kt b 0 ac z0 F DIA KEP ISK T hJ hT (9 + (x % 50)) (by omega) 0 0) (by rw [Kd_f (by omega)] <;> rfl) s_RL_162 hP1 hl.1 rfl ⟨by decide, by decide⟩ rfl (Nat.le_of_ble_eq_true rfl) (by omega) (show 3 ≤ 35 by omega) (Nat.le_refl _) dL_refuses_83 (pc9 := 86) rfl (fun H2 L2 p2 F2 => ?_)
    have G2 := G1.call (fun _ h => h) F2
    have K2 := G2.sk KZ hkz (fun q hq => by have := hq.1; omega)
    have hP2 := p2.2 (by rw [Kd_f (by omega)]; decide)
    refine r_ldcI (w := -9999002) C (by decide) q_5253 dL_refuses_86 ?_
    refine r_icmp_ne (tgt := 429) C (by decide) (by decide) (by decide) dL_refuses_88 (fun z9 => absurd z9 (by decide)) (fun z9 => ?_)
    refine r_aload_n C rfl (lv_at hl 2 rfl) dL_refuses_91 ?_
    refine r_iconst C dL_refuses_92 ?_
    refine r_iload_n C rfl (lv_at hl 1 rfl) dL_refuses_93 ?_
    refine r_iconst C dL_refuses_94 ?_
    refine r_iconst C dL_refuses_95 ?_
    refine r_sT (rest := []) (c9 := 5) (r := (-9999001)) C K2 (k_call_3 l hst g kt b 0 ac z0 F DIA KEP ISK T hJ hT (F 0 + x % 50) (by omega) ((F 0 + x % 50 : Int).toNat) (fun h => (Int.toNat_of_nonneg h).symm) 0 (by omega) 0) (by rw [if_pos (by omega)] <;> rfl) s_RL_162 hP2 hl.1 rfl ⟨by decide, by decide⟩ rfl (Nat.le_of_ble_eq_true rfl) (by omega) (show 5 ≤ 35 by omega) (Nat.le_refl _) dL_refuses_96 (pc9 := 99) rfl (fun H3 L3 p3 F3 => ?_)
    have G3 := G2.call (fun _ h => h) F3
    have K3 := G3.sk KZ hkz (fun q hq => by have := hq.1; omega)
    have hP3 := p3.2 (by rw [if_pos (by omega)]; decide)
    refine r_ldcI (w := -9999001) C (by decide) q_5528 dL_refuses_99 ?_
    refine r_icmp_ne (tgt := 429) C (by decide) (by decide) (by decide) dL_refuses_101 (fun z9 => absurd z9 (by decide)) (fun z9 => ?_)
    refine r_aload_n C rfl (lv_at hl 2 rfl) dL_refuses_104 ?_
    refine r_iconst C dL_refuses_105 ?_
    refine r_iconst C dL_refuses_106 ?_
    refine r_iload_n C rfl (lv_at hl 1 rfl) dL_refuses_107 ?_
    refine r_iconst C dL_refuses_108 ?_
    refine r_sT (rest := []) (c9 := 7) (r := (-9999001)) C K3 (k_call_4 l hst g kt b 0 ac z0 F DIA KEP ISK T hJ hT 0 (F 0 + x % 50) (by omega) (by omega) ((0 : Int).toNat) ((F 0 + x % 50 : Int).toNat) (fun h => (Int.toNat_of_nonneg h).symm) (fun h => (Int.toNat_of_nonneg h).symm) 0) (by rw [Kd_f (by omega)] <;> rfl) s_RL_162 hP3 hl.1 rfl ⟨by decide, by decide⟩ rfl (Nat.le_of_ble_eq_true rfl) (by omega) (show 7 ≤ 35 by omega) (Nat.le_refl _) dL_refuses_109 (pc9 := 112) rfl (fun H4 L4 p4 F4 => ?_)
    have G4 := G3.call (fun _ h => h) F4
    have K4 := G4.sk KZ hkz (fun q hq => by have := hq.1; omega)
    have hP4 := p4.2 (by rw [Kd_f (by omega)]; decide)
    refine r_ldcI (w := -9999001) C (by decide) q_5528 dL_refuses_112 ?_
    refine r_icmp_ne (tgt := 429) C (by decide) (by decide) (by decide) dL_refuses_114 (fun z9 => absurd z9 (by decide)) (fun z9 => ?_)
    refine r_aload_n C rfl (lv_at hl 2 rfl) dL_refuses_117 ?_
    refine r_iconst C dL_refuses_118 ?_
    refine r_iload_n C rfl (lv_at hl 1 rfl) dL_refuses_119 ?_
    refine r_iconst C dL_refuses_120 ?_
    refine r_iconst C dL_refuses_121 ?_
    refine r_sT (rest := []) (c9 := 8) (r := (-9999001)) C K4 (k_call_5 l hst g kt b 0 ac z0 F DIA KEP ISK T hJ hT (F 0 + x % 50) 0 (by omega) (by omega) ((F 0 + x % 50 : Int).toNat) ((0 : Int).toNat) (fun h => (Int.toNat_of_nonneg h).symm) (fun h => (Int.toNat_of_nonneg h).symm) 0) (by rw [Kd_f (by omega)] <;> rfl) s_RL_162 hP4 hl.1 rfl ⟨by decide, by decide⟩ rfl (Nat.le_of_ble_eq_true rfl) (by omega) (show 8 ≤ 35 by omega) (Nat.le_refl _) dL_refuses_122 (pc9 := 125) rfl (fun H5 L5 p5 F5 => ?_)
    have G5 := G4.call (fun _ h => h) F5
    have K5 := G5.sk KZ hkz (fun q hq => by have := hq.1; omega)
    have hP5 := p5.2 (by rw [Kd_f (by omega)]; decide)
    refine r_ldcI (w := -9999001) C (by decide) q_5528 dL_refuses_125 ?_
    refine r_icmp_ne (tgt := 429) C (by decide) (by decide) (by decide) dL_refuses_127 (fun z9 => absurd z9 (by decide)) (fun z9 => ?_)
    refine r_aload_n C rfl (lv_at hl 2 rfl) dL_refuses_130 ?_
    refine r_bipush C (by decide) dL_refuses_131 ?_
    refine r_iload_n C rfl (lv_at hl 1 rfl) dL_refuses_133 ?_
    refine r_iconst C dL_refuses_134 ?_
    refine r_iconst C dL_refuses_135 ?_
    refine r_sT (rest := []) (c9 := 10) (r := (-9999001)) C K5 (k_call_6 l hst g kt b 0 ac z0 F DIA KEP ISK T hJ hT (F 0 + x % 50) (by omega) ((F 0 + x % 50 : Int).toNat) (fun h => (Int.toNat_of_nonneg h).symm) (-1) (by omega) 0) (by rw [if_pos (by omega)] <;> rfl) s_RL_162 hP5 hl.1 rfl ⟨by decide, by decide⟩ rfl (Nat.le_of_ble_eq_true rfl) (by omega) (show 10 ≤ 35 by omega) (Nat.le_refl _) dL_refuses_136 (pc9 := 139) rfl (fun H6 L6 p6 F6 => ?_)
    have G6 := G5.call (fun _ h => h) F6
    have K6 := G6.sk KZ hkz (fun q hq => by have := hq.1; omega)
    have hP6 := p6.2 (by rw [if_pos (by omega)]; decide)
    refine r_ldcI (w := -9999001) C (by decide) q_5528 dL_refuses_139 ?_
    refine r_icmp_ne (tgt := 429) C (by decide) (by decide) (by decide) dL_refuses_141 (fun z9 => absurd z9 (by decide)) (fun z9 => ?_)
    refine r_aload_n C rfl (lv_at hl 2 rfl) dL_refuses_144 ?_
    refine r_bipush C (by decide) dL_refuses_145 ?_
    refine r_iload_n C rfl (lv_at hl 0 rfl) dL_refuses_147 ?_
    refine r_bipush C (by decide) dL_refuses_148 ?_
    refine r_iconst C dL_refuses_150 ?_
    refine r_sT (rest := []) (c9 := 12) (r := (-9999002)) C K6 (k_call_7 l hst g kt b 0 ac z0 F DIA KEP ISK T hJ hT bad 60 (by omega) (by omega) hac 0) (by unfold whyMk; rw [if_pos (by omega)] <;> rfl) s_RL_162 hP6 hl.1 rfl ⟨by decide, by decide⟩ rfl (Nat.le_of_ble_eq_true rfl) (by omega) (show 12 ≤ 35 by omega) (Nat.le_refl _) dL_refuses_151 (pc9 := 154) rfl (fun H7 L7 p7 F7 => ?_)
    have G7 := G6.call (fun _ h => h) F7
    have K7 := G7.sk KZ hkz (fun q hq => by have := hq.1; omega)
    have hP7 := p7.2 (by unfold whyMk; rw [if_pos (by omega)]; decide)
    refine r_ldcI (w := -9999002) C (by decide) q_5253 dL_refuses_154 ?_
    refine r_icmp_ne (tgt := 429) C (by decide) (by decide) (by decide) dL_refuses_156 (fun z9 => absurd z9 (by decide)) (fun z9 => ?_)
    refine r_aload_n C rfl (lv_at hl 2 rfl) dL_refuses_159 ?_
    refine r_bipush C (by decide) dL_refuses_160 ?_
    refine r_iconst C dL_refuses_162 ?_
    refine r_iconst C dL_refuses_163 ?_
    refine r_iload_n C rfl (lv_at hl 3 rfl) dL_refuses_164 ?_
    refine r_iconst C dL_refuses_165 ?_
    refine r_irem C (by omega) (by omega) dL_refuses_166 ?_
    refine r_isub C dL_refuses_167 ?_
    refine r_iconst C dL_refuses_168 ?_
    refine r_sT (rest := []) (c9 := 14) (r := (-9999002)) C K7 (k_call_7 l hst g kt b 0 ac z0 F DIA KEP ISK T hJ hT 5 (4 - (x % 4)) (by omega) (by omega) hac 0) (by unfold whyMk; rw [if_pos (by omega)] <;> rfl) s_RL_162 hP7 hl.1 rfl ⟨by decide, by decide⟩ rfl (Nat.le_of_ble_eq_true rfl) (by omega) (show 14 ≤ 35 by omega) (Nat.le_refl _) dL_refuses_169 (pc9 := 172) rfl (fun H8 L8 p8 F8 => ?_)
    have G8 := G7.call (fun _ h => h) F8
    have K8 := G8.sk KZ hkz (fun q hq => by have := hq.1; omega)
    have hP8 := p8.2 (by unfold whyMk; rw [if_pos (by omega)]; decide)
    refine r_ldcI (w := -9999002) C (by decide) q_5253 dL_refuses_172 ?_
    refine r_icmp_ne (tgt := 429) C (by decide) (by decide) (by decide) dL_refuses_174 (fun z9 => absurd z9 (by decide)) (fun z9 => ?_)
    refine r_aload_n C rfl (lv_at hl 2 rfl) dL_refuses_177 ?_
    refine r_bipush C (by decide) dL_refuses_178 ?_
    refine r_iload_n C rfl (lv_at hl 1 rfl) dL_refuses_180 ?_
    refine r_iconst C dL_refuses_181 ?_
    refine r_iconst C dL_refuses_182 ?_
    refine r_sT (rest := []) (c9 := 15) (r := (-9999001)) C K8 (k_call_8 l hst g kt b 0 ac z0 F DIA KEP ISK T hJ hT (F 0 + x % 50) 0 (by omega) (by omega) ((F 0 + x % 50 : Int).toNat) ((0 : Int).toNat) (fun h => (Int.toNat_of_nonneg h).symm) (fun h => (Int.toNat_of_nonneg h).symm) hac 0) (by rw [Kd_f (by omega)] <;> rfl) s_RL_162 hP8 hl.1 rfl ⟨by decide, by decide⟩ rfl (Nat.le_of_ble_eq_true rfl) (by omega) (show 15 ≤ 35 by omega) (Nat.le_refl _) dL_refuses_183 (pc9 := 186) rfl (fun H9 L9 p9 F9 => ?_)
    have G9 := G8.call (fun _ h => h) F9
    have K9 := G9.sk KZ hkz (fun q hq => by have := hq.1; omega)
    have hP9 := p9.2 (by rw [Kd_f (by omega)]; decide)
    refine r_ldcI (w := -9999001) C (by decide) q_5528 dL_refuses_186 ?_
    refine r_icmp_ne (tgt := 429) C (by decide) (by decide) (by decide) dL_refuses_188 (fun z9 => absurd z9 (by decide)) (fun z9 => ?_)
    refine r_aload_n C rfl (lv_at hl 2 rfl) dL_refuses_191 ?_
    refine r_bipush C (by decide) dL_refuses_192 ?_
    refine r_iconst C dL_refuses_194 ?_
    refine r_bipush C (by decide) dL_refuses_195 ?_
    refine r_iload_n C rfl (lv_at hl 3 rfl) dL_refuses_197 ?_
    refine r_bipush C (by decide) dL_refuses_198 ?_
    refine r_irem C (by omega) (by omega) dL_refuses_200 ?_
    refine r_iadd C dL_refuses_201 ?_
    refine r_iconst C dL_refuses_202 ?_
    refine r_sT (rest := []) (c9 := 16) (r := (-9999001)) C K9 (k_call_8 l hst g kt b 0 ac z0 F DIA KEP ISK T hJ hT 0 (40 + (x % 99)) (by omega) (by omega) ((0 : Int).toNat) ((40 + (x % 99) : Int).toNat) (fun h => (Int.toNat_of_nonneg h).symm) (fun h => (Int.toNat_of_nonneg h).symm) hac 0) (by rw [Kd_f (by omega)] <;> rfl) s_RL_162 hP9 hl.1 rfl ⟨by decide, by decide⟩ rfl (Nat.le_of_ble_eq_true rfl) (by omega) (show 16 ≤ 35 by omega) (Nat.le_refl _) dL_refuses_203 (pc9 := 206) rfl (fun H10 L10 p10 F10 => ?_)
    have G10 := G9.call (fun _ h => h) F10
    have K10 := G10.sk KZ hkz (fun q hq => by have := hq.1; omega)
    have hP10 := p10.2 (by rw [Kd_f (by omega)]; decide)
    refine r_ldcI (w := -9999001) C (by decide) q_5528 dL_refuses_206 ?_
    refine r_icmp_ne (tgt := 429) C (by decide) (by decide) (by decide) dL_refuses_208 (fun z9 => absurd z9 (by decide)) (fun z9 => ?_)
    refine r_aload_n C rfl (lv_at hl 2 rfl) dL_refuses_211 ?_
    refine r_bipush C (by decide) dL_refuses_212 ?_
    refine r_iload_n C rfl (lv_at hl 1 rfl) dL_refuses_214 ?_
    refine r_iconst C dL_refuses_215 ?_
    refine r_iconst C dL_refuses_216 ?_
    refine r_sT (rest := []) (c9 := 18) (r := (-9999001)) C K10 (k_call_9 l hst g kt b 0 ac z0 F DIA KEP ISK T hJ hT (F 0 + x % 50) 0 (by omega) (by omega) ((F 0 + x % 50 : Int).toNat) ((0 : Int).toNat) (fun h => (Int.toNat_of_nonneg h).symm) (fun h => (Int.toNat_of_nonneg h).symm) hac 0) (by rw [if_pos (by omega)] <;> rfl) s_RL_162 hP10 hl.1 rfl ⟨by decide, by decide⟩ rfl (Nat.le_of_ble_eq_true rfl) (by omega) (show 18 ≤ 35 by omega) (Nat.le_refl _) dL_refuses_217 (pc9 := 220) rfl (fun H11 L11 p11 F11 => ?_)
    have G11 := G10.call (fun _ h => h) F11
    have K11 := G11.sk KZ hkz (fun q hq => by have := hq.1; omega)
    have hP11 := p11.2 (by rw [if_pos (by omega)]; decide)
    refine r_ldcI (w := -9999001) C (by decide) q_5528 dL_refuses_220 ?_
    refine r_icmp_ne (tgt := 429) C (by decide) (by decide) (by decide) dL_refuses_222 (fun z9 => absurd z9 (by decide)) (fun z9 => ?_)
    refine r_aload_n C rfl (lv_at hl 2 rfl) dL_refuses_225 ?_
    refine r_bipush C (by decide) dL_refuses_226 ?_
    refine r_iload_n C rfl (lv_at hl 1 rfl) dL_refuses_228 ?_
    refine r_iload_n C rfl (lv_at hl 0 rfl) dL_refuses_229 ?_
    refine r_iconst C dL_refuses_230 ?_
    refine r_sT (rest := []) (c9 := 20) (r := (-9999001)) C K11 (k_call_10 l hst g kt b 0 ac z0 F DIA KEP ISK T hJ hT (F 0 + x % 50) bad (by omega) (by omega) ((F 0 + x % 50 : Int).toNat) (fun h => (Int.toNat_of_nonneg h).symm) hac 0) (by unfold whyFl; rw [if_pos (by omega)] <;> rfl) s_RL_162 hP11 hl.1 rfl ⟨by decide, by decide⟩ rfl (Nat.le_of_ble_eq_true rfl) (by omega) (show 20 ≤ 35 by omega) (Nat.le_refl _) dL_refuses_231 (pc9 := 234) rfl (fun H12 L12 p12 F12 => ?_)
    have G12 := G11.call (fun _ h => h) F12
    have K12 := G12.sk KZ hkz (fun q hq => by have := hq.1; omega)
    have hP12 := p12.2 (by unfold whyFl; rw [if_pos (by omega)]; decide)
    refine r_ldcI (w := -9999001) C (by decide) q_5528 dL_refuses_234 ?_
    refine r_icmp_ne (tgt := 429) C (by decide) (by decide) (by decide) dL_refuses_236 (fun z9 => absurd z9 (by decide)) (fun z9 => ?_)
    refine r_aload_n C rfl (lv_at hl 2 rfl) dL_refuses_239 ?_
    refine r_bipush C (by decide) dL_refuses_240 ?_
    refine r_iload_n C rfl (lv_at hl 1 rfl) dL_refuses_242 ?_
    refine r_iload_n C rfl (lv_at hl 0 rfl) dL_refuses_243 ?_
    refine r_iconst C dL_refuses_244 ?_
    refine r_sT (rest := []) (c9 := 22) (r := (-9999001)) C K12 (k_call_11 l hst g kt b 0 ac z0 F DIA KEP ISK T hJ hT (F 0 + x % 50) bad (by omega) (by omega) ((F 0 + x % 50 : Int).toNat) (fun h => (Int.toNat_of_nonneg h).symm) hac 0) (by unfold whyCe; rw [if_pos (by omega)] <;> rfl) s_RL_162 hP12 hl.1 rfl ⟨by decide, by decide⟩ rfl (Nat.le_of_ble_eq_true rfl) (by omega) (show 22 ≤ 35 by omega) (Nat.le_refl _) dL_refuses_245 (pc9 := 248) rfl (fun H13 L13 p13 F13 => ?_)
    have G13 := G12.call (fun _ h => h) F13
    have K13 := G13.sk KZ hkz (fun q hq => by have := hq.1; omega)
    have hP13 := p13.2 (by unfold whyCe; rw [if_pos (by omega)]; decide)
    refine r_ldcI (w := -9999001) C (by decide) q_5528 dL_refuses_248 ?_
    refine r_icmp_ne (tgt := 429) C (by decide) (by decide) (by decide) dL_refuses_250 (fun z9 => absurd z9 (by decide)) (fun z9 => ?_)
    refine r_aload_n C rfl (lv_at hl 2 rfl) dL_refuses_253 ?_
    refine r_bipush C (by decide) dL_refuses_254 ?_
    refine r_iload_n C rfl (lv_at hl 1 rfl) dL_refuses_256 ?_
    refine r_iconst C dL_refuses_257 ?_
    refine r_iconst C dL_refuses_258 ?_
    refine r_sT (rest := []) (c9 := 23) (r := (-9999001)) C K13 (k_call_13 l hst g kt b 0 ac z0 F DIA KEP ISK T hJ hT (F 0 + x % 50) 0 (by omega) (by omega) ((F 0 + x % 50 : Int).toNat) ((0 : Int).toNat) (fun h => (Int.toNat_of_nonneg h).symm) (fun h => (Int.toNat_of_nonneg h).symm) 0) (by rw [Kd_f (by omega)] <;> rfl) s_RL_162 hP13 hl.1 rfl ⟨by decide, by decide⟩ rfl (Nat.le_of_ble_eq_true rfl) (by omega) (show 23 ≤ 35 by omega) (Nat.le_refl _) dL_refuses_259 (pc9 := 262) rfl (fun H14 L14 p14 F14 => ?_)
    have G14 := G13.call (fun _ h => h) F14
    have K14 := G14.sk KZ hkz (fun q hq => by have := hq.1; omega)
    have hP14 := p14.2 (by rw [Kd_f (by omega)]; decide)
    refine r_ldcI (w := -9999001) C (by decide) q_5528 dL_refuses_262 ?_
    refine r_icmp_ne (tgt := 429) C (by decide) (by decide) (by decide) dL_refuses_264 (fun z9 => absurd z9 (by decide)) (fun z9 => ?_)
    refine r_aload_n C rfl (lv_at hl 2 rfl) dL_refuses_267 ?_
    refine r_bipush C (by decide) dL_refuses_268 ?_
    refine r_iconst C dL_refuses_270 ?_
    refine r_iload_n C rfl (lv_at hl 3 rfl) dL_refuses_271 ?_
    refine r_bipush C (by decide) dL_refuses_272 ?_
    refine r_irem C (by omega) (by omega) dL_refuses_274 ?_
    refine r_isub C dL_refuses_275 ?_
    refine r_iconst C dL_refuses_276 ?_
    refine r_iconst C dL_refuses_277 ?_
    refine r_sT (rest := []) (c9 := 24) (r := (-9999001)) C K14 (k_call_14 l hst g kt b 0 ac z0 F DIA KEP ISK T hJ hT ((-1) - (x % 9)) (by omega) (((-1) - (x % 9) : Int).toNat) (fun h => (Int.toNat_of_nonneg h).symm) 0 0) (by rw [Kd_f (by omega)] <;> rfl) s_RL_162 hP14 hl.1 rfl ⟨by decide, by decide⟩ rfl (Nat.le_of_ble_eq_true rfl) (by omega) (show 24 ≤ 35 by omega) (Nat.le_refl _) dL_refuses_278 (pc9 := 281) rfl (fun H15 L15 p15 F15 => ?_)
    have G15 := G14.call (fun _ h => h) F15
    have K15 := G15.sk KZ hkz (fun q hq => by have := hq.1; omega)
    have hP15 := p15.2 (by rw [Kd_f (by omega)]; decide)
    refine r_ldcI (w := -9999001) C (by decide) q_5528 dL_refuses_281 ?_
    refine r_icmp_ne (tgt := 429) C (by decide) (by decide) (by decide) dL_refuses_283 (fun z9 => absurd z9 (by decide)) (fun z9 => ?_)
    refine r_aload_n C rfl (lv_at hl 2 rfl) dL_refuses_286 ?_
    refine r_bipush C (by decide) dL_refuses_287 ?_
    refine r_iload_n C rfl (lv_at hl 1 rfl) dL_refuses_289 ?_
    refine r_iload_n C rfl (lv_at hl 0 rfl) dL_refuses_290 ?_
    refine r_iconst C dL_refuses_291 ?_
    refine r_sT (rest := []) (c9 := 26) (r := (-9999001)) C K15 (k_call_15 l hst g kt b 0 ac z0 F DIA KEP ISK T hJ hT (F 0 + x % 50) bad (by omega) (by omega) ((F 0 + x % 50 : Int).toNat) ((bad : Int).toNat) (fun h => (Int.toNat_of_nonneg h).symm) (fun h => (Int.toNat_of_nonneg h).symm) 0) (by rw [if_pos (by omega)] <;> rfl) s_RL_162 hP15 hl.1 rfl ⟨by decide, by decide⟩ rfl (Nat.le_of_ble_eq_true rfl) (by omega) (show 26 ≤ 35 by omega) (Nat.le_refl _) dL_refuses_292 (pc9 := 295) rfl (fun H16 L16 p16 F16 => ?_)
    have G16 := G15.call (fun _ h => h) F16
    have K16 := G16.sk KZ hkz (fun q hq => by have := hq.1; omega)
    have hP16 := p16.2 (by rw [if_pos (by omega)]; decide)
    refine r_ldcI (w := -9999001) C (by decide) q_5528 dL_refuses_295 ?_
    refine r_icmp_ne (tgt := 429) C (by decide) (by decide) (by decide) dL_refuses_297 (fun z9 => absurd z9 (by decide)) (fun z9 => ?_)
    refine r_aload_n C rfl (lv_at hl 2 rfl) dL_refuses_300 ?_
    refine r_bipush C (by decide) dL_refuses_301 ?_
    refine r_iload_n C rfl (lv_at hl 1 rfl) dL_refuses_303 ?_
    refine r_iconst C dL_refuses_304 ?_
    refine r_iconst C dL_refuses_305 ?_
    refine r_sT (rest := []) (c9 := 27) (r := (-9999001)) C K16 (k_call_16 l hst g kt b 0 ac z0 F DIA KEP ISK T hJ hT (F 0 + x % 50) (by omega) ((F 0 + x % 50 : Int).toNat) (fun h => (Int.toNat_of_nonneg h).symm) 0 0) (by rw [Kd_f (by omega)] <;> rfl) s_RL_162 hP16 hl.1 rfl ⟨by decide, by decide⟩ rfl (Nat.le_of_ble_eq_true rfl) (by omega) (show 27 ≤ 35 by omega) (Nat.le_refl _) dL_refuses_306 (pc9 := 309) rfl (fun H17 L17 p17 F17 => ?_)
    have G17 := G16.call (fun _ h => h) F17
    have K17 := G17.sk KZ hkz (fun q hq => by have := hq.1; omega)
    have hP17 := p17.2 (by rw [Kd_f (by omega)]; decide)
    refine r_ldcI (w := -9999001) C (by decide) q_5528 dL_refuses_309 ?_
    refine r_icmp_ne (tgt := 429) C (by decide) (by decide) (by decide) dL_refuses_311 (fun z9 => absurd z9 (by decide)) (fun z9 => ?_)
    refine r_aload_n C rfl (lv_at hl 2 rfl) dL_refuses_314 ?_
    refine r_bipush C (by decide) dL_refuses_315 ?_
    refine r_iload_n C rfl (lv_at hl 1 rfl) dL_refuses_317 ?_
    refine r_iconst C dL_refuses_318 ?_
    refine r_iconst C dL_refuses_319 ?_
    refine r_sT (rest := []) (c9 := 28) (r := (-9999001)) C K17 (k_call_17 l hst g kt b 0 ac z0 F DIA KEP ISK T hJ hT (F 0 + x % 50) (by omega) ((F 0 + x % 50 : Int).toNat) (fun h => (Int.toNat_of_nonneg h).symm) 0 0) (by rw [Kd_f (by omega)] <;> rfl) s_RL_162 hP17 hl.1 rfl ⟨by decide, by decide⟩ rfl (Nat.le_of_ble_eq_true rfl) (by omega) (show 28 ≤ 35 by omega) (Nat.le_refl _) dL_refuses_320 (pc9 := 323) rfl (fun H18 L18 p18 F18 => ?_)
    have G18 := G17.call (fun _ h => h) F18
    have K18 := G18.sk KZ hkz (fun q hq => by have := hq.1; omega)
    have hP18 := p18.2 (by rw [Kd_f (by omega)]; decide)
    refine r_ldcI (w := -9999001) C (by decide) q_5528 dL_refuses_323 ?_
    refine r_icmp_ne (tgt := 429) C (by decide) (by decide) (by decide) dL_refuses_325 (fun z9 => absurd z9 (by decide)) (fun z9 => ?_)
    refine r_aload_n C rfl (lv_at hl 2 rfl) dL_refuses_328 ?_
    refine r_bipush C (by decide) dL_refuses_329 ?_
    refine r_iload_n C rfl (lv_at hl 1 rfl) dL_refuses_331 ?_
    refine r_iconst C dL_refuses_332 ?_
    refine r_iconst C dL_refuses_333 ?_
    refine r_sT (rest := []) (c9 := 29) (r := (-9999001)) C K18 (k_call_18 l hst g kt b 0 ac z0 F DIA KEP ISK T hJ hT (F 0 + x % 50) (by omega) ((F 0 + x % 50 : Int).toNat) (fun h => (Int.toNat_of_nonneg h).symm) 0 0) (by rw [Kd_f (by omega)] <;> rfl) s_RL_162 hP18 hl.1 rfl ⟨by decide, by decide⟩ rfl (Nat.le_of_ble_eq_true rfl) (by omega) (show 29 ≤ 35 by omega) (Nat.le_refl _) dL_refuses_334 (pc9 := 337) rfl (fun H19 L19 p19 F19 => ?_)
    have G19 := G18.call (fun _ h => h) F19
    have K19 := G19.sk KZ hkz (fun q hq => by have := hq.1; omega)
    have hP19 := p19.2 (by rw [Kd_f (by omega)]; decide)
    refine r_ldcI (w := -9999001) C (by decide) q_5528 dL_refuses_337 ?_
    refine r_icmp_ne (tgt := 429) C (by decide) (by decide) (by decide) dL_refuses_339 (fun z9 => absurd z9 (by decide)) (fun z9 => ?_)
    refine r_aload_n C rfl (lv_at hl 2 rfl) dL_refuses_342 ?_
    refine r_bipush C (by decide) dL_refuses_343 ?_
    refine r_iconst C dL_refuses_345 ?_
    refine r_iload_n C rfl (lv_at hl 3 rfl) dL_refuses_346 ?_
    refine r_bipush C (by decide) dL_refuses_347 ?_
    refine r_irem C (by omega) (by omega) dL_refuses_349 ?_
    refine r_iadd C dL_refuses_350 ?_
    refine r_iconst C dL_refuses_351 ?_
    refine r_iconst C dL_refuses_352 ?_
    refine r_sT (rest := []) (c9 := 30) (r := (-9999001)) C K19 (k_call_19 l hst g kt b 0 ac z0 F DIA KEP ISK T hJ hT (2 + (x % 50)) (by omega) ((2 + (x % 50) : Int).toNat) (fun h => (Int.toNat_of_nonneg h).symm) 0 0) (by rw [Kd_f (by omega)] <;> rfl) s_RL_162 hP19 hl.1 rfl ⟨by decide, by decide⟩ rfl (Nat.le_of_ble_eq_true rfl) (by omega) (show 30 ≤ 35 by omega) (Nat.le_refl _) dL_refuses_353 (pc9 := 356) rfl (fun H20 L20 p20 F20 => ?_)
    have G20 := G19.call (fun _ h => h) F20
    have K20 := G20.sk KZ hkz (fun q hq => by have := hq.1; omega)
    have hP20 := p20.2 (by rw [Kd_f (by omega)]; decide)
    refine r_ldcI (w := -9999001) C (by decide) q_5528 dL_refuses_356 ?_
    refine r_icmp_ne (tgt := 429) C (by decide) (by decide) (by decide) dL_refuses_358 (fun z9 => absurd z9 (by decide)) (fun z9 => ?_)
    refine r_aload_n C rfl (lv_at hl 2 rfl) dL_refuses_361 ?_
    refine r_bipush C (by decide) dL_refuses_362 ?_
    refine r_iconst C dL_refuses_364 ?_
    refine r_iload_n C rfl (lv_at hl 3 rfl) dL_refuses_365 ?_
    refine r_bipush C (by decide) dL_refuses_366 ?_
    refine r_irem C (by omega) (by omega) dL_refuses_368 ?_
    refine r_isub C dL_refuses_369 ?_
    refine r_iconst C dL_refuses_370 ?_
    refine r_iconst C dL_refuses_371 ?_
    refine r_sT (rest := []) (c9 := 32) (r := (-9999001)) C K20 (k_call_20 l hst g kt b 0 ac z0 F DIA KEP ISK T hJ hT ((-1) - (x % 9)) (by omega) (((-1) - (x % 9) : Int).toNat) (fun h => (Int.toNat_of_nonneg h).symm) (fun k hk => (hI.2.2.2.1 k hk).1) (fun hx hz => (hI.2.2.2.1 _ (by omega)).2 hz) 0 0) (by rw [if_pos (by omega)] <;> rfl) s_RL_162 hP20 hl.1 rfl ⟨by decide, by decide⟩ rfl (Nat.le_of_ble_eq_true rfl) (by omega) (show 32 ≤ 35 by omega) (Nat.le_refl _) dL_refuses_372 (pc9 := 375) rfl (fun H21 L21 p21 F21 => ?_)
    have G21 := G20.call (fun _ h => h) F21
    have K21 := G21.sk KZ hkz (fun q hq => by have := hq.1; omega)
    have hP21 := p21.2 (by rw [if_pos (by omega)]; decide)
    refine r_ldcI (w := -9999001) C (by decide) q_5528 dL_refuses_375 ?_
    refine r_icmp_ne (tgt := 429) C (by decide) (by decide) (by decide) dL_refuses_377 (fun z9 => absurd z9 (by decide)) (fun z9 => ?_)
    refine r_aload_n C rfl (lv_at hl 2 rfl) dL_refuses_380 ?_
    refine r_iconst C dL_refuses_381 ?_
    refine r_lconst C 0 rfl dL_refuses_382 ?_
    refine r_sTw (rest := []) (c9 := 33) (r := (-9999002)) C K21 (k_L_tryScript l hst g kt b 0 ac z0 F DIA KEP ISK T hJ hT 0 0 (by omega) (by omega) (0 : Int).toNat (fun h => (Int.toNat_of_nonneg h).symm)) (by rw [Kd_f (by omega)] <;> rfl) s_RL_166 hP21 hl.1 rfl ⟨by decide, by decide⟩ rfl (Nat.le_of_ble_eq_true rfl) (by omega) (show 33 ≤ 35 by omega) (Nat.le_refl _) dL_refuses_383 (pc9 := 386) rfl (fun H22 L22 p22 F22 => ?_)
    have G22 := G21.call (fun _ h => h) F22
    have K22 := G22.sk KZ hkz (fun q hq => by have := hq.1; omega)
    have hP22 := rdw p22
    refine r_ldcI (w := -9999002) C (by decide) q_5253 dL_refuses_386 ?_
    refine r_icmp_ne (tgt := 429) C (by decide) (by decide) (by decide) dL_refuses_388 (fun z9 => absurd z9 (by decide)) (fun z9 => ?_)
    refine r_aload_n C rfl (lv_at hl 2 rfl) dL_refuses_391 ?_
    refine r_iconst C dL_refuses_392 ?_
    refine r_ldc2 C (v := iL 100000) q_5744 dL_refuses_393 ?_
    refine r_iload_n C rfl (lv_at hl 3 rfl) dL_refuses_396 ?_
    refine r_i2l C (by omega) dL_refuses_397 ?_
    refine r_ladd C dL_refuses_398 ?_
    refine r_sTw (rest := []) (c9 := 34) (r := (-9999002)) C K22 (k_L_tryScript l hst g kt b 0 ac z0 F DIA KEP ISK T hJ hT 1 (100000 + x) (by omega) (by omega) (1 : Int).toNat (fun h => (Int.toNat_of_nonneg h).symm)) (by rw [Kd_f (by rw [show ((1 : Int)).toNat = 1 from rfl, show pw 1 = 100000 from rfl]; omega)] <;> rfl) s_RL_166 hP22 hl.1 rfl ⟨by decide, by decide⟩ rfl (Nat.le_of_ble_eq_true rfl) (by omega) (show 34 ≤ 35 by omega) (Nat.le_refl _) dL_refuses_399 (pc9 := 402) rfl (fun H23 L23 p23 F23 => ?_)
    have G23 := G22.call (fun _ h => h) F23
    have K23 := G23.sk KZ hkz (fun q hq => by have := hq.1; omega)
    have hP23 := rdw p23
    refine r_ldcI (w := -9999002) C (by decide) q_5253 dL_refuses_402 ?_
    refine r_icmp_ne (tgt := 429) C (by decide) (by decide) (by decide) dL_refuses_404 (fun z9 => absurd z9 (by decide)) (fun z9 => ?_)
    refine r_aload_n C rfl (lv_at hl 2 rfl) dL_refuses_407 ?_
    refine r_iload_n C rfl (lv_at hl 3 rfl) dL_refuses_408 ?_
    refine r_i2l C (by omega) dL_refuses_409 ?_
    refine r_bipush C (by decide) dL_refuses_410 ?_
    refine r_iload_n C rfl (lv_at hl 3 rfl) dL_refuses_412 ?_
    refine r_bipush C (by decide) dL_refuses_413 ?_
    refine r_irem C (by omega) (by omega) dL_refuses_415 ?_
    refine r_iadd C dL_refuses_416 ?_
    refine r_sTw (rest := []) (c9 := 35) (r := (-9999002)) C K23 (k_L_trySimulate l hst g kt b 0 ac z0 F DIA KEP ISK T hJ hT x (100 + (x % 9)) (by omega) (100 + (x % 9) : Int).toNat (fun h => (Int.toNat_of_nonneg h).symm)) (by rw [Kd_f (by omega)] <;> rfl) s_RL_172 hP23 hl.1 rfl ⟨by decide, by decide⟩ rfl (Nat.le_of_ble_eq_true rfl) (by omega) (show 35 ≤ 35 by omega) (Nat.le_refl _) dL_refuses_417 (pc9 := 420) rfl (fun H24 L24 p24 F24 => ?_)
    have G24 := G23.call (fun _ h => h) F24
    have K24 := G24.sk KZ hkz (fun q hq => by have := hq.1; omega)
    have hP24 := rdw p24
    refine r_ldcI (w := -9999002) C (by decide) q_5253 dL_refuses_420 ?_
    refine r_icmp_ne (tgt := 429) C (by decide) (by decide) (by decide) dL_refuses_422 (fun z9 => absurd z9 (by decide)) (fun z9 => ?_)
    refine r_iconst C dL_refuses_425 ?_
    refine r_goto (tgt := 430) C (by decide) dL_refuses_426 ?_
    exact r_tret C rfl rfl rfl G24 hP24 (by omega) (by omega) dL_refuses_430
  refine r_aload_n C rfl (lv_at hl 0 rfl) dL_refuses_0 ?_
  refine r_iconst C dL_refuses_1 ?_
  refine r_iconst C dL_refuses_2 ?_
  refine r_iconst C dL_refuses_3 ?_
  refine r_iconst C dL_refuses_4 ?_
  refine r_sT (rest := []) (c9 := 1) (r := F 0) C KZ (k_call_2 l hst g kt b 0 ac z0 F DIA KEP ISK T hJ hT 0 (by omega) 0 0) ((tv_0 (Kd_0.mpr ⟨by omega, by omega⟩)).trans (rfl)) s_RL_162 hP hl.1 rfl ⟨by decide, by decide⟩ rfl (Nat.le_of_ble_eq_true rfl) (by omega) (show 1 ≤ 35 by omega) (Nat.le_refl _) dL_refuses_5 (pc9 := 8) rfl (fun H25 L25 p25 F25 => ?_)
  have G25 := G0.call (fun _ h => h) F25
  have K25 := G25.sk KZ hkz (fun q hq => by have := hq.1; omega)
  have hP25 := rdw p25
  refine r_iload_n C rfl (lv_at hl 1 rfl) dL_refuses_8 ?_
  refine r_bipush C (by decide) dL_refuses_9 ?_
  refine r_irem C (by omega) (by omega) dL_refuses_11 ?_
  refine r_iadd C dL_refuses_12 ?_
  refine r_istore_n (lv' := [(2, .int (iI ((F 0) + (x % 50)))), (0, .ref b), (1, .int (iI x))]) C rfl hl (by decide) rfl dL_refuses_13 (fun ls hl => ?_)
  refine r_iload_n C rfl (lv_at hl 2 rfl) dL_refuses_14 ?_
  refine r_iconst C dL_refuses_15 ?_
  refine r_irem C (by omega) (by omega) dL_refuses_16 ?_
  refine r_if_ne (tgt := 29) C (by decide) (by omega) dL_refuses_17 (fun z8 => ?_) (fun z8 => ?_)
  · skip
    refine r_bipush C (by decide) dL_refuses_29 ?_
    refine r_iload_n C rfl (lv_at hl 2 rfl) dL_refuses_31 ?_
    refine r_bipush C (by decide) dL_refuses_32 ?_
    refine r_irem C (by omega) (by omega) dL_refuses_34 ?_
    refine r_iadd C dL_refuses_35 ?_
    refine r_istore_n (lv' := [(3, .int (iI (61 + (x % 99)))), (2, .int (iI ((F 0) + (x % 50)))), (0, .ref b), (1, .int (iI x))]) C rfl hl (by decide) rfl dL_refuses_36 (fun ls hl => ?_)
    refine r_aload_n C rfl (lv_at hl 2 rfl) dL_refuses_37 ?_
    refine r_iconst C dL_refuses_38 ?_
    refine r_iload_n C rfl (lv_at hl 3 rfl) dL_refuses_39 ?_
    refine r_iconst C dL_refuses_40 ?_
    refine r_irem C (by omega) (by omega) dL_refuses_41 ?_
    refine r_if_ne (tgt := 54) C (by decide) (by omega) dL_refuses_42 (fun z9 => ?_) (fun z9 => absurd z9 (by omega))
    refine r_sipush C (by decide) dL_refuses_54 ?_
    refine r_iload_n C rfl (lv_at hl 3 rfl) dL_refuses_57 ?_
    refine r_bipush C (by decide) dL_refuses_58 ?_
    refine r_irem C (by omega) (by omega) dL_refuses_60 ?_
    refine r_iadd C dL_refuses_61 ?_
    exact tail (61 + (x % 99)) (256 + (x % 9)) (by omega) (by omega) (by omega) (by omega) _ _ hP25 G25 _ (lv_sub hl [0, 1, 2, 3] rfl)
  · skip
    refine r_iconst C dL_refuses_20 ?_
    refine r_iload_n C rfl (lv_at hl 2 rfl) dL_refuses_21 ?_
    refine r_bipush C (by decide) dL_refuses_22 ?_
    refine r_irem C (by omega) (by omega) dL_refuses_24 ?_
    refine r_isub C dL_refuses_25 ?_
    refine r_goto (tgt := 36) C (by decide) dL_refuses_26 ?_
    refine r_istore_n (lv' := [(3, .int (iI ((-1) - (x % 99)))), (2, .int (iI ((F 0) + (x % 50)))), (0, .ref b), (1, .int (iI x))]) C rfl hl (by decide) rfl dL_refuses_36 (fun ls hl => ?_)
    refine r_aload_n C rfl (lv_at hl 2 rfl) dL_refuses_37 ?_
    refine r_iconst C dL_refuses_38 ?_
    refine r_iload_n C rfl (lv_at hl 3 rfl) dL_refuses_39 ?_
    refine r_iconst C dL_refuses_40 ?_
    refine r_irem C (by omega) (by omega) dL_refuses_41 ?_
    refine r_if_ne (tgt := 54) C (by decide) (by omega) dL_refuses_42 (fun z9 => absurd z9 (by omega)) (fun z9 => ?_)
    refine r_iconst C dL_refuses_45 ?_
    refine r_iload_n C rfl (lv_at hl 3 rfl) dL_refuses_46 ?_
    refine r_bipush C (by decide) dL_refuses_47 ?_
    refine r_irem C (by omega) (by omega) dL_refuses_49 ?_
    refine r_isub C dL_refuses_50 ?_
    refine r_goto (tgt := 62) C (by decide) dL_refuses_51 ?_
    exact tail ((-1) - (x % 99)) ((-1) - (x % 9)) (by omega) (by omega) (by omega) (by omega) _ _ hP25 G25 _ (lv_sub hl [0, 1, 2, 3] rfl)

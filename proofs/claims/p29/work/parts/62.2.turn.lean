theorem s_RL_184 : SiteS "LentRoomLaw" 184 yL_cell cL_cell 2 (some .int) 2 := ⟨⟨q_5712, q_5713, q_29, q_5714⟩, by decide, by decide, by decide +kernel⟩
theorem s_RL_188 : SiteS "LentRoomLaw" 188 yL_act cL_act 5 (some .int) 2 := ⟨⟨q_5776, q_5777, q_29, q_5778⟩, by decide, by decide, by decide +kernel⟩
theorem s_RL_192 : SiteS "LentRoomLaw" 192 yL_refuses cL_refuses 4 (some .boolean) 2 := ⟨⟨q_5720, q_5721, q_29, q_5722⟩, by decide, by decide, by decide +kernel⟩
theorem s_RL_195 : SiteS "LentRoomLaw" 195 yL_alike cL_alike 7 (some .boolean) 3 := ⟨⟨q_5779, q_5780, q_29, q_5781⟩, by decide, by decide, by decide +kernel⟩
theorem s_RL_199 : SiteS "LentRoomLaw" 199 yL_holds cL_holds 16 (some .boolean) 2 := ⟨⟨q_5762, q_5763, q_29, q_5764⟩, by decide, by decide, by decide +kernel⟩
set_option maxRecDepth 100000 in
set_option maxHeartbeats 4000000 in
theorem t_turn (l : Launch) (hst : l.stackTraces = false) {zp : Program} {ze : Env} {zs : State} {zm : MethodId} {za : Array Value} {zb : List Frame} {zt : Method} {zc : Code} {Q : State → Prop} {x9 : Cond} {g : Gt} (kt : Kt) (C : Cx zp zs zm za zt zc cL_law 15 "LentRoomLaw" (some .boolean) x9 g) (KZ : SK kt zs zs.heap) (hkz : kt.1 ≤ zs.heap.size) (b c sc L : Nat) (X : Nat → Int32) (hbz : zs.heap.size ≤ b) (hbc : b + 407 ≤ c) (hsc : sc < zs.heap.size) (hX0 : va_X sc L X zs zs.heap) (hL : L ≤ 260) (tn : Nat) (f9 : Int) (i : Nat) (hi : i < 26) (n0 : Nat) (hn0 : n0 + 1480 ≤ 600130) {ac : Int} {F DIA KEP ISK : Nat → Int} {T : Int} (hI : IVS ac F DIA KEP ISK T) (hT9 : 60 ≤ T ∧ T ≤ 860000) (kk : ∀ (ac : Int) (F DIA KEP ISK : Nat → Int), IVS ac F DIA KEP ISK (T + 252) → ∀ (H : Heap) (locs : List Loc), DW g b ac F DIA KEP ISK H → DW g c ac F DIA KEP ISK H → GT (fun q => zs.heap.size ≤ q) zs.heap H locs → ∀ ls : Array Slot, lv_has ls 15 [(6, .int (iI ((i + 1 : Nat) : Int))), (5, .int (iI (tn : Int))), (4, .int (iI 1)), (3, .int (iI f9)), (2, .ref c), (1, .ref b), (0, .ref sc)] → W zp l ze room_1 zs zm za zb zt zc H locs (n0 + 1480) (6 * (n0 + 1480)) Q (F0 zm 117 ls [])) : ∀ (H : Heap) (locs : List Loc), DW g b ac F DIA KEP ISK H → DW g c ac F DIA KEP ISK H → GT (fun q => zs.heap.size ≤ q) zs.heap H locs → ∀ ls : Array Slot, lv_has ls 15 [(6, .int (iI (i : Int))), (5, .int (iI (tn : Int))), (4, .int (iI 1)), (3, .int (iI f9)), (2, .ref c), (1, .ref b), (0, .ref sc)] → W zp l ze room_1 zs zm za zb zt zc H locs n0 (6 * n0) Q (F0 zm 129 ls []) := by
  have hkb : kt.1 ≤ b := by omega
  have hkc : kt.1 ≤ c := by omega
  obtain ⟨x, hxe⟩ : ∃ x : Int, x = clV X L (2 + i) := ⟨_, rfl⟩
  have hx : 0 ≤ x ∧ x < 2147483648 := by rw [hxe]; exact clV_b X L (2 + i)
  obtain ⟨v, ac', F', DIA', KEP', ISK', hI', hact⟩ := k_act l hst g kt hI (by omega) x hx
  have hT' : T + 6 ≤ 900000 := by omega
  have hT0 : T ≤ 900000 := by omega
  have hn' := hI'.j.n
  have hact_b := hact b hkb
  have hact_c := hact c hkc
  intro H locs hP hQ G0 ls hl
  have Ks := G0.sk KZ hkz (fun q hq => by omega)
  refine r_aload_n C rfl (lv_at hl 6 rfl) dL_law_129 ?_
  refine r_iconst C dL_law_130 ?_
  refine r_iload C (lv_at hl 0 rfl) dL_law_131 ?_
  refine r_iadd C dL_law_133 ?_
  refine r_cell (k := 2 + i) C (hX0.kept (G0.2.1 sc hsc (by omega))) hL (by omega) (by omega) s_RL_184 hl.1 ⟨by decide, by decide⟩ (Nat.le_of_ble_eq_true rfl) (r1_c (by omega)) dL_law_134 ?_
  rw [← hxe]
  refine r_istore (lv' := [(7, .int (iI x)), (6, .int (iI (i : Int))), (5, .int (iI (tn : Int))), (4, .int (iI 1)), (3, .int (iI f9)), (2, .ref c), (1, .ref b), (0, .ref sc)]) C hl (by decide) rfl dL_law_137 (fun ls hl => ?_)
  refine r_aload_n C rfl (lv_at hl 6 rfl) dL_law_139 ?_
  refine r_iload C (lv_at hl 0 rfl) dL_law_140 ?_
  refine r_sT (rest := []) (c9 := n0 + 3) (r := v) C Ks (hact_b) (rfl) s_RL_188 hP hl.1 rfl ⟨by decide, by decide⟩ rfl (Nat.le_of_ble_eq_true rfl) (by omega) (show n0 + 3 ≤ 600130 by omega) (Nat.le_of_ble_eq_true rfl) dL_law_142 (pc9 := 145) rfl (fun H1 L1 p1 F1 => ?_)
  have G1 := G0.call (fun q h => by have := h.1; omega) F1
  have K1 := G1.sk KZ hkz (fun q hq => by omega)
  have hQ_1 := hQ.kept (fun q h8 h9 => F1.2.1 q (by have := hQ.lt; omega) (not_cdp (by omega)))
  refine r_istore (lv' := [(8, .int (iI v)), (7, .int (iI x)), (6, .int (iI (i : Int))), (5, .int (iI (tn : Int))), (4, .int (iI 1)), (3, .int (iI f9)), (2, .ref c), (1, .ref b), (0, .ref sc)]) C hl (by decide) rfl dL_law_145 (fun ls hl => ?_)
  refine r_aload_n C rfl (lv_at hl 6 rfl) dL_law_147 ?_
  refine r_iload C (lv_at hl 1 rfl) dL_law_148 ?_
  refine r_ldcI (w := 100000) C (by decide) q_5782 dL_law_150 ?_
  refine r_irem C (by omega) (by omega) dL_law_152 ?_
  refine r_sT (rest := []) (c9 := n0 + 38) (r := 1) C K1 (k_refuses l hst g kt c hkc hI hT0 (x % 100000) (by omega)) (rfl) s_RL_192 hQ_1 hl.1 rfl ⟨by decide, by decide⟩ rfl (Nat.le_of_ble_eq_true rfl) (by omega) (show n0 + 38 ≤ 600130 by omega) (Nat.le_of_ble_eq_true rfl) dL_law_153 (pc9 := 156) rfl (fun H2 L2 p2 F2 => ?_)
  have G2 := G1.call (fun q h => by have := h.1; omega) F2
  have K2 := G2.sk KZ hkz (fun q hq => by omega)
  have p1_2 := p1.kept (fun q h8 h9 => F2.2.1 q (by have := p1.lt; omega) (not_cdp (by omega)))
  refine r_if_eq (tgt := 223) C (by decide) (by decide) dL_law_156 (fun z9 => absurd z9 (by decide)) (fun z9 => ?_)
  refine r_aload_n C rfl (lv_at hl 6 rfl) dL_law_159 ?_
  refine r_iload C (lv_at hl 1 rfl) dL_law_160 ?_
  refine r_sT (rest := []) (c9 := n0 + 41) (r := v) C K2 (hact_c) (rfl) s_RL_188 p2 hl.1 rfl ⟨by decide, by decide⟩ rfl (Nat.le_of_ble_eq_true rfl) (by omega) (show n0 + 41 ≤ 600130 by omega) (Nat.le_of_ble_eq_true rfl) dL_law_162 (pc9 := 165) rfl (fun H3 L3 p3 F3 => ?_)
  have G3 := G2.call (fun q h => by have := h.1; omega) F3
  have K3 := G3.sk KZ hkz (fun q hq => by omega)
  have p1_2_3 := p1_2.kept (fun q h8 h9 => F3.2.1 q (by have := p1_2.lt; omega) (not_cdp (by omega)))
  refine r_iload C (lv_at hl 0 rfl) dL_law_165 ?_
  refine r_ine_same (tgt := 223) C (by decide) (rfl) dL_law_167 ?_
  refine r_aload_n C rfl (lv_at hl 6 rfl) dL_law_170 ?_
  refine r_iload C (lv_at hl 1 rfl) dL_law_171 ?_
  refine r_sipush C (by decide) dL_law_173 ?_
  refine r_irem C (by omega) (by omega) dL_law_176 ?_
  refine r_sT (rest := []) (c9 := n0 + 76) (r := 1) C K3 (k_refuses l hst g kt c hkc hI' hT' (x % 1000) (by omega)) (rfl) s_RL_192 p3 hl.1 rfl ⟨by decide, by decide⟩ rfl (Nat.le_of_ble_eq_true rfl) (by omega) (show n0 + 76 ≤ 600130 by omega) (Nat.le_of_ble_eq_true rfl) dL_law_177 (pc9 := 180) rfl (fun H4 L4 p4 F4 => ?_)
  have G4 := G3.call (fun q h => by have := h.1; omega) F4
  have K4 := G4.sk KZ hkz (fun q hq => by omega)
  have p1_2_3_4 := p1_2_3.kept (fun q h8 h9 => F4.2.1 q (by have := p1_2_3.lt; omega) (not_cdp (by omega)))
  refine r_if_eq (tgt := 223) C (by decide) (by decide) dL_law_180 (fun z9 => absurd z9 (by decide)) (fun z9 => ?_)
  refine r_aload_n C rfl (lv_at hl 7 rfl) dL_law_183 ?_
  refine r_aload_n C rfl (lv_at hl 6 rfl) dL_law_184 ?_
  refine r_iload C (lv_at hl 1 rfl) dL_law_185 ?_
  refine r_sipush C (by decide) dL_law_187 ?_
  refine r_irem C (by omega) (by omega) dL_law_190 ?_
  refine r_sT (rest := []) (c9 := n0 + 416) (r := 1) C K4 (k_alike l hst g kt b hkb hI' hT' c hbc (x % 5000) (by omega)) (rfl) s_RL_195 ⟨p1_2_3_4, p4⟩ hl.1 rfl ⟨by decide, by decide⟩ rfl (Nat.le_of_ble_eq_true rfl) (by omega) (show n0 + 416 ≤ 600130 by omega) (Nat.le_of_ble_eq_true rfl) dL_law_191 (pc9 := 194) rfl (fun H5 L5 p5 F5 => ?_)
  have G5 := G4.call (fun q h => by rcases h with h | h <;> (have := h.1; omega)) F5
  have K5 := G5.sk KZ hkz (fun q hq => by omega)
  obtain ⟨hP5, hQ5⟩ := p5
  refine r_if_eq (tgt := 223) C (by decide) (by decide) dL_law_194 (fun z9 => absurd z9 (by decide)) (fun z9 => ?_)
  refine r_aload_n C rfl (lv_at hl 7 rfl) dL_law_197 ?_
  refine r_iload C (lv_at hl 1 rfl) dL_law_198 ?_
  refine r_iconst C dL_law_200 ?_
  refine r_idiv C (by omega) (by omega) dL_law_201 ?_
  refine r_sT (rest := []) (c9 := n0 + 896) (r := 1) C K5 (k_holds l hst g kt b hkb hI' hT' (x / 3) (by omega)) (rfl) s_RL_199 hP5 hl.1 rfl ⟨by decide, by decide⟩ rfl (Nat.le_of_ble_eq_true rfl) (by omega) (show n0 + 896 ≤ 600130 by omega) (Nat.le_of_ble_eq_true rfl) dL_law_202 (pc9 := 205) rfl (fun H6 L6 p6 F6 => ?_)
  have G6 := G5.call (fun q h => by have := h.1; omega) F6
  have K6 := G6.sk KZ hkz (fun q hq => by omega)
  have hQ5_6 := hQ5.kept (fun q h8 h9 => F6.2.1 q (by have := hQ5.lt; omega) (not_cdp (by omega)))
  refine r_if_eq (tgt := 223) C (by decide) (by decide) dL_law_205 (fun z9 => absurd z9 (by decide)) (fun z9 => ?_)
  refine r_aload_n C rfl (lv_at hl 6 rfl) dL_law_208 ?_
  refine r_iload C (lv_at hl 1 rfl) dL_law_209 ?_
  refine r_iconst C dL_law_211 ?_
  refine r_idiv C (by omega) (by omega) dL_law_212 ?_
  refine r_sT (rest := []) (c9 := n0 + 1376) (r := 1) C K6 (k_holds l hst g kt c hkc hI' hT' (x / 5) (by omega)) (rfl) s_RL_199 hQ5_6 hl.1 rfl ⟨by decide, by decide⟩ rfl (Nat.le_of_ble_eq_true rfl) (by omega) (show n0 + 1376 ≤ 600130 by omega) (Nat.le_of_ble_eq_true rfl) dL_law_213 (pc9 := 216) rfl (fun H7 L7 p7 F7 => ?_)
  have G7 := G6.call (fun q h => by have := h.1; omega) F7
  have K7 := G7.sk KZ hkz (fun q hq => by omega)
  have p6_7 := p6.kept (fun q h8 h9 => F7.2.1 q (by have := p6.lt; omega) (not_cdp (by omega)))
  refine r_if_eq (tgt := 223) C (by decide) (by decide) dL_law_216 (fun z9 => absurd z9 (by decide)) (fun z9 => ?_)
  refine r_iconst C dL_law_219 ?_
  refine r_goto (tgt := 224) C (by decide) dL_law_220 ?_
  refine r_istore (lv' := [(4, .int (iI 1)), (8, .int (iI v)), (7, .int (iI x)), (6, .int (iI (i : Int))), (5, .int (iI (tn : Int))), (3, .int (iI f9)), (2, .ref c), (1, .ref b), (0, .ref sc)]) C hl (by decide) rfl dL_law_224 (fun ls hl => ?_)
  refine r_iload C (lv_at hl 2 rfl) dL_law_226 ?_
  refine r_bipush C (by decide) dL_law_228 ?_
  refine r_idiv C (by omega) (by omega) dL_law_230 ?_
  refine r_iconst C dL_law_231 ?_
  refine r_irem C (by omega) (by omega) dL_law_232 ?_
  refine r_if_ne (tgt := 241) C (by decide) (by omega) dL_law_233 (fun z5 => ?_) (fun z5 => ?_)
  · skip
    refine r_iconst C dL_law_241 ?_
    refine r_istore (lv' := [(9, .int (iI 0)), (4, .int (iI 1)), (8, .int (iI v)), (7, .int (iI x)), (6, .int (iI (i : Int))), (5, .int (iI (tn : Int))), (3, .int (iI f9)), (2, .ref c), (1, .ref b), (0, .ref sc)]) C hl (by decide) rfl dL_law_242 (fun ls hl => ?_)
    refine r_aload_n C rfl (lv_at hl 8 rfl) dL_law_244 ?_
    refine r_iconst C dL_law_245 ?_
    refine r_iconst C dL_law_246 ?_
    refine r_iconst C dL_law_247 ?_
    refine r_iconst C dL_law_248 ?_
    refine r_sT (rest := []) (c9 := n0 + 1377) (r := F' 0) C K7 (k_call_2 l hst g kt b 0 ac' z0 F' DIA' KEP' ISK' (T + 6) hI'.j hT' 0 (by omega) 0 0) ((tv_0 (Kd_0.mpr ⟨by omega, by omega⟩)).trans (rfl)) s_RL_162 p6_7 hl.1 rfl ⟨by decide, by decide⟩ rfl (Nat.le_of_ble_eq_true rfl) (by omega) (show n0 + 1377 ≤ 600130 by omega) (Nat.le_of_ble_eq_true rfl) dL_law_249 (pc9 := 252) rfl (fun H8 L8 p8 F8 => ?_)
    have G8 := G7.call (fun q h => by have := h.1; omega) F8
    have K8 := G8.sk KZ hkz (fun q hq => by omega)
    have hP8 := rdw p8
    have p7_8 := p7.kept (fun q h8 h9 => F8.2.1 q (by have := p7.lt; omega) (not_cdp (by omega)))
    refine r_istore (lv' := [(10, .int (iI (F' 0))), (9, .int (iI 0)), (4, .int (iI 1)), (8, .int (iI v)), (7, .int (iI x)), (6, .int (iI (i : Int))), (5, .int (iI (tn : Int))), (3, .int (iI f9)), (2, .ref c), (1, .ref b), (0, .ref sc)]) C hl (by decide) rfl dL_law_252 (fun ls hl => ?_)
    refine r_iconst C dL_law_254 ?_
    refine r_istore (lv' := [(11, .int (iI 0)), (10, .int (iI (F' 0))), (9, .int (iI 0)), (4, .int (iI 1)), (8, .int (iI v)), (7, .int (iI x)), (6, .int (iI (i : Int))), (5, .int (iI (tn : Int))), (3, .int (iI f9)), (2, .ref c), (1, .ref b), (0, .ref sc)]) C hl (by decide) rfl dL_law_255 (fun ls hl => ?_)
    exact W.widen (by omega) (by omega) (t_fill l hst kt C KZ hkz b c sc L X hbz hbc hsc hX0 hL tn f9 i hi n0 hn0 (T := T + 6) (by omega) (F' 0) x hx 0 (by decide) (fun ac F DIA KEP ISK h => kk ac F DIA KEP ISK (h.mono (by omega))) 0 0 rfl _ _ _ (hI'.mono (by omega)) rfl _ _ hP8 p7_8 G8 _ (lv_sub hl [0, 1, 2, 5, 6, 7, 3, 8, 9, 10, 11] rfl))
  · skip
    refine r_bipush C (by decide) dL_law_236 ?_
    refine r_goto (tgt := 242) C (by decide) dL_law_238 ?_
    refine r_istore (lv' := [(9, .int (iI 40)), (4, .int (iI 1)), (8, .int (iI v)), (7, .int (iI x)), (6, .int (iI (i : Int))), (5, .int (iI (tn : Int))), (3, .int (iI f9)), (2, .ref c), (1, .ref b), (0, .ref sc)]) C hl (by decide) rfl dL_law_242 (fun ls hl => ?_)
    refine r_aload_n C rfl (lv_at hl 8 rfl) dL_law_244 ?_
    refine r_iconst C dL_law_245 ?_
    refine r_iconst C dL_law_246 ?_
    refine r_iconst C dL_law_247 ?_
    refine r_iconst C dL_law_248 ?_
    refine r_sT (rest := []) (c9 := n0 + 1377) (r := F' 0) C K7 (k_call_2 l hst g kt b 0 ac' z0 F' DIA' KEP' ISK' (T + 6) hI'.j hT' 0 (by omega) 0 0) ((tv_0 (Kd_0.mpr ⟨by omega, by omega⟩)).trans (rfl)) s_RL_162 p6_7 hl.1 rfl ⟨by decide, by decide⟩ rfl (Nat.le_of_ble_eq_true rfl) (by omega) (show n0 + 1377 ≤ 600130 by omega) (Nat.le_of_ble_eq_true rfl) dL_law_249 (pc9 := 252) rfl (fun H9 L9 p9 F9 => ?_)
    have G9 := G7.call (fun q h => by have := h.1; omega) F9
    have K9 := G9.sk KZ hkz (fun q hq => by omega)
    have hP9 := rdw p9
    have p7_9 := p7.kept (fun q h8 h9 => F9.2.1 q (by have := p7.lt; omega) (not_cdp (by omega)))
    refine r_istore (lv' := [(10, .int (iI (F' 0))), (9, .int (iI 40)), (4, .int (iI 1)), (8, .int (iI v)), (7, .int (iI x)), (6, .int (iI (i : Int))), (5, .int (iI (tn : Int))), (3, .int (iI f9)), (2, .ref c), (1, .ref b), (0, .ref sc)]) C hl (by decide) rfl dL_law_252 (fun ls hl => ?_)
    refine r_iconst C dL_law_254 ?_
    refine r_istore (lv' := [(11, .int (iI 0)), (10, .int (iI (F' 0))), (9, .int (iI 40)), (4, .int (iI 1)), (8, .int (iI v)), (7, .int (iI x)), (6, .int (iI (i : Int))), (5, .int (iI (tn : Int))), (3, .int (iI f9)), (2, .ref c), (1, .ref b), (0, .ref sc)]) C hl (by decide) rfl dL_law_255 (fun ls hl => ?_)
    exact W.widen (by omega) (by omega) (t_fill l hst kt C KZ hkz b c sc L X hbz hbc hsc hX0 hL tn f9 i hi n0 hn0 (T := T + 6) (by omega) (F' 0) x hx 40 (by decide) (fun ac F DIA KEP ISK h => kk ac F DIA KEP ISK (h.mono (by omega))) 40 0 rfl _ _ _ (hI'.mono (by omega)) rfl _ _ hP9 p7_9 G9 _ (lv_sub hl [0, 1, 2, 5, 6, 7, 3, 8, 9, 10, 11] rfl))

theorem s_RL_176 : SiteV "LentRoomLaw" 176 "LentRoom" yX3_noisy cX3_noisy 3 (some .int) 0 := ⟨⟨q_5765, q_258, q_259, q_30, q_260⟩, rfl, by decide, by decide, by decide +kernel⟩
set_option maxHeartbeats 4000000 in
theorem k_alike (l : Launch) (hst : l.stackTraces = false) (g : Gt) (kt : Kt) (b : Nat) (hkb : kt.1 ≤ b) {ac : Int} {F DIA KEP ISK : Nat → Int} {T : Int} (hI : IVS ac F DIA KEP ISK T) (hT : T ≤ 900000) (c : Nat) (hbc : b + 407 ≤ c) (x : Int) (hx : 0 ≤ x ∧ x < 5000) : TM l yL_alike (.code yL_alike cL_alike 7 (some .boolean)) 10 191 340 g kt [.ref b, .ref c, .int (iI x)] (fun H => (DW g b ac F DIA KEP ISK) H ∧ (DW g c ac F DIA KEP ISK) H) 1 (fun q => Cdp b q ∨ Cdp c q) (fun H => (DW g b ac F DIA KEP ISK) H ∧ (DW g c ac F DIA KEP ISK) H) := by
  refine tm_of "LentRoomLaw" (by decide) rfl (Nat.le_of_ble_eq_true rfl) ?_
  intro zp ze zs zm za zb zt zc ls C KZ hP G0 hl
  obtain ⟨hP, hQ⟩ := hP
  have hl : lv_has ls 7 [(0, .ref b), (1, .ref c), (2, .int (iI x))] := hl
  have hJ := hI.j
  have hac := hI.acb
  have hn := hJ.n
  have h1 := hI.ev.1
  have hlt := hP.lt
  have hkz : kt.1 ≤ zs.heap.size := by omega
  have loop2 : ∀ (w i : Nat), i + w = (F 0).toNat → ∀ (H : Heap) (locs : List Loc), DW g b ac F DIA KEP ISK H → DW g c ac F DIA KEP ISK H → GT (fun q => Cdp b q ∨ Cdp c q) zs.heap H locs → ∀ ls : Array Slot, lv_has ls 7 [(5, .int (iI (i : Int))), (4, .int (iI 1)), (3, .int (iI (F 0))), (0, .ref b), (1, .ref c), (2, .int (iI x))] → W zp l ze (rmx 10 191 340) zs zm za zb zt zc H locs (20 + 52 * i + 0) (6 * (20 + 52 * i + 0)) (MQ zb (TQ 1 (fun q => Cdp b q ∨ Cdp c q) (fun H => (DW g b ac F DIA KEP ISK) H ∧ (DW g c ac F DIA KEP ISK) H)) za zs 340 (6 * 340) (fun q => Cdp b q ∨ Cdp c q)) (F0 zm 118 ls []) := by
    intro w
    induction w with
    | zero =>
      intro i hw H locs hP hQ G0 ls hl
      have Ks := G0.sk KZ hkz (fun q hq => by rcases hq with h | h <;> (have := h.1; omega))
      refine r_iload C (lv_at hl 0 rfl) dL_alike_118 ?_
      refine r_iload_n C rfl (lv_at hl 2 rfl) dL_alike_120 ?_
      refine r_icmp_ge (tgt := 277) C (by decide) (by omega) (by omega) dL_alike_121 (fun z9 => ?_) (fun z9 => absurd z9 (by omega))
      refine r_iload C (lv_at hl 1 rfl) dL_alike_277 ?_
      exact r_tret C rfl rfl rfl G0 ⟨hP, hQ⟩ (by omega) (by omega) dL_alike_279
    | succ w ih =>
      intro i hw H locs hP hQ G0 ls hl
      have Ks := G0.sk KZ hkz (fun q hq => by rcases hq with h | h <;> (have := h.1; omega))
      have hsi : i < 5 := by omega
      have hsn : (i : Int) < F 0 := by omega
      have loop3 : ∀ (w3 j : Nat), j + w3 = 11 → ∀ (H : Heap) (locs : List Loc), DW g b ac F DIA KEP ISK H → DW g c ac F DIA KEP ISK H → GT (fun q => Cdp b q ∨ Cdp c q) zs.heap H locs → ∀ ls : Array Slot, lv_has ls 7 [(6, .int (iI (j : Int))), (5, .int (iI (i : Int))), (4, .int (iI 1)), (3, .int (iI (F 0))), (0, .ref b), (1, .ref c), (2, .int (iI x))] → W zp l ze (rmx 10 191 340) zs zm za zb zt zc H locs ((20 + 52 * i) + 4 * j + 0) (6 * ((20 + 52 * i) + 4 * j + 0)) (MQ zb (TQ 1 (fun q => Cdp b q ∨ Cdp c q) (fun H => (DW g b ac F DIA KEP ISK) H ∧ (DW g c ac F DIA KEP ISK) H)) za zs 340 (6 * 340) (fun q => Cdp b q ∨ Cdp c q)) (F0 zm 132 ls []) := by
        intro w3
        induction w3 with
        | zero =>
          intro j hw3 H locs hP hQ G0 ls hl
          have Ks := G0.sk KZ hkz (fun q hq => by rcases hq with h | h <;> (have := h.1; omega))
          refine r_iload C (lv_at hl 0 rfl) dL_alike_132 ?_
          refine r_bipush C (by decide) dL_alike_134 ?_
          refine r_icmp_ge (tgt := 180) C (by decide) (by omega) (by decide) dL_alike_136 (fun z9 => ?_) (fun z9 => absurd z9 (by omega))
          refine r_iload C (lv_at hl 2 rfl) dL_alike_180 ?_
          refine r_if_eq (tgt := 268) C (by decide) (by decide) dL_alike_182 (fun z9 => absurd z9 (by decide)) (fun z9 => ?_)
          refine r_aload_n C rfl (lv_at hl 4 rfl) dL_alike_185 ?_
          refine r_iconst C dL_alike_186 ?_
          refine r_iload C (lv_at hl 1 rfl) dL_alike_187 ?_
          refine r_iload_n C rfl (lv_at hl 6 rfl) dL_alike_189 ?_
          refine r_bipush C (by decide) dL_alike_190 ?_
          refine r_irem C (by omega) (by omega) dL_alike_192 ?_
          refine r_iconst C dL_alike_193 ?_
          refine r_sT (rest := []) (c9 := (20 + 52 * i) + 4 * j + 1) (r := if F (2 + 52 * i + (12 + (x % 40 : Int).toNat)) = 0 then -1 else F (2 + 52 * i + (12 + (x % 40 : Int).toNat))) C Ks (k_call_5 l hst g kt b 0 ac z0 F DIA KEP ISK T hJ hT (i : Int) (x % 40) (by omega) (by omega) i ((x % 40 : Int).toNat) (fun _ => by omega) (fun _ => by omega) 0) ((tv_0 (Kd_0.mpr ⟨⟨by omega, by omega⟩, ⟨by omega, by omega⟩⟩)).trans (rfl)) s_RL_162 hP hl.1 rfl ⟨by decide, by decide⟩ rfl (Nat.le_of_ble_eq_true rfl) (by omega) (show (20 + 52 * i) + 4 * j + 1 ≤ 340 by omega) (Nat.le_refl _) dL_alike_194 (pc9 := 197) rfl (fun H1 L1 p1 F1 => ?_)
          have G1 := G0.call (fun _ h => Or.inl h) F1
          have K1 := G1.sk KZ hkz (fun q hq => by rcases hq with h | h <;> (have := h.1; omega))
          have hP1 := rdw p1
          have hQ_1 := hQ.kept (fun q h8 h9 => F1.2.1 q (by have := hQ.lt; omega) (not_cdp (by omega)))
          refine r_aload_n C rfl (lv_at hl 5 rfl) dL_alike_197 ?_
          refine r_iconst C dL_alike_198 ?_
          refine r_iload C (lv_at hl 1 rfl) dL_alike_199 ?_
          refine r_iload_n C rfl (lv_at hl 6 rfl) dL_alike_201 ?_
          refine r_bipush C (by decide) dL_alike_202 ?_
          refine r_irem C (by omega) (by omega) dL_alike_204 ?_
          refine r_iconst C dL_alike_205 ?_
          refine r_sT (rest := [.int (iI (if F (2 + 52 * i + (12 + (x % 40 : Int).toNat)) = 0 then -1 else F (2 + 52 * i + (12 + (x % 40 : Int).toNat))))]) (c9 := (20 + 52 * i) + 4 * j + 2) (r := if F (2 + 52 * i + (12 + (x % 40 : Int).toNat)) = 0 then -1 else F (2 + 52 * i + (12 + (x % 40 : Int).toNat))) C K1 (k_call_5 l hst g kt c 0 ac z0 F DIA KEP ISK T hJ hT (i : Int) (x % 40) (by omega) (by omega) i ((x % 40 : Int).toNat) (fun _ => by omega) (fun _ => by omega) 0) ((tv_0 (Kd_0.mpr ⟨⟨by omega, by omega⟩, ⟨by omega, by omega⟩⟩)).trans (rfl)) s_RL_162 hQ_1 hl.1 rfl ⟨by decide, by decide⟩ rfl (Nat.le_of_ble_eq_true rfl) (by omega) (show (20 + 52 * i) + 4 * j + 2 ≤ 340 by omega) (Nat.le_refl _) dL_alike_206 (pc9 := 209) rfl (fun H2 L2 p2 F2 => ?_)
          have G2 := G1.call (fun _ h => Or.inr h) F2
          have K2 := G2.sk KZ hkz (fun q hq => by rcases hq with h | h <;> (have := h.1; omega))
          have hQ2 := rdw p2
          have hP1_2 := hP1.kept (fun q h8 h9 => F2.2.1 q (by have := hP1.lt; omega) (not_cdp (by omega)))
          refine r_ine_same (tgt := 268) C (by decide) (rfl) dL_alike_209 ?_
          refine r_aload_n C rfl (lv_at hl 4 rfl) dL_alike_212 ?_
          refine r_bipush C (by decide) dL_alike_213 ?_
          refine r_iload C (lv_at hl 1 rfl) dL_alike_215 ?_
          refine r_iload_n C rfl (lv_at hl 6 rfl) dL_alike_217 ?_
          refine r_bipush C (by decide) dL_alike_218 ?_
          refine r_irem C (by omega) (by omega) dL_alike_220 ?_
          refine r_iconst C dL_alike_221 ?_
          refine r_sT (rest := []) (c9 := (20 + 52 * i) + 4 * j + 4) (r := od F i (x % 40) 40 0) C K2 (k_call_6 l hst g kt b 0 ac z0 F DIA KEP ISK T hJ hT (i : Int) (by omega) i (fun _ => by omega) (x % 40) (by omega) 0) ((tv_0 (by rw [if_neg (by omega), if_neg (by omega)])).trans (rfl)) s_RL_162 hP1_2 hl.1 rfl ⟨by decide, by decide⟩ rfl (Nat.le_of_ble_eq_true rfl) (by omega) (show (20 + 52 * i) + 4 * j + 4 ≤ 340 by omega) (Nat.le_refl _) dL_alike_222 (pc9 := 225) rfl (fun H3 L3 p3 F3 => ?_)
          have G3 := G2.call (fun _ h => Or.inl h) F3
          have K3 := G3.sk KZ hkz (fun q hq => by rcases hq with h | h <;> (have := h.1; omega))
          have hP3 := rdw p3
          have hQ2_3 := hQ2.kept (fun q h8 h9 => F3.2.1 q (by have := hQ2.lt; omega) (not_cdp (by omega)))
          refine r_aload_n C rfl (lv_at hl 5 rfl) dL_alike_225 ?_
          refine r_bipush C (by decide) dL_alike_226 ?_
          refine r_iload C (lv_at hl 1 rfl) dL_alike_228 ?_
          refine r_iload_n C rfl (lv_at hl 6 rfl) dL_alike_230 ?_
          refine r_bipush C (by decide) dL_alike_231 ?_
          refine r_irem C (by omega) (by omega) dL_alike_233 ?_
          refine r_iconst C dL_alike_234 ?_
          refine r_sT (rest := [.int (iI (od F i (x % 40) 40 0))]) (c9 := (20 + 52 * i) + 4 * j + 6) (r := od F i (x % 40) 40 0) C K3 (k_call_6 l hst g kt c 0 ac z0 F DIA KEP ISK T hJ hT (i : Int) (by omega) i (fun _ => by omega) (x % 40) (by omega) 0) ((tv_0 (by rw [if_neg (by omega), if_neg (by omega)])).trans (rfl)) s_RL_162 hQ2_3 hl.1 rfl ⟨by decide, by decide⟩ rfl (Nat.le_of_ble_eq_true rfl) (by omega) (show (20 + 52 * i) + 4 * j + 6 ≤ 340 by omega) (Nat.le_refl _) dL_alike_235 (pc9 := 238) rfl (fun H4 L4 p4 F4 => ?_)
          have G4 := G3.call (fun _ h => Or.inr h) F4
          have K4 := G4.sk KZ hkz (fun q hq => by rcases hq with h | h <;> (have := h.1; omega))
          have hQ4 := rdw p4
          have hP3_4 := hP3.kept (fun q h8 h9 => F4.2.1 q (by have := hP3.lt; omega) (not_cdp (by omega)))
          refine r_ine_same (tgt := 268) C (by decide) (rfl) dL_alike_238 ?_
          refine r_aload_n C rfl (lv_at hl 4 rfl) dL_alike_241 ?_
          refine r_bipush C (by decide) dL_alike_242 ?_
          refine r_iload C (lv_at hl 1 rfl) dL_alike_244 ?_
          refine r_iconst C dL_alike_246 ?_
          refine r_iconst C dL_alike_247 ?_
          refine r_sT (rest := []) (c9 := (20 + 52 * i) + 4 * j + 7) (r := ((gN F i 61 0 : Nat) : Int)) C K4 (k_call_14 l hst g kt b 0 ac z0 F DIA KEP ISK T hJ hT (i : Int) (by omega) i (fun _ => by omega) 0 0) ((tv_0 (Kd_0.mpr ⟨by omega, by omega⟩)).trans (rfl)) s_RL_162 hP3_4 hl.1 rfl ⟨by decide, by decide⟩ rfl (Nat.le_of_ble_eq_true rfl) (by omega) (show (20 + 52 * i) + 4 * j + 7 ≤ 340 by omega) (Nat.le_refl _) dL_alike_248 (pc9 := 251) rfl (fun H5 L5 p5 F5 => ?_)
          have G5 := G4.call (fun _ h => Or.inl h) F5
          have K5 := G5.sk KZ hkz (fun q hq => by rcases hq with h | h <;> (have := h.1; omega))
          have hP5 := rdw p5
          have hQ4_5 := hQ4.kept (fun q h8 h9 => F5.2.1 q (by have := hQ4.lt; omega) (not_cdp (by omega)))
          refine r_aload_n C rfl (lv_at hl 5 rfl) dL_alike_251 ?_
          refine r_bipush C (by decide) dL_alike_252 ?_
          refine r_iload C (lv_at hl 1 rfl) dL_alike_254 ?_
          refine r_iconst C dL_alike_256 ?_
          refine r_iconst C dL_alike_257 ?_
          refine r_sT (rest := [.int (iI ((gN F i 61 0 : Nat) : Int))]) (c9 := (20 + 52 * i) + 4 * j + 8) (r := ((gN F i 61 0 : Nat) : Int)) C K5 (k_call_14 l hst g kt c 0 ac z0 F DIA KEP ISK T hJ hT (i : Int) (by omega) i (fun _ => by omega) 0 0) ((tv_0 (Kd_0.mpr ⟨by omega, by omega⟩)).trans (rfl)) s_RL_162 hQ4_5 hl.1 rfl ⟨by decide, by decide⟩ rfl (Nat.le_of_ble_eq_true rfl) (by omega) (show (20 + 52 * i) + 4 * j + 8 ≤ 340 by omega) (Nat.le_refl _) dL_alike_258 (pc9 := 261) rfl (fun H6 L6 p6 F6 => ?_)
          have G6 := G5.call (fun _ h => Or.inr h) F6
          have K6 := G6.sk KZ hkz (fun q hq => by rcases hq with h | h <;> (have := h.1; omega))
          have hQ6 := rdw p6
          have hP5_6 := hP5.kept (fun q h8 h9 => F6.2.1 q (by have := hP5.lt; omega) (not_cdp (by omega)))
          refine r_ine_same (tgt := 268) C (by decide) (rfl) dL_alike_261 ?_
          refine r_iconst C dL_alike_264 ?_
          refine r_goto (tgt := 269) C (by decide) dL_alike_265 ?_
          refine r_istore (lv' := [(4, .int (iI 1)), (6, .int (iI (j : Int))), (5, .int (iI (i : Int))), (3, .int (iI (F 0))), (0, .ref b), (1, .ref c), (2, .int (iI x))]) C hl (by decide) rfl dL_alike_269 (fun ls hl => ?_)
          refine r_iinc (lv' := [(5, .int (iI ((i : Int) + 1))), (4, .int (iI 1)), (6, .int (iI (j : Int))), (3, .int (iI (F 0))), (0, .ref b), (1, .ref c), (2, .int (iI x))]) C hl (q := 2) rfl (by decide) rfl dL_alike_271 (fun ls hl => ?_)
          refine r_goto (tgt := 118) C (by decide) dL_alike_274 ?_
          rw [show ((i : Int) + 1) = ((i + 1 : Nat) : Int) by omega] at hl
          exact W.widen (by omega) (by omega) (ih (i + 1) (by omega) _ _ hP5_6 hQ6 G6 _ (lv_sub hl [0, 1, 3, 4, 5, 6] rfl))
        | succ w3 ih3 =>
          intro j hw3 H locs hP hQ G0 ls hl
          have Ks := G0.sk KZ hkz (fun q hq => by rcases hq with h | h <;> (have := h.1; omega))
          refine r_iload C (lv_at hl 0 rfl) dL_alike_132 ?_
          refine r_bipush C (by decide) dL_alike_134 ?_
          refine r_icmp_ge (tgt := 180) C (by decide) (by omega) (by decide) dL_alike_136 (fun z9 => absurd z9 (by omega)) (fun z9 => ?_)
          refine r_iload C (lv_at hl 2 rfl) dL_alike_139 ?_
          refine r_if_eq (tgt := 180) C (by decide) (by decide) dL_alike_141 (fun z9 => absurd z9 (by decide)) (fun z9 => ?_)
          refine r_aload_n C rfl (lv_at hl 4 rfl) dL_alike_144 ?_
          refine r_iconst C dL_alike_145 ?_
          refine r_iload C (lv_at hl 1 rfl) dL_alike_146 ?_
          refine r_iload C (lv_at hl 0 rfl) dL_alike_148 ?_
          refine r_iconst C dL_alike_150 ?_
          refine r_sT (rest := []) (c9 := (20 + 52 * i) + 4 * j + 2) (r := nOf F i (j : Int)) C Ks (k_call_3 l hst g kt b 0 ac z0 F DIA KEP ISK T hJ hT (i : Int) (by omega) i (fun _ => by omega) (j : Int) (by omega) 0) ((tv_0 (by rw [if_neg (by omega), if_neg (by omega)])).trans (rfl)) s_RL_162 hP hl.1 rfl ⟨by decide, by decide⟩ rfl (Nat.le_of_ble_eq_true rfl) (by omega) (show (20 + 52 * i) + 4 * j + 2 ≤ 340 by omega) (Nat.le_refl _) dL_alike_151 (pc9 := 154) rfl (fun H7 L7 p7 F7 => ?_)
          have G7 := G0.call (fun _ h => Or.inl h) F7
          have K7 := G7.sk KZ hkz (fun q hq => by rcases hq with h | h <;> (have := h.1; omega))
          have hP7 := rdw p7
          have hQ_7 := hQ.kept (fun q h8 h9 => F7.2.1 q (by have := hQ.lt; omega) (not_cdp (by omega)))
          refine r_aload_n C rfl (lv_at hl 5 rfl) dL_alike_154 ?_
          refine r_iconst C dL_alike_155 ?_
          refine r_iload C (lv_at hl 1 rfl) dL_alike_156 ?_
          refine r_iload C (lv_at hl 0 rfl) dL_alike_158 ?_
          refine r_iconst C dL_alike_160 ?_
          refine r_sT (rest := [.int (iI (nOf F i (j : Int)))]) (c9 := (20 + 52 * i) + 4 * j + 4) (r := nOf F i (j : Int)) C K7 (k_call_3 l hst g kt c 0 ac z0 F DIA KEP ISK T hJ hT (i : Int) (by omega) i (fun _ => by omega) (j : Int) (by omega) 0) ((tv_0 (by rw [if_neg (by omega), if_neg (by omega)])).trans (rfl)) s_RL_162 hQ_7 hl.1 rfl ⟨by decide, by decide⟩ rfl (Nat.le_of_ble_eq_true rfl) (by omega) (show (20 + 52 * i) + 4 * j + 4 ≤ 340 by omega) (Nat.le_refl _) dL_alike_161 (pc9 := 164) rfl (fun H8 L8 p8 F8 => ?_)
          have G8 := G7.call (fun _ h => Or.inr h) F8
          have K8 := G8.sk KZ hkz (fun q hq => by rcases hq with h | h <;> (have := h.1; omega))
          have hQ8 := rdw p8
          have hP7_8 := hP7.kept (fun q h8 h9 => F8.2.1 q (by have := hP7.lt; omega) (not_cdp (by omega)))
          refine r_ine_same (tgt := 171) C (by decide) (rfl) dL_alike_164 ?_
          refine r_iconst C dL_alike_167 ?_
          refine r_goto (tgt := 172) C (by decide) dL_alike_168 ?_
          refine r_istore (lv' := [(4, .int (iI 1)), (6, .int (iI (j : Int))), (5, .int (iI (i : Int))), (3, .int (iI (F 0))), (0, .ref b), (1, .ref c), (2, .int (iI x))]) C hl (by decide) rfl dL_alike_172 (fun ls hl => ?_)
          refine r_iinc (lv' := [(6, .int (iI ((j : Int) + 1))), (4, .int (iI 1)), (5, .int (iI (i : Int))), (3, .int (iI (F 0))), (0, .ref b), (1, .ref c), (2, .int (iI x))]) C hl (q := 1) rfl (by decide) rfl dL_alike_174 (fun ls hl => ?_)
          refine r_goto (tgt := 132) C (by decide) dL_alike_177 ?_
          rw [show ((j : Int) + 1) = ((j + 1 : Nat) : Int) by omega] at hl
          exact W.widen (by omega) (by omega) (ih3 (j + 1) (by omega) _ _ hP7_8 hQ8 G8 _ (lv_sub hl [0, 2, 1, 3, 4, 5, 6] rfl))
      refine r_iload C (lv_at hl 0 rfl) dL_alike_118 ?_
      refine r_iload_n C rfl (lv_at hl 2 rfl) dL_alike_120 ?_
      refine r_icmp_ge (tgt := 277) C (by decide) (by omega) (by omega) dL_alike_121 (fun z9 => absurd z9 (by omega)) (fun z9 => ?_)
      refine r_iload C (lv_at hl 1 rfl) dL_alike_124 ?_
      refine r_if_eq (tgt := 277) C (by decide) (by decide) dL_alike_126 (fun z9 => absurd z9 (by decide)) (fun z9 => ?_)
      refine r_iconst C dL_alike_129 ?_
      refine r_istore (lv' := [(6, .int (iI 0)), (5, .int (iI (i : Int))), (4, .int (iI 1)), (3, .int (iI (F 0))), (0, .ref b), (1, .ref c), (2, .int (iI x))]) C hl (by decide) rfl dL_alike_130 (fun ls hl => ?_)
      exact W.widen (by omega) (by omega) (loop3 11 0 rfl _ _ hP hQ G0 _ (lv_sub hl [0, 1, 2, 3, 4, 5, 6] rfl))
  have loop1 : ∀ (w i : Nat), i + w = 8 → ∀ (H : Heap) (locs : List Loc), DW g b ac F DIA KEP ISK H → DW g c ac F DIA KEP ISK H → GT (fun q => Cdp b q ∨ Cdp c q) zs.heap H locs → ∀ ls : Array Slot, lv_has ls 7 [(5, .int (iI (1 + (i : Int)))), (4, .int (iI 1)), (3, .int (iI (F 0))), (0, .ref b), (1, .ref c), (2, .int (iI x))] → W zp l ze (rmx 10 191 340) zs zm za zb zt zc H locs (4 + 2 * i + 0) (6 * (4 + 2 * i + 0)) (MQ zb (TQ 1 (fun q => Cdp b q ∨ Cdp c q) (fun H => (DW g b ac F DIA KEP ISK) H ∧ (DW g c ac F DIA KEP ISK) H)) za zs 340 (6 * 340) (fun q => Cdp b q ∨ Cdp c q)) (F0 zm 69 ls []) := by
    intro w
    induction w with
    | zero =>
      intro i hw H locs hP hQ G0 ls hl
      have Ks := G0.sk KZ hkz (fun q hq => by rcases hq with h | h <;> (have := h.1; omega))
      refine r_iload C (lv_at hl 0 rfl) dL_alike_69 ?_
      refine r_bipush C (by decide) dL_alike_71 ?_
      refine r_icmp_ge (tgt := 115) C (by decide) (by omega) (by decide) dL_alike_73 (fun z9 => ?_) (fun z9 => absurd z9 (by omega))
      refine r_iconst C dL_alike_115 ?_
      refine r_istore (lv' := [(5, .int (iI 0)), (4, .int (iI 1)), (3, .int (iI (F 0))), (0, .ref b), (1, .ref c), (2, .int (iI x))]) C hl (by decide) rfl dL_alike_116 (fun ls hl => ?_)
      exact W.widen (by omega) (by omega) (loop2 (F 0).toNat 0 (by omega) _ _ hP hQ G0 _ (lv_sub hl [0, 1, 2, 3, 4, 5] rfl))
    | succ w ih =>
      intro i hw H locs hP hQ G0 ls hl
      have Ks := G0.sk KZ hkz (fun q hq => by rcases hq with h | h <;> (have := h.1; omega))
      refine r_iload C (lv_at hl 0 rfl) dL_alike_69 ?_
      refine r_bipush C (by decide) dL_alike_71 ?_
      refine r_icmp_ge (tgt := 115) C (by decide) (by omega) (by decide) dL_alike_73 (fun z9 => absurd z9 (by omega)) (fun z9 => ?_)
      refine r_iload C (lv_at hl 1 rfl) dL_alike_76 ?_
      refine r_if_eq (tgt := 115) C (by decide) (by decide) dL_alike_78 (fun z9 => absurd z9 (by decide)) (fun z9 => ?_)
      refine r_aload_n C rfl (lv_at hl 3 rfl) dL_alike_81 ?_
      refine r_iconst C dL_alike_82 ?_
      refine r_iload C (lv_at hl 0 rfl) dL_alike_83 ?_
      refine r_iconst C dL_alike_85 ?_
      refine r_iconst C dL_alike_86 ?_
      refine r_sT (rest := []) (c9 := 4 + 2 * i + 1) (r := nAll F (1 + (i : Int))) C Ks (k_call_2 l hst g kt b 0 ac z0 F DIA KEP ISK T hJ hT (1 + (i : Int)) (by omega) 0 0) ((tv_0 (Kd_0.mpr ⟨by omega, by omega⟩)).trans (rfl)) s_RL_162 hP hl.1 rfl ⟨by decide, by decide⟩ rfl (Nat.le_of_ble_eq_true rfl) (by omega) (show 4 + 2 * i + 1 ≤ 340 by omega) (Nat.le_refl _) dL_alike_87 (pc9 := 90) rfl (fun H9 L9 p9 F9 => ?_)
      have G9 := G0.call (fun _ h => Or.inl h) F9
      have K9 := G9.sk KZ hkz (fun q hq => by rcases hq with h | h <;> (have := h.1; omega))
      have hP9 := rdw p9
      have hQ_9 := hQ.kept (fun q h8 h9 => F9.2.1 q (by have := hQ.lt; omega) (not_cdp (by omega)))
      refine r_aload_n C rfl (lv_at hl 4 rfl) dL_alike_90 ?_
      refine r_iconst C dL_alike_91 ?_
      refine r_iload C (lv_at hl 0 rfl) dL_alike_92 ?_
      refine r_iconst C dL_alike_94 ?_
      refine r_iconst C dL_alike_95 ?_
      refine r_sT (rest := [.int (iI (nAll F (1 + (i : Int))))]) (c9 := 4 + 2 * i + 2) (r := nAll F (1 + (i : Int))) C K9 (k_call_2 l hst g kt c 0 ac z0 F DIA KEP ISK T hJ hT (1 + (i : Int)) (by omega) 0 0) ((tv_0 (Kd_0.mpr ⟨by omega, by omega⟩)).trans (rfl)) s_RL_162 hQ_9 hl.1 rfl ⟨by decide, by decide⟩ rfl (Nat.le_of_ble_eq_true rfl) (by omega) (show 4 + 2 * i + 2 ≤ 340 by omega) (Nat.le_refl _) dL_alike_96 (pc9 := 99) rfl (fun H10 L10 p10 F10 => ?_)
      have G10 := G9.call (fun _ h => Or.inr h) F10
      have K10 := G10.sk KZ hkz (fun q hq => by rcases hq with h | h <;> (have := h.1; omega))
      have hQ10 := rdw p10
      have hP9_10 := hP9.kept (fun q h8 h9 => F10.2.1 q (by have := hP9.lt; omega) (not_cdp (by omega)))
      refine r_ine_same (tgt := 106) C (by decide) (rfl) dL_alike_99 ?_
      refine r_iconst C dL_alike_102 ?_
      refine r_goto (tgt := 107) C (by decide) dL_alike_103 ?_
      refine r_istore (lv' := [(4, .int (iI 1)), (5, .int (iI (1 + (i : Int)))), (3, .int (iI (F 0))), (0, .ref b), (1, .ref c), (2, .int (iI x))]) C hl (by decide) rfl dL_alike_107 (fun ls hl => ?_)
      refine r_iinc (lv' := [(5, .int (iI ((1 + (i : Int)) + 1))), (4, .int (iI 1)), (3, .int (iI (F 0))), (0, .ref b), (1, .ref c), (2, .int (iI x))]) C hl (q := 1) rfl (by decide) rfl dL_alike_109 (fun ls hl => ?_)
      refine r_goto (tgt := 69) C (by decide) dL_alike_112 ?_
      rw [show (1 + (i : Int) + 1) = 1 + ((i + 1 : Nat) : Int) by omega] at hl
      exact W.widen (by omega) (by omega) (ih (i + 1) (by omega) _ _ hP9_10 hQ10 G10 _ (lv_sub hl [0, 1, 2, 3, 4, 5] rfl))
  refine r_aload_n C rfl (lv_at hl 0 rfl) dL_alike_0 ?_
  refine r_iconst C dL_alike_1 ?_
  refine r_iconst C dL_alike_2 ?_
  refine r_iconst C dL_alike_3 ?_
  refine r_iconst C dL_alike_4 ?_
  refine r_sT (rest := []) (c9 := 1) (r := F 0) C KZ (k_call_2 l hst g kt b 0 ac z0 F DIA KEP ISK T hJ hT 0 (by omega) 0 0) ((tv_0 (Kd_0.mpr ⟨by omega, by omega⟩)).trans (rfl)) s_RL_162 hP hl.1 rfl ⟨by decide, by decide⟩ rfl (Nat.le_of_ble_eq_true rfl) (by omega) (show 1 ≤ 340 by omega) (Nat.le_refl _) dL_alike_5 (pc9 := 8) rfl (fun H11 L11 p11 F11 => ?_)
  have G11 := G0.call (fun _ h => Or.inl h) F11
  have K11 := G11.sk KZ hkz (fun q hq => by rcases hq with h | h <;> (have := h.1; omega))
  have hP11 := rdw p11
  have hQ_11 := hQ.kept (fun q h8 h9 => F11.2.1 q (by have := hQ.lt; omega) (not_cdp (by omega)))
  refine r_istore_n (lv' := [(3, .int (iI (F 0))), (0, .ref b), (1, .ref c), (2, .int (iI x))]) C rfl hl (by decide) rfl dL_alike_8 (fun ls hl => ?_)
  refine r_aload_n C rfl (lv_at hl 2 rfl) dL_alike_9 ?_
  refine r_iconst C dL_alike_10 ?_
  refine r_iconst C dL_alike_11 ?_
  refine r_iconst C dL_alike_12 ?_
  refine r_iconst C dL_alike_13 ?_
  refine r_sT (rest := []) (c9 := 2) (r := F 0) C K11 (k_call_2 l hst g kt c 0 ac z0 F DIA KEP ISK T hJ hT 0 (by omega) 0 0) ((tv_0 (Kd_0.mpr ⟨by omega, by omega⟩)).trans (rfl)) s_RL_162 hQ_11 hl.1 rfl ⟨by decide, by decide⟩ rfl (Nat.le_of_ble_eq_true rfl) (by omega) (show 2 ≤ 340 by omega) (Nat.le_refl _) dL_alike_14 (pc9 := 17) rfl (fun H12 L12 p12 F12 => ?_)
  have G12 := G11.call (fun _ h => Or.inr h) F12
  have K12 := G12.sk KZ hkz (fun q hq => by rcases hq with h | h <;> (have := h.1; omega))
  have hQ12 := rdw p12
  have hP11_12 := hP11.kept (fun q h8 h9 => F12.2.1 q (by have := hP11.lt; omega) (not_cdp (by omega)))
  refine r_iload_n C rfl (lv_at hl 0 rfl) dL_alike_17 ?_
  refine r_ine_same (tgt := 63) C (by decide) (rfl) dL_alike_18 ?_
  refine r_aload_n C rfl (lv_at hl 1 rfl) dL_alike_21 ?_
  refine r_vPi (rest := []) C (k_X3_noisy l g b 0 ac z0 F DIA KEP ISK T hJ hT) s_RL_176 hP11_12 (recv C (ci := 3) rfl hP11_12.lr.o) hl.1 rfl ⟨by decide, by decide⟩ rfl (Nat.le_of_ble_eq_true rfl) ⟨show 2 + 0 ≤ 340 by omega, show 6 * (2) + 0 ≤ 6 * 340 by omega⟩ dL_alike_22 ?_
  refine r_aload_n C rfl (lv_at hl 2 rfl) dL_alike_25 ?_
  refine r_vPi (rest := [.int (iI (nz F (F 0).toNat))]) C (k_X3_noisy l g c 0 ac z0 F DIA KEP ISK T hJ hT) s_RL_176 hQ12 (recv C (ci := 3) rfl hQ12.lr.o) hl.1 rfl ⟨by decide, by decide⟩ rfl (Nat.le_of_ble_eq_true rfl) ⟨show 2 + 0 ≤ 340 by omega, show 6 * (2) + 0 ≤ 6 * 340 by omega⟩ dL_alike_26 ?_
  refine r_ine_same (tgt := 63) C (by decide) (rfl) dL_alike_29 ?_
  refine r_aload_n C rfl (lv_at hl 1 rfl) dL_alike_32 ?_
  refine r_iload_n C rfl (lv_at hl 3 rfl) dL_alike_33 ?_
  refine r_i2l C (by omega) dL_alike_34 ?_
  refine r_iconst C dL_alike_35 ?_
  refine r_iload_n C rfl (lv_at hl 3 rfl) dL_alike_36 ?_
  refine r_bipush C (by decide) dL_alike_37 ?_
  refine r_irem C (by omega) (by omega) dL_alike_39 ?_
  refine r_iadd C dL_alike_40 ?_
  refine r_sTw (rest := []) (c9 := 3) (r := 1000 * tkA (siF x F ((1 + (x % 20) : Int).toNat)) + S5 (siF x F ((1 + (x % 20) : Int).toNat)) 5 - S5 F 5) C K12 (k_L_trySimulate l hst g kt b 0 ac z0 F DIA KEP ISK T hJ hT x (1 + (x % 20)) (by omega) (1 + (x % 20) : Int).toNat (fun h => (Int.toNat_of_nonneg h).symm)) (tv_0 (Kd_0.mpr ⟨by omega, by omega⟩)) s_RL_172 hP11_12 hl.1 rfl ⟨by decide, by decide⟩ rfl (Nat.le_of_ble_eq_true rfl) (by omega) (show 3 ≤ 340 by omega) (Nat.le_refl _) dL_alike_41 (pc9 := 44) rfl (fun H13 L13 p13 F13 => ?_)
  have G13 := G12.call (fun _ h => Or.inl h) F13
  have K13 := G13.sk KZ hkz (fun q hq => by rcases hq with h | h <;> (have := h.1; omega))
  have hP13 := rdw p13
  have hQ12_13 := hQ12.kept (fun q h8 h9 => F13.2.1 q (by have := hQ12.lt; omega) (not_cdp (by omega)))
  refine r_aload_n C rfl (lv_at hl 2 rfl) dL_alike_44 ?_
  refine r_iload_n C rfl (lv_at hl 3 rfl) dL_alike_45 ?_
  refine r_i2l C (by omega) dL_alike_46 ?_
  refine r_iconst C dL_alike_47 ?_
  refine r_iload_n C rfl (lv_at hl 3 rfl) dL_alike_48 ?_
  refine r_bipush C (by decide) dL_alike_49 ?_
  refine r_irem C (by omega) (by omega) dL_alike_51 ?_
  refine r_iadd C dL_alike_52 ?_
  refine r_sTw (rest := [.int (iI (1000 * tkA (siF x F ((1 + (x % 20) : Int).toNat)) + S5 (siF x F ((1 + (x % 20) : Int).toNat)) 5 - S5 F 5))]) (c9 := 4) (r := 1000 * tkA (siF x F ((1 + (x % 20) : Int).toNat)) + S5 (siF x F ((1 + (x % 20) : Int).toNat)) 5 - S5 F 5) C K13 (k_L_trySimulate l hst g kt c 0 ac z0 F DIA KEP ISK T hJ hT x (1 + (x % 20)) (by omega) (1 + (x % 20) : Int).toNat (fun h => (Int.toNat_of_nonneg h).symm)) (tv_0 (Kd_0.mpr ⟨by omega, by omega⟩)) s_RL_172 hQ12_13 hl.1 rfl ⟨by decide, by decide⟩ rfl (Nat.le_of_ble_eq_true rfl) (by omega) (show 4 ≤ 340 by omega) (Nat.le_refl _) dL_alike_53 (pc9 := 56) rfl (fun H14 L14 p14 F14 => ?_)
  have G14 := G13.call (fun _ h => Or.inr h) F14
  have K14 := G14.sk KZ hkz (fun q hq => by rcases hq with h | h <;> (have := h.1; omega))
  have hQ14 := rdw p14
  have hP13_14 := hP13.kept (fun q h8 h9 => F14.2.1 q (by have := hP13.lt; omega) (not_cdp (by omega)))
  refine r_ine_same (tgt := 63) C (by decide) (rfl) dL_alike_56 ?_
  refine r_iconst C dL_alike_59 ?_
  refine r_goto (tgt := 64) C (by decide) dL_alike_60 ?_
  refine r_istore (lv' := [(4, .int (iI 1)), (3, .int (iI (F 0))), (0, .ref b), (1, .ref c), (2, .int (iI x))]) C hl (by decide) rfl dL_alike_64 (fun ls hl => ?_)
  refine r_iconst C dL_alike_66 ?_
  refine r_istore (lv' := [(5, .int (iI 1)), (4, .int (iI 1)), (3, .int (iI (F 0))), (0, .ref b), (1, .ref c), (2, .int (iI x))]) C hl (by decide) rfl dL_alike_67 (fun ls hl => ?_)
  exact W.widen (by omega) (by omega) (loop1 8 0 rfl _ _ hP13_14 hQ14 G14 _ (lv_sub hl [0, 1, 2, 3, 4, 5] rfl))

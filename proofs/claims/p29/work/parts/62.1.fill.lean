set_option maxRecDepth 100000 in
set_option maxHeartbeats 4000000 in
theorem t_fill (l : Launch) (hst : l.stackTraces = false) {zp : Program} {ze : Env} {zs : State} {zm : MethodId} {za : Array Value} {zb : List Frame} {zt : Method} {zc : Code} {Q : State → Prop} {x9 : Cond} {g : Gt} (kt : Kt) (C : Cx zp zs zm za zt zc cL_law 15 "LentRoomLaw" (some .boolean) x9 g) (KZ : SK kt zs zs.heap) (hkz : kt.1 ≤ zs.heap.size) (b c sc L : Nat) (X : Nat → Int32) (hbz : zs.heap.size ≤ b) (hbc : b + 407 ≤ c) (hsc : sc < zs.heap.size) (hX0 : va_X sc L X zs zs.heap) (hL : L ≤ 260) (tn : Nat) (f9 : Int) (i : Nat) (hi : i < 26) (n0 : Nat) (hn0 : n0 + 1480 ≤ 600130) {KEP ISK : Nat → Int} {T : Int} (hT9 : 60 ≤ T ∧ T ≤ 870000) (mm : Int) (x : Int) (hx : 0 ≤ x ∧ x < 2147483648) (n9 : Nat) (h9 : n9 ≤ 40) (kk : ∀ (ac : Int) (F DIA KEP ISK : Nat → Int), IVS ac F DIA KEP ISK (T + 246) → ∀ (H : Heap) (locs : List Loc), DW g b ac F DIA KEP ISK H → DW g c ac F DIA KEP ISK H → GT (fun q => zs.heap.size ≤ q) zs.heap H locs → ∀ ls : Array Slot, lv_has ls 15 [(6, .int (iI ((i + 1 : Nat) : Int))), (5, .int (iI (tn : Int))), (4, .int (iI 1)), (3, .int (iI f9)), (2, .ref c), (1, .ref b), (0, .ref sc)] → W zp l ze room_1 zs zm za zb zt zc H locs (n0 + 1480) (6 * (n0 + 1480)) Q (F0 zm 117 ls [])) : ∀ (w j : Nat), j + w = n9 → ∀ (ac : Int) (F DIA : Nat → Int), IVS ac F DIA KEP ISK (T + 6 * (j : Int)) → F 0 = mm → ∀ (H : Heap) (locs : List Loc), DW g b ac F DIA KEP ISK H → DW g c ac F DIA KEP ISK H → GT (fun q => zs.heap.size ≤ q) zs.heap H locs → ∀ ls : Array Slot, lv_has ls 15 [(11, .int (iI (j : Int))), (10, .int (iI mm)), (9, .int (iI (n9 : Int))), (7, .int (iI x)), (6, .int (iI (i : Int))), (5, .int (iI (tn : Int))), (4, .int (iI 1)), (3, .int (iI f9)), (2, .ref c), (1, .ref b), (0, .ref sc)] → W zp l ze room_1 zs zm za zb zt zc H locs (n0 + 1380 + 2 * j + 0) (6 * (n0 + 1380 + 2 * j + 0)) Q (F0 zm 257 ls []) := by
  intro w
  induction w with
  | zero =>
    intro j hw ac F DIA hI hmm H locs hP hQ G0 ls hl
    have hJ := hI.j
    have hac := hI.acb
    have hn := hJ.n
    have h1 := hI.ev.1
    have hT : T + 6 * (j : Int) ≤ 900000 := by omega
    have Ks := G0.sk KZ hkz (fun q hq => by omega)
    refine r_iload C (lv_at hl 0 rfl) dL_law_257 ?_
    refine r_iload C (lv_at hl 2 rfl) dL_law_259 ?_
    refine r_icmp_ge (tgt := 319) C (by decide) (by omega) (by omega) dL_law_261 (fun z9 => ?_) (fun z9 => absurd z9 (by omega))
    exact W.widen (by omega) (by omega) (u_write l hst kt C KZ hkz b c sc L X hbz hbc hsc hX0 hL tn f9 i hi n0 hn0 hI (by omega) mm hmm x hx (fun ac F DIA KEP ISK h => kk ac F DIA KEP ISK (h.mono (by omega))) _ _ hP hQ G0 _ (lv_sub hl [1, 3, 4, 5, 6, 7, 8, 9, 10] rfl))
  | succ w ih =>
    intro j hw ac F DIA hI hmm H locs hP hQ G0 ls hl
    have hJ := hI.j
    have hac := hI.acb
    have hn := hJ.n
    have h1 := hI.ev.1
    have hT : T + 6 * (j : Int) ≤ 900000 := by omega
    have Ks := G0.sk KZ hkz (fun q hq => by omega)
    subst hmm
    have hx0 : 0 ≤ x / 33 % F 0 := Int.emod_nonneg _ (by omega)
    have hx1 : x / 33 % F 0 < F 0 := Int.emod_lt_of_pos _ (by omega)
    obtain ⟨s, hse⟩ : ∃ s : Nat, x / 33 % F 0 = (s : Int) := ⟨(x / 33 % F 0).toNat, (Int.toNat_of_nonneg hx0).symm⟩
    have hs5 : s < 5 := by omega
    have hsn : (s : Int) < F 0 := by omega
    have hj40 : j < 40 := by omega
    have hw9 := hJ.wr (by omega) hs5 hsn hj40
    refine r_iload C (lv_at hl 0 rfl) dL_law_257 ?_
    refine r_iload C (lv_at hl 2 rfl) dL_law_259 ?_
    refine r_icmp_ge (tgt := 319) C (by decide) (by omega) (by omega) dL_law_261 (fun z9 => absurd z9 (by omega)) (fun z9 => ?_)
    refine r_iload C (lv_at hl 6 rfl) dL_law_264 ?_
    refine r_if_eq (tgt := 319) C (by decide) (by decide) dL_law_266 (fun z9 => absurd z9 (by decide)) (fun z9 => ?_)
    refine r_aload_n C rfl (lv_at hl 9 rfl) dL_law_269 ?_
    refine r_bipush C (by decide) dL_law_270 ?_
    refine r_iload C (lv_at hl 3 rfl) dL_law_272 ?_
    refine r_bipush C (by decide) dL_law_274 ?_
    refine r_idiv C (by omega) (by omega) dL_law_276 ?_
    refine r_iload C (lv_at hl 1 rfl) dL_law_277 ?_
    refine r_irem C (by omega) (by omega) dL_law_279 ?_
    rw [hse]
    refine r_iload C (lv_at hl 0 rfl) dL_law_280 ?_
    refine r_iconst C dL_law_282 ?_
    refine r_sT (rest := []) (c9 := n0 + 1380 + 2 * j + 1) (r := wrR F s j) C Ks (k_call_8 l hst g kt b 0 ac z0 F DIA KEP ISK (T + 6 * (j : Int)) hJ hT (s : Int) (j : Int) (by omega) (by omega) s j (fun _ => by omega) (fun _ => by omega) hac 0) (tv_0 (Kd_0.mpr ⟨⟨by omega, by omega⟩, ⟨by omega, by omega⟩⟩)) s_RL_162 hP hl.1 rfl ⟨by decide, by decide⟩ rfl (Nat.le_of_ble_eq_true rfl) (by omega) (show n0 + 1380 + 2 * j + 1 ≤ 600130 by omega) (Nat.le_of_ble_eq_true rfl) dL_law_283 (pc9 := 286) rfl (fun H1 L1 p1 F1 => ?_)
    have G1 := G0.call (fun q h => by have := h.1; omega) F1
    have K1 := G1.sk KZ hkz (fun q hq => by omega)
    have hP1 := p1.1 (Kd_0.mpr ⟨⟨by omega, by omega⟩, ⟨by omega, by omega⟩⟩)
    have hQ_1 := hQ.kept (fun q h8 h9 => F1.2.1 q (by have := hQ.lt; omega) (not_cdp (by omega)))
    refine r_aload_n C rfl (lv_at hl 8 rfl) dL_law_286 ?_
    refine r_bipush C (by decide) dL_law_287 ?_
    refine r_iload C (lv_at hl 3 rfl) dL_law_289 ?_
    refine r_bipush C (by decide) dL_law_291 ?_
    refine r_idiv C (by omega) (by omega) dL_law_293 ?_
    refine r_iload C (lv_at hl 1 rfl) dL_law_294 ?_
    refine r_irem C (by omega) (by omega) dL_law_296 ?_
    rw [hse]
    refine r_iload C (lv_at hl 0 rfl) dL_law_297 ?_
    refine r_iconst C dL_law_299 ?_
    refine r_sT (rest := [.int (iI (wrR F s j))]) (c9 := n0 + 1380 + 2 * j + 2) (r := wrR F s j) C K1 (k_call_8 l hst g kt c 0 ac z0 F DIA KEP ISK (T + 6 * (j : Int)) hJ hT (s : Int) (j : Int) (by omega) (by omega) s j (fun _ => by omega) (fun _ => by omega) hac 0) (tv_0 (Kd_0.mpr ⟨⟨by omega, by omega⟩, ⟨by omega, by omega⟩⟩)) s_RL_162 hQ_1 hl.1 rfl ⟨by decide, by decide⟩ rfl (Nat.le_of_ble_eq_true rfl) (by omega) (show n0 + 1380 + 2 * j + 2 ≤ 600130 by omega) (Nat.le_of_ble_eq_true rfl) dL_law_300 (pc9 := 303) rfl (fun H2 L2 p2 F2 => ?_)
    have G2 := G1.call (fun q h => by have := h.1; omega) F2
    have K2 := G2.sk KZ hkz (fun q hq => by omega)
    have hQ2 := p2.1 (Kd_0.mpr ⟨⟨by omega, by omega⟩, ⟨by omega, by omega⟩⟩)
    have hP1_2 := hP1.kept (fun q h8 h9 => F2.2.1 q (by have := hP1.lt; omega) (not_cdp (by omega)))
    refine r_ine_same (tgt := 310) C (by decide) (rfl) dL_law_303 ?_
    refine r_iconst C dL_law_306 ?_
    refine r_goto (tgt := 311) C (by decide) dL_law_307 ?_
    refine r_istore (lv' := [(4, .int (iI 1)), (11, .int (iI (j : Int))), (10, .int (iI (F 0))), (9, .int (iI (n9 : Int))), (7, .int (iI x)), (6, .int (iI (i : Int))), (5, .int (iI (tn : Int))), (3, .int (iI f9)), (2, .ref c), (1, .ref b), (0, .ref sc)]) C hl (by decide) rfl dL_law_311 (fun ls hl => ?_)
    refine r_iinc (lv' := [(11, .int (iI ((j : Int) + 1))), (4, .int (iI 1)), (10, .int (iI (F 0))), (9, .int (iI (n9 : Int))), (7, .int (iI x)), (6, .int (iI (i : Int))), (5, .int (iI (tn : Int))), (3, .int (iI f9)), (2, .ref c), (1, .ref b), (0, .ref sc)]) C hl (q := 1) rfl (by decide) rfl dL_law_313 (fun ls hl => ?_)
    refine r_goto (tgt := 257) C (by decide) dL_law_316 ?_
    rw [show ((j : Int) + 1) = ((j + 1 : Nat) : Int) by omega] at hl
    exact W.widen (by omega) (by omega) (ih (j + 1) (by omega) _ _ _ ((hI.push hw9.1 (by omega) (by rw [hw9.2]; omega)).mono (by omega)) hw9.2 _ _ hP1_2 hQ2 G2 _ (lv_sub hl [0, 2, 3, 4, 5, 6, 1, 7, 8, 9, 10] rfl))

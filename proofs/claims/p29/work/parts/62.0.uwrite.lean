theorem s_RL_202 : SiteS "LentRoomLaw" 202 yL_thrown cL_thrown 1 (some .boolean) 1 := ⟨⟨q_5717, q_5718, q_29, q_5719⟩, by decide, by decide, by decide +kernel⟩
/-! ===== a turn of the law ===== -/
section RCELL
variable {p : Program} {l : Launch} {e : Env} {R : Room} {s : State} {m : MethodId} {args : Array Value} {below : List Frame} {meth : Method} {c : Code} {H : Heap} {locs : List Loc} {cells slots : Nat} {Q : State → Prop}
variable {cc : ByteArray} {nL : Nat} {own : String} {ret : Option FieldType} {x : Cond} {g : Gt} {pc idx : Nat} {ls : Array Slot} {rest : List Value}
theorem pcx_blind {sc L : Nat} {X : Nat → Int32} {As : List Value} : FrameBlind (Pcx sc L X As g) := fun a U j mk q => ⟨q.1, va_X.moved (u := U) (U := U.calling j mk a) (Vm.Alike.refl U.vm) q.2.1, va_K.moved (u := U) (U := U.calling j mk a) (Vm.Alike.refl U.vm) q.2.2⟩
theorem r_cell (C : Cx p s m args meth c cc nL own ret x g) {sc L : Nat} {X : Nat → Int32} (hX : va_X sc L X s H) (hL : L ≤ 260) {k : Nat} {kI : Int} (hk : kI = (k : Int)) (hk9 : k < 1000) (S : SiteS own idx yL_cell cL_cell 2 (some .int) 2) (hz : ls.size = nL) (hR : RM 0 0 2 R) (hw : (rest.map fun v => v.category).sum ≤ 8) (hf : cells + 0 ≤ R.cells ∧ slots + 0 ≤ R.slots) (d : decode cc pc = .ok (.invokestatic idx, 3)) (kk : W p l e R s m args below meth c H locs cells slots Q (F0 m (pc + 3) ls (.int (iI (clV X L k)) :: rest))) : W p l e R s m args below meth c H locs cells slots Q (F0 m pc ls (.int (iI kI) :: .ref sc :: rest)) := by
  subst hk
  exact cr_P (W.runS (n := 2) (As := [.ref sc, .int (iI (k : Int))]) (rest := rest) ⟨C.1, C.2.1, C.2.2.1, C.2.2.2.1, C.2.2.2.2.1⟩ (k_cell l g sc L X hL k hk9) (cw_S C S hR) ⟨pcx_blind, fun U hU hW => ⟨rfl, by rw [hU]; exact va_X.moved hW.alike hX, va_K.moved hW.alike C.2.2.2.2.2.2.2⟩⟩ rfl rfl hz rfl (lv_room hw) d hf) kk
end RCELL
theorem r1_c {c : Nat} (h : c ≤ 600130) : c + 0 ≤ room_1.cells ∧ 6 * c + 0 ≤ room_1.slots := by
  have e1 : room_1.cells = 600130 := rfl
  have e2 : room_1.slots = 7301080 := rfl
  omega
theorem rem_top {ac : Int} {F DIA : Nat → Int} (hac : 0 ≤ ac ∧ ac ≤ 14) {k : Nat} (hk : k < 262) : rem DIA F ac (262 * (remA ac - 1).toNat + k) = F k := by
  unfold rem remA
  by_cases e : ac = 14
  · rw [if_pos e, if_pos e, cpy_in _ _ (by omega)]
    exact congrArg F (by omega)
  · rw [if_neg e, if_neg e, cpy_in _ _ (by omega)]
    exact congrArg F (by omega)

set_option maxRecDepth 100000 in
set_option maxHeartbeats 4000000 in
theorem u_write (l : Launch) (hst : l.stackTraces = false) {zp : Program} {ze : Env} {zs : State} {zm : MethodId} {za : Array Value} {zb : List Frame} {zt : Method} {zc : Code} {Q : State → Prop} {x9 : Cond} {g : Gt} (kt : Kt) (C : Cx zp zs zm za zt zc cL_law 15 "LentRoomLaw" (some .boolean) x9 g) (KZ : SK kt zs zs.heap) (hkz : kt.1 ≤ zs.heap.size) (b c sc L : Nat) (X : Nat → Int32) (hbz : zs.heap.size ≤ b) (hbc : b + 407 ≤ c) (hsc : sc < zs.heap.size) (hX0 : va_X sc L X zs zs.heap) (hL : L ≤ 260) (tn : Nat) (f9 : Int) (i : Nat) (hi : i < 26) (n0 : Nat) (hn0 : n0 + 1480 ≤ 600130) {ac : Int} {F DIA KEP ISK : Nat → Int} {T : Int} (hI : IVS ac F DIA KEP ISK T) (hT9 : 60 ≤ T ∧ T ≤ 880000) (mm : Int) (hmm : F 0 = mm) (x : Int) (hx : 0 ≤ x ∧ x < 2147483648) (kk : ∀ (ac : Int) (F DIA KEP ISK : Nat → Int), IVS ac F DIA KEP ISK (T + 6) → ∀ (H : Heap) (locs : List Loc), DW g b ac F DIA KEP ISK H → DW g c ac F DIA KEP ISK H → GT (fun q => zs.heap.size ≤ q) zs.heap H locs → ∀ ls : Array Slot, lv_has ls 15 [(6, .int (iI ((i + 1 : Nat) : Int))), (5, .int (iI (tn : Int))), (4, .int (iI 1)), (3, .int (iI f9)), (2, .ref c), (1, .ref b), (0, .ref sc)] → W zp l ze room_1 zs zm za zb zt zc H locs (n0 + 1480) (6 * (n0 + 1480)) Q (F0 zm 117 ls [])) : ∀ (H : Heap) (locs : List Loc), DW g b ac F DIA KEP ISK H → DW g c ac F DIA KEP ISK H → GT (fun q => zs.heap.size ≤ q) zs.heap H locs → ∀ ls : Array Slot, lv_has ls 15 [(10, .int (iI mm)), (7, .int (iI x)), (6, .int (iI (i : Int))), (5, .int (iI (tn : Int))), (4, .int (iI 1)), (3, .int (iI f9)), (2, .ref c), (1, .ref b), (0, .ref sc)] → W zp l ze room_1 zs zm za zb zt zc H locs (n0 + 1460) (6 * (n0 + 1460)) Q (F0 zm 319 ls []) := by
  have hJ := hI.j
  have hac := hI.acb
  have hn := hJ.n
  have h1 := hI.ev.1
  have hT : T ≤ 900000 := by omega
  have hT1 : T + 6 ≤ 900000 := by omega
  subst hmm
  have hx0 : 0 ≤ x % F 0 := Int.emod_nonneg _ (by omega)
  have hx1 : x % F 0 < F 0 := Int.emod_lt_of_pos _ (by omega)
  obtain ⟨s, hse⟩ : ∃ s : Nat, x % F 0 = (s : Int) := ⟨(x % F 0).toNat, (Int.toNat_of_nonneg hx0).symm⟩
  have hs5 : s < 5 := by omega
  have hsn : (s : Int) < F 0 := by omega
  obtain ⟨pz, hpz⟩ : ∃ pz : Nat, x / 16 % 40 = (pz : Int) := ⟨(x / 16 % 40).toNat, by omega⟩
  have hp40 : pz < 40 := by omega
  have hcount := wr_count hJ hT hs5 hsn hp40
  have hwb := wrR_b F s pz
  have hS := hJ.S.m (show T ≤ 1000000 by omega)
  have hw := hJ.wr (by omega) hs5 hsn hp40
  have hI1 := hI.push hw.1 (by omega) (by rw [hw.2]; omega)
  have hra : remA ac ≠ 0 ∧ 0 ≤ remA ac ∧ remA ac ≤ 14 := by unfold remA; split <;> omega
  have hre : ∀ k : Nat, k < 262 → rem DIA F ac (262 * (remA ac - 1).toNat + k) = F k := fun k hk => rem_top hac hk
  have hI2 := hI1.pop hra.1 (Or.inr (by have h9 := hre 0 (by omega); rw [Nat.add_zero] at h9; omega))
  obtain ⟨FA, hF1⟩ : ∃ FA : Nat → Int, FA = wrF F s pz := ⟨_, rfl⟩
  obtain ⟨aA, ha1⟩ : ∃ aA : Int, aA = remA ac := ⟨_, rfl⟩
  obtain ⟨DA, hD1⟩ : ∃ DA : Nat → Int, DA = rem DIA F ac := ⟨_, rfl⟩
  rw [← ha1, ← hD1] at hI2 hre
  rw [← ha1, ← hD1, ← hF1] at hI1
  rw [← ha1] at hra
  rw [← hF1] at hcount
  obtain ⟨FB, hF2⟩ : ∃ FB : Nat → Int, FB = (fun k => DA (262 * (aA - 1).toNat + k)) := ⟨_, rfl⟩
  rw [← hF2] at hI2
  have hr2 : ∀ k : Nat, k < 262 → FB k = F k := fun k hk => by rw [hF2]; exact hre k hk
  have hJ1 := hI1.j
  have hac1 := hI1.acb
  have hJ2 := hI2.j
  have hac2 := hI2.acb
  have et := tkA_cg hr2
  have es := S5_cg hr2 (k := 5) (by omega)
  intro H locs hP hQ G0 ls hl
  have Ks := G0.sk KZ hkz (fun q hq => by omega)
  refine r_aload_n C rfl (lv_at hl 7 rfl) dL_law_319 ?_
  refine r_iconst C dL_law_320 ?_
  refine r_iconst C dL_law_321 ?_
  refine r_iconst C dL_law_322 ?_
  refine r_iconst C dL_law_323 ?_
  refine r_sT (rest := []) (c9 := n0 + 1461) (r := tkA F) C Ks (k_call_2 l hst g kt b 0 ac z0 F DIA KEP ISK T hJ hT 1 (by omega) 0 0) ((tv_0 (Kd_0.mpr ⟨by omega, by omega⟩)).trans (rfl)) s_RL_162 hP hl.1 rfl ⟨by decide, by decide⟩ rfl (Nat.le_of_ble_eq_true rfl) (by omega) (show n0 + 1461 ≤ 600130 by omega) (Nat.le_of_ble_eq_true rfl) dL_law_324 (pc9 := 327) rfl (fun H1 L1 p1 F1 => ?_)
  have G1 := G0.call (fun q h => by have := h.1; omega) F1
  have K1 := G1.sk KZ hkz (fun q hq => by omega)
  have hP1 := rdw p1
  have hQ_1 := hQ.kept (fun q h8 h9 => F1.2.1 q (by have := hQ.lt; omega) (not_cdp (by omega)))
  refine r_istore (lv' := [(11, .int (iI (tkA F))), (10, .int (iI (F 0))), (7, .int (iI x)), (6, .int (iI (i : Int))), (5, .int (iI (tn : Int))), (4, .int (iI 1)), (3, .int (iI f9)), (2, .ref c), (1, .ref b), (0, .ref sc)]) C hl (by decide) rfl dL_law_327 (fun ls hl => ?_)
  refine r_aload_n C rfl (lv_at hl 8 rfl) dL_law_329 ?_
  refine r_iconst C dL_law_330 ?_
  refine r_bipush C (by decide) dL_law_331 ?_
  refine r_iconst C dL_law_333 ?_
  refine r_iconst C dL_law_334 ?_
  refine r_sT (rest := []) (c9 := n0 + 1462) (r := S5 F 5) C K1 (k_call_2 l hst g kt b 0 ac z0 F DIA KEP ISK T hJ hT 7 (by omega) 0 0) ((tv_0 (Kd_0.mpr ⟨by omega, by omega⟩)).trans (rfl)) s_RL_162 hP1 hl.1 rfl ⟨by decide, by decide⟩ rfl (Nat.le_of_ble_eq_true rfl) (by omega) (show n0 + 1462 ≤ 600130 by omega) (Nat.le_of_ble_eq_true rfl) dL_law_335 (pc9 := 338) rfl (fun H2 L2 p2 F2 => ?_)
  have G2 := G1.call (fun q h => by have := h.1; omega) F2
  have K2 := G2.sk KZ hkz (fun q hq => by omega)
  have hP2 := rdw p2
  have hQ_1_2 := hQ_1.kept (fun q h8 h9 => F2.2.1 q (by have := hQ_1.lt; omega) (not_cdp (by omega)))
  refine r_istore (lv' := [(12, .int (iI (S5 F 5))), (11, .int (iI (tkA F))), (10, .int (iI (F 0))), (7, .int (iI x)), (6, .int (iI (i : Int))), (5, .int (iI (tn : Int))), (4, .int (iI 1)), (3, .int (iI f9)), (2, .ref c), (1, .ref b), (0, .ref sc)]) C hl (by decide) rfl dL_law_338 (fun ls hl => ?_)
  refine r_iload C (lv_at hl 3 rfl) dL_law_340 ?_
  refine r_bipush C (by decide) dL_law_342 ?_
  refine r_idiv C (by omega) (by omega) dL_law_344 ?_
  refine r_bipush C (by decide) dL_law_345 ?_
  refine r_irem C (by omega) (by omega) dL_law_347 ?_
  rw [hpz]
  refine r_istore (lv' := [(13, .int (iI (pz : Int))), (12, .int (iI (S5 F 5))), (11, .int (iI (tkA F))), (10, .int (iI (F 0))), (7, .int (iI x)), (6, .int (iI (i : Int))), (5, .int (iI (tn : Int))), (4, .int (iI 1)), (3, .int (iI f9)), (2, .ref c), (1, .ref b), (0, .ref sc)]) C hl (by decide) rfl dL_law_348 (fun ls hl => ?_)
  refine r_aload_n C rfl (lv_at hl 10 rfl) dL_law_350 ?_
  refine r_bipush C (by decide) dL_law_351 ?_
  refine r_iload C (lv_at hl 4 rfl) dL_law_353 ?_
  refine r_iload C (lv_at hl 3 rfl) dL_law_355 ?_
  refine r_irem C (by omega) (by omega) dL_law_357 ?_
  rw [hse]
  refine r_iload C (lv_at hl 0 rfl) dL_law_358 ?_
  refine r_iconst C dL_law_360 ?_
  refine r_sT (rest := []) (c9 := n0 + 1463) (r := wrR F s pz) C K2 (k_call_13 l hst g kt b 0 ac z0 F DIA KEP ISK T hJ hT (s : Int) (pz : Int) (by omega) (by omega) s pz (fun _ => by omega) (fun _ => by omega) 0) ((tv_0 (Kd_0.mpr ⟨⟨by omega, by omega⟩, ⟨by omega, by omega⟩⟩)).trans (rfl)) s_RL_162 hP2 hl.1 rfl ⟨by decide, by decide⟩ rfl (Nat.le_of_ble_eq_true rfl) (by omega) (show n0 + 1463 ≤ 600130 by omega) (Nat.le_of_ble_eq_true rfl) dL_law_361 (pc9 := 364) rfl (fun H3 L3 p3 F3 => ?_)
  have G3 := G2.call (fun q h => by have := h.1; omega) F3
  have K3 := G3.sk KZ hkz (fun q hq => by omega)
  have hP3 := rdw p3
  have hQ_1_2_3 := hQ_1_2.kept (fun q h8 h9 => F3.2.1 q (by have := hQ_1_2.lt; omega) (not_cdp (by omega)))
  refine r_istore (lv' := [(14, .int (iI (wrR F s pz))), (13, .int (iI (pz : Int))), (12, .int (iI (S5 F 5))), (11, .int (iI (tkA F))), (10, .int (iI (F 0))), (7, .int (iI x)), (6, .int (iI (i : Int))), (5, .int (iI (tn : Int))), (4, .int (iI 1)), (3, .int (iI f9)), (2, .ref c), (1, .ref b), (0, .ref sc)]) C hl (by decide) rfl dL_law_364 (fun ls hl => ?_)
  refine r_iload C (lv_at hl 8 rfl) dL_law_366 ?_
  refine r_if_eq (tgt := 513) C (by decide) (by decide) dL_law_368 (fun z9 => absurd z9 (by decide)) (fun z9 => ?_)
  refine r_aload_n C rfl (lv_at hl 11 rfl) dL_law_371 ?_
  refine r_bipush C (by decide) dL_law_372 ?_
  refine r_iload C (lv_at hl 5 rfl) dL_law_374 ?_
  refine r_iload C (lv_at hl 4 rfl) dL_law_376 ?_
  refine r_irem C (by omega) (by omega) dL_law_378 ?_
  rw [hse]
  refine r_iload C (lv_at hl 1 rfl) dL_law_379 ?_
  refine r_iconst C dL_law_381 ?_
  refine r_sT (rest := []) (c9 := n0 + 1464) (r := wrR F s pz) C K3 (k_call_8 l hst g kt b 0 ac z0 F DIA KEP ISK T hJ hT (s : Int) (pz : Int) (by omega) (by omega) s pz (fun _ => by omega) (fun _ => by omega) hac 0) (tv_0 (Kd_0.mpr ⟨⟨by omega, by omega⟩, ⟨by omega, by omega⟩⟩)) s_RL_162 hP3 hl.1 rfl ⟨by decide, by decide⟩ rfl (Nat.le_of_ble_eq_true rfl) (by omega) (show n0 + 1464 ≤ 600130 by omega) (Nat.le_of_ble_eq_true rfl) dL_law_382 (pc9 := 385) rfl (fun H4 L4 p4 F4 => ?_)
  have G4 := G3.call (fun q h => by have := h.1; omega) F4
  have K4 := G4.sk KZ hkz (fun q hq => by omega)
  have hP4 := p4.1 (Kd_0.mpr ⟨⟨by omega, by omega⟩, ⟨by omega, by omega⟩⟩)
  rw [← hF1, ← ha1, ← hD1] at hP4
  have hQ_1_2_3_4 := hQ_1_2_3.kept (fun q h8 h9 => F4.2.1 q (by have := hQ_1_2_3.lt; omega) (not_cdp (by omega)))
  refine r_iload C (lv_at hl 0 rfl) dL_law_385 ?_
  refine r_ine_same (tgt := 513) C (by decide) (rfl) dL_law_387 ?_
  refine r_aload_n C rfl (lv_at hl 10 rfl) dL_law_390 ?_
  refine r_bipush C (by decide) dL_law_391 ?_
  refine r_iload C (lv_at hl 5 rfl) dL_law_393 ?_
  refine r_iload C (lv_at hl 4 rfl) dL_law_395 ?_
  refine r_irem C (by omega) (by omega) dL_law_397 ?_
  rw [hse]
  refine r_iload C (lv_at hl 1 rfl) dL_law_398 ?_
  refine r_iconst C dL_law_400 ?_
  refine r_sT (rest := []) (c9 := n0 + 1465) (r := wrR F s pz) C K4 (k_call_8 l hst g kt c 0 ac z0 F DIA KEP ISK T hJ hT (s : Int) (pz : Int) (by omega) (by omega) s pz (fun _ => by omega) (fun _ => by omega) hac 0) (tv_0 (Kd_0.mpr ⟨⟨by omega, by omega⟩, ⟨by omega, by omega⟩⟩)) s_RL_162 hQ_1_2_3_4 hl.1 rfl ⟨by decide, by decide⟩ rfl (Nat.le_of_ble_eq_true rfl) (by omega) (show n0 + 1465 ≤ 600130 by omega) (Nat.le_of_ble_eq_true rfl) dL_law_401 (pc9 := 404) rfl (fun H5 L5 p5 F5 => ?_)
  have G5 := G4.call (fun q h => by have := h.1; omega) F5
  have K5 := G5.sk KZ hkz (fun q hq => by omega)
  have hQ5 := p5.1 (Kd_0.mpr ⟨⟨by omega, by omega⟩, ⟨by omega, by omega⟩⟩)
  rw [← hF1, ← ha1, ← hD1] at hQ5
  have hP4_5 := hP4.kept (fun q h8 h9 => F5.2.1 q (by have := hP4.lt; omega) (not_cdp (by omega)))
  refine r_iload C (lv_at hl 0 rfl) dL_law_404 ?_
  refine r_ine_same (tgt := 513) C (by decide) (rfl) dL_law_406 ?_
  refine r_aload_n C rfl (lv_at hl 10 rfl) dL_law_409 ?_
  refine r_bipush C (by decide) dL_law_410 ?_
  refine r_iconst C dL_law_412 ?_
  refine r_iconst C dL_law_413 ?_
  refine r_iconst C dL_law_414 ?_
  refine r_sT (rest := []) (c9 := n0 + 1466) (r := aA - 1) C K5 (k_call_12 l hst g kt c 0 aA z0 FA DA KEP ISK (T + 6) hJ1 hT1 hac1 0 0 0) (tv_0 (Kd_0.mpr hra.1)) s_RL_162 hQ5 hl.1 rfl ⟨by decide, by decide⟩ rfl (Nat.le_of_ble_eq_true rfl) (by omega) (show n0 + 1466 ≤ 600130 by omega) (Nat.le_of_ble_eq_true rfl) dL_law_415 (pc9 := 418) rfl (fun H6 L6 p6 F6 => ?_)
  have G6 := G5.call (fun q h => by have := h.1; omega) F6
  have K6 := G6.sk KZ hkz (fun q hq => by omega)
  have hQ6 := p6.1 (Kd_0.mpr hra.1)
  rw [← hF2] at hQ6
  have hP4_5_6 := hP4_5.kept (fun q h8 h9 => F6.2.1 q (by have := hP4_5.lt; omega) (not_cdp (by omega)))
  refine r_sPi (rest := []) C (k_thrown l g (aA - 1) (by omega) (by omega)) s_RL_202 trivial hl.1 rfl ⟨by decide, by decide⟩ rfl (Nat.le_of_ble_eq_true rfl) (r1_c (by omega)) dL_law_418 ?_
  refine r_if_ne (tgt := 513) C (by decide) (by decide) dL_law_421 (fun z9 => absurd z9 (by decide)) (fun z9 => ?_)
  refine r_aload_n C rfl (lv_at hl 11 rfl) dL_law_424 ?_
  refine r_iconst C dL_law_425 ?_
  refine r_iconst C dL_law_426 ?_
  refine r_iconst C dL_law_427 ?_
  refine r_iconst C dL_law_428 ?_
  refine r_sT (rest := []) (c9 := n0 + 1467) (r := tkA FA) C K6 (k_call_2 l hst g kt b 0 aA z0 FA DA KEP ISK (T + 6) hJ1 hT1 1 (by omega) 0 0) ((tv_0 (Kd_0.mpr ⟨by omega, by omega⟩)).trans (rfl)) s_RL_162 hP4_5_6 hl.1 rfl ⟨by decide, by decide⟩ rfl (Nat.le_of_ble_eq_true rfl) (by omega) (show n0 + 1467 ≤ 600130 by omega) (Nat.le_of_ble_eq_true rfl) dL_law_429 (pc9 := 432) rfl (fun H7 L7 p7 F7 => ?_)
  have G7 := G6.call (fun q h => by have := h.1; omega) F7
  have K7 := G7.sk KZ hkz (fun q hq => by omega)
  have hP7 := rdw p7
  have hQ6_7 := hQ6.kept (fun q h8 h9 => F7.2.1 q (by have := hQ6.lt; omega) (not_cdp (by omega)))
  refine r_iload C (lv_at hl 3 rfl) dL_law_432 ?_
  refine r_iload C (lv_at hl 0 rfl) dL_law_434 ?_
  refine r_if_eq (tgt := 445) C (by decide) (by omega) dL_law_436 (fun z4 => ?_) (fun z4 => ?_)
  · skip
    refine r_iconst C dL_law_445 ?_
    refine r_goto (tgt := 463) C (by decide) dL_law_446 ?_
    refine r_iadd C dL_law_463 ?_
    refine r_ine_same (tgt := 513) C (by decide) (by rw [hcount, if_pos (by omega)]) dL_law_464 ?_
    refine r_aload_n C rfl (lv_at hl 11 rfl) dL_law_467 ?_
    refine r_bipush C (by decide) dL_law_468 ?_
    refine r_iconst C dL_law_470 ?_
    refine r_iconst C dL_law_471 ?_
    refine r_iconst C dL_law_472 ?_
    refine r_sT (rest := []) (c9 := n0 + 1468) (r := aA - 1) C K7 (k_call_12 l hst g kt b 0 aA z0 FA DA KEP ISK (T + 6) hJ1 hT1 hac1 0 0 0) (tv_0 (Kd_0.mpr hra.1)) s_RL_162 hP7 hl.1 rfl ⟨by decide, by decide⟩ rfl (Nat.le_of_ble_eq_true rfl) (by omega) (show n0 + 1468 ≤ 600130 by omega) (Nat.le_of_ble_eq_true rfl) dL_law_473 (pc9 := 476) rfl (fun H8 L8 p8 F8 => ?_)
    have G8 := G7.call (fun q h => by have := h.1; omega) F8
    have K8 := G8.sk KZ hkz (fun q hq => by omega)
    have hP8 := p8.1 (Kd_0.mpr hra.1)
    rw [← hF2] at hP8
    have hQ6_7_8 := hQ6_7.kept (fun q h8 h9 => F8.2.1 q (by have := hQ6_7.lt; omega) (not_cdp (by omega)))
    refine r_sPi (rest := []) C (k_thrown l g (aA - 1) (by omega) (by omega)) s_RL_202 trivial hl.1 rfl ⟨by decide, by decide⟩ rfl (Nat.le_of_ble_eq_true rfl) (r1_c (by omega)) dL_law_476 ?_
    refine r_if_ne (tgt := 513) C (by decide) (by decide) dL_law_479 (fun z9 => absurd z9 (by decide)) (fun z9 => ?_)
    refine r_aload_n C rfl (lv_at hl 11 rfl) dL_law_482 ?_
    refine r_iconst C dL_law_483 ?_
    refine r_iconst C dL_law_484 ?_
    refine r_iconst C dL_law_485 ?_
    refine r_iconst C dL_law_486 ?_
    refine r_sT (rest := []) (c9 := n0 + 1469) (r := tkA F) C K8 (k_call_2 l hst g kt b 0 (aA - 1) z0 FB DA KEP ISK (T + 6) hJ2 hT1 1 (by omega) 0 0) ((tv_0 (Kd_0.mpr ⟨by omega, by omega⟩)).trans (et)) s_RL_162 hP8 hl.1 rfl ⟨by decide, by decide⟩ rfl (Nat.le_of_ble_eq_true rfl) (by omega) (show n0 + 1469 ≤ 600130 by omega) (Nat.le_of_ble_eq_true rfl) dL_law_487 (pc9 := 490) rfl (fun H9 L9 p9 F9 => ?_)
    have G9 := G8.call (fun q h => by have := h.1; omega) F9
    have K9 := G9.sk KZ hkz (fun q hq => by omega)
    have hP9 := rdw p9
    have hQ6_7_8_9 := hQ6_7_8.kept (fun q h8 h9 => F9.2.1 q (by have := hQ6_7_8.lt; omega) (not_cdp (by omega)))
    refine r_iload C (lv_at hl 3 rfl) dL_law_490 ?_
    refine r_ine_same (tgt := 513) C (by decide) (rfl) dL_law_492 ?_
    refine r_aload_n C rfl (lv_at hl 11 rfl) dL_law_495 ?_
    refine r_iconst C dL_law_496 ?_
    refine r_bipush C (by decide) dL_law_497 ?_
    refine r_iconst C dL_law_499 ?_
    refine r_iconst C dL_law_500 ?_
    refine r_sT (rest := []) (c9 := n0 + 1470) (r := S5 F 5) C K9 (k_call_2 l hst g kt b 0 (aA - 1) z0 FB DA KEP ISK (T + 6) hJ2 hT1 7 (by omega) 0 0) ((tv_0 (Kd_0.mpr ⟨by omega, by omega⟩)).trans (es)) s_RL_162 hP9 hl.1 rfl ⟨by decide, by decide⟩ rfl (Nat.le_of_ble_eq_true rfl) (by omega) (show n0 + 1470 ≤ 600130 by omega) (Nat.le_of_ble_eq_true rfl) dL_law_501 (pc9 := 504) rfl (fun H10 L10 p10 F10 => ?_)
    have G10 := G9.call (fun q h => by have := h.1; omega) F10
    have K10 := G10.sk KZ hkz (fun q hq => by omega)
    have hP10 := rdw p10
    have hQ6_7_8_9_10 := hQ6_7_8_9.kept (fun q h8 h9 => F10.2.1 q (by have := hQ6_7_8_9.lt; omega) (not_cdp (by omega)))
    refine r_iload C (lv_at hl 2 rfl) dL_law_504 ?_
    refine r_ine_same (tgt := 513) C (by decide) (rfl) dL_law_506 ?_
    refine r_iconst C dL_law_509 ?_
    refine r_goto (tgt := 514) C (by decide) dL_law_510 ?_
    refine r_istore (lv' := [(4, .int (iI 1)), (14, .int (iI (wrR F s pz))), (13, .int (iI (pz : Int))), (12, .int (iI (S5 F 5))), (11, .int (iI (tkA F))), (10, .int (iI (F 0))), (7, .int (iI x)), (6, .int (iI (i : Int))), (5, .int (iI (tn : Int))), (3, .int (iI f9)), (2, .ref c), (1, .ref b), (0, .ref sc)]) C hl (by decide) rfl dL_law_514 (fun ls hl => ?_)
    refine r_iinc (lv' := [(6, .int (iI ((i : Int) + 1))), (4, .int (iI 1)), (14, .int (iI (wrR F s pz))), (13, .int (iI (pz : Int))), (12, .int (iI (S5 F 5))), (11, .int (iI (tkA F))), (10, .int (iI (F 0))), (7, .int (iI x)), (5, .int (iI (tn : Int))), (3, .int (iI f9)), (2, .ref c), (1, .ref b), (0, .ref sc)]) C hl (q := 7) rfl (by decide) rfl dL_law_516 (fun ls hl => ?_)
    refine r_goto (tgt := 117) C (by decide) dL_law_519 ?_
    rw [show ((i : Int) + 1) = ((i + 1 : Nat) : Int) by omega] at hl
    exact W.widen (by omega) (by omega) (kk _ _ _ _ _ hI2 _ _ hP10 hQ6_7_8_9_10 G10 _ (lv_sub hl [0, 8, 1, 9, 10, 11, 12] rfl))
  · skip
    refine r_iload C (lv_at hl 0 rfl) dL_law_439 ?_
    refine r_iconst C dL_law_441 ?_
    refine r_icmp_ne (tgt := 449) C (by decide) (by omega) (by decide) dL_law_442 (fun z3 => ?_) (fun z3 => ?_)
    · skip
      refine r_iconst C dL_law_449 ?_
      refine r_aload_n C rfl (lv_at hl 11 rfl) dL_law_450 ?_
      refine r_iconst C dL_law_451 ?_
      refine r_bipush C (by decide) dL_law_452 ?_
      refine r_iconst C dL_law_454 ?_
      refine r_iconst C dL_law_455 ?_
      refine r_sT (rest := [.int (iI 1), .int (iI (tkA F)), .int (iI (tkA FA))]) (c9 := n0 + 1468) (r := S5 FA 5) C K7 (k_call_2 l hst g kt b 0 aA z0 FA DA KEP ISK (T + 6) hJ1 hT1 7 (by omega) 0 0) ((tv_0 (Kd_0.mpr ⟨by omega, by omega⟩)).trans (rfl)) s_RL_162 hP7 hl.1 rfl ⟨by decide, by decide⟩ rfl (Nat.le_of_ble_eq_true rfl) (by omega) (show n0 + 1468 ≤ 600130 by omega) (Nat.le_of_ble_eq_true rfl) dL_law_456 (pc9 := 459) rfl (fun H11 L11 p11 F11 => ?_)
      have G11 := G7.call (fun q h => by have := h.1; omega) F11
      have K11 := G11.sk KZ hkz (fun q hq => by omega)
      have hP11 := rdw p11
      have hQ6_7_11 := hQ6_7.kept (fun q h8 h9 => F11.2.1 q (by have := hQ6_7.lt; omega) (not_cdp (by omega)))
      refine r_isub C dL_law_459 ?_
      refine r_iload C (lv_at hl 2 rfl) dL_law_460 ?_
      refine r_iadd C dL_law_462 ?_
      refine r_iadd C dL_law_463 ?_
      refine r_ine_same (tgt := 513) C (by decide) (by rw [hcount, if_neg (by omega)]) dL_law_464 ?_
      refine r_aload_n C rfl (lv_at hl 11 rfl) dL_law_467 ?_
      refine r_bipush C (by decide) dL_law_468 ?_
      refine r_iconst C dL_law_470 ?_
      refine r_iconst C dL_law_471 ?_
      refine r_iconst C dL_law_472 ?_
      refine r_sT (rest := []) (c9 := n0 + 1469) (r := aA - 1) C K11 (k_call_12 l hst g kt b 0 aA z0 FA DA KEP ISK (T + 6) hJ1 hT1 hac1 0 0 0) (tv_0 (Kd_0.mpr hra.1)) s_RL_162 hP11 hl.1 rfl ⟨by decide, by decide⟩ rfl (Nat.le_of_ble_eq_true rfl) (by omega) (show n0 + 1469 ≤ 600130 by omega) (Nat.le_of_ble_eq_true rfl) dL_law_473 (pc9 := 476) rfl (fun H12 L12 p12 F12 => ?_)
      have G12 := G11.call (fun q h => by have := h.1; omega) F12
      have K12 := G12.sk KZ hkz (fun q hq => by omega)
      have hP12 := p12.1 (Kd_0.mpr hra.1)
      rw [← hF2] at hP12
      have hQ6_7_11_12 := hQ6_7_11.kept (fun q h8 h9 => F12.2.1 q (by have := hQ6_7_11.lt; omega) (not_cdp (by omega)))
      refine r_sPi (rest := []) C (k_thrown l g (aA - 1) (by omega) (by omega)) s_RL_202 trivial hl.1 rfl ⟨by decide, by decide⟩ rfl (Nat.le_of_ble_eq_true rfl) (r1_c (by omega)) dL_law_476 ?_
      refine r_if_ne (tgt := 513) C (by decide) (by decide) dL_law_479 (fun z9 => absurd z9 (by decide)) (fun z9 => ?_)
      refine r_aload_n C rfl (lv_at hl 11 rfl) dL_law_482 ?_
      refine r_iconst C dL_law_483 ?_
      refine r_iconst C dL_law_484 ?_
      refine r_iconst C dL_law_485 ?_
      refine r_iconst C dL_law_486 ?_
      refine r_sT (rest := []) (c9 := n0 + 1470) (r := tkA F) C K12 (k_call_2 l hst g kt b 0 (aA - 1) z0 FB DA KEP ISK (T + 6) hJ2 hT1 1 (by omega) 0 0) ((tv_0 (Kd_0.mpr ⟨by omega, by omega⟩)).trans (et)) s_RL_162 hP12 hl.1 rfl ⟨by decide, by decide⟩ rfl (Nat.le_of_ble_eq_true rfl) (by omega) (show n0 + 1470 ≤ 600130 by omega) (Nat.le_of_ble_eq_true rfl) dL_law_487 (pc9 := 490) rfl (fun H13 L13 p13 F13 => ?_)
      have G13 := G12.call (fun q h => by have := h.1; omega) F13
      have K13 := G13.sk KZ hkz (fun q hq => by omega)
      have hP13 := rdw p13
      have hQ6_7_11_12_13 := hQ6_7_11_12.kept (fun q h8 h9 => F13.2.1 q (by have := hQ6_7_11_12.lt; omega) (not_cdp (by omega)))
      refine r_iload C (lv_at hl 3 rfl) dL_law_490 ?_
      refine r_ine_same (tgt := 513) C (by decide) (rfl) dL_law_492 ?_
      refine r_aload_n C rfl (lv_at hl 11 rfl) dL_law_495 ?_
      refine r_iconst C dL_law_496 ?_
      refine r_bipush C (by decide) dL_law_497 ?_
      refine r_iconst C dL_law_499 ?_
      refine r_iconst C dL_law_500 ?_
      refine r_sT (rest := []) (c9 := n0 + 1471) (r := S5 F 5) C K13 (k_call_2 l hst g kt b 0 (aA - 1) z0 FB DA KEP ISK (T + 6) hJ2 hT1 7 (by omega) 0 0) ((tv_0 (Kd_0.mpr ⟨by omega, by omega⟩)).trans (es)) s_RL_162 hP13 hl.1 rfl ⟨by decide, by decide⟩ rfl (Nat.le_of_ble_eq_true rfl) (by omega) (show n0 + 1471 ≤ 600130 by omega) (Nat.le_of_ble_eq_true rfl) dL_law_501 (pc9 := 504) rfl (fun H14 L14 p14 F14 => ?_)
      have G14 := G13.call (fun q h => by have := h.1; omega) F14
      have K14 := G14.sk KZ hkz (fun q hq => by omega)
      have hP14 := rdw p14
      have hQ6_7_11_12_13_14 := hQ6_7_11_12_13.kept (fun q h8 h9 => F14.2.1 q (by have := hQ6_7_11_12_13.lt; omega) (not_cdp (by omega)))
      refine r_iload C (lv_at hl 2 rfl) dL_law_504 ?_
      refine r_ine_same (tgt := 513) C (by decide) (rfl) dL_law_506 ?_
      refine r_iconst C dL_law_509 ?_
      refine r_goto (tgt := 514) C (by decide) dL_law_510 ?_
      refine r_istore (lv' := [(4, .int (iI 1)), (14, .int (iI (wrR F s pz))), (13, .int (iI (pz : Int))), (12, .int (iI (S5 F 5))), (11, .int (iI (tkA F))), (10, .int (iI (F 0))), (7, .int (iI x)), (6, .int (iI (i : Int))), (5, .int (iI (tn : Int))), (3, .int (iI f9)), (2, .ref c), (1, .ref b), (0, .ref sc)]) C hl (by decide) rfl dL_law_514 (fun ls hl => ?_)
      refine r_iinc (lv' := [(6, .int (iI ((i : Int) + 1))), (4, .int (iI 1)), (14, .int (iI (wrR F s pz))), (13, .int (iI (pz : Int))), (12, .int (iI (S5 F 5))), (11, .int (iI (tkA F))), (10, .int (iI (F 0))), (7, .int (iI x)), (5, .int (iI (tn : Int))), (3, .int (iI f9)), (2, .ref c), (1, .ref b), (0, .ref sc)]) C hl (q := 7) rfl (by decide) rfl dL_law_516 (fun ls hl => ?_)
      refine r_goto (tgt := 117) C (by decide) dL_law_519 ?_
      rw [show ((i : Int) + 1) = ((i + 1 : Nat) : Int) by omega] at hl
      exact W.widen (by omega) (by omega) (kk _ _ _ _ _ hI2 _ _ hP14 hQ6_7_11_12_13_14 G14 _ (lv_sub hl [0, 8, 1, 9, 10, 11, 12] rfl))
    · skip
      refine r_iconst C dL_law_445 ?_
      refine r_goto (tgt := 463) C (by decide) dL_law_446 ?_
      refine r_iadd C dL_law_463 ?_
      refine r_ine_same (tgt := 513) C (by decide) (by rw [hcount, if_pos (by omega)]) dL_law_464 ?_
      refine r_aload_n C rfl (lv_at hl 11 rfl) dL_law_467 ?_
      refine r_bipush C (by decide) dL_law_468 ?_
      refine r_iconst C dL_law_470 ?_
      refine r_iconst C dL_law_471 ?_
      refine r_iconst C dL_law_472 ?_
      refine r_sT (rest := []) (c9 := n0 + 1468) (r := aA - 1) C K7 (k_call_12 l hst g kt b 0 aA z0 FA DA KEP ISK (T + 6) hJ1 hT1 hac1 0 0 0) (tv_0 (Kd_0.mpr hra.1)) s_RL_162 hP7 hl.1 rfl ⟨by decide, by decide⟩ rfl (Nat.le_of_ble_eq_true rfl) (by omega) (show n0 + 1468 ≤ 600130 by omega) (Nat.le_of_ble_eq_true rfl) dL_law_473 (pc9 := 476) rfl (fun H15 L15 p15 F15 => ?_)
      have G15 := G7.call (fun q h => by have := h.1; omega) F15
      have K15 := G15.sk KZ hkz (fun q hq => by omega)
      have hP15 := p15.1 (Kd_0.mpr hra.1)
      rw [← hF2] at hP15
      have hQ6_7_15 := hQ6_7.kept (fun q h8 h9 => F15.2.1 q (by have := hQ6_7.lt; omega) (not_cdp (by omega)))
      refine r_sPi (rest := []) C (k_thrown l g (aA - 1) (by omega) (by omega)) s_RL_202 trivial hl.1 rfl ⟨by decide, by decide⟩ rfl (Nat.le_of_ble_eq_true rfl) (r1_c (by omega)) dL_law_476 ?_
      refine r_if_ne (tgt := 513) C (by decide) (by decide) dL_law_479 (fun z9 => absurd z9 (by decide)) (fun z9 => ?_)
      refine r_aload_n C rfl (lv_at hl 11 rfl) dL_law_482 ?_
      refine r_iconst C dL_law_483 ?_
      refine r_iconst C dL_law_484 ?_
      refine r_iconst C dL_law_485 ?_
      refine r_iconst C dL_law_486 ?_
      refine r_sT (rest := []) (c9 := n0 + 1469) (r := tkA F) C K15 (k_call_2 l hst g kt b 0 (aA - 1) z0 FB DA KEP ISK (T + 6) hJ2 hT1 1 (by omega) 0 0) ((tv_0 (Kd_0.mpr ⟨by omega, by omega⟩)).trans (et)) s_RL_162 hP15 hl.1 rfl ⟨by decide, by decide⟩ rfl (Nat.le_of_ble_eq_true rfl) (by omega) (show n0 + 1469 ≤ 600130 by omega) (Nat.le_of_ble_eq_true rfl) dL_law_487 (pc9 := 490) rfl (fun H16 L16 p16 F16 => ?_)
      have G16 := G15.call (fun q h => by have := h.1; omega) F16
      have K16 := G16.sk KZ hkz (fun q hq => by omega)
      have hP16 := rdw p16
      have hQ6_7_15_16 := hQ6_7_15.kept (fun q h8 h9 => F16.2.1 q (by have := hQ6_7_15.lt; omega) (not_cdp (by omega)))
      refine r_iload C (lv_at hl 3 rfl) dL_law_490 ?_
      refine r_ine_same (tgt := 513) C (by decide) (rfl) dL_law_492 ?_
      refine r_aload_n C rfl (lv_at hl 11 rfl) dL_law_495 ?_
      refine r_iconst C dL_law_496 ?_
      refine r_bipush C (by decide) dL_law_497 ?_
      refine r_iconst C dL_law_499 ?_
      refine r_iconst C dL_law_500 ?_
      refine r_sT (rest := []) (c9 := n0 + 1470) (r := S5 F 5) C K16 (k_call_2 l hst g kt b 0 (aA - 1) z0 FB DA KEP ISK (T + 6) hJ2 hT1 7 (by omega) 0 0) ((tv_0 (Kd_0.mpr ⟨by omega, by omega⟩)).trans (es)) s_RL_162 hP16 hl.1 rfl ⟨by decide, by decide⟩ rfl (Nat.le_of_ble_eq_true rfl) (by omega) (show n0 + 1470 ≤ 600130 by omega) (Nat.le_of_ble_eq_true rfl) dL_law_501 (pc9 := 504) rfl (fun H17 L17 p17 F17 => ?_)
      have G17 := G16.call (fun q h => by have := h.1; omega) F17
      have K17 := G17.sk KZ hkz (fun q hq => by omega)
      have hP17 := rdw p17
      have hQ6_7_15_16_17 := hQ6_7_15_16.kept (fun q h8 h9 => F17.2.1 q (by have := hQ6_7_15_16.lt; omega) (not_cdp (by omega)))
      refine r_iload C (lv_at hl 2 rfl) dL_law_504 ?_
      refine r_ine_same (tgt := 513) C (by decide) (rfl) dL_law_506 ?_
      refine r_iconst C dL_law_509 ?_
      refine r_goto (tgt := 514) C (by decide) dL_law_510 ?_
      refine r_istore (lv' := [(4, .int (iI 1)), (14, .int (iI (wrR F s pz))), (13, .int (iI (pz : Int))), (12, .int (iI (S5 F 5))), (11, .int (iI (tkA F))), (10, .int (iI (F 0))), (7, .int (iI x)), (6, .int (iI (i : Int))), (5, .int (iI (tn : Int))), (3, .int (iI f9)), (2, .ref c), (1, .ref b), (0, .ref sc)]) C hl (by decide) rfl dL_law_514 (fun ls hl => ?_)
      refine r_iinc (lv' := [(6, .int (iI ((i : Int) + 1))), (4, .int (iI 1)), (14, .int (iI (wrR F s pz))), (13, .int (iI (pz : Int))), (12, .int (iI (S5 F 5))), (11, .int (iI (tkA F))), (10, .int (iI (F 0))), (7, .int (iI x)), (5, .int (iI (tn : Int))), (3, .int (iI f9)), (2, .ref c), (1, .ref b), (0, .ref sc)]) C hl (q := 7) rfl (by decide) rfl dL_law_516 (fun ls hl => ?_)
      refine r_goto (tgt := 117) C (by decide) dL_law_519 ?_
      rw [show ((i : Int) + 1) = ((i + 1 : Nat) : Int) by omega] at hl
      exact W.widen (by omega) (by omega) (kk _ _ _ _ _ hI2 _ _ hP17 hQ6_7_15_16_17 G17 _ (lv_sub hl [0, 8, 1, 9, 10, 11, 12] rfl))

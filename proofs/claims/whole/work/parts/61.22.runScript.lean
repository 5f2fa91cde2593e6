theorem s_RL_175 : SiteV "LentRoomLaw" 175 "LentRoomModel" yX4_runScript cX4_runScript 8 (some .int) 2 := ⟨⟨q_1049, q_1050, q_1051, q_34, q_1052⟩, rfl, by decide, by decide, by decide +kernel⟩
theorem sw_172 : SiteW 172 yL_runScript cL_runScript 6 [(0, 11, 14, 13)] 4 := ⟨⟨q_721, q_722, q_29, q_723⟩, by decide, by decide, by decide +kernel⟩
set_option maxHeartbeats 4000000 in
theorem c_runScript {p : Program} {l : Launch} {e : Env} {R : Room} {s : State} {m : MethodId} {args : Array Value} {below : List Frame} {meth : Method} {c : Code} {H : Heap} {locs : List Loc} {cells slots : Nat} {Q : State → Prop} {x9 : Cond} {g : Gt} {kt : Kt} {b mb ob sc L n9 : Nat} {X : Nat → Int32} {ls : Array Slot} (C : Cx p s m args meth c cL_law 7 "LentRoomLaw" (some .boolean) x9 g) (E : LX l s kt b mb ob sc L X) (hR : R.frames = 15 ∧ R.locals = 598) (hc : cells + 3 ≤ R.cells ∧ slots + 18 ≤ R.slots) (G : Gf b n9 s.heap H locs) {T : Int} (hT : 28900 ≤ T ∧ T ≤ 890000) (hI : LI g b mb ob T H) {i : Nat} (hi : i + 4 ≤ L) (hl : lv_has ls 7 [(4, .int (iI (i : Int))), (3, .ref ob), (2, .ref mb), (1, .ref b), (0, .ref sc)])
    (kk : ∀ (H1 : Heap) (locs1 : List Loc) (n1 : Nat) (ls : Array Slot), Gf b n1 s.heap H1 locs1 → LI g b mb ob (T + 6) H1 → lv_has ls 7 [(4, .int (iI (i : Int))), (3, .ref ob), (2, .ref mb), (1, .ref b), (0, .ref sc)] → W p l e R s m args below meth c H1 locs1 (cells + 3) (slots + 18) Q (F0 m 1679 ls [])) : W p l e R s m args below meth c H locs cells slots Q (F0 m 1367 ls []) := by
  obtain ⟨hst, K9, hkb, eb, emb, eob, hsc, hX0, hL9⟩ := E
  obtain ⟨rf, n0, ac, TX, F, DIA, KEP, ISK, ⟨h1, h2, h3, h4, h5, h6⟩, hC, hM, fo, hO⟩ := hI
  have hz9 := G.1
  have hMl := hM.lt
  have hOl := hO.lt
  have hX : va_X sc L X s H := hX0.kept (G.2.1 sc (by omega))
  have K : SK kt s H := K9.kept (fun q hq => G.2.1 q (by omega))
  obtain ⟨x1, hx1, ex1⟩ : ∃ a : Int, Rg a ∧ X (i + 1) = iI a := ⟨_, rg_of _, (iI_of _).symm⟩
  obtain ⟨x2, hx2, ex2⟩ : ∃ a : Int, RgL a ∧ ((X (i + 2)).toInt64 <<< ((iI 32).toInt64 &&& 63)) ||| ((X (i + 3)).toInt64 &&& iL 4294967295) = iL a := ⟨_, rg_ofL _, (iL_of _).symm⟩
  refine r_aload_n C rfl (lv_at hl 3 rfl) dL_law_1367 ?_
  refine r_aload_n C rfl (lv_at hl 4 rfl) dL_law_1368 ?_
  refine r_iload C (lv_at hl 0 rfl) dL_law_1369 ?_
  refine r_iconst C dL_law_1371 ?_
  refine r_iadd C dL_law_1372 ?_
  refine r_sld C hX (i + 1) (by omega) (by omega) hL9 ex1 dL_law_1373 ?_
  refine r_aload_n C rfl (lv_at hl 4 rfl) dL_law_1374 ?_
  refine r_iload C (lv_at hl 0 rfl) dL_law_1375 ?_
  refine r_iconst C dL_law_1377 ?_
  refine r_iadd C dL_law_1378 ?_
  refine r_sld C hX (i + 2) (by omega) (by omega) hL9 rfl dL_law_1379 ?_
  refine r_i2lR C dL_law_1380 ?_
  refine r_bipush C (by decide) dL_law_1381 ?_
  refine lv_lshl C.1 C.2.1 dL_law_1383 rfl ?_
  refine r_aload_n C rfl (lv_at hl 4 rfl) dL_law_1384 ?_
  refine r_iload C (lv_at hl 0 rfl) dL_law_1385 ?_
  refine r_iconst C dL_law_1387 ?_
  refine r_iadd C dL_law_1388 ?_
  refine r_sld C hX (i + 3) (by omega) (by omega) hL9 rfl dL_law_1389 ?_
  refine r_i2lR C dL_law_1390 ?_
  refine r_ldc2 C q_1078 dL_law_1391 ?_
  refine lv_land C.1 C.2.1 dL_law_1394 ?_
  refine lv_lor C.1 C.2.1 dL_law_1395 ?_
  rw [show ((X (i + 2)).toInt64 <<< ((iI 32).toInt64 &&& 63)) ||| ((X (i + 3)).toInt64 &&& (4294967295 : Int64)) = iL x2 from ex2]
  refine r_aload_n C rfl (lv_at hl 1 rfl) dL_law_1396 ?_
  refine r_sLM (rest := []) C K (k_L_runScript l hst g kt b (n0 : Int) ac TX F DIA KEP ISK T h4 (by omega) x1 x2 hx1 hx2 (x1.toNat) (fun h => (Int.toNat_of_nonneg h).symm) ob (by omega)) sw_172 ⟨hC, fo, hO⟩ hl.1 rfl ⟨by omega, by omega⟩ rfl (Nat.le_of_ble_eq_true rfl) ⟨by omega, by omega⟩ dL_law_1397 (fun H1 L1 p1 p2 z1 o1 L9 => ?_)
  refine r_istore C hl (by decide) rfl dL_law_1400 (fun ls hl => ?_)
  have G1 := G.lm (by omega) z1 o1 L9
  have hM1 := hM.kept (fun q h8 h9 => o1 q (by omega) (not_cob (by omega) (by omega)))
  have hX1 : va_X sc L X s H1 := hX.kept (o1 sc (by omega) (not_cob (by omega) (by omega)))
  refine r_aload_n C rfl (lv_at hl 3 rfl) dL_law_1402 ?_
  refine r_aload_n C rfl (lv_at hl 5 rfl) dL_law_1403 ?_
  refine r_iload C (lv_at hl 1 rfl) dL_law_1404 ?_
  refine r_iconst C dL_law_1406 ?_
  refine r_iadd C dL_law_1407 ?_
  refine r_sld C hX1 (i + 1) (by omega) (by omega) hL9 ex1 dL_law_1408 ?_
  refine r_aload_n C rfl (lv_at hl 5 rfl) dL_law_1409 ?_
  refine r_iload C (lv_at hl 1 rfl) dL_law_1410 ?_
  refine r_iconst C dL_law_1412 ?_
  refine r_iadd C dL_law_1413 ?_
  refine r_sld C hX1 (i + 2) (by omega) (by omega) hL9 rfl dL_law_1414 ?_
  refine r_i2lR C dL_law_1415 ?_
  refine r_bipush C (by decide) dL_law_1416 ?_
  refine lv_lshl C.1 C.2.1 dL_law_1418 rfl ?_
  refine r_aload_n C rfl (lv_at hl 5 rfl) dL_law_1419 ?_
  refine r_iload C (lv_at hl 1 rfl) dL_law_1420 ?_
  refine r_iconst C dL_law_1422 ?_
  refine r_iadd C dL_law_1423 ?_
  refine r_sld C hX1 (i + 3) (by omega) (by omega) hL9 rfl dL_law_1424 ?_
  refine r_i2lR C dL_law_1425 ?_
  refine r_ldc2 C q_1078 dL_law_1426 ?_
  refine lv_land C.1 C.2.1 dL_law_1429 ?_
  refine lv_lor C.1 C.2.1 dL_law_1430 ?_
  rw [show ((X (i + 2)).toInt64 <<< ((iI 32).toInt64 &&& 63)) ||| ((X (i + 3)).toInt64 &&& (4294967295 : Int64)) = iL x2 from ex2]
  obtain ⟨M9, hm9⟩ := hM1.rc
  refine r_vHi (rest := []) C (k_X4_runScript l g mb rf (n0 : Int) ac TX F DIA KEP ISK T h4 (by omega) x1 x2 hx1 hx2 (x1.toNat) (fun h => (Int.toNat_of_nonneg h).symm)) s_RL_175 hM1 G1.fr (fun q hq => by have := hq.1; omega) (recv C (ci := 4) rfl hm9.o) hl.1 rfl ⟨by omega, by omega⟩ rfl (Nat.le_of_ble_eq_true rfl) ⟨by omega, by omega⟩ dL_law_1431 (fun H2 l2 q2 o2 z2 F2 => ?_)
  refine r_istore C hl (by decide) rfl dL_law_1434 (fun ls hl => ?_)
  have G2 := G1.of F2
  have z12 : H1.size = b + (H1.size - b) := G1.1
  have hKr : Rg (Kd ((1 ≤ x1 ∧ x1 ≤ 3) ∧ (0 ≤ x2 ∧ x2 < pw x1.toNat))) := by unfold Kd; split <;> decide
  refine r_aload_n C rfl (lv_at hl 4 rfl) dL_law_1436 ?_
  by_cases hK : ((Kd ((1 ≤ x1 ∧ x1 ≤ 3) ∧ (0 ≤ x2 ∧ x2 < pw x1.toNat))) : Int) = 0
  · have hM2 := q2.1 hK
    obtain ⟨hC1, hO1⟩ := p1 hK
    have hIV : IV (n0) ac TX F DIA KEP ISK (T + 6) := ⟨h1, h2, h3, h4.mono (by omega), h5.mono (by omega), h6.mono (by omega)⟩
    have hC2 := hC1.kept (fun q h8 h9 => o2 q (not_mdp (by omega)))
    have hO2 := hO1.kept (o2 ob (not_mdp (by omega)))
    obtain ⟨M8, hm8⟩ := hM2.rc
    refine r_vHi (rest := []) C (k_X4_thrown l g mb 0 (n0 : Int) ac TX F DIA KEP ISK (T + 6) hIV.2.2.2.1 (by omega)) s_RL_99 hM2 G2.fr (fun q hq => by have := hq.1; omega) (recv C (ci := 4) rfl hm8.o) hl.1 rfl ⟨by omega, by omega⟩ rfl (Nat.le_of_ble_eq_true rfl) ⟨by omega, by omega⟩ dL_law_1437 (fun H3 l3 hM3 o3 z3 F3 => ?_)
    have hC3 := hC2.kept (fun q h8 h9 => o3 q (not_mdp (by omega)))
    have hO3 := hO2.kept (o3 ob (not_mdp (by omega)))
    rw [if_pos hK] at hl
    rw [hK] at hl
    refine r_iload C (lv_at hl 1 rfl) dL_law_1440 ?_
    refine r_icmp_same (tgt := 1447) C (by decide) dL_law_1442 ?_
    refine r_iload C (lv_at hl 1 rfl) dL_law_1447 ?_
    refine r_if_ne (tgt := 1464) C (by decide) (by decide) dL_law_1449 (fun z => absurd rfl z) (fun _ => ?_)
    refine r_aload_n C rfl (lv_at hl 3 rfl) dL_law_1452 ?_
    refine r_iconst C dL_law_1453 ?_
    refine r_lald C hO3 0 rfl (by decide) (by decide) dL_law_1454 ?_
    refine r_iload C (lv_at hl 0 rfl) dL_law_1455 ?_
    refine r_i2lR C dL_law_1457 ?_
    refine r_lcmp_same C dL_law_1458 ?_
    refine r_if_eq (tgt := 1464) C (by decide) (by decide) dL_law_1459 (fun _ => ?_) (fun z => absurd rfl z)
    refine r_goto (tgt := 1679) C (by decide) dL_law_1464 ?_
    refine W.widen (by omega) (by omega) (kk H3 l3 _ ls (G2.of F3) ⟨0, n0, ac, TX, F, DIA, KEP, ISK, hIV, hC3, hM3, _, hO3⟩ (lv_sub hl [2, 3, 4, 5, 6] rfl))
  · have hM2 := q2.2 hK
    obtain ⟨hC1, fo1, hO1⟩ := p2 hK
    have hIV : IV n0 ac TX F DIA KEP ISK (T + 6) := ⟨h1, h2, h3, h4.mono (by omega), h5.mono (by omega), h6.mono (by omega)⟩
    have hC2 := hC1.kept (fun q h8 h9 => o2 q (not_mdp (by omega)))
    have hO2 := hO1.kept (o2 ob (not_mdp (by omega)))
    obtain ⟨M8, hm8⟩ := hM2.rc
    refine r_vHi (rest := []) C (k_X4_thrown l g mb (Kd ((1 ≤ x1 ∧ x1 ≤ 3) ∧ (0 ≤ x2 ∧ x2 < pw x1.toNat))) (n0 : Int) ac TX F DIA KEP ISK (T + 6) hIV.2.2.2.1 (by omega)) s_RL_99 hM2 G2.fr (fun q hq => by have := hq.1; omega) (recv C (ci := 4) rfl hm8.o) hl.1 rfl ⟨by omega, by omega⟩ rfl (Nat.le_of_ble_eq_true rfl) ⟨by omega, by omega⟩ dL_law_1437 (fun H3 l3 hM3 o3 z3 F3 => ?_)
    have hC3 := hC2.kept (fun q h8 h9 => o3 q (not_mdp (by omega)))
    have hO3 := hO2.kept (o3 ob (not_mdp (by omega)))
    refine r_iload C (lv_at hl 1 rfl) dL_law_1440 ?_
    refine r_icmp_same (tgt := 1447) C (by decide) dL_law_1442 ?_
    refine r_iload C (lv_at hl 1 rfl) dL_law_1447 ?_
    refine r_if_ne (tgt := 1464) C (by decide) hKr dL_law_1449 (fun _ => ?_) (fun z => absurd z hK)
    refine r_goto (tgt := 1679) C (by decide) dL_law_1464 ?_
    refine W.widen (by omega) (by omega) (kk H3 l3 _ ls (G2.of F3) ⟨(Kd ((1 ≤ x1 ∧ x1 ≤ 3) ∧ (0 ≤ x2 ∧ x2 < pw x1.toNat))), n0, ac, TX, F, DIA, KEP, ISK, hIV, hC3, hM3, _, hO3⟩ (lv_sub hl [2, 3, 4, 5, 6] rfl))

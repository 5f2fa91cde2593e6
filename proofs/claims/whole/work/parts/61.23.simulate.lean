theorem s_RL_179 : SiteV "LentRoomLaw" 179 "LentRoomModel" yX4_simulate cX4_simulate 7 (some .int) 2 := ⟨⟨q_1059, q_1060, q_1061, q_34, q_1062⟩, rfl, by decide, by decide, by decide +kernel⟩
theorem sw_176 : SiteW 176 yL_simulate cL_simulate 6 [(0, 11, 14, 13)] 4 := ⟨⟨q_742, q_743, q_29, q_744⟩, by decide, by decide, by decide +kernel⟩
set_option maxHeartbeats 4000000 in
theorem c_simulate {p : Program} {l : Launch} {e : Env} {R : Room} {s : State} {m : MethodId} {args : Array Value} {below : List Frame} {meth : Method} {c : Code} {H : Heap} {locs : List Loc} {cells slots : Nat} {Q : State → Prop} {x9 : Cond} {g : Gt} {kt : Kt} {b mb ob sc L n9 : Nat} {X : Nat → Int32} {ls : Array Slot} (C : Cx p s m args meth c cL_law 7 "LentRoomLaw" (some .boolean) x9 g) (E : LX l s kt b mb ob sc L X) (hR : R.frames = 15 ∧ R.locals = 598) (hc : cells + 3 ≤ R.cells ∧ slots + 18 ≤ R.slots) (G : Gf b n9 s.heap H locs) {T : Int} (hT : 28900 ≤ T ∧ T ≤ 890000) (hI : LI g b mb ob T H) {i : Nat} (hi : i + 4 ≤ L) (hl : lv_has ls 7 [(4, .int (iI (i : Int))), (3, .ref ob), (2, .ref mb), (1, .ref b), (0, .ref sc)])
    (kk : ∀ (H1 : Heap) (locs1 : List Loc) (n1 : Nat) (ls : Array Slot), Gf b n1 s.heap H1 locs1 → LI g b mb ob (T + 6) H1 → lv_has ls 7 [(4, .int (iI (i : Int))), (3, .ref ob), (2, .ref mb), (1, .ref b), (0, .ref sc)] → W p l e R s m args below meth c H1 locs1 (cells + 3) (slots + 18) Q (F0 m 1679 ls [])) : W p l e R s m args below meth c H locs cells slots Q (F0 m 1467 ls []) := by
  obtain ⟨hst, K9, hkb, eb, emb, eob, hsc, hX0, hL9⟩ := E
  obtain ⟨rf, n0, ac, TX, F, DIA, KEP, ISK, ⟨h1, h2, h3, h4, h5, h6⟩, hC, hM, fo, hO⟩ := hI
  have hz9 := G.1
  have hMl := hM.lt
  have hOl := hO.lt
  have hX : va_X sc L X s H := hX0.kept (G.2.1 sc (by omega))
  have K : SK kt s H := K9.kept (fun q hq => G.2.1 q (by omega))
  obtain ⟨x1, hx1, ex1⟩ : ∃ a : Int, RgL a ∧ ((X (i + 1)).toInt64 <<< ((iI 32).toInt64 &&& 63)) ||| ((X (i + 2)).toInt64 &&& iL 4294967295) = iL a := ⟨_, rg_ofL _, (iL_of _).symm⟩
  obtain ⟨x3, hx3, ex3⟩ : ∃ a : Int, Rg a ∧ X (i + 3) = iI a := ⟨_, rg_of _, (iI_of _).symm⟩
  refine r_aload_n C rfl (lv_at hl 3 rfl) dL_law_1467 ?_
  refine r_aload_n C rfl (lv_at hl 4 rfl) dL_law_1468 ?_
  refine r_iload C (lv_at hl 0 rfl) dL_law_1469 ?_
  refine r_iconst C dL_law_1471 ?_
  refine r_iadd C dL_law_1472 ?_
  refine r_sld C hX (i + 1) (by omega) (by omega) hL9 rfl dL_law_1473 ?_
  refine r_i2lR C dL_law_1474 ?_
  refine r_bipush C (by decide) dL_law_1475 ?_
  refine lv_lshl C.1 C.2.1 dL_law_1477 rfl ?_
  refine r_aload_n C rfl (lv_at hl 4 rfl) dL_law_1478 ?_
  refine r_iload C (lv_at hl 0 rfl) dL_law_1479 ?_
  refine r_iconst C dL_law_1481 ?_
  refine r_iadd C dL_law_1482 ?_
  refine r_sld C hX (i + 2) (by omega) (by omega) hL9 rfl dL_law_1483 ?_
  refine r_i2lR C dL_law_1484 ?_
  refine r_ldc2 C q_1078 dL_law_1485 ?_
  refine lv_land C.1 C.2.1 dL_law_1488 ?_
  refine lv_lor C.1 C.2.1 dL_law_1489 ?_
  rw [show ((X (i + 1)).toInt64 <<< ((iI 32).toInt64 &&& 63)) ||| ((X (i + 2)).toInt64 &&& (4294967295 : Int64)) = iL x1 from ex1]
  refine r_aload_n C rfl (lv_at hl 4 rfl) dL_law_1490 ?_
  refine r_iload C (lv_at hl 0 rfl) dL_law_1491 ?_
  refine r_iconst C dL_law_1493 ?_
  refine r_iadd C dL_law_1494 ?_
  refine r_sld C hX (i + 3) (by omega) (by omega) hL9 ex3 dL_law_1495 ?_
  refine r_aload_n C rfl (lv_at hl 1 rfl) dL_law_1496 ?_
  refine r_sLM (rest := []) C K (k_L_simulate l hst g kt b (n0 : Int) ac TX F DIA KEP ISK T h4 (by omega) x1 x3 hx3 (x3.toNat) (fun h => (Int.toNat_of_nonneg h).symm) ob (by omega)) sw_176 ⟨hC, fo, hO⟩ hl.1 rfl ⟨by omega, by omega⟩ rfl (Nat.le_of_ble_eq_true rfl) ⟨by omega, by omega⟩ dL_law_1497 (fun H1 L1 p1 p2 z1 o1 L9 => ?_)
  refine r_istore C hl (by decide) rfl dL_law_1500 (fun ls hl => ?_)
  have G1 := G.lm (by omega) z1 o1 L9
  have hM1 := hM.kept (fun q h8 h9 => o1 q (by omega) (not_cob (by omega) (by omega)))
  have hX1 : va_X sc L X s H1 := hX.kept (o1 sc (by omega) (not_cob (by omega) (by omega)))
  refine r_aload_n C rfl (lv_at hl 3 rfl) dL_law_1502 ?_
  refine r_aload_n C rfl (lv_at hl 5 rfl) dL_law_1503 ?_
  refine r_iload C (lv_at hl 1 rfl) dL_law_1504 ?_
  refine r_iconst C dL_law_1506 ?_
  refine r_iadd C dL_law_1507 ?_
  refine r_sld C hX1 (i + 1) (by omega) (by omega) hL9 rfl dL_law_1508 ?_
  refine r_i2lR C dL_law_1509 ?_
  refine r_bipush C (by decide) dL_law_1510 ?_
  refine lv_lshl C.1 C.2.1 dL_law_1512 rfl ?_
  refine r_aload_n C rfl (lv_at hl 5 rfl) dL_law_1513 ?_
  refine r_iload C (lv_at hl 1 rfl) dL_law_1514 ?_
  refine r_iconst C dL_law_1516 ?_
  refine r_iadd C dL_law_1517 ?_
  refine r_sld C hX1 (i + 2) (by omega) (by omega) hL9 rfl dL_law_1518 ?_
  refine r_i2lR C dL_law_1519 ?_
  refine r_ldc2 C q_1078 dL_law_1520 ?_
  refine lv_land C.1 C.2.1 dL_law_1523 ?_
  refine lv_lor C.1 C.2.1 dL_law_1524 ?_
  rw [show ((X (i + 1)).toInt64 <<< ((iI 32).toInt64 &&& 63)) ||| ((X (i + 2)).toInt64 &&& (4294967295 : Int64)) = iL x1 from ex1]
  refine r_aload_n C rfl (lv_at hl 5 rfl) dL_law_1525 ?_
  refine r_iload C (lv_at hl 1 rfl) dL_law_1526 ?_
  refine r_iconst C dL_law_1528 ?_
  refine r_iadd C dL_law_1529 ?_
  refine r_sld C hX1 (i + 3) (by omega) (by omega) hL9 ex3 dL_law_1530 ?_
  obtain ⟨M9, hm9⟩ := hM1.rc
  refine r_vHi (rest := []) C (k_X4_simulate l g mb rf (n0 : Int) ac TX F DIA KEP ISK T h4 (by omega) x1 x3 hx3 (x3.toNat) (fun h => (Int.toNat_of_nonneg h).symm)) s_RL_179 hM1 G1.fr (fun q hq => by have := hq.1; omega) (recv C (ci := 4) rfl hm9.o) hl.1 rfl ⟨by omega, by omega⟩ rfl (Nat.le_of_ble_eq_true rfl) ⟨by omega, by omega⟩ dL_law_1531 (fun H2 l2 q2 o2 z2 F2 => ?_)
  refine r_istore C hl (by decide) rfl dL_law_1534 (fun ls hl => ?_)
  have G2 := G1.of F2
  have z12 : H1.size = b + (H1.size - b) := G1.1
  have hKr : Rg (Kd (1 ≤ x3 ∧ x3 ≤ 99)) := by unfold Kd; split <;> decide
  refine r_aload_n C rfl (lv_at hl 4 rfl) dL_law_1536 ?_
  by_cases hK : ((Kd (1 ≤ x3 ∧ x3 ≤ 99)) : Int) = 0
  · have hM2 := q2.1 hK
    obtain ⟨hC1, hO1⟩ := p1 hK
    have hIV : IV (n0) ac TX F DIA KEP ISK (T + 6) := ⟨h1, h2, h3, h4.mono (by omega), h5.mono (by omega), h6.mono (by omega)⟩
    have hC2 := hC1.kept (fun q h8 h9 => o2 q (not_mdp (by omega)))
    have hO2 := hO1.kept (o2 ob (not_mdp (by omega)))
    obtain ⟨M8, hm8⟩ := hM2.rc
    refine r_vHi (rest := []) C (k_X4_thrown l g mb 0 (n0 : Int) ac TX F DIA KEP ISK (T + 6) hIV.2.2.2.1 (by omega)) s_RL_99 hM2 G2.fr (fun q hq => by have := hq.1; omega) (recv C (ci := 4) rfl hm8.o) hl.1 rfl ⟨by omega, by omega⟩ rfl (Nat.le_of_ble_eq_true rfl) ⟨by omega, by omega⟩ dL_law_1537 (fun H3 l3 hM3 o3 z3 F3 => ?_)
    have hC3 := hC2.kept (fun q h8 h9 => o3 q (not_mdp (by omega)))
    have hO3 := hO2.kept (o3 ob (not_mdp (by omega)))
    rw [if_pos hK] at hl
    rw [hK] at hl
    refine r_iload C (lv_at hl 1 rfl) dL_law_1540 ?_
    refine r_icmp_same (tgt := 1547) C (by decide) dL_law_1542 ?_
    refine r_iload C (lv_at hl 1 rfl) dL_law_1547 ?_
    refine r_if_ne (tgt := 1564) C (by decide) (by decide) dL_law_1549 (fun z => absurd rfl z) (fun _ => ?_)
    refine r_aload_n C rfl (lv_at hl 3 rfl) dL_law_1552 ?_
    refine r_iconst C dL_law_1553 ?_
    refine r_lald C hO3 0 rfl (by decide) (by decide) dL_law_1554 ?_
    refine r_iload C (lv_at hl 0 rfl) dL_law_1555 ?_
    refine r_i2lR C dL_law_1557 ?_
    refine r_lcmp_same C dL_law_1558 ?_
    refine r_if_eq (tgt := 1564) C (by decide) (by decide) dL_law_1559 (fun _ => ?_) (fun z => absurd rfl z)
    refine r_goto (tgt := 1679) C (by decide) dL_law_1564 ?_
    refine W.widen (by omega) (by omega) (kk H3 l3 _ ls (G2.of F3) ⟨0, n0, ac, TX, F, DIA, KEP, ISK, hIV, hC3, hM3, _, hO3⟩ (lv_sub hl [2, 3, 4, 5, 6] rfl))
  · have hM2 := q2.2 hK
    obtain ⟨hC1, fo1, hO1⟩ := p2 hK
    have hIV : IV n0 ac TX F DIA KEP ISK (T + 6) := ⟨h1, h2, h3, h4.mono (by omega), h5.mono (by omega), h6.mono (by omega)⟩
    have hC2 := hC1.kept (fun q h8 h9 => o2 q (not_mdp (by omega)))
    have hO2 := hO1.kept (o2 ob (not_mdp (by omega)))
    obtain ⟨M8, hm8⟩ := hM2.rc
    refine r_vHi (rest := []) C (k_X4_thrown l g mb (Kd (1 ≤ x3 ∧ x3 ≤ 99)) (n0 : Int) ac TX F DIA KEP ISK (T + 6) hIV.2.2.2.1 (by omega)) s_RL_99 hM2 G2.fr (fun q hq => by have := hq.1; omega) (recv C (ci := 4) rfl hm8.o) hl.1 rfl ⟨by omega, by omega⟩ rfl (Nat.le_of_ble_eq_true rfl) ⟨by omega, by omega⟩ dL_law_1537 (fun H3 l3 hM3 o3 z3 F3 => ?_)
    have hC3 := hC2.kept (fun q h8 h9 => o3 q (not_mdp (by omega)))
    have hO3 := hO2.kept (o3 ob (not_mdp (by omega)))
    refine r_iload C (lv_at hl 1 rfl) dL_law_1540 ?_
    refine r_icmp_same (tgt := 1547) C (by decide) dL_law_1542 ?_
    refine r_iload C (lv_at hl 1 rfl) dL_law_1547 ?_
    refine r_if_ne (tgt := 1564) C (by decide) hKr dL_law_1549 (fun _ => ?_) (fun z => absurd z hK)
    refine r_goto (tgt := 1679) C (by decide) dL_law_1564 ?_
    refine W.widen (by omega) (by omega) (kk H3 l3 _ ls (G2.of F3) ⟨(Kd (1 ≤ x3 ∧ x3 ≤ 99)), n0, ac, TX, F, DIA, KEP, ISK, hIV, hC3, hM3, _, hO3⟩ (lv_sub hl [2, 3, 4, 5, 6] rfl))

theorem s_RL_129 : SiteV "LentRoomLaw" 129 "LentRoomModel" yX4_oldest cX4_oldest 7 (some .int) 2 := ⟨⟨q_982, q_983, q_984, q_34, q_985⟩, rfl, by decide, by decide, by decide +kernel⟩
theorem sw_127 : SiteW 127 yL_oldest cL_oldest 5 [(0, 10, 13, 28), (0, 10, 17, 13)] 4 := ⟨⟨q_579, q_580, q_29, q_581⟩, by decide, by decide, by decide +kernel⟩
set_option maxHeartbeats 4000000 in
theorem c_oldest {p : Program} {l : Launch} {e : Env} {R : Room} {s : State} {m : MethodId} {args : Array Value} {below : List Frame} {meth : Method} {c : Code} {H : Heap} {locs : List Loc} {cells slots : Nat} {Q : State → Prop} {x9 : Cond} {g : Gt} {kt : Kt} {b mb ob sc L n9 : Nat} {X : Nat → Int32} {ls : Array Slot} (C : Cx p s m args meth c cL_law 7 "LentRoomLaw" (some .boolean) x9 g) (E : LX l s kt b mb ob sc L X) (hR : R.frames = 15 ∧ R.locals = 598) (hc : cells + 3 ≤ R.cells ∧ slots + 18 ≤ R.slots) (G : Gf b n9 s.heap H locs) {T : Int} (hT : 28900 ≤ T ∧ T ≤ 890000) (hI : LI g b mb ob T H) {i : Nat} (hi : i + 4 ≤ L) (hl : lv_has ls 7 [(4, .int (iI (i : Int))), (3, .ref ob), (2, .ref mb), (1, .ref b), (0, .ref sc)])
    (kk : ∀ (H1 : Heap) (locs1 : List Loc) (n1 : Nat) (ls : Array Slot), Gf b n1 s.heap H1 locs1 → LI g b mb ob (T + 6) H1 → lv_has ls 7 [(4, .int (iI (i : Int))), (3, .ref ob), (2, .ref mb), (1, .ref b), (0, .ref sc)] → W p l e R s m args below meth c H1 locs1 (cells + 3) (slots + 18) Q (F0 m 1679 ls [])) : W p l e R s m args below meth c H locs cells slots Q (F0 m 542 ls []) := by
  obtain ⟨hst, K9, hkb, eb, emb, eob, hsc, hX0, hL9⟩ := E
  obtain ⟨rf, n0, ac, TX, F, DIA, KEP, ISK, ⟨h1, h2, h3, h4, h5, h6⟩, hC, hM, fo, hO⟩ := hI
  have hz9 := G.1
  have hMl := hM.lt
  have hOl := hO.lt
  have hX : va_X sc L X s H := hX0.kept (G.2.1 sc (by omega))
  have K : SK kt s H := K9.kept (fun q hq => G.2.1 q (by omega))
  obtain ⟨x1, hx1, ex1⟩ : ∃ a : Int, Rg a ∧ X (i + 1) = iI a := ⟨_, rg_of _, (iI_of _).symm⟩
  obtain ⟨x2, hx2, ex2⟩ : ∃ a : Int, Rg a ∧ X (i + 2) = iI a := ⟨_, rg_of _, (iI_of _).symm⟩
  refine r_aload_n C rfl (lv_at hl 3 rfl) dL_law_542 ?_
  refine r_aload_n C rfl (lv_at hl 4 rfl) dL_law_543 ?_
  refine r_iload C (lv_at hl 0 rfl) dL_law_544 ?_
  refine r_iconst C dL_law_546 ?_
  refine r_iadd C dL_law_547 ?_
  refine r_sld C hX (i + 1) (by omega) (by omega) hL9 ex1 dL_law_548 ?_
  refine r_aload_n C rfl (lv_at hl 4 rfl) dL_law_549 ?_
  refine r_iload C (lv_at hl 0 rfl) dL_law_550 ?_
  refine r_iconst C dL_law_552 ?_
  refine r_iadd C dL_law_553 ?_
  refine r_sld C hX (i + 2) (by omega) (by omega) hL9 ex2 dL_law_554 ?_
  refine r_aload_n C rfl (lv_at hl 1 rfl) dL_law_555 ?_
  refine r_sLM (rest := []) C K (k_L_oldest l hst g kt b (n0 : Int) ac TX F DIA KEP ISK T h4 (by omega) x1 hx1 (x1.toNat) (fun h => (Int.toNat_of_nonneg h).symm) x2 hx2 ob (by omega)) sw_127 ⟨hC, fo, hO⟩ hl.1 rfl ⟨by omega, by omega⟩ rfl (Nat.le_of_ble_eq_true rfl) ⟨by omega, by omega⟩ dL_law_556 (fun H1 L1 p1 p2 z1 o1 L9 => ?_)
  refine r_istore C hl (by decide) rfl dL_law_559 (fun ls hl => ?_)
  have G1 := G.lm (by omega) z1 o1 L9
  have hM1 := hM.kept (fun q h8 h9 => o1 q (by omega) (not_cob (by omega) (by omega)))
  have hX1 : va_X sc L X s H1 := hX.kept (o1 sc (by omega) (not_cob (by omega) (by omega)))
  refine r_aload_n C rfl (lv_at hl 3 rfl) dL_law_561 ?_
  refine r_aload_n C rfl (lv_at hl 5 rfl) dL_law_562 ?_
  refine r_iload C (lv_at hl 1 rfl) dL_law_563 ?_
  refine r_iconst C dL_law_565 ?_
  refine r_iadd C dL_law_566 ?_
  refine r_sld C hX1 (i + 1) (by omega) (by omega) hL9 ex1 dL_law_567 ?_
  refine r_aload_n C rfl (lv_at hl 5 rfl) dL_law_568 ?_
  refine r_iload C (lv_at hl 1 rfl) dL_law_569 ?_
  refine r_iconst C dL_law_571 ?_
  refine r_iadd C dL_law_572 ?_
  refine r_sld C hX1 (i + 2) (by omega) (by omega) hL9 ex2 dL_law_573 ?_
  obtain ⟨M9, hm9⟩ := hM1.rc
  refine r_vHi (rest := []) C (k_X4_oldest l g mb rf (n0 : Int) ac TX F DIA KEP ISK T h4 (by omega) x1 hx1 (x1.toNat) (fun h => (Int.toNat_of_nonneg h).symm) x2 hx2) s_RL_129 hM1 G1.fr (fun q hq => by have := hq.1; omega) (recv C (ci := 4) rfl hm9.o) hl.1 rfl ⟨by omega, by omega⟩ rfl (Nat.le_of_ble_eq_true rfl) ⟨by omega, by omega⟩ dL_law_574 (fun H2 l2 q2 o2 z2 F2 => ?_)
  refine r_istore C hl (by decide) rfl dL_law_577 (fun ls hl => ?_)
  have G2 := G1.of F2
  have z12 : H1.size = b + (H1.size - b) := G1.1
  have hKr : Rg (if ¬ (0 ≤ x1 ∧ x1 < F 0) then 1 else if x2 < 0 then 2 else 0) := by (repeat' split) <;> decide
  refine r_aload_n C rfl (lv_at hl 4 rfl) dL_law_579 ?_
  have hN : ((if ¬ (0 ≤ x1 ∧ x1 < F 0) then 1 else if x2 < 0 then 2 else 0) : Nat) = 0 ↔ ((if ¬ (0 ≤ x1 ∧ x1 < F 0) then 1 else if x2 < 0 then 2 else 0) : Int) = 0 := by (repeat' split) <;> omega
  by_cases hK : ((if ¬ (0 ≤ x1 ∧ x1 < F 0) then 1 else if x2 < 0 then 2 else 0) : Int) = 0
  · have hM2 := q2.1 (hN.mpr hK)
    obtain ⟨hC1, hO1⟩ := p1 hK
    have hIV : IV (n0) ac TX F DIA KEP ISK (T + 6) := ⟨h1, h2, h3, h4.mono (by omega), h5.mono (by omega), h6.mono (by omega)⟩
    have hC2 := hC1.kept (fun q h8 h9 => o2 q (not_mdp (by omega)))
    have hO2 := hO1.kept (o2 ob (not_mdp (by omega)))
    obtain ⟨M8, hm8⟩ := hM2.rc
    refine r_vHi (rest := []) C (k_X4_thrown l g mb 0 (n0 : Int) ac TX F DIA KEP ISK (T + 6) hIV.2.2.2.1 (by omega)) s_RL_99 hM2 G2.fr (fun q hq => by have := hq.1; omega) (recv C (ci := 4) rfl hm8.o) hl.1 rfl ⟨by omega, by omega⟩ rfl (Nat.le_of_ble_eq_true rfl) ⟨by omega, by omega⟩ dL_law_580 (fun H3 l3 hM3 o3 z3 F3 => ?_)
    have hC3 := hC2.kept (fun q h8 h9 => o3 q (not_mdp (by omega)))
    have hO3 := hO2.kept (o3 ob (not_mdp (by omega)))
    rw [if_pos (hN.mpr hK)] at hl
    rw [hK] at hl
    refine r_iload C (lv_at hl 1 rfl) dL_law_583 ?_
    refine r_icmp_same (tgt := 590) C (by decide) dL_law_585 ?_
    refine r_iload C (lv_at hl 1 rfl) dL_law_590 ?_
    refine r_if_ne (tgt := 607) C (by decide) (by decide) dL_law_592 (fun z => absurd rfl z) (fun _ => ?_)
    refine r_aload_n C rfl (lv_at hl 3 rfl) dL_law_595 ?_
    refine r_iconst C dL_law_596 ?_
    refine r_lald C hO3 0 rfl (by decide) (by decide) dL_law_597 ?_
    refine r_iload C (lv_at hl 0 rfl) dL_law_598 ?_
    refine r_i2lR C dL_law_600 ?_
    refine r_lcmp_same C dL_law_601 ?_
    refine r_if_eq (tgt := 607) C (by decide) (by decide) dL_law_602 (fun _ => ?_) (fun z => absurd rfl z)
    refine r_goto (tgt := 1679) C (by decide) dL_law_607 ?_
    refine W.widen (by omega) (by omega) (kk H3 l3 _ ls (G2.of F3) ⟨0, n0, ac, TX, F, DIA, KEP, ISK, hIV, hC3, hM3, _, hO3⟩ (lv_sub hl [2, 3, 4, 5, 6] rfl))
  · have hM2 := q2.2 (fun z => hK (hN.mp z))
    obtain ⟨hC1, fo1, hO1⟩ := p2 hK
    have hIV : IV n0 ac TX F DIA KEP ISK (T + 6) := ⟨h1, h2, h3, h4.mono (by omega), h5.mono (by omega), h6.mono (by omega)⟩
    have hC2 := hC1.kept (fun q h8 h9 => o2 q (not_mdp (by omega)))
    have hO2 := hO1.kept (o2 ob (not_mdp (by omega)))
    obtain ⟨M8, hm8⟩ := hM2.rc
    refine r_vHi (rest := []) C (k_X4_thrown l g mb (if ¬ (0 ≤ x1 ∧ x1 < F 0) then 1 else if x2 < 0 then 2 else 0) (n0 : Int) ac TX F DIA KEP ISK (T + 6) hIV.2.2.2.1 (by omega)) s_RL_99 hM2 G2.fr (fun q hq => by have := hq.1; omega) (recv C (ci := 4) rfl hm8.o) hl.1 rfl ⟨by omega, by omega⟩ rfl (Nat.le_of_ble_eq_true rfl) ⟨by omega, by omega⟩ dL_law_580 (fun H3 l3 hM3 o3 z3 F3 => ?_)
    have hC3 := hC2.kept (fun q h8 h9 => o3 q (not_mdp (by omega)))
    have hO3 := hO2.kept (o3 ob (not_mdp (by omega)))
    refine r_iload C (lv_at hl 1 rfl) dL_law_583 ?_
    refine r_icmp_same (tgt := 590) C (by decide) dL_law_585 ?_
    refine r_iload C (lv_at hl 1 rfl) dL_law_590 ?_
    refine r_if_ne (tgt := 607) C (by decide) hKr dL_law_592 (fun _ => ?_) (fun z => absurd z hK)
    refine r_goto (tgt := 1679) C (by decide) dL_law_607 ?_
    refine W.widen (by omega) (by omega) (kk H3 l3 _ ls (G2.of F3) ⟨(if ¬ (0 ≤ x1 ∧ x1 < F 0) then 1 else if x2 < 0 then 2 else 0), n0, ac, TX, F, DIA, KEP, ISK, hIV, hC3, hM3, _, hO3⟩ (lv_sub hl [2, 3, 4, 5, 6] rfl))

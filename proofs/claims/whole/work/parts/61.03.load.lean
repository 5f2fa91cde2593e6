theorem s_RL_113 : SiteV "LentRoomLaw" 113 "LentRoomModel" yX4_load cX4_load 1 (some .int) 0 := ⟨⟨q_950, q_951, q_952, q_34, q_953⟩, rfl, by decide, by decide, by decide +kernel⟩
theorem sw_110 : SiteW 110 yL_load cL_load 3 [(0, 8, 11, 15)] 2 := ⟨⟨q_366, q_367, q_29, q_368⟩, by decide, by decide, by decide +kernel⟩
set_option maxHeartbeats 4000000 in
theorem c_load {p : Program} {l : Launch} {e : Env} {R : Room} {s : State} {m : MethodId} {args : Array Value} {below : List Frame} {meth : Method} {c : Code} {H : Heap} {locs : List Loc} {cells slots : Nat} {Q : State → Prop} {x9 : Cond} {g : Gt} {kt : Kt} {b mb ob sc L n9 : Nat} {X : Nat → Int32} {ls : Array Slot} (C : Cx p s m args meth c cL_law 7 "LentRoomLaw" (some .boolean) x9 g) (E : LX l s kt b mb ob sc L X) (hR : R.frames = 15 ∧ R.locals = 598) (hc : cells + 3 ≤ R.cells ∧ slots + 18 ≤ R.slots) (G : Gf b n9 s.heap H locs) {T : Int} (hT : 28900 ≤ T ∧ T ≤ 890000) (hI : LI g b mb ob T H) {i : Nat} (hi : i + 4 ≤ L) (hl : lv_has ls 7 [(4, .int (iI (i : Int))), (3, .ref ob), (2, .ref mb), (1, .ref b), (0, .ref sc)])
    (kk : ∀ (H1 : Heap) (locs1 : List Loc) (n1 : Nat) (ls : Array Slot), Gf b n1 s.heap H1 locs1 → LI g b mb ob (T + 6) H1 → lv_has ls 7 [(4, .int (iI (i : Int))), (3, .ref ob), (2, .ref mb), (1, .ref b), (0, .ref sc)] → W p l e R s m args below meth c H1 locs1 (cells + 3) (slots + 18) Q (F0 m 1679 ls [])) : W p l e R s m args below meth c H locs cells slots Q (F0 m 238 ls []) := by
  obtain ⟨hst, K9, hkb, eb, emb, eob, hsc, hX0, hL9⟩ := E
  obtain ⟨rf, n0, ac, TX, F, DIA, KEP, ISK, ⟨h1, h2, h3, h4, h5, h6⟩, hC, hM, fo, hO⟩ := hI
  have hz9 := G.1
  have hMl := hM.lt
  have hOl := hO.lt
  have hX : va_X sc L X s H := hX0.kept (G.2.1 sc (by omega))
  have K : SK kt s H := K9.kept (fun q hq => G.2.1 q (by omega))
  refine r_aload_n C rfl (lv_at hl 3 rfl) dL_law_238 ?_
  refine r_aload_n C rfl (lv_at hl 1 rfl) dL_law_239 ?_
  refine r_sLM (rest := []) C K (k_L_load l hst g kt b (n0 : Int) ac TX F DIA KEP ISK T h4 (by omega) TX h2 n0 (by omega) (by omega) ob (by omega)) sw_110 ⟨hC, fo, hO⟩ hl.1 rfl ⟨by omega, by omega⟩ rfl (Nat.le_of_ble_eq_true rfl) ⟨by omega, by omega⟩ dL_law_240 (fun H1 L1 p1 p2 z1 o1 L9 => ?_)
  refine r_istore C hl (by decide) rfl dL_law_243 (fun ls hl => ?_)
  have G1 := G.lm (by omega) z1 o1 L9
  have hM1 := hM.kept (fun q h8 h9 => o1 q (by omega) (not_cob (by omega) (by omega)))
  have hX1 : va_X sc L X s H1 := hX.kept (o1 sc (by omega) (not_cob (by omega) (by omega)))
  refine r_aload_n C rfl (lv_at hl 3 rfl) dL_law_245 ?_
  obtain ⟨M9, hm9⟩ := hM1.rc
  refine r_vHi (rest := []) C (k_X4_load l g mb rf (n0 : Int) ac TX F DIA KEP ISK T h4 (by omega) TX h2 n0 (by omega) (by omega)) s_RL_113 hM1 G1.fr (fun q hq => by have := hq.1; omega) (recv C (ci := 4) rfl hm9.o) hl.1 rfl ⟨by omega, by omega⟩ rfl (Nat.le_of_ble_eq_true rfl) ⟨by omega, by omega⟩ dL_law_246 (fun H2 l2 q2 o2 z2 F2 => ?_)
  refine r_istore C hl (by decide) rfl dL_law_249 (fun ls hl => ?_)
  have G2 := G1.of F2
  have z12 : H1.size = b + (H1.size - b) := G1.1
  have hKr : Rg (Kd (txE TX n0 = -1)) := by unfold Kd; split <;> decide
  refine r_aload_n C rfl (lv_at hl 4 rfl) dL_law_251 ?_
  by_cases hK : ((Kd (txE TX n0 = -1)) : Int) = 0
  · have hM2 := q2.1 hK
    obtain ⟨hC1, hO1⟩ := p1 hK
    have hIV : IV (n0) 0 TX (txF TX n0) DIA KEP (up (up ISK 0 0) 1 0) (T + 6) := ⟨h1, h2, ⟨by omega, by omega⟩, (J.tx TX n0 h1).mono (by omega), fun i hi => absurd hi (by omega), KJ.none⟩
    have hC2 := hC1.kept (fun q h8 h9 => o2 q (not_mdp (by omega)))
    have hO2 := hO1.kept (o2 ob (not_mdp (by omega)))
    obtain ⟨M8, hm8⟩ := hM2.rc
    refine r_vHi (rest := []) C (k_X4_thrown l g mb 0 (n0 : Int) 0 TX (txF TX n0) DIA KEP (up (up ISK 0 0) 1 0) (T + 6) hIV.2.2.2.1 (by omega)) s_RL_99 hM2 G2.fr (fun q hq => by have := hq.1; omega) (recv C (ci := 4) rfl hm8.o) hl.1 rfl ⟨by omega, by omega⟩ rfl (Nat.le_of_ble_eq_true rfl) ⟨by omega, by omega⟩ dL_law_252 (fun H3 l3 hM3 o3 z3 F3 => ?_)
    have hC3 := hC2.kept (fun q h8 h9 => o3 q (not_mdp (by omega)))
    have hO3 := hO2.kept (o3 ob (not_mdp (by omega)))
    rw [if_pos hK] at hl
    rw [hK] at hl
    refine r_iload C (lv_at hl 1 rfl) dL_law_255 ?_
    refine r_icmp_same (tgt := 262) C (by decide) dL_law_257 ?_
    refine r_iload C (lv_at hl 1 rfl) dL_law_262 ?_
    refine r_if_ne (tgt := 279) C (by decide) (by decide) dL_law_264 (fun z => absurd rfl z) (fun _ => ?_)
    refine r_aload_n C rfl (lv_at hl 3 rfl) dL_law_267 ?_
    refine r_iconst C dL_law_268 ?_
    refine r_lald C hO3 0 rfl (by decide) (by decide) dL_law_269 ?_
    refine r_iload C (lv_at hl 0 rfl) dL_law_270 ?_
    refine r_i2lR C dL_law_272 ?_
    refine r_lcmp_same C dL_law_273 ?_
    refine r_if_eq (tgt := 279) C (by decide) (by decide) dL_law_274 (fun _ => ?_) (fun z => absurd rfl z)
    refine r_goto (tgt := 1679) C (by decide) dL_law_279 ?_
    refine W.widen (by omega) (by omega) (kk H3 l3 _ ls (G2.of F3) ⟨0, n0, 0, TX, txF TX n0, DIA, KEP, up (up ISK 0 0) 1 0, hIV, hC3, hM3, _, hO3⟩ (lv_sub hl [2, 3, 4, 5, 6] rfl))
  · have hM2 := q2.2 hK
    obtain ⟨hC1, fo1, hO1⟩ := p2 hK
    have hIV : IV n0 ac TX F DIA KEP ISK (T + 6) := ⟨h1, h2, h3, h4.mono (by omega), h5.mono (by omega), h6.mono (by omega)⟩
    have hC2 := hC1.kept (fun q h8 h9 => o2 q (not_mdp (by omega)))
    have hO2 := hO1.kept (o2 ob (not_mdp (by omega)))
    obtain ⟨M8, hm8⟩ := hM2.rc
    refine r_vHi (rest := []) C (k_X4_thrown l g mb (Kd (txE TX n0 = -1)) (n0 : Int) ac TX F DIA KEP ISK (T + 6) hIV.2.2.2.1 (by omega)) s_RL_99 hM2 G2.fr (fun q hq => by have := hq.1; omega) (recv C (ci := 4) rfl hm8.o) hl.1 rfl ⟨by omega, by omega⟩ rfl (Nat.le_of_ble_eq_true rfl) ⟨by omega, by omega⟩ dL_law_252 (fun H3 l3 hM3 o3 z3 F3 => ?_)
    have hC3 := hC2.kept (fun q h8 h9 => o3 q (not_mdp (by omega)))
    have hO3 := hO2.kept (o3 ob (not_mdp (by omega)))
    refine r_iload C (lv_at hl 1 rfl) dL_law_255 ?_
    refine r_icmp_same (tgt := 262) C (by decide) dL_law_257 ?_
    refine r_iload C (lv_at hl 1 rfl) dL_law_262 ?_
    refine r_if_ne (tgt := 279) C (by decide) hKr dL_law_264 (fun _ => ?_) (fun z => absurd z hK)
    refine r_goto (tgt := 1679) C (by decide) dL_law_279 ?_
    refine W.widen (by omega) (by omega) (kk H3 l3 _ ls (G2.of F3) ⟨(Kd (txE TX n0 = -1)), n0, ac, TX, F, DIA, KEP, ISK, hIV, hC3, hM3, _, hO3⟩ (lv_sub hl [2, 3, 4, 5, 6] rfl))

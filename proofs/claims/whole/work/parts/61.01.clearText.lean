theorem s_RL_102 : SiteV "LentRoomLaw" 102 "LentRoom" yX3_clearText cX3_clearText 1 (some .int) 0 := ⟨⟨q_163, q_164, q_165, q_30, q_166⟩, rfl, by decide, by decide, by decide +kernel⟩
theorem s_RL_105 : SiteV "LentRoomLaw" 105 "LentRoomModel" yX4_clearText cX4_clearText 2 (some .int) 0 := ⟨⟨q_841, q_842, q_843, q_34, q_844⟩, rfl, by decide, by decide, by decide +kernel⟩
set_option maxHeartbeats 4000000 in
theorem c_clearText {p : Program} {l : Launch} {e : Env} {R : Room} {s : State} {m : MethodId} {args : Array Value} {below : List Frame} {meth : Method} {c : Code} {H : Heap} {locs : List Loc} {cells slots : Nat} {Q : State → Prop} {x9 : Cond} {g : Gt} {kt : Kt} {b mb ob sc L n9 : Nat} {X : Nat → Int32} {ls : Array Slot} (C : Cx p s m args meth c cL_law 7 "LentRoomLaw" (some .boolean) x9 g) (E : LX l s kt b mb ob sc L X) (hR : R.frames = 15 ∧ R.locals = 598) (hc : cells + 3 ≤ R.cells ∧ slots + 18 ≤ R.slots) (G : Gf b n9 s.heap H locs) {T : Int} (hT : 28900 ≤ T ∧ T ≤ 890000) (hI : LI g b mb ob T H) {i : Nat} (hi : i + 4 ≤ L) (hl : lv_has ls 7 [(4, .int (iI (i : Int))), (3, .ref ob), (2, .ref mb), (1, .ref b), (0, .ref sc)])
    (kk : ∀ (H1 : Heap) (locs1 : List Loc) (n1 : Nat) (ls : Array Slot), Gf b n1 s.heap H1 locs1 → LI g b mb ob (T + 6) H1 → lv_has ls 7 [(4, .int (iI (i : Int))), (3, .ref ob), (2, .ref mb), (1, .ref b), (0, .ref sc)] → W p l e R s m args below meth c H1 locs1 (cells + 3) (slots + 18) Q (F0 m 1679 ls [])) : W p l e R s m args below meth c H locs cells slots Q (F0 m 212 ls []) := by
  obtain ⟨hst, K9, hkb, eb, emb, eob, hsc, hX0, hL9⟩ := E
  obtain ⟨rf, n0, ac, TX, F, DIA, KEP, ISK, ⟨h1, h2, h3, h4, h5, h6⟩, hC, hM, fo, hO⟩ := hI
  have hz9 := G.1
  have hMl := hM.lt
  have hOl := hO.lt
  have hX : va_X sc L X s H := hX0.kept (G.2.1 sc (by omega))
  have K : SK kt s H := K9.kept (fun q hq => G.2.1 q (by omega))
  refine r_aload_n C rfl (lv_at hl 3 rfl) dL_law_212 ?_
  refine r_vHi (rest := []) C (k_X3_clearText l g b (n0 : Int) ac TX F DIA KEP ISK T h4 (by omega)) s_RL_102 hC G.fr (fun q hq => hq.1) (recv C (ci := 3) rfl hC.lr.o) hl.1 rfl ⟨by omega, by omega⟩ rfl (Nat.le_of_ble_eq_true rfl) ⟨by omega, by omega⟩ dL_law_213 (fun H1 l1 hC1 o1 z1 F1 => ?_)
  have hM1 := hM.kept (fun q h8 h9 => o1 q (fun h => by obtain ⟨h6, h7⟩ := h; omega))
  have hO1 := hO.kept (o1 ob (fun h => by obtain ⟨h6, h7⟩ := h; omega))
  have G1 := G.of F1
  refine r_aload_n C rfl (lv_at hl 2 rfl) dL_law_216 ?_
  obtain ⟨M9, hm9⟩ := hM1.rc
  refine r_vHi (rest := [.int (iI ((n0 : Int)))]) C (k_X4_clearText l g mb rf (n0 : Int) ac TX F DIA KEP ISK T h4 (by omega) (by omega)) s_RL_105 hM1 G1.fr (fun q hq => by have := hq.1; omega) (recv C (ci := 4) rfl hm9.o) hl.1 rfl ⟨by omega, by omega⟩ rfl (Nat.le_of_ble_eq_true rfl) ⟨by omega, by omega⟩ dL_law_217 (fun H2 l2 hM2 o2 z2 F2 => ?_)
  have hC2 := hC1.kept (fun q h8 h9 => o2 q (not_mdp (by omega)))
  have hO2 := hO1.kept (o2 ob (not_mdp (by omega)))
  refine r_icmp_same (tgt := 1679) C (by decide) dL_law_220 ?_
  refine W.widen (Nat.le_add_right _ _) (Nat.le_add_right _ _) (kk H2 l2 _ ls (G1.of F2) ⟨0, 0, ac, TX, F, DIA, KEP, ISK, ⟨by omega, h2, h3, h4.mono (by omega), h5.mono (by omega), h6.mono (by omega)⟩, hC2, hM2, _, hO2⟩ hl)

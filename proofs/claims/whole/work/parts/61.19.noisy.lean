theorem s_RL_160 : SiteV "LentRoomLaw" 160 "LentRoom" yX3_noisy cX3_noisy 3 (some .int) 0 := ⟨⟨q_257, q_258, q_259, q_30, q_260⟩, rfl, by decide, by decide, by decide +kernel⟩
theorem s_RL_163 : SiteV "LentRoomLaw" 163 "LentRoomModel" yX4_noisy cX4_noisy 5 (some .int) 0 := ⟨⟨q_1037, q_1038, q_1039, q_34, q_1040⟩, rfl, by decide, by decide, by decide +kernel⟩
set_option maxHeartbeats 4000000 in
theorem c_noisy {p : Program} {l : Launch} {e : Env} {R : Room} {s : State} {m : MethodId} {args : Array Value} {below : List Frame} {meth : Method} {c : Code} {H : Heap} {locs : List Loc} {cells slots : Nat} {Q : State → Prop} {x9 : Cond} {g : Gt} {kt : Kt} {b mb ob sc L n9 : Nat} {X : Nat → Int32} {ls : Array Slot} (C : Cx p s m args meth c cL_law 7 "LentRoomLaw" (some .boolean) x9 g) (E : LX l s kt b mb ob sc L X) (hR : R.frames = 15 ∧ R.locals = 598) (hc : cells + 3 ≤ R.cells ∧ slots + 18 ≤ R.slots) (G : Gf b n9 s.heap H locs) {T : Int} (hT : 28900 ≤ T ∧ T ≤ 890000) (hI : LI g b mb ob T H) {i : Nat} (hi : i + 4 ≤ L) (hl : lv_has ls 7 [(4, .int (iI (i : Int))), (3, .ref ob), (2, .ref mb), (1, .ref b), (0, .ref sc)])
    (kk : ∀ (H1 : Heap) (locs1 : List Loc) (n1 : Nat) (ls : Array Slot), Gf b n1 s.heap H1 locs1 → LI g b mb ob (T + 6) H1 → lv_has ls 7 [(4, .int (iI (i : Int))), (3, .ref ob), (2, .ref mb), (1, .ref b), (0, .ref sc)] → W p l e R s m args below meth c H1 locs1 (cells + 3) (slots + 18) Q (F0 m 1679 ls [])) : W p l e R s m args below meth c H locs cells slots Q (F0 m 1242 ls []) := by
  obtain ⟨hst, K9, hkb, eb, emb, eob, hsc, hX0, hL9⟩ := E
  obtain ⟨rf, n0, ac, TX, F, DIA, KEP, ISK, ⟨h1, h2, h3, h4, h5, h6⟩, hC, hM, fo, hO⟩ := hI
  have hz9 := G.1
  have hMl := hM.lt
  have hOl := hO.lt
  have hX : va_X sc L X s H := hX0.kept (G.2.1 sc (by omega))
  have K : SK kt s H := K9.kept (fun q hq => G.2.1 q (by omega))
  refine r_aload_n C rfl (lv_at hl 3 rfl) dL_law_1242 ?_
  refine r_vPi (rest := []) C (k_X3_noisy l g b (n0 : Int) ac TX F DIA KEP ISK T h4 (by omega)) s_RL_160 hC (recv C (ci := 3) rfl hC.lr.o) hl.1 rfl ⟨by omega, by omega⟩ rfl (Nat.le_of_ble_eq_true rfl) ⟨by omega, by omega⟩ dL_law_1243 ?_
  refine r_aload_n C rfl (lv_at hl 2 rfl) dL_law_1246 ?_
  obtain ⟨M9, hm9⟩ := hM.rc
  refine r_vHi (rest := [.int (iI (nz F (F 0).toNat))]) C (k_X4_noisy l g mb rf (n0 : Int) ac TX F DIA KEP ISK T h4 (by omega)) s_RL_163 hM G.fr (fun q hq => by have := hq.1; omega) (recv C (ci := 4) rfl hm9.o) hl.1 rfl ⟨by omega, by omega⟩ rfl (Nat.le_of_ble_eq_true rfl) ⟨by omega, by omega⟩ dL_law_1247 (fun H2 l2 hM2 o2 z2 F2 => ?_)
  have hC2 := hC.kept (fun q h8 h9 => o2 q (not_mdp (by omega)))
  have hO2 := hO.kept (o2 ob (not_mdp (by omega)))
  refine r_icmp_same (tgt := 1679) C (by decide) dL_law_1250 ?_
  refine W.widen (Nat.le_add_right _ _) (Nat.le_add_right _ _) (kk H2 l2 _ ls (G.of F2) ⟨0, n0, ac, TX, F, DIA, KEP, ISK, ⟨h1, h2, h3, h4.mono (by omega), h5.mono (by omega), h6.mono (by omega)⟩, hC2, hM2, _, hO2⟩ hl)

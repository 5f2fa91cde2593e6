theorem s_RL_166 : SiteV "LentRoomLaw" 166 "LentRoomModel" yX4_mostFloor cX4_mostFloor 2 (some .int) 1 := ⟨⟨q_1041, q_1042, q_1043, q_34, q_1044⟩, rfl, by decide, by decide, by decide +kernel⟩
theorem sw_164 : SiteW 164 yL_mostFloor cL_mostFloor 4 [(0, 9, 12, 28)] 3 := ⟨⟨q_705, q_706, q_29, q_707⟩, by decide, by decide, by decide +kernel⟩
set_option maxHeartbeats 4000000 in
theorem c_mostFloor {p : Program} {l : Launch} {e : Env} {R : Room} {s : State} {m : MethodId} {args : Array Value} {below : List Frame} {meth : Method} {c : Code} {H : Heap} {locs : List Loc} {cells slots : Nat} {Q : State → Prop} {x9 : Cond} {g : Gt} {kt : Kt} {b mb ob sc L n9 : Nat} {X : Nat → Int32} {ls : Array Slot} (C : Cx p s m args meth c cL_law 7 "LentRoomLaw" (some .boolean) x9 g) (E : LX l s kt b mb ob sc L X) (hR : R.frames = 15 ∧ R.locals = 598) (hc : cells + 3 ≤ R.cells ∧ slots + 18 ≤ R.slots) (G : Gf b n9 s.heap H locs) {T : Int} (hT : 28900 ≤ T ∧ T ≤ 890000) (hI : LI g b mb ob T H) {i : Nat} (hi : i + 4 ≤ L) (hl : lv_has ls 7 [(4, .int (iI (i : Int))), (3, .ref ob), (2, .ref mb), (1, .ref b), (0, .ref sc)])
    (kk : ∀ (H1 : Heap) (locs1 : List Loc) (n1 : Nat) (ls : Array Slot), Gf b n1 s.heap H1 locs1 → LI g b mb ob (T + 6) H1 → lv_has ls 7 [(4, .int (iI (i : Int))), (3, .ref ob), (2, .ref mb), (1, .ref b), (0, .ref sc)] → W p l e R s m args below meth c H1 locs1 (cells + 3) (slots + 18) Q (F0 m 1679 ls [])) : W p l e R s m args below meth c H locs cells slots Q (F0 m 1255 ls []) := by
  obtain ⟨hst, K9, hkb, eb, emb, eob, hsc, hX0, hL9⟩ := E
  obtain ⟨rf, n0, ac, TX, F, DIA, KEP, ISK, ⟨h1, h2, h3, h4, h5, h6⟩, hC, hM, fo, hO⟩ := hI
  have hz9 := G.1
  have hMl := hM.lt
  have hOl := hO.lt
  have hX : va_X sc L X s H := hX0.kept (G.2.1 sc (by omega))
  have K : SK kt s H := K9.kept (fun q hq => G.2.1 q (by omega))
  obtain ⟨x1, hx1, ex1⟩ : ∃ a : Int, Rg a ∧ X (i + 1) = iI a := ⟨_, rg_of _, (iI_of _).symm⟩
  refine r_aload_n C rfl (lv_at hl 3 rfl) dL_law_1255 ?_
  refine r_aload_n C rfl (lv_at hl 4 rfl) dL_law_1256 ?_
  refine r_iload C (lv_at hl 0 rfl) dL_law_1257 ?_
  refine r_iconst C dL_law_1259 ?_
  refine r_iadd C dL_law_1260 ?_
  refine r_sld C hX (i + 1) (by omega) (by omega) hL9 ex1 dL_law_1261 ?_
  refine r_aload_n C rfl (lv_at hl 1 rfl) dL_law_1262 ?_
  refine r_sLM (rest := []) C K (k_L_mostFloor l hst g kt b (n0 : Int) ac TX F DIA KEP ISK T h4 (by omega) x1 hx1 (x1.toNat) (fun h => (Int.toNat_of_nonneg h).symm) ob (by omega)) sw_164 ⟨hC, fo, hO⟩ hl.1 rfl ⟨by omega, by omega⟩ rfl (Nat.le_of_ble_eq_true rfl) ⟨by omega, by omega⟩ dL_law_1263 (fun H1 L1 p1 p2 z1 o1 L9 => ?_)
  refine r_istore C hl (by decide) rfl dL_law_1266 (fun ls hl => ?_)
  have G1 := G.lm (by omega) z1 o1 L9
  have hM1 := hM.kept (fun q h8 h9 => o1 q (by omega) (not_cob (by omega) (by omega)))
  have hX1 : va_X sc L X s H1 := hX.kept (o1 sc (by omega) (not_cob (by omega) (by omega)))
  refine r_aload_n C rfl (lv_at hl 3 rfl) dL_law_1268 ?_
  refine r_aload_n C rfl (lv_at hl 5 rfl) dL_law_1269 ?_
  refine r_iload C (lv_at hl 1 rfl) dL_law_1270 ?_
  refine r_iconst C dL_law_1272 ?_
  refine r_iadd C dL_law_1273 ?_
  refine r_sld C hX1 (i + 1) (by omega) (by omega) hL9 ex1 dL_law_1274 ?_
  obtain ⟨M9, hm9⟩ := hM1.rc
  refine r_vHi (rest := []) C (k_X4_mostFloor l g mb rf (n0 : Int) ac TX F DIA KEP ISK T h4 (by omega) x1 hx1 (x1.toNat) (fun h => (Int.toNat_of_nonneg h).symm)) s_RL_166 hM1 G1.fr (fun q hq => by have := hq.1; omega) (recv C (ci := 4) rfl hm9.o) hl.1 rfl ⟨by omega, by omega⟩ rfl (Nat.le_of_ble_eq_true rfl) ⟨by omega, by omega⟩ dL_law_1275 (fun H2 l2 q2 o2 z2 F2 => ?_)
  refine r_istore C hl (by decide) rfl dL_law_1278 (fun ls hl => ?_)
  have G2 := G1.of F2
  have z12 : H1.size = b + (H1.size - b) := G1.1
  have hKr : Rg (Kd (0 ≤ x1 ∧ x1 < F 0)) := by unfold Kd; split <;> decide
  refine r_aload_n C rfl (lv_at hl 4 rfl) dL_law_1280 ?_
  by_cases hK : ((Kd (0 ≤ x1 ∧ x1 < F 0)) : Int) = 0
  · have hM2 := q2.1 hK
    obtain ⟨hC1, hO1⟩ := p1 hK
    have hIV : IV (n0) ac TX F DIA KEP ISK (T + 6) := ⟨h1, h2, h3, h4.mono (by omega), h5.mono (by omega), h6.mono (by omega)⟩
    have hC2 := hC1.kept (fun q h8 h9 => o2 q (not_mdp (by omega)))
    have hO2 := hO1.kept (o2 ob (not_mdp (by omega)))
    obtain ⟨M8, hm8⟩ := hM2.rc
    refine r_vHi (rest := []) C (k_X4_thrown l g mb 0 (n0 : Int) ac TX F DIA KEP ISK (T + 6) hIV.2.2.2.1 (by omega)) s_RL_99 hM2 G2.fr (fun q hq => by have := hq.1; omega) (recv C (ci := 4) rfl hm8.o) hl.1 rfl ⟨by omega, by omega⟩ rfl (Nat.le_of_ble_eq_true rfl) ⟨by omega, by omega⟩ dL_law_1281 (fun H3 l3 hM3 o3 z3 F3 => ?_)
    have hC3 := hC2.kept (fun q h8 h9 => o3 q (not_mdp (by omega)))
    have hO3 := hO2.kept (o3 ob (not_mdp (by omega)))
    rw [if_pos hK] at hl
    rw [hK] at hl
    refine r_iload C (lv_at hl 1 rfl) dL_law_1284 ?_
    refine r_icmp_same (tgt := 1291) C (by decide) dL_law_1286 ?_
    refine r_iload C (lv_at hl 1 rfl) dL_law_1291 ?_
    refine r_if_ne (tgt := 1308) C (by decide) (by decide) dL_law_1293 (fun z => absurd rfl z) (fun _ => ?_)
    refine r_aload_n C rfl (lv_at hl 3 rfl) dL_law_1296 ?_
    refine r_iconst C dL_law_1297 ?_
    refine r_lald C hO3 0 rfl (by decide) (by decide) dL_law_1298 ?_
    refine r_iload C (lv_at hl 0 rfl) dL_law_1299 ?_
    refine r_i2lR C dL_law_1301 ?_
    refine r_lcmp_same C dL_law_1302 ?_
    refine r_if_eq (tgt := 1308) C (by decide) (by decide) dL_law_1303 (fun _ => ?_) (fun z => absurd rfl z)
    refine r_goto (tgt := 1679) C (by decide) dL_law_1308 ?_
    refine W.widen (by omega) (by omega) (kk H3 l3 _ ls (G2.of F3) ⟨0, n0, ac, TX, F, DIA, KEP, ISK, hIV, hC3, hM3, _, hO3⟩ (lv_sub hl [2, 3, 4, 5, 6] rfl))
  · have hM2 := q2.2 hK
    obtain ⟨hC1, fo1, hO1⟩ := p2 hK
    have hIV : IV n0 ac TX F DIA KEP ISK (T + 6) := ⟨h1, h2, h3, h4.mono (by omega), h5.mono (by omega), h6.mono (by omega)⟩
    have hC2 := hC1.kept (fun q h8 h9 => o2 q (not_mdp (by omega)))
    have hO2 := hO1.kept (o2 ob (not_mdp (by omega)))
    obtain ⟨M8, hm8⟩ := hM2.rc
    refine r_vHi (rest := []) C (k_X4_thrown l g mb (Kd (0 ≤ x1 ∧ x1 < F 0)) (n0 : Int) ac TX F DIA KEP ISK (T + 6) hIV.2.2.2.1 (by omega)) s_RL_99 hM2 G2.fr (fun q hq => by have := hq.1; omega) (recv C (ci := 4) rfl hm8.o) hl.1 rfl ⟨by omega, by omega⟩ rfl (Nat.le_of_ble_eq_true rfl) ⟨by omega, by omega⟩ dL_law_1281 (fun H3 l3 hM3 o3 z3 F3 => ?_)
    have hC3 := hC2.kept (fun q h8 h9 => o3 q (not_mdp (by omega)))
    have hO3 := hO2.kept (o3 ob (not_mdp (by omega)))
    refine r_iload C (lv_at hl 1 rfl) dL_law_1284 ?_
    refine r_icmp_same (tgt := 1291) C (by decide) dL_law_1286 ?_
    refine r_iload C (lv_at hl 1 rfl) dL_law_1291 ?_
    refine r_if_ne (tgt := 1308) C (by decide) hKr dL_law_1293 (fun _ => ?_) (fun z => absurd z hK)
    refine r_goto (tgt := 1679) C (by decide) dL_law_1308 ?_
    refine W.widen (by omega) (by omega) (kk H3 l3 _ ls (G2.of F3) ⟨(Kd (0 ≤ x1 ∧ x1 < F 0)), n0, ac, TX, F, DIA, KEP, ISK, hIV, hC3, hM3, _, hO3⟩ (lv_sub hl [2, 3, 4, 5, 6] rfl))

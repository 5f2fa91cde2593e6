/-! ===== the law's loop ===== -/
section LAWLOOP
variable {p : Program} {l : Launch} {e : Env} {R : Room} {s : State} {m : MethodId} {args : Array Value} {below : List Frame} {meth : Method} {c : Code} {Q : State → Prop} {x9 : Cond} {g : Gt} {kt : Kt} {b mb ob sc L : Nat} {X : Nat → Int32}
set_option maxHeartbeats 4000000 in
theorem law_loop (C : Cx p s m args meth c cL_law 7 "LentRoomLaw" (some .boolean) x9 g) (E : LX l s kt b mb ob sc L X) (hR : R.frames = 15 ∧ R.locals = 598) (hc : R.cells = 601024 ∧ R.slots = 7293034)
    (kend : ∀ (H : Heap) (locs : List Loc) (n : Nat) (ls : Array Slot), Gf b n s.heap H locs → W p l e R s m args below meth c H locs 601024 7293034 Q (F0 m 1685 ls [])) :
    ∀ (w j : Nat), L < 4 * (j + w) + 4 → 4 * j < L + 4 ∨ L < 4 → ∀ (H : Heap) (locs : List Loc) (n : Nat) (ls : Array Slot), Gf b n s.heap H locs → LI g b mb ob (28900 + 6 * (j : Int)) H → j ≤ 513 → lv_has ls 7 [(4, .int (iI ((4 * j : Nat) : Int))), (3, .ref ob), (2, .ref mb), (1, .ref b), (0, .ref sc)] → W p l e R s m args below meth c H locs (416 + 3 * j) (11122 + 18 * j) Q (F0 m 23 ls []) := by
  have E9 := E
  obtain ⟨hst, K9, hkb, eb, emb, eob, hsc, hX0, hL9⟩ := E9
  intro w
  induction w with
  | zero =>
    intro j hj hjL H locs n ls G hI hj9 hl
    have hX : va_X sc L X s H := hX0.kept (G.2.1 sc (by omega))
    refine r_iload C (lv_at hl 0 rfl) dL_law_23 ?_
    refine r_aload_n C rfl (lv_at hl 4 rfl) dL_law_25 ?_
    refine r_slen C hX dL_law_26 ?_
    refine r_iconst C dL_law_27 ?_
    refine r_isub C dL_law_28 ?_
    refine r_icmp_gt (tgt := 1685) C (by decide) (by omega) (by omega) dL_law_29 (fun _ => ?_) (fun z => absurd z (by omega))
    exact W.widen (by omega) (by omega) (kend H locs n ls G)
  | succ w ih =>
    intro j hj hjL H locs n ls G hI hj9 hl
    have hX : va_X sc L X s H := hX0.kept (G.2.1 sc (by omega))
    refine r_iload C (lv_at hl 0 rfl) dL_law_23 ?_
    refine r_aload_n C rfl (lv_at hl 4 rfl) dL_law_25 ?_
    refine r_slen C hX dL_law_26 ?_
    refine r_iconst C dL_law_27 ?_
    refine r_isub C dL_law_28 ?_
    refine r_icmp_gt (tgt := 1685) C (by decide) (by omega) (by omega) dL_law_29 (fun _ => ?_) (fun z => ?_)
    · exact W.widen (by omega) (by omega) (kend H locs n ls G)
    have hi : 4 * j + 4 ≤ L := by omega
    have kk : ∀ (H1 : Heap) (locs1 : List Loc) (n1 : Nat) (ls : Array Slot), Gf b n1 s.heap H1 locs1 → LI g b mb ob (28900 + 6 * (j : Int) + 6) H1 → lv_has ls 7 [(4, .int (iI ((4 * j : Nat) : Int))), (3, .ref ob), (2, .ref mb), (1, .ref b), (0, .ref sc)] → W p l e R s m args below meth c H1 locs1 (416 + 3 * j + 3) (11122 + 18 * j + 18) Q (F0 m 1679 ls []) := by
      intro H1 locs1 n1 ls G1 hI1 hl
      refine r_iinc C (q := 0) hl rfl (by decide) rfl dL_law_1679 (fun ls hl => ?_)
      refine r_goto (tgt := 23) C (by decide) dL_law_1682 ?_
      have h9 := ih (j + 1) (by omega) (by omega) H1 locs1 n1 ls G1 (by rw [show (28900 : Int) + 6 * ((j + 1 : Nat) : Int) = 28900 + 6 * (j : Int) + 6 by omega]; exact hI1) (by omega) (by rw [show ((4 * (j + 1) : Nat) : Int) = ((4 * j : Nat) : Int) + 4 by omega]; exact hl)
      rw [show 416 + 3 * (j + 1) = 416 + 3 * j + 3 by omega, show 11122 + 18 * (j + 1) = 11122 + 18 * j + 18 by omega] at h9
      exact h9
    have hcc : 416 + 3 * j + 3 ≤ R.cells ∧ 11122 + 18 * j + 18 ≤ R.slots := by omega
    have hTT : 28900 ≤ 28900 + 6 * (j : Int) ∧ 28900 + 6 * (j : Int) ≤ 890000 := by omega
    refine r_aload_n C rfl (lv_at hl 4 rfl) dL_law_32 ?_
    refine r_iload C (lv_at hl 0 rfl) dL_law_33 ?_
    refine r_sld C hX (4 * j) rfl (by omega) hL9 rfl dL_law_35 ?_
    refine r_bipush C (by decide) dL_law_36 ?_
    refine r_and31 C dL_law_38 (fun a ha => ?_)
    by_cases h26 : 26 ≤ a
    · refine r_tsOut (tgt := 1679) C (by omega) (Or.inr (by omega)) (by decide) dL_law_39 ?_
      exact W.widen (by omega) (by omega) (kk H locs n ls G (hI.mono (by omega)) hl)
    by_cases h0 : a = 0
    · exact r_tsIn (tgt := 156) C (by omega) 0 h0 (by decide) (by decide) rfl (by decide) dL_law_39 (c_append C E hR hcc G hTT hI hi hl kk)
    by_cases h1 : a = 1
    · exact r_tsIn (tgt := 212) C (by omega) 1 h1 (by decide) (by decide) rfl (by decide) dL_law_39 (c_clearText C E hR hcc G hTT hI hi hl kk)
    by_cases h2 : a = 2
    · exact r_tsIn (tgt := 225) C (by omega) 2 h2 (by decide) (by decide) rfl (by decide) dL_law_39 (c_errorPosition C E hR hcc G hTT hI hi hl kk)
    by_cases h3 : a = 3
    · exact r_tsIn (tgt := 238) C (by omega) 3 h3 (by decide) (by decide) rfl (by decide) dL_law_39 (c_load C E hR hcc G hTT hI hi hl kk)
    by_cases h4 : a = 4
    · exact r_tsIn (tgt := 282) C (by omega) 4 h4 (by decide) (by decide) rfl (by decide) dL_law_39 (c_about C E hR hcc G hTT hI hi hl kk)
    by_cases h5 : a = 5
    · exact r_tsIn (tgt := 338) C (by omega) 5 h5 (by decide) (by decide) rfl (by decide) dL_law_39 (c_space C E hR hcc G hTT hI hi hl kk)
    by_cases h6 : a = 6
    · exact r_tsIn (tgt := 406) C (by omega) 6 h6 (by decide) (by decide) rfl (by decide) dL_law_39 (c_loans C E hR hcc G hTT hI hi hl kk)
    by_cases h7 : a = 7
    · exact r_tsIn (tgt := 474) C (by omega) 7 h7 (by decide) (by decide) rfl (by decide) dL_law_39 (c_time C E hR hcc G hTT hI hi hl kk)
    by_cases h8 : a = 8
    · exact r_tsIn (tgt := 542) C (by omega) 8 h8 (by decide) (by decide) rfl (by decide) dL_law_39 (c_oldest C E hR hcc G hTT hI hi hl kk)
    by_cases h9 : a = 9
    · exact r_tsIn (tgt := 610) C (by omega) 9 h9 (by decide) (by decide) rfl (by decide) dL_law_39 (c_make C E hR hcc G hTT hI hi hl kk)
    by_cases h10 : a = 10
    · exact r_tsIn (tgt := 678) C (by omega) 10 h10 (by decide) (by decide) rfl (by decide) dL_law_39 (c_write C E hR hcc G hTT hI hi hl kk)
    by_cases h11 : a = 11
    · exact r_tsIn (tgt := 746) C (by omega) 11 h11 (by decide) (by decide) rfl (by decide) dL_law_39 (c_trim C E hR hcc G hTT hI hi hl kk)
    by_cases h12 : a = 12
    · exact r_tsIn (tgt := 814) C (by omega) 12 h12 (by decide) (by decide) rfl (by decide) dL_law_39 (c_setFloor C E hR hcc G hTT hI hi hl kk)
    by_cases h13 : a = 13
    · exact r_tsIn (tgt := 882) C (by omega) 13 h13 (by decide) (by decide) rfl (by decide) dL_law_39 (c_setCeiling C E hR hcc G hTT hI hi hl kk)
    by_cases h14 : a = 14
    · exact r_tsIn (tgt := 950) C (by omega) 14 h14 (by decide) (by decide) rfl (by decide) dL_law_39 (c_undo C E hR hcc G hTT hI hi hl kk)
    by_cases h15 : a = 15
    · exact r_tsIn (tgt := 994) C (by omega) 15 h15 (by decide) (by decide) rfl (by decide) dL_law_39 (c_would C E hR hcc G hTT hI hi hl kk)
    by_cases h16 : a = 16
    · exact r_tsIn (tgt := 1062) C (by omega) 16 h16 (by decide) (by decide) rfl (by decide) dL_law_39 (c_room C E hR hcc G hTT hI hi hl kk)
    by_cases h17 : a = 17
    · exact r_tsIn (tgt := 1118) C (by omega) 17 h17 (by decide) (by decide) rfl (by decide) dL_law_39 (c_harm C E hR hcc G hTT hI hi hl kk)
    by_cases h18 : a = 18
    · exact r_tsIn (tgt := 1186) C (by omega) 18 h18 (by decide) (by decide) rfl (by decide) dL_law_39 (c_victim C E hR hcc G hTT hI hi hl kk)
    by_cases h19 : a = 19
    · exact r_tsIn (tgt := 1242) C (by omega) 19 h19 (by decide) (by decide) rfl (by decide) dL_law_39 (c_noisy C E hR hcc G hTT hI hi hl kk)
    by_cases h20 : a = 20
    · exact r_tsIn (tgt := 1255) C (by omega) 20 h20 (by decide) (by decide) rfl (by decide) dL_law_39 (c_mostFloor C E hR hcc G hTT hI hi hl kk)
    by_cases h21 : a = 21
    · exact r_tsIn (tgt := 1311) C (by omega) 21 h21 (by decide) (by decide) rfl (by decide) dL_law_39 (c_leastFloor C E hR hcc G hTT hI hi hl kk)
    by_cases h22 : a = 22
    · exact r_tsIn (tgt := 1367) C (by omega) 22 h22 (by decide) (by decide) rfl (by decide) dL_law_39 (c_runScript C E hR hcc G hTT hI hi hl kk)
    by_cases h23 : a = 23
    · exact r_tsIn (tgt := 1467) C (by omega) 23 h23 (by decide) (by decide) rfl (by decide) dL_law_39 (c_simulate C E hR hcc G hTT hI hi hl kk)
    by_cases h24 : a = 24
    · exact r_tsIn (tgt := 1567) C (by omega) 24 h24 (by decide) (by decide) rfl (by decide) dL_law_39 (c_save C E hR hcc G hTT hI hi hl kk)
    by_cases h25 : a = 25
    · exact r_tsIn (tgt := 1623) C (by omega) 25 h25 (by decide) (by decide) rfl (by decide) dL_law_39 (c_restore C E hR hcc G hTT hI hi hl kk)
    exact absurd ha (by omega)
end LAWLOOP

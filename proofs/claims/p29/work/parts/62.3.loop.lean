set_option maxRecDepth 100000 in
set_option maxHeartbeats 4000000 in
theorem law_loop (l : Launch) (hst : l.stackTraces = false) {zp : Program} {ze : Env} {zs : State} {zm : MethodId} {za : Array Value} {zb : List Frame} {zt : Method} {zc : Code} {Q : State → Prop} {x9 : Cond} {g : Gt} (kt : Kt) (C : Cx zp zs zm za zt zc cL_law 15 "LentRoomLaw" (some .boolean) x9 g) (KZ : SK kt zs zs.heap) (hkz : kt.1 ≤ zs.heap.size) (b c sc L : Nat) (X : Nat → Int32) (hbz : zs.heap.size ≤ b) (hbc : b + 407 ≤ c) (hsc : sc < zs.heap.size) (hX0 : va_X sc L X zs zs.heap) (hL : L ≤ 260) (tn : Nat) (htn : tn ≤ 26) (f9 : Int) (kend : ∀ (H : Heap) (locs : List Loc), GT (fun q => zs.heap.size ≤ q) zs.heap H locs → ∀ ls : Array Slot, lv_has ls 15 [(4, .int (iI 1))] → W zp l ze room_1 zs zm za zb zt zc H locs (100000) (6 * (100000)) Q (F0 zm 522 ls [])) : ∀ (w i : Nat), i + w = tn → ∀ (ac : Int) (F DIA KEP ISK : Nat → Int), IVS ac F DIA KEP ISK (100 + 252 * (i : Int)) → ∀ (H : Heap) (locs : List Loc), DW g b ac F DIA KEP ISK H → DW g c ac F DIA KEP ISK H → GT (fun q => zs.heap.size ≤ q) zs.heap H locs → ∀ ls : Array Slot, lv_has ls 15 [(6, .int (iI (i : Int))), (5, .int (iI (tn : Int))), (4, .int (iI 1)), (3, .int (iI f9)), (2, .ref c), (1, .ref b), (0, .ref sc)] → W zp l ze room_1 zs zm za zb zt zc H locs (5000 + 1480 * i + 0) (6 * (5000 + 1480 * i + 0)) Q (F0 zm 117 ls []) := by
  intro w
  induction w with
  | zero =>
    intro i hw ac F DIA KEP ISK hI H locs hP hQ G0 ls hl
    refine r_iload C (lv_at hl 0 rfl) dL_law_117 ?_
    refine r_iload C (lv_at hl 1 rfl) dL_law_119 ?_
    refine r_icmp_ge (tgt := 522) C (by decide) (by omega) (by omega) dL_law_121 (fun z9 => ?_) (fun z9 => absurd z9 (by omega))
    exact W.widen (by omega) (by omega) (kend _ _ G0 _ (lv_sub hl [2] rfl))
  | succ w ih =>
    intro i hw ac F DIA KEP ISK hI H locs hP hQ G0 ls hl
    refine r_iload C (lv_at hl 0 rfl) dL_law_117 ?_
    refine r_iload C (lv_at hl 1 rfl) dL_law_119 ?_
    refine r_icmp_ge (tgt := 522) C (by decide) (by omega) (by omega) dL_law_121 (fun z9 => absurd z9 (by omega)) (fun z9 => ?_)
    refine r_iload C (lv_at hl 2 rfl) dL_law_124 ?_
    refine r_if_eq (tgt := 522) C (by decide) (by decide) dL_law_126 (fun z9 => absurd z9 (by decide)) (fun z9 => ?_)
    exact W.widen (by omega) (by omega) (t_turn l hst kt C KZ hkz b c sc L X hbz hbc hsc hX0 hL tn f9 i (by omega) (5000 + 1480 * i) (by omega) hI (by omega) (fun ac F DIA KEP ISK h H locs hP hQ G ls hl => W.widen (by omega) (by omega) (ih (i + 1) (by omega) _ _ _ _ _ (h.mono (by omega)) _ _ hP hQ G _ hl)) _ _ hP hQ G0 _ (lv_sub hl [0, 1, 2, 3, 4, 5, 6] rfl))

/-! ===== the class whole: size of the text, text, device, diary, kept, filled; the rest is scratch ===== -/
def lrfs (b : Nat) : List Value := [.ref (b + 1), .ref (b + 3), .ref (b + 23), .ref (b + 305), .ref (b + 306), .ref (b + 307), .ref (b + 327), .ref (b + 347)]
def lrAt (g : Gt) (b : Nat) (H : Heap) : Prop := oAt g b 3 (lrfs b) H
theorem lrAt.o {g : Gt} {b : Nat} {H : Heap} (h : lrAt g b H) : oAt g b 3 (lrfs b) H := h
theorem lrAt.kept {g : Gt} {b : Nat} {H H1 : Heap} (h : lrAt g b H) (hq : H1[b]? = H[b]?) : lrAt g b H1 := oAt.kept h hq
def Cdp (b q : Nat) : Prop := b ≤ q ∧ q < b + 407
theorem is_cdp {b q : Nat} (h : b ≤ q ∧ q < b + 407) : Cdp b q := h
def CW (g : Gt) (b : Nat) (sz ac : Int) (TX F DIA KEP ISK : Nat → Int) (H : Heap) : Prop :=
  ∃ (first : Int) (G : Nat → Nat → Int) (TR GU : Nat → Int), RG ac DIA first G ∧ lrAt g b H ∧ txAt g (b + 1) sz H ∧ cAt g (b + 2) 120 TX H ∧ dvAt g (b + 3) F H ∧ hoAt g (b + 23) first ac H ∧ qAt g (b + 24) 14 (fun i => some (b + 25 + 20 * i)) H ∧ fmAt g (b + 25) 14 G H ∧ qAt g (b + 305) 2 (fun i => some (b + 367 + 20 * i)) H ∧ zAt g (b + 306) 2 ISK H ∧ dvAt g (b + 307) z0 H ∧ dvAt g (b + 327) TR H ∧ dvAt g (b + 347) GU H ∧ fmAt g (b + 367) 2 (fun i k => KEP (262 * i + k)) H
theorem CW.kept {g : Gt} {b : Nat} {sz ac : Int} {TX F DIA KEP ISK : Nat → Int} {H H1 : Heap} (h : CW g b sz ac TX F DIA KEP ISK H) (hq : ∀ q : Nat, b ≤ q → q < b + 407 → H1[q]? = H[q]?) : CW g b sz ac TX F DIA KEP ISK H1 := by
  obtain ⟨first, G, TR, GU, h0, g0, g1, g2, g3, g4, g5, g6, g7, g8, g9, g10, g11, g12⟩ := h
  exact ⟨first, G, TR, GU, h0, g0.kept (hq _ (by omega) (by omega)), g1.kept (hq _ (by omega) (by omega)), g2.kept (hq _ (by omega) (by omega)), g3.kept (fun q h1 h2 => hq _ (by omega) (by omega)), g4.kept (hq _ (by omega) (by omega)), g5.kept (hq _ (by omega) (by omega)), g6.kept (fun q h1 h2 => hq _ (by omega) (by omega)), g7.kept (hq _ (by omega) (by omega)), g8.kept (hq _ (by omega) (by omega)), g9.kept (fun q h1 h2 => hq _ (by omega) (by omega)), g10.kept (fun q h1 h2 => hq _ (by omega) (by omega)), g11.kept (fun q h1 h2 => hq _ (by omega) (by omega)), g12.kept (fun q h1 h2 => hq _ (by omega) (by omega))⟩
section X3ROWS
variable {p : Program} {l : Launch} {e : Env} {R : Room} {s : State} {m : MethodId} {args : Array Value} {below : List Frame} {meth : Method} {c : Code} {H : Heap} {locs : List Loc} {cells slots : Nat} {Q : State → Prop}
variable {cc : ByteArray} {nL : Nat} {own : String} {ret : Option FieldType} {x : Cond} {g : Gt} {pc : Nat} {ls : Array Slot} {rest : List Value}
theorem r_lretP (C : Cx p s m args meth c cc nL own ret x g) {v r : Int64} (hret : ret = some .long) (hv : v = r) (d : decode cc pc = .ok (.lreturn, 1)) : W p l e R s m args below meth c s.heap [] 0 0 (MQ below (PQ (some (.long r))) args s 0 0 (fun _ => False)) (F0 m pc ls [.long v]) := by
  subst hv
  have hl : meth.locks = false := C.2.2.2.2.2.2.1
  exact W.lret C.1 C.2.1 (C.2.2.2.2.2.1.trans hret) (fun t ht _ => ⟨rfl, ht⟩) (fun q hq => by cases hq) d hl
theorem r_i2c (C : Cx p s m args meth c cc nL own ret x g) {a : Int} (ha : 0 ≤ a ∧ a ≤ 255) (d : decode cc pc = .ok (.i2c, 1)) (k : W p l e R s m args below meth c H locs cells slots Q (F0 m (pc + 1) ls (.int (iI a) :: rest))) : W p l e R s m args below meth c H locs cells slots Q (F0 m pc ls (.int (iI a) :: rest)) := by
  refine lv_i2c C.1 C.2.1 d ?_ k
  obtain ⟨q, rfl⟩ := Int.eq_ofNat_of_zero_le ha.1
  have hq : q < 256 := by omega
  apply Int32.toBitVec_inj.mp
  show ((BitVec.ofInt 32 (q : Int)) % 65536#32) = BitVec.ofInt 32 (q : Int)
  rw [BitVec.ofInt_natCast]
  apply BitVec.eq_of_toNat_eq
  rw [BitVec.toNat_umod, BitVec.toNat_ofNat]
  simp only [BitVec.toNat_ofNat, Nat.reducePow, Nat.reduceMod]
  omega
end X3ROWS

/-! ===== the law's helpers: they catch, and tell the code ===== -/
theorem CW.lr {g : Gt} {b : Nat} {sz ac : Int} {TX F DIA KEP ISK : Nat → Int} {H : Heap} (h : CW g b sz ac TX F DIA KEP ISK H) : lrAt g b H := by
  obtain ⟨first, G, TR, GU, h0, g0, -⟩ := h
  exact g0
theorem lAt.cg {g : Gt} {a n : Nat} {f f' : Nat → Int64} {H : Heap} (h : lAt g a n f H) (hf : ∀ k, k < n → f k = f' k) : lAt g a n f' H := by
  unfold lAt at *
  rw [h, vp_cell_l, vp_cell_l, arrV_cg (fun k hk => by rw [hf k hk])]
theorem lAt.lt {g : Gt} {a n : Nat} {f : Nat → Int64} {H : Heap} (h : lAt g a n f H) : a < H.size := (Array.getElem?_eq_some_iff.mp h).1
def Cob (b ob q : Nat) : Prop := Cdp b q ∨ q = ob
theorem not_cob {b ob q : Nat} (h : ¬ (b ≤ q ∧ q < b + 407)) (h2 : q ≠ ob) : ¬ Cob b ob q := fun h9 => h9.elim (fun z => h z) h2
def LQ (g : Gt) (b ob : Nat) (P P' : Heap → Prop) (Kc : Int) (v : Int64) : Array Value → State → Outcome → State → Prop := fun _ st o t =>
  o = .returned (some (.int (iI Kc))) ∧ (Kc = 0 → P' t.heap ∧ lAt g ob 1 (fun _ => v) t.heap) ∧ (Kc ≠ 0 → P t.heap ∧ ∃ f, lAt g ob 1 f t.heap) ∧ st.heap.size ≤ t.heap.size ∧ ∀ q : Nat, q < st.heap.size → ¬ Cob b ob q → t.heap[q]? = st.heap[q]?
def LM (l : Launch) (y : MethodName) (cc : ByteArray) (maxL : Nat) (hh : List (Nat × Nat × Nat × Nat)) (f lo nc : Nat) (g : Gt) (k : Kt) (As : List Value) (b ob : Nat) (P P' : Heap → Prop) (Kc : Int) (v : Int64) : Prop :=
  Met l y (.codeWith y cc maxL (some .int) hh :: AL) (rmx f lo nc) (Pck As (fun H => P H ∧ ∃ f, lAt g ob 1 f H) g k) (LQ g b ob P P' Kc v) nc (6 * nc) (Cob b ob)
theorem lm_of {l : Launch} {y : MethodName} {cc : ByteArray} {maxL : Nat} {hh : List (Nat × Nat × Nat × Nat)} {f lo nc : Nat} {g : Gt} {k : Kt} {As : List Value} {b ob : Nat} {P P' : Heap → Prop} {Kc : Int} {v : Int64} (hy : plainName y.cls = true) (hown : y.cls = "LentRoomLaw") (hn : (lg_sl As).length ≤ maxL)
    (body : ∀ (p : Program) (e : Env) (s : State) (m : MethodId) (args : Array Value) (below : List Frame) (meth : Method) (c : Code) (ls : Array Slot), Cx p s m args meth c cc maxL "LentRoomLaw" (some .int) (.codeWith y cc maxL (some .int) hh) g → SK k s s.heap → c.exceptionTable.toList = tableOf hh → (P s.heap ∧ ∃ f, lAt g ob 1 f s.heap) → lv_has ls maxL (lv_args 0 As) → W p l e (rmx f lo nc) s m args below meth c s.heap [] 0 0 (MQ below (LQ g b ob P P' Kc v) args s nc (6 * nc) (Cob b ob)) (F0 m 0 ls [])) : LM l y cc maxL hh f lo nc g k As b ob P P' Kc v := by
  unfold LM Met
  refine MetFree.of_bodyS (code := cc) (maxLocals := maxL) (ret := some .int) hy ?_ ?_
  · intro args s m h hn
    obtain ⟨m9, meth, c, hn9, h1, h2, h3, h4, -, h5, h6, -⟩ := Cond.codeWith_spec (atoms_spec (ws := .codeWith y cc maxL (some .int) hh :: AL) h _ List.mem_cons_self)
    cases hn9.symm.trans hn
    exact ⟨meth, c, h1, h2, h3, h4, h5, h6⟩
  · intro p e s m args below meth c s₁ B hml hv _
    obtain ⟨rfl, hP, hK, hSK⟩ := hv
    have hh0 : s₁.heap = s.heap := by rw [B.state]; rfl
    have ht := vx_table (x := y) B (atoms_spec (ws := .codeWith y cc maxL (some .int) hh :: AL) B.pre _ List.mem_cons_self)
    have hb := body p e s m As.toArray below meth c _ ⟨B.exec, B.bytes, hml, hown ▸ findClass_of_methodNamed B.named, atoms_spec (ws := .codeWith y cc maxL (some .int) hh :: AL) B.pre, B.returns, B.notSynchronized, hK⟩ hSK ht hP (lv_entry As hn)
    rw [← lg_entry_eq] at hb
    obtain ⟨t, a1, o, b1, b2, b3⟩ := hb s₁ hh0 (Stand.of_body B)
    exact ⟨t, o, a1, b1, b2, b3⟩
section LMROWS
variable {p : Program} {l : Launch} {e : Env} {R : Room} {s : State} {m : MethodId} {args : Array Value} {below : List Frame} {meth : Method} {c : Code} {H : Heap} {locs : List Loc} {cells slots : Nat} {Q : State → Prop}
variable {cc : ByteArray} {nL : Nat} {own : String} {ret : Option FieldType} {x : Cond} {g : Gt} {k : Kt} {pc : Nat} {ls : Array Slot} {rest st : List Value}
variable {y : MethodName} {bytes : ByteArray} {maxL idx n f lo nc : Nat} {ret' : Option FieldType} {As : List Value} {P P' : Heap → Prop} {v : Option Value} {A A' : Nat → Prop} {b ob : Nat} {cls : String} {H0 : Heap} {Kc : Int} {L : List String} {vv : Int64}
theorem r_i2lR (C : Cx p s m args meth c cc nL own ret x g) {a : Int32} (d : decode cc pc = .ok (.i2l, 1)) (kk : W p l e R s m args below meth c H locs cells slots Q (F0 m (pc + 1) ls (.long a.toInt64 :: rest))) : W p l e R s m args below meth c H locs cells slots Q (F0 m pc ls (.int a :: rest)) :=
  lv_i2l C.1 C.2.1 d rfl kk
theorem r_last (C : Cx p s m args meth c cc nL own ret x g) {a N : Nat} {f : Nat → Int64} {i : Int} {y : Int64} (h : lAt g a N f H) (q : Nat) (hi : i = (q : Int)) (hq : q < N) (hn : N < 2147483648) (d : decode cc pc = .ok (.lastore, 1)) (kk : ∀ H1 : Heap, lAt g a N (fun j => if j = q then y else f j) H1 → (∀ b : Nat, b ≠ a → H1[b]? = H[b]?) → H1.size = H.size → W p l e R s m args below meth c H1 (locs ++ [⟨a, q⟩]) cells slots Q (F0 m (pc + 1) ls rest)) : W p l e R s m args below meth c H locs cells slots Q (F0 m pc ls (.long y :: .int (iI i) :: .ref a :: rest)) := by
  subst hi
  refine W.last C.1 C.2.1 h ((C.2.2.2.2.2.2.2.2 5 _ rfl).1 N (fun j => .long (f j))) (fun q => by cases q) ?_ rfl rfl d (fun H1 e z oq => ?_)
  · show ¬ (_ < 0 ∨ (arrV _ _ _).slots.size ≤ _)
    rw [arrV_size]
    exact iI_in hq hn
  · rw [iI_nat (by omega)] at e ⊢
    refine kk H1 ?_ oq z
    unfold lAt
    rw [e, vp_cell_l, vp_cell_l, arrV_store]
    refine congrArg some (arrV_cg (fun j _ => ?_))
    by_cases hj : j = q
    · subst hj
      simp [updV]
    · simp [updV, hj]
theorem r_lald (C : Cx p s m args meth c cc nL own ret x g) {a N : Nat} {f : Nat → Int64} {i : Int} (h : lAt g a N f H) (q : Nat) (hi : i = (q : Int)) (hq : q < N) (hn : N < 2147483648) (d : decode cc pc = .ok (.laload, 1)) (kk : W p l e R s m args below meth c H locs cells slots Q (F0 m (pc + 1) ls (.long (f q) :: rest))) : W p l e R s m args below meth c H locs cells slots Q (F0 m pc ls (.int (iI i) :: .ref a :: rest)) := by
  subst hi
  refine W.lald (v := .long (f q)) C.1 C.2.1 h ((C.2.2.2.2.2.2.2.2 5 _ rfl).1 N (fun j => .long (f j))) (fun q => by cases q) ?_ ?_ rfl rfl d kk
  · show ¬ (_ < 0 ∨ (arrV _ _ _).slots.size ≤ _)
    rw [arrV_size]
    exact iI_in hq hn
  · show (arrV _ _ _).slots[_]? = _
    rw [iI_nat (by omega), arrV_read _ _ hq]
theorem xr_M {a : Array Value} {j : JFrame} {mc ms : Nat} (hr : vx_Run p l e R s m args below meth c H locs cells slots mc ms j rest (XHQ Kc v A' P' a) (XX Kc L) A')
    (kx : ∀ (H1 : Heap) (q : Nat) (ce : Cell) (L9 : List Loc), Kc ≠ 0 → H.size ≤ H1.size → (∀ z : Nat, z < H.size → H1[z]? = H[z]?) → (∀ z ∈ L9, A' z.base) → H1[q]? = some ce → ce.vm = .none → s.vm.findClass (exN L Kc) = some ce.cls → vx_W p l e R s m args below meth c H1 (locs ++ L9) (cells + mc) (slots + ms) Q { j with stack := rest } q)
    (kk : ∀ (H1 : Heap) (L9 : List Loc), Kc = 0 → P' H1 → H1.size = H.size → (∀ z : Nat, ¬ A' z → H1[z]? = H[z]?) → (∀ z ∈ L9, A' z.base) → W p l e R s m args below meth c H1 (locs ++ L9) (cells + mc) (slots + ms) Q { j with pc := j.pc + 3, stack := v.toList ++ rest }) : W p l e R s m args below meth c H locs cells slots Q j := by
  intro T hT X
  rcases hr T hT X with ⟨v', st₀, t, T', L9, h0, X', hL, e1, e2, ⟨hK, hv, hp, hz, hk⟩, st⟩ | ⟨q, st₀, t, T', L9, E, ce, h0, X', hL, e1, e2, ⟨hK, hE, hz, hk⟩, hce, hcv, hcl, st⟩
  · cases hv
    subst h0
    obtain ⟨t2, a1, b1⟩ := kk t.heap L9 hK hp hz hk hL T' e1 X'
    exact ⟨t2, st t2 a1, b1⟩
  · rw [h0] at hz hk
    rw [hE] at hcl
    obtain ⟨t2, a1, b1⟩ := kx T'.heap q ce L9 hK (by rw [e1]; exact hz) (by rw [e1]; exact hk) hL (by rw [e1]; exact hce) hcv hcl T' rfl X'
    exact ⟨t2, st.trans a1, b1⟩
theorem r_vXMi {r : Int32} (C : Cx p s m args meth c cc nL own ret x g) (K : SK k s H) (hM : XM l y bytes maxL ret' f lo nc g k (.ref b :: As) P Kc L (some (.int r)) A' P') (S : SiteV own idx cls y bytes maxL ret' n) (hP : P H) (hrec : ∃ cell : Cell, H[b]? = some cell ∧ cell.vm.isStatics = false ∧ s.vm.findClass cls = some cell.cls) (hz : ls.size = nL) (hn : As.length = n) (hR : RM f lo maxL R) (hst : st = As.reverse ++ .ref b :: rest) (hw : (rest.map fun v => v.category).sum ≤ 8) (hf : cells + nc ≤ R.cells ∧ slots + 6 * nc ≤ R.slots) (d : decode cc pc = .ok (.invokevirtual idx, 3))
    (kx : ∀ (H1 : Heap) (q : Nat) (ce : Cell) (L9 : List Loc), Kc ≠ 0 → H.size ≤ H1.size → (∀ z : Nat, z < H.size → H1[z]? = H[z]?) → (∀ z ∈ L9, A' z.base) → H1[q]? = some ce → ce.vm = .none → s.vm.findClass (exN L Kc) = some ce.cls → vx_W p l e R s m args below meth c H1 (locs ++ L9) (cells + nc) (slots + 6 * nc) Q (F0 m pc ls rest) q)
    (kk : ∀ (H1 : Heap) (L9 : List Loc), Kc = 0 → P' H1 → H1.size = H.size → (∀ z : Nat, ¬ A' z → H1[z]? = H[z]?) → (∀ z ∈ L9, A' z.base) → W p l e R s m args below meth c H1 (locs ++ L9) (cells + nc) (slots + 6 * nc) Q (F0 m (pc + 3) ls (.int r :: rest))) : W p l e R s m args below meth c H locs cells slots Q (F0 m pc ls st) :=
  xr_M (vx_runV (p := p) (l := l) (e := e) (R := R) (s := s) (m := m) (args := args) (below := below) (meth := meth) (c := c) (H := H) (locs := locs) (cells := cells) (slots := slots) (C := cls) (n := n) (rest := rest) (g := F0 m pc ls st) ⟨C.1, C.2.1, C.2.2.1, C.2.2.2.1, C.2.2.2.2.1⟩ hM (cwx_V C S hR) ⟨pck_blind, hrec, pck_pre C K hP⟩ rfl hn hz hst (lv_room hw) d hf) kx kk
/-- caught: past rows of other classes -/
theorem lm_catch (C : Cx p s m args meth c cc nL "LentRoomLaw" ret x g) (K : SKv k s) {E : String} {ce : Cell} {q : Nat} (pre : List (Nat × Nat × Nat × Nat)) (a : Nat × Nat × Nat × Nat) (suf : List (Nat × Nat × Nat × Nat)) (ht : c.exceptionTable.toList = tableOf (pre ++ a :: suf)) (hpre : ∀ z ∈ pre, z.2.2.2 ≠ 0 ∧ ∃ nm, Cond.classLink "LentRoomLaw" z.2.2.2 nm ∈ AL ∧ (E, nm) ∈ cnW) (ha : a.1 ≤ pc ∧ pc < a.2.1) (h0 : a.2.2.2 ≠ 0) (hl : Cond.classLink "LentRoomLaw" a.2.2.2 E ∈ AL) (hE : E ∈ cyW) (hcell : H[q]? = some ce) (hv : ce.vm = .none) (hcl : s.vm.findClass E = some ce.cls)
    (kk : W p l e R s m args below meth c H locs cells slots Q (F0 m a.2.2.1 ls [.ref q])) : vx_W p l e R s m args below meth c H locs cells slots Q (F0 m pc ls rest) q := by
  refine vx_catch (name := E) C.2.2.2.1 (tableOf pre) ⟨a.1, a.2.1, a.2.2.1, a.2.2.2⟩ (tableOf suf) (ht.trans (by unfold tableOf; rw [List.map_append, List.map_cons])) (fun z hz => ?_) ?_ h0 (al_ok C hl) (va_Nw.use rfl (K.2.2.1 _ hE)) hcell hv hcl kk
  · obtain ⟨z9, hz9, rfl⟩ := List.mem_map.mp hz
    obtain ⟨h1, nm, h2, h3⟩ := hpre z9 hz9
    exact Or.inr ⟨h1, nm, al_ok C h2, K.2.2.2.1 _ h3⟩
  · simp [ha.1, ha.2]
theorem r_iretL (C : Cx p s m args meth c cc nL own ret x g) {w : Int32} (hret : ret = some .int) (hv : w = iI Kc) (h0 : Kc = 0 → P' H ∧ lAt g ob 1 (fun _ => vv) H) (h1 : Kc ≠ 0 → P H ∧ ∃ f, lAt g ob 1 f H) (hz : s.heap.size ≤ H.size) (hk : ∀ q : Nat, q < s.heap.size → ¬ Cob b ob q → H[q]? = s.heap[q]?) (hL : ∀ x ∈ locs, Cob b ob x.base) (hc : cells ≤ nc) (hs : slots ≤ 6 * nc) (d : decode cc pc = .ok (.ireturn, 1)) : W p l e R s m args below meth c H locs cells slots (MQ below (LQ g b ob P P' Kc vv) args s nc (6 * nc) (Cob b ob)) (F0 m pc ls [.int w]) := by
  subst hv
  have hl : meth.locks = false := C.2.2.2.2.2.2.1
  refine W.widen hc hs ?_
  exact W.zret (ty := .int) C.1 C.2.1 (C.2.2.2.2.2.1.trans hret) rfl (fun t ht _ => ⟨rfl, fun z => by rw [ht]; exact h0 z, fun z => by rw [ht]; exact h1 z, by rw [ht]; exact hz, by rw [ht]; exact hk⟩) hL d hl
end LMROWS

/-! ===== what the law's methods do: they return v, change cells of A alone, make new ones ===== -/
theorem CW.lr {g : Gt} {b : Nat} {sz ac : Int} {TX F DIA KEP ISK : Nat → Int} {H : Heap} (h : CW g b sz ac TX F DIA KEP ISK H) : lrAt g b H := by
  obtain ⟨first, G, TR, GU, h0, g0, -⟩ := h
  exact g0
theorem CW.lt {g : Gt} {b : Nat} {sz ac : Int} {TX F DIA KEP ISK : Nat → Int} {H : Heap} (h : CW g b sz ac TX F DIA KEP ISK H) : b + 406 < H.size := by
  obtain ⟨first, G, TR, GU, -, -, -, -, -, -, -, -, -, -, -, -, -, g12⟩ := h
  have h9 := (g12 1 (by omega)).c6.lt
  omega
theorem not_cdp {b q : Nat} (h : ¬ (b ≤ q ∧ q < b + 407)) : ¬ Cdp b q := h
def tv (L : List Int) (K v : Int) : Int := if K = 0 then v else L.getD (K.toNat - 1) 0
theorem tv_0 {L : List Int} {K v : Int} (h : K = 0) : tv L K v = v := if_pos h
theorem tv_n {L : List Int} {K v : Int} (h : K ≠ 0) : tv L K v = L.getD (K.toNat - 1) 0 := if_neg h
def TQ (v : Int) (A : Nat → Prop) (P' : Heap → Prop) : Array Value → State → Outcome → State → Prop := fun _ st o t =>
  o = .returned (some (.int (iI v))) ∧ P' t.heap ∧ st.heap.size ≤ t.heap.size ∧ ∀ q : Nat, q < st.heap.size → ¬ A q → t.heap[q]? = st.heap[q]?
def TM (l : Launch) (y : MethodName) (w : Cond) (f lo nc : Nat) (g : Gt) (k : Kt) (As : List Value) (P : Heap → Prop) (v : Int) (A : Nat → Prop) (P' : Heap → Prop) : Prop :=
  Met l y (w :: AL) (rmx f lo nc) (Pck As P g k) (TQ v A P') nc (6 * nc) A
/-- since H0 the old cells outside A are as they were -/
def GT (A : Nat → Prop) (H0 H : Heap) (locs : List Loc) : Prop := H0.size ≤ H.size ∧ (∀ q : Nat, q < H0.size → ¬ A q → H[q]? = H0[q]?) ∧ ∀ x ∈ locs, A x.base
theorem GT.rf {A : Nat → Prop} {H : Heap} : GT A H H [] := ⟨Nat.le_refl _, fun _ _ _ => rfl, fun _ h => by cases h⟩
theorem GT.call {A A' : Nat → Prop} {H0 H H1 : Heap} {locs L : List Loc} (h : GT A H0 H locs) (hA : ∀ q, A' q → A q) (h1 : GT A' H H1 L) : GT A H0 H1 (locs ++ L) := by
  refine ⟨Nat.le_trans h.1 h1.1, fun q hq hn => (h1.2.1 q (by have := h.1; omega) (fun z => hn (hA q z))).trans (h.2.1 q hq hn), fun x hx => ?_⟩
  rcases List.mem_append.mp hx with h2 | h2
  · exact h.2.2 x h2
  · exact hA _ (h1.2.2 x h2)
theorem GT.sk {k : Kt} {U : State} {A : Nat → Prop} {H0 H : Heap} {locs : List Loc} (h : GT A H0 H locs) (K : SK k U H0) (hk : k.1 ≤ H0.size) (hA : ∀ q, A q → k.1 ≤ q) : SK k U H :=
  K.kept (fun q hq => h.2.1 q (by omega) (fun z => by have := hA q z; omega))
theorem tm_of {l : Launch} {y : MethodName} {cc : ByteArray} {maxL : Nat} {ret : Option FieldType} {f lo nc : Nat} {g : Gt} {k : Kt} {As : List Value} {P P' : Heap → Prop} {v : Int} {A : Nat → Prop} (own : String) (hy : plainName y.cls = true) (hown : y.cls = own) (hn : (lg_sl As).length ≤ maxL)
    (body : ∀ (p : Program) (e : Env) (s : State) (m : MethodId) (args : Array Value) (below : List Frame) (meth : Method) (c : Code) (ls : Array Slot), Cx p s m args meth c cc maxL own ret (.code y cc maxL ret) g → SK k s s.heap → P s.heap → GT A s.heap s.heap [] → lv_has ls maxL (lv_args 0 As) → W p l e (rmx f lo nc) s m args below meth c s.heap [] 0 (6 * 0) (MQ below (TQ v A P') args s nc (6 * nc) A) (F0 m 0 ls [])) : TM l y (.code y cc maxL ret) f lo nc g k As P v A P' := by
  refine Met.ofW (cc := cc) (maxL := maxL) (ret := ret) hy rfl ?_
  intro p e s m args below meth c s₁ B hml hv
  obtain ⟨rfl, hP, hK, hSK⟩ := hv
  rw [lg_entry_eq]
  exact body p e s m _ below meth c _ ⟨B.exec, B.bytes, hml, hown ▸ findClass_of_methodNamed B.named, atoms_spec (ws := .code y cc maxL ret :: AL) B.pre, B.returns, B.notSynchronized, hK⟩ hSK hP GT.rf (lv_entry As hn)
theorem tmh_of {l : Launch} {y : MethodName} {cc : ByteArray} {maxL : Nat} {hh : List (Nat × Nat × Nat × Nat)} {f lo nc : Nat} {g : Gt} {k : Kt} {As : List Value} {P P' : Heap → Prop} {v : Int} {A : Nat → Prop} (hy : plainName y.cls = true) (hown : y.cls = "LentRoomLaw") (hn : (lg_sl As).length ≤ maxL)
    (body : ∀ (p : Program) (e : Env) (s : State) (m : MethodId) (args : Array Value) (below : List Frame) (meth : Method) (c : Code) (ls : Array Slot), Cx p s m args meth c cc maxL "LentRoomLaw" (some .int) (.codeWith y cc maxL (some .int) hh) g → SK k s s.heap → c.exceptionTable.toList = tableOf hh → P s.heap → lv_has ls maxL (lv_args 0 As) → W p l e (rmx f lo nc) s m args below meth c s.heap [] 0 0 (MQ below (TQ v A P') args s nc (6 * nc) A) (F0 m 0 ls [])) : TM l y (.codeWith y cc maxL (some .int) hh) f lo nc g k As P v A P' := by
  unfold TM Met
  refine MetFree.of_bodyS (code := cc) (maxLocals := maxL) (ret := some .int) hy ?_ ?_
  · intro args s m h hn
    obtain ⟨m9, meth, c, hn9, h1, h2, h3, h4, -, h5, h6, -⟩ := Cond.codeWith_spec (atoms_spec (ws := .codeWith y cc maxL (some .int) hh :: AL) h _ List.mem_cons_self)
    cases hn9.symm.trans hn
    exact ⟨meth, c, h1, h2, h3, h4, h5, h6⟩
  · intro p e s m args below meth c s₁ B hml hv _
    obtain ⟨rfl, hP, hK, hSK⟩ := hv
    have hh0 : s₁.heap = s.heap := by rw [B.state]; rfl
    have ht := vx_table (x := y) B (atoms_spec (ws := .codeWith y cc maxL (some .int) hh :: AL) B.pre _ List.mem_cons_self)
    have hb := body p e s m As.toArray below meth c _ ⟨B.exec, B.bytes, hml, hown ▸ findClass_of_methodNamed B.named, atoms_spec (ws := .codeWith y cc maxL (some .int) hh :: AL) B.pre, B.returns, B.notSynchronized, hK⟩ hSK ht hP (lv_entry As hn)
    rw [← lg_entry_eq] at hb
    obtain ⟨t, a1, o, b1, b2, b3⟩ := hb s₁ hh0 (Stand.of_body B)
    exact ⟨t, o, a1, b1, b2, b3⟩
def SiteW (idx : Nat) (y : MethodName) (bytes : ByteArray) (maxL : Nat) (hh : List (Nat × Nat × Nat × Nat)) (n : Nat) : Prop :=
  (Cond.methodLink "LentRoomLaw" idx y ∈ AL ∧ Cond.static y ∈ AL ∧ Cond.initialized y.cls ∈ AL ∧ Cond.codeWith y bytes maxL (some .int) hh ∈ AL) ∧ (y.cls ≠ "java/lang/invoke/MethodHandle" ∧ y.cls ≠ "java/lang/invoke/VarHandle" ∧ (parseMethodDescriptor y.desc).map (fun d => d.parameters.length) = some n)
section TMROWS
variable {p : Program} {l : Launch} {e : Env} {R : Room} {s : State} {m : MethodId} {args : Array Value} {below : List Frame} {meth : Method} {c : Code} {H : Heap} {locs : List Loc} {cells slots : Nat} {Q : State → Prop}
variable {cc : ByteArray} {nL : Nat} {own : String} {ret : Option FieldType} {x : Cond} {g : Gt} {k : Kt} {pc : Nat} {ls : Array Slot} {rest st : List Value}
variable {y : MethodName} {bytes : ByteArray} {maxL idx n f lo nc : Nat} {ret' : Option FieldType} {As : List Value} {P P' : Heap → Prop} {v r : Int} {A A' : Nat → Prop} {b : Nat} {cls : String} {H0 : Heap} {Kc : Int} {L : List String} {hh : List (Nat × Nat × Nat × Nat)} {c9 : Nat}
theorem r_ldcI (C : Cx p s m args meth c cc nL own ret x g) {q : Int32} {w : Int} (hw : q = iI w) (hc : Cond.constant own idx q ∈ AL) (d : decode cc pc = .ok (.ldc idx, 2)) (kk : W p l e R s m args below meth c H locs cells slots Q (F0 m (pc + 2) ls (.int (iI w) :: rest))) : W p l e R s m args below meth c H locs cells slots Q (F0 m pc ls rest) := by
  subst hw
  exact lv_ldc C.1 C.2.1 C.2.2.2.1 (al_ok C hc) d kk
theorem r_ior (C : Cx p s m args meth c cc nL own ret x g) {a z : Int} (ha : a = 0 ∨ a = 1) (hz : z = 0 ∨ z = 1) (d : decode cc pc = .ok (.ior, 1)) (kk : W p l e R s m args below meth c H locs cells slots Q (F0 m (pc + 1) ls (.int (iI (if a = 0 ∧ z = 0 then 0 else 1)) :: rest))) : W p l e R s m args below meth c H locs cells slots Q (F0 m pc ls (.int (iI z) :: .int (iI a) :: rest)) := by
  refine lv_ior C.1 C.2.1 d ?_
  have h : (iI a ||| iI z) = iI (if a = 0 ∧ z = 0 then 0 else 1) := by
    rcases ha with rfl | rfl <;> rcases hz with rfl | rfl <;> decide
  rw [h]
  exact kk
theorem r_tret (C : Cx p s m args meth c cc nL own ret x g) {ty : FieldType} {w : Int} (hret : ret = some ty) (hn : narrow ty (.int (iI v)) = .int (iI v)) (hv : w = v) (G : GT A s.heap H locs) (hP : P' H) (hc : cells ≤ nc) (hs : slots ≤ 6 * nc) (d : decode cc pc = .ok (.ireturn, 1)) : W p l e R s m args below meth c H locs cells slots (MQ below (TQ v A P') args s nc (6 * nc) A) (F0 m pc ls [.int (iI w)]) := by
  subst hv
  have hl : meth.locks = false := C.2.2.2.2.2.2.1
  refine W.widen hc hs ?_
  exact W.zret (ty := ty) C.1 C.2.1 (C.2.2.2.2.2.1.trans hret) hn (fun t ht _ => ⟨rfl, by rw [ht]; exact hP, by rw [ht]; exact G.1, by rw [ht]; exact G.2.1⟩) G.2.2 d hl
theorem tm_run {a : Array Value} {j : JFrame} {mc ms : Nat} (hr : va_Run p l e R s m args below meth c H locs cells slots mc ms j rest (TQ v A' P' a) A') (kk : ∀ (H1 : Heap) (L9 : List Loc), P' H1 → GT A' H H1 L9 → W p l e R s m args below meth c H1 (locs ++ L9) (cells + mc) (slots + ms) Q { j with pc := j.pc + 3, stack := .int (iI v) :: rest }) : W p l e R s m args below meth c H locs cells slots Q j := by
  intro T hT Xs
  obtain ⟨v', st₀, t, T', L1, h0, X', hL, e1, -, ⟨hv, q1, q3, q4⟩, stp⟩ := hr T hT Xs
  cases hv
  subst h0
  obtain ⟨t2, a1, b1⟩ := kk t.heap L1 q1 ⟨q3, q4, hL⟩ T' e1 X'
  exact ⟨t2, stp t2 a1, b1⟩
/-- a call of a method with handlers -/
theorem r_sTw (C : Cx p s m args meth c cc nL "LentRoomLaw" ret x g) (K : SK k s H) (hM : TM l y (.codeWith y bytes maxL (some .int) hh) f lo nc g k As P v A' P') (hv : v = r) (S : SiteW idx y bytes maxL hh n) (hP : P H) (hz : ls.size = nL) (hn : As.length = n) (hR : RM f lo maxL R) (hst : st = As.reverse ++ rest) (hw : (rest.map fun v => v.category).sum ≤ 8) (hc : cells + nc ≤ c9) (hc9 : c9 ≤ R.cells) (h6 : 6 * R.cells ≤ R.slots) (d : decode cc pc = .ok (.invokestatic idx, 3)) {pc9 : Nat} (hpc : pc + 3 = pc9)
    (kk : ∀ (H1 : Heap) (L1 : List Loc), P' H1 → GT A' H H1 L1 → W p l e R s m args below meth c H1 (locs ++ L1) c9 (6 * c9) Q (F0 m pc9 ls (.int (iI r) :: rest))) : W p l e R s m args below meth c H locs cells (6 * cells) Q (F0 m pc ls st) := by
  subst hv
  subst hpc
  have hts := C.2.2.2.2.1
  obtain ⟨⟨s1, s2, s3, s4⟩, t1, t2, t3⟩ := S
  have cw : vx_CSW R s args "LentRoomLaw" idx y bytes maxL (some .int) hh (.codeWith y bytes maxL (some .int) hh :: AL) (rmx f lo nc) nc (6 * nc) n := by
    refine ⟨⟨rfl, rfl, hR.1, hR.2, pay_in hts (good_ws s4), List.mem_cons_self⟩, al_ok C s4, al_ok C s3, ⟨t1, t2⟩, fun sig h => ?_, al_ok C s1, al_ok C s2⟩
    rw [h] at t3
    exact (Option.some.inj t3).symm
  exact tm_run (vx_runSW (p := p) (l := l) (e := e) (R := R) (s := s) (m := m) (args := args) (below := below) (meth := meth) (c := c) (H := H) (locs := locs) (cells := cells) (slots := 6 * cells) (n := n) (rest := rest) (g := F0 m pc ls st) ⟨C.1, C.2.1, C.2.2.1, C.2.2.2.1, C.2.2.2.2.1⟩ hM cw ⟨pck_blind, pck_pre C K hP⟩ rfl hn hz hst (lv_room hw) d ⟨by omega, by omega⟩) (fun H1 L1 h1 h2 => W.widen hc (by omega) (kk H1 L1 h1 h2))
/-- a call of a method without -/
theorem r_sT (C : Cx p s m args meth c cc nL own ret x g) (K : SK k s H) (hM : TM l y (.code y bytes maxL ret') f lo nc g k As P v A' P') (hv : v = r) (S : SiteS own idx y bytes maxL ret' n) (hP : P H) (hz : ls.size = nL) (hn : As.length = n) (hR : RM f lo maxL R) (hst : st = As.reverse ++ rest) (hw : (rest.map fun v => v.category).sum ≤ 8) (hc : cells + nc ≤ c9) (hc9 : c9 ≤ R.cells) (h6 : 6 * R.cells ≤ R.slots) (d : decode cc pc = .ok (.invokestatic idx, 3)) {pc9 : Nat} (hpc : pc + 3 = pc9)
    (kk : ∀ (H1 : Heap) (L1 : List Loc), P' H1 → GT A' H H1 L1 → W p l e R s m args below meth c H1 (locs ++ L1) c9 (6 * c9) Q (F0 m pc9 ls (.int (iI r) :: rest))) : W p l e R s m args below meth c H locs cells (6 * cells) Q (F0 m pc ls st) := by
  subst hv
  subst hpc
  exact tm_run (va_runS (p := p) (l := l) (e := e) (R := R) (s := s) (m := m) (args := args) (below := below) (meth := meth) (c := c) (H := H) (locs := locs) (cells := cells) (slots := 6 * cells) (n := n) (rest := rest) (g := F0 m pc ls st) ⟨C.1, C.2.1, C.2.2.1, C.2.2.2.1, C.2.2.2.2.1⟩ hM (cwx_S C S hR) ⟨pck_blind, pck_pre C K hP⟩ rfl hn hz hst (lv_room hw) d ⟨by omega, by omega⟩) (fun H1 L1 h1 h2 => W.widen hc (by omega) (kk H1 L1 h1 h2))
theorem xr_M {a : Array Value} {j : JFrame} {w : Option Value} {mc ms : Nat} (hr : vx_Run p l e R s m args below meth c H locs cells slots mc ms j rest (XHQ Kc w A' P' a) (XX Kc L) A')
    (kx : ∀ (H1 : Heap) (q : Nat) (ce : Cell) (L9 : List Loc), Kc ≠ 0 → H.size ≤ H1.size → (∀ z : Nat, z < H.size → H1[z]? = H[z]?) → (∀ z ∈ L9, A' z.base) → H1[q]? = some ce → ce.vm = .none → s.vm.findClass (exN L Kc) = some ce.cls → vx_W p l e R s m args below meth c H1 (locs ++ L9) (cells + mc) (slots + ms) Q { j with stack := rest } q)
    (kk : ∀ (H1 : Heap) (L9 : List Loc), Kc = 0 → P' H1 → H1.size = H.size → (∀ z : Nat, ¬ A' z → H1[z]? = H[z]?) → (∀ z ∈ L9, A' z.base) → W p l e R s m args below meth c H1 (locs ++ L9) (cells + mc) (slots + ms) Q { j with pc := j.pc + 3, stack := w.toList ++ rest }) : W p l e R s m args below meth c H locs cells slots Q j := by
  intro T hT X
  rcases hr T hT X with ⟨v', st₀, t, T', L9, h0, X', hL, e1, e2, ⟨hK, hv, hp, hz, hk⟩, st⟩ | ⟨q, st₀, t, T', L9, E, ce, h0, X', hL, e1, e2, ⟨hK, hE, hz, hk⟩, hce, hcv, hcl, st⟩
  · cases hv
    subst h0
    obtain ⟨t2, a1, b1⟩ := kk t.heap L9 hK hp hz hk hL T' e1 X'
    exact ⟨t2, st t2 a1, b1⟩
  · rw [h0] at hz hk
    rw [hE] at hcl
    obtain ⟨t2, a1, b1⟩ := kx T'.heap q ce L9 hK (by rw [e1]; exact hz) (by rw [e1]; exact hk) hL (by rw [e1]; exact hce) hcv hcl T' rfl X'
    exact ⟨t2, st.trans a1, b1⟩
theorem r_vXMi {r : Int32} (C : Cx p s m args meth c cc nL own ret x g) (K : SK k s H) (hM : XM l y bytes maxL ret' f lo nc g k (.ref b :: As) P Kc L (some (.int r)) A' P') (S : SiteV own idx cls y bytes maxL ret' n) (hP : P H) (hrec : ∃ cell : Cell, H[b]? = some cell ∧ cell.vm.isStatics = false ∧ s.vm.findClass cls = some cell.cls) (hz : ls.size = nL) (hn : As.length = n) (hR : RM f lo maxL R) (hst : st = As.reverse ++ .ref b :: rest) (hw : (rest.map fun v => v.category).sum ≤ 8) (hf : cells + nc ≤ R.cells ∧ slots + 6 * nc ≤ R.slots) (d : decode cc pc = .ok (.invokevirtual idx, 3))
    (kx : ∀ (H1 : Heap) (q : Nat) (ce : Cell) (L9 : List Loc), Kc ≠ 0 → H.size ≤ H1.size → (∀ z : Nat, z < H.size → H1[z]? = H[z]?) → (∀ z ∈ L9, A' z.base) → H1[q]? = some ce → ce.vm = .none → s.vm.findClass (exN L Kc) = some ce.cls → vx_W p l e R s m args below meth c H1 (locs ++ L9) (cells + nc) (slots + 6 * nc) Q (F0 m pc ls rest) q)
    (kk : ∀ (H1 : Heap) (L9 : List Loc), Kc = 0 → P' H1 → H1.size = H.size → (∀ z : Nat, ¬ A' z → H1[z]? = H[z]?) → (∀ z ∈ L9, A' z.base) → W p l e R s m args below meth c H1 (locs ++ L9) (cells + nc) (slots + 6 * nc) Q (F0 m (pc + 3) ls (.int r :: rest))) : W p l e R s m args below meth c H locs cells slots Q (F0 m pc ls st) :=
  xr_M (vx_runV (p := p) (l := l) (e := e) (R := R) (s := s) (m := m) (args := args) (below := below) (meth := meth) (c := c) (H := H) (locs := locs) (cells := cells) (slots := slots) (C := cls) (n := n) (rest := rest) (g := F0 m pc ls st) ⟨C.1, C.2.1, C.2.2.1, C.2.2.2.1, C.2.2.2.2.1⟩ hM (cwx_V C S hR) ⟨pck_blind, hrec, pck_pre C K hP⟩ rfl hn hz hst (lv_room hw) d hf) kx kk
/-- caught: past rows of other classes -/
theorem lm_catch (C : Cx p s m args meth c cc nL "LentRoomLaw" ret x g) (K : SKv k s) {E : String} {ce : Cell} {q : Nat} (pre : List (Nat × Nat × Nat × Nat)) (a : Nat × Nat × Nat × Nat) (suf : List (Nat × Nat × Nat × Nat)) (ht : c.exceptionTable.toList = tableOf (pre ++ a :: suf)) (hpre : ∀ z ∈ pre, z.2.2.2 ≠ 0 ∧ ∃ nm, Cond.classLink "LentRoomLaw" z.2.2.2 nm ∈ AL ∧ (E, nm) ∈ cnW) (ha : a.1 ≤ pc ∧ pc < a.2.1) (h0 : a.2.2.2 ≠ 0) (hl : Cond.classLink "LentRoomLaw" a.2.2.2 E ∈ AL) (hE : E ∈ cyW) (hcell : H[q]? = some ce) (hv : ce.vm = .none) (hcl : s.vm.findClass E = some ce.cls)
    (kk : W p l e R s m args below meth c H locs cells slots Q (F0 m a.2.2.1 ls [.ref q])) : vx_W p l e R s m args below meth c H locs cells slots Q (F0 m pc ls rest) q := by
  refine vx_catch (name := E) C.2.2.2.1 (tableOf pre) ⟨a.1, a.2.1, a.2.2.1, a.2.2.2⟩ (tableOf suf) (ht.trans (by unfold tableOf; rw [List.map_append, List.map_cons])) (fun z hz => ?_) ?_ h0 (al_ok C hl) (va_Nw.use rfl (K.2.2.1 _ hE)) hcell hv hcl kk
  · obtain ⟨z9, hz9, rfl⟩ := List.mem_map.mp hz
    obtain ⟨h1, nm, h2, h3⟩ := hpre z9 hz9
    exact Or.inr ⟨h1, nm, al_ok C h2, K.2.2.2.1 _ h3⟩
  · simp [ha.1, ha.2]
end TMROWS

/-! ===== what lies in the heap from the start on and stays: literals, Throwable's two statics, String's switch; and what the tables say beside AL ===== -/
abbrev Kt : Type := Nat × (Nat → Nat) × (Nat → Nat)
def Zp (k : Kt) : Nat → Prop := fun q => k.1 ≤ q
def sxI (i : Nat) : Nat := [31, 52, 54, 56, 58, 60].getD i 0
def sxT (i : Nat) : String := ["D", "FfCc", "SPp", "SFf", "SPpPp", ""].getD i ""
def sxB : List (List Int32) := [[68], [70, 102, 67, 99], [83, 80, 112], [83, 70, 102], [83, 80, 112, 80, 112], []]
def sxL : List Nat := [1, 4, 3, 3, 5, 0]
abbrev eIA : String := "java/lang/IllegalArgumentException"
abbrev eIS : String := "java/lang/IllegalStateException"
abbrev eIB : String := "java/lang/IndexOutOfBoundsException"
def thW : List (Nat × String) := [(49, "no character code"), (60, "the text is full"), (74, "the text is not a device"), (115, "no such number"), (145, "no such place in the order"), (153, "floor or ceiling out of range"), (158, "no more spaces, or too little common room"), (163, "the page is not written"), (168, "floor out of range"), (173, "the floor is not possible"), (182, "ceiling out of range, or less than the floor"), (193, "no state is remembered"), (203, "number of pages out of range"), (226, "number of commands out of range"), (232, "no script of so many commands"), (246, "number of turns out of range"), (266, "nothing has been saved in the slot"), (270, "no such space"), (276, "no such space or page"), (278, "no such save slot")]
def cyW : List String := [eIA, eIS, eIB]
def cnW : List (String × String) := [(eIA, eIS), (eIA, eIB), (eIS, eIA), (eIS, eIB), (eIB, eIA), (eIB, eIS)]
def neW : List (String × Nat × MethodName) := [("LentRoom", 9, yX2_init), ("LentRoom", 18, yX0_init), ("LentRoom$History", 17, yX0_init)]
/-- the class of arrays of int arrays can be made -/
def AOi (U : State) : Prop := (Cond.arrayOver (.array .int)).before #[] U = true
theorem AOi.moved {u U : State} (hvm : u.vm.Alike U.vm) (h : AOi u) : AOi U := by
  obtain ⟨comp, c, k, h1, h2, h3, h4, h5⟩ := arrayOverA_spec h
  obtain ⟨k', hk', he⟩ := hvm.2.2 _ _ h3
  have hi : (U.vm.classes.findIdx? fun (x : Class) => match x.kind with | .array component _ => component == comp | _ => false) = some c := by
    have h9 := va_idx_bare U.vm comp
    have h8 := va_idx_bare u.vm comp
    first | rw [hvm.bare_eq] at h9 | rw [← hvm.bare_eq] at h9
    exact h9.symm.trans (h8.trans h2)
  have hkind : k'.kind = .array comp (.array .int) := by rw [he]; exact h4
  have f1 : U.vm.findClass (FieldType.array .int).toString = some comp := by rw [hvm.findClass]; exact h1
  have f2 : U.vm.findClass ("[" ++ (FieldType.array .int).toString) = some c := by rw [hvm.findClass]; exact h5
  unfold AOi Cond.before Cond.holds
  simp only [Cond.value]
  rw [f1, Option.bind_some]
  refine (congrArg (fun o : Option Nat => (o.bind (fun c => (U.vm.classes[c]?).map fun (k : Class) => match k.kind with | .array _ ty => decide (ty = FieldType.array .int) && decide (U.vm.findClass ("[" ++ (FieldType.array .int).toString) = some c) | _ => false) == some true)) hi).trans ?_
  simp [hk', hkind, f2]
def dcW : List MethodName := [⟨"java/lang/RuntimeException", "<init>", "(Ljava/lang/String;)V"⟩, ⟨"java/lang/Exception", "<init>", "(Ljava/lang/String;)V"⟩, ⟨"java/lang/Throwable", "<init>", "(Ljava/lang/String;)V"⟩]
/-- what the class tables say -/
def SKv (k : Kt) (U : State) : Prop :=
  (∀ i, i < 6 → vk_R "LentRoom$Text" (sxI i) (sxT i) (k.2.1 i) U) ∧ (∀ q ∈ thW, ∃ a, vk_R "LentRoom" q.1 q.2 a U) ∧ (∀ E ∈ cyW, va_Nw (.castable E E) U) ∧ (∀ q ∈ cnW, va_Nc q.1 q.2 U) ∧ (∀ q ∈ neW, va_Nw (.methodLinkNest q.1 q.2.1 q.2.2 "LentRoom") U) ∧ va_AO "LentRoom$Device" U ∧ AOi U ∧ ∀ x ∈ dcW, va_Nw (.declares x) U
/-- what lies in the heap -/
def SKh (k : Kt) (U : State) (H : Heap) : Prop :=
  vk_S 6 sxL sxB k.2.1 k.2.2 (Zp k) U H ∧ vx_Zq Bundle.tN "UNASSIGNED_STACK" Bundle.steD (Zp k) U H ∧ vx_Zq Bundle.tN "SUPPRESSED_SENTINEL" Bundle.listD (Zp k) U H ∧ va_Z "java/lang/String" "COMPACT_STRINGS" "Z" (.int 1) (Zp k) U H ∧ va_Zq "jdk/internal/util/Preconditions" "SIOOBE_FORMATTER" "Ljava/util/function/BiFunction;" (Zp k) U H
def SK (k : Kt) (U : State) (H : Heap) : Prop := SKv k U ∧ SKh k U H
theorem SKh.moved {k : Kt} {u U : State} {H : Heap} (hvm : u.vm.Alike U.vm) (h : SKh k u H) : SKh k U H :=
  ⟨vk_S.moved hvm h.1, vx_Zq.moved hvm h.2.1, vx_Zq.moved hvm h.2.2.1, va_Z.moved hvm h.2.2.2.1, va_Zq.moved hvm h.2.2.2.2⟩
theorem SKh.kept {k : Kt} {U : State} {H H1 : Heap} (h : SKh k U H) (hq : ∀ q : Nat, q < k.1 → H1[q]? = H[q]?) : SKh k U H1 := by
  have hq' : ∀ a : Nat, a < H.size → ¬ Zp k a → H1[a]? = H[a]? := fun a _ h => hq a (Nat.lt_of_not_le h)
  exact ⟨h.1.kept hq', h.2.1.kept hq', h.2.2.1.kept hq', h.2.2.2.1.kept hq', h.2.2.2.2.kept hq'⟩
theorem SKv.warm {k : Kt} {s U : State} (hW : s.WarmedH U.vm) (h : SKv k s) : SKv k U := by
  obtain ⟨h1, h2, h3, h4, h5, h6, h7, h8⟩ := h
  refine ⟨fun i hi => vk_R.warm hW (h1 i hi), fun q hq => ?_, fun E hE => va_Nw.warmC hW (h3 E hE), fun q hq => va_Nc.moved hW.alike (h4 q hq), fun q hq => va_Nw.warmM hW (h5 q hq), va_AO.moved hW.alike h6, AOi.moved hW.alike h7, fun x hx => va_Nw.warmD hW (h8 x hx)⟩
  obtain ⟨a, ha⟩ := h2 q hq
  exact ⟨a, vk_R.warm hW ha⟩
theorem SKv.same {k : Kt} {s U : State} (hv : U.vm = s.vm) (h : SKv k s) : SKv k U := by
  obtain ⟨h1, h2, h3, h4, h5, h6, h7, h8⟩ := h
  have hA : s.vm.Alike U.vm := by rw [hv]; exact Vm.Alike.refl _
  refine ⟨fun i hi => vk_R.same hv (h1 i hi), fun q hq => ?_, fun E hE => va_Nw.same rfl hv.symm (h3 E hE), fun q hq => va_Nc.moved hA (h4 q hq), fun q hq => va_Nw.same rfl hv.symm (h5 q hq), va_AO.moved hA h6, AOi.moved hA h7, fun x hx => va_Nw.same rfl hv.symm (h8 x hx)⟩
  obtain ⟨a, ha⟩ := h2 q hq
  exact ⟨a, vk_R.same hv ha⟩
theorem SK.warm {k : Kt} {s U : State} {H : Heap} (hW : s.WarmedH U.vm) (h : SK k s H) : SK k U H := ⟨h.1.warm hW, h.2.moved hW.alike⟩
theorem SK.same {k : Kt} {s U : State} {H : Heap} (hv : U.vm = s.vm) (h : SK k s H) : SK k U H := ⟨h.1.same hv, h.2.moved (by rw [hv]; exact Vm.Alike.refl _)⟩
theorem SK.kept {k : Kt} {U : State} {H H1 : Heap} (h : SK k U H) (hq : ∀ q : Nat, q < k.1 → H1[q]? = H[q]?) : SK k U H1 := ⟨h.1, h.2.kept hq⟩
/-! ===== contracts over it ===== -/
def Pck (As : List Value) (P : Heap → Prop) (g : Gt) (k : Kt) : Array Value → State → Prop := va_Pc As (fun U => P U.heap ∧ KK g U ∧ SK k U U.heap)
theorem pck_blind {As : List Value} {P : Heap → Prop} {g : Gt} {k : Kt} : FrameBlind (Pck As P g k) := fun a U j mk q => ⟨q.1, q.2.1, va_K.moved (u := U) (U := U.calling j mk a) (Vm.Alike.refl U.vm) q.2.2.1, SK.same (s := U) (U := U.calling j mk a) rfl q.2.2.2⟩
theorem pck_pre {As : List Value} {P : Heap → Prop} {g : Gt} {k : Kt} {p : Program} {s : State} {m : MethodId} {args : Array Value} {meth : Method} {c : Code} {cc : ByteArray} {nL : Nat} {own : String} {ret : Option FieldType} {x : Cond} {H : Heap} (C : Cx p s m args meth c cc nL own ret x g) (K : SK k s H) (hP : P H) : ∀ U : State, U.heap = H → s.WarmedH U.vm → Pck As P g k As.toArray U := fun U hU hW => ⟨rfl, by rw [hU]; exact hP, va_K.moved hW.alike C.2.2.2.2.2.2.2, by rw [hU]; exact K.warm hW⟩
/-- returns v, changes nothing -/
def CK (l : Launch) (y : MethodName) (cc : ByteArray) (maxL : Nat) (ret : Option FieldType) (f lo : Nat) (g : Gt) (k : Kt) (As : List Value) (P : Heap → Prop) (v : Option Value) : Prop :=
  Met l y (.code y cc maxL ret :: AL) (rmc f lo) (Pck As P g k) (PQ v) 0 0 (fun _ => False)
theorem ck_of {l : Launch} {y : MethodName} {cc : ByteArray} {maxL : Nat} {ret : Option FieldType} {f lo : Nat} {g : Gt} {k : Kt} {As : List Value} {P : Heap → Prop} {v : Option Value} (own : String) (hy : plainName y.cls = true) (hown : y.cls = own) (hn : (lg_sl As).length ≤ maxL)
    (body : ∀ (p : Program) (e : Env) (s : State) (m : MethodId) (args : Array Value) (below : List Frame) (meth : Method) (c : Code) (ls : Array Slot), Cx p s m args meth c cc maxL own ret (.code y cc maxL ret) g → SK k s s.heap → P s.heap → lv_has ls maxL (lv_args 0 As) → W p l e (rmc f lo) s m args below meth c s.heap [] 0 0 (MQ below (PQ v) args s 0 0 (fun _ => False)) (F0 m 0 ls [])) : CK l y cc maxL ret f lo g k As P v := by
  refine Met.ofW (cc := cc) (maxL := maxL) (ret := ret) hy rfl ?_
  intro p e s m args below meth c s₁ B hml hv
  obtain ⟨rfl, hP, hK, hSK⟩ := hv
  rw [lg_entry_eq]
  exact body p e s m _ below meth c _ ⟨B.exec, B.bytes, hml, hown ▸ findClass_of_methodNamed B.named, atoms_spec (ws := .code y cc maxL ret :: AL) B.pre, B.returns, B.notSynchronized, hK⟩ hSK hP (lv_entry As hn)
/-- room of a method that may throw: nc throws -/
abbrev rmx (f lo nc : Nat) : Room := { frames := f, cells := nc, slots := 6 * nc, locals := lo }
def exN (L : List String) (Kc : Int) : String := L.getD (Kc.toNat - 1) ""
/-- it threw what L has at Kc, nothing old is changed -/
def XX (Kc : Int) (L : List String) : String → State → State → Prop := fun E st t => Kc ≠ 0 ∧ E = exN L Kc ∧ st.heap.size ≤ t.heap.size ∧ ∀ q : Nat, q < st.heap.size → t.heap[q]? = st.heap[q]?
def XPQ (Kc : Int) (v : Option Value) : Array Value → State → Outcome → State → Prop := fun _ st o t => Kc = 0 ∧ o = .returned v ∧ t.heap = st.heap
def XHQ (Kc : Int) (v : Option Value) (A : Nat → Prop) (P' : Heap → Prop) : Array Value → State → Outcome → State → Prop := fun a st o t => Kc = 0 ∧ HQ v A P' a st o t
/-- returns v and changes nothing, or throws -/
def XP (l : Launch) (y : MethodName) (cc : ByteArray) (maxL : Nat) (ret : Option FieldType) (f lo nc : Nat) (g : Gt) (k : Kt) (As : List Value) (P : Heap → Prop) (Kc : Int) (L : List String) (v : Option Value) : Prop :=
  vx_Met l y (.code y cc maxL ret :: AL) (rmx f lo nc) (Pck As P g k) (XPQ Kc v) (XX Kc L) nc (6 * nc) (fun _ => False)
/-- returns v and then P', or throws -/
def XM (l : Launch) (y : MethodName) (cc : ByteArray) (maxL : Nat) (ret : Option FieldType) (f lo nc : Nat) (g : Gt) (k : Kt) (As : List Value) (P : Heap → Prop) (Kc : Int) (L : List String) (v : Option Value) (A : Nat → Prop) (P' : Heap → Prop) : Prop :=
  vx_Met l y (.code y cc maxL ret :: AL) (rmx f lo nc) (Pck As P g k) (XHQ Kc v A P') (XX Kc L) nc (6 * nc) A
def NoT (c : Code) : Prop := ∀ x ∈ c.exceptionTable.toList, False
theorem xp_of {l : Launch} {y : MethodName} {cc : ByteArray} {maxL : Nat} {ret : Option FieldType} {f lo nc : Nat} {g : Gt} {k : Kt} {As : List Value} {P : Heap → Prop} {Kc : Int} {L : List String} {v : Option Value} (own : String) (hy : plainName y.cls = true) (hown : y.cls = own) (hn : (lg_sl As).length ≤ maxL)
    (body : ∀ (p : Program) (e : Env) (s : State) (m : MethodId) (args : Array Value) (below : List Frame) (meth : Method) (c : Code) (ls : Array Slot), Cx p s m args meth c cc maxL own ret (.code y cc maxL ret) g → SK k s s.heap → NoT c → P s.heap → lv_has ls maxL (lv_args 0 As) → W p l e (rmx f lo nc) s m args below meth c s.heap [] 0 0 (vx_MQ below (XPQ Kc v) (XX Kc L) args s nc (6 * nc) (fun _ => False)) (F0 m 0 ls [])) : XP l y cc maxL ret f lo nc g k As P Kc L v := by
  refine vx_ofW (cc := cc) (maxL := maxL) (ret := ret) hy rfl ?_
  intro p e s m args below meth c s₁ B hml ht hv
  obtain ⟨rfl, hP, hK, hSK⟩ := hv
  rw [lg_entry_eq]
  exact body p e s m _ below meth c _ ⟨B.exec, B.bytes, hml, hown ▸ findClass_of_methodNamed B.named, atoms_spec (ws := .code y cc maxL ret :: AL) B.pre, B.returns, B.notSynchronized, hK⟩ hSK ht hP (lv_entry As hn)
theorem xm_of {l : Launch} {y : MethodName} {cc : ByteArray} {maxL : Nat} {ret : Option FieldType} {f lo nc : Nat} {g : Gt} {k : Kt} {As : List Value} {P : Heap → Prop} {Kc : Int} {L : List String} {v : Option Value} {A : Nat → Prop} {P' : Heap → Prop} (own : String) (hy : plainName y.cls = true) (hown : y.cls = own) (hn : (lg_sl As).length ≤ maxL)
    (body : ∀ (p : Program) (e : Env) (s : State) (m : MethodId) (args : Array Value) (below : List Frame) (meth : Method) (c : Code) (ls : Array Slot), Cx p s m args meth c cc maxL own ret (.code y cc maxL ret) g → SK k s s.heap → NoT c → P s.heap → Fr A s.heap s.heap [] → lv_has ls maxL (lv_args 0 As) → W p l e (rmx f lo nc) s m args below meth c s.heap [] 0 0 (vx_MQ below (XHQ Kc v A P') (XX Kc L) args s nc (6 * nc) A) (F0 m 0 ls [])) : XM l y cc maxL ret f lo nc g k As P Kc L v A P' := by
  refine vx_ofW (cc := cc) (maxL := maxL) (ret := ret) hy rfl ?_
  intro p e s m args below meth c s₁ B hml ht hv
  obtain ⟨rfl, hP, hK, hSK⟩ := hv
  rw [lg_entry_eq]
  exact body p e s m _ below meth c _ ⟨B.exec, B.bytes, hml, hown ▸ findClass_of_methodNamed B.named, atoms_spec (ws := .code y cc maxL ret :: AL) B.pre, B.returns, B.notSynchronized, hK⟩ hSK ht hP Fr.rf (lv_entry As hn)
/-! the throws of the class -/
abbrev nm2 : List String := ["java/lang/RuntimeException", "java/lang/Exception"]
def ThS (own : String) (ik ic : Nat) (cls : String) : Prop := Bundle.fit cls = true ∧ (∀ n ∈ nm2, Bundle.fit n = true) ∧ Cond.classLink own ik cls ∈ AL ∧ Cond.initialized cls ∈ AL ∧ (∀ w ∈ (vx_atS own ic cls nm2).filter goodWord, w ∈ AL) ∧ (∀ w ∈ (vx_atS own ic cls nm2).filter (fun w => !goodWord w), w ∈ Cond.castable cls cls :: dcW.map Cond.declares) ∧ (∀ w ∈ Cond.classLink own ik cls :: Cond.initialized cls :: vx_atS own ic cls nm2, vx_ot w = true) ∧ cls ∈ cyW
theorem al_of {ws : List Cond} (ps : List Nat) (hp : ws = ps.filterMap (fun i => lw_tbl[i]?)) (h : ws.all goodWord = true) : ∀ w ∈ ws, w ∈ AL := by
  intro w hw
  have h1 := List.all_eq_true.mp h w hw
  rw [hp] at hw
  obtain ⟨i, -, hi⟩ := List.mem_filterMap.mp hw
  exact al_in i hi h1

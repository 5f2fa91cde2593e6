/-! ===== what is made: n cells from lo on; nothing below lo is changed ===== -/
def Gf (lo n : Nat) (H0 H : Heap) (locs : List Loc) : Prop := H.size = lo + n ∧ (∀ q : Nat, q < lo → H[q]? = H0[q]?) ∧ ∀ x ∈ locs, lo ≤ x.base
theorem Gf.put {lo n : Nat} {H0 H H1 : Heap} {locs : List Loc} {a k : Nat} (h : Gf lo n H0 H locs) (z : H1.size = H.size) (oq : ∀ q : Nat, q ≠ a → H1[q]? = H[q]?) (ha : lo ≤ a) : Gf lo n H0 H1 (locs ++ [⟨a, k⟩]) := by
  refine ⟨z.trans h.1, fun q hq => (oq q (by omega)).trans (h.2.1 q hq), fun x hx => ?_⟩
  rcases List.mem_append.mp hx with h1 | h1
  · exact h.2.2 x h1
  · rw [List.mem_singleton.mp h1]
    exact ha
theorem Gf.new {lo n m : Nat} {H0 H H1 : Heap} {locs : List Loc} (h : Gf lo n H0 H locs) (z : H1.size = H.size + m) (oq : ∀ q : Nat, q < H.size → H1[q]? = H[q]?) : Gf lo (n + m) H0 H1 locs :=
  ⟨by rw [z, h.1]; omega, fun q hq => (oq q (by rw [h.1]; omega)).trans (h.2.1 q hq), h.2.2⟩
theorem Gf.grow {lo n m : Nat} {H0 H H1 : Heap} {locs L : List Loc} {d : Nat} (h : Gf lo n H0 H locs) (hd : lo ≤ d) (z : H1.size = lo + (n + m)) (oq : ∀ q : Nat, q < d → H1[q]? = H[q]?) (hL : ∀ x ∈ L, d ≤ x.base) : Gf lo (n + m) H0 H1 (locs ++ L) := by
  refine ⟨z, fun q hq => (oq q (by omega)).trans (h.2.1 q hq), fun x hx => ?_⟩
  rcases List.mem_append.mp hx with h1 | h1
  · exact h.2.2 x h1
  · have := hL x h1
    omega
theorem Gf.fr {lo n : Nat} {H0 H : Heap} {locs : List Loc} (h : Gf lo n H0 H locs) : Fr (fun q => lo ≤ q) H H locs := ⟨rfl, fun _ _ => rfl, h.2.2⟩
theorem Gf.of {lo n : Nat} {H0 H H1 : Heap} {locs L : List Loc} (h : Gf lo n H0 H locs) (hF : Fr (fun q => lo ≤ q) H H1 L) : Gf lo n H0 H1 L := ⟨hF.1.trans h.1, fun q hq => (hF.2.1 q (by show ¬ lo ≤ q; omega)).trans (h.2.1 q hq), hF.2.2⟩
/-! contracts of constructors: n cells from d on (the object itself is the first) -/
def NQ (d n : Nat) (P' : Heap → Prop) : Array Value → State → Outcome → State → Prop := fun _ st o t => o = .returned none ∧ P' t.heap ∧ t.heap.size = d + n ∧ ∀ q : Nat, q < d → t.heap[q]? = st.heap[q]?
abbrev rmn (f lo nc ns : Nat) : Room := { frames := f, cells := nc, slots := ns, locals := lo }
def CN (l : Launch) (y : MethodName) (cc : ByteArray) (maxL f lo nc ns : Nat) (g : Gt) (k : Kt) (d : Nat) (P P' : Heap → Prop) : Prop :=
  Met l y (.code y cc maxL none :: AL) (rmn f lo nc ns) (Pck [.ref d] (fun H => P H ∧ H.size = d + 1) g k) (NQ d (nc + 1) P') nc ns (fun q => d ≤ q)
theorem cn_of {l : Launch} {y : MethodName} {cc : ByteArray} {maxL f lo nc ns : Nat} {g : Gt} {k : Kt} {d : Nat} {P P' : Heap → Prop} (own : String) (hy : plainName y.cls = true) (hown : y.cls = own) (hin : y.name = "<init>") (hn : 1 ≤ maxL)
    (body : ∀ (p : Program) (e : Env) (s : State) (m : MethodId) (args : Array Value) (below : List Frame) (meth : Method) (c : Code) (ls : Array Slot), Cx p s m args meth c cc maxL own none (.code y cc maxL none) g → meth.name = "<init>" → SK k s s.heap → P s.heap → s.heap.size = d + 1 → Gf d 1 s.heap s.heap [] → lv_has ls maxL [(0, .ref d)] → W p l e (rmn f lo nc ns) s m args below meth c s.heap [] 0 0 (MQ below (NQ d (nc + 1) P') args s nc ns (fun q => d ≤ q)) (F0 m 0 ls [])) : CN l y cc maxL f lo nc ns g k d P P' := by
  refine Met.ofW (cc := cc) (maxL := maxL) (ret := none) hy rfl ?_
  intro p e s m args below meth c s₁ B hml hv
  obtain ⟨rfl, ⟨hP, hz⟩, hK, hSK⟩ := hv
  rw [lg_entry_eq]
  exact body p e s m _ below meth c _ ⟨B.exec, B.bytes, hml, hown ▸ findClass_of_methodNamed B.named, atoms_spec (ws := .code y cc maxL none :: AL) B.pre, B.returns, B.notSynchronized, hK⟩ ((name_of_methodNamed B.named B.method).1.trans hin) hSK hP hz ⟨hz, fun _ _ => rfl, fun _ h => by cases h⟩ (lv_entry [.ref d] (by exact hn))
theorem vr_outer9 (c : ClassId) (N h0 : Nat) : ∀ i : Nat, Jvm.Free.Multi.outerC c N h0 i = arrV c N (fun j => va_rf (if j < i then some (h0 + 1 + j) else none))
  | 0 => by
    show ({ cls := c, slots := Array.replicate N .null, vm := .none } : Cell) = _
    rw [arrV_new]
    refine congrArg (arrV c N) (funext fun j => ?_)
    simp [va_rf]
  | i + 1 => by
    show (Jvm.Free.Multi.outerC c N h0 i).setSlot i (.ref (h0 + 1 + i)) = _
    rw [vr_outer9 c N h0 i, arrV_store]
    refine congrArg (arrV c N) (funext fun j => ?_)
    by_cases e : j = i
    · subst e
      simp [updV, va_rf]
    · by_cases h : j < i
      · simp [updV, e, h, Nat.lt_succ_of_lt h]
      · simp [updV, e, h, show ¬ j < i + 1 by omega]
section ALROWS
variable {p : Program} {l : Launch} {e : Env} {R : Room} {s : State} {m : MethodId} {args : Array Value} {below : List Frame} {meth : Method} {c : Code} {H : Heap} {locs : List Loc} {cells slots : Nat} {Q : State → Prop}
variable {cc : ByteArray} {nL : Nat} {own : String} {ret : Option FieldType} {x : Cond} {g : Gt} {k : Kt} {pc : Nat} {ls : Array Slot} {rest st : List Value} {lo n : Nat} {H0 : Heap}
theorem al_ok (C : Cx p s m args meth c cc nL own ret x g) {w : Cond} (h : w ∈ AL) : w.before args s = true := C.2.2.2.2.1 w (List.mem_cons_of_mem _ h)
theorem iI_n0 {N : Nat} (h : N < 2147483648) : ¬ iI (N : Int) < 0 := by rw [z_iI, iI_lt (by omega) (by omega)]; omega
theorem r_oinit (C : Cx p s m args meth c cc nL own ret x g) {a idx : Nat} (hl : Cond.methodLink own idx ⟨"java/lang/Object", "<init>", "()V"⟩ ∈ AL) (hz : ls.size = nL) (hf : 1 ≤ R.frames) (hlo : (rest.map fun v => v.category).sum + 12 ≤ R.locals) (d : decode cc pc = .ok (.invokespecial idx, 3)) (kk : W p l e R s m args below meth c H locs cells slots Q (F0 m (pc + 3) ls rest)) : W p l e R s m args below meth c H locs cells slots Q (F0 m pc ls (.ref a :: rest)) := by
  refine W.objInit (a := a) (rest := rest) C.1 C.2.1 C.2.2.2.1 (al_ok C hl) (al_ok C q_53) (al_ok C q_54) rfl (hz.trans C.2.2.1.symm) rfl d hf ?_ kk
  show 2 * 0 + _ + 12 ≤ _
  omega
theorem r_newI (C : Cx p s m args meth c cc nL own ret x g) (G : Gf lo n H0 H locs) {i : Int} (N : Nat) (hi : i = (N : Int)) (hN : N < 100000) (hc : cells + 1 ≤ R.cells) (hs : slots + N ≤ R.slots) (d : decode cc pc = .ok (.newarray .int, 2)) (kk : ∀ H1 : Heap, aAt g (lo + n) N (fun _ => 0) H1 → (∀ q : Nat, q < lo + n → H1[q]? = H[q]?) → Gf lo (n + 1) H0 H1 locs → W p l e R s m args below meth c H1 locs (cells + 1) (slots + N) Q (F0 m (pc + 2) ls (.ref (lo + n) :: rest))) : W p l e R s m args below meth c H locs cells slots Q (F0 m pc ls (.int (iI i) :: rest)) := by
  subst hi
  refine va_newaK (N := N) C.1 C.2.1 (atype := .int) (al_ok C q_117) rfl d rfl (iI_n0 (by omega)) (iI_nat (by omega)) (by show N * 4 ≤ _; omega) hc hs G.1 (fun H1 cA e1 z1 o1 hAr hNm => ?_)
  have ec : some g.2.1 = some cA := (C.2.2.2.2.2.2.2.2 0 _ rfl).2.symm.trans hNm
  cases ec
  refine kk H1 ?_ o1 (G.new (by rw [z1, G.1]) (by rw [G.1]; exact o1))
  unfold aAt
  rw [e1, vp_cell_i]
  rfl
theorem r_newC (C : Cx p s m args meth c cc nL own ret x g) (G : Gf lo n H0 H locs) {i : Int} (N : Nat) (hi : i = (N : Int)) (hN : N < 100000) (hc : cells + 1 ≤ R.cells) (hs : slots + N ≤ R.slots) (d : decode cc pc = .ok (.newarray .char, 2)) (kk : ∀ H1 : Heap, cAt g (lo + n) N (fun _ => 0) H1 → (∀ q : Nat, q < lo + n → H1[q]? = H[q]?) → Gf lo (n + 1) H0 H1 locs → W p l e R s m args below meth c H1 locs (cells + 1) (slots + N) Q (F0 m (pc + 2) ls (.ref (lo + n) :: rest))) : W p l e R s m args below meth c H locs cells slots Q (F0 m pc ls (.int (iI i) :: rest)) := by
  subst hi
  refine va_newaK (N := N) C.1 C.2.1 (atype := .char) (al_ok C q_69) rfl d rfl (iI_n0 (by omega)) (iI_nat (by omega)) (by show N * 2 ≤ _; omega) hc hs G.1 (fun H1 cA e1 z1 o1 hAr hNm => ?_)
  have ec : some g.2.2.1 = some cA := (C.2.2.2.2.2.2.2.2 1 _ rfl).2.symm.trans hNm
  cases ec
  refine kk H1 ?_ o1 (G.new (by rw [z1, G.1]) (by rw [G.1]; exact o1))
  unfold cAt
  rw [e1, vp_cell_i]
  rfl
theorem r_newZ (C : Cx p s m args meth c cc nL own ret x g) (G : Gf lo n H0 H locs) {i : Int} (N : Nat) (hi : i = (N : Int)) (hN : N < 100000) (hc : cells + 1 ≤ R.cells) (hs : slots + N ≤ R.slots) (d : decode cc pc = .ok (.newarray .boolean, 2)) (kk : ∀ H1 : Heap, zAt g (lo + n) N (fun _ => 0) H1 → (∀ q : Nat, q < lo + n → H1[q]? = H[q]?) → Gf lo (n + 1) H0 H1 locs → W p l e R s m args below meth c H1 locs (cells + 1) (slots + N) Q (F0 m (pc + 2) ls (.ref (lo + n) :: rest))) : W p l e R s m args below meth c H locs cells slots Q (F0 m pc ls (.int (iI i) :: rest)) := by
  subst hi
  refine va_newaK (N := N) C.1 C.2.1 (atype := .boolean) (al_ok C q_162) rfl d rfl (iI_n0 (by omega)) (iI_nat (by omega)) (by show N * 1 ≤ _; omega) hc hs G.1 (fun H1 cA e1 z1 o1 hAr hNm => ?_)
  have ec : some g.2.2.2.1 = some cA := (C.2.2.2.2.2.2.2.2 2 _ rfl).2.symm.trans hNm
  cases ec
  refine kk H1 ?_ o1 (G.new (by rw [z1, G.1]) (by rw [G.1]; exact o1))
  unfold zAt
  rw [e1, vp_cell_i]
  rfl
/-- new LentRoom.Device[N] -/
theorem r_newq (C : Cx p s m args meth c cc nL own ret x g) (K : SKv k s) (G : Gf lo n H0 H locs) {idx : Nat} (hl : Cond.classLink own idx "LentRoom$Device" ∈ AL) {i : Int} (N : Nat) (hi : i = (N : Int)) (hN : N < 100000) (hc : cells + 1 ≤ R.cells) (hs : slots + N ≤ R.slots) (d : decode cc pc = .ok (.anewarray idx, 3)) (kk : ∀ H1 : Heap, qAt g (lo + n) N (fun _ => none) H1 → (∀ q : Nat, q < lo + n → H1[q]? = H[q]?) → Gf lo (n + 1) H0 H1 locs → W p l e R s m args below meth c H1 locs (cells + 1) (slots + N) Q (F0 m (pc + 3) ls (.ref (lo + n) :: rest))) : W p l e R s m args below meth c H locs cells slots Q (F0 m pc ls (.int (iI i) :: rest)) := by
  subst hi
  have zn : (iI (N : Int)).toNatClampNeg = N := iI_nat (by omega)
  refine W.anew C.1 C.2.1 C.2.2.2.1 (al_ok C hl) (va_AO.use K.2.2.2.2.2.1) rfl d rfl (iI_n0 (by omega)) (by rw [zn]; omega) hc (by rw [zn]; exact hs) (fun cA kA comp f1 f2 f3 f4 => ?_)
  obtain ⟨k9, c9, g1, g2, g3, g4⟩ := (C.2.2.2.2.2.2.2.2 3 _ rfl).2
  have ec : some g.2.2.2.2.1 = some cA := g4.symm.trans f1
  cases ec
  rw [zn, G.1]
  generalize hH1 : H.push ({ cls := g.2.2.2.2.1, slots := Array.replicate N .null, vm := .none } : Cell) = H1
  have z1 : H1.size = H.size + 1 := by rw [← hH1, Array.size_push]
  have e1 : H1[H.size]? = some (arrV g.2.2.2.2.1 N (fun _ => .null)) := by rw [← hH1, Array.getElem?_push_size, ← arrV_new]
  have o1 : ∀ q : Nat, q < H.size → H1[q]? = H[q]? := fun q hq => by rw [← hH1, Array.getElem?_push, if_neg (Nat.ne_of_lt hq)]
  refine kk H1 ?_ (by rw [← G.1]; exact o1) (G.new z1 o1)
  unfold qAt
  rw [← G.1, e1, vp_cell_q]
  rfl
theorem r_new (C : Cx p s m args meth c cc nL own ret x g) (G : Gf lo n H0 H locs) {ci idx : Nat} {fs : List Value} {cls : String} {T : u_T} {N : Nat} {ty0 : Nat → FieldType} (hc : vwCl[ci]? = some (cls, T, N)) (hin : ∀ w ∈ u_ws cls T N, w ∈ AL) (hty : ∀ k, k < N → parseFieldDescriptor (T k).2.2.1 = some (ty0 k)) (hl : Cond.classLink own idx cls ∈ AL) (hi : Cond.instantiable cls N ∈ AL) (hini : Cond.initialized cls ∈ AL) (hfs : ∀ j, j < N → defaultValue (ty0 j) = vp_V fs j) (hcl : cells + 1 ≤ R.cells) (hs : slots + N ≤ R.slots) (d : decode cc pc = .ok (.new idx, 3)) (kk : ∀ H1 : Heap, oAt g (lo + n) ci fs H1 → (∀ q : Nat, q < lo + n → H1[q]? = H[q]?) → Gf lo (n + 1) H0 H1 locs → W p l e R s m args below meth c H1 locs (cells + 1) (slots + N) Q (F0 m (pc + 3) ls (.ref (lo + n) :: rest))) : W p l e R s m args below meth c H locs cells slots Q (F0 m pc ls rest) := by
  have hK : va_K g.1 vwCl (TYS g) s := C.2.2.2.2.2.2.2
  have hts := C.2.2.2.2.1
  have hinx : ∀ w ∈ u_ws cls T N, w ∈ x :: AL := fun w hw => List.mem_cons_of_mem _ (hin w hw)
  have hKn := hK.1 ci _ hc
  refine W.newcK C.1 C.2.1 C.2.2.2.1 (al_ok C hl) (al_ok C hi) (al_ok C hini) rfl d hcl hs hKn.2.1 G.1 (fun H1 kC hkC e1 z1 o1 => ?_)
  exact kk H1 ⟨_, hc, (u_born ty0 hts hinx hKn hkC e1 hty).to hfs⟩ o1 (G.new (by rw [z1, G.1]) (by rw [G.1]; exact o1))
/-- a final field, by the constructor -/
theorem r_putF (C : Cx p s m args meth c cc nL own ret x g) (hin2 : meth.name = "<init>") (G : Gf lo n H0 H locs) {a ci idx : Nat} {fs : List Value} {cls : String} {T : u_T} {N : Nat} {ty0 : Nat → FieldType} (hc : vwCl[ci]? = some (cls, T, N)) (hin : ∀ w ∈ u_ws cls T N, w ∈ AL) (hty : ∀ k, k < N → parseFieldDescriptor (T k).2.2.1 = some (ty0 k)) (hnm : ∀ a, a < N → ∀ b, b < N → a ≠ b → (T a).2.1 ≠ (T b).2.1) (h : oAt g a ci fs H) (hA : lo ≤ a) (q : Nat) (hq : q < N) (hl : Cond.fieldLink own idx own (T q).2.1 (T q).2.2.1 ∈ AL) (hr : (T q).1 = own) (hfin : (T q).2.2.2 = true) {v : Value} (hn : narrow (ty0 q) v = v) (hfit : fits (ty0 q) v = true) (hlen : q < fs.length) (d : decode cc pc = .ok (.putfield idx, 3))
    (kk : ∀ (H1 : Heap) (locs1 : List Loc), oAt g a ci (fs.set q v) H1 → (∀ b : Nat, b ≠ a → H1[b]? = H[b]?) → Gf lo n H0 H1 locs1 → W p l e R s m args below meth c H1 locs1 cells slots Q (F0 m (pc + 3) ls rest)) : W p l e R s m args below meth c H locs cells slots Q (F0 m pc ls (v :: .ref a :: rest)) := by
  have hK : va_K g.1 vwCl (TYS g) s := C.2.2.2.2.2.2.2
  have hts := C.2.2.2.2.1
  have hinx : ∀ w ∈ u_ws cls T N, w ∈ x :: AL := fun w hw => List.mem_cons_of_mem _ (hin w hw)
  have hap := va_apart (own := own) hts hinx ty0 hty hnm hK hc
  obtain ⟨r, h1, cell, q1, q2, q3, q4⟩ := h
  have hr' : r = (cls, T, N) := Option.some.inj (h1.symm.trans hc)
  subst hr'
  obtain ⟨hS, hfc, kC, hkC, hkind⟩ := hK.1 ci _ hc
  obtain ⟨cf, kf, fi, f, hi, hsl⟩ := hS q hq
  have hlay := hts _ (hinx _ (u_in_lay hq))
  unfold u_lay at hlay
  rw [if_pos hfin] at hlay
  have hst := (u_facts hfc hkC (u_lays hts hinx hq) hi).1
  have hcf : m.cls = cf := by
    obtain ⟨_, _, c', _, _, _, -, -, hf', -, -, -, hown2, -⟩ := Cond.laysFinal_spec hlay
    have e1 : c' = cf := by have := hi.symm.trans hf'; simp at this; exact this.1.symm
    rw [hr] at hown2
    rw [← e1]
    exact Option.some.inj (C.2.2.2.1.symm.trans hown2)
  have h6 := u_fits hfc hkC hkind (Or.inr hlay) hi (hty q hq) hn hfit
  have hi2 : s.fieldFound? own (T q).2.1 (T q).2.2.1 = some (cf, kf, fi, f) := hr ▸ hi
  refine W.putFinK C.1 C.2.1 C.2.2.2.1 (al_ok C hl) hi2 hst hcf hin2 (by rw [q2]; exact h6) q1 q3 (by rw [hsl]; exact k2_hasslot (q4 q hq)) rfl rfl d fun H' e1 e2 e3 => ?_
  refine kk H' _ ⟨_, hc, ?_⟩ e3 (G.put e2 e3 hA)
  rw [hsl] at e1
  exact t_OB.to (V := updV (vp_V fs) q v) ⟨_, e1, q2, q3, t_set q4 hap hq v⟩ (fun j _ => vp_updV_set hlen v j)
theorem r_aast (C : Cx p s m args meth c cc nL own ret x g) (G : Gf lo n H0 H locs) {a v N : Nat} {f : Nat → Option Nat} {vs : List Value} {i : Int} (h : qAt g a N f H) (hv : oAt g v 0 vs H) (hA : lo ≤ a) (q : Nat) (hi : i = (q : Int)) (hq : q < N) (hN : N < 2147483648) (d : decode cc pc = .ok (.aastore, 1)) (kk : ∀ (H1 : Heap) (locs1 : List Loc), qAt g a N (fun j => if j = q then some v else f j) H1 → (∀ b : Nat, b ≠ a → H1[b]? = H[b]?) → Gf lo n H0 H1 locs1 → W p l e R s m args below meth c H1 locs1 cells slots Q (F0 m (pc + 1) ls rest)) : W p l e R s m args below meth c H locs cells slots Q (F0 m pc ls (.ref v :: .int (iI i) :: .ref a :: rest)) := by
  subst hi
  obtain ⟨r, hc, cellV, g1, g2, g3, -⟩ := hv
  cases hc
  have hcls := (C.2.2.2.2.2.2.2.1 0 _ rfl).2
  obtain ⟨kA, comp, k1, k2, k3, -⟩ := (C.2.2.2.2.2.2.2.2 3 _ rfl).2
  cases hcls.1.symm.trans k3
  obtain ⟨kC, hkC, -⟩ := hcls.2
  refine W.aast C.1 C.2.1 h (fun q h => by cases h) (fun h => by cases h) k1 k2 rfl hkC ⟨fun z => iI_n0 (by omega) z, ?_⟩ g1 (fun q h => by rw [g3] at h; cases h) (by rw [g2]; exact hkC) (by rw [g2]; exact va_assign hcls) rfl rfl d fun H1 e z oq => ?_
  · show _ < (arrV _ _ _).slots.size
    rw [arrV_size, iI_nat (by omega)]
    exact hq
  · refine kk H1 _ ?_ oq (G.put z oq hA)
    unfold qAt
    rw [e, iI_nat (by omega), vp_cell_q, vp_cell_q, arrV_store]
    refine congrArg some (arrV_cg (fun j _ => ?_))
    by_cases hj : j = q
    · subst hj
      simp [updV, va_rf]
    · simp [updV, va_rf, hj]
/-- new int[N][M] -/
theorem r_mna (C : Cx p s m args meth c cc nL own ret x g) (K : SKv k s) (G : Gf lo n H0 H locs) {idx : Nat} (hl : Cond.classLink own idx "[[I" ∈ AL) {i j : Int} (N M : Nat) (hi : i = (N : Int)) (hj : j = (M : Int)) (hN : N < 1000 ∧ M < 1000) (hcells : cells + (1 + N) ≤ R.cells) (hslots : slots + (N + N * M) ≤ R.slots) (d : decode cc pc = .ok (.multianewarray idx 2, 4))
    (kk : ∀ H1 : Heap, rAt g (lo + n) N (fun q => some (lo + n + 1 + q)) H1 → (∀ q : Nat, q < N → aAt g (lo + n + 1 + q) M (fun _ => 0) H1) → (∀ q : Nat, q < lo + n → H1[q]? = H[q]?) → Gf lo (n + (1 + N)) H0 H1 locs → W p l e R s m args below meth c H1 locs (cells + 1 + N) (slots + N + N * M) Q (F0 m (pc + 4) ls (.ref (lo + n) :: rest))) : W p l e R s m args below meth c H locs cells slots Q (F0 m pc ls (.int (iI j) :: .int (iI i) :: rest)) := by
  subst hi
  subst hj
  have zN : (iI (N : Int)).toNatClampNeg = N := iI_nat (by omega)
  have zM : (iI (M : Int)).toNatClampNeg = M := iI_nat (by omega)
  have hz : H.size = lo + n := G.1
  intro T hT Xs
  obtain ⟨vm₁, cA, comp, -, fA, fC, -, -, X', step⟩ := Xs.multianewarray2F C.1 (own := own) (index := idx) (ty := .int) C.2.2.2.1 (al_ok C hl) (K.2.2.2.2.2.2.1) (al_ok C q_117) (g := F0 m pc ls (.int (iI (M : Int)) :: .int (iI (N : Int)) :: rest)) rfl (by rw [C.2.1]; exact d) rfl (iI_n0 (by omega)) (iI_n0 (by omega)) (by rw [zN]; omega) (by rw [zM]; show M * 4 ≤ _; omega) (by rw [zM]; omega) rfl rfl (by rw [zN]; exact hcells) (by rw [zN, zM]; exact hslots)
  have ec : some g.2.1 = some comp := (C.2.2.2.2.2.2.2.2 0 _ rfl).2.symm.trans fC
  cases ec
  have ed : some g.2.2.2.2.2.1 = some cA := (C.2.2.2.2.2.2.2.2 4 _ rfl).2.symm.trans fA
  cases ed
  rw [zN, zM] at X' step
  generalize hF : Jvm.Free.Multi.fill (T.setVm vm₁) g.2.2.2.2.2.1 g.2.1 N M (defaultValue .int) N = F at X' step
  have hTh : (T.setVm vm₁).heap = H := hT
  obtain ⟨f1, f2, -, -⟩ := Jvm.Free.Multi.fill_facts (T.setVm vm₁) g.2.2.2.2.2.1 g.2.1 N M (defaultValue .int) N
  rw [hF, hTh] at f1 f2
  have hold : ∀ q : Nat, q < lo + n → F.heap[q]? = H[q]? := fun q hq => by
    have := Jvm.Free.Multi.fill_old (T.setVm vm₁) g.2.2.2.2.2.1 g.2.1 N M (defaultValue .int) (a := q) (by rw [hTh, hz]; exact hq) N
    rw [hF, hTh] at this
    exact this
  have hrow : ∀ q : Nat, q < N → aAt g (lo + n + 1 + q) M (fun _ => 0) F.heap := fun q hq => by
    have := Jvm.Free.Multi.fill_inner (T.setVm vm₁) g.2.2.2.2.2.1 g.2.1 N M (defaultValue .int) N q hq
    rw [hF, hTh, hz] at this
    unfold aAt
    rw [this, vp_cell_i]
    show some ({ cls := g.2.1, slots := Array.replicate M (.int 0), vm := .none } : Cell) = _
    rw [arrV_new]
    rfl
  have hout : rAt g (lo + n) N (fun q => some (lo + n + 1 + q)) F.heap := by
    unfold rAt
    rw [← hz, f2, vr_outer9, vp_cell_q]
    exact congrArg some (arrV_cg (fun q hq => by rw [if_pos hq]))
  obtain ⟨t, a1, b1⟩ := kk F.heap hout hrow hold (G.new (by rw [f1]; omega) (by rw [hz]; exact hold)) F rfl X'
  refine ⟨t, step t ?_, b1⟩
  have e9 : T.heap.size = lo + n := by rw [hT, hz]
  rw [e9]
  exact a1
end ALROWS

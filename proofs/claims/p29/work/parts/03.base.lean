/-! ===== whole numbers as Int, machine ints as iI of them ===== -/
abbrev Rg (x : Int) : Prop := -2147483648 ≤ x ∧ x < 2147483648
abbrev RgL (x : Int) : Prop := -9223372036854775808 ≤ x ∧ x < 9223372036854775808
def iI (x : Int) : Int32 := Int32.ofInt x
def iL (x : Int) : Int64 := Int64.ofInt x
theorem bm32 {z : Int} (h : Rg z) : z.bmod (2 ^ 32) = z := by
  rw [Int.bmod_def]
  obtain ⟨h1, h2⟩ := h
  split <;> omega
theorem bm64 {z : Int} (h : RgL z) : z.bmod (2 ^ 64) = z := by
  rw [Int.bmod_def]
  obtain ⟨h1, h2⟩ := h
  split <;> omega
theorem iI_toInt {x : Int} (h : Rg x) : (iI x).toInt = x := by
  unfold iI
  rw [Int32.toInt_ofInt]
  exact bm32 h
theorem iL_toInt {x : Int} (h : RgL x) : (iL x).toInt = x := by
  unfold iL
  rw [Int64.toInt_ofInt]
  exact bm64 h
theorem iI_of (x : Int32) : iI x.toInt = x := Int32.ofInt_toInt x
theorem iL_of (x : Int64) : iL x.toInt = x := Int64.ofInt_toInt x
theorem rg_of (x : Int32) : Rg x.toInt := ⟨by have := Int32.le_toInt x; omega, by have := Int32.toInt_lt x; omega⟩
theorem rg_ofL (x : Int64) : RgL x.toInt := ⟨by have := Int64.le_toInt x; omega, by have := Int64.toInt_lt x; omega⟩
theorem iI_add (a b : Int) : iI a + iI b = iI (a + b) := (Int32.ofInt_add a b).symm
theorem iI_sub (a b : Int) : iI a - iI b = iI (a - b) := (Int32.ofInt_sub a b).symm
theorem iI_mul (a b : Int) : iI a * iI b = iI (a * b) := (Int32.ofInt_mul a b).symm
theorem iI_neg (a : Int) : -iI a = iI (-a) := (Int32.ofInt_neg a).symm
theorem iL_add (a b : Int) : iL a + iL b = iL (a + b) := (Int64.ofInt_add a b).symm
theorem iL_sub (a b : Int) : iL a - iL b = iL (a - b) := (Int64.ofInt_sub a b).symm
theorem iL_mul (a b : Int) : iL a * iL b = iL (a * b) := (Int64.ofInt_mul a b).symm
theorem iI_lt {a b : Int} (ha : Rg a) (hb : Rg b) : iI a < iI b ↔ a < b := by rw [Int32.lt_iff_toInt_lt, iI_toInt ha, iI_toInt hb]
theorem iI_le {a b : Int} (ha : Rg a) (hb : Rg b) : iI a ≤ iI b ↔ a ≤ b := by rw [Int32.le_iff_toInt_le, iI_toInt ha, iI_toInt hb]
theorem iI_eq {a b : Int} (ha : Rg a) (hb : Rg b) : iI a = iI b ↔ a = b := ⟨fun h => by rw [← iI_toInt ha, ← iI_toInt hb, h], fun h => by rw [h]⟩
theorem iL_lt {a b : Int} (ha : RgL a) (hb : RgL b) : iL a < iL b ↔ a < b := by rw [Int64.lt_iff_toInt_lt, iL_toInt ha, iL_toInt hb]
theorem iL_le {a b : Int} (ha : RgL a) (hb : RgL b) : iL a ≤ iL b ↔ a ≤ b := by rw [Int64.le_iff_toInt_le, iL_toInt ha, iL_toInt hb]
theorem iL_eq {a b : Int} (ha : RgL a) (hb : RgL b) : iL a = iL b ↔ a = b := ⟨fun h => by rw [← iL_toInt ha, ← iL_toInt hb, h], fun h => by rw [h]⟩
theorem iI_l {a : Int} (h : Rg a) : (iI a).toInt64 = iL a := by
  apply Int64.toInt.inj
  rw [Int32.toInt_toInt64, iI_toInt h, iL_toInt (by obtain ⟨h1, h2⟩ := h; omega)]
theorem iL_i {a : Int} (h : Rg a) : (iL a).toInt32 = iI a := by
  apply Int32.toInt.inj
  rw [Int64.toInt_toInt32, iI_toInt h, iL_toInt (by obtain ⟨h1, h2⟩ := h; omega)]
  exact bm32 h
theorem rg0 : Rg 0 := by decide
theorem z_iI : (0 : Int32) = iI 0 := by decide
theorem z_iL : (0 : Int64) = iL 0 := by decide
theorem iI_nat {k : Nat} (h : k < 2147483648) : (iI (k : Int)).toNatClampNeg = k := by
  show (iI (k : Int)).toInt.toNat = k
  rw [iI_toInt (by omega)]
  exact Int.toNat_natCast k
theorem iI_in {k n : Nat} (h : k < n) (hn : n < 2147483648) : vp_in (iI (k : Int)) n := by
  rintro (h1 | h1)
  · rw [z_iI, iI_lt (by omega) (by omega)] at h1
    omega
  · rw [iI_nat (by omega)] at h1
    omega
theorem iI_nI (n : Nat) : iI (n : Int) = nI n := rfl
theorem iI_div {a b : Int} (ha : 0 ≤ a ∧ a < 2147483648) (hb : 0 < b ∧ b < 2147483648) : iI a / iI b = iI (a / b) := by
  obtain ⟨x, rfl⟩ := Int.eq_ofNat_of_zero_le ha.1
  obtain ⟨y, rfl⟩ := Int.eq_ofNat_of_zero_le (Int.le_of_lt hb.1)
  show nI x / nI y = iI _
  rw [pk_div (by omega) (by omega) (by omega)]
  rfl
theorem iI_rem {a b : Int} (ha : 0 ≤ a ∧ a < 2147483648) (hb : 0 < b ∧ b < 2147483648) : iI a - iI a / iI b * iI b = iI (a % b) := by
  obtain ⟨x, rfl⟩ := Int.eq_ofNat_of_zero_le ha.1
  obtain ⟨y, rfl⟩ := Int.eq_ofNat_of_zero_le (Int.le_of_lt hb.1)
  show nI x - nI x / nI y * nI y = iI _
  rw [pk_rem (by omega) (by omega) (by omega)]
  rfl
theorem iL_lN (n : Nat) : iL (n : Int) = lN n := rfl
theorem iL_div {a b : Int} (ha : 0 ≤ a ∧ a < 9223372036854775808) (hb : 0 < b ∧ b < 9223372036854775808) : iL a / iL b = iL (a / b) := by
  obtain ⟨x, rfl⟩ := Int.eq_ofNat_of_zero_le ha.1
  obtain ⟨y, rfl⟩ := Int.eq_ofNat_of_zero_le (Int.le_of_lt hb.1)
  show lN x / lN y = iL _
  rw [pk_lDiv (by omega) (by omega) (by omega)]
  rfl
theorem iL_rem {a b : Int} (ha : 0 ≤ a ∧ a < 9223372036854775808) (hb : 0 < b ∧ b < 9223372036854775808) : iL a - iL a / iL b * iL b = iL (a % b) := by
  obtain ⟨x, rfl⟩ := Int.eq_ofNat_of_zero_le ha.1
  obtain ⟨y, rfl⟩ := Int.eq_ofNat_of_zero_le (Int.le_of_lt hb.1)
  show lN x - lN x / lN y * lN y = iL _
  rw [pk_lRem (by omega) (by omega) (by omega)]
  rfl
def pI (P : Prop) [Decidable P] : Int := if P then 1 else 0
theorem pI_t {P : Prop} [Decidable P] (h : P) : pI P = 1 := if_pos h
theorem pI_f {P : Prop} [Decidable P] (h : ¬ P) : pI P = 0 := if_neg h
theorem pI_rg (P : Prop) [Decidable P] : 0 ≤ pI P ∧ pI P ≤ 1 := by unfold pI; split <;> omega
theorem pI_0 {P : Prop} [Decidable P] : pI P = 0 ↔ ¬ P := by unfold pI; split <;> simp [*]
theorem pI_c {P Q : Prop} [Decidable P] [Decidable Q] (h : P ↔ Q) : pI P = pI Q := by unfold pI; simp [h]
def up (F : Nat → Int) (k : Nat) (x : Int) : Nat → Int := fun j => if j = k then x else F j
theorem up_s (F : Nat → Int) (k : Nat) (x : Int) : up F k x k = x := if_pos rfl
theorem up_n (F : Nat → Int) {k j : Nat} (x : Int) (h : j ≠ k) : up F k x j = F j := if_neg h
theorem up_e (F : Nat → Int) {k j : Nat} (x : Int) (h : j = k) : up F k x j = x := if_pos h
/-! ===== the world: cells by their addresses ===== -/
/-- classes and slots; the arrays' classes: int, char, boolean, Device[], int[][], long -/
abbrev Gt : Type := va_G × ClassId × ClassId × ClassId × ClassId × ClassId × ClassId
def TYS (g : Gt) : List (ClassId × FieldType) := [(g.2.1, .int), (g.2.2.1, .char), (g.2.2.2.1, .boolean), (g.2.2.2.2.1, .object "LentRoom$Device"), (g.2.2.2.2.2.1, .array .int)]
def KK (g : Gt) (U : State) : Prop := va_K g.1 vwCl (TYS g) U
def oAt (g : Gt) (a ci : Nat) (fs : List Value) (H : Heap) : Prop := va_at g.1 vwCl (a, .inr (ci, fs)) H
def aAt (g : Gt) (a n : Nat) (f : Nat → Int) (H : Heap) : Prop := H[a]? = some (vp_cell g.2.1 (n, .inl (fun k => iI (f k))))
def cAt (g : Gt) (a n : Nat) (f : Nat → Int) (H : Heap) : Prop := H[a]? = some (vp_cell g.2.2.1 (n, .inl (fun k => iI (f k))))
def zAt (g : Gt) (a n : Nat) (f : Nat → Int) (H : Heap) : Prop := H[a]? = some (vp_cell g.2.2.2.1 (n, .inl (fun k => iI (f k))))
def qAt (g : Gt) (a n : Nat) (f : Nat → Option Nat) (H : Heap) : Prop := H[a]? = some (vp_cell g.2.2.2.2.1 (n, .inr (.inr (.inr (.inr f)))))
def rAt (g : Gt) (a n : Nat) (f : Nat → Option Nat) (H : Heap) : Prop := H[a]? = some (vp_cell g.2.2.2.2.2.1 (n, .inr (.inr (.inr (.inr f)))))
def lAt (g : Gt) (a n : Nat) (f : Nat → Int64) (H : Heap) : Prop := H[a]? = some (vp_cell g.2.2.2.2.2.2 (n, .inr (.inl f)))
theorem oAt.kept {g : Gt} {a ci : Nat} {fs : List Value} {H H1 : Heap} (h : oAt g a ci fs H) (hq : H1[a]? = H[a]?) : oAt g a ci fs H1 := va_at.kept h hq
theorem aAt.kept {g : Gt} {a n : Nat} {f : Nat → Int} {H H1 : Heap} (h : aAt g a n f H) (hq : H1[a]? = H[a]?) : aAt g a n f H1 := hq.trans h
theorem cAt.kept {g : Gt} {a n : Nat} {f : Nat → Int} {H H1 : Heap} (h : cAt g a n f H) (hq : H1[a]? = H[a]?) : cAt g a n f H1 := hq.trans h
theorem zAt.kept {g : Gt} {a n : Nat} {f : Nat → Int} {H H1 : Heap} (h : zAt g a n f H) (hq : H1[a]? = H[a]?) : zAt g a n f H1 := hq.trans h
theorem qAt.kept {g : Gt} {a n : Nat} {f : Nat → Option Nat} {H H1 : Heap} (h : qAt g a n f H) (hq : H1[a]? = H[a]?) : qAt g a n f H1 := hq.trans h
theorem rAt.kept {g : Gt} {a n : Nat} {f : Nat → Option Nat} {H H1 : Heap} (h : rAt g a n f H) (hq : H1[a]? = H[a]?) : rAt g a n f H1 := hq.trans h
theorem lAt.kept {g : Gt} {a n : Nat} {f : Nat → Int64} {H H1 : Heap} (h : lAt g a n f H) (hq : H1[a]? = H[a]?) : lAt g a n f H1 := hq.trans h
theorem arrV_cg {c : ClassId} {n : Nat} {f f' : Nat → Value} (h : ∀ k, k < n → f k = f' k) : arrV c n f = arrV c n f' := by
  unfold arrV
  congr 1
  apply Array.ext
  · simp
  · intro i h1 h2
    simp only [Array.size_ofFn] at h1
    simp [h i h1]
theorem aAt.cg {g : Gt} {a n : Nat} {f f' : Nat → Int} {H : Heap} (h : aAt g a n f H) (hf : ∀ k, k < n → f k = f' k) : aAt g a n f' H := by
  unfold aAt at *
  rw [h, vp_cell_i, vp_cell_i, arrV_cg (fun k hk => by rw [hf k hk])]
theorem zAt.cg {g : Gt} {a n : Nat} {f f' : Nat → Int} {H : Heap} (h : zAt g a n f H) (hf : ∀ k, k < n → f k = f' k) : zAt g a n f' H := by
  unfold zAt at *
  rw [h, vp_cell_i, vp_cell_i, arrV_cg (fun k hk => by rw [hf k hk])]
theorem cAt.cg {g : Gt} {a n : Nat} {f f' : Nat → Int} {H : Heap} (h : cAt g a n f H) (hf : ∀ k, k < n → f k = f' k) : cAt g a n f' H := by
  unfold cAt at *
  rw [h, vp_cell_i, vp_cell_i, arrV_cg (fun k hk => by rw [hf k hk])]
theorem qAt.cg {g : Gt} {a n : Nat} {f f' : Nat → Option Nat} {H : Heap} (h : qAt g a n f H) (hf : ∀ k, k < n → f k = f' k) : qAt g a n f' H := by
  unfold qAt at *
  rw [h, vp_cell_q, vp_cell_q, arrV_cg (fun k hk => by rw [hf k hk])]
theorem aAt.lt {g : Gt} {a n : Nat} {f : Nat → Int} {H : Heap} (h : aAt g a n f H) : a < H.size := (Array.getElem?_eq_some_iff.mp h).1
theorem oAt.lt {g : Gt} {a ci : Nat} {fs : List Value} {H : Heap} (h : oAt g a ci fs H) : a < H.size := va_at.lt h
/-! ===== what a method changed ===== -/
def Fr (A : Nat → Prop) (H0 H : Heap) (locs : List Loc) : Prop := H.size = H0.size ∧ (∀ q : Nat, ¬ A q → H[q]? = H0[q]?) ∧ ∀ x ∈ locs, A x.base
theorem Fr.rf {A : Nat → Prop} {H0 : Heap} : Fr A H0 H0 [] := ⟨rfl, fun _ _ => rfl, fun _ h => by cases h⟩
theorem Fr.put {A : Nat → Prop} {H0 H H1 : Heap} {locs : List Loc} {a k : Nat} (h : Fr A H0 H locs) (z : H1.size = H.size) (oq : ∀ q : Nat, q ≠ a → H1[q]? = H[q]?) (ha : A a) : Fr A H0 H1 (locs ++ [⟨a, k⟩]) := by
  refine ⟨z.trans h.1, fun q hq => (oq q (fun e => hq (e ▸ ha))).trans (h.2.1 q hq), fun x hx => ?_⟩
  rcases List.mem_append.mp hx with h1 | h1
  · exact h.2.2 x h1
  · rw [List.mem_singleton.mp h1]
    exact ha
theorem Fr.call {A A' : Nat → Prop} {H0 H H1 : Heap} {locs L : List Loc} (h : Fr A H0 H locs) (hA : ∀ q, A' q → A q) (z : H1.size = H.size) (oq : ∀ q : Nat, ¬ A' q → H1[q]? = H[q]?) (hL : ∀ x ∈ L, A' x.base) : Fr A H0 H1 (locs ++ L) := by
  refine ⟨z.trans h.1, fun q hq => (oq q (fun e => hq (hA q e))).trans (h.2.1 q hq), fun x hx => ?_⟩
  rcases List.mem_append.mp hx with h1 | h1
  · exact h.2.2 x h1
  · exact hA _ (hL x h1)
/-! ===== contracts ===== -/
def Pcc (As : List Value) (P : Heap → Prop) (g : Gt) : Array Value → State → Prop := va_Pc As (fun U => P U.heap ∧ KK g U)
def PQ (v : Option Value) : Array Value → State → Outcome → State → Prop := fun _ st o t => o = .returned v ∧ t.heap = st.heap
def HQ (v : Option Value) (A : Nat → Prop) (P' : Heap → Prop) : Array Value → State → Outcome → State → Prop := fun _ st o t => o = .returned v ∧ P' t.heap ∧ t.heap.size = st.heap.size ∧ ∀ q : Nat, ¬ A q → t.heap[q]? = st.heap[q]?
abbrev rmc (f lo : Nat) : Room := { frames := f, cells := 0, slots := 0, locals := lo }
/-- returns v, changes nothing -/
def CP (l : Launch) (y : MethodName) (cc : ByteArray) (maxL : Nat) (ret : Option FieldType) (f lo : Nat) (g : Gt) (As : List Value) (P : Heap → Prop) (v : Option Value) : Prop :=
  Met l y (.code y cc maxL ret :: AL) (rmc f lo) (Pcc As P g) (PQ v) 0 0 (fun _ => False)
/-- returns v, changes cells of A alone, makes none; then P' -/
def CH (l : Launch) (y : MethodName) (cc : ByteArray) (maxL : Nat) (ret : Option FieldType) (f lo : Nat) (g : Gt) (As : List Value) (P : Heap → Prop) (v : Option Value) (A : Nat → Prop) (P' : Heap → Prop) : Prop :=
  Met l y (.code y cc maxL ret :: AL) (rmc f lo) (Pcc As P g) (HQ v A P') 0 0 A
def Cx (p : Program) (s : State) (m : MethodId) (args : Array Value) (meth : Method) (c : Code) (cc : ByteArray) (nL : Nat) (own : String) (ret : Option FieldType) (x : Cond) (g : Gt) : Prop :=
  p.tables.exec = Jvm.exec ∧ c.code = cc ∧ c.maxLocals = nL ∧ s.vm.findClass own = some m.cls ∧ (∀ w ∈ x :: AL, w.before args s = true) ∧ meth.sig.returnType = ret ∧ meth.locks = false ∧ KK g s
theorem cp_of {l : Launch} {y : MethodName} {cc : ByteArray} {maxL : Nat} {ret : Option FieldType} {f lo : Nat} {g : Gt} {As : List Value} {P : Heap → Prop} {v : Option Value} (own : String) (hy : plainName y.cls = true) (hown : y.cls = own) (hn : (lg_sl As).length ≤ maxL)
    (body : ∀ (p : Program) (e : Env) (s : State) (m : MethodId) (args : Array Value) (below : List Frame) (meth : Method) (c : Code) (ls : Array Slot), Cx p s m args meth c cc maxL own ret (.code y cc maxL ret) g → P s.heap → lv_has ls maxL (lv_args 0 As) → W p l e (rmc f lo) s m args below meth c s.heap [] 0 0 (MQ below (PQ v) args s 0 0 (fun _ => False)) (F0 m 0 ls [])) : CP l y cc maxL ret f lo g As P v := by
  refine Met.ofW (cc := cc) (maxL := maxL) (ret := ret) hy rfl ?_
  intro p e s m args below meth c s₁ B hml hv
  obtain ⟨rfl, hP, hK⟩ := hv
  rw [lg_entry_eq]
  exact body p e s m _ below meth c _ ⟨B.exec, B.bytes, hml, hown ▸ findClass_of_methodNamed B.named, atoms_spec (ws := .code y cc maxL ret :: AL) B.pre, B.returns, B.notSynchronized, hK⟩ hP (lv_entry As hn)
theorem ch_of {l : Launch} {y : MethodName} {cc : ByteArray} {maxL : Nat} {ret : Option FieldType} {f lo : Nat} {g : Gt} {As : List Value} {P : Heap → Prop} {v : Option Value} {A : Nat → Prop} {P' : Heap → Prop} (own : String) (hy : plainName y.cls = true) (hown : y.cls = own) (hn : (lg_sl As).length ≤ maxL)
    (body : ∀ (p : Program) (e : Env) (s : State) (m : MethodId) (args : Array Value) (below : List Frame) (meth : Method) (c : Code) (ls : Array Slot), Cx p s m args meth c cc maxL own ret (.code y cc maxL ret) g → P s.heap → Fr A s.heap s.heap [] → lv_has ls maxL (lv_args 0 As) → W p l e (rmc f lo) s m args below meth c s.heap [] 0 0 (MQ below (HQ v A P') args s 0 0 A) (F0 m 0 ls [])) : CH l y cc maxL ret f lo g As P v A P' := by
  refine Met.ofW (cc := cc) (maxL := maxL) (ret := ret) hy rfl ?_
  intro p e s m args below meth c s₁ B hml hv
  obtain ⟨rfl, hP, hK⟩ := hv
  rw [lg_entry_eq]
  exact body p e s m _ below meth c _ ⟨B.exec, B.bytes, hml, hown ▸ findClass_of_methodNamed B.named, atoms_spec (ws := .code y cc maxL ret :: AL) B.pre, B.returns, B.notSynchronized, hK⟩ hP Fr.rf (lv_entry As hn)

/-! ===== the class's history: its object, a ring of 14 devices ===== -/
def hofs (h : Nat) (first count : Int) : List Value := [.ref (h + 1), .int (iI first), .int (iI count)]
def hoAt (g : Gt) (h : Nat) (first count : Int) (H : Heap) : Prop := oAt g h 1 (hofs h first count) H
theorem hoAt.o {g : Gt} {h : Nat} {first count : Int} {H : Heap} (q : hoAt g h first count H) : oAt g h 1 (hofs h first count) H := q
theorem hoAt.kept {g : Gt} {h : Nat} {first count : Int} {H H1 : Heap} (q : hoAt g h first count H) (e : H1[h]? = H[h]?) : hoAt g h first count H1 := oAt.kept q e
/-- n devices, one behind the other -/
def fmAt (g : Gt) (b n : Nat) (G : Nat → Nat → Int) (H : Heap) : Prop := ∀ i : Nat, i < n → dvAt g (b + 20 * i) (G i) H
theorem fmAt.kept {g : Gt} {b n : Nat} {G : Nat → Nat → Int} {H H1 : Heap} (h : fmAt g b n G H) (hq : ∀ q : Nat, b ≤ q → q < b + 20 * n → H1[q]? = H[q]?) : fmAt g b n G H1 :=
  fun i hi => (h i hi).kept (fun q h1 h2 => hq q (by omega) (by omega))
theorem fmAt.put {g : Gt} {b n i : Nat} {G : Nat → Nat → Int} {F : Nat → Int} {H H1 : Heap} (h : fmAt g b n G H) (hi : i < n) (hx : dvAt g (b + 20 * i) F H1) (ho : ∀ q : Nat, ¬ Dvp (b + 20 * i) q → H1[q]? = H[q]?) : fmAt g b n (fun j => if j = i then F else G j) H1 := fun j hj => by
  by_cases e : j = i
  · subst e
    simp only [if_true]
    exact hx
  · simp only [if_neg e]
    exact (h j hj).kept (fun q h1 h2 => ho q (not_dvp (by omega)))
theorem fmAt.cg {g : Gt} {b n : Nat} {G G' : Nat → Nat → Int} {H : Heap} (h : fmAt g b n G H) (hg : ∀ i : Nat, i < n → ∀ k : Nat, k < 262 → G i k = G' i k) : fmAt g b n G' H := fun i hi => (h i hi).cg (hg i hi)
def Hip (h q : Nat) : Prop := h ≤ q ∧ q < h + 282
def rmFi (first count : Int) : Int := if count = 14 then (first + 1) % 14 else first
def rmCo (count : Int) : Int := if count = 14 then 14 else count + 1
def rmIx (first count : Int) : Nat := ((rmFi first count + (rmCo count - 1)) % 14).toNat
def rmG (G : Nat → Nat → Int) (first count : Int) (F : Nat → Int) : Nat → Nat → Int := fun j => if j = rmIx first count then F else G j
/-- the ring holds the diary's ac states, from first on -/
def RG (ac : Int) (DIA : Nat → Int) (first : Int) (G : Nat → Nat → Int) : Prop := (0 ≤ ac ∧ ac ≤ 14) ∧ (0 ≤ first ∧ first < 14) ∧ ∀ i : Nat, (i : Int) < ac → ∀ k : Nat, k < 262 → G ((first + i) % 14).toNat k = DIA (262 * i + k)
theorem RG.mem {ac first : Int} {DIA : Nat → Int} {G : Nat → Nat → Int} (h : RG ac DIA first G) (F : Nat → Int) : RG (remA ac) (rem DIA F ac) (rmFi first ac) (rmG G first ac F) := by
  obtain ⟨h1, h2, h3⟩ := h
  unfold remA rem rmFi
  by_cases e : ac = 14
  · subst e
    simp only [if_true]
    refine ⟨by omega, by omega, fun i hi k hk => ?_⟩
    have eI : rmIx first 14 = ((first + 1) % 14 + 13).toNat % 14 := by unfold rmIx rmFi rmCo; simp only [if_true]; omega
    unfold rmG
    by_cases e : i = 13
    · rw [if_pos (by rw [eI]; omega), cpy_in _ _ (by omega)]
      exact congrArg F (by omega)
    · rw [if_neg (by rw [eI]; omega), cpy_out _ _ (by omega), cpy_in _ _ (by omega)]
      have := h3 (i + 1) (by omega) k hk
      rw [show ((first + 1) % 14 + (i : Int)) % 14 = (first + ((i + 1 : Nat) : Int)) % 14 by omega, this]
      exact congrArg DIA (by omega)
  · simp only [if_neg e]
    refine ⟨by omega, by omega, fun i hi k hk => ?_⟩
    have eI : rmIx first ac = ((first + ac) % 14).toNat := by unfold rmIx rmFi rmCo; simp only [if_neg e]; congr 2; omega
    unfold rmG
    by_cases e : (i : Int) = ac
    · rw [if_pos (by rw [eI]; omega), cpy_in _ _ (by omega)]
      exact congrArg F (by omega)
    · rw [if_neg (by rw [eI]; omega), cpy_out _ _ (by omega)]
      exact h3 i (by omega) k hk
theorem RG.back {ac first : Int} {DIA : Nat → Int} {G : Nat → Nat → Int} (h : RG ac DIA first G) (h0 : 0 < ac) : RG (ac - 1) DIA first G ∧ ∀ k : Nat, k < 262 → G ((first + (ac - 1)) % 14).toNat k = DIA (262 * (ac - 1).toNat + k) := by
  obtain ⟨h1, h2, h3⟩ := h
  refine ⟨⟨by omega, h2, fun i hi k hk => h3 i (by omega) k hk⟩, fun k hk => ?_⟩
  have := h3 (ac - 1).toNat (by omega) k hk
  rw [← this, show first + (((ac - 1).toNat : Nat) : Int) = first + (ac - 1) by omega]
theorem RG.clear {ac first : Int} {DIA : Nat → Int} {G : Nat → Nat → Int} (h : RG ac DIA first G) : RG 0 DIA first G := ⟨by omega, h.2.1, fun i hi => by omega⟩

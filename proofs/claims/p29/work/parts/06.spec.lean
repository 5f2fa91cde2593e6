/-! ===== what the numbers of a device tell: F 0 the spaces, F 1 the clock, of space s at 2 + 52 * s: 0 floor, 1 ceiling, 2 own, 3 common, 4 recalls, 5 lost, 6 refused, 7 + l the loans from l, 12 + p the time of page p ===== -/
def sumI (f : Nat → Int) : Nat → Int
  | 0 => 0
  | n + 1 => sumI f n + f n
def S5 (F : Nat → Int) (k : Nat) : Int := sumI (fun s => F (2 + 52 * s + k)) 5
def borr (F : Nat → Int) (s : Nat) : Int := sumI (fun l => F (2 + 52 * s + (7 + l))) 5
def tk (F : Nat → Int) (s : Nat) : Int := F (2 + 52 * s + 2) + F (2 + 52 * s + 3) + borr F s
def idle (F : Nat → Int) (s : Nat) : Int := F (2 + 52 * s + 0) - F (2 + 52 * s + 2) - S5 F (7 + s)
def free (F : Nat → Int) : Int := 60 - S5 F 0 - S5 F 3
def tkA (F : Nat → Int) : Int := sumI (tk F) 5
def borrA (F : Nat → Int) : Int := sumI (borr F) 5
def Sm (F : Nat → Int) : Prop := (∀ k, k < 262 → 0 ≤ F k ∧ F k ≤ 1000000) ∧ F 0 ≤ 5
def Zr (F : Nat → Int) : Prop := ∀ s k : Nat, F 0 ≤ (s : Int) → s < 5 → k < 52 → F (2 + 52 * s + k) = 0
/-- the space, but for two, whose floor is idle by most -/
def lnd (F : Nat → Int) (x y : Nat) : Nat → Int
  | 0 => -1
  | i + 1 => if i ≠ x ∧ i ≠ y ∧ 0 < idle F i ∧ (lnd F x y i = -1 ∨ idle F (lnd F x y i).toNat < idle F i) then (i : Int) else lnd F x y i
def lender (F : Nat → Int) (x y : Nat) : Int := lnd F x y (F 0).toNat
/-- the page of the least time above t -/
def oa (F : Nat → Int) (s : Nat) (t : Int) : Nat → Int
  | 0 => -1
  | p + 1 => if t < F (2 + 52 * s + (12 + p)) ∧ (oa F s t p = -1 ∨ F (2 + 52 * s + (12 + p)) < F (2 + 52 * s + (12 + (oa F s t p).toNat))) then (p : Int) else oa F s t p
/-- the space that has most loans of l -/
def mo (F : Nat → Int) (l : Nat) : Nat → Nat
  | 0 => 0
  | i + 1 => if F (2 + 52 * mo F l i + (7 + l)) < F (2 + 52 * i + (7 + l)) then i else mo F l i
def gb (F : Nat → Int) (l : Nat) : Nat → Int
  | 0 => -1
  | i + 1 => if (if gb F l i = -1 then 0 else F (2 + 52 * (gb F l i).toNat + (7 + l))) < F (2 + 52 * i + (7 + l)) then (i : Int) else gb F l i
/-- the one from which s has most loans -/
def mf (F : Nat → Int) (s : Nat) : Nat → Nat
  | 0 => 0
  | i + 1 => if F (2 + 52 * s + (7 + mf F s i)) < F (2 + 52 * s + (7 + i)) then i else mf F s i
def gl (F : Nat → Int) (s : Nat) : Nat → Int
  | 0 => -1
  | i + 1 => if (if gl F s i = -1 then 0 else F (2 + 52 * s + (7 + (gl F s i).toNat))) < F (2 + 52 * s + (7 + i)) then (i : Int) else gl F s i
/-- the page that is the i-th by its time -/
def pba (F : Nat → Int) (s : Nat) : Nat → Int
  | 0 => oa F s 0 40
  | k + 1 => if pba F s k = -1 then -1 else oa F s (F (2 + 52 * s + (12 + (pba F s k).toNat))) 40
theorem sumI_cg {f f' : Nat → Int} : ∀ {n : Nat}, (∀ k, k < n → f k = f' k) → sumI f n = sumI f' n
  | 0, _ => rfl
  | n + 1, h => by rw [sumI, sumI, sumI_cg (fun k hk => h k (by omega)), h n (by omega)]
theorem sumI_b {f : Nat → Int} {M : Int} : ∀ {n : Nat}, (∀ k, k < n → 0 ≤ f k ∧ f k ≤ M) → 0 ≤ sumI f n ∧ sumI f n ≤ n * M
  | 0, _ => by simp [sumI]
  | n + 1, h => by
    have h1 := sumI_b (f := f) (n := n) (fun k hk => h k (by omega))
    have h2 := h n (by omega)
    have e : ((n + 1 : Nat) : Int) * M = (n : Int) * M + M := by rw [Int.natCast_add, Int.add_mul]; simp
    rw [sumI, e]
    omega
theorem sumI_5 (f : Nat → Int) : sumI f 5 = f 0 + f 1 + f 2 + f 3 + f 4 := by simp [sumI]
theorem sumI_z {f : Nat → Int} {n : Nat} : ∀ {k : Nat}, (∀ j, n ≤ j → j < n + k → f j = 0) → sumI f (n + k) = sumI f n
  | 0, _ => rfl
  | k + 1, h => by
    show sumI f (n + k) + f (n + k) = _
    rw [sumI_z (fun j h1 h2 => h j h1 (by omega)), h (n + k) (by omega) (by omega)]
    omega
theorem sumI_n5 {f : Nat → Int} {n : Nat} (hn : n ≤ 5) (h : ∀ j, n ≤ j → j < 5 → f j = 0) : sumI f n = sumI f 5 := by
  have := sumI_z (f := f) (n := n) (k := 5 - n) (fun j h1 h2 => h j h1 (by omega))
  rw [show n + (5 - n) = 5 by omega] at this
  exact this.symm
section SPEC
variable {F : Nat → Int}
theorem Sm.n (h : Sm F) : 0 ≤ F 0 ∧ F 0 ≤ 5 := ⟨(h.1 0 (by omega)).1, h.2⟩
theorem Sm.f (h : Sm F) (s k : Nat) (hs : s < 5) (hk : k < 52) : 0 ≤ F (2 + 52 * s + k) ∧ F (2 + 52 * s + k) ≤ 1000000 := h.1 _ (by omega)
theorem S5_b (h : Sm F) (k : Nat) (hk : k < 52) : 0 ≤ S5 F k ∧ S5 F k ≤ 5000000 := by
  have := sumI_b (f := fun s => F (2 + 52 * s + k)) (n := 5) (M := 1000000) (fun s hs => h.f s k hs hk)
  unfold S5
  omega
theorem borr_b (h : Sm F) (s : Nat) (hs : s < 5) : 0 ≤ borr F s ∧ borr F s ≤ 5000000 := by
  have := sumI_b (f := fun l => F (2 + 52 * s + (7 + l))) (n := 5) (M := 1000000) (fun l hl => h.f s (7 + l) hs (by omega))
  unfold borr
  omega
theorem tk_b (h : Sm F) (s : Nat) (hs : s < 5) : 0 ≤ tk F s ∧ tk F s ≤ 7000000 := by
  have := borr_b h s hs
  have := h.f s 2 hs (by omega)
  have := h.f s 3 hs (by omega)
  unfold tk
  omega
theorem idle_b (h : Sm F) (s : Nat) (hs : s < 5) : -10000000 ≤ idle F s ∧ idle F s ≤ 1000000 := by
  have := S5_b h (7 + s) (by omega)
  have := h.f s 0 hs (by omega)
  have := h.f s 2 hs (by omega)
  unfold idle
  omega
theorem free_b (h : Sm F) : -10000000 ≤ free F ∧ free F ≤ 60 := by
  have := S5_b h 0 (by omega)
  have := S5_b h 3 (by omega)
  unfold free
  omega
theorem tkA_b (h : Sm F) : 0 ≤ tkA F ∧ tkA F ≤ 35000000 := by
  have := sumI_b (f := tk F) (n := 5) (M := 7000000) (fun s hs => tk_b h s hs)
  unfold tkA
  omega
theorem S5_n (h : Sm F) (z : Zr F) (k : Nat) (hk : k < 52) : sumI (fun s => F (2 + 52 * s + k)) (F 0).toNat = S5 F k := by
  have := h.n
  exact sumI_n5 (by omega) (fun j h1 h2 => z j k (by omega) h2 hk)
theorem tk_z (h : Sm F) (z : Zr F) {s : Nat} (h1 : F 0 ≤ (s : Int)) (h2 : s < 5) : tk F s = 0 := by
  have e : borr F s = 0 := by
    unfold borr
    rw [sumI_5, z s _ h1 h2 (by omega), z s _ h1 h2 (by omega), z s _ h1 h2 (by omega), z s _ h1 h2 (by omega), z s _ h1 h2 (by omega)]
    rfl
  unfold tk
  rw [e, z s _ h1 h2 (by omega), z s _ h1 h2 (by omega)]
  rfl
theorem borr_z (h : Sm F) (z : Zr F) {s : Nat} (h1 : F 0 ≤ (s : Int)) (h2 : s < 5) : borr F s = 0 := by
  unfold borr
  rw [sumI_5, z s _ h1 h2 (by omega), z s _ h1 h2 (by omega), z s _ h1 h2 (by omega), z s _ h1 h2 (by omega), z s _ h1 h2 (by omega)]
  rfl
theorem tkA_n (h : Sm F) (z : Zr F) : sumI (tk F) (F 0).toNat = tkA F := by
  have := h.n
  exact sumI_n5 (by omega) (fun j h1 h2 => tk_z h z (by omega) h2)
theorem borrA_n (h : Sm F) (z : Zr F) : sumI (borr F) (F 0).toNat = borrA F := by
  have := h.n
  exact sumI_n5 (by omega) (fun j h1 h2 => borr_z h z (by omega) h2)
theorem lnd_b (x y : Nat) : ∀ i : Nat, -1 ≤ lnd F x y i ∧ lnd F x y i < i
  | 0 => by simp [lnd]
  | i + 1 => by
    have := lnd_b x y i
    unfold lnd
    split <;> omega
theorem lnd_i (x y : Nat) : ∀ i : Nat, lnd F x y i ≠ -1 → 0 < idle F (lnd F x y i).toNat
  | 0 => by simp [lnd]
  | i + 1 => by
    have h0 := lnd_i x y i
    intro h
    unfold lnd at h ⊢
    split
    · rename_i q
      simpa using q.2.2.1
    · rename_i q
      rw [if_neg q] at h
      exact h0 h
theorem oa_b (s : Nat) (t : Int) : ∀ p : Nat, -1 ≤ oa F s t p ∧ oa F s t p < p
  | 0 => by simp [oa]
  | p + 1 => by
    have := oa_b s t p
    unfold oa
    split <;> omega
theorem mo_b (l : Nat) : ∀ i : Nat, mo F l i ≤ i - 1
  | 0 => by simp [mo]
  | i + 1 => by
    have := mo_b l i
    unfold mo
    split <;> omega
theorem mf_b (s : Nat) : ∀ i : Nat, mf F s i ≤ i - 1
  | 0 => by simp [mf]
  | i + 1 => by
    have := mf_b s i
    unfold mf
    split <;> omega
theorem gb_b (l : Nat) : ∀ i : Nat, -1 ≤ gb F l i ∧ gb F l i < i
  | 0 => by simp [gb]
  | i + 1 => by
    have := gb_b l i
    unfold gb
    split <;> omega
theorem gl_b (s : Nat) : ∀ i : Nat, -1 ≤ gl F s i ∧ gl F s i < i
  | 0 => by simp [gl]
  | i + 1 => by
    have := gl_b s i
    unfold gl
    split <;> omega
theorem pba_b (s : Nat) : ∀ k : Nat, -1 ≤ pba F s k ∧ pba F s k < 40
  | 0 => oa_b s 0 40
  | k + 1 => by
    unfold pba
    split
    · omega
    · exact oa_b s _ 40
end SPEC

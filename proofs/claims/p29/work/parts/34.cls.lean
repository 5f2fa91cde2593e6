/-! ===== the class's text: its object, n signs of TX ===== -/
theorem nar_ch {x : Int} (h : 0 ≤ x ∧ x < 65536) : narrow .char (.int (iI x)) = .int (iI x) := by
  obtain ⟨q, rfl⟩ := Int.eq_ofNat_of_zero_le h.1
  have hq : q < 65536 := by omega
  have e : (iI (q : Int)).toUInt32.toUInt16.toUInt32.toInt32 = iI (q : Int) := by
    apply Int32.toBitVec_inj.mp
    show BitVec.setWidth 32 (BitVec.setWidth 16 (BitVec.ofInt 32 (q : Int))) = BitVec.ofInt 32 (q : Int)
    rw [BitVec.ofInt_natCast]
    apply BitVec.eq_of_toNat_eq
    simp only [BitVec.toNat_setWidth, BitVec.toNat_ofNat]
    omega
  exact congrArg Value.int e
def txfs (t : Nat) (N : Int) : List Value := [.int (iI N), .ref (t + 1)]
def txAt (g : Gt) (t : Nat) (N : Int) (H : Heap) : Prop := oAt g t 2 (txfs t N) H
theorem txAt.o {g : Gt} {t : Nat} {N : Int} {H : Heap} (h : txAt g t N H) : oAt g t 2 (txfs t N) H := h
theorem txAt.kept {g : Gt} {t : Nat} {N : Int} {H H1 : Heap} (h : txAt g t N H) (hq : H1[t]? = H[t]?) : txAt g t N H1 := oAt.kept h hq
theorem txAt.put {g : Gt} {t : Nat} {N x : Int} {H H1 : Heap} (h : txAt g t N H) (h1 : oAt g t 2 ((txfs t N).set 0 (.int (iI x))) H1) (ho : ∀ b : Nat, b ≠ t → H1[b]? = H[b]?) : txAt g t x H1 := h1
def sgn (TX : Nat → Int) (n : Nat) (x : Int) : Int := if 0 ≤ x ∧ x < n then TX x.toNat else 32
theorem sgn_b {TX : Nat → Int} (hTX : ∀ k : Nat, k < 120 → 0 ≤ TX k ∧ TX k ≤ 255) {n : Nat} (hn : n ≤ 120) (x : Int) : 0 ≤ sgn TX n x ∧ sgn TX n x ≤ 255 := by
  unfold sgn
  split
  · exact hTX _ (by omega)
  · omega
abbrev isD (TX : Nat → Int) (n : Nat) (x : Int) : Prop := 48 ≤ sgn TX n x ∧ sgn TX n x ≤ 57
/-- the number of the figures among d signs from x on -/
def nuV (TX : Nat → Int) (n : Nat) (x : Int) : Nat → Int
  | 0 => 0
  | k + 1 => if isD TX n (x + k) then 10 * nuV TX n x k + sgn TX n (x + k) - 48 else nuV TX n x k
theorem nuV_b (TX : Nat → Int) (n : Nat) (x : Int) : (0 ≤ nuV TX n x 0 ∧ nuV TX n x 0 ≤ 0) ∧ (0 ≤ nuV TX n x 1 ∧ nuV TX n x 1 ≤ 9) ∧ (0 ≤ nuV TX n x 2 ∧ nuV TX n x 2 ≤ 99) := by
  have h1 : 0 ≤ nuV TX n x 1 ∧ nuV TX n x 1 ≤ 9 := by
    simp only [nuV]
    split <;> omega
  refine ⟨⟨Int.le_refl _, Int.le_refl _⟩, h1, ?_⟩
  rw [show (2 : Nat) = 1 + 1 from rfl, nuV]
  split <;> omega
/-- whether a sign fits a place -/
def ftP (TX : Nat → Int) (n : Nat) (c x : Int) : Int :=
  if c = 68 then pI (sgn TX n x = 68) else if ¬ isD TX n x then 0
  else if c = 83 then pI (nuV TX n x 1 < 5) else if c = 80 then pI (10 * nuV TX n x 1 < 40) else if c = 112 then pI (nuV TX n (x - 1) 2 < 40)
  else if c = 99 then pI (1 ≤ nuV TX n (x - 1) 2 ∧ nuV TX n (x - 1) 2 ≤ 60) else if c = 102 then pI (nuV TX n (x - 1) 2 ≤ 60) else pI (10 * nuV TX n x 1 ≤ 60)
theorem ftP_b (TX : Nat → Int) (n : Nat) (c x : Int) : 0 ≤ ftP TX n c x ∧ ftP TX n c x ≤ 1 := by
  unfold ftP
  (repeat' split) <;> first | exact pI_rg _ | omega

/-! ===== what the class finds in the text is what the model finds ===== -/
section TEQ
variable {TX : Nat → Int} {n : Nat}
theorem sgn_n {p : Nat} (h : p < n) : sgn TX n (p : Int) = TX p := by
  unfold sgn
  rw [if_pos (by omega), Int.toNat_natCast]
theorem tdg_n {p : Nat} (h : p < n) : tdg TX n p = TX p - 48 := if_pos h
theorem isD_t {p : Nat} (h : p < n) : isD TX n (p : Int) ↔ 0 ≤ tdg TX n p ∧ tdg TX n p ≤ 9 := by
  unfold isD
  rw [sgn_n h, tdg_n h]
  omega
theorem nuV_1 {p : Nat} (h : p < n) (hd : isD TX n (p : Int)) : nuV TX n (p : Int) 1 = tdg TX n p := by
  simp only [nuV]
  rw [Int.natCast_zero, Int.add_zero, if_pos hd, sgn_n h, tdg_n h]
  omega
theorem nuV_2 {p : Nat} (h : p + 1 < n) (h1 : isD TX n (p : Int)) (h2 : isD TX n ((p + 1 : Nat) : Int)) : nuV TX n (((p + 1 : Nat) : Int) - 1) 2 = tdg TX n p * 10 + tdg TX n (p + 1) := by
  have e : ((p + 1 : Nat) : Int) - 1 = (p : Int) := by omega
  rw [e, show (2 : Nat) = 1 + 1 from rfl, nuV]
  have e2 : (p : Int) + ((1 : Nat) : Int) = ((p + 1 : Nat) : Int) := by omega
  rw [e2, if_pos h2, nuV_1 (by omega) h1, sgn_n h, tdg_n h]
  omega
end TEQ
def plc (c : Int) : List Int := if c = 115 then [70, 102, 67, 99] else if c = 119 ∨ c = 116 then [83, 80, 112] else if c = 102 then [83, 70, 102] else if c = 114 then [83, 80, 112, 80, 112] else []
def feR (TX : Nat → Int) (n : Nat) : Nat → Nat → List Int → Int
  | 0, _, rem => if rem = [] then -1 else (n : Int)
  | k + 1, p, rem => if p < n then (match rem with
      | [] => if plc (sgn TX n p) = [] then (p : Int) else feR TX n k (p + 1) (plc (sgn TX n p))
      | c :: cs => if ftP TX n c p = 0 then (p : Int) else feR TX n k (p + 1) cs) else (if rem = [] then -1 else (n : Int))
section TEQ2
variable {TX : Nat → Int} {n : Nat}
theorem pI_z {P Q : Prop} [Decidable P] (h : P ↔ Q) : pI P = 0 ↔ ¬ Q := by rw [pI_0, h]
theorem ft_F {c lo : Int} (hc : c = 70 ∨ c = 67) (hlo : lo ≤ 1) {p : Nat} (h : p < n) : ftP TX n c (p : Int) = 0 ↔ ¬ fok (tdg TX n p) 0 10 lo 60 := by
  unfold ftP
  rw [if_neg (by omega)]
  by_cases hd : isD TX n (p : Int)
  · rw [if_neg (fun q => q hd), if_neg (by omega), if_neg (by omega), if_neg (by omega), if_neg (by omega), if_neg (by omega), nuV_1 h hd]
    have := (isD_t h).mp hd
    exact pI_z (by unfold fok; omega)
  · rw [if_pos hd]
    have := mt (isD_t h).mpr hd
    unfold fok
    omega
theorem ft_P {p : Nat} (h : p < n) : ftP TX n 80 (p : Int) = 0 ↔ ¬ fok (tdg TX n p) 0 10 0 39 := by
  unfold ftP
  rw [if_neg (by omega)]
  by_cases hd : isD TX n (p : Int)
  · rw [if_neg (fun q => q hd), if_neg (by omega), if_pos rfl, nuV_1 h hd]
    have := (isD_t h).mp hd
    exact pI_z (by unfold fok; omega)
  · rw [if_pos hd]
    have := mt (isD_t h).mpr hd
    unfold fok
    omega
theorem ft_S {p : Nat} (h : p < n) : ftP TX n 83 (p : Int) = 0 ↔ ¬ fok (tdg TX n p) 0 1 0 4 := by
  unfold ftP
  rw [if_neg (by omega)]
  by_cases hd : isD TX n (p : Int)
  · rw [if_neg (fun q => q hd), if_pos rfl, nuV_1 h hd]
    have := (isD_t h).mp hd
    exact pI_z (by unfold fok; omega)
  · rw [if_pos hd]
    have := mt (isD_t h).mpr hd
    unfold fok
    omega
theorem ft_2 {c lo hi : Int} (hc : (c = 112 ∧ lo = 0 ∧ hi = 39) ∨ (c = 99 ∧ lo = 1 ∧ hi = 60) ∨ (c = 102 ∧ lo = 0 ∧ hi = 60)) {p : Nat} (h : p + 1 < n) (h1 : isD TX n (p : Int)) : ftP TX n c ((p + 1 : Nat) : Int) = 0 ↔ ¬ fok (tdg TX n (p + 1)) (tdg TX n p * 10) 1 lo hi := by
  unfold ftP
  rw [if_neg (by omega)]
  have g1 := (isD_t (TX := TX) (n := n) (p := p) (by omega)).mp h1
  by_cases hd : isD TX n ((p + 1 : Nat) : Int)
  · rw [if_neg (fun q => q hd), if_neg (by omega), if_neg (by omega)]
    have g2 := (isD_t h).mp hd
    rw [nuV_2 h h1 hd]
    rcases hc with ⟨e, e2, e3⟩ | ⟨e, e2, e3⟩ | ⟨e, e2, e3⟩
    · rw [if_pos e]
      exact pI_z (by unfold fok; omega)
    · rw [if_neg (by omega), if_pos e]
      exact pI_z (by unfold fok; omega)
    · rw [if_neg (by omega), if_neg (by omega), if_pos e]
      exact pI_z (by unfold fok; omega)
  · rw [if_pos hd]
    have := mt (isD_t h).mpr hd
    unfold fok
    omega
end TEQ2
section TEQ3
variable {TX : Nat → Int} {n : Nat}
theorem fe_c (k p : Nat) (c : Int) (cs : List Int) : feR TX n (k + 1) p (c :: cs) = if p < n then (if ftP TX n c p = 0 then (p : Int) else feR TX n k (p + 1) cs) else (n : Int) := by
  simp [feR]
theorem tdg_o {p : Nat} (h : ¬ p < n) : tdg TX n p = -1 := if_neg h
theorem fe_2 {c1 c2 lo hi : Int} (hF : ∀ p : Nat, p < n → (ftP TX n c1 (p : Int) = 0 ↔ ¬ fok (tdg TX n p) 0 10 lo hi)) (h2 : ∀ p : Nat, p + 1 < n → isD TX n (p : Int) → (ftP TX n c2 ((p + 1 : Nat) : Int) = 0 ↔ ¬ fok (tdg TX n (p + 1)) (tdg TX n p * 10) 1 lo hi)) {b : Int} (hb : b ≠ -1) {p : Nat} (k : Nat) (hp : p ≤ n) (cs : List Int) :
    feR TX n (k + 1 + 1) p (c1 :: c2 :: cs) = if fgV TX n b 2 lo hi p = -1 then (fgP TX n b 2 lo hi p : Int) else feR TX n k (p + 2) cs := by
  rw [fe_c, fe_c]
  unfold fgV fgP
  rw [if_neg hb, if_neg hb, if_pos rfl, if_pos rfl]
  by_cases h : p < n
  · rw [if_pos h]
    by_cases q : fok (tdg TX n p) 0 10 lo hi
    · rw [if_neg (fun z => (hF p h).mp z q), if_pos q, if_pos q]
      by_cases h' : p + 1 < n
      · rw [if_pos h']
        have e := h2 p h' ((isD_t h).mpr q.1)
        by_cases q2 : fok (tdg TX n (p + 1)) (tdg TX n p * 10) 1 lo hi
        · rw [if_neg (fun z => e.mp z q2), if_pos q2, if_pos q2, if_neg (by have := q.1; have := q2.1; omega)]
        · rw [if_pos (e.mpr q2), if_neg q2, if_neg q2, if_pos rfl]
      · have q2 : ¬ fok (tdg TX n (p + 1)) (tdg TX n p * 10) 1 lo hi := fun z => by
          have := z.1
          rw [tdg_o h'] at this
          omega
        rw [if_neg h', if_neg q2, if_neg q2, if_pos rfl]
        omega
    · rw [if_pos ((hF p h).mpr q), if_neg q, if_neg q, if_pos rfl]
  · have q : ¬ fok (tdg TX n p) 0 10 lo hi := fun z => by
      have := z.1
      rw [tdg_o h] at this
      omega
    rw [if_neg h, if_neg q, if_neg q, if_pos rfl]
    omega
theorem fe_1 {b : Int} (hb : b ≠ -1) {p : Nat} (k : Nat) (hp : p ≤ n) (cs : List Int) : feR TX n (k + 1) p (83 :: cs) = if fgV TX n b 1 0 4 p = -1 then (fgP TX n b 1 0 4 p : Int) else feR TX n k (p + 1) cs := by
  rw [fe_c]
  unfold fgV fgP
  rw [if_neg hb, if_neg hb, if_neg (show ¬ ((1 : Int) = 2) by decide), if_neg (show ¬ ((1 : Int) = 2) by decide)]
  by_cases h : p < n
  · rw [if_pos h]
    by_cases q : fok (tdg TX n p) 0 1 0 4
    · rw [if_neg (fun z => (ft_S h).mp z q), if_pos q, if_pos q, if_neg (by have := q.1; omega)]
    · rw [if_pos ((ft_S h).mpr q), if_neg q, if_neg q, if_pos rfl]
  · have q : ¬ fok (tdg TX n p) 0 1 0 4 := fun z => by
      have := z.1
      rw [tdg_o h] at this
      omega
    rw [if_neg h, if_neg q, if_neg q, if_pos rfl]
    omega
end TEQ3

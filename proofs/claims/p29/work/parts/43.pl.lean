/-! ===== the literals as lists of places ===== -/
def plI (c : Int) : Nat := if c = 115 then 1 else if c = 119 ∨ c = 116 then 2 else if c = 102 then 3 else if c = 114 then 4 else 5
theorem plI_b (c : Int) : 1 ≤ plI c ∧ plI c < 6 := by unfold plI; (repeat' split) <;> omega
def sxS (i : Nat) : List Int := [[68], [70, 102, 67, 99], [83, 80, 112], [83, 70, 102], [83, 80, 112, 80, 112], []].getD i []
theorem sxS_pl (c : Int) : sxS (plI c) = plc c := by
  unfold plI plc
  (repeat' split) <;> rfl
theorem sx_drop (i : Nat) (hi : i < 6) (j : Nat) (hj : j < sxL.getD i 0) : (sxS i).drop j = sxC i j :: (sxS i).drop (j + 1) := by
  have h5 := sx_len i hi
  have key : ∀ i : Nat, i < 6 → ∀ j : Nat, j < 5 → j < sxL.getD i 0 → (sxS i).drop j = sxC i j :: (sxS i).drop (j + 1) := by decide
  exact key i hi j (by omega) hj
theorem sx_dropE (i : Nat) (hi : i < 6) (j : Nat) (hj : sxL.getD i 0 ≤ j) : (sxS i).drop j = [] := by
  have h5 := sx_len i hi
  have key : ∀ i : Nat, i < 6 → (sxS i).length = sxL.getD i 0 := by decide
  exact List.drop_eq_nil_of_le (by rw [key i hi]; exact hj)
theorem sxS_e {i : Nat} (hi : i < 6) (h : sxL.getD i 0 = 0) : sxS i = [] := by
  have := sx_dropE i hi 0 (by omega)
  simpa using this
theorem sxS_ne {i : Nat} (hi : i < 6) (h : ¬ sxL.getD i 0 = 0) : sxS i ≠ [] := by
  have := sx_drop i hi 0 (by omega)
  rw [List.drop_zero] at this
  rw [this]
  simp
theorem fe_n {TX : Nat → Int} {n : Nat} (k p : Nat) : feR TX n (k + 1) p [] = if p < n then (if plc (sgn TX n p) = [] then (p : Int) else feR TX n k (p + 1) (plc (sgn TX n p))) else -1 := by
  simp [feR]
theorem feR_b (TX : Nat → Int) (n : Nat) : ∀ (k p : Nat) (rem : List Int), p ≤ n → -1 ≤ feR TX n k p rem ∧ feR TX n k p rem ≤ n
  | 0, p, rem, h => by
    simp only [feR]
    split <;> omega
  | k + 1, p, [], h => by
    rw [fe_n]
    split
    · have := feR_b TX n k (p + 1) (plc (sgn TX n p)) (by omega)
      split <;> omega
    · omega
  | k + 1, p, c :: cs, h => by
    rw [fe_c]
    split
    · have := feR_b TX n k (p + 1) cs (by omega)
      split <;> omega
    · omega
theorem k_J0_charAtX (l : Launch) (g : Gt) (k : Kt) (i : Nat) (hi : i < 6) (x : Int) (j : Nat) (hx : x = (j : Int)) (hj : j < sxL.getD i 0) : CK l yJ0_charAt_5068e cJ0_charAt_5068e 2 (some .char) 3 64 g k [.ref (k.2.1 i), .int (iI x)] (fun _ => True) (some (.int (iI (sxC i j)))) := by
  subst hx
  exact k_J0_charAt l g k i hi j hj

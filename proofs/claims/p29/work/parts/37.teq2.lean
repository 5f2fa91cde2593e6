section TEQ4
variable {TX : Nat → Int} {n : Nat}
theorem fe_o (k : Nat) {p : Nat} (h : n ≤ p) (rem : List Int) : feR TX n k p rem = if rem = [] then -1 else (n : Int) := by
  cases k with
  | zero => rfl
  | succ k =>
    have q : ¬ p < n := by omega
    cases rem <;> simp [feR, q]
theorem fe_f : ∀ (k k' p : Nat) (rem : List Int), n ≤ p + k → n ≤ p + k' → feR TX n k p rem = feR TX n k' p rem
  | 0, k', p, rem, h, _ => by rw [fe_o 0 (by omega), fe_o k' (by omega)]
  | k + 1, 0, p, rem, _, h => by rw [fe_o (k + 1) (by omega), fe_o 0 (by omega)]
  | k + 1, k' + 1, p, rem, h, h' => by
    by_cases hp : p < n
    · cases rem with
      | nil =>
        simp only [feR, hp, if_true]
        split
        · rfl
        · exact fe_f k k' (p + 1) _ (by omega) (by omega)
      | cons c cs =>
        simp only [feR, hp, if_true]
        split
        · rfl
        · exact fe_f k k' (p + 1) _ (by omega) (by omega)
    · rw [fe_o _ (by omega), fe_o _ (by omega)]
theorem fe_l (k : Nat) {p : Nat} (h : p < n) : feR TX n (k + 1) p [] = if plc (TX p) = [] then (p : Int) else feR TX n k (p + 1) (plc (TX p)) := by
  simp [feR, h, sgn_n h]
theorem fg_2 {b lo hi : Int} {p : Nat} (h : fgV TX n b 2 lo hi p ≠ -1) : fgP TX n b 2 lo hi p = p + 2 ∧ b ≠ -1 := by
  unfold fgV at h
  unfold fgP
  split at h
  · exact absurd rfl h
  · rename_i hb
    rw [if_neg hb]
    rw [if_pos rfl] at h ⊢
    split at h
    · rename_i h1
      rw [if_pos h1]
      split at h
      · rename_i h2
        rw [if_pos h2]
        exact ⟨rfl, hb⟩
      · exact absurd rfl h
    · exact absurd rfl h
theorem fg_1 {b lo hi : Int} {p : Nat} (h : fgV TX n b 1 lo hi p ≠ -1) : fgP TX n b 1 lo hi p = p + 1 ∧ b ≠ -1 := by
  unfold fgV at h
  unfold fgP
  split at h
  · exact absurd rfl h
  · rename_i hb
    rw [if_neg hb]
    rw [if_neg (show ¬ ((1 : Int) = 2) by decide)] at h ⊢
    split at h
    · rename_i h1
      rw [if_pos h1]
      exact ⟨rfl, hb⟩
    · exact absurd rfl h
theorem fg_n {d lo hi : Int} {p : Nat} : fgV TX n (-1) d lo hi p = -1 ∧ fgP TX n (-1) d lo hi p = p := ⟨if_pos rfl, if_pos rfl⟩
end TEQ4

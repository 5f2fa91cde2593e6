/-! ===== the model's object while it reads: refusal, size, acts, spot, out ===== -/
def mdX (g : Gt) (mb : Nat) (a0 a1 a2 a4 a5 : Int) (H : Heap) : Prop := ∃ M : Nat → Int, (∀ k, Rg (M k)) ∧ M 0 = a0 ∧ M 1 = a1 ∧ M 2 = a2 ∧ M 4 = a4 ∧ M 5 = a5 ∧ mdAt g mb M H
theorem rt_end {TX : Nat → Int} {n k p : Nat} {F : Nat → Int} {o : Int} (h : n ≤ p) : rtR TX n k p = -1 ∧ rtF TX n k p F = F ∧ rtO TX n k p F o = o := by
  cases k with
  | zero => exact ⟨rfl, rfl, rfl⟩
  | succ k =>
    simp only [rtR, rtF, rtO]
    rw [if_neg (by omega), if_neg (by omega), if_neg (by omega)]
    exact ⟨rfl, rfl, rfl⟩
theorem rt_ok {TX : Nat → Int} {n k p : Nat} {F : Nat → Int} {o : Int} (h : p < n) (hk : 0 < k) (ho : rcOk TX n p) : rtR TX n k p = rtR TX n (k - 1) (rcP TX n p) ∧ rtF TX n k p F = rtF TX n (k - 1) (rcP TX n p) (rcF TX n p F) ∧ rtO TX n k p F o = rtO TX n (k - 1) (rcP TX n p) (rcF TX n p F) (o + rcD TX n p F) := by
  obtain ⟨k, rfl⟩ : ∃ j, k = j + 1 := ⟨k - 1, by omega⟩
  simp only [rtR, rtF, rtO]
  rw [if_pos h, if_pos ho, if_pos h, if_pos ho, if_pos h, if_pos ho]
  exact ⟨rfl, rfl, rfl⟩
theorem rc_no {TX : Nat → Int} {n p : Nat} {F : Nat → Int} (ho : ¬ rcOk TX n p) : rcF TX n p F = F ∧ rcD TX n p F = 0 := ⟨if_neg ho, if_neg ho⟩
theorem rt_no {TX : Nat → Int} {n k p : Nat} {F : Nat → Int} {o : Int} (h : p < n) (hk : 0 < k) (ho : ¬ rcOk TX n p) : rtR TX n k p = (rcP TX n p : Int) ∧ rtF TX n k p F = F ∧ rtO TX n k p F o = o := by
  obtain ⟨k, rfl⟩ : ∃ j, k = j + 1 := ⟨k - 1, by omega⟩
  simp only [rtR, rtF, rtO]
  rw [if_pos h, if_neg ho, if_pos h, if_neg ho, if_pos h, if_neg ho]
  exact ⟨rfl, rfl, rfl⟩
def zf (R0 : Nat → Int) (i : Nat) : Nat → Int := fun k => if k < i then 0 else R0 k
theorem zf_s (R0 : Nat → Int) (i : Nat) : up (zf R0 i) i 0 = zf R0 (i + 1) := funext fun k => by
  by_cases e : k = i
  · rw [up_e _ _ e]
    unfold zf
    rw [if_pos (by omega)]
  · rw [up_n _ _ e]
    unfold zf
    by_cases q : k < i
    · rw [if_pos q, if_pos (by omega)]
    · rw [if_neg q, if_neg (by omega)]
theorem rtR_b (TX : Nat → Int) (n : Nat) : ∀ k p : Nat, -1 ≤ rtR TX n k p ∧ rtR TX n k p ≤ n
  | 0, p => by simp only [rtR]; omega
  | k + 1, p => by
    have h1 := rtR_b TX n k (rcP TX n p)
    simp only [rtR]
    split
    · rename_i h
      have h2 := rcP_b TX n p h
      split <;> omega
    · omega
theorem txE_b (TX : Nat → Int) (n : Nat) (hn : n ≤ 120) : -1 ≤ txE TX n ∧ txE TX n ≤ 120 := by
  have := rtR_b TX n 120 1
  unfold txE
  split <;> omega

/-! ===== the model's object while it reads: refusal, size, acts, spot, out ===== -/
def mdX (g : Gt) (mb : Nat) (a0 a1 a2 a4 a5 : Int) (H : Heap) : Prop := ∃ M : Nat → Int, (∀ k, Rg (M k)) ∧ M 0 = a0 ∧ M 1 = a1 ∧ M 2 = a2 ∧ M 4 = a4 ∧ M 5 = a5 ∧ mdAt g mb M H
theorem rt_end {TX : Nat → Int} {n k p : Nat} {F : Nat → Int} {o : Int} (h : n ≤ p) : rtR TX n k p = -1 ∧ rtF TX n k p F = F ∧ rtO TX n k p F o = o := by
  cases k with
  | zero => exact ⟨rfl, rfl, rfl⟩
  | succ k =>
    simp only [rtR, rtF, rtO]
    rw [if_neg (by omega), if_neg (by omega), if_neg (by omega)]
    exact ⟨rfl, rfl, rfl⟩
theorem rt_ok {TX : Nat → Int} {n k p : Nat} {F : Nat → Int} {o : Int} (h : p < n) (hk : 0 < k) (ho : rcOk TX n p) : rtR TX n k p = rtR TX n (k - 1) (rcP TX n p) ∧ rtF TX n k p F = rtF TX n (k - 1) (rcP TX n p) (rcF TX n p F) ∧ rtO TX n k p F o = rtO TX n (k - 1) (rcP TX n p) (rcF TX n p F) (o + rcD TX n p F) := by
  obtain ⟨k, rfl⟩ : ∃ j, k = j + 1 := ⟨k - 1, by omega⟩
  simp only [rtR, rtF, rtO]
  rw [if_pos h, if_pos ho, if_pos h, if_pos ho, if_pos h, if_pos ho]
  exact ⟨rfl, rfl, rfl⟩
theorem rc_no {TX : Nat → Int} {n p : Nat} {F : Nat → Int} (ho : ¬ rcOk TX n p) : rcF TX n p F = F ∧ rcD TX n p F = 0 := ⟨if_neg ho, if_neg ho⟩
theorem rt_no {TX : Nat → Int} {n k p : Nat} {F : Nat → Int} {o : Int} (h : p < n) (hk : 0 < k) (ho : ¬ rcOk TX n p) : rtR TX n k p = (rcP TX n p : Int) ∧ rtF TX n k p F = F ∧ rtO TX n k p F o = o := by
  obtain ⟨k, rfl⟩ : ∃ j, k = j + 1 := ⟨k - 1, by omega⟩
  simp only [rtR, rtF, rtO]
  rw [if_pos h, if_neg ho, if_pos h, if_neg ho, if_pos h, if_neg ho]
  exact ⟨rfl, rfl, rfl⟩

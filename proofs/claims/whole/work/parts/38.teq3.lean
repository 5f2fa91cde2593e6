section TEQ5
variable {TX : Nat → Int} {n : Nat}
theorem h_F {c lo : Int} (hc : c = 70 ∨ c = 67) (hlo : lo ≤ 1) : ∀ p : Nat, p < n → (ftP TX n c (p : Int) = 0 ↔ ¬ fok (tdg TX n p) 0 10 lo 60) := fun _ h => ft_F hc hlo h
theorem h_2 {c lo hi : Int} (hc : (c = 112 ∧ lo = 0 ∧ hi = 39) ∨ (c = 99 ∧ lo = 1 ∧ hi = 60) ∨ (c = 102 ∧ lo = 0 ∧ hi = 60)) : ∀ p : Nat, p + 1 < n → isD TX n (p : Int) → (ftP TX n c ((p + 1 : Nat) : Int) = 0 ↔ ¬ fok (tdg TX n (p + 1)) (tdg TX n p * 10) 1 lo hi) := fun _ h h1 => ft_2 hc h h1
theorem h_P : ∀ p : Nat, p < n → (ftP TX n 80 (p : Int) = 0 ↔ ¬ fok (tdg TX n p) 0 10 0 39) := fun _ h => ft_P h
/-- the command s -/
theorem fe_s {p : Nat} (h : p < n) (k : Nat) (hk : n ≤ p + k) (e : TX p = 115) : feR TX n k p [] = if rcOk TX n p then feR TX n k (rcP TX n p) [] else (rcP TX n p : Int) := by
  have eX : rcX TX n p = fgV TX n 0 2 0 60 (p + 1) := by unfold rcX; rw [e]; rfl
  have e1 : rc1P TX n p = fgP TX n 0 2 0 60 (p + 1) := by unfold rc1P; rw [e]; rfl
  have eY : rcY TX n p = fgV TX n (rcX TX n p) 2 1 60 (rc1P TX n p) := by unfold rcY; rw [e]; rfl
  have e2 : rc2P TX n p = fgP TX n (rcX TX n p) 2 1 60 (rc1P TX n p) := by unfold rc2P; rw [e]; rfl
  have eZ : rcZ TX n p = rcY TX n p := if_neg (by omega)
  have eP : rcP TX n p = rc2P TX n p := by unfold rcP rc3P; rw [if_pos (by unfold rcL; omega), if_neg (by omega)]
  have hL : rcL (TX p) := by unfold rcL; omega
  have hpl : plc (TX p) = [70, 102, 67, 99] := by unfold plc; rw [if_pos e]
  rw [fe_f k (k + 2 + 2 + 1) p [] hk (by omega), fe_l (k + 2 + 2) h, hpl, if_neg (by simp), fe_2 (h_F (Or.inl rfl) (by omega)) (h_2 (Or.inr (Or.inr ⟨rfl, rfl, rfl⟩))) (b := 0) (by decide) (k + 2) (by omega), ← eX]
  by_cases hx : rcX TX n p = -1
  · rw [if_pos hx, if_neg (fun q => q.2 (by rw [eZ, eY, hx]; exact fg_n.1)), eP, e2, hx, fg_n.2, e1]
  · rw [if_neg hx]
    have g1 := fg_2 (by rw [← eX]; exact hx)
    have gb := fgP_b TX n 0 2 0 60 (p + 1) (by omega)
    rw [show p + 1 + 2 = rc1P TX n p by rw [e1, g1.1], fe_2 (h_F (Or.inr rfl) (by omega)) (h_2 (Or.inr (Or.inl ⟨rfl, rfl, rfl⟩))) (b := rcX TX n p) hx k (by omega), ← eY]
    by_cases hy : rcY TX n p = -1
    · rw [if_pos hy, if_neg (fun q => q.2 (by rw [eZ]; exact hy)), eP, e2]
    · rw [if_neg hy, if_pos ⟨hL, by rw [eZ]; exact hy⟩]
      have g2 := fg_2 (by rw [← eY]; exact hy)
      rw [show rc1P TX n p + 2 = rcP TX n p by rw [eP, e2, g2.1]]
end TEQ5

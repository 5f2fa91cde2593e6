section TEQ5
variable {TX : Nat → Int} {n : Nat}
theorem h_F {c lo : Int} (hc : c = 70 ∨ c = 67) (hlo : lo ≤ 1) : ∀ p : Nat, p < n → (ftP TX n c (p : Int) = 0 ↔ ¬ fok (tdg TX n p) 0 10 lo 60) := fun _ h => ft_F hc hlo h
theorem h_2 {c lo hi : Int} (hc : (c = 112 ∧ lo = 0 ∧ hi = 39) ∨ (c = 99 ∧ lo = 1 ∧ hi = 60) ∨ (c = 102 ∧ lo = 0 ∧ hi = 60)) : ∀ p : Nat, p + 1 < n → isD TX n (p : Int) → (ftP TX n c ((p + 1 : Nat) : Int) = 0 ↔ ¬ fok (tdg TX n (p + 1)) (tdg TX n p * 10) 1 lo hi) := fun _ h h1 => ft_2 hc h h1
theorem h_P : ∀ p : Nat, p < n → (ftP TX n 80 (p : Int) = 0 ↔ ¬ fok (tdg TX n p) 0 10 0 39) := fun _ h => ft_P h
/-- the command s -/
theorem fe_s {p : Nat} (h : p < n) (k : Nat) (hk : n ≤ p + k) (e : TX p = 115) : feR TX n k p [] = if rcOk TX n p then feR TX n k (rcP TX n p) [] else (rcP TX n p : Int) := by
  have eX : rcX TX n p = fgV TX n 0 2 0 60 (p + 1) := by unfold rcX; rw [e]; rfl
  have e1 : rc1P TX n p = fgP TX n 0 2 0 60 (p + 1) := by unfold rc1P; rw [e]; rfl
  have eY : rcY TX n p = fgV TX n (rcX TX n p) 2 1 60 (rc1P TX n p) := by unfold rcY; rw [e]; rfl
  have e2 : rc2P TX n p = fgP TX n (rcX TX n p) 2 1 60 (rc1P TX n p) := by unfold rc2P; rw [e]; rfl
  have eZ : rcZ TX n p = rcY TX n p := if_neg (by omega)
  have eP : rcP TX n p = rc2P TX n p := by unfold rcP rc3P; rw [if_pos (by unfold rcL; omega), if_neg (by omega)]
  have hL : rcL (TX p) := by unfold rcL; omega
  have hpl : plc (TX p) = [70, 102, 67, 99] := by unfold plc; rw [if_pos e]
  rw [fe_f k (k + 2 + 2 + 1) p [] hk (by omega), fe_l (k + 2 + 2) h, hpl, if_neg (by simp), fe_2 (h_F (Or.inl rfl) (by omega)) (h_2 (Or.inr (Or.inr ⟨rfl, rfl, rfl⟩))) (b := 0) (by decide) (k + 2) (by omega), ← eX]
  by_cases hx : rcX TX n p = -1
  · rw [if_pos hx, if_neg (fun q => q.2 (by rw [eZ, eY, hx]; exact fg_n.1)), eP, e2, hx, fg_n.2, e1]
  · rw [if_neg hx]
    have g1 := fg_2 (by rw [← eX]; exact hx)
    have gb := fgP_b TX n 0 2 0 60 (p + 1) (by omega)
    rw [show p + 1 + 2 = rc1P TX n p by rw [e1, g1.1], fe_2 (h_F (Or.inr rfl) (by omega)) (h_2 (Or.inr (Or.inl ⟨rfl, rfl, rfl⟩))) (b := rcX TX n p) hx k (by omega), ← eY]
    by_cases hy : rcY TX n p = -1
    · rw [if_pos hy, if_neg (fun q => q.2 (by rw [eZ]; exact hy)), eP, e2]
    · rw [if_neg hy, if_pos ⟨hL, by rw [eZ]; exact hy⟩]
      have g2 := fg_2 (by rw [← eY]; exact hy)
      rw [show rc1P TX n p + 2 = rcP TX n p by rw [eP, e2, g2.1]]
theorem fe_w {p : Nat} (h : p < n) (k : Nat) (hk : n ≤ p + k) (e : TX p = 119 ∨ TX p = 116) : feR TX n k p [] = if rcOk TX n p then feR TX n k (rcP TX n p) [] else (rcP TX n p : Int) := by
  have q1 : ¬ TX p = 115 := by omega
  have eX : rcX TX n p = fgV TX n 0 1 0 4 (p + 1) := by unfold rcX; rw [if_neg q1, if_neg q1]
  have e1 : rc1P TX n p = fgP TX n 0 1 0 4 (p + 1) := by unfold rc1P; rw [if_neg q1, if_neg q1]
  have eY : rcY TX n p = fgV TX n (rcX TX n p) 2 0 39 (rc1P TX n p) := by unfold rcY; rw [if_neg q1, if_neg (by omega)]
  have e2 : rc2P TX n p = fgP TX n (rcX TX n p) 2 0 39 (rc1P TX n p) := by unfold rc2P; rw [if_neg q1, if_neg (by omega)]
  have eZ : rcZ TX n p = rcY TX n p := if_neg (by omega)
  have eP : rcP TX n p = rc2P TX n p := by unfold rcP rc3P; rw [if_pos (by unfold rcL; omega), if_neg (by omega)]
  have hL : rcL (TX p) := by unfold rcL; omega
  have hpl : plc (TX p) = [83, 80, 112] := by unfold plc; rw [if_neg q1, if_pos e]
  rw [fe_f k (k + 2 + 1 + 1) p [] hk (by omega), fe_l (k + 2 + 1) h, hpl, if_neg (by simp), fe_1 (b := 0) (by decide) (k + 2) (by omega), ← eX]
  by_cases hx : rcX TX n p = -1
  · rw [if_pos hx, if_neg (fun q => q.2 (by rw [eZ, eY, hx]; exact fg_n.1)), eP, e2, hx, fg_n.2, e1]
  · rw [if_neg hx]
    have g1 := fg_1 (by rw [← eX]; exact hx)
    have gb := fgP_b TX n 0 1 0 4 (p + 1) (by omega)
    rw [show p + 1 + 1 = rc1P TX n p by rw [e1, g1.1], fe_2 h_P (h_2 (Or.inl ⟨rfl, rfl, rfl⟩)) (b := rcX TX n p) hx k (by omega), ← eY]
    by_cases hy : rcY TX n p = -1
    · rw [if_pos hy, if_neg (fun q => q.2 (by rw [eZ]; exact hy)), eP, e2]
    · rw [if_neg hy, if_pos ⟨hL, by rw [eZ]; exact hy⟩]
      have g2 := fg_2 (by rw [← eY]; exact hy)
      rw [show rc1P TX n p + 2 = rcP TX n p by rw [eP, e2, g2.1]]
theorem fe_fl {p : Nat} (h : p < n) (k : Nat) (hk : n ≤ p + k) (e : TX p = 102) : feR TX n k p [] = if rcOk TX n p then feR TX n k (rcP TX n p) [] else (rcP TX n p : Int) := by
  have q1 : ¬ TX p = 115 := by omega
  have eX : rcX TX n p = fgV TX n 0 1 0 4 (p + 1) := by unfold rcX; rw [if_neg q1, if_neg q1]
  have e1 : rc1P TX n p = fgP TX n 0 1 0 4 (p + 1) := by unfold rc1P; rw [if_neg q1, if_neg q1]
  have eY : rcY TX n p = fgV TX n (rcX TX n p) 2 0 60 (rc1P TX n p) := by unfold rcY; rw [if_neg q1, if_pos (Or.inr e)]
  have e2 : rc2P TX n p = fgP TX n (rcX TX n p) 2 0 60 (rc1P TX n p) := by unfold rc2P; rw [if_neg q1, if_pos (Or.inr e)]
  have eZ : rcZ TX n p = rcY TX n p := if_neg (by omega)
  have eP : rcP TX n p = rc2P TX n p := by unfold rcP rc3P; rw [if_pos (by unfold rcL; omega), if_neg (by omega)]
  have hL : rcL (TX p) := by unfold rcL; omega
  have hpl : plc (TX p) = [83, 70, 102] := by unfold plc; rw [if_neg q1, if_neg (by omega), if_pos e]
  rw [fe_f k (k + 2 + 1 + 1) p [] hk (by omega), fe_l (k + 2 + 1) h, hpl, if_neg (by simp), fe_1 (b := 0) (by decide) (k + 2) (by omega), ← eX]
  by_cases hx : rcX TX n p = -1
  · rw [if_pos hx, if_neg (fun q => q.2 (by rw [eZ, eY, hx]; exact fg_n.1)), eP, e2, hx, fg_n.2, e1]
  · rw [if_neg hx]
    have g1 := fg_1 (by rw [← eX]; exact hx)
    have gb := fgP_b TX n 0 1 0 4 (p + 1) (by omega)
    rw [show p + 1 + 1 = rc1P TX n p by rw [e1, g1.1], fe_2 (h_F (Or.inl rfl) (by omega)) (h_2 (Or.inr (Or.inr ⟨rfl, rfl, rfl⟩))) (b := rcX TX n p) hx k (by omega), ← eY]
    by_cases hy : rcY TX n p = -1
    · rw [if_pos hy, if_neg (fun q => q.2 (by rw [eZ]; exact hy)), eP, e2]
    · rw [if_neg hy, if_pos ⟨hL, by rw [eZ]; exact hy⟩]
      have g2 := fg_2 (by rw [← eY]; exact hy)
      rw [show rc1P TX n p + 2 = rcP TX n p by rw [eP, e2, g2.1]]
theorem fe_r {p : Nat} (h : p < n) (k : Nat) (hk : n ≤ p + k) (e : TX p = 114) : feR TX n k p [] = if rcOk TX n p then feR TX n k (rcP TX n p) [] else (rcP TX n p : Int) := by
  have q1 : ¬ TX p = 115 := by omega
  have eX : rcX TX n p = fgV TX n 0 1 0 4 (p + 1) := by unfold rcX; rw [if_neg q1, if_neg q1]
  have e1 : rc1P TX n p = fgP TX n 0 1 0 4 (p + 1) := by unfold rc1P; rw [if_neg q1, if_neg q1]
  have eY : rcY TX n p = fgV TX n (rcX TX n p) 2 0 39 (rc1P TX n p) := by unfold rcY; rw [if_neg q1, if_neg (by omega)]
  have e2 : rc2P TX n p = fgP TX n (rcX TX n p) 2 0 39 (rc1P TX n p) := by unfold rc2P; rw [if_neg q1, if_neg (by omega)]
  have eZ : rcZ TX n p = fgV TX n (rcY TX n p) 2 0 39 (rc2P TX n p) := if_pos e
  have eP : rcP TX n p = fgP TX n (rcY TX n p) 2 0 39 (rc2P TX n p) := by unfold rcP rc3P; rw [if_pos (by unfold rcL; omega), if_pos e]
  have hL : rcL (TX p) := by unfold rcL; omega
  have hpl : plc (TX p) = [83, 80, 112, 80, 112] := by unfold plc; rw [if_neg q1, if_neg (by omega), if_neg (by omega), if_pos e]
  rw [fe_f k (k + 2 + 2 + 1 + 1) p [] hk (by omega), fe_l (k + 2 + 2 + 1) h, hpl, if_neg (by simp), fe_1 (b := 0) (by decide) (k + 2 + 2) (by omega), ← eX]
  by_cases hx : rcX TX n p = -1
  · have hy : rcY TX n p = -1 := by rw [eY, hx]; exact fg_n.1
    rw [if_pos hx, if_neg (fun q => q.2 (by rw [eZ, hy]; exact fg_n.1)), eP, hy, fg_n.2, e2, hx, fg_n.2, e1]
  · rw [if_neg hx]
    have g1 := fg_1 (by rw [← eX]; exact hx)
    have gb := fgP_b TX n 0 1 0 4 (p + 1) (by omega)
    rw [show p + 1 + 1 = rc1P TX n p by rw [e1, g1.1], fe_2 h_P (h_2 (Or.inl ⟨rfl, rfl, rfl⟩)) (b := rcX TX n p) hx (k + 2) (by omega), ← eY]
    by_cases hy : rcY TX n p = -1
    · rw [if_pos hy, if_neg (fun q => q.2 (by rw [eZ, hy]; exact fg_n.1)), eP, hy, fg_n.2, e2]
    · rw [if_neg hy]
      have g2 := fg_2 (by rw [← eY]; exact hy)
      have gb2 := fgP_b TX n (rcX TX n p) 2 0 39 (rc1P TX n p) (by omega)
      rw [show rc1P TX n p + 2 = rc2P TX n p by rw [e2, g2.1], fe_2 h_P (h_2 (Or.inl ⟨rfl, rfl, rfl⟩)) (b := rcY TX n p) hy k (by omega), ← eZ]
      by_cases hz : rcZ TX n p = -1
      · rw [if_pos hz, if_neg (fun q => q.2 hz), eP]
      · rw [if_neg hz, if_pos ⟨hL, hz⟩]
        have g3 := fg_2 (by rw [← eZ]; exact hz)
        rw [show rc2P TX n p + 2 = rcP TX n p by rw [eP, g3.1]]
theorem fe_cmd {p : Nat} (h : p < n) (k : Nat) (hk : n ≤ p + k) : feR TX n k p [] = if rcOk TX n p then feR TX n k (rcP TX n p) [] else (rcP TX n p : Int) := by
  by_cases h1 : TX p = 115
  · exact fe_s h k hk h1
  by_cases h2 : TX p = 119 ∨ TX p = 116
  · exact fe_w h k hk h2
  by_cases h3 : TX p = 102
  · exact fe_fl h k hk h3
  by_cases h4 : TX p = 114
  · exact fe_r h k hk h4
  have hL : ¬ rcL (TX p) := by unfold rcL; omega
  have hpl : plc (TX p) = [] := by unfold plc; rw [if_neg h1, if_neg h2, if_neg h3, if_neg h4]
  rw [if_neg (fun q => hL q.1), show rcP TX n p = p from if_neg hL, fe_f k (k + 1) p [] hk (by omega), fe_l k h, hpl, if_pos rfl]
theorem fe_rt : ∀ (k p K : Nat), n ≤ p + k → n ≤ p + K → rtR TX n k p = feR TX n K p []
  | 0, p, K, h, _ => by rw [fe_o K (by omega), if_pos rfl]; rfl
  | k + 1, p, K, h, hK => by
    simp only [rtR]
    by_cases hp : p < n
    · rw [if_pos hp, fe_cmd hp K hK]
      by_cases ho : rcOk TX n p
      · have hb := (rcP_b TX n p hp).2.2 ho
        rw [if_pos ho, if_pos ho]
        exact fe_rt k _ K (by omega) (by omega)
      · rw [if_neg ho, if_neg ho]
    · rw [if_neg hp, fe_o K (by omega), if_pos rfl]
/-- the error that the model finds is the class's -/
theorem txE_fe (hn : n ≤ 120) : txE TX n = feR TX n 121 0 [68] := by
  have e0 : feR TX n 121 0 [68] = if 0 < n then (if ftP TX n 68 ((0 : Nat) : Int) = 0 then ((0 : Nat) : Int) else feR TX n 120 (0 + 1) []) else (n : Int) := fe_c 120 0 68 []
  rw [e0]
  unfold txE
  by_cases h : 0 < n
  · have e : ftP TX n 68 ((0 : Nat) : Int) = pI (TX 0 = 68) := by
      unfold ftP
      rw [if_pos rfl, sgn_n h]
    rw [if_pos h, e]
    by_cases q : TX 0 = 68
    · rw [if_neg (fun z => by rcases z with z | z; omega; exact z q), pI_t q, if_neg (by decide)]
      exact fe_rt 120 1 120 (by omega) (by omega)
    · rw [if_pos (Or.inr q), pI_f q, if_pos rfl]
      rfl
  · rw [if_pos (Or.inl (by omega)), if_neg h]
    omega
end TEQ5

/-! ===== pure: a command that is allowed, read by the class ===== -/
section PU4
variable {TX : Nat → Int} {n : Nat}
theorem tdg_lt {p : Nat} (h : 0 ≤ tdg TX n p) : p < n := by
  unfold tdg at h
  split at h <;> omega
theorem fg2_ok {b lo hi : Int} {q : Nat} (h : fgV TX n b 2 lo hi q ≠ -1) : q + 1 < n ∧ isD TX n (q : Int) ∧ isD TX n ((q : Int) + 1) ∧ fgV TX n b 2 lo hi q = nuV TX n (q : Int) 2 ∧ fgP TX n b 2 lo hi q = q + 2 ∧ b ≠ -1 := by
  obtain ⟨g1, g2⟩ := fg_2 h
  have e : fgV TX n b 2 lo hi q = tdg TX n q * 10 + tdg TX n (q + 1) ∧ fok (tdg TX n q) 0 10 lo hi ∧ fok (tdg TX n (q + 1)) (tdg TX n q * 10) 1 lo hi := by
    unfold fgV at h ⊢
    rw [if_neg g2, if_pos rfl] at h ⊢
    by_cases c1 : fok (tdg TX n q) 0 10 lo hi
    · rw [if_pos c1] at h ⊢
      by_cases c2 : fok (tdg TX n (q + 1)) (tdg TX n q * 10) 1 lo hi
      · rw [if_pos c2]
        exact ⟨rfl, c1, c2⟩
      · rw [if_neg c2] at h
        exact absurd rfl h
    · rw [if_neg c1] at h
      exact absurd rfl h
  obtain ⟨e1, e2, e3⟩ := e
  have l1 : q < n := tdg_lt e2.1.1
  have l2 : q + 1 < n := tdg_lt e3.1.1
  have d1 := (isD_t (TX := TX) l1).mpr e2.1
  have d2 := (isD_t (TX := TX) l2).mpr e3.1
  have hv := nuV_2 l2 d1 d2
  rw [show ((q + 1 : Nat) : Int) - 1 = (q : Int) by omega] at hv
  refine ⟨l2, d1, ?_, by rw [e1, hv], g1, g2⟩
  rw [show (q : Int) + 1 = ((q + 1 : Nat) : Int) by omega]
  exact d2
theorem fg1_ok {b lo hi : Int} {q : Nat} (h : fgV TX n b 1 lo hi q ≠ -1) : q < n ∧ isD TX n (q : Int) ∧ fgV TX n b 1 lo hi q = nuV TX n (q : Int) 1 ∧ fgP TX n b 1 lo hi q = q + 1 ∧ b ≠ -1 := by
  obtain ⟨g1, g2⟩ := fg_1 h
  have e : fgV TX n b 1 lo hi q = tdg TX n q ∧ fok (tdg TX n q) 0 1 lo hi := by
    unfold fgV at h ⊢
    rw [if_neg g2, if_neg (show ¬ ((1 : Int) = 2) by decide)] at h ⊢
    by_cases c1 : fok (tdg TX n q) 0 1 lo hi
    · rw [if_pos c1]
      exact ⟨rfl, c1⟩
    · rw [if_neg c1] at h
      exact absurd rfl h
  obtain ⟨e1, e2⟩ := e
  have l1 : q < n := tdg_lt e2.1.1
  have d1 := (isD_t (TX := TX) l1).mpr e2.1
  exact ⟨l1, d1, by rw [e1, nuV_1 l1 d1], g1, g2⟩
theorem isD_2 {p a : Nat} (h : isD TX n (p : Int)) (h1 : isD TX n ((p : Int) + 1)) : ∀ q : Nat, p ≤ q → q < p + 2 → isD TX n (q : Int) := fun q h2 h3 => by
  by_cases e : q = p
  · subst e; exact h
  · rw [show (q : Int) = (p : Int) + 1 by omega]; exact h1
/-- the numbers of a command at p, its end, and that figures stand between -/
def cmN (TX : Nat → Int) (n p : Nat) : Prop :=
  rcP TX n p ≤ n ∧ p + 1 < rcP TX n p ∧ (∀ q : Nat, p < q → q < rcP TX n p → isD TX n (q : Int)) ∧ ¬ isD TX n (p : Int) ∧
  (TX p = 115 → rcX TX n p = nuV TX n ((p : Int) + 1) 2 ∧ rcY TX n p = nuV TX n ((p : Int) + 3) 2) ∧
  (TX p ≠ 115 → rcX TX n p = nuV TX n ((p : Int) + 1) 1 ∧ rcY TX n p = nuV TX n ((p : Int) + 2) 2) ∧
  (TX p = 114 → rcZ TX n p = nuV TX n ((p : Int) + 4) 2) ∧ (TX p ≠ 114 → rcZ TX n p = rcY TX n p)
theorem cm_let {p : Nat} (h : p < n) (hL : rcL (TX p)) : ¬ isD TX n (p : Int) := fun q => by
  unfold isD at q
  rw [sgn_n h] at q
  unfold rcL at hL
  omega
theorem cm_ok {p : Nat} (h : p < n) (ho : rcOk TX n p) : cmN TX n p := by
  obtain ⟨hL, hz⟩ := ho
  have hlet := cm_let h hL
  by_cases e : TX p = 115
  · have eX : rcX TX n p = fgV TX n 0 2 0 60 (p + 1) := by unfold rcX; rw [e]; rfl
    have e1 : rc1P TX n p = fgP TX n 0 2 0 60 (p + 1) := by unfold rc1P; rw [e]; rfl
    have eY : rcY TX n p = fgV TX n (rcX TX n p) 2 1 60 (rc1P TX n p) := by unfold rcY; rw [e]; rfl
    have e2 : rc2P TX n p = fgP TX n (rcX TX n p) 2 1 60 (rc1P TX n p) := by unfold rc2P; rw [e]; rfl
    have eZ : rcZ TX n p = rcY TX n p := if_neg (by omega)
    have eP : rcP TX n p = rc2P TX n p := by unfold rcP rc3P; rw [if_pos hL, if_neg (by omega)]
    rw [eZ, eY] at hz
    obtain ⟨a1, a2, a3, a4, a5, a6⟩ := fg2_ok hz
    rw [eX] at a6
    obtain ⟨b1, b2, b3, b4, b5, -⟩ := fg2_ok a6
    rw [← eX] at b4
    rw [← e1] at b5
    rw [← eY, b5] at a4
    rw [← e2, b5] at a5
    rw [b5] at a1 a2 a3
    refine ⟨by omega, by omega, fun q h1 h2 => ?_, hlet, fun _ => ⟨by rw [b4]; congr 1, by rw [a4]; congr 1⟩, fun q => absurd e q, fun q => by omega, fun _ => eZ⟩
    by_cases c : q < p + 3
    · exact isD_2 (a := 0) b2 b3 q (by omega) (by omega)
    · exact isD_2 (a := 0) a2 a3 q (by omega) (by omega)
  · have q1 : ¬ TX p = 115 := e
    have eX : rcX TX n p = fgV TX n 0 1 0 4 (p + 1) := by unfold rcX; rw [if_neg q1, if_neg q1]
    have e1 : rc1P TX n p = fgP TX n 0 1 0 4 (p + 1) := by unfold rc1P; rw [if_neg q1, if_neg q1]
    have eY : ∃ hi : Int, rcY TX n p = fgV TX n (rcX TX n p) 2 0 hi (rc1P TX n p) ∧ rc2P TX n p = fgP TX n (rcX TX n p) 2 0 hi (rc1P TX n p) := ⟨if TX p = 115 ∨ TX p = 102 then 60 else 39, by unfold rcY; rw [if_neg q1], by unfold rc2P; rw [if_neg q1]⟩
    obtain ⟨hi, eY, e2⟩ := eY
    have hY : rcY TX n p ≠ -1 := by
      by_cases r : TX p = 114
      · have eZ : rcZ TX n p = fgV TX n (rcY TX n p) 2 0 39 (rc2P TX n p) := if_pos r
        rw [eZ] at hz
        exact (fg2_ok hz).2.2.2.2.2
      · have eZ : rcZ TX n p = rcY TX n p := if_neg r
        rw [eZ] at hz
        exact hz
    rw [eY] at hY
    obtain ⟨a1, a2, a3, a4, a5, a6⟩ := fg2_ok hY
    rw [eX] at a6
    obtain ⟨b1, b2, b4, b5, -⟩ := fg1_ok a6
    rw [← eX] at b4
    rw [← e1] at b5
    rw [← eY, b5] at a4
    rw [← e2, b5] at a5
    rw [b5] at a1 a2 a3
    have dd : ∀ q : Nat, p < q → q < p + 4 → isD TX n (q : Int) := fun q h1 h2 => by
      by_cases c : q < p + 2
      · rw [show q = p + 1 by omega]; exact b2
      · exact isD_2 (a := 0) a2 a3 q (by omega) (by omega)
    by_cases r : TX p = 114
    · have eZ : rcZ TX n p = fgV TX n (rcY TX n p) 2 0 39 (rc2P TX n p) := if_pos r
      have eP : rcP TX n p = fgP TX n (rcY TX n p) 2 0 39 (rc2P TX n p) := by unfold rcP rc3P; rw [if_pos hL, if_pos r]
      rw [eZ] at hz
      obtain ⟨c1, c2, c3, c4, c5, -⟩ := fg2_ok hz
      rw [← eZ, a5] at c4
      rw [← eP, a5] at c5
      rw [a5] at c1 c2 c3
      refine ⟨by omega, by omega, fun q h1 h2 => ?_, hlet, fun q => absurd q e, fun _ => ⟨by rw [b4]; congr 1, by rw [a4]; congr 1⟩, fun _ => by rw [c4]; congr 1, fun q => absurd r q⟩
      by_cases c : q < p + 4
      · exact dd q h1 c
      · exact isD_2 (a := 0) c2 c3 q (by omega) (by omega)
    · have eZ : rcZ TX n p = rcY TX n p := if_neg r
      have eP : rcP TX n p = rc2P TX n p := by unfold rcP rc3P; rw [if_pos hL, if_neg r]
      exact ⟨by omega, by omega, fun q h1 h2 => dd q h1 (by omega), hlet, fun q => absurd q e, fun _ => ⟨by rw [b4]; congr 1, by rw [a4]; congr 1⟩, fun q => absurd q r, fun _ => eZ⟩
end PU4

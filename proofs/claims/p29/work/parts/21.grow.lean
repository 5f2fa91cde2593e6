/-! ===== a space writes more and more ===== -/
def gF (F : Nat → Int) (s : Nat) : Nat → (Nat → Int)
  | 0 => F
  | k + 1 => needF (gF F s k) s
def gL (F : Nat → Int) (s : Nat) : Nat → Int
  | 0 => -1
  | k + 1 => if gL F s k = -1 then needL (gF F s k) s else gL F s k
def gN (F : Nat → Int) (s : Nat) : Nat → Nat → Nat
  | 0, i => i
  | n + 1, i => if needR (gF F s i) s = 5 then i else gN F s n (i + 1)
def wrL (F : Nat → Int) (s p : Nat) : Int := if 0 < F (2 + 52 * s + (12 + p)) then -1 else needL F s
theorem up_up (F : Nat → Int) (k : Nat) (x y : Int) : up (up F k x) k y = up F k y := funext fun j => by
  by_cases h : j = k
  · rw [up_e _ _ h, up_e _ _ h]
  · rw [up_n _ _ h, up_n _ _ h, up_n _ _ h]
theorem setL_n (M : Nat → Int) : setL M (-1) = M := if_pos rfl
theorem gN_b (F : Nat → Int) (s : Nat) : ∀ n i : Nat, i ≤ gN F s n i ∧ gN F s n i ≤ n + i
  | 0, i => by simp [gN]
  | n + 1, i => by
    have := gN_b F s n (i + 1)
    simp only [gN]
    split <;> omega
theorem setL_gL (M F : Nat → Int) (s k : Nat) : setL (up M 3 (gL F s k)) (needL (gF F s k) s) = up M 3 (gL F s (k + 1)) := by
  simp only [gL]
  unfold setL
  by_cases h : needL (gF F s k) s = -1
  · rw [if_pos h, h]
    by_cases h2 : gL F s k = -1
    · rw [if_pos h2, h2]
    · rw [if_neg h2]
  · rw [if_neg h, up_s, up_up]
theorem needL_5 {F : Nat → Int} (hS : Sm F) (s : Nat) : -1 ≤ needL F s ∧ needL F s < 5 := by
  have h1 := needL_b (F := F) s
  have h2 := mostOf_b hS s
  omega
theorem rg_up {M : Nat → Int} (h : ∀ k, Rg (M k)) {j : Nat} {x : Int} (hx : Rg x) : ∀ k, Rg (up M j x k) := fun k => by
  by_cases e : k = j
  · rw [up_e _ _ e]; exact hx
  · rw [up_n _ _ e]; exact h k
theorem rg_setL {M : Nat → Int} (h : ∀ k, Rg (M k)) {x : Int} (hx : Rg x) : ∀ k, Rg (setL M x k) := by
  unfold setL
  split
  · exact h
  · refine rg_up h ?_
    split
    · exact hx
    · exact h 3
section GROW
variable {F dl : Nat → Int} {T : Int}
theorem J.gr (h : J F dl T) {s : Nat} (hs : s < 5) (hn : (s : Int) < F 0) (hd : ∀ b : Nat, b < 5 → b ≠ s → dl b = 0) : ∀ k : Nat, T + 4 * k ≤ 980000 → ∃ dl' : Nat → Int, (∀ b : Nat, b < 5 → b ≠ s → dl' b = 0) ∧ J (gF F s k) dl' (T + 4 * k) ∧ gF F s k 0 = F 0
  | 0, _ => ⟨dl, hd, h.mono (by omega), rfl⟩
  | k + 1, hk => by
    obtain ⟨dl', h1, h2, h3⟩ := h.gr hs hn hd k (by omega)
    obtain ⟨g1, g2⟩ := h2.need (by omega) hs (by rw [h3]; exact hn) h1
    refine ⟨_, fun b hb hne => ?_, g1.mono (by omega), g2.trans h3⟩
    have := h1 b hb hne
    split
    · omega
    · rw [one_n hne]; omega
theorem gL_5 (h : J F dl T) {s : Nat} (hs : s < 5) (hn : (s : Int) < F 0) (hd : ∀ b : Nat, b < 5 → b ≠ s → dl b = 0) : ∀ k : Nat, T + 4 * k ≤ 980000 → -1 ≤ gL F s k ∧ gL F s k < 5
  | 0, _ => by simp [gL]
  | k + 1, hk => by
    obtain ⟨dl', h1, h2, h3⟩ := h.gr hs hn hd k (by omega)
    have g1 := gL_5 h hs hn hd k (by omega)
    have g2 := needL_5 (h2.S.m (by omega)) s
    simp only [gL]
    split <;> omega
end GROW
theorem wrR_b (F : Nat → Int) (s p : Nat) : 0 ≤ wrR F s p ∧ wrR F s p ≤ 5 := by
  have := needR_b F s
  unfold wrR
  split <;> omega

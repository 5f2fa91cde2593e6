/-! ===== writes, trims, recalls: what the numbers become ===== -/
def inc (F : Nat → Int) (k : Nat) : Nat → Int := up F k (F k + 1)
def dec (F : Nat → Int) (k : Nat) : Nat → Int := up F k (F k - 1)
def mostOf (F : Nat → Int) (l : Nat) : Nat := mo F l (F 0).toNat
def mostFrom (F : Nat → Int) (s : Nat) : Nat := mf F s 5
def least (F : Nat → Int) (s : Nat) : Int := oa F s 0 40
def mn (a b : Int) : Int := if b < a then b else a
def rc1 (F : Nat → Int) (s : Nat) : Nat → Int := inc (dec F (2 + 52 * mostOf F s + (7 + s))) (2 + 52 * s + 4)
def lose (F : Nat → Int) (b : Nat) : Nat → Int := inc (if least F b = -1 then F else up F (2 + 52 * b + (12 + (least F b).toNat)) 0) (2 + 52 * b + 5)
def rehouse (F : Nat → Int) (b s : Nat) : Nat → Int :=
  if 0 < idle F b then inc F (2 + 52 * b + 2) else if 0 < free F then inc F (2 + 52 * b + 3) else if lender F b s = -1 then lose F b else inc F (2 + 52 * b + (7 + (lender F b s).toNat))
def rehouseL (F : Nat → Int) (b s : Nat) : Int := if 0 < idle F b then -1 else if 0 < free F then -1 else if lender F b s = -1 then (b : Int) else -1
def recall (F : Nat → Int) (s : Nat) : Nat → Int := rehouse (rc1 F s) (mostOf F s) s
def recallL (F : Nat → Int) (s : Nat) : Int := rehouseL (rc1 F s) (mostOf F s) s
def needR (F : Nat → Int) (s : Nat) : Int :=
  if F (2 + 52 * s + 1) ≤ tk F s then 5 else if F (2 + 52 * s + 2) < F (2 + 52 * s + 0) then (if 0 < idle F s then 1 else 2) else if 0 < free F then 3 else if lender F s s = -1 then 5 else 4
def needF (F : Nat → Int) (s : Nat) : Nat → Int :=
  if F (2 + 52 * s + 1) ≤ tk F s then F else if F (2 + 52 * s + 2) < F (2 + 52 * s + 0) then inc (if 0 < idle F s then F else recall F s) (2 + 52 * s + 2) else if 0 < free F then inc F (2 + 52 * s + 3) else if lender F s s = -1 then F else inc F (2 + 52 * s + (7 + (lender F s s).toNat))
def needL (F : Nat → Int) (s : Nat) : Int :=
  if F (2 + 52 * s + 1) ≤ tk F s then -1 else if F (2 + 52 * s + 2) < F (2 + 52 * s + 0) then (if 0 < idle F s then -1 else recallL F s) else -1
def tick (F : Nat → Int) (s p : Nat) : Nat → Int := up (inc F 1) (2 + 52 * s + (12 + p)) (inc F 1 1)
def wrR (F : Nat → Int) (s p : Nat) : Int := if 0 < F (2 + 52 * s + (12 + p)) then 0 else needR F s
def wrF (F : Nat → Int) (s p : Nat) : Nat → Int := if 0 < F (2 + 52 * s + (12 + p)) then tick F s p else if needR F s = 5 then inc (needF F s) (2 + 52 * s + 6) else tick (needF F s) s p
def tr1 (F : Nat → Int) (s p : Nat) : Nat → Int := up F (2 + 52 * s + (12 + p)) 0
def unback (F : Nat → Int) (s : Nat) : Nat → Int := if 0 < borr F s then dec F (2 + 52 * s + (7 + mostFrom F s)) else if 0 < F (2 + 52 * s + 3) then dec F (2 + 52 * s + 3) else dec F (2 + 52 * s + 2)
def trF (F : Nat → Int) (s p : Nat) : Nat → Int := unback (tr1 F s p) s
def mkF (F : Nat → Int) (x y : Int) : Nat → Int := up (up (up F (2 + 52 * (F 0).toNat + 0) x) (2 + 52 * (F 0).toNat + 1) y) 0 (F 0 + 1)
abbrev okMk (F : Nat → Int) (x y : Int) : Prop := (0 ≤ x ∧ x ≤ y ∧ 1 ≤ y ∧ y ≤ 60) ∧ F 0 < 5 ∧ x ≤ free F
abbrev okFl (F : Nat → Int) (s : Nat) (v : Int) : Prop := F (2 + 52 * s + 0) - idle F s ≤ v ∧ v ≤ mn (F (2 + 52 * s + 1)) (F (2 + 52 * s + 0) + free F)
abbrev okCe (F : Nat → Int) (s : Nat) (v : Int) : Prop := F (2 + 52 * s + 0) ≤ v ∧ 1 ≤ v ∧ v ≤ 60
/-! ===== what always holds of them ===== -/
def Sn (F : Nat → Int) (M : Int) : Prop := (∀ k, k < 262 → 0 ≤ F k ∧ F k ≤ M) ∧ F 0 ≤ 5
def Cz (F : Nat → Int) : Prop := ∀ s l : Nat, F 0 ≤ (l : Int) → s < 5 → l < 5 → F (2 + 52 * s + (7 + l)) = 0
def Dg (F : Nat → Int) : Prop := ∀ s : Nat, s < 5 → F (2 + 52 * s + (7 + s)) = 0
def Pg (F : Nat → Int) (x : Nat) : Prop := ∀ s : Nat, s < 5 → s ≠ x → 0 < tk F s → least F s ≠ -1
/-- what a walk needs: bounds, nothing beyond the spaces, no loan of itself, a page where there is room -/
def Wk (F : Nat → Int) (x : Nat) (M : Int) : Prop := Sn F M ∧ Zr F ∧ Cz F ∧ Dg F ∧ Pg F x
theorem Sn.m {F : Nat → Int} {M : Int} (h : Sn F M) (hM : M ≤ 1000000) : Sm F := ⟨fun k hk => by have := h.1 k hk; omega, h.2⟩
theorem Sn.mono {F : Nat → Int} {M M' : Int} (h : Sn F M) (hM : M ≤ M') : Sn F M' := ⟨fun k hk => by have := h.1 k hk; omega, h.2⟩
theorem Sn.n {F : Nat → Int} {M : Int} (h : Sn F M) : 0 ≤ F 0 ∧ F 0 ≤ 5 := ⟨(h.1 0 (by omega)).1, h.2⟩
theorem Sn.up {F : Nat → Int} {M x : Int} {k : Nat} (h : Sn F M) (h0 : k ≠ 0) (hx : 0 ≤ x ∧ x ≤ M) : Sn (up F k x) M := by
  refine ⟨fun j hj => ?_, by rw [up_n _ _ (Ne.symm h0)]; exact h.2⟩
  by_cases e : j = k
  · rw [up_e _ _ e]; exact hx
  · rw [up_n _ _ e]; exact h.1 j hj
theorem Sn.inc {F : Nat → Int} {M : Int} {k : Nat} (h : Sn F M) (h0 : k ≠ 0) (hk : k < 262) : Sn (inc F k) (M + 1) := by
  have := h.1 k hk
  exact (h.mono (show M ≤ M + 1 by omega)).up h0 ⟨by omega, by omega⟩
theorem Sn.dec {F : Nat → Int} {M : Int} {k : Nat} (h : Sn F M) (h0 : k ≠ 0) (hk : k < 262) (hp : 0 < F k) : Sn (dec F k) M := by
  have := h.1 k hk
  exact h.up h0 ⟨by omega, by omega⟩
section MB
variable {F : Nat → Int}
theorem gb_mo (hS : Sm F) (l : Nat) (hl : l < 5) : ∀ i : Nat, i ≤ 5 → (gb F l i = -1 ∧ ∀ j, j < i → F (2 + 52 * j + (7 + l)) = 0) ∨ (gb F l i = (mo F l i : Int) ∧ mo F l i < i ∧ 0 < F (2 + 52 * mo F l i + (7 + l)))
  | 0, _ => Or.inl ⟨rfl, fun j h => absurd h (Nat.not_lt_zero j)⟩
  | i + 1, hi => by
    have hi0 := hS.f i (7 + l) (by omega) (by omega)
    rcases gb_mo hS l hl i (by omega) with ⟨h1, h2⟩ | ⟨h1, h2, h3⟩
    · by_cases hp : F (2 + 52 * i + (7 + l)) = 0
      · refine Or.inl ⟨?_, fun j hj => ?_⟩
        · simp only [gb, h1, if_true, hp]
          simp
        · by_cases e : j = i
          · rw [e]; exact hp
          · exact h2 j (by omega)
      · refine Or.inr ?_
        have e0 : mo F l i = 0 ∨ mo F l i < i := by have := mo_b (F := F) l i; omega
        have hm : F (2 + 52 * mo F l i + (7 + l)) < F (2 + 52 * i + (7 + l)) ∨ (i = 0 ∧ mo F l i = 0) := by
          rcases e0 with e0 | e0
          · by_cases hi0 : i = 0
            · exact Or.inr ⟨hi0, e0⟩
            · left; rw [h2 _ (by omega)]; omega
          · left; rw [h2 _ e0]; omega
        have hm1 : mo F l (i + 1) = i := by
          rcases hm with hm | ⟨hm, hm2⟩
          · simp only [mo]; rw [if_pos hm]
          · simp only [mo]; subst hm; split <;> omega
        rw [hm1]
        refine ⟨?_, by omega, by omega⟩
        simp only [gb, h1]
        rw [if_pos (by simp; omega)]
    · refine Or.inr ?_
      simp only [gb, mo, h1]
      rw [if_neg (show ¬ ((mo F l i : Nat) : Int) = -1 by omega), Int.toNat_natCast]
      split
      · refine ⟨rfl, by omega, by omega⟩
      · exact ⟨rfl, by omega, h3⟩
theorem gb_most (hS : Sm F) (hZ : Zr F) {l : Nat} (hl : l < 5) (hp : 0 < S5 F (7 + l)) : gb F l (F 0).toNat = (mostOf F l : Int) ∧ (mostOf F l : Int) < F 0 ∧ 0 < F (2 + 52 * mostOf F l + (7 + l)) := by
  have hn := hS.n
  rcases gb_mo hS l hl (F 0).toNat (by omega) with ⟨-, h2⟩ | ⟨h1, h2, h3⟩
  · exfalso
    have hz : ∀ j, j < 5 → F (2 + 52 * j + (7 + l)) = 0 := fun j hj => by
      by_cases e : j < (F 0).toNat
      · exact h2 j e
      · exact hZ j _ (by omega) hj (by omega)
    unfold S5 at hp
    rw [sumI_5, hz 0 (by omega), hz 1 (by omega), hz 2 (by omega), hz 3 (by omega), hz 4 (by omega)] at hp
    omega
  · exact ⟨h1, by unfold mostOf; omega, h3⟩
theorem gl_mf (hS : Sm F) (s : Nat) (hs : s < 5) : ∀ i : Nat, i ≤ 5 → (gl F s i = -1 ∧ mf F s i = 0 ∧ ∀ j, j < i → F (2 + 52 * s + (7 + j)) = 0) ∨ (gl F s i = (mf F s i : Int) ∧ mf F s i < i ∧ 0 < F (2 + 52 * s + (7 + mf F s i)))
  | 0, _ => Or.inl ⟨rfl, rfl, fun j h => absurd h (Nat.not_lt_zero j)⟩
  | i + 1, hi => by
    have hi0 := hS.f s (7 + i) (by omega) (by omega)
    have h00 := hS.f s (7 + 0) (by omega) (by omega)
    rcases gl_mf hS s hs i (by omega) with ⟨h1, hm, h2⟩ | ⟨h1, h2, h3⟩
    · by_cases hp : F (2 + 52 * s + (7 + i)) = 0
      · refine Or.inl ⟨?_, ?_, fun j hj => ?_⟩
        · simp only [gl, h1, if_true, hp]
          simp
        · simp only [mf, hm, hp]
          split
          · omega
          · rfl
        · by_cases e : j = i
          · rw [e]; exact hp
          · exact h2 j (by omega)
      · refine Or.inr ?_
        have hm1 : mf F s (i + 1) = i := by
          simp only [mf, hm]
          by_cases hi0 : i = 0
          · subst hi0; split <;> rfl
          · rw [h2 0 (by omega), if_pos (by omega)]
        rw [hm1]
        refine ⟨?_, by omega, by omega⟩
        simp only [gl, h1]
        rw [if_pos (by simp; omega)]
    · refine Or.inr ?_
      simp only [gl, mf, h1]
      rw [if_neg (show ¬ ((mf F s i : Nat) : Int) = -1 by omega), Int.toNat_natCast]
      split
      · exact ⟨rfl, by omega, by omega⟩
      · exact ⟨rfl, by omega, h3⟩
theorem gl_n5 (hC : Cz F) (hS : Sm F) (s : Nat) (hs : s < 5) : ∀ k : Nat, (F 0).toNat + k ≤ 5 → gl F s ((F 0).toNat + k) = gl F s (F 0).toNat
  | 0, _ => rfl
  | k + 1, h => by
    have ih := gl_n5 hC hS s hs k (by omega)
    have hn := hS.n
    have hz := hC s ((F 0).toNat + k) (by omega) hs (by omega)
    show gl F s ((F 0).toNat + k + 1) = _
    simp only [gl]
    have hb := gl_b (F := F) s ((F 0).toNat + k)
    rw [if_neg, ih]
    rw [hz]
    split
    · omega
    · have := hS.f s (7 + (gl F s ((F 0).toNat + k)).toNat) hs (by omega)
      omega
theorem gl_pos (hS : Sm F) (hC : Cz F) {s : Nat} (hs : s < 5) (hp : 0 < borr F s) : gl F s (F 0).toNat = (mostFrom F s : Int) ∧ mostFrom F s < 5 ∧ 0 < F (2 + 52 * s + (7 + mostFrom F s)) := by
  have hn := hS.n
  have e := gl_n5 hC hS s hs (5 - (F 0).toNat) (by omega)
  rw [show (F 0).toNat + (5 - (F 0).toNat) = 5 by omega] at e
  rw [← e]
  rcases gl_mf hS s hs 5 (by omega) with ⟨-, -, h2⟩ | h
  · exfalso
    unfold borr at hp
    rw [sumI_5, h2 0 (by omega), h2 1 (by omega), h2 2 (by omega), h2 3 (by omega), h2 4 (by omega)] at hp
    omega
  · exact h
theorem gl_neg (hS : Sm F) (hC : Cz F) {s : Nat} (hs : s < 5) (hp : ¬ 0 < borr F s) : gl F s (F 0).toNat = -1 := by
  have hn := hS.n
  have e := gl_n5 hC hS s hs (5 - (F 0).toNat) (by omega)
  rw [show (F 0).toNat + (5 - (F 0).toNat) = 5 by omega] at e
  rw [← e]
  rcases gl_mf hS s hs 5 (by omega) with ⟨h1, -, -⟩ | ⟨h1, h2, h3⟩
  · exact h1
  · exfalso
    apply hp
    unfold borr
    rw [sumI_5]
    have g0 := hS.f s (7 + 0) hs (by omega)
    have g1 := hS.f s (7 + 1) hs (by omega)
    have g2 := hS.f s (7 + 2) hs (by omega)
    have g3 := hS.f s (7 + 3) hs (by omega)
    have g4 := hS.f s (7 + 4) hs (by omega)
    have : mf F s 5 = 0 ∨ mf F s 5 = 1 ∨ mf F s 5 = 2 ∨ mf F s 5 = 3 ∨ mf F s 5 = 4 := by omega
    rcases this with q | q | q | q | q <;> rw [q] at h3 <;> omega
theorem rc1_S {M : Int} (hS : Sn F M) (hM : M ≤ 999000) (hZ : Zr F) {s : Nat} (hs : s < 5) (hp : 0 < S5 F (7 + s)) : Sn (rc1 F s) (M + 1) := by
  obtain ⟨-, h2, h3⟩ := gb_most (hS.m (by omega)) hZ hs hp
  have hn := hS.n
  exact (hS.dec (by omega) (by omega) h3).inc (by omega) (by omega)
theorem tr1_S {M : Int} (hS : Sn F M) (h0 : 0 ≤ M) (s p : Nat) : Sn (tr1 F s p) M := hS.up (by omega) ⟨Int.le_refl 0, h0⟩
end MB

/-! ===== pure: the page that is the i-th by its time ===== -/
theorem sumI_le {f f' : Nat → Int} : ∀ {n : Nat}, (∀ k, k < n → f k ≤ f' k) → sumI f n ≤ sumI f' n
  | 0, _ => Int.le_refl _
  | n + 1, h => by
    have a := sumI_le (f := f) (f' := f') (n := n) (fun k hk => h k (by omega))
    have b := h n (by omega)
    simp only [sumI]
    omega
theorem sumI_lt {f f' : Nat → Int} {p : Nat} : ∀ {n : Nat}, p < n → (∀ k, k < n → f k ≤ f' k) → f p + 1 ≤ f' p → sumI f n + 1 ≤ sumI f' n
  | 0, h, _, _ => absurd h (Nat.not_lt_zero _)
  | n + 1, hp, h, h1 => by
    simp only [sumI]
    have b := h n (by omega)
    by_cases e : p = n
    · subst e
      have a := sumI_le (f := f) (f' := f') (n := p) (fun k hk => h k (by omega))
      omega
    · have a := sumI_lt (f := f) (f' := f') (n := n) (by omega) (fun k hk => h k (by omega)) h1
      omega
theorem pI_le {P Q : Prop} [Decidable P] [Decidable Q] (h : P → Q) : pI P ≤ pI Q := by
  by_cases hp : P
  · rw [pI_t hp, pI_t (h hp)]
    omega
  · rw [pI_f hp]
    exact (pI_rg Q).1
section PU3
variable {F : Nat → Int} {T : Int} {s : Nat}
theorem oa_min {t : Int} : ∀ {n : Nat}, oa F s t n ≠ -1 → ∀ p, p < n → t < F (2 + 52 * s + (12 + p)) → F (2 + 52 * s + (12 + (oa F s t n).toNat)) ≤ F (2 + 52 * s + (12 + p))
  | 0, h, _, _, _ => absurd rfl h
  | n + 1, h, p, hp, ht => by
    simp only [oa] at h ⊢
    by_cases c : t < F (2 + 52 * s + (12 + n)) ∧ (oa F s t n = -1 ∨ F (2 + 52 * s + (12 + n)) < F (2 + 52 * s + (12 + (oa F s t n).toNat)))
    · rw [if_pos c, Int.toNat_natCast]
      by_cases e : p = n
      · subst e; omega
      · by_cases q : oa F s t n = -1
        · have := oa_none q p (by omega)
          omega
        · have := oa_min q p (by omega) ht
          rcases c.2 with c2 | c2
          · exact absurd c2 q
          · omega
    · rw [if_neg c] at h ⊢
      by_cases e : p = n
      · subst e
        have := oa_b (F := F) s t p
        omega
      · exact oa_min h p (by omega) ht
theorem cb_le {t t' : Int} (h : t ≤ t') (n : Nat) : cb F s t n ≤ cb F s t' n := sumI_le (fun k _ => pI_le (fun q => ⟨q.1, by omega⟩))
theorem cb_lt {t' : Int} {p n : Nat} (hp : p < n) (h0 : 0 < F (2 + 52 * s + (12 + p))) (h : F (2 + 52 * s + (12 + p)) < t') : cb F s (F (2 + 52 * s + (12 + p))) n + 1 ≤ cb F s t' n := by
  refine sumI_lt (p := p) hp (fun k _ => pI_le (fun q => ⟨q.1, by omega⟩)) ?_
  show pI _ + 1 ≤ pI _
  rw [pI_f (by omega), pI_t ⟨h0, h⟩]
  omega
theorem cb_one {t t' : Int} {p n : Nat} (hp : p < n) (h : ∀ q : Nat, q < n → q ≠ p → ((0 < F (2 + 52 * s + (12 + q)) ∧ F (2 + 52 * s + (12 + q)) < t') ↔ (0 < F (2 + 52 * s + (12 + q)) ∧ F (2 + 52 * s + (12 + q)) < t))) (h1 : 0 < F (2 + 52 * s + (12 + p)) ∧ F (2 + 52 * s + (12 + p)) < t') (h2 : ¬ F (2 + 52 * s + (12 + p)) < t) : cb F s t' n = cb F s t n + 1 := by
  unfold cb
  have key : ∀ n : Nat, (∀ q : Nat, q < n → q ≠ p → ((0 < F (2 + 52 * s + (12 + q)) ∧ F (2 + 52 * s + (12 + q)) < t') ↔ (0 < F (2 + 52 * s + (12 + q)) ∧ F (2 + 52 * s + (12 + q)) < t))) → sumI (fun q => pI (0 < F (2 + 52 * s + (12 + q)) ∧ F (2 + 52 * s + (12 + q)) < t')) n = sumI (fun q => pI (0 < F (2 + 52 * s + (12 + q)) ∧ F (2 + 52 * s + (12 + q)) < t)) n + (if p < n then 1 else 0) := fun n => by
    induction n with
    | zero => intro _; rfl
    | succ n ih =>
      intro h
      have a := ih (fun q hq hne => h q (by omega) hne)
      simp only [sumI]
      rw [a]
      by_cases e : n = p
      · subst e
        rw [pI_t h1, pI_f (fun q => h2 q.2), if_neg (by omega), if_pos (by omega)]
      · rw [pI_c (h n (by omega) e)]
        by_cases q : p < n
        · rw [if_pos q, if_pos (by omega)]; omega
        · rw [if_neg q, if_neg (by omega)]; omega
  rw [key n h, if_pos hp]
theorem cb_zero {t : Int} {n : Nat} (h : ∀ q : Nat, q < n → ¬ (0 < F (2 + 52 * s + (12 + q)) ∧ F (2 + 52 * s + (12 + q)) < t)) : cb F s t n = 0 := by
  have h1 : sumI (fun q => pI (0 < F (2 + 52 * s + (12 + q)) ∧ F (2 + 52 * s + (12 + q)) < t)) n = sumI (fun _ => 0) n := sumI_cg (fun q hq => pI_f (h q hq))
  have h2 : ∀ n, sumI (fun _ => 0) n = 0 := fun n => by
    induction n with
    | zero => rfl
    | succ n ih => simp only [sumI, ih]; rfl
  unfold cb
  rw [h1, h2]
theorem pba_c (h : J F z0 T) (hs : s < 5) : ∀ k : Nat, (pba F s k ≠ -1 → 0 < F (2 + 52 * s + (12 + (pba F s k).toNat)) ∧ cb F s (F (2 + 52 * s + (12 + (pba F s k).toNat))) 40 = k) ∧ (pba F s k = -1 → ∀ p, p < 40 → 0 < F (2 + 52 * s + (12 + p)) → cb F s (F (2 + 52 * s + (12 + p))) 40 < k)
  | 0 => by
    simp only [pba]
    refine ⟨fun q => ⟨oa_some q, ?_⟩, fun q p hp h0 => ?_⟩
    · have hm := oa_min q
      rw [cb_zero (fun r hr z => by have := hm r hr z.1; omega)]
      rfl
    · have := oa_none q p hp
      omega
  | k + 1 => by
    obtain ⟨i1, i2⟩ := pba_c h hs k
    have hb := pba_b (F := F) s k
    by_cases c : pba F s k = -1
    · have e : pba F s (k + 1) = -1 := by simp only [pba]; rw [if_pos c]
      refine ⟨fun q => absurd e q, fun _ p hp h0 => ?_⟩
      have := i2 c p hp h0
      omega
    · obtain ⟨j1, j2⟩ := i1 c
      have e : pba F s (k + 1) = oa F s (F (2 + 52 * s + (12 + (pba F s k).toNat))) 40 := by simp only [pba]; rw [if_neg c]
      rw [e]
      generalize hm : (pba F s k).toNat = m at *
      have hm4 : m < 40 := by omega
      refine ⟨fun q => ?_, fun q p hp h0 => ?_⟩
      · have g1 := oa_some q
        have g2 := oa_min q
        refine ⟨by omega, ?_⟩
        rw [cb_one (p := m) (t := F (2 + 52 * s + (12 + m))) hm4 (fun r hr hne => ?_) ⟨j1, g1⟩ (by omega), j2]
        · omega
        · constructor
          · intro z
            refine ⟨z.1, ?_⟩
            have d := h.ds s r m hs hr hm4 hne z.1
            by_cases y : F (2 + 52 * s + (12 + m)) < F (2 + 52 * s + (12 + r))
            · have := g2 r hr y
              omega
            · omega
          · intro z
            exact ⟨z.1, by omega⟩
      · have g1 := oa_none q p hp
        have := cb_le (F := F) (s := s) g1 40
        omega
theorem cb_40 {p : Nat} (hp : p < 40) : cb F s (F (2 + 52 * s + (12 + p))) 40 < 40 := by
  have a := sumI_lt (f := fun q => pI (0 < F (2 + 52 * s + (12 + q)) ∧ F (2 + 52 * s + (12 + q)) < F (2 + 52 * s + (12 + p)))) (f' := fun _ => 1) (p := p) hp (fun k _ => (pI_rg _).2) (by
    show pI _ + 1 ≤ 1
    rw [pI_f (by omega)]
    omega)
  have h2 : ∀ n : Nat, sumI (fun _ => 1) n = n := fun n => by
    induction n with
    | zero => rfl
    | succ n ih => simp only [sumI, ih]; omega
  rw [h2] at a
  unfold cb
  omega
theorem od_none {i : Int} : ∀ k p : Nat, (∀ r : Nat, p ≤ r → r < p + k → ¬ (0 < F (2 + 52 * s + (12 + r)) ∧ cb F s (F (2 + 52 * s + (12 + r))) 40 = i)) → od F s i k p = -1
  | 0, _, _ => rfl
  | k + 1, p, h => by
    simp only [od]
    rw [if_neg (h p (by omega) (by omega))]
    exact od_none k (p + 1) (fun r h1 h2 => h r (by omega) (by omega))
theorem od_one {i : Int} {m : Nat} : ∀ k p : Nat, p ≤ m → m < p + k → (0 < F (2 + 52 * s + (12 + m)) ∧ cb F s (F (2 + 52 * s + (12 + m))) 40 = i) → (∀ r : Nat, p ≤ r → r < p + k → (0 < F (2 + 52 * s + (12 + r)) ∧ cb F s (F (2 + 52 * s + (12 + r))) 40 = i) → r = m) → od F s i k p = (m : Int)
  | 0, _, h1, h2, _, _ => by omega
  | k + 1, p, h1, h2, hm, h => by
    simp only [od]
    by_cases c : 0 < F (2 + 52 * s + (12 + p)) ∧ cb F s (F (2 + 52 * s + (12 + p))) 40 = i
    · rw [if_pos c, h p (by omega) (by omega) c]
    · rw [if_neg c]
      have hne : p ≠ m := fun e => c (by rw [e]; exact hm)
      exact od_one k (p + 1) (by omega) (by omega) hm (fun r g1 g2 => h r (by omega) (by omega))
/-- the class's page by age is the model's -/
theorem od_pba (h : J F z0 T) (hs : s < 5) {y : Int} {k : Nat} (hy : y = (k : Int)) : (if y < 40 then pba F s k else -1) = od F s y 40 0 := by
  subst hy
  by_cases c : (k : Int) < 40
  · rw [if_pos c]
    obtain ⟨i1, i2⟩ := pba_c h hs k
    have hb := pba_b (F := F) s k
    by_cases q : pba F s k = -1
    · rw [q]
      refine (od_none 40 0 (fun r h1 h2 z => ?_)).symm
      have := i2 q r (by omega) z.1
      omega
    · obtain ⟨j1, j2⟩ := i1 q
      have e : pba F s k = (((pba F s k).toNat : Nat) : Int) := by omega
      refine (Eq.trans (od_one 40 0 (m := (pba F s k).toNat) (by omega) (by omega) ⟨j1, j2⟩ (fun r h1 h2 z => ?_)) e.symm).symm
      by_cases y : r = (pba F s k).toNat
      · exact y
      · exfalso
        have d := h.ds s r _ hs (by omega) (show (pba F s k).toNat < 40 by omega) y z.1
        rcases Int.lt_or_gt_of_ne d with d | d
        · have := cb_lt (F := F) (s := s) (n := 40) (by omega) z.1 d
          omega
        · have := cb_lt (F := F) (s := s) (n := 40) (show (pba F s k).toNat < 40 by omega) j1 d
          omega
  · rw [if_neg c]
    refine (od_none 40 0 (fun r h1 h2 z => ?_)).symm
    have := cb_40 (F := F) (s := s) (p := r) (by omega)
    omega
end PU3

/-! ===== what holds of the numbers at any time, and that it stays ===== -/
def pgc (F : Nat → Int) (s : Nat) : Int := sumI (fun p => pI (0 < F (2 + 52 * s + (12 + p)))) 40
def one (s : Nat) : Nat → Int := fun i => if i = s then 1 else 0
theorem one_s (s : Nat) : one s s = 1 := if_pos rfl
theorem one_n {s i : Nat} (h : i ≠ s) : one s i = 0 := if_neg h
/-- by dl the pages of a space are more than the room that backs them -/
def J (F dl : Nat → Int) (T : Int) : Prop :=
  Sn F T ∧ Zr F ∧ Cz F ∧ Dg F ∧ (∀ s : Nat, s < 5 → (s : Int) < F 0 → 1 ≤ F (2 + 52 * s + 1) ∧ F (2 + 52 * s + 1) ≤ 60 ∧ F (2 + 52 * s + 0) ≤ F (2 + 52 * s + 1)) ∧ (∀ s : Nat, s < 5 → 0 ≤ idle F s) ∧ 0 ≤ free F ∧ (∀ s : Nat, s < 5 → pgc F s = tk F s + dl s) ∧ (∀ s p : Nat, s < 5 → p < 40 → F (2 + 52 * s + (12 + p)) ≤ F 1) ∧ ∀ s p q : Nat, s < 5 → p < 40 → q < 40 → p ≠ q → 0 < F (2 + 52 * s + (12 + p)) → F (2 + 52 * s + (12 + p)) ≠ F (2 + 52 * s + (12 + q))
theorem sumI_one {f f' : Nat → Int} {s : Nat} (h : ∀ i, i ≠ s → f' i = f i) : ∀ {n : Nat}, s < n → sumI f' n = sumI f n + (f' s - f s)
  | 0, hs => absurd hs (Nat.not_lt_zero _)
  | n + 1, hs => by
    simp only [sumI]
    by_cases e : s = n
    · subst e
      rw [sumI_cg (f := f') (f' := f) (fun k hk => h k (by omega))]
      omega
    · rw [sumI_one h (n := n) (by omega), h n (fun q => e q.symm)]
      omega
section UP
variable {F : Nat → Int}
theorem S5_up {s k k' : Nat} (v : Int) (hs : s < 5) (hk : k < 52) (hk' : k' < 52) : S5 (up F (2 + 52 * s + k) v) k' = S5 F k' + (if k = k' then v - F (2 + 52 * s + k) else 0) := by
  unfold S5
  by_cases e : k = k'
  · subst e
    rw [if_pos rfl, sumI_one (f := fun s => F (2 + 52 * s + k)) (s := s) (fun i hi => up_n _ _ (by omega)) hs, up_s]
  · rw [if_neg e, sumI_cg (f' := fun s => F (2 + 52 * s + k')) (fun i hi => up_n _ _ (by omega))]
    omega
theorem borr_up {s s' k : Nat} (v : Int) (hs : s < 5) (hk : k < 52) : borr (up F (2 + 52 * s + k) v) s' = borr F s' + (if s = s' ∧ 7 ≤ k ∧ k < 12 then v - F (2 + 52 * s + k) else 0) := by
  unfold borr
  by_cases e : s = s' ∧ 7 ≤ k ∧ k < 12
  · obtain ⟨e1, e2, e3⟩ := e
    subst e1
    rw [if_pos ⟨rfl, e2, e3⟩, sumI_one (f := fun l => F (2 + 52 * s + (7 + l))) (s := k - 7) (fun i hi => up_n _ _ (by omega)) (by omega)]
    rw [show 2 + 52 * s + (7 + (k - 7)) = 2 + 52 * s + k by omega, up_s]
  · rw [if_neg e, sumI_cg (f' := fun l => F (2 + 52 * s' + (7 + l))) (fun i hi => up_n _ _ (by omega))]
    omega
theorem idle_up {s s' k : Nat} (v : Int) (hs : s < 5) (hk : k < 52) (hs' : s' < 5) : idle (up F (2 + 52 * s + k) v) s' = idle F s' + (if s = s' ∧ k = 0 then v - F (2 + 52 * s + k) else 0) - (if s = s' ∧ k = 2 then v - F (2 + 52 * s + k) else 0) - (if k = 7 + s' then v - F (2 + 52 * s + k) else 0) := by
  unfold idle
  rw [S5_up v hs hk (by omega)]
  by_cases e0 : s = s' ∧ k = 0
  · obtain ⟨a, b⟩ := e0
    subst a b
    rw [up_s, up_n _ _ (by omega)]
    simp
    omega
  · by_cases e2 : s = s' ∧ k = 2
    · obtain ⟨a, b⟩ := e2
      subst a b
      rw [up_s, up_n _ _ (by omega)]
      simp
      omega
    · rw [up_n _ _ (by omega), up_n _ _ (by omega), if_neg e0, if_neg e2]
      omega
theorem free_up {s k : Nat} (v : Int) (hs : s < 5) (hk : k < 52) : free (up F (2 + 52 * s + k) v) = free F - (if k = 0 ∨ k = 3 then v - F (2 + 52 * s + k) else 0) := by
  unfold free
  rw [S5_up v hs hk (by omega), S5_up v hs hk (by omega)]
  by_cases e0 : k = 0
  · subst e0; simp; omega
  · by_cases e3 : k = 3
    · subst e3; simp; omega
    · simp [e0, e3]
theorem tk_up {s s' k : Nat} (v : Int) (hs : s < 5) (hk : k < 52) (hs' : s' < 5) : tk (up F (2 + 52 * s + k) v) s' = tk F s' + (if s = s' ∧ (k = 2 ∨ k = 3 ∨ (7 ≤ k ∧ k < 12)) then v - F (2 + 52 * s + k) else 0) := by
  unfold tk
  rw [borr_up v hs hk]
  by_cases e : s = s'
  · subst e
    by_cases e2 : k = 2
    · subst e2
      rw [up_s, up_n _ _ (by omega)]
      simp
      omega
    · by_cases e3 : k = 3
      · subst e3
        rw [up_s, up_n _ _ (by omega)]
        simp
        omega
      · rw [up_n _ _ (by omega), up_n _ _ (by omega)]
        simp [e2, e3]
        omega
  · rw [up_n _ _ (by omega), up_n _ _ (by omega)]
    simp [e]
theorem pgc_up {s s' k : Nat} (v : Int) (hs : s < 5) (hk : k < 52) (hs' : s' < 5) : pgc (up F (2 + 52 * s + k) v) s' = pgc F s' + (if s = s' ∧ 12 ≤ k then pI (0 < v) - pI (0 < F (2 + 52 * s + k)) else 0) := by
  unfold pgc
  by_cases e : s = s' ∧ 12 ≤ k
  · obtain ⟨e1, e2⟩ := e
    subst e1
    rw [if_pos ⟨rfl, e2⟩, sumI_one (f := fun p => pI (0 < F (2 + 52 * s + (12 + p)))) (s := k - 12) (fun i hi => by rw [up_n _ _ (by omega)]) (by omega)]
    rw [show 2 + 52 * s + (12 + (k - 12)) = 2 + 52 * s + k by omega, up_s]
  · rw [if_neg e, sumI_cg (f' := fun p => pI (0 < F (2 + 52 * s' + (12 + p)))) (fun i hi => by rw [up_n _ _ (by omega)])]
    omega
theorem pgc_pos {s p : Nat} (hp : p < 40) (h : 0 < F (2 + 52 * s + (12 + p))) : 0 < pgc F s := by
  unfold pgc
  have e := sumI_one (f := fun i => if i = p then 0 else pI (0 < F (2 + 52 * s + (12 + i)))) (f' := fun i => pI (0 < F (2 + 52 * s + (12 + i)))) (s := p) (fun i hi => by simp [hi]) hp
  have b := sumI_b (f := fun i => if i = p then 0 else pI (0 < F (2 + 52 * s + (12 + i)))) (n := 40) (M := 1) (fun k hk => by
    show 0 ≤ (if k = p then 0 else pI _) ∧ (if k = p then 0 else pI _) ≤ 1
    split
    · omega
    · exact pI_rg _)
  rw [e]
  simp only [if_true, pI_t h]
  omega
theorem pgc_zero {s : Nat} : ∀ {n : Nat}, (∀ p, p < n → F (2 + 52 * s + (12 + p)) ≤ 0) → sumI (fun p => pI (0 < F (2 + 52 * s + (12 + p)))) n = 0
  | 0, _ => rfl
  | n + 1, h => by
    simp only [sumI]
    rw [pgc_zero (fun p hp => h p (by omega)), pI_f (by have := h n (by omega); omega)]
    rfl
theorem oa_none {s : Nat} {t : Int} : ∀ {n : Nat}, oa F s t n = -1 → ∀ p, p < n → F (2 + 52 * s + (12 + p)) ≤ t
  | 0, _ => fun p hp => absurd hp (Nat.not_lt_zero _)
  | n + 1, h => by
    have hb := oa_b (F := F) s t n
    simp only [oa] at h
    split at h
    · omega
    · rename_i hc
      intro p hp
      by_cases e : p = n
      · subst e
        rw [h] at hc
        simp at hc
        omega
      · exact oa_none h p (by omega)
theorem oa_some {s : Nat} {t : Int} : ∀ {n : Nat}, oa F s t n ≠ -1 → t < F (2 + 52 * s + (12 + (oa F s t n).toNat))
  | 0, h => absurd rfl h
  | n + 1, h => by
    simp only [oa] at h ⊢
    split
    · rename_i hc
      simpa using hc.1
    · rename_i hc
      rw [if_neg hc] at h
      exact oa_some h
end UP
section JJ
variable {F dl : Nat → Int} {T : Int}
theorem J.S (h : J F dl T) : Sn F T := h.1
theorem J.Z (h : J F dl T) : Zr F := h.2.1
theorem J.C (h : J F dl T) : Cz F := h.2.2.1
theorem J.G (h : J F dl T) : Dg F := h.2.2.2.1
theorem J.ce (h : J F dl T) (s : Nat) (hs : s < 5) (hn : (s : Int) < F 0) : 1 ≤ F (2 + 52 * s + 1) ∧ F (2 + 52 * s + 1) ≤ 60 ∧ F (2 + 52 * s + 0) ≤ F (2 + 52 * s + 1) := h.2.2.2.2.1 s hs hn
theorem J.id (h : J F dl T) (s : Nat) (hs : s < 5) : 0 ≤ idle F s := h.2.2.2.2.2.1 s hs
theorem J.fr (h : J F dl T) : 0 ≤ free F := h.2.2.2.2.2.2.1
theorem J.pg (h : J F dl T) (s : Nat) (hs : s < 5) : pgc F s = tk F s + dl s := h.2.2.2.2.2.2.2.1 s hs
theorem J.ck (h : J F dl T) (s p : Nat) (hs : s < 5) (hp : p < 40) : F (2 + 52 * s + (12 + p)) ≤ F 1 := h.2.2.2.2.2.2.2.2.1 s p hs hp
theorem J.ds (h : J F dl T) (s p q : Nat) (hs : s < 5) (hp : p < 40) (hq : q < 40) (hne : p ≠ q) (h0 : 0 < F (2 + 52 * s + (12 + p))) : F (2 + 52 * s + (12 + p)) ≠ F (2 + 52 * s + (12 + q)) := h.2.2.2.2.2.2.2.2.2 s p q hs hp hq hne h0
theorem J.mono {T' : Int} (h : J F dl T) (hT : T ≤ T') : J F dl T' := ⟨h.1.mono hT, h.2⟩
theorem J.cg {dl' : Nat → Int} (h : J F dl T) (hd : ∀ s, s < 5 → dl s = dl' s) : J F dl' T := ⟨h.1, h.2.1, h.2.2.1, h.2.2.2.1, h.2.2.2.2.1, h.2.2.2.2.2.1, h.2.2.2.2.2.2.1, fun s hs => by rw [← hd s hs]; exact h.pg s hs, h.2.2.2.2.2.2.2.2⟩
/-- one number of a space changes: not its floor or ceiling -/
theorem J.put (h : J F dl T) {T' : Int} {s k : Nat} {v : Int} (hs : s < 5) (hn : (s : Int) < F 0) (hk : k < 52) (hk2 : 2 ≤ k) (hT : T ≤ T') (hv : 0 ≤ v ∧ v ≤ T')
    (hC : ∀ l : Nat, k = 7 + l → l < 5 → (l : Int) < F 0 ∧ l ≠ s) (hid : ∀ s' : Nat, s' < 5 → 0 ≤ idle (up F (2 + 52 * s + k) v) s') (hfr : 0 ≤ free (up F (2 + 52 * s + k) v)) (hpk : 12 ≤ k → v ≤ F 1 ∧ (0 < v → ∀ q : Nat, q < 40 → k ≠ 12 + q → v ≠ F (2 + 52 * s + (12 + q)))) :
    J (up F (2 + 52 * s + k) v) (fun s' => dl s' + (if s = s' ∧ 12 ≤ k then pI (0 < v) - pI (0 < F (2 + 52 * s + k)) else 0) - (if s = s' ∧ (k = 2 ∨ k = 3 ∨ (7 ≤ k ∧ k < 12)) then v - F (2 + 52 * s + k) else 0)) T' := by
  have e0 : up F (2 + 52 * s + k) v 0 = F 0 := up_n _ _ (by omega)
  have e1 : up F (2 + 52 * s + k) v 1 = F 1 := up_n _ _ (by omega)
  refine ⟨(h.S.mono hT).up (by omega) hv, fun s' k' h1 h2 h3 => ?_, fun s' l h1 h2 h3 => ?_, fun s' h1 => ?_, fun s' h1 h2 => ?_, hid, hfr, fun s' h1 => ?_, fun s' p h1 h2 => ?_, fun s' p q h1 h2 h3 h4 h5 => ?_⟩
  · rw [e0] at h1
    rw [up_n _ _ (by omega)]
    exact h.Z s' k' h1 h2 h3
  · rw [e0] at h1
    have := hC l
    rw [up_n _ _ (by omega)]
    exact h.C s' l h1 h2 h3
  · have := hC s'
    rw [up_n _ _ (by omega)]
    exact h.G s' h1
  · rw [e0] at h2
    rw [up_n _ _ (by omega), up_n _ _ (by omega)]
    exact h.ce s' h1 h2
  · rw [pgc_up v hs hk h1, tk_up v hs hk h1, h.pg s' h1]
    dsimp only
    omega
  · rw [e1]
    by_cases e : 2 + 52 * s' + (12 + p) = 2 + 52 * s + k
    · rw [up_e _ _ e]
      exact (hpk (by omega)).1
    · rw [up_n _ _ e]
      exact h.ck s' p h1 h2
  · by_cases e : 2 + 52 * s' + (12 + p) = 2 + 52 * s + k
    · rw [up_e _ _ e] at h5 ⊢
      rw [up_n _ _ (by omega)]
      have := (hpk (by omega)).2 h5 q h3 (by omega)
      rw [show s' = s by omega]
      exact this
    · rw [up_n _ _ e] at h5 ⊢
      by_cases e2 : 2 + 52 * s' + (12 + q) = 2 + 52 * s + k
      · rw [up_e _ _ e2]
        by_cases hv0 : 0 < v
        · have := (hpk (by omega)).2 hv0 p h2 (by omega)
          rw [show s' = s by omega]
          exact fun z => this z.symm
        · omega
      · rw [up_n _ _ e2]
        exact h.ds s' p q h1 h2 h3 h4 h5
end JJ

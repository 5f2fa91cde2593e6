section J2
variable {F dl : Nat → Int} {T : Int}
theorem J.n (h : J F dl T) : 0 ≤ F 0 ∧ F 0 ≤ 5 := h.S.n
theorem J.own (h : J F dl T) {s : Nat} (hs : s < 5) (hn : (s : Int) < F 0) (hi : 0 < idle F s) : J (inc F (2 + 52 * s + 2)) (fun i => dl i - one s i) (T + 1) := by
  have hb := h.S.1 (2 + 52 * s + 2) (by omega)
  refine (h.put (v := F (2 + 52 * s + 2) + 1) (T' := T + 1) hs hn (by omega) (by omega) (by omega) ⟨by omega, by omega⟩ (fun l e => by omega) (fun s' hs' => ?_) ?_ (fun e => by omega)).cg (fun i hi => ?_)
  · have := h.id s' hs'
    rw [idle_up _ hs (by omega) hs']
    by_cases e : s = s'
    · subst e; simp; omega
    · simp [e, show ¬ 2 = 7 + s' by omega]; exact this
  · rw [free_up _ hs (by omega)]
    have := h.fr
    simpa using this
  · by_cases e : s = i
    · subst e; simp [one_s]; omega
    · simp [e, one_n (Ne.symm e)]
theorem J.com (h : J F dl T) {s : Nat} (hs : s < 5) (hn : (s : Int) < F 0) (hi : 0 < free F) : J (inc F (2 + 52 * s + 3)) (fun i => dl i - one s i) (T + 1) := by
  have hb := h.S.1 (2 + 52 * s + 3) (by omega)
  refine (h.put (v := F (2 + 52 * s + 3) + 1) (T' := T + 1) hs hn (by omega) (by omega) (by omega) ⟨by omega, by omega⟩ (fun l e => by omega) (fun s' hs' => ?_) ?_ (fun e => by omega)).cg (fun i hi => ?_)
  · have := h.id s' hs'
    rw [idle_up _ hs (by omega) hs']
    simp [show ¬ 3 = 7 + s' by omega]; exact this
  · rw [free_up _ hs (by omega)]
    simp
    omega
  · by_cases e : s = i
    · subst e; simp [one_s]; omega
    · simp [e, one_n (Ne.symm e)]
theorem J.lend (h : J F dl T) {s l : Nat} (hs : s < 5) (hn : (s : Int) < F 0) (hl : (l : Int) < F 0) (hne : l ≠ s) (hi : 0 < idle F l) : J (inc F (2 + 52 * s + (7 + l))) (fun i => dl i - one s i) (T + 1) := by
  have hn5 := h.n
  have hb := h.S.1 (2 + 52 * s + (7 + l)) (by omega)
  refine (h.put (v := F (2 + 52 * s + (7 + l)) + 1) (T' := T + 1) hs hn (by omega) (by omega) (by omega) ⟨by omega, by omega⟩ (fun l' e _ => ?_) (fun s' hs' => ?_) ?_ (fun e => by omega)).cg (fun i hi => ?_)
  · rw [show l' = l by omega]; exact ⟨hl, hne⟩
  · have := h.id s' hs'
    rw [idle_up _ hs (by omega) hs']
    by_cases e : l = s'
    · subst e; simp [show ¬ 7 + l = 0 by omega, show ¬ 7 + l = 2 by omega]; omega
    · simp [e, show ¬ 7 + l = 0 by omega, show ¬ 7 + l = 2 by omega]; exact this
  · rw [free_up _ hs (by omega)]
    have := h.fr
    simp [show ¬ 7 + l = 0 by omega, show ¬ 7 + l = 3 by omega]
    exact this
  · by_cases e : s = i
    · subst e; simp [one_s, show ¬ 12 ≤ 7 + l by omega, show ¬ 7 + l = 2 by omega, show ¬ 7 + l = 3 by omega, show 7 + l < 12 by omega]; omega
    · simp [e, one_n (Ne.symm e)]
theorem J.unlend (h : J F dl T) {s l : Nat} (hs : s < 5) (hn : (s : Int) < F 0) (hl : (l : Int) < F 0) (hne : l ≠ s) (hi : 0 < F (2 + 52 * s + (7 + l))) : J (dec F (2 + 52 * s + (7 + l))) (fun i => dl i + one s i) T := by
  have hn5 := h.n
  have hb := h.S.1 (2 + 52 * s + (7 + l)) (by omega)
  refine (h.put (v := F (2 + 52 * s + (7 + l)) - 1) (T' := T) hs hn (by omega) (by omega) (by omega) ⟨by omega, by omega⟩ (fun l' e _ => ?_) (fun s' hs' => ?_) ?_ (fun e => by omega)).cg (fun i hi => ?_)
  · rw [show l' = l by omega]; exact ⟨hl, hne⟩
  · have := h.id s' hs'
    rw [idle_up _ hs (by omega) hs']
    by_cases e : l = s'
    · subst e; simp [show ¬ 7 + l = 0 by omega, show ¬ 7 + l = 2 by omega]; omega
    · simp [e, show ¬ 7 + l = 0 by omega, show ¬ 7 + l = 2 by omega]; exact this
  · rw [free_up _ hs (by omega)]
    have := h.fr
    simp [show ¬ 7 + l = 0 by omega, show ¬ 7 + l = 3 by omega]
    exact this
  · by_cases e : s = i
    · subst e; simp [one_s, show ¬ 12 ≤ 7 + l by omega, show ¬ 7 + l = 2 by omega, show ¬ 7 + l = 3 by omega, show 7 + l < 12 by omega]; omega
    · simp [e, one_n (Ne.symm e)]
theorem J.uncom (h : J F dl T) {s : Nat} (hs : s < 5) (hn : (s : Int) < F 0) (hi : 0 < F (2 + 52 * s + 3)) : J (dec F (2 + 52 * s + 3)) (fun i => dl i + one s i) T := by
  have hb := h.S.1 (2 + 52 * s + 3) (by omega)
  refine (h.put (v := F (2 + 52 * s + 3) - 1) (T' := T) hs hn (by omega) (by omega) (by omega) ⟨by omega, by omega⟩ (fun l e => by omega) (fun s' hs' => ?_) ?_ (fun e => by omega)).cg (fun i hi => ?_)
  · have := h.id s' hs'
    rw [idle_up _ hs (by omega) hs']
    simp [show ¬ 3 = 7 + s' by omega]; exact this
  · rw [free_up _ hs (by omega)]
    have := h.fr
    simp
    omega
  · by_cases e : s = i
    · subst e; simp [one_s]; omega
    · simp [e, one_n (Ne.symm e)]
theorem J.unown (h : J F dl T) {s : Nat} (hs : s < 5) (hn : (s : Int) < F 0) (hi : 0 < F (2 + 52 * s + 2)) : J (dec F (2 + 52 * s + 2)) (fun i => dl i + one s i) T := by
  have hb := h.S.1 (2 + 52 * s + 2) (by omega)
  refine (h.put (v := F (2 + 52 * s + 2) - 1) (T' := T) hs hn (by omega) (by omega) (by omega) ⟨by omega, by omega⟩ (fun l e => by omega) (fun s' hs' => ?_) ?_ (fun e => by omega)).cg (fun i hi => ?_)
  · have := h.id s' hs'
    rw [idle_up _ hs (by omega) hs']
    by_cases e : s = s'
    · subst e; simp; omega
    · simp [e, show ¬ 2 = 7 + s' by omega]; exact this
  · rw [free_up _ hs (by omega)]
    have := h.fr
    simpa using this
  · by_cases e : s = i
    · subst e; simp [one_s]; omega
    · simp [e, one_n (Ne.symm e)]
/-- recalls, lost, refused -/
theorem J.cnt (h : J F dl T) {s k : Nat} (hs : s < 5) (hn : (s : Int) < F 0) (hk : 4 ≤ k ∧ k < 7) : J (inc F (2 + 52 * s + k)) dl (T + 1) := by
  have hb := h.S.1 (2 + 52 * s + k) (by omega)
  refine (h.put (v := F (2 + 52 * s + k) + 1) (T' := T + 1) hs hn (by omega) (by omega) (by omega) ⟨by omega, by omega⟩ (fun l e => by omega) (fun s' hs' => ?_) ?_ (fun e => by omega)).cg (fun i hi => ?_)
  · have := h.id s' hs'
    rw [idle_up _ hs (by omega) hs']
    simp [show ¬ k = 7 + s' by omega, show ¬ k = 0 by omega, show ¬ k = 2 by omega]; exact this
  · rw [free_up _ hs (by omega)]
    have := h.fr
    simp [show ¬ k = 0 by omega, show ¬ k = 3 by omega]
    exact this
  · simp [show ¬ 12 ≤ k by omega, show ¬ k = 2 by omega, show ¬ k = 3 by omega, show ¬ 7 ≤ k by omega]
/-- a page gets a time, or none -/
theorem J.page (h : J F dl T) {s p : Nat} {v T' : Int} (hs : s < 5) (hn : (s : Int) < F 0) (hp : p < 40) (hT : T ≤ T') (hv : 0 ≤ v ∧ v ≤ F 1) (hd : 0 < v → ∀ q : Nat, q < 40 → p ≠ q → v ≠ F (2 + 52 * s + (12 + q))) : J (up F (2 + 52 * s + (12 + p)) v) (fun i => dl i + (if s = i then pI (0 < v) - pI (0 < F (2 + 52 * s + (12 + p))) else 0)) T' := by
  have h1 := h.S.1 1 (by omega)
  refine (h.put (v := v) (T' := T') hs hn (by omega) (by omega) hT ⟨hv.1, by omega⟩ (fun l e => by omega) (fun s' hs' => ?_) ?_ (fun e => ⟨hv.2, fun h0 q hq hne => hd h0 q hq (by omega)⟩)).cg (fun i hi => ?_)
  · have := h.id s' hs'
    rw [idle_up _ hs (by omega) hs']
    simp [show ¬ 12 + p = 7 + s' by omega, show ¬ 12 + p = 0 by omega, show ¬ 12 + p = 2 by omega]; exact this
  · rw [free_up _ hs (by omega)]
    have := h.fr
    simp [show ¬ 12 + p = 0 by omega, show ¬ 12 + p = 3 by omega]
    exact this
  · simp [show ¬ 12 + p = 2 by omega, show ¬ 12 + p = 3 by omega, show ¬ 12 + p < 12 by omega]
/-- the clock goes on -/
theorem J.clock (h : J F dl T) : J (inc F 1) dl (T + 1) := by
  have hb := h.S.1 1 (by omega)
  have e0 : inc F 1 0 = F 0 := up_n _ _ (by omega)
  have e : ∀ j : Nat, 1 < j → inc F 1 j = F j := fun j hj => up_n _ _ (by omega)
  have es : ∀ k, S5 (inc F 1) k = S5 F k := fun k => sumI_cg (fun i hi => e _ (by omega))
  have eb : ∀ s, borr (inc F 1) s = borr F s := fun s => sumI_cg (fun i hi => e _ (by omega))
  have ei : ∀ s, idle (inc F 1) s = idle F s := fun s => by unfold idle; rw [es, e _ (by omega), e _ (by omega)]
  refine ⟨h.S.inc (by omega) (by omega), fun s k h1 h2 h3 => ?_, fun s l h1 h2 h3 => ?_, fun s h1 => ?_, fun s h1 h2 => ?_, fun s h1 => ?_, ?_, fun s h1 => ?_, fun s p h1 h2 => ?_, fun s p q h1 h2 h3 h4 h5 => ?_⟩
  · rw [e0] at h1; rw [e _ (by omega)]; exact h.Z s k h1 h2 h3
  · rw [e0] at h1; rw [e _ (by omega)]; exact h.C s l h1 h2 h3
  · rw [e _ (by omega)]; exact h.G s h1
  · rw [e0] at h2; rw [e _ (by omega), e _ (by omega)]; exact h.ce s h1 h2
  · rw [ei]; exact h.id s h1
  · unfold free; rw [es, es]; exact h.fr
  · have := h.pg s h1
    unfold pgc tk at *
    rw [eb, e _ (by omega), e _ (by omega), sumI_cg (f' := fun p => pI (0 < F (2 + 52 * s + (12 + p)))) (fun p hp => by rw [e _ (by omega)])]
    exact this
  · have := h.ck s p h1 h2
    rw [e _ (by omega)]
    have e1 : inc F 1 1 = F 1 + 1 := up_s _ _ _
    omega
  · rw [e _ (by omega)] at h5 ⊢
    rw [e _ (by omega)]
    exact h.ds s p q h1 h2 h3 h4 h5
end J2
section J3
variable {F dl : Nat → Int} {T : Int}
theorem lender_i (h : Sm F) (x y : Nat) (hl : lender F x y ≠ -1) : 0 < idle F (lender F x y).toNat := lnd_i x y _ hl
theorem lnd_x (x y : Nat) : ∀ i : Nat, lnd F x y i ≠ -1 → (lnd F x y i).toNat ≠ x ∧ (lnd F x y i).toNat ≠ y
  | 0 => by simp [lnd]
  | i + 1 => by
    have h0 := lnd_x x y i
    intro h
    unfold lnd at h ⊢
    split
    · rename_i q
      simp
      exact ⟨q.1, q.2.1⟩
    · rename_i q
      rw [if_neg q] at h
      exact h0 h
theorem lender_x (x y : Nat) (hl : lender F x y ≠ -1) : (lender F x y).toNat ≠ x ∧ (lender F x y).toNat ≠ y := lnd_x x y _ hl
/-- the borrower gets other room, or loses a page -/
theorem J.reh (h : J F dl T) (hT : T ≤ 990000) {b s : Nat} (hb : b < 5) (hn : (b : Int) < F 0) (hp : least F b ≠ -1) : J (rehouse F b s) (fun i => dl i - one b i) (T + 2) := by
  have hS : Sm F := h.S.m (by omega)
  unfold rehouse
  by_cases h1 : 0 < idle F b
  · rw [if_pos h1]; exact (h.own hb hn h1).mono (by omega)
  · rw [if_neg h1]
    by_cases h2 : 0 < free F
    · rw [if_pos h2]; exact (h.com hb hn h2).mono (by omega)
    · rw [if_neg h2]
      by_cases h3 : lender F b s = -1
      · rw [if_pos h3]
        unfold lose
        rw [if_neg hp]
        have hlb := least_b F b
        have hl : 0 < F (2 + 52 * b + (12 + (least F b).toNat)) := oa_some (F := F) (s := b) (t := 0) (n := 40) hp
        have e0 : up F (2 + 52 * b + (12 + (least F b).toNat)) 0 0 = F 0 := up_n _ _ (by omega)
        have g := h.page (v := 0) (T' := T + 1) hb hn (p := (least F b).toNat) (by omega) (by omega) ⟨by omega, (h.S.1 1 (by omega)).1⟩ (fun q => absurd q (Int.lt_irrefl 0))
        refine ((g.cnt (s := b) (k := 5) hb (by rw [e0]; exact hn) (by omega)).cg (fun i hi => ?_)).mono (by omega)
        by_cases e : b = i
        · subst e
          rw [if_pos rfl, one_s, pI_f (by omega), pI_t hl]
          omega
        · rw [if_neg e, one_n (Ne.symm e)]
          omega
      · rw [if_neg h3]
        have hlb := lender_b hS b s
        exact (h.lend hb hn (by omega) (lender_x b s h3).1 (lender_i hS b s h3)).mono (by omega)
theorem rehouse_0 (b s : Nat) : rehouse F b s 0 = F 0 := by
  unfold rehouse lose inc
  repeat' split
  all_goals rw [up_n _ _ (by omega)]
  rw [up_n _ _ (by omega)]
end J3

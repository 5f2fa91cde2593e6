/-! ===== pure: a space takes at most 60 blocks ===== -/
section PU1
variable {F dl : Nat → Int} {T : Int} {s : Nat}
theorem need_tk (h : J F dl T) (hT : T ≤ 980000) (hs : s < 5) (hn : (s : Int) < F 0) (hd : ∀ b : Nat, b < 5 → b ≠ s → dl b = 0) (e5 : needR F s ≠ 5) : tk (needF F s) s = tk F s + 1 := by
  obtain ⟨g1, -⟩ := h.need hT hs hn hd
  simp only [if_neg e5] at g1
  have a := g1.pg s hs
  have b := h.pg s hs
  have c : pgc (needF F s) s = pgc F s := by
    unfold pgc
    exact sumI_cg (fun p hp => by rw [need_pg h hT hs hn hp])
  rw [one_s] at a
  omega
theorem gF_tk (h : J F z0 T) (hT : T ≤ 960000) (hs : s < 5) (hn : (s : Int) < F 0) : ∀ k : Nat, k ≤ 100 → needR (gF F s k) s ≠ 5 → tk (gF F s k) s = tk F s + k
  | 0, _, _ => by simp [gF]
  | k + 1, hk, h5 => by
    have hne : needR (gF F s k) s ≠ 5 := fun e => h5 (by show needR (needF (gF F s k) s) s = 5; rw [(needR_5 e).1]; exact e)
    obtain ⟨dl', h1, h2, h3⟩ := h.gr hs hn (fun _ _ _ => rfl) k (by omega)
    have a := need_tk h2 (by omega) hs (by rw [h3]; exact hn) h1 hne
    have b := gF_tk h hT hs hn k (by omega) hne
    show tk (needF (gF F s k) s) s = _
    omega
theorem gF_60 (h : J F z0 T) (hT : T ≤ 960000) (hs : s < 5) (hn : (s : Int) < F 0) : needR (gF F s 60) s = 5 := by
  by_cases e : needR (gF F s 60) s = 5
  · exact e
  · exfalso
    have a := gF_tk h hT hs hn 60 (by omega) e
    obtain ⟨dl', h1, h2, h3⟩ := h.gr hs hn (fun _ _ _ => rfl) 60 (by omega)
    have hc := h2.ce s hs (by rw [h3]; exact hn)
    have ht := tk_b (h.S.m (by omega)) s hs
    apply e
    unfold needR
    rw [if_pos (by omega)]
theorem gN_s (F : Nat → Int) (s : Nat) : ∀ n i : Nat, needR (gF F s (i + n)) s = 5 → gN F s (n + 1) i = gN F s n i
  | 0, i, h => if_pos h
  | n + 1, i, h => by
    show (if needR (gF F s i) s = 5 then i else gN F s (n + 1) (i + 1)) = (if needR (gF F s i) s = 5 then i else gN F s n (i + 1))
    rw [gN_s F s n (i + 1) (by rw [show i + 1 + n = i + (n + 1) by omega]; exact h)]
theorem gN_61 (h : J F z0 T) (hT : T ≤ 960000) (hs : s < 5) (hn : (s : Int) < F 0) : gN F s 61 0 = gN F s 60 0 := gN_s F s 60 0 (by rw [Nat.zero_add]; exact gF_60 h hT hs hn)
end PU1
/-! ===== pure: who loses first ===== -/
section PU2
variable {F dl : Nat → Int} {T : Int} {s : Nat}
theorem reh_lost {b t : Nat} (hb : b < 5) (ht : t < 5) (hl : lender F b s ≠ -1 → lender F b s < 5 ∧ -1 ≤ lender F b s) : rehouse F b s (2 + 52 * t + 5) = F (2 + 52 * t + 5) + (if rehouseL F b s = -1 then 0 else if (t : Int) = rehouseL F b s then 1 else 0) := by
  unfold rehouse rehouseL
  by_cases c1 : 0 < idle F b
  · rw [if_pos c1, if_pos c1, inc_n _ (by omega)]; simp
  · rw [if_neg c1, if_neg c1]
    by_cases c2 : 0 < free F
    · rw [if_pos c2, if_pos c2, inc_n _ (by omega)]; simp
    · rw [if_neg c2, if_neg c2]
      by_cases c3 : lender F b s = -1
      · rw [if_pos c3, if_pos c3, if_neg (by omega)]
        have hlb := least_b F b
        have e : ∀ j : Nat, j < 5 → (if least F b = -1 then F else up F (2 + 52 * b + (12 + (least F b).toNat)) 0) (2 + 52 * j + 5) = F (2 + 52 * j + 5) := fun j hj => by
          split
          · rfl
          · exact up_n _ _ (by omega)
        unfold lose
        by_cases q : t = b
        · subst q
          unfold inc
          rw [up_s, e t ht, if_pos rfl]
        · rw [inc_n _ (by omega), e t ht, if_neg (by omega)]
          omega
      · have := hl c3
        rw [if_neg c3, if_neg c3, inc_n _ (by omega)]; simp
theorem recall_lost (h : J F dl T) (hT : T ≤ 980000) (hs : s < 5) (hn : (s : Int) < F 0) (hp : 0 < S5 F (7 + s)) {t : Nat} (ht : t < 5) : recall F s (2 + 52 * t + 5) = F (2 + 52 * t + 5) + (if recallL F s = -1 then 0 else if (t : Int) = recallL F s then 1 else 0) := by
  obtain ⟨h1, h2, h3, h4, h5⟩ := h.rcl (by omega) hs hn hp
  have hlb := lender_b (h1.S.m (by omega)) (mostOf F s) s
  unfold recall recallL
  rw [reh_lost h2 ht (fun _ => by omega)]
  have e : rc1 F s (2 + 52 * t + 5) = F (2 + 52 * t + 5) := by
    unfold rc1
    rw [inc_n _ (by omega), dec_n _ (by omega)]
  rw [e]
theorem need_lost (h : J F dl T) (hT : T ≤ 980000) (hs : s < 5) (hn : (s : Int) < F 0) {t : Nat} (ht : t < 5) : needF F s (2 + 52 * t + 5) = F (2 + 52 * t + 5) + (if needL F s = -1 then 0 else if (t : Int) = needL F s then 1 else 0) := by
  have hlb := lender_b (h.S.m (by omega)) s s
  unfold needF needL
  by_cases c : F (2 + 52 * s + 1) ≤ tk F s
  · rw [if_pos c, if_pos c]; simp
  · rw [if_neg c, if_neg c]
    by_cases c2 : F (2 + 52 * s + 2) < F (2 + 52 * s + 0)
    · rw [if_pos c2, if_pos c2, inc_n _ (by omega)]
      by_cases c3 : 0 < idle F s
      · rw [if_pos c3, if_pos c3]; simp
      · rw [if_neg c3, if_neg c3]
        have hid : idle F s = F (2 + 52 * s + 0) - F (2 + 52 * s + 2) - S5 F (7 + s) := rfl
        exact recall_lost h hT hs hn (by omega) ht
    · rw [if_neg c2, if_neg c2]
      by_cases c3 : 0 < free F
      · rw [if_pos c3, inc_n _ (by omega)]; simp
      · rw [if_neg c3]
        by_cases c4 : lender F s s = -1
        · rw [if_pos c4]; simp
        · rw [if_neg c4, inc_n _ (by omega)]; simp
theorem needL_n (h : J F dl T) (hT : T ≤ 980000) (hs : s < 5) (hn : (s : Int) < F 0) (hL : needL F s ≠ -1) : 0 ≤ needL F s ∧ needL F s < F 0 := by
  have hb := needL_b (F := F) s
  unfold needL at hL hb ⊢
  by_cases c : F (2 + 52 * s + 1) ≤ tk F s
  · rw [if_pos c] at hL; exact absurd rfl hL
  · rw [if_neg c] at hL hb ⊢
    by_cases c2 : F (2 + 52 * s + 2) < F (2 + 52 * s + 0)
    · rw [if_pos c2] at hL hb ⊢
      by_cases c3 : 0 < idle F s
      · rw [if_pos c3] at hL; exact absurd rfl hL
      · rw [if_neg c3] at hL hb ⊢
        have hid : idle F s = F (2 + 52 * s + 0) - F (2 + 52 * s + 2) - S5 F (7 + s) := rfl
        obtain ⟨-, h2, h3, -, -⟩ := h.rcl (by omega) hs hn (by omega)
        omega
    · rw [if_neg c2] at hL; exact absurd rfl hL
theorem fls_none {F1 F2 : Nat → Int} : ∀ k i : Nat, (∀ t : Nat, i ≤ t → t < i + k → F1 (2 + 52 * t + 5) = F2 (2 + 52 * t + 5)) → fls F1 F2 k i = -1
  | 0, _, _ => rfl
  | k + 1, i, h => by
    have := h i (by omega) (by omega)
    simp only [fls]
    rw [if_neg (by omega)]
    exact fls_none k (i + 1) (fun t h1 h2 => h t (by omega) (by omega))
theorem fls_one {F1 F2 : Nat → Int} {b : Nat} : ∀ k i : Nat, i ≤ b → b < i + k → F2 (2 + 52 * b + 5) < F1 (2 + 52 * b + 5) → (∀ t : Nat, i ≤ t → t < i + k → t ≠ b → F1 (2 + 52 * t + 5) = F2 (2 + 52 * t + 5)) → fls F1 F2 k i = (b : Int)
  | 0, _, h1, h2, _, _ => by omega
  | k + 1, i, h1, h2, hb, h => by
    simp only [fls]
    by_cases e : i = b
    · subst e
      rw [if_pos hb]
    · have := h i (by omega) (by omega) e
      rw [if_neg (by omega)]
      exact fls_one k (i + 1) (by omega) (by omega) hb (fun t h1 h2 h3 => h t (by omega) (by omega) h3)
theorem gL_st {F : Nat → Int} {s i : Nat} (h : gL F s i ≠ -1) : ∀ j : Nat, gL F s (i + j) = gL F s i
  | 0 => rfl
  | j + 1 => by
    have := gL_st h j
    show (if gL F s (i + j) = -1 then needL (gF F s (i + j)) s else gL F s (i + j)) = _
    rw [this, if_neg h]
theorem gL_lost (h : J F z0 T) (hT : T ≤ 960000) (hs : s < 5) (hn : (s : Int) < F 0) : ∀ k : Nat, k ≤ 100 → gL F s k = -1 → ∀ t : Nat, t < 5 → gF F s k (2 + 52 * t + 5) = F (2 + 52 * t + 5)
  | 0, _, _, _, _ => rfl
  | k + 1, hk, hL, t, ht => by
    have h0 : gL F s k = -1 := by
      by_cases e : gL F s k = -1
      · exact e
      · rw [gL_st e 1] at hL
        exact absurd hL e
    have hn1 : needL (gF F s k) s = -1 := by
      have e : gL F s (k + 1) = (if gL F s k = -1 then needL (gF F s k) s else gL F s k) := rfl
      rw [e, if_pos h0] at hL
      exact hL
    obtain ⟨dl', h1, h2, h3⟩ := h.gr hs hn (fun _ _ _ => rfl) k (by omega)
    have a := need_lost h2 (by omega) hs (by rw [h3]; exact hn) ht
    rw [if_pos hn1, gL_lost h hT hs hn k (by omega) h0 t ht] at a
    show needF (gF F s k) s (2 + 52 * t + 5) = _
    omega
theorem gL_fls (h : J F z0 T) (hT : T ≤ 960000) (hs : s < 5) (hn : (s : Int) < F 0) {k : Nat} (hk : k ≤ 99) (hL : gL F s k = -1) : fls (gF F s (k + 1)) F (gF F s (k + 1) 0).toNat 0 = gL F s (k + 1) := by
  obtain ⟨dl', h1, h2, h3⟩ := h.gr hs hn (fun _ _ _ => rfl) k (by omega)
  obtain ⟨dl2, -, -, h5⟩ := h.gr hs hn (fun _ _ _ => rfl) (k + 1) (by omega)
  have hn5 := h.n
  have e : gL F s (k + 1) = needL (gF F s k) s := by
    show (if gL F s k = -1 then needL (gF F s k) s else gL F s k) = _
    rw [if_pos hL]
  rw [h5, e]
  have key : ∀ t : Nat, t < 5 → gF F s (k + 1) (2 + 52 * t + 5) = F (2 + 52 * t + 5) + (if needL (gF F s k) s = -1 then 0 else if (t : Int) = needL (gF F s k) s then 1 else 0) := fun t ht => by
    have a := need_lost h2 (by omega) hs (by rw [h3]; exact hn) ht
    rw [gL_lost h hT hs hn k (by omega) hL t ht] at a
    exact a
  by_cases q : needL (gF F s k) s = -1
  · rw [q]
    exact fls_none _ 0 (fun t h1 h2 => by rw [key t (by omega), if_pos q]; omega)
  · have hb := needL_n h2 (by omega) hs (by rw [h3]; exact hn) q
    rw [h3] at hb
    obtain ⟨b, hbb⟩ := Int.eq_ofNat_of_zero_le hb.1
    rw [hbb] at hb ⊢
    refine fls_one _ 0 (by omega) (by omega) ?_ (fun t h1 h2 h3 => ?_)
    · rw [key b (by omega), if_neg q, if_pos hbb.symm]; omega
    · rw [key t (by omega), if_neg q, if_neg (by rw [hbb]; omega)]; omega
end PU2

/-! ===== pure: what the law says of a device ===== -/
section PUL
variable {F dl : Nat → Int} {T : Int} {s : Nat}
theorem borr_nC (h : J F dl T) (hT : T ≤ 990000) (hs : s < 5) : sumI (fun l => F (2 + 52 * s + (7 + l))) (F 0).toNat = borr F s := by
  have hn := h.n
  exact sumI_n5 (by omega) (fun j h1 h2 => h.C s j (by omega) hs h2)
theorem lent_n (h : J F dl T) (hT : T ≤ 990000) (hs : s < 5) : sumI (fun l => F (2 + 52 * l + (7 + s))) (F 0).toNat = S5 F (7 + s) := S5_n (h.S.m (by omega)) h.Z (7 + s) (by omega)
theorem tkA_60 (h : J F z0 T) : tkA F ≤ 60 := by
  have i0 := h.id 0 (by decide)
  have i1 := h.id 1 (by decide)
  have i2 := h.id 2 (by decide)
  have i3 := h.id 3 (by decide)
  have i4 := h.id 4 (by decide)
  have fr := h.fr
  unfold idle S5 at i0 i1 i2 i3 i4
  unfold free S5 at fr
  unfold tkA tk borr
  simp only [sumI_5] at *
  omega
theorem tkA_up {k : Nat} (v : Int) (hs : s < 5) (hk : k < 52) : tkA (up F (2 + 52 * s + k) v) = tkA F + (if k = 2 ∨ k = 3 ∨ (7 ≤ k ∧ k < 12) then v - F (2 + 52 * s + k) else 0) := by
  unfold tkA
  rw [sumI_5, sumI_5, tk_up v hs hk (by decide : 0 < 5), tk_up v hs hk (by decide : 1 < 5), tk_up v hs hk (by decide : 2 < 5), tk_up v hs hk (by decide : 3 < 5), tk_up v hs hk (by decide : 4 < 5)]
  by_cases c : k = 2 ∨ k = 3 ∨ (7 ≤ k ∧ k < 12)
  · have q : s = 0 ∨ s = 1 ∨ s = 2 ∨ s = 3 ∨ s = 4 := by omega
    rcases q with q | q | q | q | q <;> subst q <;> simp [c] <;> omega
  · simp [c]
theorem tkA_p {k : Nat} (hs : s < 5) (hk : k < 52) (c : k = 2 ∨ k = 3 ∨ (7 ≤ k ∧ k < 12)) : tkA (inc F (2 + 52 * s + k)) = tkA F + 1 := by
  unfold inc
  rw [tkA_up _ hs hk, if_pos c]
  omega
theorem tkA_m {k : Nat} (hs : s < 5) (hk : k < 52) (c : k = 2 ∨ k = 3 ∨ (7 ≤ k ∧ k < 12)) : tkA (dec F (2 + 52 * s + k)) = tkA F - 1 := by
  unfold dec
  rw [tkA_up _ hs hk, if_pos c]
  omega
theorem tkA_k {k : Nat} (v : Int) (hs : s < 5) (hk : k < 52) (c : ¬ (k = 2 ∨ k = 3 ∨ (7 ≤ k ∧ k < 12))) : tkA (up F (2 + 52 * s + k) v) = tkA F := by
  rw [tkA_up _ hs hk, if_neg c]
  omega
theorem tkA_cg {F' : Nat → Int} (h : ∀ k, k < 262 → F k = F' k) : tkA F = tkA F' := sumI_cg (fun s hs => tk_cg h hs)
theorem tkA_clock (v : Int) : tkA (up F 1 v) = tkA F := sumI_cg (fun b hb => by
  unfold tk borr
  rw [up_n _ _ (by omega), up_n _ _ (by omega), sumI_cg (fun l hl => up_n F v (by omega))])
theorem S5_clock (v : Int) (k : Nat) : S5 (up F 1 v) k = S5 F k := sumI_cg (fun b hb => up_n _ _ (by omega))
theorem reh_tkA {b : Nat} (hb : b < 5) (hl : lender F b s ≠ -1 → lender F b s < 5 ∧ -1 ≤ lender F b s) : tkA (rehouse F b s) = tkA F + (if rehouseL F b s = -1 then 1 else 0) := by
  unfold rehouse rehouseL
  by_cases c1 : 0 < idle F b
  · rw [if_pos c1, if_pos c1, tkA_p hb (by omega) (by omega), if_pos rfl]
  · rw [if_neg c1, if_neg c1]
    by_cases c2 : 0 < free F
    · rw [if_pos c2, if_pos c2, tkA_p hb (by omega) (by omega), if_pos rfl]
    · rw [if_neg c2, if_neg c2]
      by_cases c3 : lender F b s = -1
      · rw [if_pos c3, if_pos c3, if_neg (by omega)]
        have hlb := least_b F b
        unfold lose inc
        rw [tkA_k (k := 5) _ hb (by omega) (by omega)]
        by_cases c4 : least F b = -1
        · rw [if_pos c4]; omega
        · rw [if_neg c4, tkA_k _ hb (by omega) (by omega)]; omega
      · have := hl c3
        rw [if_neg c3, if_neg c3, tkA_p hb (by omega) (by omega), if_pos rfl]
theorem recall_tkA (h : J F dl T) (hT : T ≤ 980000) (hs : s < 5) (hn : (s : Int) < F 0) (hp : 0 < S5 F (7 + s)) : tkA (recall F s) = tkA F - 1 + (if recallL F s = -1 then 1 else 0) := by
  obtain ⟨h1, h2, h3, h4, h5⟩ := h.rcl (by omega) hs hn hp
  have hlb := lender_b (h1.S.m (by omega)) (mostOf F s) s
  unfold recall recallL
  rw [reh_tkA h2 (fun _ => by omega)]
  have e : tkA (rc1 F s) = tkA F - 1 := by
    have a : tkA (rc1 F s) = tkA (dec F (2 + 52 * mostOf F s + (7 + s))) := by
      unfold rc1 inc
      exact tkA_k (k := 4) _ hs (by omega) (by omega)
    rw [a, tkA_m h2 (by omega) (by omega)]
  rw [e]
theorem need_tkA (h : J F dl T) (hT : T ≤ 980000) (hs : s < 5) (hn : (s : Int) < F 0) : tkA (needF F s) = tkA F + (if needR F s = 5 then 0 else 1) - (if needL F s = -1 then 0 else 1) := by
  have hlb := lender_b (h.S.m (by omega)) s s
  unfold needF needL needR
  by_cases c : F (2 + 52 * s + 1) ≤ tk F s
  · rw [if_pos c, if_pos c, if_pos c]; simp
  · rw [if_neg c, if_neg c, if_neg c]
    by_cases c2 : F (2 + 52 * s + 2) < F (2 + 52 * s + 0)
    · rw [if_pos c2, if_pos c2, if_pos c2]
      by_cases c3 : 0 < idle F s
      · rw [if_pos c3, if_pos c3, if_pos c3, tkA_p hs (by omega) (by omega)]; simp
      · rw [if_neg c3, if_neg c3, if_neg c3]
        have hid : idle F s = F (2 + 52 * s + 0) - F (2 + 52 * s + 2) - S5 F (7 + s) := rfl
        have a := recall_tkA h hT hs hn (by omega)
        rw [tkA_p hs (by omega) (by omega), a]
        by_cases q : recallL F s = -1
        · rw [if_pos q, if_pos q, if_neg (by omega)]; omega
        · rw [if_neg q, if_neg q, if_neg (by omega)]; omega
    · rw [if_neg c2, if_neg c2, if_neg c2]
      by_cases c3 : 0 < free F
      · rw [if_pos c3, if_pos c3, tkA_p hs (by omega) (by omega)]; simp
      · rw [if_neg c3, if_neg c3]
        by_cases c4 : lender F s s = -1
        · rw [if_pos c4, if_pos c4]; simp
        · rw [if_neg c4, if_neg c4, tkA_p hs (by omega) (by omega)]; simp
theorem need_S5 (h : J F dl T) (hT : T ≤ 980000) (hs : s < 5) (hn : (s : Int) < F 0) : S5 (needF F s) 5 = S5 F 5 + (if needL F s = -1 then 0 else 1) := by
  have a0 := need_lost h hT hs hn (t := 0) (by decide)
  have a1 := need_lost h hT hs hn (t := 1) (by decide)
  have a2 := need_lost h hT hs hn (t := 2) (by decide)
  have a3 := need_lost h hT hs hn (t := 3) (by decide)
  have a4 := need_lost h hT hs hn (t := 4) (by decide)
  have hn5 := h.n
  unfold S5
  rw [sumI_5, sumI_5]
  by_cases q : needL F s = -1
  · simp only [q, if_true] at *
    omega
  · have hb := needL_n h hT hs hn q
    have q9 : needL F s = 0 ∨ needL F s = 1 ∨ needL F s = 2 ∨ needL F s = 3 ∨ needL F s = 4 := by omega
    rcases q9 with q9 | q9 | q9 | q9 | q9 <;> rw [q9] at a0 a1 a2 a3 a4 ⊢ <;> simp at a0 a1 a2 a3 a4 ⊢ <;> omega
theorem wr_count (h : J F z0 T) (hT : T ≤ 900000) (hs : s < 5) (hn : (s : Int) < F 0) {p : Nat} (hp : p < 40) : tkA (wrF F s p) = tkA F + (if wrR F s p = 0 ∨ wrR F s p = 5 then 0 else 1 - S5 (wrF F s p) 5 + S5 F 5) := by
  have et : ∀ G : Nat → Int, tkA (tick G s p) = tkA G ∧ S5 (tick G s p) 5 = S5 G 5 := fun G => by
    unfold tick inc
    refine ⟨?_, ?_⟩
    · rw [tkA_up _ hs (by omega), if_neg (by omega), tkA_clock]
      omega
    · rw [S5_up _ hs (by omega) (by omega), if_neg (by omega), S5_clock]
      omega
  unfold wrF wrR
  by_cases c : 0 < F (2 + 52 * s + (12 + p))
  · rw [if_pos c, if_pos c, (et F).1]
    simp
  · rw [if_neg c, if_neg c]
    have hb := needR_b F s
    by_cases c2 : needR F s = 5
    · rw [if_pos c2, if_pos (Or.inr c2), (needR_5 c2).1]
      unfold inc
      rw [tkA_up _ hs (by omega), if_neg (by omega)]
    · have hne : needR F s ≠ 0 := by
        unfold needR
        (repeat' split) <;> omega
      rw [if_neg c2, if_neg (by omega), (et _).1, (et _).2, need_tkA h (by omega) hs hn, need_S5 h (by omega) hs hn, if_neg c2]
      omega
/-! room, harm, victim -/
theorem gF_S5 (h : J F z0 T) (hT : T ≤ 900000) (hs : s < 5) (hn : (s : Int) < F 0) : ∀ k : Nat, k ≤ 100 → S5 (gF F s (k + 1)) 5 = S5 (gF F s k) 5 + (if needL (gF F s k) s = -1 then 0 else 1) := fun k hk => by
  obtain ⟨dl', h1, h2, h3⟩ := h.gr hs hn (fun _ _ _ => rfl) k (by omega)
  exact need_S5 h2 (by omega) hs (by rw [h3]; exact hn)
theorem gF_lost (h : J F z0 T) (hT : T ≤ 900000) (hs : s < 5) (hn : (s : Int) < F 0) : ∀ k : Nat, k ≤ 100 → (0 ≤ S5 (gF F s k) 5 - S5 F 5 ∧ S5 (gF F s k) 5 - S5 F 5 ≤ k) ∧ (0 < S5 (gF F s k) 5 - S5 F 5 ↔ gL F s k ≠ -1)
  | 0, _ => by simp [gF, gL]
  | k + 1, hk => by
    obtain ⟨⟨a1, a2⟩, a3⟩ := gF_lost h hT hs hn k (by omega)
    have e := gF_S5 h hT hs hn k (by omega)
    have eL : gL F s (k + 1) = (if gL F s k = -1 then needL (gF F s k) s else gL F s k) := rfl
    rw [e, eL]
    by_cases q : needL (gF F s k) s = -1
    · rw [if_pos q]
      refine ⟨⟨by omega, by omega⟩, ?_⟩
      rw [Int.add_zero, a3]
      by_cases c : gL F s k = -1
      · rw [if_pos c, q]; simp [c]
      · rw [if_neg c]
    · rw [if_neg q]
      refine ⟨⟨by omega, by omega⟩, ⟨fun _ => ?_, fun _ => by omega⟩⟩
      by_cases c : gL F s k = -1
      · rw [if_pos c]; exact q
      · rw [if_neg c]; exact c
theorem gF_mono (h : J F z0 T) (hT : T ≤ 900000) (hs : s < 5) (hn : (s : Int) < F 0) (j : Nat) : ∀ i : Nat, j + i ≤ 100 → S5 (gF F s j) 5 ≤ S5 (gF F s (j + i)) 5
  | 0, _ => Int.le_refl _
  | i + 1, hi => by
    have a := gF_mono h hT hs hn j i (by omega)
    have e := gF_S5 h hT hs hn (j + i) (by omega)
    rw [show j + (i + 1) = j + i + 1 by omega, e]
    split <;> omega
theorem gN_mono (F : Nat → Int) (s : Nat) : ∀ n d i : Nat, gN F s n i ≤ gN F s (n + d) i
  | 0, d, i => (gN_b F s (0 + d) i).1
  | n + 1, d, i => by
    have a := gN_mono F s n d (i + 1)
    rw [show n + 1 + d = (n + d) + 1 by omega]
    simp only [gN]
    split <;> omega
theorem room_pos (F : Nat → Int) (s : Nat) : 0 < ((gN F s 61 0 : Nat) : Int) ↔ needR F s ≠ 5 := by
  show 0 < (((if needR (gF F s 0) s = 5 then 0 else gN F s 60 1) : Nat) : Int) ↔ _
  have b := gN_b F s 60 1
  show 0 < (((if needR F s = 5 then 0 else gN F s 60 1) : Nat) : Int) ↔ _
  by_cases c : needR F s = 5
  · rw [if_pos c]; simp [c]
  · rw [if_neg c]
    exact ⟨fun _ => c, fun _ => by omega⟩
/-- what holds of room, harm, victim -/
theorem harm_all (h : J F z0 T) (hT : T ≤ 900000) (hs : s < 5) (hn : (s : Int) < F 0) : (0 < S5 (gF F s (gN F s 60 0)) 5 - S5 F 5 ↔ gL F s (gN F s 61 0) ≠ -1) ∧ (∀ k : Nat, k ≤ 60 → S5 (gF F s (gN F s k 0)) 5 - S5 F 5 ≤ S5 (gF F s (gN F s 60 0)) 5 - S5 F 5) ∧ S5 (gF F s (gN F s 0 0)) 5 - S5 F 5 = 0 ∧ S5 (gF F s (gN F s 60 0)) 5 - S5 F 5 ≤ ((gN F s 61 0 : Nat) : Int) ∧ 0 ≤ S5 (gF F s (gN F s 60 0)) 5 - S5 F 5 ∧ gN F s 61 0 ≤ 60 := by
  have e61 := gN_61 h (by omega) hs hn
  have b := gN_b F s 60 0
  have l := gF_lost h hT hs hn (gN F s 60 0) (by omega)
  rw [e61]
  refine ⟨l.2, fun k hk => ?_, ?_, l.1.2, l.1.1, by omega⟩
  · have m1 := gN_mono F s k (60 - k) 0
    rw [show k + (60 - k) = 60 by omega] at m1
    have m2 := gF_mono h hT hs hn (gN F s k 0) (gN F s 60 0 - gN F s k 0) (by omega)
    rw [show gN F s k 0 + (gN F s 60 0 - gN F s k 0) = gN F s 60 0 by omega] at m2
    omega
  · show S5 F 5 - S5 F 5 = 0
    omega
/-! the pages in the order of their times -/
theorem mxp (F : Nat → Int) (s : Nat) : ∀ n : Nat, (∀ p, p < n → F (2 + 52 * s + (12 + p)) ≤ 0) ∨ ∃ m, m < n ∧ 0 < F (2 + 52 * s + (12 + m)) ∧ ∀ p, p < n → F (2 + 52 * s + (12 + p)) ≤ F (2 + 52 * s + (12 + m))
  | 0 => Or.inl (fun p hp => absurd hp (Nat.not_lt_zero _))
  | n + 1 => by
    rcases mxp F s n with h | ⟨m, h1, h2, h3⟩
    · by_cases c : F (2 + 52 * s + (12 + n)) ≤ 0
      · refine Or.inl (fun p hp => ?_)
        by_cases e : p = n
        · rw [e]; exact c
        · exact h p (by omega)
      · refine Or.inr ⟨n, by omega, by omega, fun p hp => ?_⟩
        by_cases e : p = n
        · rw [e]; exact Int.le_refl _
        · have := h p (by omega); omega
    · by_cases c : F (2 + 52 * s + (12 + n)) ≤ F (2 + 52 * s + (12 + m))
      · refine Or.inr ⟨m, by omega, h2, fun p hp => ?_⟩
        by_cases e : p = n
        · rw [e]; exact c
        · exact h3 p (by omega)
      · refine Or.inr ⟨n, by omega, by omega, fun p hp => ?_⟩
        by_cases e : p = n
        · rw [e]; exact Int.le_refl _
        · have := h3 p (by omega); omega
theorem pg_cb (h : J F z0 T) (hs : s < 5) {m : Nat} (hm : m < 40) (h0 : 0 < F (2 + 52 * s + (12 + m))) (hx : ∀ p, p < 40 → F (2 + 52 * s + (12 + p)) ≤ F (2 + 52 * s + (12 + m))) : pgc F s = cb F s (F (2 + 52 * s + (12 + m))) 40 + 1 := by
  rw [← cb_one (F := F) (s := s) (p := m) (t' := F (2 + 52 * s + (12 + m)) + 1) hm (fun q hq hne => ?_) ⟨h0, by omega⟩ (by omega)]
  · unfold pgc cb
    exact sumI_cg (fun q hq => pI_c ⟨fun z => ⟨z, by have := hx q hq; omega⟩, fun z => z.1⟩)
  · have d := hx q hq
    constructor
    · intro z
      have e := h.ds s q m hs hq hm hne z.1
      exact ⟨z.1, by omega⟩
    · intro z
      exact ⟨z.1, by omega⟩
theorem pg_ne (h : J F z0 T) (hs : s < 5) {k : Nat} (hk : (k : Int) < pgc F s) : pba F s k ≠ -1 := fun e => by
  have c := (pba_c h hs k).2 e
  rcases mxp F s 40 with q | ⟨m, h1, h2, h3⟩
  · have z : pgc F s = 0 := pgc_zero q
    omega
  · have a := pg_cb h hs h1 h2 h3
    have b := c m h1 h2
    omega
theorem pg_end (h : J F z0 T) (hs : s < 5) {k : Nat} (hk : (k : Int) = pgc F s) : pba F s k = -1 := by
  by_cases e : pba F s k = -1
  · exact e
  · exfalso
    obtain ⟨h1, h2⟩ := (pba_c h hs k).1 e
    have hb := pba_b (F := F) s k
    generalize hm : (pba F s k).toNat = m at *
    have a : cb F s (F (2 + 52 * s + (12 + m))) 40 + 1 ≤ pgc F s := by
      unfold pgc cb
      refine sumI_lt (p := m) (by omega) (fun q _ => pI_le (fun z => z.1)) ?_
      show pI _ + 1 ≤ pI _
      rw [pI_f (by omega), pI_t h1]
      omega
    omega
theorem pgc_b (F : Nat → Int) (s : Nat) : 0 ≤ pgc F s ∧ pgc F s ≤ 40 := by
  have := sumI_b (f := fun p => pI (0 < F (2 + 52 * s + (12 + p)))) (n := 40) (M := 1) (fun k _ => pI_rg _)
  unfold pgc
  omega
theorem pgc_full : ∀ n : Nat, (∀ p, p < n → 0 < F (2 + 52 * s + (12 + p))) → sumI (fun p => pI (0 < F (2 + 52 * s + (12 + p)))) n = n
  | 0, _ => rfl
  | n + 1, h => by
    have a := pgc_full n (fun p hp => h p (by omega))
    show sumI (fun p => pI (0 < F (2 + 52 * s + (12 + p)))) n + pI (0 < F (2 + 52 * s + (12 + n))) = _
    rw [a, pI_t (h n (by omega))]
    omega
theorem page_free (h : J F z0 T) (hT : T ≤ 900000) (hs : s < 5) (hne : tk F s ≠ 40) : ∃ p, p < 40 ∧ F (2 + 52 * s + (12 + p)) = 0 := by
  apply Classical.byContradiction
  intro hc
  apply hne
  have hp := h.pg s hs
  have e : pgc F s = 40 := pgc_full (F := F) (s := s) 40 (fun p hp => by
    have hb := (h.S.m (by omega)).f s (12 + p) hs (by omega)
    by_cases z : F (2 + 52 * s + (12 + p)) = 0
    · exact absurd ⟨p, hp, z⟩ hc
    · omega)
  have ez : z0 s = 0 := rfl
  omega
theorem tk_pgc (h : J F z0 T) (hs : s < 5) : tk F s = pgc F s := by
  have hp := h.pg s hs
  have ez : z0 s = 0 := rfl
  omega
def tmo (F : Nat → Int) (s i : Nat) : Int := F (2 + 52 * s + (12 + (od F s (i : Int) 40 0).toNat))
theorem od_in (h : J F z0 T) (hs : s < 5) {i : Nat} (hi : (i : Int) < tk F s) : (0 ≤ od F s (i : Int) 40 0 ∧ od F s (i : Int) 40 0 < 40) ∧ 0 < tmo F s i ∧ tmo F s i ≤ F 1 ∧ ∀ j : Nat, j + 1 = i → tmo F s j < tmo F s i := by
  have hb := pgc_b F s
  have ht := tk_pgc h hs
  have e := od_pba h hs (y := (i : Int)) (k := i) rfl
  rw [if_pos (by omega)] at e
  have hne := pg_ne h hs (k := i) (by omega)
  have pb := pba_b (F := F) s i
  have c := (pba_c h hs i).1 hne
  unfold tmo
  rw [← e]
  refine ⟨⟨by omega, by omega⟩, c.1, h.ck s _ hs (by omega), fun j hj => ?_⟩
  have e2 := od_pba h hs (y := (j : Int)) (k := j) rfl
  rw [if_pos (by omega)] at e2
  rw [← e2]
  have hne2 := pg_ne h hs (k := j) (by omega)
  subst hj
  have e3 : pba F s (j + 1) = oa F s (F (2 + 52 * s + (12 + (pba F s j).toNat))) 40 := by simp only [pba]; rw [if_neg hne2]
  rw [e3] at hne ⊢
  exact oa_some hne
theorem od_end (h : J F z0 T) (hs : s < 5) : od F s (tk F s) 40 0 = -1 := by
  have hb := pgc_b F s
  have ht := tk_pgc h hs
  have e := od_pba h hs (y := tk F s) (k := (tk F s).toNat) (by omega)
  rw [← e]
  by_cases c : tk F s < 40
  · rw [if_pos c]
    exact pg_end h hs (by omega)
  · rw [if_neg c]
end PUL

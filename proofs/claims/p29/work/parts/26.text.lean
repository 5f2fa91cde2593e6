/-! ===== the text: n signs of TX ===== -/
def tdg (TX : Nat → Int) (n p : Nat) : Int := if p < n then TX p - 48 else -1
/-- a figure f, behind line, times u -/
abbrev fok (f line u lo hi : Int) : Prop := (0 ≤ f ∧ f ≤ 9) ∧ line + f * u ≤ hi ∧ lo ≤ line + f * u + u - 1
def fgV (TX : Nat → Int) (n : Nat) (b d lo hi : Int) (p : Nat) : Int :=
  if b = -1 then -1 else if d = 2 then (if fok (tdg TX n p) 0 10 lo hi then (if fok (tdg TX n (p + 1)) (tdg TX n p * 10) 1 lo hi then tdg TX n p * 10 + tdg TX n (p + 1) else -1) else -1) else (if fok (tdg TX n p) 0 1 lo hi then tdg TX n p else -1)
def fgP (TX : Nat → Int) (n : Nat) (b d lo hi : Int) (p : Nat) : Nat :=
  if b = -1 then p else if d = 2 then (if fok (tdg TX n p) 0 10 lo hi then (if fok (tdg TX n (p + 1)) (tdg TX n p * 10) 1 lo hi then p + 2 else p + 1) else p) else (if fok (tdg TX n p) 0 1 lo hi then p + 1 else p)
theorem fgP_b (TX : Nat → Int) (n : Nat) (b d lo hi : Int) (p : Nat) (h : p ≤ n) : p ≤ fgP TX n b d lo hi p ∧ fgP TX n b d lo hi p ≤ n := by
  have h1 : 0 ≤ tdg TX n p → p < n := fun q => by
    unfold tdg at q
    split at q <;> omega
  have h2 : 0 ≤ tdg TX n (p + 1) → p + 1 < n := fun q => by
    unfold tdg at q
    split at q <;> omega
  unfold fgP
  split
  · omega
  · split
    · split
      · rename_i h3
        have := h1 h3.1.1
        split
        · rename_i h4
          have := h2 h4.1.1
          omega
        · omega
      · omega
    · split
      · rename_i h3
        have := h1 h3.1.1
        omega
      · omega
theorem fgV_b (TX : Nat → Int) (n : Nat) (b d lo hi : Int) (p : Nat) (h : 0 ≤ lo) : -1 ≤ fgV TX n b d lo hi p ∧ (fgV TX n b d lo hi p ≠ -1 → lo ≤ fgV TX n b d lo hi p ∧ fgV TX n b d lo hi p ≤ hi) ∧ fgV TX n b d lo hi p ≤ 99 ∧ (b = -1 → fgV TX n b d lo hi p = -1) := by
  unfold fgV
  (repeat' split) <;> omega
theorem up_id {F : Nat → Int} {k : Nat} {x : Int} (h : F k = x) : up F k x = F := funext fun j => by
  by_cases e : j = k
  · rw [up_e _ _ e, e, h]
  · rw [up_n _ _ e]
/-! a run of writes -/
def wrs (F : Nat → Int) (s q : Nat) : Nat → (Nat → Int)
  | 0 => F
  | k + 1 => wrF (wrs F s q k) s (q + k)
def rsF (F : Nat → Int) (s q z : Nat) : Nat → Int := if (s : Int) < F 0 then wrs F s q (z + 1 - q) else F
theorem J.wrs {F : Nat → Int} {T : Int} (h : J F z0 T) {s : Nat} (hs : s < 5) (hn : (s : Int) < F 0) {q : Nat} : ∀ k : Nat, q + k ≤ 40 → T + 6 * k ≤ 970000 → J (wrs F s q k) z0 (T + 6 * k) ∧ wrs F s q k 0 = F 0
  | 0, _, _ => ⟨h.mono (by omega), rfl⟩
  | k + 1, hq, hT => by
    obtain ⟨h1, h2⟩ := h.wrs hs hn (q := q) k (by omega) (by omega)
    obtain ⟨g1, g2⟩ := h1.wr (p := q + k) (by omega) hs (by omega) (by omega)
    exact ⟨g1.mono (by omega), g2.trans h2⟩
def cmF (c x y z : Int) (F : Nat → Int) : Nat → Int :=
  if c = 115 then (if whyMk F x y = 0 then mkF F x y else F)
  else if c = 119 then (if x < F 0 then wrF F x.toNat y.toNat else F)
  else if c = 116 then (if x < F 0 ∧ 0 < F (2 + 52 * x.toNat + (12 + y.toNat)) then trF F x.toNat y.toNat else F)
  else if c = 102 then (if whyFl F x x.toNat y = 0 then up F (2 + 52 * x.toNat + 0) y else F)
  else rsF F x.toNat y.toNat z.toNat
def cmD (c x y z : Int) (F : Nat → Int) : Int :=
  if c = 115 then pI (whyMk F x y = 0)
  else if c = 119 then pI (x < F 0)
  else if c = 116 then pI (x < F 0 ∧ 0 < F (2 + 52 * x.toNat + (12 + y.toNat)))
  else if c = 102 then pI (whyFl F x x.toNat y = 0)
  else pI (z < y ∨ x < F 0)
theorem cmD_b (c x y z : Int) (F : Nat → Int) : 0 ≤ cmD c x y z F ∧ cmD c x y z F ≤ 1 := by
  unfold cmD
  (repeat' split) <;> exact pI_rg _
theorem whyMk_0 {F : Nat → Int} {x y : Int} (h5 : F 0 ≤ 5) (h : whyMk F x y = 0) : okMk F x y := by
  unfold whyMk at h
  (repeat' split at h) <;> first | omega | (refine ⟨?_, ?_, ?_⟩ <;> omega)
theorem whyFl_0 {F : Nat → Int} {x : Int} {s : Nat} {v : Int} (h : whyFl F x s v = 0) : (0 ≤ x ∧ x < F 0) ∧ (0 ≤ v ∧ v ≤ 60) ∧ okFl F s v := by
  unfold whyFl at h
  (repeat' split at h) <;> first | omega | (refine ⟨?_, ?_, ?_⟩ <;> first | omega | assumption)
theorem whyCe_0 {F : Nat → Int} {x : Int} {s : Nat} {v : Int} (h : whyCe F x s v = 0) : (0 ≤ x ∧ x < F 0) ∧ okCe F s v := by
  unfold whyCe at h
  (repeat' split at h) <;> first | omega | (refine ⟨?_, ?_⟩ <;> first | omega | assumption)
/-- what a command's letter and numbers may be -/
def cmOk (c x y z : Int) : Prop := (c = 115 ∧ 0 ≤ x ∧ x ≤ 60 ∧ 0 ≤ y ∧ y ≤ 60) ∨ ((c = 119 ∨ c = 116) ∧ 0 ≤ x ∧ x ≤ 4 ∧ 0 ≤ y ∧ y ≤ 39) ∨ (c = 102 ∧ 0 ≤ x ∧ x ≤ 4 ∧ 0 ≤ y ∧ y ≤ 60) ∨ (c = 114 ∧ 0 ≤ x ∧ x ≤ 4 ∧ 0 ≤ y ∧ y ≤ 39 ∧ 0 ≤ z ∧ z ≤ 39)
theorem J.cmd {F : Nat → Int} {T : Int} (h : J F z0 T) (h60 : 60 ≤ T) (hT : T ≤ 960000) {c x y z : Int} (ho : cmOk c x y z) : J (cmF c x y z F) z0 (T + 240) := by
  have hS := h.S
  have hn := h.n
  have h0 : J F z0 (T + 240) := h.mono (by omega)
  unfold cmF
  rcases ho with ho | ho | ho | ho
  · rw [if_pos ho.1]
    split
    · rename_i h2
      exact (h.mk h60 (whyMk_0 hn.2 h2)).1.mono (by omega)
    · exact h0
  · rw [if_neg (by omega)]
    split
    · split
      · exact (h.wr (s := x.toNat) (p := y.toNat) (by omega) (by omega) (by omega) (by omega)).1.mono (by omega)
      · exact h0
    · rw [if_pos (by omega)]
      split
      · rename_i h3
        exact (h.tr (s := x.toNat) (p := y.toNat) (by omega) (by omega) (by omega) (by omega) h3.2).1.mono (by omega)
      · exact h0
  · rw [if_neg (by omega), if_neg (by omega), if_neg (by omega), if_pos ho.1]
    split
    · rename_i h2
      obtain ⟨g1, g2, g3⟩ := whyFl_0 h2
      exact (h.bnd (s := x.toNat) (k := 0) h60 (by omega) (by omega) (by omega) g2 (fun _ => g3) (fun q => absurd q (by omega))).1.mono (by omega)
    · exact h0
  · rw [if_neg (by omega), if_neg (by omega), if_neg (by omega), if_neg (by omega)]
    unfold rsF
    split
    · exact (h.wrs (s := x.toNat) (q := y.toNat) (by omega) (by omega) (z.toNat + 1 - y.toNat) (by omega) (by omega)).1.mono (by omega)
    · exact h0
/-! a command at p -/
abbrev rcL (c : Int) : Prop := c = 115 ∨ c = 119 ∨ c = 116 ∨ c = 102 ∨ c = 114
def rcX (TX : Nat → Int) (n p : Nat) : Int := fgV TX n 0 (if TX p = 115 then 2 else 1) 0 (if TX p = 115 then 60 else 4) (p + 1)
def rc1P (TX : Nat → Int) (n p : Nat) : Nat := fgP TX n 0 (if TX p = 115 then 2 else 1) 0 (if TX p = 115 then 60 else 4) (p + 1)
def rcY (TX : Nat → Int) (n p : Nat) : Int := fgV TX n (rcX TX n p) 2 (if TX p = 115 then 1 else 0) (if TX p = 115 ∨ TX p = 102 then 60 else 39) (rc1P TX n p)
def rc2P (TX : Nat → Int) (n p : Nat) : Nat := fgP TX n (rcX TX n p) 2 (if TX p = 115 then 1 else 0) (if TX p = 115 ∨ TX p = 102 then 60 else 39) (rc1P TX n p)
def rcZ (TX : Nat → Int) (n p : Nat) : Int := if TX p = 114 then fgV TX n (rcY TX n p) 2 0 39 (rc2P TX n p) else rcY TX n p
def rc3P (TX : Nat → Int) (n p : Nat) : Nat := if TX p = 114 then fgP TX n (rcY TX n p) 2 0 39 (rc2P TX n p) else rc2P TX n p
abbrev rcOk (TX : Nat → Int) (n p : Nat) : Prop := rcL (TX p) ∧ rcZ TX n p ≠ -1
def rcP (TX : Nat → Int) (n p : Nat) : Nat := if rcL (TX p) then rc3P TX n p else p
def rcF (TX : Nat → Int) (n p : Nat) (F : Nat → Int) : Nat → Int := if rcOk TX n p then cmF (TX p) (rcX TX n p) (rcY TX n p) (rcZ TX n p) F else F
def rcD (TX : Nat → Int) (n p : Nat) (F : Nat → Int) : Int := if rcOk TX n p then 1 - cmD (TX p) (rcX TX n p) (rcY TX n p) (rcZ TX n p) F else 0
theorem rc_ok {TX : Nat → Int} {n p : Nat} (h : rcOk TX n p) : cmOk (TX p) (rcX TX n p) (rcY TX n p) (rcZ TX n p) := by
  obtain ⟨hL, hz⟩ := h
  have hx := fgV_b TX n 0 (if TX p = 115 then 2 else 1) 0 (if TX p = 115 then 60 else 4) (p + 1) (by omega)
  have hy := fgV_b TX n (rcX TX n p) 2 (if TX p = 115 then 1 else 0) (if TX p = 115 ∨ TX p = 102 then 60 else 39) (rc1P TX n p) (by split <;> omega)
  have hzz := fgV_b TX n (rcY TX n p) 2 0 39 (rc2P TX n p) (by omega)
  unfold rcZ at hz ⊢
  change -1 ≤ rcX TX n p ∧ (rcX TX n p ≠ -1 → _ ≤ rcX TX n p ∧ rcX TX n p ≤ _) ∧ rcX TX n p ≤ 99 ∧ _ at hx
  change -1 ≤ rcY TX n p ∧ (rcY TX n p ≠ -1 → _ ≤ rcY TX n p ∧ rcY TX n p ≤ _) ∧ rcY TX n p ≤ 99 ∧ (rcX TX n p = -1 → rcY TX n p = -1) at hy
  have hY : rcY TX n p ≠ -1 := by
    intro h
    split at hz
    · exact hz (hzz.2.2.2 h)
    · exact hz h
  have hX : rcX TX n p ≠ -1 := fun h => hY (hy.2.2.2 h)
  have gx := hx.2.1 hX
  have gy := hy.2.1 hY
  have ge := hzz.2.1
  generalize fgV TX n (rcY TX n p) 2 0 39 (rc2P TX n p) = zz at *
  unfold cmOk
  rcases hL with h | h | h | h | h <;> simp only [h, if_true, if_false, Int.reduceEq, or_false, false_or, true_or, or_true, true_and, false_and, and_true] at * <;> omega
theorem J.rc {F : Nat → Int} {T : Int} (h : J F z0 T) (h60 : 60 ≤ T) (hT : T ≤ 960000) (TX : Nat → Int) (n p : Nat) : J (rcF TX n p F) z0 (T + 240) := by
  unfold rcF
  split
  · rename_i h2
    exact h.cmd h60 hT (rc_ok h2)
  · exact h.mono (by omega)
theorem rcD_b (TX : Nat → Int) (n p : Nat) (F : Nat → Int) : 0 ≤ rcD TX n p F ∧ rcD TX n p F ≤ 1 := by
  have := cmD_b (TX p) (rcX TX n p) (rcY TX n p) (rcZ TX n p) F
  unfold rcD
  split <;> omega
theorem rcP_b (TX : Nat → Int) (n p : Nat) (h : p < n) : p ≤ rcP TX n p ∧ rcP TX n p ≤ n ∧ (rcOk TX n p → p + 1 ≤ rcP TX n p) := by
  have h1 := fgP_b TX n 0 (if TX p = 115 then 2 else 1) 0 (if TX p = 115 then 60 else 4) (p + 1) (by omega)
  change p + 1 ≤ rc1P TX n p ∧ rc1P TX n p ≤ n at h1
  have h2 := fgP_b TX n (rcX TX n p) 2 (if TX p = 115 then 1 else 0) (if TX p = 115 ∨ TX p = 102 then 60 else 39) (rc1P TX n p) (by omega)
  change rc1P TX n p ≤ rc2P TX n p ∧ rc2P TX n p ≤ n at h2
  have h3 := fgP_b TX n (rcY TX n p) 2 0 39 (rc2P TX n p) (by omega)
  have h4 : rc2P TX n p ≤ rc3P TX n p ∧ rc3P TX n p ≤ n := by unfold rc3P; split <;> omega
  unfold rcP
  split
  · omega
  · rename_i hL
    exact ⟨by omega, by omega, fun q => absurd q.1 hL⟩
/-! the whole text: error, device, commands left out -/
def rtR (TX : Nat → Int) (n : Nat) : Nat → Nat → Int
  | 0, _ => -1
  | k + 1, p => if p < n then (if rcOk TX n p then rtR TX n k (rcP TX n p) else (rcP TX n p : Int)) else -1
def rtF (TX : Nat → Int) (n : Nat) : Nat → Nat → (Nat → Int) → (Nat → Int)
  | 0, _, F => F
  | k + 1, p, F => if p < n then (if rcOk TX n p then rtF TX n k (rcP TX n p) (rcF TX n p F) else F) else F
def rtO (TX : Nat → Int) (n : Nat) : Nat → Nat → (Nat → Int) → Int → Int
  | 0, _, _, o => o
  | k + 1, p, F, o => if p < n then (if rcOk TX n p then rtO TX n k (rcP TX n p) (rcF TX n p F) (o + rcD TX n p F) else o) else o
abbrev txB (TX : Nat → Int) (n : Nat) : Prop := n = 0 ∨ TX 0 ≠ 68
def txE (TX : Nat → Int) (n : Nat) : Int := if txB TX n then 0 else rtR TX n 120 1
def txF (TX : Nat → Int) (n : Nat) : Nat → Int := if txB TX n then z0 else rtF TX n 120 1 z0
def txO (TX : Nat → Int) (n : Nat) : Int := if txB TX n then 0 else rtO TX n 120 1 z0 0
theorem J.rt (TX : Nat → Int) (n : Nat) (hn : n ≤ 120) : ∀ (k p : Nat) (F : Nat → Int), p ≤ 120 → J F z0 (100 + 240 * p) → J (rtF TX n k p F) z0 (100 + 240 * 120)
  | 0, p, F, hp, h => h.mono (by omega)
  | k + 1, p, F, hp, h => by
    simp only [rtF]
    split
    · split
      · rename_i h1 h2
        have hb := rcP_b TX n p h1
        have hb3 := hb.2.2 h2
        exact J.rt TX n hn k _ _ (by omega) ((h.rc (by omega) (by omega) TX n p).mono (by omega))
      · exact h.mono (by omega)
    · exact h.mono (by omega)
theorem J.tx (TX : Nat → Int) (n : Nat) (hn : n ≤ 120) : J (txF TX n) z0 (100 + 240 * 120) := by
  unfold txF
  split
  · exact J.zero (by omega)
  · exact J.rt TX n hn 120 1 z0 (by omega) (J.zero (by omega))

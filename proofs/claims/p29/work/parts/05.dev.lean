/-! ===== a device: 20 cells from d on, and the numbers F that they hold: F 0 spaces, F 1 clock, F (2 + 52 * s + k) of space s ===== -/
def dvo (k : Nat) : Nat := if k < 4 then k + 1 else k + 13
def dvfs (d : Nat) (F : Nat → Int) : List Value := [.int (iI (F 0)), .int (iI (F 1)), .ref (d + 1), .ref (d + 2), .ref (d + 3), .ref (d + 4), .ref (d + 5), .ref (d + 11), .ref (d + 17), .ref (d + 18), .ref (d + 19)]
def dvAt (g : Gt) (d : Nat) (F : Nat → Int) (H : Heap) : Prop :=
  oAt g d 0 (dvfs d F) H ∧ (∀ k, k < 7 → aAt g (d + dvo k) 5 (fun s => F (2 + 52 * s + k)) H) ∧ rAt g (d + 5) 5 (fun s => some (d + 6 + s)) H ∧ (∀ s, s < 5 → aAt g (d + 6 + s) 5 (fun l => F (2 + 52 * s + (7 + l))) H) ∧ rAt g (d + 11) 5 (fun s => some (d + 12 + s)) H ∧ ∀ s, s < 5 → aAt g (d + 12 + s) 40 (fun p => F (2 + 52 * s + (12 + p))) H
def Dvp (d q : Nat) : Prop := d ≤ q ∧ q < d + 20
theorem not_dvp {d q : Nat} (h : q < d ∨ d + 20 ≤ q) : ¬ Dvp d q := fun ⟨h1, h2⟩ => by omega
theorem is_dvp {d q : Nat} (h : d ≤ q ∧ q < d + 20) : Dvp d q := h
theorem dvo_lt {k : Nat} (h : k < 7) : 1 ≤ dvo k ∧ dvo k < 20 ∧ (dvo k < 5 ∨ 16 < dvo k) := by unfold dvo; split <;> omega
theorem dvo_inj {k j : Nat} (hk : k < 7) (hj : j < 7) (h : dvo k = dvo j) : k = j := by unfold dvo at h; split at h <;> split at h <;> omega
section DEV
variable {g : Gt} {d : Nat} {F : Nat → Int} {H H1 : Heap}
theorem dvAt.o (h : dvAt g d F H) : oAt g d 0 (dvfs d F) H := h.1
theorem dvAt.c0 (h : dvAt g d F H) : aAt g (d + 1) 5 (fun s => F (2 + 52 * s + 0)) H := h.2.1 0 (by decide)
theorem dvAt.c1 (h : dvAt g d F H) : aAt g (d + 2) 5 (fun s => F (2 + 52 * s + 1)) H := h.2.1 1 (by decide)
theorem dvAt.c2 (h : dvAt g d F H) : aAt g (d + 3) 5 (fun s => F (2 + 52 * s + 2)) H := h.2.1 2 (by decide)
theorem dvAt.c3 (h : dvAt g d F H) : aAt g (d + 4) 5 (fun s => F (2 + 52 * s + 3)) H := h.2.1 3 (by decide)
theorem dvAt.c4 (h : dvAt g d F H) : aAt g (d + 17) 5 (fun s => F (2 + 52 * s + 4)) H := h.2.1 4 (by decide)
theorem dvAt.c5 (h : dvAt g d F H) : aAt g (d + 18) 5 (fun s => F (2 + 52 * s + 5)) H := h.2.1 5 (by decide)
theorem dvAt.c6 (h : dvAt g d F H) : aAt g (d + 19) 5 (fun s => F (2 + 52 * s + 6)) H := h.2.1 6 (by decide)
theorem dvAt.rl (h : dvAt g d F H) : rAt g (d + 5) 5 (fun s => some (d + 6 + s)) H := h.2.2.1
theorem dvAt.l (h : dvAt g d F H) (s : Nat) (hs : s < 5) : aAt g (d + 6 + s) 5 (fun l => F (2 + 52 * s + (7 + l))) H := h.2.2.2.1 s hs
theorem dvAt.rw (h : dvAt g d F H) : rAt g (d + 11) 5 (fun s => some (d + 12 + s)) H := h.2.2.2.2.1
theorem dvAt.w (h : dvAt g d F H) (s : Nat) (hs : s < 5) : aAt g (d + 12 + s) 40 (fun p => F (2 + 52 * s + (12 + p))) H := h.2.2.2.2.2 s hs
theorem dvAt.kept (h : dvAt g d F H) (hq : ∀ q : Nat, d ≤ q → q < d + 20 → H1[q]? = H[q]?) : dvAt g d F H1 := by
  obtain ⟨h1, h2, h3, h4, h5, h6⟩ := h
  refine ⟨h1.kept (hq _ (by omega) (by omega)), fun k hk => (h2 k hk).kept (hq _ (by omega) (by have := dvo_lt hk; omega)), h3.kept (hq _ (by omega) (by omega)), fun s hs => (h4 s hs).kept (hq _ (by omega) (by omega)), h5.kept (hq _ (by omega) (by omega)), fun s hs => (h6 s hs).kept (hq _ (by omega) (by omega))⟩
theorem dvfs_cg {F' : Nat → Int} (h0 : F 0 = F' 0) (h1 : F 1 = F' 1) : dvfs d F = dvfs d F' := by unfold dvfs; rw [h0, h1]
theorem dvAt.cg {F' : Nat → Int} (h : dvAt g d F H) (hf : ∀ k, k < 262 → F k = F' k) : dvAt g d F' H := by
  obtain ⟨h1, h2, h3, h4, h5, h6⟩ := h
  refine ⟨by rw [← dvfs_cg (hf 0 (by omega)) (hf 1 (by omega))]; exact h1, fun k hk => (h2 k hk).cg (fun s hs => hf _ (by omega)), h3, fun s hs => (h4 s hs).cg (fun l hl => hf _ (by omega)), h5, fun s hs => (h6 s hs).cg (fun p hp => hf _ (by omega))⟩
theorem dvAt.putc (h : dvAt g d F H) (k s : Nat) (hk : k < 7) {x : Int} (h1 : aAt g (d + dvo k) 5 (up (fun s => F (2 + 52 * s + k)) s x) H1) (ho : ∀ b : Nat, b ≠ d + dvo k → H1[b]? = H[b]?) : dvAt g d (up F (2 + 52 * s + k) x) H1 := by
  obtain ⟨g1, g2, g3, g4, g5, g6⟩ := h
  have hk' := dvo_lt hk
  refine ⟨by rw [dvfs_cg (up_n F x (by omega)) (up_n F x (by omega))]; exact g1.kept (ho _ (by omega)), fun j hj => ?_, g3.kept (ho _ (by omega)), fun s' hs' => ((g4 s' hs').kept (ho _ (by omega))).cg (fun l hl => (up_n F x (by omega)).symm), g5.kept (ho _ (by omega)), fun s' hs' => ((g6 s' hs').kept (ho _ (by omega))).cg (fun p hp => (up_n F x (by omega)).symm)⟩
  by_cases hjk : j = k
  · subst hjk
    refine h1.cg (fun s' hs' => ?_)
    by_cases e : s' = s
    · subst e
      rw [up_s, up_s]
    · rw [up_n _ _ e, up_n _ _ (by omega)]
  · have hj' := dvo_lt hj
    have hne : dvo j ≠ dvo k := fun e => hjk (dvo_inj hj hk e)
    exact ((g2 j hj).kept (ho _ (by omega))).cg (fun s' hs' => (up_n F x (by omega)).symm)
theorem dvAt.putl (h : dvAt g d F H) (s l : Nat) (hs : s < 5) (hl : l < 5) {x : Int} (h1 : aAt g (d + 6 + s) 5 (up (fun l => F (2 + 52 * s + (7 + l))) l x) H1) (ho : ∀ b : Nat, b ≠ d + 6 + s → H1[b]? = H[b]?) : dvAt g d (up F (2 + 52 * s + (7 + l)) x) H1 := by
  obtain ⟨g1, g2, g3, g4, g5, g6⟩ := h
  refine ⟨by rw [dvfs_cg (up_n F x (by omega)) (up_n F x (by omega))]; exact g1.kept (ho _ (by omega)), fun j hj => ((g2 j hj).kept (ho _ (by have := dvo_lt hj; omega))).cg (fun s' hs' => (up_n F x (by omega)).symm), g3.kept (ho _ (by omega)), fun s' hs' => ?_, g5.kept (ho _ (by omega)), fun s' hs' => ((g6 s' hs').kept (ho _ (by omega))).cg (fun p hp => (up_n F x (by omega)).symm)⟩
  by_cases e : s' = s
  · subst e
    refine h1.cg (fun l' hl' => ?_)
    by_cases e : l' = l
    · subst e
      rw [up_s, up_s]
    · rw [up_n _ _ e, up_n _ _ (by omega)]
  · exact ((g4 s' hs').kept (ho _ (by omega))).cg (fun l' hl' => (up_n F x (by omega)).symm)
theorem dvAt.putw (h : dvAt g d F H) (s p : Nat) (hs : s < 5) (hp : p < 40) {x : Int} (h1 : aAt g (d + 12 + s) 40 (up (fun p => F (2 + 52 * s + (12 + p))) p x) H1) (ho : ∀ b : Nat, b ≠ d + 12 + s → H1[b]? = H[b]?) : dvAt g d (up F (2 + 52 * s + (12 + p)) x) H1 := by
  obtain ⟨g1, g2, g3, g4, g5, g6⟩ := h
  refine ⟨by rw [dvfs_cg (up_n F x (by omega)) (up_n F x (by omega))]; exact g1.kept (ho _ (by omega)), fun j hj => ((g2 j hj).kept (ho _ (by have := dvo_lt hj; omega))).cg (fun s' hs' => (up_n F x (by omega)).symm), g3.kept (ho _ (by omega)), fun s' hs' => ((g4 s' hs').kept (ho _ (by omega))).cg (fun l hl => (up_n F x (by omega)).symm), g5.kept (ho _ (by omega)), fun s' hs' => ?_⟩
  by_cases e : s' = s
  · subst e
    refine h1.cg (fun p' hp' => ?_)
    by_cases e : p' = p
    · subst e
      rw [up_s, up_s]
    · rw [up_n _ _ e, up_n _ _ (by omega)]
  · exact ((g6 s' hs').kept (ho _ (by omega))).cg (fun p' hp' => (up_n F x (by omega)).symm)
theorem dvAt.put0 (h : dvAt g d F H) {x : Int} (h1 : oAt g d 0 ((dvfs d F).set 0 (.int (iI x))) H1) (ho : ∀ b : Nat, b ≠ d → H1[b]? = H[b]?) : dvAt g d (up F 0 x) H1 := by
  obtain ⟨g1, g2, g3, g4, g5, g6⟩ := h
  refine ⟨?_, fun j hj => ((g2 j hj).kept (ho _ (by have := dvo_lt hj; omega))).cg (fun s' hs' => (up_n F x (by omega)).symm), g3.kept (ho _ (by omega)), fun s' hs' => ((g4 s' hs').kept (ho _ (by omega))).cg (fun l hl => (up_n F x (by omega)).symm), g5.kept (ho _ (by omega)), fun s' hs' => ((g6 s' hs').kept (ho _ (by omega))).cg (fun p hp => (up_n F x (by omega)).symm)⟩
  have e : (dvfs d F).set 0 (.int (iI x)) = dvfs d (up F 0 x) := by
    unfold dvfs
    rw [up_s, up_n F x (by omega)]
    rfl
  exact e ▸ h1
theorem dvAt.put1 (h : dvAt g d F H) {x : Int} (h1 : oAt g d 0 ((dvfs d F).set 1 (.int (iI x))) H1) (ho : ∀ b : Nat, b ≠ d → H1[b]? = H[b]?) : dvAt g d (up F 1 x) H1 := by
  obtain ⟨g1, g2, g3, g4, g5, g6⟩ := h
  refine ⟨?_, fun j hj => ((g2 j hj).kept (ho _ (by have := dvo_lt hj; omega))).cg (fun s' hs' => (up_n F x (by omega)).symm), g3.kept (ho _ (by omega)), fun s' hs' => ((g4 s' hs').kept (ho _ (by omega))).cg (fun l hl => (up_n F x (by omega)).symm), g5.kept (ho _ (by omega)), fun s' hs' => ((g6 s' hs').kept (ho _ (by omega))).cg (fun p hp => (up_n F x (by omega)).symm)⟩
  have e : (dvfs d F).set 1 (.int (iI x)) = dvfs d (up F 1 x) := by
    unfold dvfs
    rw [up_s, up_n F x (by omega)]
    rfl
  exact e ▸ h1
end DEV

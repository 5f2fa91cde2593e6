/-! ===== the model whole: refusal, size, text, now, acts, diary, kept, isKept; the rest is scratch ===== -/
def Mdp (mb q : Nat) : Prop := mb ≤ q ∧ q < mb + 8
theorem is_mdp {mb q : Nat} (h : mb ≤ q ∧ q < mb + 8) : Mdp mb q := h
def MW (g : Gt) (mb : Nat) (rf sz ac : Int) (TX F DIA KEP ISK : Nat → Int) (H : Heap) : Prop :=
  ∃ (M TRI AP : Nat → Int), (∀ k, Rg (M k)) ∧ M 0 = rf ∧ M 1 = sz ∧ M 2 = ac ∧ mdAt g mb M H ∧ aAt g (mb + 1) 120 TX H ∧ aAt g (mb + 2) 262 F H ∧ aAt g (mb + 3) 262 TRI H ∧ aAt g (mb + 4) 3668 DIA H ∧ aAt g (mb + 5) 524 KEP H ∧ zAt g (mb + 6) 2 ISK H ∧ aAt g (mb + 7) 262 AP H
theorem MW.kept {g : Gt} {mb : Nat} {rf sz ac : Int} {TX F DIA KEP ISK : Nat → Int} {H H1 : Heap} (h : MW g mb rf sz ac TX F DIA KEP ISK H) (hq : ∀ q : Nat, mb ≤ q → q < mb + 8 → H1[q]? = H[q]?) : MW g mb rf sz ac TX F DIA KEP ISK H1 := by
  obtain ⟨M, TRI, AP, h1, h2, h3, h4, g1, g2, g3, g4, g5, g6, g7, g8⟩ := h
  exact ⟨M, TRI, AP, h1, h2, h3, h4, g1.kept (hq _ (by omega) (by omega)), g2.kept (hq _ (by omega) (by omega)), g3.kept (hq _ (by omega) (by omega)), g4.kept (hq _ (by omega) (by omega)), g5.kept (hq _ (by omega) (by omega)), g6.kept (hq _ (by omega) (by omega)), g7.kept (hq _ (by omega) (by omega)), g8.kept (hq _ (by omega) (by omega))⟩
theorem setL_k (M : Nat → Int) (x : Int) {k : Nat} (h : k ≠ 3) : setL M x k = M k := by
  unfold setL
  split
  · rfl
  · exact up_n _ _ h
/-- h, but n places from ta on are f's from fa on -/
def cpy (h f : Nat → Int) (ta fa n : Nat) : Nat → Int := fun j => if ta ≤ j ∧ j < ta + n then f (fa + (j - ta)) else h j
theorem cpy_0 (h f : Nat → Int) (ta fa : Nat) : cpy h f ta fa 0 = h := funext fun j => if_neg (by omega)
theorem cpy_s (h f : Nat → Int) (ta fa n : Nat) : up (cpy h f ta fa n) (ta + n) (f (fa + n)) = cpy h f ta fa (n + 1) := funext fun j => by
  by_cases e : j = ta + n
  · rw [up_e _ _ e, e]
    unfold cpy
    rw [if_pos (by omega), show ta + n - ta = n by omega]
  · rw [up_n _ _ e]
    unfold cpy
    by_cases q : ta ≤ j ∧ j < ta + n
    · rw [if_pos q, if_pos (by omega)]
    · rw [if_neg q, if_neg (by omega)]
theorem cpy_in (h f : Nat → Int) {ta fa n j : Nat} (hj : ta ≤ j ∧ j < ta + n) : cpy h f ta fa n j = f (fa + (j - ta)) := if_pos hj
theorem cpy_out (h f : Nat → Int) {ta fa n j : Nat} (hj : ¬ (ta ≤ j ∧ j < ta + n)) : cpy h f ta fa n j = h j := if_neg hj
theorem cpy_all (h f : Nat → Int) {fa n j : Nat} (hj : j < n) : cpy h f 0 fa n j = f (fa + j) := by rw [cpy_in _ _ (by omega)]; rfl
def cb (F : Nat → Int) (s : Nat) (t : Int) (n : Nat) : Int := sumI (fun q => pI (0 < F (2 + 52 * s + (12 + q)) ∧ F (2 + 52 * s + (12 + q)) < t)) n
def od (F : Nat → Int) (s : Nat) (i : Int) : Nat → Nat → Int
  | 0, _ => -1
  | k + 1, p => if 0 < F (2 + 52 * s + (12 + p)) ∧ cb F s (F (2 + 52 * s + (12 + p))) 40 = i then (p : Int) else od F s i k (p + 1)
theorem cb_b (F : Nat → Int) (s : Nat) (t : Int) : ∀ n : Nat, 0 ≤ cb F s t n ∧ cb F s t n ≤ n
  | 0 => by simp [cb, sumI]
  | n + 1 => by
    have h1 := cb_b F s t n
    have h2 := pI_rg (0 < F (2 + 52 * s + (12 + n)) ∧ F (2 + 52 * s + (12 + n)) < t)
    unfold cb at *
    simp only [sumI]
    omega
def noise (F : Nat → Int) (s : Nat) : Int := F (2 + 52 * s + 4) - 2 * F (2 + 52 * s + 5)
def nz (F : Nat → Int) : Nat → Int
  | 0 => -1
  | k + 1 => if nz F k = -1 ∨ noise F (nz F k).toNat < noise F k then (k : Int) else nz F k
theorem nz_b (F : Nat → Int) : ∀ k : Nat, -1 ≤ nz F k ∧ nz F k < k
  | 0 => by simp [nz]
  | k + 1 => by
    have := nz_b F k
    simp only [nz]
    split <;> omega
theorem noise_b {F : Nat → Int} (h : Sm F) (s : Nat) (hs : s < 5) : -2000000 ≤ noise F s ∧ noise F s ≤ 1000000 := by
  have := h.f s 4 hs (by omega)
  have := h.f s 5 hs (by omega)
  unfold noise
  omega
theorem nz_t {F : Nat → Int} {i : Nat} (h : nz F i = -1 ∨ noise F (nz F i).toNat < noise F i) : nz F (i + 1) = (i : Int) := if_pos h
theorem nz_f {F : Nat → Int} {i : Nat} (h : ¬ (nz F i = -1 ∨ noise F (nz F i).toNat < noise F i)) : nz F (i + 1) = nz F i := if_neg h
theorem wrL_5 {F : Nat → Int} (hS : Sm F) (s p : Nat) : -1 ≤ wrL F s p ∧ wrL F s p < 5 := by
  have := needL_5 hS s
  unfold wrL
  split <;> omega
/-- the diary behind one more state -/
def rem (DIA F : Nat → Int) (ac : Int) : Nat → Int := if ac = 14 then cpy (cpy DIA DIA 0 262 3406) F 3406 0 262 else cpy DIA F (262 * ac.toNat) 0 262
def remA (ac : Int) : Int := if ac = 14 then 14 else ac + 1
def Kd (P : Prop) [Decidable P] : Int := if P then 0 else 1
theorem cpy_step (DIA : Nat → Int) (i k : Nat) : up (cpy DIA DIA 0 262 i) i (cpy DIA DIA 0 262 i (i + 262)) k = cpy DIA DIA 0 262 (i + 1) k := by
  rw [cpy_out DIA DIA (j := i + 262) (by omega)]
  have := congrFun (cpy_s DIA DIA 0 262 i) k
  rw [Nat.zero_add, Nat.add_comm 262 i] at this
  exact this

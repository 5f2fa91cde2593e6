/-! ===== what the law keeps: both worlds, of the same numbers ===== -/
section CGF
variable {F F' : Nat → Int}
theorem S5_cg (h : ∀ k, k < 262 → F k = F' k) {k : Nat} (hk : k < 52) : S5 F k = S5 F' k := sumI_cg (fun s hs => h _ (by omega))
theorem borr_cg (h : ∀ k, k < 262 → F k = F' k) {s : Nat} (hs : s < 5) : borr F s = borr F' s := sumI_cg (fun q hq => h _ (by omega))
theorem tk_cg (h : ∀ k, k < 262 → F k = F' k) {s : Nat} (hs : s < 5) : tk F s = tk F' s := by
  unfold tk
  rw [borr_cg h hs, h (2 + 52 * s + 2) (by omega), h (2 + 52 * s + 3) (by omega)]
theorem idle_cg (h : ∀ k, k < 262 → F k = F' k) {s : Nat} (hs : s < 5) : idle F s = idle F' s := by
  unfold idle
  rw [S5_cg h (by omega), h (2 + 52 * s + 0) (by omega), h (2 + 52 * s + 2) (by omega)]
theorem free_cg (h : ∀ k, k < 262 → F k = F' k) : free F = free F' := by
  unfold free
  rw [S5_cg h (by omega), S5_cg h (by omega)]
theorem pgc_cg (h : ∀ k, k < 262 → F k = F' k) {s : Nat} (hs : s < 5) : pgc F s = pgc F' s := sumI_cg (fun q hq => by rw [h (2 + 52 * s + (12 + q)) (by omega)])
theorem J.cgF {dl : Nat → Int} {T : Int} (hJ : J F dl T) (h : ∀ k, k < 262 → F k = F' k) : J F' dl T := by
  obtain ⟨⟨a1, a2⟩, b1, c1, d1, e1, f1, g1, i1, j1, k1⟩ := hJ
  have h0 := h 0 (by omega)
  have h1 := h 1 (by omega)
  refine ⟨⟨fun k hk => by rw [← h k hk]; exact a1 k hk, by rw [← h0]; exact a2⟩, fun s k hz hs hk => ?_, fun s l hz hs hl => ?_, fun s hs => ?_, fun s hs hz => ?_, fun s hs => ?_, ?_, fun s hs => ?_, fun s p hs hp => ?_, fun s p q hs hp hq hn h9 => ?_⟩
  · rw [← h _ (by omega)]; exact b1 s k (by rw [h0]; exact hz) hs hk
  · rw [← h _ (by omega)]; exact c1 s l (by rw [h0]; exact hz) hs hl
  · rw [← h _ (by omega)]; exact d1 s hs
  · rw [← h (2 + 52 * s + 1) (by omega), ← h (2 + 52 * s + 0) (by omega)]; exact e1 s hs (by rw [h0]; exact hz)
  · rw [← idle_cg h hs]; exact f1 s hs
  · rw [← free_cg h]; exact g1
  · rw [← pgc_cg h hs, ← tk_cg h hs]; exact i1 s hs
  · rw [← h (2 + 52 * s + (12 + p)) (by omega), ← h1]; exact j1 s p hs hp
  · rw [← h (2 + 52 * s + (12 + p)) (by omega)] at h9 ⊢
    rw [← h (2 + 52 * s + (12 + q)) (by omega)]; exact k1 s p q hs hp hq hn h9
end CGF
def DJ (DIA : Nat → Int) (ac T : Int) : Prop := ∀ i : Nat, (i : Int) < ac → J (fun k => DIA (262 * i + k)) z0 T
def KJ (KEP ISK : Nat → Int) (T : Int) : Prop := ∀ k : Nat, k < 2 → (0 ≤ ISK k ∧ ISK k ≤ 1) ∧ (ISK k ≠ 0 → J (fun i => KEP (262 * k + i)) z0 T)
theorem dj_rem {DIA F : Nat → Int} {ac T : Int} (h : DJ DIA ac T) (hJ : J F z0 T) (hac : 0 ≤ ac ∧ ac ≤ 14) : DJ (rem DIA F ac) (remA ac) T := fun i hi => by
  unfold remA at hi
  unfold rem
  by_cases e : ac = 14
  · rw [if_pos e] at hi ⊢
    by_cases h9 : i = 13
    · refine hJ.cgF (fun k hk => ?_)
      rw [cpy_in _ _ (by omega)]
      exact congrArg F (by omega)
    · refine (h (i + 1) (by omega)).cgF (fun k hk => ?_)
      rw [cpy_out _ _ (by omega), cpy_in _ _ (by omega)]
      exact congrArg DIA (by omega)
  · rw [if_neg e] at hi ⊢
    by_cases h9 : (i : Int) = ac
    · refine hJ.cgF (fun k hk => ?_)
      rw [cpy_in _ _ (by omega)]
      exact congrArg F (by omega)
    · refine (h i (by omega)).cgF (fun k hk => ?_)
      rw [cpy_out _ _ (by omega)]
theorem DJ.mono {DIA : Nat → Int} {ac T T' : Int} (h : DJ DIA ac T) (hT : T ≤ T') : DJ DIA ac T' := fun i hi => (h i hi).mono hT
theorem DJ.less {DIA : Nat → Int} {ac ac' T : Int} (h : DJ DIA ac T) (hT : ac' ≤ ac) : DJ DIA ac' T := fun i hi => h i (by omega)
theorem KJ.mono {KEP ISK : Nat → Int} {T T' : Int} (h : KJ KEP ISK T) (hT : T ≤ T') : KJ KEP ISK T' := fun i hi => ⟨(h i hi).1, fun q => ((h i hi).2 q).mono hT⟩
theorem KJ.none {KEP ISK : Nat → Int} {T : Int} : KJ KEP (up (up ISK 0 0) 1 0) T := fun i hi => by
  have e : up (up ISK 0 0) 1 0 i = 0 := by
    by_cases h : i = 1
    · rw [up_e _ _ h]
    · rw [up_n _ _ h, up_e _ _ (by omega)]
  rw [e]
  exact ⟨⟨by omega, by omega⟩, fun q => absurd rfl q⟩
theorem KJ.save {KEP ISK F : Nat → Int} {T : Int} (h : KJ KEP ISK T) (hJ : J F z0 T) {k : Nat} (hk : k < 2) : KJ (cpy KEP F (262 * k) 0 262) (up ISK k 1) T := fun i hi => by
  by_cases e : i = k
  · rw [up_e _ _ e]
    refine ⟨⟨by omega, by omega⟩, fun _ => hJ.cgF (fun j hj => ?_)⟩
    rw [cpy_in _ _ (by omega)]
    exact congrArg F (by omega)
  · rw [up_n _ _ e]
    refine ⟨(h i hi).1, fun q => ((h i hi).2 q).cgF (fun j hj => ?_)⟩
    rw [cpy_out _ _ (by omega)]
def IV (n : Nat) (ac : Int) (TX F DIA KEP ISK : Nat → Int) (T : Int) : Prop := n ≤ 120 ∧ (∀ k : Nat, k < 120 → 0 ≤ TX k ∧ TX k ≤ 255) ∧ (0 ≤ ac ∧ ac ≤ 14) ∧ J F z0 T ∧ DJ DIA ac T ∧ KJ KEP ISK T
theorem IV.mono {n : Nat} {ac : Int} {TX F DIA KEP ISK : Nat → Int} {T T' : Int} (h : IV n ac TX F DIA KEP ISK T) (hT : T ≤ T') : IV n ac TX F DIA KEP ISK T' := by
  obtain ⟨h1, h2, h3, h4, h5, h6⟩ := h
  exact ⟨h1, h2, h3, h4.mono hT, h5.mono hT, h6.mono hT⟩
theorem MW.lt {g : Gt} {mb : Nat} {rf sz ac : Int} {TX F DIA KEP ISK : Nat → Int} {H : Heap} (h : MW g mb rf sz ac TX F DIA KEP ISK H) : mb + 7 < H.size := by
  obtain ⟨M, TRI, AP, h1, h2, h3, h4, g1, g2, g3, g4, g5, g6, g7, g8⟩ := h
  exact g8.lt
/-- the law's world: the class's, the model's, the long[1] -/
def LI (g : Gt) (b mb ob : Nat) (T : Int) (H : Heap) : Prop := ∃ (rf : Int) (n : Nat) (ac : Int) (TX F DIA KEP ISK : Nat → Int), IV n ac TX F DIA KEP ISK T ∧ CW g b n ac TX F DIA KEP ISK H ∧ MW g mb rf n ac TX F DIA KEP ISK H ∧ ∃ f, lAt g ob 1 f H
theorem LI.mono {g : Gt} {b mb ob : Nat} {T T' : Int} {H : Heap} (h : LI g b mb ob T H) (hT : T ≤ T') : LI g b mb ob T' H := by
  obtain ⟨rf, n, ac, TX, F, DIA, KEP, ISK, h1, h2⟩ := h
  exact ⟨rf, n, ac, TX, F, DIA, KEP, ISK, h1.mono hT, h2⟩

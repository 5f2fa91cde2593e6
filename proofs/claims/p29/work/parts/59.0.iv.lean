/-! ===== what the law keeps of a device ===== -/
section CGF
variable {F F' : Nat → Int}
theorem S5_cg (h : ∀ k, k < 262 → F k = F' k) {k : Nat} (hk : k < 52) : S5 F k = S5 F' k := sumI_cg (fun s hs => h _ (by omega))
theorem borr_cg (h : ∀ k, k < 262 → F k = F' k) {s : Nat} (hs : s < 5) : borr F s = borr F' s := sumI_cg (fun q hq => h _ (by omega))
theorem tk_cg (h : ∀ k, k < 262 → F k = F' k) {s : Nat} (hs : s < 5) : tk F s = tk F' s := by
  unfold tk
  rw [borr_cg h hs, h (2 + 52 * s + 2) (by omega), h (2 + 52 * s + 3) (by omega)]
theorem idle_cg (h : ∀ k, k < 262 → F k = F' k) {s : Nat} (hs : s < 5) : idle F s = idle F' s := by
  unfold idle
  rw [S5_cg h (by omega), h (2 + 52 * s + 0) (by omega), h (2 + 52 * s + 2) (by omega)]
theorem free_cg (h : ∀ k, k < 262 → F k = F' k) : free F = free F' := by
  unfold free
  rw [S5_cg h (by omega), S5_cg h (by omega)]
theorem pgc_cg (h : ∀ k, k < 262 → F k = F' k) {s : Nat} (hs : s < 5) : pgc F s = pgc F' s := sumI_cg (fun q hq => by rw [h (2 + 52 * s + (12 + q)) (by omega)])
theorem J.cgF {dl : Nat → Int} {T : Int} (hJ : J F dl T) (h : ∀ k, k < 262 → F k = F' k) : J F' dl T := by
  obtain ⟨⟨a1, a2⟩, b1, c1, d1, e1, f1, g1, i1, j1, k1⟩ := hJ
  have h0 := h 0 (by omega)
  have h1 := h 1 (by omega)
  refine ⟨⟨fun k hk => by rw [← h k hk]; exact a1 k hk, by rw [← h0]; exact a2⟩, fun s k hz hs hk => ?_, fun s l hz hs hl => ?_, fun s hs => ?_, fun s hs hz => ?_, fun s hs => ?_, ?_, fun s hs => ?_, fun s p hs hp => ?_, fun s p q hs hp hq hn h9 => ?_⟩
  · rw [← h _ (by omega)]; exact b1 s k (by rw [h0]; exact hz) hs hk
  · rw [← h _ (by omega)]; exact c1 s l (by rw [h0]; exact hz) hs hl
  · rw [← h _ (by omega)]; exact d1 s hs
  · rw [← h (2 + 52 * s + 1) (by omega), ← h (2 + 52 * s + 0) (by omega)]; exact e1 s hs (by rw [h0]; exact hz)
  · rw [← idle_cg h hs]; exact f1 s hs
  · rw [← free_cg h]; exact g1
  · rw [← pgc_cg h hs, ← tk_cg h hs]; exact i1 s hs
  · rw [← h (2 + 52 * s + (12 + p)) (by omega), ← h1]; exact j1 s p hs hp
  · rw [← h (2 + 52 * s + (12 + p)) (by omega)] at h9 ⊢
    rw [← h (2 + 52 * s + (12 + q)) (by omega)]; exact k1 s p q hs hp hq hn h9
end CGF
def DJ (DIA : Nat → Int) (ac T : Int) : Prop := ∀ i : Nat, (i : Int) < ac → J (fun k => DIA (262 * i + k)) z0 T
def KJ (KEP ISK : Nat → Int) (T : Int) : Prop := ∀ k : Nat, k < 2 → (0 ≤ ISK k ∧ ISK k ≤ 1) ∧ (ISK k ≠ 0 → J (fun i => KEP (262 * k + i)) z0 T)
theorem dj_rem {DIA F : Nat → Int} {ac T : Int} (h : DJ DIA ac T) (hJ : J F z0 T) (hac : 0 ≤ ac ∧ ac ≤ 14) : DJ (rem DIA F ac) (remA ac) T := fun i hi => by
  unfold remA at hi
  unfold rem
  by_cases e : ac = 14
  · rw [if_pos e] at hi ⊢
    by_cases h9 : i = 13
    · refine hJ.cgF (fun k hk => ?_)
      rw [cpy_in _ _ (by omega)]
      exact congrArg F (by omega)
    · refine (h (i + 1) (by omega)).cgF (fun k hk => ?_)
      rw [cpy_out _ _ (by omega), cpy_in _ _ (by omega)]
      exact congrArg DIA (by omega)
  · rw [if_neg e] at hi ⊢
    by_cases h9 : (i : Int) = ac
    · refine hJ.cgF (fun k hk => ?_)
      rw [cpy_in _ _ (by omega)]
      exact congrArg F (by omega)
    · refine (h i (by omega)).cgF (fun k hk => ?_)
      rw [cpy_out _ _ (by omega)]
theorem DJ.mono {DIA : Nat → Int} {ac T T' : Int} (h : DJ DIA ac T) (hT : T ≤ T') : DJ DIA ac T' := fun i hi => (h i hi).mono hT
theorem DJ.less {DIA : Nat → Int} {ac ac' T : Int} (h : DJ DIA ac T) (hT : ac' ≤ ac) : DJ DIA ac' T := fun i hi => h i (by omega)
theorem KJ.mono {KEP ISK : Nat → Int} {T T' : Int} (h : KJ KEP ISK T) (hT : T ≤ T') : KJ KEP ISK T' := fun i hi => ⟨(h i hi).1, fun q => ((h i hi).2 q).mono hT⟩
theorem KJ.none {KEP ISK : Nat → Int} {T : Int} : KJ KEP (up (up ISK 0 0) 1 0) T := fun i hi => by
  have e : up (up ISK 0 0) 1 0 i = 0 := by
    by_cases h : i = 1
    · rw [up_e _ _ h]
    · rw [up_n _ _ h, up_e _ _ (by omega)]
  rw [e]
  exact ⟨⟨by omega, by omega⟩, fun q => absurd rfl q⟩
theorem KJ.save {KEP ISK F : Nat → Int} {T : Int} (h : KJ KEP ISK T) (hJ : J F z0 T) {k : Nat} (hk : k < 2) : KJ (cpy KEP F (262 * k) 0 262) (up ISK k 1) T := fun i hi => by
  by_cases e : i = k
  · rw [up_e _ _ e]
    refine ⟨⟨by omega, by omega⟩, fun _ => hJ.cgF (fun j hj => ?_)⟩
    rw [cpy_in _ _ (by omega)]
    exact congrArg F (by omega)
  · rw [up_n _ _ e]
    refine ⟨(h i hi).1, fun q => ((h i hi).2 q).cgF (fun j hj => ?_)⟩
    rw [cpy_out _ _ (by omega)]

/-- a diary that has but one state without a space, ahead of one with one -/
def EV (ac : Int) (F DIA : Nat → Int) : Prop := 1 ≤ F 0 ∧ ∀ i : Nat, (i : Int) < ac → 1 ≤ DIA (262 * i) ∨ (if (i : Int) + 1 = ac then F 0 else DIA (262 * (i + 1))) ≤ 1
def EK (KEP ISK : Nat → Int) : Prop := ∀ k : Nat, k < 2 → ISK k ≠ 0 → 1 ≤ KEP (262 * k)
def IVS (ac : Int) (F DIA KEP ISK : Nat → Int) (T : Int) : Prop := (0 ≤ ac ∧ ac ≤ 14) ∧ J F z0 T ∧ DJ DIA ac T ∧ KJ KEP ISK T ∧ EV ac F DIA ∧ EK KEP ISK
abbrev DW (g : Gt) (b : Nat) (ac : Int) (F DIA KEP ISK : Nat → Int) (H : Heap) : Prop := CW g b 0 ac z0 F DIA KEP ISK H
section IVL
variable {ac : Int} {F DIA KEP ISK : Nat → Int} {T : Int}
theorem IVS.acb (h : IVS ac F DIA KEP ISK T) : 0 ≤ ac ∧ ac ≤ 14 := h.1
theorem IVS.j (h : IVS ac F DIA KEP ISK T) : J F z0 T := h.2.1
theorem IVS.dj (h : IVS ac F DIA KEP ISK T) : DJ DIA ac T := h.2.2.1
theorem IVS.kj (h : IVS ac F DIA KEP ISK T) : KJ KEP ISK T := h.2.2.2.1
theorem IVS.ev (h : IVS ac F DIA KEP ISK T) : EV ac F DIA := h.2.2.2.2.1
theorem IVS.ek (h : IVS ac F DIA KEP ISK T) : EK KEP ISK := h.2.2.2.2.2
theorem IVS.mono (h : IVS ac F DIA KEP ISK T) {T' : Int} (hT : T ≤ T') : IVS ac F DIA KEP ISK T' := ⟨h.acb, h.j.mono hT, h.dj.mono hT, h.kj.mono hT, h.ev, h.ek⟩
theorem rem_at (hac : 0 ≤ ac ∧ ac ≤ 14) {i : Nat} (hi : (i : Int) < remA ac) : rem DIA F ac (262 * i) = if ac = 14 then (if i = 13 then F 0 else DIA (262 * (i + 1))) else (if (i : Int) = ac then F 0 else DIA (262 * i)) := by
  unfold remA at hi
  unfold rem
  by_cases e : ac = 14
  · rw [if_pos e] at hi ⊢
    rw [if_pos e]
    by_cases h9 : i = 13
    · rw [if_pos h9, cpy_in _ _ (by omega)]
      exact congrArg F (by omega)
    · rw [if_neg h9, cpy_out _ _ (by omega), cpy_in _ _ (by omega)]
      exact congrArg DIA (by omega)
  · rw [if_neg e] at hi ⊢
    rw [if_neg e]
    by_cases h9 : (i : Int) = ac
    · rw [if_pos h9, cpy_in _ _ (by omega)]
      exact congrArg F (by omega)
    · rw [if_neg h9, cpy_out _ _ (by omega)]
theorem EV.push {F' : Nat → Int} (hac : 0 ≤ ac ∧ ac ≤ 14) (h : EV ac F DIA) (h1 : 1 ≤ F' 0) : EV (remA ac) F' (rem DIA F ac) := by
  refine ⟨h1, fun i hi => ?_⟩
  rw [rem_at hac hi]
  have hi9 := hi
  unfold remA at hi9
  by_cases e : ac = 14
  · rw [if_pos e] at hi9 ⊢
    by_cases h9 : i = 13
    · rw [if_pos h9]
      exact Or.inl h.1
    · rw [if_neg h9]
      have r : remA ac = 14 := if_pos e
      rcases h.2 (i + 1) (by omega) with q | q
      · exact Or.inl q
      · refine Or.inr ?_
        rw [r, if_neg (by omega), rem_at hac (by omega), if_pos e]
        by_cases h8 : i + 1 = 13
        · rw [if_pos h8]
          rw [if_pos (by omega)] at q
          exact q
        · rw [if_neg h8]
          rw [if_neg (by omega)] at q
          exact q
  · rw [if_neg e] at hi9 ⊢
    have r : remA ac = ac + 1 := if_neg e
    by_cases h9 : (i : Int) = ac
    · rw [if_pos h9]
      exact Or.inl h.1
    · rw [if_neg h9]
      rcases h.2 i (by omega) with q | q
      · exact Or.inl q
      · refine Or.inr ?_
        rw [r, if_neg (by omega), rem_at hac (by omega), if_neg e]
        by_cases h8 : ((i + 1 : Nat) : Int) = ac
        · rw [if_pos h8]
          rw [if_pos (by omega)] at q
          exact q
        · rw [if_neg h8]
          rw [if_neg (by omega)] at q
          exact q
theorem IVS.push (h : IVS ac F DIA KEP ISK T) {F' : Nat → Int} {T' : Int} (hJ : J F' z0 T') (hT : T ≤ T') (h1 : 1 ≤ F' 0) : IVS (remA ac) F' (rem DIA F ac) KEP ISK T' := by
  have hac := h.acb
  refine ⟨?_, hJ, (dj_rem h.dj h.j hac).mono hT, h.kj.mono hT, h.ev.push hac h1, h.ek⟩
  unfold remA
  split <;> omega
theorem IVS.pop (h : IVS ac F DIA KEP ISK T) (h0 : ac ≠ 0) (h2 : 2 ≤ F 0 ∨ 1 ≤ DIA (262 * (ac - 1).toNat)) : IVS (ac - 1) (fun k => DIA (262 * (ac - 1).toNat + k)) DIA KEP ISK T := by
  have hac := h.acb
  have e1 : 1 ≤ DIA (262 * (ac - 1).toNat) := by
    rcases h2 with q | q
    · rcases h.ev.2 (ac - 1).toNat (by omega) with z | z
      · exact z
      · rw [if_pos (by omega)] at z
        omega
    · exact q
  refine ⟨⟨by omega, by omega⟩, h.dj (ac - 1).toNat (by omega), h.dj.less (by omega), h.kj, ⟨e1, fun i hi => ?_⟩, h.ek⟩
  rcases h.ev.2 i (by omega) with q | q
  · exact Or.inl q
  · rw [if_neg (by omega)] at q
    refine Or.inr ?_
    by_cases e : (i : Int) + 1 = ac - 1
    · rw [if_pos e]
      show DIA (262 * (ac - 1).toNat) ≤ 1
      rw [show (ac - 1).toNat = i + 1 by omega]
      exact q
    · rw [if_neg e]
      exact q
theorem IVS.keep (h : IVS ac F DIA KEP ISK T) {k : Nat} (hk : k < 2) : IVS ac F DIA (cpy KEP F (262 * k) 0 262) (up ISK k 1) T := by
  refine ⟨h.acb, h.j, h.dj, h.kj.save h.j hk, h.ev, fun j hj hz => ?_⟩
  by_cases e : j = k
  · rw [cpy_in _ _ (by omega)]
    have := h.ev.1
    rw [show 0 + (262 * j - 262 * k) = 0 by omega]
    exact this
  · rw [up_n _ _ e] at hz
    rw [cpy_out _ _ (by omega)]
    exact h.ek j hj hz
theorem IVS.back (h : IVS ac F DIA KEP ISK T) {k : Nat} (hk : k < 2) (hz : ISK k ≠ 0) : IVS 0 (fun i => KEP (262 * k + i)) DIA KEP ISK T := ⟨⟨by omega, by omega⟩, (h.kj k hk).2 hz, fun i hi => absurd hi (by omega), h.kj, ⟨h.ek k hk hz, fun i hi => absurd hi (by omega)⟩, h.ek⟩
end IVL
theorem rdw {K : Int} {A : Prop} (h : (K = 0 → A) ∧ (K ≠ 0 → A)) : A := by
  by_cases c : K = 0
  · exact h.1 c
  · exact h.2 c
theorem Kd_f {P : Prop} [Decidable P] (h : ¬ P) : Kd P = 1 := if_neg h
section SAME
variable {p : Program} {l : Launch} {e : Env} {R : Room} {s : State} {m : MethodId} {args : Array Value} {below : List Frame} {meth : Method} {c : Code} {H : Heap} {locs : List Loc} {cells slots : Nat} {Q : State → Prop}
variable {cc : ByteArray} {nL : Nat} {own : String} {ret : Option FieldType} {x : Cond} {g : Gt} {pc : Nat} {ls : Array Slot} {rest : List Value}
theorem r_ine_same (C : Cx p s m args meth c cc nL own ret x g) {a z : Int} {off : Int} {tgt : Nat} (ht : (pc : Int) + off = (tgt : Int)) (h : a = z) (d : decode cc pc = .ok (.if_icmp .ne off, 3)) (kk : W p l e R s m args below meth c H locs cells slots Q (F0 m (pc + 3) ls rest)) : W p l e R s m args below meth c H locs cells slots Q (F0 m pc ls (.int (iI z) :: .int (iI a) :: rest)) := by
  subst h
  obtain ⟨b, hb, e9⟩ : ∃ b, Rg b ∧ iI a = iI b := ⟨_, rg_of (iI a), (iI_of (iI a)).symm⟩
  rw [e9]
  exact r_icmp_ne C ht hb hb d (fun z => absurd rfl z) (fun _ => kk)
end SAME

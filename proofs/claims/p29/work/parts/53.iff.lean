/-! ===== the class's conditions are the model's ===== -/
theorem ite_c {α : Sort _} {P Q : Prop} [Decidable P] [Decidable Q] {a b : α} (h : P ↔ Q) : (if P then a else b) = (if Q then a else b) := by
  by_cases p : P
  · rw [if_pos p, if_pos (h.mp p)]
  · rw [if_neg p, if_neg (fun q => p (h.mpr q))]
theorem mk_iff {F : Nat → Int} (h : 0 ≤ F 0 ∧ F 0 ≤ 5) {x y : Int} : whyMk F x y = 0 ↔ okMk F x y := ⟨fun q => whyMk_0 h.2 q, fun q => by
  unfold whyMk
  rw [if_neg (by omega), if_neg (by omega)]⟩
theorem fl_iff {F : Nat → Int} {x : Int} {s : Nat} {v : Int} (hv : 0 ≤ v ∧ v ≤ 60) : whyFl F x s v = 0 ↔ (0 ≤ x ∧ x < F 0) ∧ okFl F s v := ⟨fun q => ⟨(whyFl_0 q).1, (whyFl_0 q).2.2⟩, fun q => by
  unfold whyFl
  rw [if_neg (by omega), if_neg (by omega), if_pos q.2]⟩
theorem ce_iff {F : Nat → Int} {x : Int} {s : Nat} {v : Int} : whyCe F x s v = 0 ↔ (0 ≤ x ∧ x < F 0) ∧ okCe F s v := ⟨fun q => whyCe_0 q, fun q => by
  unfold whyCe
  rw [if_neg (by omega), if_pos q.2]⟩
/-- a floor that is taken is in range -/
theorem okFl_b {F : Nat → Int} {T : Int} (h : J F z0 T) {s : Nat} (hs : s < 5) (hn : (s : Int) < F 0) (hT : T ≤ 960000) {v : Int} (ho : okFl F s v) : 0 ≤ v ∧ v ≤ 60 := by
  have hc := h.ce s hs hn
  have hS : Sm F := h.S.m (by omega)
  have hm := mn_b (F (2 + 52 * s + 1)) (F (2 + 52 * s + 0) + free F)
  have hid : idle F s = F (2 + 52 * s + 0) - F (2 + 52 * s + 2) - S5 F (7 + s) := rfl
  have h2 := hS.f s 2 hs (by omega)
  have h7 := S5_b hS (7 + s) (by omega)
  obtain ⟨o1, o2⟩ := ho
  omega
/-- a run of writes, so far -/
def rsI (F : Nat → Int) (s q i : Nat) : Nat → Int := if (s : Int) < F 0 then wrs F s q i else F
theorem rsI_0 (F : Nat → Int) (s q : Nat) : rsI F s q 0 = F := by unfold rsI; split <;> rfl
theorem J.rsi {F : Nat → Int} {T : Int} (h : J F z0 T) {s q : Nat} (hs : s < 5) (i : Nat) (hq : q + i ≤ 40) (hT : T + 6 * i ≤ 970000) : J (rsI F s q i) z0 (T + 6 * i) ∧ rsI F s q i 0 = F 0 := by
  unfold rsI
  split
  · rename_i c
    exact h.wrs hs c i hq hT
  · exact ⟨h.mono (by omega), rfl⟩
theorem rsI_s {F : Nat → Int} {x : Int} {s q i : Nat} {p : Int} (hx : x = (s : Int)) (e0 : rsI F s q i 0 = F 0) {r : Nat} (hr : r = q + i) (hp : 0 ≤ p ∧ p < 40) : (if 0 ≤ x ∧ x < rsI F s q i 0 ∧ 0 ≤ p ∧ p < 40 then wrF (rsI F s q i) s r else rsI F s q i) = rsI F s q (i + 1) := by
  subst hr hx
  rw [e0]
  by_cases c : (s : Int) < F 0
  · rw [if_pos (by omega)]
    unfold rsI
    rw [if_pos c, if_pos c]
    rfl
  · rw [if_neg (by omega)]
    unfold rsI
    rw [if_neg c, if_neg c]
section RCF
variable {TX : Nat → Int} {n p : Nat} {F : Nat → Int}
theorem pI_1 {P : Prop} [Decidable P] : 1 - pI P = 0 ↔ P := by
  by_cases h : P
  · rw [pI_t h]; simp [h]
  · rw [pI_f h]; simp [h]
theorem rcF_s (hn : 0 ≤ F 0 ∧ F 0 ≤ 5) (ho : rcOk TX n p) (e : TX p = 115) : rcF TX n p F = (if okMk F (rcX TX n p) (rcY TX n p) then mkF F (rcX TX n p) (rcY TX n p) else F) ∧ (rcD TX n p F = 0 ↔ okMk F (rcX TX n p) (rcY TX n p)) := by
  unfold rcF rcD cmF cmD
  rw [if_pos ho, if_pos ho, if_pos e, if_pos e]
  exact ⟨ite_c (mk_iff hn), pI_1.trans (mk_iff hn)⟩
theorem rcF_w (ho : rcOk TX n p) (e : TX p = 119) : rcF TX n p F = (if 0 ≤ rcX TX n p ∧ rcX TX n p < F 0 ∧ 0 ≤ rcY TX n p ∧ rcY TX n p < 40 then wrF F (rcX TX n p).toNat (rcY TX n p).toNat else F) ∧ (rcD TX n p F = 0 ↔ (0 ≤ rcX TX n p ∧ rcX TX n p < F 0 ∧ 0 ≤ rcY TX n p ∧ rcY TX n p < 40)) := by
  have hc := rc_ok ho
  unfold cmOk at hc
  unfold rcF rcD cmF cmD
  rw [if_pos ho, if_pos ho, if_neg (show ¬ TX p = 115 by omega), if_neg (show ¬ TX p = 115 by omega), if_pos e, if_pos e]
  exact ⟨ite_c (by omega), pI_1.trans (by omega)⟩
theorem rcF_t (ho : rcOk TX n p) (e : TX p = 116) : rcF TX n p F = (if 0 ≤ rcX TX n p ∧ rcX TX n p < F 0 ∧ 0 ≤ rcY TX n p ∧ rcY TX n p < 40 ∧ 0 < F (2 + 52 * (rcX TX n p).toNat + (12 + (rcY TX n p).toNat)) then trF F (rcX TX n p).toNat (rcY TX n p).toNat else F) ∧ (rcD TX n p F = 0 ↔ (0 ≤ rcX TX n p ∧ rcX TX n p < F 0 ∧ 0 ≤ rcY TX n p ∧ rcY TX n p < 40 ∧ 0 < F (2 + 52 * (rcX TX n p).toNat + (12 + (rcY TX n p).toNat)))) := by
  have hc := rc_ok ho
  unfold cmOk at hc
  unfold rcF rcD cmF cmD
  rw [if_pos ho, if_pos ho, if_neg (show ¬ TX p = 115 by omega), if_neg (show ¬ TX p = 115 by omega), if_neg (show ¬ TX p = 119 by omega), if_neg (show ¬ TX p = 119 by omega), if_pos e, if_pos e]
  exact ⟨ite_c (by omega), pI_1.trans (by omega)⟩
theorem rcF_f (ho : rcOk TX n p) (e : TX p = 102) : rcF TX n p F = (if (0 ≤ rcX TX n p ∧ rcX TX n p < F 0) ∧ okFl F (rcX TX n p).toNat (rcY TX n p) then up F (2 + 52 * (rcX TX n p).toNat + 0) (rcY TX n p) else F) ∧ (rcD TX n p F = 0 ↔ ((0 ≤ rcX TX n p ∧ rcX TX n p < F 0) ∧ okFl F (rcX TX n p).toNat (rcY TX n p))) := by
  have hc := rc_ok ho
  unfold cmOk at hc
  unfold rcF rcD cmF cmD
  rw [if_pos ho, if_pos ho, if_neg (show ¬ TX p = 115 by omega), if_neg (show ¬ TX p = 115 by omega), if_neg (show ¬ TX p = 119 by omega), if_neg (show ¬ TX p = 119 by omega), if_neg (show ¬ TX p = 116 by omega), if_neg (show ¬ TX p = 116 by omega), if_pos e, if_pos e]
  exact ⟨ite_c (fl_iff (by omega)), pI_1.trans (fl_iff (by omega))⟩
theorem rcF_r (ho : rcOk TX n p) (e : TX p = 114) : rcF TX n p F = rsI F (rcX TX n p).toNat (rcY TX n p).toNat ((rcZ TX n p).toNat + 1 - (rcY TX n p).toNat) ∧ (rcD TX n p F = 0 ↔ (rcZ TX n p < rcY TX n p ∨ rcX TX n p < F 0)) := by
  have hc := rc_ok ho
  unfold cmOk at hc
  unfold rcF rcD cmF cmD
  rw [if_pos ho, if_pos ho, if_neg (show ¬ TX p = 115 by omega), if_neg (show ¬ TX p = 115 by omega), if_neg (show ¬ TX p = 119 by omega), if_neg (show ¬ TX p = 119 by omega), if_neg (show ¬ TX p = 116 by omega), if_neg (show ¬ TX p = 116 by omega), if_neg (show ¬ TX p = 102 by omega), if_neg (show ¬ TX p = 102 by omega)]
  exact ⟨rfl, pI_1⟩
end RCF
theorem wr_n1 {F : Nat → Int} {s q : Nat} {P : Prop} [Decidable P] : ((if P then wrR F s q else -1) = -1 ↔ ¬ P) ∧ ((if P then wrR F s q else -1) = 5 ↔ P ∧ wrR F s q = 5) ∧ -1 ≤ (if P then wrR F s q else -1) ∧ (if P then wrR F s q else -1) ≤ 5 := by
  have h := wrR_b F s q
  by_cases c : P
  · rw [if_pos c]
    refine ⟨⟨fun z => by omega, fun z => absurd c z⟩, ⟨fun z => ⟨c, z⟩, fun z => z.2⟩, by omega, by omega⟩
  · rw [if_neg c]
    refine ⟨⟨fun _ => c, fun _ => rfl⟩, ⟨fun z => by omega, fun z => absurd z.1 c⟩, by omega, by omega⟩
theorem mk_n1 {F : Nat → Int} (hn : 0 ≤ F 0 ∧ F 0 ≤ 5) {P : Prop} [Decidable P] : ((if P then F 0 else -1) = -1 ↔ ¬ P) ∧ -1 ≤ (if P then F 0 else -1) ∧ (if P then F 0 else -1) ≤ 5 := by
  by_cases c : P
  · rw [if_pos c]
    exact ⟨⟨fun z => by omega, fun z => absurd c z⟩, by omega, by omega⟩
  · rw [if_neg c]
    exact ⟨⟨fun _ => c, fun _ => rfl⟩, by omega, by omega⟩
theorem fl_iffJ {F : Nat → Int} {T : Int} (h : J F z0 T) (hT : T ≤ 960000) {x : Int} {s : Nat} (hx : 0 ≤ x → x = (s : Int)) {v : Int} : whyFl F x s v = 0 ↔ (0 ≤ x ∧ x < F 0) ∧ okFl F s v := ⟨fun q => ⟨(whyFl_0 q).1, (whyFl_0 q).2.2⟩, fun q => by
  have hn := h.n
  have hv := okFl_b h (s := s) (by omega) (by omega) hT q.2
  unfold whyFl
  rw [if_neg (by omega), if_neg (by omega), if_pos q.2]⟩
theorem Kd_0 {P : Prop} [Decidable P] : Kd P = 0 ↔ P := by unfold Kd; split <;> simp [*]
theorem Kd_n {P : Prop} [Decidable P] (h : Kd P ≠ 0) : Kd P = 1 ∧ ¬ P := by
  have q : ¬ P := fun p => h (Kd_0.mpr p)
  exact ⟨if_neg q, q⟩
/-- the class's device to try on, and its guess -/
def cdC (g : Gt) (b : Nat) (F : Nat → Int) (H : Heap) : Prop := lrAt g b H ∧ dvAt g (b + 327) F H ∧ ∃ GU : Nat → Int, dvAt g (b + 347) GU H
theorem wg_lt {v : Int} (hv : 0 ≤ v) (k : Nat) : wgV v k = 0 ↔ v < pw k := by
  have hp := pw_pos k
  rw [wgV_pw]
  constructor
  · intro h
    have h1 := Int.mul_ediv_add_emod v (pw k)
    have h2 := Int.emod_lt_of_pos v hp
    rw [h] at h1
    omega
  · intro h
    exact Int.ediv_eq_zero_of_lt hv h
/-- a slot takes a state -/
theorem kep_put {KEP F : Nat → Int} {k : Nat} : ∀ i : Nat, i < 2 → ∀ j : Nat, j < 262 → (if i = k then F else fun z => KEP (262 * i + z)) j = cpy KEP F (262 * k) 0 262 (262 * i + j) := fun i hi j hj => by
  by_cases e : i = k
  · subst e
    rw [if_pos rfl, cpy_in _ _ (by omega)]
    exact congrArg F (by omega)
  · rw [if_neg e, cpy_out _ _ (by omega)]
theorem rt_go {TX : Nat → Int} {n k p : Nat} (h : p < n) (hk : 0 < k) (hR : rtR TX n k p = -1) : rcOk TX n p := by
  by_cases c : rcOk TX n p
  · exact c
  · have := (rt_no (F := z0) (o := 0) h hk c).1
    omega

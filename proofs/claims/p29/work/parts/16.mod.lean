/-! ===== the model's object: 0 refusal, 1 size, 2 acts, 3 loser, 4 spot, 5 out ===== -/
def mdfs (mb : Nat) (M : Nat → Int) : List Value := [.int (iI (M 0)), .ref (mb + 1), .int (iI (M 1)), .ref (mb + 2), .ref (mb + 3), .ref (mb + 4), .int (iI (M 2)), .ref (mb + 5), .ref (mb + 6), .int (iI (M 3)), .int (iI (M 4)), .int (iI (M 5)), .ref (mb + 7)]
def mdAt (g : Gt) (mb : Nat) (M : Nat → Int) (H : Heap) : Prop := oAt g mb 4 (mdfs mb M) H
section MDL
variable {g : Gt} {mb : Nat} {M : Nat → Int} {H H1 : Heap}
theorem mdAt.o (h : mdAt g mb M H) : oAt g mb 4 (mdfs mb M) H := h
theorem mdAt.kept (h : mdAt g mb M H) (hq : H1[mb]? = H[mb]?) : mdAt g mb M H1 := oAt.kept h hq
theorem mdAt.cg {M' : Nat → Int} (h : mdAt g mb M H) (hm : ∀ k, k < 6 → M k = M' k) : mdAt g mb M' H := by
  unfold mdAt mdfs at *
  rw [← hm 0 (by omega), ← hm 1 (by omega), ← hm 2 (by omega), ← hm 3 (by omega), ← hm 4 (by omega), ← hm 5 (by omega)]
  exact h
theorem mdAt.put0 {x : Int} (h : mdAt g mb M H) (h1 : oAt g mb 4 ((mdfs mb M).set 0 (.int (iI x))) H1) (ho : ∀ b : Nat, b ≠ mb → H1[b]? = H[b]?) : mdAt g mb (up M 0 x) H1 := by
  have e : (mdfs mb M).set 0 (.int (iI x)) = mdfs mb (up M 0 x) := by
    unfold mdfs
    rw [up_s, up_n M x (by omega), up_n M x (by omega), up_n M x (by omega), up_n M x (by omega), up_n M x (by omega)]
    rfl
  rw [e] at h1; exact h1
theorem mdAt.put1 {x : Int} (h : mdAt g mb M H) (h1 : oAt g mb 4 ((mdfs mb M).set 2 (.int (iI x))) H1) (ho : ∀ b : Nat, b ≠ mb → H1[b]? = H[b]?) : mdAt g mb (up M 1 x) H1 := by
  have e : (mdfs mb M).set 2 (.int (iI x)) = mdfs mb (up M 1 x) := by
    unfold mdfs
    rw [up_s, up_n M x (by omega), up_n M x (by omega), up_n M x (by omega), up_n M x (by omega), up_n M x (by omega)]
    rfl
  rw [e] at h1; exact h1
theorem mdAt.put2 {x : Int} (h : mdAt g mb M H) (h1 : oAt g mb 4 ((mdfs mb M).set 6 (.int (iI x))) H1) (ho : ∀ b : Nat, b ≠ mb → H1[b]? = H[b]?) : mdAt g mb (up M 2 x) H1 := by
  have e : (mdfs mb M).set 6 (.int (iI x)) = mdfs mb (up M 2 x) := by
    unfold mdfs
    rw [up_s, up_n M x (by omega), up_n M x (by omega), up_n M x (by omega), up_n M x (by omega), up_n M x (by omega)]
    rfl
  rw [e] at h1; exact h1
theorem mdAt.put3 {x : Int} (h : mdAt g mb M H) (h1 : oAt g mb 4 ((mdfs mb M).set 9 (.int (iI x))) H1) (ho : ∀ b : Nat, b ≠ mb → H1[b]? = H[b]?) : mdAt g mb (up M 3 x) H1 := by
  have e : (mdfs mb M).set 9 (.int (iI x)) = mdfs mb (up M 3 x) := by
    unfold mdfs
    rw [up_s, up_n M x (by omega), up_n M x (by omega), up_n M x (by omega), up_n M x (by omega), up_n M x (by omega)]
    rfl
  rw [e] at h1; exact h1
theorem mdAt.put4 {x : Int} (h : mdAt g mb M H) (h1 : oAt g mb 4 ((mdfs mb M).set 10 (.int (iI x))) H1) (ho : ∀ b : Nat, b ≠ mb → H1[b]? = H[b]?) : mdAt g mb (up M 4 x) H1 := by
  have e : (mdfs mb M).set 10 (.int (iI x)) = mdfs mb (up M 4 x) := by
    unfold mdfs
    rw [up_s, up_n M x (by omega), up_n M x (by omega), up_n M x (by omega), up_n M x (by omega), up_n M x (by omega)]
    rfl
  rw [e] at h1; exact h1
theorem mdAt.put5 {x : Int} (h : mdAt g mb M H) (h1 : oAt g mb 4 ((mdfs mb M).set 11 (.int (iI x))) H1) (ho : ∀ b : Nat, b ≠ mb → H1[b]? = H[b]?) : mdAt g mb (up M 5 x) H1 := by
  have e : (mdfs mb M).set 11 (.int (iI x)) = mdfs mb (up M 5 x) := by
    unfold mdfs
    rw [up_s, up_n M x (by omega), up_n M x (by omega), up_n M x (by omega), up_n M x (by omega), up_n M x (by omega)]
    rfl
  rw [e] at h1; exact h1
end MDL
def setL (M : Nat → Int) (x : Int) : Nat → Int := if x = -1 then M else up M 3 (if M 3 = -1 then x else M 3)
theorem recallL_b {F : Nat → Int} (s : Nat) : -1 ≤ recallL F s ∧ recallL F s ≤ mostOf F s := by unfold recallL rehouseL; (repeat' split) <;> omega
theorem needL_b {F : Nat → Int} (s : Nat) : -1 ≤ needL F s ∧ needL F s ≤ mostOf F s := by
  have := recallL_b (F := F) s
  unfold needL
  (repeat' split) <;> omega
/-! ===== long comparisons ===== -/
def cmpI (a b : Int) : Int := if b < a then 1 else if a = b then 0 else -1
theorem cmpI_b (a b : Int) : Rg (cmpI a b) ∧ (cmpI a b < 0 ↔ a < b) ∧ (0 < cmpI a b ↔ b < a) := by unfold cmpI; (repeat' split) <;> omega
section ROWS3
variable {p : Program} {l : Launch} {e : Env} {R : Room} {s : State} {m : MethodId} {args : Array Value} {below : List Frame} {meth : Method} {c : Code} {H : Heap} {locs : List Loc} {cells slots : Nat} {Q : State → Prop}
variable {cc : ByteArray} {nL : Nat} {own : String} {ret : Option FieldType} {x : Cond} {g : Gt} {pc : Nat} {ls : Array Slot} {rest : List Value}
theorem r_lcmp (C : Cx p s m args meth c cc nL own ret x g) {a b : Int} (ha : RgL a) (hb : RgL b) (d : decode cc pc = .ok (.lcmp, 1)) (k : W p l e R s m args below meth c H locs cells slots Q (F0 m (pc + 1) ls (.int (iI (cmpI a b)) :: rest))) : W p l e R s m args below meth c H locs cells slots Q (F0 m pc ls (.long (iL b) :: .long (iL a) :: rest)) := by
  refine W.lcmp C.1 C.2.1 d ?_
  have e9 : lg_cmp (iL a) (iL b) = iI (cmpI a b) := by
    unfold lg_cmp cmpI
    by_cases h : b < a
    · rw [if_pos h, if_pos ((iL_lt hb ha).mpr h)]; rfl
    · rw [if_neg h, if_neg (fun q => h ((iL_lt hb ha).mp q))]
      by_cases h2 : a = b
      · rw [if_pos h2, if_pos ((iL_eq ha hb).mpr h2)]; rfl
      · rw [if_neg h2, if_neg (fun q => h2 ((iL_eq ha hb).mp q))]; rfl
  rw [e9]
  exact k
theorem r_ifc_lt (C : Cx p s m args meth c cc nL own ret x g) {a b : Int} {off : Int} {tgt : Nat} (ht : (pc : Int) + off = (tgt : Int)) (d : decode cc pc = .ok (.ifCond .lt off, 3)) (kt : a < b → W p l e R s m args below meth c H locs cells slots Q (F0 m tgt ls rest)) (kf : b ≤ a → W p l e R s m args below meth c H locs cells slots Q (F0 m (pc + 3) ls rest)) : W p l e R s m args below meth c H locs cells slots Q (F0 m pc ls (.int (iI (cmpI a b)) :: rest)) :=
  r_if_lt C ht (cmpI_b a b).1 d (fun h => kt ((cmpI_b a b).2.1.mp h)) (fun h => kf (Int.not_lt.mp (fun q => absurd ((cmpI_b a b).2.1.mpr q) (Int.not_lt.mpr h))))
theorem r_ifc_ge (C : Cx p s m args meth c cc nL own ret x g) {a b : Int} {off : Int} {tgt : Nat} (ht : (pc : Int) + off = (tgt : Int)) (d : decode cc pc = .ok (.ifCond .ge off, 3)) (kt : b ≤ a → W p l e R s m args below meth c H locs cells slots Q (F0 m tgt ls rest)) (kf : a < b → W p l e R s m args below meth c H locs cells slots Q (F0 m (pc + 3) ls rest)) : W p l e R s m args below meth c H locs cells slots Q (F0 m pc ls (.int (iI (cmpI a b)) :: rest)) :=
  r_if_ge C ht (cmpI_b a b).1 d (fun h => kt (Int.not_lt.mp (fun q => absurd ((cmpI_b a b).2.1.mpr q) (Int.not_lt.mpr h)))) (fun h => kf ((cmpI_b a b).2.1.mp h))
theorem r_ifc_gt (C : Cx p s m args meth c cc nL own ret x g) {a b : Int} {off : Int} {tgt : Nat} (ht : (pc : Int) + off = (tgt : Int)) (d : decode cc pc = .ok (.ifCond .gt off, 3)) (kt : b < a → W p l e R s m args below meth c H locs cells slots Q (F0 m tgt ls rest)) (kf : a ≤ b → W p l e R s m args below meth c H locs cells slots Q (F0 m (pc + 3) ls rest)) : W p l e R s m args below meth c H locs cells slots Q (F0 m pc ls (.int (iI (cmpI a b)) :: rest)) :=
  r_if_gt C ht (cmpI_b a b).1 d (fun h => kt ((cmpI_b a b).2.2.mp h)) (fun h => kf (Int.not_lt.mp (fun q => absurd ((cmpI_b a b).2.2.mpr q) (Int.not_lt.mpr h))))
theorem r_ifc_le (C : Cx p s m args meth c cc nL own ret x g) {a b : Int} {off : Int} {tgt : Nat} (ht : (pc : Int) + off = (tgt : Int)) (d : decode cc pc = .ok (.ifCond .le off, 3)) (kt : a ≤ b → W p l e R s m args below meth c H locs cells slots Q (F0 m tgt ls rest)) (kf : b < a → W p l e R s m args below meth c H locs cells slots Q (F0 m (pc + 3) ls rest)) : W p l e R s m args below meth c H locs cells slots Q (F0 m pc ls (.int (iI (cmpI a b)) :: rest)) :=
  r_if_le C ht (cmpI_b a b).1 d (fun h => kt (Int.not_lt.mp (fun q => absurd ((cmpI_b a b).2.2.mpr q) (Int.not_lt.mpr h)))) (fun h => kf ((cmpI_b a b).2.2.mp h))
theorem r_ifc_ne (C : Cx p s m args meth c cc nL own ret x g) {a b : Int} {off : Int} {tgt : Nat} (ht : (pc : Int) + off = (tgt : Int)) (d : decode cc pc = .ok (.ifCond .ne off, 3)) (kt : a ≠ b → W p l e R s m args below meth c H locs cells slots Q (F0 m tgt ls rest)) (kf : a = b → W p l e R s m args below meth c H locs cells slots Q (F0 m (pc + 3) ls rest)) : W p l e R s m args below meth c H locs cells slots Q (F0 m pc ls (.int (iI (cmpI a b)) :: rest)) :=
  r_if_ne C ht (cmpI_b a b).1 d (fun h => kt (by have := cmpI_b a b; omega)) (fun h => kf (by have := cmpI_b a b; omega))
theorem r_ifc_eq (C : Cx p s m args meth c cc nL own ret x g) {a b : Int} {off : Int} {tgt : Nat} (ht : (pc : Int) + off = (tgt : Int)) (d : decode cc pc = .ok (.ifCond .eq off, 3)) (kt : a = b → W p l e R s m args below meth c H locs cells slots Q (F0 m tgt ls rest)) (kf : a ≠ b → W p l e R s m args below meth c H locs cells slots Q (F0 m (pc + 3) ls rest)) : W p l e R s m args below meth c H locs cells slots Q (F0 m pc ls (.int (iI (cmpI a b)) :: rest)) :=
  r_if_eq C ht (cmpI_b a b).1 d (fun h => kt (by have := cmpI_b a b; omega)) (fun h => kf (by have := cmpI_b a b; omega))
end ROWS3
def whyMk (F : Nat → Int) (x y : Int) : Int := if ¬ (0 ≤ x ∧ x ≤ 60) ∨ ¬ (x ≤ y ∧ y ≤ 60) ∨ y < 1 then 1 else if F 0 = 5 ∨ free F < x then 2 else 0
def whyFl (F : Nat → Int) (x : Int) (s : Nat) (v : Int) : Int := if ¬ (0 ≤ x ∧ x < F 0) then 1 else if ¬ (0 ≤ v ∧ v ≤ 60) then 2 else if okFl F s v then 0 else 3
def whyCe (F : Nat → Int) (x : Int) (s : Nat) (v : Int) : Int := if ¬ (0 ≤ x ∧ x < F 0) then 1 else if okCe F s v then 0 else 2
theorem mostFrom_b (F : Nat → Int) (s : Nat) : mostFrom F s < 5 := by have := mf_b (F := F) s 5; unfold mostFrom; omega
theorem mostOf_b {F : Nat → Int} (h : Sm F) (s : Nat) : mostOf F s < 5 := by have := mo_b (F := F) s (F 0).toNat; have := h.n; unfold mostOf; omega
theorem least_b (F : Nat → Int) (s : Nat) : -1 ≤ least F s ∧ least F s < 40 := oa_b s 0 40
theorem whyMk_b (F : Nat → Int) (x y : Int) : 0 ≤ whyMk F x y ∧ whyMk F x y ≤ 2 := by unfold whyMk; (repeat' split) <;> omega
theorem whyFl_b (F : Nat → Int) (x : Int) (s : Nat) (v : Int) : 0 ≤ whyFl F x s v ∧ whyFl F x s v ≤ 3 := by unfold whyFl; (repeat' split) <;> omega
theorem whyCe_b (F : Nat → Int) (x : Int) (s : Nat) (v : Int) : 0 ≤ whyCe F x s v ∧ whyCe F x s v ≤ 2 := by unfold whyCe; (repeat' split) <;> omega
theorem mf_1 (F : Nat → Int) (s : Nat) : mf F s 1 = 0 := by simp [mf]
theorem mo_1 (F : Nat → Int) (s : Nat) : mo F s 1 = 0 := by simp [mo]
theorem mo_end {F : Nat → Int} {s i : Nat} (h : 1 ≤ i ∧ ((i : Int) ≤ F 0 ∨ i = 1)) (h2 : F 0 ≤ (i : Int)) (h0 : 0 ≤ F 0) : mo F s i = mostOf F s := by
  unfold mostOf
  rcases (by omega : i = (F 0).toNat ∨ (i = 1 ∧ (F 0).toNat = 0)) with h | ⟨h, h2⟩
  · rw [h]
  · rw [h, h2, mo_1]
    rfl

section ROWS2
variable {p : Program} {l : Launch} {e : Env} {R : Room} {s : State} {m : MethodId} {args : Array Value} {below : List Frame} {meth : Method} {c : Code} {H : Heap} {locs : List Loc} {cells slots : Nat} {Q : State → Prop}
variable {cc : ByteArray} {nL : Nat} {own : String} {ret : Option FieldType} {x : Cond} {g : Gt} {pc : Nat} {ls : Array Slot} {rest : List Value}
theorem r_min (C : Cx p s m args meth c cc nL own ret x g) {a b : Int} {idx : Nat} (hz : ls.size = nL) (h1 : Cond.methodLink own idx yJ9_min_7cf53 ∈ AL) (h2 : Cond.static yJ9_min_7cf53 ∈ AL) (h3 : Cond.initialized "java/lang/Math" ∈ AL) (h4 : Cond.code yJ9_min_7cf53 cJ9_min_7cf53 2 (some .int) ∈ AL) (ha : Rg a) (hb : Rg b) (hf : 1 ≤ R.frames) (hlo : (rest.map fun v => v.category).sum + 13 ≤ R.locals) (hc : cells ≤ R.cells) (hs : slots ≤ R.slots) (d : decode cc pc = .ok (.invokestatic idx, 3)) (k : W p l e R s m args below meth c H locs cells slots Q (F0 m (pc + 3) ls (.int (iI (mn a b)) :: rest))) : W p l e R s m args below meth c H locs cells slots Q (F0 m pc ls (.int (iI b) :: .int (iI a) :: rest)) := by
  have ok : ∀ w, w ∈ AL → w.before args s = true := fun w hw => C.2.2.2.2.1 w (List.mem_cons_of_mem _ hw)
  refine va_mmin C.1 C.2.1 (C.2.2.1.trans hz.symm) C.2.2.2.1 (ok _ h1) (ok _ h2) (ok _ h3) (ok _ h4) hf hlo hc hs d ?_
  have e9 : (if iI b < iI a then iI b else iI a) = iI (mn a b) := by
    unfold mn
    by_cases h : b < a
    · rw [if_pos h, if_pos ((iI_lt hb ha).mpr h)]
    · rw [if_neg h, if_neg (fun q => h ((iI_lt hb ha).mp q))]
  rw [e9]
  exact k
theorem r_max (C : Cx p s m args meth c cc nL own ret x g) {a b : Int} {idx : Nat} (hz : ls.size = nL) (h1 : Cond.methodLink own idx yJ9_max_7cf53 ∈ AL) (h2 : Cond.static yJ9_max_7cf53 ∈ AL) (h3 : Cond.initialized "java/lang/Math" ∈ AL) (h4 : Cond.code yJ9_max_7cf53 cJ9_max_7cf53 2 (some .int) ∈ AL) (ha : Rg a) (hb : Rg b) (hf : 1 ≤ R.frames) (hlo : (rest.map fun v => v.category).sum + 13 ≤ R.locals) (hc : cells ≤ R.cells) (hs : slots ≤ R.slots) (d : decode cc pc = .ok (.invokestatic idx, 3)) (k : W p l e R s m args below meth c H locs cells slots Q (F0 m (pc + 3) ls (.int (iI (if a < b then b else a)) :: rest))) : W p l e R s m args below meth c H locs cells slots Q (F0 m pc ls (.int (iI b) :: .int (iI a) :: rest)) := by
  have ok : ∀ w, w ∈ AL → w.before args s = true := fun w hw => C.2.2.2.2.1 w (List.mem_cons_of_mem _ hw)
  refine va_mmax C.1 C.2.1 (C.2.2.1.trans hz.symm) C.2.2.2.1 (ok _ h1) (ok _ h2) (ok _ h3) (ok _ h4) hf hlo hc hs d ?_
  have e9 : (if iI a < iI b then iI b else iI a) = iI (if a < b then b else a) := by
    by_cases h : a < b
    · rw [if_pos h, if_pos ((iI_lt ha hb).mpr h)]
    · rw [if_neg h, if_neg (fun q => h ((iI_lt ha hb).mp q))]
  rw [e9]
  exact k
/-- System.arraycopy of a whole row into another of its length -/
theorem r_copy (C : Cx p s m args meth c cc nL own ret x g) {a0 a n idx : Nat} {f f1 : Nat → Int} {A : Nat → Prop} {H0 : Heap} (h0 : aAt g a0 n f H) (h1 : aAt g a n f1 H) (hF : Fr A H0 H locs) (hA : A a) (hn : n < 2147483648) (hz : ls.size = nL) (w1 : Cond.methodLink own idx arraycopyName ∈ AL) (w2 : Cond.native arraycopyName ∈ AL) (w3 : Cond.static arraycopyName ∈ AL) (w4 : Cond.initialized "java/lang/System" ∈ AL) (hf : 1 ≤ R.frames) (hlo : (rest.map fun v => v.category).sum + 18 ≤ R.locals) (d : decode cc pc = .ok (.invokestatic idx, 3))
    (k : ∀ (H1 : Heap) (locs1 : List Loc), aAt g a n f H1 → (∀ b : Nat, b ≠ a → H1[b]? = H[b]?) → H1.size = H.size → Fr A H0 H1 locs1 → W p l e R s m args below meth c H1 locs1 cells slots Q (F0 m (pc + 3) ls rest)) : W p l e R s m args below meth c H locs cells slots Q (F0 m pc ls (.int (iI (n : Int)) :: .int (iI 0) :: .ref a :: .int (iI 0) :: .ref a0 :: rest)) := by
  have ok : ∀ w, w ∈ AL → w.before args s = true := fun w hw => C.2.2.2.2.1 w (List.mem_cons_of_mem _ hw)
  intro T hT X
  have hK := C.2.2.2.2.2.2.2
  obtain ⟨-, k0, hk0, cm0, hkk0⟩ := (hK.2 0 _ rfl).1 n (fun j => .int (iI (f j)))
  obtain ⟨-, k1, hk1, cm1, hkk1⟩ := (hK.2 0 _ rfl).1 n (fun j => .int (iI (f1 j)))
  have z0 : (iI 0).toNatClampNeg = 0 := by decide
  have zn : (iI (n : Int)).toNatClampNeg = n := iI_nat hn
  have tn : (iI (n : Int)).toInt = (n : Int) := iI_toInt (by omega)
  have t0 : (iI 0).toInt = 0 := by decide
  obtain ⟨vm', X', step⟩ := X.arraycopy C.1 C.2.2.2.1 (ok _ w1) (ok _ w2) (ok _ w3) (ok _ w4) (src := a0) (dst := a) (cs := vp_cell g.2.1 (n, .inl (fun j => iI (f j)))) (cd := vp_cell g.2.1 (n, .inl (fun j => iI (f1 j)))) (srcPos := iI 0) (destPos := iI 0) (n := iI (n : Int)) (by rw [hT]; exact h0) (by rw [hT]; exact h1)
    (fun _ h => by cases h) (fun _ h => by cases h) (fun h => by cases h) (fun h => by cases h) hk0 hk1 hkk0 hkk1 rfl (by decide) (by decide) (by rw [z_iI, iI_lt (by omega) (by omega)]; omega)
    (by rw [t0, tn]; show ¬ _ > ((arrV _ n (fun j => .int (iI (f j)))).slots.size : Int); rw [arrV_size]; omega)
    (by rw [t0, tn]; show ¬ _ > ((arrV _ n (fun j => .int (iI (f1 j)))).slots.size : Int); rw [arrV_size]; omega)
    (fun vm₁ _ i hi => by
      rw [zn] at hi
      have e : (vp_cell g.2.1 (n, .inl (fun j => iI (f j)))).slots.getD ((iI 0).toNatClampNeg + i) .null = .int (iI (f i)) := by
        rw [z0, Nat.zero_add]
        show (arrV _ n (fun j => .int (iI (f j)))).slots.getD _ _ = _
        rw [Array.getD_eq_getD_getElem?, arrV_read _ _ (by omega)]
        rfl
      refine ⟨?_, ?_⟩
      · rw [e]
        rfl
      · rw [e]
        exact trivial)
    (g := F0 m pc ls (.int (iI (n : Int)) :: .int (iI 0) :: .ref a :: .int (iI 0) :: .ref a0 :: rest)) rfl (by rw [C.2.2.1]; exact hz) (rest := rest) rfl (by rw [C.2.1]; exact d) hf (by show 2 * 0 + _ + (7 + 11) ≤ _; omega)
  have e1 : copied (vp_cell g.2.1 (n, .inl (fun j => iI (f j)))) (vp_cell g.2.1 (n, .inl (fun j => iI (f1 j)))) (iI 0) (iI 0) (iI (n : Int)) = vp_cell g.2.1 (n, .inl (va_cpy (fun j => iI (f j)) (fun j => iI (f1 j)) 0 0 n)) := by
    have := va_copied (fun z => .int z) g.2.1 g.2.1 (n0 := n) (n1 := n) (sp := 0) (dp := 0) (n := n) (fun j => iI (f j)) (fun j => iI (f1 j)) (by omega)
    unfold copied
    rw [z0, zn]
    exact this
  rw [e1] at X' step
  have hl : a < H.size := (Array.getElem?_eq_some_iff.mp h1).1
  have hheap : ((T.setVm vm').setCell a (vp_cell g.2.1 (n, .inl (va_cpy (fun j => iI (f j)) (fun j => iI (f1 j)) 0 0 n)))).heap = H.setIfInBounds a (vp_cell g.2.1 (n, .inl (va_cpy (fun j => iI (f j)) (fun j => iI (f1 j)) 0 0 n))) := by rw [← hT]; rfl
  have oq : ∀ q : Nat, q ≠ a → (H.setIfInBounds a (vp_cell g.2.1 (n, .inl (va_cpy (fun j => iI (f j)) (fun j => iI (f1 j)) 0 0 n))))[q]? = H[q]? := fun q hq => by simp [Array.getElem?_setIfInBounds, Ne.symm hq]
  have h9 : aAt g a n f (H.setIfInBounds a (vp_cell g.2.1 (n, .inl (va_cpy (fun j => iI (f j)) (fun j => iI (f1 j)) 0 0 n)))) := by
    unfold aAt
    have e2 : (H.setIfInBounds a (vp_cell g.2.1 (n, .inl (va_cpy (fun j => iI (f j)) (fun j => iI (f1 j)) 0 0 n))))[a]? = some (vp_cell g.2.1 (n, .inl (va_cpy (fun j => iI (f j)) (fun j => iI (f1 j)) 0 0 n))) := by simp [Array.getElem?_setIfInBounds, hl]
    rw [e2, vp_cell_i, vp_cell_i]
    refine congrArg some (arrV_cg (fun j hj => ?_))
    simp only [va_cpy]
    rw [if_pos (by omega)]
    simp
  obtain ⟨t, a1, b1⟩ := k _ _ h9 oq (by simp) ⟨by simp; exact hF.1, fun q hq => (oq q (fun e => hq (e ▸ hA))).trans (hF.2.1 q hq), fun q hq => by
    rcases List.mem_append.mp hq with h | h
    · exact hF.2.2 q h
    · obtain ⟨z, -, hz⟩ := List.mem_map.mp h
      rw [← hz]
      exact hA⟩ _ hheap X'
  exact ⟨t, step t a1, b1⟩
theorem r_tsIn (C : Cx p s m args meth c cc nL own ret x g) {a : Int} (ha : Rg a) {dflt lo hi : Int} {offs : Array Int} {len : Nat} {off : Int} {tgt : Nat} (q : Int) (hq : a = q) (h1 : lo ≤ q) (h2 : q ≤ hi) (ho : offs[(q - lo).toNat]? = some off) (ht : (pc : Int) + off = (tgt : Int)) (d : decode cc pc = .ok (.tableswitch dflt lo hi offs, len)) (k : W p l e R s m args below meth c H locs cells slots Q (F0 m tgt ls rest)) : W p l e R s m args below meth c H locs cells slots Q (F0 m pc ls (.int (iI a) :: rest)) := by
  subst hq
  exact lv_tableIn C.1 C.2.1 d (by rw [iI_toInt ha]; omega) (by rw [iI_toInt ha]; omega) (by rw [iI_toInt ha]; exact ho) ht k
theorem r_tsOut (C : Cx p s m args meth c cc nL own ret x g) {a : Int} (ha : Rg a) {dflt lo hi : Int} {offs : Array Int} {len : Nat} {tgt : Nat} (h : a < lo ∨ hi < a) (ht : (pc : Int) + dflt = (tgt : Int)) (d : decode cc pc = .ok (.tableswitch dflt lo hi offs, len)) (k : W p l e R s m args below meth c H locs cells slots Q (F0 m tgt ls rest)) : W p l e R s m args below meth c H locs cells slots Q (F0 m pc ls (.int (iI a) :: rest)) :=
  lv_tableOut C.1 C.2.1 d (by rw [iI_toInt ha]; exact h) ht k
theorem r_lk (C : Cx p s m args meth c cc nL own ret x g) {a : Int} (ha : Rg a) {dflt : Int} {ps : Array (Int × Int)} {len : Nat} {off : Int} {tgt : Nat} (hp : (ps.toList.zip (ps.toList.drop 1)).all (fun (a, next) => a.1 < next.1) = true) (ho : Op.lookupswitch.offset ps.toList dflt a = off) (ht : (pc : Int) + off = (tgt : Int)) (d : decode cc pc = .ok (.lookupswitch dflt ps, len)) (k : W p l e R s m args below meth c H locs cells slots Q (F0 m tgt ls rest)) : W p l e R s m args below meth c H locs cells slots Q (F0 m pc ls (.int (iI a) :: rest)) :=
  lv_lookup C.1 C.2.1 d hp (by rw [iI_toInt ha]; exact ho) ht k
end ROWS2
/-! ===== one device becomes another ===== -/
def rank (j : Nat) : Nat := if j < 2 then j else if (j - 2) % 52 < 7 then 2 + (j - 2) % 52 else if (j - 2) % 52 < 12 then 9 + 2 * ((j - 2) / 52) else 10 + 2 * ((j - 2) / 52)
def mx (F F2 : Nat → Int) (m : Nat) : Nat → Int := fun j => if rank j < m then F2 j else F j
theorem mx_lt {F F2 : Nat → Int} {m j : Nat} (h : rank j < m) : mx F F2 m j = F2 j := if_pos h
theorem mx_ge {F F2 : Nat → Int} {m j : Nat} (h : ¬ rank j < m) : mx F F2 m j = F j := if_neg h
theorem mx_s {F F2 : Nat → Int} {m j : Nat} (h : rank j ≠ m) : mx F F2 (m + 1) j = mx F F2 m j := by
  unfold mx
  by_cases q : rank j < m
  · rw [if_pos q, if_pos (by omega)]
  · rw [if_neg q, if_neg (by omega)]
theorem mx_0 (F F2 : Nat → Int) : mx F F2 0 = F := funext fun j => if_neg (Nat.not_lt_zero _)
section BEC
variable {g : Gt} {d : Nat} {F F2 : Nat → Int} {H H1 : Heap}
theorem rank_c (s k : Nat) (hk : k < 7) : rank (2 + 52 * s + k) = 2 + k := by unfold rank; rw [if_neg (by omega), if_pos (by omega)]; omega
theorem rank_l (s l : Nat) (hl : l < 5) : rank (2 + 52 * s + (7 + l)) = 9 + 2 * s := by unfold rank; rw [if_neg (by omega), if_neg (by omega), if_pos (by omega)]; omega
theorem rank_w (s p : Nat) (hp : p < 40) : rank (2 + 52 * s + (12 + p)) = 10 + 2 * s := by unfold rank; rw [if_neg (by omega), if_neg (by omega), if_neg (by omega)]; omega
theorem dvAt.mx0 (h1 : dvAt g d (up F 0 (F2 0)) H1) : dvAt g d (mx F F2 1) H1 := h1.cg (fun j hj => by
  by_cases e : j = 0
  · subst e; rw [up_s, mx_lt (by decide)]
  · have : rank j ≠ 0 := by unfold rank; split <;> (try split) <;> (try split) <;> omega
    rw [up_n _ _ e, mx_s this, mx_0])
theorem dvAt.mx1 (h1 : dvAt g d (up (mx F F2 1) 1 (F2 1)) H1) : dvAt g d (mx F F2 2) H1 := h1.cg (fun j hj => by
  by_cases e : j = 1
  · subst e; rw [up_s, mx_lt (by decide)]
  · have : rank j ≠ 1 := by unfold rank; split <;> (try split) <;> (try split) <;> omega
    rw [up_n _ _ e, mx_s this])
theorem dvAt.mxc (k : Nat) (hk : k < 7) (h : dvAt g d (mx F F2 (2 + k)) H) (h1 : aAt g (d + dvo k) 5 (fun s => F2 (2 + 52 * s + k)) H1) (ho : ∀ b : Nat, b ≠ d + dvo k → H1[b]? = H[b]?) : dvAt g d (mx F F2 (2 + k + 1)) H1 := by
  obtain ⟨g1, g2, g3, g4, g5, g6⟩ := h
  have hk' := dvo_lt hk
  refine ⟨by rw [dvfs_cg (mx_s (by rw [show rank 0 = 0 by decide]; omega)) (mx_s (by rw [show rank 1 = 1 by decide]; omega))]; exact g1.kept (ho _ (by omega)), fun j hj => ?_, g3.kept (ho _ (by omega)), fun s' hs' => ((g4 s' hs').kept (ho _ (by omega))).cg (fun l hl => (mx_s (by rw [rank_l _ _ hl]; omega)).symm), g5.kept (ho _ (by omega)), fun s' hs' => ((g6 s' hs').kept (ho _ (by omega))).cg (fun p hp => (mx_s (by rw [rank_w _ _ hp]; omega)).symm)⟩
  by_cases hjk : j = k
  · subst hjk
    exact h1.cg (fun s' hs' => (mx_lt (by rw [rank_c _ _ hj]; omega)).symm)
  · have hj' := dvo_lt hj
    have hne : dvo j ≠ dvo k := fun e => hjk (dvo_inj hj hk e)
    exact ((g2 j hj).kept (ho _ (by omega))).cg (fun s' hs' => (mx_s (by rw [rank_c _ _ hj]; omega)).symm)
theorem dvAt.mxl (s : Nat) (hs : s < 5) (h : dvAt g d (mx F F2 (9 + 2 * s)) H) (h1 : aAt g (d + 6 + s) 5 (fun l => F2 (2 + 52 * s + (7 + l))) H1) (ho : ∀ b : Nat, b ≠ d + 6 + s → H1[b]? = H[b]?) : dvAt g d (mx F F2 (9 + 2 * s + 1)) H1 := by
  obtain ⟨g1, g2, g3, g4, g5, g6⟩ := h
  refine ⟨by rw [dvfs_cg (mx_s (by rw [show rank 0 = 0 by decide]; omega)) (mx_s (by rw [show rank 1 = 1 by decide]; omega))]; exact g1.kept (ho _ (by omega)), fun j hj => ((g2 j hj).kept (ho _ (by have := dvo_lt hj; omega))).cg (fun s' hs' => (mx_s (by rw [rank_c _ _ hj]; omega)).symm), g3.kept (ho _ (by omega)), fun s' hs' => ?_, g5.kept (ho _ (by omega)), fun s' hs' => ((g6 s' hs').kept (ho _ (by omega))).cg (fun p hp => (mx_s (by rw [rank_w _ _ hp]; omega)).symm)⟩
  by_cases e : s' = s
  · subst e
    exact h1.cg (fun l hl => (mx_lt (by rw [rank_l _ _ hl]; omega)).symm)
  · exact ((g4 s' hs').kept (ho _ (by omega))).cg (fun l hl => (mx_s (by rw [rank_l _ _ hl]; omega)).symm)
theorem dvAt.mxw (s : Nat) (hs : s < 5) (h : dvAt g d (mx F F2 (10 + 2 * s)) H) (h1 : aAt g (d + 12 + s) 40 (fun p => F2 (2 + 52 * s + (12 + p))) H1) (ho : ∀ b : Nat, b ≠ d + 12 + s → H1[b]? = H[b]?) : dvAt g d (mx F F2 (10 + 2 * s + 1)) H1 := by
  obtain ⟨g1, g2, g3, g4, g5, g6⟩ := h
  refine ⟨by rw [dvfs_cg (mx_s (by rw [show rank 0 = 0 by decide]; omega)) (mx_s (by rw [show rank 1 = 1 by decide]; omega))]; exact g1.kept (ho _ (by omega)), fun j hj => ((g2 j hj).kept (ho _ (by have := dvo_lt hj; omega))).cg (fun s' hs' => (mx_s (by rw [rank_c _ _ hj]; omega)).symm), g3.kept (ho _ (by omega)), fun s' hs' => ((g4 s' hs').kept (ho _ (by omega))).cg (fun l hl => (mx_s (by rw [rank_l _ _ hl]; omega)).symm), g5.kept (ho _ (by omega)), fun s' hs' => ?_⟩
  by_cases e : s' = s
  · subst e
    exact h1.cg (fun p hp => (mx_lt (by rw [rank_w _ _ hp]; omega)).symm)
  · exact ((g6 s' hs').kept (ho _ (by omega))).cg (fun p hp => (mx_s (by rw [rank_w _ _ hp]; omega)).symm)
theorem dvAt.mxe (h : dvAt g d (mx F F2 19) H) : dvAt g d F2 H := h.cg (fun j hj => mx_lt (by unfold rank; split <;> (try split) <;> (try split) <;> omega))
end BEC
/-! ===== more of the spec ===== -/
theorem mn_b (a b : Int) : mn a b ≤ a ∧ mn a b ≤ b ∧ (mn a b = a ∨ mn a b = b) := by unfold mn; split <;> omega
/-- the first space from i on, of k, that has lost since -/
def fls (F F2 : Nat → Int) : Nat → Nat → Int
  | 0, _ => -1
  | k + 1, i => if F2 (2 + 52 * i + 5) < F (2 + 52 * i + 5) then (i : Int) else fls F F2 k (i + 1)
theorem fls_b {F F2 : Nat → Int} : ∀ k i : Nat, -1 ≤ fls F F2 k i ∧ fls F F2 k i < k + i
  | 0, i => by simp only [fls]; omega
  | k + 1, i => by
    have := fls_b (F := F) (F2 := F2) k (i + 1)
    simp only [fls]
    split <;> omega
def nAll (F : Nat → Int) (w : Int) : Int :=
  if w = 0 then F 0 else if w = 1 then tkA F else if w = 2 then 60 - S5 F 0 else if w = 3 then free F else if w = 4 then borrA F else if w = 5 then F 1 else if w = 6 then S5 F 4 else if w = 7 then S5 F 5 else S5 F 6
def nOf (F : Nat → Int) (s : Nat) (w : Int) : Int :=
  if w = 0 then F (2 + 52 * s + 0) else if w = 1 then F (2 + 52 * s + 1) else if w = 2 then tk F s else if w = 3 then F (2 + 52 * s + 2) else if w = 4 then F (2 + 52 * s + 3) else if w = 5 then borr F s else if w = 6 then S5 F (7 + s) else if w = 7 then idle F s else if w = 8 then F (2 + 52 * s + 4) else if w = 9 then F (2 + 52 * s + 5) else F (2 + 52 * s + 6)
theorem rc1_0 (F : Nat → Int) (s : Nat) : rc1 F s 0 = F 0 := by
  unfold rc1 inc dec
  rw [up_n _ _ (by omega), up_n _ _ (by omega)]
theorem oa_cg {F G : Nat → Int} {s : Nat} {t : Int} : ∀ {n : Nat}, (∀ p, p < n → F (2 + 52 * s + (12 + p)) = G (2 + 52 * s + (12 + p))) → oa F s t n = oa G s t n
  | 0, _ => rfl
  | n + 1, h => by
    have ih := oa_cg (F := F) (G := G) (s := s) (t := t) (n := n) (fun p hp => h p (by omega))
    have hb := oa_b (F := G) s t n
    simp only [oa]
    rw [ih, h n (by omega)]
    by_cases e : oa G s t n = -1
    · rw [e]; simp
    · rw [h (oa G s t n).toNat (by omega)]
theorem tk_pos {F : Nat → Int} (hS : Sm F) {s l : Nat} (hs : s < 5) (hl : l < 5) (hp : 0 < F (2 + 52 * s + (7 + l))) : 0 < tk F s := by
  have h2 := hS.f s 2 hs (by omega)
  have h3 := hS.f s 3 hs (by omega)
  have g0 := hS.f s (7 + 0) hs (by omega)
  have g1 := hS.f s (7 + 1) hs (by omega)
  have g2 := hS.f s (7 + 2) hs (by omega)
  have g3 := hS.f s (7 + 3) hs (by omega)
  have g4 := hS.f s (7 + 4) hs (by omega)
  unfold tk borr
  rw [sumI_5]
  have : l = 0 ∨ l = 1 ∨ l = 2 ∨ l = 3 ∨ l = 4 := by omega
  rcases this with q | q | q | q | q <;> subst q <;> omega
theorem rc1_page (F : Nat → Int) {s b p : Nat} (hs : s < 5) (hb : b < 5) (hm : mostOf F s < 5) (hp : p < 40) : rc1 F s (2 + 52 * b + (12 + p)) = F (2 + 52 * b + (12 + p)) := by
  unfold rc1 inc dec
  rw [up_n _ _ (by omega), up_n _ _ (by omega)]
theorem rc1_least {F : Nat → Int} (hS : Sm F) {s : Nat} (hs : s < 5) (hm : mostOf F s < 5) (hne : mostOf F s ≠ s) (hp : 0 < F (2 + 52 * mostOf F s + (7 + s))) (hpg : Pg F s) : least (rc1 F s) (mostOf F s) ≠ -1 := by
  have := hpg _ hm hne (tk_pos hS hm hs hp)
  unfold least at *
  rw [oa_cg (G := F) (fun p hp => rc1_page F hs hm hm hp)]
  exact this
theorem needR_b (F : Nat → Int) (s : Nat) : 0 ≤ needR F s ∧ needR F s ≤ 5 := by unfold needR; (repeat' split) <;> omega
theorem lender_b {F : Nat → Int} (h : Sm F) (x y : Nat) : -1 ≤ lender F x y ∧ lender F x y < F 0 ∧ F 0 ≤ 5 := by
  have := lnd_b (F := F) x y (F 0).toNat
  have := h.n
  unfold lender
  omega
theorem mn_self (a : Int) : mn a a = a := by unfold mn; split <;> rfl
theorem tr1_C {F : Nat → Int} (hC : Cz F) (s p : Nat) (hp : p < 40) : Cz (tr1 F s p) := fun s' l h1 h2 h3 => by
  unfold tr1 at *
  rw [up_n _ _ (by omega)] at h1
  rw [up_n _ _ (by omega)]
  exact hC s' l h1 h2 h3

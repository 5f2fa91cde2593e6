/-! ===== the law: rows, and what stays through it ===== -/
def LX (l : Launch) (s : State) (kt : Kt) (b mb ob sc L : Nat) (X : Nat → Int32) : Prop := l.stackTraces = false ∧ SK kt s s.heap ∧ kt.1 ≤ s.heap.size ∧ b = s.heap.size ∧ mb = b + 407 ∧ ob = b + 415 ∧ sc < s.heap.size ∧ va_X sc L X s s.heap ∧ L ≤ 2048
theorem Gf.lm {b n ob : Nat} {H0 H H1 : Heap} {locs L : List Loc} (h : Gf b n H0 H locs) (hob : b ≤ ob) (z1 : H.size ≤ H1.size) (o1 : ∀ q : Nat, q < H.size → ¬ Cob b ob q → H1[q]? = H[q]?) (hL : ∀ x ∈ L, Cob b ob x.base) : Gf b (H1.size - b) H0 H1 (locs ++ L) := by
  have hz := h.1
  refine ⟨by omega, fun q hq => (o1 q (by omega) (not_cob (by omega) (by omega))).trans (h.2.1 q hq), fun x hx => ?_⟩
  rcases List.mem_append.mp hx with h1 | h1
  · exact h.2.2 x h1
  · rcases hL x h1 with h2 | h2
    · exact h2.1
    · omega
theorem MW.rc {g : Gt} {mb : Nat} {rf sz ac : Int} {TX F DIA KEP ISK : Nat → Int} {H : Heap} (h : MW g mb rf sz ac TX F DIA KEP ISK H) : ∃ M, mdAt g mb M H := by
  obtain ⟨M, TRI, AP, h1, h2, h3, h4, g1, -⟩ := h
  exact ⟨M, g1⟩
theorem not_mdp {mb q : Nat} (h : ¬ (mb ≤ q ∧ q < mb + 8)) : ¬ Mdp mb q := h
def SiteW (idx : Nat) (y : MethodName) (bytes : ByteArray) (maxL : Nat) (hh : List (Nat × Nat × Nat × Nat)) (n : Nat) : Prop :=
  (Cond.methodLink "LentRoomLaw" idx y ∈ AL ∧ Cond.static y ∈ AL ∧ Cond.initialized y.cls ∈ AL ∧ Cond.codeWith y bytes maxL (some .int) hh ∈ AL) ∧ (y.cls ≠ "java/lang/invoke/MethodHandle" ∧ y.cls ≠ "java/lang/invoke/VarHandle" ∧ (parseMethodDescriptor y.desc).map (fun d => d.parameters.length) = some n)
theorem ac_b {ac : Int} (h : 0 ≤ ac ∧ ac ≤ 14) : 0 ≤ remA ac ∧ remA ac ≤ 14 := by unfold remA; split <;> omega
theorem tx_up {TX : Nat → Int} (h : ∀ k : Nat, k < 120 → 0 ≤ TX k ∧ TX k ≤ 255) {x : Int} (hx : 0 ≤ x ∧ x ≤ 255) (j : Nat) : ∀ k : Nat, k < 120 → 0 ≤ up TX j x k ∧ up TX j x k ≤ 255 := fun k hk => by
  by_cases e : k = j
  · rw [up_e _ _ e]
    exact hx
  · rw [up_n _ _ e]
    exact h k hk
section LAWROWS
variable {p : Program} {l : Launch} {e : Env} {R : Room} {s : State} {m : MethodId} {args : Array Value} {below : List Frame} {meth : Method} {c : Code} {H : Heap} {locs : List Loc} {cells slots : Nat} {Q : State → Prop}
variable {cc : ByteArray} {nL : Nat} {own : String} {ret : Option FieldType} {x : Cond} {g : Gt} {k : Kt} {pc : Nat} {ls : Array Slot} {rest st : List Value}
variable {y : MethodName} {bytes : ByteArray} {maxL idx n f lo nc : Nat} {As : List Value} {P P' : Heap → Prop} {b ob : Nat} {Kc : Int} {vv : Int64} {hh : List (Nat × Nat × Nat × Nat)}
theorem r_sld (C : Cx p s m args meth c cc nL own ret x g) {sc L : Nat} {X : Nat → Int32} (hX : va_X sc L X s H) {i : Int} (q : Nat) (hi : i = (q : Int)) (hq : q < L) (hL : L ≤ 2048) {v : Int32} (hv : X q = v) (d : decode cc pc = .ok (.iaload, 1)) (kk : W p l e R s m args below meth c H locs cells slots Q (F0 m (pc + 1) ls (.int v :: rest))) : W p l e R s m args below meth c H locs cells slots Q (F0 m pc ls (.int (iI i) :: .ref sc :: rest)) := by
  subst hi
  subst hv
  obtain ⟨scr, h1, h2, h3, h4, h5⟩ := hX
  refine W.iald (v := .int (X q)) C.1 C.2.1 h1 h2 h3 (by rw [h4]; exact iI_in hq (by omega)) ?_ rfl rfl d kk
  rw [iI_nat (by omega)]
  exact h5 q hq
theorem r_slen (C : Cx p s m args meth c cc nL own ret x g) {sc L : Nat} {X : Nat → Int32} (hX : va_X sc L X s H) (d : decode cc pc = .ok (.arraylength, 1)) (kk : W p l e R s m args below meth c H locs cells slots Q (F0 m (pc + 1) ls (.int (iI (L : Int)) :: rest))) : W p l e R s m args below meth c H locs cells slots Q (F0 m pc ls (.ref sc :: rest)) := by
  obtain ⟨scr, h1, h2, h3, h4, h5⟩ := hX
  exact W.alen (n := iI (L : Int)) C.1 C.2.1 h1 h2 (by rw [h4] <;> rfl) rfl rfl d kk
theorem r_icmp_same (C : Cx p s m args meth c cc nL own ret x g) {v : Int32} {off : Int} {tgt : Nat} (ht : (pc : Int) + off = (tgt : Int)) (d : decode cc pc = .ok (.if_icmp .eq off, 3)) (kk : W p l e R s m args below meth c H locs cells slots Q (F0 m tgt ls rest)) : W p l e R s m args below meth c H locs cells slots Q (F0 m pc ls (.int v :: .int v :: rest)) := by
  obtain ⟨a, ha, rfl⟩ : ∃ a, Rg a ∧ v = iI a := ⟨_, rg_of v, (iI_of v).symm⟩
  exact r_icmp_eq C ht ha ha d (fun _ => kk) (fun z => absurd rfl z)
theorem r_lcmp_same (C : Cx p s m args meth c cc nL own ret x g) {v : Int64} (d : decode cc pc = .ok (.lcmp, 1)) (kk : W p l e R s m args below meth c H locs cells slots Q (F0 m (pc + 1) ls (.int (iI 0) :: rest))) : W p l e R s m args below meth c H locs cells slots Q (F0 m pc ls (.long v :: .long v :: rest)) := by
  obtain ⟨a, ha, rfl⟩ : ∃ a, RgL a ∧ v = iL a := ⟨_, rg_ofL v, (iL_of v).symm⟩
  refine r_lcmp C ha ha d ?_
  have e9 : cmpI a a = 0 := by unfold cmpI; rw [if_neg (by omega), if_pos rfl]
  rw [e9]
  exact kk
theorem r_and31 (C : Cx p s m args meth c cc nL own ret x g) {v : Int32} (d : decode cc pc = .ok (.iand, 1)) (kk : ∀ a : Int, 0 ≤ a ∧ a < 32 → W p l e R s m args below meth c H locs cells slots Q (F0 m (pc + 1) ls (.int (iI a) :: rest))) : W p l e R s m args below meth c H locs cells slots Q (F0 m pc ls (.int (iI 31) :: .int v :: rest)) := by
  refine lv_iand C.1 C.2.1 d ?_
  have h : (v &&& iI 31) = iI ((v.toBitVec.toNat % 32 : Nat) : Int) := by
    apply Int32.toBitVec_inj.mp
    show v.toBitVec &&& BitVec.ofInt 32 31 = BitVec.ofInt 32 ((v.toBitVec.toNat % 32 : Nat) : Int)
    rw [BitVec.ofInt_natCast]
    apply BitVec.eq_of_toNat_eq
    have e1 : (BitVec.ofInt 32 31).toNat = 2 ^ 5 - 1 := by decide
    rw [BitVec.toNat_and, e1, Nat.and_two_pow_sub_one_eq_mod, BitVec.toNat_ofNat]
    omega
  rw [h]
  exact kk _ ⟨by omega, by omega⟩
theorem r_sLM (C : Cx p s m args meth c cc nL "LentRoomLaw" ret x g) (K : SK k s H) (hM : LM l y bytes maxL hh f lo nc g k As b ob P P' Kc vv) (S : SiteW idx y bytes maxL hh n) (hP : P H ∧ ∃ f, lAt g ob 1 f H) (hz : ls.size = nL) (hn : As.length = n) (hR : RM f lo maxL R) (hst : st = As.reverse ++ rest) (hw : (rest.map fun v => v.category).sum ≤ 8) (hf : cells + nc ≤ R.cells ∧ slots + 6 * nc ≤ R.slots) (d : decode cc pc = .ok (.invokestatic idx, 3))
    (kk : ∀ (H1 : Heap) (L1 : List Loc), (Kc = 0 → P' H1 ∧ lAt g ob 1 (fun _ => vv) H1) → (Kc ≠ 0 → P H1 ∧ ∃ f, lAt g ob 1 f H1) → H.size ≤ H1.size → (∀ q : Nat, q < H.size → ¬ Cob b ob q → H1[q]? = H[q]?) → (∀ x ∈ L1, Cob b ob x.base) → W p l e R s m args below meth c H1 (locs ++ L1) (cells + nc) (slots + 6 * nc) Q (F0 m (pc + 3) ls (.int (iI Kc) :: rest))) : W p l e R s m args below meth c H locs cells slots Q (F0 m pc ls st) := by
  have hts := C.2.2.2.2.1
  obtain ⟨⟨s1, s2, s3, s4⟩, t1, t2, t3⟩ := S
  have cw : vx_CSW R s args "LentRoomLaw" idx y bytes maxL (some .int) hh (.codeWith y bytes maxL (some .int) hh :: AL) (rmx f lo nc) nc (6 * nc) n := by
    refine ⟨⟨rfl, rfl, hR.1, hR.2, pay_in hts (good_ws s4), List.mem_cons_self⟩, al_ok C s4, al_ok C s3, ⟨t1, t2⟩, fun sig h => ?_, al_ok C s1, al_ok C s2⟩
    rw [h] at t3
    exact (Option.some.inj t3).symm
  have hr := vx_runSW (p := p) (l := l) (e := e) (R := R) (s := s) (m := m) (args := args) (below := below) (meth := meth) (c := c) (H := H) (locs := locs) (cells := cells) (slots := slots) (n := n) (rest := rest) (g := F0 m pc ls st) ⟨C.1, C.2.1, C.2.2.1, C.2.2.2.1, C.2.2.2.2.1⟩ hM cw ⟨pck_blind, pck_pre C K (P := fun H => P H ∧ ∃ f, lAt g ob 1 f H) hP⟩ rfl hn hz hst (lv_room hw) d hf
  intro T hT Xs
  obtain ⟨v', st₀, t, T', L1, h0, X', hL, e1, -, ⟨hv, q1, q2, q3, q4⟩, stp⟩ := hr T hT Xs
  cases hv
  subst h0
  obtain ⟨t2, a1, b1⟩ := kk t.heap L1 q1 q2 q3 q4 hL T' e1 X'
  exact ⟨t2, stp t2 a1, b1⟩
end LAWROWS

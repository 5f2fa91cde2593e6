/-! ===== the start: what the tables say, what lies in the heap ===== -/
theorem tb_t1 {w : Cond} (i : Nat) (h : tables_1_1[i]? = some w) : w ∈ lw_tbl := List.mem_append_right _ (List.mem_append_left _ (List.mem_of_getElem? h))
theorem tb_t2 {w : Cond} (i : Nat) (h : tables_1_2[i]? = some w) : w ∈ lw_tbl := List.mem_append_right _ (List.mem_append_right _ (List.mem_append_left _ (List.mem_of_getElem? h)))
theorem tb_t3 {w : Cond} (i : Nat) (h : tables_1_3[i]? = some w) : w ∈ lw_tbl := List.mem_append_right _ (List.mem_append_right _ (List.mem_append_right _ (List.mem_append_left _ (List.mem_of_getElem? h))))
theorem tb_t4 {w : Cond} (i : Nat) (h : tables_1_4[i]? = some w) : w ∈ lw_tbl := List.mem_append_right _ (List.mem_append_right _ (List.mem_append_right _ (List.mem_append_right _ (List.mem_of_getElem? h))))
def FLS : List Cond := flatC (Jvm.Cond.and given_1 narrow_1)
def tmS (i : Nat) : Term := .string "LentRoom$Text" (sxI i)
theorem fl_ex : ∀ i, i < 6 → Cond.exactly (tmS i) "java/lang/String" ∈ FLS := by decide +kernel
theorem fl_co : ∀ i, i < 6 → Cond.eq (.field (tmS i) "java/lang/String" "coder" "B") (.int 0) ∈ FLS := by decide +kernel
theorem fl_ar : ∀ i, i < 6 → Cond.arrayOf (.field (tmS i) "java/lang/String" "value" "[B") .byte ∈ FLS := by decide +kernel
theorem fl_le : ∀ i, i < 6 → Cond.eq (.length (.field (tmS i) "java/lang/String" "value" "[B")) (.int (Int32.ofNat (sxL.getD i 0))) ∈ FLS := by decide +kernel
theorem fl_el : ∀ i, i < 6 → ∀ j, j < sxL.getD i 0 → Cond.eq (.elem (.field (tmS i) "java/lang/String" "value" "[B") (.int (Int32.ofNat j))) (.int ((sxB.getD i []).getD j 0)) ∈ FLS := by decide +kernel
theorem tm_ne {args : Array Value} {s : State} {t u : Term} {a b : Nat} (h1 : t.eval args s none [] s = some (.ref a)) (h2 : u.eval args s none [] s = some (.ref b)) (hne : a ≠ b) : (Cond.not (Cond.eq t u)).before args s = true := by
  simp [Cond.before, Cond.holds, Cond.value, h1, h2, hne]
theorem tm_fe {args : Array Value} {s : State} {t u : Term} {a : Nat} {o n d : String} (h1 : t.eval args s none [] s = some (.ref a)) (h2 : u.eval args s none [] s = some (.ref a)) : (Term.field t o n d).eval args s none [] s = (Term.field u o n d).eval args s none [] s := by
  rw [va_fe h1, va_fe h2]
theorem tm_le {args : Array Value} {s : State} {t u : Term} (h : t.eval args s none [] s = u.eval args s none [] s) : (Term.length t).eval args s none [] s = (Term.length u).eval args s none [] s := by
  simp only [Term.eval, h]
theorem tm_el {args : Array Value} {s : State} {t u i : Term} (h : t.eval args s none [] s = u.eval args s none [] s) : (Term.elem t i).eval args s none [] s = (Term.elem u i).eval args s none [] s := by
  simp only [Term.eval, h]
theorem sx_le : ∀ i, i < 6 → ∀ j, j < 6 → i = j ∨ Int32.ofNat (sxL.getD i 0) ≠ Int32.ofNat (sxL.getD j 0) ∨ (i = 2 ∧ j = 3) ∨ (i = 3 ∧ j = 2) := by decide +kernel
theorem sx_23 {args : Array Value} {s : State} (hfl : ∀ c ∈ FLS, c.before args s = true) {a : Nat} (h2 : (tmS 2).eval args s none [] s = some (.ref a)) (h3 : (tmS 3).eval args s none [] s = some (.ref a)) : False := by
  have e2 := va_eqt (hfl _ (fl_el 2 (by decide) 1 (by decide)))
  have e3 := va_eqt (hfl _ (fl_el 3 (by decide) 1 (by decide)))
  rw [tm_el (tm_fe h2 h3), e3] at e2
  exact absurd e2 (by decide)
theorem sx_ne {args : Array Value} {s : State} (hfl : ∀ c ∈ FLS, c.before args s = true) {i j : Nat} (hi : i < 6) (hj : j < 6) (hne : i ≠ j) : (Cond.not (Cond.eq (tmS i) (tmS j))).before args s = true := by
  obtain ⟨a, c, cA, kA, q1, -⟩ := Cond.exactly_spec (args := args) (first := s) (o := none) (s := s) (idx := []) (t := tmS i) (cls := "java/lang/String") (hfl _ (fl_ex i hi))
  obtain ⟨b, c', cA', kA', r1, -⟩ := Cond.exactly_spec (args := args) (first := s) (o := none) (s := s) (idx := []) (t := tmS j) (cls := "java/lang/String") (hfl _ (fl_ex j hj))
  refine tm_ne q1 r1 (fun e => ?_)
  subst e
  have e2 := va_eqt (hfl _ (fl_le i hi))
  have e3 := va_eqt (hfl _ (fl_le j hj))
  rw [tm_le (tm_fe q1 r1), e3] at e2
  have e4 : Int32.ofNat (sxL.getD i 0) = Int32.ofNat (sxL.getD j 0) := by
    injection e2 with e5
    injection e5 with e6
    exact e6.symm
  rcases sx_le i hi j hj with e7 | e7 | ⟨rfl, rfl⟩ | ⟨rfl, rfl⟩
  · exact hne e7
  · exact e7 e4
  · exact sx_23 hfl q1 r1
  · exact sx_23 hfl r1 q1
theorem tb_AOq : Cond.arrayOver (.object "LentRoom$Device") ∈ lw_tbl := (tb_t1 95 (by decide +kernel))
theorem tb_AOi : Cond.arrayOver (.array .int) ∈ lw_tbl := (tb_t1 47 (by decide +kernel))
theorem fl_nc : ∀ q ∈ cnW, Cond.not (.castable q.1 q.2) ∈ FLS := by decide +kernel
theorem fl_st1 : Cond.isRef (.static Bundle.tN "UNASSIGNED_STACK" Bundle.steD) ∈ FLS := by decide +kernel
theorem fl_st2 : Cond.isRef (.static Bundle.tN "SUPPRESSED_SENTINEL" Bundle.listD) ∈ FLS := by decide +kernel
theorem fl_cs : Cond.eq (.static "java/lang/String" "COMPACT_STRINGS" "Z") (.int 1) ∈ FLS := by decide +kernel
theorem fl_si : Cond.isRef (.static "jdk/internal/util/Preconditions" "SIOOBE_FORMATTER" "Ljava/util/function/BiFunction;") ∈ FLS := by decide +kernel
theorem tb_sr : ∀ i, i < 6 → Cond.stringRef "LentRoom$Text" (sxI i) (sxT i) ∈ lw_tbl := by decide +kernel
theorem tb_th : ∀ q ∈ thW, Cond.stringRef "LentRoom" q.1 q.2 ∈ lw_tbl := by decide +kernel
theorem tb_cy : ∀ E ∈ cyW, Cond.castable E E ∈ lw_tbl := by decide +kernel
theorem tb_ne : ∀ q ∈ neW, Cond.methodLinkNest q.1 q.2.1 q.2.2 "LentRoom" ∈ lw_tbl := by decide +kernel
theorem tb_dc : ∀ x ∈ dcW, Cond.declares x ∈ lw_tbl := by decide +kernel
theorem start_SK {args : Array Value} {s : State} {cur : ClassId} (hts : ∀ w ∈ lw_tbl, w.before args s = true) (hgv : (Jvm.Cond.and given_1 narrow_1).before args s = true) (hlr : s.vm.findClass "LentRoom" = some cur) : ∃ kt : Kt, kt.1 = s.heap.size ∧ SK kt s s.heap := by
  have hfl : ∀ c ∈ FLS, c.before args s = true := flat_of_before _ hgv
  have hA : ∀ a : Nat, a < s.heap.size → ¬ (fun q : Nat => s.heap.size ≤ q) a := fun a h => Nat.not_le.mpr h
  obtain ⟨adK, adV, hS, hE⟩ := vk_Sof (args := args) (s := s) (N := 6) (tm := tmS) (len := sxL) (byt := sxB) (A := fun q : Nat => s.heap.size ≤ q) (by decide) (fun i hi => hfl _ (fl_ex i hi)) (fun i hi => hfl _ (fl_co i hi)) (fun i hi => hfl _ (fl_ar i hi)) (fun i hi => hfl _ (fl_le i hi)) (fun i hi j hj => hfl _ (fl_el i hi j hj)) (fun i j hi hj hn => Or.inl (sx_ne hfl hi hj hn)) hA
  refine ⟨(s.heap.size, adK, adV), rfl, ⟨fun i hi => vk_R.of (hts _ (tb_sr i hi)) (hE i hi), fun q hq => ?_, fun E hE => va_Nw.of rfl (hts _ (tb_cy E hE)), fun q hq => va_Nc.of (hfl _ (fl_nc q hq)), fun q hq => va_Nw.of rfl (hts _ (tb_ne q hq)), va_AO.of (hts _ tb_AOq), by exact hts _ tb_AOi, fun x hx => va_Nw.of rfl (hts _ (tb_dc x hx))⟩, ?_⟩
  · obtain ⟨k, cf, i, a, hk, hcf, hcp, h9, hr, hev⟩ := Cond.stringRef_spec hlr (hts _ (tb_th q hq))
    exact ⟨a, vk_R.of (hts _ (tb_th q hq)) hev⟩
  · exact ⟨hS, vx_Zqof (hts _ (tb_t1 172 (by decide +kernel))) (hts _ (tb_t1 5 (by decide +kernel))) (hfl _ fl_st1) hA, vx_Zqof (hts _ (tb_t1 174 (by decide +kernel))) (hts _ (tb_t1 5 (by decide +kernel))) (hfl _ fl_st2) hA, va_Zof (hts _ (tb_t2 21 (by decide +kernel))) (hts _ (tb_t1 10 (by decide +kernel))) (va_eqt (hfl _ fl_cs)) hA, va_Zqof (hts _ (tb_t2 37 (by decide +kernel))) (hts _ (tb_t1 12 (by decide +kernel))) (hfl _ fl_si) hA⟩
theorem start_ar {args : Array Value} {s : State} {ty : FieldType} (h : (Cond.arrayClass ty).before args s = true) : ∃ c : ClassId, ArrOfT s c ty ∧ s.vm.findClass ("[" ++ ty.toString) = some c := by
  obtain ⟨c, k, comp, h1, h2, h3⟩ := Cond.arrayClass_spec h
  exact ⟨c, fun n z => ⟨(fun q hq => by cases hq), k, h2, comp, h3⟩, h1⟩
theorem start_KK {args : Array Value} {s : State} (hts : ∀ w ∈ lw_tbl, w.before args s = true) : ∃ g : Gt, KK g s := by
  have hal := al_hts hts
  have ok : ∀ w, w ∈ AL → w.before args s = true := fun w hw => hal w hw
  obtain ⟨c0, i0, h0⟩ := u_known (C := RX0) (T := TX0) (N := 11) (n := 11) hal uin0 (ok _ q_71)
  obtain ⟨c1, i1, h1⟩ := u_known (C := RX1) (T := TX1) (N := 3) (n := 3) hal uin1 (ok _ q_119)
  obtain ⟨c2, i2, h2⟩ := u_known (C := RX2) (T := TX2) (N := 2) (n := 2) hal uin2 (ok _ q_56)
  obtain ⟨c3, i3, h3⟩ := u_known (C := RX3) (T := TX3) (N := 8) (n := 8) hal uin3 (ok _ q_48)
  obtain ⟨aI, bI, eI⟩ := start_ar (ok _ q_117)
  obtain ⟨aC, bC, eC⟩ := start_ar (ok _ q_69)
  obtain ⟨aZ, bZ, eZ⟩ := start_ar (ok _ q_162)
  obtain ⟨cmQ, aQ, kQ, f1, -, f2, f3, f4⟩ := Cond.arrayOver_spec (hts _ tb_AOq)
  obtain ⟨cmR, aR, kR, r1, -, r2, r3, r4⟩ := arrayOverA_spec (hts _ tb_AOi)
  refine ⟨((fun k => if k = 0 then c0 else if k = 1 then c1 else if k = 2 then c2 else c3, fun k => if k = 0 then i0 else if k = 1 then i1 else if k = 2 then i2 else i3), aI, aC, aZ, aQ, aR, aI), fun k q hq => ?_, fun k q hq => ?_⟩
  · match k, hq with
    | 0, hq => cases hq; exact h0
    | 1, hq => cases hq; exact h1
    | 2, hq => cases hq; exact h2
    | 3, hq => cases hq; exact h3
    | k + 4, hq => simp at hq
  · match k, hq with
    | 0, hq => cases hq; exact ⟨bI, eI⟩
    | 1, hq => cases hq; exact ⟨bC, eC⟩
    | 2, hq => cases hq; exact ⟨bZ, eZ⟩
    | 3, hq => cases hq; exact ⟨fun n z => ⟨(fun q hq => by cases hq), kQ, f2, cmQ, f3⟩, kQ, cmQ, f2, f3, f1, f4⟩
    | 4, hq => cases hq; exact ⟨fun n z => ⟨(fun q hq => by cases hq), kR, r2, cmR, r3⟩, r4⟩
    | k + 5, hq => simp [TYS] at hq

section LAWROWS
variable {p : Program} {l : Launch} {e : Env} {R : Room} {s : State} {m : MethodId} {args : Array Value} {below : List Frame} {meth : Method} {c : Code} {H : Heap} {locs : List Loc} {cells slots : Nat} {Q : State → Prop}
variable {cc : ByteArray} {nL : Nat} {own : String} {ret : Option FieldType} {x : Cond} {g : Gt} {k : Kt} {pc : Nat} {ls : Array Slot} {rest st : List Value}
variable {y : MethodName} {bytes : ByteArray} {maxL idx n f lo nc : Nat} {As : List Value} {P P' : Heap → Prop} {b ob : Nat} {Kc : Int} {vv : Int64} {hh : List (Nat × Nat × Nat × Nat)}
theorem r_sld (C : Cx p s m args meth c cc nL own ret x g) {sc L : Nat} {X : Nat → Int32} (hX : va_X sc L X s H) {i : Int} (q : Nat) (hi : i = (q : Int)) (hq : q < L) (hL : L ≤ 260) {v : Int32} (hv : X q = v) (d : decode cc pc = .ok (.iaload, 1)) (kk : W p l e R s m args below meth c H locs cells slots Q (F0 m (pc + 1) ls (.int v :: rest))) : W p l e R s m args below meth c H locs cells slots Q (F0 m pc ls (.int (iI i) :: .ref sc :: rest)) := by
  subst hi
  subst hv
  obtain ⟨scr, h1, h2, h3, h4, h5⟩ := hX
  refine W.iald (v := .int (X q)) C.1 C.2.1 h1 h2 h3 (by rw [h4]; exact iI_in hq (by omega)) ?_ rfl rfl d kk
  rw [iI_nat (by omega)]
  exact h5 q hq
theorem r_slen (C : Cx p s m args meth c cc nL own ret x g) {sc L : Nat} {X : Nat → Int32} (hX : va_X sc L X s H) (d : decode cc pc = .ok (.arraylength, 1)) (kk : W p l e R s m args below meth c H locs cells slots Q (F0 m (pc + 1) ls (.int (iI (L : Int)) :: rest))) : W p l e R s m args below meth c H locs cells slots Q (F0 m pc ls (.ref sc :: rest)) := by
  obtain ⟨scr, h1, h2, h3, h4, h5⟩ := hX
  exact W.alen (n := iI (L : Int)) C.1 C.2.1 h1 h2 (by rw [h4] <;> rfl) rfl rfl d kk
theorem r_icmp_same (C : Cx p s m args meth c cc nL own ret x g) {v : Int32} {off : Int} {tgt : Nat} (ht : (pc : Int) + off = (tgt : Int)) (d : decode cc pc = .ok (.if_icmp .eq off, 3)) (kk : W p l e R s m args below meth c H locs cells slots Q (F0 m tgt ls rest)) : W p l e R s m args below meth c H locs cells slots Q (F0 m pc ls (.int v :: .int v :: rest)) := by
  obtain ⟨a, ha, rfl⟩ : ∃ a, Rg a ∧ v = iI a := ⟨_, rg_of v, (iI_of v).symm⟩
  exact r_icmp_eq C ht ha ha d (fun _ => kk) (fun z => absurd rfl z)
end LAWROWS

/-! ===== the law's cell, thrown, wouldTake, refuses ===== -/
def ms (w : Int32) : Int := ((w.toBitVec.toNat % 2147483648 : Nat) : Int)
theorem ms_b (w : Int32) : 0 ≤ ms w ∧ ms w < 2147483648 := by unfold ms; omega
theorem ms_e (w : Int32) : (w &&& iI 2147483647) = iI (ms w) := by
  apply Int32.toBitVec_inj.mp
  show w.toBitVec &&& BitVec.ofInt 32 2147483647 = BitVec.ofInt 32 ((w.toBitVec.toNat % 2147483648 : Nat) : Int)
  rw [BitVec.ofInt_natCast]
  apply BitVec.eq_of_toNat_eq
  have e1 : (BitVec.ofInt 32 2147483647).toNat = 2 ^ 31 - 1 := by decide
  rw [BitVec.toNat_and, e1, Nat.and_two_pow_sub_one_eq_mod, BitVec.toNat_ofNat]
  omega
def clV (X : Nat → Int32) (L k : Nat) : Int := if k < L then ms (X k) else ms (iI (15518563 * ((k : Int) + 3) + 10799))
theorem clV_b (X : Nat → Int32) (L k : Nat) : 0 ≤ clV X L k ∧ clV X L k < 2147483648 := by
  unfold clV
  split <;> exact ms_b _
def Pcx (sc L : Nat) (X : Nat → Int32) (As : List Value) (g : Gt) : Array Value → State → Prop := va_Pc As (fun U => va_X sc L X U U.heap ∧ KK g U)
set_option maxHeartbeats 4000000 in
theorem k_cell (l : Launch) (g : Gt) (sc L : Nat) (X : Nat → Int32) (hL : L ≤ 260) (k : Nat) (hk : k < 1000) : Met l yL_cell (.code yL_cell cL_cell 2 (some .int) :: AL) (rmc 0 0) (Pcx sc L X [.ref sc, .int (iI (k : Int))] g) (PQ (some (.int (iI (clV X L k))))) 0 0 (fun _ => False) := by
  refine Met.ofW (cc := cL_cell) (maxL := 2) (ret := some .int) (by decide) rfl ?_
  intro p e s m args below meth c s₁ B hml hv
  obtain ⟨rfl, hX, hK⟩ := hv
  rw [lg_entry_eq]
  have C : Cx p s m _ meth c cL_cell 2 "LentRoomLaw" (some .int) (.code yL_cell cL_cell 2 (some .int)) g := ⟨B.exec, B.bytes, hml, findClass_of_methodNamed B.named, atoms_spec (ws := .code yL_cell cL_cell 2 (some .int) :: AL) B.pre, B.returns, B.notSynchronized, hK⟩
  have hl := lv_entry ([.ref sc, .int (iI (k : Int))]) (n := 2) (Nat.le_of_ble_eq_true rfl)
  generalize (lg_sl ([.ref sc, .int (iI (k : Int))]) ++ List.replicate (2 - (lg_sl ([.ref sc, .int (iI (k : Int))])).length) Slot.unset).toArray = ls at hl ⊢
  have hl : lv_has ls 2 [(0, .ref sc), (1, .int (iI (k : Int)))] := hl
  refine r_iload_n C rfl (lv_at hl 1 rfl) dL_cell_0 ?_
  refine r_aload_n C rfl (lv_at hl 0 rfl) dL_cell_1 ?_
  refine r_slen C hX dL_cell_2 ?_
  refine r_icmp_ge (tgt := 12) C (by decide) (by omega) (by omega) dL_cell_3 (fun z => ?_) (fun z => ?_)
  · refine r_ldcI (w := 15518563) C (by decide) q_5715 dL_cell_12 ?_
    refine r_iload_n C rfl (lv_at hl 1 rfl) dL_cell_14 ?_
    refine r_iconst C dL_cell_15 ?_
    refine r_iadd C dL_cell_16 ?_
    refine r_imul C dL_cell_17 ?_
    refine r_sipush C (by decide) dL_cell_18 ?_
    refine r_iadd C dL_cell_21 ?_
    refine r_ldcI (w := 2147483647) C (by decide) q_5716 dL_cell_22 ?_
    refine lv_iand C.1 C.2.1 dL_cell_24 ?_
    rw [ms_e]
    exact r_iretP C rfl rfl (by unfold clV; rw [if_neg (by omega)]) dL_cell_25
  · refine r_aload_n C rfl (lv_at hl 0 rfl) dL_cell_6 ?_
    refine r_iload_n C rfl (lv_at hl 1 rfl) dL_cell_7 ?_
    refine r_sld C hX k rfl (by omega) (by omega) rfl dL_cell_8 ?_
    refine r_goto (tgt := 22) C (by decide) dL_cell_9 ?_
    refine r_ldcI (w := 2147483647) C (by decide) q_5716 dL_cell_22 ?_
    refine lv_iand C.1 C.2.1 dL_cell_24 ?_
    rw [ms_e]
    exact r_iretP C rfl rfl (by unfold clV; rw [if_pos (by omega)]) dL_cell_25

set_option maxHeartbeats 4000000 in
theorem k_thrown (l : Launch) (g : Gt) (v : Int) (hv : Rg v) (hn : -9000000 < v) : CP l yL_thrown cL_thrown 1 (some .boolean) 0 0 g [.int (iI v)] (fun _ => True) (some (.int (iI 0))) := by
  refine cp_of "LentRoomLaw" (by decide) rfl (Nat.le_of_ble_eq_true rfl) ?_
  intro zp ze zs zm za zb zt zc ls C hP hl
  have hl : lv_has ls 1 [(0, .int (iI v))] := hl
  refine r_iload_n C rfl (lv_at hl 0 rfl) dL_thrown_0 ?_
  refine r_ldcI (w := -9999001) C (by decide) q_5528 dL_thrown_1 ?_
  refine r_icmp_eq (tgt := 18) C (by decide) (by omega) (by decide) dL_thrown_3 (fun z9 => absurd z9 (by omega)) (fun z9 => ?_)
  refine r_iload_n C rfl (lv_at hl 0 rfl) dL_thrown_6 ?_
  refine r_ldcI (w := -9999002) C (by decide) q_5253 dL_thrown_7 ?_
  refine r_icmp_eq (tgt := 18) C (by decide) (by omega) (by decide) dL_thrown_9 (fun z9 => absurd z9 (by omega)) (fun z9 => ?_)
  refine r_iload_n C rfl (lv_at hl 0 rfl) dL_thrown_12 ?_
  refine r_ldcI (w := -9999003) C (by decide) q_5254 dL_thrown_13 ?_
  refine r_icmp_ne (tgt := 22) C (by decide) (by omega) (by decide) dL_thrown_15 (fun z9 => ?_) (fun z9 => absurd z9 (by omega))
  refine r_iconst C dL_thrown_22 ?_
  exact r_iretP C rfl rfl rfl dL_thrown_23

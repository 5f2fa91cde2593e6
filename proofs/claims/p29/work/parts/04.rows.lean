section ROWS
variable {p : Program} {l : Launch} {e : Env} {R : Room} {s : State} {m : MethodId} {args : Array Value} {below : List Frame} {meth : Method} {c : Code} {H : Heap} {locs : List Loc} {cells slots : Nat} {Q : State → Prop}
variable {cc : ByteArray} {nL : Nat} {own : String} {ret : Option FieldType} {x : Cond} {g : Gt} {pc : Nat} {ls : Array Slot} {rest : List Value}
theorem r_iconst (C : Cx p s m args meth c cc nL own ret x g) {n : Int} (d : decode cc pc = .ok (.iconst n, 1)) (k : W p l e R s m args below meth c H locs cells slots Q (F0 m (pc + 1) ls (.int (iI n) :: rest))) : W p l e R s m args below meth c H locs cells slots Q (F0 m pc ls rest) :=
  lv_iconst C.1 C.2.1 d rfl k
theorem r_bipush (C : Cx p s m args meth c cc nL own ret x g) {n : Int} (h : (Int8.ofInt n).toInt32 = iI n) (d : decode cc pc = .ok (.bipush n, 2)) (k : W p l e R s m args below meth c H locs cells slots Q (F0 m (pc + 2) ls (.int (iI n) :: rest))) : W p l e R s m args below meth c H locs cells slots Q (F0 m pc ls rest) :=
  lv_bipush C.1 C.2.1 d h k
theorem r_sipush (C : Cx p s m args meth c cc nL own ret x g) {n : Int} (h : (Int16.ofInt n).toInt32 = iI n) (d : decode cc pc = .ok (.sipush n, 3)) (k : W p l e R s m args below meth c H locs cells slots Q (F0 m (pc + 3) ls (.int (iI n) :: rest))) : W p l e R s m args below meth c H locs cells slots Q (F0 m pc ls rest) :=
  lv_sipush C.1 C.2.1 d h k
theorem r_lconst (C : Cx p s m args meth c cc nL own ret x g) {j : Fin 2} (n : Int) (h : n = (j.val : Int)) (d : decode cc pc = .ok (.lconst j, 1)) (k : W p l e R s m args below meth c H locs cells slots Q (F0 m (pc + 1) ls (.long (iL n) :: rest))) : W p l e R s m args below meth c H locs cells slots Q (F0 m pc ls rest) :=
  by subst h; exact lv_lconst C.1 C.2.1 d rfl k
theorem r_iload_n (C : Cx p s m args meth c cc nL own ret x g) {j : Fin 4} {i : Nat} {v : Int32} (hi : (j : Nat) = i) (hl : ls[i]? = some (.val (.int v))) (d : decode cc pc = .ok (.iload_n j, 1)) (k : W p l e R s m args below meth c H locs cells slots Q (F0 m (pc + 1) ls (.int v :: rest))) : W p l e R s m args below meth c H locs cells slots Q (F0 m pc ls rest) :=
  lv_iload_n C.1 C.2.1 d hi hl k
theorem r_iload (C : Cx p s m args meth c cc nL own ret x g) {i : Nat} {v : Int32} (hl : ls[i]? = some (.val (.int v))) (d : decode cc pc = .ok (.iload i, 2)) (k : W p l e R s m args below meth c H locs cells slots Q (F0 m (pc + 2) ls (.int v :: rest))) : W p l e R s m args below meth c H locs cells slots Q (F0 m pc ls rest) :=
  lv_iload C.1 C.2.1 d hl k
theorem r_aload_n (C : Cx p s m args meth c cc nL own ret x g) {j : Fin 4} {i : Nat} {v : Nat} (hi : (j : Nat) = i) (hl : ls[i]? = some (.val (.ref v))) (d : decode cc pc = .ok (.aload_n j, 1)) (k : W p l e R s m args below meth c H locs cells slots Q (F0 m (pc + 1) ls (.ref v :: rest))) : W p l e R s m args below meth c H locs cells slots Q (F0 m pc ls rest) :=
  lv_aload_n C.1 C.2.1 d hi hl k
theorem r_aload (C : Cx p s m args meth c cc nL own ret x g) {i : Nat} {v : Nat} (hl : ls[i]? = some (.val (.ref v))) (d : decode cc pc = .ok (.aload i, 2)) (k : W p l e R s m args below meth c H locs cells slots Q (F0 m (pc + 2) ls (.ref v :: rest))) : W p l e R s m args below meth c H locs cells slots Q (F0 m pc ls rest) :=
  lv_aload C.1 C.2.1 d hl k
theorem r_lload_n (C : Cx p s m args meth c cc nL own ret x g) {j : Fin 4} {i : Nat} {v : Int64} (hi : (j : Nat) = i) (hl : ls[i]? = some (.val (.long v))) (d : decode cc pc = .ok (.lload_n j, 1)) (k : W p l e R s m args below meth c H locs cells slots Q (F0 m (pc + 1) ls (.long v :: rest))) : W p l e R s m args below meth c H locs cells slots Q (F0 m pc ls rest) :=
  lv_lload_n C.1 C.2.1 d hi hl k
theorem r_lload (C : Cx p s m args meth c cc nL own ret x g) {i : Nat} {v : Int64} (hl : ls[i]? = some (.val (.long v))) (d : decode cc pc = .ok (.lload i, 2)) (k : W p l e R s m args below meth c H locs cells slots Q (F0 m (pc + 2) ls (.long v :: rest))) : W p l e R s m args below meth c H locs cells slots Q (F0 m pc ls rest) :=
  lv_lload C.1 C.2.1 d hl k
theorem r_istore_n (C : Cx p s m args meth c cc nL own ret x g) {j : Fin 4} {i : Nat} {v : Int32} {lv lv' : List (Nat × Value)} (hi : (j : Nat) = i) (h : lv_has ls nL lv) (hn : i < nL) (hl : (i, Value.int v) :: lv.filter (fun q => !(q.1 == i) && !(q.1 + 1 == i && q.2.category == 2)) = lv') (d : decode cc pc = .ok (.istore_n j, 1)) (k : ∀ ls : Array Slot, lv_has ls nL lv' → W p l e R s m args below meth c H locs cells slots Q (F0 m (pc + 1) ls rest)) : W p l e R s m args below meth c H locs cells slots Q (F0 m pc ls (.int v :: rest)) :=
  lv_istore_n C.1 C.2.1 d hi h hn hl k
theorem r_istore (C : Cx p s m args meth c cc nL own ret x g) {i : Nat} {v : Int32} {lv lv' : List (Nat × Value)} (h : lv_has ls nL lv) (hn : i < nL) (hl : (i, Value.int v) :: lv.filter (fun q => !(q.1 == i) && !(q.1 + 1 == i && q.2.category == 2)) = lv') (d : decode cc pc = .ok (.istore i, 2)) (k : ∀ ls : Array Slot, lv_has ls nL lv' → W p l e R s m args below meth c H locs cells slots Q (F0 m (pc + 2) ls rest)) : W p l e R s m args below meth c H locs cells slots Q (F0 m pc ls (.int v :: rest)) :=
  lv_istore C.1 C.2.1 d h hn hl k
theorem r_lstore_n (C : Cx p s m args meth c cc nL own ret x g) {j : Fin 4} {i : Nat} {v : Int64} {lv lv' : List (Nat × Value)} (hi : (j : Nat) = i) (h : lv_has ls nL lv) (hn : i + 1 < nL) (hl : (i, Value.long v) :: lv.filter (fun q => !(q.1 == i) && (!(q.1 == i + 1) && !(q.1 + 1 == i && q.2.category == 2))) = lv') (d : decode cc pc = .ok (.lstore_n j, 1)) (k : ∀ ls : Array Slot, lv_has ls nL lv' → W p l e R s m args below meth c H locs cells slots Q (F0 m (pc + 1) ls rest)) : W p l e R s m args below meth c H locs cells slots Q (F0 m pc ls (.long v :: rest)) :=
  lv_lstore_n C.1 C.2.1 d hi h hn hl k
theorem r_lstore (C : Cx p s m args meth c cc nL own ret x g) {i : Nat} {v : Int64} {lv lv' : List (Nat × Value)} (h : lv_has ls nL lv) (hn : i + 1 < nL) (hl : (i, Value.long v) :: lv.filter (fun q => !(q.1 == i) && (!(q.1 == i + 1) && !(q.1 + 1 == i && q.2.category == 2))) = lv') (d : decode cc pc = .ok (.lstore i, 2)) (k : ∀ ls : Array Slot, lv_has ls nL lv' → W p l e R s m args below meth c H locs cells slots Q (F0 m (pc + 2) ls rest)) : W p l e R s m args below meth c H locs cells slots Q (F0 m pc ls (.long v :: rest)) :=
  lv_lstore C.1 C.2.1 d h hn hl k
theorem r_astore_n (C : Cx p s m args meth c cc nL own ret x g) {j : Fin 4} {i : Nat} {v : Nat} {lv lv' : List (Nat × Value)} (hi : (j : Nat) = i) (h : lv_has ls nL lv) (hn : i < nL) (hl : (i, Value.ref v) :: lv.filter (fun q => !(q.1 == i) && !(q.1 + 1 == i && q.2.category == 2)) = lv') (d : decode cc pc = .ok (.astore_n j, 1)) (k : ∀ ls : Array Slot, lv_has ls nL lv' → W p l e R s m args below meth c H locs cells slots Q (F0 m (pc + 1) ls rest)) : W p l e R s m args below meth c H locs cells slots Q (F0 m pc ls (.ref v :: rest)) :=
  lv_astore_n C.1 C.2.1 d hi h hn hl k
theorem r_astore (C : Cx p s m args meth c cc nL own ret x g) {i : Nat} {v : Nat} {lv lv' : List (Nat × Value)} (h : lv_has ls nL lv) (hn : i < nL) (hl : (i, Value.ref v) :: lv.filter (fun q => !(q.1 == i) && !(q.1 + 1 == i && q.2.category == 2)) = lv') (d : decode cc pc = .ok (.astore i, 2)) (k : ∀ ls : Array Slot, lv_has ls nL lv' → W p l e R s m args below meth c H locs cells slots Q (F0 m (pc + 2) ls rest)) : W p l e R s m args below meth c H locs cells slots Q (F0 m pc ls (.ref v :: rest)) :=
  lv_astore C.1 C.2.1 d h hn hl k
theorem r_iinc (C : Cx p s m args meth c cc nL own ret x g) {i q : Nat} {n a : Int} {lv lv' : List (Nat × Value)} (h : lv_has ls nL lv) (hk : lv[q]? = some (i, .int (iI a))) (hn : i < nL) (hl : (i, Value.int (iI (a + n))) :: lv.filter (fun q => !(q.1 == i) && !(q.1 + 1 == i && q.2.category == 2)) = lv') (d : decode cc pc = .ok (.iinc i n, 3)) (k : ∀ ls : Array Slot, lv_has ls nL lv' → W p l e R s m args below meth c H locs cells slots Q (F0 m (pc + 3) ls rest)) : W p l e R s m args below meth c H locs cells slots Q (F0 m pc ls rest) :=
  lv_iinc C.1 C.2.1 d h hk (iI_add a n) hn hl k
theorem r_iadd (C : Cx p s m args meth c cc nL own ret x g) {a b : Int} (d : decode cc pc = .ok (.iadd, 1)) (k : W p l e R s m args below meth c H locs cells slots Q (F0 m (pc + 1) ls (.int (iI (a + b)) :: rest))) : W p l e R s m args below meth c H locs cells slots Q (F0 m pc ls (.int (iI b) :: .int (iI a) :: rest)) :=
  lv_iadd C.1 C.2.1 d (by rw [iI_add]; exact k)
theorem r_isub (C : Cx p s m args meth c cc nL own ret x g) {a b : Int} (d : decode cc pc = .ok (.isub, 1)) (k : W p l e R s m args below meth c H locs cells slots Q (F0 m (pc + 1) ls (.int (iI (a - b)) :: rest))) : W p l e R s m args below meth c H locs cells slots Q (F0 m pc ls (.int (iI b) :: .int (iI a) :: rest)) :=
  lv_isub C.1 C.2.1 d (by rw [iI_sub]; exact k)
theorem r_imul (C : Cx p s m args meth c cc nL own ret x g) {a b : Int} (d : decode cc pc = .ok (.imul, 1)) (k : W p l e R s m args below meth c H locs cells slots Q (F0 m (pc + 1) ls (.int (iI (a * b)) :: rest))) : W p l e R s m args below meth c H locs cells slots Q (F0 m pc ls (.int (iI b) :: .int (iI a) :: rest)) :=
  lv_imul C.1 C.2.1 d (by rw [iI_mul]; exact k)
theorem r_ladd (C : Cx p s m args meth c cc nL own ret x g) {a b : Int} (d : decode cc pc = .ok (.ladd, 1)) (k : W p l e R s m args below meth c H locs cells slots Q (F0 m (pc + 1) ls (.long (iL (a + b)) :: rest))) : W p l e R s m args below meth c H locs cells slots Q (F0 m pc ls (.long (iL b) :: .long (iL a) :: rest)) :=
  lv_ladd C.1 C.2.1 d (by rw [iL_add]; exact k)
theorem r_lsub (C : Cx p s m args meth c cc nL own ret x g) {a b : Int} (d : decode cc pc = .ok (.lsub, 1)) (k : W p l e R s m args below meth c H locs cells slots Q (F0 m (pc + 1) ls (.long (iL (a - b)) :: rest))) : W p l e R s m args below meth c H locs cells slots Q (F0 m pc ls (.long (iL b) :: .long (iL a) :: rest)) :=
  lv_lsub C.1 C.2.1 d (by rw [iL_sub]; exact k)
theorem r_lmul (C : Cx p s m args meth c cc nL own ret x g) {a b : Int} (d : decode cc pc = .ok (.lmul, 1)) (k : W p l e R s m args below meth c H locs cells slots Q (F0 m (pc + 1) ls (.long (iL (a * b)) :: rest))) : W p l e R s m args below meth c H locs cells slots Q (F0 m pc ls (.long (iL b) :: .long (iL a) :: rest)) :=
  lv_lmul C.1 C.2.1 d (by rw [iL_mul]; exact k)
theorem r_idiv (C : Cx p s m args meth c cc nL own ret x g) {a b : Int} (ha : 0 ≤ a ∧ a < 2147483648) (hb : 0 < b ∧ b < 2147483648) (d : decode cc pc = .ok (.idiv, 1)) (k : W p l e R s m args below meth c H locs cells slots Q (F0 m (pc + 1) ls (.int (iI (a / b)) :: rest))) : W p l e R s m args below meth c H locs cells slots Q (F0 m pc ls (.int (iI b) :: .int (iI a) :: rest)) :=
  lv_idiv C.1 C.2.1 d (by rw [z_iI, iI_eq (by omega) (by omega)]; omega) (by rw [iI_div ha hb]; exact k)
theorem r_irem (C : Cx p s m args meth c cc nL own ret x g) {a b : Int} (ha : 0 ≤ a ∧ a < 2147483648) (hb : 0 < b ∧ b < 2147483648) (d : decode cc pc = .ok (.irem, 1)) (k : W p l e R s m args below meth c H locs cells slots Q (F0 m (pc + 1) ls (.int (iI (a % b)) :: rest))) : W p l e R s m args below meth c H locs cells slots Q (F0 m pc ls (.int (iI b) :: .int (iI a) :: rest)) :=
  lv_irem C.1 C.2.1 d (by rw [z_iI, iI_eq (by omega) (by omega)]; omega) (by rw [iI_rem ha hb]; exact k)
theorem r_ldiv (C : Cx p s m args meth c cc nL own ret x g) {a b : Int} (ha : 0 ≤ a ∧ a < 9223372036854775808) (hb : 0 < b ∧ b < 9223372036854775808) (d : decode cc pc = .ok (.ldiv, 1)) (k : W p l e R s m args below meth c H locs cells slots Q (F0 m (pc + 1) ls (.long (iL (a / b)) :: rest))) : W p l e R s m args below meth c H locs cells slots Q (F0 m pc ls (.long (iL b) :: .long (iL a) :: rest)) :=
  lv_ldiv C.1 C.2.1 d (by rw [z_iL, iL_eq (by omega) (by omega)]; omega) (by rw [iL_div ha hb]; exact k)
theorem r_lrem (C : Cx p s m args meth c cc nL own ret x g) {a b : Int} (ha : 0 ≤ a ∧ a < 9223372036854775808) (hb : 0 < b ∧ b < 9223372036854775808) (d : decode cc pc = .ok (.lrem, 1)) (k : W p l e R s m args below meth c H locs cells slots Q (F0 m (pc + 1) ls (.long (iL (a % b)) :: rest))) : W p l e R s m args below meth c H locs cells slots Q (F0 m pc ls (.long (iL b) :: .long (iL a) :: rest)) :=
  lv_lrem C.1 C.2.1 d (by rw [z_iL, iL_eq (by omega) (by omega)]; omega) (by rw [iL_rem ha hb]; exact k)
theorem r_i2l (C : Cx p s m args meth c cc nL own ret x g) {a : Int} (ha : Rg a) (d : decode cc pc = .ok (.i2l, 1)) (k : W p l e R s m args below meth c H locs cells slots Q (F0 m (pc + 1) ls (.long (iL a) :: rest))) : W p l e R s m args below meth c H locs cells slots Q (F0 m pc ls (.int (iI a) :: rest)) :=
  lv_i2l C.1 C.2.1 d (iI_l ha) k
theorem r_l2i (C : Cx p s m args meth c cc nL own ret x g) {a : Int} (ha : Rg a) (d : decode cc pc = .ok (.l2i, 1)) (k : W p l e R s m args below meth c H locs cells slots Q (F0 m (pc + 1) ls (.int (iI a) :: rest))) : W p l e R s m args below meth c H locs cells slots Q (F0 m pc ls (.long (iL a) :: rest)) :=
  lv_l2i C.1 C.2.1 d (iL_i ha) k
theorem r_dup (C : Cx p s m args meth c cc nL own ret x g) {v : Value} (hv : v.category = 1) (d : decode cc pc = .ok (.dup, 1)) (k : W p l e R s m args below meth c H locs cells slots Q (F0 m (pc + 1) ls (v :: v :: rest))) : W p l e R s m args below meth c H locs cells slots Q (F0 m pc ls (v :: rest)) :=
  lv_dup C.1 C.2.1 d hv k
theorem r_dup2 (C : Cx p s m args meth c cc nL own ret x g) {v u : Value} (hv : v.category = 1) (hu : u.category = 1) (d : decode cc pc = .ok (.dup2, 1)) (k : W p l e R s m args below meth c H locs cells slots Q (F0 m (pc + 1) ls (v :: u :: v :: u :: rest))) : W p l e R s m args below meth c H locs cells slots Q (F0 m pc ls (v :: u :: rest)) :=
  lv_dup2_11 C.1 C.2.1 d hv hu k
theorem r_pop (C : Cx p s m args meth c cc nL own ret x g) {v : Value} (hv : v.category = 1) (d : decode cc pc = .ok (.pop, 1)) (k : W p l e R s m args below meth c H locs cells slots Q (F0 m (pc + 1) ls rest)) : W p l e R s m args below meth c H locs cells slots Q (F0 m pc ls (v :: rest)) :=
  lv_pop C.1 C.2.1 d hv k
theorem r_goto (C : Cx p s m args meth c cc nL own ret x g) {off : Int} {tgt : Nat} (ht : (pc : Int) + off = (tgt : Int)) (d : decode cc pc = .ok (.goto off, 3)) (k : W p l e R s m args below meth c H locs cells slots Q (F0 m tgt ls rest)) : W p l e R s m args below meth c H locs cells slots Q (F0 m pc ls rest) :=
  lv_goto C.1 C.2.1 d ht k
theorem r_ldc2 (C : Cx p s m args meth c cc nL own ret x g) {idx : Nat} {v : Int64} (hc : Cond.constantLong own idx v ∈ AL) (d : decode cc pc = .ok (.ldc2_w idx, 3)) (k : W p l e R s m args below meth c H locs cells slots Q (F0 m (pc + 3) ls (.long v :: rest))) : W p l e R s m args below meth c H locs cells slots Q (F0 m pc ls rest) :=
  lv_ldc2 C.1 C.2.1 C.2.2.2.1 (C.2.2.2.2.1 _ (List.mem_cons_of_mem _ hc)) d k
theorem r_icmp_lt (C : Cx p s m args meth c cc nL own ret x g) {a b : Int} {off : Int} {tgt : Nat} (ht : (pc : Int) + off = (tgt : Int)) (ha : Rg a) (hb : Rg b) (d : decode cc pc = .ok (.if_icmp .lt off, 3)) (kt : a < b → W p l e R s m args below meth c H locs cells slots Q (F0 m tgt ls rest)) (kf : b ≤ a → W p l e R s m args below meth c H locs cells slots Q (F0 m (pc + 3) ls rest)) : W p l e R s m args below meth c H locs cells slots Q (F0 m pc ls (.int (iI b) :: .int (iI a) :: rest)) :=
  lv_icmp_lt C.1 C.2.1 d ht (fun h => kt ((iI_lt ha hb).mp h)) (fun h => kf (Int.not_lt.mp (fun q => h ((iI_lt ha hb).mpr q))))
theorem r_icmp_ge (C : Cx p s m args meth c cc nL own ret x g) {a b : Int} {off : Int} {tgt : Nat} (ht : (pc : Int) + off = (tgt : Int)) (ha : Rg a) (hb : Rg b) (d : decode cc pc = .ok (.if_icmp .ge off, 3)) (kt : b ≤ a → W p l e R s m args below meth c H locs cells slots Q (F0 m tgt ls rest)) (kf : a < b → W p l e R s m args below meth c H locs cells slots Q (F0 m (pc + 3) ls rest)) : W p l e R s m args below meth c H locs cells slots Q (F0 m pc ls (.int (iI b) :: .int (iI a) :: rest)) :=
  lv_icmp_ge C.1 C.2.1 d ht (fun h => kt ((iI_le hb ha).mp h)) (fun h => kf (Int.not_le.mp (fun q => h ((iI_le hb ha).mpr q))))
theorem r_icmp_gt (C : Cx p s m args meth c cc nL own ret x g) {a b : Int} {off : Int} {tgt : Nat} (ht : (pc : Int) + off = (tgt : Int)) (ha : Rg a) (hb : Rg b) (d : decode cc pc = .ok (.if_icmp .gt off, 3)) (kt : b < a → W p l e R s m args below meth c H locs cells slots Q (F0 m tgt ls rest)) (kf : a ≤ b → W p l e R s m args below meth c H locs cells slots Q (F0 m (pc + 3) ls rest)) : W p l e R s m args below meth c H locs cells slots Q (F0 m pc ls (.int (iI b) :: .int (iI a) :: rest)) :=
  lv_icmp_gt C.1 C.2.1 d ht (fun h => kt ((iI_lt hb ha).mp h)) (fun h => kf (Int.not_lt.mp (fun q => h ((iI_lt hb ha).mpr q))))
theorem r_icmp_le (C : Cx p s m args meth c cc nL own ret x g) {a b : Int} {off : Int} {tgt : Nat} (ht : (pc : Int) + off = (tgt : Int)) (ha : Rg a) (hb : Rg b) (d : decode cc pc = .ok (.if_icmp .le off, 3)) (kt : a ≤ b → W p l e R s m args below meth c H locs cells slots Q (F0 m tgt ls rest)) (kf : b < a → W p l e R s m args below meth c H locs cells slots Q (F0 m (pc + 3) ls rest)) : W p l e R s m args below meth c H locs cells slots Q (F0 m pc ls (.int (iI b) :: .int (iI a) :: rest)) :=
  lv_icmp_le C.1 C.2.1 d ht (fun h => kt ((iI_le ha hb).mp h)) (fun h => kf (Int.not_le.mp (fun q => h ((iI_le ha hb).mpr q))))
theorem r_icmp_eq (C : Cx p s m args meth c cc nL own ret x g) {a b : Int} {off : Int} {tgt : Nat} (ht : (pc : Int) + off = (tgt : Int)) (ha : Rg a) (hb : Rg b) (d : decode cc pc = .ok (.if_icmp .eq off, 3)) (kt : a = b → W p l e R s m args below meth c H locs cells slots Q (F0 m tgt ls rest)) (kf : a ≠ b → W p l e R s m args below meth c H locs cells slots Q (F0 m (pc + 3) ls rest)) : W p l e R s m args below meth c H locs cells slots Q (F0 m pc ls (.int (iI b) :: .int (iI a) :: rest)) :=
  lv_icmp_eq C.1 C.2.1 d ht (fun h => kt ((iI_eq ha hb).mp h)) (fun h => kf (id (fun q => h ((iI_eq ha hb).mpr q))))
theorem r_icmp_ne (C : Cx p s m args meth c cc nL own ret x g) {a b : Int} {off : Int} {tgt : Nat} (ht : (pc : Int) + off = (tgt : Int)) (ha : Rg a) (hb : Rg b) (d : decode cc pc = .ok (.if_icmp .ne off, 3)) (kt : a ≠ b → W p l e R s m args below meth c H locs cells slots Q (F0 m tgt ls rest)) (kf : a = b → W p l e R s m args below meth c H locs cells slots Q (F0 m (pc + 3) ls rest)) : W p l e R s m args below meth c H locs cells slots Q (F0 m pc ls (.int (iI b) :: .int (iI a) :: rest)) :=
  lv_icmp_ne C.1 C.2.1 d ht (fun h => kt (fun q => h ((iI_eq ha hb).mpr q))) (fun h => kf ((iI_eq ha hb).mp h))
theorem r_if_lt (C : Cx p s m args meth c cc nL own ret x g) {a : Int} {off : Int} {tgt : Nat} (ht : (pc : Int) + off = (tgt : Int)) (ha : Rg a) (d : decode cc pc = .ok (.ifCond .lt off, 3)) (kt : a < 0 → W p l e R s m args below meth c H locs cells slots Q (F0 m tgt ls rest)) (kf : 0 ≤ a → W p l e R s m args below meth c H locs cells slots Q (F0 m (pc + 3) ls rest)) : W p l e R s m args below meth c H locs cells slots Q (F0 m pc ls (.int (iI a) :: rest)) :=
  lv_if_lt C.1 C.2.1 d ht (fun h => kt ((iI_lt ha rg0).mp h)) (fun h => kf (Int.not_lt.mp (fun q => h ((iI_lt ha rg0).mpr q))))
theorem r_if_ge (C : Cx p s m args meth c cc nL own ret x g) {a : Int} {off : Int} {tgt : Nat} (ht : (pc : Int) + off = (tgt : Int)) (ha : Rg a) (d : decode cc pc = .ok (.ifCond .ge off, 3)) (kt : 0 ≤ a → W p l e R s m args below meth c H locs cells slots Q (F0 m tgt ls rest)) (kf : a < 0 → W p l e R s m args below meth c H locs cells slots Q (F0 m (pc + 3) ls rest)) : W p l e R s m args below meth c H locs cells slots Q (F0 m pc ls (.int (iI a) :: rest)) :=
  lv_if_ge C.1 C.2.1 d ht (fun h => kt ((iI_le rg0 ha).mp h)) (fun h => kf (Int.not_le.mp (fun q => h ((iI_le rg0 ha).mpr q))))
theorem r_if_gt (C : Cx p s m args meth c cc nL own ret x g) {a : Int} {off : Int} {tgt : Nat} (ht : (pc : Int) + off = (tgt : Int)) (ha : Rg a) (d : decode cc pc = .ok (.ifCond .gt off, 3)) (kt : 0 < a → W p l e R s m args below meth c H locs cells slots Q (F0 m tgt ls rest)) (kf : a ≤ 0 → W p l e R s m args below meth c H locs cells slots Q (F0 m (pc + 3) ls rest)) : W p l e R s m args below meth c H locs cells slots Q (F0 m pc ls (.int (iI a) :: rest)) :=
  lv_if_gt C.1 C.2.1 d ht (fun h => kt ((iI_lt rg0 ha).mp h)) (fun h => kf (Int.not_lt.mp (fun q => h ((iI_lt rg0 ha).mpr q))))
theorem r_if_le (C : Cx p s m args meth c cc nL own ret x g) {a : Int} {off : Int} {tgt : Nat} (ht : (pc : Int) + off = (tgt : Int)) (ha : Rg a) (d : decode cc pc = .ok (.ifCond .le off, 3)) (kt : a ≤ 0 → W p l e R s m args below meth c H locs cells slots Q (F0 m tgt ls rest)) (kf : 0 < a → W p l e R s m args below meth c H locs cells slots Q (F0 m (pc + 3) ls rest)) : W p l e R s m args below meth c H locs cells slots Q (F0 m pc ls (.int (iI a) :: rest)) :=
  lv_if_le C.1 C.2.1 d ht (fun h => kt ((iI_le ha rg0).mp h)) (fun h => kf (Int.not_le.mp (fun q => h ((iI_le ha rg0).mpr q))))
theorem r_if_eq (C : Cx p s m args meth c cc nL own ret x g) {a : Int} {off : Int} {tgt : Nat} (ht : (pc : Int) + off = (tgt : Int)) (ha : Rg a) (d : decode cc pc = .ok (.ifCond .eq off, 3)) (kt : a = 0 → W p l e R s m args below meth c H locs cells slots Q (F0 m tgt ls rest)) (kf : a ≠ 0 → W p l e R s m args below meth c H locs cells slots Q (F0 m (pc + 3) ls rest)) : W p l e R s m args below meth c H locs cells slots Q (F0 m pc ls (.int (iI a) :: rest)) :=
  lv_if_eq C.1 C.2.1 d ht (fun h => kt ((iI_eq ha rg0).mp h)) (fun h => kf (id (fun q => h ((iI_eq ha rg0).mpr q))))
theorem r_if_ne (C : Cx p s m args meth c cc nL own ret x g) {a : Int} {off : Int} {tgt : Nat} (ht : (pc : Int) + off = (tgt : Int)) (ha : Rg a) (d : decode cc pc = .ok (.ifCond .ne off, 3)) (kt : a ≠ 0 → W p l e R s m args below meth c H locs cells slots Q (F0 m tgt ls rest)) (kf : a = 0 → W p l e R s m args below meth c H locs cells slots Q (F0 m (pc + 3) ls rest)) : W p l e R s m args below meth c H locs cells slots Q (F0 m pc ls (.int (iI a) :: rest)) :=
  lv_if_ne C.1 C.2.1 d ht (fun h => kt (fun q => h ((iI_eq ha rg0).mpr q))) (fun h => kf ((iI_eq ha rg0).mp h))
theorem r_ifP_eq (C : Cx p s m args meth c cc nL own ret x g) {P : Prop} [Decidable P] {off : Int} {tgt : Nat} (ht : (pc : Int) + off = (tgt : Int)) (d : decode cc pc = .ok (.ifCond .eq off, 3)) (kt : ¬ P → W p l e R s m args below meth c H locs cells slots Q (F0 m tgt ls rest)) (kf : P → W p l e R s m args below meth c H locs cells slots Q (F0 m (pc + 3) ls rest)) : W p l e R s m args below meth c H locs cells slots Q (F0 m pc ls (.int (iI (pI P)) :: rest)) :=
  r_if_eq C ht ⟨by have := pI_rg P; omega, by have := pI_rg P; omega⟩ d (fun h => kt (pI_0.mp h)) (fun h => kf (Decidable.not_not.mp (fun q => h (pI_0.mpr q))))
theorem r_ifP_ne (C : Cx p s m args meth c cc nL own ret x g) {P : Prop} [Decidable P] {off : Int} {tgt : Nat} (ht : (pc : Int) + off = (tgt : Int)) (d : decode cc pc = .ok (.ifCond .ne off, 3)) (kt : P → W p l e R s m args below meth c H locs cells slots Q (F0 m tgt ls rest)) (kf : ¬ P → W p l e R s m args below meth c H locs cells slots Q (F0 m (pc + 3) ls rest)) : W p l e R s m args below meth c H locs cells slots Q (F0 m pc ls (.int (iI (pI P)) :: rest)) :=
  r_if_ne C ht ⟨by have := pI_rg P; omega, by have := pI_rg P; omega⟩ d (fun h => kt (Decidable.not_not.mp (fun q => h (pI_0.mpr q)))) (fun h => kf (pI_0.mp h))
theorem r_iald (C : Cx p s m args meth c cc nL own ret x g) {a n : Nat} {f : Nat → Int} {i v : Int} (h : aAt g a n f H) (q : Nat) (hi : i = (q : Int)) (hq : q < n) (hn : n < 2147483648) (hv : f q = v) (d : decode cc pc = .ok (.iaload, 1)) (k : W p l e R s m args below meth c H locs cells slots Q (F0 m (pc + 1) ls (.int (iI v) :: rest))) : W p l e R s m args below meth c H locs cells slots Q (F0 m pc ls (.int (iI i) :: .ref a :: rest)) := by
  subst hi hv
  refine W.iald (v := .int (iI (f q))) C.1 C.2.1 h ((C.2.2.2.2.2.2.2.2 0 _ rfl).1 n (fun j => .int (iI (f j)))) (fun q => by cases q) ?_ ?_ rfl rfl d k
  · show ¬ (_ < 0 ∨ (arrV _ _ _).slots.size ≤ _)
    rw [arrV_size]
    exact iI_in hq hn
  · show (arrV _ _ _).slots[_]? = _
    rw [iI_nat (by omega), arrV_read _ _ hq]
theorem r_cald (C : Cx p s m args meth c cc nL own ret x g) {a n : Nat} {f : Nat → Int} {i v : Int} (h : cAt g a n f H) (q : Nat) (hi : i = (q : Int)) (hq : q < n) (hn : n < 2147483648) (hv : f q = v) (d : decode cc pc = .ok (.caload, 1)) (k : W p l e R s m args below meth c H locs cells slots Q (F0 m (pc + 1) ls (.int (iI v) :: rest))) : W p l e R s m args below meth c H locs cells slots Q (F0 m pc ls (.int (iI i) :: .ref a :: rest)) := by
  subst hi hv
  refine W.cald (v := .int (iI (f q))) C.1 C.2.1 h ((C.2.2.2.2.2.2.2.2 1 _ rfl).1 n (fun j => .int (iI (f j)))) (fun q => by cases q) ?_ ?_ rfl rfl d k
  · show ¬ (_ < 0 ∨ (arrV _ _ _).slots.size ≤ _)
    rw [arrV_size]
    exact iI_in hq hn
  · show (arrV _ _ _).slots[_]? = _
    rw [iI_nat (by omega), arrV_read _ _ hq]
theorem r_zald (C : Cx p s m args meth c cc nL own ret x g) {a n : Nat} {f : Nat → Int} {i v : Int} (h : zAt g a n f H) (q : Nat) (hi : i = (q : Int)) (hq : q < n) (hn : n < 2147483648) (hv : f q = v) (d : decode cc pc = .ok (.baload, 1)) (k : W p l e R s m args below meth c H locs cells slots Q (F0 m (pc + 1) ls (.int (iI v) :: rest))) : W p l e R s m args below meth c H locs cells slots Q (F0 m pc ls (.int (iI i) :: .ref a :: rest)) := by
  subst hi hv
  refine W.zald (v := .int (iI (f q))) C.1 C.2.1 h ((C.2.2.2.2.2.2.2.2 2 _ rfl).1 n (fun j => .int (iI (f j)))) (fun q => by cases q) ?_ ?_ rfl rfl d k
  · show ¬ (_ < 0 ∨ (arrV _ _ _).slots.size ≤ _)
    rw [arrV_size]
    exact iI_in hq hn
  · show (arrV _ _ _).slots[_]? = _
    rw [iI_nat (by omega), arrV_read _ _ hq]
theorem r_iast (C : Cx p s m args meth c cc nL own ret x g) {a n : Nat} {f : Nat → Int} {i y : Int} {A : Nat → Prop} {H0 : Heap} (h : aAt g a n f H) (hF : Fr A H0 H locs) (hA : A a) (q : Nat) (hi : i = (q : Int)) (hq : q < n) (hn : n < 2147483648) (d : decode cc pc = .ok (.iastore, 1)) (k : ∀ (H1 : Heap) (locs1 : List Loc), aAt g a n (up f q y) H1 → (∀ b : Nat, b ≠ a → H1[b]? = H[b]?) → H1.size = H.size → Fr A H0 H1 locs1 → W p l e R s m args below meth c H1 locs1 cells slots Q (F0 m (pc + 1) ls rest)) : W p l e R s m args below meth c H locs cells slots Q (F0 m pc ls (.int (iI y) :: .int (iI i) :: .ref a :: rest)) := by
  subst hi
  refine W.iast C.1 C.2.1 h ((C.2.2.2.2.2.2.2.2 0 _ rfl).1 n (fun j => .int (iI (f j)))) (fun q => by cases q) ?_ rfl rfl d (fun H1 e z oq => k H1 _ ?_ oq z (hF.put z oq hA))
  · show ¬ (_ < 0 ∨ (arrV _ _ _).slots.size ≤ _)
    rw [arrV_size]
    exact iI_in hq hn
  · unfold aAt
    rw [e, iI_nat (by omega)]
    rw [vp_cell_i, vp_cell_i, arrV_store]
    refine congrArg some (arrV_cg (fun j _ => ?_))
    by_cases hj : j = q
    · subst hj
      simp [updV, up]
    · simp [updV, up, hj]
theorem r_cast (C : Cx p s m args meth c cc nL own ret x g) {a n : Nat} {f : Nat → Int} {i y : Int} {A : Nat → Prop} {H0 : Heap} (h : cAt g a n f H) (hF : Fr A H0 H locs) (hA : A a) (q : Nat) (hi : i = (q : Int)) (hq : q < n) (hn : n < 2147483648) (hw : narrow .char (.int (iI y)) = .int (iI y)) (d : decode cc pc = .ok (.castore, 1)) (k : ∀ (H1 : Heap) (locs1 : List Loc), cAt g a n (up f q y) H1 → (∀ b : Nat, b ≠ a → H1[b]? = H[b]?) → H1.size = H.size → Fr A H0 H1 locs1 → W p l e R s m args below meth c H1 locs1 cells slots Q (F0 m (pc + 1) ls rest)) : W p l e R s m args below meth c H locs cells slots Q (F0 m pc ls (.int (iI y) :: .int (iI i) :: .ref a :: rest)) := by
  subst hi
  refine W.cast C.1 C.2.1 h ((C.2.2.2.2.2.2.2.2 1 _ rfl).1 n (fun j => .int (iI (f j)))) (fun q => by cases q) ?_ rfl rfl d (fun H1 e z oq => k H1 _ ?_ oq z (hF.put z oq hA))
  · show ¬ (_ < 0 ∨ (arrV _ _ _).slots.size ≤ _)
    rw [arrV_size]
    exact iI_in hq hn
  · unfold cAt
    rw [e, iI_nat (by omega), hw]
    rw [vp_cell_i, vp_cell_i, arrV_store]
    refine congrArg some (arrV_cg (fun j _ => ?_))
    by_cases hj : j = q
    · subst hj
      simp [updV, up]
    · simp [updV, up, hj]
theorem r_zast (C : Cx p s m args meth c cc nL own ret x g) {a n : Nat} {f : Nat → Int} {i y : Int} {A : Nat → Prop} {H0 : Heap} (h : zAt g a n f H) (hF : Fr A H0 H locs) (hA : A a) (q : Nat) (hi : i = (q : Int)) (hq : q < n) (hn : n < 2147483648) (hw : narrow .boolean (.int (iI y)) = .int (iI y)) (d : decode cc pc = .ok (.bastore, 1)) (k : ∀ (H1 : Heap) (locs1 : List Loc), zAt g a n (up f q y) H1 → (∀ b : Nat, b ≠ a → H1[b]? = H[b]?) → H1.size = H.size → Fr A H0 H1 locs1 → W p l e R s m args below meth c H1 locs1 cells slots Q (F0 m (pc + 1) ls rest)) : W p l e R s m args below meth c H locs cells slots Q (F0 m pc ls (.int (iI y) :: .int (iI i) :: .ref a :: rest)) := by
  subst hi
  refine W.zast C.1 C.2.1 h ((C.2.2.2.2.2.2.2.2 2 _ rfl).1 n (fun j => .int (iI (f j)))) (fun q => by cases q) ?_ rfl rfl d (fun H1 e z oq => k H1 _ ?_ oq z (hF.put z oq hA))
  · show ¬ (_ < 0 ∨ (arrV _ _ _).slots.size ≤ _)
    rw [arrV_size]
    exact iI_in hq hn
  · unfold zAt
    rw [e, iI_nat (by omega), hw]
    rw [vp_cell_i, vp_cell_i, arrV_store]
    refine congrArg some (arrV_cg (fun j _ => ?_))
    by_cases hj : j = q
    · subst hj
      simp [updV, up]
    · simp [updV, up, hj]
theorem r_aaldq (C : Cx p s m args meth c cc nL own ret x g) {a n v : Nat} {f : Nat → Option Nat} {i : Int} (h : qAt g a n f H) (q : Nat) (hi : i = (q : Int)) (hq : q < n) (hn : n < 2147483648) (hv : f q = some v) (d : decode cc pc = .ok (.aaload, 1)) (k : W p l e R s m args below meth c H locs cells slots Q (F0 m (pc + 1) ls (.ref v :: rest))) : W p l e R s m args below meth c H locs cells slots Q (F0 m pc ls (.int (iI i) :: .ref a :: rest)) := by
  subst hi
  refine W.aald (v := .ref v) C.1 C.2.1 h ((C.2.2.2.2.2.2.2.2 3 _ rfl).1 n (fun j => va_rf (f j))) rfl (fun q => by cases q) ?_ ?_ rfl rfl d k
  · show ¬ (_ < 0 ∨ (arrV _ _ _).slots.size ≤ _)
    rw [arrV_size]
    exact iI_in hq hn
  · show (arrV _ _ _).slots[_]? = _
    rw [iI_nat (by omega), arrV_read _ _ hq, hv]
    rfl
theorem r_aaldr (C : Cx p s m args meth c cc nL own ret x g) {a n v : Nat} {f : Nat → Option Nat} {i : Int} (h : rAt g a n f H) (q : Nat) (hi : i = (q : Int)) (hq : q < n) (hn : n < 2147483648) (hv : f q = some v) (d : decode cc pc = .ok (.aaload, 1)) (k : W p l e R s m args below meth c H locs cells slots Q (F0 m (pc + 1) ls (.ref v :: rest))) : W p l e R s m args below meth c H locs cells slots Q (F0 m pc ls (.int (iI i) :: .ref a :: rest)) := by
  subst hi
  refine W.aald (v := .ref v) C.1 C.2.1 h ((C.2.2.2.2.2.2.2.2 4 _ rfl).1 n (fun j => va_rf (f j))) rfl (fun q => by cases q) ?_ ?_ rfl rfl d k
  · show ¬ (_ < 0 ∨ (arrV _ _ _).slots.size ≤ _)
    rw [arrV_size]
    exact iI_in hq hn
  · show (arrV _ _ _).slots[_]? = _
    rw [iI_nat (by omega), arrV_read _ _ hq, hv]
    rfl
theorem r_alen (C : Cx p s m args meth c cc nL own ret x g) {a n : Nat} {f : Nat → Int} (h : aAt g a n f H) (d : decode cc pc = .ok (.arraylength, 1)) (k : W p l e R s m args below meth c H locs cells slots Q (F0 m (pc + 1) ls (.int (iI (n : Int)) :: rest))) : W p l e R s m args below meth c H locs cells slots Q (F0 m pc ls (.ref a :: rest)) := by
  refine W.alen (n := iI (n : Int)) C.1 C.2.1 h ((C.2.2.2.2.2.2.2.2 0 _ rfl).1 n (fun j => .int (iI (f j)))) ?_ rfl rfl d k
  show (arrV _ _ _).slots.size.toInt32 = _
  rw [arrV_size]
  rfl
theorem r_get (C : Cx p s m args meth c cc nL own ret x g) {a ci idx : Nat} {fs : List Value} {cls ref : String} {T : u_T} {N : Nat} (hc : vwCl[ci]? = some (cls, T, N)) (hin : ∀ w ∈ u_ws cls T N, w ∈ AL) (h : oAt g a ci fs H) (q : Nat) (hq : q < N) (hl : Cond.fieldLink own idx ref (T q).2.1 (T q).2.2.1 ∈ AL) (hr : (T q).1 = ref) {v : Value} (hv : fs[q]? = some v) (d : decode cc pc = .ok (.getfield idx, 3)) (k : W p l e R s m args below meth c H locs cells slots Q (F0 m (pc + 3) ls (v :: rest))) : W p l e R s m args below meth c H locs cells slots Q (F0 m pc ls (.ref a :: rest)) :=
  va_get (D := g.1) (cl := vwCl) (tys := TYS g) (ws := [(a, .inr (ci, fs))]) (Ts := x :: AL) C.1 C.2.1 C.2.2.2.2.1 (fun w hw => List.mem_cons_of_mem _ (hin w hw)) C.2.2.2.1 C.2.2.2.2.2.2.2 (fun k q hk => by cases k with
    | zero => cases hk; exact h
    | succ k => simp at hk) 0 rfl hc q hq (C.2.2.2.2.1 _ (List.mem_cons_of_mem _ hl)) (fun z hz => hr ▸ hz) hv d k
theorem r_put (C : Cx p s m args meth c cc nL own ret x g) {a ci idx : Nat} {fs : List Value} {cls ref : String} {T : u_T} {N : Nat} {ty0 : Nat → FieldType} {A : Nat → Prop} {H0 : Heap} (hc : vwCl[ci]? = some (cls, T, N)) (hin : ∀ w ∈ u_ws cls T N, w ∈ AL) (hty : ∀ k, k < N → parseFieldDescriptor (T k).2.2.1 = some (ty0 k)) (hnm : ∀ a, a < N → ∀ b, b < N → a ≠ b → (T a).2.1 ≠ (T b).2.1) (h : oAt g a ci fs H) (hF : Fr A H0 H locs) (hA : A a) (q : Nat) (hq : q < N) (hl : Cond.fieldLink own idx ref (T q).2.1 (T q).2.2.1 ∈ AL) (hr : (T q).1 = ref) (hfin : (T q).2.2.2 = false) {v : Value} (hn : narrow (ty0 q) v = v) (hfit : fits (ty0 q) v = true) (hlen : q < fs.length) (d : decode cc pc = .ok (.putfield idx, 3))
    (k : ∀ (H1 : Heap) (locs1 : List Loc), oAt g a ci (fs.set q v) H1 → (∀ b : Nat, b ≠ a → H1[b]? = H[b]?) → H1.size = H.size → Fr A H0 H1 locs1 → W p l e R s m args below meth c H1 locs1 cells slots Q (F0 m (pc + 3) ls rest)) : W p l e R s m args below meth c H locs cells slots Q (F0 m pc ls (v :: .ref a :: rest)) := by
  have hK : va_K g.1 vwCl (TYS g) s := C.2.2.2.2.2.2.2
  have hts := C.2.2.2.2.1
  have hinx : ∀ w ∈ u_ws cls T N, w ∈ x :: AL := fun w hw => List.mem_cons_of_mem _ (hin w hw)
  have hap := va_apart (own := own) hts hinx ty0 hty hnm hK hc
  obtain ⟨r, h1, cell, q1, q2, q3, q4⟩ := h
  have hr' : r = (cls, T, N) := Option.some.inj (h1.symm.trans hc)
  subst hr'
  obtain ⟨hS, hfc, kC, hkC, hkind⟩ := hK.1 ci _ hc
  obtain ⟨cf, kf, fi, f, hi, hsl⟩ := hS q hq
  have hlay := hts _ (hinx _ (u_in_lay hq))
  unfold u_lay at hlay
  rw [if_neg (by rw [hfin]; decide)] at hlay
  have hst := (u_facts hfc hkC (u_lays hts hinx hq) hi).1
  have h6 := u_store hfc hkC hkind hlay hi (hty q hq) hn hfit
  refine W.putK C.1 C.2.1 (f := f) ⟨C.2.2.2.1, hts _ (List.mem_cons_of_mem _ hl), ⟨_, _, _, hr ▸ hi⟩, hst⟩ (by rw [q2]; exact h6) q1 q3 (by rw [hsl]; exact k2_hasslot (q4 q hq)) rfl rfl d fun H' e1 e2 e3 => ?_
  rw [hsl] at e1 ⊢
  exact k H' _ ⟨_, hc, t_OB.to (V := updV (vp_V fs) q v) ⟨_, e1, q2, q3, t_set q4 hap hq v⟩ (fun j _ => vp_updV_set hlen v j)⟩ e3 e2 (hF.put e2 e3 hA)
theorem r_iretP (C : Cx p s m args meth c cc nL own ret x g) {v r : Int32} {ty : FieldType} (hret : ret = some ty) (hn : narrow ty (.int v) = .int v) (hv : v = r) (d : decode cc pc = .ok (.ireturn, 1)) : W p l e R s m args below meth c s.heap [] 0 0 (MQ below (PQ (some (.int r))) args s 0 0 (fun _ => False)) (F0 m pc ls [.int v]) := by
  subst hv
  have hl : meth.locks = false := C.2.2.2.2.2.2.1
  exact W.zret (ty := ty) C.1 C.2.1 (C.2.2.2.2.2.1.trans hret) hn (fun t ht _ => ⟨rfl, ht⟩) (fun q hq => by cases hq) d hl
theorem r_iretH (C : Cx p s m args meth c cc nL own ret x g) {v r : Int32} {ty : FieldType} {A : Nat → Prop} {P' : Heap → Prop} (hret : ret = some ty) (hn : narrow ty (.int v) = .int v) (hv : v = r) (hF : Fr A s.heap H locs) (hP : P' H) (d : decode cc pc = .ok (.ireturn, 1)) : W p l e R s m args below meth c H locs cells slots (MQ below (HQ (some (.int r)) A P') args s cells slots A) (F0 m pc ls [.int v]) := by
  subst hv
  have hl : meth.locks = false := C.2.2.2.2.2.2.1
  exact W.zret (ty := ty) C.1 C.2.1 (C.2.2.2.2.2.1.trans hret) hn (fun t ht _ => ⟨rfl, ht ▸ hP, by rw [ht]; exact hF.1, fun q hq => by rw [ht]; exact hF.2.1 q hq⟩) hF.2.2 d hl
theorem r_vretH (C : Cx p s m args meth c cc nL own ret x g) {A : Nat → Prop} {P' : Heap → Prop} (hret : ret = none) (hF : Fr A s.heap H locs) (hP : P' H) (d : decode cc pc = .ok (.return_, 1)) : W p l e R s m args below meth c H locs cells slots (MQ below (HQ none A P') args s cells slots A) (F0 m pc ls []) := by
  have hl : meth.locks = false := C.2.2.2.2.2.2.1
  exact W.vret C.1 C.2.1 (C.2.2.2.2.2.1.trans hret) (fun t ht _ => ⟨rfl, ht ▸ hP, by rw [ht]; exact hF.1, fun q hq => by rw [ht]; exact hF.2.1 q hq⟩) hF.2.2 d hl
theorem cr_P {v : Option Value} {a : Array Value} {j : JFrame} (hr : CallRun p l e R s m args below meth c H locs cells slots 0 0 j rest (PQ v a) (fun _ => False)) (k : W p l e R s m args below meth c H locs cells slots Q { j with pc := j.pc + 3, stack := v.toList ++ rest }) : W p l e R s m args below meth c H locs cells slots Q j := by
  intro T hT X
  obtain ⟨v', st₀, t, T', L, h0, X', hL, e1, ⟨hv, hh⟩, st⟩ := hr T hT X
  cases hv
  obtain ⟨t2, a1, b1⟩ := k T' (by rw [e1, hh, h0]) (Stand.forget X' (fun q h => (hL q h).elim))
  exact ⟨t2, st t2 a1, b1⟩
theorem cr_H {v : Option Value} {a : Array Value} {j : JFrame} {A' : Nat → Prop} {P' : Heap → Prop} (hr : CallRun p l e R s m args below meth c H locs cells slots 0 0 j rest (HQ v A' P' a) A') (k : ∀ (H1 : Heap) (L : List Loc), P' H1 → (∀ q : Nat, ¬ A' q → H1[q]? = H[q]?) → H1.size = H.size → (∀ y ∈ L, A' y.base) → W p l e R s m args below meth c H1 (locs ++ L) cells slots Q { j with pc := j.pc + 3, stack := v.toList ++ rest }) : W p l e R s m args below meth c H locs cells slots Q j := by
  intro T hT X
  obtain ⟨v', st₀, t, T', L, h0, X', hL, e1, ⟨hv, hp, hz, hk⟩, st⟩ := hr T hT X
  cases hv
  subst h0
  obtain ⟨t2, a1, b1⟩ := k t.heap L hp hk hz hL T' e1 X'
  exact ⟨t2, st t2 a1, b1⟩
end ROWS
def SiteV (own : String) (idx : Nat) (C : String) (y : MethodName) (bytes : ByteArray) (maxL : Nat) (ret : Option FieldType) (n : Nat) : Prop :=
  (Cond.methodLink own idx y ∈ AL ∧ Cond.instanceMethod y ∈ AL ∧ Cond.selects C y y ∈ AL ∧ Cond.initialized C ∈ AL ∧ Cond.code y bytes maxL ret ∈ AL) ∧ y.cls = C ∧ (y.cls ≠ "java/lang/invoke/MethodHandle" ∧ y.cls ≠ "java/lang/invoke/VarHandle" ∧ (parseMethodDescriptor y.desc).map (fun d => d.parameters.length) = some n)
def SiteS (own : String) (idx : Nat) (y : MethodName) (bytes : ByteArray) (maxL : Nat) (ret : Option FieldType) (n : Nat) : Prop :=
  (Cond.methodLink own idx y ∈ AL ∧ Cond.static y ∈ AL ∧ Cond.initialized y.cls ∈ AL ∧ Cond.code y bytes maxL ret ∈ AL) ∧ (y.cls ≠ "java/lang/invoke/MethodHandle" ∧ y.cls ≠ "java/lang/invoke/VarHandle" ∧ (parseMethodDescriptor y.desc).map (fun d => d.parameters.length) = some n)
theorem good_ws {x w0 : Cond} (h : w0 ∈ AL) : GoodIn (x :: AL) (w0 :: AL) := fun w hw => by
  rcases List.mem_cons.mp hw with rfl | hw
  · exact ⟨List.mem_cons_of_mem _ h, al_good h⟩
  · exact ⟨List.mem_cons_of_mem _ hw, al_good hw⟩
section CALLS
variable {p : Program} {l : Launch} {e : Env} {R : Room} {s : State} {m : MethodId} {args : Array Value} {below : List Frame} {meth : Method} {c : Code} {H : Heap} {locs : List Loc} {cells slots : Nat} {Q : State → Prop}
variable {cc : ByteArray} {nL : Nat} {own : String} {ret : Option FieldType} {x : Cond} {g : Gt} {pc : Nat} {ls : Array Slot} {rest st : List Value}
variable {y : MethodName} {bytes : ByteArray} {maxL idx n f lo : Nat} {ret' : Option FieldType} {As : List Value} {P : Heap → Prop} {v : Option Value} {A A' : Nat → Prop} {P' : Heap → Prop} {b : Nat} {cls : String} {H0 : Heap}
theorem cw_V (C : Cx p s m args meth c cc nL own ret x g) (S : SiteV own idx cls y bytes maxL ret' n) (hR : f + 1 ≤ R.frames ∧ 8 + (maxL + 11) + lo ≤ R.locals) : CallW R s args own cls idx y bytes maxL ret' (.code y bytes maxL ret' :: AL) (rmc f lo) 0 0 n := by
  have hts := C.2.2.2.2.1
  obtain ⟨⟨h1, h2, h3, h4, h5⟩, h6, h7⟩ := S
  have ok : ∀ w, w ∈ AL → w.before args s = true := fun w hw => hts w (List.mem_cons_of_mem _ hw)
  subst h6
  exact ⟨callB_of n hts (good_ws h5) rfl rfl rfl (ok _ h4) (ok _ h1) h7 hR, ok _ h2, ok _ h3⟩
theorem cw_S (C : Cx p s m args meth c cc nL own ret x g) (S : SiteS own idx y bytes maxL ret' n) (hR : f + 1 ≤ R.frames ∧ 8 + (maxL + 11) + lo ≤ R.locals) : CallB R s args own idx y bytes maxL ret' (.code y bytes maxL ret' :: AL) (rmc f lo) 0 0 n ∧ (Cond.static y).before args s = true := by
  have hts := C.2.2.2.2.1
  obtain ⟨⟨h1, h2, h4, h5⟩, h7⟩ := S
  have ok : ∀ w, w ∈ AL → w.before args s = true := fun w hw => hts w (List.mem_cons_of_mem _ hw)
  exact ⟨callB_of n hts (good_ws h5) rfl rfl rfl (ok _ h4) (ok _ h1) h7 hR, ok _ h2⟩
theorem pcc_blind : FrameBlind (Pcc As P g) := fun a U j mk q => ⟨q.1, q.2.1, va_K.moved (u := U) (U := U.calling j mk a) (Vm.Alike.refl U.vm) q.2.2⟩
theorem pcc_pre (C : Cx p s m args meth c cc nL own ret x g) (hP : P H) : ∀ U : State, U.heap = H → s.WarmedH U.vm → Pcc As P g As.toArray U := fun U hU hW => ⟨rfl, by rw [hU]; exact hP, va_K.moved hW.alike C.2.2.2.2.2.2.2⟩
theorem recv (C : Cx p s m args meth c cc nL own ret x g) {ci : Nat} {fs : List Value} {q : vw_C} (hc : vwCl[ci]? = some q) (h : oAt g b ci fs H) : ∃ cell : Cell, H[b]? = some cell ∧ cell.vm.isStatics = false ∧ s.vm.findClass q.1 = some cell.cls :=
  va_recv (D := g.1) (cl := vwCl) (tys := TYS g) (ws := [(b, .inr (ci, fs))]) (q0 := 0) C.2.2.2.2.2.2.2 (fun k z hk => by cases k with
    | zero => cases hk; exact h
    | succ k => simp at hk) hc rfl
abbrev RM (f lo maxL : Nat) (R : Room) : Prop := f + 1 ≤ R.frames ∧ 8 + (maxL + 11) + lo ≤ R.locals
theorem r_vP (C : Cx p s m args meth c cc nL own ret x g) (hM : CP l y bytes maxL ret' f lo g (.ref b :: As) P v) (S : SiteV own idx cls y bytes maxL ret' n) (hP : P H) (hrec : ∃ cell : Cell, H[b]? = some cell ∧ cell.vm.isStatics = false ∧ s.vm.findClass cls = some cell.cls) (hz : ls.size = nL) (hn : As.length = n) (hR : RM f lo maxL R) (hst : st = As.reverse ++ .ref b :: rest) (hw : (rest.map fun v => v.category).sum ≤ 8) (hf : cells + 0 ≤ R.cells ∧ slots + 0 ≤ R.slots) (d : decode cc pc = .ok (.invokevirtual idx, 3)) (k : W p l e R s m args below meth c H locs cells slots Q (F0 m (pc + 3) ls (v.toList ++ rest))) : W p l e R s m args below meth c H locs cells slots Q (F0 m pc ls st) :=
  cr_P (W.runV (C := cls) (n := n) (rest := rest) ⟨C.1, C.2.1, C.2.2.1, C.2.2.2.1, C.2.2.2.2.1⟩ hM (cw_V C S hR) ⟨pcc_blind, hrec, pcc_pre C hP⟩ rfl hn hz hst (lv_room hw) d hf) k
theorem r_vH (C : Cx p s m args meth c cc nL own ret x g) (hM : CH l y bytes maxL ret' f lo g (.ref b :: As) P v A' P') (S : SiteV own idx cls y bytes maxL ret' n) (hP : P H) (hF : Fr A H0 H locs) (hA : ∀ q, A' q → A q) (hrec : ∃ cell : Cell, H[b]? = some cell ∧ cell.vm.isStatics = false ∧ s.vm.findClass cls = some cell.cls) (hz : ls.size = nL) (hn : As.length = n) (hR : RM f lo maxL R) (hst : st = As.reverse ++ .ref b :: rest) (hw : (rest.map fun v => v.category).sum ≤ 8) (hf : cells + 0 ≤ R.cells ∧ slots + 0 ≤ R.slots) (d : decode cc pc = .ok (.invokevirtual idx, 3)) (k : ∀ (H1 : Heap) (locs1 : List Loc), P' H1 → (∀ q : Nat, ¬ A' q → H1[q]? = H[q]?) → H1.size = H.size → Fr A H0 H1 locs1 → W p l e R s m args below meth c H1 locs1 cells slots Q (F0 m (pc + 3) ls (v.toList ++ rest))) : W p l e R s m args below meth c H locs cells slots Q (F0 m pc ls st) :=
  cr_H (W.runV (C := cls) (n := n) (rest := rest) ⟨C.1, C.2.1, C.2.2.1, C.2.2.2.1, C.2.2.2.2.1⟩ hM (cw_V C S hR) ⟨pcc_blind, hrec, pcc_pre C hP⟩ rfl hn hz hst (lv_room hw) d hf) (fun H1 L h1 h2 h3 h4 => k H1 _ h1 h2 h3 (hF.call hA h3 h2 h4))
theorem r_sP (C : Cx p s m args meth c cc nL own ret x g) (hM : CP l y bytes maxL ret' f lo g As P v) (S : SiteS own idx y bytes maxL ret' n) (hP : P H) (hz : ls.size = nL) (hn : As.length = n) (hR : RM f lo maxL R) (hst : st = As.reverse ++ rest) (hw : (rest.map fun v => v.category).sum ≤ 8) (hf : cells + 0 ≤ R.cells ∧ slots + 0 ≤ R.slots) (d : decode cc pc = .ok (.invokestatic idx, 3)) (k : W p l e R s m args below meth c H locs cells slots Q (F0 m (pc + 3) ls (v.toList ++ rest))) : W p l e R s m args below meth c H locs cells slots Q (F0 m pc ls st) :=
  cr_P (W.runS (n := n) (rest := rest) ⟨C.1, C.2.1, C.2.2.1, C.2.2.2.1, C.2.2.2.2.1⟩ hM (cw_S C S hR) ⟨pcc_blind, pcc_pre C hP⟩ rfl hn hz hst (lv_room hw) d hf) k
theorem r_sH (C : Cx p s m args meth c cc nL own ret x g) (hM : CH l y bytes maxL ret' f lo g As P v A' P') (S : SiteS own idx y bytes maxL ret' n) (hP : P H) (hF : Fr A H0 H locs) (hA : ∀ q, A' q → A q) (hz : ls.size = nL) (hn : As.length = n) (hR : RM f lo maxL R) (hst : st = As.reverse ++ rest) (hw : (rest.map fun v => v.category).sum ≤ 8) (hf : cells + 0 ≤ R.cells ∧ slots + 0 ≤ R.slots) (d : decode cc pc = .ok (.invokestatic idx, 3)) (k : ∀ (H1 : Heap) (locs1 : List Loc), P' H1 → (∀ q : Nat, ¬ A' q → H1[q]? = H[q]?) → H1.size = H.size → Fr A H0 H1 locs1 → W p l e R s m args below meth c H1 locs1 cells slots Q (F0 m (pc + 3) ls (v.toList ++ rest))) : W p l e R s m args below meth c H locs cells slots Q (F0 m pc ls st) :=
  cr_H (W.runS (n := n) (rest := rest) ⟨C.1, C.2.1, C.2.2.1, C.2.2.2.1, C.2.2.2.2.1⟩ hM (cw_S C S hR) ⟨pcc_blind, pcc_pre C hP⟩ rfl hn hz hst (lv_room hw) d hf) (fun H1 L h1 h2 h3 h4 => k H1 _ h1 h2 h3 (hF.call hA h3 h2 h4))
theorem r_vPi {r : Int32} (C : Cx p s m args meth c cc nL own ret x g) (hM : CP l y bytes maxL ret' f lo g (.ref b :: As) P (some (.int r))) (S : SiteV own idx cls y bytes maxL ret' n) (hP : P H) (hrec : ∃ cell : Cell, H[b]? = some cell ∧ cell.vm.isStatics = false ∧ s.vm.findClass cls = some cell.cls) (hz : ls.size = nL) (hn : As.length = n) (hR : RM f lo maxL R) (hst : st = As.reverse ++ .ref b :: rest) (hw : (rest.map fun v => v.category).sum ≤ 8) (hf : cells + 0 ≤ R.cells ∧ slots + 0 ≤ R.slots) (d : decode cc pc = .ok (.invokevirtual idx, 3)) (k : W p l e R s m args below meth c H locs cells slots Q (F0 m (pc + 3) ls (.int r :: rest))) : W p l e R s m args below meth c H locs cells slots Q (F0 m pc ls st) := r_vP C hM S hP hrec hz hn hR hst hw hf d k
theorem r_vPl {r : Int64} (C : Cx p s m args meth c cc nL own ret x g) (hM : CP l y bytes maxL ret' f lo g (.ref b :: As) P (some (.long r))) (S : SiteV own idx cls y bytes maxL ret' n) (hP : P H) (hrec : ∃ cell : Cell, H[b]? = some cell ∧ cell.vm.isStatics = false ∧ s.vm.findClass cls = some cell.cls) (hz : ls.size = nL) (hn : As.length = n) (hR : RM f lo maxL R) (hst : st = As.reverse ++ .ref b :: rest) (hw : (rest.map fun v => v.category).sum ≤ 8) (hf : cells + 0 ≤ R.cells ∧ slots + 0 ≤ R.slots) (d : decode cc pc = .ok (.invokevirtual idx, 3)) (k : W p l e R s m args below meth c H locs cells slots Q (F0 m (pc + 3) ls (.long r :: rest))) : W p l e R s m args below meth c H locs cells slots Q (F0 m pc ls st) := r_vP C hM S hP hrec hz hn hR hst hw hf d k
theorem r_vPr {r : Nat} (C : Cx p s m args meth c cc nL own ret x g) (hM : CP l y bytes maxL ret' f lo g (.ref b :: As) P (some (.ref r))) (S : SiteV own idx cls y bytes maxL ret' n) (hP : P H) (hrec : ∃ cell : Cell, H[b]? = some cell ∧ cell.vm.isStatics = false ∧ s.vm.findClass cls = some cell.cls) (hz : ls.size = nL) (hn : As.length = n) (hR : RM f lo maxL R) (hst : st = As.reverse ++ .ref b :: rest) (hw : (rest.map fun v => v.category).sum ≤ 8) (hf : cells + 0 ≤ R.cells ∧ slots + 0 ≤ R.slots) (d : decode cc pc = .ok (.invokevirtual idx, 3)) (k : W p l e R s m args below meth c H locs cells slots Q (F0 m (pc + 3) ls (.ref r :: rest))) : W p l e R s m args below meth c H locs cells slots Q (F0 m pc ls st) := r_vP C hM S hP hrec hz hn hR hst hw hf d k
theorem r_vPn (C : Cx p s m args meth c cc nL own ret x g) (hM : CP l y bytes maxL ret' f lo g (.ref b :: As) P none) (S : SiteV own idx cls y bytes maxL ret' n) (hP : P H) (hrec : ∃ cell : Cell, H[b]? = some cell ∧ cell.vm.isStatics = false ∧ s.vm.findClass cls = some cell.cls) (hz : ls.size = nL) (hn : As.length = n) (hR : RM f lo maxL R) (hst : st = As.reverse ++ .ref b :: rest) (hw : (rest.map fun v => v.category).sum ≤ 8) (hf : cells + 0 ≤ R.cells ∧ slots + 0 ≤ R.slots) (d : decode cc pc = .ok (.invokevirtual idx, 3)) (k : W p l e R s m args below meth c H locs cells slots Q (F0 m (pc + 3) ls rest)) : W p l e R s m args below meth c H locs cells slots Q (F0 m pc ls st) := r_vP C hM S hP hrec hz hn hR hst hw hf d k
theorem r_vHi {r : Int32} (C : Cx p s m args meth c cc nL own ret x g) (hM : CH l y bytes maxL ret' f lo g (.ref b :: As) P (some (.int r)) A' P') (S : SiteV own idx cls y bytes maxL ret' n) (hP : P H) (hF : Fr A H0 H locs) (hA : ∀ q, A' q → A q) (hrec : ∃ cell : Cell, H[b]? = some cell ∧ cell.vm.isStatics = false ∧ s.vm.findClass cls = some cell.cls) (hz : ls.size = nL) (hn : As.length = n) (hR : RM f lo maxL R) (hst : st = As.reverse ++ .ref b :: rest) (hw : (rest.map fun v => v.category).sum ≤ 8) (hf : cells + 0 ≤ R.cells ∧ slots + 0 ≤ R.slots) (d : decode cc pc = .ok (.invokevirtual idx, 3)) (k : ∀ (H1 : Heap) (locs1 : List Loc), P' H1 → (∀ q : Nat, ¬ A' q → H1[q]? = H[q]?) → H1.size = H.size → Fr A H0 H1 locs1 → W p l e R s m args below meth c H1 locs1 cells slots Q (F0 m (pc + 3) ls (.int r :: rest))) : W p l e R s m args below meth c H locs cells slots Q (F0 m pc ls st) := r_vH C hM S hP hF hA hrec hz hn hR hst hw hf d k
theorem r_vHl {r : Int64} (C : Cx p s m args meth c cc nL own ret x g) (hM : CH l y bytes maxL ret' f lo g (.ref b :: As) P (some (.long r)) A' P') (S : SiteV own idx cls y bytes maxL ret' n) (hP : P H) (hF : Fr A H0 H locs) (hA : ∀ q, A' q → A q) (hrec : ∃ cell : Cell, H[b]? = some cell ∧ cell.vm.isStatics = false ∧ s.vm.findClass cls = some cell.cls) (hz : ls.size = nL) (hn : As.length = n) (hR : RM f lo maxL R) (hst : st = As.reverse ++ .ref b :: rest) (hw : (rest.map fun v => v.category).sum ≤ 8) (hf : cells + 0 ≤ R.cells ∧ slots + 0 ≤ R.slots) (d : decode cc pc = .ok (.invokevirtual idx, 3)) (k : ∀ (H1 : Heap) (locs1 : List Loc), P' H1 → (∀ q : Nat, ¬ A' q → H1[q]? = H[q]?) → H1.size = H.size → Fr A H0 H1 locs1 → W p l e R s m args below meth c H1 locs1 cells slots Q (F0 m (pc + 3) ls (.long r :: rest))) : W p l e R s m args below meth c H locs cells slots Q (F0 m pc ls st) := r_vH C hM S hP hF hA hrec hz hn hR hst hw hf d k
theorem r_vHr {r : Nat} (C : Cx p s m args meth c cc nL own ret x g) (hM : CH l y bytes maxL ret' f lo g (.ref b :: As) P (some (.ref r)) A' P') (S : SiteV own idx cls y bytes maxL ret' n) (hP : P H) (hF : Fr A H0 H locs) (hA : ∀ q, A' q → A q) (hrec : ∃ cell : Cell, H[b]? = some cell ∧ cell.vm.isStatics = false ∧ s.vm.findClass cls = some cell.cls) (hz : ls.size = nL) (hn : As.length = n) (hR : RM f lo maxL R) (hst : st = As.reverse ++ .ref b :: rest) (hw : (rest.map fun v => v.category).sum ≤ 8) (hf : cells + 0 ≤ R.cells ∧ slots + 0 ≤ R.slots) (d : decode cc pc = .ok (.invokevirtual idx, 3)) (k : ∀ (H1 : Heap) (locs1 : List Loc), P' H1 → (∀ q : Nat, ¬ A' q → H1[q]? = H[q]?) → H1.size = H.size → Fr A H0 H1 locs1 → W p l e R s m args below meth c H1 locs1 cells slots Q (F0 m (pc + 3) ls (.ref r :: rest))) : W p l e R s m args below meth c H locs cells slots Q (F0 m pc ls st) := r_vH C hM S hP hF hA hrec hz hn hR hst hw hf d k
theorem r_vHn (C : Cx p s m args meth c cc nL own ret x g) (hM : CH l y bytes maxL ret' f lo g (.ref b :: As) P none A' P') (S : SiteV own idx cls y bytes maxL ret' n) (hP : P H) (hF : Fr A H0 H locs) (hA : ∀ q, A' q → A q) (hrec : ∃ cell : Cell, H[b]? = some cell ∧ cell.vm.isStatics = false ∧ s.vm.findClass cls = some cell.cls) (hz : ls.size = nL) (hn : As.length = n) (hR : RM f lo maxL R) (hst : st = As.reverse ++ .ref b :: rest) (hw : (rest.map fun v => v.category).sum ≤ 8) (hf : cells + 0 ≤ R.cells ∧ slots + 0 ≤ R.slots) (d : decode cc pc = .ok (.invokevirtual idx, 3)) (k : ∀ (H1 : Heap) (locs1 : List Loc), P' H1 → (∀ q : Nat, ¬ A' q → H1[q]? = H[q]?) → H1.size = H.size → Fr A H0 H1 locs1 → W p l e R s m args below meth c H1 locs1 cells slots Q (F0 m (pc + 3) ls rest)) : W p l e R s m args below meth c H locs cells slots Q (F0 m pc ls st) := r_vH C hM S hP hF hA hrec hz hn hR hst hw hf d k
theorem r_sPi {r : Int32} (C : Cx p s m args meth c cc nL own ret x g) (hM : CP l y bytes maxL ret' f lo g As P (some (.int r))) (S : SiteS own idx y bytes maxL ret' n) (hP : P H) (hz : ls.size = nL) (hn : As.length = n) (hR : RM f lo maxL R) (hst : st = As.reverse ++ rest) (hw : (rest.map fun v => v.category).sum ≤ 8) (hf : cells + 0 ≤ R.cells ∧ slots + 0 ≤ R.slots) (d : decode cc pc = .ok (.invokestatic idx, 3)) (k : W p l e R s m args below meth c H locs cells slots Q (F0 m (pc + 3) ls (.int r :: rest))) : W p l e R s m args below meth c H locs cells slots Q (F0 m pc ls st) := r_sP C hM S hP hz hn hR hst hw hf d k
theorem r_sPl {r : Int64} (C : Cx p s m args meth c cc nL own ret x g) (hM : CP l y bytes maxL ret' f lo g As P (some (.long r))) (S : SiteS own idx y bytes maxL ret' n) (hP : P H) (hz : ls.size = nL) (hn : As.length = n) (hR : RM f lo maxL R) (hst : st = As.reverse ++ rest) (hw : (rest.map fun v => v.category).sum ≤ 8) (hf : cells + 0 ≤ R.cells ∧ slots + 0 ≤ R.slots) (d : decode cc pc = .ok (.invokestatic idx, 3)) (k : W p l e R s m args below meth c H locs cells slots Q (F0 m (pc + 3) ls (.long r :: rest))) : W p l e R s m args below meth c H locs cells slots Q (F0 m pc ls st) := r_sP C hM S hP hz hn hR hst hw hf d k
theorem r_sPr {r : Nat} (C : Cx p s m args meth c cc nL own ret x g) (hM : CP l y bytes maxL ret' f lo g As P (some (.ref r))) (S : SiteS own idx y bytes maxL ret' n) (hP : P H) (hz : ls.size = nL) (hn : As.length = n) (hR : RM f lo maxL R) (hst : st = As.reverse ++ rest) (hw : (rest.map fun v => v.category).sum ≤ 8) (hf : cells + 0 ≤ R.cells ∧ slots + 0 ≤ R.slots) (d : decode cc pc = .ok (.invokestatic idx, 3)) (k : W p l e R s m args below meth c H locs cells slots Q (F0 m (pc + 3) ls (.ref r :: rest))) : W p l e R s m args below meth c H locs cells slots Q (F0 m pc ls st) := r_sP C hM S hP hz hn hR hst hw hf d k
theorem r_sPn (C : Cx p s m args meth c cc nL own ret x g) (hM : CP l y bytes maxL ret' f lo g As P none) (S : SiteS own idx y bytes maxL ret' n) (hP : P H) (hz : ls.size = nL) (hn : As.length = n) (hR : RM f lo maxL R) (hst : st = As.reverse ++ rest) (hw : (rest.map fun v => v.category).sum ≤ 8) (hf : cells + 0 ≤ R.cells ∧ slots + 0 ≤ R.slots) (d : decode cc pc = .ok (.invokestatic idx, 3)) (k : W p l e R s m args below meth c H locs cells slots Q (F0 m (pc + 3) ls rest)) : W p l e R s m args below meth c H locs cells slots Q (F0 m pc ls st) := r_sP C hM S hP hz hn hR hst hw hf d k
theorem r_sHi {r : Int32} (C : Cx p s m args meth c cc nL own ret x g) (hM : CH l y bytes maxL ret' f lo g As P (some (.int r)) A' P') (S : SiteS own idx y bytes maxL ret' n) (hP : P H) (hF : Fr A H0 H locs) (hA : ∀ q, A' q → A q) (hz : ls.size = nL) (hn : As.length = n) (hR : RM f lo maxL R) (hst : st = As.reverse ++ rest) (hw : (rest.map fun v => v.category).sum ≤ 8) (hf : cells + 0 ≤ R.cells ∧ slots + 0 ≤ R.slots) (d : decode cc pc = .ok (.invokestatic idx, 3)) (k : ∀ (H1 : Heap) (locs1 : List Loc), P' H1 → (∀ q : Nat, ¬ A' q → H1[q]? = H[q]?) → H1.size = H.size → Fr A H0 H1 locs1 → W p l e R s m args below meth c H1 locs1 cells slots Q (F0 m (pc + 3) ls (.int r :: rest))) : W p l e R s m args below meth c H locs cells slots Q (F0 m pc ls st) := r_sH C hM S hP hF hA hz hn hR hst hw hf d k
theorem r_sHl {r : Int64} (C : Cx p s m args meth c cc nL own ret x g) (hM : CH l y bytes maxL ret' f lo g As P (some (.long r)) A' P') (S : SiteS own idx y bytes maxL ret' n) (hP : P H) (hF : Fr A H0 H locs) (hA : ∀ q, A' q → A q) (hz : ls.size = nL) (hn : As.length = n) (hR : RM f lo maxL R) (hst : st = As.reverse ++ rest) (hw : (rest.map fun v => v.category).sum ≤ 8) (hf : cells + 0 ≤ R.cells ∧ slots + 0 ≤ R.slots) (d : decode cc pc = .ok (.invokestatic idx, 3)) (k : ∀ (H1 : Heap) (locs1 : List Loc), P' H1 → (∀ q : Nat, ¬ A' q → H1[q]? = H[q]?) → H1.size = H.size → Fr A H0 H1 locs1 → W p l e R s m args below meth c H1 locs1 cells slots Q (F0 m (pc + 3) ls (.long r :: rest))) : W p l e R s m args below meth c H locs cells slots Q (F0 m pc ls st) := r_sH C hM S hP hF hA hz hn hR hst hw hf d k
theorem r_sHr {r : Nat} (C : Cx p s m args meth c cc nL own ret x g) (hM : CH l y bytes maxL ret' f lo g As P (some (.ref r)) A' P') (S : SiteS own idx y bytes maxL ret' n) (hP : P H) (hF : Fr A H0 H locs) (hA : ∀ q, A' q → A q) (hz : ls.size = nL) (hn : As.length = n) (hR : RM f lo maxL R) (hst : st = As.reverse ++ rest) (hw : (rest.map fun v => v.category).sum ≤ 8) (hf : cells + 0 ≤ R.cells ∧ slots + 0 ≤ R.slots) (d : decode cc pc = .ok (.invokestatic idx, 3)) (k : ∀ (H1 : Heap) (locs1 : List Loc), P' H1 → (∀ q : Nat, ¬ A' q → H1[q]? = H[q]?) → H1.size = H.size → Fr A H0 H1 locs1 → W p l e R s m args below meth c H1 locs1 cells slots Q (F0 m (pc + 3) ls (.ref r :: rest))) : W p l e R s m args below meth c H locs cells slots Q (F0 m pc ls st) := r_sH C hM S hP hF hA hz hn hR hst hw hf d k
theorem r_sHn (C : Cx p s m args meth c cc nL own ret x g) (hM : CH l y bytes maxL ret' f lo g As P none A' P') (S : SiteS own idx y bytes maxL ret' n) (hP : P H) (hF : Fr A H0 H locs) (hA : ∀ q, A' q → A q) (hz : ls.size = nL) (hn : As.length = n) (hR : RM f lo maxL R) (hst : st = As.reverse ++ rest) (hw : (rest.map fun v => v.category).sum ≤ 8) (hf : cells + 0 ≤ R.cells ∧ slots + 0 ≤ R.slots) (d : decode cc pc = .ok (.invokestatic idx, 3)) (k : ∀ (H1 : Heap) (locs1 : List Loc), P' H1 → (∀ q : Nat, ¬ A' q → H1[q]? = H[q]?) → H1.size = H.size → Fr A H0 H1 locs1 → W p l e R s m args below meth c H1 locs1 cells slots Q (F0 m (pc + 3) ls rest)) : W p l e R s m args below meth c H locs cells slots Q (F0 m pc ls st) := r_sH C hM S hP hF hA hz hn hR hst hw hf d k
theorem nar_pI (P : Prop) [Decidable P] : narrow .boolean (.int (iI (pI P))) = .int (iI (pI P)) := by
  unfold pI
  split <;> rfl
end CALLS

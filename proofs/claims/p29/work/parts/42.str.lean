theorem s_RJ0_335 : SiteV "java/lang/String" 335 "java/lang/String" yJ0_coder_7d493 cJ0_coder_7d493 1 (some .byte) 0 := ⟨⟨q_184, q_185, q_186, q_40, q_187⟩, rfl, by decide, by decide, by decide +kernel⟩
theorem s_RJ0_492 : SiteV "java/lang/String" 492 "java/lang/String" yJ0_isLatin1_aae02 cJ0_isLatin1_aae02 1 (some .boolean) 0 := ⟨⟨q_194, q_195, q_196, q_40, q_197⟩, rfl, by decide, by decide, by decide +kernel⟩
theorem s_RJ0_495 : SiteS "java/lang/String" 495 yJ1_charAt_3b067 cJ1_charAt_3b067 2 (some .char) 2 := ⟨⟨q_198, q_199, q_41, q_200⟩, by decide, by decide, by decide +kernel⟩
theorem s_RJ1_9 : SiteS "java/lang/StringLatin1" 9 yJ0_checkIndex_df160 cJ0_checkIndex_df160 2 none 2 := ⟨⟨q_201, q_202, q_40, q_203⟩, by decide, by decide, by decide +kernel⟩
theorem s_RJ0_1059 : SiteS "java/lang/String" 1059 yJ3_checkIndex_8e157 cJ3_checkIndex_8e157 3 (some .int) 3 := ⟨⟨q_206, q_207, q_42, q_208⟩, by decide, by decide, by decide +kernel⟩
/-! ===== the JDK's methods on the literals ===== -/
theorem Cx.w {p : Program} {s : State} {m : MethodId} {args : Array Value} {meth : Method} {c : Code} {cc : ByteArray} {nL : Nat} {own : String} {ret : Option FieldType} {x : Cond} {g : Gt} (C : Cx p s m args meth c cc nL own ret x g) {w : Cond} (h : w ∈ AL) : w.before args s = true := C.2.2.2.2.1 _ (List.mem_cons_of_mem _ h)
section STRS
variable {p : Program} {l : Launch} {e : Env} {R : Room} {s : State} {m : MethodId} {args : Array Value} {below : List Frame} {meth : Method} {c : Code} {H : Heap} {locs : List Loc} {cells slots : Nat} {Q : State → Prop}
variable {cc : ByteArray} {nL : Nat} {own : String} {ret : Option FieldType} {x : Cond} {g : Gt} {k : Kt} {pc : Nat} {ls : Array Slot} {rest st : List Value}
theorem r_ldcX (C : Cx p s m args meth c cc nL own ret x g) (K : SK k s s.heap) (hown : own = "LentRoom$Text") (i : Nat) (hi : i < 6) {idx : Nat} (hx : sxI i = idx) (d : decode cc pc = .ok (.ldc idx, 2)) (kk : W p l e R s m args below meth c H locs cells slots Q (F0 m (pc + 2) ls (.ref (k.2.1 i) :: rest))) : W p l e R s m args below meth c H locs cells slots Q (F0 m pc ls rest) := by
  subst hown hx
  exact va_ldcS C.1 C.2.1 C.2.2.2.1 (K.1.1 i hi) d kk
theorem r_aretP (C : Cx p s m args meth c cc nL own ret x g) {v r : Nat} {n : String} (hret : ret = some (.object n)) (hv : v = r) (d : decode cc pc = .ok (.areturn, 1)) : W p l e R s m args below meth c s.heap [] 0 0 (MQ below (PQ (some (.ref r))) args s 0 0 (fun _ => False)) (F0 m pc ls [.ref v]) := by
  subst hv
  have hl : meth.locks = false := C.2.2.2.2.2.2.1
  exact W.aret C.1 C.2.1 (C.2.2.2.2.2.1.trans hret) (Or.inl ⟨n, rfl⟩) (Or.inr ⟨_, rfl⟩) (fun t ht _ => ⟨rfl, ht⟩) (fun q hq => by cases hq) d hl
theorem r_vretP (C : Cx p s m args meth c cc nL own ret x g) (hret : ret = none) (d : decode cc pc = .ok (.return_, 1)) : W p l e R s m args below meth c s.heap [] 0 0 (MQ below (PQ none) args s 0 0 (fun _ => False)) (F0 m pc ls []) := by
  have hl : meth.locks = false := C.2.2.2.2.2.2.1
  exact W.vret C.1 C.2.1 (C.2.2.2.2.2.1.trans hret) (fun t ht _ => ⟨rfl, ht⟩) (fun q hq => by cases hq) d hl
theorem r_getc (C : Cx p s m args meth c cc nL "java/lang/String" ret x g) (K : SK k s s.heap) (i : Nat) (hi : i < 6) (d : decode cc pc = .ok (.getfield 15, 3)) (kk : W p l e R s m args below meth c s.heap [] cells slots Q (F0 m (pc + 3) ls (.int (iI 0) :: rest))) : W p l e R s m args below meth c s.heap [] cells slots Q (F0 m pc ls (.ref (k.2.1 i) :: rest)) :=
  vk_getf C.1 C.2.1 (K.2.1.1 i hi).2.1 va_S.rf C.2.2.2.1 (C.w q_1082) (fun _ h => h) d kk
theorem r_getv (C : Cx p s m args meth c cc nL "java/lang/String" ret x g) (K : SK k s s.heap) (i : Nat) (hi : i < 6) (d : decode cc pc = .ok (.getfield 9, 3)) (kk : W p l e R s m args below meth c s.heap [] cells slots Q (F0 m (pc + 3) ls (.ref (k.2.2 i) :: rest))) : W p l e R s m args below meth c s.heap [] cells slots Q (F0 m pc ls (.ref (k.2.1 i) :: rest)) :=
  vk_getf C.1 C.2.1 (K.2.1.1 i hi).2.2.1 va_S.rf C.2.2.2.1 (C.w q_1081) (fun _ h => h) d kk
theorem r_lenB (C : Cx p s m args meth c cc nL own ret x g) (K : SK k s s.heap) (i : Nat) (hi : i < 6) (d : decode cc pc = .ok (.arraylength, 1)) (kk : W p l e R s m args below meth c s.heap [] cells slots Q (F0 m (pc + 1) ls (.int (iI ((sxL.getD i 0 : Nat) : Int)) :: rest))) : W p l e R s m args below meth c s.heap [] cells slots Q (F0 m pc ls (.ref (k.2.2 i) :: rest)) :=
  va_tlen C.1 C.2.1 (K.2.1.1 i hi).2.2.2 va_S.rf rfl d kk
theorem r_cmps (C : Cx p s m args meth c cc nL "java/lang/String" ret x g) (K : SK k s s.heap) (d : decode cc pc = .ok (.getstatic 38, 3)) (kk : W p l e R s m args below meth c s.heap [] cells slots Q (F0 m (pc + 3) ls (.int (iI 1) :: rest))) : W p l e R s m args below meth c s.heap [] cells slots Q (F0 m pc ls rest) :=
  va_gets C.1 C.2.1 K.2.2.2.2.1 va_S.rf C.2.2.2.1 (C.w q_188) (fun _ h => h) d kk
theorem sk_recv (C : Cx p s m args meth c cc nL own ret x g) (K : SK k s H) (i : Nat) (hi : i < 6) : ∃ cell : Cell, H[k.2.1 i]? = some cell ∧ cell.vm.isStatics = false ∧ s.vm.findClass "java/lang/String" = some cell.cls := by
  obtain ⟨cell, h1, h2, h3, -⟩ := (K.2.1.1 i hi).1
  exact ⟨cell, h1, h2, h3⟩
end STRS
set_option maxHeartbeats 4000000 in
theorem k_J0_coder (l : Launch) (g : Gt) (k : Kt) (i : Nat) (hi : i < 6) : CK l yJ0_coder_7d493 cJ0_coder_7d493 1 (some .byte) 0 0 g k [.ref (k.2.1 i)] (fun _ => True) (some (.int (iI 0))) := by
  refine ck_of "java/lang/String" (by decide) rfl (Nat.le_of_ble_eq_true rfl) ?_
  intro zp ze zs zm za zb zt zc ls C K hP hl
  have hl : lv_has ls 1 [(0, .ref (k.2.1 i))] := hl
  refine r_cmps C K dJ0_coder_7d493_0 ?_
  refine r_if_eq (tgt := 13) C (by decide) (by decide) dJ0_coder_7d493_3 (fun h => absurd h (by decide)) (fun _ => ?_)
  refine r_aload_n C rfl (lv_at hl 0 rfl) dJ0_coder_7d493_6 ?_
  refine r_getc C K i hi dJ0_coder_7d493_7 ?_
  refine r_goto (tgt := 14) C (by decide) dJ0_coder_7d493_10 ?_
  exact r_iretP C rfl rfl rfl dJ0_coder_7d493_14
set_option maxHeartbeats 4000000 in
theorem k_J0_isLatin1 (l : Launch) (g : Gt) (k : Kt) (i : Nat) (hi : i < 6) : CK l yJ0_isLatin1_aae02 cJ0_isLatin1_aae02 1 (some .boolean) 0 0 g k [.ref (k.2.1 i)] (fun _ => True) (some (.int (iI 1))) := by
  refine ck_of "java/lang/String" (by decide) rfl (Nat.le_of_ble_eq_true rfl) ?_
  intro zp ze zs zm za zb zt zc ls C K hP hl
  have hl : lv_has ls 1 [(0, .ref (k.2.1 i))] := hl
  refine r_cmps C K dJ0_isLatin1_aae02_0 ?_
  refine r_if_eq (tgt := 17) C (by decide) (by decide) dJ0_isLatin1_aae02_3 (fun h => absurd h (by decide)) (fun _ => ?_)
  refine r_aload_n C rfl (lv_at hl 0 rfl) dJ0_isLatin1_aae02_6 ?_
  refine r_getc C K i hi dJ0_isLatin1_aae02_7 ?_
  refine r_if_ne (tgt := 17) C (by decide) (by decide) dJ0_isLatin1_aae02_10 (fun h => absurd rfl h) (fun _ => ?_)
  refine r_iconst C dJ0_isLatin1_aae02_13 ?_
  refine r_goto (tgt := 18) C (by decide) dJ0_isLatin1_aae02_14 ?_
  exact r_iretP C rfl rfl rfl dJ0_isLatin1_aae02_18
set_option maxHeartbeats 4000000 in
theorem k_J0_length (l : Launch) (g : Gt) (k : Kt) (i : Nat) (hi : i < 6) : CK l yJ0_length_8abf5 cJ0_length_8abf5 1 (some .int) 1 20 g k [.ref (k.2.1 i)] (fun _ => True) (some (.int (iI ((sxL.getD i 0 : Nat) : Int)))) := by
  refine ck_of "java/lang/String" (by decide) rfl (Nat.le_of_ble_eq_true rfl) ?_
  intro zp ze zs zm za zb zt zc ls C K hP hl
  have hl : lv_has ls 1 [(0, .ref (k.2.1 i))] := hl
  refine r_aload_n C rfl (lv_at hl 0 rfl) dJ0_length_8abf5_0 ?_
  refine r_getv C K i hi dJ0_length_8abf5_1 ?_
  refine r_lenB C K i hi dJ0_length_8abf5_4 ?_
  refine r_aload_n C rfl (lv_at hl 0 rfl) dJ0_length_8abf5_5 ?_
  refine r_vKi (rest := [.int (iI ((sxL.getD i 0 : Nat) : Int))]) C K (k_J0_coder l g k i hi) s_RJ0_335 trivial (sk_recv C K i hi) hl.1 rfl ⟨by decide, by decide⟩ rfl (Nat.le_of_ble_eq_true rfl) ⟨Nat.le_refl 0, Nat.le_refl 0⟩ dJ0_length_8abf5_6 ?_
  refine lv_ishr C.1 C.2.1 dJ0_length_8abf5_9 ?_
  exact r_iretP C rfl rfl (by rcases (by omega : i = 0 ∨ i = 1 ∨ i = 2 ∨ i = 3 ∨ i = 4 ∨ i = 5) with h | h | h | h | h | h <;> subst h <;> decide) dJ0_length_8abf5_10
set_option maxHeartbeats 4000000 in
theorem k_J0_isEmpty (l : Launch) (g : Gt) (k : Kt) (i : Nat) (hi : i < 6) : CK l yJ0_isEmpty_aae02 cJ0_isEmpty_aae02 1 (some .boolean) 0 0 g k [.ref (k.2.1 i)] (fun _ => True) (some (.int (iI (pI (sxL.getD i 0 = 0))))) := by
  refine ck_of "java/lang/String" (by decide) rfl (Nat.le_of_ble_eq_true rfl) ?_
  intro zp ze zs zm za zb zt zc ls C K hP hl
  have hl : lv_has ls 1 [(0, .ref (k.2.1 i))] := hl
  have hb : sxL.getD i 0 ≤ 5 := (by rcases (by omega : i = 0 ∨ i = 1 ∨ i = 2 ∨ i = 3 ∨ i = 4 ∨ i = 5) with h | h | h | h | h | h <;> subst h <;> decide)
  refine r_aload_n C rfl (lv_at hl 0 rfl) dJ0_isEmpty_aae02_0 ?_
  refine r_getv C K i hi dJ0_isEmpty_aae02_1 ?_
  refine r_lenB C K i hi dJ0_isEmpty_aae02_4 ?_
  refine r_if_ne (tgt := 12) C (by decide) (by omega) dJ0_isEmpty_aae02_5 (fun h => ?_) (fun h => ?_)
  · refine r_iconst C dJ0_isEmpty_aae02_12 ?_
    exact r_iretP C rfl rfl (congrArg iI (pI_f (by omega)).symm) dJ0_isEmpty_aae02_13
  · refine r_iconst C dJ0_isEmpty_aae02_8 ?_
    refine r_goto (tgt := 13) C (by decide) dJ0_isEmpty_aae02_9 ?_
    exact r_iretP C rfl rfl (congrArg iI (pI_t (by omega)).symm) dJ0_isEmpty_aae02_13
set_option maxHeartbeats 4000000 in
theorem k_J3_checkIndex (l : Launch) (g : Gt) (k : Kt) (j n : Nat) (hj : j < n) (hn : n < 1000) (w : Value) (hw : w = .null ∨ ∃ t, w = .ref t) : CK l yJ3_checkIndex_8e157 cJ3_checkIndex_8e157 3 (some .int) 0 0 g k [.int (iI (j : Int)), .int (iI (n : Int)), w] (fun _ => True) (some (.int (iI (j : Int)))) := by
  refine ck_of "jdk/internal/util/Preconditions" (by decide) rfl (by rcases hw with rfl | ⟨t, rfl⟩ <;> exact Nat.le_of_ble_eq_true rfl) ?_
  intro zp ze zs zm za zb zt zc ls C K hP hl
  have hl : lv_has ls 3 [(0, .int (iI (j : Int))), (1, .int (iI (n : Int)))] := (by rcases hw with rfl | ⟨t, rfl⟩ <;> exact lv_sub hl [0, 1] rfl)
  refine r_iload_n C rfl (lv_at hl 0 rfl) dJ3_checkIndex_8e157_0 ?_
  refine r_if_lt (tgt := 9) C (by decide) (by omega) dJ3_checkIndex_8e157_1 (fun h => by omega) (fun _ => ?_)
  refine r_iload_n C rfl (lv_at hl 0 rfl) dJ3_checkIndex_8e157_4 ?_
  refine r_iload_n C rfl (lv_at hl 1 rfl) dJ3_checkIndex_8e157_5 ?_
  refine r_icmp_lt (tgt := 16) C (by decide) (by omega) (by omega) dJ3_checkIndex_8e157_6 (fun _ => ?_) (fun h => by omega)
  refine r_iload_n C rfl (lv_at hl 0 rfl) dJ3_checkIndex_8e157_16 ?_
  exact r_iretP C rfl rfl rfl dJ3_checkIndex_8e157_17
set_option maxHeartbeats 4000000 in
theorem k_J0_checkIndex (l : Launch) (g : Gt) (k : Kt) (j n : Nat) (hj : j < n) (hn : n < 1000) : CK l yJ0_checkIndex_df160 cJ0_checkIndex_df160 2 none 1 22 g k [.int (iI (j : Int)), .int (iI (n : Int))] (fun _ => True) none := by
  refine ck_of "java/lang/String" (by decide) rfl (Nat.le_of_ble_eq_true rfl) ?_
  intro zp ze zs zm za zb zt zc ls C K hP hl
  have hl : lv_has ls 2 [(0, .int (iI (j : Int))), (1, .int (iI (n : Int)))] := hl
  refine r_iload_n C rfl (lv_at hl 0 rfl) dJ0_checkIndex_df160_0 ?_
  refine r_iload_n C rfl (lv_at hl 1 rfl) dJ0_checkIndex_df160_1 ?_
  rcases K.2.2.2.2.2 with hz | ⟨t, hz⟩
  · refine va_gets C.1 C.2.1 hz va_S.rf C.2.2.2.1 (C.w q_204) (fun _ h => h) dJ0_checkIndex_df160_2 ?_
    refine r_sKi (rest := []) C K (k_J3_checkIndex l g k j n hj hn .null (Or.inl rfl)) s_RJ0_1059 trivial hl.1 rfl ⟨by decide, by decide⟩ rfl (Nat.le_of_ble_eq_true rfl) ⟨Nat.le_refl 0, Nat.le_refl 0⟩ dJ0_checkIndex_df160_5 ?_
    refine r_pop C rfl dJ0_checkIndex_df160_8 ?_
    exact r_vretP C rfl dJ0_checkIndex_df160_9
  · refine va_gets C.1 C.2.1 hz va_S.rf C.2.2.2.1 (C.w q_204) (fun _ h => h) dJ0_checkIndex_df160_2 ?_
    refine r_sKi (rest := []) C K (k_J3_checkIndex l g k j n hj hn (.ref t) (Or.inr ⟨t, rfl⟩)) s_RJ0_1059 trivial hl.1 rfl ⟨by decide, by decide⟩ rfl (Nat.le_of_ble_eq_true rfl) ⟨Nat.le_refl 0, Nat.le_refl 0⟩ dJ0_checkIndex_df160_5 ?_
    refine r_pop C rfl dJ0_checkIndex_df160_8 ?_
    exact r_vretP C rfl dJ0_checkIndex_df160_9
/-- the sign at j of the literal i -/
def sxC (i j : Nat) : Int := (((sxB.getD i []).getD j 0).toInt)
theorem sx_len : ∀ i, i < 6 → sxL.getD i 0 ≤ 5 := by decide
theorem sx_c (i : Nat) (hi : i < 6) (j : Nat) (hj : j < sxL.getD i 0) : ((((sxB.getD i []).getD j 0) &&& iI 255).toUInt32 % 65536).toInt32 = iI (sxC i j) ∧ narrow .char (.int (iI (sxC i j))) = .int (iI (sxC i j)) ∧ narrow .char (.int ((((sxB.getD i []).getD j 0) &&& iI 255).toUInt32 % 65536).toInt32) = .int (iI (sxC i j)) ∧ 0 ≤ sxC i j ∧ sxC i j ≤ 127 := by
  have h5 := sx_len i hi
  have key : ∀ i : Nat, i < 6 → ∀ j : Nat, j < 5 → j < sxL.getD i 0 → ((((sxB.getD i []).getD j 0) &&& iI 255).toUInt32 % 65536).toInt32 = iI (sxC i j) ∧ 0 ≤ sxC i j ∧ sxC i j ≤ 127 := by decide
  obtain ⟨h1, h2, h3⟩ := key i hi j (by omega) hj
  exact ⟨h1, nar_ch ⟨h2, by omega⟩, by rw [h1]; exact nar_ch ⟨h2, by omega⟩, h2, h3⟩
set_option maxHeartbeats 4000000 in
theorem k_J1_charAt (l : Launch) (g : Gt) (k : Kt) (i : Nat) (hi : i < 6) (j : Nat) (hj : j < sxL.getD i 0) : CK l yJ1_charAt_3b067 cJ1_charAt_3b067 2 (some .char) 2 43 g k [.ref (k.2.2 i), .int (iI (j : Int))] (fun _ => True) (some (.int (iI (sxC i j)))) := by
  refine ck_of "java/lang/StringLatin1" (by decide) rfl (Nat.le_of_ble_eq_true rfl) ?_
  intro zp ze zs zm za zb zt zc ls C K hP hl
  have hl : lv_has ls 2 [(0, .ref (k.2.2 i)), (1, .int (iI (j : Int)))] := hl
  have h5 := sx_len i hi
  refine r_iload_n C rfl (lv_at hl 1 rfl) dJ1_charAt_3b067_0 ?_
  refine r_aload_n C rfl (lv_at hl 0 rfl) dJ1_charAt_3b067_1 ?_
  refine r_lenB C K i hi dJ1_charAt_3b067_2 ?_
  refine r_sKn (rest := []) C K (k_J0_checkIndex l g k j _ hj (by omega)) s_RJ1_9 trivial hl.1 rfl ⟨by decide, by decide⟩ rfl (Nat.le_of_ble_eq_true rfl) ⟨Nat.le_refl 0, Nat.le_refl 0⟩ dJ1_charAt_3b067_3 ?_
  refine r_aload_n C rfl (lv_at hl 0 rfl) dJ1_charAt_3b067_6 ?_
  refine r_iload_n C rfl (lv_at hl 1 rfl) dJ1_charAt_3b067_7 ?_
  refine va_tb C.1 C.2.1 (K.2.1.1 i hi).2.2.2 va_S.rf (iI_in hj (by omega)) (v := .int ((sxB.getD i []).getD j 0)) (by rw [iI_nat (by omega)]) dJ1_charAt_3b067_8 ?_
  refine r_sipush C (by decide) dJ1_charAt_3b067_9 ?_
  refine lv_iand C.1 C.2.1 dJ1_charAt_3b067_12 ?_
  refine lv_i2c C.1 C.2.1 dJ1_charAt_3b067_13 (sx_c i hi j hj).1 ?_
  exact r_iretP C rfl (sx_c i hi j hj).2.1 rfl dJ1_charAt_3b067_14
set_option maxHeartbeats 4000000 in
theorem k_J0_charAt (l : Launch) (g : Gt) (k : Kt) (i : Nat) (hi : i < 6) (j : Nat) (hj : j < sxL.getD i 0) : CK l yJ0_charAt_5068e cJ0_charAt_5068e 2 (some .char) 3 64 g k [.ref (k.2.1 i), .int (iI (j : Int))] (fun _ => True) (some (.int (iI (sxC i j)))) := by
  refine ck_of "java/lang/String" (by decide) rfl (Nat.le_of_ble_eq_true rfl) ?_
  intro zp ze zs zm za zb zt zc ls C K hP hl
  have hl : lv_has ls 2 [(0, .ref (k.2.1 i)), (1, .int (iI (j : Int)))] := hl
  refine r_aload_n C rfl (lv_at hl 0 rfl) dJ0_charAt_5068e_0 ?_
  refine r_vKi (rest := []) C K (k_J0_isLatin1 l g k i hi) s_RJ0_492 trivial (sk_recv C K i hi) hl.1 rfl ⟨by decide, by decide⟩ rfl (Nat.le_of_ble_eq_true rfl) ⟨Nat.le_refl 0, Nat.le_refl 0⟩ dJ0_charAt_5068e_1 ?_
  refine r_if_eq (tgt := 16) C (by decide) (by decide) dJ0_charAt_5068e_4 (fun h => absurd h (by decide)) (fun _ => ?_)
  refine r_aload_n C rfl (lv_at hl 0 rfl) dJ0_charAt_5068e_7 ?_
  refine r_getv C K i hi dJ0_charAt_5068e_8 ?_
  refine r_iload_n C rfl (lv_at hl 1 rfl) dJ0_charAt_5068e_11 ?_
  refine r_sKi (rest := []) C K (k_J1_charAt l g k i hi j hj) s_RJ0_495 trivial hl.1 rfl ⟨by decide, by decide⟩ rfl (Nat.le_of_ble_eq_true rfl) ⟨Nat.le_refl 0, Nat.le_refl 0⟩ dJ0_charAt_5068e_12 ?_
  exact r_iretP C rfl (sx_c i hi j hj).2.1 rfl dJ0_charAt_5068e_15

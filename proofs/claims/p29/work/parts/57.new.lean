theorem hq_step {i j d : Nat} : (if j = i then some (d + 2 + 20 * i) else if j < i then some (d + 2 + 20 * j) else none) = (if j < i + 1 then some (d + 2 + 20 * j) else none) := by
  by_cases e1 : j = i
  · rw [if_pos e1, if_pos (by omega), e1]
  · rw [if_neg e1]
    by_cases e2 : j < i
    · rw [if_pos e2, if_pos (by omega)]
    · rw [if_neg e2, if_neg (by omega)]
theorem fm_step {g : Gt} {b i : Nat} {F : Nat → Int} {H : Heap} (h1 : fmAt g b i (fun _ => F) H) (h2 : dvAt g (b + 20 * i) F H) : fmAt g b (i + 1) (fun _ => F) H := fun j hj => by
  by_cases e : j = i
  · rw [e]
    exact h2
  · exact h1 j (by omega)
section NEWROWS
variable {p : Program} {l : Launch} {e : Env} {R : Room} {s : State} {m : MethodId} {args : Array Value} {below : List Frame} {meth : Method} {c : Code} {H : Heap} {locs : List Loc} {cells slots : Nat} {Q : State → Prop}
variable {cc : ByteArray} {nL : Nat} {own : String} {ret : Option FieldType} {x : Cond} {g : Gt} {k : Kt} {pc : Nat} {ls : Array Slot} {rest st : List Value} {lo n : Nat} {H0 : Heap}
variable {y : MethodName} {bytes : ByteArray} {maxL idx f lo9 nc ns d : Nat} {P P' : Heap → Prop}
theorem cr_N {a : Array Value} {j : JFrame} (hr : va_Run p l e R s m args below meth c H locs cells slots nc ns j rest (NQ d (nc + 1) P' a) (fun q => d ≤ q)) (kk : ∀ (H1 : Heap) (L : List Loc), P' H1 → (∀ q : Nat, q < d → H1[q]? = H[q]?) → H1.size = d + (nc + 1) → (∀ y ∈ L, d ≤ y.base) → W p l e R s m args below meth c H1 (locs ++ L) (cells + nc) (slots + ns) Q { j with pc := j.pc + 3, stack := rest }) : W p l e R s m args below meth c H locs cells slots Q j := by
  intro T hT X
  obtain ⟨v', st₀, t, T', L, h0, X', hL, e1, -, ⟨hv, hp, hz, hk⟩, st⟩ := hr T hT X
  cases hv
  subst h0
  obtain ⟨t2, a1, b1⟩ := kk t.heap L hp hk hz hL T' e1 X'
  exact ⟨t2, st t2 a1, b1⟩
def SiteI (y : MethodName) (bytes : ByteArray) (maxL : Nat) : Prop := (Cond.instanceMethod y ∈ AL ∧ Cond.initialized y.cls ∈ AL ∧ Cond.code y bytes maxL none ∈ AL) ∧ y.name = "<init>" ∧ (y.cls ≠ "java/lang/invoke/MethodHandle" ∧ y.cls ≠ "java/lang/invoke/VarHandle" ∧ (parseMethodDescriptor y.desc).map (fun d => d.parameters.length) = some 0)
theorem pcn_pre (C : Cx p s m args meth c cc nL own ret x g) (K : SK k s H) (G : Gf lo n H0 H locs) (hd : lo + n = d + 1) (hP : P H) : ∀ U : State, U.heap = H → s.WarmedH U.vm → Pck [.ref d] (fun H => P H ∧ H.size = d + 1) g k [Value.ref d].toArray U := pck_pre C K (P := fun H => P H ∧ H.size = d + 1) ⟨hP, G.1.trans hd⟩
/-- a constructor of a nest mate -/
theorem r_nest (C : Cx p s m args meth c cc nL own ret x g) (K : SK k s H) (G : Gf lo n H0 H locs) (hd : lo + n = d + 1) (hlo : lo ≤ d) (hM : CN l y bytes maxL f lo9 nc ns g k d P P') (S : SiteI y bytes maxL) (hne : (own, idx, y) ∈ neW) (hP : P H) (hz : ls.size = nL) (hR : RM f lo9 maxL R) (hw : (rest.map fun v => v.category).sum ≤ 8) (hf : cells + nc ≤ R.cells ∧ slots + ns ≤ R.slots) (dd : decode cc pc = .ok (.invokespecial idx, 3)) (kk : ∀ (H1 : Heap) (locs1 : List Loc), P' H1 → (∀ q : Nat, q < d → H1[q]? = H[q]?) → Gf lo (n + nc) H0 H1 locs1 → W p l e R s m args below meth c H1 locs1 (cells + nc) (slots + ns) Q (F0 m (pc + 3) ls rest)) : W p l e R s m args below meth c H locs cells slots Q (F0 m pc ls (.ref d :: rest)) := by
  have hts := C.2.2.2.2.1
  obtain ⟨⟨h1, h2, h3⟩, h4, h5⟩ := S
  have hl : va_Nw (.methodLinkNest own idx y "LentRoom") s := K.1.2.2.2.2.1 _ hne
  refine cr_N (va_runIN (n := 0) (As := []) (rest := rest) (b := d) ⟨C.1, C.2.1, C.2.2.1, C.2.2.2.1, C.2.2.2.2.1⟩ hM ⟨va_cnB 0 hts (good_ws h3) rfl rfl rfl hl (al_ok C h2) h5 hR, h4, al_ok C h1⟩ ⟨pck_blind, pcn_pre C K G hd hP⟩ rfl rfl hz rfl (lv_room hw) dd hf) (fun H1 L g1 g2 g3 g4 => kk H1 _ g1 g2 (G.grow hlo (by omega) g2 g4))
/-- a public one -/
theorem r_init (C : Cx p s m args meth c cc nL own ret x g) (K : SK k s H) (G : Gf lo n H0 H locs) (hd : lo + n = d + 1) (hlo : lo ≤ d) (hM : CN l y bytes maxL f lo9 nc ns g k d P P') (S : SiteI y bytes maxL) (hli : Cond.methodLink own idx y ∈ AL) (hP : P H) (hz : ls.size = nL) (hR : RM f lo9 maxL R) (hw : (rest.map fun v => v.category).sum ≤ 8) (hf : cells + nc ≤ R.cells ∧ slots + ns ≤ R.slots) (dd : decode cc pc = .ok (.invokespecial idx, 3)) (kk : ∀ (H1 : Heap) (locs1 : List Loc), P' H1 → (∀ q : Nat, q < d → H1[q]? = H[q]?) → Gf lo (n + nc) H0 H1 locs1 → W p l e R s m args below meth c H1 locs1 (cells + nc) (slots + ns) Q (F0 m (pc + 3) ls rest)) : W p l e R s m args below meth c H locs cells slots Q (F0 m pc ls (.ref d :: rest)) := by
  have hts := C.2.2.2.2.1
  obtain ⟨⟨h1, h2, h3⟩, h4, h5⟩ := S
  refine cr_N (va_runI (n := 0) (As := []) (rest := rest) (b := d) ⟨C.1, C.2.1, C.2.2.1, C.2.2.2.1, C.2.2.2.2.1⟩ hM ⟨callB_of 0 hts (good_ws h3) rfl rfl rfl (al_ok C h2) (al_ok C hli) h5 hR, h4, al_ok C h1⟩ ⟨pck_blind, pcn_pre C K G hd hP⟩ rfl rfl hz rfl (lv_room hw) dd hf) (fun H1 L g1 g2 g3 g4 => kk H1 _ g1 g2 (G.grow hlo (by omega) g2 g4))
theorem r_vretN (C : Cx p s m args meth c cc nL own ret x g) (hret : ret = none) (G : Gf d n s.heap H locs) (hn : n = nc + 1) (hP : P' H) (h1 : cells ≤ nc) (h2 : slots ≤ ns) (dd : decode cc pc = .ok (.return_, 1)) : W p l e R s m args below meth c H locs cells slots (MQ below (NQ d (nc + 1) P') args s nc ns (fun q => d ≤ q)) (F0 m pc ls []) := by
  subst hn
  have hl : meth.locks = false := C.2.2.2.2.2.2.1
  refine W.widen h1 h2 ?_
  exact W.vret C.1 C.2.1 (C.2.2.2.2.2.1.trans hret) (fun t ht _ => ⟨rfl, ht ▸ hP, by rw [ht]; exact G.1, fun q hq => by rw [ht]; exact G.2.1 q hq⟩) G.2.2 dd hl
end NEWROWS
theorem si_X0_init : SiteI yX0_init cX0_init 1 := ⟨⟨q_73, q_32, q_74⟩, rfl, by decide, by decide, by decide +kernel⟩
theorem si_X1_init : SiteI yX1_init cX1_init 2 := ⟨⟨q_121, q_33, q_122⟩, rfl, by decide, by decide, by decide +kernel⟩
theorem si_X2_init : SiteI yX2_init cX2_init 1 := ⟨⟨q_58, q_31, q_59⟩, rfl, by decide, by decide, by decide +kernel⟩
theorem si_X3_init : SiteI yX3_init cX3_init 2 := ⟨⟨q_50, q_30, q_51⟩, rfl, by decide, by decide, by decide +kernel⟩
set_option maxHeartbeats 4000000 in
theorem k_X0_init (l : Launch) (g : Gt) (k : Kt) (d : Nat) : CN l yX0_init cX0_init 1 1 12 19 270 g k d (oAt g d 0 [.int (iI 0), .int (iI 0), .null, .null, .null, .null, .null, .null, .null, .null, .null]) (dvAt g d z0) := by
  refine cn_of "LentRoom$Device" (by decide) rfl rfl (by decide) ?_
  intro zp ze s zm za zb zt zc ls C hin K9 ho hz G hl
  refine r_aload_n C rfl (lv_at hl 0 rfl) dX0_init_0 ?_
  refine r_oinit C q_75 hl.1 (by decide) (by decide) dX0_init_1 ?_
  refine r_aload_n C rfl (lv_at hl 0 rfl) dX0_init_4 ?_
  refine r_iconst C dX0_init_5 ?_
  refine r_newI C G 5 rfl (by decide) (Nat.le_of_ble_eq_true rfl) (Nat.le_of_ble_eq_true rfl) dX0_init_6 (fun H1 a1 o1 G1 => ?_)
  have ho := ho.kept (o1 _ (by omega))
  have G : Gf d 2 s.heap H1 _ := G1
  refine r_putF C hin G (ci := 0) rfl uin0 tyX0_ok nmX0 ho (by omega) 2 (by decide) q_81 rfl rfl (v := .ref (d + 1)) rfl rfl (Nat.le_of_ble_eq_true rfl) dX0_init_8 (fun H2 l2 ho9 o2 G2 => ?_)
  have ho : oAt g d 0 [.int (iI 0), .int (iI 0), .ref (d + 1), .null, .null, .null, .null, .null, .null, .null, .null] H2 := ho9
  have a1 := a1.kept (o2 _ (by omega))
  have G : Gf d 2 s.heap H2 l2 := G2
  refine r_aload_n C rfl (lv_at hl 0 rfl) dX0_init_11 ?_
  refine r_iconst C dX0_init_12 ?_
  refine r_newI C G 5 rfl (by decide) (Nat.le_of_ble_eq_true rfl) (Nat.le_of_ble_eq_true rfl) dX0_init_13 (fun H3 a2 o3 G3 => ?_)
  have ho := ho.kept (o3 _ (by omega))
  have a1 := a1.kept (o3 _ (by omega))
  have G : Gf d 3 s.heap H3 _ := G3
  refine r_putF C hin G (ci := 0) rfl uin0 tyX0_ok nmX0 ho (by omega) 3 (by decide) q_83 rfl rfl (v := .ref (d + 2)) rfl rfl (Nat.le_of_ble_eq_true rfl) dX0_init_15 (fun H4 l4 ho9 o4 G4 => ?_)
  have ho : oAt g d 0 [.int (iI 0), .int (iI 0), .ref (d + 1), .ref (d + 2), .null, .null, .null, .null, .null, .null, .null] H4 := ho9
  have a1 := a1.kept (o4 _ (by omega))
  have a2 := a2.kept (o4 _ (by omega))
  have G : Gf d 3 s.heap H4 l4 := G4
  refine r_aload_n C rfl (lv_at hl 0 rfl) dX0_init_18 ?_
  refine r_iconst C dX0_init_19 ?_
  refine r_newI C G 5 rfl (by decide) (Nat.le_of_ble_eq_true rfl) (Nat.le_of_ble_eq_true rfl) dX0_init_20 (fun H5 a3 o5 G5 => ?_)
  have ho := ho.kept (o5 _ (by omega))
  have a1 := a1.kept (o5 _ (by omega))
  have a2 := a2.kept (o5 _ (by omega))
  have G : Gf d 4 s.heap H5 _ := G5
  refine r_putF C hin G (ci := 0) rfl uin0 tyX0_ok nmX0 ho (by omega) 4 (by decide) q_85 rfl rfl (v := .ref (d + 3)) rfl rfl (Nat.le_of_ble_eq_true rfl) dX0_init_22 (fun H6 l6 ho9 o6 G6 => ?_)
  have ho : oAt g d 0 [.int (iI 0), .int (iI 0), .ref (d + 1), .ref (d + 2), .ref (d + 3), .null, .null, .null, .null, .null, .null] H6 := ho9
  have a1 := a1.kept (o6 _ (by omega))
  have a2 := a2.kept (o6 _ (by omega))
  have a3 := a3.kept (o6 _ (by omega))
  have G : Gf d 4 s.heap H6 l6 := G6
  refine r_aload_n C rfl (lv_at hl 0 rfl) dX0_init_25 ?_
  refine r_iconst C dX0_init_26 ?_
  refine r_newI C G 5 rfl (by decide) (Nat.le_of_ble_eq_true rfl) (Nat.le_of_ble_eq_true rfl) dX0_init_27 (fun H7 a4 o7 G7 => ?_)
  have ho := ho.kept (o7 _ (by omega))
  have a1 := a1.kept (o7 _ (by omega))
  have a2 := a2.kept (o7 _ (by omega))
  have a3 := a3.kept (o7 _ (by omega))
  have G : Gf d 5 s.heap H7 _ := G7
  refine r_putF C hin G (ci := 0) rfl uin0 tyX0_ok nmX0 ho (by omega) 5 (by decide) q_86 rfl rfl (v := .ref (d + 4)) rfl rfl (Nat.le_of_ble_eq_true rfl) dX0_init_29 (fun H8 l8 ho9 o8 G8 => ?_)
  have ho : oAt g d 0 [.int (iI 0), .int (iI 0), .ref (d + 1), .ref (d + 2), .ref (d + 3), .ref (d + 4), .null, .null, .null, .null, .null] H8 := ho9
  have a1 := a1.kept (o8 _ (by omega))
  have a2 := a2.kept (o8 _ (by omega))
  have a3 := a3.kept (o8 _ (by omega))
  have a4 := a4.kept (o8 _ (by omega))
  have G : Gf d 5 s.heap H8 l8 := G8
  refine r_aload_n C rfl (lv_at hl 0 rfl) dX0_init_32 ?_
  refine r_iconst C dX0_init_33 ?_
  refine r_iconst C dX0_init_34 ?_
  refine r_mna C K9.1 G q_76 5 5 rfl rfl (by decide) (Nat.le_of_ble_eq_true rfl) (Nat.le_of_ble_eq_true rfl) dX0_init_35 (fun H9 r5 ir5 o9 G9 => ?_)
  have ho := ho.kept (o9 _ (by omega))
  have a1 := a1.kept (o9 _ (by omega))
  have a2 := a2.kept (o9 _ (by omega))
  have a3 := a3.kept (o9 _ (by omega))
  have a4 := a4.kept (o9 _ (by omega))
  have G : Gf d 11 s.heap H9 _ := G9
  refine r_putF C hin G (ci := 0) rfl uin0 tyX0_ok nmX0 ho (by omega) 6 (by decide) q_87 rfl rfl (v := .ref (d + 5)) rfl rfl (Nat.le_of_ble_eq_true rfl) dX0_init_39 (fun H10 l10 ho9 o10 G10 => ?_)
  have ho : oAt g d 0 [.int (iI 0), .int (iI 0), .ref (d + 1), .ref (d + 2), .ref (d + 3), .ref (d + 4), .ref (d + 5), .null, .null, .null, .null] H10 := ho9
  have a1 := a1.kept (o10 _ (by omega))
  have a2 := a2.kept (o10 _ (by omega))
  have a3 := a3.kept (o10 _ (by omega))
  have a4 := a4.kept (o10 _ (by omega))
  have r5 := r5.kept (o10 _ (by omega))
  have ir5 := (fun (q : Nat) (hq : q < 5) => (ir5 q hq).kept (o10 _ (by omega)))
  have G : Gf d 11 s.heap H10 l10 := G10
  refine r_aload_n C rfl (lv_at hl 0 rfl) dX0_init_42 ?_
  refine r_iconst C dX0_init_43 ?_
  refine r_bipush C (by decide) dX0_init_44 ?_
  refine r_mna C K9.1 G q_76 5 40 rfl rfl (by decide) (Nat.le_of_ble_eq_true rfl) (Nat.le_of_ble_eq_true rfl) dX0_init_46 (fun H11 r11 ir11 o11 G11 => ?_)
  have ho := ho.kept (o11 _ (by omega))
  have a1 := a1.kept (o11 _ (by omega))
  have a2 := a2.kept (o11 _ (by omega))
  have a3 := a3.kept (o11 _ (by omega))
  have a4 := a4.kept (o11 _ (by omega))
  have r5 := r5.kept (o11 _ (by omega))
  have ir5 := (fun (q : Nat) (hq : q < 5) => (ir5 q hq).kept (o11 _ (by omega)))
  have G : Gf d 17 s.heap H11 _ := G11
  refine r_putF C hin G (ci := 0) rfl uin0 tyX0_ok nmX0 ho (by omega) 7 (by decide) q_89 rfl rfl (v := .ref (d + 11)) rfl rfl (Nat.le_of_ble_eq_true rfl) dX0_init_50 (fun H12 l12 ho9 o12 G12 => ?_)
  have ho : oAt g d 0 [.int (iI 0), .int (iI 0), .ref (d + 1), .ref (d + 2), .ref (d + 3), .ref (d + 4), .ref (d + 5), .ref (d + 11), .null, .null, .null] H12 := ho9
  have a1 := a1.kept (o12 _ (by omega))
  have a2 := a2.kept (o12 _ (by omega))
  have a3 := a3.kept (o12 _ (by omega))
  have a4 := a4.kept (o12 _ (by omega))
  have r5 := r5.kept (o12 _ (by omega))
  have ir5 := (fun (q : Nat) (hq : q < 5) => (ir5 q hq).kept (o12 _ (by omega)))
  have r11 := r11.kept (o12 _ (by omega))
  have ir11 := (fun (q : Nat) (hq : q < 5) => (ir11 q hq).kept (o12 _ (by omega)))
  have G : Gf d 17 s.heap H12 l12 := G12
  refine r_aload_n C rfl (lv_at hl 0 rfl) dX0_init_53 ?_
  refine r_iconst C dX0_init_54 ?_
  refine r_newI C G 5 rfl (by decide) (Nat.le_of_ble_eq_true rfl) (Nat.le_of_ble_eq_true rfl) dX0_init_55 (fun H13 a17 o13 G13 => ?_)
  have ho := ho.kept (o13 _ (by omega))
  have a1 := a1.kept (o13 _ (by omega))
  have a2 := a2.kept (o13 _ (by omega))
  have a3 := a3.kept (o13 _ (by omega))
  have a4 := a4.kept (o13 _ (by omega))
  have r5 := r5.kept (o13 _ (by omega))
  have ir5 := (fun (q : Nat) (hq : q < 5) => (ir5 q hq).kept (o13 _ (by omega)))
  have r11 := r11.kept (o13 _ (by omega))
  have ir11 := (fun (q : Nat) (hq : q < 5) => (ir11 q hq).kept (o13 _ (by omega)))
  have G : Gf d 18 s.heap H13 _ := G13
  refine r_putF C hin G (ci := 0) rfl uin0 tyX0_ok nmX0 ho (by omega) 8 (by decide) q_91 rfl rfl (v := .ref (d + 17)) rfl rfl (Nat.le_of_ble_eq_true rfl) dX0_init_57 (fun H14 l14 ho9 o14 G14 => ?_)
  have ho : oAt g d 0 [.int (iI 0), .int (iI 0), .ref (d + 1), .ref (d + 2), .ref (d + 3), .ref (d + 4), .ref (d + 5), .ref (d + 11), .ref (d + 17), .null, .null] H14 := ho9
  have a1 := a1.kept (o14 _ (by omega))
  have a2 := a2.kept (o14 _ (by omega))
  have a3 := a3.kept (o14 _ (by omega))
  have a4 := a4.kept (o14 _ (by omega))
  have r5 := r5.kept (o14 _ (by omega))
  have ir5 := (fun (q : Nat) (hq : q < 5) => (ir5 q hq).kept (o14 _ (by omega)))
  have r11 := r11.kept (o14 _ (by omega))
  have ir11 := (fun (q : Nat) (hq : q < 5) => (ir11 q hq).kept (o14 _ (by omega)))
  have a17 := a17.kept (o14 _ (by omega))
  have G : Gf d 18 s.heap H14 l14 := G14
  refine r_aload_n C rfl (lv_at hl 0 rfl) dX0_init_60 ?_
  refine r_iconst C dX0_init_61 ?_
  refine r_newI C G 5 rfl (by decide) (Nat.le_of_ble_eq_true rfl) (Nat.le_of_ble_eq_true rfl) dX0_init_62 (fun H15 a18 o15 G15 => ?_)
  have ho := ho.kept (o15 _ (by omega))
  have a1 := a1.kept (o15 _ (by omega))
  have a2 := a2.kept (o15 _ (by omega))
  have a3 := a3.kept (o15 _ (by omega))
  have a4 := a4.kept (o15 _ (by omega))
  have r5 := r5.kept (o15 _ (by omega))
  have ir5 := (fun (q : Nat) (hq : q < 5) => (ir5 q hq).kept (o15 _ (by omega)))
  have r11 := r11.kept (o15 _ (by omega))
  have ir11 := (fun (q : Nat) (hq : q < 5) => (ir11 q hq).kept (o15 _ (by omega)))
  have a17 := a17.kept (o15 _ (by omega))
  have G : Gf d 19 s.heap H15 _ := G15
  refine r_putF C hin G (ci := 0) rfl uin0 tyX0_ok nmX0 ho (by omega) 9 (by decide) q_92 rfl rfl (v := .ref (d + 18)) rfl rfl (Nat.le_of_ble_eq_true rfl) dX0_init_64 (fun H16 l16 ho9 o16 G16 => ?_)
  have ho : oAt g d 0 [.int (iI 0), .int (iI 0), .ref (d + 1), .ref (d + 2), .ref (d + 3), .ref (d + 4), .ref (d + 5), .ref (d + 11), .ref (d + 17), .ref (d + 18), .null] H16 := ho9
  have a1 := a1.kept (o16 _ (by omega))
  have a2 := a2.kept (o16 _ (by omega))
  have a3 := a3.kept (o16 _ (by omega))
  have a4 := a4.kept (o16 _ (by omega))
  have r5 := r5.kept (o16 _ (by omega))
  have ir5 := (fun (q : Nat) (hq : q < 5) => (ir5 q hq).kept (o16 _ (by omega)))
  have r11 := r11.kept (o16 _ (by omega))
  have ir11 := (fun (q : Nat) (hq : q < 5) => (ir11 q hq).kept (o16 _ (by omega)))
  have a17 := a17.kept (o16 _ (by omega))
  have a18 := a18.kept (o16 _ (by omega))
  have G : Gf d 19 s.heap H16 l16 := G16
  refine r_aload_n C rfl (lv_at hl 0 rfl) dX0_init_67 ?_
  refine r_iconst C dX0_init_68 ?_
  refine r_newI C G 5 rfl (by decide) (Nat.le_of_ble_eq_true rfl) (Nat.le_of_ble_eq_true rfl) dX0_init_69 (fun H17 a19 o17 G17 => ?_)
  have ho := ho.kept (o17 _ (by omega))
  have a1 := a1.kept (o17 _ (by omega))
  have a2 := a2.kept (o17 _ (by omega))
  have a3 := a3.kept (o17 _ (by omega))
  have a4 := a4.kept (o17 _ (by omega))
  have r5 := r5.kept (o17 _ (by omega))
  have ir5 := (fun (q : Nat) (hq : q < 5) => (ir5 q hq).kept (o17 _ (by omega)))
  have r11 := r11.kept (o17 _ (by omega))
  have ir11 := (fun (q : Nat) (hq : q < 5) => (ir11 q hq).kept (o17 _ (by omega)))
  have a17 := a17.kept (o17 _ (by omega))
  have a18 := a18.kept (o17 _ (by omega))
  have G : Gf d 20 s.heap H17 _ := G17
  refine r_putF C hin G (ci := 0) rfl uin0 tyX0_ok nmX0 ho (by omega) 10 (by decide) q_93 rfl rfl (v := .ref (d + 19)) rfl rfl (Nat.le_of_ble_eq_true rfl) dX0_init_71 (fun H18 l18 ho9 o18 G18 => ?_)
  have ho : oAt g d 0 [.int (iI 0), .int (iI 0), .ref (d + 1), .ref (d + 2), .ref (d + 3), .ref (d + 4), .ref (d + 5), .ref (d + 11), .ref (d + 17), .ref (d + 18), .ref (d + 19)] H18 := ho9
  have a1 := a1.kept (o18 _ (by omega))
  have a2 := a2.kept (o18 _ (by omega))
  have a3 := a3.kept (o18 _ (by omega))
  have a4 := a4.kept (o18 _ (by omega))
  have r5 := r5.kept (o18 _ (by omega))
  have ir5 := (fun (q : Nat) (hq : q < 5) => (ir5 q hq).kept (o18 _ (by omega)))
  have r11 := r11.kept (o18 _ (by omega))
  have ir11 := (fun (q : Nat) (hq : q < 5) => (ir11 q hq).kept (o18 _ (by omega)))
  have a17 := a17.kept (o18 _ (by omega))
  have a18 := a18.kept (o18 _ (by omega))
  have a19 := a19.kept (o18 _ (by omega))
  have G : Gf d 20 s.heap H18 l18 := G18
  exact r_vretN C rfl G rfl ⟨ho, fun k9 hk9 => match k9, hk9 with | 0, _ => a1 | 1, _ => a2 | 2, _ => a3 | 3, _ => a4 | 4, _ => a17 | 5, _ => a18 | 6, _ => a19 | (q + 7), h => absurd h (by omega), r5, ir5, r11, ir11⟩ (Nat.le_of_ble_eq_true rfl) (Nat.le_of_ble_eq_true rfl) dX0_init_74
set_option maxHeartbeats 4000000 in
theorem k_X2_init (l : Launch) (g : Gt) (k : Kt) (d : Nat) : CN l yX2_init cX2_init 1 1 12 1 120 g k d (oAt g d 2 [.int (iI 0), .null]) (fun H => txAt g d 0 H ∧ cAt g (d + 1) 120 (fun _ => 0) H) := by
  refine cn_of "LentRoom$Text" (by decide) rfl rfl (by decide) ?_
  intro zp ze s zm za zb zt zc ls C hin K9 ho hz G hl
  refine r_aload_n C rfl (lv_at hl 0 rfl) dX2_init_0 ?_
  refine r_oinit C q_60 hl.1 (by decide) (by decide) dX2_init_1 ?_
  refine r_aload_n C rfl (lv_at hl 0 rfl) dX2_init_4 ?_
  refine r_bipush C (by decide) dX2_init_5 ?_
  refine r_newC C G 120 rfl (by decide) (Nat.le_of_ble_eq_true rfl) (Nat.le_of_ble_eq_true rfl) dX2_init_7 (fun H1 a1 o1 G1 => ?_)
  have ho := ho.kept (o1 _ (by omega))
  have G : Gf d 2 s.heap H1 _ := G1
  refine r_putF C hin G (ci := 2) rfl uin2 tyX2_ok nmX2 ho (by omega) 1 (by decide) q_63 rfl rfl (v := .ref (d + 1)) rfl rfl (Nat.le_of_ble_eq_true rfl) dX2_init_9 (fun H2 l2 ho9 o2 G2 => ?_)
  have ho : oAt g d 2 [.int (iI 0), .ref (d + 1)] H2 := ho9
  have a1 := a1.kept (o2 _ (by omega))
  have G : Gf d 2 s.heap H2 l2 := G2
  exact r_vretN C rfl G rfl ⟨ho, a1⟩ (Nat.le_of_ble_eq_true rfl) (Nat.le_of_ble_eq_true rfl) dX2_init_12
set_option maxHeartbeats 4000000 in
theorem k_X1_init (l : Launch) (g : Gt) (k : Kt) (d : Nat) (hk : k.1 ≤ d) : CN l yX1_init cX1_init 2 2 32 281 3948 g k d (oAt g d 1 [.null, .int (iI 0), .int (iI 0)]) (fun H => hoAt g d 0 0 H ∧ qAt g (d + 1) 14 (fun i => some (d + 2 + 20 * i)) H ∧ fmAt g (d + 2) 14 (fun _ => z0) H) := by
  refine cn_of "LentRoom$History" (by decide) rfl rfl (by decide) ?_
  intro zp ze s zm za zb zt zc ls C hin K9 ho hz G hl
  refine r_aload_n C rfl (lv_at hl 0 rfl) dX1_init_0 ?_
  refine r_oinit C q_123 hl.1 (by decide) (by decide) dX1_init_1 ?_
  refine r_aload_n C rfl (lv_at hl 0 rfl) dX1_init_4 ?_
  refine r_bipush C (by decide) dX1_init_5 ?_
  refine r_newq C K9.1 G q_124 14 rfl (by decide) (Nat.le_of_ble_eq_true rfl) (Nat.le_of_ble_eq_true rfl) dX1_init_7 (fun H1 a1 o1 G1 => ?_)
  have ho := ho.kept (o1 _ (by omega))
  have G : Gf d 2 s.heap H1 _ := G1
  refine r_putF C hin G (ci := 1) rfl uin1 tyX1_ok nmX1 ho (by omega) 0 (by decide) q_127 rfl rfl (v := .ref (d + 1)) rfl rfl (Nat.le_of_ble_eq_true rfl) dX1_init_10 (fun H2 l2 ho9 o2 G2 => ?_)
  have ho : oAt g d 1 [.ref (d + 1), .int (iI 0), .int (iI 0)] H2 := ho9
  have a1 := a1.kept (o2 _ (by omega))
  have G : Gf d 2 s.heap H2 l2 := G2
  refine r_iconst C dX1_init_13 ?_
  refine r_istore_n C rfl hl (by decide) rfl dX1_init_14 (fun ls hl => ?_)
  have L : ∀ (w i : Nat), i + w = 14 → ∀ (H : Heap) (locs : List Loc) (ls : Array Slot), lv_has ls 2 [(1, .int (iI (i : Int))), (0, .ref d)] → oAt g d 1 [.ref (d + 1), .int (iI 0), .int (iI 0)] H → qAt g (d + 1) 14 (fun j => if j < i then some (d + 2 + 20 * j) else none) H → fmAt g (d + 2) i (fun _ => z0) H → Gf d (2 + 20 * i) s.heap H locs → W zp l ze (rmn 2 32 281 3948) s zm za zb zt zc H locs (1 + 20 * i) (14 + 281 * i) (MQ zb (NQ d 282 (fun H => hoAt g d 0 0 H ∧ qAt g (d + 1) 14 (fun i => some (d + 2 + 20 * i)) H ∧ fmAt g (d + 2) 14 (fun _ => z0) H)) za s 281 3948 (fun q => d ≤ q)) (F0 zm 15 ls []) := by
    clear ls hl ho a1 G
    intro w
    induction w with
    | zero =>
      intro i hi H locs ls hl ho a1 fm G
      have e : i = 14 := by omega
      subst e
      refine r_iload_n C rfl (lv_at hl 0 rfl) dX1_init_15 ?_
      refine r_bipush C (by decide) dX1_init_16 ?_
      refine r_icmp_ge (tgt := 40) C (by decide) (by decide) (by omega) dX1_init_18 (fun c1 => ?_) (fun c1 => ?_)
      · exact r_vretN C rfl G rfl ⟨ho, a1.cg (fun k hk => if_pos hk), fm⟩ (Nat.le_of_ble_eq_true rfl) (Nat.le_of_ble_eq_true rfl) dX1_init_40
      · exact absurd c1 (by omega)
    | succ w ih =>
      intro i hi H locs ls hl ho a1 fm G
      refine r_iload_n C rfl (lv_at hl 0 rfl) dX1_init_15 ?_
      refine r_bipush C (by decide) dX1_init_16 ?_
      refine r_icmp_ge (tgt := 40) C (by decide) (by omega) (by decide) dX1_init_18 (fun c1 => ?_) (fun c1 => ?_)
      · exact absurd c1 (by omega)
      refine r_aload_n C rfl (lv_at hl 1 rfl) dX1_init_21 ?_
      refine r_get C (ci := 1) (v := .ref (d + 1)) rfl uin1 ho 0 (by decide) q_127 rfl rfl dX1_init_22 ?_
      refine r_iload_n C rfl (lv_at hl 0 rfl) dX1_init_25 ?_
      refine r_new C G (ci := 0) (fs := [.int (iI 0), .int (iI 0), .null, .null, .null, .null, .null, .null, .null, .null, .null]) rfl uin0 tyX0_ok q_124 q_71 q_32 (fun j hj => match j, hj with | 0, _ => rfl | 1, _ => rfl | 2, _ => rfl | 3, _ => rfl | 4, _ => rfl | 5, _ => rfl | 6, _ => rfl | 7, _ => rfl | 8, _ => rfl | 9, _ => rfl | 10, _ => rfl | (k + 11), h => absurd h (by omega)) (by show 1 + 20 * i + 1 ≤ 281; omega) (by show 14 + 281 * i + 11 ≤ 3948; omega) dX1_init_26 (fun H1 hn o1 G1 => ?_)
      rw [show d + (2 + 20 * i) = d + 2 + 20 * i by omega] at hn o1 ⊢
      have z1 : H.size = d + 2 + 20 * i := by rw [G.1]; omega
      refine r_dup C rfl dX1_init_29 ?_
      refine r_nest (d := d + 2 + 20 * i) C (K9.kept (fun q hq => by rw [o1 q (by omega), G.2.1 q (by omega)])) G1 (by omega) (by omega) (k_X0_init l g k (d + 2 + 20 * i)) si_X0_init (by decide +kernel) hn hl.1 ⟨by decide, by decide⟩ (Nat.le_of_ble_eq_true rfl) ⟨by show 1 + 20 * i + 1 + 19 ≤ 281; omega, by show 14 + 281 * i + 11 + 270 ≤ 3948; omega⟩ dX1_init_30 (fun H2 l2 hd o2 G2 => ?_)
      have ho2 := (ho.kept (o1 _ (by omega))).kept (o2 _ (by omega))
      have a2 := (a1.kept (o1 _ (by omega))).kept (o2 _ (by omega))
      have fm2 : fmAt g (d + 2) i (fun _ => z0) H2 := fm.kept (fun q h1 h2 => (o2 q (by omega)).trans (o1 q (by omega)))
      refine r_aast C G2 a2 hd.o (by omega) i rfl (by omega) (by decide) dX1_init_33 (fun H3 l3 a3 o3 G3 => ?_)
      have ho3 := ho2.kept (o3 _ (by omega))
      have hd3 : dvAt g (d + 2 + 20 * i) z0 H3 := hd.kept (fun q h1 h2 => o3 q (by omega))
      have fm3 : fmAt g (d + 2) i (fun _ => z0) H3 := fm2.kept (fun q h1 h2 => o3 q (by omega))
      refine r_iinc C (q := 0) hl rfl (by decide) rfl dX1_init_34 (fun ls hl => ?_)
      refine r_goto (tgt := 15) C (by decide) dX1_init_37 ?_
      have := ih (i + 1) (by omega) H3 l3 ls hl ho3 (a3.cg (fun j _ => hq_step)) (fm_step fm3 hd3) (by rw [show 2 + 20 * (i + 1) = 2 + 20 * i + 1 + 19 by omega]; exact G3)
      rw [show 1 + 20 * (i + 1) = 1 + 20 * i + 1 + 19 by omega, show 14 + 281 * (i + 1) = 14 + 281 * i + 11 + 270 by omega] at this
      exact this
  exact L 14 0 rfl _ _ ls hl ho (a1.cg (fun j _ => (if_neg (by omega)).symm)) (fun j hj => absurd hj (by omega)) G
set_option maxHeartbeats 4000000 in
theorem k_X3_init (l : Launch) (g : Gt) (k : Kt) (d : Nat) (hk : k.1 ≤ d) : CN l yX3_init cX3_init 2 3 53 406 6000 g k d (oAt g d 3 [.null, .null, .null, .null, .null, .null, .null, .null]) (CW g d 0 0 z0 z0 z0 z0 z0) := by
  refine cn_of "LentRoom" (by decide) rfl rfl (by decide) ?_
  intro zp ze s zm za zb zt zc ls C hin K9 ho hz G hl
  refine r_aload_n C rfl (lv_at hl 0 rfl) dX3_init_0 ?_
  refine r_oinit C q_52 hl.1 (by decide) (by decide) dX3_init_1 ?_
  refine r_aload_n C rfl (lv_at hl 0 rfl) dX3_init_4 ?_
  refine r_new C G (ci := 2) (fs := [.int (iI 0), .null]) rfl uin2 tyX2_ok q_55 q_56 q_31 (fun j hj => match j, hj with | 0, _ => rfl | 1, _ => rfl | (k + 2), h => absurd h (by omega)) (Nat.le_of_ble_eq_true rfl) (Nat.le_of_ble_eq_true rfl) dX3_init_5 (fun H1 hn o1 G1 => ?_)
  have ho := ho.kept (o1 _ (by omega))
  have G : Gf d 2 s.heap H1 _ := G1
  refine r_dup C rfl dX3_init_8 ?_
  refine r_nest (d := d + 1) C (K9.kept (fun q hq => G.2.1 q (by omega))) G rfl (by omega) (k_X2_init l g k (d + 1)) si_X2_init (by decide +kernel) hn hl.1 ⟨by decide, by decide⟩ (Nat.le_of_ble_eq_true rfl) ⟨Nat.le_of_ble_eq_true rfl, Nat.le_of_ble_eq_true rfl⟩ dX3_init_9 (fun H2 l2 n1 o2 G2 => ?_)
  have ho := ho.kept (o2 _ (by omega))
  have G : Gf d 3 s.heap H2 l2 := G2
  obtain ⟨ht, hg⟩ := n1
  refine r_putF C hin G (ci := 3) rfl uin3 tyX3_ok nmX3 ho (by omega) 0 (by decide) q_137 rfl rfl (v := .ref (d + 1)) rfl rfl (Nat.le_of_ble_eq_true rfl) dX3_init_12 (fun H3 l3 ho9 o3 G3 => ?_)
  have ho : oAt g d 3 [.ref (d + 1), .null, .null, .null, .null, .null, .null, .null] H3 := ho9
  have ht := ht.kept (o3 _ (by omega))
  have hg := hg.kept (o3 _ (by omega))
  have G : Gf d 3 s.heap H3 l3 := G3
  refine r_aload_n C rfl (lv_at hl 0 rfl) dX3_init_15 ?_
  refine r_new C G (ci := 0) (fs := [.int (iI 0), .int (iI 0), .null, .null, .null, .null, .null, .null, .null, .null, .null]) rfl uin0 tyX0_ok q_70 q_71 q_32 (fun j hj => match j, hj with | 0, _ => rfl | 1, _ => rfl | 2, _ => rfl | 3, _ => rfl | 4, _ => rfl | 5, _ => rfl | 6, _ => rfl | 7, _ => rfl | 8, _ => rfl | 9, _ => rfl | 10, _ => rfl | (k + 11), h => absurd h (by omega)) (Nat.le_of_ble_eq_true rfl) (Nat.le_of_ble_eq_true rfl) dX3_init_16 (fun H4 hn o4 G4 => ?_)
  have ho := ho.kept (o4 _ (by omega))
  have ht := ht.kept (o4 _ (by omega))
  have hg := hg.kept (o4 _ (by omega))
  have G : Gf d 4 s.heap H4 _ := G4
  refine r_dup C rfl dX3_init_19 ?_
  refine r_nest (d := d + 3) C (K9.kept (fun q hq => G.2.1 q (by omega))) G rfl (by omega) (k_X0_init l g k (d + 3)) si_X0_init (by decide +kernel) hn hl.1 ⟨by decide, by decide⟩ (Nat.le_of_ble_eq_true rfl) ⟨Nat.le_of_ble_eq_true rfl, Nat.le_of_ble_eq_true rfl⟩ dX3_init_20 (fun H5 l5 hd o5 G5 => ?_)
  have ho := ho.kept (o5 _ (by omega))
  have ht := ht.kept (o5 _ (by omega))
  have hg := hg.kept (o5 _ (by omega))
  have G : Gf d 23 s.heap H5 l5 := G5
  refine r_putF C hin G (ci := 3) rfl uin3 tyX3_ok nmX3 ho (by omega) 1 (by decide) q_138 rfl rfl (v := .ref (d + 3)) rfl rfl (Nat.le_of_ble_eq_true rfl) dX3_init_23 (fun H6 l6 ho9 o6 G6 => ?_)
  have ho : oAt g d 3 [.ref (d + 1), .ref (d + 3), .null, .null, .null, .null, .null, .null] H6 := ho9
  have ht := ht.kept (o6 _ (by omega))
  have hg := hg.kept (o6 _ (by omega))
  have hd := hd.kept (fun q h1 h2 => o6 q (by omega))
  have G : Gf d 23 s.heap H6 l6 := G6
  refine r_aload_n C rfl (lv_at hl 0 rfl) dX3_init_26 ?_
  refine r_new C G (ci := 1) (fs := [.null, .int (iI 0), .int (iI 0)]) rfl uin1 tyX1_ok q_118 q_119 q_33 (fun j hj => match j, hj with | 0, _ => rfl | 1, _ => rfl | 2, _ => rfl | (k + 3), h => absurd h (by omega)) (Nat.le_of_ble_eq_true rfl) (Nat.le_of_ble_eq_true rfl) dX3_init_27 (fun H7 hn o7 G7 => ?_)
  have ho := ho.kept (o7 _ (by omega))
  have ht := ht.kept (o7 _ (by omega))
  have hg := hg.kept (o7 _ (by omega))
  have hd := hd.kept (fun q h1 h2 => o7 q (by omega))
  have G : Gf d 24 s.heap H7 _ := G7
  refine r_dup C rfl dX3_init_30 ?_
  refine r_init (d := d + 23) C (K9.kept (fun q hq => G.2.1 q (by omega))) G rfl (by omega) (k_X1_init l g k (d + 23) (by omega)) si_X1_init q_120 hn hl.1 ⟨by decide, by decide⟩ (Nat.le_of_ble_eq_true rfl) ⟨Nat.le_of_ble_eq_true rfl, Nat.le_of_ble_eq_true rfl⟩ dX3_init_31 (fun H8 l8 n2 o8 G8 => ?_)
  have ho := ho.kept (o8 _ (by omega))
  have ht := ht.kept (o8 _ (by omega))
  have hg := hg.kept (o8 _ (by omega))
  have hd := hd.kept (fun q h1 h2 => o8 q (by omega))
  have G : Gf d 305 s.heap H8 l8 := G8
  obtain ⟨hh, hq, hm⟩ := n2
  refine r_putF C hin G (ci := 3) rfl uin3 tyX3_ok nmX3 ho (by omega) 2 (by decide) q_139 rfl rfl (v := .ref (d + 23)) rfl rfl (Nat.le_of_ble_eq_true rfl) dX3_init_34 (fun H9 l9 ho9 o9 G9 => ?_)
  have ho : oAt g d 3 [.ref (d + 1), .ref (d + 3), .ref (d + 23), .null, .null, .null, .null, .null] H9 := ho9
  have ht := ht.kept (o9 _ (by omega))
  have hg := hg.kept (o9 _ (by omega))
  have hd := hd.kept (fun q h1 h2 => o9 q (by omega))
  have hh := hh.kept (o9 _ (by omega))
  have hq := hq.kept (o9 _ (by omega))
  have hm := hm.kept (fun q h1 h2 => o9 q (by omega))
  have G : Gf d 305 s.heap H9 l9 := G9
  refine r_aload_n C rfl (lv_at hl 0 rfl) dX3_init_37 ?_
  refine r_iconst C dX3_init_38 ?_
  refine r_newq C K9.1 G q_70 2 rfl (by decide) (Nat.le_of_ble_eq_true rfl) (Nat.le_of_ble_eq_true rfl) dX3_init_39 (fun H10 hsl o10 G10 => ?_)
  have ho := ho.kept (o10 _ (by omega))
  have ht := ht.kept (o10 _ (by omega))
  have hg := hg.kept (o10 _ (by omega))
  have hd := hd.kept (fun q h1 h2 => o10 q (by omega))
  have hh := hh.kept (o10 _ (by omega))
  have hq := hq.kept (o10 _ (by omega))
  have hm := hm.kept (fun q h1 h2 => o10 q (by omega))
  have G : Gf d 306 s.heap H10 _ := G10
  refine r_putF C hin G (ci := 3) rfl uin3 tyX3_ok nmX3 ho (by omega) 3 (by decide) q_140 rfl rfl (v := .ref (d + 305)) rfl rfl (Nat.le_of_ble_eq_true rfl) dX3_init_42 (fun H11 l11 ho9 o11 G11 => ?_)
  have ho : oAt g d 3 [.ref (d + 1), .ref (d + 3), .ref (d + 23), .ref (d + 305), .null, .null, .null, .null] H11 := ho9
  have ht := ht.kept (o11 _ (by omega))
  have hg := hg.kept (o11 _ (by omega))
  have hd := hd.kept (fun q h1 h2 => o11 q (by omega))
  have hh := hh.kept (o11 _ (by omega))
  have hq := hq.kept (o11 _ (by omega))
  have hm := hm.kept (fun q h1 h2 => o11 q (by omega))
  have hsl := hsl.kept (o11 _ (by omega))
  have G : Gf d 306 s.heap H11 l11 := G11
  refine r_aload_n C rfl (lv_at hl 0 rfl) dX3_init_45 ?_
  refine r_iconst C dX3_init_46 ?_
  refine r_newZ C G 2 rfl (by decide) (Nat.le_of_ble_eq_true rfl) (Nat.le_of_ble_eq_true rfl) dX3_init_47 (fun H12 hfi o12 G12 => ?_)
  have ho := ho.kept (o12 _ (by omega))
  have ht := ht.kept (o12 _ (by omega))
  have hg := hg.kept (o12 _ (by omega))
  have hd := hd.kept (fun q h1 h2 => o12 q (by omega))
  have hh := hh.kept (o12 _ (by omega))
  have hq := hq.kept (o12 _ (by omega))
  have hm := hm.kept (fun q h1 h2 => o12 q (by omega))
  have hsl := hsl.kept (o12 _ (by omega))
  have G : Gf d 307 s.heap H12 _ := G12
  refine r_putF C hin G (ci := 3) rfl uin3 tyX3_ok nmX3 ho (by omega) 4 (by decide) q_141 rfl rfl (v := .ref (d + 306)) rfl rfl (Nat.le_of_ble_eq_true rfl) dX3_init_49 (fun H13 l13 ho9 o13 G13 => ?_)
  have ho : oAt g d 3 [.ref (d + 1), .ref (d + 3), .ref (d + 23), .ref (d + 305), .ref (d + 306), .null, .null, .null] H13 := ho9
  have ht := ht.kept (o13 _ (by omega))
  have hg := hg.kept (o13 _ (by omega))
  have hd := hd.kept (fun q h1 h2 => o13 q (by omega))
  have hh := hh.kept (o13 _ (by omega))
  have hq := hq.kept (o13 _ (by omega))
  have hm := hm.kept (fun q h1 h2 => o13 q (by omega))
  have hsl := hsl.kept (o13 _ (by omega))
  have hfi := hfi.kept (o13 _ (by omega))
  have G : Gf d 307 s.heap H13 l13 := G13
  refine r_aload_n C rfl (lv_at hl 0 rfl) dX3_init_52 ?_
  refine r_new C G (ci := 0) (fs := [.int (iI 0), .int (iI 0), .null, .null, .null, .null, .null, .null, .null, .null, .null]) rfl uin0 tyX0_ok q_70 q_71 q_32 (fun j hj => match j, hj with | 0, _ => rfl | 1, _ => rfl | 2, _ => rfl | 3, _ => rfl | 4, _ => rfl | 5, _ => rfl | 6, _ => rfl | 7, _ => rfl | 8, _ => rfl | 9, _ => rfl | 10, _ => rfl | (k + 11), h => absurd h (by omega)) (Nat.le_of_ble_eq_true rfl) (Nat.le_of_ble_eq_true rfl) dX3_init_53 (fun H14 hn o14 G14 => ?_)
  have ho := ho.kept (o14 _ (by omega))
  have ht := ht.kept (o14 _ (by omega))
  have hg := hg.kept (o14 _ (by omega))
  have hd := hd.kept (fun q h1 h2 => o14 q (by omega))
  have hh := hh.kept (o14 _ (by omega))
  have hq := hq.kept (o14 _ (by omega))
  have hm := hm.kept (fun q h1 h2 => o14 q (by omega))
  have hsl := hsl.kept (o14 _ (by omega))
  have hfi := hfi.kept (o14 _ (by omega))
  have G : Gf d 308 s.heap H14 _ := G14
  refine r_dup C rfl dX3_init_56 ?_
  refine r_nest (d := d + 307) C (K9.kept (fun q hq => G.2.1 q (by omega))) G rfl (by omega) (k_X0_init l g k (d + 307)) si_X0_init (by decide +kernel) hn hl.1 ⟨by decide, by decide⟩ (Nat.le_of_ble_eq_true rfl) ⟨Nat.le_of_ble_eq_true rfl, Nat.le_of_ble_eq_true rfl⟩ dX3_init_57 (fun H15 l15 hbl o15 G15 => ?_)
  have ho := ho.kept (o15 _ (by omega))
  have ht := ht.kept (o15 _ (by omega))
  have hg := hg.kept (o15 _ (by omega))
  have hd := hd.kept (fun q h1 h2 => o15 q (by omega))
  have hh := hh.kept (o15 _ (by omega))
  have hq := hq.kept (o15 _ (by omega))
  have hm := hm.kept (fun q h1 h2 => o15 q (by omega))
  have hsl := hsl.kept (o15 _ (by omega))
  have hfi := hfi.kept (o15 _ (by omega))
  have G : Gf d 327 s.heap H15 l15 := G15
  refine r_putF C hin G (ci := 3) rfl uin3 tyX3_ok nmX3 ho (by omega) 5 (by decide) q_142 rfl rfl (v := .ref (d + 307)) rfl rfl (Nat.le_of_ble_eq_true rfl) dX3_init_60 (fun H16 l16 ho9 o16 G16 => ?_)
  have ho : oAt g d 3 [.ref (d + 1), .ref (d + 3), .ref (d + 23), .ref (d + 305), .ref (d + 306), .ref (d + 307), .null, .null] H16 := ho9
  have ht := ht.kept (o16 _ (by omega))
  have hg := hg.kept (o16 _ (by omega))
  have hd := hd.kept (fun q h1 h2 => o16 q (by omega))
  have hh := hh.kept (o16 _ (by omega))
  have hq := hq.kept (o16 _ (by omega))
  have hm := hm.kept (fun q h1 h2 => o16 q (by omega))
  have hsl := hsl.kept (o16 _ (by omega))
  have hfi := hfi.kept (o16 _ (by omega))
  have hbl := hbl.kept (fun q h1 h2 => o16 q (by omega))
  have G : Gf d 327 s.heap H16 l16 := G16
  refine r_aload_n C rfl (lv_at hl 0 rfl) dX3_init_63 ?_
  refine r_new C G (ci := 0) (fs := [.int (iI 0), .int (iI 0), .null, .null, .null, .null, .null, .null, .null, .null, .null]) rfl uin0 tyX0_ok q_70 q_71 q_32 (fun j hj => match j, hj with | 0, _ => rfl | 1, _ => rfl | 2, _ => rfl | 3, _ => rfl | 4, _ => rfl | 5, _ => rfl | 6, _ => rfl | 7, _ => rfl | 8, _ => rfl | 9, _ => rfl | 10, _ => rfl | (k + 11), h => absurd h (by omega)) (Nat.le_of_ble_eq_true rfl) (Nat.le_of_ble_eq_true rfl) dX3_init_64 (fun H17 hn o17 G17 => ?_)
  have ho := ho.kept (o17 _ (by omega))
  have ht := ht.kept (o17 _ (by omega))
  have hg := hg.kept (o17 _ (by omega))
  have hd := hd.kept (fun q h1 h2 => o17 q (by omega))
  have hh := hh.kept (o17 _ (by omega))
  have hq := hq.kept (o17 _ (by omega))
  have hm := hm.kept (fun q h1 h2 => o17 q (by omega))
  have hsl := hsl.kept (o17 _ (by omega))
  have hfi := hfi.kept (o17 _ (by omega))
  have hbl := hbl.kept (fun q h1 h2 => o17 q (by omega))
  have G : Gf d 328 s.heap H17 _ := G17
  refine r_dup C rfl dX3_init_67 ?_
  refine r_nest (d := d + 327) C (K9.kept (fun q hq => G.2.1 q (by omega))) G rfl (by omega) (k_X0_init l g k (d + 327)) si_X0_init (by decide +kernel) hn hl.1 ⟨by decide, by decide⟩ (Nat.le_of_ble_eq_true rfl) ⟨Nat.le_of_ble_eq_true rfl, Nat.le_of_ble_eq_true rfl⟩ dX3_init_68 (fun H18 l18 htr o18 G18 => ?_)
  have ho := ho.kept (o18 _ (by omega))
  have ht := ht.kept (o18 _ (by omega))
  have hg := hg.kept (o18 _ (by omega))
  have hd := hd.kept (fun q h1 h2 => o18 q (by omega))
  have hh := hh.kept (o18 _ (by omega))
  have hq := hq.kept (o18 _ (by omega))
  have hm := hm.kept (fun q h1 h2 => o18 q (by omega))
  have hsl := hsl.kept (o18 _ (by omega))
  have hfi := hfi.kept (o18 _ (by omega))
  have hbl := hbl.kept (fun q h1 h2 => o18 q (by omega))
  have G : Gf d 347 s.heap H18 l18 := G18
  refine r_putF C hin G (ci := 3) rfl uin3 tyX3_ok nmX3 ho (by omega) 6 (by decide) q_143 rfl rfl (v := .ref (d + 327)) rfl rfl (Nat.le_of_ble_eq_true rfl) dX3_init_71 (fun H19 l19 ho9 o19 G19 => ?_)
  have ho : oAt g d 3 [.ref (d + 1), .ref (d + 3), .ref (d + 23), .ref (d + 305), .ref (d + 306), .ref (d + 307), .ref (d + 327), .null] H19 := ho9
  have ht := ht.kept (o19 _ (by omega))
  have hg := hg.kept (o19 _ (by omega))
  have hd := hd.kept (fun q h1 h2 => o19 q (by omega))
  have hh := hh.kept (o19 _ (by omega))
  have hq := hq.kept (o19 _ (by omega))
  have hm := hm.kept (fun q h1 h2 => o19 q (by omega))
  have hsl := hsl.kept (o19 _ (by omega))
  have hfi := hfi.kept (o19 _ (by omega))
  have hbl := hbl.kept (fun q h1 h2 => o19 q (by omega))
  have htr := htr.kept (fun q h1 h2 => o19 q (by omega))
  have G : Gf d 347 s.heap H19 l19 := G19
  refine r_aload_n C rfl (lv_at hl 0 rfl) dX3_init_74 ?_
  refine r_new C G (ci := 0) (fs := [.int (iI 0), .int (iI 0), .null, .null, .null, .null, .null, .null, .null, .null, .null]) rfl uin0 tyX0_ok q_70 q_71 q_32 (fun j hj => match j, hj with | 0, _ => rfl | 1, _ => rfl | 2, _ => rfl | 3, _ => rfl | 4, _ => rfl | 5, _ => rfl | 6, _ => rfl | 7, _ => rfl | 8, _ => rfl | 9, _ => rfl | 10, _ => rfl | (k + 11), h => absurd h (by omega)) (Nat.le_of_ble_eq_true rfl) (Nat.le_of_ble_eq_true rfl) dX3_init_75 (fun H20 hn o20 G20 => ?_)
  have ho := ho.kept (o20 _ (by omega))
  have ht := ht.kept (o20 _ (by omega))
  have hg := hg.kept (o20 _ (by omega))
  have hd := hd.kept (fun q h1 h2 => o20 q (by omega))
  have hh := hh.kept (o20 _ (by omega))
  have hq := hq.kept (o20 _ (by omega))
  have hm := hm.kept (fun q h1 h2 => o20 q (by omega))
  have hsl := hsl.kept (o20 _ (by omega))
  have hfi := hfi.kept (o20 _ (by omega))
  have hbl := hbl.kept (fun q h1 h2 => o20 q (by omega))
  have htr := htr.kept (fun q h1 h2 => o20 q (by omega))
  have G : Gf d 348 s.heap H20 _ := G20
  refine r_dup C rfl dX3_init_78 ?_
  refine r_nest (d := d + 347) C (K9.kept (fun q hq => G.2.1 q (by omega))) G rfl (by omega) (k_X0_init l g k (d + 347)) si_X0_init (by decide +kernel) hn hl.1 ⟨by decide, by decide⟩ (Nat.le_of_ble_eq_true rfl) ⟨Nat.le_of_ble_eq_true rfl, Nat.le_of_ble_eq_true rfl⟩ dX3_init_79 (fun H21 l21 hgu o21 G21 => ?_)
  have ho := ho.kept (o21 _ (by omega))
  have ht := ht.kept (o21 _ (by omega))
  have hg := hg.kept (o21 _ (by omega))
  have hd := hd.kept (fun q h1 h2 => o21 q (by omega))
  have hh := hh.kept (o21 _ (by omega))
  have hq := hq.kept (o21 _ (by omega))
  have hm := hm.kept (fun q h1 h2 => o21 q (by omega))
  have hsl := hsl.kept (o21 _ (by omega))
  have hfi := hfi.kept (o21 _ (by omega))
  have hbl := hbl.kept (fun q h1 h2 => o21 q (by omega))
  have htr := htr.kept (fun q h1 h2 => o21 q (by omega))
  have G : Gf d 367 s.heap H21 l21 := G21
  refine r_putF C hin G (ci := 3) rfl uin3 tyX3_ok nmX3 ho (by omega) 7 (by decide) q_144 rfl rfl (v := .ref (d + 347)) rfl rfl (Nat.le_of_ble_eq_true rfl) dX3_init_82 (fun H22 l22 ho9 o22 G22 => ?_)
  have ho : oAt g d 3 [.ref (d + 1), .ref (d + 3), .ref (d + 23), .ref (d + 305), .ref (d + 306), .ref (d + 307), .ref (d + 327), .ref (d + 347)] H22 := ho9
  have ht := ht.kept (o22 _ (by omega))
  have hg := hg.kept (o22 _ (by omega))
  have hd := hd.kept (fun q h1 h2 => o22 q (by omega))
  have hh := hh.kept (o22 _ (by omega))
  have hq := hq.kept (o22 _ (by omega))
  have hm := hm.kept (fun q h1 h2 => o22 q (by omega))
  have hsl := hsl.kept (o22 _ (by omega))
  have hfi := hfi.kept (o22 _ (by omega))
  have hbl := hbl.kept (fun q h1 h2 => o22 q (by omega))
  have htr := htr.kept (fun q h1 h2 => o22 q (by omega))
  have hgu := hgu.kept (fun q h1 h2 => o22 q (by omega))
  have G : Gf d 367 s.heap H22 l22 := G22
  refine r_iconst C dX3_init_85 ?_
  refine r_istore_n C rfl hl (by decide) rfl dX3_init_86 (fun ls hl => ?_)
  refine r_iload_n C rfl (lv_at hl 0 rfl) dX3_init_87 ?_
  refine r_iconst C dX3_init_88 ?_
  refine r_icmp_ge (tgt := 111) C (by decide) (by decide) (by omega) dX3_init_89 (fun c1 => absurd c1 (by omega)) (fun _ => ?_)
  refine r_aload_n C rfl (lv_at hl 1 rfl) dX3_init_92 ?_
  refine r_get C (ci := 3) (v := .ref (d + 305)) rfl uin3 ho 3 (by decide) q_140 rfl rfl dX3_init_93 ?_
  refine r_iload_n C rfl (lv_at hl 0 rfl) dX3_init_96 ?_
  refine r_new C G (ci := 0) (fs := [.int (iI 0), .int (iI 0), .null, .null, .null, .null, .null, .null, .null, .null, .null]) rfl uin0 tyX0_ok q_70 q_71 q_32 (fun j hj => match j, hj with | 0, _ => rfl | 1, _ => rfl | 2, _ => rfl | 3, _ => rfl | 4, _ => rfl | 5, _ => rfl | 6, _ => rfl | 7, _ => rfl | 8, _ => rfl | 9, _ => rfl | 10, _ => rfl | (k + 11), h => absurd h (by omega)) (Nat.le_of_ble_eq_true rfl) (Nat.le_of_ble_eq_true rfl) dX3_init_97 (fun H23 hn o23 G23 => ?_)
  have ho := ho.kept (o23 _ (by omega))
  have ht := ht.kept (o23 _ (by omega))
  have hg := hg.kept (o23 _ (by omega))
  have hd := hd.kept (fun q h1 h2 => o23 q (by omega))
  have hh := hh.kept (o23 _ (by omega))
  have hq := hq.kept (o23 _ (by omega))
  have hm := hm.kept (fun q h1 h2 => o23 q (by omega))
  have hsl := hsl.kept (o23 _ (by omega))
  have hfi := hfi.kept (o23 _ (by omega))
  have hbl := hbl.kept (fun q h1 h2 => o23 q (by omega))
  have htr := htr.kept (fun q h1 h2 => o23 q (by omega))
  have hgu := hgu.kept (fun q h1 h2 => o23 q (by omega))
  have G : Gf d 368 s.heap H23 _ := G23
  refine r_dup C rfl dX3_init_100 ?_
  refine r_nest (d := d + 367) C (K9.kept (fun q hq => G.2.1 q (by omega))) G rfl (by omega) (k_X0_init l g k (d + 367)) si_X0_init (by decide +kernel) hn hl.1 ⟨by decide, by decide⟩ (Nat.le_of_ble_eq_true rfl) ⟨Nat.le_of_ble_eq_true rfl, Nat.le_of_ble_eq_true rfl⟩ dX3_init_101 (fun H24 l24 s0 o24 G24 => ?_)
  have ho := ho.kept (o24 _ (by omega))
  have ht := ht.kept (o24 _ (by omega))
  have hg := hg.kept (o24 _ (by omega))
  have hd := hd.kept (fun q h1 h2 => o24 q (by omega))
  have hh := hh.kept (o24 _ (by omega))
  have hq := hq.kept (o24 _ (by omega))
  have hm := hm.kept (fun q h1 h2 => o24 q (by omega))
  have hsl := hsl.kept (o24 _ (by omega))
  have hfi := hfi.kept (o24 _ (by omega))
  have hbl := hbl.kept (fun q h1 h2 => o24 q (by omega))
  have htr := htr.kept (fun q h1 h2 => o24 q (by omega))
  have hgu := hgu.kept (fun q h1 h2 => o24 q (by omega))
  have G : Gf d 387 s.heap H24 l24 := G24
  refine r_aast C G hsl s0.o (by omega) 0 rfl (by decide) (by decide) dX3_init_104 (fun H25 l25 hs9 o25 G25 => ?_)
  have ho := ho.kept (o25 _ (by omega))
  have ht := ht.kept (o25 _ (by omega))
  have hg := hg.kept (o25 _ (by omega))
  have hd := hd.kept (fun q h1 h2 => o25 q (by omega))
  have hh := hh.kept (o25 _ (by omega))
  have hq := hq.kept (o25 _ (by omega))
  have hm := hm.kept (fun q h1 h2 => o25 q (by omega))
  have hfi := hfi.kept (o25 _ (by omega))
  have hbl := hbl.kept (fun q h1 h2 => o25 q (by omega))
  have htr := htr.kept (fun q h1 h2 => o25 q (by omega))
  have hgu := hgu.kept (fun q h1 h2 => o25 q (by omega))
  have s0 := s0.kept (fun q h1 h2 => o25 q (by omega))
  have hsl := hs9
  have G : Gf d 387 s.heap H25 l25 := G25
  refine r_iinc C (q := 0) hl rfl (by decide) rfl dX3_init_105 (fun ls hl => ?_)
  have hl : lv_has ls 2 [(1, .int (iI 1)), (0, .ref d)] := hl
  refine r_goto (tgt := 87) C (by decide) dX3_init_108 ?_
  refine r_iload_n C rfl (lv_at hl 0 rfl) dX3_init_87 ?_
  refine r_iconst C dX3_init_88 ?_
  refine r_icmp_ge (tgt := 111) C (by decide) (by decide) (by omega) dX3_init_89 (fun c1 => absurd c1 (by omega)) (fun _ => ?_)
  refine r_aload_n C rfl (lv_at hl 1 rfl) dX3_init_92 ?_
  refine r_get C (ci := 3) (v := .ref (d + 305)) rfl uin3 ho 3 (by decide) q_140 rfl rfl dX3_init_93 ?_
  refine r_iload_n C rfl (lv_at hl 0 rfl) dX3_init_96 ?_
  refine r_new C G (ci := 0) (fs := [.int (iI 0), .int (iI 0), .null, .null, .null, .null, .null, .null, .null, .null, .null]) rfl uin0 tyX0_ok q_70 q_71 q_32 (fun j hj => match j, hj with | 0, _ => rfl | 1, _ => rfl | 2, _ => rfl | 3, _ => rfl | 4, _ => rfl | 5, _ => rfl | 6, _ => rfl | 7, _ => rfl | 8, _ => rfl | 9, _ => rfl | 10, _ => rfl | (k + 11), h => absurd h (by omega)) (Nat.le_of_ble_eq_true rfl) (Nat.le_of_ble_eq_true rfl) dX3_init_97 (fun H26 hn o26 G26 => ?_)
  have ho := ho.kept (o26 _ (by omega))
  have ht := ht.kept (o26 _ (by omega))
  have hg := hg.kept (o26 _ (by omega))
  have hd := hd.kept (fun q h1 h2 => o26 q (by omega))
  have hh := hh.kept (o26 _ (by omega))
  have hq := hq.kept (o26 _ (by omega))
  have hm := hm.kept (fun q h1 h2 => o26 q (by omega))
  have hsl := hsl.kept (o26 _ (by omega))
  have hfi := hfi.kept (o26 _ (by omega))
  have hbl := hbl.kept (fun q h1 h2 => o26 q (by omega))
  have htr := htr.kept (fun q h1 h2 => o26 q (by omega))
  have hgu := hgu.kept (fun q h1 h2 => o26 q (by omega))
  have s0 := s0.kept (fun q h1 h2 => o26 q (by omega))
  have G : Gf d 388 s.heap H26 _ := G26
  refine r_dup C rfl dX3_init_100 ?_
  refine r_nest (d := d + 387) C (K9.kept (fun q hq => G.2.1 q (by omega))) G rfl (by omega) (k_X0_init l g k (d + 387)) si_X0_init (by decide +kernel) hn hl.1 ⟨by decide, by decide⟩ (Nat.le_of_ble_eq_true rfl) ⟨Nat.le_of_ble_eq_true rfl, Nat.le_of_ble_eq_true rfl⟩ dX3_init_101 (fun H27 l27 s1 o27 G27 => ?_)
  have ho := ho.kept (o27 _ (by omega))
  have ht := ht.kept (o27 _ (by omega))
  have hg := hg.kept (o27 _ (by omega))
  have hd := hd.kept (fun q h1 h2 => o27 q (by omega))
  have hh := hh.kept (o27 _ (by omega))
  have hq := hq.kept (o27 _ (by omega))
  have hm := hm.kept (fun q h1 h2 => o27 q (by omega))
  have hsl := hsl.kept (o27 _ (by omega))
  have hfi := hfi.kept (o27 _ (by omega))
  have hbl := hbl.kept (fun q h1 h2 => o27 q (by omega))
  have htr := htr.kept (fun q h1 h2 => o27 q (by omega))
  have hgu := hgu.kept (fun q h1 h2 => o27 q (by omega))
  have s0 := s0.kept (fun q h1 h2 => o27 q (by omega))
  have G : Gf d 407 s.heap H27 l27 := G27
  refine r_aast C G hsl s1.o (by omega) 1 rfl (by decide) (by decide) dX3_init_104 (fun H28 l28 hs9 o28 G28 => ?_)
  have ho := ho.kept (o28 _ (by omega))
  have ht := ht.kept (o28 _ (by omega))
  have hg := hg.kept (o28 _ (by omega))
  have hd := hd.kept (fun q h1 h2 => o28 q (by omega))
  have hh := hh.kept (o28 _ (by omega))
  have hq := hq.kept (o28 _ (by omega))
  have hm := hm.kept (fun q h1 h2 => o28 q (by omega))
  have hfi := hfi.kept (o28 _ (by omega))
  have hbl := hbl.kept (fun q h1 h2 => o28 q (by omega))
  have htr := htr.kept (fun q h1 h2 => o28 q (by omega))
  have hgu := hgu.kept (fun q h1 h2 => o28 q (by omega))
  have s0 := s0.kept (fun q h1 h2 => o28 q (by omega))
  have s1 := s1.kept (fun q h1 h2 => o28 q (by omega))
  have hsl := hs9
  have G : Gf d 407 s.heap H28 l28 := G28
  refine r_iinc C (q := 0) hl rfl (by decide) rfl dX3_init_105 (fun ls hl => ?_)
  have hl : lv_has ls 2 [(1, .int (iI 2)), (0, .ref d)] := hl
  refine r_goto (tgt := 87) C (by decide) dX3_init_108 ?_
  refine r_iload_n C rfl (lv_at hl 0 rfl) dX3_init_87 ?_
  refine r_iconst C dX3_init_88 ?_
  refine r_icmp_ge (tgt := 111) C (by decide) (by decide) (by omega) dX3_init_89 (fun _ => ?_) (fun c1 => absurd c1 (by omega))
  refine r_vretN C rfl G rfl ⟨0, fun _ => z0, z0, z0, ⟨by omega, by omega, fun i hi => absurd hi (by omega)⟩, ho, ht, hg, hd, hh, hq, hm, hsl.cg (fun j hj => ?_), hfi, hbl, htr, hgu, fun i hi => ?_⟩ (Nat.le_of_ble_eq_true rfl) (Nat.le_of_ble_eq_true rfl) dX3_init_111
  · match j, hj with | 0, _ => rfl | 1, _ => rfl | (q + 2), h => exact absurd h (by omega)
  · match i, hi with | 0, _ => exact s0 | 1, _ => exact s1 | (q + 2), h => exact absurd h (by omega)

/-! ===== the class's throws ===== -/
set_option maxRecDepth 100000 in
theorem th_IA : ThS "LentRoom" 47 51 eIA := ⟨by decide +kernel, by decide +kernel, q_274, q_38, by decide +kernel, by decide +kernel, by decide +kernel, by decide +kernel⟩
set_option maxRecDepth 100000 in
theorem th_IS : ThS "LentRoom" 58 62 eIS := ⟨by decide +kernel, by decide +kernel, q_345, q_39, by decide +kernel, by decide +kernel, by decide +kernel, by decide +kernel⟩
set_option maxRecDepth 100000 in
theorem th_IB : ThS "LentRoom" 268 272 eIB := ⟨by decide +kernel, by decide +kernel, q_530, q_46, by decide +kernel, by decide +kernel, by decide +kernel, by decide +kernel⟩
section XROWS
variable {p : Program} {l : Launch} {e : Env} {R : Room} {s : State} {m : MethodId} {args : Array Value} {below : List Frame} {meth : Method} {c : Code} {H : Heap} {locs : List Loc} {cells slots : Nat} {Q : State → Prop}
variable {cc : ByteArray} {nL : Nat} {own : String} {ret : Option FieldType} {x : Cond} {g : Gt} {k : Kt} {pc : Nat} {ls : Array Slot} {rest st : List Value}
theorem th_words (C : Cx p s m args meth c cc nL own ret x g) (K : SK k s H) {ik ic : Nat} {cls : String} (T : ThS own ik ic cls) : (Cond.classLink own ik cls).before args s = true ∧ (Cond.initialized cls).before args s = true ∧ ∀ w ∈ vx_atS own ic cls nm2, w.before args s = true := by
  obtain ⟨-, -, t1, t2, t3, t4, -, t6⟩ := T
  have ok : ∀ w, w ∈ AL → w.before args s = true := fun w hw => C.2.2.2.2.1 w (List.mem_cons_of_mem _ hw)
  refine ⟨ok _ t1, ok _ t2, vx_hat (fun w hw => ok w (t3 w hw)) t4 (fun w hw => ?_)⟩
  rcases List.mem_cons.mp hw with rfl | hw
  · exact va_Nw.use rfl (K.1.2.2.1 _ t6)
  · obtain ⟨y, hy, rfl⟩ := List.mem_map.mp hw
    exact va_Nw.use rfl (K.1.2.2.2.2.2.2.2 y hy)
/-- throw new E("..") where nothing is written yet -/
theorem r_throw (C : Cx p s m args meth c cc nL own ret x g) (hst : l.stackTraces = false) (K : SK k s s.heap) (ht : NoT c) (hown : own = "LentRoom") {ik is ic nc : Nat} {cls text : String} {Kc : Int} {L : List String} {Qc : Array Value → State → Outcome → State → Prop} {A : Nat → Prop} (T : ThS own ik ic cls) (hs : (is, text) ∈ thW) (hK : Kc ≠ 0) (hE : cls = exN L Kc) (hz : ls.size = nL)
    (d0 : decode cc pc = .ok (.new ik, 3)) (d3 : decode cc (pc + 3) = .ok (.dup, 1)) (d4 : decode cc (pc + 4) = .ok (.ldc is, 2)) (d6 : decode cc (pc + 6) = .ok (.invokespecial ic, 3)) (d9 : decode cc (pc + 9) = .ok (.athrow, 1))
    (hf : 6 ≤ R.frames) (hlo : (rest.map fun v => v.category).sum + 82 ≤ R.locals) (hc : cells + 1 ≤ nc ∧ nc ≤ R.cells) (hsl : slots + 6 ≤ 6 * nc ∧ 6 * nc ≤ R.slots) : W p l e R s m args below meth c s.heap [] cells slots (vx_MQ below Qc (XX Kc L) args s nc (6 * nc) A) (F0 m pc ls rest) := by
  obtain ⟨w1, w2, w3⟩ := th_words C K T
  obtain ⟨t0, t1, -, -, -, -, t5, -⟩ := T
  obtain ⟨a, ha⟩ := K.1.2.1 _ hs
  subst hown
  exact vx_throwS (names := nm2) C.1 C.2.1 hst C.2.2.2.1 t0 t1 w1 w2 ha w3 t5 K.2.2.1 K.2.2.2.1 va_S.rf (hz.trans C.2.2.1.symm) d0 d3 d4 d6 d9 (fun y hy => (ht y hy).elim) (by show 2 + 3 < R.frames; omega) (by show _ + (13 * (2 + 1) + 43) ≤ _; omega) (by omega) (by omega) C.2.2.2.2.2.2.1 (fun t _ h1 h2 => ⟨hK, hE, h1, h2⟩) (fun z hz => by cases hz) (by omega) (by omega)
theorem r_throwW (C : Cx p s m args meth c cc nL own ret x g) (hst : l.stackTraces = false) (K : SK k s s.heap) (ht : NoT c) (hown : own = "LentRoom") {ik is ic nc : Nat} {cls text : String} {Kc : Int} {L : List String} {Qc : Array Value → State → Outcome → State → Prop} {A : Nat → Prop} (T : ThS own ik ic cls) (hs : (is, text) ∈ thW) (hK : Kc ≠ 0) (hE : cls = exN L Kc) (hz : ls.size = nL)
    (d0 : decode cc pc = .ok (.new ik, 3)) (d3 : decode cc (pc + 3) = .ok (.dup, 1)) (d4 : decode cc (pc + 4) = .ok (.ldc_w is, 3)) (d6 : decode cc (pc + 7) = .ok (.invokespecial ic, 3)) (d9 : decode cc (pc + 10) = .ok (.athrow, 1))
    (hf : 6 ≤ R.frames) (hlo : (rest.map fun v => v.category).sum + 82 ≤ R.locals) (hc : cells + 1 ≤ nc ∧ nc ≤ R.cells) (hsl : slots + 6 ≤ 6 * nc ∧ 6 * nc ≤ R.slots) : W p l e R s m args below meth c s.heap [] cells slots (vx_MQ below Qc (XX Kc L) args s nc (6 * nc) A) (F0 m pc ls rest) := by
  obtain ⟨w1, w2, w3⟩ := th_words C K T
  obtain ⟨t0, t1, -, -, -, -, t5, -⟩ := T
  obtain ⟨a, ha⟩ := K.1.2.1 _ hs
  subst hown
  exact vx_throwSW (names := nm2) C.1 C.2.1 hst C.2.2.2.1 t0 t1 w1 w2 ha w3 t5 K.2.2.1 K.2.2.2.1 va_S.rf (hz.trans C.2.2.1.symm) d0 d3 d4 d6 d9 (fun y hy => (ht y hy).elim) (by show 2 + 3 < R.frames; omega) (by show _ + (13 * (2 + 1) + 43) ≤ _; omega) (by omega) (by omega) C.2.2.2.2.2.2.1 (fun t _ h1 h2 => ⟨hK, hE, h1, h2⟩) (fun z hz => by cases hz) (by omega) (by omega)
/-! ends -/
theorem r_iretX (C : Cx p s m args meth c cc nL own ret x g) {v r : Int32} {ty : FieldType} {A : Nat → Prop} {P' : Heap → Prop} {Kc : Int} {XC : String → State → State → Prop} {mc ms : Nat} (hret : ret = some ty) (hn : narrow ty (.int v) = .int v) (hv : v = r) (hF : Fr A s.heap H locs) (hK : Kc = 0) (hP : P' H) (h1 : cells ≤ mc) (h2 : slots ≤ ms) (d : decode cc pc = .ok (.ireturn, 1)) : W p l e R s m args below meth c H locs cells slots (vx_MQ below (XHQ Kc (some (.int r)) A P') XC args s mc ms A) (F0 m pc ls [.int v]) := by
  subst hv
  have hl : meth.locks = false := C.2.2.2.2.2.2.1
  refine W.widen h1 h2 (vx_ret ?_)
  exact W.zret (ty := ty) C.1 C.2.1 (C.2.2.2.2.2.1.trans hret) hn (fun t ht _ => ⟨hK, rfl, ht ▸ hP, by rw [ht]; exact hF.1, fun q hq => by rw [ht]; exact hF.2.1 q hq⟩) hF.2.2 d hl
theorem r_vretX (C : Cx p s m args meth c cc nL own ret x g) {A : Nat → Prop} {P' : Heap → Prop} {Kc : Int} {XC : String → State → State → Prop} {mc ms : Nat} (hret : ret = none) (hF : Fr A s.heap H locs) (hK : Kc = 0) (hP : P' H) (h1 : cells ≤ mc) (h2 : slots ≤ ms) (d : decode cc pc = .ok (.return_, 1)) : W p l e R s m args below meth c H locs cells slots (vx_MQ below (XHQ Kc none A P') XC args s mc ms A) (F0 m pc ls []) := by
  have hl : meth.locks = false := C.2.2.2.2.2.2.1
  refine W.widen h1 h2 (vx_ret ?_)
  exact W.vret C.1 C.2.1 (C.2.2.2.2.2.1.trans hret) (fun t ht _ => ⟨hK, rfl, ht ▸ hP, by rw [ht]; exact hF.1, fun q hq => by rw [ht]; exact hF.2.1 q hq⟩) hF.2.2 d hl
theorem r_vretXP (C : Cx p s m args meth c cc nL own ret x g) {Kc : Int} {XC : String → State → State → Prop} {mc ms : Nat} (hret : ret = none) (hK : Kc = 0) (h1 : cells ≤ mc) (h2 : slots ≤ ms) (d : decode cc pc = .ok (.return_, 1)) : W p l e R s m args below meth c s.heap [] cells slots (vx_MQ below (XPQ Kc none) XC args s mc ms (fun _ => False)) (F0 m pc ls []) := by
  have hl : meth.locks = false := C.2.2.2.2.2.2.1
  refine W.widen h1 h2 (vx_ret ?_)
  exact W.vret C.1 C.2.1 (C.2.2.2.2.2.1.trans hret) (fun t ht _ => ⟨hK, rfl, ht⟩) (fun q hq => by cases hq) d hl
/-! calls -/
variable {y : MethodName} {bytes : ByteArray} {maxL idx n f lo nc : Nat} {ret' : Option FieldType} {As : List Value} {P : Heap → Prop} {v : Option Value} {A A' : Nat → Prop} {P' : Heap → Prop} {b : Nat} {cls : String} {H0 : Heap} {Kc : Int} {L : List String}
theorem cwx_V (C : Cx p s m args meth c cc nL own ret x g) (S : SiteV own idx cls y bytes maxL ret' n) (hR : f + 1 ≤ R.frames ∧ 8 + (maxL + 11) + lo ≤ R.locals) : CallW R s args own cls idx y bytes maxL ret' (.code y bytes maxL ret' :: AL) (rmx f lo nc) nc (6 * nc) n := by
  have hts := C.2.2.2.2.1
  obtain ⟨⟨h1, h2, h3, h4, h5⟩, h6, h7⟩ := S
  have ok : ∀ w, w ∈ AL → w.before args s = true := fun w hw => hts w (List.mem_cons_of_mem _ hw)
  subst h6
  exact ⟨callB_of n hts (good_ws h5) rfl rfl rfl (ok _ h4) (ok _ h1) h7 hR, ok _ h2, ok _ h3⟩
theorem cwx_S (C : Cx p s m args meth c cc nL own ret x g) (S : SiteS own idx y bytes maxL ret' n) (hR : f + 1 ≤ R.frames ∧ 8 + (maxL + 11) + lo ≤ R.locals) : CallB R s args own idx y bytes maxL ret' (.code y bytes maxL ret' :: AL) (rmx f lo nc) nc (6 * nc) n ∧ (Cond.static y).before args s = true := by
  have hts := C.2.2.2.2.1
  obtain ⟨⟨h1, h2, h4, h5⟩, h7⟩ := S
  have ok : ∀ w, w ∈ AL → w.before args s = true := fun w hw => hts w (List.mem_cons_of_mem _ hw)
  exact ⟨callB_of n hts (good_ws h5) rfl rfl rfl (ok _ h4) (ok _ h1) h7 hR, ok _ h2⟩
theorem xr_P {a : Array Value} {j : JFrame} {mc ms : Nat} (hr : vx_Run p l e R s m args below meth c H locs cells slots mc ms j rest (XPQ Kc v a) (XX Kc L) (fun _ => False))
    (kx : ∀ (H1 : Heap) (q : Nat) (ce : Cell), Kc ≠ 0 → H.size ≤ H1.size → (∀ z : Nat, z < H.size → H1[z]? = H[z]?) → H1[q]? = some ce → ce.vm = .none → s.vm.findClass (exN L Kc) = some ce.cls → vx_W p l e R s m args below meth c H1 locs (cells + mc) (slots + ms) Q { j with stack := rest } q)
    (kk : Kc = 0 → W p l e R s m args below meth c H locs (cells + mc) (slots + ms) Q { j with pc := j.pc + 3, stack := v.toList ++ rest }) : W p l e R s m args below meth c H locs cells slots Q j := by
  intro T hT X
  rcases hr T hT X with ⟨v', st₀, t, T', L9, h0, X', hL, e1, e2, ⟨hK, hv, hh⟩, st⟩ | ⟨q, st₀, t, T', L9, E, ce, h0, X', hL, e1, e2, ⟨hK, hE, hz, hk⟩, hce, hcv, hcl, st⟩
  · cases hv
    obtain ⟨t2, a1, b1⟩ := kk hK T' (by rw [e1, hh, h0]) (Stand.forget X' (fun q h => (hL q h).elim))
    exact ⟨t2, st t2 a1, b1⟩
  · rw [h0] at hz hk
    rw [hE] at hcl
    obtain ⟨t2, a1, b1⟩ := kx T'.heap q ce hK (by rw [e1]; exact hz) (by rw [e1]; exact hk) (by rw [e1]; exact hce) hcv hcl T' rfl (Stand.forget X' (fun q h => (hL q h).elim))
    exact ⟨t2, st.trans a1, b1⟩
/-- a call of one that may throw, and then so does this one -/
theorem r_vXn (C : Cx p s m args meth c cc nL own ret x g) (K : SK k s s.heap) (ht : NoT c) (hM : XP l y bytes maxL ret' f lo nc g k (.ref b :: As) P Kc L none) (S : SiteV own idx cls y bytes maxL ret' n) (hP : P s.heap) (hrec : ∃ cell : Cell, s.heap[b]? = some cell ∧ cell.vm.isStatics = false ∧ s.vm.findClass cls = some cell.cls) {Kd : Int} {Ld : List String} {Qc : Array Value → State → Outcome → State → Prop} {nd : Nat} (hX : Kc ≠ 0 → Kd ≠ 0 ∧ exN L Kc = exN Ld Kd) (hz : ls.size = nL) (hn : As.length = n) (hR : RM f lo maxL R) (hst : st = As.reverse ++ .ref b :: rest) (hw : (rest.map fun v => v.category).sum ≤ 8) (hf : cells + nc ≤ R.cells ∧ slots + 6 * nc ≤ R.slots) (hd : cells + nc ≤ nd ∧ slots + 6 * nc ≤ 6 * nd) (d : decode cc pc = .ok (.invokevirtual idx, 3)) (kk : Kc = 0 → W p l e R s m args below meth c s.heap [] (cells + nc) (slots + 6 * nc) (vx_MQ below Qc (XX Kd Ld) args s nd (6 * nd) A) (F0 m (pc + 3) ls rest)) : W p l e R s m args below meth c s.heap [] cells slots (vx_MQ below Qc (XX Kd Ld) args s nd (6 * nd) A) (F0 m pc ls st) := by
  have hr := vx_runV (p := p) (l := l) (e := e) (R := R) (s := s) (m := m) (args := args) (below := below) (meth := meth) (c := c) (H := s.heap) (locs := []) (cells := cells) (slots := slots) (C := cls) (n := n) (rest := rest) (g := F0 m pc ls st) ⟨C.1, C.2.1, C.2.2.1, C.2.2.2.1, C.2.2.2.2.1⟩ hM (cwx_V C S hR) ⟨pck_blind, hrec, pck_pre C K hP⟩ rfl hn hz hst (lv_room hw) d hf
  refine xr_P hr (fun H1 q ce hK h1 h2 h3 h4 h5 => ?_) kk
  obtain ⟨hKd, hEE⟩ := hX hK
  exact vx_out (fun y hy => (ht y hy).elim) C.2.2.2.2.2.2.1 h3 h4 h5 (fun t htH _ => ⟨hKd, hEE, by rw [htH]; exact h1, fun z hz => by rw [htH]; exact h2 z hz⟩) (fun z hz => by cases hz) hd.1 hd.2
theorem r_sXn (C : Cx p s m args meth c cc nL own ret x g) (K : SK k s s.heap) (ht : NoT c) (hM : XP l y bytes maxL ret' f lo nc g k As P Kc L none) (S : SiteS own idx y bytes maxL ret' n) (hP : P s.heap) {Kd : Int} {Ld : List String} {Qc : Array Value → State → Outcome → State → Prop} {nd : Nat} (hX : Kc ≠ 0 → Kd ≠ 0 ∧ exN L Kc = exN Ld Kd) (hz : ls.size = nL) (hn : As.length = n) (hR : RM f lo maxL R) (hst : st = As.reverse ++ rest) (hw : (rest.map fun v => v.category).sum ≤ 8) (hf : cells + nc ≤ R.cells ∧ slots + 6 * nc ≤ R.slots) (hd : cells + nc ≤ nd ∧ slots + 6 * nc ≤ 6 * nd) (d : decode cc pc = .ok (.invokestatic idx, 3)) (kk : Kc = 0 → W p l e R s m args below meth c s.heap [] (cells + nc) (slots + 6 * nc) (vx_MQ below Qc (XX Kd Ld) args s nd (6 * nd) A) (F0 m (pc + 3) ls rest)) : W p l e R s m args below meth c s.heap [] cells slots (vx_MQ below Qc (XX Kd Ld) args s nd (6 * nd) A) (F0 m pc ls st) := by
  have hr := vx_runS (p := p) (l := l) (e := e) (R := R) (s := s) (m := m) (args := args) (below := below) (meth := meth) (c := c) (H := s.heap) (locs := []) (cells := cells) (slots := slots) (n := n) (rest := rest) (g := F0 m pc ls st) ⟨C.1, C.2.1, C.2.2.1, C.2.2.2.1, C.2.2.2.2.1⟩ hM (cwx_S C S hR) ⟨pck_blind, pck_pre C K hP⟩ rfl hn hz hst (lv_room hw) d hf
  refine xr_P hr (fun H1 q ce hK h1 h2 h3 h4 h5 => ?_) kk
  obtain ⟨hKd, hEE⟩ := hX hK
  exact vx_out (fun y hy => (ht y hy).elim) C.2.2.2.2.2.2.1 h3 h4 h5 (fun t htH _ => ⟨hKd, hEE, by rw [htH]; exact h1, fun z hz => by rw [htH]; exact h2 z hz⟩) (fun z hz => by cases hz) hd.1 hd.2
/-! what changes nothing, with the literals -/
theorem r_vK (C : Cx p s m args meth c cc nL own ret x g) (K : SK k s H) (hM : CK l y bytes maxL ret' f lo g k (.ref b :: As) P v) (S : SiteV own idx cls y bytes maxL ret' n) (hP : P H) (hrec : ∃ cell : Cell, H[b]? = some cell ∧ cell.vm.isStatics = false ∧ s.vm.findClass cls = some cell.cls) (hz : ls.size = nL) (hn : As.length = n) (hR : RM f lo maxL R) (hst : st = As.reverse ++ .ref b :: rest) (hw : (rest.map fun v => v.category).sum ≤ 8) (hf : cells + 0 ≤ R.cells ∧ slots + 0 ≤ R.slots) (d : decode cc pc = .ok (.invokevirtual idx, 3)) (kk : W p l e R s m args below meth c H locs cells slots Q (F0 m (pc + 3) ls (v.toList ++ rest))) : W p l e R s m args below meth c H locs cells slots Q (F0 m pc ls st) :=
  cr_P (W.runV (C := cls) (n := n) (rest := rest) ⟨C.1, C.2.1, C.2.2.1, C.2.2.2.1, C.2.2.2.2.1⟩ hM (cw_V C S hR) ⟨pck_blind, hrec, pck_pre C K hP⟩ rfl hn hz hst (lv_room hw) d hf) kk
theorem r_sK (C : Cx p s m args meth c cc nL own ret x g) (K : SK k s H) (hM : CK l y bytes maxL ret' f lo g k As P v) (S : SiteS own idx y bytes maxL ret' n) (hP : P H) (hz : ls.size = nL) (hn : As.length = n) (hR : RM f lo maxL R) (hst : st = As.reverse ++ rest) (hw : (rest.map fun v => v.category).sum ≤ 8) (hf : cells + 0 ≤ R.cells ∧ slots + 0 ≤ R.slots) (d : decode cc pc = .ok (.invokestatic idx, 3)) (kk : W p l e R s m args below meth c H locs cells slots Q (F0 m (pc + 3) ls (v.toList ++ rest))) : W p l e R s m args below meth c H locs cells slots Q (F0 m pc ls st) :=
  cr_P (W.runS (n := n) (rest := rest) ⟨C.1, C.2.1, C.2.2.1, C.2.2.2.1, C.2.2.2.2.1⟩ hM (cw_S C S hR) ⟨pck_blind, pck_pre C K hP⟩ rfl hn hz hst (lv_room hw) d hf) kk
theorem r_vKi {r : Int32} (C : Cx p s m args meth c cc nL own ret x g) (K : SK k s H) (hM : CK l y bytes maxL ret' f lo g k (.ref b :: As) P (some (.int r))) (S : SiteV own idx cls y bytes maxL ret' n) (hP : P H) (hrec : ∃ cell : Cell, H[b]? = some cell ∧ cell.vm.isStatics = false ∧ s.vm.findClass cls = some cell.cls) (hz : ls.size = nL) (hn : As.length = n) (hR : RM f lo maxL R) (hst : st = As.reverse ++ .ref b :: rest) (hw : (rest.map fun v => v.category).sum ≤ 8) (hf : cells + 0 ≤ R.cells ∧ slots + 0 ≤ R.slots) (d : decode cc pc = .ok (.invokevirtual idx, 3)) (kk : W p l e R s m args below meth c H locs cells slots Q (F0 m (pc + 3) ls (.int r :: rest))) : W p l e R s m args below meth c H locs cells slots Q (F0 m pc ls st) := r_vK C K hM S hP hrec hz hn hR hst hw hf d kk
theorem r_vKr {r : Nat} (C : Cx p s m args meth c cc nL own ret x g) (K : SK k s H) (hM : CK l y bytes maxL ret' f lo g k (.ref b :: As) P (some (.ref r))) (S : SiteV own idx cls y bytes maxL ret' n) (hP : P H) (hrec : ∃ cell : Cell, H[b]? = some cell ∧ cell.vm.isStatics = false ∧ s.vm.findClass cls = some cell.cls) (hz : ls.size = nL) (hn : As.length = n) (hR : RM f lo maxL R) (hst : st = As.reverse ++ .ref b :: rest) (hw : (rest.map fun v => v.category).sum ≤ 8) (hf : cells + 0 ≤ R.cells ∧ slots + 0 ≤ R.slots) (d : decode cc pc = .ok (.invokevirtual idx, 3)) (kk : W p l e R s m args below meth c H locs cells slots Q (F0 m (pc + 3) ls (.ref r :: rest))) : W p l e R s m args below meth c H locs cells slots Q (F0 m pc ls st) := r_vK C K hM S hP hrec hz hn hR hst hw hf d kk
theorem r_vKn (C : Cx p s m args meth c cc nL own ret x g) (K : SK k s H) (hM : CK l y bytes maxL ret' f lo g k (.ref b :: As) P none) (S : SiteV own idx cls y bytes maxL ret' n) (hP : P H) (hrec : ∃ cell : Cell, H[b]? = some cell ∧ cell.vm.isStatics = false ∧ s.vm.findClass cls = some cell.cls) (hz : ls.size = nL) (hn : As.length = n) (hR : RM f lo maxL R) (hst : st = As.reverse ++ .ref b :: rest) (hw : (rest.map fun v => v.category).sum ≤ 8) (hf : cells + 0 ≤ R.cells ∧ slots + 0 ≤ R.slots) (d : decode cc pc = .ok (.invokevirtual idx, 3)) (kk : W p l e R s m args below meth c H locs cells slots Q (F0 m (pc + 3) ls rest)) : W p l e R s m args below meth c H locs cells slots Q (F0 m pc ls st) := r_vK C K hM S hP hrec hz hn hR hst hw hf d kk
theorem r_sKi {r : Int32} (C : Cx p s m args meth c cc nL own ret x g) (K : SK k s H) (hM : CK l y bytes maxL ret' f lo g k As P (some (.int r))) (S : SiteS own idx y bytes maxL ret' n) (hP : P H) (hz : ls.size = nL) (hn : As.length = n) (hR : RM f lo maxL R) (hst : st = As.reverse ++ rest) (hw : (rest.map fun v => v.category).sum ≤ 8) (hf : cells + 0 ≤ R.cells ∧ slots + 0 ≤ R.slots) (d : decode cc pc = .ok (.invokestatic idx, 3)) (kk : W p l e R s m args below meth c H locs cells slots Q (F0 m (pc + 3) ls (.int r :: rest))) : W p l e R s m args below meth c H locs cells slots Q (F0 m pc ls st) := r_sK C K hM S hP hz hn hR hst hw hf d kk
theorem r_sKr {r : Nat} (C : Cx p s m args meth c cc nL own ret x g) (K : SK k s H) (hM : CK l y bytes maxL ret' f lo g k As P (some (.ref r))) (S : SiteS own idx y bytes maxL ret' n) (hP : P H) (hz : ls.size = nL) (hn : As.length = n) (hR : RM f lo maxL R) (hst : st = As.reverse ++ rest) (hw : (rest.map fun v => v.category).sum ≤ 8) (hf : cells + 0 ≤ R.cells ∧ slots + 0 ≤ R.slots) (d : decode cc pc = .ok (.invokestatic idx, 3)) (kk : W p l e R s m args below meth c H locs cells slots Q (F0 m (pc + 3) ls (.ref r :: rest))) : W p l e R s m args below meth c H locs cells slots Q (F0 m pc ls st) := r_sK C K hM S hP hz hn hR hst hw hf d kk
theorem r_sKn (C : Cx p s m args meth c cc nL own ret x g) (K : SK k s H) (hM : CK l y bytes maxL ret' f lo g k As P none) (S : SiteS own idx y bytes maxL ret' n) (hP : P H) (hz : ls.size = nL) (hn : As.length = n) (hR : RM f lo maxL R) (hst : st = As.reverse ++ rest) (hw : (rest.map fun v => v.category).sum ≤ 8) (hf : cells + 0 ≤ R.cells ∧ slots + 0 ≤ R.slots) (d : decode cc pc = .ok (.invokestatic idx, 3)) (kk : W p l e R s m args below meth c H locs cells slots Q (F0 m (pc + 3) ls rest)) : W p l e R s m args below meth c H locs cells slots Q (F0 m pc ls st) := r_sK C K hM S hP hz hn hR hst hw hf d kk
end XROWS

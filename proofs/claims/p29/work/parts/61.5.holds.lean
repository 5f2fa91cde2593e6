theorem s_RL_179 : SiteS "LentRoomLaw" 179 yL_wouldTake cL_wouldTake 3 (some .boolean) 2 := ⟨⟨q_5773, q_5774, q_29, q_5775⟩, by decide, by decide, by decide +kernel⟩
/-- the time of the page before the i-th -/
def lst (F : Nat → Int) (s : Nat) : Nat → Int
  | 0 => 0
  | j + 1 => tmo F s j
theorem lst_b {F : Nat → Int} {T : Int} {s : Nat} (h : J F z0 T) (hs : s < 5) : ∀ {i : Nat}, (i : Int) < tk F s → 0 ≤ lst F s i ∧ lst F s i < tmo F s i
  | 0, hi => ⟨Int.le_refl 0, (od_in h hs hi).2.1⟩
  | j + 1, hi => ⟨by have := (od_in h hs (i := j) (by omega)).2.1; show 0 ≤ tmo F s j; omega, (od_in h hs hi).2.2.2 j rfl⟩
section IORL
variable {p : Program} {l : Launch} {e : Env} {R : Room} {s : State} {m : MethodId} {args : Array Value} {below : List Frame} {meth : Method} {c : Code} {H : Heap} {locs : List Loc} {cells slots : Nat} {Q : State → Prop}
variable {cc : ByteArray} {nL : Nat} {own : String} {ret : Option FieldType} {x : Cond} {g : Gt} {pc : Nat} {ls : Array Slot} {rest : List Value}
theorem r_iorL (C : Cx p s m args meth c cc nL own ret x g) {a z r : Int} (h : iI a ||| iI z = iI r) (d : decode cc pc = .ok (.ior, 1)) (kk : W p l e R s m args below meth c H locs cells slots Q (F0 m (pc + 1) ls (.int (iI r) :: rest))) : W p l e R s m args below meth c H locs cells slots Q (F0 m pc ls (.int (iI z) :: .int (iI a) :: rest)) := by
  refine lv_ior C.1 C.2.1 d ?_
  rw [h]
  exact kk
end IORL
set_option maxHeartbeats 4000000 in
theorem h_677 (l : Launch) (hst : l.stackTraces = false) (g : Gt) (kt : Kt) (b : Nat) (hkb : kt.1 ≤ b) {ac : Int} {F DIA KEP ISK : Nat → Int} {T : Int} (hI : IVS ac F DIA KEP ISK T) (hT : T ≤ 900000) {zp : Program} {ze : Env} {zs : State} {zm : MethodId} {za : Array Value} {zb : List Frame} {zt : Method} {zc : Code} {x9 : Cond} (C : Cx zp zs zm za zt zc cL_holds 16 "LentRoomLaw" (some .boolean) x9 g) (KZ : SK kt zs zs.heap) (hkz : kt.1 ≤ zs.heap.size) (x : Int) (hx : 0 ≤ x ∧ x < 2147483648) (s : Nat) (hs5 : s < 5) (hsn : (s : Int) < F 0) : ∀ (H : Heap) (locs : List Loc), DW g b ac F DIA KEP ISK H → GT (Cdp b) zs.heap H locs → ∀ ls : Array Slot, lv_has ls 16 [(12, .int (iI (S5 (gF F s (gN F s 60 0)) 5 - S5 F 5))), (11, .int (iI ((gN F s 61 0 : Nat) : Int))), (9, .int (iI (tk F s))), (8, .int (iI (s : Int))), (0, .ref b), (1, .int (iI x))] → W zp l ze (rmx 11 208 480) zs zm za zb zt zc H locs 475 (6 * 475) (MQ zb (TQ 1 (Cdp b) (DW g b ac F DIA KEP ISK)) za zs 480 (6 * 480) (Cdp b)) (F0 zm 677 ls []) := by
  have hJ := hI.j
  have hn := hJ.n
  have h1 := hI.ev.1
  obtain ⟨-, m2, m3, m4, m5, m6⟩ := harm_all hJ hT hs5 hsn
  have mk := m2 (x / 8 % 61).toNat (by omega)
  have mk0 := (gF_lost hJ hT hs5 hsn (gN F s (x / 8 % 61).toNat 0) (by have := gN_b F s (x / 8 % 61).toNat 0; omega)).1
  intro H locs hP G0 ls hl
  have Ks := G0.sk KZ hkz (fun q hq => by have := hq.1; omega)
  refine r_iload C (lv_at hl 0 rfl) dL_holds_677 ?_
  refine r_aload_n C rfl (lv_at hl 4 rfl) dL_holds_679 ?_
  refine r_bipush C (by decide) dL_holds_680 ?_
  refine r_iload C (lv_at hl 3 rfl) dL_holds_682 ?_
  refine r_iload_n C rfl (lv_at hl 5 rfl) dL_holds_684 ?_
  refine r_bipush C (by decide) dL_holds_685 ?_
  refine r_idiv C (by omega) (by omega) dL_holds_687 ?_
  refine r_bipush C (by decide) dL_holds_688 ?_
  refine r_irem C (by omega) (by omega) dL_holds_690 ?_
  refine r_iconst C dL_holds_691 ?_
  refine r_sT (rest := [.int (iI (S5 (gF F s (gN F s 60 0)) 5 - S5 F 5))]) (c9 := 477) (r := S5 (gF F s (gN F s (x / 8 % 61 : Int).toNat 0)) 5 - S5 F 5) C Ks (k_call_15 l hst g kt b 0 ac z0 F DIA KEP ISK T hJ hT (s : Int) (x / 8 % 61) (by omega) (by omega) s ((x / 8 % 61 : Int).toNat) (fun _ => by omega) (fun _ => by omega) 0) ((tv_0 (by rw [if_neg (by omega), if_neg (by omega)])).trans (rfl)) s_RL_162 hP hl.1 rfl ⟨by decide, by decide⟩ rfl (Nat.le_of_ble_eq_true rfl) (by omega) (show 477 ≤ 480 by omega) (Nat.le_refl _) dL_holds_692 (pc9 := 695) rfl (fun H1 L1 p1 F1 => ?_)
  have G1 := G0.call (fun _ h => h) F1
  have K1 := G1.sk KZ hkz (fun q hq => by have := hq.1; omega)
  have hP1 := rdw p1
  refine r_icmp_lt (tgt := 722) C (by decide) (by omega) (by omega) dL_holds_695 (fun z9 => absurd z9 (by omega)) (fun z9 => ?_)
  refine r_aload_n C rfl (lv_at hl 4 rfl) dL_holds_698 ?_
  refine r_bipush C (by decide) dL_holds_699 ?_
  refine r_iload C (lv_at hl 3 rfl) dL_holds_701 ?_
  refine r_iconst C dL_holds_703 ?_
  refine r_iconst C dL_holds_704 ?_
  refine r_sT (rest := []) (c9 := 479) (r := 0) C K1 (k_call_15 l hst g kt b 0 ac z0 F DIA KEP ISK T hJ hT (s : Int) 0 (by omega) (by omega) s 0 (fun _ => by omega) (fun _ => by omega) 0) ((tv_0 (by rw [if_neg (by omega), if_neg (by omega)])).trans (m3)) s_RL_162 hP1 hl.1 rfl ⟨by decide, by decide⟩ rfl (Nat.le_of_ble_eq_true rfl) (by omega) (show 479 ≤ 480 by omega) (Nat.le_refl _) dL_holds_705 (pc9 := 708) rfl (fun H2 L2 p2 F2 => ?_)
  have G2 := G1.call (fun _ h => h) F2
  have K2 := G2.sk KZ hkz (fun q hq => by have := hq.1; omega)
  have hP2 := rdw p2
  refine r_if_ne (tgt := 722) C (by decide) (by decide) dL_holds_708 (fun z9 => absurd z9 (by decide)) (fun z9 => ?_)
  refine r_iload C (lv_at hl 0 rfl) dL_holds_711 ?_
  refine r_iload C (lv_at hl 1 rfl) dL_holds_713 ?_
  refine r_icmp_gt (tgt := 722) C (by decide) (by omega) (by omega) dL_holds_715 (fun z9 => absurd z9 (by omega)) (fun z9 => ?_)
  refine r_iconst C dL_holds_718 ?_
  refine r_goto (tgt := 723) C (by decide) dL_holds_719 ?_
  exact r_tret C rfl rfl rfl G2 hP2 (by omega) (by omega) dL_holds_723
set_option maxHeartbeats 4000000 in
theorem h_645 (l : Launch) (hst : l.stackTraces = false) (g : Gt) (kt : Kt) (b : Nat) (hkb : kt.1 ≤ b) {ac : Int} {F DIA KEP ISK : Nat → Int} {T : Int} (hI : IVS ac F DIA KEP ISK T) (hT : T ≤ 900000) {zp : Program} {ze : Env} {zs : State} {zm : MethodId} {za : Array Value} {zb : List Frame} {zt : Method} {zc : Code} {x9 : Cond} (C : Cx zp zs zm za zt zc cL_holds 16 "LentRoomLaw" (some .boolean) x9 g) (KZ : SK kt zs zs.heap) (hkz : kt.1 ≤ zs.heap.size) (x : Int) (hx : 0 ≤ x ∧ x < 2147483648) (s : Nat) (hs5 : s < 5) (hsn : (s : Int) < F 0) : ∀ (H : Heap) (locs : List Loc), DW g b ac F DIA KEP ISK H → GT (Cdp b) zs.heap H locs → ∀ ls : Array Slot, lv_has ls 16 [(12, .int (iI (S5 (gF F s (gN F s 60 0)) 5 - S5 F 5))), (11, .int (iI ((gN F s 61 0 : Nat) : Int))), (9, .int (iI (tk F s))), (8, .int (iI (s : Int))), (0, .ref b), (1, .int (iI x))] → W zp l ze (rmx 11 208 480) zs zm za zb zt zc H locs 474 (6 * 474) (MQ zb (TQ 1 (Cdp b) (DW g b ac F DIA KEP ISK)) za zs 480 (6 * 480) (Cdp b)) (F0 zm 645 ls []) := by
  have hJ := hI.j
  have hn := hJ.n
  have h1 := hI.ev.1
  obtain ⟨m1, -, -, m4, m5, m6⟩ := harm_all hJ hT hs5 hsn
  have gb := gL_5 hJ hs5 hsn (fun _ _ _ => rfl) (gN F s 61 0) (by omega)
  intro H locs hP G0 ls hl
  have Ks := G0.sk KZ hkz (fun q hq => by have := hq.1; omega)
  refine r_iload C (lv_at hl 0 rfl) dL_holds_645 ?_
  refine r_if_le (tgt := 654) C (by decide) (by omega) dL_holds_647 (fun z6 => ?_) (fun z6 => ?_)
  · skip
    refine r_iconst C dL_holds_654 ?_
    refine r_aload_n C rfl (lv_at hl 4 rfl) dL_holds_655 ?_
    refine r_bipush C (by decide) dL_holds_656 ?_
    refine r_iload C (lv_at hl 3 rfl) dL_holds_658 ?_
    refine r_iconst C dL_holds_660 ?_
    refine r_iconst C dL_holds_661 ?_
    refine r_sT (rest := [.int (iI 0)]) (c9 := 475) (r := (-1)) C Ks (k_call_16 l hst g kt b 0 ac z0 F DIA KEP ISK T hJ hT (s : Int) (by omega) s (fun _ => by omega) 0 0) ((tv_0 (Kd_0.mpr ⟨by omega, by omega⟩)).trans (Classical.byContradiction fun q => by have := m1.mpr q; omega)) s_RL_162 hP hl.1 rfl ⟨by decide, by decide⟩ rfl (Nat.le_of_ble_eq_true rfl) (by omega) (show 475 ≤ 480 by omega) (Nat.le_refl _) dL_holds_662 (pc9 := 665) rfl (fun H1 L1 p1 F1 => ?_)
    have G1 := G0.call (fun _ h => h) F1
    have K1 := G1.sk KZ hkz (fun q hq => by have := hq.1; omega)
    have hP1 := rdw p1
    refine r_iconst C dL_holds_665 ?_
    refine r_icmp_eq (tgt := 673) C (by decide) (by decide) (by decide) dL_holds_666 (fun z9 => ?_) (fun z9 => absurd z9 (by decide))
    refine r_iconst C dL_holds_673 ?_
    refine r_icmp_ne (tgt := 722) C (by decide) (by decide) (by decide) dL_holds_674 (fun z9 => absurd z9 (by decide)) (fun z9 => ?_)
    exact W.widen (by omega) (by omega) (h_677 l hst g kt b hkb hI hT C KZ hkz x hx s hs5 hsn _ _ hP1 G1 _ (lv_sub hl [0, 1, 2, 3, 4, 5] rfl))
  · skip
    have mv := m1.mp (by omega)
    refine r_iconst C dL_holds_650 ?_
    refine r_goto (tgt := 655) C (by decide) dL_holds_651 ?_
    refine r_aload_n C rfl (lv_at hl 4 rfl) dL_holds_655 ?_
    refine r_bipush C (by decide) dL_holds_656 ?_
    refine r_iload C (lv_at hl 3 rfl) dL_holds_658 ?_
    refine r_iconst C dL_holds_660 ?_
    refine r_iconst C dL_holds_661 ?_
    refine r_sT (rest := [.int (iI 1)]) (c9 := 475) (r := gL F s (gN F s 61 0)) C Ks (k_call_16 l hst g kt b 0 ac z0 F DIA KEP ISK T hJ hT (s : Int) (by omega) s (fun _ => by omega) 0 0) ((tv_0 (Kd_0.mpr ⟨by omega, by omega⟩)).trans (rfl)) s_RL_162 hP hl.1 rfl ⟨by decide, by decide⟩ rfl (Nat.le_of_ble_eq_true rfl) (by omega) (show 475 ≤ 480 by omega) (Nat.le_refl _) dL_holds_662 (pc9 := 665) rfl (fun H2 L2 p2 F2 => ?_)
    have G2 := G0.call (fun _ h => h) F2
    have K2 := G2.sk KZ hkz (fun q hq => by have := hq.1; omega)
    have hP2 := rdw p2
    refine r_iconst C dL_holds_665 ?_
    refine r_icmp_eq (tgt := 673) C (by decide) (by omega) (by decide) dL_holds_666 (fun z9 => absurd z9 (by omega)) (fun z9 => ?_)
    refine r_iconst C dL_holds_669 ?_
    refine r_goto (tgt := 674) C (by decide) dL_holds_670 ?_
    refine r_icmp_ne (tgt := 722) C (by decide) (by decide) (by decide) dL_holds_674 (fun z9 => absurd z9 (by decide)) (fun z9 => ?_)
    exact W.widen (by omega) (by omega) (h_677 l hst g kt b hkb hI hT C KZ hkz x hx s hs5 hsn _ _ hP2 G2 _ (lv_sub hl [0, 1, 2, 3, 4, 5] rfl))
set_option maxHeartbeats 4000000 in
theorem h_585 (l : Launch) (hst : l.stackTraces = false) (g : Gt) (kt : Kt) (b : Nat) (hkb : kt.1 ≤ b) {ac : Int} {F DIA KEP ISK : Nat → Int} {T : Int} (hI : IVS ac F DIA KEP ISK T) (hT : T ≤ 900000) {zp : Program} {ze : Env} {zs : State} {zm : MethodId} {za : Array Value} {zb : List Frame} {zt : Method} {zc : Code} {x9 : Cond} (C : Cx zp zs zm za zt zc cL_holds 16 "LentRoomLaw" (some .boolean) x9 g) (KZ : SK kt zs zs.heap) (hkz : kt.1 ≤ zs.heap.size) (x : Int) (hx : 0 ≤ x ∧ x < 2147483648) (s : Nat) (hs5 : s < 5) (hsn : (s : Int) < F 0) : ∀ (H : Heap) (locs : List Loc), DW g b ac F DIA KEP ISK H → GT (Cdp b) zs.heap H locs → ∀ ls : Array Slot, lv_has ls 16 [(12, .int (iI (S5 (gF F s (gN F s 60 0)) 5 - S5 F 5))), (11, .int (iI ((gN F s 61 0 : Nat) : Int))), (9, .int (iI (tk F s))), (8, .int (iI (s : Int))), (0, .ref b), (1, .int (iI x))] → W zp l ze (rmx 11 208 480) zs zm za zb zt zc H locs 392 (6 * 392) (MQ zb (TQ 1 (Cdp b) (DW g b ac F DIA KEP ISK)) za zs 480 (6 * 480) (Cdp b)) (F0 zm 585 ls []) := by
  have hJ := hI.j
  have hn := hJ.n
  have h1 := hI.ev.1
  obtain ⟨-, -, -, -, -, m6⟩ := harm_all hJ hT hs5 hsn
  have htp := tk_pgc hJ hs5
  have hpb := pgc_b F s
  intro H locs hP G0 ls hl
  have Ks := G0.sk KZ hkz (fun q hq => by have := hq.1; omega)
  refine r_iload C (lv_at hl 1 rfl) dL_holds_585 ?_
  refine r_if_lt (tgt := 722) C (by decide) (by omega) dL_holds_587 (fun z9 => absurd z9 (by omega)) (fun z9 => ?_)
  refine r_iload C (lv_at hl 1 rfl) dL_holds_590 ?_
  refine r_if_le (tgt := 599) C (by decide) (by omega) dL_holds_592 (fun z5 => ?_) (fun z5 => ?_)
  · skip
    refine r_iconst C dL_holds_599 ?_
    refine r_iload C (lv_at hl 2 rfl) dL_holds_600 ?_
    refine r_bipush C (by decide) dL_holds_602 ?_
    refine r_icmp_eq (tgt := 616) C (by decide) (by omega) (by decide) dL_holds_604 (fun z4 => ?_) (fun z4 => ?_)
    · skip
      refine r_iconst C dL_holds_616 ?_
      refine r_goto (tgt := 621) C (by decide) dL_holds_617 ?_
      refine r_icmp_ne (tgt := 628) C (by decide) (by decide) (by decide) dL_holds_621 (fun z9 => ?_) (fun z9 => absurd z9 (by decide))
      refine r_iconst C dL_holds_628 ?_
      refine r_iload C (lv_at hl 2 rfl) dL_holds_629 ?_
      refine r_bipush C (by decide) dL_holds_631 ?_
      refine r_icmp_ne (tgt := 640) C (by decide) (by omega) (by decide) dL_holds_633 (fun z9 => absurd z9 (by omega)) (fun z9 => ?_)
      refine r_iconst C dL_holds_636 ?_
      refine r_goto (tgt := 641) C (by decide) dL_holds_637 ?_
      refine r_iorL (r := 1) C (by decide) dL_holds_641 ?_
      refine r_if_eq (tgt := 722) C (by decide) (by decide) dL_holds_642 (fun z9 => absurd z9 (by decide)) (fun z9 => ?_)
      exact W.widen (by omega) (by omega) (h_645 l hst g kt b hkb hI hT C KZ hkz x hx s hs5 hsn _ _ hP G0 _ (lv_sub hl [0, 1, 2, 3, 4, 5] rfl))
    · skip
      refine r_aload_n C rfl (lv_at hl 4 rfl) dL_holds_607 ?_
      refine r_iload C (lv_at hl 3 rfl) dL_holds_608 ?_
      refine r_sT (rest := [.int (iI 0)]) (c9 := 474) (r := 0) C Ks (k_wouldTake l hst g kt b hkb hI hT s hs5 hsn (by omega)) (pI_f (fun q => by have := (room_pos F s).mpr q; omega)) s_RL_179 hP hl.1 rfl ⟨by decide, by decide⟩ rfl (Nat.le_of_ble_eq_true rfl) (by omega) (show 474 ≤ 480 by omega) (Nat.le_refl _) dL_holds_610 (pc9 := 613) rfl (fun H1 L1 p1 F1 => ?_)
      have G1 := G0.call (fun _ h => h) F1
      have K1 := G1.sk KZ hkz (fun q hq => by have := hq.1; omega)
      refine r_if_eq (tgt := 620) C (by decide) (by decide) dL_holds_613 (fun z9 => ?_) (fun z9 => absurd z9 (by decide))
      refine r_iconst C dL_holds_620 ?_
      refine r_icmp_ne (tgt := 628) C (by decide) (by decide) (by decide) dL_holds_621 (fun z9 => absurd z9 (by decide)) (fun z9 => ?_)
      refine r_iconst C dL_holds_624 ?_
      refine r_goto (tgt := 629) C (by decide) dL_holds_625 ?_
      refine r_iload C (lv_at hl 2 rfl) dL_holds_629 ?_
      refine r_bipush C (by decide) dL_holds_631 ?_
      refine r_icmp_ne (tgt := 640) C (by decide) (by omega) (by decide) dL_holds_633 (fun z9 => ?_) (fun z9 => absurd z9 (by omega))
      refine r_iconst C dL_holds_640 ?_
      refine r_iorL (r := 1) C (by decide) dL_holds_641 ?_
      refine r_if_eq (tgt := 722) C (by decide) (by decide) dL_holds_642 (fun z9 => absurd z9 (by decide)) (fun z9 => ?_)
      exact W.widen (by omega) (by omega) (h_645 l hst g kt b hkb hI hT C KZ hkz x hx s hs5 hsn _ _ p1 G1 _ (lv_sub hl [0, 1, 2, 3, 4, 5] rfl))
  · skip
    refine r_iconst C dL_holds_595 ?_
    refine r_goto (tgt := 600) C (by decide) dL_holds_596 ?_
    refine r_iload C (lv_at hl 2 rfl) dL_holds_600 ?_
    refine r_bipush C (by decide) dL_holds_602 ?_
    refine r_icmp_eq (tgt := 616) C (by decide) (by omega) (by decide) dL_holds_604 (fun z4 => ?_) (fun z4 => ?_)
    · skip
      refine r_iconst C dL_holds_616 ?_
      refine r_goto (tgt := 621) C (by decide) dL_holds_617 ?_
      refine r_icmp_ne (tgt := 628) C (by decide) (by decide) (by decide) dL_holds_621 (fun z9 => absurd z9 (by decide)) (fun z9 => ?_)
      refine r_iconst C dL_holds_624 ?_
      refine r_goto (tgt := 629) C (by decide) dL_holds_625 ?_
      refine r_iload C (lv_at hl 2 rfl) dL_holds_629 ?_
      refine r_bipush C (by decide) dL_holds_631 ?_
      refine r_icmp_ne (tgt := 640) C (by decide) (by omega) (by decide) dL_holds_633 (fun z9 => absurd z9 (by omega)) (fun z9 => ?_)
      refine r_iconst C dL_holds_636 ?_
      refine r_goto (tgt := 641) C (by decide) dL_holds_637 ?_
      refine r_iorL (r := 1) C (by decide) dL_holds_641 ?_
      refine r_if_eq (tgt := 722) C (by decide) (by decide) dL_holds_642 (fun z9 => absurd z9 (by decide)) (fun z9 => ?_)
      exact W.widen (by omega) (by omega) (h_645 l hst g kt b hkb hI hT C KZ hkz x hx s hs5 hsn _ _ hP G0 _ (lv_sub hl [0, 1, 2, 3, 4, 5] rfl))
    · skip
      refine r_aload_n C rfl (lv_at hl 4 rfl) dL_holds_607 ?_
      refine r_iload C (lv_at hl 3 rfl) dL_holds_608 ?_
      refine r_sT (rest := [.int (iI 1)]) (c9 := 474) (r := 1) C Ks (k_wouldTake l hst g kt b hkb hI hT s hs5 hsn (by omega)) (pI_t ((room_pos F s).mp (by omega))) s_RL_179 hP hl.1 rfl ⟨by decide, by decide⟩ rfl (Nat.le_of_ble_eq_true rfl) (by omega) (show 474 ≤ 480 by omega) (Nat.le_refl _) dL_holds_610 (pc9 := 613) rfl (fun H2 L2 p2 F2 => ?_)
      have G2 := G0.call (fun _ h => h) F2
      have K2 := G2.sk KZ hkz (fun q hq => by have := hq.1; omega)
      refine r_if_eq (tgt := 620) C (by decide) (by decide) dL_holds_613 (fun z9 => absurd z9 (by decide)) (fun z9 => ?_)
      refine r_iconst C dL_holds_616 ?_
      refine r_goto (tgt := 621) C (by decide) dL_holds_617 ?_
      refine r_icmp_ne (tgt := 628) C (by decide) (by decide) (by decide) dL_holds_621 (fun z9 => absurd z9 (by decide)) (fun z9 => ?_)
      refine r_iconst C dL_holds_624 ?_
      refine r_goto (tgt := 629) C (by decide) dL_holds_625 ?_
      refine r_iload C (lv_at hl 2 rfl) dL_holds_629 ?_
      refine r_bipush C (by decide) dL_holds_631 ?_
      refine r_icmp_ne (tgt := 640) C (by decide) (by omega) (by decide) dL_holds_633 (fun z9 => ?_) (fun z9 => absurd z9 (by omega))
      refine r_iconst C dL_holds_640 ?_
      refine r_iorL (r := 1) C (by decide) dL_holds_641 ?_
      refine r_if_eq (tgt := 722) C (by decide) (by decide) dL_holds_642 (fun z9 => absurd z9 (by decide)) (fun z9 => ?_)
      exact W.widen (by omega) (by omega) (h_645 l hst g kt b hkb hI hT C KZ hkz x hx s hs5 hsn _ _ p2 G2 _ (lv_sub hl [0, 1, 2, 3, 4, 5] rfl))
set_option maxHeartbeats 4000000 in
theorem h_pages (l : Launch) (hst : l.stackTraces = false) (g : Gt) (kt : Kt) (b : Nat) (hkb : kt.1 ≤ b) {ac : Int} {F DIA KEP ISK : Nat → Int} {T : Int} (hI : IVS ac F DIA KEP ISK T) (hT : T ≤ 900000) {zp : Program} {ze : Env} {zs : State} {zm : MethodId} {za : Array Value} {zb : List Frame} {zt : Method} {zc : Code} {x9 : Cond} (C : Cx zp zs zm za zt zc cL_holds 16 "LentRoomLaw" (some .boolean) x9 g) (KZ : SK kt zs zs.heap) (hkz : kt.1 ≤ zs.heap.size) (x : Int) (hx : 0 ≤ x ∧ x < 2147483648) (s : Nat) (hs5 : s < 5) (hsn : (s : Int) < F 0) : ∀ (w i : Nat), i + w = (tk F s).toNat → ∀ (H : Heap) (locs : List Loc), DW g b ac F DIA KEP ISK H → GT (Cdp b) zs.heap H locs → ∀ ls : Array Slot, lv_has ls 16 [(11, .int (iI (i : Int))), (10, .int (iI (lst F s i))), (9, .int (iI (tk F s))), (8, .int (iI (s : Int))), (7, .int (iI 1)), (2, .int (iI (F 0))), (0, .ref b), (1, .int (iI x))] → W zp l ze (rmx 11 208 480) zs zm za zb zt zc H locs (227 + 4 * i + 0) (6 * (227 + 4 * i + 0)) (MQ zb (TQ 1 (Cdp b) (DW g b ac F DIA KEP ISK)) za zs 480 (6 * 480) (Cdp b)) (F0 zm 466 ls []) := by
  have hJ := hI.j
  have hn := hJ.n
  have h1 := hI.ev.1
  have htp := tk_pgc hJ hs5
  have hpb := pgc_b F s
  intro w
  induction w with
  | zero =>
    intro i hw H locs hP G0 ls hl
    have Ks := G0.sk KZ hkz (fun q hq => by have := hq.1; omega)
    refine r_iload C (lv_at hl 0 rfl) dL_holds_466 ?_
    refine r_iload C (lv_at hl 2 rfl) dL_holds_468 ?_
    refine r_icmp_ge (tgt := 540) C (by decide) (by omega) (by omega) dL_holds_470 (fun z9 => ?_) (fun z9 => absurd z9 (by omega))
    refine r_aload_n C rfl (lv_at hl 6 rfl) dL_holds_540 ?_
    refine r_bipush C (by decide) dL_holds_541 ?_
    refine r_iload C (lv_at hl 3 rfl) dL_holds_543 ?_
    refine r_iconst C dL_holds_545 ?_
    refine r_iconst C dL_holds_546 ?_
    refine r_sT (rest := []) (c9 := 227 + 4 * i + 1) (r := ((gN F s 61 0 : Nat) : Int)) C Ks (k_call_14 l hst g kt b 0 ac z0 F DIA KEP ISK T hJ hT (s : Int) (by omega) s (fun _ => by omega) 0 0) ((tv_0 (Kd_0.mpr ⟨by omega, by omega⟩)).trans (rfl)) s_RL_162 hP hl.1 rfl ⟨by decide, by decide⟩ rfl (Nat.le_of_ble_eq_true rfl) (by omega) (show 227 + 4 * i + 1 ≤ 480 by omega) (Nat.le_refl _) dL_holds_547 (pc9 := 550) rfl (fun H1 L1 p1 F1 => ?_)
    have G1 := G0.call (fun _ h => h) F1
    have K1 := G1.sk KZ hkz (fun q hq => by have := hq.1; omega)
    have hP1 := rdw p1
    refine r_istore (lv' := [(11, .int (iI ((gN F s 61 0 : Nat) : Int))), (10, .int (iI (lst F s i))), (9, .int (iI (tk F s))), (8, .int (iI (s : Int))), (7, .int (iI 1)), (2, .int (iI (F 0))), (0, .ref b), (1, .int (iI x))]) C hl (by decide) rfl dL_holds_550 (fun ls hl => ?_)
    refine r_aload_n C rfl (lv_at hl 6 rfl) dL_holds_552 ?_
    refine r_bipush C (by decide) dL_holds_553 ?_
    refine r_iload C (lv_at hl 3 rfl) dL_holds_555 ?_
    refine r_bipush C (by decide) dL_holds_557 ?_
    refine r_iconst C dL_holds_559 ?_
    refine r_sT (rest := []) (c9 := 227 + 4 * i + 3) (r := S5 (gF F s (gN F s 60 0)) 5 - S5 F 5) C K1 (k_call_15 l hst g kt b 0 ac z0 F DIA KEP ISK T hJ hT (s : Int) 60 (by omega) (by omega) s 60 (fun _ => by omega) (fun _ => by omega) 0) ((tv_0 (by rw [if_neg (by omega), if_neg (by omega)])).trans (rfl)) s_RL_162 hP1 hl.1 rfl ⟨by decide, by decide⟩ rfl (Nat.le_of_ble_eq_true rfl) (by omega) (show 227 + 4 * i + 3 ≤ 480 by omega) (Nat.le_refl _) dL_holds_560 (pc9 := 563) rfl (fun H2 L2 p2 F2 => ?_)
    have G2 := G1.call (fun _ h => h) F2
    have K2 := G2.sk KZ hkz (fun q hq => by have := hq.1; omega)
    have hP2 := rdw p2
    refine r_istore (lv' := [(12, .int (iI (S5 (gF F s (gN F s 60 0)) 5 - S5 F 5))), (11, .int (iI ((gN F s 61 0 : Nat) : Int))), (10, .int (iI (lst F s i))), (9, .int (iI (tk F s))), (8, .int (iI (s : Int))), (7, .int (iI 1)), (2, .int (iI (F 0))), (0, .ref b), (1, .int (iI x))]) C hl (by decide) rfl dL_holds_563 (fun ls hl => ?_)
    refine r_iload C (lv_at hl 5 rfl) dL_holds_565 ?_
    refine r_if_eq (tgt := 722) C (by decide) (by decide) dL_holds_567 (fun z9 => absurd z9 (by decide)) (fun z9 => ?_)
    refine r_aload_n C rfl (lv_at hl 7 rfl) dL_holds_570 ?_
    refine r_bipush C (by decide) dL_holds_571 ?_
    refine r_iload C (lv_at hl 4 rfl) dL_holds_573 ?_
    refine r_iload C (lv_at hl 3 rfl) dL_holds_575 ?_
    refine r_iconst C dL_holds_577 ?_
    refine r_sT (rest := []) (c9 := 227 + 4 * i + 5) (r := (-1)) C K2 (k_call_6 l hst g kt b 0 ac z0 F DIA KEP ISK T hJ hT (s : Int) (by omega) s (fun _ => by omega) (tk F s) (by omega) 0) ((tv_0 (by rw [if_neg (by omega), if_neg (by omega)])).trans (od_end hJ hs5)) s_RL_162 hP2 hl.1 rfl ⟨by decide, by decide⟩ rfl (Nat.le_of_ble_eq_true rfl) (by omega) (show 227 + 4 * i + 5 ≤ 480 by omega) (Nat.le_refl _) dL_holds_578 (pc9 := 581) rfl (fun H3 L3 p3 F3 => ?_)
    have G3 := G2.call (fun _ h => h) F3
    have K3 := G3.sk KZ hkz (fun q hq => by have := hq.1; omega)
    have hP3 := rdw p3
    refine r_iconst C dL_holds_581 ?_
    refine r_icmp_ne (tgt := 722) C (by decide) (by decide) (by decide) dL_holds_582 (fun z9 => absurd z9 (by decide)) (fun z9 => ?_)
    exact W.widen (by omega) (by omega) (h_585 l hst g kt b hkb hI hT C KZ hkz x hx s hs5 hsn _ _ hP3 G3 _ (lv_sub hl [0, 1, 3, 4, 7, 8] rfl))
  | succ w ih =>
    intro i hw H locs hP G0 ls hl
    have Ks := G0.sk KZ hkz (fun q hq => by have := hq.1; omega)
    have hti : (i : Int) < tk F s := by omega
    obtain ⟨o1, o2, o3, o4⟩ := od_in hJ hs5 hti
    have o5 := lst_b hJ hs5 hti
    have bc := hJ.S.1 1 (by omega)
    refine r_iload C (lv_at hl 0 rfl) dL_holds_466 ?_
    refine r_iload C (lv_at hl 2 rfl) dL_holds_468 ?_
    refine r_icmp_ge (tgt := 540) C (by decide) (by omega) (by omega) dL_holds_470 (fun z9 => absurd z9 (by omega)) (fun z9 => ?_)
    refine r_iload C (lv_at hl 4 rfl) dL_holds_473 ?_
    refine r_if_eq (tgt := 540) C (by decide) (by decide) dL_holds_475 (fun z9 => absurd z9 (by decide)) (fun z9 => ?_)
    refine r_aload_n C rfl (lv_at hl 6 rfl) dL_holds_478 ?_
    refine r_bipush C (by decide) dL_holds_479 ?_
    refine r_iload C (lv_at hl 3 rfl) dL_holds_481 ?_
    refine r_iload C (lv_at hl 0 rfl) dL_holds_483 ?_
    refine r_iconst C dL_holds_485 ?_
    refine r_sT (rest := []) (c9 := 227 + 4 * i + 2) (r := od F s (i : Int) 40 0) C Ks (k_call_6 l hst g kt b 0 ac z0 F DIA KEP ISK T hJ hT (s : Int) (by omega) s (fun _ => by omega) (i : Int) (by omega) 0) ((tv_0 (by rw [if_neg (by omega), if_neg (by omega)])).trans (rfl)) s_RL_162 hP hl.1 rfl ⟨by decide, by decide⟩ rfl (Nat.le_of_ble_eq_true rfl) (by omega) (show 227 + 4 * i + 2 ≤ 480 by omega) (Nat.le_refl _) dL_holds_486 (pc9 := 489) rfl (fun H4 L4 p4 F4 => ?_)
    have G4 := G0.call (fun _ h => h) F4
    have K4 := G4.sk KZ hkz (fun q hq => by have := hq.1; omega)
    have hP4 := rdw p4
    refine r_istore (lv' := [(12, .int (iI (od F s (i : Int) 40 0))), (11, .int (iI (i : Int))), (10, .int (iI (lst F s i))), (9, .int (iI (tk F s))), (8, .int (iI (s : Int))), (7, .int (iI 1)), (2, .int (iI (F 0))), (0, .ref b), (1, .int (iI x))]) C hl (by decide) rfl dL_holds_489 (fun ls hl => ?_)
    refine r_aload_n C rfl (lv_at hl 7 rfl) dL_holds_491 ?_
    refine r_iconst C dL_holds_492 ?_
    refine r_iload C (lv_at hl 4 rfl) dL_holds_493 ?_
    refine r_iload C (lv_at hl 0 rfl) dL_holds_495 ?_
    refine r_iconst C dL_holds_497 ?_
    refine r_sT (rest := []) (c9 := 227 + 4 * i + 3) (r := tmo F s i) C K4 (k_call_5 l hst g kt b 0 ac z0 F DIA KEP ISK T hJ hT (s : Int) (od F s (i : Int) 40 0) (by omega) (by omega) s ((od F s (i : Int) 40 0).toNat) (fun _ => by omega) (fun _ => by omega) 0) ((tv_0 (Kd_0.mpr ⟨⟨by omega, by omega⟩, ⟨by omega, by omega⟩⟩)).trans (if_neg (fun z => by have h9 : tmo F s i = 0 := z; omega))) s_RL_162 hP4 hl.1 rfl ⟨by decide, by decide⟩ rfl (Nat.le_of_ble_eq_true rfl) (by omega) (show 227 + 4 * i + 3 ≤ 480 by omega) (Nat.le_refl _) dL_holds_498 (pc9 := 501) rfl (fun H5 L5 p5 F5 => ?_)
    have G5 := G4.call (fun _ h => h) F5
    have K5 := G5.sk KZ hkz (fun q hq => by have := hq.1; omega)
    have hP5 := rdw p5
    refine r_istore (lv' := [(13, .int (iI (tmo F s i))), (12, .int (iI (od F s (i : Int) 40 0))), (11, .int (iI (i : Int))), (10, .int (iI (lst F s i))), (9, .int (iI (tk F s))), (8, .int (iI (s : Int))), (7, .int (iI 1)), (2, .int (iI (F 0))), (0, .ref b), (1, .int (iI x))]) C hl (by decide) rfl dL_holds_501 (fun ls hl => ?_)
    refine r_iload C (lv_at hl 0 rfl) dL_holds_503 ?_
    refine r_iload C (lv_at hl 3 rfl) dL_holds_505 ?_
    refine r_icmp_le (tgt := 527) C (by decide) (by omega) (by omega) dL_holds_507 (fun z9 => absurd z9 (by omega)) (fun z9 => ?_)
    refine r_iload C (lv_at hl 0 rfl) dL_holds_510 ?_
    refine r_aload_n C rfl (lv_at hl 8 rfl) dL_holds_512 ?_
    refine r_iconst C dL_holds_513 ?_
    refine r_iconst C dL_holds_514 ?_
    refine r_iconst C dL_holds_515 ?_
    refine r_iconst C dL_holds_516 ?_
    refine r_sT (rest := [.int (iI (tmo F s i))]) (c9 := 227 + 4 * i + 4) (r := F 1) C K5 (k_call_2 l hst g kt b 0 ac z0 F DIA KEP ISK T hJ hT 5 (by omega) 0 0) ((tv_0 (Kd_0.mpr ⟨by omega, by omega⟩)).trans (rfl)) s_RL_162 hP5 hl.1 rfl ⟨by decide, by decide⟩ rfl (Nat.le_of_ble_eq_true rfl) (by omega) (show 227 + 4 * i + 4 ≤ 480 by omega) (Nat.le_refl _) dL_holds_517 (pc9 := 520) rfl (fun H6 L6 p6 F6 => ?_)
    have G6 := G5.call (fun _ h => h) F6
    have K6 := G6.sk KZ hkz (fun q hq => by have := hq.1; omega)
    have hP6 := rdw p6
    refine r_icmp_gt (tgt := 527) C (by decide) (by omega) (by omega) dL_holds_520 (fun z9 => absurd z9 (by omega)) (fun z9 => ?_)
    refine r_iconst C dL_holds_523 ?_
    refine r_goto (tgt := 528) C (by decide) dL_holds_524 ?_
    refine r_istore (lv' := [(7, .int (iI 1)), (13, .int (iI (tmo F s i))), (12, .int (iI (od F s (i : Int) 40 0))), (11, .int (iI (i : Int))), (10, .int (iI (lst F s i))), (9, .int (iI (tk F s))), (8, .int (iI (s : Int))), (2, .int (iI (F 0))), (0, .ref b), (1, .int (iI x))]) C hl (by decide) rfl dL_holds_528 (fun ls hl => ?_)
    refine r_iload C (lv_at hl 1 rfl) dL_holds_530 ?_
    refine r_istore (lv' := [(10, .int (iI (tmo F s i))), (7, .int (iI 1)), (13, .int (iI (tmo F s i))), (12, .int (iI (od F s (i : Int) 40 0))), (11, .int (iI (i : Int))), (9, .int (iI (tk F s))), (8, .int (iI (s : Int))), (2, .int (iI (F 0))), (0, .ref b), (1, .int (iI x))]) C hl (by decide) rfl dL_holds_532 (fun ls hl => ?_)
    refine r_iinc (lv' := [(11, .int (iI ((i : Int) + 1))), (10, .int (iI (tmo F s i))), (7, .int (iI 1)), (13, .int (iI (tmo F s i))), (12, .int (iI (od F s (i : Int) 40 0))), (9, .int (iI (tk F s))), (8, .int (iI (s : Int))), (2, .int (iI (F 0))), (0, .ref b), (1, .int (iI x))]) C hl (q := 4) rfl (by decide) rfl dL_holds_534 (fun ls hl => ?_)
    refine r_goto (tgt := 466) C (by decide) dL_holds_537 ?_
    rw [show ((i : Int) + 1) = ((i + 1 : Nat) : Int) by omega, show tmo F s i = lst F s (i + 1) from rfl] at hl
    exact W.widen (by omega) (by omega) (ih (i + 1) (by omega) _ _ hP6 G6 _ (lv_sub hl [0, 1, 5, 6, 2, 7, 8, 9] rfl))
set_option maxHeartbeats 4000000 in
theorem h_328 (l : Launch) (hst : l.stackTraces = false) (g : Gt) (kt : Kt) (b : Nat) (hkb : kt.1 ≤ b) {ac : Int} {F DIA KEP ISK : Nat → Int} {T : Int} (hI : IVS ac F DIA KEP ISK T) (hT : T ≤ 900000) {zp : Program} {ze : Env} {zs : State} {zm : MethodId} {za : Array Value} {zb : List Frame} {zt : Method} {zc : Code} {x9 : Cond} (C : Cx zp zs zm za zt zc cL_holds 16 "LentRoomLaw" (some .boolean) x9 g) (KZ : SK kt zs zs.heap) (hkz : kt.1 ≤ zs.heap.size) (x : Int) (hx : 0 ≤ x ∧ x < 2147483648) : ∀ (H : Heap) (locs : List Loc), DW g b ac F DIA KEP ISK H → GT (Cdp b) zs.heap H locs → ∀ ls : Array Slot, lv_has ls 16 [(8, .int (iI ((F 0).toNat : Int))), (7, .int (iI 1)), (6, .int (iI (borrA F))), (5, .int (iI (S5 F 3))), (4, .int (iI (tkA F))), (3, .int (iI (S5 F 0))), (2, .int (iI (F 0))), (0, .ref b), (1, .int (iI x))] → W zp l ze (rmx 11 208 480) zs zm za zb zt zc H locs 221 (6 * 221) (MQ zb (TQ 1 (Cdp b) (DW g b ac F DIA KEP ISK)) za zs 480 (6 * 480) (Cdp b)) (F0 zm 328 ls []) := by
  have hJ := hI.j
  have hn := hJ.n
  have h1 := hI.ev.1
  have hx0 : 0 ≤ x % F 0 := Int.emod_nonneg _ (by omega)
  have hx1 : x % F 0 < F 0 := Int.emod_lt_of_pos _ (by omega)
  obtain ⟨s, hse⟩ : ∃ s : Nat, x % F 0 = (s : Int) := ⟨(x % F 0).toNat, (Int.toNat_of_nonneg hx0).symm⟩
  have hs5 : s < 5 := by omega
  have hsn : (s : Int) < F 0 := by omega
  have hS := hJ.S.m (show T ≤ 1000000 by omega)
  have ht60 := tkA_60 hJ
  have htA := tkA_b hS
  have fr : 0 ≤ 60 - S5 F 0 - S5 F 3 := hJ.fr
  have bs0 := S5_b hS 0 (by omega)
  have bs3 := S5_b hS 3 (by omega)
  intro H locs hP G0 ls hl
  have Ks := G0.sk KZ hkz (fun q hq => by have := hq.1; omega)
  refine r_iload C (lv_at hl 1 rfl) dL_holds_328 ?_
  refine r_if_eq (tgt := 413) C (by decide) (by decide) dL_holds_330 (fun z9 => absurd z9 (by decide)) (fun z9 => ?_)
  refine r_aload_n C rfl (lv_at hl 7 rfl) dL_holds_333 ?_
  refine r_iconst C dL_holds_334 ?_
  refine r_iconst C dL_holds_335 ?_
  refine r_iconst C dL_holds_336 ?_
  refine r_iconst C dL_holds_337 ?_
  refine r_sT (rest := []) (c9 := 222) (r := tkA F) C Ks (k_call_2 l hst g kt b 0 ac z0 F DIA KEP ISK T hJ hT 1 (by omega) 0 0) ((tv_0 (Kd_0.mpr ⟨by omega, by omega⟩)).trans (rfl)) s_RL_162 hP hl.1 rfl ⟨by decide, by decide⟩ rfl (Nat.le_of_ble_eq_true rfl) (by omega) (show 222 ≤ 480 by omega) (Nat.le_refl _) dL_holds_338 (pc9 := 341) rfl (fun H1 L1 p1 F1 => ?_)
  have G1 := G0.call (fun _ h => h) F1
  have K1 := G1.sk KZ hkz (fun q hq => by have := hq.1; omega)
  have hP1 := rdw p1
  refine r_iload C (lv_at hl 4 rfl) dL_holds_341 ?_
  refine r_ine_same (tgt := 413) C (by decide) (rfl) dL_holds_343 ?_
  refine r_aload_n C rfl (lv_at hl 7 rfl) dL_holds_346 ?_
  refine r_iconst C dL_holds_347 ?_
  refine r_iconst C dL_holds_348 ?_
  refine r_iconst C dL_holds_349 ?_
  refine r_iconst C dL_holds_350 ?_
  refine r_sT (rest := []) (c9 := 223) (r := 60 - S5 F 0) C K1 (k_call_2 l hst g kt b 0 ac z0 F DIA KEP ISK T hJ hT 2 (by omega) 0 0) ((tv_0 (Kd_0.mpr ⟨by omega, by omega⟩)).trans (rfl)) s_RL_162 hP1 hl.1 rfl ⟨by decide, by decide⟩ rfl (Nat.le_of_ble_eq_true rfl) (by omega) (show 223 ≤ 480 by omega) (Nat.le_refl _) dL_holds_351 (pc9 := 354) rfl (fun H2 L2 p2 F2 => ?_)
  have G2 := G1.call (fun _ h => h) F2
  have K2 := G2.sk KZ hkz (fun q hq => by have := hq.1; omega)
  have hP2 := rdw p2
  refine r_bipush C (by decide) dL_holds_354 ?_
  refine r_iload_n C rfl (lv_at hl 5 rfl) dL_holds_356 ?_
  refine r_isub C dL_holds_357 ?_
  refine r_ine_same (tgt := 413) C (by decide) (rfl) dL_holds_358 ?_
  refine r_aload_n C rfl (lv_at hl 7 rfl) dL_holds_361 ?_
  refine r_iconst C dL_holds_362 ?_
  refine r_iconst C dL_holds_363 ?_
  refine r_iconst C dL_holds_364 ?_
  refine r_iconst C dL_holds_365 ?_
  refine r_sT (rest := []) (c9 := 224) (r := free F) C K2 (k_call_2 l hst g kt b 0 ac z0 F DIA KEP ISK T hJ hT 3 (by omega) 0 0) ((tv_0 (Kd_0.mpr ⟨by omega, by omega⟩)).trans (rfl)) s_RL_162 hP2 hl.1 rfl ⟨by decide, by decide⟩ rfl (Nat.le_of_ble_eq_true rfl) (by omega) (show 224 ≤ 480 by omega) (Nat.le_refl _) dL_holds_366 (pc9 := 369) rfl (fun H3 L3 p3 F3 => ?_)
  have G3 := G2.call (fun _ h => h) F3
  have K3 := G3.sk KZ hkz (fun q hq => by have := hq.1; omega)
  have hP3 := rdw p3
  refine r_bipush C (by decide) dL_holds_369 ?_
  refine r_iload_n C rfl (lv_at hl 5 rfl) dL_holds_371 ?_
  refine r_isub C dL_holds_372 ?_
  refine r_iload C (lv_at hl 3 rfl) dL_holds_373 ?_
  refine r_isub C dL_holds_375 ?_
  refine r_ine_same (tgt := 413) C (by decide) (rfl) dL_holds_376 ?_
  refine r_bipush C (by decide) dL_holds_379 ?_
  refine r_iload_n C rfl (lv_at hl 5 rfl) dL_holds_381 ?_
  refine r_isub C dL_holds_382 ?_
  refine r_iload C (lv_at hl 3 rfl) dL_holds_383 ?_
  refine r_isub C dL_holds_385 ?_
  refine r_if_lt (tgt := 413) C (by decide) (by omega) dL_holds_386 (fun z9 => absurd z9 (by omega)) (fun z9 => ?_)
  refine r_aload_n C rfl (lv_at hl 7 rfl) dL_holds_389 ?_
  refine r_iconst C dL_holds_390 ?_
  refine r_iconst C dL_holds_391 ?_
  refine r_iconst C dL_holds_392 ?_
  refine r_iconst C dL_holds_393 ?_
  refine r_sT (rest := []) (c9 := 225) (r := borrA F) C K3 (k_call_2 l hst g kt b 0 ac z0 F DIA KEP ISK T hJ hT 4 (by omega) 0 0) ((tv_0 (Kd_0.mpr ⟨by omega, by omega⟩)).trans (rfl)) s_RL_162 hP3 hl.1 rfl ⟨by decide, by decide⟩ rfl (Nat.le_of_ble_eq_true rfl) (by omega) (show 225 ≤ 480 by omega) (Nat.le_refl _) dL_holds_394 (pc9 := 397) rfl (fun H4 L4 p4 F4 => ?_)
  have G4 := G3.call (fun _ h => h) F4
  have K4 := G4.sk KZ hkz (fun q hq => by have := hq.1; omega)
  have hP4 := rdw p4
  refine r_iload C (lv_at hl 2 rfl) dL_holds_397 ?_
  refine r_ine_same (tgt := 413) C (by decide) (rfl) dL_holds_399 ?_
  refine r_iload C (lv_at hl 4 rfl) dL_holds_402 ?_
  refine r_bipush C (by decide) dL_holds_404 ?_
  refine r_icmp_gt (tgt := 413) C (by decide) (by omega) (by decide) dL_holds_406 (fun z9 => absurd z9 (by omega)) (fun z9 => ?_)
  refine r_iconst C dL_holds_409 ?_
  refine r_goto (tgt := 414) C (by decide) dL_holds_410 ?_
  refine r_istore (lv' := [(7, .int (iI 1)), (8, .int (iI ((F 0).toNat : Int))), (6, .int (iI (borrA F))), (5, .int (iI (S5 F 3))), (4, .int (iI (tkA F))), (3, .int (iI (S5 F 0))), (2, .int (iI (F 0))), (0, .ref b), (1, .int (iI x))]) C hl (by decide) rfl dL_holds_414 (fun ls hl => ?_)
  refine r_iload_n C rfl (lv_at hl 6 rfl) dL_holds_416 ?_
  refine r_if_eq (tgt := 425) C (by decide) (by omega) dL_holds_417 (fun z9 => absurd z9 (by omega)) (fun z9 => ?_)
  refine r_iload C (lv_at hl 0 rfl) dL_holds_420 ?_
  refine r_if_ne (tgt := 444) C (by decide) (by decide) dL_holds_422 (fun z9 => ?_) (fun z9 => absurd z9 (by decide))
  refine r_iload_n C rfl (lv_at hl 8 rfl) dL_holds_444 ?_
  refine r_iload_n C rfl (lv_at hl 6 rfl) dL_holds_445 ?_
  refine r_irem C (by omega) (by omega) dL_holds_446 ?_
  rw [hse]
  refine r_istore (lv' := [(8, .int (iI (s : Int))), (7, .int (iI 1)), (6, .int (iI (borrA F))), (5, .int (iI (S5 F 3))), (4, .int (iI (tkA F))), (3, .int (iI (S5 F 0))), (2, .int (iI (F 0))), (0, .ref b), (1, .int (iI x))]) C hl (by decide) rfl dL_holds_447 (fun ls hl => ?_)
  refine r_aload_n C rfl (lv_at hl 7 rfl) dL_holds_449 ?_
  refine r_iconst C dL_holds_450 ?_
  refine r_iload C (lv_at hl 0 rfl) dL_holds_451 ?_
  refine r_iconst C dL_holds_453 ?_
  refine r_iconst C dL_holds_454 ?_
  refine r_sT (rest := []) (c9 := 227) (r := tk F s) C K4 (k_call_3 l hst g kt b 0 ac z0 F DIA KEP ISK T hJ hT (s : Int) (by omega) s (fun _ => by omega) 2 (by omega) 0) ((tv_0 (by rw [if_neg (by omega), if_neg (by omega)])).trans (rfl)) s_RL_162 hP4 hl.1 rfl ⟨by decide, by decide⟩ rfl (Nat.le_of_ble_eq_true rfl) (by omega) (show 227 ≤ 480 by omega) (Nat.le_refl _) dL_holds_455 (pc9 := 458) rfl (fun H5 L5 p5 F5 => ?_)
  have G5 := G4.call (fun _ h => h) F5
  have K5 := G5.sk KZ hkz (fun q hq => by have := hq.1; omega)
  have hP5 := rdw p5
  refine r_istore (lv' := [(9, .int (iI (tk F s))), (8, .int (iI (s : Int))), (7, .int (iI 1)), (6, .int (iI (borrA F))), (5, .int (iI (S5 F 3))), (4, .int (iI (tkA F))), (3, .int (iI (S5 F 0))), (2, .int (iI (F 0))), (0, .ref b), (1, .int (iI x))]) C hl (by decide) rfl dL_holds_458 (fun ls hl => ?_)
  refine r_iconst C dL_holds_460 ?_
  refine r_istore (lv' := [(10, .int (iI 0)), (9, .int (iI (tk F s))), (8, .int (iI (s : Int))), (7, .int (iI 1)), (6, .int (iI (borrA F))), (5, .int (iI (S5 F 3))), (4, .int (iI (tkA F))), (3, .int (iI (S5 F 0))), (2, .int (iI (F 0))), (0, .ref b), (1, .int (iI x))]) C hl (by decide) rfl dL_holds_461 (fun ls hl => ?_)
  refine r_iconst C dL_holds_463 ?_
  refine r_istore (lv' := [(11, .int (iI 0)), (10, .int (iI 0)), (9, .int (iI (tk F s))), (8, .int (iI (s : Int))), (7, .int (iI 1)), (6, .int (iI (borrA F))), (5, .int (iI (S5 F 3))), (4, .int (iI (tkA F))), (3, .int (iI (S5 F 0))), (2, .int (iI (F 0))), (0, .ref b), (1, .int (iI x))]) C hl (by decide) rfl dL_holds_464 (fun ls hl => ?_)
  exact W.widen (by omega) (by omega) (h_pages l hst g kt b hkb hI hT C KZ hkz x hx s hs5 hsn (tk F s).toNat 0 (Nat.zero_add _) _ _ hP5 G5 _ (lv_sub hl [0, 1, 2, 3, 4, 9, 10, 11] rfl))
set_option maxHeartbeats 4000000 in
theorem h_133 (l : Launch) (hst : l.stackTraces = false) (g : Gt) (kt : Kt) (b : Nat) (hkb : kt.1 ≤ b) {ac : Int} {F DIA KEP ISK : Nat → Int} {T : Int} (hI : IVS ac F DIA KEP ISK T) (hT : T ≤ 900000) {zp : Program} {ze : Env} {zs : State} {zm : MethodId} {za : Array Value} {zb : List Frame} {zt : Method} {zc : Code} {x9 : Cond} (C : Cx zp zs zm za zt zc cL_holds 16 "LentRoomLaw" (some .boolean) x9 g) (KZ : SK kt zs zs.heap) (hkz : kt.1 ≤ zs.heap.size) (x : Int) (hx : 0 ≤ x ∧ x < 2147483648) (i : Nat) (hsi : i < 5) (hin : (i : Int) < F 0) (kk : ∀ (H : Heap) (locs : List Loc), DW g b ac F DIA KEP ISK H → GT (Cdp b) zs.heap H locs → ∀ ls : Array Slot, lv_has ls 16 [(8, .int (iI ((i + 1 : Nat) : Int))), (7, .int (iI 1)), (6, .int (iI (sumI (borr F) (i + 1)))), (5, .int (iI (sumI (fun z => F (2 + 52 * z + 3)) (i + 1)))), (4, .int (iI (sumI (tk F) (i + 1)))), (3, .int (iI (sumI (fun z => F (2 + 52 * z + 0)) (i + 1)))), (2, .int (iI (F 0))), (0, .ref b), (1, .int (iI x))] → W zp l ze (rmx 11 208 480) zs zm za zb zt zc H locs (1 + 44 * i + 44) (6 * (1 + 44 * i + 44)) (MQ zb (TQ 1 (Cdp b) (DW g b ac F DIA KEP ISK)) za zs 480 (6 * 480) (Cdp b)) (F0 zm 26 ls [])) : ∀ (H : Heap) (locs : List Loc), DW g b ac F DIA KEP ISK H → GT (Cdp b) zs.heap H locs → ∀ ls : Array Slot, lv_has ls 16 [(14, .int (iI (borr F i))), (13, .int (iI (S5 F (7 + i)))), (12, .int (iI (borr F i))), (11, .int (iI (S5 F (7 + i)))), (10, .int (iI (F (2 + 52 * i + 2)))), (9, .int (iI (F (2 + 52 * i + 0)))), (8, .int (iI (i : Int))), (7, .int (iI 1)), (6, .int (iI (sumI (borr F) i))), (5, .int (iI (sumI (fun z => F (2 + 52 * z + 3)) i))), (4, .int (iI (sumI (tk F) i))), (3, .int (iI (sumI (fun z => F (2 + 52 * z + 0)) i))), (2, .int (iI (F 0))), (0, .ref b), (1, .int (iI x))] → W zp l ze (rmx 11 208 480) zs zm za zb zt zc H locs (29 + 44 * i) (6 * (29 + 44 * i)) (MQ zb (TQ 1 (Cdp b) (DW g b ac F DIA KEP ISK)) za zs 480 (6 * 480) (Cdp b)) (F0 zm 133 ls []) := by
  have hJ := hI.j
  have hn := hJ.n
  have h1 := hI.ev.1
  have hS := hJ.S.m (show T ≤ 1000000 by omega)
  have c0 := hJ.S.1 (2 + 52 * i + 0) (by omega)
  have c1 := hJ.S.1 (2 + 52 * i + 1) (by omega)
  have c2 := hJ.S.1 (2 + 52 * i + 2) (by omega)
  have co := S5_b hS (7 + i) (by omega)
  have hid : 0 ≤ F (2 + 52 * i + 0) - F (2 + 52 * i + 2) - S5 F (7 + i) := hJ.id i hsi
  have ce : F (2 + 52 * i + 0) ≤ F (2 + 52 * i + 1) := (hJ.ce i hsi hin).2.2
  have hmn : F (2 + 52 * i + 0) ≤ mn (F (2 + 52 * i + 1)) (F (2 + 52 * i + 0) + free F) ∧ mn (F (2 + 52 * i + 1)) (F (2 + 52 * i + 0) + free F) ≤ F (2 + 52 * i + 1) := by have := mn_b (F (2 + 52 * i + 1)) (F (2 + 52 * i + 0) + free F); have := hJ.fr; omega
  intro H locs hP G0 ls hl
  have Ks := G0.sk KZ hkz (fun q hq => by have := hq.1; omega)
  refine r_iload_n C rfl (lv_at hl 11 rfl) dL_holds_133 ?_
  refine r_iload C (lv_at hl 5 rfl) dL_holds_134 ?_
  refine r_iadd C dL_holds_136 ?_
  refine r_istore_n (lv' := [(3, .int (iI ((sumI (fun z => F (2 + 52 * z + 0)) i) + (F (2 + 52 * i + 0))))), (14, .int (iI (borr F i))), (13, .int (iI (S5 F (7 + i)))), (12, .int (iI (borr F i))), (11, .int (iI (S5 F (7 + i)))), (10, .int (iI (F (2 + 52 * i + 2)))), (9, .int (iI (F (2 + 52 * i + 0)))), (8, .int (iI (i : Int))), (7, .int (iI 1)), (6, .int (iI (sumI (borr F) i))), (5, .int (iI (sumI (fun z => F (2 + 52 * z + 3)) i))), (4, .int (iI (sumI (tk F) i))), (2, .int (iI (F 0))), (0, .ref b), (1, .int (iI x))]) C rfl hl (by decide) rfl dL_holds_137 (fun ls hl => ?_)
  refine r_iload C (lv_at hl 11 rfl) dL_holds_138 ?_
  refine r_aload_n C rfl (lv_at hl 13 rfl) dL_holds_140 ?_
  refine r_iconst C dL_holds_141 ?_
  refine r_iload C (lv_at hl 7 rfl) dL_holds_142 ?_
  refine r_iconst C dL_holds_144 ?_
  refine r_iconst C dL_holds_145 ?_
  refine r_sT (rest := [.int (iI (sumI (tk F) i))]) (c9 := 29 + 44 * i + 2) (r := tk F i) C Ks (k_call_3 l hst g kt b 0 ac z0 F DIA KEP ISK T hJ hT (i : Int) (by omega) i (fun _ => by omega) 2 (by omega) 0) ((tv_0 (by rw [if_neg (by omega), if_neg (by omega)])).trans (rfl)) s_RL_162 hP hl.1 rfl ⟨by decide, by decide⟩ rfl (Nat.le_of_ble_eq_true rfl) (by omega) (show 29 + 44 * i + 2 ≤ 480 by omega) (Nat.le_refl _) dL_holds_146 (pc9 := 149) rfl (fun H1 L1 p1 F1 => ?_)
  have G1 := G0.call (fun _ h => h) F1
  have K1 := G1.sk KZ hkz (fun q hq => by have := hq.1; omega)
  have hP1 := rdw p1
  refine r_iadd C dL_holds_149 ?_
  refine r_istore (lv' := [(4, .int (iI ((sumI (tk F) i) + (tk F i)))), (3, .int (iI ((sumI (fun z => F (2 + 52 * z + 0)) i) + (F (2 + 52 * i + 0))))), (14, .int (iI (borr F i))), (13, .int (iI (S5 F (7 + i)))), (12, .int (iI (borr F i))), (11, .int (iI (S5 F (7 + i)))), (10, .int (iI (F (2 + 52 * i + 2)))), (9, .int (iI (F (2 + 52 * i + 0)))), (8, .int (iI (i : Int))), (7, .int (iI 1)), (6, .int (iI (sumI (borr F) i))), (5, .int (iI (sumI (fun z => F (2 + 52 * z + 3)) i))), (2, .int (iI (F 0))), (0, .ref b), (1, .int (iI x))]) C hl (by decide) rfl dL_holds_150 (fun ls hl => ?_)
  refine r_iload C (lv_at hl 11 rfl) dL_holds_152 ?_
  refine r_aload_n C rfl (lv_at hl 13 rfl) dL_holds_154 ?_
  refine r_iconst C dL_holds_155 ?_
  refine r_iload C (lv_at hl 8 rfl) dL_holds_156 ?_
  refine r_iconst C dL_holds_158 ?_
  refine r_iconst C dL_holds_159 ?_
  refine r_sT (rest := [.int (iI (sumI (fun z => F (2 + 52 * z + 3)) i))]) (c9 := 29 + 44 * i + 4) (r := F (2 + 52 * i + 3)) C K1 (k_call_3 l hst g kt b 0 ac z0 F DIA KEP ISK T hJ hT (i : Int) (by omega) i (fun _ => by omega) 4 (by omega) 0) ((tv_0 (by rw [if_neg (by omega), if_neg (by omega)])).trans (rfl)) s_RL_162 hP1 hl.1 rfl ⟨by decide, by decide⟩ rfl (Nat.le_of_ble_eq_true rfl) (by omega) (show 29 + 44 * i + 4 ≤ 480 by omega) (Nat.le_refl _) dL_holds_160 (pc9 := 163) rfl (fun H2 L2 p2 F2 => ?_)
  have G2 := G1.call (fun _ h => h) F2
  have K2 := G2.sk KZ hkz (fun q hq => by have := hq.1; omega)
  have hP2 := rdw p2
  refine r_iadd C dL_holds_163 ?_
  refine r_istore (lv' := [(5, .int (iI ((sumI (fun z => F (2 + 52 * z + 3)) i) + (F (2 + 52 * i + 3))))), (4, .int (iI ((sumI (tk F) i) + (tk F i)))), (3, .int (iI ((sumI (fun z => F (2 + 52 * z + 0)) i) + (F (2 + 52 * i + 0))))), (14, .int (iI (borr F i))), (13, .int (iI (S5 F (7 + i)))), (12, .int (iI (borr F i))), (11, .int (iI (S5 F (7 + i)))), (10, .int (iI (F (2 + 52 * i + 2)))), (9, .int (iI (F (2 + 52 * i + 0)))), (8, .int (iI (i : Int))), (7, .int (iI 1)), (6, .int (iI (sumI (borr F) i))), (2, .int (iI (F 0))), (0, .ref b), (1, .int (iI x))]) C hl (by decide) rfl dL_holds_164 (fun ls hl => ?_)
  refine r_iload C (lv_at hl 11 rfl) dL_holds_166 ?_
  refine r_iload C (lv_at hl 5 rfl) dL_holds_168 ?_
  refine r_iadd C dL_holds_170 ?_
  refine r_istore (lv' := [(6, .int (iI ((sumI (borr F) i) + (borr F i)))), (5, .int (iI ((sumI (fun z => F (2 + 52 * z + 3)) i) + (F (2 + 52 * i + 3))))), (4, .int (iI ((sumI (tk F) i) + (tk F i)))), (3, .int (iI ((sumI (fun z => F (2 + 52 * z + 0)) i) + (F (2 + 52 * i + 0))))), (14, .int (iI (borr F i))), (13, .int (iI (S5 F (7 + i)))), (12, .int (iI (borr F i))), (11, .int (iI (S5 F (7 + i)))), (10, .int (iI (F (2 + 52 * i + 2)))), (9, .int (iI (F (2 + 52 * i + 0)))), (8, .int (iI (i : Int))), (7, .int (iI 1)), (2, .int (iI (F 0))), (0, .ref b), (1, .int (iI x))]) C hl (by decide) rfl dL_holds_171 (fun ls hl => ?_)
  refine r_iload C (lv_at hl 9 rfl) dL_holds_173 ?_
  refine r_aload_n C rfl (lv_at hl 13 rfl) dL_holds_175 ?_
  refine r_iconst C dL_holds_176 ?_
  refine r_iload C (lv_at hl 10 rfl) dL_holds_177 ?_
  refine r_iconst C dL_holds_179 ?_
  refine r_iconst C dL_holds_180 ?_
  refine r_sT (rest := [.int (iI (F (2 + 52 * i + 0)))]) (c9 := 29 + 44 * i + 6) (r := F (2 + 52 * i + 1)) C K2 (k_call_3 l hst g kt b 0 ac z0 F DIA KEP ISK T hJ hT (i : Int) (by omega) i (fun _ => by omega) 1 (by omega) 0) ((tv_0 (by rw [if_neg (by omega), if_neg (by omega)])).trans (rfl)) s_RL_162 hP2 hl.1 rfl ⟨by decide, by decide⟩ rfl (Nat.le_of_ble_eq_true rfl) (by omega) (show 29 + 44 * i + 6 ≤ 480 by omega) (Nat.le_refl _) dL_holds_181 (pc9 := 184) rfl (fun H3 L3 p3 F3 => ?_)
  have G3 := G2.call (fun _ h => h) F3
  have K3 := G3.sk KZ hkz (fun q hq => by have := hq.1; omega)
  have hP3 := rdw p3
  refine r_icmp_gt (tgt := 319) C (by decide) (by omega) (by omega) dL_holds_184 (fun z9 => absurd z9 (by omega)) (fun z9 => ?_)
  refine r_iload C (lv_at hl 8 rfl) dL_holds_187 ?_
  refine r_if_lt (tgt := 319) C (by decide) (by omega) dL_holds_189 (fun z9 => absurd z9 (by omega)) (fun z9 => ?_)
  refine r_iload C (lv_at hl 7 rfl) dL_holds_192 ?_
  refine r_if_lt (tgt := 319) C (by decide) (by omega) dL_holds_194 (fun z9 => absurd z9 (by omega)) (fun z9 => ?_)
  refine r_aload_n C rfl (lv_at hl 13 rfl) dL_holds_197 ?_
  refine r_iconst C dL_holds_198 ?_
  refine r_iload C (lv_at hl 10 rfl) dL_holds_199 ?_
  refine r_bipush C (by decide) dL_holds_201 ?_
  refine r_iconst C dL_holds_203 ?_
  refine r_sT (rest := []) (c9 := 29 + 44 * i + 8) (r := idle F i) C K3 (k_call_3 l hst g kt b 0 ac z0 F DIA KEP ISK T hJ hT (i : Int) (by omega) i (fun _ => by omega) 7 (by omega) 0) ((tv_0 (by rw [if_neg (by omega), if_neg (by omega)])).trans (rfl)) s_RL_162 hP3 hl.1 rfl ⟨by decide, by decide⟩ rfl (Nat.le_of_ble_eq_true rfl) (by omega) (show 29 + 44 * i + 8 ≤ 480 by omega) (Nat.le_refl _) dL_holds_204 (pc9 := 207) rfl (fun H4 L4 p4 F4 => ?_)
  have G4 := G3.call (fun _ h => h) F4
  have K4 := G4.sk KZ hkz (fun q hq => by have := hq.1; omega)
  have hP4 := rdw p4
  refine r_iload C (lv_at hl 9 rfl) dL_holds_207 ?_
  refine r_iload C (lv_at hl 8 rfl) dL_holds_209 ?_
  refine r_isub C dL_holds_211 ?_
  refine r_iload C (lv_at hl 7 rfl) dL_holds_212 ?_
  refine r_isub C dL_holds_214 ?_
  refine r_ine_same (tgt := 319) C (by decide) (rfl) dL_holds_215 ?_
  refine r_iload C (lv_at hl 9 rfl) dL_holds_218 ?_
  refine r_iload C (lv_at hl 8 rfl) dL_holds_220 ?_
  refine r_iload C (lv_at hl 7 rfl) dL_holds_222 ?_
  refine r_iadd C dL_holds_224 ?_
  refine r_icmp_lt (tgt := 319) C (by decide) (by omega) (by omega) dL_holds_225 (fun z9 => absurd z9 (by omega)) (fun z9 => ?_)
  refine r_iload C (lv_at hl 5 rfl) dL_holds_228 ?_
  refine r_iload C (lv_at hl 7 rfl) dL_holds_230 ?_
  refine r_ine_same (tgt := 319) C (by decide) (rfl) dL_holds_232 ?_
  refine r_iload C (lv_at hl 4 rfl) dL_holds_235 ?_
  refine r_iload C (lv_at hl 6 rfl) dL_holds_237 ?_
  refine r_ine_same (tgt := 319) C (by decide) (rfl) dL_holds_239 ?_
  refine r_aload_n C rfl (lv_at hl 13 rfl) dL_holds_242 ?_
  refine r_iconst C dL_holds_243 ?_
  refine r_iload C (lv_at hl 10 rfl) dL_holds_244 ?_
  refine r_iload C (lv_at hl 10 rfl) dL_holds_246 ?_
  refine r_iconst C dL_holds_248 ?_
  refine r_sT (rest := []) (c9 := 29 + 44 * i + 10) (r := 0) C K4 (k_call_4 l hst g kt b 0 ac z0 F DIA KEP ISK T hJ hT (i : Int) (i : Int) (by omega) (by omega) i i (fun _ => by omega) (fun _ => by omega) 0) ((tv_0 (Kd_0.mpr ⟨⟨by omega, by omega⟩, ⟨by omega, by omega⟩⟩)).trans (hJ.G i hsi)) s_RL_162 hP4 hl.1 rfl ⟨by decide, by decide⟩ rfl (Nat.le_of_ble_eq_true rfl) (by omega) (show 29 + 44 * i + 10 ≤ 480 by omega) (Nat.le_refl _) dL_holds_249 (pc9 := 252) rfl (fun H5 L5 p5 F5 => ?_)
  have G5 := G4.call (fun _ h => h) F5
  have K5 := G5.sk KZ hkz (fun q hq => by have := hq.1; omega)
  have hP5 := rdw p5
  refine r_if_ne (tgt := 319) C (by decide) (by decide) dL_holds_252 (fun z9 => absurd z9 (by decide)) (fun z9 => ?_)
  refine r_aload_n C rfl (lv_at hl 13 rfl) dL_holds_255 ?_
  refine r_iconst C dL_holds_256 ?_
  refine r_iload C (lv_at hl 10 rfl) dL_holds_257 ?_
  refine r_iconst C dL_holds_259 ?_
  refine r_iconst C dL_holds_260 ?_
  refine r_sT (rest := []) (c9 := 29 + 44 * i + 12) (r := tk F i) C K5 (k_call_3 l hst g kt b 0 ac z0 F DIA KEP ISK T hJ hT (i : Int) (by omega) i (fun _ => by omega) 2 (by omega) 0) ((tv_0 (by rw [if_neg (by omega), if_neg (by omega)])).trans (rfl)) s_RL_162 hP5 hl.1 rfl ⟨by decide, by decide⟩ rfl (Nat.le_of_ble_eq_true rfl) (by omega) (show 29 + 44 * i + 12 ≤ 480 by omega) (Nat.le_refl _) dL_holds_261 (pc9 := 264) rfl (fun H6 L6 p6 F6 => ?_)
  have G6 := G5.call (fun _ h => h) F6
  have K6 := G6.sk KZ hkz (fun q hq => by have := hq.1; omega)
  have hP6 := rdw p6
  refine r_iload C (lv_at hl 8 rfl) dL_holds_264 ?_
  refine r_aload_n C rfl (lv_at hl 13 rfl) dL_holds_266 ?_
  refine r_iconst C dL_holds_267 ?_
  refine r_iload C (lv_at hl 10 rfl) dL_holds_268 ?_
  refine r_iconst C dL_holds_270 ?_
  refine r_iconst C dL_holds_271 ?_
  refine r_sT (rest := [.int (iI (F (2 + 52 * i + 2))), .int (iI (tk F i))]) (c9 := 29 + 44 * i + 14) (r := F (2 + 52 * i + 3)) C K6 (k_call_3 l hst g kt b 0 ac z0 F DIA KEP ISK T hJ hT (i : Int) (by omega) i (fun _ => by omega) 4 (by omega) 0) ((tv_0 (by rw [if_neg (by omega), if_neg (by omega)])).trans (rfl)) s_RL_162 hP6 hl.1 rfl ⟨by decide, by decide⟩ rfl (Nat.le_of_ble_eq_true rfl) (by omega) (show 29 + 44 * i + 14 ≤ 480 by omega) (Nat.le_refl _) dL_holds_272 (pc9 := 275) rfl (fun H7 L7 p7 F7 => ?_)
  have G7 := G6.call (fun _ h => h) F7
  have K7 := G7.sk KZ hkz (fun q hq => by have := hq.1; omega)
  have hP7 := rdw p7
  refine r_iadd C dL_holds_275 ?_
  refine r_iload C (lv_at hl 6 rfl) dL_holds_276 ?_
  refine r_iadd C dL_holds_278 ?_
  refine r_ine_same (tgt := 319) C (by decide) (rfl) dL_holds_279 ?_
  refine r_aload_n C rfl (lv_at hl 13 rfl) dL_holds_282 ?_
  refine r_bipush C (by decide) dL_holds_283 ?_
  refine r_iload C (lv_at hl 10 rfl) dL_holds_285 ?_
  refine r_iconst C dL_holds_287 ?_
  refine r_iconst C dL_holds_288 ?_
  refine r_sT (rest := []) (c9 := 29 + 44 * i + 15) (r := F (2 + 52 * i + 2) + S5 F (7 + i)) C K7 (k_call_18 l hst g kt b 0 ac z0 F DIA KEP ISK T hJ hT (i : Int) (by omega) i (fun _ => by omega) 0 0) ((tv_0 (Kd_0.mpr ⟨by omega, by omega⟩)).trans (by unfold idle; omega)) s_RL_162 hP7 hl.1 rfl ⟨by decide, by decide⟩ rfl (Nat.le_of_ble_eq_true rfl) (by omega) (show 29 + 44 * i + 15 ≤ 480 by omega) (Nat.le_refl _) dL_holds_289 (pc9 := 292) rfl (fun H8 L8 p8 F8 => ?_)
  have G8 := G7.call (fun _ h => h) F8
  have K8 := G8.sk KZ hkz (fun q hq => by have := hq.1; omega)
  have hP8 := rdw p8
  refine r_iload C (lv_at hl 8 rfl) dL_holds_292 ?_
  refine r_iload C (lv_at hl 7 rfl) dL_holds_294 ?_
  refine r_iadd C dL_holds_296 ?_
  refine r_ine_same (tgt := 319) C (by decide) (rfl) dL_holds_297 ?_
  refine r_aload_n C rfl (lv_at hl 13 rfl) dL_holds_300 ?_
  refine r_bipush C (by decide) dL_holds_301 ?_
  refine r_iload C (lv_at hl 10 rfl) dL_holds_303 ?_
  refine r_iconst C dL_holds_305 ?_
  refine r_iconst C dL_holds_306 ?_
  refine r_sT (rest := []) (c9 := 29 + 44 * i + 16) (r := mn (F (2 + 52 * i + 1)) (F (2 + 52 * i + 0) + free F)) C K8 (k_call_17 l hst g kt b 0 ac z0 F DIA KEP ISK T hJ hT (i : Int) (by omega) i (fun _ => by omega) 0 0) ((tv_0 (Kd_0.mpr ⟨by omega, by omega⟩)).trans (rfl)) s_RL_162 hP8 hl.1 rfl ⟨by decide, by decide⟩ rfl (Nat.le_of_ble_eq_true rfl) (by omega) (show 29 + 44 * i + 16 ≤ 480 by omega) (Nat.le_refl _) dL_holds_307 (pc9 := 310) rfl (fun H9 L9 p9 F9 => ?_)
  have G9 := G8.call (fun _ h => h) F9
  have K9 := G9.sk KZ hkz (fun q hq => by have := hq.1; omega)
  have hP9 := rdw p9
  refine r_iload C (lv_at hl 9 rfl) dL_holds_310 ?_
  refine r_icmp_lt (tgt := 319) C (by decide) (by omega) (by omega) dL_holds_312 (fun z9 => absurd z9 (by omega)) (fun z9 => ?_)
  refine r_iconst C dL_holds_315 ?_
  refine r_goto (tgt := 320) C (by decide) dL_holds_316 ?_
  refine r_istore (lv' := [(7, .int (iI 1)), (6, .int (iI ((sumI (borr F) i) + (borr F i)))), (5, .int (iI ((sumI (fun z => F (2 + 52 * z + 3)) i) + (F (2 + 52 * i + 3))))), (4, .int (iI ((sumI (tk F) i) + (tk F i)))), (3, .int (iI ((sumI (fun z => F (2 + 52 * z + 0)) i) + (F (2 + 52 * i + 0))))), (14, .int (iI (borr F i))), (13, .int (iI (S5 F (7 + i)))), (12, .int (iI (borr F i))), (11, .int (iI (S5 F (7 + i)))), (10, .int (iI (F (2 + 52 * i + 2)))), (9, .int (iI (F (2 + 52 * i + 0)))), (8, .int (iI (i : Int))), (2, .int (iI (F 0))), (0, .ref b), (1, .int (iI x))]) C hl (by decide) rfl dL_holds_320 (fun ls hl => ?_)
  refine r_iinc (lv' := [(8, .int (iI ((i : Int) + 1))), (7, .int (iI 1)), (6, .int (iI ((sumI (borr F) i) + (borr F i)))), (5, .int (iI ((sumI (fun z => F (2 + 52 * z + 3)) i) + (F (2 + 52 * i + 3))))), (4, .int (iI ((sumI (tk F) i) + (tk F i)))), (3, .int (iI ((sumI (fun z => F (2 + 52 * z + 0)) i) + (F (2 + 52 * i + 0))))), (14, .int (iI (borr F i))), (13, .int (iI (S5 F (7 + i)))), (12, .int (iI (borr F i))), (11, .int (iI (S5 F (7 + i)))), (10, .int (iI (F (2 + 52 * i + 2)))), (9, .int (iI (F (2 + 52 * i + 0)))), (2, .int (iI (F 0))), (0, .ref b), (1, .int (iI x))]) C hl (q := 11) rfl (by decide) rfl dL_holds_322 (fun ls hl => ?_)
  refine r_goto (tgt := 26) C (by decide) dL_holds_325 ?_
  rw [show ((i : Int) + 1) = ((i + 1 : Nat) : Int) by omega] at hl
  exact W.widen (by omega) (by omega) (kk _ _ hP9 G9 _ (lv_sub hl [0, 1, 2, 3, 4, 5, 12, 13, 14] rfl))
set_option maxHeartbeats 4000000 in
theorem h_inner (l : Launch) (hst : l.stackTraces = false) (g : Gt) (kt : Kt) (b : Nat) (hkb : kt.1 ≤ b) {ac : Int} {F DIA KEP ISK : Nat → Int} {T : Int} (hI : IVS ac F DIA KEP ISK T) (hT : T ≤ 900000) {zp : Program} {ze : Env} {zs : State} {zm : MethodId} {za : Array Value} {zb : List Frame} {zt : Method} {zc : Code} {x9 : Cond} (C : Cx zp zs zm za zt zc cL_holds 16 "LentRoomLaw" (some .boolean) x9 g) (KZ : SK kt zs zs.heap) (hkz : kt.1 ≤ zs.heap.size) (x : Int) (hx : 0 ≤ x ∧ x < 2147483648) (i : Nat) (hsi : i < 5) (hin : (i : Int) < F 0) (kk : ∀ (H : Heap) (locs : List Loc), DW g b ac F DIA KEP ISK H → GT (Cdp b) zs.heap H locs → ∀ ls : Array Slot, lv_has ls 16 [(8, .int (iI ((i + 1 : Nat) : Int))), (7, .int (iI 1)), (6, .int (iI (sumI (borr F) (i + 1)))), (5, .int (iI (sumI (fun z => F (2 + 52 * z + 3)) (i + 1)))), (4, .int (iI (sumI (tk F) (i + 1)))), (3, .int (iI (sumI (fun z => F (2 + 52 * z + 0)) (i + 1)))), (2, .int (iI (F 0))), (0, .ref b), (1, .int (iI x))] → W zp l ze (rmx 11 208 480) zs zm za zb zt zc H locs (1 + 44 * i + 44) (6 * (1 + 44 * i + 44)) (MQ zb (TQ 1 (Cdp b) (DW g b ac F DIA KEP ISK)) za zs 480 (6 * 480) (Cdp b)) (F0 zm 26 ls [])) : ∀ (w3 j : Nat), j + w3 = (F 0).toNat → ∀ (H : Heap) (locs : List Loc), DW g b ac F DIA KEP ISK H → GT (Cdp b) zs.heap H locs → ∀ ls : Array Slot, lv_has ls 16 [(15, .int (iI (j : Int))), (14, .int (iI (sumI (fun z => F (2 + 52 * i + (7 + z))) j))), (13, .int (iI (sumI (fun z => F (2 + 52 * z + (7 + i))) j))), (12, .int (iI (borr F i))), (11, .int (iI (S5 F (7 + i)))), (10, .int (iI (F (2 + 52 * i + 2)))), (9, .int (iI (F (2 + 52 * i + 0)))), (8, .int (iI (i : Int))), (7, .int (iI 1)), (6, .int (iI (sumI (borr F) i))), (5, .int (iI (sumI (fun z => F (2 + 52 * z + 3)) i))), (4, .int (iI (sumI (tk F) i))), (3, .int (iI (sumI (fun z => F (2 + 52 * z + 0)) i))), (2, .int (iI (F 0))), (0, .ref b), (1, .int (iI x))] → W zp l ze (rmx 11 208 480) zs zm za zb zt zc H locs (9 + 44 * i + 4 * j + 0) (6 * (9 + 44 * i + 4 * j + 0)) (MQ zb (TQ 1 (Cdp b) (DW g b ac F DIA KEP ISK)) za zs 480 (6 * 480) (Cdp b)) (F0 zm 91 ls []) := by
  have hJ := hI.j
  have hn := hJ.n
  have h1 := hI.ev.1
  intro w3
  induction w3 with
  | zero =>
    intro j hw3 H locs hP G0 ls hl
    have Ks := G0.sk KZ hkz (fun q hq => by have := hq.1; omega)
    refine r_iload C (lv_at hl 0 rfl) dL_holds_91 ?_
    refine r_iload_n C rfl (lv_at hl 13 rfl) dL_holds_93 ?_
    refine r_icmp_ge (tgt := 133) C (by decide) (by omega) (by omega) dL_holds_94 (fun z9 => ?_) (fun z9 => absurd z9 (by omega))
    have hj : j = (F 0).toNat := by omega
    subst hj
    rw [borr_nC hJ (by omega) hsi, lent_n hJ (by omega) hsi] at hl
    exact W.widen (by omega) (by omega) (h_133 l hst g kt b hkb hI hT C KZ hkz x hx i hsi hin kk _ _ hP G0 _ (lv_sub hl [1, 2, 3, 4, 5, 6, 7, 8, 9, 10, 11, 12, 13, 14, 15] rfl))
  | succ w3 ih3 =>
    intro j hw3 H locs hP G0 ls hl
    have Ks := G0.sk KZ hkz (fun q hq => by have := hq.1; omega)
    have hj5 : j < 5 := by omega
    refine r_iload C (lv_at hl 0 rfl) dL_holds_91 ?_
    refine r_iload_n C rfl (lv_at hl 13 rfl) dL_holds_93 ?_
    refine r_icmp_ge (tgt := 133) C (by decide) (by omega) (by omega) dL_holds_94 (fun z9 => absurd z9 (by omega)) (fun z9 => ?_)
    refine r_iload C (lv_at hl 2 rfl) dL_holds_97 ?_
    refine r_aload_n C rfl (lv_at hl 14 rfl) dL_holds_99 ?_
    refine r_iconst C dL_holds_100 ?_
    refine r_iload C (lv_at hl 0 rfl) dL_holds_101 ?_
    refine r_iload C (lv_at hl 7 rfl) dL_holds_103 ?_
    refine r_iconst C dL_holds_105 ?_
    refine r_sT (rest := [.int (iI (sumI (fun z => F (2 + 52 * z + (7 + i))) j))]) (c9 := 9 + 44 * i + 4 * j + 2) (r := F (2 + 52 * j + (7 + i))) C Ks (k_call_4 l hst g kt b 0 ac z0 F DIA KEP ISK T hJ hT (j : Int) (i : Int) (by omega) (by omega) j i (fun _ => by omega) (fun _ => by omega) 0) ((tv_0 (Kd_0.mpr ⟨⟨by omega, by omega⟩, ⟨by omega, by omega⟩⟩)).trans (rfl)) s_RL_162 hP hl.1 rfl ⟨by decide, by decide⟩ rfl (Nat.le_of_ble_eq_true rfl) (by omega) (show 9 + 44 * i + 4 * j + 2 ≤ 480 by omega) (Nat.le_refl _) dL_holds_106 (pc9 := 109) rfl (fun H1 L1 p1 F1 => ?_)
    have G1 := G0.call (fun _ h => h) F1
    have K1 := G1.sk KZ hkz (fun q hq => by have := hq.1; omega)
    have hP1 := rdw p1
    refine r_iadd C dL_holds_109 ?_
    refine r_istore (lv' := [(13, .int (iI ((sumI (fun z => F (2 + 52 * z + (7 + i))) j) + (F (2 + 52 * j + (7 + i)))))), (15, .int (iI (j : Int))), (14, .int (iI (sumI (fun z => F (2 + 52 * i + (7 + z))) j))), (12, .int (iI (borr F i))), (11, .int (iI (S5 F (7 + i)))), (10, .int (iI (F (2 + 52 * i + 2)))), (9, .int (iI (F (2 + 52 * i + 0)))), (8, .int (iI (i : Int))), (7, .int (iI 1)), (6, .int (iI (sumI (borr F) i))), (5, .int (iI (sumI (fun z => F (2 + 52 * z + 3)) i))), (4, .int (iI (sumI (tk F) i))), (3, .int (iI (sumI (fun z => F (2 + 52 * z + 0)) i))), (2, .int (iI (F 0))), (0, .ref b), (1, .int (iI x))]) C hl (by decide) rfl dL_holds_110 (fun ls hl => ?_)
    refine r_iload C (lv_at hl 2 rfl) dL_holds_112 ?_
    refine r_aload_n C rfl (lv_at hl 14 rfl) dL_holds_114 ?_
    refine r_iconst C dL_holds_115 ?_
    refine r_iload C (lv_at hl 7 rfl) dL_holds_116 ?_
    refine r_iload C (lv_at hl 1 rfl) dL_holds_118 ?_
    refine r_iconst C dL_holds_120 ?_
    refine r_sT (rest := [.int (iI (sumI (fun z => F (2 + 52 * i + (7 + z))) j))]) (c9 := 9 + 44 * i + 4 * j + 4) (r := F (2 + 52 * i + (7 + j))) C K1 (k_call_4 l hst g kt b 0 ac z0 F DIA KEP ISK T hJ hT (i : Int) (j : Int) (by omega) (by omega) i j (fun _ => by omega) (fun _ => by omega) 0) ((tv_0 (Kd_0.mpr ⟨⟨by omega, by omega⟩, ⟨by omega, by omega⟩⟩)).trans (rfl)) s_RL_162 hP1 hl.1 rfl ⟨by decide, by decide⟩ rfl (Nat.le_of_ble_eq_true rfl) (by omega) (show 9 + 44 * i + 4 * j + 4 ≤ 480 by omega) (Nat.le_refl _) dL_holds_121 (pc9 := 124) rfl (fun H2 L2 p2 F2 => ?_)
    have G2 := G1.call (fun _ h => h) F2
    have K2 := G2.sk KZ hkz (fun q hq => by have := hq.1; omega)
    have hP2 := rdw p2
    refine r_iadd C dL_holds_124 ?_
    refine r_istore (lv' := [(14, .int (iI ((sumI (fun z => F (2 + 52 * i + (7 + z))) j) + (F (2 + 52 * i + (7 + j)))))), (13, .int (iI ((sumI (fun z => F (2 + 52 * z + (7 + i))) j) + (F (2 + 52 * j + (7 + i)))))), (15, .int (iI (j : Int))), (12, .int (iI (borr F i))), (11, .int (iI (S5 F (7 + i)))), (10, .int (iI (F (2 + 52 * i + 2)))), (9, .int (iI (F (2 + 52 * i + 0)))), (8, .int (iI (i : Int))), (7, .int (iI 1)), (6, .int (iI (sumI (borr F) i))), (5, .int (iI (sumI (fun z => F (2 + 52 * z + 3)) i))), (4, .int (iI (sumI (tk F) i))), (3, .int (iI (sumI (fun z => F (2 + 52 * z + 0)) i))), (2, .int (iI (F 0))), (0, .ref b), (1, .int (iI x))]) C hl (by decide) rfl dL_holds_125 (fun ls hl => ?_)
    refine r_iinc (lv' := [(15, .int (iI ((j : Int) + 1))), (14, .int (iI ((sumI (fun z => F (2 + 52 * i + (7 + z))) j) + (F (2 + 52 * i + (7 + j)))))), (13, .int (iI ((sumI (fun z => F (2 + 52 * z + (7 + i))) j) + (F (2 + 52 * j + (7 + i)))))), (12, .int (iI (borr F i))), (11, .int (iI (S5 F (7 + i)))), (10, .int (iI (F (2 + 52 * i + 2)))), (9, .int (iI (F (2 + 52 * i + 0)))), (8, .int (iI (i : Int))), (7, .int (iI 1)), (6, .int (iI (sumI (borr F) i))), (5, .int (iI (sumI (fun z => F (2 + 52 * z + 3)) i))), (4, .int (iI (sumI (tk F) i))), (3, .int (iI (sumI (fun z => F (2 + 52 * z + 0)) i))), (2, .int (iI (F 0))), (0, .ref b), (1, .int (iI x))]) C hl (q := 2) rfl (by decide) rfl dL_holds_127 (fun ls hl => ?_)
    refine r_goto (tgt := 91) C (by decide) dL_holds_130 ?_
    rw [show ((j : Int) + 1) = ((j + 1 : Nat) : Int) by omega] at hl
    exact W.widen (by omega) (by omega) (ih3 (j + 1) (by omega) _ _ hP2 G2 _ (lv_sub hl [0, 1, 2, 3, 4, 5, 6, 7, 8, 9, 10, 11, 12, 13, 14, 15] rfl))
set_option maxHeartbeats 4000000 in
theorem h_spaces (l : Launch) (hst : l.stackTraces = false) (g : Gt) (kt : Kt) (b : Nat) (hkb : kt.1 ≤ b) {ac : Int} {F DIA KEP ISK : Nat → Int} {T : Int} (hI : IVS ac F DIA KEP ISK T) (hT : T ≤ 900000) {zp : Program} {ze : Env} {zs : State} {zm : MethodId} {za : Array Value} {zb : List Frame} {zt : Method} {zc : Code} {x9 : Cond} (C : Cx zp zs zm za zt zc cL_holds 16 "LentRoomLaw" (some .boolean) x9 g) (KZ : SK kt zs zs.heap) (hkz : kt.1 ≤ zs.heap.size) (x : Int) (hx : 0 ≤ x ∧ x < 2147483648) : ∀ (w i : Nat), i + w = (F 0).toNat → ∀ (H : Heap) (locs : List Loc), DW g b ac F DIA KEP ISK H → GT (Cdp b) zs.heap H locs → ∀ ls : Array Slot, lv_has ls 16 [(8, .int (iI (i : Int))), (7, .int (iI 1)), (6, .int (iI (sumI (borr F) i))), (5, .int (iI (sumI (fun z => F (2 + 52 * z + 3)) i))), (4, .int (iI (sumI (tk F) i))), (3, .int (iI (sumI (fun z => F (2 + 52 * z + 0)) i))), (2, .int (iI (F 0))), (0, .ref b), (1, .int (iI x))] → W zp l ze (rmx 11 208 480) zs zm za zb zt zc H locs (1 + 44 * i + 0) (6 * (1 + 44 * i + 0)) (MQ zb (TQ 1 (Cdp b) (DW g b ac F DIA KEP ISK)) za zs 480 (6 * 480) (Cdp b)) (F0 zm 26 ls []) := by
  have hJ := hI.j
  have hn := hJ.n
  have h1 := hI.ev.1
  intro w
  induction w with
  | zero =>
    intro i hw H locs hP G0 ls hl
    have Ks := G0.sk KZ hkz (fun q hq => by have := hq.1; omega)
    refine r_iload C (lv_at hl 0 rfl) dL_holds_26 ?_
    refine r_iload_n C rfl (lv_at hl 6 rfl) dL_holds_28 ?_
    refine r_icmp_ge (tgt := 328) C (by decide) (by omega) (by omega) dL_holds_29 (fun z9 => ?_) (fun z9 => absurd z9 (by omega))
    have hi : i = (F 0).toNat := by omega
    subst hi
    have hS := hJ.S.m (show T ≤ 1000000 by omega)
    rw [borrA_n hS hJ.Z, S5_n hS hJ.Z 3 (by omega), tkA_n hS hJ.Z, S5_n hS hJ.Z 0 (by omega)] at hl
    exact W.widen (by omega) (by omega) (h_328 l hst g kt b hkb hI hT C KZ hkz x hx _ _ hP G0 _ (lv_sub hl [0, 1, 2, 3, 4, 5, 6, 7, 8] rfl))
  | succ w ih =>
    intro i hw H locs hP G0 ls hl
    have Ks := G0.sk KZ hkz (fun q hq => by have := hq.1; omega)
    have hsi : i < 5 := by omega
    have hin : (i : Int) < F 0 := by omega
    refine r_iload C (lv_at hl 0 rfl) dL_holds_26 ?_
    refine r_iload_n C rfl (lv_at hl 6 rfl) dL_holds_28 ?_
    refine r_icmp_ge (tgt := 328) C (by decide) (by omega) (by omega) dL_holds_29 (fun z9 => absurd z9 (by omega)) (fun z9 => ?_)
    refine r_iload C (lv_at hl 1 rfl) dL_holds_32 ?_
    refine r_if_eq (tgt := 328) C (by decide) (by decide) dL_holds_34 (fun z9 => absurd z9 (by decide)) (fun z9 => ?_)
    refine r_aload_n C rfl (lv_at hl 7 rfl) dL_holds_37 ?_
    refine r_iconst C dL_holds_38 ?_
    refine r_iload C (lv_at hl 0 rfl) dL_holds_39 ?_
    refine r_iconst C dL_holds_41 ?_
    refine r_iconst C dL_holds_42 ?_
    refine r_sT (rest := []) (c9 := 1 + 44 * i + 2) (r := F (2 + 52 * i + 0)) C Ks (k_call_3 l hst g kt b 0 ac z0 F DIA KEP ISK T hJ hT (i : Int) (by omega) i (fun _ => by omega) 0 (by omega) 0) ((tv_0 (by rw [if_neg (by omega), if_neg (by omega)])).trans (rfl)) s_RL_162 hP hl.1 rfl ⟨by decide, by decide⟩ rfl (Nat.le_of_ble_eq_true rfl) (by omega) (show 1 + 44 * i + 2 ≤ 480 by omega) (Nat.le_refl _) dL_holds_43 (pc9 := 46) rfl (fun H1 L1 p1 F1 => ?_)
    have G1 := G0.call (fun _ h => h) F1
    have K1 := G1.sk KZ hkz (fun q hq => by have := hq.1; omega)
    have hP1 := rdw p1
    refine r_istore (lv' := [(9, .int (iI (F (2 + 52 * i + 0)))), (8, .int (iI (i : Int))), (7, .int (iI 1)), (6, .int (iI (sumI (borr F) i))), (5, .int (iI (sumI (fun z => F (2 + 52 * z + 3)) i))), (4, .int (iI (sumI (tk F) i))), (3, .int (iI (sumI (fun z => F (2 + 52 * z + 0)) i))), (2, .int (iI (F 0))), (0, .ref b), (1, .int (iI x))]) C hl (by decide) rfl dL_holds_46 (fun ls hl => ?_)
    refine r_aload_n C rfl (lv_at hl 8 rfl) dL_holds_48 ?_
    refine r_iconst C dL_holds_49 ?_
    refine r_iload C (lv_at hl 1 rfl) dL_holds_50 ?_
    refine r_iconst C dL_holds_52 ?_
    refine r_iconst C dL_holds_53 ?_
    refine r_sT (rest := []) (c9 := 1 + 44 * i + 4) (r := F (2 + 52 * i + 2)) C K1 (k_call_3 l hst g kt b 0 ac z0 F DIA KEP ISK T hJ hT (i : Int) (by omega) i (fun _ => by omega) 3 (by omega) 0) ((tv_0 (by rw [if_neg (by omega), if_neg (by omega)])).trans (rfl)) s_RL_162 hP1 hl.1 rfl ⟨by decide, by decide⟩ rfl (Nat.le_of_ble_eq_true rfl) (by omega) (show 1 + 44 * i + 4 ≤ 480 by omega) (Nat.le_refl _) dL_holds_54 (pc9 := 57) rfl (fun H2 L2 p2 F2 => ?_)
    have G2 := G1.call (fun _ h => h) F2
    have K2 := G2.sk KZ hkz (fun q hq => by have := hq.1; omega)
    have hP2 := rdw p2
    refine r_istore (lv' := [(10, .int (iI (F (2 + 52 * i + 2)))), (9, .int (iI (F (2 + 52 * i + 0)))), (8, .int (iI (i : Int))), (7, .int (iI 1)), (6, .int (iI (sumI (borr F) i))), (5, .int (iI (sumI (fun z => F (2 + 52 * z + 3)) i))), (4, .int (iI (sumI (tk F) i))), (3, .int (iI (sumI (fun z => F (2 + 52 * z + 0)) i))), (2, .int (iI (F 0))), (0, .ref b), (1, .int (iI x))]) C hl (by decide) rfl dL_holds_57 (fun ls hl => ?_)
    refine r_aload_n C rfl (lv_at hl 9 rfl) dL_holds_59 ?_
    refine r_iconst C dL_holds_60 ?_
    refine r_iload C (lv_at hl 2 rfl) dL_holds_61 ?_
    refine r_bipush C (by decide) dL_holds_63 ?_
    refine r_iconst C dL_holds_65 ?_
    refine r_sT (rest := []) (c9 := 1 + 44 * i + 6) (r := S5 F (7 + i)) C K2 (k_call_3 l hst g kt b 0 ac z0 F DIA KEP ISK T hJ hT (i : Int) (by omega) i (fun _ => by omega) 6 (by omega) 0) ((tv_0 (by rw [if_neg (by omega), if_neg (by omega)])).trans (rfl)) s_RL_162 hP2 hl.1 rfl ⟨by decide, by decide⟩ rfl (Nat.le_of_ble_eq_true rfl) (by omega) (show 1 + 44 * i + 6 ≤ 480 by omega) (Nat.le_refl _) dL_holds_66 (pc9 := 69) rfl (fun H3 L3 p3 F3 => ?_)
    have G3 := G2.call (fun _ h => h) F3
    have K3 := G3.sk KZ hkz (fun q hq => by have := hq.1; omega)
    have hP3 := rdw p3
    refine r_istore (lv' := [(11, .int (iI (S5 F (7 + i)))), (10, .int (iI (F (2 + 52 * i + 2)))), (9, .int (iI (F (2 + 52 * i + 0)))), (8, .int (iI (i : Int))), (7, .int (iI 1)), (6, .int (iI (sumI (borr F) i))), (5, .int (iI (sumI (fun z => F (2 + 52 * z + 3)) i))), (4, .int (iI (sumI (tk F) i))), (3, .int (iI (sumI (fun z => F (2 + 52 * z + 0)) i))), (2, .int (iI (F 0))), (0, .ref b), (1, .int (iI x))]) C hl (by decide) rfl dL_holds_69 (fun ls hl => ?_)
    refine r_aload_n C rfl (lv_at hl 10 rfl) dL_holds_71 ?_
    refine r_iconst C dL_holds_72 ?_
    refine r_iload C (lv_at hl 3 rfl) dL_holds_73 ?_
    refine r_iconst C dL_holds_75 ?_
    refine r_iconst C dL_holds_76 ?_
    refine r_sT (rest := []) (c9 := 1 + 44 * i + 8) (r := borr F i) C K3 (k_call_3 l hst g kt b 0 ac z0 F DIA KEP ISK T hJ hT (i : Int) (by omega) i (fun _ => by omega) 5 (by omega) 0) ((tv_0 (by rw [if_neg (by omega), if_neg (by omega)])).trans (rfl)) s_RL_162 hP3 hl.1 rfl ⟨by decide, by decide⟩ rfl (Nat.le_of_ble_eq_true rfl) (by omega) (show 1 + 44 * i + 8 ≤ 480 by omega) (Nat.le_refl _) dL_holds_77 (pc9 := 80) rfl (fun H4 L4 p4 F4 => ?_)
    have G4 := G3.call (fun _ h => h) F4
    have K4 := G4.sk KZ hkz (fun q hq => by have := hq.1; omega)
    have hP4 := rdw p4
    refine r_istore (lv' := [(12, .int (iI (borr F i))), (11, .int (iI (S5 F (7 + i)))), (10, .int (iI (F (2 + 52 * i + 2)))), (9, .int (iI (F (2 + 52 * i + 0)))), (8, .int (iI (i : Int))), (7, .int (iI 1)), (6, .int (iI (sumI (borr F) i))), (5, .int (iI (sumI (fun z => F (2 + 52 * z + 3)) i))), (4, .int (iI (sumI (tk F) i))), (3, .int (iI (sumI (fun z => F (2 + 52 * z + 0)) i))), (2, .int (iI (F 0))), (0, .ref b), (1, .int (iI x))]) C hl (by decide) rfl dL_holds_80 (fun ls hl => ?_)
    refine r_iconst C dL_holds_82 ?_
    refine r_istore (lv' := [(13, .int (iI 0)), (12, .int (iI (borr F i))), (11, .int (iI (S5 F (7 + i)))), (10, .int (iI (F (2 + 52 * i + 2)))), (9, .int (iI (F (2 + 52 * i + 0)))), (8, .int (iI (i : Int))), (7, .int (iI 1)), (6, .int (iI (sumI (borr F) i))), (5, .int (iI (sumI (fun z => F (2 + 52 * z + 3)) i))), (4, .int (iI (sumI (tk F) i))), (3, .int (iI (sumI (fun z => F (2 + 52 * z + 0)) i))), (2, .int (iI (F 0))), (0, .ref b), (1, .int (iI x))]) C hl (by decide) rfl dL_holds_83 (fun ls hl => ?_)
    refine r_iconst C dL_holds_85 ?_
    refine r_istore (lv' := [(14, .int (iI 0)), (13, .int (iI 0)), (12, .int (iI (borr F i))), (11, .int (iI (S5 F (7 + i)))), (10, .int (iI (F (2 + 52 * i + 2)))), (9, .int (iI (F (2 + 52 * i + 0)))), (8, .int (iI (i : Int))), (7, .int (iI 1)), (6, .int (iI (sumI (borr F) i))), (5, .int (iI (sumI (fun z => F (2 + 52 * z + 3)) i))), (4, .int (iI (sumI (tk F) i))), (3, .int (iI (sumI (fun z => F (2 + 52 * z + 0)) i))), (2, .int (iI (F 0))), (0, .ref b), (1, .int (iI x))]) C hl (by decide) rfl dL_holds_86 (fun ls hl => ?_)
    refine r_iconst C dL_holds_88 ?_
    refine r_istore (lv' := [(15, .int (iI 0)), (14, .int (iI 0)), (13, .int (iI 0)), (12, .int (iI (borr F i))), (11, .int (iI (S5 F (7 + i)))), (10, .int (iI (F (2 + 52 * i + 2)))), (9, .int (iI (F (2 + 52 * i + 0)))), (8, .int (iI (i : Int))), (7, .int (iI 1)), (6, .int (iI (sumI (borr F) i))), (5, .int (iI (sumI (fun z => F (2 + 52 * z + 3)) i))), (4, .int (iI (sumI (tk F) i))), (3, .int (iI (sumI (fun z => F (2 + 52 * z + 0)) i))), (2, .int (iI (F 0))), (0, .ref b), (1, .int (iI x))]) C hl (by decide) rfl dL_holds_89 (fun ls hl => ?_)
    exact W.widen (by omega) (by omega) (h_inner l hst g kt b hkb hI hT C KZ hkz x hx i hsi hin (fun H locs hP G ls hl => W.widen (by omega) (by omega) (ih (i + 1) (by omega) _ _ hP G _ hl)) (F 0).toNat 0 (Nat.zero_add _) _ _ hP4 G4 _ (lv_sub hl [0, 1, 2, 3, 4, 5, 6, 7, 8, 9, 10, 11, 12, 13, 14, 15] rfl))
set_option maxHeartbeats 4000000 in
theorem k_holds (l : Launch) (hst : l.stackTraces = false) (g : Gt) (kt : Kt) (b : Nat) (hkb : kt.1 ≤ b) {ac : Int} {F DIA KEP ISK : Nat → Int} {T : Int} (hI : IVS ac F DIA KEP ISK T) (hT : T ≤ 900000) (x : Int) (hx : 0 ≤ x ∧ x < 2147483648) : TM l yL_holds (.code yL_holds cL_holds 16 (some .boolean)) 11 208 480 g kt [.ref b, .int (iI x)] (DW g b ac F DIA KEP ISK) 1 (Cdp b) (DW g b ac F DIA KEP ISK) := by
  refine tm_of "LentRoomLaw" (by decide) rfl (Nat.le_of_ble_eq_true rfl) ?_
  intro zp ze zs zm za zb zt zc ls C KZ hP G0 hl
  have hl : lv_has ls 16 [(0, .ref b), (1, .int (iI x))] := hl
  have hJ := hI.j
  have hac := hI.acb
  have hn := hJ.n
  have h1 := hI.ev.1
  have hlt := hP.lt
  have hkz : kt.1 ≤ zs.heap.size := by omega
  refine r_aload_n C rfl (lv_at hl 0 rfl) dL_holds_0 ?_
  refine r_iconst C dL_holds_1 ?_
  refine r_iconst C dL_holds_2 ?_
  refine r_iconst C dL_holds_3 ?_
  refine r_iconst C dL_holds_4 ?_
  refine r_sT (rest := []) (c9 := 1) (r := F 0) C KZ (k_call_2 l hst g kt b 0 ac z0 F DIA KEP ISK T hJ hT 0 (by omega) 0 0) ((tv_0 (Kd_0.mpr ⟨by omega, by omega⟩)).trans (rfl)) s_RL_162 hP hl.1 rfl ⟨by decide, by decide⟩ rfl (Nat.le_of_ble_eq_true rfl) (by omega) (show 1 ≤ 480 by omega) (Nat.le_refl _) dL_holds_5 (pc9 := 8) rfl (fun H1 L1 p1 F1 => ?_)
  have G1 := G0.call (fun _ h => h) F1
  have K1 := G1.sk KZ hkz (fun q hq => by have := hq.1; omega)
  have hP1 := rdw p1
  refine r_istore_n (lv' := [(2, .int (iI (F 0))), (0, .ref b), (1, .int (iI x))]) C rfl hl (by decide) rfl dL_holds_8 (fun ls hl => ?_)
  refine r_iconst C dL_holds_9 ?_
  refine r_istore_n (lv' := [(3, .int (iI 0)), (2, .int (iI (F 0))), (0, .ref b), (1, .int (iI x))]) C rfl hl (by decide) rfl dL_holds_10 (fun ls hl => ?_)
  refine r_iconst C dL_holds_11 ?_
  refine r_istore (lv' := [(4, .int (iI 0)), (3, .int (iI 0)), (2, .int (iI (F 0))), (0, .ref b), (1, .int (iI x))]) C hl (by decide) rfl dL_holds_12 (fun ls hl => ?_)
  refine r_iconst C dL_holds_14 ?_
  refine r_istore (lv' := [(5, .int (iI 0)), (4, .int (iI 0)), (3, .int (iI 0)), (2, .int (iI (F 0))), (0, .ref b), (1, .int (iI x))]) C hl (by decide) rfl dL_holds_15 (fun ls hl => ?_)
  refine r_iconst C dL_holds_17 ?_
  refine r_istore (lv' := [(6, .int (iI 0)), (5, .int (iI 0)), (4, .int (iI 0)), (3, .int (iI 0)), (2, .int (iI (F 0))), (0, .ref b), (1, .int (iI x))]) C hl (by decide) rfl dL_holds_18 (fun ls hl => ?_)
  refine r_iconst C dL_holds_20 ?_
  refine r_istore (lv' := [(7, .int (iI 1)), (6, .int (iI 0)), (5, .int (iI 0)), (4, .int (iI 0)), (3, .int (iI 0)), (2, .int (iI (F 0))), (0, .ref b), (1, .int (iI x))]) C hl (by decide) rfl dL_holds_21 (fun ls hl => ?_)
  refine r_iconst C dL_holds_23 ?_
  refine r_istore (lv' := [(8, .int (iI 0)), (7, .int (iI 1)), (6, .int (iI 0)), (5, .int (iI 0)), (4, .int (iI 0)), (3, .int (iI 0)), (2, .int (iI (F 0))), (0, .ref b), (1, .int (iI x))]) C hl (by decide) rfl dL_holds_24 (fun ls hl => ?_)
  exact W.widen (by omega) (by omega) (h_spaces l hst g kt b hkb hI hT C KZ hkz x hx (F 0).toNat 0 (Nat.zero_add _) _ _ hP1 G1 _ (lv_sub hl [0, 1, 2, 3, 4, 5, 6, 7, 8] rfl))

theorem s_RX3_208 : SiteV "LentRoom" 208 "LentRoom$Device" yX0_takeBlock cX0_takeBlock 3 (some .int) 1 := ⟨⟨q_684, q_434, q_435, q_32, q_436⟩, rfl, by decide, by decide, by decide +kernel⟩
theorem s_RX3_76 : SiteV "LentRoom" 76 "LentRoom$Device" yX0_become cX0_become 3 none 1 := ⟨⟨q_374, q_375, q_376, q_32, q_377⟩, rfl, by decide, by decide, by decide +kernel⟩
set_option maxHeartbeats 4000000 in
theorem k_X3_growGuess (l : Launch) (g : Gt) (b d : Nat) (F GU : Nat → Int) (T : Int) (hdb : b + 3 ≤ d ∧ d + 20 ≤ b + 347) (hJ : J F z0 T) (hT : T ≤ 960000) (x : Int) (s : Nat) (hx : x = (s : Int)) (hs : s < 5) (hn : (s : Int) < F 0) (v : Int) (n : Nat) (hv : v = (n : Int)) (hn1 : n ≤ 100) : CH l yX3_growGuess cX3_growGuess 5 (some .int) 4 94 g [.ref b, .ref d, .int (iI x), .int (iI v)] (fun H => lrAt g b H ∧ dvAt g d F H ∧ dvAt g (b + 347) GU H) (some (.int (iI ((gN F s n 0 : Nat) : Int)))) (Dvp (b + 347)) (fun H => lrAt g b H ∧ dvAt g d F H ∧ dvAt g (b + 347) (gF F s (gN F s n 0)) H) := by
  refine ch_of "LentRoom" (by decide) rfl (Nat.le_of_ble_eq_true rfl) ?_
  intro zp ze zs zm za zb zt zc ls C hP hF hl
  obtain ⟨hb, hd, hgu⟩ := hP
  have hl : lv_has ls 5 [(0, .ref b), (1, .ref d), (2, .int (iI x)), (3, .int (iI v))] := hl
  have hS := hJ.S
  have hSm : Sm F := hS.m (by omega)
  have hZ := hJ.Z
  have hn5 := hJ.n
  have hgr := fun k hk => hJ.gr hs hn (fun _ _ _ => rfl) k hk
  have cut11 : ∀ (N : Nat) (i : Nat) (v4 : Int), n + 1 - i < N → (i ≤ n) → (gN F s n 0 = gN F s (n - i) i) → (v4 = (i : Int)) → ∀ (H : Heap) (locs : List Loc), lrAt g b H → dvAt g d F H → dvAt g (b + 347) (gF F s i) H → Fr (Dvp (b + 347)) zs.heap H locs → ∀ ls : Array Slot, lv_has ls 5 [(0, .ref b), (1, .ref d), (2, .int (iI x)), (3, .int (iI v)), (4, .int (iI v4))] → W zp l ze (rmc 4 94) zs zm za zb zt zc H locs 0 0 (MQ zb (HQ (some (.int (iI ((gN F s n 0 : Nat) : Int)))) (Dvp (b + 347)) (fun H => lrAt g b H ∧ dvAt g d F H ∧ dvAt g (b + 347) (gF F s (gN F s n 0)) H)) za zs 0 0 (Dvp (b + 347))) (F0 zm 11 ls []) := by
    intro N
    induction N with
    | zero => intro i v4; exact fun hms => absurd hms (Nat.not_lt_zero _)
    | succ N ih =>
      intro i v4 hms hi hg hv4 H locs hb hd hgu hF ls hl
      obtain ⟨dl1, hd1, hJ1, h01⟩ := hgr i (by omega)
      have hS1 := hJ1.S
      have hSm1 : Sm (gF F s i) := hS1.m (by omega)
      have hZ1 := hJ1.Z
      have hG1 := hJ1.G
      have hPg1 := hJ1.Pg hd1
      refine r_iload C (lv_at hl 4 rfl) dX3_growGuess_11 ?_
      refine r_iload_n C rfl (lv_at hl 3 rfl) dX3_growGuess_13 ?_
      refine r_icmp_ge (tgt := 35) C (by decide) (by omega) (by omega) dX3_growGuess_14 (fun c1 => ?_) (fun c1 => ?_)
      · refine r_iload C (lv_at hl 4 rfl) dX3_growGuess_35 ?_
        have eN : gN F s n 0 = i := (by rw [hg, show n - i = 0 by omega]; rfl)
        exact r_iretH C rfl rfl (congrArg iI (by omega)) hF (by rw [eN]; exact ⟨hb, hd, hgu⟩) dX3_growGuess_37
      · refine r_aload_n C rfl (lv_at hl 0 rfl) dX3_growGuess_17 ?_
        refine r_get C (ci := 3) (v := .ref (b + 347)) rfl uin3 hb.o 7 (by decide) q_144 rfl rfl dX3_growGuess_18 ?_
        refine r_iload_n C rfl (lv_at hl 2 rfl) dX3_growGuess_21 ?_
        refine r_vHi (rest := []) C (k_X0_takeBlock l g (b + 347) (gF F s i) (T + 4 * i) hS1 (by omega) hZ1 hG1 x s (by omega) (by omega) hPg1) s_RX3_208 hgu hF (fun _ h => h) (recv C (ci := 0) rfl hgu.o) hl.1 rfl ⟨by decide, by decide⟩ rfl (Nat.le_of_ble_eq_true rfl) ⟨Nat.le_refl 0, Nat.le_refl 0⟩ dX3_growGuess_22 (fun H3 locs3 h3 ho3 hz3 hF => ?_)
        have hb := hb.kept (ho3 _ (not_dvp (by omega)))
        have hd := hd.kept (fun q h1 h2 => ho3 _ (not_dvp (by omega)))
        have hgu := h3
        have b2 := needR_b (gF F s i) s
        refine r_iconst C dX3_growGuess_25 ?_
        refine r_icmp_eq (tgt := 35) C (by decide) (by omega) (by decide) dX3_growGuess_26 (fun c4 => ?_) (fun c4 => ?_)
        · refine r_iload C (lv_at hl 4 rfl) dX3_growGuess_35 ?_
          have e5 : needR (gF F s i) s = 5 := (by omega)
          obtain ⟨e6, e7⟩ := needR_5 e5
          have eN : gN F s n 0 = i := (by rw [hg, show n - i = (n - i - 1) + 1 by omega, gN, if_pos e5])
          exact r_iretH C rfl rfl (congrArg iI (by omega)) hF (by rw [eN]; rw [e6] at hgu; exact ⟨hb, hd, hgu⟩) dX3_growGuess_37
        · have hgu : dvAt g (b + 347) (gF F s (i + 1)) H3 := hgu
          refine r_iinc (lv' := [(4, .int (iI (v4 + 1))), (0, .ref b), (1, .ref d), (2, .int (iI x)), (3, .int (iI v))]) C hl (q := 4) rfl (by decide) rfl dX3_growGuess_29 (fun ls hl => ?_)
          refine r_goto (tgt := 11) C (by decide) dX3_growGuess_32 ?_
          exact ih (i + 1) (v4 + 1) (by omega) (by omega) (by rw [hg, show n - i = (n - (i + 1)) + 1 by omega, gN, if_neg (by omega)]) (by omega) _ _ hb hd hgu hF _ (lv_sub hl [1, 2, 3, 4, 0] rfl)
  refine r_aload_n C rfl (lv_at hl 0 rfl) dX3_growGuess_0 ?_
  refine r_get C (ci := 3) (v := .ref (b + 347)) rfl uin3 hb.o 7 (by decide) q_144 rfl rfl dX3_growGuess_1 ?_
  refine r_aload_n C rfl (lv_at hl 1 rfl) dX3_growGuess_4 ?_
  refine r_vHn (rest := []) C (k_X0_become l g (b + 347) GU d F (by omega)) s_RX3_76 ⟨hgu, hd⟩ hF (fun _ h => h) (recv C (ci := 0) rfl hgu.o) hl.1 rfl ⟨by decide, by decide⟩ rfl (Nat.le_of_ble_eq_true rfl) ⟨Nat.le_refl 0, Nat.le_refl 0⟩ dX3_growGuess_5 (fun H5 locs5 h5 ho5 hz5 hF => ?_)
  have hb := hb.kept (ho5 _ (not_dvp (by omega)))
  obtain ⟨hgu, hd⟩ := h5
  refine r_iconst C dX3_growGuess_8 ?_
  refine r_istore (lv' := [(4, .int (iI 0)), (0, .ref b), (1, .ref d), (2, .int (iI x)), (3, .int (iI v))]) C hl (by decide) rfl dX3_growGuess_9 (fun ls hl => ?_)
  exact cut11 _ 0 0 (Nat.lt_succ_self _) (by omega) (by rfl) (by omega) _ _ hb hd hgu hF _ (lv_sub hl [1, 2, 3, 4, 0] rfl)
set_option maxHeartbeats 4000000 in
theorem k_X3_withoutGroups (l : Launch) (g : Gt) (v c : Int) (k : Nat) (hv : 0 ≤ v ∧ RgL v) (hc : c = (k : Int)) (hk : k ≤ 3) : CP l yX3_withoutGroups cX3_withoutGroups 6 (some .long) 0 0 g [.long (iL v), .int (iI c)] (fun _ => True) (some (.long (iL (wgV v k)))) := by
  refine cp_of "LentRoom" (by decide) rfl (Nat.le_of_ble_eq_true rfl) ?_
  intro zp ze zs zm za zb zt zc ls C hP hl
  have hl : lv_has ls 6 [(0, .long (iL v)), (2, .int (iI c))] := hl
  have cut5 : ∀ (N : Nat) (i : Nat) (v5 : Int), 4 - i < N → (i ≤ k) → (v5 = (i : Int)) → ∀ ls : Array Slot, lv_has ls 6 [(0, .long (iL v)), (2, .int (iI c)), (3, .long (iL (wgV v i))), (5, .int (iI v5))] → W zp l ze (rmc 0 0) zs zm za zb zt zc zs.heap [] 0 0 (MQ zb (PQ (some (.long (iL (wgV v k))))) za zs 0 0 (fun _ => False)) (F0 zm 5 ls []) := by
    intro N
    induction N with
    | zero => intro i v5; exact fun hms => absurd hms (Nat.not_lt_zero _)
    | succ N ih =>
      intro i v5 hms hi hv5 ls hl
      have hwb := wgV_b (v := v) hv.1 i
      refine r_iload C (lv_at hl 3 rfl) dX3_withoutGroups_5 ?_
      refine r_iload_n C rfl (lv_at hl 1 rfl) dX3_withoutGroups_7 ?_
      refine r_icmp_ge (tgt := 23) C (by decide) (by omega) (by omega) dX3_withoutGroups_8 (fun c1 => ?_) (fun c1 => ?_)
      · refine r_lload_n C rfl (lv_at hl 2 rfl) dX3_withoutGroups_23 ?_
        exact r_lretP C rfl (congrArg iL (by rw [show k = i by omega])) dX3_withoutGroups_24
      · refine r_lload_n C rfl (lv_at hl 2 rfl) dX3_withoutGroups_11 ?_
        refine r_ldc2 C (v := iL 100000) q_732 dX3_withoutGroups_12 ?_
        refine r_ldiv C (by omega) (by omega) dX3_withoutGroups_15 ?_
        rw [show wgV v i / 100000 = wgV v (i + 1) from rfl]
        refine r_lstore_n (lv' := [(3, .long (iL (wgV v (i + 1)))), (0, .long (iL v)), (2, .int (iI c)), (5, .int (iI v5))]) C rfl hl (by decide) rfl dX3_withoutGroups_16 (fun ls hl => ?_)
        refine r_iinc (lv' := [(5, .int (iI (v5 + 1))), (3, .long (iL (wgV v (i + 1)))), (0, .long (iL v)), (2, .int (iI c))]) C hl (q := 3) rfl (by decide) rfl dX3_withoutGroups_17 (fun ls hl => ?_)
        refine r_goto (tgt := 5) C (by decide) dX3_withoutGroups_20 ?_
        exact ih (i + 1) (v5 + 1) (by omega) (by omega) (by omega) _ (lv_sub hl [2, 3, 1, 0] rfl)
  refine r_lload_n C rfl (lv_at hl 0 rfl) dX3_withoutGroups_0 ?_
  refine r_lstore_n (lv' := [(3, .long (iL v)), (0, .long (iL v)), (2, .int (iI c))]) C rfl hl (by decide) rfl dX3_withoutGroups_1 (fun ls hl => ?_)
  refine r_iconst C dX3_withoutGroups_2 ?_
  refine r_istore (lv' := [(5, .int (iI 0)), (3, .long (iL v)), (0, .long (iL v)), (2, .int (iI c))]) C hl (by decide) rfl dX3_withoutGroups_3 (fun ls hl => ?_)
  exact cut5 _ 0 0 (Nat.lt_succ_self _) (by omega) (by omega) _ (lv_sub hl [2, 3, 1, 0] rfl)

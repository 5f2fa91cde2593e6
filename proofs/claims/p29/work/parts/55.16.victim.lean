theorem s_RX3_211 : SiteV "LentRoom" 211 "LentRoom$Device" yX0_firstLoserSince cX0_firstLoserSince 3 (some .int) 1 := ⟨⟨q_701, q_702, q_703, q_32, q_704⟩, rfl, by decide, by decide, by decide +kernel⟩
set_option maxHeartbeats 4000000 in
theorem k_X3_victim (l : Launch) (hst : l.stackTraces = false) (g : Gt) (kt : Kt) (b : Nat) (sz ac : Int) (TX F DIA KEP ISK : Nat → Int) (T : Int) (hJ : J F z0 T) (hT : T ≤ 900000) (x : Int) (hx : Rg x) (s : Nat) (hs : 0 ≤ x → x = (s : Int)) : XM l yX3_victim cX3_victim 4 (some .int) 7 111 1 g kt [.ref b, .int (iI x)] (CW g b sz ac TX F DIA KEP ISK) (Kd (0 ≤ x ∧ x < F 0)) [eIB] (some (.int (iI (gL F s (gN F s 61 0))))) (Cdp b) (CW g b sz ac TX F DIA KEP ISK) := by
  refine xm_of "LentRoom" (by decide) rfl (Nat.le_of_ble_eq_true rfl) ?_
  intro zp ze zs zm za zb zt zc ls C K9 ht9 hP hF hl
  obtain ⟨first, G, TR, GU, hRG, hb, ht, hg, hd, hh, hq, hm, hsl, hfi, hbl, htr, hgu, hsf⟩ := hP
  have hac9 := hRG.1
  have hfi9 := hRG.2.1
  have hl : lv_has ls 4 [(0, .ref b), (1, .int (iI x))] := hl
  have hS := hJ.S
  have hSm : Sm F := hS.m (by omega)
  have hZ := hJ.Z
  have hn5 := hJ.n
  have hC := hJ.C
  have hG := hJ.G
  have hPgA : ∀ s : Nat, (s : Int) < F 0 → Pg F s := fun s _ => hJ.Pg (fun _ _ _ => rfl)
  have cut20 : ∀ (N : Nat) (i : Nat) (v2 : Int) (v3 : Int), 61 - i < N → (i ≤ 60) → (0 ≤ x ∧ x < F 0) → (gN F s 61 0 = gN F s (61 - i) i) → (-1 ≤ v2 ∧ v2 < 5) → (v2 = gL F s i) → (v3 = (i : Int)) → ∀ (H : Heap) (locs : List Loc), lrAt g b H → txAt g (b + 1) sz H → cAt g (b + 1 + 1) 120 TX H → dvAt g (b + 3) F H → hoAt g (b + 23) first ac H → qAt g (b + 24) 14 (fun i => some (b + 25 + 20 * i)) H → fmAt g (b + 25) 14 G H → qAt g (b + 305) 2 (fun i => some (b + 367 + 20 * i)) H → zAt g (b + 306) 2 ISK H → dvAt g (b + 307) z0 H → dvAt g (b + 327) TR H → dvAt g (b + 347) (gF F s i) H → fmAt g (b + 367) 2 (fun i k => KEP (262 * i + k)) H → Fr (Cdp b) zs.heap H locs → ∀ ls : Array Slot, lv_has ls 4 [(0, .ref b), (1, .int (iI x)), (2, .int (iI v2)), (3, .int (iI v3))] → W zp l ze (rmx 7 111 1) zs zm za zb zt zc H locs 1 6 (vx_MQ zb (XHQ (Kd (0 ≤ x ∧ x < F 0)) (some (.int (iI (gL F s (gN F s 61 0))))) (Cdp b) (CW g b sz ac TX F DIA KEP ISK)) (XX (Kd (0 ≤ x ∧ x < F 0)) [eIB]) za zs 1 (6 * 1) (Cdp b)) (F0 zm 20 ls []) := by
    intro N
    induction N with
    | zero => intro i v2 v3; exact fun hms => absurd hms (Nat.not_lt_zero _)
    | succ N ih =>
      intro i v2 v3 hms hi hin hgn hb2 hv2 hv3 H locs hb ht hg hd hh hq hm hsl hfi hbl htr hgu hsf hF ls hl
      obtain ⟨dl1, hd1, hJ1, h01⟩ := hJ.gr (s := s) (by omega) (by omega) (fun _ _ _ => rfl) i (by omega)
      have hS1 := hJ1.S
      have hSm1 : Sm (gF F s i) := hS1.m (by omega)
      have hZ1 := hJ1.Z
      have hG1 := hJ1.G
      have hPg1 := hJ1.Pg hd1
      refine r_iload_n C rfl (lv_at hl 3 rfl) dX3_victim_20 ?_
      refine r_bipush C (by decide) dX3_victim_21 ?_
      refine r_icmp_ge (tgt := 63) C (by decide) (by omega) (by decide) dX3_victim_23 (fun c1 => ?_) (fun c1 => ?_)
      · refine r_iload_n C rfl (lv_at hl 2 rfl) dX3_victim_63 ?_
        have hK0 : ((Kd (0 ≤ x ∧ x < F 0)) : Int) = 0 := (by exact if_pos (by omega))
        exact r_iretX C rfl rfl (congrArg iI (by have h61 := gN_61 hJ (s := s) (by omega) (by omega) (by omega); have hb9 := gN_b F s 60 0; have hb8 := gN_b F s (61 - i) i; rw [hv2, show gN F s 61 0 = i by omega])) hF hK0 (by exact ⟨first, G, TR, gF F s i, hRG, hb, ht, hg, hd, hh, hq, hm, hsl, hfi, hbl, htr, hgu, hsf⟩) (by decide) (by decide) dX3_victim_64
      · refine r_iload_n C rfl (lv_at hl 2 rfl) dX3_victim_26 ?_
        refine r_iconst C dX3_victim_27 ?_
        refine r_icmp_ne (tgt := 63) C (by decide) (by omega) (by decide) dX3_victim_28 (fun c2 => ?_) (fun c2 => ?_)
        · refine r_iload_n C rfl (lv_at hl 2 rfl) dX3_victim_63 ?_
          have hK0 : ((Kd (0 ≤ x ∧ x < F 0)) : Int) = 0 := (by exact if_pos (by omega))
          exact r_iretX C rfl rfl (congrArg iI (by have hb8 := gN_b F s (61 - i) i; rw [hv2, show gN F s 61 0 = i + (gN F s 61 0 - i) by omega, gL_st (by omega)])) hF hK0 (by exact ⟨first, G, TR, gF F s i, hRG, hb, ht, hg, hd, hh, hq, hm, hsl, hfi, hbl, htr, hgu, hsf⟩) (by decide) (by decide) dX3_victim_64
        · refine r_aload_n C rfl (lv_at hl 0 rfl) dX3_victim_31 ?_
          refine r_get C (ci := 3) (v := .ref (b + 347)) rfl uin3 hb.o 7 (by decide) q_144 rfl rfl dX3_victim_32 ?_
          refine r_iload_n C rfl (lv_at hl 1 rfl) dX3_victim_35 ?_
          refine r_vHi (rest := []) C (k_X0_takeBlock l g (b + 347) (gF F s i) (T + 4 * i) hS1 (by omega) hZ1 hG1 x s (by omega) (by omega) hPg1) s_RX3_208 hgu hF (fun q hq => by obtain ⟨h1, h2⟩ := hq; exact ⟨by omega, by omega⟩) (recv C (ci := 0) rfl hgu.o) hl.1 rfl ⟨by decide, by decide⟩ rfl (Nat.le_of_ble_eq_true rfl) ⟨by decide, by decide⟩ dX3_victim_36 (fun H4 locs4 h4 ho4 hz4 hF => ?_)
          have hb := hb.kept (ho4 _ (not_dvp (by omega)))
          have ht := ht.kept (ho4 _ (not_dvp (by omega)))
          have hg := hg.kept (ho4 _ (not_dvp (by omega)))
          have hd := hd.kept (fun q h1 h2 => ho4 _ (not_dvp (by omega)))
          have hh := hh.kept (ho4 _ (not_dvp (by omega)))
          have hq := hq.kept (ho4 _ (not_dvp (by omega)))
          have hm := hm.kept (fun q h1 h2 => ho4 _ (not_dvp (by omega)))
          have hsl := hsl.kept (ho4 _ (not_dvp (by omega)))
          have hfi := hfi.kept (ho4 _ (not_dvp (by omega)))
          have hbl := hbl.kept (fun q h1 h2 => ho4 _ (not_dvp (by omega)))
          have htr := htr.kept (fun q h1 h2 => ho4 _ (not_dvp (by omega)))
          have hsf := hsf.kept (fun q h1 h2 => ho4 _ (not_dvp (by omega)))
          have hgu := h4
          have b3 := needR_b (gF F s i) s
          refine r_iconst C dX3_victim_39 ?_
          refine r_icmp_ne (tgt := 45) C (by decide) (by omega) (by decide) dX3_victim_40 (fun c5 => ?_) (fun c5 => ?_)
          · have hgu : dvAt g (b + 347) (gF F s (i + 1)) H4 := hgu
            obtain ⟨dl2, hd2, hJ2, h02⟩ := hJ.gr (s := s) (by omega) (by omega) (fun _ _ _ => rfl) (i + 1) (by omega)
            have hSm2 : Sm (gF F s (i + 1)) := hJ2.S.m (by omega)
            refine r_aload_n C rfl (lv_at hl 0 rfl) dX3_victim_45 ?_
            refine r_get C (ci := 3) (v := .ref (b + 347)) rfl uin3 hb.o 7 (by decide) q_144 rfl rfl dX3_victim_46 ?_
            refine r_aload_n C rfl (lv_at hl 0 rfl) dX3_victim_49 ?_
            refine r_get C (ci := 3) (v := .ref (b + 3)) rfl uin3 hb.o 1 (by decide) q_138 rfl rfl dX3_victim_50 ?_
            refine r_vPi (rest := []) C (k_X0_firstLoserSince l g (b + 347) (gF F s (i + 1)) hSm2 (b + 3) F hSm) s_RX3_211 ⟨hgu, hd⟩ (recv C (ci := 0) rfl hgu.o) hl.1 rfl ⟨by decide, by decide⟩ rfl (Nat.le_of_ble_eq_true rfl) ⟨by decide, by decide⟩ dX3_victim_53 ?_
            have b6 := fls_b (F := gF F s (i + 1)) (F2 := F) ((gF F s (i + 1)) 0).toNat 0
            rw [show fls (gF F s (i + 1)) F ((gF F s (i + 1)) 0).toNat 0 = gL F s (i + 1) from gL_fls hJ (by omega) (by omega) (by omega) (by omega) (by omega)]
            have hg5 := gL_5 hJ (s := s) (by omega) (by omega) (fun _ _ _ => rfl) (i + 1) (by omega)
            refine r_istore_n (lv' := [(2, .int (iI (gL F s (i + 1)))), (0, .ref b), (1, .int (iI x)), (3, .int (iI v3))]) C rfl hl (by decide) rfl dX3_victim_56 (fun ls hl => ?_)
            refine r_iinc (lv' := [(3, .int (iI (v3 + 1))), (2, .int (iI (gL F s (i + 1)))), (0, .ref b), (1, .int (iI x))]) C hl (q := 3) rfl (by decide) rfl dX3_victim_57 (fun ls hl => ?_)
            refine r_goto (tgt := 20) C (by decide) dX3_victim_60 ?_
            exact ih (i + 1) (gL F s (i + 1)) (v3 + 1) (by omega) (by omega) (by omega) (by rw [hgn, show 61 - i = (61 - (i + 1)) + 1 by omega, gN, if_neg (by omega)]) (by omega) (by rfl) (by omega) _ _ hb ht hg hd hh hq hm hsl hfi hbl htr hgu hsf hF _ (lv_sub hl [2, 3, 1, 0] rfl)
          · refine r_iconst C dX3_victim_43 ?_
            have hK0 : ((Kd (0 ≤ x ∧ x < F 0)) : Int) = 0 := (by exact if_pos (by omega))
            exact r_iretX C rfl rfl (congrArg iI (by have e5 : needR (gF F s i) s = 5 := (by omega); have e6 : gN F s 61 0 = i := (by rw [hgn, show 61 - i = (61 - i - 1) + 1 by omega, gN, if_pos e5]); rw [e6]; omega)) hF hK0 (by exact ⟨first, G, TR, needF (gF F s i) s, hRG, hb, ht, hg, hd, hh, hq, hm, hsl, hfi, hbl, htr, hgu, hsf⟩) (by decide) (by decide) dX3_victim_44
  refine r_aload_n C rfl (lv_at hl 0 rfl) dX3_victim_0 ?_
  refine r_iload_n C rfl (lv_at hl 1 rfl) dX3_victim_1 ?_
  refine r_vXn (rest := []) C K9 ht9 (k_X3_needSpace l hst g kt b F hSm x (by omega)) s_RX3_121 ⟨hb, hd⟩ (recv C (ci := 3) rfl hb.o) (fun hq9 => by obtain ⟨e9, n9⟩ := Kd_n hq9; have e8 : ((Kd (0 ≤ x ∧ x < F 0)) : Int) = 1 := (by exact if_neg (by omega)); (first | rw [e9, e8] | rw [e9]); exact ⟨by decide, rfl⟩) hl.1 rfl ⟨by decide, by decide⟩ rfl (Nat.le_of_ble_eq_true rfl) ⟨by decide, by decide⟩ ⟨by decide, by decide⟩ dX3_victim_2 (fun x7 => ?_)
  have v8 := Kd_0.mp x7
  refine r_aload_n C rfl (lv_at hl 0 rfl) dX3_victim_5 ?_
  refine r_get C (ci := 3) (v := .ref (b + 347)) rfl uin3 hb.o 7 (by decide) q_144 rfl rfl dX3_victim_6 ?_
  refine r_aload_n C rfl (lv_at hl 0 rfl) dX3_victim_9 ?_
  refine r_get C (ci := 3) (v := .ref (b + 3)) rfl uin3 hb.o 1 (by decide) q_138 rfl rfl dX3_victim_10 ?_
  refine r_vHn (rest := []) C (k_X0_become l g (b + 347) GU (b + 3) F (by omega)) s_RX3_76 ⟨hgu, hd⟩ hF (fun q hq => by obtain ⟨h1, h2⟩ := hq; exact ⟨by omega, by omega⟩) (recv C (ci := 0) rfl hgu.o) hl.1 rfl ⟨by decide, by decide⟩ rfl (Nat.le_of_ble_eq_true rfl) ⟨by decide, by decide⟩ dX3_victim_13 (fun H9 locs9 h9 ho9 hz9 hF => ?_)
  have hb := hb.kept (ho9 _ (not_dvp (by omega)))
  have ht := ht.kept (ho9 _ (not_dvp (by omega)))
  have hg := hg.kept (ho9 _ (not_dvp (by omega)))
  have hh := hh.kept (ho9 _ (not_dvp (by omega)))
  have hq := hq.kept (ho9 _ (not_dvp (by omega)))
  have hm := hm.kept (fun q h1 h2 => ho9 _ (not_dvp (by omega)))
  have hsl := hsl.kept (ho9 _ (not_dvp (by omega)))
  have hfi := hfi.kept (ho9 _ (not_dvp (by omega)))
  have hbl := hbl.kept (fun q h1 h2 => ho9 _ (not_dvp (by omega)))
  have htr := htr.kept (fun q h1 h2 => ho9 _ (not_dvp (by omega)))
  have hsf := hsf.kept (fun q h1 h2 => ho9 _ (not_dvp (by omega)))
  obtain ⟨hgu, hd⟩ := h9
  refine r_iconst C dX3_victim_16 ?_
  refine r_istore_n (lv' := [(2, .int (iI (-1))), (0, .ref b), (1, .int (iI x))]) C rfl hl (by decide) rfl dX3_victim_17 (fun ls hl => ?_)
  refine r_iconst C dX3_victim_18 ?_
  refine r_istore_n (lv' := [(3, .int (iI 0)), (2, .int (iI (-1))), (0, .ref b), (1, .int (iI x))]) C rfl hl (by decide) rfl dX3_victim_19 (fun ls hl => ?_)
  exact cut20 _ 0 (-1) 0 (Nat.lt_succ_self _) (by omega) (by omega) (by rfl) (by omega) (by rfl) (by omega) _ _ hb ht hg hd hh hq hm hsl hfi hbl htr hgu hsf hF _ (lv_sub hl [2, 3, 1, 0] rfl)

theorem s_RX3_255 : SiteV "LentRoom" 255 "LentRoom$Device" yX0_pagesOfAll cX0_pagesOfAll 3 (some .int) 0 := ⟨⟨q_759, q_502, q_503, q_32, q_504⟩, rfl, by decide, by decide, by decide +kernel⟩
theorem s_RX3_252 : SiteV "LentRoom" 252 "LentRoom" yX3_takeTurn cX3_takeTurn 5 none 1 := ⟨⟨q_752, q_754, q_14, q_30, q_755⟩, rfl, by decide, by decide, by decide +kernel⟩
set_option maxHeartbeats 4000000 in
theorem k_X3_simulate (l : Launch) (hst : l.stackTraces = false) (g : Gt) (kt : Kt) (b : Nat) (sz ac : Int) (TX F DIA KEP ISK : Nat → Int) (T : Int) (hJ : J F z0 T) (hT : T ≤ 900000) (x c : Int) (hc : Rg c) (k : Nat) (hk : 0 ≤ c → c = (k : Int)) : XM l yX3_simulate cX3_simulate 7 (some .int) 6 141 1 g kt [.ref b, .long (iL x), .int (iI c)] (CW g b sz ac TX F DIA KEP ISK) (Kd (1 ≤ c ∧ c ≤ 99)) [eIA] (some (.int (iI (1000 * tkA (siF x F k) + S5 (siF x F k) 5 - S5 F 5)))) (Cdp b) (CW g b sz ac TX F DIA KEP ISK) := by
  refine xm_of "LentRoom" (by decide) rfl (Nat.le_of_ble_eq_true rfl) ?_
  intro zp ze zs zm za zb zt zc ls C K9 ht9 hP hF hl
  obtain ⟨first, G, TR, GU, hRG, hb, ht, hg, hd, hh, hq, hm, hsl, hfi, hbl, htr, hgu, hsf⟩ := hP
  have hac9 := hRG.1
  have hfi9 := hRG.2.1
  have hl : lv_has ls 7 [(0, .ref b), (1, .long (iL x)), (3, .int (iI c))] := hl
  have hS := hJ.S
  have hSm : Sm F := hS.m (by omega)
  have hZ := hJ.Z
  have hn5 := hJ.n
  have hC := hJ.C
  have hG := hJ.G
  have hPgA : ∀ s : Nat, (s : Int) < F 0 → Pg F s := fun s _ => hJ.Pg (fun _ _ _ => rfl)
  have h0T : 0 ≤ T := (by have := hS.1 0 (by omega); omega)
  have hJ6 : J F z0 (T + 60) := hJ.mono (by omega)
  have cut38 : ∀ (N : Nat) (i : Nat) (v6 : Int), 100 - i < N → (i ≤ k) → (1 ≤ c ∧ c ≤ 99) → (v6 = (i : Int)) → ∀ (H : Heap) (locs : List Loc), lrAt g b H → txAt g (b + 1) sz H → cAt g (b + 1 + 1) 120 TX H → dvAt g (b + 3) F H → hoAt g (b + 23) first ac H → qAt g (b + 24) 14 (fun i => some (b + 25 + 20 * i)) H → fmAt g (b + 25) 14 G H → qAt g (b + 305) 2 (fun i => some (b + 367 + 20 * i)) H → zAt g (b + 306) 2 ISK H → dvAt g (b + 307) z0 H → dvAt g (b + 327) (siF x F i) H → dvAt g (b + 347) GU H → fmAt g (b + 367) 2 (fun i k => KEP (262 * i + k)) H → Fr (Cdp b) zs.heap H locs → ∀ ls : Array Slot, lv_has ls 7 [(0, .ref b), (1, .long (iL x)), (3, .int (iI c)), (4, .long (iL (siX x i))), (6, .int (iI v6))] → W zp l ze (rmx 6 141 1) zs zm za zb zt zc H locs 0 0 (vx_MQ zb (XHQ (Kd (1 ≤ c ∧ c ≤ 99)) (some (.int (iI (1000 * tkA (siF x F k) + S5 (siF x F k) 5 - S5 F 5)))) (Cdp b) (CW g b sz ac TX F DIA KEP ISK)) (XX (Kd (1 ≤ c ∧ c ≤ 99)) [eIA]) za zs 1 (6 * 1) (Cdp b)) (F0 zm 38 ls []) := by
    intro N
    induction N with
    | zero => intro i v6; exact fun hms => absurd hms (Nat.not_lt_zero _)
    | succ N ih =>
      intro i v6 hms hi hcc hv6 H locs hb ht hg hd hh hq hm hsl hfi hbl htr hgu hsf hF ls hl
      have hJ1 := hJ6.si (by omega) x i (by omega)
      have hS1 := hJ1.S
      have hSm1 : Sm (siF x F i) := hS1.m (by omega)
      have hZ1 := hJ1.Z
      refine r_iload C (lv_at hl 4 rfl) dX3_simulate_38 ?_
      refine r_iload_n C rfl (lv_at hl 2 rfl) dX3_simulate_40 ?_
      refine r_icmp_ge (tgt := 72) C (by decide) (by omega) (by omega) dX3_simulate_41 (fun c1 => ?_) (fun c1 => ?_)
      · refine r_sipush C (by decide) dX3_simulate_72 ?_
        refine r_aload_n C rfl (lv_at hl 0 rfl) dX3_simulate_75 ?_
        refine r_get C (ci := 3) (v := .ref (b + 327)) rfl uin3 hb.o 6 (by decide) q_143 rfl rfl dX3_simulate_76 ?_
        refine r_vPi (rest := [.int (iI 1000)]) C (k_X0_pagesOfAll l g (b + 327) (siF x F i) hSm1 hZ1) s_RX3_255 htr (recv C (ci := 0) rfl htr.o) hl.1 rfl ⟨by decide, by decide⟩ rfl (Nat.le_of_ble_eq_true rfl) ⟨by decide, by decide⟩ dX3_simulate_79 ?_
        have b2 := tkA_b hSm1
        refine r_imul C dX3_simulate_82 ?_
        refine r_aload_n C rfl (lv_at hl 0 rfl) dX3_simulate_83 ?_
        refine r_get C (ci := 3) (v := .ref (b + 327)) rfl uin3 hb.o 6 (by decide) q_143 rfl rfl dX3_simulate_84 ?_
        refine r_vPi (rest := [.int (iI (1000 * (tkA (siF x F i))))]) C (k_X0_lostByAll l g (b + 327) (siF x F i) hSm1) s_RX3_205 htr (recv C (ci := 0) rfl htr.o) hl.1 rfl ⟨by decide, by decide⟩ rfl (Nat.le_of_ble_eq_true rfl) ⟨by decide, by decide⟩ dX3_simulate_87 ?_
        have b3 := S5_b hSm1 5 (by omega)
        refine r_iadd C dX3_simulate_90 ?_
        refine r_aload_n C rfl (lv_at hl 0 rfl) dX3_simulate_91 ?_
        refine r_get C (ci := 3) (v := .ref (b + 3)) rfl uin3 hb.o 1 (by decide) q_138 rfl rfl dX3_simulate_92 ?_
        refine r_vPi (rest := [.int (iI ((1000 * (tkA (siF x F i))) + (S5 (siF x F i) 5)))]) C (k_X0_lostByAll l g (b + 3) F hSm) s_RX3_205 hd (recv C (ci := 0) rfl hd.o) hl.1 rfl ⟨by decide, by decide⟩ rfl (Nat.le_of_ble_eq_true rfl) ⟨by decide, by decide⟩ dX3_simulate_95 ?_
        have b4 := S5_b hSm 5 (by omega)
        refine r_isub C dX3_simulate_98 ?_
        have hK0 : ((Kd (1 ≤ c ∧ c ≤ 99)) : Int) = 0 := (by exact if_pos (by omega))
        exact r_iretX C rfl rfl (congrArg iI (by rw [show k = i by omega])) hF hK0 (by exact ⟨first, G, siF x F i, GU, hRG, hb, ht, hg, hd, hh, hq, hm, hsl, hfi, hbl, htr, hgu, hsf⟩) (by decide) (by decide) dX3_simulate_99
      · refine r_lload C (lv_at hl 3 rfl) dX3_simulate_44 ?_
        refine r_ldc2 C (v := iL 6364136223846793005) q_750 dX3_simulate_46 ?_
        refine r_lmul C dX3_simulate_49 ?_
        refine r_ldc2 C (v := iL 1442695040888963407) q_751 dX3_simulate_50 ?_
        refine r_ladd C dX3_simulate_53 ?_
        rw [show siX x i * 6364136223846793005 + 1442695040888963407 = siX x (i + 1) from rfl]
        refine r_lstore (lv' := [(4, .long (iL (siX x (i + 1)))), (0, .ref b), (1, .long (iL x)), (3, .int (iI c)), (6, .int (iI v6))]) C hl (by decide) rfl dX3_simulate_54 (fun ls hl => ?_)
        refine r_aload_n C rfl (lv_at hl 1 rfl) dX3_simulate_56 ?_
        refine r_lload C (lv_at hl 0 rfl) dX3_simulate_57 ?_
        refine r_bipush C (by decide) dX3_simulate_59 ?_
        refine r_lushr C dX3_simulate_61 ?_
        have htu := tuX_b (siX x (i + 1))
        refine r_l2i C (by omega) dX3_simulate_62 ?_
        refine r_vHn (rest := []) C (k_X3_takeTurn l g b (siF x F i) (T + 60 + 6 * i) hJ1 (by omega) (by omega) (tuX (siX x (i + 1))) (by omega)) s_RX3_252 ⟨hb, htr⟩ hF (fun q hq => by obtain ⟨h1, h2⟩ := hq; exact ⟨by omega, by omega⟩) (recv C (ci := 3) rfl hb.o) hl.1 rfl ⟨by decide, by decide⟩ rfl (Nat.le_of_ble_eq_true rfl) ⟨by decide, by decide⟩ dX3_simulate_63 (fun H5 locs5 h5 ho5 hz5 hF => ?_)
        have ht := ht.kept (ho5 _ (not_dvp (by omega)))
        have hg := hg.kept (ho5 _ (not_dvp (by omega)))
        have hd := hd.kept (fun q h1 h2 => ho5 _ (not_dvp (by omega)))
        have hh := hh.kept (ho5 _ (not_dvp (by omega)))
        have hq := hq.kept (ho5 _ (not_dvp (by omega)))
        have hm := hm.kept (fun q h1 h2 => ho5 _ (not_dvp (by omega)))
        have hsl := hsl.kept (ho5 _ (not_dvp (by omega)))
        have hfi := hfi.kept (ho5 _ (not_dvp (by omega)))
        have hbl := hbl.kept (fun q h1 h2 => ho5 _ (not_dvp (by omega)))
        have hgu := hgu.kept (fun q h1 h2 => ho5 _ (not_dvp (by omega)))
        have hsf := hsf.kept (fun q h1 h2 => ho5 _ (not_dvp (by omega)))
        obtain ⟨hb, htr⟩ := h5
        refine r_iinc (lv' := [(6, .int (iI (v6 + 1))), (4, .long (iL (siX x (i + 1)))), (0, .ref b), (1, .long (iL x)), (3, .int (iI c))]) C hl (q := 4) rfl (by decide) rfl dX3_simulate_66 (fun ls hl => ?_)
        refine r_goto (tgt := 38) C (by decide) dX3_simulate_69 ?_
        exact ih (i + 1) (v6 + 1) (by omega) (by omega) (by omega) (by omega) _ _ hb ht hg hd hh hq hm hsl hfi hbl htr hgu hsf hF _ (lv_sub hl [2, 3, 4, 1, 0] rfl)
  refine r_iload_n C rfl (lv_at hl 2 rfl) dX3_simulate_0 ?_
  refine r_iconst C dX3_simulate_1 ?_
  refine r_icmp_lt (tgt := 11) C (by decide) (by omega) (by decide) dX3_simulate_2 (fun c6 => ?_) (fun c6 => ?_)
  · exact r_throw (text := "number of turns out of range") C hst K9 ht9 rfl th_IA (by decide +kernel) (by rw [show ((Kd (1 ≤ c ∧ c ≤ 99)) : Int) = 1 from (by exact if_neg (by omega))]; decide) (by rw [show ((Kd (1 ≤ c ∧ c ≤ 99)) : Int) = 1 from (by exact if_neg (by omega))]; rfl) hl.1 dX3_simulate_11 dX3_simulate_14 dX3_simulate_15 dX3_simulate_17 dX3_simulate_20 (by decide) (Nat.le_of_ble_eq_true rfl) ⟨by decide, by decide⟩ ⟨by decide, by decide⟩
  · refine r_iload_n C rfl (lv_at hl 2 rfl) dX3_simulate_5 ?_
    refine r_bipush C (by decide) dX3_simulate_6 ?_
    refine r_icmp_le (tgt := 21) C (by decide) (by omega) (by decide) dX3_simulate_8 (fun c7 => ?_) (fun c7 => ?_)
    · refine r_aload_n C rfl (lv_at hl 0 rfl) dX3_simulate_21 ?_
      refine r_get C (ci := 3) (v := .ref (b + 327)) rfl uin3 hb.o 6 (by decide) q_143 rfl rfl dX3_simulate_22 ?_
      refine r_aload_n C rfl (lv_at hl 0 rfl) dX3_simulate_25 ?_
      refine r_get C (ci := 3) (v := .ref (b + 3)) rfl uin3 hb.o 1 (by decide) q_138 rfl rfl dX3_simulate_26 ?_
      refine r_vHn (rest := []) C (k_X0_become l g (b + 327) TR (b + 3) F (by omega)) s_RX3_76 ⟨htr, hd⟩ hF (fun q hq => by obtain ⟨h1, h2⟩ := hq; exact ⟨by omega, by omega⟩) (recv C (ci := 0) rfl htr.o) hl.1 rfl ⟨by decide, by decide⟩ rfl (Nat.le_of_ble_eq_true rfl) ⟨by decide, by decide⟩ dX3_simulate_29 (fun H8 locs8 h8 ho8 hz8 hF => ?_)
      have hb := hb.kept (ho8 _ (not_dvp (by omega)))
      have ht := ht.kept (ho8 _ (not_dvp (by omega)))
      have hg := hg.kept (ho8 _ (not_dvp (by omega)))
      have hh := hh.kept (ho8 _ (not_dvp (by omega)))
      have hq := hq.kept (ho8 _ (not_dvp (by omega)))
      have hm := hm.kept (fun q h1 h2 => ho8 _ (not_dvp (by omega)))
      have hsl := hsl.kept (ho8 _ (not_dvp (by omega)))
      have hfi := hfi.kept (ho8 _ (not_dvp (by omega)))
      have hbl := hbl.kept (fun q h1 h2 => ho8 _ (not_dvp (by omega)))
      have hgu := hgu.kept (fun q h1 h2 => ho8 _ (not_dvp (by omega)))
      have hsf := hsf.kept (fun q h1 h2 => ho8 _ (not_dvp (by omega)))
      obtain ⟨htr, hd⟩ := h8
      refine r_lload_n C rfl (lv_at hl 1 rfl) dX3_simulate_32 ?_
      refine r_lstore (lv' := [(4, .long (iL x)), (0, .ref b), (1, .long (iL x)), (3, .int (iI c))]) C hl (by decide) rfl dX3_simulate_33 (fun ls hl => ?_)
      refine r_iconst C dX3_simulate_35 ?_
      refine r_istore (lv' := [(6, .int (iI 0)), (4, .long (iL x)), (0, .ref b), (1, .long (iL x)), (3, .int (iI c))]) C hl (by decide) rfl dX3_simulate_36 (fun ls hl => ?_)
      exact cut38 _ 0 0 (Nat.lt_succ_self _) (by omega) (by omega) (by omega) _ _ hb ht hg hd hh hq hm hsl hfi hbl htr hgu hsf hF _ (lv_sub hl [2, 3, 4, 1, 0] rfl)
    · exact r_throw (text := "number of turns out of range") C hst K9 ht9 rfl th_IA (by decide +kernel) (by rw [show ((Kd (1 ≤ c ∧ c ≤ 99)) : Int) = 1 from (by exact if_neg (by omega))]; decide) (by rw [show ((Kd (1 ≤ c ∧ c ≤ 99)) : Int) = 1 from (by exact if_neg (by omega))]; rfl) hl.1 dX3_simulate_11 dX3_simulate_14 dX3_simulate_15 dX3_simulate_17 dX3_simulate_20 (by decide) (Nat.le_of_ble_eq_true rfl) ⟨by decide, by decide⟩ ⟨by decide, by decide⟩

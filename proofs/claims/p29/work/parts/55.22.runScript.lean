theorem s_RX3_228 : SiteS "LentRoom" 228 yX3_withoutGroups cX3_withoutGroups 6 (some .long) 2 := ⟨⟨q_729, q_730, q_30, q_731⟩, by decide, by decide, by decide +kernel⟩
theorem s_RX3_236 : SiteV "LentRoom" 236 "LentRoom" yX3_obeyGroup cX3_obeyGroup 6 (some .boolean) 1 := ⟨⟨q_734, q_736, q_12, q_30, q_737⟩, rfl, by decide, by decide, by decide +kernel⟩
set_option maxHeartbeats 4000000 in
theorem k_X3_runScript (l : Launch) (hst : l.stackTraces = false) (g : Gt) (kt : Kt) (b : Nat) (sz ac : Int) (TX F DIA KEP ISK : Nat → Int) (T : Int) (hJ : J F z0 T) (hT : T ≤ 900000) (c v : Int) (hc : Rg c) (hv : RgL v) (k : Nat) (hk : 0 ≤ c → c = (k : Int)) : XM l yX3_runScript cX3_runScript 6 (some .int) 7 167 1 g kt [.ref b, .int (iI c), .long (iL v)] (CW g b sz ac TX F DIA KEP ISK) (Kd ((1 ≤ c ∧ c ≤ 3) ∧ (0 ≤ v ∧ v < pw k))) [eIA] (some (.int (iI (sgR v k F k 0)))) (Cdp b) (CW g b sz ac TX F DIA KEP ISK) := by
  refine xm_of "LentRoom" (by decide) rfl (Nat.le_of_ble_eq_true rfl) ?_
  intro zp ze zs zm za zb zt zc ls C K9 ht9 hP hF hl
  obtain ⟨first, G, TR, GU, hRG, hb, ht, hg, hd, hh, hq, hm, hsl, hfi, hbl, htr, hgu, hsf⟩ := hP
  have hac9 := hRG.1
  have hfi9 := hRG.2.1
  have hl : lv_has ls 6 [(0, .ref b), (1, .int (iI c)), (2, .long (iL v))] := hl
  have hS := hJ.S
  have hSm : Sm F := hS.m (by omega)
  have hZ := hJ.Z
  have hn5 := hJ.n
  have hC := hJ.C
  have hG := hJ.G
  have hPgA : ∀ s : Nat, (s : Int) < F 0 → Pg F s := fun s _ => hJ.Pg (fun _ _ _ => rfl)
  have h0T : 0 ≤ T := (by have := hS.1 0 (by omega); omega)
  have hJ6 : J F z0 (T + 60) := hJ.mono (by omega)
  have cut60 : ∀ (N : Nat) (i : Nat) (GU : Nat → Int) (v4 : Int), 4 - i < N → (i ≤ k) → ((1 ≤ c ∧ c ≤ 3) ∧ (0 ≤ v ∧ v < pw k)) → (sgR v k F k 0 = sgR v k F (k - i) i) → (v4 = (i : Int)) → ∀ (H : Heap) (locs : List Loc), lrAt g b H → txAt g (b + 1) sz H → cAt g (b + 1 + 1) 120 TX H → dvAt g (b + 3) F H → hoAt g (b + 23) first ac H → qAt g (b + 24) 14 (fun i => some (b + 25 + 20 * i)) H → fmAt g (b + 25) 14 G H → qAt g (b + 305) 2 (fun i => some (b + 367 + 20 * i)) H → zAt g (b + 306) 2 ISK H → dvAt g (b + 307) z0 H → dvAt g (b + 327) (sgF v k F i) H → dvAt g (b + 347) GU H → fmAt g (b + 367) 2 (fun i k => KEP (262 * i + k)) H → Fr (Cdp b) zs.heap H locs → ∀ ls : Array Slot, lv_has ls 6 [(0, .ref b), (1, .int (iI c)), (2, .long (iL v)), (4, .int (iI v4))] → W zp l ze (rmx 7 167 1) zs zm za zb zt zc H locs 0 0 (vx_MQ zb (XHQ (Kd ((1 ≤ c ∧ c ≤ 3) ∧ (0 ≤ v ∧ v < pw k))) (some (.int (iI (sgR v k F k 0)))) (Cdp b) (CW g b sz ac TX F DIA KEP ISK)) (XX (Kd ((1 ≤ c ∧ c ≤ 3) ∧ (0 ≤ v ∧ v < pw k))) [eIA]) za zs 1 (6 * 1) (Cdp b)) (F0 zm 60 ls []) := by
    intro N
    induction N with
    | zero => intro i GU v4; exact fun hms => absurd hms (Nat.not_lt_zero _)
    | succ N ih =>
      intro i GU v4 hms hi hcc hsg hv4 H locs hb ht hg hd hh hq hm hsl hfi hbl htr hgu hsf hF ls hl
      have hJ1 := hJ6.sg (by omega) v k i (by omega)
      have hS1 := hJ1.S
      have hSm1 : Sm (sgF v k F i) := hS1.m (by omega)
      refine r_iload C (lv_at hl 3 rfl) dX3_runScript_60 ?_
      refine r_iload_n C rfl (lv_at hl 1 rfl) dX3_runScript_62 ?_
      refine r_icmp_ge (tgt := 101) C (by decide) (by omega) (by omega) dX3_runScript_63 (fun c1 => ?_) (fun c1 => ?_)
      · refine r_iconst C dX3_runScript_101 ?_
        have hK0 : ((Kd ((1 ≤ c ∧ c ≤ 3) ∧ (0 ≤ v ∧ v < pw k))) : Int) = 0 := (by exact if_pos hcc)
        exact r_iretX C rfl rfl (congrArg iI (by rw [hsg, show k - i = 0 by omega]; rfl)) hF hK0 (by exact ⟨first, G, sgF v k F i, GU, hRG, hb, ht, hg, hd, hh, hq, hm, hsl, hfi, hbl, htr, hgu, hsf⟩) (by decide) (by decide) dX3_runScript_102
      · refine r_lload_n C rfl (lv_at hl 2 rfl) dX3_runScript_66 ?_
        refine r_iload_n C rfl (lv_at hl 1 rfl) dX3_runScript_67 ?_
        refine r_iconst C dX3_runScript_68 ?_
        refine r_isub C dX3_runScript_69 ?_
        refine r_iload C (lv_at hl 3 rfl) dX3_runScript_70 ?_
        refine r_isub C dX3_runScript_72 ?_
        refine r_sPl (rest := []) C (k_X3_withoutGroups l g v ((c - 1) - v4) (k - (i + 1)) (by omega) (by omega) (by omega)) s_RX3_228 trivial hl.1 rfl ⟨by decide, by decide⟩ rfl (Nat.le_of_ble_eq_true rfl) ⟨by decide, by decide⟩ dX3_runScript_73 ?_
        have b2 := wgV_b (v := v) (by omega) (k - (i + 1))
        refine r_ldc2 C (v := iL 100000) q_732 dX3_runScript_76 ?_
        refine r_lrem C (by omega) (by omega) dX3_runScript_79 ?_
        refine r_l2i C (by omega) dX3_runScript_80 ?_
        rw [show (wgV v (k - (i + 1))) % 100000 = sgG v k i from (by unfold sgG; rw [wgV_pw])]
        have hsb := sgG_b v k i
        refine r_istore (lv' := [(5, .int (iI (sgG v k i))), (0, .ref b), (1, .int (iI c)), (2, .long (iL v)), (4, .int (iI v4))]) C hl (by decide) rfl dX3_runScript_81 (fun ls hl => ?_)
        refine r_aload_n C rfl (lv_at hl 1 rfl) dX3_runScript_83 ?_
        refine r_iload C (lv_at hl 0 rfl) dX3_runScript_84 ?_
        refine r_vHi (rest := []) C (k_X3_obeyGroup l g b (sgF v k F i) (T + 60 + 6 * i) hJ1 (by omega) (by omega) (sgG v k i) (by omega)) s_RX3_236 ⟨hb, htr, _, hgu⟩ hF (fun q hq => by rcases hq with h | h <;> (obtain ⟨h1, h2⟩ := h; exact ⟨by omega, by omega⟩)) (recv C (ci := 3) rfl hb.o) hl.1 rfl ⟨by decide, by decide⟩ rfl (Nat.le_of_ble_eq_true rfl) ⟨by decide, by decide⟩ dX3_runScript_86 (fun H3 locs3 h3 ho3 hz3 hF => ?_)
        obtain ⟨hb, htr, GU, hgu⟩ := h3
        have ht := ht.kept (ho3 _ (fun h => by rcases h with h | h <;> (obtain ⟨h1, h2⟩ := h; omega)))
        have hg := hg.kept (ho3 _ (fun h => by rcases h with h | h <;> (obtain ⟨h1, h2⟩ := h; omega)))
        have hd := hd.kept (fun q h1 h2 => ho3 _ (fun h => by rcases h with h | h <;> (obtain ⟨h1, h2⟩ := h; omega)))
        have hh := hh.kept (ho3 _ (fun h => by rcases h with h | h <;> (obtain ⟨h1, h2⟩ := h; omega)))
        have hq := hq.kept (ho3 _ (fun h => by rcases h with h | h <;> (obtain ⟨h1, h2⟩ := h; omega)))
        have hm := hm.kept (fun q h1 h2 => ho3 _ (fun h => by rcases h with h | h <;> (obtain ⟨h1, h2⟩ := h; omega)))
        have hsl := hsl.kept (ho3 _ (fun h => by rcases h with h | h <;> (obtain ⟨h1, h2⟩ := h; omega)))
        have hfi := hfi.kept (ho3 _ (fun h => by rcases h with h | h <;> (obtain ⟨h1, h2⟩ := h; omega)))
        have hbl := hbl.kept (fun q h1 h2 => ho3 _ (fun h => by rcases h with h | h <;> (obtain ⟨h1, h2⟩ := h; omega)))
        have hsf := hsf.kept (fun q h1 h2 => ho3 _ (fun h => by rcases h with h | h <;> (obtain ⟨h1, h2⟩ := h; omega)))
        have hcv := coV_b ((sgG v k i) / 10000) ((sgG v k i) / 1000 % 10) ((sgG v k i) / 100 % 10) ((sgG v k i) % 100) (sgF v k F i)
        refine r_if_ne (tgt := 95) C (by decide) (by omega) dX3_runScript_89 (fun c4 => ?_) (fun c4 => ?_)
        · refine r_iinc (lv' := [(4, .int (iI (v4 + 1))), (5, .int (iI (sgG v k i))), (0, .ref b), (1, .int (iI c)), (2, .long (iL v))]) C hl (q := 4) rfl (by decide) rfl dX3_runScript_95 (fun ls hl => ?_)
          refine r_goto (tgt := 60) C (by decide) dX3_runScript_98 ?_
          exact ih (i + 1) GU (v4 + 1) (by omega) (by omega) (by omega) (by rw [hsg, show k - i = (k - (i + 1)) + 1 by omega, sgR, if_neg c4]) (by omega) _ _ hb ht hg hd hh hq hm hsl hfi hbl htr hgu hsf hF _ (lv_sub hl [2, 3, 4, 0] rfl)
        · refine r_iload C (lv_at hl 4 rfl) dX3_runScript_92 ?_
          have hK0 : ((Kd ((1 ≤ c ∧ c ≤ 3) ∧ (0 ≤ v ∧ v < pw k))) : Int) = 0 := (by exact if_pos hcc)
          exact r_iretX C rfl rfl (congrArg iI (by rw [hsg, show k - i = (k - i - 1) + 1 by omega, sgR, if_pos c4]; omega)) hF hK0 (by exact ⟨first, G, coF ((sgG v k i) / 10000) ((sgG v k i) / 1000 % 10) ((sgG v k i) / 100 % 10) ((sgG v k i) % 100) (sgF v k F i), GU, hRG, hb, ht, hg, hd, hh, hq, hm, hsl, hfi, hbl, htr, hgu, hsf⟩) (by decide) (by decide) dX3_runScript_94
  refine r_iload_n C rfl (lv_at hl 1 rfl) dX3_runScript_0 ?_
  refine r_iconst C dX3_runScript_1 ?_
  refine r_icmp_lt (tgt := 10) C (by decide) (by omega) (by decide) dX3_runScript_2 (fun c5 => ?_) (fun c5 => ?_)
  · exact r_throw (text := "number of commands out of range") C hst K9 ht9 rfl th_IA (by decide +kernel) (by rw [show ((Kd ((1 ≤ c ∧ c ≤ 3) ∧ (0 ≤ v ∧ v < pw k))) : Int) = 1 from (by exact if_neg (fun z => by first | omega | exact absurd ((wg_lt (by omega) k).mpr z.2.2) (by assumption)))]; decide) (by rw [show ((Kd ((1 ≤ c ∧ c ≤ 3) ∧ (0 ≤ v ∧ v < pw k))) : Int) = 1 from (by exact if_neg (fun z => by first | omega | exact absurd ((wg_lt (by omega) k).mpr z.2.2) (by assumption)))]; rfl) hl.1 dX3_runScript_10 dX3_runScript_13 dX3_runScript_14 dX3_runScript_16 dX3_runScript_19 (by decide) (Nat.le_of_ble_eq_true rfl) ⟨by decide, by decide⟩ ⟨by decide, by decide⟩
  · refine r_iload_n C rfl (lv_at hl 1 rfl) dX3_runScript_5 ?_
    refine r_iconst C dX3_runScript_6 ?_
    refine r_icmp_le (tgt := 20) C (by decide) (by omega) (by decide) dX3_runScript_7 (fun c6 => ?_) (fun c6 => ?_)
    · refine r_lload_n C rfl (lv_at hl 2 rfl) dX3_runScript_20 ?_
      refine r_lconst C 0 rfl dX3_runScript_21 ?_
      refine r_lcmp C (by omega) (by decide) dX3_runScript_22 ?_
      refine r_ifc_lt (tgt := 36) C (by decide) dX3_runScript_23 (fun c7 => ?_) (fun c7 => ?_)
      · exact r_throw (text := "no script of so many commands") C hst K9 ht9 rfl th_IA (by decide +kernel) (by rw [show ((Kd ((1 ≤ c ∧ c ≤ 3) ∧ (0 ≤ v ∧ v < pw k))) : Int) = 1 from (by exact if_neg (fun z => by first | omega | exact absurd ((wg_lt (by omega) k).mpr z.2.2) (by assumption)))]; decide) (by rw [show ((Kd ((1 ≤ c ∧ c ≤ 3) ∧ (0 ≤ v ∧ v < pw k))) : Int) = 1 from (by exact if_neg (fun z => by first | omega | exact absurd ((wg_lt (by omega) k).mpr z.2.2) (by assumption)))]; rfl) hl.1 dX3_runScript_36 dX3_runScript_39 dX3_runScript_40 dX3_runScript_42 dX3_runScript_45 (by decide) (Nat.le_of_ble_eq_true rfl) ⟨by decide, by decide⟩ ⟨by decide, by decide⟩
      · refine r_lload_n C rfl (lv_at hl 2 rfl) dX3_runScript_26 ?_
        refine r_iload_n C rfl (lv_at hl 1 rfl) dX3_runScript_27 ?_
        refine r_sPl (rest := []) C (k_X3_withoutGroups l g v c k (by omega) (by omega) (by omega)) s_RX3_228 trivial hl.1 rfl ⟨by decide, by decide⟩ rfl (Nat.le_of_ble_eq_true rfl) ⟨by decide, by decide⟩ dX3_runScript_28 ?_
        have b8 := wgV_b (v := v) (by omega) k
        refine r_lconst C 0 rfl dX3_runScript_31 ?_
        refine r_lcmp C (by omega) (by decide) dX3_runScript_32 ?_
        refine r_ifc_eq (tgt := 46) C (by decide) dX3_runScript_33 (fun c9 => ?_) (fun c9 => ?_)
        · have hcc : (1 ≤ c ∧ c ≤ 3) ∧ (0 ≤ v ∧ v < pw k) := ⟨by omega, by omega, (wg_lt (by omega) k).mp (by assumption)⟩
          refine r_aload_n C rfl (lv_at hl 0 rfl) dX3_runScript_46 ?_
          refine r_get C (ci := 3) (v := .ref (b + 327)) rfl uin3 hb.o 6 (by decide) q_143 rfl rfl dX3_runScript_47 ?_
          refine r_aload_n C rfl (lv_at hl 0 rfl) dX3_runScript_50 ?_
          refine r_get C (ci := 3) (v := .ref (b + 3)) rfl uin3 hb.o 1 (by decide) q_138 rfl rfl dX3_runScript_51 ?_
          refine r_vHn (rest := []) C (k_X0_become l g (b + 327) TR (b + 3) F (by omega)) s_RX3_76 ⟨htr, hd⟩ hF (fun q hq => by obtain ⟨h1, h2⟩ := hq; exact ⟨by omega, by omega⟩) (recv C (ci := 0) rfl htr.o) hl.1 rfl ⟨by decide, by decide⟩ rfl (Nat.le_of_ble_eq_true rfl) ⟨by decide, by decide⟩ dX3_runScript_54 (fun H10 locs10 h10 ho10 hz10 hF => ?_)
          have hb := hb.kept (ho10 _ (not_dvp (by omega)))
          have ht := ht.kept (ho10 _ (not_dvp (by omega)))
          have hg := hg.kept (ho10 _ (not_dvp (by omega)))
          have hh := hh.kept (ho10 _ (not_dvp (by omega)))
          have hq := hq.kept (ho10 _ (not_dvp (by omega)))
          have hm := hm.kept (fun q h1 h2 => ho10 _ (not_dvp (by omega)))
          have hsl := hsl.kept (ho10 _ (not_dvp (by omega)))
          have hfi := hfi.kept (ho10 _ (not_dvp (by omega)))
          have hbl := hbl.kept (fun q h1 h2 => ho10 _ (not_dvp (by omega)))
          have hgu := hgu.kept (fun q h1 h2 => ho10 _ (not_dvp (by omega)))
          have hsf := hsf.kept (fun q h1 h2 => ho10 _ (not_dvp (by omega)))
          obtain ⟨htr, hd⟩ := h10
          refine r_iconst C dX3_runScript_57 ?_
          refine r_istore (lv' := [(4, .int (iI 0)), (0, .ref b), (1, .int (iI c)), (2, .long (iL v))]) C hl (by decide) rfl dX3_runScript_58 (fun ls hl => ?_)
          exact cut60 _ 0 GU 0 (Nat.lt_succ_self _) (by omega) (by omega) (by rfl) (by omega) _ _ hb ht hg hd hh hq hm hsl hfi hbl htr hgu hsf hF _ (lv_sub hl [1, 2, 3, 0] rfl)
        · exact r_throw (text := "no script of so many commands") C hst K9 ht9 rfl th_IA (by decide +kernel) (by rw [show ((Kd ((1 ≤ c ∧ c ≤ 3) ∧ (0 ≤ v ∧ v < pw k))) : Int) = 1 from (by exact if_neg (fun z => by first | omega | exact absurd ((wg_lt (by omega) k).mpr z.2.2) (by assumption)))]; decide) (by rw [show ((Kd ((1 ≤ c ∧ c ≤ 3) ∧ (0 ≤ v ∧ v < pw k))) : Int) = 1 from (by exact if_neg (fun z => by first | omega | exact absurd ((wg_lt (by omega) k).mpr z.2.2) (by assumption)))]; rfl) hl.1 dX3_runScript_36 dX3_runScript_39 dX3_runScript_40 dX3_runScript_42 dX3_runScript_45 (by decide) (Nat.le_of_ble_eq_true rfl) ⟨by decide, by decide⟩ ⟨by decide, by decide⟩
    · exact r_throw (text := "number of commands out of range") C hst K9 ht9 rfl th_IA (by decide +kernel) (by rw [show ((Kd ((1 ≤ c ∧ c ≤ 3) ∧ (0 ≤ v ∧ v < pw k))) : Int) = 1 from (by exact if_neg (fun z => by first | omega | exact absurd ((wg_lt (by omega) k).mpr z.2.2) (by assumption)))]; decide) (by rw [show ((Kd ((1 ≤ c ∧ c ≤ 3) ∧ (0 ≤ v ∧ v < pw k))) : Int) = 1 from (by exact if_neg (fun z => by first | omega | exact absurd ((wg_lt (by omega) k).mpr z.2.2) (by assumption)))]; rfl) hl.1 dX3_runScript_10 dX3_runScript_13 dX3_runScript_14 dX3_runScript_16 dX3_runScript_19 (by decide) (Nat.le_of_ble_eq_true rfl) ⟨by decide, by decide⟩ ⟨by decide, by decide⟩

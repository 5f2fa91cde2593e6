theorem s_RX3_87 : SiteV "LentRoom" 87 "LentRoom$Text" yX2_isDigit cX2_isDigit 2 (some .boolean) 1 := ⟨⟨q_391, q_237, q_238, q_31, q_239⟩, rfl, by decide, by decide, by decide +kernel⟩
theorem s_RX3_91 : SiteV "LentRoom" 91 "LentRoom" yX3_obeyText cX3_obeyText 7 (some .boolean) 1 := ⟨⟨q_392, q_394, q_2, q_30, q_395⟩, rfl, by decide, by decide, by decide +kernel⟩
theorem s_RX3_80 : SiteV "LentRoom" 80 "LentRoom$History" yX1_forgetAll cX1_forgetAll 1 none 0 := ⟨⟨q_387, q_388, q_389, q_33, q_390⟩, rfl, by decide, by decide, by decide +kernel⟩
set_option maxHeartbeats 4000000 in
theorem k_X3_load (l : Launch) (hst : l.stackTraces = false) (g : Gt) (kt : Kt) (b : Nat) (sz ac : Int) (TX F DIA KEP ISK : Nat → Int) (T : Int) (hJ : J F z0 T) (hT : T ≤ 900000) (TX : Nat → Int) (hTX : ∀ k : Nat, k < 120 → 0 ≤ TX k ∧ TX k ≤ 255) (n : Nat) (hsz : sz = (n : Int)) (hn : n ≤ 120) : XM l yX3_load cX3_load 3 (some .int) 6 143 1 g kt [.ref b] (CW g b sz ac TX F DIA KEP ISK) (Kd (txE TX n = -1)) [eIS] (some (.int (iI (txO TX n)))) (Cdp b) (CW g b sz 0 TX (txF TX n) DIA KEP (up (up ISK 0 0) 1 0)) := by
  refine xm_of "LentRoom" (by decide) rfl (Nat.le_of_ble_eq_true rfl) ?_
  intro zp ze zs zm za zb zt zc ls C K9 ht9 hP hF hl
  obtain ⟨first, G, TR, GU, hRG, hb, ht, hg, hd, hh, hq, hm, hsl, hfi, hbl, htr, hgu, hsf⟩ := hP
  have hac9 := hRG.1
  have hfi9 := hRG.2.1
  have ht : txAt g (b + 1) (n : Int) zs.heap := hsz ▸ ht
  have hl : lv_has ls 3 [(0, .ref b)] := hl
  have hS := hJ.S
  have hSm : Sm F := hS.m (by omega)
  have hZ := hJ.Z
  have hn5 := hJ.n
  have hC := hJ.C
  have hG := hJ.G
  have hPgA : ∀ s : Nat, (s : Int) < F 0 → Pg F s := fun s _ => hJ.Pg (fun _ _ _ => rfl)
  have cut63 : ∀ (N : Nat) (p : Nat) (q : Nat) (k : Nat) (F1 : Nat → Int) (o : Int) (v1 : Int) (v2 : Int), n + 1 - p < N → (1 ≤ p ∧ p ≤ q ∧ q ≤ n) → (n ≤ q + k) → (txE TX n = -1) → (∀ z : Nat, p ≤ z → z < q → isD TX n (z : Int)) → (txE TX n = rtR TX n k q) → (txF TX n = rtF TX n k q F1) → (txO TX n = rtO TX n k q F1 o) → (0 ≤ o ∧ o ≤ q) → (J F1 z0 (100 + 240 * q)) → (v1 = o) → (v2 = (p : Int)) → ∀ (H : Heap) (locs : List Loc), lrAt g b H → txAt g (b + 1) (n : Int) H → cAt g (b + 1 + 1) 120 TX H → dvAt g (b + 3) F1 H → hoAt g (b + 23) first 0 H → qAt g (b + 24) 14 (fun i => some (b + 25 + 20 * i)) H → fmAt g (b + 25) 14 G H → qAt g (b + 305) 2 (fun i => some (b + 367 + 20 * i)) H → zAt g (b + 306) 2 (up (up ISK 0 0) 1 0) H → dvAt g (b + 307) z0 H → dvAt g (b + 327) TR H → dvAt g (b + 347) GU H → fmAt g (b + 367) 2 (fun i k => KEP (262 * i + k)) H → Fr (Cdp b) zs.heap H locs → ∀ ls : Array Slot, lv_has ls 3 [(0, .ref b), (1, .int (iI v1)), (2, .int (iI v2))] → W zp l ze (rmx 6 143 1) zs zm za zb zt zc H locs 0 0 (vx_MQ zb (XHQ (Kd (txE TX n = -1)) (some (.int (iI (txO TX n)))) (Cdp b) (CW g b sz 0 TX (txF TX n) DIA KEP (up (up ISK 0 0) 1 0))) (XX (Kd (txE TX n = -1)) [eIS]) za zs 1 (6 * 1) (Cdp b)) (F0 zm 63 ls []) := by
    intro N
    induction N with
    | zero => intro p q k F1 o v1 v2; exact fun hms => absurd hms (Nat.not_lt_zero _)
    | succ N ih =>
      intro p q k F1 o v1 v2 hms hp hk he hpd hR hFx hO hob hJ1 hv1 hv2 H locs hb ht hg hd hh hq hm hsl hfi hbl htr hgu hsf hF ls hl
      have hS1 := hJ1.S
      have hSm1 : Sm F1 := hS1.m (by omega)
      refine r_iload_n C rfl (lv_at hl 2 rfl) dX3_load_63 ?_
      refine r_aload_n C rfl (lv_at hl 0 rfl) dX3_load_64 ?_
      refine r_get C (ci := 3) (v := .ref (b + 1)) rfl uin3 hb.o 0 (by decide) q_137 rfl rfl dX3_load_65 ?_
      refine r_get C (ci := 2) (v := .int (iI (n : Int))) rfl uin2 ht.o 0 (by decide) q_62 rfl rfl dX3_load_68 ?_
      refine r_icmp_ge (tgt := 102) C (by decide) (by omega) (by omega) dX3_load_71 (fun c1 => ?_) (fun c1 => ?_)
      · refine r_iload_n C rfl (lv_at hl 1 rfl) dX3_load_102 ?_
        have hK0 : ((Kd (txE TX n = -1)) : Int) = 0 := (by exact if_pos he)
        have he3 := rt_end (TX := TX) (n := n) (k := k) (F := F1) (o := o) (show n ≤ q by omega)
        have eF : txF TX n = F1 := hFx.trans he3.2.1
        have eO : txO TX n = o := hO.trans he3.2.2
        rw [← eF] at hd
        rw [show (n : Int) = sz from hsz.symm] at ht
        exact r_iretX C rfl rfl (congrArg iI (by rw [eO, hv1])) hF hK0 (by exact ⟨first, G, TR, GU, hRG.clear, hb, ht, hg, hd, hh, hq, hm, hsl, hfi, hbl, htr, hgu, hsf⟩) (by decide) (by decide) dX3_load_103
      · refine r_aload_n C rfl (lv_at hl 0 rfl) dX3_load_74 ?_
        refine r_get C (ci := 3) (v := .ref (b + 1)) rfl uin3 hb.o 0 (by decide) q_137 rfl rfl dX3_load_75 ?_
        refine r_iload_n C rfl (lv_at hl 2 rfl) dX3_load_78 ?_
        refine r_vPi (rest := []) C (k_X2_isDigit l g (b + 1) n TX hTX hn v2 (by omega)) s_RX3_87 ⟨ht, hg⟩ (recv C (ci := 2) rfl ht.o) hl.1 rfl ⟨by decide, by decide⟩ rfl (Nat.le_of_ble_eq_true rfl) ⟨by decide, by decide⟩ dX3_load_79 ?_
        refine r_ifP_ne (tgt := 96) C (by decide) dX3_load_82 (fun c2 => ?_) (fun c2 => ?_)
        · refine r_iinc (lv' := [(2, .int (iI (v2 + 1))), (0, .ref b), (1, .int (iI v1))]) C hl (q := 2) rfl (by decide) rfl dX3_load_96 (fun ls hl => ?_)
          refine r_goto (tgt := 63) C (by decide) dX3_load_99 ?_
          exact ih (p + 1) q k F1 o v1 (v2 + 1) (by omega) (by have hlt : p < q := (by rcases Nat.lt_or_ge p q with z | z; exact z; exact absurd c2 (by rw [hv2]; have hpq : p = q := (by omega); have hok : rcOk TX n p := (by rw [hpq]; exact rt_go (by omega) (show 0 < k by omega) (hR.symm.trans he)); exact cm_let (by omega) hok.1)); omega) (by omega) (by omega) (by exact fun z h1 h2 => hpd z (by omega) h2) (by exact hR) (by exact hFx) (by exact hO) (by omega) (by exact hJ1) (by omega) (by omega) _ _ hb ht hg hd hh hq hm hsl hfi hbl htr hgu hsf hF _ (lv_sub hl [1, 2, 0] rfl)
        · have hpq : p = q := (by rcases Nat.lt_or_ge p q with z | z; exact absurd (hpd p (Nat.le_refl p) z) (by rw [← hv2]; assumption); omega)
          have hpn : p < n := (by omega)
          have hok : rcOk TX n p := (by rw [hpq]; exact rt_go (by omega) (show 0 < k by omega) (hR.symm.trans he))
          obtain ⟨hN1, hN2, hN3, -⟩ := cm_ok hpn hok
          have hdb := rcD_b TX n p F1
          refine r_aload_n C rfl (lv_at hl 0 rfl) dX3_load_85 ?_
          refine r_iload_n C rfl (lv_at hl 2 rfl) dX3_load_86 ?_
          refine r_vHi (rest := []) C (k_X3_obeyText l g b n p TX hTX hn hpn hok F1 (100 + 240 * q) hJ1 (by omega) v2 (by omega)) s_RX3_91 ⟨hb, ht, hg, hd⟩ hF (fun q hq => by obtain ⟨h1, h2⟩ := hq; exact ⟨by omega, by omega⟩) (recv C (ci := 3) rfl hb.o) hl.1 rfl ⟨by decide, by decide⟩ rfl (Nat.le_of_ble_eq_true rfl) ⟨by decide, by decide⟩ dX3_load_87 (fun H3 locs3 h3 ho3 hz3 hF => ?_)
          have hh := hh.kept (ho3 _ (not_dvp (by omega)))
          have hq := hq.kept (ho3 _ (not_dvp (by omega)))
          have hm := hm.kept (fun q h1 h2 => ho3 _ (not_dvp (by omega)))
          have hsl := hsl.kept (ho3 _ (not_dvp (by omega)))
          have hfi := hfi.kept (ho3 _ (not_dvp (by omega)))
          have hbl := hbl.kept (fun q h1 h2 => ho3 _ (not_dvp (by omega)))
          have htr := htr.kept (fun q h1 h2 => ho3 _ (not_dvp (by omega)))
          have hgu := hgu.kept (fun q h1 h2 => ho3 _ (not_dvp (by omega)))
          have hsf := hsf.kept (fun q h1 h2 => ho3 _ (not_dvp (by omega)))
          obtain ⟨hb, ht, hg, hd⟩ := h3
          refine r_ifP_ne (tgt := 96) C (by decide) dX3_load_90 (fun c4 => ?_) (fun c4 => ?_)
          · refine r_iinc (lv' := [(2, .int (iI (v2 + 1))), (0, .ref b), (1, .int (iI v1))]) C hl (q := 2) rfl (by decide) rfl dX3_load_96 (fun ls hl => ?_)
            refine r_goto (tgt := 63) C (by decide) dX3_load_99 ?_
            exact ih (p + 1) (rcP TX n p) (k - 1) (rcF TX n p F1) (o + rcD TX n p F1) v1 (v2 + 1) (by omega) (by omega) (by omega) (by omega) (by exact fun z h1 h2 => hN3 z (by omega) h2) (by have z := rt_ok (F := F1) (o := o) (show p < n by omega) (show 0 < k by omega) hok; rw [← hpq] at hR; exact hR.trans z.1) (by have z := rt_ok (F := F1) (o := o) (show p < n by omega) (show 0 < k by omega) hok; rw [← hpq] at hFx; exact hFx.trans z.2.1) (by have z := rt_ok (F := F1) (o := o) (show p < n by omega) (show 0 < k by omega) hok; rw [← hpq] at hO; exact hO.trans z.2.2) (by omega) (by rw [← hpq] at hJ1; exact (hJ1.rc (by omega) (by omega) TX n p).mono (by omega)) (by omega) (by omega) _ _ hb ht hg hd hh hq hm hsl hfi hbl htr hgu hsf hF _ (lv_sub hl [1, 2, 0] rfl)
          · refine r_iinc (lv' := [(1, .int (iI (v1 + 1))), (0, .ref b), (2, .int (iI v2))]) C hl (q := 1) rfl (by decide) rfl dX3_load_93 (fun ls hl => ?_)
            refine r_iinc (lv' := [(2, .int (iI (v2 + 1))), (1, .int (iI (v1 + 1))), (0, .ref b)]) C hl (q := 2) rfl (by decide) rfl dX3_load_96 (fun ls hl => ?_)
            refine r_goto (tgt := 63) C (by decide) dX3_load_99 ?_
            exact ih (p + 1) (rcP TX n p) (k - 1) (rcF TX n p F1) (o + rcD TX n p F1) (v1 + 1) (v2 + 1) (by omega) (by omega) (by omega) (by omega) (by exact fun z h1 h2 => hN3 z (by omega) h2) (by have z := rt_ok (F := F1) (o := o) (show p < n by omega) (show 0 < k by omega) hok; rw [← hpq] at hR; exact hR.trans z.1) (by have z := rt_ok (F := F1) (o := o) (show p < n by omega) (show 0 < k by omega) hok; rw [← hpq] at hFx; exact hFx.trans z.2.1) (by have z := rt_ok (F := F1) (o := o) (show p < n by omega) (show 0 < k by omega) hok; rw [← hpq] at hO; exact hO.trans z.2.2) (by omega) (by rw [← hpq] at hJ1; exact (hJ1.rc (by omega) (by omega) TX n p).mono (by omega)) (by omega) (by omega) _ _ hb ht hg hd hh hq hm hsl hfi hbl htr hgu hsf hF _ (lv_sub hl [2, 1, 0] rfl)
  refine r_aload_n C rfl (lv_at hl 0 rfl) dX3_load_0 ?_
  refine r_get C (ci := 3) (v := .ref (b + 1)) rfl uin3 hb.o 0 (by decide) q_137 rfl rfl dX3_load_1 ?_
  refine r_vKi (rest := []) C K9 (k_X2_firstError l g kt (b + 1) n TX hTX hn) s_RX3_71 ⟨ht, hg⟩ (recv C (ci := 2) rfl ht.o) hl.1 rfl ⟨by decide, by decide⟩ rfl (Nat.le_of_ble_eq_true rfl) ⟨by decide, by decide⟩ dX3_load_4 ?_
  have b5 := feR_b TX n 121 0 [68] (by omega)
  rw [show feR TX n 121 0 [68] = txE TX n from (txE_fe hn).symm]
  have htE := txE_b TX n hn
  refine r_iconst C dX3_load_7 ?_
  refine r_icmp_eq (tgt := 21) C (by decide) (by omega) (by decide) dX3_load_8 (fun c6 => ?_) (fun c6 => ?_)
  · refine r_aload_n C rfl (lv_at hl 0 rfl) dX3_load_21 ?_
    refine r_get C (ci := 3) (v := .ref (b + 3)) rfl uin3 hb.o 1 (by decide) q_138 rfl rfl dX3_load_22 ?_
    refine r_aload_n C rfl (lv_at hl 0 rfl) dX3_load_25 ?_
    refine r_get C (ci := 3) (v := .ref (b + 307)) rfl uin3 hb.o 5 (by decide) q_142 rfl rfl dX3_load_26 ?_
    refine r_vHn (rest := []) C (k_X0_become l g (b + 3) F (b + 307) z0 (by omega)) s_RX3_76 ⟨hd, hbl⟩ hF (fun q hq => by obtain ⟨h1, h2⟩ := hq; exact ⟨by omega, by omega⟩) (recv C (ci := 0) rfl hd.o) hl.1 rfl ⟨by decide, by decide⟩ rfl (Nat.le_of_ble_eq_true rfl) ⟨by decide, by decide⟩ dX3_load_29 (fun H7 locs7 h7 ho7 hz7 hF => ?_)
    have hb := hb.kept (ho7 _ (not_dvp (by omega)))
    have ht := ht.kept (ho7 _ (not_dvp (by omega)))
    have hg := hg.kept (ho7 _ (not_dvp (by omega)))
    have hh := hh.kept (ho7 _ (not_dvp (by omega)))
    have hq := hq.kept (ho7 _ (not_dvp (by omega)))
    have hm := hm.kept (fun q h1 h2 => ho7 _ (not_dvp (by omega)))
    have hsl := hsl.kept (ho7 _ (not_dvp (by omega)))
    have hfi := hfi.kept (ho7 _ (not_dvp (by omega)))
    have htr := htr.kept (fun q h1 h2 => ho7 _ (not_dvp (by omega)))
    have hgu := hgu.kept (fun q h1 h2 => ho7 _ (not_dvp (by omega)))
    have hsf := hsf.kept (fun q h1 h2 => ho7 _ (not_dvp (by omega)))
    obtain ⟨hd, hbl⟩ := h7
    refine r_aload_n C rfl (lv_at hl 0 rfl) dX3_load_32 ?_
    refine r_get C (ci := 3) (v := .ref (b + 23)) rfl uin3 hb.o 2 (by decide) q_139 rfl rfl dX3_load_33 ?_
    refine r_vHn (rest := []) C (k_X1_forgetAll l g (b + 23) first ac) s_RX3_80 hh hF (fun q hq => by have h9 : q = b + 23 := hq; exact ⟨by omega, by omega⟩) (recv C (ci := 1) rfl hh.o) hl.1 rfl ⟨by decide, by decide⟩ rfl (Nat.le_of_ble_eq_true rfl) ⟨by decide, by decide⟩ dX3_load_36 (fun H8 locs8 h8 ho8 hz8 hF => ?_)
    have hb := hb.kept (ho8 _ (fun h => by have h9 : _ = b + 23 := h; omega))
    have ht := ht.kept (ho8 _ (fun h => by have h9 : _ = b + 23 := h; omega))
    have hg := hg.kept (ho8 _ (fun h => by have h9 : _ = b + 23 := h; omega))
    have hd := hd.kept (fun q h1 h2 => ho8 _ (fun h => by have h9 : _ = b + 23 := h; omega))
    have hq := hq.kept (ho8 _ (fun h => by have h9 : _ = b + 23 := h; omega))
    have hm := hm.kept (fun q h1 h2 => ho8 _ (fun h => by have h9 : _ = b + 23 := h; omega))
    have hsl := hsl.kept (ho8 _ (fun h => by have h9 : _ = b + 23 := h; omega))
    have hfi := hfi.kept (ho8 _ (fun h => by have h9 : _ = b + 23 := h; omega))
    have hbl := hbl.kept (fun q h1 h2 => ho8 _ (fun h => by have h9 : _ = b + 23 := h; omega))
    have htr := htr.kept (fun q h1 h2 => ho8 _ (fun h => by have h9 : _ = b + 23 := h; omega))
    have hgu := hgu.kept (fun q h1 h2 => ho8 _ (fun h => by have h9 : _ = b + 23 := h; omega))
    have hsf := hsf.kept (fun q h1 h2 => ho8 _ (fun h => by have h9 : _ = b + 23 := h; omega))
    have hh := h8
    refine r_iconst C dX3_load_39 ?_
    refine r_istore_n (lv' := [(1, .int (iI 0)), (0, .ref b)]) C rfl hl (by decide) rfl dX3_load_40 (fun ls hl => ?_)
    refine r_iload_n C rfl (lv_at hl 0 rfl) dX3_load_41 ?_
    refine r_iconst C dX3_load_42 ?_
    refine r_icmp_ge (tgt := 59) C (by decide) (by decide) (by decide) dX3_load_43 (fun c9 => ?_) (fun c9 => ?_)
    · exact absurd c9 (by decide)
    · refine r_aload_n C rfl (lv_at hl 1 rfl) dX3_load_46 ?_
      refine r_get C (ci := 3) (v := .ref (b + 306)) rfl uin3 hb.o 4 (by decide) q_141 rfl rfl dX3_load_47 ?_
      refine r_iload_n C rfl (lv_at hl 0 rfl) dX3_load_50 ?_
      refine r_iconst C dX3_load_51 ?_
      refine r_zast C hfi hF (is_cdp (by omega)) 0 rfl (by omega) (by omega) rfl dX3_load_52 (fun H10 locs10 h10 ho10 hz10 hF => ?_)
      have hb := hb.kept (ho10 _ (by omega))
      have ht := ht.kept (ho10 _ (by omega))
      have hg := hg.kept (ho10 _ (by omega))
      have hd := hd.kept (fun q h1 h2 => ho10 _ (by omega))
      have hh := hh.kept (ho10 _ (by omega))
      have hq := hq.kept (ho10 _ (by omega))
      have hm := hm.kept (fun q h1 h2 => ho10 _ (by omega))
      have hsl := hsl.kept (ho10 _ (by omega))
      have hbl := hbl.kept (fun q h1 h2 => ho10 _ (by omega))
      have htr := htr.kept (fun q h1 h2 => ho10 _ (by omega))
      have hgu := hgu.kept (fun q h1 h2 => ho10 _ (by omega))
      have hsf := hsf.kept (fun q h1 h2 => ho10 _ (by omega))
      have hfi := h10
      refine r_iinc (lv' := [(1, .int (iI 1)), (0, .ref b)]) C hl (q := 0) rfl (by decide) rfl dX3_load_53 (fun ls hl => ?_)
      refine r_goto (tgt := 41) C (by decide) dX3_load_56 ?_
      refine r_iload_n C rfl (lv_at hl 0 rfl) dX3_load_41 ?_
      refine r_iconst C dX3_load_42 ?_
      refine r_icmp_ge (tgt := 59) C (by decide) (by decide) (by decide) dX3_load_43 (fun c11 => ?_) (fun c11 => ?_)
      · exact absurd c11 (by decide)
      · refine r_aload_n C rfl (lv_at hl 1 rfl) dX3_load_46 ?_
        refine r_get C (ci := 3) (v := .ref (b + 306)) rfl uin3 hb.o 4 (by decide) q_141 rfl rfl dX3_load_47 ?_
        refine r_iload_n C rfl (lv_at hl 0 rfl) dX3_load_50 ?_
        refine r_iconst C dX3_load_51 ?_
        refine r_zast C hfi hF (is_cdp (by omega)) 1 rfl (by omega) (by omega) rfl dX3_load_52 (fun H12 locs12 h12 ho12 hz12 hF => ?_)
        have hb := hb.kept (ho12 _ (by omega))
        have ht := ht.kept (ho12 _ (by omega))
        have hg := hg.kept (ho12 _ (by omega))
        have hd := hd.kept (fun q h1 h2 => ho12 _ (by omega))
        have hh := hh.kept (ho12 _ (by omega))
        have hq := hq.kept (ho12 _ (by omega))
        have hm := hm.kept (fun q h1 h2 => ho12 _ (by omega))
        have hsl := hsl.kept (ho12 _ (by omega))
        have hbl := hbl.kept (fun q h1 h2 => ho12 _ (by omega))
        have htr := htr.kept (fun q h1 h2 => ho12 _ (by omega))
        have hgu := hgu.kept (fun q h1 h2 => ho12 _ (by omega))
        have hsf := hsf.kept (fun q h1 h2 => ho12 _ (by omega))
        have hfi := h12
        refine r_iinc (lv' := [(1, .int (iI 2)), (0, .ref b)]) C hl (q := 0) rfl (by decide) rfl dX3_load_53 (fun ls hl => ?_)
        refine r_goto (tgt := 41) C (by decide) dX3_load_56 ?_
        refine r_iload_n C rfl (lv_at hl 0 rfl) dX3_load_41 ?_
        refine r_iconst C dX3_load_42 ?_
        refine r_icmp_ge (tgt := 59) C (by decide) (by decide) (by decide) dX3_load_43 (fun c13 => ?_) (fun c13 => ?_)
        · refine r_iconst C dX3_load_59 ?_
          refine r_istore_n (lv' := [(1, .int (iI 0)), (0, .ref b)]) C rfl hl (by decide) rfl dX3_load_60 (fun ls hl => ?_)
          refine r_iconst C dX3_load_61 ?_
          refine r_istore_n (lv' := [(2, .int (iI 1)), (1, .int (iI 0)), (0, .ref b)]) C rfl hl (by decide) rfl dX3_load_62 (fun ls hl => ?_)
          have hnb : ¬ txB TX n := (fun z => by have h9 : txE TX n = 0 := if_pos z; omega)
          exact cut63 _ 1 1 120 z0 0 0 1 (Nat.lt_succ_self _) (by have h9 : ¬ n = 0 := (fun z => hnb (Or.inl z)); omega) (by omega) (by assumption) (by exact fun z h1 h2 => absurd h2 (by omega)) (by exact if_neg hnb) (by exact if_neg hnb) (by exact if_neg hnb) (by omega) (by exact J.zero (by omega)) (by rfl) (by omega) _ _ hb ht hg hd hh hq hm hsl hfi hbl htr hgu hsf hF _ (lv_sub hl [2, 1, 0] rfl)
        · exact absurd c13 (by decide)
  · exact r_throw (text := "the text is not a device") C hst K9 ht9 rfl th_IS (by decide +kernel) (by rw [show ((Kd (txE TX n = -1)) : Int) = 1 from (by exact if_neg (by omega))]; decide) (by rw [show ((Kd (txE TX n = -1)) : Int) = 1 from (by exact if_neg (by omega))]; rfl) hl.1 dX3_load_11 dX3_load_14 dX3_load_15 dX3_load_17 dX3_load_20 (by decide) (Nat.le_of_ble_eq_true rfl) ⟨by decide, by decide⟩ ⟨by decide, by decide⟩

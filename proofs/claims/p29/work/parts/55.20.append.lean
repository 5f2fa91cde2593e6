theorem s_RX3_54 : SiteV "LentRoom" 54 "LentRoom$Text" yX2_isFull cX2_isFull 1 (some .boolean) 0 := ⟨⟨q_341, q_342, q_343, q_31, q_344⟩, rfl, by decide, by decide, by decide +kernel⟩
theorem s_RX3_63 : SiteV "LentRoom" 63 "LentRoom$Text" yX2_add cX2_add 2 (some .int) 1 := ⟨⟨q_361, q_362, q_363, q_31, q_364⟩, rfl, by decide, by decide, by decide +kernel⟩
set_option maxHeartbeats 4000000 in
theorem k_X3_append (l : Launch) (hst : l.stackTraces = false) (g : Gt) (kt : Kt) (b : Nat) (sz ac : Int) (TX F DIA KEP ISK : Nat → Int) (T : Int) (hJ : J F z0 T) (hT : T ≤ 900000) (x : Int) (hx : Rg x) (hsz : 0 ≤ sz ∧ sz ≤ 120) (TX : Nat → Int) (hTX : ∀ k : Nat, k < 120 → 0 ≤ TX k ∧ TX k ≤ 255)  : XM l yX3_append cX3_append 2 (some .int) 6 90 1 g kt [.ref b, .int (iI x)] (CW g b sz ac TX F DIA KEP ISK) (if ¬ (0 ≤ x ∧ x ≤ 255) then 1 else if sz = 120 then 2 else 0) [eIA, eIS] (some (.int (iI (sz + 1)))) (Cdp b) (CW g b (sz + 1) ac (up TX sz.toNat x) F DIA KEP ISK) := by
  refine xm_of "LentRoom" (by decide) rfl (Nat.le_of_ble_eq_true rfl) ?_
  intro zp ze zs zm za zb zt zc ls C K9 ht9 hP hF hl
  obtain ⟨first, G, TR, GU, hRG, hb, ht, hg, hd, hh, hq, hm, hsl, hfi, hbl, htr, hgu, hsf⟩ := hP
  have hac9 := hRG.1
  have hfi9 := hRG.2.1
  obtain ⟨n, hn9⟩ := Int.eq_ofNat_of_zero_le hsz.1
  have hn : n ≤ 120 := (by omega)
  have ht : txAt g (b + 1) (n : Int) zs.heap := hn9 ▸ ht
  have hl : lv_has ls 2 [(0, .ref b), (1, .int (iI x))] := hl
  have hS := hJ.S
  have hSm : Sm F := hS.m (by omega)
  have hZ := hJ.Z
  have hn5 := hJ.n
  have hC := hJ.C
  have hG := hJ.G
  have hPgA : ∀ s : Nat, (s : Int) < F 0 → Pg F s := fun s _ => hJ.Pg (fun _ _ _ => rfl)
  refine r_iload_n C rfl (lv_at hl 1 rfl) dX3_append_0 ?_
  refine r_if_lt (tgt := 11) C (by decide) (by omega) dX3_append_1 (fun c1 => ?_) (fun c1 => ?_)
  · exact r_throw (text := "no character code") C hst K9 ht9 rfl th_IA (by decide +kernel) (by rw [show ((if ¬ (0 ≤ x ∧ x ≤ 255) then 1 else if sz = 120 then 2 else 0) : Int) = 1 from (by (repeat' split) <;> omega)]; decide) (by rw [show ((if ¬ (0 ≤ x ∧ x ≤ 255) then 1 else if sz = 120 then 2 else 0) : Int) = 1 from (by (repeat' split) <;> omega)]; rfl) hl.1 dX3_append_11 dX3_append_14 dX3_append_15 dX3_append_17 dX3_append_20 (by decide) (Nat.le_of_ble_eq_true rfl) ⟨by decide, by decide⟩ ⟨by decide, by decide⟩
  · refine r_iload_n C rfl (lv_at hl 1 rfl) dX3_append_4 ?_
    refine r_sipush C (by decide) dX3_append_5 ?_
    refine r_icmp_le (tgt := 21) C (by decide) (by omega) (by decide) dX3_append_8 (fun c2 => ?_) (fun c2 => ?_)
    · refine r_aload_n C rfl (lv_at hl 0 rfl) dX3_append_21 ?_
      refine r_get C (ci := 3) (v := .ref (b + 1)) rfl uin3 hb.o 0 (by decide) q_137 rfl rfl dX3_append_22 ?_
      refine r_vPi (rest := []) C (k_X2_isFull l g (b + 1) n TX hTX hn) s_RX3_54 ⟨ht, hg⟩ (recv C (ci := 2) rfl ht.o) hl.1 rfl ⟨by decide, by decide⟩ rfl (Nat.le_of_ble_eq_true rfl) ⟨by decide, by decide⟩ dX3_append_25 ?_
      refine r_ifP_eq (tgt := 41) C (by decide) dX3_append_28 (fun c3 => ?_) (fun c3 => ?_)
      · refine r_aload_n C rfl (lv_at hl 0 rfl) dX3_append_41 ?_
        refine r_get C (ci := 3) (v := .ref (b + 1)) rfl uin3 hb.o 0 (by decide) q_137 rfl rfl dX3_append_42 ?_
        refine r_iload_n C rfl (lv_at hl 1 rfl) dX3_append_45 ?_
        refine r_i2c C (by omega) dX3_append_46 ?_
        refine r_vHi (rest := []) C (k_X2_add l g (b + 1) n TX hTX (by omega) x (by omega)) s_RX3_63 ⟨ht, hg⟩ hF (fun q hq => by rcases hq with h | h <;> exact ⟨by omega, by omega⟩) (recv C (ci := 2) rfl ht.o) hl.1 rfl ⟨by decide, by decide⟩ rfl (Nat.le_of_ble_eq_true rfl) ⟨by decide, by decide⟩ dX3_append_47 (fun H4 locs4 h4 ho4 hz4 hF => ?_)
        have hb := hb.kept (ho4 _ (fun h => by rcases h with h | h <;> omega))
        have hd := hd.kept (fun q h1 h2 => ho4 _ (fun h => by rcases h with h | h <;> omega))
        have hh := hh.kept (ho4 _ (fun h => by rcases h with h | h <;> omega))
        have hq := hq.kept (ho4 _ (fun h => by rcases h with h | h <;> omega))
        have hm := hm.kept (fun q h1 h2 => ho4 _ (fun h => by rcases h with h | h <;> omega))
        have hsl := hsl.kept (ho4 _ (fun h => by rcases h with h | h <;> omega))
        have hfi := hfi.kept (ho4 _ (fun h => by rcases h with h | h <;> omega))
        have hbl := hbl.kept (fun q h1 h2 => ho4 _ (fun h => by rcases h with h | h <;> omega))
        have htr := htr.kept (fun q h1 h2 => ho4 _ (fun h => by rcases h with h | h <;> omega))
        have hgu := hgu.kept (fun q h1 h2 => ho4 _ (fun h => by rcases h with h | h <;> omega))
        have hsf := hsf.kept (fun q h1 h2 => ho4 _ (fun h => by rcases h with h | h <;> omega))
        obtain ⟨ht, hg⟩ := h4
        have hK0 : ((if ¬ (0 ≤ x ∧ x ≤ 255) then 1 else if sz = 120 then 2 else 0) : Int) = 0 := (by (repeat' split) <;> omega)
        rw [show (n : Int) = sz by omega] at ht
        rw [show n = sz.toNat by omega] at hg
        exact r_iretX C rfl rfl (congrArg iI (by omega)) hF hK0 (by exact ⟨first, G, TR, GU, hRG, hb, ht, hg, hd, hh, hq, hm, hsl, hfi, hbl, htr, hgu, hsf⟩) (by decide) (by decide) dX3_append_50
      · exact r_throw (text := "the text is full") C hst K9 ht9 rfl th_IS (by decide +kernel) (by rw [show ((if ¬ (0 ≤ x ∧ x ≤ 255) then 1 else if sz = 120 then 2 else 0) : Int) = 2 from (by (repeat' split) <;> omega)]; decide) (by rw [show ((if ¬ (0 ≤ x ∧ x ≤ 255) then 1 else if sz = 120 then 2 else 0) : Int) = 2 from (by (repeat' split) <;> omega)]; rfl) hl.1 dX3_append_31 dX3_append_34 dX3_append_35 dX3_append_37 dX3_append_40 (by decide) (Nat.le_of_ble_eq_true rfl) ⟨by decide, by decide⟩ ⟨by decide, by decide⟩
    · exact r_throw (text := "no character code") C hst K9 ht9 rfl th_IA (by decide +kernel) (by rw [show ((if ¬ (0 ≤ x ∧ x ≤ 255) then 1 else if sz = 120 then 2 else 0) : Int) = 1 from (by (repeat' split) <;> omega)]; decide) (by rw [show ((if ¬ (0 ≤ x ∧ x ≤ 255) then 1 else if sz = 120 then 2 else 0) : Int) = 1 from (by (repeat' split) <;> omega)]; rfl) hl.1 dX3_append_11 dX3_append_14 dX3_append_15 dX3_append_17 dX3_append_20 (by decide) (Nat.le_of_ble_eq_true rfl) ⟨by decide, by decide⟩ ⟨by decide, by decide⟩

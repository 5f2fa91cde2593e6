theorem s_RX3_80 : SiteV "LentRoom" 80 "LentRoom$History" yX1_forgetAll cX1_forgetAll 1 none 0 := ⟨⟨q_387, q_388, q_389, q_33, q_390⟩, rfl, by decide, by decide, by decide +kernel⟩
set_option maxHeartbeats 4000000 in
theorem k_X3_restore (l : Launch) (hst : l.stackTraces = false) (g : Gt) (kt : Kt) (b : Nat) (sz ac : Int) (TX F DIA KEP ISK : Nat → Int) (T : Int) (hJ : J F z0 T) (hT : T ≤ 900000) (x : Int) (hx : Rg x) (k : Nat) (hk : 0 ≤ x → x = (k : Int)) (hIS : ∀ k : Nat, k < 2 → 0 ≤ ISK k ∧ ISK k ≤ 1) (hJK : 0 ≤ x ∧ x ≤ 1 → ISK k ≠ 0 → J (fun i => KEP (262 * k + i)) z0 T) : XM l yX3_restore cX3_restore 2 (some .int) 7 110 2 g kt [.ref b, .int (iI x)] (CW g b sz ac TX F DIA KEP ISK) (if ¬ (0 ≤ x ∧ x ≤ 1) then 1 else if ISK k = 0 then 2 else 0) [eIB, eIS] (some (.int (iI (tkA (fun i => KEP (262 * k + i)))))) (Cdp b) (CW g b sz 0 TX (fun i => KEP (262 * k + i)) DIA KEP ISK) := by
  refine xm_of "LentRoom" (by decide) rfl (Nat.le_of_ble_eq_true rfl) ?_
  intro zp ze zs zm za zb zt zc ls C K9 ht9 hP hF hl
  obtain ⟨first, G, TR, GU, hRG, hb, ht, hg, hd, hh, hq, hm, hsl, hfi, hbl, htr, hgu, hsf⟩ := hP
  have hac9 := hRG.1
  have hfi9 := hRG.2.1
  have hl : lv_has ls 2 [(0, .ref b), (1, .int (iI x))] := hl
  have hS := hJ.S
  have hSm : Sm F := hS.m (by omega)
  have hZ := hJ.Z
  have hn5 := hJ.n
  have hC := hJ.C
  have hG := hJ.G
  have hPgA : ∀ s : Nat, (s : Int) < F 0 → Pg F s := fun s _ => hJ.Pg (fun _ _ _ => rfl)
  refine r_iload_n C rfl (lv_at hl 1 rfl) dX3_restore_0 ?_
  refine r_sXn (rest := []) C K9 ht9 (k_X3_needSlot l hst g kt x (by omega)) s_RX3_263 trivial (fun hq9 => by obtain ⟨e9, n9⟩ := Kd_n hq9; have e8 : ((if ¬ (0 ≤ x ∧ x ≤ 1) then 1 else if ISK k = 0 then 2 else 0) : Int) = 1 := (by (repeat' split) <;> omega); (first | rw [e9, e8] | rw [e9]); exact ⟨by decide, rfl⟩) hl.1 rfl ⟨by decide, by decide⟩ rfl (Nat.le_of_ble_eq_true rfl) ⟨by decide, by decide⟩ ⟨by decide, by decide⟩ dX3_restore_1 (fun x1 => ?_)
  have v2 := Kd_0.mp x1
  refine r_aload_n C rfl (lv_at hl 0 rfl) dX3_restore_4 ?_
  refine r_get C (ci := 3) (v := .ref (b + 306)) rfl uin3 hb.o 4 (by decide) q_141 rfl rfl dX3_restore_5 ?_
  refine r_iload_n C rfl (lv_at hl 1 rfl) dX3_restore_8 ?_
  refine r_zald (v := ISK k) C hfi k (by omega) (by omega) (by omega) rfl dX3_restore_9 ?_
  have b3 := hIS k (by omega)
  refine r_if_ne (tgt := 24) C (by decide) (by omega) dX3_restore_10 (fun c4 => ?_) (fun c4 => ?_)
  · have hJ2 := hJK ⟨by omega, by omega⟩ (by omega)
    have hSmK : Sm (fun i => KEP (262 * k + i)) := hJ2.S.m (by omega)
    have hZK := hJ2.Z
    refine r_aload_n C rfl (lv_at hl 0 rfl) dX3_restore_24 ?_
    refine r_get C (ci := 3) (v := .ref (b + 3)) rfl uin3 hb.o 1 (by decide) q_138 rfl rfl dX3_restore_25 ?_
    refine r_aload_n C rfl (lv_at hl 0 rfl) dX3_restore_28 ?_
    refine r_get C (ci := 3) (v := .ref (b + 305)) rfl uin3 hb.o 3 (by decide) q_140 rfl rfl dX3_restore_29 ?_
    refine r_iload_n C rfl (lv_at hl 1 rfl) dX3_restore_32 ?_
    refine r_aaldq (v := b + 367 + 20 * k) C hsl k (by omega) (by omega) (by omega) rfl dX3_restore_33 ?_
    refine r_vHn (rest := []) C (k_X0_become l g (b + 3) F (b + 367 + 20 * k) (fun z => KEP (262 * k + z)) (by omega)) s_RX3_76 ⟨hd, hsf k (by omega)⟩ hF (fun q hq => by obtain ⟨h1, h2⟩ := hq; exact ⟨by omega, by omega⟩) (recv C (ci := 0) rfl hd.o) hl.1 rfl ⟨by decide, by decide⟩ rfl (Nat.le_of_ble_eq_true rfl) ⟨by decide, by decide⟩ dX3_restore_34 (fun H5 locs5 h5 ho5 hz5 hF => ?_)
    have hd : dvAt g (b + 3) (fun i => KEP (262 * k + i)) H5 := h5.1
    have hb := hb.kept (ho5 _ (not_dvp (by omega)))
    have ht := ht.kept (ho5 _ (not_dvp (by omega)))
    have hg := hg.kept (ho5 _ (not_dvp (by omega)))
    have hh := hh.kept (ho5 _ (not_dvp (by omega)))
    have hq := hq.kept (ho5 _ (not_dvp (by omega)))
    have hm := hm.kept (fun q h1 h2 => ho5 _ (not_dvp (by omega)))
    have hsl := hsl.kept (ho5 _ (not_dvp (by omega)))
    have hfi := hfi.kept (ho5 _ (not_dvp (by omega)))
    have hbl := hbl.kept (fun q h1 h2 => ho5 _ (not_dvp (by omega)))
    have htr := htr.kept (fun q h1 h2 => ho5 _ (not_dvp (by omega)))
    have hgu := hgu.kept (fun q h1 h2 => ho5 _ (not_dvp (by omega)))
    have hsf := hsf.kept (fun q h1 h2 => ho5 _ (not_dvp (by omega)))
    refine r_aload_n C rfl (lv_at hl 0 rfl) dX3_restore_37 ?_
    refine r_get C (ci := 3) (v := .ref (b + 23)) rfl uin3 hb.o 2 (by decide) q_139 rfl rfl dX3_restore_38 ?_
    refine r_vHn (rest := []) C (k_X1_forgetAll l g (b + 23) first ac) s_RX3_80 hh hF (fun q hq => by have h9 : q = b + 23 := hq; exact ⟨by omega, by omega⟩) (recv C (ci := 1) rfl hh.o) hl.1 rfl ⟨by decide, by decide⟩ rfl (Nat.le_of_ble_eq_true rfl) ⟨by decide, by decide⟩ dX3_restore_41 (fun H6 locs6 h6 ho6 hz6 hF => ?_)
    have hb := hb.kept (ho6 _ (fun h => by have h9 : _ = b + 23 := h; omega))
    have ht := ht.kept (ho6 _ (fun h => by have h9 : _ = b + 23 := h; omega))
    have hg := hg.kept (ho6 _ (fun h => by have h9 : _ = b + 23 := h; omega))
    have hd := hd.kept (fun q h1 h2 => ho6 _ (fun h => by have h9 : _ = b + 23 := h; omega))
    have hq := hq.kept (ho6 _ (fun h => by have h9 : _ = b + 23 := h; omega))
    have hm := hm.kept (fun q h1 h2 => ho6 _ (fun h => by have h9 : _ = b + 23 := h; omega))
    have hsl := hsl.kept (ho6 _ (fun h => by have h9 : _ = b + 23 := h; omega))
    have hfi := hfi.kept (ho6 _ (fun h => by have h9 : _ = b + 23 := h; omega))
    have hbl := hbl.kept (fun q h1 h2 => ho6 _ (fun h => by have h9 : _ = b + 23 := h; omega))
    have htr := htr.kept (fun q h1 h2 => ho6 _ (fun h => by have h9 : _ = b + 23 := h; omega))
    have hgu := hgu.kept (fun q h1 h2 => ho6 _ (fun h => by have h9 : _ = b + 23 := h; omega))
    have hsf := hsf.kept (fun q h1 h2 => ho6 _ (fun h => by have h9 : _ = b + 23 := h; omega))
    have hh := h6
    refine r_aload_n C rfl (lv_at hl 0 rfl) dX3_restore_44 ?_
    refine r_get C (ci := 3) (v := .ref (b + 3)) rfl uin3 hb.o 1 (by decide) q_138 rfl rfl dX3_restore_45 ?_
    refine r_vPi (rest := []) C (k_X0_pagesOfAll l g (b + 3) (fun i => KEP (262 * k + i)) hSmK hZK) s_RX3_255 hd (recv C (ci := 0) rfl hd.o) hl.1 rfl ⟨by decide, by decide⟩ rfl (Nat.le_of_ble_eq_true rfl) ⟨by decide, by decide⟩ dX3_restore_48 ?_
    have b7 := tkA_b hSmK
    have hK0 : ((if ¬ (0 ≤ x ∧ x ≤ 1) then 1 else if ISK k = 0 then 2 else 0) : Int) = 0 := (by (repeat' split) <;> omega)
    exact r_iretX C rfl rfl (congrArg iI (by rfl)) hF hK0 (by exact ⟨first, G, TR, GU, hRG.clear, hb, ht, hg, hd, hh, hq, hm, hsl, hfi, hbl, htr, hgu, hsf⟩) (by decide) (by decide) dX3_restore_51
  · exact r_throwW (text := "nothing has been saved in the slot") C hst K9 ht9 rfl th_IS (by decide +kernel) (by rw [show ((if ¬ (0 ≤ x ∧ x ≤ 1) then 1 else if ISK k = 0 then 2 else 0) : Int) = 2 from (by (repeat' split) <;> omega)]; decide) (by rw [show ((if ¬ (0 ≤ x ∧ x ≤ 1) then 1 else if ISK k = 0 then 2 else 0) : Int) = 2 from (by (repeat' split) <;> omega)]; rfl) hl.1 dX3_restore_13 dX3_restore_16 dX3_restore_17 dX3_restore_20 dX3_restore_23 (by decide) (Nat.le_of_ble_eq_true rfl) ⟨by decide, by decide⟩ ⟨by decide, by decide⟩

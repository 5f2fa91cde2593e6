theorem s_RX3_190 : SiteV "LentRoom" 190 "LentRoom$History" yX1_isEmpty cX1_isEmpty 1 (some .boolean) 0 := ⟨⟨q_657, q_658, q_659, q_33, q_660⟩, rfl, by decide, by decide, by decide +kernel⟩
theorem s_RX3_195 : SiteV "LentRoom" 195 "LentRoom$History" yX1_takeBack cX1_takeBack 2 (some .int) 1 := ⟨⟨q_662, q_663, q_664, q_33, q_665⟩, rfl, by decide, by decide, by decide +kernel⟩
set_option maxHeartbeats 4000000 in
theorem k_X3_undo (l : Launch) (hst : l.stackTraces = false) (g : Gt) (kt : Kt) (b : Nat) (sz ac : Int) (TX F DIA KEP ISK : Nat → Int) (T : Int) (hJ : J F z0 T) (hT : T ≤ 900000) (hac : 0 ≤ ac ∧ ac ≤ 14) : XM l yX3_undo cX3_undo 1 (some .int) 6 90 1 g kt [.ref b] (CW g b sz ac TX F DIA KEP ISK) (Kd (ac ≠ 0)) [eIS] (some (.int (iI (ac - 1)))) (Cdp b) (CW g b sz (ac - 1) TX (fun k => DIA (262 * (ac - 1).toNat + k)) DIA KEP ISK) := by
  refine xm_of "LentRoom" (by decide) rfl (Nat.le_of_ble_eq_true rfl) ?_
  intro zp ze zs zm za zb zt zc ls C K9 ht9 hP hF hl
  obtain ⟨first, G, TR, GU, hRG, hb, ht, hg, hd, hh, hq, hm, hsl, hfi, hbl, htr, hgu, hsf⟩ := hP
  have hac9 := hRG.1
  have hfi9 := hRG.2.1
  have hl : lv_has ls 1 [(0, .ref b)] := hl
  have hS := hJ.S
  have hSm : Sm F := hS.m (by omega)
  have hZ := hJ.Z
  have hn5 := hJ.n
  have hC := hJ.C
  have hG := hJ.G
  have hPgA : ∀ s : Nat, (s : Int) < F 0 → Pg F s := fun s _ => hJ.Pg (fun _ _ _ => rfl)
  refine r_aload_n C rfl (lv_at hl 0 rfl) dX3_undo_0 ?_
  refine r_get C (ci := 3) (v := .ref (b + 23)) rfl uin3 hb.o 2 (by decide) q_139 rfl rfl dX3_undo_1 ?_
  refine r_vPi (rest := []) C (k_X1_isEmpty l g (b + 23) first ac (by omega)) s_RX3_190 hh (recv C (ci := 1) rfl hh.o) hl.1 rfl ⟨by decide, by decide⟩ rfl (Nat.le_of_ble_eq_true rfl) ⟨by decide, by decide⟩ dX3_undo_4 ?_
  refine r_ifP_eq (tgt := 20) C (by decide) dX3_undo_7 (fun c1 => ?_) (fun c1 => ?_)
  · refine r_aload_n C rfl (lv_at hl 0 rfl) dX3_undo_20 ?_
    refine r_get C (ci := 3) (v := .ref (b + 23)) rfl uin3 hb.o 2 (by decide) q_139 rfl rfl dX3_undo_21 ?_
    refine r_aload_n C rfl (lv_at hl 0 rfl) dX3_undo_24 ?_
    refine r_get C (ci := 3) (v := .ref (b + 3)) rfl uin3 hb.o 1 (by decide) q_138 rfl rfl dX3_undo_25 ?_
    refine r_vHi (rest := []) C (k_X1_takeBack l g (b + 23) first ac G (b + 3) F (by omega) (by omega) (by omega) (by omega)) s_RX3_195 ⟨hh, hq, hm, hd⟩ hF (fun q hq => by rcases hq with h | h; have h9 : q = b + 23 := h; exact ⟨by omega, by omega⟩; obtain ⟨h1, h2⟩ := h; exact ⟨by omega, by omega⟩) (recv C (ci := 1) rfl hh.o) hl.1 rfl ⟨by decide, by decide⟩ rfl (Nat.le_of_ble_eq_true rfl) ⟨by decide, by decide⟩ dX3_undo_28 (fun H2 locs2 h2 ho2 hz2 hF => ?_)
    have hb := hb.kept (ho2 _ (fun h => by rcases h with h | h; have h9 : _ = b + 23 := h; omega; obtain ⟨h1, h2⟩ := h; omega))
    have ht := ht.kept (ho2 _ (fun h => by rcases h with h | h; have h9 : _ = b + 23 := h; omega; obtain ⟨h1, h2⟩ := h; omega))
    have hg := hg.kept (ho2 _ (fun h => by rcases h with h | h; have h9 : _ = b + 23 := h; omega; obtain ⟨h1, h2⟩ := h; omega))
    have hsl := hsl.kept (ho2 _ (fun h => by rcases h with h | h; have h9 : _ = b + 23 := h; omega; obtain ⟨h1, h2⟩ := h; omega))
    have hfi := hfi.kept (ho2 _ (fun h => by rcases h with h | h; have h9 : _ = b + 23 := h; omega; obtain ⟨h1, h2⟩ := h; omega))
    have hbl := hbl.kept (fun q h1 h2 => ho2 _ (fun h => by rcases h with h | h; have h9 : _ = b + 23 := h; omega; obtain ⟨h1, h2⟩ := h; omega))
    have htr := htr.kept (fun q h1 h2 => ho2 _ (fun h => by rcases h with h | h; have h9 : _ = b + 23 := h; omega; obtain ⟨h1, h2⟩ := h; omega))
    have hgu := hgu.kept (fun q h1 h2 => ho2 _ (fun h => by rcases h with h | h; have h9 : _ = b + 23 := h; omega; obtain ⟨h1, h2⟩ := h; omega))
    have hsf := hsf.kept (fun q h1 h2 => ho2 _ (fun h => by rcases h with h | h; have h9 : _ = b + 23 := h; omega; obtain ⟨h1, h2⟩ := h; omega))
    obtain ⟨hh, hq, hm, hd⟩ := h2
    have hK0 : ((Kd (ac ≠ 0)) : Int) = 0 := (by exact if_pos (by omega))
    have hd := hd.cg (fun k hk => (hRG.back (by omega)).2 k hk)
    exact r_iretX C rfl rfl (congrArg iI (by rfl)) hF hK0 (by exact ⟨first, G, TR, GU, (hRG.back (by omega)).1, hb, ht, hg, hd, hh, hq, hm, hsl, hfi, hbl, htr, hgu, hsf⟩) (by decide) (by decide) dX3_undo_31
  · exact r_throw (text := "no state is remembered") C hst K9 ht9 rfl th_IS (by decide +kernel) (by rw [show ((Kd (ac ≠ 0)) : Int) = 1 from (by exact if_neg (by omega))]; decide) (by rw [show ((Kd (ac ≠ 0)) : Int) = 1 from (by exact if_neg (by omega))]; rfl) hl.1 dX3_undo_10 dX3_undo_13 dX3_undo_14 dX3_undo_16 dX3_undo_19 (by decide) (Nat.le_of_ble_eq_true rfl) ⟨by decide, by decide⟩ ⟨by decide, by decide⟩

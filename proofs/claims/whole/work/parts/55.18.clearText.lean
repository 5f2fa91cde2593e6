theorem s_RX3_67 : SiteV "LentRoom" 67 "LentRoom$Text" yX2_empty cX2_empty 2 (some .int) 0 := ⟨⟨q_167, q_168, q_169, q_31, q_170⟩, rfl, by decide, by decide, by decide +kernel⟩
set_option maxHeartbeats 4000000 in
theorem k_X3_clearText (l : Launch) (g : Gt) (b : Nat) (sz ac : Int) (TX F DIA KEP ISK : Nat → Int) (T : Int) (hJ : J F z0 T) (hT : T ≤ 900000)  : CH l yX3_clearText cX3_clearText 1 (some .int) 1 21 g [.ref b] (CW g b sz ac TX F DIA KEP ISK) (some (.int (iI sz))) (Cdp b) (CW g b 0 ac TX F DIA KEP ISK) := by
  refine ch_of "LentRoom" (by decide) rfl (Nat.le_of_ble_eq_true rfl) ?_
  intro zp ze zs zm za zb zt zc ls C hP hF hl
  obtain ⟨first, G, TR, GU, hRG, hb, ht, hg, hd, hh, hq, hm, hsl, hfi, hbl, htr, hgu, hsf⟩ := hP
  have hac9 := hRG.1
  have hfi9 := hRG.2.1
  have hl : lv_has ls 1 [(0, .ref b)] := hl
  refine r_aload_n C rfl (lv_at hl 0 rfl) dX3_clearText_0 ?_
  refine r_get C (ci := 3) (v := .ref (b + 1)) rfl uin3 hb.o 0 (by decide) q_137 rfl rfl dX3_clearText_1 ?_
  refine r_vHi (rest := []) C (k_X2_empty l g (b + 1) sz) s_RX3_67 ht hF (fun q hq => by have h9 : q = b + 1 := hq; exact ⟨by omega, by omega⟩) (recv C (ci := 2) rfl ht.o) hl.1 rfl ⟨by decide, by decide⟩ rfl (Nat.le_of_ble_eq_true rfl) ⟨Nat.le_refl 0, Nat.le_refl 0⟩ dX3_clearText_4 (fun H1 locs1 h1 ho1 hz1 hF => ?_)
  have hb := hb.kept (ho1 _ (fun h => by have h9 : _ = b + 1 := h; omega))
  have hg := hg.kept (ho1 _ (fun h => by have h9 : _ = b + 1 := h; omega))
  have hd := hd.kept (fun q h1 h2 => ho1 _ (fun h => by have h9 : _ = b + 1 := h; omega))
  have hh := hh.kept (ho1 _ (fun h => by have h9 : _ = b + 1 := h; omega))
  have hq := hq.kept (ho1 _ (fun h => by have h9 : _ = b + 1 := h; omega))
  have hm := hm.kept (fun q h1 h2 => ho1 _ (fun h => by have h9 : _ = b + 1 := h; omega))
  have hsl := hsl.kept (ho1 _ (fun h => by have h9 : _ = b + 1 := h; omega))
  have hfi := hfi.kept (ho1 _ (fun h => by have h9 : _ = b + 1 := h; omega))
  have hbl := hbl.kept (fun q h1 h2 => ho1 _ (fun h => by have h9 : _ = b + 1 := h; omega))
  have htr := htr.kept (fun q h1 h2 => ho1 _ (fun h => by have h9 : _ = b + 1 := h; omega))
  have hgu := hgu.kept (fun q h1 h2 => ho1 _ (fun h => by have h9 : _ = b + 1 := h; omega))
  have hsf := hsf.kept (fun q h1 h2 => ho1 _ (fun h => by have h9 : _ = b + 1 := h; omega))
  have ht := h1
  exact r_iretH C rfl rfl (congrArg iI (by rfl)) hF (by exact ⟨first, G, TR, GU, hRG, hb, ht, hg, hd, hh, hq, hm, hsl, hfi, hbl, htr, hgu, hsf⟩) dX3_clearText_7

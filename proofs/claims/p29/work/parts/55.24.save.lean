theorem s_RX3_263 : SiteS "LentRoom" 263 yX3_needSlot cX3_needSlot 1 none 1 := ⟨⟨q_767, q_768, q_30, q_769⟩, by decide, by decide, by decide +kernel⟩
set_option maxHeartbeats 4000000 in
theorem k_X3_save (l : Launch) (hst : l.stackTraces = false) (g : Gt) (kt : Kt) (b : Nat) (sz ac : Int) (TX F DIA KEP ISK : Nat → Int) (T : Int) (hJ : J F z0 T) (hT : T ≤ 900000) (x : Int) (hx : Rg x) (k : Nat) (hk : 0 ≤ x → x = (k : Int)) : XM l yX3_save cX3_save 2 (some .int) 7 110 1 g kt [.ref b, .int (iI x)] (CW g b sz ac TX F DIA KEP ISK) (Kd (0 ≤ x ∧ x ≤ 1)) [eIB] (some (.int (iI (tkA F)))) (Cdp b) (CW g b sz ac TX F DIA (cpy KEP F (262 * k) 0 262) (up ISK k 1)) := by
  refine xm_of "LentRoom" (by decide) rfl (Nat.le_of_ble_eq_true rfl) ?_
  intro zp ze zs zm za zb zt zc ls C K9 ht9 hP hF hl
  obtain ⟨first, G, TR, GU, hRG, hb, ht, hg, hd, hh, hq, hm, hsl, hfi, hbl, htr, hgu, hsf⟩ := hP
  have hac9 := hRG.1
  have hfi9 := hRG.2.1
  have hl : lv_has ls 2 [(0, .ref b), (1, .int (iI x))] := hl
  have hS := hJ.S
  have hSm : Sm F := hS.m (by omega)
  have hZ := hJ.Z
  have hn5 := hJ.n
  have hC := hJ.C
  have hG := hJ.G
  have hPgA : ∀ s : Nat, (s : Int) < F 0 → Pg F s := fun s _ => hJ.Pg (fun _ _ _ => rfl)
  refine r_iload_n C rfl (lv_at hl 1 rfl) dX3_save_0 ?_
  refine r_sXn (rest := []) C K9 ht9 (k_X3_needSlot l hst g kt x (by omega)) s_RX3_263 trivial (fun hq9 => by obtain ⟨e9, n9⟩ := Kd_n hq9; have e8 : ((Kd (0 ≤ x ∧ x ≤ 1)) : Int) = 1 := (by exact if_neg (by omega)); (first | rw [e9, e8] | rw [e9]); exact ⟨by decide, rfl⟩) hl.1 rfl ⟨by decide, by decide⟩ rfl (Nat.le_of_ble_eq_true rfl) ⟨by decide, by decide⟩ ⟨by decide, by decide⟩ dX3_save_1 (fun x1 => ?_)
  have v2 := Kd_0.mp x1
  refine r_aload_n C rfl (lv_at hl 0 rfl) dX3_save_4 ?_
  refine r_get C (ci := 3) (v := .ref (b + 305)) rfl uin3 hb.o 3 (by decide) q_140 rfl rfl dX3_save_5 ?_
  refine r_iload_n C rfl (lv_at hl 1 rfl) dX3_save_8 ?_
  refine r_aaldq (v := b + 367 + 20 * k) C hsl k (by omega) (by omega) (by omega) rfl dX3_save_9 ?_
  refine r_aload_n C rfl (lv_at hl 0 rfl) dX3_save_10 ?_
  refine r_get C (ci := 3) (v := .ref (b + 3)) rfl uin3 hb.o 1 (by decide) q_138 rfl rfl dX3_save_11 ?_
  refine r_vHn (rest := []) C (k_X0_become l g (b + 367 + 20 * k) (fun z => KEP (262 * k + z)) (b + 3) F (by omega)) s_RX3_76 ⟨hsf k (by omega), hd⟩ hF (fun q hq => by obtain ⟨h1, h2⟩ := hq; exact ⟨by omega, by omega⟩) (recv C (ci := 0) rfl (hsf k (by omega)).o) hl.1 rfl ⟨by decide, by decide⟩ rfl (Nat.le_of_ble_eq_true rfl) ⟨by decide, by decide⟩ dX3_save_14 (fun H3 locs3 h3 ho3 hz3 hF => ?_)
  have hsf := (hsf.put (i := k) (by omega) h3.1 (fun q hq => ho3 q hq)).cg (G' := fun i z => cpy KEP F (262 * k) 0 262 (262 * i + z)) kep_put
  have hd := h3.2
  have hb := hb.kept (ho3 _ (not_dvp (by omega)))
  have ht := ht.kept (ho3 _ (not_dvp (by omega)))
  have hg := hg.kept (ho3 _ (not_dvp (by omega)))
  have hh := hh.kept (ho3 _ (not_dvp (by omega)))
  have hq := hq.kept (ho3 _ (not_dvp (by omega)))
  have hm := hm.kept (fun q h1 h2 => ho3 _ (not_dvp (by omega)))
  have hsl := hsl.kept (ho3 _ (not_dvp (by omega)))
  have hfi := hfi.kept (ho3 _ (not_dvp (by omega)))
  have hbl := hbl.kept (fun q h1 h2 => ho3 _ (not_dvp (by omega)))
  have htr := htr.kept (fun q h1 h2 => ho3 _ (not_dvp (by omega)))
  have hgu := hgu.kept (fun q h1 h2 => ho3 _ (not_dvp (by omega)))
  refine r_aload_n C rfl (lv_at hl 0 rfl) dX3_save_17 ?_
  refine r_get C (ci := 3) (v := .ref (b + 306)) rfl uin3 hb.o 4 (by decide) q_141 rfl rfl dX3_save_18 ?_
  refine r_iload_n C rfl (lv_at hl 1 rfl) dX3_save_21 ?_
  refine r_iconst C dX3_save_22 ?_
  refine r_zast C hfi hF (is_cdp (by omega)) k (by omega) (by omega) (by omega) rfl dX3_save_23 (fun H4 locs4 h4 ho4 hz4 hF => ?_)
  have hb := hb.kept (ho4 _ (by omega))
  have ht := ht.kept (ho4 _ (by omega))
  have hg := hg.kept (ho4 _ (by omega))
  have hd := hd.kept (fun q h1 h2 => ho4 _ (by omega))
  have hh := hh.kept (ho4 _ (by omega))
  have hq := hq.kept (ho4 _ (by omega))
  have hm := hm.kept (fun q h1 h2 => ho4 _ (by omega))
  have hsl := hsl.kept (ho4 _ (by omega))
  have hbl := hbl.kept (fun q h1 h2 => ho4 _ (by omega))
  have htr := htr.kept (fun q h1 h2 => ho4 _ (by omega))
  have hgu := hgu.kept (fun q h1 h2 => ho4 _ (by omega))
  have hsf := hsf.kept (fun q h1 h2 => ho4 _ (by omega))
  have hfi := h4
  refine r_aload_n C rfl (lv_at hl 0 rfl) dX3_save_24 ?_
  refine r_get C (ci := 3) (v := .ref (b + 3)) rfl uin3 hb.o 1 (by decide) q_138 rfl rfl dX3_save_25 ?_
  refine r_vPi (rest := []) C (k_X0_pagesOfAll l g (b + 3) F hSm hZ) s_RX3_255 hd (recv C (ci := 0) rfl hd.o) hl.1 rfl ⟨by decide, by decide⟩ rfl (Nat.le_of_ble_eq_true rfl) ⟨by decide, by decide⟩ dX3_save_28 ?_
  have b5 := tkA_b hSm
  have hK0 : ((Kd (0 ≤ x ∧ x ≤ 1)) : Int) = 0 := (by exact if_pos (by omega))
  exact r_iretX C rfl rfl (congrArg iI (by rfl)) hF hK0 (by exact ⟨first, G, TR, GU, hRG, hb, ht, hg, hd, hh, hq, hm, hsl, hfi, hbl, htr, hgu, hsf⟩) (by decide) (by decide) dX3_save_31

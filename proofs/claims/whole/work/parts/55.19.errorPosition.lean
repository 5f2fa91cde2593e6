theorem s_RX3_71 : SiteV "LentRoom" 71 "LentRoom$Text" yX2_firstError cX2_firstError 4 (some .int) 0 := ⟨⟨q_175, q_176, q_177, q_31, q_178⟩, rfl, by decide, by decide, by decide +kernel⟩
set_option maxHeartbeats 4000000 in
theorem k_X3_errorPosition (l : Launch) (g : Gt) (kt : Kt) (b : Nat) (sz ac : Int) (TX F DIA KEP ISK : Nat → Int) (T : Int) (hJ : J F z0 T) (hT : T ≤ 900000) (TX : Nat → Int) (hTX : ∀ k : Nat, k < 120 → 0 ≤ TX k ∧ TX k ≤ 255) (n : Nat) (hsz : sz = (n : Int)) (hn : n ≤ 120)  : CK l yX3_errorPosition cX3_errorPosition 1 (some .int) 5 112 g kt [.ref b] (CW g b sz ac TX F DIA KEP ISK) (some (.int (iI (txE TX n)))) := by
  refine ck_of "LentRoom" (by decide) rfl (Nat.le_of_ble_eq_true rfl) ?_
  intro zp ze zs zm za zb zt zc ls C K9 hP hl
  obtain ⟨first, G, TR, GU, hRG, hb, ht, hg, hd, hh, hq, hm, hsl, hfi, hbl, htr, hgu, hsf⟩ := hP
  have hac9 := hRG.1
  have hfi9 := hRG.2.1
  have ht : txAt g (b + 1) (n : Int) zs.heap := hsz ▸ ht
  have hl : lv_has ls 1 [(0, .ref b)] := hl
  refine r_aload_n C rfl (lv_at hl 0 rfl) dX3_errorPosition_0 ?_
  refine r_get C (ci := 3) (v := .ref (b + 1)) rfl uin3 hb.o 0 (by decide) q_137 rfl rfl dX3_errorPosition_1 ?_
  refine r_vKi (rest := []) C K9 (k_X2_firstError l g kt (b + 1) n TX hTX hn) s_RX3_71 ⟨ht, hg⟩ (recv C (ci := 2) rfl ht.o) hl.1 rfl ⟨by decide, by decide⟩ rfl (Nat.le_of_ble_eq_true rfl) ⟨Nat.le_refl 0, Nat.le_refl 0⟩ dX3_errorPosition_4 ?_
  have b1 := feR_b TX n 121 0 [68] (by omega)
  exact r_iretP C rfl rfl (congrArg iI (by exact (txE_fe hn).symm)) dX3_errorPosition_7

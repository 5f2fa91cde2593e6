theorem s_RX3_117 : SiteV "LentRoom" 117 "LentRoom$Device" yX0_numberOfAll cX0_numberOfAll 2 (some .int) 1 := ⟨⟨q_497, q_498, q_499, q_32, q_500⟩, rfl, by decide, by decide, by decide +kernel⟩
set_option maxHeartbeats 4000000 in
theorem k_X3_about (l : Launch) (hst : l.stackTraces = false) (g : Gt) (kt : Kt) (b : Nat) (sz ac : Int) (TX F DIA KEP ISK : Nat → Int) (T : Int) (hJ : J F z0 T) (hT : T ≤ 900000) (x : Int) (hx : Rg x) : XM l yX3_about cX3_about 2 (some .int) 6 90 1 g kt [.ref b, .int (iI x)] (CW g b sz ac TX F DIA KEP ISK) (Kd (0 ≤ x ∧ x ≤ 8)) [eIA] (some (.int (iI (nAll F x)))) (Cdp b) (CW g b sz ac TX F DIA KEP ISK) := by
  refine xm_of "LentRoom" (by decide) rfl (Nat.le_of_ble_eq_true rfl) ?_
  intro zp ze zs zm za zb zt zc ls C K9 ht9 hP hF hl
  obtain ⟨first, G, TR, GU, hRG, hb, ht, hg, hd, hh, hq, hm, hsl, hfi, hbl, htr, hgu, hsf⟩ := hP
  have hac9 := hRG.1
  have hfi9 := hRG.2.1
  have hl : lv_has ls 2 [(0, .ref b), (1, .int (iI x))] := hl
  have hS := hJ.S
  have hSm : Sm F := hS.m (by omega)
  have hZ := hJ.Z
  have hn5 := hJ.n
  have hC := hJ.C
  have hG := hJ.G
  have hPgA : ∀ s : Nat, (s : Int) < F 0 → Pg F s := fun s _ => hJ.Pg (fun _ _ _ => rfl)
  refine r_iload_n C rfl (lv_at hl 1 rfl) dX3_about_0 ?_
  refine r_if_lt (tgt := 10) C (by decide) (by omega) dX3_about_1 (fun c1 => ?_) (fun c1 => ?_)
  · exact r_throw (text := "no such number") C hst K9 ht9 rfl th_IA (by decide +kernel) (by rw [show ((Kd (0 ≤ x ∧ x ≤ 8)) : Int) = 1 from (by exact if_neg (by omega))]; decide) (by rw [show ((Kd (0 ≤ x ∧ x ≤ 8)) : Int) = 1 from (by exact if_neg (by omega))]; rfl) hl.1 dX3_about_10 dX3_about_13 dX3_about_14 dX3_about_16 dX3_about_19 (by decide) (Nat.le_of_ble_eq_true rfl) ⟨by decide, by decide⟩ ⟨by decide, by decide⟩
  · refine r_iload_n C rfl (lv_at hl 1 rfl) dX3_about_4 ?_
    refine r_bipush C (by decide) dX3_about_5 ?_
    refine r_icmp_le (tgt := 20) C (by decide) (by omega) (by decide) dX3_about_7 (fun c2 => ?_) (fun c2 => ?_)
    · refine r_aload_n C rfl (lv_at hl 0 rfl) dX3_about_20 ?_
      refine r_get C (ci := 3) (v := .ref (b + 3)) rfl uin3 hb.o 1 (by decide) q_138 rfl rfl dX3_about_21 ?_
      refine r_iload_n C rfl (lv_at hl 1 rfl) dX3_about_24 ?_
      refine r_vPi (rest := []) C (k_X0_numberOfAll l g (b + 3) F hSm hZ x (by omega)) s_RX3_117 hd (recv C (ci := 0) rfl hd.o) hl.1 rfl ⟨by decide, by decide⟩ rfl (Nat.le_of_ble_eq_true rfl) ⟨by decide, by decide⟩ dX3_about_25 ?_
      have hK0 : ((Kd (0 ≤ x ∧ x ≤ 8)) : Int) = 0 := (by exact if_pos (by omega))
      exact r_iretX C rfl rfl (congrArg iI (by rfl)) hF hK0 (by exact ⟨first, G, TR, GU, hRG, hb, ht, hg, hd, hh, hq, hm, hsl, hfi, hbl, htr, hgu, hsf⟩) (by decide) (by decide) dX3_about_28
    · exact r_throw (text := "no such number") C hst K9 ht9 rfl th_IA (by decide +kernel) (by rw [show ((Kd (0 ≤ x ∧ x ≤ 8)) : Int) = 1 from (by exact if_neg (by omega))]; decide) (by rw [show ((Kd (0 ≤ x ∧ x ≤ 8)) : Int) = 1 from (by exact if_neg (by omega))]; rfl) hl.1 dX3_about_10 dX3_about_13 dX3_about_14 dX3_about_16 dX3_about_19 (by decide) (Nat.le_of_ble_eq_true rfl) ⟨by decide, by decide⟩ ⟨by decide, by decide⟩

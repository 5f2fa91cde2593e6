theorem s_RX3_223 : SiteV "LentRoom" 223 "LentRoom$Device" yX0_smallestFloor cX0_smallestFloor 2 (some .int) 1 := ⟨⟨q_720, q_482, q_483, q_32, q_484⟩, rfl, by decide, by decide, by decide +kernel⟩
set_option maxHeartbeats 4000000 in
theorem k_X3_leastFloor (l : Launch) (hst : l.stackTraces = false) (g : Gt) (kt : Kt) (b : Nat) (sz ac : Int) (TX F DIA KEP ISK : Nat → Int) (T : Int) (hJ : J F z0 T) (hT : T ≤ 900000) (x : Int) (hx : Rg x) (s : Nat) (hs : 0 ≤ x → x = (s : Int)) : XM l yX3_leastFloor cX3_leastFloor 2 (some .int) 7 111 1 g kt [.ref b, .int (iI x)] (CW g b sz ac TX F DIA KEP ISK) (Kd (0 ≤ x ∧ x < F 0)) [eIB] (some (.int (iI (F (2 + 52 * s + 0) - idle F s)))) (Cdp b) (CW g b sz ac TX F DIA KEP ISK) := by
  refine xm_of "LentRoom" (by decide) rfl (Nat.le_of_ble_eq_true rfl) ?_
  intro zp ze zs zm za zb zt zc ls C K9 ht9 hP hF hl
  obtain ⟨first, G, TR, GU, hRG, hb, ht, hg, hd, hh, hq, hm, hsl, hfi, hbl, htr, hgu, hsf⟩ := hP
  have hac9 := hRG.1
  have hfi9 := hRG.2.1
  have hl : lv_has ls 2 [(0, .ref b), (1, .int (iI x))] := hl
  have hS := hJ.S
  have hSm : Sm F := hS.m (by omega)
  have hZ := hJ.Z
  have hn5 := hJ.n
  have hC := hJ.C
  have hG := hJ.G
  have hPgA : ∀ s : Nat, (s : Int) < F 0 → Pg F s := fun s _ => hJ.Pg (fun _ _ _ => rfl)
  refine r_aload_n C rfl (lv_at hl 0 rfl) dX3_leastFloor_0 ?_
  refine r_iload_n C rfl (lv_at hl 1 rfl) dX3_leastFloor_1 ?_
  refine r_vXn (rest := []) C K9 ht9 (k_X3_needSpace l hst g kt b F hSm x (by omega)) s_RX3_121 ⟨hb, hd⟩ (recv C (ci := 3) rfl hb.o) (fun hq9 => by obtain ⟨e9, n9⟩ := Kd_n hq9; have e8 : ((Kd (0 ≤ x ∧ x < F 0)) : Int) = 1 := (by exact if_neg (by omega)); (first | rw [e9, e8] | rw [e9]); exact ⟨by decide, rfl⟩) hl.1 rfl ⟨by decide, by decide⟩ rfl (Nat.le_of_ble_eq_true rfl) ⟨by decide, by decide⟩ ⟨by decide, by decide⟩ dX3_leastFloor_2 (fun x1 => ?_)
  have v2 := Kd_0.mp x1
  refine r_aload_n C rfl (lv_at hl 0 rfl) dX3_leastFloor_5 ?_
  refine r_get C (ci := 3) (v := .ref (b + 3)) rfl uin3 hb.o 1 (by decide) q_138 rfl rfl dX3_leastFloor_6 ?_
  refine r_iload_n C rfl (lv_at hl 1 rfl) dX3_leastFloor_9 ?_
  refine r_vPi (rest := []) C (k_X0_smallestFloor l g (b + 3) F hSm x s (by omega) (by omega)) s_RX3_223 hd (recv C (ci := 0) rfl hd.o) hl.1 rfl ⟨by decide, by decide⟩ rfl (Nat.le_of_ble_eq_true rfl) ⟨by decide, by decide⟩ dX3_leastFloor_10 ?_
  have b3 := idle_b hSm s (by omega)
  have b4 := hSm.f s 0 (by omega) (by omega)
  have hK0 : ((Kd (0 ≤ x ∧ x < F 0)) : Int) = 0 := (by exact if_pos (by omega))
  exact r_iretX C rfl rfl (congrArg iI (by rfl)) hF hK0 (by exact ⟨first, G, TR, GU, hRG, hb, ht, hg, hd, hh, hq, hm, hsl, hfi, hbl, htr, hgu, hsf⟩) (by decide) (by decide) dX3_leastFloor_13

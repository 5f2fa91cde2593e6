theorem s_RX3_121 : SiteV "LentRoom" 121 "LentRoom" yX3_needSpace cX3_needSpace 2 none 1 := ⟨⟨q_525, q_527, q_9, q_30, q_528⟩, rfl, by decide, by decide, by decide +kernel⟩
theorem s_RX3_128 : SiteV "LentRoom" 128 "LentRoom$Device" yX0_countOf cX0_countOf 3 (some .int) 2 := ⟨⟨q_554, q_555, q_556, q_32, q_557⟩, rfl, by decide, by decide, by decide +kernel⟩
theorem s_RX3_125 : SiteV "LentRoom" 125 "LentRoom$Device" yX0_sizeOf cX0_sizeOf 3 (some .int) 2 := ⟨⟨q_546, q_547, q_548, q_32, q_549⟩, rfl, by decide, by decide, by decide +kernel⟩
set_option maxHeartbeats 4000000 in
theorem k_X3_space (l : Launch) (hst : l.stackTraces = false) (g : Gt) (kt : Kt) (b : Nat) (sz ac : Int) (TX F DIA KEP ISK : Nat → Int) (T : Int) (hJ : J F z0 T) (hT : T ≤ 900000) (x : Int) (hx : Rg x) (s : Nat) (hs : 0 ≤ x → x = (s : Int)) (y : Int) (hy : Rg y) : XM l yX3_space cX3_space 3 (some .int) 7 111 2 g kt [.ref b, .int (iI x), .int (iI y)] (CW g b sz ac TX F DIA KEP ISK) (if ¬ (0 ≤ x ∧ x < F 0) then 1 else if ¬ (0 ≤ y ∧ y ≤ 10) then 2 else 0) [eIB, eIA] (some (.int (iI (nOf F s y)))) (Cdp b) (CW g b sz ac TX F DIA KEP ISK) := by
  refine xm_of "LentRoom" (by decide) rfl (Nat.le_of_ble_eq_true rfl) ?_
  intro zp ze zs zm za zb zt zc ls C K9 ht9 hP hF hl
  obtain ⟨first, G, TR, GU, hRG, hb, ht, hg, hd, hh, hq, hm, hsl, hfi, hbl, htr, hgu, hsf⟩ := hP
  have hac9 := hRG.1
  have hfi9 := hRG.2.1
  have hl : lv_has ls 3 [(0, .ref b), (1, .int (iI x)), (2, .int (iI y))] := hl
  have hS := hJ.S
  have hSm : Sm F := hS.m (by omega)
  have hZ := hJ.Z
  have hn5 := hJ.n
  have hC := hJ.C
  have hG := hJ.G
  have hPgA : ∀ s : Nat, (s : Int) < F 0 → Pg F s := fun s _ => hJ.Pg (fun _ _ _ => rfl)
  refine r_aload_n C rfl (lv_at hl 0 rfl) dX3_space_0 ?_
  refine r_iload_n C rfl (lv_at hl 1 rfl) dX3_space_1 ?_
  refine r_vXn (rest := []) C K9 ht9 (k_X3_needSpace l hst g kt b F hSm x (by omega)) s_RX3_121 ⟨hb, hd⟩ (recv C (ci := 3) rfl hb.o) (fun hq9 => by obtain ⟨e9, n9⟩ := Kd_n hq9; have e8 : ((if ¬ (0 ≤ x ∧ x < F 0) then 1 else if ¬ (0 ≤ y ∧ y ≤ 10) then 2 else 0) : Int) = 1 := (by (repeat' split) <;> omega); (first | rw [e9, e8] | rw [e9]); exact ⟨by decide, rfl⟩) hl.1 rfl ⟨by decide, by decide⟩ rfl (Nat.le_of_ble_eq_true rfl) ⟨by decide, by decide⟩ ⟨by decide, by decide⟩ dX3_space_2 (fun x1 => ?_)
  have v2 := Kd_0.mp x1
  refine r_iload_n C rfl (lv_at hl 2 rfl) dX3_space_5 ?_
  refine r_if_lt (tgt := 15) C (by decide) (by omega) dX3_space_6 (fun c3 => ?_) (fun c3 => ?_)
  · exact r_throw (text := "no such number") C hst K9 ht9 rfl th_IA (by decide +kernel) (by rw [show ((if ¬ (0 ≤ x ∧ x < F 0) then 1 else if ¬ (0 ≤ y ∧ y ≤ 10) then 2 else 0) : Int) = 2 from (by (repeat' split) <;> omega)]; decide) (by rw [show ((if ¬ (0 ≤ x ∧ x < F 0) then 1 else if ¬ (0 ≤ y ∧ y ≤ 10) then 2 else 0) : Int) = 2 from (by (repeat' split) <;> omega)]; rfl) hl.1 dX3_space_15 dX3_space_18 dX3_space_19 dX3_space_21 dX3_space_24 (by decide) (Nat.le_of_ble_eq_true rfl) ⟨by decide, by decide⟩ ⟨by decide, by decide⟩
  · refine r_iload_n C rfl (lv_at hl 2 rfl) dX3_space_9 ?_
    refine r_bipush C (by decide) dX3_space_10 ?_
    refine r_icmp_le (tgt := 25) C (by decide) (by omega) (by decide) dX3_space_12 (fun c4 => ?_) (fun c4 => ?_)
    · refine r_iload_n C rfl (lv_at hl 2 rfl) dX3_space_25 ?_
      refine r_bipush C (by decide) dX3_space_26 ?_
      refine r_icmp_ge (tgt := 43) C (by decide) (by omega) (by decide) dX3_space_28 (fun c5 => ?_) (fun c5 => ?_)
      · refine r_aload_n C rfl (lv_at hl 0 rfl) dX3_space_43 ?_
        refine r_get C (ci := 3) (v := .ref (b + 3)) rfl uin3 hb.o 1 (by decide) q_138 rfl rfl dX3_space_44 ?_
        refine r_iload_n C rfl (lv_at hl 1 rfl) dX3_space_47 ?_
        refine r_iload_n C rfl (lv_at hl 2 rfl) dX3_space_48 ?_
        refine r_vPi (rest := []) C (k_X0_countOf l g (b + 3) F hSm x s (by omega) (by omega) y (by omega)) s_RX3_128 hd (recv C (ci := 0) rfl hd.o) hl.1 rfl ⟨by decide, by decide⟩ rfl (Nat.le_of_ble_eq_true rfl) ⟨by decide, by decide⟩ dX3_space_49 ?_
        have hK0 : ((if ¬ (0 ≤ x ∧ x < F 0) then 1 else if ¬ (0 ≤ y ∧ y ≤ 10) then 2 else 0) : Int) = 0 := (by (repeat' split) <;> omega)
        exact r_iretX C rfl rfl (congrArg iI (by rfl)) hF hK0 (by exact ⟨first, G, TR, GU, hRG, hb, ht, hg, hd, hh, hq, hm, hsl, hfi, hbl, htr, hgu, hsf⟩) (by decide) (by decide) dX3_space_52
      · refine r_aload_n C rfl (lv_at hl 0 rfl) dX3_space_31 ?_
        refine r_get C (ci := 3) (v := .ref (b + 3)) rfl uin3 hb.o 1 (by decide) q_138 rfl rfl dX3_space_32 ?_
        refine r_iload_n C rfl (lv_at hl 1 rfl) dX3_space_35 ?_
        refine r_iload_n C rfl (lv_at hl 2 rfl) dX3_space_36 ?_
        refine r_vPi (rest := []) C (k_X0_sizeOf l g (b + 3) F hSm x s (by omega) (by omega) y (by omega)) s_RX3_125 hd (recv C (ci := 0) rfl hd.o) hl.1 rfl ⟨by decide, by decide⟩ rfl (Nat.le_of_ble_eq_true rfl) ⟨by decide, by decide⟩ dX3_space_37 ?_
        refine r_goto (tgt := 52) C (by decide) dX3_space_40 ?_
        have hK0 : ((if ¬ (0 ≤ x ∧ x < F 0) then 1 else if ¬ (0 ≤ y ∧ y ≤ 10) then 2 else 0) : Int) = 0 := (by (repeat' split) <;> omega)
        exact r_iretX C rfl rfl (congrArg iI (by rfl)) hF hK0 (by exact ⟨first, G, TR, GU, hRG, hb, ht, hg, hd, hh, hq, hm, hsl, hfi, hbl, htr, hgu, hsf⟩) (by decide) (by decide) dX3_space_52
    · exact r_throw (text := "no such number") C hst K9 ht9 rfl th_IA (by decide +kernel) (by rw [show ((if ¬ (0 ≤ x ∧ x < F 0) then 1 else if ¬ (0 ≤ y ∧ y ≤ 10) then 2 else 0) : Int) = 2 from (by (repeat' split) <;> omega)]; decide) (by rw [show ((if ¬ (0 ≤ x ∧ x < F 0) then 1 else if ¬ (0 ≤ y ∧ y ≤ 10) then 2 else 0) : Int) = 2 from (by (repeat' split) <;> omega)]; rfl) hl.1 dX3_space_15 dX3_space_18 dX3_space_19 dX3_space_21 dX3_space_24 (by decide) (Nat.le_of_ble_eq_true rfl) ⟨by decide, by decide⟩ ⟨by decide, by decide⟩

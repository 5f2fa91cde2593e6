set_option maxHeartbeats 4000000 in
theorem k_X3_loans (l : Launch) (hst : l.stackTraces = false) (g : Gt) (kt : Kt) (b : Nat) (sz ac : Int) (TX F DIA KEP ISK : Nat → Int) (T : Int) (hJ : J F z0 T) (hT : T ≤ 900000) (x y : Int) (hx : Rg x) (hy : Rg y) (s k : Nat) (hs : 0 ≤ x → x = (s : Int)) (hk : 0 ≤ y → y = (k : Int)) : XM l yX3_loans cX3_loans 3 (some .int) 7 111 2 g kt [.ref b, .int (iI x), .int (iI y)] (CW g b sz ac TX F DIA KEP ISK) (Kd ((0 ≤ x ∧ x < F 0) ∧ (0 ≤ y ∧ y < F 0))) [eIB] (some (.int (iI (F (2 + 52 * s + (7 + k)))))) (Cdp b) (CW g b sz ac TX F DIA KEP ISK) := by
  refine xm_of "LentRoom" (by decide) rfl (Nat.le_of_ble_eq_true rfl) ?_
  intro zp ze zs zm za zb zt zc ls C K9 ht9 hP hF hl
  obtain ⟨first, G, TR, GU, hRG, hb, ht, hg, hd, hh, hq, hm, hsl, hfi, hbl, htr, hgu, hsf⟩ := hP
  have hac9 := hRG.1
  have hfi9 := hRG.2.1
  have hl : lv_has ls 3 [(0, .ref b), (1, .int (iI x)), (2, .int (iI y))] := hl
  have hS := hJ.S
  have hSm : Sm F := hS.m (by omega)
  have hZ := hJ.Z
  have hn5 := hJ.n
  have hC := hJ.C
  have hG := hJ.G
  have hPgA : ∀ s : Nat, (s : Int) < F 0 → Pg F s := fun s _ => hJ.Pg (fun _ _ _ => rfl)
  refine r_aload_n C rfl (lv_at hl 0 rfl) dX3_loans_0 ?_
  refine r_iload_n C rfl (lv_at hl 1 rfl) dX3_loans_1 ?_
  refine r_vXn (rest := []) C K9 ht9 (k_X3_needSpace l hst g kt b F hSm x (by omega)) s_RX3_121 ⟨hb, hd⟩ (recv C (ci := 3) rfl hb.o) (fun hq9 => by obtain ⟨e9, n9⟩ := Kd_n hq9; have e8 : ((Kd ((0 ≤ x ∧ x < F 0) ∧ (0 ≤ y ∧ y < F 0))) : Int) = 1 := (by exact if_neg (by omega)); (first | rw [e9, e8] | rw [e9]); exact ⟨by decide, rfl⟩) hl.1 rfl ⟨by decide, by decide⟩ rfl (Nat.le_of_ble_eq_true rfl) ⟨by decide, by decide⟩ ⟨by decide, by decide⟩ dX3_loans_2 (fun x1 => ?_)
  have v2 := Kd_0.mp x1
  refine r_aload_n C rfl (lv_at hl 0 rfl) dX3_loans_5 ?_
  refine r_iload_n C rfl (lv_at hl 2 rfl) dX3_loans_6 ?_
  refine r_vXn (rest := []) C K9 ht9 (k_X3_needSpace l hst g kt b F hSm y (by omega)) s_RX3_121 ⟨hb, hd⟩ (recv C (ci := 3) rfl hb.o) (fun hq9 => by obtain ⟨e9, n9⟩ := Kd_n hq9; have e8 : ((Kd ((0 ≤ x ∧ x < F 0) ∧ (0 ≤ y ∧ y < F 0))) : Int) = 1 := (by exact if_neg (by omega)); (first | rw [e9, e8] | rw [e9]); exact ⟨by decide, rfl⟩) hl.1 rfl ⟨by decide, by decide⟩ rfl (Nat.le_of_ble_eq_true rfl) ⟨by decide, by decide⟩ ⟨by decide, by decide⟩ dX3_loans_7 (fun x3 => ?_)
  have v4 := Kd_0.mp x3
  refine r_aload_n C rfl (lv_at hl 0 rfl) dX3_loans_10 ?_
  refine r_get C (ci := 3) (v := .ref (b + 3)) rfl uin3 hb.o 1 (by decide) q_138 rfl rfl dX3_loans_11 ?_
  refine r_get C (ci := 0) (v := .ref (b + 3 + 5)) rfl uin0 hd.o 6 (by decide) q_88 rfl rfl dX3_loans_14 ?_
  refine r_iload_n C rfl (lv_at hl 1 rfl) dX3_loans_17 ?_
  refine r_aaldr (v := b + 3 + 6 + s) C hd.rl s (by omega) (by omega) (by omega) rfl dX3_loans_18 ?_
  refine r_iload_n C rfl (lv_at hl 2 rfl) dX3_loans_19 ?_
  refine r_iald (v := F (2 + 52 * s + (7 + k))) C (hd.l s (by omega)) k (by omega) (by omega) (by omega) rfl dX3_loans_20 ?_
  have b5 := hSm.1 (2 + 52 * s + (7 + k)) (by omega)
  have hK0 : ((Kd ((0 ≤ x ∧ x < F 0) ∧ (0 ≤ y ∧ y < F 0))) : Int) = 0 := (by exact if_pos (by omega))
  exact r_iretX C rfl rfl (congrArg iI (by first | rfl | omega)) hF hK0 (by exact ⟨first, G, TR, GU, hRG, hb, ht, hg, hd, hh, hq, hm, hsl, hfi, hbl, htr, hgu, hsf⟩) (by decide) (by decide) dX3_loans_21

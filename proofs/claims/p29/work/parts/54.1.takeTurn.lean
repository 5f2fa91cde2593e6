set_option maxHeartbeats 4000000 in
theorem k_X3_takeTurn (l : Launch) (g : Gt) (b : Nat) (F : Nat → Int) (T : Int) (hJ : J F z0 T) (h60 : 60 ≤ T) (hT : T ≤ 950000) (r : Int) (hr : 0 ≤ r ∧ r < 2147483648) : CH l yX3_takeTurn cX3_takeTurn 5 none 5 117 g [.ref b, .int (iI r)] (fun H => lrAt g b H ∧ dvAt g (b + 327) F H) (none) (Dvp (b + 327)) (fun H => lrAt g b H ∧ dvAt g (b + 327) (tuF r F) H) := by
  refine ch_of "LentRoom" (by decide) rfl (Nat.le_of_ble_eq_true rfl) ?_
  intro zp ze zs zm za zb zt zc ls C hP hF hl
  obtain ⟨hb, htr⟩ := hP
  have hl : lv_has ls 5 [(0, .ref b), (1, .int (iI r))] := hl
  have hS := hJ.S
  have hSm : Sm F := hS.m (by omega)
  have hZ := hJ.Z
  have hn5 := hJ.n
  have hC := hJ.C
  have hG := hJ.G
  have hPgA : ∀ s : Nat, (s : Int) < F 0 → Pg F s := fun s _ => hJ.Pg (fun _ _ _ => rfl)
  have hts := tuS_b r F hn5.1
  refine r_iload_n C rfl (lv_at hl 1 rfl) dX3_takeTurn_0 ?_
  refine r_bipush C (by decide) dX3_takeTurn_1 ?_
  refine r_idiv C (by omega) (by omega) dX3_takeTurn_3 ?_
  refine r_iconst C dX3_takeTurn_4 ?_
  refine r_aload_n C rfl (lv_at hl 0 rfl) dX3_takeTurn_5 ?_
  refine r_get C (ci := 3) (v := .ref (b + 327)) rfl uin3 hb.o 6 (by decide) q_143 rfl rfl dX3_takeTurn_6 ?_
  refine r_get C (ci := 0) (v := .int (iI (F 0))) rfl uin0 htr.o 0 (by decide) q_79 rfl rfl dX3_takeTurn_9 ?_
  have b1 := hSm.1 0 (by omega)
  have b2 := hSm.2
  refine r_max C hl.1 q_756 q_757 q_44 q_758 (by omega) (by omega) (by decide) (Nat.le_of_ble_eq_true rfl) (Nat.le_refl 0) (Nat.le_refl 0) dX3_takeTurn_12 ?_
  rw [show (if (1 : Int) < F 0 then F 0 else 1) = (if F 0 = 0 then 1 else F 0) from (by split <;> split <;> omega)]
  have hmx : 1 ≤ (if F 0 = 0 then 1 else F 0) ∧ (if F 0 = 0 then 1 else F 0) ≤ 5 := (by split <;> omega)
  refine r_irem C (by omega) (by omega) dX3_takeTurn_15 ?_
  rw [show (r / 16) % (if F 0 = 0 then 1 else F 0) = tuS r F from rfl]
  refine r_istore_n (lv' := [(2, .int (iI (tuS r F))), (0, .ref b), (1, .int (iI r))]) C rfl hl (by decide) rfl dX3_takeTurn_16 (fun ls hl => ?_)
  refine r_iload_n C rfl (lv_at hl 2 rfl) dX3_takeTurn_17 ?_
  refine r_sipush C (by decide) dX3_takeTurn_18 ?_
  refine r_idiv C (by omega) (by omega) dX3_takeTurn_21 ?_
  refine r_bipush C (by decide) dX3_takeTurn_22 ?_
  refine r_irem C (by omega) (by omega) dX3_takeTurn_24 ?_
  refine r_istore_n (lv' := [(3, .int (iI ((r / 128) % 40))), (2, .int (iI (tuS r F))), (0, .ref b), (1, .int (iI r))]) C rfl hl (by decide) rfl dX3_takeTurn_25 (fun ls hl => ?_)
  refine r_iload_n C rfl (lv_at hl 3 rfl) dX3_takeTurn_26 ?_
  refine r_bipush C (by decide) dX3_takeTurn_27 ?_
  refine r_irem C (by omega) (by omega) dX3_takeTurn_29 ?_
  refine r_istore (lv' := [(4, .int (iI (r % 16))), (3, .int (iI ((r / 128) % 40))), (2, .int (iI (tuS r F))), (0, .ref b), (1, .int (iI r))]) C hl (by decide) rfl dX3_takeTurn_30 (fun ls hl => ?_)
  refine r_iload C (lv_at hl 0 rfl) dX3_takeTurn_32 ?_
  refine r_if_ne (tgt := 66) C (by decide) (by omega) dX3_takeTurn_34 (fun c3 => ?_) (fun c3 => ?_)
  · refine r_iload C (lv_at hl 0 rfl) dX3_takeTurn_66 ?_
    refine r_iconst C dX3_takeTurn_68 ?_
    refine r_icmp_ne (tgt := 92) C (by decide) (by omega) (by decide) dX3_takeTurn_69 (fun c4 => ?_) (fun c4 => ?_)
    · refine r_iload C (lv_at hl 0 rfl) dX3_takeTurn_92 ?_
      refine r_iconst C dX3_takeTurn_94 ?_
      refine r_icmp_ge (tgt := 111) C (by decide) (by omega) (by decide) dX3_takeTurn_95 (fun c5 => ?_) (fun c5 => ?_)
      · refine r_aload_n C rfl (lv_at hl 3 rfl) dX3_takeTurn_111 ?_
        refine r_get C (ci := 3) (v := .ref (b + 327)) rfl uin3 hb.o 6 (by decide) q_143 rfl rfl dX3_takeTurn_112 ?_
        refine r_iload_n C rfl (lv_at hl 2 rfl) dX3_takeTurn_115 ?_
        refine r_iload_n C rfl (lv_at hl 1 rfl) dX3_takeTurn_116 ?_
        refine r_vHi (rest := []) C (k_X0_putPage l g (b + 327) F T hS (by omega) hZ hG hPgA (tuS r F) ((r / 128) % 40) ((tuS r F).toNat) (((r / 128) % 40).toNat) (by omega) (by omega) (by omega) (by omega)) s_RX3_105 htr hF (fun _ h => h) (recv C (ci := 0) rfl htr.o) hl.1 rfl ⟨by decide, by decide⟩ rfl (Nat.le_of_ble_eq_true rfl) ⟨Nat.le_refl 0, Nat.le_refl 0⟩ dX3_takeTurn_117 (fun H6 locs6 h6 ho6 hz6 hF => ?_)
        have hb := hb.kept (ho6 _ (not_dvp (by omega)))
        have htr := h6
        refine r_pop C rfl dX3_takeTurn_120 ?_
        have eF : tuF r F = if 0 ≤ (tuS r F) ∧ (tuS r F) < F 0 ∧ 0 ≤ ((r / 128) % 40) ∧ ((r / 128) % 40) < 40 then wrF F ((tuS r F).toNat) (((r / 128) % 40).toNat) else F := (by unfold tuF; rw [if_neg (by omega), if_neg (by omega)]; by_cases q : tuS r F < F 0; rw [if_pos q, if_pos (by omega), if_pos (by omega)]; rw [if_neg q, if_neg (by omega)])
        exact r_vretH C rfl hF (by exact ⟨hb, by rw [eF]; exact htr⟩) dX3_takeTurn_121
      · refine r_aload_n C rfl (lv_at hl 3 rfl) dX3_takeTurn_98 ?_
        refine r_get C (ci := 3) (v := .ref (b + 327)) rfl uin3 hb.o 6 (by decide) q_143 rfl rfl dX3_takeTurn_99 ?_
        refine r_iload_n C rfl (lv_at hl 2 rfl) dX3_takeTurn_102 ?_
        refine r_iload_n C rfl (lv_at hl 1 rfl) dX3_takeTurn_103 ?_
        refine r_vHi (rest := []) C (k_X0_dropPage l g (b + 327) F T hS (by omega) hC (tuS r F) ((r / 128) % 40) ((tuS r F).toNat) (((r / 128) % 40).toNat) (by omega) (by omega) (by omega) (by omega)) s_RX3_108 htr hF (fun _ h => h) (recv C (ci := 0) rfl htr.o) hl.1 rfl ⟨by decide, by decide⟩ rfl (Nat.le_of_ble_eq_true rfl) ⟨Nat.le_refl 0, Nat.le_refl 0⟩ dX3_takeTurn_104 (fun H7 locs7 h7 ho7 hz7 hF => ?_)
        have hb := hb.kept (ho7 _ (not_dvp (by omega)))
        have htr := h7
        refine r_pop C rfl dX3_takeTurn_107 ?_
        refine r_goto (tgt := 121) C (by decide) dX3_takeTurn_108 ?_
        have eF : tuF r F = if 0 ≤ (tuS r F) ∧ (tuS r F) < F 0 ∧ 0 ≤ ((r / 128) % 40) ∧ ((r / 128) % 40) < 40 ∧ 0 < F (2 + 52 * ((tuS r F).toNat) + (12 + (((r / 128) % 40).toNat))) then trF F ((tuS r F).toNat) (((r / 128) % 40).toNat) else F := (by unfold tuF; rw [if_neg (by omega), if_neg (by omega)]; by_cases q : tuS r F < F 0; rw [if_pos q, if_neg (by omega)]; exact ite_c (by omega); rw [if_neg q, if_neg (by omega)])
        exact r_vretH C rfl hF (by exact ⟨hb, by rw [eF]; exact htr⟩) dX3_takeTurn_121
    · refine r_aload_n C rfl (lv_at hl 3 rfl) dX3_takeTurn_72 ?_
      refine r_get C (ci := 3) (v := .ref (b + 327)) rfl uin3 hb.o 6 (by decide) q_143 rfl rfl dX3_takeTurn_73 ?_
      refine r_iload_n C rfl (lv_at hl 2 rfl) dX3_takeTurn_76 ?_
      refine r_iload_n C rfl (lv_at hl 4 rfl) dX3_takeTurn_77 ?_
      refine r_sipush C (by decide) dX3_takeTurn_78 ?_
      refine r_idiv C (by omega) (by omega) dX3_takeTurn_81 ?_
      refine r_bipush C (by decide) dX3_takeTurn_82 ?_
      refine r_irem C (by omega) (by omega) dX3_takeTurn_84 ?_
      refine r_vHi (rest := []) C (k_X0_changeFloor l g (b + 327) F T hS (by omega) (tuS r F) ((r / 128) % 20) ((tuS r F).toNat) (by omega) (by omega) (by omega)) s_RX3_112 htr hF (fun _ h => h) (recv C (ci := 0) rfl htr.o) hl.1 rfl ⟨by decide, by decide⟩ rfl (Nat.le_of_ble_eq_true rfl) ⟨Nat.le_refl 0, Nat.le_refl 0⟩ dX3_takeTurn_85 (fun H8 locs8 h8 ho8 hz8 hF => ?_)
      have hb := hb.kept (ho8 _ (not_dvp (by omega)))
      have htr := h8
      refine r_pop C rfl dX3_takeTurn_88 ?_
      refine r_goto (tgt := 121) C (by decide) dX3_takeTurn_89 ?_
      have eF : tuF r F = if (0 ≤ (tuS r F) ∧ (tuS r F) < F 0) ∧ okFl F ((tuS r F).toNat) ((r / 128) % 20) then up F (2 + 52 * ((tuS r F).toNat) + 0) ((r / 128) % 20) else F := (by unfold tuF; rw [if_neg (by omega), if_pos (by omega)]; exact ite_c (fl_iff (by omega)))
      exact r_vretH C rfl hF (by exact ⟨hb, by rw [eF]; exact htr⟩) dX3_takeTurn_121
  · refine r_aload_n C rfl (lv_at hl 3 rfl) dX3_takeTurn_37 ?_
    refine r_get C (ci := 3) (v := .ref (b + 327)) rfl uin3 hb.o 6 (by decide) q_143 rfl rfl dX3_takeTurn_38 ?_
    refine r_iload_n C rfl (lv_at hl 4 rfl) dX3_takeTurn_41 ?_
    refine r_bipush C (by decide) dX3_takeTurn_42 ?_
    refine r_idiv C (by omega) (by omega) dX3_takeTurn_44 ?_
    refine r_bipush C (by decide) dX3_takeTurn_45 ?_
    refine r_irem C (by omega) (by omega) dX3_takeTurn_47 ?_
    refine r_bipush C (by decide) dX3_takeTurn_48 ?_
    refine r_iload_n C rfl (lv_at hl 4 rfl) dX3_takeTurn_50 ?_
    refine r_sipush C (by decide) dX3_takeTurn_51 ?_
    refine r_idiv C (by omega) (by omega) dX3_takeTurn_54 ?_
    refine r_bipush C (by decide) dX3_takeTurn_55 ?_
    refine r_irem C (by omega) (by omega) dX3_takeTurn_57 ?_
    refine r_iadd C dX3_takeTurn_58 ?_
    refine r_vHi (rest := []) C (k_X0_addSpace l g (b + 327) F T hS (by omega) ((r / 16) % 16) (16 + ((r / 256) % 40)) (by omega) (by omega)) s_RX3_102 htr hF (fun _ h => h) (recv C (ci := 0) rfl htr.o) hl.1 rfl ⟨by decide, by decide⟩ rfl (Nat.le_of_ble_eq_true rfl) ⟨Nat.le_refl 0, Nat.le_refl 0⟩ dX3_takeTurn_59 (fun H9 locs9 h9 ho9 hz9 hF => ?_)
    have hb := hb.kept (ho9 _ (not_dvp (by omega)))
    have htr := h9
    refine r_pop C rfl dX3_takeTurn_62 ?_
    refine r_goto (tgt := 121) C (by decide) dX3_takeTurn_63 ?_
    have eF : tuF r F = if okMk F ((r / 16) % 16) (16 + ((r / 256) % 40)) then mkF F ((r / 16) % 16) (16 + ((r / 256) % 40)) else F := (by unfold tuF; rw [if_pos (by omega)]; exact ite_c (mk_iff hn5))
    exact r_vretH C rfl hF (by exact ⟨hb, by rw [eF]; exact htr⟩) dX3_takeTurn_121

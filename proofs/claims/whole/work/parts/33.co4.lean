theorem s_RX4_196 : SiteV "LentRoomModel" 196 "LentRoomModel" yX4_command cX4_command 6 (some .boolean) 4 := ⟨⟨q_1055, q_1057, q_27, q_34, q_1058⟩, rfl, by decide, by decide, by decide +kernel⟩
set_option maxHeartbeats 4000000 in
theorem k_X4_runScript (l : Launch) (g : Gt) (mb : Nat) (rf sz ac : Int) (TX F DIA KEP ISK : Nat → Int) (T : Int) (hJ : J F z0 T) (hT : T ≤ 900000) (c v : Int) (hc : Rg c) (hv : RgL v) (k : Nat) (hk : 0 ≤ c → c = (k : Int)) : CH l yX4_runScript cX4_runScript 8 (some .int) 10 232 g [.ref mb, .int (iI c), .long (iL v)] (MW g mb rf sz ac TX F DIA KEP ISK) (some (.int (iI (if (Kd ((1 ≤ c ∧ c ≤ 3) ∧ (0 ≤ v ∧ v < pw k))) = 0 then sgR v k F k 0 else 0)))) (Mdp mb) (fun H => ((Kd ((1 ≤ c ∧ c ≤ 3) ∧ (0 ≤ v ∧ v < pw k))) = 0 → MW g mb 0 sz ac TX F DIA KEP ISK H) ∧ ((Kd ((1 ≤ c ∧ c ≤ 3) ∧ (0 ≤ v ∧ v < pw k))) ≠ 0 → MW g mb (Kd ((1 ≤ c ∧ c ≤ 3) ∧ (0 ≤ v ∧ v < pw k))) sz ac TX F DIA KEP ISK H)) := by
  refine ch_of "LentRoomModel" (by decide) rfl (Nat.le_of_ble_eq_true rfl) ?_
  intro zp ze zs zm za zb zt zc ls C hP hF hl
  obtain ⟨M, TRI, AP, hMb, hM0, hM1, hM2, hm, htx, hno, htr, hdi, hke, hik, hap⟩ := hP
  have hl : lv_has ls 8 [(0, .ref mb), (1, .int (iI c)), (2, .long (iL v))] := hl
  have hS := hJ.S
  have hSm : Sm F := hS.m (by omega)
  have hZ := hJ.Z
  have hn5 := hJ.n
  have h0T : 0 ≤ T := (by have := hS.1 0 (by omega); omega)
  have hJ6 : J F z0 (T + 60) := hJ.mono (by omega)
  have cut86 : ∀ (N : Nat) (i : Nat) (M : Nat → Int) (AP : Nat → Int) (v6 : Int), 4 - i < N → (i ≤ k) → ((1 ≤ c ∧ c ≤ 3) ∧ (0 ≤ v ∧ v < pw k)) → (sgR v k F k 0 = sgR v k F (k - i) i) → (∀ k, Rg (M k)) → (M 0 = 0) → (M 1 = sz) → (M 2 = ac) → (v6 = (i : Int)) → ∀ (H : Heap) (locs : List Loc), mdAt g mb M H → aAt g (mb + 1) 120 TX H → aAt g (mb + 2) 262 F H → aAt g (mb + 3) 262 (sgF v k F i) H → aAt g (mb + 4) 3668 DIA H → aAt g (mb + 5) 524 KEP H → zAt g (mb + 6) 2 ISK H → aAt g (mb + 7) 262 AP H → Fr (Mdp mb) zs.heap H locs → ∀ ls : Array Slot, lv_has ls 8 [(0, .ref mb), (1, .int (iI c)), (2, .long (iL v)), (4, .long (iL (pw (k - i)))), (6, .int (iI v6))] → W zp l ze (rmc 10 232) zs zm za zb zt zc H locs 0 0 (MQ zb (HQ (some (.int (iI (if (Kd ((1 ≤ c ∧ c ≤ 3) ∧ (0 ≤ v ∧ v < pw k))) = 0 then sgR v k F k 0 else 0)))) (Mdp mb) (fun H => ((Kd ((1 ≤ c ∧ c ≤ 3) ∧ (0 ≤ v ∧ v < pw k))) = 0 → MW g mb 0 sz ac TX F DIA KEP ISK H) ∧ ((Kd ((1 ≤ c ∧ c ≤ 3) ∧ (0 ≤ v ∧ v < pw k))) ≠ 0 → MW g mb (Kd ((1 ≤ c ∧ c ≤ 3) ∧ (0 ≤ v ∧ v < pw k))) sz ac TX F DIA KEP ISK H))) za zs 0 0 (Mdp mb)) (F0 zm 86 ls []) := by
    intro N
    induction N with
    | zero => intro i M AP v6; exact fun hms => absurd hms (Nat.not_lt_zero _)
    | succ N ih =>
      intro i M AP v6 hms hi hcc hsg hMb hM0 hM1 hM2 hv6 H locs hm htx hno htr hdi hke hik hap hF ls hl
      have hJ1 := hJ6.sg (by omega) v k i (by omega)
      have hSm1 : Sm (sgF v k F i) := hJ1.S.m (by omega)
      have hZ1 := hJ1.Z
      have hpk := pw_b (i := k - i) (by omega)
      have hpk0 := pw_b (i := k) (by omega)
      refine r_iload C (lv_at hl 4 rfl) dX4_runScript_86 ?_
      refine r_iload_n C rfl (lv_at hl 1 rfl) dX4_runScript_88 ?_
      refine r_icmp_ge (tgt := 155) C (by decide) (by omega) (by omega) dX4_runScript_89 (fun c1 => ?_) (fun c1 => ?_)
      · refine r_iconst C dX4_runScript_155 ?_
        have hK : (Kd ((1 ≤ c ∧ c ≤ 3) ∧ (0 ≤ v ∧ v < pw k))) = 0 := (by unfold Kd; split <;> omega)
        have hK0 : (Kd ((1 ≤ c ∧ c ≤ 3) ∧ (0 ≤ v ∧ v < pw k))) = 0 := (by omega)
        exact r_iretH C rfl rfl (congrArg iI (by rw [if_pos hK0] <;> (rw [hsg, show k - i = 0 by omega]; rfl))) hF (by exact ⟨fun _ => ⟨M, sgF v k F i, AP, (by repeat first | exact hMb | exact rg_up hMb (by decide) | refine rg_up ?_ (by omega) | refine rg_setL ?_ (by omega)), (by first | exact hM0 | omega), (by first | exact hM1 | omega), (by first | exact hM2 | omega), hm, htx, hno, htr, hdi, hke, hik, hap⟩, fun h => absurd hK0 h⟩) dX4_runScript_156
      · refine r_lload C (lv_at hl 3 rfl) dX4_runScript_92 ?_
        refine r_ldc2 C (v := iL 100000) q_1053 dX4_runScript_94 ?_
        refine r_ldiv C (by omega) (by omega) dX4_runScript_97 ?_
        rw [show pw (k - i) / 100000 = pw (k - (i + 1)) from pw_d (by omega)]
        have hpk2 := pw_b (i := k - (i + 1)) (by omega)
        have hvq := pw_q (v := v) (p := pw (k - (i + 1))) (by omega) (by omega)
        refine r_lstore (lv' := [(4, .long (iL (pw (k - (i + 1))))), (0, .ref mb), (1, .int (iI c)), (2, .long (iL v)), (6, .int (iI v6))]) C hl (by decide) rfl dX4_runScript_98 (fun ls hl => ?_)
        refine r_lload_n C rfl (lv_at hl 3 rfl) dX4_runScript_100 ?_
        refine r_lload C (lv_at hl 0 rfl) dX4_runScript_101 ?_
        refine r_ldiv C (by omega) (by omega) dX4_runScript_103 ?_
        refine r_ldc2 C (v := iL 100000) q_1053 dX4_runScript_104 ?_
        refine r_lrem C (by omega) (by omega) dX4_runScript_107 ?_
        rw [show v / pw (k - (i + 1)) % 100000 = sgG v k i from rfl]
        have hsb := sgG_b v k i
        refine r_l2i C (by omega) dX4_runScript_108 ?_
        refine r_istore (lv' := [(7, .int (iI (sgG v k i))), (4, .long (iL (pw (k - (i + 1))))), (0, .ref mb), (1, .int (iI c)), (2, .long (iL v)), (6, .int (iI v6))]) C hl (by decide) rfl dX4_runScript_109 (fun ls hl => ?_)
        refine r_aload_n C rfl (lv_at hl 2 rfl) dX4_runScript_111 ?_
        refine r_iload C (lv_at hl 0 rfl) dX4_runScript_112 ?_
        refine r_sipush C (by decide) dX4_runScript_114 ?_
        refine r_idiv C (by omega) (by omega) dX4_runScript_117 ?_
        refine r_iload C (lv_at hl 0 rfl) dX4_runScript_118 ?_
        refine r_sipush C (by decide) dX4_runScript_120 ?_
        refine r_idiv C (by omega) (by omega) dX4_runScript_123 ?_
        refine r_bipush C (by decide) dX4_runScript_124 ?_
        refine r_irem C (by omega) (by omega) dX4_runScript_126 ?_
        refine r_iload C (lv_at hl 0 rfl) dX4_runScript_127 ?_
        refine r_bipush C (by decide) dX4_runScript_129 ?_
        refine r_idiv C (by omega) (by omega) dX4_runScript_131 ?_
        refine r_bipush C (by decide) dX4_runScript_132 ?_
        refine r_irem C (by omega) (by omega) dX4_runScript_134 ?_
        refine r_iload C (lv_at hl 0 rfl) dX4_runScript_135 ?_
        refine r_bipush C (by decide) dX4_runScript_137 ?_
        refine r_irem C (by omega) (by omega) dX4_runScript_139 ?_
        refine r_vHi (rest := []) C (k_X4_command l g mb 0 sz ac (sgF v k F i) (T + 60 + 6 * i) hJ1 (by omega) (by omega) ((sgG v k i) / 10000) (((sgG v k i) / 1000) % 10) (((sgG v k i) / 100) % 10) ((sgG v k i) % 100) (by omega) (by omega) (by omega) (by omega)) s_RX4_196 ⟨M, AP, (by repeat first | exact hMb | exact rg_up hMb (by decide) | refine rg_up ?_ (by omega) | refine rg_setL ?_ (by omega)), (by first | exact hM0 | rfl | omega), (by first | exact hM1 | rfl | omega), (by first | exact hM2 | rfl | omega), hm, htr, hap⟩ hF (fun q h => (is_mdp (by rcases h with h | h | h <;> omega))) (recv C (ci := 4) rfl hm.o) hl.1 rfl ⟨by decide, by decide⟩ rfl (Nat.le_of_ble_eq_true rfl) ⟨Nat.le_refl 0, Nat.le_refl 0⟩ dX4_runScript_140 (fun H2 locs2 h2 ho2 hz2 hF => ?_)
        have htx := htx.kept (ho2 _ (fun h => (by rcases h with h | h | h <;> omega)))
        have hno := hno.kept (ho2 _ (fun h => (by rcases h with h | h | h <;> omega)))
        have hdi := hdi.kept (ho2 _ (fun h => (by rcases h with h | h | h <;> omega)))
        have hke := hke.kept (ho2 _ (fun h => (by rcases h with h | h | h <;> omega)))
        have hik := hik.kept (ho2 _ (fun h => (by rcases h with h | h | h <;> omega)))
        obtain ⟨M, AP, hMb, hM0, hM1, hM2, hm, htr, hap⟩ := h2
        have hcv := coV_b ((sgG v k i) / 10000) (((sgG v k i) / 1000) % 10) (((sgG v k i) / 100) % 10) ((sgG v k i) % 100) (sgF v k F i)
        refine r_if_ne (tgt := 149) C (by decide) (by omega) dX4_runScript_143 (fun c3 => ?_) (fun c3 => ?_)
        · refine r_iinc (lv' := [(6, .int (iI (v6 + 1))), (7, .int (iI (sgG v k i))), (4, .long (iL (pw (k - (i + 1))))), (0, .ref mb), (1, .int (iI c)), (2, .long (iL v))]) C hl (q := 5) rfl (by decide) rfl dX4_runScript_149 (fun ls hl => ?_)
          refine r_goto (tgt := 86) C (by decide) dX4_runScript_152 ?_
          exact ih (i + 1) M AP (v6 + 1) (by omega) (by omega) (by omega) (by rw [hsg, show k - i = (k - (i + 1)) + 1 by omega, sgR, if_neg c3]) (by exact hMb) (by exact (by first | exact hM0 | rfl | omega)) (by exact (by first | exact hM1 | rfl | omega)) (by exact (by first | exact hM2 | rfl | omega)) (by omega) _ _ hm htx hno htr hdi hke hik hap hF _ (lv_sub hl [3, 4, 5, 2, 0] rfl)
        · refine r_iload C (lv_at hl 5 rfl) dX4_runScript_146 ?_
          have hK : (Kd ((1 ≤ c ∧ c ≤ 3) ∧ (0 ≤ v ∧ v < pw k))) = 0 := (by unfold Kd; split <;> omega)
          have hK0 : (Kd ((1 ≤ c ∧ c ≤ 3) ∧ (0 ≤ v ∧ v < pw k))) = 0 := (by omega)
          exact r_iretH C rfl rfl (congrArg iI (by rw [if_pos hK0] <;> (rw [hsg, show k - i = (k - i - 1) + 1 by omega, sgR, if_pos c3]; omega))) hF (by exact ⟨fun _ => ⟨M, coF ((sgG v k i) / 10000) (((sgG v k i) / 1000) % 10) (((sgG v k i) / 100) % 10) ((sgG v k i) % 100) (sgF v k F i), AP, (by repeat first | exact hMb | exact rg_up hMb (by decide) | refine rg_up ?_ (by omega) | refine rg_setL ?_ (by omega)), (by first | exact hM0 | omega), (by first | exact hM1 | omega), (by first | exact hM2 | omega), hm, htx, hno, htr, hdi, hke, hik, hap⟩, fun h => absurd hK0 h⟩) dX4_runScript_148
  have cut6 : ∀ (N : Nat) (i : Nat) (v6 : Int), 4 - i < N → (i ≤ 3 ∧ ((i : Int) ≤ c ∨ i = 0)) → (v6 = (i : Int)) → ∀ ls : Array Slot, lv_has ls 8 [(0, .ref mb), (1, .int (iI c)), (2, .long (iL v)), (4, .long (iL (pw i))), (6, .int (iI v6))] → W zp l ze (rmc 10 232) zs zm za zb zt zc zs.heap [] 0 0 (MQ zb (HQ (some (.int (iI (if (Kd ((1 ≤ c ∧ c ≤ 3) ∧ (0 ≤ v ∧ v < pw k))) = 0 then sgR v k F k 0 else 0)))) (Mdp mb) (fun H => ((Kd ((1 ≤ c ∧ c ≤ 3) ∧ (0 ≤ v ∧ v < pw k))) = 0 → MW g mb 0 sz ac TX F DIA KEP ISK H) ∧ ((Kd ((1 ≤ c ∧ c ≤ 3) ∧ (0 ≤ v ∧ v < pw k))) ≠ 0 → MW g mb (Kd ((1 ≤ c ∧ c ≤ 3) ∧ (0 ≤ v ∧ v < pw k))) sz ac TX F DIA KEP ISK H))) za zs 0 0 (Mdp mb)) (F0 zm 6 ls []) := by
    intro N
    induction N with
    | zero => intro i v6; exact fun hms => absurd hms (Nat.not_lt_zero _)
    | succ N ih =>
      intro i v6 hms hi hv6 ls hl
      have hpi := pw_b (i := i) (by omega)
      refine r_iload C (lv_at hl 4 rfl) dX4_runScript_6 ?_
      refine r_iload_n C rfl (lv_at hl 1 rfl) dX4_runScript_8 ?_
      refine r_icmp_ge (tgt := 32) C (by decide) (by omega) (by omega) dX4_runScript_9 (fun c4 => ?_) (fun c4 => ?_)
      · refine r_aload_n C rfl (lv_at hl 0 rfl) dX4_runScript_32 ?_
        refine r_iload_n C rfl (lv_at hl 1 rfl) dX4_runScript_33 ?_
        refine r_i2l C (by omega) dX4_runScript_34 ?_
        refine r_lconst C 1 rfl dX4_runScript_35 ?_
        refine r_ldc2 C (v := iL 3) q_1054 dX4_runScript_36 ?_
        refine r_sPi (rest := [.ref mb]) C (k_X4_in l g c 1 3 (by omega) (by omega) (by omega)) s_RX4_39 trivial hl.1 rfl ⟨by decide, by decide⟩ rfl (Nat.le_of_ble_eq_true rfl) ⟨Nat.le_refl 0, Nat.le_refl 0⟩ dX4_runScript_39 ?_
        refine r_ifP_eq (tgt := 61) C (by decide) dX4_runScript_42 (fun c5 => ?_) (fun c5 => ?_)
        · refine r_iconst C dX4_runScript_61 ?_
          refine r_vHi (rest := []) C (k_X4_refused l g mb M 1 (by decide)) s_RX4_109 hm hF (fun q h => (is_mdp (by have h : q = _ := h; omega))) (recv C (ci := 4) rfl hm.o) hl.1 rfl ⟨by decide, by decide⟩ rfl (Nat.le_of_ble_eq_true rfl) ⟨Nat.le_refl 0, Nat.le_refl 0⟩ dX4_runScript_62 (fun H6 locs6 h6 ho6 hz6 hF => ?_)
          have htx := htx.kept (ho6 _ (fun h => (by have h : _ = _ := h; omega)))
          have hno := hno.kept (ho6 _ (fun h => (by have h : _ = _ := h; omega)))
          have htr := htr.kept (ho6 _ (fun h => (by have h : _ = _ := h; omega)))
          have hdi := hdi.kept (ho6 _ (fun h => (by have h : _ = _ := h; omega)))
          have hke := hke.kept (ho6 _ (fun h => (by have h : _ = _ := h; omega)))
          have hik := hik.kept (ho6 _ (fun h => (by have h : _ = _ := h; omega)))
          have hap := hap.kept (ho6 _ (fun h => (by have h : _ = _ := h; omega)))
          have hm := h6
          refine r_ifP_eq (tgt := 70) C (by decide) dX4_runScript_65 (fun c7 => ?_) (fun c7 => ?_)
          · exact absurd c7 (by decide)
          · refine r_iconst C dX4_runScript_68 ?_
            have hK : (Kd ((1 ≤ c ∧ c ≤ 3) ∧ (0 ≤ v ∧ v < pw k))) = 1 := (by unfold Kd; split <;> omega)
            exact r_iretH C rfl rfl (congrArg iI (by rw [if_neg (by omega)])) hF (by exact ⟨fun h => absurd h (by omega), fun _ => ⟨up M 0 1, TRI, AP, (by repeat first | exact hMb | exact rg_up hMb (by decide) | refine rg_up ?_ (by omega) | refine rg_setL ?_ (by omega)), (by rw [up_s] <;> omega), (by rw [up_n _ _ (by omega)] <;> omega), (by rw [up_n _ _ (by omega)] <;> omega), hm, htx, hno, htr, hdi, hke, hik, hap⟩⟩) dX4_runScript_69
        · have hEk : i = k := (by omega)
          have hpik : pw i = pw k := (by rw [hEk])
          refine r_lload_n C rfl (lv_at hl 2 rfl) dX4_runScript_45 ?_
          refine r_lconst C 0 rfl dX4_runScript_46 ?_
          refine r_lload C (lv_at hl 3 rfl) dX4_runScript_47 ?_
          refine r_lconst C 1 rfl dX4_runScript_49 ?_
          refine r_lsub C dX4_runScript_50 ?_
          refine r_sPi (rest := [.ref mb]) C (k_X4_in l g v 0 ((pw i) - 1) (by omega) (by omega) (by omega)) s_RX4_39 trivial hl.1 rfl ⟨by decide, by decide⟩ rfl (Nat.le_of_ble_eq_true rfl) ⟨Nat.le_refl 0, Nat.le_refl 0⟩ dX4_runScript_51 ?_
          refine r_ifP_eq (tgt := 61) C (by decide) dX4_runScript_54 (fun c8 => ?_) (fun c8 => ?_)
          · refine r_iconst C dX4_runScript_61 ?_
            refine r_vHi (rest := []) C (k_X4_refused l g mb M 1 (by decide)) s_RX4_109 hm hF (fun q h => (is_mdp (by have h : q = _ := h; omega))) (recv C (ci := 4) rfl hm.o) hl.1 rfl ⟨by decide, by decide⟩ rfl (Nat.le_of_ble_eq_true rfl) ⟨Nat.le_refl 0, Nat.le_refl 0⟩ dX4_runScript_62 (fun H9 locs9 h9 ho9 hz9 hF => ?_)
            have htx := htx.kept (ho9 _ (fun h => (by have h : _ = _ := h; omega)))
            have hno := hno.kept (ho9 _ (fun h => (by have h : _ = _ := h; omega)))
            have htr := htr.kept (ho9 _ (fun h => (by have h : _ = _ := h; omega)))
            have hdi := hdi.kept (ho9 _ (fun h => (by have h : _ = _ := h; omega)))
            have hke := hke.kept (ho9 _ (fun h => (by have h : _ = _ := h; omega)))
            have hik := hik.kept (ho9 _ (fun h => (by have h : _ = _ := h; omega)))
            have hap := hap.kept (ho9 _ (fun h => (by have h : _ = _ := h; omega)))
            have hm := h9
            refine r_ifP_eq (tgt := 70) C (by decide) dX4_runScript_65 (fun c10 => ?_) (fun c10 => ?_)
            · exact absurd c10 (by decide)
            · refine r_iconst C dX4_runScript_68 ?_
              have hK : (Kd ((1 ≤ c ∧ c ≤ 3) ∧ (0 ≤ v ∧ v < pw k))) = 1 := (by unfold Kd; split <;> omega)
              exact r_iretH C rfl rfl (congrArg iI (by rw [if_neg (by omega)])) hF (by exact ⟨fun h => absurd h (by omega), fun _ => ⟨up M 0 1, TRI, AP, (by repeat first | exact hMb | exact rg_up hMb (by decide) | refine rg_up ?_ (by omega) | refine rg_setL ?_ (by omega)), (by rw [up_s] <;> omega), (by rw [up_n _ _ (by omega)] <;> omega), (by rw [up_n _ _ (by omega)] <;> omega), hm, htx, hno, htr, hdi, hke, hik, hap⟩⟩) dX4_runScript_69
          · refine r_iconst C dX4_runScript_57 ?_
            refine r_goto (tgt := 62) C (by decide) dX4_runScript_58 ?_
            refine r_vHi (rest := []) C (k_X4_refused l g mb M 0 (by decide)) s_RX4_109 hm hF (fun q h => (is_mdp (by have h : q = _ := h; omega))) (recv C (ci := 4) rfl hm.o) hl.1 rfl ⟨by decide, by decide⟩ rfl (Nat.le_of_ble_eq_true rfl) ⟨Nat.le_refl 0, Nat.le_refl 0⟩ dX4_runScript_62 (fun H11 locs11 h11 ho11 hz11 hF => ?_)
            have htx := htx.kept (ho11 _ (fun h => (by have h : _ = _ := h; omega)))
            have hno := hno.kept (ho11 _ (fun h => (by have h : _ = _ := h; omega)))
            have htr := htr.kept (ho11 _ (fun h => (by have h : _ = _ := h; omega)))
            have hdi := hdi.kept (ho11 _ (fun h => (by have h : _ = _ := h; omega)))
            have hke := hke.kept (ho11 _ (fun h => (by have h : _ = _ := h; omega)))
            have hik := hik.kept (ho11 _ (fun h => (by have h : _ = _ := h; omega)))
            have hap := hap.kept (ho11 _ (fun h => (by have h : _ = _ := h; omega)))
            have hm := h11
            refine r_ifP_eq (tgt := 70) C (by decide) dX4_runScript_65 (fun c12 => ?_) (fun c12 => ?_)
            · refine r_aload_n C rfl (lv_at hl 0 rfl) dX4_runScript_70 ?_
              refine r_get C (ci := 4) (v := .ref (mb + 2)) rfl uin4 hm.o 3 (by decide) q_788 rfl rfl dX4_runScript_71 ?_
              refine r_iconst C dX4_runScript_74 ?_
              refine r_aload_n C rfl (lv_at hl 0 rfl) dX4_runScript_75 ?_
              refine r_get C (ci := 4) (v := .ref (mb + 3)) rfl uin4 hm.o 4 (by decide) q_789 rfl rfl dX4_runScript_76 ?_
              refine r_iconst C dX4_runScript_79 ?_
              refine r_sHn (rest := []) C (k_X4_copyState l g (mb + 2) 262 F (mb + 3) 262 TRI 0 0 0 0 (by omega) (by omega) (by omega) (by omega) (by omega)) s_RX4_166 ⟨hno, htr⟩ hF (fun q h => (is_mdp (by have h : q = _ := h; omega))) hl.1 rfl ⟨by decide, by decide⟩ rfl (Nat.le_of_ble_eq_true rfl) ⟨Nat.le_refl 0, Nat.le_refl 0⟩ dX4_runScript_80 (fun H13 locs13 h13 ho13 hz13 hF => ?_)
              have hm := hm.kept (ho13 _ (fun h => (by have h : _ = _ := h; omega)))
              have htx := htx.kept (ho13 _ (fun h => (by have h : _ = _ := h; omega)))
              have hdi := hdi.kept (ho13 _ (fun h => (by have h : _ = _ := h; omega)))
              have hke := hke.kept (ho13 _ (fun h => (by have h : _ = _ := h; omega)))
              have hik := hik.kept (ho13 _ (fun h => (by have h : _ = _ := h; omega)))
              have hap := hap.kept (ho13 _ (fun h => (by have h : _ = _ := h; omega)))
              obtain ⟨hno, htr⟩ := h13
              have htr : aAt g (mb + 3) 262 (F) H13 := htr.cg (fun k hk => (by rw [cpy_all _ _ hk, Nat.zero_add]))
              have hpe : pw i = pw (k - 0) := (by rw [hEk]; rfl)
              rw [hpe] at hl
              refine r_iconst C dX4_runScript_83 ?_
              refine r_istore (lv' := [(6, .int (iI 0)), (0, .ref mb), (1, .int (iI c)), (2, .long (iL v)), (4, .long (iL (pw (k - 0))))]) C hl (by decide) rfl dX4_runScript_84 (fun ls hl => ?_)
              exact cut86 _ 0 (up M 0 0) AP 0 (Nat.lt_succ_self _) (by omega) (by omega) (by rfl) (by exact (by repeat first | exact hMb | exact rg_up hMb (by decide) | refine rg_up ?_ (by omega) | refine rg_setL ?_ (by omega))) (by exact (by rw [up_s] <;> omega)) (by exact (by rw [up_n _ _ (by omega)] <;> omega)) (by exact (by rw [up_n _ _ (by omega)] <;> omega)) (by omega) _ _ hm htx hno htr hdi hke hik hap hF _ (lv_sub hl [1, 2, 3, 4, 0] rfl)
            · exact absurd c12 (by decide)
      · refine r_iload C (lv_at hl 4 rfl) dX4_runScript_12 ?_
        refine r_iconst C dX4_runScript_14 ?_
        refine r_icmp_ge (tgt := 32) C (by decide) (by omega) (by decide) dX4_runScript_15 (fun c14 => ?_) (fun c14 => ?_)
        · refine r_aload_n C rfl (lv_at hl 0 rfl) dX4_runScript_32 ?_
          refine r_iload_n C rfl (lv_at hl 1 rfl) dX4_runScript_33 ?_
          refine r_i2l C (by omega) dX4_runScript_34 ?_
          refine r_lconst C 1 rfl dX4_runScript_35 ?_
          refine r_ldc2 C (v := iL 3) q_1054 dX4_runScript_36 ?_
          refine r_sPi (rest := [.ref mb]) C (k_X4_in l g c 1 3 (by omega) (by omega) (by omega)) s_RX4_39 trivial hl.1 rfl ⟨by decide, by decide⟩ rfl (Nat.le_of_ble_eq_true rfl) ⟨Nat.le_refl 0, Nat.le_refl 0⟩ dX4_runScript_39 ?_
          refine r_ifP_eq (tgt := 61) C (by decide) dX4_runScript_42 (fun c15 => ?_) (fun c15 => ?_)
          · refine r_iconst C dX4_runScript_61 ?_
            refine r_vHi (rest := []) C (k_X4_refused l g mb M 1 (by decide)) s_RX4_109 hm hF (fun q h => (is_mdp (by have h : q = _ := h; omega))) (recv C (ci := 4) rfl hm.o) hl.1 rfl ⟨by decide, by decide⟩ rfl (Nat.le_of_ble_eq_true rfl) ⟨Nat.le_refl 0, Nat.le_refl 0⟩ dX4_runScript_62 (fun H16 locs16 h16 ho16 hz16 hF => ?_)
            have htx := htx.kept (ho16 _ (fun h => (by have h : _ = _ := h; omega)))
            have hno := hno.kept (ho16 _ (fun h => (by have h : _ = _ := h; omega)))
            have htr := htr.kept (ho16 _ (fun h => (by have h : _ = _ := h; omega)))
            have hdi := hdi.kept (ho16 _ (fun h => (by have h : _ = _ := h; omega)))
            have hke := hke.kept (ho16 _ (fun h => (by have h : _ = _ := h; omega)))
            have hik := hik.kept (ho16 _ (fun h => (by have h : _ = _ := h; omega)))
            have hap := hap.kept (ho16 _ (fun h => (by have h : _ = _ := h; omega)))
            have hm := h16
            refine r_ifP_eq (tgt := 70) C (by decide) dX4_runScript_65 (fun c17 => ?_) (fun c17 => ?_)
            · exact absurd c17 (by decide)
            · refine r_iconst C dX4_runScript_68 ?_
              have hK : (Kd ((1 ≤ c ∧ c ≤ 3) ∧ (0 ≤ v ∧ v < pw k))) = 1 := (by unfold Kd; split <;> omega)
              exact r_iretH C rfl rfl (congrArg iI (by rw [if_neg (by omega)])) hF (by exact ⟨fun h => absurd h (by omega), fun _ => ⟨up M 0 1, TRI, AP, (by repeat first | exact hMb | exact rg_up hMb (by decide) | refine rg_up ?_ (by omega) | refine rg_setL ?_ (by omega)), (by rw [up_s] <;> omega), (by rw [up_n _ _ (by omega)] <;> omega), (by rw [up_n _ _ (by omega)] <;> omega), hm, htx, hno, htr, hdi, hke, hik, hap⟩⟩) dX4_runScript_69
          · have hEk : i = k := (by omega)
            have hpik : pw i = pw k := (by rw [hEk])
            refine r_lload_n C rfl (lv_at hl 2 rfl) dX4_runScript_45 ?_
            refine r_lconst C 0 rfl dX4_runScript_46 ?_
            refine r_lload C (lv_at hl 3 rfl) dX4_runScript_47 ?_
            refine r_lconst C 1 rfl dX4_runScript_49 ?_
            refine r_lsub C dX4_runScript_50 ?_
            refine r_sPi (rest := [.ref mb]) C (k_X4_in l g v 0 ((pw i) - 1) (by omega) (by omega) (by omega)) s_RX4_39 trivial hl.1 rfl ⟨by decide, by decide⟩ rfl (Nat.le_of_ble_eq_true rfl) ⟨Nat.le_refl 0, Nat.le_refl 0⟩ dX4_runScript_51 ?_
            refine r_ifP_eq (tgt := 61) C (by decide) dX4_runScript_54 (fun c18 => ?_) (fun c18 => ?_)
            · refine r_iconst C dX4_runScript_61 ?_
              refine r_vHi (rest := []) C (k_X4_refused l g mb M 1 (by decide)) s_RX4_109 hm hF (fun q h => (is_mdp (by have h : q = _ := h; omega))) (recv C (ci := 4) rfl hm.o) hl.1 rfl ⟨by decide, by decide⟩ rfl (Nat.le_of_ble_eq_true rfl) ⟨Nat.le_refl 0, Nat.le_refl 0⟩ dX4_runScript_62 (fun H19 locs19 h19 ho19 hz19 hF => ?_)
              have htx := htx.kept (ho19 _ (fun h => (by have h : _ = _ := h; omega)))
              have hno := hno.kept (ho19 _ (fun h => (by have h : _ = _ := h; omega)))
              have htr := htr.kept (ho19 _ (fun h => (by have h : _ = _ := h; omega)))
              have hdi := hdi.kept (ho19 _ (fun h => (by have h : _ = _ := h; omega)))
              have hke := hke.kept (ho19 _ (fun h => (by have h : _ = _ := h; omega)))
              have hik := hik.kept (ho19 _ (fun h => (by have h : _ = _ := h; omega)))
              have hap := hap.kept (ho19 _ (fun h => (by have h : _ = _ := h; omega)))
              have hm := h19
              refine r_ifP_eq (tgt := 70) C (by decide) dX4_runScript_65 (fun c20 => ?_) (fun c20 => ?_)
              · exact absurd c20 (by decide)
              · refine r_iconst C dX4_runScript_68 ?_
                have hK : (Kd ((1 ≤ c ∧ c ≤ 3) ∧ (0 ≤ v ∧ v < pw k))) = 1 := (by unfold Kd; split <;> omega)
                exact r_iretH C rfl rfl (congrArg iI (by rw [if_neg (by omega)])) hF (by exact ⟨fun h => absurd h (by omega), fun _ => ⟨up M 0 1, TRI, AP, (by repeat first | exact hMb | exact rg_up hMb (by decide) | refine rg_up ?_ (by omega) | refine rg_setL ?_ (by omega)), (by rw [up_s] <;> omega), (by rw [up_n _ _ (by omega)] <;> omega), (by rw [up_n _ _ (by omega)] <;> omega), hm, htx, hno, htr, hdi, hke, hik, hap⟩⟩) dX4_runScript_69
            · refine r_iconst C dX4_runScript_57 ?_
              refine r_goto (tgt := 62) C (by decide) dX4_runScript_58 ?_
              refine r_vHi (rest := []) C (k_X4_refused l g mb M 0 (by decide)) s_RX4_109 hm hF (fun q h => (is_mdp (by have h : q = _ := h; omega))) (recv C (ci := 4) rfl hm.o) hl.1 rfl ⟨by decide, by decide⟩ rfl (Nat.le_of_ble_eq_true rfl) ⟨Nat.le_refl 0, Nat.le_refl 0⟩ dX4_runScript_62 (fun H21 locs21 h21 ho21 hz21 hF => ?_)
              have htx := htx.kept (ho21 _ (fun h => (by have h : _ = _ := h; omega)))
              have hno := hno.kept (ho21 _ (fun h => (by have h : _ = _ := h; omega)))
              have htr := htr.kept (ho21 _ (fun h => (by have h : _ = _ := h; omega)))
              have hdi := hdi.kept (ho21 _ (fun h => (by have h : _ = _ := h; omega)))
              have hke := hke.kept (ho21 _ (fun h => (by have h : _ = _ := h; omega)))
              have hik := hik.kept (ho21 _ (fun h => (by have h : _ = _ := h; omega)))
              have hap := hap.kept (ho21 _ (fun h => (by have h : _ = _ := h; omega)))
              have hm := h21
              refine r_ifP_eq (tgt := 70) C (by decide) dX4_runScript_65 (fun c22 => ?_) (fun c22 => ?_)
              · refine r_aload_n C rfl (lv_at hl 0 rfl) dX4_runScript_70 ?_
                refine r_get C (ci := 4) (v := .ref (mb + 2)) rfl uin4 hm.o 3 (by decide) q_788 rfl rfl dX4_runScript_71 ?_
                refine r_iconst C dX4_runScript_74 ?_
                refine r_aload_n C rfl (lv_at hl 0 rfl) dX4_runScript_75 ?_
                refine r_get C (ci := 4) (v := .ref (mb + 3)) rfl uin4 hm.o 4 (by decide) q_789 rfl rfl dX4_runScript_76 ?_
                refine r_iconst C dX4_runScript_79 ?_
                refine r_sHn (rest := []) C (k_X4_copyState l g (mb + 2) 262 F (mb + 3) 262 TRI 0 0 0 0 (by omega) (by omega) (by omega) (by omega) (by omega)) s_RX4_166 ⟨hno, htr⟩ hF (fun q h => (is_mdp (by have h : q = _ := h; omega))) hl.1 rfl ⟨by decide, by decide⟩ rfl (Nat.le_of_ble_eq_true rfl) ⟨Nat.le_refl 0, Nat.le_refl 0⟩ dX4_runScript_80 (fun H23 locs23 h23 ho23 hz23 hF => ?_)
                have hm := hm.kept (ho23 _ (fun h => (by have h : _ = _ := h; omega)))
                have htx := htx.kept (ho23 _ (fun h => (by have h : _ = _ := h; omega)))
                have hdi := hdi.kept (ho23 _ (fun h => (by have h : _ = _ := h; omega)))
                have hke := hke.kept (ho23 _ (fun h => (by have h : _ = _ := h; omega)))
                have hik := hik.kept (ho23 _ (fun h => (by have h : _ = _ := h; omega)))
                have hap := hap.kept (ho23 _ (fun h => (by have h : _ = _ := h; omega)))
                obtain ⟨hno, htr⟩ := h23
                have htr : aAt g (mb + 3) 262 (F) H23 := htr.cg (fun k hk => (by rw [cpy_all _ _ hk, Nat.zero_add]))
                have hpe : pw i = pw (k - 0) := (by rw [hEk]; rfl)
                rw [hpe] at hl
                refine r_iconst C dX4_runScript_83 ?_
                refine r_istore (lv' := [(6, .int (iI 0)), (0, .ref mb), (1, .int (iI c)), (2, .long (iL v)), (4, .long (iL (pw (k - 0))))]) C hl (by decide) rfl dX4_runScript_84 (fun ls hl => ?_)
                exact cut86 _ 0 (up M 0 0) AP 0 (Nat.lt_succ_self _) (by omega) (by omega) (by rfl) (by exact (by repeat first | exact hMb | exact rg_up hMb (by decide) | refine rg_up ?_ (by omega) | refine rg_setL ?_ (by omega))) (by exact (by rw [up_s] <;> omega)) (by exact (by rw [up_n _ _ (by omega)] <;> omega)) (by exact (by rw [up_n _ _ (by omega)] <;> omega)) (by omega) _ _ hm htx hno htr hdi hke hik hap hF _ (lv_sub hl [1, 2, 3, 4, 0] rfl)
              · exact absurd c22 (by decide)
        · refine r_lload C (lv_at hl 3 rfl) dX4_runScript_18 ?_
          refine r_ldc2 C (v := iL 100000) q_1053 dX4_runScript_20 ?_
          refine r_lmul C dX4_runScript_23 ?_
          rw [show pw i * 100000 = pw (i + 1) from rfl]
          refine r_lstore (lv' := [(4, .long (iL (pw (i + 1)))), (0, .ref mb), (1, .int (iI c)), (2, .long (iL v)), (6, .int (iI v6))]) C hl (by decide) rfl dX4_runScript_24 (fun ls hl => ?_)
          refine r_iinc (lv' := [(6, .int (iI (v6 + 1))), (4, .long (iL (pw (i + 1)))), (0, .ref mb), (1, .int (iI c)), (2, .long (iL v))]) C hl (q := 4) rfl (by decide) rfl dX4_runScript_26 (fun ls hl => ?_)
          refine r_goto (tgt := 6) C (by decide) dX4_runScript_29 ?_
          exact ih (i + 1) (v6 + 1) (by omega) (by omega) (by omega) _ (lv_sub hl [2, 3, 4, 1, 0] rfl)
  refine r_lconst C 1 rfl dX4_runScript_0 ?_
  rw [show iL 1 = iL (pw 0) from rfl]
  refine r_lstore (lv' := [(4, .long (iL (pw 0))), (0, .ref mb), (1, .int (iI c)), (2, .long (iL v))]) C hl (by decide) rfl dX4_runScript_1 (fun ls hl => ?_)
  refine r_iconst C dX4_runScript_3 ?_
  refine r_istore (lv' := [(6, .int (iI 0)), (4, .long (iL (pw 0))), (0, .ref mb), (1, .int (iI c)), (2, .long (iL v))]) C hl (by decide) rfl dX4_runScript_4 (fun ls hl => ?_)
  exact cut6 _ 0 0 (Nat.lt_succ_self _) (by omega) (by omega) _ (lv_sub hl [2, 3, 4, 1, 0] rfl)

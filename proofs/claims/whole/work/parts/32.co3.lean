theorem s_RX4_206 : SiteV "LentRoomModel" 206 "LentRoomModel" yX4_turn cX4_turn 5 none 1 := ⟨⟨q_1066, q_1068, q_28, q_34, q_1069⟩, rfl, by decide, by decide, by decide +kernel⟩
set_option maxHeartbeats 4000000 in
theorem k_X4_simulate (l : Launch) (g : Gt) (mb : Nat) (rf sz ac : Int) (TX F DIA KEP ISK : Nat → Int) (T : Int) (hJ : J F z0 T) (hT : T ≤ 900000) (x c : Int) (hc : Rg c) (k : Nat) (hk : 0 ≤ c → c = (k : Int)) : CH l yX4_simulate cX4_simulate 7 (some .int) 10 231 g [.ref mb, .long (iL x), .int (iI c)] (MW g mb rf sz ac TX F DIA KEP ISK) (some (.int (iI (if (Kd (1 ≤ c ∧ c ≤ 99)) = 0 then 1000 * tkA (siF x F k) + S5 (siF x F k) 5 - S5 F 5 else 0)))) (Mdp mb) (fun H => ((Kd (1 ≤ c ∧ c ≤ 99)) = 0 → MW g mb 0 sz ac TX F DIA KEP ISK H) ∧ ((Kd (1 ≤ c ∧ c ≤ 99)) ≠ 0 → MW g mb (Kd (1 ≤ c ∧ c ≤ 99)) sz ac TX F DIA KEP ISK H)) := by
  refine ch_of "LentRoomModel" (by decide) rfl (Nat.le_of_ble_eq_true rfl) ?_
  intro zp ze zs zm za zb zt zc ls C hP hF hl
  obtain ⟨M, TRI, AP, hMb, hM0, hM1, hM2, hm, htx, hno, htr, hdi, hke, hik, hap⟩ := hP
  have hl : lv_has ls 7 [(0, .ref mb), (1, .long (iL x)), (3, .int (iI c))] := hl
  have hS := hJ.S
  have hSm : Sm F := hS.m (by omega)
  have hZ := hJ.Z
  have hn5 := hJ.n
  have h0T : 0 ≤ T := (by have := hS.1 0 (by omega); omega)
  have hJ6 : J F z0 (T + 60) := hJ.mono (by omega)
  have cut45 : ∀ (N : Nat) (i : Nat) (M : Nat → Int) (AP : Nat → Int) (v6 : Int), 100 - i < N → (i ≤ k) → (1 ≤ c ∧ c ≤ 99) → (∀ k, Rg (M k)) → (M 0 = 0) → (M 1 = sz) → (M 2 = ac) → (v6 = (i : Int)) → ∀ (H : Heap) (locs : List Loc), mdAt g mb M H → aAt g (mb + 1) 120 TX H → aAt g (mb + 2) 262 F H → aAt g (mb + 3) 262 (siF x F i) H → aAt g (mb + 4) 3668 DIA H → aAt g (mb + 5) 524 KEP H → zAt g (mb + 6) 2 ISK H → aAt g (mb + 7) 262 AP H → Fr (Mdp mb) zs.heap H locs → ∀ ls : Array Slot, lv_has ls 7 [(0, .ref mb), (1, .long (iL x)), (3, .int (iI c)), (4, .long (iL (siX x i))), (6, .int (iI v6))] → W zp l ze (rmc 10 231) zs zm za zb zt zc H locs 0 0 (MQ zb (HQ (some (.int (iI (if (Kd (1 ≤ c ∧ c ≤ 99)) = 0 then 1000 * tkA (siF x F k) + S5 (siF x F k) 5 - S5 F 5 else 0)))) (Mdp mb) (fun H => ((Kd (1 ≤ c ∧ c ≤ 99)) = 0 → MW g mb 0 sz ac TX F DIA KEP ISK H) ∧ ((Kd (1 ≤ c ∧ c ≤ 99)) ≠ 0 → MW g mb (Kd (1 ≤ c ∧ c ≤ 99)) sz ac TX F DIA KEP ISK H))) za zs 0 0 (Mdp mb)) (F0 zm 45 ls []) := by
    intro N
    induction N with
    | zero => intro i M AP v6; exact fun hms => absurd hms (Nat.not_lt_zero _)
    | succ N ih =>
      intro i M AP v6 hms hi hcc hMb hM0 hM1 hM2 hv6 H locs hm htx hno htr hdi hke hik hap hF ls hl
      have hJ1 := hJ6.si (by omega) x i (by omega)
      have hSm1 : Sm (siF x F i) := hJ1.S.m (by omega)
      have hZ1 := hJ1.Z
      refine r_iload C (lv_at hl 4 rfl) dX4_simulate_45 ?_
      refine r_iload_n C rfl (lv_at hl 2 rfl) dX4_simulate_47 ?_
      refine r_icmp_ge (tgt := 79) C (by decide) (by omega) (by omega) dX4_simulate_48 (fun c1 => ?_) (fun c1 => ?_)
      · refine r_sipush C (by decide) dX4_simulate_79 ?_
        refine r_aload_n C rfl (lv_at hl 0 rfl) dX4_simulate_82 ?_
        refine r_get C (ci := 4) (v := .ref (mb + 3)) rfl uin4 hm.o 4 (by decide) q_789 rfl rfl dX4_simulate_83 ?_
        refine r_sPi (rest := [.int (iI 1000)]) C (k_X4_written l g (mb + 3) (siF x F i) hSm1 hZ1) s_RX4_175 htr hl.1 rfl ⟨by decide, by decide⟩ rfl (Nat.le_of_ble_eq_true rfl) ⟨Nat.le_refl 0, Nat.le_refl 0⟩ dX4_simulate_86 ?_
        have b2 := tkA_b hSm1
        refine r_imul C dX4_simulate_89 ?_
        refine r_aload_n C rfl (lv_at hl 0 rfl) dX4_simulate_90 ?_
        refine r_get C (ci := 4) (v := .ref (mb + 3)) rfl uin4 hm.o 4 (by decide) q_789 rfl rfl dX4_simulate_91 ?_
        refine r_iconst C dX4_simulate_94 ?_
        refine r_sPi (rest := [.int (iI (1000 * (tkA (siF x F i))))]) C (k_X4_sum l g (mb + 3) (siF x F i) hSm1 hZ1 5 5 (by omega) (by omega)) s_RX4_53 htr hl.1 rfl ⟨by decide, by decide⟩ rfl (Nat.le_of_ble_eq_true rfl) ⟨Nat.le_refl 0, Nat.le_refl 0⟩ dX4_simulate_95 ?_
        have b3 := S5_b hSm1 5 (by omega)
        refine r_iadd C dX4_simulate_98 ?_
        refine r_aload_n C rfl (lv_at hl 0 rfl) dX4_simulate_99 ?_
        refine r_get C (ci := 4) (v := .ref (mb + 2)) rfl uin4 hm.o 3 (by decide) q_788 rfl rfl dX4_simulate_100 ?_
        refine r_iconst C dX4_simulate_103 ?_
        refine r_sPi (rest := [.int (iI ((1000 * (tkA (siF x F i))) + (S5 (siF x F i) 5)))]) C (k_X4_sum l g (mb + 2) F hSm hZ 5 5 (by omega) (by omega)) s_RX4_53 hno hl.1 rfl ⟨by decide, by decide⟩ rfl (Nat.le_of_ble_eq_true rfl) ⟨Nat.le_refl 0, Nat.le_refl 0⟩ dX4_simulate_104 ?_
        have b4 := S5_b hSm 5 (by omega)
        refine r_isub C dX4_simulate_107 ?_
        have hK : (Kd (1 ≤ c ∧ c ≤ 99)) = 0 := (by unfold Kd; split <;> omega)
        have hK0 : (Kd (1 ≤ c ∧ c ≤ 99)) = 0 := (by omega)
        exact r_iretH C rfl rfl (congrArg iI (by rw [if_pos hK0] <;> (rw [show k = i by omega]))) hF (by exact ⟨fun _ => ⟨M, siF x F i, AP, (by repeat first | exact hMb | exact rg_up hMb (by decide) | refine rg_up ?_ (by omega) | refine rg_setL ?_ (by omega)), (by first | exact hM0 | omega), (by first | exact hM1 | omega), (by first | exact hM2 | omega), hm, htx, hno, htr, hdi, hke, hik, hap⟩, fun h => absurd hK0 h⟩) dX4_simulate_108
      · refine r_lload C (lv_at hl 3 rfl) dX4_simulate_51 ?_
        refine r_ldc2 C (v := iL 6364136223846793005) q_1064 dX4_simulate_53 ?_
        refine r_lmul C dX4_simulate_56 ?_
        refine r_ldc2 C (v := iL 1442695040888963407) q_1065 dX4_simulate_57 ?_
        refine r_ladd C dX4_simulate_60 ?_
        rw [show siX x i * 6364136223846793005 + 1442695040888963407 = siX x (i + 1) from rfl]
        refine r_lstore (lv' := [(4, .long (iL (siX x (i + 1)))), (0, .ref mb), (1, .long (iL x)), (3, .int (iI c)), (6, .int (iI v6))]) C hl (by decide) rfl dX4_simulate_61 (fun ls hl => ?_)
        refine r_aload_n C rfl (lv_at hl 1 rfl) dX4_simulate_63 ?_
        refine r_lload C (lv_at hl 0 rfl) dX4_simulate_64 ?_
        refine r_bipush C (by decide) dX4_simulate_66 ?_
        refine r_lushr C dX4_simulate_68 ?_
        have htu := tuX_b (siX x (i + 1))
        refine r_l2i C (by omega) dX4_simulate_69 ?_
        refine r_vHn (rest := []) C (k_X4_turn l g mb 0 sz ac (siF x F i) (T + 60 + 6 * i) hJ1 (by omega) (by omega) (tuX (siX x (i + 1))) (by omega)) s_RX4_206 ⟨M, AP, (by repeat first | exact hMb | exact rg_up hMb (by decide) | refine rg_up ?_ (by omega) | refine rg_setL ?_ (by omega)), (by first | exact hM0 | rfl | omega), (by first | exact hM1 | rfl | omega), (by first | exact hM2 | rfl | omega), hm, htr, hap⟩ hF (fun q h => (is_mdp (by rcases h with h | h | h <;> omega))) (recv C (ci := 4) rfl hm.o) hl.1 rfl ⟨by decide, by decide⟩ rfl (Nat.le_of_ble_eq_true rfl) ⟨Nat.le_refl 0, Nat.le_refl 0⟩ dX4_simulate_70 (fun H5 locs5 h5 ho5 hz5 hF => ?_)
        have htx := htx.kept (ho5 _ (fun h => (by rcases h with h | h | h <;> omega)))
        have hno := hno.kept (ho5 _ (fun h => (by rcases h with h | h | h <;> omega)))
        have hdi := hdi.kept (ho5 _ (fun h => (by rcases h with h | h | h <;> omega)))
        have hke := hke.kept (ho5 _ (fun h => (by rcases h with h | h | h <;> omega)))
        have hik := hik.kept (ho5 _ (fun h => (by rcases h with h | h | h <;> omega)))
        obtain ⟨M, AP, hMb, hM0, hM1, hM2, hm, htr, hap⟩ := h5
        refine r_iinc (lv' := [(6, .int (iI (v6 + 1))), (4, .long (iL (siX x (i + 1)))), (0, .ref mb), (1, .long (iL x)), (3, .int (iI c))]) C hl (q := 4) rfl (by decide) rfl dX4_simulate_73 (fun ls hl => ?_)
        refine r_goto (tgt := 45) C (by decide) dX4_simulate_76 ?_
        exact ih (i + 1) M AP (v6 + 1) (by omega) (by omega) (by omega) (by exact hMb) (by exact (by first | exact hM0 | rfl | omega)) (by exact (by first | exact hM1 | rfl | omega)) (by exact (by first | exact hM2 | rfl | omega)) (by omega) _ _ hm htx hno htr hdi hke hik hap hF _ (lv_sub hl [2, 3, 4, 1, 0] rfl)
  refine r_aload_n C rfl (lv_at hl 0 rfl) dX4_simulate_0 ?_
  refine r_iload_n C rfl (lv_at hl 2 rfl) dX4_simulate_1 ?_
  refine r_i2l C (by omega) dX4_simulate_2 ?_
  refine r_lconst C 1 rfl dX4_simulate_3 ?_
  refine r_ldc2 C (v := iL 99) q_1063 dX4_simulate_4 ?_
  refine r_sPi (rest := [.ref mb]) C (k_X4_in l g c 1 99 (by omega) (by omega) (by omega)) s_RX4_39 trivial hl.1 rfl ⟨by decide, by decide⟩ rfl (Nat.le_of_ble_eq_true rfl) ⟨Nat.le_refl 0, Nat.le_refl 0⟩ dX4_simulate_7 ?_
  refine r_ifP_eq (tgt := 17) C (by decide) dX4_simulate_10 (fun c6 => ?_) (fun c6 => ?_)
  · refine r_iconst C dX4_simulate_17 ?_
    refine r_vHi (rest := []) C (k_X4_refused l g mb M 1 (by decide)) s_RX4_109 hm hF (fun q h => (is_mdp (by have h : q = _ := h; omega))) (recv C (ci := 4) rfl hm.o) hl.1 rfl ⟨by decide, by decide⟩ rfl (Nat.le_of_ble_eq_true rfl) ⟨Nat.le_refl 0, Nat.le_refl 0⟩ dX4_simulate_18 (fun H7 locs7 h7 ho7 hz7 hF => ?_)
    have htx := htx.kept (ho7 _ (fun h => (by have h : _ = _ := h; omega)))
    have hno := hno.kept (ho7 _ (fun h => (by have h : _ = _ := h; omega)))
    have htr := htr.kept (ho7 _ (fun h => (by have h : _ = _ := h; omega)))
    have hdi := hdi.kept (ho7 _ (fun h => (by have h : _ = _ := h; omega)))
    have hke := hke.kept (ho7 _ (fun h => (by have h : _ = _ := h; omega)))
    have hik := hik.kept (ho7 _ (fun h => (by have h : _ = _ := h; omega)))
    have hap := hap.kept (ho7 _ (fun h => (by have h : _ = _ := h; omega)))
    have hm := h7
    refine r_ifP_eq (tgt := 26) C (by decide) dX4_simulate_21 (fun c8 => ?_) (fun c8 => ?_)
    · exact absurd c8 (by decide)
    · refine r_iconst C dX4_simulate_24 ?_
      have hK : (Kd (1 ≤ c ∧ c ≤ 99)) = 1 := (by unfold Kd; split <;> omega)
      exact r_iretH C rfl rfl (congrArg iI (by rw [if_neg (by omega)])) hF (by exact ⟨fun h => absurd h (by omega), fun _ => ⟨up M 0 1, TRI, AP, (by repeat first | exact hMb | exact rg_up hMb (by decide) | refine rg_up ?_ (by omega) | refine rg_setL ?_ (by omega)), (by rw [up_s] <;> omega), (by rw [up_n _ _ (by omega)] <;> omega), (by rw [up_n _ _ (by omega)] <;> omega), hm, htx, hno, htr, hdi, hke, hik, hap⟩⟩) dX4_simulate_25
  · refine r_iconst C dX4_simulate_13 ?_
    refine r_goto (tgt := 18) C (by decide) dX4_simulate_14 ?_
    refine r_vHi (rest := []) C (k_X4_refused l g mb M 0 (by decide)) s_RX4_109 hm hF (fun q h => (is_mdp (by have h : q = _ := h; omega))) (recv C (ci := 4) rfl hm.o) hl.1 rfl ⟨by decide, by decide⟩ rfl (Nat.le_of_ble_eq_true rfl) ⟨Nat.le_refl 0, Nat.le_refl 0⟩ dX4_simulate_18 (fun H9 locs9 h9 ho9 hz9 hF => ?_)
    have htx := htx.kept (ho9 _ (fun h => (by have h : _ = _ := h; omega)))
    have hno := hno.kept (ho9 _ (fun h => (by have h : _ = _ := h; omega)))
    have htr := htr.kept (ho9 _ (fun h => (by have h : _ = _ := h; omega)))
    have hdi := hdi.kept (ho9 _ (fun h => (by have h : _ = _ := h; omega)))
    have hke := hke.kept (ho9 _ (fun h => (by have h : _ = _ := h; omega)))
    have hik := hik.kept (ho9 _ (fun h => (by have h : _ = _ := h; omega)))
    have hap := hap.kept (ho9 _ (fun h => (by have h : _ = _ := h; omega)))
    have hm := h9
    refine r_ifP_eq (tgt := 26) C (by decide) dX4_simulate_21 (fun c10 => ?_) (fun c10 => ?_)
    · refine r_aload_n C rfl (lv_at hl 0 rfl) dX4_simulate_26 ?_
      refine r_get C (ci := 4) (v := .ref (mb + 2)) rfl uin4 hm.o 3 (by decide) q_788 rfl rfl dX4_simulate_27 ?_
      refine r_iconst C dX4_simulate_30 ?_
      refine r_aload_n C rfl (lv_at hl 0 rfl) dX4_simulate_31 ?_
      refine r_get C (ci := 4) (v := .ref (mb + 3)) rfl uin4 hm.o 4 (by decide) q_789 rfl rfl dX4_simulate_32 ?_
      refine r_iconst C dX4_simulate_35 ?_
      refine r_sHn (rest := []) C (k_X4_copyState l g (mb + 2) 262 F (mb + 3) 262 TRI 0 0 0 0 (by omega) (by omega) (by omega) (by omega) (by omega)) s_RX4_166 ⟨hno, htr⟩ hF (fun q h => (is_mdp (by have h : q = _ := h; omega))) hl.1 rfl ⟨by decide, by decide⟩ rfl (Nat.le_of_ble_eq_true rfl) ⟨Nat.le_refl 0, Nat.le_refl 0⟩ dX4_simulate_36 (fun H11 locs11 h11 ho11 hz11 hF => ?_)
      have hm := hm.kept (ho11 _ (fun h => (by have h : _ = _ := h; omega)))
      have htx := htx.kept (ho11 _ (fun h => (by have h : _ = _ := h; omega)))
      have hdi := hdi.kept (ho11 _ (fun h => (by have h : _ = _ := h; omega)))
      have hke := hke.kept (ho11 _ (fun h => (by have h : _ = _ := h; omega)))
      have hik := hik.kept (ho11 _ (fun h => (by have h : _ = _ := h; omega)))
      have hap := hap.kept (ho11 _ (fun h => (by have h : _ = _ := h; omega)))
      obtain ⟨hno, htr⟩ := h11
      have htr : aAt g (mb + 3) 262 (F) H11 := htr.cg (fun k hk => (by rw [cpy_all _ _ hk, Nat.zero_add]))
      refine r_lload_n C rfl (lv_at hl 1 rfl) dX4_simulate_39 ?_
      refine r_lstore (lv' := [(4, .long (iL x)), (0, .ref mb), (1, .long (iL x)), (3, .int (iI c))]) C hl (by decide) rfl dX4_simulate_40 (fun ls hl => ?_)
      refine r_iconst C dX4_simulate_42 ?_
      refine r_istore (lv' := [(6, .int (iI 0)), (4, .long (iL x)), (0, .ref mb), (1, .long (iL x)), (3, .int (iI c))]) C hl (by decide) rfl dX4_simulate_43 (fun ls hl => ?_)
      exact cut45 _ 0 (up M 0 0) AP 0 (Nat.lt_succ_self _) (by omega) (by omega) (by exact (by repeat first | exact hMb | exact rg_up hMb (by decide) | refine rg_up ?_ (by omega) | refine rg_setL ?_ (by omega))) (by exact (by rw [up_s] <;> omega)) (by exact (by rw [up_n _ _ (by omega)] <;> omega)) (by exact (by rw [up_n _ _ (by omega)] <;> omega)) (by omega) _ _ hm htx hno htr hdi hke hik hap hF _ (lv_sub hl [2, 3, 4, 1, 0] rfl)
    · exact absurd c10 (by decide)

theorem s_RX4_175 : SiteS "LentRoomModel" 175 yX4_written cX4_written 3 (some .int) 1 := ⟨⟨q_962, q_963, q_34, q_964⟩, by decide, by decide, by decide +kernel⟩
theorem s_RX4_135 : SiteS "LentRoomModel" 135 yX4_whyNotMake cX4_whyNotMake 3 (some .int) 3 := ⟨⟨q_862, q_863, q_34, q_864⟩, by decide, by decide, by decide +kernel⟩
theorem s_RX4_183 : SiteV "LentRoomModel" 183 "LentRoomModel" yX4_remember cX4_remember 2 none 0 := ⟨⟨q_990, q_992, q_25, q_34, q_993⟩, rfl, by decide, by decide, by decide +kernel⟩
theorem s_RX4_138 : SiteS "LentRoomModel" 138 yX4_makeOn cX4_makeOn 4 (some .int) 3 := ⟨⟨q_878, q_879, q_34, q_880⟩, by decide, by decide, by decide +kernel⟩
theorem s_RX4_128 : SiteV "LentRoomModel" 128 "LentRoomModel" yX4_writeOn cX4_writeOn 6 (some .int) 3 := ⟨⟨q_888, q_890, q_20, q_34, q_891⟩, rfl, by decide, by decide, by decide +kernel⟩
theorem s_RX4_145 : SiteS "LentRoomModel" 145 yX4_canTrim cX4_canTrim 3 (some .boolean) 3 := ⟨⟨q_921, q_922, q_34, q_923⟩, by decide, by decide, by decide +kernel⟩
theorem s_RX4_149 : SiteS "LentRoomModel" 149 yX4_trimOn cX4_trimOn 4 (some .int) 3 := ⟨⟨q_924, q_925, q_34, q_926⟩, by decide, by decide, by decide +kernel⟩
theorem s_RX4_186 : SiteS "LentRoomModel" 186 yX4_whyNotCeiling cX4_whyNotCeiling 3 (some .int) 3 := ⟨⟨q_1010, q_1011, q_34, q_1012⟩, by decide, by decide, by decide +kernel⟩
theorem s_RX4_189 : SiteV "LentRoomModel" 189 "LentRoomModel" yX4_go cX4_go 5 (some .int) 3 := ⟨⟨q_1025, q_1027, q_26, q_34, q_1028⟩, rfl, by decide, by decide, by decide +kernel⟩
set_option maxHeartbeats 4000000 in
theorem k_X4_go (l : Launch) (g : Gt) (mb : Nat) (M : Nat → Int) (hMb : ∀ k, Rg (M k)) (a : Nat) (F : Nat → Int) (T : Int) (hne : a ≠ mb) (hJ : J F z0 T) (hT : T ≤ 960000) (x : Int) (s : Nat) (hx : x = (s : Int)) (hs : s < 5) (hn : (s : Int) < F 0) (v : Int) (n : Nat) (hv : v = (n : Int)) (hn1 : n ≤ 100) : CH l yX4_go cX4_go 5 (some .int) 8 182 g [.ref mb, .ref a, .int (iI x), .int (iI v)] (fun H => mdAt g mb M H ∧ aAt g a 262 F H) (some (.int (iI ((gN F s n 0 : Nat) : Int)))) (fun q => q = mb ∨ q = a) (fun H => mdAt g mb (up M 3 (gL F s (gN F s n 0))) H ∧ aAt g a 262 (gF F s (gN F s n 0)) H) := by
  refine ch_of "LentRoomModel" (by decide) rfl (Nat.le_of_ble_eq_true rfl) ?_
  intro zp ze zs zm za zb zt zc ls C hP hF hl
  obtain ⟨hm, hr⟩ := hP
  have hl : lv_has ls 5 [(0, .ref mb), (1, .ref a), (2, .int (iI x)), (3, .int (iI v))] := hl
  have hS := hJ.S
  have hSm : Sm F := hS.m (by omega)
  have hZ := hJ.Z
  have hn5 := hJ.n
  have hgr := fun k hk => hJ.gr hs hn (fun _ _ _ => rfl) k hk
  have hgl := fun k hk => gL_5 hJ hs hn (fun _ _ _ => rfl) k hk
  have cut8 : ∀ (N : Nat) (i : Nat) (v4 : Int), n + 1 - i < N → (i ≤ n) → (gN F s n 0 = gN F s (n - i) i) → (v4 = (i : Int)) → ∀ (H : Heap) (locs : List Loc), mdAt g mb (up M 3 (gL F s i)) H → aAt g a 262 (gF F s i) H → Fr (fun q => q = mb ∨ q = a) zs.heap H locs → ∀ ls : Array Slot, lv_has ls 5 [(0, .ref mb), (1, .ref a), (2, .int (iI x)), (3, .int (iI v)), (4, .int (iI v4))] → W zp l ze (rmc 8 182) zs zm za zb zt zc H locs 0 0 (MQ zb (HQ (some (.int (iI ((gN F s n 0 : Nat) : Int)))) (fun q => q = mb ∨ q = a) (fun H => mdAt g mb (up M 3 (gL F s (gN F s n 0))) H ∧ aAt g a 262 (gF F s (gN F s n 0)) H)) za zs 0 0 (fun q => q = mb ∨ q = a)) (F0 zm 8 ls []) := by
    intro N
    induction N with
    | zero => intro i v4; exact fun hms => absurd hms (Nat.not_lt_zero _)
    | succ N ih =>
      intro i v4 hms hi hg hv4 H locs hm hr hF ls hl
      obtain ⟨dl1, hd1, hJ1, h01⟩ := hgr i (by omega)
      have hS1 := hJ1.S
      have hSm1 : Sm (gF F s i) := hS1.m (by omega)
      have hZ1 := hJ1.Z
      have hMb1 : ∀ k, Rg (up M 3 (gL F s i) k) := rg_up hMb (by have := hgl i (by omega); omega)
      refine r_iload C (lv_at hl 4 rfl) dX4_go_8 ?_
      refine r_iload_n C rfl (lv_at hl 3 rfl) dX4_go_10 ?_
      refine r_icmp_ge (tgt := 33) C (by decide) (by omega) (by omega) dX4_go_11 (fun c1 => ?_) (fun c1 => ?_)
      · refine r_iload_n C rfl (lv_at hl 3 rfl) dX4_go_33 ?_
        have eN : gN F s n 0 = i := (by rw [hg, show n - i = 0 by omega]; rfl)
        exact r_iretH C rfl rfl (congrArg iI (by omega)) hF (by rw [eN]; exact ⟨hm, hr⟩) dX4_go_34
      · refine r_aload_n C rfl (lv_at hl 0 rfl) dX4_go_14 ?_
        refine r_aload_n C rfl (lv_at hl 1 rfl) dX4_go_15 ?_
        refine r_iload_n C rfl (lv_at hl 2 rfl) dX4_go_16 ?_
        refine r_vHi (rest := []) C (k_X4_need l g mb (up M 3 (gL F s i)) hMb1 a (gF F s i) dl1 (T + 4 * i) (by omega) hJ1 (by omega) x s (by omega) (by omega) (by omega)) s_RX4_86 ⟨hm, hr⟩ hF (fun _ h => h) (recv C (ci := 4) rfl hm.o) hl.1 rfl ⟨by decide, by decide⟩ rfl (Nat.le_of_ble_eq_true rfl) ⟨Nat.le_refl 0, Nat.le_refl 0⟩ dX4_go_17 (fun H3 locs3 h3 ho3 hz3 hF => ?_)
        obtain ⟨hm, hr⟩ := h3
        have b2 := needR_b (gF F s i) s
        refine r_iconst C dX4_go_20 ?_
        refine r_icmp_ne (tgt := 27) C (by decide) (by omega) (by decide) dX4_go_21 (fun c4 => ?_) (fun c4 => ?_)
        · have hm : mdAt g mb (up M 3 (gL F s (i + 1))) H3 := (by rw [← setL_gL]; exact hm)
          have hr : aAt g a 262 (gF F s (i + 1)) H3 := hr
          refine r_iinc (lv' := [(4, .int (iI (v4 + 1))), (0, .ref mb), (1, .ref a), (2, .int (iI x)), (3, .int (iI v))]) C hl (q := 4) rfl (by decide) rfl dX4_go_27 (fun ls hl => ?_)
          refine r_goto (tgt := 8) C (by decide) dX4_go_30 ?_
          exact ih (i + 1) (v4 + 1) (by omega) (by omega) (by rw [hg, show n - i = (n - (i + 1)) + 1 by omega, gN, if_neg (by omega)]) (by omega) _ _ hm hr hF _ (lv_sub hl [1, 2, 3, 4, 0] rfl)
        · refine r_iload C (lv_at hl 4 rfl) dX4_go_24 ?_
          have e5 : needR (gF F s i) s = 5 := (by omega)
          obtain ⟨e6, e7⟩ := needR_5 e5
          have eN : gN F s n 0 = i := (by rw [hg, show n - i = (n - i - 1) + 1 by omega, gN, if_pos e5])
          exact r_iretH C rfl rfl (congrArg iI (by omega)) hF (by rw [eN]; rw [e6] at hr; rw [e7, setL_n] at hm; exact ⟨hm, hr⟩) dX4_go_26
  refine r_aload_n C rfl (lv_at hl 0 rfl) dX4_go_0 ?_
  refine r_iconst C dX4_go_1 ?_
  refine r_put C (ci := 4) rfl uin4 tyX4_ok nmX4 hm.o hF (Or.inl rfl) 9 (by decide) q_794 rfl rfl rfl rfl (by show 9 < 13; decide) dX4_go_2 (fun H5 locs5 h5 ho5 hz5 hF => ?_)
  have hr := hr.kept (ho5 _ (by omega))
  have hm : mdAt g mb (up M 3 (-1)) H5 := hm.put3 h5 ho5
  refine r_iconst C dX4_go_5 ?_
  refine r_istore (lv' := [(4, .int (iI 0)), (0, .ref mb), (1, .ref a), (2, .int (iI x)), (3, .int (iI v))]) C hl (by decide) rfl dX4_go_6 (fun ls hl => ?_)
  exact cut8 _ 0 0 (Nat.lt_succ_self _) (by omega) (by rfl) (by omega) _ _ hm hr hF _ (lv_sub hl [1, 2, 3, 4, 0] rfl)
set_option maxHeartbeats 4000000 in
theorem k_X4_about (l : Launch) (g : Gt) (mb : Nat) (rf sz ac : Int) (TX F DIA KEP ISK : Nat → Int) (T : Int) (hJ : J F z0 T) (hT : T ≤ 900000) (x : Int) (hx : Rg x) : CH l yX4_about cX4_about 4 (some .int) 5 108 g [.ref mb, .int (iI x)] (MW g mb rf sz ac TX F DIA KEP ISK) (some (.int (iI (if (Kd (0 ≤ x ∧ x ≤ 8)) = 0 then nAll F x else 0)))) (Mdp mb) (fun H => ((Kd (0 ≤ x ∧ x ≤ 8)) = 0 → MW g mb 0 sz ac TX F DIA KEP ISK H) ∧ ((Kd (0 ≤ x ∧ x ≤ 8)) ≠ 0 → MW g mb (Kd (0 ≤ x ∧ x ≤ 8)) sz ac TX F DIA KEP ISK H)) := by
  refine ch_of "LentRoomModel" (by decide) rfl (Nat.le_of_ble_eq_true rfl) ?_
  intro zp ze zs zm za zb zt zc ls C hP hF hl
  obtain ⟨M, TRI, AP, hMb, hM0, hM1, hM2, hm, htx, hno, htr, hdi, hke, hik, hap⟩ := hP
  have hl : lv_has ls 4 [(0, .ref mb), (1, .int (iI x))] := hl
  have hS := hJ.S
  have hSm : Sm F := hS.m (by omega)
  have hZ := hJ.Z
  have hn5 := hJ.n
  have cut30 : ∀ (N : Nat) (i : Nat) (v2 : Int) (v3 : Int), 5 - i < N → ((i : Int) ≤ F 0) → (0 ≤ x ∧ x ≤ 8) → (v2 = sumI (borr F) i) → (v3 = (i : Int)) → ∀ (H : Heap) (locs : List Loc), mdAt g mb (up M 0 0) H → aAt g (mb + 1) 120 TX H → aAt g (mb + 2) 262 F H → aAt g (mb + 3) 262 TRI H → aAt g (mb + 4) 3668 DIA H → aAt g (mb + 5) 524 KEP H → zAt g (mb + 6) 2 ISK H → aAt g (mb + 7) 262 AP H → Fr (Mdp mb) zs.heap H locs → ∀ ls : Array Slot, lv_has ls 4 [(0, .ref mb), (1, .int (iI x)), (2, .int (iI v2)), (3, .int (iI v3))] → W zp l ze (rmc 5 108) zs zm za zb zt zc H locs 0 0 (MQ zb (HQ (some (.int (iI (if (Kd (0 ≤ x ∧ x ≤ 8)) = 0 then nAll F x else 0)))) (Mdp mb) (fun H => ((Kd (0 ≤ x ∧ x ≤ 8)) = 0 → MW g mb 0 sz ac TX F DIA KEP ISK H) ∧ ((Kd (0 ≤ x ∧ x ≤ 8)) ≠ 0 → MW g mb (Kd (0 ≤ x ∧ x ≤ 8)) sz ac TX F DIA KEP ISK H))) za zs 0 0 (Mdp mb)) (F0 zm 30 ls []) := by
    intro N
    induction N with
    | zero => intro i v2 v3; exact fun hms => absurd hms (Nat.not_lt_zero _)
    | succ N ih =>
      intro i v2 v3 hms hi hxx hv2 hv3 H locs hm htx hno htr hdi hke hik hap hF ls hl
      have hbb := sumI_b (f := borr F) (n := i) (M := 5000000) (fun k hk => borr_b hSm k (by omega))
      refine r_iload_n C rfl (lv_at hl 3 rfl) dX4_about_30 ?_
      refine r_aload_n C rfl (lv_at hl 0 rfl) dX4_about_31 ?_
      refine r_get C (ci := 4) (v := .ref (mb + 2)) rfl uin4 hm.o 3 (by decide) q_788 rfl rfl dX4_about_32 ?_
      refine r_iconst C dX4_about_35 ?_
      refine r_iald (v := F 0) C hno 0 rfl (by omega) (by omega) rfl dX4_about_36 ?_
      have b1 := hSm.1 0 (by omega)
      have b2 := hSm.2
      refine r_icmp_ge (tgt := 57) C (by decide) (by omega) (by omega) dX4_about_37 (fun c3 => ?_) (fun c3 => ?_)
      · have eBB : v2 = borrA F := (by rw [hv2, show i = (F 0).toNat by omega]; exact borrA_n hSm hZ)
        refine r_iload_n C rfl (lv_at hl 1 rfl) dX4_about_57 ?_
        by_cases e4 : x = 0
        · refine r_tsIn (tgt := 96) C (by omega) 0 e4 (by decide) (by decide) rfl (by decide) dX4_about_58 ?_
          refine r_aload_n C rfl (lv_at hl 0 rfl) dX4_about_96 ?_
          refine r_get C (ci := 4) (v := .ref (mb + 2)) rfl uin4 hm.o 3 (by decide) q_788 rfl rfl dX4_about_97 ?_
          refine r_iconst C dX4_about_100 ?_
          refine r_iald (v := F 0) C hno 0 rfl (by omega) (by omega) rfl dX4_about_101 ?_
          have b5 := hSm.1 0 (by omega)
          have b6 := hSm.2
          have hK : (Kd (0 ≤ x ∧ x ≤ 8)) = 0 := (by unfold Kd; split <;> omega)
          have hK0 : (Kd (0 ≤ x ∧ x ≤ 8)) = 0 := (by omega)
          exact r_iretH C rfl rfl (congrArg iI (by rw [if_pos hK0] <;> (unfold nAll; rw [if_pos (by omega)]))) hF (by exact ⟨fun _ => ⟨up M 0 0, TRI, AP, (by repeat first | exact hMb | exact rg_up hMb (by decide) | refine rg_up ?_ (by omega) | refine rg_setL ?_ (by omega)), (by rw [up_s] <;> omega), (by rw [up_n _ _ (by omega)] <;> omega), (by rw [up_n _ _ (by omega)] <;> omega), hm, htx, hno, htr, hdi, hke, hik, hap⟩, fun h => absurd hK0 h⟩) dX4_about_102
        by_cases e7 : x = 1
        · refine r_tsIn (tgt := 103) C (by omega) 1 e7 (by decide) (by decide) rfl (by decide) dX4_about_58 ?_
          refine r_aload_n C rfl (lv_at hl 0 rfl) dX4_about_103 ?_
          refine r_get C (ci := 4) (v := .ref (mb + 2)) rfl uin4 hm.o 3 (by decide) q_788 rfl rfl dX4_about_104 ?_
          refine r_sPi (rest := []) C (k_X4_written l g (mb + 2) F hSm hZ) s_RX4_175 hno hl.1 rfl ⟨by decide, by decide⟩ rfl (Nat.le_of_ble_eq_true rfl) ⟨Nat.le_refl 0, Nat.le_refl 0⟩ dX4_about_107 ?_
          have b8 := tkA_b hSm
          have hK : (Kd (0 ≤ x ∧ x ≤ 8)) = 0 := (by unfold Kd; split <;> omega)
          have hK0 : (Kd (0 ≤ x ∧ x ≤ 8)) = 0 := (by omega)
          exact r_iretH C rfl rfl (congrArg iI (by rw [if_pos hK0] <;> (unfold nAll; rw [if_neg (by omega), if_pos (by omega)]))) hF (by exact ⟨fun _ => ⟨up M 0 0, TRI, AP, (by repeat first | exact hMb | exact rg_up hMb (by decide) | refine rg_up ?_ (by omega) | refine rg_setL ?_ (by omega)), (by rw [up_s] <;> omega), (by rw [up_n _ _ (by omega)] <;> omega), (by rw [up_n _ _ (by omega)] <;> omega), hm, htx, hno, htr, hdi, hke, hik, hap⟩, fun h => absurd hK0 h⟩) dX4_about_110
        by_cases e9 : x = 2
        · refine r_tsIn (tgt := 111) C (by omega) 2 e9 (by decide) (by decide) rfl (by decide) dX4_about_58 ?_
          refine r_bipush C (by decide) dX4_about_111 ?_
          refine r_aload_n C rfl (lv_at hl 0 rfl) dX4_about_113 ?_
          refine r_get C (ci := 4) (v := .ref (mb + 2)) rfl uin4 hm.o 3 (by decide) q_788 rfl rfl dX4_about_114 ?_
          refine r_iconst C dX4_about_117 ?_
          refine r_sPi (rest := [.int (iI 60)]) C (k_X4_sum l g (mb + 2) F hSm hZ 0 0 (by omega) (by omega)) s_RX4_53 hno hl.1 rfl ⟨by decide, by decide⟩ rfl (Nat.le_of_ble_eq_true rfl) ⟨Nat.le_refl 0, Nat.le_refl 0⟩ dX4_about_118 ?_
          have b10 := S5_b hSm 0 (by omega)
          refine r_isub C dX4_about_121 ?_
          have hK : (Kd (0 ≤ x ∧ x ≤ 8)) = 0 := (by unfold Kd; split <;> omega)
          have hK0 : (Kd (0 ≤ x ∧ x ≤ 8)) = 0 := (by omega)
          exact r_iretH C rfl rfl (congrArg iI (by rw [if_pos hK0] <;> (unfold nAll; rw [if_neg (by omega), if_neg (by omega), if_pos (by omega)]))) hF (by exact ⟨fun _ => ⟨up M 0 0, TRI, AP, (by repeat first | exact hMb | exact rg_up hMb (by decide) | refine rg_up ?_ (by omega) | refine rg_setL ?_ (by omega)), (by rw [up_s] <;> omega), (by rw [up_n _ _ (by omega)] <;> omega), (by rw [up_n _ _ (by omega)] <;> omega), hm, htx, hno, htr, hdi, hke, hik, hap⟩, fun h => absurd hK0 h⟩) dX4_about_122
        by_cases e11 : x = 3
        · refine r_tsIn (tgt := 123) C (by omega) 3 e11 (by decide) (by decide) rfl (by decide) dX4_about_58 ?_
          refine r_aload_n C rfl (lv_at hl 0 rfl) dX4_about_123 ?_
          refine r_get C (ci := 4) (v := .ref (mb + 2)) rfl uin4 hm.o 3 (by decide) q_788 rfl rfl dX4_about_124 ?_
          refine r_sPi (rest := []) C (k_X4_free l g (mb + 2) F hSm hZ) s_RX4_72 hno hl.1 rfl ⟨by decide, by decide⟩ rfl (Nat.le_of_ble_eq_true rfl) ⟨Nat.le_refl 0, Nat.le_refl 0⟩ dX4_about_127 ?_
          have b12 := free_b hSm
          have hK : (Kd (0 ≤ x ∧ x ≤ 8)) = 0 := (by unfold Kd; split <;> omega)
          have hK0 : (Kd (0 ≤ x ∧ x ≤ 8)) = 0 := (by omega)
          exact r_iretH C rfl rfl (congrArg iI (by rw [if_pos hK0] <;> (unfold nAll; rw [if_neg (by omega), if_neg (by omega), if_neg (by omega), if_pos (by omega)]))) hF (by exact ⟨fun _ => ⟨up M 0 0, TRI, AP, (by repeat first | exact hMb | exact rg_up hMb (by decide) | refine rg_up ?_ (by omega) | refine rg_setL ?_ (by omega)), (by rw [up_s] <;> omega), (by rw [up_n _ _ (by omega)] <;> omega), (by rw [up_n _ _ (by omega)] <;> omega), hm, htx, hno, htr, hdi, hke, hik, hap⟩, fun h => absurd hK0 h⟩) dX4_about_130
        by_cases e13 : x = 4
        · refine r_tsIn (tgt := 131) C (by omega) 4 e13 (by decide) (by decide) rfl (by decide) dX4_about_58 ?_
          refine r_iload_n C rfl (lv_at hl 2 rfl) dX4_about_131 ?_
          have hK : (Kd (0 ≤ x ∧ x ≤ 8)) = 0 := (by unfold Kd; split <;> omega)
          have hK0 : (Kd (0 ≤ x ∧ x ≤ 8)) = 0 := (by omega)
          exact r_iretH C rfl rfl (congrArg iI (by rw [if_pos hK0] <;> (unfold nAll; rw [if_neg (by omega), if_neg (by omega), if_neg (by omega), if_neg (by omega), if_pos (by omega)]; exact eBB))) hF (by exact ⟨fun _ => ⟨up M 0 0, TRI, AP, (by repeat first | exact hMb | exact rg_up hMb (by decide) | refine rg_up ?_ (by omega) | refine rg_setL ?_ (by omega)), (by rw [up_s] <;> omega), (by rw [up_n _ _ (by omega)] <;> omega), (by rw [up_n _ _ (by omega)] <;> omega), hm, htx, hno, htr, hdi, hke, hik, hap⟩, fun h => absurd hK0 h⟩) dX4_about_132
        by_cases e14 : x = 5
        · refine r_tsIn (tgt := 133) C (by omega) 5 e14 (by decide) (by decide) rfl (by decide) dX4_about_58 ?_
          refine r_aload_n C rfl (lv_at hl 0 rfl) dX4_about_133 ?_
          refine r_get C (ci := 4) (v := .ref (mb + 2)) rfl uin4 hm.o 3 (by decide) q_788 rfl rfl dX4_about_134 ?_
          refine r_iconst C dX4_about_137 ?_
          refine r_iald (v := F 1) C hno 1 rfl (by omega) (by omega) rfl dX4_about_138 ?_
          have b15 := hSm.1 1 (by omega)
          have hK : (Kd (0 ≤ x ∧ x ≤ 8)) = 0 := (by unfold Kd; split <;> omega)
          have hK0 : (Kd (0 ≤ x ∧ x ≤ 8)) = 0 := (by omega)
          exact r_iretH C rfl rfl (congrArg iI (by rw [if_pos hK0] <;> (unfold nAll; rw [if_neg (by omega), if_neg (by omega), if_neg (by omega), if_neg (by omega), if_neg (by omega), if_pos (by omega)]))) hF (by exact ⟨fun _ => ⟨up M 0 0, TRI, AP, (by repeat first | exact hMb | exact rg_up hMb (by decide) | refine rg_up ?_ (by omega) | refine rg_setL ?_ (by omega)), (by rw [up_s] <;> omega), (by rw [up_n _ _ (by omega)] <;> omega), (by rw [up_n _ _ (by omega)] <;> omega), hm, htx, hno, htr, hdi, hke, hik, hap⟩, fun h => absurd hK0 h⟩) dX4_about_139
        refine r_tsOut (tgt := 140) C (by omega) (by omega) (by decide) dX4_about_58 ?_
        refine r_aload_n C rfl (lv_at hl 0 rfl) dX4_about_140 ?_
        refine r_get C (ci := 4) (v := .ref (mb + 2)) rfl uin4 hm.o 3 (by decide) q_788 rfl rfl dX4_about_141 ?_
        refine r_iconst C dX4_about_144 ?_
        refine r_iload_n C rfl (lv_at hl 1 rfl) dX4_about_145 ?_
        refine r_iadd C dX4_about_146 ?_
        refine r_bipush C (by decide) dX4_about_147 ?_
        refine r_isub C dX4_about_149 ?_
        refine r_sPi (rest := []) C (k_X4_sum l g (mb + 2) F hSm hZ ((4 + x) - 6) (((4 + x) - 6).toNat) (by omega) (by omega)) s_RX4_53 hno hl.1 rfl ⟨by decide, by decide⟩ rfl (Nat.le_of_ble_eq_true rfl) ⟨Nat.le_refl 0, Nat.le_refl 0⟩ dX4_about_150 ?_
        have b16 := S5_b hSm (((4 + x) - 6).toNat) (by omega)
        have hK : (Kd (0 ≤ x ∧ x ≤ 8)) = 0 := (by unfold Kd; split <;> omega)
        have hK0 : (Kd (0 ≤ x ∧ x ≤ 8)) = 0 := (by omega)
        exact r_iretH C rfl rfl (congrArg iI (by rw [if_pos hK0] <;> (unfold nAll; rw [if_neg (by omega), if_neg (by omega), if_neg (by omega), if_neg (by omega), if_neg (by omega), if_neg (by omega)]; (rcases (by omega : x = 6 ∨ x = 7 ∨ x = 8) with h | h | h <;> subst h <;> rfl)))) hF (by exact ⟨fun _ => ⟨up M 0 0, TRI, AP, (by repeat first | exact hMb | exact rg_up hMb (by decide) | refine rg_up ?_ (by omega) | refine rg_setL ?_ (by omega)), (by rw [up_s] <;> omega), (by rw [up_n _ _ (by omega)] <;> omega), (by rw [up_n _ _ (by omega)] <;> omega), hm, htx, hno, htr, hdi, hke, hik, hap⟩, fun h => absurd hK0 h⟩) dX4_about_153
      · refine r_iload_n C rfl (lv_at hl 2 rfl) dX4_about_40 ?_
        refine r_aload_n C rfl (lv_at hl 0 rfl) dX4_about_41 ?_
        refine r_get C (ci := 4) (v := .ref (mb + 2)) rfl uin4 hm.o 3 (by decide) q_788 rfl rfl dX4_about_42 ?_
        refine r_iload_n C rfl (lv_at hl 3 rfl) dX4_about_45 ?_
        refine r_sPi (rest := [.int (iI v2)]) C (k_X4_borrowed l g (mb + 2) F hSm v3 i (by omega) (by omega)) s_RX4_57 hno hl.1 rfl ⟨by decide, by decide⟩ rfl (Nat.le_of_ble_eq_true rfl) ⟨Nat.le_refl 0, Nat.le_refl 0⟩ dX4_about_46 ?_
        have b17 := borr_b hSm i (by omega)
        refine r_iadd C dX4_about_49 ?_
        refine r_istore_n (lv' := [(2, .int (iI (v2 + (borr F i)))), (0, .ref mb), (1, .int (iI x)), (3, .int (iI v3))]) C rfl hl (by decide) rfl dX4_about_50 (fun ls hl => ?_)
        refine r_iinc (lv' := [(3, .int (iI (v3 + 1))), (2, .int (iI (v2 + (borr F i)))), (0, .ref mb), (1, .int (iI x))]) C hl (q := 3) rfl (by decide) rfl dX4_about_51 (fun ls hl => ?_)
        refine r_goto (tgt := 30) C (by decide) dX4_about_54 ?_
        exact ih (i + 1) (v2 + (borr F i)) (v3 + 1) (by omega) (by omega) (by omega) (by rw [sumI, hv2]) (by omega) _ _ hm htx hno htr hdi hke hik hap hF _ (lv_sub hl [2, 3, 1, 0] rfl)
  refine r_aload_n C rfl (lv_at hl 0 rfl) dX4_about_0 ?_
  refine r_iload_n C rfl (lv_at hl 1 rfl) dX4_about_1 ?_
  refine r_i2l C (by omega) dX4_about_2 ?_
  refine r_lconst C 0 rfl dX4_about_3 ?_
  refine r_ldc2 C (v := iL 8) q_961 dX4_about_4 ?_
  refine r_sPi (rest := [.ref mb]) C (k_X4_in l g x 0 8 (by omega) (by omega) (by omega)) s_RX4_39 trivial hl.1 rfl ⟨by decide, by decide⟩ rfl (Nat.le_of_ble_eq_true rfl) ⟨Nat.le_refl 0, Nat.le_refl 0⟩ dX4_about_7 ?_
  refine r_ifP_eq (tgt := 17) C (by decide) dX4_about_10 (fun c18 => ?_) (fun c18 => ?_)
  · refine r_iconst C dX4_about_17 ?_
    refine r_vHi (rest := []) C (k_X4_refused l g mb M 1 (by decide)) s_RX4_109 hm hF (fun q h => (is_mdp (by have h : q = _ := h; omega))) (recv C (ci := 4) rfl hm.o) hl.1 rfl ⟨by decide, by decide⟩ rfl (Nat.le_of_ble_eq_true rfl) ⟨Nat.le_refl 0, Nat.le_refl 0⟩ dX4_about_18 (fun H19 locs19 h19 ho19 hz19 hF => ?_)
    have htx := htx.kept (ho19 _ (fun h => (by have h : _ = _ := h; omega)))
    have hno := hno.kept (ho19 _ (fun h => (by have h : _ = _ := h; omega)))
    have htr := htr.kept (ho19 _ (fun h => (by have h : _ = _ := h; omega)))
    have hdi := hdi.kept (ho19 _ (fun h => (by have h : _ = _ := h; omega)))
    have hke := hke.kept (ho19 _ (fun h => (by have h : _ = _ := h; omega)))
    have hik := hik.kept (ho19 _ (fun h => (by have h : _ = _ := h; omega)))
    have hap := hap.kept (ho19 _ (fun h => (by have h : _ = _ := h; omega)))
    have hm := h19
    refine r_ifP_eq (tgt := 26) C (by decide) dX4_about_21 (fun c20 => ?_) (fun c20 => ?_)
    · exact absurd c20 (by decide)
    · refine r_iconst C dX4_about_24 ?_
      have hK : (Kd (0 ≤ x ∧ x ≤ 8)) = 1 := (by unfold Kd; split <;> omega)
      exact r_iretH C rfl rfl (congrArg iI (by rw [if_neg (by omega)])) hF (by exact ⟨fun h => absurd h (by omega), fun _ => ⟨up M 0 1, TRI, AP, (by repeat first | exact hMb | exact rg_up hMb (by decide) | refine rg_up ?_ (by omega) | refine rg_setL ?_ (by omega)), (by rw [up_s] <;> omega), (by rw [up_n _ _ (by omega)] <;> omega), (by rw [up_n _ _ (by omega)] <;> omega), hm, htx, hno, htr, hdi, hke, hik, hap⟩⟩) dX4_about_25
  · refine r_iconst C dX4_about_13 ?_
    refine r_goto (tgt := 18) C (by decide) dX4_about_14 ?_
    refine r_vHi (rest := []) C (k_X4_refused l g mb M 0 (by decide)) s_RX4_109 hm hF (fun q h => (is_mdp (by have h : q = _ := h; omega))) (recv C (ci := 4) rfl hm.o) hl.1 rfl ⟨by decide, by decide⟩ rfl (Nat.le_of_ble_eq_true rfl) ⟨Nat.le_refl 0, Nat.le_refl 0⟩ dX4_about_18 (fun H21 locs21 h21 ho21 hz21 hF => ?_)
    have htx := htx.kept (ho21 _ (fun h => (by have h : _ = _ := h; omega)))
    have hno := hno.kept (ho21 _ (fun h => (by have h : _ = _ := h; omega)))
    have htr := htr.kept (ho21 _ (fun h => (by have h : _ = _ := h; omega)))
    have hdi := hdi.kept (ho21 _ (fun h => (by have h : _ = _ := h; omega)))
    have hke := hke.kept (ho21 _ (fun h => (by have h : _ = _ := h; omega)))
    have hik := hik.kept (ho21 _ (fun h => (by have h : _ = _ := h; omega)))
    have hap := hap.kept (ho21 _ (fun h => (by have h : _ = _ := h; omega)))
    have hm := h21
    refine r_ifP_eq (tgt := 26) C (by decide) dX4_about_21 (fun c22 => ?_) (fun c22 => ?_)
    · refine r_iconst C dX4_about_26 ?_
      refine r_istore_n (lv' := [(2, .int (iI 0)), (0, .ref mb), (1, .int (iI x))]) C rfl hl (by decide) rfl dX4_about_27 (fun ls hl => ?_)
      refine r_iconst C dX4_about_28 ?_
      refine r_istore_n (lv' := [(3, .int (iI 0)), (2, .int (iI 0)), (0, .ref mb), (1, .int (iI x))]) C rfl hl (by decide) rfl dX4_about_29 (fun ls hl => ?_)
      exact cut30 _ 0 0 0 (Nat.lt_succ_self _) (by omega) (by omega) (by rfl) (by omega) _ _ hm htx hno htr hdi hke hik hap hF _ (lv_sub hl [2, 3, 1, 0] rfl)
    · exact absurd c22 (by decide)
set_option maxHeartbeats 4000000 in
theorem k_X4_space (l : Launch) (g : Gt) (mb : Nat) (rf sz ac : Int) (TX F DIA KEP ISK : Nat → Int) (T : Int) (hJ : J F z0 T) (hT : T ≤ 900000) (x : Int) (hx : Rg x) (s : Nat) (hs : 0 ≤ x → x = (s : Int)) (y : Int) (hy : Rg y) : CH l yX4_space cX4_space 3 (some .int) 5 107 g [.ref mb, .int (iI x), .int (iI y)] (MW g mb rf sz ac TX F DIA KEP ISK) (some (.int (iI (if (if ¬ (0 ≤ x ∧ x < F 0) then 1 else if ¬ (0 ≤ y ∧ y ≤ 10) then 2 else 0) = 0 then nOf F s y else 0)))) (Mdp mb) (fun H => ((if ¬ (0 ≤ x ∧ x < F 0) then 1 else if ¬ (0 ≤ y ∧ y ≤ 10) then 2 else 0) = 0 → MW g mb 0 sz ac TX F DIA KEP ISK H) ∧ ((if ¬ (0 ≤ x ∧ x < F 0) then 1 else if ¬ (0 ≤ y ∧ y ≤ 10) then 2 else 0) ≠ 0 → MW g mb (if ¬ (0 ≤ x ∧ x < F 0) then 1 else if ¬ (0 ≤ y ∧ y ≤ 10) then 2 else 0) sz ac TX F DIA KEP ISK H)) := by
  refine ch_of "LentRoomModel" (by decide) rfl (Nat.le_of_ble_eq_true rfl) ?_
  intro zp ze zs zm za zb zt zc ls C hP hF hl
  obtain ⟨M, TRI, AP, hMb, hM0, hM1, hM2, hm, htx, hno, htr, hdi, hke, hik, hap⟩ := hP
  have hl : lv_has ls 3 [(0, .ref mb), (1, .int (iI x)), (2, .int (iI y))] := hl
  have hS := hJ.S
  have hSm : Sm F := hS.m (by omega)
  have hZ := hJ.Z
  have hn5 := hJ.n
  refine r_aload_n C rfl (lv_at hl 0 rfl) dX4_space_0 ?_
  refine r_aload_n C rfl (lv_at hl 0 rfl) dX4_space_1 ?_
  refine r_get C (ci := 4) (v := .ref (mb + 2)) rfl uin4 hm.o 3 (by decide) q_788 rfl rfl dX4_space_2 ?_
  refine r_iload_n C rfl (lv_at hl 1 rfl) dX4_space_5 ?_
  refine r_sPi (rest := [.ref mb]) C (k_X4_isSpace l g (mb + 2) F hSm x (by omega)) s_RX4_94 hno hl.1 rfl ⟨by decide, by decide⟩ rfl (Nat.le_of_ble_eq_true rfl) ⟨Nat.le_refl 0, Nat.le_refl 0⟩ dX4_space_6 ?_
  have b1 := hSm.n
  refine r_ifP_ne (tgt := 16) C (by decide) dX4_space_9 (fun c2 => ?_) (fun c2 => ?_)
  · refine r_iload_n C rfl (lv_at hl 2 rfl) dX4_space_16 ?_
    refine r_i2l C (by omega) dX4_space_17 ?_
    refine r_lconst C 0 rfl dX4_space_18 ?_
    refine r_ldc2 C (v := iL 10) q_969 dX4_space_19 ?_
    refine r_sPi (rest := [.ref mb]) C (k_X4_in l g y 0 10 (by omega) (by omega) (by omega)) s_RX4_39 trivial hl.1 rfl ⟨by decide, by decide⟩ rfl (Nat.le_of_ble_eq_true rfl) ⟨Nat.le_refl 0, Nat.le_refl 0⟩ dX4_space_22 ?_
    refine r_ifP_eq (tgt := 32) C (by decide) dX4_space_25 (fun c3 => ?_) (fun c3 => ?_)
    · refine r_iconst C dX4_space_32 ?_
      refine r_vHi (rest := []) C (k_X4_refused l g mb M 2 (by decide)) s_RX4_109 hm hF (fun q h => (is_mdp (by have h : q = _ := h; omega))) (recv C (ci := 4) rfl hm.o) hl.1 rfl ⟨by decide, by decide⟩ rfl (Nat.le_of_ble_eq_true rfl) ⟨Nat.le_refl 0, Nat.le_refl 0⟩ dX4_space_33 (fun H4 locs4 h4 ho4 hz4 hF => ?_)
      have htx := htx.kept (ho4 _ (fun h => (by have h : _ = _ := h; omega)))
      have hno := hno.kept (ho4 _ (fun h => (by have h : _ = _ := h; omega)))
      have htr := htr.kept (ho4 _ (fun h => (by have h : _ = _ := h; omega)))
      have hdi := hdi.kept (ho4 _ (fun h => (by have h : _ = _ := h; omega)))
      have hke := hke.kept (ho4 _ (fun h => (by have h : _ = _ := h; omega)))
      have hik := hik.kept (ho4 _ (fun h => (by have h : _ = _ := h; omega)))
      have hap := hap.kept (ho4 _ (fun h => (by have h : _ = _ := h; omega)))
      have hm := h4
      refine r_ifP_eq (tgt := 41) C (by decide) dX4_space_36 (fun c5 => ?_) (fun c5 => ?_)
      · exact absurd c5 (by decide)
      · refine r_iconst C dX4_space_39 ?_
        have hK : (if ¬ (0 ≤ x ∧ x < F 0) then 1 else if ¬ (0 ≤ y ∧ y ≤ 10) then 2 else 0) = 2 := (by (repeat' split) <;> omega)
        exact r_iretH C rfl rfl (congrArg iI (by rw [if_neg (by omega)])) hF (by exact ⟨fun h => absurd h (by omega), fun _ => ⟨up M 0 2, TRI, AP, (by repeat first | exact hMb | exact rg_up hMb (by decide) | refine rg_up ?_ (by omega) | refine rg_setL ?_ (by omega)), (by rw [up_s] <;> omega), (by rw [up_n _ _ (by omega)] <;> omega), (by rw [up_n _ _ (by omega)] <;> omega), hm, htx, hno, htr, hdi, hke, hik, hap⟩⟩) dX4_space_40
    · refine r_iconst C dX4_space_28 ?_
      refine r_goto (tgt := 33) C (by decide) dX4_space_29 ?_
      refine r_vHi (rest := []) C (k_X4_refused l g mb M 0 (by decide)) s_RX4_109 hm hF (fun q h => (is_mdp (by have h : q = _ := h; omega))) (recv C (ci := 4) rfl hm.o) hl.1 rfl ⟨by decide, by decide⟩ rfl (Nat.le_of_ble_eq_true rfl) ⟨Nat.le_refl 0, Nat.le_refl 0⟩ dX4_space_33 (fun H6 locs6 h6 ho6 hz6 hF => ?_)
      have htx := htx.kept (ho6 _ (fun h => (by have h : _ = _ := h; omega)))
      have hno := hno.kept (ho6 _ (fun h => (by have h : _ = _ := h; omega)))
      have htr := htr.kept (ho6 _ (fun h => (by have h : _ = _ := h; omega)))
      have hdi := hdi.kept (ho6 _ (fun h => (by have h : _ = _ := h; omega)))
      have hke := hke.kept (ho6 _ (fun h => (by have h : _ = _ := h; omega)))
      have hik := hik.kept (ho6 _ (fun h => (by have h : _ = _ := h; omega)))
      have hap := hap.kept (ho6 _ (fun h => (by have h : _ = _ := h; omega)))
      have hm := h6
      refine r_ifP_eq (tgt := 41) C (by decide) dX4_space_36 (fun c7 => ?_) (fun c7 => ?_)
      · refine r_iload_n C rfl (lv_at hl 2 rfl) dX4_space_41 ?_
        by_cases e8 : y = 0
        · refine r_tsIn (tgt := 88) C (by omega) 0 e8 (by decide) (by decide) rfl (by decide) dX4_space_42 ?_
          refine r_aload_n C rfl (lv_at hl 0 rfl) dX4_space_88 ?_
          refine r_get C (ci := 4) (v := .ref (mb + 2)) rfl uin4 hm.o 3 (by decide) q_788 rfl rfl dX4_space_89 ?_
          refine r_iload_n C rfl (lv_at hl 1 rfl) dX4_space_92 ?_
          refine r_iload_n C rfl (lv_at hl 2 rfl) dX4_space_93 ?_
          refine r_sPi (rest := []) C (k_X4_of l g (mb + 2) F hSm x y s ((y).toNat) (by omega) (by omega) (by omega) (by omega)) s_RX4_49 hno hl.1 rfl ⟨by decide, by decide⟩ rfl (Nat.le_of_ble_eq_true rfl) ⟨Nat.le_refl 0, Nat.le_refl 0⟩ dX4_space_94 ?_
          have b9 := hSm.f s ((y).toNat) (by omega) (by omega)
          have hK : (if ¬ (0 ≤ x ∧ x < F 0) then 1 else if ¬ (0 ≤ y ∧ y ≤ 10) then 2 else 0) = 0 := (by (repeat' split) <;> omega)
          have hK0 : (if ¬ (0 ≤ x ∧ x < F 0) then 1 else if ¬ (0 ≤ y ∧ y ≤ 10) then 2 else 0) = 0 := (by omega)
          exact r_iretH C rfl rfl (congrArg iI (by rw [if_pos hK0] <;> ((rcases (by omega : y = 0 ∨ y = 1 ∨ y = 3 ∨ y = 4 ∨ y = 8 ∨ y = 9 ∨ y = 10) with h | h | h | h | h | h | h <;> subst h <;> first | omega | rfl)))) hF (by exact ⟨fun _ => ⟨up M 0 0, TRI, AP, (by repeat first | exact hMb | exact rg_up hMb (by decide) | refine rg_up ?_ (by omega) | refine rg_setL ?_ (by omega)), (by rw [up_s] <;> omega), (by rw [up_n _ _ (by omega)] <;> omega), (by rw [up_n _ _ (by omega)] <;> omega), hm, htx, hno, htr, hdi, hke, hik, hap⟩, fun h => absurd hK0 h⟩) dX4_space_97
        by_cases e10 : y = 1
        · refine r_tsIn (tgt := 88) C (by omega) 1 e10 (by decide) (by decide) rfl (by decide) dX4_space_42 ?_
          refine r_aload_n C rfl (lv_at hl 0 rfl) dX4_space_88 ?_
          refine r_get C (ci := 4) (v := .ref (mb + 2)) rfl uin4 hm.o 3 (by decide) q_788 rfl rfl dX4_space_89 ?_
          refine r_iload_n C rfl (lv_at hl 1 rfl) dX4_space_92 ?_
          refine r_iload_n C rfl (lv_at hl 2 rfl) dX4_space_93 ?_
          refine r_sPi (rest := []) C (k_X4_of l g (mb + 2) F hSm x y s ((y).toNat) (by omega) (by omega) (by omega) (by omega)) s_RX4_49 hno hl.1 rfl ⟨by decide, by decide⟩ rfl (Nat.le_of_ble_eq_true rfl) ⟨Nat.le_refl 0, Nat.le_refl 0⟩ dX4_space_94 ?_
          have b11 := hSm.f s ((y).toNat) (by omega) (by omega)
          have hK : (if ¬ (0 ≤ x ∧ x < F 0) then 1 else if ¬ (0 ≤ y ∧ y ≤ 10) then 2 else 0) = 0 := (by (repeat' split) <;> omega)
          have hK0 : (if ¬ (0 ≤ x ∧ x < F 0) then 1 else if ¬ (0 ≤ y ∧ y ≤ 10) then 2 else 0) = 0 := (by omega)
          exact r_iretH C rfl rfl (congrArg iI (by rw [if_pos hK0] <;> ((rcases (by omega : y = 0 ∨ y = 1 ∨ y = 3 ∨ y = 4 ∨ y = 8 ∨ y = 9 ∨ y = 10) with h | h | h | h | h | h | h <;> subst h <;> first | omega | rfl)))) hF (by exact ⟨fun _ => ⟨up M 0 0, TRI, AP, (by repeat first | exact hMb | exact rg_up hMb (by decide) | refine rg_up ?_ (by omega) | refine rg_setL ?_ (by omega)), (by rw [up_s] <;> omega), (by rw [up_n _ _ (by omega)] <;> omega), (by rw [up_n _ _ (by omega)] <;> omega), hm, htx, hno, htr, hdi, hke, hik, hap⟩, fun h => absurd hK0 h⟩) dX4_space_97
        by_cases e12 : y = 2
        · refine r_tsIn (tgt := 98) C (by omega) 2 e12 (by decide) (by decide) rfl (by decide) dX4_space_42 ?_
          refine r_aload_n C rfl (lv_at hl 0 rfl) dX4_space_98 ?_
          refine r_get C (ci := 4) (v := .ref (mb + 2)) rfl uin4 hm.o 3 (by decide) q_788 rfl rfl dX4_space_99 ?_
          refine r_iload_n C rfl (lv_at hl 1 rfl) dX4_space_102 ?_
          refine r_sPi (rest := []) C (k_X4_taken l g (mb + 2) F hSm x s (by omega) (by omega)) s_RX4_79 hno hl.1 rfl ⟨by decide, by decide⟩ rfl (Nat.le_of_ble_eq_true rfl) ⟨Nat.le_refl 0, Nat.le_refl 0⟩ dX4_space_103 ?_
          have b13 := tk_b hSm s (by omega)
          have hK : (if ¬ (0 ≤ x ∧ x < F 0) then 1 else if ¬ (0 ≤ y ∧ y ≤ 10) then 2 else 0) = 0 := (by (repeat' split) <;> omega)
          have hK0 : (if ¬ (0 ≤ x ∧ x < F 0) then 1 else if ¬ (0 ≤ y ∧ y ≤ 10) then 2 else 0) = 0 := (by omega)
          exact r_iretH C rfl rfl (congrArg iI (by rw [if_pos hK0] <;> (unfold nOf; rw [if_neg (by omega), if_neg (by omega), if_pos (by omega)]))) hF (by exact ⟨fun _ => ⟨up M 0 0, TRI, AP, (by repeat first | exact hMb | exact rg_up hMb (by decide) | refine rg_up ?_ (by omega) | refine rg_setL ?_ (by omega)), (by rw [up_s] <;> omega), (by rw [up_n _ _ (by omega)] <;> omega), (by rw [up_n _ _ (by omega)] <;> omega), hm, htx, hno, htr, hdi, hke, hik, hap⟩, fun h => absurd hK0 h⟩) dX4_space_106
        by_cases e14 : y = 3
        · refine r_tsIn (tgt := 107) C (by omega) 3 e14 (by decide) (by decide) rfl (by decide) dX4_space_42 ?_
          refine r_aload_n C rfl (lv_at hl 0 rfl) dX4_space_107 ?_
          refine r_get C (ci := 4) (v := .ref (mb + 2)) rfl uin4 hm.o 3 (by decide) q_788 rfl rfl dX4_space_108 ?_
          refine r_iload_n C rfl (lv_at hl 1 rfl) dX4_space_111 ?_
          refine r_iload_n C rfl (lv_at hl 2 rfl) dX4_space_112 ?_
          refine r_iconst C dX4_space_113 ?_
          refine r_isub C dX4_space_114 ?_
          refine r_sPi (rest := []) C (k_X4_of l g (mb + 2) F hSm x (y - 1) s ((y - 1).toNat) (by omega) (by omega) (by omega) (by omega)) s_RX4_49 hno hl.1 rfl ⟨by decide, by decide⟩ rfl (Nat.le_of_ble_eq_true rfl) ⟨Nat.le_refl 0, Nat.le_refl 0⟩ dX4_space_115 ?_
          have b15 := hSm.f s ((y - 1).toNat) (by omega) (by omega)
          have hK : (if ¬ (0 ≤ x ∧ x < F 0) then 1 else if ¬ (0 ≤ y ∧ y ≤ 10) then 2 else 0) = 0 := (by (repeat' split) <;> omega)
          have hK0 : (if ¬ (0 ≤ x ∧ x < F 0) then 1 else if ¬ (0 ≤ y ∧ y ≤ 10) then 2 else 0) = 0 := (by omega)
          exact r_iretH C rfl rfl (congrArg iI (by rw [if_pos hK0] <;> ((rcases (by omega : y = 0 ∨ y = 1 ∨ y = 3 ∨ y = 4 ∨ y = 8 ∨ y = 9 ∨ y = 10) with h | h | h | h | h | h | h <;> subst h <;> first | omega | rfl)))) hF (by exact ⟨fun _ => ⟨up M 0 0, TRI, AP, (by repeat first | exact hMb | exact rg_up hMb (by decide) | refine rg_up ?_ (by omega) | refine rg_setL ?_ (by omega)), (by rw [up_s] <;> omega), (by rw [up_n _ _ (by omega)] <;> omega), (by rw [up_n _ _ (by omega)] <;> omega), hm, htx, hno, htr, hdi, hke, hik, hap⟩, fun h => absurd hK0 h⟩) dX4_space_118
        by_cases e16 : y = 4
        · refine r_tsIn (tgt := 107) C (by omega) 4 e16 (by decide) (by decide) rfl (by decide) dX4_space_42 ?_
          refine r_aload_n C rfl (lv_at hl 0 rfl) dX4_space_107 ?_
          refine r_get C (ci := 4) (v := .ref (mb + 2)) rfl uin4 hm.o 3 (by decide) q_788 rfl rfl dX4_space_108 ?_
          refine r_iload_n C rfl (lv_at hl 1 rfl) dX4_space_111 ?_
          refine r_iload_n C rfl (lv_at hl 2 rfl) dX4_space_112 ?_
          refine r_iconst C dX4_space_113 ?_
          refine r_isub C dX4_space_114 ?_
          refine r_sPi (rest := []) C (k_X4_of l g (mb + 2) F hSm x (y - 1) s ((y - 1).toNat) (by omega) (by omega) (by omega) (by omega)) s_RX4_49 hno hl.1 rfl ⟨by decide, by decide⟩ rfl (Nat.le_of_ble_eq_true rfl) ⟨Nat.le_refl 0, Nat.le_refl 0⟩ dX4_space_115 ?_
          have b17 := hSm.f s ((y - 1).toNat) (by omega) (by omega)
          have hK : (if ¬ (0 ≤ x ∧ x < F 0) then 1 else if ¬ (0 ≤ y ∧ y ≤ 10) then 2 else 0) = 0 := (by (repeat' split) <;> omega)
          have hK0 : (if ¬ (0 ≤ x ∧ x < F 0) then 1 else if ¬ (0 ≤ y ∧ y ≤ 10) then 2 else 0) = 0 := (by omega)
          exact r_iretH C rfl rfl (congrArg iI (by rw [if_pos hK0] <;> ((rcases (by omega : y = 0 ∨ y = 1 ∨ y = 3 ∨ y = 4 ∨ y = 8 ∨ y = 9 ∨ y = 10) with h | h | h | h | h | h | h <;> subst h <;> first | omega | rfl)))) hF (by exact ⟨fun _ => ⟨up M 0 0, TRI, AP, (by repeat first | exact hMb | exact rg_up hMb (by decide) | refine rg_up ?_ (by omega) | refine rg_setL ?_ (by omega)), (by rw [up_s] <;> omega), (by rw [up_n _ _ (by omega)] <;> omega), (by rw [up_n _ _ (by omega)] <;> omega), hm, htx, hno, htr, hdi, hke, hik, hap⟩, fun h => absurd hK0 h⟩) dX4_space_118
        by_cases e18 : y = 5
        · refine r_tsIn (tgt := 119) C (by omega) 5 e18 (by decide) (by decide) rfl (by decide) dX4_space_42 ?_
          refine r_aload_n C rfl (lv_at hl 0 rfl) dX4_space_119 ?_
          refine r_get C (ci := 4) (v := .ref (mb + 2)) rfl uin4 hm.o 3 (by decide) q_788 rfl rfl dX4_space_120 ?_
          refine r_iload_n C rfl (lv_at hl 1 rfl) dX4_space_123 ?_
          refine r_sPi (rest := []) C (k_X4_borrowed l g (mb + 2) F hSm x s (by omega) (by omega)) s_RX4_57 hno hl.1 rfl ⟨by decide, by decide⟩ rfl (Nat.le_of_ble_eq_true rfl) ⟨Nat.le_refl 0, Nat.le_refl 0⟩ dX4_space_124 ?_
          have b19 := borr_b hSm s (by omega)
          have hK : (if ¬ (0 ≤ x ∧ x < F 0) then 1 else if ¬ (0 ≤ y ∧ y ≤ 10) then 2 else 0) = 0 := (by (repeat' split) <;> omega)
          have hK0 : (if ¬ (0 ≤ x ∧ x < F 0) then 1 else if ¬ (0 ≤ y ∧ y ≤ 10) then 2 else 0) = 0 := (by omega)
          exact r_iretH C rfl rfl (congrArg iI (by rw [if_pos hK0] <;> (unfold nOf; rw [if_neg (by omega), if_neg (by omega), if_neg (by omega), if_neg (by omega), if_neg (by omega), if_pos (by omega)]))) hF (by exact ⟨fun _ => ⟨up M 0 0, TRI, AP, (by repeat first | exact hMb | exact rg_up hMb (by decide) | refine rg_up ?_ (by omega) | refine rg_setL ?_ (by omega)), (by rw [up_s] <;> omega), (by rw [up_n _ _ (by omega)] <;> omega), (by rw [up_n _ _ (by omega)] <;> omega), hm, htx, hno, htr, hdi, hke, hik, hap⟩, fun h => absurd hK0 h⟩) dX4_space_127
        by_cases e20 : y = 6
        · refine r_tsIn (tgt := 128) C (by omega) 6 e20 (by decide) (by decide) rfl (by decide) dX4_space_42 ?_
          refine r_aload_n C rfl (lv_at hl 0 rfl) dX4_space_128 ?_
          refine r_get C (ci := 4) (v := .ref (mb + 2)) rfl uin4 hm.o 3 (by decide) q_788 rfl rfl dX4_space_129 ?_
          refine r_iload_n C rfl (lv_at hl 1 rfl) dX4_space_132 ?_
          refine r_sPi (rest := []) C (k_X4_lends l g (mb + 2) F hSm hZ x s (by omega) (by omega)) s_RX4_60 hno hl.1 rfl ⟨by decide, by decide⟩ rfl (Nat.le_of_ble_eq_true rfl) ⟨Nat.le_refl 0, Nat.le_refl 0⟩ dX4_space_133 ?_
          have b21 := S5_b hSm (7 + s) (by omega)
          have hK : (if ¬ (0 ≤ x ∧ x < F 0) then 1 else if ¬ (0 ≤ y ∧ y ≤ 10) then 2 else 0) = 0 := (by (repeat' split) <;> omega)
          have hK0 : (if ¬ (0 ≤ x ∧ x < F 0) then 1 else if ¬ (0 ≤ y ∧ y ≤ 10) then 2 else 0) = 0 := (by omega)
          exact r_iretH C rfl rfl (congrArg iI (by rw [if_pos hK0] <;> (unfold nOf; rw [if_neg (by omega), if_neg (by omega), if_neg (by omega), if_neg (by omega), if_neg (by omega), if_neg (by omega), if_pos (by omega)]))) hF (by exact ⟨fun _ => ⟨up M 0 0, TRI, AP, (by repeat first | exact hMb | exact rg_up hMb (by decide) | refine rg_up ?_ (by omega) | refine rg_setL ?_ (by omega)), (by rw [up_s] <;> omega), (by rw [up_n _ _ (by omega)] <;> omega), (by rw [up_n _ _ (by omega)] <;> omega), hm, htx, hno, htr, hdi, hke, hik, hap⟩, fun h => absurd hK0 h⟩) dX4_space_136
        by_cases e22 : y = 7
        · refine r_tsIn (tgt := 137) C (by omega) 7 e22 (by decide) (by decide) rfl (by decide) dX4_space_42 ?_
          refine r_aload_n C rfl (lv_at hl 0 rfl) dX4_space_137 ?_
          refine r_get C (ci := 4) (v := .ref (mb + 2)) rfl uin4 hm.o 3 (by decide) q_788 rfl rfl dX4_space_138 ?_
          refine r_iload_n C rfl (lv_at hl 1 rfl) dX4_space_141 ?_
          refine r_sPi (rest := []) C (k_X4_idle l g (mb + 2) F hSm hZ x s (by omega) (by omega)) s_RX4_63 hno hl.1 rfl ⟨by decide, by decide⟩ rfl (Nat.le_of_ble_eq_true rfl) ⟨Nat.le_refl 0, Nat.le_refl 0⟩ dX4_space_142 ?_
          have b23 := idle_b hSm s (by omega)
          have hK : (if ¬ (0 ≤ x ∧ x < F 0) then 1 else if ¬ (0 ≤ y ∧ y ≤ 10) then 2 else 0) = 0 := (by (repeat' split) <;> omega)
          have hK0 : (if ¬ (0 ≤ x ∧ x < F 0) then 1 else if ¬ (0 ≤ y ∧ y ≤ 10) then 2 else 0) = 0 := (by omega)
          exact r_iretH C rfl rfl (congrArg iI (by rw [if_pos hK0] <;> (unfold nOf; rw [if_neg (by omega), if_neg (by omega), if_neg (by omega), if_neg (by omega), if_neg (by omega), if_neg (by omega), if_neg (by omega), if_pos (by omega)]))) hF (by exact ⟨fun _ => ⟨up M 0 0, TRI, AP, (by repeat first | exact hMb | exact rg_up hMb (by decide) | refine rg_up ?_ (by omega) | refine rg_setL ?_ (by omega)), (by rw [up_s] <;> omega), (by rw [up_n _ _ (by omega)] <;> omega), (by rw [up_n _ _ (by omega)] <;> omega), hm, htx, hno, htr, hdi, hke, hik, hap⟩, fun h => absurd hK0 h⟩) dX4_space_145
        refine r_tsOut (tgt := 146) C (by omega) (by omega) (by decide) dX4_space_42 ?_
        refine r_aload_n C rfl (lv_at hl 0 rfl) dX4_space_146 ?_
        refine r_get C (ci := 4) (v := .ref (mb + 2)) rfl uin4 hm.o 3 (by decide) q_788 rfl rfl dX4_space_147 ?_
        refine r_iload_n C rfl (lv_at hl 1 rfl) dX4_space_150 ?_
        refine r_iload_n C rfl (lv_at hl 2 rfl) dX4_space_151 ?_
        refine r_iconst C dX4_space_152 ?_
        refine r_isub C dX4_space_153 ?_
        refine r_sPi (rest := []) C (k_X4_of l g (mb + 2) F hSm x (y - 4) s ((y - 4).toNat) (by omega) (by omega) (by omega) (by omega)) s_RX4_49 hno hl.1 rfl ⟨by decide, by decide⟩ rfl (Nat.le_of_ble_eq_true rfl) ⟨Nat.le_refl 0, Nat.le_refl 0⟩ dX4_space_154 ?_
        have b24 := hSm.f s ((y - 4).toNat) (by omega) (by omega)
        have hK : (if ¬ (0 ≤ x ∧ x < F 0) then 1 else if ¬ (0 ≤ y ∧ y ≤ 10) then 2 else 0) = 0 := (by (repeat' split) <;> omega)
        have hK0 : (if ¬ (0 ≤ x ∧ x < F 0) then 1 else if ¬ (0 ≤ y ∧ y ≤ 10) then 2 else 0) = 0 := (by omega)
        exact r_iretH C rfl rfl (congrArg iI (by rw [if_pos hK0] <;> ((rcases (by omega : y = 0 ∨ y = 1 ∨ y = 3 ∨ y = 4 ∨ y = 8 ∨ y = 9 ∨ y = 10) with h | h | h | h | h | h | h <;> subst h <;> first | omega | rfl)))) hF (by exact ⟨fun _ => ⟨up M 0 0, TRI, AP, (by repeat first | exact hMb | exact rg_up hMb (by decide) | refine rg_up ?_ (by omega) | refine rg_setL ?_ (by omega)), (by rw [up_s] <;> omega), (by rw [up_n _ _ (by omega)] <;> omega), (by rw [up_n _ _ (by omega)] <;> omega), hm, htx, hno, htr, hdi, hke, hik, hap⟩, fun h => absurd hK0 h⟩) dX4_space_157
      · exact absurd c7 (by decide)
  · refine r_iconst C dX4_space_12 ?_
    refine r_goto (tgt := 33) C (by decide) dX4_space_13 ?_
    refine r_vHi (rest := []) C (k_X4_refused l g mb M 1 (by decide)) s_RX4_109 hm hF (fun q h => (is_mdp (by have h : q = _ := h; omega))) (recv C (ci := 4) rfl hm.o) hl.1 rfl ⟨by decide, by decide⟩ rfl (Nat.le_of_ble_eq_true rfl) ⟨Nat.le_refl 0, Nat.le_refl 0⟩ dX4_space_33 (fun H25 locs25 h25 ho25 hz25 hF => ?_)
    have htx := htx.kept (ho25 _ (fun h => (by have h : _ = _ := h; omega)))
    have hno := hno.kept (ho25 _ (fun h => (by have h : _ = _ := h; omega)))
    have htr := htr.kept (ho25 _ (fun h => (by have h : _ = _ := h; omega)))
    have hdi := hdi.kept (ho25 _ (fun h => (by have h : _ = _ := h; omega)))
    have hke := hke.kept (ho25 _ (fun h => (by have h : _ = _ := h; omega)))
    have hik := hik.kept (ho25 _ (fun h => (by have h : _ = _ := h; omega)))
    have hap := hap.kept (ho25 _ (fun h => (by have h : _ = _ := h; omega)))
    have hm := h25
    refine r_ifP_eq (tgt := 41) C (by decide) dX4_space_36 (fun c26 => ?_) (fun c26 => ?_)
    · exact absurd c26 (by decide)
    · refine r_iconst C dX4_space_39 ?_
      have hK : (if ¬ (0 ≤ x ∧ x < F 0) then 1 else if ¬ (0 ≤ y ∧ y ≤ 10) then 2 else 0) = 1 := (by (repeat' split) <;> omega)
      exact r_iretH C rfl rfl (congrArg iI (by rw [if_neg (by omega)])) hF (by exact ⟨fun h => absurd h (by omega), fun _ => ⟨up M 0 1, TRI, AP, (by repeat first | exact hMb | exact rg_up hMb (by decide) | refine rg_up ?_ (by omega) | refine rg_setL ?_ (by omega)), (by rw [up_s] <;> omega), (by rw [up_n _ _ (by omega)] <;> omega), (by rw [up_n _ _ (by omega)] <;> omega), hm, htx, hno, htr, hdi, hke, hik, hap⟩⟩) dX4_space_40
set_option maxHeartbeats 4000000 in
theorem k_X4_oldest (l : Launch) (g : Gt) (mb : Nat) (rf sz ac : Int) (TX F DIA KEP ISK : Nat → Int) (T : Int) (hJ : J F z0 T) (hT : T ≤ 900000) (x : Int) (hx : Rg x) (s : Nat) (hs : 0 ≤ x → x = (s : Int)) (y : Int) (hy : Rg y) : CH l yX4_oldest cX4_oldest 7 (some .int) 2 46 g [.ref mb, .int (iI x), .int (iI y)] (MW g mb rf sz ac TX F DIA KEP ISK) (some (.int (iI (if (if ¬ (0 ≤ x ∧ x < F 0) then 1 else if y < 0 then 2 else 0) = 0 then od F s y 40 0 else 0)))) (Mdp mb) (fun H => ((if ¬ (0 ≤ x ∧ x < F 0) then 1 else if y < 0 then 2 else 0) = 0 → MW g mb 0 sz ac TX F DIA KEP ISK H) ∧ ((if ¬ (0 ≤ x ∧ x < F 0) then 1 else if y < 0 then 2 else 0) ≠ 0 → MW g mb (if ¬ (0 ≤ x ∧ x < F 0) then 1 else if y < 0 then 2 else 0) sz ac TX F DIA KEP ISK H)) := by
  refine ch_of "LentRoomModel" (by decide) rfl (Nat.le_of_ble_eq_true rfl) ?_
  intro zp ze zs zm za zb zt zc ls C hP hF hl
  obtain ⟨M, TRI, AP, hMb, hM0, hM1, hM2, hm, htx, hno, htr, hdi, hke, hik, hap⟩ := hP
  have hl : lv_has ls 7 [(0, .ref mb), (1, .int (iI x)), (2, .int (iI y))] := hl
  have hS := hJ.S
  have hSm : Sm F := hS.m (by omega)
  have hZ := hJ.Z
  have hn5 := hJ.n
  have cut61 : ∀ (N0 : Nat), (∀ (p : Nat) (v3 : Int), 40 - p < N0 → (p ≤ 40) → (od F s y 40 0 = od F s y (40 - p) p) → ((0 ≤ x ∧ x < F 0) ∧ 0 ≤ y) → (v3 = (p : Int)) → ∀ (H : Heap) (locs : List Loc), mdAt g mb (up M 0 0) H → aAt g (mb + 1) 120 TX H → aAt g (mb + 2) 262 F H → aAt g (mb + 3) 262 TRI H → aAt g (mb + 4) 3668 DIA H → aAt g (mb + 5) 524 KEP H → zAt g (mb + 6) 2 ISK H → aAt g (mb + 7) 262 AP H → Fr (Mdp mb) zs.heap H locs → ∀ ls : Array Slot, lv_has ls 7 [(0, .ref mb), (1, .int (iI x)), (2, .int (iI y)), (3, .int (iI v3))] → W zp l ze (rmc 2 46) zs zm za zb zt zc H locs 0 0 (MQ zb (HQ (some (.int (iI (if (if ¬ (0 ≤ x ∧ x < F 0) then 1 else if y < 0 then 2 else 0) = 0 then od F s y 40 0 else 0)))) (Mdp mb) (fun H => ((if ¬ (0 ≤ x ∧ x < F 0) then 1 else if y < 0 then 2 else 0) = 0 → MW g mb 0 sz ac TX F DIA KEP ISK H) ∧ ((if ¬ (0 ≤ x ∧ x < F 0) then 1 else if y < 0 then 2 else 0) ≠ 0 → MW g mb (if ¬ (0 ≤ x ∧ x < F 0) then 1 else if y < 0 then 2 else 0) sz ac TX F DIA KEP ISK H))) za zs 0 0 (Mdp mb)) (F0 zm 35 ls [])) → ∀ (N : Nat) (p : Nat) (q : Nat) (v3 : Int) (v4 : Int) (v5 : Int) (v6 : Int), 40 - q < N → (p < 40) → (q ≤ 40) → (od F s y 40 0 = od F s y (40 - p) p) → ((0 ≤ x ∧ x < F 0) ∧ 0 ≤ y) → (40 - p < N0 + 1) → (v3 = (p : Int)) → (v4 = F (2 + 52 * s + (12 + p))) → (v5 = cb F s v4 q) → (v6 = (q : Int)) → ∀ (H : Heap) (locs : List Loc), mdAt g mb (up M 0 0) H → aAt g (mb + 1) 120 TX H → aAt g (mb + 2) 262 F H → aAt g (mb + 3) 262 TRI H → aAt g (mb + 4) 3668 DIA H → aAt g (mb + 5) 524 KEP H → zAt g (mb + 6) 2 ISK H → aAt g (mb + 7) 262 AP H → Fr (Mdp mb) zs.heap H locs → ∀ ls : Array Slot, lv_has ls 7 [(0, .ref mb), (1, .int (iI x)), (2, .int (iI y)), (3, .int (iI v3)), (4, .int (iI v4)), (5, .int (iI v5)), (6, .int (iI v6))] → W zp l ze (rmc 2 46) zs zm za zb zt zc H locs 0 0 (MQ zb (HQ (some (.int (iI (if (if ¬ (0 ≤ x ∧ x < F 0) then 1 else if y < 0 then 2 else 0) = 0 then od F s y 40 0 else 0)))) (Mdp mb) (fun H => ((if ¬ (0 ≤ x ∧ x < F 0) then 1 else if y < 0 then 2 else 0) = 0 → MW g mb 0 sz ac TX F DIA KEP ISK H) ∧ ((if ¬ (0 ≤ x ∧ x < F 0) then 1 else if y < 0 then 2 else 0) ≠ 0 → MW g mb (if ¬ (0 ≤ x ∧ x < F 0) then 1 else if y < 0 then 2 else 0) sz ac TX F DIA KEP ISK H))) za zs 0 0 (Mdp mb)) (F0 zm 61 ls []) := by
    intro N0 ihO
    intro N
    induction N with
    | zero => intro p q v3 v4 v5 v6; exact fun hms => absurd hms (Nat.not_lt_zero _)
    | succ N ih =>
      intro p q v3 v4 v5 v6 hms hp2 hq hod hin hM0 hv3 hv4 hv5 hv6 H locs hm htx hno htr hdi hke hik hap hF ls hl
      have hcb := cb_b F s v4 q
      have hFp := hSm.f s (12 + p) (by omega) (by omega)
      have hFq : q < 40 → 0 ≤ F (2 + 52 * s + (12 + q)) ∧ F (2 + 52 * s + (12 + q)) ≤ 1000000 := fun hq => hSm.f s (12 + q) (by omega) (by omega)
      refine r_iload C (lv_at hl 6 rfl) dX4_oldest_61 ?_
      refine r_bipush C (by decide) dX4_oldest_63 ?_
      refine r_icmp_ge (tgt := 118) C (by decide) (by omega) (by decide) dX4_oldest_65 (fun c1 => ?_) (fun c1 => ?_)
      · refine r_iload C (lv_at hl 4 rfl) dX4_oldest_118 ?_
        refine r_if_le (tgt := 131) C (by decide) (by omega) dX4_oldest_120 (fun c2 => ?_) (fun c2 => ?_)
        · refine r_iinc (lv' := [(3, .int (iI (v3 + 1))), (0, .ref mb), (1, .int (iI x)), (2, .int (iI y)), (4, .int (iI v4)), (5, .int (iI v5)), (6, .int (iI v6))]) C hl (q := 3) rfl (by decide) rfl dX4_oldest_131 (fun ls hl => ?_)
          refine r_goto (tgt := 35) C (by decide) dX4_oldest_134 ?_
          exact ihO (p + 1) (v3 + 1) (by omega) (by omega) (by rw [hod, show 40 - p = (40 - (p + 1)) + 1 by omega, od, if_neg (fun h => by rw [← hv4, show 40 = q by omega, ← hv5] at h; omega)]) (by omega) (by omega) _ _ hm htx hno htr hdi hke hik hap hF _ (lv_sub hl [1, 2, 3, 0] rfl)
        · refine r_iload C (lv_at hl 5 rfl) dX4_oldest_123 ?_
          refine r_iload_n C rfl (lv_at hl 2 rfl) dX4_oldest_125 ?_
          refine r_icmp_ne (tgt := 131) C (by decide) (by omega) (by omega) dX4_oldest_126 (fun c3 => ?_) (fun c3 => ?_)
          · refine r_iinc (lv' := [(3, .int (iI (v3 + 1))), (0, .ref mb), (1, .int (iI x)), (2, .int (iI y)), (4, .int (iI v4)), (5, .int (iI v5)), (6, .int (iI v6))]) C hl (q := 3) rfl (by decide) rfl dX4_oldest_131 (fun ls hl => ?_)
            refine r_goto (tgt := 35) C (by decide) dX4_oldest_134 ?_
            exact ihO (p + 1) (v3 + 1) (by omega) (by omega) (by rw [hod, show 40 - p = (40 - (p + 1)) + 1 by omega, od, if_neg (fun h => by rw [← hv4, show 40 = q by omega, ← hv5] at h; omega)]) (by omega) (by omega) _ _ hm htx hno htr hdi hke hik hap hF _ (lv_sub hl [1, 2, 3, 0] rfl)
          · refine r_iload_n C rfl (lv_at hl 3 rfl) dX4_oldest_129 ?_
            have hK : (if ¬ (0 ≤ x ∧ x < F 0) then 1 else if y < 0 then 2 else 0) = 0 := (by (repeat' split) <;> omega)
            have hK0 : (if ¬ (0 ≤ x ∧ x < F 0) then 1 else if y < 0 then 2 else 0) = 0 := (by omega)
            exact r_iretH C rfl rfl (congrArg iI (by rw [if_pos hK0] <;> (rw [hod, show 40 - p = (40 - p - 1) + 1 by omega, od, if_pos ⟨by omega, by rw [← hv4, show 40 = q by omega, ← hv5]; omega⟩]; omega))) hF (by exact ⟨fun _ => ⟨up M 0 0, TRI, AP, (by repeat first | exact hMb | exact rg_up hMb (by decide) | refine rg_up ?_ (by omega) | refine rg_setL ?_ (by omega)), (by rw [up_s] <;> omega), (by rw [up_n _ _ (by omega)] <;> omega), (by rw [up_n _ _ (by omega)] <;> omega), hm, htx, hno, htr, hdi, hke, hik, hap⟩, fun h => absurd hK0 h⟩) dX4_oldest_130
      · refine r_iload C (lv_at hl 5 rfl) dX4_oldest_68 ?_
        refine r_aload_n C rfl (lv_at hl 0 rfl) dX4_oldest_70 ?_
        refine r_get C (ci := 4) (v := .ref (mb + 2)) rfl uin4 hm.o 3 (by decide) q_788 rfl rfl dX4_oldest_71 ?_
        refine r_iload_n C rfl (lv_at hl 1 rfl) dX4_oldest_74 ?_
        refine r_bipush C (by decide) dX4_oldest_75 ?_
        refine r_iload C (lv_at hl 6 rfl) dX4_oldest_77 ?_
        refine r_iadd C dX4_oldest_79 ?_
        refine r_sPi (rest := [.int (iI v5)]) C (k_X4_of l g (mb + 2) F hSm x (12 + v6) s (12 + q) (by omega) (by omega) (by omega) (by omega)) s_RX4_49 hno hl.1 rfl ⟨by decide, by decide⟩ rfl (Nat.le_of_ble_eq_true rfl) ⟨Nat.le_refl 0, Nat.le_refl 0⟩ dX4_oldest_80 ?_
        have b4 := hSm.f s (12 + q) (by omega) (by omega)
        refine r_if_le (tgt := 108) C (by decide) (by omega) dX4_oldest_83 (fun c5 => ?_) (fun c5 => ?_)
        · refine r_iconst C dX4_oldest_108 ?_
          refine r_iadd C dX4_oldest_109 ?_
          refine r_istore (lv' := [(5, .int (iI (v5 + 0))), (0, .ref mb), (1, .int (iI x)), (2, .int (iI y)), (3, .int (iI v3)), (4, .int (iI v4)), (6, .int (iI v6))]) C hl (by decide) rfl dX4_oldest_110 (fun ls hl => ?_)
          refine r_iinc (lv' := [(6, .int (iI (v6 + 1))), (5, .int (iI (v5 + 0))), (0, .ref mb), (1, .int (iI x)), (2, .int (iI y)), (3, .int (iI v3)), (4, .int (iI v4))]) C hl (q := 6) rfl (by decide) rfl dX4_oldest_112 (fun ls hl => ?_)
          refine r_goto (tgt := 61) C (by decide) dX4_oldest_115 ?_
          exact ih p (q + 1) v3 v4 (v5 + 0) (v6 + 1) (by omega) (by omega) (by omega) (by exact hod) (by omega) (by omega) (by omega) (by omega) (by first | (rw [hv5]; unfold cb; simp only [sumI]; rw [pI_t (by omega)]) | (rw [hv5]; unfold cb; simp only [sumI]; rw [pI_f (by omega)])) (by omega) _ _ hm htx hno htr hdi hke hik hap hF _ (lv_sub hl [2, 3, 4, 5, 6, 1, 0] rfl)
        · refine r_aload_n C rfl (lv_at hl 0 rfl) dX4_oldest_86 ?_
          refine r_get C (ci := 4) (v := .ref (mb + 2)) rfl uin4 hm.o 3 (by decide) q_788 rfl rfl dX4_oldest_87 ?_
          refine r_iload_n C rfl (lv_at hl 1 rfl) dX4_oldest_90 ?_
          refine r_bipush C (by decide) dX4_oldest_91 ?_
          refine r_iload C (lv_at hl 6 rfl) dX4_oldest_93 ?_
          refine r_iadd C dX4_oldest_95 ?_
          refine r_sPi (rest := [.int (iI v5)]) C (k_X4_of l g (mb + 2) F hSm x (12 + v6) s (12 + q) (by omega) (by omega) (by omega) (by omega)) s_RX4_49 hno hl.1 rfl ⟨by decide, by decide⟩ rfl (Nat.le_of_ble_eq_true rfl) ⟨Nat.le_refl 0, Nat.le_refl 0⟩ dX4_oldest_96 ?_
          have b6 := hSm.f s (12 + q) (by omega) (by omega)
          refine r_iload C (lv_at hl 4 rfl) dX4_oldest_99 ?_
          refine r_icmp_ge (tgt := 108) C (by decide) (by omega) (by omega) dX4_oldest_101 (fun c7 => ?_) (fun c7 => ?_)
          · refine r_iconst C dX4_oldest_108 ?_
            refine r_iadd C dX4_oldest_109 ?_
            refine r_istore (lv' := [(5, .int (iI (v5 + 0))), (0, .ref mb), (1, .int (iI x)), (2, .int (iI y)), (3, .int (iI v3)), (4, .int (iI v4)), (6, .int (iI v6))]) C hl (by decide) rfl dX4_oldest_110 (fun ls hl => ?_)
            refine r_iinc (lv' := [(6, .int (iI (v6 + 1))), (5, .int (iI (v5 + 0))), (0, .ref mb), (1, .int (iI x)), (2, .int (iI y)), (3, .int (iI v3)), (4, .int (iI v4))]) C hl (q := 6) rfl (by decide) rfl dX4_oldest_112 (fun ls hl => ?_)
            refine r_goto (tgt := 61) C (by decide) dX4_oldest_115 ?_
            exact ih p (q + 1) v3 v4 (v5 + 0) (v6 + 1) (by omega) (by omega) (by omega) (by exact hod) (by omega) (by omega) (by omega) (by omega) (by first | (rw [hv5]; unfold cb; simp only [sumI]; rw [pI_t (by omega)]) | (rw [hv5]; unfold cb; simp only [sumI]; rw [pI_f (by omega)])) (by omega) _ _ hm htx hno htr hdi hke hik hap hF _ (lv_sub hl [2, 3, 4, 5, 6, 1, 0] rfl)
          · refine r_iconst C dX4_oldest_104 ?_
            refine r_goto (tgt := 109) C (by decide) dX4_oldest_105 ?_
            refine r_iadd C dX4_oldest_109 ?_
            refine r_istore (lv' := [(5, .int (iI (v5 + 1))), (0, .ref mb), (1, .int (iI x)), (2, .int (iI y)), (3, .int (iI v3)), (4, .int (iI v4)), (6, .int (iI v6))]) C hl (by decide) rfl dX4_oldest_110 (fun ls hl => ?_)
            refine r_iinc (lv' := [(6, .int (iI (v6 + 1))), (5, .int (iI (v5 + 1))), (0, .ref mb), (1, .int (iI x)), (2, .int (iI y)), (3, .int (iI v3)), (4, .int (iI v4))]) C hl (q := 6) rfl (by decide) rfl dX4_oldest_112 (fun ls hl => ?_)
            refine r_goto (tgt := 61) C (by decide) dX4_oldest_115 ?_
            exact ih p (q + 1) v3 v4 (v5 + 1) (v6 + 1) (by omega) (by omega) (by omega) (by exact hod) (by omega) (by omega) (by omega) (by omega) (by first | (rw [hv5]; unfold cb; simp only [sumI]; rw [pI_t (by omega)]) | (rw [hv5]; unfold cb; simp only [sumI]; rw [pI_f (by omega)])) (by omega) _ _ hm htx hno htr hdi hke hik hap hF _ (lv_sub hl [2, 3, 4, 5, 6, 1, 0] rfl)
  have cut35 : ∀ (N : Nat) (p : Nat) (v3 : Int), 40 - p < N → (p ≤ 40) → (od F s y 40 0 = od F s y (40 - p) p) → ((0 ≤ x ∧ x < F 0) ∧ 0 ≤ y) → (v3 = (p : Int)) → ∀ (H : Heap) (locs : List Loc), mdAt g mb (up M 0 0) H → aAt g (mb + 1) 120 TX H → aAt g (mb + 2) 262 F H → aAt g (mb + 3) 262 TRI H → aAt g (mb + 4) 3668 DIA H → aAt g (mb + 5) 524 KEP H → zAt g (mb + 6) 2 ISK H → aAt g (mb + 7) 262 AP H → Fr (Mdp mb) zs.heap H locs → ∀ ls : Array Slot, lv_has ls 7 [(0, .ref mb), (1, .int (iI x)), (2, .int (iI y)), (3, .int (iI v3))] → W zp l ze (rmc 2 46) zs zm za zb zt zc H locs 0 0 (MQ zb (HQ (some (.int (iI (if (if ¬ (0 ≤ x ∧ x < F 0) then 1 else if y < 0 then 2 else 0) = 0 then od F s y 40 0 else 0)))) (Mdp mb) (fun H => ((if ¬ (0 ≤ x ∧ x < F 0) then 1 else if y < 0 then 2 else 0) = 0 → MW g mb 0 sz ac TX F DIA KEP ISK H) ∧ ((if ¬ (0 ≤ x ∧ x < F 0) then 1 else if y < 0 then 2 else 0) ≠ 0 → MW g mb (if ¬ (0 ≤ x ∧ x < F 0) then 1 else if y < 0 then 2 else 0) sz ac TX F DIA KEP ISK H))) za zs 0 0 (Mdp mb)) (F0 zm 35 ls []) := by
    intro N
    induction N with
    | zero => intro p v3; exact fun hms => absurd hms (Nat.not_lt_zero _)
    | succ N ih =>
      intro p v3 hms hp hod hin hv3 H locs hm htx hno htr hdi hke hik hap hF ls hl
      refine r_iload_n C rfl (lv_at hl 3 rfl) dX4_oldest_35 ?_
      refine r_bipush C (by decide) dX4_oldest_36 ?_
      refine r_icmp_ge (tgt := 137) C (by decide) (by omega) (by decide) dX4_oldest_38 (fun c8 => ?_) (fun c8 => ?_)
      · refine r_iconst C dX4_oldest_137 ?_
        have hK : (if ¬ (0 ≤ x ∧ x < F 0) then 1 else if y < 0 then 2 else 0) = 0 := (by (repeat' split) <;> omega)
        have hK0 : (if ¬ (0 ≤ x ∧ x < F 0) then 1 else if y < 0 then 2 else 0) = 0 := (by omega)
        exact r_iretH C rfl rfl (congrArg iI (by rw [if_pos hK0] <;> (rw [hod, show 40 - p = 0 by omega]; rfl))) hF (by exact ⟨fun _ => ⟨up M 0 0, TRI, AP, (by repeat first | exact hMb | exact rg_up hMb (by decide) | refine rg_up ?_ (by omega) | refine rg_setL ?_ (by omega)), (by rw [up_s] <;> omega), (by rw [up_n _ _ (by omega)] <;> omega), (by rw [up_n _ _ (by omega)] <;> omega), hm, htx, hno, htr, hdi, hke, hik, hap⟩, fun h => absurd hK0 h⟩) dX4_oldest_138
      · refine r_aload_n C rfl (lv_at hl 0 rfl) dX4_oldest_41 ?_
        refine r_get C (ci := 4) (v := .ref (mb + 2)) rfl uin4 hm.o 3 (by decide) q_788 rfl rfl dX4_oldest_42 ?_
        refine r_iload_n C rfl (lv_at hl 1 rfl) dX4_oldest_45 ?_
        refine r_bipush C (by decide) dX4_oldest_46 ?_
        refine r_iload_n C rfl (lv_at hl 3 rfl) dX4_oldest_48 ?_
        refine r_iadd C dX4_oldest_49 ?_
        refine r_sPi (rest := []) C (k_X4_of l g (mb + 2) F hSm x (12 + v3) s (12 + p) (by omega) (by omega) (by omega) (by omega)) s_RX4_49 hno hl.1 rfl ⟨by decide, by decide⟩ rfl (Nat.le_of_ble_eq_true rfl) ⟨Nat.le_refl 0, Nat.le_refl 0⟩ dX4_oldest_50 ?_
        have b9 := hSm.f s (12 + p) (by omega) (by omega)
        refine r_istore (lv' := [(4, .int (iI (F (2 + 52 * s + (12 + p))))), (0, .ref mb), (1, .int (iI x)), (2, .int (iI y)), (3, .int (iI v3))]) C hl (by decide) rfl dX4_oldest_53 (fun ls hl => ?_)
        refine r_iconst C dX4_oldest_55 ?_
        refine r_istore (lv' := [(5, .int (iI 0)), (4, .int (iI (F (2 + 52 * s + (12 + p))))), (0, .ref mb), (1, .int (iI x)), (2, .int (iI y)), (3, .int (iI v3))]) C hl (by decide) rfl dX4_oldest_56 (fun ls hl => ?_)
        refine r_iconst C dX4_oldest_58 ?_
        refine r_istore (lv' := [(6, .int (iI 0)), (5, .int (iI 0)), (4, .int (iI (F (2 + 52 * s + (12 + p))))), (0, .ref mb), (1, .int (iI x)), (2, .int (iI y)), (3, .int (iI v3))]) C hl (by decide) rfl dX4_oldest_59 (fun ls hl => ?_)
        exact cut61 _ ih _ p 0 v3 (F (2 + 52 * s + (12 + p))) 0 0 (Nat.lt_succ_self _) (by omega) (by omega) (by exact hod) (by omega) (by omega) (by omega) (by omega) (by rfl) (by omega) _ _ hm htx hno htr hdi hke hik hap hF _ (lv_sub hl [3, 4, 5, 6, 2, 1, 0] rfl)
  refine r_aload_n C rfl (lv_at hl 0 rfl) dX4_oldest_0 ?_
  refine r_aload_n C rfl (lv_at hl 0 rfl) dX4_oldest_1 ?_
  refine r_get C (ci := 4) (v := .ref (mb + 2)) rfl uin4 hm.o 3 (by decide) q_788 rfl rfl dX4_oldest_2 ?_
  refine r_iload_n C rfl (lv_at hl 1 rfl) dX4_oldest_5 ?_
  refine r_sPi (rest := [.ref mb]) C (k_X4_isSpace l g (mb + 2) F hSm x (by omega)) s_RX4_94 hno hl.1 rfl ⟨by decide, by decide⟩ rfl (Nat.le_of_ble_eq_true rfl) ⟨Nat.le_refl 0, Nat.le_refl 0⟩ dX4_oldest_6 ?_
  have b10 := hSm.n
  refine r_ifP_ne (tgt := 16) C (by decide) dX4_oldest_9 (fun c11 => ?_) (fun c11 => ?_)
  · refine r_iload_n C rfl (lv_at hl 2 rfl) dX4_oldest_16 ?_
    refine r_if_lt (tgt := 24) C (by decide) (by omega) dX4_oldest_17 (fun c12 => ?_) (fun c12 => ?_)
    · refine r_iconst C dX4_oldest_24 ?_
      refine r_vHi (rest := []) C (k_X4_refused l g mb M 2 (by decide)) s_RX4_109 hm hF (fun q h => (is_mdp (by have h : q = _ := h; omega))) (recv C (ci := 4) rfl hm.o) hl.1 rfl ⟨by decide, by decide⟩ rfl (Nat.le_of_ble_eq_true rfl) ⟨Nat.le_refl 0, Nat.le_refl 0⟩ dX4_oldest_25 (fun H13 locs13 h13 ho13 hz13 hF => ?_)
      have htx := htx.kept (ho13 _ (fun h => (by have h : _ = _ := h; omega)))
      have hno := hno.kept (ho13 _ (fun h => (by have h : _ = _ := h; omega)))
      have htr := htr.kept (ho13 _ (fun h => (by have h : _ = _ := h; omega)))
      have hdi := hdi.kept (ho13 _ (fun h => (by have h : _ = _ := h; omega)))
      have hke := hke.kept (ho13 _ (fun h => (by have h : _ = _ := h; omega)))
      have hik := hik.kept (ho13 _ (fun h => (by have h : _ = _ := h; omega)))
      have hap := hap.kept (ho13 _ (fun h => (by have h : _ = _ := h; omega)))
      have hm := h13
      refine r_ifP_eq (tgt := 33) C (by decide) dX4_oldest_28 (fun c14 => ?_) (fun c14 => ?_)
      · exact absurd c14 (by decide)
      · refine r_iconst C dX4_oldest_31 ?_
        have hK : (if ¬ (0 ≤ x ∧ x < F 0) then 1 else if y < 0 then 2 else 0) = 2 := (by (repeat' split) <;> omega)
        exact r_iretH C rfl rfl (congrArg iI (by rw [if_neg (by omega)])) hF (by exact ⟨fun h => absurd h (by omega), fun _ => ⟨up M 0 2, TRI, AP, (by repeat first | exact hMb | exact rg_up hMb (by decide) | refine rg_up ?_ (by omega) | refine rg_setL ?_ (by omega)), (by rw [up_s] <;> omega), (by rw [up_n _ _ (by omega)] <;> omega), (by rw [up_n _ _ (by omega)] <;> omega), hm, htx, hno, htr, hdi, hke, hik, hap⟩⟩) dX4_oldest_32
    · refine r_iconst C dX4_oldest_20 ?_
      refine r_goto (tgt := 25) C (by decide) dX4_oldest_21 ?_
      refine r_vHi (rest := []) C (k_X4_refused l g mb M 0 (by decide)) s_RX4_109 hm hF (fun q h => (is_mdp (by have h : q = _ := h; omega))) (recv C (ci := 4) rfl hm.o) hl.1 rfl ⟨by decide, by decide⟩ rfl (Nat.le_of_ble_eq_true rfl) ⟨Nat.le_refl 0, Nat.le_refl 0⟩ dX4_oldest_25 (fun H15 locs15 h15 ho15 hz15 hF => ?_)
      have htx := htx.kept (ho15 _ (fun h => (by have h : _ = _ := h; omega)))
      have hno := hno.kept (ho15 _ (fun h => (by have h : _ = _ := h; omega)))
      have htr := htr.kept (ho15 _ (fun h => (by have h : _ = _ := h; omega)))
      have hdi := hdi.kept (ho15 _ (fun h => (by have h : _ = _ := h; omega)))
      have hke := hke.kept (ho15 _ (fun h => (by have h : _ = _ := h; omega)))
      have hik := hik.kept (ho15 _ (fun h => (by have h : _ = _ := h; omega)))
      have hap := hap.kept (ho15 _ (fun h => (by have h : _ = _ := h; omega)))
      have hm := h15
      refine r_ifP_eq (tgt := 33) C (by decide) dX4_oldest_28 (fun c16 => ?_) (fun c16 => ?_)
      · refine r_iconst C dX4_oldest_33 ?_
        refine r_istore_n (lv' := [(3, .int (iI 0)), (0, .ref mb), (1, .int (iI x)), (2, .int (iI y))]) C rfl hl (by decide) rfl dX4_oldest_34 (fun ls hl => ?_)
        exact cut35 _ 0 0 (Nat.lt_succ_self _) (by omega) (by rfl) (by omega) (by omega) _ _ hm htx hno htr hdi hke hik hap hF _ (lv_sub hl [1, 2, 3, 0] rfl)
      · exact absurd c16 (by decide)
  · refine r_iconst C dX4_oldest_12 ?_
    refine r_goto (tgt := 25) C (by decide) dX4_oldest_13 ?_
    refine r_vHi (rest := []) C (k_X4_refused l g mb M 1 (by decide)) s_RX4_109 hm hF (fun q h => (is_mdp (by have h : q = _ := h; omega))) (recv C (ci := 4) rfl hm.o) hl.1 rfl ⟨by decide, by decide⟩ rfl (Nat.le_of_ble_eq_true rfl) ⟨Nat.le_refl 0, Nat.le_refl 0⟩ dX4_oldest_25 (fun H17 locs17 h17 ho17 hz17 hF => ?_)
    have htx := htx.kept (ho17 _ (fun h => (by have h : _ = _ := h; omega)))
    have hno := hno.kept (ho17 _ (fun h => (by have h : _ = _ := h; omega)))
    have htr := htr.kept (ho17 _ (fun h => (by have h : _ = _ := h; omega)))
    have hdi := hdi.kept (ho17 _ (fun h => (by have h : _ = _ := h; omega)))
    have hke := hke.kept (ho17 _ (fun h => (by have h : _ = _ := h; omega)))
    have hik := hik.kept (ho17 _ (fun h => (by have h : _ = _ := h; omega)))
    have hap := hap.kept (ho17 _ (fun h => (by have h : _ = _ := h; omega)))
    have hm := h17
    refine r_ifP_eq (tgt := 33) C (by decide) dX4_oldest_28 (fun c18 => ?_) (fun c18 => ?_)
    · exact absurd c18 (by decide)
    · refine r_iconst C dX4_oldest_31 ?_
      have hK : (if ¬ (0 ≤ x ∧ x < F 0) then 1 else if y < 0 then 2 else 0) = 1 := (by (repeat' split) <;> omega)
      exact r_iretH C rfl rfl (congrArg iI (by rw [if_neg (by omega)])) hF (by exact ⟨fun h => absurd h (by omega), fun _ => ⟨up M 0 1, TRI, AP, (by repeat first | exact hMb | exact rg_up hMb (by decide) | refine rg_up ?_ (by omega) | refine rg_setL ?_ (by omega)), (by rw [up_s] <;> omega), (by rw [up_n _ _ (by omega)] <;> omega), (by rw [up_n _ _ (by omega)] <;> omega), hm, htx, hno, htr, hdi, hke, hik, hap⟩⟩) dX4_oldest_32
set_option maxHeartbeats 4000000 in
theorem k_X4_noisy (l : Launch) (g : Gt) (mb : Nat) (rf sz ac : Int) (TX F DIA KEP ISK : Nat → Int) (T : Int) (hJ : J F z0 T) (hT : T ≤ 900000)  : CH l yX4_noisy cX4_noisy 5 (some .int) 2 42 g [.ref mb] (MW g mb rf sz ac TX F DIA KEP ISK) (some (.int (iI (nz F (F 0).toNat)))) (Mdp mb) (MW g mb 0 sz ac TX F DIA KEP ISK) := by
  refine ch_of "LentRoomModel" (by decide) rfl (Nat.le_of_ble_eq_true rfl) ?_
  intro zp ze zs zm za zb zt zc ls C hP hF hl
  obtain ⟨M, TRI, AP, hMb, hM0, hM1, hM2, hm, htx, hno, htr, hdi, hke, hik, hap⟩ := hP
  have hl : lv_has ls 5 [(0, .ref mb)] := hl
  have hS := hJ.S
  have hSm : Sm F := hS.m (by omega)
  have hZ := hJ.Z
  have hn5 := hJ.n
  have cut11 : ∀ (N : Nat) (i : Nat) (v1 : Int) (v2 : Int) (v3 : Int), 5 - i < N → ((i : Int) ≤ F 0) → (v1 = nz F i) → (v2 = if nz F i = -1 then 0 else noise F (nz F i).toNat) → (v3 = (i : Int)) → ∀ (H : Heap) (locs : List Loc), mdAt g mb (up M 0 0) H → aAt g (mb + 1) 120 TX H → aAt g (mb + 2) 262 F H → aAt g (mb + 3) 262 TRI H → aAt g (mb + 4) 3668 DIA H → aAt g (mb + 5) 524 KEP H → zAt g (mb + 6) 2 ISK H → aAt g (mb + 7) 262 AP H → Fr (Mdp mb) zs.heap H locs → ∀ ls : Array Slot, lv_has ls 5 [(0, .ref mb), (1, .int (iI v1)), (2, .int (iI v2)), (3, .int (iI v3))] → W zp l ze (rmc 2 42) zs zm za zb zt zc H locs 0 0 (MQ zb (HQ (some (.int (iI (nz F (F 0).toNat)))) (Mdp mb) (MW g mb 0 sz ac TX F DIA KEP ISK)) za zs 0 0 (Mdp mb)) (F0 zm 11 ls []) := by
    intro N
    induction N with
    | zero => intro i v1 v2 v3; exact fun hms => absurd hms (Nat.not_lt_zero _)
    | succ N ih =>
      intro i v1 v2 v3 hms hi hv1 hv2 hv3 H locs hm htx hno htr hdi hke hik hap hF ls hl
      have hnb := nz_b F i
      have hnn : noise F i = F (2 + 52 * i + 4) - 2 * F (2 + 52 * i + 5) := rfl
      have hv2b : -2000000 ≤ v2 ∧ v2 ≤ 1000000 := (by rw [hv2]; split <;> first | omega | (have := noise_b hSm (nz F i).toNat (by omega); omega))
      have hv2n : nz F i = -1 ∨ v2 = noise F (nz F i).toNat := (by by_cases h : nz F i = -1; exact Or.inl h; rw [if_neg h] at hv2; exact Or.inr hv2)
      refine r_iload_n C rfl (lv_at hl 3 rfl) dX4_noisy_11 ?_
      refine r_aload_n C rfl (lv_at hl 0 rfl) dX4_noisy_12 ?_
      refine r_get C (ci := 4) (v := .ref (mb + 2)) rfl uin4 hm.o 3 (by decide) q_788 rfl rfl dX4_noisy_13 ?_
      refine r_iconst C dX4_noisy_16 ?_
      refine r_iald (v := F 0) C hno 0 rfl (by omega) (by omega) rfl dX4_noisy_17 ?_
      have b1 := hSm.1 0 (by omega)
      have b2 := hSm.2
      refine r_icmp_ge (tgt := 66) C (by decide) (by omega) (by omega) dX4_noisy_18 (fun c3 => ?_) (fun c3 => ?_)
      · refine r_iload_n C rfl (lv_at hl 1 rfl) dX4_noisy_66 ?_
        exact r_iretH C rfl rfl (congrArg iI (by rw [hv1, show i = (F 0).toNat by omega])) hF (by exact ⟨up M 0 0, TRI, AP, (by repeat first | exact hMb | exact rg_up hMb (by decide) | refine rg_up ?_ (by omega) | refine rg_setL ?_ (by omega)), (by rw [up_s] <;> omega), (by rw [up_n _ _ (by omega)] <;> omega), (by rw [up_n _ _ (by omega)] <;> omega), hm, htx, hno, htr, hdi, hke, hik, hap⟩) dX4_noisy_67
      · refine r_aload_n C rfl (lv_at hl 0 rfl) dX4_noisy_21 ?_
        refine r_get C (ci := 4) (v := .ref (mb + 2)) rfl uin4 hm.o 3 (by decide) q_788 rfl rfl dX4_noisy_22 ?_
        refine r_iload_n C rfl (lv_at hl 3 rfl) dX4_noisy_25 ?_
        refine r_iconst C dX4_noisy_26 ?_
        refine r_sPi (rest := []) C (k_X4_of l g (mb + 2) F hSm v3 4 i 4 (by omega) (by omega) (by omega) (by omega)) s_RX4_49 hno hl.1 rfl ⟨by decide, by decide⟩ rfl (Nat.le_of_ble_eq_true rfl) ⟨Nat.le_refl 0, Nat.le_refl 0⟩ dX4_noisy_27 ?_
        have b4 := hSm.f i 4 (by omega) (by omega)
        refine r_iconst C dX4_noisy_30 ?_
        refine r_aload_n C rfl (lv_at hl 0 rfl) dX4_noisy_31 ?_
        refine r_get C (ci := 4) (v := .ref (mb + 2)) rfl uin4 hm.o 3 (by decide) q_788 rfl rfl dX4_noisy_32 ?_
        refine r_iload_n C rfl (lv_at hl 3 rfl) dX4_noisy_35 ?_
        refine r_iconst C dX4_noisy_36 ?_
        refine r_sPi (rest := [.int (iI 2), .int (iI (F (2 + 52 * i + 4)))]) C (k_X4_of l g (mb + 2) F hSm v3 5 i 5 (by omega) (by omega) (by omega) (by omega)) s_RX4_49 hno hl.1 rfl ⟨by decide, by decide⟩ rfl (Nat.le_of_ble_eq_true rfl) ⟨Nat.le_refl 0, Nat.le_refl 0⟩ dX4_noisy_37 ?_
        have b5 := hSm.f i 5 (by omega) (by omega)
        refine r_imul C dX4_noisy_40 ?_
        refine r_isub C dX4_noisy_41 ?_
        refine r_istore (lv' := [(4, .int (iI ((F (2 + 52 * i + 4)) - (2 * (F (2 + 52 * i + 5)))))), (0, .ref mb), (1, .int (iI v1)), (2, .int (iI v2)), (3, .int (iI v3))]) C hl (by decide) rfl dX4_noisy_42 (fun ls hl => ?_)
        refine r_iload_n C rfl (lv_at hl 2 rfl) dX4_noisy_44 ?_
        refine r_iconst C dX4_noisy_45 ?_
        refine r_icmp_eq (tgt := 55) C (by decide) (by omega) (by decide) dX4_noisy_46 (fun c6 => ?_) (fun c6 => ?_)
        · refine r_iload_n C rfl (lv_at hl 4 rfl) dX4_noisy_55 ?_
          refine r_istore_n (lv' := [(1, .int (iI v3)), (4, .int (iI ((F (2 + 52 * i + 4)) - (2 * (F (2 + 52 * i + 5)))))), (0, .ref mb), (2, .int (iI v2)), (3, .int (iI v3))]) C rfl hl (by decide) rfl dX4_noisy_56 (fun ls hl => ?_)
          refine r_iload C (lv_at hl 1 rfl) dX4_noisy_57 ?_
          refine r_istore_n (lv' := [(2, .int (iI ((F (2 + 52 * i + 4)) - (2 * (F (2 + 52 * i + 5)))))), (1, .int (iI v3)), (4, .int (iI ((F (2 + 52 * i + 4)) - (2 * (F (2 + 52 * i + 5)))))), (0, .ref mb), (3, .int (iI v3))]) C rfl hl (by decide) rfl dX4_noisy_59 (fun ls hl => ?_)
          refine r_iinc (lv' := [(3, .int (iI (v3 + 1))), (2, .int (iI ((F (2 + 52 * i + 4)) - (2 * (F (2 + 52 * i + 5)))))), (1, .int (iI v3)), (4, .int (iI ((F (2 + 52 * i + 4)) - (2 * (F (2 + 52 * i + 5)))))), (0, .ref mb)]) C hl (q := 4) rfl (by decide) rfl dX4_noisy_60 (fun ls hl => ?_)
          refine r_goto (tgt := 11) C (by decide) dX4_noisy_63 ?_
          exact ih (i + 1) v3 ((F (2 + 52 * i + 4)) - (2 * (F (2 + 52 * i + 5)))) (v3 + 1) (by omega) (by omega) (by first | (rw [nz_f (show ¬ (nz F i = -1 ∨ noise F (nz F i).toNat < noise F i) by omega)]; exact hv1) | (rw [nz_t (by omega)]; omega)) (by first | (rw [nz_f (show ¬ (nz F i = -1 ∨ noise F (nz F i).toNat < noise F i) by omega)]; exact hv2) | (rw [nz_t (by omega), if_neg (by omega), Int.toNat_natCast]; rfl)) (by omega) _ _ hm htx hno htr hdi hke hik hap hF _ (lv_sub hl [4, 2, 1, 0] rfl)
        · refine r_iload C (lv_at hl 0 rfl) dX4_noisy_49 ?_
          refine r_iload_n C rfl (lv_at hl 3 rfl) dX4_noisy_51 ?_
          refine r_icmp_le (tgt := 60) C (by decide) (by omega) (by omega) dX4_noisy_52 (fun c7 => ?_) (fun c7 => ?_)
          · refine r_iinc (lv' := [(3, .int (iI (v3 + 1))), (4, .int (iI ((F (2 + 52 * i + 4)) - (2 * (F (2 + 52 * i + 5)))))), (0, .ref mb), (1, .int (iI v1)), (2, .int (iI v2))]) C hl (q := 4) rfl (by decide) rfl dX4_noisy_60 (fun ls hl => ?_)
            refine r_goto (tgt := 11) C (by decide) dX4_noisy_63 ?_
            exact ih (i + 1) v1 v2 (v3 + 1) (by omega) (by omega) (by first | (rw [nz_f (show ¬ (nz F i = -1 ∨ noise F (nz F i).toNat < noise F i) by omega)]; exact hv1) | (rw [nz_t (by omega)]; omega)) (by first | (rw [nz_f (show ¬ (nz F i = -1 ∨ noise F (nz F i).toNat < noise F i) by omega)]; exact hv2) | (rw [nz_t (by omega), if_neg (by omega), Int.toNat_natCast]; rfl)) (by omega) _ _ hm htx hno htr hdi hke hik hap hF _ (lv_sub hl [2, 3, 4, 0] rfl)
          · refine r_iload_n C rfl (lv_at hl 4 rfl) dX4_noisy_55 ?_
            refine r_istore_n (lv' := [(1, .int (iI v3)), (4, .int (iI ((F (2 + 52 * i + 4)) - (2 * (F (2 + 52 * i + 5)))))), (0, .ref mb), (2, .int (iI v2)), (3, .int (iI v3))]) C rfl hl (by decide) rfl dX4_noisy_56 (fun ls hl => ?_)
            refine r_iload C (lv_at hl 1 rfl) dX4_noisy_57 ?_
            refine r_istore_n (lv' := [(2, .int (iI ((F (2 + 52 * i + 4)) - (2 * (F (2 + 52 * i + 5)))))), (1, .int (iI v3)), (4, .int (iI ((F (2 + 52 * i + 4)) - (2 * (F (2 + 52 * i + 5)))))), (0, .ref mb), (3, .int (iI v3))]) C rfl hl (by decide) rfl dX4_noisy_59 (fun ls hl => ?_)
            refine r_iinc (lv' := [(3, .int (iI (v3 + 1))), (2, .int (iI ((F (2 + 52 * i + 4)) - (2 * (F (2 + 52 * i + 5)))))), (1, .int (iI v3)), (4, .int (iI ((F (2 + 52 * i + 4)) - (2 * (F (2 + 52 * i + 5)))))), (0, .ref mb)]) C hl (q := 4) rfl (by decide) rfl dX4_noisy_60 (fun ls hl => ?_)
            refine r_goto (tgt := 11) C (by decide) dX4_noisy_63 ?_
            exact ih (i + 1) v3 ((F (2 + 52 * i + 4)) - (2 * (F (2 + 52 * i + 5)))) (v3 + 1) (by omega) (by omega) (by first | (rw [nz_f (show ¬ (nz F i = -1 ∨ noise F (nz F i).toNat < noise F i) by omega)]; exact hv1) | (rw [nz_t (by omega)]; omega)) (by first | (rw [nz_f (show ¬ (nz F i = -1 ∨ noise F (nz F i).toNat < noise F i) by omega)]; exact hv2) | (rw [nz_t (by omega), if_neg (by omega), Int.toNat_natCast]; rfl)) (by omega) _ _ hm htx hno htr hdi hke hik hap hF _ (lv_sub hl [4, 2, 1, 0] rfl)
  refine r_aload_n C rfl (lv_at hl 0 rfl) dX4_noisy_0 ?_
  refine r_iconst C dX4_noisy_1 ?_
  refine r_put C (ci := 4) rfl uin4 tyX4_ok nmX4 hm.o hF (is_mdp (by omega)) 0 (by decide) q_785 rfl rfl rfl rfl (by show 0 < 13; decide) dX4_noisy_2 (fun H8 locs8 h8 ho8 hz8 hF => ?_)
  have htx := htx.kept (ho8 _ (by omega))
  have hno := hno.kept (ho8 _ (by omega))
  have htr := htr.kept (ho8 _ (by omega))
  have hdi := hdi.kept (ho8 _ (by omega))
  have hke := hke.kept (ho8 _ (by omega))
  have hik := hik.kept (ho8 _ (by omega))
  have hap := hap.kept (ho8 _ (by omega))
  have hm : mdAt g mb (up M 0 0) H8 := hm.put0 h8 ho8
  refine r_iconst C dX4_noisy_5 ?_
  refine r_istore_n (lv' := [(1, .int (iI (-1))), (0, .ref mb)]) C rfl hl (by decide) rfl dX4_noisy_6 (fun ls hl => ?_)
  refine r_iconst C dX4_noisy_7 ?_
  refine r_istore_n (lv' := [(2, .int (iI 0)), (1, .int (iI (-1))), (0, .ref mb)]) C rfl hl (by decide) rfl dX4_noisy_8 (fun ls hl => ?_)
  refine r_iconst C dX4_noisy_9 ?_
  refine r_istore_n (lv' := [(3, .int (iI 0)), (2, .int (iI 0)), (1, .int (iI (-1))), (0, .ref mb)]) C rfl hl (by decide) rfl dX4_noisy_10 (fun ls hl => ?_)
  exact cut11 _ 0 (-1) 0 0 (Nat.lt_succ_self _) (by omega) (by rfl) (by rfl) (by omega) _ _ hm htx hno htr hdi hke hik hap hF _ (lv_sub hl [3, 2, 1, 0] rfl)
set_option maxHeartbeats 4000000 in
theorem k_X4_make (l : Launch) (g : Gt) (mb : Nat) (rf sz ac : Int) (TX F DIA KEP ISK : Nat → Int) (T : Int) (hJ : J F z0 T) (hT : T ≤ 900000) (x y : Int) (hx : Rg x) (hy : Rg y) (hac : 0 ≤ ac ∧ ac ≤ 14) : CH l yX4_make cX4_make 3 (some .int) 5 107 g [.ref mb, .int (iI x), .int (iI y)] (MW g mb rf sz ac TX F DIA KEP ISK) (some (.int (iI (if (whyMk F x y) = 0 then F 0 else 0)))) (Mdp mb) (fun H => ((whyMk F x y) = 0 → MW g mb 0 sz (remA ac) TX (mkF F x y) (rem DIA F ac) KEP ISK H) ∧ ((whyMk F x y) ≠ 0 → MW g mb (whyMk F x y) sz ac TX F DIA KEP ISK H)) := by
  refine ch_of "LentRoomModel" (by decide) rfl (Nat.le_of_ble_eq_true rfl) ?_
  intro zp ze zs zm za zb zt zc ls C hP hF hl
  obtain ⟨M, TRI, AP, hMb, hM0, hM1, hM2, hm, htx, hno, htr, hdi, hke, hik, hap⟩ := hP
  have hl : lv_has ls 3 [(0, .ref mb), (1, .int (iI x)), (2, .int (iI y))] := hl
  have hS := hJ.S
  have hSm : Sm F := hS.m (by omega)
  have hZ := hJ.Z
  have hn5 := hJ.n
  refine r_aload_n C rfl (lv_at hl 0 rfl) dX4_make_0 ?_
  refine r_aload_n C rfl (lv_at hl 0 rfl) dX4_make_1 ?_
  refine r_get C (ci := 4) (v := .ref (mb + 2)) rfl uin4 hm.o 3 (by decide) q_788 rfl rfl dX4_make_2 ?_
  refine r_iload_n C rfl (lv_at hl 1 rfl) dX4_make_5 ?_
  refine r_iload_n C rfl (lv_at hl 2 rfl) dX4_make_6 ?_
  refine r_sPi (rest := [.ref mb]) C (k_X4_whyNotMake l g (mb + 2) F hSm hZ x y (by omega) (by omega)) s_RX4_135 hno hl.1 rfl ⟨by decide, by decide⟩ rfl (Nat.le_of_ble_eq_true rfl) ⟨Nat.le_refl 0, Nat.le_refl 0⟩ dX4_make_7 ?_
  have b1 := whyMk_b F x y
  refine r_vHi (rest := []) C (k_X4_refused l g mb M (whyMk F x y) (by omega)) s_RX4_109 hm hF (fun q h => (is_mdp (by have h : q = _ := h; omega))) (recv C (ci := 4) rfl hm.o) hl.1 rfl ⟨by decide, by decide⟩ rfl (Nat.le_of_ble_eq_true rfl) ⟨Nat.le_refl 0, Nat.le_refl 0⟩ dX4_make_10 (fun H2 locs2 h2 ho2 hz2 hF => ?_)
  have htx := htx.kept (ho2 _ (fun h => (by have h : _ = _ := h; omega)))
  have hno := hno.kept (ho2 _ (fun h => (by have h : _ = _ := h; omega)))
  have htr := htr.kept (ho2 _ (fun h => (by have h : _ = _ := h; omega)))
  have hdi := hdi.kept (ho2 _ (fun h => (by have h : _ = _ := h; omega)))
  have hke := hke.kept (ho2 _ (fun h => (by have h : _ = _ := h; omega)))
  have hik := hik.kept (ho2 _ (fun h => (by have h : _ = _ := h; omega)))
  have hap := hap.kept (ho2 _ (fun h => (by have h : _ = _ := h; omega)))
  have hm := h2
  refine r_ifP_eq (tgt := 18) C (by decide) dX4_make_13 (fun c3 => ?_) (fun c3 => ?_)
  · refine r_aload_n C rfl (lv_at hl 0 rfl) dX4_make_18 ?_
    refine r_vHn (rest := []) C (k_X4_remember l g mb (whyMk F x y) sz ac TX F DIA KEP ISK T hJ (by omega) hac) s_RX4_183 ⟨up M 0 (whyMk F x y), TRI, AP, (by repeat first | exact hMb | exact rg_up hMb (by decide) | refine rg_up ?_ (by omega) | refine rg_setL ?_ (by omega)), (by rw [up_s] <;> omega), (by rw [up_n _ _ (by omega)] <;> omega), (by rw [up_n _ _ (by omega)] <;> omega), hm, htx, hno, htr, hdi, hke, hik, hap⟩ hF (fun _ h => h) (recv C (ci := 4) rfl hm.o) hl.1 rfl ⟨by decide, by decide⟩ rfl (Nat.le_of_ble_eq_true rfl) ⟨Nat.le_refl 0, Nat.le_refl 0⟩ dX4_make_19 (fun H4 locs4 h4 ho4 hz4 hF => ?_)
    obtain ⟨M, TRI, AP, hMb, hM0, hM1, hM2, hm, htx, hno, htr, hdi, hke, hik, hap⟩ := h4
    have h5 : F 0 < 5 := (by have h9 : whyMk F x y = 0 := (by omega); unfold whyMk at h9; (repeat' split at h9) <;> omega)
    refine r_aload_n C rfl (lv_at hl 0 rfl) dX4_make_22 ?_
    refine r_get C (ci := 4) (v := .ref (mb + 2)) rfl uin4 hm.o 3 (by decide) q_788 rfl rfl dX4_make_23 ?_
    refine r_iload_n C rfl (lv_at hl 1 rfl) dX4_make_26 ?_
    refine r_iload_n C rfl (lv_at hl 2 rfl) dX4_make_27 ?_
    refine r_sHi (rest := []) C (k_X4_makeOn l g (mb + 2) F T hJ (by omega) x y (by omega)) s_RX4_138 hno hF (fun q h => (is_mdp (by have h : q = _ := h; omega))) hl.1 rfl ⟨by decide, by decide⟩ rfl (Nat.le_of_ble_eq_true rfl) ⟨Nat.le_refl 0, Nat.le_refl 0⟩ dX4_make_28 (fun H5 locs5 h5 ho5 hz5 hF => ?_)
    have hm := hm.kept (ho5 _ (fun h => (by have h : _ = _ := h; omega)))
    have htx := htx.kept (ho5 _ (fun h => (by have h : _ = _ := h; omega)))
    have htr := htr.kept (ho5 _ (fun h => (by have h : _ = _ := h; omega)))
    have hdi := hdi.kept (ho5 _ (fun h => (by have h : _ = _ := h; omega)))
    have hke := hke.kept (ho5 _ (fun h => (by have h : _ = _ := h; omega)))
    have hik := hik.kept (ho5 _ (fun h => (by have h : _ = _ := h; omega)))
    have hap := hap.kept (ho5 _ (fun h => (by have h : _ = _ := h; omega)))
    have hno := h5
    have hK : (whyMk F x y) = whyMk F x y := (by rfl)
    have hK0 : (whyMk F x y) = 0 := (by omega)
    exact r_iretH C rfl rfl (congrArg iI (by rw [if_pos hK0] <;> (rfl))) hF (by exact ⟨fun _ => ⟨M, TRI, AP, (by repeat first | exact hMb | exact rg_up hMb (by decide) | refine rg_up ?_ (by omega) | refine rg_setL ?_ (by omega)), (by first | exact hM0 | omega), (by first | exact hM1 | omega), (by first | exact hM2 | omega), hm, htx, hno, htr, hdi, hke, hik, hap⟩, fun h => absurd hK0 h⟩) dX4_make_31
  · refine r_iconst C dX4_make_16 ?_
    have hK : (whyMk F x y) = whyMk F x y := (by rfl)
    exact r_iretH C rfl rfl (congrArg iI (by rw [if_neg (by omega)])) hF (by exact ⟨fun h => absurd h (by omega), fun _ => ⟨up M 0 (whyMk F x y), TRI, AP, (by repeat first | exact hMb | exact rg_up hMb (by decide) | refine rg_up ?_ (by omega) | refine rg_setL ?_ (by omega)), (by rw [up_s] <;> omega), (by rw [up_n _ _ (by omega)] <;> omega), (by rw [up_n _ _ (by omega)] <;> omega), hm, htx, hno, htr, hdi, hke, hik, hap⟩⟩) dX4_make_17
set_option maxHeartbeats 4000000 in
theorem k_X4_write (l : Launch) (g : Gt) (mb : Nat) (rf sz ac : Int) (TX F DIA KEP ISK : Nat → Int) (T : Int) (hJ : J F z0 T) (hT : T ≤ 900000) (x y : Int) (hx : Rg x) (hy : Rg y) (s k : Nat) (hs : 0 ≤ x → x = (s : Int)) (hk : 0 ≤ y → y = (k : Int)) (hac : 0 ≤ ac ∧ ac ≤ 14) : CH l yX4_write cX4_write 3 (some .int) 9 207 g [.ref mb, .int (iI x), .int (iI y)] (MW g mb rf sz ac TX F DIA KEP ISK) (some (.int (iI (if (Kd ((0 ≤ x ∧ x < F 0) ∧ (0 ≤ y ∧ y < 40))) = 0 then wrR F s k else 0)))) (Mdp mb) (fun H => ((Kd ((0 ≤ x ∧ x < F 0) ∧ (0 ≤ y ∧ y < 40))) = 0 → MW g mb 0 sz (remA ac) TX (wrF F s k) (rem DIA F ac) KEP ISK H) ∧ ((Kd ((0 ≤ x ∧ x < F 0) ∧ (0 ≤ y ∧ y < 40))) ≠ 0 → MW g mb (Kd ((0 ≤ x ∧ x < F 0) ∧ (0 ≤ y ∧ y < 40))) sz ac TX F DIA KEP ISK H)) := by
  refine ch_of "LentRoomModel" (by decide) rfl (Nat.le_of_ble_eq_true rfl) ?_
  intro zp ze zs zm za zb zt zc ls C hP hF hl
  obtain ⟨M, TRI, AP, hMb, hM0, hM1, hM2, hm, htx, hno, htr, hdi, hke, hik, hap⟩ := hP
  have hl : lv_has ls 3 [(0, .ref mb), (1, .int (iI x)), (2, .int (iI y))] := hl
  have hS := hJ.S
  have hSm : Sm F := hS.m (by omega)
  have hZ := hJ.Z
  have hn5 := hJ.n
  refine r_aload_n C rfl (lv_at hl 0 rfl) dX4_write_0 ?_
  refine r_aload_n C rfl (lv_at hl 0 rfl) dX4_write_1 ?_
  refine r_get C (ci := 4) (v := .ref (mb + 2)) rfl uin4 hm.o 3 (by decide) q_788 rfl rfl dX4_write_2 ?_
  refine r_iload_n C rfl (lv_at hl 1 rfl) dX4_write_5 ?_
  refine r_sPi (rest := [.ref mb]) C (k_X4_isSpace l g (mb + 2) F hSm x (by omega)) s_RX4_94 hno hl.1 rfl ⟨by decide, by decide⟩ rfl (Nat.le_of_ble_eq_true rfl) ⟨Nat.le_refl 0, Nat.le_refl 0⟩ dX4_write_6 ?_
  have b1 := hSm.n
  refine r_ifP_eq (tgt := 23) C (by decide) dX4_write_9 (fun c2 => ?_) (fun c2 => ?_)
  · refine r_iconst C dX4_write_23 ?_
    refine r_vHi (rest := []) C (k_X4_refused l g mb M 1 (by decide)) s_RX4_109 hm hF (fun q h => (is_mdp (by have h : q = _ := h; omega))) (recv C (ci := 4) rfl hm.o) hl.1 rfl ⟨by decide, by decide⟩ rfl (Nat.le_of_ble_eq_true rfl) ⟨Nat.le_refl 0, Nat.le_refl 0⟩ dX4_write_24 (fun H3 locs3 h3 ho3 hz3 hF => ?_)
    have htx := htx.kept (ho3 _ (fun h => (by have h : _ = _ := h; omega)))
    have hno := hno.kept (ho3 _ (fun h => (by have h : _ = _ := h; omega)))
    have htr := htr.kept (ho3 _ (fun h => (by have h : _ = _ := h; omega)))
    have hdi := hdi.kept (ho3 _ (fun h => (by have h : _ = _ := h; omega)))
    have hke := hke.kept (ho3 _ (fun h => (by have h : _ = _ := h; omega)))
    have hik := hik.kept (ho3 _ (fun h => (by have h : _ = _ := h; omega)))
    have hap := hap.kept (ho3 _ (fun h => (by have h : _ = _ := h; omega)))
    have hm := h3
    refine r_ifP_eq (tgt := 32) C (by decide) dX4_write_27 (fun c4 => ?_) (fun c4 => ?_)
    · exact absurd c4 (by decide)
    · refine r_iconst C dX4_write_30 ?_
      have hK : (Kd ((0 ≤ x ∧ x < F 0) ∧ (0 ≤ y ∧ y < 40))) = 1 := (by unfold Kd; split <;> omega)
      exact r_iretH C rfl rfl (congrArg iI (by rw [if_neg (by omega)])) hF (by exact ⟨fun h => absurd h (by omega), fun _ => ⟨up M 0 1, TRI, AP, (by repeat first | exact hMb | exact rg_up hMb (by decide) | refine rg_up ?_ (by omega) | refine rg_setL ?_ (by omega)), (by rw [up_s] <;> omega), (by rw [up_n _ _ (by omega)] <;> omega), (by rw [up_n _ _ (by omega)] <;> omega), hm, htx, hno, htr, hdi, hke, hik, hap⟩⟩) dX4_write_31
  · refine r_iload_n C rfl (lv_at hl 2 rfl) dX4_write_12 ?_
    refine r_sPi (rest := [.ref mb]) C (k_X4_isPage l g y (by omega)) s_RX4_180 trivial hl.1 rfl ⟨by decide, by decide⟩ rfl (Nat.le_of_ble_eq_true rfl) ⟨Nat.le_refl 0, Nat.le_refl 0⟩ dX4_write_13 ?_
    refine r_ifP_eq (tgt := 23) C (by decide) dX4_write_16 (fun c5 => ?_) (fun c5 => ?_)
    · refine r_iconst C dX4_write_23 ?_
      refine r_vHi (rest := []) C (k_X4_refused l g mb M 1 (by decide)) s_RX4_109 hm hF (fun q h => (is_mdp (by have h : q = _ := h; omega))) (recv C (ci := 4) rfl hm.o) hl.1 rfl ⟨by decide, by decide⟩ rfl (Nat.le_of_ble_eq_true rfl) ⟨Nat.le_refl 0, Nat.le_refl 0⟩ dX4_write_24 (fun H6 locs6 h6 ho6 hz6 hF => ?_)
      have htx := htx.kept (ho6 _ (fun h => (by have h : _ = _ := h; omega)))
      have hno := hno.kept (ho6 _ (fun h => (by have h : _ = _ := h; omega)))
      have htr := htr.kept (ho6 _ (fun h => (by have h : _ = _ := h; omega)))
      have hdi := hdi.kept (ho6 _ (fun h => (by have h : _ = _ := h; omega)))
      have hke := hke.kept (ho6 _ (fun h => (by have h : _ = _ := h; omega)))
      have hik := hik.kept (ho6 _ (fun h => (by have h : _ = _ := h; omega)))
      have hap := hap.kept (ho6 _ (fun h => (by have h : _ = _ := h; omega)))
      have hm := h6
      refine r_ifP_eq (tgt := 32) C (by decide) dX4_write_27 (fun c7 => ?_) (fun c7 => ?_)
      · exact absurd c7 (by decide)
      · refine r_iconst C dX4_write_30 ?_
        have hK : (Kd ((0 ≤ x ∧ x < F 0) ∧ (0 ≤ y ∧ y < 40))) = 1 := (by unfold Kd; split <;> omega)
        exact r_iretH C rfl rfl (congrArg iI (by rw [if_neg (by omega)])) hF (by exact ⟨fun h => absurd h (by omega), fun _ => ⟨up M 0 1, TRI, AP, (by repeat first | exact hMb | exact rg_up hMb (by decide) | refine rg_up ?_ (by omega) | refine rg_setL ?_ (by omega)), (by rw [up_s] <;> omega), (by rw [up_n _ _ (by omega)] <;> omega), (by rw [up_n _ _ (by omega)] <;> omega), hm, htx, hno, htr, hdi, hke, hik, hap⟩⟩) dX4_write_31
    · refine r_iconst C dX4_write_19 ?_
      refine r_goto (tgt := 24) C (by decide) dX4_write_20 ?_
      refine r_vHi (rest := []) C (k_X4_refused l g mb M 0 (by decide)) s_RX4_109 hm hF (fun q h => (is_mdp (by have h : q = _ := h; omega))) (recv C (ci := 4) rfl hm.o) hl.1 rfl ⟨by decide, by decide⟩ rfl (Nat.le_of_ble_eq_true rfl) ⟨Nat.le_refl 0, Nat.le_refl 0⟩ dX4_write_24 (fun H8 locs8 h8 ho8 hz8 hF => ?_)
      have htx := htx.kept (ho8 _ (fun h => (by have h : _ = _ := h; omega)))
      have hno := hno.kept (ho8 _ (fun h => (by have h : _ = _ := h; omega)))
      have htr := htr.kept (ho8 _ (fun h => (by have h : _ = _ := h; omega)))
      have hdi := hdi.kept (ho8 _ (fun h => (by have h : _ = _ := h; omega)))
      have hke := hke.kept (ho8 _ (fun h => (by have h : _ = _ := h; omega)))
      have hik := hik.kept (ho8 _ (fun h => (by have h : _ = _ := h; omega)))
      have hap := hap.kept (ho8 _ (fun h => (by have h : _ = _ := h; omega)))
      have hm := h8
      refine r_ifP_eq (tgt := 32) C (by decide) dX4_write_27 (fun c9 => ?_) (fun c9 => ?_)
      · refine r_aload_n C rfl (lv_at hl 0 rfl) dX4_write_32 ?_
        refine r_vHn (rest := []) C (k_X4_remember l g mb 0 sz ac TX F DIA KEP ISK T hJ (by omega) hac) s_RX4_183 ⟨up M 0 0, TRI, AP, (by repeat first | exact hMb | exact rg_up hMb (by decide) | refine rg_up ?_ (by omega) | refine rg_setL ?_ (by omega)), (by rw [up_s] <;> omega), (by rw [up_n _ _ (by omega)] <;> omega), (by rw [up_n _ _ (by omega)] <;> omega), hm, htx, hno, htr, hdi, hke, hik, hap⟩ hF (fun _ h => h) (recv C (ci := 4) rfl hm.o) hl.1 rfl ⟨by decide, by decide⟩ rfl (Nat.le_of_ble_eq_true rfl) ⟨Nat.le_refl 0, Nat.le_refl 0⟩ dX4_write_33 (fun H10 locs10 h10 ho10 hz10 hF => ?_)
        obtain ⟨M, TRI, AP, hMb, hM0, hM1, hM2, hm, htx, hno, htr, hdi, hke, hik, hap⟩ := h10
        refine r_aload_n C rfl (lv_at hl 0 rfl) dX4_write_36 ?_
        refine r_aload_n C rfl (lv_at hl 0 rfl) dX4_write_37 ?_
        refine r_get C (ci := 4) (v := .ref (mb + 2)) rfl uin4 hm.o 3 (by decide) q_788 rfl rfl dX4_write_38 ?_
        refine r_iload_n C rfl (lv_at hl 1 rfl) dX4_write_41 ?_
        refine r_iload_n C rfl (lv_at hl 2 rfl) dX4_write_42 ?_
        refine r_vHi (rest := []) C (k_X4_writeOn l g mb M hMb (mb + 2) F z0 T (by omega) hJ (by omega) x s (by omega) (by omega) (by omega) y k (by omega) (by omega)) s_RX4_128 ⟨hm, hno⟩ hF (fun q h => (is_mdp (by rcases h with h | h <;> omega))) (recv C (ci := 4) rfl hm.o) hl.1 rfl ⟨by decide, by decide⟩ rfl (Nat.le_of_ble_eq_true rfl) ⟨Nat.le_refl 0, Nat.le_refl 0⟩ dX4_write_43 (fun H13 locs13 h13 ho13 hz13 hF => ?_)
        have htx := htx.kept (ho13 _ (fun h => (by rcases h with h | h <;> omega)))
        have htr := htr.kept (ho13 _ (fun h => (by rcases h with h | h <;> omega)))
        have hdi := hdi.kept (ho13 _ (fun h => (by rcases h with h | h <;> omega)))
        have hke := hke.kept (ho13 _ (fun h => (by rcases h with h | h <;> omega)))
        have hik := hik.kept (ho13 _ (fun h => (by rcases h with h | h <;> omega)))
        have hap := hap.kept (ho13 _ (fun h => (by rcases h with h | h <;> omega)))
        obtain ⟨hm, hno⟩ := h13
        have b11 := wrR_b F s k
        have b12 := wrL_5 hSm s k
        have hK : (Kd ((0 ≤ x ∧ x < F 0) ∧ (0 ≤ y ∧ y < 40))) = 0 := (by unfold Kd; split <;> omega)
        have hK0 : (Kd ((0 ≤ x ∧ x < F 0) ∧ (0 ≤ y ∧ y < 40))) = 0 := (by omega)
        exact r_iretH C rfl rfl (congrArg iI (by rw [if_pos hK0] <;> (rfl))) hF (by exact ⟨fun _ => ⟨setL M (wrL F s k), TRI, AP, (by repeat first | exact hMb | exact rg_up hMb (by decide) | refine rg_up ?_ (by omega) | refine rg_setL ?_ (by omega)), (by rw [setL_k _ _ (by omega)] <;> omega), (by rw [setL_k _ _ (by omega)] <;> omega), (by rw [setL_k _ _ (by omega)] <;> omega), hm, htx, hno, htr, hdi, hke, hik, hap⟩, fun h => absurd hK0 h⟩) dX4_write_46
      · exact absurd c9 (by decide)
set_option maxHeartbeats 4000000 in
theorem k_X4_trim (l : Launch) (g : Gt) (mb : Nat) (rf sz ac : Int) (TX F DIA KEP ISK : Nat → Int) (T : Int) (hJ : J F z0 T) (hT : T ≤ 900000) (x y : Int) (hx : Rg x) (hy : Rg y) (s k : Nat) (hs : 0 ≤ x → x = (s : Int)) (hk : 0 ≤ y → y = (k : Int)) (hac : 0 ≤ ac ∧ ac ≤ 14) : CH l yX4_trim cX4_trim 3 (some .int) 5 109 g [.ref mb, .int (iI x), .int (iI y)] (MW g mb rf sz ac TX F DIA KEP ISK) (some (.int (iI (if (if ¬ ((0 ≤ x ∧ x < F 0) ∧ (0 ≤ y ∧ y < 40)) then 1 else if ¬ (0 < F (2 + 52 * s + (12 + k))) then 2 else 0) = 0 then tk (trF F s k) s else 0)))) (Mdp mb) (fun H => ((if ¬ ((0 ≤ x ∧ x < F 0) ∧ (0 ≤ y ∧ y < 40)) then 1 else if ¬ (0 < F (2 + 52 * s + (12 + k))) then 2 else 0) = 0 → MW g mb 0 sz (remA ac) TX (trF F s k) (rem DIA F ac) KEP ISK H) ∧ ((if ¬ ((0 ≤ x ∧ x < F 0) ∧ (0 ≤ y ∧ y < 40)) then 1 else if ¬ (0 < F (2 + 52 * s + (12 + k))) then 2 else 0) ≠ 0 → MW g mb (if ¬ ((0 ≤ x ∧ x < F 0) ∧ (0 ≤ y ∧ y < 40)) then 1 else if ¬ (0 < F (2 + 52 * s + (12 + k))) then 2 else 0) sz ac TX F DIA KEP ISK H)) := by
  refine ch_of "LentRoomModel" (by decide) rfl (Nat.le_of_ble_eq_true rfl) ?_
  intro zp ze zs zm za zb zt zc ls C hP hF hl
  obtain ⟨M, TRI, AP, hMb, hM0, hM1, hM2, hm, htx, hno, htr, hdi, hke, hik, hap⟩ := hP
  have hl : lv_has ls 3 [(0, .ref mb), (1, .int (iI x)), (2, .int (iI y))] := hl
  have hS := hJ.S
  have hSm : Sm F := hS.m (by omega)
  have hZ := hJ.Z
  have hn5 := hJ.n
  refine r_aload_n C rfl (lv_at hl 0 rfl) dX4_trim_0 ?_
  refine r_aload_n C rfl (lv_at hl 0 rfl) dX4_trim_1 ?_
  refine r_get C (ci := 4) (v := .ref (mb + 2)) rfl uin4 hm.o 3 (by decide) q_788 rfl rfl dX4_trim_2 ?_
  refine r_iload_n C rfl (lv_at hl 1 rfl) dX4_trim_5 ?_
  refine r_sPi (rest := [.ref mb]) C (k_X4_isSpace l g (mb + 2) F hSm x (by omega)) s_RX4_94 hno hl.1 rfl ⟨by decide, by decide⟩ rfl (Nat.le_of_ble_eq_true rfl) ⟨Nat.le_refl 0, Nat.le_refl 0⟩ dX4_trim_6 ?_
  have b1 := hSm.n
  refine r_ifP_eq (tgt := 19) C (by decide) dX4_trim_9 (fun c2 => ?_) (fun c2 => ?_)
  · refine r_iconst C dX4_trim_19 ?_
    refine r_goto (tgt := 40) C (by decide) dX4_trim_20 ?_
    refine r_vHi (rest := []) C (k_X4_refused l g mb M 1 (by decide)) s_RX4_109 hm hF (fun q h => (is_mdp (by have h : q = _ := h; omega))) (recv C (ci := 4) rfl hm.o) hl.1 rfl ⟨by decide, by decide⟩ rfl (Nat.le_of_ble_eq_true rfl) ⟨Nat.le_refl 0, Nat.le_refl 0⟩ dX4_trim_40 (fun H3 locs3 h3 ho3 hz3 hF => ?_)
    have htx := htx.kept (ho3 _ (fun h => (by have h : _ = _ := h; omega)))
    have hno := hno.kept (ho3 _ (fun h => (by have h : _ = _ := h; omega)))
    have htr := htr.kept (ho3 _ (fun h => (by have h : _ = _ := h; omega)))
    have hdi := hdi.kept (ho3 _ (fun h => (by have h : _ = _ := h; omega)))
    have hke := hke.kept (ho3 _ (fun h => (by have h : _ = _ := h; omega)))
    have hik := hik.kept (ho3 _ (fun h => (by have h : _ = _ := h; omega)))
    have hap := hap.kept (ho3 _ (fun h => (by have h : _ = _ := h; omega)))
    have hm := h3
    refine r_ifP_eq (tgt := 48) C (by decide) dX4_trim_43 (fun c4 => ?_) (fun c4 => ?_)
    · exact absurd c4 (by decide)
    · refine r_iconst C dX4_trim_46 ?_
      have hK : (if ¬ ((0 ≤ x ∧ x < F 0) ∧ (0 ≤ y ∧ y < 40)) then 1 else if ¬ (0 < F (2 + 52 * s + (12 + k))) then 2 else 0) = 1 := (by (repeat' split) <;> omega)
      exact r_iretH C rfl rfl (congrArg iI (by rw [if_neg (by omega)])) hF (by exact ⟨fun h => absurd h (by omega), fun _ => ⟨up M 0 1, TRI, AP, (by repeat first | exact hMb | exact rg_up hMb (by decide) | refine rg_up ?_ (by omega) | refine rg_setL ?_ (by omega)), (by rw [up_s] <;> omega), (by rw [up_n _ _ (by omega)] <;> omega), (by rw [up_n _ _ (by omega)] <;> omega), hm, htx, hno, htr, hdi, hke, hik, hap⟩⟩) dX4_trim_47
  · refine r_iload_n C rfl (lv_at hl 2 rfl) dX4_trim_12 ?_
    refine r_sPi (rest := [.ref mb]) C (k_X4_isPage l g y (by omega)) s_RX4_180 trivial hl.1 rfl ⟨by decide, by decide⟩ rfl (Nat.le_of_ble_eq_true rfl) ⟨Nat.le_refl 0, Nat.le_refl 0⟩ dX4_trim_13 ?_
    refine r_ifP_ne (tgt := 23) C (by decide) dX4_trim_16 (fun c5 => ?_) (fun c5 => ?_)
    · refine r_aload_n C rfl (lv_at hl 0 rfl) dX4_trim_23 ?_
      refine r_get C (ci := 4) (v := .ref (mb + 2)) rfl uin4 hm.o 3 (by decide) q_788 rfl rfl dX4_trim_24 ?_
      refine r_iload_n C rfl (lv_at hl 1 rfl) dX4_trim_27 ?_
      refine r_iload_n C rfl (lv_at hl 2 rfl) dX4_trim_28 ?_
      refine r_sPi (rest := [.ref mb]) C (k_X4_canTrim l g (mb + 2) F hSm x y s k (by omega) (by omega) (by omega) (by omega)) s_RX4_145 hno hl.1 rfl ⟨by decide, by decide⟩ rfl (Nat.le_of_ble_eq_true rfl) ⟨Nat.le_refl 0, Nat.le_refl 0⟩ dX4_trim_29 ?_
      refine r_ifP_eq (tgt := 39) C (by decide) dX4_trim_32 (fun c6 => ?_) (fun c6 => ?_)
      · refine r_iconst C dX4_trim_39 ?_
        refine r_vHi (rest := []) C (k_X4_refused l g mb M 2 (by decide)) s_RX4_109 hm hF (fun q h => (is_mdp (by have h : q = _ := h; omega))) (recv C (ci := 4) rfl hm.o) hl.1 rfl ⟨by decide, by decide⟩ rfl (Nat.le_of_ble_eq_true rfl) ⟨Nat.le_refl 0, Nat.le_refl 0⟩ dX4_trim_40 (fun H7 locs7 h7 ho7 hz7 hF => ?_)
        have htx := htx.kept (ho7 _ (fun h => (by have h : _ = _ := h; omega)))
        have hno := hno.kept (ho7 _ (fun h => (by have h : _ = _ := h; omega)))
        have htr := htr.kept (ho7 _ (fun h => (by have h : _ = _ := h; omega)))
        have hdi := hdi.kept (ho7 _ (fun h => (by have h : _ = _ := h; omega)))
        have hke := hke.kept (ho7 _ (fun h => (by have h : _ = _ := h; omega)))
        have hik := hik.kept (ho7 _ (fun h => (by have h : _ = _ := h; omega)))
        have hap := hap.kept (ho7 _ (fun h => (by have h : _ = _ := h; omega)))
        have hm := h7
        refine r_ifP_eq (tgt := 48) C (by decide) dX4_trim_43 (fun c8 => ?_) (fun c8 => ?_)
        · exact absurd c8 (by decide)
        · refine r_iconst C dX4_trim_46 ?_
          have hK : (if ¬ ((0 ≤ x ∧ x < F 0) ∧ (0 ≤ y ∧ y < 40)) then 1 else if ¬ (0 < F (2 + 52 * s + (12 + k))) then 2 else 0) = 2 := (by (repeat' split) <;> omega)
          exact r_iretH C rfl rfl (congrArg iI (by rw [if_neg (by omega)])) hF (by exact ⟨fun h => absurd h (by omega), fun _ => ⟨up M 0 2, TRI, AP, (by repeat first | exact hMb | exact rg_up hMb (by decide) | refine rg_up ?_ (by omega) | refine rg_setL ?_ (by omega)), (by rw [up_s] <;> omega), (by rw [up_n _ _ (by omega)] <;> omega), (by rw [up_n _ _ (by omega)] <;> omega), hm, htx, hno, htr, hdi, hke, hik, hap⟩⟩) dX4_trim_47
      · refine r_iconst C dX4_trim_35 ?_
        refine r_goto (tgt := 40) C (by decide) dX4_trim_36 ?_
        refine r_vHi (rest := []) C (k_X4_refused l g mb M 0 (by decide)) s_RX4_109 hm hF (fun q h => (is_mdp (by have h : q = _ := h; omega))) (recv C (ci := 4) rfl hm.o) hl.1 rfl ⟨by decide, by decide⟩ rfl (Nat.le_of_ble_eq_true rfl) ⟨Nat.le_refl 0, Nat.le_refl 0⟩ dX4_trim_40 (fun H9 locs9 h9 ho9 hz9 hF => ?_)
        have htx := htx.kept (ho9 _ (fun h => (by have h : _ = _ := h; omega)))
        have hno := hno.kept (ho9 _ (fun h => (by have h : _ = _ := h; omega)))
        have htr := htr.kept (ho9 _ (fun h => (by have h : _ = _ := h; omega)))
        have hdi := hdi.kept (ho9 _ (fun h => (by have h : _ = _ := h; omega)))
        have hke := hke.kept (ho9 _ (fun h => (by have h : _ = _ := h; omega)))
        have hik := hik.kept (ho9 _ (fun h => (by have h : _ = _ := h; omega)))
        have hap := hap.kept (ho9 _ (fun h => (by have h : _ = _ := h; omega)))
        have hm := h9
        refine r_ifP_eq (tgt := 48) C (by decide) dX4_trim_43 (fun c10 => ?_) (fun c10 => ?_)
        · refine r_aload_n C rfl (lv_at hl 0 rfl) dX4_trim_48 ?_
          refine r_vHn (rest := []) C (k_X4_remember l g mb 0 sz ac TX F DIA KEP ISK T hJ (by omega) hac) s_RX4_183 ⟨up M 0 0, TRI, AP, (by repeat first | exact hMb | exact rg_up hMb (by decide) | refine rg_up ?_ (by omega) | refine rg_setL ?_ (by omega)), (by rw [up_s] <;> omega), (by rw [up_n _ _ (by omega)] <;> omega), (by rw [up_n _ _ (by omega)] <;> omega), hm, htx, hno, htr, hdi, hke, hik, hap⟩ hF (fun _ h => h) (recv C (ci := 4) rfl hm.o) hl.1 rfl ⟨by decide, by decide⟩ rfl (Nat.le_of_ble_eq_true rfl) ⟨Nat.le_refl 0, Nat.le_refl 0⟩ dX4_trim_49 (fun H11 locs11 h11 ho11 hz11 hF => ?_)
          obtain ⟨M, TRI, AP, hMb, hM0, hM1, hM2, hm, htx, hno, htr, hdi, hke, hik, hap⟩ := h11
          refine r_aload_n C rfl (lv_at hl 0 rfl) dX4_trim_52 ?_
          refine r_get C (ci := 4) (v := .ref (mb + 2)) rfl uin4 hm.o 3 (by decide) q_788 rfl rfl dX4_trim_53 ?_
          refine r_iload_n C rfl (lv_at hl 1 rfl) dX4_trim_56 ?_
          refine r_iload_n C rfl (lv_at hl 2 rfl) dX4_trim_57 ?_
          refine r_sHi (rest := []) C (k_X4_trimOn l g (mb + 2) F T hJ (by omega) x s (by omega) (by omega) (by omega) y k (by omega) (by omega) (by omega)) s_RX4_149 hno hF (fun q h => (is_mdp (by have h : q = _ := h; omega))) hl.1 rfl ⟨by decide, by decide⟩ rfl (Nat.le_of_ble_eq_true rfl) ⟨Nat.le_refl 0, Nat.le_refl 0⟩ dX4_trim_58 (fun H12 locs12 h12 ho12 hz12 hF => ?_)
          have hm := hm.kept (ho12 _ (fun h => (by have h : _ = _ := h; omega)))
          have htx := htx.kept (ho12 _ (fun h => (by have h : _ = _ := h; omega)))
          have htr := htr.kept (ho12 _ (fun h => (by have h : _ = _ := h; omega)))
          have hdi := hdi.kept (ho12 _ (fun h => (by have h : _ = _ := h; omega)))
          have hke := hke.kept (ho12 _ (fun h => (by have h : _ = _ := h; omega)))
          have hik := hik.kept (ho12 _ (fun h => (by have h : _ = _ := h; omega)))
          have hap := hap.kept (ho12 _ (fun h => (by have h : _ = _ := h; omega)))
          have hno := h12
          have hK : (if ¬ ((0 ≤ x ∧ x < F 0) ∧ (0 ≤ y ∧ y < 40)) then 1 else if ¬ (0 < F (2 + 52 * s + (12 + k))) then 2 else 0) = 0 := (by (repeat' split) <;> omega)
          have hK0 : (if ¬ ((0 ≤ x ∧ x < F 0) ∧ (0 ≤ y ∧ y < 40)) then 1 else if ¬ (0 < F (2 + 52 * s + (12 + k))) then 2 else 0) = 0 := (by omega)
          exact r_iretH C rfl rfl (congrArg iI (by rw [if_pos hK0] <;> (rfl))) hF (by exact ⟨fun _ => ⟨M, TRI, AP, (by repeat first | exact hMb | exact rg_up hMb (by decide) | refine rg_up ?_ (by omega) | refine rg_setL ?_ (by omega)), (by first | exact hM0 | omega), (by first | exact hM1 | omega), (by first | exact hM2 | omega), hm, htx, hno, htr, hdi, hke, hik, hap⟩, fun h => absurd hK0 h⟩) dX4_trim_61
        · exact absurd c10 (by decide)
    · refine r_iconst C dX4_trim_19 ?_
      refine r_goto (tgt := 40) C (by decide) dX4_trim_20 ?_
      refine r_vHi (rest := []) C (k_X4_refused l g mb M 1 (by decide)) s_RX4_109 hm hF (fun q h => (is_mdp (by have h : q = _ := h; omega))) (recv C (ci := 4) rfl hm.o) hl.1 rfl ⟨by decide, by decide⟩ rfl (Nat.le_of_ble_eq_true rfl) ⟨Nat.le_refl 0, Nat.le_refl 0⟩ dX4_trim_40 (fun H13 locs13 h13 ho13 hz13 hF => ?_)
      have htx := htx.kept (ho13 _ (fun h => (by have h : _ = _ := h; omega)))
      have hno := hno.kept (ho13 _ (fun h => (by have h : _ = _ := h; omega)))
      have htr := htr.kept (ho13 _ (fun h => (by have h : _ = _ := h; omega)))
      have hdi := hdi.kept (ho13 _ (fun h => (by have h : _ = _ := h; omega)))
      have hke := hke.kept (ho13 _ (fun h => (by have h : _ = _ := h; omega)))
      have hik := hik.kept (ho13 _ (fun h => (by have h : _ = _ := h; omega)))
      have hap := hap.kept (ho13 _ (fun h => (by have h : _ = _ := h; omega)))
      have hm := h13
      refine r_ifP_eq (tgt := 48) C (by decide) dX4_trim_43 (fun c14 => ?_) (fun c14 => ?_)
      · exact absurd c14 (by decide)
      · refine r_iconst C dX4_trim_46 ?_
        have hK : (if ¬ ((0 ≤ x ∧ x < F 0) ∧ (0 ≤ y ∧ y < 40)) then 1 else if ¬ (0 < F (2 + 52 * s + (12 + k))) then 2 else 0) = 1 := (by (repeat' split) <;> omega)
        exact r_iretH C rfl rfl (congrArg iI (by rw [if_neg (by omega)])) hF (by exact ⟨fun h => absurd h (by omega), fun _ => ⟨up M 0 1, TRI, AP, (by repeat first | exact hMb | exact rg_up hMb (by decide) | refine rg_up ?_ (by omega) | refine rg_setL ?_ (by omega)), (by rw [up_s] <;> omega), (by rw [up_n _ _ (by omega)] <;> omega), (by rw [up_n _ _ (by omega)] <;> omega), hm, htx, hno, htr, hdi, hke, hik, hap⟩⟩) dX4_trim_47
set_option maxHeartbeats 4000000 in
theorem k_X4_setFloor (l : Launch) (g : Gt) (mb : Nat) (rf sz ac : Int) (TX F DIA KEP ISK : Nat → Int) (T : Int) (hJ : J F z0 T) (hT : T ≤ 900000) (x v : Int) (hx : Rg x) (hv : Rg v) (s : Nat) (hs : 0 ≤ x → x = (s : Int)) (hac : 0 ≤ ac ∧ ac ≤ 14) : CH l yX4_setFloor cX4_setFloor 3 (some .int) 6 129 g [.ref mb, .int (iI x), .int (iI v)] (MW g mb rf sz ac TX F DIA KEP ISK) (some (.int (iI (if (whyFl F x s v) = 0 then F (2 + 52 * s + 0) else 0)))) (Mdp mb) (fun H => ((whyFl F x s v) = 0 → MW g mb 0 sz (remA ac) TX (up F (2 + 52 * s + 0) v) (rem DIA F ac) KEP ISK H) ∧ ((whyFl F x s v) ≠ 0 → MW g mb (whyFl F x s v) sz ac TX F DIA KEP ISK H)) := by
  refine ch_of "LentRoomModel" (by decide) rfl (Nat.le_of_ble_eq_true rfl) ?_
  intro zp ze zs zm za zb zt zc ls C hP hF hl
  obtain ⟨M, TRI, AP, hMb, hM0, hM1, hM2, hm, htx, hno, htr, hdi, hke, hik, hap⟩ := hP
  have hl : lv_has ls 3 [(0, .ref mb), (1, .int (iI x)), (2, .int (iI v))] := hl
  have hS := hJ.S
  have hSm : Sm F := hS.m (by omega)
  have hZ := hJ.Z
  have hn5 := hJ.n
  refine r_aload_n C rfl (lv_at hl 0 rfl) dX4_setFloor_0 ?_
  refine r_aload_n C rfl (lv_at hl 0 rfl) dX4_setFloor_1 ?_
  refine r_get C (ci := 4) (v := .ref (mb + 2)) rfl uin4 hm.o 3 (by decide) q_788 rfl rfl dX4_setFloor_2 ?_
  refine r_iload_n C rfl (lv_at hl 1 rfl) dX4_setFloor_5 ?_
  refine r_iload_n C rfl (lv_at hl 2 rfl) dX4_setFloor_6 ?_
  refine r_sPi (rest := [.ref mb]) C (k_X4_whyNotFloor l g (mb + 2) F hSm hZ x v s (by omega) (by omega) (by omega)) s_RX4_121 hno hl.1 rfl ⟨by decide, by decide⟩ rfl (Nat.le_of_ble_eq_true rfl) ⟨Nat.le_refl 0, Nat.le_refl 0⟩ dX4_setFloor_7 ?_
  have b1 := whyFl_b F x s v
  refine r_vHi (rest := []) C (k_X4_refused l g mb M (whyFl F x s v) (by omega)) s_RX4_109 hm hF (fun q h => (is_mdp (by have h : q = _ := h; omega))) (recv C (ci := 4) rfl hm.o) hl.1 rfl ⟨by decide, by decide⟩ rfl (Nat.le_of_ble_eq_true rfl) ⟨Nat.le_refl 0, Nat.le_refl 0⟩ dX4_setFloor_10 (fun H2 locs2 h2 ho2 hz2 hF => ?_)
  have htx := htx.kept (ho2 _ (fun h => (by have h : _ = _ := h; omega)))
  have hno := hno.kept (ho2 _ (fun h => (by have h : _ = _ := h; omega)))
  have htr := htr.kept (ho2 _ (fun h => (by have h : _ = _ := h; omega)))
  have hdi := hdi.kept (ho2 _ (fun h => (by have h : _ = _ := h; omega)))
  have hke := hke.kept (ho2 _ (fun h => (by have h : _ = _ := h; omega)))
  have hik := hik.kept (ho2 _ (fun h => (by have h : _ = _ := h; omega)))
  have hap := hap.kept (ho2 _ (fun h => (by have h : _ = _ := h; omega)))
  have hm := h2
  refine r_ifP_eq (tgt := 18) C (by decide) dX4_setFloor_13 (fun c3 => ?_) (fun c3 => ?_)
  · refine r_aload_n C rfl (lv_at hl 0 rfl) dX4_setFloor_18 ?_
    refine r_vHn (rest := []) C (k_X4_remember l g mb (whyFl F x s v) sz ac TX F DIA KEP ISK T hJ (by omega) hac) s_RX4_183 ⟨up M 0 (whyFl F x s v), TRI, AP, (by repeat first | exact hMb | exact rg_up hMb (by decide) | refine rg_up ?_ (by omega) | refine rg_setL ?_ (by omega)), (by rw [up_s] <;> omega), (by rw [up_n _ _ (by omega)] <;> omega), (by rw [up_n _ _ (by omega)] <;> omega), hm, htx, hno, htr, hdi, hke, hik, hap⟩ hF (fun _ h => h) (recv C (ci := 4) rfl hm.o) hl.1 rfl ⟨by decide, by decide⟩ rfl (Nat.le_of_ble_eq_true rfl) ⟨Nat.le_refl 0, Nat.le_refl 0⟩ dX4_setFloor_19 (fun H4 locs4 h4 ho4 hz4 hF => ?_)
    obtain ⟨M, TRI, AP, hMb, hM0, hM1, hM2, hm, htx, hno, htr, hdi, hke, hik, hap⟩ := h4
    have h5 : 0 ≤ x ∧ x < F 0 := (by have h9 : whyFl F x s v = 0 := (by omega); unfold whyFl at h9; (repeat' split at h9) <;> omega)
    refine r_aload_n C rfl (lv_at hl 0 rfl) dX4_setFloor_22 ?_
    refine r_get C (ci := 4) (v := .ref (mb + 2)) rfl uin4 hm.o 3 (by decide) q_788 rfl rfl dX4_setFloor_23 ?_
    refine r_iload_n C rfl (lv_at hl 1 rfl) dX4_setFloor_26 ?_
    refine r_iconst C dX4_setFloor_27 ?_
    refine r_iload_n C rfl (lv_at hl 2 rfl) dX4_setFloor_28 ?_
    refine r_sHi (rest := []) C (k_X4_lay l g (mb + 2) F T hJ (by omega) x s (by omega) (by omega) 0 0 (by omega) (by omega) v) s_RX4_124 hno hF (fun q h => (is_mdp (by have h : q = _ := h; omega))) hl.1 rfl ⟨by decide, by decide⟩ rfl (Nat.le_of_ble_eq_true rfl) ⟨Nat.le_refl 0, Nat.le_refl 0⟩ dX4_setFloor_29 (fun H6 locs6 h6 ho6 hz6 hF => ?_)
    have hm := hm.kept (ho6 _ (fun h => (by have h : _ = _ := h; omega)))
    have htx := htx.kept (ho6 _ (fun h => (by have h : _ = _ := h; omega)))
    have htr := htr.kept (ho6 _ (fun h => (by have h : _ = _ := h; omega)))
    have hdi := hdi.kept (ho6 _ (fun h => (by have h : _ = _ := h; omega)))
    have hke := hke.kept (ho6 _ (fun h => (by have h : _ = _ := h; omega)))
    have hik := hik.kept (ho6 _ (fun h => (by have h : _ = _ := h; omega)))
    have hap := hap.kept (ho6 _ (fun h => (by have h : _ = _ := h; omega)))
    have hno := h6
    have b5 := hSm.f s 0 (by omega) (by omega)
    have hK : (whyFl F x s v) = whyFl F x s v := (by rfl)
    have hK0 : (whyFl F x s v) = 0 := (by omega)
    exact r_iretH C rfl rfl (congrArg iI (by rw [if_pos hK0] <;> (rfl))) hF (by exact ⟨fun _ => ⟨M, TRI, AP, (by repeat first | exact hMb | exact rg_up hMb (by decide) | refine rg_up ?_ (by omega) | refine rg_setL ?_ (by omega)), (by first | exact hM0 | omega), (by first | exact hM1 | omega), (by first | exact hM2 | omega), hm, htx, hno, htr, hdi, hke, hik, hap⟩, fun h => absurd hK0 h⟩) dX4_setFloor_32
  · refine r_iconst C dX4_setFloor_16 ?_
    have hK : (whyFl F x s v) = whyFl F x s v := (by rfl)
    exact r_iretH C rfl rfl (congrArg iI (by rw [if_neg (by omega)])) hF (by exact ⟨fun h => absurd h (by omega), fun _ => ⟨up M 0 (whyFl F x s v), TRI, AP, (by repeat first | exact hMb | exact rg_up hMb (by decide) | refine rg_up ?_ (by omega) | refine rg_setL ?_ (by omega)), (by rw [up_s] <;> omega), (by rw [up_n _ _ (by omega)] <;> omega), (by rw [up_n _ _ (by omega)] <;> omega), hm, htx, hno, htr, hdi, hke, hik, hap⟩⟩) dX4_setFloor_17
set_option maxHeartbeats 4000000 in
theorem k_X4_setCeiling (l : Launch) (g : Gt) (mb : Nat) (rf sz ac : Int) (TX F DIA KEP ISK : Nat → Int) (T : Int) (hJ : J F z0 T) (hT : T ≤ 900000) (x v : Int) (hx : Rg x) (hv : Rg v) (s : Nat) (hs : 0 ≤ x → x = (s : Int)) (hac : 0 ≤ ac ∧ ac ≤ 14) : CH l yX4_setCeiling cX4_setCeiling 3 (some .int) 3 68 g [.ref mb, .int (iI x), .int (iI v)] (MW g mb rf sz ac TX F DIA KEP ISK) (some (.int (iI (if (whyCe F x s v) = 0 then F (2 + 52 * s + 1) else 0)))) (Mdp mb) (fun H => ((whyCe F x s v) = 0 → MW g mb 0 sz (remA ac) TX (up F (2 + 52 * s + 1) v) (rem DIA F ac) KEP ISK H) ∧ ((whyCe F x s v) ≠ 0 → MW g mb (whyCe F x s v) sz ac TX F DIA KEP ISK H)) := by
  refine ch_of "LentRoomModel" (by decide) rfl (Nat.le_of_ble_eq_true rfl) ?_
  intro zp ze zs zm za zb zt zc ls C hP hF hl
  obtain ⟨M, TRI, AP, hMb, hM0, hM1, hM2, hm, htx, hno, htr, hdi, hke, hik, hap⟩ := hP
  have hl : lv_has ls 3 [(0, .ref mb), (1, .int (iI x)), (2, .int (iI v))] := hl
  have hS := hJ.S
  have hSm : Sm F := hS.m (by omega)
  have hZ := hJ.Z
  have hn5 := hJ.n
  refine r_aload_n C rfl (lv_at hl 0 rfl) dX4_setCeiling_0 ?_
  refine r_aload_n C rfl (lv_at hl 0 rfl) dX4_setCeiling_1 ?_
  refine r_get C (ci := 4) (v := .ref (mb + 2)) rfl uin4 hm.o 3 (by decide) q_788 rfl rfl dX4_setCeiling_2 ?_
  refine r_iload_n C rfl (lv_at hl 1 rfl) dX4_setCeiling_5 ?_
  refine r_iload_n C rfl (lv_at hl 2 rfl) dX4_setCeiling_6 ?_
  refine r_sPi (rest := [.ref mb]) C (k_X4_whyNotCeiling l g (mb + 2) F hSm x v s (by omega) (by omega) (by omega)) s_RX4_186 hno hl.1 rfl ⟨by decide, by decide⟩ rfl (Nat.le_of_ble_eq_true rfl) ⟨Nat.le_refl 0, Nat.le_refl 0⟩ dX4_setCeiling_7 ?_
  have b1 := whyCe_b F x s v
  refine r_vHi (rest := []) C (k_X4_refused l g mb M (whyCe F x s v) (by omega)) s_RX4_109 hm hF (fun q h => (is_mdp (by have h : q = _ := h; omega))) (recv C (ci := 4) rfl hm.o) hl.1 rfl ⟨by decide, by decide⟩ rfl (Nat.le_of_ble_eq_true rfl) ⟨Nat.le_refl 0, Nat.le_refl 0⟩ dX4_setCeiling_10 (fun H2 locs2 h2 ho2 hz2 hF => ?_)
  have htx := htx.kept (ho2 _ (fun h => (by have h : _ = _ := h; omega)))
  have hno := hno.kept (ho2 _ (fun h => (by have h : _ = _ := h; omega)))
  have htr := htr.kept (ho2 _ (fun h => (by have h : _ = _ := h; omega)))
  have hdi := hdi.kept (ho2 _ (fun h => (by have h : _ = _ := h; omega)))
  have hke := hke.kept (ho2 _ (fun h => (by have h : _ = _ := h; omega)))
  have hik := hik.kept (ho2 _ (fun h => (by have h : _ = _ := h; omega)))
  have hap := hap.kept (ho2 _ (fun h => (by have h : _ = _ := h; omega)))
  have hm := h2
  refine r_ifP_eq (tgt := 18) C (by decide) dX4_setCeiling_13 (fun c3 => ?_) (fun c3 => ?_)
  · refine r_aload_n C rfl (lv_at hl 0 rfl) dX4_setCeiling_18 ?_
    refine r_vHn (rest := []) C (k_X4_remember l g mb (whyCe F x s v) sz ac TX F DIA KEP ISK T hJ (by omega) hac) s_RX4_183 ⟨up M 0 (whyCe F x s v), TRI, AP, (by repeat first | exact hMb | exact rg_up hMb (by decide) | refine rg_up ?_ (by omega) | refine rg_setL ?_ (by omega)), (by rw [up_s] <;> omega), (by rw [up_n _ _ (by omega)] <;> omega), (by rw [up_n _ _ (by omega)] <;> omega), hm, htx, hno, htr, hdi, hke, hik, hap⟩ hF (fun _ h => h) (recv C (ci := 4) rfl hm.o) hl.1 rfl ⟨by decide, by decide⟩ rfl (Nat.le_of_ble_eq_true rfl) ⟨Nat.le_refl 0, Nat.le_refl 0⟩ dX4_setCeiling_19 (fun H4 locs4 h4 ho4 hz4 hF => ?_)
    obtain ⟨M, TRI, AP, hMb, hM0, hM1, hM2, hm, htx, hno, htr, hdi, hke, hik, hap⟩ := h4
    have h5 : 0 ≤ x ∧ x < F 0 := (by have h9 : whyCe F x s v = 0 := (by omega); unfold whyCe at h9; (repeat' split at h9) <;> omega)
    refine r_aload_n C rfl (lv_at hl 0 rfl) dX4_setCeiling_22 ?_
    refine r_get C (ci := 4) (v := .ref (mb + 2)) rfl uin4 hm.o 3 (by decide) q_788 rfl rfl dX4_setCeiling_23 ?_
    refine r_iload_n C rfl (lv_at hl 1 rfl) dX4_setCeiling_26 ?_
    refine r_iconst C dX4_setCeiling_27 ?_
    refine r_iload_n C rfl (lv_at hl 2 rfl) dX4_setCeiling_28 ?_
    refine r_sHi (rest := []) C (k_X4_lay l g (mb + 2) F T hJ (by omega) x s (by omega) (by omega) 1 1 (by omega) (by omega) v) s_RX4_124 hno hF (fun q h => (is_mdp (by have h : q = _ := h; omega))) hl.1 rfl ⟨by decide, by decide⟩ rfl (Nat.le_of_ble_eq_true rfl) ⟨Nat.le_refl 0, Nat.le_refl 0⟩ dX4_setCeiling_29 (fun H6 locs6 h6 ho6 hz6 hF => ?_)
    have hm := hm.kept (ho6 _ (fun h => (by have h : _ = _ := h; omega)))
    have htx := htx.kept (ho6 _ (fun h => (by have h : _ = _ := h; omega)))
    have htr := htr.kept (ho6 _ (fun h => (by have h : _ = _ := h; omega)))
    have hdi := hdi.kept (ho6 _ (fun h => (by have h : _ = _ := h; omega)))
    have hke := hke.kept (ho6 _ (fun h => (by have h : _ = _ := h; omega)))
    have hik := hik.kept (ho6 _ (fun h => (by have h : _ = _ := h; omega)))
    have hap := hap.kept (ho6 _ (fun h => (by have h : _ = _ := h; omega)))
    have hno := h6
    have b5 := hSm.f s 1 (by omega) (by omega)
    have hK : (whyCe F x s v) = whyCe F x s v := (by rfl)
    have hK0 : (whyCe F x s v) = 0 := (by omega)
    exact r_iretH C rfl rfl (congrArg iI (by rw [if_pos hK0] <;> (rfl))) hF (by exact ⟨fun _ => ⟨M, TRI, AP, (by repeat first | exact hMb | exact rg_up hMb (by decide) | refine rg_up ?_ (by omega) | refine rg_setL ?_ (by omega)), (by first | exact hM0 | omega), (by first | exact hM1 | omega), (by first | exact hM2 | omega), hm, htx, hno, htr, hdi, hke, hik, hap⟩, fun h => absurd hK0 h⟩) dX4_setCeiling_32
  · refine r_iconst C dX4_setCeiling_16 ?_
    have hK : (whyCe F x s v) = whyCe F x s v := (by rfl)
    exact r_iretH C rfl rfl (congrArg iI (by rw [if_neg (by omega)])) hF (by exact ⟨fun h => absurd h (by omega), fun _ => ⟨up M 0 (whyCe F x s v), TRI, AP, (by repeat first | exact hMb | exact rg_up hMb (by decide) | refine rg_up ?_ (by omega) | refine rg_setL ?_ (by omega)), (by rw [up_s] <;> omega), (by rw [up_n _ _ (by omega)] <;> omega), (by rw [up_n _ _ (by omega)] <;> omega), hm, htx, hno, htr, hdi, hke, hik, hap⟩⟩) dX4_setCeiling_17
set_option maxHeartbeats 4000000 in
theorem k_X4_undo (l : Launch) (g : Gt) (mb : Nat) (rf sz ac : Int) (TX F DIA KEP ISK : Nat → Int) (T : Int) (hJ : J F z0 T) (hT : T ≤ 900000) (hac : 0 ≤ ac ∧ ac ≤ 14) : CH l yX4_undo cX4_undo 1 (some .int) 1 24 g [.ref mb] (MW g mb rf sz ac TX F DIA KEP ISK) (some (.int (iI (if (Kd (ac ≠ 0)) = 0 then ac - 1 else 0)))) (Mdp mb) (fun H => ((Kd (ac ≠ 0)) = 0 → MW g mb 0 sz (ac - 1) TX (fun k => DIA (262 * (ac - 1).toNat + k)) DIA KEP ISK H) ∧ ((Kd (ac ≠ 0)) ≠ 0 → MW g mb (Kd (ac ≠ 0)) sz ac TX F DIA KEP ISK H)) := by
  refine ch_of "LentRoomModel" (by decide) rfl (Nat.le_of_ble_eq_true rfl) ?_
  intro zp ze zs zm za zb zt zc ls C hP hF hl
  obtain ⟨M, TRI, AP, hMb, hM0, hM1, hM2, hm, htx, hno, htr, hdi, hke, hik, hap⟩ := hP
  have hl : lv_has ls 1 [(0, .ref mb)] := hl
  have hS := hJ.S
  have hSm : Sm F := hS.m (by omega)
  have hZ := hJ.Z
  have hn5 := hJ.n
  refine r_aload_n C rfl (lv_at hl 0 rfl) dX4_undo_0 ?_
  refine r_aload_n C rfl (lv_at hl 0 rfl) dX4_undo_1 ?_
  refine r_get C (ci := 4) (v := .int (iI (M 2))) rfl uin4 hm.o 6 (by decide) q_791 rfl rfl dX4_undo_2 ?_
  have b1 := hMb 2
  refine r_if_ne (tgt := 12) C (by decide) (by omega) dX4_undo_5 (fun c2 => ?_) (fun c2 => ?_)
  · refine r_iconst C dX4_undo_12 ?_
    refine r_vHi (rest := []) C (k_X4_refused l g mb M 0 (by decide)) s_RX4_109 hm hF (fun q h => (is_mdp (by have h : q = _ := h; omega))) (recv C (ci := 4) rfl hm.o) hl.1 rfl ⟨by decide, by decide⟩ rfl (Nat.le_of_ble_eq_true rfl) ⟨Nat.le_refl 0, Nat.le_refl 0⟩ dX4_undo_13 (fun H3 locs3 h3 ho3 hz3 hF => ?_)
    have htx := htx.kept (ho3 _ (fun h => (by have h : _ = _ := h; omega)))
    have hno := hno.kept (ho3 _ (fun h => (by have h : _ = _ := h; omega)))
    have htr := htr.kept (ho3 _ (fun h => (by have h : _ = _ := h; omega)))
    have hdi := hdi.kept (ho3 _ (fun h => (by have h : _ = _ := h; omega)))
    have hke := hke.kept (ho3 _ (fun h => (by have h : _ = _ := h; omega)))
    have hik := hik.kept (ho3 _ (fun h => (by have h : _ = _ := h; omega)))
    have hap := hap.kept (ho3 _ (fun h => (by have h : _ = _ := h; omega)))
    have hm := h3
    refine r_ifP_eq (tgt := 21) C (by decide) dX4_undo_16 (fun c4 => ?_) (fun c4 => ?_)
    · refine r_aload_n C rfl (lv_at hl 0 rfl) dX4_undo_21 ?_
      refine r_dup C rfl dX4_undo_22 ?_
      refine r_get C (ci := 4) (v := .int (iI ((up M 0 0) 2))) rfl uin4 hm.o 6 (by decide) q_791 rfl rfl dX4_undo_23 ?_
      have er5 : (up M 0 0) 2 = M 2 := (by rw [up_n _ _ (by omega)])
      rw [er5]
      refine r_iconst C dX4_undo_26 ?_
      refine r_isub C dX4_undo_27 ?_
      refine r_put C (ci := 4) rfl uin4 tyX4_ok nmX4 hm.o hF (is_mdp (by omega)) 6 (by decide) q_791 rfl rfl rfl rfl (by show 6 < 13; decide) dX4_undo_28 (fun H6 locs6 h6 ho6 hz6 hF => ?_)
      have htx := htx.kept (ho6 _ (by omega))
      have hno := hno.kept (ho6 _ (by omega))
      have htr := htr.kept (ho6 _ (by omega))
      have hdi := hdi.kept (ho6 _ (by omega))
      have hke := hke.kept (ho6 _ (by omega))
      have hik := hik.kept (ho6 _ (by omega))
      have hap := hap.kept (ho6 _ (by omega))
      have hm : mdAt g mb (up (up M 0 0) 2 ((M 2) - 1)) H6 := hm.put2 h6 ho6
      refine r_aload_n C rfl (lv_at hl 0 rfl) dX4_undo_31 ?_
      refine r_get C (ci := 4) (v := .ref (mb + 4)) rfl uin4 hm.o 5 (by decide) q_790 rfl rfl dX4_undo_32 ?_
      refine r_sipush C (by decide) dX4_undo_35 ?_
      refine r_aload_n C rfl (lv_at hl 0 rfl) dX4_undo_38 ?_
      refine r_get C (ci := 4) (v := .int (iI ((up (up M 0 0) 2 ((M 2) - 1)) 2))) rfl uin4 hm.o 6 (by decide) q_791 rfl rfl dX4_undo_39 ?_
      have er7 : (up (up M 0 0) 2 ((M 2) - 1)) 2 = (M 2) - 1 := (by rw [up_s])
      rw [er7]
      refine r_imul C dX4_undo_42 ?_
      refine r_aload_n C rfl (lv_at hl 0 rfl) dX4_undo_43 ?_
      refine r_get C (ci := 4) (v := .ref (mb + 2)) rfl uin4 hm.o 3 (by decide) q_788 rfl rfl dX4_undo_44 ?_
      refine r_iconst C dX4_undo_47 ?_
      refine r_sHn (rest := []) C (k_X4_copyState l g (mb + 4) 3668 DIA (mb + 2) 262 F (262 * ((M 2) - 1)) 0 (262 * (ac - 1).toNat) 0 (by omega) (by omega) (by omega) (by omega) (by omega)) s_RX4_166 ⟨hdi, hno⟩ hF (fun q h => (is_mdp (by have h : q = _ := h; omega))) hl.1 rfl ⟨by decide, by decide⟩ rfl (Nat.le_of_ble_eq_true rfl) ⟨Nat.le_refl 0, Nat.le_refl 0⟩ dX4_undo_48 (fun H8 locs8 h8 ho8 hz8 hF => ?_)
      have hm := hm.kept (ho8 _ (fun h => (by have h : _ = _ := h; omega)))
      have htx := htx.kept (ho8 _ (fun h => (by have h : _ = _ := h; omega)))
      have htr := htr.kept (ho8 _ (fun h => (by have h : _ = _ := h; omega)))
      have hke := hke.kept (ho8 _ (fun h => (by have h : _ = _ := h; omega)))
      have hik := hik.kept (ho8 _ (fun h => (by have h : _ = _ := h; omega)))
      have hap := hap.kept (ho8 _ (fun h => (by have h : _ = _ := h; omega)))
      obtain ⟨hdi, hno⟩ := h8
      have hno : aAt g (mb + 2) 262 (fun j => DIA (262 * (ac - 1).toNat + j)) H8 := hno.cg (fun k hk => (cpy_all _ _ hk))
      refine r_aload_n C rfl (lv_at hl 0 rfl) dX4_undo_51 ?_
      refine r_get C (ci := 4) (v := .int (iI ((up (up M 0 0) 2 ((M 2) - 1)) 2))) rfl uin4 hm.o 6 (by decide) q_791 rfl rfl dX4_undo_52 ?_
      have er9 : (up (up M 0 0) 2 ((M 2) - 1)) 2 = (M 2) - 1 := (by rw [up_s])
      rw [er9]
      have hK : (Kd (ac ≠ 0)) = 0 := (by unfold Kd; split <;> omega)
      have hK0 : (Kd (ac ≠ 0)) = 0 := (by omega)
      exact r_iretH C rfl rfl (congrArg iI (by rw [if_pos hK0] <;> (omega))) hF (by exact ⟨fun _ => ⟨up (up M 0 0) 2 ((M 2) - 1), TRI, AP, (by repeat first | exact hMb | exact rg_up hMb (by decide) | refine rg_up ?_ (by omega) | refine rg_setL ?_ (by omega)), (by rw [up_n _ _ (by omega), up_s] <;> omega), (by rw [up_n _ _ (by omega), up_n _ _ (by omega)] <;> omega), (by rw [up_s] <;> omega), hm, htx, hno, htr, hdi, hke, hik, hap⟩, fun h => absurd hK0 h⟩) dX4_undo_55
    · exact absurd c4 (by decide)
  · refine r_iconst C dX4_undo_8 ?_
    refine r_goto (tgt := 13) C (by decide) dX4_undo_9 ?_
    refine r_vHi (rest := []) C (k_X4_refused l g mb M 1 (by decide)) s_RX4_109 hm hF (fun q h => (is_mdp (by have h : q = _ := h; omega))) (recv C (ci := 4) rfl hm.o) hl.1 rfl ⟨by decide, by decide⟩ rfl (Nat.le_of_ble_eq_true rfl) ⟨Nat.le_refl 0, Nat.le_refl 0⟩ dX4_undo_13 (fun H10 locs10 h10 ho10 hz10 hF => ?_)
    have htx := htx.kept (ho10 _ (fun h => (by have h : _ = _ := h; omega)))
    have hno := hno.kept (ho10 _ (fun h => (by have h : _ = _ := h; omega)))
    have htr := htr.kept (ho10 _ (fun h => (by have h : _ = _ := h; omega)))
    have hdi := hdi.kept (ho10 _ (fun h => (by have h : _ = _ := h; omega)))
    have hke := hke.kept (ho10 _ (fun h => (by have h : _ = _ := h; omega)))
    have hik := hik.kept (ho10 _ (fun h => (by have h : _ = _ := h; omega)))
    have hap := hap.kept (ho10 _ (fun h => (by have h : _ = _ := h; omega)))
    have hm := h10
    refine r_ifP_eq (tgt := 21) C (by decide) dX4_undo_16 (fun c11 => ?_) (fun c11 => ?_)
    · exact absurd c11 (by decide)
    · refine r_iconst C dX4_undo_19 ?_
      have hK : (Kd (ac ≠ 0)) = 1 := (by unfold Kd; split <;> omega)
      exact r_iretH C rfl rfl (congrArg iI (by rw [if_neg (by omega)])) hF (by exact ⟨fun h => absurd h (by omega), fun _ => ⟨up M 0 1, TRI, AP, (by repeat first | exact hMb | exact rg_up hMb (by decide) | refine rg_up ?_ (by omega) | refine rg_setL ?_ (by omega)), (by rw [up_s] <;> omega), (by rw [up_n _ _ (by omega)] <;> omega), (by rw [up_n _ _ (by omega)] <;> omega), hm, htx, hno, htr, hdi, hke, hik, hap⟩⟩) dX4_undo_20
set_option maxHeartbeats 4000000 in
theorem k_X4_save (l : Launch) (g : Gt) (mb : Nat) (rf sz ac : Int) (TX F DIA KEP ISK : Nat → Int) (T : Int) (hJ : J F z0 T) (hT : T ≤ 900000) (x : Int) (hx : Rg x) (k : Nat) (hk : 0 ≤ x → x = (k : Int)) : CH l yX4_save cX4_save 2 (some .int) 5 108 g [.ref mb, .int (iI x)] (MW g mb rf sz ac TX F DIA KEP ISK) (some (.int (iI (if (Kd (0 ≤ x ∧ x ≤ 1)) = 0 then tkA F else 0)))) (Mdp mb) (fun H => ((Kd (0 ≤ x ∧ x ≤ 1)) = 0 → MW g mb 0 sz ac TX F DIA (cpy KEP F (262 * k) 0 262) (up ISK k 1) H) ∧ ((Kd (0 ≤ x ∧ x ≤ 1)) ≠ 0 → MW g mb (Kd (0 ≤ x ∧ x ≤ 1)) sz ac TX F DIA KEP ISK H)) := by
  refine ch_of "LentRoomModel" (by decide) rfl (Nat.le_of_ble_eq_true rfl) ?_
  intro zp ze zs zm za zb zt zc ls C hP hF hl
  obtain ⟨M, TRI, AP, hMb, hM0, hM1, hM2, hm, htx, hno, htr, hdi, hke, hik, hap⟩ := hP
  have hl : lv_has ls 2 [(0, .ref mb), (1, .int (iI x))] := hl
  have hS := hJ.S
  have hSm : Sm F := hS.m (by omega)
  have hZ := hJ.Z
  have hn5 := hJ.n
  refine r_aload_n C rfl (lv_at hl 0 rfl) dX4_save_0 ?_
  refine r_iload_n C rfl (lv_at hl 1 rfl) dX4_save_1 ?_
  refine r_i2l C (by omega) dX4_save_2 ?_
  refine r_lconst C 0 rfl dX4_save_3 ?_
  refine r_lconst C 1 rfl dX4_save_4 ?_
  refine r_sPi (rest := [.ref mb]) C (k_X4_in l g x 0 1 (by omega) (by omega) (by omega)) s_RX4_39 trivial hl.1 rfl ⟨by decide, by decide⟩ rfl (Nat.le_of_ble_eq_true rfl) ⟨Nat.le_refl 0, Nat.le_refl 0⟩ dX4_save_5 ?_
  refine r_ifP_eq (tgt := 15) C (by decide) dX4_save_8 (fun c1 => ?_) (fun c1 => ?_)
  · refine r_iconst C dX4_save_15 ?_
    refine r_vHi (rest := []) C (k_X4_refused l g mb M 1 (by decide)) s_RX4_109 hm hF (fun q h => (is_mdp (by have h : q = _ := h; omega))) (recv C (ci := 4) rfl hm.o) hl.1 rfl ⟨by decide, by decide⟩ rfl (Nat.le_of_ble_eq_true rfl) ⟨Nat.le_refl 0, Nat.le_refl 0⟩ dX4_save_16 (fun H2 locs2 h2 ho2 hz2 hF => ?_)
    have htx := htx.kept (ho2 _ (fun h => (by have h : _ = _ := h; omega)))
    have hno := hno.kept (ho2 _ (fun h => (by have h : _ = _ := h; omega)))
    have htr := htr.kept (ho2 _ (fun h => (by have h : _ = _ := h; omega)))
    have hdi := hdi.kept (ho2 _ (fun h => (by have h : _ = _ := h; omega)))
    have hke := hke.kept (ho2 _ (fun h => (by have h : _ = _ := h; omega)))
    have hik := hik.kept (ho2 _ (fun h => (by have h : _ = _ := h; omega)))
    have hap := hap.kept (ho2 _ (fun h => (by have h : _ = _ := h; omega)))
    have hm := h2
    refine r_ifP_eq (tgt := 24) C (by decide) dX4_save_19 (fun c3 => ?_) (fun c3 => ?_)
    · exact absurd c3 (by decide)
    · refine r_iconst C dX4_save_22 ?_
      have hK : (Kd (0 ≤ x ∧ x ≤ 1)) = 1 := (by unfold Kd; split <;> omega)
      exact r_iretH C rfl rfl (congrArg iI (by rw [if_neg (by omega)])) hF (by exact ⟨fun h => absurd h (by omega), fun _ => ⟨up M 0 1, TRI, AP, (by repeat first | exact hMb | exact rg_up hMb (by decide) | refine rg_up ?_ (by omega) | refine rg_setL ?_ (by omega)), (by rw [up_s] <;> omega), (by rw [up_n _ _ (by omega)] <;> omega), (by rw [up_n _ _ (by omega)] <;> omega), hm, htx, hno, htr, hdi, hke, hik, hap⟩⟩) dX4_save_23
  · refine r_iconst C dX4_save_11 ?_
    refine r_goto (tgt := 16) C (by decide) dX4_save_12 ?_
    refine r_vHi (rest := []) C (k_X4_refused l g mb M 0 (by decide)) s_RX4_109 hm hF (fun q h => (is_mdp (by have h : q = _ := h; omega))) (recv C (ci := 4) rfl hm.o) hl.1 rfl ⟨by decide, by decide⟩ rfl (Nat.le_of_ble_eq_true rfl) ⟨Nat.le_refl 0, Nat.le_refl 0⟩ dX4_save_16 (fun H4 locs4 h4 ho4 hz4 hF => ?_)
    have htx := htx.kept (ho4 _ (fun h => (by have h : _ = _ := h; omega)))
    have hno := hno.kept (ho4 _ (fun h => (by have h : _ = _ := h; omega)))
    have htr := htr.kept (ho4 _ (fun h => (by have h : _ = _ := h; omega)))
    have hdi := hdi.kept (ho4 _ (fun h => (by have h : _ = _ := h; omega)))
    have hke := hke.kept (ho4 _ (fun h => (by have h : _ = _ := h; omega)))
    have hik := hik.kept (ho4 _ (fun h => (by have h : _ = _ := h; omega)))
    have hap := hap.kept (ho4 _ (fun h => (by have h : _ = _ := h; omega)))
    have hm := h4
    refine r_ifP_eq (tgt := 24) C (by decide) dX4_save_19 (fun c5 => ?_) (fun c5 => ?_)
    · refine r_aload_n C rfl (lv_at hl 0 rfl) dX4_save_24 ?_
      refine r_get C (ci := 4) (v := .ref (mb + 2)) rfl uin4 hm.o 3 (by decide) q_788 rfl rfl dX4_save_25 ?_
      refine r_iconst C dX4_save_28 ?_
      refine r_aload_n C rfl (lv_at hl 0 rfl) dX4_save_29 ?_
      refine r_get C (ci := 4) (v := .ref (mb + 5)) rfl uin4 hm.o 7 (by decide) q_792 rfl rfl dX4_save_30 ?_
      refine r_sipush C (by decide) dX4_save_33 ?_
      refine r_iload_n C rfl (lv_at hl 1 rfl) dX4_save_36 ?_
      refine r_imul C dX4_save_37 ?_
      refine r_sHn (rest := []) C (k_X4_copyState l g (mb + 2) 262 F (mb + 5) 524 KEP 0 (262 * x) 0 (262 * k) (by omega) (by omega) (by omega) (by omega) (by omega)) s_RX4_166 ⟨hno, hke⟩ hF (fun q h => (is_mdp (by have h : q = _ := h; omega))) hl.1 rfl ⟨by decide, by decide⟩ rfl (Nat.le_of_ble_eq_true rfl) ⟨Nat.le_refl 0, Nat.le_refl 0⟩ dX4_save_38 (fun H6 locs6 h6 ho6 hz6 hF => ?_)
      have hm := hm.kept (ho6 _ (fun h => (by have h : _ = _ := h; omega)))
      have htx := htx.kept (ho6 _ (fun h => (by have h : _ = _ := h; omega)))
      have htr := htr.kept (ho6 _ (fun h => (by have h : _ = _ := h; omega)))
      have hdi := hdi.kept (ho6 _ (fun h => (by have h : _ = _ := h; omega)))
      have hik := hik.kept (ho6 _ (fun h => (by have h : _ = _ := h; omega)))
      have hap := hap.kept (ho6 _ (fun h => (by have h : _ = _ := h; omega)))
      obtain ⟨hno, hke⟩ := h6
      refine r_aload_n C rfl (lv_at hl 0 rfl) dX4_save_41 ?_
      refine r_get C (ci := 4) (v := .ref (mb + 6)) rfl uin4 hm.o 8 (by decide) q_793 rfl rfl dX4_save_42 ?_
      refine r_iload_n C rfl (lv_at hl 1 rfl) dX4_save_45 ?_
      refine r_iconst C dX4_save_46 ?_
      refine r_zast C hik hF (is_mdp (by omega)) k (by omega) (by omega) (by omega) rfl dX4_save_47 (fun H7 locs7 h7 ho7 hz7 hF => ?_)
      have hm := hm.kept (ho7 _ (by omega))
      have htx := htx.kept (ho7 _ (by omega))
      have hno := hno.kept (ho7 _ (by omega))
      have htr := htr.kept (ho7 _ (by omega))
      have hdi := hdi.kept (ho7 _ (by omega))
      have hke := hke.kept (ho7 _ (by omega))
      have hap := hap.kept (ho7 _ (by omega))
      have hik := h7
      refine r_aload_n C rfl (lv_at hl 0 rfl) dX4_save_48 ?_
      refine r_get C (ci := 4) (v := .ref (mb + 2)) rfl uin4 hm.o 3 (by decide) q_788 rfl rfl dX4_save_49 ?_
      refine r_sPi (rest := []) C (k_X4_written l g (mb + 2) F hSm hZ) s_RX4_175 hno hl.1 rfl ⟨by decide, by decide⟩ rfl (Nat.le_of_ble_eq_true rfl) ⟨Nat.le_refl 0, Nat.le_refl 0⟩ dX4_save_52 ?_
      have b8 := tkA_b hSm
      have hK : (Kd (0 ≤ x ∧ x ≤ 1)) = 0 := (by unfold Kd; split <;> omega)
      have hK0 : (Kd (0 ≤ x ∧ x ≤ 1)) = 0 := (by omega)
      exact r_iretH C rfl rfl (congrArg iI (by rw [if_pos hK0] <;> (rfl))) hF (by exact ⟨fun _ => ⟨up M 0 0, TRI, AP, (by repeat first | exact hMb | exact rg_up hMb (by decide) | refine rg_up ?_ (by omega) | refine rg_setL ?_ (by omega)), (by rw [up_s] <;> omega), (by rw [up_n _ _ (by omega)] <;> omega), (by rw [up_n _ _ (by omega)] <;> omega), hm, htx, hno, htr, hdi, hke, hik, hap⟩, fun h => absurd hK0 h⟩) dX4_save_55
    · exact absurd c5 (by decide)
set_option maxHeartbeats 4000000 in
theorem k_X4_restore (l : Launch) (g : Gt) (mb : Nat) (rf sz ac : Int) (TX F DIA KEP ISK : Nat → Int) (T : Int) (hJ : J F z0 T) (hT : T ≤ 900000) (x : Int) (hx : Rg x) (k : Nat) (hk : 0 ≤ x → x = (k : Int)) (hIS : ∀ k : Nat, k < 2 → 0 ≤ ISK k ∧ ISK k ≤ 1) (hJK : 0 ≤ x ∧ x ≤ 1 → ISK k ≠ 0 → J (fun i => KEP (262 * k + i)) z0 T) : CH l yX4_restore cX4_restore 2 (some .int) 5 108 g [.ref mb, .int (iI x)] (MW g mb rf sz ac TX F DIA KEP ISK) (some (.int (iI (if (if ¬ (0 ≤ x ∧ x ≤ 1) then 1 else if ISK k = 0 then 2 else 0) = 0 then tkA (fun i => KEP (262 * k + i)) else 0)))) (Mdp mb) (fun H => ((if ¬ (0 ≤ x ∧ x ≤ 1) then 1 else if ISK k = 0 then 2 else 0) = 0 → MW g mb 0 sz 0 TX (fun i => KEP (262 * k + i)) DIA KEP ISK H) ∧ ((if ¬ (0 ≤ x ∧ x ≤ 1) then 1 else if ISK k = 0 then 2 else 0) ≠ 0 → MW g mb (if ¬ (0 ≤ x ∧ x ≤ 1) then 1 else if ISK k = 0 then 2 else 0) sz ac TX F DIA KEP ISK H)) := by
  refine ch_of "LentRoomModel" (by decide) rfl (Nat.le_of_ble_eq_true rfl) ?_
  intro zp ze zs zm za zb zt zc ls C hP hF hl
  obtain ⟨M, TRI, AP, hMb, hM0, hM1, hM2, hm, htx, hno, htr, hdi, hke, hik, hap⟩ := hP
  have hl : lv_has ls 2 [(0, .ref mb), (1, .int (iI x))] := hl
  have hS := hJ.S
  have hSm : Sm F := hS.m (by omega)
  have hZ := hJ.Z
  have hn5 := hJ.n
  refine r_aload_n C rfl (lv_at hl 0 rfl) dX4_restore_0 ?_
  refine r_iload_n C rfl (lv_at hl 1 rfl) dX4_restore_1 ?_
  refine r_i2l C (by omega) dX4_restore_2 ?_
  refine r_lconst C 0 rfl dX4_restore_3 ?_
  refine r_lconst C 1 rfl dX4_restore_4 ?_
  refine r_sPi (rest := [.ref mb]) C (k_X4_in l g x 0 1 (by omega) (by omega) (by omega)) s_RX4_39 trivial hl.1 rfl ⟨by decide, by decide⟩ rfl (Nat.le_of_ble_eq_true rfl) ⟨Nat.le_refl 0, Nat.le_refl 0⟩ dX4_restore_5 ?_
  refine r_ifP_ne (tgt := 15) C (by decide) dX4_restore_8 (fun c1 => ?_) (fun c1 => ?_)
  · refine r_aload_n C rfl (lv_at hl 0 rfl) dX4_restore_15 ?_
    refine r_get C (ci := 4) (v := .ref (mb + 6)) rfl uin4 hm.o 8 (by decide) q_793 rfl rfl dX4_restore_16 ?_
    refine r_iload_n C rfl (lv_at hl 1 rfl) dX4_restore_19 ?_
    refine r_zald (v := ISK k) C hik k (by omega) (by omega) (by omega) rfl dX4_restore_20 ?_
    have b2 := hIS k (by omega)
    refine r_if_ne (tgt := 28) C (by decide) (by omega) dX4_restore_21 (fun c3 => ?_) (fun c3 => ?_)
    · refine r_iconst C dX4_restore_28 ?_
      refine r_vHi (rest := []) C (k_X4_refused l g mb M 0 (by decide)) s_RX4_109 hm hF (fun q h => (is_mdp (by have h : q = _ := h; omega))) (recv C (ci := 4) rfl hm.o) hl.1 rfl ⟨by decide, by decide⟩ rfl (Nat.le_of_ble_eq_true rfl) ⟨Nat.le_refl 0, Nat.le_refl 0⟩ dX4_restore_29 (fun H4 locs4 h4 ho4 hz4 hF => ?_)
      have htx := htx.kept (ho4 _ (fun h => (by have h : _ = _ := h; omega)))
      have hno := hno.kept (ho4 _ (fun h => (by have h : _ = _ := h; omega)))
      have htr := htr.kept (ho4 _ (fun h => (by have h : _ = _ := h; omega)))
      have hdi := hdi.kept (ho4 _ (fun h => (by have h : _ = _ := h; omega)))
      have hke := hke.kept (ho4 _ (fun h => (by have h : _ = _ := h; omega)))
      have hik := hik.kept (ho4 _ (fun h => (by have h : _ = _ := h; omega)))
      have hap := hap.kept (ho4 _ (fun h => (by have h : _ = _ := h; omega)))
      have hm := h4
      refine r_ifP_eq (tgt := 37) C (by decide) dX4_restore_32 (fun c5 => ?_) (fun c5 => ?_)
      · refine r_aload_n C rfl (lv_at hl 0 rfl) dX4_restore_37 ?_
        refine r_get C (ci := 4) (v := .ref (mb + 5)) rfl uin4 hm.o 7 (by decide) q_792 rfl rfl dX4_restore_38 ?_
        refine r_sipush C (by decide) dX4_restore_41 ?_
        refine r_iload_n C rfl (lv_at hl 1 rfl) dX4_restore_44 ?_
        refine r_imul C dX4_restore_45 ?_
        refine r_aload_n C rfl (lv_at hl 0 rfl) dX4_restore_46 ?_
        refine r_get C (ci := 4) (v := .ref (mb + 2)) rfl uin4 hm.o 3 (by decide) q_788 rfl rfl dX4_restore_47 ?_
        refine r_iconst C dX4_restore_50 ?_
        refine r_sHn (rest := []) C (k_X4_copyState l g (mb + 5) 524 KEP (mb + 2) 262 F (262 * x) 0 (262 * k) 0 (by omega) (by omega) (by omega) (by omega) (by omega)) s_RX4_166 ⟨hke, hno⟩ hF (fun q h => (is_mdp (by have h : q = _ := h; omega))) hl.1 rfl ⟨by decide, by decide⟩ rfl (Nat.le_of_ble_eq_true rfl) ⟨Nat.le_refl 0, Nat.le_refl 0⟩ dX4_restore_51 (fun H6 locs6 h6 ho6 hz6 hF => ?_)
        have hm := hm.kept (ho6 _ (fun h => (by have h : _ = _ := h; omega)))
        have htx := htx.kept (ho6 _ (fun h => (by have h : _ = _ := h; omega)))
        have htr := htr.kept (ho6 _ (fun h => (by have h : _ = _ := h; omega)))
        have hdi := hdi.kept (ho6 _ (fun h => (by have h : _ = _ := h; omega)))
        have hik := hik.kept (ho6 _ (fun h => (by have h : _ = _ := h; omega)))
        have hap := hap.kept (ho6 _ (fun h => (by have h : _ = _ := h; omega)))
        obtain ⟨hke, hno⟩ := h6
        have hno : aAt g (mb + 2) 262 (fun j => KEP (262 * k + j)) H6 := hno.cg (fun k hk => (cpy_all _ _ hk))
        have hJ2 := hJK ⟨by omega, by omega⟩ (by omega)
        have hSmK : Sm (fun i => KEP (262 * k + i)) := hJ2.S.m (by omega)
        have hZK := hJ2.Z
        refine r_aload_n C rfl (lv_at hl 0 rfl) dX4_restore_54 ?_
        refine r_iconst C dX4_restore_55 ?_
        refine r_put C (ci := 4) rfl uin4 tyX4_ok nmX4 hm.o hF (is_mdp (by omega)) 6 (by decide) q_791 rfl rfl rfl rfl (by show 6 < 13; decide) dX4_restore_56 (fun H7 locs7 h7 ho7 hz7 hF => ?_)
        have htx := htx.kept (ho7 _ (by omega))
        have hno := hno.kept (ho7 _ (by omega))
        have htr := htr.kept (ho7 _ (by omega))
        have hdi := hdi.kept (ho7 _ (by omega))
        have hke := hke.kept (ho7 _ (by omega))
        have hik := hik.kept (ho7 _ (by omega))
        have hap := hap.kept (ho7 _ (by omega))
        have hm : mdAt g mb (up (up M 0 0) 2 0) H7 := hm.put2 h7 ho7
        refine r_aload_n C rfl (lv_at hl 0 rfl) dX4_restore_59 ?_
        refine r_get C (ci := 4) (v := .ref (mb + 2)) rfl uin4 hm.o 3 (by decide) q_788 rfl rfl dX4_restore_60 ?_
        refine r_sPi (rest := []) C (k_X4_written l g (mb + 2) (fun i => KEP (262 * k + i)) hSmK hZK) s_RX4_175 hno hl.1 rfl ⟨by decide, by decide⟩ rfl (Nat.le_of_ble_eq_true rfl) ⟨Nat.le_refl 0, Nat.le_refl 0⟩ dX4_restore_63 ?_
        have b8 := tkA_b hSmK
        have hK : (if ¬ (0 ≤ x ∧ x ≤ 1) then 1 else if ISK k = 0 then 2 else 0) = 0 := (by (repeat' split) <;> omega)
        have hK0 : (if ¬ (0 ≤ x ∧ x ≤ 1) then 1 else if ISK k = 0 then 2 else 0) = 0 := (by omega)
        exact r_iretH C rfl rfl (congrArg iI (by rw [if_pos hK0] <;> (rfl))) hF (by exact ⟨fun _ => ⟨up (up M 0 0) 2 0, TRI, AP, (by repeat first | exact hMb | exact rg_up hMb (by decide) | refine rg_up ?_ (by omega) | refine rg_setL ?_ (by omega)), (by rw [up_n _ _ (by omega), up_s] <;> omega), (by rw [up_n _ _ (by omega), up_n _ _ (by omega)] <;> omega), (by rw [up_s] <;> omega), hm, htx, hno, htr, hdi, hke, hik, hap⟩, fun h => absurd hK0 h⟩) dX4_restore_66
      · exact absurd c5 (by decide)
    · refine r_iconst C dX4_restore_24 ?_
      refine r_goto (tgt := 29) C (by decide) dX4_restore_25 ?_
      refine r_vHi (rest := []) C (k_X4_refused l g mb M 2 (by decide)) s_RX4_109 hm hF (fun q h => (is_mdp (by have h : q = _ := h; omega))) (recv C (ci := 4) rfl hm.o) hl.1 rfl ⟨by decide, by decide⟩ rfl (Nat.le_of_ble_eq_true rfl) ⟨Nat.le_refl 0, Nat.le_refl 0⟩ dX4_restore_29 (fun H9 locs9 h9 ho9 hz9 hF => ?_)
      have htx := htx.kept (ho9 _ (fun h => (by have h : _ = _ := h; omega)))
      have hno := hno.kept (ho9 _ (fun h => (by have h : _ = _ := h; omega)))
      have htr := htr.kept (ho9 _ (fun h => (by have h : _ = _ := h; omega)))
      have hdi := hdi.kept (ho9 _ (fun h => (by have h : _ = _ := h; omega)))
      have hke := hke.kept (ho9 _ (fun h => (by have h : _ = _ := h; omega)))
      have hik := hik.kept (ho9 _ (fun h => (by have h : _ = _ := h; omega)))
      have hap := hap.kept (ho9 _ (fun h => (by have h : _ = _ := h; omega)))
      have hm := h9
      refine r_ifP_eq (tgt := 37) C (by decide) dX4_restore_32 (fun c10 => ?_) (fun c10 => ?_)
      · exact absurd c10 (by decide)
      · refine r_iconst C dX4_restore_35 ?_
        have hK : (if ¬ (0 ≤ x ∧ x ≤ 1) then 1 else if ISK k = 0 then 2 else 0) = 2 := (by (repeat' split) <;> omega)
        exact r_iretH C rfl rfl (congrArg iI (by rw [if_neg (by omega)])) hF (by exact ⟨fun h => absurd h (by omega), fun _ => ⟨up M 0 2, TRI, AP, (by repeat first | exact hMb | exact rg_up hMb (by decide) | refine rg_up ?_ (by omega) | refine rg_setL ?_ (by omega)), (by rw [up_s] <;> omega), (by rw [up_n _ _ (by omega)] <;> omega), (by rw [up_n _ _ (by omega)] <;> omega), hm, htx, hno, htr, hdi, hke, hik, hap⟩⟩) dX4_restore_36
  · refine r_iconst C dX4_restore_11 ?_
    refine r_goto (tgt := 29) C (by decide) dX4_restore_12 ?_
    refine r_vHi (rest := []) C (k_X4_refused l g mb M 1 (by decide)) s_RX4_109 hm hF (fun q h => (is_mdp (by have h : q = _ := h; omega))) (recv C (ci := 4) rfl hm.o) hl.1 rfl ⟨by decide, by decide⟩ rfl (Nat.le_of_ble_eq_true rfl) ⟨Nat.le_refl 0, Nat.le_refl 0⟩ dX4_restore_29 (fun H11 locs11 h11 ho11 hz11 hF => ?_)
    have htx := htx.kept (ho11 _ (fun h => (by have h : _ = _ := h; omega)))
    have hno := hno.kept (ho11 _ (fun h => (by have h : _ = _ := h; omega)))
    have htr := htr.kept (ho11 _ (fun h => (by have h : _ = _ := h; omega)))
    have hdi := hdi.kept (ho11 _ (fun h => (by have h : _ = _ := h; omega)))
    have hke := hke.kept (ho11 _ (fun h => (by have h : _ = _ := h; omega)))
    have hik := hik.kept (ho11 _ (fun h => (by have h : _ = _ := h; omega)))
    have hap := hap.kept (ho11 _ (fun h => (by have h : _ = _ := h; omega)))
    have hm := h11
    refine r_ifP_eq (tgt := 37) C (by decide) dX4_restore_32 (fun c12 => ?_) (fun c12 => ?_)
    · exact absurd c12 (by decide)
    · refine r_iconst C dX4_restore_35 ?_
      have hK : (if ¬ (0 ≤ x ∧ x ≤ 1) then 1 else if ISK k = 0 then 2 else 0) = 1 := (by (repeat' split) <;> omega)
      exact r_iretH C rfl rfl (congrArg iI (by rw [if_neg (by omega)])) hF (by exact ⟨fun h => absurd h (by omega), fun _ => ⟨up M 0 1, TRI, AP, (by repeat first | exact hMb | exact rg_up hMb (by decide) | refine rg_up ?_ (by omega) | refine rg_setL ?_ (by omega)), (by rw [up_s] <;> omega), (by rw [up_n _ _ (by omega)] <;> omega), (by rw [up_n _ _ (by omega)] <;> omega), hm, htx, hno, htr, hdi, hke, hik, hap⟩⟩) dX4_restore_36
set_option maxHeartbeats 4000000 in
theorem k_X4_would (l : Launch) (g : Gt) (mb : Nat) (rf sz ac : Int) (TX F DIA KEP ISK : Nat → Int) (T : Int) (hJ : J F z0 T) (hT : T ≤ 900000) (x y : Int) (hx : Rg x) (hy : Rg y) (s k : Nat) (hs : 0 ≤ x → x = (s : Int)) (hk : 0 ≤ y → y = (k : Int)) : CH l yX4_would cX4_would 3 (some .int) 9 207 g [.ref mb, .int (iI x), .int (iI y)] (MW g mb rf sz ac TX F DIA KEP ISK) (some (.int (iI (if (Kd ((0 ≤ x ∧ x < F 0) ∧ (0 ≤ y ∧ y < 40))) = 0 then wrR F s k else 0)))) (Mdp mb) (fun H => ((Kd ((0 ≤ x ∧ x < F 0) ∧ (0 ≤ y ∧ y < 40))) = 0 → MW g mb 0 sz ac TX F DIA KEP ISK H) ∧ ((Kd ((0 ≤ x ∧ x < F 0) ∧ (0 ≤ y ∧ y < 40))) ≠ 0 → MW g mb (Kd ((0 ≤ x ∧ x < F 0) ∧ (0 ≤ y ∧ y < 40))) sz ac TX F DIA KEP ISK H)) := by
  refine ch_of "LentRoomModel" (by decide) rfl (Nat.le_of_ble_eq_true rfl) ?_
  intro zp ze zs zm za zb zt zc ls C hP hF hl
  obtain ⟨M, TRI, AP, hMb, hM0, hM1, hM2, hm, htx, hno, htr, hdi, hke, hik, hap⟩ := hP
  have hl : lv_has ls 3 [(0, .ref mb), (1, .int (iI x)), (2, .int (iI y))] := hl
  have hS := hJ.S
  have hSm : Sm F := hS.m (by omega)
  have hZ := hJ.Z
  have hn5 := hJ.n
  refine r_aload_n C rfl (lv_at hl 0 rfl) dX4_would_0 ?_
  refine r_aload_n C rfl (lv_at hl 0 rfl) dX4_would_1 ?_
  refine r_get C (ci := 4) (v := .ref (mb + 2)) rfl uin4 hm.o 3 (by decide) q_788 rfl rfl dX4_would_2 ?_
  refine r_iload_n C rfl (lv_at hl 1 rfl) dX4_would_5 ?_
  refine r_sPi (rest := [.ref mb]) C (k_X4_isSpace l g (mb + 2) F hSm x (by omega)) s_RX4_94 hno hl.1 rfl ⟨by decide, by decide⟩ rfl (Nat.le_of_ble_eq_true rfl) ⟨Nat.le_refl 0, Nat.le_refl 0⟩ dX4_would_6 ?_
  have b1 := hSm.n
  refine r_ifP_eq (tgt := 23) C (by decide) dX4_would_9 (fun c2 => ?_) (fun c2 => ?_)
  · refine r_iconst C dX4_would_23 ?_
    refine r_vHi (rest := []) C (k_X4_refused l g mb M 1 (by decide)) s_RX4_109 hm hF (fun q h => (is_mdp (by have h : q = _ := h; omega))) (recv C (ci := 4) rfl hm.o) hl.1 rfl ⟨by decide, by decide⟩ rfl (Nat.le_of_ble_eq_true rfl) ⟨Nat.le_refl 0, Nat.le_refl 0⟩ dX4_would_24 (fun H3 locs3 h3 ho3 hz3 hF => ?_)
    have htx := htx.kept (ho3 _ (fun h => (by have h : _ = _ := h; omega)))
    have hno := hno.kept (ho3 _ (fun h => (by have h : _ = _ := h; omega)))
    have htr := htr.kept (ho3 _ (fun h => (by have h : _ = _ := h; omega)))
    have hdi := hdi.kept (ho3 _ (fun h => (by have h : _ = _ := h; omega)))
    have hke := hke.kept (ho3 _ (fun h => (by have h : _ = _ := h; omega)))
    have hik := hik.kept (ho3 _ (fun h => (by have h : _ = _ := h; omega)))
    have hap := hap.kept (ho3 _ (fun h => (by have h : _ = _ := h; omega)))
    have hm := h3
    refine r_ifP_eq (tgt := 32) C (by decide) dX4_would_27 (fun c4 => ?_) (fun c4 => ?_)
    · exact absurd c4 (by decide)
    · refine r_iconst C dX4_would_30 ?_
      have hK : (Kd ((0 ≤ x ∧ x < F 0) ∧ (0 ≤ y ∧ y < 40))) = 1 := (by unfold Kd; split <;> omega)
      exact r_iretH C rfl rfl (congrArg iI (by rw [if_neg (by omega)])) hF (by exact ⟨fun h => absurd h (by omega), fun _ => ⟨up M 0 1, TRI, AP, (by repeat first | exact hMb | exact rg_up hMb (by decide) | refine rg_up ?_ (by omega) | refine rg_setL ?_ (by omega)), (by rw [up_s] <;> omega), (by rw [up_n _ _ (by omega)] <;> omega), (by rw [up_n _ _ (by omega)] <;> omega), hm, htx, hno, htr, hdi, hke, hik, hap⟩⟩) dX4_would_31
  · refine r_iload_n C rfl (lv_at hl 2 rfl) dX4_would_12 ?_
    refine r_sPi (rest := [.ref mb]) C (k_X4_isPage l g y (by omega)) s_RX4_180 trivial hl.1 rfl ⟨by decide, by decide⟩ rfl (Nat.le_of_ble_eq_true rfl) ⟨Nat.le_refl 0, Nat.le_refl 0⟩ dX4_would_13 ?_
    refine r_ifP_eq (tgt := 23) C (by decide) dX4_would_16 (fun c5 => ?_) (fun c5 => ?_)
    · refine r_iconst C dX4_would_23 ?_
      refine r_vHi (rest := []) C (k_X4_refused l g mb M 1 (by decide)) s_RX4_109 hm hF (fun q h => (is_mdp (by have h : q = _ := h; omega))) (recv C (ci := 4) rfl hm.o) hl.1 rfl ⟨by decide, by decide⟩ rfl (Nat.le_of_ble_eq_true rfl) ⟨Nat.le_refl 0, Nat.le_refl 0⟩ dX4_would_24 (fun H6 locs6 h6 ho6 hz6 hF => ?_)
      have htx := htx.kept (ho6 _ (fun h => (by have h : _ = _ := h; omega)))
      have hno := hno.kept (ho6 _ (fun h => (by have h : _ = _ := h; omega)))
      have htr := htr.kept (ho6 _ (fun h => (by have h : _ = _ := h; omega)))
      have hdi := hdi.kept (ho6 _ (fun h => (by have h : _ = _ := h; omega)))
      have hke := hke.kept (ho6 _ (fun h => (by have h : _ = _ := h; omega)))
      have hik := hik.kept (ho6 _ (fun h => (by have h : _ = _ := h; omega)))
      have hap := hap.kept (ho6 _ (fun h => (by have h : _ = _ := h; omega)))
      have hm := h6
      refine r_ifP_eq (tgt := 32) C (by decide) dX4_would_27 (fun c7 => ?_) (fun c7 => ?_)
      · exact absurd c7 (by decide)
      · refine r_iconst C dX4_would_30 ?_
        have hK : (Kd ((0 ≤ x ∧ x < F 0) ∧ (0 ≤ y ∧ y < 40))) = 1 := (by unfold Kd; split <;> omega)
        exact r_iretH C rfl rfl (congrArg iI (by rw [if_neg (by omega)])) hF (by exact ⟨fun h => absurd h (by omega), fun _ => ⟨up M 0 1, TRI, AP, (by repeat first | exact hMb | exact rg_up hMb (by decide) | refine rg_up ?_ (by omega) | refine rg_setL ?_ (by omega)), (by rw [up_s] <;> omega), (by rw [up_n _ _ (by omega)] <;> omega), (by rw [up_n _ _ (by omega)] <;> omega), hm, htx, hno, htr, hdi, hke, hik, hap⟩⟩) dX4_would_31
    · refine r_iconst C dX4_would_19 ?_
      refine r_goto (tgt := 24) C (by decide) dX4_would_20 ?_
      refine r_vHi (rest := []) C (k_X4_refused l g mb M 0 (by decide)) s_RX4_109 hm hF (fun q h => (is_mdp (by have h : q = _ := h; omega))) (recv C (ci := 4) rfl hm.o) hl.1 rfl ⟨by decide, by decide⟩ rfl (Nat.le_of_ble_eq_true rfl) ⟨Nat.le_refl 0, Nat.le_refl 0⟩ dX4_would_24 (fun H8 locs8 h8 ho8 hz8 hF => ?_)
      have htx := htx.kept (ho8 _ (fun h => (by have h : _ = _ := h; omega)))
      have hno := hno.kept (ho8 _ (fun h => (by have h : _ = _ := h; omega)))
      have htr := htr.kept (ho8 _ (fun h => (by have h : _ = _ := h; omega)))
      have hdi := hdi.kept (ho8 _ (fun h => (by have h : _ = _ := h; omega)))
      have hke := hke.kept (ho8 _ (fun h => (by have h : _ = _ := h; omega)))
      have hik := hik.kept (ho8 _ (fun h => (by have h : _ = _ := h; omega)))
      have hap := hap.kept (ho8 _ (fun h => (by have h : _ = _ := h; omega)))
      have hm := h8
      refine r_ifP_eq (tgt := 32) C (by decide) dX4_would_27 (fun c9 => ?_) (fun c9 => ?_)
      · refine r_aload_n C rfl (lv_at hl 0 rfl) dX4_would_32 ?_
        refine r_get C (ci := 4) (v := .ref (mb + 2)) rfl uin4 hm.o 3 (by decide) q_788 rfl rfl dX4_would_33 ?_
        refine r_iconst C dX4_would_36 ?_
        refine r_aload_n C rfl (lv_at hl 0 rfl) dX4_would_37 ?_
        refine r_get C (ci := 4) (v := .ref (mb + 3)) rfl uin4 hm.o 4 (by decide) q_789 rfl rfl dX4_would_38 ?_
        refine r_iconst C dX4_would_41 ?_
        refine r_sHn (rest := []) C (k_X4_copyState l g (mb + 2) 262 F (mb + 3) 262 TRI 0 0 0 0 (by omega) (by omega) (by omega) (by omega) (by omega)) s_RX4_166 ⟨hno, htr⟩ hF (fun q h => (is_mdp (by have h : q = _ := h; omega))) hl.1 rfl ⟨by decide, by decide⟩ rfl (Nat.le_of_ble_eq_true rfl) ⟨Nat.le_refl 0, Nat.le_refl 0⟩ dX4_would_42 (fun H10 locs10 h10 ho10 hz10 hF => ?_)
        have hm := hm.kept (ho10 _ (fun h => (by have h : _ = _ := h; omega)))
        have htx := htx.kept (ho10 _ (fun h => (by have h : _ = _ := h; omega)))
        have hdi := hdi.kept (ho10 _ (fun h => (by have h : _ = _ := h; omega)))
        have hke := hke.kept (ho10 _ (fun h => (by have h : _ = _ := h; omega)))
        have hik := hik.kept (ho10 _ (fun h => (by have h : _ = _ := h; omega)))
        have hap := hap.kept (ho10 _ (fun h => (by have h : _ = _ := h; omega)))
        obtain ⟨hno, htr⟩ := h10
        have htr : aAt g (mb + 3) 262 (F) H10 := htr.cg (fun k hk => (by rw [cpy_all _ _ hk, Nat.zero_add]))
        refine r_aload_n C rfl (lv_at hl 0 rfl) dX4_would_45 ?_
        refine r_aload_n C rfl (lv_at hl 0 rfl) dX4_would_46 ?_
        refine r_get C (ci := 4) (v := .ref (mb + 3)) rfl uin4 hm.o 4 (by decide) q_789 rfl rfl dX4_would_47 ?_
        refine r_iload_n C rfl (lv_at hl 1 rfl) dX4_would_50 ?_
        refine r_iload_n C rfl (lv_at hl 2 rfl) dX4_would_51 ?_
        refine r_vHi (rest := []) C (k_X4_writeOn l g mb (up M 0 0) (by repeat first | exact hMb | refine rg_up ?_ (by omega) | refine rg_setL ?_ (by omega)) (mb + 3) F z0 T (by omega) hJ (by omega) x s (by omega) (by omega) (by omega) y k (by omega) (by omega)) s_RX4_128 ⟨hm, htr⟩ hF (fun q h => (is_mdp (by rcases h with h | h <;> omega))) (recv C (ci := 4) rfl hm.o) hl.1 rfl ⟨by decide, by decide⟩ rfl (Nat.le_of_ble_eq_true rfl) ⟨Nat.le_refl 0, Nat.le_refl 0⟩ dX4_would_52 (fun H13 locs13 h13 ho13 hz13 hF => ?_)
        have htx := htx.kept (ho13 _ (fun h => (by rcases h with h | h <;> omega)))
        have hno := hno.kept (ho13 _ (fun h => (by rcases h with h | h <;> omega)))
        have hdi := hdi.kept (ho13 _ (fun h => (by rcases h with h | h <;> omega)))
        have hke := hke.kept (ho13 _ (fun h => (by rcases h with h | h <;> omega)))
        have hik := hik.kept (ho13 _ (fun h => (by rcases h with h | h <;> omega)))
        have hap := hap.kept (ho13 _ (fun h => (by rcases h with h | h <;> omega)))
        obtain ⟨hm, htr⟩ := h13
        have b11 := wrR_b F s k
        have b12 := wrL_5 hSm s k
        have hK : (Kd ((0 ≤ x ∧ x < F 0) ∧ (0 ≤ y ∧ y < 40))) = 0 := (by unfold Kd; split <;> omega)
        have hK0 : (Kd ((0 ≤ x ∧ x < F 0) ∧ (0 ≤ y ∧ y < 40))) = 0 := (by omega)
        exact r_iretH C rfl rfl (congrArg iI (by rw [if_pos hK0] <;> (rfl))) hF (by exact ⟨fun _ => ⟨setL (up M 0 0) (wrL F s k), wrF F s k, AP, (by repeat first | exact hMb | exact rg_up hMb (by decide) | refine rg_up ?_ (by omega) | refine rg_setL ?_ (by omega)), (by rw [setL_k _ _ (by omega), up_s] <;> omega), (by rw [setL_k _ _ (by omega), up_n _ _ (by omega)] <;> omega), (by rw [setL_k _ _ (by omega), up_n _ _ (by omega)] <;> omega), hm, htx, hno, htr, hdi, hke, hik, hap⟩, fun h => absurd hK0 h⟩) dX4_would_55
      · exact absurd c9 (by decide)
set_option maxHeartbeats 4000000 in
theorem k_X4_room (l : Launch) (g : Gt) (mb : Nat) (rf sz ac : Int) (TX F DIA KEP ISK : Nat → Int) (T : Int) (hJ : J F z0 T) (hT : T ≤ 900000) (x : Int) (hx : Rg x) (s : Nat) (hs : 0 ≤ x → x = (s : Int)) : CH l yX4_room cX4_room 2 (some .int) 9 206 g [.ref mb, .int (iI x)] (MW g mb rf sz ac TX F DIA KEP ISK) (some (.int (iI (if (Kd (0 ≤ x ∧ x < F 0)) = 0 then ((gN F s 61 0 : Nat) : Int) else 0)))) (Mdp mb) (fun H => ((Kd (0 ≤ x ∧ x < F 0)) = 0 → MW g mb 0 sz ac TX F DIA KEP ISK H) ∧ ((Kd (0 ≤ x ∧ x < F 0)) ≠ 0 → MW g mb (Kd (0 ≤ x ∧ x < F 0)) sz ac TX F DIA KEP ISK H)) := by
  refine ch_of "LentRoomModel" (by decide) rfl (Nat.le_of_ble_eq_true rfl) ?_
  intro zp ze zs zm za zb zt zc ls C hP hF hl
  obtain ⟨M, TRI, AP, hMb, hM0, hM1, hM2, hm, htx, hno, htr, hdi, hke, hik, hap⟩ := hP
  have hl : lv_has ls 2 [(0, .ref mb), (1, .int (iI x))] := hl
  have hS := hJ.S
  have hSm : Sm F := hS.m (by omega)
  have hZ := hJ.Z
  have hn5 := hJ.n
  refine r_aload_n C rfl (lv_at hl 0 rfl) dX4_room_0 ?_
  refine r_aload_n C rfl (lv_at hl 0 rfl) dX4_room_1 ?_
  refine r_get C (ci := 4) (v := .ref (mb + 2)) rfl uin4 hm.o 3 (by decide) q_788 rfl rfl dX4_room_2 ?_
  refine r_iload_n C rfl (lv_at hl 1 rfl) dX4_room_5 ?_
  refine r_sPi (rest := [.ref mb]) C (k_X4_isSpace l g (mb + 2) F hSm x (by omega)) s_RX4_94 hno hl.1 rfl ⟨by decide, by decide⟩ rfl (Nat.le_of_ble_eq_true rfl) ⟨Nat.le_refl 0, Nat.le_refl 0⟩ dX4_room_6 ?_
  have b1 := hSm.n
  refine r_ifP_eq (tgt := 16) C (by decide) dX4_room_9 (fun c2 => ?_) (fun c2 => ?_)
  · refine r_iconst C dX4_room_16 ?_
    refine r_vHi (rest := []) C (k_X4_refused l g mb M 1 (by decide)) s_RX4_109 hm hF (fun q h => (is_mdp (by have h : q = _ := h; omega))) (recv C (ci := 4) rfl hm.o) hl.1 rfl ⟨by decide, by decide⟩ rfl (Nat.le_of_ble_eq_true rfl) ⟨Nat.le_refl 0, Nat.le_refl 0⟩ dX4_room_17 (fun H3 locs3 h3 ho3 hz3 hF => ?_)
    have htx := htx.kept (ho3 _ (fun h => (by have h : _ = _ := h; omega)))
    have hno := hno.kept (ho3 _ (fun h => (by have h : _ = _ := h; omega)))
    have htr := htr.kept (ho3 _ (fun h => (by have h : _ = _ := h; omega)))
    have hdi := hdi.kept (ho3 _ (fun h => (by have h : _ = _ := h; omega)))
    have hke := hke.kept (ho3 _ (fun h => (by have h : _ = _ := h; omega)))
    have hik := hik.kept (ho3 _ (fun h => (by have h : _ = _ := h; omega)))
    have hap := hap.kept (ho3 _ (fun h => (by have h : _ = _ := h; omega)))
    have hm := h3
    refine r_ifP_eq (tgt := 25) C (by decide) dX4_room_20 (fun c4 => ?_) (fun c4 => ?_)
    · exact absurd c4 (by decide)
    · refine r_iconst C dX4_room_23 ?_
      have hK : (Kd (0 ≤ x ∧ x < F 0)) = 1 := (by unfold Kd; split <;> omega)
      exact r_iretH C rfl rfl (congrArg iI (by rw [if_neg (by omega)])) hF (by exact ⟨fun h => absurd h (by omega), fun _ => ⟨up M 0 1, TRI, AP, (by repeat first | exact hMb | exact rg_up hMb (by decide) | refine rg_up ?_ (by omega) | refine rg_setL ?_ (by omega)), (by rw [up_s] <;> omega), (by rw [up_n _ _ (by omega)] <;> omega), (by rw [up_n _ _ (by omega)] <;> omega), hm, htx, hno, htr, hdi, hke, hik, hap⟩⟩) dX4_room_24
  · refine r_iconst C dX4_room_12 ?_
    refine r_goto (tgt := 17) C (by decide) dX4_room_13 ?_
    refine r_vHi (rest := []) C (k_X4_refused l g mb M 0 (by decide)) s_RX4_109 hm hF (fun q h => (is_mdp (by have h : q = _ := h; omega))) (recv C (ci := 4) rfl hm.o) hl.1 rfl ⟨by decide, by decide⟩ rfl (Nat.le_of_ble_eq_true rfl) ⟨Nat.le_refl 0, Nat.le_refl 0⟩ dX4_room_17 (fun H5 locs5 h5 ho5 hz5 hF => ?_)
    have htx := htx.kept (ho5 _ (fun h => (by have h : _ = _ := h; omega)))
    have hno := hno.kept (ho5 _ (fun h => (by have h : _ = _ := h; omega)))
    have htr := htr.kept (ho5 _ (fun h => (by have h : _ = _ := h; omega)))
    have hdi := hdi.kept (ho5 _ (fun h => (by have h : _ = _ := h; omega)))
    have hke := hke.kept (ho5 _ (fun h => (by have h : _ = _ := h; omega)))
    have hik := hik.kept (ho5 _ (fun h => (by have h : _ = _ := h; omega)))
    have hap := hap.kept (ho5 _ (fun h => (by have h : _ = _ := h; omega)))
    have hm := h5
    refine r_ifP_eq (tgt := 25) C (by decide) dX4_room_20 (fun c6 => ?_) (fun c6 => ?_)
    · refine r_aload_n C rfl (lv_at hl 0 rfl) dX4_room_25 ?_
      refine r_get C (ci := 4) (v := .ref (mb + 2)) rfl uin4 hm.o 3 (by decide) q_788 rfl rfl dX4_room_26 ?_
      refine r_iconst C dX4_room_29 ?_
      refine r_aload_n C rfl (lv_at hl 0 rfl) dX4_room_30 ?_
      refine r_get C (ci := 4) (v := .ref (mb + 3)) rfl uin4 hm.o 4 (by decide) q_789 rfl rfl dX4_room_31 ?_
      refine r_iconst C dX4_room_34 ?_
      refine r_sHn (rest := []) C (k_X4_copyState l g (mb + 2) 262 F (mb + 3) 262 TRI 0 0 0 0 (by omega) (by omega) (by omega) (by omega) (by omega)) s_RX4_166 ⟨hno, htr⟩ hF (fun q h => (is_mdp (by have h : q = _ := h; omega))) hl.1 rfl ⟨by decide, by decide⟩ rfl (Nat.le_of_ble_eq_true rfl) ⟨Nat.le_refl 0, Nat.le_refl 0⟩ dX4_room_35 (fun H7 locs7 h7 ho7 hz7 hF => ?_)
      have hm := hm.kept (ho7 _ (fun h => (by have h : _ = _ := h; omega)))
      have htx := htx.kept (ho7 _ (fun h => (by have h : _ = _ := h; omega)))
      have hdi := hdi.kept (ho7 _ (fun h => (by have h : _ = _ := h; omega)))
      have hke := hke.kept (ho7 _ (fun h => (by have h : _ = _ := h; omega)))
      have hik := hik.kept (ho7 _ (fun h => (by have h : _ = _ := h; omega)))
      have hap := hap.kept (ho7 _ (fun h => (by have h : _ = _ := h; omega)))
      obtain ⟨hno, htr⟩ := h7
      have htr : aAt g (mb + 3) 262 (F) H7 := htr.cg (fun k hk => (by rw [cpy_all _ _ hk, Nat.zero_add]))
      refine r_aload_n C rfl (lv_at hl 0 rfl) dX4_room_38 ?_
      refine r_aload_n C rfl (lv_at hl 0 rfl) dX4_room_39 ?_
      refine r_get C (ci := 4) (v := .ref (mb + 3)) rfl uin4 hm.o 4 (by decide) q_789 rfl rfl dX4_room_40 ?_
      refine r_iload_n C rfl (lv_at hl 1 rfl) dX4_room_43 ?_
      refine r_bipush C (by decide) dX4_room_44 ?_
      refine r_vHi (rest := []) C (k_X4_go l g mb (up M 0 0) (by repeat first | exact hMb | refine rg_up ?_ (by omega) | refine rg_setL ?_ (by omega)) (mb + 3) F T (by omega) hJ (by omega) x s (by omega) (by omega) (by omega) 61 61 (by omega) (by omega)) s_RX4_189 ⟨hm, htr⟩ hF (fun q h => (is_mdp (by rcases h with h | h <;> omega))) (recv C (ci := 4) rfl hm.o) hl.1 rfl ⟨by decide, by decide⟩ rfl (Nat.le_of_ble_eq_true rfl) ⟨Nat.le_refl 0, Nat.le_refl 0⟩ dX4_room_46 (fun H8 locs8 h8 ho8 hz8 hF => ?_)
      have htx := htx.kept (ho8 _ (fun h => (by rcases h with h | h <;> omega)))
      have hno := hno.kept (ho8 _ (fun h => (by rcases h with h | h <;> omega)))
      have hdi := hdi.kept (ho8 _ (fun h => (by rcases h with h | h <;> omega)))
      have hke := hke.kept (ho8 _ (fun h => (by rcases h with h | h <;> omega)))
      have hik := hik.kept (ho8 _ (fun h => (by rcases h with h | h <;> omega)))
      have hap := hap.kept (ho8 _ (fun h => (by rcases h with h | h <;> omega)))
      obtain ⟨hm, htr⟩ := h8
      have hgb := gN_b F s 61 0
      have hgl := gL_5 hJ (s := s) (by omega) (by omega) (fun _ _ _ => rfl) (gN F s 61 0) (by omega)
      obtain ⟨dlG, hdG, hJG, h0G⟩ := (hJ).gr (s := s) (by omega) (by omega) (fun _ _ _ => rfl) (gN F s 61 0) (by omega)
      have hSmG : Sm (gF F s (gN F s 61 0)) := hJG.S.m (by omega)
      have hZG := hJG.Z
      have hK : (Kd (0 ≤ x ∧ x < F 0)) = 0 := (by unfold Kd; split <;> omega)
      have hK0 : (Kd (0 ≤ x ∧ x < F 0)) = 0 := (by omega)
      exact r_iretH C rfl rfl (congrArg iI (by rw [if_pos hK0] <;> (rfl))) hF (by exact ⟨fun _ => ⟨up (up M 0 0) 3 (gL F s (gN F s 61 0)), gF F s (gN F s 61 0), AP, (by repeat first | exact hMb | exact rg_up hMb (by decide) | refine rg_up ?_ (by omega) | refine rg_setL ?_ (by omega)), (by rw [up_n _ _ (by omega), up_s] <;> omega), (by rw [up_n _ _ (by omega), up_n _ _ (by omega)] <;> omega), (by rw [up_n _ _ (by omega), up_n _ _ (by omega)] <;> omega), hm, htx, hno, htr, hdi, hke, hik, hap⟩, fun h => absurd hK0 h⟩) dX4_room_49
    · exact absurd c6 (by decide)
set_option maxHeartbeats 4000000 in
theorem k_X4_harm (l : Launch) (g : Gt) (mb : Nat) (rf sz ac : Int) (TX F DIA KEP ISK : Nat → Int) (T : Int) (hJ : J F z0 T) (hT : T ≤ 900000) (x y : Int) (hx : Rg x) (hy : Rg y) (s k : Nat) (hs : 0 ≤ x → x = (s : Int)) (hk : 0 ≤ y → y = (k : Int)) : CH l yX4_harm cX4_harm 3 (some .int) 9 206 g [.ref mb, .int (iI x), .int (iI y)] (MW g mb rf sz ac TX F DIA KEP ISK) (some (.int (iI (if (if ¬ (0 ≤ x ∧ x < F 0) then 1 else if ¬ (0 ≤ y ∧ y ≤ 60) then 2 else 0) = 0 then S5 (gF F s (gN F s k 0)) 5 - S5 F 5 else 0)))) (Mdp mb) (fun H => ((if ¬ (0 ≤ x ∧ x < F 0) then 1 else if ¬ (0 ≤ y ∧ y ≤ 60) then 2 else 0) = 0 → MW g mb 0 sz ac TX F DIA KEP ISK H) ∧ ((if ¬ (0 ≤ x ∧ x < F 0) then 1 else if ¬ (0 ≤ y ∧ y ≤ 60) then 2 else 0) ≠ 0 → MW g mb (if ¬ (0 ≤ x ∧ x < F 0) then 1 else if ¬ (0 ≤ y ∧ y ≤ 60) then 2 else 0) sz ac TX F DIA KEP ISK H)) := by
  refine ch_of "LentRoomModel" (by decide) rfl (Nat.le_of_ble_eq_true rfl) ?_
  intro zp ze zs zm za zb zt zc ls C hP hF hl
  obtain ⟨M, TRI, AP, hMb, hM0, hM1, hM2, hm, htx, hno, htr, hdi, hke, hik, hap⟩ := hP
  have hl : lv_has ls 3 [(0, .ref mb), (1, .int (iI x)), (2, .int (iI y))] := hl
  have hS := hJ.S
  have hSm : Sm F := hS.m (by omega)
  have hZ := hJ.Z
  have hn5 := hJ.n
  refine r_aload_n C rfl (lv_at hl 0 rfl) dX4_harm_0 ?_
  refine r_aload_n C rfl (lv_at hl 0 rfl) dX4_harm_1 ?_
  refine r_get C (ci := 4) (v := .ref (mb + 2)) rfl uin4 hm.o 3 (by decide) q_788 rfl rfl dX4_harm_2 ?_
  refine r_iload_n C rfl (lv_at hl 1 rfl) dX4_harm_5 ?_
  refine r_sPi (rest := [.ref mb]) C (k_X4_isSpace l g (mb + 2) F hSm x (by omega)) s_RX4_94 hno hl.1 rfl ⟨by decide, by decide⟩ rfl (Nat.le_of_ble_eq_true rfl) ⟨Nat.le_refl 0, Nat.le_refl 0⟩ dX4_harm_6 ?_
  have b1 := hSm.n
  refine r_ifP_ne (tgt := 16) C (by decide) dX4_harm_9 (fun c2 => ?_) (fun c2 => ?_)
  · refine r_iload_n C rfl (lv_at hl 2 rfl) dX4_harm_16 ?_
    refine r_i2l C (by omega) dX4_harm_17 ?_
    refine r_lconst C 0 rfl dX4_harm_18 ?_
    refine r_ldc2 C (v := iL 60) q_865 dX4_harm_19 ?_
    refine r_sPi (rest := [.ref mb]) C (k_X4_in l g y 0 60 (by omega) (by omega) (by omega)) s_RX4_39 trivial hl.1 rfl ⟨by decide, by decide⟩ rfl (Nat.le_of_ble_eq_true rfl) ⟨Nat.le_refl 0, Nat.le_refl 0⟩ dX4_harm_22 ?_
    refine r_ifP_eq (tgt := 32) C (by decide) dX4_harm_25 (fun c3 => ?_) (fun c3 => ?_)
    · refine r_iconst C dX4_harm_32 ?_
      refine r_vHi (rest := []) C (k_X4_refused l g mb M 2 (by decide)) s_RX4_109 hm hF (fun q h => (is_mdp (by have h : q = _ := h; omega))) (recv C (ci := 4) rfl hm.o) hl.1 rfl ⟨by decide, by decide⟩ rfl (Nat.le_of_ble_eq_true rfl) ⟨Nat.le_refl 0, Nat.le_refl 0⟩ dX4_harm_33 (fun H4 locs4 h4 ho4 hz4 hF => ?_)
      have htx := htx.kept (ho4 _ (fun h => (by have h : _ = _ := h; omega)))
      have hno := hno.kept (ho4 _ (fun h => (by have h : _ = _ := h; omega)))
      have htr := htr.kept (ho4 _ (fun h => (by have h : _ = _ := h; omega)))
      have hdi := hdi.kept (ho4 _ (fun h => (by have h : _ = _ := h; omega)))
      have hke := hke.kept (ho4 _ (fun h => (by have h : _ = _ := h; omega)))
      have hik := hik.kept (ho4 _ (fun h => (by have h : _ = _ := h; omega)))
      have hap := hap.kept (ho4 _ (fun h => (by have h : _ = _ := h; omega)))
      have hm := h4
      refine r_ifP_eq (tgt := 41) C (by decide) dX4_harm_36 (fun c5 => ?_) (fun c5 => ?_)
      · exact absurd c5 (by decide)
      · refine r_iconst C dX4_harm_39 ?_
        have hK : (if ¬ (0 ≤ x ∧ x < F 0) then 1 else if ¬ (0 ≤ y ∧ y ≤ 60) then 2 else 0) = 2 := (by (repeat' split) <;> omega)
        exact r_iretH C rfl rfl (congrArg iI (by rw [if_neg (by omega)])) hF (by exact ⟨fun h => absurd h (by omega), fun _ => ⟨up M 0 2, TRI, AP, (by repeat first | exact hMb | exact rg_up hMb (by decide) | refine rg_up ?_ (by omega) | refine rg_setL ?_ (by omega)), (by rw [up_s] <;> omega), (by rw [up_n _ _ (by omega)] <;> omega), (by rw [up_n _ _ (by omega)] <;> omega), hm, htx, hno, htr, hdi, hke, hik, hap⟩⟩) dX4_harm_40
    · refine r_iconst C dX4_harm_28 ?_
      refine r_goto (tgt := 33) C (by decide) dX4_harm_29 ?_
      refine r_vHi (rest := []) C (k_X4_refused l g mb M 0 (by decide)) s_RX4_109 hm hF (fun q h => (is_mdp (by have h : q = _ := h; omega))) (recv C (ci := 4) rfl hm.o) hl.1 rfl ⟨by decide, by decide⟩ rfl (Nat.le_of_ble_eq_true rfl) ⟨Nat.le_refl 0, Nat.le_refl 0⟩ dX4_harm_33 (fun H6 locs6 h6 ho6 hz6 hF => ?_)
      have htx := htx.kept (ho6 _ (fun h => (by have h : _ = _ := h; omega)))
      have hno := hno.kept (ho6 _ (fun h => (by have h : _ = _ := h; omega)))
      have htr := htr.kept (ho6 _ (fun h => (by have h : _ = _ := h; omega)))
      have hdi := hdi.kept (ho6 _ (fun h => (by have h : _ = _ := h; omega)))
      have hke := hke.kept (ho6 _ (fun h => (by have h : _ = _ := h; omega)))
      have hik := hik.kept (ho6 _ (fun h => (by have h : _ = _ := h; omega)))
      have hap := hap.kept (ho6 _ (fun h => (by have h : _ = _ := h; omega)))
      have hm := h6
      refine r_ifP_eq (tgt := 41) C (by decide) dX4_harm_36 (fun c7 => ?_) (fun c7 => ?_)
      · refine r_aload_n C rfl (lv_at hl 0 rfl) dX4_harm_41 ?_
        refine r_get C (ci := 4) (v := .ref (mb + 2)) rfl uin4 hm.o 3 (by decide) q_788 rfl rfl dX4_harm_42 ?_
        refine r_iconst C dX4_harm_45 ?_
        refine r_aload_n C rfl (lv_at hl 0 rfl) dX4_harm_46 ?_
        refine r_get C (ci := 4) (v := .ref (mb + 3)) rfl uin4 hm.o 4 (by decide) q_789 rfl rfl dX4_harm_47 ?_
        refine r_iconst C dX4_harm_50 ?_
        refine r_sHn (rest := []) C (k_X4_copyState l g (mb + 2) 262 F (mb + 3) 262 TRI 0 0 0 0 (by omega) (by omega) (by omega) (by omega) (by omega)) s_RX4_166 ⟨hno, htr⟩ hF (fun q h => (is_mdp (by have h : q = _ := h; omega))) hl.1 rfl ⟨by decide, by decide⟩ rfl (Nat.le_of_ble_eq_true rfl) ⟨Nat.le_refl 0, Nat.le_refl 0⟩ dX4_harm_51 (fun H8 locs8 h8 ho8 hz8 hF => ?_)
        have hm := hm.kept (ho8 _ (fun h => (by have h : _ = _ := h; omega)))
        have htx := htx.kept (ho8 _ (fun h => (by have h : _ = _ := h; omega)))
        have hdi := hdi.kept (ho8 _ (fun h => (by have h : _ = _ := h; omega)))
        have hke := hke.kept (ho8 _ (fun h => (by have h : _ = _ := h; omega)))
        have hik := hik.kept (ho8 _ (fun h => (by have h : _ = _ := h; omega)))
        have hap := hap.kept (ho8 _ (fun h => (by have h : _ = _ := h; omega)))
        obtain ⟨hno, htr⟩ := h8
        have htr : aAt g (mb + 3) 262 (F) H8 := htr.cg (fun k hk => (by rw [cpy_all _ _ hk, Nat.zero_add]))
        refine r_aload_n C rfl (lv_at hl 0 rfl) dX4_harm_54 ?_
        refine r_aload_n C rfl (lv_at hl 0 rfl) dX4_harm_55 ?_
        refine r_get C (ci := 4) (v := .ref (mb + 3)) rfl uin4 hm.o 4 (by decide) q_789 rfl rfl dX4_harm_56 ?_
        refine r_iload_n C rfl (lv_at hl 1 rfl) dX4_harm_59 ?_
        refine r_iload_n C rfl (lv_at hl 2 rfl) dX4_harm_60 ?_
        refine r_vHi (rest := []) C (k_X4_go l g mb (up M 0 0) (by repeat first | exact hMb | refine rg_up ?_ (by omega) | refine rg_setL ?_ (by omega)) (mb + 3) F T (by omega) hJ (by omega) x s (by omega) (by omega) (by omega) y k (by omega) (by omega)) s_RX4_189 ⟨hm, htr⟩ hF (fun q h => (is_mdp (by rcases h with h | h <;> omega))) (recv C (ci := 4) rfl hm.o) hl.1 rfl ⟨by decide, by decide⟩ rfl (Nat.le_of_ble_eq_true rfl) ⟨Nat.le_refl 0, Nat.le_refl 0⟩ dX4_harm_61 (fun H9 locs9 h9 ho9 hz9 hF => ?_)
        have htx := htx.kept (ho9 _ (fun h => (by rcases h with h | h <;> omega)))
        have hno := hno.kept (ho9 _ (fun h => (by rcases h with h | h <;> omega)))
        have hdi := hdi.kept (ho9 _ (fun h => (by rcases h with h | h <;> omega)))
        have hke := hke.kept (ho9 _ (fun h => (by rcases h with h | h <;> omega)))
        have hik := hik.kept (ho9 _ (fun h => (by rcases h with h | h <;> omega)))
        have hap := hap.kept (ho9 _ (fun h => (by rcases h with h | h <;> omega)))
        obtain ⟨hm, htr⟩ := h9
        have hgb := gN_b F s k 0
        have hgl := gL_5 hJ (s := s) (by omega) (by omega) (fun _ _ _ => rfl) (gN F s k 0) (by omega)
        obtain ⟨dlG, hdG, hJG, h0G⟩ := (hJ).gr (s := s) (by omega) (by omega) (fun _ _ _ => rfl) (gN F s k 0) (by omega)
        have hSmG : Sm (gF F s (gN F s k 0)) := hJG.S.m (by omega)
        have hZG := hJG.Z
        refine r_pop C rfl dX4_harm_64 ?_
        refine r_aload_n C rfl (lv_at hl 0 rfl) dX4_harm_65 ?_
        refine r_get C (ci := 4) (v := .ref (mb + 3)) rfl uin4 hm.o 4 (by decide) q_789 rfl rfl dX4_harm_66 ?_
        refine r_iconst C dX4_harm_69 ?_
        refine r_sPi (rest := []) C (k_X4_sum l g (mb + 3) (gF F s (gN F s k 0)) hSmG hZG 5 5 (by omega) (by omega)) s_RX4_53 htr hl.1 rfl ⟨by decide, by decide⟩ rfl (Nat.le_of_ble_eq_true rfl) ⟨Nat.le_refl 0, Nat.le_refl 0⟩ dX4_harm_70 ?_
        have b10 := S5_b hSmG 5 (by omega)
        refine r_aload_n C rfl (lv_at hl 0 rfl) dX4_harm_73 ?_
        refine r_get C (ci := 4) (v := .ref (mb + 2)) rfl uin4 hm.o 3 (by decide) q_788 rfl rfl dX4_harm_74 ?_
        refine r_iconst C dX4_harm_77 ?_
        refine r_sPi (rest := [.int (iI (S5 (gF F s (gN F s k 0)) 5))]) C (k_X4_sum l g (mb + 2) F hSm hZ 5 5 (by omega) (by omega)) s_RX4_53 hno hl.1 rfl ⟨by decide, by decide⟩ rfl (Nat.le_of_ble_eq_true rfl) ⟨Nat.le_refl 0, Nat.le_refl 0⟩ dX4_harm_78 ?_
        have b11 := S5_b hSm 5 (by omega)
        refine r_isub C dX4_harm_81 ?_
        have hK : (if ¬ (0 ≤ x ∧ x < F 0) then 1 else if ¬ (0 ≤ y ∧ y ≤ 60) then 2 else 0) = 0 := (by (repeat' split) <;> omega)
        have hK0 : (if ¬ (0 ≤ x ∧ x < F 0) then 1 else if ¬ (0 ≤ y ∧ y ≤ 60) then 2 else 0) = 0 := (by omega)
        exact r_iretH C rfl rfl (congrArg iI (by rw [if_pos hK0] <;> (rfl))) hF (by exact ⟨fun _ => ⟨up (up M 0 0) 3 (gL F s (gN F s k 0)), gF F s (gN F s k 0), AP, (by repeat first | exact hMb | exact rg_up hMb (by decide) | refine rg_up ?_ (by omega) | refine rg_setL ?_ (by omega)), (by rw [up_n _ _ (by omega), up_s] <;> omega), (by rw [up_n _ _ (by omega), up_n _ _ (by omega)] <;> omega), (by rw [up_n _ _ (by omega), up_n _ _ (by omega)] <;> omega), hm, htx, hno, htr, hdi, hke, hik, hap⟩, fun h => absurd hK0 h⟩) dX4_harm_82
      · exact absurd c7 (by decide)
  · refine r_iconst C dX4_harm_12 ?_
    refine r_goto (tgt := 33) C (by decide) dX4_harm_13 ?_
    refine r_vHi (rest := []) C (k_X4_refused l g mb M 1 (by decide)) s_RX4_109 hm hF (fun q h => (is_mdp (by have h : q = _ := h; omega))) (recv C (ci := 4) rfl hm.o) hl.1 rfl ⟨by decide, by decide⟩ rfl (Nat.le_of_ble_eq_true rfl) ⟨Nat.le_refl 0, Nat.le_refl 0⟩ dX4_harm_33 (fun H12 locs12 h12 ho12 hz12 hF => ?_)
    have htx := htx.kept (ho12 _ (fun h => (by have h : _ = _ := h; omega)))
    have hno := hno.kept (ho12 _ (fun h => (by have h : _ = _ := h; omega)))
    have htr := htr.kept (ho12 _ (fun h => (by have h : _ = _ := h; omega)))
    have hdi := hdi.kept (ho12 _ (fun h => (by have h : _ = _ := h; omega)))
    have hke := hke.kept (ho12 _ (fun h => (by have h : _ = _ := h; omega)))
    have hik := hik.kept (ho12 _ (fun h => (by have h : _ = _ := h; omega)))
    have hap := hap.kept (ho12 _ (fun h => (by have h : _ = _ := h; omega)))
    have hm := h12
    refine r_ifP_eq (tgt := 41) C (by decide) dX4_harm_36 (fun c13 => ?_) (fun c13 => ?_)
    · exact absurd c13 (by decide)
    · refine r_iconst C dX4_harm_39 ?_
      have hK : (if ¬ (0 ≤ x ∧ x < F 0) then 1 else if ¬ (0 ≤ y ∧ y ≤ 60) then 2 else 0) = 1 := (by (repeat' split) <;> omega)
      exact r_iretH C rfl rfl (congrArg iI (by rw [if_neg (by omega)])) hF (by exact ⟨fun h => absurd h (by omega), fun _ => ⟨up M 0 1, TRI, AP, (by repeat first | exact hMb | exact rg_up hMb (by decide) | refine rg_up ?_ (by omega) | refine rg_setL ?_ (by omega)), (by rw [up_s] <;> omega), (by rw [up_n _ _ (by omega)] <;> omega), (by rw [up_n _ _ (by omega)] <;> omega), hm, htx, hno, htr, hdi, hke, hik, hap⟩⟩) dX4_harm_40
set_option maxHeartbeats 4000000 in
theorem k_X4_victim (l : Launch) (g : Gt) (mb : Nat) (rf sz ac : Int) (TX F DIA KEP ISK : Nat → Int) (T : Int) (hJ : J F z0 T) (hT : T ≤ 900000) (x : Int) (hx : Rg x) (s : Nat) (hs : 0 ≤ x → x = (s : Int)) : CH l yX4_victim cX4_victim 2 (some .int) 9 206 g [.ref mb, .int (iI x)] (MW g mb rf sz ac TX F DIA KEP ISK) (some (.int (iI (if (Kd (0 ≤ x ∧ x < F 0)) = 0 then gL F s (gN F s 61 0) else 0)))) (Mdp mb) (fun H => ((Kd (0 ≤ x ∧ x < F 0)) = 0 → MW g mb 0 sz ac TX F DIA KEP ISK H) ∧ ((Kd (0 ≤ x ∧ x < F 0)) ≠ 0 → MW g mb (Kd (0 ≤ x ∧ x < F 0)) sz ac TX F DIA KEP ISK H)) := by
  refine ch_of "LentRoomModel" (by decide) rfl (Nat.le_of_ble_eq_true rfl) ?_
  intro zp ze zs zm za zb zt zc ls C hP hF hl
  obtain ⟨M, TRI, AP, hMb, hM0, hM1, hM2, hm, htx, hno, htr, hdi, hke, hik, hap⟩ := hP
  have hl : lv_has ls 2 [(0, .ref mb), (1, .int (iI x))] := hl
  have hS := hJ.S
  have hSm : Sm F := hS.m (by omega)
  have hZ := hJ.Z
  have hn5 := hJ.n
  refine r_aload_n C rfl (lv_at hl 0 rfl) dX4_victim_0 ?_
  refine r_aload_n C rfl (lv_at hl 0 rfl) dX4_victim_1 ?_
  refine r_get C (ci := 4) (v := .ref (mb + 2)) rfl uin4 hm.o 3 (by decide) q_788 rfl rfl dX4_victim_2 ?_
  refine r_iload_n C rfl (lv_at hl 1 rfl) dX4_victim_5 ?_
  refine r_sPi (rest := [.ref mb]) C (k_X4_isSpace l g (mb + 2) F hSm x (by omega)) s_RX4_94 hno hl.1 rfl ⟨by decide, by decide⟩ rfl (Nat.le_of_ble_eq_true rfl) ⟨Nat.le_refl 0, Nat.le_refl 0⟩ dX4_victim_6 ?_
  have b1 := hSm.n
  refine r_ifP_eq (tgt := 16) C (by decide) dX4_victim_9 (fun c2 => ?_) (fun c2 => ?_)
  · refine r_iconst C dX4_victim_16 ?_
    refine r_vHi (rest := []) C (k_X4_refused l g mb M 1 (by decide)) s_RX4_109 hm hF (fun q h => (is_mdp (by have h : q = _ := h; omega))) (recv C (ci := 4) rfl hm.o) hl.1 rfl ⟨by decide, by decide⟩ rfl (Nat.le_of_ble_eq_true rfl) ⟨Nat.le_refl 0, Nat.le_refl 0⟩ dX4_victim_17 (fun H3 locs3 h3 ho3 hz3 hF => ?_)
    have htx := htx.kept (ho3 _ (fun h => (by have h : _ = _ := h; omega)))
    have hno := hno.kept (ho3 _ (fun h => (by have h : _ = _ := h; omega)))
    have htr := htr.kept (ho3 _ (fun h => (by have h : _ = _ := h; omega)))
    have hdi := hdi.kept (ho3 _ (fun h => (by have h : _ = _ := h; omega)))
    have hke := hke.kept (ho3 _ (fun h => (by have h : _ = _ := h; omega)))
    have hik := hik.kept (ho3 _ (fun h => (by have h : _ = _ := h; omega)))
    have hap := hap.kept (ho3 _ (fun h => (by have h : _ = _ := h; omega)))
    have hm := h3
    refine r_ifP_eq (tgt := 25) C (by decide) dX4_victim_20 (fun c4 => ?_) (fun c4 => ?_)
    · exact absurd c4 (by decide)
    · refine r_iconst C dX4_victim_23 ?_
      have hK : (Kd (0 ≤ x ∧ x < F 0)) = 1 := (by unfold Kd; split <;> omega)
      exact r_iretH C rfl rfl (congrArg iI (by rw [if_neg (by omega)])) hF (by exact ⟨fun h => absurd h (by omega), fun _ => ⟨up M 0 1, TRI, AP, (by repeat first | exact hMb | exact rg_up hMb (by decide) | refine rg_up ?_ (by omega) | refine rg_setL ?_ (by omega)), (by rw [up_s] <;> omega), (by rw [up_n _ _ (by omega)] <;> omega), (by rw [up_n _ _ (by omega)] <;> omega), hm, htx, hno, htr, hdi, hke, hik, hap⟩⟩) dX4_victim_24
  · refine r_iconst C dX4_victim_12 ?_
    refine r_goto (tgt := 17) C (by decide) dX4_victim_13 ?_
    refine r_vHi (rest := []) C (k_X4_refused l g mb M 0 (by decide)) s_RX4_109 hm hF (fun q h => (is_mdp (by have h : q = _ := h; omega))) (recv C (ci := 4) rfl hm.o) hl.1 rfl ⟨by decide, by decide⟩ rfl (Nat.le_of_ble_eq_true rfl) ⟨Nat.le_refl 0, Nat.le_refl 0⟩ dX4_victim_17 (fun H5 locs5 h5 ho5 hz5 hF => ?_)
    have htx := htx.kept (ho5 _ (fun h => (by have h : _ = _ := h; omega)))
    have hno := hno.kept (ho5 _ (fun h => (by have h : _ = _ := h; omega)))
    have htr := htr.kept (ho5 _ (fun h => (by have h : _ = _ := h; omega)))
    have hdi := hdi.kept (ho5 _ (fun h => (by have h : _ = _ := h; omega)))
    have hke := hke.kept (ho5 _ (fun h => (by have h : _ = _ := h; omega)))
    have hik := hik.kept (ho5 _ (fun h => (by have h : _ = _ := h; omega)))
    have hap := hap.kept (ho5 _ (fun h => (by have h : _ = _ := h; omega)))
    have hm := h5
    refine r_ifP_eq (tgt := 25) C (by decide) dX4_victim_20 (fun c6 => ?_) (fun c6 => ?_)
    · refine r_aload_n C rfl (lv_at hl 0 rfl) dX4_victim_25 ?_
      refine r_get C (ci := 4) (v := .ref (mb + 2)) rfl uin4 hm.o 3 (by decide) q_788 rfl rfl dX4_victim_26 ?_
      refine r_iconst C dX4_victim_29 ?_
      refine r_aload_n C rfl (lv_at hl 0 rfl) dX4_victim_30 ?_
      refine r_get C (ci := 4) (v := .ref (mb + 3)) rfl uin4 hm.o 4 (by decide) q_789 rfl rfl dX4_victim_31 ?_
      refine r_iconst C dX4_victim_34 ?_
      refine r_sHn (rest := []) C (k_X4_copyState l g (mb + 2) 262 F (mb + 3) 262 TRI 0 0 0 0 (by omega) (by omega) (by omega) (by omega) (by omega)) s_RX4_166 ⟨hno, htr⟩ hF (fun q h => (is_mdp (by have h : q = _ := h; omega))) hl.1 rfl ⟨by decide, by decide⟩ rfl (Nat.le_of_ble_eq_true rfl) ⟨Nat.le_refl 0, Nat.le_refl 0⟩ dX4_victim_35 (fun H7 locs7 h7 ho7 hz7 hF => ?_)
      have hm := hm.kept (ho7 _ (fun h => (by have h : _ = _ := h; omega)))
      have htx := htx.kept (ho7 _ (fun h => (by have h : _ = _ := h; omega)))
      have hdi := hdi.kept (ho7 _ (fun h => (by have h : _ = _ := h; omega)))
      have hke := hke.kept (ho7 _ (fun h => (by have h : _ = _ := h; omega)))
      have hik := hik.kept (ho7 _ (fun h => (by have h : _ = _ := h; omega)))
      have hap := hap.kept (ho7 _ (fun h => (by have h : _ = _ := h; omega)))
      obtain ⟨hno, htr⟩ := h7
      have htr : aAt g (mb + 3) 262 (F) H7 := htr.cg (fun k hk => (by rw [cpy_all _ _ hk, Nat.zero_add]))
      refine r_aload_n C rfl (lv_at hl 0 rfl) dX4_victim_38 ?_
      refine r_aload_n C rfl (lv_at hl 0 rfl) dX4_victim_39 ?_
      refine r_get C (ci := 4) (v := .ref (mb + 3)) rfl uin4 hm.o 4 (by decide) q_789 rfl rfl dX4_victim_40 ?_
      refine r_iload_n C rfl (lv_at hl 1 rfl) dX4_victim_43 ?_
      refine r_bipush C (by decide) dX4_victim_44 ?_
      refine r_vHi (rest := []) C (k_X4_go l g mb (up M 0 0) (by repeat first | exact hMb | refine rg_up ?_ (by omega) | refine rg_setL ?_ (by omega)) (mb + 3) F T (by omega) hJ (by omega) x s (by omega) (by omega) (by omega) 61 61 (by omega) (by omega)) s_RX4_189 ⟨hm, htr⟩ hF (fun q h => (is_mdp (by rcases h with h | h <;> omega))) (recv C (ci := 4) rfl hm.o) hl.1 rfl ⟨by decide, by decide⟩ rfl (Nat.le_of_ble_eq_true rfl) ⟨Nat.le_refl 0, Nat.le_refl 0⟩ dX4_victim_46 (fun H8 locs8 h8 ho8 hz8 hF => ?_)
      have htx := htx.kept (ho8 _ (fun h => (by rcases h with h | h <;> omega)))
      have hno := hno.kept (ho8 _ (fun h => (by rcases h with h | h <;> omega)))
      have hdi := hdi.kept (ho8 _ (fun h => (by rcases h with h | h <;> omega)))
      have hke := hke.kept (ho8 _ (fun h => (by rcases h with h | h <;> omega)))
      have hik := hik.kept (ho8 _ (fun h => (by rcases h with h | h <;> omega)))
      have hap := hap.kept (ho8 _ (fun h => (by rcases h with h | h <;> omega)))
      obtain ⟨hm, htr⟩ := h8
      have hgb := gN_b F s 61 0
      have hgl := gL_5 hJ (s := s) (by omega) (by omega) (fun _ _ _ => rfl) (gN F s 61 0) (by omega)
      obtain ⟨dlG, hdG, hJG, h0G⟩ := (hJ).gr (s := s) (by omega) (by omega) (fun _ _ _ => rfl) (gN F s 61 0) (by omega)
      have hSmG : Sm (gF F s (gN F s 61 0)) := hJG.S.m (by omega)
      have hZG := hJG.Z
      refine r_pop C rfl dX4_victim_49 ?_
      refine r_aload_n C rfl (lv_at hl 0 rfl) dX4_victim_50 ?_
      refine r_get C (ci := 4) (v := .int (iI ((up (up M 0 0) 3 (gL F s (gN F s 61 0))) 3))) rfl uin4 hm.o 9 (by decide) q_794 rfl rfl dX4_victim_51 ?_
      have er9 : (up (up M 0 0) 3 (gL F s (gN F s 61 0))) 3 = gL F s (gN F s 61 0) := (by rw [up_s])
      rw [er9]
      have hK : (Kd (0 ≤ x ∧ x < F 0)) = 0 := (by unfold Kd; split <;> omega)
      have hK0 : (Kd (0 ≤ x ∧ x < F 0)) = 0 := (by omega)
      exact r_iretH C rfl rfl (congrArg iI (by rw [if_pos hK0] <;> (rfl))) hF (by exact ⟨fun _ => ⟨up (up M 0 0) 3 (gL F s (gN F s 61 0)), gF F s (gN F s 61 0), AP, (by repeat first | exact hMb | exact rg_up hMb (by decide) | refine rg_up ?_ (by omega) | refine rg_setL ?_ (by omega)), (by rw [up_n _ _ (by omega), up_s] <;> omega), (by rw [up_n _ _ (by omega), up_n _ _ (by omega)] <;> omega), (by rw [up_n _ _ (by omega), up_n _ _ (by omega)] <;> omega), hm, htx, hno, htr, hdi, hke, hik, hap⟩, fun h => absurd hK0 h⟩) dX4_victim_54
    · exact absurd c6 (by decide)
set_option maxHeartbeats 4000000 in
theorem k_X4_append (l : Launch) (g : Gt) (mb : Nat) (rf sz ac : Int) (TX F DIA KEP ISK : Nat → Int) (T : Int) (hJ : J F z0 T) (hT : T ≤ 900000) (x : Int) (hx : Rg x) (hsz : 0 ≤ sz ∧ sz ≤ 120) : CH l yX4_append cX4_append 2 (some .int) 1 25 g [.ref mb, .int (iI x)] (MW g mb rf sz ac TX F DIA KEP ISK) (some (.int (iI (if (if ¬ (0 ≤ x ∧ x ≤ 255) then 1 else if sz = 120 then 2 else 0) = 0 then sz + 1 else 0)))) (Mdp mb) (fun H => ((if ¬ (0 ≤ x ∧ x ≤ 255) then 1 else if sz = 120 then 2 else 0) = 0 → MW g mb 0 (sz + 1) ac (up TX sz.toNat x) F DIA KEP ISK H) ∧ ((if ¬ (0 ≤ x ∧ x ≤ 255) then 1 else if sz = 120 then 2 else 0) ≠ 0 → MW g mb (if ¬ (0 ≤ x ∧ x ≤ 255) then 1 else if sz = 120 then 2 else 0) sz ac TX F DIA KEP ISK H)) := by
  refine ch_of "LentRoomModel" (by decide) rfl (Nat.le_of_ble_eq_true rfl) ?_
  intro zp ze zs zm za zb zt zc ls C hP hF hl
  obtain ⟨M, TRI, AP, hMb, hM0, hM1, hM2, hm, htx, hno, htr, hdi, hke, hik, hap⟩ := hP
  have hl : lv_has ls 2 [(0, .ref mb), (1, .int (iI x))] := hl
  have hS := hJ.S
  have hSm : Sm F := hS.m (by omega)
  have hZ := hJ.Z
  have hn5 := hJ.n
  refine r_aload_n C rfl (lv_at hl 0 rfl) dX4_append_0 ?_
  refine r_iload_n C rfl (lv_at hl 1 rfl) dX4_append_1 ?_
  refine r_i2l C (by omega) dX4_append_2 ?_
  refine r_lconst C 0 rfl dX4_append_3 ?_
  refine r_ldc2 C (v := iL 255) q_833 dX4_append_4 ?_
  refine r_sPi (rest := [.ref mb]) C (k_X4_in l g x 0 255 (by omega) (by omega) (by omega)) s_RX4_39 trivial hl.1 rfl ⟨by decide, by decide⟩ rfl (Nat.le_of_ble_eq_true rfl) ⟨Nat.le_refl 0, Nat.le_refl 0⟩ dX4_append_7 ?_
  refine r_ifP_ne (tgt := 17) C (by decide) dX4_append_10 (fun c1 => ?_) (fun c1 => ?_)
  · refine r_aload_n C rfl (lv_at hl 0 rfl) dX4_append_17 ?_
    refine r_get C (ci := 4) (v := .int (iI (M 1))) rfl uin4 hm.o 2 (by decide) q_787 rfl rfl dX4_append_18 ?_
    have b2 := hMb 1
    refine r_bipush C (by decide) dX4_append_21 ?_
    refine r_icmp_ne (tgt := 30) C (by decide) (by omega) (by decide) dX4_append_23 (fun c3 => ?_) (fun c3 => ?_)
    · refine r_iconst C dX4_append_30 ?_
      refine r_vHi (rest := []) C (k_X4_refused l g mb M 0 (by decide)) s_RX4_109 hm hF (fun q h => (is_mdp (by have h : q = _ := h; omega))) (recv C (ci := 4) rfl hm.o) hl.1 rfl ⟨by decide, by decide⟩ rfl (Nat.le_of_ble_eq_true rfl) ⟨Nat.le_refl 0, Nat.le_refl 0⟩ dX4_append_31 (fun H4 locs4 h4 ho4 hz4 hF => ?_)
      have htx := htx.kept (ho4 _ (fun h => (by have h : _ = _ := h; omega)))
      have hno := hno.kept (ho4 _ (fun h => (by have h : _ = _ := h; omega)))
      have htr := htr.kept (ho4 _ (fun h => (by have h : _ = _ := h; omega)))
      have hdi := hdi.kept (ho4 _ (fun h => (by have h : _ = _ := h; omega)))
      have hke := hke.kept (ho4 _ (fun h => (by have h : _ = _ := h; omega)))
      have hik := hik.kept (ho4 _ (fun h => (by have h : _ = _ := h; omega)))
      have hap := hap.kept (ho4 _ (fun h => (by have h : _ = _ := h; omega)))
      have hm := h4
      refine r_ifP_eq (tgt := 39) C (by decide) dX4_append_34 (fun c5 => ?_) (fun c5 => ?_)
      · refine r_aload_n C rfl (lv_at hl 0 rfl) dX4_append_39 ?_
        refine r_get C (ci := 4) (v := .ref (mb + 1)) rfl uin4 hm.o 1 (by decide) q_786 rfl rfl dX4_append_40 ?_
        refine r_aload_n C rfl (lv_at hl 0 rfl) dX4_append_43 ?_
        refine r_get C (ci := 4) (v := .int (iI ((up M 0 0) 1))) rfl uin4 hm.o 2 (by decide) q_787 rfl rfl dX4_append_44 ?_
        have er6 : (up M 0 0) 1 = M 1 := (by rw [up_n _ _ (by omega)])
        rw [er6]
        refine r_iload_n C rfl (lv_at hl 1 rfl) dX4_append_47 ?_
        refine r_iast C htx hF (is_mdp (by omega)) sz.toNat (by omega) (by omega) (by omega) dX4_append_48 (fun H7 locs7 h7 ho7 hz7 hF => ?_)
        have hm := hm.kept (ho7 _ (by omega))
        have hno := hno.kept (ho7 _ (by omega))
        have htr := htr.kept (ho7 _ (by omega))
        have hdi := hdi.kept (ho7 _ (by omega))
        have hke := hke.kept (ho7 _ (by omega))
        have hik := hik.kept (ho7 _ (by omega))
        have hap := hap.kept (ho7 _ (by omega))
        have htx := h7
        refine r_aload_n C rfl (lv_at hl 0 rfl) dX4_append_49 ?_
        refine r_dup C rfl dX4_append_50 ?_
        refine r_get C (ci := 4) (v := .int (iI ((up M 0 0) 1))) rfl uin4 hm.o 2 (by decide) q_787 rfl rfl dX4_append_51 ?_
        have er8 : (up M 0 0) 1 = M 1 := (by rw [up_n _ _ (by omega)])
        rw [er8]
        refine r_iconst C dX4_append_54 ?_
        refine r_iadd C dX4_append_55 ?_
        refine r_put C (ci := 4) rfl uin4 tyX4_ok nmX4 hm.o hF (is_mdp (by omega)) 2 (by decide) q_787 rfl rfl rfl rfl (by show 2 < 13; decide) dX4_append_56 (fun H9 locs9 h9 ho9 hz9 hF => ?_)
        have htx := htx.kept (ho9 _ (by omega))
        have hno := hno.kept (ho9 _ (by omega))
        have htr := htr.kept (ho9 _ (by omega))
        have hdi := hdi.kept (ho9 _ (by omega))
        have hke := hke.kept (ho9 _ (by omega))
        have hik := hik.kept (ho9 _ (by omega))
        have hap := hap.kept (ho9 _ (by omega))
        have hm : mdAt g mb (up (up M 0 0) 1 ((M 1) + 1)) H9 := hm.put1 h9 ho9
        refine r_aload_n C rfl (lv_at hl 0 rfl) dX4_append_59 ?_
        refine r_get C (ci := 4) (v := .int (iI ((up (up M 0 0) 1 ((M 1) + 1)) 1))) rfl uin4 hm.o 2 (by decide) q_787 rfl rfl dX4_append_60 ?_
        have er10 : (up (up M 0 0) 1 ((M 1) + 1)) 1 = (M 1) + 1 := (by rw [up_s])
        rw [er10]
        have hK : (if ¬ (0 ≤ x ∧ x ≤ 255) then 1 else if sz = 120 then 2 else 0) = 0 := (by (repeat' split) <;> omega)
        have hK0 : (if ¬ (0 ≤ x ∧ x ≤ 255) then 1 else if sz = 120 then 2 else 0) = 0 := (by omega)
        exact r_iretH C rfl rfl (congrArg iI (by rw [if_pos hK0] <;> (omega))) hF (by exact ⟨fun _ => ⟨up (up M 0 0) 1 ((M 1) + 1), TRI, AP, (by repeat first | exact hMb | exact rg_up hMb (by decide) | refine rg_up ?_ (by omega) | refine rg_setL ?_ (by omega)), (by rw [up_n _ _ (by omega), up_s] <;> omega), (by rw [up_s] <;> omega), (by rw [up_n _ _ (by omega), up_n _ _ (by omega)] <;> omega), hm, htx, hno, htr, hdi, hke, hik, hap⟩, fun h => absurd hK0 h⟩) dX4_append_63
      · exact absurd c5 (by decide)
    · refine r_iconst C dX4_append_26 ?_
      refine r_goto (tgt := 31) C (by decide) dX4_append_27 ?_
      refine r_vHi (rest := []) C (k_X4_refused l g mb M 2 (by decide)) s_RX4_109 hm hF (fun q h => (is_mdp (by have h : q = _ := h; omega))) (recv C (ci := 4) rfl hm.o) hl.1 rfl ⟨by decide, by decide⟩ rfl (Nat.le_of_ble_eq_true rfl) ⟨Nat.le_refl 0, Nat.le_refl 0⟩ dX4_append_31 (fun H11 locs11 h11 ho11 hz11 hF => ?_)
      have htx := htx.kept (ho11 _ (fun h => (by have h : _ = _ := h; omega)))
      have hno := hno.kept (ho11 _ (fun h => (by have h : _ = _ := h; omega)))
      have htr := htr.kept (ho11 _ (fun h => (by have h : _ = _ := h; omega)))
      have hdi := hdi.kept (ho11 _ (fun h => (by have h : _ = _ := h; omega)))
      have hke := hke.kept (ho11 _ (fun h => (by have h : _ = _ := h; omega)))
      have hik := hik.kept (ho11 _ (fun h => (by have h : _ = _ := h; omega)))
      have hap := hap.kept (ho11 _ (fun h => (by have h : _ = _ := h; omega)))
      have hm := h11
      refine r_ifP_eq (tgt := 39) C (by decide) dX4_append_34 (fun c12 => ?_) (fun c12 => ?_)
      · exact absurd c12 (by decide)
      · refine r_iconst C dX4_append_37 ?_
        have hK : (if ¬ (0 ≤ x ∧ x ≤ 255) then 1 else if sz = 120 then 2 else 0) = 2 := (by (repeat' split) <;> omega)
        exact r_iretH C rfl rfl (congrArg iI (by rw [if_neg (by omega)])) hF (by exact ⟨fun h => absurd h (by omega), fun _ => ⟨up M 0 2, TRI, AP, (by repeat first | exact hMb | exact rg_up hMb (by decide) | refine rg_up ?_ (by omega) | refine rg_setL ?_ (by omega)), (by rw [up_s] <;> omega), (by rw [up_n _ _ (by omega)] <;> omega), (by rw [up_n _ _ (by omega)] <;> omega), hm, htx, hno, htr, hdi, hke, hik, hap⟩⟩) dX4_append_38
  · refine r_iconst C dX4_append_13 ?_
    refine r_goto (tgt := 31) C (by decide) dX4_append_14 ?_
    refine r_vHi (rest := []) C (k_X4_refused l g mb M 1 (by decide)) s_RX4_109 hm hF (fun q h => (is_mdp (by have h : q = _ := h; omega))) (recv C (ci := 4) rfl hm.o) hl.1 rfl ⟨by decide, by decide⟩ rfl (Nat.le_of_ble_eq_true rfl) ⟨Nat.le_refl 0, Nat.le_refl 0⟩ dX4_append_31 (fun H13 locs13 h13 ho13 hz13 hF => ?_)
    have htx := htx.kept (ho13 _ (fun h => (by have h : _ = _ := h; omega)))
    have hno := hno.kept (ho13 _ (fun h => (by have h : _ = _ := h; omega)))
    have htr := htr.kept (ho13 _ (fun h => (by have h : _ = _ := h; omega)))
    have hdi := hdi.kept (ho13 _ (fun h => (by have h : _ = _ := h; omega)))
    have hke := hke.kept (ho13 _ (fun h => (by have h : _ = _ := h; omega)))
    have hik := hik.kept (ho13 _ (fun h => (by have h : _ = _ := h; omega)))
    have hap := hap.kept (ho13 _ (fun h => (by have h : _ = _ := h; omega)))
    have hm := h13
    refine r_ifP_eq (tgt := 39) C (by decide) dX4_append_34 (fun c14 => ?_) (fun c14 => ?_)
    · exact absurd c14 (by decide)
    · refine r_iconst C dX4_append_37 ?_
      have hK : (if ¬ (0 ≤ x ∧ x ≤ 255) then 1 else if sz = 120 then 2 else 0) = 1 := (by (repeat' split) <;> omega)
      exact r_iretH C rfl rfl (congrArg iI (by rw [if_neg (by omega)])) hF (by exact ⟨fun h => absurd h (by omega), fun _ => ⟨up M 0 1, TRI, AP, (by repeat first | exact hMb | exact rg_up hMb (by decide) | refine rg_up ?_ (by omega) | refine rg_setL ?_ (by omega)), (by rw [up_s] <;> omega), (by rw [up_n _ _ (by omega)] <;> omega), (by rw [up_n _ _ (by omega)] <;> omega), hm, htx, hno, htr, hdi, hke, hik, hap⟩⟩) dX4_append_38
set_option maxHeartbeats 4000000 in
theorem k_X4_clearText (l : Launch) (g : Gt) (mb : Nat) (rf sz ac : Int) (TX F DIA KEP ISK : Nat → Int) (T : Int) (hJ : J F z0 T) (hT : T ≤ 900000) (hsz : 0 ≤ sz ∧ sz ≤ 120) : CH l yX4_clearText cX4_clearText 2 (some .int) 0 0 g [.ref mb] (MW g mb rf sz ac TX F DIA KEP ISK) (some (.int (iI sz))) (Mdp mb) (MW g mb 0 0 ac TX F DIA KEP ISK) := by
  refine ch_of "LentRoomModel" (by decide) rfl (Nat.le_of_ble_eq_true rfl) ?_
  intro zp ze zs zm za zb zt zc ls C hP hF hl
  obtain ⟨M, TRI, AP, hMb, hM0, hM1, hM2, hm, htx, hno, htr, hdi, hke, hik, hap⟩ := hP
  have hl : lv_has ls 2 [(0, .ref mb)] := hl
  have hS := hJ.S
  have hSm : Sm F := hS.m (by omega)
  have hZ := hJ.Z
  have hn5 := hJ.n
  refine r_aload_n C rfl (lv_at hl 0 rfl) dX4_clearText_0 ?_
  refine r_iconst C dX4_clearText_1 ?_
  refine r_put C (ci := 4) rfl uin4 tyX4_ok nmX4 hm.o hF (is_mdp (by omega)) 0 (by decide) q_785 rfl rfl rfl rfl (by show 0 < 13; decide) dX4_clearText_2 (fun H1 locs1 h1 ho1 hz1 hF => ?_)
  have htx := htx.kept (ho1 _ (by omega))
  have hno := hno.kept (ho1 _ (by omega))
  have htr := htr.kept (ho1 _ (by omega))
  have hdi := hdi.kept (ho1 _ (by omega))
  have hke := hke.kept (ho1 _ (by omega))
  have hik := hik.kept (ho1 _ (by omega))
  have hap := hap.kept (ho1 _ (by omega))
  have hm : mdAt g mb (up M 0 0) H1 := hm.put0 h1 ho1
  refine r_aload_n C rfl (lv_at hl 0 rfl) dX4_clearText_5 ?_
  refine r_get C (ci := 4) (v := .int (iI ((up M 0 0) 1))) rfl uin4 hm.o 2 (by decide) q_787 rfl rfl dX4_clearText_6 ?_
  have er2 : (up M 0 0) 1 = M 1 := (by rw [up_n _ _ (by omega)])
  rw [er2]
  have b3 := hMb 1
  refine r_istore_n (lv' := [(1, .int (iI (M 1))), (0, .ref mb)]) C rfl hl (by decide) rfl dX4_clearText_9 (fun ls hl => ?_)
  refine r_aload_n C rfl (lv_at hl 1 rfl) dX4_clearText_10 ?_
  refine r_iconst C dX4_clearText_11 ?_
  refine r_put C (ci := 4) rfl uin4 tyX4_ok nmX4 hm.o hF (is_mdp (by omega)) 2 (by decide) q_787 rfl rfl rfl rfl (by show 2 < 13; decide) dX4_clearText_12 (fun H4 locs4 h4 ho4 hz4 hF => ?_)
  have htx := htx.kept (ho4 _ (by omega))
  have hno := hno.kept (ho4 _ (by omega))
  have htr := htr.kept (ho4 _ (by omega))
  have hdi := hdi.kept (ho4 _ (by omega))
  have hke := hke.kept (ho4 _ (by omega))
  have hik := hik.kept (ho4 _ (by omega))
  have hap := hap.kept (ho4 _ (by omega))
  have hm : mdAt g mb (up (up M 0 0) 1 0) H4 := hm.put1 h4 ho4
  refine r_iload_n C rfl (lv_at hl 0 rfl) dX4_clearText_15 ?_
  exact r_iretH C rfl rfl (congrArg iI (by omega)) hF (by exact ⟨up (up M 0 0) 1 0, TRI, AP, (by repeat first | exact hMb | exact rg_up hMb (by decide) | refine rg_up ?_ (by omega) | refine rg_setL ?_ (by omega)), (by rw [up_n _ _ (by omega), up_s] <;> omega), (by rw [up_s] <;> omega), (by rw [up_n _ _ (by omega), up_n _ _ (by omega)] <;> omega), hm, htx, hno, htr, hdi, hke, hik, hap⟩) dX4_clearText_16

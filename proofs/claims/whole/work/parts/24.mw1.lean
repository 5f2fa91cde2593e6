theorem s_RX4_166 : SiteS "LentRoomModel" 166 yX4_copyState cX4_copyState 5 none 4 := ⟨⟨q_954, q_955, q_34, q_956⟩, by decide, by decide, by decide +kernel⟩
theorem s_RX4_109 : SiteV "LentRoomModel" 109 "LentRoomModel" yX4_refused cX4_refused 2 (some .boolean) 1 := ⟨⟨q_837, q_839, q_15, q_34, q_840⟩, rfl, by decide, by decide, by decide +kernel⟩
theorem s_RX4_180 : SiteS "LentRoomModel" 180 yX4_isPage cX4_isPage 1 (some .boolean) 1 := ⟨⟨q_978, q_979, q_34, q_980⟩, by decide, by decide, by decide +kernel⟩
set_option maxHeartbeats 4000000 in
theorem k_X4_refused (l : Launch) (g : Gt) (mb : Nat) (M : Nat → Int) (k : Int) (hk : Rg k) : CH l yX4_refused cX4_refused 2 (some .boolean) 0 0 g [.ref mb, .int (iI k)] (mdAt g mb M) (some (.int (iI (pI (0 < k))))) (fun q => q = mb) (mdAt g mb (up M 0 k)) := by
  refine ch_of "LentRoomModel" (by decide) rfl (Nat.le_of_ble_eq_true rfl) ?_
  intro zp ze zs zm za zb zt zc ls C hP hF hl
  have hm := hP
  have hl : lv_has ls 2 [(0, .ref mb), (1, .int (iI k))] := hl
  refine r_aload_n C rfl (lv_at hl 0 rfl) dX4_refused_0 ?_
  refine r_iload_n C rfl (lv_at hl 1 rfl) dX4_refused_1 ?_
  refine r_put C (ci := 4) rfl uin4 tyX4_ok nmX4 hm.o hF rfl 0 (by decide) q_785 rfl rfl rfl rfl (by show 0 < 13; decide) dX4_refused_2 (fun H1 locs1 h1 ho1 hz1 hF => ?_)
  have hm : mdAt g mb (up M 0 k) H1 := hm.put0 h1 ho1
  refine r_iload_n C rfl (lv_at hl 1 rfl) dX4_refused_5 ?_
  refine r_if_le (tgt := 13) C (by decide) (by omega) dX4_refused_6 (fun c2 => ?_) (fun c2 => ?_)
  · refine r_iconst C dX4_refused_13 ?_
    exact r_iretH C rfl rfl (congrArg iI (pI_f (by omega)).symm) hF (by exact hm) dX4_refused_14
  · refine r_iconst C dX4_refused_9 ?_
    refine r_goto (tgt := 14) C (by decide) dX4_refused_10 ?_
    exact r_iretH C rfl rfl (congrArg iI (pI_t (by omega)).symm) hF (by exact hm) dX4_refused_14
set_option maxHeartbeats 4000000 in
theorem k_X4_thrown (l : Launch) (g : Gt) (mb : Nat) (rf sz ac : Int) (TX F DIA KEP ISK : Nat → Int) (T : Int) (hJ : J F z0 T) (hT : T ≤ 900000)  : CH l yX4_thrown cX4_thrown 1 (some .int) 0 0 g [.ref mb] (MW g mb rf sz ac TX F DIA KEP ISK) (some (.int (iI rf))) (Mdp mb) (MW g mb rf sz ac TX F DIA KEP ISK) := by
  refine ch_of "LentRoomModel" (by decide) rfl (Nat.le_of_ble_eq_true rfl) ?_
  intro zp ze zs zm za zb zt zc ls C hP hF hl
  obtain ⟨M, TRI, AP, hMb, hM0, hM1, hM2, hm, htx, hno, htr, hdi, hke, hik, hap⟩ := hP
  have hl : lv_has ls 1 [(0, .ref mb)] := hl
  refine r_aload_n C rfl (lv_at hl 0 rfl) dX4_thrown_0 ?_
  refine r_get C (ci := 4) (v := .int (iI (M 0))) rfl uin4 hm.o 0 (by decide) q_785 rfl rfl dX4_thrown_1 ?_
  have b1 := hMb 0
  exact r_iretH C rfl rfl (congrArg iI (by exact hM0)) hF (by exact ⟨M, TRI, AP, (by repeat first | exact hMb | exact rg_up hMb (by decide) | refine rg_up ?_ (by omega) | refine rg_setL ?_ (by omega)), (by first | exact hM0 | omega), (by first | exact hM1 | omega), (by first | exact hM2 | omega), hm, htx, hno, htr, hdi, hke, hik, hap⟩) dX4_thrown_4
set_option maxHeartbeats 4000000 in
theorem k_X4_leftOut (l : Launch) (g : Gt) (mb : Nat) (M : Nat → Int) (x : Int) (P : Prop) [Decidable P] (hx : x = pI P) : CH l yX4_leftOut cX4_leftOut 2 none 0 0 g [.ref mb, .int (iI x)] (mdAt g mb M) (none) (fun q => q = mb) (mdAt g mb (up M 5 (M 5 + (if P then 0 else 1)))) := by
  refine ch_of "LentRoomModel" (by decide) rfl (Nat.le_of_ble_eq_true rfl) ?_
  intro zp ze zs zm za zb zt zc ls C hP hF hl
  have hm := hP
  have hl : lv_has ls 2 [(0, .ref mb), (1, .int (iI x))] := hl
  have hpr := pI_rg P
  refine r_aload_n C rfl (lv_at hl 0 rfl) dX4_leftOut_0 ?_
  refine r_dup C rfl dX4_leftOut_1 ?_
  refine r_get C (ci := 4) (v := .int (iI (M 5))) rfl uin4 hm.o 11 (by decide) q_796 rfl rfl dX4_leftOut_2 ?_
  refine r_iload_n C rfl (lv_at hl 1 rfl) dX4_leftOut_5 ?_
  refine r_if_eq (tgt := 13) C (by decide) (by omega) dX4_leftOut_6 (fun c1 => ?_) (fun c1 => ?_)
  · refine r_iconst C dX4_leftOut_13 ?_
    refine r_iadd C dX4_leftOut_14 ?_
    refine r_put C (ci := 4) rfl uin4 tyX4_ok nmX4 hm.o hF rfl 11 (by decide) q_796 rfl rfl rfl rfl (by show 11 < 13; decide) dX4_leftOut_15 (fun H2 locs2 h2 ho2 hz2 hF => ?_)
    have hm : mdAt g mb (up M 5 ((M 5) + 1)) H2 := hm.put5 h2 ho2
    exact r_vretH C rfl hF (by rw [if_neg (by exact (fun h => by rw [pI_t h] at hx; omega))] ; exact hm) dX4_leftOut_18
  · refine r_iconst C dX4_leftOut_9 ?_
    refine r_goto (tgt := 14) C (by decide) dX4_leftOut_10 ?_
    refine r_iadd C dX4_leftOut_14 ?_
    refine r_put C (ci := 4) rfl uin4 tyX4_ok nmX4 hm.o hF rfl 11 (by decide) q_796 rfl rfl rfl rfl (by show 11 < 13; decide) dX4_leftOut_15 (fun H3 locs3 h3 ho3 hz3 hF => ?_)
    have hm : mdAt g mb (up M 5 ((M 5) + 0)) H3 := hm.put5 h3 ho3
    exact r_vretH C rfl hF (by rw [if_pos (by exact Decidable.not_not.mp (fun h => by rw [pI_f h] at hx; omega))] ; exact hm) dX4_leftOut_18
set_option maxHeartbeats 4000000 in
theorem k_X4_copyState (l : Launch) (g : Gt) (a n : Nat) (f : Nat → Int) (b n2 : Nat) (h : Nat → Int) (x y : Int) (fa ta : Nat) (hx : x = (fa : Int)) (hy : y = (ta : Int)) (hab : a ≠ b) (hfa : fa + 262 ≤ n ∧ n ≤ 4000) (hta : ta + 262 ≤ n2 ∧ n2 ≤ 4000) : CH l yX4_copyState cX4_copyState 5 none 0 0 g [.ref a, .int (iI x), .ref b, .int (iI y)] (fun H => aAt g a n f H ∧ aAt g b n2 h H) (none) (fun q => q = b) (fun H => aAt g a n f H ∧ aAt g b n2 (cpy h f ta fa 262) H) := by
  refine ch_of "LentRoomModel" (by decide) rfl (Nat.le_of_ble_eq_true rfl) ?_
  intro zp ze zs zm za zb zt zc ls C hP hF hl
  obtain ⟨ha, hb⟩ := hP
  have hl : lv_has ls 5 [(0, .ref a), (1, .int (iI x)), (2, .ref b), (3, .int (iI y))] := hl
  have cut3 : ∀ (N : Nat) (i : Nat) (v4 : Int), 262 - i < N → (i ≤ 262) → (v4 = (i : Int)) → ∀ (H : Heap) (locs : List Loc), aAt g a n f H → aAt g b n2 (cpy h f ta fa i) H → Fr (fun q => q = b) zs.heap H locs → ∀ ls : Array Slot, lv_has ls 5 [(0, .ref a), (1, .int (iI x)), (2, .ref b), (3, .int (iI y)), (4, .int (iI v4))] → W zp l ze (rmc 0 0) zs zm za zb zt zc H locs 0 0 (MQ zb (HQ none (fun q => q = b) (fun H => aAt g a n f H ∧ aAt g b n2 (cpy h f ta fa 262) H)) za zs 0 0 (fun q => q = b)) (F0 zm 3 ls []) := by
    intro N
    induction N with
    | zero => intro i v4; exact fun hms => absurd hms (Nat.not_lt_zero _)
    | succ N ih =>
      intro i v4 hms hi hv4 H locs ha hb hF ls hl
      refine r_iload C (lv_at hl 4 rfl) dX4_copyState_3 ?_
      refine r_sipush C (by decide) dX4_copyState_5 ?_
      refine r_icmp_ge (tgt := 29) C (by decide) (by omega) (by decide) dX4_copyState_8 (fun c1 => ?_) (fun c1 => ?_)
      · exact r_vretH C rfl hF (by rw [show i = 262 by omega] at hb; exact ⟨ha, hb⟩) dX4_copyState_29
      · refine r_aload_n C rfl (lv_at hl 2 rfl) dX4_copyState_11 ?_
        refine r_iload_n C rfl (lv_at hl 3 rfl) dX4_copyState_12 ?_
        refine r_iload C (lv_at hl 4 rfl) dX4_copyState_13 ?_
        refine r_iadd C dX4_copyState_15 ?_
        refine r_aload_n C rfl (lv_at hl 0 rfl) dX4_copyState_16 ?_
        refine r_iload_n C rfl (lv_at hl 1 rfl) dX4_copyState_17 ?_
        refine r_iload C (lv_at hl 4 rfl) dX4_copyState_18 ?_
        refine r_iadd C dX4_copyState_20 ?_
        refine r_iald (v := f (fa + i)) C ha (fa + i) (by omega) (by omega) (by omega) rfl dX4_copyState_21 ?_
        refine r_iast C hb hF rfl (ta + i) (by omega) (by omega) (by omega) dX4_copyState_22 (fun H2 locs2 h2 ho2 hz2 hF => ?_)
        have ha := ha.kept (ho2 _ (by omega))
        have hb := h2
        have hb : aAt g b n2 (cpy h f ta fa (i + 1)) H2 := (by rw [← cpy_s]; exact hb)
        refine r_iinc (lv' := [(4, .int (iI (v4 + 1))), (0, .ref a), (1, .int (iI x)), (2, .ref b), (3, .int (iI y))]) C hl (q := 4) rfl (by decide) rfl dX4_copyState_23 (fun ls hl => ?_)
        refine r_goto (tgt := 3) C (by decide) dX4_copyState_26 ?_
        exact ih (i + 1) (v4 + 1) (by omega) (by omega) (by omega) _ _ ha hb hF _ (lv_sub hl [1, 2, 3, 4, 0] rfl)
  refine r_iconst C dX4_copyState_0 ?_
  refine r_istore (lv' := [(4, .int (iI 0)), (0, .ref a), (1, .int (iI x)), (2, .ref b), (3, .int (iI y))]) C hl (by decide) rfl dX4_copyState_1 (fun ls hl => ?_)
  have hb : aAt g b n2 (cpy h f ta fa 0) zs.heap := (by rw [cpy_0]; exact hb)
  exact cut3 _ 0 0 (Nat.lt_succ_self _) (by omega) (by omega) _ _ ha hb hF _ (lv_sub hl [1, 2, 3, 4, 0] rfl)
set_option maxHeartbeats 4000000 in
theorem k_X4_remember (l : Launch) (g : Gt) (mb : Nat) (rf sz ac : Int) (TX F DIA KEP ISK : Nat → Int) (T : Int) (hJ : J F z0 T) (hT : T ≤ 900000) (hac : 0 ≤ ac ∧ ac ≤ 14) : CH l yX4_remember cX4_remember 2 none 1 24 g [.ref mb] (MW g mb rf sz ac TX F DIA KEP ISK) (none) (Mdp mb) (MW g mb rf sz (remA ac) TX F (rem DIA F ac) KEP ISK) := by
  refine ch_of "LentRoomModel" (by decide) rfl (Nat.le_of_ble_eq_true rfl) ?_
  intro zp ze zs zm za zb zt zc ls C hP hF hl
  obtain ⟨M, TRI, AP, hMb, hM0, hM1, hM2, hm, htx, hno, htr, hdi, hke, hik, hap⟩ := hP
  have hac2 : 0 ≤ M 2 ∧ M 2 ≤ 14 := (by omega)
  have hl : lv_has ls 2 [(0, .ref mb)] := hl
  have hS := hJ.S
  have hSm : Sm F := hS.m (by omega)
  have hZ := hJ.Z
  have hn5 := hJ.n
  have cut11 : ∀ (N : Nat) (i : Nat) (v1 : Int), 3406 - i < N → (i ≤ 3406) → (M 2 = 14) → (v1 = (i : Int)) → ∀ (H : Heap) (locs : List Loc), mdAt g mb M H → aAt g (mb + 1) 120 TX H → aAt g (mb + 2) 262 F H → aAt g (mb + 3) 262 TRI H → aAt g (mb + 4) 3668 (cpy DIA DIA 0 262 i) H → aAt g (mb + 5) 524 KEP H → zAt g (mb + 6) 2 ISK H → aAt g (mb + 7) 262 AP H → Fr (Mdp mb) zs.heap H locs → ∀ ls : Array Slot, lv_has ls 2 [(0, .ref mb), (1, .int (iI v1))] → W zp l ze (rmc 1 24) zs zm za zb zt zc H locs 0 0 (MQ zb (HQ none (Mdp mb) (MW g mb rf sz (remA ac) TX F (rem DIA F ac) KEP ISK)) za zs 0 0 (Mdp mb)) (F0 zm 11 ls []) := by
    intro N
    induction N with
    | zero => intro i v1; exact fun hms => absurd hms (Nat.not_lt_zero _)
    | succ N ih =>
      intro i v1 hms hi h14 hv1 H locs hm htx hno htr hdi hke hik hap hF ls hl
      refine r_iload_n C rfl (lv_at hl 1 rfl) dX4_remember_11 ?_
      refine r_sipush C (by decide) dX4_remember_12 ?_
      refine r_icmp_ge (tgt := 40) C (by decide) (by omega) (by decide) dX4_remember_15 (fun c1 => ?_) (fun c1 => ?_)
      · have hdi : aAt g (mb + 4) 3668 (cpy DIA DIA 0 262 3406) H := (by rw [show 3406 = i by omega]; exact hdi)
        refine r_aload_n C rfl (lv_at hl 0 rfl) dX4_remember_40 ?_
        refine r_dup C rfl dX4_remember_41 ?_
        refine r_get C (ci := 4) (v := .int (iI (M 2))) rfl uin4 hm.o 6 (by decide) q_791 rfl rfl dX4_remember_42 ?_
        have b2 := hMb 2
        refine r_iconst C dX4_remember_45 ?_
        refine r_isub C dX4_remember_46 ?_
        refine r_put C (ci := 4) rfl uin4 tyX4_ok nmX4 hm.o hF (is_mdp (by omega)) 6 (by decide) q_791 rfl rfl rfl rfl (by show 6 < 13; decide) dX4_remember_47 (fun H3 locs3 h3 ho3 hz3 hF => ?_)
        have htx := htx.kept (ho3 _ (by omega))
        have hno := hno.kept (ho3 _ (by omega))
        have htr := htr.kept (ho3 _ (by omega))
        have hdi := hdi.kept (ho3 _ (by omega))
        have hke := hke.kept (ho3 _ (by omega))
        have hik := hik.kept (ho3 _ (by omega))
        have hap := hap.kept (ho3 _ (by omega))
        have hm : mdAt g mb (up M 2 ((M 2) - 1)) H3 := hm.put2 h3 ho3
        refine r_aload_n C rfl (lv_at hl 0 rfl) dX4_remember_50 ?_
        refine r_get C (ci := 4) (v := .ref (mb + 2)) rfl uin4 hm.o 3 (by decide) q_788 rfl rfl dX4_remember_51 ?_
        refine r_iconst C dX4_remember_54 ?_
        refine r_aload_n C rfl (lv_at hl 0 rfl) dX4_remember_55 ?_
        refine r_get C (ci := 4) (v := .ref (mb + 4)) rfl uin4 hm.o 5 (by decide) q_790 rfl rfl dX4_remember_56 ?_
        refine r_sipush C (by decide) dX4_remember_59 ?_
        refine r_aload_n C rfl (lv_at hl 0 rfl) dX4_remember_62 ?_
        refine r_get C (ci := 4) (v := .int (iI ((up M 2 ((M 2) - 1)) 2))) rfl uin4 hm.o 6 (by decide) q_791 rfl rfl dX4_remember_63 ?_
        have er4 : (up M 2 ((M 2) - 1)) 2 = (M 2) - 1 := (by rw [up_s])
        rw [er4]
        have b5 := hMb 2
        refine r_imul C dX4_remember_66 ?_
        rw [show (262 : Int) * ((M 2) - 1) = 3406 by omega]
        refine r_sHn (rest := []) C (k_X4_copyState l g (mb + 2) 262 F (mb + 4) 3668 (cpy DIA DIA 0 262 3406) 0 3406 0 3406 (by omega) (by omega) (by omega) (by omega) (by omega)) s_RX4_166 ⟨hno, hdi⟩ hF (fun q h => (is_mdp (by have h : q = _ := h; omega))) hl.1 rfl ⟨by decide, by decide⟩ rfl (Nat.le_of_ble_eq_true rfl) ⟨Nat.le_refl 0, Nat.le_refl 0⟩ dX4_remember_67 (fun H6 locs6 h6 ho6 hz6 hF => ?_)
        have hm := hm.kept (ho6 _ (fun h => (by have h : _ = _ := h; omega)))
        have htx := htx.kept (ho6 _ (fun h => (by have h : _ = _ := h; omega)))
        have htr := htr.kept (ho6 _ (fun h => (by have h : _ = _ := h; omega)))
        have hke := hke.kept (ho6 _ (fun h => (by have h : _ = _ := h; omega)))
        have hik := hik.kept (ho6 _ (fun h => (by have h : _ = _ := h; omega)))
        have hap := hap.kept (ho6 _ (fun h => (by have h : _ = _ := h; omega)))
        obtain ⟨hno, hdi⟩ := h6
        refine r_aload_n C rfl (lv_at hl 0 rfl) dX4_remember_70 ?_
        refine r_dup C rfl dX4_remember_71 ?_
        refine r_get C (ci := 4) (v := .int (iI ((up M 2 ((M 2) - 1)) 2))) rfl uin4 hm.o 6 (by decide) q_791 rfl rfl dX4_remember_72 ?_
        have er7 : (up M 2 ((M 2) - 1)) 2 = (M 2) - 1 := (by rw [up_s])
        rw [er7]
        have b8 := hMb 2
        refine r_iconst C dX4_remember_75 ?_
        refine r_iadd C dX4_remember_76 ?_
        refine r_put C (ci := 4) rfl uin4 tyX4_ok nmX4 hm.o hF (is_mdp (by omega)) 6 (by decide) q_791 rfl rfl rfl rfl (by show 6 < 13; decide) dX4_remember_77 (fun H9 locs9 h9 ho9 hz9 hF => ?_)
        have htx := htx.kept (ho9 _ (by omega))
        have hno := hno.kept (ho9 _ (by omega))
        have htr := htr.kept (ho9 _ (by omega))
        have hdi := hdi.kept (ho9 _ (by omega))
        have hke := hke.kept (ho9 _ (by omega))
        have hik := hik.kept (ho9 _ (by omega))
        have hap := hap.kept (ho9 _ (by omega))
        have hm : mdAt g mb (up (up M 2 ((M 2) - 1)) 2 (((M 2) - 1) + 1)) H9 := hm.put2 h9 ho9
        have e1 : remA ac = 14 := if_pos (by omega)
        have e2 : rem DIA F ac = cpy (cpy DIA DIA 0 262 3406) F 3406 0 262 := if_pos (by omega)
        exact r_vretH C rfl hF (by rw [e1, e2]; exact ⟨up (up M 2 ((M 2) - 1)) 2 (((M 2) - 1) + 1), TRI, AP, (by repeat first | exact hMb | exact rg_up hMb (by decide) | refine rg_up ?_ (by omega) | refine rg_setL ?_ (by omega)), (by rw [up_n _ _ (by omega), up_n _ _ (by omega)] <;> omega), (by rw [up_n _ _ (by omega), up_n _ _ (by omega)] <;> omega), (by rw [up_s] <;> omega), hm, htx, hno, htr, hdi, hke, hik, hap⟩) dX4_remember_80
      · refine r_aload_n C rfl (lv_at hl 0 rfl) dX4_remember_18 ?_
        refine r_get C (ci := 4) (v := .ref (mb + 4)) rfl uin4 hm.o 5 (by decide) q_790 rfl rfl dX4_remember_19 ?_
        refine r_iload_n C rfl (lv_at hl 1 rfl) dX4_remember_22 ?_
        refine r_aload_n C rfl (lv_at hl 0 rfl) dX4_remember_23 ?_
        refine r_get C (ci := 4) (v := .ref (mb + 4)) rfl uin4 hm.o 5 (by decide) q_790 rfl rfl dX4_remember_24 ?_
        refine r_iload_n C rfl (lv_at hl 1 rfl) dX4_remember_27 ?_
        refine r_sipush C (by decide) dX4_remember_28 ?_
        refine r_iadd C dX4_remember_31 ?_
        refine r_iald (v := (cpy DIA DIA 0 262 i) (i + 262)) C hdi (i + 262) (by omega) (by omega) (by omega) rfl dX4_remember_32 ?_
        refine r_iast C hdi hF (is_mdp (by omega)) i (by omega) (by omega) (by omega) dX4_remember_33 (fun H10 locs10 h10 ho10 hz10 hF => ?_)
        have hm := hm.kept (ho10 _ (by omega))
        have htx := htx.kept (ho10 _ (by omega))
        have hno := hno.kept (ho10 _ (by omega))
        have htr := htr.kept (ho10 _ (by omega))
        have hke := hke.kept (ho10 _ (by omega))
        have hik := hik.kept (ho10 _ (by omega))
        have hap := hap.kept (ho10 _ (by omega))
        have hdi := h10
        have hdi : aAt g (mb + 4) 3668 (cpy DIA DIA 0 262 (i + 1)) H10 := hdi.cg (fun k hk => cpy_step DIA i k)
        refine r_iinc (lv' := [(1, .int (iI (v1 + 1))), (0, .ref mb)]) C hl (q := 1) rfl (by decide) rfl dX4_remember_34 (fun ls hl => ?_)
        refine r_goto (tgt := 11) C (by decide) dX4_remember_37 ?_
        exact ih (i + 1) (v1 + 1) (by omega) (by omega) (by omega) (by omega) _ _ hm htx hno htr hdi hke hik hap hF _ (lv_sub hl [1, 0] rfl)
  refine r_aload_n C rfl (lv_at hl 0 rfl) dX4_remember_0 ?_
  refine r_get C (ci := 4) (v := .int (iI (M 2))) rfl uin4 hm.o 6 (by decide) q_791 rfl rfl dX4_remember_1 ?_
  have b11 := hMb 2
  refine r_bipush C (by decide) dX4_remember_4 ?_
  refine r_icmp_ne (tgt := 50) C (by decide) (by omega) (by decide) dX4_remember_6 (fun c12 => ?_) (fun c12 => ?_)
  · refine r_aload_n C rfl (lv_at hl 0 rfl) dX4_remember_50 ?_
    refine r_get C (ci := 4) (v := .ref (mb + 2)) rfl uin4 hm.o 3 (by decide) q_788 rfl rfl dX4_remember_51 ?_
    refine r_iconst C dX4_remember_54 ?_
    refine r_aload_n C rfl (lv_at hl 0 rfl) dX4_remember_55 ?_
    refine r_get C (ci := 4) (v := .ref (mb + 4)) rfl uin4 hm.o 5 (by decide) q_790 rfl rfl dX4_remember_56 ?_
    refine r_sipush C (by decide) dX4_remember_59 ?_
    refine r_aload_n C rfl (lv_at hl 0 rfl) dX4_remember_62 ?_
    refine r_get C (ci := 4) (v := .int (iI (M 2))) rfl uin4 hm.o 6 (by decide) q_791 rfl rfl dX4_remember_63 ?_
    have b13 := hMb 2
    refine r_imul C dX4_remember_66 ?_
    refine r_sHn (rest := []) C (k_X4_copyState l g (mb + 2) 262 F (mb + 4) 3668 DIA 0 (262 * (M 2)) 0 (262 * ac.toNat) (by omega) (by omega) (by omega) (by omega) (by omega)) s_RX4_166 ⟨hno, hdi⟩ hF (fun q h => (is_mdp (by have h : q = _ := h; omega))) hl.1 rfl ⟨by decide, by decide⟩ rfl (Nat.le_of_ble_eq_true rfl) ⟨Nat.le_refl 0, Nat.le_refl 0⟩ dX4_remember_67 (fun H14 locs14 h14 ho14 hz14 hF => ?_)
    have hm := hm.kept (ho14 _ (fun h => (by have h : _ = _ := h; omega)))
    have htx := htx.kept (ho14 _ (fun h => (by have h : _ = _ := h; omega)))
    have htr := htr.kept (ho14 _ (fun h => (by have h : _ = _ := h; omega)))
    have hke := hke.kept (ho14 _ (fun h => (by have h : _ = _ := h; omega)))
    have hik := hik.kept (ho14 _ (fun h => (by have h : _ = _ := h; omega)))
    have hap := hap.kept (ho14 _ (fun h => (by have h : _ = _ := h; omega)))
    obtain ⟨hno, hdi⟩ := h14
    refine r_aload_n C rfl (lv_at hl 0 rfl) dX4_remember_70 ?_
    refine r_dup C rfl dX4_remember_71 ?_
    refine r_get C (ci := 4) (v := .int (iI (M 2))) rfl uin4 hm.o 6 (by decide) q_791 rfl rfl dX4_remember_72 ?_
    have b15 := hMb 2
    refine r_iconst C dX4_remember_75 ?_
    refine r_iadd C dX4_remember_76 ?_
    refine r_put C (ci := 4) rfl uin4 tyX4_ok nmX4 hm.o hF (is_mdp (by omega)) 6 (by decide) q_791 rfl rfl rfl rfl (by show 6 < 13; decide) dX4_remember_77 (fun H16 locs16 h16 ho16 hz16 hF => ?_)
    have htx := htx.kept (ho16 _ (by omega))
    have hno := hno.kept (ho16 _ (by omega))
    have htr := htr.kept (ho16 _ (by omega))
    have hdi := hdi.kept (ho16 _ (by omega))
    have hke := hke.kept (ho16 _ (by omega))
    have hik := hik.kept (ho16 _ (by omega))
    have hap := hap.kept (ho16 _ (by omega))
    have hm : mdAt g mb (up M 2 ((M 2) + 1)) H16 := hm.put2 h16 ho16
    have e1 : remA ac = ac + 1 := if_neg (by omega)
    have e2 : rem DIA F ac = cpy DIA F (262 * ac.toNat) 0 262 := if_neg (by omega)
    exact r_vretH C rfl hF (by rw [e1, e2]; exact ⟨up M 2 ((M 2) + 1), TRI, AP, (by repeat first | exact hMb | exact rg_up hMb (by decide) | refine rg_up ?_ (by omega) | refine rg_setL ?_ (by omega)), (by rw [up_n _ _ (by omega)] <;> omega), (by rw [up_n _ _ (by omega)] <;> omega), (by rw [up_s] <;> omega), hm, htx, hno, htr, hdi, hke, hik, hap⟩) dX4_remember_80
  · refine r_iconst C dX4_remember_9 ?_
    refine r_istore_n (lv' := [(1, .int (iI 0)), (0, .ref mb)]) C rfl hl (by decide) rfl dX4_remember_10 (fun ls hl => ?_)
    have hdi : aAt g (mb + 4) 3668 (cpy DIA DIA 0 262 0) zs.heap := (by rw [cpy_0]; exact hdi)
    exact cut11 _ 0 0 (Nat.lt_succ_self _) (by omega) (by omega) (by omega) _ _ hm htx hno htr hdi hke hik hap hF _ (lv_sub hl [1, 0] rfl)
set_option maxHeartbeats 4000000 in
theorem k_X4_loans (l : Launch) (g : Gt) (mb : Nat) (rf sz ac : Int) (TX F DIA KEP ISK : Nat → Int) (T : Int) (hJ : J F z0 T) (hT : T ≤ 900000) (x y : Int) (hx : Rg x) (hy : Rg y) (s k : Nat) (hs : 0 ≤ x → x = (s : Int)) (hk : 0 ≤ y → y = (k : Int)) : CH l yX4_loans cX4_loans 3 (some .int) 2 46 g [.ref mb, .int (iI x), .int (iI y)] (MW g mb rf sz ac TX F DIA KEP ISK) (some (.int (iI (if (Kd ((0 ≤ x ∧ x < F 0) ∧ (0 ≤ y ∧ y < F 0))) = 0 then F (2 + 52 * s + (7 + k)) else 0)))) (Mdp mb) (fun H => ((Kd ((0 ≤ x ∧ x < F 0) ∧ (0 ≤ y ∧ y < F 0))) = 0 → MW g mb 0 sz ac TX F DIA KEP ISK H) ∧ ((Kd ((0 ≤ x ∧ x < F 0) ∧ (0 ≤ y ∧ y < F 0))) ≠ 0 → MW g mb (Kd ((0 ≤ x ∧ x < F 0) ∧ (0 ≤ y ∧ y < F 0))) sz ac TX F DIA KEP ISK H)) := by
  refine ch_of "LentRoomModel" (by decide) rfl (Nat.le_of_ble_eq_true rfl) ?_
  intro zp ze zs zm za zb zt zc ls C hP hF hl
  obtain ⟨M, TRI, AP, hMb, hM0, hM1, hM2, hm, htx, hno, htr, hdi, hke, hik, hap⟩ := hP
  have hl : lv_has ls 3 [(0, .ref mb), (1, .int (iI x)), (2, .int (iI y))] := hl
  have hS := hJ.S
  have hSm : Sm F := hS.m (by omega)
  have hZ := hJ.Z
  have hn5 := hJ.n
  refine r_aload_n C rfl (lv_at hl 0 rfl) dX4_loans_0 ?_
  refine r_aload_n C rfl (lv_at hl 0 rfl) dX4_loans_1 ?_
  refine r_get C (ci := 4) (v := .ref (mb + 2)) rfl uin4 hm.o 3 (by decide) q_788 rfl rfl dX4_loans_2 ?_
  refine r_iload_n C rfl (lv_at hl 1 rfl) dX4_loans_5 ?_
  refine r_sPi (rest := [.ref mb]) C (k_X4_isSpace l g (mb + 2) F hSm x (by omega)) s_RX4_94 hno hl.1 rfl ⟨by decide, by decide⟩ rfl (Nat.le_of_ble_eq_true rfl) ⟨Nat.le_refl 0, Nat.le_refl 0⟩ dX4_loans_6 ?_
  have b1 := hSm.n
  refine r_ifP_eq (tgt := 27) C (by decide) dX4_loans_9 (fun c2 => ?_) (fun c2 => ?_)
  · refine r_iconst C dX4_loans_27 ?_
    refine r_vHi (rest := []) C (k_X4_refused l g mb M 1 (by decide)) s_RX4_109 hm hF (fun q h => (is_mdp (by have h : q = _ := h; omega))) (recv C (ci := 4) rfl hm.o) hl.1 rfl ⟨by decide, by decide⟩ rfl (Nat.le_of_ble_eq_true rfl) ⟨Nat.le_refl 0, Nat.le_refl 0⟩ dX4_loans_28 (fun H3 locs3 h3 ho3 hz3 hF => ?_)
    have htx := htx.kept (ho3 _ (fun h => (by have h : _ = _ := h; omega)))
    have hno := hno.kept (ho3 _ (fun h => (by have h : _ = _ := h; omega)))
    have htr := htr.kept (ho3 _ (fun h => (by have h : _ = _ := h; omega)))
    have hdi := hdi.kept (ho3 _ (fun h => (by have h : _ = _ := h; omega)))
    have hke := hke.kept (ho3 _ (fun h => (by have h : _ = _ := h; omega)))
    have hik := hik.kept (ho3 _ (fun h => (by have h : _ = _ := h; omega)))
    have hap := hap.kept (ho3 _ (fun h => (by have h : _ = _ := h; omega)))
    have hm := h3
    refine r_ifP_eq (tgt := 36) C (by decide) dX4_loans_31 (fun c4 => ?_) (fun c4 => ?_)
    · exact absurd c4 (by decide)
    · refine r_iconst C dX4_loans_34 ?_
      have hK : (Kd ((0 ≤ x ∧ x < F 0) ∧ (0 ≤ y ∧ y < F 0))) = 1 := (by unfold Kd; split <;> omega)
      exact r_iretH C rfl rfl (congrArg iI (by rw [if_neg (by omega)])) hF (by exact ⟨fun h => absurd h (by omega), fun _ => ⟨up M 0 1, TRI, AP, (by repeat first | exact hMb | exact rg_up hMb (by decide) | refine rg_up ?_ (by omega) | refine rg_setL ?_ (by omega)), (by rw [up_s] <;> omega), (by rw [up_n _ _ (by omega)] <;> omega), (by rw [up_n _ _ (by omega)] <;> omega), hm, htx, hno, htr, hdi, hke, hik, hap⟩⟩) dX4_loans_35
  · refine r_aload_n C rfl (lv_at hl 0 rfl) dX4_loans_12 ?_
    refine r_get C (ci := 4) (v := .ref (mb + 2)) rfl uin4 hm.o 3 (by decide) q_788 rfl rfl dX4_loans_13 ?_
    refine r_iload_n C rfl (lv_at hl 2 rfl) dX4_loans_16 ?_
    refine r_sPi (rest := [.ref mb]) C (k_X4_isSpace l g (mb + 2) F hSm y (by omega)) s_RX4_94 hno hl.1 rfl ⟨by decide, by decide⟩ rfl (Nat.le_of_ble_eq_true rfl) ⟨Nat.le_refl 0, Nat.le_refl 0⟩ dX4_loans_17 ?_
    have b5 := hSm.n
    refine r_ifP_eq (tgt := 27) C (by decide) dX4_loans_20 (fun c6 => ?_) (fun c6 => ?_)
    · refine r_iconst C dX4_loans_27 ?_
      refine r_vHi (rest := []) C (k_X4_refused l g mb M 1 (by decide)) s_RX4_109 hm hF (fun q h => (is_mdp (by have h : q = _ := h; omega))) (recv C (ci := 4) rfl hm.o) hl.1 rfl ⟨by decide, by decide⟩ rfl (Nat.le_of_ble_eq_true rfl) ⟨Nat.le_refl 0, Nat.le_refl 0⟩ dX4_loans_28 (fun H7 locs7 h7 ho7 hz7 hF => ?_)
      have htx := htx.kept (ho7 _ (fun h => (by have h : _ = _ := h; omega)))
      have hno := hno.kept (ho7 _ (fun h => (by have h : _ = _ := h; omega)))
      have htr := htr.kept (ho7 _ (fun h => (by have h : _ = _ := h; omega)))
      have hdi := hdi.kept (ho7 _ (fun h => (by have h : _ = _ := h; omega)))
      have hke := hke.kept (ho7 _ (fun h => (by have h : _ = _ := h; omega)))
      have hik := hik.kept (ho7 _ (fun h => (by have h : _ = _ := h; omega)))
      have hap := hap.kept (ho7 _ (fun h => (by have h : _ = _ := h; omega)))
      have hm := h7
      refine r_ifP_eq (tgt := 36) C (by decide) dX4_loans_31 (fun c8 => ?_) (fun c8 => ?_)
      · exact absurd c8 (by decide)
      · refine r_iconst C dX4_loans_34 ?_
        have hK : (Kd ((0 ≤ x ∧ x < F 0) ∧ (0 ≤ y ∧ y < F 0))) = 1 := (by unfold Kd; split <;> omega)
        exact r_iretH C rfl rfl (congrArg iI (by rw [if_neg (by omega)])) hF (by exact ⟨fun h => absurd h (by omega), fun _ => ⟨up M 0 1, TRI, AP, (by repeat first | exact hMb | exact rg_up hMb (by decide) | refine rg_up ?_ (by omega) | refine rg_setL ?_ (by omega)), (by rw [up_s] <;> omega), (by rw [up_n _ _ (by omega)] <;> omega), (by rw [up_n _ _ (by omega)] <;> omega), hm, htx, hno, htr, hdi, hke, hik, hap⟩⟩) dX4_loans_35
    · refine r_iconst C dX4_loans_23 ?_
      refine r_goto (tgt := 28) C (by decide) dX4_loans_24 ?_
      refine r_vHi (rest := []) C (k_X4_refused l g mb M 0 (by decide)) s_RX4_109 hm hF (fun q h => (is_mdp (by have h : q = _ := h; omega))) (recv C (ci := 4) rfl hm.o) hl.1 rfl ⟨by decide, by decide⟩ rfl (Nat.le_of_ble_eq_true rfl) ⟨Nat.le_refl 0, Nat.le_refl 0⟩ dX4_loans_28 (fun H9 locs9 h9 ho9 hz9 hF => ?_)
      have htx := htx.kept (ho9 _ (fun h => (by have h : _ = _ := h; omega)))
      have hno := hno.kept (ho9 _ (fun h => (by have h : _ = _ := h; omega)))
      have htr := htr.kept (ho9 _ (fun h => (by have h : _ = _ := h; omega)))
      have hdi := hdi.kept (ho9 _ (fun h => (by have h : _ = _ := h; omega)))
      have hke := hke.kept (ho9 _ (fun h => (by have h : _ = _ := h; omega)))
      have hik := hik.kept (ho9 _ (fun h => (by have h : _ = _ := h; omega)))
      have hap := hap.kept (ho9 _ (fun h => (by have h : _ = _ := h; omega)))
      have hm := h9
      refine r_ifP_eq (tgt := 36) C (by decide) dX4_loans_31 (fun c10 => ?_) (fun c10 => ?_)
      · refine r_aload_n C rfl (lv_at hl 0 rfl) dX4_loans_36 ?_
        refine r_get C (ci := 4) (v := .ref (mb + 2)) rfl uin4 hm.o 3 (by decide) q_788 rfl rfl dX4_loans_37 ?_
        refine r_iload_n C rfl (lv_at hl 1 rfl) dX4_loans_40 ?_
        refine r_bipush C (by decide) dX4_loans_41 ?_
        refine r_iload_n C rfl (lv_at hl 2 rfl) dX4_loans_43 ?_
        refine r_iadd C dX4_loans_44 ?_
        refine r_sPi (rest := []) C (k_X4_of l g (mb + 2) F hSm x (7 + y) s (7 + k) (by omega) (by omega) (by omega) (by omega)) s_RX4_49 hno hl.1 rfl ⟨by decide, by decide⟩ rfl (Nat.le_of_ble_eq_true rfl) ⟨Nat.le_refl 0, Nat.le_refl 0⟩ dX4_loans_45 ?_
        have b11 := hSm.f s (7 + k) (by omega) (by omega)
        have hK : (Kd ((0 ≤ x ∧ x < F 0) ∧ (0 ≤ y ∧ y < F 0))) = 0 := (by unfold Kd; split <;> omega)
        have hK0 : (Kd ((0 ≤ x ∧ x < F 0) ∧ (0 ≤ y ∧ y < F 0))) = 0 := (by omega)
        exact r_iretH C rfl rfl (congrArg iI (by rw [if_pos hK0] <;> (rfl))) hF (by exact ⟨fun _ => ⟨up M 0 0, TRI, AP, (by repeat first | exact hMb | exact rg_up hMb (by decide) | refine rg_up ?_ (by omega) | refine rg_setL ?_ (by omega)), (by rw [up_s] <;> omega), (by rw [up_n _ _ (by omega)] <;> omega), (by rw [up_n _ _ (by omega)] <;> omega), hm, htx, hno, htr, hdi, hke, hik, hap⟩, fun h => absurd hK0 h⟩) dX4_loans_48
      · exact absurd c10 (by decide)
set_option maxHeartbeats 4000000 in
theorem k_X4_time (l : Launch) (g : Gt) (mb : Nat) (rf sz ac : Int) (TX F DIA KEP ISK : Nat → Int) (T : Int) (hJ : J F z0 T) (hT : T ≤ 900000) (x y : Int) (hx : Rg x) (hy : Rg y) (s k : Nat) (hs : 0 ≤ x → x = (s : Int)) (hk : 0 ≤ y → y = (k : Int)) : CH l yX4_time cX4_time 4 (some .int) 2 46 g [.ref mb, .int (iI x), .int (iI y)] (MW g mb rf sz ac TX F DIA KEP ISK) (some (.int (iI (if (Kd ((0 ≤ x ∧ x < F 0) ∧ (0 ≤ y ∧ y < 40))) = 0 then (if F (2 + 52 * s + (12 + k)) = 0 then -1 else F (2 + 52 * s + (12 + k))) else 0)))) (Mdp mb) (fun H => ((Kd ((0 ≤ x ∧ x < F 0) ∧ (0 ≤ y ∧ y < 40))) = 0 → MW g mb 0 sz ac TX F DIA KEP ISK H) ∧ ((Kd ((0 ≤ x ∧ x < F 0) ∧ (0 ≤ y ∧ y < 40))) ≠ 0 → MW g mb (Kd ((0 ≤ x ∧ x < F 0) ∧ (0 ≤ y ∧ y < 40))) sz ac TX F DIA KEP ISK H)) := by
  refine ch_of "LentRoomModel" (by decide) rfl (Nat.le_of_ble_eq_true rfl) ?_
  intro zp ze zs zm za zb zt zc ls C hP hF hl
  obtain ⟨M, TRI, AP, hMb, hM0, hM1, hM2, hm, htx, hno, htr, hdi, hke, hik, hap⟩ := hP
  have hl : lv_has ls 4 [(0, .ref mb), (1, .int (iI x)), (2, .int (iI y))] := hl
  have hS := hJ.S
  have hSm : Sm F := hS.m (by omega)
  have hZ := hJ.Z
  have hn5 := hJ.n
  refine r_aload_n C rfl (lv_at hl 0 rfl) dX4_time_0 ?_
  refine r_aload_n C rfl (lv_at hl 0 rfl) dX4_time_1 ?_
  refine r_get C (ci := 4) (v := .ref (mb + 2)) rfl uin4 hm.o 3 (by decide) q_788 rfl rfl dX4_time_2 ?_
  refine r_iload_n C rfl (lv_at hl 1 rfl) dX4_time_5 ?_
  refine r_sPi (rest := [.ref mb]) C (k_X4_isSpace l g (mb + 2) F hSm x (by omega)) s_RX4_94 hno hl.1 rfl ⟨by decide, by decide⟩ rfl (Nat.le_of_ble_eq_true rfl) ⟨Nat.le_refl 0, Nat.le_refl 0⟩ dX4_time_6 ?_
  have b1 := hSm.n
  refine r_ifP_eq (tgt := 23) C (by decide) dX4_time_9 (fun c2 => ?_) (fun c2 => ?_)
  · refine r_iconst C dX4_time_23 ?_
    refine r_vHi (rest := []) C (k_X4_refused l g mb M 1 (by decide)) s_RX4_109 hm hF (fun q h => (is_mdp (by have h : q = _ := h; omega))) (recv C (ci := 4) rfl hm.o) hl.1 rfl ⟨by decide, by decide⟩ rfl (Nat.le_of_ble_eq_true rfl) ⟨Nat.le_refl 0, Nat.le_refl 0⟩ dX4_time_24 (fun H3 locs3 h3 ho3 hz3 hF => ?_)
    have htx := htx.kept (ho3 _ (fun h => (by have h : _ = _ := h; omega)))
    have hno := hno.kept (ho3 _ (fun h => (by have h : _ = _ := h; omega)))
    have htr := htr.kept (ho3 _ (fun h => (by have h : _ = _ := h; omega)))
    have hdi := hdi.kept (ho3 _ (fun h => (by have h : _ = _ := h; omega)))
    have hke := hke.kept (ho3 _ (fun h => (by have h : _ = _ := h; omega)))
    have hik := hik.kept (ho3 _ (fun h => (by have h : _ = _ := h; omega)))
    have hap := hap.kept (ho3 _ (fun h => (by have h : _ = _ := h; omega)))
    have hm := h3
    refine r_ifP_eq (tgt := 32) C (by decide) dX4_time_27 (fun c4 => ?_) (fun c4 => ?_)
    · exact absurd c4 (by decide)
    · refine r_iconst C dX4_time_30 ?_
      have hK : (Kd ((0 ≤ x ∧ x < F 0) ∧ (0 ≤ y ∧ y < 40))) = 1 := (by unfold Kd; split <;> omega)
      exact r_iretH C rfl rfl (congrArg iI (by rw [if_neg (by omega)])) hF (by exact ⟨fun h => absurd h (by omega), fun _ => ⟨up M 0 1, TRI, AP, (by repeat first | exact hMb | exact rg_up hMb (by decide) | refine rg_up ?_ (by omega) | refine rg_setL ?_ (by omega)), (by rw [up_s] <;> omega), (by rw [up_n _ _ (by omega)] <;> omega), (by rw [up_n _ _ (by omega)] <;> omega), hm, htx, hno, htr, hdi, hke, hik, hap⟩⟩) dX4_time_31
  · refine r_iload_n C rfl (lv_at hl 2 rfl) dX4_time_12 ?_
    refine r_sPi (rest := [.ref mb]) C (k_X4_isPage l g y (by omega)) s_RX4_180 trivial hl.1 rfl ⟨by decide, by decide⟩ rfl (Nat.le_of_ble_eq_true rfl) ⟨Nat.le_refl 0, Nat.le_refl 0⟩ dX4_time_13 ?_
    refine r_ifP_eq (tgt := 23) C (by decide) dX4_time_16 (fun c5 => ?_) (fun c5 => ?_)
    · refine r_iconst C dX4_time_23 ?_
      refine r_vHi (rest := []) C (k_X4_refused l g mb M 1 (by decide)) s_RX4_109 hm hF (fun q h => (is_mdp (by have h : q = _ := h; omega))) (recv C (ci := 4) rfl hm.o) hl.1 rfl ⟨by decide, by decide⟩ rfl (Nat.le_of_ble_eq_true rfl) ⟨Nat.le_refl 0, Nat.le_refl 0⟩ dX4_time_24 (fun H6 locs6 h6 ho6 hz6 hF => ?_)
      have htx := htx.kept (ho6 _ (fun h => (by have h : _ = _ := h; omega)))
      have hno := hno.kept (ho6 _ (fun h => (by have h : _ = _ := h; omega)))
      have htr := htr.kept (ho6 _ (fun h => (by have h : _ = _ := h; omega)))
      have hdi := hdi.kept (ho6 _ (fun h => (by have h : _ = _ := h; omega)))
      have hke := hke.kept (ho6 _ (fun h => (by have h : _ = _ := h; omega)))
      have hik := hik.kept (ho6 _ (fun h => (by have h : _ = _ := h; omega)))
      have hap := hap.kept (ho6 _ (fun h => (by have h : _ = _ := h; omega)))
      have hm := h6
      refine r_ifP_eq (tgt := 32) C (by decide) dX4_time_27 (fun c7 => ?_) (fun c7 => ?_)
      · exact absurd c7 (by decide)
      · refine r_iconst C dX4_time_30 ?_
        have hK : (Kd ((0 ≤ x ∧ x < F 0) ∧ (0 ≤ y ∧ y < 40))) = 1 := (by unfold Kd; split <;> omega)
        exact r_iretH C rfl rfl (congrArg iI (by rw [if_neg (by omega)])) hF (by exact ⟨fun h => absurd h (by omega), fun _ => ⟨up M 0 1, TRI, AP, (by repeat first | exact hMb | exact rg_up hMb (by decide) | refine rg_up ?_ (by omega) | refine rg_setL ?_ (by omega)), (by rw [up_s] <;> omega), (by rw [up_n _ _ (by omega)] <;> omega), (by rw [up_n _ _ (by omega)] <;> omega), hm, htx, hno, htr, hdi, hke, hik, hap⟩⟩) dX4_time_31
    · refine r_iconst C dX4_time_19 ?_
      refine r_goto (tgt := 24) C (by decide) dX4_time_20 ?_
      refine r_vHi (rest := []) C (k_X4_refused l g mb M 0 (by decide)) s_RX4_109 hm hF (fun q h => (is_mdp (by have h : q = _ := h; omega))) (recv C (ci := 4) rfl hm.o) hl.1 rfl ⟨by decide, by decide⟩ rfl (Nat.le_of_ble_eq_true rfl) ⟨Nat.le_refl 0, Nat.le_refl 0⟩ dX4_time_24 (fun H8 locs8 h8 ho8 hz8 hF => ?_)
      have htx := htx.kept (ho8 _ (fun h => (by have h : _ = _ := h; omega)))
      have hno := hno.kept (ho8 _ (fun h => (by have h : _ = _ := h; omega)))
      have htr := htr.kept (ho8 _ (fun h => (by have h : _ = _ := h; omega)))
      have hdi := hdi.kept (ho8 _ (fun h => (by have h : _ = _ := h; omega)))
      have hke := hke.kept (ho8 _ (fun h => (by have h : _ = _ := h; omega)))
      have hik := hik.kept (ho8 _ (fun h => (by have h : _ = _ := h; omega)))
      have hap := hap.kept (ho8 _ (fun h => (by have h : _ = _ := h; omega)))
      have hm := h8
      refine r_ifP_eq (tgt := 32) C (by decide) dX4_time_27 (fun c9 => ?_) (fun c9 => ?_)
      · refine r_aload_n C rfl (lv_at hl 0 rfl) dX4_time_32 ?_
        refine r_get C (ci := 4) (v := .ref (mb + 2)) rfl uin4 hm.o 3 (by decide) q_788 rfl rfl dX4_time_33 ?_
        refine r_iload_n C rfl (lv_at hl 1 rfl) dX4_time_36 ?_
        refine r_bipush C (by decide) dX4_time_37 ?_
        refine r_iload_n C rfl (lv_at hl 2 rfl) dX4_time_39 ?_
        refine r_iadd C dX4_time_40 ?_
        refine r_sPi (rest := []) C (k_X4_of l g (mb + 2) F hSm x (12 + y) s (12 + k) (by omega) (by omega) (by omega) (by omega)) s_RX4_49 hno hl.1 rfl ⟨by decide, by decide⟩ rfl (Nat.le_of_ble_eq_true rfl) ⟨Nat.le_refl 0, Nat.le_refl 0⟩ dX4_time_41 ?_
        have b10 := hSm.f s (12 + k) (by omega) (by omega)
        refine r_istore_n (lv' := [(3, .int (iI (F (2 + 52 * s + (12 + k))))), (0, .ref mb), (1, .int (iI x)), (2, .int (iI y))]) C rfl hl (by decide) rfl dX4_time_44 (fun ls hl => ?_)
        refine r_iload_n C rfl (lv_at hl 0 rfl) dX4_time_45 ?_
        refine r_if_ne (tgt := 53) C (by decide) (by omega) dX4_time_46 (fun c11 => ?_) (fun c11 => ?_)
        · refine r_iload_n C rfl (lv_at hl 0 rfl) dX4_time_53 ?_
          have hK : (Kd ((0 ≤ x ∧ x < F 0) ∧ (0 ≤ y ∧ y < 40))) = 0 := (by unfold Kd; split <;> omega)
          have hK0 : (Kd ((0 ≤ x ∧ x < F 0) ∧ (0 ≤ y ∧ y < 40))) = 0 := (by omega)
          exact r_iretH C rfl rfl (congrArg iI (by rw [if_pos hK0] <;> (rw [if_neg (by omega)]))) hF (by exact ⟨fun _ => ⟨up M 0 0, TRI, AP, (by repeat first | exact hMb | exact rg_up hMb (by decide) | refine rg_up ?_ (by omega) | refine rg_setL ?_ (by omega)), (by rw [up_s] <;> omega), (by rw [up_n _ _ (by omega)] <;> omega), (by rw [up_n _ _ (by omega)] <;> omega), hm, htx, hno, htr, hdi, hke, hik, hap⟩, fun h => absurd hK0 h⟩) dX4_time_54
        · refine r_iconst C dX4_time_49 ?_
          refine r_goto (tgt := 54) C (by decide) dX4_time_50 ?_
          have hK : (Kd ((0 ≤ x ∧ x < F 0) ∧ (0 ≤ y ∧ y < 40))) = 0 := (by unfold Kd; split <;> omega)
          have hK0 : (Kd ((0 ≤ x ∧ x < F 0) ∧ (0 ≤ y ∧ y < 40))) = 0 := (by omega)
          exact r_iretH C rfl rfl (congrArg iI (by rw [if_pos hK0] <;> (rw [if_pos (by omega)]))) hF (by exact ⟨fun _ => ⟨up M 0 0, TRI, AP, (by repeat first | exact hMb | exact rg_up hMb (by decide) | refine rg_up ?_ (by omega) | refine rg_setL ?_ (by omega)), (by rw [up_s] <;> omega), (by rw [up_n _ _ (by omega)] <;> omega), (by rw [up_n _ _ (by omega)] <;> omega), hm, htx, hno, htr, hdi, hke, hik, hap⟩, fun h => absurd hK0 h⟩) dX4_time_54
      · exact absurd c9 (by decide)
set_option maxHeartbeats 4000000 in
theorem k_X4_mostFloor (l : Launch) (g : Gt) (mb : Nat) (rf sz ac : Int) (TX F DIA KEP ISK : Nat → Int) (T : Int) (hJ : J F z0 T) (hT : T ≤ 900000) (x : Int) (hx : Rg x) (s : Nat) (hs : 0 ≤ x → x = (s : Int)) : CH l yX4_mostFloor cX4_mostFloor 2 (some .int) 5 107 g [.ref mb, .int (iI x)] (MW g mb rf sz ac TX F DIA KEP ISK) (some (.int (iI (if (Kd (0 ≤ x ∧ x < F 0)) = 0 then mn (F (2 + 52 * s + 1)) (F (2 + 52 * s + 0) + free F) else 0)))) (Mdp mb) (fun H => ((Kd (0 ≤ x ∧ x < F 0)) = 0 → MW g mb 0 sz ac TX F DIA KEP ISK H) ∧ ((Kd (0 ≤ x ∧ x < F 0)) ≠ 0 → MW g mb (Kd (0 ≤ x ∧ x < F 0)) sz ac TX F DIA KEP ISK H)) := by
  refine ch_of "LentRoomModel" (by decide) rfl (Nat.le_of_ble_eq_true rfl) ?_
  intro zp ze zs zm za zb zt zc ls C hP hF hl
  obtain ⟨M, TRI, AP, hMb, hM0, hM1, hM2, hm, htx, hno, htr, hdi, hke, hik, hap⟩ := hP
  have hl : lv_has ls 2 [(0, .ref mb), (1, .int (iI x))] := hl
  have hS := hJ.S
  have hSm : Sm F := hS.m (by omega)
  have hZ := hJ.Z
  have hn5 := hJ.n
  refine r_aload_n C rfl (lv_at hl 0 rfl) dX4_mostFloor_0 ?_
  refine r_aload_n C rfl (lv_at hl 0 rfl) dX4_mostFloor_1 ?_
  refine r_get C (ci := 4) (v := .ref (mb + 2)) rfl uin4 hm.o 3 (by decide) q_788 rfl rfl dX4_mostFloor_2 ?_
  refine r_iload_n C rfl (lv_at hl 1 rfl) dX4_mostFloor_5 ?_
  refine r_sPi (rest := [.ref mb]) C (k_X4_isSpace l g (mb + 2) F hSm x (by omega)) s_RX4_94 hno hl.1 rfl ⟨by decide, by decide⟩ rfl (Nat.le_of_ble_eq_true rfl) ⟨Nat.le_refl 0, Nat.le_refl 0⟩ dX4_mostFloor_6 ?_
  have b1 := hSm.n
  refine r_ifP_eq (tgt := 16) C (by decide) dX4_mostFloor_9 (fun c2 => ?_) (fun c2 => ?_)
  · refine r_iconst C dX4_mostFloor_16 ?_
    refine r_vHi (rest := []) C (k_X4_refused l g mb M 1 (by decide)) s_RX4_109 hm hF (fun q h => (is_mdp (by have h : q = _ := h; omega))) (recv C (ci := 4) rfl hm.o) hl.1 rfl ⟨by decide, by decide⟩ rfl (Nat.le_of_ble_eq_true rfl) ⟨Nat.le_refl 0, Nat.le_refl 0⟩ dX4_mostFloor_17 (fun H3 locs3 h3 ho3 hz3 hF => ?_)
    have htx := htx.kept (ho3 _ (fun h => (by have h : _ = _ := h; omega)))
    have hno := hno.kept (ho3 _ (fun h => (by have h : _ = _ := h; omega)))
    have htr := htr.kept (ho3 _ (fun h => (by have h : _ = _ := h; omega)))
    have hdi := hdi.kept (ho3 _ (fun h => (by have h : _ = _ := h; omega)))
    have hke := hke.kept (ho3 _ (fun h => (by have h : _ = _ := h; omega)))
    have hik := hik.kept (ho3 _ (fun h => (by have h : _ = _ := h; omega)))
    have hap := hap.kept (ho3 _ (fun h => (by have h : _ = _ := h; omega)))
    have hm := h3
    refine r_ifP_eq (tgt := 25) C (by decide) dX4_mostFloor_20 (fun c4 => ?_) (fun c4 => ?_)
    · exact absurd c4 (by decide)
    · refine r_iconst C dX4_mostFloor_23 ?_
      have hK : (Kd (0 ≤ x ∧ x < F 0)) = 1 := (by unfold Kd; split <;> omega)
      exact r_iretH C rfl rfl (congrArg iI (by rw [if_neg (by omega)])) hF (by exact ⟨fun h => absurd h (by omega), fun _ => ⟨up M 0 1, TRI, AP, (by repeat first | exact hMb | exact rg_up hMb (by decide) | refine rg_up ?_ (by omega) | refine rg_setL ?_ (by omega)), (by rw [up_s] <;> omega), (by rw [up_n _ _ (by omega)] <;> omega), (by rw [up_n _ _ (by omega)] <;> omega), hm, htx, hno, htr, hdi, hke, hik, hap⟩⟩) dX4_mostFloor_24
  · refine r_iconst C dX4_mostFloor_12 ?_
    refine r_goto (tgt := 17) C (by decide) dX4_mostFloor_13 ?_
    refine r_vHi (rest := []) C (k_X4_refused l g mb M 0 (by decide)) s_RX4_109 hm hF (fun q h => (is_mdp (by have h : q = _ := h; omega))) (recv C (ci := 4) rfl hm.o) hl.1 rfl ⟨by decide, by decide⟩ rfl (Nat.le_of_ble_eq_true rfl) ⟨Nat.le_refl 0, Nat.le_refl 0⟩ dX4_mostFloor_17 (fun H5 locs5 h5 ho5 hz5 hF => ?_)
    have htx := htx.kept (ho5 _ (fun h => (by have h : _ = _ := h; omega)))
    have hno := hno.kept (ho5 _ (fun h => (by have h : _ = _ := h; omega)))
    have htr := htr.kept (ho5 _ (fun h => (by have h : _ = _ := h; omega)))
    have hdi := hdi.kept (ho5 _ (fun h => (by have h : _ = _ := h; omega)))
    have hke := hke.kept (ho5 _ (fun h => (by have h : _ = _ := h; omega)))
    have hik := hik.kept (ho5 _ (fun h => (by have h : _ = _ := h; omega)))
    have hap := hap.kept (ho5 _ (fun h => (by have h : _ = _ := h; omega)))
    have hm := h5
    refine r_ifP_eq (tgt := 25) C (by decide) dX4_mostFloor_20 (fun c6 => ?_) (fun c6 => ?_)
    · refine r_aload_n C rfl (lv_at hl 0 rfl) dX4_mostFloor_25 ?_
      refine r_get C (ci := 4) (v := .ref (mb + 2)) rfl uin4 hm.o 3 (by decide) q_788 rfl rfl dX4_mostFloor_26 ?_
      refine r_iload_n C rfl (lv_at hl 1 rfl) dX4_mostFloor_29 ?_
      refine r_sPi (rest := []) C (k_X4_most l g (mb + 2) F hSm hZ x s (by omega) (by omega)) s_RX4_101 hno hl.1 rfl ⟨by decide, by decide⟩ rfl (Nat.le_of_ble_eq_true rfl) ⟨Nat.le_refl 0, Nat.le_refl 0⟩ dX4_mostFloor_30 ?_
      have b7 := hSm.f s 1 (by omega) (by omega)
      have b8 := hSm.f s 0 (by omega) (by omega)
      have b9 := free_b hSm
      have b10 := mn_b (F (2 + 52 * s + 1)) (F (2 + 52 * s + 0) + free F)
      have hK : (Kd (0 ≤ x ∧ x < F 0)) = 0 := (by unfold Kd; split <;> omega)
      have hK0 : (Kd (0 ≤ x ∧ x < F 0)) = 0 := (by omega)
      exact r_iretH C rfl rfl (congrArg iI (by rw [if_pos hK0] <;> (rfl))) hF (by exact ⟨fun _ => ⟨up M 0 0, TRI, AP, (by repeat first | exact hMb | exact rg_up hMb (by decide) | refine rg_up ?_ (by omega) | refine rg_setL ?_ (by omega)), (by rw [up_s] <;> omega), (by rw [up_n _ _ (by omega)] <;> omega), (by rw [up_n _ _ (by omega)] <;> omega), hm, htx, hno, htr, hdi, hke, hik, hap⟩, fun h => absurd hK0 h⟩) dX4_mostFloor_33
    · exact absurd c6 (by decide)
set_option maxHeartbeats 4000000 in
theorem k_X4_leastFloor (l : Launch) (g : Gt) (mb : Nat) (rf sz ac : Int) (TX F DIA KEP ISK : Nat → Int) (T : Int) (hJ : J F z0 T) (hT : T ≤ 900000) (x : Int) (hx : Rg x) (s : Nat) (hs : 0 ≤ x → x = (s : Int)) : CH l yX4_leastFloor cX4_leastFloor 2 (some .int) 5 107 g [.ref mb, .int (iI x)] (MW g mb rf sz ac TX F DIA KEP ISK) (some (.int (iI (if (Kd (0 ≤ x ∧ x < F 0)) = 0 then F (2 + 52 * s + 0) - idle F s else 0)))) (Mdp mb) (fun H => ((Kd (0 ≤ x ∧ x < F 0)) = 0 → MW g mb 0 sz ac TX F DIA KEP ISK H) ∧ ((Kd (0 ≤ x ∧ x < F 0)) ≠ 0 → MW g mb (Kd (0 ≤ x ∧ x < F 0)) sz ac TX F DIA KEP ISK H)) := by
  refine ch_of "LentRoomModel" (by decide) rfl (Nat.le_of_ble_eq_true rfl) ?_
  intro zp ze zs zm za zb zt zc ls C hP hF hl
  obtain ⟨M, TRI, AP, hMb, hM0, hM1, hM2, hm, htx, hno, htr, hdi, hke, hik, hap⟩ := hP
  have hl : lv_has ls 2 [(0, .ref mb), (1, .int (iI x))] := hl
  have hS := hJ.S
  have hSm : Sm F := hS.m (by omega)
  have hZ := hJ.Z
  have hn5 := hJ.n
  refine r_aload_n C rfl (lv_at hl 0 rfl) dX4_leastFloor_0 ?_
  refine r_aload_n C rfl (lv_at hl 0 rfl) dX4_leastFloor_1 ?_
  refine r_get C (ci := 4) (v := .ref (mb + 2)) rfl uin4 hm.o 3 (by decide) q_788 rfl rfl dX4_leastFloor_2 ?_
  refine r_iload_n C rfl (lv_at hl 1 rfl) dX4_leastFloor_5 ?_
  refine r_sPi (rest := [.ref mb]) C (k_X4_isSpace l g (mb + 2) F hSm x (by omega)) s_RX4_94 hno hl.1 rfl ⟨by decide, by decide⟩ rfl (Nat.le_of_ble_eq_true rfl) ⟨Nat.le_refl 0, Nat.le_refl 0⟩ dX4_leastFloor_6 ?_
  have b1 := hSm.n
  refine r_ifP_eq (tgt := 16) C (by decide) dX4_leastFloor_9 (fun c2 => ?_) (fun c2 => ?_)
  · refine r_iconst C dX4_leastFloor_16 ?_
    refine r_vHi (rest := []) C (k_X4_refused l g mb M 1 (by decide)) s_RX4_109 hm hF (fun q h => (is_mdp (by have h : q = _ := h; omega))) (recv C (ci := 4) rfl hm.o) hl.1 rfl ⟨by decide, by decide⟩ rfl (Nat.le_of_ble_eq_true rfl) ⟨Nat.le_refl 0, Nat.le_refl 0⟩ dX4_leastFloor_17 (fun H3 locs3 h3 ho3 hz3 hF => ?_)
    have htx := htx.kept (ho3 _ (fun h => (by have h : _ = _ := h; omega)))
    have hno := hno.kept (ho3 _ (fun h => (by have h : _ = _ := h; omega)))
    have htr := htr.kept (ho3 _ (fun h => (by have h : _ = _ := h; omega)))
    have hdi := hdi.kept (ho3 _ (fun h => (by have h : _ = _ := h; omega)))
    have hke := hke.kept (ho3 _ (fun h => (by have h : _ = _ := h; omega)))
    have hik := hik.kept (ho3 _ (fun h => (by have h : _ = _ := h; omega)))
    have hap := hap.kept (ho3 _ (fun h => (by have h : _ = _ := h; omega)))
    have hm := h3
    refine r_ifP_eq (tgt := 25) C (by decide) dX4_leastFloor_20 (fun c4 => ?_) (fun c4 => ?_)
    · exact absurd c4 (by decide)
    · refine r_iconst C dX4_leastFloor_23 ?_
      have hK : (Kd (0 ≤ x ∧ x < F 0)) = 1 := (by unfold Kd; split <;> omega)
      exact r_iretH C rfl rfl (congrArg iI (by rw [if_neg (by omega)])) hF (by exact ⟨fun h => absurd h (by omega), fun _ => ⟨up M 0 1, TRI, AP, (by repeat first | exact hMb | exact rg_up hMb (by decide) | refine rg_up ?_ (by omega) | refine rg_setL ?_ (by omega)), (by rw [up_s] <;> omega), (by rw [up_n _ _ (by omega)] <;> omega), (by rw [up_n _ _ (by omega)] <;> omega), hm, htx, hno, htr, hdi, hke, hik, hap⟩⟩) dX4_leastFloor_24
  · refine r_iconst C dX4_leastFloor_12 ?_
    refine r_goto (tgt := 17) C (by decide) dX4_leastFloor_13 ?_
    refine r_vHi (rest := []) C (k_X4_refused l g mb M 0 (by decide)) s_RX4_109 hm hF (fun q h => (is_mdp (by have h : q = _ := h; omega))) (recv C (ci := 4) rfl hm.o) hl.1 rfl ⟨by decide, by decide⟩ rfl (Nat.le_of_ble_eq_true rfl) ⟨Nat.le_refl 0, Nat.le_refl 0⟩ dX4_leastFloor_17 (fun H5 locs5 h5 ho5 hz5 hF => ?_)
    have htx := htx.kept (ho5 _ (fun h => (by have h : _ = _ := h; omega)))
    have hno := hno.kept (ho5 _ (fun h => (by have h : _ = _ := h; omega)))
    have htr := htr.kept (ho5 _ (fun h => (by have h : _ = _ := h; omega)))
    have hdi := hdi.kept (ho5 _ (fun h => (by have h : _ = _ := h; omega)))
    have hke := hke.kept (ho5 _ (fun h => (by have h : _ = _ := h; omega)))
    have hik := hik.kept (ho5 _ (fun h => (by have h : _ = _ := h; omega)))
    have hap := hap.kept (ho5 _ (fun h => (by have h : _ = _ := h; omega)))
    have hm := h5
    refine r_ifP_eq (tgt := 25) C (by decide) dX4_leastFloor_20 (fun c6 => ?_) (fun c6 => ?_)
    · refine r_aload_n C rfl (lv_at hl 0 rfl) dX4_leastFloor_25 ?_
      refine r_get C (ci := 4) (v := .ref (mb + 2)) rfl uin4 hm.o 3 (by decide) q_788 rfl rfl dX4_leastFloor_26 ?_
      refine r_iload_n C rfl (lv_at hl 1 rfl) dX4_leastFloor_29 ?_
      refine r_sPi (rest := []) C (k_X4_least l g (mb + 2) F hSm hZ x s (by omega) (by omega)) s_RX4_98 hno hl.1 rfl ⟨by decide, by decide⟩ rfl (Nat.le_of_ble_eq_true rfl) ⟨Nat.le_refl 0, Nat.le_refl 0⟩ dX4_leastFloor_30 ?_
      have b7 := hSm.f s 0 (by omega) (by omega)
      have b8 := idle_b hSm s (by omega)
      have hK : (Kd (0 ≤ x ∧ x < F 0)) = 0 := (by unfold Kd; split <;> omega)
      have hK0 : (Kd (0 ≤ x ∧ x < F 0)) = 0 := (by omega)
      exact r_iretH C rfl rfl (congrArg iI (by rw [if_pos hK0] <;> (rfl))) hF (by exact ⟨fun _ => ⟨up M 0 0, TRI, AP, (by repeat first | exact hMb | exact rg_up hMb (by decide) | refine rg_up ?_ (by omega) | refine rg_setL ?_ (by omega)), (by rw [up_s] <;> omega), (by rw [up_n _ _ (by omega)] <;> omega), (by rw [up_n _ _ (by omega)] <;> omega), hm, htx, hno, htr, hdi, hke, hik, hap⟩, fun h => absurd hK0 h⟩) dX4_leastFloor_33
    · exact absurd c6 (by decide)

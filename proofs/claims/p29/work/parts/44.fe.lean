theorem s_RX2_33 : SiteV "LentRoom$Text" 33 "java/lang/String" yJ0_length_8abf5 cJ0_length_8abf5 1 (some .int) 0 := ⟨⟨q_180, q_181, q_182, q_40, q_183⟩, rfl, by decide, by decide, by decide +kernel⟩
theorem s_RX2_45 : SiteS "LentRoom$Text" 45 yX2_placesBehind cX2_placesBehind 1 (Option.some (Jvm.ClassFile.FieldType.object "java/lang/String")) 1 := ⟨⟨q_244, q_245, q_31, q_246⟩, by decide, by decide, by decide +kernel⟩
theorem s_RX2_49 : SiteV "LentRoom$Text" 49 "java/lang/String" yJ0_isEmpty_aae02 cJ0_isEmpty_aae02 1 (some .boolean) 0 := ⟨⟨q_252, q_253, q_254, q_40, q_255⟩, rfl, by decide, by decide, by decide +kernel⟩
theorem s_RX2_38 : SiteV "LentRoom$Text" 38 "java/lang/String" yJ0_charAt_5068e cJ0_charAt_5068e 2 (some .char) 1 := ⟨⟨q_190, q_191, q_192, q_40, q_193⟩, rfl, by decide, by decide, by decide +kernel⟩
theorem s_RX2_41 : SiteV "LentRoom$Text" 41 "LentRoom$Text" yX2_fits cX2_fits 4 (some .boolean) 2 := ⟨⟨q_228, q_230, q_0, q_31, q_231⟩, rfl, by decide, by decide, by decide +kernel⟩
set_option maxHeartbeats 4000000 in
theorem k_X2_placesBehind (l : Launch) (g : Gt) (kt : Kt) (c : Int) (hc : 0 ≤ c ∧ c ≤ 255) : CK l yX2_placesBehind cX2_placesBehind 1 (Option.some (Jvm.ClassFile.FieldType.object "java/lang/String")) 0 0 g kt [.int (iI c)] (fun _ => True) (some (.ref (kt.2.1 (plI c)))) := by
  refine ck_of "LentRoom$Text" (by decide) rfl (Nat.le_of_ble_eq_true rfl) ?_
  intro zp ze zs zm za zb zt zc ls C K9 hP hl
  have hl : lv_has ls 1 [(0, .int (iI c))] := hl
  refine r_iload_n C rfl (lv_at hl 0 rfl) dX2_placesBehind_0 ?_
  by_cases e1 : c = 102
  · refine r_lk (tgt := 58) (off := 57) C (by omega) (by decide) (by rw [e1]; rfl) (by decide) dX2_placesBehind_1 ?_
    refine r_ldcX C K9 rfl 3 (by decide) rfl dX2_placesBehind_58 ?_
    exact r_aretP C rfl (by rw [show plI c = 3 from (by unfold plI; rw [if_neg (by omega), if_neg (by omega), if_pos (by omega)])]) dX2_placesBehind_60
  by_cases e2 : c = 114
  · refine r_lk (tgt := 61) (off := 60) C (by omega) (by decide) (by rw [e2]; rfl) (by decide) dX2_placesBehind_1 ?_
    refine r_ldcX C K9 rfl 4 (by decide) rfl dX2_placesBehind_61 ?_
    exact r_aretP C rfl (by rw [show plI c = 4 from (by unfold plI; rw [if_neg (by omega), if_neg (by omega), if_neg (by omega), if_pos (by omega)])]) dX2_placesBehind_63
  by_cases e3 : c = 115
  · refine r_lk (tgt := 52) (off := 51) C (by omega) (by decide) (by rw [e3]; rfl) (by decide) dX2_placesBehind_1 ?_
    refine r_ldcX C K9 rfl 1 (by decide) rfl dX2_placesBehind_52 ?_
    exact r_aretP C rfl (by rw [show plI c = 1 from (by unfold plI; rw [if_pos (by omega)])]) dX2_placesBehind_54
  by_cases e4 : c = 116
  · refine r_lk (tgt := 55) (off := 54) C (by omega) (by decide) (by rw [e4]; rfl) (by decide) dX2_placesBehind_1 ?_
    refine r_ldcX C K9 rfl 2 (by decide) rfl dX2_placesBehind_55 ?_
    exact r_aretP C rfl (by rw [show plI c = 2 from (by unfold plI; rw [if_neg (by omega), if_pos (by omega)])]) dX2_placesBehind_57
  by_cases e5 : c = 119
  · refine r_lk (tgt := 55) (off := 54) C (by omega) (by decide) (by rw [e5]; rfl) (by decide) dX2_placesBehind_1 ?_
    refine r_ldcX C K9 rfl 2 (by decide) rfl dX2_placesBehind_55 ?_
    exact r_aretP C rfl (by rw [show plI c = 2 from (by unfold plI; rw [if_neg (by omega), if_pos (by omega)])]) dX2_placesBehind_57
  refine r_lk (tgt := 64) (off := 63) C (by omega) (by decide) (by show (if (102 : Int) = c then 57 else if (114 : Int) = c then 60 else if (115 : Int) = c then 51 else if (116 : Int) = c then 54 else if (119 : Int) = c then 54 else 63) = _; rw [if_neg (by omega), if_neg (by omega), if_neg (by omega), if_neg (by omega), if_neg (by omega)]) (by decide) dX2_placesBehind_1 ?_
  refine r_ldcX C K9 rfl 5 (by decide) rfl dX2_placesBehind_64 ?_
  exact r_aretP C rfl (by rw [show plI c = 5 from (by unfold plI; rw [if_neg (by omega), if_neg (by omega), if_neg (by omega), if_neg (by omega)])]) dX2_placesBehind_66
set_option maxHeartbeats 4000000 in
theorem k_X2_firstError (l : Launch) (g : Gt) (kt : Kt) (t n : Nat) (TX : Nat → Int) (hTX : ∀ k : Nat, k < 120 → 0 ≤ TX k ∧ TX k ≤ 255) (hn : n ≤ 120)  : CK l yX2_firstError cX2_firstError 4 (some .int) 4 89 g kt [.ref t] (fun H => txAt g t (n : Int) H ∧ cAt g (t + 1) 120 TX H) (some (.int (iI (feR TX n 121 0 [68])))) := by
  refine ck_of "LentRoom$Text" (by decide) rfl (Nat.le_of_ble_eq_true rfl) ?_
  intro zp ze zs zm za zb zt zc ls C K9 hP hl
  obtain ⟨ht, hg⟩ := hP
  have hl : lv_has ls 4 [(0, .ref t)] := hl
  have cut7 : ∀ (N : Nat) (i : Nat) (j : Nat) (p : Nat) (v2 : Int) (v3 : Int), 121 - p < N → (i < 6) → (j ≤ sxL.getD i 0) → (p ≤ n) → (feR TX n 121 0 [68] = feR TX n (121 - p) p ((sxS i).drop j)) → (v2 = (j : Int)) → (v3 = (p : Int)) → ∀ ls : Array Slot, lv_has ls 4 [(0, .ref t), (1, .ref (kt.2.1 i)), (2, .int (iI v2)), (3, .int (iI v3))] → W zp l ze (rmc 4 89) zs zm za zb zt zc zs.heap [] 0 0 (MQ zb (PQ (some (.int (iI (feR TX n 121 0 [68]))))) za zs 0 0 (fun _ => False)) (F0 zm 7 ls []) := by
    intro N
    induction N with
    | zero => intro i j p v2 v3; exact fun hms => absurd hms (Nat.not_lt_zero _)
    | succ N ih =>
      intro i j p v2 v3 hms hi hj hp hfe hv2 hv3 ls hl
      have hs5 := sx_len i hi
      refine r_iload_n C rfl (lv_at hl 3 rfl) dX2_firstError_7 ?_
      refine r_aload_n C rfl (lv_at hl 0 rfl) dX2_firstError_8 ?_
      refine r_get C (ci := 2) (v := .int (iI (n : Int))) rfl uin2 ht.o 0 (by decide) q_61 rfl rfl dX2_firstError_9 ?_
      refine r_icmp_ge (tgt := 70) C (by decide) (by omega) (by omega) dX2_firstError_12 (fun c1 => ?_) (fun c1 => ?_)
      · refine r_iload_n C rfl (lv_at hl 2 rfl) dX2_firstError_70 ?_
        refine r_aload_n C rfl (lv_at hl 1 rfl) dX2_firstError_71 ?_
        refine r_vKi (rest := [.int (iI v2)]) C K9 (k_J0_length l g kt i (by omega)) s_RX2_33 trivial (sk_recv C K9 i (by omega)) hl.1 rfl ⟨by decide, by decide⟩ rfl (Nat.le_of_ble_eq_true rfl) ⟨Nat.le_refl 0, Nat.le_refl 0⟩ dX2_firstError_72 ?_
        refine r_icmp_ge (tgt := 85) C (by decide) (by omega) (by omega) dX2_firstError_75 (fun c2 => ?_) (fun c2 => ?_)
        · refine r_iconst C dX2_firstError_85 ?_
          exact r_iretP C rfl rfl (congrArg iI (by rw [hfe, fe_o _ (by omega), if_pos (sx_dropE i hi j (by omega))])) dX2_firstError_86
        · refine r_aload_n C rfl (lv_at hl 0 rfl) dX2_firstError_78 ?_
          refine r_get C (ci := 2) (v := .int (iI (n : Int))) rfl uin2 ht.o 0 (by decide) q_61 rfl rfl dX2_firstError_79 ?_
          refine r_goto (tgt := 86) C (by decide) dX2_firstError_82 ?_
          exact r_iretP C rfl rfl (congrArg iI (by rw [hfe, fe_o _ (by omega), if_neg (by rw [sx_drop i hi j (by omega)]; simp)])) dX2_firstError_86
      · refine r_iload_n C rfl (lv_at hl 2 rfl) dX2_firstError_15 ?_
        refine r_aload_n C rfl (lv_at hl 1 rfl) dX2_firstError_16 ?_
        refine r_vKi (rest := [.int (iI v2)]) C K9 (k_J0_length l g kt i (by omega)) s_RX2_33 trivial (sk_recv C K9 i (by omega)) hl.1 rfl ⟨by decide, by decide⟩ rfl (Nat.le_of_ble_eq_true rfl) ⟨Nat.le_refl 0, Nat.le_refl 0⟩ dX2_firstError_17 ?_
        refine r_icmp_ge (tgt := 44) C (by decide) (by omega) (by omega) dX2_firstError_20 (fun c3 => ?_) (fun c3 => ?_)
        · refine r_aload_n C rfl (lv_at hl 0 rfl) dX2_firstError_44 ?_
          refine r_iload_n C rfl (lv_at hl 3 rfl) dX2_firstError_45 ?_
          refine r_vPi (rest := []) C (k_X2_sign l g t n TX hTX hn v3 (by omega)) s_RX2_23 ⟨ht, hg⟩ (recv C (ci := 2) rfl ht.o) hl.1 rfl ⟨by decide, by decide⟩ rfl (Nat.le_of_ble_eq_true rfl) ⟨Nat.le_refl 0, Nat.le_refl 0⟩ dX2_firstError_46 ?_
          have b4 := sgn_b hTX hn v3
          refine r_sKr (rest := []) C K9 (k_X2_placesBehind l g kt (sgn TX n v3) (by omega)) s_RX2_45 trivial hl.1 rfl ⟨by decide, by decide⟩ rfl (Nat.le_of_ble_eq_true rfl) ⟨Nat.le_refl 0, Nat.le_refl 0⟩ dX2_firstError_49 ?_
          have b5 := plI_b (sgn TX n v3)
          refine r_astore_n (lv' := [(1, .ref (kt.2.1 (plI (sgn TX n v3)))), (0, .ref t), (2, .int (iI v2)), (3, .int (iI v3))]) C rfl hl (by decide) rfl dX2_firstError_52 (fun ls hl => ?_)
          refine r_iconst C dX2_firstError_53 ?_
          refine r_istore_n (lv' := [(2, .int (iI 0)), (1, .ref (kt.2.1 (plI (sgn TX n v3)))), (0, .ref t), (3, .int (iI v3))]) C rfl hl (by decide) rfl dX2_firstError_54 (fun ls hl => ?_)
          refine r_aload_n C rfl (lv_at hl 1 rfl) dX2_firstError_55 ?_
          refine r_vKi (rest := []) C K9 (k_J0_isEmpty l g kt (plI (sgn TX n v3)) (by omega)) s_RX2_49 trivial (sk_recv C K9 (plI (sgn TX n v3)) (by omega)) hl.1 rfl ⟨by decide, by decide⟩ rfl (Nat.le_of_ble_eq_true rfl) ⟨Nat.le_refl 0, Nat.le_refl 0⟩ dX2_firstError_56 ?_
          refine r_ifP_eq (tgt := 64) C (by decide) dX2_firstError_59 (fun c6 => ?_) (fun c6 => ?_)
          · refine r_iinc (lv' := [(3, .int (iI (v3 + 1))), (2, .int (iI 0)), (1, .ref (kt.2.1 (plI (sgn TX n v3)))), (0, .ref t)]) C hl (q := 3) rfl (by decide) rfl dX2_firstError_64 (fun ls hl => ?_)
            refine r_goto (tgt := 7) C (by decide) dX2_firstError_67 ?_
            exact ih (plI (sgn TX n v3)) 0 (p + 1) 0 (v3 + 1) (by omega) (by omega) (by omega) (by omega) (by rw [hfe, show 121 - p = (121 - (p + 1)) + 1 by omega, sx_dropE i hi j (by omega), fe_n, if_pos (by omega), ← hv3, if_neg (by rw [← sxS_pl]; exact sxS_ne (plI_b _).2 (by assumption)), List.drop_zero, sxS_pl]) (by omega) (by omega) _ (lv_sub hl [3, 2, 1, 0] rfl)
          · refine r_iload_n C rfl (lv_at hl 3 rfl) dX2_firstError_62 ?_
            exact r_iretP C rfl rfl (congrArg iI (by rw [hfe, show 121 - p = (121 - (p + 1)) + 1 by omega, sx_dropE i hi j (by omega), fe_n, if_pos (by omega), ← hv3, if_pos (by rw [← sxS_pl]; exact sxS_e (plI_b _).2 (by assumption))])) dX2_firstError_63
        · refine r_aload_n C rfl (lv_at hl 0 rfl) dX2_firstError_23 ?_
          refine r_aload_n C rfl (lv_at hl 1 rfl) dX2_firstError_24 ?_
          refine r_iload_n C rfl (lv_at hl 2 rfl) dX2_firstError_25 ?_
          refine r_vKi (rest := [.ref t]) C K9 (k_J0_charAtX l g kt i (by omega) v2 j (by omega) (by omega)) s_RX2_38 trivial (sk_recv C K9 i (by omega)) hl.1 rfl ⟨by decide, by decide⟩ rfl (Nat.le_of_ble_eq_true rfl) ⟨Nat.le_refl 0, Nat.le_refl 0⟩ dX2_firstError_26 ?_
          have hsc := sx_c i hi j (by omega)
          refine r_iload_n C rfl (lv_at hl 3 rfl) dX2_firstError_29 ?_
          refine r_vPi (rest := []) C (k_X2_fits l g t n TX hTX hn (sxC i j) v3 (by omega) (by omega)) s_RX2_41 ⟨ht, hg⟩ (recv C (ci := 2) rfl ht.o) hl.1 rfl ⟨by decide, by decide⟩ rfl (Nat.le_of_ble_eq_true rfl) ⟨Nat.le_refl 0, Nat.le_refl 0⟩ dX2_firstError_30 ?_
          have b7 := ftP_b TX n (sxC i j) v3
          refine r_if_ne (tgt := 38) C (by decide) (by omega) dX2_firstError_33 (fun c8 => ?_) (fun c8 => ?_)
          · refine r_iinc (lv' := [(2, .int (iI (v2 + 1))), (0, .ref t), (1, .ref (kt.2.1 i)), (3, .int (iI v3))]) C hl (q := 2) rfl (by decide) rfl dX2_firstError_38 (fun ls hl => ?_)
            refine r_goto (tgt := 64) C (by decide) dX2_firstError_41 ?_
            refine r_iinc (lv' := [(3, .int (iI (v3 + 1))), (2, .int (iI (v2 + 1))), (0, .ref t), (1, .ref (kt.2.1 i))]) C hl (q := 3) rfl (by decide) rfl dX2_firstError_64 (fun ls hl => ?_)
            refine r_goto (tgt := 7) C (by decide) dX2_firstError_67 ?_
            exact ih i (j + 1) (p + 1) (v2 + 1) (v3 + 1) (by omega) (by omega) (by omega) (by omega) (by rw [hfe, show 121 - p = (121 - (p + 1)) + 1 by omega, sx_drop i hi j (by omega), fe_c, if_pos (by omega), ← hv3, if_neg (by assumption)]) (by omega) (by omega) _ (lv_sub hl [2, 3, 1, 0] rfl)
          · refine r_iload_n C rfl (lv_at hl 3 rfl) dX2_firstError_36 ?_
            exact r_iretP C rfl rfl (congrArg iI (by rw [hfe, show 121 - p = (121 - (p + 1)) + 1 by omega, sx_drop i hi j (by omega), fe_c, if_pos (by omega), ← hv3, if_pos (by assumption)])) dX2_firstError_37
  refine r_ldcX C K9 rfl 0 (by decide) rfl dX2_firstError_0 ?_
  refine r_astore_n (lv' := [(1, .ref (kt.2.1 0)), (0, .ref t)]) C rfl hl (by decide) rfl dX2_firstError_2 (fun ls hl => ?_)
  refine r_iconst C dX2_firstError_3 ?_
  refine r_istore_n (lv' := [(2, .int (iI 0)), (1, .ref (kt.2.1 0)), (0, .ref t)]) C rfl hl (by decide) rfl dX2_firstError_4 (fun ls hl => ?_)
  refine r_iconst C dX2_firstError_5 ?_
  refine r_istore_n (lv' := [(3, .int (iI 0)), (2, .int (iI 0)), (1, .ref (kt.2.1 0)), (0, .ref t)]) C rfl hl (by decide) rfl dX2_firstError_6 (fun ls hl => ?_)
  exact cut7 _ 0 0 0 0 0 (Nat.lt_succ_self _) (by decide) (by omega) (by omega) (by rfl) (by omega) (by omega) _ (lv_sub hl [3, 2, 1, 0] rfl)

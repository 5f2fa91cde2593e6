theorem s_RX4_66 : SiteS "LentRoomModel" 66 yX4_mostOf cX4_mostOf 4 (some .int) 2 := ⟨⟨q_912, q_913, q_34, q_914⟩, by decide, by decide, by decide +kernel⟩
theorem s_RX4_69 : SiteS "LentRoomModel" 69 yX4_lender cX4_lender 6 (some .int) 3 := ⟨⟨q_915, q_916, q_34, q_917⟩, by decide, by decide, by decide +kernel⟩
theorem s_RX4_76 : SiteS "LentRoomModel" 76 yX4_leastPage cX4_leastPage 5 (some .int) 2 := ⟨⟨q_918, q_919, q_34, q_920⟩, by decide, by decide, by decide +kernel⟩
theorem s_RX4_82 : SiteV "LentRoomModel" 82 "LentRoomModel" yX4_recall cX4_recall 7 none 2 := ⟨⟨q_908, q_910, q_22, q_34, q_911⟩, rfl, by decide, by decide, by decide +kernel⟩
theorem s_RX4_86 : SiteV "LentRoomModel" 86 "LentRoomModel" yX4_need cX4_need 5 (some .int) 2 := ⟨⟨q_892, q_894, q_21, q_34, q_895⟩, rfl, by decide, by decide, by decide +kernel⟩
theorem s_RX4_89 : SiteS "LentRoomModel" 89 yX4_mostFrom cX4_mostFrom 4 (some .int) 2 := ⟨⟨q_927, q_928, q_34, q_929⟩, by decide, by decide, by decide +kernel⟩
theorem s_RX4_121 : SiteS "LentRoomModel" 121 yX4_whyNotFloor cX4_whyNotFloor 3 (some .int) 3 := ⟨⟨q_934, q_935, q_34, q_936⟩, by decide, by decide, by decide +kernel⟩
theorem s_RX4_124 : SiteS "LentRoomModel" 124 yX4_lay cX4_lay 5 (some .int) 4 := ⟨⟨q_943, q_944, q_34, q_945⟩, by decide, by decide, by decide +kernel⟩
set_option maxHeartbeats 4000000 in
theorem k_X4_recall (l : Launch) (g : Gt) (mb : Nat) (M : Nat → Int) (hMb : ∀ k, Rg (M k)) (a : Nat) (F dl : Nat → Int) (T : Int) (hne : a ≠ mb) (hJ : J F dl T) (hT : T ≤ 970000) (x : Int) (s : Nat) (hx : x = (s : Int)) (hs : s < 5) (hn : (s : Int) < F 0) (hp : 0 < S5 F (7 + s)) : CH l yX4_recall cX4_recall 7 none 6 132 g [.ref mb, .ref a, .int (iI x)] (fun H => mdAt g mb M H ∧ aAt g a 262 F H) (none) (fun q => q = mb ∨ q = a) (fun H => mdAt g mb (setL M (recallL F s)) H ∧ aAt g a 262 (recall F s) H) := by
  refine ch_of "LentRoomModel" (by decide) rfl (Nat.le_of_ble_eq_true rfl) ?_
  intro zp ze zs zm za zb zt zc ls C hP hF hl
  obtain ⟨hm, hr⟩ := hP
  have hl : lv_has ls 7 [(0, .ref mb), (1, .ref a), (2, .int (iI x))] := hl
  have hS := hJ.S
  have hSm : Sm F := hS.m (by omega)
  have hZ := hJ.Z
  have hn5 := hJ.n
  refine r_aload_n C rfl (lv_at hl 1 rfl) dX4_recall_0 ?_
  refine r_iload_n C rfl (lv_at hl 2 rfl) dX4_recall_1 ?_
  refine r_sPi (rest := []) C (k_X4_mostOf l g a F hSm x s (by omega) (by omega)) s_RX4_66 hr hl.1 rfl ⟨by decide, by decide⟩ rfl (Nat.le_of_ble_eq_true rfl) ⟨Nat.le_refl 0, Nat.le_refl 0⟩ dX4_recall_2 ?_
  have b1 := mostOf_b hSm s
  obtain ⟨hJ1, hb5, hbn, hbs, hlo⟩ := hJ.rcl (by omega) hs hn hp
  refine r_istore_n (lv' := [(3, .int (iI ((mostOf F s : Nat) : Int))), (0, .ref mb), (1, .ref a), (2, .int (iI x))]) C rfl hl (by decide) rfl dX4_recall_5 (fun ls hl => ?_)
  refine r_iload_n C rfl (lv_at hl 0 rfl) dX4_recall_6 ?_
  refine r_sPi (rest := []) C (k_X4_at l g ((mostOf F s : Nat) : Int)) s_RX4_45 trivial hl.1 rfl ⟨by decide, by decide⟩ rfl (Nat.le_of_ble_eq_true rfl) ⟨Nat.le_refl 0, Nat.le_refl 0⟩ dX4_recall_7 ?_
  refine r_istore (lv' := [(4, .int (iI (2 + 52 * ((mostOf F s : Nat) : Int)))), (3, .int (iI ((mostOf F s : Nat) : Int))), (0, .ref mb), (1, .ref a), (2, .int (iI x))]) C hl (by decide) rfl dX4_recall_10 (fun ls hl => ?_)
  refine r_aload_n C rfl (lv_at hl 3 rfl) dX4_recall_12 ?_
  refine r_iload C (lv_at hl 0 rfl) dX4_recall_13 ?_
  refine r_bipush C (by decide) dX4_recall_15 ?_
  refine r_iadd C dX4_recall_17 ?_
  refine r_iload_n C rfl (lv_at hl 4 rfl) dX4_recall_18 ?_
  refine r_iadd C dX4_recall_19 ?_
  refine r_dup2 C rfl rfl dX4_recall_20 ?_
  refine r_iald (v := F (2 + 52 * (mostOf F s) + (7 + s))) C hr (2 + 52 * (mostOf F s) + (7 + s)) (by omega) (by omega) (by omega) rfl dX4_recall_21 ?_
  have b2 := hSm.1 (2 + 52 * (mostOf F s) + (7 + s)) (by omega)
  refine r_iconst C dX4_recall_22 ?_
  refine r_isub C dX4_recall_23 ?_
  refine r_iast C hr hF (Or.inr rfl) (2 + 52 * (mostOf F s) + (7 + s)) (by omega) (by omega) (by omega) dX4_recall_24 (fun H3 locs3 h3 ho3 hz3 hF => ?_)
  have hm := hm.kept (ho3 _ (by omega))
  have hr := h3
  refine r_aload_n C rfl (lv_at hl 3 rfl) dX4_recall_25 ?_
  refine r_iload_n C rfl (lv_at hl 4 rfl) dX4_recall_26 ?_
  refine r_sPi (rest := [.ref a]) C (k_X4_at l g x) s_RX4_45 trivial hl.1 rfl ⟨by decide, by decide⟩ rfl (Nat.le_of_ble_eq_true rfl) ⟨Nat.le_refl 0, Nat.le_refl 0⟩ dX4_recall_27 ?_
  refine r_iconst C dX4_recall_30 ?_
  refine r_iadd C dX4_recall_31 ?_
  refine r_dup2 C rfl rfl dX4_recall_32 ?_
  refine r_iald (v := (up F (2 + 52 * (mostOf F s) + (7 + s)) ((F (2 + 52 * (mostOf F s) + (7 + s))) - 1)) (2 + 52 * s + 4)) C hr (2 + 52 * s + 4) (by omega) (by omega) (by omega) rfl dX4_recall_33 ?_
  refine r_iconst C dX4_recall_34 ?_
  refine r_iadd C dX4_recall_35 ?_
  refine r_iast C hr hF (Or.inr rfl) (2 + 52 * s + 4) (by omega) (by omega) (by omega) dX4_recall_36 (fun H4 locs4 h4 ho4 hz4 hF => ?_)
  have hm := hm.kept (ho4 _ (by omega))
  have hr := h4
  have hr : aAt g a 262 (rc1 F s) H4 := hr
  have hSm1 : Sm (rc1 F s) := hJ1.S.m (by omega)
  have hZ1 := hJ1.Z
  have e0 : rc1 F s 0 = F 0 := rc1_0 F s
  refine r_aload_n C rfl (lv_at hl 3 rfl) dX4_recall_37 ?_
  refine r_iload_n C rfl (lv_at hl 1 rfl) dX4_recall_38 ?_
  refine r_iload_n C rfl (lv_at hl 4 rfl) dX4_recall_39 ?_
  refine r_sPi (rest := []) C (k_X4_lender l g a (rc1 F s) hSm1 hZ1 ((mostOf F s : Nat) : Int) x (mostOf F s) s (by omega) (by omega) (by omega) (by omega)) s_RX4_69 hr hl.1 rfl ⟨by decide, by decide⟩ rfl (Nat.le_of_ble_eq_true rfl) ⟨Nat.le_refl 0, Nat.le_refl 0⟩ dX4_recall_40 ?_
  have b5 := lender_b hSm1 (mostOf F s) s
  refine r_istore (lv' := [(5, .int (iI (lender (rc1 F s) (mostOf F s) s))), (4, .int (iI (2 + 52 * ((mostOf F s : Nat) : Int)))), (3, .int (iI ((mostOf F s : Nat) : Int))), (0, .ref mb), (1, .ref a), (2, .int (iI x))]) C hl (by decide) rfl dX4_recall_43 (fun ls hl => ?_)
  refine r_aload_n C rfl (lv_at hl 4 rfl) dX4_recall_45 ?_
  refine r_iload_n C rfl (lv_at hl 2 rfl) dX4_recall_46 ?_
  refine r_sPi (rest := []) C (k_X4_idle l g a (rc1 F s) hSm1 hZ1 ((mostOf F s : Nat) : Int) (mostOf F s) (by omega) (by omega)) s_RX4_63 hr hl.1 rfl ⟨by decide, by decide⟩ rfl (Nat.le_of_ble_eq_true rfl) ⟨Nat.le_refl 0, Nat.le_refl 0⟩ dX4_recall_47 ?_
  have b6 := idle_b hSm1 (mostOf F s) (by omega)
  refine r_if_le (tgt := 66) C (by decide) (by omega) dX4_recall_50 (fun c7 => ?_) (fun c7 => ?_)
  · refine r_aload_n C rfl (lv_at hl 4 rfl) dX4_recall_66 ?_
    refine r_sPi (rest := []) C (k_X4_free l g a (rc1 F s) hSm1 hZ1) s_RX4_72 hr hl.1 rfl ⟨by decide, by decide⟩ rfl (Nat.le_of_ble_eq_true rfl) ⟨Nat.le_refl 0, Nat.le_refl 0⟩ dX4_recall_67 ?_
    have b8 := free_b hSm1
    refine r_if_le (tgt := 86) C (by decide) (by omega) dX4_recall_70 (fun c9 => ?_) (fun c9 => ?_)
    · refine r_iload C (lv_at hl 0 rfl) dX4_recall_86 ?_
      refine r_iconst C dX4_recall_88 ?_
      refine r_icmp_eq (tgt := 109) C (by decide) (by omega) (by decide) dX4_recall_89 (fun c10 => ?_) (fun c10 => ?_)
      · refine r_aload_n C rfl (lv_at hl 4 rfl) dX4_recall_109 ?_
        refine r_iload_n C rfl (lv_at hl 2 rfl) dX4_recall_110 ?_
        refine r_sPi (rest := []) C (k_X4_leastPage l g a (rc1 F s) hSm1 ((mostOf F s : Nat) : Int) (mostOf F s) (by omega) (by omega)) s_RX4_76 hr hl.1 rfl ⟨by decide, by decide⟩ rfl (Nat.le_of_ble_eq_true rfl) ⟨Nat.le_refl 0, Nat.le_refl 0⟩ dX4_recall_111 ?_
        have b11 := least_b (rc1 F s) (mostOf F s)
        refine r_istore (lv' := [(6, .int (iI (least (rc1 F s) (mostOf F s)))), (5, .int (iI (lender (rc1 F s) (mostOf F s) s))), (4, .int (iI (2 + 52 * ((mostOf F s : Nat) : Int)))), (3, .int (iI ((mostOf F s : Nat) : Int))), (0, .ref mb), (1, .ref a), (2, .int (iI x))]) C hl (by decide) rfl dX4_recall_114 (fun ls hl => ?_)
        refine r_iload C (lv_at hl 0 rfl) dX4_recall_116 ?_
        refine r_iconst C dX4_recall_118 ?_
        refine r_icmp_eq (tgt := 133) C (by decide) (by omega) (by decide) dX4_recall_119 (fun c12 => ?_) (fun c12 => ?_)
        · refine r_aload_n C rfl (lv_at hl 5 rfl) dX4_recall_133 ?_
          refine r_iload C (lv_at hl 2 rfl) dX4_recall_134 ?_
          refine r_iconst C dX4_recall_136 ?_
          refine r_iadd C dX4_recall_137 ?_
          refine r_dup2 C rfl rfl dX4_recall_138 ?_
          refine r_iald (v := (rc1 F s) (2 + 52 * (mostOf F s) + 5)) C hr (2 + 52 * (mostOf F s) + 5) (by omega) (by omega) (by omega) rfl dX4_recall_139 ?_
          have b13 := hSm1.1 (2 + 52 * (mostOf F s) + 5) (by omega)
          refine r_iconst C dX4_recall_140 ?_
          refine r_iadd C dX4_recall_141 ?_
          refine r_iast C hr hF (Or.inr rfl) (2 + 52 * (mostOf F s) + 5) (by omega) (by omega) (by omega) dX4_recall_142 (fun H14 locs14 h14 ho14 hz14 hF => ?_)
          have hm := hm.kept (ho14 _ (by omega))
          have hr := h14
          refine r_aload_n C rfl (lv_at hl 4 rfl) dX4_recall_143 ?_
          refine r_aload_n C rfl (lv_at hl 4 rfl) dX4_recall_144 ?_
          refine r_get C (ci := 4) (v := .int (iI (M 3))) rfl uin4 hm.o 9 (by decide) q_794 rfl rfl dX4_recall_145 ?_
          have b15 := hMb 3
          refine r_iconst C dX4_recall_148 ?_
          refine r_icmp_ne (tgt := 156) C (by decide) (by omega) (by decide) dX4_recall_149 (fun c16 => ?_) (fun c16 => ?_)
          · refine r_aload_n C rfl (lv_at hl 4 rfl) dX4_recall_156 ?_
            refine r_get C (ci := 4) (v := .int (iI (M 3))) rfl uin4 hm.o 9 (by decide) q_794 rfl rfl dX4_recall_157 ?_
            have b17 := hMb 3
            refine r_put C (ci := 4) rfl uin4 tyX4_ok nmX4 hm.o hF (Or.inl rfl) 9 (by decide) q_794 rfl rfl rfl rfl (by show 9 < 13; decide) dX4_recall_160 (fun H18 locs18 h18 ho18 hz18 hF => ?_)
            have hr := hr.kept (ho18 _ (by omega))
            have hm : mdAt g mb (up M 3 (M 3)) H18 := hm.put3 h18 ho18
            exact r_vretH C rfl hF (by have e1 : recallL F s = (mostOf F s : Int) := (by unfold recallL rehouseL; rw [if_neg (by omega), if_neg (by omega), if_pos (by omega)]); exact ⟨by rw [e1]; unfold setL; rw [if_neg (by omega), if_neg (by omega)]; exact hm, by unfold recall rehouse lose; rw [if_neg (by omega), if_neg (by omega), if_pos (by omega), if_pos (by omega)]; exact hr⟩) dX4_recall_163
          · refine r_iload_n C rfl (lv_at hl 3 rfl) dX4_recall_152 ?_
            refine r_goto (tgt := 160) C (by decide) dX4_recall_153 ?_
            refine r_put C (ci := 4) rfl uin4 tyX4_ok nmX4 hm.o hF (Or.inl rfl) 9 (by decide) q_794 rfl rfl rfl rfl (by show 9 < 13; decide) dX4_recall_160 (fun H19 locs19 h19 ho19 hz19 hF => ?_)
            have hr := hr.kept (ho19 _ (by omega))
            have hm : mdAt g mb (up M 3 ((mostOf F s : Nat) : Int)) H19 := hm.put3 h19 ho19
            exact r_vretH C rfl hF (by have e1 : recallL F s = (mostOf F s : Int) := (by unfold recallL rehouseL; rw [if_neg (by omega), if_neg (by omega), if_pos (by omega)]); exact ⟨by rw [e1]; unfold setL; rw [if_neg (by omega), if_pos (by omega)]; exact hm, by unfold recall rehouse lose; rw [if_neg (by omega), if_neg (by omega), if_pos (by omega), if_pos (by omega)]; exact hr⟩) dX4_recall_163
        · refine r_aload_n C rfl (lv_at hl 5 rfl) dX4_recall_122 ?_
          refine r_iload C (lv_at hl 2 rfl) dX4_recall_123 ?_
          refine r_bipush C (by decide) dX4_recall_125 ?_
          refine r_iadd C dX4_recall_127 ?_
          refine r_iload C (lv_at hl 0 rfl) dX4_recall_128 ?_
          refine r_iadd C dX4_recall_130 ?_
          refine r_iconst C dX4_recall_131 ?_
          refine r_iast C hr hF (Or.inr rfl) (2 + 52 * (mostOf F s) + (12 + ((least (rc1 F s) (mostOf F s)).toNat))) (by omega) (by omega) (by omega) dX4_recall_132 (fun H20 locs20 h20 ho20 hz20 hF => ?_)
          have hm := hm.kept (ho20 _ (by omega))
          have hr := h20
          refine r_aload_n C rfl (lv_at hl 5 rfl) dX4_recall_133 ?_
          refine r_iload C (lv_at hl 2 rfl) dX4_recall_134 ?_
          refine r_iconst C dX4_recall_136 ?_
          refine r_iadd C dX4_recall_137 ?_
          refine r_dup2 C rfl rfl dX4_recall_138 ?_
          refine r_iald (v := (up (rc1 F s) (2 + 52 * (mostOf F s) + (12 + ((least (rc1 F s) (mostOf F s)).toNat))) 0) (2 + 52 * (mostOf F s) + 5)) C hr (2 + 52 * (mostOf F s) + 5) (by omega) (by omega) (by omega) rfl dX4_recall_139 ?_
          refine r_iconst C dX4_recall_140 ?_
          refine r_iadd C dX4_recall_141 ?_
          refine r_iast C hr hF (Or.inr rfl) (2 + 52 * (mostOf F s) + 5) (by omega) (by omega) (by omega) dX4_recall_142 (fun H21 locs21 h21 ho21 hz21 hF => ?_)
          have hm := hm.kept (ho21 _ (by omega))
          have hr := h21
          refine r_aload_n C rfl (lv_at hl 4 rfl) dX4_recall_143 ?_
          refine r_aload_n C rfl (lv_at hl 4 rfl) dX4_recall_144 ?_
          refine r_get C (ci := 4) (v := .int (iI (M 3))) rfl uin4 hm.o 9 (by decide) q_794 rfl rfl dX4_recall_145 ?_
          have b22 := hMb 3
          refine r_iconst C dX4_recall_148 ?_
          refine r_icmp_ne (tgt := 156) C (by decide) (by omega) (by decide) dX4_recall_149 (fun c23 => ?_) (fun c23 => ?_)
          · refine r_aload_n C rfl (lv_at hl 4 rfl) dX4_recall_156 ?_
            refine r_get C (ci := 4) (v := .int (iI (M 3))) rfl uin4 hm.o 9 (by decide) q_794 rfl rfl dX4_recall_157 ?_
            have b24 := hMb 3
            refine r_put C (ci := 4) rfl uin4 tyX4_ok nmX4 hm.o hF (Or.inl rfl) 9 (by decide) q_794 rfl rfl rfl rfl (by show 9 < 13; decide) dX4_recall_160 (fun H25 locs25 h25 ho25 hz25 hF => ?_)
            have hr := hr.kept (ho25 _ (by omega))
            have hm : mdAt g mb (up M 3 (M 3)) H25 := hm.put3 h25 ho25
            exact r_vretH C rfl hF (by have e1 : recallL F s = (mostOf F s : Int) := (by unfold recallL rehouseL; rw [if_neg (by omega), if_neg (by omega), if_pos (by omega)]); exact ⟨by rw [e1]; unfold setL; rw [if_neg (by omega), if_neg (by omega)]; exact hm, by unfold recall rehouse lose; rw [if_neg (by omega), if_neg (by omega), if_pos (by omega), if_neg (by omega)]; exact hr⟩) dX4_recall_163
          · refine r_iload_n C rfl (lv_at hl 3 rfl) dX4_recall_152 ?_
            refine r_goto (tgt := 160) C (by decide) dX4_recall_153 ?_
            refine r_put C (ci := 4) rfl uin4 tyX4_ok nmX4 hm.o hF (Or.inl rfl) 9 (by decide) q_794 rfl rfl rfl rfl (by show 9 < 13; decide) dX4_recall_160 (fun H26 locs26 h26 ho26 hz26 hF => ?_)
            have hr := hr.kept (ho26 _ (by omega))
            have hm : mdAt g mb (up M 3 ((mostOf F s : Nat) : Int)) H26 := hm.put3 h26 ho26
            exact r_vretH C rfl hF (by have e1 : recallL F s = (mostOf F s : Int) := (by unfold recallL rehouseL; rw [if_neg (by omega), if_neg (by omega), if_pos (by omega)]); exact ⟨by rw [e1]; unfold setL; rw [if_neg (by omega), if_pos (by omega)]; exact hm, by unfold recall rehouse lose; rw [if_neg (by omega), if_neg (by omega), if_pos (by omega), if_neg (by omega)]; exact hr⟩) dX4_recall_163
      · refine r_aload_n C rfl (lv_at hl 4 rfl) dX4_recall_92 ?_
        refine r_iload C (lv_at hl 1 rfl) dX4_recall_93 ?_
        refine r_bipush C (by decide) dX4_recall_95 ?_
        refine r_iadd C dX4_recall_97 ?_
        refine r_iload C (lv_at hl 0 rfl) dX4_recall_98 ?_
        refine r_iadd C dX4_recall_100 ?_
        refine r_dup2 C rfl rfl dX4_recall_101 ?_
        refine r_iald (v := (rc1 F s) (2 + 52 * (mostOf F s) + (7 + ((lender (rc1 F s) (mostOf F s) s).toNat)))) C hr (2 + 52 * (mostOf F s) + (7 + ((lender (rc1 F s) (mostOf F s) s).toNat))) (by omega) (by omega) (by omega) rfl dX4_recall_102 ?_
        have b27 := hSm1.1 (2 + 52 * (mostOf F s) + (7 + ((lender (rc1 F s) (mostOf F s) s).toNat))) (by omega)
        refine r_iconst C dX4_recall_103 ?_
        refine r_iadd C dX4_recall_104 ?_
        refine r_iast C hr hF (Or.inr rfl) (2 + 52 * (mostOf F s) + (7 + ((lender (rc1 F s) (mostOf F s) s).toNat))) (by omega) (by omega) (by omega) dX4_recall_105 (fun H28 locs28 h28 ho28 hz28 hF => ?_)
        have hm := hm.kept (ho28 _ (by omega))
        have hr := h28
        refine r_goto (tgt := 163) C (by decide) dX4_recall_106 ?_
        exact r_vretH C rfl hF (by have e1 : recallL F s = -1 := (by unfold recallL rehouseL; rw [if_neg (by omega), if_neg (by omega), if_neg (by omega)]); exact ⟨by rw [e1, setL_n]; exact hm, by unfold recall rehouse; rw [if_neg (by omega), if_neg (by omega), if_neg (by omega)]; exact hr⟩) dX4_recall_163
    · refine r_aload_n C rfl (lv_at hl 4 rfl) dX4_recall_73 ?_
      refine r_iload C (lv_at hl 1 rfl) dX4_recall_74 ?_
      refine r_iconst C dX4_recall_76 ?_
      refine r_iadd C dX4_recall_77 ?_
      refine r_dup2 C rfl rfl dX4_recall_78 ?_
      refine r_iald (v := (rc1 F s) (2 + 52 * (mostOf F s) + 3)) C hr (2 + 52 * (mostOf F s) + 3) (by omega) (by omega) (by omega) rfl dX4_recall_79 ?_
      have b29 := hSm1.1 (2 + 52 * (mostOf F s) + 3) (by omega)
      refine r_iconst C dX4_recall_80 ?_
      refine r_iadd C dX4_recall_81 ?_
      refine r_iast C hr hF (Or.inr rfl) (2 + 52 * (mostOf F s) + 3) (by omega) (by omega) (by omega) dX4_recall_82 (fun H30 locs30 h30 ho30 hz30 hF => ?_)
      have hm := hm.kept (ho30 _ (by omega))
      have hr := h30
      refine r_goto (tgt := 163) C (by decide) dX4_recall_83 ?_
      exact r_vretH C rfl hF (by have e1 : recallL F s = -1 := (by unfold recallL rehouseL; rw [if_neg (by omega), if_pos (by omega)]); exact ⟨by rw [e1, setL_n]; exact hm, by unfold recall rehouse; rw [if_neg (by omega), if_pos (by omega)]; exact hr⟩) dX4_recall_163
  · refine r_aload_n C rfl (lv_at hl 4 rfl) dX4_recall_53 ?_
    refine r_iload C (lv_at hl 1 rfl) dX4_recall_54 ?_
    refine r_iconst C dX4_recall_56 ?_
    refine r_iadd C dX4_recall_57 ?_
    refine r_dup2 C rfl rfl dX4_recall_58 ?_
    refine r_iald (v := (rc1 F s) (2 + 52 * (mostOf F s) + 2)) C hr (2 + 52 * (mostOf F s) + 2) (by omega) (by omega) (by omega) rfl dX4_recall_59 ?_
    have b31 := hSm1.1 (2 + 52 * (mostOf F s) + 2) (by omega)
    refine r_iconst C dX4_recall_60 ?_
    refine r_iadd C dX4_recall_61 ?_
    refine r_iast C hr hF (Or.inr rfl) (2 + 52 * (mostOf F s) + 2) (by omega) (by omega) (by omega) dX4_recall_62 (fun H32 locs32 h32 ho32 hz32 hF => ?_)
    have hm := hm.kept (ho32 _ (by omega))
    have hr := h32
    refine r_goto (tgt := 163) C (by decide) dX4_recall_63 ?_
    exact r_vretH C rfl hF (by have e1 : recallL F s = -1 := (by unfold recallL rehouseL; rw [if_pos (by omega)]); exact ⟨by rw [e1, setL_n]; exact hm, by unfold recall rehouse; rw [if_pos (by omega)]; exact hr⟩) dX4_recall_163
set_option maxHeartbeats 4000000 in
theorem k_X4_need (l : Launch) (g : Gt) (mb : Nat) (M : Nat → Int) (hMb : ∀ k, Rg (M k)) (a : Nat) (F dl : Nat → Int) (T : Int) (hne : a ≠ mb) (hJ : J F dl T) (hT : T ≤ 970000) (x : Int) (s : Nat) (hx : x = (s : Int)) (hs : s < 5) (hn : (s : Int) < F 0) : CH l yX4_need cX4_need 5 (some .int) 7 158 g [.ref mb, .ref a, .int (iI x)] (fun H => mdAt g mb M H ∧ aAt g a 262 F H) (some (.int (iI (needR F s)))) (fun q => q = mb ∨ q = a) (fun H => mdAt g mb (setL M (needL F s)) H ∧ aAt g a 262 (needF F s) H) := by
  refine ch_of "LentRoomModel" (by decide) rfl (Nat.le_of_ble_eq_true rfl) ?_
  intro zp ze zs zm za zb zt zc ls C hP hF hl
  obtain ⟨hm, hr⟩ := hP
  have hl : lv_has ls 5 [(0, .ref mb), (1, .ref a), (2, .int (iI x))] := hl
  have hS := hJ.S
  have hSm : Sm F := hS.m (by omega)
  have hZ := hJ.Z
  have hn5 := hJ.n
  have hid : idle F s = F (2 + 52 * s + 0) - F (2 + 52 * s + 2) - S5 F (7 + s) := rfl
  refine r_aload_n C rfl (lv_at hl 1 rfl) dX4_need_0 ?_
  refine r_iload_n C rfl (lv_at hl 2 rfl) dX4_need_1 ?_
  refine r_sPi (rest := []) C (k_X4_taken l g a F hSm x s (by omega) (by omega)) s_RX4_79 hr hl.1 rfl ⟨by decide, by decide⟩ rfl (Nat.le_of_ble_eq_true rfl) ⟨Nat.le_refl 0, Nat.le_refl 0⟩ dX4_need_2 ?_
  have b1 := tk_b hSm s (by omega)
  refine r_aload_n C rfl (lv_at hl 1 rfl) dX4_need_5 ?_
  refine r_iload_n C rfl (lv_at hl 2 rfl) dX4_need_6 ?_
  refine r_iconst C dX4_need_7 ?_
  refine r_sPi (rest := [.int (iI (tk F s))]) C (k_X4_of l g a F hSm x 1 s 1 (by omega) (by omega) (by omega) (by omega)) s_RX4_49 hr hl.1 rfl ⟨by decide, by decide⟩ rfl (Nat.le_of_ble_eq_true rfl) ⟨Nat.le_refl 0, Nat.le_refl 0⟩ dX4_need_8 ?_
  have b2 := hSm.f s 1 (by omega) (by omega)
  refine r_icmp_lt (tgt := 16) C (by decide) (by omega) (by omega) dX4_need_11 (fun c3 => ?_) (fun c3 => ?_)
  · refine r_iload_n C rfl (lv_at hl 2 rfl) dX4_need_16 ?_
    refine r_sPi (rest := []) C (k_X4_at l g x) s_RX4_45 trivial hl.1 rfl ⟨by decide, by decide⟩ rfl (Nat.le_of_ble_eq_true rfl) ⟨Nat.le_refl 0, Nat.le_refl 0⟩ dX4_need_17 ?_
    refine r_istore_n (lv' := [(3, .int (iI (2 + 52 * x))), (0, .ref mb), (1, .ref a), (2, .int (iI x))]) C rfl hl (by decide) rfl dX4_need_20 (fun ls hl => ?_)
    refine r_aload_n C rfl (lv_at hl 2 rfl) dX4_need_21 ?_
    refine r_iload_n C rfl (lv_at hl 3 rfl) dX4_need_22 ?_
    refine r_iconst C dX4_need_23 ?_
    refine r_sPi (rest := []) C (k_X4_of l g a F hSm x 2 s 2 (by omega) (by omega) (by omega) (by omega)) s_RX4_49 hr hl.1 rfl ⟨by decide, by decide⟩ rfl (Nat.le_of_ble_eq_true rfl) ⟨Nat.le_refl 0, Nat.le_refl 0⟩ dX4_need_24 ?_
    have b4 := hSm.f s 2 (by omega) (by omega)
    refine r_aload_n C rfl (lv_at hl 2 rfl) dX4_need_27 ?_
    refine r_iload_n C rfl (lv_at hl 3 rfl) dX4_need_28 ?_
    refine r_iconst C dX4_need_29 ?_
    refine r_sPi (rest := [.int (iI (F (2 + 52 * s + 2)))]) C (k_X4_of l g a F hSm x 0 s 0 (by omega) (by omega) (by omega) (by omega)) s_RX4_49 hr hl.1 rfl ⟨by decide, by decide⟩ rfl (Nat.le_of_ble_eq_true rfl) ⟨Nat.le_refl 0, Nat.le_refl 0⟩ dX4_need_30 ?_
    have b5 := hSm.f s 0 (by omega) (by omega)
    refine r_icmp_ge (tgt := 82) C (by decide) (by omega) (by omega) dX4_need_33 (fun c6 => ?_) (fun c6 => ?_)
    · refine r_aload_n C rfl (lv_at hl 2 rfl) dX4_need_82 ?_
      refine r_sPi (rest := []) C (k_X4_free l g a F hSm hZ) s_RX4_72 hr hl.1 rfl ⟨by decide, by decide⟩ rfl (Nat.le_of_ble_eq_true rfl) ⟨Nat.le_refl 0, Nat.le_refl 0⟩ dX4_need_83 ?_
      have b7 := free_b hSm
      refine r_if_le (tgt := 100) C (by decide) (by omega) dX4_need_86 (fun c8 => ?_) (fun c8 => ?_)
      · refine r_aload_n C rfl (lv_at hl 2 rfl) dX4_need_100 ?_
        refine r_iload_n C rfl (lv_at hl 3 rfl) dX4_need_101 ?_
        refine r_iload_n C rfl (lv_at hl 3 rfl) dX4_need_102 ?_
        refine r_sPi (rest := []) C (k_X4_lender l g a F hSm hZ x x s s (by omega) (by omega) (by omega) (by omega)) s_RX4_69 hr hl.1 rfl ⟨by decide, by decide⟩ rfl (Nat.le_of_ble_eq_true rfl) ⟨Nat.le_refl 0, Nat.le_refl 0⟩ dX4_need_103 ?_
        have b9 := lender_b hSm s s
        refine r_istore (lv' := [(4, .int (iI (lender F s s))), (3, .int (iI (2 + 52 * x))), (0, .ref mb), (1, .ref a), (2, .int (iI x))]) C hl (by decide) rfl dX4_need_106 (fun ls hl => ?_)
        refine r_iload C (lv_at hl 0 rfl) dX4_need_108 ?_
        refine r_iconst C dX4_need_110 ?_
        refine r_icmp_ne (tgt := 116) C (by decide) (by omega) (by decide) dX4_need_111 (fun c10 => ?_) (fun c10 => ?_)
        · refine r_aload_n C rfl (lv_at hl 3 rfl) dX4_need_116 ?_
          refine r_iload_n C rfl (lv_at hl 1 rfl) dX4_need_117 ?_
          refine r_bipush C (by decide) dX4_need_118 ?_
          refine r_iadd C dX4_need_120 ?_
          refine r_iload C (lv_at hl 0 rfl) dX4_need_121 ?_
          refine r_iadd C dX4_need_123 ?_
          refine r_dup2 C rfl rfl dX4_need_124 ?_
          refine r_iald (v := F (2 + 52 * s + (7 + ((lender F s s).toNat)))) C hr (2 + 52 * s + (7 + ((lender F s s).toNat))) (by omega) (by omega) (by omega) rfl dX4_need_125 ?_
          have b11 := hSm.1 (2 + 52 * s + (7 + ((lender F s s).toNat))) (by omega)
          refine r_iconst C dX4_need_126 ?_
          refine r_iadd C dX4_need_127 ?_
          refine r_iast C hr hF (Or.inr rfl) (2 + 52 * s + (7 + ((lender F s s).toNat))) (by omega) (by omega) (by omega) dX4_need_128 (fun H12 locs12 h12 ho12 hz12 hF => ?_)
          have hm := hm.kept (ho12 _ (by omega))
          have hr := h12
          refine r_iconst C dX4_need_129 ?_
          exact r_iretH C rfl rfl (congrArg iI (by unfold needR; rw [if_neg (by omega), if_neg (by omega), if_neg (by omega), if_neg (by omega)])) hF (by have e1 : needL F s = -1 := (by unfold needL; rw [if_neg (by omega), if_neg (by omega)]); exact ⟨by rw [e1, setL_n]; exact hm, by unfold needF; rw [if_neg (by omega), if_neg (by omega), if_neg (by omega), if_neg (by omega)]; exact hr⟩) dX4_need_130
        · refine r_iconst C dX4_need_114 ?_
          exact r_iretH C rfl rfl (congrArg iI (by unfold needR; rw [if_neg (by omega), if_neg (by omega), if_neg (by omega), if_pos (by omega)])) hF (by have e1 : needL F s = -1 := (by unfold needL; rw [if_neg (by omega), if_neg (by omega)]); exact ⟨by rw [e1, setL_n]; exact hm, by unfold needF; rw [if_neg (by omega), if_neg (by omega), if_neg (by omega), if_pos (by omega)]; exact hr⟩) dX4_need_115
      · refine r_aload_n C rfl (lv_at hl 2 rfl) dX4_need_89 ?_
        refine r_iload_n C rfl (lv_at hl 0 rfl) dX4_need_90 ?_
        refine r_iconst C dX4_need_91 ?_
        refine r_iadd C dX4_need_92 ?_
        refine r_dup2 C rfl rfl dX4_need_93 ?_
        refine r_iald (v := F (2 + 52 * s + 3)) C hr (2 + 52 * s + 3) (by omega) (by omega) (by omega) rfl dX4_need_94 ?_
        have b13 := hSm.1 (2 + 52 * s + 3) (by omega)
        refine r_iconst C dX4_need_95 ?_
        refine r_iadd C dX4_need_96 ?_
        refine r_iast C hr hF (Or.inr rfl) (2 + 52 * s + 3) (by omega) (by omega) (by omega) dX4_need_97 (fun H14 locs14 h14 ho14 hz14 hF => ?_)
        have hm := hm.kept (ho14 _ (by omega))
        have hr := h14
        refine r_iconst C dX4_need_98 ?_
        exact r_iretH C rfl rfl (congrArg iI (by unfold needR; rw [if_neg (by omega), if_neg (by omega), if_pos (by omega)])) hF (by have e1 : needL F s = -1 := (by unfold needL; rw [if_neg (by omega), if_neg (by omega)]); exact ⟨by rw [e1, setL_n]; exact hm, by unfold needF; rw [if_neg (by omega), if_neg (by omega), if_pos (by omega)]; exact hr⟩) dX4_need_99
    · refine r_aload_n C rfl (lv_at hl 2 rfl) dX4_need_36 ?_
      refine r_iload_n C rfl (lv_at hl 3 rfl) dX4_need_37 ?_
      refine r_sPi (rest := []) C (k_X4_idle l g a F hSm hZ x s (by omega) (by omega)) s_RX4_63 hr hl.1 rfl ⟨by decide, by decide⟩ rfl (Nat.le_of_ble_eq_true rfl) ⟨Nat.le_refl 0, Nat.le_refl 0⟩ dX4_need_38 ?_
      have b15 := idle_b hSm s (by omega)
      refine r_if_le (tgt := 48) C (by decide) (by omega) dX4_need_41 (fun c16 => ?_) (fun c16 => ?_)
      · refine r_iconst C dX4_need_48 ?_
        refine r_istore (lv' := [(4, .int (iI 0)), (3, .int (iI (2 + 52 * x))), (0, .ref mb), (1, .ref a), (2, .int (iI x))]) C hl (by decide) rfl dX4_need_49 (fun ls hl => ?_)
        refine r_iload C (lv_at hl 0 rfl) dX4_need_51 ?_
        refine r_if_ne (tgt := 62) C (by decide) (by decide) dX4_need_53 (fun c17 => ?_) (fun c17 => ?_)
        · exact absurd c17 (by decide)
        · refine r_aload_n C rfl (lv_at hl 2 rfl) dX4_need_56 ?_
          refine r_aload_n C rfl (lv_at hl 3 rfl) dX4_need_57 ?_
          refine r_iload_n C rfl (lv_at hl 4 rfl) dX4_need_58 ?_
          refine r_vHn (rest := []) C (k_X4_recall l g mb M hMb a F dl T (by omega) hJ (by omega) x s (by omega) (by omega) (by omega) (by omega)) s_RX4_82 ⟨hm, hr⟩ hF (fun _ h => h) (recv C (ci := 4) rfl hm.o) hl.1 rfl ⟨by decide, by decide⟩ rfl (Nat.le_of_ble_eq_true rfl) ⟨Nat.le_refl 0, Nat.le_refl 0⟩ dX4_need_59 (fun H18 locs18 h18 ho18 hz18 hF => ?_)
          obtain ⟨hm, hr⟩ := h18
          refine r_aload_n C rfl (lv_at hl 3 rfl) dX4_need_62 ?_
          refine r_iload_n C rfl (lv_at hl 1 rfl) dX4_need_63 ?_
          refine r_iconst C dX4_need_64 ?_
          refine r_iadd C dX4_need_65 ?_
          refine r_dup2 C rfl rfl dX4_need_66 ?_
          refine r_iald (v := (recall F s) (2 + 52 * s + 2)) C hr (2 + 52 * s + 2) (by omega) (by omega) (by omega) rfl dX4_need_67 ?_
          refine r_iconst C dX4_need_68 ?_
          refine r_iadd C dX4_need_69 ?_
          refine r_iast C hr hF (Or.inr rfl) (2 + 52 * s + 2) (by omega) (by omega) (by omega) dX4_need_70 (fun H19 locs19 h19 ho19 hz19 hF => ?_)
          have hm := hm.kept (ho19 _ (by omega))
          have hr := h19
          refine r_iload C (lv_at hl 0 rfl) dX4_need_71 ?_
          refine r_if_eq (tgt := 80) C (by decide) (by decide) dX4_need_73 (fun c20 => ?_) (fun c20 => ?_)
          · refine r_iconst C dX4_need_80 ?_
            exact r_iretH C rfl rfl (congrArg iI (by unfold needR; rw [if_neg (by omega), if_pos (by omega), if_neg (by omega)])) hF (by have e1 : needL F s = recallL F s := (by unfold needL; rw [if_neg (by omega), if_pos (by omega), if_neg (by omega)]); exact ⟨by rw [e1]; exact hm, by unfold needF; rw [if_neg (by omega), if_pos (by omega), if_neg (by omega)]; exact hr⟩) dX4_need_81
          · exact absurd c20 (by decide)
      · refine r_iconst C dX4_need_44 ?_
        refine r_goto (tgt := 49) C (by decide) dX4_need_45 ?_
        refine r_istore (lv' := [(4, .int (iI 1)), (3, .int (iI (2 + 52 * x))), (0, .ref mb), (1, .ref a), (2, .int (iI x))]) C hl (by decide) rfl dX4_need_49 (fun ls hl => ?_)
        refine r_iload C (lv_at hl 0 rfl) dX4_need_51 ?_
        refine r_if_ne (tgt := 62) C (by decide) (by decide) dX4_need_53 (fun c21 => ?_) (fun c21 => ?_)
        · refine r_aload_n C rfl (lv_at hl 3 rfl) dX4_need_62 ?_
          refine r_iload_n C rfl (lv_at hl 1 rfl) dX4_need_63 ?_
          refine r_iconst C dX4_need_64 ?_
          refine r_iadd C dX4_need_65 ?_
          refine r_dup2 C rfl rfl dX4_need_66 ?_
          refine r_iald (v := F (2 + 52 * s + 2)) C hr (2 + 52 * s + 2) (by omega) (by omega) (by omega) rfl dX4_need_67 ?_
          have b22 := hSm.1 (2 + 52 * s + 2) (by omega)
          refine r_iconst C dX4_need_68 ?_
          refine r_iadd C dX4_need_69 ?_
          refine r_iast C hr hF (Or.inr rfl) (2 + 52 * s + 2) (by omega) (by omega) (by omega) dX4_need_70 (fun H23 locs23 h23 ho23 hz23 hF => ?_)
          have hm := hm.kept (ho23 _ (by omega))
          have hr := h23
          refine r_iload C (lv_at hl 0 rfl) dX4_need_71 ?_
          refine r_if_eq (tgt := 80) C (by decide) (by decide) dX4_need_73 (fun c24 => ?_) (fun c24 => ?_)
          · exact absurd c24 (by decide)
          · refine r_iconst C dX4_need_76 ?_
            refine r_goto (tgt := 81) C (by decide) dX4_need_77 ?_
            exact r_iretH C rfl rfl (congrArg iI (by unfold needR; rw [if_neg (by omega), if_pos (by omega), if_pos (by omega)])) hF (by have e1 : needL F s = -1 := (by unfold needL; rw [if_neg (by omega), if_pos (by omega), if_pos (by omega)]); exact ⟨by rw [e1, setL_n]; exact hm, by unfold needF; rw [if_neg (by omega), if_pos (by omega), if_pos (by omega)]; exact hr⟩) dX4_need_81
        · exact absurd c21 (by decide)
  · refine r_iconst C dX4_need_14 ?_
    exact r_iretH C rfl rfl (congrArg iI (by unfold needR; rw [if_pos (by omega)])) hF (by have e1 : needL F s = -1 := (by unfold needL; rw [if_pos (by omega)]); exact ⟨by rw [e1, setL_n]; exact hm, by unfold needF; rw [if_pos (by omega)]; exact hr⟩) dX4_need_15
set_option maxHeartbeats 4000000 in
theorem k_X4_writeOn (l : Launch) (g : Gt) (mb : Nat) (M : Nat → Int) (hMb : ∀ k, Rg (M k)) (a : Nat) (F dl : Nat → Int) (T : Int) (hne : a ≠ mb) (hJ : J F dl T) (hT : T ≤ 970000) (x : Int) (s : Nat) (hx : x = (s : Int)) (hs : s < 5) (hn : (s : Int) < F 0) (p : Int) (q : Nat) (hp : p = (q : Int)) (hq : q < 40) : CH l yX4_writeOn cX4_writeOn 6 (some .int) 8 182 g [.ref mb, .ref a, .int (iI x), .int (iI p)] (fun H => mdAt g mb M H ∧ aAt g a 262 F H) (some (.int (iI (wrR F s q)))) (fun q => q = mb ∨ q = a) (fun H => mdAt g mb (setL M (wrL F s q)) H ∧ aAt g a 262 (wrF F s q) H) := by
  refine ch_of "LentRoomModel" (by decide) rfl (Nat.le_of_ble_eq_true rfl) ?_
  intro zp ze zs zm za zb zt zc ls C hP hF hl
  obtain ⟨hm, hr⟩ := hP
  have hl : lv_has ls 6 [(0, .ref mb), (1, .ref a), (2, .int (iI x)), (3, .int (iI p))] := hl
  have hS := hJ.S
  have hSm : Sm F := hS.m (by omega)
  have hZ := hJ.Z
  have hn5 := hJ.n
  refine r_iload_n C rfl (lv_at hl 2 rfl) dX4_writeOn_0 ?_
  refine r_sPi (rest := []) C (k_X4_at l g x) s_RX4_45 trivial hl.1 rfl ⟨by decide, by decide⟩ rfl (Nat.le_of_ble_eq_true rfl) ⟨Nat.le_refl 0, Nat.le_refl 0⟩ dX4_writeOn_1 ?_
  refine r_bipush C (by decide) dX4_writeOn_4 ?_
  refine r_iadd C dX4_writeOn_6 ?_
  refine r_iload_n C rfl (lv_at hl 3 rfl) dX4_writeOn_7 ?_
  refine r_iadd C dX4_writeOn_8 ?_
  refine r_istore (lv' := [(4, .int (iI (((2 + 52 * x) + 12) + p))), (0, .ref mb), (1, .ref a), (2, .int (iI x)), (3, .int (iI p))]) C hl (by decide) rfl dX4_writeOn_9 (fun ls hl => ?_)
  refine r_aload_n C rfl (lv_at hl 2 rfl) dX4_writeOn_11 ?_
  refine r_iload C (lv_at hl 0 rfl) dX4_writeOn_12 ?_
  refine r_iald (v := F (2 + 52 * s + (12 + q))) C hr (2 + 52 * s + (12 + q)) (by omega) (by omega) (by omega) rfl dX4_writeOn_14 ?_
  have b1 := hSm.1 (2 + 52 * s + (12 + q)) (by omega)
  refine r_if_le (tgt := 22) C (by decide) (by omega) dX4_writeOn_15 (fun c2 => ?_) (fun c2 => ?_)
  · refine r_aload_n C rfl (lv_at hl 1 rfl) dX4_writeOn_22 ?_
    refine r_aload_n C rfl (lv_at hl 2 rfl) dX4_writeOn_23 ?_
    refine r_iload_n C rfl (lv_at hl 3 rfl) dX4_writeOn_24 ?_
    refine r_vHi (rest := []) C (k_X4_need l g mb M hMb a F dl T (by omega) hJ (by omega) x s (by omega) (by omega) (by omega)) s_RX4_86 ⟨hm, hr⟩ hF (fun _ h => h) (recv C (ci := 4) rfl hm.o) hl.1 rfl ⟨by decide, by decide⟩ rfl (Nat.le_of_ble_eq_true rfl) ⟨Nat.le_refl 0, Nat.le_refl 0⟩ dX4_writeOn_25 (fun H4 locs4 h4 ho4 hz4 hF => ?_)
    obtain ⟨hm, hr⟩ := h4
    have b3 := needR_b F s
    refine r_istore (lv' := [(5, .int (iI (needR F s))), (4, .int (iI (((2 + 52 * x) + 12) + p))), (0, .ref mb), (1, .ref a), (2, .int (iI x)), (3, .int (iI p))]) C hl (by decide) rfl dX4_writeOn_28 (fun ls hl => ?_)
    refine r_iload C (lv_at hl 0 rfl) dX4_writeOn_30 ?_
    refine r_iconst C dX4_writeOn_32 ?_
    refine r_icmp_ne (tgt := 52) C (by decide) (by omega) (by decide) dX4_writeOn_33 (fun c5 => ?_) (fun c5 => ?_)
    · refine r_aload_n C rfl (lv_at hl 3 rfl) dX4_writeOn_52 ?_
      refine r_iconst C dX4_writeOn_53 ?_
      refine r_dup2 C rfl rfl dX4_writeOn_54 ?_
      refine r_iald (v := (needF F s) 1) C hr 1 rfl (by omega) (by omega) rfl dX4_writeOn_55 ?_
      refine r_iconst C dX4_writeOn_56 ?_
      refine r_iadd C dX4_writeOn_57 ?_
      refine r_iast C hr hF (Or.inr rfl) 1 rfl (by omega) (by omega) dX4_writeOn_58 (fun H6 locs6 h6 ho6 hz6 hF => ?_)
      have hm := hm.kept (ho6 _ (by omega))
      have hr := h6
      refine r_aload_n C rfl (lv_at hl 3 rfl) dX4_writeOn_59 ?_
      refine r_iload C (lv_at hl 1 rfl) dX4_writeOn_60 ?_
      refine r_aload_n C rfl (lv_at hl 3 rfl) dX4_writeOn_62 ?_
      refine r_iconst C dX4_writeOn_63 ?_
      refine r_iald (v := (up (needF F s) 1 (((needF F s) 1) + 1)) 1) C hr 1 rfl (by omega) (by omega) rfl dX4_writeOn_64 ?_
      have er7 : (up (needF F s) 1 (((needF F s) 1) + 1)) 1 = ((needF F s) 1) + 1 := (by rw [up_s])
      rw [er7]
      refine r_iast C hr hF (Or.inr rfl) (2 + 52 * s + (12 + q)) (by omega) (by omega) (by omega) dX4_writeOn_65 (fun H8 locs8 h8 ho8 hz8 hF => ?_)
      have hm := hm.kept (ho8 _ (by omega))
      have hr := h8
      refine r_iload C (lv_at hl 0 rfl) dX4_writeOn_66 ?_
      exact r_iretH C rfl rfl (congrArg iI (by unfold wrR; rw [if_neg (by omega)])) hF (by have e1 : wrL F s q = needL F s := (by unfold wrL; rw [if_neg (by omega)]); exact ⟨by rw [e1]; exact hm, by unfold wrF; rw [if_neg (by omega), if_neg (by omega)]; exact hr⟩) dX4_writeOn_68
    · refine r_aload_n C rfl (lv_at hl 3 rfl) dX4_writeOn_36 ?_
      refine r_iload_n C rfl (lv_at hl 4 rfl) dX4_writeOn_37 ?_
      refine r_sPi (rest := [.ref a]) C (k_X4_at l g x) s_RX4_45 trivial hl.1 rfl ⟨by decide, by decide⟩ rfl (Nat.le_of_ble_eq_true rfl) ⟨Nat.le_refl 0, Nat.le_refl 0⟩ dX4_writeOn_38 ?_
      refine r_bipush C (by decide) dX4_writeOn_41 ?_
      refine r_iadd C dX4_writeOn_43 ?_
      refine r_dup2 C rfl rfl dX4_writeOn_44 ?_
      refine r_iald (v := (needF F s) (2 + 52 * s + 6)) C hr (2 + 52 * s + 6) (by omega) (by omega) (by omega) rfl dX4_writeOn_45 ?_
      refine r_iconst C dX4_writeOn_46 ?_
      refine r_iadd C dX4_writeOn_47 ?_
      refine r_iast C hr hF (Or.inr rfl) (2 + 52 * s + 6) (by omega) (by omega) (by omega) dX4_writeOn_48 (fun H9 locs9 h9 ho9 hz9 hF => ?_)
      have hm := hm.kept (ho9 _ (by omega))
      have hr := h9
      refine r_goto (tgt := 66) C (by decide) dX4_writeOn_49 ?_
      refine r_iload C (lv_at hl 0 rfl) dX4_writeOn_66 ?_
      exact r_iretH C rfl rfl (congrArg iI (by unfold wrR; rw [if_neg (by omega)])) hF (by have e1 : wrL F s q = needL F s := (by unfold wrL; rw [if_neg (by omega)]); exact ⟨by rw [e1]; exact hm, by unfold wrF; rw [if_neg (by omega), if_pos (by omega)]; exact hr⟩) dX4_writeOn_68
  · refine r_iconst C dX4_writeOn_18 ?_
    refine r_goto (tgt := 28) C (by decide) dX4_writeOn_19 ?_
    refine r_istore (lv' := [(5, .int (iI 0)), (4, .int (iI (((2 + 52 * x) + 12) + p))), (0, .ref mb), (1, .ref a), (2, .int (iI x)), (3, .int (iI p))]) C hl (by decide) rfl dX4_writeOn_28 (fun ls hl => ?_)
    refine r_iload C (lv_at hl 0 rfl) dX4_writeOn_30 ?_
    refine r_iconst C dX4_writeOn_32 ?_
    refine r_icmp_ne (tgt := 52) C (by decide) (by decide) (by decide) dX4_writeOn_33 (fun c10 => ?_) (fun c10 => ?_)
    · refine r_aload_n C rfl (lv_at hl 3 rfl) dX4_writeOn_52 ?_
      refine r_iconst C dX4_writeOn_53 ?_
      refine r_dup2 C rfl rfl dX4_writeOn_54 ?_
      refine r_iald (v := F 1) C hr 1 rfl (by omega) (by omega) rfl dX4_writeOn_55 ?_
      have b11 := hSm.1 1 (by omega)
      refine r_iconst C dX4_writeOn_56 ?_
      refine r_iadd C dX4_writeOn_57 ?_
      refine r_iast C hr hF (Or.inr rfl) 1 rfl (by omega) (by omega) dX4_writeOn_58 (fun H12 locs12 h12 ho12 hz12 hF => ?_)
      have hm := hm.kept (ho12 _ (by omega))
      have hr := h12
      refine r_aload_n C rfl (lv_at hl 3 rfl) dX4_writeOn_59 ?_
      refine r_iload C (lv_at hl 1 rfl) dX4_writeOn_60 ?_
      refine r_aload_n C rfl (lv_at hl 3 rfl) dX4_writeOn_62 ?_
      refine r_iconst C dX4_writeOn_63 ?_
      refine r_iald (v := (up F 1 ((F 1) + 1)) 1) C hr 1 rfl (by omega) (by omega) rfl dX4_writeOn_64 ?_
      have er13 : (up F 1 ((F 1) + 1)) 1 = (F 1) + 1 := (by rw [up_s])
      rw [er13]
      refine r_iast C hr hF (Or.inr rfl) (2 + 52 * s + (12 + q)) (by omega) (by omega) (by omega) dX4_writeOn_65 (fun H14 locs14 h14 ho14 hz14 hF => ?_)
      have hm := hm.kept (ho14 _ (by omega))
      have hr := h14
      refine r_iload C (lv_at hl 0 rfl) dX4_writeOn_66 ?_
      exact r_iretH C rfl rfl (congrArg iI (by unfold wrR; rw [if_pos (by omega)])) hF (by have e1 : wrL F s q = -1 := (by unfold wrL; rw [if_pos (by omega)]); exact ⟨by rw [e1, setL_n]; exact hm, by unfold wrF; rw [if_pos (by omega)]; exact hr⟩) dX4_writeOn_68
    · exact absurd c10 (by decide)
set_option maxHeartbeats 4000000 in
theorem k_X4_trimOn (l : Launch) (g : Gt) (a : Nat) (F : Nat → Int) (T : Int) (hJ : J F z0 T) (hT : T ≤ 970000) (x : Int) (s : Nat) (hx : x = (s : Int)) (hs : s < 5) (hn : (s : Int) < F 0) (p : Int) (q : Nat) (hp : p = (q : Int)) (hq : q < 40) (hw : 0 < F (2 + 52 * s + (12 + q))) : CH l yX4_trimOn cX4_trimOn 4 (some .int) 4 86 g [.ref a, .int (iI x), .int (iI p)] (aAt g a 262 F) (some (.int (iI (tk (trF F s q) s)))) (fun q => q = a) (aAt g a 262 (trF F s q)) := by
  refine ch_of "LentRoomModel" (by decide) rfl (Nat.le_of_ble_eq_true rfl) ?_
  intro zp ze zs zm za zb zt zc ls C hP hF hl
  have hr := hP
  have hl : lv_has ls 4 [(0, .ref a), (1, .int (iI x)), (2, .int (iI p))] := hl
  have hS := hJ.S
  have hSm : Sm F := hS.m (by omega)
  have hZ := hJ.Z
  have hn5 := hJ.n
  refine r_iload_n C rfl (lv_at hl 1 rfl) dX4_trimOn_0 ?_
  refine r_sPi (rest := []) C (k_X4_at l g x) s_RX4_45 trivial hl.1 rfl ⟨by decide, by decide⟩ rfl (Nat.le_of_ble_eq_true rfl) ⟨Nat.le_refl 0, Nat.le_refl 0⟩ dX4_trimOn_1 ?_
  refine r_istore_n (lv' := [(3, .int (iI (2 + 52 * x))), (0, .ref a), (1, .int (iI x)), (2, .int (iI p))]) C rfl hl (by decide) rfl dX4_trimOn_4 (fun ls hl => ?_)
  refine r_aload_n C rfl (lv_at hl 1 rfl) dX4_trimOn_5 ?_
  refine r_iload_n C rfl (lv_at hl 0 rfl) dX4_trimOn_6 ?_
  refine r_bipush C (by decide) dX4_trimOn_7 ?_
  refine r_iadd C dX4_trimOn_9 ?_
  refine r_iload_n C rfl (lv_at hl 3 rfl) dX4_trimOn_10 ?_
  refine r_iadd C dX4_trimOn_11 ?_
  refine r_iconst C dX4_trimOn_12 ?_
  refine r_iast C hr hF rfl (2 + 52 * s + (12 + q)) (by omega) (by omega) (by omega) dX4_trimOn_13 (fun H1 locs1 h1 ho1 hz1 hF => ?_)
  have hr := h1
  have hr : aAt g a 262 (tr1 F s q) H1 := hr
  have hSm1 : Sm (tr1 F s q) := (tr1_S hS (by have := hS.1 0 (by omega); omega) s q).m (by omega)
  obtain ⟨hJ2, e0, hpos⟩ := hJ.tr (by omega) hs hn hq hw
  refine r_aload_n C rfl (lv_at hl 1 rfl) dX4_trimOn_14 ?_
  refine r_iload_n C rfl (lv_at hl 2 rfl) dX4_trimOn_15 ?_
  refine r_sPi (rest := []) C (k_X4_borrowed l g a (tr1 F s q) hSm1 x s (by omega) (by omega)) s_RX4_57 hr hl.1 rfl ⟨by decide, by decide⟩ rfl (Nat.le_of_ble_eq_true rfl) ⟨Nat.le_refl 0, Nat.le_refl 0⟩ dX4_trimOn_16 ?_
  have b2 := borr_b hSm1 s (by omega)
  refine r_if_le (tgt := 41) C (by decide) (by omega) dX4_trimOn_19 (fun c3 => ?_) (fun c3 => ?_)
  · refine r_aload_n C rfl (lv_at hl 1 rfl) dX4_trimOn_41 ?_
    refine r_iload_n C rfl (lv_at hl 0 rfl) dX4_trimOn_42 ?_
    refine r_iconst C dX4_trimOn_43 ?_
    refine r_iadd C dX4_trimOn_44 ?_
    refine r_iald (v := (tr1 F s q) (2 + 52 * s + 3)) C hr (2 + 52 * s + 3) (by omega) (by omega) (by omega) rfl dX4_trimOn_45 ?_
    have b4 := hSm1.1 (2 + 52 * s + 3) (by omega)
    refine r_if_le (tgt := 61) C (by decide) (by omega) dX4_trimOn_46 (fun c5 => ?_) (fun c5 => ?_)
    · refine r_aload_n C rfl (lv_at hl 1 rfl) dX4_trimOn_61 ?_
      refine r_iload_n C rfl (lv_at hl 0 rfl) dX4_trimOn_62 ?_
      refine r_iconst C dX4_trimOn_63 ?_
      refine r_iadd C dX4_trimOn_64 ?_
      refine r_dup2 C rfl rfl dX4_trimOn_65 ?_
      refine r_iald (v := (tr1 F s q) (2 + 52 * s + 2)) C hr (2 + 52 * s + 2) (by omega) (by omega) (by omega) rfl dX4_trimOn_66 ?_
      have b6 := hSm1.1 (2 + 52 * s + 2) (by omega)
      refine r_iconst C dX4_trimOn_67 ?_
      refine r_isub C dX4_trimOn_68 ?_
      refine r_iast C hr hF rfl (2 + 52 * s + 2) (by omega) (by omega) (by omega) dX4_trimOn_69 (fun H7 locs7 h7 ho7 hz7 hF => ?_)
      have hr := h7
      have hr : aAt g a 262 (trF F s q) H7 := (by unfold trF unback; rw [if_neg (by omega), if_neg (by omega)]; exact hr)
      have hSm2 : Sm (trF F s q) := hJ2.S.m (by omega)
      refine r_aload_n C rfl (lv_at hl 1 rfl) dX4_trimOn_70 ?_
      refine r_iload_n C rfl (lv_at hl 2 rfl) dX4_trimOn_71 ?_
      refine r_sPi (rest := []) C (k_X4_taken l g a (trF F s q) hSm2 x s (by omega) (by omega)) s_RX4_79 hr hl.1 rfl ⟨by decide, by decide⟩ rfl (Nat.le_of_ble_eq_true rfl) ⟨Nat.le_refl 0, Nat.le_refl 0⟩ dX4_trimOn_72 ?_
      have b8 := tk_b hSm2 s (by omega)
      exact r_iretH C rfl rfl (congrArg iI (by rfl)) hF (by exact hr) dX4_trimOn_75
    · refine r_aload_n C rfl (lv_at hl 1 rfl) dX4_trimOn_49 ?_
      refine r_iload_n C rfl (lv_at hl 0 rfl) dX4_trimOn_50 ?_
      refine r_iconst C dX4_trimOn_51 ?_
      refine r_iadd C dX4_trimOn_52 ?_
      refine r_dup2 C rfl rfl dX4_trimOn_53 ?_
      refine r_iald (v := (tr1 F s q) (2 + 52 * s + 3)) C hr (2 + 52 * s + 3) (by omega) (by omega) (by omega) rfl dX4_trimOn_54 ?_
      have b9 := hSm1.1 (2 + 52 * s + 3) (by omega)
      refine r_iconst C dX4_trimOn_55 ?_
      refine r_isub C dX4_trimOn_56 ?_
      refine r_iast C hr hF rfl (2 + 52 * s + 3) (by omega) (by omega) (by omega) dX4_trimOn_57 (fun H10 locs10 h10 ho10 hz10 hF => ?_)
      have hr := h10
      refine r_goto (tgt := 70) C (by decide) dX4_trimOn_58 ?_
      have hr : aAt g a 262 (trF F s q) H10 := (by unfold trF unback; rw [if_neg (by omega), if_pos (by omega)]; exact hr)
      have hSm2 : Sm (trF F s q) := hJ2.S.m (by omega)
      refine r_aload_n C rfl (lv_at hl 1 rfl) dX4_trimOn_70 ?_
      refine r_iload_n C rfl (lv_at hl 2 rfl) dX4_trimOn_71 ?_
      refine r_sPi (rest := []) C (k_X4_taken l g a (trF F s q) hSm2 x s (by omega) (by omega)) s_RX4_79 hr hl.1 rfl ⟨by decide, by decide⟩ rfl (Nat.le_of_ble_eq_true rfl) ⟨Nat.le_refl 0, Nat.le_refl 0⟩ dX4_trimOn_72 ?_
      have b11 := tk_b hSm2 s (by omega)
      exact r_iretH C rfl rfl (congrArg iI (by rfl)) hF (by exact hr) dX4_trimOn_75
  · refine r_aload_n C rfl (lv_at hl 1 rfl) dX4_trimOn_22 ?_
    refine r_iload_n C rfl (lv_at hl 0 rfl) dX4_trimOn_23 ?_
    refine r_bipush C (by decide) dX4_trimOn_24 ?_
    refine r_iadd C dX4_trimOn_26 ?_
    refine r_aload_n C rfl (lv_at hl 1 rfl) dX4_trimOn_27 ?_
    refine r_iload_n C rfl (lv_at hl 2 rfl) dX4_trimOn_28 ?_
    refine r_sPi (rest := [.int (iI ((2 + 52 * x) + 7)), .ref a]) C (k_X4_mostFrom l g a (tr1 F s q) hSm1 x s (by omega) (by omega)) s_RX4_89 hr hl.1 rfl ⟨by decide, by decide⟩ rfl (Nat.le_of_ble_eq_true rfl) ⟨Nat.le_refl 0, Nat.le_refl 0⟩ dX4_trimOn_29 ?_
    have b12 := mostFrom_b (tr1 F s q) s
    refine r_iadd C dX4_trimOn_32 ?_
    refine r_dup2 C rfl rfl dX4_trimOn_33 ?_
    refine r_iald (v := (tr1 F s q) (2 + 52 * s + (7 + (mostFrom (tr1 F s q) s)))) C hr (2 + 52 * s + (7 + (mostFrom (tr1 F s q) s))) (by omega) (by omega) (by omega) rfl dX4_trimOn_34 ?_
    have b13 := hSm1.1 (2 + 52 * s + (7 + (mostFrom (tr1 F s q) s))) (by omega)
    refine r_iconst C dX4_trimOn_35 ?_
    refine r_isub C dX4_trimOn_36 ?_
    refine r_iast C hr hF rfl (2 + 52 * s + (7 + (mostFrom (tr1 F s q) s))) (by omega) (by omega) (by omega) dX4_trimOn_37 (fun H14 locs14 h14 ho14 hz14 hF => ?_)
    have hr := h14
    refine r_goto (tgt := 70) C (by decide) dX4_trimOn_38 ?_
    have hr : aAt g a 262 (trF F s q) H14 := (by unfold trF unback; rw [if_pos (by omega)]; exact hr)
    have hSm2 : Sm (trF F s q) := hJ2.S.m (by omega)
    refine r_aload_n C rfl (lv_at hl 1 rfl) dX4_trimOn_70 ?_
    refine r_iload_n C rfl (lv_at hl 2 rfl) dX4_trimOn_71 ?_
    refine r_sPi (rest := []) C (k_X4_taken l g a (trF F s q) hSm2 x s (by omega) (by omega)) s_RX4_79 hr hl.1 rfl ⟨by decide, by decide⟩ rfl (Nat.le_of_ble_eq_true rfl) ⟨Nat.le_refl 0, Nat.le_refl 0⟩ dX4_trimOn_72 ?_
    have b15 := tk_b hSm2 s (by omega)
    exact r_iretH C rfl rfl (congrArg iI (by rfl)) hF (by exact hr) dX4_trimOn_75
set_option maxHeartbeats 4000000 in
theorem k_X4_makeOn (l : Launch) (g : Gt) (a : Nat) (F : Nat → Int) (T : Int) (hJ : J F z0 T) (hT : T ≤ 970000) (x y : Int) (h5 : F 0 < 5) : CH l yX4_makeOn cX4_makeOn 4 (some .int) 1 20 g [.ref a, .int (iI x), .int (iI y)] (aAt g a 262 F) (some (.int (iI (F 0)))) (fun q => q = a) (aAt g a 262 (mkF F x y)) := by
  refine ch_of "LentRoomModel" (by decide) rfl (Nat.le_of_ble_eq_true rfl) ?_
  intro zp ze zs zm za zb zt zc ls C hP hF hl
  have hr := hP
  have hl : lv_has ls 4 [(0, .ref a), (1, .int (iI x)), (2, .int (iI y))] := hl
  have hS := hJ.S
  have hSm : Sm F := hS.m (by omega)
  have hZ := hJ.Z
  have hn5 := hJ.n
  refine r_aload_n C rfl (lv_at hl 0 rfl) dX4_makeOn_0 ?_
  refine r_iconst C dX4_makeOn_1 ?_
  refine r_iald (v := F 0) C hr 0 rfl (by omega) (by omega) rfl dX4_makeOn_2 ?_
  have b1 := hSm.1 0 (by omega)
  have b2 := hSm.2
  refine r_istore_n (lv' := [(3, .int (iI (F 0))), (0, .ref a), (1, .int (iI x)), (2, .int (iI y))]) C rfl hl (by decide) rfl dX4_makeOn_3 (fun ls hl => ?_)
  refine r_aload_n C rfl (lv_at hl 1 rfl) dX4_makeOn_4 ?_
  refine r_iload_n C rfl (lv_at hl 0 rfl) dX4_makeOn_5 ?_
  refine r_sPi (rest := [.ref a]) C (k_X4_at l g (F 0)) s_RX4_45 trivial hl.1 rfl ⟨by decide, by decide⟩ rfl (Nat.le_of_ble_eq_true rfl) ⟨Nat.le_refl 0, Nat.le_refl 0⟩ dX4_makeOn_6 ?_
  refine r_iconst C dX4_makeOn_9 ?_
  refine r_iadd C dX4_makeOn_10 ?_
  refine r_iload_n C rfl (lv_at hl 2 rfl) dX4_makeOn_11 ?_
  refine r_iast C hr hF rfl (2 + 52 * ((F 0).toNat) + 0) (by omega) (by omega) (by omega) dX4_makeOn_12 (fun H3 locs3 h3 ho3 hz3 hF => ?_)
  have hr := h3
  refine r_aload_n C rfl (lv_at hl 1 rfl) dX4_makeOn_13 ?_
  refine r_iload_n C rfl (lv_at hl 0 rfl) dX4_makeOn_14 ?_
  refine r_sPi (rest := [.ref a]) C (k_X4_at l g (F 0)) s_RX4_45 trivial hl.1 rfl ⟨by decide, by decide⟩ rfl (Nat.le_of_ble_eq_true rfl) ⟨Nat.le_refl 0, Nat.le_refl 0⟩ dX4_makeOn_15 ?_
  refine r_iconst C dX4_makeOn_18 ?_
  refine r_iadd C dX4_makeOn_19 ?_
  refine r_iload_n C rfl (lv_at hl 3 rfl) dX4_makeOn_20 ?_
  refine r_iast C hr hF rfl (2 + 52 * ((F 0).toNat) + 1) (by omega) (by omega) (by omega) dX4_makeOn_21 (fun H4 locs4 h4 ho4 hz4 hF => ?_)
  have hr := h4
  refine r_aload_n C rfl (lv_at hl 1 rfl) dX4_makeOn_22 ?_
  refine r_iconst C dX4_makeOn_23 ?_
  refine r_dup2 C rfl rfl dX4_makeOn_24 ?_
  refine r_iald (v := (up (up F (2 + 52 * ((F 0).toNat) + 0) x) (2 + 52 * ((F 0).toNat) + 1) y) 0) C hr 0 rfl (by omega) (by omega) rfl dX4_makeOn_25 ?_
  have er5 : (up (up F (2 + 52 * ((F 0).toNat) + 0) x) (2 + 52 * ((F 0).toNat) + 1) y) 0 = F 0 := (by rw [up_n _ _ (by omega), up_n _ _ (by omega)])
  rw [er5]
  refine r_iconst C dX4_makeOn_26 ?_
  refine r_iadd C dX4_makeOn_27 ?_
  refine r_iast C hr hF rfl 0 rfl (by omega) (by omega) dX4_makeOn_28 (fun H6 locs6 h6 ho6 hz6 hF => ?_)
  have hr := h6
  refine r_iload_n C rfl (lv_at hl 0 rfl) dX4_makeOn_29 ?_
  exact r_iretH C rfl rfl (congrArg iI (by rfl)) hF (by exact hr) dX4_makeOn_30
set_option maxHeartbeats 4000000 in
theorem k_X4_lay (l : Launch) (g : Gt) (a : Nat) (F : Nat → Int) (T : Int) (hJ : J F z0 T) (hT : T ≤ 970000) (x : Int) (s : Nat) (hx : x = (s : Int)) (hs : s < 5) (w : Int) (k : Nat) (hw : w = (k : Int)) (hk : k < 52) (v : Int) : CH l yX4_lay cX4_lay 5 (some .int) 2 42 g [.ref a, .int (iI x), .int (iI w), .int (iI v)] (aAt g a 262 F) (some (.int (iI (F (2 + 52 * s + k))))) (fun q => q = a) (aAt g a 262 (up F (2 + 52 * s + k) v)) := by
  refine ch_of "LentRoomModel" (by decide) rfl (Nat.le_of_ble_eq_true rfl) ?_
  intro zp ze zs zm za zb zt zc ls C hP hF hl
  have hr := hP
  have hl : lv_has ls 5 [(0, .ref a), (1, .int (iI x)), (2, .int (iI w)), (3, .int (iI v))] := hl
  have hS := hJ.S
  have hSm : Sm F := hS.m (by omega)
  have hZ := hJ.Z
  have hn5 := hJ.n
  refine r_aload_n C rfl (lv_at hl 0 rfl) dX4_lay_0 ?_
  refine r_iload_n C rfl (lv_at hl 1 rfl) dX4_lay_1 ?_
  refine r_iload_n C rfl (lv_at hl 2 rfl) dX4_lay_2 ?_
  refine r_sPi (rest := []) C (k_X4_of l g a F hSm x w s k (by omega) (by omega) (by omega) (by omega)) s_RX4_49 hr hl.1 rfl ⟨by decide, by decide⟩ rfl (Nat.le_of_ble_eq_true rfl) ⟨Nat.le_refl 0, Nat.le_refl 0⟩ dX4_lay_3 ?_
  have b1 := hSm.f s k (by omega) (by omega)
  refine r_istore (lv' := [(4, .int (iI (F (2 + 52 * s + k)))), (0, .ref a), (1, .int (iI x)), (2, .int (iI w)), (3, .int (iI v))]) C hl (by decide) rfl dX4_lay_6 (fun ls hl => ?_)
  refine r_aload_n C rfl (lv_at hl 1 rfl) dX4_lay_8 ?_
  refine r_iload_n C rfl (lv_at hl 2 rfl) dX4_lay_9 ?_
  refine r_sPi (rest := [.ref a]) C (k_X4_at l g x) s_RX4_45 trivial hl.1 rfl ⟨by decide, by decide⟩ rfl (Nat.le_of_ble_eq_true rfl) ⟨Nat.le_refl 0, Nat.le_refl 0⟩ dX4_lay_10 ?_
  refine r_iload_n C rfl (lv_at hl 3 rfl) dX4_lay_13 ?_
  refine r_iadd C dX4_lay_14 ?_
  refine r_iload_n C rfl (lv_at hl 4 rfl) dX4_lay_15 ?_
  refine r_iast C hr hF rfl (2 + 52 * s + k) (by omega) (by omega) (by omega) dX4_lay_16 (fun H2 locs2 h2 ho2 hz2 hF => ?_)
  have hr := h2
  refine r_iload C (lv_at hl 0 rfl) dX4_lay_17 ?_
  exact r_iretH C rfl rfl (congrArg iI (by rfl)) hF (by exact hr) dX4_lay_19
set_option maxHeartbeats 4000000 in
theorem k_X4_doesFloor (l : Launch) (g : Gt) (mb : Nat) (M : Nat → Int) (a : Nat) (F : Nat → Int) (T : Int) (hne : a ≠ mb) (hJ : J F z0 T) (hT : T ≤ 970000) (x v : Int) (s : Nat) (hx : Rg x) (hv : Rg v) (hs : 0 ≤ x → x = (s : Int)) : CH l yX4_doesFloor cX4_doesFloor 4 (some .boolean) 6 129 g [.ref mb, .ref a, .int (iI x), .int (iI v)] (fun H => mdAt g mb M H ∧ aAt g a 262 F H) (some (.int (iI (pI (whyFl F x s v = 0))))) (fun q => q = mb ∨ q = a) (fun H => mdAt g mb M H ∧ aAt g a 262 (if whyFl F x s v = 0 then up F (2 + 52 * s + 0) v else F) H) := by
  refine ch_of "LentRoomModel" (by decide) rfl (Nat.le_of_ble_eq_true rfl) ?_
  intro zp ze zs zm za zb zt zc ls C hP hF hl
  obtain ⟨hm, hr⟩ := hP
  have hl : lv_has ls 4 [(0, .ref mb), (1, .ref a), (2, .int (iI x)), (3, .int (iI v))] := hl
  have hS := hJ.S
  have hSm : Sm F := hS.m (by omega)
  have hZ := hJ.Z
  have hn5 := hJ.n
  refine r_aload_n C rfl (lv_at hl 1 rfl) dX4_doesFloor_0 ?_
  refine r_iload_n C rfl (lv_at hl 2 rfl) dX4_doesFloor_1 ?_
  refine r_iload_n C rfl (lv_at hl 3 rfl) dX4_doesFloor_2 ?_
  refine r_sPi (rest := []) C (k_X4_whyNotFloor l g a F hSm hZ x v s (by omega) (by omega) (by omega)) s_RX4_121 hr hl.1 rfl ⟨by decide, by decide⟩ rfl (Nat.le_of_ble_eq_true rfl) ⟨Nat.le_refl 0, Nat.le_refl 0⟩ dX4_doesFloor_3 ?_
  have b1 := whyFl_b F x s v
  refine r_if_ne (tgt := 23) C (by decide) (by omega) dX4_doesFloor_6 (fun c2 => ?_) (fun c2 => ?_)
  · refine r_iconst C dX4_doesFloor_23 ?_
    exact r_iretH C rfl rfl (congrArg iI (pI_f (by omega)).symm) hF (by exact ⟨hm, by rw [if_neg (by omega)]; exact hr⟩) dX4_doesFloor_24
  · have hwf : 0 ≤ x ∧ x < F 0 := (by have h9 : whyFl F x s v = 0 := (by omega); unfold whyFl at h9; split at h9 <;> omega)
    refine r_aload_n C rfl (lv_at hl 1 rfl) dX4_doesFloor_9 ?_
    refine r_iload_n C rfl (lv_at hl 2 rfl) dX4_doesFloor_10 ?_
    refine r_iconst C dX4_doesFloor_11 ?_
    refine r_iload_n C rfl (lv_at hl 3 rfl) dX4_doesFloor_12 ?_
    refine r_sHi (rest := []) C (k_X4_lay l g a F T hJ (by omega) x s (by omega) (by omega) 0 0 (by omega) (by omega) v) s_RX4_124 hr hF (fun _ h => Or.inr h) hl.1 rfl ⟨by decide, by decide⟩ rfl (Nat.le_of_ble_eq_true rfl) ⟨Nat.le_refl 0, Nat.le_refl 0⟩ dX4_doesFloor_13 (fun H4 locs4 h4 ho4 hz4 hF => ?_)
    have hm := hm.kept (ho4 _ (fun h => (by have h : _ = _ := h; omega)))
    have hr := h4
    have b3 := hSm.f s 0 (by omega) (by omega)
    refine r_if_lt (tgt := 23) C (by decide) (by omega) dX4_doesFloor_16 (fun c5 => ?_) (fun c5 => ?_)
    · exact absurd c5 (by omega)
    · refine r_iconst C dX4_doesFloor_19 ?_
      refine r_goto (tgt := 24) C (by decide) dX4_doesFloor_20 ?_
      exact r_iretH C rfl rfl (congrArg iI (pI_t (by omega)).symm) hF (by exact ⟨hm, by rw [if_pos (by omega)]; exact hr⟩) dX4_doesFloor_24

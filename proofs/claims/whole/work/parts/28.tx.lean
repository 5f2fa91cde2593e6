theorem s_RX4_131 : SiteV "LentRoomModel" 131 "LentRoomModel" yX4_figures cX4_figures 9 (some .int) 4 := ⟨⟨q_857, q_859, q_18, q_34, q_860⟩, rfl, by decide, by decide, by decide +kernel⟩
theorem s_RX4_152 : SiteV "LentRoomModel" 152 "LentRoomModel" yX4_doesFloor cX4_doesFloor 4 (some .boolean) 3 := ⟨⟨q_930, q_932, q_23, q_34, q_933⟩, rfl, by decide, by decide, by decide +kernel⟩
theorem s_RX4_141 : SiteV "LentRoomModel" 141 "LentRoomModel" yX4_leftOut cX4_leftOut 2 none 1 := ⟨⟨q_881, q_883, q_19, q_34, q_884⟩, rfl, by decide, by decide, by decide +kernel⟩
theorem s_RX4_155 : SiteV "LentRoomModel" 155 "LentRoomModel" yX4_doesWrites cX4_doesWrites 6 (some .boolean) 4 := ⟨⟨q_946, q_948, q_24, q_34, q_949⟩, rfl, by decide, by decide, by decide +kernel⟩
theorem s_RX4_159 : SiteV "LentRoomModel" 159 "LentRoomModel" yX4_readCommand cX4_readCommand 6 (some .boolean) 1 := ⟨⟨q_853, q_855, q_17, q_34, q_856⟩, rfl, by decide, by decide, by decide +kernel⟩
theorem s_RX4_163 : SiteV "LentRoomModel" 163 "LentRoomModel" yX4_readText cX4_readText 3 (some .int) 1 := ⟨⟨q_849, q_851, q_16, q_34, q_852⟩, rfl, by decide, by decide, by decide +kernel⟩
set_option maxHeartbeats 4000000 in
theorem k_X4_figures (l : Launch) (g : Gt) (mb : Nat) (M : Nat → Int) (hMb : ∀ k, Rg (M k)) (TX : Nat → Int) (hTX : ∀ k : Nat, k < 120 → 0 ≤ TX k ∧ TX k ≤ 255) (p n : Nat) (h4 : M 4 = (p : Int)) (h1 : M 1 = (n : Int)) (hpn : p ≤ n) (hn : n ≤ 120) (b d lo hi : Int) (hb : -1 ≤ b ∧ b ≤ 99) (hd : d = 1 ∨ d = 2) (hlo : 0 ≤ lo ∧ lo ≤ 1) (hhi : 0 ≤ hi ∧ hi ≤ 60) (X : Int) (P : Nat) (hX : fgV TX n b d lo hi p = X) (hP2 : fgP TX n b d lo hi p = P) : CH l yX4_figures cX4_figures 9 (some .int) 1 25 g [.ref mb, .int (iI b), .int (iI d), .int (iI lo), .int (iI hi)] (fun H => mdAt g mb M H ∧ aAt g (mb + 1) 120 TX H) (some (.int (iI X))) (fun q => q = mb) (fun H => mdAt g mb (up M 4 ((P : Nat) : Int)) H ∧ aAt g (mb + 1) 120 TX H) := by
  refine ch_of "LentRoomModel" (by decide) rfl (Nat.le_of_ble_eq_true rfl) ?_
  intro zp ze zs zm za zb zt zc ls C hP hF hl
  obtain ⟨hm, htx⟩ := hP
  have hl : lv_has ls 9 [(0, .ref mb), (1, .int (iI b)), (2, .int (iI d)), (3, .int (iI lo)), (4, .int (iI hi))] := hl
  refine r_iconst C dX4_figures_0 ?_
  refine r_istore (lv' := [(5, .int (iI 0)), (0, .ref mb), (1, .int (iI b)), (2, .int (iI d)), (3, .int (iI lo)), (4, .int (iI hi))]) C hl (by decide) rfl dX4_figures_1 (fun ls hl => ?_)
  refine r_iload_n C rfl (lv_at hl 3 rfl) dX4_figures_3 ?_
  refine r_iconst C dX4_figures_4 ?_
  refine r_icmp_ne (tgt := 13) C (by decide) (by omega) (by decide) dX4_figures_5 (fun c1 => ?_) (fun c1 => ?_)
  · refine r_iconst C dX4_figures_13 ?_
    refine r_istore (lv' := [(6, .int (iI 1)), (5, .int (iI 0)), (0, .ref mb), (1, .int (iI b)), (2, .int (iI d)), (3, .int (iI lo)), (4, .int (iI hi))]) C hl (by decide) rfl dX4_figures_14 (fun ls hl => ?_)
    refine r_iload C (lv_at hl 0 rfl) dX4_figures_16 ?_
    refine r_if_le (tgt := 122) C (by decide) (by decide) dX4_figures_18 (fun c2 => ?_) (fun c2 => ?_)
    · exact absurd c2 (by decide)
    · refine r_iload_n C rfl (lv_at hl 3 rfl) dX4_figures_21 ?_
      refine r_iconst C dX4_figures_22 ?_
      refine r_icmp_eq (tgt := 122) C (by decide) (by omega) (by decide) dX4_figures_23 (fun c3 => ?_) (fun c3 => ?_)
      · refine r_iload_n C rfl (lv_at hl 3 rfl) dX4_figures_122 ?_
        refine r_iconst C dX4_figures_123 ?_
        refine r_icmp_ne (tgt := 131) C (by decide) (by omega) (by decide) dX4_figures_124 (fun c4 => ?_) (fun c4 => ?_)
        · refine r_iload C (lv_at hl 1 rfl) dX4_figures_131 ?_
          have eP : (P : Int) = M 4 := (by rw [← hP2]; unfold fgP fok; (repeat' split) <;> omega)
          exact r_iretH C rfl rfl (congrArg iI (by rw [← hX]; unfold fgV fok; (repeat' split) <;> omega)) hF (by rw [eP, up_id rfl]; exact ⟨hm, htx⟩) dX4_figures_133
        · refine r_iconst C dX4_figures_127 ?_
          refine r_goto (tgt := 133) C (by decide) dX4_figures_128 ?_
          have eP : (P : Int) = M 4 := (by rw [← hP2]; unfold fgP fok; (repeat' split) <;> omega)
          exact r_iretH C rfl rfl (congrArg iI (by rw [← hX]; unfold fgV fok; (repeat' split) <;> omega)) hF (by rw [eP, up_id rfl]; exact ⟨hm, htx⟩) dX4_figures_133
      · refine r_aload_n C rfl (lv_at hl 2 rfl) dX4_figures_26 ?_
        refine r_get C (ci := 4) (v := .int (iI (M 4))) rfl uin4 hm.o 10 (by decide) q_795 rfl rfl dX4_figures_27 ?_
        have b5 := hMb 4
        refine r_aload_n C rfl (lv_at hl 2 rfl) dX4_figures_30 ?_
        refine r_get C (ci := 4) (v := .int (iI (M 1))) rfl uin4 hm.o 2 (by decide) q_787 rfl rfl dX4_figures_31 ?_
        have b6 := hMb 1
        refine r_icmp_ge (tgt := 52) C (by decide) (by omega) (by omega) dX4_figures_34 (fun c7 => ?_) (fun c7 => ?_)
        · refine r_iconst C dX4_figures_52 ?_
          have ht0 : tdg TX n p = (-1) := if_neg (by omega)
          refine r_istore (lv' := [(7, .int (iI (-1))), (6, .int (iI 1)), (5, .int (iI 0)), (0, .ref mb), (1, .int (iI b)), (2, .int (iI d)), (3, .int (iI lo)), (4, .int (iI hi))]) C hl (by decide) rfl dX4_figures_53 (fun ls hl => ?_)
          refine r_iload C (lv_at hl 2 rfl) dX4_figures_55 ?_
          refine r_iload C (lv_at hl 0 rfl) dX4_figures_57 ?_
          refine r_iload C (lv_at hl 1 rfl) dX4_figures_59 ?_
          refine r_imul C dX4_figures_61 ?_
          refine r_iadd C dX4_figures_62 ?_
          refine r_istore (lv' := [(8, .int (iI (0 + ((-1) * 1)))), (7, .int (iI (-1))), (6, .int (iI 1)), (5, .int (iI 0)), (0, .ref mb), (1, .int (iI b)), (2, .int (iI d)), (3, .int (iI lo)), (4, .int (iI hi))]) C hl (by decide) rfl dX4_figures_63 (fun ls hl => ?_)
          refine r_iload C (lv_at hl 1 rfl) dX4_figures_65 ?_
          refine r_i2l C (by decide) dX4_figures_67 ?_
          refine r_lconst C 0 rfl dX4_figures_68 ?_
          refine r_ldc2 C (v := iL 9) q_861 dX4_figures_69 ?_
          refine r_sPi (rest := []) C (k_X4_in l g (-1) 0 9 (by omega) (by omega) (by omega)) s_RX4_39 trivial hl.1 rfl ⟨by decide, by decide⟩ rfl (Nat.le_of_ble_eq_true rfl) ⟨Nat.le_refl 0, Nat.le_refl 0⟩ dX4_figures_72 ?_
          refine r_ifP_eq (tgt := 96) C (by decide) dX4_figures_75 (fun c8 => ?_) (fun c8 => ?_)
          · refine r_iconst C dX4_figures_96 ?_
            have eP : (P : Int) = M 4 := (by rw [← hP2]; unfold fgP fok; (repeat' split) <;> omega)
            exact r_iretH C rfl rfl (congrArg iI (by rw [← hX]; unfold fgV fok; (repeat' split) <;> omega)) hF (by rw [eP, up_id rfl]; exact ⟨hm, htx⟩) dX4_figures_97
          · refine r_iload C (lv_at hl 0 rfl) dX4_figures_78 ?_
            refine r_iload C (lv_at hl 8 rfl) dX4_figures_80 ?_
            refine r_icmp_gt (tgt := 96) C (by decide) (by omega) (by omega) dX4_figures_82 (fun c9 => ?_) (fun c9 => ?_)
            · refine r_iconst C dX4_figures_96 ?_
              have eP : (P : Int) = M 4 := (by rw [← hP2]; unfold fgP fok; (repeat' split) <;> omega)
              exact r_iretH C rfl rfl (congrArg iI (by rw [← hX]; unfold fgV fok; (repeat' split) <;> omega)) hF (by rw [eP, up_id rfl]; exact ⟨hm, htx⟩) dX4_figures_97
            · refine r_iload C (lv_at hl 0 rfl) dX4_figures_85 ?_
              refine r_iload C (lv_at hl 2 rfl) dX4_figures_87 ?_
              refine r_iadd C dX4_figures_89 ?_
              refine r_iconst C dX4_figures_90 ?_
              refine r_isub C dX4_figures_91 ?_
              refine r_iload_n C rfl (lv_at hl 7 rfl) dX4_figures_92 ?_
              refine r_icmp_ge (tgt := 98) C (by decide) (by omega) (by omega) dX4_figures_93 (fun c10 => ?_) (fun c10 => ?_)
              · refine r_iload C (lv_at hl 0 rfl) dX4_figures_98 ?_
                refine r_istore (lv' := [(5, .int (iI (0 + ((-1) * 1)))), (8, .int (iI (0 + ((-1) * 1)))), (7, .int (iI (-1))), (6, .int (iI 1)), (0, .ref mb), (1, .int (iI b)), (2, .int (iI d)), (3, .int (iI lo)), (4, .int (iI hi))]) C hl (by decide) rfl dX4_figures_100 (fun ls hl => ?_)
                refine r_aload_n C rfl (lv_at hl 4 rfl) dX4_figures_102 ?_
                refine r_dup C rfl dX4_figures_103 ?_
                refine r_get C (ci := 4) (v := .int (iI (M 4))) rfl uin4 hm.o 10 (by decide) q_795 rfl rfl dX4_figures_104 ?_
                have b11 := hMb 4
                refine r_iconst C dX4_figures_107 ?_
                refine r_iadd C dX4_figures_108 ?_
                refine r_put C (ci := 4) rfl uin4 tyX4_ok nmX4 hm.o hF rfl 10 (by decide) q_795 rfl rfl rfl rfl (by show 10 < 13; decide) dX4_figures_109 (fun H12 locs12 h12 ho12 hz12 hF => ?_)
                have htx := htx.kept (ho12 _ (by omega))
                have hm : mdAt g mb (up M 4 ((M 4) + 1)) H12 := hm.put4 h12 ho12
                refine r_iload C (lv_at hl 3 rfl) dX4_figures_112 ?_
                refine r_bipush C (by decide) dX4_figures_114 ?_
                refine r_idiv C (by omega) (by omega) dX4_figures_116 ?_
                rw [show (1 : Int) / 10 = 0 from rfl]
                refine r_istore (lv' := [(6, .int (iI 0)), (5, .int (iI (0 + ((-1) * 1)))), (8, .int (iI (0 + ((-1) * 1)))), (7, .int (iI (-1))), (0, .ref mb), (1, .int (iI b)), (2, .int (iI d)), (3, .int (iI lo)), (4, .int (iI hi))]) C hl (by decide) rfl dX4_figures_117 (fun ls hl => ?_)
                refine r_goto (tgt := 16) C (by decide) dX4_figures_119 ?_
                refine r_iload C (lv_at hl 0 rfl) dX4_figures_16 ?_
                refine r_if_le (tgt := 122) C (by decide) (by decide) dX4_figures_18 (fun c13 => ?_) (fun c13 => ?_)
                · refine r_iload_n C rfl (lv_at hl 5 rfl) dX4_figures_122 ?_
                  refine r_iconst C dX4_figures_123 ?_
                  refine r_icmp_ne (tgt := 131) C (by decide) (by omega) (by decide) dX4_figures_124 (fun c14 => ?_) (fun c14 => ?_)
                  · refine r_iload C (lv_at hl 1 rfl) dX4_figures_131 ?_
                    have eP : (P : Int) = (M 4) + 1 := (by rw [← hP2]; unfold fgP fok; (repeat' split) <;> omega)
                    exact r_iretH C rfl rfl (congrArg iI (by rw [← hX]; unfold fgV fok; (repeat' split) <;> omega)) hF (by rw [eP]; exact ⟨hm, htx⟩) dX4_figures_133
                  · refine r_iconst C dX4_figures_127 ?_
                    refine r_goto (tgt := 133) C (by decide) dX4_figures_128 ?_
                    have eP : (P : Int) = (M 4) + 1 := (by rw [← hP2]; unfold fgP fok; (repeat' split) <;> omega)
                    exact r_iretH C rfl rfl (congrArg iI (by rw [← hX]; unfold fgV fok; (repeat' split) <;> omega)) hF (by rw [eP]; exact ⟨hm, htx⟩) dX4_figures_133
                · exact absurd c13 (by decide)
              · refine r_iconst C dX4_figures_96 ?_
                have eP : (P : Int) = M 4 := (by rw [← hP2]; unfold fgP fok; (repeat' split) <;> omega)
                exact r_iretH C rfl rfl (congrArg iI (by rw [← hX]; unfold fgV fok; (repeat' split) <;> omega)) hF (by rw [eP, up_id rfl]; exact ⟨hm, htx⟩) dX4_figures_97
        · refine r_aload_n C rfl (lv_at hl 2 rfl) dX4_figures_37 ?_
          refine r_get C (ci := 4) (v := .ref (mb + 1)) rfl uin4 hm.o 1 (by decide) q_786 rfl rfl dX4_figures_38 ?_
          refine r_aload_n C rfl (lv_at hl 2 rfl) dX4_figures_41 ?_
          refine r_get C (ci := 4) (v := .int (iI (M 4))) rfl uin4 hm.o 10 (by decide) q_795 rfl rfl dX4_figures_42 ?_
          have b15 := hMb 4
          refine r_iald (v := TX p) C htx p (by omega) (by omega) (by omega) rfl dX4_figures_45 ?_
          have b16 := hTX p (by omega)
          refine r_bipush C (by decide) dX4_figures_46 ?_
          refine r_isub C dX4_figures_48 ?_
          refine r_goto (tgt := 53) C (by decide) dX4_figures_49 ?_
          have ht0 : tdg TX n p = (TX p) - 48 := if_pos (by omega)
          refine r_istore (lv' := [(7, .int (iI ((TX p) - 48))), (6, .int (iI 1)), (5, .int (iI 0)), (0, .ref mb), (1, .int (iI b)), (2, .int (iI d)), (3, .int (iI lo)), (4, .int (iI hi))]) C hl (by decide) rfl dX4_figures_53 (fun ls hl => ?_)
          refine r_iload C (lv_at hl 2 rfl) dX4_figures_55 ?_
          refine r_iload C (lv_at hl 0 rfl) dX4_figures_57 ?_
          refine r_iload C (lv_at hl 1 rfl) dX4_figures_59 ?_
          refine r_imul C dX4_figures_61 ?_
          refine r_iadd C dX4_figures_62 ?_
          refine r_istore (lv' := [(8, .int (iI (0 + (((TX p) - 48) * 1)))), (7, .int (iI ((TX p) - 48))), (6, .int (iI 1)), (5, .int (iI 0)), (0, .ref mb), (1, .int (iI b)), (2, .int (iI d)), (3, .int (iI lo)), (4, .int (iI hi))]) C hl (by decide) rfl dX4_figures_63 (fun ls hl => ?_)
          refine r_iload C (lv_at hl 1 rfl) dX4_figures_65 ?_
          refine r_i2l C (by omega) dX4_figures_67 ?_
          refine r_lconst C 0 rfl dX4_figures_68 ?_
          refine r_ldc2 C (v := iL 9) q_861 dX4_figures_69 ?_
          refine r_sPi (rest := []) C (k_X4_in l g ((TX p) - 48) 0 9 (by omega) (by omega) (by omega)) s_RX4_39 trivial hl.1 rfl ⟨by decide, by decide⟩ rfl (Nat.le_of_ble_eq_true rfl) ⟨Nat.le_refl 0, Nat.le_refl 0⟩ dX4_figures_72 ?_
          refine r_ifP_eq (tgt := 96) C (by decide) dX4_figures_75 (fun c17 => ?_) (fun c17 => ?_)
          · refine r_iconst C dX4_figures_96 ?_
            have eP : (P : Int) = M 4 := (by rw [← hP2]; unfold fgP fok; (repeat' split) <;> omega)
            exact r_iretH C rfl rfl (congrArg iI (by rw [← hX]; unfold fgV fok; (repeat' split) <;> omega)) hF (by rw [eP, up_id rfl]; exact ⟨hm, htx⟩) dX4_figures_97
          · refine r_iload C (lv_at hl 0 rfl) dX4_figures_78 ?_
            refine r_iload C (lv_at hl 8 rfl) dX4_figures_80 ?_
            refine r_icmp_gt (tgt := 96) C (by decide) (by omega) (by omega) dX4_figures_82 (fun c18 => ?_) (fun c18 => ?_)
            · refine r_iconst C dX4_figures_96 ?_
              have eP : (P : Int) = M 4 := (by rw [← hP2]; unfold fgP fok; (repeat' split) <;> omega)
              exact r_iretH C rfl rfl (congrArg iI (by rw [← hX]; unfold fgV fok; (repeat' split) <;> omega)) hF (by rw [eP, up_id rfl]; exact ⟨hm, htx⟩) dX4_figures_97
            · refine r_iload C (lv_at hl 0 rfl) dX4_figures_85 ?_
              refine r_iload C (lv_at hl 2 rfl) dX4_figures_87 ?_
              refine r_iadd C dX4_figures_89 ?_
              refine r_iconst C dX4_figures_90 ?_
              refine r_isub C dX4_figures_91 ?_
              refine r_iload_n C rfl (lv_at hl 7 rfl) dX4_figures_92 ?_
              refine r_icmp_ge (tgt := 98) C (by decide) (by omega) (by omega) dX4_figures_93 (fun c19 => ?_) (fun c19 => ?_)
              · refine r_iload C (lv_at hl 0 rfl) dX4_figures_98 ?_
                refine r_istore (lv' := [(5, .int (iI (0 + (((TX p) - 48) * 1)))), (8, .int (iI (0 + (((TX p) - 48) * 1)))), (7, .int (iI ((TX p) - 48))), (6, .int (iI 1)), (0, .ref mb), (1, .int (iI b)), (2, .int (iI d)), (3, .int (iI lo)), (4, .int (iI hi))]) C hl (by decide) rfl dX4_figures_100 (fun ls hl => ?_)
                refine r_aload_n C rfl (lv_at hl 4 rfl) dX4_figures_102 ?_
                refine r_dup C rfl dX4_figures_103 ?_
                refine r_get C (ci := 4) (v := .int (iI (M 4))) rfl uin4 hm.o 10 (by decide) q_795 rfl rfl dX4_figures_104 ?_
                have b20 := hMb 4
                refine r_iconst C dX4_figures_107 ?_
                refine r_iadd C dX4_figures_108 ?_
                refine r_put C (ci := 4) rfl uin4 tyX4_ok nmX4 hm.o hF rfl 10 (by decide) q_795 rfl rfl rfl rfl (by show 10 < 13; decide) dX4_figures_109 (fun H21 locs21 h21 ho21 hz21 hF => ?_)
                have htx := htx.kept (ho21 _ (by omega))
                have hm : mdAt g mb (up M 4 ((M 4) + 1)) H21 := hm.put4 h21 ho21
                refine r_iload C (lv_at hl 3 rfl) dX4_figures_112 ?_
                refine r_bipush C (by decide) dX4_figures_114 ?_
                refine r_idiv C (by omega) (by omega) dX4_figures_116 ?_
                rw [show (1 : Int) / 10 = 0 from rfl]
                refine r_istore (lv' := [(6, .int (iI 0)), (5, .int (iI (0 + (((TX p) - 48) * 1)))), (8, .int (iI (0 + (((TX p) - 48) * 1)))), (7, .int (iI ((TX p) - 48))), (0, .ref mb), (1, .int (iI b)), (2, .int (iI d)), (3, .int (iI lo)), (4, .int (iI hi))]) C hl (by decide) rfl dX4_figures_117 (fun ls hl => ?_)
                refine r_goto (tgt := 16) C (by decide) dX4_figures_119 ?_
                refine r_iload C (lv_at hl 0 rfl) dX4_figures_16 ?_
                refine r_if_le (tgt := 122) C (by decide) (by decide) dX4_figures_18 (fun c22 => ?_) (fun c22 => ?_)
                · refine r_iload_n C rfl (lv_at hl 5 rfl) dX4_figures_122 ?_
                  refine r_iconst C dX4_figures_123 ?_
                  refine r_icmp_ne (tgt := 131) C (by decide) (by omega) (by decide) dX4_figures_124 (fun c23 => ?_) (fun c23 => ?_)
                  · refine r_iload C (lv_at hl 1 rfl) dX4_figures_131 ?_
                    have eP : (P : Int) = (M 4) + 1 := (by rw [← hP2]; unfold fgP fok; (repeat' split) <;> omega)
                    exact r_iretH C rfl rfl (congrArg iI (by rw [← hX]; unfold fgV fok; (repeat' split) <;> omega)) hF (by rw [eP]; exact ⟨hm, htx⟩) dX4_figures_133
                  · refine r_iconst C dX4_figures_127 ?_
                    refine r_goto (tgt := 133) C (by decide) dX4_figures_128 ?_
                    have eP : (P : Int) = (M 4) + 1 := (by rw [← hP2]; unfold fgP fok; (repeat' split) <;> omega)
                    exact r_iretH C rfl rfl (congrArg iI (by rw [← hX]; unfold fgV fok; (repeat' split) <;> omega)) hF (by rw [eP]; exact ⟨hm, htx⟩) dX4_figures_133
                · exact absurd c22 (by decide)
              · refine r_iconst C dX4_figures_96 ?_
                have eP : (P : Int) = M 4 := (by rw [← hP2]; unfold fgP fok; (repeat' split) <;> omega)
                exact r_iretH C rfl rfl (congrArg iI (by rw [← hX]; unfold fgV fok; (repeat' split) <;> omega)) hF (by rw [eP, up_id rfl]; exact ⟨hm, htx⟩) dX4_figures_97
  · refine r_bipush C (by decide) dX4_figures_8 ?_
    refine r_goto (tgt := 14) C (by decide) dX4_figures_10 ?_
    refine r_istore (lv' := [(6, .int (iI 10)), (5, .int (iI 0)), (0, .ref mb), (1, .int (iI b)), (2, .int (iI d)), (3, .int (iI lo)), (4, .int (iI hi))]) C hl (by decide) rfl dX4_figures_14 (fun ls hl => ?_)
    refine r_iload C (lv_at hl 0 rfl) dX4_figures_16 ?_
    refine r_if_le (tgt := 122) C (by decide) (by decide) dX4_figures_18 (fun c24 => ?_) (fun c24 => ?_)
    · exact absurd c24 (by decide)
    · refine r_iload_n C rfl (lv_at hl 3 rfl) dX4_figures_21 ?_
      refine r_iconst C dX4_figures_22 ?_
      refine r_icmp_eq (tgt := 122) C (by decide) (by omega) (by decide) dX4_figures_23 (fun c25 => ?_) (fun c25 => ?_)
      · refine r_iload_n C rfl (lv_at hl 3 rfl) dX4_figures_122 ?_
        refine r_iconst C dX4_figures_123 ?_
        refine r_icmp_ne (tgt := 131) C (by decide) (by omega) (by decide) dX4_figures_124 (fun c26 => ?_) (fun c26 => ?_)
        · refine r_iload C (lv_at hl 1 rfl) dX4_figures_131 ?_
          have eP : (P : Int) = M 4 := (by rw [← hP2]; unfold fgP fok; (repeat' split) <;> omega)
          exact r_iretH C rfl rfl (congrArg iI (by rw [← hX]; unfold fgV fok; (repeat' split) <;> omega)) hF (by rw [eP, up_id rfl]; exact ⟨hm, htx⟩) dX4_figures_133
        · refine r_iconst C dX4_figures_127 ?_
          refine r_goto (tgt := 133) C (by decide) dX4_figures_128 ?_
          have eP : (P : Int) = M 4 := (by rw [← hP2]; unfold fgP fok; (repeat' split) <;> omega)
          exact r_iretH C rfl rfl (congrArg iI (by rw [← hX]; unfold fgV fok; (repeat' split) <;> omega)) hF (by rw [eP, up_id rfl]; exact ⟨hm, htx⟩) dX4_figures_133
      · refine r_aload_n C rfl (lv_at hl 2 rfl) dX4_figures_26 ?_
        refine r_get C (ci := 4) (v := .int (iI (M 4))) rfl uin4 hm.o 10 (by decide) q_795 rfl rfl dX4_figures_27 ?_
        have b27 := hMb 4
        refine r_aload_n C rfl (lv_at hl 2 rfl) dX4_figures_30 ?_
        refine r_get C (ci := 4) (v := .int (iI (M 1))) rfl uin4 hm.o 2 (by decide) q_787 rfl rfl dX4_figures_31 ?_
        have b28 := hMb 1
        refine r_icmp_ge (tgt := 52) C (by decide) (by omega) (by omega) dX4_figures_34 (fun c29 => ?_) (fun c29 => ?_)
        · refine r_iconst C dX4_figures_52 ?_
          have ht0 : tdg TX n p = (-1) := if_neg (by omega)
          refine r_istore (lv' := [(7, .int (iI (-1))), (6, .int (iI 10)), (5, .int (iI 0)), (0, .ref mb), (1, .int (iI b)), (2, .int (iI d)), (3, .int (iI lo)), (4, .int (iI hi))]) C hl (by decide) rfl dX4_figures_53 (fun ls hl => ?_)
          refine r_iload C (lv_at hl 2 rfl) dX4_figures_55 ?_
          refine r_iload C (lv_at hl 0 rfl) dX4_figures_57 ?_
          refine r_iload C (lv_at hl 1 rfl) dX4_figures_59 ?_
          refine r_imul C dX4_figures_61 ?_
          refine r_iadd C dX4_figures_62 ?_
          refine r_istore (lv' := [(8, .int (iI (0 + ((-1) * 10)))), (7, .int (iI (-1))), (6, .int (iI 10)), (5, .int (iI 0)), (0, .ref mb), (1, .int (iI b)), (2, .int (iI d)), (3, .int (iI lo)), (4, .int (iI hi))]) C hl (by decide) rfl dX4_figures_63 (fun ls hl => ?_)
          refine r_iload C (lv_at hl 1 rfl) dX4_figures_65 ?_
          refine r_i2l C (by decide) dX4_figures_67 ?_
          refine r_lconst C 0 rfl dX4_figures_68 ?_
          refine r_ldc2 C (v := iL 9) q_861 dX4_figures_69 ?_
          refine r_sPi (rest := []) C (k_X4_in l g (-1) 0 9 (by omega) (by omega) (by omega)) s_RX4_39 trivial hl.1 rfl ⟨by decide, by decide⟩ rfl (Nat.le_of_ble_eq_true rfl) ⟨Nat.le_refl 0, Nat.le_refl 0⟩ dX4_figures_72 ?_
          refine r_ifP_eq (tgt := 96) C (by decide) dX4_figures_75 (fun c30 => ?_) (fun c30 => ?_)
          · refine r_iconst C dX4_figures_96 ?_
            have eP : (P : Int) = M 4 := (by rw [← hP2]; unfold fgP fok; (repeat' split) <;> omega)
            exact r_iretH C rfl rfl (congrArg iI (by rw [← hX]; unfold fgV fok; (repeat' split) <;> omega)) hF (by rw [eP, up_id rfl]; exact ⟨hm, htx⟩) dX4_figures_97
          · refine r_iload C (lv_at hl 0 rfl) dX4_figures_78 ?_
            refine r_iload C (lv_at hl 8 rfl) dX4_figures_80 ?_
            refine r_icmp_gt (tgt := 96) C (by decide) (by omega) (by omega) dX4_figures_82 (fun c31 => ?_) (fun c31 => ?_)
            · refine r_iconst C dX4_figures_96 ?_
              have eP : (P : Int) = M 4 := (by rw [← hP2]; unfold fgP fok; (repeat' split) <;> omega)
              exact r_iretH C rfl rfl (congrArg iI (by rw [← hX]; unfold fgV fok; (repeat' split) <;> omega)) hF (by rw [eP, up_id rfl]; exact ⟨hm, htx⟩) dX4_figures_97
            · refine r_iload C (lv_at hl 0 rfl) dX4_figures_85 ?_
              refine r_iload C (lv_at hl 2 rfl) dX4_figures_87 ?_
              refine r_iadd C dX4_figures_89 ?_
              refine r_iconst C dX4_figures_90 ?_
              refine r_isub C dX4_figures_91 ?_
              refine r_iload_n C rfl (lv_at hl 7 rfl) dX4_figures_92 ?_
              refine r_icmp_ge (tgt := 98) C (by decide) (by omega) (by omega) dX4_figures_93 (fun c32 => ?_) (fun c32 => ?_)
              · refine r_iload C (lv_at hl 0 rfl) dX4_figures_98 ?_
                refine r_istore (lv' := [(5, .int (iI (0 + ((-1) * 10)))), (8, .int (iI (0 + ((-1) * 10)))), (7, .int (iI (-1))), (6, .int (iI 10)), (0, .ref mb), (1, .int (iI b)), (2, .int (iI d)), (3, .int (iI lo)), (4, .int (iI hi))]) C hl (by decide) rfl dX4_figures_100 (fun ls hl => ?_)
                refine r_aload_n C rfl (lv_at hl 4 rfl) dX4_figures_102 ?_
                refine r_dup C rfl dX4_figures_103 ?_
                refine r_get C (ci := 4) (v := .int (iI (M 4))) rfl uin4 hm.o 10 (by decide) q_795 rfl rfl dX4_figures_104 ?_
                have b33 := hMb 4
                refine r_iconst C dX4_figures_107 ?_
                refine r_iadd C dX4_figures_108 ?_
                refine r_put C (ci := 4) rfl uin4 tyX4_ok nmX4 hm.o hF rfl 10 (by decide) q_795 rfl rfl rfl rfl (by show 10 < 13; decide) dX4_figures_109 (fun H34 locs34 h34 ho34 hz34 hF => ?_)
                have htx := htx.kept (ho34 _ (by omega))
                have hm : mdAt g mb (up M 4 ((M 4) + 1)) H34 := hm.put4 h34 ho34
                refine r_iload C (lv_at hl 3 rfl) dX4_figures_112 ?_
                refine r_bipush C (by decide) dX4_figures_114 ?_
                refine r_idiv C (by omega) (by omega) dX4_figures_116 ?_
                rw [show (10 : Int) / 10 = 1 from rfl]
                refine r_istore (lv' := [(6, .int (iI 1)), (5, .int (iI (0 + ((-1) * 10)))), (8, .int (iI (0 + ((-1) * 10)))), (7, .int (iI (-1))), (0, .ref mb), (1, .int (iI b)), (2, .int (iI d)), (3, .int (iI lo)), (4, .int (iI hi))]) C hl (by decide) rfl dX4_figures_117 (fun ls hl => ?_)
                refine r_goto (tgt := 16) C (by decide) dX4_figures_119 ?_
                refine r_iload C (lv_at hl 0 rfl) dX4_figures_16 ?_
                refine r_if_le (tgt := 122) C (by decide) (by decide) dX4_figures_18 (fun c35 => ?_) (fun c35 => ?_)
                · exact absurd c35 (by decide)
                · refine r_iload_n C rfl (lv_at hl 5 rfl) dX4_figures_21 ?_
                  refine r_iconst C dX4_figures_22 ?_
                  refine r_icmp_eq (tgt := 122) C (by decide) (by omega) (by decide) dX4_figures_23 (fun c36 => ?_) (fun c36 => ?_)
                  · exact absurd c36 (by omega)
                  · refine r_aload_n C rfl (lv_at hl 4 rfl) dX4_figures_26 ?_
                    refine r_get C (ci := 4) (v := .int (iI ((up M 4 ((M 4) + 1)) 4))) rfl uin4 hm.o 10 (by decide) q_795 rfl rfl dX4_figures_27 ?_
                    have er37 : (up M 4 ((M 4) + 1)) 4 = (M 4) + 1 := (by rw [up_s])
                    rw [er37]
                    have b38 := hMb 4
                    refine r_aload_n C rfl (lv_at hl 4 rfl) dX4_figures_30 ?_
                    refine r_get C (ci := 4) (v := .int (iI ((up M 4 ((M 4) + 1)) 1))) rfl uin4 hm.o 2 (by decide) q_787 rfl rfl dX4_figures_31 ?_
                    have er39 : (up M 4 ((M 4) + 1)) 1 = M 1 := (by rw [up_n _ _ (by omega)])
                    rw [er39]
                    have b40 := hMb 1
                    refine r_icmp_ge (tgt := 52) C (by decide) (by omega) (by omega) dX4_figures_34 (fun c41 => ?_) (fun c41 => ?_)
                    · refine r_iconst C dX4_figures_52 ?_
                      have ht1 : tdg TX n (p + 1) = (-1) := if_neg (by omega)
                      refine r_istore (lv' := [(7, .int (iI (-1))), (6, .int (iI 1)), (5, .int (iI (0 + ((-1) * 10)))), (8, .int (iI (0 + ((-1) * 10)))), (0, .ref mb), (1, .int (iI b)), (2, .int (iI d)), (3, .int (iI lo)), (4, .int (iI hi))]) C hl (by decide) rfl dX4_figures_53 (fun ls hl => ?_)
                      refine r_iload C (lv_at hl 2 rfl) dX4_figures_55 ?_
                      refine r_iload C (lv_at hl 0 rfl) dX4_figures_57 ?_
                      refine r_iload C (lv_at hl 1 rfl) dX4_figures_59 ?_
                      refine r_imul C dX4_figures_61 ?_
                      refine r_iadd C dX4_figures_62 ?_
                      refine r_istore (lv' := [(8, .int (iI ((0 + ((-1) * 10)) + ((-1) * 1)))), (7, .int (iI (-1))), (6, .int (iI 1)), (5, .int (iI (0 + ((-1) * 10)))), (0, .ref mb), (1, .int (iI b)), (2, .int (iI d)), (3, .int (iI lo)), (4, .int (iI hi))]) C hl (by decide) rfl dX4_figures_63 (fun ls hl => ?_)
                      refine r_iload C (lv_at hl 1 rfl) dX4_figures_65 ?_
                      refine r_i2l C (by decide) dX4_figures_67 ?_
                      refine r_lconst C 0 rfl dX4_figures_68 ?_
                      refine r_ldc2 C (v := iL 9) q_861 dX4_figures_69 ?_
                      refine r_sPi (rest := []) C (k_X4_in l g (-1) 0 9 (by omega) (by omega) (by omega)) s_RX4_39 trivial hl.1 rfl ⟨by decide, by decide⟩ rfl (Nat.le_of_ble_eq_true rfl) ⟨Nat.le_refl 0, Nat.le_refl 0⟩ dX4_figures_72 ?_
                      refine r_ifP_eq (tgt := 96) C (by decide) dX4_figures_75 (fun c42 => ?_) (fun c42 => ?_)
                      · refine r_iconst C dX4_figures_96 ?_
                        have eP : (P : Int) = (M 4) + 1 := (by rw [← hP2]; unfold fgP fok; (repeat' split) <;> omega)
                        exact r_iretH C rfl rfl (congrArg iI (by rw [← hX]; unfold fgV fok; (repeat' split) <;> omega)) hF (by rw [eP]; exact ⟨hm, htx⟩) dX4_figures_97
                      · refine r_iload C (lv_at hl 0 rfl) dX4_figures_78 ?_
                        refine r_iload C (lv_at hl 8 rfl) dX4_figures_80 ?_
                        refine r_icmp_gt (tgt := 96) C (by decide) (by omega) (by omega) dX4_figures_82 (fun c43 => ?_) (fun c43 => ?_)
                        · refine r_iconst C dX4_figures_96 ?_
                          have eP : (P : Int) = (M 4) + 1 := (by rw [← hP2]; unfold fgP fok; (repeat' split) <;> omega)
                          exact r_iretH C rfl rfl (congrArg iI (by rw [← hX]; unfold fgV fok; (repeat' split) <;> omega)) hF (by rw [eP]; exact ⟨hm, htx⟩) dX4_figures_97
                        · refine r_iload C (lv_at hl 0 rfl) dX4_figures_85 ?_
                          refine r_iload C (lv_at hl 2 rfl) dX4_figures_87 ?_
                          refine r_iadd C dX4_figures_89 ?_
                          refine r_iconst C dX4_figures_90 ?_
                          refine r_isub C dX4_figures_91 ?_
                          refine r_iload_n C rfl (lv_at hl 7 rfl) dX4_figures_92 ?_
                          refine r_icmp_ge (tgt := 98) C (by decide) (by omega) (by omega) dX4_figures_93 (fun c44 => ?_) (fun c44 => ?_)
                          · refine r_iload C (lv_at hl 0 rfl) dX4_figures_98 ?_
                            refine r_istore (lv' := [(5, .int (iI ((0 + ((-1) * 10)) + ((-1) * 1)))), (8, .int (iI ((0 + ((-1) * 10)) + ((-1) * 1)))), (7, .int (iI (-1))), (6, .int (iI 1)), (0, .ref mb), (1, .int (iI b)), (2, .int (iI d)), (3, .int (iI lo)), (4, .int (iI hi))]) C hl (by decide) rfl dX4_figures_100 (fun ls hl => ?_)
                            refine r_aload_n C rfl (lv_at hl 4 rfl) dX4_figures_102 ?_
                            refine r_dup C rfl dX4_figures_103 ?_
                            refine r_get C (ci := 4) (v := .int (iI ((up M 4 ((M 4) + 1)) 4))) rfl uin4 hm.o 10 (by decide) q_795 rfl rfl dX4_figures_104 ?_
                            have er45 : (up M 4 ((M 4) + 1)) 4 = (M 4) + 1 := (by rw [up_s])
                            rw [er45]
                            have b46 := hMb 4
                            refine r_iconst C dX4_figures_107 ?_
                            refine r_iadd C dX4_figures_108 ?_
                            refine r_put C (ci := 4) rfl uin4 tyX4_ok nmX4 hm.o hF rfl 10 (by decide) q_795 rfl rfl rfl rfl (by show 10 < 13; decide) dX4_figures_109 (fun H47 locs47 h47 ho47 hz47 hF => ?_)
                            have htx := htx.kept (ho47 _ (by omega))
                            have hm : mdAt g mb (up (up M 4 ((M 4) + 1)) 4 (((M 4) + 1) + 1)) H47 := hm.put4 h47 ho47
                            refine r_iload C (lv_at hl 3 rfl) dX4_figures_112 ?_
                            refine r_bipush C (by decide) dX4_figures_114 ?_
                            refine r_idiv C (by omega) (by omega) dX4_figures_116 ?_
                            rw [show (1 : Int) / 10 = 0 from rfl]
                            refine r_istore (lv' := [(6, .int (iI 0)), (5, .int (iI ((0 + ((-1) * 10)) + ((-1) * 1)))), (8, .int (iI ((0 + ((-1) * 10)) + ((-1) * 1)))), (7, .int (iI (-1))), (0, .ref mb), (1, .int (iI b)), (2, .int (iI d)), (3, .int (iI lo)), (4, .int (iI hi))]) C hl (by decide) rfl dX4_figures_117 (fun ls hl => ?_)
                            refine r_goto (tgt := 16) C (by decide) dX4_figures_119 ?_
                            refine r_iload C (lv_at hl 0 rfl) dX4_figures_16 ?_
                            refine r_if_le (tgt := 122) C (by decide) (by decide) dX4_figures_18 (fun c48 => ?_) (fun c48 => ?_)
                            · refine r_iload_n C rfl (lv_at hl 5 rfl) dX4_figures_122 ?_
                              refine r_iconst C dX4_figures_123 ?_
                              refine r_icmp_ne (tgt := 131) C (by decide) (by omega) (by decide) dX4_figures_124 (fun c49 => ?_) (fun c49 => ?_)
                              · refine r_iload C (lv_at hl 1 rfl) dX4_figures_131 ?_
                                have eP : (P : Int) = ((M 4) + 1) + 1 := (by rw [← hP2]; unfold fgP fok; (repeat' split) <;> omega)
                                exact r_iretH C rfl rfl (congrArg iI (by rw [← hX]; unfold fgV fok; (repeat' split) <;> omega)) hF (by rw [eP]; rw [up_up] at hm; exact ⟨hm, htx⟩) dX4_figures_133
                              · refine r_iconst C dX4_figures_127 ?_
                                refine r_goto (tgt := 133) C (by decide) dX4_figures_128 ?_
                                have eP : (P : Int) = ((M 4) + 1) + 1 := (by rw [← hP2]; unfold fgP fok; (repeat' split) <;> omega)
                                exact r_iretH C rfl rfl (congrArg iI (by rw [← hX]; unfold fgV fok; (repeat' split) <;> omega)) hF (by rw [eP]; rw [up_up] at hm; exact ⟨hm, htx⟩) dX4_figures_133
                            · exact absurd c48 (by decide)
                          · refine r_iconst C dX4_figures_96 ?_
                            have eP : (P : Int) = (M 4) + 1 := (by rw [← hP2]; unfold fgP fok; (repeat' split) <;> omega)
                            exact r_iretH C rfl rfl (congrArg iI (by rw [← hX]; unfold fgV fok; (repeat' split) <;> omega)) hF (by rw [eP]; exact ⟨hm, htx⟩) dX4_figures_97
                    · refine r_aload_n C rfl (lv_at hl 4 rfl) dX4_figures_37 ?_
                      refine r_get C (ci := 4) (v := .ref (mb + 1)) rfl uin4 hm.o 1 (by decide) q_786 rfl rfl dX4_figures_38 ?_
                      refine r_aload_n C rfl (lv_at hl 4 rfl) dX4_figures_41 ?_
                      refine r_get C (ci := 4) (v := .int (iI ((up M 4 ((M 4) + 1)) 4))) rfl uin4 hm.o 10 (by decide) q_795 rfl rfl dX4_figures_42 ?_
                      have er50 : (up M 4 ((M 4) + 1)) 4 = (M 4) + 1 := (by rw [up_s])
                      rw [er50]
                      have b51 := hMb 4
                      refine r_iald (v := TX (p + 1)) C htx (p + 1) (by omega) (by omega) (by omega) rfl dX4_figures_45 ?_
                      have b52 := hTX (p + 1) (by omega)
                      refine r_bipush C (by decide) dX4_figures_46 ?_
                      refine r_isub C dX4_figures_48 ?_
                      refine r_goto (tgt := 53) C (by decide) dX4_figures_49 ?_
                      have ht1 : tdg TX n (p + 1) = (TX (p + 1)) - 48 := if_pos (by omega)
                      refine r_istore (lv' := [(7, .int (iI ((TX (p + 1)) - 48))), (6, .int (iI 1)), (5, .int (iI (0 + ((-1) * 10)))), (8, .int (iI (0 + ((-1) * 10)))), (0, .ref mb), (1, .int (iI b)), (2, .int (iI d)), (3, .int (iI lo)), (4, .int (iI hi))]) C hl (by decide) rfl dX4_figures_53 (fun ls hl => ?_)
                      refine r_iload C (lv_at hl 2 rfl) dX4_figures_55 ?_
                      refine r_iload C (lv_at hl 0 rfl) dX4_figures_57 ?_
                      refine r_iload C (lv_at hl 1 rfl) dX4_figures_59 ?_
                      refine r_imul C dX4_figures_61 ?_
                      refine r_iadd C dX4_figures_62 ?_
                      refine r_istore (lv' := [(8, .int (iI ((0 + ((-1) * 10)) + (((TX (p + 1)) - 48) * 1)))), (7, .int (iI ((TX (p + 1)) - 48))), (6, .int (iI 1)), (5, .int (iI (0 + ((-1) * 10)))), (0, .ref mb), (1, .int (iI b)), (2, .int (iI d)), (3, .int (iI lo)), (4, .int (iI hi))]) C hl (by decide) rfl dX4_figures_63 (fun ls hl => ?_)
                      refine r_iload C (lv_at hl 1 rfl) dX4_figures_65 ?_
                      refine r_i2l C (by omega) dX4_figures_67 ?_
                      refine r_lconst C 0 rfl dX4_figures_68 ?_
                      refine r_ldc2 C (v := iL 9) q_861 dX4_figures_69 ?_
                      refine r_sPi (rest := []) C (k_X4_in l g ((TX (p + 1)) - 48) 0 9 (by omega) (by omega) (by omega)) s_RX4_39 trivial hl.1 rfl ⟨by decide, by decide⟩ rfl (Nat.le_of_ble_eq_true rfl) ⟨Nat.le_refl 0, Nat.le_refl 0⟩ dX4_figures_72 ?_
                      refine r_ifP_eq (tgt := 96) C (by decide) dX4_figures_75 (fun c53 => ?_) (fun c53 => ?_)
                      · refine r_iconst C dX4_figures_96 ?_
                        have eP : (P : Int) = (M 4) + 1 := (by rw [← hP2]; unfold fgP fok; (repeat' split) <;> omega)
                        exact r_iretH C rfl rfl (congrArg iI (by rw [← hX]; unfold fgV fok; (repeat' split) <;> omega)) hF (by rw [eP]; exact ⟨hm, htx⟩) dX4_figures_97
                      · refine r_iload C (lv_at hl 0 rfl) dX4_figures_78 ?_
                        refine r_iload C (lv_at hl 8 rfl) dX4_figures_80 ?_
                        refine r_icmp_gt (tgt := 96) C (by decide) (by omega) (by omega) dX4_figures_82 (fun c54 => ?_) (fun c54 => ?_)
                        · refine r_iconst C dX4_figures_96 ?_
                          have eP : (P : Int) = (M 4) + 1 := (by rw [← hP2]; unfold fgP fok; (repeat' split) <;> omega)
                          exact r_iretH C rfl rfl (congrArg iI (by rw [← hX]; unfold fgV fok; (repeat' split) <;> omega)) hF (by rw [eP]; exact ⟨hm, htx⟩) dX4_figures_97
                        · refine r_iload C (lv_at hl 0 rfl) dX4_figures_85 ?_
                          refine r_iload C (lv_at hl 2 rfl) dX4_figures_87 ?_
                          refine r_iadd C dX4_figures_89 ?_
                          refine r_iconst C dX4_figures_90 ?_
                          refine r_isub C dX4_figures_91 ?_
                          refine r_iload_n C rfl (lv_at hl 7 rfl) dX4_figures_92 ?_
                          refine r_icmp_ge (tgt := 98) C (by decide) (by omega) (by omega) dX4_figures_93 (fun c55 => ?_) (fun c55 => ?_)
                          · refine r_iload C (lv_at hl 0 rfl) dX4_figures_98 ?_
                            refine r_istore (lv' := [(5, .int (iI ((0 + ((-1) * 10)) + (((TX (p + 1)) - 48) * 1)))), (8, .int (iI ((0 + ((-1) * 10)) + (((TX (p + 1)) - 48) * 1)))), (7, .int (iI ((TX (p + 1)) - 48))), (6, .int (iI 1)), (0, .ref mb), (1, .int (iI b)), (2, .int (iI d)), (3, .int (iI lo)), (4, .int (iI hi))]) C hl (by decide) rfl dX4_figures_100 (fun ls hl => ?_)
                            refine r_aload_n C rfl (lv_at hl 4 rfl) dX4_figures_102 ?_
                            refine r_dup C rfl dX4_figures_103 ?_
                            refine r_get C (ci := 4) (v := .int (iI ((up M 4 ((M 4) + 1)) 4))) rfl uin4 hm.o 10 (by decide) q_795 rfl rfl dX4_figures_104 ?_
                            have er56 : (up M 4 ((M 4) + 1)) 4 = (M 4) + 1 := (by rw [up_s])
                            rw [er56]
                            have b57 := hMb 4
                            refine r_iconst C dX4_figures_107 ?_
                            refine r_iadd C dX4_figures_108 ?_
                            refine r_put C (ci := 4) rfl uin4 tyX4_ok nmX4 hm.o hF rfl 10 (by decide) q_795 rfl rfl rfl rfl (by show 10 < 13; decide) dX4_figures_109 (fun H58 locs58 h58 ho58 hz58 hF => ?_)
                            have htx := htx.kept (ho58 _ (by omega))
                            have hm : mdAt g mb (up (up M 4 ((M 4) + 1)) 4 (((M 4) + 1) + 1)) H58 := hm.put4 h58 ho58
                            refine r_iload C (lv_at hl 3 rfl) dX4_figures_112 ?_
                            refine r_bipush C (by decide) dX4_figures_114 ?_
                            refine r_idiv C (by omega) (by omega) dX4_figures_116 ?_
                            rw [show (1 : Int) / 10 = 0 from rfl]
                            refine r_istore (lv' := [(6, .int (iI 0)), (5, .int (iI ((0 + ((-1) * 10)) + (((TX (p + 1)) - 48) * 1)))), (8, .int (iI ((0 + ((-1) * 10)) + (((TX (p + 1)) - 48) * 1)))), (7, .int (iI ((TX (p + 1)) - 48))), (0, .ref mb), (1, .int (iI b)), (2, .int (iI d)), (3, .int (iI lo)), (4, .int (iI hi))]) C hl (by decide) rfl dX4_figures_117 (fun ls hl => ?_)
                            refine r_goto (tgt := 16) C (by decide) dX4_figures_119 ?_
                            refine r_iload C (lv_at hl 0 rfl) dX4_figures_16 ?_
                            refine r_if_le (tgt := 122) C (by decide) (by decide) dX4_figures_18 (fun c59 => ?_) (fun c59 => ?_)
                            · refine r_iload_n C rfl (lv_at hl 5 rfl) dX4_figures_122 ?_
                              refine r_iconst C dX4_figures_123 ?_
                              refine r_icmp_ne (tgt := 131) C (by decide) (by omega) (by decide) dX4_figures_124 (fun c60 => ?_) (fun c60 => ?_)
                              · refine r_iload C (lv_at hl 1 rfl) dX4_figures_131 ?_
                                have eP : (P : Int) = ((M 4) + 1) + 1 := (by rw [← hP2]; unfold fgP fok; (repeat' split) <;> omega)
                                exact r_iretH C rfl rfl (congrArg iI (by rw [← hX]; unfold fgV fok; (repeat' split) <;> omega)) hF (by rw [eP]; rw [up_up] at hm; exact ⟨hm, htx⟩) dX4_figures_133
                              · refine r_iconst C dX4_figures_127 ?_
                                refine r_goto (tgt := 133) C (by decide) dX4_figures_128 ?_
                                have eP : (P : Int) = ((M 4) + 1) + 1 := (by rw [← hP2]; unfold fgP fok; (repeat' split) <;> omega)
                                exact r_iretH C rfl rfl (congrArg iI (by rw [← hX]; unfold fgV fok; (repeat' split) <;> omega)) hF (by rw [eP]; rw [up_up] at hm; exact ⟨hm, htx⟩) dX4_figures_133
                            · exact absurd c59 (by decide)
                          · refine r_iconst C dX4_figures_96 ?_
                            have eP : (P : Int) = (M 4) + 1 := (by rw [← hP2]; unfold fgP fok; (repeat' split) <;> omega)
                            exact r_iretH C rfl rfl (congrArg iI (by rw [← hX]; unfold fgV fok; (repeat' split) <;> omega)) hF (by rw [eP]; exact ⟨hm, htx⟩) dX4_figures_97
              · refine r_iconst C dX4_figures_96 ?_
                have eP : (P : Int) = M 4 := (by rw [← hP2]; unfold fgP fok; (repeat' split) <;> omega)
                exact r_iretH C rfl rfl (congrArg iI (by rw [← hX]; unfold fgV fok; (repeat' split) <;> omega)) hF (by rw [eP, up_id rfl]; exact ⟨hm, htx⟩) dX4_figures_97
        · refine r_aload_n C rfl (lv_at hl 2 rfl) dX4_figures_37 ?_
          refine r_get C (ci := 4) (v := .ref (mb + 1)) rfl uin4 hm.o 1 (by decide) q_786 rfl rfl dX4_figures_38 ?_
          refine r_aload_n C rfl (lv_at hl 2 rfl) dX4_figures_41 ?_
          refine r_get C (ci := 4) (v := .int (iI (M 4))) rfl uin4 hm.o 10 (by decide) q_795 rfl rfl dX4_figures_42 ?_
          have b61 := hMb 4
          refine r_iald (v := TX p) C htx p (by omega) (by omega) (by omega) rfl dX4_figures_45 ?_
          have b62 := hTX p (by omega)
          refine r_bipush C (by decide) dX4_figures_46 ?_
          refine r_isub C dX4_figures_48 ?_
          refine r_goto (tgt := 53) C (by decide) dX4_figures_49 ?_
          have ht0 : tdg TX n p = (TX p) - 48 := if_pos (by omega)
          refine r_istore (lv' := [(7, .int (iI ((TX p) - 48))), (6, .int (iI 10)), (5, .int (iI 0)), (0, .ref mb), (1, .int (iI b)), (2, .int (iI d)), (3, .int (iI lo)), (4, .int (iI hi))]) C hl (by decide) rfl dX4_figures_53 (fun ls hl => ?_)
          refine r_iload C (lv_at hl 2 rfl) dX4_figures_55 ?_
          refine r_iload C (lv_at hl 0 rfl) dX4_figures_57 ?_
          refine r_iload C (lv_at hl 1 rfl) dX4_figures_59 ?_
          refine r_imul C dX4_figures_61 ?_
          refine r_iadd C dX4_figures_62 ?_
          refine r_istore (lv' := [(8, .int (iI (0 + (((TX p) - 48) * 10)))), (7, .int (iI ((TX p) - 48))), (6, .int (iI 10)), (5, .int (iI 0)), (0, .ref mb), (1, .int (iI b)), (2, .int (iI d)), (3, .int (iI lo)), (4, .int (iI hi))]) C hl (by decide) rfl dX4_figures_63 (fun ls hl => ?_)
          refine r_iload C (lv_at hl 1 rfl) dX4_figures_65 ?_
          refine r_i2l C (by omega) dX4_figures_67 ?_
          refine r_lconst C 0 rfl dX4_figures_68 ?_
          refine r_ldc2 C (v := iL 9) q_861 dX4_figures_69 ?_
          refine r_sPi (rest := []) C (k_X4_in l g ((TX p) - 48) 0 9 (by omega) (by omega) (by omega)) s_RX4_39 trivial hl.1 rfl ⟨by decide, by decide⟩ rfl (Nat.le_of_ble_eq_true rfl) ⟨Nat.le_refl 0, Nat.le_refl 0⟩ dX4_figures_72 ?_
          refine r_ifP_eq (tgt := 96) C (by decide) dX4_figures_75 (fun c63 => ?_) (fun c63 => ?_)
          · refine r_iconst C dX4_figures_96 ?_
            have eP : (P : Int) = M 4 := (by rw [← hP2]; unfold fgP fok; (repeat' split) <;> omega)
            exact r_iretH C rfl rfl (congrArg iI (by rw [← hX]; unfold fgV fok; (repeat' split) <;> omega)) hF (by rw [eP, up_id rfl]; exact ⟨hm, htx⟩) dX4_figures_97
          · refine r_iload C (lv_at hl 0 rfl) dX4_figures_78 ?_
            refine r_iload C (lv_at hl 8 rfl) dX4_figures_80 ?_
            refine r_icmp_gt (tgt := 96) C (by decide) (by omega) (by omega) dX4_figures_82 (fun c64 => ?_) (fun c64 => ?_)
            · refine r_iconst C dX4_figures_96 ?_
              have eP : (P : Int) = M 4 := (by rw [← hP2]; unfold fgP fok; (repeat' split) <;> omega)
              exact r_iretH C rfl rfl (congrArg iI (by rw [← hX]; unfold fgV fok; (repeat' split) <;> omega)) hF (by rw [eP, up_id rfl]; exact ⟨hm, htx⟩) dX4_figures_97
            · refine r_iload C (lv_at hl 0 rfl) dX4_figures_85 ?_
              refine r_iload C (lv_at hl 2 rfl) dX4_figures_87 ?_
              refine r_iadd C dX4_figures_89 ?_
              refine r_iconst C dX4_figures_90 ?_
              refine r_isub C dX4_figures_91 ?_
              refine r_iload_n C rfl (lv_at hl 7 rfl) dX4_figures_92 ?_
              refine r_icmp_ge (tgt := 98) C (by decide) (by omega) (by omega) dX4_figures_93 (fun c65 => ?_) (fun c65 => ?_)
              · refine r_iload C (lv_at hl 0 rfl) dX4_figures_98 ?_
                refine r_istore (lv' := [(5, .int (iI (0 + (((TX p) - 48) * 10)))), (8, .int (iI (0 + (((TX p) - 48) * 10)))), (7, .int (iI ((TX p) - 48))), (6, .int (iI 10)), (0, .ref mb), (1, .int (iI b)), (2, .int (iI d)), (3, .int (iI lo)), (4, .int (iI hi))]) C hl (by decide) rfl dX4_figures_100 (fun ls hl => ?_)
                refine r_aload_n C rfl (lv_at hl 4 rfl) dX4_figures_102 ?_
                refine r_dup C rfl dX4_figures_103 ?_
                refine r_get C (ci := 4) (v := .int (iI (M 4))) rfl uin4 hm.o 10 (by decide) q_795 rfl rfl dX4_figures_104 ?_
                have b66 := hMb 4
                refine r_iconst C dX4_figures_107 ?_
                refine r_iadd C dX4_figures_108 ?_
                refine r_put C (ci := 4) rfl uin4 tyX4_ok nmX4 hm.o hF rfl 10 (by decide) q_795 rfl rfl rfl rfl (by show 10 < 13; decide) dX4_figures_109 (fun H67 locs67 h67 ho67 hz67 hF => ?_)
                have htx := htx.kept (ho67 _ (by omega))
                have hm : mdAt g mb (up M 4 ((M 4) + 1)) H67 := hm.put4 h67 ho67
                refine r_iload C (lv_at hl 3 rfl) dX4_figures_112 ?_
                refine r_bipush C (by decide) dX4_figures_114 ?_
                refine r_idiv C (by omega) (by omega) dX4_figures_116 ?_
                rw [show (10 : Int) / 10 = 1 from rfl]
                refine r_istore (lv' := [(6, .int (iI 1)), (5, .int (iI (0 + (((TX p) - 48) * 10)))), (8, .int (iI (0 + (((TX p) - 48) * 10)))), (7, .int (iI ((TX p) - 48))), (0, .ref mb), (1, .int (iI b)), (2, .int (iI d)), (3, .int (iI lo)), (4, .int (iI hi))]) C hl (by decide) rfl dX4_figures_117 (fun ls hl => ?_)
                refine r_goto (tgt := 16) C (by decide) dX4_figures_119 ?_
                refine r_iload C (lv_at hl 0 rfl) dX4_figures_16 ?_
                refine r_if_le (tgt := 122) C (by decide) (by decide) dX4_figures_18 (fun c68 => ?_) (fun c68 => ?_)
                · exact absurd c68 (by decide)
                · refine r_iload_n C rfl (lv_at hl 5 rfl) dX4_figures_21 ?_
                  refine r_iconst C dX4_figures_22 ?_
                  refine r_icmp_eq (tgt := 122) C (by decide) (by omega) (by decide) dX4_figures_23 (fun c69 => ?_) (fun c69 => ?_)
                  · exact absurd c69 (by omega)
                  · refine r_aload_n C rfl (lv_at hl 4 rfl) dX4_figures_26 ?_
                    refine r_get C (ci := 4) (v := .int (iI ((up M 4 ((M 4) + 1)) 4))) rfl uin4 hm.o 10 (by decide) q_795 rfl rfl dX4_figures_27 ?_
                    have er70 : (up M 4 ((M 4) + 1)) 4 = (M 4) + 1 := (by rw [up_s])
                    rw [er70]
                    have b71 := hMb 4
                    refine r_aload_n C rfl (lv_at hl 4 rfl) dX4_figures_30 ?_
                    refine r_get C (ci := 4) (v := .int (iI ((up M 4 ((M 4) + 1)) 1))) rfl uin4 hm.o 2 (by decide) q_787 rfl rfl dX4_figures_31 ?_
                    have er72 : (up M 4 ((M 4) + 1)) 1 = M 1 := (by rw [up_n _ _ (by omega)])
                    rw [er72]
                    have b73 := hMb 1
                    refine r_icmp_ge (tgt := 52) C (by decide) (by omega) (by omega) dX4_figures_34 (fun c74 => ?_) (fun c74 => ?_)
                    · refine r_iconst C dX4_figures_52 ?_
                      have ht1 : tdg TX n (p + 1) = (-1) := if_neg (by omega)
                      refine r_istore (lv' := [(7, .int (iI (-1))), (6, .int (iI 1)), (5, .int (iI (0 + (((TX p) - 48) * 10)))), (8, .int (iI (0 + (((TX p) - 48) * 10)))), (0, .ref mb), (1, .int (iI b)), (2, .int (iI d)), (3, .int (iI lo)), (4, .int (iI hi))]) C hl (by decide) rfl dX4_figures_53 (fun ls hl => ?_)
                      refine r_iload C (lv_at hl 2 rfl) dX4_figures_55 ?_
                      refine r_iload C (lv_at hl 0 rfl) dX4_figures_57 ?_
                      refine r_iload C (lv_at hl 1 rfl) dX4_figures_59 ?_
                      refine r_imul C dX4_figures_61 ?_
                      refine r_iadd C dX4_figures_62 ?_
                      refine r_istore (lv' := [(8, .int (iI ((0 + (((TX p) - 48) * 10)) + ((-1) * 1)))), (7, .int (iI (-1))), (6, .int (iI 1)), (5, .int (iI (0 + (((TX p) - 48) * 10)))), (0, .ref mb), (1, .int (iI b)), (2, .int (iI d)), (3, .int (iI lo)), (4, .int (iI hi))]) C hl (by decide) rfl dX4_figures_63 (fun ls hl => ?_)
                      refine r_iload C (lv_at hl 1 rfl) dX4_figures_65 ?_
                      refine r_i2l C (by decide) dX4_figures_67 ?_
                      refine r_lconst C 0 rfl dX4_figures_68 ?_
                      refine r_ldc2 C (v := iL 9) q_861 dX4_figures_69 ?_
                      refine r_sPi (rest := []) C (k_X4_in l g (-1) 0 9 (by omega) (by omega) (by omega)) s_RX4_39 trivial hl.1 rfl ⟨by decide, by decide⟩ rfl (Nat.le_of_ble_eq_true rfl) ⟨Nat.le_refl 0, Nat.le_refl 0⟩ dX4_figures_72 ?_
                      refine r_ifP_eq (tgt := 96) C (by decide) dX4_figures_75 (fun c75 => ?_) (fun c75 => ?_)
                      · refine r_iconst C dX4_figures_96 ?_
                        have eP : (P : Int) = (M 4) + 1 := (by rw [← hP2]; unfold fgP fok; (repeat' split) <;> omega)
                        exact r_iretH C rfl rfl (congrArg iI (by rw [← hX]; unfold fgV fok; (repeat' split) <;> omega)) hF (by rw [eP]; exact ⟨hm, htx⟩) dX4_figures_97
                      · refine r_iload C (lv_at hl 0 rfl) dX4_figures_78 ?_
                        refine r_iload C (lv_at hl 8 rfl) dX4_figures_80 ?_
                        refine r_icmp_gt (tgt := 96) C (by decide) (by omega) (by omega) dX4_figures_82 (fun c76 => ?_) (fun c76 => ?_)
                        · refine r_iconst C dX4_figures_96 ?_
                          have eP : (P : Int) = (M 4) + 1 := (by rw [← hP2]; unfold fgP fok; (repeat' split) <;> omega)
                          exact r_iretH C rfl rfl (congrArg iI (by rw [← hX]; unfold fgV fok; (repeat' split) <;> omega)) hF (by rw [eP]; exact ⟨hm, htx⟩) dX4_figures_97
                        · refine r_iload C (lv_at hl 0 rfl) dX4_figures_85 ?_
                          refine r_iload C (lv_at hl 2 rfl) dX4_figures_87 ?_
                          refine r_iadd C dX4_figures_89 ?_
                          refine r_iconst C dX4_figures_90 ?_
                          refine r_isub C dX4_figures_91 ?_
                          refine r_iload_n C rfl (lv_at hl 7 rfl) dX4_figures_92 ?_
                          refine r_icmp_ge (tgt := 98) C (by decide) (by omega) (by omega) dX4_figures_93 (fun c77 => ?_) (fun c77 => ?_)
                          · refine r_iload C (lv_at hl 0 rfl) dX4_figures_98 ?_
                            refine r_istore (lv' := [(5, .int (iI ((0 + (((TX p) - 48) * 10)) + ((-1) * 1)))), (8, .int (iI ((0 + (((TX p) - 48) * 10)) + ((-1) * 1)))), (7, .int (iI (-1))), (6, .int (iI 1)), (0, .ref mb), (1, .int (iI b)), (2, .int (iI d)), (3, .int (iI lo)), (4, .int (iI hi))]) C hl (by decide) rfl dX4_figures_100 (fun ls hl => ?_)
                            refine r_aload_n C rfl (lv_at hl 4 rfl) dX4_figures_102 ?_
                            refine r_dup C rfl dX4_figures_103 ?_
                            refine r_get C (ci := 4) (v := .int (iI ((up M 4 ((M 4) + 1)) 4))) rfl uin4 hm.o 10 (by decide) q_795 rfl rfl dX4_figures_104 ?_
                            have er78 : (up M 4 ((M 4) + 1)) 4 = (M 4) + 1 := (by rw [up_s])
                            rw [er78]
                            have b79 := hMb 4
                            refine r_iconst C dX4_figures_107 ?_
                            refine r_iadd C dX4_figures_108 ?_
                            refine r_put C (ci := 4) rfl uin4 tyX4_ok nmX4 hm.o hF rfl 10 (by decide) q_795 rfl rfl rfl rfl (by show 10 < 13; decide) dX4_figures_109 (fun H80 locs80 h80 ho80 hz80 hF => ?_)
                            have htx := htx.kept (ho80 _ (by omega))
                            have hm : mdAt g mb (up (up M 4 ((M 4) + 1)) 4 (((M 4) + 1) + 1)) H80 := hm.put4 h80 ho80
                            refine r_iload C (lv_at hl 3 rfl) dX4_figures_112 ?_
                            refine r_bipush C (by decide) dX4_figures_114 ?_
                            refine r_idiv C (by omega) (by omega) dX4_figures_116 ?_
                            rw [show (1 : Int) / 10 = 0 from rfl]
                            refine r_istore (lv' := [(6, .int (iI 0)), (5, .int (iI ((0 + (((TX p) - 48) * 10)) + ((-1) * 1)))), (8, .int (iI ((0 + (((TX p) - 48) * 10)) + ((-1) * 1)))), (7, .int (iI (-1))), (0, .ref mb), (1, .int (iI b)), (2, .int (iI d)), (3, .int (iI lo)), (4, .int (iI hi))]) C hl (by decide) rfl dX4_figures_117 (fun ls hl => ?_)
                            refine r_goto (tgt := 16) C (by decide) dX4_figures_119 ?_
                            refine r_iload C (lv_at hl 0 rfl) dX4_figures_16 ?_
                            refine r_if_le (tgt := 122) C (by decide) (by decide) dX4_figures_18 (fun c81 => ?_) (fun c81 => ?_)
                            · refine r_iload_n C rfl (lv_at hl 5 rfl) dX4_figures_122 ?_
                              refine r_iconst C dX4_figures_123 ?_
                              refine r_icmp_ne (tgt := 131) C (by decide) (by omega) (by decide) dX4_figures_124 (fun c82 => ?_) (fun c82 => ?_)
                              · refine r_iload C (lv_at hl 1 rfl) dX4_figures_131 ?_
                                have eP : (P : Int) = ((M 4) + 1) + 1 := (by rw [← hP2]; unfold fgP fok; (repeat' split) <;> omega)
                                exact r_iretH C rfl rfl (congrArg iI (by rw [← hX]; unfold fgV fok; (repeat' split) <;> omega)) hF (by rw [eP]; rw [up_up] at hm; exact ⟨hm, htx⟩) dX4_figures_133
                              · refine r_iconst C dX4_figures_127 ?_
                                refine r_goto (tgt := 133) C (by decide) dX4_figures_128 ?_
                                have eP : (P : Int) = ((M 4) + 1) + 1 := (by rw [← hP2]; unfold fgP fok; (repeat' split) <;> omega)
                                exact r_iretH C rfl rfl (congrArg iI (by rw [← hX]; unfold fgV fok; (repeat' split) <;> omega)) hF (by rw [eP]; rw [up_up] at hm; exact ⟨hm, htx⟩) dX4_figures_133
                            · exact absurd c81 (by decide)
                          · refine r_iconst C dX4_figures_96 ?_
                            have eP : (P : Int) = (M 4) + 1 := (by rw [← hP2]; unfold fgP fok; (repeat' split) <;> omega)
                            exact r_iretH C rfl rfl (congrArg iI (by rw [← hX]; unfold fgV fok; (repeat' split) <;> omega)) hF (by rw [eP]; exact ⟨hm, htx⟩) dX4_figures_97
                    · refine r_aload_n C rfl (lv_at hl 4 rfl) dX4_figures_37 ?_
                      refine r_get C (ci := 4) (v := .ref (mb + 1)) rfl uin4 hm.o 1 (by decide) q_786 rfl rfl dX4_figures_38 ?_
                      refine r_aload_n C rfl (lv_at hl 4 rfl) dX4_figures_41 ?_
                      refine r_get C (ci := 4) (v := .int (iI ((up M 4 ((M 4) + 1)) 4))) rfl uin4 hm.o 10 (by decide) q_795 rfl rfl dX4_figures_42 ?_
                      have er83 : (up M 4 ((M 4) + 1)) 4 = (M 4) + 1 := (by rw [up_s])
                      rw [er83]
                      have b84 := hMb 4
                      refine r_iald (v := TX (p + 1)) C htx (p + 1) (by omega) (by omega) (by omega) rfl dX4_figures_45 ?_
                      have b85 := hTX (p + 1) (by omega)
                      refine r_bipush C (by decide) dX4_figures_46 ?_
                      refine r_isub C dX4_figures_48 ?_
                      refine r_goto (tgt := 53) C (by decide) dX4_figures_49 ?_
                      have ht1 : tdg TX n (p + 1) = (TX (p + 1)) - 48 := if_pos (by omega)
                      refine r_istore (lv' := [(7, .int (iI ((TX (p + 1)) - 48))), (6, .int (iI 1)), (5, .int (iI (0 + (((TX p) - 48) * 10)))), (8, .int (iI (0 + (((TX p) - 48) * 10)))), (0, .ref mb), (1, .int (iI b)), (2, .int (iI d)), (3, .int (iI lo)), (4, .int (iI hi))]) C hl (by decide) rfl dX4_figures_53 (fun ls hl => ?_)
                      refine r_iload C (lv_at hl 2 rfl) dX4_figures_55 ?_
                      refine r_iload C (lv_at hl 0 rfl) dX4_figures_57 ?_
                      refine r_iload C (lv_at hl 1 rfl) dX4_figures_59 ?_
                      refine r_imul C dX4_figures_61 ?_
                      refine r_iadd C dX4_figures_62 ?_
                      refine r_istore (lv' := [(8, .int (iI ((0 + (((TX p) - 48) * 10)) + (((TX (p + 1)) - 48) * 1)))), (7, .int (iI ((TX (p + 1)) - 48))), (6, .int (iI 1)), (5, .int (iI (0 + (((TX p) - 48) * 10)))), (0, .ref mb), (1, .int (iI b)), (2, .int (iI d)), (3, .int (iI lo)), (4, .int (iI hi))]) C hl (by decide) rfl dX4_figures_63 (fun ls hl => ?_)
                      refine r_iload C (lv_at hl 1 rfl) dX4_figures_65 ?_
                      refine r_i2l C (by omega) dX4_figures_67 ?_
                      refine r_lconst C 0 rfl dX4_figures_68 ?_
                      refine r_ldc2 C (v := iL 9) q_861 dX4_figures_69 ?_
                      refine r_sPi (rest := []) C (k_X4_in l g ((TX (p + 1)) - 48) 0 9 (by omega) (by omega) (by omega)) s_RX4_39 trivial hl.1 rfl ⟨by decide, by decide⟩ rfl (Nat.le_of_ble_eq_true rfl) ⟨Nat.le_refl 0, Nat.le_refl 0⟩ dX4_figures_72 ?_
                      refine r_ifP_eq (tgt := 96) C (by decide) dX4_figures_75 (fun c86 => ?_) (fun c86 => ?_)
                      · refine r_iconst C dX4_figures_96 ?_
                        have eP : (P : Int) = (M 4) + 1 := (by rw [← hP2]; unfold fgP fok; (repeat' split) <;> omega)
                        exact r_iretH C rfl rfl (congrArg iI (by rw [← hX]; unfold fgV fok; (repeat' split) <;> omega)) hF (by rw [eP]; exact ⟨hm, htx⟩) dX4_figures_97
                      · refine r_iload C (lv_at hl 0 rfl) dX4_figures_78 ?_
                        refine r_iload C (lv_at hl 8 rfl) dX4_figures_80 ?_
                        refine r_icmp_gt (tgt := 96) C (by decide) (by omega) (by omega) dX4_figures_82 (fun c87 => ?_) (fun c87 => ?_)
                        · refine r_iconst C dX4_figures_96 ?_
                          have eP : (P : Int) = (M 4) + 1 := (by rw [← hP2]; unfold fgP fok; (repeat' split) <;> omega)
                          exact r_iretH C rfl rfl (congrArg iI (by rw [← hX]; unfold fgV fok; (repeat' split) <;> omega)) hF (by rw [eP]; exact ⟨hm, htx⟩) dX4_figures_97
                        · refine r_iload C (lv_at hl 0 rfl) dX4_figures_85 ?_
                          refine r_iload C (lv_at hl 2 rfl) dX4_figures_87 ?_
                          refine r_iadd C dX4_figures_89 ?_
                          refine r_iconst C dX4_figures_90 ?_
                          refine r_isub C dX4_figures_91 ?_
                          refine r_iload_n C rfl (lv_at hl 7 rfl) dX4_figures_92 ?_
                          refine r_icmp_ge (tgt := 98) C (by decide) (by omega) (by omega) dX4_figures_93 (fun c88 => ?_) (fun c88 => ?_)
                          · refine r_iload C (lv_at hl 0 rfl) dX4_figures_98 ?_
                            refine r_istore (lv' := [(5, .int (iI ((0 + (((TX p) - 48) * 10)) + (((TX (p + 1)) - 48) * 1)))), (8, .int (iI ((0 + (((TX p) - 48) * 10)) + (((TX (p + 1)) - 48) * 1)))), (7, .int (iI ((TX (p + 1)) - 48))), (6, .int (iI 1)), (0, .ref mb), (1, .int (iI b)), (2, .int (iI d)), (3, .int (iI lo)), (4, .int (iI hi))]) C hl (by decide) rfl dX4_figures_100 (fun ls hl => ?_)
                            refine r_aload_n C rfl (lv_at hl 4 rfl) dX4_figures_102 ?_
                            refine r_dup C rfl dX4_figures_103 ?_
                            refine r_get C (ci := 4) (v := .int (iI ((up M 4 ((M 4) + 1)) 4))) rfl uin4 hm.o 10 (by decide) q_795 rfl rfl dX4_figures_104 ?_
                            have er89 : (up M 4 ((M 4) + 1)) 4 = (M 4) + 1 := (by rw [up_s])
                            rw [er89]
                            have b90 := hMb 4
                            refine r_iconst C dX4_figures_107 ?_
                            refine r_iadd C dX4_figures_108 ?_
                            refine r_put C (ci := 4) rfl uin4 tyX4_ok nmX4 hm.o hF rfl 10 (by decide) q_795 rfl rfl rfl rfl (by show 10 < 13; decide) dX4_figures_109 (fun H91 locs91 h91 ho91 hz91 hF => ?_)
                            have htx := htx.kept (ho91 _ (by omega))
                            have hm : mdAt g mb (up (up M 4 ((M 4) + 1)) 4 (((M 4) + 1) + 1)) H91 := hm.put4 h91 ho91
                            refine r_iload C (lv_at hl 3 rfl) dX4_figures_112 ?_
                            refine r_bipush C (by decide) dX4_figures_114 ?_
                            refine r_idiv C (by omega) (by omega) dX4_figures_116 ?_
                            rw [show (1 : Int) / 10 = 0 from rfl]
                            refine r_istore (lv' := [(6, .int (iI 0)), (5, .int (iI ((0 + (((TX p) - 48) * 10)) + (((TX (p + 1)) - 48) * 1)))), (8, .int (iI ((0 + (((TX p) - 48) * 10)) + (((TX (p + 1)) - 48) * 1)))), (7, .int (iI ((TX (p + 1)) - 48))), (0, .ref mb), (1, .int (iI b)), (2, .int (iI d)), (3, .int (iI lo)), (4, .int (iI hi))]) C hl (by decide) rfl dX4_figures_117 (fun ls hl => ?_)
                            refine r_goto (tgt := 16) C (by decide) dX4_figures_119 ?_
                            refine r_iload C (lv_at hl 0 rfl) dX4_figures_16 ?_
                            refine r_if_le (tgt := 122) C (by decide) (by decide) dX4_figures_18 (fun c92 => ?_) (fun c92 => ?_)
                            · refine r_iload_n C rfl (lv_at hl 5 rfl) dX4_figures_122 ?_
                              refine r_iconst C dX4_figures_123 ?_
                              refine r_icmp_ne (tgt := 131) C (by decide) (by omega) (by decide) dX4_figures_124 (fun c93 => ?_) (fun c93 => ?_)
                              · refine r_iload C (lv_at hl 1 rfl) dX4_figures_131 ?_
                                have eP : (P : Int) = ((M 4) + 1) + 1 := (by rw [← hP2]; unfold fgP fok; (repeat' split) <;> omega)
                                exact r_iretH C rfl rfl (congrArg iI (by rw [← hX]; unfold fgV fok; (repeat' split) <;> omega)) hF (by rw [eP]; rw [up_up] at hm; exact ⟨hm, htx⟩) dX4_figures_133
                              · refine r_iconst C dX4_figures_127 ?_
                                refine r_goto (tgt := 133) C (by decide) dX4_figures_128 ?_
                                have eP : (P : Int) = ((M 4) + 1) + 1 := (by rw [← hP2]; unfold fgP fok; (repeat' split) <;> omega)
                                exact r_iretH C rfl rfl (congrArg iI (by rw [← hX]; unfold fgV fok; (repeat' split) <;> omega)) hF (by rw [eP]; rw [up_up] at hm; exact ⟨hm, htx⟩) dX4_figures_133
                            · exact absurd c92 (by decide)
                          · refine r_iconst C dX4_figures_96 ?_
                            have eP : (P : Int) = (M 4) + 1 := (by rw [← hP2]; unfold fgP fok; (repeat' split) <;> omega)
                            exact r_iretH C rfl rfl (congrArg iI (by rw [← hX]; unfold fgV fok; (repeat' split) <;> omega)) hF (by rw [eP]; exact ⟨hm, htx⟩) dX4_figures_97
              · refine r_iconst C dX4_figures_96 ?_
                have eP : (P : Int) = M 4 := (by rw [← hP2]; unfold fgP fok; (repeat' split) <;> omega)
                exact r_iretH C rfl rfl (congrArg iI (by rw [← hX]; unfold fgV fok; (repeat' split) <;> omega)) hF (by rw [eP, up_id rfl]; exact ⟨hm, htx⟩) dX4_figures_97
set_option maxHeartbeats 4000000 in
theorem k_X4_doesWrites (l : Launch) (g : Gt) (mb a : Nat) (a0 a1 a2 a4 a5 : Int) (F : Nat → Int) (T : Int) (hne : a ≠ mb) (hJ : J F z0 T) (hT : T ≤ 950000) (x y z : Int) (s q e : Nat) (hx : x = (s : Int)) (hy : y = (q : Int)) (hz : z = (e : Int)) (hs : s < 5) (hq : q < 40) (he : e < 40) : CH l yX4_doesWrites cX4_doesWrites 6 (some .boolean) 9 207 g [.ref mb, .ref a, .int (iI x), .int (iI y), .int (iI z)] (fun H => mdX g mb a0 a1 a2 a4 a5 H ∧ aAt g a 262 F H) (some (.int (iI (pI (z < y ∨ x < F 0))))) (fun q => q = mb ∨ q = a) (fun H => mdX g mb a0 a1 a2 a4 a5 H ∧ aAt g a 262 (rsF F s q e) H) := by
  refine ch_of "LentRoomModel" (by decide) rfl (Nat.le_of_ble_eq_true rfl) ?_
  intro zp ze zs zm za zb zt zc ls C hP hF hl
  obtain ⟨⟨M, hMb, h0, h1, h2, h4, h5, hm⟩, hr⟩ := hP
  have hl : lv_has ls 6 [(0, .ref mb), (1, .ref a), (2, .int (iI x)), (3, .int (iI y)), (4, .int (iI z))] := hl
  have hS := hJ.S
  have hSm : Sm F := hS.m (by omega)
  have hZ := hJ.Z
  have hn5 := hJ.n
  have hws := fun (hn : (s : Int) < F 0) k hk hk2 => hJ.wrs hs hn (q := q) k hk hk2
  have cut3 : ∀ (N : Nat) (i : Nat) (M : Nat → Int) (v5 : Int), 41 - i < N → (i + q ≤ e + 1 ∨ i = 0) → (i = 0 ∨ x < F 0) → (i ≤ 40) → (∀ k, Rg (M k)) → (M 0 = a0) → (M 1 = a1) → (M 2 = a2) → (M 4 = a4) → (M 5 = a5) → (J (wrs F s q i) z0 (T + 6 * i) ∧ wrs F s q i 0 = F 0) → (v5 = y + i) → ∀ (H : Heap) (locs : List Loc), mdAt g mb M H → aAt g a 262 (wrs F s q i) H → Fr (fun q => q = mb ∨ q = a) zs.heap H locs → ∀ ls : Array Slot, lv_has ls 6 [(0, .ref mb), (1, .ref a), (2, .int (iI x)), (3, .int (iI y)), (4, .int (iI z)), (5, .int (iI v5))] → W zp l ze (rmc 9 207) zs zm za zb zt zc H locs 0 0 (MQ zb (HQ (some (.int (iI (pI (z < y ∨ x < F 0))))) (fun q => q = mb ∨ q = a) (fun H => mdX g mb a0 a1 a2 a4 a5 H ∧ aAt g a 262 (rsF F s q e) H)) za zs 0 0 (fun q => q = mb ∨ q = a)) (F0 zm 3 ls []) := by
    intro N
    induction N with
    | zero => intro i M v5; exact fun hms => absurd hms (Nat.not_lt_zero _)
    | succ N ih =>
      intro i M v5 hms hi hsp hii hMb h0 h1 h2 h4 h5 hJ1 hv5 H locs hm hr hF ls hl
      have hSm1 : Sm (wrs F s q i) := hJ1.1.S.m (by omega)
      have hJ10 := hJ1.2
      refine r_iload C (lv_at hl 5 rfl) dX4_doesWrites_3 ?_
      refine r_iload C (lv_at hl 4 rfl) dX4_doesWrites_5 ?_
      refine r_icmp_gt (tgt := 35) C (by decide) (by omega) (by omega) dX4_doesWrites_7 (fun c1 => ?_) (fun c1 => ?_)
      · refine r_iconst C dX4_doesWrites_35 ?_
        exact r_iretH C rfl rfl (congrArg iI (pI_t (by omega)).symm) hF (by exact ⟨⟨M, hMb, (by first | exact h0 | omega), (by first | exact h1 | omega), (by first | exact h2 | omega), (by first | exact h4 | omega), (by first | exact h5 | omega), hm⟩, by rw [show rsF F s q e = wrs F s q i from (by unfold rsF; split <;> first | (rw [show e + 1 - q = i by omega]) | (rw [show i = 0 by omega]; rfl))]; exact hr⟩) dX4_doesWrites_36
      · refine r_aload_n C rfl (lv_at hl 1 rfl) dX4_doesWrites_10 ?_
        refine r_iload_n C rfl (lv_at hl 2 rfl) dX4_doesWrites_11 ?_
        refine r_sPi (rest := []) C (k_X4_isSpace l g a (wrs F s q i) hSm1 x (by omega)) s_RX4_94 hr hl.1 rfl ⟨by decide, by decide⟩ rfl (Nat.le_of_ble_eq_true rfl) ⟨Nat.le_refl 0, Nat.le_refl 0⟩ dX4_doesWrites_12 ?_
        have b2 := hSm1.n
        refine r_ifP_ne (tgt := 20) C (by decide) dX4_doesWrites_15 (fun c3 => ?_) (fun c3 => ?_)
        · have hxF : x < F 0 := (by omega)
          refine r_aload_n C rfl (lv_at hl 0 rfl) dX4_doesWrites_20 ?_
          refine r_aload_n C rfl (lv_at hl 1 rfl) dX4_doesWrites_21 ?_
          refine r_iload_n C rfl (lv_at hl 2 rfl) dX4_doesWrites_22 ?_
          refine r_iload C (lv_at hl 5 rfl) dX4_doesWrites_23 ?_
          refine r_vHi (rest := []) C (k_X4_writeOn l g mb M hMb a (wrs F s q i) z0 (T + 6 * i) (by omega) hJ1.1 (by omega) x s (by omega) (by omega) (by omega) v5 (q + i) (by omega) (by omega)) s_RX4_128 ⟨hm, hr⟩ hF (fun _ h => h) (recv C (ci := 4) rfl hm.o) hl.1 rfl ⟨by decide, by decide⟩ rfl (Nat.le_of_ble_eq_true rfl) ⟨Nat.le_refl 0, Nat.le_refl 0⟩ dX4_doesWrites_25 (fun H6 locs6 h6 ho6 hz6 hF => ?_)
          obtain ⟨hm, hr⟩ := h6
          have b4 := wrR_b (wrs F s q i) s (q + i)
          have b5 := wrL_5 hSm1 s (q + i)
          refine r_pop C rfl dX4_doesWrites_28 ?_
          refine r_iinc (lv' := [(5, .int (iI (v5 + 1))), (0, .ref mb), (1, .ref a), (2, .int (iI x)), (3, .int (iI y)), (4, .int (iI z))]) C hl (q := 5) rfl (by decide) rfl dX4_doesWrites_29 (fun ls hl => ?_)
          refine r_goto (tgt := 3) C (by decide) dX4_doesWrites_32 ?_
          exact ih (i + 1) (setL M (wrL (wrs F s q i) s (q + i))) (v5 + 1) (by omega) (by omega) (by omega) (by omega) (by exact (by repeat first | exact hMb | refine rg_up ?_ (by omega) | refine rg_setL ?_ (by omega))) (by exact (by rw [setL_k _ _ (by omega)] <;> omega)) (by exact (by rw [setL_k _ _ (by omega)] <;> omega)) (by exact (by rw [setL_k _ _ (by omega)] <;> omega)) (by exact (by rw [setL_k _ _ (by omega)] <;> omega)) (by exact (by rw [setL_k _ _ (by omega)] <;> omega)) (by exact hws (by omega) (i + 1) (by omega) (by omega)) (by omega) _ _ hm hr hF _ (lv_sub hl [1, 2, 3, 4, 5, 0] rfl)
        · refine r_iconst C dX4_doesWrites_18 ?_
          exact r_iretH C rfl rfl (congrArg iI (pI_f (by omega)).symm) hF (by exact ⟨⟨M, hMb, (by first | exact h0 | omega), (by first | exact h1 | omega), (by first | exact h2 | omega), (by first | exact h4 | omega), (by first | exact h5 | omega), hm⟩, by rw [show rsF F s q e = wrs F s q i from (by unfold rsF; split <;> first | (rw [show e + 1 - q = i by omega]) | (rw [show i = 0 by omega]; rfl))]; exact hr⟩) dX4_doesWrites_19
  refine r_iload_n C rfl (lv_at hl 3 rfl) dX4_doesWrites_0 ?_
  refine r_istore (lv' := [(5, .int (iI y)), (0, .ref mb), (1, .ref a), (2, .int (iI x)), (3, .int (iI y)), (4, .int (iI z))]) C hl (by decide) rfl dX4_doesWrites_1 (fun ls hl => ?_)
  exact cut3 _ 0 M y (Nat.lt_succ_self _) (by omega) (by omega) (by omega) (by exact hMb) (by exact (by first | exact h0 | omega)) (by exact (by first | exact h1 | omega)) (by exact (by first | exact h2 | omega)) (by exact (by first | exact h4 | omega)) (by exact (by first | exact h5 | omega)) (by exact ⟨hJ.mono (by omega), rfl⟩) (by omega) _ _ hm hr hF _ (lv_sub hl [1, 2, 3, 4, 5, 0] rfl)
set_option maxHeartbeats 4000000 in
theorem k_X4_readCommand (l : Launch) (g : Gt) (mb a : Nat) (a0 a2 : Int) (p n : Nat) (o : Int) (TX : Nat → Int) (hTX : ∀ k : Nat, k < 120 → 0 ≤ TX k ∧ TX k ≤ 255) (hpn : p < n) (hn : n ≤ 120) (ho : 0 ≤ o ∧ o ≤ 200) (F : Nat → Int) (T : Int) (hne : a ≠ mb) (hne1 : a ≠ mb + 1) (hJ : J F z0 T) (h60 : 60 ≤ T) (hT : T ≤ 900000) : CH l yX4_readCommand cX4_readCommand 6 (some .boolean) 10 232 g [.ref mb, .ref a] (fun H => mdX g mb a0 n a2 p o H ∧ aAt g (mb + 1) 120 TX H ∧ aAt g a 262 F H) (some (.int (iI (pI (rcOk TX n p))))) (fun q => q = mb ∨ q = a) (fun H => mdX g mb a0 n a2 (rcP TX n p) (o + rcD TX n p F) H ∧ aAt g (mb + 1) 120 TX H ∧ aAt g a 262 (rcF TX n p F) H) := by
  refine ch_of "LentRoomModel" (by decide) rfl (Nat.le_of_ble_eq_true rfl) ?_
  intro zp ze zs zm za zb zt zc ls C hP hF hl
  obtain ⟨⟨M, hMb, h0, h1, h2, h4, h5, hm⟩, htx, hr⟩ := hP
  have hl : lv_has ls 6 [(0, .ref mb), (1, .ref a)] := hl
  have hS := hJ.S
  have hSm : Sm F := hS.m (by omega)
  have hZ := hJ.Z
  have hn5 := hJ.n
  refine r_aload_n C rfl (lv_at hl 0 rfl) dX4_readCommand_0 ?_
  refine r_get C (ci := 4) (v := .ref (mb + 1)) rfl uin4 hm.o 1 (by decide) q_786 rfl rfl dX4_readCommand_1 ?_
  refine r_aload_n C rfl (lv_at hl 0 rfl) dX4_readCommand_4 ?_
  refine r_get C (ci := 4) (v := .int (iI (M 4))) rfl uin4 hm.o 10 (by decide) q_795 rfl rfl dX4_readCommand_5 ?_
  have b1 := hMb 4
  refine r_iald (v := TX p) C htx p (by omega) (by omega) (by omega) rfl dX4_readCommand_8 ?_
  have b2 := hTX p (by omega)
  refine r_istore_n (lv' := [(2, .int (iI (TX p))), (0, .ref mb), (1, .ref a)]) C rfl hl (by decide) rfl dX4_readCommand_9 (fun ls hl => ?_)
  refine r_aload_n C rfl (lv_at hl 1 rfl) dX4_readCommand_10 ?_
  refine r_dup C rfl dX4_readCommand_11 ?_
  refine r_get C (ci := 4) (v := .int (iI (M 4))) rfl uin4 hm.o 10 (by decide) q_795 rfl rfl dX4_readCommand_12 ?_
  have b3 := hMb 4
  refine r_iconst C dX4_readCommand_15 ?_
  refine r_iadd C dX4_readCommand_16 ?_
  refine r_put C (ci := 4) rfl uin4 tyX4_ok nmX4 hm.o hF (Or.inl rfl) 10 (by decide) q_795 rfl rfl rfl rfl (by show 10 < 13; decide) dX4_readCommand_17 (fun H4 locs4 h4 ho4 hz4 hF => ?_)
  have htx := htx.kept (ho4 _ (by omega))
  have hr := hr.kept (ho4 _ (by omega))
  have hm : mdAt g mb (up M 4 ((M 4) + 1)) H4 := hm.put4 h4 ho4
  refine r_iload_n C rfl (lv_at hl 0 rfl) dX4_readCommand_20 ?_
  by_cases e5 : (TX p) = 102
  · refine r_lk (tgt := 235) (off := 214) C (by omega) (by decide) (by rw [e5]; rfl) (by decide) dX4_readCommand_21 ?_
    have eL : TX p = 102 := (by omega)
    refine r_aload_n C rfl (lv_at hl 1 rfl) dX4_readCommand_235 ?_
    refine r_iconst C dX4_readCommand_236 ?_
    refine r_iconst C dX4_readCommand_237 ?_
    refine r_iconst C dX4_readCommand_238 ?_
    refine r_iconst C dX4_readCommand_239 ?_
    refine r_vHi (rest := []) C (k_X4_figures l g mb (up M 4 ((M 4) + 1)) (by repeat first | exact hMb | refine rg_up ?_ (by omega) | refine rg_setL ?_ (by omega)) TX hTX (p + 1) n (by rw [up_s] <;> omega) (by rw [up_n _ _ (by omega)] <;> omega) (by omega) (by omega) 0 1 0 4 (by omega) (by omega) (by omega) (by omega) (rcX TX n p) (rc1P TX n p) (by unfold rcX; rw [eL]; rfl) (by unfold rc1P; rw [eL]; rfl)) s_RX4_131 ⟨hm, htx⟩ hF (fun _ h => Or.inl h) (recv C (ci := 4) rfl hm.o) hl.1 rfl ⟨by decide, by decide⟩ rfl (Nat.le_of_ble_eq_true rfl) ⟨Nat.le_refl 0, Nat.le_refl 0⟩ dX4_readCommand_240 (fun H6 locs6 h6 ho6 hz6 hF => ?_)
    have hr := hr.kept (ho6 _ (fun h => (by have h : _ = _ := h; omega)))
    obtain ⟨hm, htx⟩ := h6
    have hgb1 := fgP_b TX n 0 1 0 4 (p + 1) (by omega)
    have hgv1 := fgV_b TX n 0 1 0 4 (p + 1) (by omega)
    rw [show fgP TX n 0 1 0 4 (p + 1) = rc1P TX n p from (by unfold rc1P; rw [eL]; rfl)] at hgb1
    rw [show fgV TX n 0 1 0 4 (p + 1) = rcX TX n p from (by unfold rcX; rw [eL]; rfl)] at hgv1
    refine r_istore_n (lv' := [(3, .int (iI (rcX TX n p))), (2, .int (iI (TX p))), (0, .ref mb), (1, .ref a)]) C rfl hl (by decide) rfl dX4_readCommand_243 (fun ls hl => ?_)
    refine r_aload_n C rfl (lv_at hl 2 rfl) dX4_readCommand_244 ?_
    refine r_iload_n C rfl (lv_at hl 0 rfl) dX4_readCommand_245 ?_
    refine r_iconst C dX4_readCommand_246 ?_
    refine r_iconst C dX4_readCommand_247 ?_
    refine r_bipush C (by decide) dX4_readCommand_248 ?_
    refine r_vHi (rest := []) C (k_X4_figures l g mb (up (up M 4 ((M 4) + 1)) 4 ((rc1P TX n p : Nat) : Int)) (by repeat first | exact hMb | refine rg_up ?_ (by omega) | refine rg_setL ?_ (by omega)) TX hTX (rc1P TX n p) n (by rw [up_s] <;> omega) (by rw [up_n _ _ (by omega), up_n _ _ (by omega)] <;> omega) (by omega) (by omega) (rcX TX n p) 2 0 60 (by omega) (by omega) (by omega) (by omega) (rcY TX n p) (rc2P TX n p) (by unfold rcY; rw [eL]; rfl) (by unfold rc2P; rw [eL]; rfl)) s_RX4_131 ⟨hm, htx⟩ hF (fun _ h => Or.inl h) (recv C (ci := 4) rfl hm.o) hl.1 rfl ⟨by decide, by decide⟩ rfl (Nat.le_of_ble_eq_true rfl) ⟨Nat.le_refl 0, Nat.le_refl 0⟩ dX4_readCommand_250 (fun H7 locs7 h7 ho7 hz7 hF => ?_)
    have hr := hr.kept (ho7 _ (fun h => (by have h : _ = _ := h; omega)))
    obtain ⟨hm, htx⟩ := h7
    have hgb2 := fgP_b TX n (rcX TX n p) 2 0 60 (rc1P TX n p) (by omega)
    have hgv2 := fgV_b TX n (rcX TX n p) 2 0 60 (rc1P TX n p) (by omega)
    rw [show fgP TX n (rcX TX n p) 2 0 60 (rc1P TX n p) = rc2P TX n p from (by unfold rc2P; rw [eL]; rfl)] at hgb2
    rw [show fgV TX n (rcX TX n p) 2 0 60 (rc1P TX n p) = rcY TX n p from (by unfold rcY; rw [eL]; rfl)] at hgv2
    refine r_istore (lv' := [(4, .int (iI (rcY TX n p))), (3, .int (iI (rcX TX n p))), (2, .int (iI (TX p))), (0, .ref mb), (1, .ref a)]) C hl (by decide) rfl dX4_readCommand_253 (fun ls hl => ?_)
    refine r_iload C (lv_at hl 0 rfl) dX4_readCommand_255 ?_
    refine r_iconst C dX4_readCommand_257 ?_
    refine r_icmp_eq (tgt := 273) C (by decide) (by omega) (by decide) dX4_readCommand_258 (fun c8 => ?_) (fun c8 => ?_)
    · have hZe : rcZ TX n p = rcY TX n p := (if_neg (by omega))
      have hno : ¬ rcOk TX n p := (fun h => h.2 (by omega))
      refine r_iload C (lv_at hl 0 rfl) dX4_readCommand_273 ?_
      refine r_iconst C dX4_readCommand_275 ?_
      refine r_icmp_eq (tgt := 283) C (by decide) (by omega) (by decide) dX4_readCommand_276 (fun c9 => ?_) (fun c9 => ?_)
      · refine r_iconst C dX4_readCommand_283 ?_
        have hPe : rcP TX n p = rc2P TX n p := (by unfold rcP rc3P; rw [if_pos (by unfold rcL; omega), if_neg (by omega)])
        obtain ⟨eF, eD⟩ := rc_no (F := F) hno
        exact r_iretH C rfl rfl (congrArg iI (pI_f (by exact hno)).symm) hF (by exact ⟨⟨up (up (up M 4 ((M 4) + 1)) 4 ((rc1P TX n p : Nat) : Int)) 4 ((rc2P TX n p : Nat) : Int), (by repeat first | exact hMb | refine rg_up ?_ (by omega) | refine rg_setL ?_ (by omega)), (by rw [up_n _ _ (by omega), up_n _ _ (by omega), up_n _ _ (by omega)] <;> omega), (by rw [up_n _ _ (by omega), up_n _ _ (by omega), up_n _ _ (by omega)] <;> omega), (by rw [up_n _ _ (by omega), up_n _ _ (by omega), up_n _ _ (by omega)] <;> omega), (by rw [hPe, up_s] <;> omega), (by rw [eD, Int.add_zero]; exact (by rw [up_n _ _ (by omega), up_n _ _ (by omega), up_n _ _ (by omega)] <;> omega)), hm⟩, htx, (by rw [eF]; exact hr)⟩) dX4_readCommand_284
      · exact absurd c9 (by omega)
    · have hZe : rcZ TX n p = rcY TX n p := (if_neg (by omega))
      have hok : rcOk TX n p := ⟨by omega, by omega⟩
      have hco := rc_ok hok
      have hco2 := hco
      unfold cmOk at hco2
      refine r_aload_n C rfl (lv_at hl 3 rfl) dX4_readCommand_261 ?_
      refine r_aload_n C rfl (lv_at hl 3 rfl) dX4_readCommand_262 ?_
      refine r_aload_n C rfl (lv_at hl 4 rfl) dX4_readCommand_263 ?_
      refine r_iload_n C rfl (lv_at hl 1 rfl) dX4_readCommand_264 ?_
      refine r_iload C (lv_at hl 0 rfl) dX4_readCommand_265 ?_
      refine r_vHi (rest := [.ref mb]) C (k_X4_doesFloor l g mb (up (up (up M 4 ((M 4) + 1)) 4 ((rc1P TX n p : Nat) : Int)) 4 ((rc2P TX n p : Nat) : Int)) a F T (by omega) hJ (by omega) (rcX TX n p) (rcY TX n p) (((rcX TX n p)).toNat) (by omega) (by omega) (by omega)) s_RX4_152 ⟨hm, hr⟩ hF (fun _ h => h) (recv C (ci := 4) rfl hm.o) hl.1 rfl ⟨by decide, by decide⟩ rfl (Nat.le_of_ble_eq_true rfl) ⟨Nat.le_refl 0, Nat.le_refl 0⟩ dX4_readCommand_267 (fun H10 locs10 h10 ho10 hz10 hF => ?_)
      have htx := htx.kept (ho10 _ (fun h => (by rcases h with h | h <;> omega)))
      obtain ⟨hm, hr⟩ := h10
      refine r_vHn (rest := []) C (k_X4_leftOut l g mb (up (up (up M 4 ((M 4) + 1)) 4 ((rc1P TX n p : Nat) : Int)) 4 ((rc2P TX n p : Nat) : Int)) _ (whyFl F (rcX TX n p) (((rcX TX n p)).toNat) (rcY TX n p) = 0) rfl) s_RX4_141 hm hF (fun _ h => Or.inl h) (recv C (ci := 4) rfl hm.o) hl.1 rfl ⟨by decide, by decide⟩ rfl (Nat.le_of_ble_eq_true rfl) ⟨Nat.le_refl 0, Nat.le_refl 0⟩ dX4_readCommand_270 (fun H11 locs11 h11 ho11 hz11 hF => ?_)
      have htx := htx.kept (ho11 _ (fun h => (by have h : _ = _ := h; omega)))
      have hr := hr.kept (ho11 _ (fun h => (by have h : _ = _ := h; omega)))
      have hm := h11
      refine r_iload C (lv_at hl 0 rfl) dX4_readCommand_273 ?_
      refine r_iconst C dX4_readCommand_275 ?_
      refine r_icmp_eq (tgt := 283) C (by decide) (by omega) (by decide) dX4_readCommand_276 (fun c12 => ?_) (fun c12 => ?_)
      · exact absurd c12 (by omega)
      · refine r_iconst C dX4_readCommand_279 ?_
        refine r_goto (tgt := 284) C (by decide) dX4_readCommand_280 ?_
        have hPe : rcP TX n p = rc2P TX n p := (by unfold rcP rc3P; rw [if_pos (by unfold rcL; omega), if_neg (by omega)])
        have e5 : (up (up (up M 4 ((M 4) + 1)) 4 ((rc1P TX n p : Nat) : Int)) 4 ((rc2P TX n p : Nat) : Int)) 5 = o := (by rw [up_n _ _ (by omega), up_n _ _ (by omega), up_n _ _ (by omega)]; exact h5)
        have eC : cmD (TX p) (rcX TX n p) (rcY TX n p) (rcZ TX n p) F = pI (whyFl F (rcX TX n p) (((rcX TX n p)).toNat) (rcY TX n p) = 0) := (by unfold cmD; rw [if_neg (by omega), if_neg (by omega), if_neg (by omega), if_pos eL])
        have eD : rcD TX n p F = 1 - pI (whyFl F (rcX TX n p) (((rcX TX n p)).toNat) (rcY TX n p) = 0) := (by unfold rcD; rw [if_pos hok, eC])
        have eF : rcF TX n p F = if whyFl F (rcX TX n p) (((rcX TX n p)).toNat) (rcY TX n p) = 0 then up F (2 + 52 * (((rcX TX n p)).toNat) + 0) (rcY TX n p) else F := (by unfold rcF; rw [if_pos hok]; unfold cmF; rw [if_neg (by omega), if_neg (by omega), if_neg (by omega), if_pos eL])
        exact r_iretH C rfl rfl (congrArg iI (pI_t (by exact hok)).symm) hF (by exact ⟨⟨up (up (up (up M 4 ((M 4) + 1)) 4 ((rc1P TX n p : Nat) : Int)) 4 ((rc2P TX n p : Nat) : Int)) 5 ((up (up (up M 4 ((M 4) + 1)) 4 ((rc1P TX n p : Nat) : Int)) 4 ((rc2P TX n p : Nat) : Int)) 5 + (if whyFl F (rcX TX n p) (((rcX TX n p)).toNat) (rcY TX n p) = 0 then 0 else 1)), (by repeat first | exact hMb | refine rg_up ?_ (by omega) | refine rg_setL ?_ (by omega)), (by rw [up_n _ _ (by omega), up_n _ _ (by omega), up_n _ _ (by omega), up_n _ _ (by omega)] <;> omega), (by rw [up_n _ _ (by omega), up_n _ _ (by omega), up_n _ _ (by omega), up_n _ _ (by omega)] <;> omega), (by rw [up_n _ _ (by omega), up_n _ _ (by omega), up_n _ _ (by omega), up_n _ _ (by omega)] <;> omega), (by rw [hPe, up_n _ _ (by omega), up_s] <;> omega), (by rw [up_s, e5, eD]; unfold pI; split <;> omega), hm⟩, htx, (by rw [eF]; exact hr)⟩) dX4_readCommand_284
  by_cases e13 : (TX p) = 114
  · refine r_lk (tgt := 285) (off := 264) C (by omega) (by decide) (by rw [e13]; rfl) (by decide) dX4_readCommand_21 ?_
    have eL : TX p = 114 := (by omega)
    refine r_aload_n C rfl (lv_at hl 1 rfl) dX4_readCommand_285 ?_
    refine r_iconst C dX4_readCommand_286 ?_
    refine r_iconst C dX4_readCommand_287 ?_
    refine r_iconst C dX4_readCommand_288 ?_
    refine r_iconst C dX4_readCommand_289 ?_
    refine r_vHi (rest := []) C (k_X4_figures l g mb (up M 4 ((M 4) + 1)) (by repeat first | exact hMb | refine rg_up ?_ (by omega) | refine rg_setL ?_ (by omega)) TX hTX (p + 1) n (by rw [up_s] <;> omega) (by rw [up_n _ _ (by omega)] <;> omega) (by omega) (by omega) 0 1 0 4 (by omega) (by omega) (by omega) (by omega) (rcX TX n p) (rc1P TX n p) (by unfold rcX; rw [eL]; rfl) (by unfold rc1P; rw [eL]; rfl)) s_RX4_131 ⟨hm, htx⟩ hF (fun _ h => Or.inl h) (recv C (ci := 4) rfl hm.o) hl.1 rfl ⟨by decide, by decide⟩ rfl (Nat.le_of_ble_eq_true rfl) ⟨Nat.le_refl 0, Nat.le_refl 0⟩ dX4_readCommand_290 (fun H14 locs14 h14 ho14 hz14 hF => ?_)
    have hr := hr.kept (ho14 _ (fun h => (by have h : _ = _ := h; omega)))
    obtain ⟨hm, htx⟩ := h14
    have hgb1 := fgP_b TX n 0 1 0 4 (p + 1) (by omega)
    have hgv1 := fgV_b TX n 0 1 0 4 (p + 1) (by omega)
    rw [show fgP TX n 0 1 0 4 (p + 1) = rc1P TX n p from (by unfold rc1P; rw [eL]; rfl)] at hgb1
    rw [show fgV TX n 0 1 0 4 (p + 1) = rcX TX n p from (by unfold rcX; rw [eL]; rfl)] at hgv1
    refine r_istore_n (lv' := [(3, .int (iI (rcX TX n p))), (2, .int (iI (TX p))), (0, .ref mb), (1, .ref a)]) C rfl hl (by decide) rfl dX4_readCommand_293 (fun ls hl => ?_)
    refine r_aload_n C rfl (lv_at hl 2 rfl) dX4_readCommand_294 ?_
    refine r_iload_n C rfl (lv_at hl 0 rfl) dX4_readCommand_295 ?_
    refine r_iconst C dX4_readCommand_296 ?_
    refine r_iconst C dX4_readCommand_297 ?_
    refine r_bipush C (by decide) dX4_readCommand_298 ?_
    refine r_vHi (rest := []) C (k_X4_figures l g mb (up (up M 4 ((M 4) + 1)) 4 ((rc1P TX n p : Nat) : Int)) (by repeat first | exact hMb | refine rg_up ?_ (by omega) | refine rg_setL ?_ (by omega)) TX hTX (rc1P TX n p) n (by rw [up_s] <;> omega) (by rw [up_n _ _ (by omega), up_n _ _ (by omega)] <;> omega) (by omega) (by omega) (rcX TX n p) 2 0 39 (by omega) (by omega) (by omega) (by omega) (rcY TX n p) (rc2P TX n p) (by unfold rcY; rw [eL]; rfl) (by unfold rc2P; rw [eL]; rfl)) s_RX4_131 ⟨hm, htx⟩ hF (fun _ h => Or.inl h) (recv C (ci := 4) rfl hm.o) hl.1 rfl ⟨by decide, by decide⟩ rfl (Nat.le_of_ble_eq_true rfl) ⟨Nat.le_refl 0, Nat.le_refl 0⟩ dX4_readCommand_300 (fun H15 locs15 h15 ho15 hz15 hF => ?_)
    have hr := hr.kept (ho15 _ (fun h => (by have h : _ = _ := h; omega)))
    obtain ⟨hm, htx⟩ := h15
    have hgb2 := fgP_b TX n (rcX TX n p) 2 0 39 (rc1P TX n p) (by omega)
    have hgv2 := fgV_b TX n (rcX TX n p) 2 0 39 (rc1P TX n p) (by omega)
    rw [show fgP TX n (rcX TX n p) 2 0 39 (rc1P TX n p) = rc2P TX n p from (by unfold rc2P; rw [eL]; rfl)] at hgb2
    rw [show fgV TX n (rcX TX n p) 2 0 39 (rc1P TX n p) = rcY TX n p from (by unfold rcY; rw [eL]; rfl)] at hgv2
    refine r_istore (lv' := [(4, .int (iI (rcY TX n p))), (3, .int (iI (rcX TX n p))), (2, .int (iI (TX p))), (0, .ref mb), (1, .ref a)]) C hl (by decide) rfl dX4_readCommand_303 (fun ls hl => ?_)
    refine r_aload_n C rfl (lv_at hl 3 rfl) dX4_readCommand_305 ?_
    refine r_iload C (lv_at hl 0 rfl) dX4_readCommand_306 ?_
    refine r_iconst C dX4_readCommand_308 ?_
    refine r_iconst C dX4_readCommand_309 ?_
    refine r_bipush C (by decide) dX4_readCommand_310 ?_
    refine r_vHi (rest := []) C (k_X4_figures l g mb (up (up (up M 4 ((M 4) + 1)) 4 ((rc1P TX n p : Nat) : Int)) 4 ((rc2P TX n p : Nat) : Int)) (by repeat first | exact hMb | refine rg_up ?_ (by omega) | refine rg_setL ?_ (by omega)) TX hTX (rc2P TX n p) n (by rw [up_s] <;> omega) (by rw [up_n _ _ (by omega), up_n _ _ (by omega), up_n _ _ (by omega)] <;> omega) (by omega) (by omega) (rcY TX n p) 2 0 39 (by omega) (by omega) (by omega) (by omega) (rcZ TX n p) (rc3P TX n p) (by unfold rcZ; rw [eL]; rfl) (by unfold rc3P; rw [eL]; rfl)) s_RX4_131 ⟨hm, htx⟩ hF (fun _ h => Or.inl h) (recv C (ci := 4) rfl hm.o) hl.1 rfl ⟨by decide, by decide⟩ rfl (Nat.le_of_ble_eq_true rfl) ⟨Nat.le_refl 0, Nat.le_refl 0⟩ dX4_readCommand_312 (fun H16 locs16 h16 ho16 hz16 hF => ?_)
    have hr := hr.kept (ho16 _ (fun h => (by have h : _ = _ := h; omega)))
    obtain ⟨hm, htx⟩ := h16
    have hgb3 := fgP_b TX n (rcY TX n p) 2 0 39 (rc2P TX n p) (by omega)
    have hgv3 := fgV_b TX n (rcY TX n p) 2 0 39 (rc2P TX n p) (by omega)
    rw [show fgP TX n (rcY TX n p) 2 0 39 (rc2P TX n p) = rc3P TX n p from (by unfold rc3P; rw [eL]; rfl)] at hgb3
    rw [show fgV TX n (rcY TX n p) 2 0 39 (rc2P TX n p) = rcZ TX n p from (by unfold rcZ; rw [eL]; rfl)] at hgv3
    refine r_istore (lv' := [(5, .int (iI (rcZ TX n p))), (4, .int (iI (rcY TX n p))), (3, .int (iI (rcX TX n p))), (2, .int (iI (TX p))), (0, .ref mb), (1, .ref a)]) C hl (by decide) rfl dX4_readCommand_315 (fun ls hl => ?_)
    refine r_iload C (lv_at hl 0 rfl) dX4_readCommand_317 ?_
    refine r_iconst C dX4_readCommand_319 ?_
    refine r_icmp_eq (tgt := 337) C (by decide) (by omega) (by decide) dX4_readCommand_320 (fun c17 => ?_) (fun c17 => ?_)
    · have hno : ¬ rcOk TX n p := (fun h => h.2 (by omega))
      refine r_iload C (lv_at hl 0 rfl) dX4_readCommand_337 ?_
      refine r_iconst C dX4_readCommand_339 ?_
      refine r_icmp_eq (tgt := 347) C (by decide) (by omega) (by decide) dX4_readCommand_340 (fun c18 => ?_) (fun c18 => ?_)
      · refine r_iconst C dX4_readCommand_347 ?_
        have hPe : rcP TX n p = rc3P TX n p := (by unfold rcP; rw [if_pos (by unfold rcL; omega)])
        obtain ⟨eF, eD⟩ := rc_no (F := F) hno
        exact r_iretH C rfl rfl (congrArg iI (pI_f (by exact hno)).symm) hF (by exact ⟨⟨up (up (up (up M 4 ((M 4) + 1)) 4 ((rc1P TX n p : Nat) : Int)) 4 ((rc2P TX n p : Nat) : Int)) 4 ((rc3P TX n p : Nat) : Int), (by repeat first | exact hMb | refine rg_up ?_ (by omega) | refine rg_setL ?_ (by omega)), (by rw [up_n _ _ (by omega), up_n _ _ (by omega), up_n _ _ (by omega), up_n _ _ (by omega)] <;> omega), (by rw [up_n _ _ (by omega), up_n _ _ (by omega), up_n _ _ (by omega), up_n _ _ (by omega)] <;> omega), (by rw [up_n _ _ (by omega), up_n _ _ (by omega), up_n _ _ (by omega), up_n _ _ (by omega)] <;> omega), (by rw [hPe, up_s] <;> omega), (by rw [eD, Int.add_zero]; exact (by rw [up_n _ _ (by omega), up_n _ _ (by omega), up_n _ _ (by omega), up_n _ _ (by omega)] <;> omega)), hm⟩, htx, (by rw [eF]; exact hr)⟩) dX4_readCommand_348
      · exact absurd c18 (by omega)
    · have hok : rcOk TX n p := ⟨by omega, by omega⟩
      have hco := rc_ok hok
      have hco2 := hco
      unfold cmOk at hco2
      refine r_aload_n C rfl (lv_at hl 4 rfl) dX4_readCommand_323 ?_
      refine r_aload_n C rfl (lv_at hl 4 rfl) dX4_readCommand_324 ?_
      refine r_aload_n C rfl (lv_at hl 5 rfl) dX4_readCommand_325 ?_
      refine r_iload_n C rfl (lv_at hl 2 rfl) dX4_readCommand_326 ?_
      refine r_iload C (lv_at hl 1 rfl) dX4_readCommand_327 ?_
      refine r_iload C (lv_at hl 0 rfl) dX4_readCommand_329 ?_
      refine r_vHi (rest := [.ref mb]) C (k_X4_doesWrites l g mb a a0 (n : Int) a2 ((rc3P TX n p : Nat) : Int) o F T (by omega) hJ (by omega) (rcX TX n p) (rcY TX n p) (rcZ TX n p) (((rcX TX n p)).toNat) (((rcY TX n p)).toNat) (((rcZ TX n p)).toNat) (by omega) (by omega) (by omega) (by omega) (by omega) (by omega)) s_RX4_155 ⟨⟨up (up (up (up M 4 ((M 4) + 1)) 4 ((rc1P TX n p : Nat) : Int)) 4 ((rc2P TX n p : Nat) : Int)) 4 ((rc3P TX n p : Nat) : Int), (by repeat first | exact hMb | refine rg_up ?_ (by omega) | refine rg_setL ?_ (by omega)), (by rw [up_n _ _ (by omega), up_n _ _ (by omega), up_n _ _ (by omega), up_n _ _ (by omega)] <;> omega), (by rw [up_n _ _ (by omega), up_n _ _ (by omega), up_n _ _ (by omega), up_n _ _ (by omega)] <;> omega), (by rw [up_n _ _ (by omega), up_n _ _ (by omega), up_n _ _ (by omega), up_n _ _ (by omega)] <;> omega), (by rw [up_s] <;> omega), (by rw [up_n _ _ (by omega), up_n _ _ (by omega), up_n _ _ (by omega), up_n _ _ (by omega)] <;> omega), hm⟩, hr⟩ hF (fun _ h => h) (recv C (ci := 4) rfl hm.o) hl.1 rfl ⟨by decide, by decide⟩ rfl (Nat.le_of_ble_eq_true rfl) ⟨Nat.le_refl 0, Nat.le_refl 0⟩ dX4_readCommand_331 (fun H19 locs19 h19 ho19 hz19 hF => ?_)
      have htx := htx.kept (ho19 _ (fun h => (by rcases h with h | h <;> omega)))
      obtain ⟨⟨M, hMb, h0, h1, h2, h4, h5, hm⟩, hr⟩ := h19
      refine r_vHn (rest := []) C (k_X4_leftOut l g mb M _ ((rcZ TX n p) < (rcY TX n p) ∨ (rcX TX n p) < F 0) rfl) s_RX4_141 hm hF (fun _ h => Or.inl h) (recv C (ci := 4) rfl hm.o) hl.1 rfl ⟨by decide, by decide⟩ rfl (Nat.le_of_ble_eq_true rfl) ⟨Nat.le_refl 0, Nat.le_refl 0⟩ dX4_readCommand_334 (fun H20 locs20 h20 ho20 hz20 hF => ?_)
      have htx := htx.kept (ho20 _ (fun h => (by have h : _ = _ := h; omega)))
      have hr := hr.kept (ho20 _ (fun h => (by have h : _ = _ := h; omega)))
      have hm := h20
      refine r_iload C (lv_at hl 0 rfl) dX4_readCommand_337 ?_
      refine r_iconst C dX4_readCommand_339 ?_
      refine r_icmp_eq (tgt := 347) C (by decide) (by omega) (by decide) dX4_readCommand_340 (fun c21 => ?_) (fun c21 => ?_)
      · exact absurd c21 (by omega)
      · refine r_iconst C dX4_readCommand_343 ?_
        refine r_goto (tgt := 348) C (by decide) dX4_readCommand_344 ?_
        have hPe : rcP TX n p = rc3P TX n p := (by unfold rcP; rw [if_pos (by unfold rcL; omega)])
        have e5 : M 5 = o := h5
        have eC : cmD (TX p) (rcX TX n p) (rcY TX n p) (rcZ TX n p) F = pI ((rcZ TX n p) < (rcY TX n p) ∨ (rcX TX n p) < F 0) := (by unfold cmD; rw [if_neg (by omega), if_neg (by omega), if_neg (by omega), if_neg (by omega)])
        have eD : rcD TX n p F = 1 - pI ((rcZ TX n p) < (rcY TX n p) ∨ (rcX TX n p) < F 0) := (by unfold rcD; rw [if_pos hok, eC])
        have eF : rcF TX n p F = rsF F (((rcX TX n p)).toNat) (((rcY TX n p)).toNat) (((rcZ TX n p)).toNat) := (by unfold rcF; rw [if_pos hok]; unfold cmF; rw [if_neg (by omega), if_neg (by omega), if_neg (by omega), if_neg (by omega)])
        exact r_iretH C rfl rfl (congrArg iI (pI_t (by exact hok)).symm) hF (by exact ⟨⟨up M 5 (M 5 + (if (rcZ TX n p) < (rcY TX n p) ∨ (rcX TX n p) < F 0 then 0 else 1)), (by repeat first | exact hMb | refine rg_up ?_ (by omega) | refine rg_setL ?_ (by omega)), (by rw [up_n _ _ (by omega)] <;> omega), (by rw [up_n _ _ (by omega)] <;> omega), (by rw [up_n _ _ (by omega)] <;> omega), (by rw [hPe, up_n _ _ (by omega)] <;> omega), (by rw [up_s, e5, eD]; unfold pI; split <;> omega), hm⟩, htx, (by rw [eF]; exact hr)⟩) dX4_readCommand_348
  by_cases e22 : (TX p) = 115
  · refine r_lk (tgt := 72) (off := 51) C (by omega) (by decide) (by rw [e22]; rfl) (by decide) dX4_readCommand_21 ?_
    have eL : TX p = 115 := (by omega)
    refine r_aload_n C rfl (lv_at hl 1 rfl) dX4_readCommand_72 ?_
    refine r_iconst C dX4_readCommand_73 ?_
    refine r_iconst C dX4_readCommand_74 ?_
    refine r_iconst C dX4_readCommand_75 ?_
    refine r_bipush C (by decide) dX4_readCommand_76 ?_
    refine r_vHi (rest := []) C (k_X4_figures l g mb (up M 4 ((M 4) + 1)) (by repeat first | exact hMb | refine rg_up ?_ (by omega) | refine rg_setL ?_ (by omega)) TX hTX (p + 1) n (by rw [up_s] <;> omega) (by rw [up_n _ _ (by omega)] <;> omega) (by omega) (by omega) 0 2 0 60 (by omega) (by omega) (by omega) (by omega) (rcX TX n p) (rc1P TX n p) (by unfold rcX; rw [eL]; rfl) (by unfold rc1P; rw [eL]; rfl)) s_RX4_131 ⟨hm, htx⟩ hF (fun _ h => Or.inl h) (recv C (ci := 4) rfl hm.o) hl.1 rfl ⟨by decide, by decide⟩ rfl (Nat.le_of_ble_eq_true rfl) ⟨Nat.le_refl 0, Nat.le_refl 0⟩ dX4_readCommand_78 (fun H23 locs23 h23 ho23 hz23 hF => ?_)
    have hr := hr.kept (ho23 _ (fun h => (by have h : _ = _ := h; omega)))
    obtain ⟨hm, htx⟩ := h23
    have hgb1 := fgP_b TX n 0 2 0 60 (p + 1) (by omega)
    have hgv1 := fgV_b TX n 0 2 0 60 (p + 1) (by omega)
    rw [show fgP TX n 0 2 0 60 (p + 1) = rc1P TX n p from (by unfold rc1P; rw [eL]; rfl)] at hgb1
    rw [show fgV TX n 0 2 0 60 (p + 1) = rcX TX n p from (by unfold rcX; rw [eL]; rfl)] at hgv1
    refine r_istore_n (lv' := [(3, .int (iI (rcX TX n p))), (2, .int (iI (TX p))), (0, .ref mb), (1, .ref a)]) C rfl hl (by decide) rfl dX4_readCommand_81 (fun ls hl => ?_)
    refine r_aload_n C rfl (lv_at hl 2 rfl) dX4_readCommand_82 ?_
    refine r_iload_n C rfl (lv_at hl 0 rfl) dX4_readCommand_83 ?_
    refine r_iconst C dX4_readCommand_84 ?_
    refine r_iconst C dX4_readCommand_85 ?_
    refine r_bipush C (by decide) dX4_readCommand_86 ?_
    refine r_vHi (rest := []) C (k_X4_figures l g mb (up (up M 4 ((M 4) + 1)) 4 ((rc1P TX n p : Nat) : Int)) (by repeat first | exact hMb | refine rg_up ?_ (by omega) | refine rg_setL ?_ (by omega)) TX hTX (rc1P TX n p) n (by rw [up_s] <;> omega) (by rw [up_n _ _ (by omega), up_n _ _ (by omega)] <;> omega) (by omega) (by omega) (rcX TX n p) 2 1 60 (by omega) (by omega) (by omega) (by omega) (rcY TX n p) (rc2P TX n p) (by unfold rcY; rw [eL]; rfl) (by unfold rc2P; rw [eL]; rfl)) s_RX4_131 ⟨hm, htx⟩ hF (fun _ h => Or.inl h) (recv C (ci := 4) rfl hm.o) hl.1 rfl ⟨by decide, by decide⟩ rfl (Nat.le_of_ble_eq_true rfl) ⟨Nat.le_refl 0, Nat.le_refl 0⟩ dX4_readCommand_88 (fun H24 locs24 h24 ho24 hz24 hF => ?_)
    have hr := hr.kept (ho24 _ (fun h => (by have h : _ = _ := h; omega)))
    obtain ⟨hm, htx⟩ := h24
    have hgb2 := fgP_b TX n (rcX TX n p) 2 1 60 (rc1P TX n p) (by omega)
    have hgv2 := fgV_b TX n (rcX TX n p) 2 1 60 (rc1P TX n p) (by omega)
    rw [show fgP TX n (rcX TX n p) 2 1 60 (rc1P TX n p) = rc2P TX n p from (by unfold rc2P; rw [eL]; rfl)] at hgb2
    rw [show fgV TX n (rcX TX n p) 2 1 60 (rc1P TX n p) = rcY TX n p from (by unfold rcY; rw [eL]; rfl)] at hgv2
    refine r_istore (lv' := [(4, .int (iI (rcY TX n p))), (3, .int (iI (rcX TX n p))), (2, .int (iI (TX p))), (0, .ref mb), (1, .ref a)]) C hl (by decide) rfl dX4_readCommand_91 (fun ls hl => ?_)
    refine r_iload C (lv_at hl 0 rfl) dX4_readCommand_93 ?_
    refine r_iconst C dX4_readCommand_95 ?_
    refine r_icmp_eq (tgt := 128) C (by decide) (by omega) (by decide) dX4_readCommand_96 (fun c25 => ?_) (fun c25 => ?_)
    · have hZe : rcZ TX n p = rcY TX n p := (if_neg (by omega))
      have hno : ¬ rcOk TX n p := (fun h => h.2 (by omega))
      refine r_iload C (lv_at hl 0 rfl) dX4_readCommand_128 ?_
      refine r_iconst C dX4_readCommand_130 ?_
      refine r_icmp_eq (tgt := 138) C (by decide) (by omega) (by decide) dX4_readCommand_131 (fun c26 => ?_) (fun c26 => ?_)
      · refine r_iconst C dX4_readCommand_138 ?_
        have hPe : rcP TX n p = rc2P TX n p := (by unfold rcP rc3P; rw [if_pos (by unfold rcL; omega), if_neg (by omega)])
        obtain ⟨eF, eD⟩ := rc_no (F := F) hno
        exact r_iretH C rfl rfl (congrArg iI (pI_f (by exact hno)).symm) hF (by exact ⟨⟨up (up (up M 4 ((M 4) + 1)) 4 ((rc1P TX n p : Nat) : Int)) 4 ((rc2P TX n p : Nat) : Int), (by repeat first | exact hMb | refine rg_up ?_ (by omega) | refine rg_setL ?_ (by omega)), (by rw [up_n _ _ (by omega), up_n _ _ (by omega), up_n _ _ (by omega)] <;> omega), (by rw [up_n _ _ (by omega), up_n _ _ (by omega), up_n _ _ (by omega)] <;> omega), (by rw [up_n _ _ (by omega), up_n _ _ (by omega), up_n _ _ (by omega)] <;> omega), (by rw [hPe, up_s] <;> omega), (by rw [eD, Int.add_zero]; exact (by rw [up_n _ _ (by omega), up_n _ _ (by omega), up_n _ _ (by omega)] <;> omega)), hm⟩, htx, (by rw [eF]; exact hr)⟩) dX4_readCommand_139
      · exact absurd c26 (by omega)
    · have hZe : rcZ TX n p = rcY TX n p := (if_neg (by omega))
      have hok : rcOk TX n p := ⟨by omega, by omega⟩
      have hco := rc_ok hok
      have hco2 := hco
      unfold cmOk at hco2
      refine r_aload_n C rfl (lv_at hl 3 rfl) dX4_readCommand_99 ?_
      refine r_aload_n C rfl (lv_at hl 4 rfl) dX4_readCommand_100 ?_
      refine r_iload_n C rfl (lv_at hl 1 rfl) dX4_readCommand_101 ?_
      refine r_iload C (lv_at hl 0 rfl) dX4_readCommand_102 ?_
      refine r_sPi (rest := [.ref mb]) C (k_X4_whyNotMake l g a F hSm hZ (rcX TX n p) (rcY TX n p) (by omega) (by omega)) s_RX4_135 hr hl.1 rfl ⟨by decide, by decide⟩ rfl (Nat.le_of_ble_eq_true rfl) ⟨Nat.le_refl 0, Nat.le_refl 0⟩ dX4_readCommand_104 ?_
      have b27 := whyMk_b F (rcX TX n p) (rcY TX n p)
      have hmk : whyMk F (rcX TX n p) (rcY TX n p) = 0 ∨ whyMk F (rcX TX n p) (rcY TX n p) ≠ 0 := (by omega)
      refine r_if_ne (tgt := 124) C (by decide) (by omega) dX4_readCommand_107 (fun c28 => ?_) (fun c28 => ?_)
      · refine r_iconst C dX4_readCommand_124 ?_
        refine r_vHn (rest := []) C (k_X4_leftOut l g mb (up (up (up M 4 ((M 4) + 1)) 4 ((rc1P TX n p : Nat) : Int)) 4 ((rc2P TX n p : Nat) : Int)) 0 False ((pI_f (fun h => h)).symm)) s_RX4_141 hm hF (fun _ h => Or.inl h) (recv C (ci := 4) rfl hm.o) hl.1 rfl ⟨by decide, by decide⟩ rfl (Nat.le_of_ble_eq_true rfl) ⟨Nat.le_refl 0, Nat.le_refl 0⟩ dX4_readCommand_125 (fun H29 locs29 h29 ho29 hz29 hF => ?_)
        have htx := htx.kept (ho29 _ (fun h => (by have h : _ = _ := h; omega)))
        have hr := hr.kept (ho29 _ (fun h => (by have h : _ = _ := h; omega)))
        have hm := h29
        refine r_iload C (lv_at hl 0 rfl) dX4_readCommand_128 ?_
        refine r_iconst C dX4_readCommand_130 ?_
        refine r_icmp_eq (tgt := 138) C (by decide) (by omega) (by decide) dX4_readCommand_131 (fun c30 => ?_) (fun c30 => ?_)
        · exact absurd c30 (by omega)
        · refine r_iconst C dX4_readCommand_134 ?_
          refine r_goto (tgt := 139) C (by decide) dX4_readCommand_135 ?_
          have hPe : rcP TX n p = rc2P TX n p := (by unfold rcP rc3P; rw [if_pos (by unfold rcL; omega), if_neg (by omega)])
          have e5 : (up (up (up M 4 ((M 4) + 1)) 4 ((rc1P TX n p : Nat) : Int)) 4 ((rc2P TX n p : Nat) : Int)) 5 = o := (by rw [up_n _ _ (by omega), up_n _ _ (by omega), up_n _ _ (by omega)]; exact h5)
          have eC : cmD (TX p) (rcX TX n p) (rcY TX n p) (rcZ TX n p) F = 0 := (by unfold cmD; rw [if_pos eL]; exact pI_f (by omega))
          have eD : rcD TX n p F = 1 - 0 := (by unfold rcD; rw [if_pos hok, eC])
          have eF : rcF TX n p F = F := (by unfold rcF; rw [if_pos hok]; unfold cmF; rw [if_pos eL]; exact if_neg (by omega))
          exact r_iretH C rfl rfl (congrArg iI (pI_t (by exact hok)).symm) hF (by exact ⟨⟨up (up (up (up M 4 ((M 4) + 1)) 4 ((rc1P TX n p : Nat) : Int)) 4 ((rc2P TX n p : Nat) : Int)) 5 ((up (up (up M 4 ((M 4) + 1)) 4 ((rc1P TX n p : Nat) : Int)) 4 ((rc2P TX n p : Nat) : Int)) 5 + (if False then 0 else 1)), (by repeat first | exact hMb | refine rg_up ?_ (by omega) | refine rg_setL ?_ (by omega)), (by rw [up_n _ _ (by omega), up_n _ _ (by omega), up_n _ _ (by omega), up_n _ _ (by omega)] <;> omega), (by rw [up_n _ _ (by omega), up_n _ _ (by omega), up_n _ _ (by omega), up_n _ _ (by omega)] <;> omega), (by rw [up_n _ _ (by omega), up_n _ _ (by omega), up_n _ _ (by omega), up_n _ _ (by omega)] <;> omega), (by rw [hPe, up_n _ _ (by omega), up_s] <;> omega), (by rw [up_s, e5, eD, if_neg (fun h => h)] <;> rfl), hm⟩, htx, (by rw [eF]; exact hr)⟩) dX4_readCommand_139
      · have h5F : F 0 < 5 := (whyMk_0 hn5.2 (by omega)).2.1
        refine r_aload_n C rfl (lv_at hl 4 rfl) dX4_readCommand_110 ?_
        refine r_iload_n C rfl (lv_at hl 1 rfl) dX4_readCommand_111 ?_
        refine r_iload C (lv_at hl 0 rfl) dX4_readCommand_112 ?_
        refine r_sHi (rest := [.ref mb]) C (k_X4_makeOn l g a F T hJ (by omega) (rcX TX n p) (rcY TX n p) (by omega)) s_RX4_138 hr hF (fun _ h => Or.inr h) hl.1 rfl ⟨by decide, by decide⟩ rfl (Nat.le_of_ble_eq_true rfl) ⟨Nat.le_refl 0, Nat.le_refl 0⟩ dX4_readCommand_114 (fun H31 locs31 h31 ho31 hz31 hF => ?_)
        have hm := hm.kept (ho31 _ (fun h => (by have h : _ = _ := h; omega)))
        have htx := htx.kept (ho31 _ (fun h => (by have h : _ = _ := h; omega)))
        have hr := h31
        refine r_if_lt (tgt := 124) C (by decide) (by omega) dX4_readCommand_117 (fun c32 => ?_) (fun c32 => ?_)
        · exact absurd c32 (by omega)
        · refine r_iconst C dX4_readCommand_120 ?_
          refine r_goto (tgt := 125) C (by decide) dX4_readCommand_121 ?_
          refine r_vHn (rest := []) C (k_X4_leftOut l g mb (up (up (up M 4 ((M 4) + 1)) 4 ((rc1P TX n p : Nat) : Int)) 4 ((rc2P TX n p : Nat) : Int)) 1 True ((pI_t trivial).symm)) s_RX4_141 hm hF (fun _ h => Or.inl h) (recv C (ci := 4) rfl hm.o) hl.1 rfl ⟨by decide, by decide⟩ rfl (Nat.le_of_ble_eq_true rfl) ⟨Nat.le_refl 0, Nat.le_refl 0⟩ dX4_readCommand_125 (fun H33 locs33 h33 ho33 hz33 hF => ?_)
          have htx := htx.kept (ho33 _ (fun h => (by have h : _ = _ := h; omega)))
          have hr := hr.kept (ho33 _ (fun h => (by have h : _ = _ := h; omega)))
          have hm := h33
          refine r_iload C (lv_at hl 0 rfl) dX4_readCommand_128 ?_
          refine r_iconst C dX4_readCommand_130 ?_
          refine r_icmp_eq (tgt := 138) C (by decide) (by omega) (by decide) dX4_readCommand_131 (fun c34 => ?_) (fun c34 => ?_)
          · exact absurd c34 (by omega)
          · refine r_iconst C dX4_readCommand_134 ?_
            refine r_goto (tgt := 139) C (by decide) dX4_readCommand_135 ?_
            have hPe : rcP TX n p = rc2P TX n p := (by unfold rcP rc3P; rw [if_pos (by unfold rcL; omega), if_neg (by omega)])
            have e5 : (up (up (up M 4 ((M 4) + 1)) 4 ((rc1P TX n p : Nat) : Int)) 4 ((rc2P TX n p : Nat) : Int)) 5 = o := (by rw [up_n _ _ (by omega), up_n _ _ (by omega), up_n _ _ (by omega)]; exact h5)
            have eC : cmD (TX p) (rcX TX n p) (rcY TX n p) (rcZ TX n p) F = 1 := (by unfold cmD; rw [if_pos eL]; exact pI_t (by omega))
            have eD : rcD TX n p F = 1 - 1 := (by unfold rcD; rw [if_pos hok, eC])
            have eF : rcF TX n p F = mkF F (rcX TX n p) (rcY TX n p) := (by unfold rcF; rw [if_pos hok]; unfold cmF; rw [if_pos eL]; exact if_pos (by omega))
            exact r_iretH C rfl rfl (congrArg iI (pI_t (by exact hok)).symm) hF (by exact ⟨⟨up (up (up (up M 4 ((M 4) + 1)) 4 ((rc1P TX n p : Nat) : Int)) 4 ((rc2P TX n p : Nat) : Int)) 5 ((up (up (up M 4 ((M 4) + 1)) 4 ((rc1P TX n p : Nat) : Int)) 4 ((rc2P TX n p : Nat) : Int)) 5 + (if True then 0 else 1)), (by repeat first | exact hMb | refine rg_up ?_ (by omega) | refine rg_setL ?_ (by omega)), (by rw [up_n _ _ (by omega), up_n _ _ (by omega), up_n _ _ (by omega), up_n _ _ (by omega)] <;> omega), (by rw [up_n _ _ (by omega), up_n _ _ (by omega), up_n _ _ (by omega), up_n _ _ (by omega)] <;> omega), (by rw [up_n _ _ (by omega), up_n _ _ (by omega), up_n _ _ (by omega), up_n _ _ (by omega)] <;> omega), (by rw [hPe, up_n _ _ (by omega), up_s] <;> omega), (by rw [up_s, e5, eD, if_pos trivial] <;> rfl), hm⟩, htx, (by rw [eF]; exact hr)⟩) dX4_readCommand_139
  by_cases e35 : (TX p) = 116
  · refine r_lk (tgt := 140) (off := 119) C (by omega) (by decide) (by rw [e35]; rfl) (by decide) dX4_readCommand_21 ?_
    have eL : TX p = 116 := (by omega)
    refine r_aload_n C rfl (lv_at hl 1 rfl) dX4_readCommand_140 ?_
    refine r_iconst C dX4_readCommand_141 ?_
    refine r_iconst C dX4_readCommand_142 ?_
    refine r_iconst C dX4_readCommand_143 ?_
    refine r_iconst C dX4_readCommand_144 ?_
    refine r_vHi (rest := []) C (k_X4_figures l g mb (up M 4 ((M 4) + 1)) (by repeat first | exact hMb | refine rg_up ?_ (by omega) | refine rg_setL ?_ (by omega)) TX hTX (p + 1) n (by rw [up_s] <;> omega) (by rw [up_n _ _ (by omega)] <;> omega) (by omega) (by omega) 0 1 0 4 (by omega) (by omega) (by omega) (by omega) (rcX TX n p) (rc1P TX n p) (by unfold rcX; rw [eL]; rfl) (by unfold rc1P; rw [eL]; rfl)) s_RX4_131 ⟨hm, htx⟩ hF (fun _ h => Or.inl h) (recv C (ci := 4) rfl hm.o) hl.1 rfl ⟨by decide, by decide⟩ rfl (Nat.le_of_ble_eq_true rfl) ⟨Nat.le_refl 0, Nat.le_refl 0⟩ dX4_readCommand_145 (fun H36 locs36 h36 ho36 hz36 hF => ?_)
    have hr := hr.kept (ho36 _ (fun h => (by have h : _ = _ := h; omega)))
    obtain ⟨hm, htx⟩ := h36
    have hgb1 := fgP_b TX n 0 1 0 4 (p + 1) (by omega)
    have hgv1 := fgV_b TX n 0 1 0 4 (p + 1) (by omega)
    rw [show fgP TX n 0 1 0 4 (p + 1) = rc1P TX n p from (by unfold rc1P; rw [eL]; rfl)] at hgb1
    rw [show fgV TX n 0 1 0 4 (p + 1) = rcX TX n p from (by unfold rcX; rw [eL]; rfl)] at hgv1
    refine r_istore_n (lv' := [(3, .int (iI (rcX TX n p))), (2, .int (iI (TX p))), (0, .ref mb), (1, .ref a)]) C rfl hl (by decide) rfl dX4_readCommand_148 (fun ls hl => ?_)
    refine r_aload_n C rfl (lv_at hl 2 rfl) dX4_readCommand_149 ?_
    refine r_iload_n C rfl (lv_at hl 0 rfl) dX4_readCommand_150 ?_
    refine r_iconst C dX4_readCommand_151 ?_
    refine r_iconst C dX4_readCommand_152 ?_
    refine r_bipush C (by decide) dX4_readCommand_153 ?_
    refine r_vHi (rest := []) C (k_X4_figures l g mb (up (up M 4 ((M 4) + 1)) 4 ((rc1P TX n p : Nat) : Int)) (by repeat first | exact hMb | refine rg_up ?_ (by omega) | refine rg_setL ?_ (by omega)) TX hTX (rc1P TX n p) n (by rw [up_s] <;> omega) (by rw [up_n _ _ (by omega), up_n _ _ (by omega)] <;> omega) (by omega) (by omega) (rcX TX n p) 2 0 39 (by omega) (by omega) (by omega) (by omega) (rcY TX n p) (rc2P TX n p) (by unfold rcY; rw [eL]; rfl) (by unfold rc2P; rw [eL]; rfl)) s_RX4_131 ⟨hm, htx⟩ hF (fun _ h => Or.inl h) (recv C (ci := 4) rfl hm.o) hl.1 rfl ⟨by decide, by decide⟩ rfl (Nat.le_of_ble_eq_true rfl) ⟨Nat.le_refl 0, Nat.le_refl 0⟩ dX4_readCommand_155 (fun H37 locs37 h37 ho37 hz37 hF => ?_)
    have hr := hr.kept (ho37 _ (fun h => (by have h : _ = _ := h; omega)))
    obtain ⟨hm, htx⟩ := h37
    have hgb2 := fgP_b TX n (rcX TX n p) 2 0 39 (rc1P TX n p) (by omega)
    have hgv2 := fgV_b TX n (rcX TX n p) 2 0 39 (rc1P TX n p) (by omega)
    rw [show fgP TX n (rcX TX n p) 2 0 39 (rc1P TX n p) = rc2P TX n p from (by unfold rc2P; rw [eL]; rfl)] at hgb2
    rw [show fgV TX n (rcX TX n p) 2 0 39 (rc1P TX n p) = rcY TX n p from (by unfold rcY; rw [eL]; rfl)] at hgv2
    refine r_istore (lv' := [(4, .int (iI (rcY TX n p))), (3, .int (iI (rcX TX n p))), (2, .int (iI (TX p))), (0, .ref mb), (1, .ref a)]) C hl (by decide) rfl dX4_readCommand_158 (fun ls hl => ?_)
    refine r_iload C (lv_at hl 0 rfl) dX4_readCommand_160 ?_
    refine r_iconst C dX4_readCommand_162 ?_
    refine r_icmp_eq (tgt := 223) C (by decide) (by omega) (by decide) dX4_readCommand_163 (fun c38 => ?_) (fun c38 => ?_)
    · have hZe : rcZ TX n p = rcY TX n p := (if_neg (by omega))
      have hno : ¬ rcOk TX n p := (fun h => h.2 (by omega))
      refine r_iload C (lv_at hl 0 rfl) dX4_readCommand_223 ?_
      refine r_iconst C dX4_readCommand_225 ?_
      refine r_icmp_eq (tgt := 233) C (by decide) (by omega) (by decide) dX4_readCommand_226 (fun c39 => ?_) (fun c39 => ?_)
      · refine r_iconst C dX4_readCommand_233 ?_
        have hPe : rcP TX n p = rc2P TX n p := (by unfold rcP rc3P; rw [if_pos (by unfold rcL; omega), if_neg (by omega)])
        obtain ⟨eF, eD⟩ := rc_no (F := F) hno
        exact r_iretH C rfl rfl (congrArg iI (pI_f (by exact hno)).symm) hF (by exact ⟨⟨up (up (up M 4 ((M 4) + 1)) 4 ((rc1P TX n p : Nat) : Int)) 4 ((rc2P TX n p : Nat) : Int), (by repeat first | exact hMb | refine rg_up ?_ (by omega) | refine rg_setL ?_ (by omega)), (by rw [up_n _ _ (by omega), up_n _ _ (by omega), up_n _ _ (by omega)] <;> omega), (by rw [up_n _ _ (by omega), up_n _ _ (by omega), up_n _ _ (by omega)] <;> omega), (by rw [up_n _ _ (by omega), up_n _ _ (by omega), up_n _ _ (by omega)] <;> omega), (by rw [hPe, up_s] <;> omega), (by rw [eD, Int.add_zero]; exact (by rw [up_n _ _ (by omega), up_n _ _ (by omega), up_n _ _ (by omega)] <;> omega)), hm⟩, htx, (by rw [eF]; exact hr)⟩) dX4_readCommand_234
      · exact absurd c39 (by omega)
    · have hZe : rcZ TX n p = rcY TX n p := (if_neg (by omega))
      have hok : rcOk TX n p := ⟨by omega, by omega⟩
      have hco := rc_ok hok
      have hco2 := hco
      unfold cmOk at hco2
      refine r_aload_n C rfl (lv_at hl 3 rfl) dX4_readCommand_166 ?_
      refine r_aload_n C rfl (lv_at hl 4 rfl) dX4_readCommand_167 ?_
      refine r_iload_n C rfl (lv_at hl 1 rfl) dX4_readCommand_168 ?_
      refine r_sPi (rest := [.ref mb]) C (k_X4_isSpace l g a F hSm (rcX TX n p) (by omega)) s_RX4_94 hr hl.1 rfl ⟨by decide, by decide⟩ rfl (Nat.le_of_ble_eq_true rfl) ⟨Nat.le_refl 0, Nat.le_refl 0⟩ dX4_readCommand_169 ?_
      have b40 := hSm.n
      refine r_ifP_eq (tgt := 219) C (by decide) dX4_readCommand_172 (fun c41 => ?_) (fun c41 => ?_)
      · refine r_iconst C dX4_readCommand_219 ?_
        refine r_vHn (rest := []) C (k_X4_leftOut l g mb (up (up (up M 4 ((M 4) + 1)) 4 ((rc1P TX n p : Nat) : Int)) 4 ((rc2P TX n p : Nat) : Int)) 0 False ((pI_f (fun h => h)).symm)) s_RX4_141 hm hF (fun _ h => Or.inl h) (recv C (ci := 4) rfl hm.o) hl.1 rfl ⟨by decide, by decide⟩ rfl (Nat.le_of_ble_eq_true rfl) ⟨Nat.le_refl 0, Nat.le_refl 0⟩ dX4_readCommand_220 (fun H42 locs42 h42 ho42 hz42 hF => ?_)
        have htx := htx.kept (ho42 _ (fun h => (by have h : _ = _ := h; omega)))
        have hr := hr.kept (ho42 _ (fun h => (by have h : _ = _ := h; omega)))
        have hm := h42
        refine r_iload C (lv_at hl 0 rfl) dX4_readCommand_223 ?_
        refine r_iconst C dX4_readCommand_225 ?_
        refine r_icmp_eq (tgt := 233) C (by decide) (by omega) (by decide) dX4_readCommand_226 (fun c43 => ?_) (fun c43 => ?_)
        · exact absurd c43 (by omega)
        · refine r_iconst C dX4_readCommand_229 ?_
          refine r_goto (tgt := 234) C (by decide) dX4_readCommand_230 ?_
          have hPe : rcP TX n p = rc2P TX n p := (by unfold rcP rc3P; rw [if_pos (by unfold rcL; omega), if_neg (by omega)])
          have e5 : (up (up (up M 4 ((M 4) + 1)) 4 ((rc1P TX n p : Nat) : Int)) 4 ((rc2P TX n p : Nat) : Int)) 5 = o := (by rw [up_n _ _ (by omega), up_n _ _ (by omega), up_n _ _ (by omega)]; exact h5)
          have eC : cmD (TX p) (rcX TX n p) (rcY TX n p) (rcZ TX n p) F = 0 := (by unfold cmD; rw [if_neg (by omega), if_neg (by omega), if_pos eL]; exact pI_f (by omega))
          have eD : rcD TX n p F = 1 - 0 := (by unfold rcD; rw [if_pos hok, eC])
          have eF : rcF TX n p F = F := (by unfold rcF; rw [if_pos hok]; unfold cmF; rw [if_neg (by omega), if_neg (by omega), if_pos eL]; exact if_neg (by omega))
          exact r_iretH C rfl rfl (congrArg iI (pI_t (by exact hok)).symm) hF (by exact ⟨⟨up (up (up (up M 4 ((M 4) + 1)) 4 ((rc1P TX n p : Nat) : Int)) 4 ((rc2P TX n p : Nat) : Int)) 5 ((up (up (up M 4 ((M 4) + 1)) 4 ((rc1P TX n p : Nat) : Int)) 4 ((rc2P TX n p : Nat) : Int)) 5 + (if False then 0 else 1)), (by repeat first | exact hMb | refine rg_up ?_ (by omega) | refine rg_setL ?_ (by omega)), (by rw [up_n _ _ (by omega), up_n _ _ (by omega), up_n _ _ (by omega), up_n _ _ (by omega)] <;> omega), (by rw [up_n _ _ (by omega), up_n _ _ (by omega), up_n _ _ (by omega), up_n _ _ (by omega)] <;> omega), (by rw [up_n _ _ (by omega), up_n _ _ (by omega), up_n _ _ (by omega), up_n _ _ (by omega)] <;> omega), (by rw [hPe, up_n _ _ (by omega), up_s] <;> omega), (by rw [up_s, e5, eD, if_neg (fun h => h)] <;> rfl), hm⟩, htx, (by rw [eF]; exact hr)⟩) dX4_readCommand_234
      · refine r_iload_n C rfl (lv_at hl 2 rfl) dX4_readCommand_175 ?_
        refine r_bipush C (by decide) dX4_readCommand_176 ?_
        refine r_icmp_ne (tgt := 195) C (by decide) (by omega) (by decide) dX4_readCommand_178 (fun c44 => ?_) (fun c44 => ?_)
        · refine r_aload_n C rfl (lv_at hl 4 rfl) dX4_readCommand_195 ?_
          refine r_iload_n C rfl (lv_at hl 1 rfl) dX4_readCommand_196 ?_
          refine r_iload C (lv_at hl 0 rfl) dX4_readCommand_197 ?_
          refine r_sPi (rest := [.ref mb]) C (k_X4_canTrim l g a F hSm (rcX TX n p) (rcY TX n p) (((rcX TX n p)).toNat) (((rcY TX n p)).toNat) (by omega) (by omega) (by omega) (by omega)) s_RX4_145 hr hl.1 rfl ⟨by decide, by decide⟩ rfl (Nat.le_of_ble_eq_true rfl) ⟨Nat.le_refl 0, Nat.le_refl 0⟩ dX4_readCommand_199 ?_
          refine r_ifP_eq (tgt := 219) C (by decide) dX4_readCommand_202 (fun c45 => ?_) (fun c45 => ?_)
          · refine r_iconst C dX4_readCommand_219 ?_
            refine r_vHn (rest := []) C (k_X4_leftOut l g mb (up (up (up M 4 ((M 4) + 1)) 4 ((rc1P TX n p : Nat) : Int)) 4 ((rc2P TX n p : Nat) : Int)) 0 False ((pI_f (fun h => h)).symm)) s_RX4_141 hm hF (fun _ h => Or.inl h) (recv C (ci := 4) rfl hm.o) hl.1 rfl ⟨by decide, by decide⟩ rfl (Nat.le_of_ble_eq_true rfl) ⟨Nat.le_refl 0, Nat.le_refl 0⟩ dX4_readCommand_220 (fun H46 locs46 h46 ho46 hz46 hF => ?_)
            have htx := htx.kept (ho46 _ (fun h => (by have h : _ = _ := h; omega)))
            have hr := hr.kept (ho46 _ (fun h => (by have h : _ = _ := h; omega)))
            have hm := h46
            refine r_iload C (lv_at hl 0 rfl) dX4_readCommand_223 ?_
            refine r_iconst C dX4_readCommand_225 ?_
            refine r_icmp_eq (tgt := 233) C (by decide) (by omega) (by decide) dX4_readCommand_226 (fun c47 => ?_) (fun c47 => ?_)
            · exact absurd c47 (by omega)
            · refine r_iconst C dX4_readCommand_229 ?_
              refine r_goto (tgt := 234) C (by decide) dX4_readCommand_230 ?_
              have hPe : rcP TX n p = rc2P TX n p := (by unfold rcP rc3P; rw [if_pos (by unfold rcL; omega), if_neg (by omega)])
              have e5 : (up (up (up M 4 ((M 4) + 1)) 4 ((rc1P TX n p : Nat) : Int)) 4 ((rc2P TX n p : Nat) : Int)) 5 = o := (by rw [up_n _ _ (by omega), up_n _ _ (by omega), up_n _ _ (by omega)]; exact h5)
              have eC : cmD (TX p) (rcX TX n p) (rcY TX n p) (rcZ TX n p) F = 0 := (by unfold cmD; rw [if_neg (by omega), if_neg (by omega), if_pos eL]; exact pI_f (by omega))
              have eD : rcD TX n p F = 1 - 0 := (by unfold rcD; rw [if_pos hok, eC])
              have eF : rcF TX n p F = F := (by unfold rcF; rw [if_pos hok]; unfold cmF; rw [if_neg (by omega), if_neg (by omega), if_pos eL]; exact if_neg (by omega))
              exact r_iretH C rfl rfl (congrArg iI (pI_t (by exact hok)).symm) hF (by exact ⟨⟨up (up (up (up M 4 ((M 4) + 1)) 4 ((rc1P TX n p : Nat) : Int)) 4 ((rc2P TX n p : Nat) : Int)) 5 ((up (up (up M 4 ((M 4) + 1)) 4 ((rc1P TX n p : Nat) : Int)) 4 ((rc2P TX n p : Nat) : Int)) 5 + (if False then 0 else 1)), (by repeat first | exact hMb | refine rg_up ?_ (by omega) | refine rg_setL ?_ (by omega)), (by rw [up_n _ _ (by omega), up_n _ _ (by omega), up_n _ _ (by omega), up_n _ _ (by omega)] <;> omega), (by rw [up_n _ _ (by omega), up_n _ _ (by omega), up_n _ _ (by omega), up_n _ _ (by omega)] <;> omega), (by rw [up_n _ _ (by omega), up_n _ _ (by omega), up_n _ _ (by omega), up_n _ _ (by omega)] <;> omega), (by rw [hPe, up_n _ _ (by omega), up_s] <;> omega), (by rw [up_s, e5, eD, if_neg (fun h => h)] <;> rfl), hm⟩, htx, (by rw [eF]; exact hr)⟩) dX4_readCommand_234
          · refine r_aload_n C rfl (lv_at hl 4 rfl) dX4_readCommand_205 ?_
            refine r_iload_n C rfl (lv_at hl 1 rfl) dX4_readCommand_206 ?_
            refine r_iload C (lv_at hl 0 rfl) dX4_readCommand_207 ?_
            refine r_sHi (rest := [.ref mb]) C (k_X4_trimOn l g a F T hJ (by omega) (rcX TX n p) (((rcX TX n p)).toNat) (by omega) (by omega) (by omega) (rcY TX n p) (((rcY TX n p)).toNat) (by omega) (by omega) (by omega)) s_RX4_149 hr hF (fun _ h => Or.inr h) hl.1 rfl ⟨by decide, by decide⟩ rfl (Nat.le_of_ble_eq_true rfl) ⟨Nat.le_refl 0, Nat.le_refl 0⟩ dX4_readCommand_209 (fun H48 locs48 h48 ho48 hz48 hF => ?_)
            have hm := hm.kept (ho48 _ (fun h => (by have h : _ = _ := h; omega)))
            have htx := htx.kept (ho48 _ (fun h => (by have h : _ = _ := h; omega)))
            have hr := h48
            have htk := tk_b ((hJ.tr (s := (rcX TX n p).toNat) (p := (rcY TX n p).toNat) (by omega) (by omega) (by omega) (by omega) (by omega)).1.S.m (by omega)) (rcX TX n p).toNat (by omega)
            refine r_if_lt (tgt := 219) C (by decide) (by omega) dX4_readCommand_212 (fun c49 => ?_) (fun c49 => ?_)
            · exact absurd c49 (by omega)
            · refine r_iconst C dX4_readCommand_215 ?_
              refine r_goto (tgt := 220) C (by decide) dX4_readCommand_216 ?_
              refine r_vHn (rest := []) C (k_X4_leftOut l g mb (up (up (up M 4 ((M 4) + 1)) 4 ((rc1P TX n p : Nat) : Int)) 4 ((rc2P TX n p : Nat) : Int)) 1 True ((pI_t trivial).symm)) s_RX4_141 hm hF (fun _ h => Or.inl h) (recv C (ci := 4) rfl hm.o) hl.1 rfl ⟨by decide, by decide⟩ rfl (Nat.le_of_ble_eq_true rfl) ⟨Nat.le_refl 0, Nat.le_refl 0⟩ dX4_readCommand_220 (fun H50 locs50 h50 ho50 hz50 hF => ?_)
              have htx := htx.kept (ho50 _ (fun h => (by have h : _ = _ := h; omega)))
              have hr := hr.kept (ho50 _ (fun h => (by have h : _ = _ := h; omega)))
              have hm := h50
              refine r_iload C (lv_at hl 0 rfl) dX4_readCommand_223 ?_
              refine r_iconst C dX4_readCommand_225 ?_
              refine r_icmp_eq (tgt := 233) C (by decide) (by omega) (by decide) dX4_readCommand_226 (fun c51 => ?_) (fun c51 => ?_)
              · exact absurd c51 (by omega)
              · refine r_iconst C dX4_readCommand_229 ?_
                refine r_goto (tgt := 234) C (by decide) dX4_readCommand_230 ?_
                have hPe : rcP TX n p = rc2P TX n p := (by unfold rcP rc3P; rw [if_pos (by unfold rcL; omega), if_neg (by omega)])
                have e5 : (up (up (up M 4 ((M 4) + 1)) 4 ((rc1P TX n p : Nat) : Int)) 4 ((rc2P TX n p : Nat) : Int)) 5 = o := (by rw [up_n _ _ (by omega), up_n _ _ (by omega), up_n _ _ (by omega)]; exact h5)
                have eC : cmD (TX p) (rcX TX n p) (rcY TX n p) (rcZ TX n p) F = 1 := (by unfold cmD; rw [if_neg (by omega), if_neg (by omega), if_pos eL]; exact pI_t (by omega))
                have eD : rcD TX n p F = 1 - 1 := (by unfold rcD; rw [if_pos hok, eC])
                have eF : rcF TX n p F = trF F (((rcX TX n p)).toNat) (((rcY TX n p)).toNat) := (by unfold rcF; rw [if_pos hok]; unfold cmF; rw [if_neg (by omega), if_neg (by omega), if_pos eL]; exact if_pos (by omega))
                exact r_iretH C rfl rfl (congrArg iI (pI_t (by exact hok)).symm) hF (by exact ⟨⟨up (up (up (up M 4 ((M 4) + 1)) 4 ((rc1P TX n p : Nat) : Int)) 4 ((rc2P TX n p : Nat) : Int)) 5 ((up (up (up M 4 ((M 4) + 1)) 4 ((rc1P TX n p : Nat) : Int)) 4 ((rc2P TX n p : Nat) : Int)) 5 + (if True then 0 else 1)), (by repeat first | exact hMb | refine rg_up ?_ (by omega) | refine rg_setL ?_ (by omega)), (by rw [up_n _ _ (by omega), up_n _ _ (by omega), up_n _ _ (by omega), up_n _ _ (by omega)] <;> omega), (by rw [up_n _ _ (by omega), up_n _ _ (by omega), up_n _ _ (by omega), up_n _ _ (by omega)] <;> omega), (by rw [up_n _ _ (by omega), up_n _ _ (by omega), up_n _ _ (by omega), up_n _ _ (by omega)] <;> omega), (by rw [hPe, up_n _ _ (by omega), up_s] <;> omega), (by rw [up_s, e5, eD, if_pos trivial] <;> rfl), hm⟩, htx, (by rw [eF]; exact hr)⟩) dX4_readCommand_234
        · exact absurd c44 (by omega)
  by_cases e52 : (TX p) = 119
  · refine r_lk (tgt := 140) (off := 119) C (by omega) (by decide) (by rw [e52]; rfl) (by decide) dX4_readCommand_21 ?_
    have eL : TX p = 119 := (by omega)
    refine r_aload_n C rfl (lv_at hl 1 rfl) dX4_readCommand_140 ?_
    refine r_iconst C dX4_readCommand_141 ?_
    refine r_iconst C dX4_readCommand_142 ?_
    refine r_iconst C dX4_readCommand_143 ?_
    refine r_iconst C dX4_readCommand_144 ?_
    refine r_vHi (rest := []) C (k_X4_figures l g mb (up M 4 ((M 4) + 1)) (by repeat first | exact hMb | refine rg_up ?_ (by omega) | refine rg_setL ?_ (by omega)) TX hTX (p + 1) n (by rw [up_s] <;> omega) (by rw [up_n _ _ (by omega)] <;> omega) (by omega) (by omega) 0 1 0 4 (by omega) (by omega) (by omega) (by omega) (rcX TX n p) (rc1P TX n p) (by unfold rcX; rw [eL]; rfl) (by unfold rc1P; rw [eL]; rfl)) s_RX4_131 ⟨hm, htx⟩ hF (fun _ h => Or.inl h) (recv C (ci := 4) rfl hm.o) hl.1 rfl ⟨by decide, by decide⟩ rfl (Nat.le_of_ble_eq_true rfl) ⟨Nat.le_refl 0, Nat.le_refl 0⟩ dX4_readCommand_145 (fun H53 locs53 h53 ho53 hz53 hF => ?_)
    have hr := hr.kept (ho53 _ (fun h => (by have h : _ = _ := h; omega)))
    obtain ⟨hm, htx⟩ := h53
    have hgb1 := fgP_b TX n 0 1 0 4 (p + 1) (by omega)
    have hgv1 := fgV_b TX n 0 1 0 4 (p + 1) (by omega)
    rw [show fgP TX n 0 1 0 4 (p + 1) = rc1P TX n p from (by unfold rc1P; rw [eL]; rfl)] at hgb1
    rw [show fgV TX n 0 1 0 4 (p + 1) = rcX TX n p from (by unfold rcX; rw [eL]; rfl)] at hgv1
    refine r_istore_n (lv' := [(3, .int (iI (rcX TX n p))), (2, .int (iI (TX p))), (0, .ref mb), (1, .ref a)]) C rfl hl (by decide) rfl dX4_readCommand_148 (fun ls hl => ?_)
    refine r_aload_n C rfl (lv_at hl 2 rfl) dX4_readCommand_149 ?_
    refine r_iload_n C rfl (lv_at hl 0 rfl) dX4_readCommand_150 ?_
    refine r_iconst C dX4_readCommand_151 ?_
    refine r_iconst C dX4_readCommand_152 ?_
    refine r_bipush C (by decide) dX4_readCommand_153 ?_
    refine r_vHi (rest := []) C (k_X4_figures l g mb (up (up M 4 ((M 4) + 1)) 4 ((rc1P TX n p : Nat) : Int)) (by repeat first | exact hMb | refine rg_up ?_ (by omega) | refine rg_setL ?_ (by omega)) TX hTX (rc1P TX n p) n (by rw [up_s] <;> omega) (by rw [up_n _ _ (by omega), up_n _ _ (by omega)] <;> omega) (by omega) (by omega) (rcX TX n p) 2 0 39 (by omega) (by omega) (by omega) (by omega) (rcY TX n p) (rc2P TX n p) (by unfold rcY; rw [eL]; rfl) (by unfold rc2P; rw [eL]; rfl)) s_RX4_131 ⟨hm, htx⟩ hF (fun _ h => Or.inl h) (recv C (ci := 4) rfl hm.o) hl.1 rfl ⟨by decide, by decide⟩ rfl (Nat.le_of_ble_eq_true rfl) ⟨Nat.le_refl 0, Nat.le_refl 0⟩ dX4_readCommand_155 (fun H54 locs54 h54 ho54 hz54 hF => ?_)
    have hr := hr.kept (ho54 _ (fun h => (by have h : _ = _ := h; omega)))
    obtain ⟨hm, htx⟩ := h54
    have hgb2 := fgP_b TX n (rcX TX n p) 2 0 39 (rc1P TX n p) (by omega)
    have hgv2 := fgV_b TX n (rcX TX n p) 2 0 39 (rc1P TX n p) (by omega)
    rw [show fgP TX n (rcX TX n p) 2 0 39 (rc1P TX n p) = rc2P TX n p from (by unfold rc2P; rw [eL]; rfl)] at hgb2
    rw [show fgV TX n (rcX TX n p) 2 0 39 (rc1P TX n p) = rcY TX n p from (by unfold rcY; rw [eL]; rfl)] at hgv2
    refine r_istore (lv' := [(4, .int (iI (rcY TX n p))), (3, .int (iI (rcX TX n p))), (2, .int (iI (TX p))), (0, .ref mb), (1, .ref a)]) C hl (by decide) rfl dX4_readCommand_158 (fun ls hl => ?_)
    refine r_iload C (lv_at hl 0 rfl) dX4_readCommand_160 ?_
    refine r_iconst C dX4_readCommand_162 ?_
    refine r_icmp_eq (tgt := 223) C (by decide) (by omega) (by decide) dX4_readCommand_163 (fun c55 => ?_) (fun c55 => ?_)
    · have hZe : rcZ TX n p = rcY TX n p := (if_neg (by omega))
      have hno : ¬ rcOk TX n p := (fun h => h.2 (by omega))
      refine r_iload C (lv_at hl 0 rfl) dX4_readCommand_223 ?_
      refine r_iconst C dX4_readCommand_225 ?_
      refine r_icmp_eq (tgt := 233) C (by decide) (by omega) (by decide) dX4_readCommand_226 (fun c56 => ?_) (fun c56 => ?_)
      · refine r_iconst C dX4_readCommand_233 ?_
        have hPe : rcP TX n p = rc2P TX n p := (by unfold rcP rc3P; rw [if_pos (by unfold rcL; omega), if_neg (by omega)])
        obtain ⟨eF, eD⟩ := rc_no (F := F) hno
        exact r_iretH C rfl rfl (congrArg iI (pI_f (by exact hno)).symm) hF (by exact ⟨⟨up (up (up M 4 ((M 4) + 1)) 4 ((rc1P TX n p : Nat) : Int)) 4 ((rc2P TX n p : Nat) : Int), (by repeat first | exact hMb | refine rg_up ?_ (by omega) | refine rg_setL ?_ (by omega)), (by rw [up_n _ _ (by omega), up_n _ _ (by omega), up_n _ _ (by omega)] <;> omega), (by rw [up_n _ _ (by omega), up_n _ _ (by omega), up_n _ _ (by omega)] <;> omega), (by rw [up_n _ _ (by omega), up_n _ _ (by omega), up_n _ _ (by omega)] <;> omega), (by rw [hPe, up_s] <;> omega), (by rw [eD, Int.add_zero]; exact (by rw [up_n _ _ (by omega), up_n _ _ (by omega), up_n _ _ (by omega)] <;> omega)), hm⟩, htx, (by rw [eF]; exact hr)⟩) dX4_readCommand_234
      · exact absurd c56 (by omega)
    · have hZe : rcZ TX n p = rcY TX n p := (if_neg (by omega))
      have hok : rcOk TX n p := ⟨by omega, by omega⟩
      have hco := rc_ok hok
      have hco2 := hco
      unfold cmOk at hco2
      refine r_aload_n C rfl (lv_at hl 3 rfl) dX4_readCommand_166 ?_
      refine r_aload_n C rfl (lv_at hl 4 rfl) dX4_readCommand_167 ?_
      refine r_iload_n C rfl (lv_at hl 1 rfl) dX4_readCommand_168 ?_
      refine r_sPi (rest := [.ref mb]) C (k_X4_isSpace l g a F hSm (rcX TX n p) (by omega)) s_RX4_94 hr hl.1 rfl ⟨by decide, by decide⟩ rfl (Nat.le_of_ble_eq_true rfl) ⟨Nat.le_refl 0, Nat.le_refl 0⟩ dX4_readCommand_169 ?_
      have b57 := hSm.n
      refine r_ifP_eq (tgt := 219) C (by decide) dX4_readCommand_172 (fun c58 => ?_) (fun c58 => ?_)
      · refine r_iconst C dX4_readCommand_219 ?_
        refine r_vHn (rest := []) C (k_X4_leftOut l g mb (up (up (up M 4 ((M 4) + 1)) 4 ((rc1P TX n p : Nat) : Int)) 4 ((rc2P TX n p : Nat) : Int)) 0 False ((pI_f (fun h => h)).symm)) s_RX4_141 hm hF (fun _ h => Or.inl h) (recv C (ci := 4) rfl hm.o) hl.1 rfl ⟨by decide, by decide⟩ rfl (Nat.le_of_ble_eq_true rfl) ⟨Nat.le_refl 0, Nat.le_refl 0⟩ dX4_readCommand_220 (fun H59 locs59 h59 ho59 hz59 hF => ?_)
        have htx := htx.kept (ho59 _ (fun h => (by have h : _ = _ := h; omega)))
        have hr := hr.kept (ho59 _ (fun h => (by have h : _ = _ := h; omega)))
        have hm := h59
        refine r_iload C (lv_at hl 0 rfl) dX4_readCommand_223 ?_
        refine r_iconst C dX4_readCommand_225 ?_
        refine r_icmp_eq (tgt := 233) C (by decide) (by omega) (by decide) dX4_readCommand_226 (fun c60 => ?_) (fun c60 => ?_)
        · exact absurd c60 (by omega)
        · refine r_iconst C dX4_readCommand_229 ?_
          refine r_goto (tgt := 234) C (by decide) dX4_readCommand_230 ?_
          have hPe : rcP TX n p = rc2P TX n p := (by unfold rcP rc3P; rw [if_pos (by unfold rcL; omega), if_neg (by omega)])
          have e5 : (up (up (up M 4 ((M 4) + 1)) 4 ((rc1P TX n p : Nat) : Int)) 4 ((rc2P TX n p : Nat) : Int)) 5 = o := (by rw [up_n _ _ (by omega), up_n _ _ (by omega), up_n _ _ (by omega)]; exact h5)
          have eC : cmD (TX p) (rcX TX n p) (rcY TX n p) (rcZ TX n p) F = 0 := (by unfold cmD; rw [if_neg (by omega), if_pos eL]; exact pI_f (by omega))
          have eD : rcD TX n p F = 1 - 0 := (by unfold rcD; rw [if_pos hok, eC])
          have eF : rcF TX n p F = F := (by unfold rcF; rw [if_pos hok]; unfold cmF; rw [if_neg (by omega), if_pos eL]; exact if_neg (by omega))
          exact r_iretH C rfl rfl (congrArg iI (pI_t (by exact hok)).symm) hF (by exact ⟨⟨up (up (up (up M 4 ((M 4) + 1)) 4 ((rc1P TX n p : Nat) : Int)) 4 ((rc2P TX n p : Nat) : Int)) 5 ((up (up (up M 4 ((M 4) + 1)) 4 ((rc1P TX n p : Nat) : Int)) 4 ((rc2P TX n p : Nat) : Int)) 5 + (if False then 0 else 1)), (by repeat first | exact hMb | refine rg_up ?_ (by omega) | refine rg_setL ?_ (by omega)), (by rw [up_n _ _ (by omega), up_n _ _ (by omega), up_n _ _ (by omega), up_n _ _ (by omega)] <;> omega), (by rw [up_n _ _ (by omega), up_n _ _ (by omega), up_n _ _ (by omega), up_n _ _ (by omega)] <;> omega), (by rw [up_n _ _ (by omega), up_n _ _ (by omega), up_n _ _ (by omega), up_n _ _ (by omega)] <;> omega), (by rw [hPe, up_n _ _ (by omega), up_s] <;> omega), (by rw [up_s, e5, eD, if_neg (fun h => h)] <;> rfl), hm⟩, htx, (by rw [eF]; exact hr)⟩) dX4_readCommand_234
      · refine r_iload_n C rfl (lv_at hl 2 rfl) dX4_readCommand_175 ?_
        refine r_bipush C (by decide) dX4_readCommand_176 ?_
        refine r_icmp_ne (tgt := 195) C (by decide) (by omega) (by decide) dX4_readCommand_178 (fun c61 => ?_) (fun c61 => ?_)
        · exact absurd c61 (by omega)
        · refine r_aload_n C rfl (lv_at hl 3 rfl) dX4_readCommand_181 ?_
          refine r_aload_n C rfl (lv_at hl 4 rfl) dX4_readCommand_182 ?_
          refine r_iload_n C rfl (lv_at hl 1 rfl) dX4_readCommand_183 ?_
          refine r_iload C (lv_at hl 0 rfl) dX4_readCommand_184 ?_
          refine r_vHi (rest := [.ref mb]) C (k_X4_writeOn l g mb (up (up (up M 4 ((M 4) + 1)) 4 ((rc1P TX n p : Nat) : Int)) 4 ((rc2P TX n p : Nat) : Int)) (by repeat first | exact hMb | refine rg_up ?_ (by omega) | refine rg_setL ?_ (by omega)) a F z0 T (by omega) hJ (by omega) (rcX TX n p) (((rcX TX n p)).toNat) (by omega) (by omega) (by omega) (rcY TX n p) (((rcY TX n p)).toNat) (by omega) (by omega)) s_RX4_128 ⟨hm, hr⟩ hF (fun _ h => h) (recv C (ci := 4) rfl hm.o) hl.1 rfl ⟨by decide, by decide⟩ rfl (Nat.le_of_ble_eq_true rfl) ⟨Nat.le_refl 0, Nat.le_refl 0⟩ dX4_readCommand_186 (fun H64 locs64 h64 ho64 hz64 hF => ?_)
          have htx := htx.kept (ho64 _ (fun h => (by rcases h with h | h <;> omega)))
          obtain ⟨hm, hr⟩ := h64
          have b62 := wrR_b F (((rcX TX n p)).toNat) (((rcY TX n p)).toNat)
          have b63 := wrL_5 hSm (((rcX TX n p)).toNat) (((rcY TX n p)).toNat)
          refine r_if_lt (tgt := 219) C (by decide) (by omega) dX4_readCommand_189 (fun c65 => ?_) (fun c65 => ?_)
          · exact absurd c65 (by omega)
          · refine r_goto (tgt := 215) C (by decide) dX4_readCommand_192 ?_
            refine r_iconst C dX4_readCommand_215 ?_
            refine r_goto (tgt := 220) C (by decide) dX4_readCommand_216 ?_
            refine r_vHn (rest := []) C (k_X4_leftOut l g mb (setL (up (up (up M 4 ((M 4) + 1)) 4 ((rc1P TX n p : Nat) : Int)) 4 ((rc2P TX n p : Nat) : Int)) (wrL F (((rcX TX n p)).toNat) (((rcY TX n p)).toNat))) 1 True ((pI_t trivial).symm)) s_RX4_141 hm hF (fun _ h => Or.inl h) (recv C (ci := 4) rfl hm.o) hl.1 rfl ⟨by decide, by decide⟩ rfl (Nat.le_of_ble_eq_true rfl) ⟨Nat.le_refl 0, Nat.le_refl 0⟩ dX4_readCommand_220 (fun H66 locs66 h66 ho66 hz66 hF => ?_)
            have htx := htx.kept (ho66 _ (fun h => (by have h : _ = _ := h; omega)))
            have hr := hr.kept (ho66 _ (fun h => (by have h : _ = _ := h; omega)))
            have hm := h66
            refine r_iload C (lv_at hl 0 rfl) dX4_readCommand_223 ?_
            refine r_iconst C dX4_readCommand_225 ?_
            refine r_icmp_eq (tgt := 233) C (by decide) (by omega) (by decide) dX4_readCommand_226 (fun c67 => ?_) (fun c67 => ?_)
            · exact absurd c67 (by omega)
            · refine r_iconst C dX4_readCommand_229 ?_
              refine r_goto (tgt := 234) C (by decide) dX4_readCommand_230 ?_
              have hPe : rcP TX n p = rc2P TX n p := (by unfold rcP rc3P; rw [if_pos (by unfold rcL; omega), if_neg (by omega)])
              have e5 : (setL (up (up (up M 4 ((M 4) + 1)) 4 ((rc1P TX n p : Nat) : Int)) 4 ((rc2P TX n p : Nat) : Int)) (wrL F (((rcX TX n p)).toNat) (((rcY TX n p)).toNat))) 5 = o := (by rw [setL_k _ _ (by omega), up_n _ _ (by omega), up_n _ _ (by omega), up_n _ _ (by omega)]; exact h5)
              have eC : cmD (TX p) (rcX TX n p) (rcY TX n p) (rcZ TX n p) F = 1 := (by unfold cmD; rw [if_neg (by omega), if_pos eL]; exact pI_t (by omega))
              have eD : rcD TX n p F = 1 - 1 := (by unfold rcD; rw [if_pos hok, eC])
              have eF : rcF TX n p F = wrF F (((rcX TX n p)).toNat) (((rcY TX n p)).toNat) := (by unfold rcF; rw [if_pos hok]; unfold cmF; rw [if_neg (by omega), if_pos eL]; exact if_pos (by omega))
              exact r_iretH C rfl rfl (congrArg iI (pI_t (by exact hok)).symm) hF (by exact ⟨⟨up (setL (up (up (up M 4 ((M 4) + 1)) 4 ((rc1P TX n p : Nat) : Int)) 4 ((rc2P TX n p : Nat) : Int)) (wrL F (((rcX TX n p)).toNat) (((rcY TX n p)).toNat))) 5 ((setL (up (up (up M 4 ((M 4) + 1)) 4 ((rc1P TX n p : Nat) : Int)) 4 ((rc2P TX n p : Nat) : Int)) (wrL F (((rcX TX n p)).toNat) (((rcY TX n p)).toNat))) 5 + (if True then 0 else 1)), (by repeat first | exact hMb | refine rg_up ?_ (by omega) | refine rg_setL ?_ (by omega)), (by rw [up_n _ _ (by omega), setL_k _ _ (by omega), up_n _ _ (by omega), up_n _ _ (by omega), up_n _ _ (by omega)] <;> omega), (by rw [up_n _ _ (by omega), setL_k _ _ (by omega), up_n _ _ (by omega), up_n _ _ (by omega), up_n _ _ (by omega)] <;> omega), (by rw [up_n _ _ (by omega), setL_k _ _ (by omega), up_n _ _ (by omega), up_n _ _ (by omega), up_n _ _ (by omega)] <;> omega), (by rw [hPe, up_n _ _ (by omega), setL_k _ _ (by omega), up_s] <;> omega), (by rw [up_s, e5, eD, if_pos trivial] <;> rfl), hm⟩, htx, (by rw [eF]; exact hr)⟩) dX4_readCommand_234
  refine r_lk (tgt := 349) (off := 328) C (by omega) (by decide) (by show (if (102 : Int) = (TX p) then 214 else if (114 : Int) = (TX p) then 264 else if (115 : Int) = (TX p) then 51 else if (116 : Int) = (TX p) then 119 else if (119 : Int) = (TX p) then 119 else 328) = _; rw [if_neg (by omega), if_neg (by omega), if_neg (by omega), if_neg (by omega), if_neg (by omega)]) (by decide) dX4_readCommand_21 ?_
  refine r_aload_n C rfl (lv_at hl 1 rfl) dX4_readCommand_349 ?_
  refine r_dup C rfl dX4_readCommand_350 ?_
  refine r_get C (ci := 4) (v := .int (iI ((up M 4 ((M 4) + 1)) 4))) rfl uin4 hm.o 10 (by decide) q_795 rfl rfl dX4_readCommand_351 ?_
  have er68 : (up M 4 ((M 4) + 1)) 4 = (M 4) + 1 := (by rw [up_s])
  rw [er68]
  have b69 := hMb 4
  refine r_iconst C dX4_readCommand_354 ?_
  refine r_isub C dX4_readCommand_355 ?_
  refine r_put C (ci := 4) rfl uin4 tyX4_ok nmX4 hm.o hF (Or.inl rfl) 10 (by decide) q_795 rfl rfl rfl rfl (by show 10 < 13; decide) dX4_readCommand_356 (fun H70 locs70 h70 ho70 hz70 hF => ?_)
  have htx := htx.kept (ho70 _ (by omega))
  have hr := hr.kept (ho70 _ (by omega))
  have hm : mdAt g mb (up (up M 4 ((M 4) + 1)) 4 (((M 4) + 1) - 1)) H70 := hm.put4 h70 ho70
  refine r_iconst C dX4_readCommand_359 ?_
  have hno : ¬ rcOk TX n p := (fun h => by have h1 := h.1; unfold rcL at h1; omega)
  have hPe : rcP TX n p = p := (if_neg (by unfold rcL; omega))
  obtain ⟨eF, eD⟩ := rc_no (F := F) hno
  exact r_iretH C rfl rfl (congrArg iI (pI_f (by exact hno)).symm) hF (by exact ⟨⟨up (up M 4 ((M 4) + 1)) 4 (((M 4) + 1) - 1), (by repeat first | exact hMb | refine rg_up ?_ (by omega) | refine rg_setL ?_ (by omega)), (by rw [up_n _ _ (by omega), up_n _ _ (by omega)] <;> omega), (by rw [up_n _ _ (by omega), up_n _ _ (by omega)] <;> omega), (by rw [up_n _ _ (by omega), up_n _ _ (by omega)] <;> omega), (by rw [hPe, up_s] <;> omega), (by rw [eD, Int.add_zero]; exact (by rw [up_n _ _ (by omega), up_n _ _ (by omega)] <;> omega)), hm⟩, htx, (by rw [eF]; exact hr)⟩) dX4_readCommand_360
set_option maxHeartbeats 4000000 in
theorem k_X4_readText (l : Launch) (g : Gt) (mb a : Nat) (a0 a2 a4 a5 : Int) (n : Nat) (TX : Nat → Int) (hTX : ∀ k : Nat, k < 120 → 0 ≤ TX k ∧ TX k ≤ 255) (hn : n ≤ 120) (R0 : Nat → Int) (hne : a ≠ mb) (hne1 : a ≠ mb + 1) : CH l yX4_readText cX4_readText 3 (some .int) 11 257 g [.ref mb, .ref a] (fun H => mdX g mb a0 n a2 a4 a5 H ∧ aAt g (mb + 1) 120 TX H ∧ aAt g a 262 R0 H) (some (.int (iI (txE TX n)))) (fun q => q = mb ∨ q = a) (fun H => ∃ z, mdX g mb a0 n a2 z (txO TX n) H ∧ aAt g (mb + 1) 120 TX H ∧ aAt g a 262 (txF TX n) H) := by
  refine ch_of "LentRoomModel" (by decide) rfl (Nat.le_of_ble_eq_true rfl) ?_
  intro zp ze zs zm za zb zt zc ls C hP hF hl
  obtain ⟨⟨M, hMb, h0, h1, h2, h4, h5, hm⟩, htx, hr⟩ := hP
  have hl : lv_has ls 3 [(0, .ref mb), (1, .ref a)] := hl
  have cut54 : ∀ (N : Nat) (k : Nat) (p : Nat) (M : Nat → Int) (F1 : Nat → Int) (o : Int), k + 1 < N → (∀ k, Rg (M k)) → (M 0 = a0) → (M 1 = (n : Int)) → (M 2 = a2) → (M 4 = (p : Int)) → (M 5 = o) → (1 ≤ p ∧ p ≤ n) → (n ≤ p + k) → (0 ≤ o ∧ o ≤ p) → (txE TX n = rtR TX n k p) → (txF TX n = rtF TX n k p F1) → (txO TX n = rtO TX n k p F1 o) → (J F1 z0 (100 + 240 * p)) → ∀ (H : Heap) (locs : List Loc), mdAt g mb M H → aAt g (mb + 1) 120 TX H → aAt g a 262 F1 H → Fr (fun q => q = mb ∨ q = a) zs.heap H locs → ∀ ls : Array Slot, lv_has ls 3 [(0, .ref mb), (1, .ref a)] → W zp l ze (rmc 11 257) zs zm za zb zt zc H locs 0 0 (MQ zb (HQ (some (.int (iI (txE TX n)))) (fun q => q = mb ∨ q = a) (fun H => ∃ z, mdX g mb a0 n a2 z (txO TX n) H ∧ aAt g (mb + 1) 120 TX H ∧ aAt g a 262 (txF TX n) H)) za zs 0 0 (fun q => q = mb ∨ q = a)) (F0 zm 54 ls []) := by
    intro N
    induction N with
    | zero => intro k p M F1 o; exact fun hms => absurd hms (Nat.not_lt_zero _)
    | succ N ih =>
      intro k p M F1 o hms hMb h0 h1 h2 h4 h5 hp hk ho hR hFx hO hJ1 H locs hm htx hr hF ls hl
      have hSm1 : Sm F1 := hJ1.S.m (by omega)
      refine r_aload_n C rfl (lv_at hl 0 rfl) dX4_readText_54 ?_
      refine r_get C (ci := 4) (v := .int (iI (M 4))) rfl uin4 hm.o 10 (by decide) q_795 rfl rfl dX4_readText_55 ?_
      have b1 := hMb 4
      refine r_aload_n C rfl (lv_at hl 0 rfl) dX4_readText_58 ?_
      refine r_get C (ci := 4) (v := .int (iI (M 1))) rfl uin4 hm.o 2 (by decide) q_787 rfl rfl dX4_readText_59 ?_
      have b2 := hMb 1
      refine r_icmp_ge (tgt := 78) C (by decide) (by omega) (by omega) dX4_readText_62 (fun c3 => ?_) (fun c3 => ?_)
      · refine r_iconst C dX4_readText_78 ?_
        have he3 := rt_end (TX := TX) (k := k) (F := F1) (o := o) (show n ≤ p by omega)
        exact r_iretH C rfl rfl (congrArg iI (by rw [hR, he3.1])) hF (by rw [hFx, he3.2.1, hO, he3.2.2]; exact ⟨_, ⟨M, hMb, h0, h1, h2, h4, h5, hm⟩, htx, hr⟩) dX4_readText_79
      · refine r_aload_n C rfl (lv_at hl 0 rfl) dX4_readText_65 ?_
        refine r_aload_n C rfl (lv_at hl 1 rfl) dX4_readText_66 ?_
        refine r_vHi (rest := []) C (k_X4_readCommand l g mb a a0 a2 p n o TX hTX (by omega) (by omega) (by omega) F1 (100 + 240 * p) (by omega) (by omega) hJ1 (by omega) (by omega)) s_RX4_159 ⟨⟨M, hMb, (by first | exact h0 | omega), (by first | exact h1 | omega), (by first | exact h2 | omega), (by first | exact h4 | omega), (by first | exact h5 | omega), hm⟩, htx, hr⟩ hF (fun _ h => h) (recv C (ci := 4) rfl hm.o) hl.1 rfl ⟨by decide, by decide⟩ rfl (Nat.le_of_ble_eq_true rfl) ⟨Nat.le_refl 0, Nat.le_refl 0⟩ dX4_readText_67 (fun H4 locs4 h4 ho4 hz4 hF => ?_)
        obtain ⟨⟨M, hMb, h0, h1, h2, h4, h5, hm⟩, htx, hr⟩ := h4
        have hpb := rcP_b TX n p (by omega)
        have hdb := rcD_b TX n p F1
        refine r_ifP_ne (tgt := 54) C (by decide) dX4_readText_70 (fun c5 => ?_) (fun c5 => ?_)
        · exact ih (k - 1) (rcP TX n p) M (rcF TX n p F1) (o + rcD TX n p F1) (by omega) (by exact hMb) (by exact (by first | exact h0 | omega)) (by exact (by first | exact h1 | omega)) (by exact (by first | exact h2 | omega)) (by exact (by first | exact h4 | omega)) (by exact (by first | exact h5 | omega)) (by omega) (by omega) (by omega) (by exact hR.trans (rt_ok (F := F1) (o := o) (show p < n by omega) (show 0 < k by omega) (by assumption)).1) (by exact hFx.trans (rt_ok (F := F1) (o := o) (show p < n by omega) (show 0 < k by omega) (by assumption)).2.1) (by exact hO.trans (rt_ok (F := F1) (o := o) (show p < n by omega) (show 0 < k by omega) (by assumption)).2.2) (by exact (hJ1.rc (by omega) (by omega) TX n p).mono (by omega)) _ _ hm htx hr hF _ (lv_sub hl [0, 1] rfl)
        · refine r_aload_n C rfl (lv_at hl 0 rfl) dX4_readText_73 ?_
          refine r_get C (ci := 4) (v := .int (iI (M 4))) rfl uin4 hm.o 10 (by decide) q_795 rfl rfl dX4_readText_74 ?_
          have b6 := hMb 4
          have hpn : p < n := (by omega)
          have hno3 := rt_no (F := F1) (o := o) hpn (show 0 < k by omega) (by assumption)
          obtain ⟨eF, eD⟩ := rc_no (F := F1) (by assumption)
          exact r_iretH C rfl rfl (congrArg iI (by rw [hR, hno3.1]; omega)) hF (by rw [hFx, hno3.2.1, hO, hno3.2.2]; rw [eF] at hr; exact ⟨_, ⟨M, hMb, h0, h1, h2, h4, by rw [h5, eD]; omega, hm⟩, htx, hr⟩) dX4_readText_77
  have cut2 : ∀ (N : Nat) (i : Nat) (v2 : Int), 262 - i < N → (i ≤ 262) → (v2 = (i : Int)) → ∀ (H : Heap) (locs : List Loc), mdAt g mb M H → aAt g (mb + 1) 120 TX H → aAt g a 262 (zf R0 i) H → Fr (fun q => q = mb ∨ q = a) zs.heap H locs → ∀ ls : Array Slot, lv_has ls 3 [(0, .ref mb), (1, .ref a), (2, .int (iI v2))] → W zp l ze (rmc 11 257) zs zm za zb zt zc H locs 0 0 (MQ zb (HQ (some (.int (iI (txE TX n)))) (fun q => q = mb ∨ q = a) (fun H => ∃ z, mdX g mb a0 n a2 z (txO TX n) H ∧ aAt g (mb + 1) 120 TX H ∧ aAt g a 262 (txF TX n) H)) za zs 0 0 (fun q => q = mb ∨ q = a)) (F0 zm 2 ls []) := by
    intro N
    induction N with
    | zero => intro i v2; exact fun hms => absurd hms (Nat.not_lt_zero _)
    | succ N ih =>
      intro i v2 hms hi hv2 H locs hm htx hr hF ls hl
      refine r_iload_n C rfl (lv_at hl 2 rfl) dX4_readText_2 ?_
      refine r_sipush C (by decide) dX4_readText_3 ?_
      refine r_icmp_ge (tgt := 19) C (by decide) (by omega) (by decide) dX4_readText_6 (fun c7 => ?_) (fun c7 => ?_)
      · have hr : aAt g a 262 z0 H := hr.cg (fun k hk => (by unfold zf; rw [if_pos (by omega)]))
        refine r_aload_n C rfl (lv_at hl 0 rfl) dX4_readText_19 ?_
        refine r_iconst C dX4_readText_20 ?_
        refine r_put C (ci := 4) rfl uin4 tyX4_ok nmX4 hm.o hF (Or.inl rfl) 11 (by decide) q_796 rfl rfl rfl rfl (by show 11 < 13; decide) dX4_readText_21 (fun H8 locs8 h8 ho8 hz8 hF => ?_)
        have htx := htx.kept (ho8 _ (by omega))
        have hr := hr.kept (ho8 _ (by omega))
        have hm : mdAt g mb (up M 5 0) H8 := hm.put5 h8 ho8
        refine r_aload_n C rfl (lv_at hl 0 rfl) dX4_readText_24 ?_
        refine r_iconst C dX4_readText_25 ?_
        refine r_put C (ci := 4) rfl uin4 tyX4_ok nmX4 hm.o hF (Or.inl rfl) 10 (by decide) q_795 rfl rfl rfl rfl (by show 10 < 13; decide) dX4_readText_26 (fun H9 locs9 h9 ho9 hz9 hF => ?_)
        have htx := htx.kept (ho9 _ (by omega))
        have hr := hr.kept (ho9 _ (by omega))
        have hm : mdAt g mb (up (up M 5 0) 4 0) H9 := hm.put4 h9 ho9
        refine r_aload_n C rfl (lv_at hl 0 rfl) dX4_readText_29 ?_
        refine r_get C (ci := 4) (v := .int (iI ((up (up M 5 0) 4 0) 1))) rfl uin4 hm.o 2 (by decide) q_787 rfl rfl dX4_readText_30 ?_
        have er10 : (up (up M 5 0) 4 0) 1 = M 1 := (by rw [up_n _ _ (by omega), up_n _ _ (by omega)])
        rw [er10]
        have b11 := hMb 1
        refine r_if_eq (tgt := 47) C (by decide) (by omega) dX4_readText_33 (fun c12 => ?_) (fun c12 => ?_)
        · refine r_iconst C dX4_readText_47 ?_
          have hb : txB TX n := (by first | exact Or.inl (by omega) | exact Or.inr (by omega))
          exact r_iretH C rfl rfl (congrArg iI (by exact (if_pos hb).symm)) hF (by exact ⟨0, by rw [show txO TX n = 0 from if_pos hb]; exact ⟨up (up M 5 0) 4 0, (by repeat first | exact hMb | refine rg_up ?_ (by omega) | refine rg_setL ?_ (by omega)), (by rw [up_n _ _ (by omega), up_n _ _ (by omega)] <;> omega), (by rw [up_n _ _ (by omega), up_n _ _ (by omega)] <;> omega), (by rw [up_n _ _ (by omega), up_n _ _ (by omega)] <;> omega), (by rw [up_s] <;> omega), (by rw [up_n _ _ (by omega), up_s] <;> omega), hm⟩, htx, by rw [show txF TX n = z0 from if_pos hb]; exact hr⟩) dX4_readText_48
        · refine r_aload_n C rfl (lv_at hl 0 rfl) dX4_readText_36 ?_
          refine r_get C (ci := 4) (v := .ref (mb + 1)) rfl uin4 hm.o 1 (by decide) q_786 rfl rfl dX4_readText_37 ?_
          refine r_iconst C dX4_readText_40 ?_
          refine r_iald (v := TX 0) C htx 0 rfl (by omega) (by omega) rfl dX4_readText_41 ?_
          have b13 := hTX 0 (by omega)
          refine r_bipush C (by decide) dX4_readText_42 ?_
          refine r_icmp_eq (tgt := 49) C (by decide) (by omega) (by decide) dX4_readText_44 (fun c14 => ?_) (fun c14 => ?_)
          · refine r_aload_n C rfl (lv_at hl 0 rfl) dX4_readText_49 ?_
            have hnb : ¬ txB TX n := (fun h => by rcases h with h | h <;> omega)
            refine r_iconst C dX4_readText_50 ?_
            refine r_put C (ci := 4) rfl uin4 tyX4_ok nmX4 hm.o hF (Or.inl rfl) 10 (by decide) q_795 rfl rfl rfl rfl (by show 10 < 13; decide) dX4_readText_51 (fun H15 locs15 h15 ho15 hz15 hF => ?_)
            have htx := htx.kept (ho15 _ (by omega))
            have hr := hr.kept (ho15 _ (by omega))
            have hm : mdAt g mb (up (up (up M 5 0) 4 0) 4 1) H15 := hm.put4 h15 ho15
            exact cut54 _ 120 1 (up (up (up M 5 0) 4 0) 4 1) z0 0 (Nat.lt_succ_self _) (by exact (by repeat first | exact hMb | refine rg_up ?_ (by omega) | refine rg_setL ?_ (by omega))) (by exact (by rw [up_n _ _ (by omega), up_n _ _ (by omega), up_n _ _ (by omega)] <;> omega)) (by exact (by rw [up_n _ _ (by omega), up_n _ _ (by omega), up_n _ _ (by omega)] <;> omega)) (by exact (by rw [up_n _ _ (by omega), up_n _ _ (by omega), up_n _ _ (by omega)] <;> omega)) (by exact (by rw [up_s] <;> omega)) (by exact (by rw [up_n _ _ (by omega), up_n _ _ (by omega), up_s] <;> omega)) (by omega) (by omega) (by omega) (by exact if_neg hnb) (by exact if_neg hnb) (by exact if_neg hnb) (by exact J.zero (by omega)) _ _ hm htx hr hF _ (lv_sub hl [0, 1] rfl)
          · refine r_iconst C dX4_readText_47 ?_
            have hb : txB TX n := (by first | exact Or.inl (by omega) | exact Or.inr (by omega))
            exact r_iretH C rfl rfl (congrArg iI (by exact (if_pos hb).symm)) hF (by exact ⟨0, by rw [show txO TX n = 0 from if_pos hb]; exact ⟨up (up M 5 0) 4 0, (by repeat first | exact hMb | refine rg_up ?_ (by omega) | refine rg_setL ?_ (by omega)), (by rw [up_n _ _ (by omega), up_n _ _ (by omega)] <;> omega), (by rw [up_n _ _ (by omega), up_n _ _ (by omega)] <;> omega), (by rw [up_n _ _ (by omega), up_n _ _ (by omega)] <;> omega), (by rw [up_s] <;> omega), (by rw [up_n _ _ (by omega), up_s] <;> omega), hm⟩, htx, by rw [show txF TX n = z0 from if_pos hb]; exact hr⟩) dX4_readText_48
      · refine r_aload_n C rfl (lv_at hl 1 rfl) dX4_readText_9 ?_
        refine r_iload_n C rfl (lv_at hl 2 rfl) dX4_readText_10 ?_
        refine r_iconst C dX4_readText_11 ?_
        refine r_iast C hr hF (Or.inr rfl) i (by omega) (by omega) (by omega) dX4_readText_12 (fun H16 locs16 h16 ho16 hz16 hF => ?_)
        have hm := hm.kept (ho16 _ (by omega))
        have htx := htx.kept (ho16 _ (by omega))
        have hr := h16
        have hr : aAt g a 262 (zf R0 (i + 1)) H16 := (by rw [← zf_s]; exact hr)
        refine r_iinc (lv' := [(2, .int (iI (v2 + 1))), (0, .ref mb), (1, .ref a)]) C hl (q := 2) rfl (by decide) rfl dX4_readText_13 (fun ls hl => ?_)
        refine r_goto (tgt := 2) C (by decide) dX4_readText_16 ?_
        exact ih (i + 1) (v2 + 1) (by omega) (by omega) (by omega) _ _ hm htx hr hF _ (lv_sub hl [1, 2, 0] rfl)
  refine r_iconst C dX4_readText_0 ?_
  refine r_istore_n (lv' := [(2, .int (iI 0)), (0, .ref mb), (1, .ref a)]) C rfl hl (by decide) rfl dX4_readText_1 (fun ls hl => ?_)
  have hr : aAt g a 262 (zf R0 0) zs.heap := hr
  exact cut2 _ 0 0 (Nat.lt_succ_self _) (by omega) (by omega) _ _ hm htx hr hF _ (lv_sub hl [1, 2, 0] rfl)
set_option maxHeartbeats 4000000 in
theorem k_X4_errorPosition (l : Launch) (g : Gt) (mb : Nat) (rf sz ac : Int) (TX F DIA KEP ISK : Nat → Int) (T : Int) (hJ : J F z0 T) (hT : T ≤ 900000) (TX : Nat → Int) (hTX : ∀ k : Nat, k < 120 → 0 ≤ TX k ∧ TX k ≤ 255) (n : Nat) (hsz : sz = (n : Int)) (hn : n ≤ 120) : CH l yX4_errorPosition cX4_errorPosition 1 (some .int) 12 279 g [.ref mb] (MW g mb rf sz ac TX F DIA KEP ISK) (some (.int (iI (txE TX n)))) (Mdp mb) (MW g mb 0 sz ac TX F DIA KEP ISK) := by
  refine ch_of "LentRoomModel" (by decide) rfl (Nat.le_of_ble_eq_true rfl) ?_
  intro zp ze zs zm za zb zt zc ls C hP hF hl
  obtain ⟨M, TRI, AP, hMb, hM0, hM1, hM2, hm, htx, hno, htr, hdi, hke, hik, hap⟩ := hP
  have hl : lv_has ls 1 [(0, .ref mb)] := hl
  have hS := hJ.S
  have hSm : Sm F := hS.m (by omega)
  have hZ := hJ.Z
  have hn5 := hJ.n
  refine r_aload_n C rfl (lv_at hl 0 rfl) dX4_errorPosition_0 ?_
  refine r_iconst C dX4_errorPosition_1 ?_
  refine r_put C (ci := 4) rfl uin4 tyX4_ok nmX4 hm.o hF (is_mdp (by omega)) 0 (by decide) q_785 rfl rfl rfl rfl (by show 0 < 13; decide) dX4_errorPosition_2 (fun H1 locs1 h1 ho1 hz1 hF => ?_)
  have htx := htx.kept (ho1 _ (by omega))
  have hno := hno.kept (ho1 _ (by omega))
  have htr := htr.kept (ho1 _ (by omega))
  have hdi := hdi.kept (ho1 _ (by omega))
  have hke := hke.kept (ho1 _ (by omega))
  have hik := hik.kept (ho1 _ (by omega))
  have hap := hap.kept (ho1 _ (by omega))
  have hm : mdAt g mb (up M 0 0) H1 := hm.put0 h1 ho1
  refine r_aload_n C rfl (lv_at hl 0 rfl) dX4_errorPosition_5 ?_
  refine r_aload_n C rfl (lv_at hl 0 rfl) dX4_errorPosition_6 ?_
  refine r_get C (ci := 4) (v := .ref (mb + 3)) rfl uin4 hm.o 4 (by decide) q_789 rfl rfl dX4_errorPosition_7 ?_
  refine r_vHi (rest := []) C (k_X4_readText l g mb (mb + 3) 0 ac (M 4) (M 5) n TX hTX hn TRI (by omega) (by omega)) s_RX4_163 ⟨⟨up M 0 0, (by repeat first | exact hMb | exact rg_up hMb (by decide) | refine rg_up ?_ (by omega) | refine rg_setL ?_ (by omega)), (by rw [up_s] <;> omega), (by rw [up_n _ _ (by omega)] <;> omega), (by rw [up_n _ _ (by omega)] <;> omega), (by rw [up_n _ _ (by omega)] <;> omega), (by rw [up_n _ _ (by omega)] <;> omega), hm⟩, htx, htr⟩ hF (fun q h => (is_mdp (by rcases h with h | h <;> omega))) (recv C (ci := 4) rfl hm.o) hl.1 rfl ⟨by decide, by decide⟩ rfl (Nat.le_of_ble_eq_true rfl) ⟨Nat.le_refl 0, Nat.le_refl 0⟩ dX4_errorPosition_10 (fun H2 locs2 h2 ho2 hz2 hF => ?_)
  have hno := hno.kept (ho2 _ (fun h => (by rcases h with h | h <;> omega)))
  have hdi := hdi.kept (ho2 _ (fun h => (by rcases h with h | h <;> omega)))
  have hke := hke.kept (ho2 _ (fun h => (by rcases h with h | h <;> omega)))
  have hik := hik.kept (ho2 _ (fun h => (by rcases h with h | h <;> omega)))
  have hap := hap.kept (ho2 _ (fun h => (by rcases h with h | h <;> omega)))
  obtain ⟨z4, ⟨M, hMb, hM0, hM1, hM2, hM4, hM5, hm⟩, htx, htr⟩ := h2
  have hJT := J.tx TX n hn
  have hSmT : Sm (txF TX n) := hJT.S.m (by omega)
  have htE := txE_b TX n hn
  exact r_iretH C rfl rfl (congrArg iI (by rfl)) hF (by exact ⟨M, txF TX n, AP, (by repeat first | exact hMb | exact rg_up hMb (by decide) | refine rg_up ?_ (by omega) | refine rg_setL ?_ (by omega)), (by first | exact hM0 | omega), (by first | exact hM1 | omega), (by first | exact hM2 | omega), hm, htx, hno, htr, hdi, hke, hik, hap⟩) dX4_errorPosition_13
set_option maxHeartbeats 4000000 in
theorem k_X4_load (l : Launch) (g : Gt) (mb : Nat) (rf sz ac : Int) (TX F DIA KEP ISK : Nat → Int) (T : Int) (hJ : J F z0 T) (hT : T ≤ 900000) (TX : Nat → Int) (hTX : ∀ k : Nat, k < 120 → 0 ≤ TX k ∧ TX k ≤ 255) (n : Nat) (hsz : sz = (n : Int)) (hn : n ≤ 120) : CH l yX4_load cX4_load 1 (some .int) 12 279 g [.ref mb] (MW g mb rf sz ac TX F DIA KEP ISK) (some (.int (iI (if (Kd (txE TX n = -1)) = 0 then txO TX n else 0)))) (Mdp mb) (fun H => ((Kd (txE TX n = -1)) = 0 → MW g mb 0 sz 0 TX (txF TX n) DIA KEP (up (up ISK 0 0) 1 0) H) ∧ ((Kd (txE TX n = -1)) ≠ 0 → MW g mb (Kd (txE TX n = -1)) sz ac TX F DIA KEP ISK H)) := by
  refine ch_of "LentRoomModel" (by decide) rfl (Nat.le_of_ble_eq_true rfl) ?_
  intro zp ze zs zm za zb zt zc ls C hP hF hl
  obtain ⟨M, TRI, AP, hMb, hM0, hM1, hM2, hm, htx, hno, htr, hdi, hke, hik, hap⟩ := hP
  have hl : lv_has ls 1 [(0, .ref mb)] := hl
  have hS := hJ.S
  have hSm : Sm F := hS.m (by omega)
  have hZ := hJ.Z
  have hn5 := hJ.n
  refine r_aload_n C rfl (lv_at hl 0 rfl) dX4_load_0 ?_
  refine r_aload_n C rfl (lv_at hl 0 rfl) dX4_load_1 ?_
  refine r_aload_n C rfl (lv_at hl 0 rfl) dX4_load_2 ?_
  refine r_get C (ci := 4) (v := .ref (mb + 3)) rfl uin4 hm.o 4 (by decide) q_789 rfl rfl dX4_load_3 ?_
  refine r_vHi (rest := [.ref mb]) C (k_X4_readText l g mb (mb + 3) rf ac (M 4) (M 5) n TX hTX hn TRI (by omega) (by omega)) s_RX4_163 ⟨⟨M, (by repeat first | exact hMb | exact rg_up hMb (by decide) | refine rg_up ?_ (by omega) | refine rg_setL ?_ (by omega)), (by first | rfl | omega), (by first | rfl | omega), (by first | rfl | omega), (by first | rfl | omega), (by first | rfl | omega), hm⟩, htx, htr⟩ hF (fun q h => (is_mdp (by rcases h with h | h <;> omega))) (recv C (ci := 4) rfl hm.o) hl.1 rfl ⟨by decide, by decide⟩ rfl (Nat.le_of_ble_eq_true rfl) ⟨Nat.le_refl 0, Nat.le_refl 0⟩ dX4_load_6 (fun H1 locs1 h1 ho1 hz1 hF => ?_)
  have hno := hno.kept (ho1 _ (fun h => (by rcases h with h | h <;> omega)))
  have hdi := hdi.kept (ho1 _ (fun h => (by rcases h with h | h <;> omega)))
  have hke := hke.kept (ho1 _ (fun h => (by rcases h with h | h <;> omega)))
  have hik := hik.kept (ho1 _ (fun h => (by rcases h with h | h <;> omega)))
  have hap := hap.kept (ho1 _ (fun h => (by rcases h with h | h <;> omega)))
  obtain ⟨z4, ⟨M, hMb, hM0, hM1, hM2, hM4, hM5, hm⟩, htx, htr⟩ := h1
  have hJT := J.tx TX n hn
  have hSmT : Sm (txF TX n) := hJT.S.m (by omega)
  have htE := txE_b TX n hn
  refine r_iconst C dX4_load_9 ?_
  refine r_icmp_ne (tgt := 17) C (by decide) (by omega) (by decide) dX4_load_10 (fun c2 => ?_) (fun c2 => ?_)
  · refine r_iconst C dX4_load_17 ?_
    refine r_vHi (rest := []) C (k_X4_refused l g mb M 1 (by decide)) s_RX4_109 hm hF (fun q h => (is_mdp (by have h : q = _ := h; omega))) (recv C (ci := 4) rfl hm.o) hl.1 rfl ⟨by decide, by decide⟩ rfl (Nat.le_of_ble_eq_true rfl) ⟨Nat.le_refl 0, Nat.le_refl 0⟩ dX4_load_18 (fun H3 locs3 h3 ho3 hz3 hF => ?_)
    have htx := htx.kept (ho3 _ (fun h => (by have h : _ = _ := h; omega)))
    have hno := hno.kept (ho3 _ (fun h => (by have h : _ = _ := h; omega)))
    have htr := htr.kept (ho3 _ (fun h => (by have h : _ = _ := h; omega)))
    have hdi := hdi.kept (ho3 _ (fun h => (by have h : _ = _ := h; omega)))
    have hke := hke.kept (ho3 _ (fun h => (by have h : _ = _ := h; omega)))
    have hik := hik.kept (ho3 _ (fun h => (by have h : _ = _ := h; omega)))
    have hap := hap.kept (ho3 _ (fun h => (by have h : _ = _ := h; omega)))
    have hm := h3
    refine r_ifP_eq (tgt := 26) C (by decide) dX4_load_21 (fun c4 => ?_) (fun c4 => ?_)
    · exact absurd c4 (by decide)
    · refine r_iconst C dX4_load_24 ?_
      have hK : (Kd (txE TX n = -1)) = 1 := (by unfold Kd; split <;> omega)
      exact r_iretH C rfl rfl (congrArg iI (by rw [if_neg (by omega)])) hF (by exact ⟨fun h => absurd h (by omega), fun _ => ⟨up M 0 1, txF TX n, AP, (by repeat first | exact hMb | exact rg_up hMb (by decide) | refine rg_up ?_ (by omega) | refine rg_setL ?_ (by omega)), (by rw [up_s] <;> omega), (by rw [up_n _ _ (by omega)] <;> omega), (by rw [up_n _ _ (by omega)] <;> omega), hm, htx, hno, htr, hdi, hke, hik, hap⟩⟩) dX4_load_25
  · refine r_iconst C dX4_load_13 ?_
    refine r_goto (tgt := 18) C (by decide) dX4_load_14 ?_
    refine r_vHi (rest := []) C (k_X4_refused l g mb M 0 (by decide)) s_RX4_109 hm hF (fun q h => (is_mdp (by have h : q = _ := h; omega))) (recv C (ci := 4) rfl hm.o) hl.1 rfl ⟨by decide, by decide⟩ rfl (Nat.le_of_ble_eq_true rfl) ⟨Nat.le_refl 0, Nat.le_refl 0⟩ dX4_load_18 (fun H5 locs5 h5 ho5 hz5 hF => ?_)
    have htx := htx.kept (ho5 _ (fun h => (by have h : _ = _ := h; omega)))
    have hno := hno.kept (ho5 _ (fun h => (by have h : _ = _ := h; omega)))
    have htr := htr.kept (ho5 _ (fun h => (by have h : _ = _ := h; omega)))
    have hdi := hdi.kept (ho5 _ (fun h => (by have h : _ = _ := h; omega)))
    have hke := hke.kept (ho5 _ (fun h => (by have h : _ = _ := h; omega)))
    have hik := hik.kept (ho5 _ (fun h => (by have h : _ = _ := h; omega)))
    have hap := hap.kept (ho5 _ (fun h => (by have h : _ = _ := h; omega)))
    have hm := h5
    refine r_ifP_eq (tgt := 26) C (by decide) dX4_load_21 (fun c6 => ?_) (fun c6 => ?_)
    · refine r_aload_n C rfl (lv_at hl 0 rfl) dX4_load_26 ?_
      refine r_get C (ci := 4) (v := .ref (mb + 3)) rfl uin4 hm.o 4 (by decide) q_789 rfl rfl dX4_load_27 ?_
      refine r_iconst C dX4_load_30 ?_
      refine r_aload_n C rfl (lv_at hl 0 rfl) dX4_load_31 ?_
      refine r_get C (ci := 4) (v := .ref (mb + 2)) rfl uin4 hm.o 3 (by decide) q_788 rfl rfl dX4_load_32 ?_
      refine r_iconst C dX4_load_35 ?_
      refine r_sHn (rest := []) C (k_X4_copyState l g (mb + 3) 262 (txF TX n) (mb + 2) 262 F 0 0 0 0 (by omega) (by omega) (by omega) (by omega) (by omega)) s_RX4_166 ⟨htr, hno⟩ hF (fun q h => (is_mdp (by have h : q = _ := h; omega))) hl.1 rfl ⟨by decide, by decide⟩ rfl (Nat.le_of_ble_eq_true rfl) ⟨Nat.le_refl 0, Nat.le_refl 0⟩ dX4_load_36 (fun H7 locs7 h7 ho7 hz7 hF => ?_)
      have hm := hm.kept (ho7 _ (fun h => (by have h : _ = _ := h; omega)))
      have htx := htx.kept (ho7 _ (fun h => (by have h : _ = _ := h; omega)))
      have hdi := hdi.kept (ho7 _ (fun h => (by have h : _ = _ := h; omega)))
      have hke := hke.kept (ho7 _ (fun h => (by have h : _ = _ := h; omega)))
      have hik := hik.kept (ho7 _ (fun h => (by have h : _ = _ := h; omega)))
      have hap := hap.kept (ho7 _ (fun h => (by have h : _ = _ := h; omega)))
      obtain ⟨htr, hno⟩ := h7
      have hno : aAt g (mb + 2) 262 (txF TX n) H7 := hno.cg (fun k hk => (by rw [cpy_all _ _ hk, Nat.zero_add]))
      refine r_aload_n C rfl (lv_at hl 0 rfl) dX4_load_39 ?_
      refine r_iconst C dX4_load_40 ?_
      refine r_put C (ci := 4) rfl uin4 tyX4_ok nmX4 hm.o hF (is_mdp (by omega)) 6 (by decide) q_791 rfl rfl rfl rfl (by show 6 < 13; decide) dX4_load_41 (fun H8 locs8 h8 ho8 hz8 hF => ?_)
      have htx := htx.kept (ho8 _ (by omega))
      have hno := hno.kept (ho8 _ (by omega))
      have htr := htr.kept (ho8 _ (by omega))
      have hdi := hdi.kept (ho8 _ (by omega))
      have hke := hke.kept (ho8 _ (by omega))
      have hik := hik.kept (ho8 _ (by omega))
      have hap := hap.kept (ho8 _ (by omega))
      have hm : mdAt g mb (up (up M 0 0) 2 0) H8 := hm.put2 h8 ho8
      refine r_aload_n C rfl (lv_at hl 0 rfl) dX4_load_44 ?_
      refine r_get C (ci := 4) (v := .ref (mb + 6)) rfl uin4 hm.o 8 (by decide) q_793 rfl rfl dX4_load_45 ?_
      refine r_iconst C dX4_load_48 ?_
      refine r_iconst C dX4_load_49 ?_
      refine r_zast C hik hF (is_mdp (by omega)) 0 rfl (by omega) (by omega) rfl dX4_load_50 (fun H9 locs9 h9 ho9 hz9 hF => ?_)
      have hm := hm.kept (ho9 _ (by omega))
      have htx := htx.kept (ho9 _ (by omega))
      have hno := hno.kept (ho9 _ (by omega))
      have htr := htr.kept (ho9 _ (by omega))
      have hdi := hdi.kept (ho9 _ (by omega))
      have hke := hke.kept (ho9 _ (by omega))
      have hap := hap.kept (ho9 _ (by omega))
      have hik := h9
      refine r_aload_n C rfl (lv_at hl 0 rfl) dX4_load_51 ?_
      refine r_get C (ci := 4) (v := .ref (mb + 6)) rfl uin4 hm.o 8 (by decide) q_793 rfl rfl dX4_load_52 ?_
      refine r_iconst C dX4_load_55 ?_
      refine r_iconst C dX4_load_56 ?_
      refine r_zast C hik hF (is_mdp (by omega)) 1 rfl (by omega) (by omega) rfl dX4_load_57 (fun H10 locs10 h10 ho10 hz10 hF => ?_)
      have hm := hm.kept (ho10 _ (by omega))
      have htx := htx.kept (ho10 _ (by omega))
      have hno := hno.kept (ho10 _ (by omega))
      have htr := htr.kept (ho10 _ (by omega))
      have hdi := hdi.kept (ho10 _ (by omega))
      have hke := hke.kept (ho10 _ (by omega))
      have hap := hap.kept (ho10 _ (by omega))
      have hik := h10
      refine r_aload_n C rfl (lv_at hl 0 rfl) dX4_load_58 ?_
      refine r_get C (ci := 4) (v := .int (iI ((up (up M 0 0) 2 0) 5))) rfl uin4 hm.o 11 (by decide) q_796 rfl rfl dX4_load_59 ?_
      have er11 : (up (up M 0 0) 2 0) 5 = M 5 := (by rw [up_n _ _ (by omega), up_n _ _ (by omega)])
      rw [er11]
      have hK : (Kd (txE TX n = -1)) = 0 := (by unfold Kd; split <;> omega)
      have hK0 : (Kd (txE TX n = -1)) = 0 := (by omega)
      exact r_iretH C rfl rfl (congrArg iI (by rw [if_pos hK0] <;> (omega))) hF (by exact ⟨fun _ => ⟨up (up M 0 0) 2 0, txF TX n, AP, (by repeat first | exact hMb | exact rg_up hMb (by decide) | refine rg_up ?_ (by omega) | refine rg_setL ?_ (by omega)), (by rw [up_n _ _ (by omega), up_s] <;> omega), (by rw [up_n _ _ (by omega), up_n _ _ (by omega)] <;> omega), (by rw [up_s] <;> omega), hm, htx, hno, htr, hdi, hke, hik, hap⟩, fun h => absurd hK0 h⟩) dX4_load_62
    · exact absurd c6 (by decide)

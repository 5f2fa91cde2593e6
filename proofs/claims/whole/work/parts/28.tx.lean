set_option maxHeartbeats 4000000 in
theorem k_X4_figures (l : Launch) (g : Gt) (mb : Nat) (M : Nat → Int) (hMb : ∀ k, Rg (M k)) (TX : Nat → Int) (hTX : ∀ k : Nat, k < 120 → 0 ≤ TX k ∧ TX k ≤ 255) (p n : Nat) (h4 : M 4 = (p : Int)) (h1 : M 1 = (n : Int)) (hpn : p ≤ n) (hn : n ≤ 120) (b d lo hi : Int) (hb : -1 ≤ b ∧ b ≤ 99) (hd : d = 1 ∨ d = 2) (hlo : 0 ≤ lo ∧ lo ≤ 1) (hhi : 0 ≤ hi ∧ hi ≤ 60) (X : Int) (P : Nat) (hX : fgV TX n b d lo hi p = X) (hP2 : fgP TX n b d lo hi p = P) : CH l yX4_figures cX4_figures 9 (some .int) 1 25 g [.ref mb, .int (iI b), .int (iI d), .int (iI lo), .int (iI hi)] (fun H => mdAt g mb M H ∧ aAt g (mb + 1) 120 TX H) (some (.int (iI X))) (fun q => q = mb) (fun H => mdAt g mb (up M 4 ((P : Nat) : Int)) H ∧ aAt g (mb + 1) 120 TX H) := by
  refine ch_of "LentRoomModel" (by decide) rfl (Nat.le_of_ble_eq_true rfl) ?_
  intro zp ze zs zm za zb zt zc ls C hP hF hl
  obtain ⟨hm, htx⟩ := hP
  have hl : lv_has ls 9 [(0, .ref mb), (1, .int (iI b)), (2, .int (iI d)), (3, .int (iI lo)), (4, .int (iI hi))] := hl
  refine r_iconst C dX4_figures_0 ?_
  refine r_istore (lv' := [(5, .int (iI 0)), (0, .ref mb), (1, .int (iI b)), (2, .int (iI d)), (3, .int (iI lo)), (4, .int (iI hi))]) C hl (by decide) rfl dX4_figures_1 (fun ls hl => ?_)
  refine r_iload_n C rfl (lv_at hl 3 rfl) dX4_figures_3 ?_
  refine r_iconst C dX4_figures_4 ?_
  refine r_icmp_ne (tgt := 13) C (by decide) (by omega) (by decide) dX4_figures_5 (fun c1 => ?_) (fun c1 => ?_)
  · refine r_iconst C dX4_figures_13 ?_
    refine r_istore (lv' := [(6, .int (iI 1)), (5, .int (iI 0)), (0, .ref mb), (1, .int (iI b)), (2, .int (iI d)), (3, .int (iI lo)), (4, .int (iI hi))]) C hl (by decide) rfl dX4_figures_14 (fun ls hl => ?_)
    refine r_iload C (lv_at hl 0 rfl) dX4_figures_16 ?_
    refine r_if_le (tgt := 122) C (by decide) (by decide) dX4_figures_18 (fun c2 => ?_) (fun c2 => ?_)
    · exact absurd c2 (by decide)
    · refine r_iload_n C rfl (lv_at hl 3 rfl) dX4_figures_21 ?_
      refine r_iconst C dX4_figures_22 ?_
      refine r_icmp_eq (tgt := 122) C (by decide) (by omega) (by decide) dX4_figures_23 (fun c3 => ?_) (fun c3 => ?_)
      · refine r_iload_n C rfl (lv_at hl 3 rfl) dX4_figures_122 ?_
        refine r_iconst C dX4_figures_123 ?_
        refine r_icmp_ne (tgt := 131) C (by decide) (by omega) (by decide) dX4_figures_124 (fun c4 => ?_) (fun c4 => ?_)
        · refine r_iload C (lv_at hl 1 rfl) dX4_figures_131 ?_
          have eP : (P : Int) = M 4 := (by rw [← hP2]; unfold fgP fok; (repeat' split) <;> omega)
          exact r_iretH C rfl rfl (congrArg iI (by rw [← hX]; unfold fgV fok; (repeat' split) <;> omega)) hF (by rw [eP, up_id rfl]; exact ⟨hm, htx⟩) dX4_figures_133
        · refine r_iconst C dX4_figures_127 ?_
          refine r_goto (tgt := 133) C (by decide) dX4_figures_128 ?_
          have eP : (P : Int) = M 4 := (by rw [← hP2]; unfold fgP fok; (repeat' split) <;> omega)
          exact r_iretH C rfl rfl (congrArg iI (by rw [← hX]; unfold fgV fok; (repeat' split) <;> omega)) hF (by rw [eP, up_id rfl]; exact ⟨hm, htx⟩) dX4_figures_133
      · refine r_aload_n C rfl (lv_at hl 2 rfl) dX4_figures_26 ?_
        refine r_get C (ci := 4) (v := .int (iI (M 4))) rfl uin4 hm.o 10 (by decide) q_795 rfl rfl dX4_figures_27 ?_
        have b5 := hMb 4
        refine r_aload_n C rfl (lv_at hl 2 rfl) dX4_figures_30 ?_
        refine r_get C (ci := 4) (v := .int (iI (M 1))) rfl uin4 hm.o 2 (by decide) q_787 rfl rfl dX4_figures_31 ?_
        have b6 := hMb 1
        refine r_icmp_ge (tgt := 52) C (by decide) (by omega) (by omega) dX4_figures_34 (fun c7 => ?_) (fun c7 => ?_)
        · refine r_iconst C dX4_figures_52 ?_
          have ht0 : tdg TX n p = (-1) := if_neg (by omega)
          refine r_istore (lv' := [(7, .int (iI (-1))), (6, .int (iI 1)), (5, .int (iI 0)), (0, .ref mb), (1, .int (iI b)), (2, .int (iI d)), (3, .int (iI lo)), (4, .int (iI hi))]) C hl (by decide) rfl dX4_figures_53 (fun ls hl => ?_)
          refine r_iload C (lv_at hl 2 rfl) dX4_figures_55 ?_
          refine r_iload C (lv_at hl 0 rfl) dX4_figures_57 ?_
          refine r_iload C (lv_at hl 1 rfl) dX4_figures_59 ?_
          refine r_imul C dX4_figures_61 ?_
          refine r_iadd C dX4_figures_62 ?_
          refine r_istore (lv' := [(8, .int (iI (0 + ((-1) * 1)))), (7, .int (iI (-1))), (6, .int (iI 1)), (5, .int (iI 0)), (0, .ref mb), (1, .int (iI b)), (2, .int (iI d)), (3, .int (iI lo)), (4, .int (iI hi))]) C hl (by decide) rfl dX4_figures_63 (fun ls hl => ?_)
          refine r_iload C (lv_at hl 1 rfl) dX4_figures_65 ?_
          refine r_i2l C (by decide) dX4_figures_67 ?_
          refine r_lconst C 0 rfl dX4_figures_68 ?_
          refine r_ldc2 C (v := iL 9) q_861 dX4_figures_69 ?_
          refine r_sPi (rest := []) C (k_X4_in l g (-1) 0 9 (by omega) (by omega) (by omega)) s_RX4_39 trivial hl.1 rfl ⟨by decide, by decide⟩ rfl (Nat.le_of_ble_eq_true rfl) ⟨Nat.le_refl 0, Nat.le_refl 0⟩ dX4_figures_72 ?_
          refine r_ifP_eq (tgt := 96) C (by decide) dX4_figures_75 (fun c8 => ?_) (fun c8 => ?_)
          · refine r_iconst C dX4_figures_96 ?_
            have eP : (P : Int) = M 4 := (by rw [← hP2]; unfold fgP fok; (repeat' split) <;> omega)
            exact r_iretH C rfl rfl (congrArg iI (by rw [← hX]; unfold fgV fok; (repeat' split) <;> omega)) hF (by rw [eP, up_id rfl]; exact ⟨hm, htx⟩) dX4_figures_97
          · refine r_iload C (lv_at hl 0 rfl) dX4_figures_78 ?_
            refine r_iload C (lv_at hl 8 rfl) dX4_figures_80 ?_
            refine r_icmp_gt (tgt := 96) C (by decide) (by omega) (by omega) dX4_figures_82 (fun c9 => ?_) (fun c9 => ?_)
            · refine r_iconst C dX4_figures_96 ?_
              have eP : (P : Int) = M 4 := (by rw [← hP2]; unfold fgP fok; (repeat' split) <;> omega)
              exact r_iretH C rfl rfl (congrArg iI (by rw [← hX]; unfold fgV fok; (repeat' split) <;> omega)) hF (by rw [eP, up_id rfl]; exact ⟨hm, htx⟩) dX4_figures_97
            · refine r_iload C (lv_at hl 0 rfl) dX4_figures_85 ?_
              refine r_iload C (lv_at hl 2 rfl) dX4_figures_87 ?_
              refine r_iadd C dX4_figures_89 ?_
              refine r_iconst C dX4_figures_90 ?_
              refine r_isub C dX4_figures_91 ?_
              refine r_iload_n C rfl (lv_at hl 7 rfl) dX4_figures_92 ?_
              refine r_icmp_ge (tgt := 98) C (by decide) (by omega) (by omega) dX4_figures_93 (fun c10 => ?_) (fun c10 => ?_)
              · refine r_iload C (lv_at hl 0 rfl) dX4_figures_98 ?_
                refine r_istore (lv' := [(5, .int (iI (0 + ((-1) * 1)))), (8, .int (iI (0 + ((-1) * 1)))), (7, .int (iI (-1))), (6, .int (iI 1)), (0, .ref mb), (1, .int (iI b)), (2, .int (iI d)), (3, .int (iI lo)), (4, .int (iI hi))]) C hl (by decide) rfl dX4_figures_100 (fun ls hl => ?_)
                refine r_aload_n C rfl (lv_at hl 4 rfl) dX4_figures_102 ?_
                refine r_dup C rfl dX4_figures_103 ?_
                refine r_get C (ci := 4) (v := .int (iI (M 4))) rfl uin4 hm.o 10 (by decide) q_795 rfl rfl dX4_figures_104 ?_
                have b11 := hMb 4
                refine r_iconst C dX4_figures_107 ?_
                refine r_iadd C dX4_figures_108 ?_
                refine r_put C (ci := 4) rfl uin4 tyX4_ok nmX4 hm.o hF rfl 10 (by decide) q_795 rfl rfl rfl rfl (by show 10 < 13; decide) dX4_figures_109 (fun H12 locs12 h12 ho12 hz12 hF => ?_)
                have htx := htx.kept (ho12 _ (by omega))
                have hm : mdAt g mb (up M 4 ((M 4) + 1)) H12 := hm.put4 h12 ho12
                refine r_iload C (lv_at hl 3 rfl) dX4_figures_112 ?_
                refine r_bipush C (by decide) dX4_figures_114 ?_
                refine r_idiv C (by omega) (by omega) dX4_figures_116 ?_
                rw [show (1 : Int) / 10 = 0 from rfl]
                refine r_istore (lv' := [(6, .int (iI 0)), (5, .int (iI (0 + ((-1) * 1)))), (8, .int (iI (0 + ((-1) * 1)))), (7, .int (iI (-1))), (0, .ref mb), (1, .int (iI b)), (2, .int (iI d)), (3, .int (iI lo)), (4, .int (iI hi))]) C hl (by decide) rfl dX4_figures_117 (fun ls hl => ?_)
                refine r_goto (tgt := 16) C (by decide) dX4_figures_119 ?_
                refine r_iload C (lv_at hl 0 rfl) dX4_figures_16 ?_
                refine r_if_le (tgt := 122) C (by decide) (by decide) dX4_figures_18 (fun c13 => ?_) (fun c13 => ?_)
                · refine r_iload_n C rfl (lv_at hl 5 rfl) dX4_figures_122 ?_
                  refine r_iconst C dX4_figures_123 ?_
                  refine r_icmp_ne (tgt := 131) C (by decide) (by omega) (by decide) dX4_figures_124 (fun c14 => ?_) (fun c14 => ?_)
                  · refine r_iload C (lv_at hl 1 rfl) dX4_figures_131 ?_
                    have eP : (P : Int) = (M 4) + 1 := (by rw [← hP2]; unfold fgP fok; (repeat' split) <;> omega)
                    exact r_iretH C rfl rfl (congrArg iI (by rw [← hX]; unfold fgV fok; (repeat' split) <;> omega)) hF (by rw [eP]; exact ⟨hm, htx⟩) dX4_figures_133
                  · refine r_iconst C dX4_figures_127 ?_
                    refine r_goto (tgt := 133) C (by decide) dX4_figures_128 ?_
                    have eP : (P : Int) = (M 4) + 1 := (by rw [← hP2]; unfold fgP fok; (repeat' split) <;> omega)
                    exact r_iretH C rfl rfl (congrArg iI (by rw [← hX]; unfold fgV fok; (repeat' split) <;> omega)) hF (by rw [eP]; exact ⟨hm, htx⟩) dX4_figures_133
                · exact absurd c13 (by decide)
              · refine r_iconst C dX4_figures_96 ?_
                have eP : (P : Int) = M 4 := (by rw [← hP2]; unfold fgP fok; (repeat' split) <;> omega)
                exact r_iretH C rfl rfl (congrArg iI (by rw [← hX]; unfold fgV fok; (repeat' split) <;> omega)) hF (by rw [eP, up_id rfl]; exact ⟨hm, htx⟩) dX4_figures_97
        · refine r_aload_n C rfl (lv_at hl 2 rfl) dX4_figures_37 ?_
          refine r_get C (ci := 4) (v := .ref (mb + 1)) rfl uin4 hm.o 1 (by decide) q_786 rfl rfl dX4_figures_38 ?_
          refine r_aload_n C rfl (lv_at hl 2 rfl) dX4_figures_41 ?_
          refine r_get C (ci := 4) (v := .int (iI (M 4))) rfl uin4 hm.o 10 (by decide) q_795 rfl rfl dX4_figures_42 ?_
          have b15 := hMb 4
          refine r_iald (v := TX p) C htx p (by omega) (by omega) (by omega) rfl dX4_figures_45 ?_
          have b16 := hTX p (by omega)
          refine r_bipush C (by decide) dX4_figures_46 ?_
          refine r_isub C dX4_figures_48 ?_
          refine r_goto (tgt := 53) C (by decide) dX4_figures_49 ?_
          have ht0 : tdg TX n p = (TX p) - 48 := if_pos (by omega)
          refine r_istore (lv' := [(7, .int (iI ((TX p) - 48))), (6, .int (iI 1)), (5, .int (iI 0)), (0, .ref mb), (1, .int (iI b)), (2, .int (iI d)), (3, .int (iI lo)), (4, .int (iI hi))]) C hl (by decide) rfl dX4_figures_53 (fun ls hl => ?_)
          refine r_iload C (lv_at hl 2 rfl) dX4_figures_55 ?_
          refine r_iload C (lv_at hl 0 rfl) dX4_figures_57 ?_
          refine r_iload C (lv_at hl 1 rfl) dX4_figures_59 ?_
          refine r_imul C dX4_figures_61 ?_
          refine r_iadd C dX4_figures_62 ?_
          refine r_istore (lv' := [(8, .int (iI (0 + (((TX p) - 48) * 1)))), (7, .int (iI ((TX p) - 48))), (6, .int (iI 1)), (5, .int (iI 0)), (0, .ref mb), (1, .int (iI b)), (2, .int (iI d)), (3, .int (iI lo)), (4, .int (iI hi))]) C hl (by decide) rfl dX4_figures_63 (fun ls hl => ?_)
          refine r_iload C (lv_at hl 1 rfl) dX4_figures_65 ?_
          refine r_i2l C (by omega) dX4_figures_67 ?_
          refine r_lconst C 0 rfl dX4_figures_68 ?_
          refine r_ldc2 C (v := iL 9) q_861 dX4_figures_69 ?_
          refine r_sPi (rest := []) C (k_X4_in l g ((TX p) - 48) 0 9 (by omega) (by omega) (by omega)) s_RX4_39 trivial hl.1 rfl ⟨by decide, by decide⟩ rfl (Nat.le_of_ble_eq_true rfl) ⟨Nat.le_refl 0, Nat.le_refl 0⟩ dX4_figures_72 ?_
          refine r_ifP_eq (tgt := 96) C (by decide) dX4_figures_75 (fun c17 => ?_) (fun c17 => ?_)
          · refine r_iconst C dX4_figures_96 ?_
            have eP : (P : Int) = M 4 := (by rw [← hP2]; unfold fgP fok; (repeat' split) <;> omega)
            exact r_iretH C rfl rfl (congrArg iI (by rw [← hX]; unfold fgV fok; (repeat' split) <;> omega)) hF (by rw [eP, up_id rfl]; exact ⟨hm, htx⟩) dX4_figures_97
          · refine r_iload C (lv_at hl 0 rfl) dX4_figures_78 ?_
            refine r_iload C (lv_at hl 8 rfl) dX4_figures_80 ?_
            refine r_icmp_gt (tgt := 96) C (by decide) (by omega) (by omega) dX4_figures_82 (fun c18 => ?_) (fun c18 => ?_)
            · refine r_iconst C dX4_figures_96 ?_
              have eP : (P : Int) = M 4 := (by rw [← hP2]; unfold fgP fok; (repeat' split) <;> omega)
              exact r_iretH C rfl rfl (congrArg iI (by rw [← hX]; unfold fgV fok; (repeat' split) <;> omega)) hF (by rw [eP, up_id rfl]; exact ⟨hm, htx⟩) dX4_figures_97
            · refine r_iload C (lv_at hl 0 rfl) dX4_figures_85 ?_
              refine r_iload C (lv_at hl 2 rfl) dX4_figures_87 ?_
              refine r_iadd C dX4_figures_89 ?_
              refine r_iconst C dX4_figures_90 ?_
              refine r_isub C dX4_figures_91 ?_
              refine r_iload_n C rfl (lv_at hl 7 rfl) dX4_figures_92 ?_
              refine r_icmp_ge (tgt := 98) C (by decide) (by omega) (by omega) dX4_figures_93 (fun c19 => ?_) (fun c19 => ?_)
              · refine r_iload C (lv_at hl 0 rfl) dX4_figures_98 ?_
                refine r_istore (lv' := [(5, .int (iI (0 + (((TX p) - 48) * 1)))), (8, .int (iI (0 + (((TX p) - 48) * 1)))), (7, .int (iI ((TX p) - 48))), (6, .int (iI 1)), (0, .ref mb), (1, .int (iI b)), (2, .int (iI d)), (3, .int (iI lo)), (4, .int (iI hi))]) C hl (by decide) rfl dX4_figures_100 (fun ls hl => ?_)
                refine r_aload_n C rfl (lv_at hl 4 rfl) dX4_figures_102 ?_
                refine r_dup C rfl dX4_figures_103 ?_
                refine r_get C (ci := 4) (v := .int (iI (M 4))) rfl uin4 hm.o 10 (by decide) q_795 rfl rfl dX4_figures_104 ?_
                have b20 := hMb 4
                refine r_iconst C dX4_figures_107 ?_
                refine r_iadd C dX4_figures_108 ?_
                refine r_put C (ci := 4) rfl uin4 tyX4_ok nmX4 hm.o hF rfl 10 (by decide) q_795 rfl rfl rfl rfl (by show 10 < 13; decide) dX4_figures_109 (fun H21 locs21 h21 ho21 hz21 hF => ?_)
                have htx := htx.kept (ho21 _ (by omega))
                have hm : mdAt g mb (up M 4 ((M 4) + 1)) H21 := hm.put4 h21 ho21
                refine r_iload C (lv_at hl 3 rfl) dX4_figures_112 ?_
                refine r_bipush C (by decide) dX4_figures_114 ?_
                refine r_idiv C (by omega) (by omega) dX4_figures_116 ?_
                rw [show (1 : Int) / 10 = 0 from rfl]
                refine r_istore (lv' := [(6, .int (iI 0)), (5, .int (iI (0 + (((TX p) - 48) * 1)))), (8, .int (iI (0 + (((TX p) - 48) * 1)))), (7, .int (iI ((TX p) - 48))), (0, .ref mb), (1, .int (iI b)), (2, .int (iI d)), (3, .int (iI lo)), (4, .int (iI hi))]) C hl (by decide) rfl dX4_figures_117 (fun ls hl => ?_)
                refine r_goto (tgt := 16) C (by decide) dX4_figures_119 ?_
                refine r_iload C (lv_at hl 0 rfl) dX4_figures_16 ?_
                refine r_if_le (tgt := 122) C (by decide) (by decide) dX4_figures_18 (fun c22 => ?_) (fun c22 => ?_)
                · refine r_iload_n C rfl (lv_at hl 5 rfl) dX4_figures_122 ?_
                  refine r_iconst C dX4_figures_123 ?_
                  refine r_icmp_ne (tgt := 131) C (by decide) (by omega) (by decide) dX4_figures_124 (fun c23 => ?_) (fun c23 => ?_)
                  · refine r_iload C (lv_at hl 1 rfl) dX4_figures_131 ?_
                    have eP : (P : Int) = (M 4) + 1 := (by rw [← hP2]; unfold fgP fok; (repeat' split) <;> omega)
                    exact r_iretH C rfl rfl (congrArg iI (by rw [← hX]; unfold fgV fok; (repeat' split) <;> omega)) hF (by rw [eP]; exact ⟨hm, htx⟩) dX4_figures_133
                  · refine r_iconst C dX4_figures_127 ?_
                    refine r_goto (tgt := 133) C (by decide) dX4_figures_128 ?_
                    have eP : (P : Int) = (M 4) + 1 := (by rw [← hP2]; unfold fgP fok; (repeat' split) <;> omega)
                    exact r_iretH C rfl rfl (congrArg iI (by rw [← hX]; unfold fgV fok; (repeat' split) <;> omega)) hF (by rw [eP]; exact ⟨hm, htx⟩) dX4_figures_133
                · exact absurd c22 (by decide)
              · refine r_iconst C dX4_figures_96 ?_
                have eP : (P : Int) = M 4 := (by rw [← hP2]; unfold fgP fok; (repeat' split) <;> omega)
                exact r_iretH C rfl rfl (congrArg iI (by rw [← hX]; unfold fgV fok; (repeat' split) <;> omega)) hF (by rw [eP, up_id rfl]; exact ⟨hm, htx⟩) dX4_figures_97
  · refine r_bipush C (by decide) dX4_figures_8 ?_
    refine r_goto (tgt := 14) C (by decide) dX4_figures_10 ?_
    refine r_istore (lv' := [(6, .int (iI 10)), (5, .int (iI 0)), (0, .ref mb), (1, .int (iI b)), (2, .int (iI d)), (3, .int (iI lo)), (4, .int (iI hi))]) C hl (by decide) rfl dX4_figures_14 (fun ls hl => ?_)
    refine r_iload C (lv_at hl 0 rfl) dX4_figures_16 ?_
    refine r_if_le (tgt := 122) C (by decide) (by decide) dX4_figures_18 (fun c24 => ?_) (fun c24 => ?_)
    · exact absurd c24 (by decide)
    · refine r_iload_n C rfl (lv_at hl 3 rfl) dX4_figures_21 ?_
      refine r_iconst C dX4_figures_22 ?_
      refine r_icmp_eq (tgt := 122) C (by decide) (by omega) (by decide) dX4_figures_23 (fun c25 => ?_) (fun c25 => ?_)
      · refine r_iload_n C rfl (lv_at hl 3 rfl) dX4_figures_122 ?_
        refine r_iconst C dX4_figures_123 ?_
        refine r_icmp_ne (tgt := 131) C (by decide) (by omega) (by decide) dX4_figures_124 (fun c26 => ?_) (fun c26 => ?_)
        · refine r_iload C (lv_at hl 1 rfl) dX4_figures_131 ?_
          have eP : (P : Int) = M 4 := (by rw [← hP2]; unfold fgP fok; (repeat' split) <;> omega)
          exact r_iretH C rfl rfl (congrArg iI (by rw [← hX]; unfold fgV fok; (repeat' split) <;> omega)) hF (by rw [eP, up_id rfl]; exact ⟨hm, htx⟩) dX4_figures_133
        · refine r_iconst C dX4_figures_127 ?_
          refine r_goto (tgt := 133) C (by decide) dX4_figures_128 ?_
          have eP : (P : Int) = M 4 := (by rw [← hP2]; unfold fgP fok; (repeat' split) <;> omega)
          exact r_iretH C rfl rfl (congrArg iI (by rw [← hX]; unfold fgV fok; (repeat' split) <;> omega)) hF (by rw [eP, up_id rfl]; exact ⟨hm, htx⟩) dX4_figures_133
      · refine r_aload_n C rfl (lv_at hl 2 rfl) dX4_figures_26 ?_
        refine r_get C (ci := 4) (v := .int (iI (M 4))) rfl uin4 hm.o 10 (by decide) q_795 rfl rfl dX4_figures_27 ?_
        have b27 := hMb 4
        refine r_aload_n C rfl (lv_at hl 2 rfl) dX4_figures_30 ?_
        refine r_get C (ci := 4) (v := .int (iI (M 1))) rfl uin4 hm.o 2 (by decide) q_787 rfl rfl dX4_figures_31 ?_
        have b28 := hMb 1
        refine r_icmp_ge (tgt := 52) C (by decide) (by omega) (by omega) dX4_figures_34 (fun c29 => ?_) (fun c29 => ?_)
        · refine r_iconst C dX4_figures_52 ?_
          have ht0 : tdg TX n p = (-1) := if_neg (by omega)
          refine r_istore (lv' := [(7, .int (iI (-1))), (6, .int (iI 10)), (5, .int (iI 0)), (0, .ref mb), (1, .int (iI b)), (2, .int (iI d)), (3, .int (iI lo)), (4, .int (iI hi))]) C hl (by decide) rfl dX4_figures_53 (fun ls hl => ?_)
          refine r_iload C (lv_at hl 2 rfl) dX4_figures_55 ?_
          refine r_iload C (lv_at hl 0 rfl) dX4_figures_57 ?_
          refine r_iload C (lv_at hl 1 rfl) dX4_figures_59 ?_
          refine r_imul C dX4_figures_61 ?_
          refine r_iadd C dX4_figures_62 ?_
          refine r_istore (lv' := [(8, .int (iI (0 + ((-1) * 10)))), (7, .int (iI (-1))), (6, .int (iI 10)), (5, .int (iI 0)), (0, .ref mb), (1, .int (iI b)), (2, .int (iI d)), (3, .int (iI lo)), (4, .int (iI hi))]) C hl (by decide) rfl dX4_figures_63 (fun ls hl => ?_)
          refine r_iload C (lv_at hl 1 rfl) dX4_figures_65 ?_
          refine r_i2l C (by decide) dX4_figures_67 ?_
          refine r_lconst C 0 rfl dX4_figures_68 ?_
          refine r_ldc2 C (v := iL 9) q_861 dX4_figures_69 ?_
          refine r_sPi (rest := []) C (k_X4_in l g (-1) 0 9 (by omega) (by omega) (by omega)) s_RX4_39 trivial hl.1 rfl ⟨by decide, by decide⟩ rfl (Nat.le_of_ble_eq_true rfl) ⟨Nat.le_refl 0, Nat.le_refl 0⟩ dX4_figures_72 ?_
          refine r_ifP_eq (tgt := 96) C (by decide) dX4_figures_75 (fun c30 => ?_) (fun c30 => ?_)
          · refine r_iconst C dX4_figures_96 ?_
            have eP : (P : Int) = M 4 := (by rw [← hP2]; unfold fgP fok; (repeat' split) <;> omega)
            exact r_iretH C rfl rfl (congrArg iI (by rw [← hX]; unfold fgV fok; (repeat' split) <;> omega)) hF (by rw [eP, up_id rfl]; exact ⟨hm, htx⟩) dX4_figures_97
          · refine r_iload C (lv_at hl 0 rfl) dX4_figures_78 ?_
            refine r_iload C (lv_at hl 8 rfl) dX4_figures_80 ?_
            refine r_icmp_gt (tgt := 96) C (by decide) (by omega) (by omega) dX4_figures_82 (fun c31 => ?_) (fun c31 => ?_)
            · refine r_iconst C dX4_figures_96 ?_
              have eP : (P : Int) = M 4 := (by rw [← hP2]; unfold fgP fok; (repeat' split) <;> omega)
              exact r_iretH C rfl rfl (congrArg iI (by rw [← hX]; unfold fgV fok; (repeat' split) <;> omega)) hF (by rw [eP, up_id rfl]; exact ⟨hm, htx⟩) dX4_figures_97
            · refine r_iload C (lv_at hl 0 rfl) dX4_figures_85 ?_
              refine r_iload C (lv_at hl 2 rfl) dX4_figures_87 ?_
              refine r_iadd C dX4_figures_89 ?_
              refine r_iconst C dX4_figures_90 ?_
              refine r_isub C dX4_figures_91 ?_
              refine r_iload_n C rfl (lv_at hl 7 rfl) dX4_figures_92 ?_
              refine r_icmp_ge (tgt := 98) C (by decide) (by omega) (by omega) dX4_figures_93 (fun c32 => ?_) (fun c32 => ?_)
              · refine r_iload C (lv_at hl 0 rfl) dX4_figures_98 ?_
                refine r_istore (lv' := [(5, .int (iI (0 + ((-1) * 10)))), (8, .int (iI (0 + ((-1) * 10)))), (7, .int (iI (-1))), (6, .int (iI 10)), (0, .ref mb), (1, .int (iI b)), (2, .int (iI d)), (3, .int (iI lo)), (4, .int (iI hi))]) C hl (by decide) rfl dX4_figures_100 (fun ls hl => ?_)
                refine r_aload_n C rfl (lv_at hl 4 rfl) dX4_figures_102 ?_
                refine r_dup C rfl dX4_figures_103 ?_
                refine r_get C (ci := 4) (v := .int (iI (M 4))) rfl uin4 hm.o 10 (by decide) q_795 rfl rfl dX4_figures_104 ?_
                have b33 := hMb 4
                refine r_iconst C dX4_figures_107 ?_
                refine r_iadd C dX4_figures_108 ?_
                refine r_put C (ci := 4) rfl uin4 tyX4_ok nmX4 hm.o hF rfl 10 (by decide) q_795 rfl rfl rfl rfl (by show 10 < 13; decide) dX4_figures_109 (fun H34 locs34 h34 ho34 hz34 hF => ?_)
                have htx := htx.kept (ho34 _ (by omega))
                have hm : mdAt g mb (up M 4 ((M 4) + 1)) H34 := hm.put4 h34 ho34
                refine r_iload C (lv_at hl 3 rfl) dX4_figures_112 ?_
                refine r_bipush C (by decide) dX4_figures_114 ?_
                refine r_idiv C (by omega) (by omega) dX4_figures_116 ?_
                rw [show (10 : Int) / 10 = 1 from rfl]
                refine r_istore (lv' := [(6, .int (iI 1)), (5, .int (iI (0 + ((-1) * 10)))), (8, .int (iI (0 + ((-1) * 10)))), (7, .int (iI (-1))), (0, .ref mb), (1, .int (iI b)), (2, .int (iI d)), (3, .int (iI lo)), (4, .int (iI hi))]) C hl (by decide) rfl dX4_figures_117 (fun ls hl => ?_)
                refine r_goto (tgt := 16) C (by decide) dX4_figures_119 ?_
                refine r_iload C (lv_at hl 0 rfl) dX4_figures_16 ?_
                refine r_if_le (tgt := 122) C (by decide) (by decide) dX4_figures_18 (fun c35 => ?_) (fun c35 => ?_)
                · exact absurd c35 (by decide)
                · refine r_iload_n C rfl (lv_at hl 5 rfl) dX4_figures_21 ?_
                  refine r_iconst C dX4_figures_22 ?_
                  refine r_icmp_eq (tgt := 122) C (by decide) (by omega) (by decide) dX4_figures_23 (fun c36 => ?_) (fun c36 => ?_)
                  · exact absurd c36 (by omega)
                  · refine r_aload_n C rfl (lv_at hl 4 rfl) dX4_figures_26 ?_
                    refine r_get C (ci := 4) (v := .int (iI ((up M 4 ((M 4) + 1)) 4))) rfl uin4 hm.o 10 (by decide) q_795 rfl rfl dX4_figures_27 ?_
                    have er37 : (up M 4 ((M 4) + 1)) 4 = (M 4) + 1 := (by rw [up_s])
                    rw [er37]
                    have b38 := hMb 4
                    refine r_aload_n C rfl (lv_at hl 4 rfl) dX4_figures_30 ?_
                    refine r_get C (ci := 4) (v := .int (iI ((up M 4 ((M 4) + 1)) 1))) rfl uin4 hm.o 2 (by decide) q_787 rfl rfl dX4_figures_31 ?_
                    have er39 : (up M 4 ((M 4) + 1)) 1 = M 1 := (by rw [up_n _ _ (by omega)])
                    rw [er39]
                    have b40 := hMb 1
                    refine r_icmp_ge (tgt := 52) C (by decide) (by omega) (by omega) dX4_figures_34 (fun c41 => ?_) (fun c41 => ?_)
                    · refine r_iconst C dX4_figures_52 ?_
                      have ht1 : tdg TX n (p + 1) = (-1) := if_neg (by omega)
                      refine r_istore (lv' := [(7, .int (iI (-1))), (6, .int (iI 1)), (5, .int (iI (0 + ((-1) * 10)))), (8, .int (iI (0 + ((-1) * 10)))), (0, .ref mb), (1, .int (iI b)), (2, .int (iI d)), (3, .int (iI lo)), (4, .int (iI hi))]) C hl (by decide) rfl dX4_figures_53 (fun ls hl => ?_)
                      refine r_iload C (lv_at hl 2 rfl) dX4_figures_55 ?_
                      refine r_iload C (lv_at hl 0 rfl) dX4_figures_57 ?_
                      refine r_iload C (lv_at hl 1 rfl) dX4_figures_59 ?_
                      refine r_imul C dX4_figures_61 ?_
                      refine r_iadd C dX4_figures_62 ?_
                      refine r_istore (lv' := [(8, .int (iI ((0 + ((-1) * 10)) + ((-1) * 1)))), (7, .int (iI (-1))), (6, .int (iI 1)), (5, .int (iI (0 + ((-1) * 10)))), (0, .ref mb), (1, .int (iI b)), (2, .int (iI d)), (3, .int (iI lo)), (4, .int (iI hi))]) C hl (by decide) rfl dX4_figures_63 (fun ls hl => ?_)
                      refine r_iload C (lv_at hl 1 rfl) dX4_figures_65 ?_
                      refine r_i2l C (by decide) dX4_figures_67 ?_
                      refine r_lconst C 0 rfl dX4_figures_68 ?_
                      refine r_ldc2 C (v := iL 9) q_861 dX4_figures_69 ?_
                      refine r_sPi (rest := []) C (k_X4_in l g (-1) 0 9 (by omega) (by omega) (by omega)) s_RX4_39 trivial hl.1 rfl ⟨by decide, by decide⟩ rfl (Nat.le_of_ble_eq_true rfl) ⟨Nat.le_refl 0, Nat.le_refl 0⟩ dX4_figures_72 ?_
                      refine r_ifP_eq (tgt := 96) C (by decide) dX4_figures_75 (fun c42 => ?_) (fun c42 => ?_)
                      · refine r_iconst C dX4_figures_96 ?_
                        have eP : (P : Int) = (M 4) + 1 := (by rw [← hP2]; unfold fgP fok; (repeat' split) <;> omega)
                        exact r_iretH C rfl rfl (congrArg iI (by rw [← hX]; unfold fgV fok; (repeat' split) <;> omega)) hF (by rw [eP]; exact ⟨hm, htx⟩) dX4_figures_97
                      · refine r_iload C (lv_at hl 0 rfl) dX4_figures_78 ?_
                        refine r_iload C (lv_at hl 8 rfl) dX4_figures_80 ?_
                        refine r_icmp_gt (tgt := 96) C (by decide) (by omega) (by omega) dX4_figures_82 (fun c43 => ?_) (fun c43 => ?_)
                        · refine r_iconst C dX4_figures_96 ?_
                          have eP : (P : Int) = (M 4) + 1 := (by rw [← hP2]; unfold fgP fok; (repeat' split) <;> omega)
                          exact r_iretH C rfl rfl (congrArg iI (by rw [← hX]; unfold fgV fok; (repeat' split) <;> omega)) hF (by rw [eP]; exact ⟨hm, htx⟩) dX4_figures_97
                        · refine r_iload C (lv_at hl 0 rfl) dX4_figures_85 ?_
                          refine r_iload C (lv_at hl 2 rfl) dX4_figures_87 ?_
                          refine r_iadd C dX4_figures_89 ?_
                          refine r_iconst C dX4_figures_90 ?_
                          refine r_isub C dX4_figures_91 ?_
                          refine r_iload_n C rfl (lv_at hl 7 rfl) dX4_figures_92 ?_
                          refine r_icmp_ge (tgt := 98) C (by decide) (by omega) (by omega) dX4_figures_93 (fun c44 => ?_) (fun c44 => ?_)
                          · refine r_iload C (lv_at hl 0 rfl) dX4_figures_98 ?_
                            refine r_istore (lv' := [(5, .int (iI ((0 + ((-1) * 10)) + ((-1) * 1)))), (8, .int (iI ((0 + ((-1) * 10)) + ((-1) * 1)))), (7, .int (iI (-1))), (6, .int (iI 1)), (0, .ref mb), (1, .int (iI b)), (2, .int (iI d)), (3, .int (iI lo)), (4, .int (iI hi))]) C hl (by decide) rfl dX4_figures_100 (fun ls hl => ?_)
                            refine r_aload_n C rfl (lv_at hl 4 rfl) dX4_figures_102 ?_
                            refine r_dup C rfl dX4_figures_103 ?_
                            refine r_get C (ci := 4) (v := .int (iI ((up M 4 ((M 4) + 1)) 4))) rfl uin4 hm.o 10 (by decide) q_795 rfl rfl dX4_figures_104 ?_
                            have er45 : (up M 4 ((M 4) + 1)) 4 = (M 4) + 1 := (by rw [up_s])
                            rw [er45]
                            have b46 := hMb 4
                            refine r_iconst C dX4_figures_107 ?_
                            refine r_iadd C dX4_figures_108 ?_
                            refine r_put C (ci := 4) rfl uin4 tyX4_ok nmX4 hm.o hF rfl 10 (by decide) q_795 rfl rfl rfl rfl (by show 10 < 13; decide) dX4_figures_109 (fun H47 locs47 h47 ho47 hz47 hF => ?_)
                            have htx := htx.kept (ho47 _ (by omega))
                            have hm : mdAt g mb (up (up M 4 ((M 4) + 1)) 4 (((M 4) + 1) + 1)) H47 := hm.put4 h47 ho47
                            refine r_iload C (lv_at hl 3 rfl) dX4_figures_112 ?_
                            refine r_bipush C (by decide) dX4_figures_114 ?_
                            refine r_idiv C (by omega) (by omega) dX4_figures_116 ?_
                            rw [show (1 : Int) / 10 = 0 from rfl]
                            refine r_istore (lv' := [(6, .int (iI 0)), (5, .int (iI ((0 + ((-1) * 10)) + ((-1) * 1)))), (8, .int (iI ((0 + ((-1) * 10)) + ((-1) * 1)))), (7, .int (iI (-1))), (0, .ref mb), (1, .int (iI b)), (2, .int (iI d)), (3, .int (iI lo)), (4, .int (iI hi))]) C hl (by decide) rfl dX4_figures_117 (fun ls hl => ?_)
                            refine r_goto (tgt := 16) C (by decide) dX4_figures_119 ?_
                            refine r_iload C (lv_at hl 0 rfl) dX4_figures_16 ?_
                            refine r_if_le (tgt := 122) C (by decide) (by decide) dX4_figures_18 (fun c48 => ?_) (fun c48 => ?_)
                            · refine r_iload_n C rfl (lv_at hl 5 rfl) dX4_figures_122 ?_
                              refine r_iconst C dX4_figures_123 ?_
                              refine r_icmp_ne (tgt := 131) C (by decide) (by omega) (by decide) dX4_figures_124 (fun c49 => ?_) (fun c49 => ?_)
                              · refine r_iload C (lv_at hl 1 rfl) dX4_figures_131 ?_
                                have eP : (P : Int) = ((M 4) + 1) + 1 := (by rw [← hP2]; unfold fgP fok; (repeat' split) <;> omega)
                                exact r_iretH C rfl rfl (congrArg iI (by rw [← hX]; unfold fgV fok; (repeat' split) <;> omega)) hF (by rw [eP]; rw [up_up] at hm; exact ⟨hm, htx⟩) dX4_figures_133
                              · refine r_iconst C dX4_figures_127 ?_
                                refine r_goto (tgt := 133) C (by decide) dX4_figures_128 ?_
                                have eP : (P : Int) = ((M 4) + 1) + 1 := (by rw [← hP2]; unfold fgP fok; (repeat' split) <;> omega)
                                exact r_iretH C rfl rfl (congrArg iI (by rw [← hX]; unfold fgV fok; (repeat' split) <;> omega)) hF (by rw [eP]; rw [up_up] at hm; exact ⟨hm, htx⟩) dX4_figures_133
                            · exact absurd c48 (by decide)
                          · refine r_iconst C dX4_figures_96 ?_
                            have eP : (P : Int) = (M 4) + 1 := (by rw [← hP2]; unfold fgP fok; (repeat' split) <;> omega)
                            exact r_iretH C rfl rfl (congrArg iI (by rw [← hX]; unfold fgV fok; (repeat' split) <;> omega)) hF (by rw [eP]; exact ⟨hm, htx⟩) dX4_figures_97
                    · refine r_aload_n C rfl (lv_at hl 4 rfl) dX4_figures_37 ?_
                      refine r_get C (ci := 4) (v := .ref (mb + 1)) rfl uin4 hm.o 1 (by decide) q_786 rfl rfl dX4_figures_38 ?_
                      refine r_aload_n C rfl (lv_at hl 4 rfl) dX4_figures_41 ?_
                      refine r_get C (ci := 4) (v := .int (iI ((up M 4 ((M 4) + 1)) 4))) rfl uin4 hm.o 10 (by decide) q_795 rfl rfl dX4_figures_42 ?_
                      have er50 : (up M 4 ((M 4) + 1)) 4 = (M 4) + 1 := (by rw [up_s])
                      rw [er50]
                      have b51 := hMb 4
                      refine r_iald (v := TX (p + 1)) C htx (p + 1) (by omega) (by omega) (by omega) rfl dX4_figures_45 ?_
                      have b52 := hTX (p + 1) (by omega)
                      refine r_bipush C (by decide) dX4_figures_46 ?_
                      refine r_isub C dX4_figures_48 ?_
                      refine r_goto (tgt := 53) C (by decide) dX4_figures_49 ?_
                      have ht1 : tdg TX n (p + 1) = (TX (p + 1)) - 48 := if_pos (by omega)
                      refine r_istore (lv' := [(7, .int (iI ((TX (p + 1)) - 48))), (6, .int (iI 1)), (5, .int (iI (0 + ((-1) * 10)))), (8, .int (iI (0 + ((-1) * 10)))), (0, .ref mb), (1, .int (iI b)), (2, .int (iI d)), (3, .int (iI lo)), (4, .int (iI hi))]) C hl (by decide) rfl dX4_figures_53 (fun ls hl => ?_)
                      refine r_iload C (lv_at hl 2 rfl) dX4_figures_55 ?_
                      refine r_iload C (lv_at hl 0 rfl) dX4_figures_57 ?_
                      refine r_iload C (lv_at hl 1 rfl) dX4_figures_59 ?_
                      refine r_imul C dX4_figures_61 ?_
                      refine r_iadd C dX4_figures_62 ?_
                      refine r_istore (lv' := [(8, .int (iI ((0 + ((-1) * 10)) + (((TX (p + 1)) - 48) * 1)))), (7, .int (iI ((TX (p + 1)) - 48))), (6, .int (iI 1)), (5, .int (iI (0 + ((-1) * 10)))), (0, .ref mb), (1, .int (iI b)), (2, .int (iI d)), (3, .int (iI lo)), (4, .int (iI hi))]) C hl (by decide) rfl dX4_figures_63 (fun ls hl => ?_)
                      refine r_iload C (lv_at hl 1 rfl) dX4_figures_65 ?_
                      refine r_i2l C (by omega) dX4_figures_67 ?_
                      refine r_lconst C 0 rfl dX4_figures_68 ?_
                      refine r_ldc2 C (v := iL 9) q_861 dX4_figures_69 ?_
                      refine r_sPi (rest := []) C (k_X4_in l g ((TX (p + 1)) - 48) 0 9 (by omega) (by omega) (by omega)) s_RX4_39 trivial hl.1 rfl ⟨by decide, by decide⟩ rfl (Nat.le_of_ble_eq_true rfl) ⟨Nat.le_refl 0, Nat.le_refl 0⟩ dX4_figures_72 ?_
                      refine r_ifP_eq (tgt := 96) C (by decide) dX4_figures_75 (fun c53 => ?_) (fun c53 => ?_)
                      · refine r_iconst C dX4_figures_96 ?_
                        have eP : (P : Int) = (M 4) + 1 := (by rw [← hP2]; unfold fgP fok; (repeat' split) <;> omega)
                        exact r_iretH C rfl rfl (congrArg iI (by rw [← hX]; unfold fgV fok; (repeat' split) <;> omega)) hF (by rw [eP]; exact ⟨hm, htx⟩) dX4_figures_97
                      · refine r_iload C (lv_at hl 0 rfl) dX4_figures_78 ?_
                        refine r_iload C (lv_at hl 8 rfl) dX4_figures_80 ?_
                        refine r_icmp_gt (tgt := 96) C (by decide) (by omega) (by omega) dX4_figures_82 (fun c54 => ?_) (fun c54 => ?_)
                        · refine r_iconst C dX4_figures_96 ?_
                          have eP : (P : Int) = (M 4) + 1 := (by rw [← hP2]; unfold fgP fok; (repeat' split) <;> omega)
                          exact r_iretH C rfl rfl (congrArg iI (by rw [← hX]; unfold fgV fok; (repeat' split) <;> omega)) hF (by rw [eP]; exact ⟨hm, htx⟩) dX4_figures_97
                        · refine r_iload C (lv_at hl 0 rfl) dX4_figures_85 ?_
                          refine r_iload C (lv_at hl 2 rfl) dX4_figures_87 ?_
                          refine r_iadd C dX4_figures_89 ?_
                          refine r_iconst C dX4_figures_90 ?_
                          refine r_isub C dX4_figures_91 ?_
                          refine r_iload_n C rfl (lv_at hl 7 rfl) dX4_figures_92 ?_
                          refine r_icmp_ge (tgt := 98) C (by decide) (by omega) (by omega) dX4_figures_93 (fun c55 => ?_) (fun c55 => ?_)
                          · refine r_iload C (lv_at hl 0 rfl) dX4_figures_98 ?_
                            refine r_istore (lv' := [(5, .int (iI ((0 + ((-1) * 10)) + (((TX (p + 1)) - 48) * 1)))), (8, .int (iI ((0 + ((-1) * 10)) + (((TX (p + 1)) - 48) * 1)))), (7, .int (iI ((TX (p + 1)) - 48))), (6, .int (iI 1)), (0, .ref mb), (1, .int (iI b)), (2, .int (iI d)), (3, .int (iI lo)), (4, .int (iI hi))]) C hl (by decide) rfl dX4_figures_100 (fun ls hl => ?_)
                            refine r_aload_n C rfl (lv_at hl 4 rfl) dX4_figures_102 ?_
                            refine r_dup C rfl dX4_figures_103 ?_
                            refine r_get C (ci := 4) (v := .int (iI ((up M 4 ((M 4) + 1)) 4))) rfl uin4 hm.o 10 (by decide) q_795 rfl rfl dX4_figures_104 ?_
                            have er56 : (up M 4 ((M 4) + 1)) 4 = (M 4) + 1 := (by rw [up_s])
                            rw [er56]
                            have b57 := hMb 4
                            refine r_iconst C dX4_figures_107 ?_
                            refine r_iadd C dX4_figures_108 ?_
                            refine r_put C (ci := 4) rfl uin4 tyX4_ok nmX4 hm.o hF rfl 10 (by decide) q_795 rfl rfl rfl rfl (by show 10 < 13; decide) dX4_figures_109 (fun H58 locs58 h58 ho58 hz58 hF => ?_)
                            have htx := htx.kept (ho58 _ (by omega))
                            have hm : mdAt g mb (up (up M 4 ((M 4) + 1)) 4 (((M 4) + 1) + 1)) H58 := hm.put4 h58 ho58
                            refine r_iload C (lv_at hl 3 rfl) dX4_figures_112 ?_
                            refine r_bipush C (by decide) dX4_figures_114 ?_
                            refine r_idiv C (by omega) (by omega) dX4_figures_116 ?_
                            rw [show (1 : Int) / 10 = 0 from rfl]
                            refine r_istore (lv' := [(6, .int (iI 0)), (5, .int (iI ((0 + ((-1) * 10)) + (((TX (p + 1)) - 48) * 1)))), (8, .int (iI ((0 + ((-1) * 10)) + (((TX (p + 1)) - 48) * 1)))), (7, .int (iI ((TX (p + 1)) - 48))), (0, .ref mb), (1, .int (iI b)), (2, .int (iI d)), (3, .int (iI lo)), (4, .int (iI hi))]) C hl (by decide) rfl dX4_figures_117 (fun ls hl => ?_)
                            refine r_goto (tgt := 16) C (by decide) dX4_figures_119 ?_
                            refine r_iload C (lv_at hl 0 rfl) dX4_figures_16 ?_
                            refine r_if_le (tgt := 122) C (by decide) (by decide) dX4_figures_18 (fun c59 => ?_) (fun c59 => ?_)
                            · refine r_iload_n C rfl (lv_at hl 5 rfl) dX4_figures_122 ?_
                              refine r_iconst C dX4_figures_123 ?_
                              refine r_icmp_ne (tgt := 131) C (by decide) (by omega) (by decide) dX4_figures_124 (fun c60 => ?_) (fun c60 => ?_)
                              · refine r_iload C (lv_at hl 1 rfl) dX4_figures_131 ?_
                                have eP : (P : Int) = ((M 4) + 1) + 1 := (by rw [← hP2]; unfold fgP fok; (repeat' split) <;> omega)
                                exact r_iretH C rfl rfl (congrArg iI (by rw [← hX]; unfold fgV fok; (repeat' split) <;> omega)) hF (by rw [eP]; rw [up_up] at hm; exact ⟨hm, htx⟩) dX4_figures_133
                              · refine r_iconst C dX4_figures_127 ?_
                                refine r_goto (tgt := 133) C (by decide) dX4_figures_128 ?_
                                have eP : (P : Int) = ((M 4) + 1) + 1 := (by rw [← hP2]; unfold fgP fok; (repeat' split) <;> omega)
                                exact r_iretH C rfl rfl (congrArg iI (by rw [← hX]; unfold fgV fok; (repeat' split) <;> omega)) hF (by rw [eP]; rw [up_up] at hm; exact ⟨hm, htx⟩) dX4_figures_133
                            · exact absurd c59 (by decide)
                          · refine r_iconst C dX4_figures_96 ?_
                            have eP : (P : Int) = (M 4) + 1 := (by rw [← hP2]; unfold fgP fok; (repeat' split) <;> omega)
                            exact r_iretH C rfl rfl (congrArg iI (by rw [← hX]; unfold fgV fok; (repeat' split) <;> omega)) hF (by rw [eP]; exact ⟨hm, htx⟩) dX4_figures_97
              · refine r_iconst C dX4_figures_96 ?_
                have eP : (P : Int) = M 4 := (by rw [← hP2]; unfold fgP fok; (repeat' split) <;> omega)
                exact r_iretH C rfl rfl (congrArg iI (by rw [← hX]; unfold fgV fok; (repeat' split) <;> omega)) hF (by rw [eP, up_id rfl]; exact ⟨hm, htx⟩) dX4_figures_97
        · refine r_aload_n C rfl (lv_at hl 2 rfl) dX4_figures_37 ?_
          refine r_get C (ci := 4) (v := .ref (mb + 1)) rfl uin4 hm.o 1 (by decide) q_786 rfl rfl dX4_figures_38 ?_
          refine r_aload_n C rfl (lv_at hl 2 rfl) dX4_figures_41 ?_
          refine r_get C (ci := 4) (v := .int (iI (M 4))) rfl uin4 hm.o 10 (by decide) q_795 rfl rfl dX4_figures_42 ?_
          have b61 := hMb 4
          refine r_iald (v := TX p) C htx p (by omega) (by omega) (by omega) rfl dX4_figures_45 ?_
          have b62 := hTX p (by omega)
          refine r_bipush C (by decide) dX4_figures_46 ?_
          refine r_isub C dX4_figures_48 ?_
          refine r_goto (tgt := 53) C (by decide) dX4_figures_49 ?_
          have ht0 : tdg TX n p = (TX p) - 48 := if_pos (by omega)
          refine r_istore (lv' := [(7, .int (iI ((TX p) - 48))), (6, .int (iI 10)), (5, .int (iI 0)), (0, .ref mb), (1, .int (iI b)), (2, .int (iI d)), (3, .int (iI lo)), (4, .int (iI hi))]) C hl (by decide) rfl dX4_figures_53 (fun ls hl => ?_)
          refine r_iload C (lv_at hl 2 rfl) dX4_figures_55 ?_
          refine r_iload C (lv_at hl 0 rfl) dX4_figures_57 ?_
          refine r_iload C (lv_at hl 1 rfl) dX4_figures_59 ?_
          refine r_imul C dX4_figures_61 ?_
          refine r_iadd C dX4_figures_62 ?_
          refine r_istore (lv' := [(8, .int (iI (0 + (((TX p) - 48) * 10)))), (7, .int (iI ((TX p) - 48))), (6, .int (iI 10)), (5, .int (iI 0)), (0, .ref mb), (1, .int (iI b)), (2, .int (iI d)), (3, .int (iI lo)), (4, .int (iI hi))]) C hl (by decide) rfl dX4_figures_63 (fun ls hl => ?_)
          refine r_iload C (lv_at hl 1 rfl) dX4_figures_65 ?_
          refine r_i2l C (by omega) dX4_figures_67 ?_
          refine r_lconst C 0 rfl dX4_figures_68 ?_
          refine r_ldc2 C (v := iL 9) q_861 dX4_figures_69 ?_
          refine r_sPi (rest := []) C (k_X4_in l g ((TX p) - 48) 0 9 (by omega) (by omega) (by omega)) s_RX4_39 trivial hl.1 rfl ⟨by decide, by decide⟩ rfl (Nat.le_of_ble_eq_true rfl) ⟨Nat.le_refl 0, Nat.le_refl 0⟩ dX4_figures_72 ?_
          refine r_ifP_eq (tgt := 96) C (by decide) dX4_figures_75 (fun c63 => ?_) (fun c63 => ?_)
          · refine r_iconst C dX4_figures_96 ?_
            have eP : (P : Int) = M 4 := (by rw [← hP2]; unfold fgP fok; (repeat' split) <;> omega)
            exact r_iretH C rfl rfl (congrArg iI (by rw [← hX]; unfold fgV fok; (repeat' split) <;> omega)) hF (by rw [eP, up_id rfl]; exact ⟨hm, htx⟩) dX4_figures_97
          · refine r_iload C (lv_at hl 0 rfl) dX4_figures_78 ?_
            refine r_iload C (lv_at hl 8 rfl) dX4_figures_80 ?_
            refine r_icmp_gt (tgt := 96) C (by decide) (by omega) (by omega) dX4_figures_82 (fun c64 => ?_) (fun c64 => ?_)
            · refine r_iconst C dX4_figures_96 ?_
              have eP : (P : Int) = M 4 := (by rw [← hP2]; unfold fgP fok; (repeat' split) <;> omega)
              exact r_iretH C rfl rfl (congrArg iI (by rw [← hX]; unfold fgV fok; (repeat' split) <;> omega)) hF (by rw [eP, up_id rfl]; exact ⟨hm, htx⟩) dX4_figures_97
            · refine r_iload C (lv_at hl 0 rfl) dX4_figures_85 ?_
              refine r_iload C (lv_at hl 2 rfl) dX4_figures_87 ?_
              refine r_iadd C dX4_figures_89 ?_
              refine r_iconst C dX4_figures_90 ?_
              refine r_isub C dX4_figures_91 ?_
              refine r_iload_n C rfl (lv_at hl 7 rfl) dX4_figures_92 ?_
              refine r_icmp_ge (tgt := 98) C (by decide) (by omega) (by omega) dX4_figures_93 (fun c65 => ?_) (fun c65 => ?_)
              · refine r_iload C (lv_at hl 0 rfl) dX4_figures_98 ?_
                refine r_istore (lv' := [(5, .int (iI (0 + (((TX p) - 48) * 10)))), (8, .int (iI (0 + (((TX p) - 48) * 10)))), (7, .int (iI ((TX p) - 48))), (6, .int (iI 10)), (0, .ref mb), (1, .int (iI b)), (2, .int (iI d)), (3, .int (iI lo)), (4, .int (iI hi))]) C hl (by decide) rfl dX4_figures_100 (fun ls hl => ?_)
                refine r_aload_n C rfl (lv_at hl 4 rfl) dX4_figures_102 ?_
                refine r_dup C rfl dX4_figures_103 ?_
                refine r_get C (ci := 4) (v := .int (iI (M 4))) rfl uin4 hm.o 10 (by decide) q_795 rfl rfl dX4_figures_104 ?_
                have b66 := hMb 4
                refine r_iconst C dX4_figures_107 ?_
                refine r_iadd C dX4_figures_108 ?_
                refine r_put C (ci := 4) rfl uin4 tyX4_ok nmX4 hm.o hF rfl 10 (by decide) q_795 rfl rfl rfl rfl (by show 10 < 13; decide) dX4_figures_109 (fun H67 locs67 h67 ho67 hz67 hF => ?_)
                have htx := htx.kept (ho67 _ (by omega))
                have hm : mdAt g mb (up M 4 ((M 4) + 1)) H67 := hm.put4 h67 ho67
                refine r_iload C (lv_at hl 3 rfl) dX4_figures_112 ?_
                refine r_bipush C (by decide) dX4_figures_114 ?_
                refine r_idiv C (by omega) (by omega) dX4_figures_116 ?_
                rw [show (10 : Int) / 10 = 1 from rfl]
                refine r_istore (lv' := [(6, .int (iI 1)), (5, .int (iI (0 + (((TX p) - 48) * 10)))), (8, .int (iI (0 + (((TX p) - 48) * 10)))), (7, .int (iI ((TX p) - 48))), (0, .ref mb), (1, .int (iI b)), (2, .int (iI d)), (3, .int (iI lo)), (4, .int (iI hi))]) C hl (by decide) rfl dX4_figures_117 (fun ls hl => ?_)
                refine r_goto (tgt := 16) C (by decide) dX4_figures_119 ?_
                refine r_iload C (lv_at hl 0 rfl) dX4_figures_16 ?_
                refine r_if_le (tgt := 122) C (by decide) (by decide) dX4_figures_18 (fun c68 => ?_) (fun c68 => ?_)
                · exact absurd c68 (by decide)
                · refine r_iload_n C rfl (lv_at hl 5 rfl) dX4_figures_21 ?_
                  refine r_iconst C dX4_figures_22 ?_
                  refine r_icmp_eq (tgt := 122) C (by decide) (by omega) (by decide) dX4_figures_23 (fun c69 => ?_) (fun c69 => ?_)
                  · exact absurd c69 (by omega)
                  · refine r_aload_n C rfl (lv_at hl 4 rfl) dX4_figures_26 ?_
                    refine r_get C (ci := 4) (v := .int (iI ((up M 4 ((M 4) + 1)) 4))) rfl uin4 hm.o 10 (by decide) q_795 rfl rfl dX4_figures_27 ?_
                    have er70 : (up M 4 ((M 4) + 1)) 4 = (M 4) + 1 := (by rw [up_s])
                    rw [er70]
                    have b71 := hMb 4
                    refine r_aload_n C rfl (lv_at hl 4 rfl) dX4_figures_30 ?_
                    refine r_get C (ci := 4) (v := .int (iI ((up M 4 ((M 4) + 1)) 1))) rfl uin4 hm.o 2 (by decide) q_787 rfl rfl dX4_figures_31 ?_
                    have er72 : (up M 4 ((M 4) + 1)) 1 = M 1 := (by rw [up_n _ _ (by omega)])
                    rw [er72]
                    have b73 := hMb 1
                    refine r_icmp_ge (tgt := 52) C (by decide) (by omega) (by omega) dX4_figures_34 (fun c74 => ?_) (fun c74 => ?_)
                    · refine r_iconst C dX4_figures_52 ?_
                      have ht1 : tdg TX n (p + 1) = (-1) := if_neg (by omega)
                      refine r_istore (lv' := [(7, .int (iI (-1))), (6, .int (iI 1)), (5, .int (iI (0 + (((TX p) - 48) * 10)))), (8, .int (iI (0 + (((TX p) - 48) * 10)))), (0, .ref mb), (1, .int (iI b)), (2, .int (iI d)), (3, .int (iI lo)), (4, .int (iI hi))]) C hl (by decide) rfl dX4_figures_53 (fun ls hl => ?_)
                      refine r_iload C (lv_at hl 2 rfl) dX4_figures_55 ?_
                      refine r_iload C (lv_at hl 0 rfl) dX4_figures_57 ?_
                      refine r_iload C (lv_at hl 1 rfl) dX4_figures_59 ?_
                      refine r_imul C dX4_figures_61 ?_
                      refine r_iadd C dX4_figures_62 ?_
                      refine r_istore (lv' := [(8, .int (iI ((0 + (((TX p) - 48) * 10)) + ((-1) * 1)))), (7, .int (iI (-1))), (6, .int (iI 1)), (5, .int (iI (0 + (((TX p) - 48) * 10)))), (0, .ref mb), (1, .int (iI b)), (2, .int (iI d)), (3, .int (iI lo)), (4, .int (iI hi))]) C hl (by decide) rfl dX4_figures_63 (fun ls hl => ?_)
                      refine r_iload C (lv_at hl 1 rfl) dX4_figures_65 ?_
                      refine r_i2l C (by decide) dX4_figures_67 ?_
                      refine r_lconst C 0 rfl dX4_figures_68 ?_
                      refine r_ldc2 C (v := iL 9) q_861 dX4_figures_69 ?_
                      refine r_sPi (rest := []) C (k_X4_in l g (-1) 0 9 (by omega) (by omega) (by omega)) s_RX4_39 trivial hl.1 rfl ⟨by decide, by decide⟩ rfl (Nat.le_of_ble_eq_true rfl) ⟨Nat.le_refl 0, Nat.le_refl 0⟩ dX4_figures_72 ?_
                      refine r_ifP_eq (tgt := 96) C (by decide) dX4_figures_75 (fun c75 => ?_) (fun c75 => ?_)
                      · refine r_iconst C dX4_figures_96 ?_
                        have eP : (P : Int) = (M 4) + 1 := (by rw [← hP2]; unfold fgP fok; (repeat' split) <;> omega)
                        exact r_iretH C rfl rfl (congrArg iI (by rw [← hX]; unfold fgV fok; (repeat' split) <;> omega)) hF (by rw [eP]; exact ⟨hm, htx⟩) dX4_figures_97
                      · refine r_iload C (lv_at hl 0 rfl) dX4_figures_78 ?_
                        refine r_iload C (lv_at hl 8 rfl) dX4_figures_80 ?_
                        refine r_icmp_gt (tgt := 96) C (by decide) (by omega) (by omega) dX4_figures_82 (fun c76 => ?_) (fun c76 => ?_)
                        · refine r_iconst C dX4_figures_96 ?_
                          have eP : (P : Int) = (M 4) + 1 := (by rw [← hP2]; unfold fgP fok; (repeat' split) <;> omega)
                          exact r_iretH C rfl rfl (congrArg iI (by rw [← hX]; unfold fgV fok; (repeat' split) <;> omega)) hF (by rw [eP]; exact ⟨hm, htx⟩) dX4_figures_97
                        · refine r_iload C (lv_at hl 0 rfl) dX4_figures_85 ?_
                          refine r_iload C (lv_at hl 2 rfl) dX4_figures_87 ?_
                          refine r_iadd C dX4_figures_89 ?_
                          refine r_iconst C dX4_figures_90 ?_
                          refine r_isub C dX4_figures_91 ?_
                          refine r_iload_n C rfl (lv_at hl 7 rfl) dX4_figures_92 ?_
                          refine r_icmp_ge (tgt := 98) C (by decide) (by omega) (by omega) dX4_figures_93 (fun c77 => ?_) (fun c77 => ?_)
                          · refine r_iload C (lv_at hl 0 rfl) dX4_figures_98 ?_
                            refine r_istore (lv' := [(5, .int (iI ((0 + (((TX p) - 48) * 10)) + ((-1) * 1)))), (8, .int (iI ((0 + (((TX p) - 48) * 10)) + ((-1) * 1)))), (7, .int (iI (-1))), (6, .int (iI 1)), (0, .ref mb), (1, .int (iI b)), (2, .int (iI d)), (3, .int (iI lo)), (4, .int (iI hi))]) C hl (by decide) rfl dX4_figures_100 (fun ls hl => ?_)
                            refine r_aload_n C rfl (lv_at hl 4 rfl) dX4_figures_102 ?_
                            refine r_dup C rfl dX4_figures_103 ?_
                            refine r_get C (ci := 4) (v := .int (iI ((up M 4 ((M 4) + 1)) 4))) rfl uin4 hm.o 10 (by decide) q_795 rfl rfl dX4_figures_104 ?_
                            have er78 : (up M 4 ((M 4) + 1)) 4 = (M 4) + 1 := (by rw [up_s])
                            rw [er78]
                            have b79 := hMb 4
                            refine r_iconst C dX4_figures_107 ?_
                            refine r_iadd C dX4_figures_108 ?_
                            refine r_put C (ci := 4) rfl uin4 tyX4_ok nmX4 hm.o hF rfl 10 (by decide) q_795 rfl rfl rfl rfl (by show 10 < 13; decide) dX4_figures_109 (fun H80 locs80 h80 ho80 hz80 hF => ?_)
                            have htx := htx.kept (ho80 _ (by omega))
                            have hm : mdAt g mb (up (up M 4 ((M 4) + 1)) 4 (((M 4) + 1) + 1)) H80 := hm.put4 h80 ho80
                            refine r_iload C (lv_at hl 3 rfl) dX4_figures_112 ?_
                            refine r_bipush C (by decide) dX4_figures_114 ?_
                            refine r_idiv C (by omega) (by omega) dX4_figures_116 ?_
                            rw [show (1 : Int) / 10 = 0 from rfl]
                            refine r_istore (lv' := [(6, .int (iI 0)), (5, .int (iI ((0 + (((TX p) - 48) * 10)) + ((-1) * 1)))), (8, .int (iI ((0 + (((TX p) - 48) * 10)) + ((-1) * 1)))), (7, .int (iI (-1))), (0, .ref mb), (1, .int (iI b)), (2, .int (iI d)), (3, .int (iI lo)), (4, .int (iI hi))]) C hl (by decide) rfl dX4_figures_117 (fun ls hl => ?_)
                            refine r_goto (tgt := 16) C (by decide) dX4_figures_119 ?_
                            refine r_iload C (lv_at hl 0 rfl) dX4_figures_16 ?_
                            refine r_if_le (tgt := 122) C (by decide) (by decide) dX4_figures_18 (fun c81 => ?_) (fun c81 => ?_)
                            · refine r_iload_n C rfl (lv_at hl 5 rfl) dX4_figures_122 ?_
                              refine r_iconst C dX4_figures_123 ?_
                              refine r_icmp_ne (tgt := 131) C (by decide) (by omega) (by decide) dX4_figures_124 (fun c82 => ?_) (fun c82 => ?_)
                              · refine r_iload C (lv_at hl 1 rfl) dX4_figures_131 ?_
                                have eP : (P : Int) = ((M 4) + 1) + 1 := (by rw [← hP2]; unfold fgP fok; (repeat' split) <;> omega)
                                exact r_iretH C rfl rfl (congrArg iI (by rw [← hX]; unfold fgV fok; (repeat' split) <;> omega)) hF (by rw [eP]; rw [up_up] at hm; exact ⟨hm, htx⟩) dX4_figures_133
                              · refine r_iconst C dX4_figures_127 ?_
                                refine r_goto (tgt := 133) C (by decide) dX4_figures_128 ?_
                                have eP : (P : Int) = ((M 4) + 1) + 1 := (by rw [← hP2]; unfold fgP fok; (repeat' split) <;> omega)
                                exact r_iretH C rfl rfl (congrArg iI (by rw [← hX]; unfold fgV fok; (repeat' split) <;> omega)) hF (by rw [eP]; rw [up_up] at hm; exact ⟨hm, htx⟩) dX4_figures_133
                            · exact absurd c81 (by decide)
                          · refine r_iconst C dX4_figures_96 ?_
                            have eP : (P : Int) = (M 4) + 1 := (by rw [← hP2]; unfold fgP fok; (repeat' split) <;> omega)
                            exact r_iretH C rfl rfl (congrArg iI (by rw [← hX]; unfold fgV fok; (repeat' split) <;> omega)) hF (by rw [eP]; exact ⟨hm, htx⟩) dX4_figures_97
                    · refine r_aload_n C rfl (lv_at hl 4 rfl) dX4_figures_37 ?_
                      refine r_get C (ci := 4) (v := .ref (mb + 1)) rfl uin4 hm.o 1 (by decide) q_786 rfl rfl dX4_figures_38 ?_
                      refine r_aload_n C rfl (lv_at hl 4 rfl) dX4_figures_41 ?_
                      refine r_get C (ci := 4) (v := .int (iI ((up M 4 ((M 4) + 1)) 4))) rfl uin4 hm.o 10 (by decide) q_795 rfl rfl dX4_figures_42 ?_
                      have er83 : (up M 4 ((M 4) + 1)) 4 = (M 4) + 1 := (by rw [up_s])
                      rw [er83]
                      have b84 := hMb 4
                      refine r_iald (v := TX (p + 1)) C htx (p + 1) (by omega) (by omega) (by omega) rfl dX4_figures_45 ?_
                      have b85 := hTX (p + 1) (by omega)
                      refine r_bipush C (by decide) dX4_figures_46 ?_
                      refine r_isub C dX4_figures_48 ?_
                      refine r_goto (tgt := 53) C (by decide) dX4_figures_49 ?_
                      have ht1 : tdg TX n (p + 1) = (TX (p + 1)) - 48 := if_pos (by omega)
                      refine r_istore (lv' := [(7, .int (iI ((TX (p + 1)) - 48))), (6, .int (iI 1)), (5, .int (iI (0 + (((TX p) - 48) * 10)))), (8, .int (iI (0 + (((TX p) - 48) * 10)))), (0, .ref mb), (1, .int (iI b)), (2, .int (iI d)), (3, .int (iI lo)), (4, .int (iI hi))]) C hl (by decide) rfl dX4_figures_53 (fun ls hl => ?_)
                      refine r_iload C (lv_at hl 2 rfl) dX4_figures_55 ?_
                      refine r_iload C (lv_at hl 0 rfl) dX4_figures_57 ?_
                      refine r_iload C (lv_at hl 1 rfl) dX4_figures_59 ?_
                      refine r_imul C dX4_figures_61 ?_
                      refine r_iadd C dX4_figures_62 ?_
                      refine r_istore (lv' := [(8, .int (iI ((0 + (((TX p) - 48) * 10)) + (((TX (p + 1)) - 48) * 1)))), (7, .int (iI ((TX (p + 1)) - 48))), (6, .int (iI 1)), (5, .int (iI (0 + (((TX p) - 48) * 10)))), (0, .ref mb), (1, .int (iI b)), (2, .int (iI d)), (3, .int (iI lo)), (4, .int (iI hi))]) C hl (by decide) rfl dX4_figures_63 (fun ls hl => ?_)
                      refine r_iload C (lv_at hl 1 rfl) dX4_figures_65 ?_
                      refine r_i2l C (by omega) dX4_figures_67 ?_
                      refine r_lconst C 0 rfl dX4_figures_68 ?_
                      refine r_ldc2 C (v := iL 9) q_861 dX4_figures_69 ?_
                      refine r_sPi (rest := []) C (k_X4_in l g ((TX (p + 1)) - 48) 0 9 (by omega) (by omega) (by omega)) s_RX4_39 trivial hl.1 rfl ⟨by decide, by decide⟩ rfl (Nat.le_of_ble_eq_true rfl) ⟨Nat.le_refl 0, Nat.le_refl 0⟩ dX4_figures_72 ?_
                      refine r_ifP_eq (tgt := 96) C (by decide) dX4_figures_75 (fun c86 => ?_) (fun c86 => ?_)
                      · refine r_iconst C dX4_figures_96 ?_
                        have eP : (P : Int) = (M 4) + 1 := (by rw [← hP2]; unfold fgP fok; (repeat' split) <;> omega)
                        exact r_iretH C rfl rfl (congrArg iI (by rw [← hX]; unfold fgV fok; (repeat' split) <;> omega)) hF (by rw [eP]; exact ⟨hm, htx⟩) dX4_figures_97
                      · refine r_iload C (lv_at hl 0 rfl) dX4_figures_78 ?_
                        refine r_iload C (lv_at hl 8 rfl) dX4_figures_80 ?_
                        refine r_icmp_gt (tgt := 96) C (by decide) (by omega) (by omega) dX4_figures_82 (fun c87 => ?_) (fun c87 => ?_)
                        · refine r_iconst C dX4_figures_96 ?_
                          have eP : (P : Int) = (M 4) + 1 := (by rw [← hP2]; unfold fgP fok; (repeat' split) <;> omega)
                          exact r_iretH C rfl rfl (congrArg iI (by rw [← hX]; unfold fgV fok; (repeat' split) <;> omega)) hF (by rw [eP]; exact ⟨hm, htx⟩) dX4_figures_97
                        · refine r_iload C (lv_at hl 0 rfl) dX4_figures_85 ?_
                          refine r_iload C (lv_at hl 2 rfl) dX4_figures_87 ?_
                          refine r_iadd C dX4_figures_89 ?_
                          refine r_iconst C dX4_figures_90 ?_
                          refine r_isub C dX4_figures_91 ?_
                          refine r_iload_n C rfl (lv_at hl 7 rfl) dX4_figures_92 ?_
                          refine r_icmp_ge (tgt := 98) C (by decide) (by omega) (by omega) dX4_figures_93 (fun c88 => ?_) (fun c88 => ?_)
                          · refine r_iload C (lv_at hl 0 rfl) dX4_figures_98 ?_
                            refine r_istore (lv' := [(5, .int (iI ((0 + (((TX p) - 48) * 10)) + (((TX (p + 1)) - 48) * 1)))), (8, .int (iI ((0 + (((TX p) - 48) * 10)) + (((TX (p + 1)) - 48) * 1)))), (7, .int (iI ((TX (p + 1)) - 48))), (6, .int (iI 1)), (0, .ref mb), (1, .int (iI b)), (2, .int (iI d)), (3, .int (iI lo)), (4, .int (iI hi))]) C hl (by decide) rfl dX4_figures_100 (fun ls hl => ?_)
                            refine r_aload_n C rfl (lv_at hl 4 rfl) dX4_figures_102 ?_
                            refine r_dup C rfl dX4_figures_103 ?_
                            refine r_get C (ci := 4) (v := .int (iI ((up M 4 ((M 4) + 1)) 4))) rfl uin4 hm.o 10 (by decide) q_795 rfl rfl dX4_figures_104 ?_
                            have er89 : (up M 4 ((M 4) + 1)) 4 = (M 4) + 1 := (by rw [up_s])
                            rw [er89]
                            have b90 := hMb 4
                            refine r_iconst C dX4_figures_107 ?_
                            refine r_iadd C dX4_figures_108 ?_
                            refine r_put C (ci := 4) rfl uin4 tyX4_ok nmX4 hm.o hF rfl 10 (by decide) q_795 rfl rfl rfl rfl (by show 10 < 13; decide) dX4_figures_109 (fun H91 locs91 h91 ho91 hz91 hF => ?_)
                            have htx := htx.kept (ho91 _ (by omega))
                            have hm : mdAt g mb (up (up M 4 ((M 4) + 1)) 4 (((M 4) + 1) + 1)) H91 := hm.put4 h91 ho91
                            refine r_iload C (lv_at hl 3 rfl) dX4_figures_112 ?_
                            refine r_bipush C (by decide) dX4_figures_114 ?_
                            refine r_idiv C (by omega) (by omega) dX4_figures_116 ?_
                            rw [show (1 : Int) / 10 = 0 from rfl]
                            refine r_istore (lv' := [(6, .int (iI 0)), (5, .int (iI ((0 + (((TX p) - 48) * 10)) + (((TX (p + 1)) - 48) * 1)))), (8, .int (iI ((0 + (((TX p) - 48) * 10)) + (((TX (p + 1)) - 48) * 1)))), (7, .int (iI ((TX (p + 1)) - 48))), (0, .ref mb), (1, .int (iI b)), (2, .int (iI d)), (3, .int (iI lo)), (4, .int (iI hi))]) C hl (by decide) rfl dX4_figures_117 (fun ls hl => ?_)
                            refine r_goto (tgt := 16) C (by decide) dX4_figures_119 ?_
                            refine r_iload C (lv_at hl 0 rfl) dX4_figures_16 ?_
                            refine r_if_le (tgt := 122) C (by decide) (by decide) dX4_figures_18 (fun c92 => ?_) (fun c92 => ?_)
                            · refine r_iload_n C rfl (lv_at hl 5 rfl) dX4_figures_122 ?_
                              refine r_iconst C dX4_figures_123 ?_
                              refine r_icmp_ne (tgt := 131) C (by decide) (by omega) (by decide) dX4_figures_124 (fun c93 => ?_) (fun c93 => ?_)
                              · refine r_iload C (lv_at hl 1 rfl) dX4_figures_131 ?_
                                have eP : (P : Int) = ((M 4) + 1) + 1 := (by rw [← hP2]; unfold fgP fok; (repeat' split) <;> omega)
                                exact r_iretH C rfl rfl (congrArg iI (by rw [← hX]; unfold fgV fok; (repeat' split) <;> omega)) hF (by rw [eP]; rw [up_up] at hm; exact ⟨hm, htx⟩) dX4_figures_133
                              · refine r_iconst C dX4_figures_127 ?_
                                refine r_goto (tgt := 133) C (by decide) dX4_figures_128 ?_
                                have eP : (P : Int) = ((M 4) + 1) + 1 := (by rw [← hP2]; unfold fgP fok; (repeat' split) <;> omega)
                                exact r_iretH C rfl rfl (congrArg iI (by rw [← hX]; unfold fgV fok; (repeat' split) <;> omega)) hF (by rw [eP]; rw [up_up] at hm; exact ⟨hm, htx⟩) dX4_figures_133
                            · exact absurd c92 (by decide)
                          · refine r_iconst C dX4_figures_96 ?_
                            have eP : (P : Int) = (M 4) + 1 := (by rw [← hP2]; unfold fgP fok; (repeat' split) <;> omega)
                            exact r_iretH C rfl rfl (congrArg iI (by rw [← hX]; unfold fgV fok; (repeat' split) <;> omega)) hF (by rw [eP]; exact ⟨hm, htx⟩) dX4_figures_97
              · refine r_iconst C dX4_figures_96 ?_
                have eP : (P : Int) = M 4 := (by rw [← hP2]; unfold fgP fok; (repeat' split) <;> omega)
                exact r_iretH C rfl rfl (congrArg iI (by rw [← hX]; unfold fgV fok; (repeat' split) <;> omega)) hF (by rw [eP, up_id rfl]; exact ⟨hm, htx⟩) dX4_figures_97
set_option maxHeartbeats 4000000 in
theorem k_X4_doesWrites (l : Launch) (g : Gt) (mb a : Nat) (a0 a1 a2 a4 a5 : Int) (F : Nat → Int) (T : Int) (hne : a ≠ mb) (hJ : J F z0 T) (hT : T ≤ 950000) (x y z : Int) (s q e : Nat) (hx : x = (s : Int)) (hy : y = (q : Int)) (hz : z = (e : Int)) (hs : s < 5) (hq : q < 40) (he : e < 40) : CH l yX4_doesWrites cX4_doesWrites 6 (some .boolean) 9 207 g [.ref mb, .ref a, .int (iI x), .int (iI y), .int (iI z)] (fun H => mdX g mb a0 a1 a2 a4 a5 H ∧ aAt g a 262 F H) (some (.int (iI (pI (z < y ∨ x < F 0))))) (fun q => q = mb ∨ q = a) (fun H => mdX g mb a0 a1 a2 a4 a5 H ∧ aAt g a 262 (rsF F s q e) H) := by
  refine ch_of "LentRoomModel" (by decide) rfl (Nat.le_of_ble_eq_true rfl) ?_
  intro zp ze zs zm za zb zt zc ls C hP hF hl
  obtain ⟨⟨M, hMb, h0, h1, h2, h4, h5, hm⟩, hr⟩ := hP
  have hl : lv_has ls 6 [(0, .ref mb), (1, .ref a), (2, .int (iI x)), (3, .int (iI y)), (4, .int (iI z))] := hl
  have hS := hJ.S
  have hSm : Sm F := hS.m (by omega)
  have hZ := hJ.Z
  have hn5 := hJ.n
  have hws := fun (hn : (s : Int) < F 0) k hk hk2 => hJ.wrs hs hn (q := q) k hk hk2
  have cut3 : ∀ (N : Nat) (i : Nat) (M : Nat → Int) (v5 : Int), 41 - i < N → (i + q ≤ e + 1 ∨ i = 0) → (i = 0 ∨ x < F 0) → (i ≤ 40) → (∀ k, Rg (M k)) → (M 0 = a0) → (M 1 = a1) → (M 2 = a2) → (M 4 = a4) → (M 5 = a5) → (J (wrs F s q i) z0 (T + 6 * i) ∧ wrs F s q i 0 = F 0) → (v5 = y + i) → ∀ (H : Heap) (locs : List Loc), mdAt g mb M H → aAt g a 262 (wrs F s q i) H → Fr (fun q => q = mb ∨ q = a) zs.heap H locs → ∀ ls : Array Slot, lv_has ls 6 [(0, .ref mb), (1, .ref a), (2, .int (iI x)), (3, .int (iI y)), (4, .int (iI z)), (5, .int (iI v5))] → W zp l ze (rmc 9 207) zs zm za zb zt zc H locs 0 0 (MQ zb (HQ (some (.int (iI (pI (z < y ∨ x < F 0))))) (fun q => q = mb ∨ q = a) (fun H => mdX g mb a0 a1 a2 a4 a5 H ∧ aAt g a 262 (rsF F s q e) H)) za zs 0 0 (fun q => q = mb ∨ q = a)) (F0 zm 3 ls []) := by
    intro N
    induction N with
    | zero => intro i M v5; exact fun hms => absurd hms (Nat.not_lt_zero _)
    | succ N ih =>
      intro i M v5 hms hi hsp hii hMb h0 h1 h2 h4 h5 hJ1 hv5 H locs hm hr hF ls hl
      have hSm1 : Sm (wrs F s q i) := hJ1.1.S.m (by omega)
      have hJ10 := hJ1.2
      refine r_iload C (lv_at hl 5 rfl) dX4_doesWrites_3 ?_
      refine r_iload C (lv_at hl 4 rfl) dX4_doesWrites_5 ?_
      refine r_icmp_gt (tgt := 35) C (by decide) (by omega) (by omega) dX4_doesWrites_7 (fun c1 => ?_) (fun c1 => ?_)
      · refine r_iconst C dX4_doesWrites_35 ?_
        exact r_iretH C rfl rfl (congrArg iI (pI_t (by omega)).symm) hF (by exact ⟨⟨M, hMb, (by first | exact h0 | omega), (by first | exact h1 | omega), (by first | exact h2 | omega), (by first | exact h4 | omega), (by first | exact h5 | omega), hm⟩, by rw [show rsF F s q e = wrs F s q i from (by unfold rsF; split <;> first | (rw [show e + 1 - q = i by omega]) | (rw [show i = 0 by omega]; rfl))]; exact hr⟩) dX4_doesWrites_36
      · refine r_aload_n C rfl (lv_at hl 1 rfl) dX4_doesWrites_10 ?_
        refine r_iload_n C rfl (lv_at hl 2 rfl) dX4_doesWrites_11 ?_
        refine r_sPi (rest := []) C (k_X4_isSpace l g a (wrs F s q i) hSm1 x (by omega)) s_RX4_94 hr hl.1 rfl ⟨by decide, by decide⟩ rfl (Nat.le_of_ble_eq_true rfl) ⟨Nat.le_refl 0, Nat.le_refl 0⟩ dX4_doesWrites_12 ?_
        have b2 := hSm1.n
        refine r_ifP_ne (tgt := 20) C (by decide) dX4_doesWrites_15 (fun c3 => ?_) (fun c3 => ?_)
        · have hxF : x < F 0 := (by omega)
          refine r_aload_n C rfl (lv_at hl 0 rfl) dX4_doesWrites_20 ?_
          refine r_aload_n C rfl (lv_at hl 1 rfl) dX4_doesWrites_21 ?_
          refine r_iload_n C rfl (lv_at hl 2 rfl) dX4_doesWrites_22 ?_
          refine r_iload C (lv_at hl 5 rfl) dX4_doesWrites_23 ?_
          refine r_vHi (rest := []) C (k_X4_writeOn l g mb M hMb a (wrs F s q i) z0 (T + 6 * i) (by omega) hJ1.1 (by omega) x s (by omega) (by omega) (by omega) v5 (q + i) (by omega) (by omega)) s_RX4_128 ⟨hm, hr⟩ hF (fun _ h => h) (recv C (ci := 4) rfl hm.o) hl.1 rfl ⟨by decide, by decide⟩ rfl (Nat.le_of_ble_eq_true rfl) ⟨Nat.le_refl 0, Nat.le_refl 0⟩ dX4_doesWrites_25 (fun H6 locs6 h6 ho6 hz6 hF => ?_)
          obtain ⟨hm, hr⟩ := h6
          have b4 := wrR_b (wrs F s q i) s (q + i)
          have b5 := wrL_5 hSm1 s (q + i)
          refine r_pop C rfl dX4_doesWrites_28 ?_
          refine r_iinc (lv' := [(5, .int (iI (v5 + 1))), (0, .ref mb), (1, .ref a), (2, .int (iI x)), (3, .int (iI y)), (4, .int (iI z))]) C hl (q := 5) rfl (by decide) rfl dX4_doesWrites_29 (fun ls hl => ?_)
          refine r_goto (tgt := 3) C (by decide) dX4_doesWrites_32 ?_
          exact ih (i + 1) (setL M (wrL (wrs F s q i) s (q + i))) (v5 + 1) (by omega) (by omega) (by omega) (by omega) (by exact (by repeat first | exact hMb | refine rg_up ?_ (by omega) | refine rg_setL ?_ (by omega))) (by exact (by rw [setL_k _ _ (by omega)] <;> omega)) (by exact (by rw [setL_k _ _ (by omega)] <;> omega)) (by exact (by rw [setL_k _ _ (by omega)] <;> omega)) (by exact (by rw [setL_k _ _ (by omega)] <;> omega)) (by exact (by rw [setL_k _ _ (by omega)] <;> omega)) (by exact hws (by omega) (i + 1) (by omega) (by omega)) (by omega) _ _ hm hr hF _ (lv_sub hl [1, 2, 3, 4, 5, 0] rfl)
        · refine r_iconst C dX4_doesWrites_18 ?_
          exact r_iretH C rfl rfl (congrArg iI (pI_f (by omega)).symm) hF (by exact ⟨⟨M, hMb, (by first | exact h0 | omega), (by first | exact h1 | omega), (by first | exact h2 | omega), (by first | exact h4 | omega), (by first | exact h5 | omega), hm⟩, by rw [show rsF F s q e = wrs F s q i from (by unfold rsF; split <;> first | (rw [show e + 1 - q = i by omega]) | (rw [show i = 0 by omega]; rfl))]; exact hr⟩) dX4_doesWrites_19
  refine r_iload_n C rfl (lv_at hl 3 rfl) dX4_doesWrites_0 ?_
  refine r_istore (lv' := [(5, .int (iI y)), (0, .ref mb), (1, .ref a), (2, .int (iI x)), (3, .int (iI y)), (4, .int (iI z))]) C hl (by decide) rfl dX4_doesWrites_1 (fun ls hl => ?_)
  exact cut3 _ 0 M y (Nat.lt_succ_self _) (by omega) (by omega) (by omega) (by exact hMb) (by exact (by first | exact h0 | omega)) (by exact (by first | exact h1 | omega)) (by exact (by first | exact h2 | omega)) (by exact (by first | exact h4 | omega)) (by exact (by first | exact h5 | omega)) (by exact ⟨hJ.mono (by omega), rfl⟩) (by omega) _ _ hm hr hF _ (lv_sub hl [1, 2, 3, 4, 5, 0] rfl)

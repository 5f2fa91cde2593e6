set_option maxHeartbeats 4000000 in
theorem k_X4_turn (l : Launch) (g : Gt) (mb : Nat) (a0 a1 a2 : Int) (F : Nat → Int) (T : Int) (hJ : J F z0 T) (h60 : 60 ≤ T) (hT : T ≤ 950000) (r : Int) (hr : 0 ≤ r ∧ r < 2147483648) : CH l yX4_turn cX4_turn 5 none 9 207 g [.ref mb, .int (iI r)] (mdC g mb a0 a1 a2 F) (none) (fun q => q = mb ∨ q = mb + 3 ∨ q = mb + 7) (mdC g mb a0 a1 a2 (tuF r F)) := by
  refine ch_of "LentRoomModel" (by decide) rfl (Nat.le_of_ble_eq_true rfl) ?_
  intro zp ze zs zm za zb zt zc ls C hP hF hl
  obtain ⟨M, AP, hMb, h0, h1, h2, hm, htr, hap⟩ := hP
  have hl : lv_has ls 5 [(0, .ref mb), (1, .int (iI r))] := hl
  have hS := hJ.S
  have hSm : Sm F := hS.m (by omega)
  have hZ := hJ.Z
  have hn5 := hJ.n
  have hts := tuS_b r F hn5.1
  refine r_iload_n C rfl (lv_at hl 1 rfl) dX4_turn_0 ?_
  refine r_bipush C (by decide) dX4_turn_1 ?_
  refine r_idiv C (by omega) (by omega) dX4_turn_3 ?_
  refine r_aload_n C rfl (lv_at hl 0 rfl) dX4_turn_4 ?_
  refine r_get C (ci := 4) (v := .ref (mb + 3)) rfl uin4 hm.o 4 (by decide) q_789 rfl rfl dX4_turn_5 ?_
  refine r_iconst C dX4_turn_8 ?_
  refine r_iald (v := F 0) C htr 0 rfl (by omega) (by omega) rfl dX4_turn_9 ?_
  have b1 := hSm.1 0 (by omega)
  have b2 := hSm.2
  refine r_if_ne (tgt := 17) C (by decide) (by omega) dX4_turn_10 (fun c3 => ?_) (fun c3 => ?_)
  · refine r_aload_n C rfl (lv_at hl 0 rfl) dX4_turn_17 ?_
    refine r_get C (ci := 4) (v := .ref (mb + 3)) rfl uin4 hm.o 4 (by decide) q_789 rfl rfl dX4_turn_18 ?_
    refine r_iconst C dX4_turn_21 ?_
    refine r_iald (v := F 0) C htr 0 rfl (by omega) (by omega) rfl dX4_turn_22 ?_
    have b4 := hSm.1 0 (by omega)
    have b5 := hSm.2
    refine r_irem C (by omega) (by omega) dX4_turn_23 ?_
    rw [show (r / 16) % (F 0) = tuS r F from (by unfold tuS; rw [if_neg (by omega)])]
    refine r_istore_n (lv' := [(2, .int (iI (tuS r F))), (0, .ref mb), (1, .int (iI r))]) C rfl hl (by decide) rfl dX4_turn_24 (fun ls hl => ?_)
    refine r_iload_n C rfl (lv_at hl 2 rfl) dX4_turn_25 ?_
    refine r_sipush C (by decide) dX4_turn_26 ?_
    refine r_idiv C (by omega) (by omega) dX4_turn_29 ?_
    refine r_bipush C (by decide) dX4_turn_30 ?_
    refine r_irem C (by omega) (by omega) dX4_turn_32 ?_
    refine r_istore_n (lv' := [(3, .int (iI ((r / 128) % 40))), (2, .int (iI (tuS r F))), (0, .ref mb), (1, .int (iI r))]) C rfl hl (by decide) rfl dX4_turn_33 (fun ls hl => ?_)
    refine r_iload_n C rfl (lv_at hl 3 rfl) dX4_turn_34 ?_
    refine r_bipush C (by decide) dX4_turn_35 ?_
    refine r_irem C (by omega) (by omega) dX4_turn_37 ?_
    refine r_istore (lv' := [(4, .int (iI (r % 16))), (3, .int (iI ((r / 128) % 40))), (2, .int (iI (tuS r F))), (0, .ref mb), (1, .int (iI r))]) C hl (by decide) rfl dX4_turn_38 (fun ls hl => ?_)
    refine r_iload C (lv_at hl 0 rfl) dX4_turn_40 ?_
    refine r_if_ne (tgt := 102) C (by decide) (by omega) dX4_turn_42 (fun c6 => ?_) (fun c6 => ?_)
    · refine r_iload C (lv_at hl 0 rfl) dX4_turn_102 ?_
      refine r_iconst C dX4_turn_104 ?_
      refine r_icmp_ne (tgt := 129) C (by decide) (by omega) (by decide) dX4_turn_105 (fun c7 => ?_) (fun c7 => ?_)
      · refine r_aload_n C rfl (lv_at hl 3 rfl) dX4_turn_129 ?_
        refine r_get C (ci := 4) (v := .ref (mb + 3)) rfl uin4 hm.o 4 (by decide) q_789 rfl rfl dX4_turn_130 ?_
        refine r_iload_n C rfl (lv_at hl 2 rfl) dX4_turn_133 ?_
        refine r_sPi (rest := []) C (k_X4_isSpace l g (mb + 3) F hSm (tuS r F) (by omega)) s_RX4_94 htr hl.1 rfl ⟨by decide, by decide⟩ rfl (Nat.le_of_ble_eq_true rfl) ⟨Nat.le_refl 0, Nat.le_refl 0⟩ dX4_turn_134 ?_
        have b8 := hSm.n
        refine r_ifP_eq (tgt := 160) C (by decide) dX4_turn_137 (fun c9 => ?_) (fun c9 => ?_)
        · refine r_aload_n C rfl (lv_at hl 3 rfl) dX4_turn_160 ?_
          refine r_get C (ci := 4) (v := .ref (mb + 3)) rfl uin4 hm.o 4 (by decide) q_789 rfl rfl dX4_turn_161 ?_
          refine r_iload_n C rfl (lv_at hl 2 rfl) dX4_turn_164 ?_
          refine r_sPi (rest := []) C (k_X4_isSpace l g (mb + 3) F hSm (tuS r F) (by omega)) s_RX4_94 htr hl.1 rfl ⟨by decide, by decide⟩ rfl (Nat.le_of_ble_eq_true rfl) ⟨Nat.le_refl 0, Nat.le_refl 0⟩ dX4_turn_165 ?_
          have b10 := hSm.n
          refine r_ifP_eq (tgt := 193) C (by decide) dX4_turn_168 (fun c11 => ?_) (fun c11 => ?_)
          · have eF : tuF r F = F := (by unfold tuF; (repeat' split) <;> first | (exfalso; omega) | rfl)
            exact r_vretH C rfl hF (by rw [eF]; exact ⟨M, AP, (by repeat first | exact hMb | exact rg_up hMb (by decide) | refine rg_up ?_ (by omega) | refine rg_setL ?_ (by omega)), (by first | exact h0 | rfl | omega), (by first | exact h1 | rfl | omega), (by first | exact h2 | rfl | omega), hm, htr, hap⟩) dX4_turn_193
          · refine r_aload_n C rfl (lv_at hl 3 rfl) dX4_turn_171 ?_
            refine r_get C (ci := 4) (v := .ref (mb + 3)) rfl uin4 hm.o 4 (by decide) q_789 rfl rfl dX4_turn_172 ?_
            refine r_iload_n C rfl (lv_at hl 2 rfl) dX4_turn_175 ?_
            refine r_iload_n C rfl (lv_at hl 1 rfl) dX4_turn_176 ?_
            refine r_sPi (rest := []) C (k_X4_canTrim l g (mb + 3) F hSm (tuS r F) ((r / 128) % 40) ((tuS r F).toNat) (((r / 128) % 40).toNat) (by omega) (by omega) (by omega) (by omega)) s_RX4_145 htr hl.1 rfl ⟨by decide, by decide⟩ rfl (Nat.le_of_ble_eq_true rfl) ⟨Nat.le_refl 0, Nat.le_refl 0⟩ dX4_turn_177 ?_
            refine r_ifP_eq (tgt := 193) C (by decide) dX4_turn_180 (fun c12 => ?_) (fun c12 => ?_)
            · have eF : tuF r F = F := (by unfold tuF; (repeat' split) <;> first | (exfalso; omega) | rfl)
              exact r_vretH C rfl hF (by rw [eF]; exact ⟨M, AP, (by repeat first | exact hMb | exact rg_up hMb (by decide) | refine rg_up ?_ (by omega) | refine rg_setL ?_ (by omega)), (by first | exact h0 | rfl | omega), (by first | exact h1 | rfl | omega), (by first | exact h2 | rfl | omega), hm, htr, hap⟩) dX4_turn_193
            · refine r_aload_n C rfl (lv_at hl 3 rfl) dX4_turn_183 ?_
              refine r_get C (ci := 4) (v := .ref (mb + 3)) rfl uin4 hm.o 4 (by decide) q_789 rfl rfl dX4_turn_184 ?_
              refine r_iload_n C rfl (lv_at hl 2 rfl) dX4_turn_187 ?_
              refine r_iload_n C rfl (lv_at hl 1 rfl) dX4_turn_188 ?_
              refine r_sHi (rest := []) C (k_X4_trimOn l g (mb + 3) F T hJ (by omega) (tuS r F) ((tuS r F).toNat) (by omega) (by omega) (by omega) ((r / 128) % 40) (((r / 128) % 40).toNat) (by omega) (by omega) (by omega)) s_RX4_149 htr hF (fun _ h => Or.inr (Or.inl h)) hl.1 rfl ⟨by decide, by decide⟩ rfl (Nat.le_of_ble_eq_true rfl) ⟨Nat.le_refl 0, Nat.le_refl 0⟩ dX4_turn_189 (fun H13 locs13 h13 ho13 hz13 hF => ?_)
              have hm := hm.kept (ho13 _ (fun h => (by have h : _ = _ := h; omega)))
              have hap := hap.kept (ho13 _ (fun h => (by have h : _ = _ := h; omega)))
              have htr := h13
              refine r_pop C rfl dX4_turn_192 ?_
              have eF : tuF r F = trF F ((tuS r F).toNat) (((r / 128) % 40).toNat) := (by unfold tuF; (repeat' split) <;> first | (exfalso; omega) | rfl)
              exact r_vretH C rfl hF (by rw [eF]; exact ⟨M, AP, (by repeat first | exact hMb | exact rg_up hMb (by decide) | refine rg_up ?_ (by omega) | refine rg_setL ?_ (by omega)), (by first | exact h0 | rfl | omega), (by first | exact h1 | rfl | omega), (by first | exact h2 | rfl | omega), hm, htr, hap⟩) dX4_turn_193
        · refine r_iload C (lv_at hl 0 rfl) dX4_turn_140 ?_
          refine r_iconst C dX4_turn_142 ?_
          refine r_icmp_le (tgt := 160) C (by decide) (by omega) (by decide) dX4_turn_143 (fun c14 => ?_) (fun c14 => ?_)
          · refine r_aload_n C rfl (lv_at hl 3 rfl) dX4_turn_160 ?_
            refine r_get C (ci := 4) (v := .ref (mb + 3)) rfl uin4 hm.o 4 (by decide) q_789 rfl rfl dX4_turn_161 ?_
            refine r_iload_n C rfl (lv_at hl 2 rfl) dX4_turn_164 ?_
            refine r_sPi (rest := []) C (k_X4_isSpace l g (mb + 3) F hSm (tuS r F) (by omega)) s_RX4_94 htr hl.1 rfl ⟨by decide, by decide⟩ rfl (Nat.le_of_ble_eq_true rfl) ⟨Nat.le_refl 0, Nat.le_refl 0⟩ dX4_turn_165 ?_
            have b15 := hSm.n
            refine r_ifP_eq (tgt := 193) C (by decide) dX4_turn_168 (fun c16 => ?_) (fun c16 => ?_)
            · have eF : tuF r F = F := (by unfold tuF; (repeat' split) <;> first | (exfalso; omega) | rfl)
              exact r_vretH C rfl hF (by rw [eF]; exact ⟨M, AP, (by repeat first | exact hMb | exact rg_up hMb (by decide) | refine rg_up ?_ (by omega) | refine rg_setL ?_ (by omega)), (by first | exact h0 | rfl | omega), (by first | exact h1 | rfl | omega), (by first | exact h2 | rfl | omega), hm, htr, hap⟩) dX4_turn_193
            · refine r_aload_n C rfl (lv_at hl 3 rfl) dX4_turn_171 ?_
              refine r_get C (ci := 4) (v := .ref (mb + 3)) rfl uin4 hm.o 4 (by decide) q_789 rfl rfl dX4_turn_172 ?_
              refine r_iload_n C rfl (lv_at hl 2 rfl) dX4_turn_175 ?_
              refine r_iload_n C rfl (lv_at hl 1 rfl) dX4_turn_176 ?_
              refine r_sPi (rest := []) C (k_X4_canTrim l g (mb + 3) F hSm (tuS r F) ((r / 128) % 40) ((tuS r F).toNat) (((r / 128) % 40).toNat) (by omega) (by omega) (by omega) (by omega)) s_RX4_145 htr hl.1 rfl ⟨by decide, by decide⟩ rfl (Nat.le_of_ble_eq_true rfl) ⟨Nat.le_refl 0, Nat.le_refl 0⟩ dX4_turn_177 ?_
              refine r_ifP_eq (tgt := 193) C (by decide) dX4_turn_180 (fun c17 => ?_) (fun c17 => ?_)
              · have eF : tuF r F = F := (by unfold tuF; (repeat' split) <;> first | (exfalso; omega) | rfl)
                exact r_vretH C rfl hF (by rw [eF]; exact ⟨M, AP, (by repeat first | exact hMb | exact rg_up hMb (by decide) | refine rg_up ?_ (by omega) | refine rg_setL ?_ (by omega)), (by first | exact h0 | rfl | omega), (by first | exact h1 | rfl | omega), (by first | exact h2 | rfl | omega), hm, htr, hap⟩) dX4_turn_193
              · refine r_aload_n C rfl (lv_at hl 3 rfl) dX4_turn_183 ?_
                refine r_get C (ci := 4) (v := .ref (mb + 3)) rfl uin4 hm.o 4 (by decide) q_789 rfl rfl dX4_turn_184 ?_
                refine r_iload_n C rfl (lv_at hl 2 rfl) dX4_turn_187 ?_
                refine r_iload_n C rfl (lv_at hl 1 rfl) dX4_turn_188 ?_
                refine r_sHi (rest := []) C (k_X4_trimOn l g (mb + 3) F T hJ (by omega) (tuS r F) ((tuS r F).toNat) (by omega) (by omega) (by omega) ((r / 128) % 40) (((r / 128) % 40).toNat) (by omega) (by omega) (by omega)) s_RX4_149 htr hF (fun _ h => Or.inr (Or.inl h)) hl.1 rfl ⟨by decide, by decide⟩ rfl (Nat.le_of_ble_eq_true rfl) ⟨Nat.le_refl 0, Nat.le_refl 0⟩ dX4_turn_189 (fun H18 locs18 h18 ho18 hz18 hF => ?_)
                have hm := hm.kept (ho18 _ (fun h => (by have h : _ = _ := h; omega)))
                have hap := hap.kept (ho18 _ (fun h => (by have h : _ = _ := h; omega)))
                have htr := h18
                refine r_pop C rfl dX4_turn_192 ?_
                have eF : tuF r F = trF F ((tuS r F).toNat) (((r / 128) % 40).toNat) := (by unfold tuF; (repeat' split) <;> first | (exfalso; omega) | rfl)
                exact r_vretH C rfl hF (by rw [eF]; exact ⟨M, AP, (by repeat first | exact hMb | exact rg_up hMb (by decide) | refine rg_up ?_ (by omega) | refine rg_setL ?_ (by omega)), (by first | exact h0 | rfl | omega), (by first | exact h1 | rfl | omega), (by first | exact h2 | rfl | omega), hm, htr, hap⟩) dX4_turn_193
          · refine r_aload_n C rfl (lv_at hl 3 rfl) dX4_turn_146 ?_
            refine r_aload_n C rfl (lv_at hl 3 rfl) dX4_turn_147 ?_
            refine r_get C (ci := 4) (v := .ref (mb + 3)) rfl uin4 hm.o 4 (by decide) q_789 rfl rfl dX4_turn_148 ?_
            refine r_iload_n C rfl (lv_at hl 2 rfl) dX4_turn_151 ?_
            refine r_iload_n C rfl (lv_at hl 1 rfl) dX4_turn_152 ?_
            refine r_vHi (rest := []) C (k_X4_writeOn l g mb M hMb (mb + 3) F z0 T (by omega) hJ (by omega) (tuS r F) ((tuS r F).toNat) (by omega) (by omega) (by omega) ((r / 128) % 40) (((r / 128) % 40).toNat) (by omega) (by omega)) s_RX4_128 ⟨hm, htr⟩ hF (fun _ h => by rcases h with h | h; exact Or.inl h; exact Or.inr (Or.inl h)) (recv C (ci := 4) rfl hm.o) hl.1 rfl ⟨by decide, by decide⟩ rfl (Nat.le_of_ble_eq_true rfl) ⟨Nat.le_refl 0, Nat.le_refl 0⟩ dX4_turn_153 (fun H21 locs21 h21 ho21 hz21 hF => ?_)
            have hap := hap.kept (ho21 _ (fun h => (by rcases h with h | h <;> omega)))
            obtain ⟨hm, htr⟩ := h21
            have b19 := wrR_b F ((tuS r F).toNat) (((r / 128) % 40).toNat)
            have b20 := wrL_5 hSm ((tuS r F).toNat) (((r / 128) % 40).toNat)
            refine r_pop C rfl dX4_turn_156 ?_
            refine r_goto (tgt := 193) C (by decide) dX4_turn_157 ?_
            have eF : tuF r F = wrF F ((tuS r F).toNat) (((r / 128) % 40).toNat) := (by unfold tuF; (repeat' split) <;> first | (exfalso; omega) | rfl)
            exact r_vretH C rfl hF (by rw [eF]; exact ⟨setL M (wrL F ((tuS r F).toNat) (((r / 128) % 40).toNat)), AP, (by repeat first | exact hMb | exact rg_up hMb (by decide) | refine rg_up ?_ (by omega) | refine rg_setL ?_ (by omega)), (by rw [setL_k _ _ (by omega)] <;> omega), (by rw [setL_k _ _ (by omega)] <;> omega), (by rw [setL_k _ _ (by omega)] <;> omega), hm, htr, hap⟩) dX4_turn_193
      · refine r_aload_n C rfl (lv_at hl 3 rfl) dX4_turn_108 ?_
        refine r_aload_n C rfl (lv_at hl 3 rfl) dX4_turn_109 ?_
        refine r_get C (ci := 4) (v := .ref (mb + 3)) rfl uin4 hm.o 4 (by decide) q_789 rfl rfl dX4_turn_110 ?_
        refine r_iload_n C rfl (lv_at hl 2 rfl) dX4_turn_113 ?_
        refine r_iload_n C rfl (lv_at hl 4 rfl) dX4_turn_114 ?_
        refine r_sipush C (by decide) dX4_turn_115 ?_
        refine r_idiv C (by omega) (by omega) dX4_turn_118 ?_
        refine r_bipush C (by decide) dX4_turn_119 ?_
        refine r_irem C (by omega) (by omega) dX4_turn_121 ?_
        refine r_vHi (rest := []) C (k_X4_doesFloor l g mb M (mb + 3) F T (by omega) hJ (by omega) (tuS r F) ((r / 128) % 20) ((tuS r F).toNat) (by omega) (by omega) (by omega)) s_RX4_152 ⟨hm, htr⟩ hF (fun _ h => by rcases h with h | h; exact Or.inl h; exact Or.inr (Or.inl h)) (recv C (ci := 4) rfl hm.o) hl.1 rfl ⟨by decide, by decide⟩ rfl (Nat.le_of_ble_eq_true rfl) ⟨Nat.le_refl 0, Nat.le_refl 0⟩ dX4_turn_122 (fun H22 locs22 h22 ho22 hz22 hF => ?_)
        have hap := hap.kept (ho22 _ (fun h => (by rcases h with h | h <;> omega)))
        obtain ⟨hm, htr⟩ := h22
        refine r_pop C rfl dX4_turn_125 ?_
        refine r_goto (tgt := 193) C (by decide) dX4_turn_126 ?_
        have eF : tuF r F = if whyFl F (tuS r F) ((tuS r F).toNat) ((r / 128) % 20) = 0 then up F (2 + 52 * ((tuS r F).toNat) + 0) ((r / 128) % 20) else F := (by unfold tuF; (repeat' split) <;> first | (exfalso; omega) | rfl)
        exact r_vretH C rfl hF (by rw [eF]; exact ⟨M, AP, (by repeat first | exact hMb | exact rg_up hMb (by decide) | refine rg_up ?_ (by omega) | refine rg_setL ?_ (by omega)), (by first | exact h0 | rfl | omega), (by first | exact h1 | rfl | omega), (by first | exact h2 | rfl | omega), hm, htr, hap⟩) dX4_turn_193
    · refine r_aload_n C rfl (lv_at hl 3 rfl) dX4_turn_45 ?_
      refine r_get C (ci := 4) (v := .ref (mb + 3)) rfl uin4 hm.o 4 (by decide) q_789 rfl rfl dX4_turn_46 ?_
      refine r_iload_n C rfl (lv_at hl 4 rfl) dX4_turn_49 ?_
      refine r_bipush C (by decide) dX4_turn_50 ?_
      refine r_idiv C (by omega) (by omega) dX4_turn_52 ?_
      refine r_bipush C (by decide) dX4_turn_53 ?_
      refine r_irem C (by omega) (by omega) dX4_turn_55 ?_
      refine r_bipush C (by decide) dX4_turn_56 ?_
      refine r_iload_n C rfl (lv_at hl 4 rfl) dX4_turn_58 ?_
      refine r_sipush C (by decide) dX4_turn_59 ?_
      refine r_idiv C (by omega) (by omega) dX4_turn_62 ?_
      refine r_bipush C (by decide) dX4_turn_63 ?_
      refine r_irem C (by omega) (by omega) dX4_turn_65 ?_
      refine r_iadd C dX4_turn_66 ?_
      refine r_sPi (rest := []) C (k_X4_whyNotMake l g (mb + 3) F hSm hZ ((r / 16) % 16) (16 + ((r / 256) % 40)) (by omega) (by omega)) s_RX4_135 htr hl.1 rfl ⟨by decide, by decide⟩ rfl (Nat.le_of_ble_eq_true rfl) ⟨Nat.le_refl 0, Nat.le_refl 0⟩ dX4_turn_67 ?_
      have b23 := whyMk_b F ((r / 16) % 16) (16 + ((r / 256) % 40))
      refine r_if_ne (tgt := 193) C (by decide) (by omega) dX4_turn_70 (fun c24 => ?_) (fun c24 => ?_)
      · have eF : tuF r F = F := (by unfold tuF; (repeat' split) <;> first | (exfalso; omega) | rfl)
        exact r_vretH C rfl hF (by rw [eF]; exact ⟨M, AP, (by repeat first | exact hMb | exact rg_up hMb (by decide) | refine rg_up ?_ (by omega) | refine rg_setL ?_ (by omega)), (by first | exact h0 | rfl | omega), (by first | exact h1 | rfl | omega), (by first | exact h2 | rfl | omega), hm, htr, hap⟩) dX4_turn_193
      · have h5F : F 0 < 5 := (whyMk_0 hn5.2 (show whyMk F (r / 16 % 16) (16 + r / 256 % 40) = 0 by omega)).2.1
        refine r_aload_n C rfl (lv_at hl 3 rfl) dX4_turn_73 ?_
        refine r_get C (ci := 4) (v := .ref (mb + 3)) rfl uin4 hm.o 4 (by decide) q_789 rfl rfl dX4_turn_74 ?_
        refine r_iload_n C rfl (lv_at hl 4 rfl) dX4_turn_77 ?_
        refine r_bipush C (by decide) dX4_turn_78 ?_
        refine r_idiv C (by omega) (by omega) dX4_turn_80 ?_
        refine r_bipush C (by decide) dX4_turn_81 ?_
        refine r_irem C (by omega) (by omega) dX4_turn_83 ?_
        refine r_bipush C (by decide) dX4_turn_84 ?_
        refine r_iload_n C rfl (lv_at hl 4 rfl) dX4_turn_86 ?_
        refine r_sipush C (by decide) dX4_turn_87 ?_
        refine r_idiv C (by omega) (by omega) dX4_turn_90 ?_
        refine r_bipush C (by decide) dX4_turn_91 ?_
        refine r_irem C (by omega) (by omega) dX4_turn_93 ?_
        refine r_iadd C dX4_turn_94 ?_
        refine r_sHi (rest := []) C (k_X4_makeOn l g (mb + 3) F T hJ (by omega) ((r / 16) % 16) (16 + ((r / 256) % 40)) (by omega)) s_RX4_138 htr hF (fun _ h => Or.inr (Or.inl h)) hl.1 rfl ⟨by decide, by decide⟩ rfl (Nat.le_of_ble_eq_true rfl) ⟨Nat.le_refl 0, Nat.le_refl 0⟩ dX4_turn_95 (fun H25 locs25 h25 ho25 hz25 hF => ?_)
        have hm := hm.kept (ho25 _ (fun h => (by have h : _ = _ := h; omega)))
        have hap := hap.kept (ho25 _ (fun h => (by have h : _ = _ := h; omega)))
        have htr := h25
        refine r_pop C rfl dX4_turn_98 ?_
        refine r_goto (tgt := 193) C (by decide) dX4_turn_99 ?_
        have eF : tuF r F = mkF F ((r / 16) % 16) (16 + ((r / 256) % 40)) := (by unfold tuF; (repeat' split) <;> first | (exfalso; omega) | rfl)
        exact r_vretH C rfl hF (by rw [eF]; exact ⟨M, AP, (by repeat first | exact hMb | exact rg_up hMb (by decide) | refine rg_up ?_ (by omega) | refine rg_setL ?_ (by omega)), (by first | exact h0 | rfl | omega), (by first | exact h1 | rfl | omega), (by first | exact h2 | rfl | omega), hm, htr, hap⟩) dX4_turn_193
  · refine r_iconst C dX4_turn_13 ?_
    refine r_goto (tgt := 23) C (by decide) dX4_turn_14 ?_
    refine r_irem C (by omega) (by omega) dX4_turn_23 ?_
    rw [show (r / 16) % 1 = tuS r F from (by unfold tuS; rw [if_pos (by omega)])]
    refine r_istore_n (lv' := [(2, .int (iI (tuS r F))), (0, .ref mb), (1, .int (iI r))]) C rfl hl (by decide) rfl dX4_turn_24 (fun ls hl => ?_)
    refine r_iload_n C rfl (lv_at hl 2 rfl) dX4_turn_25 ?_
    refine r_sipush C (by decide) dX4_turn_26 ?_
    refine r_idiv C (by omega) (by omega) dX4_turn_29 ?_
    refine r_bipush C (by decide) dX4_turn_30 ?_
    refine r_irem C (by omega) (by omega) dX4_turn_32 ?_
    refine r_istore_n (lv' := [(3, .int (iI ((r / 128) % 40))), (2, .int (iI (tuS r F))), (0, .ref mb), (1, .int (iI r))]) C rfl hl (by decide) rfl dX4_turn_33 (fun ls hl => ?_)
    refine r_iload_n C rfl (lv_at hl 3 rfl) dX4_turn_34 ?_
    refine r_bipush C (by decide) dX4_turn_35 ?_
    refine r_irem C (by omega) (by omega) dX4_turn_37 ?_
    refine r_istore (lv' := [(4, .int (iI (r % 16))), (3, .int (iI ((r / 128) % 40))), (2, .int (iI (tuS r F))), (0, .ref mb), (1, .int (iI r))]) C hl (by decide) rfl dX4_turn_38 (fun ls hl => ?_)
    refine r_iload C (lv_at hl 0 rfl) dX4_turn_40 ?_
    refine r_if_ne (tgt := 102) C (by decide) (by omega) dX4_turn_42 (fun c26 => ?_) (fun c26 => ?_)
    · refine r_iload C (lv_at hl 0 rfl) dX4_turn_102 ?_
      refine r_iconst C dX4_turn_104 ?_
      refine r_icmp_ne (tgt := 129) C (by decide) (by omega) (by decide) dX4_turn_105 (fun c27 => ?_) (fun c27 => ?_)
      · refine r_aload_n C rfl (lv_at hl 3 rfl) dX4_turn_129 ?_
        refine r_get C (ci := 4) (v := .ref (mb + 3)) rfl uin4 hm.o 4 (by decide) q_789 rfl rfl dX4_turn_130 ?_
        refine r_iload_n C rfl (lv_at hl 2 rfl) dX4_turn_133 ?_
        refine r_sPi (rest := []) C (k_X4_isSpace l g (mb + 3) F hSm (tuS r F) (by omega)) s_RX4_94 htr hl.1 rfl ⟨by decide, by decide⟩ rfl (Nat.le_of_ble_eq_true rfl) ⟨Nat.le_refl 0, Nat.le_refl 0⟩ dX4_turn_134 ?_
        have b28 := hSm.n
        refine r_ifP_eq (tgt := 160) C (by decide) dX4_turn_137 (fun c29 => ?_) (fun c29 => ?_)
        · refine r_aload_n C rfl (lv_at hl 3 rfl) dX4_turn_160 ?_
          refine r_get C (ci := 4) (v := .ref (mb + 3)) rfl uin4 hm.o 4 (by decide) q_789 rfl rfl dX4_turn_161 ?_
          refine r_iload_n C rfl (lv_at hl 2 rfl) dX4_turn_164 ?_
          refine r_sPi (rest := []) C (k_X4_isSpace l g (mb + 3) F hSm (tuS r F) (by omega)) s_RX4_94 htr hl.1 rfl ⟨by decide, by decide⟩ rfl (Nat.le_of_ble_eq_true rfl) ⟨Nat.le_refl 0, Nat.le_refl 0⟩ dX4_turn_165 ?_
          have b30 := hSm.n
          refine r_ifP_eq (tgt := 193) C (by decide) dX4_turn_168 (fun c31 => ?_) (fun c31 => ?_)
          · have eF : tuF r F = F := (by unfold tuF; (repeat' split) <;> first | (exfalso; omega) | rfl)
            exact r_vretH C rfl hF (by rw [eF]; exact ⟨M, AP, (by repeat first | exact hMb | exact rg_up hMb (by decide) | refine rg_up ?_ (by omega) | refine rg_setL ?_ (by omega)), (by first | exact h0 | rfl | omega), (by first | exact h1 | rfl | omega), (by first | exact h2 | rfl | omega), hm, htr, hap⟩) dX4_turn_193
          · refine r_aload_n C rfl (lv_at hl 3 rfl) dX4_turn_171 ?_
            refine r_get C (ci := 4) (v := .ref (mb + 3)) rfl uin4 hm.o 4 (by decide) q_789 rfl rfl dX4_turn_172 ?_
            refine r_iload_n C rfl (lv_at hl 2 rfl) dX4_turn_175 ?_
            refine r_iload_n C rfl (lv_at hl 1 rfl) dX4_turn_176 ?_
            refine r_sPi (rest := []) C (k_X4_canTrim l g (mb + 3) F hSm (tuS r F) ((r / 128) % 40) ((tuS r F).toNat) (((r / 128) % 40).toNat) (by omega) (by omega) (by omega) (by omega)) s_RX4_145 htr hl.1 rfl ⟨by decide, by decide⟩ rfl (Nat.le_of_ble_eq_true rfl) ⟨Nat.le_refl 0, Nat.le_refl 0⟩ dX4_turn_177 ?_
            refine r_ifP_eq (tgt := 193) C (by decide) dX4_turn_180 (fun c32 => ?_) (fun c32 => ?_)
            · have eF : tuF r F = F := (by unfold tuF; (repeat' split) <;> first | (exfalso; omega) | rfl)
              exact r_vretH C rfl hF (by rw [eF]; exact ⟨M, AP, (by repeat first | exact hMb | exact rg_up hMb (by decide) | refine rg_up ?_ (by omega) | refine rg_setL ?_ (by omega)), (by first | exact h0 | rfl | omega), (by first | exact h1 | rfl | omega), (by first | exact h2 | rfl | omega), hm, htr, hap⟩) dX4_turn_193
            · refine r_aload_n C rfl (lv_at hl 3 rfl) dX4_turn_183 ?_
              refine r_get C (ci := 4) (v := .ref (mb + 3)) rfl uin4 hm.o 4 (by decide) q_789 rfl rfl dX4_turn_184 ?_
              refine r_iload_n C rfl (lv_at hl 2 rfl) dX4_turn_187 ?_
              refine r_iload_n C rfl (lv_at hl 1 rfl) dX4_turn_188 ?_
              refine r_sHi (rest := []) C (k_X4_trimOn l g (mb + 3) F T hJ (by omega) (tuS r F) ((tuS r F).toNat) (by omega) (by omega) (by omega) ((r / 128) % 40) (((r / 128) % 40).toNat) (by omega) (by omega) (by omega)) s_RX4_149 htr hF (fun _ h => Or.inr (Or.inl h)) hl.1 rfl ⟨by decide, by decide⟩ rfl (Nat.le_of_ble_eq_true rfl) ⟨Nat.le_refl 0, Nat.le_refl 0⟩ dX4_turn_189 (fun H33 locs33 h33 ho33 hz33 hF => ?_)
              have hm := hm.kept (ho33 _ (fun h => (by have h : _ = _ := h; omega)))
              have hap := hap.kept (ho33 _ (fun h => (by have h : _ = _ := h; omega)))
              have htr := h33
              refine r_pop C rfl dX4_turn_192 ?_
              have eF : tuF r F = trF F ((tuS r F).toNat) (((r / 128) % 40).toNat) := (by unfold tuF; (repeat' split) <;> first | (exfalso; omega) | rfl)
              exact r_vretH C rfl hF (by rw [eF]; exact ⟨M, AP, (by repeat first | exact hMb | exact rg_up hMb (by decide) | refine rg_up ?_ (by omega) | refine rg_setL ?_ (by omega)), (by first | exact h0 | rfl | omega), (by first | exact h1 | rfl | omega), (by first | exact h2 | rfl | omega), hm, htr, hap⟩) dX4_turn_193
        · refine r_iload C (lv_at hl 0 rfl) dX4_turn_140 ?_
          refine r_iconst C dX4_turn_142 ?_
          refine r_icmp_le (tgt := 160) C (by decide) (by omega) (by decide) dX4_turn_143 (fun c34 => ?_) (fun c34 => ?_)
          · refine r_aload_n C rfl (lv_at hl 3 rfl) dX4_turn_160 ?_
            refine r_get C (ci := 4) (v := .ref (mb + 3)) rfl uin4 hm.o 4 (by decide) q_789 rfl rfl dX4_turn_161 ?_
            refine r_iload_n C rfl (lv_at hl 2 rfl) dX4_turn_164 ?_
            refine r_sPi (rest := []) C (k_X4_isSpace l g (mb + 3) F hSm (tuS r F) (by omega)) s_RX4_94 htr hl.1 rfl ⟨by decide, by decide⟩ rfl (Nat.le_of_ble_eq_true rfl) ⟨Nat.le_refl 0, Nat.le_refl 0⟩ dX4_turn_165 ?_
            have b35 := hSm.n
            refine r_ifP_eq (tgt := 193) C (by decide) dX4_turn_168 (fun c36 => ?_) (fun c36 => ?_)
            · have eF : tuF r F = F := (by unfold tuF; (repeat' split) <;> first | (exfalso; omega) | rfl)
              exact r_vretH C rfl hF (by rw [eF]; exact ⟨M, AP, (by repeat first | exact hMb | exact rg_up hMb (by decide) | refine rg_up ?_ (by omega) | refine rg_setL ?_ (by omega)), (by first | exact h0 | rfl | omega), (by first | exact h1 | rfl | omega), (by first | exact h2 | rfl | omega), hm, htr, hap⟩) dX4_turn_193
            · refine r_aload_n C rfl (lv_at hl 3 rfl) dX4_turn_171 ?_
              refine r_get C (ci := 4) (v := .ref (mb + 3)) rfl uin4 hm.o 4 (by decide) q_789 rfl rfl dX4_turn_172 ?_
              refine r_iload_n C rfl (lv_at hl 2 rfl) dX4_turn_175 ?_
              refine r_iload_n C rfl (lv_at hl 1 rfl) dX4_turn_176 ?_
              refine r_sPi (rest := []) C (k_X4_canTrim l g (mb + 3) F hSm (tuS r F) ((r / 128) % 40) ((tuS r F).toNat) (((r / 128) % 40).toNat) (by omega) (by omega) (by omega) (by omega)) s_RX4_145 htr hl.1 rfl ⟨by decide, by decide⟩ rfl (Nat.le_of_ble_eq_true rfl) ⟨Nat.le_refl 0, Nat.le_refl 0⟩ dX4_turn_177 ?_
              refine r_ifP_eq (tgt := 193) C (by decide) dX4_turn_180 (fun c37 => ?_) (fun c37 => ?_)
              · have eF : tuF r F = F := (by unfold tuF; (repeat' split) <;> first | (exfalso; omega) | rfl)
                exact r_vretH C rfl hF (by rw [eF]; exact ⟨M, AP, (by repeat first | exact hMb | exact rg_up hMb (by decide) | refine rg_up ?_ (by omega) | refine rg_setL ?_ (by omega)), (by first | exact h0 | rfl | omega), (by first | exact h1 | rfl | omega), (by first | exact h2 | rfl | omega), hm, htr, hap⟩) dX4_turn_193
              · refine r_aload_n C rfl (lv_at hl 3 rfl) dX4_turn_183 ?_
                refine r_get C (ci := 4) (v := .ref (mb + 3)) rfl uin4 hm.o 4 (by decide) q_789 rfl rfl dX4_turn_184 ?_
                refine r_iload_n C rfl (lv_at hl 2 rfl) dX4_turn_187 ?_
                refine r_iload_n C rfl (lv_at hl 1 rfl) dX4_turn_188 ?_
                refine r_sHi (rest := []) C (k_X4_trimOn l g (mb + 3) F T hJ (by omega) (tuS r F) ((tuS r F).toNat) (by omega) (by omega) (by omega) ((r / 128) % 40) (((r / 128) % 40).toNat) (by omega) (by omega) (by omega)) s_RX4_149 htr hF (fun _ h => Or.inr (Or.inl h)) hl.1 rfl ⟨by decide, by decide⟩ rfl (Nat.le_of_ble_eq_true rfl) ⟨Nat.le_refl 0, Nat.le_refl 0⟩ dX4_turn_189 (fun H38 locs38 h38 ho38 hz38 hF => ?_)
                have hm := hm.kept (ho38 _ (fun h => (by have h : _ = _ := h; omega)))
                have hap := hap.kept (ho38 _ (fun h => (by have h : _ = _ := h; omega)))
                have htr := h38
                refine r_pop C rfl dX4_turn_192 ?_
                have eF : tuF r F = trF F ((tuS r F).toNat) (((r / 128) % 40).toNat) := (by unfold tuF; (repeat' split) <;> first | (exfalso; omega) | rfl)
                exact r_vretH C rfl hF (by rw [eF]; exact ⟨M, AP, (by repeat first | exact hMb | exact rg_up hMb (by decide) | refine rg_up ?_ (by omega) | refine rg_setL ?_ (by omega)), (by first | exact h0 | rfl | omega), (by first | exact h1 | rfl | omega), (by first | exact h2 | rfl | omega), hm, htr, hap⟩) dX4_turn_193
          · refine r_aload_n C rfl (lv_at hl 3 rfl) dX4_turn_146 ?_
            refine r_aload_n C rfl (lv_at hl 3 rfl) dX4_turn_147 ?_
            refine r_get C (ci := 4) (v := .ref (mb + 3)) rfl uin4 hm.o 4 (by decide) q_789 rfl rfl dX4_turn_148 ?_
            refine r_iload_n C rfl (lv_at hl 2 rfl) dX4_turn_151 ?_
            refine r_iload_n C rfl (lv_at hl 1 rfl) dX4_turn_152 ?_
            refine r_vHi (rest := []) C (k_X4_writeOn l g mb M hMb (mb + 3) F z0 T (by omega) hJ (by omega) (tuS r F) ((tuS r F).toNat) (by omega) (by omega) (by omega) ((r / 128) % 40) (((r / 128) % 40).toNat) (by omega) (by omega)) s_RX4_128 ⟨hm, htr⟩ hF (fun _ h => by rcases h with h | h; exact Or.inl h; exact Or.inr (Or.inl h)) (recv C (ci := 4) rfl hm.o) hl.1 rfl ⟨by decide, by decide⟩ rfl (Nat.le_of_ble_eq_true rfl) ⟨Nat.le_refl 0, Nat.le_refl 0⟩ dX4_turn_153 (fun H41 locs41 h41 ho41 hz41 hF => ?_)
            have hap := hap.kept (ho41 _ (fun h => (by rcases h with h | h <;> omega)))
            obtain ⟨hm, htr⟩ := h41
            have b39 := wrR_b F ((tuS r F).toNat) (((r / 128) % 40).toNat)
            have b40 := wrL_5 hSm ((tuS r F).toNat) (((r / 128) % 40).toNat)
            refine r_pop C rfl dX4_turn_156 ?_
            refine r_goto (tgt := 193) C (by decide) dX4_turn_157 ?_
            have eF : tuF r F = wrF F ((tuS r F).toNat) (((r / 128) % 40).toNat) := (by unfold tuF; (repeat' split) <;> first | (exfalso; omega) | rfl)
            exact r_vretH C rfl hF (by rw [eF]; exact ⟨setL M (wrL F ((tuS r F).toNat) (((r / 128) % 40).toNat)), AP, (by repeat first | exact hMb | exact rg_up hMb (by decide) | refine rg_up ?_ (by omega) | refine rg_setL ?_ (by omega)), (by rw [setL_k _ _ (by omega)] <;> omega), (by rw [setL_k _ _ (by omega)] <;> omega), (by rw [setL_k _ _ (by omega)] <;> omega), hm, htr, hap⟩) dX4_turn_193
      · refine r_aload_n C rfl (lv_at hl 3 rfl) dX4_turn_108 ?_
        refine r_aload_n C rfl (lv_at hl 3 rfl) dX4_turn_109 ?_
        refine r_get C (ci := 4) (v := .ref (mb + 3)) rfl uin4 hm.o 4 (by decide) q_789 rfl rfl dX4_turn_110 ?_
        refine r_iload_n C rfl (lv_at hl 2 rfl) dX4_turn_113 ?_
        refine r_iload_n C rfl (lv_at hl 4 rfl) dX4_turn_114 ?_
        refine r_sipush C (by decide) dX4_turn_115 ?_
        refine r_idiv C (by omega) (by omega) dX4_turn_118 ?_
        refine r_bipush C (by decide) dX4_turn_119 ?_
        refine r_irem C (by omega) (by omega) dX4_turn_121 ?_
        refine r_vHi (rest := []) C (k_X4_doesFloor l g mb M (mb + 3) F T (by omega) hJ (by omega) (tuS r F) ((r / 128) % 20) ((tuS r F).toNat) (by omega) (by omega) (by omega)) s_RX4_152 ⟨hm, htr⟩ hF (fun _ h => by rcases h with h | h; exact Or.inl h; exact Or.inr (Or.inl h)) (recv C (ci := 4) rfl hm.o) hl.1 rfl ⟨by decide, by decide⟩ rfl (Nat.le_of_ble_eq_true rfl) ⟨Nat.le_refl 0, Nat.le_refl 0⟩ dX4_turn_122 (fun H42 locs42 h42 ho42 hz42 hF => ?_)
        have hap := hap.kept (ho42 _ (fun h => (by rcases h with h | h <;> omega)))
        obtain ⟨hm, htr⟩ := h42
        refine r_pop C rfl dX4_turn_125 ?_
        refine r_goto (tgt := 193) C (by decide) dX4_turn_126 ?_
        have eF : tuF r F = if whyFl F (tuS r F) ((tuS r F).toNat) ((r / 128) % 20) = 0 then up F (2 + 52 * ((tuS r F).toNat) + 0) ((r / 128) % 20) else F := (by unfold tuF; (repeat' split) <;> first | (exfalso; omega) | rfl)
        exact r_vretH C rfl hF (by rw [eF]; exact ⟨M, AP, (by repeat first | exact hMb | exact rg_up hMb (by decide) | refine rg_up ?_ (by omega) | refine rg_setL ?_ (by omega)), (by first | exact h0 | rfl | omega), (by first | exact h1 | rfl | omega), (by first | exact h2 | rfl | omega), hm, htr, hap⟩) dX4_turn_193
    · refine r_aload_n C rfl (lv_at hl 3 rfl) dX4_turn_45 ?_
      refine r_get C (ci := 4) (v := .ref (mb + 3)) rfl uin4 hm.o 4 (by decide) q_789 rfl rfl dX4_turn_46 ?_
      refine r_iload_n C rfl (lv_at hl 4 rfl) dX4_turn_49 ?_
      refine r_bipush C (by decide) dX4_turn_50 ?_
      refine r_idiv C (by omega) (by omega) dX4_turn_52 ?_
      refine r_bipush C (by decide) dX4_turn_53 ?_
      refine r_irem C (by omega) (by omega) dX4_turn_55 ?_
      refine r_bipush C (by decide) dX4_turn_56 ?_
      refine r_iload_n C rfl (lv_at hl 4 rfl) dX4_turn_58 ?_
      refine r_sipush C (by decide) dX4_turn_59 ?_
      refine r_idiv C (by omega) (by omega) dX4_turn_62 ?_
      refine r_bipush C (by decide) dX4_turn_63 ?_
      refine r_irem C (by omega) (by omega) dX4_turn_65 ?_
      refine r_iadd C dX4_turn_66 ?_
      refine r_sPi (rest := []) C (k_X4_whyNotMake l g (mb + 3) F hSm hZ ((r / 16) % 16) (16 + ((r / 256) % 40)) (by omega) (by omega)) s_RX4_135 htr hl.1 rfl ⟨by decide, by decide⟩ rfl (Nat.le_of_ble_eq_true rfl) ⟨Nat.le_refl 0, Nat.le_refl 0⟩ dX4_turn_67 ?_
      have b43 := whyMk_b F ((r / 16) % 16) (16 + ((r / 256) % 40))
      refine r_if_ne (tgt := 193) C (by decide) (by omega) dX4_turn_70 (fun c44 => ?_) (fun c44 => ?_)
      · have eF : tuF r F = F := (by unfold tuF; (repeat' split) <;> first | (exfalso; omega) | rfl)
        exact r_vretH C rfl hF (by rw [eF]; exact ⟨M, AP, (by repeat first | exact hMb | exact rg_up hMb (by decide) | refine rg_up ?_ (by omega) | refine rg_setL ?_ (by omega)), (by first | exact h0 | rfl | omega), (by first | exact h1 | rfl | omega), (by first | exact h2 | rfl | omega), hm, htr, hap⟩) dX4_turn_193
      · have h5F : F 0 < 5 := (whyMk_0 hn5.2 (show whyMk F (r / 16 % 16) (16 + r / 256 % 40) = 0 by omega)).2.1
        refine r_aload_n C rfl (lv_at hl 3 rfl) dX4_turn_73 ?_
        refine r_get C (ci := 4) (v := .ref (mb + 3)) rfl uin4 hm.o 4 (by decide) q_789 rfl rfl dX4_turn_74 ?_
        refine r_iload_n C rfl (lv_at hl 4 rfl) dX4_turn_77 ?_
        refine r_bipush C (by decide) dX4_turn_78 ?_
        refine r_idiv C (by omega) (by omega) dX4_turn_80 ?_
        refine r_bipush C (by decide) dX4_turn_81 ?_
        refine r_irem C (by omega) (by omega) dX4_turn_83 ?_
        refine r_bipush C (by decide) dX4_turn_84 ?_
        refine r_iload_n C rfl (lv_at hl 4 rfl) dX4_turn_86 ?_
        refine r_sipush C (by decide) dX4_turn_87 ?_
        refine r_idiv C (by omega) (by omega) dX4_turn_90 ?_
        refine r_bipush C (by decide) dX4_turn_91 ?_
        refine r_irem C (by omega) (by omega) dX4_turn_93 ?_
        refine r_iadd C dX4_turn_94 ?_
        refine r_sHi (rest := []) C (k_X4_makeOn l g (mb + 3) F T hJ (by omega) ((r / 16) % 16) (16 + ((r / 256) % 40)) (by omega)) s_RX4_138 htr hF (fun _ h => Or.inr (Or.inl h)) hl.1 rfl ⟨by decide, by decide⟩ rfl (Nat.le_of_ble_eq_true rfl) ⟨Nat.le_refl 0, Nat.le_refl 0⟩ dX4_turn_95 (fun H45 locs45 h45 ho45 hz45 hF => ?_)
        have hm := hm.kept (ho45 _ (fun h => (by have h : _ = _ := h; omega)))
        have hap := hap.kept (ho45 _ (fun h => (by have h : _ = _ := h; omega)))
        have htr := h45
        refine r_pop C rfl dX4_turn_98 ?_
        refine r_goto (tgt := 193) C (by decide) dX4_turn_99 ?_
        have eF : tuF r F = mkF F ((r / 16) % 16) (16 + ((r / 256) % 40)) := (by unfold tuF; (repeat' split) <;> first | (exfalso; omega) | rfl)
        exact r_vretH C rfl hF (by rw [eF]; exact ⟨M, AP, (by repeat first | exact hMb | exact rg_up hMb (by decide) | refine rg_up ?_ (by omega) | refine rg_setL ?_ (by omega)), (by first | exact h0 | rfl | omega), (by first | exact h1 | rfl | omega), (by first | exact h2 | rfl | omega), hm, htr, hap⟩) dX4_turn_193

set_option maxHeartbeats 4000000 in
theorem k_X4_command (l : Launch) (g : Gt) (mb : Nat) (a0 a1 a2 : Int) (F : Nat → Int) (T : Int) (hJ : J F z0 T) (h60 : 60 ≤ T) (hT : T ≤ 950000) (k x y v : Int) (hk : 0 ≤ k ∧ k ≤ 9) (hx : 0 ≤ x ∧ x ≤ 9) (hy : 0 ≤ y ∧ y ≤ 9) (hv : 0 ≤ v ∧ v ≤ 99) : CH l yX4_command cX4_command 6 (some .boolean) 9 207 g [.ref mb, .int (iI k), .int (iI x), .int (iI y), .int (iI v)] (mdC g mb a0 a1 a2 F) (some (.int (iI (coV k x y v F)))) (fun q => q = mb ∨ q = mb + 3 ∨ q = mb + 7) (mdC g mb a0 a1 a2 (coF k x y v F)) := by
  refine ch_of "LentRoomModel" (by decide) rfl (Nat.le_of_ble_eq_true rfl) ?_
  intro zp ze zs zm za zb zt zc ls C hP hF hl
  obtain ⟨M, AP, hMb, h0, h1, h2, hm, htr, hap⟩ := hP
  have hl : lv_has ls 6 [(0, .ref mb), (1, .int (iI k)), (2, .int (iI x)), (3, .int (iI y)), (4, .int (iI v))] := hl
  have hS := hJ.S
  have hSm : Sm F := hS.m (by omega)
  have hZ := hJ.Z
  have hn5 := hJ.n
  refine r_iload_n C rfl (lv_at hl 3 rfl) dX4_command_0 ?_
  refine r_if_ne (tgt := 8) C (by decide) (by omega) dX4_command_1 (fun c1 => ?_) (fun c1 => ?_)
  · refine r_iconst C dX4_command_8 ?_
    refine r_istore (lv' := [(5, .int (iI 0)), (0, .ref mb), (1, .int (iI k)), (2, .int (iI x)), (3, .int (iI y)), (4, .int (iI v))]) C hl (by decide) rfl dX4_command_9 (fun ls hl => ?_)
    refine r_iload_n C rfl (lv_at hl 2 rfl) dX4_command_11 ?_
    by_cases e2 : k = 1
    · refine r_tsIn (tgt := 64) C (by omega) 1 e2 (by decide) (by decide) rfl (by decide) dX4_command_12 ?_
      refine r_iload C (lv_at hl 0 rfl) dX4_command_64 ?_
      refine r_if_eq (tgt := 107) C (by decide) (by decide) dX4_command_66 (fun c3 => ?_) (fun c3 => ?_)
      · refine r_iconst C dX4_command_107 ?_
        have eF : coF k x y v F = F := (by unfold coF; (repeat' split) <;> first | (exfalso; omega) | rfl)
        exact r_iretH C rfl rfl (congrArg iI (by unfold coV; exact (pI_f (by unfold coD; omega)).symm)) hF (by rw [eF]; exact ⟨M, AP, (by repeat first | exact hMb | exact rg_up hMb (by decide) | refine rg_up ?_ (by omega) | refine rg_setL ?_ (by omega)), (by first | exact h0 | rfl | omega), (by first | exact h1 | rfl | omega), (by first | exact h2 | rfl | omega), hm, htr, hap⟩) dX4_command_108
      · exact absurd c3 (by decide)
    by_cases e4 : k = 2
    · refine r_tsIn (tgt := 109) C (by omega) 2 e4 (by decide) (by decide) rfl (by decide) dX4_command_12 ?_
      refine r_iload C (lv_at hl 0 rfl) dX4_command_109 ?_
      refine r_if_eq (tgt := 163) C (by decide) (by decide) dX4_command_111 (fun c5 => ?_) (fun c5 => ?_)
      · refine r_iconst C dX4_command_163 ?_
        have eF : coF k x y v F = F := (by unfold coF; (repeat' split) <;> first | (exfalso; omega) | rfl)
        exact r_iretH C rfl rfl (congrArg iI (by unfold coV; exact (pI_f (by unfold coD; omega)).symm)) hF (by rw [eF]; exact ⟨M, AP, (by repeat first | exact hMb | exact rg_up hMb (by decide) | refine rg_up ?_ (by omega) | refine rg_setL ?_ (by omega)), (by first | exact h0 | rfl | omega), (by first | exact h1 | rfl | omega), (by first | exact h2 | rfl | omega), hm, htr, hap⟩) dX4_command_164
      · exact absurd c5 (by decide)
    by_cases e6 : k = 3
    · refine r_tsIn (tgt := 165) C (by omega) 3 e6 (by decide) (by decide) rfl (by decide) dX4_command_12 ?_
      refine r_iload C (lv_at hl 0 rfl) dX4_command_165 ?_
      refine r_if_eq (tgt := 188) C (by decide) (by decide) dX4_command_167 (fun c7 => ?_) (fun c7 => ?_)
      · refine r_iconst C dX4_command_188 ?_
        have eF : coF k x y v F = F := (by unfold coF; (repeat' split) <;> first | (exfalso; omega) | rfl)
        exact r_iretH C rfl rfl (congrArg iI (by unfold coV; exact (pI_f (by unfold coD; omega)).symm)) hF (by rw [eF]; exact ⟨M, AP, (by repeat first | exact hMb | exact rg_up hMb (by decide) | refine rg_up ?_ (by omega) | refine rg_setL ?_ (by omega)), (by first | exact h0 | rfl | omega), (by first | exact h1 | rfl | omega), (by first | exact h2 | rfl | omega), hm, htr, hap⟩) dX4_command_189
      · exact absurd c7 (by decide)
    by_cases e8 : k = 4
    · refine r_tsIn (tgt := 190) C (by omega) 4 e8 (by decide) (by decide) rfl (by decide) dX4_command_12 ?_
      refine r_iload C (lv_at hl 0 rfl) dX4_command_190 ?_
      refine r_if_eq (tgt := 226) C (by decide) (by decide) dX4_command_192 (fun c9 => ?_) (fun c9 => ?_)
      · refine r_iconst C dX4_command_226 ?_
        have eF : coF k x y v F = F := (by unfold coF; (repeat' split) <;> first | (exfalso; omega) | rfl)
        exact r_iretH C rfl rfl (congrArg iI (by unfold coV; exact (pI_f (by unfold coD; omega)).symm)) hF (by rw [eF]; exact ⟨M, AP, (by repeat first | exact hMb | exact rg_up hMb (by decide) | refine rg_up ?_ (by omega) | refine rg_setL ?_ (by omega)), (by first | exact h0 | rfl | omega), (by first | exact h1 | rfl | omega), (by first | exact h2 | rfl | omega), hm, htr, hap⟩) dX4_command_227
      · exact absurd c9 (by decide)
    by_cases e10 : k = 5
    · refine r_tsIn (tgt := 228) C (by omega) 5 e10 (by decide) (by decide) rfl (by decide) dX4_command_12 ?_
      refine r_aload_n C rfl (lv_at hl 1 rfl) dX4_command_228 ?_
      refine r_get C (ci := 4) (v := .ref (mb + 3)) rfl uin4 hm.o 4 (by decide) q_789 rfl rfl dX4_command_229 ?_
      refine r_bipush C (by decide) dX4_command_232 ?_
      refine r_iload_n C rfl (lv_at hl 3 rfl) dX4_command_234 ?_
      refine r_imul C dX4_command_235 ?_
      refine r_iload_n C rfl (lv_at hl 4 rfl) dX4_command_236 ?_
      refine r_iadd C dX4_command_237 ?_
      refine r_iload C (lv_at hl 5 rfl) dX4_command_238 ?_
      refine r_sPi (rest := []) C (k_X4_whyNotMake l g (mb + 3) F hSm hZ ((10 * x) + y) v (by omega) (by omega)) s_RX4_135 htr hl.1 rfl ⟨by decide, by decide⟩ rfl (Nat.le_of_ble_eq_true rfl) ⟨Nat.le_refl 0, Nat.le_refl 0⟩ dX4_command_240 ?_
      have b11 := whyMk_b F ((10 * x) + y) v
      refine r_if_ne (tgt := 268) C (by decide) (by omega) dX4_command_243 (fun c12 => ?_) (fun c12 => ?_)
      · refine r_iconst C dX4_command_268 ?_
        have eF : coF k x y v F = F := (by unfold coF; (repeat' split) <;> first | (exfalso; omega) | rfl)
        exact r_iretH C rfl rfl (congrArg iI (by unfold coV; exact (pI_f (by unfold coD; omega)).symm)) hF (by rw [eF]; exact ⟨M, AP, (by repeat first | exact hMb | exact rg_up hMb (by decide) | refine rg_up ?_ (by omega) | refine rg_setL ?_ (by omega)), (by first | exact h0 | rfl | omega), (by first | exact h1 | rfl | omega), (by first | exact h2 | rfl | omega), hm, htr, hap⟩) dX4_command_269
      · have h5F : F 0 < 5 := (whyMk_0 hn5.2 (show whyMk F (10 * x + y) v = 0 by omega)).2.1
        refine r_aload_n C rfl (lv_at hl 1 rfl) dX4_command_246 ?_
        refine r_get C (ci := 4) (v := .ref (mb + 3)) rfl uin4 hm.o 4 (by decide) q_789 rfl rfl dX4_command_247 ?_
        refine r_bipush C (by decide) dX4_command_250 ?_
        refine r_iload_n C rfl (lv_at hl 3 rfl) dX4_command_252 ?_
        refine r_imul C dX4_command_253 ?_
        refine r_iload_n C rfl (lv_at hl 4 rfl) dX4_command_254 ?_
        refine r_iadd C dX4_command_255 ?_
        refine r_iload C (lv_at hl 5 rfl) dX4_command_256 ?_
        refine r_sHi (rest := []) C (k_X4_makeOn l g (mb + 3) F T hJ (by omega) ((10 * x) + y) v (by omega)) s_RX4_138 htr hF (fun _ h => Or.inr (Or.inl h)) hl.1 rfl ⟨by decide, by decide⟩ rfl (Nat.le_of_ble_eq_true rfl) ⟨Nat.le_refl 0, Nat.le_refl 0⟩ dX4_command_258 (fun H13 locs13 h13 ho13 hz13 hF => ?_)
        have hm := hm.kept (ho13 _ (fun h => (by have h : _ = _ := h; omega)))
        have hap := hap.kept (ho13 _ (fun h => (by have h : _ = _ := h; omega)))
        have htr := h13
        refine r_if_lt (tgt := 268) C (by decide) (by omega) dX4_command_261 (fun c14 => ?_) (fun c14 => ?_)
        · exact absurd c14 (by omega)
        · refine r_iconst C dX4_command_264 ?_
          refine r_goto (tgt := 269) C (by decide) dX4_command_265 ?_
          have eF : coF k x y v F = mkF F ((10 * x) + y) v := (by unfold coF; (repeat' split) <;> first | (exfalso; omega) | rfl)
          exact r_iretH C rfl rfl (congrArg iI (by unfold coV; exact (pI_t (by unfold coD; omega)).symm)) hF (by rw [eF]; exact ⟨M, AP, (by repeat first | exact hMb | exact rg_up hMb (by decide) | refine rg_up ?_ (by omega) | refine rg_setL ?_ (by omega)), (by first | exact h0 | rfl | omega), (by first | exact h1 | rfl | omega), (by first | exact h2 | rfl | omega), hm, htr, hap⟩) dX4_command_269
    by_cases e15 : k = 6
    · refine r_tsIn (tgt := 270) C (by omega) 6 e15 (by decide) (by decide) rfl (by decide) dX4_command_12 ?_
      refine r_iload C (lv_at hl 0 rfl) dX4_command_270 ?_
      refine r_if_eq (tgt := 303) C (by decide) (by decide) dX4_command_272 (fun c16 => ?_) (fun c16 => ?_)
      · refine r_iconst C dX4_command_303 ?_
        have eF : coF k x y v F = F := (by unfold coF; (repeat' split) <;> first | (exfalso; omega) | rfl)
        exact r_iretH C rfl rfl (congrArg iI (by unfold coV; exact (pI_f (by unfold coD; omega)).symm)) hF (by rw [eF]; exact ⟨M, AP, (by repeat first | exact hMb | exact rg_up hMb (by decide) | refine rg_up ?_ (by omega) | refine rg_setL ?_ (by omega)), (by first | exact h0 | rfl | omega), (by first | exact h1 | rfl | omega), (by first | exact h2 | rfl | omega), hm, htr, hap⟩) dX4_command_304
      · exact absurd c16 (by decide)
    by_cases e17 : k = 7
    · refine r_tsIn (tgt := 305) C (by omega) 7 e17 (by decide) (by decide) rfl (by decide) dX4_command_12 ?_
      refine r_iload C (lv_at hl 0 rfl) dX4_command_305 ?_
      refine r_if_eq (tgt := 321) C (by decide) (by decide) dX4_command_307 (fun c18 => ?_) (fun c18 => ?_)
      · refine r_iconst C dX4_command_321 ?_
        have eF : coF k x y v F = F := (by unfold coF; (repeat' split) <;> first | (exfalso; omega) | rfl)
        exact r_iretH C rfl rfl (congrArg iI (by unfold coV; exact (pI_f (by unfold coD; omega)).symm)) hF (by rw [eF]; exact ⟨M, AP, (by repeat first | exact hMb | exact rg_up hMb (by decide) | refine rg_up ?_ (by omega) | refine rg_setL ?_ (by omega)), (by first | exact h0 | rfl | omega), (by first | exact h1 | rfl | omega), (by first | exact h2 | rfl | omega), hm, htr, hap⟩) dX4_command_322
      · exact absurd c18 (by decide)
    by_cases e19 : k = 8
    · refine r_tsIn (tgt := 358) C (by omega) 8 e19 (by decide) (by decide) rfl (by decide) dX4_command_12 ?_
      refine r_iload C (lv_at hl 0 rfl) dX4_command_358 ?_
      refine r_if_eq (tgt := 384) C (by decide) (by decide) dX4_command_360 (fun c20 => ?_) (fun c20 => ?_)
      · refine r_iconst C dX4_command_384 ?_
        have eF : coF k x y v F = F := (by unfold coF; (repeat' split) <;> first | (exfalso; omega) | rfl)
        exact r_iretH C rfl rfl (congrArg iI (by unfold coV; exact (pI_f (by unfold coD; omega)).symm)) hF (by rw [eF]; exact ⟨M, AP, (by repeat first | exact hMb | exact rg_up hMb (by decide) | refine rg_up ?_ (by omega) | refine rg_setL ?_ (by omega)), (by first | exact h0 | rfl | omega), (by first | exact h1 | rfl | omega), (by first | exact h2 | rfl | omega), hm, htr, hap⟩) dX4_command_385
      · exact absurd c20 (by decide)
    by_cases e21 : k = 9
    · refine r_tsIn (tgt := 386) C (by omega) 9 e21 (by decide) (by decide) rfl (by decide) dX4_command_12 ?_
      refine r_aload_n C rfl (lv_at hl 1 rfl) dX4_command_386 ?_
      refine r_get C (ci := 4) (v := .ref (mb + 3)) rfl uin4 hm.o 4 (by decide) q_789 rfl rfl dX4_command_387 ?_
      refine r_iload_n C rfl (lv_at hl 3 rfl) dX4_command_390 ?_
      refine r_sPi (rest := []) C (k_X4_isSpace l g (mb + 3) F hSm x (by omega)) s_RX4_94 htr hl.1 rfl ⟨by decide, by decide⟩ rfl (Nat.le_of_ble_eq_true rfl) ⟨Nat.le_refl 0, Nat.le_refl 0⟩ dX4_command_391 ?_
      have b22 := hSm.n
      refine r_ifP_eq (tgt := 429) C (by decide) dX4_command_394 (fun c23 => ?_) (fun c23 => ?_)
      · refine r_iconst C dX4_command_429 ?_
        have eF : coF k x y v F = F := (by unfold coF; (repeat' split) <;> first | (exfalso; omega) | rfl)
        exact r_iretH C rfl rfl (congrArg iI (by unfold coV; exact (pI_f (by unfold coD; omega)).symm)) hF (by rw [eF]; exact ⟨M, AP, (by repeat first | exact hMb | exact rg_up hMb (by decide) | refine rg_up ?_ (by omega) | refine rg_setL ?_ (by omega)), (by first | exact h0 | rfl | omega), (by first | exact h1 | rfl | omega), (by first | exact h2 | rfl | omega), hm, htr, hap⟩) dX4_command_430
      · refine r_aload_n C rfl (lv_at hl 1 rfl) dX4_command_397 ?_
        refine r_get C (ci := 4) (v := .ref (mb + 3)) rfl uin4 hm.o 4 (by decide) q_789 rfl rfl dX4_command_398 ?_
        refine r_iload_n C rfl (lv_at hl 4 rfl) dX4_command_401 ?_
        refine r_sPi (rest := []) C (k_X4_isSpace l g (mb + 3) F hSm y (by omega)) s_RX4_94 htr hl.1 rfl ⟨by decide, by decide⟩ rfl (Nat.le_of_ble_eq_true rfl) ⟨Nat.le_refl 0, Nat.le_refl 0⟩ dX4_command_402 ?_
        have b24 := hSm.n
        refine r_ifP_eq (tgt := 429) C (by decide) dX4_command_405 (fun c25 => ?_) (fun c25 => ?_)
        · refine r_iconst C dX4_command_429 ?_
          have eF : coF k x y v F = F := (by unfold coF; (repeat' split) <;> first | (exfalso; omega) | rfl)
          exact r_iretH C rfl rfl (congrArg iI (by unfold coV; exact (pI_f (by unfold coD; omega)).symm)) hF (by rw [eF]; exact ⟨M, AP, (by repeat first | exact hMb | exact rg_up hMb (by decide) | refine rg_up ?_ (by omega) | refine rg_setL ?_ (by omega)), (by first | exact h0 | rfl | omega), (by first | exact h1 | rfl | omega), (by first | exact h2 | rfl | omega), hm, htr, hap⟩) dX4_command_430
        · refine r_aload_n C rfl (lv_at hl 1 rfl) dX4_command_408 ?_
          refine r_get C (ci := 4) (v := .ref (mb + 3)) rfl uin4 hm.o 4 (by decide) q_789 rfl rfl dX4_command_409 ?_
          refine r_iload_n C rfl (lv_at hl 3 rfl) dX4_command_412 ?_
          refine r_bipush C (by decide) dX4_command_413 ?_
          refine r_iload_n C rfl (lv_at hl 4 rfl) dX4_command_415 ?_
          refine r_iadd C dX4_command_416 ?_
          refine r_sPi (rest := []) C (k_X4_of l g (mb + 3) F hSm x (7 + y) x.toNat (7 + y.toNat) (by omega) (by omega) (by omega) (by omega)) s_RX4_49 htr hl.1 rfl ⟨by decide, by decide⟩ rfl (Nat.le_of_ble_eq_true rfl) ⟨Nat.le_refl 0, Nat.le_refl 0⟩ dX4_command_417 ?_
          have b26 := hSm.f x.toNat (7 + y.toNat) (by omega) (by omega)
          refine r_iload C (lv_at hl 5 rfl) dX4_command_420 ?_
          refine r_icmp_lt (tgt := 429) C (by decide) (by omega) (by omega) dX4_command_422 (fun c27 => ?_) (fun c27 => ?_)
          · refine r_iconst C dX4_command_429 ?_
            have eF : coF k x y v F = F := (by unfold coF; (repeat' split) <;> first | (exfalso; omega) | rfl)
            exact r_iretH C rfl rfl (congrArg iI (by unfold coV; exact (pI_f (by unfold coD; omega)).symm)) hF (by rw [eF]; exact ⟨M, AP, (by repeat first | exact hMb | exact rg_up hMb (by decide) | refine rg_up ?_ (by omega) | refine rg_setL ?_ (by omega)), (by first | exact h0 | rfl | omega), (by first | exact h1 | rfl | omega), (by first | exact h2 | rfl | omega), hm, htr, hap⟩) dX4_command_430
          · refine r_iconst C dX4_command_425 ?_
            refine r_goto (tgt := 430) C (by decide) dX4_command_426 ?_
            have eF : coF k x y v F = F := (by unfold coF; (repeat' split) <;> first | (exfalso; omega) | rfl)
            exact r_iretH C rfl rfl (congrArg iI (by unfold coV; exact (pI_t (by unfold coD; omega)).symm)) hF (by rw [eF]; exact ⟨M, AP, (by repeat first | exact hMb | exact rg_up hMb (by decide) | refine rg_up ?_ (by omega) | refine rg_setL ?_ (by omega)), (by first | exact h0 | rfl | omega), (by first | exact h1 | rfl | omega), (by first | exact h2 | rfl | omega), hm, htr, hap⟩) dX4_command_430
    refine r_tsOut (tgt := 431) C (by omega) (by omega) (by decide) dX4_command_12 ?_
    refine r_iconst C dX4_command_431 ?_
    have eF : coF k x y v F = F := (by unfold coF; (repeat' split) <;> first | (exfalso; omega) | rfl)
    exact r_iretH C rfl rfl (congrArg iI (by unfold coV; exact (pI_f (by unfold coD; omega)).symm)) hF (by rw [eF]; exact ⟨M, AP, (by repeat first | exact hMb | exact rg_up hMb (by decide) | refine rg_up ?_ (by omega) | refine rg_setL ?_ (by omega)), (by first | exact h0 | rfl | omega), (by first | exact h1 | rfl | omega), (by first | exact h2 | rfl | omega), hm, htr, hap⟩) dX4_command_432
  · refine r_iconst C dX4_command_4 ?_
    refine r_goto (tgt := 9) C (by decide) dX4_command_5 ?_
    refine r_istore (lv' := [(5, .int (iI 1)), (0, .ref mb), (1, .int (iI k)), (2, .int (iI x)), (3, .int (iI y)), (4, .int (iI v))]) C hl (by decide) rfl dX4_command_9 (fun ls hl => ?_)
    refine r_iload_n C rfl (lv_at hl 2 rfl) dX4_command_11 ?_
    by_cases e28 : k = 1
    · refine r_tsIn (tgt := 64) C (by omega) 1 e28 (by decide) (by decide) rfl (by decide) dX4_command_12 ?_
      refine r_iload C (lv_at hl 0 rfl) dX4_command_64 ?_
      refine r_if_eq (tgt := 107) C (by decide) (by decide) dX4_command_66 (fun c29 => ?_) (fun c29 => ?_)
      · exact absurd c29 (by decide)
      · refine r_aload_n C rfl (lv_at hl 1 rfl) dX4_command_69 ?_
        refine r_get C (ci := 4) (v := .ref (mb + 3)) rfl uin4 hm.o 4 (by decide) q_789 rfl rfl dX4_command_70 ?_
        refine r_iload_n C rfl (lv_at hl 3 rfl) dX4_command_73 ?_
        refine r_sPi (rest := []) C (k_X4_isSpace l g (mb + 3) F hSm x (by omega)) s_RX4_94 htr hl.1 rfl ⟨by decide, by decide⟩ rfl (Nat.le_of_ble_eq_true rfl) ⟨Nat.le_refl 0, Nat.le_refl 0⟩ dX4_command_74 ?_
        have b30 := hSm.n
        refine r_ifP_eq (tgt := 107) C (by decide) dX4_command_77 (fun c31 => ?_) (fun c31 => ?_)
        · refine r_iconst C dX4_command_107 ?_
          have eF : coF k x y v F = F := (by unfold coF; (repeat' split) <;> first | (exfalso; omega) | rfl)
          exact r_iretH C rfl rfl (congrArg iI (by unfold coV; exact (pI_f (by unfold coD; omega)).symm)) hF (by rw [eF]; exact ⟨M, AP, (by repeat first | exact hMb | exact rg_up hMb (by decide) | refine rg_up ?_ (by omega) | refine rg_setL ?_ (by omega)), (by first | exact h0 | rfl | omega), (by first | exact h1 | rfl | omega), (by first | exact h2 | rfl | omega), hm, htr, hap⟩) dX4_command_108
        · refine r_iload C (lv_at hl 5 rfl) dX4_command_80 ?_
          refine r_sPi (rest := []) C (k_X4_isPage l g v (by omega)) s_RX4_180 trivial hl.1 rfl ⟨by decide, by decide⟩ rfl (Nat.le_of_ble_eq_true rfl) ⟨Nat.le_refl 0, Nat.le_refl 0⟩ dX4_command_82 ?_
          refine r_ifP_eq (tgt := 107) C (by decide) dX4_command_85 (fun c32 => ?_) (fun c32 => ?_)
          · refine r_iconst C dX4_command_107 ?_
            have eF : coF k x y v F = F := (by unfold coF; (repeat' split) <;> first | (exfalso; omega) | rfl)
            exact r_iretH C rfl rfl (congrArg iI (by unfold coV; exact (pI_f (by unfold coD; omega)).symm)) hF (by rw [eF]; exact ⟨M, AP, (by repeat first | exact hMb | exact rg_up hMb (by decide) | refine rg_up ?_ (by omega) | refine rg_setL ?_ (by omega)), (by first | exact h0 | rfl | omega), (by first | exact h1 | rfl | omega), (by first | exact h2 | rfl | omega), hm, htr, hap⟩) dX4_command_108
          · refine r_aload_n C rfl (lv_at hl 1 rfl) dX4_command_88 ?_
            refine r_aload_n C rfl (lv_at hl 1 rfl) dX4_command_89 ?_
            refine r_get C (ci := 4) (v := .ref (mb + 3)) rfl uin4 hm.o 4 (by decide) q_789 rfl rfl dX4_command_90 ?_
            refine r_iload_n C rfl (lv_at hl 3 rfl) dX4_command_93 ?_
            refine r_iload C (lv_at hl 5 rfl) dX4_command_94 ?_
            refine r_vHi (rest := []) C (k_X4_writeOn l g mb M hMb (mb + 3) F z0 T (by omega) hJ (by omega) x x.toNat (by omega) (by omega) (by omega) v v.toNat (by omega) (by omega)) s_RX4_128 ⟨hm, htr⟩ hF (fun _ h => by rcases h with h | h; exact Or.inl h; exact Or.inr (Or.inl h)) (recv C (ci := 4) rfl hm.o) hl.1 rfl ⟨by decide, by decide⟩ rfl (Nat.le_of_ble_eq_true rfl) ⟨Nat.le_refl 0, Nat.le_refl 0⟩ dX4_command_96 (fun H35 locs35 h35 ho35 hz35 hF => ?_)
            have hap := hap.kept (ho35 _ (fun h => (by rcases h with h | h <;> omega)))
            obtain ⟨hm, htr⟩ := h35
            have b33 := wrR_b F x.toNat v.toNat
            have b34 := wrL_5 hSm x.toNat v.toNat
            refine r_iconst C dX4_command_99 ?_
            refine r_icmp_ge (tgt := 107) C (by decide) (by omega) (by decide) dX4_command_100 (fun c36 => ?_) (fun c36 => ?_)
            · refine r_iconst C dX4_command_107 ?_
              have eF : coF k x y v F = wrF F x.toNat v.toNat := (by unfold coF; (repeat' split) <;> first | (exfalso; omega) | rfl)
              exact r_iretH C rfl rfl (congrArg iI (by unfold coV; exact (pI_f (by unfold coD; omega)).symm)) hF (by rw [eF]; exact ⟨setL M (wrL F x.toNat v.toNat), AP, (by repeat first | exact hMb | exact rg_up hMb (by decide) | refine rg_up ?_ (by omega) | refine rg_setL ?_ (by omega)), (by rw [setL_k _ _ (by omega)] <;> omega), (by rw [setL_k _ _ (by omega)] <;> omega), (by rw [setL_k _ _ (by omega)] <;> omega), hm, htr, hap⟩) dX4_command_108
            · refine r_iconst C dX4_command_103 ?_
              refine r_goto (tgt := 108) C (by decide) dX4_command_104 ?_
              have eF : coF k x y v F = wrF F x.toNat v.toNat := (by unfold coF; (repeat' split) <;> first | (exfalso; omega) | rfl)
              exact r_iretH C rfl rfl (congrArg iI (by unfold coV; exact (pI_t (by unfold coD; omega)).symm)) hF (by rw [eF]; exact ⟨setL M (wrL F x.toNat v.toNat), AP, (by repeat first | exact hMb | exact rg_up hMb (by decide) | refine rg_up ?_ (by omega) | refine rg_setL ?_ (by omega)), (by rw [setL_k _ _ (by omega)] <;> omega), (by rw [setL_k _ _ (by omega)] <;> omega), (by rw [setL_k _ _ (by omega)] <;> omega), hm, htr, hap⟩) dX4_command_108
    by_cases e37 : k = 2
    · refine r_tsIn (tgt := 109) C (by omega) 2 e37 (by decide) (by decide) rfl (by decide) dX4_command_12 ?_
      refine r_iload C (lv_at hl 0 rfl) dX4_command_109 ?_
      refine r_if_eq (tgt := 163) C (by decide) (by decide) dX4_command_111 (fun c38 => ?_) (fun c38 => ?_)
      · exact absurd c38 (by decide)
      · refine r_aload_n C rfl (lv_at hl 1 rfl) dX4_command_114 ?_
        refine r_get C (ci := 4) (v := .ref (mb + 3)) rfl uin4 hm.o 4 (by decide) q_789 rfl rfl dX4_command_115 ?_
        refine r_iload_n C rfl (lv_at hl 3 rfl) dX4_command_118 ?_
        refine r_sPi (rest := []) C (k_X4_isSpace l g (mb + 3) F hSm x (by omega)) s_RX4_94 htr hl.1 rfl ⟨by decide, by decide⟩ rfl (Nat.le_of_ble_eq_true rfl) ⟨Nat.le_refl 0, Nat.le_refl 0⟩ dX4_command_119 ?_
        have b39 := hSm.n
        refine r_ifP_eq (tgt := 163) C (by decide) dX4_command_122 (fun c40 => ?_) (fun c40 => ?_)
        · refine r_iconst C dX4_command_163 ?_
          have eF : coF k x y v F = F := (by unfold coF; (repeat' split) <;> first | (exfalso; omega) | rfl)
          exact r_iretH C rfl rfl (congrArg iI (by unfold coV; exact (pI_f (by unfold coD; omega)).symm)) hF (by rw [eF]; exact ⟨M, AP, (by repeat first | exact hMb | exact rg_up hMb (by decide) | refine rg_up ?_ (by omega) | refine rg_setL ?_ (by omega)), (by first | exact h0 | rfl | omega), (by first | exact h1 | rfl | omega), (by first | exact h2 | rfl | omega), hm, htr, hap⟩) dX4_command_164
        · refine r_iload C (lv_at hl 5 rfl) dX4_command_125 ?_
          refine r_sPi (rest := []) C (k_X4_isPage l g v (by omega)) s_RX4_180 trivial hl.1 rfl ⟨by decide, by decide⟩ rfl (Nat.le_of_ble_eq_true rfl) ⟨Nat.le_refl 0, Nat.le_refl 0⟩ dX4_command_127 ?_
          refine r_ifP_eq (tgt := 163) C (by decide) dX4_command_130 (fun c41 => ?_) (fun c41 => ?_)
          · refine r_iconst C dX4_command_163 ?_
            have eF : coF k x y v F = F := (by unfold coF; (repeat' split) <;> first | (exfalso; omega) | rfl)
            exact r_iretH C rfl rfl (congrArg iI (by unfold coV; exact (pI_f (by unfold coD; omega)).symm)) hF (by rw [eF]; exact ⟨M, AP, (by repeat first | exact hMb | exact rg_up hMb (by decide) | refine rg_up ?_ (by omega) | refine rg_setL ?_ (by omega)), (by first | exact h0 | rfl | omega), (by first | exact h1 | rfl | omega), (by first | exact h2 | rfl | omega), hm, htr, hap⟩) dX4_command_164
          · refine r_aload_n C rfl (lv_at hl 1 rfl) dX4_command_133 ?_
            refine r_get C (ci := 4) (v := .ref (mb + 3)) rfl uin4 hm.o 4 (by decide) q_789 rfl rfl dX4_command_134 ?_
            refine r_iload_n C rfl (lv_at hl 3 rfl) dX4_command_137 ?_
            refine r_iload C (lv_at hl 5 rfl) dX4_command_138 ?_
            refine r_sPi (rest := []) C (k_X4_canTrim l g (mb + 3) F hSm x v x.toNat v.toNat (by omega) (by omega) (by omega) (by omega)) s_RX4_145 htr hl.1 rfl ⟨by decide, by decide⟩ rfl (Nat.le_of_ble_eq_true rfl) ⟨Nat.le_refl 0, Nat.le_refl 0⟩ dX4_command_140 ?_
            refine r_ifP_eq (tgt := 163) C (by decide) dX4_command_143 (fun c42 => ?_) (fun c42 => ?_)
            · refine r_iconst C dX4_command_163 ?_
              have eF : coF k x y v F = F := (by unfold coF; (repeat' split) <;> first | (exfalso; omega) | rfl)
              exact r_iretH C rfl rfl (congrArg iI (by unfold coV; exact (pI_f (by unfold coD; omega)).symm)) hF (by rw [eF]; exact ⟨M, AP, (by repeat first | exact hMb | exact rg_up hMb (by decide) | refine rg_up ?_ (by omega) | refine rg_setL ?_ (by omega)), (by first | exact h0 | rfl | omega), (by first | exact h1 | rfl | omega), (by first | exact h2 | rfl | omega), hm, htr, hap⟩) dX4_command_164
            · refine r_aload_n C rfl (lv_at hl 1 rfl) dX4_command_146 ?_
              have htk := tk_b ((hJ.tr (s := x.toNat) (p := v.toNat) (by omega) (by omega) (by omega) (by omega) (by omega)).1.S.m (by omega)) x.toNat (by omega)
              refine r_get C (ci := 4) (v := .ref (mb + 3)) rfl uin4 hm.o 4 (by decide) q_789 rfl rfl dX4_command_147 ?_
              refine r_iload_n C rfl (lv_at hl 3 rfl) dX4_command_150 ?_
              refine r_iload C (lv_at hl 5 rfl) dX4_command_151 ?_
              refine r_sHi (rest := []) C (k_X4_trimOn l g (mb + 3) F T hJ (by omega) x x.toNat (by omega) (by omega) (by omega) v v.toNat (by omega) (by omega) (by omega)) s_RX4_149 htr hF (fun _ h => Or.inr (Or.inl h)) hl.1 rfl ⟨by decide, by decide⟩ rfl (Nat.le_of_ble_eq_true rfl) ⟨Nat.le_refl 0, Nat.le_refl 0⟩ dX4_command_153 (fun H43 locs43 h43 ho43 hz43 hF => ?_)
              have hm := hm.kept (ho43 _ (fun h => (by have h : _ = _ := h; omega)))
              have hap := hap.kept (ho43 _ (fun h => (by have h : _ = _ := h; omega)))
              have htr := h43
              refine r_if_lt (tgt := 163) C (by decide) (by omega) dX4_command_156 (fun c44 => ?_) (fun c44 => ?_)
              · exact absurd c44 (by omega)
              · refine r_iconst C dX4_command_159 ?_
                refine r_goto (tgt := 164) C (by decide) dX4_command_160 ?_
                have eF : coF k x y v F = trF F x.toNat v.toNat := (by unfold coF; (repeat' split) <;> first | (exfalso; omega) | rfl)
                exact r_iretH C rfl rfl (congrArg iI (by unfold coV; exact (pI_t (by unfold coD; omega)).symm)) hF (by rw [eF]; exact ⟨M, AP, (by repeat first | exact hMb | exact rg_up hMb (by decide) | refine rg_up ?_ (by omega) | refine rg_setL ?_ (by omega)), (by first | exact h0 | rfl | omega), (by first | exact h1 | rfl | omega), (by first | exact h2 | rfl | omega), hm, htr, hap⟩) dX4_command_164
    by_cases e45 : k = 3
    · refine r_tsIn (tgt := 165) C (by omega) 3 e45 (by decide) (by decide) rfl (by decide) dX4_command_12 ?_
      refine r_iload C (lv_at hl 0 rfl) dX4_command_165 ?_
      refine r_if_eq (tgt := 188) C (by decide) (by decide) dX4_command_167 (fun c46 => ?_) (fun c46 => ?_)
      · exact absurd c46 (by decide)
      · refine r_aload_n C rfl (lv_at hl 1 rfl) dX4_command_170 ?_
        refine r_aload_n C rfl (lv_at hl 1 rfl) dX4_command_171 ?_
        refine r_get C (ci := 4) (v := .ref (mb + 3)) rfl uin4 hm.o 4 (by decide) q_789 rfl rfl dX4_command_172 ?_
        refine r_iload_n C rfl (lv_at hl 3 rfl) dX4_command_175 ?_
        refine r_iload C (lv_at hl 5 rfl) dX4_command_176 ?_
        refine r_vHi (rest := []) C (k_X4_doesFloor l g mb M (mb + 3) F T (by omega) hJ (by omega) x v x.toNat (by omega) (by omega) (by omega)) s_RX4_152 ⟨hm, htr⟩ hF (fun _ h => by rcases h with h | h; exact Or.inl h; exact Or.inr (Or.inl h)) (recv C (ci := 4) rfl hm.o) hl.1 rfl ⟨by decide, by decide⟩ rfl (Nat.le_of_ble_eq_true rfl) ⟨Nat.le_refl 0, Nat.le_refl 0⟩ dX4_command_178 (fun H47 locs47 h47 ho47 hz47 hF => ?_)
        have hap := hap.kept (ho47 _ (fun h => (by rcases h with h | h <;> omega)))
        obtain ⟨hm, htr⟩ := h47
        refine r_ifP_eq (tgt := 188) C (by decide) dX4_command_181 (fun c48 => ?_) (fun c48 => ?_)
        · refine r_iconst C dX4_command_188 ?_
          have eF : coF k x y v F = if whyFl F x x.toNat v = 0 then up F (2 + 52 * x.toNat + 0) v else F := (by unfold coF; (repeat' split) <;> first | (exfalso; omega) | rfl)
          exact r_iretH C rfl rfl (congrArg iI (by unfold coV; exact (pI_f (by unfold coD; omega)).symm)) hF (by rw [eF]; exact ⟨M, AP, (by repeat first | exact hMb | exact rg_up hMb (by decide) | refine rg_up ?_ (by omega) | refine rg_setL ?_ (by omega)), (by first | exact h0 | rfl | omega), (by first | exact h1 | rfl | omega), (by first | exact h2 | rfl | omega), hm, htr, hap⟩) dX4_command_189
        · refine r_iconst C dX4_command_184 ?_
          refine r_goto (tgt := 189) C (by decide) dX4_command_185 ?_
          have eF : coF k x y v F = if whyFl F x x.toNat v = 0 then up F (2 + 52 * x.toNat + 0) v else F := (by unfold coF; (repeat' split) <;> first | (exfalso; omega) | rfl)
          exact r_iretH C rfl rfl (congrArg iI (by unfold coV; exact (pI_t (by unfold coD; omega)).symm)) hF (by rw [eF]; exact ⟨M, AP, (by repeat first | exact hMb | exact rg_up hMb (by decide) | refine rg_up ?_ (by omega) | refine rg_setL ?_ (by omega)), (by first | exact h0 | rfl | omega), (by first | exact h1 | rfl | omega), (by first | exact h2 | rfl | omega), hm, htr, hap⟩) dX4_command_189
    by_cases e49 : k = 4
    · refine r_tsIn (tgt := 190) C (by omega) 4 e49 (by decide) (by decide) rfl (by decide) dX4_command_12 ?_
      refine r_iload C (lv_at hl 0 rfl) dX4_command_190 ?_
      refine r_if_eq (tgt := 226) C (by decide) (by decide) dX4_command_192 (fun c50 => ?_) (fun c50 => ?_)
      · exact absurd c50 (by decide)
      · refine r_aload_n C rfl (lv_at hl 1 rfl) dX4_command_195 ?_
        refine r_get C (ci := 4) (v := .ref (mb + 3)) rfl uin4 hm.o 4 (by decide) q_789 rfl rfl dX4_command_196 ?_
        refine r_iload_n C rfl (lv_at hl 3 rfl) dX4_command_199 ?_
        refine r_iload C (lv_at hl 5 rfl) dX4_command_200 ?_
        refine r_sPi (rest := []) C (k_X4_whyNotCeiling l g (mb + 3) F hSm x v x.toNat (by omega) (by omega) (by omega)) s_RX4_186 htr hl.1 rfl ⟨by decide, by decide⟩ rfl (Nat.le_of_ble_eq_true rfl) ⟨Nat.le_refl 0, Nat.le_refl 0⟩ dX4_command_202 ?_
        have b51 := whyCe_b F x x.toNat v
        refine r_if_ne (tgt := 226) C (by decide) (by omega) dX4_command_205 (fun c52 => ?_) (fun c52 => ?_)
        · refine r_iconst C dX4_command_226 ?_
          have eF : coF k x y v F = F := (by unfold coF; (repeat' split) <;> first | (exfalso; omega) | rfl)
          exact r_iretH C rfl rfl (congrArg iI (by unfold coV; exact (pI_f (by unfold coD; omega)).symm)) hF (by rw [eF]; exact ⟨M, AP, (by repeat first | exact hMb | exact rg_up hMb (by decide) | refine rg_up ?_ (by omega) | refine rg_setL ?_ (by omega)), (by first | exact h0 | rfl | omega), (by first | exact h1 | rfl | omega), (by first | exact h2 | rfl | omega), hm, htr, hap⟩) dX4_command_227
        · have hw4 := whyCe_0 (F := F) (x := x) (s := x.toNat) (v := v) (by omega)
          have hce := (hJ.2.2.2.2.1 x.toNat (by omega) (by omega)).1
          refine r_aload_n C rfl (lv_at hl 1 rfl) dX4_command_208 ?_
          refine r_get C (ci := 4) (v := .ref (mb + 3)) rfl uin4 hm.o 4 (by decide) q_789 rfl rfl dX4_command_209 ?_
          refine r_iload_n C rfl (lv_at hl 3 rfl) dX4_command_212 ?_
          refine r_iconst C dX4_command_213 ?_
          refine r_iload C (lv_at hl 5 rfl) dX4_command_214 ?_
          refine r_sHi (rest := []) C (k_X4_lay l g (mb + 3) F T hJ (by omega) x x.toNat (by omega) (by omega) 1 1 (by omega) (by omega) v) s_RX4_124 htr hF (fun _ h => Or.inr (Or.inl h)) hl.1 rfl ⟨by decide, by decide⟩ rfl (Nat.le_of_ble_eq_true rfl) ⟨Nat.le_refl 0, Nat.le_refl 0⟩ dX4_command_216 (fun H54 locs54 h54 ho54 hz54 hF => ?_)
          have hm := hm.kept (ho54 _ (fun h => (by have h : _ = _ := h; omega)))
          have hap := hap.kept (ho54 _ (fun h => (by have h : _ = _ := h; omega)))
          have htr := h54
          have b53 := hSm.f x.toNat 1 (by omega) (by omega)
          refine r_if_le (tgt := 226) C (by decide) (by omega) dX4_command_219 (fun c55 => ?_) (fun c55 => ?_)
          · exact absurd c55 (by omega)
          · refine r_iconst C dX4_command_222 ?_
            refine r_goto (tgt := 227) C (by decide) dX4_command_223 ?_
            have eF : coF k x y v F = up F (2 + 52 * x.toNat + 1) v := (by unfold coF; (repeat' split) <;> first | (exfalso; omega) | rfl)
            exact r_iretH C rfl rfl (congrArg iI (by unfold coV; exact (pI_t (by unfold coD; omega)).symm)) hF (by rw [eF]; exact ⟨M, AP, (by repeat first | exact hMb | exact rg_up hMb (by decide) | refine rg_up ?_ (by omega) | refine rg_setL ?_ (by omega)), (by first | exact h0 | rfl | omega), (by first | exact h1 | rfl | omega), (by first | exact h2 | rfl | omega), hm, htr, hap⟩) dX4_command_227
    by_cases e56 : k = 5
    · refine r_tsIn (tgt := 228) C (by omega) 5 e56 (by decide) (by decide) rfl (by decide) dX4_command_12 ?_
      refine r_aload_n C rfl (lv_at hl 1 rfl) dX4_command_228 ?_
      refine r_get C (ci := 4) (v := .ref (mb + 3)) rfl uin4 hm.o 4 (by decide) q_789 rfl rfl dX4_command_229 ?_
      refine r_bipush C (by decide) dX4_command_232 ?_
      refine r_iload_n C rfl (lv_at hl 3 rfl) dX4_command_234 ?_
      refine r_imul C dX4_command_235 ?_
      refine r_iload_n C rfl (lv_at hl 4 rfl) dX4_command_236 ?_
      refine r_iadd C dX4_command_237 ?_
      refine r_iload C (lv_at hl 5 rfl) dX4_command_238 ?_
      refine r_sPi (rest := []) C (k_X4_whyNotMake l g (mb + 3) F hSm hZ ((10 * x) + y) v (by omega) (by omega)) s_RX4_135 htr hl.1 rfl ⟨by decide, by decide⟩ rfl (Nat.le_of_ble_eq_true rfl) ⟨Nat.le_refl 0, Nat.le_refl 0⟩ dX4_command_240 ?_
      have b57 := whyMk_b F ((10 * x) + y) v
      refine r_if_ne (tgt := 268) C (by decide) (by omega) dX4_command_243 (fun c58 => ?_) (fun c58 => ?_)
      · refine r_iconst C dX4_command_268 ?_
        have eF : coF k x y v F = F := (by unfold coF; (repeat' split) <;> first | (exfalso; omega) | rfl)
        exact r_iretH C rfl rfl (congrArg iI (by unfold coV; exact (pI_f (by unfold coD; omega)).symm)) hF (by rw [eF]; exact ⟨M, AP, (by repeat first | exact hMb | exact rg_up hMb (by decide) | refine rg_up ?_ (by omega) | refine rg_setL ?_ (by omega)), (by first | exact h0 | rfl | omega), (by first | exact h1 | rfl | omega), (by first | exact h2 | rfl | omega), hm, htr, hap⟩) dX4_command_269
      · have h5F : F 0 < 5 := (whyMk_0 hn5.2 (show whyMk F (10 * x + y) v = 0 by omega)).2.1
        refine r_aload_n C rfl (lv_at hl 1 rfl) dX4_command_246 ?_
        refine r_get C (ci := 4) (v := .ref (mb + 3)) rfl uin4 hm.o 4 (by decide) q_789 rfl rfl dX4_command_247 ?_
        refine r_bipush C (by decide) dX4_command_250 ?_
        refine r_iload_n C rfl (lv_at hl 3 rfl) dX4_command_252 ?_
        refine r_imul C dX4_command_253 ?_
        refine r_iload_n C rfl (lv_at hl 4 rfl) dX4_command_254 ?_
        refine r_iadd C dX4_command_255 ?_
        refine r_iload C (lv_at hl 5 rfl) dX4_command_256 ?_
        refine r_sHi (rest := []) C (k_X4_makeOn l g (mb + 3) F T hJ (by omega) ((10 * x) + y) v (by omega)) s_RX4_138 htr hF (fun _ h => Or.inr (Or.inl h)) hl.1 rfl ⟨by decide, by decide⟩ rfl (Nat.le_of_ble_eq_true rfl) ⟨Nat.le_refl 0, Nat.le_refl 0⟩ dX4_command_258 (fun H59 locs59 h59 ho59 hz59 hF => ?_)
        have hm := hm.kept (ho59 _ (fun h => (by have h : _ = _ := h; omega)))
        have hap := hap.kept (ho59 _ (fun h => (by have h : _ = _ := h; omega)))
        have htr := h59
        refine r_if_lt (tgt := 268) C (by decide) (by omega) dX4_command_261 (fun c60 => ?_) (fun c60 => ?_)
        · exact absurd c60 (by omega)
        · refine r_iconst C dX4_command_264 ?_
          refine r_goto (tgt := 269) C (by decide) dX4_command_265 ?_
          have eF : coF k x y v F = mkF F ((10 * x) + y) v := (by unfold coF; (repeat' split) <;> first | (exfalso; omega) | rfl)
          exact r_iretH C rfl rfl (congrArg iI (by unfold coV; exact (pI_t (by unfold coD; omega)).symm)) hF (by rw [eF]; exact ⟨M, AP, (by repeat first | exact hMb | exact rg_up hMb (by decide) | refine rg_up ?_ (by omega) | refine rg_setL ?_ (by omega)), (by first | exact h0 | rfl | omega), (by first | exact h1 | rfl | omega), (by first | exact h2 | rfl | omega), hm, htr, hap⟩) dX4_command_269
    by_cases e61 : k = 6
    · refine r_tsIn (tgt := 270) C (by omega) 6 e61 (by decide) (by decide) rfl (by decide) dX4_command_12 ?_
      refine r_iload C (lv_at hl 0 rfl) dX4_command_270 ?_
      refine r_if_eq (tgt := 303) C (by decide) (by decide) dX4_command_272 (fun c62 => ?_) (fun c62 => ?_)
      · exact absurd c62 (by decide)
      · refine r_aload_n C rfl (lv_at hl 1 rfl) dX4_command_275 ?_
        refine r_get C (ci := 4) (v := .ref (mb + 3)) rfl uin4 hm.o 4 (by decide) q_789 rfl rfl dX4_command_276 ?_
        refine r_iload_n C rfl (lv_at hl 3 rfl) dX4_command_279 ?_
        refine r_sPi (rest := []) C (k_X4_isSpace l g (mb + 3) F hSm x (by omega)) s_RX4_94 htr hl.1 rfl ⟨by decide, by decide⟩ rfl (Nat.le_of_ble_eq_true rfl) ⟨Nat.le_refl 0, Nat.le_refl 0⟩ dX4_command_280 ?_
        have b63 := hSm.n
        refine r_ifP_eq (tgt := 303) C (by decide) dX4_command_283 (fun c64 => ?_) (fun c64 => ?_)
        · refine r_iconst C dX4_command_303 ?_
          have eF : coF k x y v F = F := (by unfold coF; (repeat' split) <;> first | (exfalso; omega) | rfl)
          exact r_iretH C rfl rfl (congrArg iI (by unfold coV; exact (pI_f (by unfold coD; omega)).symm)) hF (by rw [eF]; exact ⟨M, AP, (by repeat first | exact hMb | exact rg_up hMb (by decide) | refine rg_up ?_ (by omega) | refine rg_setL ?_ (by omega)), (by first | exact h0 | rfl | omega), (by first | exact h1 | rfl | omega), (by first | exact h2 | rfl | omega), hm, htr, hap⟩) dX4_command_304
        · refine r_aload_n C rfl (lv_at hl 1 rfl) dX4_command_286 ?_
          refine r_get C (ci := 4) (v := .ref (mb + 3)) rfl uin4 hm.o 4 (by decide) q_789 rfl rfl dX4_command_287 ?_
          refine r_iload_n C rfl (lv_at hl 3 rfl) dX4_command_290 ?_
          refine r_sPi (rest := []) C (k_X4_taken l g (mb + 3) F hSm x x.toNat (by omega) (by omega)) s_RX4_79 htr hl.1 rfl ⟨by decide, by decide⟩ rfl (Nat.le_of_ble_eq_true rfl) ⟨Nat.le_refl 0, Nat.le_refl 0⟩ dX4_command_291 ?_
          have b65 := tk_b hSm x.toNat (by omega)
          refine r_iload C (lv_at hl 5 rfl) dX4_command_294 ?_
          refine r_icmp_lt (tgt := 303) C (by decide) (by omega) (by omega) dX4_command_296 (fun c66 => ?_) (fun c66 => ?_)
          · refine r_iconst C dX4_command_303 ?_
            have eF : coF k x y v F = F := (by unfold coF; (repeat' split) <;> first | (exfalso; omega) | rfl)
            exact r_iretH C rfl rfl (congrArg iI (by unfold coV; exact (pI_f (by unfold coD; omega)).symm)) hF (by rw [eF]; exact ⟨M, AP, (by repeat first | exact hMb | exact rg_up hMb (by decide) | refine rg_up ?_ (by omega) | refine rg_setL ?_ (by omega)), (by first | exact h0 | rfl | omega), (by first | exact h1 | rfl | omega), (by first | exact h2 | rfl | omega), hm, htr, hap⟩) dX4_command_304
          · refine r_iconst C dX4_command_299 ?_
            refine r_goto (tgt := 304) C (by decide) dX4_command_300 ?_
            have eF : coF k x y v F = F := (by unfold coF; (repeat' split) <;> first | (exfalso; omega) | rfl)
            exact r_iretH C rfl rfl (congrArg iI (by unfold coV; exact (pI_t (by unfold coD; omega)).symm)) hF (by rw [eF]; exact ⟨M, AP, (by repeat first | exact hMb | exact rg_up hMb (by decide) | refine rg_up ?_ (by omega) | refine rg_setL ?_ (by omega)), (by first | exact h0 | rfl | omega), (by first | exact h1 | rfl | omega), (by first | exact h2 | rfl | omega), hm, htr, hap⟩) dX4_command_304
    by_cases e67 : k = 7
    · refine r_tsIn (tgt := 305) C (by omega) 7 e67 (by decide) (by decide) rfl (by decide) dX4_command_12 ?_
      refine r_iload C (lv_at hl 0 rfl) dX4_command_305 ?_
      refine r_if_eq (tgt := 321) C (by decide) (by decide) dX4_command_307 (fun c68 => ?_) (fun c68 => ?_)
      · exact absurd c68 (by decide)
      · refine r_aload_n C rfl (lv_at hl 1 rfl) dX4_command_310 ?_
        refine r_get C (ci := 4) (v := .ref (mb + 3)) rfl uin4 hm.o 4 (by decide) q_789 rfl rfl dX4_command_311 ?_
        refine r_iload_n C rfl (lv_at hl 3 rfl) dX4_command_314 ?_
        refine r_sPi (rest := []) C (k_X4_isSpace l g (mb + 3) F hSm x (by omega)) s_RX4_94 htr hl.1 rfl ⟨by decide, by decide⟩ rfl (Nat.le_of_ble_eq_true rfl) ⟨Nat.le_refl 0, Nat.le_refl 0⟩ dX4_command_315 ?_
        have b69 := hSm.n
        refine r_ifP_ne (tgt := 323) C (by decide) dX4_command_318 (fun c70 => ?_) (fun c70 => ?_)
        · refine r_aload_n C rfl (lv_at hl 1 rfl) dX4_command_323 ?_
          refine r_get C (ci := 4) (v := .ref (mb + 3)) rfl uin4 hm.o 4 (by decide) q_789 rfl rfl dX4_command_324 ?_
          refine r_iconst C dX4_command_327 ?_
          refine r_aload_n C rfl (lv_at hl 1 rfl) dX4_command_328 ?_
          refine r_get C (ci := 4) (v := .ref (mb + 7)) rfl uin4 hm.o 12 (by decide) q_797 rfl rfl dX4_command_329 ?_
          refine r_iconst C dX4_command_332 ?_
          refine r_sHn (rest := []) C (k_X4_copyState l g (mb + 3) 262 F (mb + 7) 262 AP 0 0 0 0 (by omega) (by omega) (by omega) (by omega) (by omega)) s_RX4_166 ⟨htr, hap⟩ hF (fun _ h => Or.inr (Or.inr h)) hl.1 rfl ⟨by decide, by decide⟩ rfl (Nat.le_of_ble_eq_true rfl) ⟨Nat.le_refl 0, Nat.le_refl 0⟩ dX4_command_333 (fun H71 locs71 h71 ho71 hz71 hF => ?_)
          have hm := hm.kept (ho71 _ (fun h => (by have h : _ = _ := h; omega)))
          obtain ⟨htr, hap⟩ := h71
          have hap : aAt g (mb + 7) 262 (F) H71 := hap.cg (fun k hk => (by rw [cpy_all _ _ hk, Nat.zero_add]))
          refine r_aload_n C rfl (lv_at hl 1 rfl) dX4_command_336 ?_
          refine r_aload_n C rfl (lv_at hl 1 rfl) dX4_command_337 ?_
          refine r_get C (ci := 4) (v := .ref (mb + 7)) rfl uin4 hm.o 12 (by decide) q_797 rfl rfl dX4_command_338 ?_
          refine r_iload_n C rfl (lv_at hl 3 rfl) dX4_command_341 ?_
          refine r_bipush C (by decide) dX4_command_342 ?_
          refine r_vHi (rest := []) C (k_X4_go l g mb M hMb (mb + 7) F T (by omega) hJ (by omega) x x.toNat (by omega) (by omega) (by omega) 61 61 (by omega) (by omega)) s_RX4_189 ⟨hm, hap⟩ hF (fun _ h => by rcases h with h | h; exact Or.inl h; exact Or.inr (Or.inr h)) (recv C (ci := 4) rfl hm.o) hl.1 rfl ⟨by decide, by decide⟩ rfl (Nat.le_of_ble_eq_true rfl) ⟨Nat.le_refl 0, Nat.le_refl 0⟩ dX4_command_344 (fun H72 locs72 h72 ho72 hz72 hF => ?_)
          have htr := htr.kept (ho72 _ (fun h => (by rcases h with h | h <;> omega)))
          obtain ⟨hm, hap⟩ := h72
          have hgb := gN_b F x.toNat 61 0
          have hgl := gL_5 hJ (s := x.toNat) (by omega) (by omega) (fun _ _ _ => rfl) (gN F x.toNat 61 0) (by omega)
          obtain ⟨dlG, hdG, hJG, h0G⟩ := (hJ).gr (s := x.toNat) (by omega) (by omega) (fun _ _ _ => rfl) (gN F x.toNat 61 0) (by omega)
          have hSmG : Sm (gF F x.toNat (gN F x.toNat 61 0)) := hJG.S.m (by omega)
          have hZG := hJG.Z
          refine r_iload C (lv_at hl 5 rfl) dX4_command_347 ?_
          refine r_icmp_lt (tgt := 356) C (by decide) (by omega) (by omega) dX4_command_349 (fun c73 => ?_) (fun c73 => ?_)
          · refine r_iconst C dX4_command_356 ?_
            have eF : coF k x y v F = F := (by unfold coF; (repeat' split) <;> first | (exfalso; omega) | rfl)
            exact r_iretH C rfl rfl (congrArg iI (by unfold coV; exact (pI_f (by unfold coD; omega)).symm)) hF (by rw [eF]; exact ⟨up M 3 (gL F x.toNat (gN F x.toNat 61 0)), gF F x.toNat (gN F x.toNat 61 0), (by repeat first | exact hMb | exact rg_up hMb (by decide) | refine rg_up ?_ (by omega) | refine rg_setL ?_ (by omega)), (by rw [up_n _ _ (by omega)] <;> omega), (by rw [up_n _ _ (by omega)] <;> omega), (by rw [up_n _ _ (by omega)] <;> omega), hm, htr, hap⟩) dX4_command_357
          · refine r_iconst C dX4_command_352 ?_
            refine r_goto (tgt := 357) C (by decide) dX4_command_353 ?_
            have eF : coF k x y v F = F := (by unfold coF; (repeat' split) <;> first | (exfalso; omega) | rfl)
            exact r_iretH C rfl rfl (congrArg iI (by unfold coV; exact (pI_t (by unfold coD; omega)).symm)) hF (by rw [eF]; exact ⟨up M 3 (gL F x.toNat (gN F x.toNat 61 0)), gF F x.toNat (gN F x.toNat 61 0), (by repeat first | exact hMb | exact rg_up hMb (by decide) | refine rg_up ?_ (by omega) | refine rg_setL ?_ (by omega)), (by rw [up_n _ _ (by omega)] <;> omega), (by rw [up_n _ _ (by omega)] <;> omega), (by rw [up_n _ _ (by omega)] <;> omega), hm, htr, hap⟩) dX4_command_357
        · refine r_iconst C dX4_command_321 ?_
          have eF : coF k x y v F = F := (by unfold coF; (repeat' split) <;> first | (exfalso; omega) | rfl)
          exact r_iretH C rfl rfl (congrArg iI (by unfold coV; exact (pI_f (by unfold coD; omega)).symm)) hF (by rw [eF]; exact ⟨M, AP, (by repeat first | exact hMb | exact rg_up hMb (by decide) | refine rg_up ?_ (by omega) | refine rg_setL ?_ (by omega)), (by first | exact h0 | rfl | omega), (by first | exact h1 | rfl | omega), (by first | exact h2 | rfl | omega), hm, htr, hap⟩) dX4_command_322
    by_cases e74 : k = 8
    · refine r_tsIn (tgt := 358) C (by omega) 8 e74 (by decide) (by decide) rfl (by decide) dX4_command_12 ?_
      refine r_iload C (lv_at hl 0 rfl) dX4_command_358 ?_
      refine r_if_eq (tgt := 384) C (by decide) (by decide) dX4_command_360 (fun c75 => ?_) (fun c75 => ?_)
      · exact absurd c75 (by decide)
      · refine r_iload_n C rfl (lv_at hl 3 rfl) dX4_command_363 ?_
        refine r_if_ne (tgt := 384) C (by decide) (by omega) dX4_command_364 (fun c76 => ?_) (fun c76 => ?_)
        · refine r_iconst C dX4_command_384 ?_
          have eF : coF k x y v F = F := (by unfold coF; (repeat' split) <;> first | (exfalso; omega) | rfl)
          exact r_iretH C rfl rfl (congrArg iI (by unfold coV; exact (pI_f (by unfold coD; omega)).symm)) hF (by rw [eF]; exact ⟨M, AP, (by repeat first | exact hMb | exact rg_up hMb (by decide) | refine rg_up ?_ (by omega) | refine rg_setL ?_ (by omega)), (by first | exact h0 | rfl | omega), (by first | exact h1 | rfl | omega), (by first | exact h2 | rfl | omega), hm, htr, hap⟩) dX4_command_385
        · refine r_aload_n C rfl (lv_at hl 1 rfl) dX4_command_367 ?_
          refine r_get C (ci := 4) (v := .ref (mb + 3)) rfl uin4 hm.o 4 (by decide) q_789 rfl rfl dX4_command_368 ?_
          refine r_iconst C dX4_command_371 ?_
          refine r_sPi (rest := []) C (k_X4_sum l g (mb + 3) F hSm hZ 5 5 (by omega) (by omega)) s_RX4_53 htr hl.1 rfl ⟨by decide, by decide⟩ rfl (Nat.le_of_ble_eq_true rfl) ⟨Nat.le_refl 0, Nat.le_refl 0⟩ dX4_command_372 ?_
          have b77 := S5_b hSm 5 (by omega)
          refine r_iload C (lv_at hl 5 rfl) dX4_command_375 ?_
          refine r_icmp_gt (tgt := 384) C (by decide) (by omega) (by omega) dX4_command_377 (fun c78 => ?_) (fun c78 => ?_)
          · refine r_iconst C dX4_command_384 ?_
            have eF : coF k x y v F = F := (by unfold coF; (repeat' split) <;> first | (exfalso; omega) | rfl)
            exact r_iretH C rfl rfl (congrArg iI (by unfold coV; exact (pI_f (by unfold coD; omega)).symm)) hF (by rw [eF]; exact ⟨M, AP, (by repeat first | exact hMb | exact rg_up hMb (by decide) | refine rg_up ?_ (by omega) | refine rg_setL ?_ (by omega)), (by first | exact h0 | rfl | omega), (by first | exact h1 | rfl | omega), (by first | exact h2 | rfl | omega), hm, htr, hap⟩) dX4_command_385
          · refine r_iconst C dX4_command_380 ?_
            refine r_goto (tgt := 385) C (by decide) dX4_command_381 ?_
            have eF : coF k x y v F = F := (by unfold coF; (repeat' split) <;> first | (exfalso; omega) | rfl)
            exact r_iretH C rfl rfl (congrArg iI (by unfold coV; exact (pI_t (by unfold coD; omega)).symm)) hF (by rw [eF]; exact ⟨M, AP, (by repeat first | exact hMb | exact rg_up hMb (by decide) | refine rg_up ?_ (by omega) | refine rg_setL ?_ (by omega)), (by first | exact h0 | rfl | omega), (by first | exact h1 | rfl | omega), (by first | exact h2 | rfl | omega), hm, htr, hap⟩) dX4_command_385
    by_cases e79 : k = 9
    · refine r_tsIn (tgt := 386) C (by omega) 9 e79 (by decide) (by decide) rfl (by decide) dX4_command_12 ?_
      refine r_aload_n C rfl (lv_at hl 1 rfl) dX4_command_386 ?_
      refine r_get C (ci := 4) (v := .ref (mb + 3)) rfl uin4 hm.o 4 (by decide) q_789 rfl rfl dX4_command_387 ?_
      refine r_iload_n C rfl (lv_at hl 3 rfl) dX4_command_390 ?_
      refine r_sPi (rest := []) C (k_X4_isSpace l g (mb + 3) F hSm x (by omega)) s_RX4_94 htr hl.1 rfl ⟨by decide, by decide⟩ rfl (Nat.le_of_ble_eq_true rfl) ⟨Nat.le_refl 0, Nat.le_refl 0⟩ dX4_command_391 ?_
      have b80 := hSm.n
      refine r_ifP_eq (tgt := 429) C (by decide) dX4_command_394 (fun c81 => ?_) (fun c81 => ?_)
      · refine r_iconst C dX4_command_429 ?_
        have eF : coF k x y v F = F := (by unfold coF; (repeat' split) <;> first | (exfalso; omega) | rfl)
        exact r_iretH C rfl rfl (congrArg iI (by unfold coV; exact (pI_f (by unfold coD; omega)).symm)) hF (by rw [eF]; exact ⟨M, AP, (by repeat first | exact hMb | exact rg_up hMb (by decide) | refine rg_up ?_ (by omega) | refine rg_setL ?_ (by omega)), (by first | exact h0 | rfl | omega), (by first | exact h1 | rfl | omega), (by first | exact h2 | rfl | omega), hm, htr, hap⟩) dX4_command_430
      · refine r_aload_n C rfl (lv_at hl 1 rfl) dX4_command_397 ?_
        refine r_get C (ci := 4) (v := .ref (mb + 3)) rfl uin4 hm.o 4 (by decide) q_789 rfl rfl dX4_command_398 ?_
        refine r_iload_n C rfl (lv_at hl 4 rfl) dX4_command_401 ?_
        refine r_sPi (rest := []) C (k_X4_isSpace l g (mb + 3) F hSm y (by omega)) s_RX4_94 htr hl.1 rfl ⟨by decide, by decide⟩ rfl (Nat.le_of_ble_eq_true rfl) ⟨Nat.le_refl 0, Nat.le_refl 0⟩ dX4_command_402 ?_
        have b82 := hSm.n
        refine r_ifP_eq (tgt := 429) C (by decide) dX4_command_405 (fun c83 => ?_) (fun c83 => ?_)
        · refine r_iconst C dX4_command_429 ?_
          have eF : coF k x y v F = F := (by unfold coF; (repeat' split) <;> first | (exfalso; omega) | rfl)
          exact r_iretH C rfl rfl (congrArg iI (by unfold coV; exact (pI_f (by unfold coD; omega)).symm)) hF (by rw [eF]; exact ⟨M, AP, (by repeat first | exact hMb | exact rg_up hMb (by decide) | refine rg_up ?_ (by omega) | refine rg_setL ?_ (by omega)), (by first | exact h0 | rfl | omega), (by first | exact h1 | rfl | omega), (by first | exact h2 | rfl | omega), hm, htr, hap⟩) dX4_command_430
        · refine r_aload_n C rfl (lv_at hl 1 rfl) dX4_command_408 ?_
          refine r_get C (ci := 4) (v := .ref (mb + 3)) rfl uin4 hm.o 4 (by decide) q_789 rfl rfl dX4_command_409 ?_
          refine r_iload_n C rfl (lv_at hl 3 rfl) dX4_command_412 ?_
          refine r_bipush C (by decide) dX4_command_413 ?_
          refine r_iload_n C rfl (lv_at hl 4 rfl) dX4_command_415 ?_
          refine r_iadd C dX4_command_416 ?_
          refine r_sPi (rest := []) C (k_X4_of l g (mb + 3) F hSm x (7 + y) x.toNat (7 + y.toNat) (by omega) (by omega) (by omega) (by omega)) s_RX4_49 htr hl.1 rfl ⟨by decide, by decide⟩ rfl (Nat.le_of_ble_eq_true rfl) ⟨Nat.le_refl 0, Nat.le_refl 0⟩ dX4_command_417 ?_
          have b84 := hSm.f x.toNat (7 + y.toNat) (by omega) (by omega)
          refine r_iload C (lv_at hl 5 rfl) dX4_command_420 ?_
          refine r_icmp_lt (tgt := 429) C (by decide) (by omega) (by omega) dX4_command_422 (fun c85 => ?_) (fun c85 => ?_)
          · refine r_iconst C dX4_command_429 ?_
            have eF : coF k x y v F = F := (by unfold coF; (repeat' split) <;> first | (exfalso; omega) | rfl)
            exact r_iretH C rfl rfl (congrArg iI (by unfold coV; exact (pI_f (by unfold coD; omega)).symm)) hF (by rw [eF]; exact ⟨M, AP, (by repeat first | exact hMb | exact rg_up hMb (by decide) | refine rg_up ?_ (by omega) | refine rg_setL ?_ (by omega)), (by first | exact h0 | rfl | omega), (by first | exact h1 | rfl | omega), (by first | exact h2 | rfl | omega), hm, htr, hap⟩) dX4_command_430
          · refine r_iconst C dX4_command_425 ?_
            refine r_goto (tgt := 430) C (by decide) dX4_command_426 ?_
            have eF : coF k x y v F = F := (by unfold coF; (repeat' split) <;> first | (exfalso; omega) | rfl)
            exact r_iretH C rfl rfl (congrArg iI (by unfold coV; exact (pI_t (by unfold coD; omega)).symm)) hF (by rw [eF]; exact ⟨M, AP, (by repeat first | exact hMb | exact rg_up hMb (by decide) | refine rg_up ?_ (by omega) | refine rg_setL ?_ (by omega)), (by first | exact h0 | rfl | omega), (by first | exact h1 | rfl | omega), (by first | exact h2 | rfl | omega), hm, htr, hap⟩) dX4_command_430
    refine r_tsOut (tgt := 431) C (by omega) (by omega) (by decide) dX4_command_12 ?_
    refine r_iconst C dX4_command_431 ?_
    have eF : coF k x y v F = F := (by unfold coF; (repeat' split) <;> first | (exfalso; omega) | rfl)
    exact r_iretH C rfl rfl (congrArg iI (by unfold coV; exact (pI_f (by unfold coD; omega)).symm)) hF (by rw [eF]; exact ⟨M, AP, (by repeat first | exact hMb | exact rg_up hMb (by decide) | refine rg_up ?_ (by omega) | refine rg_setL ?_ (by omega)), (by first | exact h0 | rfl | omega), (by first | exact h1 | rfl | omega), (by first | exact h2 | rfl | omega), hm, htr, hap⟩) dX4_command_432

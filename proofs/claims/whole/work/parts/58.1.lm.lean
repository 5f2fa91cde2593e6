theorem s_RL_7 : SiteV "LentRoomLaw" 7 "LentRoom" yX3_append cX3_append 2 (some .int) 1 := ⟨⟨q_270, q_271, q_272, q_30, q_273⟩, rfl, by decide, by decide, by decide +kernel⟩
theorem s_RL_17 : SiteV "LentRoomLaw" 17 "LentRoom" yX3_load cX3_load 3 (some .int) 0 := ⟨⟨q_369, q_370, q_371, q_30, q_372⟩, rfl, by decide, by decide, by decide +kernel⟩
theorem s_RL_21 : SiteV "LentRoomLaw" 21 "LentRoom" yX3_about cX3_about 2 (some .int) 1 := ⟨⟨q_492, q_493, q_494, q_30, q_495⟩, rfl, by decide, by decide, by decide +kernel⟩
theorem s_RL_24 : SiteV "LentRoomLaw" 24 "LentRoom" yX3_space cX3_space 3 (some .int) 2 := ⟨⟨q_521, q_522, q_523, q_30, q_524⟩, rfl, by decide, by decide, by decide +kernel⟩
theorem s_RL_30 : SiteV "LentRoomLaw" 30 "LentRoom" yX3_loans cX3_loans 3 (some .int) 2 := ⟨⟨q_561, q_562, q_563, q_30, q_564⟩, rfl, by decide, by decide, by decide +kernel⟩
theorem s_RL_33 : SiteV "LentRoomLaw" 33 "LentRoom" yX3_time cX3_time 3 (some .int) 2 := ⟨⟨q_568, q_569, q_570, q_30, q_571⟩, rfl, by decide, by decide, by decide +kernel⟩
theorem s_RL_36 : SiteV "LentRoomLaw" 36 "LentRoom" yX3_oldest cX3_oldest 3 (some .int) 2 := ⟨⟨q_582, q_583, q_584, q_30, q_585⟩, rfl, by decide, by decide, by decide +kernel⟩
theorem s_RL_39 : SiteV "LentRoomLaw" 39 "LentRoom" yX3_make cX3_make 3 (some .int) 2 := ⟨⟨q_594, q_595, q_596, q_30, q_597⟩, rfl, by decide, by decide, by decide +kernel⟩
set_option maxHeartbeats 4000000 in
theorem k_L_append (l : Launch) (hst : l.stackTraces = false) (g : Gt) (kt : Kt) (b : Nat) (sz ac : Int) (TX F DIA KEP ISK : Nat → Int) (T : Int) (hJ : J F z0 T) (hT : T ≤ 900000) (x : Int) (hx : Rg x) (hsz : 0 ≤ sz ∧ sz ≤ 120) (TX : Nat → Int) (hTX : ∀ k : Nat, k < 120 → 0 ≤ TX k ∧ TX k ≤ 255)  (ob : Nat) (hob : b + 407 ≤ ob) : LM l yL_append cL_append 4 [(0, 9, 12, 13), (0, 9, 15, 15)] 7 111 1 g kt [.ref b, .int (iI x), .ref ob] b ob (CW g b sz ac TX F DIA KEP ISK) (CW g b (sz + 1) ac (up TX sz.toNat x) F DIA KEP ISK) (if ¬ (0 ≤ x ∧ x ≤ 255) then 1 else if sz = 120 then 2 else 0) (iI (sz + 1)).toInt64 := by
  refine lm_of (by decide) rfl (Nat.le_of_ble_eq_true rfl) ?_
  intro zp ze zs zm za zb zt zc ls C K9 ht9 hP hl
  obtain ⟨hP, fo, hO⟩ := hP
  have hlt := hO.lt
  have hl : lv_has ls 4 [(0, .ref b), (1, .int (iI x)), (2, .ref ob)] := hl
  refine r_aload_n C rfl (lv_at hl 2 rfl) dL_append_0 ?_
  refine r_iconst C dL_append_1 ?_
  refine r_aload_n C rfl (lv_at hl 0 rfl) dL_append_2 ?_
  refine r_iload_n C rfl (lv_at hl 1 rfl) dL_append_3 ?_
  refine r_vXMi (rest := [.int (iI 0), .ref ob]) C K9 (k_X3_append l hst g kt b sz ac TX F DIA KEP ISK T hJ hT x hx hsz TX hTX) s_RL_7 hP (recv C (ci := 3) rfl hP.lr.o) hl.1 rfl ⟨by decide, by decide⟩ rfl (Nat.le_of_ble_eq_true rfl) ⟨by decide, by decide⟩ dL_append_4 (fun H1 q ce L9 hK h1 h2 hL h3 h4 h5 => ?_) (fun H1 L9 hK hP1 h1 h2 hL => ?_)
  · have hold : (CW g b sz ac TX F DIA KEP ISK) H1 ∧ ∃ f, lAt g ob 1 f H1 := ⟨hP.kept (fun q h8 h9 => h2 q (by omega)), fo, hO.kept (h2 _ hlt)⟩
    have hc : ((if ¬ (0 ≤ x ∧ x ≤ 255) then 1 else if sz = 120 then 2 else 0) : Int) = 1 ∨ ((if ¬ (0 ≤ x ∧ x ≤ 255) then 1 else if sz = 120 then 2 else 0) : Int) = 2 := by revert hK; (repeat' split) <;> (intro hK; omega)
    rcases hc with e9 | e9
    · rw [e9] at h5
      refine lm_catch (E := eIA) C K9.1 [] (0, 9, 12, 13) [(0, 9, 15, 15)] ht9 (fun z hz => by cases hz) (by decide) (by decide) q_268 (by decide) h3 h4 h5 ?_
      refine r_astore_n C rfl hl (by decide) rfl dL_append_12 (fun ls hl => ?_)
      refine r_iconst C dL_append_13 ?_
      exact r_iretL C rfl (by rw [e9]) (fun z => absurd z hK) (fun _ => hold) h1 (fun q hq _ => h2 q hq) (fun x hx => Or.inl (hL x hx)) (Nat.le_of_ble_eq_true rfl) (Nat.le_of_ble_eq_true rfl) dL_append_14
    · rw [e9] at h5
      refine lm_catch (E := eIS) C K9.1 [(0, 9, 12, 13)] (0, 9, 15, 15) [] ht9 (fun z hz => by rw [List.mem_singleton.mp hz]; exact ⟨by decide, _, q_268, by decide⟩) (by decide) (by decide) q_269 (by decide) h3 h4 h5 ?_
      refine r_astore_n C rfl hl (by decide) rfl dL_append_15 (fun ls hl => ?_)
      refine r_iconst C dL_append_16 ?_
      exact r_iretL C rfl (by rw [e9]) (fun z => absurd z hK) (fun _ => hold) h1 (fun q hq _ => h2 q hq) (fun x hx => Or.inl (hL x hx)) (Nat.le_of_ble_eq_true rfl) (Nat.le_of_ble_eq_true rfl) dL_append_17
  · refine r_i2lR C dL_append_7 ?_
    refine r_last C (hO.kept (h2 _ (fun h => by obtain ⟨h8, h9⟩ := h; omega))) 0 rfl (by decide) (by decide) dL_append_8 (fun H2 hO2 o2 z2 => ?_)
    refine r_goto (tgt := 18) C (by decide) dL_append_9 ?_
    refine r_iconst C dL_append_18 ?_
    refine r_iretL C rfl (by rw [hK]) (fun _ => ⟨hP1.kept (fun q h8 h9 => o2 q (by omega)), hO2.cg (fun j hj => if_pos (by omega))⟩) (fun z => absurd hK z) (by omega) (fun q hq hn => (o2 q (fun z => hn (Or.inr z))).trans (h2 q (fun z => hn (Or.inl z)))) (fun x hx => ?_) (Nat.le_of_ble_eq_true rfl) (Nat.le_of_ble_eq_true rfl) dL_append_19
    rcases List.mem_append.mp hx with h9 | h9
    · exact Or.inl (hL x h9)
    · rw [List.mem_singleton.mp h9]
      exact Or.inr rfl
set_option maxHeartbeats 4000000 in
theorem k_L_load (l : Launch) (hst : l.stackTraces = false) (g : Gt) (kt : Kt) (b : Nat) (sz ac : Int) (TX F DIA KEP ISK : Nat → Int) (T : Int) (hJ : J F z0 T) (hT : T ≤ 900000) (TX : Nat → Int) (hTX : ∀ k : Nat, k < 120 → 0 ≤ TX k ∧ TX k ≤ 255) (n : Nat) (hsz : sz = (n : Int)) (hn : n ≤ 120) (ob : Nat) (hob : b + 407 ≤ ob) : LM l yL_load cL_load 3 [(0, 8, 11, 15)] 7 165 1 g kt [.ref b, .ref ob] b ob (CW g b sz ac TX F DIA KEP ISK) (CW g b sz 0 TX (txF TX n) DIA KEP (up (up ISK 0 0) 1 0)) (Kd (txE TX n = -1)) (iI (txO TX n)).toInt64 := by
  refine lm_of (by decide) rfl (Nat.le_of_ble_eq_true rfl) ?_
  intro zp ze zs zm za zb zt zc ls C K9 ht9 hP hl
  obtain ⟨hP, fo, hO⟩ := hP
  have hlt := hO.lt
  have hl : lv_has ls 3 [(0, .ref b), (1, .ref ob)] := hl
  refine r_aload_n C rfl (lv_at hl 1 rfl) dL_load_0 ?_
  refine r_iconst C dL_load_1 ?_
  refine r_aload_n C rfl (lv_at hl 0 rfl) dL_load_2 ?_
  refine r_vXMi (rest := [.int (iI 0), .ref ob]) C K9 (k_X3_load l hst g kt b sz ac TX F DIA KEP ISK T hJ hT TX hTX n hsz hn) s_RL_17 hP (recv C (ci := 3) rfl hP.lr.o) hl.1 rfl ⟨by decide, by decide⟩ rfl (Nat.le_of_ble_eq_true rfl) ⟨by decide, by decide⟩ dL_load_3 (fun H1 q ce L9 hK h1 h2 hL h3 h4 h5 => ?_) (fun H1 L9 hK hP1 h1 h2 hL => ?_)
  · have hold : (CW g b sz ac TX F DIA KEP ISK) H1 ∧ ∃ f, lAt g ob 1 f H1 := ⟨hP.kept (fun q h8 h9 => h2 q (by omega)), fo, hO.kept (h2 _ hlt)⟩
    have hc : ((Kd (txE TX n = -1)) : Int) = 1 := by exact (Kd_n hK).1
    have e9 := hc
    rw [e9] at h5
    refine lm_catch (E := eIS) C K9.1 [] (0, 8, 11, 15) [] ht9 (fun z hz => by cases hz) (by decide) (by decide) q_269 (by decide) h3 h4 h5 ?_
    refine r_astore_n C rfl hl (by decide) rfl dL_load_11 (fun ls hl => ?_)
    refine r_iconst C dL_load_12 ?_
    exact r_iretL C rfl (by rw [e9]) (fun z => absurd z hK) (fun _ => hold) h1 (fun q hq _ => h2 q hq) (fun x hx => Or.inl (hL x hx)) (Nat.le_of_ble_eq_true rfl) (Nat.le_of_ble_eq_true rfl) dL_load_13
  · refine r_i2lR C dL_load_6 ?_
    refine r_last C (hO.kept (h2 _ (fun h => by obtain ⟨h8, h9⟩ := h; omega))) 0 rfl (by decide) (by decide) dL_load_7 (fun H2 hO2 o2 z2 => ?_)
    refine r_goto (tgt := 14) C (by decide) dL_load_8 ?_
    refine r_iconst C dL_load_14 ?_
    refine r_iretL C rfl (by rw [hK]) (fun _ => ⟨hP1.kept (fun q h8 h9 => o2 q (by omega)), hO2.cg (fun j hj => if_pos (by omega))⟩) (fun z => absurd hK z) (by omega) (fun q hq hn => (o2 q (fun z => hn (Or.inr z))).trans (h2 q (fun z => hn (Or.inl z)))) (fun x hx => ?_) (Nat.le_of_ble_eq_true rfl) (Nat.le_of_ble_eq_true rfl) dL_load_15
    rcases List.mem_append.mp hx with h9 | h9
    · exact Or.inl (hL x h9)
    · rw [List.mem_singleton.mp h9]
      exact Or.inr rfl
set_option maxHeartbeats 4000000 in
theorem k_L_about (l : Launch) (hst : l.stackTraces = false) (g : Gt) (kt : Kt) (b : Nat) (sz ac : Int) (TX F DIA KEP ISK : Nat → Int) (T : Int) (hJ : J F z0 T) (hT : T ≤ 900000) (x : Int) (hx : Rg x) (ob : Nat) (hob : b + 407 ≤ ob) : LM l yL_about cL_about 4 [(0, 9, 12, 13)] 7 111 1 g kt [.ref b, .int (iI x), .ref ob] b ob (CW g b sz ac TX F DIA KEP ISK) (CW g b sz ac TX F DIA KEP ISK) (Kd (0 ≤ x ∧ x ≤ 8)) (iI (nAll F x)).toInt64 := by
  refine lm_of (by decide) rfl (Nat.le_of_ble_eq_true rfl) ?_
  intro zp ze zs zm za zb zt zc ls C K9 ht9 hP hl
  obtain ⟨hP, fo, hO⟩ := hP
  have hlt := hO.lt
  have hl : lv_has ls 4 [(0, .ref b), (1, .int (iI x)), (2, .ref ob)] := hl
  refine r_aload_n C rfl (lv_at hl 2 rfl) dL_about_0 ?_
  refine r_iconst C dL_about_1 ?_
  refine r_aload_n C rfl (lv_at hl 0 rfl) dL_about_2 ?_
  refine r_iload_n C rfl (lv_at hl 1 rfl) dL_about_3 ?_
  refine r_vXMi (rest := [.int (iI 0), .ref ob]) C K9 (k_X3_about l hst g kt b sz ac TX F DIA KEP ISK T hJ hT x hx) s_RL_21 hP (recv C (ci := 3) rfl hP.lr.o) hl.1 rfl ⟨by decide, by decide⟩ rfl (Nat.le_of_ble_eq_true rfl) ⟨by decide, by decide⟩ dL_about_4 (fun H1 q ce L9 hK h1 h2 hL h3 h4 h5 => ?_) (fun H1 L9 hK hP1 h1 h2 hL => ?_)
  · have hold : (CW g b sz ac TX F DIA KEP ISK) H1 ∧ ∃ f, lAt g ob 1 f H1 := ⟨hP.kept (fun q h8 h9 => h2 q (by omega)), fo, hO.kept (h2 _ hlt)⟩
    have hc : ((Kd (0 ≤ x ∧ x ≤ 8)) : Int) = 1 := by exact (Kd_n hK).1
    have e9 := hc
    rw [e9] at h5
    refine lm_catch (E := eIA) C K9.1 [] (0, 9, 12, 13) [] ht9 (fun z hz => by cases hz) (by decide) (by decide) q_268 (by decide) h3 h4 h5 ?_
    refine r_astore_n C rfl hl (by decide) rfl dL_about_12 (fun ls hl => ?_)
    refine r_iconst C dL_about_13 ?_
    exact r_iretL C rfl (by rw [e9]) (fun z => absurd z hK) (fun _ => hold) h1 (fun q hq _ => h2 q hq) (fun x hx => Or.inl (hL x hx)) (Nat.le_of_ble_eq_true rfl) (Nat.le_of_ble_eq_true rfl) dL_about_14
  · refine r_i2lR C dL_about_7 ?_
    refine r_last C (hO.kept (h2 _ (fun h => by obtain ⟨h8, h9⟩ := h; omega))) 0 rfl (by decide) (by decide) dL_about_8 (fun H2 hO2 o2 z2 => ?_)
    refine r_goto (tgt := 15) C (by decide) dL_about_9 ?_
    refine r_iconst C dL_about_15 ?_
    refine r_iretL C rfl (by rw [hK]) (fun _ => ⟨hP1.kept (fun q h8 h9 => o2 q (by omega)), hO2.cg (fun j hj => if_pos (by omega))⟩) (fun z => absurd hK z) (by omega) (fun q hq hn => (o2 q (fun z => hn (Or.inr z))).trans (h2 q (fun z => hn (Or.inl z)))) (fun x hx => ?_) (Nat.le_of_ble_eq_true rfl) (Nat.le_of_ble_eq_true rfl) dL_about_16
    rcases List.mem_append.mp hx with h9 | h9
    · exact Or.inl (hL x h9)
    · rw [List.mem_singleton.mp h9]
      exact Or.inr rfl
set_option maxHeartbeats 4000000 in
theorem k_L_space (l : Launch) (hst : l.stackTraces = false) (g : Gt) (kt : Kt) (b : Nat) (sz ac : Int) (TX F DIA KEP ISK : Nat → Int) (T : Int) (hJ : J F z0 T) (hT : T ≤ 900000) (x : Int) (hx : Rg x) (s : Nat) (hs : 0 ≤ x → x = (s : Int)) (y : Int) (hy : Rg y) (ob : Nat) (hob : b + 407 ≤ ob) : LM l yL_space cL_space 5 [(0, 10, 13, 28), (0, 10, 17, 13)] 8 133 2 g kt [.ref b, .int (iI x), .int (iI y), .ref ob] b ob (CW g b sz ac TX F DIA KEP ISK) (CW g b sz ac TX F DIA KEP ISK) (if ¬ (0 ≤ x ∧ x < F 0) then 1 else if ¬ (0 ≤ y ∧ y ≤ 10) then 2 else 0) (iI (nOf F s y)).toInt64 := by
  refine lm_of (by decide) rfl (Nat.le_of_ble_eq_true rfl) ?_
  intro zp ze zs zm za zb zt zc ls C K9 ht9 hP hl
  obtain ⟨hP, fo, hO⟩ := hP
  have hlt := hO.lt
  have hl : lv_has ls 5 [(0, .ref b), (1, .int (iI x)), (2, .int (iI y)), (3, .ref ob)] := hl
  refine r_aload_n C rfl (lv_at hl 3 rfl) dL_space_0 ?_
  refine r_iconst C dL_space_1 ?_
  refine r_aload_n C rfl (lv_at hl 0 rfl) dL_space_2 ?_
  refine r_iload_n C rfl (lv_at hl 1 rfl) dL_space_3 ?_
  refine r_iload_n C rfl (lv_at hl 2 rfl) dL_space_4 ?_
  refine r_vXMi (rest := [.int (iI 0), .ref ob]) C K9 (k_X3_space l hst g kt b sz ac TX F DIA KEP ISK T hJ hT x hx s hs y hy) s_RL_24 hP (recv C (ci := 3) rfl hP.lr.o) hl.1 rfl ⟨by decide, by decide⟩ rfl (Nat.le_of_ble_eq_true rfl) ⟨by decide, by decide⟩ dL_space_5 (fun H1 q ce L9 hK h1 h2 hL h3 h4 h5 => ?_) (fun H1 L9 hK hP1 h1 h2 hL => ?_)
  · have hold : (CW g b sz ac TX F DIA KEP ISK) H1 ∧ ∃ f, lAt g ob 1 f H1 := ⟨hP.kept (fun q h8 h9 => h2 q (by omega)), fo, hO.kept (h2 _ hlt)⟩
    have hc : ((if ¬ (0 ≤ x ∧ x < F 0) then 1 else if ¬ (0 ≤ y ∧ y ≤ 10) then 2 else 0) : Int) = 1 ∨ ((if ¬ (0 ≤ x ∧ x < F 0) then 1 else if ¬ (0 ≤ y ∧ y ≤ 10) then 2 else 0) : Int) = 2 := by revert hK; (repeat' split) <;> (intro hK; omega)
    rcases hc with e9 | e9
    · rw [e9] at h5
      refine lm_catch (E := eIB) C K9.1 [] (0, 10, 13, 28) [(0, 10, 17, 13)] ht9 (fun z hz => by cases hz) (by decide) (by decide) q_520 (by decide) h3 h4 h5 ?_
      refine r_astore C hl (by decide) rfl dL_space_13 (fun ls hl => ?_)
      refine r_iconst C dL_space_15 ?_
      exact r_iretL C rfl (by rw [e9]) (fun z => absurd z hK) (fun _ => hold) h1 (fun q hq _ => h2 q hq) (fun x hx => Or.inl (hL x hx)) (Nat.le_of_ble_eq_true rfl) (Nat.le_of_ble_eq_true rfl) dL_space_16
    · rw [e9] at h5
      refine lm_catch (E := eIA) C K9.1 [(0, 10, 13, 28)] (0, 10, 17, 13) [] ht9 (fun z hz => by rw [List.mem_singleton.mp hz]; exact ⟨by decide, _, q_520, by decide⟩) (by decide) (by decide) q_268 (by decide) h3 h4 h5 ?_
      refine r_astore C hl (by decide) rfl dL_space_17 (fun ls hl => ?_)
      refine r_iconst C dL_space_19 ?_
      exact r_iretL C rfl (by rw [e9]) (fun z => absurd z hK) (fun _ => hold) h1 (fun q hq _ => h2 q hq) (fun x hx => Or.inl (hL x hx)) (Nat.le_of_ble_eq_true rfl) (Nat.le_of_ble_eq_true rfl) dL_space_20
  · refine r_i2lR C dL_space_8 ?_
    refine r_last C (hO.kept (h2 _ (fun h => by obtain ⟨h8, h9⟩ := h; omega))) 0 rfl (by decide) (by decide) dL_space_9 (fun H2 hO2 o2 z2 => ?_)
    refine r_goto (tgt := 21) C (by decide) dL_space_10 ?_
    refine r_iconst C dL_space_21 ?_
    refine r_iretL C rfl (by rw [hK]) (fun _ => ⟨hP1.kept (fun q h8 h9 => o2 q (by omega)), hO2.cg (fun j hj => if_pos (by omega))⟩) (fun z => absurd hK z) (by omega) (fun q hq hn => (o2 q (fun z => hn (Or.inr z))).trans (h2 q (fun z => hn (Or.inl z)))) (fun x hx => ?_) (Nat.le_of_ble_eq_true rfl) (Nat.le_of_ble_eq_true rfl) dL_space_22
    rcases List.mem_append.mp hx with h9 | h9
    · exact Or.inl (hL x h9)
    · rw [List.mem_singleton.mp h9]
      exact Or.inr rfl
set_option maxHeartbeats 4000000 in
theorem k_L_loans (l : Launch) (hst : l.stackTraces = false) (g : Gt) (kt : Kt) (b : Nat) (sz ac : Int) (TX F DIA KEP ISK : Nat → Int) (T : Int) (hJ : J F z0 T) (hT : T ≤ 900000) (x y : Int) (hx : Rg x) (hy : Rg y) (s k : Nat) (hs : 0 ≤ x → x = (s : Int)) (hk : 0 ≤ y → y = (k : Int)) (ob : Nat) (hob : b + 407 ≤ ob) : LM l yL_loans cL_loans 5 [(0, 10, 13, 28)] 8 133 2 g kt [.ref b, .int (iI x), .int (iI y), .ref ob] b ob (CW g b sz ac TX F DIA KEP ISK) (CW g b sz ac TX F DIA KEP ISK) (Kd ((0 ≤ x ∧ x < F 0) ∧ (0 ≤ y ∧ y < F 0))) (iI (F (2 + 52 * s + (7 + k)))).toInt64 := by
  refine lm_of (by decide) rfl (Nat.le_of_ble_eq_true rfl) ?_
  intro zp ze zs zm za zb zt zc ls C K9 ht9 hP hl
  obtain ⟨hP, fo, hO⟩ := hP
  have hlt := hO.lt
  have hl : lv_has ls 5 [(0, .ref b), (1, .int (iI x)), (2, .int (iI y)), (3, .ref ob)] := hl
  refine r_aload_n C rfl (lv_at hl 3 rfl) dL_loans_0 ?_
  refine r_iconst C dL_loans_1 ?_
  refine r_aload_n C rfl (lv_at hl 0 rfl) dL_loans_2 ?_
  refine r_iload_n C rfl (lv_at hl 1 rfl) dL_loans_3 ?_
  refine r_iload_n C rfl (lv_at hl 2 rfl) dL_loans_4 ?_
  refine r_vXMi (rest := [.int (iI 0), .ref ob]) C K9 (k_X3_loans l hst g kt b sz ac TX F DIA KEP ISK T hJ hT x y hx hy s k hs hk) s_RL_30 hP (recv C (ci := 3) rfl hP.lr.o) hl.1 rfl ⟨by decide, by decide⟩ rfl (Nat.le_of_ble_eq_true rfl) ⟨by decide, by decide⟩ dL_loans_5 (fun H1 q ce L9 hK h1 h2 hL h3 h4 h5 => ?_) (fun H1 L9 hK hP1 h1 h2 hL => ?_)
  · have hold : (CW g b sz ac TX F DIA KEP ISK) H1 ∧ ∃ f, lAt g ob 1 f H1 := ⟨hP.kept (fun q h8 h9 => h2 q (by omega)), fo, hO.kept (h2 _ hlt)⟩
    have hc : ((Kd ((0 ≤ x ∧ x < F 0) ∧ (0 ≤ y ∧ y < F 0))) : Int) = 1 := by exact (Kd_n hK).1
    have e9 := hc
    rw [e9] at h5
    refine lm_catch (E := eIB) C K9.1 [] (0, 10, 13, 28) [] ht9 (fun z hz => by cases hz) (by decide) (by decide) q_520 (by decide) h3 h4 h5 ?_
    refine r_astore C hl (by decide) rfl dL_loans_13 (fun ls hl => ?_)
    refine r_iconst C dL_loans_15 ?_
    exact r_iretL C rfl (by rw [e9]) (fun z => absurd z hK) (fun _ => hold) h1 (fun q hq _ => h2 q hq) (fun x hx => Or.inl (hL x hx)) (Nat.le_of_ble_eq_true rfl) (Nat.le_of_ble_eq_true rfl) dL_loans_16
  · refine r_i2lR C dL_loans_8 ?_
    refine r_last C (hO.kept (h2 _ (fun h => by obtain ⟨h8, h9⟩ := h; omega))) 0 rfl (by decide) (by decide) dL_loans_9 (fun H2 hO2 o2 z2 => ?_)
    refine r_goto (tgt := 17) C (by decide) dL_loans_10 ?_
    refine r_iconst C dL_loans_17 ?_
    refine r_iretL C rfl (by rw [hK]) (fun _ => ⟨hP1.kept (fun q h8 h9 => o2 q (by omega)), hO2.cg (fun j hj => if_pos (by omega))⟩) (fun z => absurd hK z) (by omega) (fun q hq hn => (o2 q (fun z => hn (Or.inr z))).trans (h2 q (fun z => hn (Or.inl z)))) (fun x hx => ?_) (Nat.le_of_ble_eq_true rfl) (Nat.le_of_ble_eq_true rfl) dL_loans_18
    rcases List.mem_append.mp hx with h9 | h9
    · exact Or.inl (hL x h9)
    · rw [List.mem_singleton.mp h9]
      exact Or.inr rfl
set_option maxHeartbeats 4000000 in
theorem k_L_time (l : Launch) (hst : l.stackTraces = false) (g : Gt) (kt : Kt) (b : Nat) (sz ac : Int) (TX F DIA KEP ISK : Nat → Int) (T : Int) (hJ : J F z0 T) (hT : T ≤ 900000) (x y : Int) (hx : Rg x) (hy : Rg y) (s k : Nat) (hs : 0 ≤ x → x = (s : Int)) (hk : 0 ≤ y → y = (k : Int)) (ob : Nat) (hob : b + 407 ≤ ob) : LM l yL_time cL_time 5 [(0, 10, 13, 28)] 8 134 1 g kt [.ref b, .int (iI x), .int (iI y), .ref ob] b ob (CW g b sz ac TX F DIA KEP ISK) (CW g b sz ac TX F DIA KEP ISK) (Kd ((0 ≤ x ∧ x < F 0) ∧ (0 ≤ y ∧ y < 40))) (iI ((if F (2 + 52 * s + (12 + k)) = 0 then -1 else F (2 + 52 * s + (12 + k))))).toInt64 := by
  refine lm_of (by decide) rfl (Nat.le_of_ble_eq_true rfl) ?_
  intro zp ze zs zm za zb zt zc ls C K9 ht9 hP hl
  obtain ⟨hP, fo, hO⟩ := hP
  have hlt := hO.lt
  have hl : lv_has ls 5 [(0, .ref b), (1, .int (iI x)), (2, .int (iI y)), (3, .ref ob)] := hl
  refine r_aload_n C rfl (lv_at hl 3 rfl) dL_time_0 ?_
  refine r_iconst C dL_time_1 ?_
  refine r_aload_n C rfl (lv_at hl 0 rfl) dL_time_2 ?_
  refine r_iload_n C rfl (lv_at hl 1 rfl) dL_time_3 ?_
  refine r_iload_n C rfl (lv_at hl 2 rfl) dL_time_4 ?_
  refine r_vXMi (rest := [.int (iI 0), .ref ob]) C K9 (k_X3_time l hst g kt b sz ac TX F DIA KEP ISK T hJ hT x y hx hy s k hs hk) s_RL_33 hP (recv C (ci := 3) rfl hP.lr.o) hl.1 rfl ⟨by decide, by decide⟩ rfl (Nat.le_of_ble_eq_true rfl) ⟨by decide, by decide⟩ dL_time_5 (fun H1 q ce L9 hK h1 h2 hL h3 h4 h5 => ?_) (fun H1 L9 hK hP1 h1 h2 hL => ?_)
  · have hold : (CW g b sz ac TX F DIA KEP ISK) H1 ∧ ∃ f, lAt g ob 1 f H1 := ⟨hP.kept (fun q h8 h9 => h2 q (by omega)), fo, hO.kept (h2 _ hlt)⟩
    have hc : ((Kd ((0 ≤ x ∧ x < F 0) ∧ (0 ≤ y ∧ y < 40))) : Int) = 1 := by exact (Kd_n hK).1
    have e9 := hc
    rw [e9] at h5
    refine lm_catch (E := eIB) C K9.1 [] (0, 10, 13, 28) [] ht9 (fun z hz => by cases hz) (by decide) (by decide) q_520 (by decide) h3 h4 h5 ?_
    refine r_astore C hl (by decide) rfl dL_time_13 (fun ls hl => ?_)
    refine r_iconst C dL_time_15 ?_
    exact r_iretL C rfl (by rw [e9]) (fun z => absurd z hK) (fun _ => hold) h1 (fun q hq _ => h2 q hq) (fun x hx => Or.inl (hL x hx)) (Nat.le_of_ble_eq_true rfl) (Nat.le_of_ble_eq_true rfl) dL_time_16
  · refine r_i2lR C dL_time_8 ?_
    refine r_last C (hO.kept (h2 _ (fun h => by obtain ⟨h8, h9⟩ := h; omega))) 0 rfl (by decide) (by decide) dL_time_9 (fun H2 hO2 o2 z2 => ?_)
    refine r_goto (tgt := 17) C (by decide) dL_time_10 ?_
    refine r_iconst C dL_time_17 ?_
    refine r_iretL C rfl (by rw [hK]) (fun _ => ⟨hP1.kept (fun q h8 h9 => o2 q (by omega)), hO2.cg (fun j hj => if_pos (by omega))⟩) (fun z => absurd hK z) (by omega) (fun q hq hn => (o2 q (fun z => hn (Or.inr z))).trans (h2 q (fun z => hn (Or.inl z)))) (fun x hx => ?_) (Nat.le_of_ble_eq_true rfl) (Nat.le_of_ble_eq_true rfl) dL_time_18
    rcases List.mem_append.mp hx with h9 | h9
    · exact Or.inl (hL x h9)
    · rw [List.mem_singleton.mp h9]
      exact Or.inr rfl
set_option maxHeartbeats 4000000 in
theorem k_L_oldest (l : Launch) (hst : l.stackTraces = false) (g : Gt) (kt : Kt) (b : Nat) (sz ac : Int) (TX F DIA KEP ISK : Nat → Int) (T : Int) (hJ : J F z0 T) (hT : T ≤ 900000) (x : Int) (hx : Rg x) (s : Nat) (hs : 0 ≤ x → x = (s : Int)) (y : Int) (hy : Rg y) (ob : Nat) (hob : b + 407 ≤ ob) : LM l yL_oldest cL_oldest 5 [(0, 10, 13, 28), (0, 10, 17, 13)] 8 133 2 g kt [.ref b, .int (iI x), .int (iI y), .ref ob] b ob (CW g b sz ac TX F DIA KEP ISK) (CW g b sz ac TX F DIA KEP ISK) (if ¬ (0 ≤ x ∧ x < F 0) then 1 else if y < 0 then 2 else 0) (iI (od F s y 40 0)).toInt64 := by
  refine lm_of (by decide) rfl (Nat.le_of_ble_eq_true rfl) ?_
  intro zp ze zs zm za zb zt zc ls C K9 ht9 hP hl
  obtain ⟨hP, fo, hO⟩ := hP
  have hlt := hO.lt
  have hl : lv_has ls 5 [(0, .ref b), (1, .int (iI x)), (2, .int (iI y)), (3, .ref ob)] := hl
  refine r_aload_n C rfl (lv_at hl 3 rfl) dL_oldest_0 ?_
  refine r_iconst C dL_oldest_1 ?_
  refine r_aload_n C rfl (lv_at hl 0 rfl) dL_oldest_2 ?_
  refine r_iload_n C rfl (lv_at hl 1 rfl) dL_oldest_3 ?_
  refine r_iload_n C rfl (lv_at hl 2 rfl) dL_oldest_4 ?_
  refine r_vXMi (rest := [.int (iI 0), .ref ob]) C K9 (k_X3_oldest l hst g kt b sz ac TX F DIA KEP ISK T hJ hT x hx s hs y hy) s_RL_36 hP (recv C (ci := 3) rfl hP.lr.o) hl.1 rfl ⟨by decide, by decide⟩ rfl (Nat.le_of_ble_eq_true rfl) ⟨by decide, by decide⟩ dL_oldest_5 (fun H1 q ce L9 hK h1 h2 hL h3 h4 h5 => ?_) (fun H1 L9 hK hP1 h1 h2 hL => ?_)
  · have hold : (CW g b sz ac TX F DIA KEP ISK) H1 ∧ ∃ f, lAt g ob 1 f H1 := ⟨hP.kept (fun q h8 h9 => h2 q (by omega)), fo, hO.kept (h2 _ hlt)⟩
    have hc : ((if ¬ (0 ≤ x ∧ x < F 0) then 1 else if y < 0 then 2 else 0) : Int) = 1 ∨ ((if ¬ (0 ≤ x ∧ x < F 0) then 1 else if y < 0 then 2 else 0) : Int) = 2 := by revert hK; (repeat' split) <;> (intro hK; omega)
    rcases hc with e9 | e9
    · rw [e9] at h5
      refine lm_catch (E := eIB) C K9.1 [] (0, 10, 13, 28) [(0, 10, 17, 13)] ht9 (fun z hz => by cases hz) (by decide) (by decide) q_520 (by decide) h3 h4 h5 ?_
      refine r_astore C hl (by decide) rfl dL_oldest_13 (fun ls hl => ?_)
      refine r_iconst C dL_oldest_15 ?_
      exact r_iretL C rfl (by rw [e9]) (fun z => absurd z hK) (fun _ => hold) h1 (fun q hq _ => h2 q hq) (fun x hx => Or.inl (hL x hx)) (Nat.le_of_ble_eq_true rfl) (Nat.le_of_ble_eq_true rfl) dL_oldest_16
    · rw [e9] at h5
      refine lm_catch (E := eIA) C K9.1 [(0, 10, 13, 28)] (0, 10, 17, 13) [] ht9 (fun z hz => by rw [List.mem_singleton.mp hz]; exact ⟨by decide, _, q_520, by decide⟩) (by decide) (by decide) q_268 (by decide) h3 h4 h5 ?_
      refine r_astore C hl (by decide) rfl dL_oldest_17 (fun ls hl => ?_)
      refine r_iconst C dL_oldest_19 ?_
      exact r_iretL C rfl (by rw [e9]) (fun z => absurd z hK) (fun _ => hold) h1 (fun q hq _ => h2 q hq) (fun x hx => Or.inl (hL x hx)) (Nat.le_of_ble_eq_true rfl) (Nat.le_of_ble_eq_true rfl) dL_oldest_20
  · refine r_i2lR C dL_oldest_8 ?_
    refine r_last C (hO.kept (h2 _ (fun h => by obtain ⟨h8, h9⟩ := h; omega))) 0 rfl (by decide) (by decide) dL_oldest_9 (fun H2 hO2 o2 z2 => ?_)
    refine r_goto (tgt := 21) C (by decide) dL_oldest_10 ?_
    refine r_iconst C dL_oldest_21 ?_
    refine r_iretL C rfl (by rw [hK]) (fun _ => ⟨hP1.kept (fun q h8 h9 => o2 q (by omega)), hO2.cg (fun j hj => if_pos (by omega))⟩) (fun z => absurd hK z) (by omega) (fun q hq hn => (o2 q (fun z => hn (Or.inr z))).trans (h2 q (fun z => hn (Or.inl z)))) (fun x hx => ?_) (Nat.le_of_ble_eq_true rfl) (Nat.le_of_ble_eq_true rfl) dL_oldest_22
    rcases List.mem_append.mp hx with h9 | h9
    · exact Or.inl (hL x h9)
    · rw [List.mem_singleton.mp h9]
      exact Or.inr rfl
set_option maxHeartbeats 4000000 in
theorem k_L_make (l : Launch) (hst : l.stackTraces = false) (g : Gt) (kt : Kt) (b : Nat) (sz ac : Int) (TX F DIA KEP ISK : Nat → Int) (T : Int) (hJ : J F z0 T) (hT : T ≤ 900000) (x y : Int) (hx : Rg x) (hy : Rg y) (hac : 0 ≤ ac ∧ ac ≤ 14) (ob : Nat) (hob : b + 407 ≤ ob) : LM l yL_make cL_make 5 [(0, 10, 13, 13), (0, 10, 17, 15)] 7 112 2 g kt [.ref b, .int (iI x), .int (iI y), .ref ob] b ob (CW g b sz ac TX F DIA KEP ISK) (CW g b sz (remA ac) TX (mkF F x y) (rem DIA F ac) KEP ISK) (whyMk F x y) (iI (F 0)).toInt64 := by
  refine lm_of (by decide) rfl (Nat.le_of_ble_eq_true rfl) ?_
  intro zp ze zs zm za zb zt zc ls C K9 ht9 hP hl
  obtain ⟨hP, fo, hO⟩ := hP
  have hlt := hO.lt
  have hl : lv_has ls 5 [(0, .ref b), (1, .int (iI x)), (2, .int (iI y)), (3, .ref ob)] := hl
  refine r_aload_n C rfl (lv_at hl 3 rfl) dL_make_0 ?_
  refine r_iconst C dL_make_1 ?_
  refine r_aload_n C rfl (lv_at hl 0 rfl) dL_make_2 ?_
  refine r_iload_n C rfl (lv_at hl 1 rfl) dL_make_3 ?_
  refine r_iload_n C rfl (lv_at hl 2 rfl) dL_make_4 ?_
  refine r_vXMi (rest := [.int (iI 0), .ref ob]) C K9 (k_X3_make l hst g kt b sz ac TX F DIA KEP ISK T hJ hT x y hx hy hac) s_RL_39 hP (recv C (ci := 3) rfl hP.lr.o) hl.1 rfl ⟨by decide, by decide⟩ rfl (Nat.le_of_ble_eq_true rfl) ⟨by decide, by decide⟩ dL_make_5 (fun H1 q ce L9 hK h1 h2 hL h3 h4 h5 => ?_) (fun H1 L9 hK hP1 h1 h2 hL => ?_)
  · have hold : (CW g b sz ac TX F DIA KEP ISK) H1 ∧ ∃ f, lAt g ob 1 f H1 := ⟨hP.kept (fun q h8 h9 => h2 q (by omega)), fo, hO.kept (h2 _ hlt)⟩
    have hc : ((whyMk F x y) : Int) = 1 ∨ ((whyMk F x y) : Int) = 2 := by unfold whyMk at hK ⊢; revert hK; (repeat' split) <;> (intro hK; omega)
    rcases hc with e9 | e9
    · rw [e9] at h5
      refine lm_catch (E := eIA) C K9.1 [] (0, 10, 13, 13) [(0, 10, 17, 15)] ht9 (fun z hz => by cases hz) (by decide) (by decide) q_268 (by decide) h3 h4 h5 ?_
      refine r_astore C hl (by decide) rfl dL_make_13 (fun ls hl => ?_)
      refine r_iconst C dL_make_15 ?_
      exact r_iretL C rfl (by rw [e9]) (fun z => absurd z hK) (fun _ => hold) h1 (fun q hq _ => h2 q hq) (fun x hx => Or.inl (hL x hx)) (Nat.le_of_ble_eq_true rfl) (Nat.le_of_ble_eq_true rfl) dL_make_16
    · rw [e9] at h5
      refine lm_catch (E := eIS) C K9.1 [(0, 10, 13, 13)] (0, 10, 17, 15) [] ht9 (fun z hz => by rw [List.mem_singleton.mp hz]; exact ⟨by decide, _, q_268, by decide⟩) (by decide) (by decide) q_269 (by decide) h3 h4 h5 ?_
      refine r_astore C hl (by decide) rfl dL_make_17 (fun ls hl => ?_)
      refine r_iconst C dL_make_19 ?_
      exact r_iretL C rfl (by rw [e9]) (fun z => absurd z hK) (fun _ => hold) h1 (fun q hq _ => h2 q hq) (fun x hx => Or.inl (hL x hx)) (Nat.le_of_ble_eq_true rfl) (Nat.le_of_ble_eq_true rfl) dL_make_20
  · refine r_i2lR C dL_make_8 ?_
    refine r_last C (hO.kept (h2 _ (fun h => by obtain ⟨h8, h9⟩ := h; omega))) 0 rfl (by decide) (by decide) dL_make_9 (fun H2 hO2 o2 z2 => ?_)
    refine r_goto (tgt := 21) C (by decide) dL_make_10 ?_
    refine r_iconst C dL_make_21 ?_
    refine r_iretL C rfl (by rw [hK]) (fun _ => ⟨hP1.kept (fun q h8 h9 => o2 q (by omega)), hO2.cg (fun j hj => if_pos (by omega))⟩) (fun z => absurd hK z) (by omega) (fun q hq hn => (o2 q (fun z => hn (Or.inr z))).trans (h2 q (fun z => hn (Or.inl z)))) (fun x hx => ?_) (Nat.le_of_ble_eq_true rfl) (Nat.le_of_ble_eq_true rfl) dL_make_22
    rcases List.mem_append.mp hx with h9 | h9
    · exact Or.inl (hL x h9)
    · rw [List.mem_singleton.mp h9]
      exact Or.inr rfl

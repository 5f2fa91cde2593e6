theorem s_RL_66 : SiteV "LentRoomLaw" 66 "LentRoom" yX3_victim cX3_victim 4 (some .int) 1 := ⟨⟨q_697, q_698, q_699, q_30, q_700⟩, rfl, by decide, by decide, by decide +kernel⟩
theorem s_RL_69 : SiteV "LentRoomLaw" 69 "LentRoom" yX3_mostFloor cX3_mostFloor 2 (some .int) 1 := ⟨⟨q_708, q_709, q_710, q_30, q_711⟩, rfl, by decide, by decide, by decide +kernel⟩
theorem s_RL_72 : SiteV "LentRoomLaw" 72 "LentRoom" yX3_leastFloor cX3_leastFloor 2 (some .int) 1 := ⟨⟨q_716, q_717, q_718, q_30, q_719⟩, rfl, by decide, by decide, by decide +kernel⟩
theorem s_RL_75 : SiteV "LentRoomLaw" 75 "LentRoom" yX3_runScript cX3_runScript 6 (some .int) 2 := ⟨⟨q_724, q_725, q_726, q_30, q_727⟩, rfl, by decide, by decide, by decide +kernel⟩
theorem s_RL_79 : SiteV "LentRoomLaw" 79 "LentRoom" yX3_simulate cX3_simulate 7 (some .int) 2 := ⟨⟨q_745, q_746, q_747, q_30, q_748⟩, rfl, by decide, by decide, by decide +kernel⟩
theorem s_RL_83 : SiteV "LentRoomLaw" 83 "LentRoom" yX3_save cX3_save 2 (some .int) 1 := ⟨⟨q_763, q_764, q_765, q_30, q_766⟩, rfl, by decide, by decide, by decide +kernel⟩
theorem s_RL_86 : SiteV "LentRoomLaw" 86 "LentRoom" yX3_restore cX3_restore 2 (some .int) 1 := ⟨⟨q_774, q_775, q_776, q_30, q_777⟩, rfl, by decide, by decide, by decide +kernel⟩
set_option maxHeartbeats 4000000 in
theorem k_L_victim (l : Launch) (hst : l.stackTraces = false) (g : Gt) (kt : Kt) (b : Nat) (sz ac : Int) (TX F DIA KEP ISK : Nat → Int) (T : Int) (hJ : J F z0 T) (hT : T ≤ 900000) (x : Int) (hx : Rg x) (s : Nat) (hs : 0 ≤ x → x = (s : Int)) (ob : Nat) (hob : b + 407 ≤ ob) : LM l yL_victim cL_victim 4 [(0, 9, 12, 28)] 8 134 1 g kt [.ref b, .int (iI x), .ref ob] b ob (CW g b sz ac TX F DIA KEP ISK) (CW g b sz ac TX F DIA KEP ISK) (Kd (0 ≤ x ∧ x < F 0)) (iI (gL F s (gN F s 61 0))).toInt64 := by
  refine lm_of (by decide) rfl (Nat.le_of_ble_eq_true rfl) ?_
  intro zp ze zs zm za zb zt zc ls C K9 ht9 hP hl
  obtain ⟨hP, fo, hO⟩ := hP
  have hlt := hO.lt
  have hl : lv_has ls 4 [(0, .ref b), (1, .int (iI x)), (2, .ref ob)] := hl
  refine r_aload_n C rfl (lv_at hl 2 rfl) dL_victim_0 ?_
  refine r_iconst C dL_victim_1 ?_
  refine r_aload_n C rfl (lv_at hl 0 rfl) dL_victim_2 ?_
  refine r_iload_n C rfl (lv_at hl 1 rfl) dL_victim_3 ?_
  refine r_vXMi (rest := [.int (iI 0), .ref ob]) C K9 (k_X3_victim l hst g kt b sz ac TX F DIA KEP ISK T hJ hT x hx s hs) s_RL_66 hP (recv C (ci := 3) rfl hP.lr.o) hl.1 rfl ⟨by decide, by decide⟩ rfl (Nat.le_of_ble_eq_true rfl) ⟨by decide, by decide⟩ dL_victim_4 (fun H1 q ce L9 hK h1 h2 hL h3 h4 h5 => ?_) (fun H1 L9 hK hP1 h1 h2 hL => ?_)
  · have hold : (CW g b sz ac TX F DIA KEP ISK) H1 ∧ ∃ f, lAt g ob 1 f H1 := ⟨hP.kept (fun q h8 h9 => h2 q (by omega)), fo, hO.kept (h2 _ hlt)⟩
    have hc : ((Kd (0 ≤ x ∧ x < F 0)) : Int) = 1 := by exact (Kd_n hK).1
    have e9 := hc
    rw [e9] at h5
    refine lm_catch (E := eIB) C K9.1 [] (0, 9, 12, 28) [] ht9 (fun z hz => by cases hz) (by decide) (by decide) q_520 (by decide) h3 h4 h5 ?_
    refine r_astore_n C rfl hl (by decide) rfl dL_victim_12 (fun ls hl => ?_)
    refine r_iconst C dL_victim_13 ?_
    exact r_iretL C rfl (by rw [e9]) (fun z => absurd z hK) (fun _ => hold) h1 (fun q hq _ => h2 q hq) (fun x hx => Or.inl (hL x hx)) (Nat.le_of_ble_eq_true rfl) (Nat.le_of_ble_eq_true rfl) dL_victim_14
  · refine r_i2lR C dL_victim_7 ?_
    refine r_last C (hO.kept (h2 _ (fun h => by obtain ⟨h8, h9⟩ := h; omega))) 0 rfl (by decide) (by decide) dL_victim_8 (fun H2 hO2 o2 z2 => ?_)
    refine r_goto (tgt := 15) C (by decide) dL_victim_9 ?_
    refine r_iconst C dL_victim_15 ?_
    refine r_iretL C rfl (by rw [hK]) (fun _ => ⟨hP1.kept (fun q h8 h9 => o2 q (by omega)), hO2.cg (fun j hj => if_pos (by omega))⟩) (fun z => absurd hK z) (by omega) (fun q hq hn => (o2 q (fun z => hn (Or.inr z))).trans (h2 q (fun z => hn (Or.inl z)))) (fun x hx => ?_) (Nat.le_of_ble_eq_true rfl) (Nat.le_of_ble_eq_true rfl) dL_victim_16
    rcases List.mem_append.mp hx with h9 | h9
    · exact Or.inl (hL x h9)
    · rw [List.mem_singleton.mp h9]
      exact Or.inr rfl
set_option maxHeartbeats 4000000 in
theorem k_L_mostFloor (l : Launch) (hst : l.stackTraces = false) (g : Gt) (kt : Kt) (b : Nat) (sz ac : Int) (TX F DIA KEP ISK : Nat → Int) (T : Int) (hJ : J F z0 T) (hT : T ≤ 900000) (x : Int) (hx : Rg x) (s : Nat) (hs : 0 ≤ x → x = (s : Int)) (ob : Nat) (hob : b + 407 ≤ ob) : LM l yL_mostFloor cL_mostFloor 4 [(0, 9, 12, 28)] 8 132 1 g kt [.ref b, .int (iI x), .ref ob] b ob (CW g b sz ac TX F DIA KEP ISK) (CW g b sz ac TX F DIA KEP ISK) (Kd (0 ≤ x ∧ x < F 0)) (iI (mn (F (2 + 52 * s + 1)) (F (2 + 52 * s + 0) + free F))).toInt64 := by
  refine lm_of (by decide) rfl (Nat.le_of_ble_eq_true rfl) ?_
  intro zp ze zs zm za zb zt zc ls C K9 ht9 hP hl
  obtain ⟨hP, fo, hO⟩ := hP
  have hlt := hO.lt
  have hl : lv_has ls 4 [(0, .ref b), (1, .int (iI x)), (2, .ref ob)] := hl
  refine r_aload_n C rfl (lv_at hl 2 rfl) dL_mostFloor_0 ?_
  refine r_iconst C dL_mostFloor_1 ?_
  refine r_aload_n C rfl (lv_at hl 0 rfl) dL_mostFloor_2 ?_
  refine r_iload_n C rfl (lv_at hl 1 rfl) dL_mostFloor_3 ?_
  refine r_vXMi (rest := [.int (iI 0), .ref ob]) C K9 (k_X3_mostFloor l hst g kt b sz ac TX F DIA KEP ISK T hJ hT x hx s hs) s_RL_69 hP (recv C (ci := 3) rfl hP.lr.o) hl.1 rfl ⟨by decide, by decide⟩ rfl (Nat.le_of_ble_eq_true rfl) ⟨by decide, by decide⟩ dL_mostFloor_4 (fun H1 q ce L9 hK h1 h2 hL h3 h4 h5 => ?_) (fun H1 L9 hK hP1 h1 h2 hL => ?_)
  · have hold : (CW g b sz ac TX F DIA KEP ISK) H1 ∧ ∃ f, lAt g ob 1 f H1 := ⟨hP.kept (fun q h8 h9 => h2 q (by omega)), fo, hO.kept (h2 _ hlt)⟩
    have hc : ((Kd (0 ≤ x ∧ x < F 0)) : Int) = 1 := by exact (Kd_n hK).1
    have e9 := hc
    rw [e9] at h5
    refine lm_catch (E := eIB) C K9.1 [] (0, 9, 12, 28) [] ht9 (fun z hz => by cases hz) (by decide) (by decide) q_520 (by decide) h3 h4 h5 ?_
    refine r_astore_n C rfl hl (by decide) rfl dL_mostFloor_12 (fun ls hl => ?_)
    refine r_iconst C dL_mostFloor_13 ?_
    exact r_iretL C rfl (by rw [e9]) (fun z => absurd z hK) (fun _ => hold) h1 (fun q hq _ => h2 q hq) (fun x hx => Or.inl (hL x hx)) (Nat.le_of_ble_eq_true rfl) (Nat.le_of_ble_eq_true rfl) dL_mostFloor_14
  · refine r_i2lR C dL_mostFloor_7 ?_
    refine r_last C (hO.kept (h2 _ (fun h => by obtain ⟨h8, h9⟩ := h; omega))) 0 rfl (by decide) (by decide) dL_mostFloor_8 (fun H2 hO2 o2 z2 => ?_)
    refine r_goto (tgt := 15) C (by decide) dL_mostFloor_9 ?_
    refine r_iconst C dL_mostFloor_15 ?_
    refine r_iretL C rfl (by rw [hK]) (fun _ => ⟨hP1.kept (fun q h8 h9 => o2 q (by omega)), hO2.cg (fun j hj => if_pos (by omega))⟩) (fun z => absurd hK z) (by omega) (fun q hq hn => (o2 q (fun z => hn (Or.inr z))).trans (h2 q (fun z => hn (Or.inl z)))) (fun x hx => ?_) (Nat.le_of_ble_eq_true rfl) (Nat.le_of_ble_eq_true rfl) dL_mostFloor_16
    rcases List.mem_append.mp hx with h9 | h9
    · exact Or.inl (hL x h9)
    · rw [List.mem_singleton.mp h9]
      exact Or.inr rfl
set_option maxHeartbeats 4000000 in
theorem k_L_leastFloor (l : Launch) (hst : l.stackTraces = false) (g : Gt) (kt : Kt) (b : Nat) (sz ac : Int) (TX F DIA KEP ISK : Nat → Int) (T : Int) (hJ : J F z0 T) (hT : T ≤ 900000) (x : Int) (hx : Rg x) (s : Nat) (hs : 0 ≤ x → x = (s : Int)) (ob : Nat) (hob : b + 407 ≤ ob) : LM l yL_leastFloor cL_leastFloor 4 [(0, 9, 12, 28)] 8 132 1 g kt [.ref b, .int (iI x), .ref ob] b ob (CW g b sz ac TX F DIA KEP ISK) (CW g b sz ac TX F DIA KEP ISK) (Kd (0 ≤ x ∧ x < F 0)) (iI (F (2 + 52 * s + 0) - idle F s)).toInt64 := by
  refine lm_of (by decide) rfl (Nat.le_of_ble_eq_true rfl) ?_
  intro zp ze zs zm za zb zt zc ls C K9 ht9 hP hl
  obtain ⟨hP, fo, hO⟩ := hP
  have hlt := hO.lt
  have hl : lv_has ls 4 [(0, .ref b), (1, .int (iI x)), (2, .ref ob)] := hl
  refine r_aload_n C rfl (lv_at hl 2 rfl) dL_leastFloor_0 ?_
  refine r_iconst C dL_leastFloor_1 ?_
  refine r_aload_n C rfl (lv_at hl 0 rfl) dL_leastFloor_2 ?_
  refine r_iload_n C rfl (lv_at hl 1 rfl) dL_leastFloor_3 ?_
  refine r_vXMi (rest := [.int (iI 0), .ref ob]) C K9 (k_X3_leastFloor l hst g kt b sz ac TX F DIA KEP ISK T hJ hT x hx s hs) s_RL_72 hP (recv C (ci := 3) rfl hP.lr.o) hl.1 rfl ⟨by decide, by decide⟩ rfl (Nat.le_of_ble_eq_true rfl) ⟨by decide, by decide⟩ dL_leastFloor_4 (fun H1 q ce L9 hK h1 h2 hL h3 h4 h5 => ?_) (fun H1 L9 hK hP1 h1 h2 hL => ?_)
  · have hold : (CW g b sz ac TX F DIA KEP ISK) H1 ∧ ∃ f, lAt g ob 1 f H1 := ⟨hP.kept (fun q h8 h9 => h2 q (by omega)), fo, hO.kept (h2 _ hlt)⟩
    have hc : ((Kd (0 ≤ x ∧ x < F 0)) : Int) = 1 := by exact (Kd_n hK).1
    have e9 := hc
    rw [e9] at h5
    refine lm_catch (E := eIB) C K9.1 [] (0, 9, 12, 28) [] ht9 (fun z hz => by cases hz) (by decide) (by decide) q_520 (by decide) h3 h4 h5 ?_
    refine r_astore_n C rfl hl (by decide) rfl dL_leastFloor_12 (fun ls hl => ?_)
    refine r_iconst C dL_leastFloor_13 ?_
    exact r_iretL C rfl (by rw [e9]) (fun z => absurd z hK) (fun _ => hold) h1 (fun q hq _ => h2 q hq) (fun x hx => Or.inl (hL x hx)) (Nat.le_of_ble_eq_true rfl) (Nat.le_of_ble_eq_true rfl) dL_leastFloor_14
  · refine r_i2lR C dL_leastFloor_7 ?_
    refine r_last C (hO.kept (h2 _ (fun h => by obtain ⟨h8, h9⟩ := h; omega))) 0 rfl (by decide) (by decide) dL_leastFloor_8 (fun H2 hO2 o2 z2 => ?_)
    refine r_goto (tgt := 15) C (by decide) dL_leastFloor_9 ?_
    refine r_iconst C dL_leastFloor_15 ?_
    refine r_iretL C rfl (by rw [hK]) (fun _ => ⟨hP1.kept (fun q h8 h9 => o2 q (by omega)), hO2.cg (fun j hj => if_pos (by omega))⟩) (fun z => absurd hK z) (by omega) (fun q hq hn => (o2 q (fun z => hn (Or.inr z))).trans (h2 q (fun z => hn (Or.inl z)))) (fun x hx => ?_) (Nat.le_of_ble_eq_true rfl) (Nat.le_of_ble_eq_true rfl) dL_leastFloor_16
    rcases List.mem_append.mp hx with h9 | h9
    · exact Or.inl (hL x h9)
    · rw [List.mem_singleton.mp h9]
      exact Or.inr rfl
set_option maxHeartbeats 4000000 in
theorem k_L_runScript (l : Launch) (hst : l.stackTraces = false) (g : Gt) (kt : Kt) (b : Nat) (sz ac : Int) (TX F DIA KEP ISK : Nat → Int) (T : Int) (hJ : J F z0 T) (hT : T ≤ 900000) (c v : Int) (hc : Rg c) (hv : RgL v) (k : Nat) (hk : 0 ≤ c → c = (k : Int)) (ob : Nat) (hob : b + 407 ≤ ob) : LM l yL_runScript cL_runScript 6 [(0, 11, 14, 13)] 8 192 1 g kt [.ref b, .int (iI c), .long (iL v), .ref ob] b ob (CW g b sz ac TX F DIA KEP ISK) (CW g b sz ac TX F DIA KEP ISK) (Kd ((1 ≤ c ∧ c ≤ 3) ∧ (0 ≤ v ∧ v < pw k))) (iI (sgR v k F k 0)).toInt64 := by
  refine lm_of (by decide) rfl (Nat.le_of_ble_eq_true rfl) ?_
  intro zp ze zs zm za zb zt zc ls C K9 ht9 hP hl
  obtain ⟨hP, fo, hO⟩ := hP
  have hlt := hO.lt
  have hl : lv_has ls 6 [(0, .ref b), (1, .int (iI c)), (2, .long (iL v)), (4, .ref ob)] := hl
  refine r_aload C (lv_at hl 3 rfl) dL_runScript_0 ?_
  refine r_iconst C dL_runScript_2 ?_
  refine r_aload_n C rfl (lv_at hl 0 rfl) dL_runScript_3 ?_
  refine r_iload_n C rfl (lv_at hl 1 rfl) dL_runScript_4 ?_
  refine r_lload_n C rfl (lv_at hl 2 rfl) dL_runScript_5 ?_
  refine r_vXMi (rest := [.int (iI 0), .ref ob]) C K9 (k_X3_runScript l hst g kt b sz ac TX F DIA KEP ISK T hJ hT c v hc hv k hk) s_RL_75 hP (recv C (ci := 3) rfl hP.lr.o) hl.1 rfl ⟨by decide, by decide⟩ rfl (Nat.le_of_ble_eq_true rfl) ⟨by decide, by decide⟩ dL_runScript_6 (fun H1 q ce L9 hK h1 h2 hL h3 h4 h5 => ?_) (fun H1 L9 hK hP1 h1 h2 hL => ?_)
  · have hold : (CW g b sz ac TX F DIA KEP ISK) H1 ∧ ∃ f, lAt g ob 1 f H1 := ⟨hP.kept (fun q h8 h9 => h2 q (by omega)), fo, hO.kept (h2 _ hlt)⟩
    have hc : ((Kd ((1 ≤ c ∧ c ≤ 3) ∧ (0 ≤ v ∧ v < pw k))) : Int) = 1 := by exact (Kd_n hK).1
    have e9 := hc
    rw [e9] at h5
    refine lm_catch (E := eIA) C K9.1 [] (0, 11, 14, 13) [] ht9 (fun z hz => by cases hz) (by decide) (by decide) q_268 (by decide) h3 h4 h5 ?_
    refine r_astore C hl (by decide) rfl dL_runScript_14 (fun ls hl => ?_)
    refine r_iconst C dL_runScript_16 ?_
    exact r_iretL C rfl (by rw [e9]) (fun z => absurd z hK) (fun _ => hold) h1 (fun q hq _ => h2 q hq) (fun x hx => Or.inl (hL x hx)) (Nat.le_of_ble_eq_true rfl) (Nat.le_of_ble_eq_true rfl) dL_runScript_17
  · refine r_i2lR C dL_runScript_9 ?_
    refine r_last C (hO.kept (h2 _ (fun h => by obtain ⟨h8, h9⟩ := h; omega))) 0 rfl (by decide) (by decide) dL_runScript_10 (fun H2 hO2 o2 z2 => ?_)
    refine r_goto (tgt := 18) C (by decide) dL_runScript_11 ?_
    refine r_iconst C dL_runScript_18 ?_
    refine r_iretL C rfl (by rw [hK]) (fun _ => ⟨hP1.kept (fun q h8 h9 => o2 q (by omega)), hO2.cg (fun j hj => if_pos (by omega))⟩) (fun z => absurd hK z) (by omega) (fun q hq hn => (o2 q (fun z => hn (Or.inr z))).trans (h2 q (fun z => hn (Or.inl z)))) (fun x hx => ?_) (Nat.le_of_ble_eq_true rfl) (Nat.le_of_ble_eq_true rfl) dL_runScript_19
    rcases List.mem_append.mp hx with h9 | h9
    · exact Or.inl (hL x h9)
    · rw [List.mem_singleton.mp h9]
      exact Or.inr rfl
set_option maxHeartbeats 4000000 in
theorem k_L_simulate (l : Launch) (hst : l.stackTraces = false) (g : Gt) (kt : Kt) (b : Nat) (sz ac : Int) (TX F DIA KEP ISK : Nat → Int) (T : Int) (hJ : J F z0 T) (hT : T ≤ 900000) (x c : Int) (hc : Rg c) (k : Nat) (hk : 0 ≤ c → c = (k : Int)) (ob : Nat) (hob : b + 407 ≤ ob) : LM l yL_simulate cL_simulate 6 [(0, 11, 14, 13)] 7 167 1 g kt [.ref b, .long (iL x), .int (iI c), .ref ob] b ob (CW g b sz ac TX F DIA KEP ISK) (CW g b sz ac TX F DIA KEP ISK) (Kd (1 ≤ c ∧ c ≤ 99)) (iI (1000 * tkA (siF x F k) + S5 (siF x F k) 5 - S5 F 5)).toInt64 := by
  refine lm_of (by decide) rfl (Nat.le_of_ble_eq_true rfl) ?_
  intro zp ze zs zm za zb zt zc ls C K9 ht9 hP hl
  obtain ⟨hP, fo, hO⟩ := hP
  have hlt := hO.lt
  have hl : lv_has ls 6 [(0, .ref b), (1, .long (iL x)), (3, .int (iI c)), (4, .ref ob)] := hl
  refine r_aload C (lv_at hl 3 rfl) dL_simulate_0 ?_
  refine r_iconst C dL_simulate_2 ?_
  refine r_aload_n C rfl (lv_at hl 0 rfl) dL_simulate_3 ?_
  refine r_lload_n C rfl (lv_at hl 1 rfl) dL_simulate_4 ?_
  refine r_iload_n C rfl (lv_at hl 2 rfl) dL_simulate_5 ?_
  refine r_vXMi (rest := [.int (iI 0), .ref ob]) C K9 (k_X3_simulate l hst g kt b sz ac TX F DIA KEP ISK T hJ hT x c hc k hk) s_RL_79 hP (recv C (ci := 3) rfl hP.lr.o) hl.1 rfl ⟨by decide, by decide⟩ rfl (Nat.le_of_ble_eq_true rfl) ⟨by decide, by decide⟩ dL_simulate_6 (fun H1 q ce L9 hK h1 h2 hL h3 h4 h5 => ?_) (fun H1 L9 hK hP1 h1 h2 hL => ?_)
  · have hold : (CW g b sz ac TX F DIA KEP ISK) H1 ∧ ∃ f, lAt g ob 1 f H1 := ⟨hP.kept (fun q h8 h9 => h2 q (by omega)), fo, hO.kept (h2 _ hlt)⟩
    have hc : ((Kd (1 ≤ c ∧ c ≤ 99)) : Int) = 1 := by exact (Kd_n hK).1
    have e9 := hc
    rw [e9] at h5
    refine lm_catch (E := eIA) C K9.1 [] (0, 11, 14, 13) [] ht9 (fun z hz => by cases hz) (by decide) (by decide) q_268 (by decide) h3 h4 h5 ?_
    refine r_astore C hl (by decide) rfl dL_simulate_14 (fun ls hl => ?_)
    refine r_iconst C dL_simulate_16 ?_
    exact r_iretL C rfl (by rw [e9]) (fun z => absurd z hK) (fun _ => hold) h1 (fun q hq _ => h2 q hq) (fun x hx => Or.inl (hL x hx)) (Nat.le_of_ble_eq_true rfl) (Nat.le_of_ble_eq_true rfl) dL_simulate_17
  · refine r_i2lR C dL_simulate_9 ?_
    refine r_last C (hO.kept (h2 _ (fun h => by obtain ⟨h8, h9⟩ := h; omega))) 0 rfl (by decide) (by decide) dL_simulate_10 (fun H2 hO2 o2 z2 => ?_)
    refine r_goto (tgt := 18) C (by decide) dL_simulate_11 ?_
    refine r_iconst C dL_simulate_18 ?_
    refine r_iretL C rfl (by rw [hK]) (fun _ => ⟨hP1.kept (fun q h8 h9 => o2 q (by omega)), hO2.cg (fun j hj => if_pos (by omega))⟩) (fun z => absurd hK z) (by omega) (fun q hq hn => (o2 q (fun z => hn (Or.inr z))).trans (h2 q (fun z => hn (Or.inl z)))) (fun x hx => ?_) (Nat.le_of_ble_eq_true rfl) (Nat.le_of_ble_eq_true rfl) dL_simulate_19
    rcases List.mem_append.mp hx with h9 | h9
    · exact Or.inl (hL x h9)
    · rw [List.mem_singleton.mp h9]
      exact Or.inr rfl
set_option maxHeartbeats 4000000 in
theorem k_L_save (l : Launch) (hst : l.stackTraces = false) (g : Gt) (kt : Kt) (b : Nat) (sz ac : Int) (TX F DIA KEP ISK : Nat → Int) (T : Int) (hJ : J F z0 T) (hT : T ≤ 900000) (x : Int) (hx : Rg x) (k : Nat) (hk : 0 ≤ x → x = (k : Int)) (ob : Nat) (hob : b + 407 ≤ ob) : LM l yL_save cL_save 4 [(0, 9, 12, 28)] 8 131 1 g kt [.ref b, .int (iI x), .ref ob] b ob (CW g b sz ac TX F DIA KEP ISK) (CW g b sz ac TX F DIA (cpy KEP F (262 * k) 0 262) (up ISK k 1)) (Kd (0 ≤ x ∧ x ≤ 1)) (iI (tkA F)).toInt64 := by
  refine lm_of (by decide) rfl (Nat.le_of_ble_eq_true rfl) ?_
  intro zp ze zs zm za zb zt zc ls C K9 ht9 hP hl
  obtain ⟨hP, fo, hO⟩ := hP
  have hlt := hO.lt
  have hl : lv_has ls 4 [(0, .ref b), (1, .int (iI x)), (2, .ref ob)] := hl
  refine r_aload_n C rfl (lv_at hl 2 rfl) dL_save_0 ?_
  refine r_iconst C dL_save_1 ?_
  refine r_aload_n C rfl (lv_at hl 0 rfl) dL_save_2 ?_
  refine r_iload_n C rfl (lv_at hl 1 rfl) dL_save_3 ?_
  refine r_vXMi (rest := [.int (iI 0), .ref ob]) C K9 (k_X3_save l hst g kt b sz ac TX F DIA KEP ISK T hJ hT x hx k hk) s_RL_83 hP (recv C (ci := 3) rfl hP.lr.o) hl.1 rfl ⟨by decide, by decide⟩ rfl (Nat.le_of_ble_eq_true rfl) ⟨by decide, by decide⟩ dL_save_4 (fun H1 q ce L9 hK h1 h2 hL h3 h4 h5 => ?_) (fun H1 L9 hK hP1 h1 h2 hL => ?_)
  · have hold : (CW g b sz ac TX F DIA KEP ISK) H1 ∧ ∃ f, lAt g ob 1 f H1 := ⟨hP.kept (fun q h8 h9 => h2 q (by omega)), fo, hO.kept (h2 _ hlt)⟩
    have hc : ((Kd (0 ≤ x ∧ x ≤ 1)) : Int) = 1 := by exact (Kd_n hK).1
    have e9 := hc
    rw [e9] at h5
    refine lm_catch (E := eIB) C K9.1 [] (0, 9, 12, 28) [] ht9 (fun z hz => by cases hz) (by decide) (by decide) q_520 (by decide) h3 h4 h5 ?_
    refine r_astore_n C rfl hl (by decide) rfl dL_save_12 (fun ls hl => ?_)
    refine r_iconst C dL_save_13 ?_
    exact r_iretL C rfl (by rw [e9]) (fun z => absurd z hK) (fun _ => hold) h1 (fun q hq _ => h2 q hq) (fun x hx => Or.inl (hL x hx)) (Nat.le_of_ble_eq_true rfl) (Nat.le_of_ble_eq_true rfl) dL_save_14
  · refine r_i2lR C dL_save_7 ?_
    refine r_last C (hO.kept (h2 _ (fun h => by obtain ⟨h8, h9⟩ := h; omega))) 0 rfl (by decide) (by decide) dL_save_8 (fun H2 hO2 o2 z2 => ?_)
    refine r_goto (tgt := 15) C (by decide) dL_save_9 ?_
    refine r_iconst C dL_save_15 ?_
    refine r_iretL C rfl (by rw [hK]) (fun _ => ⟨hP1.kept (fun q h8 h9 => o2 q (by omega)), hO2.cg (fun j hj => if_pos (by omega))⟩) (fun z => absurd hK z) (by omega) (fun q hq hn => (o2 q (fun z => hn (Or.inr z))).trans (h2 q (fun z => hn (Or.inl z)))) (fun x hx => ?_) (Nat.le_of_ble_eq_true rfl) (Nat.le_of_ble_eq_true rfl) dL_save_16
    rcases List.mem_append.mp hx with h9 | h9
    · exact Or.inl (hL x h9)
    · rw [List.mem_singleton.mp h9]
      exact Or.inr rfl
set_option maxHeartbeats 4000000 in
theorem k_L_restore (l : Launch) (hst : l.stackTraces = false) (g : Gt) (kt : Kt) (b : Nat) (sz ac : Int) (TX F DIA KEP ISK : Nat → Int) (T : Int) (hJ : J F z0 T) (hT : T ≤ 900000) (x : Int) (hx : Rg x) (k : Nat) (hk : 0 ≤ x → x = (k : Int)) (hIS : ∀ k : Nat, k < 2 → 0 ≤ ISK k ∧ ISK k ≤ 1) (hJK : 0 ≤ x ∧ x ≤ 1 → ISK k ≠ 0 → J (fun i => KEP (262 * k + i)) z0 T) (ob : Nat) (hob : b + 407 ≤ ob) : LM l yL_restore cL_restore 4 [(0, 9, 12, 28), (0, 9, 15, 15)] 8 131 2 g kt [.ref b, .int (iI x), .ref ob] b ob (CW g b sz ac TX F DIA KEP ISK) (CW g b sz 0 TX (fun i => KEP (262 * k + i)) DIA KEP ISK) (if ¬ (0 ≤ x ∧ x ≤ 1) then 1 else if ISK k = 0 then 2 else 0) (iI (tkA (fun i => KEP (262 * k + i)))).toInt64 := by
  refine lm_of (by decide) rfl (Nat.le_of_ble_eq_true rfl) ?_
  intro zp ze zs zm za zb zt zc ls C K9 ht9 hP hl
  obtain ⟨hP, fo, hO⟩ := hP
  have hlt := hO.lt
  have hl : lv_has ls 4 [(0, .ref b), (1, .int (iI x)), (2, .ref ob)] := hl
  refine r_aload_n C rfl (lv_at hl 2 rfl) dL_restore_0 ?_
  refine r_iconst C dL_restore_1 ?_
  refine r_aload_n C rfl (lv_at hl 0 rfl) dL_restore_2 ?_
  refine r_iload_n C rfl (lv_at hl 1 rfl) dL_restore_3 ?_
  refine r_vXMi (rest := [.int (iI 0), .ref ob]) C K9 (k_X3_restore l hst g kt b sz ac TX F DIA KEP ISK T hJ hT x hx k hk hIS hJK) s_RL_86 hP (recv C (ci := 3) rfl hP.lr.o) hl.1 rfl ⟨by decide, by decide⟩ rfl (Nat.le_of_ble_eq_true rfl) ⟨by decide, by decide⟩ dL_restore_4 (fun H1 q ce L9 hK h1 h2 hL h3 h4 h5 => ?_) (fun H1 L9 hK hP1 h1 h2 hL => ?_)
  · have hold : (CW g b sz ac TX F DIA KEP ISK) H1 ∧ ∃ f, lAt g ob 1 f H1 := ⟨hP.kept (fun q h8 h9 => h2 q (by omega)), fo, hO.kept (h2 _ hlt)⟩
    have hc : ((if ¬ (0 ≤ x ∧ x ≤ 1) then 1 else if ISK k = 0 then 2 else 0) : Int) = 1 ∨ ((if ¬ (0 ≤ x ∧ x ≤ 1) then 1 else if ISK k = 0 then 2 else 0) : Int) = 2 := by revert hK; (repeat' split) <;> (intro hK; omega)
    rcases hc with e9 | e9
    · rw [e9] at h5
      refine lm_catch (E := eIB) C K9.1 [] (0, 9, 12, 28) [(0, 9, 15, 15)] ht9 (fun z hz => by cases hz) (by decide) (by decide) q_520 (by decide) h3 h4 h5 ?_
      refine r_astore_n C rfl hl (by decide) rfl dL_restore_12 (fun ls hl => ?_)
      refine r_iconst C dL_restore_13 ?_
      exact r_iretL C rfl (by rw [e9]) (fun z => absurd z hK) (fun _ => hold) h1 (fun q hq _ => h2 q hq) (fun x hx => Or.inl (hL x hx)) (Nat.le_of_ble_eq_true rfl) (Nat.le_of_ble_eq_true rfl) dL_restore_14
    · rw [e9] at h5
      refine lm_catch (E := eIS) C K9.1 [(0, 9, 12, 28)] (0, 9, 15, 15) [] ht9 (fun z hz => by rw [List.mem_singleton.mp hz]; exact ⟨by decide, _, q_520, by decide⟩) (by decide) (by decide) q_269 (by decide) h3 h4 h5 ?_
      refine r_astore_n C rfl hl (by decide) rfl dL_restore_15 (fun ls hl => ?_)
      refine r_iconst C dL_restore_16 ?_
      exact r_iretL C rfl (by rw [e9]) (fun z => absurd z hK) (fun _ => hold) h1 (fun q hq _ => h2 q hq) (fun x hx => Or.inl (hL x hx)) (Nat.le_of_ble_eq_true rfl) (Nat.le_of_ble_eq_true rfl) dL_restore_17
  · refine r_i2lR C dL_restore_7 ?_
    refine r_last C (hO.kept (h2 _ (fun h => by obtain ⟨h8, h9⟩ := h; omega))) 0 rfl (by decide) (by decide) dL_restore_8 (fun H2 hO2 o2 z2 => ?_)
    refine r_goto (tgt := 18) C (by decide) dL_restore_9 ?_
    refine r_iconst C dL_restore_18 ?_
    refine r_iretL C rfl (by rw [hK]) (fun _ => ⟨hP1.kept (fun q h8 h9 => o2 q (by omega)), hO2.cg (fun j hj => if_pos (by omega))⟩) (fun z => absurd hK z) (by omega) (fun q hq hn => (o2 q (fun z => hn (Or.inr z))).trans (h2 q (fun z => hn (Or.inl z)))) (fun x hx => ?_) (Nat.le_of_ble_eq_true rfl) (Nat.le_of_ble_eq_true rfl) dL_restore_19
    rcases List.mem_append.mp hx with h9 | h9
    · exact Or.inl (hL x h9)
    · rw [List.mem_singleton.mp h9]
      exact Or.inr rfl

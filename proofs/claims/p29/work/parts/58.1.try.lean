theorem s_RL_7 : SiteV "LentRoomLaw" 7 "LentRoom" yX3_runScript cX3_runScript 6 (some .int) 2 := ⟨⟨q_5726, q_725, q_726, q_30, q_727⟩, rfl, by decide, by decide, by decide +kernel⟩
theorem s_RL_16 : SiteV "LentRoomLaw" 16 "LentRoom" yX3_simulate cX3_simulate 7 (some .int) 2 := ⟨⟨q_5748, q_746, q_747, q_30, q_748⟩, rfl, by decide, by decide, by decide +kernel⟩
theorem s_RL_20 : SiteV "LentRoomLaw" 20 "LentRoom" yX3_append cX3_append 2 (some .int) 1 := ⟨⟨q_5156, q_271, q_272, q_30, q_273⟩, rfl, by decide, by decide, by decide +kernel⟩
theorem s_RL_31 : SiteV "LentRoomLaw" 31 "LentRoom" yX3_about cX3_about 2 (some .int) 1 := ⟨⟨q_5462, q_493, q_494, q_30, q_495⟩, rfl, by decide, by decide, by decide +kernel⟩
theorem s_RL_34 : SiteV "LentRoomLaw" 34 "LentRoom" yX3_space cX3_space 3 (some .int) 2 := ⟨⟨q_5491, q_522, q_523, q_30, q_524⟩, rfl, by decide, by decide, by decide +kernel⟩
theorem s_RL_41 : SiteV "LentRoomLaw" 41 "LentRoom" yX3_loans cX3_loans 3 (some .int) 2 := ⟨⟨q_5532, q_562, q_563, q_30, q_564⟩, rfl, by decide, by decide, by decide +kernel⟩
theorem s_RL_44 : SiteV "LentRoomLaw" 44 "LentRoom" yX3_time cX3_time 3 (some .int) 2 := ⟨⟨q_5539, q_569, q_570, q_30, q_571⟩, rfl, by decide, by decide, by decide +kernel⟩
theorem s_RL_47 : SiteV "LentRoomLaw" 47 "LentRoom" yX3_oldest cX3_oldest 3 (some .int) 2 := ⟨⟨q_5553, q_583, q_584, q_30, q_585⟩, rfl, by decide, by decide, by decide +kernel⟩
set_option maxHeartbeats 4000000 in
theorem k_L_tryScript (l : Launch) (hst : l.stackTraces = false) (g : Gt) (kt : Kt) (b : Nat) (sz ac : Int) (TX F DIA KEP ISK : Nat → Int) (T : Int) (hJ : J F z0 T) (hT : T ≤ 900000) (c v : Int) (hc : Rg c) (hv : RgL v) (k : Nat) (hk : 0 ≤ c → c = (k : Int)) : TM l yL_tryScript (.codeWith yL_tryScript cL_tryScript 5 (some .int) [(0, 6, 7, 13)]) 8 192 1 g kt [.ref b, .int (iI c), .long (iL v)] (CW g b sz ac TX F DIA KEP ISK) (tv [-9999002] (Kd ((1 ≤ c ∧ c ≤ 3) ∧ (0 ≤ v ∧ v < pw k))) (sgR v k F k 0)) (Cdp b) (fun H => (((Kd ((1 ≤ c ∧ c ≤ 3) ∧ (0 ≤ v ∧ v < pw k))) : Int) = 0 → CW g b sz ac TX F DIA KEP ISK H) ∧ (((Kd ((1 ≤ c ∧ c ≤ 3) ∧ (0 ≤ v ∧ v < pw k))) : Int) ≠ 0 → CW g b sz ac TX F DIA KEP ISK H)) := by
  refine tmh_of (by decide) rfl (Nat.le_of_ble_eq_true rfl) ?_
  intro zp ze zs zm za zb zt zc ls C K9 ht9 hP hl
  have hl : lv_has ls 5 [(0, .ref b), (1, .int (iI c)), (2, .long (iL v))] := hl
  refine r_aload_n C rfl (lv_at hl 0 rfl) dL_tryScript_0 ?_
  refine r_iload_n C rfl (lv_at hl 1 rfl) dL_tryScript_1 ?_
  refine r_lload_n C rfl (lv_at hl 2 rfl) dL_tryScript_2 ?_
  refine r_vXMi (rest := []) C K9 (k_X3_runScript l hst g kt b sz ac TX F DIA KEP ISK T hJ hT c v hc hv k hk) s_RL_7 hP (recv C (ci := 3) rfl hP.lr.o) hl.1 rfl ⟨by decide, by decide⟩ rfl (Nat.le_of_ble_eq_true rfl) ⟨by decide, by decide⟩ dL_tryScript_3 (fun H1 q ce L9 hK h1 h2 hL h3 h4 h5 => ?_) (fun H1 L9 hK hP1 h1 h2 hL => ?_)
  · have hold : (CW g b sz ac TX F DIA KEP ISK) H1 := hP.kept (fun q h8 h9 => h2 q (by have := hP.lt; omega))
    have hc : ((Kd ((1 ≤ c ∧ c ≤ 3) ∧ (0 ≤ v ∧ v < pw k))) : Int) = 1 := by exact (Kd_n hK).1
    have e9 := hc
    rw [e9] at h5
    refine lm_catch (E := eIA) C K9.1 [] (0, 6, 7, 13) [] ht9 (fun z hz => by cases hz) (by decide) (by decide) q_268 (by decide) h3 h4 h5 ?_
    refine r_astore C hl (by decide) rfl dL_tryScript_7 (fun ls hl => ?_)
    refine r_ldcI (w := -9999002) C (by decide) q_5253 dL_tryScript_9 ?_
    exact r_tret C rfl rfl (by rw [tv_n hK, e9]; rfl) ⟨h1, fun q hq _ => h2 q hq, hL⟩ ⟨fun z => absurd z hK, fun _ => hold⟩ (Nat.le_of_ble_eq_true rfl) (Nat.le_of_ble_eq_true rfl) dL_tryScript_11
  · exact r_tret C rfl rfl (tv_0 hK).symm ⟨by omega, fun q _ hq => h2 q hq, hL⟩ ⟨fun _ => hP1, fun z => absurd hK z⟩ (Nat.le_of_ble_eq_true rfl) (Nat.le_of_ble_eq_true rfl) dL_tryScript_6
set_option maxHeartbeats 4000000 in
theorem k_L_trySimulate (l : Launch) (hst : l.stackTraces = false) (g : Gt) (kt : Kt) (b : Nat) (sz ac : Int) (TX F DIA KEP ISK : Nat → Int) (T : Int) (hJ : J F z0 T) (hT : T ≤ 900000) (x c : Int) (hc : Rg c) (k : Nat) (hk : 0 ≤ c → c = (k : Int)) : TM l yL_trySimulate (.codeWith yL_trySimulate cL_trySimulate 5 (some .int) [(0, 6, 7, 13)]) 7 167 1 g kt [.ref b, .long (iL x), .int (iI c)] (CW g b sz ac TX F DIA KEP ISK) (tv [-9999002] (Kd (1 ≤ c ∧ c ≤ 99)) (1000 * tkA (siF x F k) + S5 (siF x F k) 5 - S5 F 5)) (Cdp b) (fun H => (((Kd (1 ≤ c ∧ c ≤ 99)) : Int) = 0 → CW g b sz ac TX F DIA KEP ISK H) ∧ (((Kd (1 ≤ c ∧ c ≤ 99)) : Int) ≠ 0 → CW g b sz ac TX F DIA KEP ISK H)) := by
  refine tmh_of (by decide) rfl (Nat.le_of_ble_eq_true rfl) ?_
  intro zp ze zs zm za zb zt zc ls C K9 ht9 hP hl
  have hl : lv_has ls 5 [(0, .ref b), (1, .long (iL x)), (3, .int (iI c))] := hl
  refine r_aload_n C rfl (lv_at hl 0 rfl) dL_trySimulate_0 ?_
  refine r_lload_n C rfl (lv_at hl 1 rfl) dL_trySimulate_1 ?_
  refine r_iload_n C rfl (lv_at hl 2 rfl) dL_trySimulate_2 ?_
  refine r_vXMi (rest := []) C K9 (k_X3_simulate l hst g kt b sz ac TX F DIA KEP ISK T hJ hT x c hc k hk) s_RL_16 hP (recv C (ci := 3) rfl hP.lr.o) hl.1 rfl ⟨by decide, by decide⟩ rfl (Nat.le_of_ble_eq_true rfl) ⟨by decide, by decide⟩ dL_trySimulate_3 (fun H1 q ce L9 hK h1 h2 hL h3 h4 h5 => ?_) (fun H1 L9 hK hP1 h1 h2 hL => ?_)
  · have hold : (CW g b sz ac TX F DIA KEP ISK) H1 := hP.kept (fun q h8 h9 => h2 q (by have := hP.lt; omega))
    have hc : ((Kd (1 ≤ c ∧ c ≤ 99)) : Int) = 1 := by exact (Kd_n hK).1
    have e9 := hc
    rw [e9] at h5
    refine lm_catch (E := eIA) C K9.1 [] (0, 6, 7, 13) [] ht9 (fun z hz => by cases hz) (by decide) (by decide) q_268 (by decide) h3 h4 h5 ?_
    refine r_astore C hl (by decide) rfl dL_trySimulate_7 (fun ls hl => ?_)
    refine r_ldcI (w := -9999002) C (by decide) q_5253 dL_trySimulate_9 ?_
    exact r_tret C rfl rfl (by rw [tv_n hK, e9]; rfl) ⟨h1, fun q hq _ => h2 q hq, hL⟩ ⟨fun z => absurd z hK, fun _ => hold⟩ (Nat.le_of_ble_eq_true rfl) (Nat.le_of_ble_eq_true rfl) dL_trySimulate_11
  · exact r_tret C rfl rfl (tv_0 hK).symm ⟨by omega, fun q _ hq => h2 q hq, hL⟩ ⟨fun _ => hP1, fun z => absurd hK z⟩ (Nat.le_of_ble_eq_true rfl) (Nat.le_of_ble_eq_true rfl) dL_trySimulate_6
set_option maxHeartbeats 4000000 in
theorem k_L_tryAppend (l : Launch) (hst : l.stackTraces = false) (g : Gt) (kt : Kt) (b : Nat) (sz ac : Int) (TX F DIA KEP ISK : Nat → Int) (T : Int) (hJ : J F z0 T) (hT : T ≤ 900000) (x : Int) (hx : Rg x) (hsz : 0 ≤ sz ∧ sz ≤ 120) (TX : Nat → Int) (hTX : ∀ k : Nat, k < 120 → 0 ≤ TX k ∧ TX k ≤ 255) : TM l yL_tryAppend (.codeWith yL_tryAppend cL_tryAppend 3 (some .int) [(0, 5, 6, 13), (0, 5, 10, 24)]) 7 111 1 g kt [.ref b, .int (iI x)] (CW g b sz ac TX F DIA KEP ISK) (tv [-9999002, -9999003] (if ¬ (0 ≤ x ∧ x ≤ 255) then 1 else if sz = 120 then 2 else 0) (sz + 1)) (Cdp b) (fun H => (((if ¬ (0 ≤ x ∧ x ≤ 255) then 1 else if sz = 120 then 2 else 0) : Int) = 0 → CW g b (sz + 1) ac (up TX sz.toNat x) F DIA KEP ISK H) ∧ (((if ¬ (0 ≤ x ∧ x ≤ 255) then 1 else if sz = 120 then 2 else 0) : Int) ≠ 0 → CW g b sz ac TX F DIA KEP ISK H)) := by
  refine tmh_of (by decide) rfl (Nat.le_of_ble_eq_true rfl) ?_
  intro zp ze zs zm za zb zt zc ls C K9 ht9 hP hl
  have hl : lv_has ls 3 [(0, .ref b), (1, .int (iI x))] := hl
  refine r_aload_n C rfl (lv_at hl 0 rfl) dL_tryAppend_0 ?_
  refine r_iload_n C rfl (lv_at hl 1 rfl) dL_tryAppend_1 ?_
  refine r_vXMi (rest := []) C K9 (k_X3_append l hst g kt b sz ac TX F DIA KEP ISK T hJ hT x hx hsz TX hTX) s_RL_20 hP (recv C (ci := 3) rfl hP.lr.o) hl.1 rfl ⟨by decide, by decide⟩ rfl (Nat.le_of_ble_eq_true rfl) ⟨by decide, by decide⟩ dL_tryAppend_2 (fun H1 q ce L9 hK h1 h2 hL h3 h4 h5 => ?_) (fun H1 L9 hK hP1 h1 h2 hL => ?_)
  · have hold : (CW g b sz ac TX F DIA KEP ISK) H1 := hP.kept (fun q h8 h9 => h2 q (by have := hP.lt; omega))
    have hc : ((if ¬ (0 ≤ x ∧ x ≤ 255) then 1 else if sz = 120 then 2 else 0) : Int) = 1 ∨ ((if ¬ (0 ≤ x ∧ x ≤ 255) then 1 else if sz = 120 then 2 else 0) : Int) = 2 := by revert hK; (repeat' split) <;> (intro hK; omega)
    rcases hc with e9 | e9
    · rw [e9] at h5
      refine lm_catch (E := eIA) C K9.1 [] (0, 5, 6, 13) [(0, 5, 10, 24)] ht9 (fun z hz => by cases hz) (by decide) (by decide) q_268 (by decide) h3 h4 h5 ?_
      refine r_astore_n C rfl hl (by decide) rfl dL_tryAppend_6 (fun ls hl => ?_)
      refine r_ldcI (w := -9999002) C (by decide) q_5253 dL_tryAppend_7 ?_
      exact r_tret C rfl rfl (by rw [tv_n hK, e9]; rfl) ⟨h1, fun q hq _ => h2 q hq, hL⟩ ⟨fun z => absurd z hK, fun _ => hold⟩ (Nat.le_of_ble_eq_true rfl) (Nat.le_of_ble_eq_true rfl) dL_tryAppend_9
    · rw [e9] at h5
      refine lm_catch (E := eIS) C K9.1 [(0, 5, 6, 13)] (0, 5, 10, 24) [] ht9 (fun z hz => by rw [List.mem_singleton.mp hz]; exact ⟨by decide, _, q_268, by decide⟩) (by decide) (by decide) q_5155 (by decide) h3 h4 h5 ?_
      refine r_astore_n C rfl hl (by decide) rfl dL_tryAppend_10 (fun ls hl => ?_)
      refine r_ldcI (w := -9999003) C (by decide) q_5254 dL_tryAppend_11 ?_
      exact r_tret C rfl rfl (by rw [tv_n hK, e9]; rfl) ⟨h1, fun q hq _ => h2 q hq, hL⟩ ⟨fun z => absurd z hK, fun _ => hold⟩ (Nat.le_of_ble_eq_true rfl) (Nat.le_of_ble_eq_true rfl) dL_tryAppend_13
  · exact r_tret C rfl rfl (tv_0 hK).symm ⟨by omega, fun q _ hq => h2 q hq, hL⟩ ⟨fun _ => hP1, fun z => absurd hK z⟩ (Nat.le_of_ble_eq_true rfl) (Nat.le_of_ble_eq_true rfl) dL_tryAppend_5
set_option maxHeartbeats 4000000 in
theorem k_L_tryAbout (l : Launch) (hst : l.stackTraces = false) (g : Gt) (kt : Kt) (b : Nat) (sz ac : Int) (TX F DIA KEP ISK : Nat → Int) (T : Int) (hJ : J F z0 T) (hT : T ≤ 900000) (x : Int) (hx : Rg x) : TM l yL_tryAbout (.codeWith yL_tryAbout cL_tryAbout 3 (some .int) [(0, 5, 6, 13)]) 7 111 1 g kt [.ref b, .int (iI x)] (CW g b sz ac TX F DIA KEP ISK) (tv [-9999002] (Kd (0 ≤ x ∧ x ≤ 8)) (nAll F x)) (Cdp b) (fun H => (((Kd (0 ≤ x ∧ x ≤ 8)) : Int) = 0 → CW g b sz ac TX F DIA KEP ISK H) ∧ (((Kd (0 ≤ x ∧ x ≤ 8)) : Int) ≠ 0 → CW g b sz ac TX F DIA KEP ISK H)) := by
  refine tmh_of (by decide) rfl (Nat.le_of_ble_eq_true rfl) ?_
  intro zp ze zs zm za zb zt zc ls C K9 ht9 hP hl
  have hl : lv_has ls 3 [(0, .ref b), (1, .int (iI x))] := hl
  refine r_aload_n C rfl (lv_at hl 0 rfl) dL_tryAbout_0 ?_
  refine r_iload_n C rfl (lv_at hl 1 rfl) dL_tryAbout_1 ?_
  refine r_vXMi (rest := []) C K9 (k_X3_about l hst g kt b sz ac TX F DIA KEP ISK T hJ hT x hx) s_RL_31 hP (recv C (ci := 3) rfl hP.lr.o) hl.1 rfl ⟨by decide, by decide⟩ rfl (Nat.le_of_ble_eq_true rfl) ⟨by decide, by decide⟩ dL_tryAbout_2 (fun H1 q ce L9 hK h1 h2 hL h3 h4 h5 => ?_) (fun H1 L9 hK hP1 h1 h2 hL => ?_)
  · have hold : (CW g b sz ac TX F DIA KEP ISK) H1 := hP.kept (fun q h8 h9 => h2 q (by have := hP.lt; omega))
    have hc : ((Kd (0 ≤ x ∧ x ≤ 8)) : Int) = 1 := by exact (Kd_n hK).1
    have e9 := hc
    rw [e9] at h5
    refine lm_catch (E := eIA) C K9.1 [] (0, 5, 6, 13) [] ht9 (fun z hz => by cases hz) (by decide) (by decide) q_268 (by decide) h3 h4 h5 ?_
    refine r_astore_n C rfl hl (by decide) rfl dL_tryAbout_6 (fun ls hl => ?_)
    refine r_ldcI (w := -9999002) C (by decide) q_5253 dL_tryAbout_7 ?_
    exact r_tret C rfl rfl (by rw [tv_n hK, e9]; rfl) ⟨h1, fun q hq _ => h2 q hq, hL⟩ ⟨fun z => absurd z hK, fun _ => hold⟩ (Nat.le_of_ble_eq_true rfl) (Nat.le_of_ble_eq_true rfl) dL_tryAbout_9
  · exact r_tret C rfl rfl (tv_0 hK).symm ⟨by omega, fun q _ hq => h2 q hq, hL⟩ ⟨fun _ => hP1, fun z => absurd hK z⟩ (Nat.le_of_ble_eq_true rfl) (Nat.le_of_ble_eq_true rfl) dL_tryAbout_5
set_option maxHeartbeats 4000000 in
theorem k_L_trySpace (l : Launch) (hst : l.stackTraces = false) (g : Gt) (kt : Kt) (b : Nat) (sz ac : Int) (TX F DIA KEP ISK : Nat → Int) (T : Int) (hJ : J F z0 T) (hT : T ≤ 900000) (x : Int) (hx : Rg x) (s : Nat) (hs : 0 ≤ x → x = (s : Int)) (y : Int) (hy : Rg y) : TM l yL_trySpace (.codeWith yL_trySpace cL_trySpace 4 (some .int) [(0, 6, 7, 38), (0, 6, 11, 13)]) 8 133 2 g kt [.ref b, .int (iI x), .int (iI y)] (CW g b sz ac TX F DIA KEP ISK) (tv [-9999001, -9999002] (if ¬ (0 ≤ x ∧ x < F 0) then 1 else if ¬ (0 ≤ y ∧ y ≤ 10) then 2 else 0) (nOf F s y)) (Cdp b) (fun H => (((if ¬ (0 ≤ x ∧ x < F 0) then 1 else if ¬ (0 ≤ y ∧ y ≤ 10) then 2 else 0) : Int) = 0 → CW g b sz ac TX F DIA KEP ISK H) ∧ (((if ¬ (0 ≤ x ∧ x < F 0) then 1 else if ¬ (0 ≤ y ∧ y ≤ 10) then 2 else 0) : Int) ≠ 0 → CW g b sz ac TX F DIA KEP ISK H)) := by
  refine tmh_of (by decide) rfl (Nat.le_of_ble_eq_true rfl) ?_
  intro zp ze zs zm za zb zt zc ls C K9 ht9 hP hl
  have hl : lv_has ls 4 [(0, .ref b), (1, .int (iI x)), (2, .int (iI y))] := hl
  refine r_aload_n C rfl (lv_at hl 0 rfl) dL_trySpace_0 ?_
  refine r_iload_n C rfl (lv_at hl 1 rfl) dL_trySpace_1 ?_
  refine r_iload_n C rfl (lv_at hl 2 rfl) dL_trySpace_2 ?_
  refine r_vXMi (rest := []) C K9 (k_X3_space l hst g kt b sz ac TX F DIA KEP ISK T hJ hT x hx s hs y hy) s_RL_34 hP (recv C (ci := 3) rfl hP.lr.o) hl.1 rfl ⟨by decide, by decide⟩ rfl (Nat.le_of_ble_eq_true rfl) ⟨by decide, by decide⟩ dL_trySpace_3 (fun H1 q ce L9 hK h1 h2 hL h3 h4 h5 => ?_) (fun H1 L9 hK hP1 h1 h2 hL => ?_)
  · have hold : (CW g b sz ac TX F DIA KEP ISK) H1 := hP.kept (fun q h8 h9 => h2 q (by have := hP.lt; omega))
    have hc : ((if ¬ (0 ≤ x ∧ x < F 0) then 1 else if ¬ (0 ≤ y ∧ y ≤ 10) then 2 else 0) : Int) = 1 ∨ ((if ¬ (0 ≤ x ∧ x < F 0) then 1 else if ¬ (0 ≤ y ∧ y ≤ 10) then 2 else 0) : Int) = 2 := by revert hK; (repeat' split) <;> (intro hK; omega)
    rcases hc with e9 | e9
    · rw [e9] at h5
      refine lm_catch (E := eIB) C K9.1 [] (0, 6, 7, 38) [(0, 6, 11, 13)] ht9 (fun z hz => by cases hz) (by decide) (by decide) q_5490 (by decide) h3 h4 h5 ?_
      refine r_astore_n C rfl hl (by decide) rfl dL_trySpace_7 (fun ls hl => ?_)
      refine r_ldcI (w := -9999001) C (by decide) q_5528 dL_trySpace_8 ?_
      exact r_tret C rfl rfl (by rw [tv_n hK, e9]; rfl) ⟨h1, fun q hq _ => h2 q hq, hL⟩ ⟨fun z => absurd z hK, fun _ => hold⟩ (Nat.le_of_ble_eq_true rfl) (Nat.le_of_ble_eq_true rfl) dL_trySpace_10
    · rw [e9] at h5
      refine lm_catch (E := eIA) C K9.1 [(0, 6, 7, 38)] (0, 6, 11, 13) [] ht9 (fun z hz => by rw [List.mem_singleton.mp hz]; exact ⟨by decide, _, q_5490, by decide⟩) (by decide) (by decide) q_268 (by decide) h3 h4 h5 ?_
      refine r_astore_n C rfl hl (by decide) rfl dL_trySpace_11 (fun ls hl => ?_)
      refine r_ldcI (w := -9999002) C (by decide) q_5253 dL_trySpace_12 ?_
      exact r_tret C rfl rfl (by rw [tv_n hK, e9]; rfl) ⟨h1, fun q hq _ => h2 q hq, hL⟩ ⟨fun z => absurd z hK, fun _ => hold⟩ (Nat.le_of_ble_eq_true rfl) (Nat.le_of_ble_eq_true rfl) dL_trySpace_14
  · exact r_tret C rfl rfl (tv_0 hK).symm ⟨by omega, fun q _ hq => h2 q hq, hL⟩ ⟨fun _ => hP1, fun z => absurd hK z⟩ (Nat.le_of_ble_eq_true rfl) (Nat.le_of_ble_eq_true rfl) dL_trySpace_6
set_option maxHeartbeats 4000000 in
theorem k_L_tryLoans (l : Launch) (hst : l.stackTraces = false) (g : Gt) (kt : Kt) (b : Nat) (sz ac : Int) (TX F DIA KEP ISK : Nat → Int) (T : Int) (hJ : J F z0 T) (hT : T ≤ 900000) (x y : Int) (hx : Rg x) (hy : Rg y) (s k : Nat) (hs : 0 ≤ x → x = (s : Int)) (hk : 0 ≤ y → y = (k : Int)) : TM l yL_tryLoans (.codeWith yL_tryLoans cL_tryLoans 4 (some .int) [(0, 6, 7, 38)]) 8 133 2 g kt [.ref b, .int (iI x), .int (iI y)] (CW g b sz ac TX F DIA KEP ISK) (tv [-9999001] (Kd ((0 ≤ x ∧ x < F 0) ∧ (0 ≤ y ∧ y < F 0))) (F (2 + 52 * s + (7 + k)))) (Cdp b) (fun H => (((Kd ((0 ≤ x ∧ x < F 0) ∧ (0 ≤ y ∧ y < F 0))) : Int) = 0 → CW g b sz ac TX F DIA KEP ISK H) ∧ (((Kd ((0 ≤ x ∧ x < F 0) ∧ (0 ≤ y ∧ y < F 0))) : Int) ≠ 0 → CW g b sz ac TX F DIA KEP ISK H)) := by
  refine tmh_of (by decide) rfl (Nat.le_of_ble_eq_true rfl) ?_
  intro zp ze zs zm za zb zt zc ls C K9 ht9 hP hl
  have hl : lv_has ls 4 [(0, .ref b), (1, .int (iI x)), (2, .int (iI y))] := hl
  refine r_aload_n C rfl (lv_at hl 0 rfl) dL_tryLoans_0 ?_
  refine r_iload_n C rfl (lv_at hl 1 rfl) dL_tryLoans_1 ?_
  refine r_iload_n C rfl (lv_at hl 2 rfl) dL_tryLoans_2 ?_
  refine r_vXMi (rest := []) C K9 (k_X3_loans l hst g kt b sz ac TX F DIA KEP ISK T hJ hT x y hx hy s k hs hk) s_RL_41 hP (recv C (ci := 3) rfl hP.lr.o) hl.1 rfl ⟨by decide, by decide⟩ rfl (Nat.le_of_ble_eq_true rfl) ⟨by decide, by decide⟩ dL_tryLoans_3 (fun H1 q ce L9 hK h1 h2 hL h3 h4 h5 => ?_) (fun H1 L9 hK hP1 h1 h2 hL => ?_)
  · have hold : (CW g b sz ac TX F DIA KEP ISK) H1 := hP.kept (fun q h8 h9 => h2 q (by have := hP.lt; omega))
    have hc : ((Kd ((0 ≤ x ∧ x < F 0) ∧ (0 ≤ y ∧ y < F 0))) : Int) = 1 := by exact (Kd_n hK).1
    have e9 := hc
    rw [e9] at h5
    refine lm_catch (E := eIB) C K9.1 [] (0, 6, 7, 38) [] ht9 (fun z hz => by cases hz) (by decide) (by decide) q_5490 (by decide) h3 h4 h5 ?_
    refine r_astore_n C rfl hl (by decide) rfl dL_tryLoans_7 (fun ls hl => ?_)
    refine r_ldcI (w := -9999001) C (by decide) q_5528 dL_tryLoans_8 ?_
    exact r_tret C rfl rfl (by rw [tv_n hK, e9]; rfl) ⟨h1, fun q hq _ => h2 q hq, hL⟩ ⟨fun z => absurd z hK, fun _ => hold⟩ (Nat.le_of_ble_eq_true rfl) (Nat.le_of_ble_eq_true rfl) dL_tryLoans_10
  · exact r_tret C rfl rfl (tv_0 hK).symm ⟨by omega, fun q _ hq => h2 q hq, hL⟩ ⟨fun _ => hP1, fun z => absurd hK z⟩ (Nat.le_of_ble_eq_true rfl) (Nat.le_of_ble_eq_true rfl) dL_tryLoans_6
set_option maxHeartbeats 4000000 in
theorem k_L_tryTime (l : Launch) (hst : l.stackTraces = false) (g : Gt) (kt : Kt) (b : Nat) (sz ac : Int) (TX F DIA KEP ISK : Nat → Int) (T : Int) (hJ : J F z0 T) (hT : T ≤ 900000) (x y : Int) (hx : Rg x) (hy : Rg y) (s k : Nat) (hs : 0 ≤ x → x = (s : Int)) (hk : 0 ≤ y → y = (k : Int)) : TM l yL_tryTime (.codeWith yL_tryTime cL_tryTime 4 (some .int) [(0, 6, 7, 38)]) 8 134 1 g kt [.ref b, .int (iI x), .int (iI y)] (CW g b sz ac TX F DIA KEP ISK) (tv [-9999001] (Kd ((0 ≤ x ∧ x < F 0) ∧ (0 ≤ y ∧ y < 40))) (if F (2 + 52 * s + (12 + k)) = 0 then -1 else F (2 + 52 * s + (12 + k)))) (Cdp b) (fun H => (((Kd ((0 ≤ x ∧ x < F 0) ∧ (0 ≤ y ∧ y < 40))) : Int) = 0 → CW g b sz ac TX F DIA KEP ISK H) ∧ (((Kd ((0 ≤ x ∧ x < F 0) ∧ (0 ≤ y ∧ y < 40))) : Int) ≠ 0 → CW g b sz ac TX F DIA KEP ISK H)) := by
  refine tmh_of (by decide) rfl (Nat.le_of_ble_eq_true rfl) ?_
  intro zp ze zs zm za zb zt zc ls C K9 ht9 hP hl
  have hl : lv_has ls 4 [(0, .ref b), (1, .int (iI x)), (2, .int (iI y))] := hl
  refine r_aload_n C rfl (lv_at hl 0 rfl) dL_tryTime_0 ?_
  refine r_iload_n C rfl (lv_at hl 1 rfl) dL_tryTime_1 ?_
  refine r_iload_n C rfl (lv_at hl 2 rfl) dL_tryTime_2 ?_
  refine r_vXMi (rest := []) C K9 (k_X3_time l hst g kt b sz ac TX F DIA KEP ISK T hJ hT x y hx hy s k hs hk) s_RL_44 hP (recv C (ci := 3) rfl hP.lr.o) hl.1 rfl ⟨by decide, by decide⟩ rfl (Nat.le_of_ble_eq_true rfl) ⟨by decide, by decide⟩ dL_tryTime_3 (fun H1 q ce L9 hK h1 h2 hL h3 h4 h5 => ?_) (fun H1 L9 hK hP1 h1 h2 hL => ?_)
  · have hold : (CW g b sz ac TX F DIA KEP ISK) H1 := hP.kept (fun q h8 h9 => h2 q (by have := hP.lt; omega))
    have hc : ((Kd ((0 ≤ x ∧ x < F 0) ∧ (0 ≤ y ∧ y < 40))) : Int) = 1 := by exact (Kd_n hK).1
    have e9 := hc
    rw [e9] at h5
    refine lm_catch (E := eIB) C K9.1 [] (0, 6, 7, 38) [] ht9 (fun z hz => by cases hz) (by decide) (by decide) q_5490 (by decide) h3 h4 h5 ?_
    refine r_astore_n C rfl hl (by decide) rfl dL_tryTime_7 (fun ls hl => ?_)
    refine r_ldcI (w := -9999001) C (by decide) q_5528 dL_tryTime_8 ?_
    exact r_tret C rfl rfl (by rw [tv_n hK, e9]; rfl) ⟨h1, fun q hq _ => h2 q hq, hL⟩ ⟨fun z => absurd z hK, fun _ => hold⟩ (Nat.le_of_ble_eq_true rfl) (Nat.le_of_ble_eq_true rfl) dL_tryTime_10
  · exact r_tret C rfl rfl (tv_0 hK).symm ⟨by omega, fun q _ hq => h2 q hq, hL⟩ ⟨fun _ => hP1, fun z => absurd hK z⟩ (Nat.le_of_ble_eq_true rfl) (Nat.le_of_ble_eq_true rfl) dL_tryTime_6
set_option maxHeartbeats 4000000 in
theorem k_L_tryOldest (l : Launch) (hst : l.stackTraces = false) (g : Gt) (kt : Kt) (b : Nat) (sz ac : Int) (TX F DIA KEP ISK : Nat → Int) (T : Int) (hJ : J F z0 T) (hT : T ≤ 900000) (x : Int) (hx : Rg x) (s : Nat) (hs : 0 ≤ x → x = (s : Int)) (y : Int) (hy : Rg y) : TM l yL_tryOldest (.codeWith yL_tryOldest cL_tryOldest 4 (some .int) [(0, 6, 7, 38), (0, 6, 11, 13)]) 8 133 2 g kt [.ref b, .int (iI x), .int (iI y)] (CW g b sz ac TX F DIA KEP ISK) (tv [-9999001, -9999002] (if ¬ (0 ≤ x ∧ x < F 0) then 1 else if y < 0 then 2 else 0) (od F s y 40 0)) (Cdp b) (fun H => (((if ¬ (0 ≤ x ∧ x < F 0) then 1 else if y < 0 then 2 else 0) : Int) = 0 → CW g b sz ac TX F DIA KEP ISK H) ∧ (((if ¬ (0 ≤ x ∧ x < F 0) then 1 else if y < 0 then 2 else 0) : Int) ≠ 0 → CW g b sz ac TX F DIA KEP ISK H)) := by
  refine tmh_of (by decide) rfl (Nat.le_of_ble_eq_true rfl) ?_
  intro zp ze zs zm za zb zt zc ls C K9 ht9 hP hl
  have hl : lv_has ls 4 [(0, .ref b), (1, .int (iI x)), (2, .int (iI y))] := hl
  refine r_aload_n C rfl (lv_at hl 0 rfl) dL_tryOldest_0 ?_
  refine r_iload_n C rfl (lv_at hl 1 rfl) dL_tryOldest_1 ?_
  refine r_iload_n C rfl (lv_at hl 2 rfl) dL_tryOldest_2 ?_
  refine r_vXMi (rest := []) C K9 (k_X3_oldest l hst g kt b sz ac TX F DIA KEP ISK T hJ hT x hx s hs y hy) s_RL_47 hP (recv C (ci := 3) rfl hP.lr.o) hl.1 rfl ⟨by decide, by decide⟩ rfl (Nat.le_of_ble_eq_true rfl) ⟨by decide, by decide⟩ dL_tryOldest_3 (fun H1 q ce L9 hK h1 h2 hL h3 h4 h5 => ?_) (fun H1 L9 hK hP1 h1 h2 hL => ?_)
  · have hold : (CW g b sz ac TX F DIA KEP ISK) H1 := hP.kept (fun q h8 h9 => h2 q (by have := hP.lt; omega))
    have hc : ((if ¬ (0 ≤ x ∧ x < F 0) then 1 else if y < 0 then 2 else 0) : Int) = 1 ∨ ((if ¬ (0 ≤ x ∧ x < F 0) then 1 else if y < 0 then 2 else 0) : Int) = 2 := by revert hK; (repeat' split) <;> (intro hK; omega)
    rcases hc with e9 | e9
    · rw [e9] at h5
      refine lm_catch (E := eIB) C K9.1 [] (0, 6, 7, 38) [(0, 6, 11, 13)] ht9 (fun z hz => by cases hz) (by decide) (by decide) q_5490 (by decide) h3 h4 h5 ?_
      refine r_astore_n C rfl hl (by decide) rfl dL_tryOldest_7 (fun ls hl => ?_)
      refine r_ldcI (w := -9999001) C (by decide) q_5528 dL_tryOldest_8 ?_
      exact r_tret C rfl rfl (by rw [tv_n hK, e9]; rfl) ⟨h1, fun q hq _ => h2 q hq, hL⟩ ⟨fun z => absurd z hK, fun _ => hold⟩ (Nat.le_of_ble_eq_true rfl) (Nat.le_of_ble_eq_true rfl) dL_tryOldest_10
    · rw [e9] at h5
      refine lm_catch (E := eIA) C K9.1 [(0, 6, 7, 38)] (0, 6, 11, 13) [] ht9 (fun z hz => by rw [List.mem_singleton.mp hz]; exact ⟨by decide, _, q_5490, by decide⟩) (by decide) (by decide) q_268 (by decide) h3 h4 h5 ?_
      refine r_astore_n C rfl hl (by decide) rfl dL_tryOldest_11 (fun ls hl => ?_)
      refine r_ldcI (w := -9999002) C (by decide) q_5253 dL_tryOldest_12 ?_
      exact r_tret C rfl rfl (by rw [tv_n hK, e9]; rfl) ⟨h1, fun q hq _ => h2 q hq, hL⟩ ⟨fun z => absurd z hK, fun _ => hold⟩ (Nat.le_of_ble_eq_true rfl) (Nat.le_of_ble_eq_true rfl) dL_tryOldest_14
  · exact r_tret C rfl rfl (tv_0 hK).symm ⟨by omega, fun q _ hq => h2 q hq, hL⟩ ⟨fun _ => hP1, fun z => absurd hK z⟩ (Nat.le_of_ble_eq_true rfl) (Nat.le_of_ble_eq_true rfl) dL_tryOldest_6

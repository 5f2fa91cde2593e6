theorem s_RL_74 : SiteV "LentRoomLaw" 74 "LentRoom" yX3_harm cX3_harm 3 (some .int) 2 := ⟨⟨q_5659, q_689, q_690, q_30, q_691⟩, rfl, by decide, by decide, by decide +kernel⟩
theorem s_RL_77 : SiteV "LentRoomLaw" 77 "LentRoom" yX3_victim cX3_victim 4 (some .int) 1 := ⟨⟨q_5668, q_698, q_699, q_30, q_700⟩, rfl, by decide, by decide, by decide +kernel⟩
theorem s_RL_80 : SiteV "LentRoomLaw" 80 "LentRoom" yX3_mostFloor cX3_mostFloor 2 (some .int) 1 := ⟨⟨q_5679, q_709, q_710, q_30, q_711⟩, rfl, by decide, by decide, by decide +kernel⟩
theorem s_RL_83 : SiteV "LentRoomLaw" 83 "LentRoom" yX3_leastFloor cX3_leastFloor 2 (some .int) 1 := ⟨⟨q_5687, q_717, q_718, q_30, q_719⟩, rfl, by decide, by decide, by decide +kernel⟩
theorem s_RL_86 : SiteV "LentRoomLaw" 86 "LentRoom" yX3_save cX3_save 2 (some .int) 1 := ⟨⟨q_5695, q_764, q_765, q_30, q_766⟩, rfl, by decide, by decide, by decide +kernel⟩
theorem s_RL_89 : SiteV "LentRoomLaw" 89 "LentRoom" yX3_restore cX3_restore 2 (some .int) 1 := ⟨⟨q_5707, q_775, q_776, q_30, q_777⟩, rfl, by decide, by decide, by decide +kernel⟩
set_option maxHeartbeats 4000000 in
theorem k_L_tryHarm (l : Launch) (hst : l.stackTraces = false) (g : Gt) (kt : Kt) (b : Nat) (sz ac : Int) (TX F DIA KEP ISK : Nat → Int) (T : Int) (hJ : J F z0 T) (hT : T ≤ 900000) (x y : Int) (hx : Rg x) (hy : Rg y) (s k : Nat) (hs : 0 ≤ x → x = (s : Int)) (hk : 0 ≤ y → y = (k : Int)) : TM l yL_tryHarm (.codeWith yL_tryHarm cL_tryHarm 4 (some .int) [(0, 6, 7, 38), (0, 6, 11, 13)]) 8 140 2 g kt [.ref b, .int (iI x), .int (iI y)] (CW g b sz ac TX F DIA KEP ISK) (tv [-9999001, -9999002] (if ¬ (0 ≤ x ∧ x < F 0) then 1 else if ¬ (0 ≤ y ∧ y ≤ 60) then 2 else 0) (S5 (gF F s (gN F s k 0)) 5 - S5 F 5)) (Cdp b) (fun H => (((if ¬ (0 ≤ x ∧ x < F 0) then 1 else if ¬ (0 ≤ y ∧ y ≤ 60) then 2 else 0) : Int) = 0 → CW g b sz ac TX F DIA KEP ISK H) ∧ (((if ¬ (0 ≤ x ∧ x < F 0) then 1 else if ¬ (0 ≤ y ∧ y ≤ 60) then 2 else 0) : Int) ≠ 0 → CW g b sz ac TX F DIA KEP ISK H)) := by
  refine tmh_of (by decide) rfl (Nat.le_of_ble_eq_true rfl) ?_
  intro zp ze zs zm za zb zt zc ls C K9 ht9 hP hl
  have hl : lv_has ls 4 [(0, .ref b), (1, .int (iI x)), (2, .int (iI y))] := hl
  refine r_aload_n C rfl (lv_at hl 0 rfl) dL_tryHarm_0 ?_
  refine r_iload_n C rfl (lv_at hl 1 rfl) dL_tryHarm_1 ?_
  refine r_iload_n C rfl (lv_at hl 2 rfl) dL_tryHarm_2 ?_
  refine r_vXMi (rest := []) C K9 (k_X3_harm l hst g kt b sz ac TX F DIA KEP ISK T hJ hT x y hx hy s k hs hk) s_RL_74 hP (recv C (ci := 3) rfl hP.lr.o) hl.1 rfl ⟨by decide, by decide⟩ rfl (Nat.le_of_ble_eq_true rfl) ⟨by decide, by decide⟩ dL_tryHarm_3 (fun H1 q ce L9 hK h1 h2 hL h3 h4 h5 => ?_) (fun H1 L9 hK hP1 h1 h2 hL => ?_)
  · have hold : (CW g b sz ac TX F DIA KEP ISK) H1 := hP.kept (fun q h8 h9 => h2 q (by have := hP.lt; omega))
    have hc : ((if ¬ (0 ≤ x ∧ x < F 0) then 1 else if ¬ (0 ≤ y ∧ y ≤ 60) then 2 else 0) : Int) = 1 ∨ ((if ¬ (0 ≤ x ∧ x < F 0) then 1 else if ¬ (0 ≤ y ∧ y ≤ 60) then 2 else 0) : Int) = 2 := by revert hK; (repeat' split) <;> (intro hK; omega)
    rcases hc with e9 | e9
    · rw [e9] at h5
      refine lm_catch (E := eIB) C K9.1 [] (0, 6, 7, 38) [(0, 6, 11, 13)] ht9 (fun z hz => by cases hz) (by decide) (by decide) q_5490 (by decide) h3 h4 h5 ?_
      refine r_astore_n C rfl hl (by decide) rfl dL_tryHarm_7 (fun ls hl => ?_)
      refine r_ldcI (w := -9999001) C (by decide) q_5528 dL_tryHarm_8 ?_
      exact r_tret C rfl rfl (by rw [tv_n hK, e9]; rfl) ⟨h1, fun q hq _ => h2 q hq, hL⟩ ⟨fun z => absurd z hK, fun _ => hold⟩ (Nat.le_of_ble_eq_true rfl) (Nat.le_of_ble_eq_true rfl) dL_tryHarm_10
    · rw [e9] at h5
      refine lm_catch (E := eIA) C K9.1 [(0, 6, 7, 38)] (0, 6, 11, 13) [] ht9 (fun z hz => by rw [List.mem_singleton.mp hz]; exact ⟨by decide, _, q_5490, by decide⟩) (by decide) (by decide) q_268 (by decide) h3 h4 h5 ?_
      refine r_astore_n C rfl hl (by decide) rfl dL_tryHarm_11 (fun ls hl => ?_)
      refine r_ldcI (w := -9999002) C (by decide) q_5253 dL_tryHarm_12 ?_
      exact r_tret C rfl rfl (by rw [tv_n hK, e9]; rfl) ⟨h1, fun q hq _ => h2 q hq, hL⟩ ⟨fun z => absurd z hK, fun _ => hold⟩ (Nat.le_of_ble_eq_true rfl) (Nat.le_of_ble_eq_true rfl) dL_tryHarm_14
  · exact r_tret C rfl rfl (tv_0 hK).symm ⟨by omega, fun q _ hq => h2 q hq, hL⟩ ⟨fun _ => hP1, fun z => absurd hK z⟩ (Nat.le_of_ble_eq_true rfl) (Nat.le_of_ble_eq_true rfl) dL_tryHarm_6
set_option maxHeartbeats 4000000 in
theorem k_L_tryVictim (l : Launch) (hst : l.stackTraces = false) (g : Gt) (kt : Kt) (b : Nat) (sz ac : Int) (TX F DIA KEP ISK : Nat → Int) (T : Int) (hJ : J F z0 T) (hT : T ≤ 900000) (x : Int) (hx : Rg x) (s : Nat) (hs : 0 ≤ x → x = (s : Int)) : TM l yL_tryVictim (.codeWith yL_tryVictim cL_tryVictim 3 (some .int) [(0, 5, 6, 38)]) 8 134 1 g kt [.ref b, .int (iI x)] (CW g b sz ac TX F DIA KEP ISK) (tv [-9999001] (Kd (0 ≤ x ∧ x < F 0)) (gL F s (gN F s 61 0))) (Cdp b) (fun H => (((Kd (0 ≤ x ∧ x < F 0)) : Int) = 0 → CW g b sz ac TX F DIA KEP ISK H) ∧ (((Kd (0 ≤ x ∧ x < F 0)) : Int) ≠ 0 → CW g b sz ac TX F DIA KEP ISK H)) := by
  refine tmh_of (by decide) rfl (Nat.le_of_ble_eq_true rfl) ?_
  intro zp ze zs zm za zb zt zc ls C K9 ht9 hP hl
  have hl : lv_has ls 3 [(0, .ref b), (1, .int (iI x))] := hl
  refine r_aload_n C rfl (lv_at hl 0 rfl) dL_tryVictim_0 ?_
  refine r_iload_n C rfl (lv_at hl 1 rfl) dL_tryVictim_1 ?_
  refine r_vXMi (rest := []) C K9 (k_X3_victim l hst g kt b sz ac TX F DIA KEP ISK T hJ hT x hx s hs) s_RL_77 hP (recv C (ci := 3) rfl hP.lr.o) hl.1 rfl ⟨by decide, by decide⟩ rfl (Nat.le_of_ble_eq_true rfl) ⟨by decide, by decide⟩ dL_tryVictim_2 (fun H1 q ce L9 hK h1 h2 hL h3 h4 h5 => ?_) (fun H1 L9 hK hP1 h1 h2 hL => ?_)
  · have hold : (CW g b sz ac TX F DIA KEP ISK) H1 := hP.kept (fun q h8 h9 => h2 q (by have := hP.lt; omega))
    have hc : ((Kd (0 ≤ x ∧ x < F 0)) : Int) = 1 := by exact (Kd_n hK).1
    have e9 := hc
    rw [e9] at h5
    refine lm_catch (E := eIB) C K9.1 [] (0, 5, 6, 38) [] ht9 (fun z hz => by cases hz) (by decide) (by decide) q_5490 (by decide) h3 h4 h5 ?_
    refine r_astore_n C rfl hl (by decide) rfl dL_tryVictim_6 (fun ls hl => ?_)
    refine r_ldcI (w := -9999001) C (by decide) q_5528 dL_tryVictim_7 ?_
    exact r_tret C rfl rfl (by rw [tv_n hK, e9]; rfl) ⟨h1, fun q hq _ => h2 q hq, hL⟩ ⟨fun z => absurd z hK, fun _ => hold⟩ (Nat.le_of_ble_eq_true rfl) (Nat.le_of_ble_eq_true rfl) dL_tryVictim_9
  · exact r_tret C rfl rfl (tv_0 hK).symm ⟨by omega, fun q _ hq => h2 q hq, hL⟩ ⟨fun _ => hP1, fun z => absurd hK z⟩ (Nat.le_of_ble_eq_true rfl) (Nat.le_of_ble_eq_true rfl) dL_tryVictim_5
set_option maxHeartbeats 4000000 in
theorem k_L_tryMost (l : Launch) (hst : l.stackTraces = false) (g : Gt) (kt : Kt) (b : Nat) (sz ac : Int) (TX F DIA KEP ISK : Nat → Int) (T : Int) (hJ : J F z0 T) (hT : T ≤ 900000) (x : Int) (hx : Rg x) (s : Nat) (hs : 0 ≤ x → x = (s : Int)) : TM l yL_tryMost (.codeWith yL_tryMost cL_tryMost 3 (some .int) [(0, 5, 6, 38)]) 8 132 1 g kt [.ref b, .int (iI x)] (CW g b sz ac TX F DIA KEP ISK) (tv [-9999001] (Kd (0 ≤ x ∧ x < F 0)) (mn (F (2 + 52 * s + 1)) (F (2 + 52 * s + 0) + free F))) (Cdp b) (fun H => (((Kd (0 ≤ x ∧ x < F 0)) : Int) = 0 → CW g b sz ac TX F DIA KEP ISK H) ∧ (((Kd (0 ≤ x ∧ x < F 0)) : Int) ≠ 0 → CW g b sz ac TX F DIA KEP ISK H)) := by
  refine tmh_of (by decide) rfl (Nat.le_of_ble_eq_true rfl) ?_
  intro zp ze zs zm za zb zt zc ls C K9 ht9 hP hl
  have hl : lv_has ls 3 [(0, .ref b), (1, .int (iI x))] := hl
  refine r_aload_n C rfl (lv_at hl 0 rfl) dL_tryMost_0 ?_
  refine r_iload_n C rfl (lv_at hl 1 rfl) dL_tryMost_1 ?_
  refine r_vXMi (rest := []) C K9 (k_X3_mostFloor l hst g kt b sz ac TX F DIA KEP ISK T hJ hT x hx s hs) s_RL_80 hP (recv C (ci := 3) rfl hP.lr.o) hl.1 rfl ⟨by decide, by decide⟩ rfl (Nat.le_of_ble_eq_true rfl) ⟨by decide, by decide⟩ dL_tryMost_2 (fun H1 q ce L9 hK h1 h2 hL h3 h4 h5 => ?_) (fun H1 L9 hK hP1 h1 h2 hL => ?_)
  · have hold : (CW g b sz ac TX F DIA KEP ISK) H1 := hP.kept (fun q h8 h9 => h2 q (by have := hP.lt; omega))
    have hc : ((Kd (0 ≤ x ∧ x < F 0)) : Int) = 1 := by exact (Kd_n hK).1
    have e9 := hc
    rw [e9] at h5
    refine lm_catch (E := eIB) C K9.1 [] (0, 5, 6, 38) [] ht9 (fun z hz => by cases hz) (by decide) (by decide) q_5490 (by decide) h3 h4 h5 ?_
    refine r_astore_n C rfl hl (by decide) rfl dL_tryMost_6 (fun ls hl => ?_)
    refine r_ldcI (w := -9999001) C (by decide) q_5528 dL_tryMost_7 ?_
    exact r_tret C rfl rfl (by rw [tv_n hK, e9]; rfl) ⟨h1, fun q hq _ => h2 q hq, hL⟩ ⟨fun z => absurd z hK, fun _ => hold⟩ (Nat.le_of_ble_eq_true rfl) (Nat.le_of_ble_eq_true rfl) dL_tryMost_9
  · exact r_tret C rfl rfl (tv_0 hK).symm ⟨by omega, fun q _ hq => h2 q hq, hL⟩ ⟨fun _ => hP1, fun z => absurd hK z⟩ (Nat.le_of_ble_eq_true rfl) (Nat.le_of_ble_eq_true rfl) dL_tryMost_5
set_option maxHeartbeats 4000000 in
theorem k_L_tryLeast (l : Launch) (hst : l.stackTraces = false) (g : Gt) (kt : Kt) (b : Nat) (sz ac : Int) (TX F DIA KEP ISK : Nat → Int) (T : Int) (hJ : J F z0 T) (hT : T ≤ 900000) (x : Int) (hx : Rg x) (s : Nat) (hs : 0 ≤ x → x = (s : Int)) : TM l yL_tryLeast (.codeWith yL_tryLeast cL_tryLeast 3 (some .int) [(0, 5, 6, 38)]) 8 132 1 g kt [.ref b, .int (iI x)] (CW g b sz ac TX F DIA KEP ISK) (tv [-9999001] (Kd (0 ≤ x ∧ x < F 0)) (F (2 + 52 * s + 0) - idle F s)) (Cdp b) (fun H => (((Kd (0 ≤ x ∧ x < F 0)) : Int) = 0 → CW g b sz ac TX F DIA KEP ISK H) ∧ (((Kd (0 ≤ x ∧ x < F 0)) : Int) ≠ 0 → CW g b sz ac TX F DIA KEP ISK H)) := by
  refine tmh_of (by decide) rfl (Nat.le_of_ble_eq_true rfl) ?_
  intro zp ze zs zm za zb zt zc ls C K9 ht9 hP hl
  have hl : lv_has ls 3 [(0, .ref b), (1, .int (iI x))] := hl
  refine r_aload_n C rfl (lv_at hl 0 rfl) dL_tryLeast_0 ?_
  refine r_iload_n C rfl (lv_at hl 1 rfl) dL_tryLeast_1 ?_
  refine r_vXMi (rest := []) C K9 (k_X3_leastFloor l hst g kt b sz ac TX F DIA KEP ISK T hJ hT x hx s hs) s_RL_83 hP (recv C (ci := 3) rfl hP.lr.o) hl.1 rfl ⟨by decide, by decide⟩ rfl (Nat.le_of_ble_eq_true rfl) ⟨by decide, by decide⟩ dL_tryLeast_2 (fun H1 q ce L9 hK h1 h2 hL h3 h4 h5 => ?_) (fun H1 L9 hK hP1 h1 h2 hL => ?_)
  · have hold : (CW g b sz ac TX F DIA KEP ISK) H1 := hP.kept (fun q h8 h9 => h2 q (by have := hP.lt; omega))
    have hc : ((Kd (0 ≤ x ∧ x < F 0)) : Int) = 1 := by exact (Kd_n hK).1
    have e9 := hc
    rw [e9] at h5
    refine lm_catch (E := eIB) C K9.1 [] (0, 5, 6, 38) [] ht9 (fun z hz => by cases hz) (by decide) (by decide) q_5490 (by decide) h3 h4 h5 ?_
    refine r_astore_n C rfl hl (by decide) rfl dL_tryLeast_6 (fun ls hl => ?_)
    refine r_ldcI (w := -9999001) C (by decide) q_5528 dL_tryLeast_7 ?_
    exact r_tret C rfl rfl (by rw [tv_n hK, e9]; rfl) ⟨h1, fun q hq _ => h2 q hq, hL⟩ ⟨fun z => absurd z hK, fun _ => hold⟩ (Nat.le_of_ble_eq_true rfl) (Nat.le_of_ble_eq_true rfl) dL_tryLeast_9
  · exact r_tret C rfl rfl (tv_0 hK).symm ⟨by omega, fun q _ hq => h2 q hq, hL⟩ ⟨fun _ => hP1, fun z => absurd hK z⟩ (Nat.le_of_ble_eq_true rfl) (Nat.le_of_ble_eq_true rfl) dL_tryLeast_5
set_option maxHeartbeats 4000000 in
theorem k_L_tryKeep (l : Launch) (hst : l.stackTraces = false) (g : Gt) (kt : Kt) (b : Nat) (sz ac : Int) (TX F DIA KEP ISK : Nat → Int) (T : Int) (hJ : J F z0 T) (hT : T ≤ 900000) (x : Int) (hx : Rg x) (k : Nat) (hk : 0 ≤ x → x = (k : Int)) : TM l yL_tryKeep (.codeWith yL_tryKeep cL_tryKeep 3 (some .int) [(0, 5, 6, 38)]) 8 131 1 g kt [.ref b, .int (iI x)] (CW g b sz ac TX F DIA KEP ISK) (tv [-9999001] (Kd (0 ≤ x ∧ x ≤ 1)) (tkA F)) (Cdp b) (fun H => (((Kd (0 ≤ x ∧ x ≤ 1)) : Int) = 0 → CW g b sz ac TX F DIA (cpy KEP F (262 * k) 0 262) (up ISK k 1) H) ∧ (((Kd (0 ≤ x ∧ x ≤ 1)) : Int) ≠ 0 → CW g b sz ac TX F DIA KEP ISK H)) := by
  refine tmh_of (by decide) rfl (Nat.le_of_ble_eq_true rfl) ?_
  intro zp ze zs zm za zb zt zc ls C K9 ht9 hP hl
  have hl : lv_has ls 3 [(0, .ref b), (1, .int (iI x))] := hl
  refine r_aload_n C rfl (lv_at hl 0 rfl) dL_tryKeep_0 ?_
  refine r_iload_n C rfl (lv_at hl 1 rfl) dL_tryKeep_1 ?_
  refine r_vXMi (rest := []) C K9 (k_X3_save l hst g kt b sz ac TX F DIA KEP ISK T hJ hT x hx k hk) s_RL_86 hP (recv C (ci := 3) rfl hP.lr.o) hl.1 rfl ⟨by decide, by decide⟩ rfl (Nat.le_of_ble_eq_true rfl) ⟨by decide, by decide⟩ dL_tryKeep_2 (fun H1 q ce L9 hK h1 h2 hL h3 h4 h5 => ?_) (fun H1 L9 hK hP1 h1 h2 hL => ?_)
  · have hold : (CW g b sz ac TX F DIA KEP ISK) H1 := hP.kept (fun q h8 h9 => h2 q (by have := hP.lt; omega))
    have hc : ((Kd (0 ≤ x ∧ x ≤ 1)) : Int) = 1 := by exact (Kd_n hK).1
    have e9 := hc
    rw [e9] at h5
    refine lm_catch (E := eIB) C K9.1 [] (0, 5, 6, 38) [] ht9 (fun z hz => by cases hz) (by decide) (by decide) q_5490 (by decide) h3 h4 h5 ?_
    refine r_astore_n C rfl hl (by decide) rfl dL_tryKeep_6 (fun ls hl => ?_)
    refine r_ldcI (w := -9999001) C (by decide) q_5528 dL_tryKeep_7 ?_
    exact r_tret C rfl rfl (by rw [tv_n hK, e9]; rfl) ⟨h1, fun q hq _ => h2 q hq, hL⟩ ⟨fun z => absurd z hK, fun _ => hold⟩ (Nat.le_of_ble_eq_true rfl) (Nat.le_of_ble_eq_true rfl) dL_tryKeep_9
  · exact r_tret C rfl rfl (tv_0 hK).symm ⟨by omega, fun q _ hq => h2 q hq, hL⟩ ⟨fun _ => hP1, fun z => absurd hK z⟩ (Nat.le_of_ble_eq_true rfl) (Nat.le_of_ble_eq_true rfl) dL_tryKeep_5
set_option maxHeartbeats 4000000 in
theorem k_L_tryBack (l : Launch) (hst : l.stackTraces = false) (g : Gt) (kt : Kt) (b : Nat) (sz ac : Int) (TX F DIA KEP ISK : Nat → Int) (T : Int) (hJ : J F z0 T) (hT : T ≤ 900000) (x : Int) (hx : Rg x) (k : Nat) (hk : 0 ≤ x → x = (k : Int)) (hIS : ∀ k : Nat, k < 2 → 0 ≤ ISK k ∧ ISK k ≤ 1) (hJK : 0 ≤ x ∧ x ≤ 1 → ISK k ≠ 0 → J (fun i => KEP (262 * k + i)) z0 T) : TM l yL_tryBack (.codeWith yL_tryBack cL_tryBack 3 (some .int) [(0, 5, 6, 38), (0, 5, 10, 24)]) 8 131 2 g kt [.ref b, .int (iI x)] (CW g b sz ac TX F DIA KEP ISK) (tv [-9999001, -9999003] (if ¬ (0 ≤ x ∧ x ≤ 1) then 1 else if ISK k = 0 then 2 else 0) (tkA (fun i => KEP (262 * k + i)))) (Cdp b) (fun H => (((if ¬ (0 ≤ x ∧ x ≤ 1) then 1 else if ISK k = 0 then 2 else 0) : Int) = 0 → CW g b sz 0 TX (fun i => KEP (262 * k + i)) DIA KEP ISK H) ∧ (((if ¬ (0 ≤ x ∧ x ≤ 1) then 1 else if ISK k = 0 then 2 else 0) : Int) ≠ 0 → CW g b sz ac TX F DIA KEP ISK H)) := by
  refine tmh_of (by decide) rfl (Nat.le_of_ble_eq_true rfl) ?_
  intro zp ze zs zm za zb zt zc ls C K9 ht9 hP hl
  have hl : lv_has ls 3 [(0, .ref b), (1, .int (iI x))] := hl
  refine r_aload_n C rfl (lv_at hl 0 rfl) dL_tryBack_0 ?_
  refine r_iload_n C rfl (lv_at hl 1 rfl) dL_tryBack_1 ?_
  refine r_vXMi (rest := []) C K9 (k_X3_restore l hst g kt b sz ac TX F DIA KEP ISK T hJ hT x hx k hk hIS hJK) s_RL_89 hP (recv C (ci := 3) rfl hP.lr.o) hl.1 rfl ⟨by decide, by decide⟩ rfl (Nat.le_of_ble_eq_true rfl) ⟨by decide, by decide⟩ dL_tryBack_2 (fun H1 q ce L9 hK h1 h2 hL h3 h4 h5 => ?_) (fun H1 L9 hK hP1 h1 h2 hL => ?_)
  · have hold : (CW g b sz ac TX F DIA KEP ISK) H1 := hP.kept (fun q h8 h9 => h2 q (by have := hP.lt; omega))
    have hc : ((if ¬ (0 ≤ x ∧ x ≤ 1) then 1 else if ISK k = 0 then 2 else 0) : Int) = 1 ∨ ((if ¬ (0 ≤ x ∧ x ≤ 1) then 1 else if ISK k = 0 then 2 else 0) : Int) = 2 := by revert hK; (repeat' split) <;> (intro hK; omega)
    rcases hc with e9 | e9
    · rw [e9] at h5
      refine lm_catch (E := eIB) C K9.1 [] (0, 5, 6, 38) [(0, 5, 10, 24)] ht9 (fun z hz => by cases hz) (by decide) (by decide) q_5490 (by decide) h3 h4 h5 ?_
      refine r_astore_n C rfl hl (by decide) rfl dL_tryBack_6 (fun ls hl => ?_)
      refine r_ldcI (w := -9999001) C (by decide) q_5528 dL_tryBack_7 ?_
      exact r_tret C rfl rfl (by rw [tv_n hK, e9]; rfl) ⟨h1, fun q hq _ => h2 q hq, hL⟩ ⟨fun z => absurd z hK, fun _ => hold⟩ (Nat.le_of_ble_eq_true rfl) (Nat.le_of_ble_eq_true rfl) dL_tryBack_9
    · rw [e9] at h5
      refine lm_catch (E := eIS) C K9.1 [(0, 5, 6, 38)] (0, 5, 10, 24) [] ht9 (fun z hz => by rw [List.mem_singleton.mp hz]; exact ⟨by decide, _, q_5490, by decide⟩) (by decide) (by decide) q_5155 (by decide) h3 h4 h5 ?_
      refine r_astore_n C rfl hl (by decide) rfl dL_tryBack_10 (fun ls hl => ?_)
      refine r_ldcI (w := -9999003) C (by decide) q_5254 dL_tryBack_11 ?_
      exact r_tret C rfl rfl (by rw [tv_n hK, e9]; rfl) ⟨h1, fun q hq _ => h2 q hq, hL⟩ ⟨fun z => absurd z hK, fun _ => hold⟩ (Nat.le_of_ble_eq_true rfl) (Nat.le_of_ble_eq_true rfl) dL_tryBack_13
  · exact r_tret C rfl rfl (tv_0 hK).symm ⟨by omega, fun q _ hq => h2 q hq, hL⟩ ⟨fun _ => hP1, fun z => absurd hK z⟩ (Nat.le_of_ble_eq_true rfl) (Nat.le_of_ble_eq_true rfl) dL_tryBack_5

theorem s_RL_50 : SiteV "LentRoomLaw" 50 "LentRoom" yX3_make cX3_make 3 (some .int) 2 := ⟨⟨q_5565, q_595, q_596, q_30, q_597⟩, rfl, by decide, by decide, by decide +kernel⟩
theorem s_RL_53 : SiteV "LentRoomLaw" 53 "LentRoom" yX3_write cX3_write 3 (some .int) 2 := ⟨⟨q_5581, q_611, q_612, q_30, q_613⟩, rfl, by decide, by decide, by decide +kernel⟩
theorem s_RL_56 : SiteV "LentRoomLaw" 56 "LentRoom" yX3_trim cX3_trim 3 (some .int) 2 := ⟨⟨q_5588, q_618, q_619, q_30, q_620⟩, rfl, by decide, by decide, by decide +kernel⟩
theorem s_RL_59 : SiteV "LentRoomLaw" 59 "LentRoom" yX3_setFloor cX3_setFloor 4 (some .int) 2 := ⟨⟨q_5597, q_627, q_628, q_30, q_629⟩, rfl, by decide, by decide, by decide +kernel⟩
theorem s_RL_62 : SiteV "LentRoomLaw" 62 "LentRoom" yX3_setCeiling cX3_setCeiling 4 (some .int) 2 := ⟨⟨q_5607, q_637, q_638, q_30, q_639⟩, rfl, by decide, by decide, by decide +kernel⟩
theorem s_RL_65 : SiteV "LentRoomLaw" 65 "LentRoom" yX3_undo cX3_undo 1 (some .int) 0 := ⟨⟨q_5624, q_654, q_655, q_30, q_656⟩, rfl, by decide, by decide, by decide +kernel⟩
theorem s_RL_68 : SiteV "LentRoomLaw" 68 "LentRoom" yX3_would cX3_would 3 (some .int) 2 := ⟨⟨q_5640, q_670, q_671, q_30, q_672⟩, rfl, by decide, by decide, by decide +kernel⟩
theorem s_RL_71 : SiteV "LentRoomLaw" 71 "LentRoom" yX3_room cX3_room 2 (some .int) 1 := ⟨⟨q_5647, q_677, q_678, q_30, q_679⟩, rfl, by decide, by decide, by decide +kernel⟩
set_option maxHeartbeats 4000000 in
theorem k_L_tryMake (l : Launch) (hst : l.stackTraces = false) (g : Gt) (kt : Kt) (b : Nat) (sz ac : Int) (TX F DIA KEP ISK : Nat → Int) (T : Int) (hJ : J F z0 T) (hT : T ≤ 900000) (x y : Int) (hx : Rg x) (hy : Rg y) (hac : 0 ≤ ac ∧ ac ≤ 14) : TM l yL_tryMake (.codeWith yL_tryMake cL_tryMake 4 (some .int) [(0, 6, 7, 13), (0, 6, 11, 24)]) 7 112 2 g kt [.ref b, .int (iI x), .int (iI y)] (CW g b sz ac TX F DIA KEP ISK) (tv [-9999002, -9999003] (whyMk F x y) (F 0)) (Cdp b) (fun H => (((whyMk F x y) : Int) = 0 → CW g b sz (remA ac) TX (mkF F x y) (rem DIA F ac) KEP ISK H) ∧ (((whyMk F x y) : Int) ≠ 0 → CW g b sz ac TX F DIA KEP ISK H)) := by
  refine tmh_of (by decide) rfl (Nat.le_of_ble_eq_true rfl) ?_
  intro zp ze zs zm za zb zt zc ls C K9 ht9 hP hl
  have hl : lv_has ls 4 [(0, .ref b), (1, .int (iI x)), (2, .int (iI y))] := hl
  refine r_aload_n C rfl (lv_at hl 0 rfl) dL_tryMake_0 ?_
  refine r_iload_n C rfl (lv_at hl 1 rfl) dL_tryMake_1 ?_
  refine r_iload_n C rfl (lv_at hl 2 rfl) dL_tryMake_2 ?_
  refine r_vXMi (rest := []) C K9 (k_X3_make l hst g kt b sz ac TX F DIA KEP ISK T hJ hT x y hx hy hac) s_RL_50 hP (recv C (ci := 3) rfl hP.lr.o) hl.1 rfl ⟨by decide, by decide⟩ rfl (Nat.le_of_ble_eq_true rfl) ⟨by decide, by decide⟩ dL_tryMake_3 (fun H1 q ce L9 hK h1 h2 hL h3 h4 h5 => ?_) (fun H1 L9 hK hP1 h1 h2 hL => ?_)
  · have hold : (CW g b sz ac TX F DIA KEP ISK) H1 := hP.kept (fun q h8 h9 => h2 q (by have := hP.lt; omega))
    have hc : ((whyMk F x y) : Int) = 1 ∨ ((whyMk F x y) : Int) = 2 := by unfold whyMk at hK ⊢; revert hK; (repeat' split) <;> (intro hK; omega)
    rcases hc with e9 | e9
    · rw [e9] at h5
      refine lm_catch (E := eIA) C K9.1 [] (0, 6, 7, 13) [(0, 6, 11, 24)] ht9 (fun z hz => by cases hz) (by decide) (by decide) q_268 (by decide) h3 h4 h5 ?_
      refine r_astore_n C rfl hl (by decide) rfl dL_tryMake_7 (fun ls hl => ?_)
      refine r_ldcI (w := -9999002) C (by decide) q_5253 dL_tryMake_8 ?_
      exact r_tret C rfl rfl (by rw [tv_n hK, e9]; rfl) ⟨h1, fun q hq _ => h2 q hq, hL⟩ ⟨fun z => absurd z hK, fun _ => hold⟩ (Nat.le_of_ble_eq_true rfl) (Nat.le_of_ble_eq_true rfl) dL_tryMake_10
    · rw [e9] at h5
      refine lm_catch (E := eIS) C K9.1 [(0, 6, 7, 13)] (0, 6, 11, 24) [] ht9 (fun z hz => by rw [List.mem_singleton.mp hz]; exact ⟨by decide, _, q_268, by decide⟩) (by decide) (by decide) q_5155 (by decide) h3 h4 h5 ?_
      refine r_astore_n C rfl hl (by decide) rfl dL_tryMake_11 (fun ls hl => ?_)
      refine r_ldcI (w := -9999003) C (by decide) q_5254 dL_tryMake_12 ?_
      exact r_tret C rfl rfl (by rw [tv_n hK, e9]; rfl) ⟨h1, fun q hq _ => h2 q hq, hL⟩ ⟨fun z => absurd z hK, fun _ => hold⟩ (Nat.le_of_ble_eq_true rfl) (Nat.le_of_ble_eq_true rfl) dL_tryMake_14
  · exact r_tret C rfl rfl (tv_0 hK).symm ⟨by omega, fun q _ hq => h2 q hq, hL⟩ ⟨fun _ => hP1, fun z => absurd hK z⟩ (Nat.le_of_ble_eq_true rfl) (Nat.le_of_ble_eq_true rfl) dL_tryMake_6
set_option maxHeartbeats 4000000 in
theorem k_L_tryWrite (l : Launch) (hst : l.stackTraces = false) (g : Gt) (kt : Kt) (b : Nat) (sz ac : Int) (TX F DIA KEP ISK : Nat → Int) (T : Int) (hJ : J F z0 T) (hT : T ≤ 900000) (x y : Int) (hx : Rg x) (hy : Rg y) (s k : Nat) (hs : 0 ≤ x → x = (s : Int)) (hk : 0 ≤ y → y = (k : Int)) (hac : 0 ≤ ac ∧ ac ≤ 14) : TM l yL_tryWrite (.codeWith yL_tryWrite cL_tryWrite 4 (some .int) [(0, 6, 7, 38)]) 8 139 1 g kt [.ref b, .int (iI x), .int (iI y)] (CW g b sz ac TX F DIA KEP ISK) (tv [-9999001] (Kd ((0 ≤ x ∧ x < F 0) ∧ (0 ≤ y ∧ y < 40))) (wrR F s k)) (Cdp b) (fun H => (((Kd ((0 ≤ x ∧ x < F 0) ∧ (0 ≤ y ∧ y < 40))) : Int) = 0 → CW g b sz (remA ac) TX (wrF F s k) (rem DIA F ac) KEP ISK H) ∧ (((Kd ((0 ≤ x ∧ x < F 0) ∧ (0 ≤ y ∧ y < 40))) : Int) ≠ 0 → CW g b sz ac TX F DIA KEP ISK H)) := by
  refine tmh_of (by decide) rfl (Nat.le_of_ble_eq_true rfl) ?_
  intro zp ze zs zm za zb zt zc ls C K9 ht9 hP hl
  have hl : lv_has ls 4 [(0, .ref b), (1, .int (iI x)), (2, .int (iI y))] := hl
  refine r_aload_n C rfl (lv_at hl 0 rfl) dL_tryWrite_0 ?_
  refine r_iload_n C rfl (lv_at hl 1 rfl) dL_tryWrite_1 ?_
  refine r_iload_n C rfl (lv_at hl 2 rfl) dL_tryWrite_2 ?_
  refine r_vXMi (rest := []) C K9 (k_X3_write l hst g kt b sz ac TX F DIA KEP ISK T hJ hT x y hx hy s k hs hk hac) s_RL_53 hP (recv C (ci := 3) rfl hP.lr.o) hl.1 rfl ⟨by decide, by decide⟩ rfl (Nat.le_of_ble_eq_true rfl) ⟨by decide, by decide⟩ dL_tryWrite_3 (fun H1 q ce L9 hK h1 h2 hL h3 h4 h5 => ?_) (fun H1 L9 hK hP1 h1 h2 hL => ?_)
  · have hold : (CW g b sz ac TX F DIA KEP ISK) H1 := hP.kept (fun q h8 h9 => h2 q (by have := hP.lt; omega))
    have hc : ((Kd ((0 ≤ x ∧ x < F 0) ∧ (0 ≤ y ∧ y < 40))) : Int) = 1 := by exact (Kd_n hK).1
    have e9 := hc
    rw [e9] at h5
    refine lm_catch (E := eIB) C K9.1 [] (0, 6, 7, 38) [] ht9 (fun z hz => by cases hz) (by decide) (by decide) q_5490 (by decide) h3 h4 h5 ?_
    refine r_astore_n C rfl hl (by decide) rfl dL_tryWrite_7 (fun ls hl => ?_)
    refine r_ldcI (w := -9999001) C (by decide) q_5528 dL_tryWrite_8 ?_
    exact r_tret C rfl rfl (by rw [tv_n hK, e9]; rfl) ⟨h1, fun q hq _ => h2 q hq, hL⟩ ⟨fun z => absurd z hK, fun _ => hold⟩ (Nat.le_of_ble_eq_true rfl) (Nat.le_of_ble_eq_true rfl) dL_tryWrite_10
  · exact r_tret C rfl rfl (tv_0 hK).symm ⟨by omega, fun q _ hq => h2 q hq, hL⟩ ⟨fun _ => hP1, fun z => absurd hK z⟩ (Nat.le_of_ble_eq_true rfl) (Nat.le_of_ble_eq_true rfl) dL_tryWrite_6
set_option maxHeartbeats 4000000 in
theorem k_L_tryTrim (l : Launch) (hst : l.stackTraces = false) (g : Gt) (kt : Kt) (b : Nat) (sz ac : Int) (TX F DIA KEP ISK : Nat → Int) (T : Int) (hJ : J F z0 T) (hT : T ≤ 900000) (x y : Int) (hx : Rg x) (hy : Rg y) (s k : Nat) (hs : 0 ≤ x → x = (s : Int)) (hk : 0 ≤ y → y = (k : Int)) (hac : 0 ≤ ac ∧ ac ≤ 14) : TM l yL_tryTrim (.codeWith yL_tryTrim cL_tryTrim 4 (some .int) [(0, 6, 7, 38), (0, 6, 11, 24)]) 8 134 2 g kt [.ref b, .int (iI x), .int (iI y)] (CW g b sz ac TX F DIA KEP ISK) (tv [-9999001, -9999003] (if ¬ ((0 ≤ x ∧ x < F 0) ∧ (0 ≤ y ∧ y < 40)) then 1 else if ¬ (0 < F (2 + 52 * s + (12 + k))) then 2 else 0) (tk (trF F s k) s)) (Cdp b) (fun H => (((if ¬ ((0 ≤ x ∧ x < F 0) ∧ (0 ≤ y ∧ y < 40)) then 1 else if ¬ (0 < F (2 + 52 * s + (12 + k))) then 2 else 0) : Int) = 0 → CW g b sz (remA ac) TX (trF F s k) (rem DIA F ac) KEP ISK H) ∧ (((if ¬ ((0 ≤ x ∧ x < F 0) ∧ (0 ≤ y ∧ y < 40)) then 1 else if ¬ (0 < F (2 + 52 * s + (12 + k))) then 2 else 0) : Int) ≠ 0 → CW g b sz ac TX F DIA KEP ISK H)) := by
  refine tmh_of (by decide) rfl (Nat.le_of_ble_eq_true rfl) ?_
  intro zp ze zs zm za zb zt zc ls C K9 ht9 hP hl
  have hl : lv_has ls 4 [(0, .ref b), (1, .int (iI x)), (2, .int (iI y))] := hl
  refine r_aload_n C rfl (lv_at hl 0 rfl) dL_tryTrim_0 ?_
  refine r_iload_n C rfl (lv_at hl 1 rfl) dL_tryTrim_1 ?_
  refine r_iload_n C rfl (lv_at hl 2 rfl) dL_tryTrim_2 ?_
  refine r_vXMi (rest := []) C K9 (k_X3_trim l hst g kt b sz ac TX F DIA KEP ISK T hJ hT x y hx hy s k hs hk hac) s_RL_56 hP (recv C (ci := 3) rfl hP.lr.o) hl.1 rfl ⟨by decide, by decide⟩ rfl (Nat.le_of_ble_eq_true rfl) ⟨by decide, by decide⟩ dL_tryTrim_3 (fun H1 q ce L9 hK h1 h2 hL h3 h4 h5 => ?_) (fun H1 L9 hK hP1 h1 h2 hL => ?_)
  · have hold : (CW g b sz ac TX F DIA KEP ISK) H1 := hP.kept (fun q h8 h9 => h2 q (by have := hP.lt; omega))
    have hc : ((if ¬ ((0 ≤ x ∧ x < F 0) ∧ (0 ≤ y ∧ y < 40)) then 1 else if ¬ (0 < F (2 + 52 * s + (12 + k))) then 2 else 0) : Int) = 1 ∨ ((if ¬ ((0 ≤ x ∧ x < F 0) ∧ (0 ≤ y ∧ y < 40)) then 1 else if ¬ (0 < F (2 + 52 * s + (12 + k))) then 2 else 0) : Int) = 2 := by revert hK; (repeat' split) <;> (intro hK; omega)
    rcases hc with e9 | e9
    · rw [e9] at h5
      refine lm_catch (E := eIB) C K9.1 [] (0, 6, 7, 38) [(0, 6, 11, 24)] ht9 (fun z hz => by cases hz) (by decide) (by decide) q_5490 (by decide) h3 h4 h5 ?_
      refine r_astore_n C rfl hl (by decide) rfl dL_tryTrim_7 (fun ls hl => ?_)
      refine r_ldcI (w := -9999001) C (by decide) q_5528 dL_tryTrim_8 ?_
      exact r_tret C rfl rfl (by rw [tv_n hK, e9]; rfl) ⟨h1, fun q hq _ => h2 q hq, hL⟩ ⟨fun z => absurd z hK, fun _ => hold⟩ (Nat.le_of_ble_eq_true rfl) (Nat.le_of_ble_eq_true rfl) dL_tryTrim_10
    · rw [e9] at h5
      refine lm_catch (E := eIS) C K9.1 [(0, 6, 7, 38)] (0, 6, 11, 24) [] ht9 (fun z hz => by rw [List.mem_singleton.mp hz]; exact ⟨by decide, _, q_5490, by decide⟩) (by decide) (by decide) q_5155 (by decide) h3 h4 h5 ?_
      refine r_astore_n C rfl hl (by decide) rfl dL_tryTrim_11 (fun ls hl => ?_)
      refine r_ldcI (w := -9999003) C (by decide) q_5254 dL_tryTrim_12 ?_
      exact r_tret C rfl rfl (by rw [tv_n hK, e9]; rfl) ⟨h1, fun q hq _ => h2 q hq, hL⟩ ⟨fun z => absurd z hK, fun _ => hold⟩ (Nat.le_of_ble_eq_true rfl) (Nat.le_of_ble_eq_true rfl) dL_tryTrim_14
  · exact r_tret C rfl rfl (tv_0 hK).symm ⟨by omega, fun q _ hq => h2 q hq, hL⟩ ⟨fun _ => hP1, fun z => absurd hK z⟩ (Nat.le_of_ble_eq_true rfl) (Nat.le_of_ble_eq_true rfl) dL_tryTrim_6
set_option maxHeartbeats 4000000 in
theorem k_L_tryFloor (l : Launch) (hst : l.stackTraces = false) (g : Gt) (kt : Kt) (b : Nat) (sz ac : Int) (TX F DIA KEP ISK : Nat → Int) (T : Int) (hJ : J F z0 T) (hT : T ≤ 900000) (x v : Int) (hx : Rg x) (hv : Rg v) (s : Nat) (hs : 0 ≤ x → x = (s : Int)) (hac : 0 ≤ ac ∧ ac ≤ 14) : TM l yL_tryFloor (.codeWith yL_tryFloor cL_tryFloor 4 (some .int) [(0, 6, 7, 38), (0, 6, 11, 13), (0, 6, 15, 24)]) 8 134 2 g kt [.ref b, .int (iI x), .int (iI v)] (CW g b sz ac TX F DIA KEP ISK) (tv [-9999001, -9999002, -9999003] (whyFl F x s v) (F (2 + 52 * s + 0))) (Cdp b) (fun H => (((whyFl F x s v) : Int) = 0 → CW g b sz (remA ac) TX (up F (2 + 52 * s + 0) v) (rem DIA F ac) KEP ISK H) ∧ (((whyFl F x s v) : Int) ≠ 0 → CW g b sz ac TX F DIA KEP ISK H)) := by
  refine tmh_of (by decide) rfl (Nat.le_of_ble_eq_true rfl) ?_
  intro zp ze zs zm za zb zt zc ls C K9 ht9 hP hl
  have hl : lv_has ls 4 [(0, .ref b), (1, .int (iI x)), (2, .int (iI v))] := hl
  refine r_aload_n C rfl (lv_at hl 0 rfl) dL_tryFloor_0 ?_
  refine r_iload_n C rfl (lv_at hl 1 rfl) dL_tryFloor_1 ?_
  refine r_iload_n C rfl (lv_at hl 2 rfl) dL_tryFloor_2 ?_
  refine r_vXMi (rest := []) C K9 (k_X3_setFloor l hst g kt b sz ac TX F DIA KEP ISK T hJ hT x v hx hv s hs hac) s_RL_59 hP (recv C (ci := 3) rfl hP.lr.o) hl.1 rfl ⟨by decide, by decide⟩ rfl (Nat.le_of_ble_eq_true rfl) ⟨by decide, by decide⟩ dL_tryFloor_3 (fun H1 q ce L9 hK h1 h2 hL h3 h4 h5 => ?_) (fun H1 L9 hK hP1 h1 h2 hL => ?_)
  · have hold : (CW g b sz ac TX F DIA KEP ISK) H1 := hP.kept (fun q h8 h9 => h2 q (by have := hP.lt; omega))
    have hc : ((whyFl F x s v) : Int) = 1 ∨ ((whyFl F x s v) : Int) = 2 ∨ ((whyFl F x s v) : Int) = 3 := by unfold whyFl at hK ⊢; revert hK; (repeat' split) <;> (intro hK; omega)
    rcases hc with e9 | e9 | e9
    · rw [e9] at h5
      refine lm_catch (E := eIB) C K9.1 [] (0, 6, 7, 38) [(0, 6, 11, 13), (0, 6, 15, 24)] ht9 (fun z hz => by cases hz) (by decide) (by decide) q_5490 (by decide) h3 h4 h5 ?_
      refine r_astore_n C rfl hl (by decide) rfl dL_tryFloor_7 (fun ls hl => ?_)
      refine r_ldcI (w := -9999001) C (by decide) q_5528 dL_tryFloor_8 ?_
      exact r_tret C rfl rfl (by rw [tv_n hK, e9]; rfl) ⟨h1, fun q hq _ => h2 q hq, hL⟩ ⟨fun z => absurd z hK, fun _ => hold⟩ (Nat.le_of_ble_eq_true rfl) (Nat.le_of_ble_eq_true rfl) dL_tryFloor_10
    · rw [e9] at h5
      refine lm_catch (E := eIA) C K9.1 [(0, 6, 7, 38)] (0, 6, 11, 13) [(0, 6, 15, 24)] ht9 (fun z hz => by rw [List.mem_singleton.mp hz]; exact ⟨by decide, _, q_5490, by decide⟩) (by decide) (by decide) q_268 (by decide) h3 h4 h5 ?_
      refine r_astore_n C rfl hl (by decide) rfl dL_tryFloor_11 (fun ls hl => ?_)
      refine r_ldcI (w := -9999002) C (by decide) q_5253 dL_tryFloor_12 ?_
      exact r_tret C rfl rfl (by rw [tv_n hK, e9]; rfl) ⟨h1, fun q hq _ => h2 q hq, hL⟩ ⟨fun z => absurd z hK, fun _ => hold⟩ (Nat.le_of_ble_eq_true rfl) (Nat.le_of_ble_eq_true rfl) dL_tryFloor_14
    · rw [e9] at h5
      refine lm_catch (E := eIS) C K9.1 [(0, 6, 7, 38), (0, 6, 11, 13)] (0, 6, 15, 24) [] ht9 (fun z hz => (List.mem_cons.mp hz).elim (fun e8 => by rw [e8]; exact ⟨by decide, _, q_5490, by decide⟩) (fun hz => by rw [List.mem_singleton.mp hz]; exact ⟨by decide, _, q_268, by decide⟩)) (by decide) (by decide) q_5155 (by decide) h3 h4 h5 ?_
      refine r_astore_n C rfl hl (by decide) rfl dL_tryFloor_15 (fun ls hl => ?_)
      refine r_ldcI (w := -9999003) C (by decide) q_5254 dL_tryFloor_16 ?_
      exact r_tret C rfl rfl (by rw [tv_n hK, e9]; rfl) ⟨h1, fun q hq _ => h2 q hq, hL⟩ ⟨fun z => absurd z hK, fun _ => hold⟩ (Nat.le_of_ble_eq_true rfl) (Nat.le_of_ble_eq_true rfl) dL_tryFloor_18
  · exact r_tret C rfl rfl (tv_0 hK).symm ⟨by omega, fun q _ hq => h2 q hq, hL⟩ ⟨fun _ => hP1, fun z => absurd hK z⟩ (Nat.le_of_ble_eq_true rfl) (Nat.le_of_ble_eq_true rfl) dL_tryFloor_6
set_option maxHeartbeats 4000000 in
theorem k_L_tryCeiling (l : Launch) (hst : l.stackTraces = false) (g : Gt) (kt : Kt) (b : Nat) (sz ac : Int) (TX F DIA KEP ISK : Nat → Int) (T : Int) (hJ : J F z0 T) (hT : T ≤ 900000) (x v : Int) (hx : Rg x) (hv : Rg v) (s : Nat) (hs : 0 ≤ x → x = (s : Int)) (hac : 0 ≤ ac ∧ ac ≤ 14) : TM l yL_tryCeiling (.codeWith yL_tryCeiling cL_tryCeiling 4 (some .int) [(0, 6, 7, 38), (0, 6, 11, 13)]) 8 134 2 g kt [.ref b, .int (iI x), .int (iI v)] (CW g b sz ac TX F DIA KEP ISK) (tv [-9999001, -9999002] (whyCe F x s v) (F (2 + 52 * s + 1))) (Cdp b) (fun H => (((whyCe F x s v) : Int) = 0 → CW g b sz (remA ac) TX (up F (2 + 52 * s + 1) v) (rem DIA F ac) KEP ISK H) ∧ (((whyCe F x s v) : Int) ≠ 0 → CW g b sz ac TX F DIA KEP ISK H)) := by
  refine tmh_of (by decide) rfl (Nat.le_of_ble_eq_true rfl) ?_
  intro zp ze zs zm za zb zt zc ls C K9 ht9 hP hl
  have hl : lv_has ls 4 [(0, .ref b), (1, .int (iI x)), (2, .int (iI v))] := hl
  refine r_aload_n C rfl (lv_at hl 0 rfl) dL_tryCeiling_0 ?_
  refine r_iload_n C rfl (lv_at hl 1 rfl) dL_tryCeiling_1 ?_
  refine r_iload_n C rfl (lv_at hl 2 rfl) dL_tryCeiling_2 ?_
  refine r_vXMi (rest := []) C K9 (k_X3_setCeiling l hst g kt b sz ac TX F DIA KEP ISK T hJ hT x v hx hv s hs hac) s_RL_62 hP (recv C (ci := 3) rfl hP.lr.o) hl.1 rfl ⟨by decide, by decide⟩ rfl (Nat.le_of_ble_eq_true rfl) ⟨by decide, by decide⟩ dL_tryCeiling_3 (fun H1 q ce L9 hK h1 h2 hL h3 h4 h5 => ?_) (fun H1 L9 hK hP1 h1 h2 hL => ?_)
  · have hold : (CW g b sz ac TX F DIA KEP ISK) H1 := hP.kept (fun q h8 h9 => h2 q (by have := hP.lt; omega))
    have hc : ((whyCe F x s v) : Int) = 1 ∨ ((whyCe F x s v) : Int) = 2 := by unfold whyCe at hK ⊢; revert hK; (repeat' split) <;> (intro hK; omega)
    rcases hc with e9 | e9
    · rw [e9] at h5
      refine lm_catch (E := eIB) C K9.1 [] (0, 6, 7, 38) [(0, 6, 11, 13)] ht9 (fun z hz => by cases hz) (by decide) (by decide) q_5490 (by decide) h3 h4 h5 ?_
      refine r_astore_n C rfl hl (by decide) rfl dL_tryCeiling_7 (fun ls hl => ?_)
      refine r_ldcI (w := -9999001) C (by decide) q_5528 dL_tryCeiling_8 ?_
      exact r_tret C rfl rfl (by rw [tv_n hK, e9]; rfl) ⟨h1, fun q hq _ => h2 q hq, hL⟩ ⟨fun z => absurd z hK, fun _ => hold⟩ (Nat.le_of_ble_eq_true rfl) (Nat.le_of_ble_eq_true rfl) dL_tryCeiling_10
    · rw [e9] at h5
      refine lm_catch (E := eIA) C K9.1 [(0, 6, 7, 38)] (0, 6, 11, 13) [] ht9 (fun z hz => by rw [List.mem_singleton.mp hz]; exact ⟨by decide, _, q_5490, by decide⟩) (by decide) (by decide) q_268 (by decide) h3 h4 h5 ?_
      refine r_astore_n C rfl hl (by decide) rfl dL_tryCeiling_11 (fun ls hl => ?_)
      refine r_ldcI (w := -9999002) C (by decide) q_5253 dL_tryCeiling_12 ?_
      exact r_tret C rfl rfl (by rw [tv_n hK, e9]; rfl) ⟨h1, fun q hq _ => h2 q hq, hL⟩ ⟨fun z => absurd z hK, fun _ => hold⟩ (Nat.le_of_ble_eq_true rfl) (Nat.le_of_ble_eq_true rfl) dL_tryCeiling_14
  · exact r_tret C rfl rfl (tv_0 hK).symm ⟨by omega, fun q _ hq => h2 q hq, hL⟩ ⟨fun _ => hP1, fun z => absurd hK z⟩ (Nat.le_of_ble_eq_true rfl) (Nat.le_of_ble_eq_true rfl) dL_tryCeiling_6
set_option maxHeartbeats 4000000 in
theorem k_L_tryUndo (l : Launch) (hst : l.stackTraces = false) (g : Gt) (kt : Kt) (b : Nat) (sz ac : Int) (TX F DIA KEP ISK : Nat → Int) (T : Int) (hJ : J F z0 T) (hT : T ≤ 900000) (hac : 0 ≤ ac ∧ ac ≤ 14) : TM l yL_tryUndo (.codeWith yL_tryUndo cL_tryUndo 2 (some .int) [(0, 4, 5, 24)]) 7 110 1 g kt [.ref b] (CW g b sz ac TX F DIA KEP ISK) (tv [-9999003] (Kd (ac ≠ 0)) (ac - 1)) (Cdp b) (fun H => (((Kd (ac ≠ 0)) : Int) = 0 → CW g b sz (ac - 1) TX (fun k => DIA (262 * (ac - 1).toNat + k)) DIA KEP ISK H) ∧ (((Kd (ac ≠ 0)) : Int) ≠ 0 → CW g b sz ac TX F DIA KEP ISK H)) := by
  refine tmh_of (by decide) rfl (Nat.le_of_ble_eq_true rfl) ?_
  intro zp ze zs zm za zb zt zc ls C K9 ht9 hP hl
  have hl : lv_has ls 2 [(0, .ref b)] := hl
  refine r_aload_n C rfl (lv_at hl 0 rfl) dL_tryUndo_0 ?_
  refine r_vXMi (rest := []) C K9 (k_X3_undo l hst g kt b sz ac TX F DIA KEP ISK T hJ hT hac) s_RL_65 hP (recv C (ci := 3) rfl hP.lr.o) hl.1 rfl ⟨by decide, by decide⟩ rfl (Nat.le_of_ble_eq_true rfl) ⟨by decide, by decide⟩ dL_tryUndo_1 (fun H1 q ce L9 hK h1 h2 hL h3 h4 h5 => ?_) (fun H1 L9 hK hP1 h1 h2 hL => ?_)
  · have hold : (CW g b sz ac TX F DIA KEP ISK) H1 := hP.kept (fun q h8 h9 => h2 q (by have := hP.lt; omega))
    have hc : ((Kd (ac ≠ 0)) : Int) = 1 := by exact (Kd_n hK).1
    have e9 := hc
    rw [e9] at h5
    refine lm_catch (E := eIS) C K9.1 [] (0, 4, 5, 24) [] ht9 (fun z hz => by cases hz) (by decide) (by decide) q_5155 (by decide) h3 h4 h5 ?_
    refine r_astore_n C rfl hl (by decide) rfl dL_tryUndo_5 (fun ls hl => ?_)
    refine r_ldcI (w := -9999003) C (by decide) q_5254 dL_tryUndo_6 ?_
    exact r_tret C rfl rfl (by rw [tv_n hK, e9]; rfl) ⟨h1, fun q hq _ => h2 q hq, hL⟩ ⟨fun z => absurd z hK, fun _ => hold⟩ (Nat.le_of_ble_eq_true rfl) (Nat.le_of_ble_eq_true rfl) dL_tryUndo_8
  · exact r_tret C rfl rfl (tv_0 hK).symm ⟨by omega, fun q _ hq => h2 q hq, hL⟩ ⟨fun _ => hP1, fun z => absurd hK z⟩ (Nat.le_of_ble_eq_true rfl) (Nat.le_of_ble_eq_true rfl) dL_tryUndo_4
set_option maxHeartbeats 4000000 in
theorem k_L_tryWould (l : Launch) (hst : l.stackTraces = false) (g : Gt) (kt : Kt) (b : Nat) (sz ac : Int) (TX F DIA KEP ISK : Nat → Int) (T : Int) (hJ : J F z0 T) (hT : T ≤ 900000) (x y : Int) (hx : Rg x) (hy : Rg y) (s k : Nat) (hs : 0 ≤ x → x = (s : Int)) (hk : 0 ≤ y → y = (k : Int)) : TM l yL_tryWould (.codeWith yL_tryWould cL_tryWould 4 (some .int) [(0, 6, 7, 38)]) 8 139 1 g kt [.ref b, .int (iI x), .int (iI y)] (CW g b sz ac TX F DIA KEP ISK) (tv [-9999001] (Kd ((0 ≤ x ∧ x < F 0) ∧ (0 ≤ y ∧ y < 40))) (wrR F s k)) (Cdp b) (fun H => (((Kd ((0 ≤ x ∧ x < F 0) ∧ (0 ≤ y ∧ y < 40))) : Int) = 0 → CW g b sz ac TX F DIA KEP ISK H) ∧ (((Kd ((0 ≤ x ∧ x < F 0) ∧ (0 ≤ y ∧ y < 40))) : Int) ≠ 0 → CW g b sz ac TX F DIA KEP ISK H)) := by
  refine tmh_of (by decide) rfl (Nat.le_of_ble_eq_true rfl) ?_
  intro zp ze zs zm za zb zt zc ls C K9 ht9 hP hl
  have hl : lv_has ls 4 [(0, .ref b), (1, .int (iI x)), (2, .int (iI y))] := hl
  refine r_aload_n C rfl (lv_at hl 0 rfl) dL_tryWould_0 ?_
  refine r_iload_n C rfl (lv_at hl 1 rfl) dL_tryWould_1 ?_
  refine r_iload_n C rfl (lv_at hl 2 rfl) dL_tryWould_2 ?_
  refine r_vXMi (rest := []) C K9 (k_X3_would l hst g kt b sz ac TX F DIA KEP ISK T hJ hT x y hx hy s k hs hk) s_RL_68 hP (recv C (ci := 3) rfl hP.lr.o) hl.1 rfl ⟨by decide, by decide⟩ rfl (Nat.le_of_ble_eq_true rfl) ⟨by decide, by decide⟩ dL_tryWould_3 (fun H1 q ce L9 hK h1 h2 hL h3 h4 h5 => ?_) (fun H1 L9 hK hP1 h1 h2 hL => ?_)
  · have hold : (CW g b sz ac TX F DIA KEP ISK) H1 := hP.kept (fun q h8 h9 => h2 q (by have := hP.lt; omega))
    have hc : ((Kd ((0 ≤ x ∧ x < F 0) ∧ (0 ≤ y ∧ y < 40))) : Int) = 1 := by exact (Kd_n hK).1
    have e9 := hc
    rw [e9] at h5
    refine lm_catch (E := eIB) C K9.1 [] (0, 6, 7, 38) [] ht9 (fun z hz => by cases hz) (by decide) (by decide) q_5490 (by decide) h3 h4 h5 ?_
    refine r_astore_n C rfl hl (by decide) rfl dL_tryWould_7 (fun ls hl => ?_)
    refine r_ldcI (w := -9999001) C (by decide) q_5528 dL_tryWould_8 ?_
    exact r_tret C rfl rfl (by rw [tv_n hK, e9]; rfl) ⟨h1, fun q hq _ => h2 q hq, hL⟩ ⟨fun z => absurd z hK, fun _ => hold⟩ (Nat.le_of_ble_eq_true rfl) (Nat.le_of_ble_eq_true rfl) dL_tryWould_10
  · exact r_tret C rfl rfl (tv_0 hK).symm ⟨by omega, fun q _ hq => h2 q hq, hL⟩ ⟨fun _ => hP1, fun z => absurd hK z⟩ (Nat.le_of_ble_eq_true rfl) (Nat.le_of_ble_eq_true rfl) dL_tryWould_6
set_option maxHeartbeats 4000000 in
theorem k_L_tryRoom (l : Launch) (hst : l.stackTraces = false) (g : Gt) (kt : Kt) (b : Nat) (sz ac : Int) (TX F DIA KEP ISK : Nat → Int) (T : Int) (hJ : J F z0 T) (hT : T ≤ 900000) (x : Int) (hx : Rg x) (s : Nat) (hs : 0 ≤ x → x = (s : Int)) : TM l yL_tryRoom (.codeWith yL_tryRoom cL_tryRoom 3 (some .int) [(0, 5, 6, 38)]) 8 139 1 g kt [.ref b, .int (iI x)] (CW g b sz ac TX F DIA KEP ISK) (tv [-9999001] (Kd (0 ≤ x ∧ x < F 0)) ((gN F s 61 0 : Nat) : Int)) (Cdp b) (fun H => (((Kd (0 ≤ x ∧ x < F 0)) : Int) = 0 → CW g b sz ac TX F DIA KEP ISK H) ∧ (((Kd (0 ≤ x ∧ x < F 0)) : Int) ≠ 0 → CW g b sz ac TX F DIA KEP ISK H)) := by
  refine tmh_of (by decide) rfl (Nat.le_of_ble_eq_true rfl) ?_
  intro zp ze zs zm za zb zt zc ls C K9 ht9 hP hl
  have hl : lv_has ls 3 [(0, .ref b), (1, .int (iI x))] := hl
  refine r_aload_n C rfl (lv_at hl 0 rfl) dL_tryRoom_0 ?_
  refine r_iload_n C rfl (lv_at hl 1 rfl) dL_tryRoom_1 ?_
  refine r_vXMi (rest := []) C K9 (k_X3_room l hst g kt b sz ac TX F DIA KEP ISK T hJ hT x hx s hs) s_RL_71 hP (recv C (ci := 3) rfl hP.lr.o) hl.1 rfl ⟨by decide, by decide⟩ rfl (Nat.le_of_ble_eq_true rfl) ⟨by decide, by decide⟩ dL_tryRoom_2 (fun H1 q ce L9 hK h1 h2 hL h3 h4 h5 => ?_) (fun H1 L9 hK hP1 h1 h2 hL => ?_)
  · have hold : (CW g b sz ac TX F DIA KEP ISK) H1 := hP.kept (fun q h8 h9 => h2 q (by have := hP.lt; omega))
    have hc : ((Kd (0 ≤ x ∧ x < F 0)) : Int) = 1 := by exact (Kd_n hK).1
    have e9 := hc
    rw [e9] at h5
    refine lm_catch (E := eIB) C K9.1 [] (0, 5, 6, 38) [] ht9 (fun z hz => by cases hz) (by decide) (by decide) q_5490 (by decide) h3 h4 h5 ?_
    refine r_astore_n C rfl hl (by decide) rfl dL_tryRoom_6 (fun ls hl => ?_)
    refine r_ldcI (w := -9999001) C (by decide) q_5528 dL_tryRoom_7 ?_
    exact r_tret C rfl rfl (by rw [tv_n hK, e9]; rfl) ⟨h1, fun q hq _ => h2 q hq, hL⟩ ⟨fun z => absurd z hK, fun _ => hold⟩ (Nat.le_of_ble_eq_true rfl) (Nat.le_of_ble_eq_true rfl) dL_tryRoom_9
  · exact r_tret C rfl rfl (tv_0 hK).symm ⟨by omega, fun q _ hq => h2 q hq, hL⟩ ⟨fun _ => hP1, fun z => absurd hK z⟩ (Nat.le_of_ble_eq_true rfl) (Nat.le_of_ble_eq_true rfl) dL_tryRoom_5

theorem s_RL_42 : SiteV "LentRoomLaw" 42 "LentRoom" yX3_write cX3_write 3 (some .int) 2 := ⟨⟨q_610, q_611, q_612, q_30, q_613⟩, rfl, by decide, by decide, by decide +kernel⟩
theorem s_RL_45 : SiteV "LentRoomLaw" 45 "LentRoom" yX3_trim cX3_trim 3 (some .int) 2 := ⟨⟨q_617, q_618, q_619, q_30, q_620⟩, rfl, by decide, by decide, by decide +kernel⟩
theorem s_RL_48 : SiteV "LentRoomLaw" 48 "LentRoom" yX3_setFloor cX3_setFloor 4 (some .int) 2 := ⟨⟨q_626, q_627, q_628, q_30, q_629⟩, rfl, by decide, by decide, by decide +kernel⟩
theorem s_RL_51 : SiteV "LentRoomLaw" 51 "LentRoom" yX3_setCeiling cX3_setCeiling 4 (some .int) 2 := ⟨⟨q_636, q_637, q_638, q_30, q_639⟩, rfl, by decide, by decide, by decide +kernel⟩
theorem s_RL_54 : SiteV "LentRoomLaw" 54 "LentRoom" yX3_undo cX3_undo 1 (some .int) 0 := ⟨⟨q_653, q_654, q_655, q_30, q_656⟩, rfl, by decide, by decide, by decide +kernel⟩
theorem s_RL_57 : SiteV "LentRoomLaw" 57 "LentRoom" yX3_would cX3_would 3 (some .int) 2 := ⟨⟨q_669, q_670, q_671, q_30, q_672⟩, rfl, by decide, by decide, by decide +kernel⟩
theorem s_RL_60 : SiteV "LentRoomLaw" 60 "LentRoom" yX3_room cX3_room 2 (some .int) 1 := ⟨⟨q_676, q_677, q_678, q_30, q_679⟩, rfl, by decide, by decide, by decide +kernel⟩
theorem s_RL_63 : SiteV "LentRoomLaw" 63 "LentRoom" yX3_harm cX3_harm 3 (some .int) 2 := ⟨⟨q_688, q_689, q_690, q_30, q_691⟩, rfl, by decide, by decide, by decide +kernel⟩
set_option maxHeartbeats 4000000 in
theorem k_L_write (l : Launch) (hst : l.stackTraces = false) (g : Gt) (kt : Kt) (b : Nat) (sz ac : Int) (TX F DIA KEP ISK : Nat → Int) (T : Int) (hJ : J F z0 T) (hT : T ≤ 900000) (x y : Int) (hx : Rg x) (hy : Rg y) (s k : Nat) (hs : 0 ≤ x → x = (s : Int)) (hk : 0 ≤ y → y = (k : Int)) (hac : 0 ≤ ac ∧ ac ≤ 14) (ob : Nat) (hob : b + 407 ≤ ob) : LM l yL_write cL_write 5 [(0, 10, 13, 28)] 8 139 1 g kt [.ref b, .int (iI x), .int (iI y), .ref ob] b ob (CW g b sz ac TX F DIA KEP ISK) (CW g b sz (remA ac) TX (wrF F s k) (rem DIA F ac) KEP ISK) (Kd ((0 ≤ x ∧ x < F 0) ∧ (0 ≤ y ∧ y < 40))) (iI (wrR F s k)).toInt64 := by
  refine lm_of (by decide) rfl (Nat.le_of_ble_eq_true rfl) ?_
  intro zp ze zs zm za zb zt zc ls C K9 ht9 hP hl
  obtain ⟨hP, fo, hO⟩ := hP
  have hlt := hO.lt
  have hl : lv_has ls 5 [(0, .ref b), (1, .int (iI x)), (2, .int (iI y)), (3, .ref ob)] := hl
  refine r_aload_n C rfl (lv_at hl 3 rfl) dL_write_0 ?_
  refine r_iconst C dL_write_1 ?_
  refine r_aload_n C rfl (lv_at hl 0 rfl) dL_write_2 ?_
  refine r_iload_n C rfl (lv_at hl 1 rfl) dL_write_3 ?_
  refine r_iload_n C rfl (lv_at hl 2 rfl) dL_write_4 ?_
  refine r_vXMi (rest := [.int (iI 0), .ref ob]) C K9 (k_X3_write l hst g kt b sz ac TX F DIA KEP ISK T hJ hT x y hx hy s k hs hk hac) s_RL_42 hP (recv C (ci := 3) rfl hP.lr.o) hl.1 rfl ⟨by decide, by decide⟩ rfl (Nat.le_of_ble_eq_true rfl) ⟨by decide, by decide⟩ dL_write_5 (fun H1 q ce L9 hK h1 h2 hL h3 h4 h5 => ?_) (fun H1 L9 hK hP1 h1 h2 hL => ?_)
  · have hold : (CW g b sz ac TX F DIA KEP ISK) H1 ∧ ∃ f, lAt g ob 1 f H1 := ⟨hP.kept (fun q h8 h9 => h2 q (by omega)), fo, hO.kept (h2 _ hlt)⟩
    have hc : ((Kd ((0 ≤ x ∧ x < F 0) ∧ (0 ≤ y ∧ y < 40))) : Int) = 1 := by exact (Kd_n hK).1
    have e9 := hc
    rw [e9] at h5
    refine lm_catch (E := eIB) C K9.1 [] (0, 10, 13, 28) [] ht9 (fun z hz => by cases hz) (by decide) (by decide) q_520 (by decide) h3 h4 h5 ?_
    refine r_astore C hl (by decide) rfl dL_write_13 (fun ls hl => ?_)
    refine r_iconst C dL_write_15 ?_
    exact r_iretL C rfl (by rw [e9]) (fun z => absurd z hK) (fun _ => hold) h1 (fun q hq _ => h2 q hq) (fun x hx => Or.inl (hL x hx)) (Nat.le_of_ble_eq_true rfl) (Nat.le_of_ble_eq_true rfl) dL_write_16
  · refine r_i2lR C dL_write_8 ?_
    refine r_last C (hO.kept (h2 _ (fun h => by obtain ⟨h8, h9⟩ := h; omega))) 0 rfl (by decide) (by decide) dL_write_9 (fun H2 hO2 o2 z2 => ?_)
    refine r_goto (tgt := 17) C (by decide) dL_write_10 ?_
    refine r_iconst C dL_write_17 ?_
    refine r_iretL C rfl (by rw [hK]) (fun _ => ⟨hP1.kept (fun q h8 h9 => o2 q (by omega)), hO2.cg (fun j hj => if_pos (by omega))⟩) (fun z => absurd hK z) (by omega) (fun q hq hn => (o2 q (fun z => hn (Or.inr z))).trans (h2 q (fun z => hn (Or.inl z)))) (fun x hx => ?_) (Nat.le_of_ble_eq_true rfl) (Nat.le_of_ble_eq_true rfl) dL_write_18
    rcases List.mem_append.mp hx with h9 | h9
    · exact Or.inl (hL x h9)
    · rw [List.mem_singleton.mp h9]
      exact Or.inr rfl
set_option maxHeartbeats 4000000 in
theorem k_L_trim (l : Launch) (hst : l.stackTraces = false) (g : Gt) (kt : Kt) (b : Nat) (sz ac : Int) (TX F DIA KEP ISK : Nat → Int) (T : Int) (hJ : J F z0 T) (hT : T ≤ 900000) (x y : Int) (hx : Rg x) (hy : Rg y) (s k : Nat) (hs : 0 ≤ x → x = (s : Int)) (hk : 0 ≤ y → y = (k : Int)) (hac : 0 ≤ ac ∧ ac ≤ 14) (ob : Nat) (hob : b + 407 ≤ ob) : LM l yL_trim cL_trim 5 [(0, 10, 13, 28), (0, 10, 17, 15)] 8 134 2 g kt [.ref b, .int (iI x), .int (iI y), .ref ob] b ob (CW g b sz ac TX F DIA KEP ISK) (CW g b sz (remA ac) TX (trF F s k) (rem DIA F ac) KEP ISK) (if ¬ ((0 ≤ x ∧ x < F 0) ∧ (0 ≤ y ∧ y < 40)) then 1 else if ¬ (0 < F (2 + 52 * s + (12 + k))) then 2 else 0) (iI (tk (trF F s k) s)).toInt64 := by
  refine lm_of (by decide) rfl (Nat.le_of_ble_eq_true rfl) ?_
  intro zp ze zs zm za zb zt zc ls C K9 ht9 hP hl
  obtain ⟨hP, fo, hO⟩ := hP
  have hlt := hO.lt
  have hl : lv_has ls 5 [(0, .ref b), (1, .int (iI x)), (2, .int (iI y)), (3, .ref ob)] := hl
  refine r_aload_n C rfl (lv_at hl 3 rfl) dL_trim_0 ?_
  refine r_iconst C dL_trim_1 ?_
  refine r_aload_n C rfl (lv_at hl 0 rfl) dL_trim_2 ?_
  refine r_iload_n C rfl (lv_at hl 1 rfl) dL_trim_3 ?_
  refine r_iload_n C rfl (lv_at hl 2 rfl) dL_trim_4 ?_
  refine r_vXMi (rest := [.int (iI 0), .ref ob]) C K9 (k_X3_trim l hst g kt b sz ac TX F DIA KEP ISK T hJ hT x y hx hy s k hs hk hac) s_RL_45 hP (recv C (ci := 3) rfl hP.lr.o) hl.1 rfl ⟨by decide, by decide⟩ rfl (Nat.le_of_ble_eq_true rfl) ⟨by decide, by decide⟩ dL_trim_5 (fun H1 q ce L9 hK h1 h2 hL h3 h4 h5 => ?_) (fun H1 L9 hK hP1 h1 h2 hL => ?_)
  · have hold : (CW g b sz ac TX F DIA KEP ISK) H1 ∧ ∃ f, lAt g ob 1 f H1 := ⟨hP.kept (fun q h8 h9 => h2 q (by omega)), fo, hO.kept (h2 _ hlt)⟩
    have hc : ((if ¬ ((0 ≤ x ∧ x < F 0) ∧ (0 ≤ y ∧ y < 40)) then 1 else if ¬ (0 < F (2 + 52 * s + (12 + k))) then 2 else 0) : Int) = 1 ∨ ((if ¬ ((0 ≤ x ∧ x < F 0) ∧ (0 ≤ y ∧ y < 40)) then 1 else if ¬ (0 < F (2 + 52 * s + (12 + k))) then 2 else 0) : Int) = 2 := by revert hK; (repeat' split) <;> (intro hK; omega)
    rcases hc with e9 | e9
    · rw [e9] at h5
      refine lm_catch (E := eIB) C K9.1 [] (0, 10, 13, 28) [(0, 10, 17, 15)] ht9 (fun z hz => by cases hz) (by decide) (by decide) q_520 (by decide) h3 h4 h5 ?_
      refine r_astore C hl (by decide) rfl dL_trim_13 (fun ls hl => ?_)
      refine r_iconst C dL_trim_15 ?_
      exact r_iretL C rfl (by rw [e9]) (fun z => absurd z hK) (fun _ => hold) h1 (fun q hq _ => h2 q hq) (fun x hx => Or.inl (hL x hx)) (Nat.le_of_ble_eq_true rfl) (Nat.le_of_ble_eq_true rfl) dL_trim_16
    · rw [e9] at h5
      refine lm_catch (E := eIS) C K9.1 [(0, 10, 13, 28)] (0, 10, 17, 15) [] ht9 (fun z hz => by rw [List.mem_singleton.mp hz]; exact ⟨by decide, _, q_520, by decide⟩) (by decide) (by decide) q_269 (by decide) h3 h4 h5 ?_
      refine r_astore C hl (by decide) rfl dL_trim_17 (fun ls hl => ?_)
      refine r_iconst C dL_trim_19 ?_
      exact r_iretL C rfl (by rw [e9]) (fun z => absurd z hK) (fun _ => hold) h1 (fun q hq _ => h2 q hq) (fun x hx => Or.inl (hL x hx)) (Nat.le_of_ble_eq_true rfl) (Nat.le_of_ble_eq_true rfl) dL_trim_20
  · refine r_i2lR C dL_trim_8 ?_
    refine r_last C (hO.kept (h2 _ (fun h => by obtain ⟨h8, h9⟩ := h; omega))) 0 rfl (by decide) (by decide) dL_trim_9 (fun H2 hO2 o2 z2 => ?_)
    refine r_goto (tgt := 21) C (by decide) dL_trim_10 ?_
    refine r_iconst C dL_trim_21 ?_
    refine r_iretL C rfl (by rw [hK]) (fun _ => ⟨hP1.kept (fun q h8 h9 => o2 q (by omega)), hO2.cg (fun j hj => if_pos (by omega))⟩) (fun z => absurd hK z) (by omega) (fun q hq hn => (o2 q (fun z => hn (Or.inr z))).trans (h2 q (fun z => hn (Or.inl z)))) (fun x hx => ?_) (Nat.le_of_ble_eq_true rfl) (Nat.le_of_ble_eq_true rfl) dL_trim_22
    rcases List.mem_append.mp hx with h9 | h9
    · exact Or.inl (hL x h9)
    · rw [List.mem_singleton.mp h9]
      exact Or.inr rfl
set_option maxHeartbeats 4000000 in
theorem k_L_setFloor (l : Launch) (hst : l.stackTraces = false) (g : Gt) (kt : Kt) (b : Nat) (sz ac : Int) (TX F DIA KEP ISK : Nat → Int) (T : Int) (hJ : J F z0 T) (hT : T ≤ 900000) (x v : Int) (hx : Rg x) (hv : Rg v) (s : Nat) (hs : 0 ≤ x → x = (s : Int)) (hac : 0 ≤ ac ∧ ac ≤ 14) (ob : Nat) (hob : b + 407 ≤ ob) : LM l yL_setFloor cL_setFloor 5 [(0, 10, 13, 28), (0, 10, 17, 13), (0, 10, 21, 15)] 8 134 2 g kt [.ref b, .int (iI x), .int (iI v), .ref ob] b ob (CW g b sz ac TX F DIA KEP ISK) (CW g b sz (remA ac) TX (up F (2 + 52 * s + 0) v) (rem DIA F ac) KEP ISK) (whyFl F x s v) (iI (F (2 + 52 * s + 0))).toInt64 := by
  refine lm_of (by decide) rfl (Nat.le_of_ble_eq_true rfl) ?_
  intro zp ze zs zm za zb zt zc ls C K9 ht9 hP hl
  obtain ⟨hP, fo, hO⟩ := hP
  have hlt := hO.lt
  have hl : lv_has ls 5 [(0, .ref b), (1, .int (iI x)), (2, .int (iI v)), (3, .ref ob)] := hl
  refine r_aload_n C rfl (lv_at hl 3 rfl) dL_setFloor_0 ?_
  refine r_iconst C dL_setFloor_1 ?_
  refine r_aload_n C rfl (lv_at hl 0 rfl) dL_setFloor_2 ?_
  refine r_iload_n C rfl (lv_at hl 1 rfl) dL_setFloor_3 ?_
  refine r_iload_n C rfl (lv_at hl 2 rfl) dL_setFloor_4 ?_
  refine r_vXMi (rest := [.int (iI 0), .ref ob]) C K9 (k_X3_setFloor l hst g kt b sz ac TX F DIA KEP ISK T hJ hT x v hx hv s hs hac) s_RL_48 hP (recv C (ci := 3) rfl hP.lr.o) hl.1 rfl ⟨by decide, by decide⟩ rfl (Nat.le_of_ble_eq_true rfl) ⟨by decide, by decide⟩ dL_setFloor_5 (fun H1 q ce L9 hK h1 h2 hL h3 h4 h5 => ?_) (fun H1 L9 hK hP1 h1 h2 hL => ?_)
  · have hold : (CW g b sz ac TX F DIA KEP ISK) H1 ∧ ∃ f, lAt g ob 1 f H1 := ⟨hP.kept (fun q h8 h9 => h2 q (by omega)), fo, hO.kept (h2 _ hlt)⟩
    have hc : ((whyFl F x s v) : Int) = 1 ∨ ((whyFl F x s v) : Int) = 2 ∨ ((whyFl F x s v) : Int) = 3 := by unfold whyFl at hK ⊢; revert hK; (repeat' split) <;> (intro hK; omega)
    rcases hc with e9 | e9 | e9
    · rw [e9] at h5
      refine lm_catch (E := eIB) C K9.1 [] (0, 10, 13, 28) [(0, 10, 17, 13), (0, 10, 21, 15)] ht9 (fun z hz => by cases hz) (by decide) (by decide) q_520 (by decide) h3 h4 h5 ?_
      refine r_astore C hl (by decide) rfl dL_setFloor_13 (fun ls hl => ?_)
      refine r_iconst C dL_setFloor_15 ?_
      exact r_iretL C rfl (by rw [e9]) (fun z => absurd z hK) (fun _ => hold) h1 (fun q hq _ => h2 q hq) (fun x hx => Or.inl (hL x hx)) (Nat.le_of_ble_eq_true rfl) (Nat.le_of_ble_eq_true rfl) dL_setFloor_16
    · rw [e9] at h5
      refine lm_catch (E := eIA) C K9.1 [(0, 10, 13, 28)] (0, 10, 17, 13) [(0, 10, 21, 15)] ht9 (fun z hz => by rw [List.mem_singleton.mp hz]; exact ⟨by decide, _, q_520, by decide⟩) (by decide) (by decide) q_268 (by decide) h3 h4 h5 ?_
      refine r_astore C hl (by decide) rfl dL_setFloor_17 (fun ls hl => ?_)
      refine r_iconst C dL_setFloor_19 ?_
      exact r_iretL C rfl (by rw [e9]) (fun z => absurd z hK) (fun _ => hold) h1 (fun q hq _ => h2 q hq) (fun x hx => Or.inl (hL x hx)) (Nat.le_of_ble_eq_true rfl) (Nat.le_of_ble_eq_true rfl) dL_setFloor_20
    · rw [e9] at h5
      refine lm_catch (E := eIS) C K9.1 [(0, 10, 13, 28), (0, 10, 17, 13)] (0, 10, 21, 15) [] ht9 (fun z hz => (List.mem_cons.mp hz).elim (fun e8 => by rw [e8]; exact ⟨by decide, _, q_520, by decide⟩) (fun hz => by rw [List.mem_singleton.mp hz]; exact ⟨by decide, _, q_268, by decide⟩)) (by decide) (by decide) q_269 (by decide) h3 h4 h5 ?_
      refine r_astore C hl (by decide) rfl dL_setFloor_21 (fun ls hl => ?_)
      refine r_iconst C dL_setFloor_23 ?_
      exact r_iretL C rfl (by rw [e9]) (fun z => absurd z hK) (fun _ => hold) h1 (fun q hq _ => h2 q hq) (fun x hx => Or.inl (hL x hx)) (Nat.le_of_ble_eq_true rfl) (Nat.le_of_ble_eq_true rfl) dL_setFloor_24
  · refine r_i2lR C dL_setFloor_8 ?_
    refine r_last C (hO.kept (h2 _ (fun h => by obtain ⟨h8, h9⟩ := h; omega))) 0 rfl (by decide) (by decide) dL_setFloor_9 (fun H2 hO2 o2 z2 => ?_)
    refine r_goto (tgt := 25) C (by decide) dL_setFloor_10 ?_
    refine r_iconst C dL_setFloor_25 ?_
    refine r_iretL C rfl (by rw [hK]) (fun _ => ⟨hP1.kept (fun q h8 h9 => o2 q (by omega)), hO2.cg (fun j hj => if_pos (by omega))⟩) (fun z => absurd hK z) (by omega) (fun q hq hn => (o2 q (fun z => hn (Or.inr z))).trans (h2 q (fun z => hn (Or.inl z)))) (fun x hx => ?_) (Nat.le_of_ble_eq_true rfl) (Nat.le_of_ble_eq_true rfl) dL_setFloor_26
    rcases List.mem_append.mp hx with h9 | h9
    · exact Or.inl (hL x h9)
    · rw [List.mem_singleton.mp h9]
      exact Or.inr rfl
set_option maxHeartbeats 4000000 in
theorem k_L_setCeiling (l : Launch) (hst : l.stackTraces = false) (g : Gt) (kt : Kt) (b : Nat) (sz ac : Int) (TX F DIA KEP ISK : Nat → Int) (T : Int) (hJ : J F z0 T) (hT : T ≤ 900000) (x v : Int) (hx : Rg x) (hv : Rg v) (s : Nat) (hs : 0 ≤ x → x = (s : Int)) (hac : 0 ≤ ac ∧ ac ≤ 14) (ob : Nat) (hob : b + 407 ≤ ob) : LM l yL_setCeiling cL_setCeiling 5 [(0, 10, 13, 28), (0, 10, 17, 13)] 8 134 2 g kt [.ref b, .int (iI x), .int (iI v), .ref ob] b ob (CW g b sz ac TX F DIA KEP ISK) (CW g b sz (remA ac) TX (up F (2 + 52 * s + 1) v) (rem DIA F ac) KEP ISK) (whyCe F x s v) (iI (F (2 + 52 * s + 1))).toInt64 := by
  refine lm_of (by decide) rfl (Nat.le_of_ble_eq_true rfl) ?_
  intro zp ze zs zm za zb zt zc ls C K9 ht9 hP hl
  obtain ⟨hP, fo, hO⟩ := hP
  have hlt := hO.lt
  have hl : lv_has ls 5 [(0, .ref b), (1, .int (iI x)), (2, .int (iI v)), (3, .ref ob)] := hl
  refine r_aload_n C rfl (lv_at hl 3 rfl) dL_setCeiling_0 ?_
  refine r_iconst C dL_setCeiling_1 ?_
  refine r_aload_n C rfl (lv_at hl 0 rfl) dL_setCeiling_2 ?_
  refine r_iload_n C rfl (lv_at hl 1 rfl) dL_setCeiling_3 ?_
  refine r_iload_n C rfl (lv_at hl 2 rfl) dL_setCeiling_4 ?_
  refine r_vXMi (rest := [.int (iI 0), .ref ob]) C K9 (k_X3_setCeiling l hst g kt b sz ac TX F DIA KEP ISK T hJ hT x v hx hv s hs hac) s_RL_51 hP (recv C (ci := 3) rfl hP.lr.o) hl.1 rfl ⟨by decide, by decide⟩ rfl (Nat.le_of_ble_eq_true rfl) ⟨by decide, by decide⟩ dL_setCeiling_5 (fun H1 q ce L9 hK h1 h2 hL h3 h4 h5 => ?_) (fun H1 L9 hK hP1 h1 h2 hL => ?_)
  · have hold : (CW g b sz ac TX F DIA KEP ISK) H1 ∧ ∃ f, lAt g ob 1 f H1 := ⟨hP.kept (fun q h8 h9 => h2 q (by omega)), fo, hO.kept (h2 _ hlt)⟩
    have hc : ((whyCe F x s v) : Int) = 1 ∨ ((whyCe F x s v) : Int) = 2 := by unfold whyCe at hK ⊢; revert hK; (repeat' split) <;> (intro hK; omega)
    rcases hc with e9 | e9
    · rw [e9] at h5
      refine lm_catch (E := eIB) C K9.1 [] (0, 10, 13, 28) [(0, 10, 17, 13)] ht9 (fun z hz => by cases hz) (by decide) (by decide) q_520 (by decide) h3 h4 h5 ?_
      refine r_astore C hl (by decide) rfl dL_setCeiling_13 (fun ls hl => ?_)
      refine r_iconst C dL_setCeiling_15 ?_
      exact r_iretL C rfl (by rw [e9]) (fun z => absurd z hK) (fun _ => hold) h1 (fun q hq _ => h2 q hq) (fun x hx => Or.inl (hL x hx)) (Nat.le_of_ble_eq_true rfl) (Nat.le_of_ble_eq_true rfl) dL_setCeiling_16
    · rw [e9] at h5
      refine lm_catch (E := eIA) C K9.1 [(0, 10, 13, 28)] (0, 10, 17, 13) [] ht9 (fun z hz => by rw [List.mem_singleton.mp hz]; exact ⟨by decide, _, q_520, by decide⟩) (by decide) (by decide) q_268 (by decide) h3 h4 h5 ?_
      refine r_astore C hl (by decide) rfl dL_setCeiling_17 (fun ls hl => ?_)
      refine r_iconst C dL_setCeiling_19 ?_
      exact r_iretL C rfl (by rw [e9]) (fun z => absurd z hK) (fun _ => hold) h1 (fun q hq _ => h2 q hq) (fun x hx => Or.inl (hL x hx)) (Nat.le_of_ble_eq_true rfl) (Nat.le_of_ble_eq_true rfl) dL_setCeiling_20
  · refine r_i2lR C dL_setCeiling_8 ?_
    refine r_last C (hO.kept (h2 _ (fun h => by obtain ⟨h8, h9⟩ := h; omega))) 0 rfl (by decide) (by decide) dL_setCeiling_9 (fun H2 hO2 o2 z2 => ?_)
    refine r_goto (tgt := 21) C (by decide) dL_setCeiling_10 ?_
    refine r_iconst C dL_setCeiling_21 ?_
    refine r_iretL C rfl (by rw [hK]) (fun _ => ⟨hP1.kept (fun q h8 h9 => o2 q (by omega)), hO2.cg (fun j hj => if_pos (by omega))⟩) (fun z => absurd hK z) (by omega) (fun q hq hn => (o2 q (fun z => hn (Or.inr z))).trans (h2 q (fun z => hn (Or.inl z)))) (fun x hx => ?_) (Nat.le_of_ble_eq_true rfl) (Nat.le_of_ble_eq_true rfl) dL_setCeiling_22
    rcases List.mem_append.mp hx with h9 | h9
    · exact Or.inl (hL x h9)
    · rw [List.mem_singleton.mp h9]
      exact Or.inr rfl
set_option maxHeartbeats 4000000 in
theorem k_L_undo (l : Launch) (hst : l.stackTraces = false) (g : Gt) (kt : Kt) (b : Nat) (sz ac : Int) (TX F DIA KEP ISK : Nat → Int) (T : Int) (hJ : J F z0 T) (hT : T ≤ 900000) (hac : 0 ≤ ac ∧ ac ≤ 14) (ob : Nat) (hob : b + 407 ≤ ob) : LM l yL_undo cL_undo 3 [(0, 8, 11, 15)] 7 110 1 g kt [.ref b, .ref ob] b ob (CW g b sz ac TX F DIA KEP ISK) (CW g b sz (ac - 1) TX (fun k => DIA (262 * (ac - 1).toNat + k)) DIA KEP ISK) (Kd (ac ≠ 0)) (iI (ac - 1)).toInt64 := by
  refine lm_of (by decide) rfl (Nat.le_of_ble_eq_true rfl) ?_
  intro zp ze zs zm za zb zt zc ls C K9 ht9 hP hl
  obtain ⟨hP, fo, hO⟩ := hP
  have hlt := hO.lt
  have hl : lv_has ls 3 [(0, .ref b), (1, .ref ob)] := hl
  refine r_aload_n C rfl (lv_at hl 1 rfl) dL_undo_0 ?_
  refine r_iconst C dL_undo_1 ?_
  refine r_aload_n C rfl (lv_at hl 0 rfl) dL_undo_2 ?_
  refine r_vXMi (rest := [.int (iI 0), .ref ob]) C K9 (k_X3_undo l hst g kt b sz ac TX F DIA KEP ISK T hJ hT hac) s_RL_54 hP (recv C (ci := 3) rfl hP.lr.o) hl.1 rfl ⟨by decide, by decide⟩ rfl (Nat.le_of_ble_eq_true rfl) ⟨by decide, by decide⟩ dL_undo_3 (fun H1 q ce L9 hK h1 h2 hL h3 h4 h5 => ?_) (fun H1 L9 hK hP1 h1 h2 hL => ?_)
  · have hold : (CW g b sz ac TX F DIA KEP ISK) H1 ∧ ∃ f, lAt g ob 1 f H1 := ⟨hP.kept (fun q h8 h9 => h2 q (by omega)), fo, hO.kept (h2 _ hlt)⟩
    have hc : ((Kd (ac ≠ 0)) : Int) = 1 := by exact (Kd_n hK).1
    have e9 := hc
    rw [e9] at h5
    refine lm_catch (E := eIS) C K9.1 [] (0, 8, 11, 15) [] ht9 (fun z hz => by cases hz) (by decide) (by decide) q_269 (by decide) h3 h4 h5 ?_
    refine r_astore_n C rfl hl (by decide) rfl dL_undo_11 (fun ls hl => ?_)
    refine r_iconst C dL_undo_12 ?_
    exact r_iretL C rfl (by rw [e9]) (fun z => absurd z hK) (fun _ => hold) h1 (fun q hq _ => h2 q hq) (fun x hx => Or.inl (hL x hx)) (Nat.le_of_ble_eq_true rfl) (Nat.le_of_ble_eq_true rfl) dL_undo_13
  · refine r_i2lR C dL_undo_6 ?_
    refine r_last C (hO.kept (h2 _ (fun h => by obtain ⟨h8, h9⟩ := h; omega))) 0 rfl (by decide) (by decide) dL_undo_7 (fun H2 hO2 o2 z2 => ?_)
    refine r_goto (tgt := 14) C (by decide) dL_undo_8 ?_
    refine r_iconst C dL_undo_14 ?_
    refine r_iretL C rfl (by rw [hK]) (fun _ => ⟨hP1.kept (fun q h8 h9 => o2 q (by omega)), hO2.cg (fun j hj => if_pos (by omega))⟩) (fun z => absurd hK z) (by omega) (fun q hq hn => (o2 q (fun z => hn (Or.inr z))).trans (h2 q (fun z => hn (Or.inl z)))) (fun x hx => ?_) (Nat.le_of_ble_eq_true rfl) (Nat.le_of_ble_eq_true rfl) dL_undo_15
    rcases List.mem_append.mp hx with h9 | h9
    · exact Or.inl (hL x h9)
    · rw [List.mem_singleton.mp h9]
      exact Or.inr rfl
set_option maxHeartbeats 4000000 in
theorem k_L_would (l : Launch) (hst : l.stackTraces = false) (g : Gt) (kt : Kt) (b : Nat) (sz ac : Int) (TX F DIA KEP ISK : Nat → Int) (T : Int) (hJ : J F z0 T) (hT : T ≤ 900000) (x y : Int) (hx : Rg x) (hy : Rg y) (s k : Nat) (hs : 0 ≤ x → x = (s : Int)) (hk : 0 ≤ y → y = (k : Int)) (ob : Nat) (hob : b + 407 ≤ ob) : LM l yL_would cL_would 5 [(0, 10, 13, 28)] 8 139 1 g kt [.ref b, .int (iI x), .int (iI y), .ref ob] b ob (CW g b sz ac TX F DIA KEP ISK) (CW g b sz ac TX F DIA KEP ISK) (Kd ((0 ≤ x ∧ x < F 0) ∧ (0 ≤ y ∧ y < 40))) (iI (wrR F s k)).toInt64 := by
  refine lm_of (by decide) rfl (Nat.le_of_ble_eq_true rfl) ?_
  intro zp ze zs zm za zb zt zc ls C K9 ht9 hP hl
  obtain ⟨hP, fo, hO⟩ := hP
  have hlt := hO.lt
  have hl : lv_has ls 5 [(0, .ref b), (1, .int (iI x)), (2, .int (iI y)), (3, .ref ob)] := hl
  refine r_aload_n C rfl (lv_at hl 3 rfl) dL_would_0 ?_
  refine r_iconst C dL_would_1 ?_
  refine r_aload_n C rfl (lv_at hl 0 rfl) dL_would_2 ?_
  refine r_iload_n C rfl (lv_at hl 1 rfl) dL_would_3 ?_
  refine r_iload_n C rfl (lv_at hl 2 rfl) dL_would_4 ?_
  refine r_vXMi (rest := [.int (iI 0), .ref ob]) C K9 (k_X3_would l hst g kt b sz ac TX F DIA KEP ISK T hJ hT x y hx hy s k hs hk) s_RL_57 hP (recv C (ci := 3) rfl hP.lr.o) hl.1 rfl ⟨by decide, by decide⟩ rfl (Nat.le_of_ble_eq_true rfl) ⟨by decide, by decide⟩ dL_would_5 (fun H1 q ce L9 hK h1 h2 hL h3 h4 h5 => ?_) (fun H1 L9 hK hP1 h1 h2 hL => ?_)
  · have hold : (CW g b sz ac TX F DIA KEP ISK) H1 ∧ ∃ f, lAt g ob 1 f H1 := ⟨hP.kept (fun q h8 h9 => h2 q (by omega)), fo, hO.kept (h2 _ hlt)⟩
    have hc : ((Kd ((0 ≤ x ∧ x < F 0) ∧ (0 ≤ y ∧ y < 40))) : Int) = 1 := by exact (Kd_n hK).1
    have e9 := hc
    rw [e9] at h5
    refine lm_catch (E := eIB) C K9.1 [] (0, 10, 13, 28) [] ht9 (fun z hz => by cases hz) (by decide) (by decide) q_520 (by decide) h3 h4 h5 ?_
    refine r_astore C hl (by decide) rfl dL_would_13 (fun ls hl => ?_)
    refine r_iconst C dL_would_15 ?_
    exact r_iretL C rfl (by rw [e9]) (fun z => absurd z hK) (fun _ => hold) h1 (fun q hq _ => h2 q hq) (fun x hx => Or.inl (hL x hx)) (Nat.le_of_ble_eq_true rfl) (Nat.le_of_ble_eq_true rfl) dL_would_16
  · refine r_i2lR C dL_would_8 ?_
    refine r_last C (hO.kept (h2 _ (fun h => by obtain ⟨h8, h9⟩ := h; omega))) 0 rfl (by decide) (by decide) dL_would_9 (fun H2 hO2 o2 z2 => ?_)
    refine r_goto (tgt := 17) C (by decide) dL_would_10 ?_
    refine r_iconst C dL_would_17 ?_
    refine r_iretL C rfl (by rw [hK]) (fun _ => ⟨hP1.kept (fun q h8 h9 => o2 q (by omega)), hO2.cg (fun j hj => if_pos (by omega))⟩) (fun z => absurd hK z) (by omega) (fun q hq hn => (o2 q (fun z => hn (Or.inr z))).trans (h2 q (fun z => hn (Or.inl z)))) (fun x hx => ?_) (Nat.le_of_ble_eq_true rfl) (Nat.le_of_ble_eq_true rfl) dL_would_18
    rcases List.mem_append.mp hx with h9 | h9
    · exact Or.inl (hL x h9)
    · rw [List.mem_singleton.mp h9]
      exact Or.inr rfl
set_option maxHeartbeats 4000000 in
theorem k_L_room (l : Launch) (hst : l.stackTraces = false) (g : Gt) (kt : Kt) (b : Nat) (sz ac : Int) (TX F DIA KEP ISK : Nat → Int) (T : Int) (hJ : J F z0 T) (hT : T ≤ 900000) (x : Int) (hx : Rg x) (s : Nat) (hs : 0 ≤ x → x = (s : Int)) (ob : Nat) (hob : b + 407 ≤ ob) : LM l yL_room cL_room 4 [(0, 9, 12, 28)] 8 139 1 g kt [.ref b, .int (iI x), .ref ob] b ob (CW g b sz ac TX F DIA KEP ISK) (CW g b sz ac TX F DIA KEP ISK) (Kd (0 ≤ x ∧ x < F 0)) (iI (((gN F s 61 0 : Nat) : Int))).toInt64 := by
  refine lm_of (by decide) rfl (Nat.le_of_ble_eq_true rfl) ?_
  intro zp ze zs zm za zb zt zc ls C K9 ht9 hP hl
  obtain ⟨hP, fo, hO⟩ := hP
  have hlt := hO.lt
  have hl : lv_has ls 4 [(0, .ref b), (1, .int (iI x)), (2, .ref ob)] := hl
  refine r_aload_n C rfl (lv_at hl 2 rfl) dL_room_0 ?_
  refine r_iconst C dL_room_1 ?_
  refine r_aload_n C rfl (lv_at hl 0 rfl) dL_room_2 ?_
  refine r_iload_n C rfl (lv_at hl 1 rfl) dL_room_3 ?_
  refine r_vXMi (rest := [.int (iI 0), .ref ob]) C K9 (k_X3_room l hst g kt b sz ac TX F DIA KEP ISK T hJ hT x hx s hs) s_RL_60 hP (recv C (ci := 3) rfl hP.lr.o) hl.1 rfl ⟨by decide, by decide⟩ rfl (Nat.le_of_ble_eq_true rfl) ⟨by decide, by decide⟩ dL_room_4 (fun H1 q ce L9 hK h1 h2 hL h3 h4 h5 => ?_) (fun H1 L9 hK hP1 h1 h2 hL => ?_)
  · have hold : (CW g b sz ac TX F DIA KEP ISK) H1 ∧ ∃ f, lAt g ob 1 f H1 := ⟨hP.kept (fun q h8 h9 => h2 q (by omega)), fo, hO.kept (h2 _ hlt)⟩
    have hc : ((Kd (0 ≤ x ∧ x < F 0)) : Int) = 1 := by exact (Kd_n hK).1
    have e9 := hc
    rw [e9] at h5
    refine lm_catch (E := eIB) C K9.1 [] (0, 9, 12, 28) [] ht9 (fun z hz => by cases hz) (by decide) (by decide) q_520 (by decide) h3 h4 h5 ?_
    refine r_astore_n C rfl hl (by decide) rfl dL_room_12 (fun ls hl => ?_)
    refine r_iconst C dL_room_13 ?_
    exact r_iretL C rfl (by rw [e9]) (fun z => absurd z hK) (fun _ => hold) h1 (fun q hq _ => h2 q hq) (fun x hx => Or.inl (hL x hx)) (Nat.le_of_ble_eq_true rfl) (Nat.le_of_ble_eq_true rfl) dL_room_14
  · refine r_i2lR C dL_room_7 ?_
    refine r_last C (hO.kept (h2 _ (fun h => by obtain ⟨h8, h9⟩ := h; omega))) 0 rfl (by decide) (by decide) dL_room_8 (fun H2 hO2 o2 z2 => ?_)
    refine r_goto (tgt := 15) C (by decide) dL_room_9 ?_
    refine r_iconst C dL_room_15 ?_
    refine r_iretL C rfl (by rw [hK]) (fun _ => ⟨hP1.kept (fun q h8 h9 => o2 q (by omega)), hO2.cg (fun j hj => if_pos (by omega))⟩) (fun z => absurd hK z) (by omega) (fun q hq hn => (o2 q (fun z => hn (Or.inr z))).trans (h2 q (fun z => hn (Or.inl z)))) (fun x hx => ?_) (Nat.le_of_ble_eq_true rfl) (Nat.le_of_ble_eq_true rfl) dL_room_16
    rcases List.mem_append.mp hx with h9 | h9
    · exact Or.inl (hL x h9)
    · rw [List.mem_singleton.mp h9]
      exact Or.inr rfl
set_option maxHeartbeats 4000000 in
theorem k_L_harm (l : Launch) (hst : l.stackTraces = false) (g : Gt) (kt : Kt) (b : Nat) (sz ac : Int) (TX F DIA KEP ISK : Nat → Int) (T : Int) (hJ : J F z0 T) (hT : T ≤ 900000) (x y : Int) (hx : Rg x) (hy : Rg y) (s k : Nat) (hs : 0 ≤ x → x = (s : Int)) (hk : 0 ≤ y → y = (k : Int)) (ob : Nat) (hob : b + 407 ≤ ob) : LM l yL_harm cL_harm 5 [(0, 10, 13, 28), (0, 10, 17, 13)] 8 140 2 g kt [.ref b, .int (iI x), .int (iI y), .ref ob] b ob (CW g b sz ac TX F DIA KEP ISK) (CW g b sz ac TX F DIA KEP ISK) (if ¬ (0 ≤ x ∧ x < F 0) then 1 else if ¬ (0 ≤ y ∧ y ≤ 60) then 2 else 0) (iI (S5 (gF F s (gN F s k 0)) 5 - S5 F 5)).toInt64 := by
  refine lm_of (by decide) rfl (Nat.le_of_ble_eq_true rfl) ?_
  intro zp ze zs zm za zb zt zc ls C K9 ht9 hP hl
  obtain ⟨hP, fo, hO⟩ := hP
  have hlt := hO.lt
  have hl : lv_has ls 5 [(0, .ref b), (1, .int (iI x)), (2, .int (iI y)), (3, .ref ob)] := hl
  refine r_aload_n C rfl (lv_at hl 3 rfl) dL_harm_0 ?_
  refine r_iconst C dL_harm_1 ?_
  refine r_aload_n C rfl (lv_at hl 0 rfl) dL_harm_2 ?_
  refine r_iload_n C rfl (lv_at hl 1 rfl) dL_harm_3 ?_
  refine r_iload_n C rfl (lv_at hl 2 rfl) dL_harm_4 ?_
  refine r_vXMi (rest := [.int (iI 0), .ref ob]) C K9 (k_X3_harm l hst g kt b sz ac TX F DIA KEP ISK T hJ hT x y hx hy s k hs hk) s_RL_63 hP (recv C (ci := 3) rfl hP.lr.o) hl.1 rfl ⟨by decide, by decide⟩ rfl (Nat.le_of_ble_eq_true rfl) ⟨by decide, by decide⟩ dL_harm_5 (fun H1 q ce L9 hK h1 h2 hL h3 h4 h5 => ?_) (fun H1 L9 hK hP1 h1 h2 hL => ?_)
  · have hold : (CW g b sz ac TX F DIA KEP ISK) H1 ∧ ∃ f, lAt g ob 1 f H1 := ⟨hP.kept (fun q h8 h9 => h2 q (by omega)), fo, hO.kept (h2 _ hlt)⟩
    have hc : ((if ¬ (0 ≤ x ∧ x < F 0) then 1 else if ¬ (0 ≤ y ∧ y ≤ 60) then 2 else 0) : Int) = 1 ∨ ((if ¬ (0 ≤ x ∧ x < F 0) then 1 else if ¬ (0 ≤ y ∧ y ≤ 60) then 2 else 0) : Int) = 2 := by revert hK; (repeat' split) <;> (intro hK; omega)
    rcases hc with e9 | e9
    · rw [e9] at h5
      refine lm_catch (E := eIB) C K9.1 [] (0, 10, 13, 28) [(0, 10, 17, 13)] ht9 (fun z hz => by cases hz) (by decide) (by decide) q_520 (by decide) h3 h4 h5 ?_
      refine r_astore C hl (by decide) rfl dL_harm_13 (fun ls hl => ?_)
      refine r_iconst C dL_harm_15 ?_
      exact r_iretL C rfl (by rw [e9]) (fun z => absurd z hK) (fun _ => hold) h1 (fun q hq _ => h2 q hq) (fun x hx => Or.inl (hL x hx)) (Nat.le_of_ble_eq_true rfl) (Nat.le_of_ble_eq_true rfl) dL_harm_16
    · rw [e9] at h5
      refine lm_catch (E := eIA) C K9.1 [(0, 10, 13, 28)] (0, 10, 17, 13) [] ht9 (fun z hz => by rw [List.mem_singleton.mp hz]; exact ⟨by decide, _, q_520, by decide⟩) (by decide) (by decide) q_268 (by decide) h3 h4 h5 ?_
      refine r_astore C hl (by decide) rfl dL_harm_17 (fun ls hl => ?_)
      refine r_iconst C dL_harm_19 ?_
      exact r_iretL C rfl (by rw [e9]) (fun z => absurd z hK) (fun _ => hold) h1 (fun q hq _ => h2 q hq) (fun x hx => Or.inl (hL x hx)) (Nat.le_of_ble_eq_true rfl) (Nat.le_of_ble_eq_true rfl) dL_harm_20
  · refine r_i2lR C dL_harm_8 ?_
    refine r_last C (hO.kept (h2 _ (fun h => by obtain ⟨h8, h9⟩ := h; omega))) 0 rfl (by decide) (by decide) dL_harm_9 (fun H2 hO2 o2 z2 => ?_)
    refine r_goto (tgt := 21) C (by decide) dL_harm_10 ?_
    refine r_iconst C dL_harm_21 ?_
    refine r_iretL C rfl (by rw [hK]) (fun _ => ⟨hP1.kept (fun q h8 h9 => o2 q (by omega)), hO2.cg (fun j hj => if_pos (by omega))⟩) (fun z => absurd hK z) (by omega) (fun q hq hn => (o2 q (fun z => hn (Or.inr z))).trans (h2 q (fun z => hn (Or.inl z)))) (fun x hx => ?_) (Nat.le_of_ble_eq_true rfl) (Nat.le_of_ble_eq_true rfl) dL_harm_22
    rcases List.mem_append.mp hx with h9 | h9
    · exact Or.inl (hL x h9)
    · rw [List.mem_singleton.mp h9]
      exact Or.inr rfl

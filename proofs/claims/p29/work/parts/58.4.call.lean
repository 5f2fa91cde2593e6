theorem s_RL_92 : SiteW 92 yL_tryAppend cL_tryAppend 3 [(0, 5, 6, 13), (0, 5, 10, 24)] 2 := ⟨⟨q_5151, q_5152, q_29, q_5153⟩, by decide, by decide, by decide +kernel⟩
theorem s_RL_102 : SiteW 102 yL_tryAbout cL_tryAbout 3 [(0, 5, 6, 13)] 2 := ⟨⟨q_5459, q_5460, q_29, q_5461⟩, by decide, by decide, by decide +kernel⟩
theorem s_RL_105 : SiteW 105 yL_trySpace cL_trySpace 4 [(0, 6, 7, 38), (0, 6, 11, 13)] 3 := ⟨⟨q_5487, q_5488, q_29, q_5489⟩, by decide, by decide, by decide +kernel⟩
theorem s_RL_109 : SiteW 109 yL_tryLoans cL_tryLoans 4 [(0, 6, 7, 38)] 3 := ⟨⟨q_5529, q_5530, q_29, q_5531⟩, by decide, by decide, by decide +kernel⟩
theorem s_RL_112 : SiteW 112 yL_tryTime cL_tryTime 4 [(0, 6, 7, 38)] 3 := ⟨⟨q_5536, q_5537, q_29, q_5538⟩, by decide, by decide, by decide +kernel⟩
theorem s_RL_115 : SiteW 115 yL_tryOldest cL_tryOldest 4 [(0, 6, 7, 38), (0, 6, 11, 13)] 3 := ⟨⟨q_5550, q_5551, q_29, q_5552⟩, by decide, by decide, by decide +kernel⟩
theorem s_RL_118 : SiteW 118 yL_tryMake cL_tryMake 4 [(0, 6, 7, 13), (0, 6, 11, 24)] 3 := ⟨⟨q_5562, q_5563, q_29, q_5564⟩, by decide, by decide, by decide +kernel⟩
theorem s_RL_121 : SiteW 121 yL_tryWrite cL_tryWrite 4 [(0, 6, 7, 38)] 3 := ⟨⟨q_5578, q_5579, q_29, q_5580⟩, by decide, by decide, by decide +kernel⟩
theorem s_RL_124 : SiteW 124 yL_tryTrim cL_tryTrim 4 [(0, 6, 7, 38), (0, 6, 11, 24)] 3 := ⟨⟨q_5585, q_5586, q_29, q_5587⟩, by decide, by decide, by decide +kernel⟩
theorem s_RL_127 : SiteW 127 yL_tryFloor cL_tryFloor 4 [(0, 6, 7, 38), (0, 6, 11, 13), (0, 6, 15, 24)] 3 := ⟨⟨q_5594, q_5595, q_29, q_5596⟩, by decide, by decide, by decide +kernel⟩
theorem s_RL_130 : SiteW 130 yL_tryCeiling cL_tryCeiling 4 [(0, 6, 7, 38), (0, 6, 11, 13)] 3 := ⟨⟨q_5604, q_5605, q_29, q_5606⟩, by decide, by decide, by decide +kernel⟩
theorem s_RL_133 : SiteW 133 yL_tryUndo cL_tryUndo 2 [(0, 4, 5, 24)] 1 := ⟨⟨q_5621, q_5622, q_29, q_5623⟩, by decide, by decide, by decide +kernel⟩
theorem s_RL_136 : SiteW 136 yL_tryWould cL_tryWould 4 [(0, 6, 7, 38)] 3 := ⟨⟨q_5637, q_5638, q_29, q_5639⟩, by decide, by decide, by decide +kernel⟩
theorem s_RL_139 : SiteW 139 yL_tryRoom cL_tryRoom 3 [(0, 5, 6, 38)] 2 := ⟨⟨q_5644, q_5645, q_29, q_5646⟩, by decide, by decide, by decide +kernel⟩
theorem s_RL_142 : SiteW 142 yL_tryHarm cL_tryHarm 4 [(0, 6, 7, 38), (0, 6, 11, 13)] 3 := ⟨⟨q_5656, q_5657, q_29, q_5658⟩, by decide, by decide, by decide +kernel⟩
theorem s_RL_145 : SiteW 145 yL_tryVictim cL_tryVictim 3 [(0, 5, 6, 38)] 2 := ⟨⟨q_5665, q_5666, q_29, q_5667⟩, by decide, by decide, by decide +kernel⟩
theorem s_RL_148 : SiteW 148 yL_tryMost cL_tryMost 3 [(0, 5, 6, 38)] 2 := ⟨⟨q_5676, q_5677, q_29, q_5678⟩, by decide, by decide, by decide +kernel⟩
theorem s_RL_151 : SiteW 151 yL_tryLeast cL_tryLeast 3 [(0, 5, 6, 38)] 2 := ⟨⟨q_5684, q_5685, q_29, q_5686⟩, by decide, by decide, by decide +kernel⟩
theorem s_RL_154 : SiteW 154 yL_tryKeep cL_tryKeep 3 [(0, 5, 6, 38)] 2 := ⟨⟨q_5692, q_5693, q_29, q_5694⟩, by decide, by decide, by decide +kernel⟩
theorem s_RL_157 : SiteW 157 yL_tryBack cL_tryBack 3 [(0, 5, 6, 38), (0, 5, 10, 24)] 2 := ⟨⟨q_5704, q_5705, q_29, q_5706⟩, by decide, by decide, by decide +kernel⟩
set_option maxHeartbeats 4000000 in
theorem k_call_0 (l : Launch) (hst : l.stackTraces = false) (g : Gt) (kt : Kt) (b : Nat) (sz ac : Int) (TX F DIA KEP ISK : Nat → Int) (T : Int) (hJ : J F z0 T) (hT : T ≤ 900000) (x : Int) (hx : Rg x) (hsz : 0 ≤ sz ∧ sz ≤ 120) (TX : Nat → Int) (hTX : ∀ k : Nat, k < 120 → 0 ≤ TX k ∧ TX k ≤ 255) (u0 u1 : Int) : TM l yL_call (.code yL_call cL_call 5 (some .int)) 8 133 1 g kt [.ref b, .int (iI 0), .int (iI x), .int (iI u0), .int (iI u1)] (CW g b sz ac TX F DIA KEP ISK) (tv [-9999002, -9999003] (if ¬ (0 ≤ x ∧ x ≤ 255) then 1 else if sz = 120 then 2 else 0) (sz + 1)) (Cdp b) (fun H => (((if ¬ (0 ≤ x ∧ x ≤ 255) then 1 else if sz = 120 then 2 else 0) : Int) = 0 → CW g b (sz + 1) ac (up TX sz.toNat x) F DIA KEP ISK H) ∧ (((if ¬ (0 ≤ x ∧ x ≤ 255) then 1 else if sz = 120 then 2 else 0) : Int) ≠ 0 → CW g b sz ac TX F DIA KEP ISK H)) := by
  refine tm_of "LentRoomLaw" (by decide) rfl (Nat.le_of_ble_eq_true rfl) ?_
  intro zp ze zs zm za zb zt zc ls C K9 hP G hl
  have hl : lv_has ls 5 [(0, .ref b), (1, .int (iI 0)), (2, .int (iI x)), (3, .int (iI u0)), (4, .int (iI u1))] := hl
  refine r_iload_n C rfl (lv_at hl 1 rfl) dL_call_0 ?_
  refine r_tsIn (tgt := 96) C (by decide) 0 rfl (by decide) (by decide) rfl (by decide) dL_call_1 ?_
  refine r_aload_n C rfl (lv_at hl 0 rfl) dL_call_96 ?_
  refine r_iload_n C rfl (lv_at hl 2 rfl) dL_call_97 ?_
  refine r_sTw (rest := []) (c9 := 1) C K9 (k_L_tryAppend l hst g kt b sz ac TX F DIA KEP ISK T hJ hT x hx hsz TX hTX) rfl s_RL_92 hP hl.1 rfl ⟨by decide, by decide⟩ rfl (Nat.le_of_ble_eq_true rfl) (Nat.le_of_ble_eq_true rfl) (Nat.le_refl _) (Nat.le_refl _) dL_call_98 rfl (fun H1 L1 p1 F1 => ?_)
  exact r_tret C rfl rfl rfl (G.call (fun _ h => h) F1) p1 (Nat.le_refl _) (Nat.le_refl _) dL_call_101
set_option maxHeartbeats 4000000 in
theorem k_call_2 (l : Launch) (hst : l.stackTraces = false) (g : Gt) (kt : Kt) (b : Nat) (sz ac : Int) (TX F DIA KEP ISK : Nat → Int) (T : Int) (hJ : J F z0 T) (hT : T ≤ 900000) (x : Int) (hx : Rg x) (u0 u1 : Int) : TM l yL_call (.code yL_call cL_call 5 (some .int)) 8 133 1 g kt [.ref b, .int (iI 2), .int (iI x), .int (iI u0), .int (iI u1)] (CW g b sz ac TX F DIA KEP ISK) (tv [-9999002] (Kd (0 ≤ x ∧ x ≤ 8)) (nAll F x)) (Cdp b) (fun H => (((Kd (0 ≤ x ∧ x ≤ 8)) : Int) = 0 → CW g b sz ac TX F DIA KEP ISK H) ∧ (((Kd (0 ≤ x ∧ x ≤ 8)) : Int) ≠ 0 → CW g b sz ac TX F DIA KEP ISK H)) := by
  refine tm_of "LentRoomLaw" (by decide) rfl (Nat.le_of_ble_eq_true rfl) ?_
  intro zp ze zs zm za zb zt zc ls C K9 hP G hl
  have hl : lv_has ls 5 [(0, .ref b), (1, .int (iI 2)), (2, .int (iI x)), (3, .int (iI u0)), (4, .int (iI u1))] := hl
  refine r_iload_n C rfl (lv_at hl 1 rfl) dL_call_0 ?_
  refine r_tsIn (tgt := 107) C (by decide) 2 rfl (by decide) (by decide) rfl (by decide) dL_call_1 ?_
  refine r_aload_n C rfl (lv_at hl 0 rfl) dL_call_107 ?_
  refine r_iload_n C rfl (lv_at hl 2 rfl) dL_call_108 ?_
  refine r_sTw (rest := []) (c9 := 1) C K9 (k_L_tryAbout l hst g kt b sz ac TX F DIA KEP ISK T hJ hT x hx) rfl s_RL_102 hP hl.1 rfl ⟨by decide, by decide⟩ rfl (Nat.le_of_ble_eq_true rfl) (Nat.le_of_ble_eq_true rfl) (Nat.le_refl _) (Nat.le_refl _) dL_call_109 rfl (fun H1 L1 p1 F1 => ?_)
  exact r_tret C rfl rfl rfl (G.call (fun _ h => h) F1) p1 (Nat.le_refl _) (Nat.le_refl _) dL_call_112
set_option maxHeartbeats 4000000 in
theorem k_call_3 (l : Launch) (hst : l.stackTraces = false) (g : Gt) (kt : Kt) (b : Nat) (sz ac : Int) (TX F DIA KEP ISK : Nat → Int) (T : Int) (hJ : J F z0 T) (hT : T ≤ 900000) (x : Int) (hx : Rg x) (s : Nat) (hs : 0 ≤ x → x = (s : Int)) (y : Int) (hy : Rg y) (u0 : Int) : TM l yL_call (.code yL_call cL_call 5 (some .int)) 9 156 2 g kt [.ref b, .int (iI 3), .int (iI x), .int (iI y), .int (iI u0)] (CW g b sz ac TX F DIA KEP ISK) (tv [-9999001, -9999002] (if ¬ (0 ≤ x ∧ x < F 0) then 1 else if ¬ (0 ≤ y ∧ y ≤ 10) then 2 else 0) (nOf F s y)) (Cdp b) (fun H => (((if ¬ (0 ≤ x ∧ x < F 0) then 1 else if ¬ (0 ≤ y ∧ y ≤ 10) then 2 else 0) : Int) = 0 → CW g b sz ac TX F DIA KEP ISK H) ∧ (((if ¬ (0 ≤ x ∧ x < F 0) then 1 else if ¬ (0 ≤ y ∧ y ≤ 10) then 2 else 0) : Int) ≠ 0 → CW g b sz ac TX F DIA KEP ISK H)) := by
  refine tm_of "LentRoomLaw" (by decide) rfl (Nat.le_of_ble_eq_true rfl) ?_
  intro zp ze zs zm za zb zt zc ls C K9 hP G hl
  have hl : lv_has ls 5 [(0, .ref b), (1, .int (iI 3)), (2, .int (iI x)), (3, .int (iI y)), (4, .int (iI u0))] := hl
  refine r_iload_n C rfl (lv_at hl 1 rfl) dL_call_0 ?_
  refine r_tsIn (tgt := 113) C (by decide) 3 rfl (by decide) (by decide) rfl (by decide) dL_call_1 ?_
  refine r_aload_n C rfl (lv_at hl 0 rfl) dL_call_113 ?_
  refine r_iload_n C rfl (lv_at hl 2 rfl) dL_call_114 ?_
  refine r_iload_n C rfl (lv_at hl 3 rfl) dL_call_115 ?_
  refine r_sTw (rest := []) (c9 := 2) C K9 (k_L_trySpace l hst g kt b sz ac TX F DIA KEP ISK T hJ hT x hx s hs y hy) rfl s_RL_105 hP hl.1 rfl ⟨by decide, by decide⟩ rfl (Nat.le_of_ble_eq_true rfl) (Nat.le_of_ble_eq_true rfl) (Nat.le_refl _) (Nat.le_refl _) dL_call_116 rfl (fun H1 L1 p1 F1 => ?_)
  exact r_tret C rfl rfl rfl (G.call (fun _ h => h) F1) p1 (Nat.le_refl _) (Nat.le_refl _) dL_call_119
set_option maxHeartbeats 4000000 in
theorem k_call_4 (l : Launch) (hst : l.stackTraces = false) (g : Gt) (kt : Kt) (b : Nat) (sz ac : Int) (TX F DIA KEP ISK : Nat → Int) (T : Int) (hJ : J F z0 T) (hT : T ≤ 900000) (x y : Int) (hx : Rg x) (hy : Rg y) (s k : Nat) (hs : 0 ≤ x → x = (s : Int)) (hk : 0 ≤ y → y = (k : Int)) (u0 : Int) : TM l yL_call (.code yL_call cL_call 5 (some .int)) 9 156 2 g kt [.ref b, .int (iI 4), .int (iI x), .int (iI y), .int (iI u0)] (CW g b sz ac TX F DIA KEP ISK) (tv [-9999001] (Kd ((0 ≤ x ∧ x < F 0) ∧ (0 ≤ y ∧ y < F 0))) (F (2 + 52 * s + (7 + k)))) (Cdp b) (fun H => (((Kd ((0 ≤ x ∧ x < F 0) ∧ (0 ≤ y ∧ y < F 0))) : Int) = 0 → CW g b sz ac TX F DIA KEP ISK H) ∧ (((Kd ((0 ≤ x ∧ x < F 0) ∧ (0 ≤ y ∧ y < F 0))) : Int) ≠ 0 → CW g b sz ac TX F DIA KEP ISK H)) := by
  refine tm_of "LentRoomLaw" (by decide) rfl (Nat.le_of_ble_eq_true rfl) ?_
  intro zp ze zs zm za zb zt zc ls C K9 hP G hl
  have hl : lv_has ls 5 [(0, .ref b), (1, .int (iI 4)), (2, .int (iI x)), (3, .int (iI y)), (4, .int (iI u0))] := hl
  refine r_iload_n C rfl (lv_at hl 1 rfl) dL_call_0 ?_
  refine r_tsIn (tgt := 120) C (by decide) 4 rfl (by decide) (by decide) rfl (by decide) dL_call_1 ?_
  refine r_aload_n C rfl (lv_at hl 0 rfl) dL_call_120 ?_
  refine r_iload_n C rfl (lv_at hl 2 rfl) dL_call_121 ?_
  refine r_iload_n C rfl (lv_at hl 3 rfl) dL_call_122 ?_
  refine r_sTw (rest := []) (c9 := 2) C K9 (k_L_tryLoans l hst g kt b sz ac TX F DIA KEP ISK T hJ hT x y hx hy s k hs hk) rfl s_RL_109 hP hl.1 rfl ⟨by decide, by decide⟩ rfl (Nat.le_of_ble_eq_true rfl) (Nat.le_of_ble_eq_true rfl) (Nat.le_refl _) (Nat.le_refl _) dL_call_123 rfl (fun H1 L1 p1 F1 => ?_)
  exact r_tret C rfl rfl rfl (G.call (fun _ h => h) F1) p1 (Nat.le_refl _) (Nat.le_refl _) dL_call_126
set_option maxHeartbeats 4000000 in
theorem k_call_5 (l : Launch) (hst : l.stackTraces = false) (g : Gt) (kt : Kt) (b : Nat) (sz ac : Int) (TX F DIA KEP ISK : Nat → Int) (T : Int) (hJ : J F z0 T) (hT : T ≤ 900000) (x y : Int) (hx : Rg x) (hy : Rg y) (s k : Nat) (hs : 0 ≤ x → x = (s : Int)) (hk : 0 ≤ y → y = (k : Int)) (u0 : Int) : TM l yL_call (.code yL_call cL_call 5 (some .int)) 9 157 1 g kt [.ref b, .int (iI 5), .int (iI x), .int (iI y), .int (iI u0)] (CW g b sz ac TX F DIA KEP ISK) (tv [-9999001] (Kd ((0 ≤ x ∧ x < F 0) ∧ (0 ≤ y ∧ y < 40))) (if F (2 + 52 * s + (12 + k)) = 0 then -1 else F (2 + 52 * s + (12 + k)))) (Cdp b) (fun H => (((Kd ((0 ≤ x ∧ x < F 0) ∧ (0 ≤ y ∧ y < 40))) : Int) = 0 → CW g b sz ac TX F DIA KEP ISK H) ∧ (((Kd ((0 ≤ x ∧ x < F 0) ∧ (0 ≤ y ∧ y < 40))) : Int) ≠ 0 → CW g b sz ac TX F DIA KEP ISK H)) := by
  refine tm_of "LentRoomLaw" (by decide) rfl (Nat.le_of_ble_eq_true rfl) ?_
  intro zp ze zs zm za zb zt zc ls C K9 hP G hl
  have hl : lv_has ls 5 [(0, .ref b), (1, .int (iI 5)), (2, .int (iI x)), (3, .int (iI y)), (4, .int (iI u0))] := hl
  refine r_iload_n C rfl (lv_at hl 1 rfl) dL_call_0 ?_
  refine r_tsIn (tgt := 127) C (by decide) 5 rfl (by decide) (by decide) rfl (by decide) dL_call_1 ?_
  refine r_aload_n C rfl (lv_at hl 0 rfl) dL_call_127 ?_
  refine r_iload_n C rfl (lv_at hl 2 rfl) dL_call_128 ?_
  refine r_iload_n C rfl (lv_at hl 3 rfl) dL_call_129 ?_
  refine r_sTw (rest := []) (c9 := 1) C K9 (k_L_tryTime l hst g kt b sz ac TX F DIA KEP ISK T hJ hT x y hx hy s k hs hk) rfl s_RL_112 hP hl.1 rfl ⟨by decide, by decide⟩ rfl (Nat.le_of_ble_eq_true rfl) (Nat.le_of_ble_eq_true rfl) (Nat.le_refl _) (Nat.le_refl _) dL_call_130 rfl (fun H1 L1 p1 F1 => ?_)
  exact r_tret C rfl rfl rfl (G.call (fun _ h => h) F1) p1 (Nat.le_refl _) (Nat.le_refl _) dL_call_133
set_option maxHeartbeats 4000000 in
theorem k_call_6 (l : Launch) (hst : l.stackTraces = false) (g : Gt) (kt : Kt) (b : Nat) (sz ac : Int) (TX F DIA KEP ISK : Nat → Int) (T : Int) (hJ : J F z0 T) (hT : T ≤ 900000) (x : Int) (hx : Rg x) (s : Nat) (hs : 0 ≤ x → x = (s : Int)) (y : Int) (hy : Rg y) (u0 : Int) : TM l yL_call (.code yL_call cL_call 5 (some .int)) 9 156 2 g kt [.ref b, .int (iI 6), .int (iI x), .int (iI y), .int (iI u0)] (CW g b sz ac TX F DIA KEP ISK) (tv [-9999001, -9999002] (if ¬ (0 ≤ x ∧ x < F 0) then 1 else if y < 0 then 2 else 0) (od F s y 40 0)) (Cdp b) (fun H => (((if ¬ (0 ≤ x ∧ x < F 0) then 1 else if y < 0 then 2 else 0) : Int) = 0 → CW g b sz ac TX F DIA KEP ISK H) ∧ (((if ¬ (0 ≤ x ∧ x < F 0) then 1 else if y < 0 then 2 else 0) : Int) ≠ 0 → CW g b sz ac TX F DIA KEP ISK H)) := by
  refine tm_of "LentRoomLaw" (by decide) rfl (Nat.le_of_ble_eq_true rfl) ?_
  intro zp ze zs zm za zb zt zc ls C K9 hP G hl
  have hl : lv_has ls 5 [(0, .ref b), (1, .int (iI 6)), (2, .int (iI x)), (3, .int (iI y)), (4, .int (iI u0))] := hl
  refine r_iload_n C rfl (lv_at hl 1 rfl) dL_call_0 ?_
  refine r_tsIn (tgt := 134) C (by decide) 6 rfl (by decide) (by decide) rfl (by decide) dL_call_1 ?_
  refine r_aload_n C rfl (lv_at hl 0 rfl) dL_call_134 ?_
  refine r_iload_n C rfl (lv_at hl 2 rfl) dL_call_135 ?_
  refine r_iload_n C rfl (lv_at hl 3 rfl) dL_call_136 ?_
  refine r_sTw (rest := []) (c9 := 2) C K9 (k_L_tryOldest l hst g kt b sz ac TX F DIA KEP ISK T hJ hT x hx s hs y hy) rfl s_RL_115 hP hl.1 rfl ⟨by decide, by decide⟩ rfl (Nat.le_of_ble_eq_true rfl) (Nat.le_of_ble_eq_true rfl) (Nat.le_refl _) (Nat.le_refl _) dL_call_137 rfl (fun H1 L1 p1 F1 => ?_)
  exact r_tret C rfl rfl rfl (G.call (fun _ h => h) F1) p1 (Nat.le_refl _) (Nat.le_refl _) dL_call_140
set_option maxHeartbeats 4000000 in
theorem k_call_7 (l : Launch) (hst : l.stackTraces = false) (g : Gt) (kt : Kt) (b : Nat) (sz ac : Int) (TX F DIA KEP ISK : Nat → Int) (T : Int) (hJ : J F z0 T) (hT : T ≤ 900000) (x y : Int) (hx : Rg x) (hy : Rg y) (hac : 0 ≤ ac ∧ ac ≤ 14) (u0 : Int) : TM l yL_call (.code yL_call cL_call 5 (some .int)) 8 135 2 g kt [.ref b, .int (iI 7), .int (iI x), .int (iI y), .int (iI u0)] (CW g b sz ac TX F DIA KEP ISK) (tv [-9999002, -9999003] (whyMk F x y) (F 0)) (Cdp b) (fun H => (((whyMk F x y) : Int) = 0 → CW g b sz (remA ac) TX (mkF F x y) (rem DIA F ac) KEP ISK H) ∧ (((whyMk F x y) : Int) ≠ 0 → CW g b sz ac TX F DIA KEP ISK H)) := by
  refine tm_of "LentRoomLaw" (by decide) rfl (Nat.le_of_ble_eq_true rfl) ?_
  intro zp ze zs zm za zb zt zc ls C K9 hP G hl
  have hl : lv_has ls 5 [(0, .ref b), (1, .int (iI 7)), (2, .int (iI x)), (3, .int (iI y)), (4, .int (iI u0))] := hl
  refine r_iload_n C rfl (lv_at hl 1 rfl) dL_call_0 ?_
  refine r_tsIn (tgt := 141) C (by decide) 7 rfl (by decide) (by decide) rfl (by decide) dL_call_1 ?_
  refine r_aload_n C rfl (lv_at hl 0 rfl) dL_call_141 ?_
  refine r_iload_n C rfl (lv_at hl 2 rfl) dL_call_142 ?_
  refine r_iload_n C rfl (lv_at hl 3 rfl) dL_call_143 ?_
  refine r_sTw (rest := []) (c9 := 2) C K9 (k_L_tryMake l hst g kt b sz ac TX F DIA KEP ISK T hJ hT x y hx hy hac) rfl s_RL_118 hP hl.1 rfl ⟨by decide, by decide⟩ rfl (Nat.le_of_ble_eq_true rfl) (Nat.le_of_ble_eq_true rfl) (Nat.le_refl _) (Nat.le_refl _) dL_call_144 rfl (fun H1 L1 p1 F1 => ?_)
  exact r_tret C rfl rfl rfl (G.call (fun _ h => h) F1) p1 (Nat.le_refl _) (Nat.le_refl _) dL_call_147
set_option maxHeartbeats 4000000 in
theorem k_call_8 (l : Launch) (hst : l.stackTraces = false) (g : Gt) (kt : Kt) (b : Nat) (sz ac : Int) (TX F DIA KEP ISK : Nat → Int) (T : Int) (hJ : J F z0 T) (hT : T ≤ 900000) (x y : Int) (hx : Rg x) (hy : Rg y) (s k : Nat) (hs : 0 ≤ x → x = (s : Int)) (hk : 0 ≤ y → y = (k : Int)) (hac : 0 ≤ ac ∧ ac ≤ 14) (u0 : Int) : TM l yL_call (.code yL_call cL_call 5 (some .int)) 9 162 1 g kt [.ref b, .int (iI 8), .int (iI x), .int (iI y), .int (iI u0)] (CW g b sz ac TX F DIA KEP ISK) (tv [-9999001] (Kd ((0 ≤ x ∧ x < F 0) ∧ (0 ≤ y ∧ y < 40))) (wrR F s k)) (Cdp b) (fun H => (((Kd ((0 ≤ x ∧ x < F 0) ∧ (0 ≤ y ∧ y < 40))) : Int) = 0 → CW g b sz (remA ac) TX (wrF F s k) (rem DIA F ac) KEP ISK H) ∧ (((Kd ((0 ≤ x ∧ x < F 0) ∧ (0 ≤ y ∧ y < 40))) : Int) ≠ 0 → CW g b sz ac TX F DIA KEP ISK H)) := by
  refine tm_of "LentRoomLaw" (by decide) rfl (Nat.le_of_ble_eq_true rfl) ?_
  intro zp ze zs zm za zb zt zc ls C K9 hP G hl
  have hl : lv_has ls 5 [(0, .ref b), (1, .int (iI 8)), (2, .int (iI x)), (3, .int (iI y)), (4, .int (iI u0))] := hl
  refine r_iload_n C rfl (lv_at hl 1 rfl) dL_call_0 ?_
  refine r_tsIn (tgt := 148) C (by decide) 8 rfl (by decide) (by decide) rfl (by decide) dL_call_1 ?_
  refine r_aload_n C rfl (lv_at hl 0 rfl) dL_call_148 ?_
  refine r_iload_n C rfl (lv_at hl 2 rfl) dL_call_149 ?_
  refine r_iload_n C rfl (lv_at hl 3 rfl) dL_call_150 ?_
  refine r_sTw (rest := []) (c9 := 1) C K9 (k_L_tryWrite l hst g kt b sz ac TX F DIA KEP ISK T hJ hT x y hx hy s k hs hk hac) rfl s_RL_121 hP hl.1 rfl ⟨by decide, by decide⟩ rfl (Nat.le_of_ble_eq_true rfl) (Nat.le_of_ble_eq_true rfl) (Nat.le_refl _) (Nat.le_refl _) dL_call_151 rfl (fun H1 L1 p1 F1 => ?_)
  exact r_tret C rfl rfl rfl (G.call (fun _ h => h) F1) p1 (Nat.le_refl _) (Nat.le_refl _) dL_call_154
set_option maxHeartbeats 4000000 in
theorem k_call_9 (l : Launch) (hst : l.stackTraces = false) (g : Gt) (kt : Kt) (b : Nat) (sz ac : Int) (TX F DIA KEP ISK : Nat → Int) (T : Int) (hJ : J F z0 T) (hT : T ≤ 900000) (x y : Int) (hx : Rg x) (hy : Rg y) (s k : Nat) (hs : 0 ≤ x → x = (s : Int)) (hk : 0 ≤ y → y = (k : Int)) (hac : 0 ≤ ac ∧ ac ≤ 14) (u0 : Int) : TM l yL_call (.code yL_call cL_call 5 (some .int)) 9 157 2 g kt [.ref b, .int (iI 9), .int (iI x), .int (iI y), .int (iI u0)] (CW g b sz ac TX F DIA KEP ISK) (tv [-9999001, -9999003] (if ¬ ((0 ≤ x ∧ x < F 0) ∧ (0 ≤ y ∧ y < 40)) then 1 else if ¬ (0 < F (2 + 52 * s + (12 + k))) then 2 else 0) (tk (trF F s k) s)) (Cdp b) (fun H => (((if ¬ ((0 ≤ x ∧ x < F 0) ∧ (0 ≤ y ∧ y < 40)) then 1 else if ¬ (0 < F (2 + 52 * s + (12 + k))) then 2 else 0) : Int) = 0 → CW g b sz (remA ac) TX (trF F s k) (rem DIA F ac) KEP ISK H) ∧ (((if ¬ ((0 ≤ x ∧ x < F 0) ∧ (0 ≤ y ∧ y < 40)) then 1 else if ¬ (0 < F (2 + 52 * s + (12 + k))) then 2 else 0) : Int) ≠ 0 → CW g b sz ac TX F DIA KEP ISK H)) := by
  refine tm_of "LentRoomLaw" (by decide) rfl (Nat.le_of_ble_eq_true rfl) ?_
  intro zp ze zs zm za zb zt zc ls C K9 hP G hl
  have hl : lv_has ls 5 [(0, .ref b), (1, .int (iI 9)), (2, .int (iI x)), (3, .int (iI y)), (4, .int (iI u0))] := hl
  refine r_iload_n C rfl (lv_at hl 1 rfl) dL_call_0 ?_
  refine r_tsIn (tgt := 155) C (by decide) 9 rfl (by decide) (by decide) rfl (by decide) dL_call_1 ?_
  refine r_aload_n C rfl (lv_at hl 0 rfl) dL_call_155 ?_
  refine r_iload_n C rfl (lv_at hl 2 rfl) dL_call_156 ?_
  refine r_iload_n C rfl (lv_at hl 3 rfl) dL_call_157 ?_
  refine r_sTw (rest := []) (c9 := 2) C K9 (k_L_tryTrim l hst g kt b sz ac TX F DIA KEP ISK T hJ hT x y hx hy s k hs hk hac) rfl s_RL_124 hP hl.1 rfl ⟨by decide, by decide⟩ rfl (Nat.le_of_ble_eq_true rfl) (Nat.le_of_ble_eq_true rfl) (Nat.le_refl _) (Nat.le_refl _) dL_call_158 rfl (fun H1 L1 p1 F1 => ?_)
  exact r_tret C rfl rfl rfl (G.call (fun _ h => h) F1) p1 (Nat.le_refl _) (Nat.le_refl _) dL_call_161
set_option maxHeartbeats 4000000 in
theorem k_call_10 (l : Launch) (hst : l.stackTraces = false) (g : Gt) (kt : Kt) (b : Nat) (sz ac : Int) (TX F DIA KEP ISK : Nat → Int) (T : Int) (hJ : J F z0 T) (hT : T ≤ 900000) (x v : Int) (hx : Rg x) (hv : Rg v) (s : Nat) (hs : 0 ≤ x → x = (s : Int)) (hac : 0 ≤ ac ∧ ac ≤ 14) (u0 : Int) : TM l yL_call (.code yL_call cL_call 5 (some .int)) 9 157 2 g kt [.ref b, .int (iI 10), .int (iI x), .int (iI v), .int (iI u0)] (CW g b sz ac TX F DIA KEP ISK) (tv [-9999001, -9999002, -9999003] (whyFl F x s v) (F (2 + 52 * s + 0))) (Cdp b) (fun H => (((whyFl F x s v) : Int) = 0 → CW g b sz (remA ac) TX (up F (2 + 52 * s + 0) v) (rem DIA F ac) KEP ISK H) ∧ (((whyFl F x s v) : Int) ≠ 0 → CW g b sz ac TX F DIA KEP ISK H)) := by
  refine tm_of "LentRoomLaw" (by decide) rfl (Nat.le_of_ble_eq_true rfl) ?_
  intro zp ze zs zm za zb zt zc ls C K9 hP G hl
  have hl : lv_has ls 5 [(0, .ref b), (1, .int (iI 10)), (2, .int (iI x)), (3, .int (iI v)), (4, .int (iI u0))] := hl
  refine r_iload_n C rfl (lv_at hl 1 rfl) dL_call_0 ?_
  refine r_tsIn (tgt := 162) C (by decide) 10 rfl (by decide) (by decide) rfl (by decide) dL_call_1 ?_
  refine r_aload_n C rfl (lv_at hl 0 rfl) dL_call_162 ?_
  refine r_iload_n C rfl (lv_at hl 2 rfl) dL_call_163 ?_
  refine r_iload_n C rfl (lv_at hl 3 rfl) dL_call_164 ?_
  refine r_sTw (rest := []) (c9 := 2) C K9 (k_L_tryFloor l hst g kt b sz ac TX F DIA KEP ISK T hJ hT x v hx hv s hs hac) rfl s_RL_127 hP hl.1 rfl ⟨by decide, by decide⟩ rfl (Nat.le_of_ble_eq_true rfl) (Nat.le_of_ble_eq_true rfl) (Nat.le_refl _) (Nat.le_refl _) dL_call_165 rfl (fun H1 L1 p1 F1 => ?_)
  exact r_tret C rfl rfl rfl (G.call (fun _ h => h) F1) p1 (Nat.le_refl _) (Nat.le_refl _) dL_call_168
set_option maxHeartbeats 4000000 in
theorem k_call_11 (l : Launch) (hst : l.stackTraces = false) (g : Gt) (kt : Kt) (b : Nat) (sz ac : Int) (TX F DIA KEP ISK : Nat → Int) (T : Int) (hJ : J F z0 T) (hT : T ≤ 900000) (x v : Int) (hx : Rg x) (hv : Rg v) (s : Nat) (hs : 0 ≤ x → x = (s : Int)) (hac : 0 ≤ ac ∧ ac ≤ 14) (u0 : Int) : TM l yL_call (.code yL_call cL_call 5 (some .int)) 9 157 2 g kt [.ref b, .int (iI 11), .int (iI x), .int (iI v), .int (iI u0)] (CW g b sz ac TX F DIA KEP ISK) (tv [-9999001, -9999002] (whyCe F x s v) (F (2 + 52 * s + 1))) (Cdp b) (fun H => (((whyCe F x s v) : Int) = 0 → CW g b sz (remA ac) TX (up F (2 + 52 * s + 1) v) (rem DIA F ac) KEP ISK H) ∧ (((whyCe F x s v) : Int) ≠ 0 → CW g b sz ac TX F DIA KEP ISK H)) := by
  refine tm_of "LentRoomLaw" (by decide) rfl (Nat.le_of_ble_eq_true rfl) ?_
  intro zp ze zs zm za zb zt zc ls C K9 hP G hl
  have hl : lv_has ls 5 [(0, .ref b), (1, .int (iI 11)), (2, .int (iI x)), (3, .int (iI v)), (4, .int (iI u0))] := hl
  refine r_iload_n C rfl (lv_at hl 1 rfl) dL_call_0 ?_
  refine r_tsIn (tgt := 169) C (by decide) 11 rfl (by decide) (by decide) rfl (by decide) dL_call_1 ?_
  refine r_aload_n C rfl (lv_at hl 0 rfl) dL_call_169 ?_
  refine r_iload_n C rfl (lv_at hl 2 rfl) dL_call_170 ?_
  refine r_iload_n C rfl (lv_at hl 3 rfl) dL_call_171 ?_
  refine r_sTw (rest := []) (c9 := 2) C K9 (k_L_tryCeiling l hst g kt b sz ac TX F DIA KEP ISK T hJ hT x v hx hv s hs hac) rfl s_RL_130 hP hl.1 rfl ⟨by decide, by decide⟩ rfl (Nat.le_of_ble_eq_true rfl) (Nat.le_of_ble_eq_true rfl) (Nat.le_refl _) (Nat.le_refl _) dL_call_172 rfl (fun H1 L1 p1 F1 => ?_)
  exact r_tret C rfl rfl rfl (G.call (fun _ h => h) F1) p1 (Nat.le_refl _) (Nat.le_refl _) dL_call_175
set_option maxHeartbeats 4000000 in
theorem k_call_12 (l : Launch) (hst : l.stackTraces = false) (g : Gt) (kt : Kt) (b : Nat) (sz ac : Int) (TX F DIA KEP ISK : Nat → Int) (T : Int) (hJ : J F z0 T) (hT : T ≤ 900000) (hac : 0 ≤ ac ∧ ac ≤ 14) (u0 u1 u2 : Int) : TM l yL_call (.code yL_call cL_call 5 (some .int)) 8 131 1 g kt [.ref b, .int (iI 12), .int (iI u0), .int (iI u1), .int (iI u2)] (CW g b sz ac TX F DIA KEP ISK) (tv [-9999003] (Kd (ac ≠ 0)) (ac - 1)) (Cdp b) (fun H => (((Kd (ac ≠ 0)) : Int) = 0 → CW g b sz (ac - 1) TX (fun k => DIA (262 * (ac - 1).toNat + k)) DIA KEP ISK H) ∧ (((Kd (ac ≠ 0)) : Int) ≠ 0 → CW g b sz ac TX F DIA KEP ISK H)) := by
  refine tm_of "LentRoomLaw" (by decide) rfl (Nat.le_of_ble_eq_true rfl) ?_
  intro zp ze zs zm za zb zt zc ls C K9 hP G hl
  have hl : lv_has ls 5 [(0, .ref b), (1, .int (iI 12)), (2, .int (iI u0)), (3, .int (iI u1)), (4, .int (iI u2))] := hl
  refine r_iload_n C rfl (lv_at hl 1 rfl) dL_call_0 ?_
  refine r_tsIn (tgt := 176) C (by decide) 12 rfl (by decide) (by decide) rfl (by decide) dL_call_1 ?_
  refine r_aload_n C rfl (lv_at hl 0 rfl) dL_call_176 ?_
  refine r_sTw (rest := []) (c9 := 1) C K9 (k_L_tryUndo l hst g kt b sz ac TX F DIA KEP ISK T hJ hT hac) rfl s_RL_133 hP hl.1 rfl ⟨by decide, by decide⟩ rfl (Nat.le_of_ble_eq_true rfl) (Nat.le_of_ble_eq_true rfl) (Nat.le_refl _) (Nat.le_refl _) dL_call_177 rfl (fun H1 L1 p1 F1 => ?_)
  exact r_tret C rfl rfl rfl (G.call (fun _ h => h) F1) p1 (Nat.le_refl _) (Nat.le_refl _) dL_call_180
set_option maxHeartbeats 4000000 in
theorem k_call_13 (l : Launch) (hst : l.stackTraces = false) (g : Gt) (kt : Kt) (b : Nat) (sz ac : Int) (TX F DIA KEP ISK : Nat → Int) (T : Int) (hJ : J F z0 T) (hT : T ≤ 900000) (x y : Int) (hx : Rg x) (hy : Rg y) (s k : Nat) (hs : 0 ≤ x → x = (s : Int)) (hk : 0 ≤ y → y = (k : Int)) (u0 : Int) : TM l yL_call (.code yL_call cL_call 5 (some .int)) 9 162 1 g kt [.ref b, .int (iI 13), .int (iI x), .int (iI y), .int (iI u0)] (CW g b sz ac TX F DIA KEP ISK) (tv [-9999001] (Kd ((0 ≤ x ∧ x < F 0) ∧ (0 ≤ y ∧ y < 40))) (wrR F s k)) (Cdp b) (fun H => (((Kd ((0 ≤ x ∧ x < F 0) ∧ (0 ≤ y ∧ y < 40))) : Int) = 0 → CW g b sz ac TX F DIA KEP ISK H) ∧ (((Kd ((0 ≤ x ∧ x < F 0) ∧ (0 ≤ y ∧ y < 40))) : Int) ≠ 0 → CW g b sz ac TX F DIA KEP ISK H)) := by
  refine tm_of "LentRoomLaw" (by decide) rfl (Nat.le_of_ble_eq_true rfl) ?_
  intro zp ze zs zm za zb zt zc ls C K9 hP G hl
  have hl : lv_has ls 5 [(0, .ref b), (1, .int (iI 13)), (2, .int (iI x)), (3, .int (iI y)), (4, .int (iI u0))] := hl
  refine r_iload_n C rfl (lv_at hl 1 rfl) dL_call_0 ?_
  refine r_tsIn (tgt := 181) C (by decide) 13 rfl (by decide) (by decide) rfl (by decide) dL_call_1 ?_
  refine r_aload_n C rfl (lv_at hl 0 rfl) dL_call_181 ?_
  refine r_iload_n C rfl (lv_at hl 2 rfl) dL_call_182 ?_
  refine r_iload_n C rfl (lv_at hl 3 rfl) dL_call_183 ?_
  refine r_sTw (rest := []) (c9 := 1) C K9 (k_L_tryWould l hst g kt b sz ac TX F DIA KEP ISK T hJ hT x y hx hy s k hs hk) rfl s_RL_136 hP hl.1 rfl ⟨by decide, by decide⟩ rfl (Nat.le_of_ble_eq_true rfl) (Nat.le_of_ble_eq_true rfl) (Nat.le_refl _) (Nat.le_refl _) dL_call_184 rfl (fun H1 L1 p1 F1 => ?_)
  exact r_tret C rfl rfl rfl (G.call (fun _ h => h) F1) p1 (Nat.le_refl _) (Nat.le_refl _) dL_call_187
set_option maxHeartbeats 4000000 in
theorem k_call_14 (l : Launch) (hst : l.stackTraces = false) (g : Gt) (kt : Kt) (b : Nat) (sz ac : Int) (TX F DIA KEP ISK : Nat → Int) (T : Int) (hJ : J F z0 T) (hT : T ≤ 900000) (x : Int) (hx : Rg x) (s : Nat) (hs : 0 ≤ x → x = (s : Int)) (u0 u1 : Int) : TM l yL_call (.code yL_call cL_call 5 (some .int)) 9 161 1 g kt [.ref b, .int (iI 14), .int (iI x), .int (iI u0), .int (iI u1)] (CW g b sz ac TX F DIA KEP ISK) (tv [-9999001] (Kd (0 ≤ x ∧ x < F 0)) ((gN F s 61 0 : Nat) : Int)) (Cdp b) (fun H => (((Kd (0 ≤ x ∧ x < F 0)) : Int) = 0 → CW g b sz ac TX F DIA KEP ISK H) ∧ (((Kd (0 ≤ x ∧ x < F 0)) : Int) ≠ 0 → CW g b sz ac TX F DIA KEP ISK H)) := by
  refine tm_of "LentRoomLaw" (by decide) rfl (Nat.le_of_ble_eq_true rfl) ?_
  intro zp ze zs zm za zb zt zc ls C K9 hP G hl
  have hl : lv_has ls 5 [(0, .ref b), (1, .int (iI 14)), (2, .int (iI x)), (3, .int (iI u0)), (4, .int (iI u1))] := hl
  refine r_iload_n C rfl (lv_at hl 1 rfl) dL_call_0 ?_
  refine r_tsIn (tgt := 188) C (by decide) 14 rfl (by decide) (by decide) rfl (by decide) dL_call_1 ?_
  refine r_aload_n C rfl (lv_at hl 0 rfl) dL_call_188 ?_
  refine r_iload_n C rfl (lv_at hl 2 rfl) dL_call_189 ?_
  refine r_sTw (rest := []) (c9 := 1) C K9 (k_L_tryRoom l hst g kt b sz ac TX F DIA KEP ISK T hJ hT x hx s hs) rfl s_RL_139 hP hl.1 rfl ⟨by decide, by decide⟩ rfl (Nat.le_of_ble_eq_true rfl) (Nat.le_of_ble_eq_true rfl) (Nat.le_refl _) (Nat.le_refl _) dL_call_190 rfl (fun H1 L1 p1 F1 => ?_)
  exact r_tret C rfl rfl rfl (G.call (fun _ h => h) F1) p1 (Nat.le_refl _) (Nat.le_refl _) dL_call_193
set_option maxHeartbeats 4000000 in
theorem k_call_15 (l : Launch) (hst : l.stackTraces = false) (g : Gt) (kt : Kt) (b : Nat) (sz ac : Int) (TX F DIA KEP ISK : Nat → Int) (T : Int) (hJ : J F z0 T) (hT : T ≤ 900000) (x y : Int) (hx : Rg x) (hy : Rg y) (s k : Nat) (hs : 0 ≤ x → x = (s : Int)) (hk : 0 ≤ y → y = (k : Int)) (u0 : Int) : TM l yL_call (.code yL_call cL_call 5 (some .int)) 9 163 2 g kt [.ref b, .int (iI 15), .int (iI x), .int (iI y), .int (iI u0)] (CW g b sz ac TX F DIA KEP ISK) (tv [-9999001, -9999002] (if ¬ (0 ≤ x ∧ x < F 0) then 1 else if ¬ (0 ≤ y ∧ y ≤ 60) then 2 else 0) (S5 (gF F s (gN F s k 0)) 5 - S5 F 5)) (Cdp b) (fun H => (((if ¬ (0 ≤ x ∧ x < F 0) then 1 else if ¬ (0 ≤ y ∧ y ≤ 60) then 2 else 0) : Int) = 0 → CW g b sz ac TX F DIA KEP ISK H) ∧ (((if ¬ (0 ≤ x ∧ x < F 0) then 1 else if ¬ (0 ≤ y ∧ y ≤ 60) then 2 else 0) : Int) ≠ 0 → CW g b sz ac TX F DIA KEP ISK H)) := by
  refine tm_of "LentRoomLaw" (by decide) rfl (Nat.le_of_ble_eq_true rfl) ?_
  intro zp ze zs zm za zb zt zc ls C K9 hP G hl
  have hl : lv_has ls 5 [(0, .ref b), (1, .int (iI 15)), (2, .int (iI x)), (3, .int (iI y)), (4, .int (iI u0))] := hl
  refine r_iload_n C rfl (lv_at hl 1 rfl) dL_call_0 ?_
  refine r_tsIn (tgt := 194) C (by decide) 15 rfl (by decide) (by decide) rfl (by decide) dL_call_1 ?_
  refine r_aload_n C rfl (lv_at hl 0 rfl) dL_call_194 ?_
  refine r_iload_n C rfl (lv_at hl 2 rfl) dL_call_195 ?_
  refine r_iload_n C rfl (lv_at hl 3 rfl) dL_call_196 ?_
  refine r_sTw (rest := []) (c9 := 2) C K9 (k_L_tryHarm l hst g kt b sz ac TX F DIA KEP ISK T hJ hT x y hx hy s k hs hk) rfl s_RL_142 hP hl.1 rfl ⟨by decide, by decide⟩ rfl (Nat.le_of_ble_eq_true rfl) (Nat.le_of_ble_eq_true rfl) (Nat.le_refl _) (Nat.le_refl _) dL_call_197 rfl (fun H1 L1 p1 F1 => ?_)
  exact r_tret C rfl rfl rfl (G.call (fun _ h => h) F1) p1 (Nat.le_refl _) (Nat.le_refl _) dL_call_200
set_option maxHeartbeats 4000000 in
theorem k_call_16 (l : Launch) (hst : l.stackTraces = false) (g : Gt) (kt : Kt) (b : Nat) (sz ac : Int) (TX F DIA KEP ISK : Nat → Int) (T : Int) (hJ : J F z0 T) (hT : T ≤ 900000) (x : Int) (hx : Rg x) (s : Nat) (hs : 0 ≤ x → x = (s : Int)) (u0 u1 : Int) : TM l yL_call (.code yL_call cL_call 5 (some .int)) 9 156 1 g kt [.ref b, .int (iI 16), .int (iI x), .int (iI u0), .int (iI u1)] (CW g b sz ac TX F DIA KEP ISK) (tv [-9999001] (Kd (0 ≤ x ∧ x < F 0)) (gL F s (gN F s 61 0))) (Cdp b) (fun H => (((Kd (0 ≤ x ∧ x < F 0)) : Int) = 0 → CW g b sz ac TX F DIA KEP ISK H) ∧ (((Kd (0 ≤ x ∧ x < F 0)) : Int) ≠ 0 → CW g b sz ac TX F DIA KEP ISK H)) := by
  refine tm_of "LentRoomLaw" (by decide) rfl (Nat.le_of_ble_eq_true rfl) ?_
  intro zp ze zs zm za zb zt zc ls C K9 hP G hl
  have hl : lv_has ls 5 [(0, .ref b), (1, .int (iI 16)), (2, .int (iI x)), (3, .int (iI u0)), (4, .int (iI u1))] := hl
  refine r_iload_n C rfl (lv_at hl 1 rfl) dL_call_0 ?_
  refine r_tsIn (tgt := 201) C (by decide) 16 rfl (by decide) (by decide) rfl (by decide) dL_call_1 ?_
  refine r_aload_n C rfl (lv_at hl 0 rfl) dL_call_201 ?_
  refine r_iload_n C rfl (lv_at hl 2 rfl) dL_call_202 ?_
  refine r_sTw (rest := []) (c9 := 1) C K9 (k_L_tryVictim l hst g kt b sz ac TX F DIA KEP ISK T hJ hT x hx s hs) rfl s_RL_145 hP hl.1 rfl ⟨by decide, by decide⟩ rfl (Nat.le_of_ble_eq_true rfl) (Nat.le_of_ble_eq_true rfl) (Nat.le_refl _) (Nat.le_refl _) dL_call_203 rfl (fun H1 L1 p1 F1 => ?_)
  exact r_tret C rfl rfl rfl (G.call (fun _ h => h) F1) p1 (Nat.le_refl _) (Nat.le_refl _) dL_call_206
set_option maxHeartbeats 4000000 in
theorem k_call_17 (l : Launch) (hst : l.stackTraces = false) (g : Gt) (kt : Kt) (b : Nat) (sz ac : Int) (TX F DIA KEP ISK : Nat → Int) (T : Int) (hJ : J F z0 T) (hT : T ≤ 900000) (x : Int) (hx : Rg x) (s : Nat) (hs : 0 ≤ x → x = (s : Int)) (u0 u1 : Int) : TM l yL_call (.code yL_call cL_call 5 (some .int)) 9 154 1 g kt [.ref b, .int (iI 17), .int (iI x), .int (iI u0), .int (iI u1)] (CW g b sz ac TX F DIA KEP ISK) (tv [-9999001] (Kd (0 ≤ x ∧ x < F 0)) (mn (F (2 + 52 * s + 1)) (F (2 + 52 * s + 0) + free F))) (Cdp b) (fun H => (((Kd (0 ≤ x ∧ x < F 0)) : Int) = 0 → CW g b sz ac TX F DIA KEP ISK H) ∧ (((Kd (0 ≤ x ∧ x < F 0)) : Int) ≠ 0 → CW g b sz ac TX F DIA KEP ISK H)) := by
  refine tm_of "LentRoomLaw" (by decide) rfl (Nat.le_of_ble_eq_true rfl) ?_
  intro zp ze zs zm za zb zt zc ls C K9 hP G hl
  have hl : lv_has ls 5 [(0, .ref b), (1, .int (iI 17)), (2, .int (iI x)), (3, .int (iI u0)), (4, .int (iI u1))] := hl
  refine r_iload_n C rfl (lv_at hl 1 rfl) dL_call_0 ?_
  refine r_tsIn (tgt := 207) C (by decide) 17 rfl (by decide) (by decide) rfl (by decide) dL_call_1 ?_
  refine r_aload_n C rfl (lv_at hl 0 rfl) dL_call_207 ?_
  refine r_iload_n C rfl (lv_at hl 2 rfl) dL_call_208 ?_
  refine r_sTw (rest := []) (c9 := 1) C K9 (k_L_tryMost l hst g kt b sz ac TX F DIA KEP ISK T hJ hT x hx s hs) rfl s_RL_148 hP hl.1 rfl ⟨by decide, by decide⟩ rfl (Nat.le_of_ble_eq_true rfl) (Nat.le_of_ble_eq_true rfl) (Nat.le_refl _) (Nat.le_refl _) dL_call_209 rfl (fun H1 L1 p1 F1 => ?_)
  exact r_tret C rfl rfl rfl (G.call (fun _ h => h) F1) p1 (Nat.le_refl _) (Nat.le_refl _) dL_call_212
set_option maxHeartbeats 4000000 in
theorem k_call_18 (l : Launch) (hst : l.stackTraces = false) (g : Gt) (kt : Kt) (b : Nat) (sz ac : Int) (TX F DIA KEP ISK : Nat → Int) (T : Int) (hJ : J F z0 T) (hT : T ≤ 900000) (x : Int) (hx : Rg x) (s : Nat) (hs : 0 ≤ x → x = (s : Int)) (u0 u1 : Int) : TM l yL_call (.code yL_call cL_call 5 (some .int)) 9 154 1 g kt [.ref b, .int (iI 18), .int (iI x), .int (iI u0), .int (iI u1)] (CW g b sz ac TX F DIA KEP ISK) (tv [-9999001] (Kd (0 ≤ x ∧ x < F 0)) (F (2 + 52 * s + 0) - idle F s)) (Cdp b) (fun H => (((Kd (0 ≤ x ∧ x < F 0)) : Int) = 0 → CW g b sz ac TX F DIA KEP ISK H) ∧ (((Kd (0 ≤ x ∧ x < F 0)) : Int) ≠ 0 → CW g b sz ac TX F DIA KEP ISK H)) := by
  refine tm_of "LentRoomLaw" (by decide) rfl (Nat.le_of_ble_eq_true rfl) ?_
  intro zp ze zs zm za zb zt zc ls C K9 hP G hl
  have hl : lv_has ls 5 [(0, .ref b), (1, .int (iI 18)), (2, .int (iI x)), (3, .int (iI u0)), (4, .int (iI u1))] := hl
  refine r_iload_n C rfl (lv_at hl 1 rfl) dL_call_0 ?_
  refine r_tsIn (tgt := 213) C (by decide) 18 rfl (by decide) (by decide) rfl (by decide) dL_call_1 ?_
  refine r_aload_n C rfl (lv_at hl 0 rfl) dL_call_213 ?_
  refine r_iload_n C rfl (lv_at hl 2 rfl) dL_call_214 ?_
  refine r_sTw (rest := []) (c9 := 1) C K9 (k_L_tryLeast l hst g kt b sz ac TX F DIA KEP ISK T hJ hT x hx s hs) rfl s_RL_151 hP hl.1 rfl ⟨by decide, by decide⟩ rfl (Nat.le_of_ble_eq_true rfl) (Nat.le_of_ble_eq_true rfl) (Nat.le_refl _) (Nat.le_refl _) dL_call_215 rfl (fun H1 L1 p1 F1 => ?_)
  exact r_tret C rfl rfl rfl (G.call (fun _ h => h) F1) p1 (Nat.le_refl _) (Nat.le_refl _) dL_call_218
set_option maxHeartbeats 4000000 in
theorem k_call_19 (l : Launch) (hst : l.stackTraces = false) (g : Gt) (kt : Kt) (b : Nat) (sz ac : Int) (TX F DIA KEP ISK : Nat → Int) (T : Int) (hJ : J F z0 T) (hT : T ≤ 900000) (x : Int) (hx : Rg x) (k : Nat) (hk : 0 ≤ x → x = (k : Int)) (u0 u1 : Int) : TM l yL_call (.code yL_call cL_call 5 (some .int)) 9 153 1 g kt [.ref b, .int (iI 19), .int (iI x), .int (iI u0), .int (iI u1)] (CW g b sz ac TX F DIA KEP ISK) (tv [-9999001] (Kd (0 ≤ x ∧ x ≤ 1)) (tkA F)) (Cdp b) (fun H => (((Kd (0 ≤ x ∧ x ≤ 1)) : Int) = 0 → CW g b sz ac TX F DIA (cpy KEP F (262 * k) 0 262) (up ISK k 1) H) ∧ (((Kd (0 ≤ x ∧ x ≤ 1)) : Int) ≠ 0 → CW g b sz ac TX F DIA KEP ISK H)) := by
  refine tm_of "LentRoomLaw" (by decide) rfl (Nat.le_of_ble_eq_true rfl) ?_
  intro zp ze zs zm za zb zt zc ls C K9 hP G hl
  have hl : lv_has ls 5 [(0, .ref b), (1, .int (iI 19)), (2, .int (iI x)), (3, .int (iI u0)), (4, .int (iI u1))] := hl
  refine r_iload_n C rfl (lv_at hl 1 rfl) dL_call_0 ?_
  refine r_tsIn (tgt := 219) C (by decide) 19 rfl (by decide) (by decide) rfl (by decide) dL_call_1 ?_
  refine r_aload_n C rfl (lv_at hl 0 rfl) dL_call_219 ?_
  refine r_iload_n C rfl (lv_at hl 2 rfl) dL_call_220 ?_
  refine r_sTw (rest := []) (c9 := 1) C K9 (k_L_tryKeep l hst g kt b sz ac TX F DIA KEP ISK T hJ hT x hx k hk) rfl s_RL_154 hP hl.1 rfl ⟨by decide, by decide⟩ rfl (Nat.le_of_ble_eq_true rfl) (Nat.le_of_ble_eq_true rfl) (Nat.le_refl _) (Nat.le_refl _) dL_call_221 rfl (fun H1 L1 p1 F1 => ?_)
  exact r_tret C rfl rfl rfl (G.call (fun _ h => h) F1) p1 (Nat.le_refl _) (Nat.le_refl _) dL_call_224
set_option maxHeartbeats 4000000 in
theorem k_call_20 (l : Launch) (hst : l.stackTraces = false) (g : Gt) (kt : Kt) (b : Nat) (sz ac : Int) (TX F DIA KEP ISK : Nat → Int) (T : Int) (hJ : J F z0 T) (hT : T ≤ 900000) (x : Int) (hx : Rg x) (k : Nat) (hk : 0 ≤ x → x = (k : Int)) (hIS : ∀ k : Nat, k < 2 → 0 ≤ ISK k ∧ ISK k ≤ 1) (hJK : 0 ≤ x ∧ x ≤ 1 → ISK k ≠ 0 → J (fun i => KEP (262 * k + i)) z0 T) (u0 u1 : Int) : TM l yL_call (.code yL_call cL_call 5 (some .int)) 9 153 2 g kt [.ref b, .int (iI 20), .int (iI x), .int (iI u0), .int (iI u1)] (CW g b sz ac TX F DIA KEP ISK) (tv [-9999001, -9999003] (if ¬ (0 ≤ x ∧ x ≤ 1) then 1 else if ISK k = 0 then 2 else 0) (tkA (fun i => KEP (262 * k + i)))) (Cdp b) (fun H => (((if ¬ (0 ≤ x ∧ x ≤ 1) then 1 else if ISK k = 0 then 2 else 0) : Int) = 0 → CW g b sz 0 TX (fun i => KEP (262 * k + i)) DIA KEP ISK H) ∧ (((if ¬ (0 ≤ x ∧ x ≤ 1) then 1 else if ISK k = 0 then 2 else 0) : Int) ≠ 0 → CW g b sz ac TX F DIA KEP ISK H)) := by
  refine tm_of "LentRoomLaw" (by decide) rfl (Nat.le_of_ble_eq_true rfl) ?_
  intro zp ze zs zm za zb zt zc ls C K9 hP G hl
  have hl : lv_has ls 5 [(0, .ref b), (1, .int (iI 20)), (2, .int (iI x)), (3, .int (iI u0)), (4, .int (iI u1))] := hl
  refine r_iload_n C rfl (lv_at hl 1 rfl) dL_call_0 ?_
  refine r_tsOut (tgt := 225) C (by decide) (Or.inr (by decide)) (by decide) dL_call_1 ?_
  refine r_aload_n C rfl (lv_at hl 0 rfl) dL_call_225 ?_
  refine r_iload_n C rfl (lv_at hl 2 rfl) dL_call_226 ?_
  refine r_sTw (rest := []) (c9 := 2) C K9 (k_L_tryBack l hst g kt b sz ac TX F DIA KEP ISK T hJ hT x hx k hk hIS hJK) rfl s_RL_157 hP hl.1 rfl ⟨by decide, by decide⟩ rfl (Nat.le_of_ble_eq_true rfl) (Nat.le_of_ble_eq_true rfl) (Nat.le_refl _) (Nat.le_refl _) dL_call_227 rfl (fun H1 L1 p1 F1 => ?_)
  exact r_tret C rfl rfl rfl (G.call (fun _ h => h) F1) p1 (Nat.le_refl _) (Nat.le_refl _) dL_call_230

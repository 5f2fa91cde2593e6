section J4
variable {F dl : Nat → Int} {T : Int}
theorem J.Pg (h : J F dl T) {x : Nat} (hd : ∀ s : Nat, s < 5 → s ≠ x → dl s = 0) : Pg F x := fun s hs hx ht e => by
  have h1 := h.pg s hs
  have h2 := oa_none (F := F) (s := s) (t := 0) (n := 40) e
  have h3 : pgc F s = 0 := pgc_zero h2
  have := hd s hs hx
  omega
theorem inc_n (F : Nat → Int) {k j : Nat} (h : j ≠ k) : inc F k j = F j := up_n _ _ h
theorem dec_n (F : Nat → Int) {k j : Nat} (h : j ≠ k) : dec F k j = F j := up_n _ _ h
theorem idle_reh {b s : Nat} (hb : b < 5) (hs : s < 5) (hne : b ≠ s) (hl : lender F b s ≠ -1 → lender F b s < 5 ∧ -1 ≤ lender F b s) : idle (rehouse F b s) s = idle F s := by
  unfold rehouse
  split
  · unfold inc; rw [idle_up _ hb (by omega) hs]; simp [hne, show ¬ 2 = 7 + s by omega]
  · split
    · unfold inc; rw [idle_up _ hb (by omega) hs]; simp [show ¬ 3 = 7 + s by omega]
    · split
      · unfold lose inc
        rw [idle_up _ hb (by omega) hs]
        have e : idle (if least F b = -1 then F else up F (2 + 52 * b + (12 + (least F b).toNat)) 0) s = idle F s := by
          have := least_b F b
          split
          · rfl
          · rw [idle_up _ hb (by omega) hs]
            simp [show ¬ 12 + (least F b).toNat = 7 + s by omega, show ¬ 12 + (least F b).toNat = 0 by omega, show ¬ 12 + (least F b).toNat = 2 by omega]
        rw [e]
        simp [show ¬ 5 = 7 + s by omega]
      · rename_i hc
        have h1 := hl hc
        have h2 := lender_x b s hc
        unfold inc
        rw [idle_up _ hb (by omega) hs]
        simp [h2.2, show ¬ 7 + (lender F b s).toNat = 0 by omega, show ¬ 7 + (lender F b s).toNat = 2 by omega]
theorem J.rcl (h : J F dl T) (hT : T ≤ 990000) {s : Nat} (hs : s < 5) (hn : (s : Int) < F 0) (hp : 0 < S5 F (7 + s)) : J (rc1 F s) (fun i => dl i + one (mostOf F s) i) (T + 1) ∧ mostOf F s < 5 ∧ (mostOf F s : Int) < F 0 ∧ mostOf F s ≠ s ∧ 0 < F (2 + 52 * mostOf F s + (7 + s)) := by
  have hS : Sm F := h.S.m (by omega)
  obtain ⟨-, h2, h3⟩ := gb_most hS h.Z hs hp
  have hn5 := h.n
  have hne : mostOf F s ≠ s := fun e => by have h9 := h.G s hs; rw [e] at h3; omega
  exact ⟨(h.unlend (s := mostOf F s) (l := s) (by omega) h2 hn (Ne.symm hne) h3).cnt hs (by rw [dec_n _ (by omega)]; exact hn) (by omega), by omega, h2, hne, h3⟩
theorem idle_rc1 {s : Nat} (hs : s < 5) (hm : mostOf F s < 5) (hne : mostOf F s ≠ s) : idle (rc1 F s) s = idle F s + 1 := by
  unfold rc1 inc
  rw [idle_up _ hs (by omega) hs]
  unfold dec
  rw [idle_up _ hm (by omega) hs]
  simp [hne, show ¬ 4 = 7 + s by omega, show ¬ 7 + s = 0 by omega, show ¬ 7 + s = 2 by omega]
  omega
theorem rc1_n0 (s : Nat) : rc1 F s 0 = F 0 := rc1_0 F s
theorem J.rec (h : J F dl T) (hT : T ≤ 980000) {s : Nat} (hs : s < 5) (hn : (s : Int) < F 0) (hp : 0 < S5 F (7 + s)) (hd : ∀ b : Nat, b < 5 → b ≠ s → dl b = 0) : J (recall F s) dl (T + 3) ∧ idle (recall F s) s = idle F s + 1 ∧ recall F s 0 = F 0 := by
  have hS : Sm F := h.S.m (by omega)
  obtain ⟨h1, h2, h3, h4, h5⟩ := h.rcl (by omega) hs hn hp
  have e0 : rc1 F s 0 = F 0 := rc1_0 F s
  have hl := rc1_least hS hs h2 h4 h5 (h.Pg hd)
  refine ⟨((h1.reh (by omega) h2 (by rw [e0]; exact h3) hl).cg (fun i hi => by omega)).mono (by omega), ?_, ?_⟩
  · unfold recall
    have hlb := lender_b (h1.S.m (by omega)) (mostOf F s) s
    rw [idle_reh h2 hs h4 (fun _ => by omega), idle_rc1 hs h2 h4]
  · unfold recall
    rw [rehouse_0, e0]
theorem needR_5 {s : Nat} (e : needR F s = 5) : needF F s = F ∧ needL F s = -1 := by
  unfold needR at e
  unfold needF needL
  split at e
  · rename_i c; rw [if_pos c, if_pos c]; exact ⟨rfl, rfl⟩
  · rename_i c; rw [if_neg c, if_neg c]
    split at e
    · split at e <;> omega
    · rename_i c2; rw [if_neg c2, if_neg c2]
      split at e
      · omega
      · rename_i c3; rw [if_neg c3]
        split at e
        · rename_i c4; rw [if_pos c4]; exact ⟨rfl, rfl⟩
        · omega
theorem J.need (h : J F dl T) (hT : T ≤ 980000) {s : Nat} (hs : s < 5) (hn : (s : Int) < F 0) (hd : ∀ b : Nat, b < 5 → b ≠ s → dl b = 0) : J (needF F s) (fun i => dl i - (if needR F s = 5 then 0 else one s i)) (T + 4) ∧ needF F s 0 = F 0 := by
  have hS : Sm F := h.S.m (by omega)
  by_cases e5 : needR F s = 5
  · simp only [if_pos e5]
    rw [(needR_5 e5).1]
    exact ⟨(h.mono (by omega)).cg (fun i hi => by omega), rfl⟩
  · simp only [if_neg e5]
    unfold needR at e5
    unfold needF
    by_cases c : F (2 + 52 * s + 1) ≤ tk F s
    · rw [if_pos c] at e5; exact absurd rfl e5
    · rw [if_neg c] at e5 ⊢
      by_cases c2 : F (2 + 52 * s + 2) < F (2 + 52 * s + 0)
      · rw [if_pos c2]
        by_cases c3 : 0 < idle F s
        · rw [if_pos c3]
          exact ⟨(h.own hs hn c3).mono (by omega), inc_n _ (by omega)⟩
        · rw [if_neg c3]
          have hid : idle F s = F (2 + 52 * s + 0) - F (2 + 52 * s + 2) - S5 F (7 + s) := rfl
          have h0 := h.id s hs
          obtain ⟨g1, g2, g3⟩ := h.rec hT hs hn (by omega) hd
          exact ⟨(g1.own hs (by rw [g3]; exact hn) (by rw [g2]; omega)).mono (by omega), by rw [inc_n _ (by omega)]; exact g3⟩
      · rw [if_neg c2] at e5 ⊢
        by_cases c3 : 0 < free F
        · rw [if_pos c3]
          exact ⟨(h.com hs hn c3).mono (by omega), inc_n _ (by omega)⟩
        · rw [if_neg c3] at e5 ⊢
          by_cases c4 : lender F s s = -1
          · rw [if_pos c4] at e5; exact absurd rfl e5
          · rw [if_neg c4]
            have hlb := lender_b hS s s
            exact ⟨(h.lend hs hn (by omega) (lender_x s s c4).1 (lender_i hS s s c4)).mono (by omega), inc_n _ (by omega)⟩
theorem reh_pg {b s p : Nat} (hb : b < 5) (hs : s < 5) (hne : b ≠ s) (hp : p < 40) (hl : lender F b s ≠ -1 → lender F b s < 5 ∧ -1 ≤ lender F b s) : rehouse F b s (2 + 52 * s + (12 + p)) = F (2 + 52 * s + (12 + p)) := by
  unfold rehouse
  split
  · exact inc_n _ (by omega)
  · split
    · exact inc_n _ (by omega)
    · split
      · unfold lose
        rw [inc_n _ (by omega)]
        have := least_b F b
        split
        · rfl
        · exact up_n _ _ (by omega)
      · rename_i hc
        have := hl hc
        exact inc_n _ (by omega)
theorem need_pg (h : J F dl T) (hT : T ≤ 980000) {s p : Nat} (hs : s < 5) (hn : (s : Int) < F 0) (hp : p < 40) : needF F s (2 + 52 * s + (12 + p)) = F (2 + 52 * s + (12 + p)) := by
  have hS : Sm F := h.S.m (by omega)
  have hlb := lender_b hS s s
  unfold needF
  split
  · rfl
  · split
    · rename_i c2
      rw [inc_n _ (by omega)]
      split
      · rfl
      · rename_i c3
        have hid : idle F s = F (2 + 52 * s + 0) - F (2 + 52 * s + 2) - S5 F (7 + s) := rfl
        obtain ⟨h1, h2, h3, h4, h5⟩ := h.rcl (by omega) hs hn (by omega)
        have hlb2 := lender_b (h1.S.m (by omega)) (mostOf F s) s
        unfold recall
        rw [reh_pg h2 hs h4 hp (fun _ => by omega), rc1_page F hs hs h2 hp]
    · split
      · exact inc_n _ (by omega)
      · split
        · rfl
        · exact inc_n _ (by omega)
theorem J.tck (h : J F dl T) {s p : Nat} (hs : s < 5) (hn : (s : Int) < F 0) (hp : p < 40) : J (tick F s p) (fun i => dl i + (if s = i then 1 - pI (0 < F (2 + 52 * s + (12 + p))) else 0)) (T + 1) := by
  have h0 := h.S.1 1 (by omega)
  have e1 : inc F 1 1 = F 1 + 1 := up_s _ _ _
  have e0 : inc F 1 0 = F 0 := inc_n _ (by omega)
  refine (h.clock.page (v := inc F 1 1) (T' := T + 1) hs (by rw [e0]; exact hn) hp (by omega) ⟨by omega, by omega⟩ (fun _ q hq hne => ?_)).cg (fun i hi => ?_)
  · rw [inc_n F (k := 1) (j := 2 + 52 * s + (12 + q)) (by omega)]
    have := h.ck s q hs hq
    omega
  · rw [pI_t (by omega), inc_n _ (by omega)]
theorem tick_0 (s p : Nat) : tick F s p 0 = F 0 := by
  unfold tick
  rw [up_n _ _ (by omega), inc_n _ (by omega)]
end J4
section J5
variable {F : Nat → Int} {T : Int}
abbrev z0 : Nat → Int := fun _ => 0
theorem J.wr (h : J F z0 T) (hT : T ≤ 980000) {s p : Nat} (hs : s < 5) (hn : (s : Int) < F 0) (hp : p < 40) : J (wrF F s p) z0 (T + 6) ∧ wrF F s p 0 = F 0 := by
  unfold wrF
  by_cases c : 0 < F (2 + 52 * s + (12 + p))
  · rw [if_pos c]
    refine ⟨((h.tck hs hn hp).mono (by omega)).cg (fun i hi => ?_), tick_0 s p⟩
    rw [pI_t c]
    simp
  · rw [if_neg c]
    obtain ⟨g1, g2⟩ := h.need hT hs hn (fun b _ _ => rfl)
    by_cases e5 : needR F s = 5
    · rw [if_pos e5]
      simp only [if_pos e5] at g1
      exact ⟨((g1.cnt hs (by rw [g2]; exact hn) (by omega)).mono (by omega)).cg (fun i hi => by simp), by rw [inc_n _ (by omega)]; exact g2⟩
    · rw [if_neg e5]
      simp only [if_neg e5] at g1
      refine ⟨((g1.tck hs (by rw [g2]; exact hn) hp).mono (by omega)).cg (fun i hi => ?_), by rw [tick_0]; exact g2⟩
      rw [need_pg h hT hs hn hp, pI_f c]
      by_cases e : s = i
      · subst e; simp [one_s]
      · simp [e, one_n (Ne.symm e)]
theorem tr1_tk {s p : Nat} (hs : s < 5) (hp : p < 40) : tk (tr1 F s p) s = tk F s := by
  unfold tr1
  rw [tk_up _ hs (by omega) hs]
  simp [show ¬ 12 + p = 2 by omega, show ¬ 12 + p = 3 by omega, show ¬ 12 + p < 12 by omega]
theorem J.tr (h : J F z0 T) (hT : T ≤ 980000) {s p : Nat} (hs : s < 5) (hn : (s : Int) < F 0) (hp : p < 40) (hw : 0 < F (2 + 52 * s + (12 + p))) : J (trF F s p) z0 T ∧ trF F s p 0 = F 0 ∧ 0 < tk F s := by
  have hS : Sm F := h.S.m (by omega)
  have hn5 := h.n
  have ht : 0 < tk F s := by
    have h1 := h.pg s hs
    have h2 := pgc_pos hp hw
    have : z0 s = 0 := rfl
    omega
  have e0 : tr1 F s p 0 = F 0 := up_n _ _ (by omega)
  have g := h.page (v := 0) (T' := T) hs hn hp (by omega) ⟨by omega, (h.S.1 1 (by omega)).1⟩ (fun q => absurd q (Int.lt_irrefl 0))
  have hS1 : Sm (tr1 F s p) := g.S.m (by omega)
  have hC1 : Cz (tr1 F s p) := g.C
  have key : ∀ i : Nat, i < 5 → z0 i + (if s = i then pI ((0 : Int) < 0) - pI (0 < F (2 + 52 * s + (12 + p))) else 0) + one s i = z0 i := fun i hi => by
    rw [pI_f (by omega), pI_t hw]
    by_cases e : s = i
    · subst e; simp [one_s]
    · simp [e, one_n (Ne.symm e)]
  unfold trF unback
  by_cases c1 : 0 < borr (tr1 F s p) s
  · rw [if_pos c1]
    obtain ⟨-, h2, h3⟩ := gl_pos hS1 hC1 hs c1
    have hlt : (mostFrom (tr1 F s p) s : Int) < tr1 F s p 0 := by
      by_cases q : tr1 F s p 0 ≤ (mostFrom (tr1 F s p) s : Int)
      · have := hC1 s _ q hs h2
        omega
      · omega
    have hne : mostFrom (tr1 F s p) s ≠ s := fun e => by have h9 := g.G s hs; rw [e] at h3; exact absurd h9 (by unfold tr1 at h3; omega)
    exact ⟨(g.unlend (s := s) (l := mostFrom (tr1 F s p) s) hs (by show _ < tr1 F s p 0; rw [e0]; exact hn) hlt hne h3).cg key, by rw [dec_n _ (by omega)]; exact e0, ht⟩
  · rw [if_neg c1]
    by_cases c2 : 0 < tr1 F s p (2 + 52 * s + 3)
    · rw [if_pos c2]
      exact ⟨(g.uncom (s := s) hs (by show _ < tr1 F s p 0; rw [e0]; exact hn) c2).cg key, by rw [dec_n _ (by omega)]; exact e0, ht⟩
    · rw [if_neg c2]
      have c3 : 0 < tr1 F s p (2 + 52 * s + 2) := by
        have := tr1_tk (F := F) hs hp
        unfold tk at this
        have hb := borr_b hS1 s hs
        unfold tk at ht
        omega
      exact ⟨(g.unown (s := s) hs (by show _ < tr1 F s p 0; rw [e0]; exact hn) c3).cg key, by rw [dec_n _ (by omega)]; exact e0, ht⟩
/-- floor or ceiling of a space that there is -/
theorem J.bnd (h : J F z0 T) (hT : 60 ≤ T) {s k : Nat} {v : Int} (hs : s < 5) (hn : (s : Int) < F 0) (hk : k < 2) (hv : 0 ≤ v ∧ v ≤ 60) (h1 : k = 0 → okFl F s v) (h2 : k = 1 → okCe F s v) : J (up F (2 + 52 * s + k) v) z0 T ∧ up F (2 + 52 * s + k) v 0 = F 0 := by
  have e0 : up F (2 + 52 * s + k) v 0 = F 0 := up_n _ _ (by omega)
  have e1 : up F (2 + 52 * s + k) v 1 = F 1 := up_n _ _ (by omega)
  refine ⟨⟨h.S.up (by omega) ⟨hv.1, by omega⟩, fun s' k' h1 h2 h3 => ?_, fun s' l h1 h2 h3 => ?_, fun s' h1 => ?_, fun s' h3 h4 => ?_, fun s' h3 => ?_, ?_, fun s' h1 => ?_, fun s' p h1 h2 => ?_, fun s' p q h1 h2 h3 h4 h5 => ?_⟩, e0⟩
  · rw [e0] at h1; rw [up_n _ _ (by omega)]; exact h.Z s' k' h1 h2 h3
  · rw [e0] at h1; rw [up_n _ _ (by omega)]; exact h.C s' l h1 h2 h3
  · rw [up_n _ _ (by rcases Nat.lt_trichotomy s' s with q | q | q <;> omega)]; exact h.G s' h1
  · rw [e0] at h4
    have g := h.ce s' h3 h4
    by_cases e : s' = s
    · subst e
      by_cases ek : k = 0
      · subst ek
        rw [up_s, up_n _ _ (by omega)]
        have := (h1 rfl).2
        have := mn_b (F (2 + 52 * s' + 1)) (F (2 + 52 * s' + 0) + free F)
        omega
      · have ek : k = 1 := by omega
        subst ek
        rw [up_s, up_n _ _ (by omega)]
        have := h2 rfl
        unfold okCe at this
        omega
    · rw [up_n _ _ (by omega), up_n _ _ (by omega)]; exact g
  · have g := h.id s' h3
    rw [idle_up _ hs (by omega) h3]
    by_cases e : s = s' ∧ k = 0
    · obtain ⟨a, b⟩ := e
      subst a b
      have := (h1 rfl).1
      rw [if_pos ⟨rfl, rfl⟩, if_neg (by omega), if_neg (by omega)]
      omega
    · simp [e, show ¬ k = 2 by omega, show ¬ k = 7 + s' by omega]; exact g
  · have g := h.fr
    rw [free_up _ hs (by omega)]
    by_cases ek : k = 0
    · subst ek
      have := (h1 rfl).2
      have := mn_b (F (2 + 52 * s + 1)) (F (2 + 52 * s + 0) + free F)
      rw [if_pos (Or.inl rfl)]
      omega
    · simp [ek, show ¬ k = 3 by omega]; exact g
  · rw [pgc_up _ hs (by omega) h1, tk_up _ hs (by omega) h1, h.pg s' h1]
    simp [show ¬ 12 ≤ k by omega, show ¬ k = 2 by omega, show ¬ k = 3 by omega, show ¬ 7 ≤ k by omega]
  · rw [e1, up_n _ _ (by omega)]; exact h.ck s' p h1 h2
  · rw [up_n _ _ (by omega)] at h5 ⊢
    rw [up_n _ _ (by omega)]
    exact h.ds s' p q h1 h2 h3 h4 h5
theorem J.mk (h : J F z0 T) (hT : 60 ≤ T) {x y : Int} (ho : okMk F x y) : J (mkF F x y) z0 T ∧ mkF F x y 0 = F 0 + 1 := by
  obtain ⟨h0, h5, hf⟩ := ho
  have hn := h.n
  generalize hk : (F 0).toNat = n
  have hz := fun k (hk9 : k < 52) => h.Z n k (by omega) (by omega) hk9
  have e0 : mkF F x y 0 = F 0 + 1 := up_s _ _ _
  have ef : mkF F x y (2 + 52 * n + 0) = x := by unfold mkF; rw [hk, up_n _ _ (by omega), up_n _ _ (by omega), up_s]
  have ec : mkF F x y (2 + 52 * n + 1) = y := by unfold mkF; rw [hk, up_n _ _ (by omega), up_s]
  have e : ∀ j : Nat, j ≠ 0 → j ≠ 2 + 52 * n + 0 → j ≠ 2 + 52 * n + 1 → mkF F x y j = F j := fun j h1 h2 h3 => by unfold mkF; rw [hk, up_n _ _ h1, up_n _ _ h3, up_n _ _ h2]
  have es : ∀ k, 2 ≤ k → k < 52 → S5 (mkF F x y) k = S5 F k := fun k h1 h2 => sumI_cg (fun i hi => e _ (by omega) (by omega) (by omega))
  have es0 : S5 (mkF F x y) 0 = S5 F 0 + x := by
    unfold S5
    rw [sumI_one (f := fun s => F (2 + 52 * s + 0)) (s := n) (fun i hi => e _ (by omega) (by omega) (by omega)) (by omega), ef, hz 0 (by omega)]
    omega
  have eb : ∀ s, s < 5 → borr (mkF F x y) s = borr F s := fun s hs => sumI_cg (fun i hi => e _ (by omega) (by omega) (by omega))
  refine ⟨⟨⟨fun j hj => ?_, by rw [e0]; omega⟩, fun s k h1 h2 h3 => ?_, fun s l h1 h2 h3 => ?_, fun s h1 => ?_, fun s h1 h2 => ?_, fun s h1 => ?_, ?_, fun s h1 => ?_, fun s p h1 h2 => ?_, fun s p q h1 h2 h3 h4 h5 => ?_⟩, e0⟩
  · by_cases a : j = 0
    · subst a; rw [e0]; omega
    · by_cases b : j = 2 + 52 * n + 0
      · rw [b, ef]; omega
      · by_cases c : j = 2 + 52 * n + 1
        · rw [c, ec]; omega
        · rw [e j a b c]; exact h.S.1 j hj
  · rw [e0] at h1; rw [e _ (by omega) (by omega) (by omega)]; exact h.Z s k (by omega) h2 h3
  · rw [e0] at h1; rw [e _ (by omega) (by omega) (by omega)]; exact h.C s l (by omega) h2 h3
  · rw [e _ (by omega) (by omega) (by omega)]; exact h.G s h1
  · rw [e0] at h2
    by_cases a : s = n
    · subst a; rw [ef, ec]; omega
    · rw [e _ (by omega) (by omega) (by omega), e _ (by omega) (by omega) (by omega)]; exact h.ce s h1 (by omega)
  · have g := h.id s h1
    unfold idle at *
    rw [es _ (by omega) (by omega), e (2 + 52 * s + 2) (by omega) (by omega) (by omega)]
    by_cases a : s = n
    · subst a
      rw [ef]
      have := hz 0 (by omega)
      omega
    · rw [e _ (by omega) (by omega) (by omega)]; exact g
  · unfold free at *
    rw [es0, es 3 (by omega) (by omega)]
    omega
  · have g := h.pg s h1
    unfold pgc tk at *
    rw [eb s h1, e _ (by omega) (by omega) (by omega), e _ (by omega) (by omega) (by omega), sumI_cg (f' := fun p => pI (0 < F (2 + 52 * s + (12 + p)))) (fun p hp => by rw [e _ (by omega) (by omega) (by omega)])]
    exact g
  · rw [e _ (by omega) (by omega) (by omega), e _ (by omega) (by omega) (by omega)]; exact h.ck s p h1 h2
  · rw [e _ (by omega) (by omega) (by omega)] at h5 ⊢
    rw [e _ (by omega) (by omega) (by omega)]
    exact h.ds s p q h1 h2 h3 h4 h5
theorem J.zero (hT : 0 ≤ T) : J z0 z0 T := by
  refine ⟨⟨fun k _ => ⟨by simp, by simpa using hT⟩, by simp⟩, fun _ _ _ _ _ => rfl, fun _ _ _ _ _ => rfl, fun _ _ => rfl, fun s _ h => ?_, fun s _ => ?_, ?_, fun s _ => ?_, fun _ _ _ _ => ?_, fun _ _ _ _ _ _ _ h => ?_⟩
  · exact absurd h (by simp)
  · simp [idle, S5, sumI]
  · simp [free, S5, sumI]
  · simp only [tk, borr, pgc]
    rw [sumI_5]
    have : sumI (fun p => pI ((0 : Int) < 0)) 40 = 0 := by
      rw [sumI_cg (f' := fun _ => 0) (fun k _ => pI_f (by omega))]
      have : ∀ n, sumI (fun _ => 0) n = 0 := fun n => by
        induction n with
        | zero => rfl
        | succ n ih => simp only [sumI, ih]; rfl
      exact this 40
    simpa using this
  · simp
  · exact absurd h (by simp)
end J5

/-! ===== a script's command, a turn ===== -/
def tuX (a : Int) : Int := (((iL a).toUInt64 >>> 33).toNat : Nat)
theorem tuX_b (a : Int) : 0 ≤ tuX a ∧ tuX a < 2147483648 := by
  have h : ((iL a).toUInt64 >>> 33).toNat < 2147483648 := by
    rw [UInt64.toNat_shiftRight]
    have := (iL a).toUInt64.toNat_lt
    simp only [Nat.shiftRight_eq_div_pow]
    have e : ((33 : UInt64).toNat % 64) = 33 := rfl
    rw [e]
    omega
  unfold tuX
  omega
theorem tuX_v (a : Int) : ((iL a).toUInt64 >>> ((iI 33).toInt64.toUInt64 &&& Int64.toUInt64 63)).toInt64 = iL (tuX a) := by
  have e : ((iI 33).toInt64.toUInt64 &&& Int64.toUInt64 63) = 33 := by decide
  rw [e]
  unfold tuX
  generalize (iL a).toUInt64 >>> 33 = u
  apply Int64.toBitVec_inj.mp
  show u.toBitVec = BitVec.ofInt 64 (u.toNat : Int)
  rw [BitVec.ofInt_natCast]
  apply BitVec.eq_of_toNat_eq
  rw [BitVec.toNat_ofNat]
  exact (Nat.mod_eq_of_lt u.toNat_lt).symm
section ROWS4
variable {p : Program} {l : Launch} {e : Env} {R : Room} {s : State} {m : MethodId} {args : Array Value} {below : List Frame} {meth : Method} {c : Code} {H : Heap} {locs : List Loc} {cells slots : Nat} {Q : State → Prop}
variable {cc : ByteArray} {nL : Nat} {own : String} {ret : Option FieldType} {x : Cond} {g : Gt} {pc : Nat} {ls : Array Slot} {rest : List Value}
theorem r_lushr (C : Cx p s m args meth c cc nL own ret x g) {a : Int} (d : decode cc pc = .ok (.lushr, 1)) (k : W p l e R s m args below meth c H locs cells slots Q (F0 m (pc + 1) ls (.long (iL (tuX a)) :: rest))) : W p l e R s m args below meth c H locs cells slots Q (F0 m pc ls (.int (iI 33) :: .long (iL a) :: rest)) :=
  lv_lushr C.1 C.2.1 d (tuX_v a) k
end ROWS4
def coF (k x y v : Int) (F : Nat → Int) : Nat → Int :=
  if k = 1 then (if y = 0 ∧ x < F 0 ∧ v < 40 then wrF F x.toNat v.toNat else F)
  else if k = 2 then (if (y = 0 ∧ x < F 0 ∧ v < 40) ∧ 0 < F (2 + 52 * x.toNat + (12 + v.toNat)) then trF F x.toNat v.toNat else F)
  else if k = 3 then (if y = 0 ∧ whyFl F x x.toNat v = 0 then up F (2 + 52 * x.toNat + 0) v else F)
  else if k = 4 then (if y = 0 ∧ whyCe F x x.toNat v = 0 then up F (2 + 52 * x.toNat + 1) v else F)
  else if k = 5 then (if whyMk F (10 * x + y) v = 0 then mkF F (10 * x + y) v else F)
  else F
abbrev coD (k x y v : Int) (F : Nat → Int) : Prop :=
  (k = 1 ∧ (y = 0 ∧ x < F 0 ∧ v < 40) ∧ wrR F x.toNat v.toNat < 5) ∨
  (k = 2 ∧ (y = 0 ∧ x < F 0 ∧ v < 40) ∧ 0 < F (2 + 52 * x.toNat + (12 + v.toNat))) ∨
  (k = 3 ∧ y = 0 ∧ whyFl F x x.toNat v = 0) ∨
  (k = 4 ∧ y = 0 ∧ whyCe F x x.toNat v = 0) ∨
  (k = 5 ∧ whyMk F (10 * x + y) v = 0) ∨
  (k = 6 ∧ y = 0 ∧ x < F 0 ∧ v ≤ tk F x.toNat) ∨
  (k = 7 ∧ y = 0 ∧ x < F 0 ∧ v ≤ (gN F x.toNat 61 0 : Int)) ∨
  (k = 8 ∧ y = 0 ∧ x = 0 ∧ S5 F 5 ≤ v) ∨
  (k = 9 ∧ x < F 0 ∧ y < F 0 ∧ v ≤ F (2 + 52 * x.toNat + (7 + y.toNat)))
def coV (k x y v : Int) (F : Nat → Int) : Int := pI (coD k x y v F)
theorem coV_b (k x y v : Int) (F : Nat → Int) : 0 ≤ coV k x y v F ∧ coV k x y v F ≤ 1 := pI_rg _
theorem J.co {F : Nat → Int} {T : Int} (h : J F z0 T) (h60 : 60 ≤ T) (hT : T ≤ 960000) {k x y v : Int} (hx : 0 ≤ x) (hy : 0 ≤ y) (hv : 0 ≤ v) : J (coF k x y v F) z0 (T + 6) := by
  have hn := h.n
  have h0 : J F z0 (T + 6) := h.mono (by omega)
  unfold coF
  split
  · split
    · exact (h.wr (s := x.toNat) (p := v.toNat) (by omega) (by omega) (by omega) (by omega)).1
    · exact h0
  · split
    · split
      · rename_i h3
        exact (h.tr (s := x.toNat) (p := v.toNat) (by omega) (by omega) (by omega) (by omega) h3.2).1.mono (by omega)
      · exact h0
    · split
      · split
        · rename_i h2
          obtain ⟨g1, g2, g3⟩ := whyFl_0 h2.2
          exact (h.bnd (s := x.toNat) (k := 0) h60 (by omega) (by omega) (by omega) g2 (fun _ => g3) (fun q => absurd q (by omega))).1.mono (by omega)
        · exact h0
      · split
        · split
          · rename_i h2
            obtain ⟨g1, g3⟩ := whyCe_0 h2.2
            exact (h.bnd (s := x.toNat) (k := 1) h60 (by omega) (by omega) (by omega) ⟨hv, g3.2.2⟩ (fun q => absurd q (by omega)) (fun _ => g3)).1.mono (by omega)
          · exact h0
        · split
          · split
            · rename_i h2
              exact (h.mk h60 (whyMk_0 hn.2 h2)).1.mono (by omega)
            · exact h0
          · exact h0
def tuS (r : Int) (F : Nat → Int) : Int := r / 16 % (if F 0 = 0 then 1 else F 0)
theorem tuS_b (r : Int) (F : Nat → Int) (h : 0 ≤ F 0) : 0 ≤ tuS r F ∧ (F 0 = 0 → tuS r F = 0) ∧ (F 0 ≠ 0 → tuS r F < F 0) := by
  unfold tuS
  by_cases e : F 0 = 0
  · rw [if_pos e]
    omega
  · rw [if_neg e]
    exact ⟨Int.emod_nonneg _ e, fun q => absurd q e, fun _ => Int.emod_lt_of_pos _ (by omega)⟩
def tuF (r : Int) (F : Nat → Int) : Nat → Int :=
  if r % 16 = 0 then (if whyMk F (r / 16 % 16) (16 + r / 256 % 40) = 0 then mkF F (r / 16 % 16) (16 + r / 256 % 40) else F)
  else if r % 16 = 1 then (if whyFl F (tuS r F) (tuS r F).toNat (r / 128 % 20) = 0 then up F (2 + 52 * (tuS r F).toNat + 0) (r / 128 % 20) else F)
  else if tuS r F < F 0 then (if 3 < r % 16 then wrF F (tuS r F).toNat (r / 128 % 40).toNat else if 0 < F (2 + 52 * (tuS r F).toNat + (12 + (r / 128 % 40).toNat)) then trF F (tuS r F).toNat (r / 128 % 40).toNat else F)
  else F
theorem J.tu {F : Nat → Int} {T : Int} (h : J F z0 T) (h60 : 60 ≤ T) (hT : T ≤ 960000) (r : Int) : J (tuF r F) z0 (T + 6) := by
  have hn := h.n
  have h0 : J F z0 (T + 6) := h.mono (by omega)
  have hb := tuS_b r F hn.1
  unfold tuF
  split
  · split
    · rename_i h2
      exact (h.mk h60 (whyMk_0 hn.2 h2)).1.mono (by omega)
    · exact h0
  · split
    · split
      · rename_i h2
        obtain ⟨g1, g2, g3⟩ := whyFl_0 h2
        exact (h.bnd (s := (tuS r F).toNat) (k := 0) h60 (by omega) (by omega) (by omega) g2 (fun _ => g3) (fun q => absurd q (by omega))).1.mono (by omega)
      · exact h0
    · split
      · split
        · exact (h.wr (s := (tuS r F).toNat) (p := (r / 128 % 40).toNat) (by omega) (by omega) (by omega) (by omega)).1
        · split
          · rename_i h3
            exact (h.tr (s := (tuS r F).toNat) (p := (r / 128 % 40).toNat) (by omega) (by omega) (by omega) (by omega) h3).1.mono (by omega)
          · exact h0
      · exact h0
/-- the draws of a simulation -/
def siX (x : Int) : Nat → Int
  | 0 => x
  | k + 1 => siX x k * 6364136223846793005 + 1442695040888963407
def siF (x : Int) (F : Nat → Int) : Nat → (Nat → Int)
  | 0 => F
  | k + 1 => tuF (tuX (siX x (k + 1))) (siF x F k)
theorem J.si {F : Nat → Int} {T : Int} (h : J F z0 T) (h60 : 60 ≤ T) (x : Int) : ∀ k : Nat, T + 6 * k ≤ 960000 → J (siF x F k) z0 (T + 6 * k)
  | 0, _ => h.mono (by omega)
  | k + 1, hk => ((h.si h60 x k (by omega)).tu (by omega) (by omega) _).mono (by omega)
def pw : Nat → Int
  | 0 => 1
  | i + 1 => pw i * 100000
theorem pw_b {i : Nat} (h : i ≤ 3) : 1 ≤ pw i ∧ pw i ≤ 1000000000000000 := by
  rcases (by omega : i = 0 ∨ i = 1 ∨ i = 2 ∨ i = 3) with h | h | h | h <;> subst h <;> decide
theorem pw_d {k i : Nat} (h : i < k) : pw (k - i) / 100000 = pw (k - (i + 1)) := by
  rw [show k - i = (k - (i + 1)) + 1 by omega, pw, Int.mul_ediv_cancel _ (by decide)]
theorem pw_q {v p : Int} (hv : 0 ≤ v) (hp : 1 ≤ p) : 0 ≤ v / p ∧ v / p ≤ v := ⟨Int.ediv_nonneg hv (by omega), Int.ediv_le_self _ hv⟩
/-- the script's i-th command, of n -/
def sgG (v : Int) (n i : Nat) : Int := v / pw (n - (i + 1)) % 100000
def sgF (v : Int) (n : Nat) (F : Nat → Int) : Nat → (Nat → Int)
  | 0 => F
  | i + 1 => coF (sgG v n i / 10000) (sgG v n i / 1000 % 10) (sgG v n i / 100 % 10) (sgG v n i % 100) (sgF v n F i)
/-- the first command from i on that fails, of k more -/
def sgR (v : Int) (n : Nat) (F : Nat → Int) : Nat → Nat → Int
  | 0, _ => -1
  | k + 1, i => if coV (sgG v n i / 10000) (sgG v n i / 1000 % 10) (sgG v n i / 100 % 10) (sgG v n i % 100) (sgF v n F i) = 0 then (i : Int) else sgR v n F k (i + 1)
/-- the model's object and its two rows to try on -/
def mdC (g : Gt) (mb : Nat) (a0 a1 a2 : Int) (F : Nat → Int) (H : Heap) : Prop := ∃ M AP : Nat → Int, (∀ k, Rg (M k)) ∧ M 0 = a0 ∧ M 1 = a1 ∧ M 2 = a2 ∧ mdAt g mb M H ∧ aAt g (mb + 3) 262 F H ∧ aAt g (mb + 7) 262 AP H
theorem sgG_b (v : Int) (n i : Nat) : 0 ≤ sgG v n i ∧ sgG v n i < 100000 := by
  unfold sgG
  omega
theorem J.sg {F : Nat → Int} {T : Int} (h : J F z0 T) (h60 : 60 ≤ T) (v : Int) (n : Nat) : ∀ i : Nat, T + 6 * i ≤ 960000 → J (sgF v n F i) z0 (T + 6 * i)
  | 0, _ => h.mono (by omega)
  | i + 1, hk => by
    have hb := sgG_b v n i
    exact ((h.sg h60 v n i (by omega)).co (k := sgG v n i / 10000) (x := sgG v n i / 1000 % 10) (y := sgG v n i / 100 % 10) (v := sgG v n i % 100) (by omega) (by omega) (by omega) (by omega) (by omega)).mono (by omega)
theorem sgR_b (v : Int) (n : Nat) (F : Nat → Int) : ∀ k i : Nat, -1 ≤ sgR v n F k i ∧ sgR v n F k i < k + i
  | 0, i => by simp only [sgR]; omega
  | k + 1, i => by
    have := sgR_b v n F k (i + 1)
    simp only [sgR]
    split <;> omega

/-! ===== groups of five digits ===== -/
def wgV (v : Int) : Nat → Int
  | 0 => v
  | k + 1 => wgV v k / 100000
theorem wgV_b {v : Int} (h : 0 ≤ v) : ∀ k : Nat, 0 ≤ wgV v k ∧ wgV v k ≤ v
  | 0 => ⟨h, Int.le_refl _⟩
  | k + 1 => by
    have := wgV_b h k
    simp only [wgV]
    omega
theorem pw_pos : ∀ k : Nat, 0 < pw k
  | 0 => by decide
  | k + 1 => by
    have := pw_pos k
    simp only [pw]
    omega
theorem wgV_pw (v : Int) : ∀ k : Nat, wgV v k = v / pw k
  | 0 => by simp [wgV, pw]
  | k + 1 => by
    have := pw_pos k
    simp only [wgV, pw]
    rw [wgV_pw v k, Int.ediv_ediv, if_neg (fun q => by omega), Int.sub_zero]

/-! ===== the reference, I: codes, small methods ===== -/
def cd2 (P : Prop) (w : Nat) : Prop := (w = 1 ∧ ¬ P) ∨ (w = 0 ∧ P)
def cd3 (P1 P2 : Prop) (w : Nat) : Prop := (w = 1 ∧ ¬ P1) ∨ (w = 2 ∧ P1 ∧ ¬ P2) ∨ (w = 0 ∧ P1 ∧ P2)
def cd4 (P1 P2 P3 : Prop) (w : Nat) : Prop := (w = 1 ∧ ¬ P1) ∨ (w = 2 ∧ P1 ∧ ¬ P2) ∨ (w = 3 ∧ P1 ∧ P2 ∧ ¬ P3) ∨ (w = 0 ∧ P1 ∧ P2 ∧ P3)
theorem cd2_u {P : Prop} {a b : Nat} (h : cd2 P a) (h2 : cd2 P b) : a = b := by
  rcases h with ⟨rfl, h⟩ | ⟨rfl, h⟩ <;> rcases h2 with ⟨rfl, h2⟩ | ⟨rfl, h2⟩ <;> first | rfl | exact absurd h2 h | exact absurd h h2
theorem cd3_u {P1 P2 : Prop} {a b : Nat} (h : cd3 P1 P2 a) (h2 : cd3 P1 P2 b) : a = b := by
  rcases h with ⟨rfl, h⟩ | ⟨rfl, h, k⟩ | ⟨rfl, h, k⟩ <;> rcases h2 with ⟨rfl, h2⟩ | ⟨rfl, h2, k2⟩ | ⟨rfl, h2, k2⟩ <;> first | rfl | exact absurd h2 h | exact absurd h h2 | exact absurd k k2 | exact absurd k2 k
theorem cd4_u {P1 P2 P3 : Prop} {a b : Nat} (h : cd4 P1 P2 P3 a) (h2 : cd4 P1 P2 P3 b) : a = b := by
  rcases h with ⟨rfl, h⟩ | ⟨rfl, h, k⟩ | ⟨rfl, h, k, j⟩ | ⟨rfl, h, k, j⟩ <;> rcases h2 with ⟨rfl, h2⟩ | ⟨rfl, h2, k2⟩ | ⟨rfl, h2, k2, j2⟩ | ⟨rfl, h2, k2, j2⟩ <;> first | rfl | exact absurd h2 h | exact absurd h h2 | exact absurd k k2 | exact absurd k2 k | exact absurd j j2 | exact absurd j2 j
theorem cd_f {w : Nat} (h : bI (0 < nI w) = 0) (hw : w < 4) : w = 0 := by
  rcases (show w = 0 ∨ w = 1 ∨ w = 2 ∨ w = 3 by omega) with rfl | rfl | rfl | rfl
  · rfl
  all_goals exact absurd h (by decide)
theorem cd_t {w : Nat} (h : ¬ bI (0 < nI w) = 0) : w ≠ 0 := fun e => h (by subst e; decide)
theorem cd2_f {P : Prop} {w : Nat} (hc : cd2 P w) (h : bI (0 < nI w) = 0) : w = 0 ∧ P := by
  rcases hc with ⟨rfl, h1⟩ | ⟨rfl, h1⟩
  · exact absurd h (by decide)
  · exact ⟨rfl, h1⟩
theorem cd3_f {P1 P2 : Prop} {w : Nat} (hc : cd3 P1 P2 w) (h : bI (0 < nI w) = 0) : w = 0 ∧ P1 ∧ P2 := by
  rcases hc with ⟨rfl, h1⟩ | ⟨rfl, h1⟩ | ⟨rfl, h1⟩
  · exact absurd h (by decide)
  · exact absurd h (by decide)
  · exact ⟨rfl, h1⟩
theorem cd4_f {P1 P2 P3 : Prop} {w : Nat} (hc : cd4 P1 P2 P3 w) (h : bI (0 < nI w) = 0) : w = 0 ∧ P1 ∧ P2 ∧ P3 := by
  rcases hc with ⟨rfl, h1⟩ | ⟨rfl, h1⟩ | ⟨rfl, h1⟩ | ⟨rfl, h1⟩
  · exact absurd h (by decide)
  · exact absurd h (by decide)
  · exact absurd h (by decide)
  · exact ⟨rfl, h1⟩
theorem gin_t {x : Int32} {N : Nat} (h : ¬ bI (0 ≤ x ∧ x < nI N) = 0) (hN : N < 2 ^ 31) : gin x N := (gin_iff hN).mp (Classical.byContradiction fun q => h (bI_0.mpr q))
theorem gin_f {x : Int32} {N : Nat} (h : bI (0 ≤ x ∧ x < nI N) = 0) (hN : N < 2 ^ 31) : ¬ gin x N := fun q => bI_0.mp h ((gin_iff hN).mpr q)
theorem gct_t {x : Int32} (h : ¬ bI (-1 ≤ x ∧ x ≤ nI 9999) = 0) : gct x := gct_iff.mp (Classical.byContradiction fun q => h (bI_0.mpr q))
theorem gct_f {x : Int32} (h : bI (-1 ≤ x ∧ x ≤ nI 9999) = 0) : ¬ gct x := fun q => bI_0.mp h (gct_iff.mpr q)

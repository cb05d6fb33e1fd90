/-! ===== the reference, VI: builds ===== -/
/-- the numbers of the object -/
def iV (I : Nat → Int32) (n : Nat) (go co m d ly hi mi : Int32) : Prop := I 7 = nI n ∧ I 17 = go ∧ I 18 = co ∧ I 19 = m ∧ I 20 = d ∧ I 24 = ly ∧ I 25 = hi ∧ I 26 = mi
def begA (A1 A : Nat → Nat → Int32) (i q : Nat) : Nat → Nat → Int32 := fun k1 j1 => if k1 = 21 ∧ j1 < q then A 4 (10 * i + j1) else if k1 = 22 ∧ j1 < q then A 5 (10 * i + j1) else if k1 = 23 ∧ j1 < q then A 6 (10 * i + j1) else A1 k1 j1
theorem begA_0 {A1 A : Nat → Nat → Int32} {i : Nat} : begA A1 A i 0 = A1 := by
  funext k1 j1
  simp [begA]
theorem begA_s {A1 A : Nat → Nat → Int32} {i q : Nat} {x y z : Int32} (hx : x = A 4 (10 * i + q)) (hy : y = A 5 (10 * i + q)) (hz : z = A 6 (10 * i + q)) : mU (mU (mU (begA A1 A i q) 21 q x) 22 q y) 23 q z = begA A1 A i (q + 1) := by
  funext k1 j1
  subst hx hy hz
  by_cases e : j1 = q
  · subst e
    by_cases h1 : k1 = 21
    · subst h1; simp [mU, begA]
    · by_cases h2 : k1 = 22
      · subst h2; simp [mU, begA]
      · by_cases h3 : k1 = 23
        · subst h3; simp [mU, begA]
        · simp [mU, begA, h1, h2, h3]
  · have hl : j1 < q + 1 ↔ j1 < q := by omega
    simp [mU, begA, e, hl]
theorem begA_k {A1 A : Nat → Nat → Int32} {i q k1 j1 : Nat} (h : k1 ≠ 21) (h2 : k1 ≠ 22) (h3 : k1 ≠ 23) : begA A1 A i q k1 j1 = A1 k1 j1 := by simp [begA, h, h2, h3]
theorem rootR_k {A A1 : Nat → Nat → Int32} {n b k1 n1 : Nat} (h : rootR A n b k1 n1 A1) {k j : Nat} (h8 : k ≠ 8) (h9 : k ≠ 9) (h10 : k ≠ 10) (h11 : k ≠ 11) (h12 : k ≠ 12) : A1 k j = A k j := by
  rcases h with ⟨-, -, rfl⟩ | ⟨-, -, -, rfl⟩
  · rfl
  · unfold rtA mkA
    rw [upR_k h10, mU_k h12, mU_k h8, mU_k h9, upR_k h11, upR_k h10]
/-- an instruction fails on layer k -/
def failP (A : Nat → Nat → Int32) (S : Nat → Nat → Int32) (k : Nat) (what a : Int32) : Prop := (what = nI 0 ∧ ∃ j, j < 8 ∧ a = nI j ∧ A 0 j = -1) ∨ ((what = nI 2 ∨ what = nI 3) ∧ ∃ q, q < 12 ∧ a = nI q ∧ S k q = -1)
theorem vIns_8 {k a b : Int32} (h : vIns k a b) (e : k = nI 0) : gin a 8 := by
  subst e
  rcases h with ⟨-, h, -⟩ | ⟨h, -⟩ | ⟨h, -⟩ | ⟨h, -⟩ | ⟨h, -⟩
  · exact h
  all_goals exact absurd h (by decide)
theorem vIns_12 {k a b : Int32} (h : vIns k a b) (e : k = nI 2 ∨ k = nI 3) : gin a 12 := by
  rcases e with e | e <;> subst e <;> rcases h with ⟨h, -⟩ | ⟨h, -⟩ | ⟨h, h2, -⟩ | ⟨h, h2⟩ | ⟨h, -⟩ <;> first | exact h2 | exact absurd h (by decide)
theorem fp_n0 {A S : Nat → Nat → Int32} {k j : Nat} {what : Int32} (h : what = nI 0) (hj : j < 8) (h1 : ¬ A 0 j = -1) : ¬ failP A S k what (nI j) := by
  rintro (⟨-, i, hi, e, h2⟩ | ⟨h2, -⟩)
  · have := gn_inj (by omega) (by omega) e
    subst this
    exact h1 h2
  · rcases h2 with h2 | h2 <;> exact absurd (h.symm.trans h2) (by decide)
theorem fp_n2 {A S : Nat → Nat → Int32} {k q : Nat} {what : Int32} (h : what = nI 2 ∨ what = nI 3) (hq : q < 12) (h1 : ¬ S k q = -1) : ¬ failP A S k what (nI q) := by
  rintro (⟨h2, -⟩ | ⟨-, i, hi, e, h2⟩)
  · rcases h with h | h <;> exact absurd (h.symm.trans h2) (by decide)
  · have := gn_inj (by omega) (by omega) e
    subst this
    exact h1 h2
theorem fp_n1 {A S : Nat → Nat → Int32} {k : Nat} {what a : Int32} (h0 : ¬ what = nI 0) (h2 : ¬ what = nI 2) (h3 : ¬ what = nI 3) : ¬ failP A S k what a := by
  rintro (⟨h, -⟩ | ⟨h | h, -⟩)
  · exact h0 h
  · exact h2 h
  · exact h3 h
def mdP (A : Nat → Nat → Int32) (k0 : Nat) (what a b its : Int32) (k : Nat) : Prop := A 8 k = 0 ∧ A 12 k = what ∧ A 9 k = nI k0 ∧ A 13 k = a ∧ A 14 k = b ∧ A 15 k = its

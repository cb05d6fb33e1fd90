/-! ===== the reference, IX: drop ===== -/
def drpC (A : Nat → Nat → Int32) (r y : Int32) : Prop := ∃ i m j, i < 4 ∧ r = nI i ∧ A 3 i = nI m ∧ m ≤ 10 ∧ j < m ∧ y = nI j
def drA (A : Nat → Nat → Int32) (i m j q : Nat) : Nat → Nat → Int32 := fun k1 j1 => if (k1 = 4 ∨ k1 = 5 ∨ k1 = 6) ∧ 10 * i + j ≤ j1 ∧ j1 < 10 * i + j + q then A k1 (j1 + 1) else mU A 3 i (nI (m - 1)) k1 j1
theorem drA_0 {A : Nat → Nat → Int32} {i m j : Nat} : drA A i m j 0 = mU A 3 i (nI (m - 1)) := by
  funext k1 j1
  exact if_neg (by omega)
theorem drA_o {A : Nat → Nat → Int32} {i m j q k1 j1 : Nat} (h3 : k1 ≠ 3) (h : 10 * i + j + q ≤ j1) : drA A i m j q k1 j1 = A k1 j1 := (if_neg (by omega)).trans (mU_k h3)
theorem drA_3 {A : Nat → Nat → Int32} {i m j q : Nat} : drA A i m j q 3 i = nI (m - 1) := (if_neg (by omega)).trans mU_s
theorem drA_s {A : Nat → Nat → Int32} {i m j q : Nat} {x y z : Int32} (hx : x = A 4 (10 * i + j + q + 1)) (hy : y = A 5 (10 * i + j + q + 1)) (hz : z = A 6 (10 * i + j + q + 1)) : mU (mU (mU (drA A i m j q) 4 (10 * i + j + q) x) 5 (10 * i + j + q) y) 6 (10 * i + j + q) z = drA A i m j (q + 1) := by
  funext k1 j1
  subst hx hy hz
  by_cases e : j1 = 10 * i + j + q
  · subst e
    by_cases h1 : k1 = 4
    · subst h1
      rw [mU_k (by decide), mU_k (by decide), mU_s]
      exact (if_pos ⟨by decide, by omega, by omega⟩).symm
    · by_cases h2 : k1 = 5
      · subst h2
        rw [mU_k (by decide), mU_s]
        exact (if_pos ⟨by decide, by omega, by omega⟩).symm
      · by_cases h3 : k1 = 6
        · subst h3
          rw [mU_s]
          exact (if_pos ⟨by decide, by omega, by omega⟩).symm
        · rw [mU_k h3, mU_k h2, mU_k h1]
          exact (if_neg (by omega)).trans (if_neg (by omega)).symm
  · rw [mU_j e, mU_j e, mU_j e]
    unfold drA
    by_cases h : (k1 = 4 ∨ k1 = 5 ∨ k1 = 6) ∧ 10 * i + j ≤ j1 ∧ j1 < 10 * i + j + q
    · rw [if_pos h, if_pos ⟨h.1, h.2.1, by omega⟩]
    · rw [if_neg h, if_neg (fun z => h ⟨z.1, z.2.1, by omega⟩)]
/-! ===== clean builds ===== -/
def stc (A : Nat → Nat → Int32) (c u : Nat → Int32) : Nat → Nat → Int32 := fun k j => if k = 28 then c j else if k = 29 then u j else A k j
theorem stc_id {A : Nat → Nat → Int32} : stc A (A 28) (A 29) = A := by
  funext k j
  by_cases h : k = 28
  · subst h; rfl
  · by_cases h2 : k = 29
    · subst h2; rfl
    · simp [stc, h, h2]
theorem stc_k {A : Nat → Nat → Int32} {c u : Nat → Int32} {k j : Nat} (h : k < 28) : stc A c u k j = A k j := by
  simp [stc, show k ≠ 28 by omega, show k ≠ 29 by omega]
theorem stc_c {A : Nat → Nat → Int32} {c u : Nat → Int32} {q : Nat} {x : Int32} : mU (stc A c u) 28 q x = stc A (upd c q x) u := by
  funext k j
  by_cases h : k = 28
  · subst h; simp [mU, stc, upd]
  · simp [mU, stc, h]
theorem stc_u {A : Nat → Nat → Int32} {c u : Nat → Int32} {q : Nat} {x : Int32} : mU (stc A c u) 29 q x = stc A c (upd u q x) := by
  funext k j
  by_cases h : k = 29
  · subst h; simp [mU, stc, upd]
  · by_cases h2 : k = 28
    · subst h2; simp [mU, stc]
    · simp [mU, stc, h, h2]
def cfP (F c : Nat → Int32) (what a : Int32) : Prop := (what = nI 0 ∧ ∃ j, j < 8 ∧ a = nI j ∧ F j = -1) ∨ ((what = nI 2 ∨ what = nI 3) ∧ ∃ q, q < 12 ∧ a = nI q ∧ c q = -1)
/-- an instruction, carried out on what is shown (c) and the variables (u) -/
def clR (F c u : Nat → Int32) (what a b : Int32) (w : Nat) (c1 u1 : Nat → Int32) : Prop :=
  (w = 0 ∧ cfP F c what a ∧ c1 = c ∧ u1 = u) ∨ (w = 1 ∧ ¬ cfP F c what a ∧
  ((what = nI 0 ∧ ∃ j q, j < 8 ∧ q < 12 ∧ a = nI j ∧ b = nI q ∧ c1 = upd c q (F j) ∧ u1 = u) ∨
   (what = nI 1 ∧ ∃ q v, q < 12 ∧ v < 4 ∧ a = nI q ∧ b = nI v ∧ c1 = upd c q (runV (c q) (u v)) ∧ u1 = u) ∨
   (what = nI 2 ∧ ∃ q r, q < 12 ∧ r < 12 ∧ q ≠ r ∧ a = nI q ∧ b = nI r ∧ c1 = upd (upd c q (-1)) r (c q) ∧ u1 = u) ∨
   (what = nI 3 ∧ ∃ q, q < 12 ∧ a = nI q ∧ c1 = upd (upd c q (-1)) q (-1) ∧ u1 = u) ∨
   (what = nI 4 ∧ ∃ v, v < 4 ∧ a = nI v ∧ c1 = c ∧ u1 = upd u v b)))
theorem cf_n0 {F c : Nat → Int32} {j : Nat} (hj : j < 8) (h1 : ¬ F j = -1) : ¬ cfP F c (nI 0) (nI j) := by
  rintro (⟨-, i, hi, e, h2⟩ | ⟨h2, -⟩)
  · have := gn_inj (by omega) (by omega) e
    subst this
    exact h1 h2
  · rcases h2 with h2 | h2 <;> exact absurd h2 (by decide)
theorem cf_n2 {F c : Nat → Int32} {q : Nat} {what : Int32} (h : what = nI 2 ∨ what = nI 3) (hq : q < 12) (h1 : ¬ c q = -1) : ¬ cfP F c what (nI q) := by
  rintro (⟨h2, -⟩ | ⟨-, i, hi, e, h2⟩)
  · rcases h with h | h <;> exact absurd (h.symm.trans h2) (by decide)
  · have := gn_inj (by omega) (by omega) e
    subst this
    exact h1 h2
theorem cf_n1 {F c : Nat → Int32} {what a : Int32} (h0 : ¬ what = nI 0) (h2 : ¬ what = nI 2) (h3 : ¬ what = nI 3) : ¬ cfP F c what a := by
  rintro (⟨h, -⟩ | ⟨h | h, -⟩)
  · exact h0 h
  · exact h2 h
  · exact h3 h

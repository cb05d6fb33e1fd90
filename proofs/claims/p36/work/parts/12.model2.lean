/-! ===== the reference, II: recipes, answers out of numbers, tags ===== -/
/-- the numbers of an instruction -/
def vIns (k a b : Int32) : Prop := (k = nI 0 ∧ gin a 8 ∧ gin b 12) ∨ (k = nI 1 ∧ gin a 12 ∧ gin b 4) ∨ (k = nI 2 ∧ gin a 12 ∧ gin b 12 ∧ a ≠ b) ∨ (k = nI 3 ∧ gin a 12) ∨ (k = nI 4 ∧ gin a 4 ∧ gin b 1000)
def vRec (A : Nat → Nat → Int32) : Prop := ∀ r, r < 4 → ∃ m b, m ≤ 10 ∧ b < 3 ∧ A 3 r = nI m ∧ A 2 r = nI b ∧ ∀ i, i < m → vIns (A 4 (10 * r + i)) (A 5 (10 * r + i)) (A 6 (10 * r + i))
def addA (A : Nat → Nat → Int32) (i m : Nat) (what a b : Int32) : Nat → Nat → Int32 := mU (mU (mU (mU A 4 (10 * i + m) what) 5 (10 * i + m) a) 6 (10 * i + m) b) 3 i (nI (m + 1))
def addsR (A : Nat → Nat → Int32) (x what a b : Int32) (q u : Nat) (r : Int32) (A1 : Nat → Nat → Int32) (w : Nat) : Prop := (q ≠ 0 ∧ w = q ∧ A1 = A) ∨ (q = 0 ∧ ∃ i m, i < 4 ∧ x = nI i ∧ A 3 i = nI m ∧ m ≤ 10 ∧ ((m = 10 ∧ w = u ∧ A1 = A) ∨ (m < 10 ∧ w = 0 ∧ r = nI (m + 1) ∧ A1 = addA A i m what a b)))
def addOK (A : Nat → Nat → Int32) (x what a b r : Int32) (A1 : Nat → Nat → Int32) : Prop := ∃ i m, i < 4 ∧ x = nI i ∧ A 3 i = nI m ∧ m < 10 ∧ r = nI (m + 1) ∧ A1 = addA A i m what a b
def notFull (A : Nat → Nat → Int32) (x : Int32) : Prop := ∀ i, i < 4 → x = nI i → A 3 i ≠ nI 10
theorem adds_nf {A : Nat → Nat → Int32} {i m : Nat} (hi : i < 4) (e : A 3 i = nI m) (hm : m < 10) : notFull A (nI i) := by
  intro j hj h h2
  have := gn_inj (by omega) (by omega) h
  subst this
  rw [e] at h2
  have := gn_inj (by omega) (by omega) h2
  omega
theorem adds_fl {A : Nat → Nat → Int32} {i m : Nat} (hi : i < 4) (e : A 3 i = nI m) (hm : m = 10) : ¬ notFull A (nI i) := fun h => h i hi rfl (by rw [e, hm])
theorem adds3 {c : Prop} {A A1 : Nat → Nat → Int32} {x what a b r : Int32} {q w : Nat} (hq : (q = 1 ∧ ¬ c) ∨ (q = 0 ∧ c)) (h : addsR A x what a b q 2 r A1 w) : cd3 c (notFull A x) w ∧ (w = 0 → addOK A x what a b r A1) ∧ (w ≠ 0 → A1 = A) := by
  rcases hq with ⟨rfl, hc⟩ | ⟨rfl, hc⟩
  · rcases h with ⟨-, rfl, h⟩ | ⟨h, -⟩
    · exact ⟨Or.inl ⟨rfl, hc⟩, fun h => absurd h (by decide), fun _ => h⟩
    · cases h
  · rcases h with ⟨h, -⟩ | ⟨-, i, m, hi, rfl, e, hm, ⟨h1, rfl, h2⟩ | ⟨h1, rfl, h2⟩⟩
    · exact absurd rfl h
    · exact ⟨Or.inr (Or.inl ⟨rfl, hc, adds_fl hi e h1⟩), fun h => absurd h (by decide), fun _ => h2⟩
    · exact ⟨Or.inr (Or.inr ⟨rfl, hc, adds_nf hi e h1⟩), fun _ => ⟨i, m, hi, rfl, e, h1, h2⟩, fun h => absurd rfl h⟩
theorem adds4 {c c2 : Prop} {A A1 : Nat → Nat → Int32} {x what a b r : Int32} {q w : Nat} (hq : (q = 1 ∧ ¬ c) ∨ (q = 2 ∧ c ∧ ¬ c2) ∨ (q = 0 ∧ c ∧ c2)) (h : addsR A x what a b q 3 r A1 w) : cd4 c c2 (notFull A x) w ∧ (w = 0 → addOK A x what a b r A1) ∧ (w ≠ 0 → A1 = A) := by
  rcases hq with ⟨rfl, hc⟩ | ⟨rfl, hc, hc2⟩ | ⟨rfl, hc, hc2⟩
  · rcases h with ⟨-, rfl, h⟩ | ⟨h, -⟩
    · exact ⟨Or.inl ⟨rfl, hc⟩, fun h => absurd h (by decide), fun _ => h⟩
    · cases h
  · rcases h with ⟨-, rfl, h⟩ | ⟨h, -⟩
    · exact ⟨Or.inr (Or.inl ⟨rfl, hc, hc2⟩), fun h => absurd h (by decide), fun _ => h⟩
    · cases h
  · rcases h with ⟨h, -⟩ | ⟨-, i, m, hi, rfl, e, hm, ⟨h1, rfl, h2⟩ | ⟨h1, rfl, h2⟩⟩
    · exact absurd rfl h
    · exact ⟨Or.inr (Or.inr (Or.inl ⟨rfl, hc, hc2, adds_fl hi e h1⟩)), fun h => absurd h (by decide), fun _ => h2⟩
    · exact ⟨Or.inr (Or.inr (Or.inr ⟨rfl, hc, hc2, adds_nf hi e h1⟩)), fun _ => ⟨i, m, hi, rfl, e, h1, h2⟩, fun h => absurd rfl h⟩
def cdb (P : Prop) (w : Nat) : Prop := (w = 1 ∧ P) ∨ (w = 0 ∧ ¬ P)
theorem cdb_f {P : Prop} {w : Nat} (hc : cdb P w) (h : nI w = 0) : ¬ P := by
  rcases hc with ⟨rfl, h1⟩ | ⟨rfl, h1⟩
  · exact absurd h (by decide)
  · exact h1
theorem cdb_t {P : Prop} {w : Nat} (hc : cdb P w) (h : ¬ nI w = 0) : P := by
  rcases hc with ⟨rfl, h1⟩ | ⟨rfl, h1⟩
  · exact h1
  · exact absurd rfl h
theorem gn_le0 {q : Nat} (h : nI q ≤ 0) (hq : q < 2 ^ 31) : q = 0 := by
  have e0 : (0 : Int32).toInt = 0 := by decide
  rw [gn_le, nI_toInt hq, e0] at h
  omega
def resV (A : Nat → Nat → Int32) (I : Nat → Int32) : Int32 := if I 18 ≠ 0 ∧ A 8 (I 24).toNatClampNeg = 0 then I 24 else -1
def slV (I : Nat → Int32) : Int32 := if I 17 ≠ 0 then I 19 - I 20 else 0

theorem start_u {cy : Nat → ClassId} {bk : Nat → Nat} {n : Nat} {PR PL : Nat → Nat} {S A : Nat → Nat → Int32} {I : Nat → Int32} {x : Int32} {v : Option Value} {L : List Nat} {f : gF} (h : ∃ i, i < 4 ∧ x = nI i ∧ (I 17 = 0 ∧ n < 400) ∧ stQ cy bk n PR PL S A I i v L f) : uQ cy (bk 0) (fun b A1 I1 => ∃ w, cd3 (gin x 4) (I 17 = 0 ∧ n < 400) w ∧ (w ≠ 0 → A1 = A ∧ I1 = va_up I 27 (nI w)) ∧ (w = 0 → ∃ i b9 m k1 n1 A2, i < 4 ∧ x = nI i ∧ A 2 i = nI b9 ∧ b9 < 3 ∧ A 3 i = nI m ∧ m ≤ 10 ∧ rootR A n b9 k1 n1 A2 ∧ A1 = begA A2 A i m ∧ b = nI k1 ∧ iV I1 n1 (nI (if m = 0 then 0 else 1)) (nI (if m = 0 then 1 else 0)) (nI m) (nI 0) (nI k1) (I 25) (I 26) ∧ I1 27 = nI 0)) v L f := by
  intro b A1 I1 hr
  obtain ⟨i, hi, rfl, hg, b0, m, k1, n1, A2, e2, hb, e3, hm, hroot, hn1, rfl, hall⟩ := h
  obtain ⟨w, hw, -, h0⟩ := hr
  have e9 := cd3_0 hw ⟨i, hi, rfl⟩ hg
  subst e9
  obtain ⟨i2, b2, m2, k2, n2, A22, hi2, f1, f2, f3, f4, f5, hroot2, f6, f7, f8, f9⟩ := h0 rfl
  have d1 := gn_inj (by omega) (by omega) f1
  subst d1
  have d2 := gn_inj (by omega) (by omega) (f2.symm.trans e2)
  subst d2
  have d3 := gn_inj (by omega) (by omega) (f4.symm.trans e3)
  subst d3
  obtain ⟨r1, r2, r3⟩ := rootR_u hroot2 hroot
  subst r1
  subst r2
  subst r3
  obtain ⟨bk1, X1, Is1, PR1, PL1, S1, hb1, hR1, hB1, hC1, -⟩ := hall I1 f8
  exact ⟨f9, by rw [f7], bk1, n2, X1, Is1, PR1, PL1, S1, hb1, by rw [f6]; exact hR1, hB1, by rw [f6]; exact hC1⟩
theorem start_x {n : Nat} {A : Nat → Nat → Int32} {I : Nat → Int32} {x : Int32} {E : String} (h : (E = xI ∧ ¬ gin x 4) ∨ (E = xS ∧ gin x 4 ∧ ¬ (I 17 = 0 ∧ n < 400))) : uX [xI, xS] A I (fun b A1 I1 => ∃ w, cd3 (gin x 4) (I 17 = 0 ∧ n < 400) w ∧ (w ≠ 0 → A1 = A ∧ I1 = va_up I 27 (nI w)) ∧ (w = 0 → ∃ i b9 m k1 n1 A2, i < 4 ∧ x = nI i ∧ A 2 i = nI b9 ∧ b9 < 3 ∧ A 3 i = nI m ∧ m ≤ 10 ∧ rootR A n b9 k1 n1 A2 ∧ A1 = begA A2 A i m ∧ b = nI k1 ∧ iV I1 n1 (nI (if m = 0 then 0 else 1)) (nI (if m = 0 then 1 else 0)) (nI m) (nI 0) (nI k1) (I 25) (I 26) ∧ I1 27 = nI 0)) E := by
  intro b A1 I1 hr
  obtain ⟨w, hw, hf, -⟩ := hr
  rcases h with ⟨rfl, h⟩ | ⟨rfl, h1, h2⟩
  · have e9 := cd3_1 hw h
    subst e9
    obtain ⟨hA, hI⟩ := hf (by decide)
    exact ⟨1, by decide, by decide, by rw [hI]; rfl, rfl, hA, hI⟩
  · have e9 := cd3_2 hw h1 h2
    subst e9
    obtain ⟨hA, hI⟩ := hf (by decide)
    exact ⟨2, by decide, by decide, by rw [hI]; rfl, rfl, hA, hI⟩

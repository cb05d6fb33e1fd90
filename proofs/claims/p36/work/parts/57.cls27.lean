/-! ===== the class, XXVII: a step's outcome is there, and it is one ===== -/
theorem par_u {A : Nat → Nat → Int32} {n : Nat} {P1 P2 : Nat → Nat} (hn : n ≤ 420) (h : vPar A n P1) (h2 : vPar A n P2) : ∀ k, k < n → P1 k = P2 k := fun k hk => pI_inj ((h k hk).2.symm.trans (h2 k hk).2) (by have := (h k hk).1; omega) (by have := (h2 k hk).1; omega)
theorem sh_u {A S1 S2 : Nat → Nat → Int32} {n : Nat} {P1 P2 : Nat → Nat} (hn : n ≤ 420) (hp : vPar A n P1) (hp2 : vPar A n P2) (h : vShow A n P1 S1) (h2 : vShow A n P2 S2) : ∀ k, k < n → ∀ q, q < 12 → S1 k q = S2 k q := by
  intro k
  induction k using Nat.strongRecOn with
  | ind k ih =>
    intro hk q hq
    rw [h k q hk hq, h2 k q hk hq, ← par_u hn hp hp2 k hk]
    refine shw_e ?_
    cases e : P1 k with
    | zero => rfl
    | succ j =>
      have := (hp k hk).1
      exact ih j (by omega) (by omega) q hq
theorem failP_S {A S1 S2 : Nat → Nat → Int32} {k : Nat} {w a : Int32} (e : ∀ q, q < 12 → S1 k q = S2 k q) (h : failP A S1 k w a) : failP A S2 k w a := by
  rcases h with h | ⟨h1, q, hq, h2, h3⟩
  · exact Or.inl h
  · exact Or.inr ⟨h1, q, hq, h2, (e q hq).symm.trans h3⟩
theorem lfR_S {A S1 S2 : Nat → Nat → Int32} {n k0 : Nat} {what a b its : Int32} {A1 : Nat → Nat → Int32} (e : ∀ q, q < 12 → S1 k0 q = S2 k0 q) (h : lfR A n k0 S1 what a b its A1) : lfR A n k0 S2 what a b its A1 := by
  rcases h with h | ⟨h, q, v, hq, hv, e1, e2, h3⟩ | ⟨h, q, r, hq, hr, e1, e2, h3⟩ | h | h
  · exact Or.inl h
  · exact Or.inr (Or.inl ⟨h, q, v, hq, hv, e1, e2, by rw [← e q hq]; exact h3⟩)
  · exact Or.inr (Or.inr (Or.inl ⟨h, q, r, hq, hr, e1, e2, by rw [← e q hq]; exact h3⟩))
  · exact Or.inr (Or.inr (Or.inr (Or.inl h)))
  · exact Or.inr (Or.inr (Or.inr (Or.inr h)))
theorem goR_S {A S1 S2 : Nat → Nat → Int32} {I : Nat → Int32} {n k0 d m : Nat} {b : Int32} {A1 : Nat → Nat → Int32} {I1 : Nat → Int32} (e : ∀ q, q < 12 → S1 k0 q = S2 k0 q) (h : goR A I n S1 k0 d m b A1 I1) : goR A I n S2 k0 d m b A1 I1 := by
  rcases h with ⟨h1, h2⟩ | ⟨h1, its, fm, k1, n1, h2, h3, h4, h5, h6⟩
  · exact Or.inl ⟨failP_S e h1, h2⟩
  · refine Or.inr ⟨fun z => h1 (failP_S (fun q hq => (e q hq).symm) z), its, fm, k1, n1, h2, h3, h4, h5, ?_⟩
    rcases h6 with h6 | ⟨q1, q2, q3, q4, q5⟩
    · exact Or.inl h6
    · exact Or.inr ⟨q1, q2, q3, lfR_S e q4, q5⟩
theorem lst_ex (P : Nat → Prop) : ∀ n, ∃ fm, lst P 0 n fm := by
  intro n
  induction n with
  | zero => exact ⟨0, Or.inl ⟨rfl, fun j _ h => absurd h (Nat.not_lt_zero j)⟩⟩
  | succ n ih =>
    obtain ⟨fm, h⟩ := ih
    rcases h with ⟨-, h⟩ | ⟨j0, h1, h2, h3, h4, h5⟩
    · by_cases hP : P n
      · exact ⟨n + 1, Or.inr ⟨n, rfl, Nat.zero_le n, Nat.lt_succ_self n, hP, fun j h1 h2 => h j h1 h2⟩⟩
      · exact ⟨0, Or.inl ⟨rfl, fun j h1 h2 => by
          by_cases e : j = n
          · rw [e]; exact hP
          · exact h j h1 (by omega)⟩⟩
    · exact ⟨fm, Or.inr ⟨j0, h1, h2, by omega, h4, h5⟩⟩
theorem lfR_ex {A S : Nat → Nat → Int32} {n k0 : Nat} {what a b its : Int32} (hV : vIns what a b) : ∃ A1, lfR A n k0 S what a b its A1 := by
  rcases hV with ⟨h, -, ⟨q, hq, e⟩⟩ | ⟨h, ⟨q, hq, e⟩, ⟨v, hv, e2⟩⟩ | ⟨h, ⟨q, hq, e⟩, ⟨r, hr, e2⟩, -⟩ | ⟨h, ⟨q, hq, e⟩⟩ | ⟨h, ⟨v, hv, e⟩, -⟩
  · exact ⟨_, Or.inl ⟨h, q, hq, e, rfl⟩⟩
  · exact ⟨_, Or.inr (Or.inl ⟨h, q, v, hq, hv, e, e2, rfl⟩)⟩
  · exact ⟨_, Or.inr (Or.inr (Or.inl ⟨h, q, r, hq, hr, e, e2, rfl⟩))⟩
  · exact ⟨_, Or.inr (Or.inr (Or.inr (Or.inl ⟨h, q, hq, e, rfl⟩)))⟩
  · exact ⟨_, Or.inr (Or.inr (Or.inr (Or.inr ⟨h, v, hv, e, rfl⟩)))⟩
def iM (I : Nat → Int32) (n : Nat) (go co m d ly hi mi : Int32) : Nat → Int32 := fun k => if k = 7 then nI n else if k = 17 then go else if k = 18 then co else if k = 19 then m else if k = 20 then d else if k = 24 then ly else if k = 25 then hi else if k = 26 then mi else I k
theorem iM_V {I : Nat → Int32} {n : Nat} {go co m d ly hi mi : Int32} : iV (iM I n go co m d ly hi mi) n go co m d ly hi mi := ⟨rfl, rfl, rfl, rfl, rfl, rfl, rfl, rfl⟩
theorem goR_ex {A S : Nat → Nat → Int32} {I : Nat → Int32} {n k0 d m : Nat} (hV : vIns (A 21 d) (A 22 d) (A 23 d)) : ∃ b A1 I1, goR A I n S k0 d m b A1 I1 := by
  by_cases hf : failP A S k0 (A 21 d) (A 22 d)
  · exact ⟨-1, A, iM I n (nI 0) (nI 0) (nI m) (nI d) (nI k0) (I 25) (I 26), Or.inl ⟨hf, rfl, rfl, iM_V, rfl⟩⟩
  · have hits : ∃ its, itsP A (A 21 d) (A 22 d) its := by
      by_cases e : A 21 d = nI 0
      · obtain ⟨j, hj, e2⟩ := vIns_8 hV e
        exact ⟨A 0 j, Or.inl ⟨e, j, hj, e2, rfl⟩⟩
      · exact ⟨nI 0, Or.inr ⟨e, rfl⟩⟩
    obtain ⟨its, hits⟩ := hits
    obtain ⟨fm, hfm⟩ := lst_ex (mdP A k0 (A 21 d) (A 22 d) (A 23 d) its) n
    cases fm with
    | zero =>
      obtain ⟨A1, hA1⟩ := lfR_ex (A := A) (S := S) (n := n) (k0 := k0) (its := its) hV
      exact ⟨nI n, A1, iM I (n + 1) _ _ _ _ _ _ _, Or.inr ⟨hf, its, 0, n, n + 1, hits, hfm, rfl, rfl, Or.inr ⟨rfl, rfl, rfl, hA1, iM_V⟩⟩⟩
    | succ k1 => exact ⟨nI k1, A, iM I n _ _ _ _ _ _ _, Or.inr ⟨hf, its, k1 + 1, k1, n, hits, hfm, rfl, rfl, Or.inl ⟨rfl, rfl, rfl, iM_V⟩⟩⟩
/-- the world looks at eight numbers only -/
def i8 (I I' : Nat → Int32) : Prop := I' 7 = I 7 ∧ I' 17 = I 17 ∧ I' 18 = I 18 ∧ I' 19 = I 19 ∧ I' 20 = I 20 ∧ I' 24 = I 24 ∧ I' 25 = I 25 ∧ I' 26 = I 26
theorem RC.cI {cy : Nat → ClassId} {L : List Nat} {f : gF} {bk : Nat → Nat} {n : Nat} {X : Nat → va_E} {Is : Nat → Option iT} {PR PL : Nat → Nat} {S A : Nat → Nat → Int32} {I : Nat → Int32} (hR : RC cy bk n X Is PR PL S A I L f) {I' : Nat → Int32} (hi : i8 I I') : RC cy bk n X Is PR PL S A I' L f := by
  obtain ⟨hP, hco, ⟨gf, hf1, hf2⟩, hba, hre, hta, hst, hbu, hlk, hin⟩ := hR
  obtain ⟨i7, i17, i18, i19, i20, i24, i25, i26⟩ := hi
  exact ⟨hP, by unfold pCo; rw [i25, i26]; exact hco, ⟨gf, hf1, hf2⟩, hba, hre, hta, hst, hbu.c (Nat.le_refl n) (fun _ _ => rfl) ⟨rfl, rfl, rfl⟩ (fun _ _ z => z) (fun _ _ _ _ => rfl) (fun _ _ => rfl) (fun _ _ => rfl) ⟨i17, i18, i19, i20, i24⟩, hlk, hin.c i7 (fun _ _ _ _ => rfl)⟩
theorem rmB.cI {n : Nat} {I I' : Nat → Int32} (h : rmB n I) (hi : i8 I I') : rmB n I' := fun c t h1 h2 h3 => h c t (hi.2.1.symm.trans h1) (hi.2.2.2.1.symm.trans h2) (hi.2.2.2.2.1.symm.trans h3)
theorem iV_8 {I I' : Nat → Int32} {n : Nat} {go co m d ly hi mi : Int32} (h : iV I n go co m d ly hi mi) (h2 : iV I' n go co m d ly hi mi) : i8 I I' :=
  ⟨h2.1.trans h.1.symm, h2.2.1.trans h.2.1.symm, h2.2.2.1.trans h.2.2.1.symm, h2.2.2.2.1.trans h.2.2.2.1.symm, h2.2.2.2.2.1.trans h.2.2.2.2.1.symm, h2.2.2.2.2.2.1.trans h.2.2.2.2.2.1.symm, h2.2.2.2.2.2.2.1.trans h.2.2.2.2.2.2.1.symm, h2.2.2.2.2.2.2.2.trans h.2.2.2.2.2.2.2.symm⟩
/-- a step's outcome is one, but for the numbers nobody looks at -/
theorem goR_u {A S : Nat → Nat → Int32} {I I2 : Nat → Int32} {n k0 d m : Nat} {b b2 : Int32} {A1 A2 : Nat → Nat → Int32} {I1 I3 : Nat → Int32} (e25 : I2 25 = I 25) (e26 : I2 26 = I 26) (h : goR A I n S k0 d m b A1 I1) (h2 : goR A I2 n S k0 d m b2 A2 I3) : b = b2 ∧ A1 = A2 ∧ i8 I1 I3 := by
  rcases h with ⟨f1, e1, e2, e3, -⟩ | ⟨f1, its, fm, k1, n1, q1, q2, q3, -, q5⟩ <;> rcases h2 with ⟨g1, c1, c2, c3, -⟩ | ⟨g1, its2, fm2, k2, n2, r1, r2, r3, -, r5⟩
  · rw [e25, e26] at c3
    exact ⟨e1.trans c1.symm, e2.trans c2.symm, iV_8 e3 c3⟩
  · exact absurd f1 g1
  · exact absurd g1 f1
  · have y1 := itsP_u q1 r1
    subst y1
    have y2 := lst_u q2 r2
    subst y2
    rw [e25, e26] at r5
    rcases q5 with ⟨x1, x2, x3, x4⟩ | ⟨x1, x2, x3, x4, x5⟩ <;> rcases r5 with ⟨z1, z2, z3, z4⟩ | ⟨z1, z2, z3, z4, z5⟩
    · have hk : k1 = k2 := by omega
      subst hk
      subst x2
      subst z2
      exact ⟨q3.trans r3.symm, x3.trans z3.symm, iV_8 x4 z4⟩
    · omega
    · omega
    · subst x2
      subst z2
      subst x3
      subst z3
      exact ⟨q3.trans r3.symm, lfR_u x4 z4, iV_8 x5 z5⟩

/-! ===== the class, XIX: a layer written by an instruction ===== -/
theorem gn_div {N M : Nat} (hN : N < 2 ^ 31) (hM : M < 2 ^ 31) : nI N / nI M = nI (N / M) := by
  have h1 : N / M ≤ N := Nat.div_le_self N M
  rw [gn_eq, Int32.toInt_div, nI_toInt hN, nI_toInt hM, nI_toInt (by omega), ← Int.ofNat_tdiv]
  generalize N / M = K at h1 ⊢
  exact Int.bmod_eq_of_le (by omega) (by omega)
theorem runV_ok {c v : Int32} (hc : cOK c) (hv : gin v 1000) : gin (runV c v) 10007 := by
  obtain ⟨u, hu, rfl⟩ := hv
  have h : ∃ j, j < 10007 ∧ (if c = -1 then nI 0 else c) = nI j := by
    rcases hc with rfl | ⟨j, hj, rfl⟩
    · exact ⟨0, by decide, if_pos rfl⟩
    · exact ⟨j, hj, if_neg (gn_ne1 (by omega))⟩
  obtain ⟨j, hj, e⟩ := h
  unfold runV runW
  rw [e, gn_mul, nI_add, nI_add, gn_div (by omega) (by decide), gn_mul, gn_sub (Nat.div_mul_le_self _ _)]
  have h2 := Nat.div_add_mod (31 * j + u + 1) 10007
  have h3 := Nat.mod_lt (31 * j + u + 1) (show 10007 > 0 by decide)
  have h4 := Nat.mul_comm ((31 * j + u + 1) / 10007) 10007
  exact ⟨_, by omega, rfl⟩
theorem cOK_n {x : Int32} (h : gin x 10007) : cOK x ∧ x ≠ -1 ∧ x ≠ -2 := by
  obtain ⟨j, hj, rfl⟩ := h
  exact ⟨Or.inr ⟨j, hj, rfl⟩, gn_ne1 (by omega), gn_ne2 (by omega)⟩
theorem shw_sv {x : Int32} {m q : Nat} {S : Nat → Nat → Int32} (h : x ≠ -1) : shw x m S q = sv x := if_neg h
theorem shw_ok {x : Int32} {m q : Nat} {S : Nat → Nat → Int32} (h : x = -1 ∨ x = -2 ∨ cOK x) (hp : cOK (spr S q m)) : cOK (shw x m S q) := by
  unfold shw
  by_cases e : x = -1
  · rw [if_pos e]; exact hp
  · rw [if_neg e]
    by_cases e2 : x = -2
    · rw [if_pos e2]; exact Or.inl rfl
    · rw [if_neg e2]; exact (h.resolve_left e).resolve_left e2
/-- the three arrays of layer n are what the reference's arrays B say -/
def Wt (B : Nat → Nat → Int32) (n m : Nat) (S : Nat → Nat → Int32) (H S9 V : Nat → Int32) : Prop :=
  (∀ q, q < 12 → H q = B 10 (12 * n + q)) ∧ (∀ q, q < 12 → S9 q = shw (B 10 (12 * n + q)) m S q) ∧ (∀ v, v < 4 → V v = B 11 (4 * n + v)) ∧ (∀ q, q < 12 → B 10 (12 * n + q) = -1 ∨ B 10 (12 * n + q) = -2 ∨ cOK (B 10 (12 * n + q))) ∧ ∀ v, v < 4 → gin (B 11 (4 * n + v)) 1000
theorem Wt.w10 {B : Nat → Nat → Int32} {n m : Nat} {S : Nat → Nat → Int32} {H S9 V : Nat → Int32} (h : Wt B n m S H S9 V) {q : Nat} {x : Int32} (hx : x ≠ -1) (ho : x = -2 ∨ cOK x) : Wt (mU B 10 (12 * n + q) x) n m S (upd H q x) (upd S9 q (sv x)) V := by
  obtain ⟨h1, h2, h3, h4, h5⟩ := h
  refine ⟨upd_mL h1, fun r hr => ?_, fun v hv => by rw [mU_k (by decide)]; exact h3 v hv, fun r hr => ?_, fun v hv => by rw [mU_k (by decide)]; exact h5 v hv⟩
  · unfold upd
    by_cases e : r = q
    · rw [if_pos e, e, mU_s, shw_sv hx]
    · rw [if_neg e, mU_j (by omega)]; exact h2 r hr
  · by_cases e : r = q
    · rw [e, mU_s]; exact Or.inr ho
    · rw [mU_j (by omega)]; exact h4 r hr
theorem Wt.w11 {B : Nat → Nat → Int32} {n m : Nat} {S : Nat → Nat → Int32} {H S9 V : Nat → Int32} (h : Wt B n m S H S9 V) {q : Nat} {x : Int32} (ho : gin x 1000) : Wt (mU B 11 (4 * n + q) x) n m S H S9 (upd V q x) := by
  obtain ⟨h1, h2, h3, h4, h5⟩ := h
  refine ⟨fun r hr => by rw [mU_k (by decide)]; exact h1 r hr, fun r hr => by rw [mU_k (by decide)]; exact h2 r hr, upd_mL h3, fun r hr => by rw [mU_k (by decide)]; exact h4 r hr, fun v hv => ?_⟩
  by_cases e : v = q
  · rw [e, mU_s]; exact ho
  · rw [mU_j (by omega)]; exact h5 v hv
theorem Wt.wr {B : Nat → Nat → Int32} {n m : Nat} {S : Nat → Nat → Int32} {H S9 V : Nat → Int32} (h : Wt B n m S H S9 V) {k j : Nat} {x : Int32} (hk : 11 < k) : Wt (mU B k j x) n m S H S9 V := by
  obtain ⟨h1, h2, h3, h4, h5⟩ := h
  exact ⟨fun r hr => by rw [mU_k (by omega)]; exact h1 r hr, fun r hr => by rw [mU_k (by omega)]; exact h2 r hr, fun r hr => by rw [mU_k (by omega)]; exact h3 r hr, fun r hr => by rw [mU_k (by omega)]; exact h4 r hr, fun v hv => by rw [mU_k (by omega)]; exact h5 v hv⟩
/-- nothing but layer n's own entries differs -/
def exA (A A1 : Nat → Nat → Int32) (n : Nat) : Prop := (∀ r j, (r < 10 ∨ 15 < r) → A1 r j = A r j) ∧ (∀ i q, i < n → q < 12 → A1 10 (12 * i + q) = A 10 (12 * i + q)) ∧ (∀ i q, i < n → q < 4 → A1 11 (4 * i + q) = A 11 (4 * i + q)) ∧ ∀ r i, 12 ≤ r → r ≤ 15 → i < n → A1 r i = A r i
theorem exA.rf {A : Nat → Nat → Int32} {n : Nat} : exA A A n := ⟨fun _ _ _ => rfl, fun _ _ _ _ => rfl, fun _ _ _ _ => rfl, fun _ _ _ _ _ => rfl⟩
theorem exA.w10 {A B : Nat → Nat → Int32} {n q : Nat} {x : Int32} (h : exA A B n) : exA A (mU B 10 (12 * n + q) x) n := ⟨fun r j hr => by rw [mU_k (by omega)]; exact h.1 r j hr, fun i r hi hr => by rw [mU_j (by omega)]; exact h.2.1 i r hi hr, fun i r hi hr => by rw [mU_k (by decide)]; exact h.2.2.1 i r hi hr, fun r i h1 h2 hi => by rw [mU_k (by omega)]; exact h.2.2.2 r i h1 h2 hi⟩
theorem exA.w11 {A B : Nat → Nat → Int32} {n q : Nat} {x : Int32} (h : exA A B n) : exA A (mU B 11 (4 * n + q) x) n := ⟨fun r j hr => by rw [mU_k (by omega)]; exact h.1 r j hr, fun i r hi hr => by rw [mU_k (by decide)]; exact h.2.1 i r hi hr, fun i r hi hr => by rw [mU_j (by omega)]; exact h.2.2.1 i r hi hr, fun r i h1 h2 hi => by rw [mU_k (by omega)]; exact h.2.2.2 r i h1 h2 hi⟩
theorem exA.wr {A B : Nat → Nat → Int32} {n k : Nat} {x : Int32} (h : exA A B n) (hk : 12 ≤ k) (hk2 : k ≤ 15) : exA A (mU B k n x) n := ⟨fun r j hr => by rw [mU_k (by omega)]; exact h.1 r j hr, fun i r hi hr => by rw [mU_k (by omega)]; exact h.2.1 i r hi hr, fun i r hi hr => by rw [mU_k (by omega)]; exact h.2.2.1 i r hi hr, fun r i h1 h2 hi => by rw [mU_j (by omega)]; exact h.2.2.2 r i h1 h2 hi⟩
theorem Wt.mk {A S : Nat → Nat → Int32} {n k0 : Nat} {H S9 V : Nat → Int32} (hC : pCt n A S) (hk0 : k0 < n) (h1 : ∀ q, q < 12 → H q = mkA A n (k0 + 1) 10 (12 * n + q)) (h2 : ∀ q, q < 12 → S9 q = shw (mkA A n (k0 + 1) 10 (12 * n + q)) (k0 + 1) S q) (h3 : ∀ v, v < 4 → V v = mkA A n (k0 + 1) 11 (4 * n + v)) : Wt (mkA A n (k0 + 1)) n (k0 + 1) S H S9 V :=
  ⟨h1, h2, h3, fun q hq => Or.inl (mkA_10n hq), fun v hv => by rw [mkA_11n hv]; exact hC.2.2.2 k0 v hk0 hv⟩
/-- what the class writes is what the reference writes -/
theorem la_case {A S : Nat → Nat → Int32} {n k0 : Nat} {what a b its se x : Int32} {H S9 V H1 S1 V1 : Nat → Int32} (hC : pCt n A S) (hk0 : k0 < n) (hw : Wt (mkA A n (k0 + 1)) n (k0 + 1) S H S9 V) (hV : vIns what a b) (hse : se = if what = nI 3 then -1 else b) (hx : x = if what = nI 0 then its else -1) (hits : itsP A what a its) (hf : ¬ failP A S k0 what a) (hca : caR what a se x H S9 V H1 S1 V1) :
    ∃ A1, lfR A n k0 S what a b its A1 ∧ Wt A1 n (k0 + 1) S H1 S1 V1 ∧ exA (mkA A n (k0 + 1)) A1 n ∧ A1 12 n = what ∧ A1 13 n = a ∧ A1 14 n = b ∧ A1 15 n = its := by
  have hB : Wt (lfB A n k0 what a b its) n (k0 + 1) S H S9 V := (((hw.wr (by decide)).wr (by decide)).wr (by decide)).wr (by decide)
  have hE : exA (mkA A n (k0 + 1)) (lfB A n k0 what a b its) n := ((((exA.rf).wr (by decide) (by decide)).wr (by decide) (by decide)).wr (by decide) (by decide)).wr (by decide) (by decide)
  have b12 : lfB A n k0 what a b its 12 n = what ∧ lfB A n k0 what a b its 13 n = a ∧ lfB A n k0 what a b its 14 n = b ∧ lfB A n k0 what a b its 15 n = its := by
    unfold lfB
    refine ⟨?_, ?_, ?_, mU_s⟩
    · rw [mU_k (by decide), mU_k (by decide), mU_k (by decide), mU_s]
    · rw [mU_k (by decide), mU_k (by decide), mU_s]
    · rw [mU_k (by decide), mU_s]
  have hS9 : ∀ q, q < 12 → S9 q = S k0 q := fun q hq => by rw [hw.2.1 q hq, mkA_10n hq, shw_n1]; rfl
  have hV9 : ∀ v, v < 4 → V v = A 11 (4 * k0 + v) := fun v hv => by rw [hw.2.2.1 v hv, mkA_11n hv]; rfl
  have hn2 : (-2 : Int32) ≠ -1 := by decide
  have fin : ∀ {r j : Nat} {y : Int32} {B : Nat → Nat → Int32}, r < 12 → (B 12 n = what ∧ B 13 n = a ∧ B 14 n = b ∧ B 15 n = its) → (mU B r j y 12 n = what ∧ mU B r j y 13 n = a ∧ mU B r j y 14 n = b ∧ mU B r j y 15 n = its) := fun hr h => ⟨(mU_k (by omega)).trans h.1, (mU_k (by omega)).trans h.2.1, (mU_k (by omega)).trans h.2.2.1, (mU_k (by omega)).trans h.2.2.2⟩
  rcases hca with ⟨e0, q, hq, e1, rfl, rfl, rfl⟩ | ⟨e0, q, v, hq, hv, e1, e2, rfl, rfl, rfl⟩ | ⟨e0, q, r, hq, hr, hne, e1, e2, rfl, rfl, rfl⟩ | ⟨e0, q, hq, e1, rfl, rfl, rfl⟩ | ⟨e0, v, hv, e1, rfl, rfl, rfl⟩
  · rw [if_pos e0] at hx
    rw [if_neg (by rw [e0]; decide)] at hse
    obtain ⟨-, j, hj, ea, ei⟩ := hits.resolve_right (fun z => z.1 e0)
    have hi1 : its ≠ -1 := fun z => hf (Or.inl ⟨e0, j, hj, ea, by rw [← ei]; exact z⟩)
    rw [hx]
    exact ⟨_, Or.inl ⟨e0, q, hq, hse.symm.trans e1, rfl⟩, hB.w10 hi1 (Or.inr (by rw [ei]; exact gct_ok9 (hC.1 j hj))), hE.w10, fin (by decide) b12⟩
  · rw [if_neg (by rw [e0]; decide)] at hse
    rw [hS9 q hq, hV9 v hv]
    obtain ⟨c1, c2, c3⟩ := cOK_n (runV_ok (hC.2.2.1 k0 q hk0 hq) (hC.2.2.2 k0 v hk0 hv))
    exact ⟨_, Or.inr (Or.inl ⟨e0, q, v, hq, hv, e1, hse.symm.trans e2, rfl⟩), hB.w10 c2 (Or.inr c1), hE.w10, fin (by decide) b12⟩
  · rw [if_neg (by rw [e0]; decide)] at hse
    rw [hS9 q hq]
    have hs1 : S k0 q ≠ -1 := fun z => hf (Or.inr ⟨Or.inl e0, q, hq, e1, z⟩)
    exact ⟨_, Or.inr (Or.inr (Or.inl ⟨e0, q, r, hq, hr, e1, hse.symm.trans e2, rfl⟩)), (hB.w10 hs1 (Or.inr (hC.2.2.1 k0 q hk0 hq))).w10 hn2 (Or.inl rfl), hE.w10.w10, fin (by decide) (fin (by decide) b12)⟩
  · exact ⟨_, Or.inr (Or.inr (Or.inr (Or.inl ⟨e0, q, hq, e1, rfl⟩))), hB.w10 hn2 (Or.inl rfl), hE.w10, fin (by decide) b12⟩
  · rw [if_neg (by rw [e0]; decide)] at hse
    rw [hse]
    have hb : gin b 1000 := by
      subst e0
      rcases hV with ⟨h, -⟩ | ⟨h, -⟩ | ⟨h, -⟩ | ⟨h, -⟩ | ⟨-, -, h⟩
      · exact absurd h (by decide)
      · exact absurd h (by decide)
      · exact absurd h (by decide)
      · exact absurd h (by decide)
      · exact h
    exact ⟨_, Or.inr (Or.inr (Or.inr (Or.inr ⟨e0, v, hv, e1, rfl⟩))), hB.w11 hb, hE.w11, fin (by decide) b12⟩

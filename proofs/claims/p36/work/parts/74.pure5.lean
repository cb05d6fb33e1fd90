/-! ===== what the property stands on, V: rebase ===== -/
theorem rbV_e {h s : Int32} : rbV h s = -1 → h ≠ -1 → h = -2 ∧ s = -1 := by
  unfold rbV
  intro h1 h2
  by_cases e : h = -2 ∧ s = -1
  · exact e
  · rw [if_neg e] at h1; exact absurd h1 h2
/-- what the new layers hold: T y is made after O y, on T (y - 1) -/
def rbTT (A1 S1 : Nat → Nat → Int32) (PR1 : Nat → Nat) (O T : Nat → Nat) (n1 y : Nat) : Prop := T y < n1 ∧ A1 8 (T y) = 0 ∧ PR1 (T y) = T (y - 1) + 1 ∧ (∀ q, q < 12 → A1 10 (12 * T y + q) = rbV (A1 10 (12 * O y + q)) (S1 (T (y - 1)) q)) ∧ ∀ v, v < 4 → A1 11 (4 * T y + v) = A1 11 (4 * O y + v)
theorem rbTT.ag {A1 S1 A2 S2 : Nat → Nat → Int32} {PR1 PL1 PR2 PL2 : Nat → Nat} {O T T2 : Nat → Nat} {n1 n2 y : Nat} (h : rbTT A1 S1 PR1 O T n1 y) (x : XT n1 PR1 PL1 S1 A1 n2 PR2 PL2 S2 A2) (hO : O y < n1) (hT : T (y - 1) < n1) (e1 : T2 y = T y) (e2 : T2 (y - 1) = T (y - 1)) : rbTT A2 S2 PR2 O T2 n2 y := by
  obtain ⟨a1, a2, a3, a4, a5⟩ := h
  obtain ⟨b1, b2, b3, b4, b5⟩ := x
  refine ⟨by rw [e1]; omega, by rw [e1, b2.1 8 _ (by omega) a1]; exact a2, by rw [e1, e2, b3 _ a1]; exact a3, fun q hq => ?_, fun v hv => ?_⟩
  · rw [e1, e2, b2.2.1 _ q a1 hq, b2.2.1 _ q hO hq, b5 _ hT]
    exact a4 q hq
  · rw [e1, b2.2.2 _ v a1 hv, b2.2.2 _ v hO hv]
    exact a5 v hv
theorem rb_ex {n0 : Nat} {PR0 PL0 : Nat → Nat} {S0 A0' : Nat → Nat → Int32} {k : Nat} {O : Nat → Nat} (hc : chn n0 PR0 PL0 k O) (hk10 : PL0 k ≤ 10) : ∀ (u x n top : Nat) (PR PL : Nat → Nat) (S A : Nat → Nat → Int32), 0 < x → x + u = PL0 k + 1 → WF n PR PL S A → XT n0 PR0 PL0 S0 A0' n PR PL S A → n + u ≤ 420 → top < n → A 8 top = 0 → PL top = x - 1 →
    ∃ (A1 : Nat → Nat → Int32) (n1 t1 : Nat) (PR1 PL1 : Nat → Nat) (S1 : Nat → Nat → Int32) (T : Nat → Nat), rbR (oldAt n0 PR0 PL0 k) u x A n top A1 n1 t1 ∧ WF n1 PR1 PL1 S1 A1 ∧ XT n PR PL S A n1 PR1 PL1 S1 A1 ∧ n1 = n + u ∧ (∀ k j, (k < 8 ∨ 12 < k) → A1 k j = A k j) ∧ T (x - 1) = top ∧ T (PL0 k) = t1 ∧ t1 < n1 ∧ A1 8 t1 = 0 ∧ PL1 t1 = PL0 k ∧ (0 < u → t1 = n1 - 1) ∧ ∀ y, x ≤ y → y ≤ PL0 k → rbTT A1 S1 PR1 O T n1 y
  | 0, x, n, top, PR, PL, S, A, hx, hxu, hw, hxt, hn, ht, h8, hpl => ⟨A, n, top, PR, PL, S, fun _ => top, ⟨rfl, rfl, rfl⟩, hw, XT.rf, rfl, fun _ _ _ => rfl, rfl, rfl, ht, h8, by omega, fun h => by omega, fun y h1 h2 => by omega⟩
  | u + 1, x, n, top, PR, PL, S, A, hx, hxu, hw, hxt, hn, ht, h8, hpl => by
    obtain ⟨w0, w1, w2, w3, w4, ⟨p1, p2, p3, p4⟩, ⟨v1, v2, v3⟩⟩ := id hw
    obtain ⟨hO, hOp, hOa, -⟩ := hc.2 x (by omega)
    have hOn : O x < n := by have := hxt.1; omega
    have e10 : ∀ q, q < 12 → rbA A n top (O x) S 10 (12 * n + q) = rbV (A 10 (12 * O x + q)) (S top q) := fun q hq => by
      unfold rbA
      rw [upR_k (by decide), upR_i hq]
    have e11 : ∀ v, v < 4 → rbA A n top (O x) S 11 (4 * n + v) = A 11 (4 * O x + v) := fun v hv => by
      unfold rbA
      rw [upR_i hv]
    have eo : ∀ r j, r ≠ 11 → r ≠ 10 → rbA A n top (O x) S r j = mkA A n (top + 1) r j := fun r j h1 h2 => by
      unfold rbA
      rw [upR_k h1, upR_k h2]
    have e8 : rbA A n top (O x) S 8 n = nI 0 := by
      rw [eo 8 n (by decide) (by decide)]
      unfold mkA
      rw [mU_k (by decide), mU_s]
    have e12 : rbA A n top (O x) S 12 n = -1 := by
      rw [eo 12 n (by decide) (by decide)]
      unfold mkA
      rw [mU_s]
    have hag : agr A (rbA A n top (O x) S) n := agr.mk.up10.up11
    have hadd := hw.add (A1 := rbA A n top (O x) S) (m := top + 1) (by omega) ht (by show PL top + 1 ≤ 10; omega) hag (fun k j hk => rbA_k (by omega)) rbA_9n (fun v hv => by rw [e11 v hv]; exact p4 (O x) v hOn hv) (fun q hq => by
        rw [e10 q hq]
        unfold rbV
        by_cases e : A 10 (12 * O x + q) = -2 ∧ S top q = -1
        · rw [if_pos e]; exact Or.inl rfl
        · rw [if_neg e]; exact v1 (O x) q hOn hq) (fun h => by omega) (Or.inl e12)
    generalize hPR9 : PRx PR n (top + 1) = PR9 at hadd
    generalize hPL9 : PLx PL n (top + 1) = PL9 at hadd
    generalize hS9 : Sx S n (fun q => shw (rbA A n top (O x) S 10 (12 * n + q)) (top + 1) S q) = S9 at hadd
    obtain ⟨hw1, hx1⟩ := hadd
    have np : PR9 n = top + 1 := by rw [← hPR9]; exact if_pos rfl
    have nl : PL9 n = x := by
      rw [← hPL9]
      show (if n = n then dpt PL (top + 1) else PL n) = x
      rw [if_pos rfl]
      show PL top + 1 = x
      omega
    obtain ⟨A2, n2, t2, PR2, PL2, S2, T, r1, r2, r3, r4, r5, r6, r7, r8, r9, r10, r11, r12⟩ := rb_ex hc hk10 u (x + 1) (n + 1) n PR9 PL9 S9 (rbA A n top (O x) S) (by omega) (by omega) hw1 (hxt.tr hx1) (by omega) (by omega) e8 nl
    have rT : T x = n := by rw [← r6, Nat.add_sub_cancel]
    have hone : rbTT (rbA A n top (O x) S) S9 PR9 O (fun y => if y = x - 1 then top else T y) (n + 1) x := by
      have ex : ¬ x = x - 1 := by omega
      refine ⟨by dsimp only; rw [if_neg ex, rT]; omega, by dsimp only; rw [if_neg ex, rT]; exact e8, by dsimp only; rw [if_neg ex, if_pos rfl, rT]; exact np, fun q hq => ?_, fun v hv => ?_⟩
      · dsimp only
        rw [if_neg ex, if_pos rfl, rT, e10 q hq, hag.2.1 (O x) q hOn hq, hx1.2.2.2.2 top ht]
      · dsimp only
        rw [if_neg ex, rT, e11 v hv, hag.2.2 (O x) v hOn hv]
    refine ⟨A2, n2, t2, PR2, PL2, S2, fun y => if y = x - 1 then top else T y, ⟨O x, _, ⟨hO, hOp, hOa⟩, ⟨PR, S, w1, w2, rfl⟩, r1⟩, r2, hx1.tr r3, by omega, fun k j hk => (r5 k j hk).trans (rbA_k hk), if_pos rfl, by dsimp only; rw [if_neg (by omega)]; exact r7, r8, r9, r10, fun _ => ?_, fun y h1 h2 => ?_⟩
    · by_cases hu : 0 < u
      · exact r11 hu
      · have hu0 : u = 0 := by omega
        have : PL0 k = x := by omega
        rw [← r7, this, rT, r4, hu0]
        omega
    · by_cases e : y = x
      · subst e
        exact hone.ag r3 (by omega) (by rw [if_pos rfl]; omega) rfl rfl
      · have := r12 y (by omega) h2
        obtain ⟨a1, a2, a3, a4, a5⟩ := this
        have e1 : ¬ y = x - 1 := by omega
        have e2 : ¬ y - 1 = x - 1 := by omega
        exact ⟨by dsimp only; rw [if_neg e1]; exact a1, by dsimp only; rw [if_neg e1]; exact a2, by dsimp only; rw [if_neg e1, if_neg e2]; exact a3, fun q hq => by dsimp only; rw [if_neg e1, if_neg e2]; exact a4 q hq, fun v hv => by dsimp only; rw [if_neg e1]; exact a5 v hv⟩
/-- sizes -/
theorem szN_le (A : Nat → Nat → Int32) (k : Nat) : ∀ q, szN A k q ≤ q
  | 0 => Nat.le_refl _
  | q + 1 => by
    have := szN_le A k q
    show szN A k q + (if A 10 (12 * k + q) = -1 then 0 else 1) ≤ q + 1
    split <;> omega
theorem szN_rb {A : Nat → Nat → Int32} {a b : Nat} (s : Nat → Int32) (h : ∀ q, q < 12 → A 10 (12 * a + q) = rbV (A 10 (12 * b + q)) (s q)) : ∀ q, q ≤ 12 → szN A a q ≤ szN A b q
  | 0, _ => Nat.le_refl _
  | q + 1, hq => by
    have := szN_rb s h q (by omega)
    show szN A a q + (if A 10 (12 * a + q) = -1 then 0 else 1) ≤ szN A b q + (if A 10 (12 * b + q) = -1 then 0 else 1)
    rw [h q (by omega)]
    by_cases e : A 10 (12 * b + q) = -1
    · have e2 : rbV (A 10 (12 * b + q)) (s q) = -1 := by
        unfold rbV
        rw [if_neg (fun z => absurd (e.symm.trans z.1) (by decide))]
        exact e
      rw [if_pos e2, if_pos e]
      omega
    · rw [if_neg e]
      split <;> omega
theorem isT_b {A : Nat → Nat → Int32} {PR PL : Nat → Nat} {n : Nat} (hp : ∀ k, k < n → PR k ≤ k) (hl : vPL n PR PL) : ∀ k, k < n → isT A PR (k + 1) ≤ 12 * (PL k + 1) := by
  intro k
  induction k using Nat.strongRecOn with
  | _ k ih =>
    intro hk
    have hle := hp k hk
    have hpl := hl k hk
    rw [isT_s hp hk]
    have hs := szN_le A k 12
    cases hz : PR k with
    | zero =>
      show szN A k 12 + 0 ≤ _
      omega
    | succ j =>
      rw [hz] at hpl
      have h1 : PL k = PL j + 1 := hpl
      have := ih j (by omega) (by omega)
      omega
theorem rb_sz {A1 S1 : Nat → Nat → Int32} {PR1 : Nat → Nat} {O T : Nat → Nat} {n1 p : Nat} (hp : ∀ k, k < n1 → PR1 k ≤ k) (h0 : PR1 (T 0) = 0) (hT0 : T 0 < n1) (hO0 : PR1 (O 0) = 0) (hO : ∀ y, y ≤ p → O y < n1 ∧ (0 < y → PR1 (O y) = O (y - 1) + 1)) (hT : ∀ y, 1 ≤ y → y ≤ p → rbTT A1 S1 PR1 O T n1 y) : ∀ y, y ≤ p → isT A1 PR1 (T y + 1) ≤ isT A1 PR1 (O y + 1) + 12
  | 0, _ => by
    rw [isT_s hp hT0, h0]
    show szN A1 (T 0) 12 + 0 ≤ _
    have := szN_le A1 (T 0) 12
    omega
  | y + 1, hy => by
    obtain ⟨a1, a2, a3, a4, a5⟩ := hT (y + 1) (by omega) hy
    obtain ⟨b1, b2⟩ := hO (y + 1) hy
    have ih := rb_sz hp h0 hT0 hO0 hO hT y (by omega)
    have hs := szN_rb (A := A1) (a := T (y + 1)) (b := O (y + 1)) (S1 (T y)) a4 12 (Nat.le_refl _)
    rw [isT_s hp a1, isT_s hp b1, a3, b2 (by omega)]
    show szN A1 (T (y + 1)) 12 + isT A1 PR1 (T y + 1) ≤ szN A1 (O (y + 1)) 12 + isT A1 PR1 (O y + 1) + 12
    omega
/-- rebase: an outcome, and what it is -/
def rbQ (n : Nat) (PR PL : Nat → Nat) (S A : Nat → Nat → Int32) (i k : Nat) (A1 : Nat → Nat → Int32) (n1 : Nat) (PR1 PL1 : Nat → Nat) (S1 : Nat → Nat → Int32) (O T : Nat → Nat) : Prop :=
  chn n PR PL k O ∧ WF n1 PR1 PL1 S1 A1 ∧ XT n PR PL S A n1 PR1 PL1 S1 A1 ∧ n + PL k ≤ n1 ∧ n1 ≤ n + PL k + 1 ∧ (∀ k j, (k < 8 ∨ 16 < k) → A1 k j = A k j) ∧ T (PL k) < n1 ∧ A1 8 (T (PL k)) = 0 ∧ PL1 (T (PL k)) = PL k ∧ (0 < PL k → T (PL k) = n1 - 1) ∧ T 0 < n1 ∧ PR1 (T 0) = 0 ∧ (∀ y, 1 ≤ y → y ≤ PL k → rbTT A1 S1 PR1 O T n1 y) ∧ A1 16 i = nI (T (PL k)) ∧ ∀ j, j ≠ i → A1 16 j = A 16 j
theorem rbs_ex {n : Nat} {PR PL TG : Nat → Nat} {S A : Nat → Nat → Int32} {I : Nat → Int32} (hw : WF n PR PL S A) (hn : n < 400) {i b1 k : Nat} (hi : i < 5) (hb : b1 < 3) (hT : TG i = k + 1) (hk : k < n) :
    ∃ (A1 : Nat → Nat → Int32) (n1 : Nat) (PR1 PL1 : Nat → Nat) (S1 : Nat → Nat → Int32) (O T : Nat → Nat), rbL A I n PR PL TG (nI i) (nI b1) (nI (T (PL k))) A1 (va_up (va_up I 27 (nI 0)) 7 (nI n1)) ∧ rbQ n PR PL S A i k A1 n1 PR1 PL1 S1 O T := by
  obtain ⟨w0, w1, w2, w3, w4, w5, w6⟩ := id hw
  obtain ⟨O, hc⟩ := chn_ex (fun k hk => (w1 k hk).1) w3 k hk
  obtain ⟨k1, n1, A2, PR1, PL1, S1, hr, hw1, hx1, hn1, hk1, hrf, hfr, hp0, hl0⟩ := root_ex hw (by omega) hb
  have hk10 := w4 k hk
  obtain ⟨A3, n3, t3, PR3, PL3, S3, T, r1, r2, r3, r4, r5, r6, r7, r8, r9, r10, r11, r12⟩ := rb_ex hc hk10 (PL k) 1 n1 k1 PR1 PL1 S1 A2 (by decide) (by omega) hw1 hx1 (by omega) hk1 hrf.1.1.1 hl0
  have rT0 : T 0 = k1 := r6
  have hag : agr A3 (mU A3 16 i (nI t3)) n3 := agr.rf.mo (by decide)
  have hfr3 : ∀ k j, (k < 8 ∨ 12 < k) → A3 k j = A k j := fun k j hk => (r5 k j hk).trans (hfr k j hk)
  have hmu : ∀ r j, r ≠ 16 → mU A3 16 i (nI t3) r j = A3 r j := fun r j h => mU_k h
  have hw4 : WF n3 PR3 PL3 S3 (mU A3 16 i (nI t3)) := r2.ag hag.w (fun k j hk => hmu k j (by omega))
  have hx4 := (hx1.tr r3).tr (XT.ag hag)
  refine ⟨mU A3 16 i (nI t3), n3, PR3, PL3, S3, O, T, ⟨0, Or.inr (Or.inr ⟨rfl, ⟨⟨i, hi, rfl⟩, b1, hb, rfl⟩, hn, fun j hj e => ?_⟩), fun z => absurd rfl z, fun _ => ⟨i, b1, k, A 30, k1, n1, A2, A3, n3, t3, hi, rfl, rfl, hb, hT, hk, hn, by rw [str_0]; exact hr, r1, by rw [r7], rfl, rfl⟩⟩, hc, hw4, hx4, ?_, ?_, fun r j hr => (hmu r j (by omega)).trans (hfr3 r j (by omega)), by rw [r7]; exact r8, by rw [r7, hmu 8 _ (by decide)]; exact r9, by rw [r7]; exact r10, fun h => by rw [r7]; exact r11 h, by rw [rT0]; have := r3.1; omega, by rw [rT0, r3.2.2.1 k1 hk1]; exact hp0, fun y h1 h2 => ?_, by rw [r7]; exact mU_s, fun j hj => (mU_j hj).trans (hfr3 16 j (by decide))⟩
  · have ej : j = i := gn_inj (by omega) (by omega) e.symm
    rw [ej, hT]
    omega
  · have := hx1.1; omega
  · omega
  · obtain ⟨a1, a2, a3, a4, a5⟩ := r12 y h1 h2
    exact ⟨a1, by rw [hmu 8 _ (by decide)]; exact a2, a3, fun q hq => by rw [hmu 10 _ (by decide), hmu 10 _ (by decide)]; exact a4 q hq, fun v hv => by rw [hmu 11 _ (by decide), hmu 11 _ (by decide)]; exact a5 v hv⟩

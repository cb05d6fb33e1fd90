/-! ===== what the property stands on, II: a root, a step, a run of steps: an outcome of the relation, and what it is ===== -/
theorem lst_e9 (P : Nat → Prop) : ∀ n, ∃ fm, lst P 0 n fm
  | 0 => ⟨0, lst_n⟩
  | n + 1 => by
    obtain ⟨fm, h⟩ := lst_e9 P n
    rcases h with ⟨-, h⟩ | ⟨j, e, h0, hj, hP, h⟩
    · by_cases hn : P n
      · exact ⟨n + 1, Or.inr ⟨n, rfl, Nat.zero_le _, by omega, hn, fun j h1 h2 => h j h1 h2⟩⟩
      · exact ⟨0, Or.inl ⟨rfl, fun j h1 h2 => by
          by_cases e : j = n
          · rw [e]; exact hn
          · exact h j h1 (by omega)⟩⟩
    · exact ⟨fm, Or.inr ⟨j, e, h0, by omega, hP, h⟩⟩
theorem agr.mk {A : Nat → Nat → Int32} {n m : Nat} : agr A (mkA A n m) n := by
  refine ⟨fun r k hr hk => ?_, fun k q hk hq => mkA_10 hk hq, fun k v hk hv => mkA_11 hk hv⟩
  unfold mkA
  rw [mU_j (by omega), mU_j (by omega), mU_j (by omega), upR_k (by omega), upR_k (by omega)]
theorem agr.up10 {A B : Nat → Nat → Int32} {n : Nat} {g : Nat → Int32} (h : agr A B n) : agr A (upR B 10 (12 * n) 12 g) n :=
  ⟨fun r k hr hk => (upR_k (by omega)).trans (h.1 r k hr hk), fun k q hk hq => (upR_o (by omega)).trans (h.2.1 k q hk hq), fun k v hk hv => (upR_k (by decide)).trans (h.2.2 k v hk hv)⟩
theorem agr.up11 {A B : Nat → Nat → Int32} {n : Nat} {g : Nat → Int32} (h : agr A B n) : agr A (upR B 11 (4 * n) 4 g) n :=
  ⟨fun r k hr hk => (upR_k (by omega)).trans (h.1 r k hr hk), fun k q hk hq => (upR_k (by decide)).trans (h.2.1 k q hk hq), fun k v hk hv => (upR_o (by omega)).trans (h.2.2 k v hk hv)⟩
theorem agr.m10 {A B : Nat → Nat → Int32} {n q : Nat} {x : Int32} (h : agr A B n) : agr A (mU B 10 (12 * n + q) x) n :=
  ⟨fun r k hr hk => (mU_k (by omega)).trans (h.1 r k hr hk), fun k p hk hp => (mU_j (by omega)).trans (h.2.1 k p hk hp), fun k v hk hv => (mU_k (by decide)).trans (h.2.2 k v hk hv)⟩
theorem agr.m11 {A B : Nat → Nat → Int32} {n q : Nat} {x : Int32} (h : agr A B n) : agr A (mU B 11 (4 * n + q) x) n :=
  ⟨fun r k hr hk => (mU_k (by omega)).trans (h.1 r k hr hk), fun k p hk hp => (mU_k (by decide)).trans (h.2.1 k p hk hp), fun k v hk hv => (mU_j (by omega)).trans (h.2.2 k v hk hv)⟩
theorem agr.mr {A B : Nat → Nat → Int32} {n r : Nat} {x : Int32} (h : agr A B n) (h10 : r ≠ 10) (h11 : r ≠ 11) : agr A (mU B r n x) n :=
  ⟨fun r2 k hr hk => (mU_j (by omega)).trans (h.1 r2 k hr hk), fun k p hk hp => (mU_k (by omega)).trans (h.2.1 k p hk hp), fun k v hk hv => (mU_k (by omega)).trans (h.2.2 k v hk hv)⟩
theorem agr.mo {A B : Nat → Nat → Int32} {n r j : Nat} {x : Int32} (h : agr A B n) (hr : 15 < r) : agr A (mU B r j x) n :=
  ⟨fun r2 k hr2 hk => (mU_k (by omega)).trans (h.1 r2 k hr2 hk), fun k p hk hp => (mU_k (by omega)).trans (h.2.1 k p hk hp), fun k v hk hv => (mU_k (by omega)).trans (h.2.2 k v hk hv)⟩
/-- the lowest root layer that holds just what base b shows -/
def rfd (A : Nat → Nat → Int32) (b k : Nat) : Prop := rootP A b k ∧ ∀ j, j < k → ¬ rootP A b j
theorem rootP_ag {A A1 : Nat → Nat → Int32} {n b j : Nat} (ha : agr A A1 n) (h1 : ∀ q, A1 1 q = A 1 q) (hj : j < n) : rootP A1 b j ↔ rootP A b j := by
  unfold rootP
  rw [ha.1 8 j (by omega) hj, ha.1 9 j (by omega) hj]
  constructor
  · exact fun h => ⟨h.1, fun q hq => by rw [← ha.2.1 j q hj hq, ← h1]; exact h.2 q hq⟩
  · exact fun h => ⟨h.1, fun q hq => by rw [ha.2.1 j q hj hq, h1]; exact h.2 q hq⟩
theorem rfd_ag {A A1 : Nat → Nat → Int32} {n b k : Nat} (h : rfd A b k) (ha : agr A A1 n) (h1 : ∀ q, A1 1 q = A 1 q) (hk : k < n) : rfd A1 b k :=
  ⟨(rootP_ag ha h1 hk).mpr h.1, fun j hj z => h.2 j hj ((rootP_ag ha h1 (by omega)).mp z)⟩
theorem rfd.lst {A : Nat → Nat → Int32} {n b k : Nat} (h : rfd A b k) (hk : k < n) : lst (rootP A b) 0 n (k + 1) := Or.inr ⟨k, rfl, Nat.zero_le _, hk, h.1, fun j _ hj => h.2 j hj⟩
theorem root_ex {n : Nat} {PR PL : Nat → Nat} {S A : Nat → Nat → Int32} (hw : WF n PR PL S A) (hn : n < 420) {b : Nat} (hb : b < 3) :
    ∃ (k1 n1 : Nat) (A2 : Nat → Nat → Int32) (PR1 PL1 : Nat → Nat) (S1 : Nat → Nat → Int32), rootR A n b k1 n1 A2 ∧ WF n1 PR1 PL1 S1 A2 ∧ XT n PR PL S A n1 PR1 PL1 S1 A2 ∧ n1 ≤ n + 1 ∧ k1 < n1 ∧ rfd A2 b k1 ∧ (∀ k j, k < 8 ∨ 12 < k → A2 k j = A k j) ∧ PR1 k1 = 0 ∧ PL1 k1 = 0 := by
  obtain ⟨w0, w1, w2, w3, w4, ⟨p1, p2, p3, p4⟩, w6⟩ := id hw
  obtain ⟨fm, h⟩ := lst_e9 (rootP A b) n
  rcases id h with ⟨e, h0⟩ | ⟨j, e, h0, hj, hP, hlo⟩
  · subst e
    have hag : agr A (rtA A n b) n := agr.mk.up10
    have h9n : rtA A n b 9 n = pI 0 := rtA_9n
    have h12 : rtA A n b 12 n = -1 := by
      unfold rtA mkA
      rw [upR_k (by decide), mU_s]
    have h8 : rtA A n b 8 n = nI 0 := by
      unfold rtA mkA
      rw [upR_k (by decide), mU_k (by decide), mU_s]
    have hx := hw.add (A1 := rtA A n b) (m := 0) hn (Nat.zero_le _) (Nat.zero_le _) hag (fun k j hk => rtA_k (by omega)) h9n (fun v hv => by rw [rtA_11n hv]; exact ⟨0, by decide, rfl⟩) (fun q hq => by
        rw [rtA_10n hq]
        rcases p2 (12 * b + q) (by omega) with h | ⟨j, hj, e⟩
        · exact Or.inl h
        · exact Or.inr (Or.inr ⟨j, by omega, e⟩)) (fun _ => ⟨fun q hq => by rw [rtA_10n hq]; exact gct_2 (p2 _ (by omega)), fun v hv => rtA_11n hv⟩) (Or.inl h12)
    refine ⟨n, n + 1, rtA A n b, _, _, _, Or.inr ⟨h, rfl, rfl, rfl⟩, hx.1, hx.2, Nat.le_refl _, by omega, ⟨⟨⟨h8, h9n⟩, fun q hq => by rw [rtA_10n hq, rtA_k (by decide)]⟩, fun j hj z => h0 j (Nat.zero_le _) hj ((rootP_ag hag (fun q => rtA_k (by decide)) hj).mp z)⟩, fun k j hk => rtA_k hk, if_pos rfl, if_pos rfl⟩
  · subst e
    have hp0 : PR j = 0 := pI_0 ((w1 j hj).2.symm.trans hP.1.2) (by have := (w1 j hj).1; omega)
    exact ⟨j, n, A, PR, PL, S, Or.inl ⟨h, rfl, rfl⟩, hw, XT.rf, by omega, hj, ⟨hP, fun i hi => hlo i (Nat.zero_le _) hi⟩, fun _ _ _ => rfl, hp0, by rw [w3 j hj, hp0]; rfl⟩
/-- the lowest layer that a step with these numbers made of k0 -/
def fnd (A : Nat → Nat → Int32) (k0 : Nat) (w a b its : Int32) (k : Nat) : Prop := mdP A k0 w a b its k ∧ ∀ j, j < k → ¬ mdP A k0 w a b its j
theorem mdP_ag {A A1 : Nat → Nat → Int32} {n k0 k : Nat} {w a b its : Int32} (ha : agr A A1 n) (hk : k < n) : mdP A1 k0 w a b its k ↔ mdP A k0 w a b its k := by
  unfold mdP
  rw [ha.1 8 k (by omega) hk, ha.1 9 k (by omega) hk, ha.1 12 k (by omega) hk, ha.1 13 k (by omega) hk, ha.1 14 k (by omega) hk, ha.1 15 k (by omega) hk]
theorem fnd_ag {A A1 : Nat → Nat → Int32} {n k0 k : Nat} {w a b its : Int32} (h : fnd A k0 w a b its k) (ha : agr A A1 n) (hk : k < n) : fnd A1 k0 w a b its k :=
  ⟨(mdP_ag ha hk).mpr h.1, fun j hj z => h.2 j hj ((mdP_ag ha (by omega)).mp z)⟩
theorem fnd.lst {A : Nat → Nat → Int32} {n k0 k : Nat} {w a b its : Int32} (h : fnd A k0 w a b its k) (hk : k < n) : lst (mdP A k0 w a b its) 0 n (k + 1) := Or.inr ⟨k, rfl, Nat.zero_le _, hk, h.1, fun j _ hj => h.2 j hj⟩
theorem failP_c {A A1 S S1 : Nat → Nat → Int32} {k : Nat} {w a : Int32} (h0 : ∀ j, A1 0 j = A 0 j) (hs : ∀ q, S1 k q = S k q) : failP A1 S1 k w a ↔ failP A S k w a := by
  unfold failP
  simp only [h0, hs]
theorem itsP_c {A A1 : Nat → Nat → Int32} {w a its : Int32} (h0 : ∀ j, A1 0 j = A 0 j) : itsP A1 w a its ↔ itsP A w a its := by
  unfold itsP
  simp only [h0]
theorem lfB_n {A : Nat → Nat → Int32} {n k0 : Nat} {w a b its : Int32} : lfB A n k0 w a b its 8 n = nI 0 ∧ lfB A n k0 w a b its 9 n = pI (k0 + 1) ∧ lfB A n k0 w a b its 12 n = w ∧ lfB A n k0 w a b its 13 n = a ∧ lfB A n k0 w a b its 14 n = b ∧ lfB A n k0 w a b its 15 n = its := by
  unfold lfB mkA
  refine ⟨?_, ?_, ?_, ?_, ?_, mU_s⟩
  · rw [mU_k (by decide), mU_k (by decide), mU_k (by decide), mU_k (by decide), mU_k (by decide), mU_s]
  · rw [mU_k (by decide), mU_k (by decide), mU_k (by decide), mU_k (by decide), mU_k (by decide), mU_k (by decide), mU_s]
  · rw [mU_k (by decide), mU_k (by decide), mU_k (by decide), mU_s]
  · rw [mU_k (by decide), mU_k (by decide), mU_s]
  · rw [mU_k (by decide), mU_s]
theorem lfB_10n {A : Nat → Nat → Int32} {n k0 q : Nat} {w a b its : Int32} (hq : q < 12) : lfB A n k0 w a b its 10 (12 * n + q) = -1 := by
  unfold lfB
  rw [mU_k (by decide), mU_k (by decide), mU_k (by decide), mU_k (by decide), mkA_10n hq]
theorem lfB_11n {A : Nat → Nat → Int32} {n k0 q : Nat} {w a b its : Int32} (hq : q < 4) : lfB A n k0 w a b its 11 (4 * n + q) = A 11 (4 * k0 + q) := by
  unfold lfB
  rw [mU_k (by decide), mU_k (by decide), mU_k (by decide), mU_k (by decide), mkA_11n hq]
  rfl
theorem lfB_ag {A : Nat → Nat → Int32} {n k0 : Nat} {w a b its : Int32} : agr A (lfB A n k0 w a b its) n := (((agr.mk.mr (by decide) (by decide)).mr (by decide) (by decide)).mr (by decide) (by decide)).mr (by decide) (by decide)
theorem mU_e {A : Nat → Nat → Int32} {k lo p q : Nat} {x : Int32} : mU A k (lo + q) x k (lo + p) = if p = q then x else A k (lo + p) := by
  by_cases e : p = q
  · rw [if_pos e, e, mU_s]
  · rw [if_neg e, mU_j (by omega)]
theorem shw_m1 {k : Nat} {S : Nat → Nat → Int32} {q : Nat} : shw (-1) (k + 1) S q = S k q := if_pos rfl
theorem shw_m2 {m : Nat} {S : Nat → Nat → Int32} {q : Nat} : shw (-2) m S q = -1 := by
  unfold shw
  rw [if_neg (by decide), if_pos rfl]
theorem shw_ge {x : Int32} {m : Nat} {S : Nat → Nat → Int32} {q : Nat} (h : gin x 10007) : shw x m S q = x := by
  obtain ⟨j, hj, rfl⟩ := h
  unfold shw
  rw [if_neg (gn_ne1 (by omega)), if_neg (gn_ne2 (by omega))]
theorem lfR_e9 {n k0 : Nat} {PR PL : Nat → Nat} {S A : Nat → Nat → Int32} (hw : WF n PR PL S A) (hn : n < 420) (hk0 : k0 < n) (hd : PL k0 + 1 ≤ 10) {w a b its : Int32} (hv : vIns w a b) (hf : ¬ failP A S k0 w a) (hi : itsP A w a its) :
    ∃ A1 : Nat → Nat → Int32, lfR A n k0 S w a b its A1 ∧ A1 8 n = nI 0 ∧ A1 9 n = pI (k0 + 1) ∧ A1 12 n = w ∧ A1 13 n = a ∧ A1 14 n = b ∧ A1 15 n = its ∧ agr A A1 n ∧ (∀ v, v < 4 → gin (A1 11 (4 * n + v)) 1000) ∧ (∀ q, q < 12 → cOH (A1 10 (12 * n + q))) ∧ car its (S k0) (vsA A k0) w a b (fun q => shw (A1 10 (12 * n + q)) (k0 + 1) S q) (vsA A1 n) := by
  obtain ⟨w0, w1, w2, w3, w4, ⟨p1, p2, p3, p4⟩, w6⟩ := id hw
  obtain ⟨b8, b9, b12, b13, b14, b15⟩ := lfB_n (A := A) (n := n) (k0 := k0) (w := w) (a := a) (b := b) (its := its)
  have hB := lfB_ag (A := A) (n := n) (k0 := k0) (w := w) (a := a) (b := b) (its := its)
  have hV : ∀ v, v < 4 → gin (lfB A n k0 w a b its 11 (4 * n + v)) 1000 := fun v hv => by rw [lfB_11n hv]; exact p4 k0 v hk0 hv
  have o1 : cOH (-1) := Or.inl rfl
  have o2 : cOH (-2) := Or.inr (Or.inl rfl)
  have big : ∀ {k : Nat}, k ≠ 10 → ∀ q x, mU (lfB A n k0 w a b its) 10 (12 * n + q) x k n = lfB A n k0 w a b its k n := fun h q x => mU_k h
  rcases id hv with ⟨e, ⟨j, hj, ea⟩, ⟨q, hq, eb⟩⟩ | ⟨e, ⟨q, hq, ea⟩, ⟨v, hv4, eb⟩⟩ | ⟨e, ⟨q, hq, ea⟩, ⟨r, hr, eb⟩, hne⟩ | ⟨e, ⟨q, hq, ea⟩⟩ | ⟨e, ⟨v, hv4, ea⟩, hb⟩
  · -- COPY
    have hits : gin its 10007 := by
      rcases hi with ⟨-, j2, hj2, ea2, e2⟩ | ⟨z, -⟩
      · have ej : j2 = j := gn_inj (by omega) (by omega) (ea2.symm.trans ea)
        subst ej
        rcases p1 j2 hj2 with h | ⟨x, hx, ex⟩
        · exact absurd (Or.inl ⟨e, j2, hj2, ea, h⟩) hf
        · exact ⟨x, by omega, e2.trans ex⟩
      · exact absurd e z
    refine ⟨mU (lfB A n k0 w a b its) 10 (12 * n + q) its, Or.inl ⟨e, q, hq, eb, rfl⟩, (mU_k (by decide)).trans b8, (mU_k (by decide)).trans b9, (mU_k (by decide)).trans b12, (mU_k (by decide)).trans b13, (mU_k (by decide)).trans b14, (mU_k (by decide)).trans b15, hB.m10, fun v hv => by rw [mU_k (by decide)]; exact hV v hv, fun p hp => ?_, Or.inl ⟨e, q, hq, eb, fun p hp => ?_, fun v hv => ?_⟩⟩
    · rw [mU_e]
      split
      · exact Or.inr (Or.inr hits)
      · rw [lfB_10n hp]; exact o1
    · show shw (mU (lfB A n k0 w a b its) 10 (12 * n + q) its 10 (12 * n + p)) (k0 + 1) S p = _
      rw [mU_e]
      split
      · exact shw_ge hits
      · rw [lfB_10n hp]; exact shw_m1
    · show mU (lfB A n k0 w a b its) 10 (12 * n + q) its 11 (4 * n + v) = _
      rw [mU_k (by decide), lfB_11n hv]; rfl
  · -- RUN
    have hg : gin (runV (S k0 q) (A 11 (4 * k0 + v))) 10007 := runV_ok (p3 k0 q hk0 hq) (p4 k0 v hk0 hv4)
    refine ⟨mU (lfB A n k0 w a b its) 10 (12 * n + q) (runV (S k0 q) (A 11 (4 * k0 + v))), Or.inr (Or.inl ⟨e, q, v, hq, hv4, ea, eb, rfl⟩), (mU_k (by decide)).trans b8, (mU_k (by decide)).trans b9, (mU_k (by decide)).trans b12, (mU_k (by decide)).trans b13, (mU_k (by decide)).trans b14, (mU_k (by decide)).trans b15, hB.m10, fun v hv => by rw [mU_k (by decide)]; exact hV v hv, fun p hp => ?_, Or.inr (Or.inl ⟨e, q, v, hq, hv4, ea, eb, fun p hp => ?_, fun v hv => ?_⟩)⟩
    · rw [mU_e]
      split
      · exact Or.inr (Or.inr hg)
      · rw [lfB_10n hp]; exact o1
    · show shw (mU (lfB A n k0 w a b its) 10 (12 * n + q) _ 10 (12 * n + p)) (k0 + 1) S p = _
      rw [mU_e]
      split
      · exact shw_ge hg
      · rw [lfB_10n hp]; exact shw_m1
    · show mU (lfB A n k0 w a b its) 10 (12 * n + q) _ 11 (4 * n + v) = _
      rw [mU_k (by decide), lfB_11n hv]; rfl
  · -- MOVE
    have hqr : q ≠ r := fun z => hne (by rw [ea, eb, z])
    have hs : gin (S k0 q) 10007 := by
      rcases p3 k0 q hk0 hq with h | h
      · exact absurd (Or.inr ⟨Or.inl e, q, hq, ea, h⟩) hf
      · exact h
    refine ⟨mU (mU (lfB A n k0 w a b its) 10 (12 * n + r) (S k0 q)) 10 (12 * n + q) (-2), Or.inr (Or.inr (Or.inl ⟨e, q, r, hq, hr, ea, eb, rfl⟩)), (mU_k (by decide)).trans ((mU_k (by decide)).trans b8), (mU_k (by decide)).trans ((mU_k (by decide)).trans b9), (mU_k (by decide)).trans ((mU_k (by decide)).trans b12), (mU_k (by decide)).trans ((mU_k (by decide)).trans b13), (mU_k (by decide)).trans ((mU_k (by decide)).trans b14), (mU_k (by decide)).trans ((mU_k (by decide)).trans b15), hB.m10.m10, fun v hv => by rw [mU_k (by decide), mU_k (by decide)]; exact hV v hv, fun p hp => ?_, Or.inr (Or.inr (Or.inl ⟨e, q, r, hq, hr, hqr, ea, eb, fun p hp => ?_, fun v hv => ?_⟩))⟩
    · rw [mU_e]
      split
      · exact o2
      · rw [mU_e]
        split
        · exact Or.inr (Or.inr hs)
        · rw [lfB_10n hp]; exact o1
    · show shw (mU (mU (lfB A n k0 w a b its) 10 (12 * n + r) _) 10 (12 * n + q) (-2) 10 (12 * n + p)) (k0 + 1) S p = _
      rw [mU_e]
      split
      · exact shw_m2
      · rw [mU_e]
        split
        · exact shw_ge hs
        · rw [lfB_10n hp]; exact shw_m1
    · show mU (mU (lfB A n k0 w a b its) 10 (12 * n + r) _) 10 (12 * n + q) (-2) 11 (4 * n + v) = _
      rw [mU_k (by decide), mU_k (by decide), lfB_11n hv]; rfl
  · -- REMOVE
    refine ⟨mU (lfB A n k0 w a b its) 10 (12 * n + q) (-2), Or.inr (Or.inr (Or.inr (Or.inl ⟨e, q, hq, ea, rfl⟩))), (mU_k (by decide)).trans b8, (mU_k (by decide)).trans b9, (mU_k (by decide)).trans b12, (mU_k (by decide)).trans b13, (mU_k (by decide)).trans b14, (mU_k (by decide)).trans b15, hB.m10, fun v hv => by rw [mU_k (by decide)]; exact hV v hv, fun p hp => ?_, Or.inr (Or.inr (Or.inr (Or.inl ⟨e, q, hq, ea, fun p hp => ?_, fun v hv => ?_⟩)))⟩
    · rw [mU_e]
      split
      · exact o2
      · rw [lfB_10n hp]; exact o1
    · show shw (mU (lfB A n k0 w a b its) 10 (12 * n + q) (-2) 10 (12 * n + p)) (k0 + 1) S p = _
      rw [mU_e]
      split
      · exact shw_m2
      · rw [lfB_10n hp]; exact shw_m1
    · show mU (lfB A n k0 w a b its) 10 (12 * n + q) (-2) 11 (4 * n + v) = _
      rw [mU_k (by decide), lfB_11n hv]; rfl
  · -- SET
    refine ⟨mU (lfB A n k0 w a b its) 11 (4 * n + v) b, Or.inr (Or.inr (Or.inr (Or.inr ⟨e, v, hv4, ea, rfl⟩))), (mU_k (by decide)).trans b8, (mU_k (by decide)).trans b9, (mU_k (by decide)).trans b12, (mU_k (by decide)).trans b13, (mU_k (by decide)).trans b14, (mU_k (by decide)).trans b15, hB.m11, fun z hz => ?_, fun p hp => ?_, Or.inr (Or.inr (Or.inr (Or.inr ⟨e, v, hv4, ea, fun p hp => ?_, fun z hz => ?_⟩)))⟩
    · rw [mU_e]
      split
      · exact hb
      · exact hV z hz
    · rw [mU_k (by decide), lfB_10n hp]; exact o1
    · show shw (mU (lfB A n k0 w a b its) 11 (4 * n + v) b 10 (12 * n + p)) (k0 + 1) S p = _
      rw [mU_k (by decide), lfB_10n hp]; exact shw_m1
    · show mU (lfB A n k0 w a b its) 11 (4 * n + v) b 11 (4 * n + z) = _
      rw [mU_e, lfB_11n hz]; rfl
def IVf (I : Nat → Int32) (n : Nat) (go co m d ly hi mi : Int32) : Nat → Int32 := fun k => if k = 7 then nI n else if k = 17 then go else if k = 18 then co else if k = 19 then m else if k = 20 then d else if k = 24 then ly else if k = 25 then hi else if k = 26 then mi else I k
theorem iV_f {I : Nat → Int32} {n : Nat} {go co m d ly hi mi : Int32} : iV (IVf I n go co m d ly hi mi) n go co m d ly hi mi := ⟨rfl, rfl, rfl, rfl, rfl, rfl, rfl, rfl⟩
theorem its_ex {A : Nat → Nat → Int32} {w a b : Int32} (hv : vIns w a b) : ∃ its, itsP A w a its := by
  by_cases e : w = nI 0
  · obtain ⟨j, hj, ea⟩ := vIns_8 hv e
    exact ⟨A 0 j, Or.inl ⟨e, j, hj, ea, rfl⟩⟩
  · exact ⟨nI 0, Or.inr ⟨e, rfl⟩⟩
theorem vIns_n9 {w a b : Int32} (hv : vIns w a b) : w ≠ -1 := by
  rintro rfl
  rcases hv with ⟨e, -⟩ | ⟨e, -⟩ | ⟨e, -⟩ | ⟨e, -⟩ | ⟨e, -⟩ <;> exact absurd e (by decide)
/-- one step: it fails, or is a hit, or makes a layer -/
theorem go_ex {n k0 d m : Nat} {PR PL : Nat → Nat} {S A : Nat → Nat → Int32} (I : Nat → Int32) (hw : WF n PR PL S A) (hn : n < 420) (hk0 : k0 < n) (hd : PL k0 + 1 ≤ 10) (hv : vIns (A 21 d) (A 22 d) (A 23 d)) :
    (failP A S k0 (A 21 d) (A 22 d) ∧ goR A I n S k0 d m (-1) A (IVf I n (nI 0) (nI 0) (nI m) (nI d) (nI k0) (I 25) (I 26))) ∨
    (¬ failP A S k0 (A 21 d) (A 22 d) ∧ ∃ (its : Int32) (k1 n1 : Nat) (PR1 PL1 : Nat → Nat) (S1 A1 : Nat → Nat → Int32) (x y : Nat), itsP A (A 21 d) (A 22 d) its ∧ goR A I n S k0 d m (nI k1) A1 (IVf I n1 (nI (if d + 1 = m then 0 else 1)) (nI (if d + 1 = m then 1 else 0)) (nI m) (nI (d + 1)) (nI k1) (I 25 + nI x) (I 26 + nI y)) ∧ x + y = 1 ∧ WF n1 PR1 PL1 S1 A1 ∧ XT n PR PL S A n1 PR1 PL1 S1 A1 ∧ n1 ≤ n + 1 ∧ k1 < n1 ∧ fnd A1 k0 (A 21 d) (A 22 d) (A 23 d) its k1 ∧ PR1 k1 = k0 + 1 ∧ ∀ k j, (k < 8 ∨ 15 < k) → A1 k j = A k j) := by
  by_cases hf : failP A S k0 (A 21 d) (A 22 d)
  · exact Or.inl ⟨hf, Or.inl ⟨hf, rfl, rfl, iV_f, rfl⟩⟩
  · refine Or.inr ⟨hf, ?_⟩
    obtain ⟨w0, w1, w2, w3, w4, w5, w6⟩ := id hw
    obtain ⟨its, hi⟩ := its_ex (A := A) hv
    obtain ⟨fm, h⟩ := lst_e9 (mdP A k0 (A 21 d) (A 22 d) (A 23 d) its) n
    rcases id h with ⟨e, h0⟩ | ⟨j, e, h0, hj, hP, hlo⟩
    · subst e
      obtain ⟨A1, hl, g8, g9, g12, g13, g14, g15, hag, hvv, hhh, hcar⟩ := lfR_e9 hw hn hk0 hd hv hf hi
      have hx := hw.add (A1 := A1) (m := k0 + 1) hn hk0 hd hag (fun k j hk => lfR_k hl (Or.inl (by omega))) g9 hvv hhh (fun z => by omega) (Or.inr ⟨k0, rfl, by rw [g12, g13, g14, g15]; exact hcar⟩)
      refine ⟨its, n, n + 1, _, _, _, A1, 0, 1, hi, Or.inr ⟨hf, its, 0, n, n + 1, hi, h, rfl, rfl, Or.inr ⟨rfl, rfl, rfl, hl, iV_f⟩⟩, rfl, hx.1, hx.2, Nat.le_refl _, by omega, ⟨⟨g8, g12, g9, g13, g14, g15⟩, fun j hj z => h0 j (Nat.zero_le _) hj ((mdP_ag hag hj).mp z)⟩, if_pos rfl, fun k j hk => lfR_k hl hk⟩
    · subst e
      have hp0 : PR j = k0 + 1 := pI_inj ((w1 j hj).2.symm.trans hP.2.2.1) (by have := (w1 j hj).1; omega) (by omega)
      exact ⟨its, j, n, PR, PL, S, A, 1, 0, hi, Or.inr ⟨hf, its, j + 1, j, n, hi, h, rfl, rfl, Or.inl ⟨rfl, rfl, rfl, iV_f⟩⟩, rfl, hw, XT.rf, by omega, hj, ⟨hP, fun i hi => hlo i (Nat.zero_le _) hi⟩, hp0, fun _ _ _ => rfl⟩
/-- the layers of the steps d to e of a build -/
def pth (A S : Nat → Nat → Int32) (PR : Nat → Nat) (n : Nat) (K : Nat → Nat) (d e : Nat) : Prop :=
  (∀ t, d ≤ t → t ≤ e → K t < n ∧ A 8 (K t) = 0) ∧ ∀ t, d ≤ t → t < e → ¬ failP A S (K t) (A 21 t) (A 22 t) ∧ PR (K (t + 1)) = K t + 1 ∧ ∃ its, itsP A (A 21 t) (A 22 t) its ∧ fnd A (K t) (A 21 t) (A 22 t) (A 23 t) its (K (t + 1))
theorem pth.one {A S : Nat → Nat → Int32} {PR : Nat → Nat} {n k0 d : Nat} (hk : k0 < n) (h8 : A 8 k0 = 0) : pth A S PR n (fun _ => k0) d d := ⟨fun _ _ _ => ⟨hk, h8⟩, fun t h1 h2 => by omega⟩
/-- a step ahead of a row of steps -/
theorem pth.cons {n n1 n2 : Nat} {PR PL PR1 PL1 PR2 PL2 : Nat → Nat} {S A S1 A1 S2 A2 : Nat → Nat → Int32} {k0 k1 d e : Nat} {K : Nat → Nat} {its : Int32} (hf : ¬ failP A S k0 (A 21 d) (A 22 d)) (hi : itsP A (A 21 d) (A 22 d) its) (hfn : fnd A1 k0 (A 21 d) (A 22 d) (A 23 d) its k1) (hk0 : k0 < n) (h8 : A 8 k0 = 0) (hk1 : k1 < n1) (hp : PR1 k1 = k0 + 1) (x1 : XT n PR PL S A n1 PR1 PL1 S1 A1) (x2 : XT n1 PR1 PL1 S1 A1 n2 PR2 PL2 S2 A2) (f1 : ∀ k j, (k < 8 ∨ 15 < k) → A1 k j = A k j) (f2 : ∀ k j, (k < 8 ∨ 15 < k) → A2 k j = A1 k j) (hde : d + 1 ≤ e) (hK : K (d + 1) = k1) (h : pth A2 S2 PR2 n2 K (d + 1) e) : pth A2 S2 PR2 n2 (fun t => if t = d then k0 else K t) d e := by
  have x := x1.tr x2
  have f : ∀ k j, (k < 8 ∨ 15 < k) → A2 k j = A k j := fun k j hk => (f2 k j hk).trans (f1 k j hk)
  obtain ⟨a1, a2, a3, a4, a5⟩ := x
  obtain ⟨b1, b2, b3, b4, b5⟩ := x2
  refine ⟨fun t h1 h2 => ?_, fun t h1 h2 => ?_⟩
  · dsimp only
    by_cases et : t = d
    · rw [if_pos et]
      exact ⟨by omega, by rw [a2.1 8 k0 (by omega) hk0]; exact h8⟩
    · rw [if_neg et]
      exact h.1 t (by omega) h2
  · dsimp only
    by_cases et : t = d
    · subst et
      rw [if_pos rfl, if_neg (by omega), hK, f 21 t (by omega), f 22 t (by omega), f 23 t (by omega)]
      refine ⟨fun z => hf ((failP_c (fun j => f 0 j (by omega)) (fun q => a5 k0 hk0 q)).mp z), by rw [b3 k1 hk1]; exact hp, its, (itsP_c (fun j => f 0 j (by omega))).mpr hi, fnd_ag hfn b2 hk1⟩
    · rw [if_neg et, if_neg (by omega)]
      exact h.2 t (by omega) h2
def runQ (m : Nat) (I : Nat → Int32) (n : Nat) (PR PL : Nat → Nat) (S A : Nat → Nat → Int32) (d k0 u : Nat) (b : Int32) (A1 : Nat → Nat → Int32) (I1 : Nat → Int32) (n1 : Nat) (PR1 PL1 : Nat → Nat) (S1 : Nat → Nat → Int32) (K : Nat → Nat) (e : Nat) : Prop :=
  WF n1 PR1 PL1 S1 A1 ∧ XT n PR PL S A n1 PR1 PL1 S1 A1 ∧ n1 ≤ n + u ∧ (∀ k j, (k < 8 ∨ 15 < k) → A1 k j = A k j) ∧ I1 27 = I 27 ∧ I1 7 = nI n1 ∧ I1 17 = nI 0 ∧ I1 25 + I1 26 = I 25 + I 26 + nI (e - d) ∧ K d = k0 ∧ d ≤ e ∧ e ≤ m ∧ pth A1 S1 PR1 n1 K d e ∧
  ((e < m ∧ failP A1 S1 (K e) (A1 21 e) (A1 22 e) ∧ b = -1 ∧ I1 18 = nI 0) ∨ (e = m ∧ b = nI (K m) ∧ I1 18 = nI 1 ∧ I1 24 = nI (K m)))
theorem add3 (a b : Int32) {x y : Nat} (h : x + y = 1) : a + nI x + (b + nI y) = a + b + nI 1 := by
  have e : (nI 1 : Int32) = nI x + nI y := by rw [nI_add, h]
  rw [e]
  ac_rfl
theorem run_ex (m : Nat) (hm : m ≤ 10) : ∀ (u d k0 n : Nat) (PR PL : Nat → Nat) (S A : Nat → Nat → Int32) (I : Nat → Int32), d + u = m → WF n PR PL S A → n + u ≤ 420 → k0 < n → A 8 k0 = 0 → PL k0 = d → (∀ p, p < m → vIns (A 21 p) (A 22 p) (A 23 p)) → (u = 0 → I 7 = nI n ∧ I 17 = nI 0 ∧ I 18 = nI 1 ∧ I 24 = nI k0) →
    ∃ (b : Int32) (A1 : Nat → Nat → Int32) (I1 : Nat → Int32) (n1 : Nat) (PR1 PL1 : Nat → Nat) (S1 : Nat → Nat → Int32) (K : Nat → Nat) (e : Nat), runR u A I n k0 d m b A1 I1 ∧ runQ m I n PR PL S A d k0 u b A1 I1 n1 PR1 PL1 S1 K e
  | 0, d, k0, n, PR, PL, S, A, I, hdu, hw, hn, hk0, h8, hpl, hv, h0 => by
    obtain ⟨i7, i17, i18, i24⟩ := h0 rfl
    refine ⟨nI k0, A, I, n, PR, PL, S, fun _ => k0, d, ⟨rfl, rfl, rfl⟩, hw, XT.rf, Nat.le_refl _, fun _ _ _ => rfl, rfl, i7, i17, ?_, rfl, Nat.le_refl _, by omega, pth.one hk0 h8, Or.inr ⟨hdu, rfl, i18, i24⟩⟩
    rw [Nat.sub_self]
    exact (Int32.add_zero _).symm
  | u + 1, d, k0, n, PR, PL, S, A, I, hdu, hw, hn, hk0, h8, hpl, hv, _ => by
    obtain ⟨w0, w1, w2, w3, w4, w5, w6⟩ := id hw
    rcases go_ex (m := m) I hw (by omega) hk0 (by omega) (hv d (by omega)) with ⟨hf, hg⟩ | ⟨hf, its, k1, n1, PR1, PL1, S1, A1, x, y, hi, hg, hxy, hw1, hx1, hn1, hk1, hfn, hp1, hfr⟩
    · refine ⟨-1, A, _, n, PR, PL, S, fun _ => k0, d, ⟨PR, S, _, _, _, w1, w2, hg, Or.inl ⟨rfl, rfl, rfl, rfl⟩⟩, hw, XT.rf, by omega, fun _ _ _ => rfl, rfl, rfl, rfl, ?_, rfl, Nat.le_refl _, by omega, pth.one hk0 h8, Or.inl ⟨by omega, hf, rfl, rfl⟩⟩
      rw [Nat.sub_self]
      exact (Int32.add_zero _).symm
    · have hp8 : A1 8 k1 = 0 := hfn.1.1
      have hpl1 : PL1 k1 = d + 1 := by
        obtain ⟨v0, v1, v2, v3, v4, v5, v6⟩ := hw1
        rw [v3 k1 hk1, hp1, ← hpl]
        show PL1 k0 + 1 = PL k0 + 1
        rw [hx1.2.2.2.1 k0 hk0]
      by_cases hlast : d + 1 = m
      · have hgo : (IVf I n1 (nI (if d + 1 = m then 0 else 1)) (nI (if d + 1 = m then 1 else 0)) (nI m) (nI (d + 1)) (nI k1) (I 25 + nI x) (I 26 + nI y)) 17 = 0 := by
          show nI (if d + 1 = m then 0 else 1) = 0
          rw [if_pos hlast]
          rfl
        refine ⟨nI k1, A1, _, n1, PR1, PL1, S1, fun t => if t = d then k0 else k1, m, ⟨PR, S, _, _, _, w1, w2, hg, Or.inl ⟨hgo, rfl, rfl, rfl⟩⟩, hw1, hx1, by omega, hfr, rfl, rfl, hgo, ?_, if_pos rfl, by omega, Nat.le_refl _, ?_, Or.inr ⟨rfl, by show nI k1 = nI (if m = d then k0 else k1); rw [if_neg (by omega)], ?_, by show nI k1 = nI (if m = d then k0 else k1); rw [if_neg (by omega)]⟩⟩
        · rw [show m - d = 1 by omega]
          exact add3 _ _ hxy
        · exact pth.cons (K := fun _ => k1) hf hi hfn hk0 h8 hk1 hp1 hx1 XT.rf hfr (fun _ _ _ => rfl) (by omega) rfl (by rw [hlast]; exact pth.one hk1 hp8)
        · show nI (if d + 1 = m then 1 else 0) = nI 1
          rw [if_pos hlast]
      · have hgo : ¬ (IVf I n1 (nI (if d + 1 = m then 0 else 1)) (nI (if d + 1 = m then 1 else 0)) (nI m) (nI (d + 1)) (nI k1) (I 25 + nI x) (I 26 + nI y)) 17 = 0 := by
          show ¬ nI (if d + 1 = m then 0 else 1) = 0
          rw [if_neg hlast]
          decide
        obtain ⟨b, A2, I2, n2, PR2, PL2, S2, K, e, hr, q1, q2, q3, q4, q5, q6, q7, q8, q9, q10, q11, q12, q13⟩ := run_ex m hm u (d + 1) k1 n1 PR1 PL1 S1 A1 (IVf I n1 (nI (if d + 1 = m then 0 else 1)) (nI (if d + 1 = m then 1 else 0)) (nI m) (nI (d + 1)) (nI k1) (I 25 + nI x) (I 26 + nI y)) (by omega) hw1 (by omega) hk1 hp8 hpl1 (fun p hp => by rw [hfr 21 p (by omega), hfr 22 p (by omega), hfr 23 p (by omega)]; exact hv p hp) (fun z => by omega)
        have ed : ¬ e = d := by omega
        have md : ¬ m = d := by omega
        refine ⟨b, A2, I2, n2, PR2, PL2, S2, fun t => if t = d then k0 else K t, e, ⟨PR, S, _, _, _, w1, w2, hg, Or.inr ⟨hgo, n1, k1, rfl, rfl, by omega, hk1, hr⟩⟩, q1, hx1.tr q2, by omega, fun k j hk => (q4 k j hk).trans (hfr k j hk), q5, q6, q7, ?_, if_pos rfl, by omega, q11, pth.cons hf hi hfn hk0 h8 hk1 hp1 hx1 q2 hfr q4 q10 q9 q12, ?_⟩
        · rw [q8]
          show I 25 + nI x + (I 26 + nI y) + nI (e - (d + 1)) = _
          rw [add3 _ _ hxy, show e - d = 1 + (e - (d + 1)) by omega, ← nI_add, Int32.add_assoc]
        · dsimp only
          rw [if_neg ed, if_neg md]
          exact q13

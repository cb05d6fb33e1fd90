/-! ===== what the property stands on, I: layers and how they came about ===== -/
def cOH (x : Int32) : Prop := x = -1 ∨ x = -2 ∨ gin x 10007
/-- an instruction carried out: what is shown, and the values -/
def car (its : Int32) (c u : Nat → Int32) (w a b : Int32) (c1 u1 : Nat → Int32) : Prop :=
  (w = nI 0 ∧ ∃ q, q < 12 ∧ b = nI q ∧ (∀ p, p < 12 → c1 p = if p = q then its else c p) ∧ ∀ v, v < 4 → u1 v = u v) ∨
  (w = nI 1 ∧ ∃ q v, q < 12 ∧ v < 4 ∧ a = nI q ∧ b = nI v ∧ (∀ p, p < 12 → c1 p = if p = q then runV (c q) (u v) else c p) ∧ ∀ v, v < 4 → u1 v = u v) ∨
  (w = nI 2 ∧ ∃ q r, q < 12 ∧ r < 12 ∧ q ≠ r ∧ a = nI q ∧ b = nI r ∧ (∀ p, p < 12 → c1 p = if p = q then -1 else if p = r then c q else c p) ∧ ∀ v, v < 4 → u1 v = u v) ∨
  (w = nI 3 ∧ ∃ q, q < 12 ∧ a = nI q ∧ (∀ p, p < 12 → c1 p = if p = q then -1 else c p) ∧ ∀ v, v < 4 → u1 v = u v) ∨
  (w = nI 4 ∧ ∃ v, v < 4 ∧ a = nI v ∧ (∀ p, p < 12 → c1 p = c p) ∧ ∀ z, z < 4 → u1 z = if z = v then b else u z)
theorem car_u {its its' : Int32} {c u c' u' : Nat → Int32} {w a b : Int32} {c1 u1 c2 u2 : Nat → Int32} (h1 : car its c u w a b c1 u1) (h2 : car its' c' u' w a b c2 u2) (hi : w = nI 0 → its' = its) (hc : ∀ p, p < 12 → c' p = c p) (hu : ∀ v, v < 4 → u' v = u v) : (∀ p, p < 12 → c2 p = c1 p) ∧ ∀ v, v < 4 → u2 v = u1 v := by
  rcases h1 with ⟨e, q, hq, hb, g1, g2⟩ | ⟨e, q, v, hq, hv, ha, hb, g1, g2⟩ | ⟨e, q, r, hq, hr, hne, ha, hb, g1, g2⟩ | ⟨e, q, hq, ha, g1, g2⟩ | ⟨e, v, hv, ha, g1, g2⟩ <;> rcases h2 with ⟨e', q', hq', hb', g3, g4⟩ | ⟨e', q', v', hq', hv', ha', hb', g3, g4⟩ | ⟨e', q', r', hq', hr', hne', ha', hb', g3, g4⟩ | ⟨e', q', hq', ha', g3, g4⟩ | ⟨e', v', hv', ha', g3, g4⟩ <;> first | exact absurd (e.symm.trans e') (by decide) | skip
  · have eq : q = q' := gn_inj (by omega) (by omega) (hb.symm.trans hb')
    subst eq
    exact ⟨fun p hp => by rw [g1 p hp, g3 p hp, hi e, hc p hp], fun v hv => by rw [g2 v hv, g4 v hv, hu v hv]⟩
  · have eq : q = q' := gn_inj (by omega) (by omega) (ha.symm.trans ha')
    have ev : v = v' := gn_inj (by omega) (by omega) (hb.symm.trans hb')
    subst eq
    subst ev
    exact ⟨fun p hp => by rw [g1 p hp, g3 p hp, hc p hp, hc q hq, hu v hv], fun v hv => by rw [g2 v hv, g4 v hv, hu v hv]⟩
  · have eq : q = q' := gn_inj (by omega) (by omega) (ha.symm.trans ha')
    have er : r = r' := gn_inj (by omega) (by omega) (hb.symm.trans hb')
    subst eq
    subst er
    exact ⟨fun p hp => by rw [g1 p hp, g3 p hp, hc p hp, hc q hq], fun v hv => by rw [g2 v hv, g4 v hv, hu v hv]⟩
  · have eq : q = q' := gn_inj (by omega) (by omega) (ha.symm.trans ha')
    subst eq
    exact ⟨fun p hp => by rw [g1 p hp, g3 p hp, hc p hp], fun v hv => by rw [g2 v hv, g4 v hv, hu v hv]⟩
  · have ev : v = v' := gn_inj (by omega) (by omega) (ha.symm.trans ha')
    subst ev
    exact ⟨fun p hp => by rw [g1 p hp, g3 p hp, hc p hp], fun z hz => by rw [g2 z hz, g4 z hz, hu z hz]⟩
def vsA (A : Nat → Nat → Int32) (k : Nat) : Nat → Int32 := fun v => A 11 (4 * k + v)
def vHR (A : Nat → Nat → Int32) (n : Nat) : Prop := ∀ k q, k < n → q < 12 → cOH (A 10 (12 * k + q))
def vRT (A : Nat → Nat → Int32) (n : Nat) (PR : Nat → Nat) : Prop := ∀ k, k < n → PR k = 0 → (∀ q, q < 12 → A 10 (12 * k + q) ≠ -2) ∧ ∀ v, v < 4 → A 11 (4 * k + v) = nI 0
/-- how layer k was made of its parent j -/
def mkd (A : Nat → Nat → Int32) (S : Nat → Nat → Int32) (k j : Nat) : Prop := car (A 15 k) (S j) (vsA A j) (A 12 k) (A 13 k) (A 14 k) (S k) (vsA A k)
def vCA (A : Nat → Nat → Int32) (n : Nat) (PR : Nat → Nat) (S : Nat → Nat → Int32) : Prop := ∀ k, k < n → A 12 k ≠ -1 → ∃ j, PR k = j + 1 ∧ mkd A S k j
def INV (A : Nat → Nat → Int32) (n : Nat) (PR : Nat → Nat) (S : Nat → Nat → Int32) : Prop := vHR A n ∧ vRT A n PR ∧ vCA A n PR S
/-- the cells of the layers below n are as they were -/
def agr (A A1 : Nat → Nat → Int32) (n : Nat) : Prop := (∀ r k, (r = 8 ∨ r = 9 ∨ (12 ≤ r ∧ r ≤ 15)) → k < n → A1 r k = A r k) ∧ (∀ k q, k < n → q < 12 → A1 10 (12 * k + q) = A 10 (12 * k + q)) ∧ ∀ k v, k < n → v < 4 → A1 11 (4 * k + v) = A 11 (4 * k + v)
/-- .. but for whether they are gone -/
def agw (A A1 : Nat → Nat → Int32) (n : Nat) : Prop := (∀ r k, (r = 9 ∨ (12 ≤ r ∧ r ≤ 15)) → k < n → A1 r k = A r k) ∧ (∀ k q, k < n → q < 12 → A1 10 (12 * k + q) = A 10 (12 * k + q)) ∧ ∀ k v, k < n → v < 4 → A1 11 (4 * k + v) = A 11 (4 * k + v)
theorem agr.w {A A1 : Nat → Nat → Int32} {n : Nat} (h : agr A A1 n) : agw A A1 n := ⟨fun r k hr hk => h.1 r k (Or.inr hr) hk, h.2⟩
theorem agr.rf {A : Nat → Nat → Int32} {n : Nat} : agr A A n := ⟨fun _ _ _ _ => rfl, fun _ _ _ _ => rfl, fun _ _ _ _ => rfl⟩
theorem agr.tr {A A1 A2 : Nat → Nat → Int32} {n n1 : Nat} (h : agr A A1 n) (h2 : agr A1 A2 n1) (hn : n ≤ n1) : agr A A2 n := ⟨fun r k hr hk => (h2.1 r k hr (by omega)).trans (h.1 r k hr hk), fun k q hk hq => (h2.2.1 k q (by omega) hq).trans (h.2.1 k q hk hq), fun k v hk hv => (h2.2.2 k v (by omega) hv).trans (h.2.2 k v hk hv)⟩
theorem agr.of {A A1 : Nat → Nat → Int32} {n : Nat} (h : ∀ k j, 8 ≤ k → k ≤ 15 → A1 k j = A k j) : agr A A1 n := ⟨fun r k hr hk => h r k (by omega) (by omega), fun _ _ _ _ => h _ _ (by decide) (by decide), fun _ _ _ _ => h _ _ (by decide) (by decide)⟩
/-- the ghosts of a world of layers -/
def WF (n : Nat) (PR PL : Nat → Nat) (S A : Nat → Nat → Int32) : Prop := n ≤ 420 ∧ vPar A n PR ∧ vShow A n PR S ∧ vPL n PR PL ∧ (∀ k, k < n → PL k ≤ 10) ∧ pCt n A S ∧ INV A n PR S
/-- what was there is there, and as it was -/
def XT (n : Nat) (PR PL : Nat → Nat) (S A : Nat → Nat → Int32) (n1 : Nat) (PR1 PL1 : Nat → Nat) (S1 A1 : Nat → Nat → Int32) : Prop := n ≤ n1 ∧ agr A A1 n ∧ (∀ k, k < n → PR1 k = PR k) ∧ (∀ k, k < n → PL1 k = PL k) ∧ ∀ k, k < n → ∀ q, S1 k q = S k q
theorem XT.rf {n : Nat} {PR PL : Nat → Nat} {S A : Nat → Nat → Int32} : XT n PR PL S A n PR PL S A := ⟨Nat.le_refl _, agr.rf, fun _ _ => rfl, fun _ _ => rfl, fun _ _ _ => rfl⟩
theorem XT.tr {n n1 n2 : Nat} {PR PL PR1 PL1 PR2 PL2 : Nat → Nat} {S A S1 A1 S2 A2 : Nat → Nat → Int32} (h : XT n PR PL S A n1 PR1 PL1 S1 A1) (h2 : XT n1 PR1 PL1 S1 A1 n2 PR2 PL2 S2 A2) : XT n PR PL S A n2 PR2 PL2 S2 A2 := by
  obtain ⟨a1, a2, a3, a4, a5⟩ := h
  obtain ⟨b1, b2, b3, b4, b5⟩ := h2
  exact ⟨by omega, a2.tr b2 a1, fun k hk => (b3 k (by omega)).trans (a3 k hk), fun k hk => (b4 k (by omega)).trans (a4 k hk), fun k hk q => (b5 k (by omega) q).trans (a5 k hk q)⟩
theorem XT.ag {n : Nat} {PR PL : Nat → Nat} {S A A1 : Nat → Nat → Int32} (h : agr A A1 n) : XT n PR PL S A n PR PL S A1 := ⟨Nat.le_refl _, h, fun _ _ => rfl, fun _ _ => rfl, fun _ _ _ => rfl⟩
theorem car_cg {its : Int32} {c u : Nat → Int32} {w a b : Int32} {c1 u1 : Nat → Int32} (h : car its c u w a b c1 u1) {c' u' c1' u1' : Nat → Int32} (hc : ∀ p, p < 12 → c' p = c p) (hu : ∀ v, v < 4 → u' v = u v) (hc1 : ∀ p, p < 12 → c1' p = c1 p) (hu1 : ∀ v, v < 4 → u1' v = u1 v) : car its c' u' w a b c1' u1' := by
  rcases h with ⟨e, q, hq, hb, g1, g2⟩ | ⟨e, q, v, hq, hv, ha, hb, g1, g2⟩ | ⟨e, q, r, hq, hr, hne, ha, hb, g1, g2⟩ | ⟨e, q, hq, ha, g1, g2⟩ | ⟨e, v, hv, ha, g1, g2⟩
  · exact Or.inl ⟨e, q, hq, hb, fun p hp => by rw [hc1 p hp, g1 p hp, hc p hp], fun v hv => by rw [hu1 v hv, g2 v hv, hu v hv]⟩
  · exact Or.inr (Or.inl ⟨e, q, v, hq, hv, ha, hb, fun p hp => by rw [hc1 p hp, g1 p hp, hc p hp, hc q hq, hu v hv], fun v hv => by rw [hu1 v hv, g2 v hv, hu v hv]⟩)
  · exact Or.inr (Or.inr (Or.inl ⟨e, q, r, hq, hr, hne, ha, hb, fun p hp => by rw [hc1 p hp, g1 p hp, hc p hp, hc q hq], fun v hv => by rw [hu1 v hv, g2 v hv, hu v hv]⟩))
  · exact Or.inr (Or.inr (Or.inr (Or.inl ⟨e, q, hq, ha, fun p hp => by rw [hc1 p hp, g1 p hp, hc p hp], fun v hv => by rw [hu1 v hv, g2 v hv, hu v hv]⟩)))
  · exact Or.inr (Or.inr (Or.inr (Or.inr ⟨e, v, hv, ha, fun p hp => by rw [hc1 p hp, g1 p hp, hc p hp], fun z hz => by rw [hu1 z hz, g2 z hz, hu z hz]⟩)))
/-- cells of the layers alone count -/
theorem INV.ag {A A1 : Nat → Nat → Int32} {n : Nat} {PR : Nat → Nat} {S : Nat → Nat → Int32} (h : INV A n PR S) (hp : ∀ k, k < n → PR k ≤ k) (ha : agw A A1 n) : INV A1 n PR S := by
  obtain ⟨h1, h2, h3⟩ := h
  obtain ⟨a1, a2, a3⟩ := ha
  refine ⟨fun k q hk hq => by rw [a2 k q hk hq]; exact h1 k q hk hq, fun k hk hz => ⟨fun q hq => by rw [a2 k q hk hq]; exact (h2 k hk hz).1 q hq, fun v hv => by rw [a3 k v hk hv]; exact (h2 k hk hz).2 v hv⟩, fun k hk h12 => ?_⟩
  rw [a1 12 k (by omega) hk] at h12
  obtain ⟨j, hj, hm⟩ := h3 k hk h12
  have := hp k hk
  refine ⟨j, hj, ?_⟩
  unfold mkd at hm ⊢
  rw [a1 12 k (by omega) hk, a1 13 k (by omega) hk, a1 14 k (by omega) hk, a1 15 k (by omega) hk]
  exact car_cg hm (fun _ _ => rfl) (fun v hv => a3 j v (by omega) hv) (fun _ _ => rfl) (fun v hv => a3 k v hk hv)
theorem WF.ag {n : Nat} {PR PL : Nat → Nat} {S A A1 : Nat → Nat → Int32} (h : WF n PR PL S A) (ha : agw A A1 n) (h01 : ∀ k j, k < 2 → A1 k j = A k j) : WF n PR PL S A1 := by
  obtain ⟨w0, w1, w2, w3, w4, ⟨p1, p2, p3, p4⟩, w6⟩ := h
  refine ⟨w0, fun k hk => ⟨(w1 k hk).1, by rw [ha.1 9 k (by omega) hk]; exact (w1 k hk).2⟩, w2.cg (fun k q hk hq => ha.2.1 k q hk hq), w3, w4, ⟨fun j hj => by rw [h01 0 j (by decide)]; exact p1 j hj, fun j hj => by rw [h01 1 j (by decide)]; exact p2 j hj, p3, fun k q hk hq => by rw [ha.2.2 k q hk hq]; exact p4 k q hk hq⟩, w6.ag (fun k hk => (w1 k hk).1) ha⟩
def PLx (PL : Nat → Nat) (n m : Nat) : Nat → Nat := fun k => if k = n then dpt PL m else PL k
theorem shw_okk {h : Int32} {m q : Nat} {S : Nat → Nat → Int32} (hh : cOH h) (hs : ∀ j, m = j + 1 → cOK (S j q)) : cOK (shw h m S q) := by
  unfold shw
  by_cases e : h = -1
  · rw [if_pos e]
    cases m with
    | zero => exact Or.inl rfl
    | succ j => exact hs j rfl
  · rw [if_neg e]
    by_cases e2 : h = -2
    · rw [if_pos e2]; exact Or.inl rfl
    · rw [if_neg e2]
      rcases hh with z | z | z
      · exact absurd z e
      · exact absurd z e2
      · exact Or.inr z
/-- a layer more -/
theorem WF.add {n m : Nat} {PR PL : Nat → Nat} {S A A1 : Nat → Nat → Int32} (h : WF n PR PL S A) (hn : n < 420) (hm : m ≤ n) (hd : dpt PL m ≤ 10) (ha : agr A A1 n) (h01 : ∀ k j, k < 2 → A1 k j = A k j) (h9 : A1 9 n = pI m) (hv : ∀ v, v < 4 → gin (A1 11 (4 * n + v)) 1000) (hh : ∀ q, q < 12 → cOH (A1 10 (12 * n + q))) (hr : m = 0 → (∀ q, q < 12 → A1 10 (12 * n + q) ≠ -2) ∧ ∀ v, v < 4 → A1 11 (4 * n + v) = nI 0)
    (hc : A1 12 n = -1 ∨ ∃ j, m = j + 1 ∧ car (A1 15 n) (S j) (vsA A j) (A1 12 n) (A1 13 n) (A1 14 n) (fun q => shw (A1 10 (12 * n + q)) m S q) (vsA A1 n)) :
    WF (n + 1) (PRx PR n m) (PLx PL n m) (Sx S n (fun q => shw (A1 10 (12 * n + q)) m S q)) A1 ∧ XT n PR PL S A (n + 1) (PRx PR n m) (PLx PL n m) (Sx S n (fun q => shw (A1 10 (12 * n + q)) m S q)) A1 := by
  obtain ⟨w0, w1, w2, w3, w4, ⟨p1, p2, p3, p4⟩, ⟨v1, v2, v3⟩⟩ := h
  have xp : ∀ k, k < n → PRx PR n m k = PR k := fun k hk => if_neg (by omega)
  have xl : ∀ k, k < n → PLx PL n m k = PL k := fun k hk => if_neg (by omega)
  have xs : ∀ k, k < n → ∀ q, Sx S n (fun q => shw (A1 10 (12 * n + q)) m S q) k q = S k q := fun k hk q => if_neg (by omega)
  have np : PRx PR n m n = m := if_pos rfl
  have nl : PLx PL n m n = dpt PL m := if_pos rfl
  have ns : ∀ q, Sx S n (fun q => shw (A1 10 (12 * n + q)) m S q) n q = shw (A1 10 (12 * n + q)) m S q := fun q => if_pos rfl
  have dp : ∀ k, k ≤ n → dpt (PLx PL n m) k = dpt PL k := fun k hk => by
    cases k with
    | zero => rfl
    | succ j => exact congrArg (· + 1) (xl j (by omega))
  have hpar := ext_par w1 hm (fun k hk => ha.1 9 k (by omega) hk) h9
  have hsho := ext_sh w1 w2 hm (fun k q hk hq => ha.2.1 k q hk hq)
  refine ⟨⟨by omega, hpar, hsho, fun k hk => ?_, fun k hk => ?_, ⟨fun j hj => by rw [h01 0 j (by decide)]; exact p1 j hj, fun j hj => by rw [h01 1 j (by decide)]; exact p2 j hj, fun k q hk hq => ?_, fun k q hk hq => ?_⟩, ⟨fun k q hk hq => ?_, fun k hk hz => ?_, fun k hk h12 => ?_⟩⟩, by omega, ha, xp, xl, xs⟩
  · by_cases e : k = n
    · subst e
      rw [nl, np, dp m hm]
    · have := (w1 k (by omega)).1
      rw [xl k (by omega), xp k (by omega), dp _ (by omega)]
      exact w3 k (by omega)
  · by_cases e : k = n
    · subst e
      rw [nl]; exact hd
    · rw [xl k (by omega)]; exact w4 k (by omega)
  · by_cases e : k = n
    · subst e
      rw [ns]
      exact shw_okk (hh q hq) (fun j hj => p3 j q (by omega) hq)
    · rw [xs k (by omega)]; exact p3 k q (by omega) hq
  · by_cases e : k = n
    · subst e
      exact hv q hq
    · rw [ha.2.2 k q (by omega) hq]; exact p4 k q (by omega) hq
  · by_cases e : k = n
    · subst e
      exact hh q hq
    · rw [ha.2.1 k q (by omega) hq]; exact v1 k q (by omega) hq
  · by_cases e : k = n
    · subst e
      exact hr (np.symm.trans hz)
    · rw [xp k (by omega)] at hz
      exact ⟨fun q hq => by rw [ha.2.1 k q (by omega) hq]; exact (v2 k (by omega) hz).1 q hq, fun v hv => by rw [ha.2.2 k v (by omega) hv]; exact (v2 k (by omega) hz).2 v hv⟩
  · by_cases e : k = n
    · subst e
      rcases hc with hc | ⟨j, hj, hc⟩
      · exact absurd hc h12
      · refine ⟨j, np.trans hj, ?_⟩
        unfold mkd
        exact car_cg hc (fun p _ => xs j (by omega) p) (fun v hv => ha.2.2 j v (by omega) hv) (fun p _ => ns p) (fun _ _ => rfl)
    · rw [ha.1 12 k (by omega) (by omega)] at h12
      obtain ⟨j, hj, hm9⟩ := v3 k (by omega) h12
      have := (w1 k (by omega)).1
      refine ⟨j, (xp k (by omega)).trans hj, ?_⟩
      unfold mkd at hm9 ⊢
      rw [ha.1 12 k (by omega) (by omega), ha.1 13 k (by omega) (by omega), ha.1 14 k (by omega) (by omega), ha.1 15 k (by omega) (by omega)]
      exact car_cg hm9 (fun p _ => xs j (by omega) p) (fun v hv => ha.2.2 j v (by omega) hv) (fun p _ => xs k (by omega) p) (fun v hv => ha.2.2 k v (by omega) hv)

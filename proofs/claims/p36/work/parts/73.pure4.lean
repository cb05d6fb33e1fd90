/-! ===== what the property stands on, IV: an image's layers by their places; squash; prune ===== -/
theorem CX.wf {cy : Nat → ClassId} {co n : Nat} {PR PL : Nat → Nat} {S A : Nat → Nat → Int32} {I : Nat → Int32} {L : List Nat} {f : gF} (h : CX cy co n PR PL S A I L f) (hi : INV A n PR S) : WF n PR PL S A := by
  obtain ⟨i1, i2, i3, i4, i5, i6, i7⟩ := h.nv
  exact ⟨i2, i3, i4, i5, i6, h.ct, hi⟩
/-- the layers of the image of k, by places -/
def chn (n : Nat) (PR PL : Nat → Nat) (k : Nat) (O : Nat → Nat) : Prop := O (PL k) = k ∧ ∀ y, y ≤ PL k → O y < n ∧ PL (O y) = y ∧ anc PR (k + 1) (O y) ∧ (0 < y → PR (O y) = O (y - 1) + 1)
theorem chn_ex {n : Nat} {PR PL : Nat → Nat} (hp : ∀ k, k < n → PR k ≤ k) (hl : vPL n PR PL) : ∀ k, k < n → ∃ O, chn n PR PL k O := by
  intro k
  induction k using Nat.strongRecOn with
  | _ k ih =>
    intro hk
    have hle := hp k hk
    have hpl := hl k hk
    cases hz : PR k with
    | zero =>
      rw [hz] at hpl
      have h0 : PL k = 0 := hpl
      refine ⟨fun _ => k, rfl, fun y hy => ⟨hk, by show PL k = y; omega, (anc_s hp hk).mpr (Or.inl rfl), fun h => by omega⟩⟩
    | succ j =>
      rw [hz] at hpl
      have h1 : PL k = PL j + 1 := hpl
      obtain ⟨O, o1, o2⟩ := ih j (by omega) (by omega)
      refine ⟨fun y => if y = PL k then k else O y, if_pos rfl, fun y hy => ?_⟩
      dsimp only
      by_cases e : y = PL k
      · rw [if_pos e, if_neg (by omega)]
        refine ⟨hk, e.symm, (anc_s hp hk).mpr (Or.inl rfl), fun _ => ?_⟩
        rw [hz, show y - 1 = PL j by omega, o1]
      · rw [if_neg e, if_neg (by omega)]
        obtain ⟨a1, a2, a3, a4⟩ := o2 y (by omega)
        exact ⟨a1, a2, (anc_s hp hk).mpr (Or.inr (by rw [hz]; exact a3)), a4⟩
theorem chn_live {n : Nat} {PR PL : Nat → Nat} {A : Nat → Nat → Int32} {k : Nat} {O : Nat → Nat} (hc : chn n PR PL k O) (h7 : ∀ k j, k < n → A 8 k = 0 → PR k = j + 1 → A 8 j = 0) (h8 : A 8 k = 0) : ∀ d, d ≤ PL k → A 8 (O (PL k - d)) = 0
  | 0, _ => by rw [Nat.sub_zero, hc.1]; exact h8
  | d + 1, hd => by
    obtain ⟨a1, -, -, a4⟩ := hc.2 (PL k - d) (by omega)
    have := h7 _ (O (PL k - d - 1)) a1 (chn_live hc h7 h8 d (by omega)) (a4 (by omega))
    rw [show PL k - (d + 1) = PL k - d - 1 by omega]
    exact this
theorem chn_lv {n : Nat} {PR PL : Nat → Nat} {A : Nat → Nat → Int32} {k : Nat} {O : Nat → Nat} (hc : chn n PR PL k O) (h7 : ∀ k j, k < n → A 8 k = 0 → PR k = j + 1 → A 8 j = 0) (h8 : A 8 k = 0) {y : Nat} (hy : y ≤ PL k) : A 8 (O y) = 0 := by
  have := chn_live hc h7 h8 (PL k - y) (by omega)
  rwa [show PL k - (PL k - y) = y by omega] at this
/-- squash: an outcome, and what it is -/
theorem sq_ex {n : Nat} {PR PL : Nat → Nat} {S A : Nat → Nat → Int32} (hw : WF n PR PL S A) (hn : n < 400) {k z : Nat} (hk : k < n) (hz : 0 < z) (hz2 : z < PL k + 1) (i : Nat) :
    ∃ (j : Nat) (PR1 PL1 : Nat → Nat) (S1 : Nat → Nat → Int32), j < n ∧ PL j + 1 = z ∧ anc PR (k + 1) j ∧ WF (n + 1) PR1 PL1 S1 (sqA A n k j i S) ∧ XT n PR PL S A (n + 1) PR1 PL1 S1 (sqA A n k j i S) ∧ PR1 n = j + 1 ∧ PL1 n = z ∧ sqA A n k j i S 8 n = nI 0 ∧ (∀ q, q < 12 → S1 n q = S k q) ∧ (∀ q, q < 12 → (sqA A n k j i S 10 (12 * n + q) = -1 ↔ S k q = S j q)) ∧ (∀ v, v < 4 → sqA A n k j i S 11 (4 * n + v) = A 11 (4 * k + v)) ∧ ∀ k1 j1, (k1 < 8 ∨ 16 < k1) → sqA A n k j i S k1 j1 = A k1 j1 := by
  obtain ⟨w0, w1, w2, w3, w4, ⟨p1, p2, p3, p4⟩, w6⟩ := id hw
  obtain ⟨O, o1, o2⟩ := chn_ex (fun k hk => (w1 k hk).1) w3 k hk
  obtain ⟨hj, hpj, haj, -⟩ := o2 (z - 1) (by omega)
  generalize O (z - 1) = j at hj hpj haj
  have hpk := w4 k hk
  have e10 : ∀ q, q < 12 → sqA A n k j i S 10 (12 * n + q) = sqV S k j q := fun q hq => by
    unfold sqA
    rw [mU_k (by decide), upR_k (by decide), upR_i hq]
  have e11 : ∀ v, v < 4 → sqA A n k j i S 11 (4 * n + v) = A 11 (4 * k + v) := fun v hv => by
    unfold sqA
    rw [mU_k (by decide), upR_i hv]
  have eo : ∀ r x, r ≠ 16 → r ≠ 11 → r ≠ 10 → sqA A n k j i S r x = mkA A n (j + 1) r x := fun r x h1 h2 h3 => by
    unfold sqA
    rw [mU_k h1, upR_k h2, upR_k h3]
  have hag : agr A (sqA A n k j i S) n := (agr.mk.up10.up11).mo (by decide)
  have e9 : sqA A n k j i S 9 n = pI (j + 1) := by
    rw [eo 9 n (by decide) (by decide) (by decide)]
    unfold mkA
    rw [mU_k (by decide), mU_k (by decide), mU_s]
  have e8 : sqA A n k j i S 8 n = nI 0 := by
    rw [eo 8 n (by decide) (by decide) (by decide)]
    unfold mkA
    rw [mU_k (by decide), mU_s]
  have e12 : sqA A n k j i S 12 n = -1 := by
    rw [eo 12 n (by decide) (by decide) (by decide)]
    unfold mkA
    rw [mU_s]
  have efr : ∀ k1 j1, (k1 < 8 ∨ 16 < k1) → sqA A n k j i S k1 j1 = A k1 j1 := fun k1 j1 h => by
    rw [eo k1 j1 (by omega) (by omega) (by omega), mkA_k (by omega)]
  have hx := hw.add (A1 := sqA A n k j i S) (m := j + 1) (by omega) hj (by show PL j + 1 ≤ 10; omega) hag (fun k j hk => efr k j (by omega)) e9 (fun v hv => by rw [e11 v hv]; exact p4 k v hk hv) (fun q hq => by
      rw [e10 q hq]
      unfold sqV
      by_cases h1 : S k q = S j q
      · rw [if_pos h1]; exact Or.inl rfl
      · rw [if_neg h1]
        by_cases h2 : S k q = -1
        · rw [if_pos h2]; exact Or.inr (Or.inl rfl)
        · rw [if_neg h2]
          rcases p3 k q hk hq with h | h
          · exact absurd h h2
          · exact Or.inr (Or.inr h)) (fun h => by omega) (Or.inl e12)
  refine ⟨j, _, _, _, hj, by omega, haj, hx.1, hx.2, if_pos rfl, ?_, e8, fun q hq => ?_, fun q hq => ?_, e11, efr⟩
  · show (if n = n then dpt PL (j + 1) else PL n) = z
    rw [if_pos rfl]
    show PL j + 1 = z
    omega
  · show (if n = n then shw (sqA A n k j i S 10 (12 * n + q)) (j + 1) S q else S n q) = S k q
    rw [if_pos rfl, e10 q hq]
    unfold sqV
    by_cases h1 : S k q = S j q
    · rw [if_pos h1, shw_m1, h1]
    · rw [if_neg h1]
      by_cases h2 : S k q = -1
      · rw [if_pos h2, shw_m2, h2]
      · rw [if_neg h2]
        rcases p3 k q hk hq with h | h
        · exact absurd h h2
        · exact shw_ge h
  · rw [e10 q hq]
    unfold sqV
    by_cases h1 : S k q = S j q
    · rw [if_pos h1]; exact ⟨fun _ => h1, fun _ => rfl⟩
    · rw [if_neg h1]
      refine ⟨fun h => ?_, fun h => absurd h h1⟩
      by_cases h2 : S k q = -1
      · rw [if_pos h2] at h
        exact absurd h (by decide)
      · rw [if_neg h2] at h
        exact absurd h h2
/-- what prune keeps -/
noncomputable def gKp (PR TG : Nat → Nat) : Nat → Int32 := fun k => @ite Int32 (kep PR TG 5 k) (Classical.propDecidable _) (nI 1) (nI 0)
theorem gKp_ok {PR TG : Nat → Nat} (k : Nat) : (gKp PR TG k = nI 0 ∨ gKp PR TG k = nI 1) ∧ (gKp PR TG k = nI 1 ↔ kep PR TG 5 k) := by
  unfold gKp
  by_cases h : kep PR TG 5 k
  · rw [if_pos h]; exact ⟨Or.inr rfl, fun _ => h, fun _ => rfl⟩
  · rw [if_neg h]; exact ⟨Or.inl rfl, fun z => absurd z (by decide), fun z => absurd z h⟩
theorem gKp_0 {PR TG : Nat → Nat} {k : Nat} : gKp PR TG k = nI 0 ↔ ¬ kep PR TG 5 k := by
  unfold gKp
  by_cases h : kep PR TG 5 k
  · rw [if_pos h]; exact ⟨fun z => absurd z (by decide), fun z => absurd h z⟩
  · rw [if_neg h]; exact ⟨fun _ => h, fun _ => rfl⟩
theorem stp_ag {A : Nat → Nat → Int32} {g : Nat → Int32} {n q : Nat} : agw A (stp A g q) n := ⟨fun r k hr hk => stp_k (by omega) (by omega), fun _ _ _ _ => stp_k (by decide) (by decide), fun _ _ _ _ => stp_k (by decide) (by decide)⟩
theorem stp_live {A : Nat → Nat → Int32} {PR TG : Nat → Nat} {n k : Nat} (hk : k < n) : stp A (gKp PR TG) n 8 k = 0 ↔ kep PR TG 5 k := by
  have e : stp A (gKp PR TG) n 8 k = if gKp PR TG k = nI 0 then nI 1 else nI 0 := by
    unfold stp
    rw [if_neg (by decide), if_pos ⟨rfl, hk⟩]
  rw [e]
  by_cases h : kep PR TG 5 k
  · rw [if_neg (fun z => gKp_0.mp z h)]; exact ⟨fun _ => h, fun _ => rfl⟩
  · rw [if_pos (gKp_0.mpr h)]; exact ⟨fun z => absurd z (by decide), fun z => absurd z h⟩
theorem ancR_lt {PR : Nat → Nat} {n : Nat} (hp : ∀ k, k < n → PR k ≤ k) : ∀ u m k, m ≤ n → ancR PR u m k → k < m
  | 0, _, _, _, h => h.elim
  | _ + 1, 0, _, _, h => h.elim
  | u + 1, j + 1, k, hm, h => by
    rcases h with rfl | h
    · omega
    · have := hp j (by omega)
      have := ancR_lt hp u (PR j) k (by omega) h
      omega
theorem ancR_liv {PR : Nat → Nat} {A : Nat → Nat → Int32} {n : Nat} (hp : ∀ k, k < n → PR k ≤ k) (h7 : ∀ k j, k < n → A 8 k = 0 → PR k = j + 1 → A 8 j = 0) : ∀ u m k, m ≤ n → (∀ j, m = j + 1 → A 8 j = 0) → ancR PR u m k → A 8 k = 0
  | 0, _, _, _, _, h => h.elim
  | _ + 1, 0, _, _, _, h => h.elim
  | u + 1, j + 1, k, hm, h8, h => by
    rcases h with rfl | h
    · exact h8 k rfl
    · have := hp j (by omega)
      exact ancR_liv hp h7 u (PR j) k (by omega) (fun i hi => h7 j i (by omega) (h8 j rfl) hi) h
theorem kep_lt {PR TG : Nat → Nat} {A : Nat → Nat → Int32} {n k : Nat} (hp : ∀ k, k < n → PR k ≤ k) (hT : vTgl A n TG) (h : kep PR TG 5 k) : k < n := by
  obtain ⟨t, ht, ha⟩ := h
  have := ancR_lt hp _ _ _ (hT t ht).1 ha
  have := (hT t ht).1
  omega
theorem kep_liv {PR TG : Nat → Nat} {A : Nat → Nat → Int32} {n k : Nat} (hp : ∀ k, k < n → PR k ≤ k) (h7 : ∀ k j, k < n → A 8 k = 0 → PR k = j + 1 → A 8 j = 0) (hT : vTgl A n TG) (h : kep PR TG 5 k) : A 8 k = 0 := by
  obtain ⟨t, ht, ha⟩ := h
  exact ancR_liv hp h7 _ _ _ (hT t ht).1 (fun j hj => (hT t ht).2.2 j hj) ha
theorem stp_tag {PR TG : Nat → Nat} {A : Nat → Nat → Int32} {n : Nat} (hp : ∀ k, k < n → PR k ≤ k) (hT : vTgl A n TG) : vTgl (stp A (gKp PR TG) n) n TG := fun t ht => by
  obtain ⟨t1, t2, t3⟩ := hT t ht
  refine ⟨t1, by rw [stp_k (by decide) (by decide)]; exact t2, fun k hk => (stp_live (by omega)).mpr ⟨t, ht, ?_⟩⟩
  rw [hk]
  exact (anc_s hp (by omega)).mpr (Or.inl rfl)
theorem cntN_0 {PR TG : Nat → Nat} {A : Nat → Nat → Int32} {n : Nat} (h : ∀ k, k < n → A 8 k = 0 → kep PR TG 5 k) : ∀ q, q ≤ n → cntN A (gKp PR TG) q = 0
  | 0, _ => rfl
  | q + 1, hq => by
    show cntN A (gKp PR TG) q + (if gKp PR TG q = nI 0 ∧ A 8 q = 0 then 1 else 0) = 0
    rw [cntN_0 h q (by omega), if_neg (fun z => gKp_0.mp z.1 (h q (by omega) z.2))]

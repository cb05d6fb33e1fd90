/-! ===== the reference, XI: squash ===== -/
theorem mkA_9 {A : Nat → Nat → Int32} {n m k : Nat} (h : k < n) : mkA A n m 9 k = A 9 k := by
  unfold mkA
  rw [mU_k (by decide), mU_k (by decide), mU_j (by omega), upR_k (by decide), upR_k (by decide)]
theorem mkA_10 {A : Nat → Nat → Int32} {n m k q : Nat} (h : k < n) (hq : q < 12) : mkA A n m 10 (12 * k + q) = A 10 (12 * k + q) := by
  unfold mkA
  rw [mU_k (by decide), mU_k (by decide), mU_k (by decide), upR_k (by decide), upR_o (by omega)]
theorem mkA_11 {A : Nat → Nat → Int32} {n m k q : Nat} (h : k < n) (hq : q < 4) : mkA A n m 11 (4 * k + q) = A 11 (4 * k + q) := by
  unfold mkA
  rw [mU_k (by decide), mU_k (by decide), mU_k (by decide), upR_o (by omega), upR_k (by decide)]
theorem mkA_k {A : Nat → Nat → Int32} {n m k j : Nat} (h : k < 8 ∨ 12 < k) : mkA A n m k j = A k j := by
  unfold mkA
  rw [mU_k (by omega), mU_k (by omega), mU_k (by omega), upR_k (by omega), upR_k (by omega)]
theorem mk_par {A : Nat → Nat → Int32} {n m q : Nat} {g : Nat → Int32} {PR : Nat → Nat} (h : vPar A n PR) : vPar (upR (mkA A n m) 10 (12 * n) q g) n PR := fun k hk => ⟨(h k hk).1, by rw [upR_k (by decide), mkA_9 hk]; exact (h k hk).2⟩
theorem mk_sh {A : Nat → Nat → Int32} {n m q : Nat} {g : Nat → Int32} {PR : Nat → Nat} {S : Nat → Nat → Int32} (h : vShow A n PR S) : vShow (upR (mkA A n m) 10 (12 * n) q g) n PR S := fun k r hk hr => by rw [upR_o (by omega), mkA_10 hk hr]; exact h k r hk hr
def sqV (S : Nat → Nat → Int32) (k j q : Nat) : Int32 := if S k q = S j q then -1 else if S k q = -1 then -2 else S k q
def sqA (A : Nat → Nat → Int32) (n k j i : Nat) (S : Nat → Nat → Int32) : Nat → Nat → Int32 := mU (upR (upR (mkA A n (j + 1)) 10 (12 * n) 12 (sqV S k j)) 11 (4 * n) 4 (fun v => A 11 (4 * k + v))) 16 i (nI n)
def sqC1 (PL TG : Nat → Nat) (t p : Int32) : Prop := ∃ i z, i < 5 ∧ t = nI i ∧ p = nI z ∧ 0 < z ∧ z < 2 ^ 31 ∧ ∀ k, TG i = k + 1 → z < PL k + 1
def sqC2 (TG : Nat → Nat) (n : Nat) (t : Int32) : Prop := n < 400 ∧ ∀ i, i < 5 → t = nI i → TG i ≠ 0
theorem cd3_lt {P1 P2 : Prop} {w : Nat} (h : cd3 P1 P2 w) : w < 4 := by
  rcases h with ⟨h, -⟩ | ⟨h, -⟩ | ⟨h, -⟩ <;> omega
theorem sq1 {PL TG : Nat → Nat} {n : Nat} {t p : Int32} (h : ¬ gin t 5) : cd3 (sqC1 PL TG t p) (sqC2 TG n t) 1 := Or.inl ⟨rfl, fun ⟨i, z, h1, h2, _⟩ => h ⟨i, h1, h2⟩⟩
theorem sq2 {PL TG : Nat → Nat} {n : Nat} {t p : Int32} (h : p ≤ 0) : cd3 (sqC1 PL TG t p) (sqC2 TG n t) 1 := Or.inl ⟨rfl, fun ⟨i, z, h1, h2, h3, h4, h5, _⟩ => by
  rw [h3] at h
  have := gn_le0 h h5
  omega⟩
theorem sq3 {PL TG : Nat → Nat} {n i z : Nat} (hi : i < 5) (hz : 0 < z) (hz2 : z < 2 ^ 31) (h : TG i = 0) : cd3 (sqC1 PL TG (nI i) (nI z)) (sqC2 TG n (nI i)) 2 := Or.inr (Or.inl ⟨rfl, ⟨i, z, hi, rfl, rfl, hz, hz2, fun k hk => by omega⟩, fun ⟨_, h2⟩ => h2 i hi rfl h⟩)
theorem sq4 {PL TG : Nat → Nat} {n i z k : Nat} (hi : i < 5) (hz2 : z < 2 ^ 31) (h : TG i = k + 1) (h2 : ¬ z < PL k + 1) : cd3 (sqC1 PL TG (nI i) (nI z)) (sqC2 TG n (nI i)) 1 := Or.inl ⟨rfl, fun ⟨i2, z2, h1, e1, e2, h3, h4, h5⟩ => by
  have := gn_inj (by omega) (by omega) e1
  subst this
  have := gn_inj hz2 h4 e2
  subst this
  exact h2 (h5 k h)⟩
theorem sq5 {PL TG : Nat → Nat} {n i z k : Nat} (hi : i < 5) (hz : 0 < z) (hz2 : z < 2 ^ 31) (h : TG i = k + 1) (h2 : z < PL k + 1) (h4 : ¬ n < 400) : cd3 (sqC1 PL TG (nI i) (nI z)) (sqC2 TG n (nI i)) 2 := Or.inr (Or.inl ⟨rfl, ⟨i, z, hi, rfl, rfl, hz, hz2, fun k2 hk => by
  have : k2 = k := by omega
  subst this
  exact h2⟩, fun ⟨h5, _⟩ => h4 h5⟩)
theorem sq6 {PL TG : Nat → Nat} {n i z k : Nat} (hi : i < 5) (hz : 0 < z) (hz2 : z < 2 ^ 31) (h : TG i = k + 1) (h2 : z < PL k + 1) (h4 : n < 400) : cd3 (sqC1 PL TG (nI i) (nI z)) (sqC2 TG n (nI i)) 0 := Or.inr (Or.inr ⟨rfl, ⟨i, z, hi, rfl, rfl, hz, hz2, fun k2 hk => by
  have : k2 = k := by omega
  subst this
  exact h2⟩, h4, fun i2 hi2 e => by
  have := gn_inj (by omega) (by omega) e
  subst this
  omega⟩)
theorem gn_lt_le {p : Int32} (h : p < 0) : p ≤ 0 := by
  rw [gn_lt] at h
  rw [gn_le]
  omega
theorem ancR_tr {PR : Nat → Nat} {n : Nat} (h : ∀ k, k < n → PR k ≤ k) {j j2 : Nat} (hj : PR j = j2 + 1) : ∀ u m, m ≤ u → m ≤ n → ancR PR u m j → ancR PR u m j2 := by
  intro u
  induction u with
  | zero => intro m _ _ h; exact h
  | succ u ih =>
    intro m hm hn ha
    cases m with
    | zero => exact ha
    | succ k =>
      have h1 := h k (by omega)
      rcases ha with rfl | ha
      · refine Or.inr ?_
        cases u with
        | zero => omega
        | succ u =>
          rw [hj]
          exact Or.inl rfl
      · exact Or.inr (ih (PR k) (by omega) (by omega) ha)
theorem anc_tr {PR : Nat → Nat} {n k j j2 : Nat} (h : ∀ k, k < n → PR k ≤ k) (hk : k < n) (hj : j < n) (hj2 : PR j = j2 + 1) (ha : anc PR (k + 1) j) : anc PR (k + 1) j2 := ancR_tr h hj2 (k + 1) (k + 1) (Nat.le_refl _) hk ha

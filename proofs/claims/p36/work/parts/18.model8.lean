/-! ===== the reference, VIII: build ===== -/
theorem lfR_o {A A1 : Nat → Nat → Int32} {n k0 : Nat} {S : Nat → Nat → Int32} {what a b its : Int32} (h : lfR A n k0 S what a b its A1) {k j : Nat} (h10 : k ≠ 10 ∨ (∃ i q, k = 10 ∧ i < n ∧ q < 12 ∧ j = 12 * i + q)) (h11 : k ≠ 11 ∨ (∃ i q, k = 11 ∧ i < n ∧ q < 4 ∧ j = 4 * i + q)) : A1 k j = lfB A n k0 what a b its k j := by
  have n10 : ∀ q, ¬ (k = 10 ∧ j = 12 * n + q) := by
    rintro q ⟨rfl, rfl⟩
    rcases h10 with h | ⟨i, r, -, h1, h2, h3⟩
    · exact h rfl
    · omega
  have n11 : ∀ q, ¬ (k = 11 ∧ j = 4 * n + q) := by
    rintro q ⟨rfl, rfl⟩
    rcases h11 with h | ⟨i, r, -, h1, h2, h3⟩
    · exact h rfl
    · omega
  rcases h with ⟨rfl, q, hq, rfl, rfl⟩ | ⟨rfl, q, v, hq, hv, rfl, rfl, rfl⟩ | ⟨rfl, q, r, hq, hr, rfl, rfl, rfl⟩ | ⟨rfl, q, hq, rfl, rfl⟩ | ⟨rfl, v, hv, rfl, rfl⟩
  · exact if_neg (n10 q)
  · exact if_neg (n10 q)
  · exact (if_neg (n10 q)).trans (if_neg (n10 r))
  · exact if_neg (n10 q)
  · exact if_neg (n11 v)
theorem lfR_9 {A A1 : Nat → Nat → Int32} {n k0 : Nat} {S : Nat → Nat → Int32} {what a b its : Int32} (h : lfR A n k0 S what a b its A1) {k : Nat} (hk : k < n) : A1 9 k = A 9 k := by
  rw [lfR_o h (Or.inl (by decide)) (Or.inl (by decide)), lfB_9 hk]
theorem lfR_9n {A A1 : Nat → Nat → Int32} {n k0 : Nat} {S : Nat → Nat → Int32} {what a b its : Int32} (h : lfR A n k0 S what a b its A1) : A1 9 n = pI (k0 + 1) := by
  rw [lfR_o h (Or.inl (by decide)) (Or.inl (by decide))]
  unfold lfB mkA
  rw [mU_k (by decide), mU_k (by decide), mU_k (by decide), mU_k (by decide), mU_k (by decide), mU_k (by decide), mU_s]
theorem lfR_10 {A A1 : Nat → Nat → Int32} {n k0 : Nat} {S : Nat → Nat → Int32} {what a b its : Int32} (h : lfR A n k0 S what a b its A1) {k q : Nat} (hk : k < n) (hq : q < 12) : A1 10 (12 * k + q) = A 10 (12 * k + q) := by
  rw [lfR_o h (Or.inr ⟨k, q, rfl, hk, hq, rfl⟩) (Or.inl (by decide)), lfB_10 hk hq]
theorem lfR_k {A A1 : Nat → Nat → Int32} {n k0 : Nat} {S : Nat → Nat → Int32} {what a b its : Int32} (h : lfR A n k0 S what a b its A1) {k j : Nat} (hk : k < 8 ∨ 15 < k) : A1 k j = A k j := by
  rw [lfR_o h (Or.inl (by omega)) (Or.inl (by omega))]
  unfold lfB mkA
  rw [mU_k (by omega), mU_k (by omega), mU_k (by omega), mU_k (by omega), mU_k (by omega), mU_k (by omega), mU_k (by omega), upR_k (by omega), upR_k (by omega)]
def PRx (PR : Nat → Nat) (n m : Nat) : Nat → Nat := fun k => if k = n then m else PR k
def Sx (S : Nat → Nat → Int32) (n : Nat) (g : Nat → Int32) : Nat → Nat → Int32 := fun k q => if k = n then g q else S k q
theorem ext_par {A A1 : Nat → Nat → Int32} {n m : Nat} {PR : Nat → Nat} (hPR : vPar A n PR) (hm : m ≤ n) (h9 : ∀ k, k < n → A1 9 k = A 9 k) (h9n : A1 9 n = pI m) : vPar A1 (n + 1) (PRx PR n m) := by
  intro k hk
  by_cases e : k = n
  · subst e
    simp only [PRx, if_true]
    exact ⟨hm, h9n⟩
  · simp only [PRx, if_neg e]
    rw [h9 k (by omega)]
    exact hPR k (by omega)
theorem spr_x {S : Nat → Nat → Int32} {n m q : Nat} {g : Nat → Int32} (hm : m ≤ n) : spr (Sx S n g) q m = spr S q m := by
  cases m with
  | zero => rfl
  | succ j => show Sx S n g j q = S j q; exact if_neg (by omega)
theorem ext_sh {A A1 : Nat → Nat → Int32} {n m : Nat} {PR : Nat → Nat} {S : Nat → Nat → Int32} (hPR : vPar A n PR) (hSh : vShow A n PR S) (hm : m ≤ n) (h10 : ∀ k q, k < n → q < 12 → A1 10 (12 * k + q) = A 10 (12 * k + q)) : vShow A1 (n + 1) (PRx PR n m) (Sx S n (fun q => shw (A1 10 (12 * n + q)) m S q)) := by
  intro k q hk hq
  by_cases e : k = n
  · subst e
    simp only [PRx, if_true]
    rw [show Sx S k (fun q => shw (A1 10 (12 * k + q)) m S q) k q = shw (A1 10 (12 * k + q)) m S q from if_pos rfl]
    unfold shw
    rw [spr_x hm]
  · have hk2 : k < n := by omega
    simp only [PRx, if_neg e]
    rw [show Sx S n (fun q => shw (A1 10 (12 * n + q)) m S q) k q = S k q from if_neg e, hSh k q hk2 hq, h10 k q hk2 hq]
    unfold shw
    rw [spr_x (by have := (hPR k hk2).1; omega)]
/-- a build's steps, from the (d+1)-th on -/
def runR : Nat → (Nat → Nat → Int32) → (Nat → Int32) → Nat → Nat → Nat → Nat → Int32 → (Nat → Nat → Int32) → (Nat → Int32) → Prop
  | 0, A, I, _, k0, _, _, b, A1, I1 => b = nI k0 ∧ A1 = A ∧ I1 = I
  | u + 1, A, I, n, k0, d, m, b, A1, I1 => ∃ (PR : Nat → Nat) (S : Nat → Nat → Int32) (b8 : Int32) (A8 : Nat → Nat → Int32) (I8 : Nat → Int32), vPar A n PR ∧ vShow A n PR S ∧ goR A I n S k0 d m b8 A8 I8 ∧
      ((I8 17 = 0 ∧ b = b8 ∧ A1 = A8 ∧ I1 = I8) ∨ (¬ I8 17 = 0 ∧ ∃ n8 k8, I8 7 = nI n8 ∧ I8 24 = nI k8 ∧ n8 < 420 ∧ k8 < n8 ∧ runR u A8 I8 n8 k8 (d + 1) m b A1 I1))
theorem goR_27 {A A1 : Nat → Nat → Int32} {I I1 : Nat → Int32} {n k0 d m : Nat} {S : Nat → Nat → Int32} {b : Int32} (h : goR A I n S k0 d m b A1 I1) : I1 27 = I 27 := by
  rcases h with ⟨-, -, -, -, h⟩ | ⟨-, its, fm, k1, n1, -, -, -, h, -⟩ <;> exact h
theorem goR_k {A A1 : Nat → Nat → Int32} {I I1 : Nat → Int32} {n k0 d m : Nat} {S : Nat → Nat → Int32} {b : Int32} (h : goR A I n S k0 d m b A1 I1) {k j : Nat} (hk : k < 8 ∨ 15 < k) : A1 k j = A k j := by
  rcases h with ⟨-, -, rfl, -⟩ | ⟨-, its, fm, k1, n1, -, -, -, -, ⟨-, -, rfl, -⟩ | ⟨-, -, -, h, -⟩⟩
  · rfl
  · rfl
  · exact lfR_k h hk
theorem gn_b01 {c : Prop} [Decidable c] (h : ¬ nI (if c then 0 else 1) = 0) : ¬ c := fun q => h (by rw [if_pos q]; rfl)
theorem gn_b10 {c : Prop} [Decidable c] (h : nI (if c then 0 else 1) = 0) : c := by
  by_cases q : c
  · exact q
  · rw [if_neg q] at h
    exact absurd h (by decide)
/-- a step that doesn't end the build -/
theorem goR_next {A A1 : Nat → Nat → Int32} {I I1 : Nat → Int32} {n k0 d m : Nat} {PR : Nat → Nat} {S : Nat → Nat → Int32} {b : Int32} (h : goR A I n S k0 d m b A1 I1) (hPR : vPar A n PR) (hSh : vShow A n PR S) (hk0 : k0 < n) (hd : d < m) (hb : n + (m - d) ≤ 420) (h17 : ¬ I1 17 = 0) :
    ∃ (n1 k1 : Nat) (PR1 : Nat → Nat) (S1 : Nat → Nat → Int32), I1 7 = nI n1 ∧ I1 24 = nI k1 ∧ I1 20 = nI (d + 1) ∧ I1 19 = nI m ∧ k1 < n1 ∧ d + 1 < m ∧ n1 + (m - (d + 1)) ≤ 420 ∧ n1 < 420 ∧ vPar A1 n1 PR1 ∧ vShow A1 n1 PR1 S1 := by
  rcases h with ⟨-, -, -, ⟨-, h, -⟩, -⟩ | ⟨-, its, fm, k1, n1, -, hlst, -, -, ⟨rfl, rfl, rfl, ⟨e7, e17, e18, e19, e20, e24, -⟩⟩ | ⟨rfl, rfl, rfl, hlf, ⟨e7, e17, e18, e19, e20, e24, -⟩⟩⟩
  · exact absurd h h17
  · rw [e17] at h17
    have := gn_b01 h17
    have hk1 : k1 < n1 := by
      rcases hlst with ⟨h, -⟩ | ⟨j0, h, -, h2, -⟩ <;> omega
    exact ⟨n1, k1, PR, S, e7, e24, e20, e19, hk1, by omega, by omega, by omega, hPR, hSh⟩
  · rw [e17] at h17
    have := gn_b01 h17
    exact ⟨_, _, _, _, e7, e24, e20, e19, Nat.lt_succ_self _, by omega, by omega, by omega, ext_par hPR (by omega) (fun k hk => lfR_9 hlf hk) (lfR_9n hlf), ext_sh hPR hSh (by omega) (fun k q hk hq => lfR_10 hlf hk hq)⟩
theorem rtA_9 {A : Nat → Nat → Int32} {n b k : Nat} (h : k < n) : rtA A n b 9 k = A 9 k := by
  unfold rtA mkA
  rw [upR_k (by decide), mU_k (by decide), mU_k (by decide), mU_j (by omega), upR_k (by decide), upR_k (by decide)]
theorem rtA_9n {A : Nat → Nat → Int32} {n b : Nat} : rtA A n b 9 n = pI 0 := by
  unfold rtA mkA
  rw [upR_k (by decide), mU_k (by decide), mU_k (by decide), mU_s]
theorem rtA_10 {A : Nat → Nat → Int32} {n b k q : Nat} (h : k < n) (hq : q < 12) : rtA A n b 10 (12 * k + q) = A 10 (12 * k + q) := by
  unfold rtA mkA
  rw [upR_o (by omega), mU_k (by decide), mU_k (by decide), mU_k (by decide), upR_k (by decide), upR_o (by omega)]

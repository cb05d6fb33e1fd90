/-! ===== the reference, VII: steps ===== -/
def runW (c v : Int32) : Int32 := (nI 31 * c + v + nI 1) - (nI 31 * c + v + nI 1) / nI 10007 * nI 10007
def runV (c v : Int32) : Int32 := runW (if c = -1 then nI 0 else c) v
def lfB (A : Nat → Nat → Int32) (n k0 : Nat) (what a b its : Int32) : Nat → Nat → Int32 := mU (mU (mU (mU (mkA A n (k0 + 1)) 12 n what) 13 n a) 14 n b) 15 n its
theorem lfB_9 {A : Nat → Nat → Int32} {n k0 k : Nat} {what a b its : Int32} (h : k < n) : lfB A n k0 what a b its 9 k = A 9 k := by
  unfold lfB mkA
  rw [mU_k (by decide), mU_k (by decide), mU_k (by decide), mU_k (by decide), mU_k (by decide), mU_k (by decide), mU_j (by omega), upR_k (by decide), upR_k (by decide)]
theorem lfB_10 {A : Nat → Nat → Int32} {n k0 k q : Nat} {what a b its : Int32} (h : k < n) (hq : q < 12) : lfB A n k0 what a b its 10 (12 * k + q) = A 10 (12 * k + q) := by
  unfold lfB mkA
  rw [mU_k (by decide), mU_k (by decide), mU_k (by decide), mU_k (by decide), mU_k (by decide), mU_k (by decide), mU_k (by decide), upR_k (by decide), upR_o (by omega)]
theorem lfB_11 {A : Nat → Nat → Int32} {n k0 k q : Nat} {what a b its : Int32} (h : k < n) (hq : q < 4) : lfB A n k0 what a b its 11 (4 * k + q) = A 11 (4 * k + q) := by
  unfold lfB mkA
  rw [mU_k (by decide), mU_k (by decide), mU_k (by decide), mU_k (by decide), mU_k (by decide), mU_k (by decide), mU_k (by decide), upR_o (by omega), upR_k (by decide)]
theorem lfB_par {A : Nat → Nat → Int32} {n k0 : Nat} {what a b its : Int32} {PR : Nat → Nat} (h : vPar A n PR) : vPar (lfB A n k0 what a b its) n PR := fun k hk => ⟨(h k hk).1, by rw [lfB_9 hk]; exact (h k hk).2⟩
theorem lfB_sh {A : Nat → Nat → Int32} {n k0 : Nat} {what a b its : Int32} {PR : Nat → Nat} {S : Nat → Nat → Int32} (h : vShow A n PR S) : vShow (lfB A n k0 what a b its) n PR S := fun k q hk hq => by rw [lfB_10 hk hq]; exact h k q hk hq
/-- what a new layer by a step becomes -/
def lfR (A : Nat → Nat → Int32) (n k0 : Nat) (S : Nat → Nat → Int32) (what a b its : Int32) (A1 : Nat → Nat → Int32) : Prop :=
  (what = nI 0 ∧ ∃ q, q < 12 ∧ b = nI q ∧ A1 = mU (lfB A n k0 what a b its) 10 (12 * n + q) its) ∨
  (what = nI 1 ∧ ∃ q v, q < 12 ∧ v < 4 ∧ a = nI q ∧ b = nI v ∧ A1 = mU (lfB A n k0 what a b its) 10 (12 * n + q) (runV (S k0 q) (A 11 (4 * k0 + v)))) ∨
  (what = nI 2 ∧ ∃ q r, q < 12 ∧ r < 12 ∧ a = nI q ∧ b = nI r ∧ A1 = mU (mU (lfB A n k0 what a b its) 10 (12 * n + r) (S k0 q)) 10 (12 * n + q) (-2)) ∨
  (what = nI 3 ∧ ∃ q, q < 12 ∧ a = nI q ∧ A1 = mU (lfB A n k0 what a b its) 10 (12 * n + q) (-2)) ∨
  (what = nI 4 ∧ ∃ v, v < 4 ∧ a = nI v ∧ A1 = mU (lfB A n k0 what a b its) 11 (4 * n + v) b)
def itsP (A : Nat → Nat → Int32) (what a its : Int32) : Prop := (what = nI 0 ∧ ∃ j, j < 8 ∧ a = nI j ∧ its = A 0 j) ∨ (what ≠ nI 0 ∧ its = nI 0)
/-- one step of a build -/
def goR (A : Nat → Nat → Int32) (I : Nat → Int32) (n : Nat) (S : Nat → Nat → Int32) (k0 d m : Nat) (b9 : Int32) (A1 : Nat → Nat → Int32) (I1 : Nat → Int32) : Prop :=
  (failP A S k0 (A 21 d) (A 22 d) ∧ b9 = -1 ∧ A1 = A ∧ iV I1 n (nI 0) (nI 0) (nI m) (nI d) (nI k0) (I 25) (I 26) ∧ I1 27 = I 27) ∨
  (¬ failP A S k0 (A 21 d) (A 22 d) ∧ ∃ its fm k1 n1, itsP A (A 21 d) (A 22 d) its ∧ lst (mdP A k0 (A 21 d) (A 22 d) (A 23 d) its) 0 n fm ∧ b9 = nI k1 ∧ I1 27 = I 27 ∧
    ((fm = k1 + 1 ∧ n1 = n ∧ A1 = A ∧ iV I1 n1 (nI (if d + 1 = m then 0 else 1)) (nI (if d + 1 = m then 1 else 0)) (nI m) (nI (d + 1)) (nI k1) (I 25 + nI 1) (I 26 + nI 0)) ∨
     (fm = 0 ∧ k1 = n ∧ n1 = n + 1 ∧ lfR A n k0 S (A 21 d) (A 22 d) (A 23 d) its A1 ∧ iV I1 n1 (nI (if d + 1 = m then 0 else 1)) (nI (if d + 1 = m then 1 else 0)) (nI m) (nI (d + 1)) (nI k1) (I 25 + nI 0) (I 26 + nI 1))))

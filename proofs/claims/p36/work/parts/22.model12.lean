/-! ===== the reference, XII: rebase ===== -/
def str (A : Nat → Nat → Int32) (g : Nat → Int32) : Nat → Nat → Int32 := fun k j => if k = 30 then g j else A k j
theorem str_k {A : Nat → Nat → Int32} {g : Nat → Int32} {k j : Nat} (h : k ≠ 30) : str A g k j = A k j := if_neg h
theorem str_0 {A : Nat → Nat → Int32} : str A (A 30) = A := by
  funext k j
  by_cases h : k = 30
  · subst h; rfl
  · exact if_neg h
theorem str_s {A : Nat → Nat → Int32} {g : Nat → Int32} {q : Nat} {x : Int32} : mU (str A g) 30 q x = str A (upd g q x) := by
  funext k j
  by_cases h : k = 30
  · subst h; simp [mU, str, upd]
  · simp [mU, str, h]
def rbV (h s : Int32) : Int32 := if h = -2 ∧ s = -1 then -1 else h
def rbA (A : Nat → Nat → Int32) (n top o : Nat) (S : Nat → Nat → Int32) : Nat → Nat → Int32 := upR (upR (mkA A n (top + 1)) 10 (12 * n) 12 (fun q => rbV (A 10 (12 * o + q)) (S top q))) 11 (4 * n) 4 (fun v => A 11 (4 * o + v))
theorem rbA_9 {A : Nat → Nat → Int32} {n top o k : Nat} {S : Nat → Nat → Int32} (h : k < n) : rbA A n top o S 9 k = A 9 k := by
  unfold rbA
  rw [upR_k (by decide), upR_k (by decide), mkA_9 h]
theorem rbA_9n {A : Nat → Nat → Int32} {n top o : Nat} {S : Nat → Nat → Int32} : rbA A n top o S 9 n = pI (top + 1) := by
  unfold rbA mkA
  rw [upR_k (by decide), upR_k (by decide), mU_k (by decide), mU_k (by decide), mU_s]
theorem rbA_10 {A : Nat → Nat → Int32} {n top o k q : Nat} {S : Nat → Nat → Int32} (h : k < n) (hq : q < 12) : rbA A n top o S 10 (12 * k + q) = A 10 (12 * k + q) := by
  unfold rbA
  rw [upR_k (by decide), upR_o (by omega), mkA_10 h hq]
theorem rbA_11 {A : Nat → Nat → Int32} {n top o k q : Nat} {S : Nat → Nat → Int32} (h : k < n) (hq : q < 4) : rbA A n top o S 11 (4 * k + q) = A 11 (4 * k + q) := by
  unfold rbA
  rw [upR_o (by omega), upR_k (by decide), mkA_11 h hq]
theorem rbA_k {A : Nat → Nat → Int32} {n top o k j : Nat} {S : Nat → Nat → Int32} (h : k < 8 ∨ 12 < k) : rbA A n top o S k j = A k j := by
  unfold rbA
  rw [upR_k (by omega), upR_k (by omega), mkA_k h]
def rbStep (A : Nat → Nat → Int32) (n top o : Nat) (A1 : Nat → Nat → Int32) : Prop := ∃ (PR : Nat → Nat) (S : Nat → Nat → Int32), vPar A n PR ∧ vShow A n PR S ∧ A1 = rbA A n top o S
/-- the layers of an image, put anew one on the other -/
def rbR (O : Nat → Nat → Prop) : Nat → Nat → (Nat → Nat → Int32) → Nat → Nat → (Nat → Nat → Int32) → Nat → Nat → Prop
  | 0, _, A, n, top, A1, n1, t1 => A1 = A ∧ n1 = n ∧ t1 = top
  | u + 1, x, A, n, top, A1, n1, t1 => ∃ (o : Nat) (A2 : Nat → Nat → Int32), O x o ∧ rbStep A n top o A2 ∧ rbR O u (x + 1) A2 (n + 1) n A1 n1 t1
def oldAt (n : Nat) (PR PL : Nat → Nat) (k x o : Nat) : Prop := o < n ∧ PL o = x ∧ anc PR (k + 1) o
theorem rtA_k {A : Nat → Nat → Int32} {n b k j : Nat} (h : k < 8 ∨ 12 < k) : rtA A n b k j = A k j := by
  unfold rtA
  rw [upR_k (by omega), mkA_k h]
theorem rtA_11 {A : Nat → Nat → Int32} {n b k q : Nat} (h : k < n) (hq : q < 4) : rtA A n b 11 (4 * k + q) = A 11 (4 * k + q) := by
  unfold rtA
  rw [upR_k (by decide), mkA_11 h hq]
/-- what the root layer leaves of the others -/
theorem rootR_old {A A1 : Nat → Nat → Int32} {n b k1 n1 : Nat} {PR : Nat → Nat} {S : Nat → Nat → Int32} (h : rootR A n b k1 n1 A1) (hPR : vPar A n PR) (hSh : vShow A n PR S) :
    k1 < n1 ∧ n ≤ n1 ∧ n1 ≤ n + 1 ∧ (∃ PR9 S9, vPar A1 n1 PR9 ∧ vShow A1 n1 PR9 S9) ∧ (∀ k q, k < n → q < 12 → A1 10 (12 * k + q) = A 10 (12 * k + q)) ∧ (∀ k q, k < n → q < 4 → A1 11 (4 * k + q) = A 11 (4 * k + q)) ∧ ∀ k j, (k < 8 ∨ 12 < k) → A1 k j = A k j := by
  rcases h with ⟨hl9, rfl, rfl⟩ | ⟨hl9, rfl, rfl, rfl⟩
  · refine ⟨?_, Nat.le_refl _, Nat.le_succ _, ⟨PR, S, hPR, hSh⟩, fun _ _ _ _ => rfl, fun _ _ _ _ => rfl, fun _ _ _ => rfl⟩
    rcases hl9 with ⟨h, -⟩ | ⟨j0, h, -, h2, -⟩ <;> omega
  · exact ⟨Nat.lt_succ_self _, Nat.le_succ _, Nat.le_refl _, ⟨_, _, ext_par hPR (Nat.zero_le _) (fun k hk => rtA_9 hk) rtA_9n, ext_sh hPR hSh (Nat.zero_le _) (fun k q hk hq => rtA_10 hk hq)⟩, fun k q hk hq => rtA_10 hk hq, fun k q hk hq => rtA_11 hk hq, fun k j hk => rtA_k hk⟩

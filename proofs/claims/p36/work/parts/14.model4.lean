/-! ===== the reference, IV: layers, made ===== -/
def upR (A : Nat → Nat → Int32) (k lo len : Nat) (g : Nat → Int32) : Nat → Nat → Int32 := fun k1 j1 => if k1 = k ∧ lo ≤ j1 ∧ j1 < lo + len then g (j1 - lo) else A k1 j1
theorem upR_0 {A : Nat → Nat → Int32} {k lo : Nat} {g : Nat → Int32} : upR A k lo 0 g = A := by
  funext k1 j1
  unfold upR
  rw [if_neg (by omega)]
theorem upR_s {A : Nat → Nat → Int32} {k lo i : Nat} {g : Nat → Int32} {x : Int32} (hx : x = g i) : mU (upR A k lo i g) k (lo + i) x = upR A k lo (i + 1) g := by
  funext k1 j1
  subst hx
  unfold mU upR
  by_cases h : k1 = k ∧ j1 = lo + i
  · obtain ⟨rfl, rfl⟩ := h
    rw [if_pos ⟨rfl, rfl⟩, if_pos ⟨rfl, by omega, by omega⟩, Nat.add_sub_cancel_left]
  · rw [if_neg h]
    by_cases h2 : k1 = k ∧ lo ≤ j1 ∧ j1 < lo + i
    · rw [if_pos h2, if_pos ⟨h2.1, h2.2.1, by omega⟩]
    · rw [if_neg h2, if_neg (fun q => by
        by_cases e : j1 = lo + i
        · exact h ⟨q.1, e⟩
        · exact h2 ⟨q.1, q.2.1, by omega⟩)]
theorem upR_k {A : Nat → Nat → Int32} {k lo len k1 j1 : Nat} {g : Nat → Int32} (h : k1 ≠ k) : upR A k lo len g k1 j1 = A k1 j1 := if_neg (fun q => h q.1)
theorem upR_o {A : Nat → Nat → Int32} {k lo len k1 j1 : Nat} {g : Nat → Int32} (h : j1 < lo ∨ lo + len ≤ j1) : upR A k lo len g k1 j1 = A k1 j1 := if_neg (fun q => by omega)
theorem upR_i {A : Nat → Nat → Int32} {k lo len i : Nat} {g : Nat → Int32} (h : i < len) : upR A k lo len g k (lo + i) = g i := by
  unfold upR
  rw [if_pos ⟨rfl, by omega, by omega⟩, Nat.add_sub_cancel_left]
/-- the values of a new layer's variables -/
def vOf (A : Nat → Nat → Int32) : Nat → Nat → Int32
  | 0, _ => nI 0
  | j + 1, v => A 11 (4 * j + v)
def mkA (A : Nat → Nat → Int32) (n m : Nat) : Nat → Nat → Int32 := mU (mU (mU (upR (upR A 10 (12 * n) 12 (fun _ => -1)) 11 (4 * n) 4 (vOf A m)) 9 n (pI m)) 8 n (nI 0)) 12 n (-1)
theorem gn_pred (i : Nat) : nI i + Int32.ofInt (-1) = pI i := by
  cases i with
  | zero => decide
  | succ j =>
    have h := nI_pred j
    rw [Int32.sub_eq_add_neg] at h
    exact h
theorem gn_pred2 (i : Nat) : nI i - nI 1 = pI i := by
  rw [← gn_pred, Int32.sub_eq_add_neg]
  rfl
theorem pI_neg {i : Nat} (h : pI i < 0) (hi : i ≤ 2 ^ 31) : i = 0 := by
  cases i with
  | zero => rfl
  | succ j => exact absurd h (nI_pos (by omega))
theorem pI_nneg {i : Nat} (h : ¬ pI i < 0) : ∃ j, i = j + 1 := by
  cases i with
  | zero => exact absurd (by decide) h
  | succ j => exact ⟨j, rfl⟩
/-- from i on, below n, the least with P is fm - 1; none for 0 -/
def lst (P : Nat → Prop) (i n fm : Nat) : Prop := (fm = 0 ∧ ∀ j, i ≤ j → j < n → ¬ P j) ∨ (∃ j0, fm = j0 + 1 ∧ i ≤ j0 ∧ j0 < n ∧ P j0 ∧ ∀ j, i ≤ j → j < j0 → ¬ P j)
theorem lst_n {P : Nat → Prop} {n : Nat} : lst P n n 0 := Or.inl ⟨rfl, fun j h1 h2 => absurd h2 (by omega)⟩
theorem lst_y {P : Nat → Prop} {i n : Nat} (hi : i < n) (hP : P i) : lst P i n (i + 1) := Or.inr ⟨i, rfl, Nat.le_refl _, hi, hP, fun j h1 h2 => absurd h2 (by omega)⟩
theorem lst_x {P : Nat → Prop} {i n fm : Nat} (h : lst P (i + 1) n fm) (hP : ¬ P i) : lst P i n fm := by
  have up : ∀ j, i ≤ j → ¬ j = i → i + 1 ≤ j := fun j h1 h2 => by omega
  rcases h with ⟨rfl, h⟩ | ⟨j0, rfl, h1, h2, h3, h4⟩
  · exact Or.inl ⟨rfl, fun j h1 h2 => by
      by_cases e : j = i
      · rw [e]; exact hP
      · exact h j (up j h1 e) h2⟩
  · exact Or.inr ⟨j0, rfl, by omega, h2, h3, fun j h5 h6 => by
      by_cases e : j = i
      · rw [e]; exact hP
      · exact h4 j (up j h5 e) h6⟩
theorem lst_u {P : Nat → Prop} {n a b : Nat} (h : lst P 0 n a) (h2 : lst P 0 n b) : a = b := by
  rcases h with ⟨rfl, h⟩ | ⟨j0, rfl, -, h1, h3, h4⟩ <;> rcases h2 with ⟨rfl, k⟩ | ⟨j1, rfl, -, k1, k3, k4⟩
  · rfl
  · exact absurd k3 (h j1 (Nat.zero_le _) k1)
  · exact absurd h3 (k j0 (Nat.zero_le _) h1)
  · rcases Nat.lt_trichotomy j0 j1 with q | q | q
    · exact absurd h3 (k4 j0 (Nat.zero_le _) q)
    · rw [q]
    · exact absurd k3 (h4 j1 (Nat.zero_le _) q)
def rootP (A : Nat → Nat → Int32) (b k : Nat) : Prop := (A 8 k = 0 ∧ A 9 k = -1) ∧ ∀ q, q < 12 → A 10 (12 * k + q) = A 1 (12 * b + q)
def rtA (A : Nat → Nat → Int32) (n b : Nat) : Nat → Nat → Int32 := upR (mkA A n 0) 10 (12 * n) 12 (fun q => A 1 (12 * b + q))
/-- the root layer for base b: found, or made -/
def rootR (A : Nat → Nat → Int32) (n b k1 n1 : Nat) (A1 : Nat → Nat → Int32) : Prop := (lst (rootP A b) 0 n (k1 + 1) ∧ n1 = n ∧ A1 = A) ∨ (lst (rootP A b) 0 n 0 ∧ k1 = n ∧ n1 = n + 1 ∧ A1 = rtA A n b)
theorem rootR_u {A : Nat → Nat → Int32} {n b k1 n1 k2 n2 : Nat} {A1 A2 : Nat → Nat → Int32} (h : rootR A n b k1 n1 A1) (h2 : rootR A n b k2 n2 A2) : k1 = k2 ∧ n1 = n2 ∧ A1 = A2 := by
  rcases h with ⟨h, rfl, rfl⟩ | ⟨h, rfl, rfl, rfl⟩ <;> rcases h2 with ⟨k, rfl, rfl⟩ | ⟨k, rfl, rfl, rfl⟩
  · have := lst_u h k
    exact ⟨by omega, rfl, rfl⟩
  · exact absurd (lst_u h k) (by omega)
  · exact absurd (lst_u h k) (by omega)
  · exact ⟨rfl, rfl, rfl⟩
theorem up_id {I : Nat → Int32} {k : Nat} {x : Int32} (h : I k = x) : va_up I k x = I := by
  funext z
  unfold va_up
  by_cases e : z = k
  · rw [if_pos e, e, h]
  · rw [if_neg e]

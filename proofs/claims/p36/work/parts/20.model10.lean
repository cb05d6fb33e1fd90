/-! ===== the reference, X: cleanDigest, prune ===== -/
def cIn (A : Nat → Nat → Int32) (b q : Nat) : Nat → Int32 := fun p => if p < q then A 1 (12 * b + p) else A 28 p
def uIn (A : Nat → Nat → Int32) (q : Nat) : Nat → Int32 := fun p => if p < q then nI 0 else A 29 p
theorem cIn_s {A : Nat → Nat → Int32} {b q : Nat} : upd (cIn A b q) q (A 1 (12 * b + q)) = cIn A b (q + 1) := by
  funext p
  unfold upd cIn
  by_cases h : p = q
  · subst h; rw [if_pos rfl, if_pos (by omega)]
  · rw [if_neg h]
    by_cases h2 : p < q
    · rw [if_pos h2, if_pos (by omega)]
    · rw [if_neg h2, if_neg (by omega)]
theorem uIn_s {A : Nat → Nat → Int32} {q : Nat} : upd (uIn A q) q (nI 0) = uIn A (q + 1) := by
  funext p
  unfold upd uIn
  by_cases h : p = q
  · subst h; rw [if_pos rfl, if_pos (by omega)]
  · rw [if_neg h]
    by_cases h2 : p < q
    · rw [if_pos h2, if_pos (by omega)]
    · rw [if_neg h2, if_neg (by omega)]
theorem cIn_0 {A : Nat → Nat → Int32} {b : Nat} : cIn A b 0 = A 28 := funext fun p => if_neg (by omega)
theorem uIn_0 {A : Nat → Nat → Int32} : uIn A 0 = A 29 := funext fun p => if_neg (by omega)
def crunR (A : Nat → Nat → Int32) (i : Nat) : Nat → Nat → (Nat → Int32) → (Nat → Int32) → Nat → (Nat → Int32) → (Nat → Int32) → Prop
  | 0, _, c, u, w, c1, u1 => w = 1 ∧ c1 = c ∧ u1 = u
  | s + 1, p, c, u, w, c1, u1 => ∃ w0 c0 u0, clR (A 0) c u (A 4 (10 * i + p)) (A 5 (10 * i + p)) (A 6 (10 * i + p)) w0 c0 u0 ∧ ((w0 = 0 ∧ w = 0 ∧ c1 = c0 ∧ u1 = u0) ∨ (w0 = 1 ∧ crunR A i s (p + 1) c0 u0 w c1 u1))
theorem clR_w {F c u c1 u1 : Nat → Int32} {what a b : Int32} {w : Nat} (h : clR F c u what a b w c1 u1) : w = 0 ∨ w = 1 := by
  rcases h with ⟨h, -⟩ | ⟨h, -⟩
  · exact Or.inl h
  · exact Or.inr h
/-- k is the m-th - 1 or above it -/
def ancR (PR : Nat → Nat) : Nat → Nat → Nat → Prop
  | 0, _, _ => False
  | _ + 1, 0, _ => False
  | u + 1, j + 1, k => k = j ∨ ancR PR u (PR j) k
theorem ancR_st {PR : Nat → Nat} {n : Nat} (h : ∀ k, k < n → PR k ≤ k) : ∀ u m k, m ≤ u → m ≤ n → (ancR PR (u + 1) m k ↔ ancR PR u m k) := by
  intro u
  induction u with
  | zero => intro m k hm hn; rw [show m = 0 by omega]; exact Iff.rfl
  | succ u ih =>
    intro m k hm hn
    cases m with
    | zero => exact Iff.rfl
    | succ j =>
      have h1 := h j (by omega)
      show (k = j ∨ ancR PR (u + 1) (PR j) k) ↔ (k = j ∨ ancR PR u (PR j) k)
      rw [ih (PR j) k (by omega) (by omega)]
theorem ancR_up {PR : Nat → Nat} {n : Nat} (h : ∀ k, k < n → PR k ≤ k) : ∀ d m k, m ≤ n → (ancR PR (m + d) m k ↔ ancR PR m m k) := by
  intro d
  induction d with
  | zero => intro m k _; exact Iff.rfl
  | succ d ih => intro m k hm; exact (ancR_st h (m + d) m k (by omega) hm).trans (ih m k hm)
def anc (PR : Nat → Nat) (m k : Nat) : Prop := ancR PR m m k
theorem anc_0 {PR : Nat → Nat} {k : Nat} : ¬ anc PR 0 k := fun h => h
theorem anc_s {PR : Nat → Nat} {n j k : Nat} (h : ∀ k, k < n → PR k ≤ k) (hj : j < n) : anc PR (j + 1) k ↔ (k = j ∨ anc PR (PR j) k) := by
  have h1 := h j hj
  show (k = j ∨ ancR PR j (PR j) k) ↔ (k = j ∨ ancR PR (PR j) (PR j) k)
  rw [← ancR_up h (j - PR j) (PR j) k (by omega), Nat.add_sub_cancel' h1]
def vTag (A : Nat → Nat → Int32) (n : Nat) (TG : Nat → Nat) : Prop := ∀ t, t < 5 → TG t ≤ n ∧ A 16 t = pI (TG t)
def kep (PR TG : Nat → Nat) (T k : Nat) : Prop := ∃ t, t < T ∧ anc PR (TG t) k
def stp (A : Nat → Nat → Int32) (g : Nat → Int32) (q : Nat) : Nat → Nat → Int32 := fun k1 j1 => if k1 = 31 then g j1 else if k1 = 8 ∧ j1 < q then (if g j1 = nI 0 then nI 1 else nI 0) else A k1 j1
theorem stp_k {A : Nat → Nat → Int32} {g : Nat → Int32} {q k j : Nat} (h : k ≠ 31) (h2 : k ≠ 8) : stp A g q k j = A k j := by simp [stp, h, h2]
theorem stp_31 {A : Nat → Nat → Int32} {g : Nat → Int32} {q j : Nat} : stp A g q 31 j = g j := rfl
theorem stp_8 {A : Nat → Nat → Int32} {g : Nat → Int32} {q j : Nat} (h : q ≤ j) : stp A g q 8 j = A 8 j := by
  show (if 8 = 31 then _ else if 8 = 8 ∧ j < q then _ else A 8 j) = _
  rw [if_neg (by decide), if_neg (by omega)]
theorem stp_g {A : Nat → Nat → Int32} {g : Nat → Int32} {q j : Nat} {x : Int32} (hq : q = 0) : mU (stp A g q) 31 j x = stp A (upd g j x) q := by
  funext k1 j1
  subst hq
  by_cases h : k1 = 31
  · subst h; simp [mU, stp, upd]
  · simp [mU, stp, h]
theorem stp_s {A : Nat → Nat → Int32} {g : Nat → Int32} {q : Nat} {x : Int32} (hx : x = (if g q = nI 0 then nI 1 else nI 0)) : mU (stp A g q) 8 q x = stp A g (q + 1) := by
  funext k1 j1
  subst hx
  by_cases h : k1 = 31
  · subst h; simp [mU, stp]
  · by_cases h8 : k1 = 8
    · subst h8
      by_cases e : j1 = q
      · subst e; simp [mU, stp]
      · have hl : j1 < q + 1 ↔ j1 < q := by omega
        simp [mU, stp, e, hl]
    · simp [mU, stp, h, h8]
theorem stp_0 {A : Nat → Nat → Int32} : stp A (A 31) 0 = A := by
  funext k1 j1
  by_cases h : k1 = 31
  · subst h; rfl
  · simp [stp, h]
def cntN (A : Nat → Nat → Int32) (g : Nat → Int32) : Nat → Nat
  | 0 => 0
  | q + 1 => cntN A g q + if g q = nI 0 ∧ A 8 q = nI 0 then 1 else 0
theorem cntN_le {A : Nat → Nat → Int32} {g : Nat → Int32} : ∀ q, cntN A g q ≤ q
  | 0 => Nat.le_refl _
  | q + 1 => by
    have := cntN_le (A := A) (g := g) q
    unfold cntN
    split <;> omega
def kIn (A : Nat → Nat → Int32) (q : Nat) : Nat → Int32 := fun p => if p < q then nI 0 else A 31 p
theorem kIn_s {A : Nat → Nat → Int32} {q : Nat} : upd (kIn A q) q (nI 0) = kIn A (q + 1) := by
  funext p
  unfold upd kIn
  by_cases h : p = q
  · subst h; rw [if_pos rfl, if_pos (by omega)]
  · rw [if_neg h]
    by_cases h2 : p < q
    · rw [if_pos h2, if_pos (by omega)]
    · rw [if_neg h2, if_neg (by omega)]
theorem kIn_0 {A : Nat → Nat → Int32} : kIn A 0 = A 31 := funext fun p => if_neg (by omega)
theorem kep_s {PR TG : Nat → Nat} {T k : Nat} : kep PR TG (T + 1) k ↔ (kep PR TG T k ∨ anc PR (TG T) k) := by
  constructor
  · rintro ⟨t, ht, h⟩
    by_cases e : t = T
    · subst e; exact Or.inr h
    · exact Or.inl ⟨t, by omega, h⟩
  · rintro (⟨t, ht, h⟩ | h)
    · exact ⟨t, by omega, h⟩
    · exact ⟨T, by omega, h⟩

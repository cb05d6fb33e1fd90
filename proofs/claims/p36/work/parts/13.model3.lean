/-! ===== the reference, III: layers, read ===== -/
/-- no parent, or a parent -/
def pI : Nat → Int32
  | 0 => -1
  | j + 1 => nI j
theorem pI_0 {m : Nat} (h : pI m = -1) (hm : m ≤ 2 ^ 31) : m = 0 := by
  cases m with
  | zero => rfl
  | succ j => exact absurd h (gn_ne1 (by omega))
theorem pI_inj {a b : Nat} (h : pI a = pI b) (ha : a ≤ 2 ^ 31) (hb : b ≤ 2 ^ 31) : a = b := by
  cases a with
  | zero => exact (pI_0 h.symm hb).symm
  | succ a =>
    cases b with
    | zero => exact pI_0 h ha
    | succ b => exact congrArg (· + 1) (gn_inj (by omega) (by omega) h)
def live (A : Nat → Nat → Int32) (n : Nat) (x : Int32) : Prop := ∃ k, k < n ∧ x = nI k ∧ A 8 k = 0
/-- the parents: PR k is 0 for a root layer, j + 1 for a child of j -/
def vPar (A : Nat → Nat → Int32) (n : Nat) (PR : Nat → Nat) : Prop := ∀ k, k < n → PR k ≤ k ∧ A 9 k = pI (PR k)
def spr (S : Nat → Nat → Int32) (q : Nat) : Nat → Int32
  | 0 => -1
  | j + 1 => S j q
def shw (h : Int32) (m : Nat) (S : Nat → Nat → Int32) (q : Nat) : Int32 := if h = -1 then spr S q m else if h = -2 then -1 else h
theorem shw_1 {h : Int32} {m : Nat} {S : Nat → Nat → Int32} {q : Nat} (e : h = -1) : shw h m S q = spr S q m := if_pos e
theorem shw_2 {h : Int32} {m : Nat} {S : Nat → Nat → Int32} {q : Nat} (e : ¬ h = -1) : shw h m S q = if h = -2 then -1 else h := if_neg e
def vShow (A : Nat → Nat → Int32) (n : Nat) (PR : Nat → Nat) (S : Nat → Nat → Int32) : Prop := ∀ k q, k < n → q < 12 → S k q = shw (A 10 (12 * k + q)) (PR k) S q
def dpt (PL : Nat → Nat) : Nat → Nat
  | 0 => 0
  | j + 1 => PL j + 1
def vPL (n : Nat) (PR PL : Nat → Nat) : Prop := ∀ k, k < n → PL k = dpt PL (PR k)
def szN (A : Nat → Nat → Int32) (k : Nat) : Nat → Nat
  | 0 => 0
  | i + 1 => szN A k i + if A 10 (12 * k + i) = -1 then 0 else 1
def isz (A : Nat → Nat → Int32) (PR : Nat → Nat) : Nat → Nat → Nat
  | 0, _ => 0
  | _ + 1, 0 => 0
  | u + 1, j + 1 => szN A j 12 + isz A PR u (PR j)
theorem isz_st {A : Nat → Nat → Int32} {PR : Nat → Nat} {n : Nat} (h : ∀ k, k < n → PR k ≤ k) : ∀ u m, m ≤ u → m ≤ n → isz A PR (u + 1) m = isz A PR u m := by
  intro u
  induction u with
  | zero => intro m hm hn; rw [show m = 0 by omega]; rfl
  | succ u ih =>
    intro m hm hn
    cases m with
    | zero => rfl
    | succ j =>
      have h1 := h j (by omega)
      show szN A j 12 + isz A PR (u + 1) (PR j) = szN A j 12 + isz A PR u (PR j)
      rw [ih (PR j) (by omega) (by omega)]
theorem isz_up {A : Nat → Nat → Int32} {PR : Nat → Nat} {n : Nat} (h : ∀ k, k < n → PR k ≤ k) : ∀ d m, m ≤ n → isz A PR (m + d) m = isz A PR m m := by
  intro d
  induction d with
  | zero => intro m _; rfl
  | succ d ih => intro m hm; rw [← ih m hm]; exact isz_st h (m + d) m (by omega) hm
/-- the image's size, from m on -/
def isT (A : Nat → Nat → Int32) (PR : Nat → Nat) (m : Nat) : Nat := isz A PR m m
theorem isT_s {A : Nat → Nat → Int32} {PR : Nat → Nat} {n j : Nat} (h : ∀ k, k < n → PR k ≤ k) (hj : j < n) : isT A PR (j + 1) = szN A j 12 + isT A PR (PR j) := by
  have h1 := h j hj
  show szN A j 12 + isz A PR j (PR j) = szN A j 12 + isz A PR (PR j) (PR j)
  rw [← isz_up h (j - PR j) (PR j) (by omega), Nat.add_sub_cancel' h1]
def dgF (g : Nat → Int32) : Nat → Int32
  | 0 => nI 1
  | i + 1 => if g i = -1 then dgF g i else (nI 31 * dgF g i + nI 101 * nI i + g i) - (nI 31 * dgF g i + nI 101 * nI i + g i) / 1000003 * 1000003
theorem gn_ge {a b : Nat} (h : nI a ≤ nI b) (ha : a < 2 ^ 31) (hb : b < 2 ^ 31) : a ≤ b := (nI_leI ha hb).mp h
theorem gn_gt {a b : Nat} (h : ¬ nI a ≤ nI b) (ha : a < 2 ^ 31) (hb : b < 2 ^ 31) : b < a := Nat.lt_of_not_le (fun q => h ((nI_leI ha hb).mpr q))

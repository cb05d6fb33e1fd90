/-! ===== the class, VII: its world, by a book of names ===== -/
abbrev iT : Type := Int32 × Int32 × Int32
def bkV (n j : Nat) : Prop := j < 21 ∨ (100 ≤ j ∧ j < 100 + 4 * n)
/-- the pool holds, at the address of name j, the cell X j; and the instructions Is -/
def Pc (bk : Nat → Nat) (n : Nat) (X : Nat → va_E) (Is : Nat → Option iT) (L : List Nat) (f : gF) : Prop :=
  (∀ j, bkV n j → gH L f (bk j) (X j)) ∧ (∀ i j, bkV n i → bkV n j → bk i = bk j → i = j) ∧ ∀ a t, Is a = some t → gH L f a (.inr (1, [.int t.1, .int t.2.1, .int t.2.2]))
theorem Pc.at {bk : Nat → Nat} {n : Nat} {X : Nat → va_E} {Is : Nat → Option iT} {L : List Nat} {f : gF} (h : Pc bk n X Is L f) {j : Nat} {e : va_E} (hj : bkV n j) (hx : X j = e) : gH L f (bk j) e := hx ▸ h.1 j hj
theorem Pc.ap {bk : Nat → Nat} {n : Nat} {X : Nat → va_E} {Is : Nat → Option iT} {L : List Nat} {f : gF} (h : Pc bk n X Is L f) {i j : Nat} (hi : bkV n i) (hj : bkV n j) (hn : i ≠ j) : bk i ≠ bk j := fun e => hn (h.2.1 i j hi hj e)
theorem Pc.up {bk : Nat → Nat} {n : Nat} {X : Nat → va_E} {Is : Nat → Option iT} {L : List Nat} {f : gF} (h : Pc bk n X Is L f) {j : Nat} (hj : bkV n j) (e : va_E) (hc : ∀ t : iT, X j ≠ .inr (1, [.int t.1, .int t.2.1, .int t.2.2])) : Pc bk n (va_up X j e) Is L (va_up f (bk j) e) := by
  refine ⟨fun i hi => ?_, h.2.1, fun a t ha => (h.2.2 a t ha).ne (gH.apart (h.2.2 a t ha) (h.1 j hj) (fun q => hc t q.symm))⟩
  by_cases e1 : i = j
  · subst e1
    rw [va_up_self]
    exact (h.1 i hi).up
  · rw [va_up_ne _ _ e1]
    exact (h.1 i hi).ne (h.ap hi hj e1)
theorem Pc.ext {bk : Nat → Nat} {n : Nat} {X : Nat → va_E} {Is : Nat → Option iT} {L L1 : List Nat} {f f1 : gF} (h : Pc bk n X Is L f) (hL : ∀ b, b ∈ L → b ∈ L1) (hf : ∀ b, b ∈ L → f1 b = f b) : Pc bk n X Is L1 f1 :=
  ⟨fun j hj => (h.1 j hj).of (hL _ (h.1 j hj).1) (hf _ (h.1 j hj).1), h.2.1, fun a t ha => (h.2.2 a t ha).of (hL _ (h.2.2 a t ha).1) (hf _ (h.2.2 a t ha).1)⟩
theorem Pc.ins {bk : Nat → Nat} {n : Nat} {X : Nat → va_E} {Is : Nat → Option iT} {L : List Nat} {f : gF} (h : Pc bk n X Is L f) {a : Nat} (ha : Is a = none) (t : iT) (hc : gH L f a (.inr (1, [.int t.1, .int t.2.1, .int t.2.2]))) : Pc bk n X (va_up Is a (some t)) L f := by
  refine ⟨h.1, h.2.1, fun b u hb => ?_⟩
  by_cases e : b = a
  · subst e
    rw [va_up_self] at hb
    cases hb
    exact hc
  · rw [va_up_ne _ _ e] at hb
    exact h.2.2 b u hb
abbrev qR (g : Nat → Option Nat) : Sum (Nat → Int32) (Sum (Nat → Int64) (Sum (Nat → UInt32) (Sum (Nat → UInt64) (Nat → Option Nat)))) := .inr (.inr (.inr (.inr g)))
def pR (bk : Nat → Nat) : Nat → Option Nat
  | 0 => none
  | j + 1 => some (bk (100 + 4 * j))
/-- the class's instruction, and the reference's -/
def insR (o : Option iT) (k a b : Int32) : Prop := o = some (k, a, if k = nI 3 then -1 else b) ∧ vIns k a b ∧ (k = nI 3 → b = nI 0)
def pCo (bk : Nat → Nat) (e : va_E) (I : Nat → Int32) : Prop := e = .inr (5, [.ref (bk 1), .ref (bk 2), .ref (bk 6), .ref (bk 7), .ref (bk 8), .ref (bk 10), .int (I 25), .int (I 26)])
def pFi (cy : Nat → ClassId) (e : va_E) (F : Nat → Int32) : Prop := ∃ g, e = .inl (cy 0, 8, .inl g) ∧ ∀ q, q < 8 → g q = F q
def pBa (cy : Nat → ClassId) (bk : Nat → Nat) (X : Nat → va_E) (B : Nat → Int32) : Prop := ∃ r, X 2 = .inl (cy 3, 3, qR r) ∧ (∀ b, b < 3 → r b = some (bk (3 + b))) ∧ ∀ b, b < 3 → ∃ g, X (3 + b) = .inl (cy 0, 12, .inl g) ∧ ∀ q, q < 12 → g q = B (12 * b + q)
def pRow (cy : Nat → ClassId) (bk : Nat → Nat) (X : Nat → va_E) (Is : Nat → Option iT) (j : Nat) (bs : Int32) (c : Nat) (K P Q : Nat → Int32) : Prop :=
  X j = .inr (3, [.ref (bk (j + 1)), .int bs, .int (nI c)]) ∧ ∃ g, X (j + 1) = .inl (cy 6, 10, qR g) ∧ (∀ p v, g p = some v → ∃ t, Is v = some t) ∧ ∀ p, p < c → ∃ v, g p = some v ∧ insR (Is v) (K p) (P p) (Q p)
def pRe (cy : Nat → ClassId) (bk : Nat → Nat) (X : Nat → va_E) (Is : Nat → Option iT) (A : Nat → Nat → Int32) : Prop :=
  ∃ r, X 6 = .inl (cy 4, 4, qR r) ∧ (∀ i, i < 4 → r i = some (bk (11 + 2 * i))) ∧ ∀ i, i < 4 → ∃ c b, c ≤ 10 ∧ b < 3 ∧ A 3 i = nI c ∧ A 2 i = nI b ∧ pRow cy bk X Is (11 + 2 * i) (nI b) c (fun p => A 4 (10 * i + p)) (fun p => A 5 (10 * i + p)) (fun p => A 6 (10 * i + p))
def tgC (bk : Nat → Nat) (n : Nat) (A : Nat → Nat → Int32) (x : Int32) (o : Option Nat) : Prop := (x = -1 ∧ o = none) ∨ ∃ k, k < n ∧ x = nI k ∧ A 8 k = 0 ∧ o = some (bk (100 + 4 * k))
def pTa (cy : Nat → ClassId) (bk : Nat → Nat) (n : Nat) (e : va_E) (A : Nat → Nat → Int32) : Prop := ∃ g, e = .inl (cy 5, 5, qR g) ∧ ∀ i, i < 5 → tgC bk n A (A 16 i) (g i)
def pSt (cy : Nat → ClassId) (bk : Nat → Nat) (n : Nat) (X : Nat → va_E) (G8 : Nat → Int32) : Prop :=
  X 8 = .inr (4, [.ref (bk 9), .int (nI n)]) ∧ ∃ g, X 9 = .inl (cy 5, 420, qR g) ∧ (∀ k, k < n → g k = if G8 k = 0 then some (bk (100 + 4 * k)) else none) ∧ ∀ k, n ≤ k → k < 420 → g k = none
def buC (bk : Nat → Nat) (n : Nat) (A : Nat → Nat → Int32) (I : Nat → Int32) (PL : Nat → Nat) (t c : Nat) (ly : Option Nat) : Prop :=
  (I 17 = nI 1 ∧ I 18 = nI 0 ∧ I 19 = nI c ∧ I 20 = nI t ∧ t < c ∧ ∃ k, k < n ∧ I 24 = nI k ∧ A 8 k = 0 ∧ PL k = t ∧ ly = some (bk (100 + 4 * k))) ∨
  (I 17 = nI 0 ∧ t = c ∧ ((I 18 = nI 0 ∧ ly = none) ∨ (I 18 = nI 1 ∧ ∃ k, k < n ∧ I 24 = nI k ∧ ly = if A 8 k = 0 then some (bk (100 + 4 * k)) else none)))
def pBu (cy : Nat → ClassId) (bk : Nat → Nat) (n : Nat) (X : Nat → va_E) (Is : Nat → Option iT) (A : Nat → Nat → Int32) (I : Nat → Int32) (PL : Nat → Nat) : Prop :=
  ∃ t c ly bs, t ≤ c ∧ c ≤ 10 ∧ X 10 = .inr (0, [.ref (bk 19), .int (nI t), va_rf ly]) ∧ pRow cy bk X Is 19 bs c (A 21) (A 22) (A 23) ∧ buC bk n A I PL t c ly
def mkC (Is : Nat → Option iT) (A : Nat → Nat → Int32) (k : Nat) (m : Option Nat) (ip : Int32) : Prop :=
  (m = none ∧ A 12 k = -1 ∧ ip = -1) ∨ ∃ a, m = some a ∧ insR (Is a) (A 12 k) (A 13 k) (A 14 k) ∧ ip = (if A 12 k = nI 0 then A 15 k else -1) ∧ (A 12 k ≠ nI 0 → A 15 k = nI 0)
def pLk (cy : Nat → ClassId) (bk : Nat → Nat) (X : Nat → va_E) (Is : Nat → Option iT) (A : Nat → Nat → Int32) (PR PL : Nat → Nat) (S : Nat → Nat → Int32) (k : Nat) : Prop :=
  ∃ h s v m ip, X (100 + 4 * k) = .inr (2, [.int (nI k), va_rf (pR bk (PR k)), .int (nI (PL k)), .ref (bk (101 + 4 * k)), .ref (bk (102 + 4 * k)), .ref (bk (103 + 4 * k)), va_rf m, .int ip]) ∧ X (101 + 4 * k) = .inl (cy 0, 12, .inl h) ∧ X (102 + 4 * k) = .inl (cy 0, 12, .inl s) ∧ X (103 + 4 * k) = .inl (cy 0, 4, .inl v) ∧ (∀ q, q < 12 → h q = A 10 (12 * k + q)) ∧ (∀ q, q < 12 → s q = S k q) ∧ (∀ q, q < 4 → v q = A 11 (4 * k + q)) ∧ mkC Is A k m ip
def pIn (n : Nat) (A : Nat → Nat → Int32) (I : Nat → Int32) (PR PL : Nat → Nat) (S : Nat → Nat → Int32) : Prop :=
  I 7 = nI n ∧ n ≤ 420 ∧ vPar A n PR ∧ vShow A n PR S ∧ vPL n PR PL ∧ (∀ k, k < n → PL k ≤ 10) ∧ ∀ k j, k < n → A 8 k = 0 → PR k = j + 1 → A 8 j = 0
def RC (cy : Nat → ClassId) (bk : Nat → Nat) (n : Nat) (X : Nat → va_E) (Is : Nat → Option iT) (PR PL : Nat → Nat) (S A : Nat → Nat → Int32) (I : Nat → Int32) (L : List Nat) (f : gF) : Prop :=
  Pc bk n X Is L f ∧ pCo bk (X 0) I ∧ pFi cy (X 1) (A 0) ∧ pBa cy bk X (A 1) ∧ pRe cy bk X Is A ∧ pTa cy bk n (X 7) A ∧ pSt cy bk n X (A 8) ∧ pBu cy bk n X Is A I PL ∧ (∀ k, k < n → pLk cy bk X Is A PR PL S k) ∧ pIn n A I PR PL S
theorem insR.c {Is Is' : Nat → Option iT} (hi : ∀ v t, Is v = some t → Is' v = some t) {v : Nat} {k a b : Int32} (h : insR (Is v) k a b) : insR (Is' v) k a b := ⟨hi _ _ h.1, h.2⟩
theorem pRow.c {cy : Nat → ClassId} {bk bk' : Nat → Nat} {X X' : Nat → va_E} {Is Is' : Nat → Option iT} {j : Nat} {bs : Int32} {c : Nat} {K P Q K' P' Q' : Nat → Int32} (h : pRow cy bk X Is j bs c K P Q) (hb : bk' (j + 1) = bk (j + 1)) (h1 : X' j = X j) (h2 : X' (j + 1) = X (j + 1)) (hi : ∀ v t, Is v = some t → Is' v = some t) (hk : ∀ p, p < c → K' p = K p ∧ P' p = P p ∧ Q' p = Q p) : pRow cy bk' X' Is' j bs c K' P' Q' := by
  obtain ⟨e1, g, e2, e3, e4⟩ := h
  refine ⟨by rw [h1, e1, hb], g, h2.trans e2, fun p v hv => ?_, fun p hp => ?_⟩
  · obtain ⟨t, ht⟩ := e3 p v hv
    exact ⟨t, hi _ _ ht⟩
  · obtain ⟨v, hv, hr⟩ := e4 p hp
    rw [(hk p hp).1, (hk p hp).2.1, (hk p hp).2.2]
    exact ⟨v, hv, hr.c hi⟩
theorem pBa.c {cy : Nat → ClassId} {bk bk' : Nat → Nat} {X X' : Nat → va_E} {B B' : Nat → Int32} (h : pBa cy bk X B) (hb : ∀ j, j < 21 → bk' j = bk j) (hx : ∀ j, 2 ≤ j → j ≤ 5 → X' j = X j) (ha : ∀ j, j < 36 → B' j = B j) : pBa cy bk' X' B' := by
  obtain ⟨r, e1, e2, e3⟩ := h
  refine ⟨r, by rw [hx 2 (by decide) (by decide)]; exact e1, fun b hb3 => by rw [hb _ (by omega)]; exact e2 b hb3, fun b hb3 => ?_⟩
  obtain ⟨g, e4, e5⟩ := e3 b hb3
  exact ⟨g, by rw [hx _ (by omega) (by omega)]; exact e4, fun q hq => by rw [ha _ (by omega)]; exact e5 q hq⟩
theorem pRe.c {cy : Nat → ClassId} {bk bk' : Nat → Nat} {X X' : Nat → va_E} {Is Is' : Nat → Option iT} {A A' : Nat → Nat → Int32} (h : pRe cy bk X Is A) (hb : ∀ j, j < 21 → bk' j = bk j) (hx6 : X' 6 = X 6) (hx : ∀ j, 11 ≤ j → j < 19 → X' j = X j) (hi : ∀ v t, Is v = some t → Is' v = some t) (ha : ∀ k j, 2 ≤ k → k ≤ 6 → A' k j = A k j) : pRe cy bk' X' Is' A' := by
  obtain ⟨r, e1, e2, e3⟩ := h
  refine ⟨r, by rw [hx6]; exact e1, fun i hi4 => by rw [hb _ (by omega)]; exact e2 i hi4, fun i hi4 => ?_⟩
  obtain ⟨c, b, e4, e5, e6, e7, e8⟩ := e3 i hi4
  exact ⟨c, b, e4, e5, by rw [ha _ _ (by decide) (by decide)]; exact e6, by rw [ha _ _ (by decide) (by decide)]; exact e7, e8.c (hb _ (by omega)) (hx _ (by omega) (by omega)) (hx _ (by omega) (by omega)) hi (fun p hp => ⟨ha _ _ (by decide) (by decide), ha _ _ (by decide) (by decide), ha _ _ (by decide) (by decide)⟩)⟩
theorem tgC.c {bk bk' : Nat → Nat} {n n' : Nat} {A A' : Nat → Nat → Int32} {x : Int32} {o : Option Nat} (h : tgC bk n A x o) (hn : n ≤ n') (hb : ∀ k, k < n → bk' (100 + 4 * k) = bk (100 + 4 * k)) (h8 : ∀ k, k < n → A' 8 k = A 8 k) : tgC bk' n' A' x o := by
  rcases h with h | ⟨k, hk, e1, e2, e3⟩
  · exact Or.inl h
  · exact Or.inr ⟨k, by omega, e1, (h8 k hk).trans e2, by rw [hb k hk]; exact e3⟩
theorem pTa.c {cy : Nat → ClassId} {bk bk' : Nat → Nat} {n n' : Nat} {e e' : va_E} {A A' : Nat → Nat → Int32} (h : pTa cy bk n e A) (he : e' = e) (hn : n ≤ n') (hb : ∀ k, k < n → bk' (100 + 4 * k) = bk (100 + 4 * k)) (h8 : ∀ k, k < n → A' 8 k = A 8 k) (h16 : ∀ i, i < 5 → A' 16 i = A 16 i) : pTa cy bk' n' e' A' := by
  obtain ⟨g, e1, e2⟩ := h
  exact ⟨g, he.trans e1, fun i hi => by rw [h16 i hi]; exact (e2 i hi).c hn hb h8⟩
theorem pSt.c {cy : Nat → ClassId} {bk : Nat → Nat} {n : Nat} {X X' : Nat → va_E} {G8 G8' : Nat → Int32} (h : pSt cy bk n X G8) (hx8 : X' 8 = X 8) (hx9 : X' 9 = X 9) (h8 : ∀ k, k < n → G8' k = G8 k) : pSt cy bk n X' G8' := by
  obtain ⟨e1, g, e2, e3, e4⟩ := h
  exact ⟨hx8.trans e1, g, hx9.trans e2, fun k hk => by rw [h8 k hk]; exact e3 k hk, e4⟩
theorem pBu.c {cy : Nat → ClassId} {bk bk' : Nat → Nat} {n n' : Nat} {X X' : Nat → va_E} {Is Is' : Nat → Option iT} {A A' : Nat → Nat → Int32} {I I' : Nat → Int32} {PL PL' : Nat → Nat} (h : pBu cy bk n X Is A I PL) (hn : n ≤ n') (hb : ∀ j, bkV n j → bk' j = bk j) (hx : X' 10 = X 10 ∧ X' 19 = X 19 ∧ X' 20 = X 20) (hi : ∀ v t, Is v = some t → Is' v = some t) (ha : ∀ k j, 21 ≤ k → k ≤ 23 → A' k j = A k j) (h8 : ∀ k, k < n → A' 8 k = A 8 k) (hp : ∀ k, k < n → PL' k = PL k) (hI : I' 17 = I 17 ∧ I' 18 = I 18 ∧ I' 19 = I 19 ∧ I' 20 = I 20 ∧ I' 24 = I 24) : pBu cy bk' n' X' Is' A' I' PL' := by
  obtain ⟨t, c, ly, bs, e1, e2, e3, e4, e5⟩ := h
  obtain ⟨i1, i2, i3, i4, i5⟩ := hI
  refine ⟨t, c, ly, bs, e1, e2, by rw [hx.1, hb 19 (Or.inl (by decide))]; exact e3, e4.c (hb 20 (Or.inl (by decide))) hx.2.1 hx.2.2 hi (fun p _ => ⟨ha _ _ (by decide) (by decide), ha _ _ (by decide) (by decide), ha _ _ (by decide) (by decide)⟩), ?_⟩
  rcases e5 with ⟨j1, j18, j2, j3, j4, k, j6, j7, j8, j9, j10⟩ | ⟨j1, j2, j3⟩
  · refine Or.inl ⟨i1.trans j1, i2.trans j18, i3.trans j2, i4.trans j3, j4, k, by omega, i5.trans j7, (h8 k j6).trans j8, (hp k j6).trans j9, by rw [hb _ (Or.inr ⟨by omega, by omega⟩)]; exact j10⟩
  · refine Or.inr ⟨i1.trans j1, j2, ?_⟩
    rcases j3 with ⟨j3, j4⟩ | ⟨j3, k, j4, j5, j6⟩
    · exact Or.inl ⟨i2.trans j3, j4⟩
    · exact Or.inr ⟨i2.trans j3, k, by omega, i5.trans j5, by rw [hb _ (Or.inr ⟨by omega, by omega⟩), h8 k j4]; exact j6⟩
theorem pR_c {bk bk' : Nat → Nat} {m k : Nat} (hm : m ≤ k) (hb : ∀ j, j < k → bk' (100 + 4 * j) = bk (100 + 4 * j)) : pR bk' m = pR bk m := by
  cases m with
  | zero => rfl
  | succ j => exact congrArg some (hb j (by omega))
theorem mkC.c {Is Is' : Nat → Option iT} {A A' : Nat → Nat → Int32} {k : Nat} {m : Option Nat} {ip : Int32} (h : mkC Is A k m ip) (hi : ∀ v t, Is v = some t → Is' v = some t) (ha : ∀ r, 12 ≤ r → r ≤ 15 → A' r k = A r k) : mkC Is' A' k m ip := by
  unfold mkC
  rw [ha 12 (by decide) (by decide), ha 13 (by decide) (by decide), ha 14 (by decide) (by decide), ha 15 (by decide) (by decide)]
  rcases h with h | ⟨a, e1, e2, e3⟩
  · exact Or.inl h
  · exact Or.inr ⟨a, e1, e2.c hi, e3⟩
theorem pLk.c {cy : Nat → ClassId} {bk bk' : Nat → Nat} {X X' : Nat → va_E} {Is Is' : Nat → Option iT} {A A' : Nat → Nat → Int32} {PR PL PR' PL' : Nat → Nat} {S S' : Nat → Nat → Int32} {k : Nat} (h : pLk cy bk X Is A PR PL S k) (hk : PR k ≤ k) (hb : ∀ j, 100 ≤ j → j < 104 + 4 * k → bk' j = bk j) (hx : ∀ j, 100 + 4 * k ≤ j → j < 104 + 4 * k → X' j = X j) (hi : ∀ v t, Is v = some t → Is' v = some t) (hp : PR' k = PR k ∧ PL' k = PL k ∧ ∀ q, q < 12 → S' k q = S k q) (h10 : ∀ q, q < 12 → A' 10 (12 * k + q) = A 10 (12 * k + q)) (h11 : ∀ q, q < 4 → A' 11 (4 * k + q) = A 11 (4 * k + q)) (h12 : ∀ r, 12 ≤ r → r ≤ 15 → A' r k = A r k) : pLk cy bk' X' Is' A' PR' PL' S' k := by
  obtain ⟨h9, s, v, m, ip, e1, e2, e3, e4, e5, e6, e7, e8⟩ := h
  refine ⟨h9, s, v, m, ip, ?_, (hx _ (by omega) (by omega)).trans e2, (hx _ (by omega) (by omega)).trans e3, (hx _ (by omega) (by omega)).trans e4, fun q hq => (e5 q hq).trans (h10 q hq).symm, fun q hq => (e6 q hq).trans (hp.2.2 q hq).symm, fun q hq => (e7 q hq).trans (h11 q hq).symm, e8.c hi h12⟩
  rw [hx _ (by omega) (by omega), e1, hp.1, hp.2.1, pR_c hk (fun j hj => hb _ (by omega) (by omega)), hb _ (by omega) (by omega), hb _ (by omega) (by omega), hb _ (by omega) (by omega)]

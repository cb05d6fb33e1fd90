/-! ===== the class, XI: its world grows by a layer ===== -/
def b4 {α : Type} (F : Nat → α) (n : Nat) (x0 x1 x2 x3 : α) : Nat → α := fun j => if j = 100 + 4 * n then x0 else if j = 101 + 4 * n then x1 else if j = 102 + 4 * n then x2 else if j = 103 + 4 * n then x3 else F j
theorem b4_0 {α : Type} {F : Nat → α} {n : Nat} {x0 x1 x2 x3 : α} : b4 F n x0 x1 x2 x3 (100 + 4 * n) = x0 := if_pos rfl
theorem b4_1 {α : Type} {F : Nat → α} {n : Nat} {x0 x1 x2 x3 : α} : b4 F n x0 x1 x2 x3 (101 + 4 * n) = x1 := by
  unfold b4
  rw [if_neg (by omega), if_pos rfl]
theorem b4_2 {α : Type} {F : Nat → α} {n : Nat} {x0 x1 x2 x3 : α} : b4 F n x0 x1 x2 x3 (102 + 4 * n) = x2 := by
  unfold b4
  rw [if_neg (by omega), if_neg (by omega), if_pos rfl]
theorem b4_3 {α : Type} {F : Nat → α} {n : Nat} {x0 x1 x2 x3 : α} : b4 F n x0 x1 x2 x3 (103 + 4 * n) = x3 := by
  unfold b4
  rw [if_neg (by omega), if_neg (by omega), if_neg (by omega), if_pos rfl]
theorem b4_o {α : Type} {F : Nat → α} {n j : Nat} {x0 x1 x2 x3 : α} (h : j < 100 + 4 * n) : b4 F n x0 x1 x2 x3 j = F j := by
  unfold b4
  rw [if_neg (by omega), if_neg (by omega), if_neg (by omega), if_neg (by omega)]
theorem bkV_s {n j : Nat} (h : bkV (n + 1) j) : (bkV n j ∧ j < 100 + 4 * n) ∨ j = 100 + 4 * n ∨ j = 101 + 4 * n ∨ j = 102 + 4 * n ∨ j = 103 + 4 * n := by
  unfold bkV at *
  omega
theorem Pc.grow {bk : Nat → Nat} {n : Nat} {X : Nat → va_E} {Is : Nat → Option iT} {L : List Nat} {f : gF} {a h s v : Nat} {ea eh es ev : va_E} (k : Pc bk n X Is L f) (ha : gH L f a ea) (hh : gH L f h eh) (hs : gH L f s es) (hv : gH L f v ev) (hf : ∀ j, bkV n j → bk j ≠ a ∧ bk j ≠ h ∧ bk j ≠ s ∧ bk j ≠ v) (d1 : a ≠ h) (d2 : a ≠ s) (d3 : a ≠ v) (d4 : h ≠ s) (d5 : h ≠ v) (d6 : s ≠ v) : Pc (b4 bk n a h s v) (n + 1) (b4 X n ea eh es ev) Is L f := by
  refine ⟨fun j hj => ?_, fun i j hi hj e => ?_, k.2.2⟩
  · rcases bkV_s hj with ⟨hj, hl⟩ | rfl | rfl | rfl | rfl
    · rw [b4_o hl, b4_o hl]; exact k.1 j hj
    · rw [b4_0, b4_0]; exact ha
    · rw [b4_1, b4_1]; exact hh
    · rw [b4_2, b4_2]; exact hs
    · rw [b4_3, b4_3]; exact hv
  · rcases bkV_s hi with ⟨hi, hl⟩ | rfl | rfl | rfl | rfl <;> rcases bkV_s hj with ⟨hj, hl2⟩ | rfl | rfl | rfl | rfl
    · rw [b4_o hl, b4_o hl2] at e; exact k.2.1 i j hi hj e
    · rw [b4_o hl, b4_0] at e; exact absurd e (hf i hi).1
    · rw [b4_o hl, b4_1] at e; exact absurd e (hf i hi).2.1
    · rw [b4_o hl, b4_2] at e; exact absurd e (hf i hi).2.2.1
    · rw [b4_o hl, b4_3] at e; exact absurd e (hf i hi).2.2.2
    · rw [b4_o hl2, b4_0] at e; exact absurd e.symm (hf j hj).1
    · rfl
    · rw [b4_0, b4_1] at e; exact absurd e d1
    · rw [b4_0, b4_2] at e; exact absurd e d2
    · rw [b4_0, b4_3] at e; exact absurd e d3
    · rw [b4_o hl2, b4_1] at e; exact absurd e.symm (hf j hj).2.1
    · rw [b4_1, b4_0] at e; exact absurd e.symm d1
    · rfl
    · rw [b4_1, b4_2] at e; exact absurd e d4
    · rw [b4_1, b4_3] at e; exact absurd e d5
    · rw [b4_o hl2, b4_2] at e; exact absurd e.symm (hf j hj).2.2.1
    · rw [b4_2, b4_0] at e; exact absurd e.symm d2
    · rw [b4_2, b4_1] at e; exact absurd e.symm d4
    · rfl
    · rw [b4_2, b4_3] at e; exact absurd e d6
    · rw [b4_o hl2, b4_3] at e; exact absurd e.symm (hf j hj).2.2.2
    · rw [b4_3, b4_0] at e; exact absurd e.symm d3
    · rw [b4_3, b4_1] at e; exact absurd e.symm d5
    · rw [b4_3, b4_2] at e; exact absurd e.symm d6
    · rfl
theorem PRx_o {PR : Nat → Nat} {n m k : Nat} (h : k < n) : PRx PR n m k = PR k := if_neg (by omega)
theorem PRx_n {PR : Nat → Nat} {n m : Nat} : PRx PR n m n = m := if_pos rfl
theorem Sx_o {S : Nat → Nat → Int32} {g : Nat → Int32} {n k q : Nat} (h : k < n) : Sx S n g k q = S k q := if_neg (by omega)
theorem Sx_n {S : Nat → Nat → Int32} {g : Nat → Int32} {n q : Nat} : Sx S n g n q = g q := if_pos rfl
theorem dpt_x {PL : Nat → Nat} {n m d : Nat} (h : m ≤ n) : dpt (PRx PL n d) m = dpt PL m := by
  cases m with
  | zero => rfl
  | succ j => exact congrArg (· + 1) (PRx_o (by omega))
/-- what of the reference's arrays changes when layer n comes to be, on m -/
def grA (A A1 : Nat → Nat → Int32) (n m : Nat) : Prop :=
  (∀ k j, (k < 8 ∨ 12 < k) → A1 k j = A k j) ∧ (∀ k, k < n → A1 8 k = A 8 k) ∧ A1 8 n = 0 ∧ (∀ k, k < n → A1 9 k = A 9 k) ∧ A1 9 n = pI m ∧ (∀ k q, k < n → q < 12 → A1 10 (12 * k + q) = A 10 (12 * k + q)) ∧ (∀ k q, k < n → q < 4 → A1 11 (4 * k + q) = A 11 (4 * k + q)) ∧ (∀ k, k < n → A1 12 k = A 12 k) ∧ A1 12 n = -1
theorem mkC.n {Is : Nat → Option iT} {A : Nat → Nat → Int32} {k : Nat} (h : A 12 k = -1) : mkC Is A k none (-1) := Or.inl ⟨rfl, h, rfl⟩
theorem RC.new {cy : Nat → ClassId} {L : List Nat} {f : gF} {bk : Nat → Nat} {n : Nat} {X : Nat → va_E} {Is : Nat → Option iT} {PR PL : Nat → Nat} {S A : Nat → Nat → Int32} {I : Nat → Int32} (hR : RC cy bk n X Is PR PL S A I L f) {L0 : List Nat} {f0 : gF} (hP0 : ∀ b, b ∈ L → b ∈ L0) {a : Nat} (haL : a ∉ L) (hf0 : ∀ b, b ∈ L → f0 b = f b) {L1 : List Nat} {f1 : gF} {m h s v : Nat} {H S9 V : Nat → Int32} (hN : nLy cy L0 f0 L1 f1 a (nI n) (pR bk m) (nI (dpt PL m)) h s v H S9 V) (hm : m ≤ n) (hd : dpt PL m ≤ 10) (hn : n < 420) (hlv : ∀ j, m = j + 1 → A 8 j = 0) {A1 : Nat → Nat → Int32} (hg : grA A A1 n m) (e1 : ∀ q, q < 12 → H q = A1 10 (12 * n + q)) (e2 : ∀ q, q < 12 → S9 q = shw (A1 10 (12 * n + q)) m S q) (e3 : ∀ q, q < 4 → V q = A1 11 (4 * n + q))
    {g : Nat → Option Nat} (hx9 : X 9 = .inl (cy 5, 420, qR g)) (hx1 : ∀ k, k < n → g k = if A 8 k = 0 then some (bk (100 + 4 * k)) else none) (hx2 : ∀ k, n ≤ k → k < 420 → g k = none) :
    ∃ X2, RC cy (b4 bk n a h s v) (n + 1) X2 Is (PRx PR n m) (PRx PL n (dpt PL m)) (Sx S n (fun q => shw (A1 10 (12 * n + q)) m S q)) A1 (va_up I 7 (nI (n + 1))) L1 (va_up (va_up f1 (bk 9) (.inl (cy 5, 420, qR (va_up g n (some a))))) (bk 8) (.inr (4, [.ref (bk 9), .int (nI (n + 1))]))) := by
  obtain ⟨hPc, hco, hfi, hba, hre, hta, hst, hbu, hlk, hin, hn9, hPR, hSh, hPL, hPb, hLv⟩ := hR
  obtain ⟨g0, g8, g8n, g9, g9n, g10, g11, g12, g12n⟩ := hg
  obtain ⟨⟨fr1, fr2⟩, na, nh, ns, nv, hhL, hsL, hvL, hsh⟩ := hN
  have hL01 : ∀ b, b ∈ L → b ∈ L1 := fun b hb => fr1 b (hP0 b hb)
  have hf01 : ∀ b, b ∈ L → f1 b = f b := fun b hb => (fr2 b (hP0 b hb) (fun z => haL (z ▸ hb))).trans (hf0 b hb)
  have hP1 := hPc.ext hL01 hf01
  have hP2 := hP1.grow na nh ns nv (fun j hj => by
    have hm9 := (hPc.1 j hj).1
    exact ⟨fun z => haL (z ▸ hm9), fun z => hhL (z ▸ hP0 _ hm9), fun z => hsL (z ▸ hP0 _ hm9), fun z => hvL (z ▸ hP0 _ hm9)⟩) (gH.apart na nh (fun e => by cases e)) (gH.apart na ns (fun e => by cases e)) (gH.apart na nv (fun e => by cases e)) hsh.symm (gH.apart nh nv (fun e => by cases e)) (gH.apart ns nv (fun e => by cases e))
  generalize hX4 : b4 X n (Sum.inr (2, [Value.int (nI n), va_rf (pR bk m), Value.int (nI (dpt PL m)), Value.ref h, Value.ref s, Value.ref v, va_rf none, Value.int (-1)])) (Sum.inl (cy 0, 12, Sum.inl H)) (Sum.inl (cy 0, 12, Sum.inl S9)) (Sum.inl (cy 0, 4, Sum.inl V)) = X4 at hP2
  have hxo : ∀ j, j < 100 + 4 * n → X4 j = X j := fun j hj => by rw [← hX4]; exact b4_o hj
  have hbo : ∀ j, j < 100 + 4 * n → b4 bk n a h s v j = bk j := fun j hj => b4_o hj
  have hP3 := hP2.up (bv (n + 1) (j := 9) (by decide)) (.inl (cy 5, 420, qR (va_up g n (some a)))) (fun t => by rw [hxo 9 (by omega), hx9]; exact fun z => by cases z)
  have hP4 := hP3.up (bv (n + 1) (j := 8) (by decide)) (.inr (4, [.ref (bk 9), .int (nI (n + 1))])) (fun t => by rw [va_up_ne _ _ (by decide), hxo 8 (by omega), hst.1]; exact fun z => by cases z)
  rw [hbo 9 (by omega), hbo 8 (by omega)] at hP4
  have hx : ∀ j, j ≠ 8 → j ≠ 9 → j < 100 + 4 * n → va_up (va_up X4 9 (.inl (cy 5, 420, qR (va_up g n (some a))))) 8 (.inr (4, [.ref (bk 9), .int (nI (n + 1))])) j = X j := fun j h8 h9 hj => by rw [va_up_ne _ _ h8, va_up_ne _ _ h9, hxo j hj]
  have hxn : ∀ j, 100 + 4 * n ≤ j → va_up (va_up X4 9 (.inl (cy 5, 420, qR (va_up g n (some a))))) 8 (.inr (4, [.ref (bk 9), .int (nI (n + 1))])) j = X4 j := fun j hj => by rw [va_up_ne _ _ (by omega), va_up_ne _ _ (by omega)]
  refine ⟨_, hP4, ?_, ?_, hba.c (fun j hj => hbo j (by omega)) (fun j h1 h2 => hx j (by omega) (by omega) (by omega)) (fun j _ => g0 1 j (Or.inl (by decide))), hre.c (fun j hj => hbo j (by omega)) (hx 6 (by decide) (by decide) (by omega)) (fun j h1 h2 => hx j (by omega) (by omega) (by omega)) (fun _ _ z => z) (fun k j h1 h2 => g0 k j (Or.inl (by omega))), hta.c (hx 7 (by decide) (by decide) (by omega)) (Nat.le_succ n) (fun k hk => hbo _ (by omega)) g8 (fun i _ => g0 16 i (Or.inr (by decide))), ?_, hbu.c (Nat.le_succ n) (fun j hj => hbo j (by unfold bkV at hj; omega)) ⟨hx 10 (by decide) (by decide) (by omega), hx 19 (by decide) (by decide) (by omega), hx 20 (by decide) (by decide) (by omega)⟩ (fun _ _ z => z) (fun k j h1 h2 => g0 k j (Or.inr (by omega))) g8 (fun k hk => PRx_o hk) ⟨rfl, rfl, rfl, rfl, rfl⟩, fun k hk => ?_, rfl, by omega, ext_par hPR hm g9 g9n, ext_sh hPR hSh hm g10, fun k hk => ?_, fun k hk => ?_, fun k j hk h8 hp => ?_⟩
  · unfold pCo
    rw [hx 0 (by decide) (by decide) (by omega), hco, hbo 1 (by omega), hbo 2 (by omega), hbo 6 (by omega), hbo 7 (by omega), hbo 8 (by omega), hbo 10 (by omega)]
    rfl
  · obtain ⟨g7, q1, q2⟩ := hfi
    exact ⟨g7, (hx 1 (by decide) (by decide) (by omega)).trans q1, fun q hq => (q2 q hq).trans (g0 0 q (Or.inl (by decide))).symm⟩
  · refine ⟨by rw [va_up_self, hbo 9 (by omega)], va_up g n (some a), by rw [va_up_ne _ _ (by decide), va_up_self], fun k hk => ?_, fun k h1 h2 => by rw [va_up_ne _ _ (by omega)]; exact hx2 k (by omega) h2⟩
    by_cases e : k = n
    · rw [e, va_up_self, if_pos g8n, b4_0]
    · rw [va_up_ne _ _ e, hx1 k (by omega), g8 k (by omega), hbo _ (by omega)]
  · by_cases e : k = n
    · rw [e]
      refine ⟨H, S9, V, none, -1, ?_, (hxn _ (by omega)).trans (by rw [← hX4]; exact b4_1), (hxn _ (by omega)).trans (by rw [← hX4]; exact b4_2), (hxn _ (by omega)).trans (by rw [← hX4]; exact b4_3), e1, fun q hq => by rw [Sx_n]; exact e2 q hq, e3, mkC.n g12n⟩
      rw [hxn _ (by omega), ← hX4, b4_0, b4_1, b4_2, b4_3, PRx_n, PRx_n, pR_c hm (fun j hj => hbo _ (by omega))]
    · have hkn : k < n := by omega
      exact (hlk k hkn).c (hPR k hkn).1 (fun j h1 h2 => hbo j (by omega)) (fun j h1 h2 => hx j (by omega) (by omega) (by omega)) (fun _ _ z => z) ⟨PRx_o hkn, PRx_o hkn, fun q _ => Sx_o hkn⟩ (fun q hq => g10 k q hkn hq) (fun q hq => g11 k q hkn hq) (fun r h1 h2 => by
        by_cases e12 : r = 12
        · rw [e12]; exact g12 k hkn
        · exact g0 r k (Or.inr (by omega)))
  · by_cases e : k = n
    · rw [e, PRx_n, PRx_n, dpt_x hm]
    · have hkn : k < n := by omega
      rw [PRx_o hkn, PRx_o hkn, dpt_x (by have := (hPR k hkn).1; omega)]
      exact hPL k hkn
  · by_cases e : k = n
    · rw [e, PRx_n]; exact hd
    · rw [PRx_o (by omega)]; exact hPb k (by omega)
  · by_cases e : k = n
    · subst e
      rw [PRx_n] at hp
      rw [g8 j (by omega)]
      exact hlv j hp
    · have hkn : k < n := by omega
      rw [PRx_o hkn] at hp
      rw [g8 k hkn] at h8
      have := (hPR k hkn).1
      rw [g8 j (by omega)]
      exact hLv k j hkn h8 hp
theorem grA_mk {A : Nat → Nat → Int32} {n m : Nat} : grA A (mkA A n m) n m := by
  refine ⟨fun k j h => mkA_k h, fun k hk => ?_, ?_, fun k hk => mkA_9 hk, ?_, fun k q hk hq => mkA_10 hk hq, fun k q hk hq => mkA_11 hk hq, fun k hk => ?_, ?_⟩
  · unfold mkA; rw [mU_k (by decide), mU_j (by omega), mU_k (by decide), upR_k (by decide), upR_k (by decide)]
  · unfold mkA; rw [mU_k (by decide), mU_s]; rfl
  · unfold mkA; rw [mU_k (by decide), mU_k (by decide), mU_s]
  · unfold mkA; rw [mU_j (by omega), mU_k (by decide), mU_k (by decide), upR_k (by decide), upR_k (by decide)]
  · unfold mkA; rw [mU_s]
theorem grA_rt {A : Nat → Nat → Int32} {n b : Nat} : grA A (rtA A n b) n 0 := by
  obtain ⟨g0, g8, g8n, g9, g9n, g10, g11, g12, g12n⟩ := grA_mk (A := A) (n := n) (m := 0)
  unfold rtA
  exact ⟨fun k j h => (upR_k (by omega)).trans (g0 k j h), fun k hk => (upR_k (by decide)).trans (g8 k hk), (upR_k (by decide)).trans g8n, fun k hk => (upR_k (by decide)).trans (g9 k hk), (upR_k (by decide)).trans g9n, fun k q hk hq => (upR_o (by omega)).trans (g10 k q hk hq), fun k q hk hq => (upR_k (by decide)).trans (g11 k q hk hq), fun k hk => (upR_k (by decide)).trans (g12 k hk), (upR_k (by decide)).trans g12n⟩

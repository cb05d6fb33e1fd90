/-! ===== the class, XXIV: prune, whole ===== -/
theorem up_3 {α : Type} {f : Nat → α} {a b : Nat} {x y x1 : α} (h : a ≠ b) : va_up (va_up (va_up f a x) b y) a x1 = va_up (va_up f a x1) b y := by
  rw [up_c (Ne.symm h), up_up]
theorem kep_p {A : Nat → Nat → Int32} {n T k j : Nat} {PR TG : Nat → Nat} (hPR : vPar A n PR) (hTG : ∀ t, t < T → TG t ≤ n) (hj : k < n) (hp : PR k = j + 1) (h : kep PR TG T k) : kep PR TG T j := by
  obtain ⟨t, ht, ha⟩ := h
  refine ⟨t, ht, ?_⟩
  cases hm : TG t with
  | zero => rw [hm] at ha; exact absurd ha anc_0
  | succ i =>
    have h1 := hTG t ht
    rw [hm] at ha h1
    exact anc_tr (n := n) (fun k hk => (hPR k hk).1) (by omega) hj hp ha
theorem cntN_c {A : Nat → Nat → Int32} {g h : Nat → Int32} : ∀ q, (∀ k, k < q → g k = h k) → cntN A g q = cntN A h q
  | 0, _ => rfl
  | q + 1, e => by
    unfold cntN
    rw [cntN_c q (fun k hk => e k (by omega)), e q (by omega)]
def prG (gg : Nat → Int32) (g : Nat → Option Nat) (i k : Nat) : Option Nat := if k < i ∧ gg k = nI 0 then none else g k
def prL (bk : Nat → Nat) (A : Nat → Nat → Int32) (gg : Nat → Int32) (ly : Option Nat) (i : Nat) (l2 : Option Nat) : Prop := (l2 = ly ∧ ∀ j, j < i → gg j = nI 0 → A 8 j = 0 → ly ≠ some (bk (100 + 4 * j))) ∨ (l2 = none ∧ ∃ j, j < i ∧ gg j = nI 0 ∧ A 8 j = 0 ∧ ly = some (bk (100 + 4 * j)))
theorem prL_s {bk : Nat → Nat} {A : Nat → Nat → Int32} {gg : Nat → Int32} {ly l2 : Option Nat} {i : Nat} (h : prL bk A gg ly i l2) (h2 : ¬ (gg i = nI 0 ∧ A 8 i = 0)) : prL bk A gg ly (i + 1) l2 := by
  rcases h with ⟨h, h3⟩ | ⟨h, j, h3, h4⟩
  · refine Or.inl ⟨h, fun j hj h5 h6 => ?_⟩
    by_cases e : j = i
    · subst e; exact absurd ⟨h5, h6⟩ h2
    · exact h3 j (by omega) h5 h6
  · exact Or.inr ⟨h, j, by omega, h4⟩
theorem prL_f {bk : Nat → Nat} {A : Nat → Nat → Int32} {gg : Nat → Int32} {ly l2 : Option Nat} {i : Nat} (h : prL bk A gg ly i l2) (h2 : gg i = nI 0) (h8 : A 8 i = 0) : prL bk A gg ly (i + 1) (if l2 = some (bk (100 + 4 * i)) then none else l2) := by
  rcases h with ⟨rfl, h3⟩ | ⟨rfl, j, h3, h4⟩
  · by_cases e : l2 = some (bk (100 + 4 * i))
    · rw [if_pos e]; exact Or.inr ⟨rfl, i, Nat.lt_succ_self i, h2, h8, e⟩
    · rw [if_neg e]
      refine Or.inl ⟨rfl, fun j hj h5 h6 => ?_⟩
      by_cases e2 : j = i
      · subst e2; exact e
      · exact h3 j (by omega) h5 h6
  · rw [if_neg (by exact nofun)]
    exact Or.inr ⟨rfl, j, by omega, h4⟩
theorem RC.prn {cy : Nat → ClassId} {L : List Nat} {f : gF} {bk : Nat → Nat} {n : Nat} {X : Nat → va_E} {Is : Nat → Option iT} {PR PL : Nat → Nat} {S A : Nat → Nat → Int32} {I : Nat → Int32} (hR : RC cy bk n X Is PR PL S A I L f) {A' : Nat → Nat → Int32} {I' : Nat → Int32} {gg : Nat → Int32} {g g2 : Nat → Option Nat} {TG : Nat → Nat} {t c : Nat} {ly l2 : Option Nat} (hTG : vTag A n TG) (hgg : ∀ k, k < n → (gg k = nI 0 ∨ gg k = nI 1) ∧ (gg k = nI 1 ↔ kep PR TG 5 k)) (hst9 : X 9 = .inl (cy 5, 420, qR g)) (hg1 : ∀ k, k < n → g k = if A 8 k = 0 then some (bk (100 + 4 * k)) else none) (hg2 : ∀ k, n ≤ k → k < 420 → g k = none) (hb10 : X 10 = .inr (0, [.ref (bk 19), .int (nI t), va_rf ly])) (hbu : buC bk n A I PL t c ly) (h17 : I 17 = nI 0) (hrow : ∃ bs, pRow cy bk X Is 19 bs c (A 21) (A 22) (A 23)) (hc : c ≤ 10)
    (hgn : ∀ k, g2 k = prG gg g n k) (hl2 : prL bk A gg ly n l2) (a0 : ∀ k j, k < 28 → k ≠ 8 → A' k j = A k j) (a8 : ∀ k, k < n → A' 8 k = if gg k = nI 0 then nI 1 else nI 0) (hI : ∀ k, k ≠ 27 → I' k = I k) :
    RC cy bk n (va_up (va_up X 9 (.inl (cy 5, 420, qR g2))) 10 (.inr (0, [.ref (bk 19), .int (nI t), va_rf l2]))) Is PR PL S A' I' L (va_up (va_up f (bk 9) (.inl (cy 5, 420, qR g2))) (bk 10) (.inr (0, [.ref (bk 19), .int (nI t), va_rf l2]))) := by
  have hR0 := hR
  obtain ⟨hP, hco, ⟨gf, hf1, hf2⟩, hba, hre, ⟨gt, hta, hgt⟩, hst, -, hlk, hI7, hn9, hPR, hSh, hPL, hPb, hLv⟩ := hR
  have k1 : ∀ k, k < n → kep PR TG 5 k → A' 8 k = 0 := fun k hk h => by
    rw [a8 k hk, ((hgg k hk).2).mpr h]; decide
  have k0 : ∀ k, k < n → A' 8 k = 0 → kep PR TG 5 k := fun k hk h => by
    rcases (hgg k hk).1 with e | e
    · rw [a8 k hk, e] at h; exact absurd h (by decide)
    · exact ((hgg k hk).2).mp e
  have klive : ∀ k, k < n → kep PR TG 5 k → A 8 k = 0 := fun k hk h => by
    obtain ⟨t9, ht9, ha⟩ := h
    obtain ⟨q1, q2⟩ := hR0.tg hTG hgt ht9
    cases hm : TG t9 with
    | zero => rw [hm] at ha; exact absurd ha anc_0
    | succ i =>
      obtain ⟨hin, h8⟩ := q2 i hm
      rw [hm] at ha
      exact anc_live hPR hLv i hin h8 k ha
  have ktop : ∀ t9 k, t9 < 5 → TG t9 = k + 1 → k < n → kep PR TG 5 k := fun t9 k ht hk hkn => ⟨t9, ht, by rw [hk]; exact (anc_s (n := n) (fun k hk => (hPR k hk).1) hkn).mpr (Or.inl rfl)⟩
  have hP1 := hP.up (j := 9) (bv n (by decide)) (.inl (cy 5, 420, qR g2)) (fun t => by rw [hst9]; exact fun z => by cases z)
  have hP2 := hP1.up (j := 10) (bv n (by decide)) (.inr (0, [.ref (bk 19), .int (nI t), va_rf l2])) (fun t => by rw [va_up_ne _ _ (by decide), hb10]; exact fun z => by cases z)
  have hx : ∀ j, j ≠ 9 → j ≠ 10 → va_up (va_up X 9 (.inl (cy 5, 420, qR g2))) 10 (.inr (0, [.ref (bk 19), .int (nI t), va_rf l2])) j = X j := fun j h1 h2 => by rw [va_up_ne _ _ h2, va_up_ne _ _ h1]
  have htc : t = c := by
    rcases hbu with ⟨z, -⟩ | ⟨-, z, -⟩
    · exact absurd (h17.symm.trans z) (by decide)
    · exact z
  refine ⟨hP2, by unfold pCo; rw [hx 0 (by decide) (by decide), hI 25 (by decide), hI 26 (by decide)]; exact hco, ⟨gf, (hx 1 (by decide) (by decide)).trans hf1, fun q hq => (hf2 q hq).trans (a0 0 q (by decide) (by decide)).symm⟩, hba.c (fun _ _ => rfl) (fun j h1 h2 => hx j (by omega) (by omega)) (fun j _ => a0 1 j (by decide) (by decide)), hre.c (fun _ _ => rfl) (hx 6 (by decide) (by decide)) (fun j h1 h2 => hx j (by omega) (by omega)) (fun _ _ z => z) (fun k j _ h => a0 k j (by omega) (by omega)), ⟨gt, (hx 7 (by decide) (by decide)).trans hta, fun i hi => ?_⟩, ⟨(hx 8 (by decide) (by decide)).trans hst.1, g2, by rw [va_up_ne _ _ (by decide), va_up_self], fun k hk => ?_, fun k h1 h2 => ?_⟩, ?_, fun k hk => (hlk k hk).c (hPR k hk).1 (fun _ _ _ => rfl) (fun j h1 _ => hx j (by omega) (by omega)) (fun _ _ z => z) ⟨rfl, rfl, fun _ _ => rfl⟩ (fun q _ => a0 10 _ (by decide) (by decide)) (fun q _ => a0 11 _ (by decide) (by decide)) (fun r h1 h2 => a0 r k (by omega) (by omega)), (hI 7 (by decide)).trans hI7, hn9, fun k hk => ⟨(hPR k hk).1, by rw [a0 9 k (by decide) (by decide)]; exact (hPR k hk).2⟩, hSh.cg (fun k q _ _ => a0 10 _ (by decide) (by decide)), hPL, hPb, fun k j hk h8 hp => k1 j (by have := (hPR k hk).1; omega) (kep_p hPR (fun t9 ht9 => (hTG t9 ht9).1) hk hp (k0 k hk h8))⟩
  · rw [a0 16 i (by decide) (by decide)]
    rcases hgt i hi with h | ⟨k, hk, e1, e2, e3⟩
    · exact Or.inl h
    · have e4 : TG i = k + 1 := pI_inj ((hTG i hi).2.symm.trans e1) (by have := (hTG i hi).1; omega) (by omega)
      exact Or.inr ⟨k, hk, e1, k1 k hk (ktop i k hi e4 hk), e3⟩
  · rw [hgn k]
    unfold prG
    rcases (hgg k hk).1 with e | e
    · rw [if_pos ⟨hk, e⟩, a8 k hk, if_pos e]; rfl
    · have hkk := ((hgg k hk).2).mp e
      rw [if_neg (fun z => by rw [e] at z; exact absurd z.2 (by decide)), hg1 k hk, if_pos (klive k hk hkk), if_pos (k1 k hk hkk)]
  · rw [hgn k]
    unfold prG
    rw [if_neg (fun z => by omega)]
    exact hg2 k h1 h2
  · obtain ⟨bs, hpr⟩ := hrow
    refine ⟨t, c, l2, bs, by omega, hc, va_up_self _ _ _, hpr.c rfl (hx 19 (by decide) (by decide)) (hx 20 (by decide) (by decide)) (fun _ _ z => z) (fun p _ => ⟨a0 21 p (by decide) (by decide), a0 22 p (by decide) (by decide), a0 23 p (by decide) (by decide)⟩), Or.inr ⟨(hI 17 (by decide)).trans h17, htc, ?_⟩⟩
    rcases hbu with ⟨z, -⟩ | ⟨-, -, ⟨h18, hl⟩ | ⟨h18, k, hk, h24, hl⟩⟩
    · exact absurd (h17.symm.trans z) (by decide)
    · refine Or.inl ⟨(hI 18 (by decide)).trans h18, ?_⟩
      rcases hl2 with ⟨z, -⟩ | ⟨z, -⟩
      · rw [z, hl]
      · exact z
    · refine Or.inr ⟨(hI 18 (by decide)).trans h18, k, hk, (hI 24 (by decide)).trans h24, ?_⟩
      rcases (hgg k hk).1 with e | e
      · rw [a8 k hk, if_pos e, if_neg (by decide)]
        rcases hl2 with ⟨z, z2⟩ | ⟨z, -⟩
        · rw [z, hl]
          by_cases h8 : A 8 k = 0
          · exact absurd (by rw [hl, if_pos h8]) (z2 k hk e h8)
          · rw [if_neg h8]
        · exact z
      · have hkk := ((hgg k hk).2).mp e
        rw [if_pos (k1 k hk hkk)]
        rw [if_pos (klive k hk hkk)] at hl
        rcases hl2 with ⟨z, -⟩ | ⟨z, j, hj, hj2, hj3, hj4⟩
        · rw [z, hl]
        · have e9 := hR0.bj hj hk (Option.some.inj (hj4.symm.trans hl))
          subst e9
          exact absurd (e.symm.trans hj2) (by decide)

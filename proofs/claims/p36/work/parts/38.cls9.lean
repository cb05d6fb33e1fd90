/-! ===== the class, IX: what its world holds; small methods ===== -/
theorem bv (n : Nat) {j : Nat} (h : j < 21) : bkV n j := Or.inl h
theorem bw {n k r : Nat} (h : k < n) (hr : r < 4) : bkV n (100 + r + 4 * k) := Or.inr ⟨by omega, by omega⟩
theorem RC.co {cy : Nat → ClassId} {L : List Nat} {f : gF} {bk : Nat → Nat} {n : Nat} {X : Nat → va_E} {Is : Nat → Option iT} {PR PL : Nat → Nat} {S A : Nat → Nat → Int32} {I : Nat → Int32} (hR : RC cy bk n X Is PR PL S A I L f) : gH L f (bk 0) (.inr (5, [.ref (bk 1), .ref (bk 2), .ref (bk 6), .ref (bk 7), .ref (bk 8), .ref (bk 10), .int (I 25), .int (I 26)])) := hR.1.at (bv n (by decide)) hR.2.1
theorem RC.fi {cy : Nat → ClassId} {L : List Nat} {f : gF} {bk : Nat → Nat} {n : Nat} {X : Nat → va_E} {Is : Nat → Option iT} {PR PL : Nat → Nat} {S A : Nat → Nat → Int32} {I : Nat → Int32} (hR : RC cy bk n X Is PR PL S A I L f) : ∃ g, gH L f (bk 1) (.inl (cy 0, 8, .inl g)) ∧ ∀ q, q < 8 → g q = A 0 q := by
  obtain ⟨g, e, h⟩ := hR.2.2.1
  exact ⟨g, hR.1.at (bv n (by decide)) e, h⟩
theorem RC.ba {cy : Nat → ClassId} {L : List Nat} {f : gF} {bk : Nat → Nat} {n : Nat} {X : Nat → va_E} {Is : Nat → Option iT} {PR PL : Nat → Nat} {S A : Nat → Nat → Int32} {I : Nat → Int32} (hR : RC cy bk n X Is PR PL S A I L f) : ∃ r, gH L f (bk 2) (.inl (cy 3, 3, qR r)) ∧ ∀ b, b < 3 → r b = some (bk (3 + b)) := by
  obtain ⟨r, e, h, -⟩ := hR.2.2.2.1
  exact ⟨r, hR.1.at (bv n (by decide)) e, h⟩
theorem RC.br {cy : Nat → ClassId} {L : List Nat} {f : gF} {bk : Nat → Nat} {n : Nat} {X : Nat → va_E} {Is : Nat → Option iT} {PR PL : Nat → Nat} {S A : Nat → Nat → Int32} {I : Nat → Int32} (hR : RC cy bk n X Is PR PL S A I L f) {b : Nat} (hb : b < 3) : ∃ g, gH L f (bk (3 + b)) (.inl (cy 0, 12, .inl g)) ∧ ∀ q, q < 12 → g q = A 1 (12 * b + q) := by
  obtain ⟨r, -, -, h⟩ := hR.2.2.2.1
  obtain ⟨g, e, h⟩ := h b hb
  exact ⟨g, hR.1.at (bv n (by omega)) e, h⟩
theorem RC.re {cy : Nat → ClassId} {L : List Nat} {f : gF} {bk : Nat → Nat} {n : Nat} {X : Nat → va_E} {Is : Nat → Option iT} {PR PL : Nat → Nat} {S A : Nat → Nat → Int32} {I : Nat → Int32} (hR : RC cy bk n X Is PR PL S A I L f) : ∃ r, gH L f (bk 6) (.inl (cy 4, 4, qR r)) ∧ ∀ i, i < 4 → r i = some (bk (11 + 2 * i)) := by
  obtain ⟨r, e, h, -⟩ := hR.2.2.2.2.1
  exact ⟨r, hR.1.at (bv n (by decide)) e, h⟩
theorem RC.ri {cy : Nat → ClassId} {L : List Nat} {f : gF} {bk : Nat → Nat} {n : Nat} {X : Nat → va_E} {Is : Nat → Option iT} {PR PL : Nat → Nat} {S A : Nat → Nat → Int32} {I : Nat → Int32} (hR : RC cy bk n X Is PR PL S A I L f) {i : Nat} (hi : i < 4) : ∃ c b g, c ≤ 10 ∧ b < 3 ∧ A 3 i = nI c ∧ A 2 i = nI b ∧ gH L f (bk (11 + 2 * i)) (.inr (3, [.ref (bk (11 + 2 * i + 1)), .int (nI b), .int (nI c)])) ∧ gH L f (bk (11 + 2 * i + 1)) (.inl (cy 6, 10, qR g)) ∧ (∀ p v, g p = some v → ∃ t, Is v = some t) ∧ ∀ p, p < c → ∃ v, g p = some v ∧ insR (Is v) (A 4 (10 * i + p)) (A 5 (10 * i + p)) (A 6 (10 * i + p)) := by
  obtain ⟨r, -, -, h⟩ := hR.2.2.2.2.1
  obtain ⟨c, b, h1, h2, h3, h4, h5, g, h6, h7, h8⟩ := h i hi
  exact ⟨c, b, g, h1, h2, h3, h4, hR.1.at (bv n (by omega)) h5, hR.1.at (bv n (by omega)) h6, h7, h8⟩
theorem RC.ta {cy : Nat → ClassId} {L : List Nat} {f : gF} {bk : Nat → Nat} {n : Nat} {X : Nat → va_E} {Is : Nat → Option iT} {PR PL : Nat → Nat} {S A : Nat → Nat → Int32} {I : Nat → Int32} (hR : RC cy bk n X Is PR PL S A I L f) : ∃ g, gH L f (bk 7) (.inl (cy 5, 5, qR g)) ∧ ∀ i, i < 5 → tgC bk n A (A 16 i) (g i) := by
  obtain ⟨g, e, h⟩ := hR.2.2.2.2.2.1
  exact ⟨g, hR.1.at (bv n (by decide)) e, h⟩
theorem RC.st {cy : Nat → ClassId} {L : List Nat} {f : gF} {bk : Nat → Nat} {n : Nat} {X : Nat → va_E} {Is : Nat → Option iT} {PR PL : Nat → Nat} {S A : Nat → Nat → Int32} {I : Nat → Int32} (hR : RC cy bk n X Is PR PL S A I L f) : ∃ g, gH L f (bk 8) (.inr (4, [.ref (bk 9), .int (nI n)])) ∧ gH L f (bk 9) (.inl (cy 5, 420, qR g)) ∧ (∀ k, k < n → g k = if A 8 k = 0 then some (bk (100 + 4 * k)) else none) ∧ ∀ k, n ≤ k → k < 420 → g k = none := by
  obtain ⟨e, g, e2, h1, h2⟩ := hR.2.2.2.2.2.2.1
  exact ⟨g, hR.1.at (bv n (by decide)) e, hR.1.at (bv n (by decide)) e2, h1, h2⟩
theorem RC.bu {cy : Nat → ClassId} {L : List Nat} {f : gF} {bk : Nat → Nat} {n : Nat} {X : Nat → va_E} {Is : Nat → Option iT} {PR PL : Nat → Nat} {S A : Nat → Nat → Int32} {I : Nat → Int32} (hR : RC cy bk n X Is PR PL S A I L f) : ∃ t c ly bs g, t ≤ c ∧ c ≤ 10 ∧ gH L f (bk 10) (.inr (0, [.ref (bk 19), .int (nI t), va_rf ly])) ∧ gH L f (bk 19) (.inr (3, [.ref (bk 20), .int bs, .int (nI c)])) ∧ gH L f (bk 20) (.inl (cy 6, 10, qR g)) ∧ (∀ p v, g p = some v → ∃ t, Is v = some t) ∧ (∀ p, p < c → ∃ v, g p = some v ∧ insR (Is v) (A 21 p) (A 22 p) (A 23 p)) ∧ buC bk n A I PL t c ly := by
  obtain ⟨t, c, ly, bs, h1, h2, h3, ⟨h4, g, h5, h6, h7⟩, h8⟩ := hR.2.2.2.2.2.2.2.1
  exact ⟨t, c, ly, bs, g, h1, h2, hR.1.at (bv n (by decide)) h3, hR.1.at (bv n (by decide)) h4, hR.1.at (bv n (by decide)) h5, h6, h7, h8⟩
theorem RC.lk {cy : Nat → ClassId} {L : List Nat} {f : gF} {bk : Nat → Nat} {n : Nat} {X : Nat → va_E} {Is : Nat → Option iT} {PR PL : Nat → Nat} {S A : Nat → Nat → Int32} {I : Nat → Int32} (hR : RC cy bk n X Is PR PL S A I L f) {k : Nat} (hk : k < n) : ∃ h s v m ip, gH L f (bk (100 + 4 * k)) (.inr (2, [.int (nI k), va_rf (pR bk (PR k)), .int (nI (PL k)), .ref (bk (101 + 4 * k)), .ref (bk (102 + 4 * k)), .ref (bk (103 + 4 * k)), va_rf m, .int ip])) ∧ gH L f (bk (101 + 4 * k)) (.inl (cy 0, 12, .inl h)) ∧ gH L f (bk (102 + 4 * k)) (.inl (cy 0, 12, .inl s)) ∧ gH L f (bk (103 + 4 * k)) (.inl (cy 0, 4, .inl v)) ∧ (∀ q, q < 12 → h q = A 10 (12 * k + q)) ∧ (∀ q, q < 12 → s q = S k q) ∧ (∀ q, q < 4 → v q = A 11 (4 * k + q)) ∧ mkC Is A k m ip := by
  obtain ⟨h, s, v, m, ip, h1, h2, h3, h4, h5⟩ := hR.2.2.2.2.2.2.2.2.1 k hk
  exact ⟨h, s, v, m, ip, hR.1.at (bw hk (r := 0) (by decide)) h1, hR.1.at (bw hk (r := 1) (by decide)) h2, hR.1.at (bw hk (r := 2) (by decide)) h3, hR.1.at (bw hk (r := 3) (by decide)) h4, h5⟩
theorem RC.ic {cy : Nat → ClassId} {L : List Nat} {f : gF} {bk : Nat → Nat} {n : Nat} {X : Nat → va_E} {Is : Nat → Option iT} {PR PL : Nat → Nat} {S A : Nat → Nat → Int32} {I : Nat → Int32} (hR : RC cy bk n X Is PR PL S A I L f) {v : Nat} {t : iT} (h : Is v = some t) : gH L f v (.inr (1, [.int t.1, .int t.2.1, .int t.2.2])) := hR.1.2.2 v t h
theorem RC.nv {cy : Nat → ClassId} {L : List Nat} {f : gF} {bk : Nat → Nat} {n : Nat} {X : Nat → va_E} {Is : Nat → Option iT} {PR PL : Nat → Nat} {S A : Nat → Nat → Int32} {I : Nat → Int32} (hR : RC cy bk n X Is PR PL S A I L f) : pIn n A I PR PL S := hR.2.2.2.2.2.2.2.2.2
theorem RC.sh {cy : Nat → ClassId} {L : List Nat} {f : gF} {bk : Nat → Nat} {n : Nat} {X : Nat → va_E} {Is : Nat → Option iT} {PR PL : Nat → Nat} {S A : Nat → Nat → Int32} {I : Nat → Int32} (hR : RC cy bk n X Is PR PL S A I L f) {k : Nat} (hk : k < n) : bk (102 + 4 * k) ≠ bk (101 + 4 * k) := hR.1.ap (bw hk (r := 2) (by decide)) (bw hk (r := 1) (by decide)) (by omega)
theorem k5_numberOf {l : Launch} {s0 : State} {D : va_G} {cy : Nat → ClassId} (hE : gE s0 D cy) (hl : l.stackTraces = false) {L : List Nat} {f : gF} {o : Option Nat} {x : Int32} (ho : (o = none ∧ x = -1) ∨ ∃ a rest, o = some a ∧ gH L f a (.inr (2, .int x :: rest))) : gM l s0 D yX5_numberOf cX5_numberOf 1 (some .int) 1 0 0 [va_rf o] L f (fun v L1 f1 => v = some (.int x) ∧ L = L1 ∧ f = f1) := by
  refine gM.of (own := RX5) hE hl (by decide +kernel) rfl (by cases o <;> rfl) (Nat.le_of_ble_eq_true rfl) (fun p9 e9 s9 m9 a99 b99 t99 c9 C hr hnm => ?_)
  refine G.weak (ls' := [some (va_rf o)]) ?_ rfl (fun _ _ h => h)
  refine g_aload_n (n := 1) C dX5_numberOf_0 rfl (rf_or _) rfl ?_
  refine g_ifnonnull (n := 4) (tgt := 8) C dX5_numberOf_1 (by decide) rfl (fun a1 h1 => ?_) (fun h1 => ?_)
  · subst h1
    obtain ⟨a, rest, e9, ha⟩ := ho.resolve_left (fun z => nomatch z.1)
    cases e9
    refine g_aload_n (n := 9) C dX5_numberOf_8 rfl (rf_or _) rfl ?_
    refine g_get (n := 12) C dX5_numberOf_9 kF_X5_103 ha rfl rfl ?_
    refine g_iret C hr dX5_numberOf_12 ?_ ⟨by decide, by decide⟩
    exact ⟨rfl, rfl, rfl⟩
  · subst h1
    have e9 := (ho.resolve_right (fun ⟨a, rest, z, _⟩ => nomatch z)).2
    subst e9
    refine g_iconst (n := 5) (v := -1) C dX5_numberOf_4 rfl rfl ?_
    refine g_goto (tgt := 12) C dX5_numberOf_5 (by decide) ?_
    refine g_iret C hr dX5_numberOf_12 ?_ ⟨by decide, by decide⟩
    exact ⟨rfl, rfl, rfl⟩
theorem k5_recipeAt {l : Launch} {s0 : State} {D : va_G} {cy : Nat → ClassId} (hE : gE s0 D cy) (hl : l.stackTraces = false) {L : List Nat} {f : gF} {bk : Nat → Nat} {n : Nat} {X : Nat → va_E} {Is : Nat → Option iT} {PR PL : Nat → Nat} {S A : Nat → Nat → Int32} {I : Nat → Int32} (hR : RC cy bk n X Is PR PL S A I L f) (x : Int32) : gX l s0 D yX5_recipeAt cX5_recipeAt 3 (some (.object RX3)) 7 1 6 [.ref (bk 0), .int x] L f (fun v L1 f1 => (∃ i, i < 4 ∧ x = nI i ∧ v = some (.ref (bk (11 + 2 * i)))) ∧ L = L1 ∧ f = f1) (fun E => E = xI ∧ ¬ gin x 4) := by
  refine gX.of (own := RX5) hE hl (by decide +kernel) rfl rfl (Nat.le_of_ble_eq_true rfl) (fun p9 e9 s9 m9 a99 b99 t99 c9 C hr hno => ?_)
  refine G.weak (ls' := [some (.ref (bk 0)), some (.int x), none]) ?_ rfl (fun _ _ h => h)
  refine g_iload_n (n := 1) C dX5_recipeAt_0 rfl rfl ?_
  refine g_iconst (n := 2) (v := nI 4) C dX5_recipeAt_1 rfl rfl ?_
  refine g_S (n := 5) (rest := []) C (k5_isIn hE hl x (nI 4)) dX5_recipeAt_2 kM_X5_isIn kL_X5_249 kS_X5_isIn rfl rfl (Nat.le_of_ble_eq_true rfl) ⟨by decide, by decide⟩ ⟨by decide, by decide⟩ rfl (fun v9 L9 f9 hq => ?_)
  obtain ⟨rfl, rfl, rfl⟩ := hq
  refine G.sk (st' := [_]) rfl ?_
  refine g_if_eq (n := 8) (tgt := 17) C dX5_recipeAt_5 (by decide) rfl (fun h5 => ?_) (fun h5 => ?_)
  · have h5 := gin_f h5 (by decide)
    refine g_aconst_null (n := 18) C dX5_recipeAt_17 rfl ?_
    refine G.sk (st' := [va_rf none]) rfl ?_
    refine g_astore_n (n := 19) (ls' := [_, _, _]) C dX5_recipeAt_18 (rf_or _) rfl (by decide) rfl ?_
    refine g_aload_n (n := 20) C dX5_recipeAt_19 rfl (rf_or _) rfl ?_
    refine g_ifnonnull (n := 23) (tgt := 34) C dX5_recipeAt_20 (by decide) rfl (fun a20 h20 => nomatch h20) (fun h20 => ?_)
    exact g_throwW (cls := xI) (text := "there is no such recipe") (names := xNm) C hno (by decide +kernel) xNm_ok (List.mem_of_getElem? (i := 178) (by decide +kernel)) (List.mem_of_getElem? (i := 57) (by decide +kernel)) (List.mem_of_getElem? (i := 277) (by decide +kernel)) hat_X5_199 dX5_recipeAt_23 dX5_recipeAt_26 dX5_recipeAt_27 dX5_recipeAt_30 dX5_recipeAt_33 ⟨by decide, by decide, by decide, by decide⟩ ⟨rfl, h5⟩ ⟨by decide, by decide⟩
  · obtain ⟨i, hi, rfl⟩ := gin_t h5 (by decide)
    have hco := hR.co
    obtain ⟨r, hre, hri⟩ := hR.re
    refine g_aload_n (n := 9) C dX5_recipeAt_8 rfl (Or.inr ⟨_, rfl⟩) rfl ?_
    refine g_get (n := 12) C dX5_recipeAt_9 kF_X5_20 (by assumption) rfl rfl ?_
    refine g_iload_n (n := 13) C dX5_recipeAt_12 rfl rfl ?_
    refine g_aald (n := 14) (t := 4) C dX5_recipeAt_13 rfl rfl (by assumption) rfl (by omega) (by decide) rfl ?_
    rw [hri i hi]
    refine g_goto (tgt := 18) C dX5_recipeAt_14 (by decide) ?_
    refine g_astore_n (n := 19) (ls' := [_, _, _]) C dX5_recipeAt_18 (rf_or _) rfl (by decide) rfl ?_
    refine g_aload_n (n := 20) C dX5_recipeAt_19 rfl (rf_or _) rfl ?_
    refine g_ifnonnull (n := 23) (tgt := 34) C dX5_recipeAt_20 (by decide) rfl (fun a20 h20 => ?_) (fun h20 => nomatch h20)
    refine g_aload_n (n := 35) C dX5_recipeAt_34 rfl (rf_or _) rfl ?_
    refine G.x ?_
    refine g_aret C hr (Or.inl ⟨_, rfl⟩) dX5_recipeAt_35 ?_ ⟨by decide, by decide⟩
    exact ⟨⟨i, hi, rfl, rfl⟩, rfl, rfl⟩
theorem find_some {A : Nat → Nat → Int32} {bk : Nat → Nat} {n a : Nat} {g : Nat → Option Nat} {x : Int32} {o : Option Nat} (h1 : ∀ k, k < n → g k = if A 8 k = 0 then some (bk (100 + 4 * k)) else none) (h2 : ∀ k, n ≤ k → k < 420 → g k = none) (h : (∃ j, j < 420 ∧ x = nI j ∧ o = g j) ∨ (¬ gin x 420 ∧ o = none)) (ho : o = some a) : ∃ k, k < n ∧ x = nI k ∧ A 8 k = 0 ∧ a = bk (100 + 4 * k) := by
  rcases h with ⟨j, hj, e1, e2⟩ | ⟨-, e2⟩
  · by_cases hn : j < n
    · rw [h1 j hn] at e2
      by_cases h8 : A 8 j = 0
      · rw [if_pos h8, ho] at e2
        exact ⟨j, hn, e1, h8, Option.some.inj e2⟩
      · rw [if_neg h8, ho] at e2
        cases e2
    · rw [h2 j (by omega) hj, ho] at e2
      cases e2
  · rw [ho] at e2
    cases e2
theorem find_none {A : Nat → Nat → Int32} {bk : Nat → Nat} {n : Nat} {g : Nat → Option Nat} {x : Int32} {o : Option Nat} (hn9 : n ≤ 420) (h1 : ∀ k, k < n → g k = if A 8 k = 0 then some (bk (100 + 4 * k)) else none) (h : (∃ j, j < 420 ∧ x = nI j ∧ o = g j) ∨ (¬ gin x 420 ∧ o = none)) (ho : o = none) : ¬ live A n x := by
  rintro ⟨k, hk, e, h8⟩
  rcases h with ⟨j, hj, e1, e2⟩ | ⟨h, -⟩
  · have e3 := gn_inj (by omega) (by omega) (e.symm.trans e1)
    subst e3
    rw [h1 k hk, if_pos h8, ho] at e2
    cases e2
  · exact h ⟨k, by omega, e⟩
theorem k5_layerAt {l : Launch} {s0 : State} {D : va_G} {cy : Nat → ClassId} (hE : gE s0 D cy) (hl : l.stackTraces = false) {L : List Nat} {f : gF} {bk : Nat → Nat} {n : Nat} {X : Nat → va_E} {Is : Nat → Option iT} {PR PL : Nat → Nat} {S A : Nat → Nat → Int32} {I : Nat → Int32} (hR : RC cy bk n X Is PR PL S A I L f) (x : Int32) : gX l s0 D yX5_layerAt cX5_layerAt 3 (some (.object RX2)) 7 1 6 [.ref (bk 0), .int x] L f (fun v L1 f1 => (∃ k, k < n ∧ x = nI k ∧ A 8 k = 0 ∧ v = some (.ref (bk (100 + 4 * k)))) ∧ L = L1 ∧ f = f1) (fun E => E = xI ∧ ¬ live A n x) := by
  refine gX.of (own := RX5) hE hl (by decide +kernel) rfl rfl (Nat.le_of_ble_eq_true rfl) (fun p9 e9 s9 m9 a99 b99 t99 c9 C hr hno => ?_)
  refine G.weak (ls' := [some (.ref (bk 0)), some (.int x), none]) ?_ rfl (fun _ _ h => h)
  refine g_aload_n (n := 1) C dX5_layerAt_0 rfl (Or.inr ⟨_, rfl⟩) rfl ?_
  have hco := hR.co
  obtain ⟨g, hso, hrow, hg1, hg2⟩ := hR.st
  refine g_get (n := 4) C dX5_layerAt_1 kF_X5_33 (by assumption) rfl rfl ?_
  refine g_iload_n (n := 5) C dX5_layerAt_4 rfl rfl ?_
  refine g_V (n := 8) (rest := []) C (k5_find hE hl hso hrow x) dX5_layerAt_5 kM_X4_find kL_X5_218 kV_X4_find (by assumption) rfl rfl rfl (Nat.le_of_ble_eq_true rfl) ⟨by decide, by decide⟩ ⟨by decide, by decide⟩ rfl (fun v9 L9 f9 hq => ?_)
  obtain ⟨⟨o, rfl, ho⟩, rfl, rfl⟩ := hq
  refine G.sk (st' := [_]) rfl ?_
  refine g_astore_n (n := 9) (ls' := [_, _, _]) C dX5_layerAt_8 (rf_or _) rfl (by decide) rfl ?_
  refine g_aload_n (n := 10) C dX5_layerAt_9 rfl (rf_or _) rfl ?_
  refine g_ifnonnull (n := 13) (tgt := 24) C dX5_layerAt_10 (by decide) rfl (fun a10 h10 => ?_) (fun h10 => ?_)
  · obtain ⟨k, hk, rfl, h8, rfl⟩ := find_some hg1 hg2 ho h10
    refine g_aload_n (n := 25) C dX5_layerAt_24 rfl (rf_or _) rfl ?_
    refine G.x ?_
    refine g_aret C hr (Or.inl ⟨_, rfl⟩) dX5_layerAt_25 ?_ ⟨by decide, by decide⟩
    exact ⟨⟨k, hk, rfl, h8, by rw [h10]; rfl⟩, rfl, rfl⟩
  · have hno9 := find_none hR.nv.2.1 hg1 ho h10
    exact g_throwW (cls := xI) (text := "there is no such layer, or it is gone") (names := xNm) C hno (by decide +kernel) xNm_ok (List.mem_of_getElem? (i := 178) (by decide +kernel)) (List.mem_of_getElem? (i := 57) (by decide +kernel)) (List.mem_of_getElem? (i := 649) (by decide +kernel)) hat_X5_199 dX5_layerAt_13 dX5_layerAt_16 dX5_layerAt_17 dX5_layerAt_20 dX5_layerAt_23 ⟨by decide, by decide, by decide, by decide⟩ ⟨rfl, hno9⟩ ⟨by decide, by decide⟩
theorem buC.go {bk : Nat → Nat} {n : Nat} {A : Nat → Nat → Int32} {I : Nat → Int32} {PL : Nat → Nat} {t c : Nat} {ly : Option Nat} (h : buC bk n A I PL t c ly) (hl : t < c) : I 17 = nI 1 := by
  rcases h with h | ⟨-, h, -⟩
  · exact h.1
  · omega
theorem buC.no {bk : Nat → Nat} {n : Nat} {A : Nat → Nat → Int32} {I : Nat → Int32} {PL : Nat → Nat} {t c : Nat} {ly : Option Nat} (h : buC bk n A I PL t c ly) (hl : ¬ t < c) : I 17 = nI 0 := by
  rcases h with ⟨-, -, -, -, h, -⟩ | h
  · exact absurd h hl
  · exact h.1
theorem k5_reqNoBuild {l : Launch} {s0 : State} {D : va_G} {cy : Nat → ClassId} (hE : gE s0 D cy) (hl : l.stackTraces = false) {L : List Nat} {f : gF} {bk : Nat → Nat} {n : Nat} {X : Nat → va_E} {Is : Nat → Option iT} {PR PL : Nat → Nat} {S A : Nat → Nat → Int32} {I : Nat → Int32} (hR : RC cy bk n X Is PR PL S A I L f) : gX l s0 D yX5_requireNoBuild cX5_requireNoBuild 1 none 7 1 6 [.ref (bk 0)] L f (fun v L1 f1 => v = none ∧ I 17 = nI 0 ∧ L = L1 ∧ f = f1) (fun E => E = xS ∧ ¬ I 17 = nI 0) := by
  refine gX.of (own := RX5) hE hl (by decide +kernel) rfl rfl (Nat.le_of_ble_eq_true rfl) (fun p9 e9 s9 m9 a99 b99 t99 c9 C hr hno => ?_)
  refine G.weak (ls' := [some (.ref (bk 0))]) ?_ rfl (fun _ _ h => h)
  refine g_aload_n (n := 1) C dX5_requireNoBuild_0 rfl (Or.inr ⟨_, rfl⟩) rfl ?_
  have hco := hR.co
  obtain ⟨t, c, ly, bs, g, ht9, hc9, hbo, hpl, hpr, hp1, hp2, hbu⟩ := hR.bu
  refine g_get (n := 4) C dX5_requireNoBuild_1 kF_X5_40 (by assumption) rfl rfl ?_
  refine g_V (n := 7) (rest := []) C (k5_goesOn hE hl hpl hpr hbo ht9 hc9) dX5_requireNoBuild_4 kM_X0_goesOn kL_X5_144 kV_X0_goesOn (by assumption) rfl rfl rfl (Nat.le_of_ble_eq_true rfl) ⟨by decide, by decide⟩ ⟨by decide, by decide⟩ rfl (fun v9 L9 f9 hq => ?_)
  obtain ⟨⟨w8, rfl, hw8⟩, rfl, rfl⟩ := hq
  refine G.sk (st' := [_]) rfl ?_
  refine g_if_eq (n := 10) (tgt := 21) C dX5_requireNoBuild_7 (by decide) rfl (fun h7 => ?_) (fun h7 => ?_)
  · have h7 := cdb_f hw8 h7
    refine G.x ?_
    refine g_vret C hr dX5_requireNoBuild_21 ?_ ⟨by decide, by decide⟩
    exact ⟨rfl, hbu.no h7, rfl, rfl⟩
  · have h7 := cdb_t hw8 h7
    exact g_throwW (cls := xS) (text := "a build goes on") (names := xNm) C hno (by decide +kernel) xNm_ok (List.mem_of_getElem? (i := 307) (by decide +kernel)) (List.mem_of_getElem? (i := 59) (by decide +kernel)) (List.mem_of_getElem? (i := 380) (by decide +kernel)) hat_X5_118 dX5_requireNoBuild_10 dX5_requireNoBuild_13 dX5_requireNoBuild_14 dX5_requireNoBuild_17 dX5_requireNoBuild_20 ⟨by decide, by decide, by decide, by decide⟩ ⟨rfl, by rw [hbu.go h7]; decide⟩ ⟨by decide, by decide⟩
theorem k5_reqOpen {l : Launch} {s0 : State} {D : va_G} {cy : Nat → ClassId} (hE : gE s0 D cy) (hl : l.stackTraces = false) {L : List Nat} {f : gF} {bk : Nat → Nat} {n : Nat} {X : Nat → va_E} {Is : Nat → Option iT} {PR PL : Nat → Nat} {S A : Nat → Nat → Int32} {I : Nat → Int32} (hR : RC cy bk n X Is PR PL S A I L f) : gX l s0 D yX5_requireOpen cX5_requireOpen 1 none 7 1 6 [.ref (bk 0)] L f (fun v L1 f1 => v = none ∧ n < 400 ∧ L = L1 ∧ f = f1) (fun E => E = xS ∧ ¬ n < 400) := by
  refine gX.of (own := RX5) hE hl (by decide +kernel) rfl rfl (Nat.le_of_ble_eq_true rfl) (fun p9 e9 s9 m9 a99 b99 t99 c9 C hr hno => ?_)
  refine G.weak (ls' := [some (.ref (bk 0))]) ?_ rfl (fun _ _ h => h)
  refine g_aload_n (n := 1) C dX5_requireOpen_0 rfl (Or.inr ⟨_, rfl⟩) rfl ?_
  have hco := hR.co
  obtain ⟨g, hso, hrow, hg1, hg2⟩ := hR.st
  have hn9 := hR.nv.2.1
  refine g_get (n := 4) C dX5_requireOpen_1 kF_X5_33 (by assumption) rfl rfl ?_
  refine g_get (n := 7) C dX5_requireOpen_4 kF_X5_215 (by assumption) rfl rfl ?_
  refine g_sipush (n := 10) (v := nI 400) C dX5_requireOpen_7 rfl rfl ?_
  refine g_icmp_lt (n := 13) (tgt := 24) C dX5_requireOpen_10 (by decide) rfl (fun h10 => ?_) (fun h10 => ?_)
  · have h10 := (nI_ltI (by omega) (by decide)).mp h10
    refine G.x ?_
    refine g_vret C hr dX5_requireOpen_24 ?_ ⟨by decide, by decide⟩
    exact ⟨rfl, h10, rfl, rfl⟩
  · have h10 : ¬ n < 400 := fun q => h10 ((nI_ltI (by omega) (by decide)).mpr q)
    exact g_throwW (cls := xS) (text := "too many layers were made") (names := xNm) C hno (by decide +kernel) xNm_ok (List.mem_of_getElem? (i := 307) (by decide +kernel)) (List.mem_of_getElem? (i := 59) (by decide +kernel)) (List.mem_of_getElem? (i := 385) (by decide +kernel)) hat_X5_118 dX5_requireOpen_13 dX5_requireOpen_16 dX5_requireOpen_17 dX5_requireOpen_20 dX5_requireOpen_23 ⟨by decide, by decide, by decide, by decide⟩ ⟨rfl, h10⟩ ⟨by decide, by decide⟩
theorem k5_contentsOf {l : Launch} {s0 : State} {D : va_G} {cy : Nat → ClassId} (hE : gE s0 D cy) (hl : l.stackTraces = false) {L : List Nat} {f : gF} {bk : Nat → Nat} {n : Nat} {X : Nat → va_E} {Is : Nat → Option iT} {PR PL : Nat → Nat} {S A : Nat → Nat → Int32} {I : Nat → Int32} (hR : RC cy bk n X Is PR PL S A I L f) {b : Nat} (hb : b < 3) : gM l s0 D yX5_contentsOf cX5_contentsOf 2 (some (.array .int)) 3 0 0 [.ref (bk 0), .int (nI b)] L f (fun v L1 f1 => v = some (.ref (bk (3 + b))) ∧ L = L1 ∧ f = f1) := by
  refine gM.of (own := RX5) hE hl (by decide +kernel) rfl rfl (Nat.le_of_ble_eq_true rfl) (fun p9 e9 s9 m9 a99 b99 t99 c9 C hr hnm => ?_)
  refine G.weak (ls' := [some (.ref (bk 0)), some (.int (nI b))]) ?_ rfl (fun _ _ h => h)
  refine g_iload_n (n := 1) C dX5_contentsOf_0 rfl rfl ?_
  refine g_iconst (n := 2) (v := nI 3) C dX5_contentsOf_1 rfl rfl ?_
  refine g_S (n := 5) (rest := []) C (k5_reqIndexM hE hl (by decide) ⟨b, hb, rfl⟩) dX5_contentsOf_2 kM_X5_requireIndex kL_X5_51 kS_X5_requireIndex rfl rfl (Nat.le_of_ble_eq_true rfl) ⟨by decide, by decide⟩ ⟨by decide, by decide⟩ rfl (fun v9 L9 f9 hq => ?_)
  obtain ⟨rfl, rfl, rfl⟩ := hq
  refine G.sk (st' := []) rfl ?_
  refine g_aload_n (n := 6) C dX5_contentsOf_5 rfl (Or.inr ⟨_, rfl⟩) rfl ?_
  have hco := hR.co
  obtain ⟨r, hba, hbr⟩ := hR.ba
  refine g_get (n := 9) C dX5_contentsOf_6 kF_X5_15 (by assumption) rfl rfl ?_
  refine g_iload_n (n := 10) C dX5_contentsOf_9 rfl rfl ?_
  refine g_aald (n := 11) (t := 3) C dX5_contentsOf_10 rfl rfl (by assumption) rfl (by omega) (by decide) rfl ?_
  rw [hbr b hb]
  refine g_aret C hr (Or.inr ⟨_, rfl⟩) dX5_contentsOf_11 ?_ ⟨by decide, by decide⟩
  exact ⟨rfl, rfl, rfl⟩

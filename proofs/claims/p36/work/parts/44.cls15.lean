/-! ===== the class, XV: recipes ===== -/
theorem RC.ext {cy : Nat → ClassId} {L : List Nat} {f : gF} {bk : Nat → Nat} {n : Nat} {X : Nat → va_E} {Is : Nat → Option iT} {PR PL : Nat → Nat} {S A : Nat → Nat → Int32} {I : Nat → Int32} (hR : RC cy bk n X Is PR PL S A I L f) {L1 : List Nat} {f1 : gF} (h1 : ∀ b, b ∈ L → b ∈ L1) (h2 : ∀ b, b ∈ L → f1 b = f b) : RC cy bk n X Is PR PL S A I L1 f1 := ⟨hR.1.ext h1 h2, hR.2⟩
theorem RC.setR {cy : Nat → ClassId} {L : List Nat} {f : gF} {bk : Nat → Nat} {n : Nat} {X : Nat → va_E} {Is : Nat → Option iT} {PR PL : Nat → Nat} {S A : Nat → Nat → Int32} {I : Nat → Int32} (hR : RC cy bk n X Is PR PL S A I L f) {Is' : Nat → Option iT} {A' : Nat → Nat → Int32} {i c b : Nat} {g : Nat → Option Nat} (hi : i < 4) (hIs : ∀ v t, Is v = some t → Is' v = some t) (hIc : ∀ v t, Is' v = some t → gH L f v (.inr (1, [.int t.1, .int t.2.1, .int t.2.2]))) (hc : c ≤ 10) (hb : b < 3) (e3 : A' 3 i = nI c) (e2 : A' 2 i = nI b) (hg1 : ∀ p v, g p = some v → ∃ t, Is' v = some t) (hg2 : ∀ p, p < c → ∃ v, g p = some v ∧ insR (Is' v) (A' 4 (10 * i + p)) (A' 5 (10 * i + p)) (A' 6 (10 * i + p)))
    (a0 : ∀ k j, (k < 2 ∨ 6 < k) → A' k j = A k j) (a1 : ∀ j, j < 4 → j ≠ i → A' 2 j = A 2 j ∧ A' 3 j = A 3 j ∧ ∀ k p, 4 ≤ k → k ≤ 6 → p < 10 → A' k (10 * j + p) = A k (10 * j + p)) :
    RC cy bk n (va_up (va_up X (11 + 2 * i + 1) (.inl (cy 6, 10, qR g))) (11 + 2 * i) (.inr (3, [.ref (bk (11 + 2 * i + 1)), .int (nI b), .int (nI c)]))) Is' PR PL S A' I L (va_up (va_up f (bk (11 + 2 * i + 1)) (.inl (cy 6, 10, qR g))) (bk (11 + 2 * i)) (.inr (3, [.ref (bk (11 + 2 * i + 1)), .int (nI b), .int (nI c)]))) := by
  obtain ⟨hP, hco, ⟨gf, hf1, hf2⟩, hba, ⟨r, r1, r2, r3⟩, hta, hst, hbu, hlk, hin⟩ := hR
  obtain ⟨c0, b0, q1, q2, q3, q4, q5, g0, q6, q7, q8⟩ := r3 i hi
  have hP0 : Pc bk n X Is' L f := ⟨hP.1, hP.2.1, hIc⟩
  have hP1 := hP0.up (j := 11 + 2 * i + 1) (bv n (by omega)) (.inl (cy 6, 10, qR g)) (fun t => by rw [q6]; exact fun z => by cases z)
  have hP2 := hP1.up (j := 11 + 2 * i) (bv n (by omega)) (.inr (3, [.ref (bk (11 + 2 * i + 1)), .int (nI b), .int (nI c)])) (fun t => by rw [va_up_ne _ _ (by omega), q5]; exact fun z => by cases z)
  have hx : ∀ j, j ≠ 11 + 2 * i + 1 → j ≠ 11 + 2 * i → va_up (va_up X (11 + 2 * i + 1) (.inl (cy 6, 10, qR g))) (11 + 2 * i) (.inr (3, [.ref (bk (11 + 2 * i + 1)), .int (nI b), .int (nI c)])) j = X j := fun j h1 h2 => by rw [va_up_ne _ _ h2, va_up_ne _ _ h1]
  refine ⟨hP2, by rw [hx 0 (by omega) (by omega)]; exact hco, ⟨gf, (hx 1 (by omega) (by omega)).trans hf1, fun q hq => (hf2 q hq).trans (a0 0 q (Or.inl (by decide))).symm⟩, hba.c (fun _ _ => rfl) (fun j h1 h2 => hx j (by omega) (by omega)) (fun j _ => a0 1 j (Or.inl (by decide))), ⟨r, (hx 6 (by omega) (by omega)).trans r1, r2, fun j hj => ?_⟩, hta.c (hx 7 (by omega) (by omega)) (Nat.le_refl n) (fun _ _ => rfl) (fun k _ => a0 8 k (Or.inr (by decide))) (fun i _ => a0 16 i (Or.inr (by decide))), hst.c (hx 8 (by omega) (by omega)) (hx 9 (by omega) (by omega)) (fun k _ => a0 8 k (Or.inr (by decide))), hbu.c (Nat.le_refl n) (fun _ _ => rfl) ⟨hx 10 (by omega) (by omega), hx 19 (by omega) (by omega), hx 20 (by omega) (by omega)⟩ hIs (fun k j h1 h => a0 k j (Or.inr (by omega))) (fun k _ => a0 8 k (Or.inr (by decide))) (fun _ _ => rfl) ⟨rfl, rfl, rfl, rfl, rfl⟩, pLs.c hlk hin.2.2.1 (fun j h => hx j (by omega) (by omega)) hIs (fun k j h1 h => a0 k j (Or.inr (by omega))), hin.c rfl (fun k j h1 h => a0 k j (Or.inr (by omega)))⟩
  by_cases e : j = i
  · subst e
    exact ⟨c, b, hc, hb, e3, e2, va_up_self _ _ _, g, by rw [va_up_ne _ _ (by omega), va_up_self], hg1, hg2⟩
  · obtain ⟨c1, b1, p1, p2, p3, p4, p5⟩ := r3 j hj
    obtain ⟨a2, a3, a4⟩ := a1 j hj e
    exact ⟨c1, b1, p1, p2, a3.trans p3, a2.trans p4, p5.c rfl (hx _ (by omega) (by omega)) (hx _ (by omega) (by omega)) hIs (fun p hp => ⟨a4 4 p (by decide) (by decide) (by omega), a4 5 p (by decide) (by decide) (by omega), a4 6 p (by decide) (by decide) (by omega)⟩)⟩
theorem addA_k {A : Nat → Nat → Int32} {i m k j : Nat} {w a b : Int32} (h : k < 3 ∨ 6 < k) : addA A i m w a b k j = A k j := by
  unfold addA
  rw [mU_k (by omega), mU_k (by omega), mU_k (by omega), mU_k (by omega)]
theorem addA_j {A : Nat → Nat → Int32} {i m k j : Nat} {w a b : Int32} (h : j ≠ 10 * i + m) (h3 : k ≠ 3) : addA A i m w a b k j = A k j := by
  unfold addA
  rw [mU_k h3, mU_j h, mU_j h, mU_j h]
theorem addA_3 {A : Nat → Nat → Int32} {i m : Nat} {w a b : Int32} : addA A i m w a b 3 i = nI (m + 1) := by
  unfold addA
  rw [mU_s]
theorem addA_3o {A : Nat → Nat → Int32} {i m j : Nat} {w a b : Int32} (h : j ≠ i) : addA A i m w a b 3 j = A 3 j := by
  unfold addA
  rw [mU_j h, mU_k (by decide), mU_k (by decide), mU_k (by decide)]
theorem addA_n {A : Nat → Nat → Int32} {i m : Nat} {w a b : Int32} : addA A i m w a b 4 (10 * i + m) = w ∧ addA A i m w a b 5 (10 * i + m) = a ∧ addA A i m w a b 6 (10 * i + m) = b := by
  unfold addA
  refine ⟨?_, ?_, ?_⟩
  · rw [mU_k (by decide), mU_k (by decide), mU_k (by decide), mU_s]
  · rw [mU_k (by decide), mU_k (by decide), mU_s]
  · rw [mU_k (by decide), mU_s]
def D1 : List Value := [.int 0, .int 0, .int 0]
theorem hD1 : ∀ j, j < 3 → defaultValue (tyX1 j) = vp_V D1 j := by
  intro j hj
  rcases (show j = 0 ∨ j = 1 ∨ j = 2 by omega) with rfl | rfl | rfl <;> rfl
theorem RC.add {cy : Nat → ClassId} {L : List Nat} {f : gF} {bk : Nat → Nat} {n : Nat} {X : Nat → va_E} {Is : Nat → Option iT} {PR PL : Nat → Nat} {S A : Nat → Nat → Int32} {I : Nat → Int32} (hR : RC cy bk n X Is PR PL S A I L f) {i : Nat} (hi : i < 4) {c b : Nat} {g : Nat → Option Nat} (hc : c < 10) (hb : b < 3) (e3 : A 3 i = nI c) (e2 : A 2 i = nI b) (hg1 : ∀ p v, g p = some v → ∃ t, Is v = some t) (hg2 : ∀ p, p < c → ∃ v, g p = some v ∧ insR (Is v) (A 4 (10 * i + p)) (A 5 (10 * i + p)) (A 6 (10 * i + p))) {a : Nat} (ha : a ∉ L) {kd fi se b0 : Int32} {e0 : va_E} (hs : se = if kd = nI 3 then -1 else b0) (hV : vIns kd fi b0) (h3 : kd = nI 3 → b0 = nI 0) :
    ∃ X1 Is1, RC cy bk n X1 Is1 PR PL S (addA A i c kd fi b0) I (L ++ [a]) (va_up (va_up (va_up (va_up f a e0) a (.inr (1, [.int kd, .int fi, .int se]))) (bk (11 + 2 * i + 1)) (.inl (cy 6, 10, qR (va_up g c (some a))))) (bk (11 + 2 * i)) (.inr (3, [.ref (bk (11 + 2 * i + 1)), .int (nI b), .int (nI (c + 1))]))) := by
  have hn : Is a = none := by
    cases h : Is a with
    | none => rfl
    | some t => exact absurd (hR.1.2.2 a t h).1 ha
  have hR1 := hR.ext (L1 := L ++ [a]) (f1 := va_up (va_up f a e0) a (.inr (1, [.int kd, .int fi, .int se]))) (fun b hb => List.mem_append_left _ hb) (fun b hb => by have hne : b ≠ a := fun z => ha (z ▸ hb); rw [va_up_ne _ _ hne, va_up_ne _ _ hne])
  have hI : ∀ v t, Is v = some t → va_up Is a (some (kd, fi, se)) v = some t := fun v t h => by
    rw [va_up_ne _ _ (fun z => by rw [z, hn] at h; cases h)]
    exact h
  refine ⟨_, va_up Is a (some (kd, fi, se)), hR1.setR (A' := addA A i c kd fi b0) (c := c + 1) (b := b) (g := va_up g c (some a)) hi hI (hR1.1.ins hn (kd, fi, se) ⟨List.mem_append_right _ List.mem_cons_self, va_up_self _ _ _⟩).2.2 hc hb addA_3 ((addA_k (by decide)).trans e2) (fun p v hv => ?_) (fun p hp => ?_) (fun k j h => addA_k (by omega)) (fun j hj hne => ⟨addA_k (by decide), addA_3o hne, fun k p h1 h2 h9 => addA_j (by omega) (by omega)⟩)⟩
  · by_cases e : p = c
    · rw [e, va_up_self] at hv
      cases hv
      exact ⟨_, va_up_self _ _ _⟩
    · rw [va_up_ne _ _ e] at hv
      obtain ⟨t, ht⟩ := hg1 p v hv
      exact ⟨t, hI v t ht⟩
  · by_cases e : p = c
    · rw [e, addA_n.1, addA_n.2.1, addA_n.2.2, va_up_self]
      exact ⟨a, rfl, by rw [va_up_self, hs], hV, h3⟩
    · obtain ⟨v, hv, hr⟩ := hg2 p (by omega)
      rw [va_up_ne _ _ e, addA_j (by omega) (by decide), addA_j (by omega) (by decide), addA_j (by omega) (by decide)]
      exact ⟨v, hv, hr.c hI⟩
theorem k5_instructions {l : Launch} {s0 : State} {D : va_G} {cy : Nat → ClassId} (hE : gE s0 D cy) (hl : l.stackTraces = false) {L : List Nat} {f : gF} {bk : Nat → Nat} {n : Nat} {X : Nat → va_E} {Is : Nat → Option iT} {PR PL : Nat → Nat} {S A : Nat → Nat → Int32} {I : Nat → Int32} (hR : RC cy bk n X Is PR PL S A I L f) (hB9 : rmB n I) (hC9 : pCt n A S) (x : Int32) : gX l s0 D yX5_instructions cX5_instructions 2 (some .int) 8 2 12 [.ref (bk 0), .int x] L f (uQ cy (bk 0) (fun b A1 I1 => ∃ w, cd2 (gin x 4) w ∧ I1 = va_up I 27 (nI w) ∧ (w = 0 → A1 = A ∧ ∃ i, i < 4 ∧ x = nI i ∧ b = A 3 i) ∧ (w ≠ 0 → A1 = A))) (uX [xI, xS] A I (fun b A1 I1 => ∃ w, cd2 (gin x 4) w ∧ I1 = va_up I 27 (nI w) ∧ (w = 0 → A1 = A ∧ ∃ i, i < 4 ∧ x = nI i ∧ b = A 3 i) ∧ (w ≠ 0 → A1 = A))) := by
  refine gX.of (own := RX5) hE hl (by decide +kernel) rfl rfl (Nat.le_of_ble_eq_true rfl) (fun p9 e9 s9 m9 a99 b99 t99 c9 C hr hno => ?_)
  refine G.weak (ls' := [some (.ref (bk 0)), some (.int x)]) ?_ rfl (fun _ _ h => h)
  refine g_aload_n (n := 1) C dX5_instructions_0 rfl (Or.inr ⟨_, rfl⟩) rfl ?_
  refine g_iload_n (n := 2) C dX5_instructions_1 rfl rfl ?_
  refine g_VX (n := 5) (rest := []) C hno (k5_recipeAt hE hl hR x) dX5_instructions_2 kM_X5_recipeAt kW_X5_59 kV_X5_recipeAt hR.co rfl rfl rfl (Nat.le_of_ble_eq_true rfl) ⟨by decide, by decide⟩ ⟨by decide, by decide⟩ rfl (fun E h => by
      rcases h with ⟨rfl, h9⟩
      intro b A1 I1 hr
      obtain ⟨w, hw, hI, -, hf⟩ := hr
      have e9 : w = 1 := cd2_1 hw h9
      subst e9
      exact ⟨1, by decide, by decide, by rw [hI]; rfl, rfl, hf (by decide), hI⟩) ⟨by decide, by decide⟩ (fun v9 L9 f9 hq => ?_)
  obtain ⟨⟨i, hi, rfl, rfl⟩, rfl, rfl⟩ := hq
  refine G.sk (st' := [_]) rfl ?_
  obtain ⟨c, b0, g, hc9, hb9, e3, e2, hro, hrw, hg1, hg2⟩ := hR.ri hi
  refine g_get (n := 8) C dX5_instructions_5 kF_X5_63 (by assumption) rfl rfl ?_
  refine G.x ?_
  refine g_iret C hr dX5_instructions_8 ?_ ⟨by decide, by decide⟩
  intro b A1 I1 hr
  obtain ⟨w, hw, hI, h0, -⟩ := hr
  have e9 := cd2_0 hw ⟨i, hi, rfl⟩
  subst e9
  obtain ⟨e5, i2, hi2, e1, e6⟩ := h0 rfl
  have e4 := gn_inj (by omega) (by omega) e1
  subst e4
  rw [hI, e5, e6, e3]
  exact ⟨rfl, rfl, CW.rd hR hB9 hC9⟩
theorem k5_reset {l : Launch} {s0 : State} {D : va_G} {cy : Nat → ClassId} (hE : gE s0 D cy) (hl : l.stackTraces = false) {L : List Nat} {f : gF} {bk : Nat → Nat} {n : Nat} {X : Nat → va_E} {Is : Nat → Option iT} {PR PL : Nat → Nat} {S A : Nat → Nat → Int32} {I : Nat → Int32} (hR : RC cy bk n X Is PR PL S A I L f) (hB9 : rmB n I) (hC9 : pCt n A S) (x y : Int32) : gX l s0 D yX5_reset cX5_reset 5 (some .int) 8 3 18 [.ref (bk 0), .int x, .int y] L f (uQ cy (bk 0) (fun b A1 I1 => ∃ w, cd2 (gin x 4 ∧ gin y 3) w ∧ I1 = va_up I 27 (nI w) ∧ (w = 0 → ∃ i j, i < 4 ∧ j < 3 ∧ x = nI i ∧ y = nI j ∧ b = A 3 i ∧ A1 = mU (mU A 2 i (nI j)) 3 i (nI 0)) ∧ (w ≠ 0 → A1 = A))) (uX [xI, xS] A I (fun b A1 I1 => ∃ w, cd2 (gin x 4 ∧ gin y 3) w ∧ I1 = va_up I 27 (nI w) ∧ (w = 0 → ∃ i j, i < 4 ∧ j < 3 ∧ x = nI i ∧ y = nI j ∧ b = A 3 i ∧ A1 = mU (mU A 2 i (nI j)) 3 i (nI 0)) ∧ (w ≠ 0 → A1 = A))) := by
  refine gX.of (own := RX5) hE hl (by decide +kernel) rfl rfl (Nat.le_of_ble_eq_true rfl) (fun p9 e9 s9 m9 a99 b99 t99 c9 C hr hno => ?_)
  refine G.weak (ls' := [some (.ref (bk 0)), some (.int x), some (.int y), none, none]) ?_ rfl (fun _ _ h => h)
  refine g_aload_n (n := 1) C dX5_reset_0 rfl (Or.inr ⟨_, rfl⟩) rfl ?_
  refine g_iload_n (n := 2) C dX5_reset_1 rfl rfl ?_
  refine g_VX (n := 5) (rest := []) C hno (k5_recipeAt hE hl hR x) dX5_reset_2 kM_X5_recipeAt kW_X5_59 kV_X5_recipeAt hR.co rfl rfl rfl (Nat.le_of_ble_eq_true rfl) ⟨by decide, by decide⟩ ⟨by decide, by decide⟩ rfl (fun E h => by
      rcases h with ⟨rfl, h9⟩
      intro b A1 I1 hr
      obtain ⟨w, hw, hI, -, hf⟩ := hr
      have e9 : w = 1 := cd2_1 hw (fun z9 => h9 z9.1)
      subst e9
      exact ⟨1, by decide, by decide, by rw [hI]; rfl, rfl, hf (by decide), hI⟩) ⟨by decide, by decide⟩ (fun v9 L9 f9 hq => ?_)
  obtain ⟨⟨i, hi, rfl, rfl⟩, rfl, rfl⟩ := hq
  refine G.sk (st' := [_]) rfl ?_
  obtain ⟨c, b0, g, hc9, hb9, e3, e2, hro, hrw, hg1, hg2⟩ := hR.ri hi
  refine g_astore_n (n := 6) (ls' := [_, _, _, _, _]) C dX5_reset_5 (Or.inr ⟨_, rfl⟩) rfl (by decide) rfl ?_
  refine g_iload_n (n := 7) C dX5_reset_6 rfl rfl ?_
  refine g_iconst (n := 8) (v := nI 3) C dX5_reset_7 rfl rfl ?_
  refine g_SX (n := 11) (rest := []) C hno (k5_reqIndex hE hl y (N := 3) (by decide)) dX5_reset_8 kM_X5_requireIndex kW_X5_51 kS_X5_requireIndex rfl rfl (Nat.le_of_ble_eq_true rfl) ⟨by decide, by decide⟩ ⟨by decide, by decide⟩ rfl (fun E h => by
      rcases h with ⟨rfl, h9⟩
      intro b A1 I1 hr
      obtain ⟨w, hw, hI, -, hf⟩ := hr
      have e9 : w = 1 := cd2_1 hw (fun z9 => h9 z9.2)
      subst e9
      exact ⟨1, by decide, by decide, by rw [hI]; rfl, rfl, hf (by decide), hI⟩) ⟨by decide, by decide⟩ (fun v9 L9 f9 hq => ?_)
  obtain ⟨rfl, ⟨j, hj, rfl⟩, rfl, rfl⟩ := hq
  refine G.sk (st' := []) rfl ?_
  refine g_aload_n (n := 12) C dX5_reset_11 rfl (Or.inr ⟨_, rfl⟩) rfl ?_
  refine g_get (n := 15) C dX5_reset_12 kF_X5_63 (by assumption) rfl rfl ?_
  refine g_istore (n := 17) (ls' := [_, _, _, _, _]) C dX5_reset_15 rfl (by decide) rfl ?_
  refine g_aload_n (n := 18) C dX5_reset_17 rfl (Or.inr ⟨_, rfl⟩) rfl ?_
  refine g_iload_n (n := 19) C dX5_reset_18 rfl rfl ?_
  refine g_V (n := 22) (rest := []) C (k5_clearOn hE hl hro hrw _) dX5_reset_19 kM_X3_clearOn kL_X5_67 kV_X3_clearOn hro rfl rfl rfl (Nat.le_of_ble_eq_true rfl) ⟨by decide, by decide⟩ ⟨by decide, by decide⟩ rfl (fun v9 L9 f9 hq => ?_)
  obtain ⟨rfl, rfl, rfl⟩ := hq
  refine G.sk (st' := []) rfl ?_
  refine g_iload (n := 24) C dX5_reset_22 rfl rfl ?_
  refine G.x ?_
  refine g_iret C hr dX5_reset_24 ?_ ⟨by decide, by decide⟩
  intro b A1 I1 hr
  obtain ⟨w, hw, hI, h0, -⟩ := hr
  have e9 := cd2_0 hw ⟨⟨i, hi, rfl⟩, ⟨j, hj, rfl⟩⟩
  subst e9
  obtain ⟨i2, j2, hi2, hj2, e1, e6, e7, e5⟩ := h0 rfl
  have e4 := gn_inj (by omega) (by omega) e1
  subst e4
  have e8 := gn_inj (by omega) (by omega) e6
  subst e8
  have hset := hR.setR (A' := mU (mU A 2 i (nI j)) 3 i (nI 0)) (c := 0) (b := j) (g := g) hi (fun _ _ z => z) hR.1.2.2 (Nat.zero_le _) hj (mU_s) ((mU_k (by decide)).trans mU_s) hg1 (fun p hp => absurd hp (Nat.not_lt_zero p)) (fun k j h => by rw [mU_r (by omega), mU_r (by omega)]) (fun j2 hj2 hne => ⟨by rw [mU_r (by decide), mU_j hne], by rw [mU_j hne, mU_r (by decide)], fun k p h1 h2 h9 => by rw [mU_r (by omega), mU_r (by omega)]⟩)
  rw [upf_id hrw.2] at hset
  rw [hI, e5, e7, e3]
  exact ⟨rfl, rfl, CW.rd hset hB9 (hC9.cg (fun k j h => by rw [mU_r (by omega), mU_r (by omega)]))⟩
theorem k5_addInstruction {l : Launch} {s0 : State} {D : va_G} {cy : Nat → ClassId} (hE : gE s0 D cy) (hl : l.stackTraces = false) {L : List Nat} {f : gF} {bk : Nat → Nat} {n : Nat} {X : Nat → va_E} {Is : Nat → Option iT} {PR PL : Nat → Nat} {S A : Nat → Nat → Int32} {I : Nat → Int32} (hR : RC cy bk n X Is PR PL S A I L f) {i : Nat} (hi : i < 4) {kd fi se b0 : Int32} (hs : se = if kd = nI 3 then -1 else b0) (hV : vIns kd fi b0) (h3 : kd = nI 3 → b0 = nI 0) : gX l s0 D yX5_addInstruction cX5_addInstruction 6 (some .int) 8 3 12 [.ref (bk 0), .int (nI i), .int kd, .int fi, .int se] L f (fun v L1 f1 => ∃ c, A 3 i = nI c ∧ c < 10 ∧ v = some (.int (nI (c + 1))) ∧ ∃ X1 Is1, RC cy bk n X1 Is1 PR PL S (addA A i c kd fi b0) I L1 f1) (fun E => E = xS ∧ A 3 i = nI 10) := by
  refine gX.of (own := RX5) hE hl (by decide +kernel) rfl rfl (Nat.le_of_ble_eq_true rfl) (fun p9 e9 s9 m9 a99 b99 t99 c9 C hr hno => ?_)
  refine G.weak (ls' := [some (.ref (bk 0)), some (.int (nI i)), some (.int kd), some (.int fi), some (.int se), none]) ?_ rfl (fun _ _ h => h)
  refine g_aload_n (n := 1) C dX5_addInstruction_0 rfl (Or.inr ⟨_, rfl⟩) rfl ?_
  refine g_iload_n (n := 2) C dX5_addInstruction_1 rfl rfl ?_
  refine g_VX (n := 5) (rest := []) C hno (k5_recipeAt hE hl hR (nI i)) dX5_addInstruction_2 kM_X5_recipeAt kW_X5_59 kV_X5_recipeAt hR.co rfl rfl rfl (Nat.le_of_ble_eq_true rfl) ⟨by decide, by decide⟩ ⟨by decide, by decide⟩ rfl (fun E h => absurd (show gin (nI i) 4 from ⟨i, hi, rfl⟩) h.2) ⟨by decide, by decide⟩ (fun v9 L9 f9 hq => ?_)
  obtain ⟨⟨i2, hi2, e1, rfl⟩, rfl, rfl⟩ := hq
  have e4 := gn_inj (by omega) (by omega) e1
  subst e4
  refine G.sk (st' := [_]) rfl ?_
  obtain ⟨c, b0, g, hc9, hb9, e3, e2, hro, hrw, hg1, hg2⟩ := hR.ri hi
  refine g_astore (n := 7) (ls' := [_, _, _, _, _, _]) C dX5_addInstruction_5 (Or.inr ⟨_, rfl⟩) rfl (by decide) rfl ?_
  refine g_aload (n := 9) C dX5_addInstruction_7 rfl (Or.inr ⟨_, rfl⟩) rfl ?_
  refine g_get (n := 12) C dX5_addInstruction_9 kF_X5_63 (by assumption) rfl rfl ?_
  refine g_bipush (n := 14) (v := nI 10) C dX5_addInstruction_12 rfl rfl ?_
  refine g_icmp_lt (n := 17) (tgt := 28) C dX5_addInstruction_14 (by decide) rfl (fun h14 => ?_) (fun h14 => ?_)
  · have h14 := (nI_ltI (by omega) (by decide)).mp h14
    refine g_aload (n := 30) C dX5_addInstruction_28 rfl (Or.inr ⟨_, rfl⟩) rfl ?_
    refine g_new (n := 33) (ci := 1) (fs := D1) C tyX1 dX5_addInstruction_30 rfl uX1 tyX1_ok hD1 (List.mem_of_getElem? (i := 323) (by decide +kernel)) (List.mem_of_getElem? (i := 324) (by decide +kernel)) (List.mem_of_getElem? (i := 60) (by decide +kernel)) ⟨by decide, by decide⟩ rfl (fun a haL => ?_)
    refine g_dup (n := 34) C dX5_addInstruction_33 rfl rfl ?_
    refine g_iload_n (n := 35) C dX5_addInstruction_34 rfl rfl ?_
    refine g_iload_n (n := 36) C dX5_addInstruction_35 rfl rfl ?_
    refine g_iload (n := 38) C dX5_addInstruction_36 rfl rfl ?_
    refine g_I (n := 41) (rest := [_, _]) C (k5_insInit hE hl (gH.new (L := L) (f := f)) kd fi se) dX5_addInstruction_38 kM_X1_init kL_X5_267 kI_X1_init rfl rfl (Nat.le_of_ble_eq_true rfl) ⟨by decide, by decide⟩ ⟨by decide, by decide⟩ rfl (fun v9 L9 f9 hq => ?_)
    obtain ⟨rfl, rfl, rfl⟩ := hq
    refine G.sk (st' := [_, _]) rfl ?_
    refine g_V (n := 44) (rest := []) C (k5_append hE hl ((hro.push haL).ne (gH.nq hro haL)) ((hrw.push haL).ne (gH.nq hrw haL)) (gH.up gH.new) h14) dX5_addInstruction_41 kM_X3_append kL_X5_270 kV_X3_append ((hro.push haL).ne (gH.nq hro haL)) rfl rfl rfl (Nat.le_of_ble_eq_true rfl) ⟨by decide, by decide⟩ ⟨by decide, by decide⟩ rfl (fun v9 L9 f9 hq => ?_)
    obtain ⟨rfl, rfl, rfl⟩ := hq
    refine G.sk (st' := []) rfl ?_
    obtain ⟨X1, Is1, hR1⟩ := hR.add hi h14 hb9 e3 e2 hg1 hg2 haL (e0 := .inr (1, D1)) hs hV h3
    refine g_aload (n := 46) C dX5_addInstruction_44 rfl (Or.inr ⟨_, rfl⟩) rfl ?_
    refine g_get (n := 49) C dX5_addInstruction_46 kF_X5_63 (gH.up (((hro.push haL).ne (gH.nq hro haL)).ne (gH.apart hro hrw (fun e => by cases e)))) rfl rfl ?_
    refine G.x ?_
    refine g_iret C hr dX5_addInstruction_49 ?_ ⟨by decide, by decide⟩
    exact ⟨c, e3, h14, rfl, X1, Is1, hR1⟩
  · have h14 : ¬ c < 10 := fun q => h14 ((nI_ltI (by omega) (by decide)).mpr q)
    exact g_throwW (cls := xS) (text := "the recipe is full") (names := xNm) C hno (by decide +kernel) xNm_ok (List.mem_of_getElem? (i := 307) (by decide +kernel)) (List.mem_of_getElem? (i := 59) (by decide +kernel)) (List.mem_of_getElem? (i := 316) (by decide +kernel)) hat_X5_118 dX5_addInstruction_17 dX5_addInstruction_20 dX5_addInstruction_21 dX5_addInstruction_24 dX5_addInstruction_27 ⟨by decide, by decide, by decide, by decide⟩ ⟨rfl, by rw [e3, show c = 10 by omega]⟩ ⟨by decide, by decide⟩

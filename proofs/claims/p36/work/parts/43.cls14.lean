/-! ===== the class, XIV: questions, tags ===== -/
theorem RC.nb {cy : Nat → ClassId} {L : List Nat} {f : gF} {bk : Nat → Nat} {n : Nat} {X : Nat → va_E} {Is : Nat → Option iT} {PR PL : Nat → Nat} {S A : Nat → Nat → Int32} {I : Nat → Int32} (hR : RC cy bk n X Is PR PL S A I L f) {m : Nat} (hm : m ≤ n) : (pR bk m = none ∧ pI m = -1) ∨ ∃ a rest, pR bk m = some a ∧ gH L f a (.inr (2, .int (pI m) :: rest)) := by
  cases m with
  | zero => exact Or.inl ⟨rfl, rfl⟩
  | succ j =>
    obtain ⟨h, s, v, m, ip, hL, -⟩ := hR.lk (k := j) (by omega)
    exact Or.inr ⟨_, _, rfl, hL⟩
theorem szF_N {A : Nat → Nat → Int32} {k : Nat} {h : Nat → Int32} (e : ∀ q, q < 12 → h q = A 10 (12 * k + q)) : ∀ i, i ≤ 12 → szF h i = szN A k i := by
  intro i
  induction i with
  | zero => intro _; rfl
  | succ i ih =>
    intro hi
    show szF h i + (if h i = -1 then 0 else 1) = szN A k i + (if A 10 (12 * k + i) = -1 then 0 else 1)
    rw [ih (by omega), e i (by omega)]
theorem dgF_c {g h : Nat → Int32} (e : ∀ q, q < 12 → g q = h q) : ∀ i, i ≤ 12 → dgF g i = dgF h i := by
  intro i
  induction i with
  | zero => intro _; rfl
  | succ i ih =>
    intro hi
    unfold dgF
    rw [ih (by omega), e i (by omega)]
theorem RC.fin {cy : Nat → ClassId} {L : List Nat} {f : gF} {bk : Nat → Nat} {n : Nat} {X : Nat → va_E} {Is : Nat → Option iT} {PR PL : Nat → Nat} {S A : Nat → Nat → Int32} {I : Nat → Int32} (hR : RC cy bk n X Is PR PL S A I L f) {t c : Nat} {ly : Option Nat} (hbu : buC bk n A I PL t c ly) : ((if t < c then none else ly) = none ∧ resV A I = -1) ∨ ∃ k, k < n ∧ I 24 = nI k ∧ A 8 k = 0 ∧ resV A I = nI k ∧ (if t < c then none else ly) = some (bk (100 + 4 * k)) := by
  have hn9 := hR.nv.2.1
  rcases hbu with ⟨-, h18, -, -, hl, -⟩ | ⟨-, hl, ⟨h18, h⟩ | ⟨h18, k, hk, h24, h⟩⟩
  · refine Or.inl ⟨if_pos hl, ?_⟩
    unfold resV
    rw [if_neg (fun z => z.1 h18)]
  · refine Or.inl ⟨by rw [if_neg (by omega)]; exact h, ?_⟩
    unfold resV
    rw [if_neg (fun z => z.1 h18)]
  · have e : resV A I = if A 8 k = 0 then nI k else -1 := by
      unfold resV
      rw [h24, nI_clamp (by omega), h18]
      by_cases h8 : A 8 k = 0
      · rw [if_pos ⟨by decide, h8⟩, if_pos h8]
      · rw [if_neg (fun z => h8 z.2), if_neg h8]
    rw [if_neg (show ¬ t < c by omega), e, h]
    by_cases h8 : A 8 k = 0
    · rw [if_pos h8, if_pos h8]; exact Or.inr ⟨k, hk, h24, h8, rfl, rfl⟩
    · rw [if_neg h8, if_neg h8]; exact Or.inl ⟨rfl, rfl⟩
theorem RC.fiX {cy : Nat → ClassId} {L : List Nat} {f : gF} {bk : Nat → Nat} {n : Nat} {X : Nat → va_E} {Is : Nat → Option iT} {PR PL : Nat → Nat} {S A : Nat → Nat → Int32} {I : Nat → Int32} (hR : RC cy bk n X Is PR PL S A I L f) {o : Option Nat} {x : Int32} (h : (o = none ∧ x = -1) ∨ ∃ k, k < n ∧ x = nI k ∧ o = some (bk (100 + 4 * k))) : (o = none ∧ x = -1) ∨ ∃ a rest, o = some a ∧ gH L f a (.inr (2, .int x :: rest)) := by
  rcases h with h | ⟨k, hk, e, h⟩
  · exact Or.inl h
  · obtain ⟨h9, s, v, m, ip, hL, -⟩ := hR.lk hk
    rw [e]
    exact Or.inr ⟨_, _, h, hL⟩
theorem tgC.w {bk : Nat → Nat} {n : Nat} {A : Nat → Nat → Int32} {x : Int32} {o : Option Nat} (h : tgC bk n A x o) : (o = none ∧ x = -1) ∨ ∃ k, k < n ∧ x = nI k ∧ o = some (bk (100 + 4 * k)) := by
  rcases h with h | ⟨k, hk, e, -, h⟩
  · exact Or.inl ⟨h.2, h.1⟩
  · exact Or.inr ⟨k, hk, e, h⟩
theorem RC.setT {cy : Nat → ClassId} {L : List Nat} {f : gF} {bk : Nat → Nat} {n : Nat} {X : Nat → va_E} {Is : Nat → Option iT} {PR PL : Nat → Nat} {S A : Nat → Nat → Int32} {I : Nat → Int32} (hR : RC cy bk n X Is PR PL S A I L f) {g g0 : Nat → Option Nat} {i : Nat} {x : Int32} {o : Option Nat} (hg0 : ∀ i, i < 5 → tgC bk n A (A 16 i) (g0 i)) (hg : g = va_up g0 i o) (ho : tgC bk n A x o) : RC cy bk n (va_up X 7 (.inl (cy 5, 5, qR g))) Is PR PL S (mU A 16 i x) I L (va_up f (bk 7) (.inl (cy 5, 5, qR g))) := by
  obtain ⟨hP, hco, ⟨gf, hf1, hf2⟩, hba, hre, ⟨g9, hta, -⟩, hst, hbu, hlk, hin⟩ := hR
  refine ⟨hP.up (bv n (by decide)) _ (fun t => by rw [hta]; exact fun z => by cases z), hco, ⟨gf, hf1, fun q hq => (hf2 q hq).trans (mU_r (by decide)).symm⟩, hba.c (fun _ _ => rfl) (fun j h1 _ => va_up_ne _ _ (by omega)) (fun j _ => mU_r (by decide)), hre.c (fun _ _ => rfl) rfl (fun j h1 _ => va_up_ne _ _ (by omega)) (fun _ _ z => z) (fun k j _ h => mU_r (by omega)), ⟨g, va_up_self _ _ _, fun j hj => ?_⟩, hst.c rfl rfl (fun k _ => mU_r (by decide)), hbu.c (Nat.le_refl n) (fun _ _ => rfl) ⟨rfl, rfl, rfl⟩ (fun _ _ z => z) (fun k j h1 h => mU_r (by omega)) (fun k _ => mU_r (by decide)) (fun _ _ => rfl) ⟨rfl, rfl, rfl, rfl, rfl⟩, pLs.c hlk hin.2.2.1 (fun j h => va_up_ne _ _ (by omega)) (fun _ _ z => z) (fun k j h1 h => mU_r (by omega)), hin.c rfl (fun k j h1 h => mU_r (by omega))⟩
  by_cases e : j = i
  · rw [hg, e, va_up_self, mU_s]
    exact ho.c (Nat.le_refl n) (fun _ _ => rfl) (fun k _ => mU_r (by decide))
  · rw [hg, va_up_ne _ _ e, mU_j e]
    exact (hg0 j hj).c (Nat.le_refl n) (fun _ _ => rfl) (fun k _ => mU_r (by decide))
theorem pCt.cg {n : Nat} {A A' S : Nat → Nat → Int32} (h : pCt n A S) (ha : ∀ k j, k < 2 ∨ k = 11 → A' k j = A k j) : pCt n A' S := by
  obtain ⟨h1, h2, h3, h4⟩ := h
  exact ⟨fun j hj => by rw [ha 0 j (by decide)]; exact h1 j hj, fun j hj => by rw [ha 1 j (by decide)]; exact h2 j hj, h3, fun k q hk hq => by rw [ha 11 _ (by decide)]; exact h4 k q hk hq⟩
theorem k5_setBase {l : Launch} {s0 : State} {D : va_G} {cy : Nat → ClassId} (hE : gE s0 D cy) (hl : l.stackTraces = false) {L : List Nat} {f : gF} {bk : Nat → Nat} {n : Nat} {X : Nat → va_E} {Is : Nat → Option iT} {PR PL : Nat → Nat} {S A : Nat → Nat → Int32} {I : Nat → Int32} (hR : RC cy bk n X Is PR PL S A I L f) (hB9 : rmB n I) (hC9 : pCt n A S) (x y z : Int32) : gX l s0 D yX5_setBase cX5_setBase 5 (some .int) 8 3 18 [.ref (bk 0), .int x, .int y, .int z] L f (uQ cy (bk 0) (fun b A1 I1 => ∃ w, cd3 (gin x 3 ∧ gin y 12) (gct z) w ∧ I1 = va_up I 27 (nI w) ∧ (w = 0 → ∃ i j, i < 3 ∧ j < 12 ∧ x = nI i ∧ y = nI j ∧ b = A 1 (12 * i + j) ∧ A1 = mU A 1 (12 * i + j) z) ∧ (w ≠ 0 → A1 = A))) (uX [xI, xA] A I (fun b A1 I1 => ∃ w, cd3 (gin x 3 ∧ gin y 12) (gct z) w ∧ I1 = va_up I 27 (nI w) ∧ (w = 0 → ∃ i j, i < 3 ∧ j < 12 ∧ x = nI i ∧ y = nI j ∧ b = A 1 (12 * i + j) ∧ A1 = mU A 1 (12 * i + j) z) ∧ (w ≠ 0 → A1 = A))) := by
  refine gX.of (own := RX5) hE hl (by decide +kernel) rfl rfl (Nat.le_of_ble_eq_true rfl) (fun p9 e9 s9 m9 a99 b99 t99 c9 C hr hno => ?_)
  refine G.weak (ls' := [some (.ref (bk 0)), some (.int x), some (.int y), some (.int z), none]) ?_ rfl (fun _ _ h => h)
  refine g_iload_n (n := 1) C dX5_setBase_0 rfl rfl ?_
  refine g_iconst (n := 2) (v := nI 3) C dX5_setBase_1 rfl rfl ?_
  refine g_SX (n := 5) (rest := []) C hno (k5_reqIndex hE hl x (N := 3) (by decide)) dX5_setBase_2 kM_X5_requireIndex kW_X5_51 kS_X5_requireIndex rfl rfl (Nat.le_of_ble_eq_true rfl) ⟨by decide, by decide⟩ ⟨by decide, by decide⟩ rfl (fun E h => by
      rcases h with ⟨rfl, h9⟩
      intro b A1 I1 hr
      obtain ⟨w, hw, hI, -, hf⟩ := hr
      have e9 : w = 1 := cd3_1 hw (fun z9 => h9 z9.1)
      subst e9
      exact ⟨1, by decide, by decide, by rw [hI]; rfl, rfl, hf (by decide), hI⟩) ⟨by decide, by decide⟩ (fun v9 L9 f9 hq => ?_)
  obtain ⟨rfl, ⟨i, hi, rfl⟩, rfl, rfl⟩ := hq
  refine G.sk (st' := []) rfl ?_
  refine g_iload_n (n := 6) C dX5_setBase_5 rfl rfl ?_
  refine g_bipush (n := 8) (v := nI 12) C dX5_setBase_6 rfl rfl ?_
  refine g_SX (n := 11) (rest := []) C hno (k5_reqIndex hE hl y (N := 12) (by decide)) dX5_setBase_8 kM_X5_requireIndex kW_X5_51 kS_X5_requireIndex rfl rfl (Nat.le_of_ble_eq_true rfl) ⟨by decide, by decide⟩ ⟨by decide, by decide⟩ rfl (fun E h => by
      rcases h with ⟨rfl, h9⟩
      intro b A1 I1 hr
      obtain ⟨w, hw, hI, -, hf⟩ := hr
      have e9 : w = 1 := cd3_1 hw (fun z9 => h9 z9.2)
      subst e9
      exact ⟨1, by decide, by decide, by rw [hI]; rfl, rfl, hf (by decide), hI⟩) ⟨by decide, by decide⟩ (fun v9 L9 f9 hq => ?_)
  obtain ⟨rfl, ⟨j, hj, rfl⟩, rfl, rfl⟩ := hq
  refine G.sk (st' := []) rfl ?_
  refine g_iload_n (n := 12) C dX5_setBase_11 rfl rfl ?_
  refine g_SX (n := 15) (rest := []) C hno (k5_reqContent hE hl z) dX5_setBase_12 kM_X5_requireContent kW_X5_55 kS_X5_requireContent rfl rfl (Nat.le_of_ble_eq_true rfl) ⟨by decide, by decide⟩ ⟨by decide, by decide⟩ rfl (fun E h => by
      rcases h with ⟨rfl, h9⟩
      intro b A1 I1 hr
      obtain ⟨w, hw, hI, -, hf⟩ := hr
      have e9 : w = 2 := cd3_2 hw ⟨⟨i, hi, rfl⟩, ⟨j, hj, rfl⟩⟩ h9
      subst e9
      exact ⟨2, by decide, by decide, by rw [hI]; rfl, rfl, hf (by decide), hI⟩) ⟨by decide, by decide⟩ (fun v9 L9 f9 hq => ?_)
  obtain ⟨rfl, hy, rfl, rfl⟩ := hq
  refine G.sk (st' := []) rfl ?_
  have hco := hR.co
  obtain ⟨r, hba, hbr⟩ := hR.ba
  obtain ⟨g, hgb, hg2⟩ := hR.br hi
  refine g_aload_n (n := 16) C dX5_setBase_15 rfl (Or.inr ⟨_, rfl⟩) rfl ?_
  refine g_get (n := 19) C dX5_setBase_16 kF_X5_15 (by assumption) rfl rfl ?_
  refine g_iload_n (n := 20) C dX5_setBase_19 rfl rfl ?_
  refine g_aald (n := 21) (t := 3) C dX5_setBase_20 rfl rfl (by assumption) rfl (by omega) (by decide) rfl ?_
  rw [hbr i hi]
  refine g_iload_n (n := 22) C dX5_setBase_21 rfl rfl ?_
  refine g_iald (n := 23) C dX5_setBase_22 hgb rfl (by omega) (by decide) rfl ?_
  refine g_istore (n := 25) (ls' := [_, _, _, _, _]) C dX5_setBase_23 rfl (by decide) rfl ?_
  refine g_aload_n (n := 26) C dX5_setBase_25 rfl (Or.inr ⟨_, rfl⟩) rfl ?_
  refine g_get (n := 29) C dX5_setBase_26 kF_X5_15 (by assumption) rfl rfl ?_
  refine g_iload_n (n := 30) C dX5_setBase_29 rfl rfl ?_
  refine g_aald (n := 31) (t := 3) C dX5_setBase_30 rfl rfl (by assumption) rfl (by omega) (by decide) rfl ?_
  rw [hbr i hi]
  refine g_iload_n (n := 32) C dX5_setBase_31 rfl rfl ?_
  refine g_iload_n (n := 33) C dX5_setBase_32 rfl rfl ?_
  refine g_iast (n := 34) C dX5_setBase_33 hgb rfl (by omega) (by decide) rfl ?_
  refine g_iload (n := 36) C dX5_setBase_34 rfl rfl ?_
  refine G.x ?_
  refine g_iret C hr dX5_setBase_36 ?_ ⟨by decide, by decide⟩
  intro b A1 I1 hr
  obtain ⟨w, hw, hI, h0, -⟩ := hr
  have e9 := cd3_0 hw ⟨⟨i, hi, rfl⟩, ⟨j, hj, rfl⟩⟩ hy
  subst e9
  obtain ⟨i2, j2, hi2, hj2, e1, e2, e3, e4⟩ := h0 rfl
  have e5 := gn_inj (by omega) (by omega) e1
  have e6 := gn_inj (by omega) (by omega) e2
  subst e5
  subst e6
  rw [hI, e3, e4, ← hg2 j hj]
  exact ⟨rfl, rfl, CW.rd (hR.setB hi hj (upd_mL hg2)) hB9 (hC9.c01 (by decide) hy)⟩
theorem k5_parentOf {l : Launch} {s0 : State} {D : va_G} {cy : Nat → ClassId} (hE : gE s0 D cy) (hl : l.stackTraces = false) {L : List Nat} {f : gF} {bk : Nat → Nat} {n : Nat} {X : Nat → va_E} {Is : Nat → Option iT} {PR PL : Nat → Nat} {S A : Nat → Nat → Int32} {I : Nat → Int32} (hR : RC cy bk n X Is PR PL S A I L f) (hB9 : rmB n I) (hC9 : pCt n A S) (x : Int32) : gX l s0 D yX5_parentOf cX5_parentOf 2 (some .int) 8 2 12 [.ref (bk 0), .int x] L f (uQ cy (bk 0) (fun b A1 I1 => ∃ w, cd2 (live A n x) w ∧ I1 = va_up I 27 (nI w) ∧ (w = 0 → A1 = A ∧ ∃ k, k < n ∧ x = nI k ∧ A 8 k = 0 ∧ b = A 9 k) ∧ (w ≠ 0 → A1 = A))) (uX [xI, xS] A I (fun b A1 I1 => ∃ w, cd2 (live A n x) w ∧ I1 = va_up I 27 (nI w) ∧ (w = 0 → A1 = A ∧ ∃ k, k < n ∧ x = nI k ∧ A 8 k = 0 ∧ b = A 9 k) ∧ (w ≠ 0 → A1 = A))) := by
  refine gX.of (own := RX5) hE hl (by decide +kernel) rfl rfl (Nat.le_of_ble_eq_true rfl) (fun p9 e9 s9 m9 a99 b99 t99 c9 C hr hno => ?_)
  refine G.weak (ls' := [some (.ref (bk 0)), some (.int x)]) ?_ rfl (fun _ _ h => h)
  refine g_aload_n (n := 1) C dX5_parentOf_0 rfl (Or.inr ⟨_, rfl⟩) rfl ?_
  refine g_iload_n (n := 2) C dX5_parentOf_1 rfl rfl ?_
  refine g_VX (n := 5) (rest := []) C hno (k5_layerAt hE hl hR x) dX5_parentOf_2 kM_X5_layerAt kW_X5_231 kV_X5_layerAt hR.co rfl rfl rfl (Nat.le_of_ble_eq_true rfl) ⟨by decide, by decide⟩ ⟨by decide, by decide⟩ rfl (fun E h => by
      rcases h with ⟨rfl, h9⟩
      intro b A1 I1 hr
      obtain ⟨w, hw, hI, -, hf⟩ := hr
      have e9 : w = 1 := cd2_1 hw h9
      subst e9
      exact ⟨1, by decide, by decide, by rw [hI]; rfl, rfl, hf (by decide), hI⟩) ⟨by decide, by decide⟩ (fun v9 L9 f9 hq => ?_)
  obtain ⟨⟨k, hk, rfl, h8, rfl⟩, rfl, rfl⟩ := hq
  refine G.sk (st' := [_]) rfl ?_
  obtain ⟨hI7, hn9, hPR, hSh, hPL, hPb, -⟩ := hR.nv
  obtain ⟨h, s, v, m, ip, hL, hh, hs, hv, q1, q2, q3, -⟩ := hR.lk hk
  refine g_get (n := 8) C dX5_parentOf_5 kF_X5_234 (by assumption) rfl rfl ?_
  refine g_S (n := 11) (rest := []) C (k5_numberOf hE hl (hR.nb (m := PR k) (by have := (hPR k hk).1; omega))) dX5_parentOf_8 kM_X5_numberOf kL_X5_162 kS_X5_numberOf rfl rfl (Nat.le_of_ble_eq_true rfl) ⟨by decide, by decide⟩ ⟨by decide, by decide⟩ rfl (fun v9 L9 f9 hq => ?_)
  obtain ⟨rfl, rfl, rfl⟩ := hq
  refine G.sk (st' := [_]) rfl ?_
  refine G.x ?_
  refine g_iret C hr dX5_parentOf_11 ?_ ⟨by decide, by decide⟩
  intro b A1 I1 hr
  obtain ⟨w, hw, hI, h0, -⟩ := hr
  have e9 := cd2_0 hw ⟨k, hk, rfl, h8⟩
  subst e9
  obtain ⟨e5, k2, hk2, e1, -, e2⟩ := h0 rfl
  have e4 := gn_inj (by omega) (by omega) e1
  subst e4
  rw [hI, e5, e2, (hPR k hk).2]
  exact ⟨rfl, rfl, CW.rd hR hB9 hC9⟩
theorem k5_sizeOf {l : Launch} {s0 : State} {D : va_G} {cy : Nat → ClassId} (hE : gE s0 D cy) (hl : l.stackTraces = false) {L : List Nat} {f : gF} {bk : Nat → Nat} {n : Nat} {X : Nat → va_E} {Is : Nat → Option iT} {PR PL : Nat → Nat} {S A : Nat → Nat → Int32} {I : Nat → Int32} (hR : RC cy bk n X Is PR PL S A I L f) (hB9 : rmB n I) (hC9 : pCt n A S) (x : Int32) : gX l s0 D yX5_sizeOf cX5_sizeOf 2 (some .int) 8 2 12 [.ref (bk 0), .int x] L f (uQ cy (bk 0) (fun b A1 I1 => ∃ w, cd2 (live A n x) w ∧ I1 = va_up I 27 (nI w) ∧ (w = 0 → A1 = A ∧ ∃ k, k < n ∧ x = nI k ∧ A 8 k = 0 ∧ b = nI (szN A k 12)) ∧ (w ≠ 0 → A1 = A))) (uX [xI, xS] A I (fun b A1 I1 => ∃ w, cd2 (live A n x) w ∧ I1 = va_up I 27 (nI w) ∧ (w = 0 → A1 = A ∧ ∃ k, k < n ∧ x = nI k ∧ A 8 k = 0 ∧ b = nI (szN A k 12)) ∧ (w ≠ 0 → A1 = A))) := by
  refine gX.of (own := RX5) hE hl (by decide +kernel) rfl rfl (Nat.le_of_ble_eq_true rfl) (fun p9 e9 s9 m9 a99 b99 t99 c9 C hr hno => ?_)
  refine G.weak (ls' := [some (.ref (bk 0)), some (.int x)]) ?_ rfl (fun _ _ h => h)
  refine g_aload_n (n := 1) C dX5_sizeOf_0 rfl (Or.inr ⟨_, rfl⟩) rfl ?_
  refine g_iload_n (n := 2) C dX5_sizeOf_1 rfl rfl ?_
  refine g_VX (n := 5) (rest := []) C hno (k5_layerAt hE hl hR x) dX5_sizeOf_2 kM_X5_layerAt kW_X5_231 kV_X5_layerAt hR.co rfl rfl rfl (Nat.le_of_ble_eq_true rfl) ⟨by decide, by decide⟩ ⟨by decide, by decide⟩ rfl (fun E h => by
      rcases h with ⟨rfl, h9⟩
      intro b A1 I1 hr
      obtain ⟨w, hw, hI, -, hf⟩ := hr
      have e9 : w = 1 := cd2_1 hw h9
      subst e9
      exact ⟨1, by decide, by decide, by rw [hI]; rfl, rfl, hf (by decide), hI⟩) ⟨by decide, by decide⟩ (fun v9 L9 f9 hq => ?_)
  obtain ⟨⟨k, hk, rfl, h8, rfl⟩, rfl, rfl⟩ := hq
  refine G.sk (st' := [_]) rfl ?_
  obtain ⟨hI7, hn9, hPR, hSh, hPL, hPb, -⟩ := hR.nv
  obtain ⟨h, s, v, m, ip, hL, hh, hs, hv, q1, q2, q3, -⟩ := hR.lk hk
  refine g_V (n := 8) (rest := []) C (k5_size hE hl hL hh hs hv) dX5_sizeOf_5 kM_X2_size kL_X5_237 kV_X2_size hL rfl rfl rfl (Nat.le_of_ble_eq_true rfl) ⟨by decide, by decide⟩ ⟨by decide, by decide⟩ rfl (fun v9 L9 f9 hq => ?_)
  obtain ⟨rfl, rfl, rfl⟩ := hq
  refine G.sk (st' := [_]) rfl ?_
  refine G.x ?_
  refine g_iret C hr dX5_sizeOf_8 ?_ ⟨by decide, by decide⟩
  intro b A1 I1 hr
  obtain ⟨w, hw, hI, h0, -⟩ := hr
  have e9 := cd2_0 hw ⟨k, hk, rfl, h8⟩
  subst e9
  obtain ⟨e5, k2, hk2, e1, -, e2⟩ := h0 rfl
  have e4 := gn_inj (by omega) (by omega) e1
  subst e4
  rw [hI, e5, e2, ← szF_N q1 12 (Nat.le_refl _)]
  exact ⟨rfl, rfl, CW.rd hR hB9 hC9⟩
theorem k5_depth {l : Launch} {s0 : State} {D : va_G} {cy : Nat → ClassId} (hE : gE s0 D cy) (hl : l.stackTraces = false) {L : List Nat} {f : gF} {bk : Nat → Nat} {n : Nat} {X : Nat → va_E} {Is : Nat → Option iT} {PR PL : Nat → Nat} {S A : Nat → Nat → Int32} {I : Nat → Int32} (hR : RC cy bk n X Is PR PL S A I L f) (hB9 : rmB n I) (hC9 : pCt n A S) (x : Int32) : gX l s0 D yX5_depth cX5_depth 2 (some .int) 8 2 12 [.ref (bk 0), .int x] L f (uQ cy (bk 0) (fun b A1 I1 => ∃ w, cd2 (live A n x) w ∧ I1 = va_up I 27 (nI w) ∧ (w = 0 → A1 = A ∧ ∃ k, k < n ∧ x = nI k ∧ A 8 k = 0 ∧ b = nI (PL k + 1)) ∧ (w ≠ 0 → A1 = A))) (uX [xI, xS] A I (fun b A1 I1 => ∃ w, cd2 (live A n x) w ∧ I1 = va_up I 27 (nI w) ∧ (w = 0 → A1 = A ∧ ∃ k, k < n ∧ x = nI k ∧ A 8 k = 0 ∧ b = nI (PL k + 1)) ∧ (w ≠ 0 → A1 = A))) := by
  refine gX.of (own := RX5) hE hl (by decide +kernel) rfl rfl (Nat.le_of_ble_eq_true rfl) (fun p9 e9 s9 m9 a99 b99 t99 c9 C hr hno => ?_)
  refine G.weak (ls' := [some (.ref (bk 0)), some (.int x)]) ?_ rfl (fun _ _ h => h)
  refine g_aload_n (n := 1) C dX5_depth_0 rfl (Or.inr ⟨_, rfl⟩) rfl ?_
  refine g_iload_n (n := 2) C dX5_depth_1 rfl rfl ?_
  refine g_VX (n := 5) (rest := []) C hno (k5_layerAt hE hl hR x) dX5_depth_2 kM_X5_layerAt kW_X5_231 kV_X5_layerAt hR.co rfl rfl rfl (Nat.le_of_ble_eq_true rfl) ⟨by decide, by decide⟩ ⟨by decide, by decide⟩ rfl (fun E h => by
      rcases h with ⟨rfl, h9⟩
      intro b A1 I1 hr
      obtain ⟨w, hw, hI, -, hf⟩ := hr
      have e9 : w = 1 := cd2_1 hw h9
      subst e9
      exact ⟨1, by decide, by decide, by rw [hI]; rfl, rfl, hf (by decide), hI⟩) ⟨by decide, by decide⟩ (fun v9 L9 f9 hq => ?_)
  obtain ⟨⟨k, hk, rfl, h8, rfl⟩, rfl, rfl⟩ := hq
  refine G.sk (st' := [_]) rfl ?_
  obtain ⟨hI7, hn9, hPR, hSh, hPL, hPb, -⟩ := hR.nv
  obtain ⟨h, s, v, m, ip, hL, hh, hs, hv, q1, q2, q3, -⟩ := hR.lk hk
  refine g_get (n := 8) C dX5_depth_5 kF_X5_192 (by assumption) rfl rfl ?_
  refine g_iconst (n := 9) (v := nI 1) C dX5_depth_8 rfl rfl ?_
  refine g_iaddN (n := 10) C dX5_depth_9 rfl ?_
  refine G.x ?_
  refine g_iret C hr dX5_depth_10 ?_ ⟨by decide, by decide⟩
  intro b A1 I1 hr
  obtain ⟨w, hw, hI, h0, -⟩ := hr
  have e9 := cd2_0 hw ⟨k, hk, rfl, h8⟩
  subst e9
  obtain ⟨e5, k2, hk2, e1, -, e2⟩ := h0 rfl
  have e4 := gn_inj (by omega) (by omega) e1
  subst e4
  rw [hI, e5, e2]
  exact ⟨rfl, rfl, CW.rd hR hB9 hC9⟩
theorem k5_digest {l : Launch} {s0 : State} {D : va_G} {cy : Nat → ClassId} (hE : gE s0 D cy) (hl : l.stackTraces = false) {L : List Nat} {f : gF} {bk : Nat → Nat} {n : Nat} {X : Nat → va_E} {Is : Nat → Option iT} {PR PL : Nat → Nat} {S A : Nat → Nat → Int32} {I : Nat → Int32} (hR : RC cy bk n X Is PR PL S A I L f) (hB9 : rmB n I) (hC9 : pCt n A S) (x : Int32) : gX l s0 D yX5_digest cX5_digest 2 (some .int) 8 2 12 [.ref (bk 0), .int x] L f (uQ cy (bk 0) (fun b A1 I1 => ∃ w, cd2 (live A n x) w ∧ I1 = va_up I 27 (nI w) ∧ (w = 0 → A1 = A ∧ ∃ k, k < n ∧ x = nI k ∧ A 8 k = 0 ∧ b = dgF (S k) 12) ∧ (w ≠ 0 → A1 = A))) (uX [xI, xS] A I (fun b A1 I1 => ∃ w, cd2 (live A n x) w ∧ I1 = va_up I 27 (nI w) ∧ (w = 0 → A1 = A ∧ ∃ k, k < n ∧ x = nI k ∧ A 8 k = 0 ∧ b = dgF (S k) 12) ∧ (w ≠ 0 → A1 = A))) := by
  refine gX.of (own := RX5) hE hl (by decide +kernel) rfl rfl (Nat.le_of_ble_eq_true rfl) (fun p9 e9 s9 m9 a99 b99 t99 c9 C hr hno => ?_)
  refine G.weak (ls' := [some (.ref (bk 0)), some (.int x)]) ?_ rfl (fun _ _ h => h)
  refine g_aload_n (n := 1) C dX5_digest_0 rfl (Or.inr ⟨_, rfl⟩) rfl ?_
  refine g_iload_n (n := 2) C dX5_digest_1 rfl rfl ?_
  refine g_VX (n := 5) (rest := []) C hno (k5_layerAt hE hl hR x) dX5_digest_2 kM_X5_layerAt kW_X5_231 kV_X5_layerAt hR.co rfl rfl rfl (Nat.le_of_ble_eq_true rfl) ⟨by decide, by decide⟩ ⟨by decide, by decide⟩ rfl (fun E h => by
      rcases h with ⟨rfl, h9⟩
      intro b A1 I1 hr
      obtain ⟨w, hw, hI, -, hf⟩ := hr
      have e9 : w = 1 := cd2_1 hw h9
      subst e9
      exact ⟨1, by decide, by decide, by rw [hI]; rfl, rfl, hf (by decide), hI⟩) ⟨by decide, by decide⟩ (fun v9 L9 f9 hq => ?_)
  obtain ⟨⟨k, hk, rfl, h8, rfl⟩, rfl, rfl⟩ := hq
  refine G.sk (st' := [_]) rfl ?_
  obtain ⟨hI7, hn9, hPR, hSh, hPL, hPb, -⟩ := hR.nv
  obtain ⟨h, s, v, m, ip, hL, hh, hs, hv, q1, q2, q3, -⟩ := hR.lk hk
  refine g_V (n := 8) (rest := []) C (k5_fingerprint hE hl hL hh hs hv) dX5_digest_5 kM_X2_fingerprint kL_X5_187 kV_X2_fingerprint hL rfl rfl rfl (Nat.le_of_ble_eq_true rfl) ⟨by decide, by decide⟩ ⟨by decide, by decide⟩ rfl (fun v9 L9 f9 hq => ?_)
  obtain ⟨rfl, rfl, rfl⟩ := hq
  refine G.sk (st' := [_]) rfl ?_
  refine G.x ?_
  refine g_iret C hr dX5_digest_8 ?_ ⟨by decide, by decide⟩
  intro b A1 I1 hr
  obtain ⟨w, hw, hI, h0, -⟩ := hr
  have e9 := cd2_0 hw ⟨k, hk, rfl, h8⟩
  subst e9
  obtain ⟨e5, k2, hk2, e1, -, e2⟩ := h0 rfl
  have e4 := gn_inj (by omega) (by omega) e1
  subst e4
  rw [hI, e5, e2, ← dgF_c q2 12 (Nat.le_refl _)]
  exact ⟨rfl, rfl, CW.rd hR hB9 hC9⟩
theorem k5_heldAt {l : Launch} {s0 : State} {D : va_G} {cy : Nat → ClassId} (hE : gE s0 D cy) (hl : l.stackTraces = false) {L : List Nat} {f : gF} {bk : Nat → Nat} {n : Nat} {X : Nat → va_E} {Is : Nat → Option iT} {PR PL : Nat → Nat} {S A : Nat → Nat → Int32} {I : Nat → Int32} (hR : RC cy bk n X Is PR PL S A I L f) (hB9 : rmB n I) (hC9 : pCt n A S) (x y : Int32) : gX l s0 D yX5_heldAt cX5_heldAt 4 (some .int) 8 3 18 [.ref (bk 0), .int x, .int y] L f (uQ cy (bk 0) (fun b A1 I1 => ∃ w, cd2 (live A n x ∧ gin y 12) w ∧ I1 = va_up I 27 (nI w) ∧ (w = 0 → A1 = A ∧ ∃ k q, k < n ∧ q < 12 ∧ x = nI k ∧ y = nI q ∧ A 8 k = 0 ∧ b = A 10 (12 * k + q)) ∧ (w ≠ 0 → A1 = A))) (uX [xI, xS] A I (fun b A1 I1 => ∃ w, cd2 (live A n x ∧ gin y 12) w ∧ I1 = va_up I 27 (nI w) ∧ (w = 0 → A1 = A ∧ ∃ k q, k < n ∧ q < 12 ∧ x = nI k ∧ y = nI q ∧ A 8 k = 0 ∧ b = A 10 (12 * k + q)) ∧ (w ≠ 0 → A1 = A))) := by
  refine gX.of (own := RX5) hE hl (by decide +kernel) rfl rfl (Nat.le_of_ble_eq_true rfl) (fun p9 e9 s9 m9 a99 b99 t99 c9 C hr hno => ?_)
  refine G.weak (ls' := [some (.ref (bk 0)), some (.int x), some (.int y), none]) ?_ rfl (fun _ _ h => h)
  refine g_aload_n (n := 1) C dX5_heldAt_0 rfl (Or.inr ⟨_, rfl⟩) rfl ?_
  refine g_iload_n (n := 2) C dX5_heldAt_1 rfl rfl ?_
  refine g_VX (n := 5) (rest := []) C hno (k5_layerAt hE hl hR x) dX5_heldAt_2 kM_X5_layerAt kW_X5_231 kV_X5_layerAt hR.co rfl rfl rfl (Nat.le_of_ble_eq_true rfl) ⟨by decide, by decide⟩ ⟨by decide, by decide⟩ rfl (fun E h => by
      rcases h with ⟨rfl, h9⟩
      intro b A1 I1 hr
      obtain ⟨w, hw, hI, -, hf⟩ := hr
      have e9 : w = 1 := cd2_1 hw (fun z9 => h9 z9.1)
      subst e9
      exact ⟨1, by decide, by decide, by rw [hI]; rfl, rfl, hf (by decide), hI⟩) ⟨by decide, by decide⟩ (fun v9 L9 f9 hq => ?_)
  obtain ⟨⟨k, hk, rfl, h8, rfl⟩, rfl, rfl⟩ := hq
  refine G.sk (st' := [_]) rfl ?_
  obtain ⟨hI7, hn9, hPR, hSh, hPL, hPb, -⟩ := hR.nv
  obtain ⟨h, s, v, m, ip, hL, hh, hs, hv, q1, q2, q3, -⟩ := hR.lk hk
  refine g_astore_n (n := 6) (ls' := [_, _, _, _]) C dX5_heldAt_5 (Or.inr ⟨_, rfl⟩) rfl (by decide) rfl ?_
  refine g_iload_n (n := 7) C dX5_heldAt_6 rfl rfl ?_
  refine g_bipush (n := 9) (v := nI 12) C dX5_heldAt_7 rfl rfl ?_
  refine g_SX (n := 12) (rest := []) C hno (k5_reqIndex hE hl y (N := 12) (by decide)) dX5_heldAt_9 kM_X5_requireIndex kW_X5_51 kS_X5_requireIndex rfl rfl (Nat.le_of_ble_eq_true rfl) ⟨by decide, by decide⟩ ⟨by decide, by decide⟩ rfl (fun E h => by
      rcases h with ⟨rfl, h9⟩
      intro b A1 I1 hr
      obtain ⟨w, hw, hI, -, hf⟩ := hr
      have e9 : w = 1 := cd2_1 hw (fun z9 => h9 z9.2)
      subst e9
      exact ⟨1, by decide, by decide, by rw [hI]; rfl, rfl, hf (by decide), hI⟩) ⟨by decide, by decide⟩ (fun v9 L9 f9 hq => ?_)
  obtain ⟨rfl, ⟨q, hq9, rfl⟩, rfl, rfl⟩ := hq
  refine G.sk (st' := []) rfl ?_
  refine g_aload_n (n := 13) C dX5_heldAt_12 rfl (Or.inr ⟨_, rfl⟩) rfl ?_
  refine g_iload_n (n := 14) C dX5_heldAt_13 rfl rfl ?_
  refine g_V (n := 17) (rest := []) C (k5_holds hE hl hL hh hs hv hq9) dX5_heldAt_14 kM_X2_holds kL_X5_240 kV_X2_holds hL rfl rfl rfl (Nat.le_of_ble_eq_true rfl) ⟨by decide, by decide⟩ ⟨by decide, by decide⟩ rfl (fun v9 L9 f9 hq => ?_)
  obtain ⟨rfl, rfl, rfl⟩ := hq
  refine G.sk (st' := [_]) rfl ?_
  refine G.x ?_
  refine g_iret C hr dX5_heldAt_17 ?_ ⟨by decide, by decide⟩
  intro b A1 I1 hr
  obtain ⟨w, hw, hI, h0, -⟩ := hr
  have e9 := cd2_0 hw ⟨⟨k, hk, rfl, h8⟩, ⟨q, hq9, rfl⟩⟩
  subst e9
  obtain ⟨e5, k2, r2, hk2, hr2, e1, e6, -, e2⟩ := h0 rfl
  have e4 := gn_inj (by omega) (by omega) e1
  subst e4
  have e7 := gn_inj (by omega) (by omega) e6
  subst e7
  rw [hI, e5, e2, ← q1 q hq9]
  exact ⟨rfl, rfl, CW.rd hR hB9 hC9⟩
theorem k5_shownAt {l : Launch} {s0 : State} {D : va_G} {cy : Nat → ClassId} (hE : gE s0 D cy) (hl : l.stackTraces = false) {L : List Nat} {f : gF} {bk : Nat → Nat} {n : Nat} {X : Nat → va_E} {Is : Nat → Option iT} {PR PL : Nat → Nat} {S A : Nat → Nat → Int32} {I : Nat → Int32} (hR : RC cy bk n X Is PR PL S A I L f) (hB9 : rmB n I) (hC9 : pCt n A S) (x y : Int32) : gX l s0 D yX5_shownAt cX5_shownAt 4 (some .int) 8 3 18 [.ref (bk 0), .int x, .int y] L f (uQ cy (bk 0) (fun b A1 I1 => ∃ w, cd2 (live A n x ∧ gin y 12) w ∧ I1 = va_up I 27 (nI w) ∧ (w = 0 → A1 = A ∧ ∃ k q, k < n ∧ q < 12 ∧ x = nI k ∧ y = nI q ∧ A 8 k = 0 ∧ b = S k q) ∧ (w ≠ 0 → A1 = A))) (uX [xI, xS] A I (fun b A1 I1 => ∃ w, cd2 (live A n x ∧ gin y 12) w ∧ I1 = va_up I 27 (nI w) ∧ (w = 0 → A1 = A ∧ ∃ k q, k < n ∧ q < 12 ∧ x = nI k ∧ y = nI q ∧ A 8 k = 0 ∧ b = S k q) ∧ (w ≠ 0 → A1 = A))) := by
  refine gX.of (own := RX5) hE hl (by decide +kernel) rfl rfl (Nat.le_of_ble_eq_true rfl) (fun p9 e9 s9 m9 a99 b99 t99 c9 C hr hno => ?_)
  refine G.weak (ls' := [some (.ref (bk 0)), some (.int x), some (.int y), none]) ?_ rfl (fun _ _ h => h)
  refine g_aload_n (n := 1) C dX5_shownAt_0 rfl (Or.inr ⟨_, rfl⟩) rfl ?_
  refine g_iload_n (n := 2) C dX5_shownAt_1 rfl rfl ?_
  refine g_VX (n := 5) (rest := []) C hno (k5_layerAt hE hl hR x) dX5_shownAt_2 kM_X5_layerAt kW_X5_231 kV_X5_layerAt hR.co rfl rfl rfl (Nat.le_of_ble_eq_true rfl) ⟨by decide, by decide⟩ ⟨by decide, by decide⟩ rfl (fun E h => by
      rcases h with ⟨rfl, h9⟩
      intro b A1 I1 hr
      obtain ⟨w, hw, hI, -, hf⟩ := hr
      have e9 : w = 1 := cd2_1 hw (fun z9 => h9 z9.1)
      subst e9
      exact ⟨1, by decide, by decide, by rw [hI]; rfl, rfl, hf (by decide), hI⟩) ⟨by decide, by decide⟩ (fun v9 L9 f9 hq => ?_)
  obtain ⟨⟨k, hk, rfl, h8, rfl⟩, rfl, rfl⟩ := hq
  refine G.sk (st' := [_]) rfl ?_
  obtain ⟨hI7, hn9, hPR, hSh, hPL, hPb, -⟩ := hR.nv
  obtain ⟨h, s, v, m, ip, hL, hh, hs, hv, q1, q2, q3, -⟩ := hR.lk hk
  refine g_astore_n (n := 6) (ls' := [_, _, _, _]) C dX5_shownAt_5 (Or.inr ⟨_, rfl⟩) rfl (by decide) rfl ?_
  refine g_iload_n (n := 7) C dX5_shownAt_6 rfl rfl ?_
  refine g_bipush (n := 9) (v := nI 12) C dX5_shownAt_7 rfl rfl ?_
  refine g_SX (n := 12) (rest := []) C hno (k5_reqIndex hE hl y (N := 12) (by decide)) dX5_shownAt_9 kM_X5_requireIndex kW_X5_51 kS_X5_requireIndex rfl rfl (Nat.le_of_ble_eq_true rfl) ⟨by decide, by decide⟩ ⟨by decide, by decide⟩ rfl (fun E h => by
      rcases h with ⟨rfl, h9⟩
      intro b A1 I1 hr
      obtain ⟨w, hw, hI, -, hf⟩ := hr
      have e9 : w = 1 := cd2_1 hw (fun z9 => h9 z9.2)
      subst e9
      exact ⟨1, by decide, by decide, by rw [hI]; rfl, rfl, hf (by decide), hI⟩) ⟨by decide, by decide⟩ (fun v9 L9 f9 hq => ?_)
  obtain ⟨rfl, ⟨q, hq9, rfl⟩, rfl, rfl⟩ := hq
  refine G.sk (st' := []) rfl ?_
  refine g_aload_n (n := 13) C dX5_shownAt_12 rfl (Or.inr ⟨_, rfl⟩) rfl ?_
  refine g_iload_n (n := 14) C dX5_shownAt_13 rfl rfl ?_
  refine g_V (n := 17) (rest := []) C (k5_shows hE hl hL hh hs hv hq9) dX5_shownAt_14 kM_X2_shows kL_X5_243 kV_X2_shows hL rfl rfl rfl (Nat.le_of_ble_eq_true rfl) ⟨by decide, by decide⟩ ⟨by decide, by decide⟩ rfl (fun v9 L9 f9 hq => ?_)
  obtain ⟨rfl, rfl, rfl⟩ := hq
  refine G.sk (st' := [_]) rfl ?_
  refine G.x ?_
  refine g_iret C hr dX5_shownAt_17 ?_ ⟨by decide, by decide⟩
  intro b A1 I1 hr
  obtain ⟨w, hw, hI, h0, -⟩ := hr
  have e9 := cd2_0 hw ⟨⟨k, hk, rfl, h8⟩, ⟨q, hq9, rfl⟩⟩
  subst e9
  obtain ⟨e5, k2, r2, hk2, hr2, e1, e6, -, e2⟩ := h0 rfl
  have e4 := gn_inj (by omega) (by omega) e1
  subst e4
  have e7 := gn_inj (by omega) (by omega) e6
  subst e7
  rw [hI, e5, e2, ← q2 q hq9]
  exact ⟨rfl, rfl, CW.rd hR hB9 hC9⟩
theorem k5_variable {l : Launch} {s0 : State} {D : va_G} {cy : Nat → ClassId} (hE : gE s0 D cy) (hl : l.stackTraces = false) {L : List Nat} {f : gF} {bk : Nat → Nat} {n : Nat} {X : Nat → va_E} {Is : Nat → Option iT} {PR PL : Nat → Nat} {S A : Nat → Nat → Int32} {I : Nat → Int32} (hR : RC cy bk n X Is PR PL S A I L f) (hB9 : rmB n I) (hC9 : pCt n A S) (x y : Int32) : gX l s0 D yX5_variable cX5_variable 4 (some .int) 8 3 18 [.ref (bk 0), .int x, .int y] L f (uQ cy (bk 0) (fun b A1 I1 => ∃ w, cd2 (live A n x ∧ gin y 4) w ∧ I1 = va_up I 27 (nI w) ∧ (w = 0 → A1 = A ∧ ∃ k q, k < n ∧ q < 4 ∧ x = nI k ∧ y = nI q ∧ A 8 k = 0 ∧ b = A 11 (4 * k + q)) ∧ (w ≠ 0 → A1 = A))) (uX [xI, xS] A I (fun b A1 I1 => ∃ w, cd2 (live A n x ∧ gin y 4) w ∧ I1 = va_up I 27 (nI w) ∧ (w = 0 → A1 = A ∧ ∃ k q, k < n ∧ q < 4 ∧ x = nI k ∧ y = nI q ∧ A 8 k = 0 ∧ b = A 11 (4 * k + q)) ∧ (w ≠ 0 → A1 = A))) := by
  refine gX.of (own := RX5) hE hl (by decide +kernel) rfl rfl (Nat.le_of_ble_eq_true rfl) (fun p9 e9 s9 m9 a99 b99 t99 c9 C hr hno => ?_)
  refine G.weak (ls' := [some (.ref (bk 0)), some (.int x), some (.int y), none]) ?_ rfl (fun _ _ h => h)
  refine g_aload_n (n := 1) C dX5_variable_0 rfl (Or.inr ⟨_, rfl⟩) rfl ?_
  refine g_iload_n (n := 2) C dX5_variable_1 rfl rfl ?_
  refine g_VX (n := 5) (rest := []) C hno (k5_layerAt hE hl hR x) dX5_variable_2 kM_X5_layerAt kW_X5_231 kV_X5_layerAt hR.co rfl rfl rfl (Nat.le_of_ble_eq_true rfl) ⟨by decide, by decide⟩ ⟨by decide, by decide⟩ rfl (fun E h => by
      rcases h with ⟨rfl, h9⟩
      intro b A1 I1 hr
      obtain ⟨w, hw, hI, -, hf⟩ := hr
      have e9 : w = 1 := cd2_1 hw (fun z9 => h9 z9.1)
      subst e9
      exact ⟨1, by decide, by decide, by rw [hI]; rfl, rfl, hf (by decide), hI⟩) ⟨by decide, by decide⟩ (fun v9 L9 f9 hq => ?_)
  obtain ⟨⟨k, hk, rfl, h8, rfl⟩, rfl, rfl⟩ := hq
  refine G.sk (st' := [_]) rfl ?_
  obtain ⟨hI7, hn9, hPR, hSh, hPL, hPb, -⟩ := hR.nv
  obtain ⟨h, s, v, m, ip, hL, hh, hs, hv, q1, q2, q3, -⟩ := hR.lk hk
  refine g_astore_n (n := 6) (ls' := [_, _, _, _]) C dX5_variable_5 (Or.inr ⟨_, rfl⟩) rfl (by decide) rfl ?_
  refine g_iload_n (n := 7) C dX5_variable_6 rfl rfl ?_
  refine g_iconst (n := 8) (v := nI 4) C dX5_variable_7 rfl rfl ?_
  refine g_SX (n := 11) (rest := []) C hno (k5_reqIndex hE hl y (N := 4) (by decide)) dX5_variable_8 kM_X5_requireIndex kW_X5_51 kS_X5_requireIndex rfl rfl (Nat.le_of_ble_eq_true rfl) ⟨by decide, by decide⟩ ⟨by decide, by decide⟩ rfl (fun E h => by
      rcases h with ⟨rfl, h9⟩
      intro b A1 I1 hr
      obtain ⟨w, hw, hI, -, hf⟩ := hr
      have e9 : w = 1 := cd2_1 hw (fun z9 => h9 z9.2)
      subst e9
      exact ⟨1, by decide, by decide, by rw [hI]; rfl, rfl, hf (by decide), hI⟩) ⟨by decide, by decide⟩ (fun v9 L9 f9 hq => ?_)
  obtain ⟨rfl, ⟨q, hq9, rfl⟩, rfl, rfl⟩ := hq
  refine G.sk (st' := []) rfl ?_
  refine g_aload_n (n := 12) C dX5_variable_11 rfl (Or.inr ⟨_, rfl⟩) rfl ?_
  refine g_iload_n (n := 13) C dX5_variable_12 rfl rfl ?_
  refine g_V (n := 16) (rest := []) C (k5_value hE hl hL hh hs hv hq9) dX5_variable_13 kM_X2_value kL_X5_246 kV_X2_value hL rfl rfl rfl (Nat.le_of_ble_eq_true rfl) ⟨by decide, by decide⟩ ⟨by decide, by decide⟩ rfl (fun v9 L9 f9 hq => ?_)
  obtain ⟨rfl, rfl, rfl⟩ := hq
  refine G.sk (st' := [_]) rfl ?_
  refine G.x ?_
  refine g_iret C hr dX5_variable_16 ?_ ⟨by decide, by decide⟩
  intro b A1 I1 hr
  obtain ⟨w, hw, hI, h0, -⟩ := hr
  have e9 := cd2_0 hw ⟨⟨k, hk, rfl, h8⟩, ⟨q, hq9, rfl⟩⟩
  subst e9
  obtain ⟨e5, k2, r2, hk2, hr2, e1, e6, -, e2⟩ := h0 rfl
  have e4 := gn_inj (by omega) (by omega) e1
  subst e4
  have e7 := gn_inj (by omega) (by omega) e6
  subst e7
  rw [hI, e5, e2, ← q3 q hq9]
  exact ⟨rfl, rfl, CW.rd hR hB9 hC9⟩
theorem k5_imageSize {l : Launch} {s0 : State} {D : va_G} {cy : Nat → ClassId} (hE : gE s0 D cy) (hl : l.stackTraces = false) {L : List Nat} {f : gF} {bk : Nat → Nat} {n : Nat} {X : Nat → va_E} {Is : Nat → Option iT} {PR PL : Nat → Nat} {S A : Nat → Nat → Int32} {I : Nat → Int32} (hR : RC cy bk n X Is PR PL S A I L f) (hB9 : rmB n I) (hC9 : pCt n A S) (x : Int32) : gX l s0 D yX5_imageSize cX5_imageSize 4 (some .int) 8 2 12 [.ref (bk 0), .int x] L f (uQ cy (bk 0) (fun b A1 I1 => ∃ w, cd2 (live A n x) w ∧ I1 = va_up I 27 (nI w) ∧ (w = 0 → A1 = A ∧ ∃ k, k < n ∧ x = nI k ∧ A 8 k = 0 ∧ b = nI (isT A PR (k + 1))) ∧ (w ≠ 0 → A1 = A))) (uX [xI, xS] A I (fun b A1 I1 => ∃ w, cd2 (live A n x) w ∧ I1 = va_up I 27 (nI w) ∧ (w = 0 → A1 = A ∧ ∃ k, k < n ∧ x = nI k ∧ A 8 k = 0 ∧ b = nI (isT A PR (k + 1))) ∧ (w ≠ 0 → A1 = A))) := by
  refine gX.of (own := RX5) hE hl (by decide +kernel) rfl rfl (Nat.le_of_ble_eq_true rfl) (fun p9 e9 s9 m9 a99 b99 t99 c9 C hr hno => ?_)
  refine G.weak (ls' := [some (.ref (bk 0)), some (.int x), none, none]) ?_ rfl (fun _ _ h => h)
  refine g_iconst (n := 1) (v := nI 0) C dX5_imageSize_0 rfl rfl ?_
  refine g_istore_n (n := 2) (ls' := [_, _, _, _]) C dX5_imageSize_1 rfl (by decide) rfl ?_
  refine g_aload_n (n := 3) C dX5_imageSize_2 rfl (Or.inr ⟨_, rfl⟩) rfl ?_
  refine g_iload_n (n := 4) C dX5_imageSize_3 rfl rfl ?_
  refine g_VX (n := 7) (rest := []) C hno (k5_layerAt hE hl hR x) dX5_imageSize_4 kM_X5_layerAt kW_X5_231 kV_X5_layerAt hR.co rfl rfl rfl (Nat.le_of_ble_eq_true rfl) ⟨by decide, by decide⟩ ⟨by decide, by decide⟩ rfl (fun E h => by
      rcases h with ⟨rfl, h9⟩
      intro b A1 I1 hr
      obtain ⟨w, hw, hI, -, hf⟩ := hr
      have e9 : w = 1 := cd2_1 hw h9
      subst e9
      exact ⟨1, by decide, by decide, by rw [hI]; rfl, rfl, hf (by decide), hI⟩) ⟨by decide, by decide⟩ (fun v9 L9 f9 hq => ?_)
  obtain ⟨⟨k, hk, rfl, h8, rfl⟩, rfl, rfl⟩ := hq
  refine G.sk (st' := [_]) rfl ?_
  obtain ⟨hI7, hn9, hPR, hSh, hPL, hPb, -⟩ := hR.nv
  refine g_astore_n (n := 8) (ls' := [_, _, _, _]) C dX5_imageSize_7 (Or.inr ⟨_, rfl⟩) rfl (by decide) rfl ?_
  refine g_loop (α := Nat × Nat) (fun y => y.1 ≤ n ∧ y.2 + isT A PR y.1 = isT A PR (k + 1)) (fun y => y.1) (fun _ => L) (fun _ => f) (fun _ => _) (fun _ => _) 8 (fun y => [some (.ref (bk 0)), some (.int (nI k)), some (.int (nI y.2)), some (va_rf (pR bk y.1))]) (fun _ => []) (fun y hy ih => ?_) (fun J => J (k + 1, 0) ⟨hk, Nat.zero_add _⟩)
  obtain ⟨m9, t9⟩ := y
  obtain ⟨hm, hv2⟩ := hy
  dsimp only at hm hv2 ih ⊢
  refine g_aload_n (n := 9) C dX5_imageSize_8 rfl (rf_or _) rfl ?_
  refine g_ifnull (n := 12) (tgt := 27) C dX5_imageSize_9 (by decide) rfl (fun h9 => ?_) (fun a9 h9 => ?_)
  · have e9 := pR_none h9
    subst e9
    have ht : t9 = isT A PR (k + 1) := hv2
    subst ht
    refine g_iload_n (n := 28) C dX5_imageSize_27 rfl rfl ?_
    refine G.x ?_
    refine g_iret C hr dX5_imageSize_28 ?_ ⟨by decide, by decide⟩
    intro b A1 I1 hr
    obtain ⟨w, hw, hI, h0, -⟩ := hr
    have e9 := cd2_0 hw ⟨k, hk, rfl, h8⟩
    subst e9
    obtain ⟨e5, k2, hk2, e1, -, e2⟩ := h0 rfl
    have e4 := gn_inj (by omega) (by omega) e1
    subst e4
    rw [hI, e5, e2]
    exact ⟨rfl, rfl, CW.rd hR hB9 hC9⟩
  · obtain ⟨j, rfl, rfl⟩ := pR_some h9
    rw [show pR bk (j + 1) = some (bk (100 + 4 * j)) from rfl]
    obtain ⟨h, s, v, m, ip, hL, hh, hs, hv, q1, -⟩ := hR.lk (k := j) hm
    refine g_iload_n (n := 13) C dX5_imageSize_12 rfl rfl ?_
    refine g_aload_n (n := 14) C dX5_imageSize_13 rfl (Or.inr ⟨_, rfl⟩) rfl ?_
    refine g_V (n := 17) (rest := [_]) C (k5_size hE hl hL hh hs hv) dX5_imageSize_14 kM_X2_size kL_X5_237 kV_X2_size hL rfl rfl rfl (Nat.le_of_ble_eq_true rfl) ⟨by decide, by decide⟩ ⟨by decide, by decide⟩ rfl (fun v9 L9 f9 hq => ?_)
    obtain ⟨rfl, rfl, rfl⟩ := hq
    refine G.sk (st' := [_, _]) rfl ?_
    refine g_iaddN (n := 18) C dX5_imageSize_17 rfl ?_
    refine g_istore_n (n := 19) (ls' := [_, _, _, _]) C dX5_imageSize_18 rfl (by decide) rfl ?_
    refine g_aload_n (n := 20) C dX5_imageSize_19 rfl (Or.inr ⟨_, rfl⟩) rfl ?_
    refine g_get (n := 23) C dX5_imageSize_20 kF_X5_234 (by assumption) rfl rfl ?_
    refine g_astore_n (n := 24) (ls' := [_, _, _, _]) C dX5_imageSize_23 (rf_or _) rfl (by decide) rfl ?_
    refine g_goto (tgt := 8) C dX5_imageSize_24 (by decide) ?_
    rw [szF_N q1 12 (Nat.le_refl _)]
    exact ih (PR j, t9 + szN A j 12) ⟨by have := (hPR j hm).1; show PR j ≤ n; omega, by rw [← hv2, isT_s (n := n) (fun k hk => (hPR k hk).1) hm, Nat.add_assoc]⟩ (by have := (hPR j hm).1; show PR j < j + 1; omega)
theorem k5_hits {l : Launch} {s0 : State} {D : va_G} {cy : Nat → ClassId} (hE : gE s0 D cy) (hl : l.stackTraces = false) {L : List Nat} {f : gF} {bk : Nat → Nat} {n : Nat} {X : Nat → va_E} {Is : Nat → Option iT} {PR PL : Nat → Nat} {S A : Nat → Nat → Int32} {I : Nat → Int32} (hR : RC cy bk n X Is PR PL S A I L f) (hB9 : rmB n I) (hC9 : pCt n A S) : gM l s0 D yX5_hits cX5_hits 1 (some .int) 1 0 0 [.ref (bk 0)] L f (uQ cy (bk 0) (fun b A1 I1 => b = I 25 ∧ A1 = A ∧ I1 = va_up I 27 (nI 0))) := by
  refine gM.of (own := RX5) hE hl (by decide +kernel) rfl rfl (Nat.le_of_ble_eq_true rfl) (fun p9 e9 s9 m9 a99 b99 t99 c9 C hr hnm => ?_)
  refine G.weak (ls' := [some (.ref (bk 0))]) ?_ rfl (fun _ _ h => h)
  refine g_aload_n (n := 1) C dX5_hits_0 rfl (Or.inr ⟨_, rfl⟩) rfl ?_
  refine g_get (n := 4) C dX5_hits_1 kF_X5_166 hR.co rfl rfl ?_
  refine g_iret C hr dX5_hits_4 ?_ ⟨by decide, by decide⟩
  intro b A1 I1 hr
  obtain ⟨e2, e5, hI⟩ := hr
  rw [hI, e5, e2]
  exact ⟨rfl, rfl, CW.rd hR hB9 hC9⟩
theorem k5_misses {l : Launch} {s0 : State} {D : va_G} {cy : Nat → ClassId} (hE : gE s0 D cy) (hl : l.stackTraces = false) {L : List Nat} {f : gF} {bk : Nat → Nat} {n : Nat} {X : Nat → va_E} {Is : Nat → Option iT} {PR PL : Nat → Nat} {S A : Nat → Nat → Int32} {I : Nat → Int32} (hR : RC cy bk n X Is PR PL S A I L f) (hB9 : rmB n I) (hC9 : pCt n A S) : gM l s0 D yX5_misses cX5_misses 1 (some .int) 1 0 0 [.ref (bk 0)] L f (uQ cy (bk 0) (fun b A1 I1 => b = I 26 ∧ A1 = A ∧ I1 = va_up I 27 (nI 0))) := by
  refine gM.of (own := RX5) hE hl (by decide +kernel) rfl rfl (Nat.le_of_ble_eq_true rfl) (fun p9 e9 s9 m9 a99 b99 t99 c9 C hr hnm => ?_)
  refine G.weak (ls' := [some (.ref (bk 0))]) ?_ rfl (fun _ _ h => h)
  refine g_aload_n (n := 1) C dX5_misses_0 rfl (Or.inr ⟨_, rfl⟩) rfl ?_
  refine g_get (n := 4) C dX5_misses_1 kF_X5_169 hR.co rfl rfl ?_
  refine g_iret C hr dX5_misses_4 ?_ ⟨by decide, by decide⟩
  intro b A1 I1 hr
  obtain ⟨e2, e5, hI⟩ := hr
  rw [hI, e5, e2]
  exact ⟨rfl, rfl, CW.rd hR hB9 hC9⟩
theorem k5_layers {l : Launch} {s0 : State} {D : va_G} {cy : Nat → ClassId} (hE : gE s0 D cy) (hl : l.stackTraces = false) {L : List Nat} {f : gF} {bk : Nat → Nat} {n : Nat} {X : Nat → va_E} {Is : Nat → Option iT} {PR PL : Nat → Nat} {S A : Nat → Nat → Int32} {I : Nat → Int32} (hR : RC cy bk n X Is PR PL S A I L f) (hB9 : rmB n I) (hC9 : pCt n A S) : gM l s0 D yX5_layers cX5_layers 1 (some .int) 1 0 0 [.ref (bk 0)] L f (uQ cy (bk 0) (fun b A1 I1 => b = I 7 ∧ A1 = A ∧ I1 = va_up I 27 (nI 0))) := by
  refine gM.of (own := RX5) hE hl (by decide +kernel) rfl rfl (Nat.le_of_ble_eq_true rfl) (fun p9 e9 s9 m9 a99 b99 t99 c9 C hr hnm => ?_)
  refine G.weak (ls' := [some (.ref (bk 0))]) ?_ rfl (fun _ _ h => h)
  have hco := hR.co
  obtain ⟨g, hso, -⟩ := hR.st
  refine g_aload_n (n := 1) C dX5_layers_0 rfl (Or.inr ⟨_, rfl⟩) rfl ?_
  refine g_get (n := 4) C dX5_layers_1 kF_X5_33 (by assumption) rfl rfl ?_
  refine g_get (n := 7) C dX5_layers_4 kF_X5_215 (by assumption) rfl rfl ?_
  refine g_iret C hr dX5_layers_7 ?_ ⟨by decide, by decide⟩
  intro b A1 I1 hr
  obtain ⟨e2, e5, hI⟩ := hr
  rw [hI, e5, e2, hR.nv.1]
  exact ⟨rfl, rfl, CW.rd hR hB9 hC9⟩
theorem k5_stepsLeft {l : Launch} {s0 : State} {D : va_G} {cy : Nat → ClassId} (hE : gE s0 D cy) (hl : l.stackTraces = false) {L : List Nat} {f : gF} {bk : Nat → Nat} {n : Nat} {X : Nat → va_E} {Is : Nat → Option iT} {PR PL : Nat → Nat} {S A : Nat → Nat → Int32} {I : Nat → Int32} (hR : RC cy bk n X Is PR PL S A I L f) (hB9 : rmB n I) (hC9 : pCt n A S) : gM l s0 D yX5_stepsLeft cX5_stepsLeft 1 (some .int) 2 0 0 [.ref (bk 0)] L f (uQ cy (bk 0) (fun b A1 I1 => b = slV I ∧ A1 = A ∧ I1 = va_up I 27 (nI 0))) := by
  refine gM.of (own := RX5) hE hl (by decide +kernel) rfl rfl (Nat.le_of_ble_eq_true rfl) (fun p9 e9 s9 m9 a99 b99 t99 c9 C hr hnm => ?_)
  refine G.weak (ls' := [some (.ref (bk 0))]) ?_ rfl (fun _ _ h => h)
  have hco := hR.co
  obtain ⟨t, c, ly, bs, g, ht9, hc9, hbo, hpl, hpr, hp1, hp2, hbu⟩ := hR.bu
  refine g_aload_n (n := 1) C dX5_stepsLeft_0 rfl (Or.inr ⟨_, rfl⟩) rfl ?_
  refine g_get (n := 4) C dX5_stepsLeft_1 kF_X5_40 (by assumption) rfl rfl ?_
  refine g_V (n := 7) (rest := []) C (k5_left hE hl hpl hpr hbo ht9 hc9) dX5_stepsLeft_4 kM_X0_left kL_X5_155 kV_X0_left (by assumption) rfl rfl rfl (Nat.le_of_ble_eq_true rfl) ⟨by decide, by decide⟩ ⟨by decide, by decide⟩ rfl (fun v9 L9 f9 hq => ?_)
  obtain ⟨rfl, rfl, rfl⟩ := hq
  refine G.sk (st' := [_]) rfl ?_
  refine g_iret C hr dX5_stepsLeft_7 ?_ ⟨by decide, by decide⟩
  intro b A1 I1 hr
  obtain ⟨e2, e5, hI⟩ := hr
  have e6 : slV I = nI (c - t) := by
    unfold slV
    rcases hbu with ⟨h1, -, h2, h3, -⟩ | ⟨h1, h2, -⟩
    · rw [if_pos (by rw [h1]; decide), h2, h3, gn_sub ht9]
    · rw [if_neg (fun z => z h1), h2, Nat.sub_self]; rfl
  rw [hI, e5, e2, e6]
  exact ⟨rfl, rfl, CW.rd hR hB9 hC9⟩
theorem k5_built {l : Launch} {s0 : State} {D : va_G} {cy : Nat → ClassId} (hE : gE s0 D cy) (hl : l.stackTraces = false) {L : List Nat} {f : gF} {bk : Nat → Nat} {n : Nat} {X : Nat → va_E} {Is : Nat → Option iT} {PR PL : Nat → Nat} {S A : Nat → Nat → Int32} {I : Nat → Int32} (hR : RC cy bk n X Is PR PL S A I L f) (hB9 : rmB n I) (hC9 : pCt n A S) : gM l s0 D yX5_built cX5_built 1 (some .int) 4 0 0 [.ref (bk 0)] L f (uQ cy (bk 0) (fun b A1 I1 => b = resV A I ∧ A1 = A ∧ I1 = va_up I 27 (nI 0))) := by
  refine gM.of (own := RX5) hE hl (by decide +kernel) rfl rfl (Nat.le_of_ble_eq_true rfl) (fun p9 e9 s9 m9 a99 b99 t99 c9 C hr hnm => ?_)
  refine G.weak (ls' := [some (.ref (bk 0))]) ?_ rfl (fun _ _ h => h)
  have hco := hR.co
  obtain ⟨t, c, ly, bs, g, ht9, hc9, hbo, hpl, hpr, hp1, hp2, hbu⟩ := hR.bu
  refine g_aload_n (n := 1) C dX5_built_0 rfl (Or.inr ⟨_, rfl⟩) rfl ?_
  refine g_get (n := 4) C dX5_built_1 kF_X5_40 (by assumption) rfl rfl ?_
  refine g_V (n := 7) (rest := []) C (k5_finished hE hl hpl hpr hbo ht9 hc9) dX5_built_4 kM_X0_finished kL_X5_158 kV_X0_finished (by assumption) rfl rfl rfl (Nat.le_of_ble_eq_true rfl) ⟨by decide, by decide⟩ ⟨by decide, by decide⟩ rfl (fun v9 L9 f9 hq => ?_)
  obtain ⟨rfl, rfl, rfl⟩ := hq
  have hfin := hR.fin hbu
  generalize (if t < c then none else ly) = o at hfin ⊢
  refine G.sk (st' := [_]) rfl ?_
  refine g_S (n := 10) (rest := []) C (k5_numberOf hE hl (x := resV A I) (hR.fiX (hfin.imp id (fun ⟨k, h1, h2, h3, h4, h5⟩ => ⟨k, h1, h4, h5⟩)))) dX5_built_7 kM_X5_numberOf kL_X5_162 kS_X5_numberOf rfl rfl (Nat.le_of_ble_eq_true rfl) ⟨by decide, by decide⟩ ⟨by decide, by decide⟩ rfl (fun v9 L9 f9 hq => ?_)
  obtain ⟨rfl, rfl, rfl⟩ := hq
  refine G.sk (st' := [_]) rfl ?_
  refine g_iret C hr dX5_built_10 ?_ ⟨by decide, by decide⟩
  intro b A1 I1 hr
  obtain ⟨e2, e5, hI⟩ := hr
  rw [hI, e5, e2]
  exact ⟨rfl, rfl, CW.rd hR hB9 hC9⟩
theorem k5_tagged {l : Launch} {s0 : State} {D : va_G} {cy : Nat → ClassId} (hE : gE s0 D cy) (hl : l.stackTraces = false) {L : List Nat} {f : gF} {bk : Nat → Nat} {n : Nat} {X : Nat → va_E} {Is : Nat → Option iT} {PR PL : Nat → Nat} {S A : Nat → Nat → Int32} {I : Nat → Int32} (hR : RC cy bk n X Is PR PL S A I L f) (hB9 : rmB n I) (hC9 : pCt n A S) (x : Int32) : gX l s0 D yX5_tagged cX5_tagged 2 (some .int) 8 2 12 [.ref (bk 0), .int x] L f (uQ cy (bk 0) (fun b A1 I1 => ∃ w, cd2 (gin x 5) w ∧ I1 = va_up I 27 (nI w) ∧ (w = 0 → A1 = A ∧ ∃ j, j < 5 ∧ x = nI j ∧ b = A 16 j) ∧ (w ≠ 0 → A1 = A))) (uX [xI, xS] A I (fun b A1 I1 => ∃ w, cd2 (gin x 5) w ∧ I1 = va_up I 27 (nI w) ∧ (w = 0 → A1 = A ∧ ∃ j, j < 5 ∧ x = nI j ∧ b = A 16 j) ∧ (w ≠ 0 → A1 = A))) := by
  refine gX.of (own := RX5) hE hl (by decide +kernel) rfl rfl (Nat.le_of_ble_eq_true rfl) (fun p9 e9 s9 m9 a99 b99 t99 c9 C hr hno => ?_)
  refine G.weak (ls' := [some (.ref (bk 0)), some (.int x)]) ?_ rfl (fun _ _ h => h)
  refine g_iload_n (n := 1) C dX5_tagged_0 rfl rfl ?_
  refine g_iconst (n := 2) (v := nI 5) C dX5_tagged_1 rfl rfl ?_
  refine g_SX (n := 5) (rest := []) C hno (k5_reqIndex hE hl x (N := 5) (by decide)) dX5_tagged_2 kM_X5_requireIndex kW_X5_51 kS_X5_requireIndex rfl rfl (Nat.le_of_ble_eq_true rfl) ⟨by decide, by decide⟩ ⟨by decide, by decide⟩ rfl (fun E h => by
      rcases h with ⟨rfl, h9⟩
      intro b A1 I1 hr
      obtain ⟨w, hw, hI, -, hf⟩ := hr
      have e9 : w = 1 := cd2_1 hw h9
      subst e9
      exact ⟨1, by decide, by decide, by rw [hI]; rfl, rfl, hf (by decide), hI⟩) ⟨by decide, by decide⟩ (fun v9 L9 f9 hq => ?_)
  obtain ⟨rfl, ⟨j, hj, rfl⟩, rfl, rfl⟩ := hq
  refine G.sk (st' := []) rfl ?_
  have hco := hR.co
  obtain ⟨g, hta, hg⟩ := hR.ta
  refine g_aload_n (n := 6) C dX5_tagged_5 rfl (Or.inr ⟨_, rfl⟩) rfl ?_
  refine g_get (n := 9) C dX5_tagged_6 kF_X5_26 (by assumption) rfl rfl ?_
  refine g_iload_n (n := 10) C dX5_tagged_9 rfl rfl ?_
  refine g_aald (n := 11) (t := 5) C dX5_tagged_10 rfl rfl (by assumption) rfl (by omega) (by decide) rfl ?_
  refine g_S (n := 14) (rest := []) C (k5_numberOf hE hl (x := A 16 j) (hR.fiX (hg j hj).w)) dX5_tagged_11 kM_X5_numberOf kL_X5_162 kS_X5_numberOf rfl rfl (Nat.le_of_ble_eq_true rfl) ⟨by decide, by decide⟩ ⟨by decide, by decide⟩ rfl (fun v9 L9 f9 hq => ?_)
  obtain ⟨rfl, rfl, rfl⟩ := hq
  refine G.sk (st' := [_]) rfl ?_
  refine G.x ?_
  refine g_iret C hr dX5_tagged_14 ?_ ⟨by decide, by decide⟩
  intro b A1 I1 hr
  obtain ⟨w, hw, hI, h0, -⟩ := hr
  have e9 := cd2_0 hw ⟨j, hj, rfl⟩
  subst e9
  obtain ⟨e5, j2, hj2, e1, e2⟩ := h0 rfl
  have e4 := gn_inj (by omega) (by omega) e1
  subst e4
  rw [hI, e5, e2]
  exact ⟨rfl, rfl, CW.rd hR hB9 hC9⟩
theorem k5_untag {l : Launch} {s0 : State} {D : va_G} {cy : Nat → ClassId} (hE : gE s0 D cy) (hl : l.stackTraces = false) {L : List Nat} {f : gF} {bk : Nat → Nat} {n : Nat} {X : Nat → va_E} {Is : Nat → Option iT} {PR PL : Nat → Nat} {S A : Nat → Nat → Int32} {I : Nat → Int32} (hR : RC cy bk n X Is PR PL S A I L f) (hB9 : rmB n I) (hC9 : pCt n A S) (x : Int32) : gX l s0 D yX5_untag cX5_untag 3 (some .int) 8 2 12 [.ref (bk 0), .int x] L f (uQ cy (bk 0) (fun b A1 I1 => ∃ w, cd2 (gin x 5) w ∧ I1 = va_up I 27 (nI w) ∧ (w = 0 → ∃ j, j < 5 ∧ x = nI j ∧ b = A 16 j ∧ A1 = mU A 16 j (-1)) ∧ (w ≠ 0 → A1 = A))) (uX [xI, xS] A I (fun b A1 I1 => ∃ w, cd2 (gin x 5) w ∧ I1 = va_up I 27 (nI w) ∧ (w = 0 → ∃ j, j < 5 ∧ x = nI j ∧ b = A 16 j ∧ A1 = mU A 16 j (-1)) ∧ (w ≠ 0 → A1 = A))) := by
  refine gX.of (own := RX5) hE hl (by decide +kernel) rfl rfl (Nat.le_of_ble_eq_true rfl) (fun p9 e9 s9 m9 a99 b99 t99 c9 C hr hno => ?_)
  refine G.weak (ls' := [some (.ref (bk 0)), some (.int x), none]) ?_ rfl (fun _ _ h => h)
  refine g_iload_n (n := 1) C dX5_untag_0 rfl rfl ?_
  refine g_iconst (n := 2) (v := nI 5) C dX5_untag_1 rfl rfl ?_
  refine g_SX (n := 5) (rest := []) C hno (k5_reqIndex hE hl x (N := 5) (by decide)) dX5_untag_2 kM_X5_requireIndex kW_X5_51 kS_X5_requireIndex rfl rfl (Nat.le_of_ble_eq_true rfl) ⟨by decide, by decide⟩ ⟨by decide, by decide⟩ rfl (fun E h => by
      rcases h with ⟨rfl, h9⟩
      intro b A1 I1 hr
      obtain ⟨w, hw, hI, -, hf⟩ := hr
      have e9 : w = 1 := cd2_1 hw h9
      subst e9
      exact ⟨1, by decide, by decide, by rw [hI]; rfl, rfl, hf (by decide), hI⟩) ⟨by decide, by decide⟩ (fun v9 L9 f9 hq => ?_)
  obtain ⟨rfl, ⟨j, hj, rfl⟩, rfl, rfl⟩ := hq
  refine G.sk (st' := []) rfl ?_
  have hco := hR.co
  obtain ⟨g, hta, hg⟩ := hR.ta
  refine g_aload_n (n := 6) C dX5_untag_5 rfl (Or.inr ⟨_, rfl⟩) rfl ?_
  refine g_get (n := 9) C dX5_untag_6 kF_X5_26 (by assumption) rfl rfl ?_
  refine g_iload_n (n := 10) C dX5_untag_9 rfl rfl ?_
  refine g_aald (n := 11) (t := 5) C dX5_untag_10 rfl rfl (by assumption) rfl (by omega) (by decide) rfl ?_
  refine g_S (n := 14) (rest := []) C (k5_numberOf hE hl (x := A 16 j) (hR.fiX (hg j hj).w)) dX5_untag_11 kM_X5_numberOf kL_X5_162 kS_X5_numberOf rfl rfl (Nat.le_of_ble_eq_true rfl) ⟨by decide, by decide⟩ ⟨by decide, by decide⟩ rfl (fun v9 L9 f9 hq => ?_)
  obtain ⟨rfl, rfl, rfl⟩ := hq
  refine G.sk (st' := [_]) rfl ?_
  refine g_istore_n (n := 15) (ls' := [_, _, _]) C dX5_untag_14 rfl (by decide) rfl ?_
  refine g_aload_n (n := 16) C dX5_untag_15 rfl (Or.inr ⟨_, rfl⟩) rfl ?_
  refine g_get (n := 19) C dX5_untag_16 kF_X5_26 (by assumption) rfl rfl ?_
  refine g_iload_n (n := 20) C dX5_untag_19 rfl rfl ?_
  refine g_aconst_null (n := 21) C dX5_untag_20 rfl ?_
  refine g_aastN (n := 22) (t := 5) C dX5_untag_21 rfl (by assumption) rfl (by omega) (by decide) rfl ?_
  refine g_iload_n (n := 23) C dX5_untag_22 rfl rfl ?_
  refine G.x ?_
  refine g_iret C hr dX5_untag_23 ?_ ⟨by decide, by decide⟩
  intro b A1 I1 hr
  obtain ⟨w, hw, hI, h0, -⟩ := hr
  have e9 := cd2_0 hw ⟨j, hj, rfl⟩
  subst e9
  obtain ⟨j2, hj2, e1, e2, e5⟩ := h0 rfl
  have e4 := gn_inj (by omega) (by omega) e1
  subst e4
  rw [hI, e5, e2]
  exact ⟨rfl, rfl, CW.rd (hR.setT hg rfl (Or.inl ⟨rfl, rfl⟩)) hB9 (hC9.cg (fun k j h => mU_r (by omega)))⟩
theorem k5_tag {l : Launch} {s0 : State} {D : va_G} {cy : Nat → ClassId} (hE : gE s0 D cy) (hl : l.stackTraces = false) {L : List Nat} {f : gF} {bk : Nat → Nat} {n : Nat} {X : Nat → va_E} {Is : Nat → Option iT} {PR PL : Nat → Nat} {S A : Nat → Nat → Int32} {I : Nat → Int32} (hR : RC cy bk n X Is PR PL S A I L f) (hB9 : rmB n I) (hC9 : pCt n A S) (x : Int32) : gX l s0 D yX5_tag cX5_tag 4 (some .int) 8 2 12 [.ref (bk 0), .int x] L f (uQ cy (bk 0) (fun b A1 I1 => ∃ w, cd3 (gin x 5) (resV A I ≠ -1) w ∧ I1 = va_up I 27 (nI w) ∧ (w = 0 → ∃ j, j < 5 ∧ x = nI j ∧ b = A 16 j ∧ A1 = mU A 16 j (I 24)) ∧ (w ≠ 0 → A1 = A))) (uX [xI, xS] A I (fun b A1 I1 => ∃ w, cd3 (gin x 5) (resV A I ≠ -1) w ∧ I1 = va_up I 27 (nI w) ∧ (w = 0 → ∃ j, j < 5 ∧ x = nI j ∧ b = A 16 j ∧ A1 = mU A 16 j (I 24)) ∧ (w ≠ 0 → A1 = A))) := by
  refine gX.of (own := RX5) hE hl (by decide +kernel) rfl rfl (Nat.le_of_ble_eq_true rfl) (fun p9 e9 s9 m9 a99 b99 t99 c9 C hr hno => ?_)
  refine G.weak (ls' := [some (.ref (bk 0)), some (.int x), none, none]) ?_ rfl (fun _ _ h => h)
  refine g_iload_n (n := 1) C dX5_tag_0 rfl rfl ?_
  refine g_iconst (n := 2) (v := nI 5) C dX5_tag_1 rfl rfl ?_
  refine g_SX (n := 5) (rest := []) C hno (k5_reqIndex hE hl x (N := 5) (by decide)) dX5_tag_2 kM_X5_requireIndex kW_X5_51 kS_X5_requireIndex rfl rfl (Nat.le_of_ble_eq_true rfl) ⟨by decide, by decide⟩ ⟨by decide, by decide⟩ rfl (fun E h => by
      rcases h with ⟨rfl, h9⟩
      intro b A1 I1 hr
      obtain ⟨w, hw, hI, -, hf⟩ := hr
      have e9 : w = 1 := cd3_1 hw h9
      subst e9
      exact ⟨1, by decide, by decide, by rw [hI]; rfl, rfl, hf (by decide), hI⟩) ⟨by decide, by decide⟩ (fun v9 L9 f9 hq => ?_)
  obtain ⟨rfl, ⟨j, hj, rfl⟩, rfl, rfl⟩ := hq
  refine G.sk (st' := []) rfl ?_
  have hco := hR.co
  obtain ⟨g, hta, hg⟩ := hR.ta
  obtain ⟨t, c, ly, bs, g9, ht9, hc9, hbo, hpl, hpr, hp1, hp2, hbu⟩ := hR.bu
  refine g_aload_n (n := 6) C dX5_tag_5 rfl (Or.inr ⟨_, rfl⟩) rfl ?_
  refine g_get (n := 9) C dX5_tag_6 kF_X5_40 (by assumption) rfl rfl ?_
  refine g_V (n := 12) (rest := []) C (k5_finished hE hl hpl hpr hbo ht9 hc9) dX5_tag_9 kM_X0_finished kL_X5_158 kV_X0_finished (by assumption) rfl rfl rfl (Nat.le_of_ble_eq_true rfl) ⟨by decide, by decide⟩ ⟨by decide, by decide⟩ rfl (fun v9 L9 f9 hq => ?_)
  obtain ⟨rfl, rfl, rfl⟩ := hq
  have hfin := hR.fin hbu
  generalize (if t < c then none else ly) = o at hfin ⊢
  refine G.sk (st' := [_]) rfl ?_
  refine g_astore_n (n := 13) (ls' := [_, _, _, _]) C dX5_tag_12 (rf_or _) rfl (by decide) rfl ?_
  refine g_aload_n (n := 14) C dX5_tag_13 rfl (rf_or _) rfl ?_
  refine g_ifnonnull (n := 17) (tgt := 27) C dX5_tag_14 (by decide) rfl (fun a14 h14 => ?_) (fun h14 => ?_)
  · obtain ⟨k, hk, h24, h8, h5, ho⟩ := hfin.resolve_left (fun z => nomatch h14.symm.trans z.1)
    obtain ⟨hh9, hs9, hv9, hm9, hi9, hL, -⟩ := hR.lk hk
    refine g_aload_n (n := 28) C dX5_tag_27 rfl (Or.inr ⟨_, rfl⟩) rfl ?_
    refine g_get (n := 31) C dX5_tag_28 kF_X5_26 (by assumption) rfl rfl ?_
    refine g_iload_n (n := 32) C dX5_tag_31 rfl rfl ?_
    refine g_aald (n := 33) (t := 5) C dX5_tag_32 rfl rfl (by assumption) rfl (by omega) (by decide) rfl ?_
    refine g_S (n := 36) (rest := []) C (k5_numberOf hE hl (x := A 16 j) (hR.fiX (hg j hj).w)) dX5_tag_33 kM_X5_numberOf kL_X5_162 kS_X5_numberOf rfl rfl (Nat.le_of_ble_eq_true rfl) ⟨by decide, by decide⟩ ⟨by decide, by decide⟩ rfl (fun v9 L9 f9 hq => ?_)
    obtain ⟨rfl, rfl, rfl⟩ := hq
    refine G.sk (st' := [_]) rfl ?_
    refine g_istore_n (n := 37) (ls' := [_, _, _, _]) C dX5_tag_36 rfl (by decide) rfl ?_
    refine g_aload_n (n := 38) C dX5_tag_37 rfl (Or.inr ⟨_, rfl⟩) rfl ?_
    refine g_get (n := 41) C dX5_tag_38 kF_X5_26 (by assumption) rfl rfl ?_
    refine g_iload_n (n := 42) C dX5_tag_41 rfl rfl ?_
    refine g_aload_n (n := 43) C dX5_tag_42 rfl (rf_or _) rfl ?_
    refine g_aastO (n := 44) (t := 5) (ci := 2) C dX5_tag_43 rfl rfl (by assumption) (fun v9 hv9 => by rw [ho] at hv9; cases hv9; exact ⟨_, hL⟩) rfl (by omega) (by decide) rfl ?_
    refine g_iload_n (n := 45) C dX5_tag_44 rfl rfl ?_
    refine G.x ?_
    refine g_iret C hr dX5_tag_45 ?_ ⟨by decide, by decide⟩
    intro b A1 I1 hr
    obtain ⟨w, hw, hI, h0, -⟩ := hr
    have e9 := cd3_0 hw ⟨j, hj, rfl⟩ (by rw [h5]; exact gn_ne1 (by have := hR.nv.2.1; omega))
    subst e9
    obtain ⟨j2, hj2, e1, e2, e5⟩ := h0 rfl
    have e4 := gn_inj (by omega) (by omega) e1
    subst e4
    rw [hI, e5, e2]
    exact ⟨rfl, rfl, CW.rd (hR.setT hg rfl (Or.inr ⟨k, hk, h24, h8, ho⟩)) hB9 (hC9.cg (fun k j h => mU_r (by omega)))⟩
  · have h5 := (hfin.resolve_right (fun ⟨k, _, _, _, _, z⟩ => nomatch h14.symm.trans z)).2
    exact g_throw (cls := xS) (text := "no build is complete, or its layer is gone") (names := xNm) C hno (by decide +kernel) xNm_ok (List.mem_of_getElem? (i := 307) (by decide +kernel)) (List.mem_of_getElem? (i := 59) (by decide +kernel)) (List.mem_of_getElem? (i := 603) (by decide +kernel)) hat_X5_118 dX5_tag_17 dX5_tag_20 dX5_tag_21 dX5_tag_23 dX5_tag_26 ⟨by decide, by decide, by decide, by decide⟩ (by
      intro b A1 I1 hr
      obtain ⟨w, hw, hI, -, hf⟩ := hr
      have e9 := cd3_2 hw ⟨j, hj, rfl⟩ (fun z => z h5)
      subst e9
      exact ⟨2, by decide, by decide, by rw [hI]; rfl, rfl, hf (by decide), hI⟩) ⟨by decide, by decide⟩

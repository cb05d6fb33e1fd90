/-! ===== the class, XIII: its contracts against the reference's relations ===== -/
def rmB (n : Nat) (I : Nat → Int32) : Prop := ∀ c t, I 17 = nI 1 → I 19 = nI c → I 20 = nI t → c ≤ 10 → t ≤ c → n + (c - t) ≤ 420
def CW (cy : Nat → ClassId) (co : Nat) (A : Nat → Nat → Int32) (I : Nat → Int32) (L : List Nat) (f : gF) : Prop := ∃ bk n X Is PR PL S, bk 0 = co ∧ RC cy bk n X Is PR PL S A I L f ∧ rmB n I ∧ pCt n A S
def exn (T : List String) (w : Nat) : String := T.getD (w - 1) ""
/-- whatever the reference may answer by Rl: the class answers so, and its world goes on as the reference's -/
def uQ (cy : Nat → ClassId) (co : Nat) (Rl : Int32 → (Nat → Nat → Int32) → (Nat → Int32) → Prop) : Option Value → List Nat → gF → Prop := fun v L1 f1 => ∀ b A1 I1, Rl b A1 I1 → I1 27 = nI 0 ∧ v = some (.int b) ∧ CW cy co A1 I1 L1 f1
def uX (T : List String) (A : Nat → Nat → Int32) (I : Nat → Int32) (Rl : Int32 → (Nat → Nat → Int32) → (Nat → Int32) → Prop) : String → Prop := fun E => ∀ b A1 I1, Rl b A1 I1 → ∃ w, 0 < w ∧ w ≤ T.length ∧ I1 27 = nI w ∧ E = exn T w ∧ A1 = A ∧ I1 = va_up I 27 (nI w)
theorem cd2_0 {P : Prop} {w : Nat} (h : cd2 P w) (p : P) : w = 0 := cd2_u h (Or.inr ⟨rfl, p⟩)
theorem cd2_1 {P : Prop} {w : Nat} (h : cd2 P w) (p : ¬ P) : w = 1 := cd2_u h (Or.inl ⟨rfl, p⟩)
theorem cd3_0 {P1 P2 : Prop} {w : Nat} (h : cd3 P1 P2 w) (p : P1) (q : P2) : w = 0 := cd3_u h (Or.inr (Or.inr ⟨rfl, p, q⟩))
theorem cd3_1 {P1 P2 : Prop} {w : Nat} (h : cd3 P1 P2 w) (p : ¬ P1) : w = 1 := cd3_u h (Or.inl ⟨rfl, p⟩)
theorem cd3_2 {P1 P2 : Prop} {w : Nat} (h : cd3 P1 P2 w) (p : P1) (q : ¬ P2) : w = 2 := cd3_u h (Or.inr (Or.inl ⟨rfl, p, q⟩))
theorem cd4_0 {P1 P2 P3 : Prop} {w : Nat} (h : cd4 P1 P2 P3 w) (p : P1) (q : P2) (r : P3) : w = 0 := cd4_u h (Or.inr (Or.inr (Or.inr ⟨rfl, p, q, r⟩)))
theorem cd4_1 {P1 P2 P3 : Prop} {w : Nat} (h : cd4 P1 P2 P3 w) (p : ¬ P1) : w = 1 := cd4_u h (Or.inl ⟨rfl, p⟩)
theorem cd4_2 {P1 P2 P3 : Prop} {w : Nat} (h : cd4 P1 P2 P3 w) (p : P1) (q : ¬ P2) : w = 2 := cd4_u h (Or.inr (Or.inl ⟨rfl, p, q⟩))
theorem cd4_3 {P1 P2 P3 : Prop} {w : Nat} (h : cd4 P1 P2 P3 w) (p : P1) (q : P2) (r : ¬ P3) : w = 3 := cd4_u h (Or.inr (Or.inr (Or.inl ⟨rfl, p, q, r⟩)))
theorem vShow.cg {n : Nat} {PR : Nat → Nat} {S A A' : Nat → Nat → Int32} (h : vShow A n PR S) (ha : ∀ k q, k < n → q < 12 → A' 10 (12 * k + q) = A 10 (12 * k + q)) : vShow A' n PR S := fun k q hk hq => by rw [ha k q hk hq]; exact h k q hk hq
theorem pIn.c {n : Nat} {A A' : Nat → Nat → Int32} {I I' : Nat → Int32} {PR PL : Nat → Nat} {S : Nat → Nat → Int32} (h : pIn n A I PR PL S) (h7 : I' 7 = I 7) (ha : ∀ k j, 8 ≤ k → k ≤ 10 → A' k j = A k j) : pIn n A' I' PR PL S := by
  obtain ⟨h1, h2, h3, h4, h5, h6, h9⟩ := h
  exact ⟨h7.trans h1, h2, fun k hk => ⟨(h3 k hk).1, by rw [ha 9 k (by decide) (by decide)]; exact (h3 k hk).2⟩, h4.cg (fun k q _ _ => ha 10 _ (by decide) (by decide)), h5, h6, fun k j hk h8 hp => by rw [ha 8 k (by decide) (by decide)] at h8; rw [ha 8 j (by decide) (by decide)]; exact h9 k j hk h8 hp⟩
/-- a change of cells below the layers: what stays -/
theorem pLs.c {cy : Nat → ClassId} {bk : Nat → Nat} {n : Nat} {X X' : Nat → va_E} {Is Is' : Nat → Option iT} {A A' : Nat → Nat → Int32} {PR PL : Nat → Nat} {S : Nat → Nat → Int32} (hl : ∀ k, k < n → pLk cy bk X Is A PR PL S k) (hp : vPar A n PR) (hx : ∀ j, 21 ≤ j → X' j = X j) (hi : ∀ v t, Is v = some t → Is' v = some t) (ha : ∀ k j, 9 ≤ k → k ≤ 15 → A' k j = A k j) : ∀ k, k < n → pLk cy bk X' Is' A' PR PL S k := fun k hk =>
  (hl k hk).c (hp k hk).1 (fun _ _ _ => rfl) (fun j h1 _ => hx j (by omega)) hi ⟨rfl, rfl, fun _ _ => rfl⟩ (fun q _ => ha 10 _ (by decide) (by decide)) (fun q _ => ha 11 _ (by decide) (by decide)) (fun r h1 h2 => ha r k (by omega) h2)
theorem RC.cg {cy : Nat → ClassId} {L : List Nat} {f : gF} {bk : Nat → Nat} {n : Nat} {X : Nat → va_E} {Is : Nat → Option iT} {PR PL : Nat → Nat} {S A : Nat → Nat → Int32} {I : Nat → Int32} (hR : RC cy bk n X Is PR PL S A I L f) {A' : Nat → Nat → Int32} {I' : Nat → Int32} (ha : ∀ k j, k < 28 → A' k j = A k j) (hi : ∀ k, k ≠ 27 → I' k = I k) : RC cy bk n X Is PR PL S A' I' L f := by
  obtain ⟨hP, hco, ⟨gf, hf1, hf2⟩, hba, hre, hta, hst, hbu, hlk, hin⟩ := hR
  exact ⟨hP, by unfold pCo; rw [hi 25 (by decide), hi 26 (by decide)]; exact hco, ⟨gf, hf1, fun q hq => (hf2 q hq).trans (ha 0 q (by decide)).symm⟩, hba.c (fun _ _ => rfl) (fun _ _ _ => rfl) (fun j _ => ha 1 j (by decide)), hre.c (fun _ _ => rfl) rfl (fun _ _ _ => rfl) (fun _ _ z => z) (fun k j _ h => ha k j (by omega)), hta.c rfl (Nat.le_refl n) (fun _ _ => rfl) (fun k _ => ha 8 k (by decide)) (fun i _ => ha 16 i (by decide)), hst.c rfl rfl (fun k _ => ha 8 k (by decide)), hbu.c (Nat.le_refl n) (fun _ _ => rfl) ⟨rfl, rfl, rfl⟩ (fun _ _ z => z) (fun k j _ h => ha k j (by omega)) (fun k _ => ha 8 k (by decide)) (fun _ _ => rfl) ⟨hi 17 (by decide), hi 18 (by decide), hi 19 (by decide), hi 20 (by decide), hi 24 (by decide)⟩, pLs.c hlk hin.2.2.1 (fun _ _ => rfl) (fun _ _ z => z) (fun k j _ h => ha k j (by omega)), hin.c (hi 7 (by decide)) (fun k j _ h => ha k j (by omega))⟩
theorem rmB.cg {n : Nat} {I I' : Nat → Int32} (h : rmB n I) (hi : ∀ k, k ≠ 27 → I' k = I k) : rmB n I' := fun c t h1 h2 h3 => h c t ((hi 17 (by decide)).symm.trans h1) ((hi 19 (by decide)).symm.trans h2) ((hi 20 (by decide)).symm.trans h3)
theorem i27 {I : Nat → Int32} {x : Int32} : ∀ k, k ≠ 27 → va_up I 27 x k = I k := fun _ h => va_up_ne _ _ h
/-- nothing changed but the code -/
theorem CW.rd {cy : Nat → ClassId} {L : List Nat} {f : gF} {bk : Nat → Nat} {n : Nat} {X : Nat → va_E} {Is : Nat → Option iT} {PR PL : Nat → Nat} {S A : Nat → Nat → Int32} {I : Nat → Int32} (hR : RC cy bk n X Is PR PL S A I L f) (hB9 : rmB n I) (hC9 : pCt n A S) {x : Int32} : CW cy (bk 0) A (va_up I 27 x) L f := ⟨bk, n, X, Is, PR, PL, S, rfl, hR.cg (fun _ _ _ => rfl) i27, hB9.cg i27, hC9⟩
theorem mU_r {A : Nat → Nat → Int32} {k j k1 j1 : Nat} {x : Int32} (h : k1 ≠ k) : mU A k j x k1 j1 = A k1 j1 := mU_k h
theorem upd_m0 {g : Nat → Int32} {A : Nat → Nat → Int32} {k i N : Nat} {x : Int32} (h : ∀ q, q < N → g q = A k q) : ∀ q, q < N → upd g i x q = mU A k i x k q := fun q hq => by
  unfold upd mU
  by_cases e : q = i
  · rw [if_pos e, if_pos ⟨rfl, e⟩]
  · rw [if_neg e, if_neg (fun z => e z.2)]; exact h q hq
theorem upd_mL {g : Nat → Int32} {A : Nat → Nat → Int32} {k i lo N : Nat} {x : Int32} (h : ∀ q, q < N → g q = A k (lo + q)) : ∀ q, q < N → upd g i x q = mU A k (lo + i) x k (lo + q) := fun q hq => by
  unfold upd mU
  by_cases e : q = i
  · rw [if_pos e, if_pos ⟨rfl, by omega⟩]
  · rw [if_neg e, if_neg (fun z => e (by have := z.2; omega))]; exact h q hq
theorem RC.setF {cy : Nat → ClassId} {L : List Nat} {f : gF} {bk : Nat → Nat} {n : Nat} {X : Nat → va_E} {Is : Nat → Option iT} {PR PL : Nat → Nat} {S A : Nat → Nat → Int32} {I : Nat → Int32} (hR : RC cy bk n X Is PR PL S A I L f) {g : Nat → Int32} {i : Nat} {x : Int32} (hg : ∀ q, q < 8 → g q = mU A 0 i x 0 q) : RC cy bk n (va_up X 1 (.inl (cy 0, 8, .inl g))) Is PR PL S (mU A 0 i x) I L (va_up f (bk 1) (.inl (cy 0, 8, .inl g))) := by
  obtain ⟨hP, hco, ⟨gf, hf1, hf2⟩, hba, hre, hta, hst, hbu, hlk, hin⟩ := hR
  exact ⟨hP.up (bv n (by decide)) _ (fun t => by rw [hf1]; exact fun z => by cases z), hco, ⟨g, va_up_self _ _ _, hg⟩, hba.c (fun _ _ => rfl) (fun j h1 _ => va_up_ne _ _ (by omega)) (fun j _ => mU_r (by decide)), hre.c (fun _ _ => rfl) rfl (fun j h1 _ => va_up_ne _ _ (by omega)) (fun _ _ z => z) (fun k j _ h => mU_r (by omega)), hta.c rfl (Nat.le_refl n) (fun _ _ => rfl) (fun k _ => mU_r (by decide)) (fun i _ => mU_r (by decide)), hst.c rfl rfl (fun k _ => mU_r (by decide)), hbu.c (Nat.le_refl n) (fun _ _ => rfl) ⟨rfl, rfl, rfl⟩ (fun _ _ z => z) (fun k j _ h => mU_r (by omega)) (fun k _ => mU_r (by decide)) (fun _ _ => rfl) ⟨rfl, rfl, rfl, rfl, rfl⟩, pLs.c hlk hin.2.2.1 (fun j h => va_up_ne _ _ (by omega)) (fun _ _ z => z) (fun k j h1 h => mU_r (by omega)), hin.c rfl (fun k j h1 h => mU_r (by omega))⟩
theorem RC.setB {cy : Nat → ClassId} {L : List Nat} {f : gF} {bk : Nat → Nat} {n : Nat} {X : Nat → va_E} {Is : Nat → Option iT} {PR PL : Nat → Nat} {S A : Nat → Nat → Int32} {I : Nat → Int32} (hR : RC cy bk n X Is PR PL S A I L f) {g : Nat → Int32} {b i : Nat} {x : Int32} (hb : b < 3) (hi : i < 12) (hg : ∀ q, q < 12 → g q = mU A 1 (12 * b + i) x 1 (12 * b + q)) : RC cy bk n (va_up X (3 + b) (.inl (cy 0, 12, .inl g))) Is PR PL S (mU A 1 (12 * b + i) x) I L (va_up f (bk (3 + b)) (.inl (cy 0, 12, .inl g))) := by
  obtain ⟨hP, hco, ⟨gf, hf1, hf2⟩, ⟨r, hb1, hb2, hb3⟩, hre, hta, hst, hbu, hlk, hin⟩ := hR
  refine ⟨hP.up (bv n (by omega)) _ (fun t => by obtain ⟨g9, e, -⟩ := hb3 b hb; rw [e]; exact fun z => by cases z), by unfold pCo; rw [va_up_ne _ _ (by omega)]; exact hco, ⟨gf, (va_up_ne _ _ (by omega)).trans hf1, fun q hq => (hf2 q hq).trans (mU_r (by decide)).symm⟩, ⟨r, (va_up_ne _ _ (by omega)).trans hb1, hb2, fun b2 hb4 => ?_⟩, hre.c (fun _ _ => rfl) (va_up_ne _ _ (by omega)) (fun j h1 _ => va_up_ne _ _ (by omega)) (fun _ _ z => z) (fun k j h1 h => mU_r (by omega)), hta.c (va_up_ne _ _ (by omega)) (Nat.le_refl n) (fun _ _ => rfl) (fun k _ => mU_r (by decide)) (fun i _ => mU_r (by decide)), hst.c (va_up_ne _ _ (by omega)) (va_up_ne _ _ (by omega)) (fun k _ => mU_r (by decide)), hbu.c (Nat.le_refl n) (fun _ _ => rfl) ⟨va_up_ne _ _ (by omega), va_up_ne _ _ (by omega), va_up_ne _ _ (by omega)⟩ (fun _ _ z => z) (fun k j _ h => mU_r (by omega)) (fun k _ => mU_r (by decide)) (fun _ _ => rfl) ⟨rfl, rfl, rfl, rfl, rfl⟩, pLs.c hlk hin.2.2.1 (fun j h => va_up_ne _ _ (by omega)) (fun _ _ z => z) (fun k j h1 h => mU_r (by omega)), hin.c rfl (fun k j h1 h => mU_r (by omega))⟩
  by_cases e : b2 = b
  · rw [e]
    exact ⟨g, va_up_self _ _ _, hg⟩
  · obtain ⟨g9, e1, e2⟩ := hb3 b2 hb4
    exact ⟨g9, (va_up_ne _ _ (by omega)).trans e1, fun q hq => (e2 q hq).trans (mU_j (by omega)).symm⟩
theorem pCt.c01 {n : Nat} {A S : Nat → Nat → Int32} (h : pCt n A S) {k j : Nat} {x : Int32} (hk : k < 8) (hx : gct x) : pCt n (mU A k j x) S := by
  obtain ⟨h1, h2, h3, h4⟩ := h
  have hu : ∀ r q, gct (A r q) → gct (mU A k j x r q) := by
    intro r q hq
    unfold mU
    split
    · exact hx
    · exact hq
  exact ⟨fun q hq => hu 0 q (h1 q hq), fun q hq => hu 1 q (h2 q hq), h3, fun r q hr hq => by rw [mU_r (by omega)]; exact h4 r q hr hq⟩
theorem k5_setFile {l : Launch} {s0 : State} {D : va_G} {cy : Nat → ClassId} (hE : gE s0 D cy) (hl : l.stackTraces = false) {L : List Nat} {f : gF} {bk : Nat → Nat} {n : Nat} {X : Nat → va_E} {Is : Nat → Option iT} {PR PL : Nat → Nat} {S A : Nat → Nat → Int32} {I : Nat → Int32} (hR : RC cy bk n X Is PR PL S A I L f) (hB9 : rmB n I) (hC9 : pCt n A S) (x y : Int32) : gX l s0 D yX5_setFile cX5_setFile 4 (some .int) 8 2 12 [.ref (bk 0), .int x, .int y] L f (uQ cy (bk 0) (fun b A1 I1 => ∃ w, cd3 (gin x 8) (gct y) w ∧ I1 = va_up I 27 (nI w) ∧ (w = 0 → ∃ j, j < 8 ∧ x = nI j ∧ b = A 0 j ∧ A1 = mU A 0 j y) ∧ (w ≠ 0 → A1 = A))) (uX [xI, xA] A I (fun b A1 I1 => ∃ w, cd3 (gin x 8) (gct y) w ∧ I1 = va_up I 27 (nI w) ∧ (w = 0 → ∃ j, j < 8 ∧ x = nI j ∧ b = A 0 j ∧ A1 = mU A 0 j y) ∧ (w ≠ 0 → A1 = A))) := by
  refine gX.of (own := RX5) hE hl (by decide +kernel) rfl rfl (Nat.le_of_ble_eq_true rfl) (fun p9 e9 s9 m9 a99 b99 t99 c9 C hr hno => ?_)
  refine G.weak (ls' := [some (.ref (bk 0)), some (.int x), some (.int y), none]) ?_ rfl (fun _ _ h => h)
  refine g_iload_n (n := 1) C dX5_setFile_0 rfl rfl ?_
  refine g_bipush (n := 3) (v := nI 8) C dX5_setFile_1 rfl rfl ?_
  refine g_SX (n := 6) (rest := []) C hno (k5_reqIndex hE hl x (N := 8) (by decide)) dX5_setFile_3 kM_X5_requireIndex kW_X5_51 kS_X5_requireIndex rfl rfl (Nat.le_of_ble_eq_true rfl) ⟨by decide, by decide⟩ ⟨by decide, by decide⟩ rfl (fun E h => by
      rcases h with ⟨rfl, h9⟩
      intro b A1 I1 hr
      obtain ⟨w, hw, hI, -, hf⟩ := hr
      have e9 : w = 1 := cd3_1 hw h9
      subst e9
      exact ⟨1, by decide, by decide, by rw [hI]; rfl, rfl, hf (by decide), hI⟩) ⟨by decide, by decide⟩ (fun v9 L9 f9 hq => ?_)
  obtain ⟨rfl, ⟨j, hj, rfl⟩, rfl, rfl⟩ := hq
  refine G.sk (st' := []) rfl ?_
  refine g_iload_n (n := 7) C dX5_setFile_6 rfl rfl ?_
  refine g_SX (n := 10) (rest := []) C hno (k5_reqContent hE hl y) dX5_setFile_7 kM_X5_requireContent kW_X5_55 kS_X5_requireContent rfl rfl (Nat.le_of_ble_eq_true rfl) ⟨by decide, by decide⟩ ⟨by decide, by decide⟩ rfl (fun E h => by
      rcases h with ⟨rfl, h9⟩
      intro b A1 I1 hr
      obtain ⟨w, hw, hI, -, hf⟩ := hr
      have e9 : w = 2 := cd3_2 hw ⟨j, hj, rfl⟩ h9
      subst e9
      exact ⟨2, by decide, by decide, by rw [hI]; rfl, rfl, hf (by decide), hI⟩) ⟨by decide, by decide⟩ (fun v9 L9 f9 hq => ?_)
  obtain ⟨rfl, hy, rfl, rfl⟩ := hq
  refine G.sk (st' := []) rfl ?_
  have hco := hR.co
  obtain ⟨g, hfi, hf2⟩ := hR.fi
  refine g_aload_n (n := 11) C dX5_setFile_10 rfl (Or.inr ⟨_, rfl⟩) rfl ?_
  refine g_get (n := 14) C dX5_setFile_11 kF_X5_9 (by assumption) rfl rfl ?_
  refine g_iload_n (n := 15) C dX5_setFile_14 rfl rfl ?_
  refine g_iald (n := 16) C dX5_setFile_15 (by assumption) rfl (by omega) (by decide) rfl ?_
  refine g_istore_n (n := 17) (ls' := [_, _, _, _]) C dX5_setFile_16 rfl (by decide) rfl ?_
  refine g_aload_n (n := 18) C dX5_setFile_17 rfl (Or.inr ⟨_, rfl⟩) rfl ?_
  refine g_get (n := 21) C dX5_setFile_18 kF_X5_9 (by assumption) rfl rfl ?_
  refine g_iload_n (n := 22) C dX5_setFile_21 rfl rfl ?_
  refine g_iload_n (n := 23) C dX5_setFile_22 rfl rfl ?_
  refine g_iast (n := 24) C dX5_setFile_23 (by assumption) rfl (by omega) (by decide) rfl ?_
  refine g_iload_n (n := 25) C dX5_setFile_24 rfl rfl ?_
  refine G.x ?_
  refine g_iret C hr dX5_setFile_25 ?_ ⟨by decide, by decide⟩
  intro b A1 I1 hr
  obtain ⟨w, hw, hI, h0, -⟩ := hr
  have e9 := cd3_0 hw ⟨j, hj, rfl⟩ hy
  subst e9
  obtain ⟨j2, hj2, e1, e2, e3⟩ := h0 rfl
  have e4 := gn_inj (by omega) (by omega) e1
  subst e4
  rw [hI, e2, e3, ← hf2 j hj]
  exact ⟨rfl, rfl, CW.rd (hR.setF (upd_m0 hf2)) hB9 (hC9.c01 (by decide) hy)⟩

/-! ===== the class, XXX: rebase ===== -/
/-- the same, but for the reference's arrays that no answer shows -/
def eqA (A B : Nat → Nat → Int32) : Prop := ∀ k j, k < 28 → A k j = B k j
theorem eqA_mU {A B : Nat → Nat → Int32} {k j : Nat} {x : Int32} (h : eqA A B) : eqA (mU A k j x) (mU B k j x) := fun k1 j1 h1 => by
  show (if k1 = k ∧ j1 = j then x else A k1 j1) = if k1 = k ∧ j1 = j then x else B k1 j1
  rw [h k1 j1 h1]
theorem eqA_upR {A B : Nat → Nat → Int32} {k lo len : Nat} {g g2 : Nat → Int32} (h : eqA A B) (hg : ∀ i, i < len → g i = g2 i) : eqA (upR A k lo len g) (upR B k lo len g2) := fun k1 j1 h1 => by
  show (if k1 = k ∧ lo ≤ j1 ∧ j1 < lo + len then g (j1 - lo) else A k1 j1) = if k1 = k ∧ lo ≤ j1 ∧ j1 < lo + len then g2 (j1 - lo) else B k1 j1
  by_cases e : k1 = k ∧ lo ≤ j1 ∧ j1 < lo + len
  · rw [if_pos e, if_pos e]; exact hg _ (by omega)
  · rw [if_neg e, if_neg e]; exact h k1 j1 h1
theorem eqA.mk {A B : Nat → Nat → Int32} {n m : Nat} (h : eqA A B) : eqA (mkA A n m) (mkA B n m) := by
  unfold mkA
  refine eqA_mU (eqA_mU (eqA_mU (eqA_upR (eqA_upR h (fun _ _ => rfl)) (fun v _ => ?_))))
  cases m with
  | zero => rfl
  | succ j => exact h 11 _ (by decide)
theorem eqA.rt {A B : Nat → Nat → Int32} {n b : Nat} (h : eqA A B) : eqA (rtA A n b) (rtA B n b) := eqA_upR h.mk (fun q _ => h 1 _ (by decide))
theorem eqA.sym {A B : Nat → Nat → Int32} (h : eqA A B) : eqA B A := fun k j hk => (h k j hk).symm
theorem rootP_c {A B : Nat → Nat → Int32} {b : Nat} (h : eqA A B) : rootP B b = rootP A b := by
  funext k
  unfold rootP
  rw [h 8 k (by decide), h 9 k (by decide)]
  refine propext ⟨fun z => ⟨z.1, fun q hq => ?_⟩, fun z => ⟨z.1, fun q hq => ?_⟩⟩
  · rw [h 10 _ (by decide), h 1 _ (by decide)]; exact z.2 q hq
  · rw [← h 10 _ (by decide), ← h 1 _ (by decide)]; exact z.2 q hq
theorem rootR_c {A B A1 A2 : Nat → Nat → Int32} {n b k1 n1 k2 n2 : Nat} (h : eqA A B) (h1 : rootR A n b k1 n1 A1) (h2 : rootR B n b k2 n2 A2) : k2 = k1 ∧ n2 = n1 ∧ eqA A1 A2 := by
  unfold rootR at h2
  rw [rootP_c h] at h2
  rcases h1 with ⟨a1, a2, a3⟩ | ⟨a1, a2, a3, a4⟩ <;> rcases h2 with ⟨b1, b2, b3⟩ | ⟨b1, b2, b3, b4⟩
  · have := lst_u a1 b1
    exact ⟨by omega, b2.trans a2.symm, by rw [a3, b3]; exact h⟩
  · have := lst_u a1 b1
    omega
  · have := lst_u a1 b1
    omega
  · exact ⟨b2.trans a2.symm, b3.trans a3.symm, by rw [a4, b4]; exact h.rt⟩
theorem rbA_c {A B S S2 : Nat → Nat → Int32} {n top o : Nat} (h : eqA A B) (hS : ∀ q, q < 12 → S top q = S2 top q) : eqA (rbA A n top o S) (rbA B n top o S2) := eqA_upR (eqA_upR h.mk (fun q hq => by rw [h 10 _ (by decide), hS q hq])) (fun v _ => h 11 _ (by decide))
theorem ancR_c {n : Nat} {PR PR1 : Nat → Nat} (h : ∀ k, k < n → PR1 k = PR k) (hp : ∀ k, k < n → PR k ≤ k) : ∀ u m k, m ≤ n → ancR PR1 u m k → ancR PR u m k ∧ k < m := by
  intro u
  induction u with
  | zero => intro m k _ z; exact z.elim
  | succ u ih =>
    intro m k hm z
    cases m with
    | zero => exact z.elim
    | succ j =>
      rcases z with rfl | z
      · exact ⟨Or.inl rfl, Nat.lt_succ_self _⟩
      · rw [h j hm] at z
        have h1 := hp j hm
        have h2 := ih (PR j) k (by omega) z
        exact ⟨Or.inr h2.1, by omega⟩
theorem rb_s {O : Nat → Nat → Prop} {u x n top o nf tf : Nat} {A A' S Af : Nat → Nat → Int32} {PR : Nat → Nat} (hn : n ≤ 420) (he : eqA A A') (hPR : vPar A n PR) (hSh : vShow A n PR S) (ht : top < n) (hO : ∀ o2, O x o2 → o2 = o) (h : rbR O (u + 1) x A' n top Af nf tf) : ∃ A2, eqA (rbA A n top o S) A2 ∧ rbR O u (x + 1) A2 (n + 1) n Af nf tf := by
  obtain ⟨o2, A2, h1, ⟨PR2, S2, p1, p2, rfl⟩, h3⟩ := h
  have e := hO o2 h1
  subst e
  have q1 : vPar A n PR2 := fun k hk => ⟨(p1 k hk).1, (he 9 k (by decide)).trans (p1 k hk).2⟩
  have q2 : vShow A n PR2 S2 := fun k q hk hq => by rw [he 10 _ (by decide)]; exact p2 k q hk hq
  exact ⟨_, rbA_c he (fun q hq => sh_u hn hPR q1 hSh q2 top ht q hq), h3⟩
theorem rbA_ex {A S : Nat → Nat → Int32} {n top o : Nat} : exA (mkA A n (top + 1)) (rbA A n top o S) n := by
  unfold rbA
  refine ⟨fun r i h => by rw [upR_k (by omega), upR_k (by omega)], fun i q hi hq => by rw [upR_k (by decide), upR_o (by omega)], fun i q hi hq => by rw [upR_o (by omega), upR_k (by decide)], fun r i h1 h2 hi => by rw [upR_k (by omega), upR_k (by omega)]⟩
theorem rbB_10 {A S : Nat → Nat → Int32} {n top o q : Nat} (hq : q < 12) : rbA A n top o S 10 (12 * n + q) = rbV (A 10 (12 * o + q)) (S top q) := by
  unfold rbA
  rw [upR_k (by decide), upR_i hq]
theorem rbB_11 {A S : Nat → Nat → Int32} {n top o q : Nat} (hq : q < 4) : rbA A n top o S 11 (4 * n + q) = A 11 (4 * o + q) := by
  unfold rbA
  rw [upR_i hq]
theorem rbB_12 {A S : Nat → Nat → Int32} {n top o r i : Nat} (h : r < 10 ∨ 11 < r) : rbA A n top o S r i = mkA A n (top + 1) r i := by
  unfold rbA
  rw [upR_k (by omega), upR_k (by omega)]
/-- what is held anew, and what is shown then -/
theorem rb_h {h5 s0 h0 : Nat → Int32} {a c : Int32} {q : Nat} (hq : q < 12) (e5 : h5 q = a) (es : s0 q = c) (e0 : h0 q = -1) : hlH h5 s0 h0 12 q = rbV a c := by
  subst e5
  subst es
  unfold hlH
  rw [pw_at hq, e0]
  unfold hlC rbV
  generalize h5 q = a
  generalize s0 q = c
  by_cases z : a = -2 ∧ c = -1
  · rw [if_pos z, if_neg (fun y => y.2 z)]
  · rw [if_neg z]
    by_cases y : a = -1
    · rw [if_neg (fun w => w.1 y), y]
    · rw [if_pos ⟨y, z⟩]
theorem rb_sh {h5 s0 : Nat → Int32} {a c : Int32} {q m : Nat} {S : Nat → Nat → Int32} (hq : q < 12) (e5 : h5 q = a) (es : s0 q = c) (hc : spr S q m = c) : hlS h5 s0 12 q = shw (rbV a c) m S q := by
  subst e5
  subst es
  unfold hlS
  rw [pw_at hq]
  unfold hlC rbV
  generalize h5 q = a
  generalize s0 q = c at hc ⊢
  by_cases z : a = -2 ∧ c = -1
  · rw [if_pos z, if_neg (fun y => y.2 z), shw_n1, hc]
  · rw [if_neg z]
    by_cases y : a = -1
    · rw [if_neg (fun w => w.1 y), y, shw_n1, hc]
    · rw [if_pos ⟨y, z⟩, shw_sv y]
theorem rb_ok {a c : Int32} {q m m2 : Nat} {S S2 : Nat → Nat → Int32} (h1 : cOK (shw a m2 S2 q)) (h2 : cOK (spr S q m)) : cOK (shw (rbV a c) m S q) := by
  by_cases y : rbV a c = -1
  · rw [y, shw_n1]; exact h2
  · have e : rbV a c = a := by
      unfold rbV at y ⊢
      by_cases z : a = -2 ∧ c = -1
      · rw [if_pos z] at y; exact absurd rfl y
      · rw [if_neg z]
    rw [e] at y ⊢
    rw [shw_sv y] at h1 ⊢
    exact h1
def rbL (A : Nat → Nat → Int32) (I : Nat → Int32) (n : Nat) (PR PL TG : Nat → Nat) (x y : Int32) : Int32 → (Nat → Nat → Int32) → (Nat → Int32) → Prop := fun b A1 I1 => ∃ w, cd3 (gin x 5 ∧ gin y 3) (sqC2 TG n x) w ∧ (w ≠ 0 → A1 = A ∧ I1 = va_up I 27 (nI w)) ∧ (w = 0 → ∃ i b1 k g k1 n1 A2 Ax nx top, i < 5 ∧ x = nI i ∧ y = nI b1 ∧ b1 < 3 ∧ TG i = k + 1 ∧ k < n ∧ n < 400 ∧ rootR (str A g) n b1 k1 n1 A2 ∧ rbR (oldAt n PR PL k) (PL k) 1 A2 n1 k1 Ax nx top ∧ b = nI top ∧ A1 = mU Ax 16 i (nI top) ∧ I1 = va_up (va_up I 27 (nI 0)) 7 (nI nx))
/-- what is left of a rebase -/
def rbT (R : Int32 → (Nat → Nat → Int32) → (Nat → Int32) → Prop) (O : Nat → Nat → Prop) (I : Nat → Int32) (i u z : Nat) (A : Nat → Nat → Int32) (n top : Nat) : Prop := ∀ b A1 I1, R b A1 I1 → ∃ A' Af nf tf, eqA A A' ∧ rbR O u z A' n top Af nf tf ∧ b = nI tf ∧ A1 = mU Af 16 i (nI tf) ∧ I1 = va_up (va_up I 27 (nI 0)) 7 (nI nf)
theorem rb_0 {A A1 : Nat → Nat → Int32} {I : Nat → Int32} {n i b k k1 n1 : Nat} {PR PL TG : Nat → Nat} (hi : i < 5) (hb : b < 3) (hT : TG i = k + 1) (h4 : n < 400) (hroot : rootR A n b k1 n1 A1) : rbT (rbL A I n PR PL TG (nI i) (nI b)) (oldAt n PR PL k) I i (PL k) 1 A1 n1 k1 := by
  intro b9 A3 I3 hr
  obtain ⟨w, hw, -, h0⟩ := hr
  have e9 := cd3_0 hw ⟨⟨i, hi, rfl⟩, ⟨b, hb, rfl⟩⟩ (sq_2 hi h4 (by omega))
  subst e9
  obtain ⟨i2, b2, k2, g2, k3, n3, A2, Ax, nx, top, hi2, f1, f2, f3, f4, f5, f6, hroot2, hrb, f7, f8, f9⟩ := h0 rfl
  have d1 := gn_inj (by omega) (by omega) f1
  subst d1
  have d2 := gn_inj (by omega) (by omega) f2
  subst d2
  have d3 : k2 = k := by omega
  subst d3
  obtain ⟨d4, d5, d6⟩ := rootR_c (A := A) (B := str A g2) (fun k j hk => (str_k (by omega)).symm) hroot hroot2
  subst d4
  subst d5
  exact ⟨A2, Ax, nx, top, d6, hrb, f7, f8, f9⟩
theorem rbT_s {R : Int32 → (Nat → Nat → Int32) → (Nat → Int32) → Prop} {O : Nat → Nat → Prop} {I : Nat → Int32} {i u z n top o : Nat} {A S : Nat → Nat → Int32} {PR : Nat → Nat} (h : rbT R O I i (u + 1) z A n top) (hn : n ≤ 420) (hPR : vPar A n PR) (hSh : vShow A n PR S) (ht : top < n) (hO : ∀ o2, O z o2 → o2 = o) : rbT R O I i u (z + 1) (rbA A n top o S) (n + 1) n := by
  intro b A1 I1 hr
  obtain ⟨A', Af, nf, tf, q1, q2, q3⟩ := h b A1 I1 hr
  obtain ⟨A2, r1, r2⟩ := rb_s hn q1 hPR hSh ht hO q2
  exact ⟨A2, Af, nf, tf, r1, r2, q3⟩
theorem k5_rebase {l : Launch} {s0 : State} {D : va_G} {cy : Nat → ClassId} (hE : gE s0 D cy) (hl : l.stackTraces = false) {L : List Nat} {f : gF} {bk : Nat → Nat} {n : Nat} {X : Nat → va_E} {Is : Nat → Option iT} {PR PL : Nat → Nat} {S A : Nat → Nat → Int32} {I : Nat → Int32} (hR : RC cy bk n X Is PR PL S A I L f) (hB9 : rmB n I) (hC9 : pCt n A S) {TG : Nat → Nat} (hTG : vTag A n TG) (x y : Int32) : gX l s0 D yX5_rebase cX5_rebase 6 (some .int) 8 47 414 [.ref (bk 0), .int x, .int y] L f (uQ cy (bk 0) (rbL A I n PR PL TG x y)) (uX [xI, xS] A I (rbL A I n PR PL TG x y)) := by
  refine gX.of (own := RX5) hE hl (by decide +kernel) rfl rfl (Nat.le_of_ble_eq_true rfl) (fun p9 e9 s9 m9 a99 b99 t99 c9 C hr hno => ?_)
  refine G.weak (ls' := [some (.ref (bk 0)), some (.int x), some (.int y), none, none, none]) ?_ rfl (fun _ _ h => h)
  refine g_iload_n (n := 1) C dX5_rebase_0 rfl rfl ?_
  refine g_iconst (n := 2) (v := nI 5) C dX5_rebase_1 rfl rfl ?_
  refine g_SX (n := 5) (rest := []) C hno (k5_reqIndex hE hl x (N := 5) (by decide)) dX5_rebase_2 kM_X5_requireIndex kW_X5_51 kS_X5_requireIndex rfl rfl (Nat.le_of_ble_eq_true rfl) ⟨by decide, by decide⟩ ⟨by decide, by decide⟩ rfl (fun E h => by
      rcases h with ⟨rfl, h9⟩
      intro b A1 I1 hr
      obtain ⟨w, hw, hf, -⟩ := hr
      have e9 : w = 1 := cd3_1 hw (fun z9 => h9 z9.1)
      subst e9
      obtain ⟨hA, hI⟩ := hf (by decide)
      exact ⟨1, by decide, by decide, by rw [hI]; rfl, rfl, hA, hI⟩) ⟨by decide, by decide⟩ (fun v9 L9 f9 hq => ?_)
  obtain ⟨rfl, ⟨i, hi, rfl⟩, rfl, rfl⟩ := hq
  refine G.sk (st' := []) rfl ?_
  refine g_iload_n (n := 6) C dX5_rebase_5 rfl rfl ?_
  refine g_iconst (n := 7) (v := nI 3) C dX5_rebase_6 rfl rfl ?_
  refine g_SX (n := 10) (rest := []) C hno (k5_reqIndex hE hl y (N := 3) (by decide)) dX5_rebase_7 kM_X5_requireIndex kW_X5_51 kS_X5_requireIndex rfl rfl (Nat.le_of_ble_eq_true rfl) ⟨by decide, by decide⟩ ⟨by decide, by decide⟩ rfl (fun E h => by
      rcases h with ⟨rfl, h9⟩
      intro b A1 I1 hr
      obtain ⟨w, hw, hf, -⟩ := hr
      have e9 : w = 1 := cd3_1 hw (fun z9 => h9 z9.2)
      subst e9
      obtain ⟨hA, hI⟩ := hf (by decide)
      exact ⟨1, by decide, by decide, by rw [hI]; rfl, rfl, hA, hI⟩) ⟨by decide, by decide⟩ (fun v9 L9 f9 hq => ?_)
  obtain ⟨rfl, ⟨b1, hb1, rfl⟩, rfl, rfl⟩ := hq
  refine G.sk (st' := []) rfl ?_
  have hco := hR.co
  obtain ⟨gt, hta, hgt⟩ := hR.ta
  obtain ⟨hI7, hn9, hPR, hSh, hPL, hPb, hLv⟩ := hR.nv
  obtain ⟨htg1, htg2⟩ := hR.tg hTG hgt hi
  have hTn := (hTG i hi).1
  refine g_aload_n (n := 11) C dX5_rebase_10 rfl (Or.inr ⟨_, rfl⟩) rfl ?_
  refine g_get (n := 14) C dX5_rebase_11 kF_X5_26 hco rfl rfl ?_
  refine g_iload_n (n := 15) C dX5_rebase_14 rfl rfl ?_
  refine g_aald (n := 16) (t := 5) C dX5_rebase_15 rfl rfl hta rfl (by omega) (by decide) rfl ?_
  rw [htg1]
  refine g_astore_n (n := 17) (ls' := [_, _, _, _, _, _]) C dX5_rebase_16 (rf_or _) rfl (by decide) rfl ?_
  refine g_aload_n (n := 18) C dX5_rebase_17 rfl (rf_or _) rfl ?_
  refine g_ifnonnull (n := 21) (tgt := 31) C dX5_rebase_18 (by decide) rfl (fun a18 h18 => ?_) (fun h18 => ?_)
  · obtain ⟨k, hTk, rfl⟩ := pR_some h18
    obtain ⟨hk, h8⟩ := htg2 k hTk
    have hPk := hPb k hk
    rw [hTk]
    rw [show pR bk (k + 1) = some (bk (100 + 4 * k)) from rfl]
    refine g_aload_n (n := 32) C dX5_rebase_31 rfl (Or.inr ⟨_, rfl⟩) rfl ?_
    refine g_VX (n := 35) (rest := []) C hno (k5_reqOpen hE hl hR) dX5_rebase_32 kM_X5_requireOpen kW_X5_89 kV_X5_requireOpen hco rfl rfl rfl (Nat.le_of_ble_eq_true rfl) ⟨by decide, by decide⟩ ⟨by decide, by decide⟩ rfl (fun E h => by
        rcases h with ⟨rfl, h9⟩
        intro b A1 I1 hr
        obtain ⟨w, hw, hf, -⟩ := hr
        have e9 : w = 2 := cd3_2 hw ⟨⟨i, hi, rfl⟩, ⟨b1, hb1, rfl⟩⟩ (fun z9 => h9 z9.1)
        subst e9
        obtain ⟨hA, hI⟩ := hf (by decide)
        exact ⟨2, by decide, by decide, by rw [hI]; rfl, rfl, hA, hI⟩) ⟨by decide, by decide⟩ (fun v9 L9 f9 hq => ?_)
    obtain ⟨rfl, h400, rfl, rfl⟩ := hq
    refine G.sk (st' := []) rfl ?_
    refine g_aload_n (n := 36) C dX5_rebase_35 rfl (Or.inr ⟨_, rfl⟩) rfl ?_
    refine g_iload_n (n := 37) C dX5_rebase_36 rfl rfl ?_
    refine g_V (n := 40) (rest := []) C (k5_rootFor hE hl hR hb1 (by omega) hC9) dX5_rebase_37 kM_X5_rootFor kL_X5_95 kV_X5_rootFor hco rfl rfl rfl (Nat.le_of_ble_eq_true rfl) ⟨by decide, by decide⟩ ⟨by decide, by decide⟩ rfl (fun v9 L9 f9 hq => ?_)
    obtain ⟨k1, n1, A1, bk1, X1, PR1, PL1, S1, rfl, hroot, hR1, hk1, h81, hp1, hC1, hn1, hn2, hex⟩ := hq
    refine G.sk (st' := [_]) rfl ?_
    refine g_astore (n := 42) (ls' := [_, _, _, _, _, _]) C dX5_rebase_40 (Or.inr ⟨_, rfl⟩) rfl (by decide) rfl ?_
    refine g_iconst (n := 43) (v := nI 1) C dX5_rebase_42 rfl rfl ?_
    refine g_istore (n := 45) (ls' := [_, _, _, _, _, _]) C dX5_rebase_43 rfl (by decide) rfl ?_
    refine g_loop (α := Nat × List Nat × gF × Nat) (fun z => z.1 ≤ PL k ∧ ∃ bkl nl Xl PRl PLl Sl Al top, z.2.2.2 = bkl (100 + 4 * top) ∧ RC cy bkl nl Xl Is PRl PLl Sl Al (va_up I 7 (nI nl)) z.2.1 z.2.2.1 ∧ top < nl ∧ Al 8 top = 0 ∧ PLl top = z.1 ∧ pCt nl Al Sl ∧ n ≤ nl ∧ nl ≤ n + (z.1 + 1) ∧ exG n bk PR PL S bkl PRl PLl Sl ∧ rbT (rbL A I n PR PL TG (nI i) (nI b1)) (oldAt n PR PL k) I i (PL k - z.1) (z.1 + 1) Al nl top) (fun z => PL k - z.1) (fun z => z.2.1) (fun z => z.2.2.1) (fun z => 7 + 4 * z.1) (fun z => 54 + 36 * z.1) 45 (fun z => [some (.ref (bk 0)), some (.int (nI i)), some (.int (nI b1)), some (.ref (bk (100 + 4 * k))), some (.ref z.2.2.2), some (.int (nI (z.1 + 1)))]) (fun _ => []) (fun z hz ih => ?_) (fun J => J (0, _, _, _) ⟨Nat.zero_le _, bk1, n1, X1, PR1, PL1, S1, A1, k1, rfl, hR1, hk1, h81, hp1, hC1, hn1, hn2, hex, rb_0 hi hb1 hTk h400 hroot⟩)
    obtain ⟨u, L, f, m4⟩ := z
    obtain ⟨hu9, bkl, nl, Xl, PRl, PLl, Sl, Al, top, rfl, hRl, htop, h8t, hPt, hCl, hnl, hnl2, hexl, hT⟩ := hz
    dsimp only at hu9 hRl hPt hnl2 hT ih ⊢
    have hco := hRl.co
    rw [hexl.1 0 (by omega)] at hco
    obtain ⟨hIl, hn9l, hPRl, hShl, hPLl, hPbl, hLvl⟩ := hRl.nv
    obtain ⟨gs, hso, -⟩ := hRl.st
    obtain ⟨hfk, sfk, vfk, mfk, ipk, hLk, -⟩ := hRl.lk (k := k) (by omega)
    rw [hexl.1 (100 + 4 * k) (by omega), (hexl.2 k hk).2.1] at hLk
    obtain ⟨gt3, hta3, hgt3⟩ := hRl.ta
    obtain ⟨hft, sft, vft, mft, ipt, hLt, -⟩ := hRl.lk htop
    refine g_iload (n := 47) C dX5_rebase_45 rfl rfl ?_
    refine g_aload_n (n := 48) C dX5_rebase_47 rfl (Or.inr ⟨_, rfl⟩) rfl ?_
    refine g_get (n := 51) C dX5_rebase_48 kF_X5_192 hLk rfl rfl ?_
    refine g_icmp_gt (n := 54) (tgt := 82) C dX5_rebase_51 (by decide) rfl (fun h51 => ?_) (fun h51 => ?_)
    · have h51 := (nI_ltI (by omega) (by omega)).mp h51
      refine g_aload_n (n := 83) C dX5_rebase_82 rfl (Or.inr ⟨_, rfl⟩) rfl ?_
      refine g_get (n := 86) C dX5_rebase_83 kF_X5_26 hco rfl rfl ?_
      refine g_iload_n (n := 87) C dX5_rebase_86 rfl rfl ?_
      refine g_aload (n := 89) C dX5_rebase_87 rfl (Or.inr ⟨_, rfl⟩) rfl ?_
      refine g_aast (n := 90) (t := 5) (ci := 2) C dX5_rebase_89 rfl rfl hta3 hLt rfl (by omega) (by decide) rfl ?_
      refine g_aload (n := 92) C dX5_rebase_90 rfl (Or.inr ⟨_, rfl⟩) rfl ?_
      refine g_get (n := 95) C dX5_rebase_92 kF_X5_103 (hLt.ne (gH.apart hLt hta3 (fun e => by cases e))) rfl rfl ?_
      refine G.x ?_
      refine g_iret C hr dX5_rebase_95 ?_ ⟨by omega, by omega⟩
      intro b A9 I9 hr
      obtain ⟨A', Af, nf, tf, he, hrb, f7, f8, f9⟩ := hT b A9 I9 hr
      have hu0 : PL k - u = 0 := by omega
      rw [hu0] at hrb
      obtain ⟨r1, r2, r3⟩ := hrb
      subst r1
      subst r2
      subst r3
      have hset := hRl.setT hgt3 rfl (i := i) (x := nI tf) (o := some (bkl (100 + 4 * tf))) (Or.inr ⟨tf, htop, rfl, h8t, rfl⟩)
      have hIx : ∀ r, r ≠ 27 → I9 r = va_up I 7 (nI nf) r := by
        intro r hr
        rw [f9]
        by_cases e : r = 7
        · rw [e, va_up_self, va_up_self]
        · rw [va_up_ne _ _ e, va_up_ne _ _ hr, va_up_ne _ _ e]
      have hfin := hset.cg (A' := A9) (fun r q hr => by rw [f8]; exact (eqA_mU he r q hr).symm) hIx
      refine ⟨by rw [f9]; rfl, by rw [f7], bkl, nf, _, Is, _, _, _, hexl.1 0 (by omega), hfin, fun c2 t2 z1 z2 z3 z4 z5 => by omega, hCl.cg (fun r q h => ?_)⟩
      rw [f8, mU_k (by omega)]
      exact (he r q (by omega)).symm
    · have h51 : ¬ PL k < u + 1 := fun q => h51 ((nI_ltI (by omega) (by omega)).mpr q)
      refine g_aload_n (n := 55) C dX5_rebase_54 rfl (Or.inr ⟨_, rfl⟩) rfl ?_
      refine g_get (n := 58) C dX5_rebase_55 kF_X5_33 hco rfl rfl ?_
      refine g_aload (n := 60) C dX5_rebase_58 rfl (Or.inr ⟨_, rfl⟩) rfl ?_
      refine g_V (n := 63) (rest := []) C (k5_newChild hE hl hRl htop (by omega) (by omega) h8t) dX5_rebase_60 kM_X4_newChild kL_X5_205 kV_X4_newChild hso rfl rfl rfl (Nat.le_of_ble_eq_true rfl) ⟨by decide, by decide⟩ ⟨by show 7 + 4 * u + 4 ≤ 47; omega, by show 54 + 36 * u + 36 ≤ 414; omega⟩ rfl (fun v9 L9 f9 hq => ?_)
      obtain ⟨bk2, X2, rfl, hR2, hex2⟩ := hq
      have hexT := hexl.tr hnl hex2
      obtain ⟨hfk2, sfk2, vfk2, mfk2, ipk2, hLk2, -⟩ := hR2.lk (k := k) (by omega)
      rw [hexT.1 (100 + 4 * k) (by omega)] at hLk2
      refine G.sk (st' := [_]) rfl ?_
      refine g_astore (n := 65) (ls' := [_, _, _, _, _, _]) C dX5_rebase_63 (Or.inr ⟨_, rfl⟩) rfl (by decide) rfl ?_
      refine g_aload (n := 67) C dX5_rebase_65 rfl (Or.inr ⟨_, rfl⟩) rfl ?_
      refine g_aload_n (n := 68) C dX5_rebase_67 rfl (Or.inr ⟨_, rfl⟩) rfl ?_
      refine g_iload (n := 70) C dX5_rebase_68 rfl rfl ?_
      refine g_V (n := 73) (rest := [_]) C (by have h9 := k5_partAt hE hl hR2 (k := k) (by omega) (z := u + 1) (by omega); rw [hexT.1 (100 + 4 * k) (by omega)] at h9; exact h9) dX5_rebase_70 kM_X2_partAt kL_X5_202 kV_X2_partAt hLk2 rfl rfl rfl (Nat.le_of_ble_eq_true rfl) ⟨by decide, by decide⟩ ⟨by show 7 + 4 * u + 4 + 0 ≤ 47; omega, by show 54 + 36 * u + 36 + 0 ≤ 414; omega⟩ rfl (fun v9 L9 f9 hq => ?_)
      obtain ⟨⟨j, hjn, rfl, hja0, hjz0⟩, rfl, rfl⟩ := hq
      have hpx : ∀ r, r < n → PRx PRl nl (top + 1) r = PR r := fun r hr => (hexT.2 r hr).1
      obtain ⟨hja, hjk⟩ := ancR_c hpx (fun r hr => (hPR r hr).1) (k + 1) (k + 1) j hk hja0
      have hjl : j < nl := by omega
      have hjz : PL j = u + 1 := by
        have e1 := (hexT.2 j (by omega)).2.1
        have e2 := (hexT.2 k hk).2.1
        rcases hjz0 with h | ⟨h, h2⟩
        · omega
        · subst h
          omega
      obtain ⟨h5, s5, v5, m5, ip5, hL5, hh5, hs5, hv5, p1, p2, p3, -⟩ := hR2.lk (k := j) (by omega)
      obtain ⟨h0, s0f, v0, m0, ip0, hL0, hh0, hs0, hv0, q1, q2, q3, hmk⟩ := hR2.lk (Nat.lt_succ_self nl)
      have ap : ∀ {r t i k2 : Nat}, r < 4 → t < 4 → i < nl + 1 → k2 < nl + 1 → 100 + r + 4 * i ≠ 100 + t + 4 * k2 → bk2 (100 + r + 4 * i) ≠ bk2 (100 + t + 4 * k2) := fun hr ht hi hk h => hR2.1.ap (bw hi hr) (bw hk ht) h
      refine G.sk (st' := [_, _]) rfl ?_
      refine g_V (n := 76) (rest := []) C (k5_holdLike hE hl hL0 hh0 hs0 hv0 hL5 hh5 hs5 hv5 (ap (r := 2) (t := 1) (i := nl) (k2 := nl) (by decide) (by decide) (by omega) (by omega) (by omega)) (ap (r := 1) (t := 1) (i := j) (k2 := nl) (by decide) (by decide) (by omega) (by omega) (by omega)) (ap (r := 2) (t := 2) (i := j) (k2 := nl) (by decide) (by decide) (by omega) (by omega) (by omega)) (ap (r := 1) (t := 2) (i := j) (k2 := nl) (by decide) (by decide) (by omega) (by omega) (by omega)) (ap (r := 2) (t := 1) (i := j) (k2 := nl) (by decide) (by decide) (by omega) (by omega) (by omega)) (ap (r := 3) (t := 3) (i := j) (k2 := nl) (by decide) (by decide) (by omega) (by omega) (by omega))) dX5_rebase_73 kM_X2_holdLike kL_X5_212 kV_X2_holdLike hL0 rfl rfl rfl (Nat.le_of_ble_eq_true rfl) ⟨by decide, by decide⟩ ⟨by show 7 + 4 * u + 4 + 0 + 0 ≤ 47; omega, by show 54 + 36 * u + 36 + 0 + 0 ≤ 414; omega⟩ rfl (fun v9 L9 f9 hq => ?_)
      obtain ⟨rfl, rfl, g9, rfl, hg9⟩ := hq
      have hsn : ∀ q, q < 12 → s0f q = Sl top q := fun q hq => by rw [q2 q hq, Sx_n, mkA_10n hq, shw_n1]; rfl
      have hhj : ∀ q, q < 12 → h5 q = Al 10 (12 * j + q) := fun q hq => by rw [p1 q hq, mkA_10 hjl hq]
      have hh0n : ∀ q, q < 12 → h0 q = -1 := fun q hq => by rw [q1 q hq, mkA_10n hq]
      have hsp : ∀ q, spr (Sx Sl nl (fun q => shw (mkA Al nl (top + 1) 10 (12 * nl + q)) (top + 1) Sl q)) q (top + 1) = spr Sl q (top + 1) := fun q => spr_x htop
      have hR3 := hR2.lay (k := nl) (A' := rbA Al nl top j Sl) rfl rbA_ex.1 rbA_ex.2.1 rbA_ex.2.2.1 rbA_ex.2.2.2 (H := hlH h5 s0f h0 12) (fun q hq => by rw [rbB_10 hq]; exact rb_h hq (hhj q hq) (hsn q hq) (hh0n q hq)) (S9 := hlS h5 s0f 12) (fun q hq => by rw [rbB_10 hq, PRx_n, shw_e (hsp q)]; exact rb_sh hq (hhj q hq) (hsn q hq) rfl) (V := g9) (fun q hq => by rw [rbB_11 hq, hg9 q hq, p3 q hq, mkA_11 hjl hq]) (m := m0) (ip := ip0) (hmk.c (fun _ _ z => z) (fun r h1 h2 => rbB_12 (Or.inr (by omega))))
      rw [upf_id hL0.2, up_up] at hR3
      refine G.sk (st' := []) rfl ?_
      refine g_iinc (n := 79) (ls' := [_, _, _, _, _, _]) C dX5_rebase_76 rfl (nI_1 _) rfl (by decide) rfl ?_
      refine g_goto (tgt := 45) C dX5_rebase_79 (by decide) ?_
      refine G.mono (ce' := 7 + 4 * (u + 1)) (sl' := 54 + 36 * (u + 1)) (by show 7 + 4 * u + 4 + 0 + 0 ≤ _; omega) (by show 54 + 36 * u + 36 + 0 + 0 ≤ _; omega) (ih (u + 1, _, _, _) ⟨by show u + 1 ≤ PL k; omega, bk2, nl + 1, _, _, _, _, rbA Al nl top j Sl, nl, rfl, hR3, Nat.lt_succ_self nl, (rbB_12 (Or.inl (by decide))).trans grA_mk.2.2.1, PRx_n.trans (by show PLl top + 1 = u + 1; omega), ?_, by omega, by show nl + 1 ≤ n + (u + 1 + 1); omega, ⟨hexT.1, fun r hr => ⟨(hexT.2 r hr).1, (hexT.2 r hr).2.1, fun q hq => (Sx_o (by omega)).trans ((hexT.2 r hr).2.2 q hq)⟩⟩, ?_⟩ (by show PL k - (u + 1) < PL k - u; omega))
      · obtain ⟨p1, p2, p3, p4⟩ := hCl
        refine ⟨fun j hj => by rw [rbB_12 (Or.inl (by decide)), mkA_k (by decide)]; exact p1 j hj, fun j hj => by rw [rbB_12 (Or.inl (by decide)), mkA_k (by decide)]; exact p2 j hj, fun r q hr hq => ?_, fun r q hr hq => ?_⟩
        · by_cases e : r = nl
          · rw [e, Sx_n, PRx_n, shw_e (hsp q), rbB_10 hq]
            refine rb_ok (m2 := PRl j) (S2 := Sl) ?_ (p3 top q htop hq)
            rw [← hShl j q hjl hq]
            exact p3 j q hjl hq
          · rw [Sx_o (by omega), Sx_o (by omega)]; exact p3 r q (by omega) hq
        · by_cases e : r = nl
          · rw [e, rbB_11 hq]; exact p4 j q hjl hq
          · rw [rbA_ex.2.2.1 r q (by omega) hq, mkA_11 (by omega) hq]; exact p4 r q (by omega) hq
      · refine rbT_s (PR := PRl) ?_ hn9l hPRl hShl htop (fun o2 ho2 => ?_)
        · show rbT _ _ I i (PL k - (u + 1) + 1) (u + 1) Al nl top
          rw [show PL k - (u + 1) + 1 = PL k - u by omega]
          exact hT
        · exact anc_u hPR hPL hk ho2.2.2 hja (ho2.2.1.trans hjz.symm)
  · have h0 := pR_none h18
    exact g_throw (cls := xS) (text := "the tag stands for no layer") (names := xNm) C hno (by decide +kernel) xNm_ok (List.mem_of_getElem? (i := 307) (by decide +kernel)) (List.mem_of_getElem? (i := 59) (by decide +kernel)) (List.mem_of_getElem? (i := 617) (by decide +kernel)) hat_X5_118 dX5_rebase_21 dX5_rebase_24 dX5_rebase_25 dX5_rebase_27 dX5_rebase_30 ⟨by decide, by decide, by decide, by decide⟩ (by
      intro b A1 I1 hr
      obtain ⟨w, hw, hf, -⟩ := hr
      have e9 := cd3_2 hw ⟨⟨i, hi, rfl⟩, ⟨b1, hb1, rfl⟩⟩ (sq_no hi h0)
      subst e9
      obtain ⟨hA, hI⟩ := hf (by decide)
      exact ⟨2, by decide, by decide, by rw [hI]; rfl, rfl, hA, hI⟩) ⟨by decide, by decide⟩

/-! ===== the class, XVIII: start ===== -/
/-- after a start: the world, whatever the code -/
def stQ (cy : Nat → ClassId) (bk : Nat → Nat) (n : Nat) (PR PL : Nat → Nat) (S A : Nat → Nat → Int32) (I : Nat → Int32) (i : Nat) : Option Value → List Nat → gF → Prop := fun v L1 f1 =>
  ∃ b0 m k1 n1 A2, A 2 i = nI b0 ∧ b0 < 3 ∧ A 3 i = nI m ∧ m ≤ 10 ∧ rootR A n b0 k1 n1 A2 ∧ n1 ≤ n + 1 ∧ v = some (.int (nI k1)) ∧
    ∀ I1, iV I1 n1 (nI (if m = 0 then 0 else 1)) (nI (if m = 0 then 1 else 0)) (nI m) (nI 0) (nI k1) (I 25) (I 26) →
      ∃ bk1 X1 Is1 PR1 PL1 S1, bk1 0 = bk 0 ∧ RC cy bk1 n1 X1 Is1 PR1 PL1 S1 (begA A2 A i m) I1 L1 f1 ∧ rmB n1 I1 ∧ pCt n1 (begA A2 A i m) S1 ∧ k1 < n1
theorem k5_start0 {l : Launch} {s0 : State} {D : va_G} {cy : Nat → ClassId} (hE : gE s0 D cy) (hl : l.stackTraces = false) {L : List Nat} {f : gF} {bk : Nat → Nat} {n : Nat} {X : Nat → va_E} {Is : Nat → Option iT} {PR PL : Nat → Nat} {S A : Nat → Nat → Int32} {I : Nat → Int32} (hR : RC cy bk n X Is PR PL S A I L f) (hB9 : rmB n I) (hC9 : pCt n A S) (x : Int32) : gX l s0 D yX5_start cX5_start 4 (some .int) 8 7 54 [.ref (bk 0), .int x] L f (fun v L1 f1 => ∃ i, i < 4 ∧ x = nI i ∧ (I 17 = 0 ∧ n < 400) ∧ stQ cy bk n PR PL S A I i v L1 f1) (fun E => (E = xI ∧ ¬ gin x 4) ∨ (E = xS ∧ gin x 4 ∧ ¬ (I 17 = 0 ∧ n < 400))) := by
  refine gX.of (own := RX5) hE hl (by decide +kernel) rfl rfl (Nat.le_of_ble_eq_true rfl) (fun p9 e9 s9 m9 a99 b99 t99 c9 C hr hno => ?_)
  refine G.weak (ls' := [some (.ref (bk 0)), some (.int x), none, none]) ?_ rfl (fun _ _ h => h)
  refine g_aload_n (n := 1) C dX5_start_0 rfl (Or.inr ⟨_, rfl⟩) rfl ?_
  refine g_iload_n (n := 2) C dX5_start_1 rfl rfl ?_
  refine g_VX (n := 5) (rest := []) C hno (k5_recipeAt hE hl hR x) dX5_start_2 kM_X5_recipeAt kW_X5_59 kV_X5_recipeAt hR.co rfl rfl rfl (Nat.le_of_ble_eq_true rfl) ⟨by decide, by decide⟩ ⟨by decide, by decide⟩ rfl (fun E h => Or.inl h) ⟨by decide, by decide⟩ (fun v9 L9 f9 hq => ?_)
  obtain ⟨⟨i, hi, rfl, rfl⟩, rfl, rfl⟩ := hq
  refine G.sk (st' := [_]) rfl ?_
  obtain ⟨c, b0, g, hc9, hb9, e3, e2, hro, hrw, hg1, hg2⟩ := hR.ri hi
  refine g_astore_n (n := 6) (ls' := [_, _, _, _]) C dX5_start_5 (Or.inr ⟨_, rfl⟩) rfl (by decide) rfl ?_
  refine g_aload_n (n := 7) C dX5_start_6 rfl (Or.inr ⟨_, rfl⟩) rfl ?_
  refine g_VX (n := 10) (rest := []) C hno (k5_reqNoBuild hE hl hR) dX5_start_7 kM_X5_requireNoBuild kW_X5_86 kV_X5_requireNoBuild hR.co rfl rfl rfl (Nat.le_of_ble_eq_true rfl) ⟨by decide, by decide⟩ ⟨by decide, by decide⟩ rfl (fun E h => Or.inr ⟨h.1, ⟨i, hi, rfl⟩, fun z9 => h.2 z9.1⟩) ⟨by decide, by decide⟩ (fun v9 L9 f9 hq => ?_)
  obtain ⟨rfl, h17, rfl, rfl⟩ := hq
  refine G.sk (st' := []) rfl ?_
  refine g_aload_n (n := 11) C dX5_start_10 rfl (Or.inr ⟨_, rfl⟩) rfl ?_
  refine g_VX (n := 14) (rest := []) C hno (k5_reqOpen hE hl hR) dX5_start_11 kM_X5_requireOpen kW_X5_89 kV_X5_requireOpen hR.co rfl rfl rfl (Nat.le_of_ble_eq_true rfl) ⟨by decide, by decide⟩ ⟨by decide, by decide⟩ rfl (fun E h => Or.inr ⟨h.1, ⟨i, hi, rfl⟩, fun z9 => h.2 z9.2⟩) ⟨by decide, by decide⟩ (fun v9 L9 f9 hq => ?_)
  obtain ⟨rfl, h400, rfl, rfl⟩ := hq
  refine G.sk (st' := []) rfl ?_
  refine g_aload_n (n := 15) C dX5_start_14 rfl (Or.inr ⟨_, rfl⟩) rfl ?_
  refine g_aload_n (n := 16) C dX5_start_15 rfl (Or.inr ⟨_, rfl⟩) rfl ?_
  refine g_get (n := 19) C dX5_start_16 kF_X5_92 (by assumption) rfl rfl ?_
  refine g_V (n := 22) (rest := []) C (k5_rootFor hE hl hR hb9 (by omega) hC9) dX5_start_19 kM_X5_rootFor kL_X5_95 kV_X5_rootFor hR.co rfl rfl rfl (Nat.le_of_ble_eq_true rfl) ⟨by decide, by decide⟩ ⟨by decide, by decide⟩ rfl (fun v9 L9 f9 hq => ?_)
  obtain ⟨k1, n1, A2, bk1, X1, PR1, PL1, S1, rfl, hroot, hR1, hk1, h81, hp1, hC1, hn1, hn2, hex⟩ := hq
  have hco1 := hR1.co
  rw [hex.1 0 (by omega)] at hco1
  clear hro hrw hg1 hg2
  obtain ⟨c1, b1, g1, hc1, hb1, e31, e21, hro, hrw, hg1, hg2⟩ := hR1.ri hi
  have hrr := hR1.1.ap (i := 11 + 2 * i) (j := 19) (bv n1 (by omega)) (bv n1 (by decide)) (by omega)
  have hww := hR1.1.ap (i := 11 + 2 * i + 1) (j := 20) (bv n1 (by omega)) (bv n1 (by decide)) (by omega)
  rw [hex.1 (11 + 2 * i) (by omega)] at hro hrr
  have e3r : A2 3 i = A 3 i := rootR_k hroot (by decide) (by decide) (by decide) (by decide) (by decide)
  have ec := gn_inj (by omega) (by omega) ((e31.symm.trans e3r).trans e3)
  subst ec
  obtain ⟨t9, c9b, ly9, bs9, g9, ht9, hc9b, hbo, hpl, hpr, hp19, hp29, hbu⟩ := hR1.bu
  obtain ⟨hf, sf, vf, mf, ipf, hL, -⟩ := hR1.lk hk1
  refine G.sk (st' := [_]) rfl ?_
  refine g_astore_n (n := 23) (ls' := [_, _, _, _]) C dX5_start_22 (Or.inr ⟨_, rfl⟩) rfl (by decide) rfl ?_
  refine g_aload_n (n := 24) C dX5_start_23 rfl (Or.inr ⟨_, rfl⟩) rfl ?_
  refine g_get (n := 27) C dX5_start_24 kF_X5_40 hco1 rfl rfl ?_
  refine g_aload_n (n := 28) C dX5_start_27 rfl (Or.inr ⟨_, rfl⟩) rfl ?_
  refine g_aload_n (n := 29) C dX5_start_28 rfl (Or.inr ⟨_, rfl⟩) rfl ?_
  refine g_V (n := 32) (rest := []) C (k5_begin hE hl hpl hpr hbo hro hrw hrr hww hc1 (fun q hq => by obtain ⟨v, hv, hr⟩ := hg2 q hq; exact ⟨v, _, _, _, hv, hR1.ic hr.1⟩) (bk1 (100 + 4 * k1))) dX5_start_29 kM_X0_begin kL_X5_99 kV_X0_begin hbo rfl rfl rfl (Nat.le_of_ble_eq_true rfl) ⟨by decide, by decide⟩ ⟨by decide, by decide⟩ rfl (fun v9 L9 f9 hq => ?_)
  obtain ⟨rfl, rfl, g2, rfl, hgn, hgo⟩ := hq
  refine G.sk (st' := []) rfl ?_
  refine g_aload_n (n := 33) C dX5_start_32 rfl (Or.inr ⟨_, rfl⟩) rfl ?_
  refine g_get (n := 36) C dX5_start_33 kF_X5_103 (((hL.ne (gH.apart hL hpr (fun e => by cases e))).ne (gH.apart hL hpl (fun e => by cases e))).ne (gH.apart hL hbo (fun e => by cases e))) rfl rfl ?_
  refine G.x ?_
  refine g_iret C hr dX5_start_36 ?_ ⟨by decide, by decide⟩
  refine ⟨i, hi, rfl, ⟨h17, h400⟩, ?_⟩
  refine ⟨b0, c1, k1, n1, A2, e2, hb9, e3, hc1, hroot, hn2, rfl, fun I1 hI => ?_⟩
  obtain ⟨j7, j17, j18, j19, j20, j24, j25, j26⟩ := hI
  have hbu2 : buC bk1 n1 (begA A2 A i c1) I1 PL1 0 c1 (some (bk1 (100 + 4 * k1))) := by
    by_cases h0 : c1 = 0
    · rw [if_pos h0] at j17 j18
      exact Or.inr ⟨j17, h0.symm, Or.inr ⟨j18, k1, hk1, j24, by rw [begA_k (by decide) (by decide) (by decide), if_pos h81]⟩⟩
    · rw [if_neg h0] at j17 j18
      exact Or.inl ⟨j17, j18, j19, j20, by omega, k1, hk1, j24, by rw [begA_k (by decide) (by decide) (by decide)]; exact h81, hp1, rfl⟩
  refine ⟨bk1, _, Is, PR1, PL1, S1, hex.1 0 (by omega), hR1.setBu (A' := begA A2 A i c1) (I' := I1) (t := 0) (c := c1) (bs := nI b1) (g := g2) (ly := some (bk1 (100 + 4 * k1))) (Nat.zero_le _) hc1 (fun p v hv => ?_) (fun p hp => ?_) hbu2 (fun k j h => begA_k (by omega) (by omega) (by omega)) (j7.trans (va_up_self _ _ _).symm) j25 j26, fun c2 t2 z1 z2 z3 z4 z5 => ?_, hC1.cg (fun k j h => begA_k (by omega) (by omega) (by omega)), hk1⟩
  · by_cases hp : p < c1
    · rw [hgn p hp] at hv; exact hg1 p v hv
    · rw [hgo p (by omega)] at hv; exact hp19 p v hv
  · rw [hgn p hp, (begA_i hp).1, (begA_i hp).2.1, (begA_i hp).2.2]
    obtain ⟨v, hv, hr⟩ := hg2 p hp
    have e4 : A2 4 (10 * i + p) = A 4 (10 * i + p) := rootR_k hroot (by decide) (by decide) (by decide) (by decide) (by decide)
    have e5 : A2 5 (10 * i + p) = A 5 (10 * i + p) := rootR_k hroot (by decide) (by decide) (by decide) (by decide) (by decide)
    have e6 : A2 6 (10 * i + p) = A 6 (10 * i + p) := rootR_k hroot (by decide) (by decide) (by decide) (by decide) (by decide)
    rw [e4, e5, e6] at hr
    exact ⟨v, hv, hr⟩
  · have y1 := gn_inj (by omega) (by omega) (z2.symm.trans j19)
    omega

/-! ===== the class, XXVIII: build ===== -/
def bdR (A : Nat → Nat → Int32) (I : Nat → Int32) (n : Nat) (x : Int32) : Int32 → (Nat → Nat → Int32) → (Nat → Int32) → Prop := fun b A1 I1 => ∃ w, cd3 (gin x 4) (I 17 = 0 ∧ n < 400) w ∧ (w ≠ 0 → A1 = A ∧ I1 = va_up I 27 (nI w)) ∧ (w = 0 → ∃ i b9 m k1 n1 A2 I2, i < 4 ∧ x = nI i ∧ A 2 i = nI b9 ∧ b9 < 3 ∧ A 3 i = nI m ∧ m ≤ 10 ∧ rootR A n b9 k1 n1 A2 ∧ iV I2 n1 (nI (if m = 0 then 0 else 1)) (nI (if m = 0 then 1 else 0)) (nI m) (nI 0) (nI k1) (I 25) (I 26) ∧ I2 27 = nI 0 ∧ runR m (begA A2 A i m) I2 n1 k1 0 m b A1 I1)
theorem bd_x {n : Nat} {A : Nat → Nat → Int32} {I : Nat → Int32} {x : Int32} {E : String} (h : (E = xI ∧ ¬ gin x 4) ∨ (E = xS ∧ gin x 4 ∧ ¬ (I 17 = 0 ∧ n < 400))) : uX [xI, xS] A I (bdR A I n x) E := by
  intro b A1 I1 hr
  obtain ⟨w, hw, hf, -⟩ := hr
  rcases h with ⟨rfl, h⟩ | ⟨rfl, h1, h2⟩
  · have e9 := cd3_1 hw h
    subst e9
    obtain ⟨hA, hI⟩ := hf (by decide)
    exact ⟨1, by decide, by decide, by rw [hI]; rfl, rfl, hA, hI⟩
  · have e9 := cd3_2 hw h1 h2
    subst e9
    obtain ⟨hA, hI⟩ := hf (by decide)
    exact ⟨2, by decide, by decide, by rw [hI]; rfl, rfl, hA, hI⟩
theorem rootR_8 {A A1 : Nat → Nat → Int32} {n b k1 n1 : Nat} (h : rootR A n b k1 n1 A1) : A1 8 k1 = 0 := by
  rcases h with ⟨h, -, rfl⟩ | ⟨-, rfl, -, rfl⟩
  · rcases h with ⟨h, -⟩ | ⟨j, h, -, -, hp, -⟩
    · cases h
    · have e := Nat.succ.inj h
      subst e
      exact hp.1.1
  · exact grA_rt.2.2.1
theorem resV_1 {A : Nat → Nat → Int32} {I : Nat → Int32} {k : Nat} (h18 : I 18 = nI 1) (h24 : I 24 = nI k) (hk : k < 2 ^ 31) (h8 : A 8 k = 0) : resV A I = nI k := by
  unfold resV
  rw [h24, nI_clamp hk, h18, if_pos ⟨by decide, h8⟩]
theorem resV_0 {A : Nat → Nat → Int32} {I : Nat → Int32} (h18 : I 18 = nI 0) : resV A I = -1 := by
  unfold resV
  rw [if_neg (fun z => z.1 h18)]
/-- what a build that has ended tells -/
theorem goR_res {A S : Nat → Nat → Int32} {I : Nat → Int32} {n k0 d m : Nat} {b : Int32} {A1 : Nat → Nat → Int32} {I1 : Nat → Int32} (hn : n ≤ 420) (h : goR A I n S k0 d m b A1 I1) (h17 : I1 17 = nI 0) : b = resV A1 I1 := by
  rcases h with ⟨-, rfl, -, ⟨-, -, h18, -⟩, -⟩ | ⟨-, its, fm, k1, n1, -, hl, rfl, -, ⟨e1, rfl, rfl, ⟨-, g17, g18, -, -, g24, -⟩⟩ | ⟨e1, rfl, rfl, hlf, ⟨-, g17, g18, -, -, g24, -⟩⟩⟩
  · exact (resV_0 h18).symm
  · have hd : d + 1 = m := gn_b10 (g17.symm.trans h17)
    rw [if_pos hd] at g18
    subst e1
    rcases hl with ⟨h, -⟩ | ⟨j, h, -, hj, hp, -⟩
    · cases h
    · have e := Nat.succ.inj h
      subst e
      exact (resV_1 g18 g24 (by omega) hp.1).symm
  · have hd : d + 1 = m := gn_b10 (g17.symm.trans h17)
    rw [if_pos hd] at g18
    refine (resV_1 g18 g24 (by omega) ?_).symm
    rw [lfR_o hlf (Or.inl (by decide)) (Or.inl (by decide))]
    unfold lfB
    rw [mU_k (by decide), mU_k (by decide), mU_k (by decide), mU_k (by decide)]
    exact grA_mk.2.2.1
/-- a build on its way: what is left of it -/
def bdG (R : Int32 → (Nat → Nat → Int32) → (Nat → Int32) → Prop) (n : Nat) (A : Nat → Nat → Int32) (I : Nat → Int32) (c : Nat) : Prop :=
  (I 17 = nI 1 → ∃ k0 m u, k0 < n ∧ I 24 = nI k0 ∧ I 20 = nI c ∧ I 19 = nI m ∧ m ≤ 10 ∧ m = c + (u + 1) ∧ ∀ b A1 I1, R b A1 I1 → ∃ I2, i8 I I2 ∧ I2 27 = nI 0 ∧ runR (u + 1) A I2 n k0 c m b A1 I1) ∧
  (I 17 = nI 0 → ∀ b A1 I1, R b A1 I1 → A1 = A ∧ i8 I I1 ∧ I1 27 = nI 0 ∧ b = resV A I)
theorem bd_0 {A A2 : Nat → Nat → Int32} {I I9 : Nat → Int32} {n i b0 m k1 n1 : Nat} (hi : i < 4) (h17 : I 17 = 0 ∧ n < 400) (e2 : A 2 i = nI b0) (hb : b0 < 3) (e3 : A 3 i = nI m) (hm : m ≤ 10) (hroot : rootR A n b0 k1 n1 A2) (hk : k1 < n1) (hn : n1 ≤ 420) (hV : iV I9 n1 (nI (if m = 0 then 0 else 1)) (nI (if m = 0 then 1 else 0)) (nI m) (nI 0) (nI k1) (I 25) (I 26)) : bdG (bdR A I n (nI i)) n1 (begA A2 A i m) I9 0 := by
  have key : ∀ b A1 I1, bdR A I n (nI i) b A1 I1 → ∃ I2, i8 I9 I2 ∧ I2 27 = nI 0 ∧ runR m (begA A2 A i m) I2 n1 k1 0 m b A1 I1 := by
    intro b A1 I1 hr
    obtain ⟨w, hw, -, h0⟩ := hr
    have e9 := cd3_0 hw ⟨i, hi, rfl⟩ h17
    subst e9
    obtain ⟨i2, b2, m2, k2, n2, A22, I2, hi2, f1, f2, f3, f4, f5, hroot2, f6, f7, f8⟩ := h0 rfl
    have d1 := gn_inj (by omega) (by omega) f1
    subst d1
    have d2 := gn_inj (by omega) (by omega) (f2.symm.trans e2)
    subst d2
    have d3 := gn_inj (by omega) (by omega) (f4.symm.trans e3)
    subst d3
    obtain ⟨r1, r2, r3⟩ := rootR_u hroot2 hroot
    subst r1
    subst r2
    subst r3
    exact ⟨I2, iV_8 hV f6, f7, f8⟩
  obtain ⟨j7, j17, j18, j19, j20, j24, j25, j26⟩ := hV
  constructor
  · intro h
    have hm0 : ¬ m = 0 := fun z => by rw [if_pos z] at j17; exact absurd (j17.symm.trans h) (by decide)
    obtain ⟨u, rfl⟩ : ∃ u, m = u + 1 := ⟨m - 1, by omega⟩
    exact ⟨k1, u + 1, u, hk, j24, j20, j19, hm, by omega, key⟩
  · intro h b A1 I1 hr
    have hm0 : m = 0 := by
      by_cases z : m = 0
      · exact z
      · rw [if_neg z] at j17; exact absurd (j17.symm.trans h) (by decide)
    subst hm0
    obtain ⟨I2, q1, q2, q3, q4, q5⟩ := key b A1 I1 hr
    rw [if_pos rfl] at j18
    subst q5
    refine ⟨q4, q1, q2, q3.trans (resV_1 j18 j24 (by omega) ?_).symm⟩
    rw [begA_k (by decide) (by decide) (by decide)]
    exact rootR_8 hroot
theorem bd_s {R : Int32 → (Nat → Nat → Int32) → (Nat → Int32) → Prop} {n n8 c k0 m u : Nat} {A A8 S : Nat → Nat → Int32} {I I8 : Nat → Int32} {PR : Nat → Nat} {b8 : Int32} (hn : n ≤ 420) (hn8 : n8 ≤ 420) (hP : vPar A n PR) (hS : vShow A n PR S) (hk0 : k0 < n) (hm : m ≤ 10) (hmu : m = c + (u + 1)) (hall : ∀ b A1 I1, R b A1 I1 → ∃ I2, i8 I I2 ∧ I2 27 = nI 0 ∧ runR (u + 1) A I2 n k0 c m b A1 I1) (hgo : goR A I n S k0 c m b8 A8 I8) (i7 : I8 7 = nI n8) (hk8 : I8 17 = nI 1 → ∃ k8, k8 < n8 ∧ I8 24 = nI k8) : bdG R n8 A8 I8 (c + 1) := by
  have key : ∀ b A1 I1, R b A1 I1 → ∃ I2, i8 I8 I2 ∧ I2 27 = nI 0 ∧ ((I2 17 = 0 ∧ b = b8 ∧ A1 = A8 ∧ I1 = I2) ∨ (¬ I2 17 = 0 ∧ ∃ n9 k9, I2 7 = nI n9 ∧ I2 24 = nI k9 ∧ n9 < 420 ∧ k9 < n9 ∧ runR u A8 I2 n9 k9 (c + 1) m b A1 I1)) := by
    intro b A1 I1 hr
    obtain ⟨I2, h8, h27, PR2, S2, b9, A9, I9, hP2, hS2, hg2, hc⟩ := hall b A1 I1 hr
    have hg3 := goR_S (fun q hq => sh_u hn hP2 hP hS2 hS k0 hk0 q hq) hg2
    obtain ⟨d1, d2, d3⟩ := goR_u h8.2.2.2.2.2.2.1 h8.2.2.2.2.2.2.2 hgo hg3
    subst d1
    subst d2
    exact ⟨I9, d3, (goR_27 hg2).trans h27, hc⟩
  constructor
  · intro h
    obtain ⟨k8, hk, h24⟩ := hk8 h
    have hiv : I8 20 = nI (c + 1) ∧ I8 19 = nI m ∧ ¬ c + 1 = m := by
      rcases hgo with ⟨-, -, -, ⟨-, g17, -⟩, -⟩ | ⟨-, its, fm, k1, n1, -, -, -, -, ⟨-, -, -, ⟨-, g17, -, g19, g20, -⟩⟩ | ⟨-, -, -, -, ⟨-, g17, -, g19, g20, -⟩⟩⟩
      · exact absurd (h.symm.trans g17) (by decide)
      · exact ⟨g20, g19, fun z => by rw [if_pos z] at g17; exact absurd (h.symm.trans g17) (by decide)⟩
      · exact ⟨g20, g19, fun z => by rw [if_pos z] at g17; exact absurd (h.symm.trans g17) (by decide)⟩
    obtain ⟨g20, g19, hcm⟩ := hiv
    obtain ⟨u2, rfl⟩ : ∃ u2, u = u2 + 1 := ⟨u - 1, by omega⟩
    refine ⟨k8, m, u2, hk, h24, g20, g19, hm, by omega, fun b A1 I1 hr => ?_⟩
    obtain ⟨I2, h8, h27, ⟨hz, -⟩ | ⟨-, n9, k9, q1, q2, q3, q4, q5⟩⟩ := key b A1 I1 hr
    · exact absurd (hz.symm.trans (h8.2.1.trans h)) (by decide)
    · have d1 := gn_inj (by omega) (by omega) (q1.symm.trans (h8.1.trans i7))
      subst d1
      have d2 := gn_inj (by omega) (by omega) (q2.symm.trans (h8.2.2.2.2.2.1.trans h24))
      subst d2
      exact ⟨I2, h8, h27, q5⟩
  · intro h b A1 I1 hr
    obtain ⟨I2, h8, h27, ⟨hz, q1, q2, q3⟩ | ⟨hz, -⟩⟩ := key b A1 I1 hr
    · subst q3
      exact ⟨q2, h8, h27, q1.trans (goR_res hn hgo h)⟩
    · exact absurd (h8.2.1.trans h) hz
theorem CW.cI {cy : Nat → ClassId} {co : Nat} {A : Nat → Nat → Int32} {I I' : Nat → Int32} {L : List Nat} {f : gF} (h : CW cy co A I L f) (hi : i8 I I') : CW cy co A I' L f := by
  obtain ⟨bk, n, X, Is, PR, PL, S, h1, h2, h3, h4⟩ := h
  exact ⟨bk, n, X, Is, PR, PL, S, h1, h2.cI hi, h3.cI hi, h4⟩
theorem k5_build {l : Launch} {s0 : State} {D : va_G} {cy : Nat → ClassId} (hE : gE s0 D cy) (hl : l.stackTraces = false) {L : List Nat} {f : gF} {bk : Nat → Nat} {n : Nat} {X : Nat → va_E} {Is : Nat → Option iT} {PR PL : Nat → Nat} {S A : Nat → Nat → Int32} {I : Nat → Int32} (hR : RC cy bk n X Is PR PL S A I L f) (hB9 : rmB n I) (hC9 : pCt n A S) (x : Int32) : gX l s0 D yX5_build cX5_build 3 (some .int) 9 57 474 [.ref (bk 0), .int x] L f (uQ cy (bk 0) (bdR A I n x)) (uX [xI, xS] A I (bdR A I n x)) := by
  refine gX.of (own := RX5) hE hl (by decide +kernel) rfl rfl (Nat.le_of_ble_eq_true rfl) (fun p9 e9 s9 m9 a99 b99 t99 c9 C hr hno => ?_)
  refine G.weak (ls' := [some (.ref (bk 0)), some (.int x), none]) ?_ rfl (fun _ _ h => h)
  refine g_aload_n (n := 1) C dX5_build_0 rfl (Or.inr ⟨_, rfl⟩) rfl ?_
  refine g_iload_n (n := 2) C dX5_build_1 rfl rfl ?_
  refine g_VX (n := 5) (rest := []) C hno (k5_start0 hE hl hR hB9 hC9 x) dX5_build_2 kM_X5_start kW_X5_140 kV_X5_start hR.co rfl rfl rfl (Nat.le_of_ble_eq_true rfl) ⟨by decide, by decide⟩ ⟨by decide, by decide⟩ rfl (fun E h => bd_x h) ⟨by decide, by decide⟩ (fun v9 L9 f9 hq => ?_)
  obtain ⟨i, hi, rfl, ⟨h17, h400⟩, b0, m, k1, n1, A2, e2, hb0, e3, hm9, hroot, hn1, rfl, hall⟩ := hq
  obtain ⟨bk1, X1, Is1, PR1, PL1, S1, hb1, hR1, hB1, hC1, hk1⟩ := hall _ (iM_V (I := I))
  refine G.sk (st' := [_]) rfl ?_
  refine g_pop (n := 6) C dX5_build_5 rfl rfl ?_
  refine g_iconst (n := 7) (v := nI 0) C dX5_build_6 rfl rfl ?_
  refine g_istore_n (n := 8) (ls' := [_, _, _]) C dX5_build_7 rfl (by decide) rfl ?_
  refine g_loop (α := Nat × List Nat × gF) (fun z => z.1 ≤ 10 ∧ ∃ bkb nb Xb Isb PRb PLb Sb Ab Ib, bkb 0 = bk 0 ∧ RC cy bkb nb Xb Isb PRb PLb Sb Ab Ib z.2.1 z.2.2 ∧ rmB nb Ib ∧ pCt nb Ab Sb ∧ bdG (bdR A I n (nI i)) nb Ab Ib z.1) (fun z => 10 - z.1) (fun z => z.2.1) (fun z => z.2.2) (fun z => 7 + 5 * z.1) (fun z => 54 + 42 * z.1) 8 (fun z => [some (.ref (bk 0)), some (.int (nI i)), some (.int (nI z.1))]) (fun _ => []) (fun z hz ih => ?_) (fun J => J (0, _, _) ⟨Nat.zero_le _, bk1, n1, X1, Is1, PR1, PL1, S1, _, _, hb1, hR1, hB1, hC1, bd_0 hi ⟨h17, h400⟩ e2 hb0 e3 hm9 hroot hk1 (by omega) (iM_V (I := I))⟩)
  obtain ⟨c, L, f⟩ := z
  obtain ⟨hc10, bkb, nb, Xb, Isb, PRb, PLb, Sb, Ab, Ib, hbb, hRb, hBb, hCb, hG⟩ := hz
  dsimp only at hc10 hRb hG ih ⊢
  have hco := hRb.co
  rw [hbb] at hco
  obtain ⟨t, c9, ly, bs, g, ht9, hc9, hbo, hpl, hpr, hp1, hp2, hbu⟩ := hRb.bu
  obtain ⟨hI7, hn9, hPR, hSh, -⟩ := hRb.nv
  refine g_iload_n (n := 9) C dX5_build_8 rfl rfl ?_
  refine g_bipush (n := 11) (v := nI 10) C dX5_build_9 rfl rfl ?_
  refine g_icmp_ge (n := 14) (tgt := 35) C dX5_build_11 (by decide) rfl (fun h11 => ?_) (fun h11 => ?_)
  · have hge := (nI_leI (by omega) (by omega)).mp h11
    have h170 : Ib 17 = nI 0 := by
      rcases hbu with ⟨z, -⟩ | ⟨z, -⟩
      · obtain ⟨k0, m0, u0, -, -, -, -, h5, h6, -⟩ := hG.1 z
        omega
      · exact z
    refine g_aload_n (n := 36) C dX5_build_35 rfl (Or.inr ⟨_, rfl⟩) rfl ?_
    refine g_V (n := 39) (rest := []) C (by have h9 := k5_built hE hl hRb hBb hCb; rw [hbb] at h9; exact h9) dX5_build_36 kM_X5_built kL_X5_152 kV_X5_built hco rfl rfl rfl (Nat.le_of_ble_eq_true rfl) ⟨by decide, by decide⟩ ⟨by simp only [gRm]; omega, by simp only [gRm]; omega⟩ rfl (fun v9 L9 f9 hq => ?_)
    obtain ⟨-, rfl, hcw⟩ := hq _ _ _ ⟨rfl, rfl, rfl⟩
    refine G.sk (st' := [_]) rfl ?_
    refine G.x ?_
    refine g_iret C hr dX5_build_39 ?_ ⟨by omega, by omega⟩
    intro b9 A9 I9 hr
    obtain ⟨q1, q2, q3, q4⟩ := hG.2 h170 b9 A9 I9 hr
    subst q1
    exact ⟨q3, by rw [q4], hcw.cI q2⟩
  · have hlt : c < 10 := Nat.lt_of_not_le (fun q => h11 ((nI_leI (by omega) (by omega)).mpr q))
    refine g_aload_n (n := 15) C dX5_build_14 rfl (Or.inr ⟨_, rfl⟩) rfl ?_
    refine g_get (n := 18) C dX5_build_15 kF_X5_40 hco rfl rfl ?_
    refine g_V (n := 21) (rest := []) C (k5_goesOn hE hl hpl hpr hbo ht9 hc9) dX5_build_18 kM_X0_goesOn kL_X5_144 kV_X0_goesOn hbo rfl rfl rfl (Nat.le_of_ble_eq_true rfl) ⟨by decide, by decide⟩ ⟨by show 7 + 5 * c + 0 ≤ 57; omega, by show 54 + 42 * c + 0 ≤ 474; omega⟩ rfl (fun v9 L9 f9 hq => ?_)
    obtain ⟨⟨w8, rfl, hw8⟩, rfl, rfl⟩ := hq
    refine G.sk (st' := [_]) rfl ?_
    refine g_if_eq (n := 24) (tgt := 35) C dX5_build_21 (by decide) rfl (fun h21 => ?_) (fun h21 => ?_)
    · have h170 : Ib 17 = nI 0 := hbu.no (cdb_f hw8 h21)
      refine g_aload_n (n := 36) C dX5_build_35 rfl (Or.inr ⟨_, rfl⟩) rfl ?_
      refine g_V (n := 39) (rest := []) C (by have h9 := k5_built hE hl hRb hBb hCb; rw [hbb] at h9; exact h9) dX5_build_36 kM_X5_built kL_X5_152 kV_X5_built hco rfl rfl rfl (Nat.le_of_ble_eq_true rfl) ⟨by decide, by decide⟩ ⟨by simp only [gRm]; omega, by simp only [gRm]; omega⟩ rfl (fun v9 L9 f9 hq => ?_)
      obtain ⟨-, rfl, hcw⟩ := hq _ _ _ ⟨rfl, rfl, rfl⟩
      refine G.sk (st' := [_]) rfl ?_
      refine G.x ?_
      refine g_iret C hr dX5_build_39 ?_ ⟨by omega, by omega⟩
      intro b9 A9 I9 hr
      obtain ⟨q1, q2, q3, q4⟩ := hG.2 h170 b9 A9 I9 hr
      subst q1
      exact ⟨q3, by rw [q4], hcw.cI q2⟩
    · have htc := cdb_t hw8 h21
      have h171 : Ib 17 = nI 1 := by
        rcases hbu with ⟨z, -⟩ | ⟨-, z, -⟩
        · exact z
        · omega
      obtain ⟨k0, m9, u9, k1, k2, k3, k4, hm9b, hmu, hall2⟩ := hG.1 h171
      obtain ⟨v7, hv7, hins⟩ := hp2 t htc
      have htcc : c = t := by
        rcases hbu with ⟨-, -, -, z, -⟩ | ⟨-, z, -⟩
        · exact (gn_inj (by omega) (by omega) (z.symm.trans k3)).symm
        · omega
      subst htcc
      refine g_aload_n (n := 25) C dX5_build_24 rfl (Or.inr ⟨_, rfl⟩) rfl ?_
      refine g_V (n := 28) (rest := []) C (by have h9 := k5_stepM hE hl hRb hBb hCb h171 (k0 := k0) (d := c) (m := m9) (fun _ => ⟨k1, k2, k3, by omega, hm9b, k4⟩); rw [hbb] at h9; exact h9) dX5_build_25 kM_X5_step kL_X5_148 kV_X5_step hco rfl rfl rfl (Nat.le_of_ble_eq_true rfl) ⟨by decide, by decide⟩ ⟨by show 7 + 5 * c + 0 + 5 ≤ 57; omega, by show 54 + 42 * c + 0 + 42 ≤ 474; omega⟩ rfl (fun v9 L9 f9 hq => ?_)
      obtain ⟨b8, A8, I8, hgo⟩ := goR_ex (A := Ab) (S := Sb) (I := Ib) (n := nb) (k0 := k0) (d := c) (m := m9) hins.2.1
      obtain ⟨rfl, bk2, n2, X2, Is2, PR2, PL2, S2, hb2, hR2, hB2, hC2⟩ := hq b8 A8 I8 hgo
      refine G.sk (st' := [_]) rfl ?_
      refine g_pop (n := 29) C dX5_build_28 rfl rfl ?_
      refine g_iinc (n := 32) (ls' := [_, _, _]) C dX5_build_29 rfl (nI_1 _) rfl (by decide) rfl ?_
      refine g_goto (tgt := 8) C dX5_build_32 (by decide) ?_
      refine G.mono (ce' := 7 + 5 * (c + 1)) (sl' := 54 + 42 * (c + 1)) (by show 7 + 5 * c + 0 + 5 ≤ _; omega) (by show 54 + 42 * c + 0 + 42 ≤ _; omega) (ih (c + 1, _, _) ⟨by show c + 1 ≤ 10; omega, bk2, n2, X2, Is2, PR2, PL2, S2, A8, I8, hb2.trans hbb, hR2, hB2, hC2, bd_s hn9 hR2.nv.2.1 hPR hSh k1 hm9b hmu hall2 hgo hR2.nv.1 (fun z => ?_)⟩ (by show 10 - (c + 1) < 10 - c; omega))
      obtain ⟨t5, c5, ly5, bs5, g5, -, -, -, -, -, -, -, hbu5⟩ := hR2.bu
      rcases hbu5 with ⟨-, -, -, -, -, k5, hk5, h5, -⟩ | ⟨z5, -⟩
      · exact ⟨k5, hk5, h5⟩
      · exact absurd (z.symm.trans z5) (by decide)

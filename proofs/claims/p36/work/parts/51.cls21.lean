/-! ===== the class, XXI: a step, whole ===== -/
/-- the world after a step -/
def spQ (cy : Nat → ClassId) (bk : Nat → Nat) (n : Nat) (S A : Nat → Nat → Int32) (I : Nat → Int32) (k0 d m : Nat) : Option Value → List Nat → gF → Prop := fun v L1 f1 =>
  ∀ b A1 I1, goR A I n S k0 d m b A1 I1 → v = some (.int b) ∧ ∃ bk1 n1 X1 Is1 PR1 PL1 S1, bk1 0 = bk 0 ∧ RC cy bk1 n1 X1 Is1 PR1 PL1 S1 A1 I1 L1 f1 ∧ rmB n1 I1 ∧ pCt n1 A1 S1
theorem cf_iff {A S : Nat → Nat → Int32} {k : Nat} {F s : Nat → Int32} {what a : Int32} (hF : ∀ q, q < 8 → F q = A 0 q) (hs : ∀ q, q < 12 → s q = S k q) : cfP F s what a ↔ failP A S k what a := by
  constructor
  · rintro (⟨h1, j, hj, h2, h3⟩ | ⟨h1, q, hq, h2, h3⟩)
    · exact Or.inl ⟨h1, j, hj, h2, (hF j hj).symm.trans h3⟩
    · exact Or.inr ⟨h1, q, hq, h2, (hs q hq).symm.trans h3⟩
  · rintro (⟨h1, j, hj, h2, h3⟩ | ⟨h1, q, hq, h2, h3⟩)
    · exact Or.inl ⟨h1, j, hj, h2, (hF j hj).trans h3⟩
    · exact Or.inr ⟨h1, q, hq, h2, (hs q hq).trans h3⟩
theorem its_x {A : Nat → Nat → Int32} {F : Nat → Int32} {what a x : Int32} (hF : ∀ q, q < 8 → F q = A 0 q) (h : itsC F what a x) : ∃ its, itsP A what a its ∧ x = if what = nI 0 then its else -1 := by
  rcases h with ⟨h1, j, hj, h2, h3⟩ | ⟨h1, h2⟩
  · exact ⟨x, Or.inl ⟨h1, j, hj, h2, h3.trans (hF j hj)⟩, (if_pos h1).symm⟩
  · exact ⟨nI 0, Or.inr ⟨h1, rfl⟩, by rw [if_neg h1]; exact h2⟩
theorem itsP_u {A : Nat → Nat → Int32} {what a x y : Int32} (h : itsP A what a x) (h2 : itsP A what a y) : x = y := by
  rcases h with ⟨h1, j, hj, e1, e2⟩ | ⟨h1, e2⟩ <;> rcases h2 with ⟨k1, i, hi, f1, f2⟩ | ⟨k1, f2⟩
  · have := gn_inj (by omega) (by omega) (e1.symm.trans f1)
    subst this
    rw [e2, f2]
  · exact absurd h1 k1
  · exact absurd k1 h1
  · rw [e2, f2]
theorem lfR_u {A S : Nat → Nat → Int32} {n k0 : Nat} {what a b its : Int32} {A1 A2 : Nat → Nat → Int32} (h : lfR A n k0 S what a b its A1) (h2 : lfR A n k0 S what a b its A2) : A1 = A2 := by
  rcases h with ⟨h, q, hq, e1, rfl⟩ | ⟨h, q, v, hq, hv, e1, e2, rfl⟩ | ⟨h, q, r, hq, hr, e1, e2, rfl⟩ | ⟨h, q, hq, e1, rfl⟩ | ⟨h, v, hv, e1, rfl⟩ <;> subst h <;> rcases h2 with ⟨h2, q2, hq2, f1, rfl⟩ | ⟨h2, q2, v2, hq2, hv2, f1, f2, rfl⟩ | ⟨h2, q2, r2, hq2, hr2, f1, f2, rfl⟩ | ⟨h2, q2, hq2, f1, rfl⟩ | ⟨h2, v2, hv2, f1, rfl⟩ <;> first | exact absurd h2 (by decide) | skip
  · rw [gn_inj (by omega) (by omega) (e1.symm.trans f1)]
  · rw [gn_inj (by omega) (by omega) (e1.symm.trans f1), gn_inj (by omega) (by omega) (e2.symm.trans f2)]
  · rw [gn_inj (by omega) (by omega) (e1.symm.trans f1), gn_inj (by omega) (by omega) (e2.symm.trans f2)]
  · rw [gn_inj (by omega) (by omega) (e1.symm.trans f1)]
  · rw [gn_inj (by omega) (by omega) (e1.symm.trans f1)]
theorem k5_step0 {l : Launch} {s0 : State} {D : va_G} {cy : Nat → ClassId} (hE : gE s0 D cy) (hl : l.stackTraces = false) {L : List Nat} {f : gF} {bk : Nat → Nat} {n : Nat} {X : Nat → va_E} {Is : Nat → Option iT} {PR PL : Nat → Nat} {S A : Nat → Nat → Int32} {I : Nat → Int32} (hR : RC cy bk n X Is PR PL S A I L f) (hB9 : rmB n I) (hC9 : pCt n A S) {k0 d m : Nat} (hG : I 17 = nI 1 → k0 < n ∧ I 24 = nI k0 ∧ I 20 = nI d ∧ d < m ∧ m ≤ 10 ∧ I 19 = nI m) : gX l s0 D yX5_step cX5_step 5 (some .int) 7 5 42 [.ref (bk 0)] L f (fun v L1 f1 => I 17 = nI 1 ∧ spQ cy bk n S A I k0 d m v L1 f1) (fun E => E = xS ∧ ¬ I 17 = nI 1) := by
  refine gX.of (own := RX5) hE hl (by decide +kernel) rfl rfl (Nat.le_of_ble_eq_true rfl) (fun p9 e9 s9 m9 a99 b99 t99 c9 C hr hno => ?_)
  refine G.weak (ls' := [some (.ref (bk 0)), none, none, none, none]) ?_ rfl (fun _ _ h => h)
  have hco := hR.co
  obtain ⟨t, c, ly, bs, g, ht9, hc9, hbo, hpl, hpr, hp1, hp2, hbu⟩ := hR.bu
  refine g_aload_n (n := 1) C dX5_step_0 rfl (Or.inr ⟨_, rfl⟩) rfl ?_
  refine g_get (n := 4) C dX5_step_1 kF_X5_40 (by assumption) rfl rfl ?_
  refine g_V (n := 7) (rest := []) C (k5_upcoming hE hl hpl hpr hbo ht9 hc9) dX5_step_4 kM_X0_upcoming kL_X5_106 kV_X0_upcoming (by assumption) rfl rfl rfl (Nat.le_of_ble_eq_true rfl) ⟨by decide, by decide⟩ ⟨by decide, by decide⟩ rfl (fun v9 L9 f9 hq => ?_)
  obtain ⟨rfl, rfl, rfl⟩ := hq
  refine G.sk (st' := [_]) rfl ?_
  refine g_astore_n (n := 8) (ls' := [_, _, _, _, _]) C dX5_step_7 (rf_or _) rfl (by decide) rfl ?_
  refine g_aload_n (n := 9) C dX5_step_8 rfl (Or.inr ⟨_, rfl⟩) rfl ?_
  refine g_get (n := 12) C dX5_step_9 kF_X5_40 (by assumption) rfl rfl ?_
  refine g_get (n := 15) C dX5_step_12 kF_X5_110 hbo rfl rfl ?_
  refine g_astore_n (n := 16) (ls' := [_, _, _, _, _]) C dX5_step_15 (rf_or _) rfl (by decide) rfl ?_
  refine g_aload_n (n := 17) C dX5_step_16 rfl (rf_or _) rfl ?_
  refine g_ifnull (n := 20) (tgt := 24) C dX5_step_17 (by decide) rfl (fun h17 => ?_) (fun a17 h17 => ?_)
  · have hng : ¬ t < c := fun q => by rw [if_pos q] at h17; obtain ⟨v8, hv8, -⟩ := hp2 t q; rw [h17] at hv8; cases hv8
    exact g_throw (cls := xS) (text := "no build goes on") (names := xNm) C hno (by decide +kernel) xNm_ok (List.mem_of_getElem? (i := 307) (by decide +kernel)) (List.mem_of_getElem? (i := 59) (by decide +kernel)) (List.mem_of_getElem? (i := 477) (by decide +kernel)) hat_X5_118 dX5_step_24 dX5_step_27 dX5_step_28 dX5_step_30 dX5_step_33 ⟨by decide, by decide, by decide, by decide⟩ ⟨rfl, by rw [hbu.no hng]; decide⟩ ⟨by decide, by decide⟩
  · have hn9 := hR.nv.2.1
    have htc : t < c := Classical.byContradiction fun q => by rw [if_neg q] at h17; cases h17
    rcases hbu with ⟨j17, j18, j19, j20, jl, k, jk, j24, jk8, jpl, jly⟩ | ⟨-, jt, -⟩
    rotate_left
    · omega
    obtain ⟨g1, g2, g3, g4, g5, g6⟩ := hG j17
    have d1 := gn_inj (by omega) (by omega) (j24.symm.trans g2)
    subst d1
    have d2 := gn_inj (by omega) (by omega) (j20.symm.trans g3)
    subst d2
    have d3 := gn_inj (by omega) (by omega) (j19.symm.trans g6)
    subst d3
    subst jly
    rw [if_pos htc] at h17
    obtain ⟨v8, hv8, hins⟩ := hp2 t htc
    have d4 := Option.some.inj (hv8.symm.trans h17)
    subst d4
    rw [if_pos htc, h17]
    obtain ⟨h, s, v, m9, ip, hL, hh, hs, hv, q1, q2, q3, -⟩ := hR.lk jk
    obtain ⟨F, hfi, hF⟩ := hR.fi
    have hic := hR.ic hins.1
    have hroom := hB9 c t j17 j19 j20 hc9 ht9
    refine g_aload_n (n := 21) C dX5_step_20 rfl (rf_or _) rfl ?_
    refine g_ifnonnull (n := 24) (tgt := 34) C dX5_step_21 (by decide) rfl (fun a21 h21 => ?_) (fun h21 => nomatch h21)
    refine g_aload_n (n := 35) C dX5_step_34 rfl (rf_or _) rfl ?_
    refine g_aload_n (n := 36) C dX5_step_35 rfl (Or.inr ⟨_, rfl⟩) rfl ?_
    refine g_get (n := 39) C dX5_step_36 kF_X5_9 (by assumption) rfl rfl ?_
    refine g_V (n := 42) (rest := []) C (k5_inputFrom hE hl hic hfi (fun e => vIns_8 hins.2.1 e)) dX5_step_39 kM_X1_inputFrom kL_X5_119 kV_X1_inputFrom hic rfl rfl rfl (Nat.le_of_ble_eq_true rfl) ⟨by decide, by decide⟩ ⟨by decide, by decide⟩ rfl (fun v9 L9 f9 hq => ?_)
    obtain ⟨⟨x, rfl, hx⟩, rfl, rfl⟩ := hq
    refine G.sk (st' := [_]) rfl ?_
    refine g_istore_n (n := 43) (ls' := [_, _, _, _, _]) C dX5_step_42 rfl (by decide) rfl ?_
    refine g_aload_n (n := 44) C dX5_step_43 rfl (rf_or _) rfl ?_
    refine g_aload_n (n := 45) C dX5_step_44 rfl (rf_or _) rfl ?_
    refine g_iload_n (n := 46) C dX5_step_45 rfl rfl ?_
    refine g_V (n := 49) (rest := []) C (k5_failsOn hE hl hic hL hh hs hv (vIns_c hins.2.1) hx) dX5_step_46 kM_X1_failsOn kL_X5_125 kV_X1_failsOn hic rfl rfl rfl (Nat.le_of_ble_eq_true rfl) ⟨by decide, by decide⟩ ⟨by decide, by decide⟩ rfl (fun v9 L9 f9 hq => ?_)
    obtain ⟨⟨w8, rfl, hw8⟩, rfl, rfl⟩ := hq
    refine G.sk (st' := [_]) rfl ?_
    refine g_if_eq (n := 52) (tgt := 61) C dX5_step_49 (by decide) rfl (fun h49 => ?_) (fun h49 => ?_)
    · have hnf : ¬ failP A S k (A 21 t) (A 22 t) := fun z => cdb_f hw8 h49 ((cf_iff hF q2).mpr z)
      obtain ⟨its, hits, hxi⟩ := its_x hF hx
      refine g_aload_n (n := 62) C dX5_step_61 rfl (Or.inr ⟨_, rfl⟩) rfl ?_
      refine g_aload_n (n := 63) C dX5_step_62 rfl (rf_or _) rfl ?_
      refine g_aload_n (n := 64) C dX5_step_63 rfl (rf_or _) rfl ?_
      refine g_iload_n (n := 65) C dX5_step_64 rfl rfl ?_
      refine g_V (n := 68) (rest := []) C (k5_layerOfStep hE hl hR hC9 jk jk8 (by omega) (by omega) hins hxi hits hnf) dX5_step_65 kM_X5_layerOfStep kL_X5_132 kV_X5_layerOfStep hco rfl rfl rfl (Nat.le_of_ble_eq_true rfl) ⟨by decide, by decide⟩ ⟨by decide, by decide⟩ rfl (fun v9 L9 f9 hq => ?_)
      obtain ⟨fm, k1, n1, A1, I1, bk1, X1, PR1, PL1, S1, rfl, hlst, hcase, hR1, hk1, h81, hp91, hC1, hex, hAk⟩ := hq
      have hI1 : I1 17 = I 17 ∧ I1 19 = I 19 ∧ I1 20 = I 20 := by
        rcases hcase with ⟨-, -, -, rfl⟩ | ⟨-, -, -, -, rfl⟩ <;> exact ⟨rfl, rfl, rfl⟩
      have hco1 := hR1.co
      rw [hex.1 0 (by omega)] at hco1
      obtain ⟨t1, c1, ly1, bs1, gg1, htt1, hcc1, hbo1, hpl1, hpr1, hpp1, hpp2, hbu1⟩ := hR1.bu
      have hgo1 : t = t1 ∧ c = c1 := by
        rcases hbu1 with ⟨-, -, r1, r2, -⟩ | ⟨r1, -⟩
        · exact ⟨(gn_inj (by omega) (by omega) (r2.symm.trans (hI1.2.2.trans j20))).symm, (gn_inj (by omega) (by omega) (r1.symm.trans (hI1.2.1.trans j19))).symm⟩
        · exact absurd (r1.symm.trans (hI1.1.trans j17)) (by decide)
      obtain ⟨rfl, rfl⟩ := hgo1
      obtain ⟨hf5, sf5, vf5, mf5, ipf5, hL5, -⟩ := hR1.lk hk1
      refine G.sk (st' := [_]) rfl ?_
      refine g_astore (n := 70) (ls' := [_, _, _, _, _]) C dX5_step_68 (Or.inr ⟨_, rfl⟩) rfl (by decide) rfl ?_
      refine g_aload_n (n := 71) C dX5_step_70 rfl (Or.inr ⟨_, rfl⟩) rfl ?_
      refine g_get (n := 74) C dX5_step_71 kF_X5_40 hco1 rfl rfl ?_
      refine g_aload (n := 76) C dX5_step_74 rfl (Or.inr ⟨_, rfl⟩) rfl ?_
      refine g_V (n := 79) (rest := []) C (k5_advanceTo hE hl hpl1 hpr1 hbo1 (bk1 (100 + 4 * k1))) dX5_step_76 kM_X0_advanceTo kL_X5_136 kV_X0_advanceTo hbo1 rfl rfl rfl (Nat.le_of_ble_eq_true rfl) ⟨by decide, by decide⟩ ⟨by decide, by decide⟩ rfl (fun v9 L9 f9 hq => ?_)
      obtain ⟨rfl, rfl, rfl⟩ := hq
      refine G.sk (st' := []) rfl ?_
      refine g_aload (n := 81) C dX5_step_79 rfl (Or.inr ⟨_, rfl⟩) rfl ?_
      refine g_get (n := 84) C dX5_step_81 kF_X5_103 (hL5.ne (gH.apart hL5 hbo1 (fun e => by cases e))) rfl rfl ?_
      refine G.x ?_
      refine g_iret C hr dX5_step_84 ?_ ⟨by decide, by decide⟩
      refine ⟨j17, ?_⟩
      intro b A9 I9 hgo
      rcases hgo with ⟨hf, -⟩ | ⟨-, its2, fm2, k2, n2, hi2, hl2, rfl, -, hc2⟩
      · exact absurd hf hnf
      have y1 := itsP_u hi2 hits
      subst y1
      have y2 := lst_u hl2 hlst
      subst y2
      have hkey : k2 = k1 ∧ n2 = n1 ∧ (n1 ≤ n + 1) ∧ A9 = A1 ∧ iV I9 n1 (nI (if t + 1 = c then 0 else 1)) (nI (if t + 1 = c then 1 else 0)) (nI c) (nI (t + 1)) (nI k1) (I1 25) (I1 26) := by
        rcases hcase with ⟨c1, rfl, c3, c4⟩ | ⟨c1, c2, rfl, c4, c5⟩ <;> rcases hc2 with ⟨b1, rfl, b3, b4⟩ | ⟨b1, b2, rfl, b4, b5⟩
        · have hk9 : k2 = k1 := by omega
          subst hk9
          refine ⟨rfl, rfl, Nat.le_succ _, by rw [b3, c3], ?_⟩
          rw [c4]
          have e26 : I 26 + nI 0 = I 26 := Int32.add_zero _
          rw [e26] at b4
          exact b4
        · omega
        · omega
        · subst c2
          subst b2
          refine ⟨rfl, rfl, Nat.le_refl _, lfR_u b4 c4, ?_⟩
          rw [c5]
          have e25 : I 25 + nI 0 = I 25 := Int32.add_zero _
          rw [e25] at b5
          exact b5
      obtain ⟨rfl, rfl, hn1, rfl, i7, i17, i18, i19, i20, i24, i25, i26⟩ := hkey
      have hbu2 : buC bk1 n2 A9 I9 PL1 (t + 1) c (some (bk1 (100 + 4 * k2))) := by
        by_cases h0 : t + 1 = c
        · rw [if_pos h0] at i17 i18
          exact Or.inr ⟨i17, h0, Or.inr ⟨i18, k2, hk1, i24, by rw [if_pos h81]⟩⟩
        · rw [if_neg h0] at i17 i18
          exact Or.inl ⟨i17, i18, i19, i20, by omega, k2, hk1, i24, h81, by rw [hp91, jpl], rfl⟩
      have h9 := hR1.setBu (A' := A9) (I' := I9) (t := t + 1) (c := c) (ly := some (bk1 (100 + 4 * k2))) (bs := bs1) (g := gg1) (by omega) hc9 hpp1 hpp2 hbu2 (fun _ _ _ => rfl) (i7.trans hR1.nv.1.symm) i25 i26
      rw [upf_id hpr1.2, upf_id hpl1.2] at h9
      refine ⟨rfl, bk1, n2, _, Is, PR1, PL1, S1, hex.1 0 (by omega), h9, fun c2 t2 z1 z2 z3 z4 z5 => ?_, hC1⟩
      have x1 := gn_inj (by omega) (by omega) (z2.symm.trans i19)
      have x2 := gn_inj (by omega) (by omega) (z3.symm.trans i20)
      omega
    · have hfail := (cf_iff hF q2).mp (cdb_t hw8 h49)
      refine g_aload_n (n := 53) C dX5_step_52 rfl (Or.inr ⟨_, rfl⟩) rfl ?_
      refine g_get (n := 56) C dX5_step_53 kF_X5_40 (by assumption) rfl rfl ?_
      refine g_V (n := 59) (rest := []) C (k5_fail hE hl hpl hpr hbo) dX5_step_56 kM_X0_fail kL_X5_129 kV_X0_fail hbo rfl rfl rfl (Nat.le_of_ble_eq_true rfl) ⟨by decide, by decide⟩ ⟨by decide, by decide⟩ rfl (fun v9 L9 f9 hq => ?_)
      obtain ⟨rfl, rfl, rfl⟩ := hq
      refine G.sk (st' := []) rfl ?_
      refine g_iconst (n := 60) (v := -1) C dX5_step_59 rfl rfl ?_
      refine G.x ?_
      refine g_iret C hr dX5_step_60 ?_ ⟨by decide, by decide⟩
      refine ⟨j17, ?_⟩
      intro b A1 I1 hgo
      rcases hgo with ⟨hf, rfl, rfl, ⟨i7, i17, i18, i19, i20, i24, i25, i26⟩, -⟩ | ⟨hf, -⟩
      rotate_left
      · exact absurd hfail hf
      have h9 := hR.setBu (A' := A1) (I' := I1) (t := c) (c := c) (ly := none) (bs := bs) (g := g) (Nat.le_refl _) hc9 hp1 hp2 (Or.inr ⟨i17, rfl, Or.inl ⟨i18, rfl⟩⟩) (fun _ _ _ => rfl) (i7.trans hR.nv.1.symm) i25 i26
      rw [upf_id hpr.2, upf_id hpl.2] at h9
      exact ⟨rfl, bk, n, _, Is, PR, PL, S, rfl, h9, fun c2 t2 z1 => absurd (i17.symm.trans z1) (by decide), hC9⟩
theorem k5_stepM {l : Launch} {s0 : State} {D : va_G} {cy : Nat → ClassId} (hE : gE s0 D cy) (hl : l.stackTraces = false) {L : List Nat} {f : gF} {bk : Nat → Nat} {n : Nat} {X : Nat → va_E} {Is : Nat → Option iT} {PR PL : Nat → Nat} {S A : Nat → Nat → Int32} {I : Nat → Int32} (hR : RC cy bk n X Is PR PL S A I L f) (hB9 : rmB n I) (hC9 : pCt n A S) (hgo9 : I 17 = nI 1) {k0 d m : Nat} (hG : I 17 = nI 1 → k0 < n ∧ I 24 = nI k0 ∧ I 20 = nI d ∧ d < m ∧ m ≤ 10 ∧ I 19 = nI m) : gM l s0 D yX5_step cX5_step 5 (some .int) 7 5 42 [.ref (bk 0)] L f (spQ cy bk n S A I k0 d m) := by
  refine gM.of (own := RX5) hE hl (by decide +kernel) rfl rfl (Nat.le_of_ble_eq_true rfl) (fun p9 e9 s9 m9 a99 b99 t99 c9 C hr hnm => ?_)
  refine G.weak (ls' := [some (.ref (bk 0)), none, none, none, none]) ?_ rfl (fun _ _ h => h)
  have hco := hR.co
  obtain ⟨t, c, ly, bs, g, ht9, hc9, hbo, hpl, hpr, hp1, hp2, hbu⟩ := hR.bu
  have htc9 : t < c := by
    rcases hbu with ⟨-, -, -, -, jl, -⟩ | ⟨jz, -⟩
    · exact jl
    · exact absurd (hgo9.symm.trans jz) (by decide)
  obtain ⟨v7, hv7, -⟩ := hp2 t htc9
  refine g_aload_n (n := 1) C dX5_step_0 rfl (Or.inr ⟨_, rfl⟩) rfl ?_
  refine g_get (n := 4) C dX5_step_1 kF_X5_40 (by assumption) rfl rfl ?_
  refine g_V (n := 7) (rest := []) C (k5_upcoming hE hl hpl hpr hbo ht9 hc9) dX5_step_4 kM_X0_upcoming kL_X5_106 kV_X0_upcoming (by assumption) rfl rfl rfl (Nat.le_of_ble_eq_true rfl) ⟨by decide, by decide⟩ ⟨by decide, by decide⟩ rfl (fun v9 L9 f9 hq => ?_)
  obtain ⟨rfl, rfl, rfl⟩ := hq
  refine G.sk (st' := [_]) rfl ?_
  refine g_astore_n (n := 8) (ls' := [_, _, _, _, _]) C dX5_step_7 (rf_or _) rfl (by decide) rfl ?_
  refine g_aload_n (n := 9) C dX5_step_8 rfl (Or.inr ⟨_, rfl⟩) rfl ?_
  refine g_get (n := 12) C dX5_step_9 kF_X5_40 (by assumption) rfl rfl ?_
  refine g_get (n := 15) C dX5_step_12 kF_X5_110 hbo rfl rfl ?_
  refine g_astore_n (n := 16) (ls' := [_, _, _, _, _]) C dX5_step_15 (rf_or _) rfl (by decide) rfl ?_
  refine g_aload_n (n := 17) C dX5_step_16 rfl (rf_or _) rfl ?_
  refine g_ifnull (n := 20) (tgt := 24) C dX5_step_17 (by decide) rfl (fun h17 => absurd h17 (by rw [if_pos htc9, hv7]; exact Option.some_ne_none _)) (fun a17 h17 => ?_)
  have hn9 := hR.nv.2.1
  have htc : t < c := Classical.byContradiction fun q => by rw [if_neg q] at h17; cases h17
  rcases hbu with ⟨j17, j18, j19, j20, jl, k, jk, j24, jk8, jpl, jly⟩ | ⟨-, jt, -⟩
  rotate_left
  · omega
  obtain ⟨g1, g2, g3, g4, g5, g6⟩ := hG j17
  have d1 := gn_inj (by omega) (by omega) (j24.symm.trans g2)
  subst d1
  have d2 := gn_inj (by omega) (by omega) (j20.symm.trans g3)
  subst d2
  have d3 := gn_inj (by omega) (by omega) (j19.symm.trans g6)
  subst d3
  subst jly
  rw [if_pos htc] at h17
  obtain ⟨v8, hv8, hins⟩ := hp2 t htc
  have d4 := Option.some.inj (hv8.symm.trans h17)
  subst d4
  rw [if_pos htc, h17]
  obtain ⟨h, s, v, m9, ip, hL, hh, hs, hv, q1, q2, q3, -⟩ := hR.lk jk
  obtain ⟨F, hfi, hF⟩ := hR.fi
  have hic := hR.ic hins.1
  have hroom := hB9 c t j17 j19 j20 hc9 ht9
  refine g_aload_n (n := 21) C dX5_step_20 rfl (rf_or _) rfl ?_
  refine g_ifnonnull (n := 24) (tgt := 34) C dX5_step_21 (by decide) rfl (fun a21 h21 => ?_) (fun h21 => nomatch h21)
  refine g_aload_n (n := 35) C dX5_step_34 rfl (rf_or _) rfl ?_
  refine g_aload_n (n := 36) C dX5_step_35 rfl (Or.inr ⟨_, rfl⟩) rfl ?_
  refine g_get (n := 39) C dX5_step_36 kF_X5_9 (by assumption) rfl rfl ?_
  refine g_V (n := 42) (rest := []) C (k5_inputFrom hE hl hic hfi (fun e => vIns_8 hins.2.1 e)) dX5_step_39 kM_X1_inputFrom kL_X5_119 kV_X1_inputFrom hic rfl rfl rfl (Nat.le_of_ble_eq_true rfl) ⟨by decide, by decide⟩ ⟨by decide, by decide⟩ rfl (fun v9 L9 f9 hq => ?_)
  obtain ⟨⟨x, rfl, hx⟩, rfl, rfl⟩ := hq
  refine G.sk (st' := [_]) rfl ?_
  refine g_istore_n (n := 43) (ls' := [_, _, _, _, _]) C dX5_step_42 rfl (by decide) rfl ?_
  refine g_aload_n (n := 44) C dX5_step_43 rfl (rf_or _) rfl ?_
  refine g_aload_n (n := 45) C dX5_step_44 rfl (rf_or _) rfl ?_
  refine g_iload_n (n := 46) C dX5_step_45 rfl rfl ?_
  refine g_V (n := 49) (rest := []) C (k5_failsOn hE hl hic hL hh hs hv (vIns_c hins.2.1) hx) dX5_step_46 kM_X1_failsOn kL_X5_125 kV_X1_failsOn hic rfl rfl rfl (Nat.le_of_ble_eq_true rfl) ⟨by decide, by decide⟩ ⟨by decide, by decide⟩ rfl (fun v9 L9 f9 hq => ?_)
  obtain ⟨⟨w8, rfl, hw8⟩, rfl, rfl⟩ := hq
  refine G.sk (st' := [_]) rfl ?_
  refine g_if_eq (n := 52) (tgt := 61) C dX5_step_49 (by decide) rfl (fun h49 => ?_) (fun h49 => ?_)
  · have hnf : ¬ failP A S k (A 21 t) (A 22 t) := fun z => cdb_f hw8 h49 ((cf_iff hF q2).mpr z)
    obtain ⟨its, hits, hxi⟩ := its_x hF hx
    refine g_aload_n (n := 62) C dX5_step_61 rfl (Or.inr ⟨_, rfl⟩) rfl ?_
    refine g_aload_n (n := 63) C dX5_step_62 rfl (rf_or _) rfl ?_
    refine g_aload_n (n := 64) C dX5_step_63 rfl (rf_or _) rfl ?_
    refine g_iload_n (n := 65) C dX5_step_64 rfl rfl ?_
    refine g_V (n := 68) (rest := []) C (k5_layerOfStep hE hl hR hC9 jk jk8 (by omega) (by omega) hins hxi hits hnf) dX5_step_65 kM_X5_layerOfStep kL_X5_132 kV_X5_layerOfStep hco rfl rfl rfl (Nat.le_of_ble_eq_true rfl) ⟨by decide, by decide⟩ ⟨by decide, by decide⟩ rfl (fun v9 L9 f9 hq => ?_)
    obtain ⟨fm, k1, n1, A1, I1, bk1, X1, PR1, PL1, S1, rfl, hlst, hcase, hR1, hk1, h81, hp91, hC1, hex, hAk⟩ := hq
    have hI1 : I1 17 = I 17 ∧ I1 19 = I 19 ∧ I1 20 = I 20 := by
      rcases hcase with ⟨-, -, -, rfl⟩ | ⟨-, -, -, -, rfl⟩ <;> exact ⟨rfl, rfl, rfl⟩
    have hco1 := hR1.co
    rw [hex.1 0 (by omega)] at hco1
    obtain ⟨t1, c1, ly1, bs1, gg1, htt1, hcc1, hbo1, hpl1, hpr1, hpp1, hpp2, hbu1⟩ := hR1.bu
    have hgo1 : t = t1 ∧ c = c1 := by
      rcases hbu1 with ⟨-, -, r1, r2, -⟩ | ⟨r1, -⟩
      · exact ⟨(gn_inj (by omega) (by omega) (r2.symm.trans (hI1.2.2.trans j20))).symm, (gn_inj (by omega) (by omega) (r1.symm.trans (hI1.2.1.trans j19))).symm⟩
      · exact absurd (r1.symm.trans (hI1.1.trans j17)) (by decide)
    obtain ⟨rfl, rfl⟩ := hgo1
    obtain ⟨hf5, sf5, vf5, mf5, ipf5, hL5, -⟩ := hR1.lk hk1
    refine G.sk (st' := [_]) rfl ?_
    refine g_astore (n := 70) (ls' := [_, _, _, _, _]) C dX5_step_68 (Or.inr ⟨_, rfl⟩) rfl (by decide) rfl ?_
    refine g_aload_n (n := 71) C dX5_step_70 rfl (Or.inr ⟨_, rfl⟩) rfl ?_
    refine g_get (n := 74) C dX5_step_71 kF_X5_40 hco1 rfl rfl ?_
    refine g_aload (n := 76) C dX5_step_74 rfl (Or.inr ⟨_, rfl⟩) rfl ?_
    refine g_V (n := 79) (rest := []) C (k5_advanceTo hE hl hpl1 hpr1 hbo1 (bk1 (100 + 4 * k1))) dX5_step_76 kM_X0_advanceTo kL_X5_136 kV_X0_advanceTo hbo1 rfl rfl rfl (Nat.le_of_ble_eq_true rfl) ⟨by decide, by decide⟩ ⟨by decide, by decide⟩ rfl (fun v9 L9 f9 hq => ?_)
    obtain ⟨rfl, rfl, rfl⟩ := hq
    refine G.sk (st' := []) rfl ?_
    refine g_aload (n := 81) C dX5_step_79 rfl (Or.inr ⟨_, rfl⟩) rfl ?_
    refine g_get (n := 84) C dX5_step_81 kF_X5_103 (hL5.ne (gH.apart hL5 hbo1 (fun e => by cases e))) rfl rfl ?_
    refine g_iret C hr dX5_step_84 ?_ ⟨by decide, by decide⟩
    intro b A9 I9 hgo
    rcases hgo with ⟨hf, -⟩ | ⟨-, its2, fm2, k2, n2, hi2, hl2, rfl, -, hc2⟩
    · exact absurd hf hnf
    have y1 := itsP_u hi2 hits
    subst y1
    have y2 := lst_u hl2 hlst
    subst y2
    have hkey : k2 = k1 ∧ n2 = n1 ∧ (n1 ≤ n + 1) ∧ A9 = A1 ∧ iV I9 n1 (nI (if t + 1 = c then 0 else 1)) (nI (if t + 1 = c then 1 else 0)) (nI c) (nI (t + 1)) (nI k1) (I1 25) (I1 26) := by
      rcases hcase with ⟨c1, rfl, c3, c4⟩ | ⟨c1, c2, rfl, c4, c5⟩ <;> rcases hc2 with ⟨b1, rfl, b3, b4⟩ | ⟨b1, b2, rfl, b4, b5⟩
      · have hk9 : k2 = k1 := by omega
        subst hk9
        refine ⟨rfl, rfl, Nat.le_succ _, by rw [b3, c3], ?_⟩
        rw [c4]
        have e26 : I 26 + nI 0 = I 26 := Int32.add_zero _
        rw [e26] at b4
        exact b4
      · omega
      · omega
      · subst c2
        subst b2
        refine ⟨rfl, rfl, Nat.le_refl _, lfR_u b4 c4, ?_⟩
        rw [c5]
        have e25 : I 25 + nI 0 = I 25 := Int32.add_zero _
        rw [e25] at b5
        exact b5
    obtain ⟨rfl, rfl, hn1, rfl, i7, i17, i18, i19, i20, i24, i25, i26⟩ := hkey
    have hbu2 : buC bk1 n2 A9 I9 PL1 (t + 1) c (some (bk1 (100 + 4 * k2))) := by
      by_cases h0 : t + 1 = c
      · rw [if_pos h0] at i17 i18
        exact Or.inr ⟨i17, h0, Or.inr ⟨i18, k2, hk1, i24, by rw [if_pos h81]⟩⟩
      · rw [if_neg h0] at i17 i18
        exact Or.inl ⟨i17, i18, i19, i20, by omega, k2, hk1, i24, h81, by rw [hp91, jpl], rfl⟩
    have h9 := hR1.setBu (A' := A9) (I' := I9) (t := t + 1) (c := c) (ly := some (bk1 (100 + 4 * k2))) (bs := bs1) (g := gg1) (by omega) hc9 hpp1 hpp2 hbu2 (fun _ _ _ => rfl) (i7.trans hR1.nv.1.symm) i25 i26
    rw [upf_id hpr1.2, upf_id hpl1.2] at h9
    refine ⟨rfl, bk1, n2, _, Is, PR1, PL1, S1, hex.1 0 (by omega), h9, fun c2 t2 z1 z2 z3 z4 z5 => ?_, hC1⟩
    have x1 := gn_inj (by omega) (by omega) (z2.symm.trans i19)
    have x2 := gn_inj (by omega) (by omega) (z3.symm.trans i20)
    omega
  · have hfail := (cf_iff hF q2).mp (cdb_t hw8 h49)
    refine g_aload_n (n := 53) C dX5_step_52 rfl (Or.inr ⟨_, rfl⟩) rfl ?_
    refine g_get (n := 56) C dX5_step_53 kF_X5_40 (by assumption) rfl rfl ?_
    refine g_V (n := 59) (rest := []) C (k5_fail hE hl hpl hpr hbo) dX5_step_56 kM_X0_fail kL_X5_129 kV_X0_fail hbo rfl rfl rfl (Nat.le_of_ble_eq_true rfl) ⟨by decide, by decide⟩ ⟨by decide, by decide⟩ rfl (fun v9 L9 f9 hq => ?_)
    obtain ⟨rfl, rfl, rfl⟩ := hq
    refine G.sk (st' := []) rfl ?_
    refine g_iconst (n := 60) (v := -1) C dX5_step_59 rfl rfl ?_
    refine g_iret C hr dX5_step_60 ?_ ⟨by decide, by decide⟩
    intro b A1 I1 hgo
    rcases hgo with ⟨hf, rfl, rfl, ⟨i7, i17, i18, i19, i20, i24, i25, i26⟩, -⟩ | ⟨hf, -⟩
    rotate_left
    · exact absurd hfail hf
    have h9 := hR.setBu (A' := A1) (I' := I1) (t := c) (c := c) (ly := none) (bs := bs) (g := g) (Nat.le_refl _) hc9 hp1 hp2 (Or.inr ⟨i17, rfl, Or.inl ⟨i18, rfl⟩⟩) (fun _ _ _ => rfl) (i7.trans hR.nv.1.symm) i25 i26
    rw [upf_id hpr.2, upf_id hpl.2] at h9
    exact ⟨rfl, bk, n, _, Is, PR, PL, S, rfl, h9, fun c2 t2 z1 => absurd (i17.symm.trans z1) (by decide), hC9⟩

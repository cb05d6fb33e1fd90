/-! ===== the class, XX: a step ===== -/
theorem vIns_c {what a b : Int32} (h : vIns what a b) : vIns what a (if what = nI 3 then -1 else b) := by
  by_cases e : what = nI 3
  · rw [if_pos e]
    subst e
    rcases h with ⟨h, -⟩ | ⟨h, -⟩ | ⟨h, -⟩ | ⟨-, h⟩ | ⟨h, -⟩
    · exact absurd h (by decide)
    · exact absurd h (by decide)
    · exact absurd h (by decide)
    · exact Or.inr (Or.inr (Or.inr (Or.inl ⟨rfl, h⟩)))
    · exact absurd h (by decide)
  · rw [if_neg e]; exact h
theorem itsP_0 {A : Nat → Nat → Int32} {what a its : Int32} (h : itsP A what a its) (e : what ≠ nI 0) : its = nI 0 := by
  rcases h with ⟨h, -⟩ | ⟨-, h⟩
  · exact absurd h e
  · exact h
theorem mkA_r {A : Nat → Nat → Int32} {n m r j : Nat} (h : r < 8 ∨ 15 < r) : mkA A n m r j = A r j := mkA_k (by omega)
theorem k5_layerOfStep {l : Launch} {s0 : State} {D : va_G} {cy : Nat → ClassId} (hE : gE s0 D cy) (hl : l.stackTraces = false) {L : List Nat} {f : gF} {bk : Nat → Nat} {n : Nat} {X : Nat → va_E} {Is : Nat → Option iT} {PR PL : Nat → Nat} {S A : Nat → Nat → Int32} {I : Nat → Int32} (hR : RC cy bk n X Is PR PL S A I L f) (hC9 : pCt n A S) {k0 : Nat} (hk0 : k0 < n) (h8 : A 8 k0 = 0) (hd : PL k0 + 1 ≤ 10) (hn : n < 420) {i9 : Nat} {what a b its x : Int32} (hin9 : insR (Is i9) what a b) (hx9 : x = if what = nI 0 then its else -1) (hits : itsP A what a its) (hf : ¬ failP A S k0 what a) : gM l s0 D yX5_layerOfStep cX5_layerOfStep 6 (some (.object RX2)) 5 4 36 [.ref (bk 0), .ref (bk (100 + 4 * k0)), .ref i9, .int x] L f (fun v L1 f1 => ∃ fm k1 n1 A1 I1 bk1 X1 PR1 PL1 S1, v = some (.ref (bk1 (100 + 4 * k1))) ∧ lst (mdP A k0 what a b its) 0 n fm ∧ ((fm = k1 + 1 ∧ n1 = n ∧ A1 = A ∧ I1 = va_up I 25 (I 25 + nI 1)) ∨ (fm = 0 ∧ k1 = n ∧ n1 = n + 1 ∧ lfR A n k0 S what a b its A1 ∧ I1 = va_up (va_up I 26 (I 26 + nI 1)) 7 (nI (n + 1)))) ∧ RC cy bk1 n1 X1 Is PR1 PL1 S1 A1 I1 L1 f1 ∧ k1 < n1 ∧ A1 8 k1 = 0 ∧ PL1 k1 = PL k0 + 1 ∧ pCt n1 A1 S1 ∧ exG n bk PR PL S bk1 PR1 PL1 S1 ∧ ∀ k j, (k < 8 ∨ 15 < k) → A1 k j = A k j) := by
  refine gM.of (own := RX5) hE hl (by decide +kernel) rfl rfl (Nat.le_of_ble_eq_true rfl) (fun p9 e9 s9 m9 a99 b99 t99 c9 C hr hnm => ?_)
  refine G.weak (ls' := [some (.ref (bk 0)), some (.ref (bk (100 + 4 * k0))), some (.ref i9), some (.int x), none, none]) ?_ rfl (fun _ _ h => h)
  have hco := hR.co
  obtain ⟨gs, hso, -⟩ := hR.st
  obtain ⟨hI7, hn9, hPR, hSh, hPL, hPb, -⟩ := hR.nv
  refine g_aload_n (n := 1) C dX5_layerOfStep_0 rfl (Or.inr ⟨_, rfl⟩) rfl ?_
  refine g_get (n := 4) C dX5_layerOfStep_1 kF_X5_33 (by assumption) rfl rfl ?_
  refine g_aload_n (n := 5) C dX5_layerOfStep_4 rfl (Or.inr ⟨_, rfl⟩) rfl ?_
  refine g_aload_n (n := 6) C dX5_layerOfStep_5 rfl (Or.inr ⟨_, rfl⟩) rfl ?_
  refine g_iload_n (n := 7) C dX5_layerOfStep_6 rfl rfl ?_
  refine g_V (n := 10) (rest := []) C (k5_findMade hE hl hR hk0 hin9 hx9 (itsP_0 hits)) dX5_layerOfStep_7 kM_X4_findMade kL_X5_281 kV_X4_findMade hso rfl rfl rfl (Nat.le_of_ble_eq_true rfl) ⟨by decide, by decide⟩ ⟨by decide, by decide⟩ rfl (fun v9 L9 f9 hq => ?_)
  obtain ⟨⟨m, rfl, hm⟩, rfl, rfl⟩ := hq
  refine G.sk (st' := [_]) rfl ?_
  refine g_astore (n := 12) (ls' := [_, _, _, _, _, _]) C dX5_layerOfStep_10 (rf_or _) rfl (by decide) rfl ?_
  refine g_aload (n := 14) C dX5_layerOfStep_12 rfl (rf_or _) rfl ?_
  refine g_ifnull (n := 17) (tgt := 30) C dX5_layerOfStep_14 (by decide) rfl (fun h14 => ?_) (fun a14 h14 => ?_)
  · have e9 := pR_none h14
    subst e9
    refine g_aload_n (n := 31) C dX5_layerOfStep_30 rfl (Or.inr ⟨_, rfl⟩) rfl ?_
    refine g_dup (n := 32) C dX5_layerOfStep_31 rfl rfl ?_
    refine g_get (n := 35) C dX5_layerOfStep_32 kF_X5_169 (by assumption) rfl rfl ?_
    refine g_iconst (n := 36) (v := nI 1) C dX5_layerOfStep_35 rfl rfl ?_
    refine g_iadd (n := 37) C dX5_layerOfStep_36 rfl ?_
    refine g_put (n := 40) C dX5_layerOfStep_37 kP_X5_169 (by assumption) ⟨rfl, rfl⟩ (Nat.le_of_ble_eq_true rfl) rfl ?_
    have hR1 := hR.setCo (I' := va_up I 26 (I 26 + nI 1)) (fun k h1 h2 => va_up_ne _ _ h2)
    obtain ⟨gs1, hso1, -⟩ := hR1.st
    refine g_aload_n (n := 41) C dX5_layerOfStep_40 rfl (Or.inr ⟨_, rfl⟩) rfl ?_
    refine g_get (n := 44) C dX5_layerOfStep_41 kF_X5_33 hR1.co rfl rfl ?_
    refine g_aload_n (n := 45) C dX5_layerOfStep_44 rfl (Or.inr ⟨_, rfl⟩) rfl ?_
    refine g_V (n := 48) (rest := []) C (k5_newChild hE hl hR1 hk0 hn hd h8) dX5_layerOfStep_45 kM_X4_newChild kL_X5_205 kV_X4_newChild hso1 rfl rfl rfl (Nat.le_of_ble_eq_true rfl) ⟨by decide, by decide⟩ ⟨by decide, by decide⟩ rfl (fun v9 L9 f9 hq => ?_)
    obtain ⟨bk1, X1, rfl, hR2, hex⟩ := hq
    obtain ⟨h, s, v, m9, ip, hL, hh, hs, hv, q1, q2, q3, -⟩ := hR2.lk (Nat.lt_succ_self n)
    refine G.sk (st' := [_]) rfl ?_
    refine g_astore (n := 50) (ls' := [_, _, _, _, _, _]) C dX5_layerOfStep_48 (Or.inr ⟨_, rfl⟩) rfl (by decide) rfl ?_
    refine g_aload (n := 52) C dX5_layerOfStep_50 rfl (Or.inr ⟨_, rfl⟩) rfl ?_
    refine g_aload_n (n := 53) C dX5_layerOfStep_52 rfl (Or.inr ⟨_, rfl⟩) rfl ?_
    refine g_iload_n (n := 54) C dX5_layerOfStep_53 rfl rfl ?_
    refine g_V (n := 57) (rest := []) C (k5_becomeMadeBy hE hl hL hh hs hv (hR2.ic hin9.1) (hR2.sh (Nat.lt_succ_self n)) (vIns_c hin9.2.1) x) dX5_layerOfStep_54 kM_X2_becomeMadeBy kL_X5_284 kV_X2_becomeMadeBy hL rfl rfl rfl (Nat.le_of_ble_eq_true rfl) ⟨by decide, by decide⟩ ⟨by decide, by decide⟩ rfl (fun v9 L9 f9 hq => ?_)
    obtain ⟨rfl, rfl, H1, S1, V1, rfl, hca⟩ := hq
    refine G.sk (st' := []) rfl ?_
    refine g_aload (n := 59) C dX5_layerOfStep_57 rfl (Or.inr ⟨_, rfl⟩) rfl ?_
    refine g_aret (o := (some (bk1 (100 + 4 * n)))) C hr (Or.inl ⟨_, rfl⟩) dX5_layerOfStep_59 ?_ ⟨by decide, by decide⟩
    obtain ⟨A1, hlf, hw1, hex1, c12, c13, c14, c15⟩ := la_case hC9 hk0 (Wt.mk hC9 hk0 q1 (fun q hq => (q2 q hq).trans Sx_n) q3) hin9.2.1 rfl hx9 hits hf hca
    have hsp : ∀ q, spr (Sx S n (fun q => shw (mkA A n (k0 + 1) 10 (12 * n + q)) (k0 + 1) S q)) q (k0 + 1) = spr S q (k0 + 1) := fun q => spr_x hk0
    have hR3 := hR2.lay (k := n) (A' := A1) rfl hex1.1 hex1.2.1 hex1.2.2.1 hex1.2.2.2 hw1.1 (S9 := S1) (fun q hq => by rw [PRx_n, shw_e (hsp q)]; exact hw1.2.1 q hq) hw1.2.2.1 (m := some i9) (ip := x) (Or.inr ⟨i9, rfl, by rw [c12, c13, c14]; exact hin9, by rw [c12, c15]; exact hx9, by rw [c12, c15]; exact itsP_0 hits⟩)
    refine ⟨0, n, n + 1, A1, _, bk1, _, _, _, _, rfl, hm, Or.inr ⟨rfl, rfl, rfl, hlf, rfl⟩, hR3, Nat.lt_succ_self n, (hex1.1 8 n (Or.inl (by decide))).trans grA_mk.2.2.1, PRx_n, ?_, ⟨hex.1, fun k hk => ⟨(hex.2 k hk).1, (hex.2 k hk).2.1, fun q hq => (Sx_o hk).trans ((hex.2 k hk).2.2 q hq)⟩⟩, fun k j h => (hex1.1 k j (by omega)).trans (mkA_r h)⟩
    obtain ⟨p1, p2, p3, p4⟩ := hC9
    refine ⟨fun j hj => by rw [hex1.1 0 j (Or.inl (by decide)), mkA_r (by decide)]; exact p1 j hj, fun j hj => by rw [hex1.1 1 j (Or.inl (by decide)), mkA_r (by decide)]; exact p2 j hj, fun k q hk hq => ?_, fun k q hk hq => ?_⟩
    · by_cases e : k = n
      · rw [e, Sx_n, PRx_n, shw_e (hsp q)]
        exact shw_ok (hw1.2.2.2.1 q hq) (p3 k0 q hk0 hq)
      · rw [Sx_o (by omega), Sx_o (by omega)]; exact p3 k q (by omega) hq
    · by_cases e : k = n
      · rw [e]; exact hw1.2.2.2.2 q hq
      · rw [hex1.2.2.1 k q (by omega) hq, mkA_11 (by omega) hq]; exact p4 k q (by omega) hq
  · obtain ⟨k1, rfl, rfl⟩ := pR_some h14
    refine g_aload_n (n := 18) C dX5_layerOfStep_17 rfl (Or.inr ⟨_, rfl⟩) rfl ?_
    refine g_dup (n := 19) C dX5_layerOfStep_18 rfl rfl ?_
    refine g_get (n := 22) C dX5_layerOfStep_19 kF_X5_166 (by assumption) rfl rfl ?_
    refine g_iconst (n := 23) (v := nI 1) C dX5_layerOfStep_22 rfl rfl ?_
    refine g_iadd (n := 24) C dX5_layerOfStep_23 rfl ?_
    refine g_put (n := 27) C dX5_layerOfStep_24 kP_X5_166 (by assumption) ⟨rfl, rfl⟩ (Nat.le_of_ble_eq_true rfl) rfl ?_
    have hR1 := hR.setCo (I' := va_up I 25 (I 25 + nI 1)) (fun k h1 h2 => va_up_ne _ _ h1)
    refine g_aload (n := 29) C dX5_layerOfStep_27 rfl (rf_or _) rfl ?_
    refine g_aret (o := (some (bk (100 + 4 * k1)))) C hr (Or.inl ⟨_, rfl⟩) dX5_layerOfStep_29 ?_ ⟨by decide, by decide⟩
    have hm2 := hm
    rcases hm2 with ⟨h, -⟩ | ⟨j0, e0, h1, h2, h3, h4⟩
    · cases h
    · have e00 := Nat.succ.inj e0
      subst e00
      have hp0 : PR k1 = k0 + 1 := pI_inj ((hPR k1 h2).2.symm.trans h3.2.2.1) (by have := (hPR k1 h2).1; omega) (by omega)
      exact ⟨k1 + 1, k1, n, A, _, bk, _, PR, PL, S, rfl, hm, Or.inl ⟨rfl, rfl, rfl, rfl⟩, hR1, h2, h3.1, by rw [hPL k1 h2, hp0]; rfl, hC9, exG.rf, fun _ _ _ => rfl⟩

/-! ===== the class, XXV: prune, its code ===== -/
theorem cnt_no {A : Nat → Nat → Int32} {gg : Nat → Int32} {i : Nat} (h : ¬ (gg i = nI 0 ∧ A 8 i = 0)) : cntN A gg (i + 1) = cntN A gg i := by
  show cntN A gg i + (if gg i = nI 0 ∧ A 8 i = nI 0 then 1 else 0) = cntN A gg i
  rw [if_neg (show ¬ (gg i = nI 0 ∧ A 8 i = nI 0) from h)]; rfl
theorem cnt_ye {A : Nat → Nat → Int32} {gg : Nat → Int32} {i : Nat} (h : gg i = nI 0 ∧ A 8 i = 0) : cntN A gg i + 1 = cntN A gg (i + 1) := by
  show cntN A gg i + 1 = cntN A gg i + (if gg i = nI 0 ∧ A 8 i = nI 0 then 1 else 0)
  rw [if_pos (show gg i = nI 0 ∧ A 8 i = nI 0 from h)]
theorem prG_d {gg : Nat → Int32} {g g1 : Nat → Option Nat} {i : Nat} (h : ∀ k, g1 k = prG gg g i k) (hd : g i = none) (k : Nat) : g1 k = prG gg g (i + 1) k := by
  rw [h k]
  unfold prG
  by_cases e : k = i
  · subst e
    rw [if_neg (fun z => absurd z.1 (Nat.lt_irrefl _)), hd]
    by_cases e2 : k < k + 1 ∧ gg k = nI 0
    · rw [if_pos e2]
    · rw [if_neg e2]
  · by_cases e2 : k < i ∧ gg k = nI 0
    · rw [if_pos e2, if_pos ⟨by omega, e2.2⟩]
    · rw [if_neg e2, if_neg (fun z => e2 ⟨by omega, z.2⟩)]
theorem prG_k {gg : Nat → Int32} {g g1 : Nat → Option Nat} {i : Nat} (h : ∀ k, g1 k = prG gg g i k) (hd : ¬ gg i = nI 0) (k : Nat) : g1 k = prG gg g (i + 1) k := by
  rw [h k]
  unfold prG
  by_cases e : k = i
  · subst e
    rw [if_neg (fun z => hd z.2), if_neg (fun z => hd z.2)]
  · by_cases e2 : k < i ∧ gg k = nI 0
    · rw [if_pos e2, if_pos ⟨by omega, e2.2⟩]
    · rw [if_neg e2, if_neg (fun z => e2 ⟨by omega, z.2⟩)]
theorem prG_n {gg : Nat → Int32} {g g1 : Nat → Option Nat} {i : Nat} (h : ∀ k, g1 k = prG gg g i k) (hd : gg i = nI 0) (k : Nat) : va_up g1 i none k = prG gg g (i + 1) k := by
  by_cases e : k = i
  · subst e
    rw [va_up_self]
    unfold prG
    rw [if_pos ⟨Nat.lt_succ_self k, hd⟩]
  · rw [va_up_ne _ _ e, h k]
    unfold prG
    by_cases e2 : k < i ∧ gg k = nI 0
    · rw [if_pos e2, if_pos ⟨by omega, e2.2⟩]
    · rw [if_neg e2, if_neg (fun z => e2 ⟨by omega, z.2⟩)]
theorem k5_prune {l : Launch} {s0 : State} {D : va_G} {cy : Nat → ClassId} (hE : gE s0 D cy) (hl : l.stackTraces = false) {L : List Nat} {f : gF} {bk : Nat → Nat} {n : Nat} {X : Nat → va_E} {Is : Nat → Option iT} {PR PL : Nat → Nat} {S A : Nat → Nat → Int32} {I : Nat → Int32} (hR : RC cy bk n X Is PR PL S A I L f) (hB9 : rmB n I) (hC9 : pCt n A S) {TG : Nat → Nat} (hTG : vTag A n TG) : gX l s0 D yX5_prune cX5_prune 4 (some .int) 8 1 6 [.ref (bk 0)] L f (uQ cy (bk 0) (fun b A1 I1 => ∃ w, cd2 (I 17 = 0) w ∧ I1 = va_up I 27 (nI w) ∧ (w = 0 → ∃ g, (∀ k, k < n → (g k = nI 0 ∨ g k = nI 1) ∧ (g k = nI 1 ↔ kep PR TG 5 k)) ∧ b = nI (cntN A g n) ∧ A1 = stp A g n) ∧ (w ≠ 0 → A1 = A))) (uX [xS] A I (fun b A1 I1 => ∃ w, cd2 (I 17 = 0) w ∧ I1 = va_up I 27 (nI w) ∧ (w = 0 → ∃ g, (∀ k, k < n → (g k = nI 0 ∨ g k = nI 1) ∧ (g k = nI 1 ↔ kep PR TG 5 k)) ∧ b = nI (cntN A g n) ∧ A1 = stp A g n) ∧ (w ≠ 0 → A1 = A))) := by
  refine gX.of (own := RX5) hE hl (by decide +kernel) rfl rfl (Nat.le_of_ble_eq_true rfl) (fun p9 e9 s9 m9 a99 b99 t99 c9 C hr hno => ?_)
  refine G.weak (ls' := [some (.ref (bk 0)), none, none, none]) ?_ rfl (fun _ _ h => h)
  refine g_aload_n (n := 1) C dX5_prune_0 rfl (Or.inr ⟨_, rfl⟩) rfl ?_
  refine g_VX (n := 4) (rest := []) C hno (k5_reqNoBuild hE hl hR) dX5_prune_1 kM_X5_requireNoBuild kW_X5_86 kV_X5_requireNoBuild hR.co rfl rfl rfl (Nat.le_of_ble_eq_true rfl) ⟨by decide, by decide⟩ ⟨by decide, by decide⟩ rfl (fun E h => by
      rcases h with ⟨rfl, h9⟩
      intro b A1 I1 hr
      obtain ⟨w, hw, hI, -, hf⟩ := hr
      have e9 : w = 1 := cd2_1 hw h9
      subst e9
      exact ⟨1, by decide, by decide, by rw [hI]; rfl, rfl, hf (by decide), hI⟩) ⟨by decide, by decide⟩ (fun v9 L9 f9 hq => ?_)
  obtain ⟨rfl, h17, rfl, rfl⟩ := hq
  refine G.sk (st' := []) rfl ?_
  have hco := hR.co
  obtain ⟨hst8, g, hst9, hg1, hg2⟩ := hR.2.2.2.2.2.2.1
  have hso := hR.1.at (bv n (by decide)) hst8
  have hrow := hR.1.at (bv n (by decide)) hst9
  obtain ⟨t, c, ly, bs, ht9, hc9, hb10, hprw, hbu⟩ := hR.2.2.2.2.2.2.2.1
  have hprw2 := hprw
  obtain ⟨hp1, gp, hp2, -, -⟩ := hprw2
  have hbo := hR.1.at (bv n (by decide)) hb10
  have hpl := hR.1.at (bv n (by decide)) hp1
  have hpr := hR.1.at (bv n (by decide)) hp2
  obtain ⟨gt, hta, hgt⟩ := hR.ta
  have hn9 := hR.nv.2.1
  obtain ⟨gg, hgg⟩ : ∃ gg : Nat → Int32, ∀ k, (gg k = nI 0 ∨ gg k = nI 1) ∧ (gg k = nI 1 ↔ kep PR TG 5 k) := by
    have h : ∀ k, ∃ x : Int32, (x = nI 0 ∨ x = nI 1) ∧ (x = nI 1 ↔ kep PR TG 5 k) := fun k => by
      by_cases e : kep PR TG 5 k
      · exact ⟨nI 1, Or.inr rfl, fun _ => e, fun _ => rfl⟩
      · exact ⟨nI 0, Or.inl rfl, fun z => absurd z (by decide), fun z => absurd z e⟩
    exact ⟨fun k => (h k).choose, fun k => (h k).choose_spec⟩
  refine g_iconst (n := 5) (v := nI 0) C dX5_prune_4 rfl rfl ?_
  refine g_istore_n (n := 6) (ls' := [_, _, _, _]) C dX5_prune_5 rfl (by decide) rfl ?_
  refine g_iconst (n := 7) (v := nI 0) C dX5_prune_6 rfl rfl ?_
  refine g_istore_n (n := 8) (ls' := [_, _, _, _]) C dX5_prune_7 rfl (by decide) rfl ?_
  refine g_loop (α := Nat × (Nat → Option Nat) × Option Nat × Option Value) (fun y => y.1 ≤ n ∧ (∀ k, y.2.1 k = prG gg g y.1 k) ∧ prL bk A gg ly y.1 y.2.2.1) (fun y => n - y.1) (fun _ => L) (fun y => va_up (va_up f (bk 9) (.inl (cy 5, 420, qR y.2.1))) (bk 10) (.inr (0, [.ref (bk 19), .int (nI t), va_rf y.2.2.1]))) (fun _ => 1) (fun _ => 6) 8 (fun y => [some (.ref (bk 0)), some (.int (nI (cntN A gg y.1))), some (.int (nI y.1)), y.2.2.2]) (fun _ => []) (fun y hy ih => ?_) (fun J => G.fx (by rw [upf_id hrow.2, upf_id hbo.2]) (J (0, g, ly, none) ⟨Nat.zero_le _, fun k => (if_neg (fun z => absurd z.1 (Nat.not_lt_zero k))).symm, Or.inl ⟨rfl, fun j hj => absurd hj (Nat.not_lt_zero j)⟩⟩))
  obtain ⟨i, g1, l1, o3⟩ := y
  obtain ⟨hi9, hgi, hli⟩ := hy
  dsimp only at hi9 hgi hli ih ⊢
  have hco1 := (hco.ne (e1 := .inl (cy 5, 420, qR g1)) (hR.1.ap (bv n (j := 0) (by decide)) (bv n (j := 9) (by decide)) (by decide))).ne (e1 := .inr (0, [.ref (bk 19), .int (nI t), va_rf l1])) (hR.1.ap (bv n (j := 0) (by decide)) (bv n (j := 10) (by decide)) (by decide))
  have hso1 := (hso.ne (e1 := .inl (cy 5, 420, qR g1)) (hR.1.ap (bv n (j := 8) (by decide)) (bv n (j := 9) (by decide)) (by decide))).ne (e1 := .inr (0, [.ref (bk 19), .int (nI t), va_rf l1])) (hR.1.ap (bv n (j := 8) (by decide)) (bv n (j := 10) (by decide)) (by decide))
  have hta1 := (hta.ne (e1 := .inl (cy 5, 420, qR g1)) (hR.1.ap (bv n (j := 7) (by decide)) (bv n (j := 9) (by decide)) (by decide))).ne (e1 := .inr (0, [.ref (bk 19), .int (nI t), va_rf l1])) (hR.1.ap (bv n (j := 7) (by decide)) (bv n (j := 10) (by decide)) (by decide))
  have hpl1 := (hpl.ne (e1 := .inl (cy 5, 420, qR g1)) (hR.1.ap (bv n (j := 19) (by decide)) (bv n (j := 9) (by decide)) (by decide))).ne (e1 := .inr (0, [.ref (bk 19), .int (nI t), va_rf l1])) (hR.1.ap (bv n (j := 19) (by decide)) (bv n (j := 10) (by decide)) (by decide))
  have hpr1 := (hpr.ne (e1 := .inl (cy 5, 420, qR g1)) (hR.1.ap (bv n (j := 20) (by decide)) (bv n (j := 9) (by decide)) (by decide))).ne (e1 := .inr (0, [.ref (bk 19), .int (nI t), va_rf l1])) (hR.1.ap (bv n (j := 20) (by decide)) (bv n (j := 10) (by decide)) (by decide))
  have hrow1 := (hrow.up (e1 := .inl (cy 5, 420, qR g1))).ne (e1 := .inr (0, [.ref (bk 19), .int (nI t), va_rf l1])) (hR.1.ap (bv n (j := 9) (by decide)) (bv n (j := 10) (by decide)) (by decide))
  have hbo1 := (hbo.ne (e1 := .inl (cy 5, 420, qR g1)) (hR.1.ap (bv n (j := 10) (by decide)) (bv n (j := 9) (by decide)) (by decide))).up (e1 := .inr (0, [.ref (bk 19), .int (nI t), va_rf l1]))
  have hlk1 : ∀ k, k < n → ∃ m ip, gH L (va_up (va_up f (bk 9) (.inl (cy 5, 420, qR g1))) (bk 10) (.inr (0, [.ref (bk 19), .int (nI t), va_rf l1]))) (bk (100 + 4 * k)) (.inr (2, [.int (nI k), va_rf (pR bk (PR k)), .int (nI (PL k)), .ref (bk (101 + 4 * k)), .ref (bk (102 + 4 * k)), .ref (bk (103 + 4 * k)), va_rf m, .int ip])) := fun k hk => by
    obtain ⟨h, s, v, m, ip, hL, -⟩ := hR.lk hk
    exact ⟨m, ip, (hL.ne (hR.1.ap (bw hk (r := 0) (by decide)) (bv n (j := 9) (by decide)) (by omega))).ne (hR.1.ap (bw hk (r := 0) (by decide)) (bv n (j := 10) (by decide)) (by omega))⟩
  refine g_iload_n (n := 9) C dX5_prune_8 rfl rfl ?_
  refine g_aload_n (n := 10) C dX5_prune_9 rfl (Or.inr ⟨_, rfl⟩) rfl ?_
  refine g_get (n := 13) C dX5_prune_10 kF_X5_33 hco1 rfl rfl ?_
  refine g_get (n := 16) C dX5_prune_13 kF_X5_215 hso1 rfl rfl ?_
  refine g_icmp_ge (n := 19) (tgt := 65) C dX5_prune_16 (by decide) rfl (fun h16 => ?_) (fun h16 => ?_)
  · have e9 : n = i := by have := gn_ge h16 (by omega) (by omega); omega
    subst e9
    refine g_iload_n (n := 66) C dX5_prune_65 rfl rfl ?_
    refine G.x ?_
    refine g_iret C hr dX5_prune_66 ?_ ⟨by decide, by decide⟩
    intro b A1 I1 hr
    obtain ⟨w, hw, hI, hz, -⟩ := hr
    have e9 := cd2_0 hw h17
    subst e9
    obtain ⟨g5, hg5, e2, e3⟩ := hz rfl
    have heq : ∀ k, k < n → gg k = g5 k := fun k hk => by
      rcases (hgg k).1 with e | e <;> rcases (hg5 k hk).1 with e1 | e1
      · rw [e, e1]
      · have h := ((hgg k).2).mpr (((hg5 k hk).2).mp e1)
        rw [e] at h; exact absurd h (by decide)
      · have h := ((hg5 k hk).2).mpr (((hgg k).2).mp e)
        rw [e1] at h; exact absurd h (by decide)
      · rw [e, e1]
    have hfin := hR.prn (A' := stp A g5 n) (I' := I1) (gg := gg) (g2 := g1) (l2 := l1) hTG (fun k _ => hgg k) hst9 hg1 hg2 hb10 hbu h17 ⟨bs, hprw⟩ hc9 hgi hli (fun k j h1 h2 => by unfold stp; rw [if_neg (by omega), if_neg (fun z => h2 z.1)]) (fun k hk => by unfold stp; rw [if_neg (by decide), if_pos ⟨rfl, hk⟩, heq k hk]) (fun k hk => by rw [hI]; exact va_up_ne _ _ hk)
    rw [e3, e2, ← cntN_c n (fun k hk => heq k hk)]
    refine ⟨by rw [hI]; rfl, rfl, bk, n, _, Is, PR, PL, S, rfl, hfin, hB9.cg (fun k hk => by rw [hI]; exact va_up_ne _ _ hk), hC9.cg (fun k j h => by unfold stp; rw [if_neg (by omega), if_neg (by omega)])⟩
  · have hi : i < n := gn_gt h16 (by omega) (by omega)
    refine g_aload_n (n := 20) C dX5_prune_19 rfl (Or.inr ⟨_, rfl⟩) rfl ?_
    refine g_get (n := 23) C dX5_prune_20 kF_X5_33 hco1 rfl rfl ?_
    refine g_iload_n (n := 24) C dX5_prune_23 rfl rfl ?_
    refine g_V (n := 27) (rest := []) C (k5_find hE hl hso1 hrow1 (nI i)) dX5_prune_24 kM_X4_find kL_X5_218 kV_X4_find hso1 rfl rfl rfl (Nat.le_of_ble_eq_true rfl) ⟨by decide, by decide⟩ ⟨by decide, by decide⟩ rfl (fun v9 L9 f9 hq => ?_)
    obtain ⟨⟨o, rfl, ho⟩, rfl, rfl⟩ := hq
    have ho2 : o = g i := by
      rcases ho with ⟨j, hj, e1, e2⟩ | ⟨h, -⟩
      · have := gn_inj (by omega) (by omega) e1
        subst this
        rw [e2, hgi i]
        exact if_neg (fun z => absurd z.1 (Nat.lt_irrefl i))
      · exact absurd (⟨i, by omega, rfl⟩ : gin (nI i) 420) h
    refine G.sk (st' := [_]) rfl ?_
    refine g_astore_n (n := 28) (ls' := [_, _, _, _]) C dX5_prune_27 (rf_or _) rfl (by decide) rfl ?_
    refine g_aload_n (n := 29) C dX5_prune_28 rfl (rf_or _) rfl ?_
    refine g_ifnull (n := 32) (tgt := 59) C dX5_prune_29 (by decide) rfl (fun h29 => ?_) (fun a29 h29 => ?_)
    · have hgd : g i = none := ho2.symm.trans h29
      have hdead : ¬ A 8 i = 0 := fun z => by rw [hg1 i hi, if_pos z] at hgd; cases hgd
      refine g_iinc (n := 62) (ls' := [_, _, _, _]) C dX5_prune_59 rfl (nI_1 _) rfl (by decide) rfl ?_
      refine g_goto (tgt := 8) C dX5_prune_62 (by decide) ?_
      first
      | (have hnp : ¬ (gg i = nI 0 ∧ A 8 i = 0) := fun z => hdead z.2
         have hc0 : cntN A gg i = cntN A gg (i + 1) := (cnt_no hnp).symm
         rw [hc0]
         exact ih (i + 1, g1, l1, _) ⟨hi, fun k => prG_d hgi hgd k, prL_s hli hnp⟩ (by show n - (i + 1) < n - i; omega))
      | (have hnp : ¬ (gg i = nI 0 ∧ A 8 i = 0) := fun z => by have h := ((hgg i).2).mpr h37; rw [h] at z; exact absurd z.1 (by decide)
         have hc0 : cntN A gg i = cntN A gg (i + 1) := (cnt_no hnp).symm
         rw [hc0]
         exact ih (i + 1, g1, l1, _) ⟨hi, fun k => prG_k hgi (fun z => by have h := ((hgg i).2).mpr h37; rw [h] at z; exact absurd z (by decide)) k, prL_s hli hnp⟩ (by show n - (i + 1) < n - i; omega))
      | (have hg0 : gg i = nI 0 := ((hgg i).1).resolve_right (fun z => h37 (((hgg i).2).mp z))
         rw [cnt_ye ⟨hg0, h8⟩, up_3 (hR.1.ap (bv n (j := 9) (by decide)) (bv n (j := 10) (by decide)) (by decide)), up_up]
         exact ih (i + 1, va_up g1 i none, _, _) ⟨hi, fun k => prG_n hgi hg0 k, prL_f hli hg0 h8⟩ (by show n - (i + 1) < n - i; omega))
    · have h8 : A 8 i = 0 := Classical.byContradiction fun q => by rw [ho2, hg1 i hi, if_neg q] at h29; cases h29
      have hoi : o = some (bk (100 + 4 * i)) := by rw [ho2, hg1 i hi, if_pos h8]
      subst hoi
      refine g_aload_n (n := 33) C dX5_prune_32 rfl (Or.inr ⟨_, rfl⟩) rfl ?_
      refine g_aload_n (n := 34) C dX5_prune_33 rfl (rf_or _) rfl ?_
      refine g_V (n := 37) (rest := []) C (k5_isInTaggedImage hE hl hR.nv hlk1 hco1 hta1 (TG := TG) (fun j hj => ⟨(hR.tg hTG hgt hj).1, (hTG j hj).1⟩) (fun a b ha hb e => hR.bj ha hb e) hi) dX5_prune_34 kM_X5_isInTaggedImage kL_X5_221 kV_X5_isInTaggedImage hco1 rfl rfl rfl (Nat.le_of_ble_eq_true rfl) ⟨by decide, by decide⟩ ⟨by decide, by decide⟩ rfl (fun v9 L9 f9 hq => ?_)
      obtain ⟨⟨w8, rfl, hw8⟩, rfl, rfl⟩ := hq
      refine G.sk (st' := [_]) rfl ?_
      refine g_if_ne (n := 40) (tgt := 59) C dX5_prune_37 (by decide) rfl (fun h37 => ?_) (fun h37 => ?_)
      · have h37 := cdb_t hw8 h37
        refine g_iinc (n := 62) (ls' := [_, _, _, _]) C dX5_prune_59 rfl (nI_1 _) rfl (by decide) rfl ?_
        refine g_goto (tgt := 8) C dX5_prune_62 (by decide) ?_
        first
        | (have hnp : ¬ (gg i = nI 0 ∧ A 8 i = 0) := fun z => hdead z.2
           have hc0 : cntN A gg i = cntN A gg (i + 1) := (cnt_no hnp).symm
           rw [hc0]
           exact ih (i + 1, g1, l1, _) ⟨hi, fun k => prG_d hgi hgd k, prL_s hli hnp⟩ (by show n - (i + 1) < n - i; omega))
        | (have hnp : ¬ (gg i = nI 0 ∧ A 8 i = 0) := fun z => by have h := ((hgg i).2).mpr h37; rw [h] at z; exact absurd z.1 (by decide)
           have hc0 : cntN A gg i = cntN A gg (i + 1) := (cnt_no hnp).symm
           rw [hc0]
           exact ih (i + 1, g1, l1, _) ⟨hi, fun k => prG_k hgi (fun z => by have h := ((hgg i).2).mpr h37; rw [h] at z; exact absurd z (by decide)) k, prL_s hli hnp⟩ (by show n - (i + 1) < n - i; omega))
        | (have hg0 : gg i = nI 0 := ((hgg i).1).resolve_right (fun z => h37 (((hgg i).2).mp z))
           rw [cnt_ye ⟨hg0, h8⟩, up_3 (hR.1.ap (bv n (j := 9) (by decide)) (bv n (j := 10) (by decide)) (by decide)), up_up]
           exact ih (i + 1, va_up g1 i none, _, _) ⟨hi, fun k => prG_n hgi hg0 k, prL_f hli hg0 h8⟩ (by show n - (i + 1) < n - i; omega))
      · have h37 := cdb_f hw8 h37
        refine g_aload_n (n := 41) C dX5_prune_40 rfl (Or.inr ⟨_, rfl⟩) rfl ?_
        refine g_get (n := 44) C dX5_prune_41 kF_X5_33 hco1 rfl rfl ?_
        refine g_iload_n (n := 45) C dX5_prune_44 rfl rfl ?_
        refine g_V (n := 48) (rest := []) C (k5_remove hE hl hso1 hrow1 (k := i) (by omega)) dX5_prune_45 kM_X4_remove kL_X5_225 kV_X4_remove hso1 rfl rfl rfl (Nat.le_of_ble_eq_true rfl) ⟨by decide, by decide⟩ ⟨by decide, by decide⟩ rfl (fun v9 L9 f9 hq => ?_)
        obtain ⟨rfl, rfl, rfl⟩ := hq
        have a9 : ∀ {j : Nat}, j < 21 → j ≠ 9 → bk j ≠ bk 9 := fun h h2 => hR.1.ap (bv n h) (bv n (j := 9) (by decide)) h2
        have hco2 := hco1.ne (e1 := .inl (cy 5, 420, qR (va_up g1 i none))) (a9 (j := 0) (by decide) (by decide))
        have hbo2 := hbo1.ne (e1 := .inl (cy 5, 420, qR (va_up g1 i none))) (a9 (j := 10) (by decide) (by decide))
        have hpl2 := hpl1.ne (e1 := .inl (cy 5, 420, qR (va_up g1 i none))) (a9 (j := 19) (by decide) (by decide))
        have hpr2 := hpr1.ne (e1 := .inl (cy 5, 420, qR (va_up g1 i none))) (a9 (j := 20) (by decide) (by decide))
        refine G.sk (st' := []) rfl ?_
        refine g_aload_n (n := 49) C dX5_prune_48 rfl (Or.inr ⟨_, rfl⟩) rfl ?_
        refine g_get (n := 52) C dX5_prune_49 kF_X5_40 hco2 rfl rfl ?_
        refine g_aload_n (n := 53) C dX5_prune_52 rfl (rf_or _) rfl ?_
        refine g_V (n := 56) (rest := []) C (k5_forget hE hl hpl2 hpr2 hbo2 (bk (100 + 4 * i))) dX5_prune_53 kM_X0_forget kL_X5_228 kV_X0_forget hbo2 rfl rfl rfl (Nat.le_of_ble_eq_true rfl) ⟨by decide, by decide⟩ ⟨by decide, by decide⟩ rfl (fun v9 L9 f9 hq => ?_)
        obtain ⟨rfl, rfl, rfl⟩ := hq
        refine G.sk (st' := []) rfl ?_
        refine g_iinc (n := 59) (ls' := [_, _, _, _]) C dX5_prune_56 rfl (nI_1 _) rfl (by decide) rfl ?_
        refine g_iinc (n := 62) (ls' := [_, _, _, _]) C dX5_prune_59 rfl (nI_1 _) rfl (by decide) rfl ?_
        refine g_goto (tgt := 8) C dX5_prune_62 (by decide) ?_
        first
        | (have hnp : ¬ (gg i = nI 0 ∧ A 8 i = 0) := fun z => hdead z.2
           have hc0 : cntN A gg i = cntN A gg (i + 1) := (cnt_no hnp).symm
           rw [hc0]
           exact ih (i + 1, g1, l1, _) ⟨hi, fun k => prG_d hgi hgd k, prL_s hli hnp⟩ (by show n - (i + 1) < n - i; omega))
        | (have hnp : ¬ (gg i = nI 0 ∧ A 8 i = 0) := fun z => by have h := ((hgg i).2).mpr h37; rw [h] at z; exact absurd z.1 (by decide)
           have hc0 : cntN A gg i = cntN A gg (i + 1) := (cnt_no hnp).symm
           rw [hc0]
           exact ih (i + 1, g1, l1, _) ⟨hi, fun k => prG_k hgi (fun z => by have h := ((hgg i).2).mpr h37; rw [h] at z; exact absurd z (by decide)) k, prL_s hli hnp⟩ (by show n - (i + 1) < n - i; omega))
        | (have hg0 : gg i = nI 0 := ((hgg i).1).resolve_right (fun z => h37 (((hgg i).2).mp z))
           rw [cnt_ye ⟨hg0, h8⟩, up_3 (hR.1.ap (bv n (j := 9) (by decide)) (bv n (j := 10) (by decide)) (by decide)), up_up]
           exact ih (i + 1, va_up g1 i none, _, _) ⟨hi, fun k => prG_n hgi hg0 k, prL_f hli hg0 h8⟩ (by show n - (i + 1) < n - i; omega))

/-! ===== the class, XII: new layers ===== -/
theorem hD2 : ∀ j, j < 8 → defaultValue (tyX2 j) = vp_V D2 j := by
  intro j hj
  rcases (show j = 0 ∨ j = 1 ∨ j = 2 ∨ j = 3 ∨ j = 4 ∨ j = 5 ∨ j = 6 ∨ j = 7 by omega) with rfl | rfl | rfl | rfl | rfl | rfl | rfl | rfl <;> rfl
def exG (n : Nat) (bk PR PL : Nat → Nat) (S : Nat → Nat → Int32) (bk1 PR1 PL1 : Nat → Nat) (S1 : Nat → Nat → Int32) : Prop := (∀ j, j < 100 + 4 * n → bk1 j = bk j) ∧ ∀ k, k < n → PR1 k = PR k ∧ PL1 k = PL k ∧ ∀ q, q < 12 → S1 k q = S k q
theorem exG.rf {n : Nat} {bk PR PL : Nat → Nat} {S : Nat → Nat → Int32} : exG n bk PR PL S bk PR PL S := ⟨fun _ _ => rfl, fun _ _ => ⟨rfl, rfl, fun _ _ => rfl⟩⟩
theorem exG.tr {n n1 : Nat} {bk PR PL bk1 PR1 PL1 bk2 PR2 PL2 : Nat → Nat} {S S1 S2 : Nat → Nat → Int32} (h : exG n bk PR PL S bk1 PR1 PL1 S1) (hn : n ≤ n1) (h2 : exG n1 bk1 PR1 PL1 S1 bk2 PR2 PL2 S2) : exG n bk PR PL S bk2 PR2 PL2 S2 :=
  ⟨fun j hj => (h2.1 j (by omega)).trans (h.1 j hj), fun k hk => ⟨(h2.2 k (by omega)).1.trans (h.2 k hk).1, (h2.2 k (by omega)).2.1.trans (h.2 k hk).2.1, fun q hq => ((h2.2 k (by omega)).2.2 q hq).trans ((h.2 k hk).2.2 q hq)⟩⟩
theorem exG.one {n m d a h s v : Nat} {bk PR PL : Nat → Nat} {S : Nat → Nat → Int32} {g : Nat → Int32} : exG n bk PR PL S (b4 bk n a h s v) (PRx PR n m) (PRx PL n d) (Sx S n g) :=
  ⟨fun j hj => b4_o hj, fun k hk => ⟨PRx_o hk, PRx_o hk, fun q _ => Sx_o hk⟩⟩
/-- contents that are shown -/
def cOK (x : Int32) : Prop := x = -1 ∨ gin x 10007
def pCt (n : Nat) (A S : Nat → Nat → Int32) : Prop := (∀ j, j < 8 → gct (A 0 j)) ∧ (∀ j, j < 36 → gct (A 1 j)) ∧ (∀ k q, k < n → q < 12 → cOK (S k q)) ∧ ∀ k q, k < n → q < 4 → gin (A 11 (4 * k + q)) 1000
theorem gct_2 {x : Int32} (h : gct x) : x ≠ -2 := by
  rintro rfl
  rcases h with h | ⟨j, hj, e⟩
  · exact absurd h (by decide)
  · exact gn_ne2 (by omega) e.symm
theorem gct_ok9 {x : Int32} (h : gct x) : cOK x := by
  rcases h with h | ⟨j, hj, e⟩
  · exact Or.inl h
  · exact Or.inr ⟨j, by omega, e⟩
theorem shw_n1 {m : Nat} {S : Nat → Nat → Int32} {q : Nat} : shw (-1) m S q = spr S q m := if_pos rfl
theorem mkA_10n {A : Nat → Nat → Int32} {n m q : Nat} (hq : q < 12) : mkA A n m 10 (12 * n + q) = -1 := by
  unfold mkA
  rw [mU_k (by decide), mU_k (by decide), mU_k (by decide), upR_k (by decide), upR_i hq]
theorem mkA_11n {A : Nat → Nat → Int32} {n m q : Nat} (hq : q < 4) : mkA A n m 11 (4 * n + q) = vOf A m q := by
  unfold mkA
  rw [mU_k (by decide), mU_k (by decide), mU_k (by decide), upR_i hq]
theorem rtA_10n {A : Nat → Nat → Int32} {n b q : Nat} (hq : q < 12) : rtA A n b 10 (12 * n + q) = A 1 (12 * b + q) := by
  unfold rtA
  rw [upR_i hq]
theorem rtA_11n {A : Nat → Nat → Int32} {n b q : Nat} (hq : q < 4) : rtA A n b 11 (4 * n + q) = nI 0 := by
  unfold rtA
  rw [upR_k (by decide), mkA_11n hq]
  rfl
theorem shw_0 {x : Int32} {S : Nat → Nat → Int32} {q : Nat} (h : x ≠ -2) : shw x 0 S q = x := by
  unfold shw
  by_cases e : x = -1
  · rw [if_pos e, e]; rfl
  · rw [if_neg e, if_neg h]
theorem pCt.rt {n b : Nat} {A S : Nat → Nat → Int32} (h : pCt n A S) (hb : b < 3) : pCt (n + 1) (rtA A n b) (Sx S n (fun q => shw (rtA A n b 10 (12 * n + q)) 0 S q)) := by
  obtain ⟨h1, h2, h3, h4⟩ := h
  refine ⟨fun j hj => by rw [rtA_k (by decide)]; exact h1 j hj, fun j hj => by rw [rtA_k (by decide)]; exact h2 j hj, fun k q hk hq => ?_, fun k q hk hq => ?_⟩
  · by_cases e : k = n
    · rw [e, Sx_n, rtA_10n hq, shw_0 (gct_2 (h2 _ (by omega)))]
      exact gct_ok9 (h2 _ (by omega))
    · rw [Sx_o (by omega)]; exact h3 k q (by omega) hq
  · by_cases e : k = n
    · rw [e, rtA_11n hq]; exact ⟨0, by decide, rfl⟩
    · rw [rtA_11 (by omega) hq]; exact h4 k q (by omega) hq
theorem pCt.mk {n k0 : Nat} {A S : Nat → Nat → Int32} (h : pCt n A S) (hk0 : k0 < n) : pCt (n + 1) (mkA A n (k0 + 1)) (Sx S n (fun q => shw (mkA A n (k0 + 1) 10 (12 * n + q)) (k0 + 1) S q)) := by
  obtain ⟨h1, h2, h3, h4⟩ := h
  refine ⟨fun j hj => by rw [mkA_k (by decide)]; exact h1 j hj, fun j hj => by rw [mkA_k (by decide)]; exact h2 j hj, fun k q hk hq => ?_, fun k q hk hq => ?_⟩
  · by_cases e : k = n
    · rw [e, Sx_n, mkA_10n hq, shw_n1]
      exact h3 k0 q hk0 hq
    · rw [Sx_o (by omega)]; exact h3 k q (by omega) hq
  · by_cases e : k = n
    · rw [e, mkA_11n hq]; exact h4 k0 q hk0 hq
    · rw [mkA_11 (by omega) hq]; exact h4 k q (by omega) hq
theorem k5_newChild {l : Launch} {s0 : State} {D : va_G} {cy : Nat → ClassId} (hE : gE s0 D cy) (hl : l.stackTraces = false) {L : List Nat} {f : gF} {bk : Nat → Nat} {n : Nat} {X : Nat → va_E} {Is : Nat → Option iT} {PR PL : Nat → Nat} {S A : Nat → Nat → Int32} {I : Nat → Int32} (hR : RC cy bk n X Is PR PL S A I L f) {k0 : Nat} (hk0 : k0 < n) (hn : n < 420) (hd : PL k0 + 1 ≤ 10) (h8 : A 8 k0 = 0) : gM l s0 D yX4_newChild cX4_newChild 2 (some (.object RX2)) 3 4 36 [.ref (bk 8), .ref (bk (100 + 4 * k0))] L f (fun v L1 f1 => ∃ bk1 X1, v = some (.ref (bk1 (100 + 4 * n))) ∧ RC cy bk1 (n + 1) X1 Is (PRx PR n (k0 + 1)) (PRx PL n (PL k0 + 1)) (Sx S n (fun q => shw (mkA A n (k0 + 1) 10 (12 * n + q)) (k0 + 1) S q)) (mkA A n (k0 + 1)) (va_up I 7 (nI (n + 1))) L1 f1 ∧ exG n bk PR PL S bk1 (PRx PR n (k0 + 1)) (PRx PL n (PL k0 + 1)) (Sx S n (fun q => shw (mkA A n (k0 + 1) 10 (12 * n + q)) (k0 + 1) S q))) := by
  refine gM.of (own := RX4) hE hl (by decide +kernel) rfl rfl (Nat.le_of_ble_eq_true rfl) (fun p9 e9 s9 m9 a99 b99 t99 c9 C hr hnm => ?_)
  refine G.weak (ls' := [some (.ref (bk 8)), some (.ref (bk (100 + 4 * k0)))]) ?_ rfl (fun _ _ h => h)
  obtain ⟨hst8, g, hst9, hg1, hg2⟩ := hR.2.2.2.2.2.2.1
  have hso := hR.1.at (bv n (by decide)) hst8
  have hrow := hR.1.at (bv n (by decide)) hst9
  obtain ⟨h0, s0f, v0, m0, ip0, hL0, hh0, hs0, hv0, q0, q1, q2, -⟩ := hR.lk hk0
  refine g_aload_n (n := 1) C dX4_newChild_0 rfl (Or.inr ⟨_, rfl⟩) rfl ?_
  refine g_new (n := 4) (ci := 2) (fs := D2) C tyX2 dX4_newChild_1 rfl uX2 tyX2_ok hD2 (List.mem_of_getElem? (i := 82) (by decide +kernel)) (List.mem_of_getElem? (i := 406) (by decide +kernel)) (List.mem_of_getElem? (i := 61) (by decide +kernel)) ⟨by decide, by decide⟩ rfl (fun a haL => ?_)
  refine g_dup (n := 5) C dX4_newChild_4 rfl rfl ?_
  refine g_aload_n (n := 6) C dX4_newChild_5 rfl (Or.inr ⟨_, rfl⟩) rfl ?_
  refine g_get (n := 9) C dX4_newChild_6 kF_X4_21 (hso.push haL) rfl rfl ?_
  refine g_aload_n (n := 10) C dX4_newChild_9 rfl (Or.inr ⟨_, rfl⟩) rfl ?_
  refine g_I (n := 13) (rest := [_, _]) C (k5_layChild hE hl gH.new (hL0.push haL) (hs0.push haL) (hv0.push haL) (gH.nq hL0 haL) (nI n)) dX4_newChild_10 kM_X2_init_ kL_X4_51 kI_X2_init_ rfl rfl (Nat.le_of_ble_eq_true rfl) ⟨by decide, by decide⟩ ⟨by decide, by decide⟩ rfl (fun v9 L9 f9 hq => ?_)
  obtain ⟨rfl, h, s, v, H, S9, V, hN, e1, e2, e3⟩ := hq
  refine G.sk (st' := [_, _]) rfl ?_
  refine g_V (n := 16) (rest := []) C (k5_kept hE hl (hN.1.at (hso.push haL) (gH.nq hso haL)) (hN.1.at (hrow.push haL) (gH.nq hrow haL)) hn hN.2.1) dX4_newChild_13 kM_X4_kept kL_X4_47 kV_X4_kept (hN.1.at (hso.push haL) (gH.nq hso haL)) rfl rfl rfl (Nat.le_of_ble_eq_true rfl) ⟨by decide, by decide⟩ ⟨by decide, by decide⟩ rfl (fun v9 L9 f9 hq => ?_)
  obtain ⟨rfl, rfl, rfl⟩ := hq
  refine G.sk (st' := [_]) rfl ?_
  refine g_aret (o := (some a)) C hr (Or.inl ⟨_, rfl⟩) dX4_newChild_16 ?_ ⟨by decide, by decide⟩
  obtain ⟨X2, hR2⟩ := hR.new (fun b hb => List.mem_append_left _ hb) haL (fun b hb => va_up_ne _ _ (show b ≠ a from fun z => haL (z ▸ hb))) (m := k0 + 1) hN hk0 hd hn (fun j hj => by have e := Nat.succ.inj hj; rw [← e]; exact h8) (A1 := mkA A n (k0 + 1)) grA_mk (fun q hq => by rw [e1 q hq, mkA_10n hq]) (fun q hq => by rw [e2 q hq, q1 q hq, mkA_10n hq, shw_n1]; rfl) (fun q hq => by rw [e3 q hq, q2 q hq, mkA_11n hq]; rfl) hst9 hg1 hg2
  exact ⟨_, X2, by rw [b4_0]; rfl, hR2, exG.one⟩
theorem k5_newRoot {l : Launch} {s0 : State} {D : va_G} {cy : Nat → ClassId} (hE : gE s0 D cy) (hl : l.stackTraces = false) {L : List Nat} {f : gF} {bk : Nat → Nat} {n : Nat} {X : Nat → va_E} {Is : Nat → Option iT} {PR PL : Nat → Nat} {S A : Nat → Nat → Int32} {I : Nat → Int32} (hR : RC cy bk n X Is PR PL S A I L f) {b : Nat} (hb : b < 3) (hn : n < 420) (hct : ∀ q, q < 12 → A 1 (12 * b + q) ≠ -2) : gM l s0 D yX4_newRoot cX4_newRoot 2 (some (.object RX2)) 3 4 36 [.ref (bk 8), .ref (bk (3 + b))] L f (fun v L1 f1 => ∃ bk1 X1, v = some (.ref (bk1 (100 + 4 * n))) ∧ RC cy bk1 (n + 1) X1 Is (PRx PR n 0) (PRx PL n 0) (Sx S n (fun q => shw (rtA A n b 10 (12 * n + q)) 0 S q)) (rtA A n b) (va_up I 7 (nI (n + 1))) L1 f1 ∧ exG n bk PR PL S bk1 (PRx PR n 0) (PRx PL n 0) (Sx S n (fun q => shw (rtA A n b 10 (12 * n + q)) 0 S q))) := by
  refine gM.of (own := RX4) hE hl (by decide +kernel) rfl rfl (Nat.le_of_ble_eq_true rfl) (fun p9 e9 s9 m9 a99 b99 t99 c9 C hr hnm => ?_)
  refine G.weak (ls' := [some (.ref (bk 8)), some (.ref (bk (3 + b)))]) ?_ rfl (fun _ _ h => h)
  obtain ⟨hst8, g, hst9, hg1, hg2⟩ := hR.2.2.2.2.2.2.1
  have hso := hR.1.at (bv n (by decide)) hst8
  have hrow := hR.1.at (bv n (by decide)) hst9
  obtain ⟨B, hB, hB9⟩ := hR.br hb
  refine g_aload_n (n := 1) C dX4_newRoot_0 rfl (Or.inr ⟨_, rfl⟩) rfl ?_
  refine g_new (n := 4) (ci := 2) (fs := D2) C tyX2 dX4_newRoot_1 rfl uX2 tyX2_ok hD2 (List.mem_of_getElem? (i := 82) (by decide +kernel)) (List.mem_of_getElem? (i := 406) (by decide +kernel)) (List.mem_of_getElem? (i := 61) (by decide +kernel)) ⟨by decide, by decide⟩ rfl (fun a haL => ?_)
  refine g_dup (n := 5) C dX4_newRoot_4 rfl rfl ?_
  refine g_aload_n (n := 6) C dX4_newRoot_5 rfl (Or.inr ⟨_, rfl⟩) rfl ?_
  refine g_get (n := 9) C dX4_newRoot_6 kF_X4_21 (hso.push haL) rfl rfl ?_
  refine g_aload_n (n := 10) C dX4_newRoot_9 rfl (Or.inr ⟨_, rfl⟩) rfl ?_
  refine g_I (n := 13) (rest := [_, _]) C (k5_layInit hE hl gH.new (hB.push haL) (nI n)) dX4_newRoot_10 kM_X2_init kL_X4_44 kI_X2_init rfl rfl (Nat.le_of_ble_eq_true rfl) ⟨by decide, by decide⟩ ⟨by decide, by decide⟩ rfl (fun v9 L9 f9 hq => ?_)
  obtain ⟨rfl, h, s, v, H, S9, V, hN, e1, e2, e3⟩ := hq
  refine G.sk (st' := [_, _]) rfl ?_
  refine g_V (n := 16) (rest := []) C (k5_kept hE hl (hN.1.at (hso.push haL) (gH.nq hso haL)) (hN.1.at (hrow.push haL) (gH.nq hrow haL)) hn hN.2.1) dX4_newRoot_13 kM_X4_kept kL_X4_47 kV_X4_kept (hN.1.at (hso.push haL) (gH.nq hso haL)) rfl rfl rfl (Nat.le_of_ble_eq_true rfl) ⟨by decide, by decide⟩ ⟨by decide, by decide⟩ rfl (fun v9 L9 f9 hq => ?_)
  obtain ⟨rfl, rfl, rfl⟩ := hq
  refine G.sk (st' := [_]) rfl ?_
  refine g_aret (o := (some a)) C hr (Or.inl ⟨_, rfl⟩) dX4_newRoot_16 ?_ ⟨by decide, by decide⟩
  obtain ⟨X2, hR2⟩ := hR.new (fun b hb => List.mem_append_left _ hb) haL (fun b hb => va_up_ne _ _ (show b ≠ a from fun z => haL (z ▸ hb))) (m := 0) hN (Nat.zero_le n) (Nat.zero_le _) hn (fun j hj => by cases hj) (A1 := rtA A n b) grA_rt (fun q hq => by rw [e1 q hq, hB9 q hq, rtA_10n hq]) (fun q hq => by rw [e2 q hq, hB9 q hq, rtA_10n hq, shw_0 (hct q hq)]) (fun q hq => by rw [e3 q hq, rtA_11n hq]) hst9 hg1 hg2
  exact ⟨_, X2, by rw [b4_0]; rfl, hR2, exG.one⟩
theorem k5_rootFor {l : Launch} {s0 : State} {D : va_G} {cy : Nat → ClassId} (hE : gE s0 D cy) (hl : l.stackTraces = false) {L : List Nat} {f : gF} {bk : Nat → Nat} {n : Nat} {X : Nat → va_E} {Is : Nat → Option iT} {PR PL : Nat → Nat} {S A : Nat → Nat → Int32} {I : Nat → Int32} (hR : RC cy bk n X Is PR PL S A I L f) {b : Nat} (hb : b < 3) (hn : n < 420) (hC9 : pCt n A S) : gM l s0 D yX5_rootFor cX5_rootFor 4 (some (.object RX2)) 4 4 36 [.ref (bk 0), .int (nI b)] L f (fun v L1 f1 => ∃ k1 n1 A1 bk1 X1 PR1 PL1 S1, v = some (.ref (bk1 (100 + 4 * k1))) ∧ rootR A n b k1 n1 A1 ∧ RC cy bk1 n1 X1 Is PR1 PL1 S1 A1 (va_up I 7 (nI n1)) L1 f1 ∧ k1 < n1 ∧ A1 8 k1 = 0 ∧ PL1 k1 = 0 ∧ pCt n1 A1 S1 ∧ n ≤ n1 ∧ n1 ≤ n + 1 ∧ exG n bk PR PL S bk1 PR1 PL1 S1) := by
  refine gM.of (own := RX5) hE hl (by decide +kernel) rfl rfl (Nat.le_of_ble_eq_true rfl) (fun p9 e9 s9 m9 a99 b99 t99 c9 C hr hnm => ?_)
  refine G.weak (ls' := [some (.ref (bk 0)), some (.int (nI b)), none, none]) ?_ rfl (fun _ _ h => h)
  refine g_aload_n (n := 1) C dX5_rootFor_0 rfl (Or.inr ⟨_, rfl⟩) rfl ?_
  refine g_iload_n (n := 2) C dX5_rootFor_1 rfl rfl ?_
  refine g_V (n := 5) (rest := []) C (k5_contentsOf hE hl hR hb) dX5_rootFor_2 kM_X5_contentsOf kL_X5_172 kV_X5_contentsOf hR.co rfl rfl rfl (Nat.le_of_ble_eq_true rfl) ⟨by decide, by decide⟩ ⟨by decide, by decide⟩ rfl (fun v9 L9 f9 hq => ?_)
  obtain ⟨rfl, rfl, rfl⟩ := hq
  refine G.sk (st' := [_]) rfl ?_
  have hco := hR.co
  obtain ⟨g, hso, -⟩ := hR.st
  refine g_astore_n (n := 6) (ls' := [_, _, _, _]) C dX5_rootFor_5 (Or.inr ⟨_, rfl⟩) rfl (by decide) rfl ?_
  refine g_aload_n (n := 7) C dX5_rootFor_6 rfl (Or.inr ⟨_, rfl⟩) rfl ?_
  refine g_get (n := 10) C dX5_rootFor_7 kF_X5_33 (by assumption) rfl rfl ?_
  refine g_aload_n (n := 11) C dX5_rootFor_10 rfl (Or.inr ⟨_, rfl⟩) rfl ?_
  refine g_V (n := 14) (rest := []) C (k5_findRoot hE hl hR hb) dX5_rootFor_11 kM_X4_findRoot kL_X5_274 kV_X4_findRoot (by assumption) rfl rfl rfl (Nat.le_of_ble_eq_true rfl) ⟨by decide, by decide⟩ ⟨by decide, by decide⟩ rfl (fun v9 L9 f9 hq => ?_)
  obtain ⟨⟨m, rfl, hm⟩, rfl, rfl⟩ := hq
  refine G.sk (st' := [_]) rfl ?_
  refine g_astore_n (n := 15) (ls' := [_, _, _, _]) C dX5_rootFor_14 (rf_or _) rfl (by decide) rfl ?_
  refine g_aload_n (n := 16) C dX5_rootFor_15 rfl (rf_or _) rfl ?_
  refine g_ifnonnull (n := 19) (tgt := 30) C dX5_rootFor_16 (by decide) rfl (fun a16 h16 => ?_) (fun h16 => ?_)
  · obtain ⟨k1, rfl, -⟩ := pR_some h16
    refine g_aload_n (n := 31) C dX5_rootFor_30 rfl (rf_or _) rfl ?_
    refine g_aret (o := (some _)) C hr (Or.inl ⟨_, rfl⟩) dX5_rootFor_31 ?_ ⟨by decide, by decide⟩
    first
    | exact ⟨n, n + 1, rtA A n b, bk1, X1, _, _, _, rfl, Or.inr ⟨hm, rfl, rfl, rfl⟩, hR1, Nat.lt_succ_self n, grA_rt.2.2.1, PRx_n, hC9.rt hb, Nat.le_succ n, Nat.le_refl _, hex⟩
    | (obtain ⟨hI7, hn9, hPR, -, hPL, -⟩ := hR.nv
       rcases hm with ⟨h, -⟩ | ⟨j0, e0, h1, h2, h3, h4⟩
       · cases h
       · have e00 := Nat.succ.inj e0
         subst e00
         have hp0 : PR k1 = 0 := pI_0 ((hPR k1 h2).2.symm.trans h3.1.2) (by have := (hPR k1 h2).1; omega)
         exact ⟨k1, n, A, bk, X, PR, PL, S, rfl, Or.inl ⟨Or.inr ⟨k1, rfl, h1, h2, h3, h4⟩, rfl, rfl⟩, by rw [upf_id hI7]; exact hR, h2, h3.1.1, by rw [hPL k1 h2, hp0]; rfl, hC9, Nat.le_refl n, Nat.le_succ n, exG.rf⟩)
  · have e9 := pR_none h16
    subst e9
    refine g_aload_n (n := 20) C dX5_rootFor_19 rfl (Or.inr ⟨_, rfl⟩) rfl ?_
    refine g_get (n := 23) C dX5_rootFor_20 kF_X5_33 (by assumption) rfl rfl ?_
    refine g_aload_n (n := 24) C dX5_rootFor_23 rfl (Or.inr ⟨_, rfl⟩) rfl ?_
    refine g_V (n := 27) (rest := []) C (k5_newRoot hE hl hR hb hn (fun q hq => gct_2 (hC9.2.1 _ (by omega)))) dX5_rootFor_24 kM_X4_newRoot kL_X5_278 kV_X4_newRoot (by assumption) rfl rfl rfl (Nat.le_of_ble_eq_true rfl) ⟨by decide, by decide⟩ ⟨by decide, by decide⟩ rfl (fun v9 L9 f9 hq => ?_)
    obtain ⟨bk1, X1, rfl, hR1, hex⟩ := hq
    refine G.sk (st' := [_]) rfl ?_
    refine g_goto (tgt := 31) C dX5_rootFor_27 (by decide) ?_
    refine g_aret (o := (some _)) C hr (Or.inl ⟨_, rfl⟩) dX5_rootFor_31 ?_ ⟨by decide, by decide⟩
    first
    | exact ⟨n, n + 1, rtA A n b, bk1, X1, _, _, _, rfl, Or.inr ⟨hm, rfl, rfl, rfl⟩, hR1, Nat.lt_succ_self n, grA_rt.2.2.1, PRx_n, hC9.rt hb, Nat.le_succ n, Nat.le_refl _, hex⟩
    | (obtain ⟨hI7, hn9, hPR, -, hPL, -⟩ := hR.nv
       rcases hm with ⟨h, -⟩ | ⟨j0, e0, h1, h2, h3, h4⟩
       · cases h
       · have e00 := Nat.succ.inj e0
         subst e00
         have hp0 : PR k1 = 0 := pI_0 ((hPR k1 h2).2.symm.trans h3.1.2) (by have := (hPR k1 h2).1; omega)
         exact ⟨k1, n, A, bk, X, PR, PL, S, rfl, Or.inl ⟨Or.inr ⟨k1, rfl, h1, h2, h3, h4⟩, rfl, rfl⟩, by rw [upf_id hI7]; exact hR, h2, h3.1.1, by rw [hPL k1 h2, hp0]; rfl, hC9, Nat.le_refl n, Nat.le_succ n, exG.rf⟩)

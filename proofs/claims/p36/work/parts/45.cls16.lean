/-! ===== the class, XVI: instructions that come and go ===== -/
theorem gin_lt {z : Int32} {N : Nat} (h : z < 0) (hN : N < 2 ^ 31) : ¬ gin z N := by
  rintro ⟨j, hj, rfl⟩
  rw [gn_lt, nI_toInt (by omega)] at h
  have e0 : (0 : Int32).toInt = 0 := by decide
  rw [e0] at h
  omega
theorem gin_gt {z : Int32} {N : Nat} (h : ¬ z ≤ nI N) (hN : N < 2 ^ 31 - 1) : ¬ gin z (N + 1) := by
  rintro ⟨j, hj, rfl⟩
  exact h ((nI_leI (by omega) (by omega)).mpr (by omega))
theorem gin_le {z : Int32} {N : Nat} (h : ¬ z < 0) (h2 : z ≤ nI N) (hN : N < 2 ^ 31 - 1) : gin z (N + 1) := by
  refine (gin_iff (by omega)).mp ⟨?_, ?_⟩
  · rw [gn_lt] at h
    rw [gn_le]
    omega
  · rw [gn_le, nI_toInt (by omega)] at h2
    rw [gn_lt, nI_toInt (by omega)]
    omega
theorem nf_ok {A : Nat → Nat → Int32} {i c : Nat} (hi : i < 4) (e3 : A 3 i = nI c) (hc : c < 10) : notFull A (nI i) := fun i2 hi2 e => by
  have := gn_inj (by omega) (by omega) e
  subst this
  rw [e3]
  exact fun z => by have := gn_inj (by omega) (by omega) z; omega
theorem dq_3 {A : Nat → Nat → Int32} {i m j q : Nat} : drA A i m j q 3 i = nI (m - 1) := by
  unfold drA
  rw [if_neg (by omega), mU_s]
theorem drA_k {A : Nat → Nat → Int32} {i m j q k p : Nat} (h : k < 3 ∨ 6 < k) : drA A i m j q k p = A k p := by
  unfold drA
  rw [if_neg (by omega), mU_k (by omega)]
theorem drA_3o {A : Nat → Nat → Int32} {i m j q p : Nat} (h : p ≠ i) : drA A i m j q 3 p = A 3 p := by
  unfold drA
  rw [if_neg (by omega), mU_j h]
theorem dq_o {A : Nat → Nat → Int32} {i m j q k p : Nat} (h : p < 10 * i + j ∨ 10 * i + j + q ≤ p) (hk : k ≠ 3) : drA A i m j q k p = A k p := by
  unfold drA
  rw [if_neg (by omega), mU_k hk]
theorem drA_i {A : Nat → Nat → Int32} {i m j q k p : Nat} (h : 10 * i + j ≤ p) (h2 : p < 10 * i + j + q) (hk : k = 4 ∨ k = 5 ∨ k = 6) : drA A i m j q k p = A k (p + 1) := by
  unfold drA
  rw [if_pos ⟨hk, h, h2⟩]
theorem k5_addCopy {l : Launch} {s0 : State} {D : va_G} {cy : Nat → ClassId} (hE : gE s0 D cy) (hl : l.stackTraces = false) {L : List Nat} {f : gF} {bk : Nat → Nat} {n : Nat} {X : Nat → va_E} {Is : Nat → Option iT} {PR PL : Nat → Nat} {S A : Nat → Nat → Int32} {I : Nat → Int32} (hR : RC cy bk n X Is PR PL S A I L f) (hB9 : rmB n I) (hC9 : pCt n A S) (x y z : Int32) : gX l s0 D yX5_addCopy cX5_addCopy 4 (some .int) 9 6 30 [.ref (bk 0), .int x, .int y, .int z] L f (uQ cy (bk 0) (fun b A1 I1 => ∃ w, cd3 (gin x 4 ∧ gin y 8 ∧ gin z 12) (notFull A x) w ∧ I1 = va_up I 27 (nI w) ∧ (w = 0 → addOK A x (nI 0) y z b A1) ∧ (w ≠ 0 → A1 = A))) (uX [xI, xS] A I (fun b A1 I1 => ∃ w, cd3 (gin x 4 ∧ gin y 8 ∧ gin z 12) (notFull A x) w ∧ I1 = va_up I 27 (nI w) ∧ (w = 0 → addOK A x (nI 0) y z b A1) ∧ (w ≠ 0 → A1 = A))) := by
  refine gX.of (own := RX5) hE hl (by decide +kernel) rfl rfl (Nat.le_of_ble_eq_true rfl) (fun p9 e9 s9 m9 a99 b99 t99 c9 C hr hno => ?_)
  refine G.weak (ls' := [some (.ref (bk 0)), some (.int x), some (.int y), some (.int z)]) ?_ rfl (fun _ _ h => h)
  refine g_iload_n (n := 1) C dX5_addCopy_0 rfl rfl ?_
  refine g_iconst (n := 2) (v := nI 4) C dX5_addCopy_1 rfl rfl ?_
  refine g_SX (n := 5) (rest := []) C hno (k5_reqIndex hE hl x (N := 4) (by decide)) dX5_addCopy_2 kM_X5_requireIndex kW_X5_51 kS_X5_requireIndex rfl rfl (Nat.le_of_ble_eq_true rfl) ⟨by decide, by decide⟩ ⟨by decide, by decide⟩ rfl (fun E h => by
      rcases h with ⟨rfl, h9⟩
      intro b A1 I1 hr
      obtain ⟨w, hw, hI, -, hf⟩ := hr
      have e9 : w = 1 := cd3_1 hw (fun z9 => h9 z9.1)
      subst e9
      exact ⟨1, by decide, by decide, by rw [hI]; rfl, rfl, hf (by decide), hI⟩) ⟨by decide, by decide⟩ (fun v9 L9 f9 hq => ?_)
  obtain ⟨rfl, ⟨i, hi, rfl⟩, rfl, rfl⟩ := hq
  refine G.sk (st' := []) rfl ?_
  refine g_iload_n (n := 6) C dX5_addCopy_5 rfl rfl ?_
  refine g_bipush (n := 8) (v := nI 8) C dX5_addCopy_6 rfl rfl ?_
  refine g_SX (n := 11) (rest := []) C hno (k5_reqIndex hE hl y (N := 8) (by decide)) dX5_addCopy_8 kM_X5_requireIndex kW_X5_51 kS_X5_requireIndex rfl rfl (Nat.le_of_ble_eq_true rfl) ⟨by decide, by decide⟩ ⟨by decide, by decide⟩ rfl (fun E h => by
      rcases h with ⟨rfl, h9⟩
      intro b A1 I1 hr
      obtain ⟨w, hw, hI, -, hf⟩ := hr
      have e9 : w = 1 := cd3_1 hw (fun z9 => h9 z9.2.1)
      subst e9
      exact ⟨1, by decide, by decide, by rw [hI]; rfl, rfl, hf (by decide), hI⟩) ⟨by decide, by decide⟩ (fun v9 L9 f9 hq => ?_)
  obtain ⟨rfl, ⟨j, hj, rfl⟩, rfl, rfl⟩ := hq
  refine G.sk (st' := []) rfl ?_
  refine g_iload_n (n := 12) C dX5_addCopy_11 rfl rfl ?_
  refine g_bipush (n := 14) (v := nI 12) C dX5_addCopy_12 rfl rfl ?_
  refine g_SX (n := 17) (rest := []) C hno (k5_reqIndex hE hl z (N := 12) (by decide)) dX5_addCopy_14 kM_X5_requireIndex kW_X5_51 kS_X5_requireIndex rfl rfl (Nat.le_of_ble_eq_true rfl) ⟨by decide, by decide⟩ ⟨by decide, by decide⟩ rfl (fun E h => by
      rcases h with ⟨rfl, h9⟩
      intro b A1 I1 hr
      obtain ⟨w, hw, hI, -, hf⟩ := hr
      have e9 : w = 1 := cd3_1 hw (fun z9 => h9 z9.2.2)
      subst e9
      exact ⟨1, by decide, by decide, by rw [hI]; rfl, rfl, hf (by decide), hI⟩) ⟨by decide, by decide⟩ (fun v9 L9 f9 hq => ?_)
  obtain ⟨rfl, ⟨k, hk, rfl⟩, rfl, rfl⟩ := hq
  refine G.sk (st' := []) rfl ?_
  refine g_aload_n (n := 18) C dX5_addCopy_17 rfl (Or.inr ⟨_, rfl⟩) rfl ?_
  refine g_iload_n (n := 19) C dX5_addCopy_18 rfl rfl ?_
  refine g_iconst (n := 20) (v := nI 0) C dX5_addCopy_19 rfl rfl ?_
  refine g_iload_n (n := 21) C dX5_addCopy_20 rfl rfl ?_
  refine g_iload_n (n := 22) C dX5_addCopy_21 rfl rfl ?_
  refine g_VX (n := 25) (rest := []) C hno (k5_addInstruction hE hl hR hi (kd := nI 0) (fi := nI j) (se := nI k) (b0 := nI k) (if_neg (by decide)).symm (Or.inl ⟨rfl, ⟨j, hj, rfl⟩, ⟨k, hk, rfl⟩⟩) (fun z9 => absurd z9 (by decide))) dX5_addCopy_22 kM_X5_addInstruction kW_X5_70 kV_X5_addInstruction hR.co rfl rfl rfl (Nat.le_of_ble_eq_true rfl) ⟨by decide, by decide⟩ ⟨by decide, by decide⟩ rfl (fun E h => by
      rcases h with ⟨rfl, h9⟩
      intro b A1 I1 hr
      obtain ⟨w, hw, hI, -, hf⟩ := hr
      have e9 : w = 2 := cd3_2 hw ⟨⟨i, hi, rfl⟩, ⟨j, hj, rfl⟩, ⟨k, hk, rfl⟩⟩ (fun z9 => z9 i hi rfl h9)
      subst e9
      exact ⟨2, by decide, by decide, by rw [hI]; rfl, rfl, hf (by decide), hI⟩) ⟨by decide, by decide⟩ (fun v9 L9 f9 hq => ?_)
  obtain ⟨c, e3, hc, rfl, X1, Is1, hR1⟩ := hq
  refine G.sk (st' := [_]) rfl ?_
  refine G.x ?_
  refine g_iret C hr dX5_addCopy_25 ?_ ⟨by decide, by decide⟩
  intro b A1 I1 hr
  obtain ⟨w, hw, hI, h0, -⟩ := hr
  have e9 := cd3_0 hw ⟨⟨i, hi, rfl⟩, ⟨j, hj, rfl⟩, ⟨k, hk, rfl⟩⟩ (nf_ok hi e3 hc)
  subst e9
  obtain ⟨i2, m2, hi2, e1, e6, hm2, e7, e5⟩ := h0 rfl
  have e4 := gn_inj (by omega) (by omega) e1
  subst e4
  have e8 := gn_inj (by omega) (by omega) (e6.symm.trans e3)
  subst e8
  rw [hI, e5, e7]
  exact ⟨rfl, rfl, CW.rd hR1 hB9 (hC9.cg (fun k j h => addA_k (by omega)))⟩
theorem k5_addRun {l : Launch} {s0 : State} {D : va_G} {cy : Nat → ClassId} (hE : gE s0 D cy) (hl : l.stackTraces = false) {L : List Nat} {f : gF} {bk : Nat → Nat} {n : Nat} {X : Nat → va_E} {Is : Nat → Option iT} {PR PL : Nat → Nat} {S A : Nat → Nat → Int32} {I : Nat → Int32} (hR : RC cy bk n X Is PR PL S A I L f) (hB9 : rmB n I) (hC9 : pCt n A S) (x y z : Int32) : gX l s0 D yX5_addRun cX5_addRun 4 (some .int) 9 6 30 [.ref (bk 0), .int x, .int y, .int z] L f (uQ cy (bk 0) (fun b A1 I1 => ∃ w, cd3 (gin x 4 ∧ gin y 12 ∧ gin z 4) (notFull A x) w ∧ I1 = va_up I 27 (nI w) ∧ (w = 0 → addOK A x (nI 1) y z b A1) ∧ (w ≠ 0 → A1 = A))) (uX [xI, xS] A I (fun b A1 I1 => ∃ w, cd3 (gin x 4 ∧ gin y 12 ∧ gin z 4) (notFull A x) w ∧ I1 = va_up I 27 (nI w) ∧ (w = 0 → addOK A x (nI 1) y z b A1) ∧ (w ≠ 0 → A1 = A))) := by
  refine gX.of (own := RX5) hE hl (by decide +kernel) rfl rfl (Nat.le_of_ble_eq_true rfl) (fun p9 e9 s9 m9 a99 b99 t99 c9 C hr hno => ?_)
  refine G.weak (ls' := [some (.ref (bk 0)), some (.int x), some (.int y), some (.int z)]) ?_ rfl (fun _ _ h => h)
  refine g_iload_n (n := 1) C dX5_addRun_0 rfl rfl ?_
  refine g_iconst (n := 2) (v := nI 4) C dX5_addRun_1 rfl rfl ?_
  refine g_SX (n := 5) (rest := []) C hno (k5_reqIndex hE hl x (N := 4) (by decide)) dX5_addRun_2 kM_X5_requireIndex kW_X5_51 kS_X5_requireIndex rfl rfl (Nat.le_of_ble_eq_true rfl) ⟨by decide, by decide⟩ ⟨by decide, by decide⟩ rfl (fun E h => by
      rcases h with ⟨rfl, h9⟩
      intro b A1 I1 hr
      obtain ⟨w, hw, hI, -, hf⟩ := hr
      have e9 : w = 1 := cd3_1 hw (fun z9 => h9 z9.1)
      subst e9
      exact ⟨1, by decide, by decide, by rw [hI]; rfl, rfl, hf (by decide), hI⟩) ⟨by decide, by decide⟩ (fun v9 L9 f9 hq => ?_)
  obtain ⟨rfl, ⟨i, hi, rfl⟩, rfl, rfl⟩ := hq
  refine G.sk (st' := []) rfl ?_
  refine g_iload_n (n := 6) C dX5_addRun_5 rfl rfl ?_
  refine g_bipush (n := 8) (v := nI 12) C dX5_addRun_6 rfl rfl ?_
  refine g_SX (n := 11) (rest := []) C hno (k5_reqIndex hE hl y (N := 12) (by decide)) dX5_addRun_8 kM_X5_requireIndex kW_X5_51 kS_X5_requireIndex rfl rfl (Nat.le_of_ble_eq_true rfl) ⟨by decide, by decide⟩ ⟨by decide, by decide⟩ rfl (fun E h => by
      rcases h with ⟨rfl, h9⟩
      intro b A1 I1 hr
      obtain ⟨w, hw, hI, -, hf⟩ := hr
      have e9 : w = 1 := cd3_1 hw (fun z9 => h9 z9.2.1)
      subst e9
      exact ⟨1, by decide, by decide, by rw [hI]; rfl, rfl, hf (by decide), hI⟩) ⟨by decide, by decide⟩ (fun v9 L9 f9 hq => ?_)
  obtain ⟨rfl, ⟨j, hj, rfl⟩, rfl, rfl⟩ := hq
  refine G.sk (st' := []) rfl ?_
  refine g_iload_n (n := 12) C dX5_addRun_11 rfl rfl ?_
  refine g_iconst (n := 13) (v := nI 4) C dX5_addRun_12 rfl rfl ?_
  refine g_SX (n := 16) (rest := []) C hno (k5_reqIndex hE hl z (N := 4) (by decide)) dX5_addRun_13 kM_X5_requireIndex kW_X5_51 kS_X5_requireIndex rfl rfl (Nat.le_of_ble_eq_true rfl) ⟨by decide, by decide⟩ ⟨by decide, by decide⟩ rfl (fun E h => by
      rcases h with ⟨rfl, h9⟩
      intro b A1 I1 hr
      obtain ⟨w, hw, hI, -, hf⟩ := hr
      have e9 : w = 1 := cd3_1 hw (fun z9 => h9 z9.2.2)
      subst e9
      exact ⟨1, by decide, by decide, by rw [hI]; rfl, rfl, hf (by decide), hI⟩) ⟨by decide, by decide⟩ (fun v9 L9 f9 hq => ?_)
  obtain ⟨rfl, ⟨k, hk, rfl⟩, rfl, rfl⟩ := hq
  refine G.sk (st' := []) rfl ?_
  refine g_aload_n (n := 17) C dX5_addRun_16 rfl (Or.inr ⟨_, rfl⟩) rfl ?_
  refine g_iload_n (n := 18) C dX5_addRun_17 rfl rfl ?_
  refine g_iconst (n := 19) (v := nI 1) C dX5_addRun_18 rfl rfl ?_
  refine g_iload_n (n := 20) C dX5_addRun_19 rfl rfl ?_
  refine g_iload_n (n := 21) C dX5_addRun_20 rfl rfl ?_
  refine g_VX (n := 24) (rest := []) C hno (k5_addInstruction hE hl hR hi (kd := nI 1) (fi := nI j) (se := nI k) (b0 := nI k) (if_neg (by decide)).symm (Or.inr (Or.inl ⟨rfl, ⟨j, hj, rfl⟩, ⟨k, hk, rfl⟩⟩)) (fun z9 => absurd z9 (by decide))) dX5_addRun_21 kM_X5_addInstruction kW_X5_70 kV_X5_addInstruction hR.co rfl rfl rfl (Nat.le_of_ble_eq_true rfl) ⟨by decide, by decide⟩ ⟨by decide, by decide⟩ rfl (fun E h => by
      rcases h with ⟨rfl, h9⟩
      intro b A1 I1 hr
      obtain ⟨w, hw, hI, -, hf⟩ := hr
      have e9 : w = 2 := cd3_2 hw ⟨⟨i, hi, rfl⟩, ⟨j, hj, rfl⟩, ⟨k, hk, rfl⟩⟩ (fun z9 => z9 i hi rfl h9)
      subst e9
      exact ⟨2, by decide, by decide, by rw [hI]; rfl, rfl, hf (by decide), hI⟩) ⟨by decide, by decide⟩ (fun v9 L9 f9 hq => ?_)
  obtain ⟨c, e3, hc, rfl, X1, Is1, hR1⟩ := hq
  refine G.sk (st' := [_]) rfl ?_
  refine G.x ?_
  refine g_iret C hr dX5_addRun_24 ?_ ⟨by decide, by decide⟩
  intro b A1 I1 hr
  obtain ⟨w, hw, hI, h0, -⟩ := hr
  have e9 := cd3_0 hw ⟨⟨i, hi, rfl⟩, ⟨j, hj, rfl⟩, ⟨k, hk, rfl⟩⟩ (nf_ok hi e3 hc)
  subst e9
  obtain ⟨i2, m2, hi2, e1, e6, hm2, e7, e5⟩ := h0 rfl
  have e4 := gn_inj (by omega) (by omega) e1
  subst e4
  have e8 := gn_inj (by omega) (by omega) (e6.symm.trans e3)
  subst e8
  rw [hI, e5, e7]
  exact ⟨rfl, rfl, CW.rd hR1 hB9 (hC9.cg (fun k j h => addA_k (by omega)))⟩
theorem k5_addMove {l : Launch} {s0 : State} {D : va_G} {cy : Nat → ClassId} (hE : gE s0 D cy) (hl : l.stackTraces = false) {L : List Nat} {f : gF} {bk : Nat → Nat} {n : Nat} {X : Nat → va_E} {Is : Nat → Option iT} {PR PL : Nat → Nat} {S A : Nat → Nat → Int32} {I : Nat → Int32} (hR : RC cy bk n X Is PR PL S A I L f) (hB9 : rmB n I) (hC9 : pCt n A S) (x y z : Int32) : gX l s0 D yX5_addMove cX5_addMove 4 (some .int) 9 6 30 [.ref (bk 0), .int x, .int y, .int z] L f (uQ cy (bk 0) (fun b A1 I1 => ∃ w, cd4 (gin x 4 ∧ gin y 12 ∧ gin z 12) (y ≠ z) (notFull A x) w ∧ I1 = va_up I 27 (nI w) ∧ (w = 0 → addOK A x (nI 2) y z b A1) ∧ (w ≠ 0 → A1 = A))) (uX [xI, xA, xS] A I (fun b A1 I1 => ∃ w, cd4 (gin x 4 ∧ gin y 12 ∧ gin z 12) (y ≠ z) (notFull A x) w ∧ I1 = va_up I 27 (nI w) ∧ (w = 0 → addOK A x (nI 2) y z b A1) ∧ (w ≠ 0 → A1 = A))) := by
  refine gX.of (own := RX5) hE hl (by decide +kernel) rfl rfl (Nat.le_of_ble_eq_true rfl) (fun p9 e9 s9 m9 a99 b99 t99 c9 C hr hno => ?_)
  refine G.weak (ls' := [some (.ref (bk 0)), some (.int x), some (.int y), some (.int z)]) ?_ rfl (fun _ _ h => h)
  refine g_iload_n (n := 1) C dX5_addMove_0 rfl rfl ?_
  refine g_iconst (n := 2) (v := nI 4) C dX5_addMove_1 rfl rfl ?_
  refine g_SX (n := 5) (rest := []) C hno (k5_reqIndex hE hl x (N := 4) (by decide)) dX5_addMove_2 kM_X5_requireIndex kW_X5_51 kS_X5_requireIndex rfl rfl (Nat.le_of_ble_eq_true rfl) ⟨by decide, by decide⟩ ⟨by decide, by decide⟩ rfl (fun E h => by
      rcases h with ⟨rfl, h9⟩
      intro b A1 I1 hr
      obtain ⟨w, hw, hI, -, hf⟩ := hr
      have e9 : w = 1 := cd4_1 hw (fun z9 => h9 z9.1)
      subst e9
      exact ⟨1, by decide, by decide, by rw [hI]; rfl, rfl, hf (by decide), hI⟩) ⟨by decide, by decide⟩ (fun v9 L9 f9 hq => ?_)
  obtain ⟨rfl, ⟨i, hi, rfl⟩, rfl, rfl⟩ := hq
  refine G.sk (st' := []) rfl ?_
  refine g_iload_n (n := 6) C dX5_addMove_5 rfl rfl ?_
  refine g_bipush (n := 8) (v := nI 12) C dX5_addMove_6 rfl rfl ?_
  refine g_SX (n := 11) (rest := []) C hno (k5_reqIndex hE hl y (N := 12) (by decide)) dX5_addMove_8 kM_X5_requireIndex kW_X5_51 kS_X5_requireIndex rfl rfl (Nat.le_of_ble_eq_true rfl) ⟨by decide, by decide⟩ ⟨by decide, by decide⟩ rfl (fun E h => by
      rcases h with ⟨rfl, h9⟩
      intro b A1 I1 hr
      obtain ⟨w, hw, hI, -, hf⟩ := hr
      have e9 : w = 1 := cd4_1 hw (fun z9 => h9 z9.2.1)
      subst e9
      exact ⟨1, by decide, by decide, by rw [hI]; rfl, rfl, hf (by decide), hI⟩) ⟨by decide, by decide⟩ (fun v9 L9 f9 hq => ?_)
  obtain ⟨rfl, ⟨j, hj, rfl⟩, rfl, rfl⟩ := hq
  refine G.sk (st' := []) rfl ?_
  refine g_iload_n (n := 12) C dX5_addMove_11 rfl rfl ?_
  refine g_bipush (n := 14) (v := nI 12) C dX5_addMove_12 rfl rfl ?_
  refine g_SX (n := 17) (rest := []) C hno (k5_reqIndex hE hl z (N := 12) (by decide)) dX5_addMove_14 kM_X5_requireIndex kW_X5_51 kS_X5_requireIndex rfl rfl (Nat.le_of_ble_eq_true rfl) ⟨by decide, by decide⟩ ⟨by decide, by decide⟩ rfl (fun E h => by
      rcases h with ⟨rfl, h9⟩
      intro b A1 I1 hr
      obtain ⟨w, hw, hI, -, hf⟩ := hr
      have e9 : w = 1 := cd4_1 hw (fun z9 => h9 z9.2.2)
      subst e9
      exact ⟨1, by decide, by decide, by rw [hI]; rfl, rfl, hf (by decide), hI⟩) ⟨by decide, by decide⟩ (fun v9 L9 f9 hq => ?_)
  obtain ⟨rfl, ⟨k, hk, rfl⟩, rfl, rfl⟩ := hq
  refine G.sk (st' := []) rfl ?_
  refine g_iload_n (n := 18) C dX5_addMove_17 rfl rfl ?_
  refine g_iload_n (n := 19) C dX5_addMove_18 rfl rfl ?_
  refine g_icmp_ne (n := 22) (tgt := 32) C dX5_addMove_19 (by decide) rfl (fun h19 => ?_) (fun h19 => ?_)
  · refine g_aload_n (n := 33) C dX5_addMove_32 rfl (Or.inr ⟨_, rfl⟩) rfl ?_
    refine g_iload_n (n := 34) C dX5_addMove_33 rfl rfl ?_
    refine g_iconst (n := 35) (v := nI 2) C dX5_addMove_34 rfl rfl ?_
    refine g_iload_n (n := 36) C dX5_addMove_35 rfl rfl ?_
    refine g_iload_n (n := 37) C dX5_addMove_36 rfl rfl ?_
    refine g_VX (n := 40) (rest := []) C hno (k5_addInstruction hE hl hR hi (kd := nI 2) (fi := nI j) (se := nI k) (b0 := nI k) (if_neg (by decide)).symm (Or.inr (Or.inr (Or.inl ⟨rfl, ⟨j, hj, rfl⟩, ⟨k, hk, rfl⟩, h19⟩))) (fun z9 => absurd z9 (by decide))) dX5_addMove_37 kM_X5_addInstruction kW_X5_70 kV_X5_addInstruction hR.co rfl rfl rfl (Nat.le_of_ble_eq_true rfl) ⟨by decide, by decide⟩ ⟨by decide, by decide⟩ rfl (fun E h => by
        rcases h with ⟨rfl, h9⟩
        intro b A1 I1 hr
        obtain ⟨w, hw, hI, -, hf⟩ := hr
        have e9 : w = 3 := cd4_3 hw ⟨⟨i, hi, rfl⟩, ⟨j, hj, rfl⟩, ⟨k, hk, rfl⟩⟩ h19 (fun z9 => z9 i hi rfl h9)
        subst e9
        exact ⟨3, by decide, by decide, by rw [hI]; rfl, rfl, hf (by decide), hI⟩) ⟨by decide, by decide⟩ (fun v9 L9 f9 hq => ?_)
    obtain ⟨c, e3, hc, rfl, X1, Is1, hR1⟩ := hq
    refine G.sk (st' := [_]) rfl ?_
    refine G.x ?_
    refine g_iret C hr dX5_addMove_40 ?_ ⟨by decide, by decide⟩
    intro b A1 I1 hr
    obtain ⟨w, hw, hI, h0, -⟩ := hr
    have e9 := cd4_0 hw ⟨⟨i, hi, rfl⟩, ⟨j, hj, rfl⟩, ⟨k, hk, rfl⟩⟩ h19 (nf_ok hi e3 hc)
    subst e9
    obtain ⟨i2, m2, hi2, e1, e6, hm2, e7, e5⟩ := h0 rfl
    have e4 := gn_inj (by omega) (by omega) e1
    subst e4
    have e8 := gn_inj (by omega) (by omega) (e6.symm.trans e3)
    subst e8
    rw [hI, e5, e7]
    exact ⟨rfl, rfl, CW.rd hR1 hB9 (hC9.cg (fun k j h => addA_k (by omega)))⟩
  · exact g_throw (cls := xA) (text := "from and to are the same path") (names := xNm) C hno (by decide +kernel) xNm_ok (List.mem_of_getElem? (i := 249) (by decide +kernel)) (List.mem_of_getElem? (i := 58) (by decide +kernel)) (List.mem_of_getElem? (i := 351) (by decide +kernel)) hat_X5_78 dX5_addMove_22 dX5_addMove_25 dX5_addMove_26 dX5_addMove_28 dX5_addMove_31 ⟨by decide, by decide, by decide, by decide⟩ (by
      intro b A1 I1 hr
      obtain ⟨w, hw, hI, -, hf⟩ := hr
      have e9 := cd4_2 hw ⟨⟨i, hi, rfl⟩, ⟨j, hj, rfl⟩, ⟨k, hk, rfl⟩⟩ (fun z => z h19)
      subst e9
      exact ⟨2, by decide, by decide, by rw [hI]; rfl, rfl, hf (by decide), hI⟩) ⟨by decide, by decide⟩
theorem k5_addRemove {l : Launch} {s0 : State} {D : va_G} {cy : Nat → ClassId} (hE : gE s0 D cy) (hl : l.stackTraces = false) {L : List Nat} {f : gF} {bk : Nat → Nat} {n : Nat} {X : Nat → va_E} {Is : Nat → Option iT} {PR PL : Nat → Nat} {S A : Nat → Nat → Int32} {I : Nat → Int32} (hR : RC cy bk n X Is PR PL S A I L f) (hB9 : rmB n I) (hC9 : pCt n A S) (x y : Int32) : gX l s0 D yX5_addRemove cX5_addRemove 3 (some .int) 9 5 24 [.ref (bk 0), .int x, .int y] L f (uQ cy (bk 0) (fun b A1 I1 => ∃ w, cd3 (gin x 4 ∧ gin y 12) (notFull A x) w ∧ I1 = va_up I 27 (nI w) ∧ (w = 0 → addOK A x (nI 3) y (nI 0) b A1) ∧ (w ≠ 0 → A1 = A))) (uX [xI, xS] A I (fun b A1 I1 => ∃ w, cd3 (gin x 4 ∧ gin y 12) (notFull A x) w ∧ I1 = va_up I 27 (nI w) ∧ (w = 0 → addOK A x (nI 3) y (nI 0) b A1) ∧ (w ≠ 0 → A1 = A))) := by
  refine gX.of (own := RX5) hE hl (by decide +kernel) rfl rfl (Nat.le_of_ble_eq_true rfl) (fun p9 e9 s9 m9 a99 b99 t99 c9 C hr hno => ?_)
  refine G.weak (ls' := [some (.ref (bk 0)), some (.int x), some (.int y)]) ?_ rfl (fun _ _ h => h)
  refine g_iload_n (n := 1) C dX5_addRemove_0 rfl rfl ?_
  refine g_iconst (n := 2) (v := nI 4) C dX5_addRemove_1 rfl rfl ?_
  refine g_SX (n := 5) (rest := []) C hno (k5_reqIndex hE hl x (N := 4) (by decide)) dX5_addRemove_2 kM_X5_requireIndex kW_X5_51 kS_X5_requireIndex rfl rfl (Nat.le_of_ble_eq_true rfl) ⟨by decide, by decide⟩ ⟨by decide, by decide⟩ rfl (fun E h => by
      rcases h with ⟨rfl, h9⟩
      intro b A1 I1 hr
      obtain ⟨w, hw, hI, -, hf⟩ := hr
      have e9 : w = 1 := cd3_1 hw (fun z9 => h9 z9.1)
      subst e9
      exact ⟨1, by decide, by decide, by rw [hI]; rfl, rfl, hf (by decide), hI⟩) ⟨by decide, by decide⟩ (fun v9 L9 f9 hq => ?_)
  obtain ⟨rfl, ⟨i, hi, rfl⟩, rfl, rfl⟩ := hq
  refine G.sk (st' := []) rfl ?_
  refine g_iload_n (n := 6) C dX5_addRemove_5 rfl rfl ?_
  refine g_bipush (n := 8) (v := nI 12) C dX5_addRemove_6 rfl rfl ?_
  refine g_SX (n := 11) (rest := []) C hno (k5_reqIndex hE hl y (N := 12) (by decide)) dX5_addRemove_8 kM_X5_requireIndex kW_X5_51 kS_X5_requireIndex rfl rfl (Nat.le_of_ble_eq_true rfl) ⟨by decide, by decide⟩ ⟨by decide, by decide⟩ rfl (fun E h => by
      rcases h with ⟨rfl, h9⟩
      intro b A1 I1 hr
      obtain ⟨w, hw, hI, -, hf⟩ := hr
      have e9 : w = 1 := cd3_1 hw (fun z9 => h9 z9.2)
      subst e9
      exact ⟨1, by decide, by decide, by rw [hI]; rfl, rfl, hf (by decide), hI⟩) ⟨by decide, by decide⟩ (fun v9 L9 f9 hq => ?_)
  obtain ⟨rfl, ⟨j, hj, rfl⟩, rfl, rfl⟩ := hq
  refine G.sk (st' := []) rfl ?_
  refine g_aload_n (n := 12) C dX5_addRemove_11 rfl (Or.inr ⟨_, rfl⟩) rfl ?_
  refine g_iload_n (n := 13) C dX5_addRemove_12 rfl rfl ?_
  refine g_iconst (n := 14) (v := nI 3) C dX5_addRemove_13 rfl rfl ?_
  refine g_iload_n (n := 15) C dX5_addRemove_14 rfl rfl ?_
  refine g_iconst (n := 16) (v := -1) C dX5_addRemove_15 rfl rfl ?_
  refine g_VX (n := 19) (rest := []) C hno (k5_addInstruction hE hl hR hi (kd := nI 3) (fi := nI j) (se := -1) (b0 := nI 0) (if_pos rfl).symm (Or.inr (Or.inr (Or.inr (Or.inl ⟨rfl, ⟨j, hj, rfl⟩⟩)))) (fun _ => rfl)) dX5_addRemove_16 kM_X5_addInstruction kW_X5_70 kV_X5_addInstruction hR.co rfl rfl rfl (Nat.le_of_ble_eq_true rfl) ⟨by decide, by decide⟩ ⟨by decide, by decide⟩ rfl (fun E h => by
      rcases h with ⟨rfl, h9⟩
      intro b A1 I1 hr
      obtain ⟨w, hw, hI, -, hf⟩ := hr
      have e9 : w = 2 := cd3_2 hw ⟨⟨i, hi, rfl⟩, ⟨j, hj, rfl⟩⟩ (fun z9 => z9 i hi rfl h9)
      subst e9
      exact ⟨2, by decide, by decide, by rw [hI]; rfl, rfl, hf (by decide), hI⟩) ⟨by decide, by decide⟩ (fun v9 L9 f9 hq => ?_)
  obtain ⟨c, e3, hc, rfl, X1, Is1, hR1⟩ := hq
  refine G.sk (st' := [_]) rfl ?_
  refine G.x ?_
  refine g_iret C hr dX5_addRemove_19 ?_ ⟨by decide, by decide⟩
  intro b A1 I1 hr
  obtain ⟨w, hw, hI, h0, -⟩ := hr
  have e9 := cd3_0 hw ⟨⟨i, hi, rfl⟩, ⟨j, hj, rfl⟩⟩ (nf_ok hi e3 hc)
  subst e9
  obtain ⟨i2, m2, hi2, e1, e6, hm2, e7, e5⟩ := h0 rfl
  have e4 := gn_inj (by omega) (by omega) e1
  subst e4
  have e8 := gn_inj (by omega) (by omega) (e6.symm.trans e3)
  subst e8
  rw [hI, e5, e7]
  exact ⟨rfl, rfl, CW.rd hR1 hB9 (hC9.cg (fun k j h => addA_k (by omega)))⟩
theorem k5_addSet {l : Launch} {s0 : State} {D : va_G} {cy : Nat → ClassId} (hE : gE s0 D cy) (hl : l.stackTraces = false) {L : List Nat} {f : gF} {bk : Nat → Nat} {n : Nat} {X : Nat → va_E} {Is : Nat → Option iT} {PR PL : Nat → Nat} {S A : Nat → Nat → Int32} {I : Nat → Int32} (hR : RC cy bk n X Is PR PL S A I L f) (hB9 : rmB n I) (hC9 : pCt n A S) (x y z : Int32) : gX l s0 D yX5_addSet cX5_addSet 4 (some .int) 9 5 24 [.ref (bk 0), .int x, .int y, .int z] L f (uQ cy (bk 0) (fun b A1 I1 => ∃ w, cd4 (gin x 4 ∧ gin y 4) (gin z 1000) (notFull A x) w ∧ I1 = va_up I 27 (nI w) ∧ (w = 0 → addOK A x (nI 4) y z b A1) ∧ (w ≠ 0 → A1 = A))) (uX [xI, xA, xS] A I (fun b A1 I1 => ∃ w, cd4 (gin x 4 ∧ gin y 4) (gin z 1000) (notFull A x) w ∧ I1 = va_up I 27 (nI w) ∧ (w = 0 → addOK A x (nI 4) y z b A1) ∧ (w ≠ 0 → A1 = A))) := by
  refine gX.of (own := RX5) hE hl (by decide +kernel) rfl rfl (Nat.le_of_ble_eq_true rfl) (fun p9 e9 s9 m9 a99 b99 t99 c9 C hr hno => ?_)
  refine G.weak (ls' := [some (.ref (bk 0)), some (.int x), some (.int y), some (.int z)]) ?_ rfl (fun _ _ h => h)
  refine g_iload_n (n := 1) C dX5_addSet_0 rfl rfl ?_
  refine g_iconst (n := 2) (v := nI 4) C dX5_addSet_1 rfl rfl ?_
  refine g_SX (n := 5) (rest := []) C hno (k5_reqIndex hE hl x (N := 4) (by decide)) dX5_addSet_2 kM_X5_requireIndex kW_X5_51 kS_X5_requireIndex rfl rfl (Nat.le_of_ble_eq_true rfl) ⟨by decide, by decide⟩ ⟨by decide, by decide⟩ rfl (fun E h => by
      rcases h with ⟨rfl, h9⟩
      intro b A1 I1 hr
      obtain ⟨w, hw, hI, -, hf⟩ := hr
      have e9 : w = 1 := cd4_1 hw (fun z9 => h9 z9.1)
      subst e9
      exact ⟨1, by decide, by decide, by rw [hI]; rfl, rfl, hf (by decide), hI⟩) ⟨by decide, by decide⟩ (fun v9 L9 f9 hq => ?_)
  obtain ⟨rfl, ⟨i, hi, rfl⟩, rfl, rfl⟩ := hq
  refine G.sk (st' := []) rfl ?_
  refine g_iload_n (n := 6) C dX5_addSet_5 rfl rfl ?_
  refine g_iconst (n := 7) (v := nI 4) C dX5_addSet_6 rfl rfl ?_
  refine g_SX (n := 10) (rest := []) C hno (k5_reqIndex hE hl y (N := 4) (by decide)) dX5_addSet_7 kM_X5_requireIndex kW_X5_51 kS_X5_requireIndex rfl rfl (Nat.le_of_ble_eq_true rfl) ⟨by decide, by decide⟩ ⟨by decide, by decide⟩ rfl (fun E h => by
      rcases h with ⟨rfl, h9⟩
      intro b A1 I1 hr
      obtain ⟨w, hw, hI, -, hf⟩ := hr
      have e9 : w = 1 := cd4_1 hw (fun z9 => h9 z9.2)
      subst e9
      exact ⟨1, by decide, by decide, by rw [hI]; rfl, rfl, hf (by decide), hI⟩) ⟨by decide, by decide⟩ (fun v9 L9 f9 hq => ?_)
  obtain ⟨rfl, ⟨j, hj, rfl⟩, rfl, rfl⟩ := hq
  refine G.sk (st' := []) rfl ?_
  refine g_iload_n (n := 11) C dX5_addSet_10 rfl rfl ?_
  refine g_if_lt (n := 14) (tgt := 21) C dX5_addSet_11 (by decide) rfl (fun h11 => ?_) (fun h11 => ?_)
  · have hbad := gin_lt (N := 1000) h11 (by decide)
    exact g_throw (cls := xA) (text := "the value is out of range") (names := xNm) C hno (by decide +kernel) xNm_ok (List.mem_of_getElem? (i := 249) (by decide +kernel)) (List.mem_of_getElem? (i := 58) (by decide +kernel)) (List.mem_of_getElem? (i := 360) (by decide +kernel)) hat_X5_78 dX5_addSet_21 dX5_addSet_24 dX5_addSet_25 dX5_addSet_27 dX5_addSet_30 ⟨by decide, by decide, by decide, by decide⟩ (by
      intro b A1 I1 hr
      obtain ⟨w, hw, hI, -, hf⟩ := hr
      have e9 := cd4_2 hw ⟨⟨i, hi, rfl⟩, ⟨j, hj, rfl⟩⟩ hbad
      subst e9
      exact ⟨2, by decide, by decide, by rw [hI]; rfl, rfl, hf (by decide), hI⟩) ⟨by decide, by decide⟩
  · refine g_iload_n (n := 15) C dX5_addSet_14 rfl rfl ?_
    refine g_sipush (n := 18) (v := nI 999) C dX5_addSet_15 rfl rfl ?_
    refine g_icmp_le (n := 21) (tgt := 31) C dX5_addSet_18 (by decide) rfl (fun h18 => ?_) (fun h18 => ?_)
    · refine g_aload_n (n := 32) C dX5_addSet_31 rfl (Or.inr ⟨_, rfl⟩) rfl ?_
      refine g_iload_n (n := 33) C dX5_addSet_32 rfl rfl ?_
      refine g_iconst (n := 34) (v := nI 4) C dX5_addSet_33 rfl rfl ?_
      refine g_iload_n (n := 35) C dX5_addSet_34 rfl rfl ?_
      refine g_iload_n (n := 36) C dX5_addSet_35 rfl rfl ?_
      refine g_VX (n := 39) (rest := []) C hno (k5_addInstruction hE hl hR hi (kd := nI 4) (fi := nI j) (se := z) (b0 := z) (if_neg (by decide)).symm (Or.inr (Or.inr (Or.inr (Or.inr ⟨rfl, ⟨j, hj, rfl⟩, gin_le h11 h18 (by decide)⟩)))) (fun z9 => absurd z9 (by decide))) dX5_addSet_36 kM_X5_addInstruction kW_X5_70 kV_X5_addInstruction hR.co rfl rfl rfl (Nat.le_of_ble_eq_true rfl) ⟨by decide, by decide⟩ ⟨by decide, by decide⟩ rfl (fun E h => by
          rcases h with ⟨rfl, h9⟩
          intro b A1 I1 hr
          obtain ⟨w, hw, hI, -, hf⟩ := hr
          have e9 : w = 3 := cd4_3 hw ⟨⟨i, hi, rfl⟩, ⟨j, hj, rfl⟩⟩ (gin_le h11 h18 (by decide)) (fun z9 => z9 i hi rfl h9)
          subst e9
          exact ⟨3, by decide, by decide, by rw [hI]; rfl, rfl, hf (by decide), hI⟩) ⟨by decide, by decide⟩ (fun v9 L9 f9 hq => ?_)
      obtain ⟨c, e3, hc, rfl, X1, Is1, hR1⟩ := hq
      refine G.sk (st' := [_]) rfl ?_
      refine G.x ?_
      refine g_iret C hr dX5_addSet_39 ?_ ⟨by decide, by decide⟩
      intro b A1 I1 hr
      obtain ⟨w, hw, hI, h0, -⟩ := hr
      have e9 := cd4_0 hw ⟨⟨i, hi, rfl⟩, ⟨j, hj, rfl⟩⟩ (gin_le h11 h18 (by decide)) (nf_ok hi e3 hc)
      subst e9
      obtain ⟨i2, m2, hi2, e1, e6, hm2, e7, e5⟩ := h0 rfl
      have e4 := gn_inj (by omega) (by omega) e1
      subst e4
      have e8 := gn_inj (by omega) (by omega) (e6.symm.trans e3)
      subst e8
      rw [hI, e5, e7]
      exact ⟨rfl, rfl, CW.rd hR1 hB9 (hC9.cg (fun k j h => addA_k (by omega)))⟩
    · have hbad := gin_gt h18 (by decide)
      exact g_throw (cls := xA) (text := "the value is out of range") (names := xNm) C hno (by decide +kernel) xNm_ok (List.mem_of_getElem? (i := 249) (by decide +kernel)) (List.mem_of_getElem? (i := 58) (by decide +kernel)) (List.mem_of_getElem? (i := 360) (by decide +kernel)) hat_X5_78 dX5_addSet_21 dX5_addSet_24 dX5_addSet_25 dX5_addSet_27 dX5_addSet_30 ⟨by decide, by decide, by decide, by decide⟩ (by
        intro b A1 I1 hr
        obtain ⟨w, hw, hI, -, hf⟩ := hr
        have e9 := cd4_2 hw ⟨⟨i, hi, rfl⟩, ⟨j, hj, rfl⟩⟩ hbad
        subst e9
        exact ⟨2, by decide, by decide, by rw [hI]; rfl, rfl, hf (by decide), hI⟩) ⟨by decide, by decide⟩
theorem k5_drop {l : Launch} {s0 : State} {D : va_G} {cy : Nat → ClassId} (hE : gE s0 D cy) (hl : l.stackTraces = false) {L : List Nat} {f : gF} {bk : Nat → Nat} {n : Nat} {X : Nat → va_E} {Is : Nat → Option iT} {PR PL : Nat → Nat} {S A : Nat → Nat → Int32} {I : Nat → Int32} (hR : RC cy bk n X Is PR PL S A I L f) (hB9 : rmB n I) (hC9 : pCt n A S) (x y : Int32) : gX l s0 D yX5_drop cX5_drop 4 (some .int) 8 3 18 [.ref (bk 0), .int x, .int y] L f (uQ cy (bk 0) (fun b A1 I1 => ∃ w, cd2 (drpC A x y) w ∧ I1 = va_up I 27 (nI w) ∧ (w = 0 → ∃ i m j, i < 4 ∧ x = nI i ∧ A 3 i = nI m ∧ m ≤ 10 ∧ j < m ∧ y = nI j ∧ b = nI (m - 1) ∧ A1 = drA A i m j (m - 1 - j)) ∧ (w ≠ 0 → A1 = A))) (uX [xI, xS] A I (fun b A1 I1 => ∃ w, cd2 (drpC A x y) w ∧ I1 = va_up I 27 (nI w) ∧ (w = 0 → ∃ i m j, i < 4 ∧ x = nI i ∧ A 3 i = nI m ∧ m ≤ 10 ∧ j < m ∧ y = nI j ∧ b = nI (m - 1) ∧ A1 = drA A i m j (m - 1 - j)) ∧ (w ≠ 0 → A1 = A))) := by
  refine gX.of (own := RX5) hE hl (by decide +kernel) rfl rfl (Nat.le_of_ble_eq_true rfl) (fun p9 e9 s9 m9 a99 b99 t99 c9 C hr hno => ?_)
  refine G.weak (ls' := [some (.ref (bk 0)), some (.int x), some (.int y), none]) ?_ rfl (fun _ _ h => h)
  refine g_aload_n (n := 1) C dX5_drop_0 rfl (Or.inr ⟨_, rfl⟩) rfl ?_
  refine g_iload_n (n := 2) C dX5_drop_1 rfl rfl ?_
  refine g_VX (n := 5) (rest := []) C hno (k5_recipeAt hE hl hR x) dX5_drop_2 kM_X5_recipeAt kW_X5_59 kV_X5_recipeAt hR.co rfl rfl rfl (Nat.le_of_ble_eq_true rfl) ⟨by decide, by decide⟩ ⟨by decide, by decide⟩ rfl (fun E h => by
      rcases h with ⟨rfl, h9⟩
      intro b A1 I1 hr
      obtain ⟨w, hw, hI, -, hf⟩ := hr
      have e9 : w = 1 := cd2_1 hw (fun ⟨i, m, j, z1, z2, _⟩ => h9 ⟨i, z1, z2⟩)
      subst e9
      exact ⟨1, by decide, by decide, by rw [hI]; rfl, rfl, hf (by decide), hI⟩) ⟨by decide, by decide⟩ (fun v9 L9 f9 hq => ?_)
  obtain ⟨⟨i, hi, rfl, rfl⟩, rfl, rfl⟩ := hq
  refine G.sk (st' := [_]) rfl ?_
  obtain ⟨c, b0, g, hc9, hb9, e3, e2, hro, hrw, hg1, hg2⟩ := hR.ri hi
  refine g_astore_n (n := 6) (ls' := [_, _, _, _]) C dX5_drop_5 (Or.inr ⟨_, rfl⟩) rfl (by decide) rfl ?_
  refine g_iload_n (n := 7) C dX5_drop_6 rfl rfl ?_
  refine g_aload_n (n := 8) C dX5_drop_7 rfl (Or.inr ⟨_, rfl⟩) rfl ?_
  refine g_get (n := 11) C dX5_drop_8 kF_X5_63 (by assumption) rfl rfl ?_
  refine g_SX (n := 14) (rest := []) C hno (k5_reqIndex hE hl y (N := c) (by omega)) dX5_drop_11 kM_X5_requireIndex kW_X5_51 kS_X5_requireIndex rfl rfl (Nat.le_of_ble_eq_true rfl) ⟨by decide, by decide⟩ ⟨by decide, by decide⟩ rfl (fun E h => by
      rcases h with ⟨rfl, h9⟩
      intro b A1 I1 hr
      obtain ⟨w, hw, hI, -, hf⟩ := hr
      have e9 : w = 1 := cd2_1 hw (fun ⟨i2, m, j, z1, z2, z3, z4, z5, z6⟩ => h9 (by
          have e4 := gn_inj (by omega) (by omega) z2
          subst e4
          have e5 := gn_inj (by omega) (by omega) (z3.symm.trans e3)
          subst e5
          exact ⟨j, z5, z6⟩))
      subst e9
      exact ⟨1, by decide, by decide, by rw [hI]; rfl, rfl, hf (by decide), hI⟩) ⟨by decide, by decide⟩ (fun v9 L9 f9 hq => ?_)
  obtain ⟨rfl, ⟨j, hj, rfl⟩, rfl, rfl⟩ := hq
  refine G.sk (st' := []) rfl ?_
  refine g_aload_n (n := 15) C dX5_drop_14 rfl (Or.inr ⟨_, rfl⟩) rfl ?_
  refine g_iload_n (n := 16) C dX5_drop_15 rfl rfl ?_
  refine g_V (n := 19) (rest := []) C (k5_removeAt hE hl hro hrw hj hc9 (fun q v hv => by obtain ⟨t, ht⟩ := hg1 q v hv; exact ⟨_, hR.ic ht⟩)) dX5_drop_16 kM_X3_removeAt kL_X5_83 kV_X3_removeAt hro rfl rfl rfl (Nat.le_of_ble_eq_true rfl) ⟨by decide, by decide⟩ ⟨by decide, by decide⟩ rfl (fun v9 L9 f9 hq => ?_)
  obtain ⟨rfl, rfl, g3, rfl, hg3⟩ := hq
  refine G.sk (st' := []) rfl ?_
  refine g_aload_n (n := 20) C dX5_drop_19 rfl (Or.inr ⟨_, rfl⟩) rfl ?_
  refine g_get (n := 23) C dX5_drop_20 kF_X5_63 (gH.up (hro.ne (gH.apart hro hrw (fun e => by cases e)))) rfl rfl ?_
  refine G.x ?_
  refine g_iret C hr dX5_drop_23 ?_ ⟨by decide, by decide⟩
  intro b A1 I1 hr
  obtain ⟨w, hw, hI, h0, -⟩ := hr
  have e9 := cd2_0 hw ⟨i, c, j, hi, rfl, e3, hc9, hj, rfl⟩
  subst e9
  obtain ⟨i2, m2, j2, hi2, e1, e6, hm2, hj2, e7, e8, e5⟩ := h0 rfl
  have e4 := gn_inj (by omega) (by omega) e1
  subst e4
  have e10 := gn_inj (by omega) (by omega) (e6.symm.trans e3)
  subst e10
  have e11 := gn_inj (by omega) (by omega) e7
  subst e11
  have hset := hR.setR (A' := drA A i m2 j (m2 - 1 - j)) (c := m2 - 1) (b := b0) (g := g3) hi (fun _ _ z => z) hR.1.2.2 (by omega) hb9 dq_3 ((drA_k (by decide)).trans e2) (fun p v hv => by
    rw [hg3] at hv
    unfold rmG at hv
    split at hv
    · exact hg1 _ v hv
    · exact hg1 _ v hv) (fun p hp => by
    rw [hg3]
    unfold rmG
    by_cases hpj : j ≤ p
    · rw [if_pos ⟨hpj, by omega⟩, drA_i (by omega) (by omega) (by decide), drA_i (by omega) (by omega) (by decide), drA_i (by omega) (by omega) (by decide)]
      exact hg2 (p + 1) (by omega)
    · rw [if_neg (fun z => hpj z.1), dq_o (by omega) (by decide), dq_o (by omega) (by decide), dq_o (by omega) (by decide)]
      exact hg2 p (by omega)) (fun k j h => drA_k (by omega)) (fun j3 hj3 hne => ⟨drA_k (by decide), drA_3o hne, fun k p h1 h2 h9 => dq_o (by omega) (by omega)⟩)
  rw [hI, e5, e8]
  exact ⟨rfl, rfl, CW.rd hset hB9 (hC9.cg (fun k j h => drA_k (by omega)))⟩

/-! ===== the reference, II: recipes, answers out of numbers, tags ===== -/
/-- the numbers of an instruction -/
def vIns (k a b : Int32) : Prop := (k = nI 0 ∧ gin a 8 ∧ gin b 12) ∨ (k = nI 1 ∧ gin a 12 ∧ gin b 4) ∨ (k = nI 2 ∧ gin a 12 ∧ gin b 12 ∧ a ≠ b) ∨ (k = nI 3 ∧ gin a 12) ∨ (k = nI 4 ∧ gin a 4 ∧ gin b 1000)
def vRec (A : Nat → Nat → Int32) : Prop := ∀ r, r < 4 → ∃ m b, m ≤ 10 ∧ b < 3 ∧ A 3 r = nI m ∧ A 2 r = nI b ∧ ∀ i, i < m → vIns (A 4 (10 * r + i)) (A 5 (10 * r + i)) (A 6 (10 * r + i))
def addA (A : Nat → Nat → Int32) (i m : Nat) (what a b : Int32) : Nat → Nat → Int32 := mU (mU (mU (mU A 4 (10 * i + m) what) 5 (10 * i + m) a) 6 (10 * i + m) b) 3 i (nI (m + 1))
def addsR (A : Nat → Nat → Int32) (x what a b : Int32) (q u : Nat) (r : Int32) (A1 : Nat → Nat → Int32) (w : Nat) : Prop := (q ≠ 0 ∧ w = q ∧ A1 = A) ∨ (q = 0 ∧ ∃ i m, i < 4 ∧ x = nI i ∧ A 3 i = nI m ∧ m ≤ 10 ∧ ((m = 10 ∧ w = u ∧ A1 = A) ∨ (m < 10 ∧ w = 0 ∧ r = nI (m + 1) ∧ A1 = addA A i m what a b)))
def addOK (A : Nat → Nat → Int32) (x what a b r : Int32) (A1 : Nat → Nat → Int32) : Prop := ∃ i m, i < 4 ∧ x = nI i ∧ A 3 i = nI m ∧ m < 10 ∧ r = nI (m + 1) ∧ A1 = addA A i m what a b
def notFull (A : Nat → Nat → Int32) (x : Int32) : Prop := ∀ i, i < 4 → x = nI i → A 3 i ≠ nI 10
theorem adds_nf {A : Nat → Nat → Int32} {i m : Nat} (hi : i < 4) (e : A 3 i = nI m) (hm : m < 10) : notFull A (nI i) := by
  intro j hj h h2
  have := gn_inj (by omega) (by omega) h
  subst this
  rw [e] at h2
  have := gn_inj (by omega) (by omega) h2
  omega
theorem adds_fl {A : Nat → Nat → Int32} {i m : Nat} (hi : i < 4) (e : A 3 i = nI m) (hm : m = 10) : ¬ notFull A (nI i) := fun h => h i hi rfl (by rw [e, hm])
theorem adds3 {c : Prop} {A A1 : Nat → Nat → Int32} {x what a b r : Int32} {q w : Nat} (hq : (q = 1 ∧ ¬ c) ∨ (q = 0 ∧ c)) (h : addsR A x what a b q 2 r A1 w) : cd3 c (notFull A x) w ∧ (w = 0 → addOK A x what a b r A1) ∧ (w ≠ 0 → A1 = A) := by
  rcases hq with ⟨rfl, hc⟩ | ⟨rfl, hc⟩
  · rcases h with ⟨-, rfl, h⟩ | ⟨h, -⟩
    · exact ⟨Or.inl ⟨rfl, hc⟩, fun h => absurd h (by decide), fun _ => h⟩
    · cases h
  · rcases h with ⟨h, -⟩ | ⟨-, i, m, hi, rfl, e, hm, ⟨h1, rfl, h2⟩ | ⟨h1, rfl, h2⟩⟩
    · exact absurd rfl h
    · exact ⟨Or.inr (Or.inl ⟨rfl, hc, adds_fl hi e h1⟩), fun h => absurd h (by decide), fun _ => h2⟩
    · exact ⟨Or.inr (Or.inr ⟨rfl, hc, adds_nf hi e h1⟩), fun _ => ⟨i, m, hi, rfl, e, h1, h2⟩, fun h => absurd rfl h⟩
theorem adds4 {c c2 : Prop} {A A1 : Nat → Nat → Int32} {x what a b r : Int32} {q w : Nat} (hq : (q = 1 ∧ ¬ c) ∨ (q = 2 ∧ c ∧ ¬ c2) ∨ (q = 0 ∧ c ∧ c2)) (h : addsR A x what a b q 3 r A1 w) : cd4 c c2 (notFull A x) w ∧ (w = 0 → addOK A x what a b r A1) ∧ (w ≠ 0 → A1 = A) := by
  rcases hq with ⟨rfl, hc⟩ | ⟨rfl, hc, hc2⟩ | ⟨rfl, hc, hc2⟩
  · rcases h with ⟨-, rfl, h⟩ | ⟨h, -⟩
    · exact ⟨Or.inl ⟨rfl, hc⟩, fun h => absurd h (by decide), fun _ => h⟩
    · cases h
  · rcases h with ⟨-, rfl, h⟩ | ⟨h, -⟩
    · exact ⟨Or.inr (Or.inl ⟨rfl, hc, hc2⟩), fun h => absurd h (by decide), fun _ => h⟩
    · cases h
  · rcases h with ⟨h, -⟩ | ⟨-, i, m, hi, rfl, e, hm, ⟨h1, rfl, h2⟩ | ⟨h1, rfl, h2⟩⟩
    · exact absurd rfl h
    · exact ⟨Or.inr (Or.inr (Or.inl ⟨rfl, hc, hc2, adds_fl hi e h1⟩)), fun h => absurd h (by decide), fun _ => h2⟩
    · exact ⟨Or.inr (Or.inr (Or.inr ⟨rfl, hc, hc2, adds_nf hi e h1⟩)), fun _ => ⟨i, m, hi, rfl, e, h1, h2⟩, fun h => absurd rfl h⟩
def cdb (P : Prop) (w : Nat) : Prop := (w = 1 ∧ P) ∨ (w = 0 ∧ ¬ P)
theorem cdb_f {P : Prop} {w : Nat} (hc : cdb P w) (h : nI w = 0) : ¬ P := by
  rcases hc with ⟨rfl, h1⟩ | ⟨rfl, h1⟩
  · exact absurd h (by decide)
  · exact h1
theorem cdb_t {P : Prop} {w : Nat} (hc : cdb P w) (h : ¬ nI w = 0) : P := by
  rcases hc with ⟨rfl, h1⟩ | ⟨rfl, h1⟩
  · exact h1
  · exact absurd rfl h
theorem gn_le0 {q : Nat} (h : nI q ≤ 0) (hq : q < 2 ^ 31) : q = 0 := by
  have e0 : (0 : Int32).toInt = 0 := by decide
  rw [gn_le, nI_toInt hq, e0] at h
  omega
def resV (A : Nat → Nat → Int32) (I : Nat → Int32) : Int32 := if I 18 ≠ 0 ∧ A 8 (I 24).toNatClampNeg = 0 then I 24 else -1
def slV (I : Nat → Int32) : Int32 := if I 17 ≠ 0 then I 19 - I 20 else 0
theorem k6_setBase {l : Launch} {s0 : State} {D : va_G} {cy : Nat → ClassId} (hE : gE s0 D cy) (hl : l.stackTraces = false) {mo : Nat} {ad : Nat → Nat} {A : Nat → Nat → Int32} {I : Nat → Int32} {L : List Nat} {f : gF} (hM : IsM cy mo ad A I L f) (b pa x : Int32) : gM l s0 D yX6_setBase cX6_setBase 5 (some .int) 2 0 0 [.ref mo, .int b, .int pa, .int x] L f (mQ cy mo ad L (fun b9 A1 I1 => ∃ w, cd3 (gin b 3 ∧ gin pa 12) (gct x) w ∧ I1 = va_up I 27 (nI w) ∧ (w = 0 → ∃ i j, i < 3 ∧ j < 12 ∧ b = nI i ∧ pa = nI j ∧ b9 = A 1 (12 * i + j) ∧ A1 = mU A 1 (12 * i + j) x) ∧ (w ≠ 0 → A1 = A))) := by
  refine gM.of (own := RX6) hE hl (by decide +kernel) rfl rfl (Nat.le_of_ble_eq_true rfl) (fun p9 e9 s9 m9 a99 b99 t99 c9 C hr hnm => ?_)
  refine G.weak (ls' := [some (.ref mo), some (.int b), some (.int pa), some (.int x), none]) ?_ rfl (fun _ _ h => h)
  refine g_cut (α := Nat) (fun w => cd3 (gin b 3 ∧ gin pa 12) (gct x) w) (fun _ => L) (fun _ => f) (fun _ => 0 + 0) (fun _ => 0 + 0) 34 (fun _ => [some (.ref mo), some (.int b), some (.int pa), some (.int x), none]) (fun w => [.int (nI w), .ref mo]) (fun J => ?_) (fun w hw => ?_)
  · skip
    refine g_aload_n (n := 1) C dX6_setBase_0 rfl (Or.inr ⟨_, rfl⟩) rfl ?_
    refine g_iload_n (n := 2) C dX6_setBase_1 rfl rfl ?_
    refine g_iconst (n := 3) (v := nI 3) C dX6_setBase_2 rfl rfl ?_
    refine g_S (n := 6) (rest := [_]) C (k6_isIn hE hl (b) (nI 3)) dX6_setBase_3 kM_X6_isIn kL_X6_87 kS_X6_isIn rfl rfl (Nat.le_of_ble_eq_true rfl) ⟨by decide, by decide⟩ ⟨by decide, by decide⟩ rfl (fun v9 L9 f9 hq => ?_)
    obtain ⟨rfl, rfl, rfl⟩ := hq
    refine G.sk (st' := [_, _]) rfl ?_
    refine g_if_eq (n := 9) (tgt := 18) C dX6_setBase_6 (by decide) rfl (fun h6 => ?_) (fun h6 => ?_)
    · have h6 := gin_f h6 (by decide)
      refine g_iconst (n := 19) (v := nI 1) C dX6_setBase_18 rfl rfl ?_
      refine g_goto (tgt := 34) C dX6_setBase_19 (by decide) ?_
      exact J _ (by simp [cd3, h6])
    · have h6 := gin_t h6 (by decide)
      refine g_iload_n (n := 10) C dX6_setBase_9 rfl rfl ?_
      refine g_bipush (n := 12) (v := nI 12) C dX6_setBase_10 rfl rfl ?_
      refine g_S (n := 15) (rest := [_]) C (k6_isIn hE hl (pa) (nI 12)) dX6_setBase_12 kM_X6_isIn kL_X6_87 kS_X6_isIn rfl rfl (Nat.le_of_ble_eq_true rfl) ⟨by decide, by decide⟩ ⟨by decide, by decide⟩ rfl (fun v9 L9 f9 hq => ?_)
      obtain ⟨rfl, rfl, rfl⟩ := hq
      refine G.sk (st' := [_, _]) rfl ?_
      refine g_if_ne (n := 18) (tgt := 22) C dX6_setBase_15 (by decide) rfl (fun h15 => ?_) (fun h15 => ?_)
      · have h15 := gin_t h15 (by decide)
        refine g_iload_n (n := 23) C dX6_setBase_22 rfl rfl ?_
        refine g_S (n := 26) (rest := [_]) C (k6_isContent hE hl x) dX6_setBase_23 kM_X6_isContent kL_X6_91 kS_X6_isContent rfl rfl (Nat.le_of_ble_eq_true rfl) ⟨by decide, by decide⟩ ⟨by decide, by decide⟩ rfl (fun v9 L9 f9 hq => ?_)
        obtain ⟨rfl, rfl, rfl⟩ := hq
        refine G.sk (st' := [_, _]) rfl ?_
        refine g_if_eq (n := 29) (tgt := 33) C dX6_setBase_26 (by decide) rfl (fun h26 => ?_) (fun h26 => ?_)
        · have h26 := gct_f h26
          refine g_iconst (n := 34) (v := nI 2) C dX6_setBase_33 rfl rfl ?_
          exact J _ (by simp [cd3, h6, h15, h26])
        · have h26 := gct_t h26
          refine g_iconst (n := 30) (v := nI 0) C dX6_setBase_29 rfl rfl ?_
          refine g_goto (tgt := 34) C dX6_setBase_30 (by decide) ?_
          exact J _ (by simp [cd3, h6, h15, h26])
      · have h15 := gin_f h15 (by decide)
        refine g_iconst (n := 19) (v := nI 1) C dX6_setBase_18 rfl rfl ?_
        refine g_goto (tgt := 34) C dX6_setBase_19 (by decide) ?_
        exact J _ (by simp [cd3, h6, h15])
  · skip
    refine g_V (n := 37) (rest := []) C (k6_fails hE hl hM _) dX6_setBase_34 kM_X6_fails kL_X6_95 kV_X6_fails hM.1 rfl rfl rfl (Nat.le_of_ble_eq_true rfl) ⟨by decide, by decide⟩ ⟨by decide, by decide⟩ rfl (fun v9 L9 f hq => ?_)
    obtain ⟨rfl, hM, rfl⟩ := hq
    refine G.sk (st' := [_]) rfl ?_
    refine g_if_eq (n := 40) (tgt := 42) C dX6_setBase_37 (by decide) rfl (fun h37 => ?_) (fun h37 => ?_)
    · obtain ⟨rfl, ⟨⟨i, hi, rfl⟩, ⟨j, hj, rfl⟩⟩, hx⟩ := cd3_f hw h37
      refine g_aload_n (n := 43) C dX6_setBase_42 rfl (Or.inr ⟨_, rfl⟩) rfl ?_
      refine m_get (n := 46) C hM dX6_setBase_43 kF_X6_13 rfl rfl ?_
      refine g_bipush (n := 48) (v := nI 12) C dX6_setBase_46 rfl rfl ?_
      refine g_iload_n (n := 49) C dX6_setBase_48 rfl rfl ?_
      refine g_imulN (n := 50) C dX6_setBase_49 rfl ?_
      refine g_iload_n (n := 51) C dX6_setBase_50 rfl rfl ?_
      refine g_iaddN (n := 52) C dX6_setBase_51 rfl ?_
      refine m_ald (n := 53) C hM dX6_setBase_52 rfl rfl rfl (by simp only [mLen]; omega) (by decide) rfl ?_
      refine g_istore (n := 55) (ls' := [_, _, _, _, _]) C dX6_setBase_53 rfl (by decide) rfl ?_
      refine g_aload_n (n := 56) C dX6_setBase_55 rfl (Or.inr ⟨_, rfl⟩) rfl ?_
      refine m_get (n := 59) C hM dX6_setBase_56 kF_X6_13 rfl rfl ?_
      refine g_bipush (n := 61) (v := nI 12) C dX6_setBase_59 rfl rfl ?_
      refine g_iload_n (n := 62) C dX6_setBase_61 rfl rfl ?_
      refine g_imulN (n := 63) C dX6_setBase_62 rfl ?_
      refine g_iload_n (n := 64) C dX6_setBase_63 rfl rfl ?_
      refine g_iaddN (n := 65) C dX6_setBase_64 rfl ?_
      refine g_iload_n (n := 66) C dX6_setBase_65 rfl rfl ?_
      refine m_ast (n := 67) C hM dX6_setBase_66 rfl rfl rfl (by simp only [mLen]; omega) (by decide) rfl (fun f hM => ?_)
      refine g_iload (n := 69) C dX6_setBase_67 rfl rfl ?_
      refine g_iret C hr dX6_setBase_69 ?_ ⟨by decide, by decide⟩
      exact ⟨rfl, _, _, _, rfl, hM, 0, hw, rfl, fun _ => ⟨i, j, hi, hj, rfl, rfl, rfl, rfl⟩, fun h => absurd rfl h⟩
    · have hw0 := cd_t h37
      refine g_iconst (n := 41) (v := nI 0) C dX6_setBase_40 rfl rfl ?_
      refine g_iret C hr dX6_setBase_41 ?_ ⟨by decide, by decide⟩
      exact ⟨rfl, nI 0, A, _, rfl, hM, w, hw, rfl, fun h => absurd h hw0, fun _ => rfl⟩
theorem k6_reset {l : Launch} {s0 : State} {D : va_G} {cy : Nat → ClassId} (hE : gE s0 D cy) (hl : l.stackTraces = false) {mo : Nat} {ad : Nat → Nat} {A : Nat → Nat → Int32} {I : Nat → Int32} {L : List Nat} {f : gF} (hM : IsM cy mo ad A I L f) (r b : Int32) : gM l s0 D yX6_reset cX6_reset 4 (some .int) 2 0 0 [.ref mo, .int r, .int b] L f (mQ cy mo ad L (fun b9 A1 I1 => ∃ w, cd2 (gin r 4 ∧ gin b 3) w ∧ I1 = va_up I 27 (nI w) ∧ (w = 0 → ∃ i j, i < 4 ∧ j < 3 ∧ r = nI i ∧ b = nI j ∧ b9 = A 3 i ∧ A1 = mU (mU A 2 i (nI j)) 3 i (nI 0)) ∧ (w ≠ 0 → A1 = A))) := by
  refine gM.of (own := RX6) hE hl (by decide +kernel) rfl rfl (Nat.le_of_ble_eq_true rfl) (fun p9 e9 s9 m9 a99 b99 t99 c9 C hr hnm => ?_)
  refine G.weak (ls' := [some (.ref mo), some (.int r), some (.int b), none]) ?_ rfl (fun _ _ h => h)
  refine g_cut (α := Nat) (fun w => cd2 (gin r 4 ∧ gin b 3) w) (fun _ => L) (fun _ => f) (fun _ => 0 + 0) (fun _ => 0 + 0) 22 (fun _ => [some (.ref mo), some (.int r), some (.int b), none]) (fun w => [.int (nI w), .ref mo]) (fun J => ?_) (fun w hw => ?_)
  · skip
    refine g_aload_n (n := 1) C dX6_reset_0 rfl (Or.inr ⟨_, rfl⟩) rfl ?_
    refine g_iload_n (n := 2) C dX6_reset_1 rfl rfl ?_
    refine g_iconst (n := 3) (v := nI 4) C dX6_reset_2 rfl rfl ?_
    refine g_S (n := 6) (rest := [_]) C (k6_isIn hE hl (r) (nI 4)) dX6_reset_3 kM_X6_isIn kL_X6_87 kS_X6_isIn rfl rfl (Nat.le_of_ble_eq_true rfl) ⟨by decide, by decide⟩ ⟨by decide, by decide⟩ rfl (fun v9 L9 f9 hq => ?_)
    obtain ⟨rfl, rfl, rfl⟩ := hq
    refine G.sk (st' := [_, _]) rfl ?_
    refine g_if_eq (n := 9) (tgt := 21) C dX6_reset_6 (by decide) rfl (fun h6 => ?_) (fun h6 => ?_)
    · have h6 := gin_f h6 (by decide)
      refine g_iconst (n := 22) (v := nI 1) C dX6_reset_21 rfl rfl ?_
      exact J _ (by simp [cd2, h6])
    · have h6 := gin_t h6 (by decide)
      refine g_iload_n (n := 10) C dX6_reset_9 rfl rfl ?_
      refine g_iconst (n := 11) (v := nI 3) C dX6_reset_10 rfl rfl ?_
      refine g_S (n := 14) (rest := [_]) C (k6_isIn hE hl (b) (nI 3)) dX6_reset_11 kM_X6_isIn kL_X6_87 kS_X6_isIn rfl rfl (Nat.le_of_ble_eq_true rfl) ⟨by decide, by decide⟩ ⟨by decide, by decide⟩ rfl (fun v9 L9 f9 hq => ?_)
      obtain ⟨rfl, rfl, rfl⟩ := hq
      refine G.sk (st' := [_, _]) rfl ?_
      refine g_if_eq (n := 17) (tgt := 21) C dX6_reset_14 (by decide) rfl (fun h14 => ?_) (fun h14 => ?_)
      · have h14 := gin_f h14 (by decide)
        refine g_iconst (n := 22) (v := nI 1) C dX6_reset_21 rfl rfl ?_
        exact J _ (by simp [cd2, h6, h14])
      · have h14 := gin_t h14 (by decide)
        refine g_iconst (n := 18) (v := nI 0) C dX6_reset_17 rfl rfl ?_
        refine g_goto (tgt := 22) C dX6_reset_18 (by decide) ?_
        exact J _ (by simp [cd2, h6, h14])
  · skip
    refine g_V (n := 25) (rest := []) C (k6_fails hE hl hM _) dX6_reset_22 kM_X6_fails kL_X6_95 kV_X6_fails hM.1 rfl rfl rfl (Nat.le_of_ble_eq_true rfl) ⟨by decide, by decide⟩ ⟨by decide, by decide⟩ rfl (fun v9 L9 f hq => ?_)
    obtain ⟨rfl, hM, rfl⟩ := hq
    refine G.sk (st' := [_]) rfl ?_
    refine g_if_eq (n := 28) (tgt := 30) C dX6_reset_25 (by decide) rfl (fun h25 => ?_) (fun h25 => ?_)
    · obtain ⟨rfl, ⟨i, hi, rfl⟩, ⟨j, hj, rfl⟩⟩ := cd2_f hw h25
      refine g_aload_n (n := 31) C dX6_reset_30 rfl (Or.inr ⟨_, rfl⟩) rfl ?_
      refine m_get (n := 34) C hM dX6_reset_31 kF_X6_19 rfl rfl ?_
      refine g_iload_n (n := 35) C dX6_reset_34 rfl rfl ?_
      refine m_ald (n := 36) C hM dX6_reset_35 rfl rfl rfl (by simp only [mLen]; omega) (by decide) rfl ?_
      refine g_istore_n (n := 37) (ls' := [_, _, _, _]) C dX6_reset_36 rfl (by decide) rfl ?_
      refine g_aload_n (n := 38) C dX6_reset_37 rfl (Or.inr ⟨_, rfl⟩) rfl ?_
      refine m_get (n := 41) C hM dX6_reset_38 kF_X6_16 rfl rfl ?_
      refine g_iload_n (n := 42) C dX6_reset_41 rfl rfl ?_
      refine g_iload_n (n := 43) C dX6_reset_42 rfl rfl ?_
      refine m_ast (n := 44) C hM dX6_reset_43 rfl rfl rfl (by simp only [mLen]; omega) (by decide) rfl (fun f hM => ?_)
      refine g_aload_n (n := 45) C dX6_reset_44 rfl (Or.inr ⟨_, rfl⟩) rfl ?_
      refine m_get (n := 48) C hM dX6_reset_45 kF_X6_19 rfl rfl ?_
      refine g_iload_n (n := 49) C dX6_reset_48 rfl rfl ?_
      refine g_iconst (n := 50) (v := nI 0) C dX6_reset_49 rfl rfl ?_
      refine m_ast (n := 51) C hM dX6_reset_50 rfl rfl rfl (by simp only [mLen]; omega) (by decide) rfl (fun f hM => ?_)
      refine g_iload_n (n := 52) C dX6_reset_51 rfl rfl ?_
      refine g_iret C hr dX6_reset_52 ?_ ⟨by decide, by decide⟩
      exact ⟨rfl, _, _, _, rfl, hM, 0, hw, rfl, fun _ => ⟨i, j, hi, hj, rfl, rfl, rfl, rfl⟩, fun h => absurd rfl h⟩
    · have hw0 := cd_t h25
      refine g_iconst (n := 29) (v := nI 0) C dX6_reset_28 rfl rfl ?_
      refine g_iret C hr dX6_reset_29 ?_ ⟨by decide, by decide⟩
      exact ⟨rfl, nI 0, A, _, rfl, hM, w, hw, rfl, fun h => absurd h hw0, fun _ => rfl⟩
theorem k6_instructions {l : Launch} {s0 : State} {D : va_G} {cy : Nat → ClassId} (hE : gE s0 D cy) (hl : l.stackTraces = false) {mo : Nat} {ad : Nat → Nat} {A : Nat → Nat → Int32} {I : Nat → Int32} {L : List Nat} {f : gF} (hM : IsM cy mo ad A I L f) (r : Int32) : gM l s0 D yX6_instructions cX6_instructions 2 (some .int) 2 0 0 [.ref mo, .int r] L f (mQ cy mo ad L (fun b9 A1 I1 => ∃ w, cd2 (gin r 4) w ∧ I1 = va_up I 27 (nI w) ∧ (w = 0 → A1 = A ∧ ∃ i, i < 4 ∧ r = nI i ∧ b9 = A 3 i) ∧ (w ≠ 0 → A1 = A))) := by
  refine gM.of (own := RX6) hE hl (by decide +kernel) rfl rfl (Nat.le_of_ble_eq_true rfl) (fun p9 e9 s9 m9 a99 b99 t99 c9 C hr hnm => ?_)
  refine G.weak (ls' := [some (.ref mo), some (.int r)]) ?_ rfl (fun _ _ h => h)
  refine g_cut (α := Nat) (fun w => cd2 (gin r 4) w) (fun _ => L) (fun _ => f) (fun _ => 0 + 0) (fun _ => 0 + 0) 14 (fun _ => [some (.ref mo), some (.int r)]) (fun w => [.int (nI w), .ref mo]) (fun J => ?_) (fun w hw => ?_)
  · skip
    refine g_aload_n (n := 1) C dX6_instructions_0 rfl (Or.inr ⟨_, rfl⟩) rfl ?_
    refine g_iload_n (n := 2) C dX6_instructions_1 rfl rfl ?_
    refine g_iconst (n := 3) (v := nI 4) C dX6_instructions_2 rfl rfl ?_
    refine g_S (n := 6) (rest := [_]) C (k6_isIn hE hl (r) (nI 4)) dX6_instructions_3 kM_X6_isIn kL_X6_87 kS_X6_isIn rfl rfl (Nat.le_of_ble_eq_true rfl) ⟨by decide, by decide⟩ ⟨by decide, by decide⟩ rfl (fun v9 L9 f9 hq => ?_)
    obtain ⟨rfl, rfl, rfl⟩ := hq
    refine G.sk (st' := [_, _]) rfl ?_
    refine g_if_eq (n := 9) (tgt := 13) C dX6_instructions_6 (by decide) rfl (fun h6 => ?_) (fun h6 => ?_)
    · have h6 := gin_f h6 (by decide)
      refine g_iconst (n := 14) (v := nI 1) C dX6_instructions_13 rfl rfl ?_
      exact J _ (by simp [cd2, h6])
    · have h6 := gin_t h6 (by decide)
      refine g_iconst (n := 10) (v := nI 0) C dX6_instructions_9 rfl rfl ?_
      refine g_goto (tgt := 14) C dX6_instructions_10 (by decide) ?_
      exact J _ (by simp [cd2, h6])
  · skip
    refine g_V (n := 17) (rest := []) C (k6_fails hE hl hM _) dX6_instructions_14 kM_X6_fails kL_X6_95 kV_X6_fails hM.1 rfl rfl rfl (Nat.le_of_ble_eq_true rfl) ⟨by decide, by decide⟩ ⟨by decide, by decide⟩ rfl (fun v9 L9 f hq => ?_)
    obtain ⟨rfl, hM, rfl⟩ := hq
    refine G.sk (st' := [_]) rfl ?_
    refine g_if_eq (n := 20) (tgt := 24) C dX6_instructions_17 (by decide) rfl (fun h17 => ?_) (fun h17 => ?_)
    · obtain ⟨rfl, ⟨i, hi, rfl⟩⟩ := cd2_f hw h17
      refine g_aload_n (n := 25) C dX6_instructions_24 rfl (Or.inr ⟨_, rfl⟩) rfl ?_
      refine m_get (n := 28) C hM dX6_instructions_25 kF_X6_19 rfl rfl ?_
      refine g_iload_n (n := 29) C dX6_instructions_28 rfl rfl ?_
      refine m_ald (n := 30) C hM dX6_instructions_29 rfl rfl rfl (by simp only [mLen]; omega) (by decide) rfl ?_
      refine g_iret C hr dX6_instructions_30 ?_ ⟨by decide, by decide⟩
      first | exact ⟨rfl, _, _, _, rfl, hM, 0, hw, rfl, fun _ => ⟨rfl, i, hi, rfl, rfl⟩, fun h => absurd rfl h⟩ | exact ⟨rfl, nI 0, A, _, rfl, hM, w, hw, rfl, fun h => absurd h hw0, fun _ => rfl⟩
    · have hw0 := cd_t h17
      refine g_iconst (n := 21) (v := nI 0) C dX6_instructions_20 rfl rfl ?_
      refine g_goto (tgt := 30) C dX6_instructions_21 (by decide) ?_
      refine g_iret C hr dX6_instructions_30 ?_ ⟨by decide, by decide⟩
      first | exact ⟨rfl, _, _, _, rfl, hM, 0, hw, rfl, fun _ => ⟨rfl, i, hi, rfl, rfl⟩, fun h => absurd rfl h⟩ | exact ⟨rfl, nI 0, A, _, rfl, hM, w, hw, rfl, fun h => absurd h hw0, fun _ => rfl⟩
theorem k6_adds {l : Launch} {s0 : State} {D : va_G} {cy : Nat → ClassId} (hE : gE s0 D cy) (hl : l.stackTraces = false) {mo : Nat} {ad : Nat → Nat} {A : Nat → Nat → Int32} {I : Nat → Int32} {L : List Nat} {f : gF} (hM : IsM cy mo ad A I L f) (hR : vRec A) (x what a b : Int32) (q u : Nat) (hq : q < 4) (hu : u < 4) (hu0 : 0 < u) (hx : q = 0 → gin x 4) : gM l s0 D yX6_adds cX6_adds 8 (some .int) 2 0 0 [.ref mo, .int x, .int what, .int a, .int b, .int (nI q), .int (nI u)] L f (mQ cy mo ad L (fun b9 A1 I1 => ∃ w, I1 = va_up I 27 (nI w) ∧ addsR A x what a b q u b9 A1 w)) := by
  refine gM.of (own := RX6) hE hl (by decide +kernel) rfl rfl (Nat.le_of_ble_eq_true rfl) (fun p9 e9 s9 m9 a99 b99 t99 c9 C hr hnm => ?_)
  refine G.weak (ls' := [some (.ref mo), some (.int x), some (.int what), some (.int a), some (.int b), some (.int (nI q)), some (.int (nI u)), none]) ?_ rfl (fun _ _ h => h)
  refine g_cut (α := Nat) (fun w => (q ≠ 0 ∧ w = q) ∨ (q = 0 ∧ ∃ i m, i < 4 ∧ x = nI i ∧ A 3 i = nI m ∧ m ≤ 10 ∧ ((m = 10 ∧ w = u) ∨ (m < 10 ∧ w = 0)))) (fun _ => L) (fun _ => f) (fun _ => 0) (fun _ => 0) 28 (fun _ => [some (.ref mo), some (.int x), some (.int what), some (.int a), some (.int b), some (.int (nI q)), some (.int (nI u)), none]) (fun w => [.int (nI w), .ref mo]) (fun J => ?_) (fun w hw => ?_)
  · skip
    refine g_aload_n (n := 1) C dX6_adds_0 rfl (Or.inr ⟨_, rfl⟩) rfl ?_
    refine g_iload (n := 3) C dX6_adds_1 rfl rfl ?_
    refine g_if_le (n := 6) (tgt := 11) C dX6_adds_3 (by decide) rfl (fun h3 => ?_) (fun h3 => ?_)
    · have hq0 : q = 0 := gn_le0 h3 (by omega)
      obtain ⟨i, hi, rfl⟩ := hx hq0
      obtain ⟨m, b0, hm, hb0, e3, e2, hins⟩ := hR i hi
      refine g_aload_n (n := 12) C dX6_adds_11 rfl (Or.inr ⟨_, rfl⟩) rfl ?_
      refine m_get (n := 15) C hM dX6_adds_12 kF_X6_19 rfl rfl ?_
      refine g_iload_n (n := 16) C dX6_adds_15 rfl rfl ?_
      refine m_ald (n := 17) C hM dX6_adds_16 rfl rfl rfl (by simp only [mLen]; omega) (by decide) rfl ?_
      refine g_bipush (n := 19) (v := nI 10) C dX6_adds_17 rfl rfl ?_
      refine g_icmp_ne (n := 22) (tgt := 27) C dX6_adds_19 (by decide) rfl (fun h19 => ?_) (fun h19 => ?_)
      · refine g_iconst (n := 28) (v := nI 0) C dX6_adds_27 rfl rfl ?_
        first | exact J _ (Or.inl ⟨fun h => h3 (by rw [h]; decide), rfl⟩) | exact J _ (Or.inr ⟨hq0, i, m, hi, rfl, e3, hm, Or.inl ⟨gn_inj (by omega) (by omega) (e3.symm.trans h19), rfl⟩⟩) | exact J _ (Or.inr ⟨hq0, i, m, hi, rfl, e3, hm, Or.inr ⟨(by rcases Nat.lt_or_ge m 10 with h | h; exact h; exact absurd (by rw [e3, show m = 10 by omega]) h19), rfl⟩⟩)
      · refine g_iload (n := 24) C dX6_adds_22 rfl rfl ?_
        refine g_goto (tgt := 28) C dX6_adds_24 (by decide) ?_
        first | exact J _ (Or.inl ⟨fun h => h3 (by rw [h]; decide), rfl⟩) | exact J _ (Or.inr ⟨hq0, i, m, hi, rfl, e3, hm, Or.inl ⟨gn_inj (by omega) (by omega) (e3.symm.trans h19), rfl⟩⟩) | exact J _ (Or.inr ⟨hq0, i, m, hi, rfl, e3, hm, Or.inr ⟨(by rcases Nat.lt_or_ge m 10 with h | h; exact h; exact absurd (by rw [e3, show m = 10 by omega]) h19), rfl⟩⟩)
    · refine g_iload (n := 8) C dX6_adds_6 rfl rfl ?_
      refine g_goto (tgt := 28) C dX6_adds_8 (by decide) ?_
      first | exact J _ (Or.inl ⟨fun h => h3 (by rw [h]; decide), rfl⟩) | exact J _ (Or.inr ⟨hq0, i, m, hi, rfl, e3, hm, Or.inl ⟨gn_inj (by omega) (by omega) (e3.symm.trans h19), rfl⟩⟩) | exact J _ (Or.inr ⟨hq0, i, m, hi, rfl, e3, hm, Or.inr ⟨(by rcases Nat.lt_or_ge m 10 with h | h; exact h; exact absurd (by rw [e3, show m = 10 by omega]) h19), rfl⟩⟩)
  · skip
    refine g_V (n := 31) (rest := []) C (k6_fails hE hl hM _) dX6_adds_28 kM_X6_fails kL_X6_95 kV_X6_fails hM.1 rfl rfl rfl (Nat.le_of_ble_eq_true rfl) ⟨by decide, by decide⟩ ⟨by decide, by decide⟩ rfl (fun v9 L9 f hq => ?_)
    obtain ⟨rfl, hM, rfl⟩ := hq
    refine G.sk (st' := [_]) rfl ?_
    refine g_if_eq (n := 34) (tgt := 36) C dX6_adds_31 (by decide) rfl (fun h31 => ?_) (fun h31 => ?_)
    · rcases hw with ⟨hq0, rfl⟩ | ⟨rfl, i, m, hi, rfl, e3, hm, ⟨h8, rfl⟩ | ⟨h8, rfl⟩⟩
      · exact absurd (cd_f h31 (by omega)) hq0
      · exact absurd (cd_f h31 (by omega)) (by omega)
      refine g_bipush (n := 38) (v := nI 10) C dX6_adds_36 rfl rfl ?_
      refine g_iload_n (n := 39) C dX6_adds_38 rfl rfl ?_
      refine g_imulN (n := 40) C dX6_adds_39 rfl ?_
      refine g_aload_n (n := 41) C dX6_adds_40 rfl (Or.inr ⟨_, rfl⟩) rfl ?_
      refine m_get (n := 44) C hM dX6_adds_41 kF_X6_19 rfl rfl ?_
      refine g_iload_n (n := 45) C dX6_adds_44 rfl rfl ?_
      refine m_ald (n := 46) C hM dX6_adds_45 rfl rfl rfl (by simp only [mLen]; omega) (by decide) rfl ?_
      rw [e3]
      refine g_iaddN (n := 47) C dX6_adds_46 rfl ?_
      refine g_istore (n := 49) (ls' := [_, _, _, _, _, _, _, _]) C dX6_adds_47 rfl (by decide) rfl ?_
      refine g_aload_n (n := 50) C dX6_adds_49 rfl (Or.inr ⟨_, rfl⟩) rfl ?_
      refine m_get (n := 53) C hM dX6_adds_50 kF_X6_22 rfl rfl ?_
      refine g_iload (n := 55) C dX6_adds_53 rfl rfl ?_
      refine g_iload_n (n := 56) C dX6_adds_55 rfl rfl ?_
      refine m_ast (n := 57) C hM dX6_adds_56 rfl rfl rfl (by simp only [mLen]; omega) (by decide) rfl (fun f hM => ?_)
      refine g_aload_n (n := 58) C dX6_adds_57 rfl (Or.inr ⟨_, rfl⟩) rfl ?_
      refine m_get (n := 61) C hM dX6_adds_58 kF_X6_25 rfl rfl ?_
      refine g_iload (n := 63) C dX6_adds_61 rfl rfl ?_
      refine g_iload_n (n := 64) C dX6_adds_63 rfl rfl ?_
      refine m_ast (n := 65) C hM dX6_adds_64 rfl rfl rfl (by simp only [mLen]; omega) (by decide) rfl (fun f hM => ?_)
      refine g_aload_n (n := 66) C dX6_adds_65 rfl (Or.inr ⟨_, rfl⟩) rfl ?_
      refine m_get (n := 69) C hM dX6_adds_66 kF_X6_28 rfl rfl ?_
      refine g_iload (n := 71) C dX6_adds_69 rfl rfl ?_
      refine g_iload (n := 73) C dX6_adds_71 rfl rfl ?_
      refine m_ast (n := 74) C hM dX6_adds_73 rfl rfl rfl (by simp only [mLen]; omega) (by decide) rfl (fun f hM => ?_)
      refine g_aload_n (n := 75) C dX6_adds_74 rfl (Or.inr ⟨_, rfl⟩) rfl ?_
      refine m_get (n := 78) C hM dX6_adds_75 kF_X6_19 rfl rfl ?_
      refine g_iload_n (n := 79) C dX6_adds_78 rfl rfl ?_
      refine g_dup2 (n := 80) C dX6_adds_79 rfl rfl rfl ?_
      refine m_ald (n := 81) C hM dX6_adds_80 rfl rfl rfl (by simp only [mLen]; omega) (by decide) rfl ?_
      refine G.top (y := nI m) (by simp [mU, e3]) ?_
      refine g_iconst (n := 82) (v := nI 1) C dX6_adds_81 rfl rfl ?_
      refine g_iaddN (n := 83) C dX6_adds_82 rfl ?_
      refine m_ast (n := 84) C hM dX6_adds_83 rfl rfl rfl (by simp only [mLen]; omega) (by decide) rfl (fun f hM => ?_)
      refine g_aload_n (n := 85) C dX6_adds_84 rfl (Or.inr ⟨_, rfl⟩) rfl ?_
      refine m_get (n := 88) C hM dX6_adds_85 kF_X6_19 rfl rfl ?_
      refine g_iload_n (n := 89) C dX6_adds_88 rfl rfl ?_
      refine m_ald (n := 90) C hM dX6_adds_89 rfl rfl rfl (by simp only [mLen]; omega) (by decide) rfl ?_
      refine G.top (y := nI (m + 1)) (by simp [mU]) ?_
      refine g_iret C hr dX6_adds_90 ?_ ⟨by decide, by decide⟩
      exact ⟨rfl, _, _, _, rfl, hM, 0, rfl, Or.inr ⟨rfl, i, m, hi, rfl, e3, hm, Or.inr ⟨h8, rfl, rfl, rfl⟩⟩⟩
    · have hw0 := cd_t h31
      refine g_iconst (n := 35) (v := nI 0) C dX6_adds_34 rfl rfl ?_
      refine g_iret C hr dX6_adds_35 ?_ ⟨by decide, by decide⟩
      refine ⟨rfl, nI 0, A, _, rfl, hM, w, rfl, ?_⟩
      rcases hw with ⟨hq0, rfl⟩ | ⟨rfl, i, m, hi, rfl, e3, hm, ⟨h8, rfl⟩ | ⟨h8, rfl⟩⟩
      · exact Or.inl ⟨hq0, rfl, rfl⟩
      · exact Or.inr ⟨rfl, i, m, hi, rfl, e3, hm, Or.inl ⟨h8, rfl, rfl⟩⟩
      · exact absurd rfl hw0
theorem k6_addCopy {l : Launch} {s0 : State} {D : va_G} {cy : Nat → ClassId} (hE : gE s0 D cy) (hl : l.stackTraces = false) {mo : Nat} {ad : Nat → Nat} {A : Nat → Nat → Int32} {I : Nat → Int32} {L : List Nat} {f : gF} (hM : IsM cy mo ad A I L f) (hR : vRec A) (r fl pa : Int32) : gM l s0 D yX6_addCopy cX6_addCopy 5 (some .int) 3 0 0 [.ref mo, .int r, .int fl, .int pa] L f (mQ cy mo ad L (fun b9 A1 I1 => ∃ w, cd3 (gin r 4 ∧ gin fl 8 ∧ gin pa 12) (notFull A r) w ∧ I1 = va_up I 27 (nI w) ∧ (w = 0 → addOK A r (nI 0) fl pa b9 A1) ∧ (w ≠ 0 → A1 = A))) := by
  refine gM.of (own := RX6) hE hl (by decide +kernel) rfl rfl (Nat.le_of_ble_eq_true rfl) (fun p9 e9 s9 m9 a99 b99 t99 c9 C hr hnm => ?_)
  refine G.weak (ls' := [some (.ref mo), some (.int r), some (.int fl), some (.int pa), none]) ?_ rfl (fun _ _ h => h)
  refine g_cut (α := Nat) (fun w => cdb (gin r 4 ∧ gin fl 8 ∧ gin pa 12) w) (fun _ => L) (fun _ => f) (fun _ => 0 + 0) (fun _ => 0 + 0) 31 (fun _ => [some (.ref mo), some (.int r), some (.int fl), some (.int pa), none]) (fun w => [.int (nI w)]) (fun J => ?_) (fun w hw => ?_)
  · skip
    refine g_iload_n (n := 1) C dX6_addCopy_0 rfl rfl ?_
    refine g_iconst (n := 2) (v := nI 4) C dX6_addCopy_1 rfl rfl ?_
    refine g_S (n := 5) (rest := []) C (k6_isIn hE hl (r) (nI 4)) dX6_addCopy_2 kM_X6_isIn kL_X6_87 kS_X6_isIn rfl rfl (Nat.le_of_ble_eq_true rfl) ⟨by decide, by decide⟩ ⟨by decide, by decide⟩ rfl (fun v9 L9 f9 hq => ?_)
    obtain ⟨rfl, rfl, rfl⟩ := hq
    refine G.sk (st' := [_]) rfl ?_
    refine g_if_eq (n := 8) (tgt := 30) C dX6_addCopy_5 (by decide) rfl (fun h5 => ?_) (fun h5 => ?_)
    · have h5 := gin_f h5 (by decide)
      refine g_iconst (n := 31) (v := nI 0) C dX6_addCopy_30 rfl rfl ?_
      exact J _ (by simp [cdb, h5])
    · have h5 := gin_t h5 (by decide)
      refine g_iload_n (n := 9) C dX6_addCopy_8 rfl rfl ?_
      refine g_bipush (n := 11) (v := nI 8) C dX6_addCopy_9 rfl rfl ?_
      refine g_S (n := 14) (rest := []) C (k6_isIn hE hl (fl) (nI 8)) dX6_addCopy_11 kM_X6_isIn kL_X6_87 kS_X6_isIn rfl rfl (Nat.le_of_ble_eq_true rfl) ⟨by decide, by decide⟩ ⟨by decide, by decide⟩ rfl (fun v9 L9 f9 hq => ?_)
      obtain ⟨rfl, rfl, rfl⟩ := hq
      refine G.sk (st' := [_]) rfl ?_
      refine g_if_eq (n := 17) (tgt := 30) C dX6_addCopy_14 (by decide) rfl (fun h14 => ?_) (fun h14 => ?_)
      · have h14 := gin_f h14 (by decide)
        refine g_iconst (n := 31) (v := nI 0) C dX6_addCopy_30 rfl rfl ?_
        exact J _ (by simp [cdb, h5, h14])
      · have h14 := gin_t h14 (by decide)
        refine g_iload_n (n := 18) C dX6_addCopy_17 rfl rfl ?_
        refine g_bipush (n := 20) (v := nI 12) C dX6_addCopy_18 rfl rfl ?_
        refine g_S (n := 23) (rest := []) C (k6_isIn hE hl (pa) (nI 12)) dX6_addCopy_20 kM_X6_isIn kL_X6_87 kS_X6_isIn rfl rfl (Nat.le_of_ble_eq_true rfl) ⟨by decide, by decide⟩ ⟨by decide, by decide⟩ rfl (fun v9 L9 f9 hq => ?_)
        obtain ⟨rfl, rfl, rfl⟩ := hq
        refine G.sk (st' := [_]) rfl ?_
        refine g_if_eq (n := 26) (tgt := 30) C dX6_addCopy_23 (by decide) rfl (fun h23 => ?_) (fun h23 => ?_)
        · have h23 := gin_f h23 (by decide)
          refine g_iconst (n := 31) (v := nI 0) C dX6_addCopy_30 rfl rfl ?_
          exact J _ (by simp [cdb, h5, h14, h23])
        · have h23 := gin_t h23 (by decide)
          refine g_iconst (n := 27) (v := nI 1) C dX6_addCopy_26 rfl rfl ?_
          refine g_goto (tgt := 31) C dX6_addCopy_27 (by decide) ?_
          exact J _ (by simp [cdb, h5, h14, h23])
  · skip
    refine g_istore (n := 33) (ls' := [_, _, _, _, _]) C dX6_addCopy_31 rfl (by decide) rfl ?_
    refine g_aload_n (n := 34) C dX6_addCopy_33 rfl (Or.inr ⟨_, rfl⟩) rfl ?_
    refine g_iload_n (n := 35) C dX6_addCopy_34 rfl rfl ?_
    refine g_iconst (n := 36) (v := nI 0) C dX6_addCopy_35 rfl rfl ?_
    refine g_iload_n (n := 37) C dX6_addCopy_36 rfl rfl ?_
    refine g_iload_n (n := 38) C dX6_addCopy_37 rfl rfl ?_
    refine g_iload (n := 40) C dX6_addCopy_38 rfl rfl ?_
    refine g_if_eq (n := 43) (tgt := 47) C dX6_addCopy_40 (by decide) rfl (fun h40 => ?_) (fun h40 => ?_)
    · have hc := cdb_f hw h40
      refine g_iconst (n := 48) (v := nI 1) C dX6_addCopy_47 rfl rfl ?_
      refine g_iconst (n := 49) (v := nI 2) C dX6_addCopy_48 rfl rfl ?_
      refine g_V (n := 52) (rest := []) C (k6_adds hE hl hM hR r (nI 0) fl pa _ 2 (by decide) (by decide) (by decide) (by first | exact fun h => absurd h (by decide) | exact fun _ => hc.1)) dX6_addCopy_49 kM_X6_adds kL_X6_98 kV_X6_adds hM.1 rfl rfl rfl (Nat.le_of_ble_eq_true rfl) ⟨by decide, by decide⟩ ⟨by decide, by decide⟩ rfl (fun v9 L9 f hq => ?_)
      obtain ⟨rfl, b8, A8, I8, rfl, hM, w8, hI8, hr8⟩ := hq
      refine G.sk (st' := [_]) rfl ?_
      refine g_iret C hr dX6_addCopy_52 ?_ ⟨by decide, by decide⟩
      obtain ⟨hA, hB, hC⟩ := adds3 (c := gin r 4 ∧ gin fl 8 ∧ gin pa 12) (by simp [hc, ]) hr8
      exact ⟨rfl, b8, A8, I8, rfl, hM, w8, hA, hI8, hB, hC⟩
    · have hc := cdb_t hw h40
      refine g_iconst (n := 44) (v := nI 0) C dX6_addCopy_43 rfl rfl ?_
      refine g_goto (tgt := 48) C dX6_addCopy_44 (by decide) ?_
      refine g_iconst (n := 49) (v := nI 2) C dX6_addCopy_48 rfl rfl ?_
      refine g_V (n := 52) (rest := []) C (k6_adds hE hl hM hR r (nI 0) fl pa _ 2 (by decide) (by decide) (by decide) (by first | exact fun h => absurd h (by decide) | exact fun _ => hc.1)) dX6_addCopy_49 kM_X6_adds kL_X6_98 kV_X6_adds hM.1 rfl rfl rfl (Nat.le_of_ble_eq_true rfl) ⟨by decide, by decide⟩ ⟨by decide, by decide⟩ rfl (fun v9 L9 f hq => ?_)
      obtain ⟨rfl, b8, A8, I8, rfl, hM, w8, hI8, hr8⟩ := hq
      refine G.sk (st' := [_]) rfl ?_
      refine g_iret C hr dX6_addCopy_52 ?_ ⟨by decide, by decide⟩
      obtain ⟨hA, hB, hC⟩ := adds3 (c := gin r 4 ∧ gin fl 8 ∧ gin pa 12) (by simp [hc, ]) hr8
      exact ⟨rfl, b8, A8, I8, rfl, hM, w8, hA, hI8, hB, hC⟩
theorem k6_addRun {l : Launch} {s0 : State} {D : va_G} {cy : Nat → ClassId} (hE : gE s0 D cy) (hl : l.stackTraces = false) {mo : Nat} {ad : Nat → Nat} {A : Nat → Nat → Int32} {I : Nat → Int32} {L : List Nat} {f : gF} (hM : IsM cy mo ad A I L f) (hR : vRec A) (r pa va : Int32) : gM l s0 D yX6_addRun cX6_addRun 5 (some .int) 3 0 0 [.ref mo, .int r, .int pa, .int va] L f (mQ cy mo ad L (fun b9 A1 I1 => ∃ w, cd3 (gin r 4 ∧ gin pa 12 ∧ gin va 4) (notFull A r) w ∧ I1 = va_up I 27 (nI w) ∧ (w = 0 → addOK A r (nI 1) pa va b9 A1) ∧ (w ≠ 0 → A1 = A))) := by
  refine gM.of (own := RX6) hE hl (by decide +kernel) rfl rfl (Nat.le_of_ble_eq_true rfl) (fun p9 e9 s9 m9 a99 b99 t99 c9 C hr hnm => ?_)
  refine G.weak (ls' := [some (.ref mo), some (.int r), some (.int pa), some (.int va), none]) ?_ rfl (fun _ _ h => h)
  refine g_cut (α := Nat) (fun w => cdb (gin r 4 ∧ gin pa 12 ∧ gin va 4) w) (fun _ => L) (fun _ => f) (fun _ => 0 + 0) (fun _ => 0 + 0) 30 (fun _ => [some (.ref mo), some (.int r), some (.int pa), some (.int va), none]) (fun w => [.int (nI w)]) (fun J => ?_) (fun w hw => ?_)
  · skip
    refine g_iload_n (n := 1) C dX6_addRun_0 rfl rfl ?_
    refine g_iconst (n := 2) (v := nI 4) C dX6_addRun_1 rfl rfl ?_
    refine g_S (n := 5) (rest := []) C (k6_isIn hE hl (r) (nI 4)) dX6_addRun_2 kM_X6_isIn kL_X6_87 kS_X6_isIn rfl rfl (Nat.le_of_ble_eq_true rfl) ⟨by decide, by decide⟩ ⟨by decide, by decide⟩ rfl (fun v9 L9 f9 hq => ?_)
    obtain ⟨rfl, rfl, rfl⟩ := hq
    refine G.sk (st' := [_]) rfl ?_
    refine g_if_eq (n := 8) (tgt := 29) C dX6_addRun_5 (by decide) rfl (fun h5 => ?_) (fun h5 => ?_)
    · have h5 := gin_f h5 (by decide)
      refine g_iconst (n := 30) (v := nI 0) C dX6_addRun_29 rfl rfl ?_
      exact J _ (by simp [cdb, h5])
    · have h5 := gin_t h5 (by decide)
      refine g_iload_n (n := 9) C dX6_addRun_8 rfl rfl ?_
      refine g_bipush (n := 11) (v := nI 12) C dX6_addRun_9 rfl rfl ?_
      refine g_S (n := 14) (rest := []) C (k6_isIn hE hl (pa) (nI 12)) dX6_addRun_11 kM_X6_isIn kL_X6_87 kS_X6_isIn rfl rfl (Nat.le_of_ble_eq_true rfl) ⟨by decide, by decide⟩ ⟨by decide, by decide⟩ rfl (fun v9 L9 f9 hq => ?_)
      obtain ⟨rfl, rfl, rfl⟩ := hq
      refine G.sk (st' := [_]) rfl ?_
      refine g_if_eq (n := 17) (tgt := 29) C dX6_addRun_14 (by decide) rfl (fun h14 => ?_) (fun h14 => ?_)
      · have h14 := gin_f h14 (by decide)
        refine g_iconst (n := 30) (v := nI 0) C dX6_addRun_29 rfl rfl ?_
        exact J _ (by simp [cdb, h5, h14])
      · have h14 := gin_t h14 (by decide)
        refine g_iload_n (n := 18) C dX6_addRun_17 rfl rfl ?_
        refine g_iconst (n := 19) (v := nI 4) C dX6_addRun_18 rfl rfl ?_
        refine g_S (n := 22) (rest := []) C (k6_isIn hE hl (va) (nI 4)) dX6_addRun_19 kM_X6_isIn kL_X6_87 kS_X6_isIn rfl rfl (Nat.le_of_ble_eq_true rfl) ⟨by decide, by decide⟩ ⟨by decide, by decide⟩ rfl (fun v9 L9 f9 hq => ?_)
        obtain ⟨rfl, rfl, rfl⟩ := hq
        refine G.sk (st' := [_]) rfl ?_
        refine g_if_eq (n := 25) (tgt := 29) C dX6_addRun_22 (by decide) rfl (fun h22 => ?_) (fun h22 => ?_)
        · have h22 := gin_f h22 (by decide)
          refine g_iconst (n := 30) (v := nI 0) C dX6_addRun_29 rfl rfl ?_
          exact J _ (by simp [cdb, h5, h14, h22])
        · have h22 := gin_t h22 (by decide)
          refine g_iconst (n := 26) (v := nI 1) C dX6_addRun_25 rfl rfl ?_
          refine g_goto (tgt := 30) C dX6_addRun_26 (by decide) ?_
          exact J _ (by simp [cdb, h5, h14, h22])
  · skip
    refine g_istore (n := 32) (ls' := [_, _, _, _, _]) C dX6_addRun_30 rfl (by decide) rfl ?_
    refine g_aload_n (n := 33) C dX6_addRun_32 rfl (Or.inr ⟨_, rfl⟩) rfl ?_
    refine g_iload_n (n := 34) C dX6_addRun_33 rfl rfl ?_
    refine g_iconst (n := 35) (v := nI 1) C dX6_addRun_34 rfl rfl ?_
    refine g_iload_n (n := 36) C dX6_addRun_35 rfl rfl ?_
    refine g_iload_n (n := 37) C dX6_addRun_36 rfl rfl ?_
    refine g_iload (n := 39) C dX6_addRun_37 rfl rfl ?_
    refine g_if_eq (n := 42) (tgt := 46) C dX6_addRun_39 (by decide) rfl (fun h39 => ?_) (fun h39 => ?_)
    · have hc := cdb_f hw h39
      refine g_iconst (n := 47) (v := nI 1) C dX6_addRun_46 rfl rfl ?_
      refine g_iconst (n := 48) (v := nI 2) C dX6_addRun_47 rfl rfl ?_
      refine g_V (n := 51) (rest := []) C (k6_adds hE hl hM hR r (nI 1) pa va _ 2 (by decide) (by decide) (by decide) (by first | exact fun h => absurd h (by decide) | exact fun _ => hc.1)) dX6_addRun_48 kM_X6_adds kL_X6_98 kV_X6_adds hM.1 rfl rfl rfl (Nat.le_of_ble_eq_true rfl) ⟨by decide, by decide⟩ ⟨by decide, by decide⟩ rfl (fun v9 L9 f hq => ?_)
      obtain ⟨rfl, b8, A8, I8, rfl, hM, w8, hI8, hr8⟩ := hq
      refine G.sk (st' := [_]) rfl ?_
      refine g_iret C hr dX6_addRun_51 ?_ ⟨by decide, by decide⟩
      obtain ⟨hA, hB, hC⟩ := adds3 (c := gin r 4 ∧ gin pa 12 ∧ gin va 4) (by simp [hc, ]) hr8
      exact ⟨rfl, b8, A8, I8, rfl, hM, w8, hA, hI8, hB, hC⟩
    · have hc := cdb_t hw h39
      refine g_iconst (n := 43) (v := nI 0) C dX6_addRun_42 rfl rfl ?_
      refine g_goto (tgt := 47) C dX6_addRun_43 (by decide) ?_
      refine g_iconst (n := 48) (v := nI 2) C dX6_addRun_47 rfl rfl ?_
      refine g_V (n := 51) (rest := []) C (k6_adds hE hl hM hR r (nI 1) pa va _ 2 (by decide) (by decide) (by decide) (by first | exact fun h => absurd h (by decide) | exact fun _ => hc.1)) dX6_addRun_48 kM_X6_adds kL_X6_98 kV_X6_adds hM.1 rfl rfl rfl (Nat.le_of_ble_eq_true rfl) ⟨by decide, by decide⟩ ⟨by decide, by decide⟩ rfl (fun v9 L9 f hq => ?_)
      obtain ⟨rfl, b8, A8, I8, rfl, hM, w8, hI8, hr8⟩ := hq
      refine G.sk (st' := [_]) rfl ?_
      refine g_iret C hr dX6_addRun_51 ?_ ⟨by decide, by decide⟩
      obtain ⟨hA, hB, hC⟩ := adds3 (c := gin r 4 ∧ gin pa 12 ∧ gin va 4) (by simp [hc, ]) hr8
      exact ⟨rfl, b8, A8, I8, rfl, hM, w8, hA, hI8, hB, hC⟩
theorem k6_addMove {l : Launch} {s0 : State} {D : va_G} {cy : Nat → ClassId} (hE : gE s0 D cy) (hl : l.stackTraces = false) {mo : Nat} {ad : Nat → Nat} {A : Nat → Nat → Int32} {I : Nat → Int32} {L : List Nat} {f : gF} (hM : IsM cy mo ad A I L f) (hR : vRec A) (r fr to : Int32) : gM l s0 D yX6_addMove cX6_addMove 5 (some .int) 3 0 0 [.ref mo, .int r, .int fr, .int to] L f (mQ cy mo ad L (fun b9 A1 I1 => ∃ w, cd4 (gin r 4 ∧ gin fr 12 ∧ gin to 12) (fr ≠ to) (notFull A r) w ∧ I1 = va_up I 27 (nI w) ∧ (w = 0 → addOK A r (nI 2) fr to b9 A1) ∧ (w ≠ 0 → A1 = A))) := by
  refine gM.of (own := RX6) hE hl (by decide +kernel) rfl rfl (Nat.le_of_ble_eq_true rfl) (fun p9 e9 s9 m9 a99 b99 t99 c9 C hr hnm => ?_)
  refine G.weak (ls' := [some (.ref mo), some (.int r), some (.int fr), some (.int to), none]) ?_ rfl (fun _ _ h => h)
  refine g_cut (α := Nat) (fun w => cdb (gin r 4 ∧ gin fr 12 ∧ gin to 12) w) (fun _ => L) (fun _ => f) (fun _ => 0 + 0) (fun _ => 0 + 0) 31 (fun _ => [some (.ref mo), some (.int r), some (.int fr), some (.int to), none]) (fun w => [.int (nI w)]) (fun J => ?_) (fun w hw => ?_)
  · skip
    refine g_iload_n (n := 1) C dX6_addMove_0 rfl rfl ?_
    refine g_iconst (n := 2) (v := nI 4) C dX6_addMove_1 rfl rfl ?_
    refine g_S (n := 5) (rest := []) C (k6_isIn hE hl (r) (nI 4)) dX6_addMove_2 kM_X6_isIn kL_X6_87 kS_X6_isIn rfl rfl (Nat.le_of_ble_eq_true rfl) ⟨by decide, by decide⟩ ⟨by decide, by decide⟩ rfl (fun v9 L9 f9 hq => ?_)
    obtain ⟨rfl, rfl, rfl⟩ := hq
    refine G.sk (st' := [_]) rfl ?_
    refine g_if_eq (n := 8) (tgt := 30) C dX6_addMove_5 (by decide) rfl (fun h5 => ?_) (fun h5 => ?_)
    · have h5 := gin_f h5 (by decide)
      refine g_iconst (n := 31) (v := nI 0) C dX6_addMove_30 rfl rfl ?_
      exact J _ (by simp [cdb, h5])
    · have h5 := gin_t h5 (by decide)
      refine g_iload_n (n := 9) C dX6_addMove_8 rfl rfl ?_
      refine g_bipush (n := 11) (v := nI 12) C dX6_addMove_9 rfl rfl ?_
      refine g_S (n := 14) (rest := []) C (k6_isIn hE hl (fr) (nI 12)) dX6_addMove_11 kM_X6_isIn kL_X6_87 kS_X6_isIn rfl rfl (Nat.le_of_ble_eq_true rfl) ⟨by decide, by decide⟩ ⟨by decide, by decide⟩ rfl (fun v9 L9 f9 hq => ?_)
      obtain ⟨rfl, rfl, rfl⟩ := hq
      refine G.sk (st' := [_]) rfl ?_
      refine g_if_eq (n := 17) (tgt := 30) C dX6_addMove_14 (by decide) rfl (fun h14 => ?_) (fun h14 => ?_)
      · have h14 := gin_f h14 (by decide)
        refine g_iconst (n := 31) (v := nI 0) C dX6_addMove_30 rfl rfl ?_
        exact J _ (by simp [cdb, h5, h14])
      · have h14 := gin_t h14 (by decide)
        refine g_iload_n (n := 18) C dX6_addMove_17 rfl rfl ?_
        refine g_bipush (n := 20) (v := nI 12) C dX6_addMove_18 rfl rfl ?_
        refine g_S (n := 23) (rest := []) C (k6_isIn hE hl (to) (nI 12)) dX6_addMove_20 kM_X6_isIn kL_X6_87 kS_X6_isIn rfl rfl (Nat.le_of_ble_eq_true rfl) ⟨by decide, by decide⟩ ⟨by decide, by decide⟩ rfl (fun v9 L9 f9 hq => ?_)
        obtain ⟨rfl, rfl, rfl⟩ := hq
        refine G.sk (st' := [_]) rfl ?_
        refine g_if_eq (n := 26) (tgt := 30) C dX6_addMove_23 (by decide) rfl (fun h23 => ?_) (fun h23 => ?_)
        · have h23 := gin_f h23 (by decide)
          refine g_iconst (n := 31) (v := nI 0) C dX6_addMove_30 rfl rfl ?_
          exact J _ (by simp [cdb, h5, h14, h23])
        · have h23 := gin_t h23 (by decide)
          refine g_iconst (n := 27) (v := nI 1) C dX6_addMove_26 rfl rfl ?_
          refine g_goto (tgt := 31) C dX6_addMove_27 (by decide) ?_
          exact J _ (by simp [cdb, h5, h14, h23])
  · skip
    refine g_istore (n := 33) (ls' := [_, _, _, _, _]) C dX6_addMove_31 rfl (by decide) rfl ?_
    refine g_aload_n (n := 34) C dX6_addMove_33 rfl (Or.inr ⟨_, rfl⟩) rfl ?_
    refine g_iload_n (n := 35) C dX6_addMove_34 rfl rfl ?_
    refine g_iconst (n := 36) (v := nI 2) C dX6_addMove_35 rfl rfl ?_
    refine g_iload_n (n := 37) C dX6_addMove_36 rfl rfl ?_
    refine g_iload_n (n := 38) C dX6_addMove_37 rfl rfl ?_
    refine g_iload (n := 40) C dX6_addMove_38 rfl rfl ?_
    refine g_if_ne (n := 43) (tgt := 47) C dX6_addMove_40 (by decide) rfl (fun h40 => ?_) (fun h40 => ?_)
    · have hc := cdb_t hw h40
      refine g_iload_n (n := 48) C dX6_addMove_47 rfl rfl ?_
      refine g_iload_n (n := 49) C dX6_addMove_48 rfl rfl ?_
      refine g_icmp_ne (n := 52) (tgt := 56) C dX6_addMove_49 (by decide) rfl (fun h49 => ?_) (fun h49 => ?_)
      · refine g_iconst (n := 57) (v := nI 0) C dX6_addMove_56 rfl rfl ?_
        refine g_iconst (n := 58) (v := nI 3) C dX6_addMove_57 rfl rfl ?_
        refine g_V (n := 61) (rest := []) C (k6_adds hE hl hM hR r (nI 2) fr to _ 3 (by decide) (by decide) (by decide) (by first | exact fun h => absurd h (by decide) | exact fun _ => hc.1)) dX6_addMove_58 kM_X6_adds kL_X6_98 kV_X6_adds hM.1 rfl rfl rfl (Nat.le_of_ble_eq_true rfl) ⟨by decide, by decide⟩ ⟨by decide, by decide⟩ rfl (fun v9 L9 f hq => ?_)
        obtain ⟨rfl, b8, A8, I8, rfl, hM, w8, hI8, hr8⟩ := hq
        refine G.sk (st' := [_]) rfl ?_
        refine g_iret C hr dX6_addMove_61 ?_ ⟨by decide, by decide⟩
        obtain ⟨hA, hB, hC⟩ := adds4 (c := gin r 4 ∧ gin fr 12 ∧ gin to 12) (c2 := fr ≠ to) (by simp [hc, h40, h49]) hr8
        exact ⟨rfl, b8, A8, I8, rfl, hM, w8, hA, hI8, hB, hC⟩
      · refine g_iconst (n := 53) (v := nI 2) C dX6_addMove_52 rfl rfl ?_
        refine g_goto (tgt := 57) C dX6_addMove_53 (by decide) ?_
        refine g_iconst (n := 58) (v := nI 3) C dX6_addMove_57 rfl rfl ?_
        refine g_V (n := 61) (rest := []) C (k6_adds hE hl hM hR r (nI 2) fr to _ 3 (by decide) (by decide) (by decide) (by first | exact fun h => absurd h (by decide) | exact fun _ => hc.1)) dX6_addMove_58 kM_X6_adds kL_X6_98 kV_X6_adds hM.1 rfl rfl rfl (Nat.le_of_ble_eq_true rfl) ⟨by decide, by decide⟩ ⟨by decide, by decide⟩ rfl (fun v9 L9 f hq => ?_)
        obtain ⟨rfl, b8, A8, I8, rfl, hM, w8, hI8, hr8⟩ := hq
        refine G.sk (st' := [_]) rfl ?_
        refine g_iret C hr dX6_addMove_61 ?_ ⟨by decide, by decide⟩
        obtain ⟨hA, hB, hC⟩ := adds4 (c := gin r 4 ∧ gin fr 12 ∧ gin to 12) (c2 := fr ≠ to) (by simp [hc, h40, h49]) hr8
        exact ⟨rfl, b8, A8, I8, rfl, hM, w8, hA, hI8, hB, hC⟩
    · have hc := cdb_f hw h40
      refine g_iconst (n := 44) (v := nI 1) C dX6_addMove_43 rfl rfl ?_
      refine g_goto (tgt := 57) C dX6_addMove_44 (by decide) ?_
      refine g_iconst (n := 58) (v := nI 3) C dX6_addMove_57 rfl rfl ?_
      refine g_V (n := 61) (rest := []) C (k6_adds hE hl hM hR r (nI 2) fr to _ 3 (by decide) (by decide) (by decide) (by first | exact fun h => absurd h (by decide) | exact fun _ => hc.1)) dX6_addMove_58 kM_X6_adds kL_X6_98 kV_X6_adds hM.1 rfl rfl rfl (Nat.le_of_ble_eq_true rfl) ⟨by decide, by decide⟩ ⟨by decide, by decide⟩ rfl (fun v9 L9 f hq => ?_)
      obtain ⟨rfl, b8, A8, I8, rfl, hM, w8, hI8, hr8⟩ := hq
      refine G.sk (st' := [_]) rfl ?_
      refine g_iret C hr dX6_addMove_61 ?_ ⟨by decide, by decide⟩
      obtain ⟨hA, hB, hC⟩ := adds4 (c := gin r 4 ∧ gin fr 12 ∧ gin to 12) (c2 := fr ≠ to) (by simp [hc, h40]) hr8
      exact ⟨rfl, b8, A8, I8, rfl, hM, w8, hA, hI8, hB, hC⟩
theorem k6_addRemove {l : Launch} {s0 : State} {D : va_G} {cy : Nat → ClassId} (hE : gE s0 D cy) (hl : l.stackTraces = false) {mo : Nat} {ad : Nat → Nat} {A : Nat → Nat → Int32} {I : Nat → Int32} {L : List Nat} {f : gF} (hM : IsM cy mo ad A I L f) (hR : vRec A) (r pa : Int32) : gM l s0 D yX6_addRemove cX6_addRemove 4 (some .int) 3 0 0 [.ref mo, .int r, .int pa] L f (mQ cy mo ad L (fun b9 A1 I1 => ∃ w, cd3 (gin r 4 ∧ gin pa 12) (notFull A r) w ∧ I1 = va_up I 27 (nI w) ∧ (w = 0 → addOK A r (nI 3) pa (nI 0) b9 A1) ∧ (w ≠ 0 → A1 = A))) := by
  refine gM.of (own := RX6) hE hl (by decide +kernel) rfl rfl (Nat.le_of_ble_eq_true rfl) (fun p9 e9 s9 m9 a99 b99 t99 c9 C hr hnm => ?_)
  refine G.weak (ls' := [some (.ref mo), some (.int r), some (.int pa), none]) ?_ rfl (fun _ _ h => h)
  refine g_cut (α := Nat) (fun w => cdb (gin r 4 ∧ gin pa 12) w) (fun _ => L) (fun _ => f) (fun _ => 0 + 0) (fun _ => 0 + 0) 22 (fun _ => [some (.ref mo), some (.int r), some (.int pa), none]) (fun w => [.int (nI w)]) (fun J => ?_) (fun w hw => ?_)
  · skip
    refine g_iload_n (n := 1) C dX6_addRemove_0 rfl rfl ?_
    refine g_iconst (n := 2) (v := nI 4) C dX6_addRemove_1 rfl rfl ?_
    refine g_S (n := 5) (rest := []) C (k6_isIn hE hl (r) (nI 4)) dX6_addRemove_2 kM_X6_isIn kL_X6_87 kS_X6_isIn rfl rfl (Nat.le_of_ble_eq_true rfl) ⟨by decide, by decide⟩ ⟨by decide, by decide⟩ rfl (fun v9 L9 f9 hq => ?_)
    obtain ⟨rfl, rfl, rfl⟩ := hq
    refine G.sk (st' := [_]) rfl ?_
    refine g_if_eq (n := 8) (tgt := 21) C dX6_addRemove_5 (by decide) rfl (fun h5 => ?_) (fun h5 => ?_)
    · have h5 := gin_f h5 (by decide)
      refine g_iconst (n := 22) (v := nI 0) C dX6_addRemove_21 rfl rfl ?_
      exact J _ (by simp [cdb, h5])
    · have h5 := gin_t h5 (by decide)
      refine g_iload_n (n := 9) C dX6_addRemove_8 rfl rfl ?_
      refine g_bipush (n := 11) (v := nI 12) C dX6_addRemove_9 rfl rfl ?_
      refine g_S (n := 14) (rest := []) C (k6_isIn hE hl (pa) (nI 12)) dX6_addRemove_11 kM_X6_isIn kL_X6_87 kS_X6_isIn rfl rfl (Nat.le_of_ble_eq_true rfl) ⟨by decide, by decide⟩ ⟨by decide, by decide⟩ rfl (fun v9 L9 f9 hq => ?_)
      obtain ⟨rfl, rfl, rfl⟩ := hq
      refine G.sk (st' := [_]) rfl ?_
      refine g_if_eq (n := 17) (tgt := 21) C dX6_addRemove_14 (by decide) rfl (fun h14 => ?_) (fun h14 => ?_)
      · have h14 := gin_f h14 (by decide)
        refine g_iconst (n := 22) (v := nI 0) C dX6_addRemove_21 rfl rfl ?_
        exact J _ (by simp [cdb, h5, h14])
      · have h14 := gin_t h14 (by decide)
        refine g_iconst (n := 18) (v := nI 1) C dX6_addRemove_17 rfl rfl ?_
        refine g_goto (tgt := 22) C dX6_addRemove_18 (by decide) ?_
        exact J _ (by simp [cdb, h5, h14])
  · skip
    refine g_istore_n (n := 23) (ls' := [_, _, _, _]) C dX6_addRemove_22 rfl (by decide) rfl ?_
    refine g_aload_n (n := 24) C dX6_addRemove_23 rfl (Or.inr ⟨_, rfl⟩) rfl ?_
    refine g_iload_n (n := 25) C dX6_addRemove_24 rfl rfl ?_
    refine g_iconst (n := 26) (v := nI 3) C dX6_addRemove_25 rfl rfl ?_
    refine g_iload_n (n := 27) C dX6_addRemove_26 rfl rfl ?_
    refine g_iconst (n := 28) (v := nI 0) C dX6_addRemove_27 rfl rfl ?_
    refine g_iload_n (n := 29) C dX6_addRemove_28 rfl rfl ?_
    refine g_if_eq (n := 32) (tgt := 36) C dX6_addRemove_29 (by decide) rfl (fun h29 => ?_) (fun h29 => ?_)
    · have hc := cdb_f hw h29
      refine g_iconst (n := 37) (v := nI 1) C dX6_addRemove_36 rfl rfl ?_
      refine g_iconst (n := 38) (v := nI 2) C dX6_addRemove_37 rfl rfl ?_
      refine g_V (n := 41) (rest := []) C (k6_adds hE hl hM hR r (nI 3) pa (nI 0) _ 2 (by decide) (by decide) (by decide) (by first | exact fun h => absurd h (by decide) | exact fun _ => hc.1)) dX6_addRemove_38 kM_X6_adds kL_X6_98 kV_X6_adds hM.1 rfl rfl rfl (Nat.le_of_ble_eq_true rfl) ⟨by decide, by decide⟩ ⟨by decide, by decide⟩ rfl (fun v9 L9 f hq => ?_)
      obtain ⟨rfl, b8, A8, I8, rfl, hM, w8, hI8, hr8⟩ := hq
      refine G.sk (st' := [_]) rfl ?_
      refine g_iret C hr dX6_addRemove_41 ?_ ⟨by decide, by decide⟩
      obtain ⟨hA, hB, hC⟩ := adds3 (c := gin r 4 ∧ gin pa 12) (by simp [hc, ]) hr8
      exact ⟨rfl, b8, A8, I8, rfl, hM, w8, hA, hI8, hB, hC⟩
    · have hc := cdb_t hw h29
      refine g_iconst (n := 33) (v := nI 0) C dX6_addRemove_32 rfl rfl ?_
      refine g_goto (tgt := 37) C dX6_addRemove_33 (by decide) ?_
      refine g_iconst (n := 38) (v := nI 2) C dX6_addRemove_37 rfl rfl ?_
      refine g_V (n := 41) (rest := []) C (k6_adds hE hl hM hR r (nI 3) pa (nI 0) _ 2 (by decide) (by decide) (by decide) (by first | exact fun h => absurd h (by decide) | exact fun _ => hc.1)) dX6_addRemove_38 kM_X6_adds kL_X6_98 kV_X6_adds hM.1 rfl rfl rfl (Nat.le_of_ble_eq_true rfl) ⟨by decide, by decide⟩ ⟨by decide, by decide⟩ rfl (fun v9 L9 f hq => ?_)
      obtain ⟨rfl, b8, A8, I8, rfl, hM, w8, hI8, hr8⟩ := hq
      refine G.sk (st' := [_]) rfl ?_
      refine g_iret C hr dX6_addRemove_41 ?_ ⟨by decide, by decide⟩
      obtain ⟨hA, hB, hC⟩ := adds3 (c := gin r 4 ∧ gin pa 12) (by simp [hc, ]) hr8
      exact ⟨rfl, b8, A8, I8, rfl, hM, w8, hA, hI8, hB, hC⟩
theorem k6_addSet {l : Launch} {s0 : State} {D : va_G} {cy : Nat → ClassId} (hE : gE s0 D cy) (hl : l.stackTraces = false) {mo : Nat} {ad : Nat → Nat} {A : Nat → Nat → Int32} {I : Nat → Int32} {L : List Nat} {f : gF} (hM : IsM cy mo ad A I L f) (hR : vRec A) (r va to : Int32) : gM l s0 D yX6_addSet cX6_addSet 5 (some .int) 3 0 0 [.ref mo, .int r, .int va, .int to] L f (mQ cy mo ad L (fun b9 A1 I1 => ∃ w, cd4 (gin r 4 ∧ gin va 4) (gin to 1000) (notFull A r) w ∧ I1 = va_up I 27 (nI w) ∧ (w = 0 → addOK A r (nI 4) va to b9 A1) ∧ (w ≠ 0 → A1 = A))) := by
  refine gM.of (own := RX6) hE hl (by decide +kernel) rfl rfl (Nat.le_of_ble_eq_true rfl) (fun p9 e9 s9 m9 a99 b99 t99 c9 C hr hnm => ?_)
  refine G.weak (ls' := [some (.ref mo), some (.int r), some (.int va), some (.int to), none]) ?_ rfl (fun _ _ h => h)
  refine g_cut (α := Nat) (fun w => cdb (gin r 4 ∧ gin va 4) w) (fun _ => L) (fun _ => f) (fun _ => 0 + 0) (fun _ => 0 + 0) 21 (fun _ => [some (.ref mo), some (.int r), some (.int va), some (.int to), none]) (fun w => [.int (nI w)]) (fun J => ?_) (fun w hw => ?_)
  · skip
    refine g_iload_n (n := 1) C dX6_addSet_0 rfl rfl ?_
    refine g_iconst (n := 2) (v := nI 4) C dX6_addSet_1 rfl rfl ?_
    refine g_S (n := 5) (rest := []) C (k6_isIn hE hl (r) (nI 4)) dX6_addSet_2 kM_X6_isIn kL_X6_87 kS_X6_isIn rfl rfl (Nat.le_of_ble_eq_true rfl) ⟨by decide, by decide⟩ ⟨by decide, by decide⟩ rfl (fun v9 L9 f9 hq => ?_)
    obtain ⟨rfl, rfl, rfl⟩ := hq
    refine G.sk (st' := [_]) rfl ?_
    refine g_if_eq (n := 8) (tgt := 20) C dX6_addSet_5 (by decide) rfl (fun h5 => ?_) (fun h5 => ?_)
    · have h5 := gin_f h5 (by decide)
      refine g_iconst (n := 21) (v := nI 0) C dX6_addSet_20 rfl rfl ?_
      exact J _ (by simp [cdb, h5])
    · have h5 := gin_t h5 (by decide)
      refine g_iload_n (n := 9) C dX6_addSet_8 rfl rfl ?_
      refine g_iconst (n := 10) (v := nI 4) C dX6_addSet_9 rfl rfl ?_
      refine g_S (n := 13) (rest := []) C (k6_isIn hE hl (va) (nI 4)) dX6_addSet_10 kM_X6_isIn kL_X6_87 kS_X6_isIn rfl rfl (Nat.le_of_ble_eq_true rfl) ⟨by decide, by decide⟩ ⟨by decide, by decide⟩ rfl (fun v9 L9 f9 hq => ?_)
      obtain ⟨rfl, rfl, rfl⟩ := hq
      refine G.sk (st' := [_]) rfl ?_
      refine g_if_eq (n := 16) (tgt := 20) C dX6_addSet_13 (by decide) rfl (fun h13 => ?_) (fun h13 => ?_)
      · have h13 := gin_f h13 (by decide)
        refine g_iconst (n := 21) (v := nI 0) C dX6_addSet_20 rfl rfl ?_
        exact J _ (by simp [cdb, h5, h13])
      · have h13 := gin_t h13 (by decide)
        refine g_iconst (n := 17) (v := nI 1) C dX6_addSet_16 rfl rfl ?_
        refine g_goto (tgt := 21) C dX6_addSet_17 (by decide) ?_
        exact J _ (by simp [cdb, h5, h13])
  · skip
    refine g_istore (n := 23) (ls' := [_, _, _, _, _]) C dX6_addSet_21 rfl (by decide) rfl ?_
    refine g_aload_n (n := 24) C dX6_addSet_23 rfl (Or.inr ⟨_, rfl⟩) rfl ?_
    refine g_iload_n (n := 25) C dX6_addSet_24 rfl rfl ?_
    refine g_iconst (n := 26) (v := nI 4) C dX6_addSet_25 rfl rfl ?_
    refine g_iload_n (n := 27) C dX6_addSet_26 rfl rfl ?_
    refine g_iload_n (n := 28) C dX6_addSet_27 rfl rfl ?_
    refine g_iload (n := 30) C dX6_addSet_28 rfl rfl ?_
    refine g_if_ne (n := 33) (tgt := 37) C dX6_addSet_30 (by decide) rfl (fun h30 => ?_) (fun h30 => ?_)
    · have hc := cdb_t hw h30
      refine g_iload_n (n := 38) C dX6_addSet_37 rfl rfl ?_
      refine g_sipush (n := 41) (v := nI 1000) C dX6_addSet_38 rfl rfl ?_
      refine g_S (n := 44) (rest := [_, _, _, _, _]) C (k6_isIn hE hl (to) (nI 1000)) dX6_addSet_41 kM_X6_isIn kL_X6_87 kS_X6_isIn rfl rfl (Nat.le_of_ble_eq_true rfl) ⟨by decide, by decide⟩ ⟨by decide, by decide⟩ rfl (fun v9 L9 f9 hq => ?_)
      obtain ⟨rfl, rfl, rfl⟩ := hq
      refine G.sk (st' := [_, _, _, _, _, _]) rfl ?_
      refine g_if_eq (n := 47) (tgt := 51) C dX6_addSet_44 (by decide) rfl (fun h44 => ?_) (fun h44 => ?_)
      · have h44 := gin_f h44 (by decide)
        refine g_iconst (n := 52) (v := nI 2) C dX6_addSet_51 rfl rfl ?_
        refine g_iconst (n := 53) (v := nI 3) C dX6_addSet_52 rfl rfl ?_
        refine g_V (n := 56) (rest := []) C (k6_adds hE hl hM hR r (nI 4) va to _ 3 (by decide) (by decide) (by decide) (by first | exact fun h => absurd h (by decide) | exact fun _ => hc.1)) dX6_addSet_53 kM_X6_adds kL_X6_98 kV_X6_adds hM.1 rfl rfl rfl (Nat.le_of_ble_eq_true rfl) ⟨by decide, by decide⟩ ⟨by decide, by decide⟩ rfl (fun v9 L9 f hq => ?_)
        obtain ⟨rfl, b8, A8, I8, rfl, hM, w8, hI8, hr8⟩ := hq
        refine G.sk (st' := [_]) rfl ?_
        refine g_iret C hr dX6_addSet_56 ?_ ⟨by decide, by decide⟩
        obtain ⟨hA, hB, hC⟩ := adds4 (c := gin r 4 ∧ gin va 4) (c2 := gin to 1000) (by simp [hc, h30, h44]) hr8
        exact ⟨rfl, b8, A8, I8, rfl, hM, w8, hA, hI8, hB, hC⟩
      · have h44 := gin_t h44 (by decide)
        refine g_iconst (n := 48) (v := nI 0) C dX6_addSet_47 rfl rfl ?_
        refine g_goto (tgt := 52) C dX6_addSet_48 (by decide) ?_
        refine g_iconst (n := 53) (v := nI 3) C dX6_addSet_52 rfl rfl ?_
        refine g_V (n := 56) (rest := []) C (k6_adds hE hl hM hR r (nI 4) va to _ 3 (by decide) (by decide) (by decide) (by first | exact fun h => absurd h (by decide) | exact fun _ => hc.1)) dX6_addSet_53 kM_X6_adds kL_X6_98 kV_X6_adds hM.1 rfl rfl rfl (Nat.le_of_ble_eq_true rfl) ⟨by decide, by decide⟩ ⟨by decide, by decide⟩ rfl (fun v9 L9 f hq => ?_)
        obtain ⟨rfl, b8, A8, I8, rfl, hM, w8, hI8, hr8⟩ := hq
        refine G.sk (st' := [_]) rfl ?_
        refine g_iret C hr dX6_addSet_56 ?_ ⟨by decide, by decide⟩
        obtain ⟨hA, hB, hC⟩ := adds4 (c := gin r 4 ∧ gin va 4) (c2 := gin to 1000) (by simp [hc, h30, h44]) hr8
        exact ⟨rfl, b8, A8, I8, rfl, hM, w8, hA, hI8, hB, hC⟩
    · have hc := cdb_f hw h30
      refine g_iconst (n := 34) (v := nI 1) C dX6_addSet_33 rfl rfl ?_
      refine g_goto (tgt := 52) C dX6_addSet_34 (by decide) ?_
      refine g_iconst (n := 53) (v := nI 3) C dX6_addSet_52 rfl rfl ?_
      refine g_V (n := 56) (rest := []) C (k6_adds hE hl hM hR r (nI 4) va to _ 3 (by decide) (by decide) (by decide) (by first | exact fun h => absurd h (by decide) | exact fun _ => hc.1)) dX6_addSet_53 kM_X6_adds kL_X6_98 kV_X6_adds hM.1 rfl rfl rfl (Nat.le_of_ble_eq_true rfl) ⟨by decide, by decide⟩ ⟨by decide, by decide⟩ rfl (fun v9 L9 f hq => ?_)
      obtain ⟨rfl, b8, A8, I8, rfl, hM, w8, hI8, hr8⟩ := hq
      refine G.sk (st' := [_]) rfl ?_
      refine g_iret C hr dX6_addSet_56 ?_ ⟨by decide, by decide⟩
      obtain ⟨hA, hB, hC⟩ := adds4 (c := gin r 4 ∧ gin va 4) (c2 := gin to 1000) (by simp [hc, h30]) hr8
      exact ⟨rfl, b8, A8, I8, rfl, hM, w8, hA, hI8, hB, hC⟩
theorem k6_hits {l : Launch} {s0 : State} {D : va_G} {cy : Nat → ClassId} (hE : gE s0 D cy) (hl : l.stackTraces = false) {mo : Nat} {ad : Nat → Nat} {A : Nat → Nat → Int32} {I : Nat → Int32} {L : List Nat} {f : gF} (hM : IsM cy mo ad A I L f) : gM l s0 D yX6_hits cX6_hits 1 (some .int) 2 0 0 [.ref mo] L f (mQ cy mo ad L (fun b9 A1 I1 => b9 = I 25 ∧ A1 = A ∧ I1 = va_up I 27 (nI 0))) := by
  refine gM.of (own := RX6) hE hl (by decide +kernel) rfl rfl (Nat.le_of_ble_eq_true rfl) (fun p9 e9 s9 m9 a99 b99 t99 c9 C hr hnm => ?_)
  refine G.weak (ls' := [some (.ref mo)]) ?_ rfl (fun _ _ h => h)
  refine g_aload_n (n := 1) C dX6_hits_0 rfl (Or.inr ⟨_, rfl⟩) rfl ?_
  refine g_aload_n (n := 2) C dX6_hits_1 rfl (Or.inr ⟨_, rfl⟩) rfl ?_
  refine m_get (n := 5) C hM dX6_hits_2 kF_X6_140 rfl rfl ?_
  refine g_V (n := 8) (rest := []) C (k6_tells hE hl hM _) dX6_hits_5 kM_X6_tells kL_X6_153 kV_X6_tells hM.1 rfl rfl rfl (Nat.le_of_ble_eq_true rfl) ⟨by decide, by decide⟩ ⟨by decide, by decide⟩ rfl (fun v9 L9 f hq => ?_)
  obtain ⟨rfl, hM, rfl⟩ := hq
  refine G.sk (st' := [_]) rfl ?_
  refine g_iret C hr dX6_hits_8 ?_ ⟨by decide, by decide⟩
  exact ⟨rfl, _, _, _, rfl, hM, rfl, rfl, rfl⟩
theorem k6_misses {l : Launch} {s0 : State} {D : va_G} {cy : Nat → ClassId} (hE : gE s0 D cy) (hl : l.stackTraces = false) {mo : Nat} {ad : Nat → Nat} {A : Nat → Nat → Int32} {I : Nat → Int32} {L : List Nat} {f : gF} (hM : IsM cy mo ad A I L f) : gM l s0 D yX6_misses cX6_misses 1 (some .int) 2 0 0 [.ref mo] L f (mQ cy mo ad L (fun b9 A1 I1 => b9 = I 26 ∧ A1 = A ∧ I1 = va_up I 27 (nI 0))) := by
  refine gM.of (own := RX6) hE hl (by decide +kernel) rfl rfl (Nat.le_of_ble_eq_true rfl) (fun p9 e9 s9 m9 a99 b99 t99 c9 C hr hnm => ?_)
  refine G.weak (ls' := [some (.ref mo)]) ?_ rfl (fun _ _ h => h)
  refine g_aload_n (n := 1) C dX6_misses_0 rfl (Or.inr ⟨_, rfl⟩) rfl ?_
  refine g_aload_n (n := 2) C dX6_misses_1 rfl (Or.inr ⟨_, rfl⟩) rfl ?_
  refine m_get (n := 5) C hM dX6_misses_2 kF_X6_143 rfl rfl ?_
  refine g_V (n := 8) (rest := []) C (k6_tells hE hl hM _) dX6_misses_5 kM_X6_tells kL_X6_153 kV_X6_tells hM.1 rfl rfl rfl (Nat.le_of_ble_eq_true rfl) ⟨by decide, by decide⟩ ⟨by decide, by decide⟩ rfl (fun v9 L9 f hq => ?_)
  obtain ⟨rfl, hM, rfl⟩ := hq
  refine G.sk (st' := [_]) rfl ?_
  refine g_iret C hr dX6_misses_8 ?_ ⟨by decide, by decide⟩
  exact ⟨rfl, _, _, _, rfl, hM, rfl, rfl, rfl⟩
theorem k6_layers {l : Launch} {s0 : State} {D : va_G} {cy : Nat → ClassId} (hE : gE s0 D cy) (hl : l.stackTraces = false) {mo : Nat} {ad : Nat → Nat} {A : Nat → Nat → Int32} {I : Nat → Int32} {L : List Nat} {f : gF} (hM : IsM cy mo ad A I L f) : gM l s0 D yX6_layers cX6_layers 1 (some .int) 2 0 0 [.ref mo] L f (mQ cy mo ad L (fun b9 A1 I1 => b9 = I 7 ∧ A1 = A ∧ I1 = va_up I 27 (nI 0))) := by
  refine gM.of (own := RX6) hE hl (by decide +kernel) rfl rfl (Nat.le_of_ble_eq_true rfl) (fun p9 e9 s9 m9 a99 b99 t99 c9 C hr hnm => ?_)
  refine G.weak (ls' := [some (.ref mo)]) ?_ rfl (fun _ _ h => h)
  refine g_aload_n (n := 1) C dX6_layers_0 rfl (Or.inr ⟨_, rfl⟩) rfl ?_
  refine g_aload_n (n := 2) C dX6_layers_1 rfl (Or.inr ⟨_, rfl⟩) rfl ?_
  refine m_get (n := 5) C hM dX6_layers_2 kF_X6_102 rfl rfl ?_
  refine g_V (n := 8) (rest := []) C (k6_tells hE hl hM _) dX6_layers_5 kM_X6_tells kL_X6_153 kV_X6_tells hM.1 rfl rfl rfl (Nat.le_of_ble_eq_true rfl) ⟨by decide, by decide⟩ ⟨by decide, by decide⟩ rfl (fun v9 L9 f hq => ?_)
  obtain ⟨rfl, hM, rfl⟩ := hq
  refine G.sk (st' := [_]) rfl ?_
  refine g_iret C hr dX6_layers_8 ?_ ⟨by decide, by decide⟩
  exact ⟨rfl, _, _, _, rfl, hM, rfl, rfl, rfl⟩
theorem k6_stepsLeft {l : Launch} {s0 : State} {D : va_G} {cy : Nat → ClassId} (hE : gE s0 D cy) (hl : l.stackTraces = false) {mo : Nat} {ad : Nat → Nat} {A : Nat → Nat → Int32} {I : Nat → Int32} {L : List Nat} {f : gF} (hM : IsM cy mo ad A I L f) : gM l s0 D yX6_stepsLeft cX6_stepsLeft 1 (some .int) 2 0 0 [.ref mo] L f (mQ cy mo ad L (fun b9 A1 I1 => b9 = slV I ∧ A1 = A ∧ I1 = va_up I 27 (nI 0))) := by
  refine gM.of (own := RX6) hE hl (by decide +kernel) rfl rfl (Nat.le_of_ble_eq_true rfl) (fun p9 e9 s9 m9 a99 b99 t99 c9 C hr hnm => ?_)
  refine G.weak (ls' := [some (.ref mo)]) ?_ rfl (fun _ _ h => h)
  refine g_aload_n (n := 1) C dX6_stepsLeft_0 rfl (Or.inr ⟨_, rfl⟩) rfl ?_
  refine g_aload_n (n := 2) C dX6_stepsLeft_1 rfl (Or.inr ⟨_, rfl⟩) rfl ?_
  refine m_get (n := 5) C hM dX6_stepsLeft_2 kF_X6_118 rfl rfl ?_
  refine g_if_eq (n := 8) (tgt := 20) C dX6_stepsLeft_5 (by decide) rfl (fun h5 => ?_) (fun h5 => ?_)
  · refine g_iconst (n := 21) (v := nI 0) C dX6_stepsLeft_20 rfl rfl ?_
    refine g_V (n := 24) (rest := []) C (k6_tells hE hl hM _) dX6_stepsLeft_21 kM_X6_tells kL_X6_153 kV_X6_tells hM.1 rfl rfl rfl (Nat.le_of_ble_eq_true rfl) ⟨by decide, by decide⟩ ⟨by decide, by decide⟩ rfl (fun v9 L9 f hq => ?_)
    obtain ⟨rfl, hM, rfl⟩ := hq
    refine G.sk (st' := [_]) rfl ?_
    refine g_iret C hr dX6_stepsLeft_24 ?_ ⟨by decide, by decide⟩
    exact ⟨rfl, _, _, _, rfl, hM, by simp [slV, h5] <;> rfl, rfl, rfl⟩
  · refine g_aload_n (n := 9) C dX6_stepsLeft_8 rfl (Or.inr ⟨_, rfl⟩) rfl ?_
    refine m_get (n := 12) C hM dX6_stepsLeft_9 kF_X6_112 rfl rfl ?_
    refine g_aload_n (n := 13) C dX6_stepsLeft_12 rfl (Or.inr ⟨_, rfl⟩) rfl ?_
    refine m_get (n := 16) C hM dX6_stepsLeft_13 kF_X6_115 rfl rfl ?_
    refine g_isub (n := 17) C dX6_stepsLeft_16 rfl ?_
    refine g_goto (tgt := 21) C dX6_stepsLeft_17 (by decide) ?_
    refine g_V (n := 24) (rest := []) C (k6_tells hE hl hM _) dX6_stepsLeft_21 kM_X6_tells kL_X6_153 kV_X6_tells hM.1 rfl rfl rfl (Nat.le_of_ble_eq_true rfl) ⟨by decide, by decide⟩ ⟨by decide, by decide⟩ rfl (fun v9 L9 f hq => ?_)
    obtain ⟨rfl, hM, rfl⟩ := hq
    refine G.sk (st' := [_]) rfl ?_
    refine g_iret C hr dX6_stepsLeft_24 ?_ ⟨by decide, by decide⟩
    exact ⟨rfl, _, _, _, rfl, hM, by simp [slV, h5] <;> rfl, rfl, rfl⟩
theorem k6_result {l : Launch} {s0 : State} {D : va_G} {cy : Nat → ClassId} (hE : gE s0 D cy) (hl : l.stackTraces = false) {mo : Nat} {ad : Nat → Nat} {A : Nat → Nat → Int32} {I : Nat → Int32} {L : List Nat} {f : gF} (hM : IsM cy mo ad A I L f) (hB : I 18 ≠ 0 → ∃ k, k < 420 ∧ I 24 = nI k) : gM l s0 D yX6_result cX6_result 1 (some .int) 1 0 0 [.ref mo] L f (fun v L1 f1 => v = some (.int (resV A I)) ∧ L = L1 ∧ f = f1) := by
  refine gM.of (own := RX6) hE hl (by decide +kernel) rfl rfl (Nat.le_of_ble_eq_true rfl) (fun p9 e9 s9 m9 a99 b99 t99 c9 C hr hnm => ?_)
  refine G.weak (ls' := [some (.ref mo)]) ?_ rfl (fun _ _ h => h)
  refine g_aload_n (n := 1) C dX6_result_0 rfl (Or.inr ⟨_, rfl⟩) rfl ?_
  refine m_get (n := 4) C hM dX6_result_1 kF_X6_122 rfl rfl ?_
  refine g_if_eq (n := 7) (tgt := 26) C dX6_result_4 (by decide) rfl (fun h4 => ?_) (fun h4 => ?_)
  · refine g_iconst (n := 27) (v := -1) C dX6_result_26 rfl rfl ?_
    refine g_iret C hr dX6_result_27 ?_ ⟨by decide, by decide⟩
    refine ⟨?_, rfl, rfl⟩
    first | (simp [resV, h4]; done) | (have e := nI_clamp (show k < 2 ^ 31 by omega); simp [resV, h4, h16, ek, e])
  · obtain ⟨k, hk, ek⟩ := hB h4
    refine g_aload_n (n := 8) C dX6_result_7 rfl (Or.inr ⟨_, rfl⟩) rfl ?_
    refine m_get (n := 11) C hM dX6_result_8 kF_X6_31 rfl rfl ?_
    refine g_aload_n (n := 12) C dX6_result_11 rfl (Or.inr ⟨_, rfl⟩) rfl ?_
    refine m_get (n := 15) C hM dX6_result_12 kF_X6_68 rfl rfl ?_
    refine m_zld (n := 16) C hM dX6_result_15 rfl rfl ek (by simp only [mLen]; omega) (by decide) rfl ?_
    refine g_if_ne (n := 19) (tgt := 26) C dX6_result_16 (by decide) rfl (fun h16 => ?_) (fun h16 => ?_)
    · refine g_iconst (n := 27) (v := -1) C dX6_result_26 rfl rfl ?_
      refine g_iret C hr dX6_result_27 ?_ ⟨by decide, by decide⟩
      refine ⟨?_, rfl, rfl⟩
      first | (simp [resV, h4]; done) | (have e := nI_clamp (show k < 2 ^ 31 by omega); simp [resV, h4, h16, ek, e])
    · refine g_aload_n (n := 20) C dX6_result_19 rfl (Or.inr ⟨_, rfl⟩) rfl ?_
      refine m_get (n := 23) C hM dX6_result_20 kF_X6_68 rfl rfl ?_
      refine g_goto (tgt := 27) C dX6_result_23 (by decide) ?_
      refine g_iret C hr dX6_result_27 ?_ ⟨by decide, by decide⟩
      refine ⟨?_, rfl, rfl⟩
      first | (simp [resV, h4]; done) | (have e := nI_clamp (show k < 2 ^ 31 by omega); simp [resV, h4, h16, ek, e])
theorem k6_built {l : Launch} {s0 : State} {D : va_G} {cy : Nat → ClassId} (hE : gE s0 D cy) (hl : l.stackTraces = false) {mo : Nat} {ad : Nat → Nat} {A : Nat → Nat → Int32} {I : Nat → Int32} {L : List Nat} {f : gF} (hM : IsM cy mo ad A I L f) (hB : I 18 ≠ 0 → ∃ k, k < 420 ∧ I 24 = nI k) : gM l s0 D yX6_built cX6_built 1 (some .int) 2 0 0 [.ref mo] L f (mQ cy mo ad L (fun b9 A1 I1 => b9 = resV A I ∧ A1 = A ∧ I1 = va_up I 27 (nI 0))) := by
  refine gM.of (own := RX6) hE hl (by decide +kernel) rfl rfl (Nat.le_of_ble_eq_true rfl) (fun p9 e9 s9 m9 a99 b99 t99 c9 C hr hnm => ?_)
  refine G.weak (ls' := [some (.ref mo)]) ?_ rfl (fun _ _ h => h)
  refine g_aload_n (n := 1) C dX6_built_0 rfl (Or.inr ⟨_, rfl⟩) rfl ?_
  refine g_aload_n (n := 2) C dX6_built_1 rfl (Or.inr ⟨_, rfl⟩) rfl ?_
  refine g_V (n := 5) (rest := [_]) C (k6_result hE hl hM hB) dX6_built_2 kM_X6_result kL_X6_156 kV_X6_result hM.1 rfl rfl rfl (Nat.le_of_ble_eq_true rfl) ⟨by decide, by decide⟩ ⟨by decide, by decide⟩ rfl (fun v9 L9 f9 hq => ?_)
  obtain ⟨rfl, rfl, rfl⟩ := hq
  refine G.sk (st' := [_, _]) rfl ?_
  refine g_V (n := 8) (rest := []) C (k6_tells hE hl hM _) dX6_built_5 kM_X6_tells kL_X6_153 kV_X6_tells hM.1 rfl rfl rfl (Nat.le_of_ble_eq_true rfl) ⟨by decide, by decide⟩ ⟨by decide, by decide⟩ rfl (fun v9 L9 f hq => ?_)
  obtain ⟨rfl, hM, rfl⟩ := hq
  refine G.sk (st' := [_]) rfl ?_
  refine g_iret C hr dX6_built_8 ?_ ⟨by decide, by decide⟩
  exact ⟨rfl, _, _, _, rfl, hM, rfl, rfl, rfl⟩
theorem k6_tag {l : Launch} {s0 : State} {D : va_G} {cy : Nat → ClassId} (hE : gE s0 D cy) (hl : l.stackTraces = false) {mo : Nat} {ad : Nat → Nat} {A : Nat → Nat → Int32} {I : Nat → Int32} {L : List Nat} {f : gF} (hM : IsM cy mo ad A I L f) (hB : I 18 ≠ 0 → ∃ k, k < 420 ∧ I 24 = nI k) (t : Int32) : gM l s0 D yX6_tag cX6_tag 3 (some .int) 2 0 0 [.ref mo, .int t] L f (mQ cy mo ad L (fun b9 A1 I1 => ∃ w, cd3 (gin t 5) (resV A I ≠ -1) w ∧ I1 = va_up I 27 (nI w) ∧ (w = 0 → ∃ j, j < 5 ∧ t = nI j ∧ b9 = A 16 j ∧ A1 = mU A 16 j (I 24)) ∧ (w ≠ 0 → A1 = A))) := by
  refine gM.of (own := RX6) hE hl (by decide +kernel) rfl rfl (Nat.le_of_ble_eq_true rfl) (fun p9 e9 s9 m9 a99 b99 t99 c9 C hr hnm => ?_)
  refine G.weak (ls' := [some (.ref mo), some (.int t), none]) ?_ rfl (fun _ _ h => h)
  refine g_cut (α := Nat) (fun w => cd3 (gin t 5) (resV A I ≠ -1) w) (fun _ => L) (fun _ => f) (fun _ => 0 + 0) (fun _ => 0 + 0) 26 (fun _ => [some (.ref mo), some (.int t), none]) (fun w => [.int (nI w), .ref mo]) (fun J => ?_) (fun w hw => ?_)
  · skip
    refine g_aload_n (n := 1) C dX6_tag_0 rfl (Or.inr ⟨_, rfl⟩) rfl ?_
    refine g_iload_n (n := 2) C dX6_tag_1 rfl rfl ?_
    refine g_iconst (n := 3) (v := nI 5) C dX6_tag_2 rfl rfl ?_
    refine g_S (n := 6) (rest := [_]) C (k6_isIn hE hl (t) (nI 5)) dX6_tag_3 kM_X6_isIn kL_X6_87 kS_X6_isIn rfl rfl (Nat.le_of_ble_eq_true rfl) ⟨by decide, by decide⟩ ⟨by decide, by decide⟩ rfl (fun v9 L9 f9 hq => ?_)
    obtain ⟨rfl, rfl, rfl⟩ := hq
    refine G.sk (st' := [_, _]) rfl ?_
    refine g_if_ne (n := 9) (tgt := 13) C dX6_tag_6 (by decide) rfl (fun h6 => ?_) (fun h6 => ?_)
    · have h6 := gin_t h6 (by decide)
      refine g_aload_n (n := 14) C dX6_tag_13 rfl (Or.inr ⟨_, rfl⟩) rfl ?_
      refine g_V (n := 17) (rest := [_]) C (k6_result hE hl hM hB) dX6_tag_14 kM_X6_result kL_X6_156 kV_X6_result hM.1 rfl rfl rfl (Nat.le_of_ble_eq_true rfl) ⟨by decide, by decide⟩ ⟨by decide, by decide⟩ rfl (fun v9 L9 f9 hq => ?_)
      obtain ⟨rfl, rfl, rfl⟩ := hq
      refine G.sk (st' := [_, _]) rfl ?_
      refine g_iconst (n := 18) (v := -1) C dX6_tag_17 rfl rfl ?_
      refine g_icmp_ne (n := 21) (tgt := 25) C dX6_tag_18 (by decide) rfl (fun h18 => ?_) (fun h18 => ?_)
      · refine g_iconst (n := 26) (v := nI 0) C dX6_tag_25 rfl rfl ?_
        exact J _ (by simp [cd3, h6, h18])
      · refine g_iconst (n := 22) (v := nI 2) C dX6_tag_21 rfl rfl ?_
        refine g_goto (tgt := 26) C dX6_tag_22 (by decide) ?_
        exact J _ (by simp [cd3, h6, h18])
    · have h6 := gin_f h6 (by decide)
      refine g_iconst (n := 10) (v := nI 1) C dX6_tag_9 rfl rfl ?_
      refine g_goto (tgt := 26) C dX6_tag_10 (by decide) ?_
      exact J _ (by simp [cd3, h6])
  · skip
    refine g_V (n := 29) (rest := []) C (k6_fails hE hl hM _) dX6_tag_26 kM_X6_fails kL_X6_95 kV_X6_fails hM.1 rfl rfl rfl (Nat.le_of_ble_eq_true rfl) ⟨by decide, by decide⟩ ⟨by decide, by decide⟩ rfl (fun v9 L9 f hq => ?_)
    obtain ⟨rfl, hM, rfl⟩ := hq
    refine G.sk (st' := [_]) rfl ?_
    refine g_if_eq (n := 32) (tgt := 34) C dX6_tag_29 (by decide) rfl (fun h29 => ?_) (fun h29 => ?_)
    · obtain ⟨rfl, ⟨j, hj, rfl⟩, hx⟩ := cd3_f hw h29
      refine g_aload_n (n := 35) C dX6_tag_34 rfl (Or.inr ⟨_, rfl⟩) rfl ?_
      refine m_get (n := 38) C hM dX6_tag_35 kF_X6_56 rfl rfl ?_
      refine g_iload_n (n := 39) C dX6_tag_38 rfl rfl ?_
      refine m_ald (n := 40) C hM dX6_tag_39 rfl rfl rfl (by simp only [mLen]; omega) (by decide) rfl ?_
      refine g_istore_n (n := 41) (ls' := [_, _, _]) C dX6_tag_40 rfl (by decide) rfl ?_
      refine g_aload_n (n := 42) C dX6_tag_41 rfl (Or.inr ⟨_, rfl⟩) rfl ?_
      refine m_get (n := 45) C hM dX6_tag_42 kF_X6_56 rfl rfl ?_
      refine g_iload_n (n := 46) C dX6_tag_45 rfl rfl ?_
      refine g_aload_n (n := 47) C dX6_tag_46 rfl (Or.inr ⟨_, rfl⟩) rfl ?_
      refine m_get (n := 50) C hM dX6_tag_47 kF_X6_68 rfl rfl ?_
      refine m_ast (n := 51) C hM dX6_tag_50 rfl rfl rfl (by simp only [mLen]; omega) (by decide) rfl (fun f hM => ?_)
      refine g_iload_n (n := 52) C dX6_tag_51 rfl rfl ?_
      refine g_iret C hr dX6_tag_52 ?_ ⟨by decide, by decide⟩
      exact ⟨rfl, _, _, _, rfl, hM, 0, hw, rfl, fun _ => ⟨j, hj, rfl, rfl, rfl⟩, fun h => absurd rfl h⟩
    · have hw0 := cd_t h29
      refine g_iconst (n := 33) (v := nI 0) C dX6_tag_32 rfl rfl ?_
      refine g_iret C hr dX6_tag_33 ?_ ⟨by decide, by decide⟩
      exact ⟨rfl, nI 0, A, _, rfl, hM, w, hw, rfl, fun h => absurd h hw0, fun _ => rfl⟩
theorem k6_untag {l : Launch} {s0 : State} {D : va_G} {cy : Nat → ClassId} (hE : gE s0 D cy) (hl : l.stackTraces = false) {mo : Nat} {ad : Nat → Nat} {A : Nat → Nat → Int32} {I : Nat → Int32} {L : List Nat} {f : gF} (hM : IsM cy mo ad A I L f) (t : Int32) : gM l s0 D yX6_untag cX6_untag 3 (some .int) 2 0 0 [.ref mo, .int t] L f (mQ cy mo ad L (fun b9 A1 I1 => ∃ w, cd2 (gin t 5) w ∧ I1 = va_up I 27 (nI w) ∧ (w = 0 → ∃ j, j < 5 ∧ t = nI j ∧ b9 = A 16 j ∧ A1 = mU A 16 j (-1)) ∧ (w ≠ 0 → A1 = A))) := by
  refine gM.of (own := RX6) hE hl (by decide +kernel) rfl rfl (Nat.le_of_ble_eq_true rfl) (fun p9 e9 s9 m9 a99 b99 t99 c9 C hr hnm => ?_)
  refine G.weak (ls' := [some (.ref mo), some (.int t), none]) ?_ rfl (fun _ _ h => h)
  refine g_cut (α := Nat) (fun w => cd2 (gin t 5) w) (fun _ => L) (fun _ => f) (fun _ => 0 + 0) (fun _ => 0 + 0) 14 (fun _ => [some (.ref mo), some (.int t), none]) (fun w => [.int (nI w), .ref mo]) (fun J => ?_) (fun w hw => ?_)
  · skip
    refine g_aload_n (n := 1) C dX6_untag_0 rfl (Or.inr ⟨_, rfl⟩) rfl ?_
    refine g_iload_n (n := 2) C dX6_untag_1 rfl rfl ?_
    refine g_iconst (n := 3) (v := nI 5) C dX6_untag_2 rfl rfl ?_
    refine g_S (n := 6) (rest := [_]) C (k6_isIn hE hl (t) (nI 5)) dX6_untag_3 kM_X6_isIn kL_X6_87 kS_X6_isIn rfl rfl (Nat.le_of_ble_eq_true rfl) ⟨by decide, by decide⟩ ⟨by decide, by decide⟩ rfl (fun v9 L9 f9 hq => ?_)
    obtain ⟨rfl, rfl, rfl⟩ := hq
    refine G.sk (st' := [_, _]) rfl ?_
    refine g_if_eq (n := 9) (tgt := 13) C dX6_untag_6 (by decide) rfl (fun h6 => ?_) (fun h6 => ?_)
    · have h6 := gin_f h6 (by decide)
      refine g_iconst (n := 14) (v := nI 1) C dX6_untag_13 rfl rfl ?_
      exact J _ (by simp [cd2, h6])
    · have h6 := gin_t h6 (by decide)
      refine g_iconst (n := 10) (v := nI 0) C dX6_untag_9 rfl rfl ?_
      refine g_goto (tgt := 14) C dX6_untag_10 (by decide) ?_
      exact J _ (by simp [cd2, h6])
  · skip
    refine g_V (n := 17) (rest := []) C (k6_fails hE hl hM _) dX6_untag_14 kM_X6_fails kL_X6_95 kV_X6_fails hM.1 rfl rfl rfl (Nat.le_of_ble_eq_true rfl) ⟨by decide, by decide⟩ ⟨by decide, by decide⟩ rfl (fun v9 L9 f hq => ?_)
    obtain ⟨rfl, hM, rfl⟩ := hq
    refine G.sk (st' := [_]) rfl ?_
    refine g_if_eq (n := 20) (tgt := 22) C dX6_untag_17 (by decide) rfl (fun h17 => ?_) (fun h17 => ?_)
    · obtain ⟨rfl, ⟨j, hj, rfl⟩⟩ := cd2_f hw h17
      refine g_aload_n (n := 23) C dX6_untag_22 rfl (Or.inr ⟨_, rfl⟩) rfl ?_
      refine m_get (n := 26) C hM dX6_untag_23 kF_X6_56 rfl rfl ?_
      refine g_iload_n (n := 27) C dX6_untag_26 rfl rfl ?_
      refine m_ald (n := 28) C hM dX6_untag_27 rfl rfl rfl (by simp only [mLen]; omega) (by decide) rfl ?_
      refine g_istore_n (n := 29) (ls' := [_, _, _]) C dX6_untag_28 rfl (by decide) rfl ?_
      refine g_aload_n (n := 30) C dX6_untag_29 rfl (Or.inr ⟨_, rfl⟩) rfl ?_
      refine m_get (n := 33) C hM dX6_untag_30 kF_X6_56 rfl rfl ?_
      refine g_iload_n (n := 34) C dX6_untag_33 rfl rfl ?_
      refine g_iconst (n := 35) (v := -1) C dX6_untag_34 rfl rfl ?_
      refine m_ast (n := 36) C hM dX6_untag_35 rfl rfl rfl (by simp only [mLen]; omega) (by decide) rfl (fun f hM => ?_)
      refine g_iload_n (n := 37) C dX6_untag_36 rfl rfl ?_
      refine g_iret C hr dX6_untag_37 ?_ ⟨by decide, by decide⟩
      exact ⟨rfl, _, _, _, rfl, hM, 0, hw, rfl, fun _ => ⟨j, hj, rfl, rfl, rfl⟩, fun h => absurd rfl h⟩
    · have hw0 := cd_t h17
      refine g_iconst (n := 21) (v := nI 0) C dX6_untag_20 rfl rfl ?_
      refine g_iret C hr dX6_untag_21 ?_ ⟨by decide, by decide⟩
      exact ⟨rfl, nI 0, A, _, rfl, hM, w, hw, rfl, fun h => absurd h hw0, fun _ => rfl⟩
theorem k6_tagged {l : Launch} {s0 : State} {D : va_G} {cy : Nat → ClassId} (hE : gE s0 D cy) (hl : l.stackTraces = false) {mo : Nat} {ad : Nat → Nat} {A : Nat → Nat → Int32} {I : Nat → Int32} {L : List Nat} {f : gF} (hM : IsM cy mo ad A I L f) (t : Int32) : gM l s0 D yX6_tagged cX6_tagged 2 (some .int) 2 0 0 [.ref mo, .int t] L f (mQ cy mo ad L (fun b9 A1 I1 => ∃ w, cd2 (gin t 5) w ∧ I1 = va_up I 27 (nI w) ∧ (w = 0 → A1 = A ∧ ∃ j, j < 5 ∧ t = nI j ∧ b9 = A 16 j) ∧ (w ≠ 0 → A1 = A))) := by
  refine gM.of (own := RX6) hE hl (by decide +kernel) rfl rfl (Nat.le_of_ble_eq_true rfl) (fun p9 e9 s9 m9 a99 b99 t99 c9 C hr hnm => ?_)
  refine G.weak (ls' := [some (.ref mo), some (.int t)]) ?_ rfl (fun _ _ h => h)
  refine g_cut (α := Nat) (fun w => cd2 (gin t 5) w) (fun _ => L) (fun _ => f) (fun _ => 0 + 0) (fun _ => 0 + 0) 14 (fun _ => [some (.ref mo), some (.int t)]) (fun w => [.int (nI w), .ref mo]) (fun J => ?_) (fun w hw => ?_)
  · skip
    refine g_aload_n (n := 1) C dX6_tagged_0 rfl (Or.inr ⟨_, rfl⟩) rfl ?_
    refine g_iload_n (n := 2) C dX6_tagged_1 rfl rfl ?_
    refine g_iconst (n := 3) (v := nI 5) C dX6_tagged_2 rfl rfl ?_
    refine g_S (n := 6) (rest := [_]) C (k6_isIn hE hl (t) (nI 5)) dX6_tagged_3 kM_X6_isIn kL_X6_87 kS_X6_isIn rfl rfl (Nat.le_of_ble_eq_true rfl) ⟨by decide, by decide⟩ ⟨by decide, by decide⟩ rfl (fun v9 L9 f9 hq => ?_)
    obtain ⟨rfl, rfl, rfl⟩ := hq
    refine G.sk (st' := [_, _]) rfl ?_
    refine g_if_eq (n := 9) (tgt := 13) C dX6_tagged_6 (by decide) rfl (fun h6 => ?_) (fun h6 => ?_)
    · have h6 := gin_f h6 (by decide)
      refine g_iconst (n := 14) (v := nI 1) C dX6_tagged_13 rfl rfl ?_
      exact J _ (by simp [cd2, h6])
    · have h6 := gin_t h6 (by decide)
      refine g_iconst (n := 10) (v := nI 0) C dX6_tagged_9 rfl rfl ?_
      refine g_goto (tgt := 14) C dX6_tagged_10 (by decide) ?_
      exact J _ (by simp [cd2, h6])
  · skip
    refine g_V (n := 17) (rest := []) C (k6_fails hE hl hM _) dX6_tagged_14 kM_X6_fails kL_X6_95 kV_X6_fails hM.1 rfl rfl rfl (Nat.le_of_ble_eq_true rfl) ⟨by decide, by decide⟩ ⟨by decide, by decide⟩ rfl (fun v9 L9 f hq => ?_)
    obtain ⟨rfl, hM, rfl⟩ := hq
    refine G.sk (st' := [_]) rfl ?_
    refine g_if_eq (n := 20) (tgt := 24) C dX6_tagged_17 (by decide) rfl (fun h17 => ?_) (fun h17 => ?_)
    · obtain ⟨rfl, ⟨j, hj, rfl⟩⟩ := cd2_f hw h17
      refine g_aload_n (n := 25) C dX6_tagged_24 rfl (Or.inr ⟨_, rfl⟩) rfl ?_
      refine m_get (n := 28) C hM dX6_tagged_25 kF_X6_56 rfl rfl ?_
      refine g_iload_n (n := 29) C dX6_tagged_28 rfl rfl ?_
      refine m_ald (n := 30) C hM dX6_tagged_29 rfl rfl rfl (by simp only [mLen]; omega) (by decide) rfl ?_
      refine g_iret C hr dX6_tagged_30 ?_ ⟨by decide, by decide⟩
      first | exact ⟨rfl, _, _, _, rfl, hM, 0, hw, rfl, fun _ => ⟨rfl, j, hj, rfl, rfl⟩, fun h => absurd rfl h⟩ | exact ⟨rfl, nI 0, A, _, rfl, hM, w, hw, rfl, fun h => absurd h hw0, fun _ => rfl⟩
    · have hw0 := cd_t h17
      refine g_iconst (n := 21) (v := nI 0) C dX6_tagged_20 rfl rfl ?_
      refine g_goto (tgt := 30) C dX6_tagged_21 (by decide) ?_
      refine g_iret C hr dX6_tagged_30 ?_ ⟨by decide, by decide⟩
      first | exact ⟨rfl, _, _, _, rfl, hM, 0, hw, rfl, fun _ => ⟨rfl, j, hj, rfl, rfl⟩, fun h => absurd rfl h⟩ | exact ⟨rfl, nI 0, A, _, rfl, hM, w, hw, rfl, fun h => absurd h hw0, fun _ => rfl⟩

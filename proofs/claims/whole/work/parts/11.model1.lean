/-! ===== the reference, I: codes, small methods ===== -/
def cd2 (P : Prop) (w : Nat) : Prop := (w = 1 ∧ ¬ P) ∨ (w = 0 ∧ P)
def cd3 (P1 P2 : Prop) (w : Nat) : Prop := (w = 1 ∧ ¬ P1) ∨ (w = 2 ∧ P1 ∧ ¬ P2) ∨ (w = 0 ∧ P1 ∧ P2)
def cd4 (P1 P2 P3 : Prop) (w : Nat) : Prop := (w = 1 ∧ ¬ P1) ∨ (w = 2 ∧ P1 ∧ ¬ P2) ∨ (w = 3 ∧ P1 ∧ P2 ∧ ¬ P3) ∨ (w = 0 ∧ P1 ∧ P2 ∧ P3)
theorem cd2_u {P : Prop} {a b : Nat} (h : cd2 P a) (h2 : cd2 P b) : a = b := by
  rcases h with ⟨rfl, h⟩ | ⟨rfl, h⟩ <;> rcases h2 with ⟨rfl, h2⟩ | ⟨rfl, h2⟩ <;> first | rfl | exact absurd h2 h | exact absurd h h2
theorem cd3_u {P1 P2 : Prop} {a b : Nat} (h : cd3 P1 P2 a) (h2 : cd3 P1 P2 b) : a = b := by
  rcases h with ⟨rfl, h⟩ | ⟨rfl, h, k⟩ | ⟨rfl, h, k⟩ <;> rcases h2 with ⟨rfl, h2⟩ | ⟨rfl, h2, k2⟩ | ⟨rfl, h2, k2⟩ <;> first | rfl | exact absurd h2 h | exact absurd h h2 | exact absurd k k2 | exact absurd k2 k
theorem cd4_u {P1 P2 P3 : Prop} {a b : Nat} (h : cd4 P1 P2 P3 a) (h2 : cd4 P1 P2 P3 b) : a = b := by
  rcases h with ⟨rfl, h⟩ | ⟨rfl, h, k⟩ | ⟨rfl, h, k, j⟩ | ⟨rfl, h, k, j⟩ <;> rcases h2 with ⟨rfl, h2⟩ | ⟨rfl, h2, k2⟩ | ⟨rfl, h2, k2, j2⟩ | ⟨rfl, h2, k2, j2⟩ <;> first | rfl | exact absurd h2 h | exact absurd h h2 | exact absurd k k2 | exact absurd k2 k | exact absurd j j2 | exact absurd j2 j
theorem cd_f {w : Nat} (h : bI (0 < nI w) = 0) (hw : w < 4) : w = 0 := by
  rcases (show w = 0 ∨ w = 1 ∨ w = 2 ∨ w = 3 by omega) with rfl | rfl | rfl | rfl
  · rfl
  all_goals exact absurd h (by decide)
theorem cd_t {w : Nat} (h : ¬ bI (0 < nI w) = 0) : w ≠ 0 := fun e => h (by subst e; decide)
theorem cd2_f {P : Prop} {w : Nat} (hc : cd2 P w) (h : bI (0 < nI w) = 0) : w = 0 ∧ P := by
  rcases hc with ⟨rfl, h1⟩ | ⟨rfl, h1⟩
  · exact absurd h (by decide)
  · exact ⟨rfl, h1⟩
theorem cd3_f {P1 P2 : Prop} {w : Nat} (hc : cd3 P1 P2 w) (h : bI (0 < nI w) = 0) : w = 0 ∧ P1 ∧ P2 := by
  rcases hc with ⟨rfl, h1⟩ | ⟨rfl, h1⟩ | ⟨rfl, h1⟩
  · exact absurd h (by decide)
  · exact absurd h (by decide)
  · exact ⟨rfl, h1⟩
theorem cd4_f {P1 P2 P3 : Prop} {w : Nat} (hc : cd4 P1 P2 P3 w) (h : bI (0 < nI w) = 0) : w = 0 ∧ P1 ∧ P2 ∧ P3 := by
  rcases hc with ⟨rfl, h1⟩ | ⟨rfl, h1⟩ | ⟨rfl, h1⟩ | ⟨rfl, h1⟩
  · exact absurd h (by decide)
  · exact absurd h (by decide)
  · exact absurd h (by decide)
  · exact ⟨rfl, h1⟩
theorem gin_t {x : Int32} {N : Nat} (h : ¬ bI (0 ≤ x ∧ x < nI N) = 0) (hN : N < 2 ^ 31) : gin x N := (gin_iff hN).mp (Classical.byContradiction fun q => h (bI_0.mpr q))
theorem gin_f {x : Int32} {N : Nat} (h : bI (0 ≤ x ∧ x < nI N) = 0) (hN : N < 2 ^ 31) : ¬ gin x N := fun q => bI_0.mp h ((gin_iff hN).mpr q)
theorem gct_t {x : Int32} (h : ¬ bI (-1 ≤ x ∧ x ≤ nI 9999) = 0) : gct x := gct_iff.mp (Classical.byContradiction fun q => h (bI_0.mpr q))
theorem gct_f {x : Int32} (h : bI (-1 ≤ x ∧ x ≤ nI 9999) = 0) : ¬ gct x := fun q => bI_0.mp h (gct_iff.mpr q)
/-- what a public method of the reference leaves: its answer, its arrays and numbers -/
def mQ (cy : Nat → ClassId) (mo : Nat) (ad : Nat → Nat) (L : List Nat) (Rl : Int32 → (Nat → Nat → Int32) → (Nat → Int32) → Prop) : Option Value → List Nat → gF → Prop := fun v L1 f1 => L = L1 ∧ ∃ (b : Int32) (A1 : Nat → Nat → Int32) (I1 : Nat → Int32), v = some (.int b) ∧ IsM cy mo ad A1 I1 L f1 ∧ Rl b A1 I1
theorem k6_isIn {l : Launch} {s0 : State} {D : va_G} {cy : Nat → ClassId} (hE : gE s0 D cy) (hl : l.stackTraces = false) {L : List Nat} {f : gF} (x y : Int32) : gM l s0 D yX6_isIn cX6_isIn 2 (some .boolean) 1 0 0 [.int x, .int y] L f (fun v L1 f1 => v = some (.int (bI (0 ≤ x ∧ x < y))) ∧ L = L1 ∧ f = f1) := by
  refine gM.of (own := RX6) hE hl (by decide +kernel) rfl rfl (Nat.le_of_ble_eq_true rfl) (fun p9 e9 s9 m9 a99 b99 t99 c9 C hr hnm => ?_)
  refine G.weak (ls' := [some (.int x), some (.int y)]) ?_ rfl (fun _ _ h => h)
  refine g_iload_n (n := 1) C dX6_isIn_0 rfl rfl ?_
  refine g_if_lt (n := 4) (tgt := 13) C dX6_isIn_1 (by decide) rfl (fun h1 => ?_) (fun h1 => ?_)
  · refine g_iconst (n := 14) (v := nI 0) C dX6_isIn_13 rfl rfl ?_
    refine g_zret C hr rfl dX6_isIn_14 ?_ ⟨by decide, by decide⟩
    exact ⟨by simp only [gn_lt, gn_le, bI] at *; split <;> first | rfl | (exfalso; omega), rfl, rfl⟩
  · refine g_iload_n (n := 5) C dX6_isIn_4 rfl rfl ?_
    refine g_iload_n (n := 6) C dX6_isIn_5 rfl rfl ?_
    refine g_icmp_ge (n := 9) (tgt := 13) C dX6_isIn_6 (by decide) rfl (fun h6 => ?_) (fun h6 => ?_)
    · refine g_iconst (n := 14) (v := nI 0) C dX6_isIn_13 rfl rfl ?_
      refine g_zret C hr rfl dX6_isIn_14 ?_ ⟨by decide, by decide⟩
      exact ⟨by simp only [gn_lt, gn_le, bI] at *; split <;> first | rfl | (exfalso; omega), rfl, rfl⟩
    · refine g_iconst (n := 10) (v := nI 1) C dX6_isIn_9 rfl rfl ?_
      refine g_goto (tgt := 14) C dX6_isIn_10 (by decide) ?_
      refine g_zret C hr rfl dX6_isIn_14 ?_ ⟨by decide, by decide⟩
      exact ⟨by simp only [gn_lt, gn_le, bI] at *; split <;> first | rfl | (exfalso; omega), rfl, rfl⟩
theorem k6_isContent {l : Launch} {s0 : State} {D : va_G} {cy : Nat → ClassId} (hE : gE s0 D cy) (hl : l.stackTraces = false) {L : List Nat} {f : gF} (x : Int32) : gM l s0 D yX6_isContent cX6_isContent 1 (some .boolean) 1 0 0 [.int x] L f (fun v L1 f1 => v = some (.int (bI (-1 ≤ x ∧ x ≤ nI 9999))) ∧ L = L1 ∧ f = f1) := by
  refine gM.of (own := RX6) hE hl (by decide +kernel) rfl rfl (Nat.le_of_ble_eq_true rfl) (fun p9 e9 s9 m9 a99 b99 t99 c9 C hr hnm => ?_)
  refine G.weak (ls' := [some (.int x)]) ?_ rfl (fun _ _ h => h)
  refine g_iload_n (n := 1) C dX6_isContent_0 rfl rfl ?_
  refine g_iconst (n := 2) (v := -1) C dX6_isContent_1 rfl rfl ?_
  refine g_icmp_lt (n := 5) (tgt := 16) C dX6_isContent_2 (by decide) rfl (fun h2 => ?_) (fun h2 => ?_)
  · refine g_iconst (n := 17) (v := nI 0) C dX6_isContent_16 rfl rfl ?_
    refine g_zret C hr rfl dX6_isContent_17 ?_ ⟨by decide, by decide⟩
    exact ⟨by simp only [gn_lt, gn_le, bI] at *; split <;> first | rfl | (exfalso; omega), rfl, rfl⟩
  · refine g_iload_n (n := 6) C dX6_isContent_5 rfl rfl ?_
    refine g_sipush (n := 9) (v := nI 9999) C dX6_isContent_6 rfl rfl ?_
    refine g_icmp_gt (n := 12) (tgt := 16) C dX6_isContent_9 (by decide) rfl (fun h9 => ?_) (fun h9 => ?_)
    · refine g_iconst (n := 17) (v := nI 0) C dX6_isContent_16 rfl rfl ?_
      refine g_zret C hr rfl dX6_isContent_17 ?_ ⟨by decide, by decide⟩
      exact ⟨by simp only [gn_lt, gn_le, bI] at *; split <;> first | rfl | (exfalso; omega), rfl, rfl⟩
    · refine g_iconst (n := 13) (v := nI 1) C dX6_isContent_12 rfl rfl ?_
      refine g_goto (tgt := 17) C dX6_isContent_13 (by decide) ?_
      refine g_zret C hr rfl dX6_isContent_17 ?_ ⟨by decide, by decide⟩
      exact ⟨by simp only [gn_lt, gn_le, bI] at *; split <;> first | rfl | (exfalso; omega), rfl, rfl⟩
theorem k6_fails {l : Launch} {s0 : State} {D : va_G} {cy : Nat → ClassId} (hE : gE s0 D cy) (hl : l.stackTraces = false) {mo : Nat} {ad : Nat → Nat} {A : Nat → Nat → Int32} {I : Nat → Int32} {L : List Nat} {f : gF} (hM : IsM cy mo ad A I L f) (w : Int32) : gM l s0 D yX6_fails cX6_fails 2 (some .boolean) 1 0 0 [.ref mo, .int w] L f (fun v L1 f1 => L = L1 ∧ IsM cy mo ad A (va_up I 27 w) L f1 ∧ v = some (.int (bI (0 < w)))) := by
  refine gM.of (own := RX6) hE hl (by decide +kernel) rfl rfl (Nat.le_of_ble_eq_true rfl) (fun p9 e9 s9 m9 a99 b99 t99 c9 C hr hnm => ?_)
  refine G.weak (ls' := [some (.ref mo), some (.int w)]) ?_ rfl (fun _ _ h => h)
  refine g_aload_n (n := 1) C dX6_fails_0 rfl (Or.inr ⟨_, rfl⟩) rfl ?_
  refine g_iload_n (n := 2) C dX6_fails_1 rfl rfl ?_
  refine m_put (n := 5) C hM dX6_fails_2 kP_X6_84 ⟨rfl, rfl⟩ (by decide) rfl rfl (fun f hM => ?_)
  refine g_iload_n (n := 6) C dX6_fails_5 rfl rfl ?_
  refine g_if_le (n := 9) (tgt := 13) C dX6_fails_6 (by decide) rfl (fun h6 => ?_) (fun h6 => ?_)
  · refine g_iconst (n := 14) (v := nI 0) C dX6_fails_13 rfl rfl ?_
    refine g_zret C hr rfl dX6_fails_14 ?_ ⟨by decide, by decide⟩
    exact ⟨rfl, hM, by simp only [gn_lt, gn_le, bI] at *; split <;> first | rfl | (exfalso; omega)⟩
  · refine g_iconst (n := 10) (v := nI 1) C dX6_fails_9 rfl rfl ?_
    refine g_goto (tgt := 14) C dX6_fails_10 (by decide) ?_
    refine g_zret C hr rfl dX6_fails_14 ?_ ⟨by decide, by decide⟩
    exact ⟨rfl, hM, by simp only [gn_lt, gn_le, bI] at *; split <;> first | rfl | (exfalso; omega)⟩
theorem k6_tells {l : Launch} {s0 : State} {D : va_G} {cy : Nat → ClassId} (hE : gE s0 D cy) (hl : l.stackTraces = false) {mo : Nat} {ad : Nat → Nat} {A : Nat → Nat → Int32} {I : Nat → Int32} {L : List Nat} {f : gF} (hM : IsM cy mo ad A I L f) (w : Int32) : gM l s0 D yX6_tells cX6_tells 2 (some .int) 1 0 0 [.ref mo, .int w] L f (fun v L1 f1 => L = L1 ∧ IsM cy mo ad A (va_up I 27 (nI 0)) L f1 ∧ v = some (.int w)) := by
  refine gM.of (own := RX6) hE hl (by decide +kernel) rfl rfl (Nat.le_of_ble_eq_true rfl) (fun p9 e9 s9 m9 a99 b99 t99 c9 C hr hnm => ?_)
  refine G.weak (ls' := [some (.ref mo), some (.int w)]) ?_ rfl (fun _ _ h => h)
  refine g_aload_n (n := 1) C dX6_tells_0 rfl (Or.inr ⟨_, rfl⟩) rfl ?_
  refine g_iconst (n := 2) (v := nI 0) C dX6_tells_1 rfl rfl ?_
  refine m_put (n := 5) C hM dX6_tells_2 kP_X6_84 ⟨rfl, rfl⟩ (by decide) rfl rfl (fun f hM => ?_)
  refine g_iload_n (n := 6) C dX6_tells_5 rfl rfl ?_
  refine g_iret C hr dX6_tells_6 ?_ ⟨by decide, by decide⟩
  exact ⟨rfl, hM, rfl⟩
theorem k6_thrown {l : Launch} {s0 : State} {D : va_G} {cy : Nat → ClassId} (hE : gE s0 D cy) (hl : l.stackTraces = false) {mo : Nat} {ad : Nat → Nat} {A : Nat → Nat → Int32} {I : Nat → Int32} {L : List Nat} {f : gF} (hM : IsM cy mo ad A I L f) : gM l s0 D yX6_thrown cX6_thrown 1 (some .int) 1 0 0 [.ref mo] L f (fun v L1 f1 => L = L1 ∧ f = f1 ∧ v = some (.int (I 27))) := by
  refine gM.of (own := RX6) hE hl (by decide +kernel) rfl rfl (Nat.le_of_ble_eq_true rfl) (fun p9 e9 s9 m9 a99 b99 t99 c9 C hr hnm => ?_)
  refine G.weak (ls' := [some (.ref mo)]) ?_ rfl (fun _ _ h => h)
  refine g_aload_n (n := 1) C dX6_thrown_0 rfl (Or.inr ⟨_, rfl⟩) rfl ?_
  refine m_get (n := 4) C hM dX6_thrown_1 kF_X6_84 rfl rfl ?_
  refine g_iret C hr dX6_thrown_4 ?_ ⟨by decide, by decide⟩
  exact ⟨rfl, rfl, rfl⟩
theorem k6_setFile {l : Launch} {s0 : State} {D : va_G} {cy : Nat → ClassId} (hE : gE s0 D cy) (hl : l.stackTraces = false) {mo : Nat} {ad : Nat → Nat} {A : Nat → Nat → Int32} {I : Nat → Int32} {L : List Nat} {f : gF} (hM : IsM cy mo ad A I L f) (x y : Int32) : gM l s0 D yX6_setFile cX6_setFile 4 (some .int) 2 0 0 [.ref mo, .int x, .int y] L f (mQ cy mo ad L (fun b A1 I1 => ∃ w, cd3 (gin x 8) (gct y) w ∧ I1 = va_up I 27 (nI w) ∧ (w = 0 → ∃ j, j < 8 ∧ x = nI j ∧ b = A 0 j ∧ A1 = mU A 0 j y) ∧ (w ≠ 0 → A1 = A))) := by
  refine gM.of (own := RX6) hE hl (by decide +kernel) rfl rfl (Nat.le_of_ble_eq_true rfl) (fun p9 e9 s9 m9 a99 b99 t99 c9 C hr hnm => ?_)
  refine G.weak (ls' := [some (.ref mo), some (.int x), some (.int y), none]) ?_ rfl (fun _ _ h => h)
  refine g_cut (α := Nat) (fun w => cd3 (gin x 8) (gct y) w) (fun _ => L) (fun _ => f) (fun _ => 0 + 0) (fun _ => 0 + 0) 26 (fun _ => [some (.ref mo), some (.int x), some (.int y), none]) (fun w => [.int (nI w), .ref mo]) (fun J => ?_) (fun w hw => ?_)
  · skip
    refine g_aload_n (n := 1) C dX6_setFile_0 rfl (Or.inr ⟨_, rfl⟩) rfl ?_
    refine g_iload_n (n := 2) C dX6_setFile_1 rfl rfl ?_
    refine g_bipush (n := 4) (v := nI 8) C dX6_setFile_2 rfl rfl ?_
    refine g_S (n := 7) (rest := [_]) C (k6_isIn hE hl (x) (nI 8)) dX6_setFile_4 kM_X6_isIn kL_X6_87 kS_X6_isIn rfl rfl (Nat.le_of_ble_eq_true rfl) ⟨by decide, by decide⟩ ⟨by decide, by decide⟩ rfl (fun v9 L9 f9 hq => ?_)
    obtain ⟨rfl, rfl, rfl⟩ := hq
    refine G.sk (st' := [_, _]) rfl ?_
    refine g_if_ne (n := 10) (tgt := 14) C dX6_setFile_7 (by decide) rfl (fun h7 => ?_) (fun h7 => ?_)
    · have h7 := gin_t h7 (by decide)
      refine g_iload_n (n := 15) C dX6_setFile_14 rfl rfl ?_
      refine g_S (n := 18) (rest := [_]) C (k6_isContent hE hl y) dX6_setFile_15 kM_X6_isContent kL_X6_91 kS_X6_isContent rfl rfl (Nat.le_of_ble_eq_true rfl) ⟨by decide, by decide⟩ ⟨by decide, by decide⟩ rfl (fun v9 L9 f9 hq => ?_)
      obtain ⟨rfl, rfl, rfl⟩ := hq
      refine G.sk (st' := [_, _]) rfl ?_
      refine g_if_eq (n := 21) (tgt := 25) C dX6_setFile_18 (by decide) rfl (fun h18 => ?_) (fun h18 => ?_)
      · have h18 := gct_f h18
        refine g_iconst (n := 26) (v := nI 2) C dX6_setFile_25 rfl rfl ?_
        exact J _ (by simp [cd3, h7, h18])
      · have h18 := gct_t h18
        refine g_iconst (n := 22) (v := nI 0) C dX6_setFile_21 rfl rfl ?_
        refine g_goto (tgt := 26) C dX6_setFile_22 (by decide) ?_
        exact J _ (by simp [cd3, h7, h18])
    · have h7 := gin_f h7 (by decide)
      refine g_iconst (n := 11) (v := nI 1) C dX6_setFile_10 rfl rfl ?_
      refine g_goto (tgt := 26) C dX6_setFile_11 (by decide) ?_
      exact J _ (by simp [cd3, h7])
  · skip
    refine g_V (n := 29) (rest := []) C (k6_fails hE hl hM _) dX6_setFile_26 kM_X6_fails kL_X6_95 kV_X6_fails hM.1 rfl rfl rfl (Nat.le_of_ble_eq_true rfl) ⟨by decide, by decide⟩ ⟨by decide, by decide⟩ rfl (fun v9 L9 f hq => ?_)
    obtain ⟨rfl, hM, rfl⟩ := hq
    refine G.sk (st' := [_]) rfl ?_
    refine g_if_eq (n := 32) (tgt := 34) C dX6_setFile_29 (by decide) rfl (fun h29 => ?_) (fun h29 => ?_)
    · obtain ⟨rfl, ⟨j, hj, rfl⟩, hy⟩ := cd3_f hw h29
      refine g_aload_n (n := 35) C dX6_setFile_34 rfl (Or.inr ⟨_, rfl⟩) rfl ?_
      refine m_get (n := 38) C hM dX6_setFile_35 kF_X6_7 rfl rfl ?_
      refine g_iload_n (n := 39) C dX6_setFile_38 rfl rfl ?_
      refine m_ald (n := 40) C hM dX6_setFile_39 rfl rfl rfl (by simp only [mLen]; omega) (by decide) rfl ?_
      refine g_istore_n (n := 41) (ls' := [_, _, _, _]) C dX6_setFile_40 rfl (by decide) rfl ?_
      refine g_aload_n (n := 42) C dX6_setFile_41 rfl (Or.inr ⟨_, rfl⟩) rfl ?_
      refine m_get (n := 45) C hM dX6_setFile_42 kF_X6_7 rfl rfl ?_
      refine g_iload_n (n := 46) C dX6_setFile_45 rfl rfl ?_
      refine g_iload_n (n := 47) C dX6_setFile_46 rfl rfl ?_
      refine m_ast (n := 48) C hM dX6_setFile_47 rfl rfl rfl (by simp only [mLen]; omega) (by decide) rfl (fun f hM => ?_)
      refine g_iload_n (n := 49) C dX6_setFile_48 rfl rfl ?_
      refine g_iret C hr dX6_setFile_49 ?_ ⟨by decide, by decide⟩
      exact ⟨rfl, _, _, _, rfl, hM, 0, hw, rfl, fun _ => ⟨j, hj, rfl, rfl, rfl⟩, fun h => absurd rfl h⟩
    · have hw0 := cd_t h29
      refine g_iconst (n := 33) (v := nI 0) C dX6_setFile_32 rfl rfl ?_
      refine g_iret C hr dX6_setFile_33 ?_ ⟨by decide, by decide⟩
      exact ⟨rfl, nI 0, A, _, rfl, hM, w, hw, rfl, fun h => absurd h hw0, fun _ => rfl⟩

/-! ===== the law, II: its wrappers ===== -/
theorem CW.ext {cy : Nat → ClassId} {co : Nat} {A : Nat → Nat → Int32} {I : Nat → Int32} {L : List Nat} {f f' : gF} (h : CW cy co A I L f) (hf : ∀ a, a ∈ L → f' a = f a) : CW cy co A I L f' := by
  obtain ⟨bk, n, X, Is, PR, PL, S, h1, h2, h3, h4⟩ := h
  exact ⟨bk, n, X, Is, PR, PL, S, h1, h2.ext (fun _ z => z) hf, h3, h4⟩
/-- what a wrapper leaves: its code, the answer in its cell, the class's world as the reference's -/
def wQ (cy : Nat → ClassId) (co q9 : Nat) (Rl : Int32 → (Nat → Nat → Int32) → (Nat → Int32) → Prop) : Option Value → List Nat → gF → Prop := fun v L1 f1 => ∃ L2 g, L1 = L2 ++ [q9] ∧ f1 q9 = .inl (cy 2, 1, .inr (.inl g)) ∧ ∃ w, w < 4 ∧ v = some (.int (nI w)) ∧ ∀ b A1 I1, Rl b A1 I1 → I1 27 = nI w ∧ (w = 0 → g 0 = b.toInt64) ∧ CW cy co A1 I1 L2 f1
/-- no exception is another -/
def gN9 (s0 : State) : Prop := va_Nc xA xI s0 ∧ va_Nc xS xI s0 ∧ va_Nc xS xA s0
theorem exj_IS {w w2 : Nat} (h1 : 0 < w) (h2 : w ≤ 2) (h3 : 0 < w2) (h4 : w2 ≤ 2) (h : exn [xI, xS] w = exn [xI, xS] w2) : w2 = w := by
  rcases (show w = 1 ∨ w = 2 by omega) with rfl | rfl <;> rcases (show w2 = 1 ∨ w2 = 2 by omega) with rfl | rfl <;> first | rfl | exact absurd h (by decide +kernel)
theorem exj_IA {w w2 : Nat} (h1 : 0 < w) (h2 : w ≤ 2) (h3 : 0 < w2) (h4 : w2 ≤ 2) (h : exn [xI, xA] w = exn [xI, xA] w2) : w2 = w := by
  rcases (show w = 1 ∨ w = 2 by omega) with rfl | rfl <;> rcases (show w2 = 1 ∨ w2 = 2 by omega) with rfl | rfl <;> first | rfl | exact absurd h (by decide +kernel)
theorem exj_IAS {w w2 : Nat} (h1 : 0 < w) (h2 : w ≤ 3) (h3 : 0 < w2) (h4 : w2 ≤ 3) (h : exn [xI, xA, xS] w = exn [xI, xA, xS] w2) : w2 = w := by
  rcases (show w = 1 ∨ w = 2 ∨ w = 3 by omega) with rfl | rfl | rfl <;> rcases (show w2 = 1 ∨ w2 = 2 ∨ w2 = 3 by omega) with rfl | rfl | rfl <;> first | rfl | exact absurd h (by decide +kernel)
theorem exj_S {w w2 : Nat} (h1 : 0 < w) (h2 : w ≤ 1) (h3 : 0 < w2) (h4 : w2 ≤ 1) (h : exn [xS] w = exn [xS] w2) : w2 = w := by
  rcases (show w = 1 by omega) with rfl <;> rcases (show w2 = 1 by omega) with rfl <;> first | rfl | exact absurd h (by decide +kernel)
theorem kH_setFile : gwH yL_setFile cL_setFile 5 (some .int) [(0, 10, 13, 13), (0, 10, 17, 15)] 4 := ⟨⟨(List.mem_of_getElem? (i := 214) (by decide +kernel)), by decide +kernel⟩, (List.mem_of_getElem? (i := 64) (by decide +kernel)), ⟨by decide +kernel, by decide +kernel⟩, by decide +kernel⟩
theorem kT_setFile : gwS yL_setFile := (List.mem_of_getElem? (i := 213) (by decide +kernel))
theorem kw_setFile {l : Launch} {s0 : State} {D : va_G} {cy : Nat → ClassId} (hE : gE s0 D cy) (hl : l.stackTraces = false) {L : List Nat} {f : gF} {bk : Nat → Nat} {n : Nat} {X : Nat → va_E} {Is : Nat → Option iT} {PR PL : Nat → Nat} {S A : Nat → Nat → Int32} {I : Nat → Int32} (hR : RC cy bk n X Is PR PL S A I L f) (hB9 : rmB n I) (hC9 : pCt n A S) (x y : Int32) {Rl : Int32 → (Nat → Nat → Int32) → (Nat → Int32) → Prop} (hM : gX l s0 D yX5_setFile cX5_setFile 4 (some .int) 8 2 12 [.ref (bk 0), .int x, .int y] L f (uQ cy (bk 0) Rl) (uX [xI, xA] A I Rl)) (hex : ∃ b A1 I1, Rl b A1 I1) (hW : ∀ b A1 I1 w, Rl b A1 I1 → I1 27 = nI w → 0 < w → w ≤ 2 → w ≤ 2) (hN : gN9 s0) {q9 : Nat} {g0 : Nat → Int64} (hf9 : f q9 = .inl (cy 2, 1, .inr (.inl g0))) : gH9 l s0 D yL_setFile cL_setFile 5 (some .int) [(0, 10, 13, 13), (0, 10, 17, 15)] 9 2 12 [.ref (bk 0), .int x, .int y, .ref q9] (L ++ [q9]) f (wQ cy (bk 0) q9 Rl) := by
  refine gH9.of (own := RL) hE hl (by decide +kernel) rfl rfl (Nat.le_of_ble_eq_true rfl) (fun p9 e9 s9 m9 a99 b99 t99 c9 C hr ht => ?_)
  refine G.weak (ls' := [some (.ref (bk 0)), some (.int x), some (.int y), some (.ref q9), none]) ?_ rfl (fun _ _ h => h)
  obtain ⟨b0, A0', I0', hr0⟩ := hex
  have hco : gH (L ++ [q9]) f (bk 0) (.inr (5, [.ref (bk 1), .ref (bk 2), .ref (bk 6), .ref (bk 7), .ref (bk 8), .ref (bk 10), .int (I 25), .int (I 26)])) := hR.co.of (List.mem_append_left _ hR.co.1) rfl
  refine g_aload_n (n := 1) C dL_setFile_0 rfl (Or.inr ⟨_, rfl⟩) rfl ?_
  refine g_iconst (n := 2) (v := nI 0) C dL_setFile_1 rfl rfl ?_
  refine g_aload_n (n := 3) C dL_setFile_2 rfl (Or.inr ⟨_, rfl⟩) rfl ?_
  refine g_iload_n (n := 4) C dL_setFile_3 rfl rfl ?_
  refine g_iload_n (n := 5) C dL_setFile_4 rfl rfl ?_
  refine g_VXH (n := 8) (rest := [.int (nI 0), .ref q9]) C (hM.fr [q9]) dL_setFile_5 kM_X5_setFile kW_L_7 kV_X5_setFile hco rfl rfl rfl (Nat.le_of_ble_eq_true rfl) ⟨by decide, by decide⟩ ⟨by decide, by decide⟩ rfl (fun E hpx => by
      obtain ⟨w, hw0, hwT, h27, rfl, -, -⟩ := hpx b0 A0' I0' hr0
      have hwT : w ≤ 2 := hwT
      have hwN := hW _ _ _ w hr0 h27 hw0 hwT
      have hall : ∀ b A1 I1, Rl b A1 I1 → I1 27 = nI w ∧ A1 = A ∧ I1 = va_up I 27 (nI w) := fun b A1 I1 hr => by
        obtain ⟨w2, g1, g2, g3, g4, g5, g6⟩ := hpx b A1 I1 hr
        have e := exj_IA hw0 hwT g1 g2 g4
        subst e
        exact ⟨g3, g5, g6⟩
      rcases (show w = 1 ∨ w = 2 by omega) with rfl | rfl
      · refine ⟨xI, [], ⟨0, 10, 13, 13⟩, [⟨0, 10, 17, 15⟩], ht, (fun z hz => absurd hz List.not_mem_nil), by decide, by decide, (List.mem_of_getElem? (i := 215) (by decide +kernel)), (List.mem_of_getElem? (i := 229) (by decide +kernel)), fun q => ?_⟩
        refine g_astore (n := 15) (ls' := [_, _, _, _, _]) C dL_setFile_13 (Or.inr ⟨_, rfl⟩) rfl (by decide) rfl ?_
        refine g_iconst (n := 16) (v := nI 1) C dL_setFile_15 rfl rfl ?_
        refine G.xw ?_
        refine g_iret C hr dL_setFile_16 ?_ ⟨by decide, by decide⟩
        refine ⟨L, g0, rfl, hf9, 1, by decide, rfl, fun b A1 I1 hr => ?_⟩
        obtain ⟨a1, a2, a3⟩ := hall b A1 I1 hr
        exact ⟨a1, fun h => absurd h (by decide), by rw [a2, a3]; exact CW.rd hR hB9 hC9⟩
      · refine ⟨xA, [⟨0, 10, 13, 13⟩], ⟨0, 10, 17, 15⟩, [], ht, (fun z hz => by rw [List.mem_singleton.mp hz]; exact Or.inr ⟨by decide, xI, (List.mem_of_getElem? (i := 215) (by decide +kernel)), hN.1⟩), by decide, by decide, (List.mem_of_getElem? (i := 216) (by decide +kernel)), (List.mem_of_getElem? (i := 300) (by decide +kernel)), fun q => ?_⟩
        refine g_astore (n := 19) (ls' := [_, _, _, _, _]) C dL_setFile_17 (Or.inr ⟨_, rfl⟩) rfl (by decide) rfl ?_
        refine g_iconst (n := 20) (v := nI 2) C dL_setFile_19 rfl rfl ?_
        refine G.xw ?_
        refine g_iret C hr dL_setFile_20 ?_ ⟨by decide, by decide⟩
        refine ⟨L, g0, rfl, hf9, 2, by decide, rfl, fun b A1 I1 hr => ?_⟩
        obtain ⟨a1, a2, a3⟩ := hall b A1 I1 hr
        exact ⟨a1, fun h => absurd h (by decide), by rw [a2, a3]; exact CW.rd hR hB9 hC9⟩) (fun v9 L9 f9 hq => ?_)
  obtain ⟨L1, f1, hq, rfl, e1, e2⟩ := hq
  obtain ⟨-, rfl, -⟩ := hq b0 A0' I0' hr0
  have hout : gH (L1 ++ [q9]) f9 q9 (.inl (cy 2, 1, .inr (.inl g0))) := ⟨List.mem_append_right _ List.mem_cons_self, (e2 q9 List.mem_cons_self).trans hf9⟩
  refine G.sk (st' := [_, _, _]) rfl ?_
  refine g_i2l (n := 9) C dL_setFile_8 rfl ?_
  refine g_last (n := 10) C dL_setFile_9 hout rfl (by omega) (by decide) rfl ?_
  refine g_goto (tgt := 21) C dL_setFile_10 (by decide) ?_
  refine g_iconst (n := 22) (v := nI 0) C dL_setFile_21 rfl rfl ?_
  refine G.xw ?_
  refine g_iret C hr dL_setFile_22 ?_ ⟨by decide, by decide⟩
  refine ⟨L1, vp_updL g0 0 b0.toInt64, rfl, va_up_self _ _ _, 0, by decide, rfl, fun b A1 I1 hr => ?_⟩
  obtain ⟨h27, hv, hcw⟩ := hq b A1 I1 hr
  cases hv
  exact ⟨h27, fun _ => if_pos rfl, hcw.ext (fun a ha => (va_up_ne _ _ (show a ≠ q9 from fun z => (e1 a ha).2 (List.mem_singleton.mpr z))).trans (e1 a ha).1)⟩
theorem kH_setBase : gwH yL_setBase cL_setBase 6 (some .int) [(0, 12, 15, 13), (0, 12, 19, 15)] 5 := ⟨⟨(List.mem_of_getElem? (i := 316) (by decide +kernel)), by decide +kernel⟩, (List.mem_of_getElem? (i := 64) (by decide +kernel)), ⟨by decide +kernel, by decide +kernel⟩, by decide +kernel⟩
theorem kT_setBase : gwS yL_setBase := (List.mem_of_getElem? (i := 315) (by decide +kernel))
theorem kw_setBase {l : Launch} {s0 : State} {D : va_G} {cy : Nat → ClassId} (hE : gE s0 D cy) (hl : l.stackTraces = false) {L : List Nat} {f : gF} {bk : Nat → Nat} {n : Nat} {X : Nat → va_E} {Is : Nat → Option iT} {PR PL : Nat → Nat} {S A : Nat → Nat → Int32} {I : Nat → Int32} (hR : RC cy bk n X Is PR PL S A I L f) (hB9 : rmB n I) (hC9 : pCt n A S) (x y z : Int32) {Rl : Int32 → (Nat → Nat → Int32) → (Nat → Int32) → Prop} (hM : gX l s0 D yX5_setBase cX5_setBase 5 (some .int) 8 3 18 [.ref (bk 0), .int x, .int y, .int z] L f (uQ cy (bk 0) Rl) (uX [xI, xA] A I Rl)) (hex : ∃ b A1 I1, Rl b A1 I1) (hW : ∀ b A1 I1 w, Rl b A1 I1 → I1 27 = nI w → 0 < w → w ≤ 2 → w ≤ 2) (hN : gN9 s0) {q9 : Nat} {g0 : Nat → Int64} (hf9 : f q9 = .inl (cy 2, 1, .inr (.inl g0))) : gH9 l s0 D yL_setBase cL_setBase 6 (some .int) [(0, 12, 15, 13), (0, 12, 19, 15)] 9 3 18 [.ref (bk 0), .int x, .int y, .int z, .ref q9] (L ++ [q9]) f (wQ cy (bk 0) q9 Rl) := by
  refine gH9.of (own := RL) hE hl (by decide +kernel) rfl rfl (Nat.le_of_ble_eq_true rfl) (fun p9 e9 s9 m9 a99 b99 t99 c9 C hr ht => ?_)
  refine G.weak (ls' := [some (.ref (bk 0)), some (.int x), some (.int y), some (.int z), some (.ref q9), none]) ?_ rfl (fun _ _ h => h)
  obtain ⟨b0, A0', I0', hr0⟩ := hex
  have hco : gH (L ++ [q9]) f (bk 0) (.inr (5, [.ref (bk 1), .ref (bk 2), .ref (bk 6), .ref (bk 7), .ref (bk 8), .ref (bk 10), .int (I 25), .int (I 26)])) := hR.co.of (List.mem_append_left _ hR.co.1) rfl
  refine g_aload (n := 2) C dL_setBase_0 rfl (Or.inr ⟨_, rfl⟩) rfl ?_
  refine g_iconst (n := 3) (v := nI 0) C dL_setBase_2 rfl rfl ?_
  refine g_aload_n (n := 4) C dL_setBase_3 rfl (Or.inr ⟨_, rfl⟩) rfl ?_
  refine g_iload_n (n := 5) C dL_setBase_4 rfl rfl ?_
  refine g_iload_n (n := 6) C dL_setBase_5 rfl rfl ?_
  refine g_iload_n (n := 7) C dL_setBase_6 rfl rfl ?_
  refine g_VXH (n := 10) (rest := [.int (nI 0), .ref q9]) C (hM.fr [q9]) dL_setBase_7 kM_X5_setBase kW_L_17 kV_X5_setBase hco rfl rfl rfl (Nat.le_of_ble_eq_true rfl) ⟨by decide, by decide⟩ ⟨by decide, by decide⟩ rfl (fun E hpx => by
      obtain ⟨w, hw0, hwT, h27, rfl, -, -⟩ := hpx b0 A0' I0' hr0
      have hwT : w ≤ 2 := hwT
      have hwN := hW _ _ _ w hr0 h27 hw0 hwT
      have hall : ∀ b A1 I1, Rl b A1 I1 → I1 27 = nI w ∧ A1 = A ∧ I1 = va_up I 27 (nI w) := fun b A1 I1 hr => by
        obtain ⟨w2, g1, g2, g3, g4, g5, g6⟩ := hpx b A1 I1 hr
        have e := exj_IA hw0 hwT g1 g2 g4
        subst e
        exact ⟨g3, g5, g6⟩
      rcases (show w = 1 ∨ w = 2 by omega) with rfl | rfl
      · refine ⟨xI, [], ⟨0, 12, 15, 13⟩, [⟨0, 12, 19, 15⟩], ht, (fun z hz => absurd hz List.not_mem_nil), by decide, by decide, (List.mem_of_getElem? (i := 215) (by decide +kernel)), (List.mem_of_getElem? (i := 229) (by decide +kernel)), fun q => ?_⟩
        refine g_astore (n := 17) (ls' := [_, _, _, _, _, _]) C dL_setBase_15 (Or.inr ⟨_, rfl⟩) rfl (by decide) rfl ?_
        refine g_iconst (n := 18) (v := nI 1) C dL_setBase_17 rfl rfl ?_
        refine G.xw ?_
        refine g_iret C hr dL_setBase_18 ?_ ⟨by decide, by decide⟩
        refine ⟨L, g0, rfl, hf9, 1, by decide, rfl, fun b A1 I1 hr => ?_⟩
        obtain ⟨a1, a2, a3⟩ := hall b A1 I1 hr
        exact ⟨a1, fun h => absurd h (by decide), by rw [a2, a3]; exact CW.rd hR hB9 hC9⟩
      · refine ⟨xA, [⟨0, 12, 15, 13⟩], ⟨0, 12, 19, 15⟩, [], ht, (fun z hz => by rw [List.mem_singleton.mp hz]; exact Or.inr ⟨by decide, xI, (List.mem_of_getElem? (i := 215) (by decide +kernel)), hN.1⟩), by decide, by decide, (List.mem_of_getElem? (i := 216) (by decide +kernel)), (List.mem_of_getElem? (i := 300) (by decide +kernel)), fun q => ?_⟩
        refine g_astore (n := 21) (ls' := [_, _, _, _, _, _]) C dL_setBase_19 (Or.inr ⟨_, rfl⟩) rfl (by decide) rfl ?_
        refine g_iconst (n := 22) (v := nI 2) C dL_setBase_21 rfl rfl ?_
        refine G.xw ?_
        refine g_iret C hr dL_setBase_22 ?_ ⟨by decide, by decide⟩
        refine ⟨L, g0, rfl, hf9, 2, by decide, rfl, fun b A1 I1 hr => ?_⟩
        obtain ⟨a1, a2, a3⟩ := hall b A1 I1 hr
        exact ⟨a1, fun h => absurd h (by decide), by rw [a2, a3]; exact CW.rd hR hB9 hC9⟩) (fun v9 L9 f9 hq => ?_)
  obtain ⟨L1, f1, hq, rfl, e1, e2⟩ := hq
  obtain ⟨-, rfl, -⟩ := hq b0 A0' I0' hr0
  have hout : gH (L1 ++ [q9]) f9 q9 (.inl (cy 2, 1, .inr (.inl g0))) := ⟨List.mem_append_right _ List.mem_cons_self, (e2 q9 List.mem_cons_self).trans hf9⟩
  refine G.sk (st' := [_, _, _]) rfl ?_
  refine g_i2l (n := 11) C dL_setBase_10 rfl ?_
  refine g_last (n := 12) C dL_setBase_11 hout rfl (by omega) (by decide) rfl ?_
  refine g_goto (tgt := 23) C dL_setBase_12 (by decide) ?_
  refine g_iconst (n := 24) (v := nI 0) C dL_setBase_23 rfl rfl ?_
  refine G.xw ?_
  refine g_iret C hr dL_setBase_24 ?_ ⟨by decide, by decide⟩
  refine ⟨L1, vp_updL g0 0 b0.toInt64, rfl, va_up_self _ _ _, 0, by decide, rfl, fun b A1 I1 hr => ?_⟩
  obtain ⟨h27, hv, hcw⟩ := hq b A1 I1 hr
  cases hv
  exact ⟨h27, fun _ => if_pos rfl, hcw.ext (fun a ha => (va_up_ne _ _ (show a ≠ q9 from fun z => (e1 a ha).2 (List.mem_singleton.mpr z))).trans (e1 a ha).1)⟩
theorem kH_reset : gwH yL_reset cL_reset 5 (some .int) [(0, 10, 13, 13)] 4 := ⟨⟨(List.mem_of_getElem? (i := 323) (by decide +kernel)), by decide +kernel⟩, (List.mem_of_getElem? (i := 64) (by decide +kernel)), ⟨by decide +kernel, by decide +kernel⟩, by decide +kernel⟩
theorem kT_reset : gwS yL_reset := (List.mem_of_getElem? (i := 322) (by decide +kernel))
theorem kw_reset {l : Launch} {s0 : State} {D : va_G} {cy : Nat → ClassId} (hE : gE s0 D cy) (hl : l.stackTraces = false) {L : List Nat} {f : gF} {bk : Nat → Nat} {n : Nat} {X : Nat → va_E} {Is : Nat → Option iT} {PR PL : Nat → Nat} {S A : Nat → Nat → Int32} {I : Nat → Int32} (hR : RC cy bk n X Is PR PL S A I L f) (hB9 : rmB n I) (hC9 : pCt n A S) (x y : Int32) {Rl : Int32 → (Nat → Nat → Int32) → (Nat → Int32) → Prop} (hM : gX l s0 D yX5_reset cX5_reset 5 (some .int) 8 3 18 [.ref (bk 0), .int x, .int y] L f (uQ cy (bk 0) Rl) (uX [xI, xS] A I Rl)) (hex : ∃ b A1 I1, Rl b A1 I1) (hW : ∀ b A1 I1 w, Rl b A1 I1 → I1 27 = nI w → 0 < w → w ≤ 2 → w ≤ 1) (hN : gN9 s0) {q9 : Nat} {g0 : Nat → Int64} (hf9 : f q9 = .inl (cy 2, 1, .inr (.inl g0))) : gH9 l s0 D yL_reset cL_reset 5 (some .int) [(0, 10, 13, 13)] 9 3 18 [.ref (bk 0), .int x, .int y, .ref q9] (L ++ [q9]) f (wQ cy (bk 0) q9 Rl) := by
  refine gH9.of (own := RL) hE hl (by decide +kernel) rfl rfl (Nat.le_of_ble_eq_true rfl) (fun p9 e9 s9 m9 a99 b99 t99 c9 C hr ht => ?_)
  refine G.weak (ls' := [some (.ref (bk 0)), some (.int x), some (.int y), some (.ref q9), none]) ?_ rfl (fun _ _ h => h)
  obtain ⟨b0, A0', I0', hr0⟩ := hex
  have hco : gH (L ++ [q9]) f (bk 0) (.inr (5, [.ref (bk 1), .ref (bk 2), .ref (bk 6), .ref (bk 7), .ref (bk 8), .ref (bk 10), .int (I 25), .int (I 26)])) := hR.co.of (List.mem_append_left _ hR.co.1) rfl
  refine g_aload_n (n := 1) C dL_reset_0 rfl (Or.inr ⟨_, rfl⟩) rfl ?_
  refine g_iconst (n := 2) (v := nI 0) C dL_reset_1 rfl rfl ?_
  refine g_aload_n (n := 3) C dL_reset_2 rfl (Or.inr ⟨_, rfl⟩) rfl ?_
  refine g_iload_n (n := 4) C dL_reset_3 rfl rfl ?_
  refine g_iload_n (n := 5) C dL_reset_4 rfl rfl ?_
  refine g_VXH (n := 8) (rest := [.int (nI 0), .ref q9]) C (hM.fr [q9]) dL_reset_5 kM_X5_reset kW_L_21 kV_X5_reset hco rfl rfl rfl (Nat.le_of_ble_eq_true rfl) ⟨by decide, by decide⟩ ⟨by decide, by decide⟩ rfl (fun E hpx => by
      obtain ⟨w, hw0, hwT, h27, rfl, -, -⟩ := hpx b0 A0' I0' hr0
      have hwT : w ≤ 2 := hwT
      have hwN := hW _ _ _ w hr0 h27 hw0 hwT
      have hall : ∀ b A1 I1, Rl b A1 I1 → I1 27 = nI w ∧ A1 = A ∧ I1 = va_up I 27 (nI w) := fun b A1 I1 hr => by
        obtain ⟨w2, g1, g2, g3, g4, g5, g6⟩ := hpx b A1 I1 hr
        have e := exj_IS hw0 hwT g1 g2 g4
        subst e
        exact ⟨g3, g5, g6⟩
      rcases (show w = 1 by omega) with rfl
      · refine ⟨xI, [], ⟨0, 10, 13, 13⟩, [], ht, (fun z hz => absurd hz List.not_mem_nil), by decide, by decide, (List.mem_of_getElem? (i := 215) (by decide +kernel)), (List.mem_of_getElem? (i := 229) (by decide +kernel)), fun q => ?_⟩
        refine g_astore (n := 15) (ls' := [_, _, _, _, _]) C dL_reset_13 (Or.inr ⟨_, rfl⟩) rfl (by decide) rfl ?_
        refine g_iconst (n := 16) (v := nI 1) C dL_reset_15 rfl rfl ?_
        refine G.xw ?_
        refine g_iret C hr dL_reset_16 ?_ ⟨by decide, by decide⟩
        refine ⟨L, g0, rfl, hf9, 1, by decide, rfl, fun b A1 I1 hr => ?_⟩
        obtain ⟨a1, a2, a3⟩ := hall b A1 I1 hr
        exact ⟨a1, fun h => absurd h (by decide), by rw [a2, a3]; exact CW.rd hR hB9 hC9⟩) (fun v9 L9 f9 hq => ?_)
  obtain ⟨L1, f1, hq, rfl, e1, e2⟩ := hq
  obtain ⟨-, rfl, -⟩ := hq b0 A0' I0' hr0
  have hout : gH (L1 ++ [q9]) f9 q9 (.inl (cy 2, 1, .inr (.inl g0))) := ⟨List.mem_append_right _ List.mem_cons_self, (e2 q9 List.mem_cons_self).trans hf9⟩
  refine G.sk (st' := [_, _, _]) rfl ?_
  refine g_i2l (n := 9) C dL_reset_8 rfl ?_
  refine g_last (n := 10) C dL_reset_9 hout rfl (by omega) (by decide) rfl ?_
  refine g_goto (tgt := 17) C dL_reset_10 (by decide) ?_
  refine g_iconst (n := 18) (v := nI 0) C dL_reset_17 rfl rfl ?_
  refine G.xw ?_
  refine g_iret C hr dL_reset_18 ?_ ⟨by decide, by decide⟩
  refine ⟨L1, vp_updL g0 0 b0.toInt64, rfl, va_up_self _ _ _, 0, by decide, rfl, fun b A1 I1 hr => ?_⟩
  obtain ⟨h27, hv, hcw⟩ := hq b A1 I1 hr
  cases hv
  exact ⟨h27, fun _ => if_pos rfl, hcw.ext (fun a ha => (va_up_ne _ _ (show a ≠ q9 from fun z => (e1 a ha).2 (List.mem_singleton.mpr z))).trans (e1 a ha).1)⟩
theorem kH_addCopy : gwH yL_addCopy cL_addCopy 6 (some .int) [(0, 12, 15, 13), (0, 12, 19, 27)] 5 := ⟨⟨(List.mem_of_getElem? (i := 339) (by decide +kernel)), by decide +kernel⟩, (List.mem_of_getElem? (i := 64) (by decide +kernel)), ⟨by decide +kernel, by decide +kernel⟩, by decide +kernel⟩
theorem kT_addCopy : gwS yL_addCopy := (List.mem_of_getElem? (i := 338) (by decide +kernel))
theorem kw_addCopy {l : Launch} {s0 : State} {D : va_G} {cy : Nat → ClassId} (hE : gE s0 D cy) (hl : l.stackTraces = false) {L : List Nat} {f : gF} {bk : Nat → Nat} {n : Nat} {X : Nat → va_E} {Is : Nat → Option iT} {PR PL : Nat → Nat} {S A : Nat → Nat → Int32} {I : Nat → Int32} (hR : RC cy bk n X Is PR PL S A I L f) (hB9 : rmB n I) (hC9 : pCt n A S) (x y z : Int32) {Rl : Int32 → (Nat → Nat → Int32) → (Nat → Int32) → Prop} (hM : gX l s0 D yX5_addCopy cX5_addCopy 4 (some .int) 9 6 30 [.ref (bk 0), .int x, .int y, .int z] L f (uQ cy (bk 0) Rl) (uX [xI, xS] A I Rl)) (hex : ∃ b A1 I1, Rl b A1 I1) (hW : ∀ b A1 I1 w, Rl b A1 I1 → I1 27 = nI w → 0 < w → w ≤ 2 → w ≤ 2) (hN : gN9 s0) {q9 : Nat} {g0 : Nat → Int64} (hf9 : f q9 = .inl (cy 2, 1, .inr (.inl g0))) : gH9 l s0 D yL_addCopy cL_addCopy 6 (some .int) [(0, 12, 15, 13), (0, 12, 19, 27)] 10 6 30 [.ref (bk 0), .int x, .int y, .int z, .ref q9] (L ++ [q9]) f (wQ cy (bk 0) q9 Rl) := by
  refine gH9.of (own := RL) hE hl (by decide +kernel) rfl rfl (Nat.le_of_ble_eq_true rfl) (fun p9 e9 s9 m9 a99 b99 t99 c9 C hr ht => ?_)
  refine G.weak (ls' := [some (.ref (bk 0)), some (.int x), some (.int y), some (.int z), some (.ref q9), none]) ?_ rfl (fun _ _ h => h)
  obtain ⟨b0, A0', I0', hr0⟩ := hex
  have hco : gH (L ++ [q9]) f (bk 0) (.inr (5, [.ref (bk 1), .ref (bk 2), .ref (bk 6), .ref (bk 7), .ref (bk 8), .ref (bk 10), .int (I 25), .int (I 26)])) := hR.co.of (List.mem_append_left _ hR.co.1) rfl
  refine g_aload (n := 2) C dL_addCopy_0 rfl (Or.inr ⟨_, rfl⟩) rfl ?_
  refine g_iconst (n := 3) (v := nI 0) C dL_addCopy_2 rfl rfl ?_
  refine g_aload_n (n := 4) C dL_addCopy_3 rfl (Or.inr ⟨_, rfl⟩) rfl ?_
  refine g_iload_n (n := 5) C dL_addCopy_4 rfl rfl ?_
  refine g_iload_n (n := 6) C dL_addCopy_5 rfl rfl ?_
  refine g_iload_n (n := 7) C dL_addCopy_6 rfl rfl ?_
  refine g_VXH (n := 10) (rest := [.int (nI 0), .ref q9]) C (hM.fr [q9]) dL_addCopy_7 kM_X5_addCopy kW_L_24 kV_X5_addCopy hco rfl rfl rfl (Nat.le_of_ble_eq_true rfl) ⟨by decide, by decide⟩ ⟨by decide, by decide⟩ rfl (fun E hpx => by
      obtain ⟨w, hw0, hwT, h27, rfl, -, -⟩ := hpx b0 A0' I0' hr0
      have hwT : w ≤ 2 := hwT
      have hwN := hW _ _ _ w hr0 h27 hw0 hwT
      have hall : ∀ b A1 I1, Rl b A1 I1 → I1 27 = nI w ∧ A1 = A ∧ I1 = va_up I 27 (nI w) := fun b A1 I1 hr => by
        obtain ⟨w2, g1, g2, g3, g4, g5, g6⟩ := hpx b A1 I1 hr
        have e := exj_IS hw0 hwT g1 g2 g4
        subst e
        exact ⟨g3, g5, g6⟩
      rcases (show w = 1 ∨ w = 2 by omega) with rfl | rfl
      · refine ⟨xI, [], ⟨0, 12, 15, 13⟩, [⟨0, 12, 19, 27⟩], ht, (fun z hz => absurd hz List.not_mem_nil), by decide, by decide, (List.mem_of_getElem? (i := 215) (by decide +kernel)), (List.mem_of_getElem? (i := 229) (by decide +kernel)), fun q => ?_⟩
        refine g_astore (n := 17) (ls' := [_, _, _, _, _, _]) C dL_addCopy_15 (Or.inr ⟨_, rfl⟩) rfl (by decide) rfl ?_
        refine g_iconst (n := 18) (v := nI 1) C dL_addCopy_17 rfl rfl ?_
        refine G.xw ?_
        refine g_iret C hr dL_addCopy_18 ?_ ⟨by decide, by decide⟩
        refine ⟨L, g0, rfl, hf9, 1, by decide, rfl, fun b A1 I1 hr => ?_⟩
        obtain ⟨a1, a2, a3⟩ := hall b A1 I1 hr
        exact ⟨a1, fun h => absurd h (by decide), by rw [a2, a3]; exact CW.rd hR hB9 hC9⟩
      · refine ⟨xS, [⟨0, 12, 15, 13⟩], ⟨0, 12, 19, 27⟩, [], ht, (fun z hz => by rw [List.mem_singleton.mp hz]; exact Or.inr ⟨by decide, xI, (List.mem_of_getElem? (i := 215) (by decide +kernel)), hN.2.1⟩), by decide, by decide, (List.mem_of_getElem? (i := 340) (by decide +kernel)), (List.mem_of_getElem? (i := 351) (by decide +kernel)), fun q => ?_⟩
        refine g_astore (n := 21) (ls' := [_, _, _, _, _, _]) C dL_addCopy_19 (Or.inr ⟨_, rfl⟩) rfl (by decide) rfl ?_
        refine g_iconst (n := 22) (v := nI 2) C dL_addCopy_21 rfl rfl ?_
        refine G.xw ?_
        refine g_iret C hr dL_addCopy_22 ?_ ⟨by decide, by decide⟩
        refine ⟨L, g0, rfl, hf9, 2, by decide, rfl, fun b A1 I1 hr => ?_⟩
        obtain ⟨a1, a2, a3⟩ := hall b A1 I1 hr
        exact ⟨a1, fun h => absurd h (by decide), by rw [a2, a3]; exact CW.rd hR hB9 hC9⟩) (fun v9 L9 f9 hq => ?_)
  obtain ⟨L1, f1, hq, rfl, e1, e2⟩ := hq
  obtain ⟨-, rfl, -⟩ := hq b0 A0' I0' hr0
  have hout : gH (L1 ++ [q9]) f9 q9 (.inl (cy 2, 1, .inr (.inl g0))) := ⟨List.mem_append_right _ List.mem_cons_self, (e2 q9 List.mem_cons_self).trans hf9⟩
  refine G.sk (st' := [_, _, _]) rfl ?_
  refine g_i2l (n := 11) C dL_addCopy_10 rfl ?_
  refine g_last (n := 12) C dL_addCopy_11 hout rfl (by omega) (by decide) rfl ?_
  refine g_goto (tgt := 23) C dL_addCopy_12 (by decide) ?_
  refine g_iconst (n := 24) (v := nI 0) C dL_addCopy_23 rfl rfl ?_
  refine G.xw ?_
  refine g_iret C hr dL_addCopy_24 ?_ ⟨by decide, by decide⟩
  refine ⟨L1, vp_updL g0 0 b0.toInt64, rfl, va_up_self _ _ _, 0, by decide, rfl, fun b A1 I1 hr => ?_⟩
  obtain ⟨h27, hv, hcw⟩ := hq b A1 I1 hr
  cases hv
  exact ⟨h27, fun _ => if_pos rfl, hcw.ext (fun a ha => (va_up_ne _ _ (show a ≠ q9 from fun z => (e1 a ha).2 (List.mem_singleton.mpr z))).trans (e1 a ha).1)⟩
theorem kH_addRun : gwH yL_addRun cL_addRun 6 (some .int) [(0, 12, 15, 13), (0, 12, 19, 27)] 5 := ⟨⟨(List.mem_of_getElem? (i := 388) (by decide +kernel)), by decide +kernel⟩, (List.mem_of_getElem? (i := 64) (by decide +kernel)), ⟨by decide +kernel, by decide +kernel⟩, by decide +kernel⟩
theorem kT_addRun : gwS yL_addRun := (List.mem_of_getElem? (i := 387) (by decide +kernel))
theorem kw_addRun {l : Launch} {s0 : State} {D : va_G} {cy : Nat → ClassId} (hE : gE s0 D cy) (hl : l.stackTraces = false) {L : List Nat} {f : gF} {bk : Nat → Nat} {n : Nat} {X : Nat → va_E} {Is : Nat → Option iT} {PR PL : Nat → Nat} {S A : Nat → Nat → Int32} {I : Nat → Int32} (hR : RC cy bk n X Is PR PL S A I L f) (hB9 : rmB n I) (hC9 : pCt n A S) (x y z : Int32) {Rl : Int32 → (Nat → Nat → Int32) → (Nat → Int32) → Prop} (hM : gX l s0 D yX5_addRun cX5_addRun 4 (some .int) 9 6 30 [.ref (bk 0), .int x, .int y, .int z] L f (uQ cy (bk 0) Rl) (uX [xI, xS] A I Rl)) (hex : ∃ b A1 I1, Rl b A1 I1) (hW : ∀ b A1 I1 w, Rl b A1 I1 → I1 27 = nI w → 0 < w → w ≤ 2 → w ≤ 2) (hN : gN9 s0) {q9 : Nat} {g0 : Nat → Int64} (hf9 : f q9 = .inl (cy 2, 1, .inr (.inl g0))) : gH9 l s0 D yL_addRun cL_addRun 6 (some .int) [(0, 12, 15, 13), (0, 12, 19, 27)] 10 6 30 [.ref (bk 0), .int x, .int y, .int z, .ref q9] (L ++ [q9]) f (wQ cy (bk 0) q9 Rl) := by
  refine gH9.of (own := RL) hE hl (by decide +kernel) rfl rfl (Nat.le_of_ble_eq_true rfl) (fun p9 e9 s9 m9 a99 b99 t99 c9 C hr ht => ?_)
  refine G.weak (ls' := [some (.ref (bk 0)), some (.int x), some (.int y), some (.int z), some (.ref q9), none]) ?_ rfl (fun _ _ h => h)
  obtain ⟨b0, A0', I0', hr0⟩ := hex
  have hco : gH (L ++ [q9]) f (bk 0) (.inr (5, [.ref (bk 1), .ref (bk 2), .ref (bk 6), .ref (bk 7), .ref (bk 8), .ref (bk 10), .int (I 25), .int (I 26)])) := hR.co.of (List.mem_append_left _ hR.co.1) rfl
  refine g_aload (n := 2) C dL_addRun_0 rfl (Or.inr ⟨_, rfl⟩) rfl ?_
  refine g_iconst (n := 3) (v := nI 0) C dL_addRun_2 rfl rfl ?_
  refine g_aload_n (n := 4) C dL_addRun_3 rfl (Or.inr ⟨_, rfl⟩) rfl ?_
  refine g_iload_n (n := 5) C dL_addRun_4 rfl rfl ?_
  refine g_iload_n (n := 6) C dL_addRun_5 rfl rfl ?_
  refine g_iload_n (n := 7) C dL_addRun_6 rfl rfl ?_
  refine g_VXH (n := 10) (rest := [.int (nI 0), .ref q9]) C (hM.fr [q9]) dL_addRun_7 kM_X5_addRun kW_L_29 kV_X5_addRun hco rfl rfl rfl (Nat.le_of_ble_eq_true rfl) ⟨by decide, by decide⟩ ⟨by decide, by decide⟩ rfl (fun E hpx => by
      obtain ⟨w, hw0, hwT, h27, rfl, -, -⟩ := hpx b0 A0' I0' hr0
      have hwT : w ≤ 2 := hwT
      have hwN := hW _ _ _ w hr0 h27 hw0 hwT
      have hall : ∀ b A1 I1, Rl b A1 I1 → I1 27 = nI w ∧ A1 = A ∧ I1 = va_up I 27 (nI w) := fun b A1 I1 hr => by
        obtain ⟨w2, g1, g2, g3, g4, g5, g6⟩ := hpx b A1 I1 hr
        have e := exj_IS hw0 hwT g1 g2 g4
        subst e
        exact ⟨g3, g5, g6⟩
      rcases (show w = 1 ∨ w = 2 by omega) with rfl | rfl
      · refine ⟨xI, [], ⟨0, 12, 15, 13⟩, [⟨0, 12, 19, 27⟩], ht, (fun z hz => absurd hz List.not_mem_nil), by decide, by decide, (List.mem_of_getElem? (i := 215) (by decide +kernel)), (List.mem_of_getElem? (i := 229) (by decide +kernel)), fun q => ?_⟩
        refine g_astore (n := 17) (ls' := [_, _, _, _, _, _]) C dL_addRun_15 (Or.inr ⟨_, rfl⟩) rfl (by decide) rfl ?_
        refine g_iconst (n := 18) (v := nI 1) C dL_addRun_17 rfl rfl ?_
        refine G.xw ?_
        refine g_iret C hr dL_addRun_18 ?_ ⟨by decide, by decide⟩
        refine ⟨L, g0, rfl, hf9, 1, by decide, rfl, fun b A1 I1 hr => ?_⟩
        obtain ⟨a1, a2, a3⟩ := hall b A1 I1 hr
        exact ⟨a1, fun h => absurd h (by decide), by rw [a2, a3]; exact CW.rd hR hB9 hC9⟩
      · refine ⟨xS, [⟨0, 12, 15, 13⟩], ⟨0, 12, 19, 27⟩, [], ht, (fun z hz => by rw [List.mem_singleton.mp hz]; exact Or.inr ⟨by decide, xI, (List.mem_of_getElem? (i := 215) (by decide +kernel)), hN.2.1⟩), by decide, by decide, (List.mem_of_getElem? (i := 340) (by decide +kernel)), (List.mem_of_getElem? (i := 351) (by decide +kernel)), fun q => ?_⟩
        refine g_astore (n := 21) (ls' := [_, _, _, _, _, _]) C dL_addRun_19 (Or.inr ⟨_, rfl⟩) rfl (by decide) rfl ?_
        refine g_iconst (n := 22) (v := nI 2) C dL_addRun_21 rfl rfl ?_
        refine G.xw ?_
        refine g_iret C hr dL_addRun_22 ?_ ⟨by decide, by decide⟩
        refine ⟨L, g0, rfl, hf9, 2, by decide, rfl, fun b A1 I1 hr => ?_⟩
        obtain ⟨a1, a2, a3⟩ := hall b A1 I1 hr
        exact ⟨a1, fun h => absurd h (by decide), by rw [a2, a3]; exact CW.rd hR hB9 hC9⟩) (fun v9 L9 f9 hq => ?_)
  obtain ⟨L1, f1, hq, rfl, e1, e2⟩ := hq
  obtain ⟨-, rfl, -⟩ := hq b0 A0' I0' hr0
  have hout : gH (L1 ++ [q9]) f9 q9 (.inl (cy 2, 1, .inr (.inl g0))) := ⟨List.mem_append_right _ List.mem_cons_self, (e2 q9 List.mem_cons_self).trans hf9⟩
  refine G.sk (st' := [_, _, _]) rfl ?_
  refine g_i2l (n := 11) C dL_addRun_10 rfl ?_
  refine g_last (n := 12) C dL_addRun_11 hout rfl (by omega) (by decide) rfl ?_
  refine g_goto (tgt := 23) C dL_addRun_12 (by decide) ?_
  refine g_iconst (n := 24) (v := nI 0) C dL_addRun_23 rfl rfl ?_
  refine G.xw ?_
  refine g_iret C hr dL_addRun_24 ?_ ⟨by decide, by decide⟩
  refine ⟨L1, vp_updL g0 0 b0.toInt64, rfl, va_up_self _ _ _, 0, by decide, rfl, fun b A1 I1 hr => ?_⟩
  obtain ⟨h27, hv, hcw⟩ := hq b A1 I1 hr
  cases hv
  exact ⟨h27, fun _ => if_pos rfl, hcw.ext (fun a ha => (va_up_ne _ _ (show a ≠ q9 from fun z => (e1 a ha).2 (List.mem_singleton.mpr z))).trans (e1 a ha).1)⟩
theorem kH_addMove : gwH yL_addMove cL_addMove 6 (some .int) [(0, 12, 15, 13), (0, 12, 19, 15), (0, 12, 23, 27)] 5 := ⟨⟨(List.mem_of_getElem? (i := 395) (by decide +kernel)), by decide +kernel⟩, (List.mem_of_getElem? (i := 64) (by decide +kernel)), ⟨by decide +kernel, by decide +kernel⟩, by decide +kernel⟩
theorem kT_addMove : gwS yL_addMove := (List.mem_of_getElem? (i := 394) (by decide +kernel))
theorem kw_addMove {l : Launch} {s0 : State} {D : va_G} {cy : Nat → ClassId} (hE : gE s0 D cy) (hl : l.stackTraces = false) {L : List Nat} {f : gF} {bk : Nat → Nat} {n : Nat} {X : Nat → va_E} {Is : Nat → Option iT} {PR PL : Nat → Nat} {S A : Nat → Nat → Int32} {I : Nat → Int32} (hR : RC cy bk n X Is PR PL S A I L f) (hB9 : rmB n I) (hC9 : pCt n A S) (x y z : Int32) {Rl : Int32 → (Nat → Nat → Int32) → (Nat → Int32) → Prop} (hM : gX l s0 D yX5_addMove cX5_addMove 4 (some .int) 9 6 30 [.ref (bk 0), .int x, .int y, .int z] L f (uQ cy (bk 0) Rl) (uX [xI, xA, xS] A I Rl)) (hex : ∃ b A1 I1, Rl b A1 I1) (hW : ∀ b A1 I1 w, Rl b A1 I1 → I1 27 = nI w → 0 < w → w ≤ 3 → w ≤ 3) (hN : gN9 s0) {q9 : Nat} {g0 : Nat → Int64} (hf9 : f q9 = .inl (cy 2, 1, .inr (.inl g0))) : gH9 l s0 D yL_addMove cL_addMove 6 (some .int) [(0, 12, 15, 13), (0, 12, 19, 15), (0, 12, 23, 27)] 10 6 30 [.ref (bk 0), .int x, .int y, .int z, .ref q9] (L ++ [q9]) f (wQ cy (bk 0) q9 Rl) := by
  refine gH9.of (own := RL) hE hl (by decide +kernel) rfl rfl (Nat.le_of_ble_eq_true rfl) (fun p9 e9 s9 m9 a99 b99 t99 c9 C hr ht => ?_)
  refine G.weak (ls' := [some (.ref (bk 0)), some (.int x), some (.int y), some (.int z), some (.ref q9), none]) ?_ rfl (fun _ _ h => h)
  obtain ⟨b0, A0', I0', hr0⟩ := hex
  have hco : gH (L ++ [q9]) f (bk 0) (.inr (5, [.ref (bk 1), .ref (bk 2), .ref (bk 6), .ref (bk 7), .ref (bk 8), .ref (bk 10), .int (I 25), .int (I 26)])) := hR.co.of (List.mem_append_left _ hR.co.1) rfl
  refine g_aload (n := 2) C dL_addMove_0 rfl (Or.inr ⟨_, rfl⟩) rfl ?_
  refine g_iconst (n := 3) (v := nI 0) C dL_addMove_2 rfl rfl ?_
  refine g_aload_n (n := 4) C dL_addMove_3 rfl (Or.inr ⟨_, rfl⟩) rfl ?_
  refine g_iload_n (n := 5) C dL_addMove_4 rfl rfl ?_
  refine g_iload_n (n := 6) C dL_addMove_5 rfl rfl ?_
  refine g_iload_n (n := 7) C dL_addMove_6 rfl rfl ?_
  refine g_VXH (n := 10) (rest := [.int (nI 0), .ref q9]) C (hM.fr [q9]) dL_addMove_7 kM_X5_addMove kW_L_32 kV_X5_addMove hco rfl rfl rfl (Nat.le_of_ble_eq_true rfl) ⟨by decide, by decide⟩ ⟨by decide, by decide⟩ rfl (fun E hpx => by
      obtain ⟨w, hw0, hwT, h27, rfl, -, -⟩ := hpx b0 A0' I0' hr0
      have hwT : w ≤ 3 := hwT
      have hwN := hW _ _ _ w hr0 h27 hw0 hwT
      have hall : ∀ b A1 I1, Rl b A1 I1 → I1 27 = nI w ∧ A1 = A ∧ I1 = va_up I 27 (nI w) := fun b A1 I1 hr => by
        obtain ⟨w2, g1, g2, g3, g4, g5, g6⟩ := hpx b A1 I1 hr
        have e := exj_IAS hw0 hwT g1 g2 g4
        subst e
        exact ⟨g3, g5, g6⟩
      rcases (show w = 1 ∨ w = 2 ∨ w = 3 by omega) with rfl | rfl | rfl
      · refine ⟨xI, [], ⟨0, 12, 15, 13⟩, [⟨0, 12, 19, 15⟩, ⟨0, 12, 23, 27⟩], ht, (fun z hz => absurd hz List.not_mem_nil), by decide, by decide, (List.mem_of_getElem? (i := 215) (by decide +kernel)), (List.mem_of_getElem? (i := 229) (by decide +kernel)), fun q => ?_⟩
        refine g_astore (n := 17) (ls' := [_, _, _, _, _, _]) C dL_addMove_15 (Or.inr ⟨_, rfl⟩) rfl (by decide) rfl ?_
        refine g_iconst (n := 18) (v := nI 1) C dL_addMove_17 rfl rfl ?_
        refine G.xw ?_
        refine g_iret C hr dL_addMove_18 ?_ ⟨by decide, by decide⟩
        refine ⟨L, g0, rfl, hf9, 1, by decide, rfl, fun b A1 I1 hr => ?_⟩
        obtain ⟨a1, a2, a3⟩ := hall b A1 I1 hr
        exact ⟨a1, fun h => absurd h (by decide), by rw [a2, a3]; exact CW.rd hR hB9 hC9⟩
      · refine ⟨xA, [⟨0, 12, 15, 13⟩], ⟨0, 12, 19, 15⟩, [⟨0, 12, 23, 27⟩], ht, (fun z hz => by rw [List.mem_singleton.mp hz]; exact Or.inr ⟨by decide, xI, (List.mem_of_getElem? (i := 215) (by decide +kernel)), hN.1⟩), by decide, by decide, (List.mem_of_getElem? (i := 216) (by decide +kernel)), (List.mem_of_getElem? (i := 300) (by decide +kernel)), fun q => ?_⟩
        refine g_astore (n := 21) (ls' := [_, _, _, _, _, _]) C dL_addMove_19 (Or.inr ⟨_, rfl⟩) rfl (by decide) rfl ?_
        refine g_iconst (n := 22) (v := nI 2) C dL_addMove_21 rfl rfl ?_
        refine G.xw ?_
        refine g_iret C hr dL_addMove_22 ?_ ⟨by decide, by decide⟩
        refine ⟨L, g0, rfl, hf9, 2, by decide, rfl, fun b A1 I1 hr => ?_⟩
        obtain ⟨a1, a2, a3⟩ := hall b A1 I1 hr
        exact ⟨a1, fun h => absurd h (by decide), by rw [a2, a3]; exact CW.rd hR hB9 hC9⟩
      · refine ⟨xS, [⟨0, 12, 15, 13⟩, ⟨0, 12, 19, 15⟩], ⟨0, 12, 23, 27⟩, [], ht, (fun z hz => by
          rcases List.mem_cons.mp hz with rfl | hz
          · exact Or.inr ⟨by decide, xI, (List.mem_of_getElem? (i := 215) (by decide +kernel)), hN.2.1⟩
          · rw [List.mem_singleton.mp hz]; exact Or.inr ⟨by decide, xA, (List.mem_of_getElem? (i := 216) (by decide +kernel)), hN.2.2⟩), by decide, by decide, (List.mem_of_getElem? (i := 340) (by decide +kernel)), (List.mem_of_getElem? (i := 351) (by decide +kernel)), fun q => ?_⟩
        refine g_astore (n := 25) (ls' := [_, _, _, _, _, _]) C dL_addMove_23 (Or.inr ⟨_, rfl⟩) rfl (by decide) rfl ?_
        refine g_iconst (n := 26) (v := nI 3) C dL_addMove_25 rfl rfl ?_
        refine G.xw ?_
        refine g_iret C hr dL_addMove_26 ?_ ⟨by decide, by decide⟩
        refine ⟨L, g0, rfl, hf9, 3, by decide, rfl, fun b A1 I1 hr => ?_⟩
        obtain ⟨a1, a2, a3⟩ := hall b A1 I1 hr
        exact ⟨a1, fun h => absurd h (by decide), by rw [a2, a3]; exact CW.rd hR hB9 hC9⟩) (fun v9 L9 f9 hq => ?_)
  obtain ⟨L1, f1, hq, rfl, e1, e2⟩ := hq
  obtain ⟨-, rfl, -⟩ := hq b0 A0' I0' hr0
  have hout : gH (L1 ++ [q9]) f9 q9 (.inl (cy 2, 1, .inr (.inl g0))) := ⟨List.mem_append_right _ List.mem_cons_self, (e2 q9 List.mem_cons_self).trans hf9⟩
  refine G.sk (st' := [_, _, _]) rfl ?_
  refine g_i2l (n := 11) C dL_addMove_10 rfl ?_
  refine g_last (n := 12) C dL_addMove_11 hout rfl (by omega) (by decide) rfl ?_
  refine g_goto (tgt := 27) C dL_addMove_12 (by decide) ?_
  refine g_iconst (n := 28) (v := nI 0) C dL_addMove_27 rfl rfl ?_
  refine G.xw ?_
  refine g_iret C hr dL_addMove_28 ?_ ⟨by decide, by decide⟩
  refine ⟨L1, vp_updL g0 0 b0.toInt64, rfl, va_up_self _ _ _, 0, by decide, rfl, fun b A1 I1 hr => ?_⟩
  obtain ⟨h27, hv, hcw⟩ := hq b A1 I1 hr
  cases hv
  exact ⟨h27, fun _ => if_pos rfl, hcw.ext (fun a ha => (va_up_ne _ _ (show a ≠ q9 from fun z => (e1 a ha).2 (List.mem_singleton.mpr z))).trans (e1 a ha).1)⟩
theorem kH_addRemove : gwH yL_addRemove cL_addRemove 5 (some .int) [(0, 10, 13, 13), (0, 10, 17, 27)] 4 := ⟨⟨(List.mem_of_getElem? (i := 403) (by decide +kernel)), by decide +kernel⟩, (List.mem_of_getElem? (i := 64) (by decide +kernel)), ⟨by decide +kernel, by decide +kernel⟩, by decide +kernel⟩
theorem kT_addRemove : gwS yL_addRemove := (List.mem_of_getElem? (i := 402) (by decide +kernel))
theorem kw_addRemove {l : Launch} {s0 : State} {D : va_G} {cy : Nat → ClassId} (hE : gE s0 D cy) (hl : l.stackTraces = false) {L : List Nat} {f : gF} {bk : Nat → Nat} {n : Nat} {X : Nat → va_E} {Is : Nat → Option iT} {PR PL : Nat → Nat} {S A : Nat → Nat → Int32} {I : Nat → Int32} (hR : RC cy bk n X Is PR PL S A I L f) (hB9 : rmB n I) (hC9 : pCt n A S) (x y : Int32) {Rl : Int32 → (Nat → Nat → Int32) → (Nat → Int32) → Prop} (hM : gX l s0 D yX5_addRemove cX5_addRemove 3 (some .int) 9 5 24 [.ref (bk 0), .int x, .int y] L f (uQ cy (bk 0) Rl) (uX [xI, xS] A I Rl)) (hex : ∃ b A1 I1, Rl b A1 I1) (hW : ∀ b A1 I1 w, Rl b A1 I1 → I1 27 = nI w → 0 < w → w ≤ 2 → w ≤ 2) (hN : gN9 s0) {q9 : Nat} {g0 : Nat → Int64} (hf9 : f q9 = .inl (cy 2, 1, .inr (.inl g0))) : gH9 l s0 D yL_addRemove cL_addRemove 5 (some .int) [(0, 10, 13, 13), (0, 10, 17, 27)] 10 5 24 [.ref (bk 0), .int x, .int y, .ref q9] (L ++ [q9]) f (wQ cy (bk 0) q9 Rl) := by
  refine gH9.of (own := RL) hE hl (by decide +kernel) rfl rfl (Nat.le_of_ble_eq_true rfl) (fun p9 e9 s9 m9 a99 b99 t99 c9 C hr ht => ?_)
  refine G.weak (ls' := [some (.ref (bk 0)), some (.int x), some (.int y), some (.ref q9), none]) ?_ rfl (fun _ _ h => h)
  obtain ⟨b0, A0', I0', hr0⟩ := hex
  have hco : gH (L ++ [q9]) f (bk 0) (.inr (5, [.ref (bk 1), .ref (bk 2), .ref (bk 6), .ref (bk 7), .ref (bk 8), .ref (bk 10), .int (I 25), .int (I 26)])) := hR.co.of (List.mem_append_left _ hR.co.1) rfl
  refine g_aload_n (n := 1) C dL_addRemove_0 rfl (Or.inr ⟨_, rfl⟩) rfl ?_
  refine g_iconst (n := 2) (v := nI 0) C dL_addRemove_1 rfl rfl ?_
  refine g_aload_n (n := 3) C dL_addRemove_2 rfl (Or.inr ⟨_, rfl⟩) rfl ?_
  refine g_iload_n (n := 4) C dL_addRemove_3 rfl rfl ?_
  refine g_iload_n (n := 5) C dL_addRemove_4 rfl rfl ?_
  refine g_VXH (n := 8) (rest := [.int (nI 0), .ref q9]) C (hM.fr [q9]) dL_addRemove_5 kM_X5_addRemove kW_L_35 kV_X5_addRemove hco rfl rfl rfl (Nat.le_of_ble_eq_true rfl) ⟨by decide, by decide⟩ ⟨by decide, by decide⟩ rfl (fun E hpx => by
      obtain ⟨w, hw0, hwT, h27, rfl, -, -⟩ := hpx b0 A0' I0' hr0
      have hwT : w ≤ 2 := hwT
      have hwN := hW _ _ _ w hr0 h27 hw0 hwT
      have hall : ∀ b A1 I1, Rl b A1 I1 → I1 27 = nI w ∧ A1 = A ∧ I1 = va_up I 27 (nI w) := fun b A1 I1 hr => by
        obtain ⟨w2, g1, g2, g3, g4, g5, g6⟩ := hpx b A1 I1 hr
        have e := exj_IS hw0 hwT g1 g2 g4
        subst e
        exact ⟨g3, g5, g6⟩
      rcases (show w = 1 ∨ w = 2 by omega) with rfl | rfl
      · refine ⟨xI, [], ⟨0, 10, 13, 13⟩, [⟨0, 10, 17, 27⟩], ht, (fun z hz => absurd hz List.not_mem_nil), by decide, by decide, (List.mem_of_getElem? (i := 215) (by decide +kernel)), (List.mem_of_getElem? (i := 229) (by decide +kernel)), fun q => ?_⟩
        refine g_astore (n := 15) (ls' := [_, _, _, _, _]) C dL_addRemove_13 (Or.inr ⟨_, rfl⟩) rfl (by decide) rfl ?_
        refine g_iconst (n := 16) (v := nI 1) C dL_addRemove_15 rfl rfl ?_
        refine G.xw ?_
        refine g_iret C hr dL_addRemove_16 ?_ ⟨by decide, by decide⟩
        refine ⟨L, g0, rfl, hf9, 1, by decide, rfl, fun b A1 I1 hr => ?_⟩
        obtain ⟨a1, a2, a3⟩ := hall b A1 I1 hr
        exact ⟨a1, fun h => absurd h (by decide), by rw [a2, a3]; exact CW.rd hR hB9 hC9⟩
      · refine ⟨xS, [⟨0, 10, 13, 13⟩], ⟨0, 10, 17, 27⟩, [], ht, (fun z hz => by rw [List.mem_singleton.mp hz]; exact Or.inr ⟨by decide, xI, (List.mem_of_getElem? (i := 215) (by decide +kernel)), hN.2.1⟩), by decide, by decide, (List.mem_of_getElem? (i := 340) (by decide +kernel)), (List.mem_of_getElem? (i := 351) (by decide +kernel)), fun q => ?_⟩
        refine g_astore (n := 19) (ls' := [_, _, _, _, _]) C dL_addRemove_17 (Or.inr ⟨_, rfl⟩) rfl (by decide) rfl ?_
        refine g_iconst (n := 20) (v := nI 2) C dL_addRemove_19 rfl rfl ?_
        refine G.xw ?_
        refine g_iret C hr dL_addRemove_20 ?_ ⟨by decide, by decide⟩
        refine ⟨L, g0, rfl, hf9, 2, by decide, rfl, fun b A1 I1 hr => ?_⟩
        obtain ⟨a1, a2, a3⟩ := hall b A1 I1 hr
        exact ⟨a1, fun h => absurd h (by decide), by rw [a2, a3]; exact CW.rd hR hB9 hC9⟩) (fun v9 L9 f9 hq => ?_)
  obtain ⟨L1, f1, hq, rfl, e1, e2⟩ := hq
  obtain ⟨-, rfl, -⟩ := hq b0 A0' I0' hr0
  have hout : gH (L1 ++ [q9]) f9 q9 (.inl (cy 2, 1, .inr (.inl g0))) := ⟨List.mem_append_right _ List.mem_cons_self, (e2 q9 List.mem_cons_self).trans hf9⟩
  refine G.sk (st' := [_, _, _]) rfl ?_
  refine g_i2l (n := 9) C dL_addRemove_8 rfl ?_
  refine g_last (n := 10) C dL_addRemove_9 hout rfl (by omega) (by decide) rfl ?_
  refine g_goto (tgt := 21) C dL_addRemove_10 (by decide) ?_
  refine g_iconst (n := 22) (v := nI 0) C dL_addRemove_21 rfl rfl ?_
  refine G.xw ?_
  refine g_iret C hr dL_addRemove_22 ?_ ⟨by decide, by decide⟩
  refine ⟨L1, vp_updL g0 0 b0.toInt64, rfl, va_up_self _ _ _, 0, by decide, rfl, fun b A1 I1 hr => ?_⟩
  obtain ⟨h27, hv, hcw⟩ := hq b A1 I1 hr
  cases hv
  exact ⟨h27, fun _ => if_pos rfl, hcw.ext (fun a ha => (va_up_ne _ _ (show a ≠ q9 from fun z => (e1 a ha).2 (List.mem_singleton.mpr z))).trans (e1 a ha).1)⟩
theorem kH_addSet : gwH yL_addSet cL_addSet 6 (some .int) [(0, 12, 15, 13), (0, 12, 19, 15), (0, 12, 23, 27)] 5 := ⟨⟨(List.mem_of_getElem? (i := 410) (by decide +kernel)), by decide +kernel⟩, (List.mem_of_getElem? (i := 64) (by decide +kernel)), ⟨by decide +kernel, by decide +kernel⟩, by decide +kernel⟩
theorem kT_addSet : gwS yL_addSet := (List.mem_of_getElem? (i := 409) (by decide +kernel))
theorem kw_addSet {l : Launch} {s0 : State} {D : va_G} {cy : Nat → ClassId} (hE : gE s0 D cy) (hl : l.stackTraces = false) {L : List Nat} {f : gF} {bk : Nat → Nat} {n : Nat} {X : Nat → va_E} {Is : Nat → Option iT} {PR PL : Nat → Nat} {S A : Nat → Nat → Int32} {I : Nat → Int32} (hR : RC cy bk n X Is PR PL S A I L f) (hB9 : rmB n I) (hC9 : pCt n A S) (x y z : Int32) {Rl : Int32 → (Nat → Nat → Int32) → (Nat → Int32) → Prop} (hM : gX l s0 D yX5_addSet cX5_addSet 4 (some .int) 9 5 24 [.ref (bk 0), .int x, .int y, .int z] L f (uQ cy (bk 0) Rl) (uX [xI, xA, xS] A I Rl)) (hex : ∃ b A1 I1, Rl b A1 I1) (hW : ∀ b A1 I1 w, Rl b A1 I1 → I1 27 = nI w → 0 < w → w ≤ 3 → w ≤ 3) (hN : gN9 s0) {q9 : Nat} {g0 : Nat → Int64} (hf9 : f q9 = .inl (cy 2, 1, .inr (.inl g0))) : gH9 l s0 D yL_addSet cL_addSet 6 (some .int) [(0, 12, 15, 13), (0, 12, 19, 15), (0, 12, 23, 27)] 10 5 24 [.ref (bk 0), .int x, .int y, .int z, .ref q9] (L ++ [q9]) f (wQ cy (bk 0) q9 Rl) := by
  refine gH9.of (own := RL) hE hl (by decide +kernel) rfl rfl (Nat.le_of_ble_eq_true rfl) (fun p9 e9 s9 m9 a99 b99 t99 c9 C hr ht => ?_)
  refine G.weak (ls' := [some (.ref (bk 0)), some (.int x), some (.int y), some (.int z), some (.ref q9), none]) ?_ rfl (fun _ _ h => h)
  obtain ⟨b0, A0', I0', hr0⟩ := hex
  have hco : gH (L ++ [q9]) f (bk 0) (.inr (5, [.ref (bk 1), .ref (bk 2), .ref (bk 6), .ref (bk 7), .ref (bk 8), .ref (bk 10), .int (I 25), .int (I 26)])) := hR.co.of (List.mem_append_left _ hR.co.1) rfl
  refine g_aload (n := 2) C dL_addSet_0 rfl (Or.inr ⟨_, rfl⟩) rfl ?_
  refine g_iconst (n := 3) (v := nI 0) C dL_addSet_2 rfl rfl ?_
  refine g_aload_n (n := 4) C dL_addSet_3 rfl (Or.inr ⟨_, rfl⟩) rfl ?_
  refine g_iload_n (n := 5) C dL_addSet_4 rfl rfl ?_
  refine g_iload_n (n := 6) C dL_addSet_5 rfl rfl ?_
  refine g_iload_n (n := 7) C dL_addSet_6 rfl rfl ?_
  refine g_VXH (n := 10) (rest := [.int (nI 0), .ref q9]) C (hM.fr [q9]) dL_addSet_7 kM_X5_addSet kW_L_38 kV_X5_addSet hco rfl rfl rfl (Nat.le_of_ble_eq_true rfl) ⟨by decide, by decide⟩ ⟨by decide, by decide⟩ rfl (fun E hpx => by
      obtain ⟨w, hw0, hwT, h27, rfl, -, -⟩ := hpx b0 A0' I0' hr0
      have hwT : w ≤ 3 := hwT
      have hwN := hW _ _ _ w hr0 h27 hw0 hwT
      have hall : ∀ b A1 I1, Rl b A1 I1 → I1 27 = nI w ∧ A1 = A ∧ I1 = va_up I 27 (nI w) := fun b A1 I1 hr => by
        obtain ⟨w2, g1, g2, g3, g4, g5, g6⟩ := hpx b A1 I1 hr
        have e := exj_IAS hw0 hwT g1 g2 g4
        subst e
        exact ⟨g3, g5, g6⟩
      rcases (show w = 1 ∨ w = 2 ∨ w = 3 by omega) with rfl | rfl | rfl
      · refine ⟨xI, [], ⟨0, 12, 15, 13⟩, [⟨0, 12, 19, 15⟩, ⟨0, 12, 23, 27⟩], ht, (fun z hz => absurd hz List.not_mem_nil), by decide, by decide, (List.mem_of_getElem? (i := 215) (by decide +kernel)), (List.mem_of_getElem? (i := 229) (by decide +kernel)), fun q => ?_⟩
        refine g_astore (n := 17) (ls' := [_, _, _, _, _, _]) C dL_addSet_15 (Or.inr ⟨_, rfl⟩) rfl (by decide) rfl ?_
        refine g_iconst (n := 18) (v := nI 1) C dL_addSet_17 rfl rfl ?_
        refine G.xw ?_
        refine g_iret C hr dL_addSet_18 ?_ ⟨by decide, by decide⟩
        refine ⟨L, g0, rfl, hf9, 1, by decide, rfl, fun b A1 I1 hr => ?_⟩
        obtain ⟨a1, a2, a3⟩ := hall b A1 I1 hr
        exact ⟨a1, fun h => absurd h (by decide), by rw [a2, a3]; exact CW.rd hR hB9 hC9⟩
      · refine ⟨xA, [⟨0, 12, 15, 13⟩], ⟨0, 12, 19, 15⟩, [⟨0, 12, 23, 27⟩], ht, (fun z hz => by rw [List.mem_singleton.mp hz]; exact Or.inr ⟨by decide, xI, (List.mem_of_getElem? (i := 215) (by decide +kernel)), hN.1⟩), by decide, by decide, (List.mem_of_getElem? (i := 216) (by decide +kernel)), (List.mem_of_getElem? (i := 300) (by decide +kernel)), fun q => ?_⟩
        refine g_astore (n := 21) (ls' := [_, _, _, _, _, _]) C dL_addSet_19 (Or.inr ⟨_, rfl⟩) rfl (by decide) rfl ?_
        refine g_iconst (n := 22) (v := nI 2) C dL_addSet_21 rfl rfl ?_
        refine G.xw ?_
        refine g_iret C hr dL_addSet_22 ?_ ⟨by decide, by decide⟩
        refine ⟨L, g0, rfl, hf9, 2, by decide, rfl, fun b A1 I1 hr => ?_⟩
        obtain ⟨a1, a2, a3⟩ := hall b A1 I1 hr
        exact ⟨a1, fun h => absurd h (by decide), by rw [a2, a3]; exact CW.rd hR hB9 hC9⟩
      · refine ⟨xS, [⟨0, 12, 15, 13⟩, ⟨0, 12, 19, 15⟩], ⟨0, 12, 23, 27⟩, [], ht, (fun z hz => by
          rcases List.mem_cons.mp hz with rfl | hz
          · exact Or.inr ⟨by decide, xI, (List.mem_of_getElem? (i := 215) (by decide +kernel)), hN.2.1⟩
          · rw [List.mem_singleton.mp hz]; exact Or.inr ⟨by decide, xA, (List.mem_of_getElem? (i := 216) (by decide +kernel)), hN.2.2⟩), by decide, by decide, (List.mem_of_getElem? (i := 340) (by decide +kernel)), (List.mem_of_getElem? (i := 351) (by decide +kernel)), fun q => ?_⟩
        refine g_astore (n := 25) (ls' := [_, _, _, _, _, _]) C dL_addSet_23 (Or.inr ⟨_, rfl⟩) rfl (by decide) rfl ?_
        refine g_iconst (n := 26) (v := nI 3) C dL_addSet_25 rfl rfl ?_
        refine G.xw ?_
        refine g_iret C hr dL_addSet_26 ?_ ⟨by decide, by decide⟩
        refine ⟨L, g0, rfl, hf9, 3, by decide, rfl, fun b A1 I1 hr => ?_⟩
        obtain ⟨a1, a2, a3⟩ := hall b A1 I1 hr
        exact ⟨a1, fun h => absurd h (by decide), by rw [a2, a3]; exact CW.rd hR hB9 hC9⟩) (fun v9 L9 f9 hq => ?_)
  obtain ⟨L1, f1, hq, rfl, e1, e2⟩ := hq
  obtain ⟨-, rfl, -⟩ := hq b0 A0' I0' hr0
  have hout : gH (L1 ++ [q9]) f9 q9 (.inl (cy 2, 1, .inr (.inl g0))) := ⟨List.mem_append_right _ List.mem_cons_self, (e2 q9 List.mem_cons_self).trans hf9⟩
  refine G.sk (st' := [_, _, _]) rfl ?_
  refine g_i2l (n := 11) C dL_addSet_10 rfl ?_
  refine g_last (n := 12) C dL_addSet_11 hout rfl (by omega) (by decide) rfl ?_
  refine g_goto (tgt := 27) C dL_addSet_12 (by decide) ?_
  refine g_iconst (n := 28) (v := nI 0) C dL_addSet_27 rfl rfl ?_
  refine G.xw ?_
  refine g_iret C hr dL_addSet_28 ?_ ⟨by decide, by decide⟩
  refine ⟨L1, vp_updL g0 0 b0.toInt64, rfl, va_up_self _ _ _, 0, by decide, rfl, fun b A1 I1 hr => ?_⟩
  obtain ⟨h27, hv, hcw⟩ := hq b A1 I1 hr
  cases hv
  exact ⟨h27, fun _ => if_pos rfl, hcw.ext (fun a ha => (va_up_ne _ _ (show a ≠ q9 from fun z => (e1 a ha).2 (List.mem_singleton.mpr z))).trans (e1 a ha).1)⟩
theorem kH_drop : gwH yL_drop cL_drop 5 (some .int) [(0, 10, 13, 13)] 4 := ⟨⟨(List.mem_of_getElem? (i := 418) (by decide +kernel)), by decide +kernel⟩, (List.mem_of_getElem? (i := 64) (by decide +kernel)), ⟨by decide +kernel, by decide +kernel⟩, by decide +kernel⟩
theorem kT_drop : gwS yL_drop := (List.mem_of_getElem? (i := 417) (by decide +kernel))
theorem kw_drop {l : Launch} {s0 : State} {D : va_G} {cy : Nat → ClassId} (hE : gE s0 D cy) (hl : l.stackTraces = false) {L : List Nat} {f : gF} {bk : Nat → Nat} {n : Nat} {X : Nat → va_E} {Is : Nat → Option iT} {PR PL : Nat → Nat} {S A : Nat → Nat → Int32} {I : Nat → Int32} (hR : RC cy bk n X Is PR PL S A I L f) (hB9 : rmB n I) (hC9 : pCt n A S) (x y : Int32) {Rl : Int32 → (Nat → Nat → Int32) → (Nat → Int32) → Prop} (hM : gX l s0 D yX5_drop cX5_drop 4 (some .int) 8 3 18 [.ref (bk 0), .int x, .int y] L f (uQ cy (bk 0) Rl) (uX [xI, xS] A I Rl)) (hex : ∃ b A1 I1, Rl b A1 I1) (hW : ∀ b A1 I1 w, Rl b A1 I1 → I1 27 = nI w → 0 < w → w ≤ 2 → w ≤ 1) (hN : gN9 s0) {q9 : Nat} {g0 : Nat → Int64} (hf9 : f q9 = .inl (cy 2, 1, .inr (.inl g0))) : gH9 l s0 D yL_drop cL_drop 5 (some .int) [(0, 10, 13, 13)] 9 3 18 [.ref (bk 0), .int x, .int y, .ref q9] (L ++ [q9]) f (wQ cy (bk 0) q9 Rl) := by
  refine gH9.of (own := RL) hE hl (by decide +kernel) rfl rfl (Nat.le_of_ble_eq_true rfl) (fun p9 e9 s9 m9 a99 b99 t99 c9 C hr ht => ?_)
  refine G.weak (ls' := [some (.ref (bk 0)), some (.int x), some (.int y), some (.ref q9), none]) ?_ rfl (fun _ _ h => h)
  obtain ⟨b0, A0', I0', hr0⟩ := hex
  have hco : gH (L ++ [q9]) f (bk 0) (.inr (5, [.ref (bk 1), .ref (bk 2), .ref (bk 6), .ref (bk 7), .ref (bk 8), .ref (bk 10), .int (I 25), .int (I 26)])) := hR.co.of (List.mem_append_left _ hR.co.1) rfl
  refine g_aload_n (n := 1) C dL_drop_0 rfl (Or.inr ⟨_, rfl⟩) rfl ?_
  refine g_iconst (n := 2) (v := nI 0) C dL_drop_1 rfl rfl ?_
  refine g_aload_n (n := 3) C dL_drop_2 rfl (Or.inr ⟨_, rfl⟩) rfl ?_
  refine g_iload_n (n := 4) C dL_drop_3 rfl rfl ?_
  refine g_iload_n (n := 5) C dL_drop_4 rfl rfl ?_
  refine g_VXH (n := 8) (rest := [.int (nI 0), .ref q9]) C (hM.fr [q9]) dL_drop_5 kM_X5_drop kW_L_41 kV_X5_drop hco rfl rfl rfl (Nat.le_of_ble_eq_true rfl) ⟨by decide, by decide⟩ ⟨by decide, by decide⟩ rfl (fun E hpx => by
      obtain ⟨w, hw0, hwT, h27, rfl, -, -⟩ := hpx b0 A0' I0' hr0
      have hwT : w ≤ 2 := hwT
      have hwN := hW _ _ _ w hr0 h27 hw0 hwT
      have hall : ∀ b A1 I1, Rl b A1 I1 → I1 27 = nI w ∧ A1 = A ∧ I1 = va_up I 27 (nI w) := fun b A1 I1 hr => by
        obtain ⟨w2, g1, g2, g3, g4, g5, g6⟩ := hpx b A1 I1 hr
        have e := exj_IS hw0 hwT g1 g2 g4
        subst e
        exact ⟨g3, g5, g6⟩
      rcases (show w = 1 by omega) with rfl
      · refine ⟨xI, [], ⟨0, 10, 13, 13⟩, [], ht, (fun z hz => absurd hz List.not_mem_nil), by decide, by decide, (List.mem_of_getElem? (i := 215) (by decide +kernel)), (List.mem_of_getElem? (i := 229) (by decide +kernel)), fun q => ?_⟩
        refine g_astore (n := 15) (ls' := [_, _, _, _, _]) C dL_drop_13 (Or.inr ⟨_, rfl⟩) rfl (by decide) rfl ?_
        refine g_iconst (n := 16) (v := nI 1) C dL_drop_15 rfl rfl ?_
        refine G.xw ?_
        refine g_iret C hr dL_drop_16 ?_ ⟨by decide, by decide⟩
        refine ⟨L, g0, rfl, hf9, 1, by decide, rfl, fun b A1 I1 hr => ?_⟩
        obtain ⟨a1, a2, a3⟩ := hall b A1 I1 hr
        exact ⟨a1, fun h => absurd h (by decide), by rw [a2, a3]; exact CW.rd hR hB9 hC9⟩) (fun v9 L9 f9 hq => ?_)
  obtain ⟨L1, f1, hq, rfl, e1, e2⟩ := hq
  obtain ⟨-, rfl, -⟩ := hq b0 A0' I0' hr0
  have hout : gH (L1 ++ [q9]) f9 q9 (.inl (cy 2, 1, .inr (.inl g0))) := ⟨List.mem_append_right _ List.mem_cons_self, (e2 q9 List.mem_cons_self).trans hf9⟩
  refine G.sk (st' := [_, _, _]) rfl ?_
  refine g_i2l (n := 9) C dL_drop_8 rfl ?_
  refine g_last (n := 10) C dL_drop_9 hout rfl (by omega) (by decide) rfl ?_
  refine g_goto (tgt := 17) C dL_drop_10 (by decide) ?_
  refine g_iconst (n := 18) (v := nI 0) C dL_drop_17 rfl rfl ?_
  refine G.xw ?_
  refine g_iret C hr dL_drop_18 ?_ ⟨by decide, by decide⟩
  refine ⟨L1, vp_updL g0 0 b0.toInt64, rfl, va_up_self _ _ _, 0, by decide, rfl, fun b A1 I1 hr => ?_⟩
  obtain ⟨h27, hv, hcw⟩ := hq b A1 I1 hr
  cases hv
  exact ⟨h27, fun _ => if_pos rfl, hcw.ext (fun a ha => (va_up_ne _ _ (show a ≠ q9 from fun z => (e1 a ha).2 (List.mem_singleton.mpr z))).trans (e1 a ha).1)⟩
theorem kH_instructions : gwH yL_instructions cL_instructions 4 (some .int) [(0, 9, 12, 13)] 3 := ⟨⟨(List.mem_of_getElem? (i := 429) (by decide +kernel)), by decide +kernel⟩, (List.mem_of_getElem? (i := 64) (by decide +kernel)), ⟨by decide +kernel, by decide +kernel⟩, by decide +kernel⟩
theorem kT_instructions : gwS yL_instructions := (List.mem_of_getElem? (i := 428) (by decide +kernel))
theorem kw_instructions {l : Launch} {s0 : State} {D : va_G} {cy : Nat → ClassId} (hE : gE s0 D cy) (hl : l.stackTraces = false) {L : List Nat} {f : gF} {bk : Nat → Nat} {n : Nat} {X : Nat → va_E} {Is : Nat → Option iT} {PR PL : Nat → Nat} {S A : Nat → Nat → Int32} {I : Nat → Int32} (hR : RC cy bk n X Is PR PL S A I L f) (hB9 : rmB n I) (hC9 : pCt n A S) (x : Int32) {Rl : Int32 → (Nat → Nat → Int32) → (Nat → Int32) → Prop} (hM : gX l s0 D yX5_instructions cX5_instructions 2 (some .int) 8 2 12 [.ref (bk 0), .int x] L f (uQ cy (bk 0) Rl) (uX [xI, xS] A I Rl)) (hex : ∃ b A1 I1, Rl b A1 I1) (hW : ∀ b A1 I1 w, Rl b A1 I1 → I1 27 = nI w → 0 < w → w ≤ 2 → w ≤ 1) (hN : gN9 s0) {q9 : Nat} {g0 : Nat → Int64} (hf9 : f q9 = .inl (cy 2, 1, .inr (.inl g0))) : gH9 l s0 D yL_instructions cL_instructions 4 (some .int) [(0, 9, 12, 13)] 9 2 12 [.ref (bk 0), .int x, .ref q9] (L ++ [q9]) f (wQ cy (bk 0) q9 Rl) := by
  refine gH9.of (own := RL) hE hl (by decide +kernel) rfl rfl (Nat.le_of_ble_eq_true rfl) (fun p9 e9 s9 m9 a99 b99 t99 c9 C hr ht => ?_)
  refine G.weak (ls' := [some (.ref (bk 0)), some (.int x), some (.ref q9), none]) ?_ rfl (fun _ _ h => h)
  obtain ⟨b0, A0', I0', hr0⟩ := hex
  have hco : gH (L ++ [q9]) f (bk 0) (.inr (5, [.ref (bk 1), .ref (bk 2), .ref (bk 6), .ref (bk 7), .ref (bk 8), .ref (bk 10), .int (I 25), .int (I 26)])) := hR.co.of (List.mem_append_left _ hR.co.1) rfl
  refine g_aload_n (n := 1) C dL_instructions_0 rfl (Or.inr ⟨_, rfl⟩) rfl ?_
  refine g_iconst (n := 2) (v := nI 0) C dL_instructions_1 rfl rfl ?_
  refine g_aload_n (n := 3) C dL_instructions_2 rfl (Or.inr ⟨_, rfl⟩) rfl ?_
  refine g_iload_n (n := 4) C dL_instructions_3 rfl rfl ?_
  refine g_VXH (n := 7) (rest := [.int (nI 0), .ref q9]) C (hM.fr [q9]) dL_instructions_4 kM_X5_instructions kW_L_44 kV_X5_instructions hco rfl rfl rfl (Nat.le_of_ble_eq_true rfl) ⟨by decide, by decide⟩ ⟨by decide, by decide⟩ rfl (fun E hpx => by
      obtain ⟨w, hw0, hwT, h27, rfl, -, -⟩ := hpx b0 A0' I0' hr0
      have hwT : w ≤ 2 := hwT
      have hwN := hW _ _ _ w hr0 h27 hw0 hwT
      have hall : ∀ b A1 I1, Rl b A1 I1 → I1 27 = nI w ∧ A1 = A ∧ I1 = va_up I 27 (nI w) := fun b A1 I1 hr => by
        obtain ⟨w2, g1, g2, g3, g4, g5, g6⟩ := hpx b A1 I1 hr
        have e := exj_IS hw0 hwT g1 g2 g4
        subst e
        exact ⟨g3, g5, g6⟩
      rcases (show w = 1 by omega) with rfl
      · refine ⟨xI, [], ⟨0, 9, 12, 13⟩, [], ht, (fun z hz => absurd hz List.not_mem_nil), by decide, by decide, (List.mem_of_getElem? (i := 215) (by decide +kernel)), (List.mem_of_getElem? (i := 229) (by decide +kernel)), fun q => ?_⟩
        refine g_astore_n (n := 13) (ls' := [_, _, _, _]) C dL_instructions_12 (Or.inr ⟨_, rfl⟩) rfl (by decide) rfl ?_
        refine g_iconst (n := 14) (v := nI 1) C dL_instructions_13 rfl rfl ?_
        refine G.xw ?_
        refine g_iret C hr dL_instructions_14 ?_ ⟨by decide, by decide⟩
        refine ⟨L, g0, rfl, hf9, 1, by decide, rfl, fun b A1 I1 hr => ?_⟩
        obtain ⟨a1, a2, a3⟩ := hall b A1 I1 hr
        exact ⟨a1, fun h => absurd h (by decide), by rw [a2, a3]; exact CW.rd hR hB9 hC9⟩) (fun v9 L9 f9 hq => ?_)
  obtain ⟨L1, f1, hq, rfl, e1, e2⟩ := hq
  obtain ⟨-, rfl, -⟩ := hq b0 A0' I0' hr0
  have hout : gH (L1 ++ [q9]) f9 q9 (.inl (cy 2, 1, .inr (.inl g0))) := ⟨List.mem_append_right _ List.mem_cons_self, (e2 q9 List.mem_cons_self).trans hf9⟩
  refine G.sk (st' := [_, _, _]) rfl ?_
  refine g_i2l (n := 8) C dL_instructions_7 rfl ?_
  refine g_last (n := 9) C dL_instructions_8 hout rfl (by omega) (by decide) rfl ?_
  refine g_goto (tgt := 15) C dL_instructions_9 (by decide) ?_
  refine g_iconst (n := 16) (v := nI 0) C dL_instructions_15 rfl rfl ?_
  refine G.xw ?_
  refine g_iret C hr dL_instructions_16 ?_ ⟨by decide, by decide⟩
  refine ⟨L1, vp_updL g0 0 b0.toInt64, rfl, va_up_self _ _ _, 0, by decide, rfl, fun b A1 I1 hr => ?_⟩
  obtain ⟨h27, hv, hcw⟩ := hq b A1 I1 hr
  cases hv
  exact ⟨h27, fun _ => if_pos rfl, hcw.ext (fun a ha => (va_up_ne _ _ (show a ≠ q9 from fun z => (e1 a ha).2 (List.mem_singleton.mpr z))).trans (e1 a ha).1)⟩
theorem kH_start : gwH yL_start cL_start 4 (some .int) [(0, 9, 12, 13), (0, 9, 15, 27)] 3 := ⟨⟨(List.mem_of_getElem? (i := 436) (by decide +kernel)), by decide +kernel⟩, (List.mem_of_getElem? (i := 64) (by decide +kernel)), ⟨by decide +kernel, by decide +kernel⟩, by decide +kernel⟩
theorem kT_start : gwS yL_start := (List.mem_of_getElem? (i := 435) (by decide +kernel))
theorem kw_start {l : Launch} {s0 : State} {D : va_G} {cy : Nat → ClassId} (hE : gE s0 D cy) (hl : l.stackTraces = false) {L : List Nat} {f : gF} {bk : Nat → Nat} {n : Nat} {X : Nat → va_E} {Is : Nat → Option iT} {PR PL : Nat → Nat} {S A : Nat → Nat → Int32} {I : Nat → Int32} (hR : RC cy bk n X Is PR PL S A I L f) (hB9 : rmB n I) (hC9 : pCt n A S) (x : Int32) {Rl : Int32 → (Nat → Nat → Int32) → (Nat → Int32) → Prop} (hM : gX l s0 D yX5_start cX5_start 4 (some .int) 8 7 54 [.ref (bk 0), .int x] L f (uQ cy (bk 0) Rl) (uX [xI, xS] A I Rl)) (hex : ∃ b A1 I1, Rl b A1 I1) (hW : ∀ b A1 I1 w, Rl b A1 I1 → I1 27 = nI w → 0 < w → w ≤ 2 → w ≤ 2) (hN : gN9 s0) {q9 : Nat} {g0 : Nat → Int64} (hf9 : f q9 = .inl (cy 2, 1, .inr (.inl g0))) : gH9 l s0 D yL_start cL_start 4 (some .int) [(0, 9, 12, 13), (0, 9, 15, 27)] 9 7 54 [.ref (bk 0), .int x, .ref q9] (L ++ [q9]) f (wQ cy (bk 0) q9 Rl) := by
  refine gH9.of (own := RL) hE hl (by decide +kernel) rfl rfl (Nat.le_of_ble_eq_true rfl) (fun p9 e9 s9 m9 a99 b99 t99 c9 C hr ht => ?_)
  refine G.weak (ls' := [some (.ref (bk 0)), some (.int x), some (.ref q9), none]) ?_ rfl (fun _ _ h => h)
  obtain ⟨b0, A0', I0', hr0⟩ := hex
  have hco : gH (L ++ [q9]) f (bk 0) (.inr (5, [.ref (bk 1), .ref (bk 2), .ref (bk 6), .ref (bk 7), .ref (bk 8), .ref (bk 10), .int (I 25), .int (I 26)])) := hR.co.of (List.mem_append_left _ hR.co.1) rfl
  refine g_aload_n (n := 1) C dL_start_0 rfl (Or.inr ⟨_, rfl⟩) rfl ?_
  refine g_iconst (n := 2) (v := nI 0) C dL_start_1 rfl rfl ?_
  refine g_aload_n (n := 3) C dL_start_2 rfl (Or.inr ⟨_, rfl⟩) rfl ?_
  refine g_iload_n (n := 4) C dL_start_3 rfl rfl ?_
  refine g_VXH (n := 7) (rest := [.int (nI 0), .ref q9]) C (hM.fr [q9]) dL_start_4 kM_X5_start kW_L_48 kV_X5_start hco rfl rfl rfl (Nat.le_of_ble_eq_true rfl) ⟨by decide, by decide⟩ ⟨by decide, by decide⟩ rfl (fun E hpx => by
      obtain ⟨w, hw0, hwT, h27, rfl, -, -⟩ := hpx b0 A0' I0' hr0
      have hwT : w ≤ 2 := hwT
      have hwN := hW _ _ _ w hr0 h27 hw0 hwT
      have hall : ∀ b A1 I1, Rl b A1 I1 → I1 27 = nI w ∧ A1 = A ∧ I1 = va_up I 27 (nI w) := fun b A1 I1 hr => by
        obtain ⟨w2, g1, g2, g3, g4, g5, g6⟩ := hpx b A1 I1 hr
        have e := exj_IS hw0 hwT g1 g2 g4
        subst e
        exact ⟨g3, g5, g6⟩
      rcases (show w = 1 ∨ w = 2 by omega) with rfl | rfl
      · refine ⟨xI, [], ⟨0, 9, 12, 13⟩, [⟨0, 9, 15, 27⟩], ht, (fun z hz => absurd hz List.not_mem_nil), by decide, by decide, (List.mem_of_getElem? (i := 215) (by decide +kernel)), (List.mem_of_getElem? (i := 229) (by decide +kernel)), fun q => ?_⟩
        refine g_astore_n (n := 13) (ls' := [_, _, _, _]) C dL_start_12 (Or.inr ⟨_, rfl⟩) rfl (by decide) rfl ?_
        refine g_iconst (n := 14) (v := nI 1) C dL_start_13 rfl rfl ?_
        refine G.xw ?_
        refine g_iret C hr dL_start_14 ?_ ⟨by decide, by decide⟩
        refine ⟨L, g0, rfl, hf9, 1, by decide, rfl, fun b A1 I1 hr => ?_⟩
        obtain ⟨a1, a2, a3⟩ := hall b A1 I1 hr
        exact ⟨a1, fun h => absurd h (by decide), by rw [a2, a3]; exact CW.rd hR hB9 hC9⟩
      · refine ⟨xS, [⟨0, 9, 12, 13⟩], ⟨0, 9, 15, 27⟩, [], ht, (fun z hz => by rw [List.mem_singleton.mp hz]; exact Or.inr ⟨by decide, xI, (List.mem_of_getElem? (i := 215) (by decide +kernel)), hN.2.1⟩), by decide, by decide, (List.mem_of_getElem? (i := 340) (by decide +kernel)), (List.mem_of_getElem? (i := 351) (by decide +kernel)), fun q => ?_⟩
        refine g_astore_n (n := 16) (ls' := [_, _, _, _]) C dL_start_15 (Or.inr ⟨_, rfl⟩) rfl (by decide) rfl ?_
        refine g_iconst (n := 17) (v := nI 2) C dL_start_16 rfl rfl ?_
        refine G.xw ?_
        refine g_iret C hr dL_start_17 ?_ ⟨by decide, by decide⟩
        refine ⟨L, g0, rfl, hf9, 2, by decide, rfl, fun b A1 I1 hr => ?_⟩
        obtain ⟨a1, a2, a3⟩ := hall b A1 I1 hr
        exact ⟨a1, fun h => absurd h (by decide), by rw [a2, a3]; exact CW.rd hR hB9 hC9⟩) (fun v9 L9 f9 hq => ?_)
  obtain ⟨L1, f1, hq, rfl, e1, e2⟩ := hq
  obtain ⟨-, rfl, -⟩ := hq b0 A0' I0' hr0
  have hout : gH (L1 ++ [q9]) f9 q9 (.inl (cy 2, 1, .inr (.inl g0))) := ⟨List.mem_append_right _ List.mem_cons_self, (e2 q9 List.mem_cons_self).trans hf9⟩
  refine G.sk (st' := [_, _, _]) rfl ?_
  refine g_i2l (n := 8) C dL_start_7 rfl ?_
  refine g_last (n := 9) C dL_start_8 hout rfl (by omega) (by decide) rfl ?_
  refine g_goto (tgt := 18) C dL_start_9 (by decide) ?_
  refine g_iconst (n := 19) (v := nI 0) C dL_start_18 rfl rfl ?_
  refine G.xw ?_
  refine g_iret C hr dL_start_19 ?_ ⟨by decide, by decide⟩
  refine ⟨L1, vp_updL g0 0 b0.toInt64, rfl, va_up_self _ _ _, 0, by decide, rfl, fun b A1 I1 hr => ?_⟩
  obtain ⟨h27, hv, hcw⟩ := hq b A1 I1 hr
  cases hv
  exact ⟨h27, fun _ => if_pos rfl, hcw.ext (fun a ha => (va_up_ne _ _ (show a ≠ q9 from fun z => (e1 a ha).2 (List.mem_singleton.mpr z))).trans (e1 a ha).1)⟩
theorem kH_step : gwH yL_step cL_step 3 (some .int) [(0, 8, 11, 27)] 2 := ⟨⟨(List.mem_of_getElem? (i := 535) (by decide +kernel)), by decide +kernel⟩, (List.mem_of_getElem? (i := 64) (by decide +kernel)), ⟨by decide +kernel, by decide +kernel⟩, by decide +kernel⟩
theorem kT_step : gwS yL_step := (List.mem_of_getElem? (i := 534) (by decide +kernel))
theorem kw_step {l : Launch} {s0 : State} {D : va_G} {cy : Nat → ClassId} (hE : gE s0 D cy) (hl : l.stackTraces = false) {L : List Nat} {f : gF} {bk : Nat → Nat} {n : Nat} {X : Nat → va_E} {Is : Nat → Option iT} {PR PL : Nat → Nat} {S A : Nat → Nat → Int32} {I : Nat → Int32} (hR : RC cy bk n X Is PR PL S A I L f) (hB9 : rmB n I) (hC9 : pCt n A S) {Rl : Int32 → (Nat → Nat → Int32) → (Nat → Int32) → Prop} (hM : gX l s0 D yX5_step cX5_step 5 (some .int) 7 5 42 [.ref (bk 0)] L f (uQ cy (bk 0) Rl) (uX [xS] A I Rl)) (hex : ∃ b A1 I1, Rl b A1 I1) (hW : ∀ b A1 I1 w, Rl b A1 I1 → I1 27 = nI w → 0 < w → w ≤ 1 → w ≤ 1) (hN : gN9 s0) {q9 : Nat} {g0 : Nat → Int64} (hf9 : f q9 = .inl (cy 2, 1, .inr (.inl g0))) : gH9 l s0 D yL_step cL_step 3 (some .int) [(0, 8, 11, 27)] 8 5 42 [.ref (bk 0), .ref q9] (L ++ [q9]) f (wQ cy (bk 0) q9 Rl) := by
  refine gH9.of (own := RL) hE hl (by decide +kernel) rfl rfl (Nat.le_of_ble_eq_true rfl) (fun p9 e9 s9 m9 a99 b99 t99 c9 C hr ht => ?_)
  refine G.weak (ls' := [some (.ref (bk 0)), some (.ref q9), none]) ?_ rfl (fun _ _ h => h)
  obtain ⟨b0, A0', I0', hr0⟩ := hex
  have hco : gH (L ++ [q9]) f (bk 0) (.inr (5, [.ref (bk 1), .ref (bk 2), .ref (bk 6), .ref (bk 7), .ref (bk 8), .ref (bk 10), .int (I 25), .int (I 26)])) := hR.co.of (List.mem_append_left _ hR.co.1) rfl
  refine g_aload_n (n := 1) C dL_step_0 rfl (Or.inr ⟨_, rfl⟩) rfl ?_
  refine g_iconst (n := 2) (v := nI 0) C dL_step_1 rfl rfl ?_
  refine g_aload_n (n := 3) C dL_step_2 rfl (Or.inr ⟨_, rfl⟩) rfl ?_
  refine g_VXH (n := 6) (rest := [.int (nI 0), .ref q9]) C (hM.fr [q9]) dL_step_3 kM_X5_step kW_L_51 kV_X5_step hco rfl rfl rfl (Nat.le_of_ble_eq_true rfl) ⟨by decide, by decide⟩ ⟨by decide, by decide⟩ rfl (fun E hpx => by
      obtain ⟨w, hw0, hwT, h27, rfl, -, -⟩ := hpx b0 A0' I0' hr0
      have hwT : w ≤ 1 := hwT
      have hwN := hW _ _ _ w hr0 h27 hw0 hwT
      have hall : ∀ b A1 I1, Rl b A1 I1 → I1 27 = nI w ∧ A1 = A ∧ I1 = va_up I 27 (nI w) := fun b A1 I1 hr => by
        obtain ⟨w2, g1, g2, g3, g4, g5, g6⟩ := hpx b A1 I1 hr
        have e := exj_S hw0 hwT g1 g2 g4
        subst e
        exact ⟨g3, g5, g6⟩
      rcases (show w = 1 by omega) with rfl
      · refine ⟨xS, [], ⟨0, 8, 11, 27⟩, [], ht, (fun z hz => absurd hz List.not_mem_nil), by decide, by decide, (List.mem_of_getElem? (i := 340) (by decide +kernel)), (List.mem_of_getElem? (i := 351) (by decide +kernel)), fun q => ?_⟩
        refine g_astore_n (n := 12) (ls' := [_, _, _]) C dL_step_11 (Or.inr ⟨_, rfl⟩) rfl (by decide) rfl ?_
        refine g_iconst (n := 13) (v := nI 1) C dL_step_12 rfl rfl ?_
        refine G.xw ?_
        refine g_iret C hr dL_step_13 ?_ ⟨by decide, by decide⟩
        refine ⟨L, g0, rfl, hf9, 1, by decide, rfl, fun b A1 I1 hr => ?_⟩
        obtain ⟨a1, a2, a3⟩ := hall b A1 I1 hr
        exact ⟨a1, fun h => absurd h (by decide), by rw [a2, a3]; exact CW.rd hR hB9 hC9⟩) (fun v9 L9 f9 hq => ?_)
  obtain ⟨L1, f1, hq, rfl, e1, e2⟩ := hq
  obtain ⟨-, rfl, -⟩ := hq b0 A0' I0' hr0
  have hout : gH (L1 ++ [q9]) f9 q9 (.inl (cy 2, 1, .inr (.inl g0))) := ⟨List.mem_append_right _ List.mem_cons_self, (e2 q9 List.mem_cons_self).trans hf9⟩
  refine G.sk (st' := [_, _, _]) rfl ?_
  refine g_i2l (n := 7) C dL_step_6 rfl ?_
  refine g_last (n := 8) C dL_step_7 hout rfl (by omega) (by decide) rfl ?_
  refine g_goto (tgt := 14) C dL_step_8 (by decide) ?_
  refine g_iconst (n := 15) (v := nI 0) C dL_step_14 rfl rfl ?_
  refine G.xw ?_
  refine g_iret C hr dL_step_15 ?_ ⟨by decide, by decide⟩
  refine ⟨L1, vp_updL g0 0 b0.toInt64, rfl, va_up_self _ _ _, 0, by decide, rfl, fun b A1 I1 hr => ?_⟩
  obtain ⟨h27, hv, hcw⟩ := hq b A1 I1 hr
  cases hv
  exact ⟨h27, fun _ => if_pos rfl, hcw.ext (fun a ha => (va_up_ne _ _ (show a ≠ q9 from fun z => (e1 a ha).2 (List.mem_singleton.mpr z))).trans (e1 a ha).1)⟩
theorem kH_build : gwH yL_build cL_build 4 (some .int) [(0, 9, 12, 13), (0, 9, 15, 27)] 3 := ⟨⟨(List.mem_of_getElem? (i := 616) (by decide +kernel)), by decide +kernel⟩, (List.mem_of_getElem? (i := 64) (by decide +kernel)), ⟨by decide +kernel, by decide +kernel⟩, by decide +kernel⟩
theorem kT_build : gwS yL_build := (List.mem_of_getElem? (i := 615) (by decide +kernel))
theorem kw_build {l : Launch} {s0 : State} {D : va_G} {cy : Nat → ClassId} (hE : gE s0 D cy) (hl : l.stackTraces = false) {L : List Nat} {f : gF} {bk : Nat → Nat} {n : Nat} {X : Nat → va_E} {Is : Nat → Option iT} {PR PL : Nat → Nat} {S A : Nat → Nat → Int32} {I : Nat → Int32} (hR : RC cy bk n X Is PR PL S A I L f) (hB9 : rmB n I) (hC9 : pCt n A S) (x : Int32) {Rl : Int32 → (Nat → Nat → Int32) → (Nat → Int32) → Prop} (hM : gX l s0 D yX5_build cX5_build 3 (some .int) 9 57 474 [.ref (bk 0), .int x] L f (uQ cy (bk 0) Rl) (uX [xI, xS] A I Rl)) (hex : ∃ b A1 I1, Rl b A1 I1) (hW : ∀ b A1 I1 w, Rl b A1 I1 → I1 27 = nI w → 0 < w → w ≤ 2 → w ≤ 2) (hN : gN9 s0) {q9 : Nat} {g0 : Nat → Int64} (hf9 : f q9 = .inl (cy 2, 1, .inr (.inl g0))) : gH9 l s0 D yL_build cL_build 4 (some .int) [(0, 9, 12, 13), (0, 9, 15, 27)] 10 57 474 [.ref (bk 0), .int x, .ref q9] (L ++ [q9]) f (wQ cy (bk 0) q9 Rl) := by
  refine gH9.of (own := RL) hE hl (by decide +kernel) rfl rfl (Nat.le_of_ble_eq_true rfl) (fun p9 e9 s9 m9 a99 b99 t99 c9 C hr ht => ?_)
  refine G.weak (ls' := [some (.ref (bk 0)), some (.int x), some (.ref q9), none]) ?_ rfl (fun _ _ h => h)
  obtain ⟨b0, A0', I0', hr0⟩ := hex
  have hco : gH (L ++ [q9]) f (bk 0) (.inr (5, [.ref (bk 1), .ref (bk 2), .ref (bk 6), .ref (bk 7), .ref (bk 8), .ref (bk 10), .int (I 25), .int (I 26)])) := hR.co.of (List.mem_append_left _ hR.co.1) rfl
  refine g_aload_n (n := 1) C dL_build_0 rfl (Or.inr ⟨_, rfl⟩) rfl ?_
  refine g_iconst (n := 2) (v := nI 0) C dL_build_1 rfl rfl ?_
  refine g_aload_n (n := 3) C dL_build_2 rfl (Or.inr ⟨_, rfl⟩) rfl ?_
  refine g_iload_n (n := 4) C dL_build_3 rfl rfl ?_
  refine g_VXH (n := 7) (rest := [.int (nI 0), .ref q9]) C (hM.fr [q9]) dL_build_4 kM_X5_build kW_L_55 kV_X5_build hco rfl rfl rfl (Nat.le_of_ble_eq_true rfl) ⟨by decide, by decide⟩ ⟨by decide, by decide⟩ rfl (fun E hpx => by
      obtain ⟨w, hw0, hwT, h27, rfl, -, -⟩ := hpx b0 A0' I0' hr0
      have hwT : w ≤ 2 := hwT
      have hwN := hW _ _ _ w hr0 h27 hw0 hwT
      have hall : ∀ b A1 I1, Rl b A1 I1 → I1 27 = nI w ∧ A1 = A ∧ I1 = va_up I 27 (nI w) := fun b A1 I1 hr => by
        obtain ⟨w2, g1, g2, g3, g4, g5, g6⟩ := hpx b A1 I1 hr
        have e := exj_IS hw0 hwT g1 g2 g4
        subst e
        exact ⟨g3, g5, g6⟩
      rcases (show w = 1 ∨ w = 2 by omega) with rfl | rfl
      · refine ⟨xI, [], ⟨0, 9, 12, 13⟩, [⟨0, 9, 15, 27⟩], ht, (fun z hz => absurd hz List.not_mem_nil), by decide, by decide, (List.mem_of_getElem? (i := 215) (by decide +kernel)), (List.mem_of_getElem? (i := 229) (by decide +kernel)), fun q => ?_⟩
        refine g_astore_n (n := 13) (ls' := [_, _, _, _]) C dL_build_12 (Or.inr ⟨_, rfl⟩) rfl (by decide) rfl ?_
        refine g_iconst (n := 14) (v := nI 1) C dL_build_13 rfl rfl ?_
        refine G.xw ?_
        refine g_iret C hr dL_build_14 ?_ ⟨by decide, by decide⟩
        refine ⟨L, g0, rfl, hf9, 1, by decide, rfl, fun b A1 I1 hr => ?_⟩
        obtain ⟨a1, a2, a3⟩ := hall b A1 I1 hr
        exact ⟨a1, fun h => absurd h (by decide), by rw [a2, a3]; exact CW.rd hR hB9 hC9⟩
      · refine ⟨xS, [⟨0, 9, 12, 13⟩], ⟨0, 9, 15, 27⟩, [], ht, (fun z hz => by rw [List.mem_singleton.mp hz]; exact Or.inr ⟨by decide, xI, (List.mem_of_getElem? (i := 215) (by decide +kernel)), hN.2.1⟩), by decide, by decide, (List.mem_of_getElem? (i := 340) (by decide +kernel)), (List.mem_of_getElem? (i := 351) (by decide +kernel)), fun q => ?_⟩
        refine g_astore_n (n := 16) (ls' := [_, _, _, _]) C dL_build_15 (Or.inr ⟨_, rfl⟩) rfl (by decide) rfl ?_
        refine g_iconst (n := 17) (v := nI 2) C dL_build_16 rfl rfl ?_
        refine G.xw ?_
        refine g_iret C hr dL_build_17 ?_ ⟨by decide, by decide⟩
        refine ⟨L, g0, rfl, hf9, 2, by decide, rfl, fun b A1 I1 hr => ?_⟩
        obtain ⟨a1, a2, a3⟩ := hall b A1 I1 hr
        exact ⟨a1, fun h => absurd h (by decide), by rw [a2, a3]; exact CW.rd hR hB9 hC9⟩) (fun v9 L9 f9 hq => ?_)
  obtain ⟨L1, f1, hq, rfl, e1, e2⟩ := hq
  obtain ⟨-, rfl, -⟩ := hq b0 A0' I0' hr0
  have hout : gH (L1 ++ [q9]) f9 q9 (.inl (cy 2, 1, .inr (.inl g0))) := ⟨List.mem_append_right _ List.mem_cons_self, (e2 q9 List.mem_cons_self).trans hf9⟩
  refine G.sk (st' := [_, _, _]) rfl ?_
  refine g_i2l (n := 8) C dL_build_7 rfl ?_
  refine g_last (n := 9) C dL_build_8 hout rfl (by omega) (by decide) rfl ?_
  refine g_goto (tgt := 18) C dL_build_9 (by decide) ?_
  refine g_iconst (n := 19) (v := nI 0) C dL_build_18 rfl rfl ?_
  refine G.xw ?_
  refine g_iret C hr dL_build_19 ?_ ⟨by decide, by decide⟩
  refine ⟨L1, vp_updL g0 0 b0.toInt64, rfl, va_up_self _ _ _, 0, by decide, rfl, fun b A1 I1 hr => ?_⟩
  obtain ⟨h27, hv, hcw⟩ := hq b A1 I1 hr
  cases hv
  exact ⟨h27, fun _ => if_pos rfl, hcw.ext (fun a ha => (va_up_ne _ _ (show a ≠ q9 from fun z => (e1 a ha).2 (List.mem_singleton.mpr z))).trans (e1 a ha).1)⟩
theorem kH_cleanDigest : gwH yL_cleanDigest cL_cleanDigest 4 (some .int) [(0, 9, 12, 13)] 3 := ⟨⟨(List.mem_of_getElem? (i := 626) (by decide +kernel)), by decide +kernel⟩, (List.mem_of_getElem? (i := 64) (by decide +kernel)), ⟨by decide +kernel, by decide +kernel⟩, by decide +kernel⟩
theorem kT_cleanDigest : gwS yL_cleanDigest := (List.mem_of_getElem? (i := 625) (by decide +kernel))
theorem kw_cleanDigest {l : Launch} {s0 : State} {D : va_G} {cy : Nat → ClassId} (hE : gE s0 D cy) (hl : l.stackTraces = false) {L : List Nat} {f : gF} {bk : Nat → Nat} {n : Nat} {X : Nat → va_E} {Is : Nat → Option iT} {PR PL : Nat → Nat} {S A : Nat → Nat → Int32} {I : Nat → Int32} (hR : RC cy bk n X Is PR PL S A I L f) (hB9 : rmB n I) (hC9 : pCt n A S) (x : Int32) {Rl : Int32 → (Nat → Nat → Int32) → (Nat → Int32) → Prop} (hM : gX l s0 D yX5_cleanDigest cX5_cleanDigest 7 (some .int) 8 5 42 [.ref (bk 0), .int x] L f (uQ cy (bk 0) Rl) (uX [xI, xS] A I Rl)) (hex : ∃ b A1 I1, Rl b A1 I1) (hW : ∀ b A1 I1 w, Rl b A1 I1 → I1 27 = nI w → 0 < w → w ≤ 2 → w ≤ 1) (hN : gN9 s0) {q9 : Nat} {g0 : Nat → Int64} (hf9 : f q9 = .inl (cy 2, 1, .inr (.inl g0))) : gH9 l s0 D yL_cleanDigest cL_cleanDigest 4 (some .int) [(0, 9, 12, 13)] 9 5 42 [.ref (bk 0), .int x, .ref q9] (L ++ [q9]) f (wQ cy (bk 0) q9 Rl) := by
  refine gH9.of (own := RL) hE hl (by decide +kernel) rfl rfl (Nat.le_of_ble_eq_true rfl) (fun p9 e9 s9 m9 a99 b99 t99 c9 C hr ht => ?_)
  refine G.weak (ls' := [some (.ref (bk 0)), some (.int x), some (.ref q9), none]) ?_ rfl (fun _ _ h => h)
  obtain ⟨b0, A0', I0', hr0⟩ := hex
  have hco : gH (L ++ [q9]) f (bk 0) (.inr (5, [.ref (bk 1), .ref (bk 2), .ref (bk 6), .ref (bk 7), .ref (bk 8), .ref (bk 10), .int (I 25), .int (I 26)])) := hR.co.of (List.mem_append_left _ hR.co.1) rfl
  refine g_aload_n (n := 1) C dL_cleanDigest_0 rfl (Or.inr ⟨_, rfl⟩) rfl ?_
  refine g_iconst (n := 2) (v := nI 0) C dL_cleanDigest_1 rfl rfl ?_
  refine g_aload_n (n := 3) C dL_cleanDigest_2 rfl (Or.inr ⟨_, rfl⟩) rfl ?_
  refine g_iload_n (n := 4) C dL_cleanDigest_3 rfl rfl ?_
  refine g_VXH (n := 7) (rest := [.int (nI 0), .ref q9]) C (hM.fr [q9]) dL_cleanDigest_4 kM_X5_cleanDigest kW_L_58 kV_X5_cleanDigest hco rfl rfl rfl (Nat.le_of_ble_eq_true rfl) ⟨by decide, by decide⟩ ⟨by decide, by decide⟩ rfl (fun E hpx => by
      obtain ⟨w, hw0, hwT, h27, rfl, -, -⟩ := hpx b0 A0' I0' hr0
      have hwT : w ≤ 2 := hwT
      have hwN := hW _ _ _ w hr0 h27 hw0 hwT
      have hall : ∀ b A1 I1, Rl b A1 I1 → I1 27 = nI w ∧ A1 = A ∧ I1 = va_up I 27 (nI w) := fun b A1 I1 hr => by
        obtain ⟨w2, g1, g2, g3, g4, g5, g6⟩ := hpx b A1 I1 hr
        have e := exj_IS hw0 hwT g1 g2 g4
        subst e
        exact ⟨g3, g5, g6⟩
      rcases (show w = 1 by omega) with rfl
      · refine ⟨xI, [], ⟨0, 9, 12, 13⟩, [], ht, (fun z hz => absurd hz List.not_mem_nil), by decide, by decide, (List.mem_of_getElem? (i := 215) (by decide +kernel)), (List.mem_of_getElem? (i := 229) (by decide +kernel)), fun q => ?_⟩
        refine g_astore_n (n := 13) (ls' := [_, _, _, _]) C dL_cleanDigest_12 (Or.inr ⟨_, rfl⟩) rfl (by decide) rfl ?_
        refine g_iconst (n := 14) (v := nI 1) C dL_cleanDigest_13 rfl rfl ?_
        refine G.xw ?_
        refine g_iret C hr dL_cleanDigest_14 ?_ ⟨by decide, by decide⟩
        refine ⟨L, g0, rfl, hf9, 1, by decide, rfl, fun b A1 I1 hr => ?_⟩
        obtain ⟨a1, a2, a3⟩ := hall b A1 I1 hr
        exact ⟨a1, fun h => absurd h (by decide), by rw [a2, a3]; exact CW.rd hR hB9 hC9⟩) (fun v9 L9 f9 hq => ?_)
  obtain ⟨L1, f1, hq, rfl, e1, e2⟩ := hq
  obtain ⟨-, rfl, -⟩ := hq b0 A0' I0' hr0
  have hout : gH (L1 ++ [q9]) f9 q9 (.inl (cy 2, 1, .inr (.inl g0))) := ⟨List.mem_append_right _ List.mem_cons_self, (e2 q9 List.mem_cons_self).trans hf9⟩
  refine G.sk (st' := [_, _, _]) rfl ?_
  refine g_i2l (n := 8) C dL_cleanDigest_7 rfl ?_
  refine g_last (n := 9) C dL_cleanDigest_8 hout rfl (by omega) (by decide) rfl ?_
  refine g_goto (tgt := 15) C dL_cleanDigest_9 (by decide) ?_
  refine g_iconst (n := 16) (v := nI 0) C dL_cleanDigest_15 rfl rfl ?_
  refine G.xw ?_
  refine g_iret C hr dL_cleanDigest_16 ?_ ⟨by decide, by decide⟩
  refine ⟨L1, vp_updL g0 0 b0.toInt64, rfl, va_up_self _ _ _, 0, by decide, rfl, fun b A1 I1 hr => ?_⟩
  obtain ⟨h27, hv, hcw⟩ := hq b A1 I1 hr
  cases hv
  exact ⟨h27, fun _ => if_pos rfl, hcw.ext (fun a ha => (va_up_ne _ _ (show a ≠ q9 from fun z => (e1 a ha).2 (List.mem_singleton.mpr z))).trans (e1 a ha).1)⟩
theorem kH_tag : gwH yL_tag cL_tag 4 (some .int) [(0, 9, 12, 13), (0, 9, 15, 27)] 3 := ⟨⟨(List.mem_of_getElem? (i := 641) (by decide +kernel)), by decide +kernel⟩, (List.mem_of_getElem? (i := 64) (by decide +kernel)), ⟨by decide +kernel, by decide +kernel⟩, by decide +kernel⟩
theorem kT_tag : gwS yL_tag := (List.mem_of_getElem? (i := 640) (by decide +kernel))
theorem kw_tag {l : Launch} {s0 : State} {D : va_G} {cy : Nat → ClassId} (hE : gE s0 D cy) (hl : l.stackTraces = false) {L : List Nat} {f : gF} {bk : Nat → Nat} {n : Nat} {X : Nat → va_E} {Is : Nat → Option iT} {PR PL : Nat → Nat} {S A : Nat → Nat → Int32} {I : Nat → Int32} (hR : RC cy bk n X Is PR PL S A I L f) (hB9 : rmB n I) (hC9 : pCt n A S) (x : Int32) {Rl : Int32 → (Nat → Nat → Int32) → (Nat → Int32) → Prop} (hM : gX l s0 D yX5_tag cX5_tag 4 (some .int) 8 2 12 [.ref (bk 0), .int x] L f (uQ cy (bk 0) Rl) (uX [xI, xS] A I Rl)) (hex : ∃ b A1 I1, Rl b A1 I1) (hW : ∀ b A1 I1 w, Rl b A1 I1 → I1 27 = nI w → 0 < w → w ≤ 2 → w ≤ 2) (hN : gN9 s0) {q9 : Nat} {g0 : Nat → Int64} (hf9 : f q9 = .inl (cy 2, 1, .inr (.inl g0))) : gH9 l s0 D yL_tag cL_tag 4 (some .int) [(0, 9, 12, 13), (0, 9, 15, 27)] 9 2 12 [.ref (bk 0), .int x, .ref q9] (L ++ [q9]) f (wQ cy (bk 0) q9 Rl) := by
  refine gH9.of (own := RL) hE hl (by decide +kernel) rfl rfl (Nat.le_of_ble_eq_true rfl) (fun p9 e9 s9 m9 a99 b99 t99 c9 C hr ht => ?_)
  refine G.weak (ls' := [some (.ref (bk 0)), some (.int x), some (.ref q9), none]) ?_ rfl (fun _ _ h => h)
  obtain ⟨b0, A0', I0', hr0⟩ := hex
  have hco : gH (L ++ [q9]) f (bk 0) (.inr (5, [.ref (bk 1), .ref (bk 2), .ref (bk 6), .ref (bk 7), .ref (bk 8), .ref (bk 10), .int (I 25), .int (I 26)])) := hR.co.of (List.mem_append_left _ hR.co.1) rfl
  refine g_aload_n (n := 1) C dL_tag_0 rfl (Or.inr ⟨_, rfl⟩) rfl ?_
  refine g_iconst (n := 2) (v := nI 0) C dL_tag_1 rfl rfl ?_
  refine g_aload_n (n := 3) C dL_tag_2 rfl (Or.inr ⟨_, rfl⟩) rfl ?_
  refine g_iload_n (n := 4) C dL_tag_3 rfl rfl ?_
  refine g_VXH (n := 7) (rest := [.int (nI 0), .ref q9]) C (hM.fr [q9]) dL_tag_4 kM_X5_tag kW_L_61 kV_X5_tag hco rfl rfl rfl (Nat.le_of_ble_eq_true rfl) ⟨by decide, by decide⟩ ⟨by decide, by decide⟩ rfl (fun E hpx => by
      obtain ⟨w, hw0, hwT, h27, rfl, -, -⟩ := hpx b0 A0' I0' hr0
      have hwT : w ≤ 2 := hwT
      have hwN := hW _ _ _ w hr0 h27 hw0 hwT
      have hall : ∀ b A1 I1, Rl b A1 I1 → I1 27 = nI w ∧ A1 = A ∧ I1 = va_up I 27 (nI w) := fun b A1 I1 hr => by
        obtain ⟨w2, g1, g2, g3, g4, g5, g6⟩ := hpx b A1 I1 hr
        have e := exj_IS hw0 hwT g1 g2 g4
        subst e
        exact ⟨g3, g5, g6⟩
      rcases (show w = 1 ∨ w = 2 by omega) with rfl | rfl
      · refine ⟨xI, [], ⟨0, 9, 12, 13⟩, [⟨0, 9, 15, 27⟩], ht, (fun z hz => absurd hz List.not_mem_nil), by decide, by decide, (List.mem_of_getElem? (i := 215) (by decide +kernel)), (List.mem_of_getElem? (i := 229) (by decide +kernel)), fun q => ?_⟩
        refine g_astore_n (n := 13) (ls' := [_, _, _, _]) C dL_tag_12 (Or.inr ⟨_, rfl⟩) rfl (by decide) rfl ?_
        refine g_iconst (n := 14) (v := nI 1) C dL_tag_13 rfl rfl ?_
        refine G.xw ?_
        refine g_iret C hr dL_tag_14 ?_ ⟨by decide, by decide⟩
        refine ⟨L, g0, rfl, hf9, 1, by decide, rfl, fun b A1 I1 hr => ?_⟩
        obtain ⟨a1, a2, a3⟩ := hall b A1 I1 hr
        exact ⟨a1, fun h => absurd h (by decide), by rw [a2, a3]; exact CW.rd hR hB9 hC9⟩
      · refine ⟨xS, [⟨0, 9, 12, 13⟩], ⟨0, 9, 15, 27⟩, [], ht, (fun z hz => by rw [List.mem_singleton.mp hz]; exact Or.inr ⟨by decide, xI, (List.mem_of_getElem? (i := 215) (by decide +kernel)), hN.2.1⟩), by decide, by decide, (List.mem_of_getElem? (i := 340) (by decide +kernel)), (List.mem_of_getElem? (i := 351) (by decide +kernel)), fun q => ?_⟩
        refine g_astore_n (n := 16) (ls' := [_, _, _, _]) C dL_tag_15 (Or.inr ⟨_, rfl⟩) rfl (by decide) rfl ?_
        refine g_iconst (n := 17) (v := nI 2) C dL_tag_16 rfl rfl ?_
        refine G.xw ?_
        refine g_iret C hr dL_tag_17 ?_ ⟨by decide, by decide⟩
        refine ⟨L, g0, rfl, hf9, 2, by decide, rfl, fun b A1 I1 hr => ?_⟩
        obtain ⟨a1, a2, a3⟩ := hall b A1 I1 hr
        exact ⟨a1, fun h => absurd h (by decide), by rw [a2, a3]; exact CW.rd hR hB9 hC9⟩) (fun v9 L9 f9 hq => ?_)
  obtain ⟨L1, f1, hq, rfl, e1, e2⟩ := hq
  obtain ⟨-, rfl, -⟩ := hq b0 A0' I0' hr0
  have hout : gH (L1 ++ [q9]) f9 q9 (.inl (cy 2, 1, .inr (.inl g0))) := ⟨List.mem_append_right _ List.mem_cons_self, (e2 q9 List.mem_cons_self).trans hf9⟩
  refine G.sk (st' := [_, _, _]) rfl ?_
  refine g_i2l (n := 8) C dL_tag_7 rfl ?_
  refine g_last (n := 9) C dL_tag_8 hout rfl (by omega) (by decide) rfl ?_
  refine g_goto (tgt := 18) C dL_tag_9 (by decide) ?_
  refine g_iconst (n := 19) (v := nI 0) C dL_tag_18 rfl rfl ?_
  refine G.xw ?_
  refine g_iret C hr dL_tag_19 ?_ ⟨by decide, by decide⟩
  refine ⟨L1, vp_updL g0 0 b0.toInt64, rfl, va_up_self _ _ _, 0, by decide, rfl, fun b A1 I1 hr => ?_⟩
  obtain ⟨h27, hv, hcw⟩ := hq b A1 I1 hr
  cases hv
  exact ⟨h27, fun _ => if_pos rfl, hcw.ext (fun a ha => (va_up_ne _ _ (show a ≠ q9 from fun z => (e1 a ha).2 (List.mem_singleton.mpr z))).trans (e1 a ha).1)⟩
theorem kH_untag : gwH yL_untag cL_untag 4 (some .int) [(0, 9, 12, 13)] 3 := ⟨⟨(List.mem_of_getElem? (i := 649) (by decide +kernel)), by decide +kernel⟩, (List.mem_of_getElem? (i := 64) (by decide +kernel)), ⟨by decide +kernel, by decide +kernel⟩, by decide +kernel⟩
theorem kT_untag : gwS yL_untag := (List.mem_of_getElem? (i := 648) (by decide +kernel))
theorem kw_untag {l : Launch} {s0 : State} {D : va_G} {cy : Nat → ClassId} (hE : gE s0 D cy) (hl : l.stackTraces = false) {L : List Nat} {f : gF} {bk : Nat → Nat} {n : Nat} {X : Nat → va_E} {Is : Nat → Option iT} {PR PL : Nat → Nat} {S A : Nat → Nat → Int32} {I : Nat → Int32} (hR : RC cy bk n X Is PR PL S A I L f) (hB9 : rmB n I) (hC9 : pCt n A S) (x : Int32) {Rl : Int32 → (Nat → Nat → Int32) → (Nat → Int32) → Prop} (hM : gX l s0 D yX5_untag cX5_untag 3 (some .int) 8 2 12 [.ref (bk 0), .int x] L f (uQ cy (bk 0) Rl) (uX [xI, xS] A I Rl)) (hex : ∃ b A1 I1, Rl b A1 I1) (hW : ∀ b A1 I1 w, Rl b A1 I1 → I1 27 = nI w → 0 < w → w ≤ 2 → w ≤ 1) (hN : gN9 s0) {q9 : Nat} {g0 : Nat → Int64} (hf9 : f q9 = .inl (cy 2, 1, .inr (.inl g0))) : gH9 l s0 D yL_untag cL_untag 4 (some .int) [(0, 9, 12, 13)] 9 2 12 [.ref (bk 0), .int x, .ref q9] (L ++ [q9]) f (wQ cy (bk 0) q9 Rl) := by
  refine gH9.of (own := RL) hE hl (by decide +kernel) rfl rfl (Nat.le_of_ble_eq_true rfl) (fun p9 e9 s9 m9 a99 b99 t99 c9 C hr ht => ?_)
  refine G.weak (ls' := [some (.ref (bk 0)), some (.int x), some (.ref q9), none]) ?_ rfl (fun _ _ h => h)
  obtain ⟨b0, A0', I0', hr0⟩ := hex
  have hco : gH (L ++ [q9]) f (bk 0) (.inr (5, [.ref (bk 1), .ref (bk 2), .ref (bk 6), .ref (bk 7), .ref (bk 8), .ref (bk 10), .int (I 25), .int (I 26)])) := hR.co.of (List.mem_append_left _ hR.co.1) rfl
  refine g_aload_n (n := 1) C dL_untag_0 rfl (Or.inr ⟨_, rfl⟩) rfl ?_
  refine g_iconst (n := 2) (v := nI 0) C dL_untag_1 rfl rfl ?_
  refine g_aload_n (n := 3) C dL_untag_2 rfl (Or.inr ⟨_, rfl⟩) rfl ?_
  refine g_iload_n (n := 4) C dL_untag_3 rfl rfl ?_
  refine g_VXH (n := 7) (rest := [.int (nI 0), .ref q9]) C (hM.fr [q9]) dL_untag_4 kM_X5_untag kW_L_64 kV_X5_untag hco rfl rfl rfl (Nat.le_of_ble_eq_true rfl) ⟨by decide, by decide⟩ ⟨by decide, by decide⟩ rfl (fun E hpx => by
      obtain ⟨w, hw0, hwT, h27, rfl, -, -⟩ := hpx b0 A0' I0' hr0
      have hwT : w ≤ 2 := hwT
      have hwN := hW _ _ _ w hr0 h27 hw0 hwT
      have hall : ∀ b A1 I1, Rl b A1 I1 → I1 27 = nI w ∧ A1 = A ∧ I1 = va_up I 27 (nI w) := fun b A1 I1 hr => by
        obtain ⟨w2, g1, g2, g3, g4, g5, g6⟩ := hpx b A1 I1 hr
        have e := exj_IS hw0 hwT g1 g2 g4
        subst e
        exact ⟨g3, g5, g6⟩
      rcases (show w = 1 by omega) with rfl
      · refine ⟨xI, [], ⟨0, 9, 12, 13⟩, [], ht, (fun z hz => absurd hz List.not_mem_nil), by decide, by decide, (List.mem_of_getElem? (i := 215) (by decide +kernel)), (List.mem_of_getElem? (i := 229) (by decide +kernel)), fun q => ?_⟩
        refine g_astore_n (n := 13) (ls' := [_, _, _, _]) C dL_untag_12 (Or.inr ⟨_, rfl⟩) rfl (by decide) rfl ?_
        refine g_iconst (n := 14) (v := nI 1) C dL_untag_13 rfl rfl ?_
        refine G.xw ?_
        refine g_iret C hr dL_untag_14 ?_ ⟨by decide, by decide⟩
        refine ⟨L, g0, rfl, hf9, 1, by decide, rfl, fun b A1 I1 hr => ?_⟩
        obtain ⟨a1, a2, a3⟩ := hall b A1 I1 hr
        exact ⟨a1, fun h => absurd h (by decide), by rw [a2, a3]; exact CW.rd hR hB9 hC9⟩) (fun v9 L9 f9 hq => ?_)
  obtain ⟨L1, f1, hq, rfl, e1, e2⟩ := hq
  obtain ⟨-, rfl, -⟩ := hq b0 A0' I0' hr0
  have hout : gH (L1 ++ [q9]) f9 q9 (.inl (cy 2, 1, .inr (.inl g0))) := ⟨List.mem_append_right _ List.mem_cons_self, (e2 q9 List.mem_cons_self).trans hf9⟩
  refine G.sk (st' := [_, _, _]) rfl ?_
  refine g_i2l (n := 8) C dL_untag_7 rfl ?_
  refine g_last (n := 9) C dL_untag_8 hout rfl (by omega) (by decide) rfl ?_
  refine g_goto (tgt := 15) C dL_untag_9 (by decide) ?_
  refine g_iconst (n := 16) (v := nI 0) C dL_untag_15 rfl rfl ?_
  refine G.xw ?_
  refine g_iret C hr dL_untag_16 ?_ ⟨by decide, by decide⟩
  refine ⟨L1, vp_updL g0 0 b0.toInt64, rfl, va_up_self _ _ _, 0, by decide, rfl, fun b A1 I1 hr => ?_⟩
  obtain ⟨h27, hv, hcw⟩ := hq b A1 I1 hr
  cases hv
  exact ⟨h27, fun _ => if_pos rfl, hcw.ext (fun a ha => (va_up_ne _ _ (show a ≠ q9 from fun z => (e1 a ha).2 (List.mem_singleton.mpr z))).trans (e1 a ha).1)⟩
theorem kH_tagged : gwH yL_tagged cL_tagged 4 (some .int) [(0, 9, 12, 13)] 3 := ⟨⟨(List.mem_of_getElem? (i := 656) (by decide +kernel)), by decide +kernel⟩, (List.mem_of_getElem? (i := 64) (by decide +kernel)), ⟨by decide +kernel, by decide +kernel⟩, by decide +kernel⟩
theorem kT_tagged : gwS yL_tagged := (List.mem_of_getElem? (i := 655) (by decide +kernel))
theorem kw_tagged {l : Launch} {s0 : State} {D : va_G} {cy : Nat → ClassId} (hE : gE s0 D cy) (hl : l.stackTraces = false) {L : List Nat} {f : gF} {bk : Nat → Nat} {n : Nat} {X : Nat → va_E} {Is : Nat → Option iT} {PR PL : Nat → Nat} {S A : Nat → Nat → Int32} {I : Nat → Int32} (hR : RC cy bk n X Is PR PL S A I L f) (hB9 : rmB n I) (hC9 : pCt n A S) (x : Int32) {Rl : Int32 → (Nat → Nat → Int32) → (Nat → Int32) → Prop} (hM : gX l s0 D yX5_tagged cX5_tagged 2 (some .int) 8 2 12 [.ref (bk 0), .int x] L f (uQ cy (bk 0) Rl) (uX [xI, xS] A I Rl)) (hex : ∃ b A1 I1, Rl b A1 I1) (hW : ∀ b A1 I1 w, Rl b A1 I1 → I1 27 = nI w → 0 < w → w ≤ 2 → w ≤ 1) (hN : gN9 s0) {q9 : Nat} {g0 : Nat → Int64} (hf9 : f q9 = .inl (cy 2, 1, .inr (.inl g0))) : gH9 l s0 D yL_tagged cL_tagged 4 (some .int) [(0, 9, 12, 13)] 9 2 12 [.ref (bk 0), .int x, .ref q9] (L ++ [q9]) f (wQ cy (bk 0) q9 Rl) := by
  refine gH9.of (own := RL) hE hl (by decide +kernel) rfl rfl (Nat.le_of_ble_eq_true rfl) (fun p9 e9 s9 m9 a99 b99 t99 c9 C hr ht => ?_)
  refine G.weak (ls' := [some (.ref (bk 0)), some (.int x), some (.ref q9), none]) ?_ rfl (fun _ _ h => h)
  obtain ⟨b0, A0', I0', hr0⟩ := hex
  have hco : gH (L ++ [q9]) f (bk 0) (.inr (5, [.ref (bk 1), .ref (bk 2), .ref (bk 6), .ref (bk 7), .ref (bk 8), .ref (bk 10), .int (I 25), .int (I 26)])) := hR.co.of (List.mem_append_left _ hR.co.1) rfl
  refine g_aload_n (n := 1) C dL_tagged_0 rfl (Or.inr ⟨_, rfl⟩) rfl ?_
  refine g_iconst (n := 2) (v := nI 0) C dL_tagged_1 rfl rfl ?_
  refine g_aload_n (n := 3) C dL_tagged_2 rfl (Or.inr ⟨_, rfl⟩) rfl ?_
  refine g_iload_n (n := 4) C dL_tagged_3 rfl rfl ?_
  refine g_VXH (n := 7) (rest := [.int (nI 0), .ref q9]) C (hM.fr [q9]) dL_tagged_4 kM_X5_tagged kW_L_67 kV_X5_tagged hco rfl rfl rfl (Nat.le_of_ble_eq_true rfl) ⟨by decide, by decide⟩ ⟨by decide, by decide⟩ rfl (fun E hpx => by
      obtain ⟨w, hw0, hwT, h27, rfl, -, -⟩ := hpx b0 A0' I0' hr0
      have hwT : w ≤ 2 := hwT
      have hwN := hW _ _ _ w hr0 h27 hw0 hwT
      have hall : ∀ b A1 I1, Rl b A1 I1 → I1 27 = nI w ∧ A1 = A ∧ I1 = va_up I 27 (nI w) := fun b A1 I1 hr => by
        obtain ⟨w2, g1, g2, g3, g4, g5, g6⟩ := hpx b A1 I1 hr
        have e := exj_IS hw0 hwT g1 g2 g4
        subst e
        exact ⟨g3, g5, g6⟩
      rcases (show w = 1 by omega) with rfl
      · refine ⟨xI, [], ⟨0, 9, 12, 13⟩, [], ht, (fun z hz => absurd hz List.not_mem_nil), by decide, by decide, (List.mem_of_getElem? (i := 215) (by decide +kernel)), (List.mem_of_getElem? (i := 229) (by decide +kernel)), fun q => ?_⟩
        refine g_astore_n (n := 13) (ls' := [_, _, _, _]) C dL_tagged_12 (Or.inr ⟨_, rfl⟩) rfl (by decide) rfl ?_
        refine g_iconst (n := 14) (v := nI 1) C dL_tagged_13 rfl rfl ?_
        refine G.xw ?_
        refine g_iret C hr dL_tagged_14 ?_ ⟨by decide, by decide⟩
        refine ⟨L, g0, rfl, hf9, 1, by decide, rfl, fun b A1 I1 hr => ?_⟩
        obtain ⟨a1, a2, a3⟩ := hall b A1 I1 hr
        exact ⟨a1, fun h => absurd h (by decide), by rw [a2, a3]; exact CW.rd hR hB9 hC9⟩) (fun v9 L9 f9 hq => ?_)
  obtain ⟨L1, f1, hq, rfl, e1, e2⟩ := hq
  obtain ⟨-, rfl, -⟩ := hq b0 A0' I0' hr0
  have hout : gH (L1 ++ [q9]) f9 q9 (.inl (cy 2, 1, .inr (.inl g0))) := ⟨List.mem_append_right _ List.mem_cons_self, (e2 q9 List.mem_cons_self).trans hf9⟩
  refine G.sk (st' := [_, _, _]) rfl ?_
  refine g_i2l (n := 8) C dL_tagged_7 rfl ?_
  refine g_last (n := 9) C dL_tagged_8 hout rfl (by omega) (by decide) rfl ?_
  refine g_goto (tgt := 15) C dL_tagged_9 (by decide) ?_
  refine g_iconst (n := 16) (v := nI 0) C dL_tagged_15 rfl rfl ?_
  refine G.xw ?_
  refine g_iret C hr dL_tagged_16 ?_ ⟨by decide, by decide⟩
  refine ⟨L1, vp_updL g0 0 b0.toInt64, rfl, va_up_self _ _ _, 0, by decide, rfl, fun b A1 I1 hr => ?_⟩
  obtain ⟨h27, hv, hcw⟩ := hq b A1 I1 hr
  cases hv
  exact ⟨h27, fun _ => if_pos rfl, hcw.ext (fun a ha => (va_up_ne _ _ (show a ≠ q9 from fun z => (e1 a ha).2 (List.mem_singleton.mpr z))).trans (e1 a ha).1)⟩
theorem kH_squash : gwH yL_squash cL_squash 5 (some .int) [(0, 10, 13, 13), (0, 10, 17, 27)] 4 := ⟨⟨(List.mem_of_getElem? (i := 663) (by decide +kernel)), by decide +kernel⟩, (List.mem_of_getElem? (i := 64) (by decide +kernel)), ⟨by decide +kernel, by decide +kernel⟩, by decide +kernel⟩
theorem kT_squash : gwS yL_squash := (List.mem_of_getElem? (i := 662) (by decide +kernel))
theorem kw_squash {l : Launch} {s0 : State} {D : va_G} {cy : Nat → ClassId} (hE : gE s0 D cy) (hl : l.stackTraces = false) {L : List Nat} {f : gF} {bk : Nat → Nat} {n : Nat} {X : Nat → va_E} {Is : Nat → Option iT} {PR PL : Nat → Nat} {S A : Nat → Nat → Int32} {I : Nat → Int32} (hR : RC cy bk n X Is PR PL S A I L f) (hB9 : rmB n I) (hC9 : pCt n A S) (x y : Int32) {Rl : Int32 → (Nat → Nat → Int32) → (Nat → Int32) → Prop} (hM : gX l s0 D yX5_squash cX5_squash 5 (some .int) 8 8 54 [.ref (bk 0), .int x, .int y] L f (uQ cy (bk 0) Rl) (uX [xI, xS] A I Rl)) (hex : ∃ b A1 I1, Rl b A1 I1) (hW : ∀ b A1 I1 w, Rl b A1 I1 → I1 27 = nI w → 0 < w → w ≤ 2 → w ≤ 2) (hN : gN9 s0) {q9 : Nat} {g0 : Nat → Int64} (hf9 : f q9 = .inl (cy 2, 1, .inr (.inl g0))) : gH9 l s0 D yL_squash cL_squash 5 (some .int) [(0, 10, 13, 13), (0, 10, 17, 27)] 9 8 54 [.ref (bk 0), .int x, .int y, .ref q9] (L ++ [q9]) f (wQ cy (bk 0) q9 Rl) := by
  refine gH9.of (own := RL) hE hl (by decide +kernel) rfl rfl (Nat.le_of_ble_eq_true rfl) (fun p9 e9 s9 m9 a99 b99 t99 c9 C hr ht => ?_)
  refine G.weak (ls' := [some (.ref (bk 0)), some (.int x), some (.int y), some (.ref q9), none]) ?_ rfl (fun _ _ h => h)
  obtain ⟨b0, A0', I0', hr0⟩ := hex
  have hco : gH (L ++ [q9]) f (bk 0) (.inr (5, [.ref (bk 1), .ref (bk 2), .ref (bk 6), .ref (bk 7), .ref (bk 8), .ref (bk 10), .int (I 25), .int (I 26)])) := hR.co.of (List.mem_append_left _ hR.co.1) rfl
  refine g_aload_n (n := 1) C dL_squash_0 rfl (Or.inr ⟨_, rfl⟩) rfl ?_
  refine g_iconst (n := 2) (v := nI 0) C dL_squash_1 rfl rfl ?_
  refine g_aload_n (n := 3) C dL_squash_2 rfl (Or.inr ⟨_, rfl⟩) rfl ?_
  refine g_iload_n (n := 4) C dL_squash_3 rfl rfl ?_
  refine g_iload_n (n := 5) C dL_squash_4 rfl rfl ?_
  refine g_VXH (n := 8) (rest := [.int (nI 0), .ref q9]) C (hM.fr [q9]) dL_squash_5 kM_X5_squash kW_L_70 kV_X5_squash hco rfl rfl rfl (Nat.le_of_ble_eq_true rfl) ⟨by decide, by decide⟩ ⟨by decide, by decide⟩ rfl (fun E hpx => by
      obtain ⟨w, hw0, hwT, h27, rfl, -, -⟩ := hpx b0 A0' I0' hr0
      have hwT : w ≤ 2 := hwT
      have hwN := hW _ _ _ w hr0 h27 hw0 hwT
      have hall : ∀ b A1 I1, Rl b A1 I1 → I1 27 = nI w ∧ A1 = A ∧ I1 = va_up I 27 (nI w) := fun b A1 I1 hr => by
        obtain ⟨w2, g1, g2, g3, g4, g5, g6⟩ := hpx b A1 I1 hr
        have e := exj_IS hw0 hwT g1 g2 g4
        subst e
        exact ⟨g3, g5, g6⟩
      rcases (show w = 1 ∨ w = 2 by omega) with rfl | rfl
      · refine ⟨xI, [], ⟨0, 10, 13, 13⟩, [⟨0, 10, 17, 27⟩], ht, (fun z hz => absurd hz List.not_mem_nil), by decide, by decide, (List.mem_of_getElem? (i := 215) (by decide +kernel)), (List.mem_of_getElem? (i := 229) (by decide +kernel)), fun q => ?_⟩
        refine g_astore (n := 15) (ls' := [_, _, _, _, _]) C dL_squash_13 (Or.inr ⟨_, rfl⟩) rfl (by decide) rfl ?_
        refine g_iconst (n := 16) (v := nI 1) C dL_squash_15 rfl rfl ?_
        refine G.xw ?_
        refine g_iret C hr dL_squash_16 ?_ ⟨by decide, by decide⟩
        refine ⟨L, g0, rfl, hf9, 1, by decide, rfl, fun b A1 I1 hr => ?_⟩
        obtain ⟨a1, a2, a3⟩ := hall b A1 I1 hr
        exact ⟨a1, fun h => absurd h (by decide), by rw [a2, a3]; exact CW.rd hR hB9 hC9⟩
      · refine ⟨xS, [⟨0, 10, 13, 13⟩], ⟨0, 10, 17, 27⟩, [], ht, (fun z hz => by rw [List.mem_singleton.mp hz]; exact Or.inr ⟨by decide, xI, (List.mem_of_getElem? (i := 215) (by decide +kernel)), hN.2.1⟩), by decide, by decide, (List.mem_of_getElem? (i := 340) (by decide +kernel)), (List.mem_of_getElem? (i := 351) (by decide +kernel)), fun q => ?_⟩
        refine g_astore (n := 19) (ls' := [_, _, _, _, _]) C dL_squash_17 (Or.inr ⟨_, rfl⟩) rfl (by decide) rfl ?_
        refine g_iconst (n := 20) (v := nI 2) C dL_squash_19 rfl rfl ?_
        refine G.xw ?_
        refine g_iret C hr dL_squash_20 ?_ ⟨by decide, by decide⟩
        refine ⟨L, g0, rfl, hf9, 2, by decide, rfl, fun b A1 I1 hr => ?_⟩
        obtain ⟨a1, a2, a3⟩ := hall b A1 I1 hr
        exact ⟨a1, fun h => absurd h (by decide), by rw [a2, a3]; exact CW.rd hR hB9 hC9⟩) (fun v9 L9 f9 hq => ?_)
  obtain ⟨L1, f1, hq, rfl, e1, e2⟩ := hq
  obtain ⟨-, rfl, -⟩ := hq b0 A0' I0' hr0
  have hout : gH (L1 ++ [q9]) f9 q9 (.inl (cy 2, 1, .inr (.inl g0))) := ⟨List.mem_append_right _ List.mem_cons_self, (e2 q9 List.mem_cons_self).trans hf9⟩
  refine G.sk (st' := [_, _, _]) rfl ?_
  refine g_i2l (n := 9) C dL_squash_8 rfl ?_
  refine g_last (n := 10) C dL_squash_9 hout rfl (by omega) (by decide) rfl ?_
  refine g_goto (tgt := 21) C dL_squash_10 (by decide) ?_
  refine g_iconst (n := 22) (v := nI 0) C dL_squash_21 rfl rfl ?_
  refine G.xw ?_
  refine g_iret C hr dL_squash_22 ?_ ⟨by decide, by decide⟩
  refine ⟨L1, vp_updL g0 0 b0.toInt64, rfl, va_up_self _ _ _, 0, by decide, rfl, fun b A1 I1 hr => ?_⟩
  obtain ⟨h27, hv, hcw⟩ := hq b A1 I1 hr
  cases hv
  exact ⟨h27, fun _ => if_pos rfl, hcw.ext (fun a ha => (va_up_ne _ _ (show a ≠ q9 from fun z => (e1 a ha).2 (List.mem_singleton.mpr z))).trans (e1 a ha).1)⟩
theorem kH_rebase : gwH yL_rebase cL_rebase 5 (some .int) [(0, 10, 13, 13), (0, 10, 17, 27)] 4 := ⟨⟨(List.mem_of_getElem? (i := 685) (by decide +kernel)), by decide +kernel⟩, (List.mem_of_getElem? (i := 64) (by decide +kernel)), ⟨by decide +kernel, by decide +kernel⟩, by decide +kernel⟩
theorem kT_rebase : gwS yL_rebase := (List.mem_of_getElem? (i := 684) (by decide +kernel))
theorem kw_rebase {l : Launch} {s0 : State} {D : va_G} {cy : Nat → ClassId} (hE : gE s0 D cy) (hl : l.stackTraces = false) {L : List Nat} {f : gF} {bk : Nat → Nat} {n : Nat} {X : Nat → va_E} {Is : Nat → Option iT} {PR PL : Nat → Nat} {S A : Nat → Nat → Int32} {I : Nat → Int32} (hR : RC cy bk n X Is PR PL S A I L f) (hB9 : rmB n I) (hC9 : pCt n A S) (x y : Int32) {Rl : Int32 → (Nat → Nat → Int32) → (Nat → Int32) → Prop} (hM : gX l s0 D yX5_rebase cX5_rebase 6 (some .int) 8 47 414 [.ref (bk 0), .int x, .int y] L f (uQ cy (bk 0) Rl) (uX [xI, xS] A I Rl)) (hex : ∃ b A1 I1, Rl b A1 I1) (hW : ∀ b A1 I1 w, Rl b A1 I1 → I1 27 = nI w → 0 < w → w ≤ 2 → w ≤ 2) (hN : gN9 s0) {q9 : Nat} {g0 : Nat → Int64} (hf9 : f q9 = .inl (cy 2, 1, .inr (.inl g0))) : gH9 l s0 D yL_rebase cL_rebase 5 (some .int) [(0, 10, 13, 13), (0, 10, 17, 27)] 9 47 414 [.ref (bk 0), .int x, .int y, .ref q9] (L ++ [q9]) f (wQ cy (bk 0) q9 Rl) := by
  refine gH9.of (own := RL) hE hl (by decide +kernel) rfl rfl (Nat.le_of_ble_eq_true rfl) (fun p9 e9 s9 m9 a99 b99 t99 c9 C hr ht => ?_)
  refine G.weak (ls' := [some (.ref (bk 0)), some (.int x), some (.int y), some (.ref q9), none]) ?_ rfl (fun _ _ h => h)
  obtain ⟨b0, A0', I0', hr0⟩ := hex
  have hco : gH (L ++ [q9]) f (bk 0) (.inr (5, [.ref (bk 1), .ref (bk 2), .ref (bk 6), .ref (bk 7), .ref (bk 8), .ref (bk 10), .int (I 25), .int (I 26)])) := hR.co.of (List.mem_append_left _ hR.co.1) rfl
  refine g_aload_n (n := 1) C dL_rebase_0 rfl (Or.inr ⟨_, rfl⟩) rfl ?_
  refine g_iconst (n := 2) (v := nI 0) C dL_rebase_1 rfl rfl ?_
  refine g_aload_n (n := 3) C dL_rebase_2 rfl (Or.inr ⟨_, rfl⟩) rfl ?_
  refine g_iload_n (n := 4) C dL_rebase_3 rfl rfl ?_
  refine g_iload_n (n := 5) C dL_rebase_4 rfl rfl ?_
  refine g_VXH (n := 8) (rest := [.int (nI 0), .ref q9]) C (hM.fr [q9]) dL_rebase_5 kM_X5_rebase kW_L_73 kV_X5_rebase hco rfl rfl rfl (Nat.le_of_ble_eq_true rfl) ⟨by decide, by decide⟩ ⟨by decide, by decide⟩ rfl (fun E hpx => by
      obtain ⟨w, hw0, hwT, h27, rfl, -, -⟩ := hpx b0 A0' I0' hr0
      have hwT : w ≤ 2 := hwT
      have hwN := hW _ _ _ w hr0 h27 hw0 hwT
      have hall : ∀ b A1 I1, Rl b A1 I1 → I1 27 = nI w ∧ A1 = A ∧ I1 = va_up I 27 (nI w) := fun b A1 I1 hr => by
        obtain ⟨w2, g1, g2, g3, g4, g5, g6⟩ := hpx b A1 I1 hr
        have e := exj_IS hw0 hwT g1 g2 g4
        subst e
        exact ⟨g3, g5, g6⟩
      rcases (show w = 1 ∨ w = 2 by omega) with rfl | rfl
      · refine ⟨xI, [], ⟨0, 10, 13, 13⟩, [⟨0, 10, 17, 27⟩], ht, (fun z hz => absurd hz List.not_mem_nil), by decide, by decide, (List.mem_of_getElem? (i := 215) (by decide +kernel)), (List.mem_of_getElem? (i := 229) (by decide +kernel)), fun q => ?_⟩
        refine g_astore (n := 15) (ls' := [_, _, _, _, _]) C dL_rebase_13 (Or.inr ⟨_, rfl⟩) rfl (by decide) rfl ?_
        refine g_iconst (n := 16) (v := nI 1) C dL_rebase_15 rfl rfl ?_
        refine G.xw ?_
        refine g_iret C hr dL_rebase_16 ?_ ⟨by decide, by decide⟩
        refine ⟨L, g0, rfl, hf9, 1, by decide, rfl, fun b A1 I1 hr => ?_⟩
        obtain ⟨a1, a2, a3⟩ := hall b A1 I1 hr
        exact ⟨a1, fun h => absurd h (by decide), by rw [a2, a3]; exact CW.rd hR hB9 hC9⟩
      · refine ⟨xS, [⟨0, 10, 13, 13⟩], ⟨0, 10, 17, 27⟩, [], ht, (fun z hz => by rw [List.mem_singleton.mp hz]; exact Or.inr ⟨by decide, xI, (List.mem_of_getElem? (i := 215) (by decide +kernel)), hN.2.1⟩), by decide, by decide, (List.mem_of_getElem? (i := 340) (by decide +kernel)), (List.mem_of_getElem? (i := 351) (by decide +kernel)), fun q => ?_⟩
        refine g_astore (n := 19) (ls' := [_, _, _, _, _]) C dL_rebase_17 (Or.inr ⟨_, rfl⟩) rfl (by decide) rfl ?_
        refine g_iconst (n := 20) (v := nI 2) C dL_rebase_19 rfl rfl ?_
        refine G.xw ?_
        refine g_iret C hr dL_rebase_20 ?_ ⟨by decide, by decide⟩
        refine ⟨L, g0, rfl, hf9, 2, by decide, rfl, fun b A1 I1 hr => ?_⟩
        obtain ⟨a1, a2, a3⟩ := hall b A1 I1 hr
        exact ⟨a1, fun h => absurd h (by decide), by rw [a2, a3]; exact CW.rd hR hB9 hC9⟩) (fun v9 L9 f9 hq => ?_)
  obtain ⟨L1, f1, hq, rfl, e1, e2⟩ := hq
  obtain ⟨-, rfl, -⟩ := hq b0 A0' I0' hr0
  have hout : gH (L1 ++ [q9]) f9 q9 (.inl (cy 2, 1, .inr (.inl g0))) := ⟨List.mem_append_right _ List.mem_cons_self, (e2 q9 List.mem_cons_self).trans hf9⟩
  refine G.sk (st' := [_, _, _]) rfl ?_
  refine g_i2l (n := 9) C dL_rebase_8 rfl ?_
  refine g_last (n := 10) C dL_rebase_9 hout rfl (by omega) (by decide) rfl ?_
  refine g_goto (tgt := 21) C dL_rebase_10 (by decide) ?_
  refine g_iconst (n := 22) (v := nI 0) C dL_rebase_21 rfl rfl ?_
  refine G.xw ?_
  refine g_iret C hr dL_rebase_22 ?_ ⟨by decide, by decide⟩
  refine ⟨L1, vp_updL g0 0 b0.toInt64, rfl, va_up_self _ _ _, 0, by decide, rfl, fun b A1 I1 hr => ?_⟩
  obtain ⟨h27, hv, hcw⟩ := hq b A1 I1 hr
  cases hv
  exact ⟨h27, fun _ => if_pos rfl, hcw.ext (fun a ha => (va_up_ne _ _ (show a ≠ q9 from fun z => (e1 a ha).2 (List.mem_singleton.mpr z))).trans (e1 a ha).1)⟩
theorem kH_prune : gwH yL_prune cL_prune 3 (some .int) [(0, 8, 11, 27)] 2 := ⟨⟨(List.mem_of_getElem? (i := 696) (by decide +kernel)), by decide +kernel⟩, (List.mem_of_getElem? (i := 64) (by decide +kernel)), ⟨by decide +kernel, by decide +kernel⟩, by decide +kernel⟩
theorem kT_prune : gwS yL_prune := (List.mem_of_getElem? (i := 695) (by decide +kernel))
theorem kw_prune {l : Launch} {s0 : State} {D : va_G} {cy : Nat → ClassId} (hE : gE s0 D cy) (hl : l.stackTraces = false) {L : List Nat} {f : gF} {bk : Nat → Nat} {n : Nat} {X : Nat → va_E} {Is : Nat → Option iT} {PR PL : Nat → Nat} {S A : Nat → Nat → Int32} {I : Nat → Int32} (hR : RC cy bk n X Is PR PL S A I L f) (hB9 : rmB n I) (hC9 : pCt n A S) {Rl : Int32 → (Nat → Nat → Int32) → (Nat → Int32) → Prop} (hM : gX l s0 D yX5_prune cX5_prune 4 (some .int) 8 1 6 [.ref (bk 0)] L f (uQ cy (bk 0) Rl) (uX [xS] A I Rl)) (hex : ∃ b A1 I1, Rl b A1 I1) (hW : ∀ b A1 I1 w, Rl b A1 I1 → I1 27 = nI w → 0 < w → w ≤ 1 → w ≤ 1) (hN : gN9 s0) {q9 : Nat} {g0 : Nat → Int64} (hf9 : f q9 = .inl (cy 2, 1, .inr (.inl g0))) : gH9 l s0 D yL_prune cL_prune 3 (some .int) [(0, 8, 11, 27)] 9 1 6 [.ref (bk 0), .ref q9] (L ++ [q9]) f (wQ cy (bk 0) q9 Rl) := by
  refine gH9.of (own := RL) hE hl (by decide +kernel) rfl rfl (Nat.le_of_ble_eq_true rfl) (fun p9 e9 s9 m9 a99 b99 t99 c9 C hr ht => ?_)
  refine G.weak (ls' := [some (.ref (bk 0)), some (.ref q9), none]) ?_ rfl (fun _ _ h => h)
  obtain ⟨b0, A0', I0', hr0⟩ := hex
  have hco : gH (L ++ [q9]) f (bk 0) (.inr (5, [.ref (bk 1), .ref (bk 2), .ref (bk 6), .ref (bk 7), .ref (bk 8), .ref (bk 10), .int (I 25), .int (I 26)])) := hR.co.of (List.mem_append_left _ hR.co.1) rfl
  refine g_aload_n (n := 1) C dL_prune_0 rfl (Or.inr ⟨_, rfl⟩) rfl ?_
  refine g_iconst (n := 2) (v := nI 0) C dL_prune_1 rfl rfl ?_
  refine g_aload_n (n := 3) C dL_prune_2 rfl (Or.inr ⟨_, rfl⟩) rfl ?_
  refine g_VXH (n := 6) (rest := [.int (nI 0), .ref q9]) C (hM.fr [q9]) dL_prune_3 kM_X5_prune kW_L_76 kV_X5_prune hco rfl rfl rfl (Nat.le_of_ble_eq_true rfl) ⟨by decide, by decide⟩ ⟨by decide, by decide⟩ rfl (fun E hpx => by
      obtain ⟨w, hw0, hwT, h27, rfl, -, -⟩ := hpx b0 A0' I0' hr0
      have hwT : w ≤ 1 := hwT
      have hwN := hW _ _ _ w hr0 h27 hw0 hwT
      have hall : ∀ b A1 I1, Rl b A1 I1 → I1 27 = nI w ∧ A1 = A ∧ I1 = va_up I 27 (nI w) := fun b A1 I1 hr => by
        obtain ⟨w2, g1, g2, g3, g4, g5, g6⟩ := hpx b A1 I1 hr
        have e := exj_S hw0 hwT g1 g2 g4
        subst e
        exact ⟨g3, g5, g6⟩
      rcases (show w = 1 by omega) with rfl
      · refine ⟨xS, [], ⟨0, 8, 11, 27⟩, [], ht, (fun z hz => absurd hz List.not_mem_nil), by decide, by decide, (List.mem_of_getElem? (i := 340) (by decide +kernel)), (List.mem_of_getElem? (i := 351) (by decide +kernel)), fun q => ?_⟩
        refine g_astore_n (n := 12) (ls' := [_, _, _]) C dL_prune_11 (Or.inr ⟨_, rfl⟩) rfl (by decide) rfl ?_
        refine g_iconst (n := 13) (v := nI 1) C dL_prune_12 rfl rfl ?_
        refine G.xw ?_
        refine g_iret C hr dL_prune_13 ?_ ⟨by decide, by decide⟩
        refine ⟨L, g0, rfl, hf9, 1, by decide, rfl, fun b A1 I1 hr => ?_⟩
        obtain ⟨a1, a2, a3⟩ := hall b A1 I1 hr
        exact ⟨a1, fun h => absurd h (by decide), by rw [a2, a3]; exact CW.rd hR hB9 hC9⟩) (fun v9 L9 f9 hq => ?_)
  obtain ⟨L1, f1, hq, rfl, e1, e2⟩ := hq
  obtain ⟨-, rfl, -⟩ := hq b0 A0' I0' hr0
  have hout : gH (L1 ++ [q9]) f9 q9 (.inl (cy 2, 1, .inr (.inl g0))) := ⟨List.mem_append_right _ List.mem_cons_self, (e2 q9 List.mem_cons_self).trans hf9⟩
  refine G.sk (st' := [_, _, _]) rfl ?_
  refine g_i2l (n := 7) C dL_prune_6 rfl ?_
  refine g_last (n := 8) C dL_prune_7 hout rfl (by omega) (by decide) rfl ?_
  refine g_goto (tgt := 14) C dL_prune_8 (by decide) ?_
  refine g_iconst (n := 15) (v := nI 0) C dL_prune_14 rfl rfl ?_
  refine G.xw ?_
  refine g_iret C hr dL_prune_15 ?_ ⟨by decide, by decide⟩
  refine ⟨L1, vp_updL g0 0 b0.toInt64, rfl, va_up_self _ _ _, 0, by decide, rfl, fun b A1 I1 hr => ?_⟩
  obtain ⟨h27, hv, hcw⟩ := hq b A1 I1 hr
  cases hv
  exact ⟨h27, fun _ => if_pos rfl, hcw.ext (fun a ha => (va_up_ne _ _ (show a ≠ q9 from fun z => (e1 a ha).2 (List.mem_singleton.mpr z))).trans (e1 a ha).1)⟩
theorem kH_parentOf : gwH yL_parentOf cL_parentOf 4 (some .int) [(0, 9, 12, 13)] 3 := ⟨⟨(List.mem_of_getElem? (i := 716) (by decide +kernel)), by decide +kernel⟩, (List.mem_of_getElem? (i := 64) (by decide +kernel)), ⟨by decide +kernel, by decide +kernel⟩, by decide +kernel⟩
theorem kT_parentOf : gwS yL_parentOf := (List.mem_of_getElem? (i := 715) (by decide +kernel))
theorem kw_parentOf {l : Launch} {s0 : State} {D : va_G} {cy : Nat → ClassId} (hE : gE s0 D cy) (hl : l.stackTraces = false) {L : List Nat} {f : gF} {bk : Nat → Nat} {n : Nat} {X : Nat → va_E} {Is : Nat → Option iT} {PR PL : Nat → Nat} {S A : Nat → Nat → Int32} {I : Nat → Int32} (hR : RC cy bk n X Is PR PL S A I L f) (hB9 : rmB n I) (hC9 : pCt n A S) (x : Int32) {Rl : Int32 → (Nat → Nat → Int32) → (Nat → Int32) → Prop} (hM : gX l s0 D yX5_parentOf cX5_parentOf 2 (some .int) 8 2 12 [.ref (bk 0), .int x] L f (uQ cy (bk 0) Rl) (uX [xI, xS] A I Rl)) (hex : ∃ b A1 I1, Rl b A1 I1) (hW : ∀ b A1 I1 w, Rl b A1 I1 → I1 27 = nI w → 0 < w → w ≤ 2 → w ≤ 1) (hN : gN9 s0) {q9 : Nat} {g0 : Nat → Int64} (hf9 : f q9 = .inl (cy 2, 1, .inr (.inl g0))) : gH9 l s0 D yL_parentOf cL_parentOf 4 (some .int) [(0, 9, 12, 13)] 9 2 12 [.ref (bk 0), .int x, .ref q9] (L ++ [q9]) f (wQ cy (bk 0) q9 Rl) := by
  refine gH9.of (own := RL) hE hl (by decide +kernel) rfl rfl (Nat.le_of_ble_eq_true rfl) (fun p9 e9 s9 m9 a99 b99 t99 c9 C hr ht => ?_)
  refine G.weak (ls' := [some (.ref (bk 0)), some (.int x), some (.ref q9), none]) ?_ rfl (fun _ _ h => h)
  obtain ⟨b0, A0', I0', hr0⟩ := hex
  have hco : gH (L ++ [q9]) f (bk 0) (.inr (5, [.ref (bk 1), .ref (bk 2), .ref (bk 6), .ref (bk 7), .ref (bk 8), .ref (bk 10), .int (I 25), .int (I 26)])) := hR.co.of (List.mem_append_left _ hR.co.1) rfl
  refine g_aload_n (n := 1) C dL_parentOf_0 rfl (Or.inr ⟨_, rfl⟩) rfl ?_
  refine g_iconst (n := 2) (v := nI 0) C dL_parentOf_1 rfl rfl ?_
  refine g_aload_n (n := 3) C dL_parentOf_2 rfl (Or.inr ⟨_, rfl⟩) rfl ?_
  refine g_iload_n (n := 4) C dL_parentOf_3 rfl rfl ?_
  refine g_VXH (n := 7) (rest := [.int (nI 0), .ref q9]) C (hM.fr [q9]) dL_parentOf_4 kM_X5_parentOf kW_L_79 kV_X5_parentOf hco rfl rfl rfl (Nat.le_of_ble_eq_true rfl) ⟨by decide, by decide⟩ ⟨by decide, by decide⟩ rfl (fun E hpx => by
      obtain ⟨w, hw0, hwT, h27, rfl, -, -⟩ := hpx b0 A0' I0' hr0
      have hwT : w ≤ 2 := hwT
      have hwN := hW _ _ _ w hr0 h27 hw0 hwT
      have hall : ∀ b A1 I1, Rl b A1 I1 → I1 27 = nI w ∧ A1 = A ∧ I1 = va_up I 27 (nI w) := fun b A1 I1 hr => by
        obtain ⟨w2, g1, g2, g3, g4, g5, g6⟩ := hpx b A1 I1 hr
        have e := exj_IS hw0 hwT g1 g2 g4
        subst e
        exact ⟨g3, g5, g6⟩
      rcases (show w = 1 by omega) with rfl
      · refine ⟨xI, [], ⟨0, 9, 12, 13⟩, [], ht, (fun z hz => absurd hz List.not_mem_nil), by decide, by decide, (List.mem_of_getElem? (i := 215) (by decide +kernel)), (List.mem_of_getElem? (i := 229) (by decide +kernel)), fun q => ?_⟩
        refine g_astore_n (n := 13) (ls' := [_, _, _, _]) C dL_parentOf_12 (Or.inr ⟨_, rfl⟩) rfl (by decide) rfl ?_
        refine g_iconst (n := 14) (v := nI 1) C dL_parentOf_13 rfl rfl ?_
        refine G.xw ?_
        refine g_iret C hr dL_parentOf_14 ?_ ⟨by decide, by decide⟩
        refine ⟨L, g0, rfl, hf9, 1, by decide, rfl, fun b A1 I1 hr => ?_⟩
        obtain ⟨a1, a2, a3⟩ := hall b A1 I1 hr
        exact ⟨a1, fun h => absurd h (by decide), by rw [a2, a3]; exact CW.rd hR hB9 hC9⟩) (fun v9 L9 f9 hq => ?_)
  obtain ⟨L1, f1, hq, rfl, e1, e2⟩ := hq
  obtain ⟨-, rfl, -⟩ := hq b0 A0' I0' hr0
  have hout : gH (L1 ++ [q9]) f9 q9 (.inl (cy 2, 1, .inr (.inl g0))) := ⟨List.mem_append_right _ List.mem_cons_self, (e2 q9 List.mem_cons_self).trans hf9⟩
  refine G.sk (st' := [_, _, _]) rfl ?_
  refine g_i2l (n := 8) C dL_parentOf_7 rfl ?_
  refine g_last (n := 9) C dL_parentOf_8 hout rfl (by omega) (by decide) rfl ?_
  refine g_goto (tgt := 15) C dL_parentOf_9 (by decide) ?_
  refine g_iconst (n := 16) (v := nI 0) C dL_parentOf_15 rfl rfl ?_
  refine G.xw ?_
  refine g_iret C hr dL_parentOf_16 ?_ ⟨by decide, by decide⟩
  refine ⟨L1, vp_updL g0 0 b0.toInt64, rfl, va_up_self _ _ _, 0, by decide, rfl, fun b A1 I1 hr => ?_⟩
  obtain ⟨h27, hv, hcw⟩ := hq b A1 I1 hr
  cases hv
  exact ⟨h27, fun _ => if_pos rfl, hcw.ext (fun a ha => (va_up_ne _ _ (show a ≠ q9 from fun z => (e1 a ha).2 (List.mem_singleton.mpr z))).trans (e1 a ha).1)⟩
theorem kH_sizeOf : gwH yL_sizeOf cL_sizeOf 4 (some .int) [(0, 9, 12, 13)] 3 := ⟨⟨(List.mem_of_getElem? (i := 728) (by decide +kernel)), by decide +kernel⟩, (List.mem_of_getElem? (i := 64) (by decide +kernel)), ⟨by decide +kernel, by decide +kernel⟩, by decide +kernel⟩
theorem kT_sizeOf : gwS yL_sizeOf := (List.mem_of_getElem? (i := 727) (by decide +kernel))
theorem kw_sizeOf {l : Launch} {s0 : State} {D : va_G} {cy : Nat → ClassId} (hE : gE s0 D cy) (hl : l.stackTraces = false) {L : List Nat} {f : gF} {bk : Nat → Nat} {n : Nat} {X : Nat → va_E} {Is : Nat → Option iT} {PR PL : Nat → Nat} {S A : Nat → Nat → Int32} {I : Nat → Int32} (hR : RC cy bk n X Is PR PL S A I L f) (hB9 : rmB n I) (hC9 : pCt n A S) (x : Int32) {Rl : Int32 → (Nat → Nat → Int32) → (Nat → Int32) → Prop} (hM : gX l s0 D yX5_sizeOf cX5_sizeOf 2 (some .int) 8 2 12 [.ref (bk 0), .int x] L f (uQ cy (bk 0) Rl) (uX [xI, xS] A I Rl)) (hex : ∃ b A1 I1, Rl b A1 I1) (hW : ∀ b A1 I1 w, Rl b A1 I1 → I1 27 = nI w → 0 < w → w ≤ 2 → w ≤ 1) (hN : gN9 s0) {q9 : Nat} {g0 : Nat → Int64} (hf9 : f q9 = .inl (cy 2, 1, .inr (.inl g0))) : gH9 l s0 D yL_sizeOf cL_sizeOf 4 (some .int) [(0, 9, 12, 13)] 9 2 12 [.ref (bk 0), .int x, .ref q9] (L ++ [q9]) f (wQ cy (bk 0) q9 Rl) := by
  refine gH9.of (own := RL) hE hl (by decide +kernel) rfl rfl (Nat.le_of_ble_eq_true rfl) (fun p9 e9 s9 m9 a99 b99 t99 c9 C hr ht => ?_)
  refine G.weak (ls' := [some (.ref (bk 0)), some (.int x), some (.ref q9), none]) ?_ rfl (fun _ _ h => h)
  obtain ⟨b0, A0', I0', hr0⟩ := hex
  have hco : gH (L ++ [q9]) f (bk 0) (.inr (5, [.ref (bk 1), .ref (bk 2), .ref (bk 6), .ref (bk 7), .ref (bk 8), .ref (bk 10), .int (I 25), .int (I 26)])) := hR.co.of (List.mem_append_left _ hR.co.1) rfl
  refine g_aload_n (n := 1) C dL_sizeOf_0 rfl (Or.inr ⟨_, rfl⟩) rfl ?_
  refine g_iconst (n := 2) (v := nI 0) C dL_sizeOf_1 rfl rfl ?_
  refine g_aload_n (n := 3) C dL_sizeOf_2 rfl (Or.inr ⟨_, rfl⟩) rfl ?_
  refine g_iload_n (n := 4) C dL_sizeOf_3 rfl rfl ?_
  refine g_VXH (n := 7) (rest := [.int (nI 0), .ref q9]) C (hM.fr [q9]) dL_sizeOf_4 kM_X5_sizeOf kW_L_82 kV_X5_sizeOf hco rfl rfl rfl (Nat.le_of_ble_eq_true rfl) ⟨by decide, by decide⟩ ⟨by decide, by decide⟩ rfl (fun E hpx => by
      obtain ⟨w, hw0, hwT, h27, rfl, -, -⟩ := hpx b0 A0' I0' hr0
      have hwT : w ≤ 2 := hwT
      have hwN := hW _ _ _ w hr0 h27 hw0 hwT
      have hall : ∀ b A1 I1, Rl b A1 I1 → I1 27 = nI w ∧ A1 = A ∧ I1 = va_up I 27 (nI w) := fun b A1 I1 hr => by
        obtain ⟨w2, g1, g2, g3, g4, g5, g6⟩ := hpx b A1 I1 hr
        have e := exj_IS hw0 hwT g1 g2 g4
        subst e
        exact ⟨g3, g5, g6⟩
      rcases (show w = 1 by omega) with rfl
      · refine ⟨xI, [], ⟨0, 9, 12, 13⟩, [], ht, (fun z hz => absurd hz List.not_mem_nil), by decide, by decide, (List.mem_of_getElem? (i := 215) (by decide +kernel)), (List.mem_of_getElem? (i := 229) (by decide +kernel)), fun q => ?_⟩
        refine g_astore_n (n := 13) (ls' := [_, _, _, _]) C dL_sizeOf_12 (Or.inr ⟨_, rfl⟩) rfl (by decide) rfl ?_
        refine g_iconst (n := 14) (v := nI 1) C dL_sizeOf_13 rfl rfl ?_
        refine G.xw ?_
        refine g_iret C hr dL_sizeOf_14 ?_ ⟨by decide, by decide⟩
        refine ⟨L, g0, rfl, hf9, 1, by decide, rfl, fun b A1 I1 hr => ?_⟩
        obtain ⟨a1, a2, a3⟩ := hall b A1 I1 hr
        exact ⟨a1, fun h => absurd h (by decide), by rw [a2, a3]; exact CW.rd hR hB9 hC9⟩) (fun v9 L9 f9 hq => ?_)
  obtain ⟨L1, f1, hq, rfl, e1, e2⟩ := hq
  obtain ⟨-, rfl, -⟩ := hq b0 A0' I0' hr0
  have hout : gH (L1 ++ [q9]) f9 q9 (.inl (cy 2, 1, .inr (.inl g0))) := ⟨List.mem_append_right _ List.mem_cons_self, (e2 q9 List.mem_cons_self).trans hf9⟩
  refine G.sk (st' := [_, _, _]) rfl ?_
  refine g_i2l (n := 8) C dL_sizeOf_7 rfl ?_
  refine g_last (n := 9) C dL_sizeOf_8 hout rfl (by omega) (by decide) rfl ?_
  refine g_goto (tgt := 15) C dL_sizeOf_9 (by decide) ?_
  refine g_iconst (n := 16) (v := nI 0) C dL_sizeOf_15 rfl rfl ?_
  refine G.xw ?_
  refine g_iret C hr dL_sizeOf_16 ?_ ⟨by decide, by decide⟩
  refine ⟨L1, vp_updL g0 0 b0.toInt64, rfl, va_up_self _ _ _, 0, by decide, rfl, fun b A1 I1 hr => ?_⟩
  obtain ⟨h27, hv, hcw⟩ := hq b A1 I1 hr
  cases hv
  exact ⟨h27, fun _ => if_pos rfl, hcw.ext (fun a ha => (va_up_ne _ _ (show a ≠ q9 from fun z => (e1 a ha).2 (List.mem_singleton.mpr z))).trans (e1 a ha).1)⟩
theorem kH_heldAt : gwH yL_heldAt cL_heldAt 5 (some .int) [(0, 10, 13, 13)] 4 := ⟨⟨(List.mem_of_getElem? (i := 739) (by decide +kernel)), by decide +kernel⟩, (List.mem_of_getElem? (i := 64) (by decide +kernel)), ⟨by decide +kernel, by decide +kernel⟩, by decide +kernel⟩
theorem kT_heldAt : gwS yL_heldAt := (List.mem_of_getElem? (i := 738) (by decide +kernel))
theorem kw_heldAt {l : Launch} {s0 : State} {D : va_G} {cy : Nat → ClassId} (hE : gE s0 D cy) (hl : l.stackTraces = false) {L : List Nat} {f : gF} {bk : Nat → Nat} {n : Nat} {X : Nat → va_E} {Is : Nat → Option iT} {PR PL : Nat → Nat} {S A : Nat → Nat → Int32} {I : Nat → Int32} (hR : RC cy bk n X Is PR PL S A I L f) (hB9 : rmB n I) (hC9 : pCt n A S) (x y : Int32) {Rl : Int32 → (Nat → Nat → Int32) → (Nat → Int32) → Prop} (hM : gX l s0 D yX5_heldAt cX5_heldAt 4 (some .int) 8 3 18 [.ref (bk 0), .int x, .int y] L f (uQ cy (bk 0) Rl) (uX [xI, xS] A I Rl)) (hex : ∃ b A1 I1, Rl b A1 I1) (hW : ∀ b A1 I1 w, Rl b A1 I1 → I1 27 = nI w → 0 < w → w ≤ 2 → w ≤ 1) (hN : gN9 s0) {q9 : Nat} {g0 : Nat → Int64} (hf9 : f q9 = .inl (cy 2, 1, .inr (.inl g0))) : gH9 l s0 D yL_heldAt cL_heldAt 5 (some .int) [(0, 10, 13, 13)] 9 3 18 [.ref (bk 0), .int x, .int y, .ref q9] (L ++ [q9]) f (wQ cy (bk 0) q9 Rl) := by
  refine gH9.of (own := RL) hE hl (by decide +kernel) rfl rfl (Nat.le_of_ble_eq_true rfl) (fun p9 e9 s9 m9 a99 b99 t99 c9 C hr ht => ?_)
  refine G.weak (ls' := [some (.ref (bk 0)), some (.int x), some (.int y), some (.ref q9), none]) ?_ rfl (fun _ _ h => h)
  obtain ⟨b0, A0', I0', hr0⟩ := hex
  have hco : gH (L ++ [q9]) f (bk 0) (.inr (5, [.ref (bk 1), .ref (bk 2), .ref (bk 6), .ref (bk 7), .ref (bk 8), .ref (bk 10), .int (I 25), .int (I 26)])) := hR.co.of (List.mem_append_left _ hR.co.1) rfl
  refine g_aload_n (n := 1) C dL_heldAt_0 rfl (Or.inr ⟨_, rfl⟩) rfl ?_
  refine g_iconst (n := 2) (v := nI 0) C dL_heldAt_1 rfl rfl ?_
  refine g_aload_n (n := 3) C dL_heldAt_2 rfl (Or.inr ⟨_, rfl⟩) rfl ?_
  refine g_iload_n (n := 4) C dL_heldAt_3 rfl rfl ?_
  refine g_iload_n (n := 5) C dL_heldAt_4 rfl rfl ?_
  refine g_VXH (n := 8) (rest := [.int (nI 0), .ref q9]) C (hM.fr [q9]) dL_heldAt_5 kM_X5_heldAt kW_L_85 kV_X5_heldAt hco rfl rfl rfl (Nat.le_of_ble_eq_true rfl) ⟨by decide, by decide⟩ ⟨by decide, by decide⟩ rfl (fun E hpx => by
      obtain ⟨w, hw0, hwT, h27, rfl, -, -⟩ := hpx b0 A0' I0' hr0
      have hwT : w ≤ 2 := hwT
      have hwN := hW _ _ _ w hr0 h27 hw0 hwT
      have hall : ∀ b A1 I1, Rl b A1 I1 → I1 27 = nI w ∧ A1 = A ∧ I1 = va_up I 27 (nI w) := fun b A1 I1 hr => by
        obtain ⟨w2, g1, g2, g3, g4, g5, g6⟩ := hpx b A1 I1 hr
        have e := exj_IS hw0 hwT g1 g2 g4
        subst e
        exact ⟨g3, g5, g6⟩
      rcases (show w = 1 by omega) with rfl
      · refine ⟨xI, [], ⟨0, 10, 13, 13⟩, [], ht, (fun z hz => absurd hz List.not_mem_nil), by decide, by decide, (List.mem_of_getElem? (i := 215) (by decide +kernel)), (List.mem_of_getElem? (i := 229) (by decide +kernel)), fun q => ?_⟩
        refine g_astore (n := 15) (ls' := [_, _, _, _, _]) C dL_heldAt_13 (Or.inr ⟨_, rfl⟩) rfl (by decide) rfl ?_
        refine g_iconst (n := 16) (v := nI 1) C dL_heldAt_15 rfl rfl ?_
        refine G.xw ?_
        refine g_iret C hr dL_heldAt_16 ?_ ⟨by decide, by decide⟩
        refine ⟨L, g0, rfl, hf9, 1, by decide, rfl, fun b A1 I1 hr => ?_⟩
        obtain ⟨a1, a2, a3⟩ := hall b A1 I1 hr
        exact ⟨a1, fun h => absurd h (by decide), by rw [a2, a3]; exact CW.rd hR hB9 hC9⟩) (fun v9 L9 f9 hq => ?_)
  obtain ⟨L1, f1, hq, rfl, e1, e2⟩ := hq
  obtain ⟨-, rfl, -⟩ := hq b0 A0' I0' hr0
  have hout : gH (L1 ++ [q9]) f9 q9 (.inl (cy 2, 1, .inr (.inl g0))) := ⟨List.mem_append_right _ List.mem_cons_self, (e2 q9 List.mem_cons_self).trans hf9⟩
  refine G.sk (st' := [_, _, _]) rfl ?_
  refine g_i2l (n := 9) C dL_heldAt_8 rfl ?_
  refine g_last (n := 10) C dL_heldAt_9 hout rfl (by omega) (by decide) rfl ?_
  refine g_goto (tgt := 17) C dL_heldAt_10 (by decide) ?_
  refine g_iconst (n := 18) (v := nI 0) C dL_heldAt_17 rfl rfl ?_
  refine G.xw ?_
  refine g_iret C hr dL_heldAt_18 ?_ ⟨by decide, by decide⟩
  refine ⟨L1, vp_updL g0 0 b0.toInt64, rfl, va_up_self _ _ _, 0, by decide, rfl, fun b A1 I1 hr => ?_⟩
  obtain ⟨h27, hv, hcw⟩ := hq b A1 I1 hr
  cases hv
  exact ⟨h27, fun _ => if_pos rfl, hcw.ext (fun a ha => (va_up_ne _ _ (show a ≠ q9 from fun z => (e1 a ha).2 (List.mem_singleton.mpr z))).trans (e1 a ha).1)⟩
theorem kH_shownAt : gwH yL_shownAt cL_shownAt 5 (some .int) [(0, 10, 13, 13)] 4 := ⟨⟨(List.mem_of_getElem? (i := 750) (by decide +kernel)), by decide +kernel⟩, (List.mem_of_getElem? (i := 64) (by decide +kernel)), ⟨by decide +kernel, by decide +kernel⟩, by decide +kernel⟩
theorem kT_shownAt : gwS yL_shownAt := (List.mem_of_getElem? (i := 749) (by decide +kernel))
theorem kw_shownAt {l : Launch} {s0 : State} {D : va_G} {cy : Nat → ClassId} (hE : gE s0 D cy) (hl : l.stackTraces = false) {L : List Nat} {f : gF} {bk : Nat → Nat} {n : Nat} {X : Nat → va_E} {Is : Nat → Option iT} {PR PL : Nat → Nat} {S A : Nat → Nat → Int32} {I : Nat → Int32} (hR : RC cy bk n X Is PR PL S A I L f) (hB9 : rmB n I) (hC9 : pCt n A S) (x y : Int32) {Rl : Int32 → (Nat → Nat → Int32) → (Nat → Int32) → Prop} (hM : gX l s0 D yX5_shownAt cX5_shownAt 4 (some .int) 8 3 18 [.ref (bk 0), .int x, .int y] L f (uQ cy (bk 0) Rl) (uX [xI, xS] A I Rl)) (hex : ∃ b A1 I1, Rl b A1 I1) (hW : ∀ b A1 I1 w, Rl b A1 I1 → I1 27 = nI w → 0 < w → w ≤ 2 → w ≤ 1) (hN : gN9 s0) {q9 : Nat} {g0 : Nat → Int64} (hf9 : f q9 = .inl (cy 2, 1, .inr (.inl g0))) : gH9 l s0 D yL_shownAt cL_shownAt 5 (some .int) [(0, 10, 13, 13)] 9 3 18 [.ref (bk 0), .int x, .int y, .ref q9] (L ++ [q9]) f (wQ cy (bk 0) q9 Rl) := by
  refine gH9.of (own := RL) hE hl (by decide +kernel) rfl rfl (Nat.le_of_ble_eq_true rfl) (fun p9 e9 s9 m9 a99 b99 t99 c9 C hr ht => ?_)
  refine G.weak (ls' := [some (.ref (bk 0)), some (.int x), some (.int y), some (.ref q9), none]) ?_ rfl (fun _ _ h => h)
  obtain ⟨b0, A0', I0', hr0⟩ := hex
  have hco : gH (L ++ [q9]) f (bk 0) (.inr (5, [.ref (bk 1), .ref (bk 2), .ref (bk 6), .ref (bk 7), .ref (bk 8), .ref (bk 10), .int (I 25), .int (I 26)])) := hR.co.of (List.mem_append_left _ hR.co.1) rfl
  refine g_aload_n (n := 1) C dL_shownAt_0 rfl (Or.inr ⟨_, rfl⟩) rfl ?_
  refine g_iconst (n := 2) (v := nI 0) C dL_shownAt_1 rfl rfl ?_
  refine g_aload_n (n := 3) C dL_shownAt_2 rfl (Or.inr ⟨_, rfl⟩) rfl ?_
  refine g_iload_n (n := 4) C dL_shownAt_3 rfl rfl ?_
  refine g_iload_n (n := 5) C dL_shownAt_4 rfl rfl ?_
  refine g_VXH (n := 8) (rest := [.int (nI 0), .ref q9]) C (hM.fr [q9]) dL_shownAt_5 kM_X5_shownAt kW_L_88 kV_X5_shownAt hco rfl rfl rfl (Nat.le_of_ble_eq_true rfl) ⟨by decide, by decide⟩ ⟨by decide, by decide⟩ rfl (fun E hpx => by
      obtain ⟨w, hw0, hwT, h27, rfl, -, -⟩ := hpx b0 A0' I0' hr0
      have hwT : w ≤ 2 := hwT
      have hwN := hW _ _ _ w hr0 h27 hw0 hwT
      have hall : ∀ b A1 I1, Rl b A1 I1 → I1 27 = nI w ∧ A1 = A ∧ I1 = va_up I 27 (nI w) := fun b A1 I1 hr => by
        obtain ⟨w2, g1, g2, g3, g4, g5, g6⟩ := hpx b A1 I1 hr
        have e := exj_IS hw0 hwT g1 g2 g4
        subst e
        exact ⟨g3, g5, g6⟩
      rcases (show w = 1 by omega) with rfl
      · refine ⟨xI, [], ⟨0, 10, 13, 13⟩, [], ht, (fun z hz => absurd hz List.not_mem_nil), by decide, by decide, (List.mem_of_getElem? (i := 215) (by decide +kernel)), (List.mem_of_getElem? (i := 229) (by decide +kernel)), fun q => ?_⟩
        refine g_astore (n := 15) (ls' := [_, _, _, _, _]) C dL_shownAt_13 (Or.inr ⟨_, rfl⟩) rfl (by decide) rfl ?_
        refine g_iconst (n := 16) (v := nI 1) C dL_shownAt_15 rfl rfl ?_
        refine G.xw ?_
        refine g_iret C hr dL_shownAt_16 ?_ ⟨by decide, by decide⟩
        refine ⟨L, g0, rfl, hf9, 1, by decide, rfl, fun b A1 I1 hr => ?_⟩
        obtain ⟨a1, a2, a3⟩ := hall b A1 I1 hr
        exact ⟨a1, fun h => absurd h (by decide), by rw [a2, a3]; exact CW.rd hR hB9 hC9⟩) (fun v9 L9 f9 hq => ?_)
  obtain ⟨L1, f1, hq, rfl, e1, e2⟩ := hq
  obtain ⟨-, rfl, -⟩ := hq b0 A0' I0' hr0
  have hout : gH (L1 ++ [q9]) f9 q9 (.inl (cy 2, 1, .inr (.inl g0))) := ⟨List.mem_append_right _ List.mem_cons_self, (e2 q9 List.mem_cons_self).trans hf9⟩
  refine G.sk (st' := [_, _, _]) rfl ?_
  refine g_i2l (n := 9) C dL_shownAt_8 rfl ?_
  refine g_last (n := 10) C dL_shownAt_9 hout rfl (by omega) (by decide) rfl ?_
  refine g_goto (tgt := 17) C dL_shownAt_10 (by decide) ?_
  refine g_iconst (n := 18) (v := nI 0) C dL_shownAt_17 rfl rfl ?_
  refine G.xw ?_
  refine g_iret C hr dL_shownAt_18 ?_ ⟨by decide, by decide⟩
  refine ⟨L1, vp_updL g0 0 b0.toInt64, rfl, va_up_self _ _ _, 0, by decide, rfl, fun b A1 I1 hr => ?_⟩
  obtain ⟨h27, hv, hcw⟩ := hq b A1 I1 hr
  cases hv
  exact ⟨h27, fun _ => if_pos rfl, hcw.ext (fun a ha => (va_up_ne _ _ (show a ≠ q9 from fun z => (e1 a ha).2 (List.mem_singleton.mpr z))).trans (e1 a ha).1)⟩
theorem kH_variable : gwH yL_variable cL_variable 5 (some .int) [(0, 10, 13, 13)] 4 := ⟨⟨(List.mem_of_getElem? (i := 758) (by decide +kernel)), by decide +kernel⟩, (List.mem_of_getElem? (i := 64) (by decide +kernel)), ⟨by decide +kernel, by decide +kernel⟩, by decide +kernel⟩
theorem kT_variable : gwS yL_variable := (List.mem_of_getElem? (i := 757) (by decide +kernel))
theorem kw_variable {l : Launch} {s0 : State} {D : va_G} {cy : Nat → ClassId} (hE : gE s0 D cy) (hl : l.stackTraces = false) {L : List Nat} {f : gF} {bk : Nat → Nat} {n : Nat} {X : Nat → va_E} {Is : Nat → Option iT} {PR PL : Nat → Nat} {S A : Nat → Nat → Int32} {I : Nat → Int32} (hR : RC cy bk n X Is PR PL S A I L f) (hB9 : rmB n I) (hC9 : pCt n A S) (x y : Int32) {Rl : Int32 → (Nat → Nat → Int32) → (Nat → Int32) → Prop} (hM : gX l s0 D yX5_variable cX5_variable 4 (some .int) 8 3 18 [.ref (bk 0), .int x, .int y] L f (uQ cy (bk 0) Rl) (uX [xI, xS] A I Rl)) (hex : ∃ b A1 I1, Rl b A1 I1) (hW : ∀ b A1 I1 w, Rl b A1 I1 → I1 27 = nI w → 0 < w → w ≤ 2 → w ≤ 1) (hN : gN9 s0) {q9 : Nat} {g0 : Nat → Int64} (hf9 : f q9 = .inl (cy 2, 1, .inr (.inl g0))) : gH9 l s0 D yL_variable cL_variable 5 (some .int) [(0, 10, 13, 13)] 9 3 18 [.ref (bk 0), .int x, .int y, .ref q9] (L ++ [q9]) f (wQ cy (bk 0) q9 Rl) := by
  refine gH9.of (own := RL) hE hl (by decide +kernel) rfl rfl (Nat.le_of_ble_eq_true rfl) (fun p9 e9 s9 m9 a99 b99 t99 c9 C hr ht => ?_)
  refine G.weak (ls' := [some (.ref (bk 0)), some (.int x), some (.int y), some (.ref q9), none]) ?_ rfl (fun _ _ h => h)
  obtain ⟨b0, A0', I0', hr0⟩ := hex
  have hco : gH (L ++ [q9]) f (bk 0) (.inr (5, [.ref (bk 1), .ref (bk 2), .ref (bk 6), .ref (bk 7), .ref (bk 8), .ref (bk 10), .int (I 25), .int (I 26)])) := hR.co.of (List.mem_append_left _ hR.co.1) rfl
  refine g_aload_n (n := 1) C dL_variable_0 rfl (Or.inr ⟨_, rfl⟩) rfl ?_
  refine g_iconst (n := 2) (v := nI 0) C dL_variable_1 rfl rfl ?_
  refine g_aload_n (n := 3) C dL_variable_2 rfl (Or.inr ⟨_, rfl⟩) rfl ?_
  refine g_iload_n (n := 4) C dL_variable_3 rfl rfl ?_
  refine g_iload_n (n := 5) C dL_variable_4 rfl rfl ?_
  refine g_VXH (n := 8) (rest := [.int (nI 0), .ref q9]) C (hM.fr [q9]) dL_variable_5 kM_X5_variable kW_L_91 kV_X5_variable hco rfl rfl rfl (Nat.le_of_ble_eq_true rfl) ⟨by decide, by decide⟩ ⟨by decide, by decide⟩ rfl (fun E hpx => by
      obtain ⟨w, hw0, hwT, h27, rfl, -, -⟩ := hpx b0 A0' I0' hr0
      have hwT : w ≤ 2 := hwT
      have hwN := hW _ _ _ w hr0 h27 hw0 hwT
      have hall : ∀ b A1 I1, Rl b A1 I1 → I1 27 = nI w ∧ A1 = A ∧ I1 = va_up I 27 (nI w) := fun b A1 I1 hr => by
        obtain ⟨w2, g1, g2, g3, g4, g5, g6⟩ := hpx b A1 I1 hr
        have e := exj_IS hw0 hwT g1 g2 g4
        subst e
        exact ⟨g3, g5, g6⟩
      rcases (show w = 1 by omega) with rfl
      · refine ⟨xI, [], ⟨0, 10, 13, 13⟩, [], ht, (fun z hz => absurd hz List.not_mem_nil), by decide, by decide, (List.mem_of_getElem? (i := 215) (by decide +kernel)), (List.mem_of_getElem? (i := 229) (by decide +kernel)), fun q => ?_⟩
        refine g_astore (n := 15) (ls' := [_, _, _, _, _]) C dL_variable_13 (Or.inr ⟨_, rfl⟩) rfl (by decide) rfl ?_
        refine g_iconst (n := 16) (v := nI 1) C dL_variable_15 rfl rfl ?_
        refine G.xw ?_
        refine g_iret C hr dL_variable_16 ?_ ⟨by decide, by decide⟩
        refine ⟨L, g0, rfl, hf9, 1, by decide, rfl, fun b A1 I1 hr => ?_⟩
        obtain ⟨a1, a2, a3⟩ := hall b A1 I1 hr
        exact ⟨a1, fun h => absurd h (by decide), by rw [a2, a3]; exact CW.rd hR hB9 hC9⟩) (fun v9 L9 f9 hq => ?_)
  obtain ⟨L1, f1, hq, rfl, e1, e2⟩ := hq
  obtain ⟨-, rfl, -⟩ := hq b0 A0' I0' hr0
  have hout : gH (L1 ++ [q9]) f9 q9 (.inl (cy 2, 1, .inr (.inl g0))) := ⟨List.mem_append_right _ List.mem_cons_self, (e2 q9 List.mem_cons_self).trans hf9⟩
  refine G.sk (st' := [_, _, _]) rfl ?_
  refine g_i2l (n := 9) C dL_variable_8 rfl ?_
  refine g_last (n := 10) C dL_variable_9 hout rfl (by omega) (by decide) rfl ?_
  refine g_goto (tgt := 17) C dL_variable_10 (by decide) ?_
  refine g_iconst (n := 18) (v := nI 0) C dL_variable_17 rfl rfl ?_
  refine G.xw ?_
  refine g_iret C hr dL_variable_18 ?_ ⟨by decide, by decide⟩
  refine ⟨L1, vp_updL g0 0 b0.toInt64, rfl, va_up_self _ _ _, 0, by decide, rfl, fun b A1 I1 hr => ?_⟩
  obtain ⟨h27, hv, hcw⟩ := hq b A1 I1 hr
  cases hv
  exact ⟨h27, fun _ => if_pos rfl, hcw.ext (fun a ha => (va_up_ne _ _ (show a ≠ q9 from fun z => (e1 a ha).2 (List.mem_singleton.mpr z))).trans (e1 a ha).1)⟩
theorem kH_depth : gwH yL_depth cL_depth 4 (some .int) [(0, 9, 12, 13)] 3 := ⟨⟨(List.mem_of_getElem? (i := 766) (by decide +kernel)), by decide +kernel⟩, (List.mem_of_getElem? (i := 64) (by decide +kernel)), ⟨by decide +kernel, by decide +kernel⟩, by decide +kernel⟩
theorem kT_depth : gwS yL_depth := (List.mem_of_getElem? (i := 765) (by decide +kernel))
theorem kw_depth {l : Launch} {s0 : State} {D : va_G} {cy : Nat → ClassId} (hE : gE s0 D cy) (hl : l.stackTraces = false) {L : List Nat} {f : gF} {bk : Nat → Nat} {n : Nat} {X : Nat → va_E} {Is : Nat → Option iT} {PR PL : Nat → Nat} {S A : Nat → Nat → Int32} {I : Nat → Int32} (hR : RC cy bk n X Is PR PL S A I L f) (hB9 : rmB n I) (hC9 : pCt n A S) (x : Int32) {Rl : Int32 → (Nat → Nat → Int32) → (Nat → Int32) → Prop} (hM : gX l s0 D yX5_depth cX5_depth 2 (some .int) 8 2 12 [.ref (bk 0), .int x] L f (uQ cy (bk 0) Rl) (uX [xI, xS] A I Rl)) (hex : ∃ b A1 I1, Rl b A1 I1) (hW : ∀ b A1 I1 w, Rl b A1 I1 → I1 27 = nI w → 0 < w → w ≤ 2 → w ≤ 1) (hN : gN9 s0) {q9 : Nat} {g0 : Nat → Int64} (hf9 : f q9 = .inl (cy 2, 1, .inr (.inl g0))) : gH9 l s0 D yL_depth cL_depth 4 (some .int) [(0, 9, 12, 13)] 9 2 12 [.ref (bk 0), .int x, .ref q9] (L ++ [q9]) f (wQ cy (bk 0) q9 Rl) := by
  refine gH9.of (own := RL) hE hl (by decide +kernel) rfl rfl (Nat.le_of_ble_eq_true rfl) (fun p9 e9 s9 m9 a99 b99 t99 c9 C hr ht => ?_)
  refine G.weak (ls' := [some (.ref (bk 0)), some (.int x), some (.ref q9), none]) ?_ rfl (fun _ _ h => h)
  obtain ⟨b0, A0', I0', hr0⟩ := hex
  have hco : gH (L ++ [q9]) f (bk 0) (.inr (5, [.ref (bk 1), .ref (bk 2), .ref (bk 6), .ref (bk 7), .ref (bk 8), .ref (bk 10), .int (I 25), .int (I 26)])) := hR.co.of (List.mem_append_left _ hR.co.1) rfl
  refine g_aload_n (n := 1) C dL_depth_0 rfl (Or.inr ⟨_, rfl⟩) rfl ?_
  refine g_iconst (n := 2) (v := nI 0) C dL_depth_1 rfl rfl ?_
  refine g_aload_n (n := 3) C dL_depth_2 rfl (Or.inr ⟨_, rfl⟩) rfl ?_
  refine g_iload_n (n := 4) C dL_depth_3 rfl rfl ?_
  refine g_VXH (n := 7) (rest := [.int (nI 0), .ref q9]) C (hM.fr [q9]) dL_depth_4 kM_X5_depth kW_L_94 kV_X5_depth hco rfl rfl rfl (Nat.le_of_ble_eq_true rfl) ⟨by decide, by decide⟩ ⟨by decide, by decide⟩ rfl (fun E hpx => by
      obtain ⟨w, hw0, hwT, h27, rfl, -, -⟩ := hpx b0 A0' I0' hr0
      have hwT : w ≤ 2 := hwT
      have hwN := hW _ _ _ w hr0 h27 hw0 hwT
      have hall : ∀ b A1 I1, Rl b A1 I1 → I1 27 = nI w ∧ A1 = A ∧ I1 = va_up I 27 (nI w) := fun b A1 I1 hr => by
        obtain ⟨w2, g1, g2, g3, g4, g5, g6⟩ := hpx b A1 I1 hr
        have e := exj_IS hw0 hwT g1 g2 g4
        subst e
        exact ⟨g3, g5, g6⟩
      rcases (show w = 1 by omega) with rfl
      · refine ⟨xI, [], ⟨0, 9, 12, 13⟩, [], ht, (fun z hz => absurd hz List.not_mem_nil), by decide, by decide, (List.mem_of_getElem? (i := 215) (by decide +kernel)), (List.mem_of_getElem? (i := 229) (by decide +kernel)), fun q => ?_⟩
        refine g_astore_n (n := 13) (ls' := [_, _, _, _]) C dL_depth_12 (Or.inr ⟨_, rfl⟩) rfl (by decide) rfl ?_
        refine g_iconst (n := 14) (v := nI 1) C dL_depth_13 rfl rfl ?_
        refine G.xw ?_
        refine g_iret C hr dL_depth_14 ?_ ⟨by decide, by decide⟩
        refine ⟨L, g0, rfl, hf9, 1, by decide, rfl, fun b A1 I1 hr => ?_⟩
        obtain ⟨a1, a2, a3⟩ := hall b A1 I1 hr
        exact ⟨a1, fun h => absurd h (by decide), by rw [a2, a3]; exact CW.rd hR hB9 hC9⟩) (fun v9 L9 f9 hq => ?_)
  obtain ⟨L1, f1, hq, rfl, e1, e2⟩ := hq
  obtain ⟨-, rfl, -⟩ := hq b0 A0' I0' hr0
  have hout : gH (L1 ++ [q9]) f9 q9 (.inl (cy 2, 1, .inr (.inl g0))) := ⟨List.mem_append_right _ List.mem_cons_self, (e2 q9 List.mem_cons_self).trans hf9⟩
  refine G.sk (st' := [_, _, _]) rfl ?_
  refine g_i2l (n := 8) C dL_depth_7 rfl ?_
  refine g_last (n := 9) C dL_depth_8 hout rfl (by omega) (by decide) rfl ?_
  refine g_goto (tgt := 15) C dL_depth_9 (by decide) ?_
  refine g_iconst (n := 16) (v := nI 0) C dL_depth_15 rfl rfl ?_
  refine G.xw ?_
  refine g_iret C hr dL_depth_16 ?_ ⟨by decide, by decide⟩
  refine ⟨L1, vp_updL g0 0 b0.toInt64, rfl, va_up_self _ _ _, 0, by decide, rfl, fun b A1 I1 hr => ?_⟩
  obtain ⟨h27, hv, hcw⟩ := hq b A1 I1 hr
  cases hv
  exact ⟨h27, fun _ => if_pos rfl, hcw.ext (fun a ha => (va_up_ne _ _ (show a ≠ q9 from fun z => (e1 a ha).2 (List.mem_singleton.mpr z))).trans (e1 a ha).1)⟩
theorem kH_imageSize : gwH yL_imageSize cL_imageSize 4 (some .int) [(0, 9, 12, 13)] 3 := ⟨⟨(List.mem_of_getElem? (i := 773) (by decide +kernel)), by decide +kernel⟩, (List.mem_of_getElem? (i := 64) (by decide +kernel)), ⟨by decide +kernel, by decide +kernel⟩, by decide +kernel⟩
theorem kT_imageSize : gwS yL_imageSize := (List.mem_of_getElem? (i := 772) (by decide +kernel))
theorem kw_imageSize {l : Launch} {s0 : State} {D : va_G} {cy : Nat → ClassId} (hE : gE s0 D cy) (hl : l.stackTraces = false) {L : List Nat} {f : gF} {bk : Nat → Nat} {n : Nat} {X : Nat → va_E} {Is : Nat → Option iT} {PR PL : Nat → Nat} {S A : Nat → Nat → Int32} {I : Nat → Int32} (hR : RC cy bk n X Is PR PL S A I L f) (hB9 : rmB n I) (hC9 : pCt n A S) (x : Int32) {Rl : Int32 → (Nat → Nat → Int32) → (Nat → Int32) → Prop} (hM : gX l s0 D yX5_imageSize cX5_imageSize 4 (some .int) 8 2 12 [.ref (bk 0), .int x] L f (uQ cy (bk 0) Rl) (uX [xI, xS] A I Rl)) (hex : ∃ b A1 I1, Rl b A1 I1) (hW : ∀ b A1 I1 w, Rl b A1 I1 → I1 27 = nI w → 0 < w → w ≤ 2 → w ≤ 1) (hN : gN9 s0) {q9 : Nat} {g0 : Nat → Int64} (hf9 : f q9 = .inl (cy 2, 1, .inr (.inl g0))) : gH9 l s0 D yL_imageSize cL_imageSize 4 (some .int) [(0, 9, 12, 13)] 9 2 12 [.ref (bk 0), .int x, .ref q9] (L ++ [q9]) f (wQ cy (bk 0) q9 Rl) := by
  refine gH9.of (own := RL) hE hl (by decide +kernel) rfl rfl (Nat.le_of_ble_eq_true rfl) (fun p9 e9 s9 m9 a99 b99 t99 c9 C hr ht => ?_)
  refine G.weak (ls' := [some (.ref (bk 0)), some (.int x), some (.ref q9), none]) ?_ rfl (fun _ _ h => h)
  obtain ⟨b0, A0', I0', hr0⟩ := hex
  have hco : gH (L ++ [q9]) f (bk 0) (.inr (5, [.ref (bk 1), .ref (bk 2), .ref (bk 6), .ref (bk 7), .ref (bk 8), .ref (bk 10), .int (I 25), .int (I 26)])) := hR.co.of (List.mem_append_left _ hR.co.1) rfl
  refine g_aload_n (n := 1) C dL_imageSize_0 rfl (Or.inr ⟨_, rfl⟩) rfl ?_
  refine g_iconst (n := 2) (v := nI 0) C dL_imageSize_1 rfl rfl ?_
  refine g_aload_n (n := 3) C dL_imageSize_2 rfl (Or.inr ⟨_, rfl⟩) rfl ?_
  refine g_iload_n (n := 4) C dL_imageSize_3 rfl rfl ?_
  refine g_VXH (n := 7) (rest := [.int (nI 0), .ref q9]) C (hM.fr [q9]) dL_imageSize_4 kM_X5_imageSize kW_L_97 kV_X5_imageSize hco rfl rfl rfl (Nat.le_of_ble_eq_true rfl) ⟨by decide, by decide⟩ ⟨by decide, by decide⟩ rfl (fun E hpx => by
      obtain ⟨w, hw0, hwT, h27, rfl, -, -⟩ := hpx b0 A0' I0' hr0
      have hwT : w ≤ 2 := hwT
      have hwN := hW _ _ _ w hr0 h27 hw0 hwT
      have hall : ∀ b A1 I1, Rl b A1 I1 → I1 27 = nI w ∧ A1 = A ∧ I1 = va_up I 27 (nI w) := fun b A1 I1 hr => by
        obtain ⟨w2, g1, g2, g3, g4, g5, g6⟩ := hpx b A1 I1 hr
        have e := exj_IS hw0 hwT g1 g2 g4
        subst e
        exact ⟨g3, g5, g6⟩
      rcases (show w = 1 by omega) with rfl
      · refine ⟨xI, [], ⟨0, 9, 12, 13⟩, [], ht, (fun z hz => absurd hz List.not_mem_nil), by decide, by decide, (List.mem_of_getElem? (i := 215) (by decide +kernel)), (List.mem_of_getElem? (i := 229) (by decide +kernel)), fun q => ?_⟩
        refine g_astore_n (n := 13) (ls' := [_, _, _, _]) C dL_imageSize_12 (Or.inr ⟨_, rfl⟩) rfl (by decide) rfl ?_
        refine g_iconst (n := 14) (v := nI 1) C dL_imageSize_13 rfl rfl ?_
        refine G.xw ?_
        refine g_iret C hr dL_imageSize_14 ?_ ⟨by decide, by decide⟩
        refine ⟨L, g0, rfl, hf9, 1, by decide, rfl, fun b A1 I1 hr => ?_⟩
        obtain ⟨a1, a2, a3⟩ := hall b A1 I1 hr
        exact ⟨a1, fun h => absurd h (by decide), by rw [a2, a3]; exact CW.rd hR hB9 hC9⟩) (fun v9 L9 f9 hq => ?_)
  obtain ⟨L1, f1, hq, rfl, e1, e2⟩ := hq
  obtain ⟨-, rfl, -⟩ := hq b0 A0' I0' hr0
  have hout : gH (L1 ++ [q9]) f9 q9 (.inl (cy 2, 1, .inr (.inl g0))) := ⟨List.mem_append_right _ List.mem_cons_self, (e2 q9 List.mem_cons_self).trans hf9⟩
  refine G.sk (st' := [_, _, _]) rfl ?_
  refine g_i2l (n := 8) C dL_imageSize_7 rfl ?_
  refine g_last (n := 9) C dL_imageSize_8 hout rfl (by omega) (by decide) rfl ?_
  refine g_goto (tgt := 15) C dL_imageSize_9 (by decide) ?_
  refine g_iconst (n := 16) (v := nI 0) C dL_imageSize_15 rfl rfl ?_
  refine G.xw ?_
  refine g_iret C hr dL_imageSize_16 ?_ ⟨by decide, by decide⟩
  refine ⟨L1, vp_updL g0 0 b0.toInt64, rfl, va_up_self _ _ _, 0, by decide, rfl, fun b A1 I1 hr => ?_⟩
  obtain ⟨h27, hv, hcw⟩ := hq b A1 I1 hr
  cases hv
  exact ⟨h27, fun _ => if_pos rfl, hcw.ext (fun a ha => (va_up_ne _ _ (show a ≠ q9 from fun z => (e1 a ha).2 (List.mem_singleton.mpr z))).trans (e1 a ha).1)⟩
theorem kH_digest : gwH yL_digest cL_digest 4 (some .int) [(0, 9, 12, 13)] 3 := ⟨⟨(List.mem_of_getElem? (i := 780) (by decide +kernel)), by decide +kernel⟩, (List.mem_of_getElem? (i := 64) (by decide +kernel)), ⟨by decide +kernel, by decide +kernel⟩, by decide +kernel⟩
theorem kT_digest : gwS yL_digest := (List.mem_of_getElem? (i := 779) (by decide +kernel))
theorem kw_digest {l : Launch} {s0 : State} {D : va_G} {cy : Nat → ClassId} (hE : gE s0 D cy) (hl : l.stackTraces = false) {L : List Nat} {f : gF} {bk : Nat → Nat} {n : Nat} {X : Nat → va_E} {Is : Nat → Option iT} {PR PL : Nat → Nat} {S A : Nat → Nat → Int32} {I : Nat → Int32} (hR : RC cy bk n X Is PR PL S A I L f) (hB9 : rmB n I) (hC9 : pCt n A S) (x : Int32) {Rl : Int32 → (Nat → Nat → Int32) → (Nat → Int32) → Prop} (hM : gX l s0 D yX5_digest cX5_digest 2 (some .int) 8 2 12 [.ref (bk 0), .int x] L f (uQ cy (bk 0) Rl) (uX [xI, xS] A I Rl)) (hex : ∃ b A1 I1, Rl b A1 I1) (hW : ∀ b A1 I1 w, Rl b A1 I1 → I1 27 = nI w → 0 < w → w ≤ 2 → w ≤ 1) (hN : gN9 s0) {q9 : Nat} {g0 : Nat → Int64} (hf9 : f q9 = .inl (cy 2, 1, .inr (.inl g0))) : gH9 l s0 D yL_digest cL_digest 4 (some .int) [(0, 9, 12, 13)] 9 2 12 [.ref (bk 0), .int x, .ref q9] (L ++ [q9]) f (wQ cy (bk 0) q9 Rl) := by
  refine gH9.of (own := RL) hE hl (by decide +kernel) rfl rfl (Nat.le_of_ble_eq_true rfl) (fun p9 e9 s9 m9 a99 b99 t99 c9 C hr ht => ?_)
  refine G.weak (ls' := [some (.ref (bk 0)), some (.int x), some (.ref q9), none]) ?_ rfl (fun _ _ h => h)
  obtain ⟨b0, A0', I0', hr0⟩ := hex
  have hco : gH (L ++ [q9]) f (bk 0) (.inr (5, [.ref (bk 1), .ref (bk 2), .ref (bk 6), .ref (bk 7), .ref (bk 8), .ref (bk 10), .int (I 25), .int (I 26)])) := hR.co.of (List.mem_append_left _ hR.co.1) rfl
  refine g_aload_n (n := 1) C dL_digest_0 rfl (Or.inr ⟨_, rfl⟩) rfl ?_
  refine g_iconst (n := 2) (v := nI 0) C dL_digest_1 rfl rfl ?_
  refine g_aload_n (n := 3) C dL_digest_2 rfl (Or.inr ⟨_, rfl⟩) rfl ?_
  refine g_iload_n (n := 4) C dL_digest_3 rfl rfl ?_
  refine g_VXH (n := 7) (rest := [.int (nI 0), .ref q9]) C (hM.fr [q9]) dL_digest_4 kM_X5_digest kW_L_100 kV_X5_digest hco rfl rfl rfl (Nat.le_of_ble_eq_true rfl) ⟨by decide, by decide⟩ ⟨by decide, by decide⟩ rfl (fun E hpx => by
      obtain ⟨w, hw0, hwT, h27, rfl, -, -⟩ := hpx b0 A0' I0' hr0
      have hwT : w ≤ 2 := hwT
      have hwN := hW _ _ _ w hr0 h27 hw0 hwT
      have hall : ∀ b A1 I1, Rl b A1 I1 → I1 27 = nI w ∧ A1 = A ∧ I1 = va_up I 27 (nI w) := fun b A1 I1 hr => by
        obtain ⟨w2, g1, g2, g3, g4, g5, g6⟩ := hpx b A1 I1 hr
        have e := exj_IS hw0 hwT g1 g2 g4
        subst e
        exact ⟨g3, g5, g6⟩
      rcases (show w = 1 by omega) with rfl
      · refine ⟨xI, [], ⟨0, 9, 12, 13⟩, [], ht, (fun z hz => absurd hz List.not_mem_nil), by decide, by decide, (List.mem_of_getElem? (i := 215) (by decide +kernel)), (List.mem_of_getElem? (i := 229) (by decide +kernel)), fun q => ?_⟩
        refine g_astore_n (n := 13) (ls' := [_, _, _, _]) C dL_digest_12 (Or.inr ⟨_, rfl⟩) rfl (by decide) rfl ?_
        refine g_iconst (n := 14) (v := nI 1) C dL_digest_13 rfl rfl ?_
        refine G.xw ?_
        refine g_iret C hr dL_digest_14 ?_ ⟨by decide, by decide⟩
        refine ⟨L, g0, rfl, hf9, 1, by decide, rfl, fun b A1 I1 hr => ?_⟩
        obtain ⟨a1, a2, a3⟩ := hall b A1 I1 hr
        exact ⟨a1, fun h => absurd h (by decide), by rw [a2, a3]; exact CW.rd hR hB9 hC9⟩) (fun v9 L9 f9 hq => ?_)
  obtain ⟨L1, f1, hq, rfl, e1, e2⟩ := hq
  obtain ⟨-, rfl, -⟩ := hq b0 A0' I0' hr0
  have hout : gH (L1 ++ [q9]) f9 q9 (.inl (cy 2, 1, .inr (.inl g0))) := ⟨List.mem_append_right _ List.mem_cons_self, (e2 q9 List.mem_cons_self).trans hf9⟩
  refine G.sk (st' := [_, _, _]) rfl ?_
  refine g_i2l (n := 8) C dL_digest_7 rfl ?_
  refine g_last (n := 9) C dL_digest_8 hout rfl (by omega) (by decide) rfl ?_
  refine g_goto (tgt := 15) C dL_digest_9 (by decide) ?_
  refine g_iconst (n := 16) (v := nI 0) C dL_digest_15 rfl rfl ?_
  refine G.xw ?_
  refine g_iret C hr dL_digest_16 ?_ ⟨by decide, by decide⟩
  refine ⟨L1, vp_updL g0 0 b0.toInt64, rfl, va_up_self _ _ _, 0, by decide, rfl, fun b A1 I1 hr => ?_⟩
  obtain ⟨h27, hv, hcw⟩ := hq b A1 I1 hr
  cases hv
  exact ⟨h27, fun _ => if_pos rfl, hcw.ext (fun a ha => (va_up_ne _ _ (show a ≠ q9 from fun z => (e1 a ha).2 (List.mem_singleton.mpr z))).trans (e1 a ha).1)⟩

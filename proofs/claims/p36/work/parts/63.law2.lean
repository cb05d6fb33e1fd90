/-! ===== the law, II: its wrappers: what the class's call answers, or the code of what it threw ===== -/
theorem CW.ext {cy : Nat → ClassId} {co : Nat} {A : Nat → Nat → Int32} {I : Nat → Int32} {L : List Nat} {f f' : gF} (h : CW cy co A I L f) (hf : ∀ a, a ∈ L → f' a = f a) : CW cy co A I L f' := by
  obtain ⟨bk, n, X, Is, PR, PL, S, h1, h2, h3, h4⟩ := h
  exact ⟨bk, n, X, Is, PR, PL, S, h1, h2.ext (fun _ z => z) hf, h3, h4⟩
/-- no exception is another -/
def gN9 (s0 : State) : Prop := va_Nc xA xI s0 ∧ va_Nc xS xI s0 ∧ va_Nc xS xA s0
def xcd (E : String) : Int32 := if E = xI then -30 else if E = xA then -20 else -10
theorem xcd_I : xcd xI = -30 := by decide +kernel
theorem xcd_A : xcd xA = -20 := by decide +kernel
theorem xcd_S : xcd xS = -10 := by decide +kernel
/-- the call's own answer, or the code -/
def wK (Qr : Option Value → List Nat → gF → Prop) (PX : String → Prop) (L : List Nat) (f : gF) : Option Value → List Nat → gF → Prop := fun v L1 f1 => Qr v L1 f1 ∨ (L = L1 ∧ f1 = f ∧ ∃ E, PX E ∧ v = some (.int (xcd E)))
theorem kH_sets : gwH yL_sets cL_sets 6 (some .int) [(0, 62, 63, 28), (0, 62, 68, 30)] 5 := ⟨⟨(List.mem_of_getElem? (i := 165) (by decide +kernel)), by decide +kernel⟩, (List.mem_of_getElem? (i := 48) (by decide +kernel)), ⟨by decide +kernel, by decide +kernel⟩, by decide +kernel⟩
theorem kT_sets : gwS yL_sets := (List.mem_of_getElem? (i := 164) (by decide +kernel))
theorem kt_sets_0 {l : Launch} {s0 : State} {D : va_G} {cy : Nat → ClassId} (hE : gE s0 D cy) (hl : l.stackTraces = false) {L : List Nat} {f : gF} (hN : gN9 s0) {b : Nat} {fs : List Value} (hb : gH L f b (.inr (5, fs))) (x y z : Int32) {Qr : Option Value → List Nat → gF → Prop} {PX : String → Prop} (hM : gX l s0 D yX5_setFile cX5_setFile 4 (some .int) 8 2 12 [.ref b, .int x, .int y] L f Qr PX) (hv : ∀ v L1 f1, Qr v L1 f1 → ∃ u, v = some (.int u)) (hpx : ∀ E, PX E → E = xI ∨ E = xA) : gH9 l s0 D yL_sets cL_sets 6 (some .int) [(0, 62, 63, 28), (0, 62, 68, 30)] 9 2 12 [.ref b, .int (nI 0), .int x, .int y, .int z] L f (wK Qr PX L f) := by
  refine gH9.of (own := RL) hE hl (by decide +kernel) rfl rfl (Nat.le_of_ble_eq_true rfl) (fun p9 e9 s9 m9 a99 b99 t99 c9 C hr ht => ?_)
  refine G.weak (ls' := [some (.ref b), some (.int (nI 0)), some (.int x), some (.int y), some (.int z), none]) ?_ rfl (fun _ _ h => h)
  refine g_iload_n (n := 1) C dL_sets_0 rfl rfl ?_
  refine g_if_ne (n := 4) (tgt := 13) C dL_sets_1 (by decide) rfl (fun h1 => (by first | exact absurd h1 (by decide) | exact (h1 (by decide)).elim)) (fun h1 => ?_)
  refine g_aload_n (n := 5) C dL_sets_4 rfl (Or.inr ⟨_, rfl⟩) rfl ?_
  refine g_iload_n (n := 6) C dL_sets_5 rfl rfl ?_
  refine g_iload_n (n := 7) C dL_sets_6 rfl rfl ?_
  refine g_VXH (n := 10) (rest := []) C hM dL_sets_7 kM_X5_setFile kW_L_8 kV_X5_setFile hb rfl rfl rfl (Nat.le_of_ble_eq_true rfl) ⟨by decide, by decide⟩ ⟨by decide, by decide⟩ rfl (fun E hE9 => by
      rcases hpx E hE9 with rfl | rfl
      · refine ⟨xI, [], ⟨0, 62, 63, 28⟩, [⟨0, 62, 68, 30⟩], ht, (fun z hz => absurd hz List.not_mem_nil), by decide, by decide, (List.mem_of_getElem? (i := 166) (by decide +kernel)), (List.mem_of_getElem? (i := 180) (by decide +kernel)), fun q => ?_⟩
        refine g_astore (n := 65) (ls' := [_, _, _, _, _, _]) C dL_sets_63 (Or.inr ⟨_, rfl⟩) rfl (by decide) rfl ?_
        refine g_bipush (n := 67) (v := -30) C dL_sets_65 rfl rfl ?_
        refine G.xw ?_
        refine g_iret C hr dL_sets_67 ?_ ⟨by decide, by decide⟩
        exact Or.inr ⟨rfl, rfl, xI, hE9, congrArg (fun x => some (Value.int x)) xcd_I.symm⟩
      · refine ⟨xA, [⟨0, 62, 63, 28⟩], ⟨0, 62, 68, 30⟩, [], ht, (fun z hz => by rw [List.mem_singleton.mp hz]; exact Or.inr ⟨by decide, xI, (List.mem_of_getElem? (i := 166) (by decide +kernel)), hN.1⟩), by decide, by decide, (List.mem_of_getElem? (i := 167) (by decide +kernel)), (List.mem_of_getElem? (i := 251) (by decide +kernel)), fun q => ?_⟩
        refine g_astore (n := 70) (ls' := [_, _, _, _, _, _]) C dL_sets_68 (Or.inr ⟨_, rfl⟩) rfl (by decide) rfl ?_
        refine g_bipush (n := 72) (v := -20) C dL_sets_70 rfl rfl ?_
        refine G.xw ?_
        refine g_iret C hr dL_sets_72 ?_ ⟨by decide, by decide⟩
        exact Or.inr ⟨rfl, rfl, xA, hE9, congrArg (fun x => some (Value.int x)) xcd_A.symm⟩) (fun v9 L9 f9 hq => ?_)
  obtain ⟨u9, rfl⟩ := hv _ _ _ hq
  refine G.sk (st' := [_]) rfl ?_
  refine g_goto (tgt := 62) C dL_sets_10 (by decide) ?_
  refine G.xw ?_
  refine g_iret C hr dL_sets_62 ?_ ⟨by decide, by decide⟩
  exact Or.inl hq
theorem kt_sets_1 {l : Launch} {s0 : State} {D : va_G} {cy : Nat → ClassId} (hE : gE s0 D cy) (hl : l.stackTraces = false) {L : List Nat} {f : gF} (hN : gN9 s0) {b : Nat} {fs : List Value} (hb : gH L f b (.inr (5, fs))) (x y z : Int32) {Qr : Option Value → List Nat → gF → Prop} {PX : String → Prop} (hM : gX l s0 D yX5_setBase cX5_setBase 5 (some .int) 8 3 18 [.ref b, .int x, .int y, .int z] L f Qr PX) (hv : ∀ v L1 f1, Qr v L1 f1 → ∃ u, v = some (.int u)) (hpx : ∀ E, PX E → E = xI ∨ E = xA) : gH9 l s0 D yL_sets cL_sets 6 (some .int) [(0, 62, 63, 28), (0, 62, 68, 30)] 9 3 18 [.ref b, .int (nI 1), .int x, .int y, .int z] L f (wK Qr PX L f) := by
  refine gH9.of (own := RL) hE hl (by decide +kernel) rfl rfl (Nat.le_of_ble_eq_true rfl) (fun p9 e9 s9 m9 a99 b99 t99 c9 C hr ht => ?_)
  refine G.weak (ls' := [some (.ref b), some (.int (nI 1)), some (.int x), some (.int y), some (.int z), none]) ?_ rfl (fun _ _ h => h)
  refine g_iload_n (n := 1) C dL_sets_0 rfl rfl ?_
  refine g_if_ne (n := 4) (tgt := 13) C dL_sets_1 (by decide) rfl (fun h1 => ?_) (fun h1 => (by first | exact absurd h1 (by decide) | exact (h1 (by decide)).elim))
  refine g_iload_n (n := 14) C dL_sets_13 rfl rfl ?_
  refine g_iconst (n := 15) (v := nI 1) C dL_sets_14 rfl rfl ?_
  refine g_icmp_ne (n := 18) (tgt := 29) C dL_sets_15 (by decide) rfl (fun h15 => (by first | exact absurd h15 (by decide) | exact (h15 (by decide)).elim)) (fun h15 => ?_)
  refine g_aload_n (n := 19) C dL_sets_18 rfl (Or.inr ⟨_, rfl⟩) rfl ?_
  refine g_iload_n (n := 20) C dL_sets_19 rfl rfl ?_
  refine g_iload_n (n := 21) C dL_sets_20 rfl rfl ?_
  refine g_iload (n := 23) C dL_sets_21 rfl rfl ?_
  refine g_VXH (n := 26) (rest := []) C hM dL_sets_23 kM_X5_setBase kW_L_14 kV_X5_setBase hb rfl rfl rfl (Nat.le_of_ble_eq_true rfl) ⟨by decide, by decide⟩ ⟨by decide, by decide⟩ rfl (fun E hE9 => by
      rcases hpx E hE9 with rfl | rfl
      · refine ⟨xI, [], ⟨0, 62, 63, 28⟩, [⟨0, 62, 68, 30⟩], ht, (fun z hz => absurd hz List.not_mem_nil), by decide, by decide, (List.mem_of_getElem? (i := 166) (by decide +kernel)), (List.mem_of_getElem? (i := 180) (by decide +kernel)), fun q => ?_⟩
        refine g_astore (n := 65) (ls' := [_, _, _, _, _, _]) C dL_sets_63 (Or.inr ⟨_, rfl⟩) rfl (by decide) rfl ?_
        refine g_bipush (n := 67) (v := -30) C dL_sets_65 rfl rfl ?_
        refine G.xw ?_
        refine g_iret C hr dL_sets_67 ?_ ⟨by decide, by decide⟩
        exact Or.inr ⟨rfl, rfl, xI, hE9, congrArg (fun x => some (Value.int x)) xcd_I.symm⟩
      · refine ⟨xA, [⟨0, 62, 63, 28⟩], ⟨0, 62, 68, 30⟩, [], ht, (fun z hz => by rw [List.mem_singleton.mp hz]; exact Or.inr ⟨by decide, xI, (List.mem_of_getElem? (i := 166) (by decide +kernel)), hN.1⟩), by decide, by decide, (List.mem_of_getElem? (i := 167) (by decide +kernel)), (List.mem_of_getElem? (i := 251) (by decide +kernel)), fun q => ?_⟩
        refine g_astore (n := 70) (ls' := [_, _, _, _, _, _]) C dL_sets_68 (Or.inr ⟨_, rfl⟩) rfl (by decide) rfl ?_
        refine g_bipush (n := 72) (v := -20) C dL_sets_70 rfl rfl ?_
        refine G.xw ?_
        refine g_iret C hr dL_sets_72 ?_ ⟨by decide, by decide⟩
        exact Or.inr ⟨rfl, rfl, xA, hE9, congrArg (fun x => some (Value.int x)) xcd_A.symm⟩) (fun v9 L9 f9 hq => ?_)
  obtain ⟨u9, rfl⟩ := hv _ _ _ hq
  refine G.sk (st' := [_]) rfl ?_
  refine g_goto (tgt := 62) C dL_sets_26 (by decide) ?_
  refine G.xw ?_
  refine g_iret C hr dL_sets_62 ?_ ⟨by decide, by decide⟩
  exact Or.inl hq
theorem kt_sets_2 {l : Launch} {s0 : State} {D : va_G} {cy : Nat → ClassId} (hE : gE s0 D cy) (hl : l.stackTraces = false) {L : List Nat} {f : gF} (hN : gN9 s0) {b : Nat} {fs : List Value} (hb : gH L f b (.inr (5, fs))) (x y z : Int32) {Qr : Option Value → List Nat → gF → Prop} {PX : String → Prop} (hM : gX l s0 D yX5_reset cX5_reset 5 (some .int) 8 3 18 [.ref b, .int x, .int y] L f Qr PX) (hv : ∀ v L1 f1, Qr v L1 f1 → ∃ u, v = some (.int u)) (hpx : ∀ E, PX E → E = xI ∨ E = xA) : gH9 l s0 D yL_sets cL_sets 6 (some .int) [(0, 62, 63, 28), (0, 62, 68, 30)] 9 3 18 [.ref b, .int (nI 2), .int x, .int y, .int z] L f (wK Qr PX L f) := by
  refine gH9.of (own := RL) hE hl (by decide +kernel) rfl rfl (Nat.le_of_ble_eq_true rfl) (fun p9 e9 s9 m9 a99 b99 t99 c9 C hr ht => ?_)
  refine G.weak (ls' := [some (.ref b), some (.int (nI 2)), some (.int x), some (.int y), some (.int z), none]) ?_ rfl (fun _ _ h => h)
  refine g_iload_n (n := 1) C dL_sets_0 rfl rfl ?_
  refine g_if_ne (n := 4) (tgt := 13) C dL_sets_1 (by decide) rfl (fun h1 => ?_) (fun h1 => (by first | exact absurd h1 (by decide) | exact (h1 (by decide)).elim))
  refine g_iload_n (n := 14) C dL_sets_13 rfl rfl ?_
  refine g_iconst (n := 15) (v := nI 1) C dL_sets_14 rfl rfl ?_
  refine g_icmp_ne (n := 18) (tgt := 29) C dL_sets_15 (by decide) rfl (fun h15 => ?_) (fun h15 => (by first | exact absurd h15 (by decide) | exact (h15 (by decide)).elim))
  refine g_iload_n (n := 30) C dL_sets_29 rfl rfl ?_
  refine g_iconst (n := 31) (v := nI 2) C dL_sets_30 rfl rfl ?_
  refine g_icmp_ne (n := 34) (tgt := 43) C dL_sets_31 (by decide) rfl (fun h31 => (by first | exact absurd h31 (by decide) | exact (h31 (by decide)).elim)) (fun h31 => ?_)
  refine g_aload_n (n := 35) C dL_sets_34 rfl (Or.inr ⟨_, rfl⟩) rfl ?_
  refine g_iload_n (n := 36) C dL_sets_35 rfl rfl ?_
  refine g_iload_n (n := 37) C dL_sets_36 rfl rfl ?_
  refine g_VXH (n := 40) (rest := []) C hM dL_sets_37 kM_X5_reset kW_L_18 kV_X5_reset hb rfl rfl rfl (Nat.le_of_ble_eq_true rfl) ⟨by decide, by decide⟩ ⟨by decide, by decide⟩ rfl (fun E hE9 => by
      rcases hpx E hE9 with rfl | rfl
      · refine ⟨xI, [], ⟨0, 62, 63, 28⟩, [⟨0, 62, 68, 30⟩], ht, (fun z hz => absurd hz List.not_mem_nil), by decide, by decide, (List.mem_of_getElem? (i := 166) (by decide +kernel)), (List.mem_of_getElem? (i := 180) (by decide +kernel)), fun q => ?_⟩
        refine g_astore (n := 65) (ls' := [_, _, _, _, _, _]) C dL_sets_63 (Or.inr ⟨_, rfl⟩) rfl (by decide) rfl ?_
        refine g_bipush (n := 67) (v := -30) C dL_sets_65 rfl rfl ?_
        refine G.xw ?_
        refine g_iret C hr dL_sets_67 ?_ ⟨by decide, by decide⟩
        exact Or.inr ⟨rfl, rfl, xI, hE9, congrArg (fun x => some (Value.int x)) xcd_I.symm⟩
      · refine ⟨xA, [⟨0, 62, 63, 28⟩], ⟨0, 62, 68, 30⟩, [], ht, (fun z hz => by rw [List.mem_singleton.mp hz]; exact Or.inr ⟨by decide, xI, (List.mem_of_getElem? (i := 166) (by decide +kernel)), hN.1⟩), by decide, by decide, (List.mem_of_getElem? (i := 167) (by decide +kernel)), (List.mem_of_getElem? (i := 251) (by decide +kernel)), fun q => ?_⟩
        refine g_astore (n := 70) (ls' := [_, _, _, _, _, _]) C dL_sets_68 (Or.inr ⟨_, rfl⟩) rfl (by decide) rfl ?_
        refine g_bipush (n := 72) (v := -20) C dL_sets_70 rfl rfl ?_
        refine G.xw ?_
        refine g_iret C hr dL_sets_72 ?_ ⟨by decide, by decide⟩
        exact Or.inr ⟨rfl, rfl, xA, hE9, congrArg (fun x => some (Value.int x)) xcd_A.symm⟩) (fun v9 L9 f9 hq => ?_)
  obtain ⟨u9, rfl⟩ := hv _ _ _ hq
  refine G.sk (st' := [_]) rfl ?_
  refine g_goto (tgt := 62) C dL_sets_40 (by decide) ?_
  refine G.xw ?_
  refine g_iret C hr dL_sets_62 ?_ ⟨by decide, by decide⟩
  exact Or.inl hq
theorem kt_sets_3 {l : Launch} {s0 : State} {D : va_G} {cy : Nat → ClassId} (hE : gE s0 D cy) (hl : l.stackTraces = false) {L : List Nat} {f : gF} (hN : gN9 s0) {b : Nat} {fs : List Value} (hb : gH L f b (.inr (5, fs))) (x y z : Int32) {Qr : Option Value → List Nat → gF → Prop} {PX : String → Prop} (hM : gX l s0 D yX5_drop cX5_drop 4 (some .int) 8 3 18 [.ref b, .int x, .int y] L f Qr PX) (hv : ∀ v L1 f1, Qr v L1 f1 → ∃ u, v = some (.int u)) (hpx : ∀ E, PX E → E = xI ∨ E = xA) : gH9 l s0 D yL_sets cL_sets 6 (some .int) [(0, 62, 63, 28), (0, 62, 68, 30)] 9 3 18 [.ref b, .int (nI 3), .int x, .int y, .int z] L f (wK Qr PX L f) := by
  refine gH9.of (own := RL) hE hl (by decide +kernel) rfl rfl (Nat.le_of_ble_eq_true rfl) (fun p9 e9 s9 m9 a99 b99 t99 c9 C hr ht => ?_)
  refine G.weak (ls' := [some (.ref b), some (.int (nI 3)), some (.int x), some (.int y), some (.int z), none]) ?_ rfl (fun _ _ h => h)
  refine g_iload_n (n := 1) C dL_sets_0 rfl rfl ?_
  refine g_if_ne (n := 4) (tgt := 13) C dL_sets_1 (by decide) rfl (fun h1 => ?_) (fun h1 => (by first | exact absurd h1 (by decide) | exact (h1 (by decide)).elim))
  refine g_iload_n (n := 14) C dL_sets_13 rfl rfl ?_
  refine g_iconst (n := 15) (v := nI 1) C dL_sets_14 rfl rfl ?_
  refine g_icmp_ne (n := 18) (tgt := 29) C dL_sets_15 (by decide) rfl (fun h15 => ?_) (fun h15 => (by first | exact absurd h15 (by decide) | exact (h15 (by decide)).elim))
  refine g_iload_n (n := 30) C dL_sets_29 rfl rfl ?_
  refine g_iconst (n := 31) (v := nI 2) C dL_sets_30 rfl rfl ?_
  refine g_icmp_ne (n := 34) (tgt := 43) C dL_sets_31 (by decide) rfl (fun h31 => ?_) (fun h31 => (by first | exact absurd h31 (by decide) | exact (h31 (by decide)).elim))
  refine g_iload_n (n := 44) C dL_sets_43 rfl rfl ?_
  refine g_iconst (n := 45) (v := nI 3) C dL_sets_44 rfl rfl ?_
  refine g_icmp_ne (n := 48) (tgt := 57) C dL_sets_45 (by decide) rfl (fun h45 => (by first | exact absurd h45 (by decide) | exact (h45 (by decide)).elim)) (fun h45 => ?_)
  refine g_aload_n (n := 49) C dL_sets_48 rfl (Or.inr ⟨_, rfl⟩) rfl ?_
  refine g_iload_n (n := 50) C dL_sets_49 rfl rfl ?_
  refine g_iload_n (n := 51) C dL_sets_50 rfl rfl ?_
  refine g_VXH (n := 54) (rest := []) C hM dL_sets_51 kM_X5_drop kW_L_21 kV_X5_drop hb rfl rfl rfl (Nat.le_of_ble_eq_true rfl) ⟨by decide, by decide⟩ ⟨by decide, by decide⟩ rfl (fun E hE9 => by
      rcases hpx E hE9 with rfl | rfl
      · refine ⟨xI, [], ⟨0, 62, 63, 28⟩, [⟨0, 62, 68, 30⟩], ht, (fun z hz => absurd hz List.not_mem_nil), by decide, by decide, (List.mem_of_getElem? (i := 166) (by decide +kernel)), (List.mem_of_getElem? (i := 180) (by decide +kernel)), fun q => ?_⟩
        refine g_astore (n := 65) (ls' := [_, _, _, _, _, _]) C dL_sets_63 (Or.inr ⟨_, rfl⟩) rfl (by decide) rfl ?_
        refine g_bipush (n := 67) (v := -30) C dL_sets_65 rfl rfl ?_
        refine G.xw ?_
        refine g_iret C hr dL_sets_67 ?_ ⟨by decide, by decide⟩
        exact Or.inr ⟨rfl, rfl, xI, hE9, congrArg (fun x => some (Value.int x)) xcd_I.symm⟩
      · refine ⟨xA, [⟨0, 62, 63, 28⟩], ⟨0, 62, 68, 30⟩, [], ht, (fun z hz => by rw [List.mem_singleton.mp hz]; exact Or.inr ⟨by decide, xI, (List.mem_of_getElem? (i := 166) (by decide +kernel)), hN.1⟩), by decide, by decide, (List.mem_of_getElem? (i := 167) (by decide +kernel)), (List.mem_of_getElem? (i := 251) (by decide +kernel)), fun q => ?_⟩
        refine g_astore (n := 70) (ls' := [_, _, _, _, _, _]) C dL_sets_68 (Or.inr ⟨_, rfl⟩) rfl (by decide) rfl ?_
        refine g_bipush (n := 72) (v := -20) C dL_sets_70 rfl rfl ?_
        refine G.xw ?_
        refine g_iret C hr dL_sets_72 ?_ ⟨by decide, by decide⟩
        exact Or.inr ⟨rfl, rfl, xA, hE9, congrArg (fun x => some (Value.int x)) xcd_A.symm⟩) (fun v9 L9 f9 hq => ?_)
  obtain ⟨u9, rfl⟩ := hv _ _ _ hq
  refine G.sk (st' := [_]) rfl ?_
  refine g_goto (tgt := 62) C dL_sets_54 (by decide) ?_
  refine G.xw ?_
  refine g_iret C hr dL_sets_62 ?_ ⟨by decide, by decide⟩
  exact Or.inl hq
theorem kt_sets_4 {l : Launch} {s0 : State} {D : va_G} {cy : Nat → ClassId} (hE : gE s0 D cy) (hl : l.stackTraces = false) {L : List Nat} {f : gF} (hN : gN9 s0) {b : Nat} {fs : List Value} (hb : gH L f b (.inr (5, fs))) (x y z : Int32) {Qr : Option Value → List Nat → gF → Prop} {PX : String → Prop} (hM : gX l s0 D yX5_instructions cX5_instructions 2 (some .int) 8 2 12 [.ref b, .int x] L f Qr PX) (hv : ∀ v L1 f1, Qr v L1 f1 → ∃ u, v = some (.int u)) (hpx : ∀ E, PX E → E = xI ∨ E = xA) : gH9 l s0 D yL_sets cL_sets 6 (some .int) [(0, 62, 63, 28), (0, 62, 68, 30)] 9 2 12 [.ref b, .int (nI 4), .int x, .int y, .int z] L f (wK Qr PX L f) := by
  refine gH9.of (own := RL) hE hl (by decide +kernel) rfl rfl (Nat.le_of_ble_eq_true rfl) (fun p9 e9 s9 m9 a99 b99 t99 c9 C hr ht => ?_)
  refine G.weak (ls' := [some (.ref b), some (.int (nI 4)), some (.int x), some (.int y), some (.int z), none]) ?_ rfl (fun _ _ h => h)
  refine g_iload_n (n := 1) C dL_sets_0 rfl rfl ?_
  refine g_if_ne (n := 4) (tgt := 13) C dL_sets_1 (by decide) rfl (fun h1 => ?_) (fun h1 => (by first | exact absurd h1 (by decide) | exact (h1 (by decide)).elim))
  refine g_iload_n (n := 14) C dL_sets_13 rfl rfl ?_
  refine g_iconst (n := 15) (v := nI 1) C dL_sets_14 rfl rfl ?_
  refine g_icmp_ne (n := 18) (tgt := 29) C dL_sets_15 (by decide) rfl (fun h15 => ?_) (fun h15 => (by first | exact absurd h15 (by decide) | exact (h15 (by decide)).elim))
  refine g_iload_n (n := 30) C dL_sets_29 rfl rfl ?_
  refine g_iconst (n := 31) (v := nI 2) C dL_sets_30 rfl rfl ?_
  refine g_icmp_ne (n := 34) (tgt := 43) C dL_sets_31 (by decide) rfl (fun h31 => ?_) (fun h31 => (by first | exact absurd h31 (by decide) | exact (h31 (by decide)).elim))
  refine g_iload_n (n := 44) C dL_sets_43 rfl rfl ?_
  refine g_iconst (n := 45) (v := nI 3) C dL_sets_44 rfl rfl ?_
  refine g_icmp_ne (n := 48) (tgt := 57) C dL_sets_45 (by decide) rfl (fun h45 => ?_) (fun h45 => (by first | exact absurd h45 (by decide) | exact (h45 (by decide)).elim))
  refine g_aload_n (n := 58) C dL_sets_57 rfl (Or.inr ⟨_, rfl⟩) rfl ?_
  refine g_iload_n (n := 59) C dL_sets_58 rfl rfl ?_
  refine g_VXH (n := 62) (rest := []) C hM dL_sets_59 kM_X5_instructions kW_L_24 kV_X5_instructions hb rfl rfl rfl (Nat.le_of_ble_eq_true rfl) ⟨by decide, by decide⟩ ⟨by decide, by decide⟩ rfl (fun E hE9 => by
      rcases hpx E hE9 with rfl | rfl
      · refine ⟨xI, [], ⟨0, 62, 63, 28⟩, [⟨0, 62, 68, 30⟩], ht, (fun z hz => absurd hz List.not_mem_nil), by decide, by decide, (List.mem_of_getElem? (i := 166) (by decide +kernel)), (List.mem_of_getElem? (i := 180) (by decide +kernel)), fun q => ?_⟩
        refine g_astore (n := 65) (ls' := [_, _, _, _, _, _]) C dL_sets_63 (Or.inr ⟨_, rfl⟩) rfl (by decide) rfl ?_
        refine g_bipush (n := 67) (v := -30) C dL_sets_65 rfl rfl ?_
        refine G.xw ?_
        refine g_iret C hr dL_sets_67 ?_ ⟨by decide, by decide⟩
        exact Or.inr ⟨rfl, rfl, xI, hE9, congrArg (fun x => some (Value.int x)) xcd_I.symm⟩
      · refine ⟨xA, [⟨0, 62, 63, 28⟩], ⟨0, 62, 68, 30⟩, [], ht, (fun z hz => by rw [List.mem_singleton.mp hz]; exact Or.inr ⟨by decide, xI, (List.mem_of_getElem? (i := 166) (by decide +kernel)), hN.1⟩), by decide, by decide, (List.mem_of_getElem? (i := 167) (by decide +kernel)), (List.mem_of_getElem? (i := 251) (by decide +kernel)), fun q => ?_⟩
        refine g_astore (n := 70) (ls' := [_, _, _, _, _, _]) C dL_sets_68 (Or.inr ⟨_, rfl⟩) rfl (by decide) rfl ?_
        refine g_bipush (n := 72) (v := -20) C dL_sets_70 rfl rfl ?_
        refine G.xw ?_
        refine g_iret C hr dL_sets_72 ?_ ⟨by decide, by decide⟩
        exact Or.inr ⟨rfl, rfl, xA, hE9, congrArg (fun x => some (Value.int x)) xcd_A.symm⟩) (fun v9 L9 f9 hq => ?_)
  obtain ⟨u9, rfl⟩ := hv _ _ _ hq
  refine G.sk (st' := [_]) rfl ?_
  refine G.xw ?_
  refine g_iret C hr dL_sets_62 ?_ ⟨by decide, by decide⟩
  exact Or.inl hq
theorem kH_adds : gwH yL_adds cL_adds 6 (some .int) [(0, 69, 70, 28), (0, 69, 75, 30), (0, 69, 80, 47)] 5 := ⟨⟨(List.mem_of_getElem? (i := 297) (by decide +kernel)), by decide +kernel⟩, (List.mem_of_getElem? (i := 48) (by decide +kernel)), ⟨by decide +kernel, by decide +kernel⟩, by decide +kernel⟩
theorem kT_adds : gwS yL_adds := (List.mem_of_getElem? (i := 296) (by decide +kernel))
theorem kt_adds_0 {l : Launch} {s0 : State} {D : va_G} {cy : Nat → ClassId} (hE : gE s0 D cy) (hl : l.stackTraces = false) {L : List Nat} {f : gF} (hN : gN9 s0) {b : Nat} {fs : List Value} (hb : gH L f b (.inr (5, fs))) (x y z : Int32) {Qr : Option Value → List Nat → gF → Prop} {PX : String → Prop} (hM : gX l s0 D yX5_addCopy cX5_addCopy 4 (some .int) 9 6 30 [.ref b, .int x, .int y, .int z] L f Qr PX) (hv : ∀ v L1 f1, Qr v L1 f1 → ∃ u, v = some (.int u)) (hpx : ∀ E, PX E → E = xI ∨ E = xA ∨ E = xS) : gH9 l s0 D yL_adds cL_adds 6 (some .int) [(0, 69, 70, 28), (0, 69, 75, 30), (0, 69, 80, 47)] 10 6 30 [.ref b, .int (nI 0), .int x, .int y, .int z] L f (wK Qr PX L f) := by
  refine gH9.of (own := RL) hE hl (by decide +kernel) rfl rfl (Nat.le_of_ble_eq_true rfl) (fun p9 e9 s9 m9 a99 b99 t99 c9 C hr ht => ?_)
  refine G.weak (ls' := [some (.ref b), some (.int (nI 0)), some (.int x), some (.int y), some (.int z), none]) ?_ rfl (fun _ _ h => h)
  refine g_iload_n (n := 1) C dL_adds_0 rfl rfl ?_
  refine g_if_ne (n := 4) (tgt := 15) C dL_adds_1 (by decide) rfl (fun h1 => (by first | exact absurd h1 (by decide) | exact (h1 (by decide)).elim)) (fun h1 => ?_)
  refine g_aload_n (n := 5) C dL_adds_4 rfl (Or.inr ⟨_, rfl⟩) rfl ?_
  refine g_iload_n (n := 6) C dL_adds_5 rfl rfl ?_
  refine g_iload_n (n := 7) C dL_adds_6 rfl rfl ?_
  refine g_iload (n := 9) C dL_adds_7 rfl rfl ?_
  refine g_VXH (n := 12) (rest := []) C hM dL_adds_9 kM_X5_addCopy kW_L_32 kV_X5_addCopy hb rfl rfl rfl (Nat.le_of_ble_eq_true rfl) ⟨by decide, by decide⟩ ⟨by decide, by decide⟩ rfl (fun E hE9 => by
      rcases hpx E hE9 with rfl | rfl | rfl
      · refine ⟨xI, [], ⟨0, 69, 70, 28⟩, [⟨0, 69, 75, 30⟩, ⟨0, 69, 80, 47⟩], ht, (fun z hz => absurd hz List.not_mem_nil), by decide, by decide, (List.mem_of_getElem? (i := 166) (by decide +kernel)), (List.mem_of_getElem? (i := 180) (by decide +kernel)), fun q => ?_⟩
        refine g_astore (n := 72) (ls' := [_, _, _, _, _, _]) C dL_adds_70 (Or.inr ⟨_, rfl⟩) rfl (by decide) rfl ?_
        refine g_bipush (n := 74) (v := -30) C dL_adds_72 rfl rfl ?_
        refine G.xw ?_
        refine g_iret C hr dL_adds_74 ?_ ⟨by decide, by decide⟩
        exact Or.inr ⟨rfl, rfl, xI, hE9, congrArg (fun x => some (Value.int x)) xcd_I.symm⟩
      · refine ⟨xA, [⟨0, 69, 70, 28⟩], ⟨0, 69, 75, 30⟩, [⟨0, 69, 80, 47⟩], ht, (fun z hz => by rw [List.mem_singleton.mp hz]; exact Or.inr ⟨by decide, xI, (List.mem_of_getElem? (i := 166) (by decide +kernel)), hN.1⟩), by decide, by decide, (List.mem_of_getElem? (i := 167) (by decide +kernel)), (List.mem_of_getElem? (i := 251) (by decide +kernel)), fun q => ?_⟩
        refine g_astore (n := 77) (ls' := [_, _, _, _, _, _]) C dL_adds_75 (Or.inr ⟨_, rfl⟩) rfl (by decide) rfl ?_
        refine g_bipush (n := 79) (v := -20) C dL_adds_77 rfl rfl ?_
        refine G.xw ?_
        refine g_iret C hr dL_adds_79 ?_ ⟨by decide, by decide⟩
        exact Or.inr ⟨rfl, rfl, xA, hE9, congrArg (fun x => some (Value.int x)) xcd_A.symm⟩
      · refine ⟨xS, [⟨0, 69, 70, 28⟩, ⟨0, 69, 75, 30⟩], ⟨0, 69, 80, 47⟩, [], ht, (fun z hz => by
          rcases List.mem_cons.mp hz with rfl | hz
          · exact Or.inr ⟨by decide, xI, (List.mem_of_getElem? (i := 166) (by decide +kernel)), hN.2.1⟩
          · rw [List.mem_singleton.mp hz]; exact Or.inr ⟨by decide, xA, (List.mem_of_getElem? (i := 167) (by decide +kernel)), hN.2.2⟩), by decide, by decide, (List.mem_of_getElem? (i := 298) (by decide +kernel)), (List.mem_of_getElem? (i := 309) (by decide +kernel)), fun q => ?_⟩
        refine g_astore (n := 82) (ls' := [_, _, _, _, _, _]) C dL_adds_80 (Or.inr ⟨_, rfl⟩) rfl (by decide) rfl ?_
        refine g_bipush (n := 84) (v := -10) C dL_adds_82 rfl rfl ?_
        refine G.xw ?_
        refine g_iret C hr dL_adds_84 ?_ ⟨by decide, by decide⟩
        exact Or.inr ⟨rfl, rfl, xS, hE9, congrArg (fun x => some (Value.int x)) xcd_S.symm⟩) (fun v9 L9 f9 hq => ?_)
  obtain ⟨u9, rfl⟩ := hv _ _ _ hq
  refine G.sk (st' := [_]) rfl ?_
  refine g_goto (tgt := 69) C dL_adds_12 (by decide) ?_
  refine G.xw ?_
  refine g_iret C hr dL_adds_69 ?_ ⟨by decide, by decide⟩
  exact Or.inl hq
theorem kt_adds_1 {l : Launch} {s0 : State} {D : va_G} {cy : Nat → ClassId} (hE : gE s0 D cy) (hl : l.stackTraces = false) {L : List Nat} {f : gF} (hN : gN9 s0) {b : Nat} {fs : List Value} (hb : gH L f b (.inr (5, fs))) (x y z : Int32) {Qr : Option Value → List Nat → gF → Prop} {PX : String → Prop} (hM : gX l s0 D yX5_addRun cX5_addRun 4 (some .int) 9 6 30 [.ref b, .int x, .int y, .int z] L f Qr PX) (hv : ∀ v L1 f1, Qr v L1 f1 → ∃ u, v = some (.int u)) (hpx : ∀ E, PX E → E = xI ∨ E = xA ∨ E = xS) : gH9 l s0 D yL_adds cL_adds 6 (some .int) [(0, 69, 70, 28), (0, 69, 75, 30), (0, 69, 80, 47)] 10 6 30 [.ref b, .int (nI 1), .int x, .int y, .int z] L f (wK Qr PX L f) := by
  refine gH9.of (own := RL) hE hl (by decide +kernel) rfl rfl (Nat.le_of_ble_eq_true rfl) (fun p9 e9 s9 m9 a99 b99 t99 c9 C hr ht => ?_)
  refine G.weak (ls' := [some (.ref b), some (.int (nI 1)), some (.int x), some (.int y), some (.int z), none]) ?_ rfl (fun _ _ h => h)
  refine g_iload_n (n := 1) C dL_adds_0 rfl rfl ?_
  refine g_if_ne (n := 4) (tgt := 15) C dL_adds_1 (by decide) rfl (fun h1 => ?_) (fun h1 => (by first | exact absurd h1 (by decide) | exact (h1 (by decide)).elim))
  refine g_iload_n (n := 16) C dL_adds_15 rfl rfl ?_
  refine g_iconst (n := 17) (v := nI 1) C dL_adds_16 rfl rfl ?_
  refine g_icmp_ne (n := 20) (tgt := 31) C dL_adds_17 (by decide) rfl (fun h17 => (by first | exact absurd h17 (by decide) | exact (h17 (by decide)).elim)) (fun h17 => ?_)
  refine g_aload_n (n := 21) C dL_adds_20 rfl (Or.inr ⟨_, rfl⟩) rfl ?_
  refine g_iload_n (n := 22) C dL_adds_21 rfl rfl ?_
  refine g_iload_n (n := 23) C dL_adds_22 rfl rfl ?_
  refine g_iload (n := 25) C dL_adds_23 rfl rfl ?_
  refine g_VXH (n := 28) (rest := []) C hM dL_adds_25 kM_X5_addRun kW_L_35 kV_X5_addRun hb rfl rfl rfl (Nat.le_of_ble_eq_true rfl) ⟨by decide, by decide⟩ ⟨by decide, by decide⟩ rfl (fun E hE9 => by
      rcases hpx E hE9 with rfl | rfl | rfl
      · refine ⟨xI, [], ⟨0, 69, 70, 28⟩, [⟨0, 69, 75, 30⟩, ⟨0, 69, 80, 47⟩], ht, (fun z hz => absurd hz List.not_mem_nil), by decide, by decide, (List.mem_of_getElem? (i := 166) (by decide +kernel)), (List.mem_of_getElem? (i := 180) (by decide +kernel)), fun q => ?_⟩
        refine g_astore (n := 72) (ls' := [_, _, _, _, _, _]) C dL_adds_70 (Or.inr ⟨_, rfl⟩) rfl (by decide) rfl ?_
        refine g_bipush (n := 74) (v := -30) C dL_adds_72 rfl rfl ?_
        refine G.xw ?_
        refine g_iret C hr dL_adds_74 ?_ ⟨by decide, by decide⟩
        exact Or.inr ⟨rfl, rfl, xI, hE9, congrArg (fun x => some (Value.int x)) xcd_I.symm⟩
      · refine ⟨xA, [⟨0, 69, 70, 28⟩], ⟨0, 69, 75, 30⟩, [⟨0, 69, 80, 47⟩], ht, (fun z hz => by rw [List.mem_singleton.mp hz]; exact Or.inr ⟨by decide, xI, (List.mem_of_getElem? (i := 166) (by decide +kernel)), hN.1⟩), by decide, by decide, (List.mem_of_getElem? (i := 167) (by decide +kernel)), (List.mem_of_getElem? (i := 251) (by decide +kernel)), fun q => ?_⟩
        refine g_astore (n := 77) (ls' := [_, _, _, _, _, _]) C dL_adds_75 (Or.inr ⟨_, rfl⟩) rfl (by decide) rfl ?_
        refine g_bipush (n := 79) (v := -20) C dL_adds_77 rfl rfl ?_
        refine G.xw ?_
        refine g_iret C hr dL_adds_79 ?_ ⟨by decide, by decide⟩
        exact Or.inr ⟨rfl, rfl, xA, hE9, congrArg (fun x => some (Value.int x)) xcd_A.symm⟩
      · refine ⟨xS, [⟨0, 69, 70, 28⟩, ⟨0, 69, 75, 30⟩], ⟨0, 69, 80, 47⟩, [], ht, (fun z hz => by
          rcases List.mem_cons.mp hz with rfl | hz
          · exact Or.inr ⟨by decide, xI, (List.mem_of_getElem? (i := 166) (by decide +kernel)), hN.2.1⟩
          · rw [List.mem_singleton.mp hz]; exact Or.inr ⟨by decide, xA, (List.mem_of_getElem? (i := 167) (by decide +kernel)), hN.2.2⟩), by decide, by decide, (List.mem_of_getElem? (i := 298) (by decide +kernel)), (List.mem_of_getElem? (i := 309) (by decide +kernel)), fun q => ?_⟩
        refine g_astore (n := 82) (ls' := [_, _, _, _, _, _]) C dL_adds_80 (Or.inr ⟨_, rfl⟩) rfl (by decide) rfl ?_
        refine g_bipush (n := 84) (v := -10) C dL_adds_82 rfl rfl ?_
        refine G.xw ?_
        refine g_iret C hr dL_adds_84 ?_ ⟨by decide, by decide⟩
        exact Or.inr ⟨rfl, rfl, xS, hE9, congrArg (fun x => some (Value.int x)) xcd_S.symm⟩) (fun v9 L9 f9 hq => ?_)
  obtain ⟨u9, rfl⟩ := hv _ _ _ hq
  refine G.sk (st' := [_]) rfl ?_
  refine g_goto (tgt := 69) C dL_adds_28 (by decide) ?_
  refine G.xw ?_
  refine g_iret C hr dL_adds_69 ?_ ⟨by decide, by decide⟩
  exact Or.inl hq
theorem kt_adds_2 {l : Launch} {s0 : State} {D : va_G} {cy : Nat → ClassId} (hE : gE s0 D cy) (hl : l.stackTraces = false) {L : List Nat} {f : gF} (hN : gN9 s0) {b : Nat} {fs : List Value} (hb : gH L f b (.inr (5, fs))) (x y z : Int32) {Qr : Option Value → List Nat → gF → Prop} {PX : String → Prop} (hM : gX l s0 D yX5_addMove cX5_addMove 4 (some .int) 9 6 30 [.ref b, .int x, .int y, .int z] L f Qr PX) (hv : ∀ v L1 f1, Qr v L1 f1 → ∃ u, v = some (.int u)) (hpx : ∀ E, PX E → E = xI ∨ E = xA ∨ E = xS) : gH9 l s0 D yL_adds cL_adds 6 (some .int) [(0, 69, 70, 28), (0, 69, 75, 30), (0, 69, 80, 47)] 10 6 30 [.ref b, .int (nI 2), .int x, .int y, .int z] L f (wK Qr PX L f) := by
  refine gH9.of (own := RL) hE hl (by decide +kernel) rfl rfl (Nat.le_of_ble_eq_true rfl) (fun p9 e9 s9 m9 a99 b99 t99 c9 C hr ht => ?_)
  refine G.weak (ls' := [some (.ref b), some (.int (nI 2)), some (.int x), some (.int y), some (.int z), none]) ?_ rfl (fun _ _ h => h)
  refine g_iload_n (n := 1) C dL_adds_0 rfl rfl ?_
  refine g_if_ne (n := 4) (tgt := 15) C dL_adds_1 (by decide) rfl (fun h1 => ?_) (fun h1 => (by first | exact absurd h1 (by decide) | exact (h1 (by decide)).elim))
  refine g_iload_n (n := 16) C dL_adds_15 rfl rfl ?_
  refine g_iconst (n := 17) (v := nI 1) C dL_adds_16 rfl rfl ?_
  refine g_icmp_ne (n := 20) (tgt := 31) C dL_adds_17 (by decide) rfl (fun h17 => ?_) (fun h17 => (by first | exact absurd h17 (by decide) | exact (h17 (by decide)).elim))
  refine g_iload_n (n := 32) C dL_adds_31 rfl rfl ?_
  refine g_iconst (n := 33) (v := nI 2) C dL_adds_32 rfl rfl ?_
  refine g_icmp_ne (n := 36) (tgt := 47) C dL_adds_33 (by decide) rfl (fun h33 => (by first | exact absurd h33 (by decide) | exact (h33 (by decide)).elim)) (fun h33 => ?_)
  refine g_aload_n (n := 37) C dL_adds_36 rfl (Or.inr ⟨_, rfl⟩) rfl ?_
  refine g_iload_n (n := 38) C dL_adds_37 rfl rfl ?_
  refine g_iload_n (n := 39) C dL_adds_38 rfl rfl ?_
  refine g_iload (n := 41) C dL_adds_39 rfl rfl ?_
  refine g_VXH (n := 44) (rest := []) C hM dL_adds_41 kM_X5_addMove kW_L_38 kV_X5_addMove hb rfl rfl rfl (Nat.le_of_ble_eq_true rfl) ⟨by decide, by decide⟩ ⟨by decide, by decide⟩ rfl (fun E hE9 => by
      rcases hpx E hE9 with rfl | rfl | rfl
      · refine ⟨xI, [], ⟨0, 69, 70, 28⟩, [⟨0, 69, 75, 30⟩, ⟨0, 69, 80, 47⟩], ht, (fun z hz => absurd hz List.not_mem_nil), by decide, by decide, (List.mem_of_getElem? (i := 166) (by decide +kernel)), (List.mem_of_getElem? (i := 180) (by decide +kernel)), fun q => ?_⟩
        refine g_astore (n := 72) (ls' := [_, _, _, _, _, _]) C dL_adds_70 (Or.inr ⟨_, rfl⟩) rfl (by decide) rfl ?_
        refine g_bipush (n := 74) (v := -30) C dL_adds_72 rfl rfl ?_
        refine G.xw ?_
        refine g_iret C hr dL_adds_74 ?_ ⟨by decide, by decide⟩
        exact Or.inr ⟨rfl, rfl, xI, hE9, congrArg (fun x => some (Value.int x)) xcd_I.symm⟩
      · refine ⟨xA, [⟨0, 69, 70, 28⟩], ⟨0, 69, 75, 30⟩, [⟨0, 69, 80, 47⟩], ht, (fun z hz => by rw [List.mem_singleton.mp hz]; exact Or.inr ⟨by decide, xI, (List.mem_of_getElem? (i := 166) (by decide +kernel)), hN.1⟩), by decide, by decide, (List.mem_of_getElem? (i := 167) (by decide +kernel)), (List.mem_of_getElem? (i := 251) (by decide +kernel)), fun q => ?_⟩
        refine g_astore (n := 77) (ls' := [_, _, _, _, _, _]) C dL_adds_75 (Or.inr ⟨_, rfl⟩) rfl (by decide) rfl ?_
        refine g_bipush (n := 79) (v := -20) C dL_adds_77 rfl rfl ?_
        refine G.xw ?_
        refine g_iret C hr dL_adds_79 ?_ ⟨by decide, by decide⟩
        exact Or.inr ⟨rfl, rfl, xA, hE9, congrArg (fun x => some (Value.int x)) xcd_A.symm⟩
      · refine ⟨xS, [⟨0, 69, 70, 28⟩, ⟨0, 69, 75, 30⟩], ⟨0, 69, 80, 47⟩, [], ht, (fun z hz => by
          rcases List.mem_cons.mp hz with rfl | hz
          · exact Or.inr ⟨by decide, xI, (List.mem_of_getElem? (i := 166) (by decide +kernel)), hN.2.1⟩
          · rw [List.mem_singleton.mp hz]; exact Or.inr ⟨by decide, xA, (List.mem_of_getElem? (i := 167) (by decide +kernel)), hN.2.2⟩), by decide, by decide, (List.mem_of_getElem? (i := 298) (by decide +kernel)), (List.mem_of_getElem? (i := 309) (by decide +kernel)), fun q => ?_⟩
        refine g_astore (n := 82) (ls' := [_, _, _, _, _, _]) C dL_adds_80 (Or.inr ⟨_, rfl⟩) rfl (by decide) rfl ?_
        refine g_bipush (n := 84) (v := -10) C dL_adds_82 rfl rfl ?_
        refine G.xw ?_
        refine g_iret C hr dL_adds_84 ?_ ⟨by decide, by decide⟩
        exact Or.inr ⟨rfl, rfl, xS, hE9, congrArg (fun x => some (Value.int x)) xcd_S.symm⟩) (fun v9 L9 f9 hq => ?_)
  obtain ⟨u9, rfl⟩ := hv _ _ _ hq
  refine G.sk (st' := [_]) rfl ?_
  refine g_goto (tgt := 69) C dL_adds_44 (by decide) ?_
  refine G.xw ?_
  refine g_iret C hr dL_adds_69 ?_ ⟨by decide, by decide⟩
  exact Or.inl hq
theorem kt_adds_3 {l : Launch} {s0 : State} {D : va_G} {cy : Nat → ClassId} (hE : gE s0 D cy) (hl : l.stackTraces = false) {L : List Nat} {f : gF} (hN : gN9 s0) {b : Nat} {fs : List Value} (hb : gH L f b (.inr (5, fs))) (x y z : Int32) {Qr : Option Value → List Nat → gF → Prop} {PX : String → Prop} (hM : gX l s0 D yX5_addRemove cX5_addRemove 3 (some .int) 9 5 24 [.ref b, .int x, .int y] L f Qr PX) (hv : ∀ v L1 f1, Qr v L1 f1 → ∃ u, v = some (.int u)) (hpx : ∀ E, PX E → E = xI ∨ E = xA ∨ E = xS) : gH9 l s0 D yL_adds cL_adds 6 (some .int) [(0, 69, 70, 28), (0, 69, 75, 30), (0, 69, 80, 47)] 10 5 24 [.ref b, .int (nI 3), .int x, .int y, .int z] L f (wK Qr PX L f) := by
  refine gH9.of (own := RL) hE hl (by decide +kernel) rfl rfl (Nat.le_of_ble_eq_true rfl) (fun p9 e9 s9 m9 a99 b99 t99 c9 C hr ht => ?_)
  refine G.weak (ls' := [some (.ref b), some (.int (nI 3)), some (.int x), some (.int y), some (.int z), none]) ?_ rfl (fun _ _ h => h)
  refine g_iload_n (n := 1) C dL_adds_0 rfl rfl ?_
  refine g_if_ne (n := 4) (tgt := 15) C dL_adds_1 (by decide) rfl (fun h1 => ?_) (fun h1 => (by first | exact absurd h1 (by decide) | exact (h1 (by decide)).elim))
  refine g_iload_n (n := 16) C dL_adds_15 rfl rfl ?_
  refine g_iconst (n := 17) (v := nI 1) C dL_adds_16 rfl rfl ?_
  refine g_icmp_ne (n := 20) (tgt := 31) C dL_adds_17 (by decide) rfl (fun h17 => ?_) (fun h17 => (by first | exact absurd h17 (by decide) | exact (h17 (by decide)).elim))
  refine g_iload_n (n := 32) C dL_adds_31 rfl rfl ?_
  refine g_iconst (n := 33) (v := nI 2) C dL_adds_32 rfl rfl ?_
  refine g_icmp_ne (n := 36) (tgt := 47) C dL_adds_33 (by decide) rfl (fun h33 => ?_) (fun h33 => (by first | exact absurd h33 (by decide) | exact (h33 (by decide)).elim))
  refine g_iload_n (n := 48) C dL_adds_47 rfl rfl ?_
  refine g_iconst (n := 49) (v := nI 3) C dL_adds_48 rfl rfl ?_
  refine g_icmp_ne (n := 52) (tgt := 61) C dL_adds_49 (by decide) rfl (fun h49 => (by first | exact absurd h49 (by decide) | exact (h49 (by decide)).elim)) (fun h49 => ?_)
  refine g_aload_n (n := 53) C dL_adds_52 rfl (Or.inr ⟨_, rfl⟩) rfl ?_
  refine g_iload_n (n := 54) C dL_adds_53 rfl rfl ?_
  refine g_iload_n (n := 55) C dL_adds_54 rfl rfl ?_
  refine g_VXH (n := 58) (rest := []) C hM dL_adds_55 kM_X5_addRemove kW_L_41 kV_X5_addRemove hb rfl rfl rfl (Nat.le_of_ble_eq_true rfl) ⟨by decide, by decide⟩ ⟨by decide, by decide⟩ rfl (fun E hE9 => by
      rcases hpx E hE9 with rfl | rfl | rfl
      · refine ⟨xI, [], ⟨0, 69, 70, 28⟩, [⟨0, 69, 75, 30⟩, ⟨0, 69, 80, 47⟩], ht, (fun z hz => absurd hz List.not_mem_nil), by decide, by decide, (List.mem_of_getElem? (i := 166) (by decide +kernel)), (List.mem_of_getElem? (i := 180) (by decide +kernel)), fun q => ?_⟩
        refine g_astore (n := 72) (ls' := [_, _, _, _, _, _]) C dL_adds_70 (Or.inr ⟨_, rfl⟩) rfl (by decide) rfl ?_
        refine g_bipush (n := 74) (v := -30) C dL_adds_72 rfl rfl ?_
        refine G.xw ?_
        refine g_iret C hr dL_adds_74 ?_ ⟨by decide, by decide⟩
        exact Or.inr ⟨rfl, rfl, xI, hE9, congrArg (fun x => some (Value.int x)) xcd_I.symm⟩
      · refine ⟨xA, [⟨0, 69, 70, 28⟩], ⟨0, 69, 75, 30⟩, [⟨0, 69, 80, 47⟩], ht, (fun z hz => by rw [List.mem_singleton.mp hz]; exact Or.inr ⟨by decide, xI, (List.mem_of_getElem? (i := 166) (by decide +kernel)), hN.1⟩), by decide, by decide, (List.mem_of_getElem? (i := 167) (by decide +kernel)), (List.mem_of_getElem? (i := 251) (by decide +kernel)), fun q => ?_⟩
        refine g_astore (n := 77) (ls' := [_, _, _, _, _, _]) C dL_adds_75 (Or.inr ⟨_, rfl⟩) rfl (by decide) rfl ?_
        refine g_bipush (n := 79) (v := -20) C dL_adds_77 rfl rfl ?_
        refine G.xw ?_
        refine g_iret C hr dL_adds_79 ?_ ⟨by decide, by decide⟩
        exact Or.inr ⟨rfl, rfl, xA, hE9, congrArg (fun x => some (Value.int x)) xcd_A.symm⟩
      · refine ⟨xS, [⟨0, 69, 70, 28⟩, ⟨0, 69, 75, 30⟩], ⟨0, 69, 80, 47⟩, [], ht, (fun z hz => by
          rcases List.mem_cons.mp hz with rfl | hz
          · exact Or.inr ⟨by decide, xI, (List.mem_of_getElem? (i := 166) (by decide +kernel)), hN.2.1⟩
          · rw [List.mem_singleton.mp hz]; exact Or.inr ⟨by decide, xA, (List.mem_of_getElem? (i := 167) (by decide +kernel)), hN.2.2⟩), by decide, by decide, (List.mem_of_getElem? (i := 298) (by decide +kernel)), (List.mem_of_getElem? (i := 309) (by decide +kernel)), fun q => ?_⟩
        refine g_astore (n := 82) (ls' := [_, _, _, _, _, _]) C dL_adds_80 (Or.inr ⟨_, rfl⟩) rfl (by decide) rfl ?_
        refine g_bipush (n := 84) (v := -10) C dL_adds_82 rfl rfl ?_
        refine G.xw ?_
        refine g_iret C hr dL_adds_84 ?_ ⟨by decide, by decide⟩
        exact Or.inr ⟨rfl, rfl, xS, hE9, congrArg (fun x => some (Value.int x)) xcd_S.symm⟩) (fun v9 L9 f9 hq => ?_)
  obtain ⟨u9, rfl⟩ := hv _ _ _ hq
  refine G.sk (st' := [_]) rfl ?_
  refine g_goto (tgt := 69) C dL_adds_58 (by decide) ?_
  refine G.xw ?_
  refine g_iret C hr dL_adds_69 ?_ ⟨by decide, by decide⟩
  exact Or.inl hq
theorem kt_adds_4 {l : Launch} {s0 : State} {D : va_G} {cy : Nat → ClassId} (hE : gE s0 D cy) (hl : l.stackTraces = false) {L : List Nat} {f : gF} (hN : gN9 s0) {b : Nat} {fs : List Value} (hb : gH L f b (.inr (5, fs))) (x y z : Int32) {Qr : Option Value → List Nat → gF → Prop} {PX : String → Prop} (hM : gX l s0 D yX5_addSet cX5_addSet 4 (some .int) 9 5 24 [.ref b, .int x, .int y, .int z] L f Qr PX) (hv : ∀ v L1 f1, Qr v L1 f1 → ∃ u, v = some (.int u)) (hpx : ∀ E, PX E → E = xI ∨ E = xA ∨ E = xS) : gH9 l s0 D yL_adds cL_adds 6 (some .int) [(0, 69, 70, 28), (0, 69, 75, 30), (0, 69, 80, 47)] 10 5 24 [.ref b, .int (nI 4), .int x, .int y, .int z] L f (wK Qr PX L f) := by
  refine gH9.of (own := RL) hE hl (by decide +kernel) rfl rfl (Nat.le_of_ble_eq_true rfl) (fun p9 e9 s9 m9 a99 b99 t99 c9 C hr ht => ?_)
  refine G.weak (ls' := [some (.ref b), some (.int (nI 4)), some (.int x), some (.int y), some (.int z), none]) ?_ rfl (fun _ _ h => h)
  refine g_iload_n (n := 1) C dL_adds_0 rfl rfl ?_
  refine g_if_ne (n := 4) (tgt := 15) C dL_adds_1 (by decide) rfl (fun h1 => ?_) (fun h1 => (by first | exact absurd h1 (by decide) | exact (h1 (by decide)).elim))
  refine g_iload_n (n := 16) C dL_adds_15 rfl rfl ?_
  refine g_iconst (n := 17) (v := nI 1) C dL_adds_16 rfl rfl ?_
  refine g_icmp_ne (n := 20) (tgt := 31) C dL_adds_17 (by decide) rfl (fun h17 => ?_) (fun h17 => (by first | exact absurd h17 (by decide) | exact (h17 (by decide)).elim))
  refine g_iload_n (n := 32) C dL_adds_31 rfl rfl ?_
  refine g_iconst (n := 33) (v := nI 2) C dL_adds_32 rfl rfl ?_
  refine g_icmp_ne (n := 36) (tgt := 47) C dL_adds_33 (by decide) rfl (fun h33 => ?_) (fun h33 => (by first | exact absurd h33 (by decide) | exact (h33 (by decide)).elim))
  refine g_iload_n (n := 48) C dL_adds_47 rfl rfl ?_
  refine g_iconst (n := 49) (v := nI 3) C dL_adds_48 rfl rfl ?_
  refine g_icmp_ne (n := 52) (tgt := 61) C dL_adds_49 (by decide) rfl (fun h49 => ?_) (fun h49 => (by first | exact absurd h49 (by decide) | exact (h49 (by decide)).elim))
  refine g_aload_n (n := 62) C dL_adds_61 rfl (Or.inr ⟨_, rfl⟩) rfl ?_
  refine g_iload_n (n := 63) C dL_adds_62 rfl rfl ?_
  refine g_iload_n (n := 64) C dL_adds_63 rfl rfl ?_
  refine g_iload (n := 66) C dL_adds_64 rfl rfl ?_
  refine g_VXH (n := 69) (rest := []) C hM dL_adds_66 kM_X5_addSet kW_L_44 kV_X5_addSet hb rfl rfl rfl (Nat.le_of_ble_eq_true rfl) ⟨by decide, by decide⟩ ⟨by decide, by decide⟩ rfl (fun E hE9 => by
      rcases hpx E hE9 with rfl | rfl | rfl
      · refine ⟨xI, [], ⟨0, 69, 70, 28⟩, [⟨0, 69, 75, 30⟩, ⟨0, 69, 80, 47⟩], ht, (fun z hz => absurd hz List.not_mem_nil), by decide, by decide, (List.mem_of_getElem? (i := 166) (by decide +kernel)), (List.mem_of_getElem? (i := 180) (by decide +kernel)), fun q => ?_⟩
        refine g_astore (n := 72) (ls' := [_, _, _, _, _, _]) C dL_adds_70 (Or.inr ⟨_, rfl⟩) rfl (by decide) rfl ?_
        refine g_bipush (n := 74) (v := -30) C dL_adds_72 rfl rfl ?_
        refine G.xw ?_
        refine g_iret C hr dL_adds_74 ?_ ⟨by decide, by decide⟩
        exact Or.inr ⟨rfl, rfl, xI, hE9, congrArg (fun x => some (Value.int x)) xcd_I.symm⟩
      · refine ⟨xA, [⟨0, 69, 70, 28⟩], ⟨0, 69, 75, 30⟩, [⟨0, 69, 80, 47⟩], ht, (fun z hz => by rw [List.mem_singleton.mp hz]; exact Or.inr ⟨by decide, xI, (List.mem_of_getElem? (i := 166) (by decide +kernel)), hN.1⟩), by decide, by decide, (List.mem_of_getElem? (i := 167) (by decide +kernel)), (List.mem_of_getElem? (i := 251) (by decide +kernel)), fun q => ?_⟩
        refine g_astore (n := 77) (ls' := [_, _, _, _, _, _]) C dL_adds_75 (Or.inr ⟨_, rfl⟩) rfl (by decide) rfl ?_
        refine g_bipush (n := 79) (v := -20) C dL_adds_77 rfl rfl ?_
        refine G.xw ?_
        refine g_iret C hr dL_adds_79 ?_ ⟨by decide, by decide⟩
        exact Or.inr ⟨rfl, rfl, xA, hE9, congrArg (fun x => some (Value.int x)) xcd_A.symm⟩
      · refine ⟨xS, [⟨0, 69, 70, 28⟩, ⟨0, 69, 75, 30⟩], ⟨0, 69, 80, 47⟩, [], ht, (fun z hz => by
          rcases List.mem_cons.mp hz with rfl | hz
          · exact Or.inr ⟨by decide, xI, (List.mem_of_getElem? (i := 166) (by decide +kernel)), hN.2.1⟩
          · rw [List.mem_singleton.mp hz]; exact Or.inr ⟨by decide, xA, (List.mem_of_getElem? (i := 167) (by decide +kernel)), hN.2.2⟩), by decide, by decide, (List.mem_of_getElem? (i := 298) (by decide +kernel)), (List.mem_of_getElem? (i := 309) (by decide +kernel)), fun q => ?_⟩
        refine g_astore (n := 82) (ls' := [_, _, _, _, _, _]) C dL_adds_80 (Or.inr ⟨_, rfl⟩) rfl (by decide) rfl ?_
        refine g_bipush (n := 84) (v := -10) C dL_adds_82 rfl rfl ?_
        refine G.xw ?_
        refine g_iret C hr dL_adds_84 ?_ ⟨by decide, by decide⟩
        exact Or.inr ⟨rfl, rfl, xS, hE9, congrArg (fun x => some (Value.int x)) xcd_S.symm⟩) (fun v9 L9 f9 hq => ?_)
  obtain ⟨u9, rfl⟩ := hv _ _ _ hq
  refine G.sk (st' := [_]) rfl ?_
  refine G.xw ?_
  refine g_iret C hr dL_adds_69 ?_ ⟨by decide, by decide⟩
  exact Or.inl hq
theorem kH_builds : gwH yL_builds cL_builds 4 (some .int) [(0, 54, 55, 28), (0, 54, 59, 47)] 3 := ⟨⟨(List.mem_of_getElem? (i := 363) (by decide +kernel)), by decide +kernel⟩, (List.mem_of_getElem? (i := 48) (by decide +kernel)), ⟨by decide +kernel, by decide +kernel⟩, by decide +kernel⟩
theorem kT_builds : gwS yL_builds := (List.mem_of_getElem? (i := 362) (by decide +kernel))
theorem kt_builds_0 {l : Launch} {s0 : State} {D : va_G} {cy : Nat → ClassId} (hE : gE s0 D cy) (hl : l.stackTraces = false) {L : List Nat} {f : gF} (hN : gN9 s0) {b : Nat} {fs : List Value} (hb : gH L f b (.inr (5, fs))) (x : Int32) {Qr : Option Value → List Nat → gF → Prop} {PX : String → Prop} (hM : gX l s0 D yX5_start cX5_start 4 (some .int) 8 7 54 [.ref b, .int x] L f Qr PX) (hv : ∀ v L1 f1, Qr v L1 f1 → ∃ u, v = some (.int u)) (hpx : ∀ E, PX E → E = xI ∨ E = xS) : gH9 l s0 D yL_builds cL_builds 4 (some .int) [(0, 54, 55, 28), (0, 54, 59, 47)] 9 7 54 [.ref b, .int (nI 0), .int x] L f (wK Qr PX L f) := by
  refine gH9.of (own := RL) hE hl (by decide +kernel) rfl rfl (Nat.le_of_ble_eq_true rfl) (fun p9 e9 s9 m9 a99 b99 t99 c9 C hr ht => ?_)
  refine G.weak (ls' := [some (.ref b), some (.int (nI 0)), some (.int x), none]) ?_ rfl (fun _ _ h => h)
  refine g_iload_n (n := 1) C dL_builds_0 rfl rfl ?_
  refine g_if_ne (n := 4) (tgt := 12) C dL_builds_1 (by decide) rfl (fun h1 => (by first | exact absurd h1 (by decide) | exact (h1 (by decide)).elim)) (fun h1 => ?_)
  refine g_aload_n (n := 5) C dL_builds_4 rfl (Or.inr ⟨_, rfl⟩) rfl ?_
  refine g_iload_n (n := 6) C dL_builds_5 rfl rfl ?_
  refine g_VXH (n := 9) (rest := []) C hM dL_builds_6 kM_X5_start kW_L_49 kV_X5_start hb rfl rfl rfl (Nat.le_of_ble_eq_true rfl) ⟨by decide, by decide⟩ ⟨by decide, by decide⟩ rfl (fun E hE9 => by
      rcases hpx E hE9 with rfl | rfl
      · refine ⟨xI, [], ⟨0, 54, 55, 28⟩, [⟨0, 54, 59, 47⟩], ht, (fun z hz => absurd hz List.not_mem_nil), by decide, by decide, (List.mem_of_getElem? (i := 166) (by decide +kernel)), (List.mem_of_getElem? (i := 180) (by decide +kernel)), fun q => ?_⟩
        refine g_astore_n (n := 56) (ls' := [_, _, _, _]) C dL_builds_55 (Or.inr ⟨_, rfl⟩) rfl (by decide) rfl ?_
        refine g_bipush (n := 58) (v := -30) C dL_builds_56 rfl rfl ?_
        refine G.xw ?_
        refine g_iret C hr dL_builds_58 ?_ ⟨by decide, by decide⟩
        exact Or.inr ⟨rfl, rfl, xI, hE9, congrArg (fun x => some (Value.int x)) xcd_I.symm⟩
      · refine ⟨xS, [⟨0, 54, 55, 28⟩], ⟨0, 54, 59, 47⟩, [], ht, (fun z hz => by rw [List.mem_singleton.mp hz]; exact Or.inr ⟨by decide, xI, (List.mem_of_getElem? (i := 166) (by decide +kernel)), hN.2.1⟩), by decide, by decide, (List.mem_of_getElem? (i := 298) (by decide +kernel)), (List.mem_of_getElem? (i := 309) (by decide +kernel)), fun q => ?_⟩
        refine g_astore_n (n := 60) (ls' := [_, _, _, _]) C dL_builds_59 (Or.inr ⟨_, rfl⟩) rfl (by decide) rfl ?_
        refine g_bipush (n := 62) (v := -10) C dL_builds_60 rfl rfl ?_
        refine G.xw ?_
        refine g_iret C hr dL_builds_62 ?_ ⟨by decide, by decide⟩
        exact Or.inr ⟨rfl, rfl, xS, hE9, congrArg (fun x => some (Value.int x)) xcd_S.symm⟩) (fun v9 L9 f9 hq => ?_)
  obtain ⟨u9, rfl⟩ := hv _ _ _ hq
  refine G.sk (st' := [_]) rfl ?_
  refine g_goto (tgt := 54) C dL_builds_9 (by decide) ?_
  refine G.xw ?_
  refine g_iret C hr dL_builds_54 ?_ ⟨by decide, by decide⟩
  exact Or.inl hq
theorem kt_builds_1 {l : Launch} {s0 : State} {D : va_G} {cy : Nat → ClassId} (hE : gE s0 D cy) (hl : l.stackTraces = false) {L : List Nat} {f : gF} (hN : gN9 s0) {b : Nat} {fs : List Value} (hb : gH L f b (.inr (5, fs))) (x : Int32) {Qr : Option Value → List Nat → gF → Prop} {PX : String → Prop} (hM : gX l s0 D yX5_step cX5_step 5 (some .int) 7 5 42 [.ref b] L f Qr PX) (hv : ∀ v L1 f1, Qr v L1 f1 → ∃ u, v = some (.int u)) (hpx : ∀ E, PX E → E = xI ∨ E = xS) : gH9 l s0 D yL_builds cL_builds 4 (some .int) [(0, 54, 55, 28), (0, 54, 59, 47)] 8 5 42 [.ref b, .int (nI 1), .int x] L f (wK Qr PX L f) := by
  refine gH9.of (own := RL) hE hl (by decide +kernel) rfl rfl (Nat.le_of_ble_eq_true rfl) (fun p9 e9 s9 m9 a99 b99 t99 c9 C hr ht => ?_)
  refine G.weak (ls' := [some (.ref b), some (.int (nI 1)), some (.int x), none]) ?_ rfl (fun _ _ h => h)
  refine g_iload_n (n := 1) C dL_builds_0 rfl rfl ?_
  refine g_if_ne (n := 4) (tgt := 12) C dL_builds_1 (by decide) rfl (fun h1 => ?_) (fun h1 => (by first | exact absurd h1 (by decide) | exact (h1 (by decide)).elim))
  refine g_iload_n (n := 13) C dL_builds_12 rfl rfl ?_
  refine g_iconst (n := 14) (v := nI 1) C dL_builds_13 rfl rfl ?_
  refine g_icmp_ne (n := 17) (tgt := 24) C dL_builds_14 (by decide) rfl (fun h14 => (by first | exact absurd h14 (by decide) | exact (h14 (by decide)).elim)) (fun h14 => ?_)
  refine g_aload_n (n := 18) C dL_builds_17 rfl (Or.inr ⟨_, rfl⟩) rfl ?_
  refine g_VXH (n := 21) (rest := []) C hM dL_builds_18 kM_X5_step kW_L_52 kV_X5_step hb rfl rfl rfl (Nat.le_of_ble_eq_true rfl) ⟨by decide, by decide⟩ ⟨by decide, by decide⟩ rfl (fun E hE9 => by
      rcases hpx E hE9 with rfl | rfl
      · refine ⟨xI, [], ⟨0, 54, 55, 28⟩, [⟨0, 54, 59, 47⟩], ht, (fun z hz => absurd hz List.not_mem_nil), by decide, by decide, (List.mem_of_getElem? (i := 166) (by decide +kernel)), (List.mem_of_getElem? (i := 180) (by decide +kernel)), fun q => ?_⟩
        refine g_astore_n (n := 56) (ls' := [_, _, _, _]) C dL_builds_55 (Or.inr ⟨_, rfl⟩) rfl (by decide) rfl ?_
        refine g_bipush (n := 58) (v := -30) C dL_builds_56 rfl rfl ?_
        refine G.xw ?_
        refine g_iret C hr dL_builds_58 ?_ ⟨by decide, by decide⟩
        exact Or.inr ⟨rfl, rfl, xI, hE9, congrArg (fun x => some (Value.int x)) xcd_I.symm⟩
      · refine ⟨xS, [⟨0, 54, 55, 28⟩], ⟨0, 54, 59, 47⟩, [], ht, (fun z hz => by rw [List.mem_singleton.mp hz]; exact Or.inr ⟨by decide, xI, (List.mem_of_getElem? (i := 166) (by decide +kernel)), hN.2.1⟩), by decide, by decide, (List.mem_of_getElem? (i := 298) (by decide +kernel)), (List.mem_of_getElem? (i := 309) (by decide +kernel)), fun q => ?_⟩
        refine g_astore_n (n := 60) (ls' := [_, _, _, _]) C dL_builds_59 (Or.inr ⟨_, rfl⟩) rfl (by decide) rfl ?_
        refine g_bipush (n := 62) (v := -10) C dL_builds_60 rfl rfl ?_
        refine G.xw ?_
        refine g_iret C hr dL_builds_62 ?_ ⟨by decide, by decide⟩
        exact Or.inr ⟨rfl, rfl, xS, hE9, congrArg (fun x => some (Value.int x)) xcd_S.symm⟩) (fun v9 L9 f9 hq => ?_)
  obtain ⟨u9, rfl⟩ := hv _ _ _ hq
  refine G.sk (st' := [_]) rfl ?_
  refine g_goto (tgt := 54) C dL_builds_21 (by decide) ?_
  refine G.xw ?_
  refine g_iret C hr dL_builds_54 ?_ ⟨by decide, by decide⟩
  exact Or.inl hq
theorem kt_builds_2 {l : Launch} {s0 : State} {D : va_G} {cy : Nat → ClassId} (hE : gE s0 D cy) (hl : l.stackTraces = false) {L : List Nat} {f : gF} (hN : gN9 s0) {b : Nat} {fs : List Value} (hb : gH L f b (.inr (5, fs))) (x : Int32) {Qr : Option Value → List Nat → gF → Prop} {PX : String → Prop} (hM : gX l s0 D yX5_build cX5_build 3 (some .int) 9 57 474 [.ref b, .int x] L f Qr PX) (hv : ∀ v L1 f1, Qr v L1 f1 → ∃ u, v = some (.int u)) (hpx : ∀ E, PX E → E = xI ∨ E = xS) : gH9 l s0 D yL_builds cL_builds 4 (some .int) [(0, 54, 55, 28), (0, 54, 59, 47)] 10 57 474 [.ref b, .int (nI 2), .int x] L f (wK Qr PX L f) := by
  refine gH9.of (own := RL) hE hl (by decide +kernel) rfl rfl (Nat.le_of_ble_eq_true rfl) (fun p9 e9 s9 m9 a99 b99 t99 c9 C hr ht => ?_)
  refine G.weak (ls' := [some (.ref b), some (.int (nI 2)), some (.int x), none]) ?_ rfl (fun _ _ h => h)
  refine g_iload_n (n := 1) C dL_builds_0 rfl rfl ?_
  refine g_if_ne (n := 4) (tgt := 12) C dL_builds_1 (by decide) rfl (fun h1 => ?_) (fun h1 => (by first | exact absurd h1 (by decide) | exact (h1 (by decide)).elim))
  refine g_iload_n (n := 13) C dL_builds_12 rfl rfl ?_
  refine g_iconst (n := 14) (v := nI 1) C dL_builds_13 rfl rfl ?_
  refine g_icmp_ne (n := 17) (tgt := 24) C dL_builds_14 (by decide) rfl (fun h14 => ?_) (fun h14 => (by first | exact absurd h14 (by decide) | exact (h14 (by decide)).elim))
  refine g_iload_n (n := 25) C dL_builds_24 rfl rfl ?_
  refine g_iconst (n := 26) (v := nI 2) C dL_builds_25 rfl rfl ?_
  refine g_icmp_ne (n := 29) (tgt := 37) C dL_builds_26 (by decide) rfl (fun h26 => (by first | exact absurd h26 (by decide) | exact (h26 (by decide)).elim)) (fun h26 => ?_)
  refine g_aload_n (n := 30) C dL_builds_29 rfl (Or.inr ⟨_, rfl⟩) rfl ?_
  refine g_iload_n (n := 31) C dL_builds_30 rfl rfl ?_
  refine g_VXH (n := 34) (rest := []) C hM dL_builds_31 kM_X5_build kW_L_56 kV_X5_build hb rfl rfl rfl (Nat.le_of_ble_eq_true rfl) ⟨by decide, by decide⟩ ⟨by decide, by decide⟩ rfl (fun E hE9 => by
      rcases hpx E hE9 with rfl | rfl
      · refine ⟨xI, [], ⟨0, 54, 55, 28⟩, [⟨0, 54, 59, 47⟩], ht, (fun z hz => absurd hz List.not_mem_nil), by decide, by decide, (List.mem_of_getElem? (i := 166) (by decide +kernel)), (List.mem_of_getElem? (i := 180) (by decide +kernel)), fun q => ?_⟩
        refine g_astore_n (n := 56) (ls' := [_, _, _, _]) C dL_builds_55 (Or.inr ⟨_, rfl⟩) rfl (by decide) rfl ?_
        refine g_bipush (n := 58) (v := -30) C dL_builds_56 rfl rfl ?_
        refine G.xw ?_
        refine g_iret C hr dL_builds_58 ?_ ⟨by decide, by decide⟩
        exact Or.inr ⟨rfl, rfl, xI, hE9, congrArg (fun x => some (Value.int x)) xcd_I.symm⟩
      · refine ⟨xS, [⟨0, 54, 55, 28⟩], ⟨0, 54, 59, 47⟩, [], ht, (fun z hz => by rw [List.mem_singleton.mp hz]; exact Or.inr ⟨by decide, xI, (List.mem_of_getElem? (i := 166) (by decide +kernel)), hN.2.1⟩), by decide, by decide, (List.mem_of_getElem? (i := 298) (by decide +kernel)), (List.mem_of_getElem? (i := 309) (by decide +kernel)), fun q => ?_⟩
        refine g_astore_n (n := 60) (ls' := [_, _, _, _]) C dL_builds_59 (Or.inr ⟨_, rfl⟩) rfl (by decide) rfl ?_
        refine g_bipush (n := 62) (v := -10) C dL_builds_60 rfl rfl ?_
        refine G.xw ?_
        refine g_iret C hr dL_builds_62 ?_ ⟨by decide, by decide⟩
        exact Or.inr ⟨rfl, rfl, xS, hE9, congrArg (fun x => some (Value.int x)) xcd_S.symm⟩) (fun v9 L9 f9 hq => ?_)
  obtain ⟨u9, rfl⟩ := hv _ _ _ hq
  refine G.sk (st' := [_]) rfl ?_
  refine g_goto (tgt := 54) C dL_builds_34 (by decide) ?_
  refine G.xw ?_
  refine g_iret C hr dL_builds_54 ?_ ⟨by decide, by decide⟩
  exact Or.inl hq
theorem kt_builds_3 {l : Launch} {s0 : State} {D : va_G} {cy : Nat → ClassId} (hE : gE s0 D cy) (hl : l.stackTraces = false) {L : List Nat} {f : gF} (hN : gN9 s0) {b : Nat} {fs : List Value} (hb : gH L f b (.inr (5, fs))) (x : Int32) {Qr : Option Value → List Nat → gF → Prop} {PX : String → Prop} (hM : gX l s0 D yX5_cleanDigest cX5_cleanDigest 7 (some .int) 8 5 42 [.ref b, .int x] L f Qr PX) (hv : ∀ v L1 f1, Qr v L1 f1 → ∃ u, v = some (.int u)) (hpx : ∀ E, PX E → E = xI ∨ E = xS) : gH9 l s0 D yL_builds cL_builds 4 (some .int) [(0, 54, 55, 28), (0, 54, 59, 47)] 9 5 42 [.ref b, .int (nI 3), .int x] L f (wK Qr PX L f) := by
  refine gH9.of (own := RL) hE hl (by decide +kernel) rfl rfl (Nat.le_of_ble_eq_true rfl) (fun p9 e9 s9 m9 a99 b99 t99 c9 C hr ht => ?_)
  refine G.weak (ls' := [some (.ref b), some (.int (nI 3)), some (.int x), none]) ?_ rfl (fun _ _ h => h)
  refine g_iload_n (n := 1) C dL_builds_0 rfl rfl ?_
  refine g_if_ne (n := 4) (tgt := 12) C dL_builds_1 (by decide) rfl (fun h1 => ?_) (fun h1 => (by first | exact absurd h1 (by decide) | exact (h1 (by decide)).elim))
  refine g_iload_n (n := 13) C dL_builds_12 rfl rfl ?_
  refine g_iconst (n := 14) (v := nI 1) C dL_builds_13 rfl rfl ?_
  refine g_icmp_ne (n := 17) (tgt := 24) C dL_builds_14 (by decide) rfl (fun h14 => ?_) (fun h14 => (by first | exact absurd h14 (by decide) | exact (h14 (by decide)).elim))
  refine g_iload_n (n := 25) C dL_builds_24 rfl rfl ?_
  refine g_iconst (n := 26) (v := nI 2) C dL_builds_25 rfl rfl ?_
  refine g_icmp_ne (n := 29) (tgt := 37) C dL_builds_26 (by decide) rfl (fun h26 => ?_) (fun h26 => (by first | exact absurd h26 (by decide) | exact (h26 (by decide)).elim))
  refine g_iload_n (n := 38) C dL_builds_37 rfl rfl ?_
  refine g_iconst (n := 39) (v := nI 3) C dL_builds_38 rfl rfl ?_
  refine g_icmp_ne (n := 42) (tgt := 50) C dL_builds_39 (by decide) rfl (fun h39 => (by first | exact absurd h39 (by decide) | exact (h39 (by decide)).elim)) (fun h39 => ?_)
  refine g_aload_n (n := 43) C dL_builds_42 rfl (Or.inr ⟨_, rfl⟩) rfl ?_
  refine g_iload_n (n := 44) C dL_builds_43 rfl rfl ?_
  refine g_VXH (n := 47) (rest := []) C hM dL_builds_44 kM_X5_cleanDigest kW_L_59 kV_X5_cleanDigest hb rfl rfl rfl (Nat.le_of_ble_eq_true rfl) ⟨by decide, by decide⟩ ⟨by decide, by decide⟩ rfl (fun E hE9 => by
      rcases hpx E hE9 with rfl | rfl
      · refine ⟨xI, [], ⟨0, 54, 55, 28⟩, [⟨0, 54, 59, 47⟩], ht, (fun z hz => absurd hz List.not_mem_nil), by decide, by decide, (List.mem_of_getElem? (i := 166) (by decide +kernel)), (List.mem_of_getElem? (i := 180) (by decide +kernel)), fun q => ?_⟩
        refine g_astore_n (n := 56) (ls' := [_, _, _, _]) C dL_builds_55 (Or.inr ⟨_, rfl⟩) rfl (by decide) rfl ?_
        refine g_bipush (n := 58) (v := -30) C dL_builds_56 rfl rfl ?_
        refine G.xw ?_
        refine g_iret C hr dL_builds_58 ?_ ⟨by decide, by decide⟩
        exact Or.inr ⟨rfl, rfl, xI, hE9, congrArg (fun x => some (Value.int x)) xcd_I.symm⟩
      · refine ⟨xS, [⟨0, 54, 55, 28⟩], ⟨0, 54, 59, 47⟩, [], ht, (fun z hz => by rw [List.mem_singleton.mp hz]; exact Or.inr ⟨by decide, xI, (List.mem_of_getElem? (i := 166) (by decide +kernel)), hN.2.1⟩), by decide, by decide, (List.mem_of_getElem? (i := 298) (by decide +kernel)), (List.mem_of_getElem? (i := 309) (by decide +kernel)), fun q => ?_⟩
        refine g_astore_n (n := 60) (ls' := [_, _, _, _]) C dL_builds_59 (Or.inr ⟨_, rfl⟩) rfl (by decide) rfl ?_
        refine g_bipush (n := 62) (v := -10) C dL_builds_60 rfl rfl ?_
        refine G.xw ?_
        refine g_iret C hr dL_builds_62 ?_ ⟨by decide, by decide⟩
        exact Or.inr ⟨rfl, rfl, xS, hE9, congrArg (fun x => some (Value.int x)) xcd_S.symm⟩) (fun v9 L9 f9 hq => ?_)
  obtain ⟨u9, rfl⟩ := hv _ _ _ hq
  refine G.sk (st' := [_]) rfl ?_
  refine g_goto (tgt := 54) C dL_builds_47 (by decide) ?_
  refine G.xw ?_
  refine g_iret C hr dL_builds_54 ?_ ⟨by decide, by decide⟩
  exact Or.inl hq
theorem kt_builds_4 {l : Launch} {s0 : State} {D : va_G} {cy : Nat → ClassId} (hE : gE s0 D cy) (hl : l.stackTraces = false) {L : List Nat} {f : gF} (hN : gN9 s0) {b : Nat} {fs : List Value} (hb : gH L f b (.inr (5, fs))) (x : Int32) {Qr : Option Value → List Nat → gF → Prop} {PX : String → Prop} (hM : gX l s0 D yX5_prune cX5_prune 4 (some .int) 8 1 6 [.ref b] L f Qr PX) (hv : ∀ v L1 f1, Qr v L1 f1 → ∃ u, v = some (.int u)) (hpx : ∀ E, PX E → E = xI ∨ E = xS) : gH9 l s0 D yL_builds cL_builds 4 (some .int) [(0, 54, 55, 28), (0, 54, 59, 47)] 9 1 6 [.ref b, .int (nI 4), .int x] L f (wK Qr PX L f) := by
  refine gH9.of (own := RL) hE hl (by decide +kernel) rfl rfl (Nat.le_of_ble_eq_true rfl) (fun p9 e9 s9 m9 a99 b99 t99 c9 C hr ht => ?_)
  refine G.weak (ls' := [some (.ref b), some (.int (nI 4)), some (.int x), none]) ?_ rfl (fun _ _ h => h)
  refine g_iload_n (n := 1) C dL_builds_0 rfl rfl ?_
  refine g_if_ne (n := 4) (tgt := 12) C dL_builds_1 (by decide) rfl (fun h1 => ?_) (fun h1 => (by first | exact absurd h1 (by decide) | exact (h1 (by decide)).elim))
  refine g_iload_n (n := 13) C dL_builds_12 rfl rfl ?_
  refine g_iconst (n := 14) (v := nI 1) C dL_builds_13 rfl rfl ?_
  refine g_icmp_ne (n := 17) (tgt := 24) C dL_builds_14 (by decide) rfl (fun h14 => ?_) (fun h14 => (by first | exact absurd h14 (by decide) | exact (h14 (by decide)).elim))
  refine g_iload_n (n := 25) C dL_builds_24 rfl rfl ?_
  refine g_iconst (n := 26) (v := nI 2) C dL_builds_25 rfl rfl ?_
  refine g_icmp_ne (n := 29) (tgt := 37) C dL_builds_26 (by decide) rfl (fun h26 => ?_) (fun h26 => (by first | exact absurd h26 (by decide) | exact (h26 (by decide)).elim))
  refine g_iload_n (n := 38) C dL_builds_37 rfl rfl ?_
  refine g_iconst (n := 39) (v := nI 3) C dL_builds_38 rfl rfl ?_
  refine g_icmp_ne (n := 42) (tgt := 50) C dL_builds_39 (by decide) rfl (fun h39 => ?_) (fun h39 => (by first | exact absurd h39 (by decide) | exact (h39 (by decide)).elim))
  refine g_aload_n (n := 51) C dL_builds_50 rfl (Or.inr ⟨_, rfl⟩) rfl ?_
  refine g_VXH (n := 54) (rest := []) C hM dL_builds_51 kM_X5_prune kW_L_62 kV_X5_prune hb rfl rfl rfl (Nat.le_of_ble_eq_true rfl) ⟨by decide, by decide⟩ ⟨by decide, by decide⟩ rfl (fun E hE9 => by
      rcases hpx E hE9 with rfl | rfl
      · refine ⟨xI, [], ⟨0, 54, 55, 28⟩, [⟨0, 54, 59, 47⟩], ht, (fun z hz => absurd hz List.not_mem_nil), by decide, by decide, (List.mem_of_getElem? (i := 166) (by decide +kernel)), (List.mem_of_getElem? (i := 180) (by decide +kernel)), fun q => ?_⟩
        refine g_astore_n (n := 56) (ls' := [_, _, _, _]) C dL_builds_55 (Or.inr ⟨_, rfl⟩) rfl (by decide) rfl ?_
        refine g_bipush (n := 58) (v := -30) C dL_builds_56 rfl rfl ?_
        refine G.xw ?_
        refine g_iret C hr dL_builds_58 ?_ ⟨by decide, by decide⟩
        exact Or.inr ⟨rfl, rfl, xI, hE9, congrArg (fun x => some (Value.int x)) xcd_I.symm⟩
      · refine ⟨xS, [⟨0, 54, 55, 28⟩], ⟨0, 54, 59, 47⟩, [], ht, (fun z hz => by rw [List.mem_singleton.mp hz]; exact Or.inr ⟨by decide, xI, (List.mem_of_getElem? (i := 166) (by decide +kernel)), hN.2.1⟩), by decide, by decide, (List.mem_of_getElem? (i := 298) (by decide +kernel)), (List.mem_of_getElem? (i := 309) (by decide +kernel)), fun q => ?_⟩
        refine g_astore_n (n := 60) (ls' := [_, _, _, _]) C dL_builds_59 (Or.inr ⟨_, rfl⟩) rfl (by decide) rfl ?_
        refine g_bipush (n := 62) (v := -10) C dL_builds_60 rfl rfl ?_
        refine G.xw ?_
        refine g_iret C hr dL_builds_62 ?_ ⟨by decide, by decide⟩
        exact Or.inr ⟨rfl, rfl, xS, hE9, congrArg (fun x => some (Value.int x)) xcd_S.symm⟩) (fun v9 L9 f9 hq => ?_)
  obtain ⟨u9, rfl⟩ := hv _ _ _ hq
  refine G.sk (st' := [_]) rfl ?_
  refine G.xw ?_
  refine g_iret C hr dL_builds_54 ?_ ⟨by decide, by decide⟩
  exact Or.inl hq
theorem kH_tags : gwH yL_tags cL_tags 5 (some .int) [(0, 58, 59, 28), (0, 58, 64, 47)] 4 := ⟨⟨(List.mem_of_getElem? (i := 598) (by decide +kernel)), by decide +kernel⟩, (List.mem_of_getElem? (i := 48) (by decide +kernel)), ⟨by decide +kernel, by decide +kernel⟩, by decide +kernel⟩
theorem kT_tags : gwS yL_tags := (List.mem_of_getElem? (i := 597) (by decide +kernel))
theorem kt_tags_0 {l : Launch} {s0 : State} {D : va_G} {cy : Nat → ClassId} (hE : gE s0 D cy) (hl : l.stackTraces = false) {L : List Nat} {f : gF} (hN : gN9 s0) {b : Nat} {fs : List Value} (hb : gH L f b (.inr (5, fs))) (x y : Int32) {Qr : Option Value → List Nat → gF → Prop} {PX : String → Prop} (hM : gX l s0 D yX5_tag cX5_tag 4 (some .int) 8 2 12 [.ref b, .int x] L f Qr PX) (hv : ∀ v L1 f1, Qr v L1 f1 → ∃ u, v = some (.int u)) (hpx : ∀ E, PX E → E = xI ∨ E = xS) : gH9 l s0 D yL_tags cL_tags 5 (some .int) [(0, 58, 59, 28), (0, 58, 64, 47)] 9 2 12 [.ref b, .int (nI 0), .int x, .int y] L f (wK Qr PX L f) := by
  refine gH9.of (own := RL) hE hl (by decide +kernel) rfl rfl (Nat.le_of_ble_eq_true rfl) (fun p9 e9 s9 m9 a99 b99 t99 c9 C hr ht => ?_)
  refine G.weak (ls' := [some (.ref b), some (.int (nI 0)), some (.int x), some (.int y), none]) ?_ rfl (fun _ _ h => h)
  refine g_iload_n (n := 1) C dL_tags_0 rfl rfl ?_
  refine g_if_ne (n := 4) (tgt := 12) C dL_tags_1 (by decide) rfl (fun h1 => (by first | exact absurd h1 (by decide) | exact (h1 (by decide)).elim)) (fun h1 => ?_)
  refine g_aload_n (n := 5) C dL_tags_4 rfl (Or.inr ⟨_, rfl⟩) rfl ?_
  refine g_iload_n (n := 6) C dL_tags_5 rfl rfl ?_
  refine g_VXH (n := 9) (rest := []) C hM dL_tags_6 kM_X5_tag kW_L_65 kV_X5_tag hb rfl rfl rfl (Nat.le_of_ble_eq_true rfl) ⟨by decide, by decide⟩ ⟨by decide, by decide⟩ rfl (fun E hE9 => by
      rcases hpx E hE9 with rfl | rfl
      · refine ⟨xI, [], ⟨0, 58, 59, 28⟩, [⟨0, 58, 64, 47⟩], ht, (fun z hz => absurd hz List.not_mem_nil), by decide, by decide, (List.mem_of_getElem? (i := 166) (by decide +kernel)), (List.mem_of_getElem? (i := 180) (by decide +kernel)), fun q => ?_⟩
        refine g_astore (n := 61) (ls' := [_, _, _, _, _]) C dL_tags_59 (Or.inr ⟨_, rfl⟩) rfl (by decide) rfl ?_
        refine g_bipush (n := 63) (v := -30) C dL_tags_61 rfl rfl ?_
        refine G.xw ?_
        refine g_iret C hr dL_tags_63 ?_ ⟨by decide, by decide⟩
        exact Or.inr ⟨rfl, rfl, xI, hE9, congrArg (fun x => some (Value.int x)) xcd_I.symm⟩
      · refine ⟨xS, [⟨0, 58, 59, 28⟩], ⟨0, 58, 64, 47⟩, [], ht, (fun z hz => by rw [List.mem_singleton.mp hz]; exact Or.inr ⟨by decide, xI, (List.mem_of_getElem? (i := 166) (by decide +kernel)), hN.2.1⟩), by decide, by decide, (List.mem_of_getElem? (i := 298) (by decide +kernel)), (List.mem_of_getElem? (i := 309) (by decide +kernel)), fun q => ?_⟩
        refine g_astore (n := 66) (ls' := [_, _, _, _, _]) C dL_tags_64 (Or.inr ⟨_, rfl⟩) rfl (by decide) rfl ?_
        refine g_bipush (n := 68) (v := -10) C dL_tags_66 rfl rfl ?_
        refine G.xw ?_
        refine g_iret C hr dL_tags_68 ?_ ⟨by decide, by decide⟩
        exact Or.inr ⟨rfl, rfl, xS, hE9, congrArg (fun x => some (Value.int x)) xcd_S.symm⟩) (fun v9 L9 f9 hq => ?_)
  obtain ⟨u9, rfl⟩ := hv _ _ _ hq
  refine G.sk (st' := [_]) rfl ?_
  refine g_goto (tgt := 58) C dL_tags_9 (by decide) ?_
  refine G.xw ?_
  refine g_iret C hr dL_tags_58 ?_ ⟨by decide, by decide⟩
  exact Or.inl hq
theorem kt_tags_1 {l : Launch} {s0 : State} {D : va_G} {cy : Nat → ClassId} (hE : gE s0 D cy) (hl : l.stackTraces = false) {L : List Nat} {f : gF} (hN : gN9 s0) {b : Nat} {fs : List Value} (hb : gH L f b (.inr (5, fs))) (x y : Int32) {Qr : Option Value → List Nat → gF → Prop} {PX : String → Prop} (hM : gX l s0 D yX5_untag cX5_untag 3 (some .int) 8 2 12 [.ref b, .int x] L f Qr PX) (hv : ∀ v L1 f1, Qr v L1 f1 → ∃ u, v = some (.int u)) (hpx : ∀ E, PX E → E = xI ∨ E = xS) : gH9 l s0 D yL_tags cL_tags 5 (some .int) [(0, 58, 59, 28), (0, 58, 64, 47)] 9 2 12 [.ref b, .int (nI 1), .int x, .int y] L f (wK Qr PX L f) := by
  refine gH9.of (own := RL) hE hl (by decide +kernel) rfl rfl (Nat.le_of_ble_eq_true rfl) (fun p9 e9 s9 m9 a99 b99 t99 c9 C hr ht => ?_)
  refine G.weak (ls' := [some (.ref b), some (.int (nI 1)), some (.int x), some (.int y), none]) ?_ rfl (fun _ _ h => h)
  refine g_iload_n (n := 1) C dL_tags_0 rfl rfl ?_
  refine g_if_ne (n := 4) (tgt := 12) C dL_tags_1 (by decide) rfl (fun h1 => ?_) (fun h1 => (by first | exact absurd h1 (by decide) | exact (h1 (by decide)).elim))
  refine g_iload_n (n := 13) C dL_tags_12 rfl rfl ?_
  refine g_iconst (n := 14) (v := nI 1) C dL_tags_13 rfl rfl ?_
  refine g_icmp_ne (n := 17) (tgt := 25) C dL_tags_14 (by decide) rfl (fun h14 => (by first | exact absurd h14 (by decide) | exact (h14 (by decide)).elim)) (fun h14 => ?_)
  refine g_aload_n (n := 18) C dL_tags_17 rfl (Or.inr ⟨_, rfl⟩) rfl ?_
  refine g_iload_n (n := 19) C dL_tags_18 rfl rfl ?_
  refine g_VXH (n := 22) (rest := []) C hM dL_tags_19 kM_X5_untag kW_L_68 kV_X5_untag hb rfl rfl rfl (Nat.le_of_ble_eq_true rfl) ⟨by decide, by decide⟩ ⟨by decide, by decide⟩ rfl (fun E hE9 => by
      rcases hpx E hE9 with rfl | rfl
      · refine ⟨xI, [], ⟨0, 58, 59, 28⟩, [⟨0, 58, 64, 47⟩], ht, (fun z hz => absurd hz List.not_mem_nil), by decide, by decide, (List.mem_of_getElem? (i := 166) (by decide +kernel)), (List.mem_of_getElem? (i := 180) (by decide +kernel)), fun q => ?_⟩
        refine g_astore (n := 61) (ls' := [_, _, _, _, _]) C dL_tags_59 (Or.inr ⟨_, rfl⟩) rfl (by decide) rfl ?_
        refine g_bipush (n := 63) (v := -30) C dL_tags_61 rfl rfl ?_
        refine G.xw ?_
        refine g_iret C hr dL_tags_63 ?_ ⟨by decide, by decide⟩
        exact Or.inr ⟨rfl, rfl, xI, hE9, congrArg (fun x => some (Value.int x)) xcd_I.symm⟩
      · refine ⟨xS, [⟨0, 58, 59, 28⟩], ⟨0, 58, 64, 47⟩, [], ht, (fun z hz => by rw [List.mem_singleton.mp hz]; exact Or.inr ⟨by decide, xI, (List.mem_of_getElem? (i := 166) (by decide +kernel)), hN.2.1⟩), by decide, by decide, (List.mem_of_getElem? (i := 298) (by decide +kernel)), (List.mem_of_getElem? (i := 309) (by decide +kernel)), fun q => ?_⟩
        refine g_astore (n := 66) (ls' := [_, _, _, _, _]) C dL_tags_64 (Or.inr ⟨_, rfl⟩) rfl (by decide) rfl ?_
        refine g_bipush (n := 68) (v := -10) C dL_tags_66 rfl rfl ?_
        refine G.xw ?_
        refine g_iret C hr dL_tags_68 ?_ ⟨by decide, by decide⟩
        exact Or.inr ⟨rfl, rfl, xS, hE9, congrArg (fun x => some (Value.int x)) xcd_S.symm⟩) (fun v9 L9 f9 hq => ?_)
  obtain ⟨u9, rfl⟩ := hv _ _ _ hq
  refine G.sk (st' := [_]) rfl ?_
  refine g_goto (tgt := 58) C dL_tags_22 (by decide) ?_
  refine G.xw ?_
  refine g_iret C hr dL_tags_58 ?_ ⟨by decide, by decide⟩
  exact Or.inl hq
theorem kt_tags_2 {l : Launch} {s0 : State} {D : va_G} {cy : Nat → ClassId} (hE : gE s0 D cy) (hl : l.stackTraces = false) {L : List Nat} {f : gF} (hN : gN9 s0) {b : Nat} {fs : List Value} (hb : gH L f b (.inr (5, fs))) (x y : Int32) {Qr : Option Value → List Nat → gF → Prop} {PX : String → Prop} (hM : gX l s0 D yX5_tagged cX5_tagged 2 (some .int) 8 2 12 [.ref b, .int x] L f Qr PX) (hv : ∀ v L1 f1, Qr v L1 f1 → ∃ u, v = some (.int u)) (hpx : ∀ E, PX E → E = xI ∨ E = xS) : gH9 l s0 D yL_tags cL_tags 5 (some .int) [(0, 58, 59, 28), (0, 58, 64, 47)] 9 2 12 [.ref b, .int (nI 2), .int x, .int y] L f (wK Qr PX L f) := by
  refine gH9.of (own := RL) hE hl (by decide +kernel) rfl rfl (Nat.le_of_ble_eq_true rfl) (fun p9 e9 s9 m9 a99 b99 t99 c9 C hr ht => ?_)
  refine G.weak (ls' := [some (.ref b), some (.int (nI 2)), some (.int x), some (.int y), none]) ?_ rfl (fun _ _ h => h)
  refine g_iload_n (n := 1) C dL_tags_0 rfl rfl ?_
  refine g_if_ne (n := 4) (tgt := 12) C dL_tags_1 (by decide) rfl (fun h1 => ?_) (fun h1 => (by first | exact absurd h1 (by decide) | exact (h1 (by decide)).elim))
  refine g_iload_n (n := 13) C dL_tags_12 rfl rfl ?_
  refine g_iconst (n := 14) (v := nI 1) C dL_tags_13 rfl rfl ?_
  refine g_icmp_ne (n := 17) (tgt := 25) C dL_tags_14 (by decide) rfl (fun h14 => ?_) (fun h14 => (by first | exact absurd h14 (by decide) | exact (h14 (by decide)).elim))
  refine g_iload_n (n := 26) C dL_tags_25 rfl rfl ?_
  refine g_iconst (n := 27) (v := nI 2) C dL_tags_26 rfl rfl ?_
  refine g_icmp_ne (n := 30) (tgt := 38) C dL_tags_27 (by decide) rfl (fun h27 => (by first | exact absurd h27 (by decide) | exact (h27 (by decide)).elim)) (fun h27 => ?_)
  refine g_aload_n (n := 31) C dL_tags_30 rfl (Or.inr ⟨_, rfl⟩) rfl ?_
  refine g_iload_n (n := 32) C dL_tags_31 rfl rfl ?_
  refine g_VXH (n := 35) (rest := []) C hM dL_tags_32 kM_X5_tagged kW_L_71 kV_X5_tagged hb rfl rfl rfl (Nat.le_of_ble_eq_true rfl) ⟨by decide, by decide⟩ ⟨by decide, by decide⟩ rfl (fun E hE9 => by
      rcases hpx E hE9 with rfl | rfl
      · refine ⟨xI, [], ⟨0, 58, 59, 28⟩, [⟨0, 58, 64, 47⟩], ht, (fun z hz => absurd hz List.not_mem_nil), by decide, by decide, (List.mem_of_getElem? (i := 166) (by decide +kernel)), (List.mem_of_getElem? (i := 180) (by decide +kernel)), fun q => ?_⟩
        refine g_astore (n := 61) (ls' := [_, _, _, _, _]) C dL_tags_59 (Or.inr ⟨_, rfl⟩) rfl (by decide) rfl ?_
        refine g_bipush (n := 63) (v := -30) C dL_tags_61 rfl rfl ?_
        refine G.xw ?_
        refine g_iret C hr dL_tags_63 ?_ ⟨by decide, by decide⟩
        exact Or.inr ⟨rfl, rfl, xI, hE9, congrArg (fun x => some (Value.int x)) xcd_I.symm⟩
      · refine ⟨xS, [⟨0, 58, 59, 28⟩], ⟨0, 58, 64, 47⟩, [], ht, (fun z hz => by rw [List.mem_singleton.mp hz]; exact Or.inr ⟨by decide, xI, (List.mem_of_getElem? (i := 166) (by decide +kernel)), hN.2.1⟩), by decide, by decide, (List.mem_of_getElem? (i := 298) (by decide +kernel)), (List.mem_of_getElem? (i := 309) (by decide +kernel)), fun q => ?_⟩
        refine g_astore (n := 66) (ls' := [_, _, _, _, _]) C dL_tags_64 (Or.inr ⟨_, rfl⟩) rfl (by decide) rfl ?_
        refine g_bipush (n := 68) (v := -10) C dL_tags_66 rfl rfl ?_
        refine G.xw ?_
        refine g_iret C hr dL_tags_68 ?_ ⟨by decide, by decide⟩
        exact Or.inr ⟨rfl, rfl, xS, hE9, congrArg (fun x => some (Value.int x)) xcd_S.symm⟩) (fun v9 L9 f9 hq => ?_)
  obtain ⟨u9, rfl⟩ := hv _ _ _ hq
  refine G.sk (st' := [_]) rfl ?_
  refine g_goto (tgt := 58) C dL_tags_35 (by decide) ?_
  refine G.xw ?_
  refine g_iret C hr dL_tags_58 ?_ ⟨by decide, by decide⟩
  exact Or.inl hq
theorem kt_tags_3 {l : Launch} {s0 : State} {D : va_G} {cy : Nat → ClassId} (hE : gE s0 D cy) (hl : l.stackTraces = false) {L : List Nat} {f : gF} (hN : gN9 s0) {b : Nat} {fs : List Value} (hb : gH L f b (.inr (5, fs))) (x y : Int32) {Qr : Option Value → List Nat → gF → Prop} {PX : String → Prop} (hM : gX l s0 D yX5_squash cX5_squash 5 (some .int) 8 8 54 [.ref b, .int x, .int y] L f Qr PX) (hv : ∀ v L1 f1, Qr v L1 f1 → ∃ u, v = some (.int u)) (hpx : ∀ E, PX E → E = xI ∨ E = xS) : gH9 l s0 D yL_tags cL_tags 5 (some .int) [(0, 58, 59, 28), (0, 58, 64, 47)] 9 8 54 [.ref b, .int (nI 3), .int x, .int y] L f (wK Qr PX L f) := by
  refine gH9.of (own := RL) hE hl (by decide +kernel) rfl rfl (Nat.le_of_ble_eq_true rfl) (fun p9 e9 s9 m9 a99 b99 t99 c9 C hr ht => ?_)
  refine G.weak (ls' := [some (.ref b), some (.int (nI 3)), some (.int x), some (.int y), none]) ?_ rfl (fun _ _ h => h)
  refine g_iload_n (n := 1) C dL_tags_0 rfl rfl ?_
  refine g_if_ne (n := 4) (tgt := 12) C dL_tags_1 (by decide) rfl (fun h1 => ?_) (fun h1 => (by first | exact absurd h1 (by decide) | exact (h1 (by decide)).elim))
  refine g_iload_n (n := 13) C dL_tags_12 rfl rfl ?_
  refine g_iconst (n := 14) (v := nI 1) C dL_tags_13 rfl rfl ?_
  refine g_icmp_ne (n := 17) (tgt := 25) C dL_tags_14 (by decide) rfl (fun h14 => ?_) (fun h14 => (by first | exact absurd h14 (by decide) | exact (h14 (by decide)).elim))
  refine g_iload_n (n := 26) C dL_tags_25 rfl rfl ?_
  refine g_iconst (n := 27) (v := nI 2) C dL_tags_26 rfl rfl ?_
  refine g_icmp_ne (n := 30) (tgt := 38) C dL_tags_27 (by decide) rfl (fun h27 => ?_) (fun h27 => (by first | exact absurd h27 (by decide) | exact (h27 (by decide)).elim))
  refine g_iload_n (n := 39) C dL_tags_38 rfl rfl ?_
  refine g_iconst (n := 40) (v := nI 3) C dL_tags_39 rfl rfl ?_
  refine g_icmp_ne (n := 43) (tgt := 52) C dL_tags_40 (by decide) rfl (fun h40 => (by first | exact absurd h40 (by decide) | exact (h40 (by decide)).elim)) (fun h40 => ?_)
  refine g_aload_n (n := 44) C dL_tags_43 rfl (Or.inr ⟨_, rfl⟩) rfl ?_
  refine g_iload_n (n := 45) C dL_tags_44 rfl rfl ?_
  refine g_iload_n (n := 46) C dL_tags_45 rfl rfl ?_
  refine g_VXH (n := 49) (rest := []) C hM dL_tags_46 kM_X5_squash kW_L_74 kV_X5_squash hb rfl rfl rfl (Nat.le_of_ble_eq_true rfl) ⟨by decide, by decide⟩ ⟨by decide, by decide⟩ rfl (fun E hE9 => by
      rcases hpx E hE9 with rfl | rfl
      · refine ⟨xI, [], ⟨0, 58, 59, 28⟩, [⟨0, 58, 64, 47⟩], ht, (fun z hz => absurd hz List.not_mem_nil), by decide, by decide, (List.mem_of_getElem? (i := 166) (by decide +kernel)), (List.mem_of_getElem? (i := 180) (by decide +kernel)), fun q => ?_⟩
        refine g_astore (n := 61) (ls' := [_, _, _, _, _]) C dL_tags_59 (Or.inr ⟨_, rfl⟩) rfl (by decide) rfl ?_
        refine g_bipush (n := 63) (v := -30) C dL_tags_61 rfl rfl ?_
        refine G.xw ?_
        refine g_iret C hr dL_tags_63 ?_ ⟨by decide, by decide⟩
        exact Or.inr ⟨rfl, rfl, xI, hE9, congrArg (fun x => some (Value.int x)) xcd_I.symm⟩
      · refine ⟨xS, [⟨0, 58, 59, 28⟩], ⟨0, 58, 64, 47⟩, [], ht, (fun z hz => by rw [List.mem_singleton.mp hz]; exact Or.inr ⟨by decide, xI, (List.mem_of_getElem? (i := 166) (by decide +kernel)), hN.2.1⟩), by decide, by decide, (List.mem_of_getElem? (i := 298) (by decide +kernel)), (List.mem_of_getElem? (i := 309) (by decide +kernel)), fun q => ?_⟩
        refine g_astore (n := 66) (ls' := [_, _, _, _, _]) C dL_tags_64 (Or.inr ⟨_, rfl⟩) rfl (by decide) rfl ?_
        refine g_bipush (n := 68) (v := -10) C dL_tags_66 rfl rfl ?_
        refine G.xw ?_
        refine g_iret C hr dL_tags_68 ?_ ⟨by decide, by decide⟩
        exact Or.inr ⟨rfl, rfl, xS, hE9, congrArg (fun x => some (Value.int x)) xcd_S.symm⟩) (fun v9 L9 f9 hq => ?_)
  obtain ⟨u9, rfl⟩ := hv _ _ _ hq
  refine G.sk (st' := [_]) rfl ?_
  refine g_goto (tgt := 58) C dL_tags_49 (by decide) ?_
  refine G.xw ?_
  refine g_iret C hr dL_tags_58 ?_ ⟨by decide, by decide⟩
  exact Or.inl hq
theorem kt_tags_4 {l : Launch} {s0 : State} {D : va_G} {cy : Nat → ClassId} (hE : gE s0 D cy) (hl : l.stackTraces = false) {L : List Nat} {f : gF} (hN : gN9 s0) {b : Nat} {fs : List Value} (hb : gH L f b (.inr (5, fs))) (x y : Int32) {Qr : Option Value → List Nat → gF → Prop} {PX : String → Prop} (hM : gX l s0 D yX5_rebase cX5_rebase 6 (some .int) 8 47 414 [.ref b, .int x, .int y] L f Qr PX) (hv : ∀ v L1 f1, Qr v L1 f1 → ∃ u, v = some (.int u)) (hpx : ∀ E, PX E → E = xI ∨ E = xS) : gH9 l s0 D yL_tags cL_tags 5 (some .int) [(0, 58, 59, 28), (0, 58, 64, 47)] 9 47 414 [.ref b, .int (nI 4), .int x, .int y] L f (wK Qr PX L f) := by
  refine gH9.of (own := RL) hE hl (by decide +kernel) rfl rfl (Nat.le_of_ble_eq_true rfl) (fun p9 e9 s9 m9 a99 b99 t99 c9 C hr ht => ?_)
  refine G.weak (ls' := [some (.ref b), some (.int (nI 4)), some (.int x), some (.int y), none]) ?_ rfl (fun _ _ h => h)
  refine g_iload_n (n := 1) C dL_tags_0 rfl rfl ?_
  refine g_if_ne (n := 4) (tgt := 12) C dL_tags_1 (by decide) rfl (fun h1 => ?_) (fun h1 => (by first | exact absurd h1 (by decide) | exact (h1 (by decide)).elim))
  refine g_iload_n (n := 13) C dL_tags_12 rfl rfl ?_
  refine g_iconst (n := 14) (v := nI 1) C dL_tags_13 rfl rfl ?_
  refine g_icmp_ne (n := 17) (tgt := 25) C dL_tags_14 (by decide) rfl (fun h14 => ?_) (fun h14 => (by first | exact absurd h14 (by decide) | exact (h14 (by decide)).elim))
  refine g_iload_n (n := 26) C dL_tags_25 rfl rfl ?_
  refine g_iconst (n := 27) (v := nI 2) C dL_tags_26 rfl rfl ?_
  refine g_icmp_ne (n := 30) (tgt := 38) C dL_tags_27 (by decide) rfl (fun h27 => ?_) (fun h27 => (by first | exact absurd h27 (by decide) | exact (h27 (by decide)).elim))
  refine g_iload_n (n := 39) C dL_tags_38 rfl rfl ?_
  refine g_iconst (n := 40) (v := nI 3) C dL_tags_39 rfl rfl ?_
  refine g_icmp_ne (n := 43) (tgt := 52) C dL_tags_40 (by decide) rfl (fun h40 => ?_) (fun h40 => (by first | exact absurd h40 (by decide) | exact (h40 (by decide)).elim))
  refine g_aload_n (n := 53) C dL_tags_52 rfl (Or.inr ⟨_, rfl⟩) rfl ?_
  refine g_iload_n (n := 54) C dL_tags_53 rfl rfl ?_
  refine g_iload_n (n := 55) C dL_tags_54 rfl rfl ?_
  refine g_VXH (n := 58) (rest := []) C hM dL_tags_55 kM_X5_rebase kW_L_77 kV_X5_rebase hb rfl rfl rfl (Nat.le_of_ble_eq_true rfl) ⟨by decide, by decide⟩ ⟨by decide, by decide⟩ rfl (fun E hE9 => by
      rcases hpx E hE9 with rfl | rfl
      · refine ⟨xI, [], ⟨0, 58, 59, 28⟩, [⟨0, 58, 64, 47⟩], ht, (fun z hz => absurd hz List.not_mem_nil), by decide, by decide, (List.mem_of_getElem? (i := 166) (by decide +kernel)), (List.mem_of_getElem? (i := 180) (by decide +kernel)), fun q => ?_⟩
        refine g_astore (n := 61) (ls' := [_, _, _, _, _]) C dL_tags_59 (Or.inr ⟨_, rfl⟩) rfl (by decide) rfl ?_
        refine g_bipush (n := 63) (v := -30) C dL_tags_61 rfl rfl ?_
        refine G.xw ?_
        refine g_iret C hr dL_tags_63 ?_ ⟨by decide, by decide⟩
        exact Or.inr ⟨rfl, rfl, xI, hE9, congrArg (fun x => some (Value.int x)) xcd_I.symm⟩
      · refine ⟨xS, [⟨0, 58, 59, 28⟩], ⟨0, 58, 64, 47⟩, [], ht, (fun z hz => by rw [List.mem_singleton.mp hz]; exact Or.inr ⟨by decide, xI, (List.mem_of_getElem? (i := 166) (by decide +kernel)), hN.2.1⟩), by decide, by decide, (List.mem_of_getElem? (i := 298) (by decide +kernel)), (List.mem_of_getElem? (i := 309) (by decide +kernel)), fun q => ?_⟩
        refine g_astore (n := 66) (ls' := [_, _, _, _, _]) C dL_tags_64 (Or.inr ⟨_, rfl⟩) rfl (by decide) rfl ?_
        refine g_bipush (n := 68) (v := -10) C dL_tags_66 rfl rfl ?_
        refine G.xw ?_
        refine g_iret C hr dL_tags_68 ?_ ⟨by decide, by decide⟩
        exact Or.inr ⟨rfl, rfl, xS, hE9, congrArg (fun x => some (Value.int x)) xcd_S.symm⟩) (fun v9 L9 f9 hq => ?_)
  obtain ⟨u9, rfl⟩ := hv _ _ _ hq
  refine G.sk (st' := [_]) rfl ?_
  refine G.xw ?_
  refine g_iret C hr dL_tags_58 ?_ ⟨by decide, by decide⟩
  exact Or.inl hq
theorem kH_tells : gwH yL_tells cL_tells 5 (some .int) [(0, 99, 100, 28)] 4 := ⟨⟨(List.mem_of_getElem? (i := 640) (by decide +kernel)), by decide +kernel⟩, (List.mem_of_getElem? (i := 48) (by decide +kernel)), ⟨by decide +kernel, by decide +kernel⟩, by decide +kernel⟩
theorem kT_tells : gwS yL_tells := (List.mem_of_getElem? (i := 639) (by decide +kernel))
theorem kt_tells_0 {l : Launch} {s0 : State} {D : va_G} {cy : Nat → ClassId} (hE : gE s0 D cy) (hl : l.stackTraces = false) {L : List Nat} {f : gF} (hN : gN9 s0) {b : Nat} {fs : List Value} (hb : gH L f b (.inr (5, fs))) (x y : Int32) {Qr : Option Value → List Nat → gF → Prop} {PX : String → Prop} (hM : gX l s0 D yX5_parentOf cX5_parentOf 2 (some .int) 8 2 12 [.ref b, .int x] L f Qr PX) (hv : ∀ v L1 f1, Qr v L1 f1 → ∃ u, v = some (.int u)) (hpx : ∀ E, PX E → E = xI) : gH9 l s0 D yL_tells cL_tells 5 (some .int) [(0, 99, 100, 28)] 9 2 12 [.ref b, .int (nI 0), .int x, .int y] L f (wK Qr PX L f) := by
  refine gH9.of (own := RL) hE hl (by decide +kernel) rfl rfl (Nat.le_of_ble_eq_true rfl) (fun p9 e9 s9 m9 a99 b99 t99 c9 C hr ht => ?_)
  refine G.weak (ls' := [some (.ref b), some (.int (nI 0)), some (.int x), some (.int y), none]) ?_ rfl (fun _ _ h => h)
  refine g_iload_n (n := 1) C dL_tells_0 rfl rfl ?_
  refine g_if_ne (n := 4) (tgt := 12) C dL_tells_1 (by decide) rfl (fun h1 => (by first | exact absurd h1 (by decide) | exact (h1 (by decide)).elim)) (fun h1 => ?_)
  refine g_aload_n (n := 5) C dL_tells_4 rfl (Or.inr ⟨_, rfl⟩) rfl ?_
  refine g_iload_n (n := 6) C dL_tells_5 rfl rfl ?_
  refine g_VXH (n := 9) (rest := []) C hM dL_tells_6 kM_X5_parentOf kW_L_80 kV_X5_parentOf hb rfl rfl rfl (Nat.le_of_ble_eq_true rfl) ⟨by decide, by decide⟩ ⟨by decide, by decide⟩ rfl (fun E hE9 => by
      obtain rfl := hpx E hE9
      · refine ⟨xI, [], ⟨0, 99, 100, 28⟩, [], ht, (fun z hz => absurd hz List.not_mem_nil), by decide, by decide, (List.mem_of_getElem? (i := 166) (by decide +kernel)), (List.mem_of_getElem? (i := 180) (by decide +kernel)), fun q => ?_⟩
        refine g_astore (n := 102) (ls' := [_, _, _, _, _]) C dL_tells_100 (Or.inr ⟨_, rfl⟩) rfl (by decide) rfl ?_
        refine g_bipush (n := 104) (v := -30) C dL_tells_102 rfl rfl ?_
        refine G.xw ?_
        refine g_iret C hr dL_tells_104 ?_ ⟨by decide, by decide⟩
        exact Or.inr ⟨rfl, rfl, xI, hE9, congrArg (fun x => some (Value.int x)) xcd_I.symm⟩) (fun v9 L9 f9 hq => ?_)
  obtain ⟨u9, rfl⟩ := hv _ _ _ hq
  refine G.sk (st' := [_]) rfl ?_
  refine g_goto (tgt := 99) C dL_tells_9 (by decide) ?_
  refine G.xw ?_
  refine g_iret C hr dL_tells_99 ?_ ⟨by decide, by decide⟩
  exact Or.inl hq
theorem kt_tells_1 {l : Launch} {s0 : State} {D : va_G} {cy : Nat → ClassId} (hE : gE s0 D cy) (hl : l.stackTraces = false) {L : List Nat} {f : gF} (hN : gN9 s0) {b : Nat} {fs : List Value} (hb : gH L f b (.inr (5, fs))) (x y : Int32) {Qr : Option Value → List Nat → gF → Prop} {PX : String → Prop} (hM : gX l s0 D yX5_sizeOf cX5_sizeOf 2 (some .int) 8 2 12 [.ref b, .int x] L f Qr PX) (hv : ∀ v L1 f1, Qr v L1 f1 → ∃ u, v = some (.int u)) (hpx : ∀ E, PX E → E = xI) : gH9 l s0 D yL_tells cL_tells 5 (some .int) [(0, 99, 100, 28)] 9 2 12 [.ref b, .int (nI 1), .int x, .int y] L f (wK Qr PX L f) := by
  refine gH9.of (own := RL) hE hl (by decide +kernel) rfl rfl (Nat.le_of_ble_eq_true rfl) (fun p9 e9 s9 m9 a99 b99 t99 c9 C hr ht => ?_)
  refine G.weak (ls' := [some (.ref b), some (.int (nI 1)), some (.int x), some (.int y), none]) ?_ rfl (fun _ _ h => h)
  refine g_iload_n (n := 1) C dL_tells_0 rfl rfl ?_
  refine g_if_ne (n := 4) (tgt := 12) C dL_tells_1 (by decide) rfl (fun h1 => ?_) (fun h1 => (by first | exact absurd h1 (by decide) | exact (h1 (by decide)).elim))
  refine g_iload_n (n := 13) C dL_tells_12 rfl rfl ?_
  refine g_iconst (n := 14) (v := nI 1) C dL_tells_13 rfl rfl ?_
  refine g_icmp_ne (n := 17) (tgt := 25) C dL_tells_14 (by decide) rfl (fun h14 => (by first | exact absurd h14 (by decide) | exact (h14 (by decide)).elim)) (fun h14 => ?_)
  refine g_aload_n (n := 18) C dL_tells_17 rfl (Or.inr ⟨_, rfl⟩) rfl ?_
  refine g_iload_n (n := 19) C dL_tells_18 rfl rfl ?_
  refine g_VXH (n := 22) (rest := []) C hM dL_tells_19 kM_X5_sizeOf kW_L_83 kV_X5_sizeOf hb rfl rfl rfl (Nat.le_of_ble_eq_true rfl) ⟨by decide, by decide⟩ ⟨by decide, by decide⟩ rfl (fun E hE9 => by
      obtain rfl := hpx E hE9
      · refine ⟨xI, [], ⟨0, 99, 100, 28⟩, [], ht, (fun z hz => absurd hz List.not_mem_nil), by decide, by decide, (List.mem_of_getElem? (i := 166) (by decide +kernel)), (List.mem_of_getElem? (i := 180) (by decide +kernel)), fun q => ?_⟩
        refine g_astore (n := 102) (ls' := [_, _, _, _, _]) C dL_tells_100 (Or.inr ⟨_, rfl⟩) rfl (by decide) rfl ?_
        refine g_bipush (n := 104) (v := -30) C dL_tells_102 rfl rfl ?_
        refine G.xw ?_
        refine g_iret C hr dL_tells_104 ?_ ⟨by decide, by decide⟩
        exact Or.inr ⟨rfl, rfl, xI, hE9, congrArg (fun x => some (Value.int x)) xcd_I.symm⟩) (fun v9 L9 f9 hq => ?_)
  obtain ⟨u9, rfl⟩ := hv _ _ _ hq
  refine G.sk (st' := [_]) rfl ?_
  refine g_goto (tgt := 99) C dL_tells_22 (by decide) ?_
  refine G.xw ?_
  refine g_iret C hr dL_tells_99 ?_ ⟨by decide, by decide⟩
  exact Or.inl hq
theorem kt_tells_2 {l : Launch} {s0 : State} {D : va_G} {cy : Nat → ClassId} (hE : gE s0 D cy) (hl : l.stackTraces = false) {L : List Nat} {f : gF} (hN : gN9 s0) {b : Nat} {fs : List Value} (hb : gH L f b (.inr (5, fs))) (x y : Int32) {Qr : Option Value → List Nat → gF → Prop} {PX : String → Prop} (hM : gX l s0 D yX5_heldAt cX5_heldAt 4 (some .int) 8 3 18 [.ref b, .int x, .int y] L f Qr PX) (hv : ∀ v L1 f1, Qr v L1 f1 → ∃ u, v = some (.int u)) (hpx : ∀ E, PX E → E = xI) : gH9 l s0 D yL_tells cL_tells 5 (some .int) [(0, 99, 100, 28)] 9 3 18 [.ref b, .int (nI 2), .int x, .int y] L f (wK Qr PX L f) := by
  refine gH9.of (own := RL) hE hl (by decide +kernel) rfl rfl (Nat.le_of_ble_eq_true rfl) (fun p9 e9 s9 m9 a99 b99 t99 c9 C hr ht => ?_)
  refine G.weak (ls' := [some (.ref b), some (.int (nI 2)), some (.int x), some (.int y), none]) ?_ rfl (fun _ _ h => h)
  refine g_iload_n (n := 1) C dL_tells_0 rfl rfl ?_
  refine g_if_ne (n := 4) (tgt := 12) C dL_tells_1 (by decide) rfl (fun h1 => ?_) (fun h1 => (by first | exact absurd h1 (by decide) | exact (h1 (by decide)).elim))
  refine g_iload_n (n := 13) C dL_tells_12 rfl rfl ?_
  refine g_iconst (n := 14) (v := nI 1) C dL_tells_13 rfl rfl ?_
  refine g_icmp_ne (n := 17) (tgt := 25) C dL_tells_14 (by decide) rfl (fun h14 => ?_) (fun h14 => (by first | exact absurd h14 (by decide) | exact (h14 (by decide)).elim))
  refine g_iload_n (n := 26) C dL_tells_25 rfl rfl ?_
  refine g_iconst (n := 27) (v := nI 2) C dL_tells_26 rfl rfl ?_
  refine g_icmp_ne (n := 30) (tgt := 39) C dL_tells_27 (by decide) rfl (fun h27 => (by first | exact absurd h27 (by decide) | exact (h27 (by decide)).elim)) (fun h27 => ?_)
  refine g_aload_n (n := 31) C dL_tells_30 rfl (Or.inr ⟨_, rfl⟩) rfl ?_
  refine g_iload_n (n := 32) C dL_tells_31 rfl rfl ?_
  refine g_iload_n (n := 33) C dL_tells_32 rfl rfl ?_
  refine g_VXH (n := 36) (rest := []) C hM dL_tells_33 kM_X5_heldAt kW_L_86 kV_X5_heldAt hb rfl rfl rfl (Nat.le_of_ble_eq_true rfl) ⟨by decide, by decide⟩ ⟨by decide, by decide⟩ rfl (fun E hE9 => by
      obtain rfl := hpx E hE9
      · refine ⟨xI, [], ⟨0, 99, 100, 28⟩, [], ht, (fun z hz => absurd hz List.not_mem_nil), by decide, by decide, (List.mem_of_getElem? (i := 166) (by decide +kernel)), (List.mem_of_getElem? (i := 180) (by decide +kernel)), fun q => ?_⟩
        refine g_astore (n := 102) (ls' := [_, _, _, _, _]) C dL_tells_100 (Or.inr ⟨_, rfl⟩) rfl (by decide) rfl ?_
        refine g_bipush (n := 104) (v := -30) C dL_tells_102 rfl rfl ?_
        refine G.xw ?_
        refine g_iret C hr dL_tells_104 ?_ ⟨by decide, by decide⟩
        exact Or.inr ⟨rfl, rfl, xI, hE9, congrArg (fun x => some (Value.int x)) xcd_I.symm⟩) (fun v9 L9 f9 hq => ?_)
  obtain ⟨u9, rfl⟩ := hv _ _ _ hq
  refine G.sk (st' := [_]) rfl ?_
  refine g_goto (tgt := 99) C dL_tells_36 (by decide) ?_
  refine G.xw ?_
  refine g_iret C hr dL_tells_99 ?_ ⟨by decide, by decide⟩
  exact Or.inl hq
theorem kt_tells_3 {l : Launch} {s0 : State} {D : va_G} {cy : Nat → ClassId} (hE : gE s0 D cy) (hl : l.stackTraces = false) {L : List Nat} {f : gF} (hN : gN9 s0) {b : Nat} {fs : List Value} (hb : gH L f b (.inr (5, fs))) (x y : Int32) {Qr : Option Value → List Nat → gF → Prop} {PX : String → Prop} (hM : gX l s0 D yX5_shownAt cX5_shownAt 4 (some .int) 8 3 18 [.ref b, .int x, .int y] L f Qr PX) (hv : ∀ v L1 f1, Qr v L1 f1 → ∃ u, v = some (.int u)) (hpx : ∀ E, PX E → E = xI) : gH9 l s0 D yL_tells cL_tells 5 (some .int) [(0, 99, 100, 28)] 9 3 18 [.ref b, .int (nI 3), .int x, .int y] L f (wK Qr PX L f) := by
  refine gH9.of (own := RL) hE hl (by decide +kernel) rfl rfl (Nat.le_of_ble_eq_true rfl) (fun p9 e9 s9 m9 a99 b99 t99 c9 C hr ht => ?_)
  refine G.weak (ls' := [some (.ref b), some (.int (nI 3)), some (.int x), some (.int y), none]) ?_ rfl (fun _ _ h => h)
  refine g_iload_n (n := 1) C dL_tells_0 rfl rfl ?_
  refine g_if_ne (n := 4) (tgt := 12) C dL_tells_1 (by decide) rfl (fun h1 => ?_) (fun h1 => (by first | exact absurd h1 (by decide) | exact (h1 (by decide)).elim))
  refine g_iload_n (n := 13) C dL_tells_12 rfl rfl ?_
  refine g_iconst (n := 14) (v := nI 1) C dL_tells_13 rfl rfl ?_
  refine g_icmp_ne (n := 17) (tgt := 25) C dL_tells_14 (by decide) rfl (fun h14 => ?_) (fun h14 => (by first | exact absurd h14 (by decide) | exact (h14 (by decide)).elim))
  refine g_iload_n (n := 26) C dL_tells_25 rfl rfl ?_
  refine g_iconst (n := 27) (v := nI 2) C dL_tells_26 rfl rfl ?_
  refine g_icmp_ne (n := 30) (tgt := 39) C dL_tells_27 (by decide) rfl (fun h27 => ?_) (fun h27 => (by first | exact absurd h27 (by decide) | exact (h27 (by decide)).elim))
  refine g_iload_n (n := 40) C dL_tells_39 rfl rfl ?_
  refine g_iconst (n := 41) (v := nI 3) C dL_tells_40 rfl rfl ?_
  refine g_icmp_ne (n := 44) (tgt := 53) C dL_tells_41 (by decide) rfl (fun h41 => (by first | exact absurd h41 (by decide) | exact (h41 (by decide)).elim)) (fun h41 => ?_)
  refine g_aload_n (n := 45) C dL_tells_44 rfl (Or.inr ⟨_, rfl⟩) rfl ?_
  refine g_iload_n (n := 46) C dL_tells_45 rfl rfl ?_
  refine g_iload_n (n := 47) C dL_tells_46 rfl rfl ?_
  refine g_VXH (n := 50) (rest := []) C hM dL_tells_47 kM_X5_shownAt kW_L_89 kV_X5_shownAt hb rfl rfl rfl (Nat.le_of_ble_eq_true rfl) ⟨by decide, by decide⟩ ⟨by decide, by decide⟩ rfl (fun E hE9 => by
      obtain rfl := hpx E hE9
      · refine ⟨xI, [], ⟨0, 99, 100, 28⟩, [], ht, (fun z hz => absurd hz List.not_mem_nil), by decide, by decide, (List.mem_of_getElem? (i := 166) (by decide +kernel)), (List.mem_of_getElem? (i := 180) (by decide +kernel)), fun q => ?_⟩
        refine g_astore (n := 102) (ls' := [_, _, _, _, _]) C dL_tells_100 (Or.inr ⟨_, rfl⟩) rfl (by decide) rfl ?_
        refine g_bipush (n := 104) (v := -30) C dL_tells_102 rfl rfl ?_
        refine G.xw ?_
        refine g_iret C hr dL_tells_104 ?_ ⟨by decide, by decide⟩
        exact Or.inr ⟨rfl, rfl, xI, hE9, congrArg (fun x => some (Value.int x)) xcd_I.symm⟩) (fun v9 L9 f9 hq => ?_)
  obtain ⟨u9, rfl⟩ := hv _ _ _ hq
  refine G.sk (st' := [_]) rfl ?_
  refine g_goto (tgt := 99) C dL_tells_50 (by decide) ?_
  refine G.xw ?_
  refine g_iret C hr dL_tells_99 ?_ ⟨by decide, by decide⟩
  exact Or.inl hq
theorem kt_tells_4 {l : Launch} {s0 : State} {D : va_G} {cy : Nat → ClassId} (hE : gE s0 D cy) (hl : l.stackTraces = false) {L : List Nat} {f : gF} (hN : gN9 s0) {b : Nat} {fs : List Value} (hb : gH L f b (.inr (5, fs))) (x y : Int32) {Qr : Option Value → List Nat → gF → Prop} {PX : String → Prop} (hM : gX l s0 D yX5_variable cX5_variable 4 (some .int) 8 3 18 [.ref b, .int x, .int y] L f Qr PX) (hv : ∀ v L1 f1, Qr v L1 f1 → ∃ u, v = some (.int u)) (hpx : ∀ E, PX E → E = xI) : gH9 l s0 D yL_tells cL_tells 5 (some .int) [(0, 99, 100, 28)] 9 3 18 [.ref b, .int (nI 4), .int x, .int y] L f (wK Qr PX L f) := by
  refine gH9.of (own := RL) hE hl (by decide +kernel) rfl rfl (Nat.le_of_ble_eq_true rfl) (fun p9 e9 s9 m9 a99 b99 t99 c9 C hr ht => ?_)
  refine G.weak (ls' := [some (.ref b), some (.int (nI 4)), some (.int x), some (.int y), none]) ?_ rfl (fun _ _ h => h)
  refine g_iload_n (n := 1) C dL_tells_0 rfl rfl ?_
  refine g_if_ne (n := 4) (tgt := 12) C dL_tells_1 (by decide) rfl (fun h1 => ?_) (fun h1 => (by first | exact absurd h1 (by decide) | exact (h1 (by decide)).elim))
  refine g_iload_n (n := 13) C dL_tells_12 rfl rfl ?_
  refine g_iconst (n := 14) (v := nI 1) C dL_tells_13 rfl rfl ?_
  refine g_icmp_ne (n := 17) (tgt := 25) C dL_tells_14 (by decide) rfl (fun h14 => ?_) (fun h14 => (by first | exact absurd h14 (by decide) | exact (h14 (by decide)).elim))
  refine g_iload_n (n := 26) C dL_tells_25 rfl rfl ?_
  refine g_iconst (n := 27) (v := nI 2) C dL_tells_26 rfl rfl ?_
  refine g_icmp_ne (n := 30) (tgt := 39) C dL_tells_27 (by decide) rfl (fun h27 => ?_) (fun h27 => (by first | exact absurd h27 (by decide) | exact (h27 (by decide)).elim))
  refine g_iload_n (n := 40) C dL_tells_39 rfl rfl ?_
  refine g_iconst (n := 41) (v := nI 3) C dL_tells_40 rfl rfl ?_
  refine g_icmp_ne (n := 44) (tgt := 53) C dL_tells_41 (by decide) rfl (fun h41 => ?_) (fun h41 => (by first | exact absurd h41 (by decide) | exact (h41 (by decide)).elim))
  refine g_iload_n (n := 54) C dL_tells_53 rfl rfl ?_
  refine g_iconst (n := 55) (v := nI 4) C dL_tells_54 rfl rfl ?_
  refine g_icmp_ne (n := 58) (tgt := 67) C dL_tells_55 (by decide) rfl (fun h55 => (by first | exact absurd h55 (by decide) | exact (h55 (by decide)).elim)) (fun h55 => ?_)
  refine g_aload_n (n := 59) C dL_tells_58 rfl (Or.inr ⟨_, rfl⟩) rfl ?_
  refine g_iload_n (n := 60) C dL_tells_59 rfl rfl ?_
  refine g_iload_n (n := 61) C dL_tells_60 rfl rfl ?_
  refine g_VXH (n := 64) (rest := []) C hM dL_tells_61 kM_X5_variable kW_L_92 kV_X5_variable hb rfl rfl rfl (Nat.le_of_ble_eq_true rfl) ⟨by decide, by decide⟩ ⟨by decide, by decide⟩ rfl (fun E hE9 => by
      obtain rfl := hpx E hE9
      · refine ⟨xI, [], ⟨0, 99, 100, 28⟩, [], ht, (fun z hz => absurd hz List.not_mem_nil), by decide, by decide, (List.mem_of_getElem? (i := 166) (by decide +kernel)), (List.mem_of_getElem? (i := 180) (by decide +kernel)), fun q => ?_⟩
        refine g_astore (n := 102) (ls' := [_, _, _, _, _]) C dL_tells_100 (Or.inr ⟨_, rfl⟩) rfl (by decide) rfl ?_
        refine g_bipush (n := 104) (v := -30) C dL_tells_102 rfl rfl ?_
        refine G.xw ?_
        refine g_iret C hr dL_tells_104 ?_ ⟨by decide, by decide⟩
        exact Or.inr ⟨rfl, rfl, xI, hE9, congrArg (fun x => some (Value.int x)) xcd_I.symm⟩) (fun v9 L9 f9 hq => ?_)
  obtain ⟨u9, rfl⟩ := hv _ _ _ hq
  refine G.sk (st' := [_]) rfl ?_
  refine g_goto (tgt := 99) C dL_tells_64 (by decide) ?_
  refine G.xw ?_
  refine g_iret C hr dL_tells_99 ?_ ⟨by decide, by decide⟩
  exact Or.inl hq
theorem kt_tells_5 {l : Launch} {s0 : State} {D : va_G} {cy : Nat → ClassId} (hE : gE s0 D cy) (hl : l.stackTraces = false) {L : List Nat} {f : gF} (hN : gN9 s0) {b : Nat} {fs : List Value} (hb : gH L f b (.inr (5, fs))) (x y : Int32) {Qr : Option Value → List Nat → gF → Prop} {PX : String → Prop} (hM : gX l s0 D yX5_depth cX5_depth 2 (some .int) 8 2 12 [.ref b, .int x] L f Qr PX) (hv : ∀ v L1 f1, Qr v L1 f1 → ∃ u, v = some (.int u)) (hpx : ∀ E, PX E → E = xI) : gH9 l s0 D yL_tells cL_tells 5 (some .int) [(0, 99, 100, 28)] 9 2 12 [.ref b, .int (nI 5), .int x, .int y] L f (wK Qr PX L f) := by
  refine gH9.of (own := RL) hE hl (by decide +kernel) rfl rfl (Nat.le_of_ble_eq_true rfl) (fun p9 e9 s9 m9 a99 b99 t99 c9 C hr ht => ?_)
  refine G.weak (ls' := [some (.ref b), some (.int (nI 5)), some (.int x), some (.int y), none]) ?_ rfl (fun _ _ h => h)
  refine g_iload_n (n := 1) C dL_tells_0 rfl rfl ?_
  refine g_if_ne (n := 4) (tgt := 12) C dL_tells_1 (by decide) rfl (fun h1 => ?_) (fun h1 => (by first | exact absurd h1 (by decide) | exact (h1 (by decide)).elim))
  refine g_iload_n (n := 13) C dL_tells_12 rfl rfl ?_
  refine g_iconst (n := 14) (v := nI 1) C dL_tells_13 rfl rfl ?_
  refine g_icmp_ne (n := 17) (tgt := 25) C dL_tells_14 (by decide) rfl (fun h14 => ?_) (fun h14 => (by first | exact absurd h14 (by decide) | exact (h14 (by decide)).elim))
  refine g_iload_n (n := 26) C dL_tells_25 rfl rfl ?_
  refine g_iconst (n := 27) (v := nI 2) C dL_tells_26 rfl rfl ?_
  refine g_icmp_ne (n := 30) (tgt := 39) C dL_tells_27 (by decide) rfl (fun h27 => ?_) (fun h27 => (by first | exact absurd h27 (by decide) | exact (h27 (by decide)).elim))
  refine g_iload_n (n := 40) C dL_tells_39 rfl rfl ?_
  refine g_iconst (n := 41) (v := nI 3) C dL_tells_40 rfl rfl ?_
  refine g_icmp_ne (n := 44) (tgt := 53) C dL_tells_41 (by decide) rfl (fun h41 => ?_) (fun h41 => (by first | exact absurd h41 (by decide) | exact (h41 (by decide)).elim))
  refine g_iload_n (n := 54) C dL_tells_53 rfl rfl ?_
  refine g_iconst (n := 55) (v := nI 4) C dL_tells_54 rfl rfl ?_
  refine g_icmp_ne (n := 58) (tgt := 67) C dL_tells_55 (by decide) rfl (fun h55 => ?_) (fun h55 => (by first | exact absurd h55 (by decide) | exact (h55 (by decide)).elim))
  refine g_iload_n (n := 68) C dL_tells_67 rfl rfl ?_
  refine g_iconst (n := 69) (v := nI 5) C dL_tells_68 rfl rfl ?_
  refine g_icmp_ne (n := 72) (tgt := 80) C dL_tells_69 (by decide) rfl (fun h69 => (by first | exact absurd h69 (by decide) | exact (h69 (by decide)).elim)) (fun h69 => ?_)
  refine g_aload_n (n := 73) C dL_tells_72 rfl (Or.inr ⟨_, rfl⟩) rfl ?_
  refine g_iload_n (n := 74) C dL_tells_73 rfl rfl ?_
  refine g_VXH (n := 77) (rest := []) C hM dL_tells_74 kM_X5_depth kW_L_95 kV_X5_depth hb rfl rfl rfl (Nat.le_of_ble_eq_true rfl) ⟨by decide, by decide⟩ ⟨by decide, by decide⟩ rfl (fun E hE9 => by
      obtain rfl := hpx E hE9
      · refine ⟨xI, [], ⟨0, 99, 100, 28⟩, [], ht, (fun z hz => absurd hz List.not_mem_nil), by decide, by decide, (List.mem_of_getElem? (i := 166) (by decide +kernel)), (List.mem_of_getElem? (i := 180) (by decide +kernel)), fun q => ?_⟩
        refine g_astore (n := 102) (ls' := [_, _, _, _, _]) C dL_tells_100 (Or.inr ⟨_, rfl⟩) rfl (by decide) rfl ?_
        refine g_bipush (n := 104) (v := -30) C dL_tells_102 rfl rfl ?_
        refine G.xw ?_
        refine g_iret C hr dL_tells_104 ?_ ⟨by decide, by decide⟩
        exact Or.inr ⟨rfl, rfl, xI, hE9, congrArg (fun x => some (Value.int x)) xcd_I.symm⟩) (fun v9 L9 f9 hq => ?_)
  obtain ⟨u9, rfl⟩ := hv _ _ _ hq
  refine G.sk (st' := [_]) rfl ?_
  refine g_goto (tgt := 99) C dL_tells_77 (by decide) ?_
  refine G.xw ?_
  refine g_iret C hr dL_tells_99 ?_ ⟨by decide, by decide⟩
  exact Or.inl hq
theorem kt_tells_6 {l : Launch} {s0 : State} {D : va_G} {cy : Nat → ClassId} (hE : gE s0 D cy) (hl : l.stackTraces = false) {L : List Nat} {f : gF} (hN : gN9 s0) {b : Nat} {fs : List Value} (hb : gH L f b (.inr (5, fs))) (x y : Int32) {Qr : Option Value → List Nat → gF → Prop} {PX : String → Prop} (hM : gX l s0 D yX5_imageSize cX5_imageSize 4 (some .int) 8 2 12 [.ref b, .int x] L f Qr PX) (hv : ∀ v L1 f1, Qr v L1 f1 → ∃ u, v = some (.int u)) (hpx : ∀ E, PX E → E = xI) : gH9 l s0 D yL_tells cL_tells 5 (some .int) [(0, 99, 100, 28)] 9 2 12 [.ref b, .int (nI 6), .int x, .int y] L f (wK Qr PX L f) := by
  refine gH9.of (own := RL) hE hl (by decide +kernel) rfl rfl (Nat.le_of_ble_eq_true rfl) (fun p9 e9 s9 m9 a99 b99 t99 c9 C hr ht => ?_)
  refine G.weak (ls' := [some (.ref b), some (.int (nI 6)), some (.int x), some (.int y), none]) ?_ rfl (fun _ _ h => h)
  refine g_iload_n (n := 1) C dL_tells_0 rfl rfl ?_
  refine g_if_ne (n := 4) (tgt := 12) C dL_tells_1 (by decide) rfl (fun h1 => ?_) (fun h1 => (by first | exact absurd h1 (by decide) | exact (h1 (by decide)).elim))
  refine g_iload_n (n := 13) C dL_tells_12 rfl rfl ?_
  refine g_iconst (n := 14) (v := nI 1) C dL_tells_13 rfl rfl ?_
  refine g_icmp_ne (n := 17) (tgt := 25) C dL_tells_14 (by decide) rfl (fun h14 => ?_) (fun h14 => (by first | exact absurd h14 (by decide) | exact (h14 (by decide)).elim))
  refine g_iload_n (n := 26) C dL_tells_25 rfl rfl ?_
  refine g_iconst (n := 27) (v := nI 2) C dL_tells_26 rfl rfl ?_
  refine g_icmp_ne (n := 30) (tgt := 39) C dL_tells_27 (by decide) rfl (fun h27 => ?_) (fun h27 => (by first | exact absurd h27 (by decide) | exact (h27 (by decide)).elim))
  refine g_iload_n (n := 40) C dL_tells_39 rfl rfl ?_
  refine g_iconst (n := 41) (v := nI 3) C dL_tells_40 rfl rfl ?_
  refine g_icmp_ne (n := 44) (tgt := 53) C dL_tells_41 (by decide) rfl (fun h41 => ?_) (fun h41 => (by first | exact absurd h41 (by decide) | exact (h41 (by decide)).elim))
  refine g_iload_n (n := 54) C dL_tells_53 rfl rfl ?_
  refine g_iconst (n := 55) (v := nI 4) C dL_tells_54 rfl rfl ?_
  refine g_icmp_ne (n := 58) (tgt := 67) C dL_tells_55 (by decide) rfl (fun h55 => ?_) (fun h55 => (by first | exact absurd h55 (by decide) | exact (h55 (by decide)).elim))
  refine g_iload_n (n := 68) C dL_tells_67 rfl rfl ?_
  refine g_iconst (n := 69) (v := nI 5) C dL_tells_68 rfl rfl ?_
  refine g_icmp_ne (n := 72) (tgt := 80) C dL_tells_69 (by decide) rfl (fun h69 => ?_) (fun h69 => (by first | exact absurd h69 (by decide) | exact (h69 (by decide)).elim))
  refine g_iload_n (n := 81) C dL_tells_80 rfl rfl ?_
  refine g_bipush (n := 83) (v := nI 6) C dL_tells_81 rfl rfl ?_
  refine g_icmp_ne (n := 86) (tgt := 94) C dL_tells_83 (by decide) rfl (fun h83 => (by first | exact absurd h83 (by decide) | exact (h83 (by decide)).elim)) (fun h83 => ?_)
  refine g_aload_n (n := 87) C dL_tells_86 rfl (Or.inr ⟨_, rfl⟩) rfl ?_
  refine g_iload_n (n := 88) C dL_tells_87 rfl rfl ?_
  refine g_VXH (n := 91) (rest := []) C hM dL_tells_88 kM_X5_imageSize kW_L_98 kV_X5_imageSize hb rfl rfl rfl (Nat.le_of_ble_eq_true rfl) ⟨by decide, by decide⟩ ⟨by decide, by decide⟩ rfl (fun E hE9 => by
      obtain rfl := hpx E hE9
      · refine ⟨xI, [], ⟨0, 99, 100, 28⟩, [], ht, (fun z hz => absurd hz List.not_mem_nil), by decide, by decide, (List.mem_of_getElem? (i := 166) (by decide +kernel)), (List.mem_of_getElem? (i := 180) (by decide +kernel)), fun q => ?_⟩
        refine g_astore (n := 102) (ls' := [_, _, _, _, _]) C dL_tells_100 (Or.inr ⟨_, rfl⟩) rfl (by decide) rfl ?_
        refine g_bipush (n := 104) (v := -30) C dL_tells_102 rfl rfl ?_
        refine G.xw ?_
        refine g_iret C hr dL_tells_104 ?_ ⟨by decide, by decide⟩
        exact Or.inr ⟨rfl, rfl, xI, hE9, congrArg (fun x => some (Value.int x)) xcd_I.symm⟩) (fun v9 L9 f9 hq => ?_)
  obtain ⟨u9, rfl⟩ := hv _ _ _ hq
  refine G.sk (st' := [_]) rfl ?_
  refine g_goto (tgt := 99) C dL_tells_91 (by decide) ?_
  refine G.xw ?_
  refine g_iret C hr dL_tells_99 ?_ ⟨by decide, by decide⟩
  exact Or.inl hq
theorem kt_tells_7 {l : Launch} {s0 : State} {D : va_G} {cy : Nat → ClassId} (hE : gE s0 D cy) (hl : l.stackTraces = false) {L : List Nat} {f : gF} (hN : gN9 s0) {b : Nat} {fs : List Value} (hb : gH L f b (.inr (5, fs))) (x y : Int32) {Qr : Option Value → List Nat → gF → Prop} {PX : String → Prop} (hM : gX l s0 D yX5_digest cX5_digest 2 (some .int) 8 2 12 [.ref b, .int x] L f Qr PX) (hv : ∀ v L1 f1, Qr v L1 f1 → ∃ u, v = some (.int u)) (hpx : ∀ E, PX E → E = xI) : gH9 l s0 D yL_tells cL_tells 5 (some .int) [(0, 99, 100, 28)] 9 2 12 [.ref b, .int (nI 7), .int x, .int y] L f (wK Qr PX L f) := by
  refine gH9.of (own := RL) hE hl (by decide +kernel) rfl rfl (Nat.le_of_ble_eq_true rfl) (fun p9 e9 s9 m9 a99 b99 t99 c9 C hr ht => ?_)
  refine G.weak (ls' := [some (.ref b), some (.int (nI 7)), some (.int x), some (.int y), none]) ?_ rfl (fun _ _ h => h)
  refine g_iload_n (n := 1) C dL_tells_0 rfl rfl ?_
  refine g_if_ne (n := 4) (tgt := 12) C dL_tells_1 (by decide) rfl (fun h1 => ?_) (fun h1 => (by first | exact absurd h1 (by decide) | exact (h1 (by decide)).elim))
  refine g_iload_n (n := 13) C dL_tells_12 rfl rfl ?_
  refine g_iconst (n := 14) (v := nI 1) C dL_tells_13 rfl rfl ?_
  refine g_icmp_ne (n := 17) (tgt := 25) C dL_tells_14 (by decide) rfl (fun h14 => ?_) (fun h14 => (by first | exact absurd h14 (by decide) | exact (h14 (by decide)).elim))
  refine g_iload_n (n := 26) C dL_tells_25 rfl rfl ?_
  refine g_iconst (n := 27) (v := nI 2) C dL_tells_26 rfl rfl ?_
  refine g_icmp_ne (n := 30) (tgt := 39) C dL_tells_27 (by decide) rfl (fun h27 => ?_) (fun h27 => (by first | exact absurd h27 (by decide) | exact (h27 (by decide)).elim))
  refine g_iload_n (n := 40) C dL_tells_39 rfl rfl ?_
  refine g_iconst (n := 41) (v := nI 3) C dL_tells_40 rfl rfl ?_
  refine g_icmp_ne (n := 44) (tgt := 53) C dL_tells_41 (by decide) rfl (fun h41 => ?_) (fun h41 => (by first | exact absurd h41 (by decide) | exact (h41 (by decide)).elim))
  refine g_iload_n (n := 54) C dL_tells_53 rfl rfl ?_
  refine g_iconst (n := 55) (v := nI 4) C dL_tells_54 rfl rfl ?_
  refine g_icmp_ne (n := 58) (tgt := 67) C dL_tells_55 (by decide) rfl (fun h55 => ?_) (fun h55 => (by first | exact absurd h55 (by decide) | exact (h55 (by decide)).elim))
  refine g_iload_n (n := 68) C dL_tells_67 rfl rfl ?_
  refine g_iconst (n := 69) (v := nI 5) C dL_tells_68 rfl rfl ?_
  refine g_icmp_ne (n := 72) (tgt := 80) C dL_tells_69 (by decide) rfl (fun h69 => ?_) (fun h69 => (by first | exact absurd h69 (by decide) | exact (h69 (by decide)).elim))
  refine g_iload_n (n := 81) C dL_tells_80 rfl rfl ?_
  refine g_bipush (n := 83) (v := nI 6) C dL_tells_81 rfl rfl ?_
  refine g_icmp_ne (n := 86) (tgt := 94) C dL_tells_83 (by decide) rfl (fun h83 => ?_) (fun h83 => (by first | exact absurd h83 (by decide) | exact (h83 (by decide)).elim))
  refine g_aload_n (n := 95) C dL_tells_94 rfl (Or.inr ⟨_, rfl⟩) rfl ?_
  refine g_iload_n (n := 96) C dL_tells_95 rfl rfl ?_
  refine g_VXH (n := 99) (rest := []) C hM dL_tells_96 kM_X5_digest kW_L_101 kV_X5_digest hb rfl rfl rfl (Nat.le_of_ble_eq_true rfl) ⟨by decide, by decide⟩ ⟨by decide, by decide⟩ rfl (fun E hE9 => by
      obtain rfl := hpx E hE9
      · refine ⟨xI, [], ⟨0, 99, 100, 28⟩, [], ht, (fun z hz => absurd hz List.not_mem_nil), by decide, by decide, (List.mem_of_getElem? (i := 166) (by decide +kernel)), (List.mem_of_getElem? (i := 180) (by decide +kernel)), fun q => ?_⟩
        refine g_astore (n := 102) (ls' := [_, _, _, _, _]) C dL_tells_100 (Or.inr ⟨_, rfl⟩) rfl (by decide) rfl ?_
        refine g_bipush (n := 104) (v := -30) C dL_tells_102 rfl rfl ?_
        refine G.xw ?_
        refine g_iret C hr dL_tells_104 ?_ ⟨by decide, by decide⟩
        exact Or.inr ⟨rfl, rfl, xI, hE9, congrArg (fun x => some (Value.int x)) xcd_I.symm⟩) (fun v9 L9 f9 hq => ?_)
  obtain ⟨u9, rfl⟩ := hv _ _ _ hq
  refine G.sk (st' := [_]) rfl ?_
  refine G.xw ?_
  refine g_iret C hr dL_tells_99 ?_ ⟨by decide, by decide⟩
  exact Or.inl hq

/-! ===== the reference, XIII: a new object ===== -/
/-- the fields of an object under construction: the arrays up to field m are there -/
def mFp (m : Nat) (ad : Nat → Nat) (I : Nat → Int32) : List Value := (List.range 32).map fun k => if mArr k then (if k < m then .ref (ad k) else .null) else .int (I k)
theorem mFp_32 {ad : Nat → Nat} {I : Nat → Int32} : mFp 32 ad I = mF ad I := rfl
def IsP (cy : Nat → ClassId) (mo m : Nat) (ad : Nat → Nat) (A : Nat → Nat → Int32) (I : Nat → Int32) (L : List Nat) (f : gF) : Prop :=
  gH L f mo (.inr (6, mFp m ad I)) ∧ (∀ k, mArr k = true → k < m → gH L f (ad k) (.inl (cy (mT k), mLen k, .inl (A k)))) ∧ ∀ j k, mArr j = true → mArr k = true → j < m → k < m → ad j = ad k → j = k
theorem IsP.mo1 {cy : Nat → ClassId} {mo m q : Nat} {ad : Nat → Nat} {A : Nat → Nat → Int32} {I : Nat → Int32} {L : List Nat} {f : gF} {e : va_E} (h : IsP cy mo m ad A I L f) (hq : q ∉ L) : gH (L ++ [q]) (va_up f q e) mo (.inr (6, mFp m ad I)) := h.1.of (List.mem_append_left _ h.1.1) (va_up_ne _ _ (fun z => hq (z ▸ h.1.1)))
theorem IsP.push {cy : Nat → ClassId} {mo m q k : Nat} {ad : Nat → Nat} {A : Nat → Nat → Int32} {I : Nat → Int32} {L : List Nat} {f : gF} (h : IsP cy mo m ad A I L f) (hq : q ∉ L) (hk : mArr k = true) (hm : (List.range (k + 1)).all (fun j => decide (j < m) || !mArr j || decide (j = k)) = true) (hs : (mFp m ad I).set k (.ref q) = mFp (k + 1) (va_up ad k q) I) :
    IsP cy mo (k + 1) (va_up ad k q) A I (L ++ [q]) (va_up (va_up f q (.inl (cy (mT k), mLen k, .inl (A k)))) mo (.inr (6, (mFp m ad I).set k (.ref q)))) := by
  have hmq : q ≠ mo := fun z => hq (z ▸ h.1.1)
  have hc : ∀ j, mArr j = true → j < k + 1 → j = k ∨ j < m := by
    intro j hj hjk
    have h1 := List.all_eq_true.mp hm j (List.mem_range.mpr hjk)
    simp only [hj, Bool.or_eq_true, decide_eq_true_eq, Bool.not_true] at h1
    rcases h1 with (h1 | h1) | h1
    · exact Or.inr h1
    · cases h1
    · exact Or.inl h1
  have hold : ∀ j, mArr j = true → j < m → ad j ≠ q ∧ ad j ≠ mo := fun j h1 h2 => ⟨fun z => hq (z ▸ (h.2.1 j h1 h2).1), gH.apart (h.2.1 j h1 h2) h.1 (fun e => by cases e)⟩
  refine ⟨?_, fun j hj hjk => ?_, fun i j hi hj hik hjk e => ?_⟩
  · rw [hs]
    exact (gH.up (h.mo1 hq))
  · by_cases e : j = k
    · subst e
      rw [show va_up ad j q j = q from va_up_self _ _ _]
      exact gH.ne ⟨List.mem_append_right _ List.mem_cons_self, va_up_self _ _ _⟩ hmq
    · have h2 := (hc j hj hjk).resolve_left e
      rw [show va_up ad k q j = ad j from va_up_ne _ _ e]
      exact gH.ne ((h.2.1 j hj h2).of (List.mem_append_left _ (h.2.1 j hj h2).1) (va_up_ne _ _ (hold j hj h2).1)) (hold j hj h2).2
  · by_cases e1 : i = k
    · by_cases e2 : j = k
      · rw [e1, e2]
      · have h2 := (hc j hj hjk).resolve_left e2
        subst e1
        rw [show va_up ad i q i = q from va_up_self _ _ _, show va_up ad i q j = ad j from va_up_ne _ _ e2] at e
        exact absurd e.symm (hold j hj h2).1
    · have h1 := (hc i hi hik).resolve_left e1
      rw [show va_up ad k q i = ad i from va_up_ne _ _ e1] at e
      by_cases e2 : j = k
      · subst e2
        rw [show va_up ad j q j = q from va_up_self _ _ _] at e
        exact absurd e (hold i hi h1).1
      · rw [show va_up ad k q j = ad j from va_up_ne _ _ e2] at e
        exact h.2.2 i j hi hj h1 ((hc j hj hjk).resolve_left e2) e
theorem IsP.int {cy : Nat → ClassId} {mo m k : Nat} {ad : Nat → Nat} {A : Nat → Nat → Int32} {I : Nat → Int32} {L : List Nat} {f : gF} {x : Int32} (h : IsP cy mo m ad A I L f) (hs : (mFp m ad I).set k (.int x) = mFp m ad (va_up I k x)) : IsP cy mo m ad A (va_up I k x) L (va_up f mo (.inr (6, (mFp m ad I).set k (.int x)))) := by
  refine ⟨?_, fun j h1 h2 => (h.2.1 j h1 h2).ne (gH.apart (h.2.1 j h1 h2) h.1 (fun e => by cases e)), h.2.2⟩
  rw [hs]
  exact h.1.up
theorem IsP.all {cy : Nat → ClassId} {mo : Nat} {ad : Nat → Nat} {A : Nat → Nat → Int32} {I : Nat → Int32} {L : List Nat} {f : gF} (h : IsP cy mo 32 ad A I L f) : IsM cy mo ad A I L f := by
  have hk : ∀ k, mArr k = true → k < 32 := by
    intro k hk
    by_cases h9 : k < 32
    · exact h9
    · exfalso
      unfold mArr at hk
      split at hk <;> first | omega | cases hk
  exact ⟨h.1, fun k h1 => h.2.1 k h1 (hk k h1), fun i j hi hj e => h.2.2 i j hi hj (hk i hi) (hk j hj) e⟩
def A00 : Nat → Nat → Int32 := fun _ _ => 0
def A0 : Nat → Nat → Int32 := upR (upR (upR A00 0 0 8 (fun _ => -1)) 1 0 36 (fun _ => -1)) 16 0 5 (fun _ => -1)
def I0 : Nat → Int32 := va_up (fun _ => 0) 24 (-1)
section GGEN
variable {p : Program} {l : Launch} {e : Env} {R : Room} {s : State} {m : MethodId} {args : Array Value} {below : List Frame} {meth : Method} {c : Code} {Q : State → Prop}
variable {s0 : State} {D : va_G} {cy : Nat → ClassId} {L0 : List Nat} {nL : Nat} {cc : ByteArray} {own : String} {L : List Nat} {f : gF} {ce sl pc n : Nat} {ls : List (Option Value)} {st : List Value}
theorem G.gen (P : List Nat → gF → Prop) (h : P L f) (k : ∀ (L1 : List Nat) (f1 : gF), P L1 f1 → G p l e R s m args below meth c Q D L0 nL L1 f1 ce sl pc ls (st)) : G p l e R s m args below meth c Q D L0 nL L f ce sl pc ls (st) := k L f h
end GGEN
theorem k6_init {l : Launch} {s0 : State} {D : va_G} {cy : Nat → ClassId} (hE : gE s0 D cy) (hl : l.stackTraces = false) {L : List Nat} {f : gF} {mo : Nat} (hP : gH L f mo (.inr (6, mFp 0 (fun _ => 0) (fun _ => 0)))) : gM l s0 D yX6_init cX6_init 2 none 1 23 9899 [.ref mo] L f (fun v L1 f1 => v = none ∧ ∃ ad, IsM cy mo ad A0 I0 L1 f1) := by
  refine gM.of (own := RX6) hE hl (by decide +kernel) rfl rfl (Nat.le_of_ble_eq_true rfl) (fun p9 e9 s9 m9 a99 b99 t99 c9 C hr hnm => ?_)
  refine G.weak (ls' := [some (.ref mo), none]) ?_ rfl (fun _ _ h => h)
  refine g_aload_n (n := 1) C dX6_init_0 rfl (Or.inr ⟨_, rfl⟩) rfl ?_
  refine g_objInit (n := 4) C dX6_init_1 (List.mem_of_getElem? (i := 790) (by decide +kernel)) (List.mem_of_getElem? (i := 85) (by decide +kernel)) (List.mem_of_getElem? (i := 86) (by decide +kernel)) ⟨by decide, by decide⟩ rfl ?_
  replace hP : IsP cy mo 0 (fun _ => 0) A00 (fun _ => 0) L f := ⟨hP, fun k _ h => absurd h (by omega), fun j k _ _ h => absurd h (by omega)⟩
  refine g_aload_n (n := 5) C dX6_init_4 rfl (Or.inr ⟨_, rfl⟩) rfl ?_
  refine g_bipush (n := 7) (v := nI 8) C dX6_init_5 rfl rfl ?_
  refine g_newi (n := 9) (N := 8) C dX6_init_7 rfl (by decide) (List.mem_of_getElem? (i := 108) (by decide +kernel)) ⟨by decide, by decide⟩ rfl (fun q hq => ?_)
  refine g_putF (n := 12) C dX6_init_9 kP_X6_7 hnm (hP.mo1 hq) ⟨rfl, rfl⟩ (Nat.le_of_ble_eq_true rfl) rfl ?_
  refine G.gen (fun L f => ∃ ad, IsP cy mo 1 ad A00 (fun _ => 0) L f) ⟨_, hP.push hq (k := 0) rfl (by decide) rfl⟩ (fun L f hP => ?_)
  obtain ⟨ad, hP⟩ := hP
  refine G.mono (ce' := 1) (sl' := 8) (by decide) (by decide) ?_
  refine g_aload_n (n := 13) C dX6_init_12 rfl (Or.inr ⟨_, rfl⟩) rfl ?_
  refine g_bipush (n := 15) (v := nI 36) C dX6_init_13 rfl rfl ?_
  refine g_newi (n := 17) (N := 36) C dX6_init_15 rfl (by decide) (List.mem_of_getElem? (i := 108) (by decide +kernel)) ⟨by decide, by decide⟩ rfl (fun q hq => ?_)
  refine g_putF (n := 20) C dX6_init_17 kP_X6_13 hnm (hP.mo1 hq) ⟨rfl, rfl⟩ (Nat.le_of_ble_eq_true rfl) rfl ?_
  refine G.gen (fun L f => ∃ ad, IsP cy mo 2 ad A00 (fun _ => 0) L f) ⟨_, hP.push hq (k := 1) rfl (by decide) rfl⟩ (fun L f hP => ?_)
  obtain ⟨ad, hP⟩ := hP
  refine G.mono (ce' := 2) (sl' := 44) (by decide) (by decide) ?_
  refine g_aload_n (n := 21) C dX6_init_20 rfl (Or.inr ⟨_, rfl⟩) rfl ?_
  refine g_iconst (n := 22) (v := nI 4) C dX6_init_21 rfl rfl ?_
  refine g_newi (n := 24) (N := 4) C dX6_init_22 rfl (by decide) (List.mem_of_getElem? (i := 108) (by decide +kernel)) ⟨by decide, by decide⟩ rfl (fun q hq => ?_)
  refine g_putF (n := 27) C dX6_init_24 kP_X6_16 hnm (hP.mo1 hq) ⟨rfl, rfl⟩ (Nat.le_of_ble_eq_true rfl) rfl ?_
  refine G.gen (fun L f => ∃ ad, IsP cy mo 3 ad A00 (fun _ => 0) L f) ⟨_, hP.push hq (k := 2) rfl (by decide) rfl⟩ (fun L f hP => ?_)
  obtain ⟨ad, hP⟩ := hP
  refine G.mono (ce' := 3) (sl' := 48) (by decide) (by decide) ?_
  refine g_aload_n (n := 28) C dX6_init_27 rfl (Or.inr ⟨_, rfl⟩) rfl ?_
  refine g_iconst (n := 29) (v := nI 4) C dX6_init_28 rfl rfl ?_
  refine g_newi (n := 31) (N := 4) C dX6_init_29 rfl (by decide) (List.mem_of_getElem? (i := 108) (by decide +kernel)) ⟨by decide, by decide⟩ rfl (fun q hq => ?_)
  refine g_putF (n := 34) C dX6_init_31 kP_X6_19 hnm (hP.mo1 hq) ⟨rfl, rfl⟩ (Nat.le_of_ble_eq_true rfl) rfl ?_
  refine G.gen (fun L f => ∃ ad, IsP cy mo 4 ad A00 (fun _ => 0) L f) ⟨_, hP.push hq (k := 3) rfl (by decide) rfl⟩ (fun L f hP => ?_)
  obtain ⟨ad, hP⟩ := hP
  refine G.mono (ce' := 4) (sl' := 52) (by decide) (by decide) ?_
  refine g_aload_n (n := 35) C dX6_init_34 rfl (Or.inr ⟨_, rfl⟩) rfl ?_
  refine g_bipush (n := 37) (v := nI 40) C dX6_init_35 rfl rfl ?_
  refine g_newi (n := 39) (N := 40) C dX6_init_37 rfl (by decide) (List.mem_of_getElem? (i := 108) (by decide +kernel)) ⟨by decide, by decide⟩ rfl (fun q hq => ?_)
  refine g_putF (n := 42) C dX6_init_39 kP_X6_22 hnm (hP.mo1 hq) ⟨rfl, rfl⟩ (Nat.le_of_ble_eq_true rfl) rfl ?_
  refine G.gen (fun L f => ∃ ad, IsP cy mo 5 ad A00 (fun _ => 0) L f) ⟨_, hP.push hq (k := 4) rfl (by decide) rfl⟩ (fun L f hP => ?_)
  obtain ⟨ad, hP⟩ := hP
  refine G.mono (ce' := 5) (sl' := 92) (by decide) (by decide) ?_
  refine g_aload_n (n := 43) C dX6_init_42 rfl (Or.inr ⟨_, rfl⟩) rfl ?_
  refine g_bipush (n := 45) (v := nI 40) C dX6_init_43 rfl rfl ?_
  refine g_newi (n := 47) (N := 40) C dX6_init_45 rfl (by decide) (List.mem_of_getElem? (i := 108) (by decide +kernel)) ⟨by decide, by decide⟩ rfl (fun q hq => ?_)
  refine g_putF (n := 50) C dX6_init_47 kP_X6_25 hnm (hP.mo1 hq) ⟨rfl, rfl⟩ (Nat.le_of_ble_eq_true rfl) rfl ?_
  refine G.gen (fun L f => ∃ ad, IsP cy mo 6 ad A00 (fun _ => 0) L f) ⟨_, hP.push hq (k := 5) rfl (by decide) rfl⟩ (fun L f hP => ?_)
  obtain ⟨ad, hP⟩ := hP
  refine G.mono (ce' := 6) (sl' := 132) (by decide) (by decide) ?_
  refine g_aload_n (n := 51) C dX6_init_50 rfl (Or.inr ⟨_, rfl⟩) rfl ?_
  refine g_bipush (n := 53) (v := nI 40) C dX6_init_51 rfl rfl ?_
  refine g_newi (n := 55) (N := 40) C dX6_init_53 rfl (by decide) (List.mem_of_getElem? (i := 108) (by decide +kernel)) ⟨by decide, by decide⟩ rfl (fun q hq => ?_)
  refine g_putF (n := 58) C dX6_init_55 kP_X6_28 hnm (hP.mo1 hq) ⟨rfl, rfl⟩ (Nat.le_of_ble_eq_true rfl) rfl ?_
  refine G.gen (fun L f => ∃ ad, IsP cy mo 7 ad A00 (fun _ => 0) L f) ⟨_, hP.push hq (k := 6) rfl (by decide) rfl⟩ (fun L f hP => ?_)
  obtain ⟨ad, hP⟩ := hP
  refine G.mono (ce' := 7) (sl' := 172) (by decide) (by decide) ?_
  refine g_aload_n (n := 59) C dX6_init_58 rfl (Or.inr ⟨_, rfl⟩) rfl ?_
  refine g_sipush (n := 62) (v := nI 420) C dX6_init_59 rfl rfl ?_
  refine g_newz (n := 64) (N := 420) C dX6_init_62 rfl (by decide) (List.mem_of_getElem? (i := 888) (by decide +kernel)) ⟨by decide, by decide⟩ rfl (fun q hq => ?_)
  refine g_putF (n := 67) C dX6_init_64 kP_X6_31 hnm (hP.mo1 hq) ⟨rfl, rfl⟩ (Nat.le_of_ble_eq_true rfl) rfl ?_
  refine G.gen (fun L f => ∃ ad, IsP cy mo 9 ad A00 (fun _ => 0) L f) ⟨_, hP.push hq (k := 8) rfl (by decide) rfl⟩ (fun L f hP => ?_)
  obtain ⟨ad, hP⟩ := hP
  refine G.mono (ce' := 8) (sl' := 592) (by decide) (by decide) ?_
  refine g_aload_n (n := 68) C dX6_init_67 rfl (Or.inr ⟨_, rfl⟩) rfl ?_
  refine g_sipush (n := 71) (v := nI 420) C dX6_init_68 rfl rfl ?_
  refine g_newi (n := 73) (N := 420) C dX6_init_71 rfl (by decide) (List.mem_of_getElem? (i := 108) (by decide +kernel)) ⟨by decide, by decide⟩ rfl (fun q hq => ?_)
  refine g_putF (n := 76) C dX6_init_73 kP_X6_35 hnm (hP.mo1 hq) ⟨rfl, rfl⟩ (Nat.le_of_ble_eq_true rfl) rfl ?_
  refine G.gen (fun L f => ∃ ad, IsP cy mo 10 ad A00 (fun _ => 0) L f) ⟨_, hP.push hq (k := 9) rfl (by decide) rfl⟩ (fun L f hP => ?_)
  obtain ⟨ad, hP⟩ := hP
  refine G.mono (ce' := 9) (sl' := 1012) (by decide) (by decide) ?_
  refine g_aload_n (n := 77) C dX6_init_76 rfl (Or.inr ⟨_, rfl⟩) rfl ?_
  refine g_sipush (n := 80) (v := nI 5040) C dX6_init_77 rfl rfl ?_
  refine g_newi (n := 82) (N := 5040) C dX6_init_80 rfl (by decide) (List.mem_of_getElem? (i := 108) (by decide +kernel)) ⟨by decide, by decide⟩ rfl (fun q hq => ?_)
  refine g_putF (n := 85) C dX6_init_82 kP_X6_38 hnm (hP.mo1 hq) ⟨rfl, rfl⟩ (Nat.le_of_ble_eq_true rfl) rfl ?_
  refine G.gen (fun L f => ∃ ad, IsP cy mo 11 ad A00 (fun _ => 0) L f) ⟨_, hP.push hq (k := 10) rfl (by decide) rfl⟩ (fun L f hP => ?_)
  obtain ⟨ad, hP⟩ := hP
  refine G.mono (ce' := 10) (sl' := 6052) (by decide) (by decide) ?_
  refine g_aload_n (n := 86) C dX6_init_85 rfl (Or.inr ⟨_, rfl⟩) rfl ?_
  refine g_sipush (n := 89) (v := nI 1680) C dX6_init_86 rfl rfl ?_
  refine g_newi (n := 91) (N := 1680) C dX6_init_89 rfl (by decide) (List.mem_of_getElem? (i := 108) (by decide +kernel)) ⟨by decide, by decide⟩ rfl (fun q hq => ?_)
  refine g_putF (n := 94) C dX6_init_91 kP_X6_41 hnm (hP.mo1 hq) ⟨rfl, rfl⟩ (Nat.le_of_ble_eq_true rfl) rfl ?_
  refine G.gen (fun L f => ∃ ad, IsP cy mo 12 ad A00 (fun _ => 0) L f) ⟨_, hP.push hq (k := 11) rfl (by decide) rfl⟩ (fun L f hP => ?_)
  obtain ⟨ad, hP⟩ := hP
  refine G.mono (ce' := 11) (sl' := 7732) (by decide) (by decide) ?_
  refine g_aload_n (n := 95) C dX6_init_94 rfl (Or.inr ⟨_, rfl⟩) rfl ?_
  refine g_sipush (n := 98) (v := nI 420) C dX6_init_95 rfl rfl ?_
  refine g_newi (n := 100) (N := 420) C dX6_init_98 rfl (by decide) (List.mem_of_getElem? (i := 108) (by decide +kernel)) ⟨by decide, by decide⟩ rfl (fun q hq => ?_)
  refine g_putF (n := 103) C dX6_init_100 kP_X6_44 hnm (hP.mo1 hq) ⟨rfl, rfl⟩ (Nat.le_of_ble_eq_true rfl) rfl ?_
  refine G.gen (fun L f => ∃ ad, IsP cy mo 13 ad A00 (fun _ => 0) L f) ⟨_, hP.push hq (k := 12) rfl (by decide) rfl⟩ (fun L f hP => ?_)
  obtain ⟨ad, hP⟩ := hP
  refine G.mono (ce' := 12) (sl' := 8152) (by decide) (by decide) ?_
  refine g_aload_n (n := 104) C dX6_init_103 rfl (Or.inr ⟨_, rfl⟩) rfl ?_
  refine g_sipush (n := 107) (v := nI 420) C dX6_init_104 rfl rfl ?_
  refine g_newi (n := 109) (N := 420) C dX6_init_107 rfl (by decide) (List.mem_of_getElem? (i := 108) (by decide +kernel)) ⟨by decide, by decide⟩ rfl (fun q hq => ?_)
  refine g_putF (n := 112) C dX6_init_109 kP_X6_47 hnm (hP.mo1 hq) ⟨rfl, rfl⟩ (Nat.le_of_ble_eq_true rfl) rfl ?_
  refine G.gen (fun L f => ∃ ad, IsP cy mo 14 ad A00 (fun _ => 0) L f) ⟨_, hP.push hq (k := 13) rfl (by decide) rfl⟩ (fun L f hP => ?_)
  obtain ⟨ad, hP⟩ := hP
  refine G.mono (ce' := 13) (sl' := 8572) (by decide) (by decide) ?_
  refine g_aload_n (n := 113) C dX6_init_112 rfl (Or.inr ⟨_, rfl⟩) rfl ?_
  refine g_sipush (n := 116) (v := nI 420) C dX6_init_113 rfl rfl ?_
  refine g_newi (n := 118) (N := 420) C dX6_init_116 rfl (by decide) (List.mem_of_getElem? (i := 108) (by decide +kernel)) ⟨by decide, by decide⟩ rfl (fun q hq => ?_)
  refine g_putF (n := 121) C dX6_init_118 kP_X6_50 hnm (hP.mo1 hq) ⟨rfl, rfl⟩ (Nat.le_of_ble_eq_true rfl) rfl ?_
  refine G.gen (fun L f => ∃ ad, IsP cy mo 15 ad A00 (fun _ => 0) L f) ⟨_, hP.push hq (k := 14) rfl (by decide) rfl⟩ (fun L f hP => ?_)
  obtain ⟨ad, hP⟩ := hP
  refine G.mono (ce' := 14) (sl' := 8992) (by decide) (by decide) ?_
  refine g_aload_n (n := 122) C dX6_init_121 rfl (Or.inr ⟨_, rfl⟩) rfl ?_
  refine g_sipush (n := 125) (v := nI 420) C dX6_init_122 rfl rfl ?_
  refine g_newi (n := 127) (N := 420) C dX6_init_125 rfl (by decide) (List.mem_of_getElem? (i := 108) (by decide +kernel)) ⟨by decide, by decide⟩ rfl (fun q hq => ?_)
  refine g_putF (n := 130) C dX6_init_127 kP_X6_53 hnm (hP.mo1 hq) ⟨rfl, rfl⟩ (Nat.le_of_ble_eq_true rfl) rfl ?_
  refine G.gen (fun L f => ∃ ad, IsP cy mo 16 ad A00 (fun _ => 0) L f) ⟨_, hP.push hq (k := 15) rfl (by decide) rfl⟩ (fun L f hP => ?_)
  obtain ⟨ad, hP⟩ := hP
  refine G.mono (ce' := 15) (sl' := 9412) (by decide) (by decide) ?_
  refine g_aload_n (n := 131) C dX6_init_130 rfl (Or.inr ⟨_, rfl⟩) rfl ?_
  refine g_iconst (n := 132) (v := nI 5) C dX6_init_131 rfl rfl ?_
  refine g_newi (n := 134) (N := 5) C dX6_init_132 rfl (by decide) (List.mem_of_getElem? (i := 108) (by decide +kernel)) ⟨by decide, by decide⟩ rfl (fun q hq => ?_)
  refine g_putF (n := 137) C dX6_init_134 kP_X6_56 hnm (hP.mo1 hq) ⟨rfl, rfl⟩ (Nat.le_of_ble_eq_true rfl) rfl ?_
  refine G.gen (fun L f => ∃ ad, IsP cy mo 17 ad A00 (fun _ => 0) L f) ⟨_, hP.push hq (k := 16) rfl (by decide) rfl⟩ (fun L f hP => ?_)
  obtain ⟨ad, hP⟩ := hP
  refine G.mono (ce' := 16) (sl' := 9417) (by decide) (by decide) ?_
  refine g_aload_n (n := 138) C dX6_init_137 rfl (Or.inr ⟨_, rfl⟩) rfl ?_
  refine g_bipush (n := 140) (v := nI 10) C dX6_init_138 rfl rfl ?_
  refine g_newi (n := 142) (N := 10) C dX6_init_140 rfl (by decide) (List.mem_of_getElem? (i := 108) (by decide +kernel)) ⟨by decide, by decide⟩ rfl (fun q hq => ?_)
  refine g_putF (n := 145) C dX6_init_142 kP_X6_59 hnm (hP.mo1 hq) ⟨rfl, rfl⟩ (Nat.le_of_ble_eq_true rfl) rfl ?_
  refine G.gen (fun L f => ∃ ad, IsP cy mo 22 ad A00 (fun _ => 0) L f) ⟨_, hP.push hq (k := 21) rfl (by decide) rfl⟩ (fun L f hP => ?_)
  obtain ⟨ad, hP⟩ := hP
  refine G.mono (ce' := 17) (sl' := 9427) (by decide) (by decide) ?_
  refine g_aload_n (n := 146) C dX6_init_145 rfl (Or.inr ⟨_, rfl⟩) rfl ?_
  refine g_bipush (n := 148) (v := nI 10) C dX6_init_146 rfl rfl ?_
  refine g_newi (n := 150) (N := 10) C dX6_init_148 rfl (by decide) (List.mem_of_getElem? (i := 108) (by decide +kernel)) ⟨by decide, by decide⟩ rfl (fun q hq => ?_)
  refine g_putF (n := 153) C dX6_init_150 kP_X6_62 hnm (hP.mo1 hq) ⟨rfl, rfl⟩ (Nat.le_of_ble_eq_true rfl) rfl ?_
  refine G.gen (fun L f => ∃ ad, IsP cy mo 23 ad A00 (fun _ => 0) L f) ⟨_, hP.push hq (k := 22) rfl (by decide) rfl⟩ (fun L f hP => ?_)
  obtain ⟨ad, hP⟩ := hP
  refine G.mono (ce' := 18) (sl' := 9437) (by decide) (by decide) ?_
  refine g_aload_n (n := 154) C dX6_init_153 rfl (Or.inr ⟨_, rfl⟩) rfl ?_
  refine g_bipush (n := 156) (v := nI 10) C dX6_init_154 rfl rfl ?_
  refine g_newi (n := 158) (N := 10) C dX6_init_156 rfl (by decide) (List.mem_of_getElem? (i := 108) (by decide +kernel)) ⟨by decide, by decide⟩ rfl (fun q hq => ?_)
  refine g_putF (n := 161) C dX6_init_158 kP_X6_65 hnm (hP.mo1 hq) ⟨rfl, rfl⟩ (Nat.le_of_ble_eq_true rfl) rfl ?_
  refine G.gen (fun L f => ∃ ad, IsP cy mo 24 ad A00 (fun _ => 0) L f) ⟨_, hP.push hq (k := 23) rfl (by decide) rfl⟩ (fun L f hP => ?_)
  obtain ⟨ad, hP⟩ := hP
  refine G.mono (ce' := 19) (sl' := 9447) (by decide) (by decide) ?_
  refine g_aload_n (n := 162) C dX6_init_161 rfl (Or.inr ⟨_, rfl⟩) rfl ?_
  refine g_iconst (n := 163) (v := -1) C dX6_init_162 rfl rfl ?_
  refine g_put (n := 166) C dX6_init_163 kP_X6_68 hP.1 ⟨rfl, rfl⟩ (Nat.le_of_ble_eq_true rfl) rfl ?_
  refine G.gen (fun L f => ∃ ad, IsP cy mo 24 ad A00 I0 L f) ⟨_, hP.int (k := 24) (x := -1) rfl⟩ (fun L f hP => ?_)
  obtain ⟨ad, hP⟩ := hP
  refine g_aload_n (n := 167) C dX6_init_166 rfl (Or.inr ⟨_, rfl⟩) rfl ?_
  refine g_bipush (n := 169) (v := nI 12) C dX6_init_167 rfl rfl ?_
  refine g_newi (n := 171) (N := 12) C dX6_init_169 rfl (by decide) (List.mem_of_getElem? (i := 108) (by decide +kernel)) ⟨by decide, by decide⟩ rfl (fun q hq => ?_)
  refine g_putF (n := 174) C dX6_init_171 kP_X6_72 hnm (hP.mo1 hq) ⟨rfl, rfl⟩ (Nat.le_of_ble_eq_true rfl) rfl ?_
  refine G.gen (fun L f => ∃ ad, IsP cy mo 29 ad A00 I0 L f) ⟨_, hP.push hq (k := 28) rfl (by decide) rfl⟩ (fun L f hP => ?_)
  obtain ⟨ad, hP⟩ := hP
  refine G.mono (ce' := 20) (sl' := 9459) (by decide) (by decide) ?_
  refine g_aload_n (n := 175) C dX6_init_174 rfl (Or.inr ⟨_, rfl⟩) rfl ?_
  refine g_iconst (n := 176) (v := nI 4) C dX6_init_175 rfl rfl ?_
  refine g_newi (n := 178) (N := 4) C dX6_init_176 rfl (by decide) (List.mem_of_getElem? (i := 108) (by decide +kernel)) ⟨by decide, by decide⟩ rfl (fun q hq => ?_)
  refine g_putF (n := 181) C dX6_init_178 kP_X6_75 hnm (hP.mo1 hq) ⟨rfl, rfl⟩ (Nat.le_of_ble_eq_true rfl) rfl ?_
  refine G.gen (fun L f => ∃ ad, IsP cy mo 30 ad A00 I0 L f) ⟨_, hP.push hq (k := 29) rfl (by decide) rfl⟩ (fun L f hP => ?_)
  obtain ⟨ad, hP⟩ := hP
  refine G.mono (ce' := 21) (sl' := 9463) (by decide) (by decide) ?_
  refine g_aload_n (n := 182) C dX6_init_181 rfl (Or.inr ⟨_, rfl⟩) rfl ?_
  refine g_bipush (n := 184) (v := nI 16) C dX6_init_182 rfl rfl ?_
  refine g_newi (n := 186) (N := 16) C dX6_init_184 rfl (by decide) (List.mem_of_getElem? (i := 108) (by decide +kernel)) ⟨by decide, by decide⟩ rfl (fun q hq => ?_)
  refine g_putF (n := 189) C dX6_init_186 kP_X6_78 hnm (hP.mo1 hq) ⟨rfl, rfl⟩ (Nat.le_of_ble_eq_true rfl) rfl ?_
  refine G.gen (fun L f => ∃ ad, IsP cy mo 31 ad A00 I0 L f) ⟨_, hP.push hq (k := 30) rfl (by decide) rfl⟩ (fun L f hP => ?_)
  obtain ⟨ad, hP⟩ := hP
  refine G.mono (ce' := 22) (sl' := 9479) (by decide) (by decide) ?_
  refine g_aload_n (n := 190) C dX6_init_189 rfl (Or.inr ⟨_, rfl⟩) rfl ?_
  refine g_sipush (n := 193) (v := nI 420) C dX6_init_190 rfl rfl ?_
  refine g_newz (n := 195) (N := 420) C dX6_init_193 rfl (by decide) (List.mem_of_getElem? (i := 888) (by decide +kernel)) ⟨by decide, by decide⟩ rfl (fun q hq => ?_)
  refine g_putF (n := 198) C dX6_init_195 kP_X6_81 hnm (hP.mo1 hq) ⟨rfl, rfl⟩ (Nat.le_of_ble_eq_true rfl) rfl ?_
  refine G.gen (fun L f => ∃ ad, IsP cy mo 32 ad A00 I0 L f) ⟨_, hP.push hq (k := 31) rfl (by decide) rfl⟩ (fun L f hP => ?_)
  obtain ⟨ad, hP⟩ := hP
  refine G.mono (ce' := 23) (sl' := 9899) (by decide) (by decide) ?_
  have hM : IsM cy mo ad A00 I0 L f := hP.all
  refine g_iconst (n := 199) (v := nI 0) C dX6_init_198 rfl rfl ?_
  refine g_istore_n (n := 200) (ls' := [_, _]) C dX6_init_199 rfl (by decide) rfl ?_
  refine g_loop (α := Nat × gF) (fun z => z.1 ≤ 8 ∧ IsM cy mo ad (upR A00 0 0 z.1 (fun _ => -1)) I0 L z.2) (fun z => 8 - z.1) (fun _ => L) (fun z => z.2) (fun _ => 23) (fun _ => 9899) 200 (fun z => [some (.ref mo), some (.int (nI z.1))]) (fun _ => []) (fun z hz ih => ?_) (fun J3 => J3 (0, f) ⟨Nat.zero_le _, by rw [upR_0]; exact hM⟩)
  obtain ⟨q, f⟩ := z
  obtain ⟨hq9, hM⟩ := hz
  dsimp only at hq9 hM ih ⊢
  refine g_iload_n (n := 201) C dX6_init_200 rfl rfl ?_
  refine g_bipush (n := 203) (v := nI 8) C dX6_init_201 rfl rfl ?_
  refine g_icmp_ge (n := 206) (tgt := 219) C dX6_init_203 (by decide) rfl (fun h203 => ?_) (fun h203 => ?_)
  · have e9 : q = 8 := by have := gn_ge h203 (by omega) (by omega); omega
    subst e9
    refine g_iconst (n := 220) (v := nI 0) C dX6_init_219 rfl rfl ?_
    refine g_istore_n (n := 221) (ls' := [_, _]) C dX6_init_220 rfl (by decide) rfl ?_
    refine g_loop (α := Nat × gF) (fun z => z.1 ≤ 36 ∧ IsM cy mo ad (upR (upR A00 0 0 8 (fun _ => -1)) 1 0 z.1 (fun _ => -1)) I0 L z.2) (fun z => 36 - z.1) (fun _ => L) (fun z => z.2) (fun _ => 23) (fun _ => 9899) 221 (fun z => [some (.ref mo), some (.int (nI z.1))]) (fun _ => []) (fun z hz ih => ?_) (fun J3 => J3 (0, f) ⟨Nat.zero_le _, by rw [upR_0]; exact hM⟩)
    obtain ⟨q, f⟩ := z
    obtain ⟨hq9, hM⟩ := hz
    dsimp only at hq9 hM ih ⊢
    refine g_iload_n (n := 222) C dX6_init_221 rfl rfl ?_
    refine g_bipush (n := 224) (v := nI 36) C dX6_init_222 rfl rfl ?_
    refine g_icmp_ge (n := 227) (tgt := 240) C dX6_init_224 (by decide) rfl (fun h224 => ?_) (fun h224 => ?_)
    · have e9 : q = 36 := by have := gn_ge h224 (by omega) (by omega); omega
      subst e9
      refine g_iconst (n := 241) (v := nI 0) C dX6_init_240 rfl rfl ?_
      refine g_istore_n (n := 242) (ls' := [_, _]) C dX6_init_241 rfl (by decide) rfl ?_
      refine g_loop (α := Nat × gF) (fun z => z.1 ≤ 5 ∧ IsM cy mo ad (upR (upR (upR A00 0 0 8 (fun _ => -1)) 1 0 36 (fun _ => -1)) 16 0 z.1 (fun _ => -1)) I0 L z.2) (fun z => 5 - z.1) (fun _ => L) (fun z => z.2) (fun _ => 23) (fun _ => 9899) 242 (fun z => [some (.ref mo), some (.int (nI z.1))]) (fun _ => []) (fun z hz ih => ?_) (fun J3 => J3 (0, f) ⟨Nat.zero_le _, by rw [upR_0]; exact hM⟩)
      obtain ⟨q, f⟩ := z
      obtain ⟨hq9, hM⟩ := hz
      dsimp only at hq9 hM ih ⊢
      refine g_iload_n (n := 243) C dX6_init_242 rfl rfl ?_
      refine g_iconst (n := 244) (v := nI 5) C dX6_init_243 rfl rfl ?_
      refine g_icmp_ge (n := 247) (tgt := 260) C dX6_init_244 (by decide) rfl (fun h244 => ?_) (fun h244 => ?_)
      · have e9 : q = 5 := by have := gn_ge h244 (by omega) (by omega); omega
        subst e9
        refine g_vret C hr dX6_init_260 ?_ ⟨by decide, by decide⟩
        exact ⟨rfl, ad, hM⟩
      · have hi9 : q < 5 := gn_gt h244 (by omega) (by omega)
        refine g_aload_n (n := 248) C dX6_init_247 rfl (Or.inr ⟨_, rfl⟩) rfl ?_
        refine m_get (n := 251) C hM dX6_init_248 kF_X6_56 rfl rfl ?_
        refine g_iload_n (n := 252) C dX6_init_251 rfl rfl ?_
        refine g_iconst (n := 253) (v := -1) C dX6_init_252 rfl rfl ?_
        refine m_ast (n := 254) C hM dX6_init_253 rfl rfl rfl (by simp only [mLen]; omega) (by decide) rfl (fun f hM => ?_)
        have hM := (show mU (upR (upR (upR A00 0 0 8 (fun _ => -1)) 1 0 36 (fun _ => -1)) 16 0 q (fun _ => -1)) 16 q (-1) = upR (upR (upR A00 0 0 8 (fun _ => -1)) 1 0 36 (fun _ => -1)) 16 0 (q + 1) (fun _ => -1) from by have h := upR_s (A := (upR (upR A00 0 0 8 (fun _ => -1)) 1 0 36 (fun _ => -1))) (k := 16) (lo := 0) (i := q) (g := fun _ => -1) (x := -1) rfl; rwa [Nat.zero_add] at h) ▸ hM
        refine g_iinc (n := 257) (ls' := [_, _]) C dX6_init_254 rfl (nI_1 _) rfl (by decide) rfl ?_
        refine g_goto (tgt := 242) C dX6_init_257 (by decide) ?_
        exact ih (q + 1, f) ⟨by show q + 1 ≤ 5; omega, hM⟩ (by show 5 - (q + 1) < 5 - q; omega)
    · have hi9 : q < 36 := gn_gt h224 (by omega) (by omega)
      refine g_aload_n (n := 228) C dX6_init_227 rfl (Or.inr ⟨_, rfl⟩) rfl ?_
      refine m_get (n := 231) C hM dX6_init_228 kF_X6_13 rfl rfl ?_
      refine g_iload_n (n := 232) C dX6_init_231 rfl rfl ?_
      refine g_iconst (n := 233) (v := -1) C dX6_init_232 rfl rfl ?_
      refine m_ast (n := 234) C hM dX6_init_233 rfl rfl rfl (by simp only [mLen]; omega) (by decide) rfl (fun f hM => ?_)
      have hM := (show mU (upR (upR A00 0 0 8 (fun _ => -1)) 1 0 q (fun _ => -1)) 1 q (-1) = upR (upR A00 0 0 8 (fun _ => -1)) 1 0 (q + 1) (fun _ => -1) from by have h := upR_s (A := (upR A00 0 0 8 (fun _ => -1))) (k := 1) (lo := 0) (i := q) (g := fun _ => -1) (x := -1) rfl; rwa [Nat.zero_add] at h) ▸ hM
      refine g_iinc (n := 237) (ls' := [_, _]) C dX6_init_234 rfl (nI_1 _) rfl (by decide) rfl ?_
      refine g_goto (tgt := 221) C dX6_init_237 (by decide) ?_
      exact ih (q + 1, f) ⟨by show q + 1 ≤ 36; omega, hM⟩ (by show 36 - (q + 1) < 36 - q; omega)
  · have hi9 : q < 8 := gn_gt h203 (by omega) (by omega)
    refine g_aload_n (n := 207) C dX6_init_206 rfl (Or.inr ⟨_, rfl⟩) rfl ?_
    refine m_get (n := 210) C hM dX6_init_207 kF_X6_7 rfl rfl ?_
    refine g_iload_n (n := 211) C dX6_init_210 rfl rfl ?_
    refine g_iconst (n := 212) (v := -1) C dX6_init_211 rfl rfl ?_
    refine m_ast (n := 213) C hM dX6_init_212 rfl rfl rfl (by simp only [mLen]; omega) (by decide) rfl (fun f hM => ?_)
    have hM := (show mU (upR A00 0 0 q (fun _ => -1)) 0 q (-1) = upR A00 0 0 (q + 1) (fun _ => -1) from by have h := upR_s (A := A00) (k := 0) (lo := 0) (i := q) (g := fun _ => -1) (x := -1) rfl; rwa [Nat.zero_add] at h) ▸ hM
    refine g_iinc (n := 216) (ls' := [_, _]) C dX6_init_213 rfl (nI_1 _) rfl (by decide) rfl ?_
    refine g_goto (tgt := 200) C dX6_init_216 (by decide) ?_
    exact ih (q + 1, f) ⟨by show q + 1 ≤ 8; omega, hM⟩ (by show 8 - (q + 1) < 8 - q; omega)

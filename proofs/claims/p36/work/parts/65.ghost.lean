/-! ===== the class's world, its ghosts named ===== -/
def CX (cy : Nat → ClassId) (co n : Nat) (PR PL : Nat → Nat) (S A : Nat → Nat → Int32) (I : Nat → Int32) (L : List Nat) (f : gF) : Prop := ∃ bk X Is, bk 0 = co ∧ RC cy bk n X Is PR PL S A I L f ∧ rmB n I ∧ pCt n A S
theorem par_v {A : Nat → Nat → Int32} {n : Nat} {P1 P2 : Nat → Nat} (hn : n ≤ 2 ^ 31) (h1 : vPar A n P1) (h2 : vPar A n P2) : ∀ k, k < n → P2 k = P1 k := fun k hk =>
  pI_inj ((h2 k hk).2.symm.trans (h1 k hk).2) (by have := (h2 k hk).1; omega) (by have := (h1 k hk).1; omega)
theorem spr_cg {n m q : Nat} {S1 S2 : Nat → Nat → Int32} (h : ∀ k, k < m → S2 k q = S1 k q) : spr S2 q m = spr S1 q m := by
  cases m with
  | zero => rfl
  | succ j => exact h j (by omega)
theorem sho_u {A : Nat → Nat → Int32} {n : Nat} {P1 P2 : Nat → Nat} {S1 S2 : Nat → Nat → Int32} (hP : vPar A n P1) (hp : ∀ k, k < n → P2 k = P1 k) (h1 : vShow A n P1 S1) (h2 : vShow A n P2 S2) : ∀ k, k < n → ∀ q, q < 12 → S2 k q = S1 k q := by
  intro k
  induction k using Nat.strongRecOn with
  | _ k ih =>
    intro hk q hq
    rw [h1 k q hk hq, h2 k q hk hq, hp k hk]
    unfold shw
    rw [spr_cg (n := n) (fun j hj => ih j (by have := (hP k hk).1; omega) (by have := (hP k hk).1; omega) q hq)]
theorem pl_u {A : Nat → Nat → Int32} {n : Nat} {P1 P2 L1 L2 : Nat → Nat} (hP : vPar A n P1) (hp : ∀ k, k < n → P2 k = P1 k) (h1 : vPL n P1 L1) (h2 : vPL n P2 L2) : ∀ k, k < n → L2 k = L1 k := by
  intro k
  induction k using Nat.strongRecOn with
  | _ k ih =>
    intro hk
    rw [h1 k hk, h2 k hk, hp k hk]
    have hle := (hP k hk).1
    cases hz : P1 k with
    | zero => rfl
    | succ j => exact congrArg (· + 1) (ih j (by omega) (by omega))
theorem RC.reg {cy : Nat → ClassId} {L : List Nat} {f : gF} {bk : Nat → Nat} {n : Nat} {X : Nat → va_E} {Is : Nat → Option iT} {PR PL : Nat → Nat} {S A : Nat → Nat → Int32} {I : Nat → Int32} (hR : RC cy bk n X Is PR PL S A I L f) {PR' PL' : Nat → Nat} {S' : Nat → Nat → Int32} (hp : ∀ k, k < n → PR' k = PR k) (hl : ∀ k, k < n → PL' k = PL k) (hs : ∀ k, k < n → ∀ q, q < 12 → S' k q = S k q) : RC cy bk n X Is PR' PL' S' A I L f := by
  obtain ⟨hP, hco, hfi, hba, hre, hta, hst, hbu, hlk, ⟨i1, i2, i3, i4, i5, i6, i7⟩⟩ := hR
  refine ⟨hP, hco, hfi, hba, hre, hta, hst, hbu.c (Nat.le_refl n) (fun _ _ => rfl) ⟨rfl, rfl, rfl⟩ (fun _ _ z => z) (fun _ _ _ _ => rfl) (fun _ _ => rfl) hl ⟨rfl, rfl, rfl, rfl, rfl⟩, fun k hk => (hlk k hk).c (i3 k hk).1 (fun _ _ _ => rfl) (fun _ _ _ => rfl) (fun _ _ z => z) ⟨hp k hk, hl k hk, hs k hk⟩ (fun _ _ => rfl) (fun _ _ => rfl) (fun _ _ _ => rfl), i1, i2, fun k hk => by rw [hp k hk]; exact i3 k hk, fun k q hk hq => ?_, fun k hk => ?_, fun k hk => by rw [hl k hk]; exact i6 k hk, fun k j hk h8 hj => i7 k j hk h8 (by rw [← hp k hk]; exact hj)⟩
  · rw [hs k hk q hq, hp k hk, i4 k q hk hq]
    unfold shw
    rw [spr_cg (n := n) (fun j hj => hs j (by have := (i3 k hk).1; omega) q hq)]
  · rw [hl k hk, hp k hk, i5 k hk]
    have hle := (i3 k hk).1
    cases hz : PR k with
    | zero => rfl
    | succ j => exact congrArg (· + 1) (hl j (by omega)).symm
theorem CX.nv {cy : Nat → ClassId} {co n : Nat} {PR PL : Nat → Nat} {S A : Nat → Nat → Int32} {I : Nat → Int32} {L : List Nat} {f : gF} (h : CX cy co n PR PL S A I L f) : pIn n A I PR PL S := by
  obtain ⟨bk, X, Is, -, hR, -⟩ := h
  exact hR.nv
theorem CX.ct {cy : Nat → ClassId} {co n : Nat} {PR PL : Nat → Nat} {S A : Nat → Nat → Int32} {I : Nat → Int32} {L : List Nat} {f : gF} (h : CX cy co n PR PL S A I L f) : pCt n A S := by
  obtain ⟨bk, X, Is, -, -, -, h⟩ := h
  exact h
theorem CX.co {cy : Nat → ClassId} {co n : Nat} {PR PL : Nat → Nat} {S A : Nat → Nat → Int32} {I : Nat → Int32} {L : List Nat} {f : gF} (h : CX cy co n PR PL S A I L f) : ∃ fs, gH L f co (.inr (5, fs)) := by
  obtain ⟨bk, X, Is, rfl, hR, -⟩ := h
  exact ⟨_, hR.co⟩
theorem CX.ext {cy : Nat → ClassId} {co n : Nat} {PR PL : Nat → Nat} {S A : Nat → Nat → Int32} {I : Nat → Int32} {L : List Nat} {f f' : gF} (h : CX cy co n PR PL S A I L f) (hf : ∀ a, a ∈ L → f' a = f a) : CX cy co n PR PL S A I L f' := by
  obtain ⟨bk, X, Is, h1, h2, h3, h4⟩ := h
  exact ⟨bk, X, Is, h1, h2.ext (fun _ z => z) hf, h3, h4⟩
theorem CX.cg {cy : Nat → ClassId} {co n : Nat} {PR PL : Nat → Nat} {S A : Nat → Nat → Int32} {I : Nat → Int32} {L : List Nat} {f : gF} (h : CX cy co n PR PL S A I L f) {A' : Nat → Nat → Int32} {I' : Nat → Int32} (ha : ∀ k j, k < 28 → A' k j = A k j) (hi : ∀ k, k ≠ 27 → I' k = I k) : CX cy co n PR PL S A' I' L f := by
  obtain ⟨bk, X, Is, h1, h2, h3, h4⟩ := h
  exact ⟨bk, X, Is, h1, h2.cg ha hi, h3.cg hi, h4.cg (fun k j hk => ha k j (by omega))⟩
theorem CX.of {cy : Nat → ClassId} {co n : Nat} {PR PL : Nat → Nat} {S A : Nat → Nat → Int32} {I : Nat → Int32} {L : List Nat} {f : gF} (h : CW cy co A I L f) (h7 : I 7 = nI n) (hn : n < 2 ^ 31) (hP : vPar A n PR) (hS : vShow A n PR S) (hL : vPL n PR PL) : CX cy co n PR PL S A I L f := by
  obtain ⟨bk, n0, X, Is, PR0, PL0, S0, h1, h2, h3, h4⟩ := h
  obtain ⟨i1, i2, i3, i4, i5, i6, i7⟩ := h2.nv
  have e : n0 = n := gn_inj (by omega) hn (i1.symm.trans h7)
  subst e
  have hp := par_v (by omega) i3 hP
  have hs := sho_u i3 hp i4 hS
  have hl := pl_u i3 hp i5 hL
  refine ⟨bk, X, Is, h1, h2.reg hp hl hs, h3, h4.1, h4.2.1, fun k q hk hq => by rw [hs k hk q hq]; exact h4.2.2.1 k q hk hq, h4.2.2.2⟩
theorem CX.cw {cy : Nat → ClassId} {co n : Nat} {PR PL : Nat → Nat} {S A : Nat → Nat → Int32} {I : Nat → Int32} {L : List Nat} {f : gF} (h : CX cy co n PR PL S A I L f) : CW cy co A I L f := by
  obtain ⟨bk, X, Is, h1, h2, h3, h4⟩ := h
  exact ⟨bk, n, X, Is, PR, PL, S, h1, h2, h3, h4⟩
/-- the same world, whatever the code of the last call was -/
theorem CX.same {cy : Nat → ClassId} {co n : Nat} {PR PL : Nat → Nat} {S A : Nat → Nat → Int32} {I : Nat → Int32} {L L1 : List Nat} {f f1 : gF} (h : CX cy co n PR PL S A I L f) {A1 : Nat → Nat → Int32} {I1 : Nat → Int32} (hw : CW cy co A1 I1 L1 f1) (ha : ∀ k j, k < 28 → A k j = A1 k j) (hi : ∀ k, k ≠ 27 → I k = I1 k) : CX cy co n PR PL S A I L1 f1 := by
  obtain ⟨i1, i2, i3, i4, i5, i6, i7⟩ := h.nv
  refine (CX.of hw ((hi 7 (by decide)).symm.trans i1) (by omega) (fun k hk => ⟨(i3 k hk).1, (ha 9 k (by decide)).symm.trans (i3 k hk).2⟩) (i4.cg (fun k q _ _ => (ha 10 _ (by decide)).symm)) i5).cg ha hi
theorem CX.rec9 {cy : Nat → ClassId} {co n : Nat} {PR PL : Nat → Nat} {S A : Nat → Nat → Int32} {I : Nat → Int32} {L : List Nat} {f : gF} (h : CX cy co n PR PL S A I L f) : vRec A := by
  obtain ⟨bk, X, Is, -, hR, -⟩ := h
  exact hR.rec9
/-- the tags, by layers that are there -/
def vTgl (A : Nat → Nat → Int32) (n : Nat) (TG : Nat → Nat) : Prop := ∀ t, t < 5 → TG t ≤ n ∧ A 16 t = pI (TG t) ∧ ∀ k, TG t = k + 1 → A 8 k = 0
theorem vTgl.tag {A : Nat → Nat → Int32} {n : Nat} {TG : Nat → Nat} (h : vTgl A n TG) : vTag A n TG := fun t ht => ⟨(h t ht).1, (h t ht).2.1⟩
theorem CX.tgs {cy : Nat → ClassId} {co n : Nat} {PR PL : Nat → Nat} {S A : Nat → Nat → Int32} {I : Nat → Int32} {L : List Nat} {f : gF} (h : CX cy co n PR PL S A I L f) : ∃ TG, vTgl A n TG := by
  obtain ⟨bk, X, Is, -, hR, -⟩ := h
  obtain ⟨g, -, hg⟩ := hR.ta
  have h : ∀ t, ∃ m, t < 5 → m ≤ n ∧ A 16 t = pI m ∧ ∀ k, m = k + 1 → A 8 k = 0 := fun t => by
    by_cases ht : t < 5
    · rcases hg t ht with ⟨e, -⟩ | ⟨k, hk, e, e8, -⟩
      · exact ⟨0, fun _ => ⟨Nat.zero_le _, e, fun k hk => by omega⟩⟩
      · exact ⟨k + 1, fun _ => ⟨hk, e, fun j hj => by
          have : j = k := by omega
          rw [this]; exact e8⟩⟩
    · exact ⟨0, fun z => absurd z ht⟩
  exact ⟨fun t => (h t).choose, fun t ht => (h t).choose_spec ht⟩
/-- the build -/
def vGo (A : Nat → Nat → Int32) (I : Nat → Int32) (n : Nat) (PL : Nat → Nat) (t c k : Nat) : Prop := I 17 = nI 1 ∧ I 18 = nI 0 ∧ I 19 = nI c ∧ I 20 = nI t ∧ t < c ∧ c ≤ 10 ∧ k < n ∧ I 24 = nI k ∧ A 8 k = 0 ∧ PL k = t ∧ (∀ p, p < c → vIns (A 21 p) (A 22 p) (A 23 p)) ∧ n + (c - t) ≤ 420
def vBu (A : Nat → Nat → Int32) (I : Nat → Int32) (n : Nat) (PL : Nat → Nat) : Prop := (∃ t c k, vGo A I n PL t c k) ∨ (I 17 = nI 0 ∧ (I 18 = nI 0 ∨ (I 18 = nI 1 ∧ ∃ k, k < n ∧ I 24 = nI k)))
theorem CX.bu {cy : Nat → ClassId} {co n : Nat} {PR PL : Nat → Nat} {S A : Nat → Nat → Int32} {I : Nat → Int32} {L : List Nat} {f : gF} (h : CX cy co n PR PL S A I L f) : vBu A I n PL := by
  obtain ⟨bk, X, Is, -, hR, hB, -⟩ := h
  obtain ⟨t, c, ly, bs, g, ht, hc, -, -, -, -, hp2, hbu⟩ := hR.bu
  rcases hbu with ⟨z, z8, h19, h20, htc, k, hk, h24, h8, hpl, -⟩ | ⟨z, -, ⟨z8, -⟩ | ⟨z8, k, hk, h24, -⟩⟩
  · exact Or.inl ⟨t, c, k, z, z8, h19, h20, htc, hc, hk, h24, h8, hpl, fun p hp => by
      obtain ⟨v, -, hv⟩ := hp2 p hp
      exact hv.2.1, hB c t z h19 h20 hc ht⟩
  · exact Or.inr ⟨z, Or.inl z8⟩
  · exact Or.inr ⟨z, Or.inr ⟨z8, k, hk, h24⟩⟩
/-! ===== one outcome of the relation is enough ===== -/
theorem gX.ok {l : Launch} {s0 : State} {D : va_G} {cy : Nat → ClassId} {co : Nat} {y : MethodName} {cc : ByteArray} {maxL : Nat} {ret : Option FieldType} {d mc ms : Nat} {av : List Value} {L : List Nat} {f : gF} {T : List String} {A : Nat → Nat → Int32} {I : Nat → Int32} {Rl : Int32 → (Nat → Nat → Int32) → (Nat → Int32) → Prop} (h : gX l s0 D y cc maxL ret d mc ms av L f (uQ cy co Rl) (uX T A I Rl)) (hT : T.length ≤ 3) {b : Int32} {A1 : Nat → Nat → Int32} {I1 : Nat → Int32} (hr : Rl b A1 I1) (h27 : I1 27 = nI 0) : gX l s0 D y cc maxL ret d mc ms av L f (fun v L1 f1 => v = some (.int b) ∧ CW cy co A1 I1 L1 f1) (fun _ => False) :=
  gX.mono h (fun v L1 f1 hq => (hq b A1 I1 hr).2) (fun E hx => by
    obtain ⟨w, h0, hw, e, -⟩ := hx b A1 I1 hr
    have := gn_inj (by omega) (by omega) (h27.symm.trans e)
    omega)
theorem gX.no {l : Launch} {s0 : State} {D : va_G} {cy : Nat → ClassId} {co : Nat} {y : MethodName} {cc : ByteArray} {maxL : Nat} {ret : Option FieldType} {d mc ms : Nat} {av : List Value} {L : List Nat} {f : gF} {T : List String} {A : Nat → Nat → Int32} {I : Nat → Int32} {Rl : Int32 → (Nat → Nat → Int32) → (Nat → Int32) → Prop} (h : gX l s0 D y cc maxL ret d mc ms av L f (uQ cy co Rl) (uX T A I Rl)) (hT : T.length ≤ 3) {b : Int32} {A1 : Nat → Nat → Int32} {I1 : Nat → Int32} (hr : Rl b A1 I1) {w : Nat} (hw0 : 0 < w) (hw3 : w ≤ 3) (h27 : I1 27 = nI w) : gX l s0 D y cc maxL ret d mc ms av L f (fun _ _ _ => False) (fun E => E = exn T w) :=
  gX.mono h (fun v L1 f1 hq => by
    have := gn_inj (by omega) (by omega) ((hq b A1 I1 hr).1.symm.trans h27)
    omega) (fun E hx => by
    obtain ⟨w2, h0, hw, e, e2, -⟩ := hx b A1 I1 hr
    have := gn_inj (by omega) (by omega) (h27.symm.trans e)
    rw [this]; exact e2)
theorem gX.ret {l : Launch} {s0 : State} {D : va_G} {y : MethodName} {cc : ByteArray} {maxL : Nat} {ret : Option FieldType} {d mc ms : Nat} {av : List Value} {L : List Nat} {f : gF} {Qr : Option Value → List Nat → gF → Prop} (h : gX l s0 D y cc maxL ret d mc ms av L f Qr (fun _ => False)) : gM l s0 D y cc maxL ret d mc ms av L f Qr := by
  intro sz
  refine MetFree.mono (h sz) (fun a s hp => hp) (fun _ _ _ _ _ _ => trivial) (fun a st o t hp hq => ?_)
  rcases hq with hq | ⟨q, ho, E, ce, Lc, ⟨hpx, h1⟩, h2⟩
  · exact hq
  · exact hpx.elim
theorem gM.mono {l : Launch} {s0 : State} {D : va_G} {y : MethodName} {cc : ByteArray} {maxL : Nat} {ret : Option FieldType} {d mc ms : Nat} {av : List Value} {L : List Nat} {f : gF} {Qr Qr' : Option Value → List Nat → gF → Prop} (h : gM l s0 D y cc maxL ret d mc ms av L f Qr) (hQ : ∀ v L1 f1, Qr v L1 f1 → Qr' v L1 f1) : gM l s0 D y cc maxL ret d mc ms av L f Qr' := by
  intro sz
  refine MetFree.mono (h sz) (fun a s hp => hp) (fun _ _ _ _ _ _ => trivial) (fun a st o t hp hq => ?_)
  obtain ⟨⟨⟨v, L1, f1, ho, hq, h1⟩, hF⟩, hL⟩ := hq
  exact ⟨⟨⟨v, L1, f1, ho, hQ _ _ _ hq, h1⟩, hF⟩, hL⟩
theorem gH9.mono {l : Launch} {s0 : State} {D : va_G} {y : MethodName} {cc : ByteArray} {maxL : Nat} {ret : Option FieldType} {hh : List (Nat × Nat × Nat × Nat)} {d mc ms : Nat} {av : List Value} {L : List Nat} {f : gF} {Qr Qr' : Option Value → List Nat → gF → Prop} (h : gH9 l s0 D y cc maxL ret hh d mc ms av L f Qr) (hQ : ∀ v L1 f1, Qr v L1 f1 → Qr' v L1 f1) : gH9 l s0 D y cc maxL ret hh d mc ms av L f Qr' := by
  intro sz
  refine MetFree.mono (h sz) (fun a s hp => hp) (fun _ _ _ _ _ _ => trivial) (fun a st o t hp hq => ?_)
  rcases hq with ⟨⟨⟨v, L1, f1, ho, hq, h1⟩, hF⟩, hL⟩ | ⟨q, ho, E, ce, Lc, hx, -⟩
  · exact Or.inl ⟨⟨⟨v, L1, f1, ho, hQ _ _ _ hq, h1⟩, hF⟩, hL⟩
  · exact hx.elim

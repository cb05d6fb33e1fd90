/-! ===== what each call answers, in the ghosts ===== -/
theorem CX.wr {cy : Nat → ClassId} {co n : Nat} {PR PL : Nat → Nat} {S A : Nat → Nat → Int32} {I : Nat → Int32} {L L1 : List Nat} {f f1 : gF} (h : CX cy co n PR PL S A I L f) {A1 : Nat → Nat → Int32} {I1 : Nat → Int32} (hw : CW cy co A1 I1 L1 f1) (h7 : I1 7 = I 7) (ha : ∀ k j, 9 ≤ k → k ≤ 10 → A1 k j = A k j) : CX cy co n PR PL S A1 I1 L1 f1 := by
  obtain ⟨i1, i2, i3, i4, i5, i6, i7⟩ := h.nv
  exact CX.of hw (h7.trans i1) (by omega) (fun k hk => ⟨(i3 k hk).1, (ha 9 k (by decide) (by decide)).trans (i3 k hk).2⟩) (i4.cg (fun k q _ _ => ha 10 _ (by decide) (by decide))) i5
theorem q_parentOf {l : Launch} {s0 : State} {D : va_G} {cy : Nat → ClassId} (hE : gE s0 D cy) (hl : l.stackTraces = false) {L : List Nat} {f : gF} {co n : Nat} {PR PL : Nat → Nat} {S A : Nat → Nat → Int32} {I : Nat → Int32} (h : CX cy co n PR PL S A I L f) {k : Nat} (hk : k < n) (h8 : A 8 k = 0) : gX l s0 D yX5_parentOf cX5_parentOf 2 (some .int) 8 2 12 [.ref co, .int (nI k)] L f (fun v L1 f1 => v = some (.int (pI (PR k))) ∧ CX cy co n PR PL S (A) I L1 f1) (fun _ => False) := by
  obtain ⟨bk, X, Is, rfl, hR, hB, hC⟩ := id h
  
  refine gX.mono ((k5_parentOf hE hl hR hB hC (nI k)).ok (by decide) (b := A 9 k) (A1 := (A)) (I1 := va_up I 27 (nI 0)) ⟨0, Or.inr ⟨rfl, k, hk, rfl, h8⟩, rfl, fun _ => ⟨rfl, k, hk, rfl, h8, rfl⟩, fun z => absurd rfl z⟩ (va_up_self _ _ _)) (fun v L1 f1 hq => ⟨hq.1.trans ?_, h.same hq.2 (fun _ _ _ => rfl) (fun k hk => (i27 k hk).symm)⟩) (fun _ z => z)
  rw [(h.nv.2.2.1 k hk).2]
theorem d_parentOf {l : Launch} {s0 : State} {D : va_G} {cy : Nat → ClassId} (hE : gE s0 D cy) (hl : l.stackTraces = false) {L : List Nat} {f : gF} {co n : Nat} {PR PL : Nat → Nat} {S A : Nat → Nat → Int32} {I : Nat → Int32} (h : CX cy co n PR PL S A I L f) {k : Nat} (hk : k < n) (h8 : A 8 k = 0) : gM l s0 D yX5_parentOf cX5_parentOf 2 (some .int) 8 2 12 [.ref co, .int (nI k)] L f (fun v L1 f1 => v = some (.int (pI (PR k))) ∧ CX cy co n PR PL S (A) I L1 f1) := (q_parentOf hE hl h hk h8).ret
theorem t_parentOf {l : Launch} {s0 : State} {D : va_G} {cy : Nat → ClassId} (hE : gE s0 D cy) (hl : l.stackTraces = false) {L : List Nat} {f : gF} (hN : gN9 s0) {co n : Nat} {PR PL : Nat → Nat} {S A : Nat → Nat → Int32} {I : Nat → Int32} (h : CX cy co n PR PL S A I L f) {k : Nat} (hk : k < n) (h8 : A 8 k = 0) (p1 : Int32) : gH9 l s0 D yL_tells cL_tells 5 (some .int) [(0, 99, 100, 28)] 9 2 12 [.ref co, .int (nI 0), .int (nI k), .int (p1)] L f (fun v L1 f1 => v = some (.int (pI (PR k))) ∧ CX cy co n PR PL S (A) I L1 f1) := by
  obtain ⟨fs, hco⟩ := h.co
  exact gH9.mono (kt_tells_0 hE hl hN hco (nI k) p1 (q_parentOf hE hl h hk h8) (fun v L1 f1 hq => ⟨_, hq.1⟩) (fun E z => z.elim)) (fun v L1 f1 hq => hq.elim id (fun z => by
    obtain ⟨-, -, E, hE, -⟩ := z
    exact hE.elim))
theorem n_parentOf {l : Launch} {s0 : State} {D : va_G} {cy : Nat → ClassId} (hE : gE s0 D cy) (hl : l.stackTraces = false) {L : List Nat} {f : gF} {co n : Nat} {PR PL : Nat → Nat} {S A : Nat → Nat → Int32} {I : Nat → Int32} (h : CX cy co n PR PL S A I L f) {x : Int32} (hx : ¬ live A n x) : gX l s0 D yX5_parentOf cX5_parentOf 2 (some .int) 8 2 12 [.ref co, .int (x)] L f (fun _ _ _ => False) (fun E => E = xI) := by
  obtain ⟨bk, X, Is, rfl, hR, hB, hC⟩ := id h
  
  exact gX.mono ((k5_parentOf hE hl hR hB hC (x)).no (by decide) (b := 0) (A1 := A) (I1 := va_up I 27 (nI 1)) ⟨1, Or.inl ⟨rfl, hx⟩, rfl, fun z => absurd z (by decide), fun _ => rfl⟩ (w := 1) (by decide) (by decide) (va_up_self _ _ _)) (fun _ _ _ z => z) (fun E z => z)
theorem tn_parentOf {l : Launch} {s0 : State} {D : va_G} {cy : Nat → ClassId} (hE : gE s0 D cy) (hl : l.stackTraces = false) {L : List Nat} {f : gF} (hN : gN9 s0) {co n : Nat} {PR PL : Nat → Nat} {S A : Nat → Nat → Int32} {I : Nat → Int32} (h : CX cy co n PR PL S A I L f) {x : Int32} (hx : ¬ live A n x) (p1 : Int32) : gH9 l s0 D yL_tells cL_tells 5 (some .int) [(0, 99, 100, 28)] 9 2 12 [.ref co, .int (nI 0), .int (x), .int (p1)] L f (fun v L1 f1 => v = some (.int (-30)) ∧ L = L1 ∧ f1 = f) := by
  obtain ⟨fs, hco⟩ := h.co
  exact gH9.mono (kt_tells_0 hE hl hN hco (x) p1 (n_parentOf hE hl h hx) (fun v L1 f1 hq => hq.elim) (fun E z => z)) (fun v L1 f1 hq => hq.elim (fun z => z.elim) (fun z => by
    obtain ⟨e1, e2, E, hE, e3⟩ := z
    rw [hE, xcd_I] at e3
    exact ⟨e3, e1, e2⟩))
theorem q_sizeOf {l : Launch} {s0 : State} {D : va_G} {cy : Nat → ClassId} (hE : gE s0 D cy) (hl : l.stackTraces = false) {L : List Nat} {f : gF} {co n : Nat} {PR PL : Nat → Nat} {S A : Nat → Nat → Int32} {I : Nat → Int32} (h : CX cy co n PR PL S A I L f) {k : Nat} (hk : k < n) (h8 : A 8 k = 0) : gX l s0 D yX5_sizeOf cX5_sizeOf 2 (some .int) 8 2 12 [.ref co, .int (nI k)] L f (fun v L1 f1 => v = some (.int (nI (szN A k 12))) ∧ CX cy co n PR PL S (A) I L1 f1) (fun _ => False) := by
  obtain ⟨bk, X, Is, rfl, hR, hB, hC⟩ := id h
  
  refine gX.mono ((k5_sizeOf hE hl hR hB hC (nI k)).ok (by decide) (b := nI (szN A k 12)) (A1 := (A)) (I1 := va_up I 27 (nI 0)) ⟨0, Or.inr ⟨rfl, k, hk, rfl, h8⟩, rfl, fun _ => ⟨rfl, k, hk, rfl, h8, rfl⟩, fun z => absurd rfl z⟩ (va_up_self _ _ _)) (fun v L1 f1 hq => ⟨hq.1.trans ?_, h.same hq.2 (fun _ _ _ => rfl) (fun k hk => (i27 k hk).symm)⟩) (fun _ z => z)
  rfl
theorem d_sizeOf {l : Launch} {s0 : State} {D : va_G} {cy : Nat → ClassId} (hE : gE s0 D cy) (hl : l.stackTraces = false) {L : List Nat} {f : gF} {co n : Nat} {PR PL : Nat → Nat} {S A : Nat → Nat → Int32} {I : Nat → Int32} (h : CX cy co n PR PL S A I L f) {k : Nat} (hk : k < n) (h8 : A 8 k = 0) : gM l s0 D yX5_sizeOf cX5_sizeOf 2 (some .int) 8 2 12 [.ref co, .int (nI k)] L f (fun v L1 f1 => v = some (.int (nI (szN A k 12))) ∧ CX cy co n PR PL S (A) I L1 f1) := (q_sizeOf hE hl h hk h8).ret
theorem t_sizeOf {l : Launch} {s0 : State} {D : va_G} {cy : Nat → ClassId} (hE : gE s0 D cy) (hl : l.stackTraces = false) {L : List Nat} {f : gF} (hN : gN9 s0) {co n : Nat} {PR PL : Nat → Nat} {S A : Nat → Nat → Int32} {I : Nat → Int32} (h : CX cy co n PR PL S A I L f) {k : Nat} (hk : k < n) (h8 : A 8 k = 0) (p1 : Int32) : gH9 l s0 D yL_tells cL_tells 5 (some .int) [(0, 99, 100, 28)] 9 2 12 [.ref co, .int (nI 1), .int (nI k), .int (p1)] L f (fun v L1 f1 => v = some (.int (nI (szN A k 12))) ∧ CX cy co n PR PL S (A) I L1 f1) := by
  obtain ⟨fs, hco⟩ := h.co
  exact gH9.mono (kt_tells_1 hE hl hN hco (nI k) p1 (q_sizeOf hE hl h hk h8) (fun v L1 f1 hq => ⟨_, hq.1⟩) (fun E z => z.elim)) (fun v L1 f1 hq => hq.elim id (fun z => by
    obtain ⟨-, -, E, hE, -⟩ := z
    exact hE.elim))
theorem n_sizeOf {l : Launch} {s0 : State} {D : va_G} {cy : Nat → ClassId} (hE : gE s0 D cy) (hl : l.stackTraces = false) {L : List Nat} {f : gF} {co n : Nat} {PR PL : Nat → Nat} {S A : Nat → Nat → Int32} {I : Nat → Int32} (h : CX cy co n PR PL S A I L f) {x : Int32} (hx : ¬ live A n x) : gX l s0 D yX5_sizeOf cX5_sizeOf 2 (some .int) 8 2 12 [.ref co, .int (x)] L f (fun _ _ _ => False) (fun E => E = xI) := by
  obtain ⟨bk, X, Is, rfl, hR, hB, hC⟩ := id h
  
  exact gX.mono ((k5_sizeOf hE hl hR hB hC (x)).no (by decide) (b := 0) (A1 := A) (I1 := va_up I 27 (nI 1)) ⟨1, Or.inl ⟨rfl, hx⟩, rfl, fun z => absurd z (by decide), fun _ => rfl⟩ (w := 1) (by decide) (by decide) (va_up_self _ _ _)) (fun _ _ _ z => z) (fun E z => z)
theorem tn_sizeOf {l : Launch} {s0 : State} {D : va_G} {cy : Nat → ClassId} (hE : gE s0 D cy) (hl : l.stackTraces = false) {L : List Nat} {f : gF} (hN : gN9 s0) {co n : Nat} {PR PL : Nat → Nat} {S A : Nat → Nat → Int32} {I : Nat → Int32} (h : CX cy co n PR PL S A I L f) {x : Int32} (hx : ¬ live A n x) (p1 : Int32) : gH9 l s0 D yL_tells cL_tells 5 (some .int) [(0, 99, 100, 28)] 9 2 12 [.ref co, .int (nI 1), .int (x), .int (p1)] L f (fun v L1 f1 => v = some (.int (-30)) ∧ L = L1 ∧ f1 = f) := by
  obtain ⟨fs, hco⟩ := h.co
  exact gH9.mono (kt_tells_1 hE hl hN hco (x) p1 (n_sizeOf hE hl h hx) (fun v L1 f1 hq => hq.elim) (fun E z => z)) (fun v L1 f1 hq => hq.elim (fun z => z.elim) (fun z => by
    obtain ⟨e1, e2, E, hE, e3⟩ := z
    rw [hE, xcd_I] at e3
    exact ⟨e3, e1, e2⟩))
theorem q_depth {l : Launch} {s0 : State} {D : va_G} {cy : Nat → ClassId} (hE : gE s0 D cy) (hl : l.stackTraces = false) {L : List Nat} {f : gF} {co n : Nat} {PR PL : Nat → Nat} {S A : Nat → Nat → Int32} {I : Nat → Int32} (h : CX cy co n PR PL S A I L f) {k : Nat} (hk : k < n) (h8 : A 8 k = 0) : gX l s0 D yX5_depth cX5_depth 2 (some .int) 8 2 12 [.ref co, .int (nI k)] L f (fun v L1 f1 => v = some (.int (nI (PL k + 1))) ∧ CX cy co n PR PL S (A) I L1 f1) (fun _ => False) := by
  obtain ⟨bk, X, Is, rfl, hR, hB, hC⟩ := id h
  
  refine gX.mono ((k5_depth hE hl hR hB hC (nI k)).ok (by decide) (b := nI (PL k + 1)) (A1 := (A)) (I1 := va_up I 27 (nI 0)) ⟨0, Or.inr ⟨rfl, k, hk, rfl, h8⟩, rfl, fun _ => ⟨rfl, k, hk, rfl, h8, rfl⟩, fun z => absurd rfl z⟩ (va_up_self _ _ _)) (fun v L1 f1 hq => ⟨hq.1.trans ?_, h.same hq.2 (fun _ _ _ => rfl) (fun k hk => (i27 k hk).symm)⟩) (fun _ z => z)
  rfl
theorem d_depth {l : Launch} {s0 : State} {D : va_G} {cy : Nat → ClassId} (hE : gE s0 D cy) (hl : l.stackTraces = false) {L : List Nat} {f : gF} {co n : Nat} {PR PL : Nat → Nat} {S A : Nat → Nat → Int32} {I : Nat → Int32} (h : CX cy co n PR PL S A I L f) {k : Nat} (hk : k < n) (h8 : A 8 k = 0) : gM l s0 D yX5_depth cX5_depth 2 (some .int) 8 2 12 [.ref co, .int (nI k)] L f (fun v L1 f1 => v = some (.int (nI (PL k + 1))) ∧ CX cy co n PR PL S (A) I L1 f1) := (q_depth hE hl h hk h8).ret
theorem t_depth {l : Launch} {s0 : State} {D : va_G} {cy : Nat → ClassId} (hE : gE s0 D cy) (hl : l.stackTraces = false) {L : List Nat} {f : gF} (hN : gN9 s0) {co n : Nat} {PR PL : Nat → Nat} {S A : Nat → Nat → Int32} {I : Nat → Int32} (h : CX cy co n PR PL S A I L f) {k : Nat} (hk : k < n) (h8 : A 8 k = 0) (p1 : Int32) : gH9 l s0 D yL_tells cL_tells 5 (some .int) [(0, 99, 100, 28)] 9 2 12 [.ref co, .int (nI 5), .int (nI k), .int (p1)] L f (fun v L1 f1 => v = some (.int (nI (PL k + 1))) ∧ CX cy co n PR PL S (A) I L1 f1) := by
  obtain ⟨fs, hco⟩ := h.co
  exact gH9.mono (kt_tells_5 hE hl hN hco (nI k) p1 (q_depth hE hl h hk h8) (fun v L1 f1 hq => ⟨_, hq.1⟩) (fun E z => z.elim)) (fun v L1 f1 hq => hq.elim id (fun z => by
    obtain ⟨-, -, E, hE, -⟩ := z
    exact hE.elim))
theorem n_depth {l : Launch} {s0 : State} {D : va_G} {cy : Nat → ClassId} (hE : gE s0 D cy) (hl : l.stackTraces = false) {L : List Nat} {f : gF} {co n : Nat} {PR PL : Nat → Nat} {S A : Nat → Nat → Int32} {I : Nat → Int32} (h : CX cy co n PR PL S A I L f) {x : Int32} (hx : ¬ live A n x) : gX l s0 D yX5_depth cX5_depth 2 (some .int) 8 2 12 [.ref co, .int (x)] L f (fun _ _ _ => False) (fun E => E = xI) := by
  obtain ⟨bk, X, Is, rfl, hR, hB, hC⟩ := id h
  
  exact gX.mono ((k5_depth hE hl hR hB hC (x)).no (by decide) (b := 0) (A1 := A) (I1 := va_up I 27 (nI 1)) ⟨1, Or.inl ⟨rfl, hx⟩, rfl, fun z => absurd z (by decide), fun _ => rfl⟩ (w := 1) (by decide) (by decide) (va_up_self _ _ _)) (fun _ _ _ z => z) (fun E z => z)
theorem tn_depth {l : Launch} {s0 : State} {D : va_G} {cy : Nat → ClassId} (hE : gE s0 D cy) (hl : l.stackTraces = false) {L : List Nat} {f : gF} (hN : gN9 s0) {co n : Nat} {PR PL : Nat → Nat} {S A : Nat → Nat → Int32} {I : Nat → Int32} (h : CX cy co n PR PL S A I L f) {x : Int32} (hx : ¬ live A n x) (p1 : Int32) : gH9 l s0 D yL_tells cL_tells 5 (some .int) [(0, 99, 100, 28)] 9 2 12 [.ref co, .int (nI 5), .int (x), .int (p1)] L f (fun v L1 f1 => v = some (.int (-30)) ∧ L = L1 ∧ f1 = f) := by
  obtain ⟨fs, hco⟩ := h.co
  exact gH9.mono (kt_tells_5 hE hl hN hco (x) p1 (n_depth hE hl h hx) (fun v L1 f1 hq => hq.elim) (fun E z => z)) (fun v L1 f1 hq => hq.elim (fun z => z.elim) (fun z => by
    obtain ⟨e1, e2, E, hE, e3⟩ := z
    rw [hE, xcd_I] at e3
    exact ⟨e3, e1, e2⟩))
theorem q_imageSize {l : Launch} {s0 : State} {D : va_G} {cy : Nat → ClassId} (hE : gE s0 D cy) (hl : l.stackTraces = false) {L : List Nat} {f : gF} {co n : Nat} {PR PL : Nat → Nat} {S A : Nat → Nat → Int32} {I : Nat → Int32} (h : CX cy co n PR PL S A I L f) {k : Nat} (hk : k < n) (h8 : A 8 k = 0) : gX l s0 D yX5_imageSize cX5_imageSize 4 (some .int) 8 2 12 [.ref co, .int (nI k)] L f (fun v L1 f1 => v = some (.int (nI (isT A PR (k + 1)))) ∧ CX cy co n PR PL S (A) I L1 f1) (fun _ => False) := by
  obtain ⟨bk, X, Is, rfl, hR, hB, hC⟩ := id h
  
  refine gX.mono ((k5_imageSize hE hl hR hB hC (nI k)).ok (by decide) (b := nI (isT A PR (k + 1))) (A1 := (A)) (I1 := va_up I 27 (nI 0)) ⟨0, Or.inr ⟨rfl, k, hk, rfl, h8⟩, rfl, fun _ => ⟨rfl, k, hk, rfl, h8, rfl⟩, fun z => absurd rfl z⟩ (va_up_self _ _ _)) (fun v L1 f1 hq => ⟨hq.1.trans ?_, h.same hq.2 (fun _ _ _ => rfl) (fun k hk => (i27 k hk).symm)⟩) (fun _ z => z)
  rfl
theorem d_imageSize {l : Launch} {s0 : State} {D : va_G} {cy : Nat → ClassId} (hE : gE s0 D cy) (hl : l.stackTraces = false) {L : List Nat} {f : gF} {co n : Nat} {PR PL : Nat → Nat} {S A : Nat → Nat → Int32} {I : Nat → Int32} (h : CX cy co n PR PL S A I L f) {k : Nat} (hk : k < n) (h8 : A 8 k = 0) : gM l s0 D yX5_imageSize cX5_imageSize 4 (some .int) 8 2 12 [.ref co, .int (nI k)] L f (fun v L1 f1 => v = some (.int (nI (isT A PR (k + 1)))) ∧ CX cy co n PR PL S (A) I L1 f1) := (q_imageSize hE hl h hk h8).ret
theorem t_imageSize {l : Launch} {s0 : State} {D : va_G} {cy : Nat → ClassId} (hE : gE s0 D cy) (hl : l.stackTraces = false) {L : List Nat} {f : gF} (hN : gN9 s0) {co n : Nat} {PR PL : Nat → Nat} {S A : Nat → Nat → Int32} {I : Nat → Int32} (h : CX cy co n PR PL S A I L f) {k : Nat} (hk : k < n) (h8 : A 8 k = 0) (p1 : Int32) : gH9 l s0 D yL_tells cL_tells 5 (some .int) [(0, 99, 100, 28)] 9 2 12 [.ref co, .int (nI 6), .int (nI k), .int (p1)] L f (fun v L1 f1 => v = some (.int (nI (isT A PR (k + 1)))) ∧ CX cy co n PR PL S (A) I L1 f1) := by
  obtain ⟨fs, hco⟩ := h.co
  exact gH9.mono (kt_tells_6 hE hl hN hco (nI k) p1 (q_imageSize hE hl h hk h8) (fun v L1 f1 hq => ⟨_, hq.1⟩) (fun E z => z.elim)) (fun v L1 f1 hq => hq.elim id (fun z => by
    obtain ⟨-, -, E, hE, -⟩ := z
    exact hE.elim))
theorem n_imageSize {l : Launch} {s0 : State} {D : va_G} {cy : Nat → ClassId} (hE : gE s0 D cy) (hl : l.stackTraces = false) {L : List Nat} {f : gF} {co n : Nat} {PR PL : Nat → Nat} {S A : Nat → Nat → Int32} {I : Nat → Int32} (h : CX cy co n PR PL S A I L f) {x : Int32} (hx : ¬ live A n x) : gX l s0 D yX5_imageSize cX5_imageSize 4 (some .int) 8 2 12 [.ref co, .int (x)] L f (fun _ _ _ => False) (fun E => E = xI) := by
  obtain ⟨bk, X, Is, rfl, hR, hB, hC⟩ := id h
  
  exact gX.mono ((k5_imageSize hE hl hR hB hC (x)).no (by decide) (b := 0) (A1 := A) (I1 := va_up I 27 (nI 1)) ⟨1, Or.inl ⟨rfl, hx⟩, rfl, fun z => absurd z (by decide), fun _ => rfl⟩ (w := 1) (by decide) (by decide) (va_up_self _ _ _)) (fun _ _ _ z => z) (fun E z => z)
theorem tn_imageSize {l : Launch} {s0 : State} {D : va_G} {cy : Nat → ClassId} (hE : gE s0 D cy) (hl : l.stackTraces = false) {L : List Nat} {f : gF} (hN : gN9 s0) {co n : Nat} {PR PL : Nat → Nat} {S A : Nat → Nat → Int32} {I : Nat → Int32} (h : CX cy co n PR PL S A I L f) {x : Int32} (hx : ¬ live A n x) (p1 : Int32) : gH9 l s0 D yL_tells cL_tells 5 (some .int) [(0, 99, 100, 28)] 9 2 12 [.ref co, .int (nI 6), .int (x), .int (p1)] L f (fun v L1 f1 => v = some (.int (-30)) ∧ L = L1 ∧ f1 = f) := by
  obtain ⟨fs, hco⟩ := h.co
  exact gH9.mono (kt_tells_6 hE hl hN hco (x) p1 (n_imageSize hE hl h hx) (fun v L1 f1 hq => hq.elim) (fun E z => z)) (fun v L1 f1 hq => hq.elim (fun z => z.elim) (fun z => by
    obtain ⟨e1, e2, E, hE, e3⟩ := z
    rw [hE, xcd_I] at e3
    exact ⟨e3, e1, e2⟩))
theorem q_digest {l : Launch} {s0 : State} {D : va_G} {cy : Nat → ClassId} (hE : gE s0 D cy) (hl : l.stackTraces = false) {L : List Nat} {f : gF} {co n : Nat} {PR PL : Nat → Nat} {S A : Nat → Nat → Int32} {I : Nat → Int32} (h : CX cy co n PR PL S A I L f) {k : Nat} (hk : k < n) (h8 : A 8 k = 0) : gX l s0 D yX5_digest cX5_digest 2 (some .int) 8 2 12 [.ref co, .int (nI k)] L f (fun v L1 f1 => v = some (.int (dgF (S k) 12)) ∧ CX cy co n PR PL S (A) I L1 f1) (fun _ => False) := by
  obtain ⟨bk, X, Is, rfl, hR, hB, hC⟩ := id h
  
  refine gX.mono ((k5_digest hE hl hR hB hC (nI k)).ok (by decide) (b := dgF (S k) 12) (A1 := (A)) (I1 := va_up I 27 (nI 0)) ⟨0, Or.inr ⟨rfl, k, hk, rfl, h8⟩, rfl, fun _ => ⟨rfl, k, hk, rfl, h8, rfl⟩, fun z => absurd rfl z⟩ (va_up_self _ _ _)) (fun v L1 f1 hq => ⟨hq.1.trans ?_, h.same hq.2 (fun _ _ _ => rfl) (fun k hk => (i27 k hk).symm)⟩) (fun _ z => z)
  rfl
theorem d_digest {l : Launch} {s0 : State} {D : va_G} {cy : Nat → ClassId} (hE : gE s0 D cy) (hl : l.stackTraces = false) {L : List Nat} {f : gF} {co n : Nat} {PR PL : Nat → Nat} {S A : Nat → Nat → Int32} {I : Nat → Int32} (h : CX cy co n PR PL S A I L f) {k : Nat} (hk : k < n) (h8 : A 8 k = 0) : gM l s0 D yX5_digest cX5_digest 2 (some .int) 8 2 12 [.ref co, .int (nI k)] L f (fun v L1 f1 => v = some (.int (dgF (S k) 12)) ∧ CX cy co n PR PL S (A) I L1 f1) := (q_digest hE hl h hk h8).ret
theorem t_digest {l : Launch} {s0 : State} {D : va_G} {cy : Nat → ClassId} (hE : gE s0 D cy) (hl : l.stackTraces = false) {L : List Nat} {f : gF} (hN : gN9 s0) {co n : Nat} {PR PL : Nat → Nat} {S A : Nat → Nat → Int32} {I : Nat → Int32} (h : CX cy co n PR PL S A I L f) {k : Nat} (hk : k < n) (h8 : A 8 k = 0) (p1 : Int32) : gH9 l s0 D yL_tells cL_tells 5 (some .int) [(0, 99, 100, 28)] 9 2 12 [.ref co, .int (nI 7), .int (nI k), .int (p1)] L f (fun v L1 f1 => v = some (.int (dgF (S k) 12)) ∧ CX cy co n PR PL S (A) I L1 f1) := by
  obtain ⟨fs, hco⟩ := h.co
  exact gH9.mono (kt_tells_7 hE hl hN hco (nI k) p1 (q_digest hE hl h hk h8) (fun v L1 f1 hq => ⟨_, hq.1⟩) (fun E z => z.elim)) (fun v L1 f1 hq => hq.elim id (fun z => by
    obtain ⟨-, -, E, hE, -⟩ := z
    exact hE.elim))
theorem n_digest {l : Launch} {s0 : State} {D : va_G} {cy : Nat → ClassId} (hE : gE s0 D cy) (hl : l.stackTraces = false) {L : List Nat} {f : gF} {co n : Nat} {PR PL : Nat → Nat} {S A : Nat → Nat → Int32} {I : Nat → Int32} (h : CX cy co n PR PL S A I L f) {x : Int32} (hx : ¬ live A n x) : gX l s0 D yX5_digest cX5_digest 2 (some .int) 8 2 12 [.ref co, .int (x)] L f (fun _ _ _ => False) (fun E => E = xI) := by
  obtain ⟨bk, X, Is, rfl, hR, hB, hC⟩ := id h
  
  exact gX.mono ((k5_digest hE hl hR hB hC (x)).no (by decide) (b := 0) (A1 := A) (I1 := va_up I 27 (nI 1)) ⟨1, Or.inl ⟨rfl, hx⟩, rfl, fun z => absurd z (by decide), fun _ => rfl⟩ (w := 1) (by decide) (by decide) (va_up_self _ _ _)) (fun _ _ _ z => z) (fun E z => z)
theorem tn_digest {l : Launch} {s0 : State} {D : va_G} {cy : Nat → ClassId} (hE : gE s0 D cy) (hl : l.stackTraces = false) {L : List Nat} {f : gF} (hN : gN9 s0) {co n : Nat} {PR PL : Nat → Nat} {S A : Nat → Nat → Int32} {I : Nat → Int32} (h : CX cy co n PR PL S A I L f) {x : Int32} (hx : ¬ live A n x) (p1 : Int32) : gH9 l s0 D yL_tells cL_tells 5 (some .int) [(0, 99, 100, 28)] 9 2 12 [.ref co, .int (nI 7), .int (x), .int (p1)] L f (fun v L1 f1 => v = some (.int (-30)) ∧ L = L1 ∧ f1 = f) := by
  obtain ⟨fs, hco⟩ := h.co
  exact gH9.mono (kt_tells_7 hE hl hN hco (x) p1 (n_digest hE hl h hx) (fun v L1 f1 hq => hq.elim) (fun E z => z)) (fun v L1 f1 hq => hq.elim (fun z => z.elim) (fun z => by
    obtain ⟨e1, e2, E, hE, e3⟩ := z
    rw [hE, xcd_I] at e3
    exact ⟨e3, e1, e2⟩))
theorem q_heldAt {l : Launch} {s0 : State} {D : va_G} {cy : Nat → ClassId} (hE : gE s0 D cy) (hl : l.stackTraces = false) {L : List Nat} {f : gF} {co n : Nat} {PR PL : Nat → Nat} {S A : Nat → Nat → Int32} {I : Nat → Int32} (h : CX cy co n PR PL S A I L f) {k : Nat} (hk : k < n) (h8 : A 8 k = 0) {q : Nat} (hq9 : q < 12) : gX l s0 D yX5_heldAt cX5_heldAt 4 (some .int) 8 3 18 [.ref co, .int (nI k), .int (nI q)] L f (fun v L1 f1 => v = some (.int (A 10 (12 * k + q))) ∧ CX cy co n PR PL S (A) I L1 f1) (fun _ => False) := by
  obtain ⟨bk, X, Is, rfl, hR, hB, hC⟩ := id h
  
  refine gX.mono ((k5_heldAt hE hl hR hB hC (nI k) (nI q)).ok (by decide) (b := A 10 (12 * k + q)) (A1 := (A)) (I1 := va_up I 27 (nI 0)) ⟨0, Or.inr ⟨rfl, ⟨k, hk, rfl, h8⟩, q, hq9, rfl⟩, rfl, fun _ => ⟨rfl, k, q, hk, hq9, rfl, rfl, h8, rfl⟩, fun z => absurd rfl z⟩ (va_up_self _ _ _)) (fun v L1 f1 hq => ⟨hq.1.trans ?_, h.same hq.2 (fun _ _ _ => rfl) (fun k hk => (i27 k hk).symm)⟩) (fun _ z => z)
  rfl
theorem d_heldAt {l : Launch} {s0 : State} {D : va_G} {cy : Nat → ClassId} (hE : gE s0 D cy) (hl : l.stackTraces = false) {L : List Nat} {f : gF} {co n : Nat} {PR PL : Nat → Nat} {S A : Nat → Nat → Int32} {I : Nat → Int32} (h : CX cy co n PR PL S A I L f) {k : Nat} (hk : k < n) (h8 : A 8 k = 0) {q : Nat} (hq9 : q < 12) : gM l s0 D yX5_heldAt cX5_heldAt 4 (some .int) 8 3 18 [.ref co, .int (nI k), .int (nI q)] L f (fun v L1 f1 => v = some (.int (A 10 (12 * k + q))) ∧ CX cy co n PR PL S (A) I L1 f1) := (q_heldAt hE hl h hk h8 hq9).ret
theorem t_heldAt {l : Launch} {s0 : State} {D : va_G} {cy : Nat → ClassId} (hE : gE s0 D cy) (hl : l.stackTraces = false) {L : List Nat} {f : gF} (hN : gN9 s0) {co n : Nat} {PR PL : Nat → Nat} {S A : Nat → Nat → Int32} {I : Nat → Int32} (h : CX cy co n PR PL S A I L f) {k : Nat} (hk : k < n) (h8 : A 8 k = 0) {q : Nat} (hq9 : q < 12) : gH9 l s0 D yL_tells cL_tells 5 (some .int) [(0, 99, 100, 28)] 9 3 18 [.ref co, .int (nI 2), .int (nI k), .int (nI q)] L f (fun v L1 f1 => v = some (.int (A 10 (12 * k + q))) ∧ CX cy co n PR PL S (A) I L1 f1) := by
  obtain ⟨fs, hco⟩ := h.co
  exact gH9.mono (kt_tells_2 hE hl hN hco (nI k) (nI q) (q_heldAt hE hl h hk h8 hq9) (fun v L1 f1 hq => ⟨_, hq.1⟩) (fun E z => z.elim)) (fun v L1 f1 hq => hq.elim id (fun z => by
    obtain ⟨-, -, E, hE, -⟩ := z
    exact hE.elim))
theorem n_heldAt {l : Launch} {s0 : State} {D : va_G} {cy : Nat → ClassId} (hE : gE s0 D cy) (hl : l.stackTraces = false) {L : List Nat} {f : gF} {co n : Nat} {PR PL : Nat → Nat} {S A : Nat → Nat → Int32} {I : Nat → Int32} (h : CX cy co n PR PL S A I L f) {x y : Int32} (hx : ¬ gin y 12) : gX l s0 D yX5_heldAt cX5_heldAt 4 (some .int) 8 3 18 [.ref co, .int (x), .int (y)] L f (fun _ _ _ => False) (fun E => E = xI) := by
  obtain ⟨bk, X, Is, rfl, hR, hB, hC⟩ := id h
  
  exact gX.mono ((k5_heldAt hE hl hR hB hC (x) (y)).no (by decide) (b := 0) (A1 := A) (I1 := va_up I 27 (nI 1)) ⟨1, Or.inl ⟨rfl, fun z => hx z.2⟩, rfl, fun z => absurd z (by decide), fun _ => rfl⟩ (w := 1) (by decide) (by decide) (va_up_self _ _ _)) (fun _ _ _ z => z) (fun E z => z)
theorem tn_heldAt {l : Launch} {s0 : State} {D : va_G} {cy : Nat → ClassId} (hE : gE s0 D cy) (hl : l.stackTraces = false) {L : List Nat} {f : gF} (hN : gN9 s0) {co n : Nat} {PR PL : Nat → Nat} {S A : Nat → Nat → Int32} {I : Nat → Int32} (h : CX cy co n PR PL S A I L f) {x y : Int32} (hx : ¬ gin y 12) : gH9 l s0 D yL_tells cL_tells 5 (some .int) [(0, 99, 100, 28)] 9 3 18 [.ref co, .int (nI 2), .int (x), .int (y)] L f (fun v L1 f1 => v = some (.int (-30)) ∧ L = L1 ∧ f1 = f) := by
  obtain ⟨fs, hco⟩ := h.co
  exact gH9.mono (kt_tells_2 hE hl hN hco (x) (y) (n_heldAt hE hl h hx) (fun v L1 f1 hq => hq.elim) (fun E z => z)) (fun v L1 f1 hq => hq.elim (fun z => z.elim) (fun z => by
    obtain ⟨e1, e2, E, hE, e3⟩ := z
    rw [hE, xcd_I] at e3
    exact ⟨e3, e1, e2⟩))
theorem q_shownAt {l : Launch} {s0 : State} {D : va_G} {cy : Nat → ClassId} (hE : gE s0 D cy) (hl : l.stackTraces = false) {L : List Nat} {f : gF} {co n : Nat} {PR PL : Nat → Nat} {S A : Nat → Nat → Int32} {I : Nat → Int32} (h : CX cy co n PR PL S A I L f) {k : Nat} (hk : k < n) (h8 : A 8 k = 0) {q : Nat} (hq9 : q < 12) : gX l s0 D yX5_shownAt cX5_shownAt 4 (some .int) 8 3 18 [.ref co, .int (nI k), .int (nI q)] L f (fun v L1 f1 => v = some (.int (S k q)) ∧ CX cy co n PR PL S (A) I L1 f1) (fun _ => False) := by
  obtain ⟨bk, X, Is, rfl, hR, hB, hC⟩ := id h
  
  refine gX.mono ((k5_shownAt hE hl hR hB hC (nI k) (nI q)).ok (by decide) (b := S k q) (A1 := (A)) (I1 := va_up I 27 (nI 0)) ⟨0, Or.inr ⟨rfl, ⟨k, hk, rfl, h8⟩, q, hq9, rfl⟩, rfl, fun _ => ⟨rfl, k, q, hk, hq9, rfl, rfl, h8, rfl⟩, fun z => absurd rfl z⟩ (va_up_self _ _ _)) (fun v L1 f1 hq => ⟨hq.1.trans ?_, h.same hq.2 (fun _ _ _ => rfl) (fun k hk => (i27 k hk).symm)⟩) (fun _ z => z)
  rfl
theorem d_shownAt {l : Launch} {s0 : State} {D : va_G} {cy : Nat → ClassId} (hE : gE s0 D cy) (hl : l.stackTraces = false) {L : List Nat} {f : gF} {co n : Nat} {PR PL : Nat → Nat} {S A : Nat → Nat → Int32} {I : Nat → Int32} (h : CX cy co n PR PL S A I L f) {k : Nat} (hk : k < n) (h8 : A 8 k = 0) {q : Nat} (hq9 : q < 12) : gM l s0 D yX5_shownAt cX5_shownAt 4 (some .int) 8 3 18 [.ref co, .int (nI k), .int (nI q)] L f (fun v L1 f1 => v = some (.int (S k q)) ∧ CX cy co n PR PL S (A) I L1 f1) := (q_shownAt hE hl h hk h8 hq9).ret
theorem t_shownAt {l : Launch} {s0 : State} {D : va_G} {cy : Nat → ClassId} (hE : gE s0 D cy) (hl : l.stackTraces = false) {L : List Nat} {f : gF} (hN : gN9 s0) {co n : Nat} {PR PL : Nat → Nat} {S A : Nat → Nat → Int32} {I : Nat → Int32} (h : CX cy co n PR PL S A I L f) {k : Nat} (hk : k < n) (h8 : A 8 k = 0) {q : Nat} (hq9 : q < 12) : gH9 l s0 D yL_tells cL_tells 5 (some .int) [(0, 99, 100, 28)] 9 3 18 [.ref co, .int (nI 3), .int (nI k), .int (nI q)] L f (fun v L1 f1 => v = some (.int (S k q)) ∧ CX cy co n PR PL S (A) I L1 f1) := by
  obtain ⟨fs, hco⟩ := h.co
  exact gH9.mono (kt_tells_3 hE hl hN hco (nI k) (nI q) (q_shownAt hE hl h hk h8 hq9) (fun v L1 f1 hq => ⟨_, hq.1⟩) (fun E z => z.elim)) (fun v L1 f1 hq => hq.elim id (fun z => by
    obtain ⟨-, -, E, hE, -⟩ := z
    exact hE.elim))
theorem n_shownAt {l : Launch} {s0 : State} {D : va_G} {cy : Nat → ClassId} (hE : gE s0 D cy) (hl : l.stackTraces = false) {L : List Nat} {f : gF} {co n : Nat} {PR PL : Nat → Nat} {S A : Nat → Nat → Int32} {I : Nat → Int32} (h : CX cy co n PR PL S A I L f) {x y : Int32} (hx : ¬ gin y 12) : gX l s0 D yX5_shownAt cX5_shownAt 4 (some .int) 8 3 18 [.ref co, .int (x), .int (y)] L f (fun _ _ _ => False) (fun E => E = xI) := by
  obtain ⟨bk, X, Is, rfl, hR, hB, hC⟩ := id h
  
  exact gX.mono ((k5_shownAt hE hl hR hB hC (x) (y)).no (by decide) (b := 0) (A1 := A) (I1 := va_up I 27 (nI 1)) ⟨1, Or.inl ⟨rfl, fun z => hx z.2⟩, rfl, fun z => absurd z (by decide), fun _ => rfl⟩ (w := 1) (by decide) (by decide) (va_up_self _ _ _)) (fun _ _ _ z => z) (fun E z => z)
theorem tn_shownAt {l : Launch} {s0 : State} {D : va_G} {cy : Nat → ClassId} (hE : gE s0 D cy) (hl : l.stackTraces = false) {L : List Nat} {f : gF} (hN : gN9 s0) {co n : Nat} {PR PL : Nat → Nat} {S A : Nat → Nat → Int32} {I : Nat → Int32} (h : CX cy co n PR PL S A I L f) {x y : Int32} (hx : ¬ gin y 12) : gH9 l s0 D yL_tells cL_tells 5 (some .int) [(0, 99, 100, 28)] 9 3 18 [.ref co, .int (nI 3), .int (x), .int (y)] L f (fun v L1 f1 => v = some (.int (-30)) ∧ L = L1 ∧ f1 = f) := by
  obtain ⟨fs, hco⟩ := h.co
  exact gH9.mono (kt_tells_3 hE hl hN hco (x) (y) (n_shownAt hE hl h hx) (fun v L1 f1 hq => hq.elim) (fun E z => z)) (fun v L1 f1 hq => hq.elim (fun z => z.elim) (fun z => by
    obtain ⟨e1, e2, E, hE, e3⟩ := z
    rw [hE, xcd_I] at e3
    exact ⟨e3, e1, e2⟩))
theorem q_variable {l : Launch} {s0 : State} {D : va_G} {cy : Nat → ClassId} (hE : gE s0 D cy) (hl : l.stackTraces = false) {L : List Nat} {f : gF} {co n : Nat} {PR PL : Nat → Nat} {S A : Nat → Nat → Int32} {I : Nat → Int32} (h : CX cy co n PR PL S A I L f) {k : Nat} (hk : k < n) (h8 : A 8 k = 0) {q : Nat} (hq9 : q < 4) : gX l s0 D yX5_variable cX5_variable 4 (some .int) 8 3 18 [.ref co, .int (nI k), .int (nI q)] L f (fun v L1 f1 => v = some (.int (A 11 (4 * k + q))) ∧ CX cy co n PR PL S (A) I L1 f1) (fun _ => False) := by
  obtain ⟨bk, X, Is, rfl, hR, hB, hC⟩ := id h
  
  refine gX.mono ((k5_variable hE hl hR hB hC (nI k) (nI q)).ok (by decide) (b := A 11 (4 * k + q)) (A1 := (A)) (I1 := va_up I 27 (nI 0)) ⟨0, Or.inr ⟨rfl, ⟨k, hk, rfl, h8⟩, q, hq9, rfl⟩, rfl, fun _ => ⟨rfl, k, q, hk, hq9, rfl, rfl, h8, rfl⟩, fun z => absurd rfl z⟩ (va_up_self _ _ _)) (fun v L1 f1 hq => ⟨hq.1.trans ?_, h.same hq.2 (fun _ _ _ => rfl) (fun k hk => (i27 k hk).symm)⟩) (fun _ z => z)
  rfl
theorem d_variable {l : Launch} {s0 : State} {D : va_G} {cy : Nat → ClassId} (hE : gE s0 D cy) (hl : l.stackTraces = false) {L : List Nat} {f : gF} {co n : Nat} {PR PL : Nat → Nat} {S A : Nat → Nat → Int32} {I : Nat → Int32} (h : CX cy co n PR PL S A I L f) {k : Nat} (hk : k < n) (h8 : A 8 k = 0) {q : Nat} (hq9 : q < 4) : gM l s0 D yX5_variable cX5_variable 4 (some .int) 8 3 18 [.ref co, .int (nI k), .int (nI q)] L f (fun v L1 f1 => v = some (.int (A 11 (4 * k + q))) ∧ CX cy co n PR PL S (A) I L1 f1) := (q_variable hE hl h hk h8 hq9).ret
theorem t_variable {l : Launch} {s0 : State} {D : va_G} {cy : Nat → ClassId} (hE : gE s0 D cy) (hl : l.stackTraces = false) {L : List Nat} {f : gF} (hN : gN9 s0) {co n : Nat} {PR PL : Nat → Nat} {S A : Nat → Nat → Int32} {I : Nat → Int32} (h : CX cy co n PR PL S A I L f) {k : Nat} (hk : k < n) (h8 : A 8 k = 0) {q : Nat} (hq9 : q < 4) : gH9 l s0 D yL_tells cL_tells 5 (some .int) [(0, 99, 100, 28)] 9 3 18 [.ref co, .int (nI 4), .int (nI k), .int (nI q)] L f (fun v L1 f1 => v = some (.int (A 11 (4 * k + q))) ∧ CX cy co n PR PL S (A) I L1 f1) := by
  obtain ⟨fs, hco⟩ := h.co
  exact gH9.mono (kt_tells_4 hE hl hN hco (nI k) (nI q) (q_variable hE hl h hk h8 hq9) (fun v L1 f1 hq => ⟨_, hq.1⟩) (fun E z => z.elim)) (fun v L1 f1 hq => hq.elim id (fun z => by
    obtain ⟨-, -, E, hE, -⟩ := z
    exact hE.elim))
theorem n_variable {l : Launch} {s0 : State} {D : va_G} {cy : Nat → ClassId} (hE : gE s0 D cy) (hl : l.stackTraces = false) {L : List Nat} {f : gF} {co n : Nat} {PR PL : Nat → Nat} {S A : Nat → Nat → Int32} {I : Nat → Int32} (h : CX cy co n PR PL S A I L f) {x y : Int32} (hx : ¬ gin y 4) : gX l s0 D yX5_variable cX5_variable 4 (some .int) 8 3 18 [.ref co, .int (x), .int (y)] L f (fun _ _ _ => False) (fun E => E = xI) := by
  obtain ⟨bk, X, Is, rfl, hR, hB, hC⟩ := id h
  
  exact gX.mono ((k5_variable hE hl hR hB hC (x) (y)).no (by decide) (b := 0) (A1 := A) (I1 := va_up I 27 (nI 1)) ⟨1, Or.inl ⟨rfl, fun z => hx z.2⟩, rfl, fun z => absurd z (by decide), fun _ => rfl⟩ (w := 1) (by decide) (by decide) (va_up_self _ _ _)) (fun _ _ _ z => z) (fun E z => z)
theorem tn_variable {l : Launch} {s0 : State} {D : va_G} {cy : Nat → ClassId} (hE : gE s0 D cy) (hl : l.stackTraces = false) {L : List Nat} {f : gF} (hN : gN9 s0) {co n : Nat} {PR PL : Nat → Nat} {S A : Nat → Nat → Int32} {I : Nat → Int32} (h : CX cy co n PR PL S A I L f) {x y : Int32} (hx : ¬ gin y 4) : gH9 l s0 D yL_tells cL_tells 5 (some .int) [(0, 99, 100, 28)] 9 3 18 [.ref co, .int (nI 4), .int (x), .int (y)] L f (fun v L1 f1 => v = some (.int (-30)) ∧ L = L1 ∧ f1 = f) := by
  obtain ⟨fs, hco⟩ := h.co
  exact gH9.mono (kt_tells_4 hE hl hN hco (x) (y) (n_variable hE hl h hx) (fun v L1 f1 hq => hq.elim) (fun E z => z)) (fun v L1 f1 hq => hq.elim (fun z => z.elim) (fun z => by
    obtain ⟨e1, e2, E, hE, e3⟩ := z
    rw [hE, xcd_I] at e3
    exact ⟨e3, e1, e2⟩))
theorem q_tagged {l : Launch} {s0 : State} {D : va_G} {cy : Nat → ClassId} (hE : gE s0 D cy) (hl : l.stackTraces = false) {L : List Nat} {f : gF} {co n : Nat} {PR PL : Nat → Nat} {S A : Nat → Nat → Int32} {I : Nat → Int32} (h : CX cy co n PR PL S A I L f) {j : Nat} (hj : j < 5) : gX l s0 D yX5_tagged cX5_tagged 2 (some .int) 8 2 12 [.ref co, .int (nI j)] L f (fun v L1 f1 => v = some (.int (A 16 j)) ∧ CX cy co n PR PL S (A) I L1 f1) (fun _ => False) := by
  obtain ⟨bk, X, Is, rfl, hR, hB, hC⟩ := id h
  
  refine gX.mono ((k5_tagged hE hl hR hB hC (nI j)).ok (by decide) (b := A 16 j) (A1 := (A)) (I1 := va_up I 27 (nI 0)) ⟨0, Or.inr ⟨rfl, j, hj, rfl⟩, rfl, fun _ => ⟨rfl, j, hj, rfl, rfl⟩, fun z => absurd rfl z⟩ (va_up_self _ _ _)) (fun v L1 f1 hq => ⟨hq.1.trans ?_, h.same hq.2 (fun _ _ _ => rfl) (fun k hk => (i27 k hk).symm)⟩) (fun _ z => z)
  rfl
theorem d_tagged {l : Launch} {s0 : State} {D : va_G} {cy : Nat → ClassId} (hE : gE s0 D cy) (hl : l.stackTraces = false) {L : List Nat} {f : gF} {co n : Nat} {PR PL : Nat → Nat} {S A : Nat → Nat → Int32} {I : Nat → Int32} (h : CX cy co n PR PL S A I L f) {j : Nat} (hj : j < 5) : gM l s0 D yX5_tagged cX5_tagged 2 (some .int) 8 2 12 [.ref co, .int (nI j)] L f (fun v L1 f1 => v = some (.int (A 16 j)) ∧ CX cy co n PR PL S (A) I L1 f1) := (q_tagged hE hl h hj).ret
theorem t_tagged {l : Launch} {s0 : State} {D : va_G} {cy : Nat → ClassId} (hE : gE s0 D cy) (hl : l.stackTraces = false) {L : List Nat} {f : gF} (hN : gN9 s0) {co n : Nat} {PR PL : Nat → Nat} {S A : Nat → Nat → Int32} {I : Nat → Int32} (h : CX cy co n PR PL S A I L f) {j : Nat} (hj : j < 5) (p1 : Int32) : gH9 l s0 D yL_tags cL_tags 5 (some .int) [(0, 58, 59, 28), (0, 58, 64, 47)] 9 2 12 [.ref co, .int (nI 2), .int (nI j), .int (p1)] L f (fun v L1 f1 => v = some (.int (A 16 j)) ∧ CX cy co n PR PL S (A) I L1 f1) := by
  obtain ⟨fs, hco⟩ := h.co
  exact gH9.mono (kt_tags_2 hE hl hN hco (nI j) p1 (q_tagged hE hl h hj) (fun v L1 f1 hq => ⟨_, hq.1⟩) (fun E z => z.elim)) (fun v L1 f1 hq => hq.elim id (fun z => by
    obtain ⟨-, -, E, hE, -⟩ := z
    exact hE.elim))
theorem n_tagged {l : Launch} {s0 : State} {D : va_G} {cy : Nat → ClassId} (hE : gE s0 D cy) (hl : l.stackTraces = false) {L : List Nat} {f : gF} {co n : Nat} {PR PL : Nat → Nat} {S A : Nat → Nat → Int32} {I : Nat → Int32} (h : CX cy co n PR PL S A I L f) {x : Int32} (hx : ¬ gin x 5) : gX l s0 D yX5_tagged cX5_tagged 2 (some .int) 8 2 12 [.ref co, .int (x)] L f (fun _ _ _ => False) (fun E => E = xI) := by
  obtain ⟨bk, X, Is, rfl, hR, hB, hC⟩ := id h
  
  exact gX.mono ((k5_tagged hE hl hR hB hC (x)).no (by decide) (b := 0) (A1 := A) (I1 := va_up I 27 (nI 1)) ⟨1, Or.inl ⟨rfl, hx⟩, rfl, fun z => absurd z (by decide), fun _ => rfl⟩ (w := 1) (by decide) (by decide) (va_up_self _ _ _)) (fun _ _ _ z => z) (fun E z => z)
theorem tn_tagged {l : Launch} {s0 : State} {D : va_G} {cy : Nat → ClassId} (hE : gE s0 D cy) (hl : l.stackTraces = false) {L : List Nat} {f : gF} (hN : gN9 s0) {co n : Nat} {PR PL : Nat → Nat} {S A : Nat → Nat → Int32} {I : Nat → Int32} (h : CX cy co n PR PL S A I L f) {x : Int32} (hx : ¬ gin x 5) (p1 : Int32) : gH9 l s0 D yL_tags cL_tags 5 (some .int) [(0, 58, 59, 28), (0, 58, 64, 47)] 9 2 12 [.ref co, .int (nI 2), .int (x), .int (p1)] L f (fun v L1 f1 => v = some (.int (-30)) ∧ L = L1 ∧ f1 = f) := by
  obtain ⟨fs, hco⟩ := h.co
  exact gH9.mono (kt_tags_2 hE hl hN hco (x) p1 (n_tagged hE hl h hx) (fun v L1 f1 hq => hq.elim) (fun E z => Or.inl z)) (fun v L1 f1 hq => hq.elim (fun z => z.elim) (fun z => by
    obtain ⟨e1, e2, E, hE, e3⟩ := z
    rw [hE, xcd_I] at e3
    exact ⟨e3, e1, e2⟩))
theorem q_instructions {l : Launch} {s0 : State} {D : va_G} {cy : Nat → ClassId} (hE : gE s0 D cy) (hl : l.stackTraces = false) {L : List Nat} {f : gF} {co n : Nat} {PR PL : Nat → Nat} {S A : Nat → Nat → Int32} {I : Nat → Int32} (h : CX cy co n PR PL S A I L f) {i : Nat} (hi : i < 4) : gX l s0 D yX5_instructions cX5_instructions 2 (some .int) 8 2 12 [.ref co, .int (nI i)] L f (fun v L1 f1 => v = some (.int (A 3 i)) ∧ CX cy co n PR PL S (A) I L1 f1) (fun _ => False) := by
  obtain ⟨bk, X, Is, rfl, hR, hB, hC⟩ := id h
  
  refine gX.mono ((k5_instructions hE hl hR hB hC (nI i)).ok (by decide) (b := A 3 i) (A1 := (A)) (I1 := va_up I 27 (nI 0)) ⟨0, Or.inr ⟨rfl, i, hi, rfl⟩, rfl, fun _ => ⟨rfl, i, hi, rfl, rfl⟩, fun z => absurd rfl z⟩ (va_up_self _ _ _)) (fun v L1 f1 hq => ⟨hq.1.trans ?_, h.same hq.2 (fun _ _ _ => rfl) (fun k hk => (i27 k hk).symm)⟩) (fun _ z => z)
  rfl
theorem d_instructions {l : Launch} {s0 : State} {D : va_G} {cy : Nat → ClassId} (hE : gE s0 D cy) (hl : l.stackTraces = false) {L : List Nat} {f : gF} {co n : Nat} {PR PL : Nat → Nat} {S A : Nat → Nat → Int32} {I : Nat → Int32} (h : CX cy co n PR PL S A I L f) {i : Nat} (hi : i < 4) : gM l s0 D yX5_instructions cX5_instructions 2 (some .int) 8 2 12 [.ref co, .int (nI i)] L f (fun v L1 f1 => v = some (.int (A 3 i)) ∧ CX cy co n PR PL S (A) I L1 f1) := (q_instructions hE hl h hi).ret
theorem t_instructions {l : Launch} {s0 : State} {D : va_G} {cy : Nat → ClassId} (hE : gE s0 D cy) (hl : l.stackTraces = false) {L : List Nat} {f : gF} (hN : gN9 s0) {co n : Nat} {PR PL : Nat → Nat} {S A : Nat → Nat → Int32} {I : Nat → Int32} (h : CX cy co n PR PL S A I L f) {i : Nat} (hi : i < 4) (p1 p2 : Int32) : gH9 l s0 D yL_sets cL_sets 6 (some .int) [(0, 62, 63, 28), (0, 62, 68, 30)] 9 2 12 [.ref co, .int (nI 4), .int (nI i), .int (p1), .int (p2)] L f (fun v L1 f1 => v = some (.int (A 3 i)) ∧ CX cy co n PR PL S (A) I L1 f1) := by
  obtain ⟨fs, hco⟩ := h.co
  exact gH9.mono (kt_sets_4 hE hl hN hco (nI i) p1 p2 (q_instructions hE hl h hi) (fun v L1 f1 hq => ⟨_, hq.1⟩) (fun E z => z.elim)) (fun v L1 f1 hq => hq.elim id (fun z => by
    obtain ⟨-, -, E, hE, -⟩ := z
    exact hE.elim))
theorem q_setFile {l : Launch} {s0 : State} {D : va_G} {cy : Nat → ClassId} (hE : gE s0 D cy) (hl : l.stackTraces = false) {L : List Nat} {f : gF} {co n : Nat} {PR PL : Nat → Nat} {S A : Nat → Nat → Int32} {I : Nat → Int32} (h : CX cy co n PR PL S A I L f) {j : Nat} (hj : j < 8) {y : Int32} (hy : gct y) : gX l s0 D yX5_setFile cX5_setFile 4 (some .int) 8 2 12 [.ref co, .int (nI j), .int (y)] L f (fun v L1 f1 => v = some (.int (A 0 j)) ∧ CX cy co n PR PL S (mU A 0 j y) I L1 f1) (fun _ => False) := by
  obtain ⟨bk, X, Is, rfl, hR, hB, hC⟩ := id h
  
  refine gX.mono ((k5_setFile hE hl hR hB hC (nI j) (y)).ok (by decide) (b := A 0 j) (A1 := (mU A 0 j y)) (I1 := va_up I 27 (nI 0)) ⟨0, Or.inr (Or.inr ⟨rfl, ⟨j, hj, rfl⟩, hy⟩), rfl, fun _ => ⟨j, hj, rfl, rfl, rfl⟩, fun z => absurd rfl z⟩ (va_up_self _ _ _)) (fun v L1 f1 hq => ⟨hq.1.trans ?_, (h.wr hq.2 (va_up_ne _ _ (by decide)) (fun k j h1 h2 => by exact mU_k (by omega))).cg (fun _ _ _ => rfl) (fun k hk => (i27 k hk).symm)⟩) (fun _ z => z)
  rfl
theorem d_setFile {l : Launch} {s0 : State} {D : va_G} {cy : Nat → ClassId} (hE : gE s0 D cy) (hl : l.stackTraces = false) {L : List Nat} {f : gF} {co n : Nat} {PR PL : Nat → Nat} {S A : Nat → Nat → Int32} {I : Nat → Int32} (h : CX cy co n PR PL S A I L f) {j : Nat} (hj : j < 8) {y : Int32} (hy : gct y) : gM l s0 D yX5_setFile cX5_setFile 4 (some .int) 8 2 12 [.ref co, .int (nI j), .int (y)] L f (fun v L1 f1 => v = some (.int (A 0 j)) ∧ CX cy co n PR PL S (mU A 0 j y) I L1 f1) := (q_setFile hE hl h hj hy).ret
theorem t_setFile {l : Launch} {s0 : State} {D : va_G} {cy : Nat → ClassId} (hE : gE s0 D cy) (hl : l.stackTraces = false) {L : List Nat} {f : gF} (hN : gN9 s0) {co n : Nat} {PR PL : Nat → Nat} {S A : Nat → Nat → Int32} {I : Nat → Int32} (h : CX cy co n PR PL S A I L f) {j : Nat} (hj : j < 8) {y : Int32} (hy : gct y) (p1 : Int32) : gH9 l s0 D yL_sets cL_sets 6 (some .int) [(0, 62, 63, 28), (0, 62, 68, 30)] 9 2 12 [.ref co, .int (nI 0), .int (nI j), .int (y), .int (p1)] L f (fun v L1 f1 => v = some (.int (A 0 j)) ∧ CX cy co n PR PL S (mU A 0 j y) I L1 f1) := by
  obtain ⟨fs, hco⟩ := h.co
  exact gH9.mono (kt_sets_0 hE hl hN hco (nI j) (y) p1 (q_setFile hE hl h hj hy) (fun v L1 f1 hq => ⟨_, hq.1⟩) (fun E z => z.elim)) (fun v L1 f1 hq => hq.elim id (fun z => by
    obtain ⟨-, -, E, hE, -⟩ := z
    exact hE.elim))
theorem n_setFile_I {l : Launch} {s0 : State} {D : va_G} {cy : Nat → ClassId} (hE : gE s0 D cy) (hl : l.stackTraces = false) {L : List Nat} {f : gF} {co n : Nat} {PR PL : Nat → Nat} {S A : Nat → Nat → Int32} {I : Nat → Int32} (h : CX cy co n PR PL S A I L f) {x y : Int32} (hx : ¬ gin x 8) : gX l s0 D yX5_setFile cX5_setFile 4 (some .int) 8 2 12 [.ref co, .int (x), .int (y)] L f (fun _ _ _ => False) (fun E => E = xI) := by
  obtain ⟨bk, X, Is, rfl, hR, hB, hC⟩ := id h
  
  exact gX.mono ((k5_setFile hE hl hR hB hC (x) (y)).no (by decide) (b := 0) (A1 := A) (I1 := va_up I 27 (nI 1)) ⟨1, Or.inl ⟨rfl, hx⟩, rfl, fun z => absurd z (by decide), fun _ => rfl⟩ (w := 1) (by decide) (by decide) (va_up_self _ _ _)) (fun _ _ _ z => z) (fun E z => z)
theorem tn_setFile_I {l : Launch} {s0 : State} {D : va_G} {cy : Nat → ClassId} (hE : gE s0 D cy) (hl : l.stackTraces = false) {L : List Nat} {f : gF} (hN : gN9 s0) {co n : Nat} {PR PL : Nat → Nat} {S A : Nat → Nat → Int32} {I : Nat → Int32} (h : CX cy co n PR PL S A I L f) {x y : Int32} (hx : ¬ gin x 8) (p1 : Int32) : gH9 l s0 D yL_sets cL_sets 6 (some .int) [(0, 62, 63, 28), (0, 62, 68, 30)] 9 2 12 [.ref co, .int (nI 0), .int (x), .int (y), .int (p1)] L f (fun v L1 f1 => v = some (.int (-30)) ∧ L = L1 ∧ f1 = f) := by
  obtain ⟨fs, hco⟩ := h.co
  exact gH9.mono (kt_sets_0 hE hl hN hco (x) (y) p1 (n_setFile_I hE hl h hx) (fun v L1 f1 hq => hq.elim) (fun E z => Or.inl z)) (fun v L1 f1 hq => hq.elim (fun z => z.elim) (fun z => by
    obtain ⟨e1, e2, E, hE, e3⟩ := z
    rw [hE, xcd_I] at e3
    exact ⟨e3, e1, e2⟩))
theorem n_setFile_A {l : Launch} {s0 : State} {D : va_G} {cy : Nat → ClassId} (hE : gE s0 D cy) (hl : l.stackTraces = false) {L : List Nat} {f : gF} {co n : Nat} {PR PL : Nat → Nat} {S A : Nat → Nat → Int32} {I : Nat → Int32} (h : CX cy co n PR PL S A I L f) {x y : Int32} (hx : gin x 8) (hy : ¬ gct y) : gX l s0 D yX5_setFile cX5_setFile 4 (some .int) 8 2 12 [.ref co, .int (x), .int (y)] L f (fun _ _ _ => False) (fun E => E = xA) := by
  obtain ⟨bk, X, Is, rfl, hR, hB, hC⟩ := id h
  
  exact gX.mono ((k5_setFile hE hl hR hB hC (x) (y)).no (by decide) (b := 0) (A1 := A) (I1 := va_up I 27 (nI 2)) ⟨2, Or.inr (Or.inl ⟨rfl, hx, hy⟩), rfl, fun z => absurd z (by decide), fun _ => rfl⟩ (w := 2) (by decide) (by decide) (va_up_self _ _ _)) (fun _ _ _ z => z) (fun E z => z)
theorem tn_setFile_A {l : Launch} {s0 : State} {D : va_G} {cy : Nat → ClassId} (hE : gE s0 D cy) (hl : l.stackTraces = false) {L : List Nat} {f : gF} (hN : gN9 s0) {co n : Nat} {PR PL : Nat → Nat} {S A : Nat → Nat → Int32} {I : Nat → Int32} (h : CX cy co n PR PL S A I L f) {x y : Int32} (hx : gin x 8) (hy : ¬ gct y) (p1 : Int32) : gH9 l s0 D yL_sets cL_sets 6 (some .int) [(0, 62, 63, 28), (0, 62, 68, 30)] 9 2 12 [.ref co, .int (nI 0), .int (x), .int (y), .int (p1)] L f (fun v L1 f1 => v = some (.int (-20)) ∧ L = L1 ∧ f1 = f) := by
  obtain ⟨fs, hco⟩ := h.co
  exact gH9.mono (kt_sets_0 hE hl hN hco (x) (y) p1 (n_setFile_A hE hl h hx hy) (fun v L1 f1 hq => hq.elim) (fun E z => Or.inr z)) (fun v L1 f1 hq => hq.elim (fun z => z.elim) (fun z => by
    obtain ⟨e1, e2, E, hE, e3⟩ := z
    rw [hE, xcd_A] at e3
    exact ⟨e3, e1, e2⟩))
theorem q_setBase {l : Launch} {s0 : State} {D : va_G} {cy : Nat → ClassId} (hE : gE s0 D cy) (hl : l.stackTraces = false) {L : List Nat} {f : gF} {co n : Nat} {PR PL : Nat → Nat} {S A : Nat → Nat → Int32} {I : Nat → Int32} (h : CX cy co n PR PL S A I L f) {i j : Nat} (hi : i < 3) (hj : j < 12) {z : Int32} (hz : gct z) : gX l s0 D yX5_setBase cX5_setBase 5 (some .int) 8 3 18 [.ref co, .int (nI i), .int (nI j), .int (z)] L f (fun v L1 f1 => v = some (.int (A 1 (12 * i + j))) ∧ CX cy co n PR PL S (mU A 1 (12 * i + j) z) I L1 f1) (fun _ => False) := by
  obtain ⟨bk, X, Is, rfl, hR, hB, hC⟩ := id h
  
  refine gX.mono ((k5_setBase hE hl hR hB hC (nI i) (nI j) (z)).ok (by decide) (b := A 1 (12 * i + j)) (A1 := (mU A 1 (12 * i + j) z)) (I1 := va_up I 27 (nI 0)) ⟨0, Or.inr (Or.inr ⟨rfl, ⟨⟨i, hi, rfl⟩, j, hj, rfl⟩, hz⟩), rfl, fun _ => ⟨i, j, hi, hj, rfl, rfl, rfl, rfl⟩, fun z => absurd rfl z⟩ (va_up_self _ _ _)) (fun v L1 f1 hq => ⟨hq.1.trans ?_, (h.wr hq.2 (va_up_ne _ _ (by decide)) (fun k j h1 h2 => by exact mU_k (by omega))).cg (fun _ _ _ => rfl) (fun k hk => (i27 k hk).symm)⟩) (fun _ z => z)
  rfl
theorem d_setBase {l : Launch} {s0 : State} {D : va_G} {cy : Nat → ClassId} (hE : gE s0 D cy) (hl : l.stackTraces = false) {L : List Nat} {f : gF} {co n : Nat} {PR PL : Nat → Nat} {S A : Nat → Nat → Int32} {I : Nat → Int32} (h : CX cy co n PR PL S A I L f) {i j : Nat} (hi : i < 3) (hj : j < 12) {z : Int32} (hz : gct z) : gM l s0 D yX5_setBase cX5_setBase 5 (some .int) 8 3 18 [.ref co, .int (nI i), .int (nI j), .int (z)] L f (fun v L1 f1 => v = some (.int (A 1 (12 * i + j))) ∧ CX cy co n PR PL S (mU A 1 (12 * i + j) z) I L1 f1) := (q_setBase hE hl h hi hj hz).ret
theorem t_setBase {l : Launch} {s0 : State} {D : va_G} {cy : Nat → ClassId} (hE : gE s0 D cy) (hl : l.stackTraces = false) {L : List Nat} {f : gF} (hN : gN9 s0) {co n : Nat} {PR PL : Nat → Nat} {S A : Nat → Nat → Int32} {I : Nat → Int32} (h : CX cy co n PR PL S A I L f) {i j : Nat} (hi : i < 3) (hj : j < 12) {z : Int32} (hz : gct z) : gH9 l s0 D yL_sets cL_sets 6 (some .int) [(0, 62, 63, 28), (0, 62, 68, 30)] 9 3 18 [.ref co, .int (nI 1), .int (nI i), .int (nI j), .int (z)] L f (fun v L1 f1 => v = some (.int (A 1 (12 * i + j))) ∧ CX cy co n PR PL S (mU A 1 (12 * i + j) z) I L1 f1) := by
  obtain ⟨fs, hco⟩ := h.co
  exact gH9.mono (kt_sets_1 hE hl hN hco (nI i) (nI j) (z) (q_setBase hE hl h hi hj hz) (fun v L1 f1 hq => ⟨_, hq.1⟩) (fun E z => z.elim)) (fun v L1 f1 hq => hq.elim id (fun z => by
    obtain ⟨-, -, E, hE, -⟩ := z
    exact hE.elim))
theorem n_setBase_I {l : Launch} {s0 : State} {D : va_G} {cy : Nat → ClassId} (hE : gE s0 D cy) (hl : l.stackTraces = false) {L : List Nat} {f : gF} {co n : Nat} {PR PL : Nat → Nat} {S A : Nat → Nat → Int32} {I : Nat → Int32} (h : CX cy co n PR PL S A I L f) {x y z : Int32} (hx : ¬ (gin x 3 ∧ gin y 12)) : gX l s0 D yX5_setBase cX5_setBase 5 (some .int) 8 3 18 [.ref co, .int (x), .int (y), .int (z)] L f (fun _ _ _ => False) (fun E => E = xI) := by
  obtain ⟨bk, X, Is, rfl, hR, hB, hC⟩ := id h
  
  exact gX.mono ((k5_setBase hE hl hR hB hC (x) (y) (z)).no (by decide) (b := 0) (A1 := A) (I1 := va_up I 27 (nI 1)) ⟨1, Or.inl ⟨rfl, hx⟩, rfl, fun z => absurd z (by decide), fun _ => rfl⟩ (w := 1) (by decide) (by decide) (va_up_self _ _ _)) (fun _ _ _ z => z) (fun E z => z)
theorem tn_setBase_I {l : Launch} {s0 : State} {D : va_G} {cy : Nat → ClassId} (hE : gE s0 D cy) (hl : l.stackTraces = false) {L : List Nat} {f : gF} (hN : gN9 s0) {co n : Nat} {PR PL : Nat → Nat} {S A : Nat → Nat → Int32} {I : Nat → Int32} (h : CX cy co n PR PL S A I L f) {x y z : Int32} (hx : ¬ (gin x 3 ∧ gin y 12)) : gH9 l s0 D yL_sets cL_sets 6 (some .int) [(0, 62, 63, 28), (0, 62, 68, 30)] 9 3 18 [.ref co, .int (nI 1), .int (x), .int (y), .int (z)] L f (fun v L1 f1 => v = some (.int (-30)) ∧ L = L1 ∧ f1 = f) := by
  obtain ⟨fs, hco⟩ := h.co
  exact gH9.mono (kt_sets_1 hE hl hN hco (x) (y) (z) (n_setBase_I hE hl h hx) (fun v L1 f1 hq => hq.elim) (fun E z => Or.inl z)) (fun v L1 f1 hq => hq.elim (fun z => z.elim) (fun z => by
    obtain ⟨e1, e2, E, hE, e3⟩ := z
    rw [hE, xcd_I] at e3
    exact ⟨e3, e1, e2⟩))
theorem n_setBase_A {l : Launch} {s0 : State} {D : va_G} {cy : Nat → ClassId} (hE : gE s0 D cy) (hl : l.stackTraces = false) {L : List Nat} {f : gF} {co n : Nat} {PR PL : Nat → Nat} {S A : Nat → Nat → Int32} {I : Nat → Int32} (h : CX cy co n PR PL S A I L f) {x y z : Int32} (hx : gin x 3 ∧ gin y 12) (hy : ¬ gct z) : gX l s0 D yX5_setBase cX5_setBase 5 (some .int) 8 3 18 [.ref co, .int (x), .int (y), .int (z)] L f (fun _ _ _ => False) (fun E => E = xA) := by
  obtain ⟨bk, X, Is, rfl, hR, hB, hC⟩ := id h
  
  exact gX.mono ((k5_setBase hE hl hR hB hC (x) (y) (z)).no (by decide) (b := 0) (A1 := A) (I1 := va_up I 27 (nI 2)) ⟨2, Or.inr (Or.inl ⟨rfl, hx, hy⟩), rfl, fun z => absurd z (by decide), fun _ => rfl⟩ (w := 2) (by decide) (by decide) (va_up_self _ _ _)) (fun _ _ _ z => z) (fun E z => z)
theorem tn_setBase_A {l : Launch} {s0 : State} {D : va_G} {cy : Nat → ClassId} (hE : gE s0 D cy) (hl : l.stackTraces = false) {L : List Nat} {f : gF} (hN : gN9 s0) {co n : Nat} {PR PL : Nat → Nat} {S A : Nat → Nat → Int32} {I : Nat → Int32} (h : CX cy co n PR PL S A I L f) {x y z : Int32} (hx : gin x 3 ∧ gin y 12) (hy : ¬ gct z) : gH9 l s0 D yL_sets cL_sets 6 (some .int) [(0, 62, 63, 28), (0, 62, 68, 30)] 9 3 18 [.ref co, .int (nI 1), .int (x), .int (y), .int (z)] L f (fun v L1 f1 => v = some (.int (-20)) ∧ L = L1 ∧ f1 = f) := by
  obtain ⟨fs, hco⟩ := h.co
  exact gH9.mono (kt_sets_1 hE hl hN hco (x) (y) (z) (n_setBase_A hE hl h hx hy) (fun v L1 f1 hq => hq.elim) (fun E z => Or.inr z)) (fun v L1 f1 hq => hq.elim (fun z => z.elim) (fun z => by
    obtain ⟨e1, e2, E, hE, e3⟩ := z
    rw [hE, xcd_A] at e3
    exact ⟨e3, e1, e2⟩))
theorem q_reset {l : Launch} {s0 : State} {D : va_G} {cy : Nat → ClassId} (hE : gE s0 D cy) (hl : l.stackTraces = false) {L : List Nat} {f : gF} {co n : Nat} {PR PL : Nat → Nat} {S A : Nat → Nat → Int32} {I : Nat → Int32} (h : CX cy co n PR PL S A I L f) {i j : Nat} (hi : i < 4) (hj : j < 3) : gX l s0 D yX5_reset cX5_reset 5 (some .int) 8 3 18 [.ref co, .int (nI i), .int (nI j)] L f (fun v L1 f1 => v = some (.int (A 3 i)) ∧ CX cy co n PR PL S (mU (mU A 2 i (nI j)) 3 i (nI 0)) I L1 f1) (fun _ => False) := by
  obtain ⟨bk, X, Is, rfl, hR, hB, hC⟩ := id h
  
  refine gX.mono ((k5_reset hE hl hR hB hC (nI i) (nI j)).ok (by decide) (b := A 3 i) (A1 := (mU (mU A 2 i (nI j)) 3 i (nI 0))) (I1 := va_up I 27 (nI 0)) ⟨0, Or.inr ⟨rfl, ⟨i, hi, rfl⟩, j, hj, rfl⟩, rfl, fun _ => ⟨i, j, hi, hj, rfl, rfl, rfl, rfl⟩, fun z => absurd rfl z⟩ (va_up_self _ _ _)) (fun v L1 f1 hq => ⟨hq.1.trans ?_, (h.wr hq.2 (va_up_ne _ _ (by decide)) (fun k j h1 h2 => by rw [mU_k (by omega), mU_k (by omega)])).cg (fun _ _ _ => rfl) (fun k hk => (i27 k hk).symm)⟩) (fun _ z => z)
  rfl
theorem d_reset {l : Launch} {s0 : State} {D : va_G} {cy : Nat → ClassId} (hE : gE s0 D cy) (hl : l.stackTraces = false) {L : List Nat} {f : gF} {co n : Nat} {PR PL : Nat → Nat} {S A : Nat → Nat → Int32} {I : Nat → Int32} (h : CX cy co n PR PL S A I L f) {i j : Nat} (hi : i < 4) (hj : j < 3) : gM l s0 D yX5_reset cX5_reset 5 (some .int) 8 3 18 [.ref co, .int (nI i), .int (nI j)] L f (fun v L1 f1 => v = some (.int (A 3 i)) ∧ CX cy co n PR PL S (mU (mU A 2 i (nI j)) 3 i (nI 0)) I L1 f1) := (q_reset hE hl h hi hj).ret
theorem t_reset {l : Launch} {s0 : State} {D : va_G} {cy : Nat → ClassId} (hE : gE s0 D cy) (hl : l.stackTraces = false) {L : List Nat} {f : gF} (hN : gN9 s0) {co n : Nat} {PR PL : Nat → Nat} {S A : Nat → Nat → Int32} {I : Nat → Int32} (h : CX cy co n PR PL S A I L f) {i j : Nat} (hi : i < 4) (hj : j < 3) (p1 : Int32) : gH9 l s0 D yL_sets cL_sets 6 (some .int) [(0, 62, 63, 28), (0, 62, 68, 30)] 9 3 18 [.ref co, .int (nI 2), .int (nI i), .int (nI j), .int (p1)] L f (fun v L1 f1 => v = some (.int (A 3 i)) ∧ CX cy co n PR PL S (mU (mU A 2 i (nI j)) 3 i (nI 0)) I L1 f1) := by
  obtain ⟨fs, hco⟩ := h.co
  exact gH9.mono (kt_sets_2 hE hl hN hco (nI i) (nI j) p1 (q_reset hE hl h hi hj) (fun v L1 f1 hq => ⟨_, hq.1⟩) (fun E z => z.elim)) (fun v L1 f1 hq => hq.elim id (fun z => by
    obtain ⟨-, -, E, hE, -⟩ := z
    exact hE.elim))
theorem n_reset {l : Launch} {s0 : State} {D : va_G} {cy : Nat → ClassId} (hE : gE s0 D cy) (hl : l.stackTraces = false) {L : List Nat} {f : gF} {co n : Nat} {PR PL : Nat → Nat} {S A : Nat → Nat → Int32} {I : Nat → Int32} (h : CX cy co n PR PL S A I L f) {x y : Int32} (hx : ¬ (gin x 4 ∧ gin y 3)) : gX l s0 D yX5_reset cX5_reset 5 (some .int) 8 3 18 [.ref co, .int (x), .int (y)] L f (fun _ _ _ => False) (fun E => E = xI) := by
  obtain ⟨bk, X, Is, rfl, hR, hB, hC⟩ := id h
  
  exact gX.mono ((k5_reset hE hl hR hB hC (x) (y)).no (by decide) (b := 0) (A1 := A) (I1 := va_up I 27 (nI 1)) ⟨1, Or.inl ⟨rfl, hx⟩, rfl, fun z => absurd z (by decide), fun _ => rfl⟩ (w := 1) (by decide) (by decide) (va_up_self _ _ _)) (fun _ _ _ z => z) (fun E z => z)
theorem tn_reset {l : Launch} {s0 : State} {D : va_G} {cy : Nat → ClassId} (hE : gE s0 D cy) (hl : l.stackTraces = false) {L : List Nat} {f : gF} (hN : gN9 s0) {co n : Nat} {PR PL : Nat → Nat} {S A : Nat → Nat → Int32} {I : Nat → Int32} (h : CX cy co n PR PL S A I L f) {x y : Int32} (hx : ¬ (gin x 4 ∧ gin y 3)) (p1 : Int32) : gH9 l s0 D yL_sets cL_sets 6 (some .int) [(0, 62, 63, 28), (0, 62, 68, 30)] 9 3 18 [.ref co, .int (nI 2), .int (x), .int (y), .int (p1)] L f (fun v L1 f1 => v = some (.int (-30)) ∧ L = L1 ∧ f1 = f) := by
  obtain ⟨fs, hco⟩ := h.co
  exact gH9.mono (kt_sets_2 hE hl hN hco (x) (y) p1 (n_reset hE hl h hx) (fun v L1 f1 hq => hq.elim) (fun E z => Or.inl z)) (fun v L1 f1 hq => hq.elim (fun z => z.elim) (fun z => by
    obtain ⟨e1, e2, E, hE, e3⟩ := z
    rw [hE, xcd_I] at e3
    exact ⟨e3, e1, e2⟩))
theorem q_drop {l : Launch} {s0 : State} {D : va_G} {cy : Nat → ClassId} (hE : gE s0 D cy) (hl : l.stackTraces = false) {L : List Nat} {f : gF} {co n : Nat} {PR PL : Nat → Nat} {S A : Nat → Nat → Int32} {I : Nat → Int32} (h : CX cy co n PR PL S A I L f) {i m j : Nat} (hi : i < 4) (hm : A 3 i = nI m) (hm9 : m ≤ 10) (hj : j < m) : gX l s0 D yX5_drop cX5_drop 4 (some .int) 8 3 18 [.ref co, .int (nI i), .int (nI j)] L f (fun v L1 f1 => v = some (.int (nI (m - 1))) ∧ CX cy co n PR PL S (drA A i m j (m - 1 - j)) I L1 f1) (fun _ => False) := by
  obtain ⟨bk, X, Is, rfl, hR, hB, hC⟩ := id h
  
  refine gX.mono ((k5_drop hE hl hR hB hC (nI i) (nI j)).ok (by decide) (b := nI (m - 1)) (A1 := (drA A i m j (m - 1 - j))) (I1 := va_up I 27 (nI 0)) ⟨0, Or.inr ⟨rfl, i, m, j, hi, rfl, hm, hm9, hj, rfl⟩, rfl, fun _ => ⟨i, m, j, hi, rfl, hm, hm9, hj, rfl, rfl, rfl⟩, fun z => absurd rfl z⟩ (va_up_self _ _ _)) (fun v L1 f1 hq => ⟨hq.1.trans ?_, (h.wr hq.2 (va_up_ne _ _ (by decide)) (fun k j h1 h2 => by exact (if_neg (by omega)).trans (mU_k (by omega)))).cg (fun _ _ _ => rfl) (fun k hk => (i27 k hk).symm)⟩) (fun _ z => z)
  rfl
theorem d_drop {l : Launch} {s0 : State} {D : va_G} {cy : Nat → ClassId} (hE : gE s0 D cy) (hl : l.stackTraces = false) {L : List Nat} {f : gF} {co n : Nat} {PR PL : Nat → Nat} {S A : Nat → Nat → Int32} {I : Nat → Int32} (h : CX cy co n PR PL S A I L f) {i m j : Nat} (hi : i < 4) (hm : A 3 i = nI m) (hm9 : m ≤ 10) (hj : j < m) : gM l s0 D yX5_drop cX5_drop 4 (some .int) 8 3 18 [.ref co, .int (nI i), .int (nI j)] L f (fun v L1 f1 => v = some (.int (nI (m - 1))) ∧ CX cy co n PR PL S (drA A i m j (m - 1 - j)) I L1 f1) := (q_drop hE hl h hi hm hm9 hj).ret
theorem t_drop {l : Launch} {s0 : State} {D : va_G} {cy : Nat → ClassId} (hE : gE s0 D cy) (hl : l.stackTraces = false) {L : List Nat} {f : gF} (hN : gN9 s0) {co n : Nat} {PR PL : Nat → Nat} {S A : Nat → Nat → Int32} {I : Nat → Int32} (h : CX cy co n PR PL S A I L f) {i m j : Nat} (hi : i < 4) (hm : A 3 i = nI m) (hm9 : m ≤ 10) (hj : j < m) (p1 : Int32) : gH9 l s0 D yL_sets cL_sets 6 (some .int) [(0, 62, 63, 28), (0, 62, 68, 30)] 9 3 18 [.ref co, .int (nI 3), .int (nI i), .int (nI j), .int (p1)] L f (fun v L1 f1 => v = some (.int (nI (m - 1))) ∧ CX cy co n PR PL S (drA A i m j (m - 1 - j)) I L1 f1) := by
  obtain ⟨fs, hco⟩ := h.co
  exact gH9.mono (kt_sets_3 hE hl hN hco (nI i) (nI j) p1 (q_drop hE hl h hi hm hm9 hj) (fun v L1 f1 hq => ⟨_, hq.1⟩) (fun E z => z.elim)) (fun v L1 f1 hq => hq.elim id (fun z => by
    obtain ⟨-, -, E, hE, -⟩ := z
    exact hE.elim))
theorem n_drop {l : Launch} {s0 : State} {D : va_G} {cy : Nat → ClassId} (hE : gE s0 D cy) (hl : l.stackTraces = false) {L : List Nat} {f : gF} {co n : Nat} {PR PL : Nat → Nat} {S A : Nat → Nat → Int32} {I : Nat → Int32} (h : CX cy co n PR PL S A I L f) {x y : Int32} (hx : ¬ drpC A x y) : gX l s0 D yX5_drop cX5_drop 4 (some .int) 8 3 18 [.ref co, .int (x), .int (y)] L f (fun _ _ _ => False) (fun E => E = xI) := by
  obtain ⟨bk, X, Is, rfl, hR, hB, hC⟩ := id h
  
  exact gX.mono ((k5_drop hE hl hR hB hC (x) (y)).no (by decide) (b := 0) (A1 := A) (I1 := va_up I 27 (nI 1)) ⟨1, Or.inl ⟨rfl, hx⟩, rfl, fun z => absurd z (by decide), fun _ => rfl⟩ (w := 1) (by decide) (by decide) (va_up_self _ _ _)) (fun _ _ _ z => z) (fun E z => z)
theorem tn_drop {l : Launch} {s0 : State} {D : va_G} {cy : Nat → ClassId} (hE : gE s0 D cy) (hl : l.stackTraces = false) {L : List Nat} {f : gF} (hN : gN9 s0) {co n : Nat} {PR PL : Nat → Nat} {S A : Nat → Nat → Int32} {I : Nat → Int32} (h : CX cy co n PR PL S A I L f) {x y : Int32} (hx : ¬ drpC A x y) (p1 : Int32) : gH9 l s0 D yL_sets cL_sets 6 (some .int) [(0, 62, 63, 28), (0, 62, 68, 30)] 9 3 18 [.ref co, .int (nI 3), .int (x), .int (y), .int (p1)] L f (fun v L1 f1 => v = some (.int (-30)) ∧ L = L1 ∧ f1 = f) := by
  obtain ⟨fs, hco⟩ := h.co
  exact gH9.mono (kt_sets_3 hE hl hN hco (x) (y) p1 (n_drop hE hl h hx) (fun v L1 f1 hq => hq.elim) (fun E z => Or.inl z)) (fun v L1 f1 hq => hq.elim (fun z => z.elim) (fun z => by
    obtain ⟨e1, e2, E, hE, e3⟩ := z
    rw [hE, xcd_I] at e3
    exact ⟨e3, e1, e2⟩))
theorem q_addCopy {l : Launch} {s0 : State} {D : va_G} {cy : Nat → ClassId} (hE : gE s0 D cy) (hl : l.stackTraces = false) {L : List Nat} {f : gF} {co n : Nat} {PR PL : Nat → Nat} {S A : Nat → Nat → Int32} {I : Nat → Int32} (h : CX cy co n PR PL S A I L f) {i m : Nat} (hi : i < 4) (hm : A 3 i = nI m) (hm9 : m < 10) {a b : Nat} (ha : a < 8) (hb : b < 12) : gX l s0 D yX5_addCopy cX5_addCopy 4 (some .int) 9 6 30 [.ref co, .int (nI i), .int (nI a), .int (nI b)] L f (fun v L1 f1 => v = some (.int (nI (m + 1))) ∧ CX cy co n PR PL S (addA A i m (nI 0) (nI a) (nI b)) I L1 f1) (fun _ => False) := by
  obtain ⟨bk, X, Is, rfl, hR, hB, hC⟩ := id h
  
  refine gX.mono ((k5_addCopy hE hl hR hB hC (nI i) (nI a) (nI b)).ok (by decide) (b := nI (m + 1)) (A1 := (addA A i m (nI 0) (nI a) (nI b))) (I1 := va_up I 27 (nI 0)) ⟨0, Or.inr (Or.inr ⟨rfl, ⟨⟨i, hi, rfl⟩, ⟨a, ha, rfl⟩, b, hb, rfl⟩, (fun i2 hi2 e2 => by
    have ei : i2 = i := gn_inj (by omega) (by omega) e2.symm
    rw [ei, hm]
    exact fun z => by have := gn_inj (by omega) (by omega) z; omega)⟩), rfl, fun _ => ⟨i, m, hi, rfl, hm, hm9, rfl, rfl⟩, fun z => absurd rfl z⟩ (va_up_self _ _ _)) (fun v L1 f1 hq => ⟨hq.1.trans ?_, (h.wr hq.2 (va_up_ne _ _ (by decide)) (fun k j h1 h2 => by unfold addA; rw [mU_k (by omega), mU_k (by omega), mU_k (by omega), mU_k (by omega)])).cg (fun _ _ _ => rfl) (fun k hk => (i27 k hk).symm)⟩) (fun _ z => z)
  rfl
theorem d_addCopy {l : Launch} {s0 : State} {D : va_G} {cy : Nat → ClassId} (hE : gE s0 D cy) (hl : l.stackTraces = false) {L : List Nat} {f : gF} {co n : Nat} {PR PL : Nat → Nat} {S A : Nat → Nat → Int32} {I : Nat → Int32} (h : CX cy co n PR PL S A I L f) {i m : Nat} (hi : i < 4) (hm : A 3 i = nI m) (hm9 : m < 10) {a b : Nat} (ha : a < 8) (hb : b < 12) : gM l s0 D yX5_addCopy cX5_addCopy 4 (some .int) 9 6 30 [.ref co, .int (nI i), .int (nI a), .int (nI b)] L f (fun v L1 f1 => v = some (.int (nI (m + 1))) ∧ CX cy co n PR PL S (addA A i m (nI 0) (nI a) (nI b)) I L1 f1) := (q_addCopy hE hl h hi hm hm9 ha hb).ret
theorem t_addCopy {l : Launch} {s0 : State} {D : va_G} {cy : Nat → ClassId} (hE : gE s0 D cy) (hl : l.stackTraces = false) {L : List Nat} {f : gF} (hN : gN9 s0) {co n : Nat} {PR PL : Nat → Nat} {S A : Nat → Nat → Int32} {I : Nat → Int32} (h : CX cy co n PR PL S A I L f) {i m : Nat} (hi : i < 4) (hm : A 3 i = nI m) (hm9 : m < 10) {a b : Nat} (ha : a < 8) (hb : b < 12) : gH9 l s0 D yL_adds cL_adds 6 (some .int) [(0, 69, 70, 28), (0, 69, 75, 30), (0, 69, 80, 47)] 10 6 30 [.ref co, .int (nI 0), .int (nI i), .int (nI a), .int (nI b)] L f (fun v L1 f1 => v = some (.int (nI (m + 1))) ∧ CX cy co n PR PL S (addA A i m (nI 0) (nI a) (nI b)) I L1 f1) := by
  obtain ⟨fs, hco⟩ := h.co
  exact gH9.mono (kt_adds_0 hE hl hN hco (nI i) (nI a) (nI b) (q_addCopy hE hl h hi hm hm9 ha hb) (fun v L1 f1 hq => ⟨_, hq.1⟩) (fun E z => z.elim)) (fun v L1 f1 hq => hq.elim id (fun z => by
    obtain ⟨-, -, E, hE, -⟩ := z
    exact hE.elim))
theorem n_addCopy_I {l : Launch} {s0 : State} {D : va_G} {cy : Nat → ClassId} (hE : gE s0 D cy) (hl : l.stackTraces = false) {L : List Nat} {f : gF} {co n : Nat} {PR PL : Nat → Nat} {S A : Nat → Nat → Int32} {I : Nat → Int32} (h : CX cy co n PR PL S A I L f) {x y z : Int32} (hx : ¬ (gin x 4 ∧ gin y 8 ∧ gin z 12)) : gX l s0 D yX5_addCopy cX5_addCopy 4 (some .int) 9 6 30 [.ref co, .int (x), .int (y), .int (z)] L f (fun _ _ _ => False) (fun E => E = xI) := by
  obtain ⟨bk, X, Is, rfl, hR, hB, hC⟩ := id h
  
  exact gX.mono ((k5_addCopy hE hl hR hB hC (x) (y) (z)).no (by decide) (b := 0) (A1 := A) (I1 := va_up I 27 (nI 1)) ⟨1, Or.inl ⟨rfl, hx⟩, rfl, fun z => absurd z (by decide), fun _ => rfl⟩ (w := 1) (by decide) (by decide) (va_up_self _ _ _)) (fun _ _ _ z => z) (fun E z => z)
theorem tn_addCopy_I {l : Launch} {s0 : State} {D : va_G} {cy : Nat → ClassId} (hE : gE s0 D cy) (hl : l.stackTraces = false) {L : List Nat} {f : gF} (hN : gN9 s0) {co n : Nat} {PR PL : Nat → Nat} {S A : Nat → Nat → Int32} {I : Nat → Int32} (h : CX cy co n PR PL S A I L f) {x y z : Int32} (hx : ¬ (gin x 4 ∧ gin y 8 ∧ gin z 12)) : gH9 l s0 D yL_adds cL_adds 6 (some .int) [(0, 69, 70, 28), (0, 69, 75, 30), (0, 69, 80, 47)] 10 6 30 [.ref co, .int (nI 0), .int (x), .int (y), .int (z)] L f (fun v L1 f1 => v = some (.int (-30)) ∧ L = L1 ∧ f1 = f) := by
  obtain ⟨fs, hco⟩ := h.co
  exact gH9.mono (kt_adds_0 hE hl hN hco (x) (y) (z) (n_addCopy_I hE hl h hx) (fun v L1 f1 hq => hq.elim) (fun E z => Or.inl z)) (fun v L1 f1 hq => hq.elim (fun z => z.elim) (fun z => by
    obtain ⟨e1, e2, E, hE, e3⟩ := z
    rw [hE, xcd_I] at e3
    exact ⟨e3, e1, e2⟩))
theorem n_addCopy_S {l : Launch} {s0 : State} {D : va_G} {cy : Nat → ClassId} (hE : gE s0 D cy) (hl : l.stackTraces = false) {L : List Nat} {f : gF} {co n : Nat} {PR PL : Nat → Nat} {S A : Nat → Nat → Int32} {I : Nat → Int32} (h : CX cy co n PR PL S A I L f) {x y z : Int32} (hc : gin x 4 ∧ gin y 8 ∧ gin z 12) (hx : ¬ notFull A x) : gX l s0 D yX5_addCopy cX5_addCopy 4 (some .int) 9 6 30 [.ref co, .int (x), .int (y), .int (z)] L f (fun _ _ _ => False) (fun E => E = xS) := by
  obtain ⟨bk, X, Is, rfl, hR, hB, hC⟩ := id h
  
  exact gX.mono ((k5_addCopy hE hl hR hB hC (x) (y) (z)).no (by decide) (b := 0) (A1 := A) (I1 := va_up I 27 (nI 2)) ⟨2, Or.inr (Or.inl ⟨rfl, hc, hx⟩), rfl, fun z => absurd z (by decide), fun _ => rfl⟩ (w := 2) (by decide) (by decide) (va_up_self _ _ _)) (fun _ _ _ z => z) (fun E z => z)
theorem tn_addCopy_S {l : Launch} {s0 : State} {D : va_G} {cy : Nat → ClassId} (hE : gE s0 D cy) (hl : l.stackTraces = false) {L : List Nat} {f : gF} (hN : gN9 s0) {co n : Nat} {PR PL : Nat → Nat} {S A : Nat → Nat → Int32} {I : Nat → Int32} (h : CX cy co n PR PL S A I L f) {x y z : Int32} (hc : gin x 4 ∧ gin y 8 ∧ gin z 12) (hx : ¬ notFull A x) : gH9 l s0 D yL_adds cL_adds 6 (some .int) [(0, 69, 70, 28), (0, 69, 75, 30), (0, 69, 80, 47)] 10 6 30 [.ref co, .int (nI 0), .int (x), .int (y), .int (z)] L f (fun v L1 f1 => v = some (.int (-10)) ∧ L = L1 ∧ f1 = f) := by
  obtain ⟨fs, hco⟩ := h.co
  exact gH9.mono (kt_adds_0 hE hl hN hco (x) (y) (z) (n_addCopy_S hE hl h hc hx) (fun v L1 f1 hq => hq.elim) (fun E z => Or.inr (Or.inr z))) (fun v L1 f1 hq => hq.elim (fun z => z.elim) (fun z => by
    obtain ⟨e1, e2, E, hE, e3⟩ := z
    rw [hE, xcd_S] at e3
    exact ⟨e3, e1, e2⟩))
theorem q_addRun {l : Launch} {s0 : State} {D : va_G} {cy : Nat → ClassId} (hE : gE s0 D cy) (hl : l.stackTraces = false) {L : List Nat} {f : gF} {co n : Nat} {PR PL : Nat → Nat} {S A : Nat → Nat → Int32} {I : Nat → Int32} (h : CX cy co n PR PL S A I L f) {i m : Nat} (hi : i < 4) (hm : A 3 i = nI m) (hm9 : m < 10) {a b : Nat} (ha : a < 12) (hb : b < 4) : gX l s0 D yX5_addRun cX5_addRun 4 (some .int) 9 6 30 [.ref co, .int (nI i), .int (nI a), .int (nI b)] L f (fun v L1 f1 => v = some (.int (nI (m + 1))) ∧ CX cy co n PR PL S (addA A i m (nI 1) (nI a) (nI b)) I L1 f1) (fun _ => False) := by
  obtain ⟨bk, X, Is, rfl, hR, hB, hC⟩ := id h
  
  refine gX.mono ((k5_addRun hE hl hR hB hC (nI i) (nI a) (nI b)).ok (by decide) (b := nI (m + 1)) (A1 := (addA A i m (nI 1) (nI a) (nI b))) (I1 := va_up I 27 (nI 0)) ⟨0, Or.inr (Or.inr ⟨rfl, ⟨⟨i, hi, rfl⟩, ⟨a, ha, rfl⟩, b, hb, rfl⟩, (fun i2 hi2 e2 => by
    have ei : i2 = i := gn_inj (by omega) (by omega) e2.symm
    rw [ei, hm]
    exact fun z => by have := gn_inj (by omega) (by omega) z; omega)⟩), rfl, fun _ => ⟨i, m, hi, rfl, hm, hm9, rfl, rfl⟩, fun z => absurd rfl z⟩ (va_up_self _ _ _)) (fun v L1 f1 hq => ⟨hq.1.trans ?_, (h.wr hq.2 (va_up_ne _ _ (by decide)) (fun k j h1 h2 => by unfold addA; rw [mU_k (by omega), mU_k (by omega), mU_k (by omega), mU_k (by omega)])).cg (fun _ _ _ => rfl) (fun k hk => (i27 k hk).symm)⟩) (fun _ z => z)
  rfl
theorem d_addRun {l : Launch} {s0 : State} {D : va_G} {cy : Nat → ClassId} (hE : gE s0 D cy) (hl : l.stackTraces = false) {L : List Nat} {f : gF} {co n : Nat} {PR PL : Nat → Nat} {S A : Nat → Nat → Int32} {I : Nat → Int32} (h : CX cy co n PR PL S A I L f) {i m : Nat} (hi : i < 4) (hm : A 3 i = nI m) (hm9 : m < 10) {a b : Nat} (ha : a < 12) (hb : b < 4) : gM l s0 D yX5_addRun cX5_addRun 4 (some .int) 9 6 30 [.ref co, .int (nI i), .int (nI a), .int (nI b)] L f (fun v L1 f1 => v = some (.int (nI (m + 1))) ∧ CX cy co n PR PL S (addA A i m (nI 1) (nI a) (nI b)) I L1 f1) := (q_addRun hE hl h hi hm hm9 ha hb).ret
theorem t_addRun {l : Launch} {s0 : State} {D : va_G} {cy : Nat → ClassId} (hE : gE s0 D cy) (hl : l.stackTraces = false) {L : List Nat} {f : gF} (hN : gN9 s0) {co n : Nat} {PR PL : Nat → Nat} {S A : Nat → Nat → Int32} {I : Nat → Int32} (h : CX cy co n PR PL S A I L f) {i m : Nat} (hi : i < 4) (hm : A 3 i = nI m) (hm9 : m < 10) {a b : Nat} (ha : a < 12) (hb : b < 4) : gH9 l s0 D yL_adds cL_adds 6 (some .int) [(0, 69, 70, 28), (0, 69, 75, 30), (0, 69, 80, 47)] 10 6 30 [.ref co, .int (nI 1), .int (nI i), .int (nI a), .int (nI b)] L f (fun v L1 f1 => v = some (.int (nI (m + 1))) ∧ CX cy co n PR PL S (addA A i m (nI 1) (nI a) (nI b)) I L1 f1) := by
  obtain ⟨fs, hco⟩ := h.co
  exact gH9.mono (kt_adds_1 hE hl hN hco (nI i) (nI a) (nI b) (q_addRun hE hl h hi hm hm9 ha hb) (fun v L1 f1 hq => ⟨_, hq.1⟩) (fun E z => z.elim)) (fun v L1 f1 hq => hq.elim id (fun z => by
    obtain ⟨-, -, E, hE, -⟩ := z
    exact hE.elim))
theorem n_addRun_I {l : Launch} {s0 : State} {D : va_G} {cy : Nat → ClassId} (hE : gE s0 D cy) (hl : l.stackTraces = false) {L : List Nat} {f : gF} {co n : Nat} {PR PL : Nat → Nat} {S A : Nat → Nat → Int32} {I : Nat → Int32} (h : CX cy co n PR PL S A I L f) {x y z : Int32} (hx : ¬ (gin x 4 ∧ gin y 12 ∧ gin z 4)) : gX l s0 D yX5_addRun cX5_addRun 4 (some .int) 9 6 30 [.ref co, .int (x), .int (y), .int (z)] L f (fun _ _ _ => False) (fun E => E = xI) := by
  obtain ⟨bk, X, Is, rfl, hR, hB, hC⟩ := id h
  
  exact gX.mono ((k5_addRun hE hl hR hB hC (x) (y) (z)).no (by decide) (b := 0) (A1 := A) (I1 := va_up I 27 (nI 1)) ⟨1, Or.inl ⟨rfl, hx⟩, rfl, fun z => absurd z (by decide), fun _ => rfl⟩ (w := 1) (by decide) (by decide) (va_up_self _ _ _)) (fun _ _ _ z => z) (fun E z => z)
theorem tn_addRun_I {l : Launch} {s0 : State} {D : va_G} {cy : Nat → ClassId} (hE : gE s0 D cy) (hl : l.stackTraces = false) {L : List Nat} {f : gF} (hN : gN9 s0) {co n : Nat} {PR PL : Nat → Nat} {S A : Nat → Nat → Int32} {I : Nat → Int32} (h : CX cy co n PR PL S A I L f) {x y z : Int32} (hx : ¬ (gin x 4 ∧ gin y 12 ∧ gin z 4)) : gH9 l s0 D yL_adds cL_adds 6 (some .int) [(0, 69, 70, 28), (0, 69, 75, 30), (0, 69, 80, 47)] 10 6 30 [.ref co, .int (nI 1), .int (x), .int (y), .int (z)] L f (fun v L1 f1 => v = some (.int (-30)) ∧ L = L1 ∧ f1 = f) := by
  obtain ⟨fs, hco⟩ := h.co
  exact gH9.mono (kt_adds_1 hE hl hN hco (x) (y) (z) (n_addRun_I hE hl h hx) (fun v L1 f1 hq => hq.elim) (fun E z => Or.inl z)) (fun v L1 f1 hq => hq.elim (fun z => z.elim) (fun z => by
    obtain ⟨e1, e2, E, hE, e3⟩ := z
    rw [hE, xcd_I] at e3
    exact ⟨e3, e1, e2⟩))
theorem n_addRun_S {l : Launch} {s0 : State} {D : va_G} {cy : Nat → ClassId} (hE : gE s0 D cy) (hl : l.stackTraces = false) {L : List Nat} {f : gF} {co n : Nat} {PR PL : Nat → Nat} {S A : Nat → Nat → Int32} {I : Nat → Int32} (h : CX cy co n PR PL S A I L f) {x y z : Int32} (hc : gin x 4 ∧ gin y 12 ∧ gin z 4) (hx : ¬ notFull A x) : gX l s0 D yX5_addRun cX5_addRun 4 (some .int) 9 6 30 [.ref co, .int (x), .int (y), .int (z)] L f (fun _ _ _ => False) (fun E => E = xS) := by
  obtain ⟨bk, X, Is, rfl, hR, hB, hC⟩ := id h
  
  exact gX.mono ((k5_addRun hE hl hR hB hC (x) (y) (z)).no (by decide) (b := 0) (A1 := A) (I1 := va_up I 27 (nI 2)) ⟨2, Or.inr (Or.inl ⟨rfl, hc, hx⟩), rfl, fun z => absurd z (by decide), fun _ => rfl⟩ (w := 2) (by decide) (by decide) (va_up_self _ _ _)) (fun _ _ _ z => z) (fun E z => z)
theorem tn_addRun_S {l : Launch} {s0 : State} {D : va_G} {cy : Nat → ClassId} (hE : gE s0 D cy) (hl : l.stackTraces = false) {L : List Nat} {f : gF} (hN : gN9 s0) {co n : Nat} {PR PL : Nat → Nat} {S A : Nat → Nat → Int32} {I : Nat → Int32} (h : CX cy co n PR PL S A I L f) {x y z : Int32} (hc : gin x 4 ∧ gin y 12 ∧ gin z 4) (hx : ¬ notFull A x) : gH9 l s0 D yL_adds cL_adds 6 (some .int) [(0, 69, 70, 28), (0, 69, 75, 30), (0, 69, 80, 47)] 10 6 30 [.ref co, .int (nI 1), .int (x), .int (y), .int (z)] L f (fun v L1 f1 => v = some (.int (-10)) ∧ L = L1 ∧ f1 = f) := by
  obtain ⟨fs, hco⟩ := h.co
  exact gH9.mono (kt_adds_1 hE hl hN hco (x) (y) (z) (n_addRun_S hE hl h hc hx) (fun v L1 f1 hq => hq.elim) (fun E z => Or.inr (Or.inr z))) (fun v L1 f1 hq => hq.elim (fun z => z.elim) (fun z => by
    obtain ⟨e1, e2, E, hE, e3⟩ := z
    rw [hE, xcd_S] at e3
    exact ⟨e3, e1, e2⟩))
theorem q_addRemove {l : Launch} {s0 : State} {D : va_G} {cy : Nat → ClassId} (hE : gE s0 D cy) (hl : l.stackTraces = false) {L : List Nat} {f : gF} {co n : Nat} {PR PL : Nat → Nat} {S A : Nat → Nat → Int32} {I : Nat → Int32} (h : CX cy co n PR PL S A I L f) {i m : Nat} (hi : i < 4) (hm : A 3 i = nI m) (hm9 : m < 10) {a : Nat} (ha : a < 12) : gX l s0 D yX5_addRemove cX5_addRemove 3 (some .int) 9 5 24 [.ref co, .int (nI i), .int (nI a)] L f (fun v L1 f1 => v = some (.int (nI (m + 1))) ∧ CX cy co n PR PL S (addA A i m (nI 3) (nI a) (nI 0)) I L1 f1) (fun _ => False) := by
  obtain ⟨bk, X, Is, rfl, hR, hB, hC⟩ := id h
  
  refine gX.mono ((k5_addRemove hE hl hR hB hC (nI i) (nI a)).ok (by decide) (b := nI (m + 1)) (A1 := (addA A i m (nI 3) (nI a) (nI 0))) (I1 := va_up I 27 (nI 0)) ⟨0, Or.inr (Or.inr ⟨rfl, ⟨⟨i, hi, rfl⟩, a, ha, rfl⟩, (fun i2 hi2 e2 => by
    have ei : i2 = i := gn_inj (by omega) (by omega) e2.symm
    rw [ei, hm]
    exact fun z => by have := gn_inj (by omega) (by omega) z; omega)⟩), rfl, fun _ => ⟨i, m, hi, rfl, hm, hm9, rfl, rfl⟩, fun z => absurd rfl z⟩ (va_up_self _ _ _)) (fun v L1 f1 hq => ⟨hq.1.trans ?_, (h.wr hq.2 (va_up_ne _ _ (by decide)) (fun k j h1 h2 => by unfold addA; rw [mU_k (by omega), mU_k (by omega), mU_k (by omega), mU_k (by omega)])).cg (fun _ _ _ => rfl) (fun k hk => (i27 k hk).symm)⟩) (fun _ z => z)
  rfl
theorem d_addRemove {l : Launch} {s0 : State} {D : va_G} {cy : Nat → ClassId} (hE : gE s0 D cy) (hl : l.stackTraces = false) {L : List Nat} {f : gF} {co n : Nat} {PR PL : Nat → Nat} {S A : Nat → Nat → Int32} {I : Nat → Int32} (h : CX cy co n PR PL S A I L f) {i m : Nat} (hi : i < 4) (hm : A 3 i = nI m) (hm9 : m < 10) {a : Nat} (ha : a < 12) : gM l s0 D yX5_addRemove cX5_addRemove 3 (some .int) 9 5 24 [.ref co, .int (nI i), .int (nI a)] L f (fun v L1 f1 => v = some (.int (nI (m + 1))) ∧ CX cy co n PR PL S (addA A i m (nI 3) (nI a) (nI 0)) I L1 f1) := (q_addRemove hE hl h hi hm hm9 ha).ret
theorem t_addRemove {l : Launch} {s0 : State} {D : va_G} {cy : Nat → ClassId} (hE : gE s0 D cy) (hl : l.stackTraces = false) {L : List Nat} {f : gF} (hN : gN9 s0) {co n : Nat} {PR PL : Nat → Nat} {S A : Nat → Nat → Int32} {I : Nat → Int32} (h : CX cy co n PR PL S A I L f) {i m : Nat} (hi : i < 4) (hm : A 3 i = nI m) (hm9 : m < 10) {a : Nat} (ha : a < 12) (p1 : Int32) : gH9 l s0 D yL_adds cL_adds 6 (some .int) [(0, 69, 70, 28), (0, 69, 75, 30), (0, 69, 80, 47)] 10 5 24 [.ref co, .int (nI 3), .int (nI i), .int (nI a), .int (p1)] L f (fun v L1 f1 => v = some (.int (nI (m + 1))) ∧ CX cy co n PR PL S (addA A i m (nI 3) (nI a) (nI 0)) I L1 f1) := by
  obtain ⟨fs, hco⟩ := h.co
  exact gH9.mono (kt_adds_3 hE hl hN hco (nI i) (nI a) p1 (q_addRemove hE hl h hi hm hm9 ha) (fun v L1 f1 hq => ⟨_, hq.1⟩) (fun E z => z.elim)) (fun v L1 f1 hq => hq.elim id (fun z => by
    obtain ⟨-, -, E, hE, -⟩ := z
    exact hE.elim))
theorem n_addRemove_I {l : Launch} {s0 : State} {D : va_G} {cy : Nat → ClassId} (hE : gE s0 D cy) (hl : l.stackTraces = false) {L : List Nat} {f : gF} {co n : Nat} {PR PL : Nat → Nat} {S A : Nat → Nat → Int32} {I : Nat → Int32} (h : CX cy co n PR PL S A I L f) {x y : Int32} (hx : ¬ (gin x 4 ∧ gin y 12)) : gX l s0 D yX5_addRemove cX5_addRemove 3 (some .int) 9 5 24 [.ref co, .int (x), .int (y)] L f (fun _ _ _ => False) (fun E => E = xI) := by
  obtain ⟨bk, X, Is, rfl, hR, hB, hC⟩ := id h
  
  exact gX.mono ((k5_addRemove hE hl hR hB hC (x) (y)).no (by decide) (b := 0) (A1 := A) (I1 := va_up I 27 (nI 1)) ⟨1, Or.inl ⟨rfl, hx⟩, rfl, fun z => absurd z (by decide), fun _ => rfl⟩ (w := 1) (by decide) (by decide) (va_up_self _ _ _)) (fun _ _ _ z => z) (fun E z => z)
theorem tn_addRemove_I {l : Launch} {s0 : State} {D : va_G} {cy : Nat → ClassId} (hE : gE s0 D cy) (hl : l.stackTraces = false) {L : List Nat} {f : gF} (hN : gN9 s0) {co n : Nat} {PR PL : Nat → Nat} {S A : Nat → Nat → Int32} {I : Nat → Int32} (h : CX cy co n PR PL S A I L f) {x y : Int32} (hx : ¬ (gin x 4 ∧ gin y 12)) (p1 : Int32) : gH9 l s0 D yL_adds cL_adds 6 (some .int) [(0, 69, 70, 28), (0, 69, 75, 30), (0, 69, 80, 47)] 10 5 24 [.ref co, .int (nI 3), .int (x), .int (y), .int (p1)] L f (fun v L1 f1 => v = some (.int (-30)) ∧ L = L1 ∧ f1 = f) := by
  obtain ⟨fs, hco⟩ := h.co
  exact gH9.mono (kt_adds_3 hE hl hN hco (x) (y) p1 (n_addRemove_I hE hl h hx) (fun v L1 f1 hq => hq.elim) (fun E z => Or.inl z)) (fun v L1 f1 hq => hq.elim (fun z => z.elim) (fun z => by
    obtain ⟨e1, e2, E, hE, e3⟩ := z
    rw [hE, xcd_I] at e3
    exact ⟨e3, e1, e2⟩))
theorem n_addRemove_S {l : Launch} {s0 : State} {D : va_G} {cy : Nat → ClassId} (hE : gE s0 D cy) (hl : l.stackTraces = false) {L : List Nat} {f : gF} {co n : Nat} {PR PL : Nat → Nat} {S A : Nat → Nat → Int32} {I : Nat → Int32} (h : CX cy co n PR PL S A I L f) {x y : Int32} (hc : gin x 4 ∧ gin y 12) (hx : ¬ notFull A x) : gX l s0 D yX5_addRemove cX5_addRemove 3 (some .int) 9 5 24 [.ref co, .int (x), .int (y)] L f (fun _ _ _ => False) (fun E => E = xS) := by
  obtain ⟨bk, X, Is, rfl, hR, hB, hC⟩ := id h
  
  exact gX.mono ((k5_addRemove hE hl hR hB hC (x) (y)).no (by decide) (b := 0) (A1 := A) (I1 := va_up I 27 (nI 2)) ⟨2, Or.inr (Or.inl ⟨rfl, hc, hx⟩), rfl, fun z => absurd z (by decide), fun _ => rfl⟩ (w := 2) (by decide) (by decide) (va_up_self _ _ _)) (fun _ _ _ z => z) (fun E z => z)
theorem tn_addRemove_S {l : Launch} {s0 : State} {D : va_G} {cy : Nat → ClassId} (hE : gE s0 D cy) (hl : l.stackTraces = false) {L : List Nat} {f : gF} (hN : gN9 s0) {co n : Nat} {PR PL : Nat → Nat} {S A : Nat → Nat → Int32} {I : Nat → Int32} (h : CX cy co n PR PL S A I L f) {x y : Int32} (hc : gin x 4 ∧ gin y 12) (hx : ¬ notFull A x) (p1 : Int32) : gH9 l s0 D yL_adds cL_adds 6 (some .int) [(0, 69, 70, 28), (0, 69, 75, 30), (0, 69, 80, 47)] 10 5 24 [.ref co, .int (nI 3), .int (x), .int (y), .int (p1)] L f (fun v L1 f1 => v = some (.int (-10)) ∧ L = L1 ∧ f1 = f) := by
  obtain ⟨fs, hco⟩ := h.co
  exact gH9.mono (kt_adds_3 hE hl hN hco (x) (y) p1 (n_addRemove_S hE hl h hc hx) (fun v L1 f1 hq => hq.elim) (fun E z => Or.inr (Or.inr z))) (fun v L1 f1 hq => hq.elim (fun z => z.elim) (fun z => by
    obtain ⟨e1, e2, E, hE, e3⟩ := z
    rw [hE, xcd_S] at e3
    exact ⟨e3, e1, e2⟩))
theorem q_addMove {l : Launch} {s0 : State} {D : va_G} {cy : Nat → ClassId} (hE : gE s0 D cy) (hl : l.stackTraces = false) {L : List Nat} {f : gF} {co n : Nat} {PR PL : Nat → Nat} {S A : Nat → Nat → Int32} {I : Nat → Int32} (h : CX cy co n PR PL S A I L f) {i m : Nat} (hi : i < 4) (hm : A 3 i = nI m) (hm9 : m < 10) {a b : Nat} (ha : a < 12) (hb : b < 12) (hne : a ≠ b) : gX l s0 D yX5_addMove cX5_addMove 4 (some .int) 9 6 30 [.ref co, .int (nI i), .int (nI a), .int (nI b)] L f (fun v L1 f1 => v = some (.int (nI (m + 1))) ∧ CX cy co n PR PL S (addA A i m (nI 2) (nI a) (nI b)) I L1 f1) (fun _ => False) := by
  obtain ⟨bk, X, Is, rfl, hR, hB, hC⟩ := id h
  
  refine gX.mono ((k5_addMove hE hl hR hB hC (nI i) (nI a) (nI b)).ok (by decide) (b := nI (m + 1)) (A1 := (addA A i m (nI 2) (nI a) (nI b))) (I1 := va_up I 27 (nI 0)) ⟨0, Or.inr (Or.inr (Or.inr ⟨rfl, ⟨⟨i, hi, rfl⟩, ⟨a, ha, rfl⟩, b, hb, rfl⟩, (fun z => hne (gn_inj (by omega) (by omega) z)), (fun i2 hi2 e2 => by
    have ei : i2 = i := gn_inj (by omega) (by omega) e2.symm
    rw [ei, hm]
    exact fun z => by have := gn_inj (by omega) (by omega) z; omega)⟩)), rfl, fun _ => ⟨i, m, hi, rfl, hm, hm9, rfl, rfl⟩, fun z => absurd rfl z⟩ (va_up_self _ _ _)) (fun v L1 f1 hq => ⟨hq.1.trans ?_, (h.wr hq.2 (va_up_ne _ _ (by decide)) (fun k j h1 h2 => by unfold addA; rw [mU_k (by omega), mU_k (by omega), mU_k (by omega), mU_k (by omega)])).cg (fun _ _ _ => rfl) (fun k hk => (i27 k hk).symm)⟩) (fun _ z => z)
  rfl
theorem d_addMove {l : Launch} {s0 : State} {D : va_G} {cy : Nat → ClassId} (hE : gE s0 D cy) (hl : l.stackTraces = false) {L : List Nat} {f : gF} {co n : Nat} {PR PL : Nat → Nat} {S A : Nat → Nat → Int32} {I : Nat → Int32} (h : CX cy co n PR PL S A I L f) {i m : Nat} (hi : i < 4) (hm : A 3 i = nI m) (hm9 : m < 10) {a b : Nat} (ha : a < 12) (hb : b < 12) (hne : a ≠ b) : gM l s0 D yX5_addMove cX5_addMove 4 (some .int) 9 6 30 [.ref co, .int (nI i), .int (nI a), .int (nI b)] L f (fun v L1 f1 => v = some (.int (nI (m + 1))) ∧ CX cy co n PR PL S (addA A i m (nI 2) (nI a) (nI b)) I L1 f1) := (q_addMove hE hl h hi hm hm9 ha hb hne).ret
theorem t_addMove {l : Launch} {s0 : State} {D : va_G} {cy : Nat → ClassId} (hE : gE s0 D cy) (hl : l.stackTraces = false) {L : List Nat} {f : gF} (hN : gN9 s0) {co n : Nat} {PR PL : Nat → Nat} {S A : Nat → Nat → Int32} {I : Nat → Int32} (h : CX cy co n PR PL S A I L f) {i m : Nat} (hi : i < 4) (hm : A 3 i = nI m) (hm9 : m < 10) {a b : Nat} (ha : a < 12) (hb : b < 12) (hne : a ≠ b) : gH9 l s0 D yL_adds cL_adds 6 (some .int) [(0, 69, 70, 28), (0, 69, 75, 30), (0, 69, 80, 47)] 10 6 30 [.ref co, .int (nI 2), .int (nI i), .int (nI a), .int (nI b)] L f (fun v L1 f1 => v = some (.int (nI (m + 1))) ∧ CX cy co n PR PL S (addA A i m (nI 2) (nI a) (nI b)) I L1 f1) := by
  obtain ⟨fs, hco⟩ := h.co
  exact gH9.mono (kt_adds_2 hE hl hN hco (nI i) (nI a) (nI b) (q_addMove hE hl h hi hm hm9 ha hb hne) (fun v L1 f1 hq => ⟨_, hq.1⟩) (fun E z => z.elim)) (fun v L1 f1 hq => hq.elim id (fun z => by
    obtain ⟨-, -, E, hE, -⟩ := z
    exact hE.elim))
theorem n_addMove_I {l : Launch} {s0 : State} {D : va_G} {cy : Nat → ClassId} (hE : gE s0 D cy) (hl : l.stackTraces = false) {L : List Nat} {f : gF} {co n : Nat} {PR PL : Nat → Nat} {S A : Nat → Nat → Int32} {I : Nat → Int32} (h : CX cy co n PR PL S A I L f) {x y z : Int32} (hx : ¬ (gin x 4 ∧ gin y 12 ∧ gin z 12)) : gX l s0 D yX5_addMove cX5_addMove 4 (some .int) 9 6 30 [.ref co, .int (x), .int (y), .int (z)] L f (fun _ _ _ => False) (fun E => E = xI) := by
  obtain ⟨bk, X, Is, rfl, hR, hB, hC⟩ := id h
  
  exact gX.mono ((k5_addMove hE hl hR hB hC (x) (y) (z)).no (by decide) (b := 0) (A1 := A) (I1 := va_up I 27 (nI 1)) ⟨1, Or.inl ⟨rfl, hx⟩, rfl, fun z => absurd z (by decide), fun _ => rfl⟩ (w := 1) (by decide) (by decide) (va_up_self _ _ _)) (fun _ _ _ z => z) (fun E z => z)
theorem tn_addMove_I {l : Launch} {s0 : State} {D : va_G} {cy : Nat → ClassId} (hE : gE s0 D cy) (hl : l.stackTraces = false) {L : List Nat} {f : gF} (hN : gN9 s0) {co n : Nat} {PR PL : Nat → Nat} {S A : Nat → Nat → Int32} {I : Nat → Int32} (h : CX cy co n PR PL S A I L f) {x y z : Int32} (hx : ¬ (gin x 4 ∧ gin y 12 ∧ gin z 12)) : gH9 l s0 D yL_adds cL_adds 6 (some .int) [(0, 69, 70, 28), (0, 69, 75, 30), (0, 69, 80, 47)] 10 6 30 [.ref co, .int (nI 2), .int (x), .int (y), .int (z)] L f (fun v L1 f1 => v = some (.int (-30)) ∧ L = L1 ∧ f1 = f) := by
  obtain ⟨fs, hco⟩ := h.co
  exact gH9.mono (kt_adds_2 hE hl hN hco (x) (y) (z) (n_addMove_I hE hl h hx) (fun v L1 f1 hq => hq.elim) (fun E z => Or.inl z)) (fun v L1 f1 hq => hq.elim (fun z => z.elim) (fun z => by
    obtain ⟨e1, e2, E, hE, e3⟩ := z
    rw [hE, xcd_I] at e3
    exact ⟨e3, e1, e2⟩))
theorem n_addMove_A {l : Launch} {s0 : State} {D : va_G} {cy : Nat → ClassId} (hE : gE s0 D cy) (hl : l.stackTraces = false) {L : List Nat} {f : gF} {co n : Nat} {PR PL : Nat → Nat} {S A : Nat → Nat → Int32} {I : Nat → Int32} (h : CX cy co n PR PL S A I L f) {x y z : Int32} (hc : gin x 4 ∧ gin y 12 ∧ gin z 12) (hx : ¬ (y ≠ z)) : gX l s0 D yX5_addMove cX5_addMove 4 (some .int) 9 6 30 [.ref co, .int (x), .int (y), .int (z)] L f (fun _ _ _ => False) (fun E => E = xA) := by
  obtain ⟨bk, X, Is, rfl, hR, hB, hC⟩ := id h
  
  exact gX.mono ((k5_addMove hE hl hR hB hC (x) (y) (z)).no (by decide) (b := 0) (A1 := A) (I1 := va_up I 27 (nI 2)) ⟨2, Or.inr (Or.inl ⟨rfl, hc, hx⟩), rfl, fun z => absurd z (by decide), fun _ => rfl⟩ (w := 2) (by decide) (by decide) (va_up_self _ _ _)) (fun _ _ _ z => z) (fun E z => z)
theorem tn_addMove_A {l : Launch} {s0 : State} {D : va_G} {cy : Nat → ClassId} (hE : gE s0 D cy) (hl : l.stackTraces = false) {L : List Nat} {f : gF} (hN : gN9 s0) {co n : Nat} {PR PL : Nat → Nat} {S A : Nat → Nat → Int32} {I : Nat → Int32} (h : CX cy co n PR PL S A I L f) {x y z : Int32} (hc : gin x 4 ∧ gin y 12 ∧ gin z 12) (hx : ¬ (y ≠ z)) : gH9 l s0 D yL_adds cL_adds 6 (some .int) [(0, 69, 70, 28), (0, 69, 75, 30), (0, 69, 80, 47)] 10 6 30 [.ref co, .int (nI 2), .int (x), .int (y), .int (z)] L f (fun v L1 f1 => v = some (.int (-20)) ∧ L = L1 ∧ f1 = f) := by
  obtain ⟨fs, hco⟩ := h.co
  exact gH9.mono (kt_adds_2 hE hl hN hco (x) (y) (z) (n_addMove_A hE hl h hc hx) (fun v L1 f1 hq => hq.elim) (fun E z => Or.inr (Or.inl z))) (fun v L1 f1 hq => hq.elim (fun z => z.elim) (fun z => by
    obtain ⟨e1, e2, E, hE, e3⟩ := z
    rw [hE, xcd_A] at e3
    exact ⟨e3, e1, e2⟩))
theorem n_addMove_S {l : Launch} {s0 : State} {D : va_G} {cy : Nat → ClassId} (hE : gE s0 D cy) (hl : l.stackTraces = false) {L : List Nat} {f : gF} {co n : Nat} {PR PL : Nat → Nat} {S A : Nat → Nat → Int32} {I : Nat → Int32} (h : CX cy co n PR PL S A I L f) {x y z : Int32} (hc : gin x 4 ∧ gin y 12 ∧ gin z 12) (hd : y ≠ z) (hx : ¬ notFull A x) : gX l s0 D yX5_addMove cX5_addMove 4 (some .int) 9 6 30 [.ref co, .int (x), .int (y), .int (z)] L f (fun _ _ _ => False) (fun E => E = xS) := by
  obtain ⟨bk, X, Is, rfl, hR, hB, hC⟩ := id h
  
  exact gX.mono ((k5_addMove hE hl hR hB hC (x) (y) (z)).no (by decide) (b := 0) (A1 := A) (I1 := va_up I 27 (nI 3)) ⟨3, Or.inr (Or.inr (Or.inl ⟨rfl, hc, hd, hx⟩)), rfl, fun z => absurd z (by decide), fun _ => rfl⟩ (w := 3) (by decide) (by decide) (va_up_self _ _ _)) (fun _ _ _ z => z) (fun E z => z)
theorem tn_addMove_S {l : Launch} {s0 : State} {D : va_G} {cy : Nat → ClassId} (hE : gE s0 D cy) (hl : l.stackTraces = false) {L : List Nat} {f : gF} (hN : gN9 s0) {co n : Nat} {PR PL : Nat → Nat} {S A : Nat → Nat → Int32} {I : Nat → Int32} (h : CX cy co n PR PL S A I L f) {x y z : Int32} (hc : gin x 4 ∧ gin y 12 ∧ gin z 12) (hd : y ≠ z) (hx : ¬ notFull A x) : gH9 l s0 D yL_adds cL_adds 6 (some .int) [(0, 69, 70, 28), (0, 69, 75, 30), (0, 69, 80, 47)] 10 6 30 [.ref co, .int (nI 2), .int (x), .int (y), .int (z)] L f (fun v L1 f1 => v = some (.int (-10)) ∧ L = L1 ∧ f1 = f) := by
  obtain ⟨fs, hco⟩ := h.co
  exact gH9.mono (kt_adds_2 hE hl hN hco (x) (y) (z) (n_addMove_S hE hl h hc hd hx) (fun v L1 f1 hq => hq.elim) (fun E z => Or.inr (Or.inr z))) (fun v L1 f1 hq => hq.elim (fun z => z.elim) (fun z => by
    obtain ⟨e1, e2, E, hE, e3⟩ := z
    rw [hE, xcd_S] at e3
    exact ⟨e3, e1, e2⟩))
theorem q_addSet {l : Launch} {s0 : State} {D : va_G} {cy : Nat → ClassId} (hE : gE s0 D cy) (hl : l.stackTraces = false) {L : List Nat} {f : gF} {co n : Nat} {PR PL : Nat → Nat} {S A : Nat → Nat → Int32} {I : Nat → Int32} (h : CX cy co n PR PL S A I L f) {i m : Nat} (hi : i < 4) (hm : A 3 i = nI m) (hm9 : m < 10) {a b : Nat} (ha : a < 4) (hb : b < 1000) : gX l s0 D yX5_addSet cX5_addSet 4 (some .int) 9 5 24 [.ref co, .int (nI i), .int (nI a), .int (nI b)] L f (fun v L1 f1 => v = some (.int (nI (m + 1))) ∧ CX cy co n PR PL S (addA A i m (nI 4) (nI a) (nI b)) I L1 f1) (fun _ => False) := by
  obtain ⟨bk, X, Is, rfl, hR, hB, hC⟩ := id h
  
  refine gX.mono ((k5_addSet hE hl hR hB hC (nI i) (nI a) (nI b)).ok (by decide) (b := nI (m + 1)) (A1 := (addA A i m (nI 4) (nI a) (nI b))) (I1 := va_up I 27 (nI 0)) ⟨0, Or.inr (Or.inr (Or.inr ⟨rfl, ⟨⟨i, hi, rfl⟩, a, ha, rfl⟩, ⟨b, hb, rfl⟩, (fun i2 hi2 e2 => by
    have ei : i2 = i := gn_inj (by omega) (by omega) e2.symm
    rw [ei, hm]
    exact fun z => by have := gn_inj (by omega) (by omega) z; omega)⟩)), rfl, fun _ => ⟨i, m, hi, rfl, hm, hm9, rfl, rfl⟩, fun z => absurd rfl z⟩ (va_up_self _ _ _)) (fun v L1 f1 hq => ⟨hq.1.trans ?_, (h.wr hq.2 (va_up_ne _ _ (by decide)) (fun k j h1 h2 => by unfold addA; rw [mU_k (by omega), mU_k (by omega), mU_k (by omega), mU_k (by omega)])).cg (fun _ _ _ => rfl) (fun k hk => (i27 k hk).symm)⟩) (fun _ z => z)
  rfl
theorem d_addSet {l : Launch} {s0 : State} {D : va_G} {cy : Nat → ClassId} (hE : gE s0 D cy) (hl : l.stackTraces = false) {L : List Nat} {f : gF} {co n : Nat} {PR PL : Nat → Nat} {S A : Nat → Nat → Int32} {I : Nat → Int32} (h : CX cy co n PR PL S A I L f) {i m : Nat} (hi : i < 4) (hm : A 3 i = nI m) (hm9 : m < 10) {a b : Nat} (ha : a < 4) (hb : b < 1000) : gM l s0 D yX5_addSet cX5_addSet 4 (some .int) 9 5 24 [.ref co, .int (nI i), .int (nI a), .int (nI b)] L f (fun v L1 f1 => v = some (.int (nI (m + 1))) ∧ CX cy co n PR PL S (addA A i m (nI 4) (nI a) (nI b)) I L1 f1) := (q_addSet hE hl h hi hm hm9 ha hb).ret
theorem t_addSet {l : Launch} {s0 : State} {D : va_G} {cy : Nat → ClassId} (hE : gE s0 D cy) (hl : l.stackTraces = false) {L : List Nat} {f : gF} (hN : gN9 s0) {co n : Nat} {PR PL : Nat → Nat} {S A : Nat → Nat → Int32} {I : Nat → Int32} (h : CX cy co n PR PL S A I L f) {i m : Nat} (hi : i < 4) (hm : A 3 i = nI m) (hm9 : m < 10) {a b : Nat} (ha : a < 4) (hb : b < 1000) : gH9 l s0 D yL_adds cL_adds 6 (some .int) [(0, 69, 70, 28), (0, 69, 75, 30), (0, 69, 80, 47)] 10 5 24 [.ref co, .int (nI 4), .int (nI i), .int (nI a), .int (nI b)] L f (fun v L1 f1 => v = some (.int (nI (m + 1))) ∧ CX cy co n PR PL S (addA A i m (nI 4) (nI a) (nI b)) I L1 f1) := by
  obtain ⟨fs, hco⟩ := h.co
  exact gH9.mono (kt_adds_4 hE hl hN hco (nI i) (nI a) (nI b) (q_addSet hE hl h hi hm hm9 ha hb) (fun v L1 f1 hq => ⟨_, hq.1⟩) (fun E z => z.elim)) (fun v L1 f1 hq => hq.elim id (fun z => by
    obtain ⟨-, -, E, hE, -⟩ := z
    exact hE.elim))
theorem n_addSet_I {l : Launch} {s0 : State} {D : va_G} {cy : Nat → ClassId} (hE : gE s0 D cy) (hl : l.stackTraces = false) {L : List Nat} {f : gF} {co n : Nat} {PR PL : Nat → Nat} {S A : Nat → Nat → Int32} {I : Nat → Int32} (h : CX cy co n PR PL S A I L f) {x y z : Int32} (hx : ¬ (gin x 4 ∧ gin y 4)) : gX l s0 D yX5_addSet cX5_addSet 4 (some .int) 9 5 24 [.ref co, .int (x), .int (y), .int (z)] L f (fun _ _ _ => False) (fun E => E = xI) := by
  obtain ⟨bk, X, Is, rfl, hR, hB, hC⟩ := id h
  
  exact gX.mono ((k5_addSet hE hl hR hB hC (x) (y) (z)).no (by decide) (b := 0) (A1 := A) (I1 := va_up I 27 (nI 1)) ⟨1, Or.inl ⟨rfl, hx⟩, rfl, fun z => absurd z (by decide), fun _ => rfl⟩ (w := 1) (by decide) (by decide) (va_up_self _ _ _)) (fun _ _ _ z => z) (fun E z => z)
theorem tn_addSet_I {l : Launch} {s0 : State} {D : va_G} {cy : Nat → ClassId} (hE : gE s0 D cy) (hl : l.stackTraces = false) {L : List Nat} {f : gF} (hN : gN9 s0) {co n : Nat} {PR PL : Nat → Nat} {S A : Nat → Nat → Int32} {I : Nat → Int32} (h : CX cy co n PR PL S A I L f) {x y z : Int32} (hx : ¬ (gin x 4 ∧ gin y 4)) : gH9 l s0 D yL_adds cL_adds 6 (some .int) [(0, 69, 70, 28), (0, 69, 75, 30), (0, 69, 80, 47)] 10 5 24 [.ref co, .int (nI 4), .int (x), .int (y), .int (z)] L f (fun v L1 f1 => v = some (.int (-30)) ∧ L = L1 ∧ f1 = f) := by
  obtain ⟨fs, hco⟩ := h.co
  exact gH9.mono (kt_adds_4 hE hl hN hco (x) (y) (z) (n_addSet_I hE hl h hx) (fun v L1 f1 hq => hq.elim) (fun E z => Or.inl z)) (fun v L1 f1 hq => hq.elim (fun z => z.elim) (fun z => by
    obtain ⟨e1, e2, E, hE, e3⟩ := z
    rw [hE, xcd_I] at e3
    exact ⟨e3, e1, e2⟩))
theorem n_addSet_A {l : Launch} {s0 : State} {D : va_G} {cy : Nat → ClassId} (hE : gE s0 D cy) (hl : l.stackTraces = false) {L : List Nat} {f : gF} {co n : Nat} {PR PL : Nat → Nat} {S A : Nat → Nat → Int32} {I : Nat → Int32} (h : CX cy co n PR PL S A I L f) {x y z : Int32} (hc : gin x 4 ∧ gin y 4) (hx : ¬ (gin z 1000)) : gX l s0 D yX5_addSet cX5_addSet 4 (some .int) 9 5 24 [.ref co, .int (x), .int (y), .int (z)] L f (fun _ _ _ => False) (fun E => E = xA) := by
  obtain ⟨bk, X, Is, rfl, hR, hB, hC⟩ := id h
  
  exact gX.mono ((k5_addSet hE hl hR hB hC (x) (y) (z)).no (by decide) (b := 0) (A1 := A) (I1 := va_up I 27 (nI 2)) ⟨2, Or.inr (Or.inl ⟨rfl, hc, hx⟩), rfl, fun z => absurd z (by decide), fun _ => rfl⟩ (w := 2) (by decide) (by decide) (va_up_self _ _ _)) (fun _ _ _ z => z) (fun E z => z)
theorem tn_addSet_A {l : Launch} {s0 : State} {D : va_G} {cy : Nat → ClassId} (hE : gE s0 D cy) (hl : l.stackTraces = false) {L : List Nat} {f : gF} (hN : gN9 s0) {co n : Nat} {PR PL : Nat → Nat} {S A : Nat → Nat → Int32} {I : Nat → Int32} (h : CX cy co n PR PL S A I L f) {x y z : Int32} (hc : gin x 4 ∧ gin y 4) (hx : ¬ (gin z 1000)) : gH9 l s0 D yL_adds cL_adds 6 (some .int) [(0, 69, 70, 28), (0, 69, 75, 30), (0, 69, 80, 47)] 10 5 24 [.ref co, .int (nI 4), .int (x), .int (y), .int (z)] L f (fun v L1 f1 => v = some (.int (-20)) ∧ L = L1 ∧ f1 = f) := by
  obtain ⟨fs, hco⟩ := h.co
  exact gH9.mono (kt_adds_4 hE hl hN hco (x) (y) (z) (n_addSet_A hE hl h hc hx) (fun v L1 f1 hq => hq.elim) (fun E z => Or.inr (Or.inl z))) (fun v L1 f1 hq => hq.elim (fun z => z.elim) (fun z => by
    obtain ⟨e1, e2, E, hE, e3⟩ := z
    rw [hE, xcd_A] at e3
    exact ⟨e3, e1, e2⟩))
theorem n_addSet_S {l : Launch} {s0 : State} {D : va_G} {cy : Nat → ClassId} (hE : gE s0 D cy) (hl : l.stackTraces = false) {L : List Nat} {f : gF} {co n : Nat} {PR PL : Nat → Nat} {S A : Nat → Nat → Int32} {I : Nat → Int32} (h : CX cy co n PR PL S A I L f) {x y z : Int32} (hc : gin x 4 ∧ gin y 4) (hd : gin z 1000) (hx : ¬ notFull A x) : gX l s0 D yX5_addSet cX5_addSet 4 (some .int) 9 5 24 [.ref co, .int (x), .int (y), .int (z)] L f (fun _ _ _ => False) (fun E => E = xS) := by
  obtain ⟨bk, X, Is, rfl, hR, hB, hC⟩ := id h
  
  exact gX.mono ((k5_addSet hE hl hR hB hC (x) (y) (z)).no (by decide) (b := 0) (A1 := A) (I1 := va_up I 27 (nI 3)) ⟨3, Or.inr (Or.inr (Or.inl ⟨rfl, hc, hd, hx⟩)), rfl, fun z => absurd z (by decide), fun _ => rfl⟩ (w := 3) (by decide) (by decide) (va_up_self _ _ _)) (fun _ _ _ z => z) (fun E z => z)
theorem tn_addSet_S {l : Launch} {s0 : State} {D : va_G} {cy : Nat → ClassId} (hE : gE s0 D cy) (hl : l.stackTraces = false) {L : List Nat} {f : gF} (hN : gN9 s0) {co n : Nat} {PR PL : Nat → Nat} {S A : Nat → Nat → Int32} {I : Nat → Int32} (h : CX cy co n PR PL S A I L f) {x y z : Int32} (hc : gin x 4 ∧ gin y 4) (hd : gin z 1000) (hx : ¬ notFull A x) : gH9 l s0 D yL_adds cL_adds 6 (some .int) [(0, 69, 70, 28), (0, 69, 75, 30), (0, 69, 80, 47)] 10 5 24 [.ref co, .int (nI 4), .int (x), .int (y), .int (z)] L f (fun v L1 f1 => v = some (.int (-10)) ∧ L = L1 ∧ f1 = f) := by
  obtain ⟨fs, hco⟩ := h.co
  exact gH9.mono (kt_adds_4 hE hl hN hco (x) (y) (z) (n_addSet_S hE hl h hc hd hx) (fun v L1 f1 hq => hq.elim) (fun E z => Or.inr (Or.inr z))) (fun v L1 f1 hq => hq.elim (fun z => z.elim) (fun z => by
    obtain ⟨e1, e2, E, hE, e3⟩ := z
    rw [hE, xcd_S] at e3
    exact ⟨e3, e1, e2⟩))
theorem q_tag {l : Launch} {s0 : State} {D : va_G} {cy : Nat → ClassId} (hE : gE s0 D cy) (hl : l.stackTraces = false) {L : List Nat} {f : gF} {co n : Nat} {PR PL : Nat → Nat} {S A : Nat → Nat → Int32} {I : Nat → Int32} (h : CX cy co n PR PL S A I L f) {j : Nat} (hj : j < 5) (hr : resV A I ≠ -1) : gX l s0 D yX5_tag cX5_tag 4 (some .int) 8 2 12 [.ref co, .int (nI j)] L f (fun v L1 f1 => v = some (.int (A 16 j)) ∧ CX cy co n PR PL S (mU A 16 j (I 24)) I L1 f1) (fun _ => False) := by
  obtain ⟨bk, X, Is, rfl, hR, hB, hC⟩ := id h
  
  refine gX.mono ((k5_tag hE hl hR hB hC (nI j)).ok (by decide) (b := A 16 j) (A1 := (mU A 16 j (I 24))) (I1 := va_up I 27 (nI 0)) ⟨0, Or.inr (Or.inr ⟨rfl, ⟨j, hj, rfl⟩, hr⟩), rfl, fun _ => ⟨j, hj, rfl, rfl, rfl⟩, fun z => absurd rfl z⟩ (va_up_self _ _ _)) (fun v L1 f1 hq => ⟨hq.1.trans ?_, (h.wr hq.2 (va_up_ne _ _ (by decide)) (fun k j h1 h2 => by exact mU_k (by omega))).cg (fun _ _ _ => rfl) (fun k hk => (i27 k hk).symm)⟩) (fun _ z => z)
  rfl
theorem d_tag {l : Launch} {s0 : State} {D : va_G} {cy : Nat → ClassId} (hE : gE s0 D cy) (hl : l.stackTraces = false) {L : List Nat} {f : gF} {co n : Nat} {PR PL : Nat → Nat} {S A : Nat → Nat → Int32} {I : Nat → Int32} (h : CX cy co n PR PL S A I L f) {j : Nat} (hj : j < 5) (hr : resV A I ≠ -1) : gM l s0 D yX5_tag cX5_tag 4 (some .int) 8 2 12 [.ref co, .int (nI j)] L f (fun v L1 f1 => v = some (.int (A 16 j)) ∧ CX cy co n PR PL S (mU A 16 j (I 24)) I L1 f1) := (q_tag hE hl h hj hr).ret
theorem t_tag {l : Launch} {s0 : State} {D : va_G} {cy : Nat → ClassId} (hE : gE s0 D cy) (hl : l.stackTraces = false) {L : List Nat} {f : gF} (hN : gN9 s0) {co n : Nat} {PR PL : Nat → Nat} {S A : Nat → Nat → Int32} {I : Nat → Int32} (h : CX cy co n PR PL S A I L f) {j : Nat} (hj : j < 5) (hr : resV A I ≠ -1) (p1 : Int32) : gH9 l s0 D yL_tags cL_tags 5 (some .int) [(0, 58, 59, 28), (0, 58, 64, 47)] 9 2 12 [.ref co, .int (nI 0), .int (nI j), .int (p1)] L f (fun v L1 f1 => v = some (.int (A 16 j)) ∧ CX cy co n PR PL S (mU A 16 j (I 24)) I L1 f1) := by
  obtain ⟨fs, hco⟩ := h.co
  exact gH9.mono (kt_tags_0 hE hl hN hco (nI j) p1 (q_tag hE hl h hj hr) (fun v L1 f1 hq => ⟨_, hq.1⟩) (fun E z => z.elim)) (fun v L1 f1 hq => hq.elim id (fun z => by
    obtain ⟨-, -, E, hE, -⟩ := z
    exact hE.elim))
theorem n_tag_I {l : Launch} {s0 : State} {D : va_G} {cy : Nat → ClassId} (hE : gE s0 D cy) (hl : l.stackTraces = false) {L : List Nat} {f : gF} {co n : Nat} {PR PL : Nat → Nat} {S A : Nat → Nat → Int32} {I : Nat → Int32} (h : CX cy co n PR PL S A I L f) {x : Int32} (hx : ¬ gin x 5) : gX l s0 D yX5_tag cX5_tag 4 (some .int) 8 2 12 [.ref co, .int (x)] L f (fun _ _ _ => False) (fun E => E = xI) := by
  obtain ⟨bk, X, Is, rfl, hR, hB, hC⟩ := id h
  
  exact gX.mono ((k5_tag hE hl hR hB hC (x)).no (by decide) (b := 0) (A1 := A) (I1 := va_up I 27 (nI 1)) ⟨1, Or.inl ⟨rfl, hx⟩, rfl, fun z => absurd z (by decide), fun _ => rfl⟩ (w := 1) (by decide) (by decide) (va_up_self _ _ _)) (fun _ _ _ z => z) (fun E z => z)
theorem tn_tag_I {l : Launch} {s0 : State} {D : va_G} {cy : Nat → ClassId} (hE : gE s0 D cy) (hl : l.stackTraces = false) {L : List Nat} {f : gF} (hN : gN9 s0) {co n : Nat} {PR PL : Nat → Nat} {S A : Nat → Nat → Int32} {I : Nat → Int32} (h : CX cy co n PR PL S A I L f) {x : Int32} (hx : ¬ gin x 5) (p1 : Int32) : gH9 l s0 D yL_tags cL_tags 5 (some .int) [(0, 58, 59, 28), (0, 58, 64, 47)] 9 2 12 [.ref co, .int (nI 0), .int (x), .int (p1)] L f (fun v L1 f1 => v = some (.int (-30)) ∧ L = L1 ∧ f1 = f) := by
  obtain ⟨fs, hco⟩ := h.co
  exact gH9.mono (kt_tags_0 hE hl hN hco (x) p1 (n_tag_I hE hl h hx) (fun v L1 f1 hq => hq.elim) (fun E z => Or.inl z)) (fun v L1 f1 hq => hq.elim (fun z => z.elim) (fun z => by
    obtain ⟨e1, e2, E, hE, e3⟩ := z
    rw [hE, xcd_I] at e3
    exact ⟨e3, e1, e2⟩))
theorem n_tag_S {l : Launch} {s0 : State} {D : va_G} {cy : Nat → ClassId} (hE : gE s0 D cy) (hl : l.stackTraces = false) {L : List Nat} {f : gF} {co n : Nat} {PR PL : Nat → Nat} {S A : Nat → Nat → Int32} {I : Nat → Int32} (h : CX cy co n PR PL S A I L f) {x : Int32} (hc : gin x 5) (hx : ¬ (resV A I ≠ -1)) : gX l s0 D yX5_tag cX5_tag 4 (some .int) 8 2 12 [.ref co, .int (x)] L f (fun _ _ _ => False) (fun E => E = xS) := by
  obtain ⟨bk, X, Is, rfl, hR, hB, hC⟩ := id h
  
  exact gX.mono ((k5_tag hE hl hR hB hC (x)).no (by decide) (b := 0) (A1 := A) (I1 := va_up I 27 (nI 2)) ⟨2, Or.inr (Or.inl ⟨rfl, hc, hx⟩), rfl, fun z => absurd z (by decide), fun _ => rfl⟩ (w := 2) (by decide) (by decide) (va_up_self _ _ _)) (fun _ _ _ z => z) (fun E z => z)
theorem tn_tag_S {l : Launch} {s0 : State} {D : va_G} {cy : Nat → ClassId} (hE : gE s0 D cy) (hl : l.stackTraces = false) {L : List Nat} {f : gF} (hN : gN9 s0) {co n : Nat} {PR PL : Nat → Nat} {S A : Nat → Nat → Int32} {I : Nat → Int32} (h : CX cy co n PR PL S A I L f) {x : Int32} (hc : gin x 5) (hx : ¬ (resV A I ≠ -1)) (p1 : Int32) : gH9 l s0 D yL_tags cL_tags 5 (some .int) [(0, 58, 59, 28), (0, 58, 64, 47)] 9 2 12 [.ref co, .int (nI 0), .int (x), .int (p1)] L f (fun v L1 f1 => v = some (.int (-10)) ∧ L = L1 ∧ f1 = f) := by
  obtain ⟨fs, hco⟩ := h.co
  exact gH9.mono (kt_tags_0 hE hl hN hco (x) p1 (n_tag_S hE hl h hc hx) (fun v L1 f1 hq => hq.elim) (fun E z => Or.inr z)) (fun v L1 f1 hq => hq.elim (fun z => z.elim) (fun z => by
    obtain ⟨e1, e2, E, hE, e3⟩ := z
    rw [hE, xcd_S] at e3
    exact ⟨e3, e1, e2⟩))
theorem q_untag {l : Launch} {s0 : State} {D : va_G} {cy : Nat → ClassId} (hE : gE s0 D cy) (hl : l.stackTraces = false) {L : List Nat} {f : gF} {co n : Nat} {PR PL : Nat → Nat} {S A : Nat → Nat → Int32} {I : Nat → Int32} (h : CX cy co n PR PL S A I L f) {j : Nat} (hj : j < 5) : gX l s0 D yX5_untag cX5_untag 3 (some .int) 8 2 12 [.ref co, .int (nI j)] L f (fun v L1 f1 => v = some (.int (A 16 j)) ∧ CX cy co n PR PL S (mU A 16 j (-1)) I L1 f1) (fun _ => False) := by
  obtain ⟨bk, X, Is, rfl, hR, hB, hC⟩ := id h
  
  refine gX.mono ((k5_untag hE hl hR hB hC (nI j)).ok (by decide) (b := A 16 j) (A1 := (mU A 16 j (-1))) (I1 := va_up I 27 (nI 0)) ⟨0, Or.inr ⟨rfl, j, hj, rfl⟩, rfl, fun _ => ⟨j, hj, rfl, rfl, rfl⟩, fun z => absurd rfl z⟩ (va_up_self _ _ _)) (fun v L1 f1 hq => ⟨hq.1.trans ?_, (h.wr hq.2 (va_up_ne _ _ (by decide)) (fun k j h1 h2 => by exact mU_k (by omega))).cg (fun _ _ _ => rfl) (fun k hk => (i27 k hk).symm)⟩) (fun _ z => z)
  rfl
theorem d_untag {l : Launch} {s0 : State} {D : va_G} {cy : Nat → ClassId} (hE : gE s0 D cy) (hl : l.stackTraces = false) {L : List Nat} {f : gF} {co n : Nat} {PR PL : Nat → Nat} {S A : Nat → Nat → Int32} {I : Nat → Int32} (h : CX cy co n PR PL S A I L f) {j : Nat} (hj : j < 5) : gM l s0 D yX5_untag cX5_untag 3 (some .int) 8 2 12 [.ref co, .int (nI j)] L f (fun v L1 f1 => v = some (.int (A 16 j)) ∧ CX cy co n PR PL S (mU A 16 j (-1)) I L1 f1) := (q_untag hE hl h hj).ret
theorem t_untag {l : Launch} {s0 : State} {D : va_G} {cy : Nat → ClassId} (hE : gE s0 D cy) (hl : l.stackTraces = false) {L : List Nat} {f : gF} (hN : gN9 s0) {co n : Nat} {PR PL : Nat → Nat} {S A : Nat → Nat → Int32} {I : Nat → Int32} (h : CX cy co n PR PL S A I L f) {j : Nat} (hj : j < 5) (p1 : Int32) : gH9 l s0 D yL_tags cL_tags 5 (some .int) [(0, 58, 59, 28), (0, 58, 64, 47)] 9 2 12 [.ref co, .int (nI 1), .int (nI j), .int (p1)] L f (fun v L1 f1 => v = some (.int (A 16 j)) ∧ CX cy co n PR PL S (mU A 16 j (-1)) I L1 f1) := by
  obtain ⟨fs, hco⟩ := h.co
  exact gH9.mono (kt_tags_1 hE hl hN hco (nI j) p1 (q_untag hE hl h hj) (fun v L1 f1 hq => ⟨_, hq.1⟩) (fun E z => z.elim)) (fun v L1 f1 hq => hq.elim id (fun z => by
    obtain ⟨-, -, E, hE, -⟩ := z
    exact hE.elim))
theorem n_start_I {l : Launch} {s0 : State} {D : va_G} {cy : Nat → ClassId} (hE : gE s0 D cy) (hl : l.stackTraces = false) {L : List Nat} {f : gF} {co n : Nat} {PR PL : Nat → Nat} {S A : Nat → Nat → Int32} {I : Nat → Int32} (h : CX cy co n PR PL S A I L f) {x : Int32} (hx : ¬ gin x 4) : gX l s0 D yX5_start cX5_start 4 (some .int) 8 7 54 [.ref co, .int (x)] L f (fun _ _ _ => False) (fun E => E = xI) := by
  obtain ⟨bk, X, Is, rfl, hR, hB, hC⟩ := id h
  
  exact gX.mono ((start_c hE hl hR hB hC (x)).no (by decide) (b := 0) (A1 := A) (I1 := va_up I 27 (nI 1)) ⟨1, Or.inl ⟨rfl, hx⟩, fun _ => ⟨rfl, rfl⟩, fun z => absurd z (by decide)⟩ (w := 1) (by decide) (by decide) (va_up_self _ _ _)) (fun _ _ _ z => z) (fun E z => z)
theorem tn_start_I {l : Launch} {s0 : State} {D : va_G} {cy : Nat → ClassId} (hE : gE s0 D cy) (hl : l.stackTraces = false) {L : List Nat} {f : gF} (hN : gN9 s0) {co n : Nat} {PR PL : Nat → Nat} {S A : Nat → Nat → Int32} {I : Nat → Int32} (h : CX cy co n PR PL S A I L f) {x : Int32} (hx : ¬ gin x 4) : gH9 l s0 D yL_builds cL_builds 4 (some .int) [(0, 54, 55, 28), (0, 54, 59, 47)] 9 7 54 [.ref co, .int (nI 0), .int (x)] L f (fun v L1 f1 => v = some (.int (-30)) ∧ L = L1 ∧ f1 = f) := by
  obtain ⟨fs, hco⟩ := h.co
  exact gH9.mono (kt_builds_0 hE hl hN hco (x) (n_start_I hE hl h hx) (fun v L1 f1 hq => hq.elim) (fun E z => Or.inl z)) (fun v L1 f1 hq => hq.elim (fun z => z.elim) (fun z => by
    obtain ⟨e1, e2, E, hE, e3⟩ := z
    rw [hE, xcd_I] at e3
    exact ⟨e3, e1, e2⟩))
theorem n_start_S {l : Launch} {s0 : State} {D : va_G} {cy : Nat → ClassId} (hE : gE s0 D cy) (hl : l.stackTraces = false) {L : List Nat} {f : gF} {co n : Nat} {PR PL : Nat → Nat} {S A : Nat → Nat → Int32} {I : Nat → Int32} (h : CX cy co n PR PL S A I L f) {x : Int32} (hc : gin x 4) (hx : ¬ (I 17 = 0 ∧ n < 400)) : gX l s0 D yX5_start cX5_start 4 (some .int) 8 7 54 [.ref co, .int (x)] L f (fun _ _ _ => False) (fun E => E = xS) := by
  obtain ⟨bk, X, Is, rfl, hR, hB, hC⟩ := id h
  
  exact gX.mono ((start_c hE hl hR hB hC (x)).no (by decide) (b := 0) (A1 := A) (I1 := va_up I 27 (nI 2)) ⟨2, Or.inr (Or.inl ⟨rfl, hc, hx⟩), fun _ => ⟨rfl, rfl⟩, fun z => absurd z (by decide)⟩ (w := 2) (by decide) (by decide) (va_up_self _ _ _)) (fun _ _ _ z => z) (fun E z => z)
theorem tn_start_S {l : Launch} {s0 : State} {D : va_G} {cy : Nat → ClassId} (hE : gE s0 D cy) (hl : l.stackTraces = false) {L : List Nat} {f : gF} (hN : gN9 s0) {co n : Nat} {PR PL : Nat → Nat} {S A : Nat → Nat → Int32} {I : Nat → Int32} (h : CX cy co n PR PL S A I L f) {x : Int32} (hc : gin x 4) (hx : ¬ (I 17 = 0 ∧ n < 400)) : gH9 l s0 D yL_builds cL_builds 4 (some .int) [(0, 54, 55, 28), (0, 54, 59, 47)] 9 7 54 [.ref co, .int (nI 0), .int (x)] L f (fun v L1 f1 => v = some (.int (-10)) ∧ L = L1 ∧ f1 = f) := by
  obtain ⟨fs, hco⟩ := h.co
  exact gH9.mono (kt_builds_0 hE hl hN hco (x) (n_start_S hE hl h hc hx) (fun v L1 f1 hq => hq.elim) (fun E z => Or.inr z)) (fun v L1 f1 hq => hq.elim (fun z => z.elim) (fun z => by
    obtain ⟨e1, e2, E, hE, e3⟩ := z
    rw [hE, xcd_S] at e3
    exact ⟨e3, e1, e2⟩))
theorem n_build_S {l : Launch} {s0 : State} {D : va_G} {cy : Nat → ClassId} (hE : gE s0 D cy) (hl : l.stackTraces = false) {L : List Nat} {f : gF} {co n : Nat} {PR PL : Nat → Nat} {S A : Nat → Nat → Int32} {I : Nat → Int32} (h : CX cy co n PR PL S A I L f) {x : Int32} (hc : gin x 4) (hx : ¬ (I 17 = 0 ∧ n < 400)) : gX l s0 D yX5_build cX5_build 3 (some .int) 9 57 474 [.ref co, .int (x)] L f (fun _ _ _ => False) (fun E => E = xS) := by
  obtain ⟨bk, X, Is, rfl, hR, hB, hC⟩ := id h
  
  exact gX.mono ((k5_build hE hl hR hB hC (x)).no (by decide) (b := 0) (A1 := A) (I1 := va_up I 27 (nI 2)) ⟨2, Or.inr (Or.inl ⟨rfl, hc, hx⟩), fun _ => ⟨rfl, rfl⟩, fun z => absurd z (by decide)⟩ (w := 2) (by decide) (by decide) (va_up_self _ _ _)) (fun _ _ _ z => z) (fun E z => z)
theorem tn_build_S {l : Launch} {s0 : State} {D : va_G} {cy : Nat → ClassId} (hE : gE s0 D cy) (hl : l.stackTraces = false) {L : List Nat} {f : gF} (hN : gN9 s0) {co n : Nat} {PR PL : Nat → Nat} {S A : Nat → Nat → Int32} {I : Nat → Int32} (h : CX cy co n PR PL S A I L f) {x : Int32} (hc : gin x 4) (hx : ¬ (I 17 = 0 ∧ n < 400)) : gH9 l s0 D yL_builds cL_builds 4 (some .int) [(0, 54, 55, 28), (0, 54, 59, 47)] 10 57 474 [.ref co, .int (nI 2), .int (x)] L f (fun v L1 f1 => v = some (.int (-10)) ∧ L = L1 ∧ f1 = f) := by
  obtain ⟨fs, hco⟩ := h.co
  exact gH9.mono (kt_builds_2 hE hl hN hco (x) (n_build_S hE hl h hc hx) (fun v L1 f1 hq => hq.elim) (fun E z => Or.inr z)) (fun v L1 f1 hq => hq.elim (fun z => z.elim) (fun z => by
    obtain ⟨e1, e2, E, hE, e3⟩ := z
    rw [hE, xcd_S] at e3
    exact ⟨e3, e1, e2⟩))
theorem n_cleanDigest {l : Launch} {s0 : State} {D : va_G} {cy : Nat → ClassId} (hE : gE s0 D cy) (hl : l.stackTraces = false) {L : List Nat} {f : gF} {co n : Nat} {PR PL : Nat → Nat} {S A : Nat → Nat → Int32} {I : Nat → Int32} (h : CX cy co n PR PL S A I L f) {x : Int32} (hx : ¬ gin x 4) : gX l s0 D yX5_cleanDigest cX5_cleanDigest 7 (some .int) 8 5 42 [.ref co, .int (x)] L f (fun _ _ _ => False) (fun E => E = xI) := by
  obtain ⟨bk, X, Is, rfl, hR, hB, hC⟩ := id h
  
  exact gX.mono ((k5_cleanDigest hE hl hR hB hC (x)).no (by decide) (b := 0) (A1 := A) (I1 := va_up I 27 (nI 1)) ⟨1, Or.inl ⟨rfl, hx⟩, rfl, fun z => absurd z (by decide), fun _ => rfl⟩ (w := 1) (by decide) (by decide) (va_up_self _ _ _)) (fun _ _ _ z => z) (fun E z => z)
theorem tn_cleanDigest {l : Launch} {s0 : State} {D : va_G} {cy : Nat → ClassId} (hE : gE s0 D cy) (hl : l.stackTraces = false) {L : List Nat} {f : gF} (hN : gN9 s0) {co n : Nat} {PR PL : Nat → Nat} {S A : Nat → Nat → Int32} {I : Nat → Int32} (h : CX cy co n PR PL S A I L f) {x : Int32} (hx : ¬ gin x 4) : gH9 l s0 D yL_builds cL_builds 4 (some .int) [(0, 54, 55, 28), (0, 54, 59, 47)] 9 5 42 [.ref co, .int (nI 3), .int (x)] L f (fun v L1 f1 => v = some (.int (-30)) ∧ L = L1 ∧ f1 = f) := by
  obtain ⟨fs, hco⟩ := h.co
  exact gH9.mono (kt_builds_3 hE hl hN hco (x) (n_cleanDigest hE hl h hx) (fun v L1 f1 hq => hq.elim) (fun E z => Or.inl z)) (fun v L1 f1 hq => hq.elim (fun z => z.elim) (fun z => by
    obtain ⟨e1, e2, E, hE, e3⟩ := z
    rw [hE, xcd_I] at e3
    exact ⟨e3, e1, e2⟩))

/-! ===== numbers, cuts and loops ===== -/
theorem gn_mul (a b : Nat) : nI a * nI b = nI (a * b) := (Int32.ofNat_mul a b).symm
theorem gn_sub {a b : Nat} (h : b ≤ a) : nI a - nI b = nI (a - b) := by
  have h1 : nI (a - b) + nI b = nI a := by rw [nI_add, Nat.sub_add_cancel h]
  rw [← h1]
  exact Int32.add_sub_cancel _ _
theorem gn_lt (a b : Int32) : a < b ↔ a.toInt < b.toInt := Int32.lt_iff_toInt_lt
theorem gn_le (a b : Int32) : a ≤ b ↔ a.toInt ≤ b.toInt := Int32.le_iff_toInt_le
theorem gn_eq (a b : Int32) : a = b ↔ a.toInt = b.toInt := Int32.toInt_inj.symm
/-- an index in range -/
def gin (x : Int32) (N : Nat) : Prop := ∃ j, j < N ∧ x = nI j
theorem gin_iff {x : Int32} {N : Nat} (hN : N < 2 ^ 31) : (0 ≤ x ∧ x < nI N) ↔ gin x N := by
  have e0 : (0 : Int32).toInt = 0 := by decide
  rw [gn_le, gn_lt, nI_toInt hN, e0]
  constructor
  · intro h
    exact vp_in_of (vp_in_iff.mpr h) hN
  · rintro ⟨j, hj, rfl⟩
    rw [nI_toInt (Nat.lt_trans hj hN)]
    omega
/-- contents that may be written -/
def gct (x : Int32) : Prop := x = -1 ∨ gin x 10000
theorem gct_iff {x : Int32} : (-1 ≤ x ∧ x ≤ nI 9999) ↔ gct x := by
  have e0 : (-1 : Int32).toInt = -1 := by decide
  have e9 : (nI 9999).toInt = 9999 := by decide
  rw [gn_le, gn_le, e0, e9]
  constructor
  · intro h
    by_cases h1 : x.toInt = -1
    · exact Or.inl ((gn_eq _ _).mpr (h1.trans e0.symm))
    · refine Or.inr ((gin_iff (by decide)).mp ?_)
      have e1 : (0 : Int32).toInt = 0 := by decide
      have e2 : (nI 10000).toInt = 10000 := by decide
      rw [gn_le, gn_lt, e1, e2]
      omega
  · rintro (rfl | ⟨j, hj, rfl⟩)
    · rw [e0]; omega
    · rw [nI_toInt (by omega)]; omega
theorem gn_inj {a b : Nat} (ha : a < 2 ^ 31) (hb : b < 2 ^ 31) (h : nI a = nI b) : a = b := (nI_eq ha hb).mp h
theorem gn_ne1 {a : Nat} (ha : a < 2 ^ 31) : nI a ≠ -1 := by
  intro h
  rw [gn_eq, nI_toInt ha] at h
  have e0 : (-1 : Int32).toInt = -1 := by decide
  rw [e0] at h
  omega
theorem gn_ne2 {a : Nat} (ha : a < 2 ^ 31) : nI a ≠ -2 := by
  intro h
  rw [gn_eq, nI_toInt ha] at h
  have e0 : (-2 : Int32).toInt = -2 := by decide
  rw [e0] at h
  omega
section GNUM
variable {p : Program} {l : Launch} {e : Env} {R : Room} {s : State} {m : MethodId} {args : Array Value} {below : List Frame} {meth : Method} {c : Code} {Q : State → Prop}
variable {s0 : State} {D : va_G} {cy : Nat → ClassId} {L0 : List Nat} {nL : Nat} {cc : ByteArray} {own : String} {L : List Nat} {f : gF} {ce sl pc n : Nat} {ls : List (Option Value)} {st : List Value}
theorem g_iaddN (C : gC p l e R s m args below meth c s0 D cy L0 cc nL own) {x y : Nat} (d : decode cc pc = .ok (.iadd, 1)) (hn : pc + 1 = n) (kk : G p l e R s m args below meth c Q D L0 nL L f ce sl n ls (.int (nI (x + y)) :: st)) : G p l e R s m args below meth c Q D L0 nL L f ce sl pc ls (.int (nI y) :: .int (nI x) :: st) := g_iadd C d hn (by rw [nI_add]; exact kk)
theorem g_imulN (C : gC p l e R s m args below meth c s0 D cy L0 cc nL own) {x y : Nat} (d : decode cc pc = .ok (.imul, 1)) (hn : pc + 1 = n) (kk : G p l e R s m args below meth c Q D L0 nL L f ce sl n ls (.int (nI (x * y)) :: st)) : G p l e R s m args below meth c Q D L0 nL L f ce sl pc ls (.int (nI y) :: .int (nI x) :: st) := g_imul C d hn (by rw [gn_mul]; exact kk)
theorem g_isubN (C : gC p l e R s m args below meth c s0 D cy L0 cc nL own) {x y : Nat} (d : decode cc pc = .ok (.isub, 1)) (hle : y ≤ x) (hn : pc + 1 = n) (kk : G p l e R s m args below meth c Q D L0 nL L f ce sl n ls (.int (nI (x - y)) :: st)) : G p l e R s m args below meth c Q D L0 nL L f ce sl pc ls (.int (nI y) :: .int (nI x) :: st) := g_isub C d hn (by rw [gn_sub hle]; exact kk)
theorem g_cut {α : Type} (P : α → Prop) (L1 : α → List Nat) (f1 : α → gF) (ce1 sl1 : α → Nat) (pc1 : Nat) (ls1 : α → List (Option Value)) (st1 : α → List Value) (kk : (∀ w, P w → G p l e R s m args below meth c Q D L0 nL (L1 w) (f1 w) (ce1 w) (sl1 w) pc1 (ls1 w) (st1 w)) → G p l e R s m args below meth c Q D L0 nL L f ce sl pc ls (st)) (J : ∀ w, P w → G p l e R s m args below meth c Q D L0 nL (L1 w) (f1 w) (ce1 w) (sl1 w) pc1 (ls1 w) (st1 w)) : G p l e R s m args below meth c Q D L0 nL L f ce sl pc ls (st) := kk J
theorem g_loop {α : Type} (P : α → Prop) (μ : α → Nat) (L1 : α → List Nat) (f1 : α → gF) (ce1 sl1 : α → Nat) (pc1 : Nat) (ls1 : α → List (Option Value)) (st1 : α → List Value)
    (step : ∀ w, P w → (∀ w', P w' → μ w' < μ w → G p l e R s m args below meth c Q D L0 nL (L1 w') (f1 w') (ce1 w') (sl1 w') pc1 (ls1 w') (st1 w')) → G p l e R s m args below meth c Q D L0 nL (L1 w) (f1 w) (ce1 w) (sl1 w) pc1 (ls1 w) (st1 w))
    (kk : (∀ w, P w → G p l e R s m args below meth c Q D L0 nL (L1 w) (f1 w) (ce1 w) (sl1 w) pc1 (ls1 w) (st1 w)) → G p l e R s m args below meth c Q D L0 nL L f ce sl pc ls (st)) : G p l e R s m args below meth c Q D L0 nL L f ce sl pc ls (st) := by
  refine kk ?_
  have h : ∀ (k : Nat) (w : α), μ w < k → P w → G p l e R s m args below meth c Q D L0 nL (L1 w) (f1 w) (ce1 w) (sl1 w) pc1 (ls1 w) (st1 w) := by
    intro k
    induction k with
    | zero => intro w hw; omega
    | succ k ih => exact fun w hw hP => step w hP (fun w' hP' hlt => ih w' (by omega) hP')
  exact fun w hP => h (μ w + 1) w (by omega) hP
end GNUM

/-! ===== the reference: its object and its arrays, by the places of the fields ===== -/
def mLen : Nat → Nat
  | 0 => 8
  | 1 => 36
  | 2 => 4
  | 3 => 4
  | 4 => 40
  | 5 => 40
  | 6 => 40
  | 8 => 420
  | 9 => 420
  | 10 => 5040
  | 11 => 1680
  | 12 => 420
  | 13 => 420
  | 14 => 420
  | 15 => 420
  | 16 => 5
  | 21 => 10
  | 22 => 10
  | 23 => 10
  | 28 => 12
  | 29 => 4
  | 30 => 16
  | 31 => 420
  | _ => 0
def mArr : Nat → Bool
  | 0 => true
  | 1 => true
  | 2 => true
  | 3 => true
  | 4 => true
  | 5 => true
  | 6 => true
  | 8 => true
  | 9 => true
  | 10 => true
  | 11 => true
  | 12 => true
  | 13 => true
  | 14 => true
  | 15 => true
  | 16 => true
  | 21 => true
  | 22 => true
  | 23 => true
  | 28 => true
  | 29 => true
  | 30 => true
  | 31 => true
  | _ => false
def mT : Nat → Nat
  | 8 => 1
  | 31 => 1
  | _ => 0
def mF (ad : Nat → Nat) (I : Nat → Int32) : List Value := [.ref (ad 0), .ref (ad 1), .ref (ad 2), .ref (ad 3), .ref (ad 4), .ref (ad 5), .ref (ad 6), .int (I 7), .ref (ad 8), .ref (ad 9), .ref (ad 10), .ref (ad 11), .ref (ad 12), .ref (ad 13), .ref (ad 14), .ref (ad 15), .ref (ad 16), .int (I 17), .int (I 18), .int (I 19), .int (I 20), .ref (ad 21), .ref (ad 22), .ref (ad 23), .int (I 24), .int (I 25), .int (I 26), .int (I 27), .ref (ad 28), .ref (ad 29), .ref (ad 30), .ref (ad 31)]
/-- array k holds A k, the number field k holds I k -/
def IsM (cy : Nat → ClassId) (mo : Nat) (ad : Nat → Nat) (A : Nat → Nat → Int32) (I : Nat → Int32) (L : List Nat) (f : gF) : Prop :=
  gH L f mo (.inr (6, mF ad I)) ∧ (∀ k, mArr k = true → gH L f (ad k) (.inl (cy (mT k), mLen k, .inl (A k)))) ∧ ∀ j k, mArr j = true → mArr k = true → ad j = ad k → j = k
def mU (A : Nat → Nat → Int32) (k j : Nat) (x : Int32) : Nat → Nat → Int32 := fun k1 j1 => if k1 = k ∧ j1 = j then x else A k1 j1
theorem mU_s {A : Nat → Nat → Int32} {k j : Nat} {x : Int32} : mU A k j x k j = x := by simp [mU]
theorem mU_k {A : Nat → Nat → Int32} {k j k1 j1 : Nat} {x : Int32} (h : k1 ≠ k) : mU A k j x k1 j1 = A k1 j1 := by simp [mU, h]
theorem mU_j {A : Nat → Nat → Int32} {k j k1 j1 : Nat} {x : Int32} (h : j1 ≠ j) : mU A k j x k1 j1 = A k1 j1 := by simp [mU, h]
theorem IsM.neo {cy : Nat → ClassId} {mo : Nat} {ad : Nat → Nat} {A : Nat → Nat → Int32} {I : Nat → Int32} {L : List Nat} {f : gF} (h : IsM cy mo ad A I L f) {k : Nat} (hk : mArr k = true) : ad k ≠ mo := gH.apart (h.2.1 k hk) h.1 (fun e => by cases e)
theorem IsM.arr {cy : Nat → ClassId} {mo : Nat} {ad : Nat → Nat} {A : Nat → Nat → Int32} {I : Nat → Int32} {L : List Nat} {f : gF} (h : IsM cy mo ad A I L f) {k j : Nat} {x : Int32} (hk : mArr k = true) : IsM cy mo ad (mU A k j x) I L (va_up f (ad k) (.inl (cy (mT k), mLen k, .inl (upd (A k) j x)))) := by
  refine ⟨h.1.ne (h.neo hk).symm, fun k1 h1 => ?_, h.2.2⟩
  by_cases e : k1 = k
  · subst e
    have e2 : mU A k1 j x k1 = upd (A k1) j x := by
      funext j1
      simp [mU, upd]
    rw [e2]
    exact (h.2.1 k1 h1).up
  · have e2 : mU A k j x k1 = A k1 := by
      funext j1
      simp [mU, e]
    rw [e2]
    exact (h.2.1 k1 h1).ne (fun q => e (h.2.2 k1 k h1 hk q))
theorem IsM.int {cy : Nat → ClassId} {mo : Nat} {ad : Nat → Nat} {A : Nat → Nat → Int32} {I : Nat → Int32} {L : List Nat} {f : gF} (h : IsM cy mo ad A I L f) {k : Nat} {x : Int32} (hs : (mF ad I).set k (.int x) = mF ad (va_up I k x)) : IsM cy mo ad A (va_up I k x) L (va_up f mo (.inr (6, (mF ad I).set k (.int x)))) := by
  refine ⟨?_, fun k1 h1 => (h.2.1 k1 h1).ne (h.neo h1), h.2.2⟩
  rw [hs]
  exact h.1.up
def bI (P : Prop) [Decidable P] : Int32 := if P then 1 else 0
theorem bI_t {P : Prop} [Decidable P] (h : P) : bI P = 1 := if_pos h
theorem bI_f {P : Prop} [Decidable P] (h : ¬ P) : bI P = 0 := if_neg h
theorem bI_0 {P : Prop} [Decidable P] : bI P = 0 ↔ ¬ P := by
  unfold bI
  by_cases h : P
  · simp [h]
  · simp [h]
theorem bI_n {P : Prop} [Decidable P] : narrow .boolean (.int (bI P)) = .int (bI P) := by
  unfold bI
  by_cases h : P
  · rw [if_pos h]; rfl
  · rw [if_neg h]; rfl
section GMOD
variable {p : Program} {l : Launch} {e : Env} {R : Room} {s : State} {m : MethodId} {args : Array Value} {below : List Frame} {meth : Method} {c : Code} {Q : State → Prop}
variable {s0 : State} {D : va_G} {cy : Nat → ClassId} {L0 : List Nat} {nL : Nat} {cc : ByteArray} {own : String} {L : List Nat} {f : gF} {ce sl pc n : Nat} {ls : List (Option Value)} {st : List Value}
variable {mo : Nat} {ad : Nat → Nat} {A : Nat → Nat → Int32} {I : Nat → Int32}

theorem m_get (C : gC p l e R s m args below meth c s0 D cy L0 cc nL own) (hM : IsM cy mo ad A I L f) {idx k : Nat} {v : Value} (d : decode cc pc = .ok (.getfield idx, 3)) (hw : gwF own idx 6 k) (hv : (mF ad I)[k]? = some v) (hn : pc + 3 = n) (kk : G p l e R s m args below meth c Q D L0 nL L f ce sl n ls (v :: st)) : G p l e R s m args below meth c Q D L0 nL L f ce sl pc ls (.ref mo :: st) := g_get C d hw hM.1 hv hn kk
theorem m_ald (C : gC p l e R s m args below meth c s0 D cy L0 cc nL own) (hM : IsM cy mo ad A I L f) {k j : Nat} {i : Int32} (d : decode cc pc = .ok (.iaload, 1)) (hk : mArr k = true) (hz : mT k = 0) (hi : i = nI j) (hj : j < mLen k) (hN : mLen k < 2 ^ 31) (hn : pc + 1 = n) (kk : G p l e R s m args below meth c Q D L0 nL L f ce sl n ls (.int (A k j) :: st)) : G p l e R s m args below meth c Q D L0 nL L f ce sl pc ls (.int i :: .ref (ad k) :: st) := by
  have h := hM.2.1 k hk
  rw [hz] at h
  exact g_iald C d h hi hj hN hn kk
theorem m_zld (C : gC p l e R s m args below meth c s0 D cy L0 cc nL own) (hM : IsM cy mo ad A I L f) {k j : Nat} {i : Int32} (d : decode cc pc = .ok (.baload, 1)) (hk : mArr k = true) (hz : mT k = 1) (hi : i = nI j) (hj : j < mLen k) (hN : mLen k < 2 ^ 31) (hn : pc + 1 = n) (kk : G p l e R s m args below meth c Q D L0 nL L f ce sl n ls (.int (A k j) :: st)) : G p l e R s m args below meth c Q D L0 nL L f ce sl pc ls (.int i :: .ref (ad k) :: st) := by
  have h := hM.2.1 k hk
  rw [hz] at h
  exact g_zald C d h hi hj hN hn kk
theorem m_ast (C : gC p l e R s m args below meth c s0 D cy L0 cc nL own) (hM : IsM cy mo ad A I L f) {k j : Nat} {i x : Int32} (d : decode cc pc = .ok (.iastore, 1)) (hk : mArr k = true) (hz : mT k = 0) (hi : i = nI j) (hj : j < mLen k) (hN : mLen k < 2 ^ 31) (hn : pc + 1 = n) (kk : ∀ f1 : gF, IsM cy mo ad (mU A k j x) I L f1 → G p l e R s m args below meth c Q D L0 nL L f1 ce sl n ls (st)) : G p l e R s m args below meth c Q D L0 nL L f ce sl pc ls (.int x :: .int i :: .ref (ad k) :: st) := by
  have h := hM.2.1 k hk
  have h2 := kk _ (hM.arr (j := j) (x := x) hk)
  rw [hz] at h h2
  exact g_iast C d h hi hj hN hn h2
theorem m_zst (C : gC p l e R s m args below meth c s0 D cy L0 cc nL own) (hM : IsM cy mo ad A I L f) {k j : Nat} {i x : Int32} (d : decode cc pc = .ok (.bastore, 1)) (hk : mArr k = true) (hz : mT k = 1) (hx : vp_nar .boolean x = x) (hi : i = nI j) (hj : j < mLen k) (hN : mLen k < 2 ^ 31) (hn : pc + 1 = n) (kk : ∀ f1 : gF, IsM cy mo ad (mU A k j x) I L f1 → G p l e R s m args below meth c Q D L0 nL L f1 ce sl n ls (st)) : G p l e R s m args below meth c Q D L0 nL L f ce sl pc ls (.int x :: .int i :: .ref (ad k) :: st) := by
  have h := hM.2.1 k hk
  have h2 := kk _ (hM.arr (j := j) (x := x) hk)
  rw [hz] at h h2
  refine g_zast C d h hi hj hN hn ?_
  rw [hx]
  exact h2
theorem m_put (C : gC p l e R s m args below meth c s0 D cy L0 cc nL own) (hM : IsM cy mo ad A I L f) {idx k : Nat} {x : Int32} {ty : FieldType} (d : decode cc pc = .ok (.putfield idx, 3)) (hw : gwP own idx 6 k false ty) (hv : narrow ty (.int x) = .int x ∧ fits ty (.int x) = true) (hl9 : k < 32) (hs : (mF ad I).set k (.int x) = mF ad (va_up I k x)) (hn : pc + 3 = n) (kk : ∀ f1 : gF, IsM cy mo ad A (va_up I k x) L f1 → G p l e R s m args below meth c Q D L0 nL L f1 ce sl n ls (st)) : G p l e R s m args below meth c Q D L0 nL L f ce sl pc ls (.int x :: .ref mo :: st) :=
  g_put C d hw hM.1 hv hl9 hn (kk _ (hM.int hs))
theorem G.top {x y : Int32} (h : x = y) (k : G p l e R s m args below meth c Q D L0 nL L f ce sl pc ls (.int y :: st)) : G p l e R s m args below meth c Q D L0 nL L f ce sl pc ls (.int x :: st) := h ▸ k
theorem G.sk {st' : List Value} (h : st = st') (k : G p l e R s m args below meth c Q D L0 nL L f ce sl pc ls (st')) : G p l e R s m args below meth c Q D L0 nL L f ce sl pc ls (st) := h ▸ k
end GMOD

def mU (A : Nat → Nat → Int32) (k j : Nat) (x : Int32) : Nat → Nat → Int32 := fun k1 j1 => if k1 = k ∧ j1 = j then x else A k1 j1
theorem mU_s {A : Nat → Nat → Int32} {k j : Nat} {x : Int32} : mU A k j x k j = x := by simp [mU]
theorem mU_k {A : Nat → Nat → Int32} {k j k1 j1 : Nat} {x : Int32} (h : k1 ≠ k) : mU A k j x k1 j1 = A k1 j1 := by simp [mU, h]
theorem mU_j {A : Nat → Nat → Int32} {k j k1 j1 : Nat} {x : Int32} (h : j1 ≠ j) : mU A k j x k1 j1 = A k1 j1 := by simp [mU, h]
def bI (P : Prop) [Decidable P] : Int32 := if P then 1 else 0
theorem bI_t {P : Prop} [Decidable P] (h : P) : bI P = 1 := if_pos h
theorem bI_f {P : Prop} [Decidable P] (h : ¬ P) : bI P = 0 := if_neg h
theorem bI_0 {P : Prop} [Decidable P] : bI P = 0 ↔ ¬ P := by
  unfold bI
  by_cases h : P
  · simp [h]
  · simp [h]
theorem bI_n {P : Prop} [Decidable P] : narrow .boolean (.int (bI P)) = .int (bI P) := by
  unfold bI
  by_cases h : P
  · rw [if_pos h]; rfl
  · rw [if_neg h]; rfl
section GMOD
variable {p : Program} {l : Launch} {e : Env} {R : Room} {s : State} {m : MethodId} {args : Array Value} {below : List Frame} {meth : Method} {c : Code} {Q : State → Prop}
variable {s0 : State} {D : va_G} {cy : Nat → ClassId} {L0 : List Nat} {nL : Nat} {cc : ByteArray} {own : String} {L : List Nat} {f : gF} {ce sl pc n : Nat} {ls : List (Option Value)} {st : List Value}
variable {mo : Nat} {ad : Nat → Nat} {A : Nat → Nat → Int32} {I : Nat → Int32}
theorem G.top {x y : Int32} (h : x = y) (k : G p l e R s m args below meth c Q D L0 nL L f ce sl pc ls (.int y :: st)) : G p l e R s m args below meth c Q D L0 nL L f ce sl pc ls (.int x :: st) := h ▸ k
theorem G.sk {st' : List Value} (h : st = st') (k : G p l e R s m args below meth c Q D L0 nL L f ce sl pc ls (st')) : G p l e R s m args below meth c Q D L0 nL L f ce sl pc ls (st) := h ▸ k
end GMOD

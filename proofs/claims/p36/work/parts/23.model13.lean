def A00 : Nat → Nat → Int32 := fun _ _ => 0
def A0 : Nat → Nat → Int32 := upR (upR (upR A00 0 0 8 (fun _ => -1)) 1 0 36 (fun _ => -1)) 16 0 5 (fun _ => -1)
def I0 : Nat → Int32 := va_up (fun _ => 0) 24 (-1)
section GGEN
variable {p : Program} {l : Launch} {e : Env} {R : Room} {s : State} {m : MethodId} {args : Array Value} {below : List Frame} {meth : Method} {c : Code} {Q : State → Prop}
variable {s0 : State} {D : va_G} {cy : Nat → ClassId} {L0 : List Nat} {nL : Nat} {cc : ByteArray} {own : String} {L : List Nat} {f : gF} {ce sl pc n : Nat} {ls : List (Option Value)} {st : List Value}
theorem G.gen (P : List Nat → gF → Prop) (h : P L f) (k : ∀ (L1 : List Nat) (f1 : gF), P L1 f1 → G p l e R s m args below meth c Q D L0 nL L1 f1 ce sl pc ls (st)) : G p l e R s m args below meth c Q D L0 nL L f ce sl pc ls (st) := k L f h
end GGEN

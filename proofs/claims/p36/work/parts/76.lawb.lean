/-! ===== the law, IV: numbers, frames, its script ===== -/
theorem gn_mod {a b : Nat} (ha : a < 2 ^ 31) (hb : b < 2 ^ 31) : nI a - nI a / nI b * nI b = nI (a % b) := by
  have h1 := Nat.div_add_mod a b
  have h2 : b * (a / b) = a / b * b := Nat.mul_comm _ _
  rw [gn_div ha hb, gn_mul, gn_sub (by omega), show a - a / b * b = a % b by omega]
theorem CX.up {cy : Nat → ClassId} {co n : Nat} {PR PL : Nat → Nat} {S A : Nat → Nat → Int32} {I : Nat → Int32} {L : List Nat} {f : gF} (h : CX cy co n PR PL S A I L f) (K : List Nat) : CX cy co n PR PL S A I (L ++ K) f := by
  obtain ⟨bk, X, Is, h1, h2, h3, h4⟩ := h
  exact ⟨bk, X, Is, h1, h2.ext (fun _ z => List.mem_append_left _ z) (fun _ _ => rfl), h3, h4⟩
theorem gM.g {l : Launch} {s0 : State} {D : va_G} {y : MethodName} {cc : ByteArray} {maxL : Nat} {ret : Option FieldType} {d mc ms : Nat} {av : List Value} {L : List Nat} {f : gF} {P : List Nat → gF → Prop} {x : Option Value} (h : gM l s0 D y cc maxL ret d mc ms av L f (fun v L1 f1 => v = x ∧ P L1 f1)) (hP : ∀ L1 f1 f2, P L1 f1 → (∀ a, a ∈ L1 → f2 a = f1 a) → P L1 f2) {ga : Nat} {e : va_E} (hg : f ga = e) : gM l s0 D y cc maxL ret d mc ms av (L ++ [ga]) f (fun v L1 f1 => v = x ∧ ∃ L2, L1 = L2 ++ [ga] ∧ ga ∉ L2 ∧ P L2 f1 ∧ f1 ga = e) := gM.mono (h.fr [ga]) (fun v L1 f1 hq => by
  obtain ⟨L2, f2, ⟨hv, hp⟩, rfl, e1, e2⟩ := hq
  exact ⟨hv, L2, rfl, fun z => (e1 ga z).2 (List.mem_singleton.mpr rfl), hP _ _ _ hp (fun a ha => (e1 a ha).1), (e2 ga (List.mem_singleton.mpr rfl)).trans hg⟩)
theorem gH9.g {l : Launch} {s0 : State} {D : va_G} {y : MethodName} {cc : ByteArray} {maxL : Nat} {ret : Option FieldType} {hh : List (Nat × Nat × Nat × Nat)} {d mc ms : Nat} {av : List Value} {L : List Nat} {f : gF} {P : List Nat → gF → Prop} {x : Option Value} (h : gH9 l s0 D y cc maxL ret hh d mc ms av L f (fun v L1 f1 => v = x ∧ P L1 f1)) (hP : ∀ L1 f1 f2, P L1 f1 → (∀ a, a ∈ L1 → f2 a = f1 a) → P L1 f2) {ga : Nat} {e : va_E} (hg : f ga = e) : gH9 l s0 D y cc maxL ret hh d mc ms av (L ++ [ga]) f (fun v L1 f1 => v = x ∧ ∃ L2, L1 = L2 ++ [ga] ∧ ga ∉ L2 ∧ P L2 f1 ∧ f1 ga = e) := gH9.mono (h.fr [ga]) (fun v L1 f1 hq => by
  obtain ⟨L2, f2, ⟨hv, hp⟩, rfl, e1, e2⟩ := hq
  exact ⟨hv, L2, rfl, fun z => (e1 ga z).2 (List.mem_singleton.mpr rfl), hP _ _ _ hp (fun a ha => (e1 a ha).1), (e2 ga (List.mem_singleton.mpr rfl)).trans hg⟩)
/-- the class's world, with the numbers of instructions -/
def LWo (cy : Nat → ClassId) (co : Nat) (r3 : Nat → Int32) (L : List Nat) (f : gF) : Prop := ∃ (n : Nat) (PR PL : Nat → Nat) (S A : Nat → Nat → Int32) (I : Nat → Int32), CX cy co n PR PL S A I L f ∧ INV A n PR S ∧ ∀ i, i < 4 → A 3 i = r3 i
theorem LWo.ext {cy : Nat → ClassId} {co : Nat} {r3 : Nat → Int32} {L : List Nat} {f f' : gF} (h : LWo cy co r3 L f) (hf : ∀ a, a ∈ L → f' a = f a) : LWo cy co r3 L f' := by
  obtain ⟨n, PR, PL, S, A, I, h1, h2, h3⟩ := h
  exact ⟨n, PR, PL, S, A, I, h1.ext hf, h2, h3⟩
/-- the law's world: the class, and the law's own numbers of instructions -/
def GWo (cy : Nat → ClassId) (co ga : Nat) (L : List Nat) (f : gF) : Prop := ∃ (Lc : List Nat) (g : Nat → Int32), L = Lc ++ [ga] ∧ ga ∉ Lc ∧ f ga = .inl (cy 0, 4, .inl g) ∧ LWo cy co g Lc f
theorem upd_same {g : Nat → Int32} {x : Nat} : upd g x (g x) = g := by
  funext j
  unfold upd
  by_cases e : j = x
  · rw [if_pos e, e]
  · rw [if_neg e]
/-- fewer of the locals known -/
def wk2 : List (Option Value) → List (Option Value) → Prop
  | [], [] => True
  | a :: as, b :: bs => (b = none ∨ b = a) ∧ wk2 as bs
  | _, _ => False
theorem wk2.z : wk2 [] [] := trivial
theorem wk2.s {a : Option Value} {as bs : List (Option Value)} (h : wk2 as bs) : wk2 (a :: as) (a :: bs) := ⟨Or.inr rfl, h⟩
theorem wk2.n {a : Option Value} {as bs : List (Option Value)} (h : wk2 as bs) : wk2 (a :: as) (none :: bs) := ⟨Or.inl rfl, h⟩
theorem wk2.ok : ∀ (ls ls' : List (Option Value)), wk2 ls ls' → ls'.length = ls.length ∧ ∀ (i : Nat) (v : Value), ls'[i]? = some (some v) → ls[i]? = some (some v)
  | [], [], _ => ⟨rfl, fun _ _ h => h⟩
  | [], _ :: _, h => h.elim
  | _ :: _, [], h => h.elim
  | a :: as, b :: bs, h => by
    obtain ⟨h1, h2⟩ := wk2.ok as bs h.2
    refine ⟨by rw [List.length_cons, List.length_cons, h1], fun i v hv => ?_⟩
    cases i with
    | zero =>
      rcases h.1 with e | e
      · rw [e] at hv; cases hv
      · rw [e] at hv; exact hv
    | succ i => exact h2 i v hv
section GWK
variable {p : Program} {l : Launch} {e : Env} {R : Room} {s : State} {m : MethodId} {args : Array Value} {below : List Frame} {meth : Method} {c : Code} {Q : State → Prop} {D : va_G} {L0 : List Nat} {nL : Nat} {L : List Nat} {f : gF} {ce sl pc : Nat} {ls : List (Option Value)} {st : List Value}
theorem G.wk {ls' : List (Option Value)} (h : wk2 ls ls') (k : G p l e R s m args below meth c Q D L0 nL L f ce sl pc ls' (st)) : G p l e R s m args below meth c Q D L0 nL L f ce sl pc ls (st) := G.weak k (wk2.ok ls ls' h).1 (wk2.ok ls ls' h).2
end GWK
theorem pI_nI (j : Nat) : pI (j + 1) = nI j := rfl
theorem nI_nn {j : Nat} (hj : j < 2 ^ 31) : 0 ≤ nI j := by
  have e0 : (0 : Int32).toInt = 0 := by decide
  rw [gn_le, e0, nI_toInt hj]
  omega
theorem nI_n0 {j : Nat} (hj : j < 2 ^ 31) : ¬ nI j < 0 := by
  have e0 : (0 : Int32).toInt = 0 := by decide
  rw [gn_lt, e0, nI_toInt hj]
  omega
theorem pI_lt {m k : Nat} (h : m ≤ k) (hk : k < 2 ^ 31) : ¬ nI k ≤ pI m := by
  cases m with
  | zero =>
    have e1 : (pI 0).toInt = -1 := by decide
    rw [gn_le, e1, nI_toInt hk]
    omega
  | succ j =>
    rw [pI_nI, gn_le, nI_toInt hk, nI_toInt (by omega)]
    omega
theorem pI_30 {m : Nat} (h : m ≤ 2 ^ 31) : ¬ pI m ≤ -30 := by
  have e0 : (-30 : Int32).toInt = -30 := by decide
  cases m with
  | zero => decide
  | succ j =>
    rw [pI_nI, gn_le, e0, nI_toInt (by omega)]
    omega
theorem cOH_lo {x : Int32} (h : cOH x) : ¬ x < -2 := by
  have e0 : (-2 : Int32).toInt = -2 := by decide
  rcases h with rfl | rfl | ⟨j, hj, rfl⟩
  · decide
  · decide
  · rw [gn_lt, e0, nI_toInt (by omega)]
    omega
theorem cOH_hi {x : Int32} (h : cOH x) : ¬ nI 10007 ≤ x := by
  rcases h with rfl | rfl | ⟨j, hj, rfl⟩
  · decide
  · decide
  · rw [gn_le, nI_toInt (by omega), nI_toInt (by omega)]
    omega
theorem cOK_n9 {x : Int32} (h : cOK x) (hx : ¬ 0 ≤ x) : x = -1 := by
  rcases h with h | ⟨j, hj, rfl⟩
  · exact h
  · exact absurd (nI_nn (by omega)) hx
theorem cOK_y {x : Int32} (hx : 0 ≤ x) : ¬ x = -1 := by
  rintro rfl
  exact absurd hx (by decide)
theorem gin_n0 {x : Int32} {N : Nat} (h : gin x N) (hN : N ≤ 2 ^ 31) : ¬ x < 0 := by
  obtain ⟨j, hj, rfl⟩ := h
  exact nI_n0 (by omega)
theorem gin_hi {x : Int32} {N : Nat} (h : gin x N) (hN : N < 2 ^ 31) : ¬ nI N ≤ x := by
  obtain ⟨j, hj, rfl⟩ := h
  rw [gn_le, nI_toInt hN, nI_toInt (by omega)]
  omega
theorem szN_1 {A : Nat → Nat → Int32} {k i : Nat} (h : A 10 (12 * k + i) = -1) : szN A k i + 0 = szN A k (i + 1) := by
  show _ = szN A k i + (if A 10 (12 * k + i) = -1 then 0 else 1)
  rw [if_pos h]
theorem szN_2 {A : Nat → Nat → Int32} {k i : Nat} (h : ¬ A 10 (12 * k + i) = -1) : szN A k i + 1 = szN A k (i + 1) := by
  show _ = szN A k i + (if A 10 (12 * k + i) = -1 then 0 else 1)
  rw [if_neg h]
theorem dgF_1 {g : Nat → Int32} {i : Nat} (h : g i = -1) : dgF g i = dgF g (i + 1) := by
  show _ = if g i = -1 then dgF g i else _
  rw [if_pos h]
theorem shS_1 {n : Nat} {A S : Nat → Nat → Int32} {PR : Nat → Nat} (h : vShow A n PR S) {k q : Nat} (hk : k < n) (hq : q < 12) (e : A 10 (12 * k + q) = -1) : S k q = spr S q (PR k) := (h k q hk hq).trans (shw_1 e)
theorem shS_2 {n : Nat} {A S : Nat → Nat → Int32} {PR : Nat → Nat} (h : vShow A n PR S) {k q : Nat} (hk : k < n) (hq : q < 12) (e : ¬ A 10 (12 * k + q) = -1) (e2 : A 10 (12 * k + q) = -2) : S k q = -1 := (h k q hk hq).trans ((shw_2 e).trans (if_pos e2))
theorem shS_3 {n : Nat} {A S : Nat → Nat → Int32} {PR : Nat → Nat} (h : vShow A n PR S) {k q : Nat} (hk : k < n) (hq : q < 12) (e : ¬ A 10 (12 * k + q) = -1) (e2 : ¬ A 10 (12 * k + q) = -2) : S k q = A 10 (12 * k + q) := (h k q hk hq).trans ((shw_2 e).trans (if_neg e2))
/-- a number of the script: one in range -/
theorem l_part {l : Launch} {s0 : State} {D : va_G} {cy : Nat → ClassId} (hE : gE s0 D cy) (hl : l.stackTraces = false) {L : List Nat} {f : gF} {b9 N : Nat} {xs : Nat → Int32} (hX : va_X b9 N xs s0 s0.heap) (hbl : b9 < s0.heap.size) (hN9 : N < 2 ^ 31) {k n0 : Nat} (hk : k < 2 ^ 31) (hn0 : 0 < n0) (hn1 : n0 < 2 ^ 31) : gM l s0 D yL_part cL_part 4 (some .int) 1 0 0 [.ref b9, .int (nI k), .int (nI n0)] L f (fun v L1 f1 => (∃ j, j < n0 ∧ v = some (.int (nI j))) ∧ L = L1 ∧ f = f1) := by
  refine gM.of (own := RL) hE hl (by decide +kernel) rfl rfl (Nat.le_of_ble_eq_true rfl) (fun p9 e9 s9 m9 a99 b99 t99 c9 C hr hnm => ?_)
  refine G.weak (ls' := [some (.ref b9), some (.int (nI k)), some (.int (nI n0)), none]) ?_ rfl (fun _ _ h => h)
  have hW := C.2.2.2.2.2.2.1
  have hXs : va_X b9 N xs s9 s9.heap := (hX.moved hW.1.alike).kept (hW.2.2.1 b9 hbl)
  have hbs : b9 < s9.heap.size := Nat.lt_of_lt_of_le hbl hW.2.1
  have hbA : b9 ∉ L := fun z => absurd hbl (Nat.not_lt.mpr (hW.2.2.2 b9 z))
  have hnz : ¬ nI n0 = 0 := fun z => by have := gn_inj (b := 0) (by omega) (by decide) z; omega
  refine g_cut (α := Int32) (fun _ => True) (fun _ => L) (fun _ => f) (fun _ => 0) (fun _ => 0) 24 (fun _ => [some (.ref b9), some (.int (nI k)), some (.int (nI n0)), none]) (fun x => [.int x]) (fun J => ?_) (fun x _ => ?_)
  · refine g_iload_n (n := 1) C dL_part_0 rfl rfl ?_
    refine g_aload_n (n := 2) C dL_part_1 rfl (Or.inr ⟨_, rfl⟩) rfl ?_
    refine g_slen9 (n := 3) C hXs hbs hbA dL_part_2 rfl ?_
    refine g_icmp_ge (n := 6) (tgt := 12) C dL_part_3 (by decide) rfl (fun h3 => ?_) (fun h3 => ?_)
    · skip
      refine g_sipush (n := 15) (v := nI 199) C dL_part_12 rfl rfl ?_
      refine g_iload_n (n := 16) C dL_part_15 rfl rfl ?_
      refine g_imul (n := 17) C dL_part_16 rfl ?_
      refine g_bipush (n := 19) (v := nI 89) C dL_part_17 rfl rfl ?_
      refine g_iload_n (n := 20) C dL_part_19 rfl rfl ?_
      refine g_imul (n := 21) C dL_part_20 rfl ?_
      refine g_iload_n (n := 22) C dL_part_21 rfl rfl ?_
      refine g_imul (n := 23) C dL_part_22 rfl ?_
      refine g_iadd (n := 24) C dL_part_23 rfl ?_
      exact J _ trivial
    · have hk9 : k < N := gn_gt h3 (by omega) (by omega)
      refine g_aload_n (n := 7) C dL_part_6 rfl (Or.inr ⟨_, rfl⟩) rfl ?_
      refine g_iload_n (n := 8) C dL_part_7 rfl rfl ?_
      refine g_sld (n := 9) (j := k) C hXs hbs hbA dL_part_8 rfl hk9 (by omega) rfl ?_
      refine g_goto (tgt := 24) C dL_part_9 (by decide) ?_
      exact J _ trivial
  · obtain ⟨j0, hj0, e0⟩ := pk_andE x (m := 2147483647) 31 (by decide)
    refine g_istore_n (n := 25) (ls' := [_, _, _, _]) C dL_part_24 rfl (by decide) rfl ?_
    refine g_iload_n (n := 26) C dL_part_25 rfl rfl ?_
    refine g_ldc (n := 28) (v := 2147483647) C dL_part_26 (List.mem_of_getElem? (i := 704) (by decide +kernel)) rfl ?_
    refine g_iand (n := 29) C dL_part_28 rfl ?_
    refine g_iload_n (n := 30) C dL_part_29 rfl rfl ?_
    rw [e0]
    refine g_irem (n := 31) C dL_part_30 hnz rfl ?_
    rw [gn_mod hj0 (by omega)]
    refine g_iret C hr dL_part_31 ?_ ⟨by first | omega | (simp only [gRm]; omega), by first | omega | (simp only [gRm]; omega)⟩
    exact ⟨⟨j0 % n0, Nat.mod_lt _ (by omega), rfl⟩, rfl, rfl⟩
theorem tz_parentOf {l : Launch} {s0 : State} {D : va_G} {cy : Nat → ClassId} (hE : gE s0 D cy) (hl : l.stackTraces = false) {L : List Nat} {f : gF} (hN : gN9 s0) {co n : Nat} {PR PL : Nat → Nat} {S A : Nat → Nat → Int32} {I : Nat → Int32} (h : CX cy co n PR PL S A I L f) {k : Nat} (hk : k < n) (h8 : A 8 k = 0) (p1 : Int32) : gH9 l s0 D yL_tells cL_tells 5 (some .int) [(0, 99, 100, 28)] 9 2 12 [.ref co, .int (nI 0), .int (nI k), .int (p1)] L f (fun v L1 f1 => v = some (.int (pI (PR k))) ∧ L = L1 ∧ f = f1) := by
  obtain ⟨fs, hco⟩ := h.co
  exact gH9.mono (kt_tells_0 hE hl hN hco (nI k) p1 (z_parentOf hE hl h hk h8).toX (fun v L1 f1 hq => ⟨_, hq.1⟩) (fun E z => z.elim)) (fun v L1 f1 hq => hq.elim id (fun z => by
    obtain ⟨-, -, E, hE, -⟩ := z
    exact hE.elim))
theorem tz_depth {l : Launch} {s0 : State} {D : va_G} {cy : Nat → ClassId} (hE : gE s0 D cy) (hl : l.stackTraces = false) {L : List Nat} {f : gF} (hN : gN9 s0) {co n : Nat} {PR PL : Nat → Nat} {S A : Nat → Nat → Int32} {I : Nat → Int32} (h : CX cy co n PR PL S A I L f) {k : Nat} (hk : k < n) (h8 : A 8 k = 0) (p1 : Int32) : gH9 l s0 D yL_tells cL_tells 5 (some .int) [(0, 99, 100, 28)] 9 2 12 [.ref co, .int (nI 5), .int (nI k), .int (p1)] L f (fun v L1 f1 => v = some (.int (nI (PL k + 1))) ∧ L = L1 ∧ f = f1) := by
  obtain ⟨fs, hco⟩ := h.co
  exact gH9.mono (kt_tells_5 hE hl hN hco (nI k) p1 (z_depth hE hl h hk h8).toX (fun v L1 f1 hq => ⟨_, hq.1⟩) (fun E z => z.elim)) (fun v L1 f1 hq => hq.elim id (fun z => by
    obtain ⟨-, -, E, hE, -⟩ := z
    exact hE.elim))
theorem tz_digest {l : Launch} {s0 : State} {D : va_G} {cy : Nat → ClassId} (hE : gE s0 D cy) (hl : l.stackTraces = false) {L : List Nat} {f : gF} (hN : gN9 s0) {co n : Nat} {PR PL : Nat → Nat} {S A : Nat → Nat → Int32} {I : Nat → Int32} (h : CX cy co n PR PL S A I L f) {k : Nat} (hk : k < n) (h8 : A 8 k = 0) (p1 : Int32) : gH9 l s0 D yL_tells cL_tells 5 (some .int) [(0, 99, 100, 28)] 9 2 12 [.ref co, .int (nI 7), .int (nI k), .int (p1)] L f (fun v L1 f1 => v = some (.int (dgF (S k) 12)) ∧ L = L1 ∧ f = f1) := by
  obtain ⟨fs, hco⟩ := h.co
  exact gH9.mono (kt_tells_7 hE hl hN hco (nI k) p1 (z_digest hE hl h hk h8).toX (fun v L1 f1 hq => ⟨_, hq.1⟩) (fun E z => z.elim)) (fun v L1 f1 hq => hq.elim id (fun z => by
    obtain ⟨-, -, E, hE, -⟩ := z
    exact hE.elim))
theorem tz_tagged {l : Launch} {s0 : State} {D : va_G} {cy : Nat → ClassId} (hE : gE s0 D cy) (hl : l.stackTraces = false) {L : List Nat} {f : gF} (hN : gN9 s0) {co n : Nat} {PR PL : Nat → Nat} {S A : Nat → Nat → Int32} {I : Nat → Int32} (h : CX cy co n PR PL S A I L f) {j : Nat} (hj : j < 5) (p1 : Int32) : gH9 l s0 D yL_tags cL_tags 5 (some .int) [(0, 58, 59, 28), (0, 58, 64, 47)] 9 2 12 [.ref co, .int (nI 2), .int (nI j), .int (p1)] L f (fun v L1 f1 => v = some (.int (A 16 j)) ∧ L = L1 ∧ f = f1) := by
  obtain ⟨fs, hco⟩ := h.co
  exact gH9.mono (kt_tags_2 hE hl hN hco (nI j) p1 (z_tagged hE hl h hj).toX (fun v L1 f1 hq => ⟨_, hq.1⟩) (fun E z => z.elim)) (fun v L1 f1 hq => hq.elim id (fun z => by
    obtain ⟨-, -, E, hE, -⟩ := z
    exact hE.elim))
theorem tz_instructions {l : Launch} {s0 : State} {D : va_G} {cy : Nat → ClassId} (hE : gE s0 D cy) (hl : l.stackTraces = false) {L : List Nat} {f : gF} (hN : gN9 s0) {co n : Nat} {PR PL : Nat → Nat} {S A : Nat → Nat → Int32} {I : Nat → Int32} (h : CX cy co n PR PL S A I L f) {i : Nat} (hi : i < 4) (p1 p2 : Int32) : gH9 l s0 D yL_sets cL_sets 6 (some .int) [(0, 62, 63, 28), (0, 62, 68, 30)] 9 2 12 [.ref co, .int (nI 4), .int (nI i), .int (p1), .int (p2)] L f (fun v L1 f1 => v = some (.int (A 3 i)) ∧ L = L1 ∧ f = f1) := by
  obtain ⟨fs, hco⟩ := h.co
  exact gH9.mono (kt_sets_4 hE hl hN hco (nI i) p1 p2 (z_instructions hE hl h hi).toX (fun v L1 f1 hq => ⟨_, hq.1⟩) (fun E z => z.elim)) (fun v L1 f1 hq => hq.elim id (fun z => by
    obtain ⟨-, -, E, hE, -⟩ := z
    exact hE.elim))

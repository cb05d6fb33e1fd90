/-! ===== the law, I: contracts among more cells; calls with handlers ===== -/
theorem va_pl_app {L K : List Nat} {f : gF} : va_pl (L ++ K) f = va_pl L f ++ va_pl K f := List.map_append
theorem va_pl_c {L : List Nat} {f g : gF} (h : ∀ a, a ∈ L → g a = f a) : va_pl L g = va_pl L f := List.map_congr_left fun a ha => by rw [h a ha]
theorem va_pl_m {L : List Nat} {f : gF} {k : Nat} {q : Nat × va_E} (h : (va_pl L f)[k]? = some q) : q.1 ∈ L ∧ q.2 = f q.1 := by
  obtain ⟨a, ha, e⟩ := List.mem_map.mp (List.mem_of_getElem? h)
  rw [← e]
  exact ⟨ha, rfl⟩
theorem va_P.fst {D : va_G} {cl : List vw_C} {a b : va_W} {H : Heap} (h : va_P D cl (a ++ b) H) : va_P D cl a H := fun k q hk => h k q (by rw [List.getElem?_append_left (List.getElem?_eq_some_iff.mp hk).1]; exact hk)
theorem va_P.snd {D : va_G} {cl : List vw_C} {a b : va_W} {H : Heap} (h : va_P D cl (a ++ b) H) : va_P D cl b H := fun k q hk => h (a.length + k) q (by rw [List.getElem?_append_right (by omega), Nat.add_sub_cancel_left]; exact hk)
theorem va_D.fst {A : Nat → Prop} {a b : va_W} (h : va_D A (a ++ b)) : va_D A a := ⟨fun i j p q hi hj e => h.1 i j p q (by rw [List.getElem?_append_left (List.getElem?_eq_some_iff.mp hi).1]; exact hi) (by rw [List.getElem?_append_left (List.getElem?_eq_some_iff.mp hj).1]; exact hj) e, fun k q hk => h.2 k q (by rw [List.getElem?_append_left (List.getElem?_eq_some_iff.mp hk).1]; exact hk)⟩
theorem va_D.snd {A : Nat → Prop} {a b : va_W} (h : va_D A (a ++ b)) : va_D A b := ⟨fun i j p q hi hj e => by
  have := h.1 (a.length + i) (a.length + j) p q (by rw [List.getElem?_append_right (by omega), Nat.add_sub_cancel_left]; exact hi) (by rw [List.getElem?_append_right (by omega), Nat.add_sub_cancel_left]; exact hj) e
  omega, fun k q hk => h.2 (a.length + k) q (by rw [List.getElem?_append_right (by omega), Nat.add_sub_cancel_left]; exact hk)⟩
/-- two pools in one: no cell is in both -/
theorem va_D.dis {A : Nat → Prop} {L K : List Nat} {f : gF} (h : va_D A (va_pl (L ++ K) f)) : ∀ a, a ∈ L → a ∉ K := by
  intro a ha hk
  rw [va_pl_app] at h
  obtain ⟨i, hi⟩ := va_pl_get (X := []) (f := f) ha
  obtain ⟨j, hj⟩ := va_pl_get (X := []) (f := f) hk
  rw [List.nil_append] at hi hj
  have hl := (List.getElem?_eq_some_iff.mp hi).1
  have := h.1 i ((va_pl L f).length + j) _ _ (by rw [List.getElem?_append_left hl]; exact hi) (by rw [List.getElem?_append_right (by omega), Nat.add_sub_cancel_left]; exact hj) rfl
  omega
theorem gPc.fst {s0 : State} {D : va_G} {av : List Value} {L K : List Nat} {f : gF} {sz : Nat} {a : Array Value} {U : State} (h : gPc s0 D av (L ++ K) f sz a U) : gPc s0 D av L f sz a U := by
  obtain ⟨h1, h2, h3, h4, h5, h6, h7, h8⟩ := h
  rw [va_pl_app] at h3 h4
  exact ⟨h1, h2, h3.fst, h4.fst, h5, h6, h7, fun a ha => h8 a (List.mem_append_left _ ha)⟩
def gFr (K : List Nat) (f : gF) (Qr : Option Value → List Nat → gF → Prop) : Option Value → List Nat → gF → Prop := fun v L2 f2 => ∃ L1 f1, Qr v L1 f1 ∧ L2 = L1 ++ K ∧ (∀ a, a ∈ L1 → f2 a = f1 a ∧ a ∉ K) ∧ ∀ a, a ∈ K → f2 a = f a
theorem gA_fr {L K : List Nat} {sz q : Nat} (h : gA L sz q) : gA (L ++ K) sz q := h.imp (fun h => List.mem_append_left _ h) id
theorem va_F.fr {L K : List Nat} {sz : Nat} {st t : State} (h : va_F (gA L sz) st t) : va_F (gA (L ++ K) sz) st t := ⟨h.1, fun q h1 h2 => h.2 q h1 (fun z => h2 (gA_fr z))⟩
/-- the rest of the pool is as it was -/
theorem fr_rest {D : va_G} {s0 : State} {av : List Value} {L K L1 : List Nat} {f f1 : gF} {sz : Nat} {a : Array Value} {st t : State} (hp : gPc s0 D av (L ++ K) f sz a st) (hF : va_F (gA L sz) st t) (hP1 : va_P D vwCl (va_pl L1 f1) t.heap) (hD1 : va_D (gA L sz) (va_pl L1 f1)) :
    ∃ f2 : gF, (∀ a, a ∈ L1 → f2 a = f1 a ∧ a ∉ K) ∧ (∀ a, a ∈ K → f2 a = f a) ∧ va_P D vwCl (va_pl (L1 ++ K) f2) t.heap ∧ va_D (gA (L ++ K) sz) (va_pl (L1 ++ K) f2) := by
  obtain ⟨-, hsz, hP, hD, -⟩ := hp
  have hdis := hD.dis
  rw [va_pl_app] at hP hD
  have hPK := hP.snd
  have hDK := hD.snd
  have hlt : ∀ a, a ∈ K → a < sz := fun a ha => by
    obtain ⟨k, hk⟩ := va_pl_get (X := []) (f := f) ha
    rw [List.nil_append] at hk
    rw [← hsz]
    exact (hPK k _ hk).lt
  have hnK : ∀ a, a ∈ L1 → a ∉ K := fun a ha hk => by
    obtain ⟨k, hk2⟩ := va_pl_get (X := []) (f := f1) ha
    rw [List.nil_append] at hk2
    rcases hD1.2 k _ hk2 with h | h
    · exact hdis a h hk
    · exact absurd (hlt a hk) (Nat.not_lt.mpr h)
  have e1 : ∀ a, a ∈ L1 → (fun b => if b ∈ K then f b else f1 b) a = f1 a := fun a ha => if_neg (hnK a ha)
  have e2 : ∀ a, a ∈ K → (fun b => if b ∈ K then f b else f1 b) a = f a := fun a ha => if_pos ha
  refine ⟨fun b => if b ∈ K then f b else f1 b, fun a ha => ⟨e1 a ha, hnK a ha⟩, e2, ?_, ?_⟩
  · rw [va_pl_app, va_pl_c e1, va_pl_c e2]
    refine hP1.app (hPK.kept (fun k q hk => hF.2 q.1 (hPK k q hk).lt (fun z => ?_)))
    obtain ⟨h1, -⟩ := va_pl_m hk
    rcases z with z | z
    · exact hdis _ z h1
    · exact absurd (hlt _ h1) (Nat.not_lt.mpr z)
  · rw [va_pl_app, va_pl_c e1, va_pl_c e2]
    refine (hD1.weaken (fun k q _ h => gA_fr h)).app (hDK.weaken (fun k q hk _ => Or.inl (List.mem_append_right _ (va_pl_m hk).1))) (fun i j p q hi hj e => ?_)
    exact hnK _ (va_pl_m hi).1 (e ▸ (va_pl_m hj).1)
theorem gQc.fr {D : va_G} {s0 : State} {av : List Value} {L K : List Nat} {f : gF} {sz : Nat} {a : Array Value} {st t : State} {o : Outcome} {Qr : Option Value → List Nat → gF → Prop} (hp : gPc s0 D av (L ++ K) f sz a st) (h : gQc D L sz Qr a st o t) : gQc D (L ++ K) sz (gFr K f Qr) a st o t := by
  obtain ⟨⟨v, L1, f1, ho, hq, hP1, hD1⟩, hF⟩ := h
  obtain ⟨f2, e1, e2, h1, h2⟩ := fr_rest hp hF hP1 hD1
  exact ⟨⟨v, L1 ++ K, f2, ho, ⟨L1, f1, hq, rfl, e1, e2⟩, h1, h2⟩, hF.fr⟩
theorem gM.fr {l : Launch} {s0 : State} {D : va_G} {y : MethodName} {cc : ByteArray} {maxL : Nat} {ret : Option FieldType} {d mc ms : Nat} {av : List Value} {L : List Nat} {f : gF} {Qr : Option Value → List Nat → gF → Prop} (h : gM l s0 D y cc maxL ret d mc ms av L f Qr) (K : List Nat) : gM l s0 D y cc maxL ret d mc ms av (L ++ K) f (gFr K f Qr) := by
  intro sz
  refine MetFree.mono (h sz) (fun a s hp => hp.fst) (fun _ _ _ _ _ _ => trivial) (fun a st o t hp hq => ?_)
  obtain ⟨hq, Lc, hf, hl⟩ := hq
  exact ⟨gQc.fr hp hq, Lc, hf, fun q hq => gA_fr (hl q hq)⟩
theorem gX.fr {l : Launch} {s0 : State} {D : va_G} {y : MethodName} {cc : ByteArray} {maxL : Nat} {ret : Option FieldType} {d mc ms : Nat} {av : List Value} {L : List Nat} {f : gF} {Qr : Option Value → List Nat → gF → Prop} {PX : String → Prop} (h : gX l s0 D y cc maxL ret d mc ms av L f Qr PX) (K : List Nat) : gX l s0 D y cc maxL ret d mc ms av (L ++ K) f (gFr K f Qr) PX := by
  intro sz
  refine MetFree.mono (h sz) (fun a s hp => hp.fst) (fun _ _ _ _ _ _ => trivial) (fun a st o t hp hq => ?_)
  rcases hq with ⟨hq, Lc, hf, hl⟩ | ⟨q, ho, E, ce, Lc, ⟨hpx, hP1, hD1, hF⟩, h1, h2, h3, h4, h5, h6⟩
  · exact Or.inl ⟨gQc.fr hp hq, Lc, hf, fun q hq => gA_fr (hl q hq)⟩
  · obtain ⟨f2, e1, e2, g1, g2⟩ := fr_rest hp hF hP1 hD1
    have e : va_pl (L ++ K) f2 = va_pl (L ++ K) f := va_pl_c (fun a ha => (List.mem_append.mp ha).elim (fun z => (e1 a z).1) (fun z => e2 a z))
    rw [e] at g1 g2
    exact Or.inr ⟨q, ho, E, ce, Lc, ⟨hpx, g1, g2, hF.fr⟩, h1, h2, h3, h4, h5, fun z hz => gA_fr (h6 z hz)⟩
/-- a contract of a method with a table of handlers; nothing leaves it -/
def gH9 (l : Launch) (s0 : State) (D : va_G) (y : MethodName) (cc : ByteArray) (maxL : Nat) (ret : Option FieldType) (hh : List (Nat × Nat × Nat × Nat)) (d mc ms : Nat) (av : List Value) (L : List Nat) (f : gF) (Qr : Option Value → List Nat → gF → Prop) : Prop :=
  ∀ sz : Nat, vx_Met l y [.codeWith y cc maxL ret hh] (gRm d mc ms) (gPc s0 D av L f sz) (gQc D L sz Qr) (fun _ _ _ => False) mc ms (gA L sz)
theorem gH9.fr {l : Launch} {s0 : State} {D : va_G} {y : MethodName} {cc : ByteArray} {maxL : Nat} {ret : Option FieldType} {hh : List (Nat × Nat × Nat × Nat)} {d mc ms : Nat} {av : List Value} {L : List Nat} {f : gF} {Qr : Option Value → List Nat → gF → Prop} (h : gH9 l s0 D y cc maxL ret hh d mc ms av L f Qr) (K : List Nat) : gH9 l s0 D y cc maxL ret hh d mc ms av (L ++ K) f (gFr K f Qr) := by
  intro sz
  refine MetFree.mono (h sz) (fun a s hp => hp.fst) (fun _ _ _ _ _ _ => trivial) (fun a st o t hp hq => ?_)
  rcases hq with ⟨hq, Lc, hf, hl⟩ | ⟨q, ho, E, ce, Lc, hx, -⟩
  · exact Or.inl ⟨gQc.fr hp hq, Lc, hf, fun q hq => gA_fr (hl q hq)⟩
  · exact hx.elim
theorem gH9.of {own : String} {l : Launch} {s0 : State} {D : va_G} {cy : Nat → ClassId} {y : MethodName} {cc : ByteArray} {maxL : Nat} {ret : Option FieldType} {hh : List (Nat × Nat × Nat × Nat)} {d mc ms : Nat} {av : List Value} {L : List Nat} {f : gF} {Qr : Option Value → List Nat → gF → Prop} (hE : gE s0 D cy) (hl : l.stackTraces = false) (hy : plainName y.cls = true) (hown : y.cls = own) (hav : (av.all fun v => v.category == 1) = true) (hlen : av.length ≤ maxL)
    (body : ∀ (p : Program) (e : Env) (s : State) (m : MethodId) (args : Array Value) (below : List Frame) (meth : Method) (c : Code), gC p l e (gRm d mc ms) s m args below meth c s0 D cy L cc maxL own → meth.sig.returnType = ret → c.exceptionTable.toList = tableOf hh →
      G p l e (gRm d mc ms) s m args below meth c (vx_MQ below (gQc D L s.heap.size Qr) (fun _ _ _ => False) args s mc ms (gA L s.heap.size)) D L maxL L f 0 0 0 (gEn av maxL) []) : gH9 l s0 D y cc maxL ret hh d mc ms av L f Qr := by
  intro sz
  refine vx_ofWH (cc := cc) (maxL := maxL) (ret := ret) (hh := hh) hy rfl ?_
  intro p e s m args below meth c s₁ B hml hv
  obtain ⟨rfl, hsz, hP, hD, hW⟩ := hv
  subst hsz
  rw [lg_entry_eq]
  have hav : ∀ v ∈ av, v.category = 1 := fun v hv => by simpa using List.all_eq_true.mp hav v hv
  subst hown
  exact body p e s m _ below meth c ⟨B.exec, B.bytes, hml, findClass_of_methodNamed B.named, B.notSynchronized, hE, hW, hl⟩ B.returns (vx_table (x := y) B (atoms_spec (ws := [.codeWith y cc maxL ret hh]) B.pre _ List.mem_cons_self)) s.heap [] _ hP (hD.weaken (fun k q hk _ => Or.inl (va_pl_m hk).1)) va_S.rf (gL.entry hav hlen)
def gwH (y : MethodName) (bytes : ByteArray) (maxL : Nat) (ret : Option FieldType) (hh : List (Nat × Nat × Nat × Nat)) (n : Nat) : Prop := (Cond.codeWith y bytes maxL ret hh ∈ lw_tbl ∧ ((Cond.codeWith y bytes maxL ret hh).onTables && (Cond.codeWith y bytes maxL ret hh).keepsFace) = true) ∧ Cond.initialized y.cls ∈ lw_tbl ∧ (y.cls ≠ "java/lang/invoke/MethodHandle" ∧ y.cls ≠ "java/lang/invoke/VarHandle") ∧ (parseMethodDescriptor y.desc).map (fun d => d.parameters.length) = some n
section GLAW
variable {p : Program} {l : Launch} {e : Env} {R : Room} {s : State} {m : MethodId} {args : Array Value} {below : List Frame} {meth : Method} {c : Code} {Q : State → Prop}
variable {s0 : State} {D : va_G} {cy : Nat → ClassId} {L0 : List Nat} {nL : Nat} {cc : ByteArray} {own : String} {L : List Nat} {f : gF} {ce sl pc n : Nat} {ls : List (Option Value)} {st : List Value}
variable {y : MethodName} {bytes : ByteArray} {maxL idx d9 mc ms : Nat} {ret : Option FieldType} {As rest : List Value} {b : Nat} {Qr : Option Value → List Nat → gF → Prop}

/-- a look ahead: what a call would answer here -/
theorem g_peek (C : gC p l e R s m args below meth c s0 D cy L0 cc nL own) {ci N k9 pc9 : Nat} {fs : List Value} {T9 : u_T} (hM : gM l s0 D y bytes maxL ret d9 mc ms (.ref b :: As) L f Qr) (d : decode cc pc9 = .ok (.invokevirtual idx, 3)) (hm : gwM y bytes maxL ret k9) (hl9 : gwL own idx y) (hv : gwV y) (hb : gH L f b (.inr (ci, fs))) (hc : vwCl[ci]? = some (y.cls, T9, N)) (hk9 : As.length = k9) (hR : d9 + 1 ≤ R.frames ∧ 8 + (maxL + 11) + 40 * d9 ≤ R.locals) (hR2 : ce + mc ≤ R.cells ∧ sl + ms ≤ R.slots)
    (kk : ∀ (v : Option Value) (L1 : List Nat) (f1 : gF), Qr v L1 f1 → G p l e R s m args below meth c Q D L0 nL L f ce sl pc ls (st)) : G p l e R s m args below meth c Q D L0 nL L f ce sl pc ls (st) := by
  intro H locs la hP hD hS hl T hT X
  obtain ⟨q0, hq⟩ := gp_at (X := []) (D9 := D) (H := H) hb
  have hr : va_Run p l e R s m args below meth c H locs ce sl mc ms (F0 m pc9 la (As.reverse ++ [.ref b])) [] (gQc D L H.size Qr (Value.ref b :: As).toArray) (gA L H.size) := by
    rcases hl9 with h9 | ⟨host, h9⟩
    · exact va_runV (Ts := []) ⟨C.1, C.2.1, C.2.2.1, C.2.2.2.1, fun w h => by cases h⟩ (hM H.size) ⟨gB_of C hm h9 hR, C.wd hv.1 rfl args, C.wd hv.2 rfl args⟩ ⟨gPc_blind, va_recv C.K hP hc hq, gPc_at C hP hD hS _⟩ rfl hk9 hl.1 rfl (lv_room (Nat.zero_le _)) d hR2
    · exact va_runVN (Ts := []) ⟨C.1, C.2.1, C.2.2.1, C.2.2.2.1, fun w h => by cases h⟩ (hM H.size) ⟨gN_of C hm h9 hR, C.wd hv.1 rfl args, C.wd hv.2 rfl args⟩ ⟨gPc_blind, va_recv C.K hP hc hq, gPc_at C hP hD hS _⟩ rfl hk9 hl.1 rfl (lv_room (Nat.zero_le _)) d hR2
  obtain ⟨v, st₀, t, T', Lc, h0, X', hL, e1, e2, ⟨⟨v', L1, f1, hv, hq, hP1, hD1⟩, hz, hk⟩, stp⟩ := hr T hT X
  exact kk v' L1 f1 hq H locs la hP hD hS hl T hT X
theorem G.pool {L' : List Nat} (h : L = L') (k : G p l e R s m args below meth c Q D L0 nL L' f ce sl pc ls (st)) : G p l e R s m args below meth c Q D L0 nL L f ce sl pc ls (st) := h ▸ k
theorem G.swap {K1 K2 : List Nat} (k : G p l e R s m args below meth c Q D L0 nL (K2 ++ K1) f ce sl pc ls (st)) : G p l e R s m args below meth c Q D L0 nL (K1 ++ K2) f ce sl pc ls (st) := by
  intro H locs la hP hD hS hl
  rw [va_pl_app] at hP hD
  have h1 := va_P.swap (a := []) (b := va_pl K1 f) (c := va_pl K2 f) (by rw [List.nil_append]; exact hP)
  have h2 := va_D.swap (a := []) (b := va_pl K1 f) (c := va_pl K2 f) (by rw [List.nil_append]; exact hD)
  rw [List.nil_append, ← va_pl_app] at h1 h2
  exact k H locs la h1 h2 hS hl
theorem g_lcmp (C : gC p l e R s m args below meth c s0 D cy L0 cc nL own) {x y : Int64} (d : decode cc pc = .ok (.lcmp, 1)) (hxy : x = y) (hn : pc + 1 = n) (kk : G p l e R s m args below meth c Q D L0 nL L f ce sl n ls (.int 0 :: st)) : G p l e R s m args below meth c Q D L0 nL L f ce sl pc ls (.long y :: .long x :: st) := by
  intro H locs la hP hD hS hl
  subst hn
  subst hxy
  refine W.lcmp C.1 C.2.1 d ?_
  have e9 : lg_cmp x x = 0 := by simp [lg_cmp, Int64.lt_irrefl]
  rw [e9]
  exact kk H locs la hP hD hS hl
variable {f0 : gF} {PX9 : String → Prop} {mc9 ms9 : Nat} {XC : String → State → State → Prop}
theorem G.xw (k : G p l e R s m args below meth c (MQ below (gQc D L0 s.heap.size Qr) args s mc ms (gA L0 s.heap.size)) D L0 nL L f ce sl pc ls st) : G p l e R s m args below meth c (vx_MQ below (gQc D L0 s.heap.size Qr) XC args s mc ms (gA L0 s.heap.size)) D L0 nL L f ce sl pc ls st := fun H locs la hP hD hS hl => vx_ret (k H locs la hP hD hS hl)
/-- a call that may throw, in a method with handlers -/
theorem g_VXH (C : gC p l e R s m args below meth c s0 D cy L0 cc nL own) {ci N k9 : Nat} {fs : List Value} {T9 : u_T} (hM : gX l s0 D y bytes maxL ret d9 mc9 ms9 (.ref b :: As) L f Qr PX9) (d : decode cc pc = .ok (.invokevirtual idx, 3)) (hm : gwM y bytes maxL ret k9) (hl9 : Cond.methodLink own idx y ∈ lw_tbl) (hv : gwV y) (hb : gH L f b (.inr (ci, fs))) (hcl : vwCl[ci]? = some (y.cls, T9, N)) (hk9 : As.length = k9) (hst : st = As.reverse ++ .ref b :: rest) (hrm : (rest.map fun v => v.category).sum ≤ 8) (hR : d9 + 1 ≤ R.frames ∧ 8 + (maxL + 11) + 40 * d9 ≤ R.locals) (hR2 : ce + mc9 ≤ R.cells ∧ sl + ms9 ≤ R.slots) (hn : pc + 3 = n)
    (kx : ∀ E, PX9 E → ∃ (name : String) (pre : List ExceptionTableEntry) (x : ExceptionTableEntry) (suf : List ExceptionTableEntry), c.exceptionTable.toList = pre ++ x :: suf ∧ (∀ z ∈ pre, covers z pc = false ∨ (z.catchType ≠ 0 ∧ ∃ nm : String, Cond.classLink own z.catchType nm ∈ lw_tbl ∧ va_Nc E nm s0)) ∧ covers x pc = true ∧ x.catchType ≠ 0 ∧ Cond.classLink own x.catchType name ∈ lw_tbl ∧ Cond.castable E name ∈ lw_tbl ∧ ∀ q : Nat, G p l e R s m args below meth c Q D L0 nL L f (ce + mc9) (sl + ms9) x.handlerPc ls ([.ref q]))
    (kk : ∀ (v : Option Value) (L1 : List Nat) (f1 : gF), Qr v L1 f1 → G p l e R s m args below meth c Q D L0 nL L1 f1 (ce + mc9) (sl + ms9) n ls (v.toList ++ rest)) : G p l e R s m args below meth c Q D L0 nL L f ce sl pc ls (st) := by
  intro H locs la hP hD hS hl T hT X
  subst hn
  subst hst
  have hs := gA_sub (H := H) hD hS.1
  obtain ⟨q0, hq⟩ := gp_at (X := []) (D9 := D) (H := H) hb
  rcases vx_runV (Ts := []) ⟨C.1, C.2.1, C.2.2.1, C.2.2.2.1, fun w h => by cases h⟩ (hM H.size) ⟨gB_of C hm hl9 hR, C.wd hv.1 rfl args, C.wd hv.2 rfl args⟩ ⟨gPc_blind, va_recv C.K hP hcl hq, gPc_at C hP hD hS _⟩ (g := F0 m pc la (As.reverse ++ .ref b :: rest)) rfl hk9 hl.1 rfl (lv_room hrm) d hR2 T hT X with ⟨v, st₀, t, T', Lc, h0, X', hL, e1, e2, ⟨⟨v', L1, f1, hv, hq, hP1, hD1⟩, hz, hk⟩, stp⟩ | ⟨q, st₀, t, T', Lc, E, ce9, h0, X', hL, e1, e2, ⟨hpe, hP1, hD1, hz, hk⟩, hce, hcv, hcl9, stp⟩
  · cases hv
    rw [h0] at hz hk
    obtain ⟨t2, a1, b1⟩ := kk v L1 f1 hq T'.heap (locs ++ Lc) la (by rw [e1]; exact hP1) (hD1.weaken (fun k q _ h => hs _ h)) (gS_join rfl hD hS (by rw [e1]; exact hz) (fun q h1 h2 => by rw [e1]; exact hk q h1 h2) hL) hl T' rfl X'
    exact ⟨t2, stp t2 a1, b1⟩
  · rw [h0] at hz hk
    have hS1 : va_S (gA L0 s.heap.size) s.heap t.heap (locs ++ Lc) := gS_join rfl hD hS hz hk hL
    obtain ⟨name, pre, x, suf, k1, k2, k3, k4, k5, k6, k7⟩ := kx E hpe
    have hW : s0.WarmedH s.vm := C.2.2.2.2.2.2.1.1
    have hvx := vx_catch (p := p) (l := l) (e := e) (R := R) (s := s) (m := m) (args := args) (below := below) (meth := meth) (c := c) (H := t.heap) (locs := locs ++ Lc) (cells := ce + mc9) (slots := sl + ms9) (Q := Q) (pc := pc) (ls := la) (rest := rest) (E := E) (ce := ce9) (q := q) (name := name) C.2.2.2.1 pre x suf k1
      (fun z hz9 => (k2 z hz9).imp id (fun ⟨y1, nm, y2, y3⟩ => ⟨y1, nm, C.wd y2 rfl args, y3.moved hW.alike⟩)) k3 k4 (C.wd k5 rfl args) (C.wd k6 rfl args) hce hcv hcl9 (k7 q t.heap (locs ++ Lc) la hP1 (hD1.weaken (fun k q _ h => hs _ h)) hS1 hl)
    obtain ⟨t2, a1, b1⟩ := hvx T' e1 X'
    exact ⟨t2, stp.trans a1, b1⟩
theorem gH_of (C : gC p l e R s m args below meth c s0 D cy L0 cc nL own) {hh : List (Nat × Nat × Nat × Nat)} {k9 : Nat} (hm : gwH y bytes maxL ret hh k9) (hl9 : Cond.methodLink own idx y ∈ lw_tbl) (hv : gwS y) (hR : d9 + 1 ≤ R.frames ∧ 8 + (maxL + 11) + 40 * d9 ≤ R.locals) : vx_CSW R s args own idx y bytes maxL ret hh [.codeWith y bytes maxL ret hh] (gRm d9 mc ms) mc ms k9 := by
  obtain ⟨⟨h1, h0⟩, h2, h3, h4⟩ := hm
  refine ⟨⟨rfl, rfl, hR.1, hR.2, fun w hw a' U hW => ?_, List.mem_singleton.mpr rfl⟩, C.wd h1 h0 args, C.wd h2 rfl args, h3, fun sig h => ?_, C.wd hl9 rfl args, C.wd hv rfl args⟩
  · rw [List.mem_singleton.mp hw]
    exact g_word hW h0 (C.wd h1 h0 args)
  · rw [h] at h4
    exact (Option.some.inj h4).symm
theorem g_SH (C : gC p l e R s m args below meth c s0 D cy L0 cc nL own) {hh : List (Nat × Nat × Nat × Nat)} {k9 : Nat} (hM : gH9 l s0 D y bytes maxL ret hh d9 mc9 ms9 As L f Qr) (d : decode cc pc = .ok (.invokestatic idx, 3)) (hm : gwH y bytes maxL ret hh k9) (hl9 : Cond.methodLink own idx y ∈ lw_tbl) (hv : gwS y) (hk9 : As.length = k9) (hst : st = As.reverse ++ rest) (hrm : (rest.map fun v => v.category).sum ≤ 8) (hR : d9 + 1 ≤ R.frames ∧ 8 + (maxL + 11) + 40 * d9 ≤ R.locals) (hR2 : ce + mc9 ≤ R.cells ∧ sl + ms9 ≤ R.slots) (hn : pc + 3 = n)
    (kk : ∀ (v : Option Value) (L1 : List Nat) (f1 : gF), Qr v L1 f1 → G p l e R s m args below meth c Q D L0 nL L1 f1 (ce + mc9) (sl + ms9) n ls (v.toList ++ rest)) : G p l e R s m args below meth c Q D L0 nL L f ce sl pc ls (st) := by
  intro H locs la hP hD hS hl T hT X
  subst hn
  subst hst
  have hs := gA_sub (H := H) hD hS.1
  rcases vx_runSX (Ts := []) ⟨C.1, C.2.1, C.2.2.1, C.2.2.2.1, fun w h => by cases h⟩ (hM H.size) (gH_of C hm hl9 hv hR) ⟨gPc_blind, gPc_at C hP hD hS _⟩ (g := F0 m pc la (As.reverse ++ rest)) rfl hk9 hl.1 rfl (lv_room hrm) d hR2 T hT X with ⟨v, st₀, t, T', Lc, h0, X', hL, e1, e2, ⟨⟨v', L1, f1, hv, hq, hP1, hD1⟩, hz, hk⟩, stp⟩ | ⟨q, st₀, t, T', Lc, E, ce9, h0, X', hL, e1, e2, hx, -⟩
  · cases hv
    rw [h0] at hz hk
    obtain ⟨t2, a1, b1⟩ := kk v L1 f1 hq T'.heap (locs ++ Lc) la (by rw [e1]; exact hP1) (hD1.weaken (fun k q _ h => hs _ h)) (gS_join rfl hD hS (by rw [e1]; exact hz) (fun q h1 h2 => by rw [e1]; exact hk q h1 h2) hL) hl T' rfl X'
    exact ⟨t2, stp t2 a1, b1⟩
  · exact hx.elim
/-- the law's script: not in the pool, and as it was -/
theorem g_sld (C : gC p l e R s m args below meth c s0 D cy L0 cc nL own) {b9 N j : Nat} {xs : Nat → Int32} {i : Int32} (hX : va_X b9 N xs s s.heap) (hbl : b9 < s.heap.size) (hbA : b9 ∉ L0) (d : decode cc pc = .ok (.iaload, 1)) (hi : i = nI j) (hj : j < N) (hN : N < 2 ^ 31) (hn : pc + 1 = n) (kk : G p l e R s m args below meth c Q D L0 nL L f ce sl n ls (.int (xs j) :: st)) : G p l e R s m args below meth c Q D L0 nL L f ce sl pc ls (.int i :: .ref b9 :: st) := by
  intro H locs la hP hD hS hl
  subst hn
  subst hi
  refine va_sld C.1 C.2.1 hX hbl (fun z => z.elim hbA (fun z => absurd hbl (Nat.not_lt.mpr z))) hS (vp_in_nI hj hN) d ?_
  rw [gj_clamp hj hN]
  exact kk H locs la hP hD hS hl
theorem g_slen9 (C : gC p l e R s m args below meth c s0 D cy L0 cc nL own) {b9 N : Nat} {xs : Nat → Int32} (hX : va_X b9 N xs s s.heap) (hbl : b9 < s.heap.size) (hbA : b9 ∉ L0) (d : decode cc pc = .ok (.arraylength, 1)) (hn : pc + 1 = n) (kk : G p l e R s m args below meth c Q D L0 nL L f ce sl n ls (.int (nI N) :: st)) : G p l e R s m args below meth c Q D L0 nL L f ce sl pc ls (.ref b9 :: st) := by
  intro H locs la hP hD hS hl
  subst hn
  exact va_slen C.1 C.2.1 hX hbl (fun z => z.elim hbA (fun z => absurd hbl (Nat.not_lt.mpr z))) hS d (kk H locs la hP hD hS hl)
end GLAW

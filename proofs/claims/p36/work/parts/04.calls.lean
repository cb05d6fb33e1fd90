/-! ===== contracts over pools: gM returns, gX returns or throws ===== -/
def gRm (d mc ms : Nat) : Room := { frames := d, cells := mc, slots := ms, locals := 40 * d }
def gPc (s0 : State) (D : va_G) (av : List Value) (L : List Nat) (f : gF) (sz : Nat) : Array Value → State → Prop := va_Pc av (fun U => U.heap.size = sz ∧ va_P D vwCl (va_pl L f) U.heap ∧ va_D (fun _ => True) (va_pl L f) ∧ gW s0 L U)
def gQc (D : va_G) (L : List Nat) (sz : Nat) (Qr : Option Value → List Nat → gF → Prop) : Array Value → State → Outcome → State → Prop := fun _ st oc t => (∃ (v : Option Value) (L1 : List Nat) (f1 : gF), oc = .returned v ∧ Qr v L1 f1 ∧ va_P D vwCl (va_pl L1 f1) t.heap ∧ va_D (gA L sz) (va_pl L1 f1)) ∧ va_F (gA L sz) st t
def gM (l : Launch) (s0 : State) (D : va_G) (y : MethodName) (cc : ByteArray) (maxL : Nat) (ret : Option FieldType) (d mc ms : Nat) (av : List Value) (L : List Nat) (f : gF) (Qr : Option Value → List Nat → gF → Prop) : Prop :=
  ∀ sz : Nat, Met l y [.code y cc maxL ret] (gRm d mc ms) (gPc s0 D av L f sz) (gQc D L sz Qr) mc ms (gA L sz)
def gXc (D : va_G) (L : List Nat) (f : gF) (sz : Nat) (PX : String → Prop) : String → State → State → Prop := fun E st t => PX E ∧ va_P D vwCl (va_pl L f) t.heap ∧ va_D (gA L sz) (va_pl L f) ∧ va_F (gA L sz) st t
def gX (l : Launch) (s0 : State) (D : va_G) (y : MethodName) (cc : ByteArray) (maxL : Nat) (ret : Option FieldType) (d mc ms : Nat) (av : List Value) (L : List Nat) (f : gF) (Qr : Option Value → List Nat → gF → Prop) (PX : String → Prop) : Prop :=
  ∀ sz : Nat, vx_Met l y [.code y cc maxL ret] (gRm d mc ms) (gPc s0 D av L f sz) (gQc D L sz Qr) (gXc D L f sz PX) mc ms (gA L sz)
def gEn (av : List Value) (n : Nat) : List (Option Value) := av.map some ++ List.replicate (n - av.length) none
theorem g_argsM : ∀ (av : List Value) (i k : Nat) (v : Value), (∀ v ∈ av, v.category = 1) → av[k]? = some v → (i + k, v) ∈ lv_args i av
  | [], _, _, _, _, h => by cases h
  | u :: av, i, 0, v, _, h => by
    cases h
    exact List.mem_cons_self
  | u :: av, i, k + 1, v, hc, h => by
    have h1 := g_argsM av (i + 1) k v (fun w hw => hc w (List.mem_cons_of_mem _ hw)) h
    have hu : u.category = 1 := hc u List.mem_cons_self
    rw [show i + (k + 1) = i + 1 + k by omega]
    unfold lv_args
    rw [hu]
    exact List.mem_cons_of_mem _ h1
theorem g_slen : ∀ (av : List Value), (∀ v ∈ av, v.category = 1) → (lg_sl av).length = av.length
  | [], _ => rfl
  | u :: av, hc => by
    have h1 := g_slen av (fun w hw => hc w (List.mem_cons_of_mem _ hw))
    have hu : u.category = 1 := hc u List.mem_cons_self
    unfold lg_sl at h1 ⊢
    rw [List.flatMap_cons, List.length_append, h1, hu]
    simp [Nat.add_comm]
theorem gL.entry {av : List Value} {n : Nat} (hc : ∀ v ∈ av, v.category = 1) (hn : av.length ≤ n) : gL ((lg_sl av ++ List.replicate (n - (lg_sl av).length) Slot.unset).toArray) n (gEn av n) := by
  have h1 := lv_entry av (n := n) (by rw [g_slen av hc]; exact hn)
  refine ⟨h1.1, h1.2.1, by simp [gEn]; omega, fun i v hv => ?_⟩
  unfold gEn at hv
  by_cases hi : i < av.length
  · rw [List.getElem?_append_left (by rw [List.length_map]; exact hi), List.getElem?_map] at hv
    cases hz : av[i]? with
    | none => rw [hz] at hv; cases hv
    | some u =>
      rw [hz] at hv
      have hu : u = v := Option.some.inj (Option.some.inj hv)
      have h2 := g_argsM av 0 i u hc hz
      rw [Nat.zero_add] at h2
      rw [← hu]
      exact ⟨h1.2.2 (i, u) h2, hc u (List.mem_of_getElem? hz)⟩
  · rw [List.getElem?_append_right (by rw [List.length_map]; omega), List.getElem?_replicate] at hv
    split at hv <;> cases hv
theorem gM.of {own : String} {l : Launch} {s0 : State} {D : va_G} {cy : Nat → ClassId} {y : MethodName} {cc : ByteArray} {maxL : Nat} {ret : Option FieldType} {d mc ms : Nat} {av : List Value} {L : List Nat} {f : gF} {Qr : Option Value → List Nat → gF → Prop} (hE : gE s0 D cy) (hl : l.stackTraces = false) (hy : plainName y.cls = true) (hown : y.cls = own) (hav : (av.all fun v => v.category == 1) = true) (hlen : av.length ≤ maxL)
    (body : ∀ (p : Program) (e : Env) (s : State) (m : MethodId) (args : Array Value) (below : List Frame) (meth : Method) (c : Code), gC p l e (gRm d mc ms) s m args below meth c s0 D cy L cc maxL own → meth.sig.returnType = ret → meth.name = y.name →
      G p l e (gRm d mc ms) s m args below meth c (MQ below (gQc D L s.heap.size Qr) args s mc ms (gA L s.heap.size)) D L maxL L f 0 0 0 (gEn av maxL) []) : gM l s0 D y cc maxL ret d mc ms av L f Qr := by
  intro sz
  refine Met.ofW (cc := cc) (maxL := maxL) (ret := ret) hy rfl ?_
  intro p e s m args below meth c s₁ B hml hv
  obtain ⟨rfl, hsz, hP, hD, hW⟩ := hv
  subst hsz
  rw [lg_entry_eq]
  have hav : ∀ v ∈ av, v.category = 1 := fun v hv => by simpa using List.all_eq_true.mp hav v hv
  subst hown
  exact body p e s m _ below meth c ⟨B.exec, B.bytes, hml, findClass_of_methodNamed B.named, B.notSynchronized, hE, hW, hl⟩ B.returns (name_of_methodNamed B.named B.method).1 s.heap [] _ hP (hD.weaken (fun k q hk _ => Or.inl (by
    obtain ⟨a, ha, e⟩ := List.mem_map.mp (List.mem_of_getElem? hk)
    rw [← e]; exact ha))) va_S.rf (gL.entry hav hlen)
theorem gX.of {own : String} {l : Launch} {s0 : State} {D : va_G} {cy : Nat → ClassId} {y : MethodName} {cc : ByteArray} {maxL : Nat} {ret : Option FieldType} {d mc ms : Nat} {av : List Value} {L : List Nat} {f : gF} {Qr : Option Value → List Nat → gF → Prop} {PX : String → Prop} (hE : gE s0 D cy) (hl : l.stackTraces = false) (hy : plainName y.cls = true) (hown : y.cls = own) (hav : (av.all fun v => v.category == 1) = true) (hlen : av.length ≤ maxL)
    (body : ∀ (p : Program) (e : Env) (s : State) (m : MethodId) (args : Array Value) (below : List Frame) (meth : Method) (c : Code), gC p l e (gRm d mc ms) s m args below meth c s0 D cy L cc maxL own → meth.sig.returnType = ret → (∀ x ∈ c.exceptionTable.toList, False) →
      G p l e (gRm d mc ms) s m args below meth c (vx_MQ below (gQc D L s.heap.size Qr) (gXc D L f s.heap.size PX) args s mc ms (gA L s.heap.size)) D L maxL L f 0 0 0 (gEn av maxL) []) : gX l s0 D y cc maxL ret d mc ms av L f Qr PX := by
  intro sz
  refine vx_ofW (cc := cc) (maxL := maxL) (ret := ret) hy rfl ?_
  intro p e s m args below meth c s₁ B hml ht hv
  obtain ⟨rfl, hsz, hP, hD, hW⟩ := hv
  subst hsz
  rw [lg_entry_eq]
  have hav : ∀ v ∈ av, v.category = 1 := fun v hv => by simpa using List.all_eq_true.mp hav v hv
  subst hown
  exact body p e s m _ below meth c ⟨B.exec, B.bytes, hml, findClass_of_methodNamed B.named, B.notSynchronized, hE, hW, hl⟩ B.returns ht s.heap [] _ hP (hD.weaken (fun k q hk _ => Or.inl (by
    obtain ⟨a, ha, e⟩ := List.mem_map.mp (List.mem_of_getElem? hk)
    rw [← e]; exact ha))) va_S.rf (gL.entry hav hlen)
/-- the words of a call -/
def gwM (y : MethodName) (bytes : ByteArray) (maxL : Nat) (ret : Option FieldType) (n : Nat) : Prop := Cond.code y bytes maxL ret ∈ lw_tbl ∧ Cond.initialized y.cls ∈ lw_tbl ∧ (y.cls ≠ "java/lang/invoke/MethodHandle" ∧ y.cls ≠ "java/lang/invoke/VarHandle") ∧ (parseMethodDescriptor y.desc).map (fun d => d.parameters.length) = some n
def gwL (own : String) (idx : Nat) (y : MethodName) : Prop := Cond.methodLink own idx y ∈ lw_tbl ∨ ∃ host : String, Cond.methodLinkNest own idx y host ∈ lw_tbl
def gwV (y : MethodName) : Prop := Cond.instanceMethod y ∈ lw_tbl ∧ Cond.selects y.cls y y ∈ lw_tbl
def gwI (y : MethodName) : Prop := Cond.instanceMethod y ∈ lw_tbl ∧ y.name = "<init>"
def gwS (y : MethodName) : Prop := Cond.static y ∈ lw_tbl
section GCALL
variable {p : Program} {l : Launch} {e : Env} {R : Room} {s : State} {m : MethodId} {args : Array Value} {below : List Frame} {meth : Method} {c : Code} {Q : State → Prop}
variable {s0 : State} {D : va_G} {cy : Nat → ClassId} {L0 : List Nat} {nL : Nat} {cc : ByteArray} {own : String} {L : List Nat} {f : gF} {ce sl pc n : Nat} {ls : List (Option Value)} {st : List Value}
variable {y : MethodName} {bytes : ByteArray} {maxL idx d9 mc ms : Nat} {ret : Option FieldType} {As rest : List Value} {b : Nat} {Qr : Option Value → List Nat → gF → Prop}
theorem gA_sub {H : Heap} {L0 : List Nat} {z0 : Nat} (hD : va_D (gA L0 z0) (va_pl L f)) (hz : z0 ≤ H.size) : ∀ q, gA L H.size q → gA L0 z0 q := by
  intro q h
  rcases h with h | h
  · obtain ⟨k, hk⟩ := va_pl_get (X := []) (f := f) h
    exact hD.2 k _ hk
  · exact Or.inr (Nat.le_trans hz h)
theorem gPc_blind {av : List Value} {sz : Nat} : FrameBlind (gPc s0 D av L f sz) := fun a U g mk q => q
theorem gPc_at (C : gC p l e R s m args below meth c s0 D cy L0 cc nL own) {H : Heap} {locs : List Loc} (hP : va_P D vwCl (va_pl L f) H) (hD : va_D (gA L0 s.heap.size) (va_pl L f)) (hS : va_S (gA L0 s.heap.size) s.heap H locs) (av : List Value) : ∀ U : State, U.heap = H → s.WarmedH U.vm → gPc s0 D av L f H.size av.toArray U := by
  intro U hU hW
  have hl := C.low
  obtain ⟨-, -, -, -, -, -, ⟨w1, w2, w3, w4⟩, -⟩ := C
  refine ⟨rfl, by rw [hU], by rw [hU]; exact hP, hD.weaken (fun _ _ _ _ => trivial), State.WarmedH.trans w1 hW, by rw [hU]; exact Nat.le_trans w2 hS.1, fun a ha => ?_, fun a ha => ?_⟩
  · rw [hU, hS.2.1 a (Nat.lt_of_lt_of_le ha w2) (fun h => by have := hl a h; omega)]
    exact w3 a ha
  · obtain ⟨k, hk⟩ := va_pl_get (X := []) (f := f) ha
    exact hl a (hD.2 k _ hk)
theorem gB_of (C : gC p l e R s m args below meth c s0 D cy L0 cc nL own) (hm : gwM y bytes maxL ret n) (hl : Cond.methodLink own idx y ∈ lw_tbl) (hR : d9 + 1 ≤ R.frames ∧ 8 + (maxL + 11) + 40 * d9 ≤ R.locals) : CallB R s args own idx y bytes maxL ret [.code y bytes maxL ret] (gRm d9 mc ms) mc ms n := by
  obtain ⟨h1, h2, h3, h4⟩ := hm
  refine ⟨rfl, rfl, hR.1, hR.2, fun w hw a' U hW => ?_, List.mem_singleton.mpr rfl, C.wd h1 rfl args, C.wd h2 rfl args, h3, fun sig h => ?_, C.wd hl rfl args⟩
  · rw [List.mem_singleton.mp hw]
    exact g_word hW rfl (C.wd h1 rfl args)
  · rw [h] at h4
    exact (Option.some.inj h4).symm
theorem gN_of (C : gC p l e R s m args below meth c s0 D cy L0 cc nL own) {host : String} (hm : gwM y bytes maxL ret n) (hl : Cond.methodLinkNest own idx y host ∈ lw_tbl) (hR : d9 + 1 ≤ R.frames ∧ 8 + (maxL + 11) + 40 * d9 ≤ R.locals) : va_CN R s args own idx y host bytes maxL ret [.code y bytes maxL ret] (gRm d9 mc ms) mc ms n := by
  obtain ⟨h1, h2, h3, h4⟩ := hm
  refine ⟨⟨rfl, rfl, hR.1, hR.2, fun w hw a' U hW => ?_, List.mem_singleton.mpr rfl⟩, C.wd h1 rfl args, C.wd h2 rfl args, h3, fun sig h => ?_, va_Nw.use rfl (C.nwM hl)⟩
  · rw [List.mem_singleton.mp hw]
    exact g_word hW rfl (C.wd h1 rfl args)
  · rw [h] at h4
    exact (Option.some.inj h4).symm
theorem gS_join {H H1 : Heap} {locs Lc : List Loc} {L0 : List Nat} {z0 : Nat} {H0 : Heap} (hz0 : z0 = H0.size) (hD : va_D (gA L0 z0) (va_pl L f)) (hS : va_S (gA L0 z0) H0 H locs) (hz : H.size ≤ H1.size) (hk : ∀ q : Nat, q < H.size → ¬ gA L H.size q → H1[q]? = H[q]?) (hL : ∀ q ∈ Lc, gA L H.size q.base) : va_S (gA L0 z0) H0 H1 (locs ++ Lc) := by
  have hs := gA_sub (H := H) hD (by rw [hz0]; exact hS.1)
  refine ⟨Nat.le_trans hS.1 hz, fun q h1 h2 => ?_, fun q hq => ?_⟩
  · rw [hk q (Nat.lt_of_lt_of_le h1 hS.1) (fun h => h2 (hs q h))]
    exact hS.2.1 q h1 h2
  · rcases List.mem_append.mp hq with h | h
    · exact hS.2.2 q h
    · exact hs _ (hL q h)
theorem g_call {a9 : Array Value} (hr : ∀ (H : Heap) (locs : List Loc) (la : Array Slot), va_P D vwCl (va_pl L f) H → va_D (gA L0 s.heap.size) (va_pl L f) → va_S (gA L0 s.heap.size) s.heap H locs → gL la nL ls → va_Run p l e R s m args below meth c H locs ce sl mc ms (F0 m pc la st) rest (gQc D L H.size Qr a9) (gA L H.size)) (hn : pc + 3 = n)
    (kk : ∀ (v : Option Value) (L1 : List Nat) (f1 : gF), Qr v L1 f1 → G p l e R s m args below meth c Q D L0 nL L1 f1 (ce + mc) (sl + ms) n ls (v.toList ++ rest)) : G p l e R s m args below meth c Q D L0 nL L f ce sl pc ls (st) := by
  intro H locs la hP hD hS hl T hT X
  subst hn
  obtain ⟨v, st₀, t, T', Lc, h0, X', hL, e1, e2, ⟨⟨v', L1, f1, hv, hq, hP1, hD1⟩, hz, hk⟩, stp⟩ := hr H locs la hP hD hS hl T hT X
  cases hv
  rw [h0] at hz hk
  have hs := gA_sub (H := H) hD hS.1
  obtain ⟨t2, a1, b1⟩ := kk v L1 f1 hq T'.heap (locs ++ Lc) la (by rw [e1]; exact hP1) (hD1.weaken (fun k q _ h => hs _ h)) (gS_join rfl hD hS (by rw [e1]; exact hz) (fun q h1 h2 => by rw [e1]; exact hk q h1 h2) hL) hl T' rfl X'
  exact ⟨t2, stp t2 a1, b1⟩
theorem g_V (C : gC p l e R s m args below meth c s0 D cy L0 cc nL own) {ci N k9 : Nat} {fs : List Value} {T9 : u_T} (hM : gM l s0 D y bytes maxL ret d9 mc ms (.ref b :: As) L f Qr) (d : decode cc pc = .ok (.invokevirtual idx, 3)) (hm : gwM y bytes maxL ret k9) (hl9 : gwL own idx y) (hv : gwV y) (hb : gH L f b (.inr (ci, fs))) (hc : vwCl[ci]? = some (y.cls, T9, N)) (hk9 : As.length = k9) (hst : st = As.reverse ++ .ref b :: rest) (hrm : (rest.map fun v => v.category).sum ≤ 8) (hR : d9 + 1 ≤ R.frames ∧ 8 + (maxL + 11) + 40 * d9 ≤ R.locals) (hR2 : ce + mc ≤ R.cells ∧ sl + ms ≤ R.slots) (hn : pc + 3 = n)
    (kk : ∀ (v : Option Value) (L1 : List Nat) (f1 : gF), Qr v L1 f1 → G p l e R s m args below meth c Q D L0 nL L1 f1 (ce + mc) (sl + ms) n ls (v.toList ++ rest)) : G p l e R s m args below meth c Q D L0 nL L f ce sl pc ls (st) := by
  refine g_call (a9 := (Value.ref b :: As).toArray) (fun H locs la hP hD hS hl => ?_) hn kk
  subst hst
  obtain ⟨q0, hq⟩ := gp_at (X := []) (D9 := D) (H := H) hb
  rcases hl9 with h9 | ⟨host, h9⟩
  · exact va_runV (Ts := []) ⟨C.1, C.2.1, C.2.2.1, C.2.2.2.1, fun w h => by cases h⟩ (hM H.size) ⟨gB_of C hm h9 hR, C.wd hv.1 rfl args, C.wd hv.2 rfl args⟩ ⟨gPc_blind, va_recv C.K hP hc hq, gPc_at C hP hD hS _⟩ rfl hk9 hl.1 rfl (lv_room hrm) d hR2
  · exact va_runVN (Ts := []) ⟨C.1, C.2.1, C.2.2.1, C.2.2.2.1, fun w h => by cases h⟩ (hM H.size) ⟨gN_of C hm h9 hR, C.wd hv.1 rfl args, C.wd hv.2 rfl args⟩ ⟨gPc_blind, va_recv C.K hP hc hq, gPc_at C hP hD hS _⟩ rfl hk9 hl.1 rfl (lv_room hrm) d hR2
theorem g_S (C : gC p l e R s m args below meth c s0 D cy L0 cc nL own) {k9 : Nat} (hM : gM l s0 D y bytes maxL ret d9 mc ms As L f Qr) (d : decode cc pc = .ok (.invokestatic idx, 3)) (hm : gwM y bytes maxL ret k9) (hl9 : gwL own idx y) (hv : gwS y) (hk9 : As.length = k9) (hst : st = As.reverse ++ rest) (hrm : (rest.map fun v => v.category).sum ≤ 8) (hR : d9 + 1 ≤ R.frames ∧ 8 + (maxL + 11) + 40 * d9 ≤ R.locals) (hR2 : ce + mc ≤ R.cells ∧ sl + ms ≤ R.slots) (hn : pc + 3 = n)
    (kk : ∀ (v : Option Value) (L1 : List Nat) (f1 : gF), Qr v L1 f1 → G p l e R s m args below meth c Q D L0 nL L1 f1 (ce + mc) (sl + ms) n ls (v.toList ++ rest)) : G p l e R s m args below meth c Q D L0 nL L f ce sl pc ls (st) := by
  refine g_call (a9 := As.toArray) (fun H locs la hP hD hS hl => ?_) hn kk
  subst hst
  rcases hl9 with h9 | ⟨host, h9⟩
  · exact va_runS (Ts := []) ⟨C.1, C.2.1, C.2.2.1, C.2.2.2.1, fun w h => by cases h⟩ (hM H.size) ⟨gB_of C hm h9 hR, C.wd hv rfl args⟩ ⟨gPc_blind, gPc_at C hP hD hS _⟩ rfl hk9 hl.1 rfl (lv_room hrm) d hR2
  · exact va_runSN (Ts := []) ⟨C.1, C.2.1, C.2.2.1, C.2.2.2.1, fun w h => by cases h⟩ (hM H.size) ⟨gN_of C hm h9 hR, C.wd hv rfl args, trivial⟩ ⟨gPc_blind, gPc_at C hP hD hS _⟩ rfl hk9 hl.1 rfl (lv_room hrm) d hR2
theorem g_I (C : gC p l e R s m args below meth c s0 D cy L0 cc nL own) {k9 : Nat} (hM : gM l s0 D y bytes maxL none d9 mc ms (.ref b :: As) L f Qr) (d : decode cc pc = .ok (.invokespecial idx, 3)) (hm : gwM y bytes maxL none k9) (hl9 : gwL own idx y) (hv : gwI y) (hk9 : As.length = k9) (hst : st = As.reverse ++ .ref b :: rest) (hrm : (rest.map fun v => v.category).sum ≤ 8) (hR : d9 + 1 ≤ R.frames ∧ 8 + (maxL + 11) + 40 * d9 ≤ R.locals) (hR2 : ce + mc ≤ R.cells ∧ sl + ms ≤ R.slots) (hn : pc + 3 = n)
    (kk : ∀ (v : Option Value) (L1 : List Nat) (f1 : gF), Qr v L1 f1 → G p l e R s m args below meth c Q D L0 nL L1 f1 (ce + mc) (sl + ms) n ls (v.toList ++ rest)) : G p l e R s m args below meth c Q D L0 nL L f ce sl pc ls (st) := by
  refine g_call (a9 := (Value.ref b :: As).toArray) (fun H locs la hP hD hS hl => ?_) hn kk
  subst hst
  rcases hl9 with h9 | ⟨host, h9⟩
  · exact va_runI (Ts := []) ⟨C.1, C.2.1, C.2.2.1, C.2.2.2.1, fun w h => by cases h⟩ (hM H.size) ⟨gB_of C hm h9 hR, hv.2, C.wd hv.1 rfl args⟩ ⟨gPc_blind, gPc_at C hP hD hS _⟩ rfl hk9 hl.1 rfl (lv_room hrm) d hR2
  · exact va_runIN (Ts := []) ⟨C.1, C.2.1, C.2.2.1, C.2.2.2.1, fun w h => by cases h⟩ (hM H.size) ⟨gN_of C hm h9 hR, hv.2, C.wd hv.1 rfl args⟩ ⟨gPc_blind, gPc_at C hP hD hS _⟩ rfl hk9 hl.1 rfl (lv_room hrm) d hR2
theorem g_iret (C : gC p l e R s m args below meth c s0 D cy L0 cc nL own) {v : Int32} (hr : meth.sig.returnType = some .int) (d : decode cc pc = .ok (.ireturn, 1)) (hQ : Qr (some (.int v)) L f) (hc : ce ≤ mc ∧ sl ≤ ms) : G p l e R s m args below meth c (MQ below (gQc D L0 s.heap.size Qr) args s mc ms (gA L0 s.heap.size)) D L0 nL L f ce sl pc ls [.int v] := by
  intro H locs la hP hD hS hl
  refine W.widen hc.1 hc.2 ?_
  exact W.iret C.1 C.2.1 hr (fun t ht hW => ⟨⟨_, L, f, rfl, hQ, by rw [ht]; exact hP, hD⟩, hS.F ht⟩) hS.2.2 d C.2.2.2.2.1
theorem g_zret (C : gC p l e R s m args below meth c s0 D cy L0 cc nL own) {v : Int32} (hr : meth.sig.returnType = some .boolean) (hz : narrow .boolean (.int v) = .int v) (d : decode cc pc = .ok (.ireturn, 1)) (hQ : Qr (some (.int v)) L f) (hc : ce ≤ mc ∧ sl ≤ ms) : G p l e R s m args below meth c (MQ below (gQc D L0 s.heap.size Qr) args s mc ms (gA L0 s.heap.size)) D L0 nL L f ce sl pc ls [.int v] := by
  intro H locs la hP hD hS hl
  refine W.widen hc.1 hc.2 ?_
  exact W.zret C.1 C.2.1 hr hz (fun t ht hW => ⟨⟨_, L, f, rfl, hQ, by rw [ht]; exact hP, hD⟩, hS.F ht⟩) hS.2.2 d C.2.2.2.2.1
theorem g_vret (C : gC p l e R s m args below meth c s0 D cy L0 cc nL own) (hr : meth.sig.returnType = none) (d : decode cc pc = .ok (.return_, 1)) (hQ : Qr none L f) (hc : ce ≤ mc ∧ sl ≤ ms) : G p l e R s m args below meth c (MQ below (gQc D L0 s.heap.size Qr) args s mc ms (gA L0 s.heap.size)) D L0 nL L f ce sl pc ls [] := by
  intro H locs la hP hD hS hl
  refine W.widen hc.1 hc.2 ?_
  exact W.vret C.1 C.2.1 hr (fun t ht hW => ⟨⟨_, L, f, rfl, hQ, by rw [ht]; exact hP, hD⟩, hS.F ht⟩) hS.2.2 d C.2.2.2.2.1
theorem g_aret (C : gC p l e R s m args below meth c s0 D cy L0 cc nL own) {o : Option Nat} {rt : FieldType} (hr : meth.sig.returnType = some rt) (hrt : (∃ n, rt = .object n) ∨ ∃ t, rt = .array t) (d : decode cc pc = .ok (.areturn, 1)) (hQ : Qr (some (va_rf o)) L f) (hc : ce ≤ mc ∧ sl ≤ ms) : G p l e R s m args below meth c (MQ below (gQc D L0 s.heap.size Qr) args s mc ms (gA L0 s.heap.size)) D L0 nL L f ce sl pc ls [va_rf o] := by
  intro H locs la hP hD hS hl
  refine W.widen hc.1 hc.2 ?_
  exact W.aret C.1 C.2.1 hr hrt (va_rf_or o) (fun t ht hW => ⟨⟨_, L, f, rfl, hQ, by rw [ht]; exact hP, hD⟩, hS.F ht⟩) hS.2.2 d C.2.2.2.2.1
variable {f0 : gF} {PX PX9 : String → Prop} {mc9 ms9 : Nat}
theorem G.x (k : G p l e R s m args below meth c (MQ below (gQc D L0 s.heap.size Qr) args s mc ms (gA L0 s.heap.size)) D L0 nL L f ce sl pc ls st) : G p l e R s m args below meth c (vx_MQ below (gQc D L0 s.heap.size Qr) (gXc D L0 f0 s.heap.size PX) args s mc ms (gA L0 s.heap.size)) D L0 nL L f ce sl pc ls st := fun H locs la hP hD hS hl => vx_ret (k H locs la hP hD hS hl)
theorem g_callX {a9 : Array Value} {Qr9 : Option Value → List Nat → gF → Prop} (C : gC p l e R s m args below meth c s0 D cy L0 cc nL own) (hno : ∀ x ∈ c.exceptionTable.toList, False) (hr : ∀ (H : Heap) (locs : List Loc) (la : Array Slot), va_P D vwCl (va_pl L0 f0) H → va_D (gA L0 s.heap.size) (va_pl L0 f0) → va_S (gA L0 s.heap.size) s.heap H locs → gL la nL ls → vx_Run p l e R s m args below meth c H locs ce sl mc9 ms9 (F0 m pc la st) rest (gQc D L0 H.size Qr9 a9) (gXc D L0 f0 H.size PX9) (gA L0 H.size)) (hn : pc + 3 = n) (hpx : ∀ E, PX9 E → PX E) (hc : ce + mc9 ≤ mc ∧ sl + ms9 ≤ ms)
    (kk : ∀ (v : Option Value) (L1 : List Nat) (f1 : gF), Qr9 v L1 f1 → G p l e R s m args below meth c (vx_MQ below (gQc D L0 s.heap.size Qr) (gXc D L0 f0 s.heap.size PX) args s mc ms (gA L0 s.heap.size)) D L0 nL L1 f1 (ce + mc9) (sl + ms9) n ls (v.toList ++ rest)) : G p l e R s m args below meth c (vx_MQ below (gQc D L0 s.heap.size Qr) (gXc D L0 f0 s.heap.size PX) args s mc ms (gA L0 s.heap.size)) D L0 nL L0 f0 ce sl pc ls st := by
  intro H locs la hP hD hS hl T hT X
  subst hn
  have hs := gA_sub (H := H) hD hS.1
  rcases hr H locs la hP hD hS hl T hT X with ⟨v, st₀, t, T', Lc, h0, X', hL, e1, e2, ⟨⟨v', L1, f1, hv, hq, hP1, hD1⟩, hz, hk⟩, stp⟩ | ⟨q, st₀, t, T', Lc, E, ce9, h0, X', hL, e1, e2, ⟨hpe, hP1, hD1, hz, hk⟩, hce, hcv, hcl, stp⟩
  · cases hv
    rw [h0] at hz hk
    obtain ⟨t2, a1, b1⟩ := kk v L1 f1 hq T'.heap (locs ++ Lc) la (by rw [e1]; exact hP1) (hD1.weaken (fun k q _ h => hs _ h)) (gS_join rfl hD hS (by rw [e1]; exact hz) (fun q h1 h2 => by rw [e1]; exact hk q h1 h2) hL) hl T' rfl X'
    exact ⟨t2, stp t2 a1, b1⟩
  · rw [h0] at hz hk
    have hS1 : va_S (gA L0 s.heap.size) s.heap t.heap (locs ++ Lc) := gS_join rfl hD hS hz hk hL
    have hvx := vx_out (p := p) (l := l) (e := e) (R := R) (s := s) (m := m) (args := args) (below := below) (meth := meth) (c := c) (H := t.heap) (locs := locs ++ Lc) (cells := ce + mc9) (slots := sl + ms9) (Qc := gQc D L0 s.heap.size Qr) (XC := gXc D L0 f0 s.heap.size PX) (free := gA L0 s.heap.size) (ls := la) (rest := rest) (pc := pc) (E := E) (ce := ce9) (q := q) (mc := mc) (ms := ms)
      (fun x hx => (hno x hx).elim) C.2.2.2.2.1 hce hcv hcl (fun t9 ht9 _ => ⟨hpx E hpe, by rw [ht9]; exact hP1, hD1.weaken (fun k q _ h => hs _ h), hS1.F ht9⟩) hS1.2.2 hc.1 hc.2
    obtain ⟨t2, a1, b1⟩ := hvx T' e1 X'
    exact ⟨t2, stp.trans a1, b1⟩
theorem g_VX (C : gC p l e R s m args below meth c s0 D cy L0 cc nL own) {Qr9 : Option Value → List Nat → gF → Prop} {ci N k9 : Nat} {fs : List Value} {T9 : u_T} (hno : ∀ x ∈ c.exceptionTable.toList, False) (hM : gX l s0 D y bytes maxL ret d9 mc9 ms9 (.ref b :: As) L0 f0 Qr9 PX9) (d : decode cc pc = .ok (.invokevirtual idx, 3)) (hm : gwM y bytes maxL ret k9) (hl9 : Cond.methodLink own idx y ∈ lw_tbl) (hv : gwV y) (hb : gH L0 f0 b (.inr (ci, fs))) (hcl : vwCl[ci]? = some (y.cls, T9, N)) (hk9 : As.length = k9) (hst : st = As.reverse ++ .ref b :: rest) (hrm : (rest.map fun v => v.category).sum ≤ 8) (hR : d9 + 1 ≤ R.frames ∧ 8 + (maxL + 11) + 40 * d9 ≤ R.locals) (hR2 : ce + mc9 ≤ R.cells ∧ sl + ms9 ≤ R.slots) (hn : pc + 3 = n) (hpx : ∀ E, PX9 E → PX E) (hc : ce + mc9 ≤ mc ∧ sl + ms9 ≤ ms)
    (kk : ∀ (v : Option Value) (L1 : List Nat) (f1 : gF), Qr9 v L1 f1 → G p l e R s m args below meth c (vx_MQ below (gQc D L0 s.heap.size Qr) (gXc D L0 f0 s.heap.size PX) args s mc ms (gA L0 s.heap.size)) D L0 nL L1 f1 (ce + mc9) (sl + ms9) n ls (v.toList ++ rest)) : G p l e R s m args below meth c (vx_MQ below (gQc D L0 s.heap.size Qr) (gXc D L0 f0 s.heap.size PX) args s mc ms (gA L0 s.heap.size)) D L0 nL L0 f0 ce sl pc ls st := by
  refine g_callX (a9 := (Value.ref b :: As).toArray) C hno (fun H locs la hP hD hS hl => ?_) hn hpx hc kk
  subst hst
  obtain ⟨q0, hq⟩ := gp_at (X := []) (D9 := D) (H := H) hb
  exact vx_runV (Ts := []) ⟨C.1, C.2.1, C.2.2.1, C.2.2.2.1, fun w h => by cases h⟩ (hM H.size) ⟨gB_of C hm hl9 hR, C.wd hv.1 rfl args, C.wd hv.2 rfl args⟩ ⟨gPc_blind, va_recv C.K hP hcl hq, gPc_at C hP hD hS _⟩ rfl hk9 hl.1 rfl (lv_room hrm) d hR2
theorem g_SX (C : gC p l e R s m args below meth c s0 D cy L0 cc nL own) {Qr9 : Option Value → List Nat → gF → Prop} {k9 : Nat} (hno : ∀ x ∈ c.exceptionTable.toList, False) (hM : gX l s0 D y bytes maxL ret d9 mc9 ms9 As L0 f0 Qr9 PX9) (d : decode cc pc = .ok (.invokestatic idx, 3)) (hm : gwM y bytes maxL ret k9) (hl9 : Cond.methodLink own idx y ∈ lw_tbl) (hv : gwS y) (hk9 : As.length = k9) (hst : st = As.reverse ++ rest) (hrm : (rest.map fun v => v.category).sum ≤ 8) (hR : d9 + 1 ≤ R.frames ∧ 8 + (maxL + 11) + 40 * d9 ≤ R.locals) (hR2 : ce + mc9 ≤ R.cells ∧ sl + ms9 ≤ R.slots) (hn : pc + 3 = n) (hpx : ∀ E, PX9 E → PX E) (hc : ce + mc9 ≤ mc ∧ sl + ms9 ≤ ms)
    (kk : ∀ (v : Option Value) (L1 : List Nat) (f1 : gF), Qr9 v L1 f1 → G p l e R s m args below meth c (vx_MQ below (gQc D L0 s.heap.size Qr) (gXc D L0 f0 s.heap.size PX) args s mc ms (gA L0 s.heap.size)) D L0 nL L1 f1 (ce + mc9) (sl + ms9) n ls (v.toList ++ rest)) : G p l e R s m args below meth c (vx_MQ below (gQc D L0 s.heap.size Qr) (gXc D L0 f0 s.heap.size PX) args s mc ms (gA L0 s.heap.size)) D L0 nL L0 f0 ce sl pc ls st := by
  refine g_callX (a9 := As.toArray) C hno (fun H locs la hP hD hS hl => ?_) hn hpx hc kk
  subst hst
  exact vx_runS (Ts := []) ⟨C.1, C.2.1, C.2.2.1, C.2.2.2.1, fun w h => by cases h⟩ (hM H.size) ⟨gB_of C hm hl9 hR, C.wd hv rfl args⟩ ⟨gPc_blind, gPc_at C hP hD hS _⟩ rfl hk9 hl.1 rfl (lv_room hrm) d hR2
theorem gC.zq (C : gC p l e R s m args below meth c s0 D cy L0 cc nL own) : vx_Zq Bundle.tN "UNASSIGNED_STACK" Bundle.steD (gA L0 s.heap.size) s s.heap ∧ vx_Zq Bundle.tN "SUPPRESSED_SENTINEL" Bundle.listD (gA L0 s.heap.size) s s.heap := by
  have hl := C.low
  obtain ⟨-, -, -, -, -, ⟨-, -, ⟨z1, z2⟩, -⟩, ⟨w1, w2, w3, w4⟩, -⟩ := C
  have mv : ∀ {n d : String}, vx_Zq Bundle.tN n d (fun q => s0.heap.size ≤ q) s0 s0.heap → vx_Zq Bundle.tN n d (gA L0 s.heap.size) s s.heap := fun z => ((z.moved w1.alike).kept (fun a ha _ => w3 a ha)).narrow (fun q h => hl q h)
  exact ⟨mv z1, mv z2⟩
theorem g_throw (C : gC p l e R s m args below meth c s0 D cy L0 cc nL own) {ik is ic : Nat} {cls text : String} {names : List String} (hno : ∀ x ∈ c.exceptionTable.toList, False) (hcls : Bundle.fit cls = true) (hnames : ∀ n ∈ names, Bundle.fit n = true) (w1 : Cond.classLink own ik cls ∈ lw_tbl) (w2 : Cond.initialized cls ∈ lw_tbl) (w3 : Cond.stringRef own is text ∈ lw_tbl) (hat : ∀ w ∈ vx_atS own ic cls names, w ∈ lw_tbl ∧ (w.onTables && w.keepsFace) = true)
    (d0 : decode cc pc = .ok (.new ik, 3)) (d3 : decode cc (pc + 3) = .ok (.dup, 1)) (d4 : decode cc (pc + 4) = .ok (.ldc is, 2)) (d6 : decode cc (pc + 6) = .ok (.invokespecial ic, 3)) (d9 : decode cc (pc + 9) = .ok (.athrow, 1))
    (hR : names.length + 3 < R.frames ∧ (st.map fun v => v.category).sum + (13 * (names.length + 1) + 43) ≤ R.locals ∧ ce + 1 ≤ R.cells ∧ sl + 6 ≤ R.slots) (hpx : PX cls) (hc : ce + 1 ≤ mc ∧ sl + 6 ≤ ms) : G p l e R s m args below meth c (vx_MQ below (gQc D L0 s.heap.size Qr) (gXc D L0 f0 s.heap.size PX) args s mc ms (gA L0 s.heap.size)) D L0 nL L0 f0 ce sl pc ls st := by
  intro H locs la hP hD hS hl
  obtain ⟨sa, hsa⟩ : ∃ a : Nat, vk_R own is text a s := by
    obtain ⟨-, -, -, -, -, ⟨-, -, -, h4⟩, ⟨hW, -⟩, -⟩ := C
    obtain ⟨a, ha⟩ := h4 own is text w3
    exact ⟨a, ha.warm hW⟩
  have ot : ∀ w : Cond, (w.onTables && w.keepsFace) = true → vx_ot w = true := fun w h => by
    rw [Bool.and_eq_true] at h
    simp [vx_ot, h.1]
  refine vx_throwS C.1 C.2.1 C.2.2.2.2.2.2.2 C.2.2.2.1 hcls hnames (C.wd w1 rfl args) (C.wd w2 rfl args) hsa (fun w hw => C.wd (hat w hw).1 (hat w hw).2 args) (fun w hw => ?_) C.zq.1 C.zq.2 hS (by rw [C.2.2.1]; exact hl.1) d0 d3 d4 d6 d9 (fun x hx => (hno x hx).elim) hR.1 hR.2.1 hR.2.2.1 hR.2.2.2 C.2.2.2.2.1 (fun t hvm hz hk => ?_) hS.2.2 hc.1 hc.2
  · rcases List.mem_cons.mp hw with rfl | hw
    · exact ot _ rfl
    · rcases List.mem_cons.mp hw with rfl | hw
      · exact ot _ rfl
      · exact ot w (hat w hw).2
  · refine ⟨hpx, hP.kept (fun k q hq => hk q.1 (hP k q hq).lt), hD, Nat.le_trans hS.1 hz, fun q h1 h2 => ?_⟩
    rw [hk q (Nat.lt_of_lt_of_le h1 hS.1)]
    exact hS.2.1 q h1 h2
end GCALL

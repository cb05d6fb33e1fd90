/-! ===== BEGIN words of one list among another's, by their places ===== -/
theorem goodIn_r {big : List Cond} (ws : List Cond) (ps : List Nat) (hp : ws = ps.filterMap (fun i => big[i]?)) (h : ws.all goodWord = true) : GoodIn big ws := by
  intro w hw
  have h1 := List.all_eq_true.mp h w hw
  rw [hp] at hw
  obtain ⟨i, -, hi⟩ := List.mem_filterMap.mp hw
  have hm : w ∈ big := by first | exact List.mem_of_getElem? hi | exact List.getElem?_mem hi
  exact ⟨hm, good_of_word h1⟩
theorem goodIn_app {big a b : List Cond} (ha : GoodIn big a) (hb : GoodIn big b) : GoodIn big (a ++ b) := fun w h => (List.mem_append.mp h).elim (ha w) (hb w)
theorem goodIn_ca {big a b : List Cond} {c : Cond} (ha : GoodIn big (c :: a)) (hb : GoodIn big b) : GoodIn big (c :: (a ++ b)) := fun w h => (List.mem_cons.mp h).elim (fun e => ha w (List.mem_cons.mpr (Or.inl e))) (fun h => (List.mem_append.mp h).elim (fun h => ha w (List.mem_cons.mpr (Or.inr h))) (hb w))
theorem goodIn_sub {big ws : List Cond} (hm : ∀ w ∈ ws, w ∈ big) (h : ws.all goodWord = true) : GoodIn big ws := fun w hw => ⟨hm w hw, good_of_word (List.all_eq_true.mp h w hw)⟩
/-! ===== END ===== -/

/-! ===== BEGIN exceptions that leave a method, and their catching by the caller (launches without stack traces) ===== -/
section VXA
/-! The laws vx_back, vx_callV, vx_callS, vx_callSW, vx_throw0, vx_throwS follow proofs of the library, with one case more: JvmDerived/Free/Laws.lean (Back.of_free), Shelf42/LK1.lean (callV, callS), Shelf/KitTraced.lean (throwNew0V, throwNewS). -/
/-- where a method has thrown q: the class by its name, the cell, what was written, the world -/
def vx_T (XC : String → State → State → Prop) (st : State) (q : Addr) (t : State) (mc ms : Nat) (free : Addr → Prop) : Prop :=
  ∃ (E : String) (ce : Cell) (L : List Loc), XC E st t ∧ t.heap[q]? = some ce ∧ ce.vm = .none ∧ st.vm.findClass E = some ce.cls ∧ st.WarmedH t.vm ∧ st.sameButNew ({ t with vm := st.vm } : State) L mc ms ∧ ∀ z ∈ L, free z.base
def vx_Q (Qc : Array Value → State → Outcome → State → Prop) (XC : String → State → State → Prop) (mc ms : Nat) (free : Addr → Prop) : Array Value → State → Outcome → State → Prop := fun a st o t =>
  (Qc a st o t ∧ ∃ L, FrameEnd st o t L mc ms ∧ ∀ q ∈ L, free q.base) ∨ ∃ q, o = .threw q ∧ vx_T XC st q t mc ms free
/-- a callee that returns or throws -/
def vx_Met (l : Launch) (y : MethodName) (ws : List Cond) (rm : Room) (Pc : Array Value → State → Prop) (Qc : Array Value → State → Outcome → State → Prop) (XC : String → State → State → Prop) (mc ms : Nat) (free : Addr → Prop) : Prop :=
  MetFree l y (headSpec ws rm) Pc (fun _ _ _ _ _ => True) (vx_Q Qc XC mc ms free)
def vx_Post (XC : String → State → State → Prop) (mc ms : Nat) (free : Addr → Prop) : Pt → Array Value → Addr → Pt → Prop := fun A a q B =>
  ∃ (g : JFrame) (mk : MethodId) (t : State) (L : List Loc) (E : String) (ce : Cell), B.U.heap = t.heap ∧ B.U.vm = t.vm ∧ XC E (A.U.calling g mk a) t ∧ t.heap[q]? = some ce ∧ ce.vm = .none ∧ A.U.vm.findClass E = some ce.cls ∧ B.locs = A.locs ++ L ∧ (∀ z ∈ L, free z.base) ∧ B.cells = A.cells + mc ∧ B.slots = A.slots + ms
def vx_Back (l : Launch) (R : Room) (p : Program) (e : Env) (below : List Frame) (s : State) (sargs : Array Value) (y : MethodName) (len W9 : Nat)
    (Pre : Pt → Array Value → Prop) (Post : Pt → Array Value → Option Value → Pt → Prop) (PostX : Pt → Array Value → Addr → Pt → Prop) : Prop :=
  ∀ (m : MethodId) (meth : Method) (c : Code) (A : Pt) (g : JFrame) (ig : Instr) (mk : MethodId) (a : Array Value),
    Stand p l e R s m sargs below meth c A.U A.locs A.cells A.slots → g.method = m → g.locals.size = c.maxLocals → decode c.code g.pc = .ok (ig, len) →
    2 * g.monitorRoom + (g.stack.map fun v => v.category).sum ≤ W9 → A.U.methodNamed? y = some mk → Pre A a →
    (∃ (v : Option Value) (B : Pt), Stand p l e R s m sargs below meth c B.U B.locs B.cells B.slots ∧ Post A a v B ∧
      Steps p.tables e below (doInvoke e (A.U.setTop g) [] mk a).1 (B.U.setTop { g with pc := g.pc + len, stack := v.toList ++ g.stack })) ∨
    (∃ (q : Addr) (B : Pt), Stand p l e R s m sargs below meth c B.U B.locs B.cells B.slots ∧ PostX A a q B ∧
      Steps p.tables e below (doInvoke e (A.U.setTop g) [] mk a).1 ((B.U.setTop g).pushFrame (.throwing q)))
section Payer
variable {l : Launch} {R : Room} {p : Program} {e : Env} {below : List Frame} {s : State} {sargs : Array Value} {y : MethodName} {len W9 : Nat}
theorem vx_back {ws : List Cond} {rm : Room} {Pc : Array Value → State → Prop} {Qc : Array Value → State → Outcome → State → Prop} {XC : String → State → State → Prop} {mc ms : Nat} {free : Addr → Prop} {bytes : ByteArray} {maxL : Nat} {ret : Option FieldType}
    (hM : vx_Met l y ws rm Pc Qc XC mc ms free) (hblind : FrameBlind Pc) (hrc : rm.cells = mc) (hrs : rm.slots = ms)
    (hframes : rm.frames + 1 ≤ R.frames) (hlocals : W9 + (maxL + 11) + rm.locals ≤ R.locals)
    (hws : ∀ w ∈ ws, ∀ a' U, s.WarmedH U.vm → w.before a' U = true) (hcode : Cond.code y bytes maxL ret ∈ ws) (hinit : ∀ a' U, s.WarmedH U.vm → (Cond.initialized y.cls).before a' U = true) :
    vx_Back l R p e below s sargs y len W9 (PreOf R mc ms Pc) (PostOf Qc mc ms free) (vx_Post XC mc ms free) := by
  intro m meth c A g ig mk a X hg hsize hdg hW hn hp
  have h1 : (headSpec ws rm).pre.before a A.U = true := atoms_intro fun w hw => hws w hw _ _ X.warmed
  have h2 : (Cond.code y bytes maxL ret).before a A.U = true := hws _ hcode _ _ X.warmed
  have h3 : (Cond.initialized y.cls).before a A.U = true := hinit _ _ X.warmed
  have h4 : A.cells + (headSpec ws rm).room.cells ≤ R.cells := by rw [show (headSpec ws rm).room.cells = mc from hrc]; exact hp.1
  have h5 : A.slots + (headSpec ws rm).room.slots ≤ R.slots := by rw [show (headSpec ws rm).room.slots = ms from hrs]; exact hp.2.1
  have hPc : Pc a (A.U.calling g mk a) := hblind _ _ _ _ hp.2.2
  obtain ⟨U, Ls, c0, s0⟩ := A
  dsimp only [Pt.U, Pt.locs, Pt.cells, Pt.slots] at h1 h2 h3 h4 h5 X hn hPc ⊢
  obtain ⟨methY, cY, hmY, hcY, -, hlY, -, -, -, -⟩ := Cond.code_spec hn h2
  obtain ⟨kY, hkY, -⟩ := className_of_methodNamed hn
  have hinitY : kY.init = .initialized := Cond.initialized_spec (findClass_of_methodNamed hn) hkY h3
  have h : At U g.method c below := by rw [hg]; exact X.here
  have hlocals9 : W9 + (maxL + 11) + (headSpec ws rm).room.locals ≤ R.locals := hlocals
  have happ : (headSpec ws rm).appliesLoose y e.platform (U.calling g mk a) = true :=
    Spec.appliesLoose_calling (g := g) h hdg hn hkY hinitY
      (X.room_calling (g := g) (R' := (headSpec ws rm).room) hsize hmY hcY hframes (by rw [hlY]; omega) h4 h5) h1
  obtain ⟨mid, hmid⟩ := h.above
  have hfr : (U.setTop g).frames = (.java g :: mid) ++ below := by rw [State.frames_setTop' g h.top, hmid]; rfl
  obtain ⟨o, s₂, hsteps, -, hend, hq⟩ := Steps.callFree hM p X.admits X.cas X.clock (acts := []) hfr happ hPc trivial
  have hq' : vx_Q Qc XC mc ms free a (U.calling g mk a) o s₂ := hq
  rw [State.frames_setTop' g h.top] at hend
  obtain ⟨g₀, hg0⟩ := Option.isSome_iff_exists.mp h.top
  obtain ⟨r, hr⟩ := State.topJava?_eq_some.mp hg0
  have hr' : (({ U with heap := s₂.heap, slotsUsed := s₂.slotsUsed } : State).setVm s₂.vm).frames = .java g₀ :: r := hr
  rcases hq' with ⟨hqc, L, hfe, hL⟩ | ⟨q, rfl, E, ce, L, hx, hce, hcv, hcl, hW₂, hsm, hL⟩
  · obtain ⟨⟨v, rfl⟩, hW₂, e2, q2, q3, q4, q5, q6⟩ := id hfe
    have e3 : s₂ = ({ (U.calling g mk a).setFrames s₂.frames with heap := s₂.heap, slotsUsed := s₂.slotsUsed } : State).setVm s₂.vm := by
      have : s₂ = ({ s₂ with vm := (U.calling g mk a).vm } : State).setVm s₂.vm := rfl
      rw [e2] at this
      exact this
    obtain ⟨c₂, i₂, len₂, hc₂, hd₂, hf₂⟩ := hend
    have hW' : U.WarmedH s₂.vm := hW₂
    have hcc : c₂ = c := by
      have h1 : s₂.code? g.method = U.code? g.method := by
        rw [State.code?_eq, State.code?_eq, hW'.alike.method?]
      exact Option.some.inj (hc₂.symm.trans (h1.trans h.code))
    subst hcc
    have hlen : len₂ = len := by rw [hdg] at hd₂; cases hd₂; rfl
    subst hlen
    have hs₂ : s₂ = (({ U with heap := s₂.heap, slotsUsed := s₂.slotsUsed } : State).setVm s₂.vm).setTop { g with pc := g.pc + len₂, stack := v.toList ++ g.stack } := by
      refine e3.trans ?_
      rw [hf₂, State.calling_eq h.top, State.setFrames_setFrames, State.setTop_of_frames _ hr', hr]
      rfl
    have hsame : U.sameButNew ({ U with heap := s₂.heap, slotsUsed := s₂.slotsUsed } : State) L mc ms := by
      refine ⟨?_, q2, q3, q4, q5, q6⟩
      obtain ⟨t, ht, -⟩ := State.frames_cons hr
      show ({ U with heap := s₂.heap, slotsUsed := s₂.slotsUsed } : State) = { U.setFrames U.frames with heap := s₂.heap, slotsUsed := s₂.slotsUsed }
      rw [State.setFrames_self ht]
    subst hg
    refine Or.inl ⟨v, ⟨(({ U with heap := s₂.heap, slotsUsed := s₂.slotsUsed } : State).setVm s₂.vm), Ls ++ L, c0 + mc, s0 + ms⟩,
      ⟨X.admits, X.cas, X.clock, X.frames, X.room, X.hears, X.method, X.code, (X.here.setHeapUsed s₂.heap s₂.slotsUsed).setVm hW'.alike, X.tail, State.WarmedH.trans X.warmed hW', X.limits, X.bytes, X.same.trans (hsame.setVm s.vm)⟩,
      ⟨g, mk, s₂, L, rfl, rfl, hqc, rfl, hL, rfl, rfl⟩, ?_⟩
    show Steps p.tables e below _ ((({ U with heap := s₂.heap, slotsUsed := s₂.slotsUsed } : State).setVm s₂.vm).setTop { g with pc := g.pc + len₂, stack := v.toList ++ g.stack })
    rw [← hs₂]
    exact hsteps
  · obtain ⟨e2, q2, q3, q4, q5, q6⟩ := id hsm
    have e3 : s₂ = ({ (U.calling g mk a).setFrames s₂.frames with heap := s₂.heap, slotsUsed := s₂.slotsUsed } : State).setVm s₂.vm := by
      have : s₂ = ({ s₂ with vm := (U.calling g mk a).vm } : State).setVm s₂.vm := rfl
      rw [e2] at this
      exact this
    have hf₂ : s₂.frames = .throwing q :: .java g :: U.frames.tail := hend
    have hW' : U.WarmedH s₂.vm := hW₂
    have hs₂ : s₂ = ((({ U with heap := s₂.heap, slotsUsed := s₂.slotsUsed } : State).setVm s₂.vm).setTop g).pushFrame (.throwing q) := by
      refine e3.trans ?_
      rw [hf₂, State.calling_eq h.top, State.setFrames_setFrames, State.pushFrame, State.frames_setTop _ hr', State.setTop_of_frames _ hr', State.setFrames_setFrames, hr]
      rfl
    have hsame : U.sameButNew ({ U with heap := s₂.heap, slotsUsed := s₂.slotsUsed } : State) L mc ms := by
      refine ⟨?_, q2, q3, q4, q5, q6⟩
      obtain ⟨t, ht, -⟩ := State.frames_cons hr
      show ({ U with heap := s₂.heap, slotsUsed := s₂.slotsUsed } : State) = { U.setFrames U.frames with heap := s₂.heap, slotsUsed := s₂.slotsUsed }
      rw [State.setFrames_self ht]
    subst hg
    refine Or.inr ⟨q, ⟨(({ U with heap := s₂.heap, slotsUsed := s₂.slotsUsed } : State).setVm s₂.vm), Ls ++ L, c0 + mc, s0 + ms⟩,
      ⟨X.admits, X.cas, X.clock, X.frames, X.room, X.hears, X.method, X.code, (X.here.setHeapUsed s₂.heap s₂.slotsUsed).setVm hW'.alike, X.tail, State.WarmedH.trans X.warmed hW', X.limits, X.bytes, X.same.trans (hsame.setVm s.vm)⟩,
      ⟨g, mk, s₂, L, E, ce, rfl, rfl, hx, hce, hcv, hcl, rfl, hL, rfl, rfl⟩, ?_⟩
    show Steps p.tables e below _ (((({ U with heap := s₂.heap, slotsUsed := s₂.slotsUsed } : State).setVm s₂.vm).setTop g).pushFrame (.throwing q))
    rw [← hs₂]
    exact hsteps
end Payer
section Calls
variable {p : Program} {l : Launch} {e : Env} {R : Room} {s : State} {m : MethodId} {args : Array Value} {below : List Frame} {meth : Method} {c : Code} {T : State} {locs : List Loc} {cells slots : Nat}
theorem vx_callV (X : Stand p l e R s m args below meth c T locs cells slots) (hexec : p.tables.exec = Jvm.exec) {own C : String} {index : Nat} {y : MethodName} {bytes : ByteArray} {maxL : Nat} {ret : Option FieldType}
    (hown : s.vm.findClass own = some m.cls) (hlink : (Cond.methodLink own index y).before args s = true) (hinst : (Cond.instanceMethod y).before args s = true) (hsel : (Cond.selects C y y).before args s = true)
    (hcode : (Cond.code y bytes maxL ret).before args s = true) (hy : y.cls ≠ "java/lang/invoke/MethodHandle" ∧ y.cls ≠ "java/lang/invoke/VarHandle")
    {W9 : Nat} {Pre : Pt → Array Value → Prop} {Post : Pt → Array Value → Option Value → Pt → Prop} {PostX : Pt → Array Value → Addr → Pt → Prop} (hK : vx_Back l R p e below s args y 3 W9 Pre Post PostX)
    {b : Addr} {cellB : Cell} (hcell : T.heap[b]? = some cellB) (hobj : cellB.vm.isStatics = false) (hcls : s.vm.findClass C = some cellB.cls)
    {g : JFrame} (hg : g.method = m) (hsize : g.locals.size = c.maxLocals) {argsL rest : List Value} (hlen : ∀ sig, parseMethodDescriptor y.desc = some sig → argsL.length = sig.parameters.length)
    (hstack : g.stack = argsL.reverse ++ .ref b :: rest) (hW : 2 * g.monitorRoom + (rest.map fun v => v.category).sum ≤ W9) (hdg : decode c.code g.pc = .ok (.invokevirtual index, 3))
    (hpre : ∀ vm₁, s.WarmedH vm₁ → Pre ⟨T.setVm vm₁, locs, cells, slots⟩ (Value.ref b :: argsL).toArray) :
    (∃ (v : Option Value) (vm₁ : Vm) (B : Pt), s.WarmedH vm₁ ∧ Stand p l e R s m args below meth c B.U B.locs B.cells B.slots ∧ Post ⟨T.setVm vm₁, locs, cells, slots⟩ (Value.ref b :: argsL).toArray v B ∧
      ∀ target, Steps p.tables e below (B.U.setTop { g with pc := g.pc + 3, stack := v.toList ++ rest }) target → Steps p.tables e below (T.setTop g) target) ∨
    (∃ (q : Addr) (vm₁ : Vm) (B : Pt), s.WarmedH vm₁ ∧ Stand p l e R s m args below meth c B.U B.locs B.cells B.slots ∧ PostX ⟨T.setVm vm₁, locs, cells, slots⟩ (Value.ref b :: argsL).toArray q B ∧
      Steps p.tables e below (T.setTop g) ((B.U.setTop { g with stack := rest }).pushFrame (.throwing q))) := by
  obtain ⟨mk, methM, hnamed, hmethM, hstM, habM⟩ := Cond.instanceMethod_spec hinst
  obtain ⟨methM', cM, hmethM', -, -, -, -, -, -, hsigM⟩ := Cond.code_spec hnamed hcode
  cases hmethM.symm.trans hmethM'
  obtain ⟨c2, r2, m2, q1, q2, q3, q4, kP, hkP, hkPi⟩ := Cond.selects_spec hsel
  cases hcls.symm.trans q1
  cases (State.methodFound?_of_named hnamed hy).symm.trans q2
  cases hnamed.symm.trans q3
  have hselP : selectMethod e.platform s.vm cellB.cls mk = .method mk := by rw [Launch.admits_selectMethod X.admits]; exact q4
  obtain ⟨vm₁, X₁, hstep₁⟩ := X.invokevirtual hexec hown hlink hnamed hmethM hstM hkP hkPi hy (a := b) (cell := cellB) hcell
    (fun z h => by rw [h] at hobj; cases hobj) hselP hmethM habM hkP hkPi (g := g) hg (argsL := argsL) (rest := rest) (hlen _ hsigM) hstack hdg
  rcases hK m meth c ⟨T.setVm vm₁, locs, cells, slots⟩ { g with stack := rest } (.invokevirtual index) mk (Value.ref b :: argsL).toArray X₁ hg hsize hdg hW (X₁.named hnamed) (hpre vm₁ X₁.warmed) with ⟨v, B, X', hpost, hsteps⟩ | ⟨q, B, X', hpost, hsteps⟩
  · exact Or.inl ⟨v, vm₁, B, X₁.warmed, X', hpost, fun target h => hstep₁ _ fun acts => by rw [doInvoke_state]; exact hsteps.trans h⟩
  · exact Or.inr ⟨q, vm₁, B, X₁.warmed, X', hpost, hstep₁ _ fun acts => by rw [doInvoke_state]; exact hsteps⟩
theorem vx_callS (X : Stand p l e R s m args below meth c T locs cells slots) (hexec : p.tables.exec = Jvm.exec) {own : String} {index : Nat} {y : MethodName} {bytes : ByteArray} {maxL : Nat} {ret : Option FieldType}
    (hown : s.vm.findClass own = some m.cls) (hlink : (Cond.methodLink own index y).before args s = true) (hstat : (Cond.static y).before args s = true) (hinit : (Cond.initialized y.cls).before args s = true)
    (hcode : (Cond.code y bytes maxL ret).before args s = true) (hy : y.cls ≠ "java/lang/invoke/MethodHandle" ∧ y.cls ≠ "java/lang/invoke/VarHandle")
    {W9 : Nat} {Pre : Pt → Array Value → Prop} {Post : Pt → Array Value → Option Value → Pt → Prop} {PostX : Pt → Array Value → Addr → Pt → Prop} (hK : vx_Back l R p e below s args y 3 W9 Pre Post PostX)
    {g : JFrame} (hg : g.method = m) (hsize : g.locals.size = c.maxLocals) {argsL rest : List Value} (hlen : ∀ sig, parseMethodDescriptor y.desc = some sig → argsL.length = sig.parameters.length)
    (hstack : g.stack = argsL.reverse ++ rest) (hW : 2 * g.monitorRoom + (rest.map fun v => v.category).sum ≤ W9) (hdg : decode c.code g.pc = .ok (.invokestatic index, 3))
    (hpre : ∀ vm₁, s.WarmedH vm₁ → Pre ⟨T.setVm vm₁, locs, cells, slots⟩ argsL.toArray) :
    (∃ (v : Option Value) (vm₁ : Vm) (B : Pt), s.WarmedH vm₁ ∧ Stand p l e R s m args below meth c B.U B.locs B.cells B.slots ∧ Post ⟨T.setVm vm₁, locs, cells, slots⟩ argsL.toArray v B ∧
      ∀ target, Steps p.tables e below (B.U.setTop { g with pc := g.pc + 3, stack := v.toList ++ rest }) target → Steps p.tables e below (T.setTop g) target) ∨
    (∃ (q : Addr) (vm₁ : Vm) (B : Pt), s.WarmedH vm₁ ∧ Stand p l e R s m args below meth c B.U B.locs B.cells B.slots ∧ PostX ⟨T.setVm vm₁, locs, cells, slots⟩ argsL.toArray q B ∧
      Steps p.tables e below (T.setTop g) ((B.U.setTop { g with stack := rest }).pushFrame (.throwing q))) := by
  obtain ⟨mk, hnamed⟩ := Cond.code_named hcode
  obtain ⟨methM, cM, hmethM, -, -, -, -, -, -, hsigM⟩ := Cond.code_spec hnamed hcode
  have hstatic : methM.isStatic = true := Cond.static_spec hnamed hmethM hstat
  obtain ⟨kP, hkP, -⟩ := className_of_methodNamed hnamed
  have hinitP : kP.init = .initialized := Cond.initialized_spec (findClass_of_methodNamed hnamed) hkP hinit
  obtain ⟨vm₁, X₁, hstep₁⟩ := X.invokestatic hexec hown hlink hnamed hmethM hstatic hkP hinitP hy (g := g) hg (argsL := argsL) (rest := rest) (hlen _ hsigM) hstack hdg
  rcases hK m meth c ⟨T.setVm vm₁, locs, cells, slots⟩ { g with stack := rest } (.invokestatic index) mk argsL.toArray X₁ hg hsize hdg hW (X₁.named hnamed) (hpre vm₁ X₁.warmed) with ⟨v, B, X', hpost, hsteps⟩ | ⟨q, B, X', hpost, hsteps⟩
  · exact Or.inl ⟨v, vm₁, B, X₁.warmed, X', hpost, fun target h => hstep₁ _ fun acts => by rw [doInvoke_state]; exact hsteps.trans h⟩
  · exact Or.inr ⟨q, vm₁, B, X₁.warmed, X', hpost, hstep₁ _ fun acts => by rw [doInvoke_state]; exact hsteps⟩
end Calls
theorem vx_cls {s : State} {T : State} {vm₁ : Vm} {E : String} {k : ClassId} (hW : s.WarmedH vm₁) (h : (T.setVm vm₁).vm.findClass E = some k) : s.vm.findClass E = some k := by
  have h1 : vm₁.findClass E = some k := h
  rw [hW.alike.findClass] at h1
  exact h1
/-- the method's frame g, with q thrown over it -/
def vx_W (p : Program) (l : Launch) (e : Env) (R : Room) (s : State) (m : MethodId) (args : Array Value) (below : List Frame) (meth : Method) (c : Code) (H : Heap) (locs : List Loc) (cells slots : Nat) (Q : State → Prop) (g : JFrame) (q : Addr) : Prop :=
  ∀ T : State, T.heap = H → Stand p l e R s m args below meth c T locs cells slots → ∃ t, Steps p.tables e below ((T.setTop g).pushFrame (.throwing q)) t ∧ Q t
def vx_Run (p : Program) (l : Launch) (e : Env) (R : Room) (s : State) (m : MethodId) (args : Array Value) (below : List Frame) (meth : Method) (c : Code) (H : Heap) (locs : List Loc) (cells slots mc ms : Nat) (g : JFrame) (rest : List Value) (Qa : State → Outcome → State → Prop) (XC : String → State → State → Prop) (free : Addr → Prop) : Prop :=
  ∀ T : State, T.heap = H → Stand p l e R s m args below meth c T locs cells slots →
    (∃ (v : Option Value) (st₀ t T' : State) (L : List Loc), st₀.heap = H ∧ Stand p l e R s m args below meth c T' (locs ++ L) (cells + mc) (slots + ms) ∧ (∀ q ∈ L, free q.base) ∧ T'.heap = t.heap ∧ T'.vm = t.vm ∧ Qa st₀ (.returned v) t ∧
      Goes p e below T g T' { g with pc := g.pc + 3, stack := v.toList ++ rest }) ∨
    (∃ (q : Addr) (st₀ t T' : State) (L : List Loc) (E : String) (ce : Cell), st₀.heap = H ∧ Stand p l e R s m args below meth c T' (locs ++ L) (cells + mc) (slots + ms) ∧ (∀ z ∈ L, free z.base) ∧ T'.heap = t.heap ∧ T'.vm = t.vm ∧ XC E st₀ t ∧ t.heap[q]? = some ce ∧ ce.vm = .none ∧ s.vm.findClass E = some ce.cls ∧
      Steps p.tables e below (T.setTop g) ((T'.setTop { g with stack := rest }).pushFrame (.throwing q)))
def vx_X {S : Type} (px : S → Prop) (B : String → S → State → Prop) (A : Nat → Prop) : String → State → State → Prop := fun E st t => ∃ u : S, px u ∧ B E u t ∧ va_F A st t
section Runs
variable {p : Program} {l : Launch} {e : Env} {R : Room} {s : State} {m : MethodId} {args : Array Value} {below : List Frame} {meth : Method} {c : Code} {H : Heap} {locs : List Loc} {cells slots : Nat}
variable {y : MethodName} {bytes cc : ByteArray} {maxL nL mc ms n index : Nat} {ret : Option FieldType} {ws : List Cond} {rm : Room} {Pc : Array Value → State → Prop} {Qc : Array Value → State → Outcome → State → Prop} {XC : String → State → State → Prop} {free : Addr → Prop} {Ts : List Cond} {own C : String} {b : Addr} {As rest : List Value} {g : JFrame}
theorem vx_callBack (cb : CallB R s args own index y bytes maxL ret ws rm mc ms n) (hM : vx_Met l y ws rm Pc Qc XC mc ms free) (hbl : FrameBlind Pc) : vx_Back l R p e below s args y 3 8 (PreOf R mc ms Pc) (PostOf Qc mc ms free) (vx_Post XC mc ms free) := by
  obtain ⟨hrc, hrs, hfr, hlo, hws, hcw, -, hini, -⟩ := cb
  exact vx_back (bytes := bytes) (maxL := maxL) (ret := ret) hM hbl hrc hrs hfr hlo hws hcw (fun a' U hW => word_at hW (Or.inl (by first | rfl | simp [Cond.onTables, Cond.keeps, Cond.steady])) hini)
theorem vx_runV (S : CallFix p m c cc nL s args Ts own) (hM : vx_Met l y ws rm Pc Qc XC mc ms free) (cw : CallW R s args own C index y bytes maxL ret ws rm mc ms n) (hp : PreV s H C b Pc As)
    (hg : g.method = m) (hn : As.length = n) (hsize : g.locals.size = nL) (hstack : g.stack = As.reverse ++ .ref b :: rest) (hW : 2 * g.monitorRoom + (rest.map fun v => v.category).sum ≤ 8) (hdg : decode cc g.pc = .ok (.invokevirtual index, 3)) (hf : cells + mc ≤ R.cells ∧ slots + ms ≤ R.slots) :
    vx_Run p l e R s m args below meth c H locs cells slots mc ms g rest (Qc (Value.ref b :: As).toArray) XC free := by
  have hK : vx_Back l R p e below s args y 3 8 (PreOf R mc ms Pc) (PostOf Qc mc ms free) (vx_Post XC mc ms free) := vx_callBack cw.1 hM hp.1
  obtain ⟨⟨-, -, -, -, -, -, hcode, -, hy, hlen, hl⟩, hin, hse⟩ := cw
  obtain ⟨hx, hb, hml, ho, -⟩ := S
  obtain ⟨-, ⟨cellB, hcB, hoB, hclB⟩, hPc⟩ := hp
  intro T hT X
  rcases vx_callV X hx (C := C) (bytes := bytes) (maxL := maxL) (ret := ret) ho hl hin hse hcode hy hK (by rw [hT]; exact hcB) hoB hclB hg (hsize.trans hml.symm) (argsL := As) (rest := rest) (fun sig h => hn.trans (hlen sig h)) hstack hW (by rw [hb]; exact hdg)
    (fun vm₁ hW₁ => ⟨hf.1, hf.2, hPc (T.setVm vm₁) hT hW₁⟩) with ⟨v, vm₁, ⟨U', l2, c2, s2⟩, hW₁, X', ⟨g', mk, t, L, e1, e2, hq, h1, hL, h2, h3⟩, st⟩ | ⟨q, vm₁, ⟨U', l2, c2, s2⟩, hW₁, X', ⟨g', mk, t, L, E, ce, e1, e2, hq, hce, hcv, hcl, h1, hL, h2, h3⟩, st⟩
  · dsimp only [Pt.U, Pt.locs, Pt.cells, Pt.slots] at X' e1 e2 h1 h2 h3 st
    subst h1; subst h2; subst h3
    exact Or.inl ⟨v, (T.setVm vm₁).calling g' mk (Value.ref b :: As).toArray, t, U', L, hT, X', hL, e1, e2, hq, st⟩
  · dsimp only [Pt.U, Pt.locs, Pt.cells, Pt.slots] at X' e1 e2 h1 h2 h3 st hcl
    subst h1; subst h2; subst h3
    exact Or.inr ⟨q, (T.setVm vm₁).calling g' mk (Value.ref b :: As).toArray, t, U', L, E, ce, hT, X', hL, e1, e2, hq, hce, hcv, vx_cls hW₁ hcl, st⟩
theorem vx_runS (S : CallFix p m c cc nL s args Ts own) (hM : vx_Met l y ws rm Pc Qc XC mc ms free) (cw : CallB R s args own index y bytes maxL ret ws rm mc ms n ∧ (Cond.static y).before args s = true) (hp : PreS s H Pc As)
    (hg : g.method = m) (hn : As.length = n) (hsize : g.locals.size = nL) (hstack : g.stack = As.reverse ++ rest) (hW : 2 * g.monitorRoom + (rest.map fun v => v.category).sum ≤ 8) (hdg : decode cc g.pc = .ok (.invokestatic index, 3)) (hf : cells + mc ≤ R.cells ∧ slots + ms ≤ R.slots) :
    vx_Run p l e R s m args below meth c H locs cells slots mc ms g rest (Qc As.toArray) XC free := by
  have hK : vx_Back l R p e below s args y 3 8 (PreOf R mc ms Pc) (PostOf Qc mc ms free) (vx_Post XC mc ms free) := vx_callBack cw.1 hM hp.1
  obtain ⟨⟨-, -, -, -, -, -, hcode, hini, hy, hlen, hl⟩, hstt⟩ := cw
  obtain ⟨hx, hb, hml, ho, -⟩ := S
  intro T hT X
  rcases vx_callS X hx (bytes := bytes) (maxL := maxL) (ret := ret) ho hl hstt hini hcode hy hK hg (hsize.trans hml.symm) (argsL := As) (rest := rest) (fun sig h => hn.trans (hlen sig h)) hstack hW (by rw [hb]; exact hdg)
    (fun vm₁ hW₁ => ⟨hf.1, hf.2, hp.2 (T.setVm vm₁) hT hW₁⟩) with ⟨v, vm₁, ⟨U', l2, c2, s2⟩, hW₁, X', ⟨g', mk, t, L, e1, e2, hq, h1, hL, h2, h3⟩, st⟩ | ⟨q, vm₁, ⟨U', l2, c2, s2⟩, hW₁, X', ⟨g', mk, t, L, E, ce, e1, e2, hq, hce, hcv, hcl, h1, hL, h2, h3⟩, st⟩
  · dsimp only [Pt.U, Pt.locs, Pt.cells, Pt.slots] at X' e1 e2 h1 h2 h3 st
    subst h1; subst h2; subst h3
    exact Or.inl ⟨v, (T.setVm vm₁).calling g' mk As.toArray, t, U', L, hT, X', hL, e1, e2, hq, st⟩
  · dsimp only [Pt.U, Pt.locs, Pt.cells, Pt.slots] at X' e1 e2 h1 h2 h3 st hcl
    subst h1; subst h2; subst h3
    exact Or.inr ⟨q, (T.setVm vm₁).calling g' mk As.toArray, t, U', L, E, ce, hT, X', hL, e1, e2, hq, hce, hcv, vx_cls hW₁ hcl, st⟩
end Runs
section Rows
variable {p : Program} {l : Launch} {e : Env} {R : Room} {s : State} {m : MethodId} {args : Array Value} {below : List Frame} {meth : Method} {c : Code} {H : Heap} {locs : List Loc} {cells slots : Nat} {Q : State → Prop}
variable {mc ms : Nat} {free : Addr → Prop} {A0 A1 : Nat → Prop} {H0 : Heap} {a : Array Value} {pc : Nat} {ls : Array Slot} {st0 rest : List Value}
theorem vx_keep {st₀ t T' : State} {L : List Loc} (h0 : st₀.heap = H) (e1 : T'.heap = t.heap) (hS : va_S A0 H0 H locs) (hA : ∀ q, q < H.size → A1 q → A0 q) (hf : ∀ q, free q → A0 q) (hL : ∀ q ∈ L, free q.base) (hF : va_F A1 st₀ t) :
    H.size ≤ T'.heap.size ∧ (∀ q : Nat, q < H.size → ¬ A1 q → T'.heap[q]? = H[q]?) ∧ va_S A0 H0 T'.heap (locs ++ L) := by
  obtain ⟨hz, hk⟩ := hF
  rw [h0] at hz hk
  exact ⟨by rw [e1]; exact hz, fun q h1 h2 => by rw [e1]; exact hk q h1 h2,
    ⟨Nat.le_trans hS.1 (by rw [e1]; exact hz), fun q h1 h2 => by rw [e1, hk q (Nat.lt_of_lt_of_le h1 hS.1) (fun z => h2 (hA q (Nat.lt_of_lt_of_le h1 hS.1) z))]; exact hS.2.1 q h1 h2, fun q hq => by
      rcases List.mem_append.mp hq with h | h
      · exact hS.2.2 q h
      · exact hf _ (hL q h)⟩⟩
theorem vx_calli {S SX : Type} {post : Int32 → S → Prop} {px : SX → Prop} {B : S → State → Prop} {BX : String → SX → State → Prop} {AX : Nat → Prop} (hr : vx_Run p l e R s m args below meth c H locs cells slots mc ms (F0 m pc ls st0) rest (va_Qi post B A1 a) (vx_X px BX AX) free) (hS : va_S A0 H0 H locs) (hA : ∀ q, q < H.size → A1 q → A0 q) (hf : ∀ q, free q → A0 q) (hAX : ∀ q, q < H.size → AX q → A0 q)
    (kx : ∀ (E : String) (ce : Cell) (q9 : Addr) (u : SX) (t : State) (H1 : Heap) (locs1 : List Loc), t.heap = H1 → s.vm.Alike t.vm → px u → BX E u t → H.size ≤ H1.size → (∀ q : Nat, q < H.size → ¬ AX q → H1[q]? = H[q]?) → va_S A0 H0 H1 locs1 → H1[q9]? = some ce → ce.vm = .none → s.vm.findClass E = some ce.cls → vx_W p l e R s m args below meth c H1 locs1 (cells + mc) (slots + ms) Q (F0 m pc ls rest) q9)
    (kk : ∀ (r : Int32) (u : S) (t : State) (H1 : Heap) (locs1 : List Loc), t.heap = H1 → s.vm.Alike t.vm → post r u → B u t → H.size ≤ H1.size → (∀ q : Nat, q < H.size → ¬ A1 q → H1[q]? = H[q]?) → va_S A0 H0 H1 locs1 → W p l e R s m args below meth c H1 locs1 (cells + mc) (slots + ms) Q (F0 m (pc + 3) ls (.int r :: rest))) : W p l e R s m args below meth c H locs cells slots Q (F0 m pc ls st0) := by
  intro T hT X
  rcases hr T hT X with ⟨v, st₀, t, T', L, h0, X', hL, e1, e2, ⟨⟨r, u, hv, hp, hb⟩, hF⟩, st⟩ | ⟨q, st₀, t, T', L, E, ce, h0, X', hL, e1, e2, ⟨u, hp, hb, hF⟩, hce, hcv, hcl, st⟩
  · cases hv
    obtain ⟨k1, k2, k3⟩ := vx_keep h0 e1 hS hA hf hL hF
    obtain ⟨t2, a1, b1⟩ := kk r u t T'.heap (locs ++ L) e1.symm (by rw [← e2]; exact X'.warmed.alike) hp hb k1 k2 k3 T' rfl X'
    exact ⟨t2, st t2 a1, b1⟩
  · obtain ⟨k1, k2, k3⟩ := vx_keep h0 e1 hS hAX hf hL hF
    obtain ⟨t2, a1, b1⟩ := kx E ce q u t T'.heap (locs ++ L) e1.symm (by rw [← e2]; exact X'.warmed.alike) hp hb k1 k2 k3 (by rw [e1]; exact hce) hcv hcl T' rfl X'
    exact ⟨t2, st.trans a1, b1⟩
theorem vx_calll {S SX : Type} {post : Int64 → S → Prop} {px : SX → Prop} {B : S → State → Prop} {BX : String → SX → State → Prop} {AX : Nat → Prop} (hr : vx_Run p l e R s m args below meth c H locs cells slots mc ms (F0 m pc ls st0) rest (va_Ql post B A1 a) (vx_X px BX AX) free) (hS : va_S A0 H0 H locs) (hA : ∀ q, q < H.size → A1 q → A0 q) (hf : ∀ q, free q → A0 q) (hAX : ∀ q, q < H.size → AX q → A0 q)
    (kx : ∀ (E : String) (ce : Cell) (q9 : Addr) (u : SX) (t : State) (H1 : Heap) (locs1 : List Loc), t.heap = H1 → s.vm.Alike t.vm → px u → BX E u t → H.size ≤ H1.size → (∀ q : Nat, q < H.size → ¬ AX q → H1[q]? = H[q]?) → va_S A0 H0 H1 locs1 → H1[q9]? = some ce → ce.vm = .none → s.vm.findClass E = some ce.cls → vx_W p l e R s m args below meth c H1 locs1 (cells + mc) (slots + ms) Q (F0 m pc ls rest) q9)
    (kk : ∀ (r : Int64) (u : S) (t : State) (H1 : Heap) (locs1 : List Loc), t.heap = H1 → s.vm.Alike t.vm → post r u → B u t → H.size ≤ H1.size → (∀ q : Nat, q < H.size → ¬ A1 q → H1[q]? = H[q]?) → va_S A0 H0 H1 locs1 → W p l e R s m args below meth c H1 locs1 (cells + mc) (slots + ms) Q (F0 m (pc + 3) ls (.long r :: rest))) : W p l e R s m args below meth c H locs cells slots Q (F0 m pc ls st0) := by
  intro T hT X
  rcases hr T hT X with ⟨v, st₀, t, T', L, h0, X', hL, e1, e2, ⟨⟨r, u, hv, hp, hb⟩, hF⟩, st⟩ | ⟨q, st₀, t, T', L, E, ce, h0, X', hL, e1, e2, ⟨u, hp, hb, hF⟩, hce, hcv, hcl, st⟩
  · cases hv
    obtain ⟨k1, k2, k3⟩ := vx_keep h0 e1 hS hA hf hL hF
    obtain ⟨t2, a1, b1⟩ := kk r u t T'.heap (locs ++ L) e1.symm (by rw [← e2]; exact X'.warmed.alike) hp hb k1 k2 k3 T' rfl X'
    exact ⟨t2, st t2 a1, b1⟩
  · obtain ⟨k1, k2, k3⟩ := vx_keep h0 e1 hS hAX hf hL hF
    obtain ⟨t2, a1, b1⟩ := kx E ce q u t T'.heap (locs ++ L) e1.symm (by rw [← e2]; exact X'.warmed.alike) hp hb k1 k2 k3 (by rw [e1]; exact hce) hcv hcl T' rfl X'
    exact ⟨t2, st.trans a1, b1⟩
theorem vx_callf {S SX : Type} {post : UInt32 → S → Prop} {px : SX → Prop} {B : S → State → Prop} {BX : String → SX → State → Prop} {AX : Nat → Prop} (hr : vx_Run p l e R s m args below meth c H locs cells slots mc ms (F0 m pc ls st0) rest (va_Qf post B A1 a) (vx_X px BX AX) free) (hS : va_S A0 H0 H locs) (hA : ∀ q, q < H.size → A1 q → A0 q) (hf : ∀ q, free q → A0 q) (hAX : ∀ q, q < H.size → AX q → A0 q)
    (kx : ∀ (E : String) (ce : Cell) (q9 : Addr) (u : SX) (t : State) (H1 : Heap) (locs1 : List Loc), t.heap = H1 → s.vm.Alike t.vm → px u → BX E u t → H.size ≤ H1.size → (∀ q : Nat, q < H.size → ¬ AX q → H1[q]? = H[q]?) → va_S A0 H0 H1 locs1 → H1[q9]? = some ce → ce.vm = .none → s.vm.findClass E = some ce.cls → vx_W p l e R s m args below meth c H1 locs1 (cells + mc) (slots + ms) Q (F0 m pc ls rest) q9)
    (kk : ∀ (r : UInt32) (u : S) (t : State) (H1 : Heap) (locs1 : List Loc), t.heap = H1 → s.vm.Alike t.vm → post r u → B u t → H.size ≤ H1.size → (∀ q : Nat, q < H.size → ¬ A1 q → H1[q]? = H[q]?) → va_S A0 H0 H1 locs1 → W p l e R s m args below meth c H1 locs1 (cells + mc) (slots + ms) Q (F0 m (pc + 3) ls (.float r :: rest))) : W p l e R s m args below meth c H locs cells slots Q (F0 m pc ls st0) := by
  intro T hT X
  rcases hr T hT X with ⟨v, st₀, t, T', L, h0, X', hL, e1, e2, ⟨⟨r, u, hv, hp, hb⟩, hF⟩, st⟩ | ⟨q, st₀, t, T', L, E, ce, h0, X', hL, e1, e2, ⟨u, hp, hb, hF⟩, hce, hcv, hcl, st⟩
  · cases hv
    obtain ⟨k1, k2, k3⟩ := vx_keep h0 e1 hS hA hf hL hF
    obtain ⟨t2, a1, b1⟩ := kk r u t T'.heap (locs ++ L) e1.symm (by rw [← e2]; exact X'.warmed.alike) hp hb k1 k2 k3 T' rfl X'
    exact ⟨t2, st t2 a1, b1⟩
  · obtain ⟨k1, k2, k3⟩ := vx_keep h0 e1 hS hAX hf hL hF
    obtain ⟨t2, a1, b1⟩ := kx E ce q u t T'.heap (locs ++ L) e1.symm (by rw [← e2]; exact X'.warmed.alike) hp hb k1 k2 k3 (by rw [e1]; exact hce) hcv hcl T' rfl X'
    exact ⟨t2, st.trans a1, b1⟩
theorem vx_calld {S SX : Type} {post : UInt64 → S → Prop} {px : SX → Prop} {B : S → State → Prop} {BX : String → SX → State → Prop} {AX : Nat → Prop} (hr : vx_Run p l e R s m args below meth c H locs cells slots mc ms (F0 m pc ls st0) rest (va_Qd post B A1 a) (vx_X px BX AX) free) (hS : va_S A0 H0 H locs) (hA : ∀ q, q < H.size → A1 q → A0 q) (hf : ∀ q, free q → A0 q) (hAX : ∀ q, q < H.size → AX q → A0 q)
    (kx : ∀ (E : String) (ce : Cell) (q9 : Addr) (u : SX) (t : State) (H1 : Heap) (locs1 : List Loc), t.heap = H1 → s.vm.Alike t.vm → px u → BX E u t → H.size ≤ H1.size → (∀ q : Nat, q < H.size → ¬ AX q → H1[q]? = H[q]?) → va_S A0 H0 H1 locs1 → H1[q9]? = some ce → ce.vm = .none → s.vm.findClass E = some ce.cls → vx_W p l e R s m args below meth c H1 locs1 (cells + mc) (slots + ms) Q (F0 m pc ls rest) q9)
    (kk : ∀ (r : UInt64) (u : S) (t : State) (H1 : Heap) (locs1 : List Loc), t.heap = H1 → s.vm.Alike t.vm → post r u → B u t → H.size ≤ H1.size → (∀ q : Nat, q < H.size → ¬ A1 q → H1[q]? = H[q]?) → va_S A0 H0 H1 locs1 → W p l e R s m args below meth c H1 locs1 (cells + mc) (slots + ms) Q (F0 m (pc + 3) ls (.double r :: rest))) : W p l e R s m args below meth c H locs cells slots Q (F0 m pc ls st0) := by
  intro T hT X
  rcases hr T hT X with ⟨v, st₀, t, T', L, h0, X', hL, e1, e2, ⟨⟨r, u, hv, hp, hb⟩, hF⟩, st⟩ | ⟨q, st₀, t, T', L, E, ce, h0, X', hL, e1, e2, ⟨u, hp, hb, hF⟩, hce, hcv, hcl, st⟩
  · cases hv
    obtain ⟨k1, k2, k3⟩ := vx_keep h0 e1 hS hA hf hL hF
    obtain ⟨t2, a1, b1⟩ := kk r u t T'.heap (locs ++ L) e1.symm (by rw [← e2]; exact X'.warmed.alike) hp hb k1 k2 k3 T' rfl X'
    exact ⟨t2, st t2 a1, b1⟩
  · obtain ⟨k1, k2, k3⟩ := vx_keep h0 e1 hS hAX hf hL hF
    obtain ⟨t2, a1, b1⟩ := kx E ce q u t T'.heap (locs ++ L) e1.symm (by rw [← e2]; exact X'.warmed.alike) hp hb k1 k2 k3 (by rw [e1]; exact hce) hcv hcl T' rfl X'
    exact ⟨t2, st.trans a1, b1⟩
theorem vx_callv {S SX : Type} {post : S → Prop} {px : SX → Prop} {B : S → State → Prop} {BX : String → SX → State → Prop} {AX : Nat → Prop} (hr : vx_Run p l e R s m args below meth c H locs cells slots mc ms (F0 m pc ls st0) rest (va_Qv post B A1 a) (vx_X px BX AX) free) (hS : va_S A0 H0 H locs) (hA : ∀ q, q < H.size → A1 q → A0 q) (hf : ∀ q, free q → A0 q) (hAX : ∀ q, q < H.size → AX q → A0 q)
    (kx : ∀ (E : String) (ce : Cell) (q9 : Addr) (u : SX) (t : State) (H1 : Heap) (locs1 : List Loc), t.heap = H1 → s.vm.Alike t.vm → px u → BX E u t → H.size ≤ H1.size → (∀ q : Nat, q < H.size → ¬ AX q → H1[q]? = H[q]?) → va_S A0 H0 H1 locs1 → H1[q9]? = some ce → ce.vm = .none → s.vm.findClass E = some ce.cls → vx_W p l e R s m args below meth c H1 locs1 (cells + mc) (slots + ms) Q (F0 m pc ls rest) q9)
    (kk : ∀ (u : S) (t : State) (H1 : Heap) (locs1 : List Loc), t.heap = H1 → s.vm.Alike t.vm → post u → B u t → H.size ≤ H1.size → (∀ q : Nat, q < H.size → ¬ A1 q → H1[q]? = H[q]?) → va_S A0 H0 H1 locs1 → W p l e R s m args below meth c H1 locs1 (cells + mc) (slots + ms) Q (F0 m (pc + 3) ls (rest))) : W p l e R s m args below meth c H locs cells slots Q (F0 m pc ls st0) := by
  intro T hT X
  rcases hr T hT X with ⟨v, st₀, t, T', L, h0, X', hL, e1, e2, ⟨⟨u, hv, hp, hb⟩, hF⟩, st⟩ | ⟨q, st₀, t, T', L, E, ce, h0, X', hL, e1, e2, ⟨u, hp, hb, hF⟩, hce, hcv, hcl, st⟩
  · cases hv
    obtain ⟨k1, k2, k3⟩ := vx_keep h0 e1 hS hA hf hL hF
    obtain ⟨t2, a1, b1⟩ := kk u t T'.heap (locs ++ L) e1.symm (by rw [← e2]; exact X'.warmed.alike) hp hb k1 k2 k3 T' rfl X'
    exact ⟨t2, st t2 a1, b1⟩
  · obtain ⟨k1, k2, k3⟩ := vx_keep h0 e1 hS hAX hf hL hF
    obtain ⟨t2, a1, b1⟩ := kx E ce q u t T'.heap (locs ++ L) e1.symm (by rw [← e2]; exact X'.warmed.alike) hp hb k1 k2 k3 (by rw [e1]; exact hce) hcv hcl T' rfl X'
    exact ⟨t2, st.trans a1, b1⟩
/-- caught by the row x of this method's table; the rows ahead don't take it -/
theorem vx_catch {own name : String} {E : String} {ce : Cell} {q : Addr} (hown : s.vm.findClass own = some m.cls) (pre : List ExceptionTableEntry) (x : ExceptionTableEntry) (suf : List ExceptionTableEntry) (hsplit : c.exceptionTable.toList = pre ++ x :: suf)
    (hpass : ∀ z ∈ pre, covers z pc = false ∨ (z.catchType ≠ 0 ∧ ∃ nm : String, (Cond.classLink own z.catchType nm).before args s = true ∧ va_Nc E nm s)) (hx : covers x pc = true) (h0 : x.catchType ≠ 0)
    (hlink : (Cond.classLink own x.catchType name).before args s = true) (hcast : (Cond.castable E name).before args s = true) (hcell : H[q]? = some ce) (hv : ce.vm = .none) (hcl : s.vm.findClass E = some ce.cls)
    (kk : W p l e R s m args below meth c H locs cells slots Q (F0 m x.handlerPc ls [.ref q])) : vx_W p l e R s m args below meth c H locs cells slots Q (F0 m pc ls rest) q := by
  intro T hT X
  have hpl : e.platform.magicAccessors = ({} : Platform).magicAccessors := by rw [X.admits.platform]
  obtain ⟨c3, c4, hc3, hc4, hasg⟩ := Cond.castable_spec hcast
  cases Option.some.inj (hc3.symm.trans hcl)
  obtain ⟨c5, hc5, hcl5⟩ := Cond.classLink_spec hown hlink e.platform hpl
  cases Option.some.inj (hc4.symm.trans hc5)
  obtain ⟨vm', X', st⟩ := X.thenCaughtThrough q (g := F0 m pc ls rest) rfl (Steps.refl _) (by rw [hT]; exact hcell) (by rw [hv]; rfl) (by obtain ⟨k9, h9, -⟩ := Vm.findClass_spec hcl; exact ⟨k9, h9⟩) pre x suf hsplit
    (fun z hz => by
      rcases hpass z hz with h | ⟨hz0, nm, hl1, hn1⟩
      · exact Or.inl h
      · obtain ⟨c6, hc6, hcl6⟩ := Cond.classLink_spec hown hl1 e.platform hpl
        obtain ⟨a8, b8, h1, h2, h3⟩ := hn1
        cases Option.some.inj (h1.symm.trans hcl)
        cases Option.some.inj (h2.symm.trans hc6)
        exact Or.inr ⟨hz0, _, hcl6, h3⟩) hx (Or.inr ⟨h0, c4, hcl5, hasg⟩)
  obtain ⟨t, a1, b1⟩ := kk (T.setVm vm') hT X'
  exact ⟨t, st.trans a1, b1⟩
end Rows
section Ends
variable {p : Program} {l : Launch} {e : Env} {R : Room} {s : State} {m : MethodId} {args : Array Value} {below : List Frame} {meth : Method} {c : Code} {H : Heap} {locs : List Loc} {cells slots : Nat} {Q : State → Prop}
variable {mc ms : Nat} {free : Addr → Prop} {A0 A1 : Nat → Prop} {H0 : Heap} {a : Array Value} {ls : Array Slot} {st0 rest : List Value}
variable {Qc : Array Value → State → Outcome → State → Prop} {XC : String → State → State → Prop}
/-- what a body that may throw owes at its end -/
def vx_MQ (below : List Frame) (Qc : Array Value → State → Outcome → State → Prop) (XC : String → State → State → Prop) (a : Array Value) (s : State) (mc ms : Nat) (free : Addr → Prop) : State → Prop := fun t =>
  ∃ o, t.status = .running ∧ Ended t below o ∧ vx_Q Qc XC mc ms free a s o t
theorem vx_ret {g : JFrame} {mc ms : Nat} (k : W p l e R s m args below meth c H locs cells slots (MQ below Qc args s mc ms free) g) : W p l e R s m args below meth c H locs cells slots (vx_MQ below Qc XC args s mc ms free) g := by
  intro T hT X
  obtain ⟨t, a1, o, b1, b2, b3, b4⟩ := k T hT X
  exact ⟨t, a1, o, b1, b2, Or.inl ⟨b3, b4⟩⟩
/-- not caught here: it goes on to the caller -/
theorem vx_widen {g : JFrame} {q : Addr} {k n : Nat} (h1 : cells ≤ k) (h2 : slots ≤ n) (kk : vx_W p l e R s m args below meth c H locs k n Q g q) : vx_W p l e R s m args below meth c H locs cells slots Q g q := fun T hT X => kk T hT (stand_widen X h1 h2)
theorem vx_out {pc : Nat} {E : String} {ce : Cell} {q : Addr} {mc ms : Nat} (hout : ∀ x ∈ c.exceptionTable.toList, covers x pc = false) (hlocks : meth.locks = false) (hcell : H[q]? = some ce) (hv : ce.vm = .none) (hcl : s.vm.findClass E = some ce.cls)
    (hx : ∀ t : State, t.heap = H → s.vm.Alike t.vm → XC E s t) (hf : ∀ z ∈ locs, free z.base) (hc : cells ≤ mc) (hs : slots ≤ ms) :
    vx_W p l e R s m args below meth c H locs cells slots (vx_MQ below Qc XC args s mc ms free) (F0 m pc ls rest) q := by
  intro T hT X
  obtain ⟨st1, hrun, hend, hW, hsm⟩ := X.leaveThrown q (g := F0 m pc ls rest) rfl rfl rfl hout hlocks
  have hcell9 : (T.setFrames (.throwing q :: below)).heap[q]? = some ce := by
    show T.heap[q]? = some ce
    rw [hT]; exact hcell
  exact ⟨_, st1, .threw q, hrun, hend, Or.inr ⟨q, rfl, E, ce, locs, hx _ hT hW.alike, hcell9, hv, hcl, hW, hsm.mono hc hs, hf⟩⟩
theorem vx_frame {U : State} {k n : Nat} (h : s.sameButNew ({ U with vm := s.vm } : State) locs k n) : s.heap.size ≤ U.heap.size ∧ ∀ q : Nat, q < s.heap.size → (∀ z ∈ locs, z.base ≠ q) → U.heap[q]? = s.heap[q]? := by
  obtain ⟨-, h2, -, -, -, h6⟩ := h
  refine ⟨h2, fun q hq hz => ?_⟩
  obtain ⟨c9, e1, e2, e3, e4⟩ := h6 q _ (Array.getElem?_eq_getElem hq)
  have hs : c9.slots = (s.heap[q]).slots := Array.ext_getElem? fun i => e4 i fun hm => hz _ hm rfl
  have h9 : c9 = s.heap[q] := by
    rw [hs] at e2
    exact e2
  have e5 : U.heap[q]? = some c9 := e1
  rw [e5, h9, Array.getElem?_eq_getElem hq]
/-- the words of a throw but the four that speak of the heap -/
def vx_no (w : Cond) : Bool := decide (w ≠ .isRef (.static Bundle.tN "UNASSIGNED_STACK" Bundle.steD)) && decide (w ≠ .isRef (.static Bundle.tN "SUPPRESSED_SENTINEL" Bundle.listD)) && decide (w ≠ .laysStatic Bundle.tN "UNASSIGNED_STACK" Bundle.steD) && decide (w ≠ .laysStatic Bundle.tN "SUPPRESSED_SENTINEL" Bundle.listD)
def vx_at0 (own : String) (ic : Nat) (X : String) (names : List String) : List Cond := (Bundle.ownAtoms0 own ic X names).filter vx_no
def vx_atS (own : String) (ic : Nat) (X : String) (names : List String) : List Cond := (Bundle.ownAtoms own ic X names).filter vx_no
/-- a word that the tables alone decide, or a good one -/
def vx_ot (w : Cond) : Bool := w.onTables || goodWord w
theorem vx_ot_at {args a' : Array Value} {s U : State} {w : Cond} (hW : s.WarmedH U.vm) (hvm : s.vm = U.vm) (hg : vx_ot w = true) (h : w.before args s = true) : w.before a' U = true := by
  simp only [vx_ot, Bool.or_eq_true] at hg
  rcases hg with hg | hg
  · exact va_tabs hg hvm h
  · exact word_at hW (good_of_word hg) h
/-- a list's words: the good ones out of the method's own list, the others by premises of their own -/
theorem vx_hat {args : Array Value} {s : State} {L B : List Cond} (h1 : ∀ w ∈ L.filter goodWord, w.before args s = true) (h2 : ∀ w ∈ L.filter (fun w => !goodWord w), w ∈ B) (h3 : ∀ w ∈ B, w.before args s = true) : ∀ w ∈ L, w.before args s = true := by
  intro w hw
  by_cases g : goodWord w = true
  · exact h1 w (List.mem_filter.mpr ⟨hw, g⟩)
  · refine h3 w (h2 w (List.mem_filter.mpr ⟨hw, ?_⟩))
    show (!goodWord w) = true
    cases hgw : goodWord w
    · rfl
    · exact absurd hgw g
theorem vx_c {args : Array Value} {s : State} {w : Cond} {B : List Cond} (h : w.before args s = true) (t : ∀ w ∈ B, w.before args s = true) : ∀ w' ∈ w :: B, w'.before args s = true := fun w' h' => (List.mem_cons.mp h').elim (fun e => by rw [e]; exact h) (t w')
theorem vx_n {args : Array Value} {s : State} : ∀ w ∈ ([] : List Cond), w.before args s = true := fun _ h => nomatch h
theorem vx_own {args : Array Value} {s : State} {L : List Cond} (h1 : ∀ w ∈ L.filter vx_no, w.before args s = true)
    (hU : (Cond.isRef (.static Bundle.tN "UNASSIGNED_STACK" Bundle.steD)).before args s = true) (hN : (Cond.isRef (.static Bundle.tN "SUPPRESSED_SENTINEL" Bundle.listD)).before args s = true)
    (lU : (Cond.laysStatic Bundle.tN "UNASSIGNED_STACK" Bundle.steD).before args s = true) (lN : (Cond.laysStatic Bundle.tN "SUPPRESSED_SENTINEL" Bundle.listD).before args s = true) : ∀ w ∈ L, w.before args s = true := by
  intro w hw
  by_cases e1 : w = .isRef (.static Bundle.tN "UNASSIGNED_STACK" Bundle.steD)
  · rw [e1]; exact hU
  · by_cases e2 : w = .isRef (.static Bundle.tN "SUPPRESSED_SENTINEL" Bundle.listD)
    · rw [e2]; exact hN
    · by_cases e3 : w = .laysStatic Bundle.tN "UNASSIGNED_STACK" Bundle.steD
      · rw [e3]; exact lU
      · by_cases e4 : w = .laysStatic Bundle.tN "SUPPRESSED_SENTINEL" Bundle.listD
        · rw [e4]; exact lN
        · exact h1 w (List.mem_filter.mpr ⟨hw, by unfold vx_no; rw [decide_eq_true e1, decide_eq_true e2, decide_eq_true e3, decide_eq_true e4]; rfl⟩)
/-- where a static field lies, its class's statics cell in H -/
def vx_L (C n d : String) (A : Nat → Prop) (U : State) (H : Heap) : Prop := ∃ (c : ClassId) (k : Class) (i : Nat) (f : Field) (a : Nat) (cell : Cell), U.vm.findClass C = some c ∧ U.fieldFound? C n d = some (c, k, i, f) ∧ f.isStatic = true ∧ k.statics = some a ∧ H[a]? = some cell ∧ cell.vm.isStatics = true ∧ cell.cls = c ∧ f.slot < cell.slots.size ∧ k.staticTypes[f.slot]? = some f.type ∧ ¬ A a
theorem vx_L.moved {C n d : String} {A : Nat → Prop} {u U : State} {H : Heap} (hvm : u.vm.Alike U.vm) (h : vx_L C n d A u H) : vx_L C n d A U H := by
  obtain ⟨c, k, i, f, a, cell, h1, h2, h3, h4, h5, h6, h7, h8, h9, h10⟩ := h
  obtain ⟨k', hi', he⟩ := State.fieldFound?_setVm hvm h2
  exact ⟨c, k', i, f, a, cell, by rw [hvm.findClass]; exact h1, hi', h3, by rw [he]; exact h4, h5, h6, h7, h8, by rw [he]; exact h9, h10⟩
theorem vx_L.kept {C n d : String} {A : Nat → Prop} {U : State} {H H1 : Heap} (h : vx_L C n d A U H) (hq : ∀ a : Nat, a < H.size → ¬ A a → H1[a]? = H[a]?) : vx_L C n d A U H1 := by
  obtain ⟨c, k, i, f, a, cell, h1, h2, h3, h4, h5, h6, h7, h8, h9, h10⟩ := h
  exact ⟨c, k, i, f, a, cell, h1, h2, h3, h4, by rw [hq a (Array.getElem?_eq_some_iff.mp h5).1 h10]; exact h5, h6, h7, h8, h9, h10⟩
theorem vx_L.narrow {C n d : String} {A B : Nat → Prop} {U : State} {H : Heap} (h : vx_L C n d A U H) (hAB : ∀ q, B q → A q) : vx_L C n d B U H := by
  obtain ⟨c, k, i, f, a, cell, h1, h2, h3, h4, h5, h6, h7, h8, h9, h10⟩ := h
  exact ⟨c, k, i, f, a, cell, h1, h2, h3, h4, h5, h6, h7, h8, h9, fun z => h10 (hAB _ z)⟩
theorem vx_L.word {C n d : String} {A : Nat → Prop} {s : State} {args : Array Value} (h : vx_L C n d A s s.heap) : (Cond.laysStatic C n d).before args s = true := by
  obtain ⟨c, k, i, f, a, cell, h1, h2, h3, h4, h5, h6, h7, h8, h9, -⟩ := h
  show (Cond.laysStatic C n d).holds args s none s [] = true
  exact Cond.laysStatic_of h1 h2 h3 h4 h5 h6 h7 h8 h9
/-- .. and what it holds: null or some reference -/
def vx_Zq (C n d : String) (A : Nat → Prop) (U : State) (H : Heap) : Prop := va_Zq C n d A U H ∧ vx_L C n d A U H
theorem vx_Zq.moved {C n d : String} {A : Nat → Prop} {u U : State} {H : Heap} (hvm : u.vm.Alike U.vm) (h : vx_Zq C n d A u H) : vx_Zq C n d A U H := ⟨va_Zq.moved hvm h.1, vx_L.moved hvm h.2⟩
theorem vx_Zq.kept {C n d : String} {A : Nat → Prop} {U : State} {H H1 : Heap} (h : vx_Zq C n d A U H) (hq : ∀ a : Nat, a < H.size → ¬ A a → H1[a]? = H[a]?) : vx_Zq C n d A U H1 := ⟨va_Zq.kept h.1 hq, vx_L.kept h.2 hq⟩
theorem vx_Zq.narrow {C n d : String} {A B : Nat → Prop} {U : State} {H : Heap} (h : vx_Zq C n d A U H) (hAB : ∀ q, B q → A q) : vx_Zq C n d B U H := ⟨va_Zq.narrow h.1 hAB, vx_L.narrow h.2 hAB⟩
theorem vx_Zqof {args : Array Value} {s : State} {C n d : String} {A : Nat → Prop} (hl : (Cond.laysStatic C n d).before args s = true) (hini : (Cond.initialized C).before args s = true) (h : (Cond.isRef (.static C n d)).before args s = true) (hA : ∀ a : Nat, a < s.heap.size → ¬ A a) : vx_Zq C n d A s s.heap := by
  refine ⟨va_Zqof hl hini h hA, ?_⟩
  obtain ⟨c, k, i, f, a, cell, h1, h2, h3, h4, h5, h6, h7, h8, h9⟩ := Cond.laysStatic_spec hl
  exact ⟨c, k, i, f, a, cell, h1, h2, h3, h4, h5, h6, h7, h8, h9, hA a (Array.getElem?_eq_some_iff.mp h5).1⟩
theorem vx_isRef {C n d : String} {v : Value} {A : Nat → Prop} {s : State} {args : Array Value} (h : va_Z C n d v A s s.heap) (hv : v.isRef = true) : (Cond.isRef (.static C n d)).before args s = true := by
  obtain ⟨cf, kf, fi, f, a, cell, h1, h2, h3, h4, h5, h6, h7, -⟩ := h
  have he : (Term.static C n d).eval args s none [] s = some v := by
    simp [Term.eval, State.fieldNamed?, h1, h2, h4, h5, h6, h7]
  simp only [Cond.before, Cond.holds, Cond.value, he]
  cases v <;> simp_all [Value.isRef]
theorem vx_isRefq {C n d : String} {A : Nat → Prop} {s : State} {args : Array Value} (h : va_Zq C n d A s s.heap) : (Cond.isRef (.static C n d)).before args s = true := by
  rcases h with h | ⟨t, h⟩
  · exact vx_isRef h rfl
  · exact vx_isRef h rfl
/-- the same frame, seen from here: as if the method were called anew in this heap -/
theorem vx_rebase {T : State} (X : Stand p l e R s m args below meth c T locs cells slots) {R' : Room} (hf : R'.frames ≤ R.frames) (hl : R'.locals ≤ R.locals) (hc : cells + R'.cells ≤ R.cells) (hs : slots + R'.slots ≤ R.slots) :
    Stand p l e R' ((T.setVm s.vm).setFrames (.invoking m args :: below)) m args below meth c T [] 0 0 := by
  have htop : (T.setVm s.vm).topJava?.isSome := X.here.top
  have hF : ((T.setVm s.vm).setFrames (.invoking m args :: below)).frames = .invoking m args :: below := State.frames_setFrames _ (State.cur_lt_of_top htop)
  obtain ⟨g₀, hg0⟩ := Option.isSome_iff_exists.mp htop
  obtain ⟨r, hr⟩ := State.topJava?_eq_some.mp hg0
  have hl9 : e.platform.stackLimits (T.setVm s.vm).me = e.platform.stackLimits s.me := X.limits
  have hb9 : (T.setVm s.vm).me.stackBytes = s.me.stackBytes := X.bytes
  refine ⟨X.admits, X.cas, X.clock, hF, ?_, X.hears, X.method, X.code, X.here, X.tail, X.warmed, ?_, ?_, ?_⟩
  · have h := X.room
    have hU : ((T.setVm s.vm).setFrames (.invoking m args :: below)).localsInUse = s.localsInUse := by
      rw [State.localsInUse_invoking hF (meth := meth) (c := c) X.method X.code, State.localsInUse_invoking X.frames X.method X.code]
    simp only [State.hasRoom, Bool.and_eq_true, decide_eq_true_eq] at h ⊢
    obtain ⟨⟨⟨⟨h1, h2, h3, h4, h5, h6⟩, h7⟩, h8⟩, h9⟩ := h
    rw [X.frames, List.length_cons] at h2 h3
    have q1 := X.heapSize
    have q2 := X.used
    simp only [hF, hU, List.length_cons, State.stackLimits_setFrames, State.stackBytes_setFrames, hl9, hb9]
    refine ⟨⟨⟨⟨by omega, by omega, by omega, by omega, by omega, h6⟩, ?_⟩, ?_⟩, X.book⟩
    · show T.heap.size + R'.cells ≤ e.platform.maxCells
      omega
    · show T.slotsUsed + R'.slots ≤ e.platform.maxSlots
      omega
  · rw [State.stackLimits_setFrames]; rfl
  · rw [State.stackBytes_setFrames]; rfl
  · refine ⟨?_, Nat.le_refl _, Nat.le_refl _, ?_, ?_, fun a c9 h9 => ⟨c9, h9, rfl, rfl, fun _ _ => rfl⟩⟩
    · obtain ⟨t, ht, -⟩ := State.frames_cons hr
      show T.setVm s.vm = { ((T.setVm s.vm).setFrames (.invoking m args :: below)).setFrames (T.setVm s.vm).frames with heap := T.heap, slotsUsed := T.slotsUsed }
      rw [State.setFrames_setFrames, State.setFrames_self ht]
      rfl
    · show T.slotsUsed = T.slotsUsed + ((T.heap.toList.drop T.heap.size).map (·.slots.size)).sum
      rw [List.drop_eq_nil_of_le (Nat.le_of_eq Array.length_toList)]
      rfl
    · show ((T.heap.toList.drop T.heap.size).map (·.slots.size)).sum ≤ 0
      rw [List.drop_eq_nil_of_le (Nat.le_of_eq Array.length_toList)]
      exact Nat.le_refl _
/-- 'throw new E()': new; dup; invokespecial; athrow -/
theorem vx_throw0 {cc : ByteArray} {pc : Nat} (hexec : p.tables.exec = Jvm.exec) (hb : c.code = cc) (hl : l.stackTraces = false) {own cls : String} {names : List String} {ik ic mc ms : Nat} {A : Nat → Prop}
    (hown : s.vm.findClass own = some m.cls) (hcls : Bundle.fit cls = true) (hnames : ∀ n ∈ names, Bundle.fit n = true)
    (hk : (Cond.classLink own ik cls).before args s = true) (hini : (Cond.initialized cls).before args s = true) (hat : ∀ w ∈ vx_at0 own ic cls names, w.before args s = true)
    (hgood : ∀ w ∈ Cond.classLink own ik cls :: Cond.initialized cls :: vx_at0 own ic cls names, vx_ot w = true)
    (hU : vx_Zq Bundle.tN "UNASSIGNED_STACK" Bundle.steD A s s.heap) (hN : vx_Zq Bundle.tN "SUPPRESSED_SENTINEL" Bundle.listD A s s.heap) (hS : va_S A s.heap H locs) (hsize : ls.size = c.maxLocals)
    (d0 : decode cc pc = .ok (.new ik, 3)) (d3 : decode cc (pc + 3) = .ok (.dup, 1)) (d4 : decode cc (pc + 4) = .ok (.invokespecial ic, 3)) (d7 : decode cc (pc + 7) = .ok (.athrow, 1))
    (hout : ∀ x ∈ c.exceptionTable.toList, covers x (pc + 7) = false)
    (hRframes : names.length + 3 < R.frames) (hRlocals : (rest.map fun v => v.category).sum + (13 * (names.length + 1) + 42) ≤ R.locals) (hRcells : cells + 1 ≤ R.cells) (hRslots : slots + 6 ≤ R.slots) (hlocks : meth.locks = false)
    (hx : ∀ t : State, s.vm.Alike t.vm → H.size ≤ t.heap.size → (∀ q : Nat, q < H.size → t.heap[q]? = H[q]?) → XC cls s t)
    (hf : ∀ z ∈ locs, free z.base) (hc : cells + 1 ≤ mc) (hs : slots + 6 ≤ ms) :
    W p l e R s m args below meth c H locs cells slots (vx_MQ below Qc XC args s mc ms free) (F0 m pc ls rest) := by
  intro T hT X
  have htr : e.platform.stackTraces = false := (show e.platform.stackTraces = l.stackTraces by rw [X.admits.platform]).trans hl
  have Y := vx_rebase X (R' := { frames := R.frames, locals := R.locals, cells := 1, slots := 6 }) (Nat.le_refl _) (Nat.le_refl _) hRcells hRslots
  obtain ⟨s', hA⟩ : ∃ z, z = (T.setVm s.vm).setFrames (.invoking m args :: below) := ⟨_, rfl⟩
  rw [← hA] at Y
  have hvm : s'.vm = s.vm := by rw [hA]; rfl
  have hhp : s'.heap = H := by rw [hA]; exact hT
  have hW0 : s.WarmedH s'.vm := by rw [hvm]; exact State.WarmedH.refl s
  have hat' : ∀ w ∈ vx_at0 own ic cls names, w.before args s' = true := fun w hw => vx_ot_at hW0 hvm.symm (hgood w (List.mem_cons_of_mem _ (List.mem_cons_of_mem _ hw))) (hat w hw)
  have hk' : (Cond.classLink own ik cls).before args s' = true := vx_ot_at hW0 hvm.symm (hgood _ List.mem_cons_self) hk
  have hini' : (Cond.initialized cls).before args s' = true := vx_ot_at hW0 hvm.symm (hgood _ (List.mem_cons_of_mem _ List.mem_cons_self)) hini
  have hU' : vx_Zq Bundle.tN "UNASSIGNED_STACK" Bundle.steD A s' s'.heap := by rw [hhp]; exact vx_Zq.moved hW0.alike (hU.kept hS.2.1)
  have hN' : vx_Zq Bundle.tN "SUPPRESSED_SENTINEL" Bundle.listD A s' s'.heap := by rw [hhp]; exact vx_Zq.moved hW0.alike (hN.kept hS.2.1)
  have h : ∀ w ∈ Bundle.ownAtoms0 own ic cls names, w.before args s' = true := vx_own hat' (vx_isRefq hU'.1) (vx_isRefq hN'.1) hU'.2.word hN'.2.word
  have hown' : s'.vm.findClass own = some m.cls := by rw [hvm]; exact hown
  have hins : (Cond.instantiable cls 6).before args s' = true := h _ (by simp [Bundle.ownAtoms0])
  obtain ⟨vm₁, cX, kX, hfX, hkX, -, -, X₁, st1⟩ := Y.newCold hexec (own := own) (C := cls) (index := ik) (n := 6) hown' hk' hins hini'
    (g := F0 m pc ls rest) rfl (by rw [hb]; exact d0) (Nat.le_refl _) (Nat.le_refl _)
  generalize hT1 : (T.setVm vm₁).pushCell { cls := cX, slots := kX.instanceTypes.map defaultValue, vm := .none } = T1 at X₁ st1
  have hcat : (Value.ref T.heap.size).category = 1 := rfl
  have hcellA : T1.heap[T.heap.size]? = some (freshCell cX kX) := by rw [← hT1]; exact State.heap_pushCell_size _ _
  have d3' : decode c.code (pc + 3) = .ok (.dup, 1) := by rw [hb]; exact d3
  obtain ⟨U, hsteps, hrun, hend, hW, hsame, ce, hce, hO⟩ := X₁.ctorThrow0 hexec htr (own := own) (cls := cls) (names := names) (ic := ic) hown' hcls hnames h (fun x hx => nomatch hx) hfX hkX hcellA (by rw [hhp, hT]; exact Nat.le_refl _)
    (g := { method := m, pc := pc + 4, locals := ls, stack := .ref T.heap.size :: .ref T.heap.size :: rest, locked := none }) rfl hsize rfl rfl (rest := rest) rfl
    (by rw [hb]; exact d4) (by rw [hb]; exact d7) hout hRframes (by simp only [List.map_cons, List.sum_cons, hcat]; omega) hlocks
  obtain ⟨f1, f2⟩ := vx_frame hsame
  rw [hhp] at f1 f2
  have hWs : s.WarmedH U.vm := State.WarmedH.trans hW0 hW
  have hcl : s.vm.findClass cls = some ce.cls := by
    have h9 := hO.cls
    rw [hvm] at h9
    exact h9
  have hall : s.sameButNew ({ U with vm := s.vm } : State) locs mc ms := by
    subst hA
    obtain ⟨e1, e2⟩ := hsame
    rw [State.setFrames_setFrames] at e1
    have h2 : (T.setVm s.vm).sameButNew ({ U with vm := s.vm } : State) [] (0 + 1) (0 + 6) := ⟨e1, e2⟩
    have h3 := X.same.trans h2
    rw [List.append_nil] at h3
    exact h3.mono hc hs
  refine ⟨U, ?_, .threw T.heap.size, hrun, hend, Or.inr ⟨T.heap.size, rfl, cls, ce, locs, hx U hWs.alike f1 (fun q hq => f2 q hq (fun z hz => nomatch hz)), hce, hO.vm, hcl, hWs, hall, hf⟩⟩
  refine st1 _ ?_
  show Steps p.tables e below (T1.setTop { method := m, pc := pc + 3, locals := ls, stack := .ref T.heap.size :: rest, locked := none }) _
  jvm_step X₁.here [X₁.here.top, hexec, d3', Value.category]
  exact hsteps
/-- 'throw new E("text")': new; dup; ldc; invokespecial; athrow -/
theorem vx_throwS {cc : ByteArray} {pc : Nat} (hexec : p.tables.exec = Jvm.exec) (hb : c.code = cc) (hl : l.stackTraces = false) {own cls text : String} {names : List String} {ik is ic mc ms sa : Nat} {A : Nat → Prop}
    (hown : s.vm.findClass own = some m.cls) (hcls : Bundle.fit cls = true) (hnames : ∀ n ∈ names, Bundle.fit n = true)
    (hk : (Cond.classLink own ik cls).before args s = true) (hini : (Cond.initialized cls).before args s = true) (hstr : vk_R own is text sa s) (hat : ∀ w ∈ vx_atS own ic cls names, w.before args s = true)
    (hgood : ∀ w ∈ Cond.classLink own ik cls :: Cond.initialized cls :: vx_atS own ic cls names, vx_ot w = true)
    (hU : vx_Zq Bundle.tN "UNASSIGNED_STACK" Bundle.steD A s s.heap) (hN : vx_Zq Bundle.tN "SUPPRESSED_SENTINEL" Bundle.listD A s s.heap) (hS : va_S A s.heap H locs) (hsize : ls.size = c.maxLocals)
    (d0 : decode cc pc = .ok (.new ik, 3)) (d3 : decode cc (pc + 3) = .ok (.dup, 1)) (d4 : decode cc (pc + 4) = .ok (.ldc is, 2)) (d6 : decode cc (pc + 6) = .ok (.invokespecial ic, 3)) (d9 : decode cc (pc + 9) = .ok (.athrow, 1))
    (hout : ∀ x ∈ c.exceptionTable.toList, covers x (pc + 9) = false)
    (hRframes : names.length + 3 < R.frames) (hRlocals : (rest.map fun v => v.category).sum + (13 * (names.length + 1) + 43) ≤ R.locals) (hRcells : cells + 1 ≤ R.cells) (hRslots : slots + 6 ≤ R.slots) (hlocks : meth.locks = false)
    (hx : ∀ t : State, s.vm.Alike t.vm → H.size ≤ t.heap.size → (∀ q : Nat, q < H.size → t.heap[q]? = H[q]?) → XC cls s t)
    (hf : ∀ z ∈ locs, free z.base) (hc : cells + 1 ≤ mc) (hs : slots + 6 ≤ ms) :
    W p l e R s m args below meth c H locs cells slots (vx_MQ below Qc XC args s mc ms free) (F0 m pc ls rest) := by
  intro T hT X
  have htr : e.platform.stackTraces = false := (show e.platform.stackTraces = l.stackTraces by rw [X.admits.platform]).trans hl
  have Y := vx_rebase X (R' := { frames := R.frames, locals := R.locals, cells := 1, slots := 6 }) (Nat.le_refl _) (Nat.le_refl _) hRcells hRslots
  obtain ⟨s', hA⟩ : ∃ z, z = (T.setVm s.vm).setFrames (.invoking m args :: below) := ⟨_, rfl⟩
  rw [← hA] at Y
  have hvm : s'.vm = s.vm := by rw [hA]; rfl
  have hhp : s'.heap = H := by rw [hA]; exact hT
  have hW0 : s.WarmedH s'.vm := by rw [hvm]; exact State.WarmedH.refl s
  have hat' : ∀ w ∈ vx_atS own ic cls names, w.before args s' = true := fun w hw => vx_ot_at hW0 hvm.symm (hgood w (List.mem_cons_of_mem _ (List.mem_cons_of_mem _ hw))) (hat w hw)
  have hk' : (Cond.classLink own ik cls).before args s' = true := vx_ot_at hW0 hvm.symm (hgood _ List.mem_cons_self) hk
  have hini' : (Cond.initialized cls).before args s' = true := vx_ot_at hW0 hvm.symm (hgood _ (List.mem_cons_of_mem _ List.mem_cons_self)) hini
  have hU' : vx_Zq Bundle.tN "UNASSIGNED_STACK" Bundle.steD A s' s'.heap := by rw [hhp]; exact vx_Zq.moved hW0.alike (hU.kept hS.2.1)
  have hN' : vx_Zq Bundle.tN "SUPPRESSED_SENTINEL" Bundle.listD A s' s'.heap := by rw [hhp]; exact vx_Zq.moved hW0.alike (hN.kept hS.2.1)
  have h : ∀ w ∈ Bundle.ownAtoms own ic cls names, w.before args s' = true := vx_own hat' (vx_isRefq hU'.1) (vx_isRefq hN'.1) hU'.2.word hN'.2.word
  have hown' : s'.vm.findClass own = some m.cls := by rw [hvm]; exact hown
  have hins : (Cond.instantiable cls 6).before args s' = true := h _ (by simp [Bundle.ownAtoms])
  obtain ⟨vm₁, cX, kX, hfX, hkX, -, -, X₁, st1⟩ := Y.newCold hexec (own := own) (C := cls) (index := ik) (n := 6) hown' hk' hins hini'
    (g := F0 m pc ls rest) rfl (by rw [hb]; exact d0) (Nat.le_refl _) (Nat.le_refl _)
  generalize hT1 : (T.setVm vm₁).pushCell { cls := cX, slots := kX.instanceTypes.map defaultValue, vm := .none } = T1 at X₁ st1
  have hcat : (Value.ref T.heap.size).category = 1 := rfl
  have hcellA : T1.heap[T.heap.size]? = some (freshCell cX kX) := by rw [← hT1]; exact State.heap_pushCell_size _ _
  have d3' : decode c.code (pc + 3) = .ok (.dup, 1) := by rw [hb]; exact d3
  have d4' : decode c.code (pc + 4) = .ok (.ldc is, 2) := by rw [hb]; exact d4
  have hstr' : vk_R own is text sa s' := vk_R.warm hW0 hstr
  obtain ⟨U, hsteps, hrun, hend, hW, hsame, ce, hce, hO⟩ := X₁.ctorThrowS hexec htr (own := own) (cls := cls) (names := names) (ic := ic) hown' hcls hnames h (fun x hx => nomatch hx) hfX hkX hcellA (by rw [hhp, hT]; exact Nat.le_refl _) (msg := .ref sa) rfl
    (g := { method := m, pc := pc + 6, locals := ls, stack := .ref sa :: .ref T.heap.size :: .ref T.heap.size :: rest, locked := none }) rfl hsize rfl rfl (rest := rest) rfl
    (by rw [hb]; exact d6) (by rw [hb]; exact d9) hout hRframes (by simp only [List.map_cons, List.sum_cons, hcat]; omega) hlocks
  obtain ⟨f1, f2⟩ := vx_frame hsame
  rw [hhp] at f1 f2
  have hWs : s.WarmedH U.vm := State.WarmedH.trans hW0 hW
  have hcl : s.vm.findClass cls = some ce.cls := by
    have h9 := hO.cls
    rw [hvm] at h9
    exact h9
  have hall : s.sameButNew ({ U with vm := s.vm } : State) locs mc ms := by
    subst hA
    obtain ⟨e1, e2⟩ := hsame
    rw [State.setFrames_setFrames] at e1
    have h2 : (T.setVm s.vm).sameButNew ({ U with vm := s.vm } : State) [] (0 + 1) (0 + 6) := ⟨e1, e2⟩
    have h3 := X.same.trans h2
    rw [List.append_nil] at h3
    exact h3.mono hc hs
  refine ⟨U, ?_, .threw T.heap.size, hrun, hend, Or.inr ⟨T.heap.size, rfl, cls, ce, locs, hx U hWs.alike f1 (fun q hq => f2 q hq (fun z hz => nomatch hz)), hce, hO.vm, hcl, hWs, hall, hf⟩⟩
  refine st1 _ ?_
  show Steps p.tables e below (T1.setTop { method := m, pc := pc + 3, locals := ls, stack := .ref T.heap.size :: rest, locked := none }) _
  jvm_step X₁.here [X₁.here.top, hexec, d3', Value.category]
  exact X₁.ldcString hexec (own := own) (text := text) (index := is) (a := sa) hown' hstr'.1 hstr'.2
    (g := { method := m, pc := pc + 4, locals := ls, stack := .ref T.heap.size :: .ref T.heap.size :: rest, locked := none }) rfl d4' _ hsteps
/-- 'throw new E("text")', the text by a wide index -/
theorem vx_throwSW {cc : ByteArray} {pc : Nat} (hexec : p.tables.exec = Jvm.exec) (hb : c.code = cc) (hl : l.stackTraces = false) {own cls text : String} {names : List String} {ik is ic mc ms sa : Nat} {A : Nat → Prop}
    (hown : s.vm.findClass own = some m.cls) (hcls : Bundle.fit cls = true) (hnames : ∀ n ∈ names, Bundle.fit n = true)
    (hk : (Cond.classLink own ik cls).before args s = true) (hini : (Cond.initialized cls).before args s = true) (hstr : vk_R own is text sa s) (hat : ∀ w ∈ vx_atS own ic cls names, w.before args s = true)
    (hgood : ∀ w ∈ Cond.classLink own ik cls :: Cond.initialized cls :: vx_atS own ic cls names, vx_ot w = true)
    (hU : vx_Zq Bundle.tN "UNASSIGNED_STACK" Bundle.steD A s s.heap) (hN : vx_Zq Bundle.tN "SUPPRESSED_SENTINEL" Bundle.listD A s s.heap) (hS : va_S A s.heap H locs) (hsize : ls.size = c.maxLocals)
    (d0 : decode cc pc = .ok (.new ik, 3)) (d3 : decode cc (pc + 3) = .ok (.dup, 1)) (d4 : decode cc (pc + 4) = .ok (.ldc_w is, 3)) (d7 : decode cc (pc + 7) = .ok (.invokespecial ic, 3)) (d10 : decode cc (pc + 10) = .ok (.athrow, 1))
    (hout : ∀ x ∈ c.exceptionTable.toList, covers x (pc + 10) = false)
    (hRframes : names.length + 3 < R.frames) (hRlocals : (rest.map fun v => v.category).sum + (13 * (names.length + 1) + 43) ≤ R.locals) (hRcells : cells + 1 ≤ R.cells) (hRslots : slots + 6 ≤ R.slots) (hlocks : meth.locks = false)
    (hx : ∀ t : State, s.vm.Alike t.vm → H.size ≤ t.heap.size → (∀ q : Nat, q < H.size → t.heap[q]? = H[q]?) → XC cls s t)
    (hf : ∀ z ∈ locs, free z.base) (hc : cells + 1 ≤ mc) (hs : slots + 6 ≤ ms) :
    W p l e R s m args below meth c H locs cells slots (vx_MQ below Qc XC args s mc ms free) (F0 m pc ls rest) := by
  intro T hT X
  have htr : e.platform.stackTraces = false := (show e.platform.stackTraces = l.stackTraces by rw [X.admits.platform]).trans hl
  have Y := vx_rebase X (R' := { frames := R.frames, locals := R.locals, cells := 1, slots := 6 }) (Nat.le_refl _) (Nat.le_refl _) hRcells hRslots
  obtain ⟨s', hA⟩ : ∃ z, z = (T.setVm s.vm).setFrames (.invoking m args :: below) := ⟨_, rfl⟩
  rw [← hA] at Y
  have hvm : s'.vm = s.vm := by rw [hA]; rfl
  have hhp : s'.heap = H := by rw [hA]; exact hT
  have hW0 : s.WarmedH s'.vm := by rw [hvm]; exact State.WarmedH.refl s
  have hat' : ∀ w ∈ vx_atS own ic cls names, w.before args s' = true := fun w hw => vx_ot_at hW0 hvm.symm (hgood w (List.mem_cons_of_mem _ (List.mem_cons_of_mem _ hw))) (hat w hw)
  have hk' : (Cond.classLink own ik cls).before args s' = true := vx_ot_at hW0 hvm.symm (hgood _ List.mem_cons_self) hk
  have hini' : (Cond.initialized cls).before args s' = true := vx_ot_at hW0 hvm.symm (hgood _ (List.mem_cons_of_mem _ List.mem_cons_self)) hini
  have hU' : vx_Zq Bundle.tN "UNASSIGNED_STACK" Bundle.steD A s' s'.heap := by rw [hhp]; exact vx_Zq.moved hW0.alike (hU.kept hS.2.1)
  have hN' : vx_Zq Bundle.tN "SUPPRESSED_SENTINEL" Bundle.listD A s' s'.heap := by rw [hhp]; exact vx_Zq.moved hW0.alike (hN.kept hS.2.1)
  have h : ∀ w ∈ Bundle.ownAtoms own ic cls names, w.before args s' = true := vx_own hat' (vx_isRefq hU'.1) (vx_isRefq hN'.1) hU'.2.word hN'.2.word
  have hown' : s'.vm.findClass own = some m.cls := by rw [hvm]; exact hown
  have hins : (Cond.instantiable cls 6).before args s' = true := h _ (by simp [Bundle.ownAtoms])
  obtain ⟨vm₁, cX, kX, hfX, hkX, -, -, X₁, st1⟩ := Y.newCold hexec (own := own) (C := cls) (index := ik) (n := 6) hown' hk' hins hini'
    (g := F0 m pc ls rest) rfl (by rw [hb]; exact d0) (Nat.le_refl _) (Nat.le_refl _)
  generalize hT1 : (T.setVm vm₁).pushCell { cls := cX, slots := kX.instanceTypes.map defaultValue, vm := .none } = T1 at X₁ st1
  have hcat : (Value.ref T.heap.size).category = 1 := rfl
  have hcellA : T1.heap[T.heap.size]? = some (freshCell cX kX) := by rw [← hT1]; exact State.heap_pushCell_size _ _
  have d3' : decode c.code (pc + 3) = .ok (.dup, 1) := by rw [hb]; exact d3
  have d4' : decode c.code (pc + 4) = .ok (.ldc_w is, 3) := by rw [hb]; exact d4
  have hstr' : vk_R own is text sa s' := vk_R.warm hW0 hstr
  obtain ⟨U, hsteps, hrun, hend, hW, hsame, ce, hce, hO⟩ := X₁.ctorThrowS hexec htr (own := own) (cls := cls) (names := names) (ic := ic) hown' hcls hnames h (fun x hx => nomatch hx) hfX hkX hcellA (by rw [hhp, hT]; exact Nat.le_refl _) (msg := .ref sa) rfl
    (g := { method := m, pc := pc + 7, locals := ls, stack := .ref sa :: .ref T.heap.size :: .ref T.heap.size :: rest, locked := none }) rfl hsize rfl rfl (rest := rest) rfl
    (by rw [hb]; exact d7) (by rw [hb]; exact d10) hout hRframes (by simp only [List.map_cons, List.sum_cons, hcat]; omega) hlocks
  obtain ⟨f1, f2⟩ := vx_frame hsame
  rw [hhp] at f1 f2
  have hWs : s.WarmedH U.vm := State.WarmedH.trans hW0 hW
  have hcl : s.vm.findClass cls = some ce.cls := by
    have h9 := hO.cls
    rw [hvm] at h9
    exact h9
  have hall : s.sameButNew ({ U with vm := s.vm } : State) locs mc ms := by
    subst hA
    obtain ⟨e1, e2⟩ := hsame
    rw [State.setFrames_setFrames] at e1
    have h2 : (T.setVm s.vm).sameButNew ({ U with vm := s.vm } : State) [] (0 + 1) (0 + 6) := ⟨e1, e2⟩
    have h3 := X.same.trans h2
    rw [List.append_nil] at h3
    exact h3.mono hc hs
  refine ⟨U, ?_, .threw T.heap.size, hrun, hend, Or.inr ⟨T.heap.size, rfl, cls, ce, locs, hx U hWs.alike f1 (fun q hq => f2 q hq (fun z hz => nomatch hz)), hce, hO.vm, hcl, hWs, hall, hf⟩⟩
  refine st1 _ ?_
  show Steps p.tables e below (T1.setTop { method := m, pc := pc + 3, locals := ls, stack := .ref T.heap.size :: rest, locked := none }) _
  jvm_step X₁.here [X₁.here.top, hexec, d3', Value.category]
  exact X₁.ldcStringW hexec (own := own) (text := text) (index := is) (a := sa) hown' hstr'.1 hstr'.2
    (g := { method := m, pc := pc + 4, locals := ls, stack := .ref T.heap.size :: .ref T.heap.size :: rest, locked := none }) rfl d4' _ hsteps
end Ends
section Bodies
variable {l : Launch}
theorem vx_ofW {y : MethodName} {ws ws' : List Cond} {rm : Room} {Pc : Array Value → State → Prop} {Qc : Array Value → State → Outcome → State → Prop} {XC : String → State → State → Prop} {mc ms : Nat} {free : Addr → Prop} {cc : ByteArray} {maxL : Nat} {ret : Option FieldType}
    (hy : plainName y.cls = true) (hw : ws = Cond.code y cc maxL ret :: ws')
    (body : ∀ p e s m args below meth c s₁, BodyLoose p l y (headSpec ws rm) cc maxL ret e s m args below meth c s₁ → c.maxLocals = maxL → (∀ x ∈ c.exceptionTable.toList, False) → Pc args s →
      W p l e (headSpec ws rm).room s m args below meth c s.heap [] 0 0 (vx_MQ below Qc XC args s mc ms free) (entryFrame m args maxL)) : vx_Met l y ws rm Pc Qc XC mc ms free := by
  refine MetFree.of_bodyS (code := cc) (maxLocals := maxL) (ret := ret) hy ?_ ?_
  · intro args s m h hn
    obtain ⟨meth, c, h1, h2, h3, h4, h5, h6, -, -⟩ := Cond.code_spec hn (atoms_spec (ws := ws) h _ (by rw [hw]; exact List.mem_cons_self))
    exact ⟨meth, c, h1, h2, h3, h4, h5, h6⟩
  · intro p e s m args below meth c s₁ B hml hP _
    have hh0 : s₁.heap = s.heap := by rw [B.state]; rfl
    have ht : ∀ x ∈ c.exceptionTable.toList, False := by
      obtain ⟨meth9, c9, h1, h2, -, -, -, -, h7, -⟩ := Cond.code_spec B.named (atoms_spec (ws := ws) B.pre _ (by rw [hw]; exact List.mem_cons_self))
      cases Option.some.inj (h1.symm.trans B.method)
      cases Option.some.inj (h2.symm.trans (Stand.of_body B).code)
      intro x hx
      rw [Array.isEmpty_iff.mp h7] at hx
      cases hx
    obtain ⟨t, a1, o, b1, b2, b3⟩ := body p e s m args below meth c s₁ B hml ht hP s₁ hh0 (Stand.of_body B)
    exact ⟨t, o, a1, b1, b2, b3⟩
/-- the table of a body with handlers -/
theorem vx_table {p : Program} {x y : MethodName} {S : Spec} {cc bytes : ByteArray} {maxL maxL' : Nat} {ret ret' : Option FieldType} {e : Env} {s s₁ : State} {m : MethodId} {args : Array Value} {below : List Frame} {meth : Method} {c : Code} {hh : List (Nat × Nat × Nat × Nat)}
    (B : BodyLoose p l y S cc maxL ret e s m args below meth c s₁) (h : (Cond.codeWith y bytes maxL' ret' hh).before args s = true) : c.exceptionTable.toList = tableOf hh := by
  obtain ⟨m9, meth9, c9, hn9, h1, h2, -, -, h6, -⟩ := Cond.codeWith_spec h
  cases Option.some.inj (hn9.symm.trans B.named)
  cases Option.some.inj (h1.symm.trans B.method)
  cases Option.some.inj (h2.symm.trans (Stand.of_body B).code)
  rw [← h6, table_eq]
end Bodies
end VXA
/-! ===== END ===== -/
/-! ===== BEGIN a static call of a method with an exception table ===== -/
section VXS
variable {p : Program} {l : Launch} {e : Env} {R : Room} {s : State} {m : MethodId} {args : Array Value} {below : List Frame} {meth : Method} {c : Code} {T : State} {H : Heap} {locs : List Loc} {cells slots : Nat}
abbrev vx_CSW (R : Room) (s : State) (args : Array Value) (own : String) (index : Nat) (y : MethodName) (bytes : ByteArray) (maxL : Nat) (ret : Option FieldType) (hh : List (Nat × Nat × Nat × Nat)) (ws : List Cond) (rm : Room) (mc ms n : Nat) : Prop :=
  (rm.cells = mc ∧ rm.slots = ms ∧ rm.frames + 1 ≤ R.frames ∧ 8 + (maxL + 11) + rm.locals ≤ R.locals ∧ (∀ w ∈ ws, ∀ (a' : Array Value) (U : State), s.WarmedH U.vm → w.before a' U = true) ∧ Cond.codeWith y bytes maxL ret hh ∈ ws) ∧
  (Cond.codeWith y bytes maxL ret hh).before args s = true ∧ (Cond.initialized y.cls).before args s = true ∧ (y.cls ≠ "java/lang/invoke/MethodHandle" ∧ y.cls ≠ "java/lang/invoke/VarHandle") ∧
  (∀ sig, parseMethodDescriptor y.desc = some sig → n = sig.parameters.length) ∧ (Cond.methodLink own index y).before args s = true ∧ (Cond.static y).before args s = true
theorem vx_cwSW {own : String} {index maxL mc ms : Nat} {y : MethodName} {bytes : ByteArray} {ret : Option FieldType} {hh : List (Nat × Nat × Nat × Nat)} {Ts ws ws' : List Cond} {rm : Room} (n : Nat) (ht : ∀ w ∈ Ts, w.before args s = true) (hT : GoodIn Ts (va_wsS own index y ws)) (hw : ws = Cond.codeWith y bytes maxL ret hh :: ws') (hrc : rm.cells = mc) (hrs : rm.slots = ms)
    (hd : y.cls ≠ "java/lang/invoke/MethodHandle" ∧ y.cls ≠ "java/lang/invoke/VarHandle" ∧ (parseMethodDescriptor y.desc).map (fun d => d.parameters.length) = some n) (hR : rm.frames + 1 ≤ R.frames ∧ 8 + (maxL + 11) + rm.locals ≤ R.locals) :
    vx_CSW R s args own index y bytes maxL ret hh ws rm mc ms n := by
  have ok : ∀ w ∈ va_wsS own index y ws, w.before args s = true := fun w h => ht w (hT w h).1
  have hG : GoodIn Ts ws := fun w h => hT w (by unfold va_wsS; exact List.mem_append_right _ h)
  have hc : Cond.codeWith y bytes maxL ret hh ∈ ws := by rw [hw]; exact List.mem_cons_self
  refine ⟨⟨hrc, hrs, hR.1, hR.2, pay_in ht hG, hc⟩, ht _ (hG _ hc).1, ok _ (by simp [va_wsS]), ⟨hd.1, hd.2.1⟩, fun sig h => ?_, ok _ (by simp [va_wsS]), ok _ (by simp [va_wsS])⟩
  have h2 := hd.2.2
  rw [h] at h2
  exact (Option.some.inj h2).symm
theorem vx_callSW (X : Stand p l e R s m args below meth c T locs cells slots) (hexec : p.tables.exec = Jvm.exec) {own : String} {index : Nat} {y : MethodName} {bytes : ByteArray} {maxL : Nat} {ret : Option FieldType} {hh : List (Nat × Nat × Nat × Nat)}
    (hown : s.vm.findClass own = some m.cls) (hlink : (Cond.methodLink own index y).before args s = true) (hstat : (Cond.static y).before args s = true) (hinit : (Cond.initialized y.cls).before args s = true)
    (hcode : (Cond.codeWith y bytes maxL ret hh).before args s = true) (hy : y.cls ≠ "java/lang/invoke/MethodHandle" ∧ y.cls ≠ "java/lang/invoke/VarHandle")
    {W9 : Nat} {Pre : Pt → Array Value → Prop} {Post : Pt → Array Value → Option Value → Pt → Prop} (hK : Back l R p e below s args y 3 W9 Pre Post)
    {g : JFrame} (hg : g.method = m) (hsize : g.locals.size = c.maxLocals) {argsL rest : List Value} (hlen : ∀ sig, parseMethodDescriptor y.desc = some sig → argsL.length = sig.parameters.length)
    (hstack : g.stack = argsL.reverse ++ rest) (hW : 2 * g.monitorRoom + (rest.map fun v => v.category).sum ≤ W9) (hdg : decode c.code g.pc = .ok (.invokestatic index, 3))
    (hpre : ∀ vm₁, s.WarmedH vm₁ → Pre ⟨T.setVm vm₁, locs, cells, slots⟩ argsL.toArray) :
    ∃ (v : Option Value) (vm₁ : Vm) (B : Pt), s.WarmedH vm₁ ∧ Stand p l e R s m args below meth c B.U B.locs B.cells B.slots ∧ Post ⟨T.setVm vm₁, locs, cells, slots⟩ argsL.toArray v B ∧
      ∀ target, Steps p.tables e below (B.U.setTop { g with pc := g.pc + 3, stack := v.toList ++ rest }) target → Steps p.tables e below (T.setTop g) target := by
  obtain ⟨mk, methM, cM, hnamed, hmethM, -, -, -, -, -, -, hsigM⟩ := Cond.codeWith_spec hcode
  have hstatic : methM.isStatic = true := Cond.static_spec hnamed hmethM hstat
  obtain ⟨kP, hkP, -⟩ := className_of_methodNamed hnamed
  have hinitP : kP.init = .initialized := Cond.initialized_spec (findClass_of_methodNamed hnamed) hkP hinit
  obtain ⟨vm₁, X₁, hstep₁⟩ := X.invokestatic hexec hown hlink hnamed hmethM hstatic hkP hinitP hy (g := g) hg (argsL := argsL) (rest := rest) (hlen _ hsigM) hstack hdg
  obtain ⟨v, B, X', hpost, hsteps⟩ := hK m meth c ⟨T.setVm vm₁, locs, cells, slots⟩ { g with stack := rest } (.invokestatic index) mk argsL.toArray X₁ hg hsize hdg hW (X₁.named hnamed) (hpre vm₁ X₁.warmed)
  exact ⟨v, vm₁, B, X₁.warmed, X', hpost, fun target h => hstep₁ _ fun acts => by rw [doInvoke_state]; exact hsteps.trans h⟩
theorem vx_runSW {y : MethodName} {bytes cc : ByteArray} {maxL nL mc ms n index : Nat} {ret : Option FieldType} {hh : List (Nat × Nat × Nat × Nat)} {ws : List Cond} {rm : Room} {Pc : Array Value → State → Prop} {Qc : Array Value → State → Outcome → State → Prop} {free : Addr → Prop} {Ts : List Cond} {own : String} {As rest : List Value} {g : JFrame}
    (S : CallFix p m c cc nL s args Ts own) (hM : Met l y ws rm Pc Qc mc ms free) (cw : vx_CSW R s args own index y bytes maxL ret hh ws rm mc ms n) (hp : PreS s H Pc As)
    (hg : g.method = m) (hn : As.length = n) (hsize : g.locals.size = nL) (hstack : g.stack = As.reverse ++ rest) (hW : 2 * g.monitorRoom + (rest.map fun v => v.category).sum ≤ 8) (hdg : decode cc g.pc = .ok (.invokestatic index, 3)) (hf : cells + mc ≤ R.cells ∧ slots + ms ≤ R.slots) :
    va_Run p l e R s m args below meth c H locs cells slots mc ms g rest (Qc As.toArray) (free) := by
  obtain ⟨⟨hrc, hrs, hfr, hlo, hws, hcw⟩, hcode, hini, hy, hlen, hl, hstt⟩ := cw
  have hK : Back l R p e below s args y 3 8 (PreOf R mc ms Pc) (PostOf Qc mc ms free) := va_backW (hh := hh) (bytes := bytes) (maxL := maxL) (ret := ret) hM hp.1 hrc hrs hfr hlo hws hcw (fun a' U hW => word_at hW (Or.inl (by first | rfl | simp [Cond.onTables, Cond.keeps, Cond.steady])) hini)
  obtain ⟨hx, hb, hml, ho, -⟩ := S
  intro T hT X
  obtain ⟨v, vm₁, ⟨U', l2, c2, s2⟩, hW₁, X', ⟨g', mk, t, L, e1, e2, hq, h1, hL, h2, h3⟩, st⟩ := vx_callSW X hx (hh := hh) (bytes := bytes) (maxL := maxL) (ret := ret) ho hl hstt hini hcode hy hK hg (hsize.trans hml.symm) (argsL := As) (rest := rest) (fun sig h => hn.trans (hlen sig h)) hstack hW (by rw [hb]; exact hdg)
    (fun vm₁ hW₁ => ⟨hf.1, hf.2, hp.2 (T.setVm vm₁) hT hW₁⟩)
  dsimp only [Pt.U, Pt.locs, Pt.cells, Pt.slots] at X' e1 e2 h1 h2 h3 st
  subst h1; subst h2; subst h3
  exact ⟨v, (T.setVm vm₁).calling g' mk As.toArray, t, U', L, hT, X', hL, e1, e2, hq, st⟩
/-- not caught here, past rows that name other classes: it goes on to the caller -/
theorem vx_outP {p : Program} {l : Launch} {e : Env} {R : Room} {s : State} {m : MethodId} {args : Array Value} {below : List Frame} {meth : Method} {c : Code} {H : Heap} {locs : List Loc} {cells slots : Nat} {free : Addr → Prop} {ls : Array Slot} {rest : List Value} {Qc : Array Value → State → Outcome → State → Prop} {XC : String → State → State → Prop}
    {pc : Nat} {own E : String} {ce : Cell} {q : Addr} {mc ms : Nat} (hown : s.vm.findClass own = some m.cls) (hlocks : meth.locks = false)
    (hpass : ∀ z ∈ c.exceptionTable.toList, covers z pc = false ∨ (z.catchType ≠ 0 ∧ ∃ nm : String, (Cond.classLink own z.catchType nm).before args s = true ∧ va_Nc E nm s)) (hcell : H[q]? = some ce) (hv : ce.vm = .none) (hcl : s.vm.findClass E = some ce.cls)
    (hx : ∀ t : State, t.heap = H → s.vm.Alike t.vm → XC E s t) (hf : ∀ z ∈ locs, free z.base) (hc : cells ≤ mc) (hs : slots ≤ ms) :
    vx_W p l e R s m args below meth c H locs cells slots (vx_MQ below Qc XC args s mc ms free) (F0 m pc ls rest) q := by
  intro T hT X
  have hpl : e.platform.magicAccessors = ({} : Platform).magicAccessors := by rw [X.admits.platform]
  obtain ⟨vm', hW', X', st⟩ := X.outThrough hlocks q (g := F0 m pc ls rest) rfl rfl rfl (cell := ce) (by rw [hT]; exact hcell) (by rw [hv]; rfl)
    (by obtain ⟨k9, h9, -⟩ := Vm.findClass_spec hcl; exact ⟨k9, h9⟩) (fun z hz => by
      rcases hpass z hz with h | ⟨hz0, nm, hl1, hn1⟩
      · exact Or.inl h
      · obtain ⟨c6, hc6, hcl6⟩ := Cond.classLink_spec hown hl1 e.platform hpl
        obtain ⟨a8, b8, h1, h2, h3⟩ := hn1
        cases Option.some.inj (h1.symm.trans hcl)
        cases Option.some.inj (h2.symm.trans hc6)
        exact Or.inr ⟨hz0, _, hcl6, h3⟩)
  obtain ⟨g₀, hfr⟩ := X'.frames_eq
  have hcell9 : ((T.setVm vm').setFrames (.throwing q :: below)).heap[q]? = some ce := by
    show T.heap[q]? = some ce
    rw [hT]; exact hcell
  have hend : Ended ((T.setVm vm').setFrames (.throwing q :: below)) below (.threw q) := State.frames_setFrames _ (State.cur_lt_of_frames hfr)
  refine ⟨(T.setVm vm').setFrames (.throwing q :: below), ?_, .threw q, X'.here.running, hend, Or.inr ⟨q, rfl, E, ce, locs, hx _ hT (X'.ends _).1.alike, hcell9, hv, hcl, (X'.ends _).1, (X'.ends _).2.mono hc hs, hf⟩⟩
  rw [X.pushThrowing_eq]
  exact st
/-- a thing of a world lies in the heap -/
theorem vx_lt {D : va_G} {cl : List vw_C} {ws : va_W} {H1 : Heap} (h : va_P D cl ws H1) {k : Nat} {q : Nat × va_E} (hk : ws[k]? = some q) : q.1 < H1.size := (h k q hk).lt
end VXS
/-! ===== END ===== -/
/-! ===== BEGIN methods with a table of their own: called by a name, returning or throwing ===== -/
section VXH
/-! vx_backW, vx_callVX, vx_callSX, vx_callVW, vx_runVW, vx_runVX, vx_runSX, vx_ofWH follow the same proofs as their sisters above (Free/Laws.lean, Shelf42/LK1.lean); vx_outP calls Shelf42/NT130.lean (outThrough). -/
section
variable {l : Launch} {R : Room} {p : Program} {e : Env} {below : List Frame} {s : State} {sargs : Array Value} {y : MethodName} {len W9 : Nat}
theorem vx_backW {ws : List Cond} {rm : Room} {Pc : Array Value → State → Prop} {Qc : Array Value → State → Outcome → State → Prop} {XC : String → State → State → Prop} {mc ms : Nat} {free : Addr → Prop} {bytes : ByteArray} {maxL : Nat} {ret : Option FieldType} {hh : List (Nat × Nat × Nat × Nat)}
    (hM : vx_Met l y ws rm Pc Qc XC mc ms free) (hblind : FrameBlind Pc) (hrc : rm.cells = mc) (hrs : rm.slots = ms)
    (hframes : rm.frames + 1 ≤ R.frames) (hlocals : W9 + (maxL + 11) + rm.locals ≤ R.locals)
    (hws : ∀ w ∈ ws, ∀ a' U, s.WarmedH U.vm → w.before a' U = true) (hcode : Cond.codeWith y bytes maxL ret hh ∈ ws) (hinit : ∀ a' U, s.WarmedH U.vm → (Cond.initialized y.cls).before a' U = true) :
    vx_Back l R p e below s sargs y len W9 (PreOf R mc ms Pc) (PostOf Qc mc ms free) (vx_Post XC mc ms free) := by
  intro m meth c A g ig mk a X hg hsize hdg hW hn hp
  have h1 : (headSpec ws rm).pre.before a A.U = true := atoms_intro fun w hw => hws w hw _ _ X.warmed
  have h2 : (Cond.codeWith y bytes maxL ret hh).before a A.U = true := hws _ hcode _ _ X.warmed
  have h3 : (Cond.initialized y.cls).before a A.U = true := hinit _ _ X.warmed
  have h4 : A.cells + (headSpec ws rm).room.cells ≤ R.cells := by rw [show (headSpec ws rm).room.cells = mc from hrc]; exact hp.1
  have h5 : A.slots + (headSpec ws rm).room.slots ≤ R.slots := by rw [show (headSpec ws rm).room.slots = ms from hrs]; exact hp.2.1
  have hPc : Pc a (A.U.calling g mk a) := hblind _ _ _ _ hp.2.2
  obtain ⟨U, Ls, c0, s0⟩ := A
  dsimp only [Pt.U, Pt.locs, Pt.cells, Pt.slots] at h1 h2 h3 h4 h5 X hn hPc ⊢
  obtain ⟨m9, methY, cY, hn9, hmY, hcY, -, hlY, -⟩ := Cond.codeWith_spec h2
  cases Option.some.inj (hn9.symm.trans hn)
  obtain ⟨kY, hkY, -⟩ := className_of_methodNamed hn
  have hinitY : kY.init = .initialized := Cond.initialized_spec (findClass_of_methodNamed hn) hkY h3
  have h : At U g.method c below := by rw [hg]; exact X.here
  have hlocals9 : W9 + (maxL + 11) + (headSpec ws rm).room.locals ≤ R.locals := hlocals
  have happ : (headSpec ws rm).appliesLoose y e.platform (U.calling g mk a) = true :=
    Spec.appliesLoose_calling (g := g) h hdg hn hkY hinitY
      (X.room_calling (g := g) (R' := (headSpec ws rm).room) hsize hmY hcY hframes (by rw [hlY]; omega) h4 h5) h1
  obtain ⟨mid, hmid⟩ := h.above
  have hfr : (U.setTop g).frames = (.java g :: mid) ++ below := by rw [State.frames_setTop' g h.top, hmid]; rfl
  obtain ⟨o, s₂, hsteps, -, hend, hq⟩ := Steps.callFree hM p X.admits X.cas X.clock (acts := []) hfr happ hPc trivial
  have hq' : vx_Q Qc XC mc ms free a (U.calling g mk a) o s₂ := hq
  rw [State.frames_setTop' g h.top] at hend
  obtain ⟨g₀, hg0⟩ := Option.isSome_iff_exists.mp h.top
  obtain ⟨r, hr⟩ := State.topJava?_eq_some.mp hg0
  have hr' : (({ U with heap := s₂.heap, slotsUsed := s₂.slotsUsed } : State).setVm s₂.vm).frames = .java g₀ :: r := hr
  rcases hq' with ⟨hqc, L, hfe, hL⟩ | ⟨q, rfl, E, ce, L, hx, hce, hcv, hcl, hW₂, hsm, hL⟩
  · obtain ⟨⟨v, rfl⟩, hW₂, e2, q2, q3, q4, q5, q6⟩ := id hfe
    have e3 : s₂ = ({ (U.calling g mk a).setFrames s₂.frames with heap := s₂.heap, slotsUsed := s₂.slotsUsed } : State).setVm s₂.vm := by
      have : s₂ = ({ s₂ with vm := (U.calling g mk a).vm } : State).setVm s₂.vm := rfl
      rw [e2] at this
      exact this
    obtain ⟨c₂, i₂, len₂, hc₂, hd₂, hf₂⟩ := hend
    have hW' : U.WarmedH s₂.vm := hW₂
    have hcc : c₂ = c := by
      have h1 : s₂.code? g.method = U.code? g.method := by
        rw [State.code?_eq, State.code?_eq, hW'.alike.method?]
      exact Option.some.inj (hc₂.symm.trans (h1.trans h.code))
    subst hcc
    have hlen : len₂ = len := by rw [hdg] at hd₂; cases hd₂; rfl
    subst hlen
    have hs₂ : s₂ = (({ U with heap := s₂.heap, slotsUsed := s₂.slotsUsed } : State).setVm s₂.vm).setTop { g with pc := g.pc + len₂, stack := v.toList ++ g.stack } := by
      refine e3.trans ?_
      rw [hf₂, State.calling_eq h.top, State.setFrames_setFrames, State.setTop_of_frames _ hr', hr]
      rfl
    have hsame : U.sameButNew ({ U with heap := s₂.heap, slotsUsed := s₂.slotsUsed } : State) L mc ms := by
      refine ⟨?_, q2, q3, q4, q5, q6⟩
      obtain ⟨t, ht, -⟩ := State.frames_cons hr
      show ({ U with heap := s₂.heap, slotsUsed := s₂.slotsUsed } : State) = { U.setFrames U.frames with heap := s₂.heap, slotsUsed := s₂.slotsUsed }
      rw [State.setFrames_self ht]
    subst hg
    refine Or.inl ⟨v, ⟨(({ U with heap := s₂.heap, slotsUsed := s₂.slotsUsed } : State).setVm s₂.vm), Ls ++ L, c0 + mc, s0 + ms⟩,
      ⟨X.admits, X.cas, X.clock, X.frames, X.room, X.hears, X.method, X.code, (X.here.setHeapUsed s₂.heap s₂.slotsUsed).setVm hW'.alike, X.tail, State.WarmedH.trans X.warmed hW', X.limits, X.bytes, X.same.trans (hsame.setVm s.vm)⟩,
      ⟨g, mk, s₂, L, rfl, rfl, hqc, rfl, hL, rfl, rfl⟩, ?_⟩
    show Steps p.tables e below _ ((({ U with heap := s₂.heap, slotsUsed := s₂.slotsUsed } : State).setVm s₂.vm).setTop { g with pc := g.pc + len₂, stack := v.toList ++ g.stack })
    rw [← hs₂]
    exact hsteps
  · obtain ⟨e2, q2, q3, q4, q5, q6⟩ := id hsm
    have e3 : s₂ = ({ (U.calling g mk a).setFrames s₂.frames with heap := s₂.heap, slotsUsed := s₂.slotsUsed } : State).setVm s₂.vm := by
      have : s₂ = ({ s₂ with vm := (U.calling g mk a).vm } : State).setVm s₂.vm := rfl
      rw [e2] at this
      exact this
    have hf₂ : s₂.frames = .throwing q :: .java g :: U.frames.tail := hend
    have hW' : U.WarmedH s₂.vm := hW₂
    have hs₂ : s₂ = ((({ U with heap := s₂.heap, slotsUsed := s₂.slotsUsed } : State).setVm s₂.vm).setTop g).pushFrame (.throwing q) := by
      refine e3.trans ?_
      rw [hf₂, State.calling_eq h.top, State.setFrames_setFrames, State.pushFrame, State.frames_setTop _ hr', State.setTop_of_frames _ hr', State.setFrames_setFrames, hr]
      rfl
    have hsame : U.sameButNew ({ U with heap := s₂.heap, slotsUsed := s₂.slotsUsed } : State) L mc ms := by
      refine ⟨?_, q2, q3, q4, q5, q6⟩
      obtain ⟨t, ht, -⟩ := State.frames_cons hr
      show ({ U with heap := s₂.heap, slotsUsed := s₂.slotsUsed } : State) = { U.setFrames U.frames with heap := s₂.heap, slotsUsed := s₂.slotsUsed }
      rw [State.setFrames_self ht]
    subst hg
    refine Or.inr ⟨q, ⟨(({ U with heap := s₂.heap, slotsUsed := s₂.slotsUsed } : State).setVm s₂.vm), Ls ++ L, c0 + mc, s0 + ms⟩,
      ⟨X.admits, X.cas, X.clock, X.frames, X.room, X.hears, X.method, X.code, (X.here.setHeapUsed s₂.heap s₂.slotsUsed).setVm hW'.alike, X.tail, State.WarmedH.trans X.warmed hW', X.limits, X.bytes, X.same.trans (hsame.setVm s.vm)⟩,
      ⟨g, mk, s₂, L, E, ce, rfl, rfl, hx, hce, hcv, hcl, rfl, hL, rfl, rfl⟩, ?_⟩
    show Steps p.tables e below _ (((({ U with heap := s₂.heap, slotsUsed := s₂.slotsUsed } : State).setVm s₂.vm).setTop g).pushFrame (.throwing q))
    rw [← hs₂]
    exact hsteps
end
variable {p : Program} {l : Launch} {e : Env} {R : Room} {s : State} {m : MethodId} {args : Array Value} {below : List Frame} {meth : Method} {c : Code} {T : State} {H : Heap} {locs : List Loc} {cells slots : Nat}
theorem vx_callVX (X : Stand p l e R s m args below meth c T locs cells slots) (hexec : p.tables.exec = Jvm.exec) {own C : String} {index : Nat} {y : MethodName} {bytes : ByteArray} {maxL : Nat} {ret : Option FieldType} {hh : List (Nat × Nat × Nat × Nat)}
    (hown : s.vm.findClass own = some m.cls) (hlink : (Cond.methodLink own index y).before args s = true) (hinst : (Cond.instanceMethod y).before args s = true) (hsel : (Cond.selects C y y).before args s = true)
    (hcode : (Cond.codeWith y bytes maxL ret hh).before args s = true) (hy : y.cls ≠ "java/lang/invoke/MethodHandle" ∧ y.cls ≠ "java/lang/invoke/VarHandle")
    {W9 : Nat} {Pre : Pt → Array Value → Prop} {Post : Pt → Array Value → Option Value → Pt → Prop} {PostX : Pt → Array Value → Addr → Pt → Prop} (hK : vx_Back l R p e below s args y 3 W9 Pre Post PostX)
    {b : Addr} {cellB : Cell} (hcell : T.heap[b]? = some cellB) (hobj : cellB.vm.isStatics = false) (hcls : s.vm.findClass C = some cellB.cls)
    {g : JFrame} (hg : g.method = m) (hsize : g.locals.size = c.maxLocals) {argsL rest : List Value} (hlen : ∀ sig, parseMethodDescriptor y.desc = some sig → argsL.length = sig.parameters.length)
    (hstack : g.stack = argsL.reverse ++ .ref b :: rest) (hW : 2 * g.monitorRoom + (rest.map fun v => v.category).sum ≤ W9) (hdg : decode c.code g.pc = .ok (.invokevirtual index, 3))
    (hpre : ∀ vm₁, s.WarmedH vm₁ → Pre ⟨T.setVm vm₁, locs, cells, slots⟩ (Value.ref b :: argsL).toArray) :
    (∃ (v : Option Value) (vm₁ : Vm) (B : Pt), s.WarmedH vm₁ ∧ Stand p l e R s m args below meth c B.U B.locs B.cells B.slots ∧ Post ⟨T.setVm vm₁, locs, cells, slots⟩ (Value.ref b :: argsL).toArray v B ∧
      ∀ target, Steps p.tables e below (B.U.setTop { g with pc := g.pc + 3, stack := v.toList ++ rest }) target → Steps p.tables e below (T.setTop g) target) ∨
    (∃ (q : Addr) (vm₁ : Vm) (B : Pt), s.WarmedH vm₁ ∧ Stand p l e R s m args below meth c B.U B.locs B.cells B.slots ∧ PostX ⟨T.setVm vm₁, locs, cells, slots⟩ (Value.ref b :: argsL).toArray q B ∧
      Steps p.tables e below (T.setTop g) ((B.U.setTop { g with stack := rest }).pushFrame (.throwing q))) := by
  obtain ⟨mk, methM, hnamed, hmethM, hstM, habM⟩ := Cond.instanceMethod_spec hinst
  obtain ⟨m8, methM', cM, hn8, hmethM', -, -, -, -, -, -, hsigM⟩ := Cond.codeWith_spec hcode
  cases Option.some.inj (hn8.symm.trans hnamed)
  cases hmethM.symm.trans hmethM'
  obtain ⟨c2, r2, m2, q1, q2, q3, q4, kP, hkP, hkPi⟩ := Cond.selects_spec hsel
  cases hcls.symm.trans q1
  cases (State.methodFound?_of_named hnamed hy).symm.trans q2
  cases hnamed.symm.trans q3
  have hselP : selectMethod e.platform s.vm cellB.cls mk = .method mk := by rw [Launch.admits_selectMethod X.admits]; exact q4
  obtain ⟨vm₁, X₁, hstep₁⟩ := X.invokevirtual hexec hown hlink hnamed hmethM hstM hkP hkPi hy (a := b) (cell := cellB) hcell
    (fun z h => by rw [h] at hobj; cases hobj) hselP hmethM habM hkP hkPi (g := g) hg (argsL := argsL) (rest := rest) (hlen _ hsigM) hstack hdg
  rcases hK m meth c ⟨T.setVm vm₁, locs, cells, slots⟩ { g with stack := rest } (.invokevirtual index) mk (Value.ref b :: argsL).toArray X₁ hg hsize hdg hW (X₁.named hnamed) (hpre vm₁ X₁.warmed) with ⟨v, B, X', hpost, hsteps⟩ | ⟨q, B, X', hpost, hsteps⟩
  · exact Or.inl ⟨v, vm₁, B, X₁.warmed, X', hpost, fun target h => hstep₁ _ fun acts => by rw [doInvoke_state]; exact hsteps.trans h⟩
  · exact Or.inr ⟨q, vm₁, B, X₁.warmed, X', hpost, hstep₁ _ fun acts => by rw [doInvoke_state]; exact hsteps⟩
theorem vx_callSX (X : Stand p l e R s m args below meth c T locs cells slots) (hexec : p.tables.exec = Jvm.exec) {own : String} {index : Nat} {y : MethodName} {bytes : ByteArray} {maxL : Nat} {ret : Option FieldType} {hh : List (Nat × Nat × Nat × Nat)}
    (hown : s.vm.findClass own = some m.cls) (hlink : (Cond.methodLink own index y).before args s = true) (hstat : (Cond.static y).before args s = true) (hinit : (Cond.initialized y.cls).before args s = true)
    (hcode : (Cond.codeWith y bytes maxL ret hh).before args s = true) (hy : y.cls ≠ "java/lang/invoke/MethodHandle" ∧ y.cls ≠ "java/lang/invoke/VarHandle")
    {W9 : Nat} {Pre : Pt → Array Value → Prop} {Post : Pt → Array Value → Option Value → Pt → Prop} {PostX : Pt → Array Value → Addr → Pt → Prop} (hK : vx_Back l R p e below s args y 3 W9 Pre Post PostX)
    {g : JFrame} (hg : g.method = m) (hsize : g.locals.size = c.maxLocals) {argsL rest : List Value} (hlen : ∀ sig, parseMethodDescriptor y.desc = some sig → argsL.length = sig.parameters.length)
    (hstack : g.stack = argsL.reverse ++ rest) (hW : 2 * g.monitorRoom + (rest.map fun v => v.category).sum ≤ W9) (hdg : decode c.code g.pc = .ok (.invokestatic index, 3))
    (hpre : ∀ vm₁, s.WarmedH vm₁ → Pre ⟨T.setVm vm₁, locs, cells, slots⟩ argsL.toArray) :
    (∃ (v : Option Value) (vm₁ : Vm) (B : Pt), s.WarmedH vm₁ ∧ Stand p l e R s m args below meth c B.U B.locs B.cells B.slots ∧ Post ⟨T.setVm vm₁, locs, cells, slots⟩ argsL.toArray v B ∧
      ∀ target, Steps p.tables e below (B.U.setTop { g with pc := g.pc + 3, stack := v.toList ++ rest }) target → Steps p.tables e below (T.setTop g) target) ∨
    (∃ (q : Addr) (vm₁ : Vm) (B : Pt), s.WarmedH vm₁ ∧ Stand p l e R s m args below meth c B.U B.locs B.cells B.slots ∧ PostX ⟨T.setVm vm₁, locs, cells, slots⟩ argsL.toArray q B ∧
      Steps p.tables e below (T.setTop g) ((B.U.setTop { g with stack := rest }).pushFrame (.throwing q))) := by
  obtain ⟨mk, methM, cM, hnamed, hmethM, -, -, -, -, -, -, hsigM⟩ := Cond.codeWith_spec hcode
  have hstatic : methM.isStatic = true := Cond.static_spec hnamed hmethM hstat
  obtain ⟨kP, hkP, -⟩ := className_of_methodNamed hnamed
  have hinitP : kP.init = .initialized := Cond.initialized_spec (findClass_of_methodNamed hnamed) hkP hinit
  obtain ⟨vm₁, X₁, hstep₁⟩ := X.invokestatic hexec hown hlink hnamed hmethM hstatic hkP hinitP hy (g := g) hg (argsL := argsL) (rest := rest) (hlen _ hsigM) hstack hdg
  rcases hK m meth c ⟨T.setVm vm₁, locs, cells, slots⟩ { g with stack := rest } (.invokestatic index) mk argsL.toArray X₁ hg hsize hdg hW (X₁.named hnamed) (hpre vm₁ X₁.warmed) with ⟨v, B, X', hpost, hsteps⟩ | ⟨q, B, X', hpost, hsteps⟩
  · exact Or.inl ⟨v, vm₁, B, X₁.warmed, X', hpost, fun target h => hstep₁ _ fun acts => by rw [doInvoke_state]; exact hsteps.trans h⟩
  · exact Or.inr ⟨q, vm₁, B, X₁.warmed, X', hpost, hstep₁ _ fun acts => by rw [doInvoke_state]; exact hsteps⟩
theorem vx_callVW (X : Stand p l e R s m args below meth c T locs cells slots) (hexec : p.tables.exec = Jvm.exec) {own C : String} {index : Nat} {y : MethodName} {bytes : ByteArray} {maxL : Nat} {ret : Option FieldType} {hh : List (Nat × Nat × Nat × Nat)}
    (hown : s.vm.findClass own = some m.cls) (hlink : (Cond.methodLink own index y).before args s = true) (hinst : (Cond.instanceMethod y).before args s = true) (hsel : (Cond.selects C y y).before args s = true)
    (hcode : (Cond.codeWith y bytes maxL ret hh).before args s = true) (hy : y.cls ≠ "java/lang/invoke/MethodHandle" ∧ y.cls ≠ "java/lang/invoke/VarHandle")
    {W9 : Nat} {Pre : Pt → Array Value → Prop} {Post : Pt → Array Value → Option Value → Pt → Prop} (hK : Back l R p e below s args y 3 W9 Pre Post)
    {b : Addr} {cellB : Cell} (hcell : T.heap[b]? = some cellB) (hobj : cellB.vm.isStatics = false) (hcls : s.vm.findClass C = some cellB.cls)
    {g : JFrame} (hg : g.method = m) (hsize : g.locals.size = c.maxLocals) {argsL rest : List Value} (hlen : ∀ sig, parseMethodDescriptor y.desc = some sig → argsL.length = sig.parameters.length)
    (hstack : g.stack = argsL.reverse ++ .ref b :: rest) (hW : 2 * g.monitorRoom + (rest.map fun v => v.category).sum ≤ W9) (hdg : decode c.code g.pc = .ok (.invokevirtual index, 3))
    (hpre : ∀ vm₁, s.WarmedH vm₁ → Pre ⟨T.setVm vm₁, locs, cells, slots⟩ (Value.ref b :: argsL).toArray) :
    ∃ (v : Option Value) (vm₁ : Vm) (B : Pt), s.WarmedH vm₁ ∧ Stand p l e R s m args below meth c B.U B.locs B.cells B.slots ∧ Post ⟨T.setVm vm₁, locs, cells, slots⟩ (Value.ref b :: argsL).toArray v B ∧
      ∀ target, Steps p.tables e below (B.U.setTop { g with pc := g.pc + 3, stack := v.toList ++ rest }) target → Steps p.tables e below (T.setTop g) target := by
  obtain ⟨mk, methM, hnamed, hmethM, hstM, habM⟩ := Cond.instanceMethod_spec hinst
  obtain ⟨m8, methM', cM, hn8, hmethM', -, -, -, -, -, -, hsigM⟩ := Cond.codeWith_spec hcode
  cases Option.some.inj (hn8.symm.trans hnamed)
  cases hmethM.symm.trans hmethM'
  obtain ⟨c2, r2, m2, q1, q2, q3, q4, kP, hkP, hkPi⟩ := Cond.selects_spec hsel
  cases hcls.symm.trans q1
  cases (State.methodFound?_of_named hnamed hy).symm.trans q2
  cases hnamed.symm.trans q3
  have hselP : selectMethod e.platform s.vm cellB.cls mk = .method mk := by rw [Launch.admits_selectMethod X.admits]; exact q4
  obtain ⟨vm₁, X₁, hstep₁⟩ := X.invokevirtual hexec hown hlink hnamed hmethM hstM hkP hkPi hy (a := b) (cell := cellB) hcell
    (fun z h => by rw [h] at hobj; cases hobj) hselP hmethM habM hkP hkPi (g := g) hg (argsL := argsL) (rest := rest) (hlen _ hsigM) hstack hdg
  obtain ⟨v, B, X', hpost, hsteps⟩ := hK m meth c ⟨T.setVm vm₁, locs, cells, slots⟩ { g with stack := rest } (.invokevirtual index) mk (Value.ref b :: argsL).toArray X₁ hg hsize hdg hW (X₁.named hnamed) (hpre vm₁ X₁.warmed)
  exact ⟨v, vm₁, B, X₁.warmed, X', hpost, fun target h => hstep₁ _ fun acts => by rw [doInvoke_state]; exact hsteps.trans h⟩
abbrev vx_CVW (R : Room) (s : State) (args : Array Value) (own C : String) (index : Nat) (y : MethodName) (bytes : ByteArray) (maxL : Nat) (ret : Option FieldType) (hh : List (Nat × Nat × Nat × Nat)) (ws : List Cond) (rm : Room) (mc ms n : Nat) : Prop :=
  (rm.cells = mc ∧ rm.slots = ms ∧ rm.frames + 1 ≤ R.frames ∧ 8 + (maxL + 11) + rm.locals ≤ R.locals ∧ (∀ w ∈ ws, ∀ (a' : Array Value) (U : State), s.WarmedH U.vm → w.before a' U = true) ∧ Cond.codeWith y bytes maxL ret hh ∈ ws) ∧
  (Cond.codeWith y bytes maxL ret hh).before args s = true ∧ (Cond.initialized y.cls).before args s = true ∧ (y.cls ≠ "java/lang/invoke/MethodHandle" ∧ y.cls ≠ "java/lang/invoke/VarHandle") ∧
  (∀ sig, parseMethodDescriptor y.desc = some sig → n = sig.parameters.length) ∧ (Cond.methodLink own index y).before args s = true ∧ (Cond.instanceMethod y).before args s = true ∧ (Cond.selects C y y).before args s = true
theorem vx_cwVW {own C : String} {index maxL mc ms : Nat} {y : MethodName} {bytes : ByteArray} {ret : Option FieldType} {hh : List (Nat × Nat × Nat × Nat)} {Ts ws ws' : List Cond} {rm : Room} (n : Nat) (ht : ∀ w ∈ Ts, w.before args s = true) (hT : GoodIn Ts (wsV own index C y ws)) (hw : ws = Cond.codeWith y bytes maxL ret hh :: ws') (hrc : rm.cells = mc) (hrs : rm.slots = ms)
    (hd : y.cls = C ∧ y.cls ≠ "java/lang/invoke/MethodHandle" ∧ y.cls ≠ "java/lang/invoke/VarHandle" ∧ (parseMethodDescriptor y.desc).map (fun d => d.parameters.length) = some n) (hR : rm.frames + 1 ≤ R.frames ∧ 8 + (maxL + 11) + rm.locals ≤ R.locals) :
    vx_CVW R s args own C index y bytes maxL ret hh ws rm mc ms n := by
  obtain ⟨hC, hd⟩ := hd
  subst hC
  have ok : ∀ w ∈ wsV own index y.cls y ws, w.before args s = true := fun w h => ht w (hT w h).1
  have hG : GoodIn Ts ws := fun w h => hT w (by unfold wsV; exact List.mem_append_right _ h)
  have hc : Cond.codeWith y bytes maxL ret hh ∈ ws := by rw [hw]; exact List.mem_cons_self
  refine ⟨⟨hrc, hrs, hR.1, hR.2, pay_in ht hG, hc⟩, ht _ (hG _ hc).1, ok _ (by simp [wsV]), ⟨hd.1, hd.2.1⟩, fun sig h => ?_, ok _ (by simp [wsV]), ok _ (by simp [wsV]), ok _ (by simp [wsV])⟩
  have h2 := hd.2.2
  rw [h] at h2
  exact (Option.some.inj h2).symm
theorem vx_runVW {y : MethodName} {bytes cc : ByteArray} {maxL nL mc ms n index : Nat} {ret : Option FieldType} {hh : List (Nat × Nat × Nat × Nat)} {ws : List Cond} {rm : Room} {Pc : Array Value → State → Prop} {Qc : Array Value → State → Outcome → State → Prop} {free : Addr → Prop} {Ts : List Cond} {own C : String} {b : Addr} {As rest : List Value} {g : JFrame}
    (S : CallFix p m c cc nL s args Ts own) (hM : Met l y ws rm Pc Qc mc ms free) (cw : vx_CVW R s args own C index y bytes maxL ret hh ws rm mc ms n) (hp : PreV s H C b Pc As)
    (hg : g.method = m) (hn : As.length = n) (hsize : g.locals.size = nL) (hstack : g.stack = As.reverse ++ .ref b :: rest) (hW : 2 * g.monitorRoom + (rest.map fun v => v.category).sum ≤ 8) (hdg : decode cc g.pc = .ok (.invokevirtual index, 3)) (hf : cells + mc ≤ R.cells ∧ slots + ms ≤ R.slots) :
    va_Run p l e R s m args below meth c H locs cells slots mc ms g rest (Qc (Value.ref b :: As).toArray) free := by
  obtain ⟨⟨hrc, hrs, hfr, hlo, hws, hcw⟩, hcode, hini, hy, hlen, hl, hin, hse⟩ := cw
  have hK : Back l R p e below s args y 3 8 (PreOf R mc ms Pc) (PostOf Qc mc ms free) := va_backW (hh := hh) (bytes := bytes) (maxL := maxL) (ret := ret) hM hp.1 hrc hrs hfr hlo hws hcw (fun a' U hW => word_at hW (Or.inl (by first | rfl | simp [Cond.onTables, Cond.keeps, Cond.steady])) hini)
  obtain ⟨hx, hb, hml, ho, -⟩ := S
  obtain ⟨-, ⟨cellB, hcB, hoB, hclB⟩, hPc⟩ := hp
  intro T hT X
  obtain ⟨v, vm₁, ⟨U', l2, c2, s2⟩, hW₁, X', ⟨g', mk, t, L, e1, e2, hq, h1, hL, h2, h3⟩, st⟩ := vx_callVW X hx (C := C) (hh := hh) (bytes := bytes) (maxL := maxL) (ret := ret) ho hl hin hse hcode hy hK (by rw [hT]; exact hcB) hoB hclB hg (hsize.trans hml.symm) (argsL := As) (rest := rest) (fun sig h => hn.trans (hlen sig h)) hstack hW (by rw [hb]; exact hdg)
    (fun vm₁ hW₁ => ⟨hf.1, hf.2, hPc (T.setVm vm₁) hT hW₁⟩)
  dsimp only [Pt.U, Pt.locs, Pt.cells, Pt.slots] at X' e1 e2 h1 h2 h3 st
  subst h1; subst h2; subst h3
  exact ⟨v, (T.setVm vm₁).calling g' mk (Value.ref b :: As).toArray, t, U', L, hT, X', hL, e1, e2, hq, st⟩
section
variable {y : MethodName} {bytes cc : ByteArray} {maxL nL mc ms n index : Nat} {ret : Option FieldType} {ws : List Cond} {rm : Room} {Pc : Array Value → State → Prop} {Qc : Array Value → State → Outcome → State → Prop} {XC : String → State → State → Prop} {free : Addr → Prop} {Ts : List Cond} {own C : String} {b : Addr} {As rest : List Value} {g : JFrame}
theorem vx_runVX {hh : List (Nat × Nat × Nat × Nat)} (S : CallFix p m c cc nL s args Ts own) (hM : vx_Met l y ws rm Pc Qc XC mc ms free) (cw : vx_CVW R s args own C index y bytes maxL ret hh ws rm mc ms n) (hp : PreV s H C b Pc As)
    (hg : g.method = m) (hn : As.length = n) (hsize : g.locals.size = nL) (hstack : g.stack = As.reverse ++ .ref b :: rest) (hW : 2 * g.monitorRoom + (rest.map fun v => v.category).sum ≤ 8) (hdg : decode cc g.pc = .ok (.invokevirtual index, 3)) (hf : cells + mc ≤ R.cells ∧ slots + ms ≤ R.slots) :
    vx_Run p l e R s m args below meth c H locs cells slots mc ms g rest (Qc (Value.ref b :: As).toArray) XC free := by
  obtain ⟨⟨hrc, hrs, hfr, hlo, hws, hcw⟩, hcode, hini, hy, hlen, hl, hin, hse⟩ := cw
  have hK : vx_Back l R p e below s args y 3 8 (PreOf R mc ms Pc) (PostOf Qc mc ms free) (vx_Post XC mc ms free) := vx_backW (hh := hh) (bytes := bytes) (maxL := maxL) (ret := ret) hM hp.1 hrc hrs hfr hlo hws hcw (fun a' U hW => word_at hW (Or.inl (by first | rfl | simp [Cond.onTables, Cond.keeps, Cond.steady])) hini)
  obtain ⟨hx, hb, hml, ho, -⟩ := S
  obtain ⟨-, ⟨cellB, hcB, hoB, hclB⟩, hPc⟩ := hp
  intro T hT X
  rcases vx_callVX X hx (C := C) (hh := hh) (bytes := bytes) (maxL := maxL) (ret := ret) ho hl hin hse hcode hy hK (by rw [hT]; exact hcB) hoB hclB hg (hsize.trans hml.symm) (argsL := As) (rest := rest) (fun sig h => hn.trans (hlen sig h)) hstack hW (by rw [hb]; exact hdg)
    (fun vm₁ hW₁ => ⟨hf.1, hf.2, hPc (T.setVm vm₁) hT hW₁⟩) with ⟨v, vm₁, ⟨U', l2, c2, s2⟩, hW₁, X', ⟨g', mk, t, L, e1, e2, hq, h1, hL, h2, h3⟩, st⟩ | ⟨q, vm₁, ⟨U', l2, c2, s2⟩, hW₁, X', ⟨g', mk, t, L, E, ce, e1, e2, hq, hce, hcv, hcl, h1, hL, h2, h3⟩, st⟩
  · dsimp only [Pt.U, Pt.locs, Pt.cells, Pt.slots] at X' e1 e2 h1 h2 h3 st
    subst h1; subst h2; subst h3
    exact Or.inl ⟨v, (T.setVm vm₁).calling g' mk (Value.ref b :: As).toArray, t, U', L, hT, X', hL, e1, e2, hq, st⟩
  · dsimp only [Pt.U, Pt.locs, Pt.cells, Pt.slots] at X' e1 e2 h1 h2 h3 st hcl
    subst h1; subst h2; subst h3
    exact Or.inr ⟨q, (T.setVm vm₁).calling g' mk (Value.ref b :: As).toArray, t, U', L, E, ce, hT, X', hL, e1, e2, hq, hce, hcv, vx_cls hW₁ hcl, st⟩
theorem vx_runSX {hh : List (Nat × Nat × Nat × Nat)} (S : CallFix p m c cc nL s args Ts own) (hM : vx_Met l y ws rm Pc Qc XC mc ms free) (cw : vx_CSW R s args own index y bytes maxL ret hh ws rm mc ms n) (hp : PreS s H Pc As)
    (hg : g.method = m) (hn : As.length = n) (hsize : g.locals.size = nL) (hstack : g.stack = As.reverse ++ rest) (hW : 2 * g.monitorRoom + (rest.map fun v => v.category).sum ≤ 8) (hdg : decode cc g.pc = .ok (.invokestatic index, 3)) (hf : cells + mc ≤ R.cells ∧ slots + ms ≤ R.slots) :
    vx_Run p l e R s m args below meth c H locs cells slots mc ms g rest (Qc As.toArray) XC free := by
  obtain ⟨⟨hrc, hrs, hfr, hlo, hws, hcw⟩, hcode, hini, hy, hlen, hl, hstt⟩ := cw
  have hK : vx_Back l R p e below s args y 3 8 (PreOf R mc ms Pc) (PostOf Qc mc ms free) (vx_Post XC mc ms free) := vx_backW (hh := hh) (bytes := bytes) (maxL := maxL) (ret := ret) hM hp.1 hrc hrs hfr hlo hws hcw (fun a' U hW => word_at hW (Or.inl (by first | rfl | simp [Cond.onTables, Cond.keeps, Cond.steady])) hini)
  obtain ⟨hx, hb, hml, ho, -⟩ := S
  intro T hT X
  rcases vx_callSX X hx (hh := hh) (bytes := bytes) (maxL := maxL) (ret := ret) ho hl hstt hini hcode hy hK hg (hsize.trans hml.symm) (argsL := As) (rest := rest) (fun sig h => hn.trans (hlen sig h)) hstack hW (by rw [hb]; exact hdg)
    (fun vm₁ hW₁ => ⟨hf.1, hf.2, hp.2 (T.setVm vm₁) hT hW₁⟩) with ⟨v, vm₁, ⟨U', l2, c2, s2⟩, hW₁, X', ⟨g', mk, t, L, e1, e2, hq, h1, hL, h2, h3⟩, st⟩ | ⟨q, vm₁, ⟨U', l2, c2, s2⟩, hW₁, X', ⟨g', mk, t, L, E, ce, e1, e2, hq, hce, hcv, hcl, h1, hL, h2, h3⟩, st⟩
  · dsimp only [Pt.U, Pt.locs, Pt.cells, Pt.slots] at X' e1 e2 h1 h2 h3 st
    subst h1; subst h2; subst h3
    exact Or.inl ⟨v, (T.setVm vm₁).calling g' mk As.toArray, t, U', L, hT, X', hL, e1, e2, hq, st⟩
  · dsimp only [Pt.U, Pt.locs, Pt.cells, Pt.slots] at X' e1 e2 h1 h2 h3 st hcl
    subst h1; subst h2; subst h3
    exact Or.inr ⟨q, (T.setVm vm₁).calling g' mk As.toArray, t, U', L, E, ce, hT, X', hL, e1, e2, hq, hce, hcv, vx_cls hW₁ hcl, st⟩
end
end VXH
theorem vx_ofWH {l : Launch} {y : MethodName} {ws ws' : List Cond} {rm : Room} {Pc : Array Value → State → Prop} {Qc : Array Value → State → Outcome → State → Prop} {XC : String → State → State → Prop} {mc ms : Nat} {free : Addr → Prop} {cc : ByteArray} {maxL : Nat} {ret : Option FieldType} {hh : List (Nat × Nat × Nat × Nat)}
    (hy : plainName y.cls = true) (hw : ws = Cond.codeWith y cc maxL ret hh :: ws')
    (body : ∀ p e s m args below meth c s₁, BodyLoose p l y (headSpec ws rm) cc maxL ret e s m args below meth c s₁ → c.maxLocals = maxL → Pc args s →
      W p l e (headSpec ws rm).room s m args below meth c s.heap [] 0 0 (vx_MQ below Qc XC args s mc ms free) (entryFrame m args maxL)) : vx_Met l y ws rm Pc Qc XC mc ms free := by
  refine MetFree.of_bodyS (code := cc) (maxLocals := maxL) (ret := ret) hy ?_ ?_
  · intro args s m h hn
    obtain ⟨m9, meth, c, hn9, h1, h2, h3, h4, -, h5, h6, -⟩ := Cond.codeWith_spec (atoms_spec (ws := ws) h _ (by rw [hw]; exact List.mem_cons_self))
    cases hn.symm.trans hn9
    exact ⟨meth, c, h1, h2, h3, h4, h5, h6⟩
  · intro p e s m args below meth c s₁ B hml hP _
    have hh0 : s₁.heap = s.heap := by rw [B.state]; rfl
    obtain ⟨t, a1, o, b1, b2, b3⟩ := body p e s m args below meth c s₁ B hml hP s₁ hh0 (Stand.of_body B)
    exact ⟨t, o, a1, b1, b2, b3⟩
/-! ===== END ===== -/

/-! ===== BEGIN printed: names, fields, word lists, decode rows ===== -/
def RX0 : String := "LayeredImages$Build"
def TX0 : u_T := fun k => match k with
  | 0 => ("LayeredImages$Build", "plan", "LLayeredImages$Recipe;", true)
  | 1 => ("LayeredImages$Build", "taken", "I", false)
  | _ => ("LayeredImages$Build", "layer", "LLayeredImages$Layer;", false)
def tyX0 : Nat → FieldType := fun k => match k with
  | 0 => .object "LayeredImages$Recipe"
  | 1 => .int
  | _ => .object "LayeredImages$Layer"
abbrev wsX00 : List Cond := u_ws RX0 TX0 3
theorem nmX0 : ∀ a, a < 3 → ∀ b, b < 3 → a ≠ b → (TX0 a).2.1 ≠ (TX0 b).2.1 := by decide +kernel
theorem tyX0_ok : ∀ k, k < 3 → parseFieldDescriptor (TX0 k).2.2.1 = some (tyX0 k) := by decide +kernel
abbrev cX0_init : ByteArray := prog_2_method_1_code
def yX0_init : MethodName := ⟨RX0, "<init>", "()V"⟩
abbrev cX0_begin : ByteArray := prog_2_method_2_code
def yX0_begin : MethodName := ⟨RX0, "begin", "(LLayeredImages$Recipe;LLayeredImages$Layer;)V"⟩
abbrev cX0_left : ByteArray := prog_2_method_3_code
def yX0_left : MethodName := ⟨RX0, "left", "()I"⟩
abbrev cX0_goesOn : ByteArray := prog_2_method_4_code
def yX0_goesOn : MethodName := ⟨RX0, "goesOn", "()Z"⟩
abbrev cX0_upcoming : ByteArray := prog_2_method_5_code
def yX0_upcoming : MethodName := ⟨RX0, "upcoming", "()LLayeredImages$Instruction;"⟩
abbrev cX0_advanceTo : ByteArray := prog_2_method_6_code
def yX0_advanceTo : MethodName := ⟨RX0, "advanceTo", "(LLayeredImages$Layer;)V"⟩
abbrev cX0_fail : ByteArray := prog_2_method_7_code
def yX0_fail : MethodName := ⟨RX0, "fail", "()V"⟩
abbrev cX0_finished : ByteArray := prog_2_method_8_code
def yX0_finished : MethodName := ⟨RX0, "finished", "()LLayeredImages$Layer;"⟩
abbrev cX0_forget : ByteArray := prog_2_method_9_code
def yX0_forget : MethodName := ⟨RX0, "forget", "(LLayeredImages$Layer;)V"⟩
def RX1 : String := "LayeredImages$Instruction"
def TX1 : u_T := fun k => match k with
  | 0 => ("LayeredImages$Instruction", "kind", "I", true)
  | 1 => ("LayeredImages$Instruction", "first", "I", true)
  | _ => ("LayeredImages$Instruction", "second", "I", true)
def tyX1 : Nat → FieldType := fun k => match k with
  | 0 => .int
  | 1 => .int
  | _ => .int
abbrev wsX10 : List Cond := u_ws RX1 TX1 3
theorem nmX1 : ∀ a, a < 3 → ∀ b, b < 3 → a ≠ b → (TX1 a).2.1 ≠ (TX1 b).2.1 := by decide +kernel
theorem tyX1_ok : ∀ k, k < 3 → parseFieldDescriptor (TX1 k).2.2.1 = some (tyX1 k) := by decide +kernel
abbrev cX1_init : ByteArray := prog_3_method_1_code
def yX1_init : MethodName := ⟨RX1, "<init>", "(III)V"⟩
abbrev cX1_isSameAs : ByteArray := prog_3_method_2_code
def yX1_isSameAs : MethodName := ⟨RX1, "isSameAs", "(LLayeredImages$Instruction;)Z"⟩
abbrev cX1_inputFrom : ByteArray := prog_3_method_3_code
def yX1_inputFrom : MethodName := ⟨RX1, "inputFrom", "([I)I"⟩
abbrev cX1_failsOn : ByteArray := prog_3_method_4_code
def yX1_failsOn : MethodName := ⟨RX1, "failsOn", "(LLayeredImages$Layer;I)Z"⟩
abbrev cX1_carryOut : ByteArray := prog_3_method_5_code
def yX1_carryOut : MethodName := ⟨RX1, "carryOut", "(LLayeredImages$Layer;I)V"⟩
abbrev cX1_runOn : ByteArray := prog_3_method_6_code
def yX1_runOn : MethodName := ⟨RX1, "runOn", "(II)I"⟩
def RX2 : String := "LayeredImages$Layer"
def TX2 : u_T := fun k => match k with
  | 0 => ("LayeredImages$Layer", "number", "I", true)
  | 1 => ("LayeredImages$Layer", "parent", "LLayeredImages$Layer;", true)
  | 2 => ("LayeredImages$Layer", "place", "I", true)
  | 3 => ("LayeredImages$Layer", "held", "[I", true)
  | 4 => ("LayeredImages$Layer", "shown", "[I", true)
  | 5 => ("LayeredImages$Layer", "values", "[I", true)
  | 6 => ("LayeredImages$Layer", "maker", "LLayeredImages$Instruction;", false)
  | _ => ("LayeredImages$Layer", "input", "I", false)
def tyX2 : Nat → FieldType := fun k => match k with
  | 0 => .int
  | 1 => .object "LayeredImages$Layer"
  | 2 => .int
  | 3 => .array .int
  | 4 => .array .int
  | 5 => .array .int
  | 6 => .object "LayeredImages$Instruction"
  | _ => .int
abbrev wsX20 : List Cond := u_ws RX2 TX2 8
theorem nmX2 : ∀ a, a < 8 → ∀ b, b < 8 → a ≠ b → (TX2 a).2.1 ≠ (TX2 b).2.1 := by decide +kernel
theorem tyX2_ok : ∀ k, k < 8 → parseFieldDescriptor (TX2 k).2.2.1 = some (tyX2 k) := by decide +kernel
abbrev cX2_init : ByteArray := prog_4_method_1_code
def yX2_init : MethodName := ⟨RX2, "<init>", "(I[I)V"⟩
abbrev cX2_init_ : ByteArray := prog_4_method_2_code
def yX2_init_ : MethodName := ⟨RX2, "<init>", "(ILLayeredImages$Layer;)V"⟩
abbrev cX2_holds : ByteArray := prog_4_method_3_code
def yX2_holds : MethodName := ⟨RX2, "holds", "(I)I"⟩
abbrev cX2_shows : ByteArray := prog_4_method_4_code
def yX2_shows : MethodName := ⟨RX2, "shows", "(I)I"⟩
abbrev cX2_value : ByteArray := prog_4_method_5_code
def yX2_value : MethodName := ⟨RX2, "value", "(I)I"⟩
abbrev cX2_hold : ByteArray := prog_4_method_6_code
def yX2_hold : MethodName := ⟨RX2, "hold", "(II)V"⟩
abbrev cX2_assign : ByteArray := prog_4_method_7_code
def yX2_assign : MethodName := ⟨RX2, "assign", "(II)V"⟩
abbrev cX2_assignLike : ByteArray := prog_4_method_8_code
def yX2_assignLike : MethodName := ⟨RX2, "assignLike", "(LLayeredImages$Layer;)V"⟩
abbrev cX2_becomeMadeBy : ByteArray := prog_4_method_9_code
def yX2_becomeMadeBy : MethodName := ⟨RX2, "becomeMadeBy", "(LLayeredImages$Instruction;I)V"⟩
abbrev cX2_wasMadeBy : ByteArray := prog_4_method_10_code
def yX2_wasMadeBy : MethodName := ⟨RX2, "wasMadeBy", "(LLayeredImages$Instruction;I)Z"⟩
abbrev cX2_isRootOf : ByteArray := prog_4_method_11_code
def yX2_isRootOf : MethodName := ⟨RX2, "isRootOf", "([I)Z"⟩
abbrev cX2_showLike : ByteArray := prog_4_method_12_code
def yX2_showLike : MethodName := ⟨RX2, "showLike", "(LLayeredImages$Layer;)V"⟩
abbrev cX2_holdLike : ByteArray := prog_4_method_13_code
def yX2_holdLike : MethodName := ⟨RX2, "holdLike", "(LLayeredImages$Layer;)V"⟩
abbrev cX2_partAt : ByteArray := prog_4_method_14_code
def yX2_partAt : MethodName := ⟨RX2, "partAt", "(I)LLayeredImages$Layer;"⟩
abbrev cX2_size : ByteArray := prog_4_method_15_code
def yX2_size : MethodName := ⟨RX2, "size", "()I"⟩
abbrev cX2_fingerprint : ByteArray := prog_4_method_16_code
def yX2_fingerprint : MethodName := ⟨RX2, "fingerprint", "()I"⟩
def RX3 : String := "LayeredImages$Recipe"
def TX3 : u_T := fun k => match k with
  | 0 => ("LayeredImages$Recipe", "row", "[LLayeredImages$Instruction;", true)
  | 1 => ("LayeredImages$Recipe", "base", "I", false)
  | _ => ("LayeredImages$Recipe", "count", "I", false)
def tyX3 : Nat → FieldType := fun k => match k with
  | 0 => .array (.object "LayeredImages$Instruction")
  | 1 => .int
  | _ => .int
abbrev wsX30 : List Cond := u_ws RX3 TX3 3
theorem nmX3 : ∀ a, a < 3 → ∀ b, b < 3 → a ≠ b → (TX3 a).2.1 ≠ (TX3 b).2.1 := by decide +kernel
theorem tyX3_ok : ∀ k, k < 3 → parseFieldDescriptor (TX3 k).2.2.1 = some (tyX3 k) := by decide +kernel
abbrev cX3_init : ByteArray := prog_5_method_1_code
def yX3_init : MethodName := ⟨RX3, "<init>", "()V"⟩
abbrev cX3_at : ByteArray := prog_5_method_2_code
def yX3_at : MethodName := ⟨RX3, "at", "(I)LLayeredImages$Instruction;"⟩
abbrev cX3_clearOn : ByteArray := prog_5_method_3_code
def yX3_clearOn : MethodName := ⟨RX3, "clearOn", "(I)V"⟩
abbrev cX3_append : ByteArray := prog_5_method_4_code
def yX3_append : MethodName := ⟨RX3, "append", "(LLayeredImages$Instruction;)V"⟩
abbrev cX3_removeAt : ByteArray := prog_5_method_5_code
def yX3_removeAt : MethodName := ⟨RX3, "removeAt", "(I)V"⟩
abbrev cX3_becomeLike : ByteArray := prog_5_method_6_code
def yX3_becomeLike : MethodName := ⟨RX3, "becomeLike", "(LLayeredImages$Recipe;)V"⟩
def RX4 : String := "LayeredImages$Store"
def TX4 : u_T := fun k => match k with
  | 0 => ("LayeredImages$Store", "row", "[LLayeredImages$Layer;", true)
  | _ => ("LayeredImages$Store", "made", "I", false)
def tyX4 : Nat → FieldType := fun k => match k with
  | 0 => .array (.object "LayeredImages$Layer")
  | _ => .int
abbrev wsX40 : List Cond := u_ws RX4 TX4 2
theorem nmX4 : ∀ a, a < 2 → ∀ b, b < 2 → a ≠ b → (TX4 a).2.1 ≠ (TX4 b).2.1 := by decide +kernel
theorem tyX4_ok : ∀ k, k < 2 → parseFieldDescriptor (TX4 k).2.2.1 = some (tyX4 k) := by decide +kernel
abbrev cX4_init : ByteArray := prog_6_method_1_code
def yX4_init : MethodName := ⟨RX4, "<init>", "()V"⟩
abbrev cX4_find : ByteArray := prog_6_method_2_code
def yX4_find : MethodName := ⟨RX4, "find", "(I)LLayeredImages$Layer;"⟩
abbrev cX4_findRoot : ByteArray := prog_6_method_3_code
def yX4_findRoot : MethodName := ⟨RX4, "findRoot", "([I)LLayeredImages$Layer;"⟩
abbrev cX4_findMade : ByteArray := prog_6_method_4_code
def yX4_findMade : MethodName := ⟨RX4, "findMade", "(LLayeredImages$Layer;LLayeredImages$Instruction;I)LLayeredImages$Layer;"⟩
abbrev cX4_newRoot : ByteArray := prog_6_method_5_code
def yX4_newRoot : MethodName := ⟨RX4, "newRoot", "([I)LLayeredImages$Layer;"⟩
abbrev cX4_newChild : ByteArray := prog_6_method_6_code
def yX4_newChild : MethodName := ⟨RX4, "newChild", "(LLayeredImages$Layer;)LLayeredImages$Layer;"⟩
abbrev cX4_kept : ByteArray := prog_6_method_7_code
def yX4_kept : MethodName := ⟨RX4, "kept", "(LLayeredImages$Layer;)LLayeredImages$Layer;"⟩
abbrev cX4_remove : ByteArray := prog_6_method_8_code
def yX4_remove : MethodName := ⟨RX4, "remove", "(I)V"⟩
def RX5 : String := "LayeredImages"
def TX5 : u_T := fun k => match k with
  | 0 => ("LayeredImages", "files", "[I", true)
  | 1 => ("LayeredImages", "bases", "[[I", true)
  | 2 => ("LayeredImages", "recipes", "[LLayeredImages$Recipe;", true)
  | 3 => ("LayeredImages", "tags", "[LLayeredImages$Layer;", true)
  | 4 => ("LayeredImages", "store", "LLayeredImages$Store;", true)
  | 5 => ("LayeredImages", "latest", "LLayeredImages$Build;", true)
  | 6 => ("LayeredImages", "hits", "I", false)
  | _ => ("LayeredImages", "misses", "I", false)
def tyX5 : Nat → FieldType := fun k => match k with
  | 0 => .array .int
  | 1 => .array (.array .int)
  | 2 => .array (.object "LayeredImages$Recipe")
  | 3 => .array (.object "LayeredImages$Layer")
  | 4 => .object "LayeredImages$Store"
  | 5 => .object "LayeredImages$Build"
  | 6 => .int
  | _ => .int
abbrev wsX50 : List Cond := u_ws RX5 TX5 8
theorem nmX5 : ∀ a, a < 8 → ∀ b, b < 8 → a ≠ b → (TX5 a).2.1 ≠ (TX5 b).2.1 := by decide +kernel
theorem tyX5_ok : ∀ k, k < 8 → parseFieldDescriptor (TX5 k).2.2.1 = some (tyX5 k) := by decide +kernel
abbrev cX5_init : ByteArray := prog_1_method_1_code
def yX5_init : MethodName := ⟨RX5, "<init>", "()V"⟩
abbrev cX5_setFile : ByteArray := prog_1_method_2_code
def yX5_setFile : MethodName := ⟨RX5, "setFile", "(II)I"⟩
abbrev cX5_setBase : ByteArray := prog_1_method_3_code
def yX5_setBase : MethodName := ⟨RX5, "setBase", "(III)I"⟩
abbrev cX5_reset : ByteArray := prog_1_method_4_code
def yX5_reset : MethodName := ⟨RX5, "reset", "(II)I"⟩
abbrev cX5_addCopy : ByteArray := prog_1_method_5_code
def yX5_addCopy : MethodName := ⟨RX5, "addCopy", "(III)I"⟩
abbrev cX5_addRun : ByteArray := prog_1_method_6_code
def yX5_addRun : MethodName := ⟨RX5, "addRun", "(III)I"⟩
abbrev cX5_addMove : ByteArray := prog_1_method_7_code
def yX5_addMove : MethodName := ⟨RX5, "addMove", "(III)I"⟩
abbrev cX5_addRemove : ByteArray := prog_1_method_8_code
def yX5_addRemove : MethodName := ⟨RX5, "addRemove", "(II)I"⟩
abbrev cX5_addSet : ByteArray := prog_1_method_9_code
def yX5_addSet : MethodName := ⟨RX5, "addSet", "(III)I"⟩
abbrev cX5_drop : ByteArray := prog_1_method_10_code
def yX5_drop : MethodName := ⟨RX5, "drop", "(II)I"⟩
abbrev cX5_instructions : ByteArray := prog_1_method_11_code
def yX5_instructions : MethodName := ⟨RX5, "instructions", "(I)I"⟩
abbrev cX5_start : ByteArray := prog_1_method_12_code
def yX5_start : MethodName := ⟨RX5, "start", "(I)I"⟩
abbrev cX5_step : ByteArray := prog_1_method_13_code
def yX5_step : MethodName := ⟨RX5, "step", "()I"⟩
abbrev cX5_build : ByteArray := prog_1_method_14_code
def yX5_build : MethodName := ⟨RX5, "build", "(I)I"⟩
abbrev cX5_stepsLeft : ByteArray := prog_1_method_15_code
def yX5_stepsLeft : MethodName := ⟨RX5, "stepsLeft", "()I"⟩
abbrev cX5_built : ByteArray := prog_1_method_16_code
def yX5_built : MethodName := ⟨RX5, "built", "()I"⟩
abbrev cX5_hits : ByteArray := prog_1_method_17_code
def yX5_hits : MethodName := ⟨RX5, "hits", "()I"⟩
abbrev cX5_misses : ByteArray := prog_1_method_18_code
def yX5_misses : MethodName := ⟨RX5, "misses", "()I"⟩
abbrev cX5_cleanDigest : ByteArray := prog_1_method_19_code
def yX5_cleanDigest : MethodName := ⟨RX5, "cleanDigest", "(I)I"⟩
abbrev cX5_tag : ByteArray := prog_1_method_20_code
def yX5_tag : MethodName := ⟨RX5, "tag", "(I)I"⟩
abbrev cX5_untag : ByteArray := prog_1_method_21_code
def yX5_untag : MethodName := ⟨RX5, "untag", "(I)I"⟩
abbrev cX5_tagged : ByteArray := prog_1_method_22_code
def yX5_tagged : MethodName := ⟨RX5, "tagged", "(I)I"⟩
abbrev cX5_squash : ByteArray := prog_1_method_23_code
def yX5_squash : MethodName := ⟨RX5, "squash", "(II)I"⟩
abbrev cX5_rebase : ByteArray := prog_1_method_24_code
def yX5_rebase : MethodName := ⟨RX5, "rebase", "(II)I"⟩
abbrev cX5_prune : ByteArray := prog_1_method_25_code
def yX5_prune : MethodName := ⟨RX5, "prune", "()I"⟩
abbrev cX5_layers : ByteArray := prog_1_method_26_code
def yX5_layers : MethodName := ⟨RX5, "layers", "()I"⟩
abbrev cX5_parentOf : ByteArray := prog_1_method_27_code
def yX5_parentOf : MethodName := ⟨RX5, "parentOf", "(I)I"⟩
abbrev cX5_sizeOf : ByteArray := prog_1_method_28_code
def yX5_sizeOf : MethodName := ⟨RX5, "sizeOf", "(I)I"⟩
abbrev cX5_heldAt : ByteArray := prog_1_method_29_code
def yX5_heldAt : MethodName := ⟨RX5, "heldAt", "(II)I"⟩
abbrev cX5_shownAt : ByteArray := prog_1_method_30_code
def yX5_shownAt : MethodName := ⟨RX5, "shownAt", "(II)I"⟩
abbrev cX5_variable : ByteArray := prog_1_method_31_code
def yX5_variable : MethodName := ⟨RX5, "variable", "(II)I"⟩
abbrev cX5_depth : ByteArray := prog_1_method_32_code
def yX5_depth : MethodName := ⟨RX5, "depth", "(I)I"⟩
abbrev cX5_imageSize : ByteArray := prog_1_method_33_code
def yX5_imageSize : MethodName := ⟨RX5, "imageSize", "(I)I"⟩
abbrev cX5_digest : ByteArray := prog_1_method_34_code
def yX5_digest : MethodName := ⟨RX5, "digest", "(I)I"⟩
abbrev cX5_isIn : ByteArray := prog_1_method_35_code
def yX5_isIn : MethodName := ⟨RX5, "isIn", "(II)Z"⟩
abbrev cX5_requireIndex : ByteArray := prog_1_method_36_code
def yX5_requireIndex : MethodName := ⟨RX5, "requireIndex", "(II)V"⟩
abbrev cX5_requireContent : ByteArray := prog_1_method_37_code
def yX5_requireContent : MethodName := ⟨RX5, "requireContent", "(I)V"⟩
abbrev cX5_requireNoBuild : ByteArray := prog_1_method_38_code
def yX5_requireNoBuild : MethodName := ⟨RX5, "requireNoBuild", "()V"⟩
abbrev cX5_requireOpen : ByteArray := prog_1_method_39_code
def yX5_requireOpen : MethodName := ⟨RX5, "requireOpen", "()V"⟩
abbrev cX5_numberOf : ByteArray := prog_1_method_40_code
def yX5_numberOf : MethodName := ⟨RX5, "numberOf", "(LLayeredImages$Layer;)I"⟩
abbrev cX5_recipeAt : ByteArray := prog_1_method_41_code
def yX5_recipeAt : MethodName := ⟨RX5, "recipeAt", "(I)LLayeredImages$Recipe;"⟩
abbrev cX5_layerAt : ByteArray := prog_1_method_42_code
def yX5_layerAt : MethodName := ⟨RX5, "layerAt", "(I)LLayeredImages$Layer;"⟩
abbrev cX5_contentsOf : ByteArray := prog_1_method_43_code
def yX5_contentsOf : MethodName := ⟨RX5, "contentsOf", "(I)[I"⟩
abbrev cX5_addInstruction : ByteArray := prog_1_method_44_code
def yX5_addInstruction : MethodName := ⟨RX5, "addInstruction", "(IIII)I"⟩
abbrev cX5_rootFor : ByteArray := prog_1_method_45_code
def yX5_rootFor : MethodName := ⟨RX5, "rootFor", "(I)LLayeredImages$Layer;"⟩
abbrev cX5_layerOfStep : ByteArray := prog_1_method_46_code
def yX5_layerOfStep : MethodName := ⟨RX5, "layerOfStep", "(LLayeredImages$Layer;LLayeredImages$Instruction;I)LLayeredImages$Layer;"⟩
abbrev cX5_isInTaggedImage : ByteArray := prog_1_method_47_code
def yX5_isInTaggedImage : MethodName := ⟨RX5, "isInTaggedImage", "(LLayeredImages$Layer;)Z"⟩
def RJx145de : String := "java/io/Serializable"
def TJx145de : u_T := fun k => match k with
  | _ => ("", "", "", false)
def tyJx145de : Nat → FieldType := fun k => match k with
  | _ => .int
abbrev wsJx145de0 : List Cond := u_ws RJx145de TJx145de 0
theorem nmJx145de : ∀ a, a < 0 → ∀ b, b < 0 → a ≠ b → (TJx145de a).2.1 ≠ (TJx145de b).2.1 := by decide +kernel
theorem tyJx145de_ok : ∀ k, k < 0 → parseFieldDescriptor (TJx145de k).2.2.1 = some (tyJx145de k) := by decide +kernel
def RJ0 : String := "java/lang/String"
def TJ0 : u_T := fun k => match k with
  | _ => ("", "", "", false)
def tyJ0 : Nat → FieldType := fun k => match k with
  | _ => .int
abbrev wsJ00 : List Cond := u_ws RJ0 TJ0 0
theorem nmJ0 : ∀ a, a < 0 → ∀ b, b < 0 → a ≠ b → (TJ0 a).2.1 ≠ (TJ0 b).2.1 := by decide +kernel
theorem tyJ0_ok : ∀ k, k < 0 → parseFieldDescriptor (TJ0 k).2.2.1 = some (tyJ0 k) := by decide +kernel
def RJ7 : String := "java/util/Arrays"
def TJ7 : u_T := fun k => match k with
  | _ => ("", "", "", false)
def tyJ7 : Nat → FieldType := fun k => match k with
  | _ => .int
abbrev wsJ70 : List Cond := u_ws RJ7 TJ7 0
theorem nmJ7 : ∀ a, a < 0 → ∀ b, b < 0 → a ≠ b → (TJ7 a).2.1 ≠ (TJ7 b).2.1 := by decide +kernel
theorem tyJ7_ok : ∀ k, k < 0 → parseFieldDescriptor (TJ7 k).2.2.1 = some (tyJ7 k) := by decide +kernel
abbrev cJ7_fill_53178 : ByteArray := prog_16_method_103_code
def yJ7_fill_53178 : MethodName := ⟨RJ7, "fill", "([II)V"⟩
def RL : String := "LayeredImagesLaw"
abbrev cL_part : ByteArray := method_2_code
def yL_part : MethodName := ⟨RL, "part", "([III)I"⟩
abbrev cL_sets : ByteArray := method_3_code
def yL_sets : MethodName := ⟨RL, "sets", "(LLayeredImages;IIII)I"⟩
abbrev cL_adds : ByteArray := method_4_code
def yL_adds : MethodName := ⟨RL, "adds", "(LLayeredImages;IIII)I"⟩
abbrev cL_builds : ByteArray := method_5_code
def yL_builds : MethodName := ⟨RL, "builds", "(LLayeredImages;II)I"⟩
abbrev cL_tags : ByteArray := method_6_code
def yL_tags : MethodName := ⟨RL, "tags", "(LLayeredImages;III)I"⟩
abbrev cL_tells : ByteArray := method_7_code
def yL_tells : MethodName := ⟨RL, "tells", "(LLayeredImages;III)I"⟩
abbrev cL_isLayer : ByteArray := method_8_code
def yL_isLayer : MethodName := ⟨RL, "isLayer", "(LLayeredImages;I)Z"⟩
abbrev cL_areAll : ByteArray := method_9_code
def yL_areAll : MethodName := ⟨RL, "areAll", "(LLayeredImages;[I)Z"⟩
abbrev cL_isKept : ByteArray := method_10_code
def yL_isKept : MethodName := ⟨RL, "isKept", "(LLayeredImages;I)Z"⟩
abbrev cL_isAdded : ByteArray := method_11_code
def yL_isAdded : MethodName := ⟨RL, "isAdded", "(LLayeredImages;[IIIII)Z"⟩
abbrev cL_isBuilt : ByteArray := method_12_code
def yL_isBuilt : MethodName := ⟨RL, "isBuilt", "(LLayeredImages;I)Z"⟩
abbrev cL_isSquashed : ByteArray := method_13_code
def yL_isSquashed : MethodName := ⟨RL, "isSquashed", "(LLayeredImages;II)Z"⟩
abbrev cL_isRebased : ByteArray := method_14_code
def yL_isRebased : MethodName := ⟨RL, "isRebased", "(LLayeredImages;II)Z"⟩
abbrev cL_isPruned : ByteArray := method_15_code
def yL_isPruned : MethodName := ⟨RL, "isPruned", "(LLayeredImages;)Z"⟩
abbrev cL_isDone : ByteArray := method_16_code
def yL_isDone : MethodName := ⟨RL, "isDone", "(LLayeredImages;[II[I)Z"⟩
abbrev cL_law : ByteArray := code
def yL_law : MethodName := ⟨RL, "law", "([I)Z"⟩
theorem dX0_init_0 : decode cX0_init 0 = .ok (.aload_n 0, 1) := by decide +kernel
theorem dX0_init_1 : decode cX0_init 1 = .ok (.invokespecial 1, 3) := by decide +kernel
theorem dX0_init_4 : decode cX0_init 4 = .ok (.aload_n 0, 1) := by decide +kernel
theorem dX0_init_5 : decode cX0_init 5 = .ok (.new 7, 3) := by decide +kernel
theorem dX0_init_8 : decode cX0_init 8 = .ok (.dup, 1) := by decide +kernel
theorem dX0_init_9 : decode cX0_init 9 = .ok (.invokespecial 9, 3) := by decide +kernel
theorem dX0_init_12 : decode cX0_init 12 = .ok (.putfield 10, 3) := by decide +kernel
theorem dX0_init_15 : decode cX0_init 15 = .ok (.return_, 1) := by decide +kernel
theorem dX0_begin_0 : decode cX0_begin 0 = .ok (.aload_n 0, 1) := by decide +kernel
theorem dX0_begin_1 : decode cX0_begin 1 = .ok (.getfield 10, 3) := by decide +kernel
theorem dX0_begin_4 : decode cX0_begin 4 = .ok (.aload_n 1, 1) := by decide +kernel
theorem dX0_begin_5 : decode cX0_begin 5 = .ok (.invokevirtual 16, 3) := by decide +kernel
theorem dX0_begin_8 : decode cX0_begin 8 = .ok (.aload_n 0, 1) := by decide +kernel
theorem dX0_begin_9 : decode cX0_begin 9 = .ok (.iconst 0, 1) := by decide +kernel
theorem dX0_begin_10 : decode cX0_begin 10 = .ok (.putfield 20, 3) := by decide +kernel
theorem dX0_begin_13 : decode cX0_begin 13 = .ok (.aload_n 0, 1) := by decide +kernel
theorem dX0_begin_14 : decode cX0_begin 14 = .ok (.aload_n 2, 1) := by decide +kernel
theorem dX0_begin_15 : decode cX0_begin 15 = .ok (.putfield 24, 3) := by decide +kernel
theorem dX0_begin_18 : decode cX0_begin 18 = .ok (.return_, 1) := by decide +kernel
theorem dX0_left_0 : decode cX0_left 0 = .ok (.aload_n 0, 1) := by decide +kernel
theorem dX0_left_1 : decode cX0_left 1 = .ok (.getfield 10, 3) := by decide +kernel
theorem dX0_left_4 : decode cX0_left 4 = .ok (.getfield 28, 3) := by decide +kernel
theorem dX0_left_7 : decode cX0_left 7 = .ok (.aload_n 0, 1) := by decide +kernel
theorem dX0_left_8 : decode cX0_left 8 = .ok (.getfield 20, 3) := by decide +kernel
theorem dX0_left_11 : decode cX0_left 11 = .ok (.isub, 1) := by decide +kernel
theorem dX0_left_12 : decode cX0_left 12 = .ok (.ireturn, 1) := by decide +kernel
theorem dX0_goesOn_0 : decode cX0_goesOn 0 = .ok (.aload_n 0, 1) := by decide +kernel
theorem dX0_goesOn_1 : decode cX0_goesOn 1 = .ok (.invokevirtual 31, 3) := by decide +kernel
theorem dX0_goesOn_4 : decode cX0_goesOn 4 = .ok (.ifCond .le 7, 3) := by decide +kernel
theorem dX0_goesOn_7 : decode cX0_goesOn 7 = .ok (.iconst 1, 1) := by decide +kernel
theorem dX0_goesOn_8 : decode cX0_goesOn 8 = .ok (.goto 4, 3) := by decide +kernel
theorem dX0_goesOn_11 : decode cX0_goesOn 11 = .ok (.iconst 0, 1) := by decide +kernel
theorem dX0_goesOn_12 : decode cX0_goesOn 12 = .ok (.ireturn, 1) := by decide +kernel
theorem dX0_upcoming_0 : decode cX0_upcoming 0 = .ok (.aload_n 0, 1) := by decide +kernel
theorem dX0_upcoming_1 : decode cX0_upcoming 1 = .ok (.invokevirtual 35, 3) := by decide +kernel
theorem dX0_upcoming_4 : decode cX0_upcoming 4 = .ok (.ifCond .eq 17, 3) := by decide +kernel
theorem dX0_upcoming_7 : decode cX0_upcoming 7 = .ok (.aload_n 0, 1) := by decide +kernel
theorem dX0_upcoming_8 : decode cX0_upcoming 8 = .ok (.getfield 10, 3) := by decide +kernel
theorem dX0_upcoming_11 : decode cX0_upcoming 11 = .ok (.aload_n 0, 1) := by decide +kernel
theorem dX0_upcoming_12 : decode cX0_upcoming 12 = .ok (.getfield 20, 3) := by decide +kernel
theorem dX0_upcoming_15 : decode cX0_upcoming 15 = .ok (.invokevirtual 39, 3) := by decide +kernel
theorem dX0_upcoming_18 : decode cX0_upcoming 18 = .ok (.goto 4, 3) := by decide +kernel
theorem dX0_upcoming_21 : decode cX0_upcoming 21 = .ok (.aconst_null, 1) := by decide +kernel
theorem dX0_upcoming_22 : decode cX0_upcoming 22 = .ok (.areturn, 1) := by decide +kernel
theorem dX0_advanceTo_0 : decode cX0_advanceTo 0 = .ok (.aload_n 0, 1) := by decide +kernel
theorem dX0_advanceTo_1 : decode cX0_advanceTo 1 = .ok (.aload_n 1, 1) := by decide +kernel
theorem dX0_advanceTo_2 : decode cX0_advanceTo 2 = .ok (.putfield 24, 3) := by decide +kernel
theorem dX0_advanceTo_5 : decode cX0_advanceTo 5 = .ok (.aload_n 0, 1) := by decide +kernel
theorem dX0_advanceTo_6 : decode cX0_advanceTo 6 = .ok (.dup, 1) := by decide +kernel
theorem dX0_advanceTo_7 : decode cX0_advanceTo 7 = .ok (.getfield 20, 3) := by decide +kernel
theorem dX0_advanceTo_10 : decode cX0_advanceTo 10 = .ok (.iconst 1, 1) := by decide +kernel
theorem dX0_advanceTo_11 : decode cX0_advanceTo 11 = .ok (.iadd, 1) := by decide +kernel
theorem dX0_advanceTo_12 : decode cX0_advanceTo 12 = .ok (.putfield 20, 3) := by decide +kernel
theorem dX0_advanceTo_15 : decode cX0_advanceTo 15 = .ok (.return_, 1) := by decide +kernel
theorem dX0_fail_0 : decode cX0_fail 0 = .ok (.aload_n 0, 1) := by decide +kernel
theorem dX0_fail_1 : decode cX0_fail 1 = .ok (.aconst_null, 1) := by decide +kernel
theorem dX0_fail_2 : decode cX0_fail 2 = .ok (.putfield 24, 3) := by decide +kernel
theorem dX0_fail_5 : decode cX0_fail 5 = .ok (.aload_n 0, 1) := by decide +kernel
theorem dX0_fail_6 : decode cX0_fail 6 = .ok (.aload_n 0, 1) := by decide +kernel
theorem dX0_fail_7 : decode cX0_fail 7 = .ok (.getfield 10, 3) := by decide +kernel
theorem dX0_fail_10 : decode cX0_fail 10 = .ok (.getfield 28, 3) := by decide +kernel
theorem dX0_fail_13 : decode cX0_fail 13 = .ok (.putfield 20, 3) := by decide +kernel
theorem dX0_fail_16 : decode cX0_fail 16 = .ok (.return_, 1) := by decide +kernel
theorem dX0_finished_0 : decode cX0_finished 0 = .ok (.aload_n 0, 1) := by decide +kernel
theorem dX0_finished_1 : decode cX0_finished 1 = .ok (.invokevirtual 35, 3) := by decide +kernel
theorem dX0_finished_4 : decode cX0_finished 4 = .ok (.ifCond .eq 7, 3) := by decide +kernel
theorem dX0_finished_7 : decode cX0_finished 7 = .ok (.aconst_null, 1) := by decide +kernel
theorem dX0_finished_8 : decode cX0_finished 8 = .ok (.goto 7, 3) := by decide +kernel
theorem dX0_finished_11 : decode cX0_finished 11 = .ok (.aload_n 0, 1) := by decide +kernel
theorem dX0_finished_12 : decode cX0_finished 12 = .ok (.getfield 24, 3) := by decide +kernel
theorem dX0_finished_15 : decode cX0_finished 15 = .ok (.areturn, 1) := by decide +kernel
theorem dX0_forget_0 : decode cX0_forget 0 = .ok (.aload_n 0, 1) := by decide +kernel
theorem dX0_forget_1 : decode cX0_forget 1 = .ok (.getfield 24, 3) := by decide +kernel
theorem dX0_forget_4 : decode cX0_forget 4 = .ok (.aload_n 1, 1) := by decide +kernel
theorem dX0_forget_5 : decode cX0_forget 5 = .ok (.if_acmp .ne 8, 3) := by decide +kernel
theorem dX0_forget_8 : decode cX0_forget 8 = .ok (.aload_n 0, 1) := by decide +kernel
theorem dX0_forget_9 : decode cX0_forget 9 = .ok (.aconst_null, 1) := by decide +kernel
theorem dX0_forget_10 : decode cX0_forget 10 = .ok (.putfield 24, 3) := by decide +kernel
theorem dX0_forget_13 : decode cX0_forget 13 = .ok (.return_, 1) := by decide +kernel
theorem dX1_init_0 : decode cX1_init 0 = .ok (.aload_n 0, 1) := by decide +kernel
theorem dX1_init_1 : decode cX1_init 1 = .ok (.invokespecial 3, 3) := by decide +kernel
theorem dX1_init_4 : decode cX1_init 4 = .ok (.aload_n 0, 1) := by decide +kernel
theorem dX1_init_5 : decode cX1_init 5 = .ok (.iload_n 1, 1) := by decide +kernel
theorem dX1_init_6 : decode cX1_init 6 = .ok (.putfield 9, 3) := by decide +kernel
theorem dX1_init_9 : decode cX1_init 9 = .ok (.aload_n 0, 1) := by decide +kernel
theorem dX1_init_10 : decode cX1_init 10 = .ok (.iload_n 2, 1) := by decide +kernel
theorem dX1_init_11 : decode cX1_init 11 = .ok (.putfield 15, 3) := by decide +kernel
theorem dX1_init_14 : decode cX1_init 14 = .ok (.aload_n 0, 1) := by decide +kernel
theorem dX1_init_15 : decode cX1_init 15 = .ok (.iload_n 3, 1) := by decide +kernel
theorem dX1_init_16 : decode cX1_init 16 = .ok (.putfield 18, 3) := by decide +kernel
theorem dX1_init_19 : decode cX1_init 19 = .ok (.return_, 1) := by decide +kernel
theorem dX1_isSameAs_0 : decode cX1_isSameAs 0 = .ok (.aload_n 0, 1) := by decide +kernel
theorem dX1_isSameAs_1 : decode cX1_isSameAs 1 = .ok (.getfield 9, 3) := by decide +kernel
theorem dX1_isSameAs_4 : decode cX1_isSameAs 4 = .ok (.aload_n 1, 1) := by decide +kernel
theorem dX1_isSameAs_5 : decode cX1_isSameAs 5 = .ok (.getfield 9, 3) := by decide +kernel
theorem dX1_isSameAs_8 : decode cX1_isSameAs 8 = .ok (.if_icmp .ne 29, 3) := by decide +kernel
theorem dX1_isSameAs_11 : decode cX1_isSameAs 11 = .ok (.aload_n 0, 1) := by decide +kernel
theorem dX1_isSameAs_12 : decode cX1_isSameAs 12 = .ok (.getfield 15, 3) := by decide +kernel
theorem dX1_isSameAs_15 : decode cX1_isSameAs 15 = .ok (.aload_n 1, 1) := by decide +kernel
theorem dX1_isSameAs_16 : decode cX1_isSameAs 16 = .ok (.getfield 15, 3) := by decide +kernel
theorem dX1_isSameAs_19 : decode cX1_isSameAs 19 = .ok (.if_icmp .ne 18, 3) := by decide +kernel
theorem dX1_isSameAs_22 : decode cX1_isSameAs 22 = .ok (.aload_n 0, 1) := by decide +kernel
theorem dX1_isSameAs_23 : decode cX1_isSameAs 23 = .ok (.getfield 18, 3) := by decide +kernel
theorem dX1_isSameAs_26 : decode cX1_isSameAs 26 = .ok (.aload_n 1, 1) := by decide +kernel
theorem dX1_isSameAs_27 : decode cX1_isSameAs 27 = .ok (.getfield 18, 3) := by decide +kernel
theorem dX1_isSameAs_30 : decode cX1_isSameAs 30 = .ok (.if_icmp .ne 7, 3) := by decide +kernel
theorem dX1_isSameAs_33 : decode cX1_isSameAs 33 = .ok (.iconst 1, 1) := by decide +kernel
theorem dX1_isSameAs_34 : decode cX1_isSameAs 34 = .ok (.goto 4, 3) := by decide +kernel
theorem dX1_isSameAs_37 : decode cX1_isSameAs 37 = .ok (.iconst 0, 1) := by decide +kernel
theorem dX1_isSameAs_38 : decode cX1_isSameAs 38 = .ok (.ireturn, 1) := by decide +kernel
theorem dX1_inputFrom_0 : decode cX1_inputFrom 0 = .ok (.aload_n 0, 1) := by decide +kernel
theorem dX1_inputFrom_1 : decode cX1_inputFrom 1 = .ok (.getfield 9, 3) := by decide +kernel
theorem dX1_inputFrom_4 : decode cX1_inputFrom 4 = .ok (.ifCond .ne 24, 3) := by decide +kernel
theorem dX1_inputFrom_7 : decode cX1_inputFrom 7 = .ok (.aload_n 0, 1) := by decide +kernel
theorem dX1_inputFrom_8 : decode cX1_inputFrom 8 = .ok (.getfield 15, 3) := by decide +kernel
theorem dX1_inputFrom_11 : decode cX1_inputFrom 11 = .ok (.aload_n 1, 1) := by decide +kernel
theorem dX1_inputFrom_12 : decode cX1_inputFrom 12 = .ok (.arraylength, 1) := by decide +kernel
theorem dX1_inputFrom_13 : decode cX1_inputFrom 13 = .ok (.invokestatic 21, 3) := by decide +kernel
theorem dX1_inputFrom_16 : decode cX1_inputFrom 16 = .ok (.ifCond .eq 12, 3) := by decide +kernel
theorem dX1_inputFrom_19 : decode cX1_inputFrom 19 = .ok (.aload_n 1, 1) := by decide +kernel
theorem dX1_inputFrom_20 : decode cX1_inputFrom 20 = .ok (.aload_n 0, 1) := by decide +kernel
theorem dX1_inputFrom_21 : decode cX1_inputFrom 21 = .ok (.getfield 15, 3) := by decide +kernel
theorem dX1_inputFrom_24 : decode cX1_inputFrom 24 = .ok (.iaload, 1) := by decide +kernel
theorem dX1_inputFrom_25 : decode cX1_inputFrom 25 = .ok (.goto 4, 3) := by decide +kernel
theorem dX1_inputFrom_28 : decode cX1_inputFrom 28 = .ok (.iconst (-1), 1) := by decide +kernel
theorem dX1_inputFrom_29 : decode cX1_inputFrom 29 = .ok (.ireturn, 1) := by decide +kernel
theorem dX1_failsOn_0 : decode cX1_failsOn 0 = .ok (.aload_n 0, 1) := by decide +kernel
theorem dX1_failsOn_1 : decode cX1_failsOn 1 = .ok (.getfield 9, 3) := by decide +kernel
theorem dX1_failsOn_4 : decode cX1_failsOn 4 = .ok (.tableswitch 61 0 3 #[32, 61, 43, 43], 32) := by decide +kernel
theorem dX1_failsOn_36 : decode cX1_failsOn 36 = .ok (.iload_n 2, 1) := by decide +kernel
theorem dX1_failsOn_37 : decode cX1_failsOn 37 = .ok (.iconst (-1), 1) := by decide +kernel
theorem dX1_failsOn_38 : decode cX1_failsOn 38 = .ok (.if_icmp .ne 7, 3) := by decide +kernel
theorem dX1_failsOn_41 : decode cX1_failsOn 41 = .ok (.iconst 1, 1) := by decide +kernel
theorem dX1_failsOn_42 : decode cX1_failsOn 42 = .ok (.goto 4, 3) := by decide +kernel
theorem dX1_failsOn_45 : decode cX1_failsOn 45 = .ok (.iconst 0, 1) := by decide +kernel
theorem dX1_failsOn_46 : decode cX1_failsOn 46 = .ok (.ireturn, 1) := by decide +kernel
theorem dX1_failsOn_47 : decode cX1_failsOn 47 = .ok (.aload_n 1, 1) := by decide +kernel
theorem dX1_failsOn_48 : decode cX1_failsOn 48 = .ok (.aload_n 0, 1) := by decide +kernel
theorem dX1_failsOn_49 : decode cX1_failsOn 49 = .ok (.getfield 15, 3) := by decide +kernel
theorem dX1_failsOn_52 : decode cX1_failsOn 52 = .ok (.invokevirtual 25, 3) := by decide +kernel
theorem dX1_failsOn_55 : decode cX1_failsOn 55 = .ok (.iconst (-1), 1) := by decide +kernel
theorem dX1_failsOn_56 : decode cX1_failsOn 56 = .ok (.if_icmp .ne 7, 3) := by decide +kernel
theorem dX1_failsOn_59 : decode cX1_failsOn 59 = .ok (.iconst 1, 1) := by decide +kernel
theorem dX1_failsOn_60 : decode cX1_failsOn 60 = .ok (.goto 4, 3) := by decide +kernel
theorem dX1_failsOn_63 : decode cX1_failsOn 63 = .ok (.iconst 0, 1) := by decide +kernel
theorem dX1_failsOn_64 : decode cX1_failsOn 64 = .ok (.ireturn, 1) := by decide +kernel
theorem dX1_failsOn_65 : decode cX1_failsOn 65 = .ok (.iconst 0, 1) := by decide +kernel
theorem dX1_failsOn_66 : decode cX1_failsOn 66 = .ok (.ireturn, 1) := by decide +kernel
theorem dX1_carryOut_0 : decode cX1_carryOut 0 = .ok (.aload_n 0, 1) := by decide +kernel
theorem dX1_carryOut_1 : decode cX1_carryOut 1 = .ok (.getfield 9, 3) := by decide +kernel
theorem dX1_carryOut_4 : decode cX1_carryOut 4 = .ok (.tableswitch 135 0 4 #[36, 48, 78, 107, 120], 36) := by decide +kernel
theorem dX1_carryOut_40 : decode cX1_carryOut 40 = .ok (.aload_n 1, 1) := by decide +kernel
theorem dX1_carryOut_41 : decode cX1_carryOut 41 = .ok (.aload_n 0, 1) := by decide +kernel
theorem dX1_carryOut_42 : decode cX1_carryOut 42 = .ok (.getfield 18, 3) := by decide +kernel
theorem dX1_carryOut_45 : decode cX1_carryOut 45 = .ok (.iload_n 2, 1) := by decide +kernel
theorem dX1_carryOut_46 : decode cX1_carryOut 46 = .ok (.invokevirtual 31, 3) := by decide +kernel
theorem dX1_carryOut_49 : decode cX1_carryOut 49 = .ok (.goto 90, 3) := by decide +kernel
theorem dX1_carryOut_52 : decode cX1_carryOut 52 = .ok (.aload_n 1, 1) := by decide +kernel
theorem dX1_carryOut_53 : decode cX1_carryOut 53 = .ok (.aload_n 0, 1) := by decide +kernel
theorem dX1_carryOut_54 : decode cX1_carryOut 54 = .ok (.getfield 15, 3) := by decide +kernel
theorem dX1_carryOut_57 : decode cX1_carryOut 57 = .ok (.aload_n 1, 1) := by decide +kernel
theorem dX1_carryOut_58 : decode cX1_carryOut 58 = .ok (.aload_n 0, 1) := by decide +kernel
theorem dX1_carryOut_59 : decode cX1_carryOut 59 = .ok (.getfield 15, 3) := by decide +kernel
theorem dX1_carryOut_62 : decode cX1_carryOut 62 = .ok (.invokevirtual 25, 3) := by decide +kernel
theorem dX1_carryOut_65 : decode cX1_carryOut 65 = .ok (.aload_n 1, 1) := by decide +kernel
theorem dX1_carryOut_66 : decode cX1_carryOut 66 = .ok (.aload_n 0, 1) := by decide +kernel
theorem dX1_carryOut_67 : decode cX1_carryOut 67 = .ok (.getfield 18, 3) := by decide +kernel
theorem dX1_carryOut_70 : decode cX1_carryOut 70 = .ok (.invokevirtual 35, 3) := by decide +kernel
theorem dX1_carryOut_73 : decode cX1_carryOut 73 = .ok (.invokestatic 38, 3) := by decide +kernel
theorem dX1_carryOut_76 : decode cX1_carryOut 76 = .ok (.invokevirtual 31, 3) := by decide +kernel
theorem dX1_carryOut_79 : decode cX1_carryOut 79 = .ok (.goto 60, 3) := by decide +kernel
theorem dX1_carryOut_82 : decode cX1_carryOut 82 = .ok (.aload_n 1, 1) := by decide +kernel
theorem dX1_carryOut_83 : decode cX1_carryOut 83 = .ok (.aload_n 0, 1) := by decide +kernel
theorem dX1_carryOut_84 : decode cX1_carryOut 84 = .ok (.getfield 18, 3) := by decide +kernel
theorem dX1_carryOut_87 : decode cX1_carryOut 87 = .ok (.aload_n 1, 1) := by decide +kernel
theorem dX1_carryOut_88 : decode cX1_carryOut 88 = .ok (.aload_n 0, 1) := by decide +kernel
theorem dX1_carryOut_89 : decode cX1_carryOut 89 = .ok (.getfield 15, 3) := by decide +kernel
theorem dX1_carryOut_92 : decode cX1_carryOut 92 = .ok (.invokevirtual 25, 3) := by decide +kernel
theorem dX1_carryOut_95 : decode cX1_carryOut 95 = .ok (.invokevirtual 31, 3) := by decide +kernel
theorem dX1_carryOut_98 : decode cX1_carryOut 98 = .ok (.aload_n 1, 1) := by decide +kernel
theorem dX1_carryOut_99 : decode cX1_carryOut 99 = .ok (.aload_n 0, 1) := by decide +kernel
theorem dX1_carryOut_100 : decode cX1_carryOut 100 = .ok (.getfield 15, 3) := by decide +kernel
theorem dX1_carryOut_103 : decode cX1_carryOut 103 = .ok (.bipush (-2), 2) := by decide +kernel
theorem dX1_carryOut_105 : decode cX1_carryOut 105 = .ok (.invokevirtual 31, 3) := by decide +kernel
theorem dX1_carryOut_108 : decode cX1_carryOut 108 = .ok (.goto 31, 3) := by decide +kernel
theorem dX1_carryOut_111 : decode cX1_carryOut 111 = .ok (.aload_n 1, 1) := by decide +kernel
theorem dX1_carryOut_112 : decode cX1_carryOut 112 = .ok (.aload_n 0, 1) := by decide +kernel
theorem dX1_carryOut_113 : decode cX1_carryOut 113 = .ok (.getfield 15, 3) := by decide +kernel
theorem dX1_carryOut_116 : decode cX1_carryOut 116 = .ok (.bipush (-2), 2) := by decide +kernel
theorem dX1_carryOut_118 : decode cX1_carryOut 118 = .ok (.invokevirtual 31, 3) := by decide +kernel
theorem dX1_carryOut_121 : decode cX1_carryOut 121 = .ok (.goto 18, 3) := by decide +kernel
theorem dX1_carryOut_124 : decode cX1_carryOut 124 = .ok (.aload_n 1, 1) := by decide +kernel
theorem dX1_carryOut_125 : decode cX1_carryOut 125 = .ok (.aload_n 0, 1) := by decide +kernel
theorem dX1_carryOut_126 : decode cX1_carryOut 126 = .ok (.getfield 15, 3) := by decide +kernel
theorem dX1_carryOut_129 : decode cX1_carryOut 129 = .ok (.aload_n 0, 1) := by decide +kernel
theorem dX1_carryOut_130 : decode cX1_carryOut 130 = .ok (.getfield 18, 3) := by decide +kernel
theorem dX1_carryOut_133 : decode cX1_carryOut 133 = .ok (.invokevirtual 42, 3) := by decide +kernel
theorem dX1_carryOut_136 : decode cX1_carryOut 136 = .ok (.goto 3, 3) := by decide +kernel
theorem dX1_carryOut_139 : decode cX1_carryOut 139 = .ok (.return_, 1) := by decide +kernel
theorem dX1_runOn_0 : decode cX1_runOn 0 = .ok (.iload_n 0, 1) := by decide +kernel
theorem dX1_runOn_1 : decode cX1_runOn 1 = .ok (.iconst (-1), 1) := by decide +kernel
theorem dX1_runOn_2 : decode cX1_runOn 2 = .ok (.if_icmp .ne 7, 3) := by decide +kernel
theorem dX1_runOn_5 : decode cX1_runOn 5 = .ok (.iconst 0, 1) := by decide +kernel
theorem dX1_runOn_6 : decode cX1_runOn 6 = .ok (.goto 4, 3) := by decide +kernel
theorem dX1_runOn_9 : decode cX1_runOn 9 = .ok (.iload_n 0, 1) := by decide +kernel
theorem dX1_runOn_10 : decode cX1_runOn 10 = .ok (.istore_n 2, 1) := by decide +kernel
theorem dX1_runOn_11 : decode cX1_runOn 11 = .ok (.bipush 31, 2) := by decide +kernel
theorem dX1_runOn_13 : decode cX1_runOn 13 = .ok (.iload_n 2, 1) := by decide +kernel
theorem dX1_runOn_14 : decode cX1_runOn 14 = .ok (.imul, 1) := by decide +kernel
theorem dX1_runOn_15 : decode cX1_runOn 15 = .ok (.iload_n 1, 1) := by decide +kernel
theorem dX1_runOn_16 : decode cX1_runOn 16 = .ok (.iadd, 1) := by decide +kernel
theorem dX1_runOn_17 : decode cX1_runOn 17 = .ok (.iconst 1, 1) := by decide +kernel
theorem dX1_runOn_18 : decode cX1_runOn 18 = .ok (.iadd, 1) := by decide +kernel
theorem dX1_runOn_19 : decode cX1_runOn 19 = .ok (.sipush 10007, 3) := by decide +kernel
theorem dX1_runOn_22 : decode cX1_runOn 22 = .ok (.irem, 1) := by decide +kernel
theorem dX1_runOn_23 : decode cX1_runOn 23 = .ok (.ireturn, 1) := by decide +kernel
theorem dX2_init_0 : decode cX2_init 0 = .ok (.aload_n 0, 1) := by decide +kernel
theorem dX2_init_1 : decode cX2_init 1 = .ok (.invokespecial 3, 3) := by decide +kernel
theorem dX2_init_4 : decode cX2_init 4 = .ok (.aload_n 0, 1) := by decide +kernel
theorem dX2_init_5 : decode cX2_init 5 = .ok (.bipush 12, 2) := by decide +kernel
theorem dX2_init_7 : decode cX2_init 7 = .ok (.newarray .int, 2) := by decide +kernel
theorem dX2_init_9 : decode cX2_init 9 = .ok (.putfield 9, 3) := by decide +kernel
theorem dX2_init_12 : decode cX2_init 12 = .ok (.aload_n 0, 1) := by decide +kernel
theorem dX2_init_13 : decode cX2_init 13 = .ok (.bipush 12, 2) := by decide +kernel
theorem dX2_init_15 : decode cX2_init 15 = .ok (.newarray .int, 2) := by decide +kernel
theorem dX2_init_17 : decode cX2_init 17 = .ok (.putfield 15, 3) := by decide +kernel
theorem dX2_init_20 : decode cX2_init 20 = .ok (.aload_n 0, 1) := by decide +kernel
theorem dX2_init_21 : decode cX2_init 21 = .ok (.iconst 4, 1) := by decide +kernel
theorem dX2_init_22 : decode cX2_init 22 = .ok (.newarray .int, 2) := by decide +kernel
theorem dX2_init_24 : decode cX2_init 24 = .ok (.putfield 18, 3) := by decide +kernel
theorem dX2_init_27 : decode cX2_init 27 = .ok (.aload_n 0, 1) := by decide +kernel
theorem dX2_init_28 : decode cX2_init 28 = .ok (.iconst (-1), 1) := by decide +kernel
theorem dX2_init_29 : decode cX2_init 29 = .ok (.putfield 21, 3) := by decide +kernel
theorem dX2_init_32 : decode cX2_init 32 = .ok (.aload_n 0, 1) := by decide +kernel
theorem dX2_init_33 : decode cX2_init 33 = .ok (.iload_n 1, 1) := by decide +kernel
theorem dX2_init_34 : decode cX2_init 34 = .ok (.putfield 25, 3) := by decide +kernel
theorem dX2_init_37 : decode cX2_init 37 = .ok (.aload_n 0, 1) := by decide +kernel
theorem dX2_init_38 : decode cX2_init 38 = .ok (.aconst_null, 1) := by decide +kernel
theorem dX2_init_39 : decode cX2_init 39 = .ok (.putfield 28, 3) := by decide +kernel
theorem dX2_init_42 : decode cX2_init 42 = .ok (.aload_n 0, 1) := by decide +kernel
theorem dX2_init_43 : decode cX2_init 43 = .ok (.iconst 0, 1) := by decide +kernel
theorem dX2_init_44 : decode cX2_init 44 = .ok (.putfield 32, 3) := by decide +kernel
theorem dX2_init_47 : decode cX2_init 47 = .ok (.iconst 0, 1) := by decide +kernel
theorem dX2_init_48 : decode cX2_init 48 = .ok (.istore_n 3, 1) := by decide +kernel
theorem dX2_init_49 : decode cX2_init 49 = .ok (.iload_n 3, 1) := by decide +kernel
theorem dX2_init_50 : decode cX2_init 50 = .ok (.bipush 12, 2) := by decide +kernel
theorem dX2_init_52 : decode cX2_init 52 = .ok (.if_icmp .ge 40, 3) := by decide +kernel
theorem dX2_init_55 : decode cX2_init 55 = .ok (.iload_n 3, 1) := by decide +kernel
theorem dX2_init_56 : decode cX2_init 56 = .ok (.aload_n 2, 1) := by decide +kernel
theorem dX2_init_57 : decode cX2_init 57 = .ok (.arraylength, 1) := by decide +kernel
theorem dX2_init_58 : decode cX2_init 58 = .ok (.if_icmp .ge 9, 3) := by decide +kernel
theorem dX2_init_61 : decode cX2_init 61 = .ok (.aload_n 2, 1) := by decide +kernel
theorem dX2_init_62 : decode cX2_init 62 = .ok (.iload_n 3, 1) := by decide +kernel
theorem dX2_init_63 : decode cX2_init 63 = .ok (.iaload, 1) := by decide +kernel
theorem dX2_init_64 : decode cX2_init 64 = .ok (.goto 4, 3) := by decide +kernel
theorem dX2_init_67 : decode cX2_init 67 = .ok (.iconst (-1), 1) := by decide +kernel
theorem dX2_init_68 : decode cX2_init 68 = .ok (.istore 4, 2) := by decide +kernel
theorem dX2_init_70 : decode cX2_init 70 = .ok (.aload_n 0, 1) := by decide +kernel
theorem dX2_init_71 : decode cX2_init 71 = .ok (.getfield 9, 3) := by decide +kernel
theorem dX2_init_74 : decode cX2_init 74 = .ok (.iload_n 3, 1) := by decide +kernel
theorem dX2_init_75 : decode cX2_init 75 = .ok (.iload 4, 2) := by decide +kernel
theorem dX2_init_77 : decode cX2_init 77 = .ok (.iastore, 1) := by decide +kernel
theorem dX2_init_78 : decode cX2_init 78 = .ok (.aload_n 0, 1) := by decide +kernel
theorem dX2_init_79 : decode cX2_init 79 = .ok (.getfield 15, 3) := by decide +kernel
theorem dX2_init_82 : decode cX2_init 82 = .ok (.iload_n 3, 1) := by decide +kernel
theorem dX2_init_83 : decode cX2_init 83 = .ok (.iload 4, 2) := by decide +kernel
theorem dX2_init_85 : decode cX2_init 85 = .ok (.iastore, 1) := by decide +kernel
theorem dX2_init_86 : decode cX2_init 86 = .ok (.iinc 3 1, 3) := by decide +kernel
theorem dX2_init_89 : decode cX2_init 89 = .ok (.goto (-40), 3) := by decide +kernel
theorem dX2_init_92 : decode cX2_init 92 = .ok (.return_, 1) := by decide +kernel
theorem dX2_init__0 : decode cX2_init_ 0 = .ok (.aload_n 0, 1) := by decide +kernel
theorem dX2_init__1 : decode cX2_init_ 1 = .ok (.invokespecial 3, 3) := by decide +kernel
theorem dX2_init__4 : decode cX2_init_ 4 = .ok (.aload_n 0, 1) := by decide +kernel
theorem dX2_init__5 : decode cX2_init_ 5 = .ok (.bipush 12, 2) := by decide +kernel
theorem dX2_init__7 : decode cX2_init_ 7 = .ok (.newarray .int, 2) := by decide +kernel
theorem dX2_init__9 : decode cX2_init_ 9 = .ok (.putfield 9, 3) := by decide +kernel
theorem dX2_init__12 : decode cX2_init_ 12 = .ok (.aload_n 0, 1) := by decide +kernel
theorem dX2_init__13 : decode cX2_init_ 13 = .ok (.bipush 12, 2) := by decide +kernel
theorem dX2_init__15 : decode cX2_init_ 15 = .ok (.newarray .int, 2) := by decide +kernel
theorem dX2_init__17 : decode cX2_init_ 17 = .ok (.putfield 15, 3) := by decide +kernel
theorem dX2_init__20 : decode cX2_init_ 20 = .ok (.aload_n 0, 1) := by decide +kernel
theorem dX2_init__21 : decode cX2_init_ 21 = .ok (.iconst 4, 1) := by decide +kernel
theorem dX2_init__22 : decode cX2_init_ 22 = .ok (.newarray .int, 2) := by decide +kernel
theorem dX2_init__24 : decode cX2_init_ 24 = .ok (.putfield 18, 3) := by decide +kernel
theorem dX2_init__27 : decode cX2_init_ 27 = .ok (.aload_n 0, 1) := by decide +kernel
theorem dX2_init__28 : decode cX2_init_ 28 = .ok (.iconst (-1), 1) := by decide +kernel
theorem dX2_init__29 : decode cX2_init_ 29 = .ok (.putfield 21, 3) := by decide +kernel
theorem dX2_init__32 : decode cX2_init_ 32 = .ok (.aload_n 0, 1) := by decide +kernel
theorem dX2_init__33 : decode cX2_init_ 33 = .ok (.iload_n 1, 1) := by decide +kernel
theorem dX2_init__34 : decode cX2_init_ 34 = .ok (.putfield 25, 3) := by decide +kernel
theorem dX2_init__37 : decode cX2_init_ 37 = .ok (.aload_n 0, 1) := by decide +kernel
theorem dX2_init__38 : decode cX2_init_ 38 = .ok (.aload_n 2, 1) := by decide +kernel
theorem dX2_init__39 : decode cX2_init_ 39 = .ok (.putfield 28, 3) := by decide +kernel
theorem dX2_init__42 : decode cX2_init_ 42 = .ok (.aload_n 0, 1) := by decide +kernel
theorem dX2_init__43 : decode cX2_init_ 43 = .ok (.aload_n 2, 1) := by decide +kernel
theorem dX2_init__44 : decode cX2_init_ 44 = .ok (.getfield 32, 3) := by decide +kernel
theorem dX2_init__47 : decode cX2_init_ 47 = .ok (.iconst 1, 1) := by decide +kernel
theorem dX2_init__48 : decode cX2_init_ 48 = .ok (.iadd, 1) := by decide +kernel
theorem dX2_init__49 : decode cX2_init_ 49 = .ok (.putfield 32, 3) := by decide +kernel
theorem dX2_init__52 : decode cX2_init_ 52 = .ok (.iconst 0, 1) := by decide +kernel
theorem dX2_init__53 : decode cX2_init_ 53 = .ok (.istore_n 3, 1) := by decide +kernel
theorem dX2_init__54 : decode cX2_init_ 54 = .ok (.iload_n 3, 1) := by decide +kernel
theorem dX2_init__55 : decode cX2_init_ 55 = .ok (.bipush 12, 2) := by decide +kernel
theorem dX2_init__57 : decode cX2_init_ 57 = .ok (.if_icmp .ge 28, 3) := by decide +kernel
theorem dX2_init__60 : decode cX2_init_ 60 = .ok (.aload_n 0, 1) := by decide +kernel
theorem dX2_init__61 : decode cX2_init_ 61 = .ok (.getfield 9, 3) := by decide +kernel
theorem dX2_init__64 : decode cX2_init_ 64 = .ok (.iload_n 3, 1) := by decide +kernel
theorem dX2_init__65 : decode cX2_init_ 65 = .ok (.iconst (-1), 1) := by decide +kernel
theorem dX2_init__66 : decode cX2_init_ 66 = .ok (.iastore, 1) := by decide +kernel
theorem dX2_init__67 : decode cX2_init_ 67 = .ok (.aload_n 0, 1) := by decide +kernel
theorem dX2_init__68 : decode cX2_init_ 68 = .ok (.getfield 15, 3) := by decide +kernel
theorem dX2_init__71 : decode cX2_init_ 71 = .ok (.iload_n 3, 1) := by decide +kernel
theorem dX2_init__72 : decode cX2_init_ 72 = .ok (.aload_n 2, 1) := by decide +kernel
theorem dX2_init__73 : decode cX2_init_ 73 = .ok (.getfield 15, 3) := by decide +kernel
theorem dX2_init__76 : decode cX2_init_ 76 = .ok (.iload_n 3, 1) := by decide +kernel
theorem dX2_init__77 : decode cX2_init_ 77 = .ok (.iaload, 1) := by decide +kernel
theorem dX2_init__78 : decode cX2_init_ 78 = .ok (.iastore, 1) := by decide +kernel
theorem dX2_init__79 : decode cX2_init_ 79 = .ok (.iinc 3 1, 3) := by decide +kernel
theorem dX2_init__82 : decode cX2_init_ 82 = .ok (.goto (-28), 3) := by decide +kernel
theorem dX2_init__85 : decode cX2_init_ 85 = .ok (.iconst 0, 1) := by decide +kernel
theorem dX2_init__86 : decode cX2_init_ 86 = .ok (.istore_n 3, 1) := by decide +kernel
theorem dX2_init__87 : decode cX2_init_ 87 = .ok (.iload_n 3, 1) := by decide +kernel
theorem dX2_init__88 : decode cX2_init_ 88 = .ok (.iconst 4, 1) := by decide +kernel
theorem dX2_init__89 : decode cX2_init_ 89 = .ok (.if_icmp .ge 21, 3) := by decide +kernel
theorem dX2_init__92 : decode cX2_init_ 92 = .ok (.aload_n 0, 1) := by decide +kernel
theorem dX2_init__93 : decode cX2_init_ 93 = .ok (.getfield 18, 3) := by decide +kernel
theorem dX2_init__96 : decode cX2_init_ 96 = .ok (.iload_n 3, 1) := by decide +kernel
theorem dX2_init__97 : decode cX2_init_ 97 = .ok (.aload_n 2, 1) := by decide +kernel
theorem dX2_init__98 : decode cX2_init_ 98 = .ok (.getfield 18, 3) := by decide +kernel
theorem dX2_init__101 : decode cX2_init_ 101 = .ok (.iload_n 3, 1) := by decide +kernel
theorem dX2_init__102 : decode cX2_init_ 102 = .ok (.iaload, 1) := by decide +kernel
theorem dX2_init__103 : decode cX2_init_ 103 = .ok (.iastore, 1) := by decide +kernel
theorem dX2_init__104 : decode cX2_init_ 104 = .ok (.iinc 3 1, 3) := by decide +kernel
theorem dX2_init__107 : decode cX2_init_ 107 = .ok (.goto (-20), 3) := by decide +kernel
theorem dX2_init__110 : decode cX2_init_ 110 = .ok (.return_, 1) := by decide +kernel
theorem dX2_holds_0 : decode cX2_holds 0 = .ok (.iload_n 1, 1) := by decide +kernel
theorem dX2_holds_1 : decode cX2_holds 1 = .ok (.bipush 12, 2) := by decide +kernel
theorem dX2_holds_3 : decode cX2_holds 3 = .ok (.invokestatic 35, 3) := by decide +kernel
theorem dX2_holds_6 : decode cX2_holds 6 = .ok (.ifCond .eq 12, 3) := by decide +kernel
theorem dX2_holds_9 : decode cX2_holds 9 = .ok (.aload_n 0, 1) := by decide +kernel
theorem dX2_holds_10 : decode cX2_holds 10 = .ok (.getfield 9, 3) := by decide +kernel
theorem dX2_holds_13 : decode cX2_holds 13 = .ok (.iload_n 1, 1) := by decide +kernel
theorem dX2_holds_14 : decode cX2_holds 14 = .ok (.iaload, 1) := by decide +kernel
theorem dX2_holds_15 : decode cX2_holds 15 = .ok (.goto 4, 3) := by decide +kernel
theorem dX2_holds_18 : decode cX2_holds 18 = .ok (.iconst (-1), 1) := by decide +kernel
theorem dX2_holds_19 : decode cX2_holds 19 = .ok (.ireturn, 1) := by decide +kernel
theorem dX2_shows_0 : decode cX2_shows 0 = .ok (.iload_n 1, 1) := by decide +kernel
theorem dX2_shows_1 : decode cX2_shows 1 = .ok (.bipush 12, 2) := by decide +kernel
theorem dX2_shows_3 : decode cX2_shows 3 = .ok (.invokestatic 35, 3) := by decide +kernel
theorem dX2_shows_6 : decode cX2_shows 6 = .ok (.ifCond .eq 12, 3) := by decide +kernel
theorem dX2_shows_9 : decode cX2_shows 9 = .ok (.aload_n 0, 1) := by decide +kernel
theorem dX2_shows_10 : decode cX2_shows 10 = .ok (.getfield 15, 3) := by decide +kernel
theorem dX2_shows_13 : decode cX2_shows 13 = .ok (.iload_n 1, 1) := by decide +kernel
theorem dX2_shows_14 : decode cX2_shows 14 = .ok (.iaload, 1) := by decide +kernel
theorem dX2_shows_15 : decode cX2_shows 15 = .ok (.goto 4, 3) := by decide +kernel
theorem dX2_shows_18 : decode cX2_shows 18 = .ok (.iconst (-1), 1) := by decide +kernel
theorem dX2_shows_19 : decode cX2_shows 19 = .ok (.ireturn, 1) := by decide +kernel
theorem dX2_value_0 : decode cX2_value 0 = .ok (.iload_n 1, 1) := by decide +kernel
theorem dX2_value_1 : decode cX2_value 1 = .ok (.iconst 4, 1) := by decide +kernel
theorem dX2_value_2 : decode cX2_value 2 = .ok (.invokestatic 35, 3) := by decide +kernel
theorem dX2_value_5 : decode cX2_value 5 = .ok (.ifCond .eq 12, 3) := by decide +kernel
theorem dX2_value_8 : decode cX2_value 8 = .ok (.aload_n 0, 1) := by decide +kernel
theorem dX2_value_9 : decode cX2_value 9 = .ok (.getfield 18, 3) := by decide +kernel
theorem dX2_value_12 : decode cX2_value 12 = .ok (.iload_n 1, 1) := by decide +kernel
theorem dX2_value_13 : decode cX2_value 13 = .ok (.iaload, 1) := by decide +kernel
theorem dX2_value_14 : decode cX2_value 14 = .ok (.goto 4, 3) := by decide +kernel
theorem dX2_value_17 : decode cX2_value 17 = .ok (.iconst 0, 1) := by decide +kernel
theorem dX2_value_18 : decode cX2_value 18 = .ok (.ireturn, 1) := by decide +kernel
theorem dX2_hold_0 : decode cX2_hold 0 = .ok (.iload_n 1, 1) := by decide +kernel
theorem dX2_hold_1 : decode cX2_hold 1 = .ok (.bipush 12, 2) := by decide +kernel
theorem dX2_hold_3 : decode cX2_hold 3 = .ok (.invokestatic 35, 3) := by decide +kernel
theorem dX2_hold_6 : decode cX2_hold 6 = .ok (.ifCond .eq 27, 3) := by decide +kernel
theorem dX2_hold_9 : decode cX2_hold 9 = .ok (.aload_n 0, 1) := by decide +kernel
theorem dX2_hold_10 : decode cX2_hold 10 = .ok (.getfield 9, 3) := by decide +kernel
theorem dX2_hold_13 : decode cX2_hold 13 = .ok (.iload_n 1, 1) := by decide +kernel
theorem dX2_hold_14 : decode cX2_hold 14 = .ok (.iload_n 2, 1) := by decide +kernel
theorem dX2_hold_15 : decode cX2_hold 15 = .ok (.iastore, 1) := by decide +kernel
theorem dX2_hold_16 : decode cX2_hold 16 = .ok (.aload_n 0, 1) := by decide +kernel
theorem dX2_hold_17 : decode cX2_hold 17 = .ok (.getfield 15, 3) := by decide +kernel
theorem dX2_hold_20 : decode cX2_hold 20 = .ok (.iload_n 1, 1) := by decide +kernel
theorem dX2_hold_21 : decode cX2_hold 21 = .ok (.iload_n 2, 1) := by decide +kernel
theorem dX2_hold_22 : decode cX2_hold 22 = .ok (.bipush (-2), 2) := by decide +kernel
theorem dX2_hold_24 : decode cX2_hold 24 = .ok (.if_icmp .ne 7, 3) := by decide +kernel
theorem dX2_hold_27 : decode cX2_hold 27 = .ok (.iconst (-1), 1) := by decide +kernel
theorem dX2_hold_28 : decode cX2_hold 28 = .ok (.goto 4, 3) := by decide +kernel
theorem dX2_hold_31 : decode cX2_hold 31 = .ok (.iload_n 2, 1) := by decide +kernel
theorem dX2_hold_32 : decode cX2_hold 32 = .ok (.iastore, 1) := by decide +kernel
theorem dX2_hold_33 : decode cX2_hold 33 = .ok (.return_, 1) := by decide +kernel
theorem dX2_assign_0 : decode cX2_assign 0 = .ok (.iload_n 1, 1) := by decide +kernel
theorem dX2_assign_1 : decode cX2_assign 1 = .ok (.iconst 4, 1) := by decide +kernel
theorem dX2_assign_2 : decode cX2_assign 2 = .ok (.invokestatic 35, 3) := by decide +kernel
theorem dX2_assign_5 : decode cX2_assign 5 = .ok (.ifCond .eq 10, 3) := by decide +kernel
theorem dX2_assign_8 : decode cX2_assign 8 = .ok (.aload_n 0, 1) := by decide +kernel
theorem dX2_assign_9 : decode cX2_assign 9 = .ok (.getfield 18, 3) := by decide +kernel
theorem dX2_assign_12 : decode cX2_assign 12 = .ok (.iload_n 1, 1) := by decide +kernel
theorem dX2_assign_13 : decode cX2_assign 13 = .ok (.iload_n 2, 1) := by decide +kernel
theorem dX2_assign_14 : decode cX2_assign 14 = .ok (.iastore, 1) := by decide +kernel
theorem dX2_assign_15 : decode cX2_assign 15 = .ok (.return_, 1) := by decide +kernel
theorem dX2_assignLike_0 : decode cX2_assignLike 0 = .ok (.iconst 0, 1) := by decide +kernel
theorem dX2_assignLike_1 : decode cX2_assignLike 1 = .ok (.istore_n 2, 1) := by decide +kernel
theorem dX2_assignLike_2 : decode cX2_assignLike 2 = .ok (.iload_n 2, 1) := by decide +kernel
theorem dX2_assignLike_3 : decode cX2_assignLike 3 = .ok (.iconst 4, 1) := by decide +kernel
theorem dX2_assignLike_4 : decode cX2_assignLike 4 = .ok (.if_icmp .ge 21, 3) := by decide +kernel
theorem dX2_assignLike_7 : decode cX2_assignLike 7 = .ok (.aload_n 0, 1) := by decide +kernel
theorem dX2_assignLike_8 : decode cX2_assignLike 8 = .ok (.getfield 18, 3) := by decide +kernel
theorem dX2_assignLike_11 : decode cX2_assignLike 11 = .ok (.iload_n 2, 1) := by decide +kernel
theorem dX2_assignLike_12 : decode cX2_assignLike 12 = .ok (.aload_n 1, 1) := by decide +kernel
theorem dX2_assignLike_13 : decode cX2_assignLike 13 = .ok (.getfield 18, 3) := by decide +kernel
theorem dX2_assignLike_16 : decode cX2_assignLike 16 = .ok (.iload_n 2, 1) := by decide +kernel
theorem dX2_assignLike_17 : decode cX2_assignLike 17 = .ok (.iaload, 1) := by decide +kernel
theorem dX2_assignLike_18 : decode cX2_assignLike 18 = .ok (.iastore, 1) := by decide +kernel
theorem dX2_assignLike_19 : decode cX2_assignLike 19 = .ok (.iinc 2 1, 3) := by decide +kernel
theorem dX2_assignLike_22 : decode cX2_assignLike 22 = .ok (.goto (-20), 3) := by decide +kernel
theorem dX2_assignLike_25 : decode cX2_assignLike 25 = .ok (.return_, 1) := by decide +kernel
theorem dX2_becomeMadeBy_0 : decode cX2_becomeMadeBy 0 = .ok (.aload_n 0, 1) := by decide +kernel
theorem dX2_becomeMadeBy_1 : decode cX2_becomeMadeBy 1 = .ok (.aload_n 1, 1) := by decide +kernel
theorem dX2_becomeMadeBy_2 : decode cX2_becomeMadeBy 2 = .ok (.putfield 39, 3) := by decide +kernel
theorem dX2_becomeMadeBy_5 : decode cX2_becomeMadeBy 5 = .ok (.aload_n 0, 1) := by decide +kernel
theorem dX2_becomeMadeBy_6 : decode cX2_becomeMadeBy 6 = .ok (.iload_n 2, 1) := by decide +kernel
theorem dX2_becomeMadeBy_7 : decode cX2_becomeMadeBy 7 = .ok (.putfield 21, 3) := by decide +kernel
theorem dX2_becomeMadeBy_10 : decode cX2_becomeMadeBy 10 = .ok (.aload_n 1, 1) := by decide +kernel
theorem dX2_becomeMadeBy_11 : decode cX2_becomeMadeBy 11 = .ok (.aload_n 0, 1) := by decide +kernel
theorem dX2_becomeMadeBy_12 : decode cX2_becomeMadeBy 12 = .ok (.iload_n 2, 1) := by decide +kernel
theorem dX2_becomeMadeBy_13 : decode cX2_becomeMadeBy 13 = .ok (.invokevirtual 43, 3) := by decide +kernel
theorem dX2_becomeMadeBy_16 : decode cX2_becomeMadeBy 16 = .ok (.return_, 1) := by decide +kernel
theorem dX2_wasMadeBy_0 : decode cX2_wasMadeBy 0 = .ok (.aload_n 0, 1) := by decide +kernel
theorem dX2_wasMadeBy_1 : decode cX2_wasMadeBy 1 = .ok (.getfield 39, 3) := by decide +kernel
theorem dX2_wasMadeBy_4 : decode cX2_wasMadeBy 4 = .ok (.ifnull 26, 3) := by decide +kernel
theorem dX2_wasMadeBy_7 : decode cX2_wasMadeBy 7 = .ok (.aload_n 0, 1) := by decide +kernel
theorem dX2_wasMadeBy_8 : decode cX2_wasMadeBy 8 = .ok (.getfield 39, 3) := by decide +kernel
theorem dX2_wasMadeBy_11 : decode cX2_wasMadeBy 11 = .ok (.aload_n 1, 1) := by decide +kernel
theorem dX2_wasMadeBy_12 : decode cX2_wasMadeBy 12 = .ok (.invokevirtual 49, 3) := by decide +kernel
theorem dX2_wasMadeBy_15 : decode cX2_wasMadeBy 15 = .ok (.ifCond .eq 15, 3) := by decide +kernel
theorem dX2_wasMadeBy_18 : decode cX2_wasMadeBy 18 = .ok (.aload_n 0, 1) := by decide +kernel
theorem dX2_wasMadeBy_19 : decode cX2_wasMadeBy 19 = .ok (.getfield 21, 3) := by decide +kernel
theorem dX2_wasMadeBy_22 : decode cX2_wasMadeBy 22 = .ok (.iload_n 2, 1) := by decide +kernel
theorem dX2_wasMadeBy_23 : decode cX2_wasMadeBy 23 = .ok (.if_icmp .ne 7, 3) := by decide +kernel
theorem dX2_wasMadeBy_26 : decode cX2_wasMadeBy 26 = .ok (.iconst 1, 1) := by decide +kernel
theorem dX2_wasMadeBy_27 : decode cX2_wasMadeBy 27 = .ok (.goto 4, 3) := by decide +kernel
theorem dX2_wasMadeBy_30 : decode cX2_wasMadeBy 30 = .ok (.iconst 0, 1) := by decide +kernel
theorem dX2_wasMadeBy_31 : decode cX2_wasMadeBy 31 = .ok (.ireturn, 1) := by decide +kernel
theorem dX2_isRootOf_0 : decode cX2_isRootOf 0 = .ok (.aload_n 0, 1) := by decide +kernel
theorem dX2_isRootOf_1 : decode cX2_isRootOf 1 = .ok (.getfield 28, 3) := by decide +kernel
theorem dX2_isRootOf_4 : decode cX2_isRootOf 4 = .ok (.ifnull 5, 3) := by decide +kernel
theorem dX2_isRootOf_7 : decode cX2_isRootOf 7 = .ok (.iconst 0, 1) := by decide +kernel
theorem dX2_isRootOf_8 : decode cX2_isRootOf 8 = .ok (.ireturn, 1) := by decide +kernel
theorem dX2_isRootOf_9 : decode cX2_isRootOf 9 = .ok (.iconst 0, 1) := by decide +kernel
theorem dX2_isRootOf_10 : decode cX2_isRootOf 10 = .ok (.istore_n 2, 1) := by decide +kernel
theorem dX2_isRootOf_11 : decode cX2_isRootOf 11 = .ok (.iload_n 2, 1) := by decide +kernel
theorem dX2_isRootOf_12 : decode cX2_isRootOf 12 = .ok (.bipush 12, 2) := by decide +kernel
theorem dX2_isRootOf_14 : decode cX2_isRootOf 14 = .ok (.if_icmp .ge 29, 3) := by decide +kernel
theorem dX2_isRootOf_17 : decode cX2_isRootOf 17 = .ok (.iload_n 2, 1) := by decide +kernel
theorem dX2_isRootOf_18 : decode cX2_isRootOf 18 = .ok (.aload_n 1, 1) := by decide +kernel
theorem dX2_isRootOf_19 : decode cX2_isRootOf 19 = .ok (.arraylength, 1) := by decide +kernel
theorem dX2_isRootOf_20 : decode cX2_isRootOf 20 = .ok (.if_icmp .ge 23, 3) := by decide +kernel
theorem dX2_isRootOf_23 : decode cX2_isRootOf 23 = .ok (.aload_n 0, 1) := by decide +kernel
theorem dX2_isRootOf_24 : decode cX2_isRootOf 24 = .ok (.getfield 9, 3) := by decide +kernel
theorem dX2_isRootOf_27 : decode cX2_isRootOf 27 = .ok (.iload_n 2, 1) := by decide +kernel
theorem dX2_isRootOf_28 : decode cX2_isRootOf 28 = .ok (.iaload, 1) := by decide +kernel
theorem dX2_isRootOf_29 : decode cX2_isRootOf 29 = .ok (.aload_n 1, 1) := by decide +kernel
theorem dX2_isRootOf_30 : decode cX2_isRootOf 30 = .ok (.iload_n 2, 1) := by decide +kernel
theorem dX2_isRootOf_31 : decode cX2_isRootOf 31 = .ok (.iaload, 1) := by decide +kernel
theorem dX2_isRootOf_32 : decode cX2_isRootOf 32 = .ok (.if_icmp .eq 5, 3) := by decide +kernel
theorem dX2_isRootOf_35 : decode cX2_isRootOf 35 = .ok (.iconst 0, 1) := by decide +kernel
theorem dX2_isRootOf_36 : decode cX2_isRootOf 36 = .ok (.ireturn, 1) := by decide +kernel
theorem dX2_isRootOf_37 : decode cX2_isRootOf 37 = .ok (.iinc 2 1, 3) := by decide +kernel
theorem dX2_isRootOf_40 : decode cX2_isRootOf 40 = .ok (.goto (-29), 3) := by decide +kernel
theorem dX2_isRootOf_43 : decode cX2_isRootOf 43 = .ok (.iconst 1, 1) := by decide +kernel
theorem dX2_isRootOf_44 : decode cX2_isRootOf 44 = .ok (.ireturn, 1) := by decide +kernel
theorem dX2_showLike_0 : decode cX2_showLike 0 = .ok (.iconst 0, 1) := by decide +kernel
theorem dX2_showLike_1 : decode cX2_showLike 1 = .ok (.istore_n 2, 1) := by decide +kernel
theorem dX2_showLike_2 : decode cX2_showLike 2 = .ok (.iload_n 2, 1) := by decide +kernel
theorem dX2_showLike_3 : decode cX2_showLike 3 = .ok (.bipush 12, 2) := by decide +kernel
theorem dX2_showLike_5 : decode cX2_showLike 5 = .ok (.if_icmp .ge 42, 3) := by decide +kernel
theorem dX2_showLike_8 : decode cX2_showLike 8 = .ok (.aload_n 1, 1) := by decide +kernel
theorem dX2_showLike_9 : decode cX2_showLike 9 = .ok (.getfield 15, 3) := by decide +kernel
theorem dX2_showLike_12 : decode cX2_showLike 12 = .ok (.iload_n 2, 1) := by decide +kernel
theorem dX2_showLike_13 : decode cX2_showLike 13 = .ok (.iaload, 1) := by decide +kernel
theorem dX2_showLike_14 : decode cX2_showLike 14 = .ok (.istore_n 3, 1) := by decide +kernel
theorem dX2_showLike_15 : decode cX2_showLike 15 = .ok (.iload_n 3, 1) := by decide +kernel
theorem dX2_showLike_16 : decode cX2_showLike 16 = .ok (.aload_n 0, 1) := by decide +kernel
theorem dX2_showLike_17 : decode cX2_showLike 17 = .ok (.getfield 15, 3) := by decide +kernel
theorem dX2_showLike_20 : decode cX2_showLike 20 = .ok (.iload_n 2, 1) := by decide +kernel
theorem dX2_showLike_21 : decode cX2_showLike 21 = .ok (.iaload, 1) := by decide +kernel
theorem dX2_showLike_22 : decode cX2_showLike 22 = .ok (.if_icmp .eq 19, 3) := by decide +kernel
theorem dX2_showLike_25 : decode cX2_showLike 25 = .ok (.aload_n 0, 1) := by decide +kernel
theorem dX2_showLike_26 : decode cX2_showLike 26 = .ok (.iload_n 2, 1) := by decide +kernel
theorem dX2_showLike_27 : decode cX2_showLike 27 = .ok (.iload_n 3, 1) := by decide +kernel
theorem dX2_showLike_28 : decode cX2_showLike 28 = .ok (.iconst (-1), 1) := by decide +kernel
theorem dX2_showLike_29 : decode cX2_showLike 29 = .ok (.if_icmp .ne 8, 3) := by decide +kernel
theorem dX2_showLike_32 : decode cX2_showLike 32 = .ok (.bipush (-2), 2) := by decide +kernel
theorem dX2_showLike_34 : decode cX2_showLike 34 = .ok (.goto 4, 3) := by decide +kernel
theorem dX2_showLike_37 : decode cX2_showLike 37 = .ok (.iload_n 3, 1) := by decide +kernel
theorem dX2_showLike_38 : decode cX2_showLike 38 = .ok (.invokevirtual 53, 3) := by decide +kernel
theorem dX2_showLike_41 : decode cX2_showLike 41 = .ok (.iinc 2 1, 3) := by decide +kernel
theorem dX2_showLike_44 : decode cX2_showLike 44 = .ok (.goto (-42), 3) := by decide +kernel
theorem dX2_showLike_47 : decode cX2_showLike 47 = .ok (.aload_n 0, 1) := by decide +kernel
theorem dX2_showLike_48 : decode cX2_showLike 48 = .ok (.aload_n 1, 1) := by decide +kernel
theorem dX2_showLike_49 : decode cX2_showLike 49 = .ok (.invokevirtual 57, 3) := by decide +kernel
theorem dX2_showLike_52 : decode cX2_showLike 52 = .ok (.return_, 1) := by decide +kernel
theorem dX2_holdLike_0 : decode cX2_holdLike 0 = .ok (.iconst 0, 1) := by decide +kernel
theorem dX2_holdLike_1 : decode cX2_holdLike 1 = .ok (.istore_n 2, 1) := by decide +kernel
theorem dX2_holdLike_2 : decode cX2_holdLike 2 = .ok (.iload_n 2, 1) := by decide +kernel
theorem dX2_holdLike_3 : decode cX2_holdLike 3 = .ok (.bipush 12, 2) := by decide +kernel
theorem dX2_holdLike_5 : decode cX2_holdLike 5 = .ok (.if_icmp .ge 55, 3) := by decide +kernel
theorem dX2_holdLike_8 : decode cX2_holdLike 8 = .ok (.aload_n 1, 1) := by decide +kernel
theorem dX2_holdLike_9 : decode cX2_holdLike 9 = .ok (.getfield 9, 3) := by decide +kernel
theorem dX2_holdLike_12 : decode cX2_holdLike 12 = .ok (.iload_n 2, 1) := by decide +kernel
theorem dX2_holdLike_13 : decode cX2_holdLike 13 = .ok (.iaload, 1) := by decide +kernel
theorem dX2_holdLike_14 : decode cX2_holdLike 14 = .ok (.istore_n 3, 1) := by decide +kernel
theorem dX2_holdLike_15 : decode cX2_holdLike 15 = .ok (.iload_n 3, 1) := by decide +kernel
theorem dX2_holdLike_16 : decode cX2_holdLike 16 = .ok (.bipush (-2), 2) := by decide +kernel
theorem dX2_holdLike_18 : decode cX2_holdLike 18 = .ok (.if_icmp .ne 17, 3) := by decide +kernel
theorem dX2_holdLike_21 : decode cX2_holdLike 21 = .ok (.aload_n 0, 1) := by decide +kernel
theorem dX2_holdLike_22 : decode cX2_holdLike 22 = .ok (.getfield 15, 3) := by decide +kernel
theorem dX2_holdLike_25 : decode cX2_holdLike 25 = .ok (.iload_n 2, 1) := by decide +kernel
theorem dX2_holdLike_26 : decode cX2_holdLike 26 = .ok (.iaload, 1) := by decide +kernel
theorem dX2_holdLike_27 : decode cX2_holdLike 27 = .ok (.iconst (-1), 1) := by decide +kernel
theorem dX2_holdLike_28 : decode cX2_holdLike 28 = .ok (.if_icmp .ne 7, 3) := by decide +kernel
theorem dX2_holdLike_31 : decode cX2_holdLike 31 = .ok (.iconst 1, 1) := by decide +kernel
theorem dX2_holdLike_32 : decode cX2_holdLike 32 = .ok (.goto 4, 3) := by decide +kernel
theorem dX2_holdLike_35 : decode cX2_holdLike 35 = .ok (.iconst 0, 1) := by decide +kernel
theorem dX2_holdLike_36 : decode cX2_holdLike 36 = .ok (.istore 4, 2) := by decide +kernel
theorem dX2_holdLike_38 : decode cX2_holdLike 38 = .ok (.iload_n 3, 1) := by decide +kernel
theorem dX2_holdLike_39 : decode cX2_holdLike 39 = .ok (.iconst (-1), 1) := by decide +kernel
theorem dX2_holdLike_40 : decode cX2_holdLike 40 = .ok (.if_icmp .eq 14, 3) := by decide +kernel
theorem dX2_holdLike_43 : decode cX2_holdLike 43 = .ok (.iload 4, 2) := by decide +kernel
theorem dX2_holdLike_45 : decode cX2_holdLike 45 = .ok (.ifCond .ne 9, 3) := by decide +kernel
theorem dX2_holdLike_48 : decode cX2_holdLike 48 = .ok (.aload_n 0, 1) := by decide +kernel
theorem dX2_holdLike_49 : decode cX2_holdLike 49 = .ok (.iload_n 2, 1) := by decide +kernel
theorem dX2_holdLike_50 : decode cX2_holdLike 50 = .ok (.iload_n 3, 1) := by decide +kernel
theorem dX2_holdLike_51 : decode cX2_holdLike 51 = .ok (.invokevirtual 53, 3) := by decide +kernel
theorem dX2_holdLike_54 : decode cX2_holdLike 54 = .ok (.iinc 2 1, 3) := by decide +kernel
theorem dX2_holdLike_57 : decode cX2_holdLike 57 = .ok (.goto (-55), 3) := by decide +kernel
theorem dX2_holdLike_60 : decode cX2_holdLike 60 = .ok (.aload_n 0, 1) := by decide +kernel
theorem dX2_holdLike_61 : decode cX2_holdLike 61 = .ok (.aload_n 1, 1) := by decide +kernel
theorem dX2_holdLike_62 : decode cX2_holdLike 62 = .ok (.invokevirtual 57, 3) := by decide +kernel
theorem dX2_holdLike_65 : decode cX2_holdLike 65 = .ok (.return_, 1) := by decide +kernel
theorem dX2_partAt_0 : decode cX2_partAt 0 = .ok (.aload_n 0, 1) := by decide +kernel
theorem dX2_partAt_1 : decode cX2_partAt 1 = .ok (.astore_n 2, 1) := by decide +kernel
theorem dX2_partAt_2 : decode cX2_partAt 2 = .ok (.aload_n 2, 1) := by decide +kernel
theorem dX2_partAt_3 : decode cX2_partAt 3 = .ok (.getfield 32, 3) := by decide +kernel
theorem dX2_partAt_6 : decode cX2_partAt 6 = .ok (.iload_n 1, 1) := by decide +kernel
theorem dX2_partAt_7 : decode cX2_partAt 7 = .ok (.if_icmp .le 18, 3) := by decide +kernel
theorem dX2_partAt_10 : decode cX2_partAt 10 = .ok (.aload_n 2, 1) := by decide +kernel
theorem dX2_partAt_11 : decode cX2_partAt 11 = .ok (.getfield 28, 3) := by decide +kernel
theorem dX2_partAt_14 : decode cX2_partAt 14 = .ok (.ifnull 11, 3) := by decide +kernel
theorem dX2_partAt_17 : decode cX2_partAt 17 = .ok (.aload_n 2, 1) := by decide +kernel
theorem dX2_partAt_18 : decode cX2_partAt 18 = .ok (.getfield 28, 3) := by decide +kernel
theorem dX2_partAt_21 : decode cX2_partAt 21 = .ok (.astore_n 2, 1) := by decide +kernel
theorem dX2_partAt_22 : decode cX2_partAt 22 = .ok (.goto (-20), 3) := by decide +kernel
theorem dX2_partAt_25 : decode cX2_partAt 25 = .ok (.aload_n 2, 1) := by decide +kernel
theorem dX2_partAt_26 : decode cX2_partAt 26 = .ok (.areturn, 1) := by decide +kernel
theorem dX2_size_0 : decode cX2_size 0 = .ok (.iconst 0, 1) := by decide +kernel
theorem dX2_size_1 : decode cX2_size 1 = .ok (.istore_n 1, 1) := by decide +kernel
theorem dX2_size_2 : decode cX2_size 2 = .ok (.iconst 0, 1) := by decide +kernel
theorem dX2_size_3 : decode cX2_size 3 = .ok (.istore_n 2, 1) := by decide +kernel
theorem dX2_size_4 : decode cX2_size 4 = .ok (.iload_n 2, 1) := by decide +kernel
theorem dX2_size_5 : decode cX2_size 5 = .ok (.bipush 12, 2) := by decide +kernel
theorem dX2_size_7 : decode cX2_size 7 = .ok (.if_icmp .ge 22, 3) := by decide +kernel
theorem dX2_size_10 : decode cX2_size 10 = .ok (.aload_n 0, 1) := by decide +kernel
theorem dX2_size_11 : decode cX2_size 11 = .ok (.getfield 9, 3) := by decide +kernel
theorem dX2_size_14 : decode cX2_size 14 = .ok (.iload_n 2, 1) := by decide +kernel
theorem dX2_size_15 : decode cX2_size 15 = .ok (.iaload, 1) := by decide +kernel
theorem dX2_size_16 : decode cX2_size 16 = .ok (.iconst (-1), 1) := by decide +kernel
theorem dX2_size_17 : decode cX2_size 17 = .ok (.if_icmp .eq 6, 3) := by decide +kernel
theorem dX2_size_20 : decode cX2_size 20 = .ok (.iinc 1 1, 3) := by decide +kernel
theorem dX2_size_23 : decode cX2_size 23 = .ok (.iinc 2 1, 3) := by decide +kernel
theorem dX2_size_26 : decode cX2_size 26 = .ok (.goto (-22), 3) := by decide +kernel
theorem dX2_size_29 : decode cX2_size 29 = .ok (.iload_n 1, 1) := by decide +kernel
theorem dX2_size_30 : decode cX2_size 30 = .ok (.ireturn, 1) := by decide +kernel
theorem dX2_fingerprint_0 : decode cX2_fingerprint 0 = .ok (.iconst 1, 1) := by decide +kernel
theorem dX2_fingerprint_1 : decode cX2_fingerprint 1 = .ok (.istore_n 1, 1) := by decide +kernel
theorem dX2_fingerprint_2 : decode cX2_fingerprint 2 = .ok (.iconst 0, 1) := by decide +kernel
theorem dX2_fingerprint_3 : decode cX2_fingerprint 3 = .ok (.istore_n 2, 1) := by decide +kernel
theorem dX2_fingerprint_4 : decode cX2_fingerprint 4 = .ok (.iload_n 2, 1) := by decide +kernel
theorem dX2_fingerprint_5 : decode cX2_fingerprint 5 = .ok (.bipush 12, 2) := by decide +kernel
theorem dX2_fingerprint_7 : decode cX2_fingerprint 7 = .ok (.if_icmp .ge 39, 3) := by decide +kernel
theorem dX2_fingerprint_10 : decode cX2_fingerprint 10 = .ok (.aload_n 0, 1) := by decide +kernel
theorem dX2_fingerprint_11 : decode cX2_fingerprint 11 = .ok (.getfield 15, 3) := by decide +kernel
theorem dX2_fingerprint_14 : decode cX2_fingerprint 14 = .ok (.iload_n 2, 1) := by decide +kernel
theorem dX2_fingerprint_15 : decode cX2_fingerprint 15 = .ok (.iaload, 1) := by decide +kernel
theorem dX2_fingerprint_16 : decode cX2_fingerprint 16 = .ok (.iconst (-1), 1) := by decide +kernel
theorem dX2_fingerprint_17 : decode cX2_fingerprint 17 = .ok (.if_icmp .eq 23, 3) := by decide +kernel
theorem dX2_fingerprint_20 : decode cX2_fingerprint 20 = .ok (.bipush 31, 2) := by decide +kernel
theorem dX2_fingerprint_22 : decode cX2_fingerprint 22 = .ok (.iload_n 1, 1) := by decide +kernel
theorem dX2_fingerprint_23 : decode cX2_fingerprint 23 = .ok (.imul, 1) := by decide +kernel
theorem dX2_fingerprint_24 : decode cX2_fingerprint 24 = .ok (.bipush 101, 2) := by decide +kernel
theorem dX2_fingerprint_26 : decode cX2_fingerprint 26 = .ok (.iload_n 2, 1) := by decide +kernel
theorem dX2_fingerprint_27 : decode cX2_fingerprint 27 = .ok (.imul, 1) := by decide +kernel
theorem dX2_fingerprint_28 : decode cX2_fingerprint 28 = .ok (.iadd, 1) := by decide +kernel
theorem dX2_fingerprint_29 : decode cX2_fingerprint 29 = .ok (.aload_n 0, 1) := by decide +kernel
theorem dX2_fingerprint_30 : decode cX2_fingerprint 30 = .ok (.getfield 15, 3) := by decide +kernel
theorem dX2_fingerprint_33 : decode cX2_fingerprint 33 = .ok (.iload_n 2, 1) := by decide +kernel
theorem dX2_fingerprint_34 : decode cX2_fingerprint 34 = .ok (.iaload, 1) := by decide +kernel
theorem dX2_fingerprint_35 : decode cX2_fingerprint 35 = .ok (.iadd, 1) := by decide +kernel
theorem dX2_fingerprint_36 : decode cX2_fingerprint 36 = .ok (.ldc 61, 2) := by decide +kernel
theorem dX2_fingerprint_38 : decode cX2_fingerprint 38 = .ok (.irem, 1) := by decide +kernel
theorem dX2_fingerprint_39 : decode cX2_fingerprint 39 = .ok (.istore_n 1, 1) := by decide +kernel
theorem dX2_fingerprint_40 : decode cX2_fingerprint 40 = .ok (.iinc 2 1, 3) := by decide +kernel
theorem dX2_fingerprint_43 : decode cX2_fingerprint 43 = .ok (.goto (-39), 3) := by decide +kernel
theorem dX2_fingerprint_46 : decode cX2_fingerprint 46 = .ok (.iload_n 1, 1) := by decide +kernel
theorem dX2_fingerprint_47 : decode cX2_fingerprint 47 = .ok (.ireturn, 1) := by decide +kernel
theorem dX3_init_0 : decode cX3_init 0 = .ok (.aload_n 0, 1) := by decide +kernel
theorem dX3_init_1 : decode cX3_init 1 = .ok (.invokespecial 3, 3) := by decide +kernel
theorem dX3_init_4 : decode cX3_init 4 = .ok (.aload_n 0, 1) := by decide +kernel
theorem dX3_init_5 : decode cX3_init 5 = .ok (.bipush 10, 2) := by decide +kernel
theorem dX3_init_7 : decode cX3_init 7 = .ok (.anewarray 9, 3) := by decide +kernel
theorem dX3_init_10 : decode cX3_init 10 = .ok (.putfield 11, 3) := by decide +kernel
theorem dX3_init_13 : decode cX3_init 13 = .ok (.return_, 1) := by decide +kernel
theorem dX3_at_0 : decode cX3_at 0 = .ok (.iload_n 1, 1) := by decide +kernel
theorem dX3_at_1 : decode cX3_at 1 = .ok (.aload_n 0, 1) := by decide +kernel
theorem dX3_at_2 : decode cX3_at 2 = .ok (.getfield 11, 3) := by decide +kernel
theorem dX3_at_5 : decode cX3_at 5 = .ok (.arraylength, 1) := by decide +kernel
theorem dX3_at_6 : decode cX3_at 6 = .ok (.invokestatic 17, 3) := by decide +kernel
theorem dX3_at_9 : decode cX3_at 9 = .ok (.ifCond .eq 12, 3) := by decide +kernel
theorem dX3_at_12 : decode cX3_at 12 = .ok (.aload_n 0, 1) := by decide +kernel
theorem dX3_at_13 : decode cX3_at 13 = .ok (.getfield 11, 3) := by decide +kernel
theorem dX3_at_16 : decode cX3_at 16 = .ok (.iload_n 1, 1) := by decide +kernel
theorem dX3_at_17 : decode cX3_at 17 = .ok (.aaload, 1) := by decide +kernel
theorem dX3_at_18 : decode cX3_at 18 = .ok (.goto 4, 3) := by decide +kernel
theorem dX3_at_21 : decode cX3_at 21 = .ok (.aconst_null, 1) := by decide +kernel
theorem dX3_at_22 : decode cX3_at 22 = .ok (.areturn, 1) := by decide +kernel
theorem dX3_clearOn_0 : decode cX3_clearOn 0 = .ok (.aload_n 0, 1) := by decide +kernel
theorem dX3_clearOn_1 : decode cX3_clearOn 1 = .ok (.iload_n 1, 1) := by decide +kernel
theorem dX3_clearOn_2 : decode cX3_clearOn 2 = .ok (.putfield 21, 3) := by decide +kernel
theorem dX3_clearOn_5 : decode cX3_clearOn 5 = .ok (.aload_n 0, 1) := by decide +kernel
theorem dX3_clearOn_6 : decode cX3_clearOn 6 = .ok (.iconst 0, 1) := by decide +kernel
theorem dX3_clearOn_7 : decode cX3_clearOn 7 = .ok (.putfield 25, 3) := by decide +kernel
theorem dX3_clearOn_10 : decode cX3_clearOn 10 = .ok (.return_, 1) := by decide +kernel
theorem dX3_append_0 : decode cX3_append 0 = .ok (.aload_n 0, 1) := by decide +kernel
theorem dX3_append_1 : decode cX3_append 1 = .ok (.getfield 25, 3) := by decide +kernel
theorem dX3_append_4 : decode cX3_append 4 = .ok (.aload_n 0, 1) := by decide +kernel
theorem dX3_append_5 : decode cX3_append 5 = .ok (.getfield 11, 3) := by decide +kernel
theorem dX3_append_8 : decode cX3_append 8 = .ok (.arraylength, 1) := by decide +kernel
theorem dX3_append_9 : decode cX3_append 9 = .ok (.invokestatic 17, 3) := by decide +kernel
theorem dX3_append_12 : decode cX3_append 12 = .ok (.ifCond .eq 23, 3) := by decide +kernel
theorem dX3_append_15 : decode cX3_append 15 = .ok (.aload_n 0, 1) := by decide +kernel
theorem dX3_append_16 : decode cX3_append 16 = .ok (.getfield 11, 3) := by decide +kernel
theorem dX3_append_19 : decode cX3_append 19 = .ok (.aload_n 0, 1) := by decide +kernel
theorem dX3_append_20 : decode cX3_append 20 = .ok (.getfield 25, 3) := by decide +kernel
theorem dX3_append_23 : decode cX3_append 23 = .ok (.aload_n 1, 1) := by decide +kernel
theorem dX3_append_24 : decode cX3_append 24 = .ok (.aastore, 1) := by decide +kernel
theorem dX3_append_25 : decode cX3_append 25 = .ok (.aload_n 0, 1) := by decide +kernel
theorem dX3_append_26 : decode cX3_append 26 = .ok (.dup, 1) := by decide +kernel
theorem dX3_append_27 : decode cX3_append 27 = .ok (.getfield 25, 3) := by decide +kernel
theorem dX3_append_30 : decode cX3_append 30 = .ok (.iconst 1, 1) := by decide +kernel
theorem dX3_append_31 : decode cX3_append 31 = .ok (.iadd, 1) := by decide +kernel
theorem dX3_append_32 : decode cX3_append 32 = .ok (.putfield 25, 3) := by decide +kernel
theorem dX3_append_35 : decode cX3_append 35 = .ok (.return_, 1) := by decide +kernel
theorem dX3_removeAt_0 : decode cX3_removeAt 0 = .ok (.iload_n 1, 1) := by decide +kernel
theorem dX3_removeAt_1 : decode cX3_removeAt 1 = .ok (.aload_n 0, 1) := by decide +kernel
theorem dX3_removeAt_2 : decode cX3_removeAt 2 = .ok (.getfield 25, 3) := by decide +kernel
theorem dX3_removeAt_5 : decode cX3_removeAt 5 = .ok (.invokestatic 17, 3) := by decide +kernel
theorem dX3_removeAt_8 : decode cX3_removeAt 8 = .ok (.ifCond .eq 46, 3) := by decide +kernel
theorem dX3_removeAt_11 : decode cX3_removeAt 11 = .ok (.iload_n 1, 1) := by decide +kernel
theorem dX3_removeAt_12 : decode cX3_removeAt 12 = .ok (.istore_n 2, 1) := by decide +kernel
theorem dX3_removeAt_13 : decode cX3_removeAt 13 = .ok (.iload_n 2, 1) := by decide +kernel
theorem dX3_removeAt_14 : decode cX3_removeAt 14 = .ok (.iconst 1, 1) := by decide +kernel
theorem dX3_removeAt_15 : decode cX3_removeAt 15 = .ok (.iadd, 1) := by decide +kernel
theorem dX3_removeAt_16 : decode cX3_removeAt 16 = .ok (.aload_n 0, 1) := by decide +kernel
theorem dX3_removeAt_17 : decode cX3_removeAt 17 = .ok (.getfield 11, 3) := by decide +kernel
theorem dX3_removeAt_20 : decode cX3_removeAt 20 = .ok (.arraylength, 1) := by decide +kernel
theorem dX3_removeAt_21 : decode cX3_removeAt 21 = .ok (.if_icmp .ge 23, 3) := by decide +kernel
theorem dX3_removeAt_24 : decode cX3_removeAt 24 = .ok (.aload_n 0, 1) := by decide +kernel
theorem dX3_removeAt_25 : decode cX3_removeAt 25 = .ok (.getfield 11, 3) := by decide +kernel
theorem dX3_removeAt_28 : decode cX3_removeAt 28 = .ok (.iload_n 2, 1) := by decide +kernel
theorem dX3_removeAt_29 : decode cX3_removeAt 29 = .ok (.aload_n 0, 1) := by decide +kernel
theorem dX3_removeAt_30 : decode cX3_removeAt 30 = .ok (.getfield 11, 3) := by decide +kernel
theorem dX3_removeAt_33 : decode cX3_removeAt 33 = .ok (.iload_n 2, 1) := by decide +kernel
theorem dX3_removeAt_34 : decode cX3_removeAt 34 = .ok (.iconst 1, 1) := by decide +kernel
theorem dX3_removeAt_35 : decode cX3_removeAt 35 = .ok (.iadd, 1) := by decide +kernel
theorem dX3_removeAt_36 : decode cX3_removeAt 36 = .ok (.aaload, 1) := by decide +kernel
theorem dX3_removeAt_37 : decode cX3_removeAt 37 = .ok (.aastore, 1) := by decide +kernel
theorem dX3_removeAt_38 : decode cX3_removeAt 38 = .ok (.iinc 2 1, 3) := by decide +kernel
theorem dX3_removeAt_41 : decode cX3_removeAt 41 = .ok (.goto (-28), 3) := by decide +kernel
theorem dX3_removeAt_44 : decode cX3_removeAt 44 = .ok (.aload_n 0, 1) := by decide +kernel
theorem dX3_removeAt_45 : decode cX3_removeAt 45 = .ok (.dup, 1) := by decide +kernel
theorem dX3_removeAt_46 : decode cX3_removeAt 46 = .ok (.getfield 25, 3) := by decide +kernel
theorem dX3_removeAt_49 : decode cX3_removeAt 49 = .ok (.iconst 1, 1) := by decide +kernel
theorem dX3_removeAt_50 : decode cX3_removeAt 50 = .ok (.isub, 1) := by decide +kernel
theorem dX3_removeAt_51 : decode cX3_removeAt 51 = .ok (.putfield 25, 3) := by decide +kernel
theorem dX3_removeAt_54 : decode cX3_removeAt 54 = .ok (.return_, 1) := by decide +kernel
theorem dX3_becomeLike_0 : decode cX3_becomeLike 0 = .ok (.aload_n 0, 1) := by decide +kernel
theorem dX3_becomeLike_1 : decode cX3_becomeLike 1 = .ok (.aload_n 1, 1) := by decide +kernel
theorem dX3_becomeLike_2 : decode cX3_becomeLike 2 = .ok (.getfield 21, 3) := by decide +kernel
theorem dX3_becomeLike_5 : decode cX3_becomeLike 5 = .ok (.invokevirtual 28, 3) := by decide +kernel
theorem dX3_becomeLike_8 : decode cX3_becomeLike 8 = .ok (.iconst 0, 1) := by decide +kernel
theorem dX3_becomeLike_9 : decode cX3_becomeLike 9 = .ok (.istore_n 2, 1) := by decide +kernel
theorem dX3_becomeLike_10 : decode cX3_becomeLike 10 = .ok (.iload_n 2, 1) := by decide +kernel
theorem dX3_becomeLike_11 : decode cX3_becomeLike 11 = .ok (.aload_n 1, 1) := by decide +kernel
theorem dX3_becomeLike_12 : decode cX3_becomeLike 12 = .ok (.getfield 25, 3) := by decide +kernel
theorem dX3_becomeLike_15 : decode cX3_becomeLike 15 = .ok (.if_icmp .ge 18, 3) := by decide +kernel
theorem dX3_becomeLike_18 : decode cX3_becomeLike 18 = .ok (.aload_n 0, 1) := by decide +kernel
theorem dX3_becomeLike_19 : decode cX3_becomeLike 19 = .ok (.aload_n 1, 1) := by decide +kernel
theorem dX3_becomeLike_20 : decode cX3_becomeLike 20 = .ok (.iload_n 2, 1) := by decide +kernel
theorem dX3_becomeLike_21 : decode cX3_becomeLike 21 = .ok (.invokevirtual 32, 3) := by decide +kernel
theorem dX3_becomeLike_24 : decode cX3_becomeLike 24 = .ok (.invokevirtual 36, 3) := by decide +kernel
theorem dX3_becomeLike_27 : decode cX3_becomeLike 27 = .ok (.iinc 2 1, 3) := by decide +kernel
theorem dX3_becomeLike_30 : decode cX3_becomeLike 30 = .ok (.goto (-20), 3) := by decide +kernel
theorem dX3_becomeLike_33 : decode cX3_becomeLike 33 = .ok (.return_, 1) := by decide +kernel
theorem dX4_init_0 : decode cX4_init 0 = .ok (.aload_n 0, 1) := by decide +kernel
theorem dX4_init_1 : decode cX4_init 1 = .ok (.invokespecial 3, 3) := by decide +kernel
theorem dX4_init_4 : decode cX4_init 4 = .ok (.aload_n 0, 1) := by decide +kernel
theorem dX4_init_5 : decode cX4_init 5 = .ok (.sipush 420, 3) := by decide +kernel
theorem dX4_init_8 : decode cX4_init 8 = .ok (.anewarray 9, 3) := by decide +kernel
theorem dX4_init_11 : decode cX4_init 11 = .ok (.putfield 11, 3) := by decide +kernel
theorem dX4_init_14 : decode cX4_init 14 = .ok (.return_, 1) := by decide +kernel
theorem dX4_find_0 : decode cX4_find 0 = .ok (.iload_n 1, 1) := by decide +kernel
theorem dX4_find_1 : decode cX4_find 1 = .ok (.aload_n 0, 1) := by decide +kernel
theorem dX4_find_2 : decode cX4_find 2 = .ok (.getfield 11, 3) := by decide +kernel
theorem dX4_find_5 : decode cX4_find 5 = .ok (.arraylength, 1) := by decide +kernel
theorem dX4_find_6 : decode cX4_find 6 = .ok (.invokestatic 17, 3) := by decide +kernel
theorem dX4_find_9 : decode cX4_find 9 = .ok (.ifCond .eq 12, 3) := by decide +kernel
theorem dX4_find_12 : decode cX4_find 12 = .ok (.aload_n 0, 1) := by decide +kernel
theorem dX4_find_13 : decode cX4_find 13 = .ok (.getfield 11, 3) := by decide +kernel
theorem dX4_find_16 : decode cX4_find 16 = .ok (.iload_n 1, 1) := by decide +kernel
theorem dX4_find_17 : decode cX4_find 17 = .ok (.aaload, 1) := by decide +kernel
theorem dX4_find_18 : decode cX4_find 18 = .ok (.goto 4, 3) := by decide +kernel
theorem dX4_find_21 : decode cX4_find 21 = .ok (.aconst_null, 1) := by decide +kernel
theorem dX4_find_22 : decode cX4_find 22 = .ok (.areturn, 1) := by decide +kernel
theorem dX4_findRoot_0 : decode cX4_findRoot 0 = .ok (.iconst 0, 1) := by decide +kernel
theorem dX4_findRoot_1 : decode cX4_findRoot 1 = .ok (.istore_n 2, 1) := by decide +kernel
theorem dX4_findRoot_2 : decode cX4_findRoot 2 = .ok (.iload_n 2, 1) := by decide +kernel
theorem dX4_findRoot_3 : decode cX4_findRoot 3 = .ok (.aload_n 0, 1) := by decide +kernel
theorem dX4_findRoot_4 : decode cX4_findRoot 4 = .ok (.getfield 21, 3) := by decide +kernel
theorem dX4_findRoot_7 : decode cX4_findRoot 7 = .ok (.if_icmp .ge 29, 3) := by decide +kernel
theorem dX4_findRoot_10 : decode cX4_findRoot 10 = .ok (.aload_n 0, 1) := by decide +kernel
theorem dX4_findRoot_11 : decode cX4_findRoot 11 = .ok (.iload_n 2, 1) := by decide +kernel
theorem dX4_findRoot_12 : decode cX4_findRoot 12 = .ok (.invokevirtual 25, 3) := by decide +kernel
theorem dX4_findRoot_15 : decode cX4_findRoot 15 = .ok (.astore_n 3, 1) := by decide +kernel
theorem dX4_findRoot_16 : decode cX4_findRoot 16 = .ok (.aload_n 3, 1) := by decide +kernel
theorem dX4_findRoot_17 : decode cX4_findRoot 17 = .ok (.ifnull 13, 3) := by decide +kernel
theorem dX4_findRoot_20 : decode cX4_findRoot 20 = .ok (.aload_n 3, 1) := by decide +kernel
theorem dX4_findRoot_21 : decode cX4_findRoot 21 = .ok (.aload_n 1, 1) := by decide +kernel
theorem dX4_findRoot_22 : decode cX4_findRoot 22 = .ok (.invokevirtual 29, 3) := by decide +kernel
theorem dX4_findRoot_25 : decode cX4_findRoot 25 = .ok (.ifCond .eq 5, 3) := by decide +kernel
theorem dX4_findRoot_28 : decode cX4_findRoot 28 = .ok (.aload_n 3, 1) := by decide +kernel
theorem dX4_findRoot_29 : decode cX4_findRoot 29 = .ok (.areturn, 1) := by decide +kernel
theorem dX4_findRoot_30 : decode cX4_findRoot 30 = .ok (.iinc 2 1, 3) := by decide +kernel
theorem dX4_findRoot_33 : decode cX4_findRoot 33 = .ok (.goto (-31), 3) := by decide +kernel
theorem dX4_findRoot_36 : decode cX4_findRoot 36 = .ok (.aconst_null, 1) := by decide +kernel
theorem dX4_findRoot_37 : decode cX4_findRoot 37 = .ok (.areturn, 1) := by decide +kernel
theorem dX4_findMade_0 : decode cX4_findMade 0 = .ok (.aload_n 1, 1) := by decide +kernel
theorem dX4_findMade_1 : decode cX4_findMade 1 = .ok (.getfield 33, 3) := by decide +kernel
theorem dX4_findMade_4 : decode cX4_findMade 4 = .ok (.iconst 1, 1) := by decide +kernel
theorem dX4_findMade_5 : decode cX4_findMade 5 = .ok (.iadd, 1) := by decide +kernel
theorem dX4_findMade_6 : decode cX4_findMade 6 = .ok (.istore 4, 2) := by decide +kernel
theorem dX4_findMade_8 : decode cX4_findMade 8 = .ok (.iload 4, 2) := by decide +kernel
theorem dX4_findMade_10 : decode cX4_findMade 10 = .ok (.aload_n 0, 1) := by decide +kernel
theorem dX4_findMade_11 : decode cX4_findMade 11 = .ok (.getfield 21, 3) := by decide +kernel
theorem dX4_findMade_14 : decode cX4_findMade 14 = .ok (.if_icmp .ge 44, 3) := by decide +kernel
theorem dX4_findMade_17 : decode cX4_findMade 17 = .ok (.aload_n 0, 1) := by decide +kernel
theorem dX4_findMade_18 : decode cX4_findMade 18 = .ok (.iload 4, 2) := by decide +kernel
theorem dX4_findMade_20 : decode cX4_findMade 20 = .ok (.invokevirtual 25, 3) := by decide +kernel
theorem dX4_findMade_23 : decode cX4_findMade 23 = .ok (.astore 5, 2) := by decide +kernel
theorem dX4_findMade_25 : decode cX4_findMade 25 = .ok (.aload 5, 2) := by decide +kernel
theorem dX4_findMade_27 : decode cX4_findMade 27 = .ok (.ifnull 25, 3) := by decide +kernel
theorem dX4_findMade_30 : decode cX4_findMade 30 = .ok (.aload 5, 2) := by decide +kernel
theorem dX4_findMade_32 : decode cX4_findMade 32 = .ok (.getfield 36, 3) := by decide +kernel
theorem dX4_findMade_35 : decode cX4_findMade 35 = .ok (.aload_n 1, 1) := by decide +kernel
theorem dX4_findMade_36 : decode cX4_findMade 36 = .ok (.if_acmp .ne 16, 3) := by decide +kernel
theorem dX4_findMade_39 : decode cX4_findMade 39 = .ok (.aload 5, 2) := by decide +kernel
theorem dX4_findMade_41 : decode cX4_findMade 41 = .ok (.aload_n 2, 1) := by decide +kernel
theorem dX4_findMade_42 : decode cX4_findMade 42 = .ok (.iload_n 3, 1) := by decide +kernel
theorem dX4_findMade_43 : decode cX4_findMade 43 = .ok (.invokevirtual 40, 3) := by decide +kernel
theorem dX4_findMade_46 : decode cX4_findMade 46 = .ok (.ifCond .eq 6, 3) := by decide +kernel
theorem dX4_findMade_49 : decode cX4_findMade 49 = .ok (.aload 5, 2) := by decide +kernel
theorem dX4_findMade_51 : decode cX4_findMade 51 = .ok (.areturn, 1) := by decide +kernel
theorem dX4_findMade_52 : decode cX4_findMade 52 = .ok (.iinc 4 1, 3) := by decide +kernel
theorem dX4_findMade_55 : decode cX4_findMade 55 = .ok (.goto (-47), 3) := by decide +kernel
theorem dX4_findMade_58 : decode cX4_findMade 58 = .ok (.aconst_null, 1) := by decide +kernel
theorem dX4_findMade_59 : decode cX4_findMade 59 = .ok (.areturn, 1) := by decide +kernel
theorem dX4_newRoot_0 : decode cX4_newRoot 0 = .ok (.aload_n 0, 1) := by decide +kernel
theorem dX4_newRoot_1 : decode cX4_newRoot 1 = .ok (.new 9, 3) := by decide +kernel
theorem dX4_newRoot_4 : decode cX4_newRoot 4 = .ok (.dup, 1) := by decide +kernel
theorem dX4_newRoot_5 : decode cX4_newRoot 5 = .ok (.aload_n 0, 1) := by decide +kernel
theorem dX4_newRoot_6 : decode cX4_newRoot 6 = .ok (.getfield 21, 3) := by decide +kernel
theorem dX4_newRoot_9 : decode cX4_newRoot 9 = .ok (.aload_n 1, 1) := by decide +kernel
theorem dX4_newRoot_10 : decode cX4_newRoot 10 = .ok (.invokespecial 44, 3) := by decide +kernel
theorem dX4_newRoot_13 : decode cX4_newRoot 13 = .ok (.invokevirtual 47, 3) := by decide +kernel
theorem dX4_newRoot_16 : decode cX4_newRoot 16 = .ok (.areturn, 1) := by decide +kernel
theorem dX4_newChild_0 : decode cX4_newChild 0 = .ok (.aload_n 0, 1) := by decide +kernel
theorem dX4_newChild_1 : decode cX4_newChild 1 = .ok (.new 9, 3) := by decide +kernel
theorem dX4_newChild_4 : decode cX4_newChild 4 = .ok (.dup, 1) := by decide +kernel
theorem dX4_newChild_5 : decode cX4_newChild 5 = .ok (.aload_n 0, 1) := by decide +kernel
theorem dX4_newChild_6 : decode cX4_newChild 6 = .ok (.getfield 21, 3) := by decide +kernel
theorem dX4_newChild_9 : decode cX4_newChild 9 = .ok (.aload_n 1, 1) := by decide +kernel
theorem dX4_newChild_10 : decode cX4_newChild 10 = .ok (.invokespecial 51, 3) := by decide +kernel
theorem dX4_newChild_13 : decode cX4_newChild 13 = .ok (.invokevirtual 47, 3) := by decide +kernel
theorem dX4_newChild_16 : decode cX4_newChild 16 = .ok (.areturn, 1) := by decide +kernel
theorem dX4_kept_0 : decode cX4_kept 0 = .ok (.aload_n 0, 1) := by decide +kernel
theorem dX4_kept_1 : decode cX4_kept 1 = .ok (.getfield 21, 3) := by decide +kernel
theorem dX4_kept_4 : decode cX4_kept 4 = .ok (.aload_n 0, 1) := by decide +kernel
theorem dX4_kept_5 : decode cX4_kept 5 = .ok (.getfield 11, 3) := by decide +kernel
theorem dX4_kept_8 : decode cX4_kept 8 = .ok (.arraylength, 1) := by decide +kernel
theorem dX4_kept_9 : decode cX4_kept 9 = .ok (.invokestatic 17, 3) := by decide +kernel
theorem dX4_kept_12 : decode cX4_kept 12 = .ok (.ifCond .ne 13, 3) := by decide +kernel
theorem dX4_kept_15 : decode cX4_kept 15 = .ok (.new 54, 3) := by decide +kernel
theorem dX4_kept_18 : decode cX4_kept 18 = .ok (.dup, 1) := by decide +kernel
theorem dX4_kept_19 : decode cX4_kept 19 = .ok (.ldc 56, 2) := by decide +kernel
theorem dX4_kept_21 : decode cX4_kept 21 = .ok (.invokespecial 58, 3) := by decide +kernel
theorem dX4_kept_24 : decode cX4_kept 24 = .ok (.athrow, 1) := by decide +kernel
theorem dX4_kept_25 : decode cX4_kept 25 = .ok (.aload_n 0, 1) := by decide +kernel
theorem dX4_kept_26 : decode cX4_kept 26 = .ok (.getfield 11, 3) := by decide +kernel
theorem dX4_kept_29 : decode cX4_kept 29 = .ok (.aload_n 0, 1) := by decide +kernel
theorem dX4_kept_30 : decode cX4_kept 30 = .ok (.getfield 21, 3) := by decide +kernel
theorem dX4_kept_33 : decode cX4_kept 33 = .ok (.aload_n 1, 1) := by decide +kernel
theorem dX4_kept_34 : decode cX4_kept 34 = .ok (.aastore, 1) := by decide +kernel
theorem dX4_kept_35 : decode cX4_kept 35 = .ok (.aload_n 0, 1) := by decide +kernel
theorem dX4_kept_36 : decode cX4_kept 36 = .ok (.dup, 1) := by decide +kernel
theorem dX4_kept_37 : decode cX4_kept 37 = .ok (.getfield 21, 3) := by decide +kernel
theorem dX4_kept_40 : decode cX4_kept 40 = .ok (.iconst 1, 1) := by decide +kernel
theorem dX4_kept_41 : decode cX4_kept 41 = .ok (.iadd, 1) := by decide +kernel
theorem dX4_kept_42 : decode cX4_kept 42 = .ok (.putfield 21, 3) := by decide +kernel
theorem dX4_kept_45 : decode cX4_kept 45 = .ok (.aload_n 1, 1) := by decide +kernel
theorem dX4_kept_46 : decode cX4_kept 46 = .ok (.areturn, 1) := by decide +kernel
theorem dX4_remove_0 : decode cX4_remove 0 = .ok (.iload_n 1, 1) := by decide +kernel
theorem dX4_remove_1 : decode cX4_remove 1 = .ok (.aload_n 0, 1) := by decide +kernel
theorem dX4_remove_2 : decode cX4_remove 2 = .ok (.getfield 11, 3) := by decide +kernel
theorem dX4_remove_5 : decode cX4_remove 5 = .ok (.arraylength, 1) := by decide +kernel
theorem dX4_remove_6 : decode cX4_remove 6 = .ok (.invokestatic 17, 3) := by decide +kernel
theorem dX4_remove_9 : decode cX4_remove 9 = .ok (.ifCond .eq 10, 3) := by decide +kernel
theorem dX4_remove_12 : decode cX4_remove 12 = .ok (.aload_n 0, 1) := by decide +kernel
theorem dX4_remove_13 : decode cX4_remove 13 = .ok (.getfield 11, 3) := by decide +kernel
theorem dX4_remove_16 : decode cX4_remove 16 = .ok (.iload_n 1, 1) := by decide +kernel
theorem dX4_remove_17 : decode cX4_remove 17 = .ok (.aconst_null, 1) := by decide +kernel
theorem dX4_remove_18 : decode cX4_remove 18 = .ok (.aastore, 1) := by decide +kernel
theorem dX4_remove_19 : decode cX4_remove 19 = .ok (.return_, 1) := by decide +kernel
theorem dX5_init_0 : decode cX5_init 0 = .ok (.aload_n 0, 1) := by decide +kernel
theorem dX5_init_1 : decode cX5_init 1 = .ok (.invokespecial 1, 3) := by decide +kernel
theorem dX5_init_4 : decode cX5_init 4 = .ok (.aload_n 0, 1) := by decide +kernel
theorem dX5_init_5 : decode cX5_init 5 = .ok (.bipush 8, 2) := by decide +kernel
theorem dX5_init_7 : decode cX5_init 7 = .ok (.newarray .int, 2) := by decide +kernel
theorem dX5_init_9 : decode cX5_init 9 = .ok (.putfield 9, 3) := by decide +kernel
theorem dX5_init_12 : decode cX5_init 12 = .ok (.aload_n 0, 1) := by decide +kernel
theorem dX5_init_13 : decode cX5_init 13 = .ok (.iconst 3, 1) := by decide +kernel
theorem dX5_init_14 : decode cX5_init 14 = .ok (.bipush 12, 2) := by decide +kernel
theorem dX5_init_16 : decode cX5_init 16 = .ok (.multianewarray 13 2, 4) := by decide +kernel
theorem dX5_init_20 : decode cX5_init 20 = .ok (.putfield 15, 3) := by decide +kernel
theorem dX5_init_23 : decode cX5_init 23 = .ok (.aload_n 0, 1) := by decide +kernel
theorem dX5_init_24 : decode cX5_init 24 = .ok (.iconst 4, 1) := by decide +kernel
theorem dX5_init_25 : decode cX5_init 25 = .ok (.anewarray 18, 3) := by decide +kernel
theorem dX5_init_28 : decode cX5_init 28 = .ok (.putfield 20, 3) := by decide +kernel
theorem dX5_init_31 : decode cX5_init 31 = .ok (.aload_n 0, 1) := by decide +kernel
theorem dX5_init_32 : decode cX5_init 32 = .ok (.iconst 5, 1) := by decide +kernel
theorem dX5_init_33 : decode cX5_init 33 = .ok (.anewarray 24, 3) := by decide +kernel
theorem dX5_init_36 : decode cX5_init 36 = .ok (.putfield 26, 3) := by decide +kernel
theorem dX5_init_39 : decode cX5_init 39 = .ok (.aload_n 0, 1) := by decide +kernel
theorem dX5_init_40 : decode cX5_init 40 = .ok (.new 30, 3) := by decide +kernel
theorem dX5_init_43 : decode cX5_init 43 = .ok (.dup, 1) := by decide +kernel
theorem dX5_init_44 : decode cX5_init 44 = .ok (.invokespecial 32, 3) := by decide +kernel
theorem dX5_init_47 : decode cX5_init 47 = .ok (.putfield 33, 3) := by decide +kernel
theorem dX5_init_50 : decode cX5_init 50 = .ok (.aload_n 0, 1) := by decide +kernel
theorem dX5_init_51 : decode cX5_init 51 = .ok (.new 37, 3) := by decide +kernel
theorem dX5_init_54 : decode cX5_init 54 = .ok (.dup, 1) := by decide +kernel
theorem dX5_init_55 : decode cX5_init 55 = .ok (.invokespecial 39, 3) := by decide +kernel
theorem dX5_init_58 : decode cX5_init 58 = .ok (.putfield 40, 3) := by decide +kernel
theorem dX5_init_61 : decode cX5_init 61 = .ok (.aload_n 0, 1) := by decide +kernel
theorem dX5_init_62 : decode cX5_init 62 = .ok (.getfield 9, 3) := by decide +kernel
theorem dX5_init_65 : decode cX5_init 65 = .ok (.iconst (-1), 1) := by decide +kernel
theorem dX5_init_66 : decode cX5_init 66 = .ok (.invokestatic 44, 3) := by decide +kernel
theorem dX5_init_69 : decode cX5_init 69 = .ok (.iconst 0, 1) := by decide +kernel
theorem dX5_init_70 : decode cX5_init 70 = .ok (.istore_n 1, 1) := by decide +kernel
theorem dX5_init_71 : decode cX5_init 71 = .ok (.iload_n 1, 1) := by decide +kernel
theorem dX5_init_72 : decode cX5_init 72 = .ok (.iconst 3, 1) := by decide +kernel
theorem dX5_init_73 : decode cX5_init 73 = .ok (.if_icmp .ge 19, 3) := by decide +kernel
theorem dX5_init_76 : decode cX5_init 76 = .ok (.aload_n 0, 1) := by decide +kernel
theorem dX5_init_77 : decode cX5_init 77 = .ok (.getfield 15, 3) := by decide +kernel
theorem dX5_init_80 : decode cX5_init 80 = .ok (.iload_n 1, 1) := by decide +kernel
theorem dX5_init_81 : decode cX5_init 81 = .ok (.aaload, 1) := by decide +kernel
theorem dX5_init_82 : decode cX5_init 82 = .ok (.iconst (-1), 1) := by decide +kernel
theorem dX5_init_83 : decode cX5_init 83 = .ok (.invokestatic 44, 3) := by decide +kernel
theorem dX5_init_86 : decode cX5_init 86 = .ok (.iinc 1 1, 3) := by decide +kernel
theorem dX5_init_89 : decode cX5_init 89 = .ok (.goto (-18), 3) := by decide +kernel
theorem dX5_init_92 : decode cX5_init 92 = .ok (.iconst 0, 1) := by decide +kernel
theorem dX5_init_93 : decode cX5_init 93 = .ok (.istore_n 1, 1) := by decide +kernel
theorem dX5_init_94 : decode cX5_init 94 = .ok (.iload_n 1, 1) := by decide +kernel
theorem dX5_init_95 : decode cX5_init 95 = .ok (.iconst 4, 1) := by decide +kernel
theorem dX5_init_96 : decode cX5_init 96 = .ok (.if_icmp .ge 22, 3) := by decide +kernel
theorem dX5_init_99 : decode cX5_init 99 = .ok (.aload_n 0, 1) := by decide +kernel
theorem dX5_init_100 : decode cX5_init 100 = .ok (.getfield 20, 3) := by decide +kernel
theorem dX5_init_103 : decode cX5_init 103 = .ok (.iload_n 1, 1) := by decide +kernel
theorem dX5_init_104 : decode cX5_init 104 = .ok (.new 18, 3) := by decide +kernel
theorem dX5_init_107 : decode cX5_init 107 = .ok (.dup, 1) := by decide +kernel
theorem dX5_init_108 : decode cX5_init 108 = .ok (.invokespecial 50, 3) := by decide +kernel
theorem dX5_init_111 : decode cX5_init 111 = .ok (.aastore, 1) := by decide +kernel
theorem dX5_init_112 : decode cX5_init 112 = .ok (.iinc 1 1, 3) := by decide +kernel
theorem dX5_init_115 : decode cX5_init 115 = .ok (.goto (-21), 3) := by decide +kernel
theorem dX5_init_118 : decode cX5_init 118 = .ok (.return_, 1) := by decide +kernel
theorem dX5_setFile_0 : decode cX5_setFile 0 = .ok (.iload_n 1, 1) := by decide +kernel
theorem dX5_setFile_1 : decode cX5_setFile 1 = .ok (.bipush 8, 2) := by decide +kernel
theorem dX5_setFile_3 : decode cX5_setFile 3 = .ok (.invokestatic 51, 3) := by decide +kernel
theorem dX5_setFile_6 : decode cX5_setFile 6 = .ok (.iload_n 2, 1) := by decide +kernel
theorem dX5_setFile_7 : decode cX5_setFile 7 = .ok (.invokestatic 55, 3) := by decide +kernel
theorem dX5_setFile_10 : decode cX5_setFile 10 = .ok (.aload_n 0, 1) := by decide +kernel
theorem dX5_setFile_11 : decode cX5_setFile 11 = .ok (.getfield 9, 3) := by decide +kernel
theorem dX5_setFile_14 : decode cX5_setFile 14 = .ok (.iload_n 1, 1) := by decide +kernel
theorem dX5_setFile_15 : decode cX5_setFile 15 = .ok (.iaload, 1) := by decide +kernel
theorem dX5_setFile_16 : decode cX5_setFile 16 = .ok (.istore_n 3, 1) := by decide +kernel
theorem dX5_setFile_17 : decode cX5_setFile 17 = .ok (.aload_n 0, 1) := by decide +kernel
theorem dX5_setFile_18 : decode cX5_setFile 18 = .ok (.getfield 9, 3) := by decide +kernel
theorem dX5_setFile_21 : decode cX5_setFile 21 = .ok (.iload_n 1, 1) := by decide +kernel
theorem dX5_setFile_22 : decode cX5_setFile 22 = .ok (.iload_n 2, 1) := by decide +kernel
theorem dX5_setFile_23 : decode cX5_setFile 23 = .ok (.iastore, 1) := by decide +kernel
theorem dX5_setFile_24 : decode cX5_setFile 24 = .ok (.iload_n 3, 1) := by decide +kernel
theorem dX5_setFile_25 : decode cX5_setFile 25 = .ok (.ireturn, 1) := by decide +kernel
theorem dX5_setBase_0 : decode cX5_setBase 0 = .ok (.iload_n 1, 1) := by decide +kernel
theorem dX5_setBase_1 : decode cX5_setBase 1 = .ok (.iconst 3, 1) := by decide +kernel
theorem dX5_setBase_2 : decode cX5_setBase 2 = .ok (.invokestatic 51, 3) := by decide +kernel
theorem dX5_setBase_5 : decode cX5_setBase 5 = .ok (.iload_n 2, 1) := by decide +kernel
theorem dX5_setBase_6 : decode cX5_setBase 6 = .ok (.bipush 12, 2) := by decide +kernel
theorem dX5_setBase_8 : decode cX5_setBase 8 = .ok (.invokestatic 51, 3) := by decide +kernel
theorem dX5_setBase_11 : decode cX5_setBase 11 = .ok (.iload_n 3, 1) := by decide +kernel
theorem dX5_setBase_12 : decode cX5_setBase 12 = .ok (.invokestatic 55, 3) := by decide +kernel
theorem dX5_setBase_15 : decode cX5_setBase 15 = .ok (.aload_n 0, 1) := by decide +kernel
theorem dX5_setBase_16 : decode cX5_setBase 16 = .ok (.getfield 15, 3) := by decide +kernel
theorem dX5_setBase_19 : decode cX5_setBase 19 = .ok (.iload_n 1, 1) := by decide +kernel
theorem dX5_setBase_20 : decode cX5_setBase 20 = .ok (.aaload, 1) := by decide +kernel
theorem dX5_setBase_21 : decode cX5_setBase 21 = .ok (.iload_n 2, 1) := by decide +kernel
theorem dX5_setBase_22 : decode cX5_setBase 22 = .ok (.iaload, 1) := by decide +kernel
theorem dX5_setBase_23 : decode cX5_setBase 23 = .ok (.istore 4, 2) := by decide +kernel
theorem dX5_setBase_25 : decode cX5_setBase 25 = .ok (.aload_n 0, 1) := by decide +kernel
theorem dX5_setBase_26 : decode cX5_setBase 26 = .ok (.getfield 15, 3) := by decide +kernel
theorem dX5_setBase_29 : decode cX5_setBase 29 = .ok (.iload_n 1, 1) := by decide +kernel
theorem dX5_setBase_30 : decode cX5_setBase 30 = .ok (.aaload, 1) := by decide +kernel
theorem dX5_setBase_31 : decode cX5_setBase 31 = .ok (.iload_n 2, 1) := by decide +kernel
theorem dX5_setBase_32 : decode cX5_setBase 32 = .ok (.iload_n 3, 1) := by decide +kernel
theorem dX5_setBase_33 : decode cX5_setBase 33 = .ok (.iastore, 1) := by decide +kernel
theorem dX5_setBase_34 : decode cX5_setBase 34 = .ok (.iload 4, 2) := by decide +kernel
theorem dX5_setBase_36 : decode cX5_setBase 36 = .ok (.ireturn, 1) := by decide +kernel
theorem dX5_reset_0 : decode cX5_reset 0 = .ok (.aload_n 0, 1) := by decide +kernel
theorem dX5_reset_1 : decode cX5_reset 1 = .ok (.iload_n 1, 1) := by decide +kernel
theorem dX5_reset_2 : decode cX5_reset 2 = .ok (.invokevirtual 59, 3) := by decide +kernel
theorem dX5_reset_5 : decode cX5_reset 5 = .ok (.astore_n 3, 1) := by decide +kernel
theorem dX5_reset_6 : decode cX5_reset 6 = .ok (.iload_n 2, 1) := by decide +kernel
theorem dX5_reset_7 : decode cX5_reset 7 = .ok (.iconst 3, 1) := by decide +kernel
theorem dX5_reset_8 : decode cX5_reset 8 = .ok (.invokestatic 51, 3) := by decide +kernel
theorem dX5_reset_11 : decode cX5_reset 11 = .ok (.aload_n 3, 1) := by decide +kernel
theorem dX5_reset_12 : decode cX5_reset 12 = .ok (.getfield 63, 3) := by decide +kernel
theorem dX5_reset_15 : decode cX5_reset 15 = .ok (.istore 4, 2) := by decide +kernel
theorem dX5_reset_17 : decode cX5_reset 17 = .ok (.aload_n 3, 1) := by decide +kernel
theorem dX5_reset_18 : decode cX5_reset 18 = .ok (.iload_n 2, 1) := by decide +kernel
theorem dX5_reset_19 : decode cX5_reset 19 = .ok (.invokevirtual 67, 3) := by decide +kernel
theorem dX5_reset_22 : decode cX5_reset 22 = .ok (.iload 4, 2) := by decide +kernel
theorem dX5_reset_24 : decode cX5_reset 24 = .ok (.ireturn, 1) := by decide +kernel
theorem dX5_addCopy_0 : decode cX5_addCopy 0 = .ok (.iload_n 1, 1) := by decide +kernel
theorem dX5_addCopy_1 : decode cX5_addCopy 1 = .ok (.iconst 4, 1) := by decide +kernel
theorem dX5_addCopy_2 : decode cX5_addCopy 2 = .ok (.invokestatic 51, 3) := by decide +kernel
theorem dX5_addCopy_5 : decode cX5_addCopy 5 = .ok (.iload_n 2, 1) := by decide +kernel
theorem dX5_addCopy_6 : decode cX5_addCopy 6 = .ok (.bipush 8, 2) := by decide +kernel
theorem dX5_addCopy_8 : decode cX5_addCopy 8 = .ok (.invokestatic 51, 3) := by decide +kernel
theorem dX5_addCopy_11 : decode cX5_addCopy 11 = .ok (.iload_n 3, 1) := by decide +kernel
theorem dX5_addCopy_12 : decode cX5_addCopy 12 = .ok (.bipush 12, 2) := by decide +kernel
theorem dX5_addCopy_14 : decode cX5_addCopy 14 = .ok (.invokestatic 51, 3) := by decide +kernel
theorem dX5_addCopy_17 : decode cX5_addCopy 17 = .ok (.aload_n 0, 1) := by decide +kernel
theorem dX5_addCopy_18 : decode cX5_addCopy 18 = .ok (.iload_n 1, 1) := by decide +kernel
theorem dX5_addCopy_19 : decode cX5_addCopy 19 = .ok (.iconst 0, 1) := by decide +kernel
theorem dX5_addCopy_20 : decode cX5_addCopy 20 = .ok (.iload_n 2, 1) := by decide +kernel
theorem dX5_addCopy_21 : decode cX5_addCopy 21 = .ok (.iload_n 3, 1) := by decide +kernel
theorem dX5_addCopy_22 : decode cX5_addCopy 22 = .ok (.invokevirtual 70, 3) := by decide +kernel
theorem dX5_addCopy_25 : decode cX5_addCopy 25 = .ok (.ireturn, 1) := by decide +kernel
theorem dX5_addRun_0 : decode cX5_addRun 0 = .ok (.iload_n 1, 1) := by decide +kernel
theorem dX5_addRun_1 : decode cX5_addRun 1 = .ok (.iconst 4, 1) := by decide +kernel
theorem dX5_addRun_2 : decode cX5_addRun 2 = .ok (.invokestatic 51, 3) := by decide +kernel
theorem dX5_addRun_5 : decode cX5_addRun 5 = .ok (.iload_n 2, 1) := by decide +kernel
theorem dX5_addRun_6 : decode cX5_addRun 6 = .ok (.bipush 12, 2) := by decide +kernel
theorem dX5_addRun_8 : decode cX5_addRun 8 = .ok (.invokestatic 51, 3) := by decide +kernel
theorem dX5_addRun_11 : decode cX5_addRun 11 = .ok (.iload_n 3, 1) := by decide +kernel
theorem dX5_addRun_12 : decode cX5_addRun 12 = .ok (.iconst 4, 1) := by decide +kernel
theorem dX5_addRun_13 : decode cX5_addRun 13 = .ok (.invokestatic 51, 3) := by decide +kernel
theorem dX5_addRun_16 : decode cX5_addRun 16 = .ok (.aload_n 0, 1) := by decide +kernel
theorem dX5_addRun_17 : decode cX5_addRun 17 = .ok (.iload_n 1, 1) := by decide +kernel
theorem dX5_addRun_18 : decode cX5_addRun 18 = .ok (.iconst 1, 1) := by decide +kernel
theorem dX5_addRun_19 : decode cX5_addRun 19 = .ok (.iload_n 2, 1) := by decide +kernel
theorem dX5_addRun_20 : decode cX5_addRun 20 = .ok (.iload_n 3, 1) := by decide +kernel
theorem dX5_addRun_21 : decode cX5_addRun 21 = .ok (.invokevirtual 70, 3) := by decide +kernel
theorem dX5_addRun_24 : decode cX5_addRun 24 = .ok (.ireturn, 1) := by decide +kernel
theorem dX5_addMove_0 : decode cX5_addMove 0 = .ok (.iload_n 1, 1) := by decide +kernel
theorem dX5_addMove_1 : decode cX5_addMove 1 = .ok (.iconst 4, 1) := by decide +kernel
theorem dX5_addMove_2 : decode cX5_addMove 2 = .ok (.invokestatic 51, 3) := by decide +kernel
theorem dX5_addMove_5 : decode cX5_addMove 5 = .ok (.iload_n 2, 1) := by decide +kernel
theorem dX5_addMove_6 : decode cX5_addMove 6 = .ok (.bipush 12, 2) := by decide +kernel
theorem dX5_addMove_8 : decode cX5_addMove 8 = .ok (.invokestatic 51, 3) := by decide +kernel
theorem dX5_addMove_11 : decode cX5_addMove 11 = .ok (.iload_n 3, 1) := by decide +kernel
theorem dX5_addMove_12 : decode cX5_addMove 12 = .ok (.bipush 12, 2) := by decide +kernel
theorem dX5_addMove_14 : decode cX5_addMove 14 = .ok (.invokestatic 51, 3) := by decide +kernel
theorem dX5_addMove_17 : decode cX5_addMove 17 = .ok (.iload_n 2, 1) := by decide +kernel
theorem dX5_addMove_18 : decode cX5_addMove 18 = .ok (.iload_n 3, 1) := by decide +kernel
theorem dX5_addMove_19 : decode cX5_addMove 19 = .ok (.if_icmp .ne 13, 3) := by decide +kernel
theorem dX5_addMove_22 : decode cX5_addMove 22 = .ok (.new 74, 3) := by decide +kernel
theorem dX5_addMove_25 : decode cX5_addMove 25 = .ok (.dup, 1) := by decide +kernel
theorem dX5_addMove_26 : decode cX5_addMove 26 = .ok (.ldc 76, 2) := by decide +kernel
theorem dX5_addMove_28 : decode cX5_addMove 28 = .ok (.invokespecial 78, 3) := by decide +kernel
theorem dX5_addMove_31 : decode cX5_addMove 31 = .ok (.athrow, 1) := by decide +kernel
theorem dX5_addMove_32 : decode cX5_addMove 32 = .ok (.aload_n 0, 1) := by decide +kernel
theorem dX5_addMove_33 : decode cX5_addMove 33 = .ok (.iload_n 1, 1) := by decide +kernel
theorem dX5_addMove_34 : decode cX5_addMove 34 = .ok (.iconst 2, 1) := by decide +kernel
theorem dX5_addMove_35 : decode cX5_addMove 35 = .ok (.iload_n 2, 1) := by decide +kernel
theorem dX5_addMove_36 : decode cX5_addMove 36 = .ok (.iload_n 3, 1) := by decide +kernel
theorem dX5_addMove_37 : decode cX5_addMove 37 = .ok (.invokevirtual 70, 3) := by decide +kernel
theorem dX5_addMove_40 : decode cX5_addMove 40 = .ok (.ireturn, 1) := by decide +kernel
theorem dX5_addRemove_0 : decode cX5_addRemove 0 = .ok (.iload_n 1, 1) := by decide +kernel
theorem dX5_addRemove_1 : decode cX5_addRemove 1 = .ok (.iconst 4, 1) := by decide +kernel
theorem dX5_addRemove_2 : decode cX5_addRemove 2 = .ok (.invokestatic 51, 3) := by decide +kernel
theorem dX5_addRemove_5 : decode cX5_addRemove 5 = .ok (.iload_n 2, 1) := by decide +kernel
theorem dX5_addRemove_6 : decode cX5_addRemove 6 = .ok (.bipush 12, 2) := by decide +kernel
theorem dX5_addRemove_8 : decode cX5_addRemove 8 = .ok (.invokestatic 51, 3) := by decide +kernel
theorem dX5_addRemove_11 : decode cX5_addRemove 11 = .ok (.aload_n 0, 1) := by decide +kernel
theorem dX5_addRemove_12 : decode cX5_addRemove 12 = .ok (.iload_n 1, 1) := by decide +kernel
theorem dX5_addRemove_13 : decode cX5_addRemove 13 = .ok (.iconst 3, 1) := by decide +kernel
theorem dX5_addRemove_14 : decode cX5_addRemove 14 = .ok (.iload_n 2, 1) := by decide +kernel
theorem dX5_addRemove_15 : decode cX5_addRemove 15 = .ok (.iconst (-1), 1) := by decide +kernel
theorem dX5_addRemove_16 : decode cX5_addRemove 16 = .ok (.invokevirtual 70, 3) := by decide +kernel
theorem dX5_addRemove_19 : decode cX5_addRemove 19 = .ok (.ireturn, 1) := by decide +kernel
theorem dX5_addSet_0 : decode cX5_addSet 0 = .ok (.iload_n 1, 1) := by decide +kernel
theorem dX5_addSet_1 : decode cX5_addSet 1 = .ok (.iconst 4, 1) := by decide +kernel
theorem dX5_addSet_2 : decode cX5_addSet 2 = .ok (.invokestatic 51, 3) := by decide +kernel
theorem dX5_addSet_5 : decode cX5_addSet 5 = .ok (.iload_n 2, 1) := by decide +kernel
theorem dX5_addSet_6 : decode cX5_addSet 6 = .ok (.iconst 4, 1) := by decide +kernel
theorem dX5_addSet_7 : decode cX5_addSet 7 = .ok (.invokestatic 51, 3) := by decide +kernel
theorem dX5_addSet_10 : decode cX5_addSet 10 = .ok (.iload_n 3, 1) := by decide +kernel
theorem dX5_addSet_11 : decode cX5_addSet 11 = .ok (.ifCond .lt 10, 3) := by decide +kernel
theorem dX5_addSet_14 : decode cX5_addSet 14 = .ok (.iload_n 3, 1) := by decide +kernel
theorem dX5_addSet_15 : decode cX5_addSet 15 = .ok (.sipush 999, 3) := by decide +kernel
theorem dX5_addSet_18 : decode cX5_addSet 18 = .ok (.if_icmp .le 13, 3) := by decide +kernel
theorem dX5_addSet_21 : decode cX5_addSet 21 = .ok (.new 74, 3) := by decide +kernel
theorem dX5_addSet_24 : decode cX5_addSet 24 = .ok (.dup, 1) := by decide +kernel
theorem dX5_addSet_25 : decode cX5_addSet 25 = .ok (.ldc 81, 2) := by decide +kernel
theorem dX5_addSet_27 : decode cX5_addSet 27 = .ok (.invokespecial 78, 3) := by decide +kernel
theorem dX5_addSet_30 : decode cX5_addSet 30 = .ok (.athrow, 1) := by decide +kernel
theorem dX5_addSet_31 : decode cX5_addSet 31 = .ok (.aload_n 0, 1) := by decide +kernel
theorem dX5_addSet_32 : decode cX5_addSet 32 = .ok (.iload_n 1, 1) := by decide +kernel
theorem dX5_addSet_33 : decode cX5_addSet 33 = .ok (.iconst 4, 1) := by decide +kernel
theorem dX5_addSet_34 : decode cX5_addSet 34 = .ok (.iload_n 2, 1) := by decide +kernel
theorem dX5_addSet_35 : decode cX5_addSet 35 = .ok (.iload_n 3, 1) := by decide +kernel
theorem dX5_addSet_36 : decode cX5_addSet 36 = .ok (.invokevirtual 70, 3) := by decide +kernel
theorem dX5_addSet_39 : decode cX5_addSet 39 = .ok (.ireturn, 1) := by decide +kernel
theorem dX5_drop_0 : decode cX5_drop 0 = .ok (.aload_n 0, 1) := by decide +kernel
theorem dX5_drop_1 : decode cX5_drop 1 = .ok (.iload_n 1, 1) := by decide +kernel
theorem dX5_drop_2 : decode cX5_drop 2 = .ok (.invokevirtual 59, 3) := by decide +kernel
theorem dX5_drop_5 : decode cX5_drop 5 = .ok (.astore_n 3, 1) := by decide +kernel
theorem dX5_drop_6 : decode cX5_drop 6 = .ok (.iload_n 2, 1) := by decide +kernel
theorem dX5_drop_7 : decode cX5_drop 7 = .ok (.aload_n 3, 1) := by decide +kernel
theorem dX5_drop_8 : decode cX5_drop 8 = .ok (.getfield 63, 3) := by decide +kernel
theorem dX5_drop_11 : decode cX5_drop 11 = .ok (.invokestatic 51, 3) := by decide +kernel
theorem dX5_drop_14 : decode cX5_drop 14 = .ok (.aload_n 3, 1) := by decide +kernel
theorem dX5_drop_15 : decode cX5_drop 15 = .ok (.iload_n 2, 1) := by decide +kernel
theorem dX5_drop_16 : decode cX5_drop 16 = .ok (.invokevirtual 83, 3) := by decide +kernel
theorem dX5_drop_19 : decode cX5_drop 19 = .ok (.aload_n 3, 1) := by decide +kernel
theorem dX5_drop_20 : decode cX5_drop 20 = .ok (.getfield 63, 3) := by decide +kernel
theorem dX5_drop_23 : decode cX5_drop 23 = .ok (.ireturn, 1) := by decide +kernel
theorem dX5_instructions_0 : decode cX5_instructions 0 = .ok (.aload_n 0, 1) := by decide +kernel
theorem dX5_instructions_1 : decode cX5_instructions 1 = .ok (.iload_n 1, 1) := by decide +kernel
theorem dX5_instructions_2 : decode cX5_instructions 2 = .ok (.invokevirtual 59, 3) := by decide +kernel
theorem dX5_instructions_5 : decode cX5_instructions 5 = .ok (.getfield 63, 3) := by decide +kernel
theorem dX5_instructions_8 : decode cX5_instructions 8 = .ok (.ireturn, 1) := by decide +kernel
theorem dX5_start_0 : decode cX5_start 0 = .ok (.aload_n 0, 1) := by decide +kernel
theorem dX5_start_1 : decode cX5_start 1 = .ok (.iload_n 1, 1) := by decide +kernel
theorem dX5_start_2 : decode cX5_start 2 = .ok (.invokevirtual 59, 3) := by decide +kernel
theorem dX5_start_5 : decode cX5_start 5 = .ok (.astore_n 2, 1) := by decide +kernel
theorem dX5_start_6 : decode cX5_start 6 = .ok (.aload_n 0, 1) := by decide +kernel
theorem dX5_start_7 : decode cX5_start 7 = .ok (.invokevirtual 86, 3) := by decide +kernel
theorem dX5_start_10 : decode cX5_start 10 = .ok (.aload_n 0, 1) := by decide +kernel
theorem dX5_start_11 : decode cX5_start 11 = .ok (.invokevirtual 89, 3) := by decide +kernel
theorem dX5_start_14 : decode cX5_start 14 = .ok (.aload_n 0, 1) := by decide +kernel
theorem dX5_start_15 : decode cX5_start 15 = .ok (.aload_n 2, 1) := by decide +kernel
theorem dX5_start_16 : decode cX5_start 16 = .ok (.getfield 92, 3) := by decide +kernel
theorem dX5_start_19 : decode cX5_start 19 = .ok (.invokevirtual 95, 3) := by decide +kernel
theorem dX5_start_22 : decode cX5_start 22 = .ok (.astore_n 3, 1) := by decide +kernel
theorem dX5_start_23 : decode cX5_start 23 = .ok (.aload_n 0, 1) := by decide +kernel
theorem dX5_start_24 : decode cX5_start 24 = .ok (.getfield 40, 3) := by decide +kernel
theorem dX5_start_27 : decode cX5_start 27 = .ok (.aload_n 2, 1) := by decide +kernel
theorem dX5_start_28 : decode cX5_start 28 = .ok (.aload_n 3, 1) := by decide +kernel
theorem dX5_start_29 : decode cX5_start 29 = .ok (.invokevirtual 99, 3) := by decide +kernel
theorem dX5_start_32 : decode cX5_start 32 = .ok (.aload_n 3, 1) := by decide +kernel
theorem dX5_start_33 : decode cX5_start 33 = .ok (.getfield 103, 3) := by decide +kernel
theorem dX5_start_36 : decode cX5_start 36 = .ok (.ireturn, 1) := by decide +kernel
theorem dX5_step_0 : decode cX5_step 0 = .ok (.aload_n 0, 1) := by decide +kernel
theorem dX5_step_1 : decode cX5_step 1 = .ok (.getfield 40, 3) := by decide +kernel
theorem dX5_step_4 : decode cX5_step 4 = .ok (.invokevirtual 106, 3) := by decide +kernel
theorem dX5_step_7 : decode cX5_step 7 = .ok (.astore_n 1, 1) := by decide +kernel
theorem dX5_step_8 : decode cX5_step 8 = .ok (.aload_n 0, 1) := by decide +kernel
theorem dX5_step_9 : decode cX5_step 9 = .ok (.getfield 40, 3) := by decide +kernel
theorem dX5_step_12 : decode cX5_step 12 = .ok (.getfield 110, 3) := by decide +kernel
theorem dX5_step_15 : decode cX5_step 15 = .ok (.astore_n 2, 1) := by decide +kernel
theorem dX5_step_16 : decode cX5_step 16 = .ok (.aload_n 1, 1) := by decide +kernel
theorem dX5_step_17 : decode cX5_step 17 = .ok (.ifnull 7, 3) := by decide +kernel
theorem dX5_step_20 : decode cX5_step 20 = .ok (.aload_n 2, 1) := by decide +kernel
theorem dX5_step_21 : decode cX5_step 21 = .ok (.ifnonnull 13, 3) := by decide +kernel
theorem dX5_step_24 : decode cX5_step 24 = .ok (.new 114, 3) := by decide +kernel
theorem dX5_step_27 : decode cX5_step 27 = .ok (.dup, 1) := by decide +kernel
theorem dX5_step_28 : decode cX5_step 28 = .ok (.ldc 116, 2) := by decide +kernel
theorem dX5_step_30 : decode cX5_step 30 = .ok (.invokespecial 118, 3) := by decide +kernel
theorem dX5_step_33 : decode cX5_step 33 = .ok (.athrow, 1) := by decide +kernel
theorem dX5_step_34 : decode cX5_step 34 = .ok (.aload_n 1, 1) := by decide +kernel
theorem dX5_step_35 : decode cX5_step 35 = .ok (.aload_n 0, 1) := by decide +kernel
theorem dX5_step_36 : decode cX5_step 36 = .ok (.getfield 9, 3) := by decide +kernel
theorem dX5_step_39 : decode cX5_step 39 = .ok (.invokevirtual 119, 3) := by decide +kernel
theorem dX5_step_42 : decode cX5_step 42 = .ok (.istore_n 3, 1) := by decide +kernel
theorem dX5_step_43 : decode cX5_step 43 = .ok (.aload_n 1, 1) := by decide +kernel
theorem dX5_step_44 : decode cX5_step 44 = .ok (.aload_n 2, 1) := by decide +kernel
theorem dX5_step_45 : decode cX5_step 45 = .ok (.iload_n 3, 1) := by decide +kernel
theorem dX5_step_46 : decode cX5_step 46 = .ok (.invokevirtual 125, 3) := by decide +kernel
theorem dX5_step_49 : decode cX5_step 49 = .ok (.ifCond .eq 12, 3) := by decide +kernel
theorem dX5_step_52 : decode cX5_step 52 = .ok (.aload_n 0, 1) := by decide +kernel
theorem dX5_step_53 : decode cX5_step 53 = .ok (.getfield 40, 3) := by decide +kernel
theorem dX5_step_56 : decode cX5_step 56 = .ok (.invokevirtual 129, 3) := by decide +kernel
theorem dX5_step_59 : decode cX5_step 59 = .ok (.iconst (-1), 1) := by decide +kernel
theorem dX5_step_60 : decode cX5_step 60 = .ok (.ireturn, 1) := by decide +kernel
theorem dX5_step_61 : decode cX5_step 61 = .ok (.aload_n 0, 1) := by decide +kernel
theorem dX5_step_62 : decode cX5_step 62 = .ok (.aload_n 2, 1) := by decide +kernel
theorem dX5_step_63 : decode cX5_step 63 = .ok (.aload_n 1, 1) := by decide +kernel
theorem dX5_step_64 : decode cX5_step 64 = .ok (.iload_n 3, 1) := by decide +kernel
theorem dX5_step_65 : decode cX5_step 65 = .ok (.invokevirtual 132, 3) := by decide +kernel
theorem dX5_step_68 : decode cX5_step 68 = .ok (.astore 4, 2) := by decide +kernel
theorem dX5_step_70 : decode cX5_step 70 = .ok (.aload_n 0, 1) := by decide +kernel
theorem dX5_step_71 : decode cX5_step 71 = .ok (.getfield 40, 3) := by decide +kernel
theorem dX5_step_74 : decode cX5_step 74 = .ok (.aload 4, 2) := by decide +kernel
theorem dX5_step_76 : decode cX5_step 76 = .ok (.invokevirtual 136, 3) := by decide +kernel
theorem dX5_step_79 : decode cX5_step 79 = .ok (.aload 4, 2) := by decide +kernel
theorem dX5_step_81 : decode cX5_step 81 = .ok (.getfield 103, 3) := by decide +kernel
theorem dX5_step_84 : decode cX5_step 84 = .ok (.ireturn, 1) := by decide +kernel
theorem dX5_build_0 : decode cX5_build 0 = .ok (.aload_n 0, 1) := by decide +kernel
theorem dX5_build_1 : decode cX5_build 1 = .ok (.iload_n 1, 1) := by decide +kernel
theorem dX5_build_2 : decode cX5_build 2 = .ok (.invokevirtual 140, 3) := by decide +kernel
theorem dX5_build_5 : decode cX5_build 5 = .ok (.pop, 1) := by decide +kernel
theorem dX5_build_6 : decode cX5_build 6 = .ok (.iconst 0, 1) := by decide +kernel
theorem dX5_build_7 : decode cX5_build 7 = .ok (.istore_n 2, 1) := by decide +kernel
theorem dX5_build_8 : decode cX5_build 8 = .ok (.iload_n 2, 1) := by decide +kernel
theorem dX5_build_9 : decode cX5_build 9 = .ok (.bipush 10, 2) := by decide +kernel
theorem dX5_build_11 : decode cX5_build 11 = .ok (.if_icmp .ge 24, 3) := by decide +kernel
theorem dX5_build_14 : decode cX5_build 14 = .ok (.aload_n 0, 1) := by decide +kernel
theorem dX5_build_15 : decode cX5_build 15 = .ok (.getfield 40, 3) := by decide +kernel
theorem dX5_build_18 : decode cX5_build 18 = .ok (.invokevirtual 144, 3) := by decide +kernel
theorem dX5_build_21 : decode cX5_build 21 = .ok (.ifCond .eq 14, 3) := by decide +kernel
theorem dX5_build_24 : decode cX5_build 24 = .ok (.aload_n 0, 1) := by decide +kernel
theorem dX5_build_25 : decode cX5_build 25 = .ok (.invokevirtual 148, 3) := by decide +kernel
theorem dX5_build_28 : decode cX5_build 28 = .ok (.pop, 1) := by decide +kernel
theorem dX5_build_29 : decode cX5_build 29 = .ok (.iinc 2 1, 3) := by decide +kernel
theorem dX5_build_32 : decode cX5_build 32 = .ok (.goto (-24), 3) := by decide +kernel
theorem dX5_build_35 : decode cX5_build 35 = .ok (.aload_n 0, 1) := by decide +kernel
theorem dX5_build_36 : decode cX5_build 36 = .ok (.invokevirtual 152, 3) := by decide +kernel
theorem dX5_build_39 : decode cX5_build 39 = .ok (.ireturn, 1) := by decide +kernel
theorem dX5_stepsLeft_0 : decode cX5_stepsLeft 0 = .ok (.aload_n 0, 1) := by decide +kernel
theorem dX5_stepsLeft_1 : decode cX5_stepsLeft 1 = .ok (.getfield 40, 3) := by decide +kernel
theorem dX5_stepsLeft_4 : decode cX5_stepsLeft 4 = .ok (.invokevirtual 155, 3) := by decide +kernel
theorem dX5_stepsLeft_7 : decode cX5_stepsLeft 7 = .ok (.ireturn, 1) := by decide +kernel
theorem dX5_built_0 : decode cX5_built 0 = .ok (.aload_n 0, 1) := by decide +kernel
theorem dX5_built_1 : decode cX5_built 1 = .ok (.getfield 40, 3) := by decide +kernel
theorem dX5_built_4 : decode cX5_built 4 = .ok (.invokevirtual 158, 3) := by decide +kernel
theorem dX5_built_7 : decode cX5_built 7 = .ok (.invokestatic 162, 3) := by decide +kernel
theorem dX5_built_10 : decode cX5_built 10 = .ok (.ireturn, 1) := by decide +kernel
theorem dX5_hits_0 : decode cX5_hits 0 = .ok (.aload_n 0, 1) := by decide +kernel
theorem dX5_hits_1 : decode cX5_hits 1 = .ok (.getfield 166, 3) := by decide +kernel
theorem dX5_hits_4 : decode cX5_hits 4 = .ok (.ireturn, 1) := by decide +kernel
theorem dX5_misses_0 : decode cX5_misses 0 = .ok (.aload_n 0, 1) := by decide +kernel
theorem dX5_misses_1 : decode cX5_misses 1 = .ok (.getfield 169, 3) := by decide +kernel
theorem dX5_misses_4 : decode cX5_misses 4 = .ok (.ireturn, 1) := by decide +kernel
theorem dX5_cleanDigest_0 : decode cX5_cleanDigest 0 = .ok (.aload_n 0, 1) := by decide +kernel
theorem dX5_cleanDigest_1 : decode cX5_cleanDigest 1 = .ok (.iload_n 1, 1) := by decide +kernel
theorem dX5_cleanDigest_2 : decode cX5_cleanDigest 2 = .ok (.invokevirtual 59, 3) := by decide +kernel
theorem dX5_cleanDigest_5 : decode cX5_cleanDigest 5 = .ok (.astore_n 2, 1) := by decide +kernel
theorem dX5_cleanDigest_6 : decode cX5_cleanDigest 6 = .ok (.new 24, 3) := by decide +kernel
theorem dX5_cleanDigest_9 : decode cX5_cleanDigest 9 = .ok (.dup, 1) := by decide +kernel
theorem dX5_cleanDigest_10 : decode cX5_cleanDigest 10 = .ok (.iconst (-1), 1) := by decide +kernel
theorem dX5_cleanDigest_11 : decode cX5_cleanDigest 11 = .ok (.aload_n 0, 1) := by decide +kernel
theorem dX5_cleanDigest_12 : decode cX5_cleanDigest 12 = .ok (.aload_n 2, 1) := by decide +kernel
theorem dX5_cleanDigest_13 : decode cX5_cleanDigest 13 = .ok (.getfield 92, 3) := by decide +kernel
theorem dX5_cleanDigest_16 : decode cX5_cleanDigest 16 = .ok (.invokevirtual 172, 3) := by decide +kernel
theorem dX5_cleanDigest_19 : decode cX5_cleanDigest 19 = .ok (.invokespecial 176, 3) := by decide +kernel
theorem dX5_cleanDigest_22 : decode cX5_cleanDigest 22 = .ok (.astore_n 3, 1) := by decide +kernel
theorem dX5_cleanDigest_23 : decode cX5_cleanDigest 23 = .ok (.iconst 0, 1) := by decide +kernel
theorem dX5_cleanDigest_24 : decode cX5_cleanDigest 24 = .ok (.istore 4, 2) := by decide +kernel
theorem dX5_cleanDigest_26 : decode cX5_cleanDigest 26 = .ok (.iload 4, 2) := by decide +kernel
theorem dX5_cleanDigest_28 : decode cX5_cleanDigest 28 = .ok (.aload_n 2, 1) := by decide +kernel
theorem dX5_cleanDigest_29 : decode cX5_cleanDigest 29 = .ok (.getfield 63, 3) := by decide +kernel
theorem dX5_cleanDigest_32 : decode cX5_cleanDigest 32 = .ok (.if_icmp .ge 56, 3) := by decide +kernel
theorem dX5_cleanDigest_35 : decode cX5_cleanDigest 35 = .ok (.aload_n 2, 1) := by decide +kernel
theorem dX5_cleanDigest_36 : decode cX5_cleanDigest 36 = .ok (.iload 4, 2) := by decide +kernel
theorem dX5_cleanDigest_38 : decode cX5_cleanDigest 38 = .ok (.invokevirtual 179, 3) := by decide +kernel
theorem dX5_cleanDigest_41 : decode cX5_cleanDigest 41 = .ok (.astore 5, 2) := by decide +kernel
theorem dX5_cleanDigest_43 : decode cX5_cleanDigest 43 = .ok (.aload 5, 2) := by decide +kernel
theorem dX5_cleanDigest_45 : decode cX5_cleanDigest 45 = .ok (.ifnonnull 5, 3) := by decide +kernel
theorem dX5_cleanDigest_48 : decode cX5_cleanDigest 48 = .ok (.iconst (-1), 1) := by decide +kernel
theorem dX5_cleanDigest_49 : decode cX5_cleanDigest 49 = .ok (.ireturn, 1) := by decide +kernel
theorem dX5_cleanDigest_50 : decode cX5_cleanDigest 50 = .ok (.aload 5, 2) := by decide +kernel
theorem dX5_cleanDigest_52 : decode cX5_cleanDigest 52 = .ok (.aload_n 0, 1) := by decide +kernel
theorem dX5_cleanDigest_53 : decode cX5_cleanDigest 53 = .ok (.getfield 9, 3) := by decide +kernel
theorem dX5_cleanDigest_56 : decode cX5_cleanDigest 56 = .ok (.invokevirtual 119, 3) := by decide +kernel
theorem dX5_cleanDigest_59 : decode cX5_cleanDigest 59 = .ok (.istore 6, 2) := by decide +kernel
theorem dX5_cleanDigest_61 : decode cX5_cleanDigest 61 = .ok (.aload 5, 2) := by decide +kernel
theorem dX5_cleanDigest_63 : decode cX5_cleanDigest 63 = .ok (.aload_n 3, 1) := by decide +kernel
theorem dX5_cleanDigest_64 : decode cX5_cleanDigest 64 = .ok (.iload 6, 2) := by decide +kernel
theorem dX5_cleanDigest_66 : decode cX5_cleanDigest 66 = .ok (.invokevirtual 125, 3) := by decide +kernel
theorem dX5_cleanDigest_69 : decode cX5_cleanDigest 69 = .ok (.ifCond .eq 5, 3) := by decide +kernel
theorem dX5_cleanDigest_72 : decode cX5_cleanDigest 72 = .ok (.iconst (-1), 1) := by decide +kernel
theorem dX5_cleanDigest_73 : decode cX5_cleanDigest 73 = .ok (.ireturn, 1) := by decide +kernel
theorem dX5_cleanDigest_74 : decode cX5_cleanDigest 74 = .ok (.aload 5, 2) := by decide +kernel
theorem dX5_cleanDigest_76 : decode cX5_cleanDigest 76 = .ok (.aload_n 3, 1) := by decide +kernel
theorem dX5_cleanDigest_77 : decode cX5_cleanDigest 77 = .ok (.iload 6, 2) := by decide +kernel
theorem dX5_cleanDigest_79 : decode cX5_cleanDigest 79 = .ok (.invokevirtual 183, 3) := by decide +kernel
theorem dX5_cleanDigest_82 : decode cX5_cleanDigest 82 = .ok (.iinc 4 1, 3) := by decide +kernel
theorem dX5_cleanDigest_85 : decode cX5_cleanDigest 85 = .ok (.goto (-59), 3) := by decide +kernel
theorem dX5_cleanDigest_88 : decode cX5_cleanDigest 88 = .ok (.aload_n 3, 1) := by decide +kernel
theorem dX5_cleanDigest_89 : decode cX5_cleanDigest 89 = .ok (.invokevirtual 187, 3) := by decide +kernel
theorem dX5_cleanDigest_92 : decode cX5_cleanDigest 92 = .ok (.ireturn, 1) := by decide +kernel
theorem dX5_tag_0 : decode cX5_tag 0 = .ok (.iload_n 1, 1) := by decide +kernel
theorem dX5_tag_1 : decode cX5_tag 1 = .ok (.iconst 5, 1) := by decide +kernel
theorem dX5_tag_2 : decode cX5_tag 2 = .ok (.invokestatic 51, 3) := by decide +kernel
theorem dX5_tag_5 : decode cX5_tag 5 = .ok (.aload_n 0, 1) := by decide +kernel
theorem dX5_tag_6 : decode cX5_tag 6 = .ok (.getfield 40, 3) := by decide +kernel
theorem dX5_tag_9 : decode cX5_tag 9 = .ok (.invokevirtual 158, 3) := by decide +kernel
theorem dX5_tag_12 : decode cX5_tag 12 = .ok (.astore_n 2, 1) := by decide +kernel
theorem dX5_tag_13 : decode cX5_tag 13 = .ok (.aload_n 2, 1) := by decide +kernel
theorem dX5_tag_14 : decode cX5_tag 14 = .ok (.ifnonnull 13, 3) := by decide +kernel
theorem dX5_tag_17 : decode cX5_tag 17 = .ok (.new 114, 3) := by decide +kernel
theorem dX5_tag_20 : decode cX5_tag 20 = .ok (.dup, 1) := by decide +kernel
theorem dX5_tag_21 : decode cX5_tag 21 = .ok (.ldc 190, 2) := by decide +kernel
theorem dX5_tag_23 : decode cX5_tag 23 = .ok (.invokespecial 118, 3) := by decide +kernel
theorem dX5_tag_26 : decode cX5_tag 26 = .ok (.athrow, 1) := by decide +kernel
theorem dX5_tag_27 : decode cX5_tag 27 = .ok (.aload_n 0, 1) := by decide +kernel
theorem dX5_tag_28 : decode cX5_tag 28 = .ok (.getfield 26, 3) := by decide +kernel
theorem dX5_tag_31 : decode cX5_tag 31 = .ok (.iload_n 1, 1) := by decide +kernel
theorem dX5_tag_32 : decode cX5_tag 32 = .ok (.aaload, 1) := by decide +kernel
theorem dX5_tag_33 : decode cX5_tag 33 = .ok (.invokestatic 162, 3) := by decide +kernel
theorem dX5_tag_36 : decode cX5_tag 36 = .ok (.istore_n 3, 1) := by decide +kernel
theorem dX5_tag_37 : decode cX5_tag 37 = .ok (.aload_n 0, 1) := by decide +kernel
theorem dX5_tag_38 : decode cX5_tag 38 = .ok (.getfield 26, 3) := by decide +kernel
theorem dX5_tag_41 : decode cX5_tag 41 = .ok (.iload_n 1, 1) := by decide +kernel
theorem dX5_tag_42 : decode cX5_tag 42 = .ok (.aload_n 2, 1) := by decide +kernel
theorem dX5_tag_43 : decode cX5_tag 43 = .ok (.aastore, 1) := by decide +kernel
theorem dX5_tag_44 : decode cX5_tag 44 = .ok (.iload_n 3, 1) := by decide +kernel
theorem dX5_tag_45 : decode cX5_tag 45 = .ok (.ireturn, 1) := by decide +kernel
theorem dX5_untag_0 : decode cX5_untag 0 = .ok (.iload_n 1, 1) := by decide +kernel
theorem dX5_untag_1 : decode cX5_untag 1 = .ok (.iconst 5, 1) := by decide +kernel
theorem dX5_untag_2 : decode cX5_untag 2 = .ok (.invokestatic 51, 3) := by decide +kernel
theorem dX5_untag_5 : decode cX5_untag 5 = .ok (.aload_n 0, 1) := by decide +kernel
theorem dX5_untag_6 : decode cX5_untag 6 = .ok (.getfield 26, 3) := by decide +kernel
theorem dX5_untag_9 : decode cX5_untag 9 = .ok (.iload_n 1, 1) := by decide +kernel
theorem dX5_untag_10 : decode cX5_untag 10 = .ok (.aaload, 1) := by decide +kernel
theorem dX5_untag_11 : decode cX5_untag 11 = .ok (.invokestatic 162, 3) := by decide +kernel
theorem dX5_untag_14 : decode cX5_untag 14 = .ok (.istore_n 2, 1) := by decide +kernel
theorem dX5_untag_15 : decode cX5_untag 15 = .ok (.aload_n 0, 1) := by decide +kernel
theorem dX5_untag_16 : decode cX5_untag 16 = .ok (.getfield 26, 3) := by decide +kernel
theorem dX5_untag_19 : decode cX5_untag 19 = .ok (.iload_n 1, 1) := by decide +kernel
theorem dX5_untag_20 : decode cX5_untag 20 = .ok (.aconst_null, 1) := by decide +kernel
theorem dX5_untag_21 : decode cX5_untag 21 = .ok (.aastore, 1) := by decide +kernel
theorem dX5_untag_22 : decode cX5_untag 22 = .ok (.iload_n 2, 1) := by decide +kernel
theorem dX5_untag_23 : decode cX5_untag 23 = .ok (.ireturn, 1) := by decide +kernel
theorem dX5_tagged_0 : decode cX5_tagged 0 = .ok (.iload_n 1, 1) := by decide +kernel
theorem dX5_tagged_1 : decode cX5_tagged 1 = .ok (.iconst 5, 1) := by decide +kernel
theorem dX5_tagged_2 : decode cX5_tagged 2 = .ok (.invokestatic 51, 3) := by decide +kernel
theorem dX5_tagged_5 : decode cX5_tagged 5 = .ok (.aload_n 0, 1) := by decide +kernel
theorem dX5_tagged_6 : decode cX5_tagged 6 = .ok (.getfield 26, 3) := by decide +kernel
theorem dX5_tagged_9 : decode cX5_tagged 9 = .ok (.iload_n 1, 1) := by decide +kernel
theorem dX5_tagged_10 : decode cX5_tagged 10 = .ok (.aaload, 1) := by decide +kernel
theorem dX5_tagged_11 : decode cX5_tagged 11 = .ok (.invokestatic 162, 3) := by decide +kernel
theorem dX5_tagged_14 : decode cX5_tagged 14 = .ok (.ireturn, 1) := by decide +kernel
theorem dX5_squash_0 : decode cX5_squash 0 = .ok (.iload_n 1, 1) := by decide +kernel
theorem dX5_squash_1 : decode cX5_squash 1 = .ok (.iconst 5, 1) := by decide +kernel
theorem dX5_squash_2 : decode cX5_squash 2 = .ok (.invokestatic 51, 3) := by decide +kernel
theorem dX5_squash_5 : decode cX5_squash 5 = .ok (.aload_n 0, 1) := by decide +kernel
theorem dX5_squash_6 : decode cX5_squash 6 = .ok (.getfield 26, 3) := by decide +kernel
theorem dX5_squash_9 : decode cX5_squash 9 = .ok (.iload_n 1, 1) := by decide +kernel
theorem dX5_squash_10 : decode cX5_squash 10 = .ok (.aaload, 1) := by decide +kernel
theorem dX5_squash_11 : decode cX5_squash 11 = .ok (.astore_n 3, 1) := by decide +kernel
theorem dX5_squash_12 : decode cX5_squash 12 = .ok (.iload_n 2, 1) := by decide +kernel
theorem dX5_squash_13 : decode cX5_squash 13 = .ok (.iconst 1, 1) := by decide +kernel
theorem dX5_squash_14 : decode cX5_squash 14 = .ok (.if_icmp .lt 15, 3) := by decide +kernel
theorem dX5_squash_17 : decode cX5_squash 17 = .ok (.aload_n 3, 1) := by decide +kernel
theorem dX5_squash_18 : decode cX5_squash 18 = .ok (.ifnull 21, 3) := by decide +kernel
theorem dX5_squash_21 : decode cX5_squash 21 = .ok (.iload_n 2, 1) := by decide +kernel
theorem dX5_squash_22 : decode cX5_squash 22 = .ok (.aload_n 3, 1) := by decide +kernel
theorem dX5_squash_23 : decode cX5_squash 23 = .ok (.getfield 192, 3) := by decide +kernel
theorem dX5_squash_26 : decode cX5_squash 26 = .ok (.if_icmp .le 13, 3) := by decide +kernel
theorem dX5_squash_29 : decode cX5_squash 29 = .ok (.new 195, 3) := by decide +kernel
theorem dX5_squash_32 : decode cX5_squash 32 = .ok (.dup, 1) := by decide +kernel
theorem dX5_squash_33 : decode cX5_squash 33 = .ok (.ldc 197, 2) := by decide +kernel
theorem dX5_squash_35 : decode cX5_squash 35 = .ok (.invokespecial 199, 3) := by decide +kernel
theorem dX5_squash_38 : decode cX5_squash 38 = .ok (.athrow, 1) := by decide +kernel
theorem dX5_squash_39 : decode cX5_squash 39 = .ok (.aload_n 3, 1) := by decide +kernel
theorem dX5_squash_40 : decode cX5_squash 40 = .ok (.ifnonnull 13, 3) := by decide +kernel
theorem dX5_squash_43 : decode cX5_squash 43 = .ok (.new 114, 3) := by decide +kernel
theorem dX5_squash_46 : decode cX5_squash 46 = .ok (.dup, 1) := by decide +kernel
theorem dX5_squash_47 : decode cX5_squash 47 = .ok (.ldc 200, 2) := by decide +kernel
theorem dX5_squash_49 : decode cX5_squash 49 = .ok (.invokespecial 118, 3) := by decide +kernel
theorem dX5_squash_52 : decode cX5_squash 52 = .ok (.athrow, 1) := by decide +kernel
theorem dX5_squash_53 : decode cX5_squash 53 = .ok (.aload_n 0, 1) := by decide +kernel
theorem dX5_squash_54 : decode cX5_squash 54 = .ok (.invokevirtual 89, 3) := by decide +kernel
theorem dX5_squash_57 : decode cX5_squash 57 = .ok (.aload_n 0, 1) := by decide +kernel
theorem dX5_squash_58 : decode cX5_squash 58 = .ok (.getfield 33, 3) := by decide +kernel
theorem dX5_squash_61 : decode cX5_squash 61 = .ok (.aload_n 3, 1) := by decide +kernel
theorem dX5_squash_62 : decode cX5_squash 62 = .ok (.iload_n 2, 1) := by decide +kernel
theorem dX5_squash_63 : decode cX5_squash 63 = .ok (.iconst 1, 1) := by decide +kernel
theorem dX5_squash_64 : decode cX5_squash 64 = .ok (.isub, 1) := by decide +kernel
theorem dX5_squash_65 : decode cX5_squash 65 = .ok (.invokevirtual 202, 3) := by decide +kernel
theorem dX5_squash_68 : decode cX5_squash 68 = .ok (.invokevirtual 205, 3) := by decide +kernel
theorem dX5_squash_71 : decode cX5_squash 71 = .ok (.astore 4, 2) := by decide +kernel
theorem dX5_squash_73 : decode cX5_squash 73 = .ok (.aload 4, 2) := by decide +kernel
theorem dX5_squash_75 : decode cX5_squash 75 = .ok (.aload_n 3, 1) := by decide +kernel
theorem dX5_squash_76 : decode cX5_squash 76 = .ok (.invokevirtual 209, 3) := by decide +kernel
theorem dX5_squash_79 : decode cX5_squash 79 = .ok (.aload_n 0, 1) := by decide +kernel
theorem dX5_squash_80 : decode cX5_squash 80 = .ok (.getfield 26, 3) := by decide +kernel
theorem dX5_squash_83 : decode cX5_squash 83 = .ok (.iload_n 1, 1) := by decide +kernel
theorem dX5_squash_84 : decode cX5_squash 84 = .ok (.aload 4, 2) := by decide +kernel
theorem dX5_squash_86 : decode cX5_squash 86 = .ok (.aastore, 1) := by decide +kernel
theorem dX5_squash_87 : decode cX5_squash 87 = .ok (.aload 4, 2) := by decide +kernel
theorem dX5_squash_89 : decode cX5_squash 89 = .ok (.getfield 103, 3) := by decide +kernel
theorem dX5_squash_92 : decode cX5_squash 92 = .ok (.ireturn, 1) := by decide +kernel
theorem dX5_rebase_0 : decode cX5_rebase 0 = .ok (.iload_n 1, 1) := by decide +kernel
theorem dX5_rebase_1 : decode cX5_rebase 1 = .ok (.iconst 5, 1) := by decide +kernel
theorem dX5_rebase_2 : decode cX5_rebase 2 = .ok (.invokestatic 51, 3) := by decide +kernel
theorem dX5_rebase_5 : decode cX5_rebase 5 = .ok (.iload_n 2, 1) := by decide +kernel
theorem dX5_rebase_6 : decode cX5_rebase 6 = .ok (.iconst 3, 1) := by decide +kernel
theorem dX5_rebase_7 : decode cX5_rebase 7 = .ok (.invokestatic 51, 3) := by decide +kernel
theorem dX5_rebase_10 : decode cX5_rebase 10 = .ok (.aload_n 0, 1) := by decide +kernel
theorem dX5_rebase_11 : decode cX5_rebase 11 = .ok (.getfield 26, 3) := by decide +kernel
theorem dX5_rebase_14 : decode cX5_rebase 14 = .ok (.iload_n 1, 1) := by decide +kernel
theorem dX5_rebase_15 : decode cX5_rebase 15 = .ok (.aaload, 1) := by decide +kernel
theorem dX5_rebase_16 : decode cX5_rebase 16 = .ok (.astore_n 3, 1) := by decide +kernel
theorem dX5_rebase_17 : decode cX5_rebase 17 = .ok (.aload_n 3, 1) := by decide +kernel
theorem dX5_rebase_18 : decode cX5_rebase 18 = .ok (.ifnonnull 13, 3) := by decide +kernel
theorem dX5_rebase_21 : decode cX5_rebase 21 = .ok (.new 114, 3) := by decide +kernel
theorem dX5_rebase_24 : decode cX5_rebase 24 = .ok (.dup, 1) := by decide +kernel
theorem dX5_rebase_25 : decode cX5_rebase 25 = .ok (.ldc 200, 2) := by decide +kernel
theorem dX5_rebase_27 : decode cX5_rebase 27 = .ok (.invokespecial 118, 3) := by decide +kernel
theorem dX5_rebase_30 : decode cX5_rebase 30 = .ok (.athrow, 1) := by decide +kernel
theorem dX5_rebase_31 : decode cX5_rebase 31 = .ok (.aload_n 0, 1) := by decide +kernel
theorem dX5_rebase_32 : decode cX5_rebase 32 = .ok (.invokevirtual 89, 3) := by decide +kernel
theorem dX5_rebase_35 : decode cX5_rebase 35 = .ok (.aload_n 0, 1) := by decide +kernel
theorem dX5_rebase_36 : decode cX5_rebase 36 = .ok (.iload_n 2, 1) := by decide +kernel
theorem dX5_rebase_37 : decode cX5_rebase 37 = .ok (.invokevirtual 95, 3) := by decide +kernel
theorem dX5_rebase_40 : decode cX5_rebase 40 = .ok (.astore 4, 2) := by decide +kernel
theorem dX5_rebase_42 : decode cX5_rebase 42 = .ok (.iconst 1, 1) := by decide +kernel
theorem dX5_rebase_43 : decode cX5_rebase 43 = .ok (.istore 5, 2) := by decide +kernel
theorem dX5_rebase_45 : decode cX5_rebase 45 = .ok (.iload 5, 2) := by decide +kernel
theorem dX5_rebase_47 : decode cX5_rebase 47 = .ok (.aload_n 3, 1) := by decide +kernel
theorem dX5_rebase_48 : decode cX5_rebase 48 = .ok (.getfield 192, 3) := by decide +kernel
theorem dX5_rebase_51 : decode cX5_rebase 51 = .ok (.if_icmp .gt 31, 3) := by decide +kernel
theorem dX5_rebase_54 : decode cX5_rebase 54 = .ok (.aload_n 0, 1) := by decide +kernel
theorem dX5_rebase_55 : decode cX5_rebase 55 = .ok (.getfield 33, 3) := by decide +kernel
theorem dX5_rebase_58 : decode cX5_rebase 58 = .ok (.aload 4, 2) := by decide +kernel
theorem dX5_rebase_60 : decode cX5_rebase 60 = .ok (.invokevirtual 205, 3) := by decide +kernel
theorem dX5_rebase_63 : decode cX5_rebase 63 = .ok (.astore 4, 2) := by decide +kernel
theorem dX5_rebase_65 : decode cX5_rebase 65 = .ok (.aload 4, 2) := by decide +kernel
theorem dX5_rebase_67 : decode cX5_rebase 67 = .ok (.aload_n 3, 1) := by decide +kernel
theorem dX5_rebase_68 : decode cX5_rebase 68 = .ok (.iload 5, 2) := by decide +kernel
theorem dX5_rebase_70 : decode cX5_rebase 70 = .ok (.invokevirtual 202, 3) := by decide +kernel
theorem dX5_rebase_73 : decode cX5_rebase 73 = .ok (.invokevirtual 212, 3) := by decide +kernel
theorem dX5_rebase_76 : decode cX5_rebase 76 = .ok (.iinc 5 1, 3) := by decide +kernel
theorem dX5_rebase_79 : decode cX5_rebase 79 = .ok (.goto (-34), 3) := by decide +kernel
theorem dX5_rebase_82 : decode cX5_rebase 82 = .ok (.aload_n 0, 1) := by decide +kernel
theorem dX5_rebase_83 : decode cX5_rebase 83 = .ok (.getfield 26, 3) := by decide +kernel
theorem dX5_rebase_86 : decode cX5_rebase 86 = .ok (.iload_n 1, 1) := by decide +kernel
theorem dX5_rebase_87 : decode cX5_rebase 87 = .ok (.aload 4, 2) := by decide +kernel
theorem dX5_rebase_89 : decode cX5_rebase 89 = .ok (.aastore, 1) := by decide +kernel
theorem dX5_rebase_90 : decode cX5_rebase 90 = .ok (.aload 4, 2) := by decide +kernel
theorem dX5_rebase_92 : decode cX5_rebase 92 = .ok (.getfield 103, 3) := by decide +kernel
theorem dX5_rebase_95 : decode cX5_rebase 95 = .ok (.ireturn, 1) := by decide +kernel
theorem dX5_prune_0 : decode cX5_prune 0 = .ok (.aload_n 0, 1) := by decide +kernel
theorem dX5_prune_1 : decode cX5_prune 1 = .ok (.invokevirtual 86, 3) := by decide +kernel
theorem dX5_prune_4 : decode cX5_prune 4 = .ok (.iconst 0, 1) := by decide +kernel
theorem dX5_prune_5 : decode cX5_prune 5 = .ok (.istore_n 1, 1) := by decide +kernel
theorem dX5_prune_6 : decode cX5_prune 6 = .ok (.iconst 0, 1) := by decide +kernel
theorem dX5_prune_7 : decode cX5_prune 7 = .ok (.istore_n 2, 1) := by decide +kernel
theorem dX5_prune_8 : decode cX5_prune 8 = .ok (.iload_n 2, 1) := by decide +kernel
theorem dX5_prune_9 : decode cX5_prune 9 = .ok (.aload_n 0, 1) := by decide +kernel
theorem dX5_prune_10 : decode cX5_prune 10 = .ok (.getfield 33, 3) := by decide +kernel
theorem dX5_prune_13 : decode cX5_prune 13 = .ok (.getfield 215, 3) := by decide +kernel
theorem dX5_prune_16 : decode cX5_prune 16 = .ok (.if_icmp .ge 49, 3) := by decide +kernel
theorem dX5_prune_19 : decode cX5_prune 19 = .ok (.aload_n 0, 1) := by decide +kernel
theorem dX5_prune_20 : decode cX5_prune 20 = .ok (.getfield 33, 3) := by decide +kernel
theorem dX5_prune_23 : decode cX5_prune 23 = .ok (.iload_n 2, 1) := by decide +kernel
theorem dX5_prune_24 : decode cX5_prune 24 = .ok (.invokevirtual 218, 3) := by decide +kernel
theorem dX5_prune_27 : decode cX5_prune 27 = .ok (.astore_n 3, 1) := by decide +kernel
theorem dX5_prune_28 : decode cX5_prune 28 = .ok (.aload_n 3, 1) := by decide +kernel
theorem dX5_prune_29 : decode cX5_prune 29 = .ok (.ifnull 30, 3) := by decide +kernel
theorem dX5_prune_32 : decode cX5_prune 32 = .ok (.aload_n 0, 1) := by decide +kernel
theorem dX5_prune_33 : decode cX5_prune 33 = .ok (.aload_n 3, 1) := by decide +kernel
theorem dX5_prune_34 : decode cX5_prune 34 = .ok (.invokevirtual 221, 3) := by decide +kernel
theorem dX5_prune_37 : decode cX5_prune 37 = .ok (.ifCond .ne 22, 3) := by decide +kernel
theorem dX5_prune_40 : decode cX5_prune 40 = .ok (.aload_n 0, 1) := by decide +kernel
theorem dX5_prune_41 : decode cX5_prune 41 = .ok (.getfield 33, 3) := by decide +kernel
theorem dX5_prune_44 : decode cX5_prune 44 = .ok (.iload_n 2, 1) := by decide +kernel
theorem dX5_prune_45 : decode cX5_prune 45 = .ok (.invokevirtual 225, 3) := by decide +kernel
theorem dX5_prune_48 : decode cX5_prune 48 = .ok (.aload_n 0, 1) := by decide +kernel
theorem dX5_prune_49 : decode cX5_prune 49 = .ok (.getfield 40, 3) := by decide +kernel
theorem dX5_prune_52 : decode cX5_prune 52 = .ok (.aload_n 3, 1) := by decide +kernel
theorem dX5_prune_53 : decode cX5_prune 53 = .ok (.invokevirtual 228, 3) := by decide +kernel
theorem dX5_prune_56 : decode cX5_prune 56 = .ok (.iinc 1 1, 3) := by decide +kernel
theorem dX5_prune_59 : decode cX5_prune 59 = .ok (.iinc 2 1, 3) := by decide +kernel
theorem dX5_prune_62 : decode cX5_prune 62 = .ok (.goto (-54), 3) := by decide +kernel
theorem dX5_prune_65 : decode cX5_prune 65 = .ok (.iload_n 1, 1) := by decide +kernel
theorem dX5_prune_66 : decode cX5_prune 66 = .ok (.ireturn, 1) := by decide +kernel
theorem dX5_layers_0 : decode cX5_layers 0 = .ok (.aload_n 0, 1) := by decide +kernel
theorem dX5_layers_1 : decode cX5_layers 1 = .ok (.getfield 33, 3) := by decide +kernel
theorem dX5_layers_4 : decode cX5_layers 4 = .ok (.getfield 215, 3) := by decide +kernel
theorem dX5_layers_7 : decode cX5_layers 7 = .ok (.ireturn, 1) := by decide +kernel
theorem dX5_parentOf_0 : decode cX5_parentOf 0 = .ok (.aload_n 0, 1) := by decide +kernel
theorem dX5_parentOf_1 : decode cX5_parentOf 1 = .ok (.iload_n 1, 1) := by decide +kernel
theorem dX5_parentOf_2 : decode cX5_parentOf 2 = .ok (.invokevirtual 231, 3) := by decide +kernel
theorem dX5_parentOf_5 : decode cX5_parentOf 5 = .ok (.getfield 234, 3) := by decide +kernel
theorem dX5_parentOf_8 : decode cX5_parentOf 8 = .ok (.invokestatic 162, 3) := by decide +kernel
theorem dX5_parentOf_11 : decode cX5_parentOf 11 = .ok (.ireturn, 1) := by decide +kernel
theorem dX5_sizeOf_0 : decode cX5_sizeOf 0 = .ok (.aload_n 0, 1) := by decide +kernel
theorem dX5_sizeOf_1 : decode cX5_sizeOf 1 = .ok (.iload_n 1, 1) := by decide +kernel
theorem dX5_sizeOf_2 : decode cX5_sizeOf 2 = .ok (.invokevirtual 231, 3) := by decide +kernel
theorem dX5_sizeOf_5 : decode cX5_sizeOf 5 = .ok (.invokevirtual 237, 3) := by decide +kernel
theorem dX5_sizeOf_8 : decode cX5_sizeOf 8 = .ok (.ireturn, 1) := by decide +kernel
theorem dX5_heldAt_0 : decode cX5_heldAt 0 = .ok (.aload_n 0, 1) := by decide +kernel
theorem dX5_heldAt_1 : decode cX5_heldAt 1 = .ok (.iload_n 1, 1) := by decide +kernel
theorem dX5_heldAt_2 : decode cX5_heldAt 2 = .ok (.invokevirtual 231, 3) := by decide +kernel
theorem dX5_heldAt_5 : decode cX5_heldAt 5 = .ok (.astore_n 3, 1) := by decide +kernel
theorem dX5_heldAt_6 : decode cX5_heldAt 6 = .ok (.iload_n 2, 1) := by decide +kernel
theorem dX5_heldAt_7 : decode cX5_heldAt 7 = .ok (.bipush 12, 2) := by decide +kernel
theorem dX5_heldAt_9 : decode cX5_heldAt 9 = .ok (.invokestatic 51, 3) := by decide +kernel
theorem dX5_heldAt_12 : decode cX5_heldAt 12 = .ok (.aload_n 3, 1) := by decide +kernel
theorem dX5_heldAt_13 : decode cX5_heldAt 13 = .ok (.iload_n 2, 1) := by decide +kernel
theorem dX5_heldAt_14 : decode cX5_heldAt 14 = .ok (.invokevirtual 240, 3) := by decide +kernel
theorem dX5_heldAt_17 : decode cX5_heldAt 17 = .ok (.ireturn, 1) := by decide +kernel
theorem dX5_shownAt_0 : decode cX5_shownAt 0 = .ok (.aload_n 0, 1) := by decide +kernel
theorem dX5_shownAt_1 : decode cX5_shownAt 1 = .ok (.iload_n 1, 1) := by decide +kernel
theorem dX5_shownAt_2 : decode cX5_shownAt 2 = .ok (.invokevirtual 231, 3) := by decide +kernel
theorem dX5_shownAt_5 : decode cX5_shownAt 5 = .ok (.astore_n 3, 1) := by decide +kernel
theorem dX5_shownAt_6 : decode cX5_shownAt 6 = .ok (.iload_n 2, 1) := by decide +kernel
theorem dX5_shownAt_7 : decode cX5_shownAt 7 = .ok (.bipush 12, 2) := by decide +kernel
theorem dX5_shownAt_9 : decode cX5_shownAt 9 = .ok (.invokestatic 51, 3) := by decide +kernel
theorem dX5_shownAt_12 : decode cX5_shownAt 12 = .ok (.aload_n 3, 1) := by decide +kernel
theorem dX5_shownAt_13 : decode cX5_shownAt 13 = .ok (.iload_n 2, 1) := by decide +kernel
theorem dX5_shownAt_14 : decode cX5_shownAt 14 = .ok (.invokevirtual 243, 3) := by decide +kernel
theorem dX5_shownAt_17 : decode cX5_shownAt 17 = .ok (.ireturn, 1) := by decide +kernel
theorem dX5_variable_0 : decode cX5_variable 0 = .ok (.aload_n 0, 1) := by decide +kernel
theorem dX5_variable_1 : decode cX5_variable 1 = .ok (.iload_n 1, 1) := by decide +kernel
theorem dX5_variable_2 : decode cX5_variable 2 = .ok (.invokevirtual 231, 3) := by decide +kernel
theorem dX5_variable_5 : decode cX5_variable 5 = .ok (.astore_n 3, 1) := by decide +kernel
theorem dX5_variable_6 : decode cX5_variable 6 = .ok (.iload_n 2, 1) := by decide +kernel
theorem dX5_variable_7 : decode cX5_variable 7 = .ok (.iconst 4, 1) := by decide +kernel
theorem dX5_variable_8 : decode cX5_variable 8 = .ok (.invokestatic 51, 3) := by decide +kernel
theorem dX5_variable_11 : decode cX5_variable 11 = .ok (.aload_n 3, 1) := by decide +kernel
theorem dX5_variable_12 : decode cX5_variable 12 = .ok (.iload_n 2, 1) := by decide +kernel
theorem dX5_variable_13 : decode cX5_variable 13 = .ok (.invokevirtual 246, 3) := by decide +kernel
theorem dX5_variable_16 : decode cX5_variable 16 = .ok (.ireturn, 1) := by decide +kernel
theorem dX5_depth_0 : decode cX5_depth 0 = .ok (.aload_n 0, 1) := by decide +kernel
theorem dX5_depth_1 : decode cX5_depth 1 = .ok (.iload_n 1, 1) := by decide +kernel
theorem dX5_depth_2 : decode cX5_depth 2 = .ok (.invokevirtual 231, 3) := by decide +kernel
theorem dX5_depth_5 : decode cX5_depth 5 = .ok (.getfield 192, 3) := by decide +kernel
theorem dX5_depth_8 : decode cX5_depth 8 = .ok (.iconst 1, 1) := by decide +kernel
theorem dX5_depth_9 : decode cX5_depth 9 = .ok (.iadd, 1) := by decide +kernel
theorem dX5_depth_10 : decode cX5_depth 10 = .ok (.ireturn, 1) := by decide +kernel
theorem dX5_imageSize_0 : decode cX5_imageSize 0 = .ok (.iconst 0, 1) := by decide +kernel
theorem dX5_imageSize_1 : decode cX5_imageSize 1 = .ok (.istore_n 2, 1) := by decide +kernel
theorem dX5_imageSize_2 : decode cX5_imageSize 2 = .ok (.aload_n 0, 1) := by decide +kernel
theorem dX5_imageSize_3 : decode cX5_imageSize 3 = .ok (.iload_n 1, 1) := by decide +kernel
theorem dX5_imageSize_4 : decode cX5_imageSize 4 = .ok (.invokevirtual 231, 3) := by decide +kernel
theorem dX5_imageSize_7 : decode cX5_imageSize 7 = .ok (.astore_n 3, 1) := by decide +kernel
theorem dX5_imageSize_8 : decode cX5_imageSize 8 = .ok (.aload_n 3, 1) := by decide +kernel
theorem dX5_imageSize_9 : decode cX5_imageSize 9 = .ok (.ifnull 18, 3) := by decide +kernel
theorem dX5_imageSize_12 : decode cX5_imageSize 12 = .ok (.iload_n 2, 1) := by decide +kernel
theorem dX5_imageSize_13 : decode cX5_imageSize 13 = .ok (.aload_n 3, 1) := by decide +kernel
theorem dX5_imageSize_14 : decode cX5_imageSize 14 = .ok (.invokevirtual 237, 3) := by decide +kernel
theorem dX5_imageSize_17 : decode cX5_imageSize 17 = .ok (.iadd, 1) := by decide +kernel
theorem dX5_imageSize_18 : decode cX5_imageSize 18 = .ok (.istore_n 2, 1) := by decide +kernel
theorem dX5_imageSize_19 : decode cX5_imageSize 19 = .ok (.aload_n 3, 1) := by decide +kernel
theorem dX5_imageSize_20 : decode cX5_imageSize 20 = .ok (.getfield 234, 3) := by decide +kernel
theorem dX5_imageSize_23 : decode cX5_imageSize 23 = .ok (.astore_n 3, 1) := by decide +kernel
theorem dX5_imageSize_24 : decode cX5_imageSize 24 = .ok (.goto (-16), 3) := by decide +kernel
theorem dX5_imageSize_27 : decode cX5_imageSize 27 = .ok (.iload_n 2, 1) := by decide +kernel
theorem dX5_imageSize_28 : decode cX5_imageSize 28 = .ok (.ireturn, 1) := by decide +kernel
theorem dX5_digest_0 : decode cX5_digest 0 = .ok (.aload_n 0, 1) := by decide +kernel
theorem dX5_digest_1 : decode cX5_digest 1 = .ok (.iload_n 1, 1) := by decide +kernel
theorem dX5_digest_2 : decode cX5_digest 2 = .ok (.invokevirtual 231, 3) := by decide +kernel
theorem dX5_digest_5 : decode cX5_digest 5 = .ok (.invokevirtual 187, 3) := by decide +kernel
theorem dX5_digest_8 : decode cX5_digest 8 = .ok (.ireturn, 1) := by decide +kernel
theorem dX5_isIn_0 : decode cX5_isIn 0 = .ok (.iload_n 0, 1) := by decide +kernel
theorem dX5_isIn_1 : decode cX5_isIn 1 = .ok (.ifCond .lt 12, 3) := by decide +kernel
theorem dX5_isIn_4 : decode cX5_isIn 4 = .ok (.iload_n 0, 1) := by decide +kernel
theorem dX5_isIn_5 : decode cX5_isIn 5 = .ok (.iload_n 1, 1) := by decide +kernel
theorem dX5_isIn_6 : decode cX5_isIn 6 = .ok (.if_icmp .ge 7, 3) := by decide +kernel
theorem dX5_isIn_9 : decode cX5_isIn 9 = .ok (.iconst 1, 1) := by decide +kernel
theorem dX5_isIn_10 : decode cX5_isIn 10 = .ok (.goto 4, 3) := by decide +kernel
theorem dX5_isIn_13 : decode cX5_isIn 13 = .ok (.iconst 0, 1) := by decide +kernel
theorem dX5_isIn_14 : decode cX5_isIn 14 = .ok (.ireturn, 1) := by decide +kernel
theorem dX5_requireIndex_0 : decode cX5_requireIndex 0 = .ok (.iload_n 0, 1) := by decide +kernel
theorem dX5_requireIndex_1 : decode cX5_requireIndex 1 = .ok (.iload_n 1, 1) := by decide +kernel
theorem dX5_requireIndex_2 : decode cX5_requireIndex 2 = .ok (.invokestatic 249, 3) := by decide +kernel
theorem dX5_requireIndex_5 : decode cX5_requireIndex 5 = .ok (.ifCond .ne 13, 3) := by decide +kernel
theorem dX5_requireIndex_8 : decode cX5_requireIndex 8 = .ok (.new 195, 3) := by decide +kernel
theorem dX5_requireIndex_11 : decode cX5_requireIndex 11 = .ok (.dup, 1) := by decide +kernel
theorem dX5_requireIndex_12 : decode cX5_requireIndex 12 = .ok (.ldc 253, 2) := by decide +kernel
theorem dX5_requireIndex_14 : decode cX5_requireIndex 14 = .ok (.invokespecial 199, 3) := by decide +kernel
theorem dX5_requireIndex_17 : decode cX5_requireIndex 17 = .ok (.athrow, 1) := by decide +kernel
theorem dX5_requireIndex_18 : decode cX5_requireIndex 18 = .ok (.return_, 1) := by decide +kernel
theorem dX5_requireContent_0 : decode cX5_requireContent 0 = .ok (.iload_n 0, 1) := by decide +kernel
theorem dX5_requireContent_1 : decode cX5_requireContent 1 = .ok (.iconst (-1), 1) := by decide +kernel
theorem dX5_requireContent_2 : decode cX5_requireContent 2 = .ok (.if_icmp .eq 24, 3) := by decide +kernel
theorem dX5_requireContent_5 : decode cX5_requireContent 5 = .ok (.iload_n 0, 1) := by decide +kernel
theorem dX5_requireContent_6 : decode cX5_requireContent 6 = .ok (.ifCond .lt 10, 3) := by decide +kernel
theorem dX5_requireContent_9 : decode cX5_requireContent 9 = .ok (.iload_n 0, 1) := by decide +kernel
theorem dX5_requireContent_10 : decode cX5_requireContent 10 = .ok (.sipush 9999, 3) := by decide +kernel
theorem dX5_requireContent_13 : decode cX5_requireContent 13 = .ok (.if_icmp .le 13, 3) := by decide +kernel
theorem dX5_requireContent_16 : decode cX5_requireContent 16 = .ok (.new 74, 3) := by decide +kernel
theorem dX5_requireContent_19 : decode cX5_requireContent 19 = .ok (.dup, 1) := by decide +kernel
theorem dX5_requireContent_20 : decode cX5_requireContent 20 = .ok (.ldc 255, 2) := by decide +kernel
theorem dX5_requireContent_22 : decode cX5_requireContent 22 = .ok (.invokespecial 78, 3) := by decide +kernel
theorem dX5_requireContent_25 : decode cX5_requireContent 25 = .ok (.athrow, 1) := by decide +kernel
theorem dX5_requireContent_26 : decode cX5_requireContent 26 = .ok (.return_, 1) := by decide +kernel
theorem dX5_requireNoBuild_0 : decode cX5_requireNoBuild 0 = .ok (.aload_n 0, 1) := by decide +kernel
theorem dX5_requireNoBuild_1 : decode cX5_requireNoBuild 1 = .ok (.getfield 40, 3) := by decide +kernel
theorem dX5_requireNoBuild_4 : decode cX5_requireNoBuild 4 = .ok (.invokevirtual 144, 3) := by decide +kernel
theorem dX5_requireNoBuild_7 : decode cX5_requireNoBuild 7 = .ok (.ifCond .eq 14, 3) := by decide +kernel
theorem dX5_requireNoBuild_10 : decode cX5_requireNoBuild 10 = .ok (.new 114, 3) := by decide +kernel
theorem dX5_requireNoBuild_13 : decode cX5_requireNoBuild 13 = .ok (.dup, 1) := by decide +kernel
theorem dX5_requireNoBuild_14 : decode cX5_requireNoBuild 14 = .ok (.ldc_w 257, 3) := by decide +kernel
theorem dX5_requireNoBuild_17 : decode cX5_requireNoBuild 17 = .ok (.invokespecial 118, 3) := by decide +kernel
theorem dX5_requireNoBuild_20 : decode cX5_requireNoBuild 20 = .ok (.athrow, 1) := by decide +kernel
theorem dX5_requireNoBuild_21 : decode cX5_requireNoBuild 21 = .ok (.return_, 1) := by decide +kernel
theorem dX5_requireOpen_0 : decode cX5_requireOpen 0 = .ok (.aload_n 0, 1) := by decide +kernel
theorem dX5_requireOpen_1 : decode cX5_requireOpen 1 = .ok (.getfield 33, 3) := by decide +kernel
theorem dX5_requireOpen_4 : decode cX5_requireOpen 4 = .ok (.getfield 215, 3) := by decide +kernel
theorem dX5_requireOpen_7 : decode cX5_requireOpen 7 = .ok (.sipush 400, 3) := by decide +kernel
theorem dX5_requireOpen_10 : decode cX5_requireOpen 10 = .ok (.if_icmp .lt 14, 3) := by decide +kernel
theorem dX5_requireOpen_13 : decode cX5_requireOpen 13 = .ok (.new 114, 3) := by decide +kernel
theorem dX5_requireOpen_16 : decode cX5_requireOpen 16 = .ok (.dup, 1) := by decide +kernel
theorem dX5_requireOpen_17 : decode cX5_requireOpen 17 = .ok (.ldc_w 259, 3) := by decide +kernel
theorem dX5_requireOpen_20 : decode cX5_requireOpen 20 = .ok (.invokespecial 118, 3) := by decide +kernel
theorem dX5_requireOpen_23 : decode cX5_requireOpen 23 = .ok (.athrow, 1) := by decide +kernel
theorem dX5_requireOpen_24 : decode cX5_requireOpen 24 = .ok (.return_, 1) := by decide +kernel
theorem dX5_numberOf_0 : decode cX5_numberOf 0 = .ok (.aload_n 0, 1) := by decide +kernel
theorem dX5_numberOf_1 : decode cX5_numberOf 1 = .ok (.ifnonnull 7, 3) := by decide +kernel
theorem dX5_numberOf_4 : decode cX5_numberOf 4 = .ok (.iconst (-1), 1) := by decide +kernel
theorem dX5_numberOf_5 : decode cX5_numberOf 5 = .ok (.goto 7, 3) := by decide +kernel
theorem dX5_numberOf_8 : decode cX5_numberOf 8 = .ok (.aload_n 0, 1) := by decide +kernel
theorem dX5_numberOf_9 : decode cX5_numberOf 9 = .ok (.getfield 103, 3) := by decide +kernel
theorem dX5_numberOf_12 : decode cX5_numberOf 12 = .ok (.ireturn, 1) := by decide +kernel
theorem dX5_recipeAt_0 : decode cX5_recipeAt 0 = .ok (.iload_n 1, 1) := by decide +kernel
theorem dX5_recipeAt_1 : decode cX5_recipeAt 1 = .ok (.iconst 4, 1) := by decide +kernel
theorem dX5_recipeAt_2 : decode cX5_recipeAt 2 = .ok (.invokestatic 249, 3) := by decide +kernel
theorem dX5_recipeAt_5 : decode cX5_recipeAt 5 = .ok (.ifCond .eq 12, 3) := by decide +kernel
theorem dX5_recipeAt_8 : decode cX5_recipeAt 8 = .ok (.aload_n 0, 1) := by decide +kernel
theorem dX5_recipeAt_9 : decode cX5_recipeAt 9 = .ok (.getfield 20, 3) := by decide +kernel
theorem dX5_recipeAt_12 : decode cX5_recipeAt 12 = .ok (.iload_n 1, 1) := by decide +kernel
theorem dX5_recipeAt_13 : decode cX5_recipeAt 13 = .ok (.aaload, 1) := by decide +kernel
theorem dX5_recipeAt_14 : decode cX5_recipeAt 14 = .ok (.goto 4, 3) := by decide +kernel
theorem dX5_recipeAt_17 : decode cX5_recipeAt 17 = .ok (.aconst_null, 1) := by decide +kernel
theorem dX5_recipeAt_18 : decode cX5_recipeAt 18 = .ok (.astore_n 2, 1) := by decide +kernel
theorem dX5_recipeAt_19 : decode cX5_recipeAt 19 = .ok (.aload_n 2, 1) := by decide +kernel
theorem dX5_recipeAt_20 : decode cX5_recipeAt 20 = .ok (.ifnonnull 14, 3) := by decide +kernel
theorem dX5_recipeAt_23 : decode cX5_recipeAt 23 = .ok (.new 195, 3) := by decide +kernel
theorem dX5_recipeAt_26 : decode cX5_recipeAt 26 = .ok (.dup, 1) := by decide +kernel
theorem dX5_recipeAt_27 : decode cX5_recipeAt 27 = .ok (.ldc_w 261, 3) := by decide +kernel
theorem dX5_recipeAt_30 : decode cX5_recipeAt 30 = .ok (.invokespecial 199, 3) := by decide +kernel
theorem dX5_recipeAt_33 : decode cX5_recipeAt 33 = .ok (.athrow, 1) := by decide +kernel
theorem dX5_recipeAt_34 : decode cX5_recipeAt 34 = .ok (.aload_n 2, 1) := by decide +kernel
theorem dX5_recipeAt_35 : decode cX5_recipeAt 35 = .ok (.areturn, 1) := by decide +kernel
theorem dX5_layerAt_0 : decode cX5_layerAt 0 = .ok (.aload_n 0, 1) := by decide +kernel
theorem dX5_layerAt_1 : decode cX5_layerAt 1 = .ok (.getfield 33, 3) := by decide +kernel
theorem dX5_layerAt_4 : decode cX5_layerAt 4 = .ok (.iload_n 1, 1) := by decide +kernel
theorem dX5_layerAt_5 : decode cX5_layerAt 5 = .ok (.invokevirtual 218, 3) := by decide +kernel
theorem dX5_layerAt_8 : decode cX5_layerAt 8 = .ok (.astore_n 2, 1) := by decide +kernel
theorem dX5_layerAt_9 : decode cX5_layerAt 9 = .ok (.aload_n 2, 1) := by decide +kernel
theorem dX5_layerAt_10 : decode cX5_layerAt 10 = .ok (.ifnonnull 14, 3) := by decide +kernel
theorem dX5_layerAt_13 : decode cX5_layerAt 13 = .ok (.new 195, 3) := by decide +kernel
theorem dX5_layerAt_16 : decode cX5_layerAt 16 = .ok (.dup, 1) := by decide +kernel
theorem dX5_layerAt_17 : decode cX5_layerAt 17 = .ok (.ldc_w 263, 3) := by decide +kernel
theorem dX5_layerAt_20 : decode cX5_layerAt 20 = .ok (.invokespecial 199, 3) := by decide +kernel
theorem dX5_layerAt_23 : decode cX5_layerAt 23 = .ok (.athrow, 1) := by decide +kernel
theorem dX5_layerAt_24 : decode cX5_layerAt 24 = .ok (.aload_n 2, 1) := by decide +kernel
theorem dX5_layerAt_25 : decode cX5_layerAt 25 = .ok (.areturn, 1) := by decide +kernel
theorem dX5_contentsOf_0 : decode cX5_contentsOf 0 = .ok (.iload_n 1, 1) := by decide +kernel
theorem dX5_contentsOf_1 : decode cX5_contentsOf 1 = .ok (.iconst 3, 1) := by decide +kernel
theorem dX5_contentsOf_2 : decode cX5_contentsOf 2 = .ok (.invokestatic 51, 3) := by decide +kernel
theorem dX5_contentsOf_5 : decode cX5_contentsOf 5 = .ok (.aload_n 0, 1) := by decide +kernel
theorem dX5_contentsOf_6 : decode cX5_contentsOf 6 = .ok (.getfield 15, 3) := by decide +kernel
theorem dX5_contentsOf_9 : decode cX5_contentsOf 9 = .ok (.iload_n 1, 1) := by decide +kernel
theorem dX5_contentsOf_10 : decode cX5_contentsOf 10 = .ok (.aaload, 1) := by decide +kernel
theorem dX5_contentsOf_11 : decode cX5_contentsOf 11 = .ok (.areturn, 1) := by decide +kernel
theorem dX5_addInstruction_0 : decode cX5_addInstruction 0 = .ok (.aload_n 0, 1) := by decide +kernel
theorem dX5_addInstruction_1 : decode cX5_addInstruction 1 = .ok (.iload_n 1, 1) := by decide +kernel
theorem dX5_addInstruction_2 : decode cX5_addInstruction 2 = .ok (.invokevirtual 59, 3) := by decide +kernel
theorem dX5_addInstruction_5 : decode cX5_addInstruction 5 = .ok (.astore 5, 2) := by decide +kernel
theorem dX5_addInstruction_7 : decode cX5_addInstruction 7 = .ok (.aload 5, 2) := by decide +kernel
theorem dX5_addInstruction_9 : decode cX5_addInstruction 9 = .ok (.getfield 63, 3) := by decide +kernel
theorem dX5_addInstruction_12 : decode cX5_addInstruction 12 = .ok (.bipush 10, 2) := by decide +kernel
theorem dX5_addInstruction_14 : decode cX5_addInstruction 14 = .ok (.if_icmp .lt 14, 3) := by decide +kernel
theorem dX5_addInstruction_17 : decode cX5_addInstruction 17 = .ok (.new 114, 3) := by decide +kernel
theorem dX5_addInstruction_20 : decode cX5_addInstruction 20 = .ok (.dup, 1) := by decide +kernel
theorem dX5_addInstruction_21 : decode cX5_addInstruction 21 = .ok (.ldc_w 265, 3) := by decide +kernel
theorem dX5_addInstruction_24 : decode cX5_addInstruction 24 = .ok (.invokespecial 118, 3) := by decide +kernel
theorem dX5_addInstruction_27 : decode cX5_addInstruction 27 = .ok (.athrow, 1) := by decide +kernel
theorem dX5_addInstruction_28 : decode cX5_addInstruction 28 = .ok (.aload 5, 2) := by decide +kernel
theorem dX5_addInstruction_30 : decode cX5_addInstruction 30 = .ok (.new 120, 3) := by decide +kernel
theorem dX5_addInstruction_33 : decode cX5_addInstruction 33 = .ok (.dup, 1) := by decide +kernel
theorem dX5_addInstruction_34 : decode cX5_addInstruction 34 = .ok (.iload_n 2, 1) := by decide +kernel
theorem dX5_addInstruction_35 : decode cX5_addInstruction 35 = .ok (.iload_n 3, 1) := by decide +kernel
theorem dX5_addInstruction_36 : decode cX5_addInstruction 36 = .ok (.iload 4, 2) := by decide +kernel
theorem dX5_addInstruction_38 : decode cX5_addInstruction 38 = .ok (.invokespecial 267, 3) := by decide +kernel
theorem dX5_addInstruction_41 : decode cX5_addInstruction 41 = .ok (.invokevirtual 270, 3) := by decide +kernel
theorem dX5_addInstruction_44 : decode cX5_addInstruction 44 = .ok (.aload 5, 2) := by decide +kernel
theorem dX5_addInstruction_46 : decode cX5_addInstruction 46 = .ok (.getfield 63, 3) := by decide +kernel
theorem dX5_addInstruction_49 : decode cX5_addInstruction 49 = .ok (.ireturn, 1) := by decide +kernel
theorem dX5_rootFor_0 : decode cX5_rootFor 0 = .ok (.aload_n 0, 1) := by decide +kernel
theorem dX5_rootFor_1 : decode cX5_rootFor 1 = .ok (.iload_n 1, 1) := by decide +kernel
theorem dX5_rootFor_2 : decode cX5_rootFor 2 = .ok (.invokevirtual 172, 3) := by decide +kernel
theorem dX5_rootFor_5 : decode cX5_rootFor 5 = .ok (.astore_n 2, 1) := by decide +kernel
theorem dX5_rootFor_6 : decode cX5_rootFor 6 = .ok (.aload_n 0, 1) := by decide +kernel
theorem dX5_rootFor_7 : decode cX5_rootFor 7 = .ok (.getfield 33, 3) := by decide +kernel
theorem dX5_rootFor_10 : decode cX5_rootFor 10 = .ok (.aload_n 2, 1) := by decide +kernel
theorem dX5_rootFor_11 : decode cX5_rootFor 11 = .ok (.invokevirtual 274, 3) := by decide +kernel
theorem dX5_rootFor_14 : decode cX5_rootFor 14 = .ok (.astore_n 3, 1) := by decide +kernel
theorem dX5_rootFor_15 : decode cX5_rootFor 15 = .ok (.aload_n 3, 1) := by decide +kernel
theorem dX5_rootFor_16 : decode cX5_rootFor 16 = .ok (.ifnonnull 14, 3) := by decide +kernel
theorem dX5_rootFor_19 : decode cX5_rootFor 19 = .ok (.aload_n 0, 1) := by decide +kernel
theorem dX5_rootFor_20 : decode cX5_rootFor 20 = .ok (.getfield 33, 3) := by decide +kernel
theorem dX5_rootFor_23 : decode cX5_rootFor 23 = .ok (.aload_n 2, 1) := by decide +kernel
theorem dX5_rootFor_24 : decode cX5_rootFor 24 = .ok (.invokevirtual 278, 3) := by decide +kernel
theorem dX5_rootFor_27 : decode cX5_rootFor 27 = .ok (.goto 4, 3) := by decide +kernel
theorem dX5_rootFor_30 : decode cX5_rootFor 30 = .ok (.aload_n 3, 1) := by decide +kernel
theorem dX5_rootFor_31 : decode cX5_rootFor 31 = .ok (.areturn, 1) := by decide +kernel
theorem dX5_layerOfStep_0 : decode cX5_layerOfStep 0 = .ok (.aload_n 0, 1) := by decide +kernel
theorem dX5_layerOfStep_1 : decode cX5_layerOfStep 1 = .ok (.getfield 33, 3) := by decide +kernel
theorem dX5_layerOfStep_4 : decode cX5_layerOfStep 4 = .ok (.aload_n 1, 1) := by decide +kernel
theorem dX5_layerOfStep_5 : decode cX5_layerOfStep 5 = .ok (.aload_n 2, 1) := by decide +kernel
theorem dX5_layerOfStep_6 : decode cX5_layerOfStep 6 = .ok (.iload_n 3, 1) := by decide +kernel
theorem dX5_layerOfStep_7 : decode cX5_layerOfStep 7 = .ok (.invokevirtual 281, 3) := by decide +kernel
theorem dX5_layerOfStep_10 : decode cX5_layerOfStep 10 = .ok (.astore 4, 2) := by decide +kernel
theorem dX5_layerOfStep_12 : decode cX5_layerOfStep 12 = .ok (.aload 4, 2) := by decide +kernel
theorem dX5_layerOfStep_14 : decode cX5_layerOfStep 14 = .ok (.ifnull 16, 3) := by decide +kernel
theorem dX5_layerOfStep_17 : decode cX5_layerOfStep 17 = .ok (.aload_n 0, 1) := by decide +kernel
theorem dX5_layerOfStep_18 : decode cX5_layerOfStep 18 = .ok (.dup, 1) := by decide +kernel
theorem dX5_layerOfStep_19 : decode cX5_layerOfStep 19 = .ok (.getfield 166, 3) := by decide +kernel
theorem dX5_layerOfStep_22 : decode cX5_layerOfStep 22 = .ok (.iconst 1, 1) := by decide +kernel
theorem dX5_layerOfStep_23 : decode cX5_layerOfStep 23 = .ok (.iadd, 1) := by decide +kernel
theorem dX5_layerOfStep_24 : decode cX5_layerOfStep 24 = .ok (.putfield 166, 3) := by decide +kernel
theorem dX5_layerOfStep_27 : decode cX5_layerOfStep 27 = .ok (.aload 4, 2) := by decide +kernel
theorem dX5_layerOfStep_29 : decode cX5_layerOfStep 29 = .ok (.areturn, 1) := by decide +kernel
theorem dX5_layerOfStep_30 : decode cX5_layerOfStep 30 = .ok (.aload_n 0, 1) := by decide +kernel
theorem dX5_layerOfStep_31 : decode cX5_layerOfStep 31 = .ok (.dup, 1) := by decide +kernel
theorem dX5_layerOfStep_32 : decode cX5_layerOfStep 32 = .ok (.getfield 169, 3) := by decide +kernel
theorem dX5_layerOfStep_35 : decode cX5_layerOfStep 35 = .ok (.iconst 1, 1) := by decide +kernel
theorem dX5_layerOfStep_36 : decode cX5_layerOfStep 36 = .ok (.iadd, 1) := by decide +kernel
theorem dX5_layerOfStep_37 : decode cX5_layerOfStep 37 = .ok (.putfield 169, 3) := by decide +kernel
theorem dX5_layerOfStep_40 : decode cX5_layerOfStep 40 = .ok (.aload_n 0, 1) := by decide +kernel
theorem dX5_layerOfStep_41 : decode cX5_layerOfStep 41 = .ok (.getfield 33, 3) := by decide +kernel
theorem dX5_layerOfStep_44 : decode cX5_layerOfStep 44 = .ok (.aload_n 1, 1) := by decide +kernel
theorem dX5_layerOfStep_45 : decode cX5_layerOfStep 45 = .ok (.invokevirtual 205, 3) := by decide +kernel
theorem dX5_layerOfStep_48 : decode cX5_layerOfStep 48 = .ok (.astore 5, 2) := by decide +kernel
theorem dX5_layerOfStep_50 : decode cX5_layerOfStep 50 = .ok (.aload 5, 2) := by decide +kernel
theorem dX5_layerOfStep_52 : decode cX5_layerOfStep 52 = .ok (.aload_n 2, 1) := by decide +kernel
theorem dX5_layerOfStep_53 : decode cX5_layerOfStep 53 = .ok (.iload_n 3, 1) := by decide +kernel
theorem dX5_layerOfStep_54 : decode cX5_layerOfStep 54 = .ok (.invokevirtual 284, 3) := by decide +kernel
theorem dX5_layerOfStep_57 : decode cX5_layerOfStep 57 = .ok (.aload 5, 2) := by decide +kernel
theorem dX5_layerOfStep_59 : decode cX5_layerOfStep 59 = .ok (.areturn, 1) := by decide +kernel
theorem dX5_isInTaggedImage_0 : decode cX5_isInTaggedImage 0 = .ok (.aload_n 0, 1) := by decide +kernel
theorem dX5_isInTaggedImage_1 : decode cX5_isInTaggedImage 1 = .ok (.getfield 26, 3) := by decide +kernel
theorem dX5_isInTaggedImage_4 : decode cX5_isInTaggedImage 4 = .ok (.astore_n 2, 1) := by decide +kernel
theorem dX5_isInTaggedImage_5 : decode cX5_isInTaggedImage 5 = .ok (.aload_n 2, 1) := by decide +kernel
theorem dX5_isInTaggedImage_6 : decode cX5_isInTaggedImage 6 = .ok (.arraylength, 1) := by decide +kernel
theorem dX5_isInTaggedImage_7 : decode cX5_isInTaggedImage 7 = .ok (.istore_n 3, 1) := by decide +kernel
theorem dX5_isInTaggedImage_8 : decode cX5_isInTaggedImage 8 = .ok (.iconst 0, 1) := by decide +kernel
theorem dX5_isInTaggedImage_9 : decode cX5_isInTaggedImage 9 = .ok (.istore 4, 2) := by decide +kernel
theorem dX5_isInTaggedImage_11 : decode cX5_isInTaggedImage 11 = .ok (.iload 4, 2) := by decide +kernel
theorem dX5_isInTaggedImage_13 : decode cX5_isInTaggedImage 13 = .ok (.iload_n 3, 1) := by decide +kernel
theorem dX5_isInTaggedImage_14 : decode cX5_isInTaggedImage 14 = .ok (.if_icmp .ge 35, 3) := by decide +kernel
theorem dX5_isInTaggedImage_17 : decode cX5_isInTaggedImage 17 = .ok (.aload_n 2, 1) := by decide +kernel
theorem dX5_isInTaggedImage_18 : decode cX5_isInTaggedImage 18 = .ok (.iload 4, 2) := by decide +kernel
theorem dX5_isInTaggedImage_20 : decode cX5_isInTaggedImage 20 = .ok (.aaload, 1) := by decide +kernel
theorem dX5_isInTaggedImage_21 : decode cX5_isInTaggedImage 21 = .ok (.astore 5, 2) := by decide +kernel
theorem dX5_isInTaggedImage_23 : decode cX5_isInTaggedImage 23 = .ok (.aload 5, 2) := by decide +kernel
theorem dX5_isInTaggedImage_25 : decode cX5_isInTaggedImage 25 = .ok (.ifnull 18, 3) := by decide +kernel
theorem dX5_isInTaggedImage_28 : decode cX5_isInTaggedImage 28 = .ok (.aload 5, 2) := by decide +kernel
theorem dX5_isInTaggedImage_30 : decode cX5_isInTaggedImage 30 = .ok (.aload_n 1, 1) := by decide +kernel
theorem dX5_isInTaggedImage_31 : decode cX5_isInTaggedImage 31 = .ok (.getfield 192, 3) := by decide +kernel
theorem dX5_isInTaggedImage_34 : decode cX5_isInTaggedImage 34 = .ok (.invokevirtual 202, 3) := by decide +kernel
theorem dX5_isInTaggedImage_37 : decode cX5_isInTaggedImage 37 = .ok (.aload_n 1, 1) := by decide +kernel
theorem dX5_isInTaggedImage_38 : decode cX5_isInTaggedImage 38 = .ok (.if_acmp .ne 5, 3) := by decide +kernel
theorem dX5_isInTaggedImage_41 : decode cX5_isInTaggedImage 41 = .ok (.iconst 1, 1) := by decide +kernel
theorem dX5_isInTaggedImage_42 : decode cX5_isInTaggedImage 42 = .ok (.ireturn, 1) := by decide +kernel
theorem dX5_isInTaggedImage_43 : decode cX5_isInTaggedImage 43 = .ok (.iinc 4 1, 3) := by decide +kernel
theorem dX5_isInTaggedImage_46 : decode cX5_isInTaggedImage 46 = .ok (.goto (-35), 3) := by decide +kernel
theorem dX5_isInTaggedImage_49 : decode cX5_isInTaggedImage 49 = .ok (.iconst 0, 1) := by decide +kernel
theorem dX5_isInTaggedImage_50 : decode cX5_isInTaggedImage 50 = .ok (.ireturn, 1) := by decide +kernel
theorem dJ7_fill_53178_0 : decode cJ7_fill_53178 0 = .ok (.iconst 0, 1) := by decide +kernel
theorem dJ7_fill_53178_1 : decode cJ7_fill_53178 1 = .ok (.istore_n 2, 1) := by decide +kernel
theorem dJ7_fill_53178_2 : decode cJ7_fill_53178 2 = .ok (.aload_n 0, 1) := by decide +kernel
theorem dJ7_fill_53178_3 : decode cJ7_fill_53178 3 = .ok (.arraylength, 1) := by decide +kernel
theorem dJ7_fill_53178_4 : decode cJ7_fill_53178 4 = .ok (.istore_n 3, 1) := by decide +kernel
theorem dJ7_fill_53178_5 : decode cJ7_fill_53178 5 = .ok (.iload_n 2, 1) := by decide +kernel
theorem dJ7_fill_53178_6 : decode cJ7_fill_53178 6 = .ok (.iload_n 3, 1) := by decide +kernel
theorem dJ7_fill_53178_7 : decode cJ7_fill_53178 7 = .ok (.if_icmp .ge 13, 3) := by decide +kernel
theorem dJ7_fill_53178_10 : decode cJ7_fill_53178 10 = .ok (.aload_n 0, 1) := by decide +kernel
theorem dJ7_fill_53178_11 : decode cJ7_fill_53178 11 = .ok (.iload_n 2, 1) := by decide +kernel
theorem dJ7_fill_53178_12 : decode cJ7_fill_53178 12 = .ok (.iload_n 1, 1) := by decide +kernel
theorem dJ7_fill_53178_13 : decode cJ7_fill_53178 13 = .ok (.iastore, 1) := by decide +kernel
theorem dJ7_fill_53178_14 : decode cJ7_fill_53178 14 = .ok (.iinc 2 1, 3) := by decide +kernel
theorem dJ7_fill_53178_17 : decode cJ7_fill_53178 17 = .ok (.goto (-12), 3) := by decide +kernel
theorem dJ7_fill_53178_20 : decode cJ7_fill_53178 20 = .ok (.return_, 1) := by decide +kernel
theorem dL_part_0 : decode cL_part 0 = .ok (.iload_n 1, 1) := by decide +kernel
theorem dL_part_1 : decode cL_part 1 = .ok (.aload_n 0, 1) := by decide +kernel
theorem dL_part_2 : decode cL_part 2 = .ok (.arraylength, 1) := by decide +kernel
theorem dL_part_3 : decode cL_part 3 = .ok (.if_icmp .ge 9, 3) := by decide +kernel
theorem dL_part_6 : decode cL_part 6 = .ok (.aload_n 0, 1) := by decide +kernel
theorem dL_part_7 : decode cL_part 7 = .ok (.iload_n 1, 1) := by decide +kernel
theorem dL_part_8 : decode cL_part 8 = .ok (.iaload, 1) := by decide +kernel
theorem dL_part_9 : decode cL_part 9 = .ok (.goto 15, 3) := by decide +kernel
theorem dL_part_12 : decode cL_part 12 = .ok (.sipush 199, 3) := by decide +kernel
theorem dL_part_15 : decode cL_part 15 = .ok (.iload_n 1, 1) := by decide +kernel
theorem dL_part_16 : decode cL_part 16 = .ok (.imul, 1) := by decide +kernel
theorem dL_part_17 : decode cL_part 17 = .ok (.bipush 89, 2) := by decide +kernel
theorem dL_part_19 : decode cL_part 19 = .ok (.iload_n 1, 1) := by decide +kernel
theorem dL_part_20 : decode cL_part 20 = .ok (.imul, 1) := by decide +kernel
theorem dL_part_21 : decode cL_part 21 = .ok (.iload_n 1, 1) := by decide +kernel
theorem dL_part_22 : decode cL_part 22 = .ok (.imul, 1) := by decide +kernel
theorem dL_part_23 : decode cL_part 23 = .ok (.iadd, 1) := by decide +kernel
theorem dL_part_24 : decode cL_part 24 = .ok (.istore_n 3, 1) := by decide +kernel
theorem dL_part_25 : decode cL_part 25 = .ok (.iload_n 3, 1) := by decide +kernel
theorem dL_part_26 : decode cL_part 26 = .ok (.ldc 7, 2) := by decide +kernel
theorem dL_part_28 : decode cL_part 28 = .ok (.iand, 1) := by decide +kernel
theorem dL_part_29 : decode cL_part 29 = .ok (.iload_n 2, 1) := by decide +kernel
theorem dL_part_30 : decode cL_part 30 = .ok (.irem, 1) := by decide +kernel
theorem dL_part_31 : decode cL_part 31 = .ok (.ireturn, 1) := by decide +kernel
theorem dL_sets_0 : decode cL_sets 0 = .ok (.iload_n 1, 1) := by decide +kernel
theorem dL_sets_1 : decode cL_sets 1 = .ok (.ifCond .ne 12, 3) := by decide +kernel
theorem dL_sets_4 : decode cL_sets 4 = .ok (.aload_n 0, 1) := by decide +kernel
theorem dL_sets_5 : decode cL_sets 5 = .ok (.iload_n 2, 1) := by decide +kernel
theorem dL_sets_6 : decode cL_sets 6 = .ok (.iload_n 3, 1) := by decide +kernel
theorem dL_sets_7 : decode cL_sets 7 = .ok (.invokevirtual 8, 3) := by decide +kernel
theorem dL_sets_10 : decode cL_sets 10 = .ok (.goto 52, 3) := by decide +kernel
theorem dL_sets_13 : decode cL_sets 13 = .ok (.iload_n 1, 1) := by decide +kernel
theorem dL_sets_14 : decode cL_sets 14 = .ok (.iconst 1, 1) := by decide +kernel
theorem dL_sets_15 : decode cL_sets 15 = .ok (.if_icmp .ne 14, 3) := by decide +kernel
theorem dL_sets_18 : decode cL_sets 18 = .ok (.aload_n 0, 1) := by decide +kernel
theorem dL_sets_19 : decode cL_sets 19 = .ok (.iload_n 2, 1) := by decide +kernel
theorem dL_sets_20 : decode cL_sets 20 = .ok (.iload_n 3, 1) := by decide +kernel
theorem dL_sets_21 : decode cL_sets 21 = .ok (.iload 4, 2) := by decide +kernel
theorem dL_sets_23 : decode cL_sets 23 = .ok (.invokevirtual 14, 3) := by decide +kernel
theorem dL_sets_26 : decode cL_sets 26 = .ok (.goto 36, 3) := by decide +kernel
theorem dL_sets_29 : decode cL_sets 29 = .ok (.iload_n 1, 1) := by decide +kernel
theorem dL_sets_30 : decode cL_sets 30 = .ok (.iconst 2, 1) := by decide +kernel
theorem dL_sets_31 : decode cL_sets 31 = .ok (.if_icmp .ne 12, 3) := by decide +kernel
theorem dL_sets_34 : decode cL_sets 34 = .ok (.aload_n 0, 1) := by decide +kernel
theorem dL_sets_35 : decode cL_sets 35 = .ok (.iload_n 2, 1) := by decide +kernel
theorem dL_sets_36 : decode cL_sets 36 = .ok (.iload_n 3, 1) := by decide +kernel
theorem dL_sets_37 : decode cL_sets 37 = .ok (.invokevirtual 18, 3) := by decide +kernel
theorem dL_sets_40 : decode cL_sets 40 = .ok (.goto 22, 3) := by decide +kernel
theorem dL_sets_43 : decode cL_sets 43 = .ok (.iload_n 1, 1) := by decide +kernel
theorem dL_sets_44 : decode cL_sets 44 = .ok (.iconst 3, 1) := by decide +kernel
theorem dL_sets_45 : decode cL_sets 45 = .ok (.if_icmp .ne 12, 3) := by decide +kernel
theorem dL_sets_48 : decode cL_sets 48 = .ok (.aload_n 0, 1) := by decide +kernel
theorem dL_sets_49 : decode cL_sets 49 = .ok (.iload_n 2, 1) := by decide +kernel
theorem dL_sets_50 : decode cL_sets 50 = .ok (.iload_n 3, 1) := by decide +kernel
theorem dL_sets_51 : decode cL_sets 51 = .ok (.invokevirtual 21, 3) := by decide +kernel
theorem dL_sets_54 : decode cL_sets 54 = .ok (.goto 8, 3) := by decide +kernel
theorem dL_sets_57 : decode cL_sets 57 = .ok (.aload_n 0, 1) := by decide +kernel
theorem dL_sets_58 : decode cL_sets 58 = .ok (.iload_n 2, 1) := by decide +kernel
theorem dL_sets_59 : decode cL_sets 59 = .ok (.invokevirtual 24, 3) := by decide +kernel
theorem dL_sets_62 : decode cL_sets 62 = .ok (.ireturn, 1) := by decide +kernel
theorem dL_sets_63 : decode cL_sets 63 = .ok (.astore 5, 2) := by decide +kernel
theorem dL_sets_65 : decode cL_sets 65 = .ok (.bipush (-30), 2) := by decide +kernel
theorem dL_sets_67 : decode cL_sets 67 = .ok (.ireturn, 1) := by decide +kernel
theorem dL_sets_68 : decode cL_sets 68 = .ok (.astore 5, 2) := by decide +kernel
theorem dL_sets_70 : decode cL_sets 70 = .ok (.bipush (-20), 2) := by decide +kernel
theorem dL_sets_72 : decode cL_sets 72 = .ok (.ireturn, 1) := by decide +kernel
theorem dL_adds_0 : decode cL_adds 0 = .ok (.iload_n 1, 1) := by decide +kernel
theorem dL_adds_1 : decode cL_adds 1 = .ok (.ifCond .ne 14, 3) := by decide +kernel
theorem dL_adds_4 : decode cL_adds 4 = .ok (.aload_n 0, 1) := by decide +kernel
theorem dL_adds_5 : decode cL_adds 5 = .ok (.iload_n 2, 1) := by decide +kernel
theorem dL_adds_6 : decode cL_adds 6 = .ok (.iload_n 3, 1) := by decide +kernel
theorem dL_adds_7 : decode cL_adds 7 = .ok (.iload 4, 2) := by decide +kernel
theorem dL_adds_9 : decode cL_adds 9 = .ok (.invokevirtual 32, 3) := by decide +kernel
theorem dL_adds_12 : decode cL_adds 12 = .ok (.goto 57, 3) := by decide +kernel
theorem dL_adds_15 : decode cL_adds 15 = .ok (.iload_n 1, 1) := by decide +kernel
theorem dL_adds_16 : decode cL_adds 16 = .ok (.iconst 1, 1) := by decide +kernel
theorem dL_adds_17 : decode cL_adds 17 = .ok (.if_icmp .ne 14, 3) := by decide +kernel
theorem dL_adds_20 : decode cL_adds 20 = .ok (.aload_n 0, 1) := by decide +kernel
theorem dL_adds_21 : decode cL_adds 21 = .ok (.iload_n 2, 1) := by decide +kernel
theorem dL_adds_22 : decode cL_adds 22 = .ok (.iload_n 3, 1) := by decide +kernel
theorem dL_adds_23 : decode cL_adds 23 = .ok (.iload 4, 2) := by decide +kernel
theorem dL_adds_25 : decode cL_adds 25 = .ok (.invokevirtual 35, 3) := by decide +kernel
theorem dL_adds_28 : decode cL_adds 28 = .ok (.goto 41, 3) := by decide +kernel
theorem dL_adds_31 : decode cL_adds 31 = .ok (.iload_n 1, 1) := by decide +kernel
theorem dL_adds_32 : decode cL_adds 32 = .ok (.iconst 2, 1) := by decide +kernel
theorem dL_adds_33 : decode cL_adds 33 = .ok (.if_icmp .ne 14, 3) := by decide +kernel
theorem dL_adds_36 : decode cL_adds 36 = .ok (.aload_n 0, 1) := by decide +kernel
theorem dL_adds_37 : decode cL_adds 37 = .ok (.iload_n 2, 1) := by decide +kernel
theorem dL_adds_38 : decode cL_adds 38 = .ok (.iload_n 3, 1) := by decide +kernel
theorem dL_adds_39 : decode cL_adds 39 = .ok (.iload 4, 2) := by decide +kernel
theorem dL_adds_41 : decode cL_adds 41 = .ok (.invokevirtual 38, 3) := by decide +kernel
theorem dL_adds_44 : decode cL_adds 44 = .ok (.goto 25, 3) := by decide +kernel
theorem dL_adds_47 : decode cL_adds 47 = .ok (.iload_n 1, 1) := by decide +kernel
theorem dL_adds_48 : decode cL_adds 48 = .ok (.iconst 3, 1) := by decide +kernel
theorem dL_adds_49 : decode cL_adds 49 = .ok (.if_icmp .ne 12, 3) := by decide +kernel
theorem dL_adds_52 : decode cL_adds 52 = .ok (.aload_n 0, 1) := by decide +kernel
theorem dL_adds_53 : decode cL_adds 53 = .ok (.iload_n 2, 1) := by decide +kernel
theorem dL_adds_54 : decode cL_adds 54 = .ok (.iload_n 3, 1) := by decide +kernel
theorem dL_adds_55 : decode cL_adds 55 = .ok (.invokevirtual 41, 3) := by decide +kernel
theorem dL_adds_58 : decode cL_adds 58 = .ok (.goto 11, 3) := by decide +kernel
theorem dL_adds_61 : decode cL_adds 61 = .ok (.aload_n 0, 1) := by decide +kernel
theorem dL_adds_62 : decode cL_adds 62 = .ok (.iload_n 2, 1) := by decide +kernel
theorem dL_adds_63 : decode cL_adds 63 = .ok (.iload_n 3, 1) := by decide +kernel
theorem dL_adds_64 : decode cL_adds 64 = .ok (.iload 4, 2) := by decide +kernel
theorem dL_adds_66 : decode cL_adds 66 = .ok (.invokevirtual 44, 3) := by decide +kernel
theorem dL_adds_69 : decode cL_adds 69 = .ok (.ireturn, 1) := by decide +kernel
theorem dL_adds_70 : decode cL_adds 70 = .ok (.astore 5, 2) := by decide +kernel
theorem dL_adds_72 : decode cL_adds 72 = .ok (.bipush (-30), 2) := by decide +kernel
theorem dL_adds_74 : decode cL_adds 74 = .ok (.ireturn, 1) := by decide +kernel
theorem dL_adds_75 : decode cL_adds 75 = .ok (.astore 5, 2) := by decide +kernel
theorem dL_adds_77 : decode cL_adds 77 = .ok (.bipush (-20), 2) := by decide +kernel
theorem dL_adds_79 : decode cL_adds 79 = .ok (.ireturn, 1) := by decide +kernel
theorem dL_adds_80 : decode cL_adds 80 = .ok (.astore 5, 2) := by decide +kernel
theorem dL_adds_82 : decode cL_adds 82 = .ok (.bipush (-10), 2) := by decide +kernel
theorem dL_adds_84 : decode cL_adds 84 = .ok (.ireturn, 1) := by decide +kernel
theorem dL_builds_0 : decode cL_builds 0 = .ok (.iload_n 1, 1) := by decide +kernel
theorem dL_builds_1 : decode cL_builds 1 = .ok (.ifCond .ne 11, 3) := by decide +kernel
theorem dL_builds_4 : decode cL_builds 4 = .ok (.aload_n 0, 1) := by decide +kernel
theorem dL_builds_5 : decode cL_builds 5 = .ok (.iload_n 2, 1) := by decide +kernel
theorem dL_builds_6 : decode cL_builds 6 = .ok (.invokevirtual 49, 3) := by decide +kernel
theorem dL_builds_9 : decode cL_builds 9 = .ok (.goto 45, 3) := by decide +kernel
theorem dL_builds_12 : decode cL_builds 12 = .ok (.iload_n 1, 1) := by decide +kernel
theorem dL_builds_13 : decode cL_builds 13 = .ok (.iconst 1, 1) := by decide +kernel
theorem dL_builds_14 : decode cL_builds 14 = .ok (.if_icmp .ne 10, 3) := by decide +kernel
theorem dL_builds_17 : decode cL_builds 17 = .ok (.aload_n 0, 1) := by decide +kernel
theorem dL_builds_18 : decode cL_builds 18 = .ok (.invokevirtual 52, 3) := by decide +kernel
theorem dL_builds_21 : decode cL_builds 21 = .ok (.goto 33, 3) := by decide +kernel
theorem dL_builds_24 : decode cL_builds 24 = .ok (.iload_n 1, 1) := by decide +kernel
theorem dL_builds_25 : decode cL_builds 25 = .ok (.iconst 2, 1) := by decide +kernel
theorem dL_builds_26 : decode cL_builds 26 = .ok (.if_icmp .ne 11, 3) := by decide +kernel
theorem dL_builds_29 : decode cL_builds 29 = .ok (.aload_n 0, 1) := by decide +kernel
theorem dL_builds_30 : decode cL_builds 30 = .ok (.iload_n 2, 1) := by decide +kernel
theorem dL_builds_31 : decode cL_builds 31 = .ok (.invokevirtual 56, 3) := by decide +kernel
theorem dL_builds_34 : decode cL_builds 34 = .ok (.goto 20, 3) := by decide +kernel
theorem dL_builds_37 : decode cL_builds 37 = .ok (.iload_n 1, 1) := by decide +kernel
theorem dL_builds_38 : decode cL_builds 38 = .ok (.iconst 3, 1) := by decide +kernel
theorem dL_builds_39 : decode cL_builds 39 = .ok (.if_icmp .ne 11, 3) := by decide +kernel
theorem dL_builds_42 : decode cL_builds 42 = .ok (.aload_n 0, 1) := by decide +kernel
theorem dL_builds_43 : decode cL_builds 43 = .ok (.iload_n 2, 1) := by decide +kernel
theorem dL_builds_44 : decode cL_builds 44 = .ok (.invokevirtual 59, 3) := by decide +kernel
theorem dL_builds_47 : decode cL_builds 47 = .ok (.goto 7, 3) := by decide +kernel
theorem dL_builds_50 : decode cL_builds 50 = .ok (.aload_n 0, 1) := by decide +kernel
theorem dL_builds_51 : decode cL_builds 51 = .ok (.invokevirtual 62, 3) := by decide +kernel
theorem dL_builds_54 : decode cL_builds 54 = .ok (.ireturn, 1) := by decide +kernel
theorem dL_builds_55 : decode cL_builds 55 = .ok (.astore_n 3, 1) := by decide +kernel
theorem dL_builds_56 : decode cL_builds 56 = .ok (.bipush (-30), 2) := by decide +kernel
theorem dL_builds_58 : decode cL_builds 58 = .ok (.ireturn, 1) := by decide +kernel
theorem dL_builds_59 : decode cL_builds 59 = .ok (.astore_n 3, 1) := by decide +kernel
theorem dL_builds_60 : decode cL_builds 60 = .ok (.bipush (-10), 2) := by decide +kernel
theorem dL_builds_62 : decode cL_builds 62 = .ok (.ireturn, 1) := by decide +kernel
theorem dL_tags_0 : decode cL_tags 0 = .ok (.iload_n 1, 1) := by decide +kernel
theorem dL_tags_1 : decode cL_tags 1 = .ok (.ifCond .ne 11, 3) := by decide +kernel
theorem dL_tags_4 : decode cL_tags 4 = .ok (.aload_n 0, 1) := by decide +kernel
theorem dL_tags_5 : decode cL_tags 5 = .ok (.iload_n 2, 1) := by decide +kernel
theorem dL_tags_6 : decode cL_tags 6 = .ok (.invokevirtual 65, 3) := by decide +kernel
theorem dL_tags_9 : decode cL_tags 9 = .ok (.goto 49, 3) := by decide +kernel
theorem dL_tags_12 : decode cL_tags 12 = .ok (.iload_n 1, 1) := by decide +kernel
theorem dL_tags_13 : decode cL_tags 13 = .ok (.iconst 1, 1) := by decide +kernel
theorem dL_tags_14 : decode cL_tags 14 = .ok (.if_icmp .ne 11, 3) := by decide +kernel
theorem dL_tags_17 : decode cL_tags 17 = .ok (.aload_n 0, 1) := by decide +kernel
theorem dL_tags_18 : decode cL_tags 18 = .ok (.iload_n 2, 1) := by decide +kernel
theorem dL_tags_19 : decode cL_tags 19 = .ok (.invokevirtual 68, 3) := by decide +kernel
theorem dL_tags_22 : decode cL_tags 22 = .ok (.goto 36, 3) := by decide +kernel
theorem dL_tags_25 : decode cL_tags 25 = .ok (.iload_n 1, 1) := by decide +kernel
theorem dL_tags_26 : decode cL_tags 26 = .ok (.iconst 2, 1) := by decide +kernel
theorem dL_tags_27 : decode cL_tags 27 = .ok (.if_icmp .ne 11, 3) := by decide +kernel
theorem dL_tags_30 : decode cL_tags 30 = .ok (.aload_n 0, 1) := by decide +kernel
theorem dL_tags_31 : decode cL_tags 31 = .ok (.iload_n 2, 1) := by decide +kernel
theorem dL_tags_32 : decode cL_tags 32 = .ok (.invokevirtual 71, 3) := by decide +kernel
theorem dL_tags_35 : decode cL_tags 35 = .ok (.goto 23, 3) := by decide +kernel
theorem dL_tags_38 : decode cL_tags 38 = .ok (.iload_n 1, 1) := by decide +kernel
theorem dL_tags_39 : decode cL_tags 39 = .ok (.iconst 3, 1) := by decide +kernel
theorem dL_tags_40 : decode cL_tags 40 = .ok (.if_icmp .ne 12, 3) := by decide +kernel
theorem dL_tags_43 : decode cL_tags 43 = .ok (.aload_n 0, 1) := by decide +kernel
theorem dL_tags_44 : decode cL_tags 44 = .ok (.iload_n 2, 1) := by decide +kernel
theorem dL_tags_45 : decode cL_tags 45 = .ok (.iload_n 3, 1) := by decide +kernel
theorem dL_tags_46 : decode cL_tags 46 = .ok (.invokevirtual 74, 3) := by decide +kernel
theorem dL_tags_49 : decode cL_tags 49 = .ok (.goto 9, 3) := by decide +kernel
theorem dL_tags_52 : decode cL_tags 52 = .ok (.aload_n 0, 1) := by decide +kernel
theorem dL_tags_53 : decode cL_tags 53 = .ok (.iload_n 2, 1) := by decide +kernel
theorem dL_tags_54 : decode cL_tags 54 = .ok (.iload_n 3, 1) := by decide +kernel
theorem dL_tags_55 : decode cL_tags 55 = .ok (.invokevirtual 77, 3) := by decide +kernel
theorem dL_tags_58 : decode cL_tags 58 = .ok (.ireturn, 1) := by decide +kernel
theorem dL_tags_59 : decode cL_tags 59 = .ok (.astore 4, 2) := by decide +kernel
theorem dL_tags_61 : decode cL_tags 61 = .ok (.bipush (-30), 2) := by decide +kernel
theorem dL_tags_63 : decode cL_tags 63 = .ok (.ireturn, 1) := by decide +kernel
theorem dL_tags_64 : decode cL_tags 64 = .ok (.astore 4, 2) := by decide +kernel
theorem dL_tags_66 : decode cL_tags 66 = .ok (.bipush (-10), 2) := by decide +kernel
theorem dL_tags_68 : decode cL_tags 68 = .ok (.ireturn, 1) := by decide +kernel
theorem dL_tells_0 : decode cL_tells 0 = .ok (.iload_n 1, 1) := by decide +kernel
theorem dL_tells_1 : decode cL_tells 1 = .ok (.ifCond .ne 11, 3) := by decide +kernel
theorem dL_tells_4 : decode cL_tells 4 = .ok (.aload_n 0, 1) := by decide +kernel
theorem dL_tells_5 : decode cL_tells 5 = .ok (.iload_n 2, 1) := by decide +kernel
theorem dL_tells_6 : decode cL_tells 6 = .ok (.invokevirtual 80, 3) := by decide +kernel
theorem dL_tells_9 : decode cL_tells 9 = .ok (.goto 90, 3) := by decide +kernel
theorem dL_tells_12 : decode cL_tells 12 = .ok (.iload_n 1, 1) := by decide +kernel
theorem dL_tells_13 : decode cL_tells 13 = .ok (.iconst 1, 1) := by decide +kernel
theorem dL_tells_14 : decode cL_tells 14 = .ok (.if_icmp .ne 11, 3) := by decide +kernel
theorem dL_tells_17 : decode cL_tells 17 = .ok (.aload_n 0, 1) := by decide +kernel
theorem dL_tells_18 : decode cL_tells 18 = .ok (.iload_n 2, 1) := by decide +kernel
theorem dL_tells_19 : decode cL_tells 19 = .ok (.invokevirtual 83, 3) := by decide +kernel
theorem dL_tells_22 : decode cL_tells 22 = .ok (.goto 77, 3) := by decide +kernel
theorem dL_tells_25 : decode cL_tells 25 = .ok (.iload_n 1, 1) := by decide +kernel
theorem dL_tells_26 : decode cL_tells 26 = .ok (.iconst 2, 1) := by decide +kernel
theorem dL_tells_27 : decode cL_tells 27 = .ok (.if_icmp .ne 12, 3) := by decide +kernel
theorem dL_tells_30 : decode cL_tells 30 = .ok (.aload_n 0, 1) := by decide +kernel
theorem dL_tells_31 : decode cL_tells 31 = .ok (.iload_n 2, 1) := by decide +kernel
theorem dL_tells_32 : decode cL_tells 32 = .ok (.iload_n 3, 1) := by decide +kernel
theorem dL_tells_33 : decode cL_tells 33 = .ok (.invokevirtual 86, 3) := by decide +kernel
theorem dL_tells_36 : decode cL_tells 36 = .ok (.goto 63, 3) := by decide +kernel
theorem dL_tells_39 : decode cL_tells 39 = .ok (.iload_n 1, 1) := by decide +kernel
theorem dL_tells_40 : decode cL_tells 40 = .ok (.iconst 3, 1) := by decide +kernel
theorem dL_tells_41 : decode cL_tells 41 = .ok (.if_icmp .ne 12, 3) := by decide +kernel
theorem dL_tells_44 : decode cL_tells 44 = .ok (.aload_n 0, 1) := by decide +kernel
theorem dL_tells_45 : decode cL_tells 45 = .ok (.iload_n 2, 1) := by decide +kernel
theorem dL_tells_46 : decode cL_tells 46 = .ok (.iload_n 3, 1) := by decide +kernel
theorem dL_tells_47 : decode cL_tells 47 = .ok (.invokevirtual 89, 3) := by decide +kernel
theorem dL_tells_50 : decode cL_tells 50 = .ok (.goto 49, 3) := by decide +kernel
theorem dL_tells_53 : decode cL_tells 53 = .ok (.iload_n 1, 1) := by decide +kernel
theorem dL_tells_54 : decode cL_tells 54 = .ok (.iconst 4, 1) := by decide +kernel
theorem dL_tells_55 : decode cL_tells 55 = .ok (.if_icmp .ne 12, 3) := by decide +kernel
theorem dL_tells_58 : decode cL_tells 58 = .ok (.aload_n 0, 1) := by decide +kernel
theorem dL_tells_59 : decode cL_tells 59 = .ok (.iload_n 2, 1) := by decide +kernel
theorem dL_tells_60 : decode cL_tells 60 = .ok (.iload_n 3, 1) := by decide +kernel
theorem dL_tells_61 : decode cL_tells 61 = .ok (.invokevirtual 92, 3) := by decide +kernel
theorem dL_tells_64 : decode cL_tells 64 = .ok (.goto 35, 3) := by decide +kernel
theorem dL_tells_67 : decode cL_tells 67 = .ok (.iload_n 1, 1) := by decide +kernel
theorem dL_tells_68 : decode cL_tells 68 = .ok (.iconst 5, 1) := by decide +kernel
theorem dL_tells_69 : decode cL_tells 69 = .ok (.if_icmp .ne 11, 3) := by decide +kernel
theorem dL_tells_72 : decode cL_tells 72 = .ok (.aload_n 0, 1) := by decide +kernel
theorem dL_tells_73 : decode cL_tells 73 = .ok (.iload_n 2, 1) := by decide +kernel
theorem dL_tells_74 : decode cL_tells 74 = .ok (.invokevirtual 95, 3) := by decide +kernel
theorem dL_tells_77 : decode cL_tells 77 = .ok (.goto 22, 3) := by decide +kernel
theorem dL_tells_80 : decode cL_tells 80 = .ok (.iload_n 1, 1) := by decide +kernel
theorem dL_tells_81 : decode cL_tells 81 = .ok (.bipush 6, 2) := by decide +kernel
theorem dL_tells_83 : decode cL_tells 83 = .ok (.if_icmp .ne 11, 3) := by decide +kernel
theorem dL_tells_86 : decode cL_tells 86 = .ok (.aload_n 0, 1) := by decide +kernel
theorem dL_tells_87 : decode cL_tells 87 = .ok (.iload_n 2, 1) := by decide +kernel
theorem dL_tells_88 : decode cL_tells 88 = .ok (.invokevirtual 98, 3) := by decide +kernel
theorem dL_tells_91 : decode cL_tells 91 = .ok (.goto 8, 3) := by decide +kernel
theorem dL_tells_94 : decode cL_tells 94 = .ok (.aload_n 0, 1) := by decide +kernel
theorem dL_tells_95 : decode cL_tells 95 = .ok (.iload_n 2, 1) := by decide +kernel
theorem dL_tells_96 : decode cL_tells 96 = .ok (.invokevirtual 101, 3) := by decide +kernel
theorem dL_tells_99 : decode cL_tells 99 = .ok (.ireturn, 1) := by decide +kernel
theorem dL_tells_100 : decode cL_tells 100 = .ok (.astore 4, 2) := by decide +kernel
theorem dL_tells_102 : decode cL_tells 102 = .ok (.bipush (-30), 2) := by decide +kernel
theorem dL_tells_104 : decode cL_tells 104 = .ok (.ireturn, 1) := by decide +kernel
theorem dL_isLayer_0 : decode cL_isLayer 0 = .ok (.aload_n 0, 1) := by decide +kernel
theorem dL_isLayer_1 : decode cL_isLayer 1 = .ok (.iload_n 1, 1) := by decide +kernel
theorem dL_isLayer_2 : decode cL_isLayer 2 = .ok (.invokevirtual 80, 3) := by decide +kernel
theorem dL_isLayer_5 : decode cL_isLayer 5 = .ok (.istore_n 2, 1) := by decide +kernel
theorem dL_isLayer_6 : decode cL_isLayer 6 = .ok (.iconst 0, 1) := by decide +kernel
theorem dL_isLayer_7 : decode cL_isLayer 7 = .ok (.istore_n 3, 1) := by decide +kernel
theorem dL_isLayer_8 : decode cL_isLayer 8 = .ok (.iconst 1, 1) := by decide +kernel
theorem dL_isLayer_9 : decode cL_isLayer 9 = .ok (.istore 4, 2) := by decide +kernel
theorem dL_isLayer_11 : decode cL_isLayer 11 = .ok (.iload_n 2, 1) := by decide +kernel
theorem dL_isLayer_12 : decode cL_isLayer 12 = .ok (.iload_n 1, 1) := by decide +kernel
theorem dL_isLayer_13 : decode cL_isLayer 13 = .ok (.if_icmp .ge 23, 3) := by decide +kernel
theorem dL_isLayer_16 : decode cL_isLayer 16 = .ok (.iload_n 2, 1) := by decide +kernel
theorem dL_isLayer_17 : decode cL_isLayer 17 = .ok (.ifCond .lt 15, 3) := by decide +kernel
theorem dL_isLayer_20 : decode cL_isLayer 20 = .ok (.aload_n 0, 1) := by decide +kernel
theorem dL_isLayer_21 : decode cL_isLayer 21 = .ok (.iconst 0, 1) := by decide +kernel
theorem dL_isLayer_22 : decode cL_isLayer 22 = .ok (.iload_n 2, 1) := by decide +kernel
theorem dL_isLayer_23 : decode cL_isLayer 23 = .ok (.iconst 0, 1) := by decide +kernel
theorem dL_isLayer_24 : decode cL_isLayer 24 = .ok (.invokestatic 104, 3) := by decide +kernel
theorem dL_isLayer_27 : decode cL_isLayer 27 = .ok (.bipush (-30), 2) := by decide +kernel
theorem dL_isLayer_29 : decode cL_isLayer 29 = .ok (.if_icmp .le 7, 3) := by decide +kernel
theorem dL_isLayer_32 : decode cL_isLayer 32 = .ok (.iconst 1, 1) := by decide +kernel
theorem dL_isLayer_33 : decode cL_isLayer 33 = .ok (.goto 4, 3) := by decide +kernel
theorem dL_isLayer_36 : decode cL_isLayer 36 = .ok (.iconst 0, 1) := by decide +kernel
theorem dL_isLayer_37 : decode cL_isLayer 37 = .ok (.istore 5, 2) := by decide +kernel
theorem dL_isLayer_39 : decode cL_isLayer 39 = .ok (.iconst 0, 1) := by decide +kernel
theorem dL_isLayer_40 : decode cL_isLayer 40 = .ok (.istore 6, 2) := by decide +kernel
theorem dL_isLayer_42 : decode cL_isLayer 42 = .ok (.iload 6, 2) := by decide +kernel
theorem dL_isLayer_44 : decode cL_isLayer 44 = .ok (.bipush 12, 2) := by decide +kernel
theorem dL_isLayer_46 : decode cL_isLayer 46 = .ok (.if_icmp .ge 154, 3) := by decide +kernel
theorem dL_isLayer_49 : decode cL_isLayer 49 = .ok (.iload 5, 2) := by decide +kernel
theorem dL_isLayer_51 : decode cL_isLayer 51 = .ok (.ifCond .eq 149, 3) := by decide +kernel
theorem dL_isLayer_54 : decode cL_isLayer 54 = .ok (.aload_n 0, 1) := by decide +kernel
theorem dL_isLayer_55 : decode cL_isLayer 55 = .ok (.iload_n 1, 1) := by decide +kernel
theorem dL_isLayer_56 : decode cL_isLayer 56 = .ok (.iload 6, 2) := by decide +kernel
theorem dL_isLayer_58 : decode cL_isLayer 58 = .ok (.invokevirtual 86, 3) := by decide +kernel
theorem dL_isLayer_61 : decode cL_isLayer 61 = .ok (.istore 7, 2) := by decide +kernel
theorem dL_isLayer_63 : decode cL_isLayer 63 = .ok (.iload_n 2, 1) := by decide +kernel
theorem dL_isLayer_64 : decode cL_isLayer 64 = .ok (.ifCond .ge 7, 3) := by decide +kernel
theorem dL_isLayer_67 : decode cL_isLayer 67 = .ok (.iconst (-1), 1) := by decide +kernel
theorem dL_isLayer_68 : decode cL_isLayer 68 = .ok (.goto 10, 3) := by decide +kernel
theorem dL_isLayer_71 : decode cL_isLayer 71 = .ok (.aload_n 0, 1) := by decide +kernel
theorem dL_isLayer_72 : decode cL_isLayer 72 = .ok (.iload_n 2, 1) := by decide +kernel
theorem dL_isLayer_73 : decode cL_isLayer 73 = .ok (.iload 6, 2) := by decide +kernel
theorem dL_isLayer_75 : decode cL_isLayer 75 = .ok (.invokevirtual 89, 3) := by decide +kernel
theorem dL_isLayer_78 : decode cL_isLayer 78 = .ok (.istore 8, 2) := by decide +kernel
theorem dL_isLayer_80 : decode cL_isLayer 80 = .ok (.aload_n 0, 1) := by decide +kernel
theorem dL_isLayer_81 : decode cL_isLayer 81 = .ok (.iload_n 1, 1) := by decide +kernel
theorem dL_isLayer_82 : decode cL_isLayer 82 = .ok (.iload 6, 2) := by decide +kernel
theorem dL_isLayer_84 : decode cL_isLayer 84 = .ok (.invokevirtual 89, 3) := by decide +kernel
theorem dL_isLayer_87 : decode cL_isLayer 87 = .ok (.istore 9, 2) := by decide +kernel
theorem dL_isLayer_89 : decode cL_isLayer 89 = .ok (.iload_n 3, 1) := by decide +kernel
theorem dL_isLayer_90 : decode cL_isLayer 90 = .ok (.iload 7, 2) := by decide +kernel
theorem dL_isLayer_92 : decode cL_isLayer 92 = .ok (.iconst (-1), 1) := by decide +kernel
theorem dL_isLayer_93 : decode cL_isLayer 93 = .ok (.if_icmp .ne 7, 3) := by decide +kernel
theorem dL_isLayer_96 : decode cL_isLayer 96 = .ok (.iconst 0, 1) := by decide +kernel
theorem dL_isLayer_97 : decode cL_isLayer 97 = .ok (.goto 4, 3) := by decide +kernel
theorem dL_isLayer_100 : decode cL_isLayer 100 = .ok (.iconst 1, 1) := by decide +kernel
theorem dL_isLayer_101 : decode cL_isLayer 101 = .ok (.iadd, 1) := by decide +kernel
theorem dL_isLayer_102 : decode cL_isLayer 102 = .ok (.istore_n 3, 1) := by decide +kernel
theorem dL_isLayer_103 : decode cL_isLayer 103 = .ok (.iload 9, 2) := by decide +kernel
theorem dL_isLayer_105 : decode cL_isLayer 105 = .ok (.iload 7, 2) := by decide +kernel
theorem dL_isLayer_107 : decode cL_isLayer 107 = .ok (.iconst (-1), 1) := by decide +kernel
theorem dL_isLayer_108 : decode cL_isLayer 108 = .ok (.if_icmp .ne 8, 3) := by decide +kernel
theorem dL_isLayer_111 : decode cL_isLayer 111 = .ok (.iload 8, 2) := by decide +kernel
theorem dL_isLayer_113 : decode cL_isLayer 113 = .ok (.goto 16, 3) := by decide +kernel
theorem dL_isLayer_116 : decode cL_isLayer 116 = .ok (.iload 7, 2) := by decide +kernel
theorem dL_isLayer_118 : decode cL_isLayer 118 = .ok (.bipush (-2), 2) := by decide +kernel
theorem dL_isLayer_120 : decode cL_isLayer 120 = .ok (.if_icmp .ne 7, 3) := by decide +kernel
theorem dL_isLayer_123 : decode cL_isLayer 123 = .ok (.iconst (-1), 1) := by decide +kernel
theorem dL_isLayer_124 : decode cL_isLayer 124 = .ok (.goto 5, 3) := by decide +kernel
theorem dL_isLayer_127 : decode cL_isLayer 127 = .ok (.iload 7, 2) := by decide +kernel
theorem dL_isLayer_129 : decode cL_isLayer 129 = .ok (.if_icmp .ne 33, 3) := by decide +kernel
theorem dL_isLayer_132 : decode cL_isLayer 132 = .ok (.iload 7, 2) := by decide +kernel
theorem dL_isLayer_134 : decode cL_isLayer 134 = .ok (.bipush (-2), 2) := by decide +kernel
theorem dL_isLayer_136 : decode cL_isLayer 136 = .ok (.if_icmp .lt 26, 3) := by decide +kernel
theorem dL_isLayer_139 : decode cL_isLayer 139 = .ok (.iload 7, 2) := by decide +kernel
theorem dL_isLayer_141 : decode cL_isLayer 141 = .ok (.sipush 10007, 3) := by decide +kernel
theorem dL_isLayer_144 : decode cL_isLayer 144 = .ok (.if_icmp .ge 18, 3) := by decide +kernel
theorem dL_isLayer_147 : decode cL_isLayer 147 = .ok (.iload_n 2, 1) := by decide +kernel
theorem dL_isLayer_148 : decode cL_isLayer 148 = .ok (.ifCond .ge 10, 3) := by decide +kernel
theorem dL_isLayer_151 : decode cL_isLayer 151 = .ok (.iload 7, 2) := by decide +kernel
theorem dL_isLayer_153 : decode cL_isLayer 153 = .ok (.bipush (-2), 2) := by decide +kernel
theorem dL_isLayer_155 : decode cL_isLayer 155 = .ok (.if_icmp .eq 7, 3) := by decide +kernel
theorem dL_isLayer_158 : decode cL_isLayer 158 = .ok (.iconst 1, 1) := by decide +kernel
theorem dL_isLayer_159 : decode cL_isLayer 159 = .ok (.goto 4, 3) := by decide +kernel
theorem dL_isLayer_162 : decode cL_isLayer 162 = .ok (.iconst 0, 1) := by decide +kernel
theorem dL_isLayer_163 : decode cL_isLayer 163 = .ok (.istore 5, 2) := by decide +kernel
theorem dL_isLayer_165 : decode cL_isLayer 165 = .ok (.iload 9, 2) := by decide +kernel
theorem dL_isLayer_167 : decode cL_isLayer 167 = .ok (.ifCond .ge 8, 3) := by decide +kernel
theorem dL_isLayer_170 : decode cL_isLayer 170 = .ok (.iload 4, 2) := by decide +kernel
theorem dL_isLayer_172 : decode cL_isLayer 172 = .ok (.goto 20, 3) := by decide +kernel
theorem dL_isLayer_175 : decode cL_isLayer 175 = .ok (.bipush 31, 2) := by decide +kernel
theorem dL_isLayer_177 : decode cL_isLayer 177 = .ok (.iload 4, 2) := by decide +kernel
theorem dL_isLayer_179 : decode cL_isLayer 179 = .ok (.imul, 1) := by decide +kernel
theorem dL_isLayer_180 : decode cL_isLayer 180 = .ok (.bipush 101, 2) := by decide +kernel
theorem dL_isLayer_182 : decode cL_isLayer 182 = .ok (.iload 6, 2) := by decide +kernel
theorem dL_isLayer_184 : decode cL_isLayer 184 = .ok (.imul, 1) := by decide +kernel
theorem dL_isLayer_185 : decode cL_isLayer 185 = .ok (.iadd, 1) := by decide +kernel
theorem dL_isLayer_186 : decode cL_isLayer 186 = .ok (.iload 9, 2) := by decide +kernel
theorem dL_isLayer_188 : decode cL_isLayer 188 = .ok (.iadd, 1) := by decide +kernel
theorem dL_isLayer_189 : decode cL_isLayer 189 = .ok (.ldc 110, 2) := by decide +kernel
theorem dL_isLayer_191 : decode cL_isLayer 191 = .ok (.irem, 1) := by decide +kernel
theorem dL_isLayer_192 : decode cL_isLayer 192 = .ok (.istore 4, 2) := by decide +kernel
theorem dL_isLayer_194 : decode cL_isLayer 194 = .ok (.iinc 6 1, 3) := by decide +kernel
theorem dL_isLayer_197 : decode cL_isLayer 197 = .ok (.goto (-155), 3) := by decide +kernel
theorem dL_isLayer_200 : decode cL_isLayer 200 = .ok (.iconst 0, 1) := by decide +kernel
theorem dL_isLayer_201 : decode cL_isLayer 201 = .ok (.istore 6, 2) := by decide +kernel
theorem dL_isLayer_203 : decode cL_isLayer 203 = .ok (.iload 6, 2) := by decide +kernel
theorem dL_isLayer_205 : decode cL_isLayer 205 = .ok (.iconst 4, 1) := by decide +kernel
theorem dL_isLayer_206 : decode cL_isLayer 206 = .ok (.if_icmp .ge 52, 3) := by decide +kernel
theorem dL_isLayer_209 : decode cL_isLayer 209 = .ok (.iload 5, 2) := by decide +kernel
theorem dL_isLayer_211 : decode cL_isLayer 211 = .ok (.ifCond .eq 47, 3) := by decide +kernel
theorem dL_isLayer_214 : decode cL_isLayer 214 = .ok (.aload_n 0, 1) := by decide +kernel
theorem dL_isLayer_215 : decode cL_isLayer 215 = .ok (.iload_n 1, 1) := by decide +kernel
theorem dL_isLayer_216 : decode cL_isLayer 216 = .ok (.iload 6, 2) := by decide +kernel
theorem dL_isLayer_218 : decode cL_isLayer 218 = .ok (.invokevirtual 92, 3) := by decide +kernel
theorem dL_isLayer_221 : decode cL_isLayer 221 = .ok (.istore 7, 2) := by decide +kernel
theorem dL_isLayer_223 : decode cL_isLayer 223 = .ok (.iload 7, 2) := by decide +kernel
theorem dL_isLayer_225 : decode cL_isLayer 225 = .ok (.ifCond .lt 24, 3) := by decide +kernel
theorem dL_isLayer_228 : decode cL_isLayer 228 = .ok (.iload 7, 2) := by decide +kernel
theorem dL_isLayer_230 : decode cL_isLayer 230 = .ok (.sipush 1000, 3) := by decide +kernel
theorem dL_isLayer_233 : decode cL_isLayer 233 = .ok (.if_icmp .ge 16, 3) := by decide +kernel
theorem dL_isLayer_236 : decode cL_isLayer 236 = .ok (.iload_n 2, 1) := by decide +kernel
theorem dL_isLayer_237 : decode cL_isLayer 237 = .ok (.ifCond .ge 8, 3) := by decide +kernel
theorem dL_isLayer_240 : decode cL_isLayer 240 = .ok (.iload 7, 2) := by decide +kernel
theorem dL_isLayer_242 : decode cL_isLayer 242 = .ok (.ifCond .ne 7, 3) := by decide +kernel
theorem dL_isLayer_245 : decode cL_isLayer 245 = .ok (.iconst 1, 1) := by decide +kernel
theorem dL_isLayer_246 : decode cL_isLayer 246 = .ok (.goto 4, 3) := by decide +kernel
theorem dL_isLayer_249 : decode cL_isLayer 249 = .ok (.iconst 0, 1) := by decide +kernel
theorem dL_isLayer_250 : decode cL_isLayer 250 = .ok (.istore 5, 2) := by decide +kernel
theorem dL_isLayer_252 : decode cL_isLayer 252 = .ok (.iinc 6 1, 3) := by decide +kernel
theorem dL_isLayer_255 : decode cL_isLayer 255 = .ok (.goto (-52), 3) := by decide +kernel
theorem dL_isLayer_258 : decode cL_isLayer 258 = .ok (.iload 5, 2) := by decide +kernel
theorem dL_isLayer_260 : decode cL_isLayer 260 = .ok (.ifCond .eq 97, 3) := by decide +kernel
theorem dL_isLayer_263 : decode cL_isLayer 263 = .ok (.aload_n 0, 1) := by decide +kernel
theorem dL_isLayer_264 : decode cL_isLayer 264 = .ok (.iload_n 1, 1) := by decide +kernel
theorem dL_isLayer_265 : decode cL_isLayer 265 = .ok (.invokevirtual 83, 3) := by decide +kernel
theorem dL_isLayer_268 : decode cL_isLayer 268 = .ok (.iload_n 3, 1) := by decide +kernel
theorem dL_isLayer_269 : decode cL_isLayer 269 = .ok (.if_icmp .ne 88, 3) := by decide +kernel
theorem dL_isLayer_272 : decode cL_isLayer 272 = .ok (.aload_n 0, 1) := by decide +kernel
theorem dL_isLayer_273 : decode cL_isLayer 273 = .ok (.iload_n 1, 1) := by decide +kernel
theorem dL_isLayer_274 : decode cL_isLayer 274 = .ok (.invokevirtual 101, 3) := by decide +kernel
theorem dL_isLayer_277 : decode cL_isLayer 277 = .ok (.iload 4, 2) := by decide +kernel
theorem dL_isLayer_279 : decode cL_isLayer 279 = .ok (.if_icmp .ne 78, 3) := by decide +kernel
theorem dL_isLayer_282 : decode cL_isLayer 282 = .ok (.aload_n 0, 1) := by decide +kernel
theorem dL_isLayer_283 : decode cL_isLayer 283 = .ok (.iload_n 1, 1) := by decide +kernel
theorem dL_isLayer_284 : decode cL_isLayer 284 = .ok (.invokevirtual 95, 3) := by decide +kernel
theorem dL_isLayer_287 : decode cL_isLayer 287 = .ok (.iload_n 2, 1) := by decide +kernel
theorem dL_isLayer_288 : decode cL_isLayer 288 = .ok (.ifCond .ge 7, 3) := by decide +kernel
theorem dL_isLayer_291 : decode cL_isLayer 291 = .ok (.iconst 1, 1) := by decide +kernel
theorem dL_isLayer_292 : decode cL_isLayer 292 = .ok (.goto 10, 3) := by decide +kernel
theorem dL_isLayer_295 : decode cL_isLayer 295 = .ok (.aload_n 0, 1) := by decide +kernel
theorem dL_isLayer_296 : decode cL_isLayer 296 = .ok (.iload_n 2, 1) := by decide +kernel
theorem dL_isLayer_297 : decode cL_isLayer 297 = .ok (.invokevirtual 95, 3) := by decide +kernel
theorem dL_isLayer_300 : decode cL_isLayer 300 = .ok (.iconst 1, 1) := by decide +kernel
theorem dL_isLayer_301 : decode cL_isLayer 301 = .ok (.iadd, 1) := by decide +kernel
theorem dL_isLayer_302 : decode cL_isLayer 302 = .ok (.if_icmp .ne 55, 3) := by decide +kernel
theorem dL_isLayer_305 : decode cL_isLayer 305 = .ok (.aload_n 0, 1) := by decide +kernel
theorem dL_isLayer_306 : decode cL_isLayer 306 = .ok (.iload_n 1, 1) := by decide +kernel
theorem dL_isLayer_307 : decode cL_isLayer 307 = .ok (.invokevirtual 98, 3) := by decide +kernel
theorem dL_isLayer_310 : decode cL_isLayer 310 = .ok (.iload_n 3, 1) := by decide +kernel
theorem dL_isLayer_311 : decode cL_isLayer 311 = .ok (.iload_n 2, 1) := by decide +kernel
theorem dL_isLayer_312 : decode cL_isLayer 312 = .ok (.ifCond .ge 7, 3) := by decide +kernel
theorem dL_isLayer_315 : decode cL_isLayer 315 = .ok (.iconst 0, 1) := by decide +kernel
theorem dL_isLayer_316 : decode cL_isLayer 316 = .ok (.goto 8, 3) := by decide +kernel
theorem dL_isLayer_319 : decode cL_isLayer 319 = .ok (.aload_n 0, 1) := by decide +kernel
theorem dL_isLayer_320 : decode cL_isLayer 320 = .ok (.iload_n 2, 1) := by decide +kernel
theorem dL_isLayer_321 : decode cL_isLayer 321 = .ok (.invokevirtual 98, 3) := by decide +kernel
theorem dL_isLayer_324 : decode cL_isLayer 324 = .ok (.iadd, 1) := by decide +kernel
theorem dL_isLayer_325 : decode cL_isLayer 325 = .ok (.if_icmp .ne 32, 3) := by decide +kernel
theorem dL_isLayer_328 : decode cL_isLayer 328 = .ok (.aload_n 0, 1) := by decide +kernel
theorem dL_isLayer_329 : decode cL_isLayer 329 = .ok (.iconst 2, 1) := by decide +kernel
theorem dL_isLayer_330 : decode cL_isLayer 330 = .ok (.iload_n 1, 1) := by decide +kernel
theorem dL_isLayer_331 : decode cL_isLayer 331 = .ok (.bipush 12, 2) := by decide +kernel
theorem dL_isLayer_333 : decode cL_isLayer 333 = .ok (.invokestatic 104, 3) := by decide +kernel
theorem dL_isLayer_336 : decode cL_isLayer 336 = .ok (.bipush (-30), 2) := by decide +kernel
theorem dL_isLayer_338 : decode cL_isLayer 338 = .ok (.if_icmp .ne 19, 3) := by decide +kernel
theorem dL_isLayer_341 : decode cL_isLayer 341 = .ok (.aload_n 0, 1) := by decide +kernel
theorem dL_isLayer_342 : decode cL_isLayer 342 = .ok (.iconst 4, 1) := by decide +kernel
theorem dL_isLayer_343 : decode cL_isLayer 343 = .ok (.iload_n 1, 1) := by decide +kernel
theorem dL_isLayer_344 : decode cL_isLayer 344 = .ok (.iconst 4, 1) := by decide +kernel
theorem dL_isLayer_345 : decode cL_isLayer 345 = .ok (.invokestatic 104, 3) := by decide +kernel
theorem dL_isLayer_348 : decode cL_isLayer 348 = .ok (.bipush (-30), 2) := by decide +kernel
theorem dL_isLayer_350 : decode cL_isLayer 350 = .ok (.if_icmp .ne 7, 3) := by decide +kernel
theorem dL_isLayer_353 : decode cL_isLayer 353 = .ok (.iconst 1, 1) := by decide +kernel
theorem dL_isLayer_354 : decode cL_isLayer 354 = .ok (.goto 4, 3) := by decide +kernel
theorem dL_isLayer_357 : decode cL_isLayer 357 = .ok (.iconst 0, 1) := by decide +kernel
theorem dL_isLayer_358 : decode cL_isLayer 358 = .ok (.ireturn, 1) := by decide +kernel
theorem dL_areAll_0 : decode cL_areAll 0 = .ok (.aload_n 0, 1) := by decide +kernel
theorem dL_areAll_1 : decode cL_areAll 1 = .ok (.invokevirtual 111, 3) := by decide +kernel
theorem dL_areAll_4 : decode cL_areAll 4 = .ok (.istore_n 2, 1) := by decide +kernel
theorem dL_areAll_5 : decode cL_areAll 5 = .ok (.aload_n 0, 1) := by decide +kernel
theorem dL_areAll_6 : decode cL_areAll 6 = .ok (.iconst 0, 1) := by decide +kernel
theorem dL_areAll_7 : decode cL_areAll 7 = .ok (.iload_n 2, 1) := by decide +kernel
theorem dL_areAll_8 : decode cL_areAll 8 = .ok (.iconst 0, 1) := by decide +kernel
theorem dL_areAll_9 : decode cL_areAll 9 = .ok (.invokestatic 104, 3) := by decide +kernel
theorem dL_areAll_12 : decode cL_areAll 12 = .ok (.bipush (-30), 2) := by decide +kernel
theorem dL_areAll_14 : decode cL_areAll 14 = .ok (.if_icmp .ne 52, 3) := by decide +kernel
theorem dL_areAll_17 : decode cL_areAll 17 = .ok (.aload_n 0, 1) := by decide +kernel
theorem dL_areAll_18 : decode cL_areAll 18 = .ok (.bipush 7, 2) := by decide +kernel
theorem dL_areAll_20 : decode cL_areAll 20 = .ok (.iconst (-1), 1) := by decide +kernel
theorem dL_areAll_21 : decode cL_areAll 21 = .ok (.iconst 0, 1) := by decide +kernel
theorem dL_areAll_22 : decode cL_areAll 22 = .ok (.invokestatic 104, 3) := by decide +kernel
theorem dL_areAll_25 : decode cL_areAll 25 = .ok (.bipush (-30), 2) := by decide +kernel
theorem dL_areAll_27 : decode cL_areAll 27 = .ok (.if_icmp .ne 39, 3) := by decide +kernel
theorem dL_areAll_30 : decode cL_areAll 30 = .ok (.aload_n 0, 1) := by decide +kernel
theorem dL_areAll_31 : decode cL_areAll 31 = .ok (.invokevirtual 114, 3) := by decide +kernel
theorem dL_areAll_34 : decode cL_areAll 34 = .ok (.iload_n 2, 1) := by decide +kernel
theorem dL_areAll_35 : decode cL_areAll 35 = .ok (.if_icmp .ge 31, 3) := by decide +kernel
theorem dL_areAll_38 : decode cL_areAll 38 = .ok (.aload_n 0, 1) := by decide +kernel
theorem dL_areAll_39 : decode cL_areAll 39 = .ok (.invokevirtual 117, 3) := by decide +kernel
theorem dL_areAll_42 : decode cL_areAll 42 = .ok (.ifCond .eq 11, 3) := by decide +kernel
theorem dL_areAll_45 : decode cL_areAll 45 = .ok (.aload_n 0, 1) := by decide +kernel
theorem dL_areAll_46 : decode cL_areAll 46 = .ok (.invokevirtual 114, 3) := by decide +kernel
theorem dL_areAll_49 : decode cL_areAll 49 = .ok (.iconst (-1), 1) := by decide +kernel
theorem dL_areAll_50 : decode cL_areAll 50 = .ok (.if_icmp .ne 16, 3) := by decide +kernel
theorem dL_areAll_53 : decode cL_areAll 53 = .ok (.aload_n 0, 1) := by decide +kernel
theorem dL_areAll_54 : decode cL_areAll 54 = .ok (.invokevirtual 117, 3) := by decide +kernel
theorem dL_areAll_57 : decode cL_areAll 57 = .ok (.bipush 11, 2) := by decide +kernel
theorem dL_areAll_59 : decode cL_areAll 59 = .ok (.if_icmp .ge 7, 3) := by decide +kernel
theorem dL_areAll_62 : decode cL_areAll 62 = .ok (.iconst 1, 1) := by decide +kernel
theorem dL_areAll_63 : decode cL_areAll 63 = .ok (.goto 4, 3) := by decide +kernel
theorem dL_areAll_66 : decode cL_areAll 66 = .ok (.iconst 0, 1) := by decide +kernel
theorem dL_areAll_67 : decode cL_areAll 67 = .ok (.istore_n 3, 1) := by decide +kernel
theorem dL_areAll_68 : decode cL_areAll 68 = .ok (.iload_n 2, 1) := by decide +kernel
theorem dL_areAll_69 : decode cL_areAll 69 = .ok (.bipush 40, 2) := by decide +kernel
theorem dL_areAll_71 : decode cL_areAll 71 = .ok (.if_icmp .le 10, 3) := by decide +kernel
theorem dL_areAll_74 : decode cL_areAll 74 = .ok (.iload_n 2, 1) := by decide +kernel
theorem dL_areAll_75 : decode cL_areAll 75 = .ok (.bipush 40, 2) := by decide +kernel
theorem dL_areAll_77 : decode cL_areAll 77 = .ok (.isub, 1) := by decide +kernel
theorem dL_areAll_78 : decode cL_areAll 78 = .ok (.goto 4, 3) := by decide +kernel
theorem dL_areAll_81 : decode cL_areAll 81 = .ok (.iconst 0, 1) := by decide +kernel
theorem dL_areAll_82 : decode cL_areAll 82 = .ok (.istore 4, 2) := by decide +kernel
theorem dL_areAll_84 : decode cL_areAll 84 = .ok (.iload 4, 2) := by decide +kernel
theorem dL_areAll_86 : decode cL_areAll 86 = .ok (.iload_n 2, 1) := by decide +kernel
theorem dL_areAll_87 : decode cL_areAll 87 = .ok (.if_icmp .ge 55, 3) := by decide +kernel
theorem dL_areAll_90 : decode cL_areAll 90 = .ok (.iload_n 3, 1) := by decide +kernel
theorem dL_areAll_91 : decode cL_areAll 91 = .ok (.ifCond .eq 51, 3) := by decide +kernel
theorem dL_areAll_94 : decode cL_areAll 94 = .ok (.aload_n 0, 1) := by decide +kernel
theorem dL_areAll_95 : decode cL_areAll 95 = .ok (.iconst 0, 1) := by decide +kernel
theorem dL_areAll_96 : decode cL_areAll 96 = .ok (.iload 4, 2) := by decide +kernel
theorem dL_areAll_98 : decode cL_areAll 98 = .ok (.iconst 0, 1) := by decide +kernel
theorem dL_areAll_99 : decode cL_areAll 99 = .ok (.invokestatic 104, 3) := by decide +kernel
theorem dL_areAll_102 : decode cL_areAll 102 = .ok (.bipush (-30), 2) := by decide +kernel
theorem dL_areAll_104 : decode cL_areAll 104 = .ok (.if_icmp .ne 25, 3) := by decide +kernel
theorem dL_areAll_107 : decode cL_areAll 107 = .ok (.aload_n 0, 1) := by decide +kernel
theorem dL_areAll_108 : decode cL_areAll 108 = .ok (.bipush 7, 2) := by decide +kernel
theorem dL_areAll_110 : decode cL_areAll 110 = .ok (.iload 4, 2) := by decide +kernel
theorem dL_areAll_112 : decode cL_areAll 112 = .ok (.iconst 0, 1) := by decide +kernel
theorem dL_areAll_113 : decode cL_areAll 113 = .ok (.invokestatic 104, 3) := by decide +kernel
theorem dL_areAll_116 : decode cL_areAll 116 = .ok (.bipush (-30), 2) := by decide +kernel
theorem dL_areAll_118 : decode cL_areAll 118 = .ok (.if_icmp .ne 7, 3) := by decide +kernel
theorem dL_areAll_121 : decode cL_areAll 121 = .ok (.iconst 1, 1) := by decide +kernel
theorem dL_areAll_122 : decode cL_areAll 122 = .ok (.goto 13, 3) := by decide +kernel
theorem dL_areAll_125 : decode cL_areAll 125 = .ok (.iconst 0, 1) := by decide +kernel
theorem dL_areAll_126 : decode cL_areAll 126 = .ok (.goto 9, 3) := by decide +kernel
theorem dL_areAll_129 : decode cL_areAll 129 = .ok (.aload_n 0, 1) := by decide +kernel
theorem dL_areAll_130 : decode cL_areAll 130 = .ok (.iload 4, 2) := by decide +kernel
theorem dL_areAll_132 : decode cL_areAll 132 = .ok (.invokestatic 120, 3) := by decide +kernel
theorem dL_areAll_135 : decode cL_areAll 135 = .ok (.istore_n 3, 1) := by decide +kernel
theorem dL_areAll_136 : decode cL_areAll 136 = .ok (.iinc 4 1, 3) := by decide +kernel
theorem dL_areAll_139 : decode cL_areAll 139 = .ok (.goto (-55), 3) := by decide +kernel
theorem dL_areAll_142 : decode cL_areAll 142 = .ok (.iconst 0, 1) := by decide +kernel
theorem dL_areAll_143 : decode cL_areAll 143 = .ok (.istore 4, 2) := by decide +kernel
theorem dL_areAll_145 : decode cL_areAll 145 = .ok (.iload 4, 2) := by decide +kernel
theorem dL_areAll_147 : decode cL_areAll 147 = .ok (.iconst 5, 1) := by decide +kernel
theorem dL_areAll_148 : decode cL_areAll 148 = .ok (.if_icmp .ge 57, 3) := by decide +kernel
theorem dL_areAll_151 : decode cL_areAll 151 = .ok (.iload_n 3, 1) := by decide +kernel
theorem dL_areAll_152 : decode cL_areAll 152 = .ok (.ifCond .eq 53, 3) := by decide +kernel
theorem dL_areAll_155 : decode cL_areAll 155 = .ok (.aload_n 0, 1) := by decide +kernel
theorem dL_areAll_156 : decode cL_areAll 156 = .ok (.iload 4, 2) := by decide +kernel
theorem dL_areAll_158 : decode cL_areAll 158 = .ok (.invokevirtual 71, 3) := by decide +kernel
theorem dL_areAll_161 : decode cL_areAll 161 = .ok (.istore 5, 2) := by decide +kernel
theorem dL_areAll_163 : decode cL_areAll 163 = .ok (.iload 5, 2) := by decide +kernel
theorem dL_areAll_165 : decode cL_areAll 165 = .ok (.iconst (-1), 1) := by decide +kernel
theorem dL_areAll_166 : decode cL_areAll 166 = .ok (.if_icmp .eq 27, 3) := by decide +kernel
theorem dL_areAll_169 : decode cL_areAll 169 = .ok (.aload_n 0, 1) := by decide +kernel
theorem dL_areAll_170 : decode cL_areAll 170 = .ok (.iconst 5, 1) := by decide +kernel
theorem dL_areAll_171 : decode cL_areAll 171 = .ok (.iload 5, 2) := by decide +kernel
theorem dL_areAll_173 : decode cL_areAll 173 = .ok (.iconst 0, 1) := by decide +kernel
theorem dL_areAll_174 : decode cL_areAll 174 = .ok (.invokestatic 104, 3) := by decide +kernel
theorem dL_areAll_177 : decode cL_areAll 177 = .ok (.ifCond .le 20, 3) := by decide +kernel
theorem dL_areAll_180 : decode cL_areAll 180 = .ok (.aload_n 0, 1) := by decide +kernel
theorem dL_areAll_181 : decode cL_areAll 181 = .ok (.iconst 5, 1) := by decide +kernel
theorem dL_areAll_182 : decode cL_areAll 182 = .ok (.iload 5, 2) := by decide +kernel
theorem dL_areAll_184 : decode cL_areAll 184 = .ok (.iconst 0, 1) := by decide +kernel
theorem dL_areAll_185 : decode cL_areAll 185 = .ok (.invokestatic 104, 3) := by decide +kernel
theorem dL_areAll_188 : decode cL_areAll 188 = .ok (.bipush 12, 2) := by decide +kernel
theorem dL_areAll_190 : decode cL_areAll 190 = .ok (.if_icmp .ge 7, 3) := by decide +kernel
theorem dL_areAll_193 : decode cL_areAll 193 = .ok (.iconst 1, 1) := by decide +kernel
theorem dL_areAll_194 : decode cL_areAll 194 = .ok (.goto 4, 3) := by decide +kernel
theorem dL_areAll_197 : decode cL_areAll 197 = .ok (.iconst 0, 1) := by decide +kernel
theorem dL_areAll_198 : decode cL_areAll 198 = .ok (.istore_n 3, 1) := by decide +kernel
theorem dL_areAll_199 : decode cL_areAll 199 = .ok (.iinc 4 1, 3) := by decide +kernel
theorem dL_areAll_202 : decode cL_areAll 202 = .ok (.goto (-57), 3) := by decide +kernel
theorem dL_areAll_205 : decode cL_areAll 205 = .ok (.iconst 0, 1) := by decide +kernel
theorem dL_areAll_206 : decode cL_areAll 206 = .ok (.istore 4, 2) := by decide +kernel
theorem dL_areAll_208 : decode cL_areAll 208 = .ok (.iload 4, 2) := by decide +kernel
theorem dL_areAll_210 : decode cL_areAll 210 = .ok (.iconst 4, 1) := by decide +kernel
theorem dL_areAll_211 : decode cL_areAll 211 = .ok (.if_icmp .ge 44, 3) := by decide +kernel
theorem dL_areAll_214 : decode cL_areAll 214 = .ok (.iload_n 3, 1) := by decide +kernel
theorem dL_areAll_215 : decode cL_areAll 215 = .ok (.ifCond .eq 40, 3) := by decide +kernel
theorem dL_areAll_218 : decode cL_areAll 218 = .ok (.aload_n 0, 1) := by decide +kernel
theorem dL_areAll_219 : decode cL_areAll 219 = .ok (.iconst 4, 1) := by decide +kernel
theorem dL_areAll_220 : decode cL_areAll 220 = .ok (.iload 4, 2) := by decide +kernel
theorem dL_areAll_222 : decode cL_areAll 222 = .ok (.iconst 0, 1) := by decide +kernel
theorem dL_areAll_223 : decode cL_areAll 223 = .ok (.iconst 0, 1) := by decide +kernel
theorem dL_areAll_224 : decode cL_areAll 224 = .ok (.invokestatic 124, 3) := by decide +kernel
theorem dL_areAll_227 : decode cL_areAll 227 = .ok (.aload_n 1, 1) := by decide +kernel
theorem dL_areAll_228 : decode cL_areAll 228 = .ok (.iload 4, 2) := by decide +kernel
theorem dL_areAll_230 : decode cL_areAll 230 = .ok (.iaload, 1) := by decide +kernel
theorem dL_areAll_231 : decode cL_areAll 231 = .ok (.if_icmp .ne 16, 3) := by decide +kernel
theorem dL_areAll_234 : decode cL_areAll 234 = .ok (.aload_n 1, 1) := by decide +kernel
theorem dL_areAll_235 : decode cL_areAll 235 = .ok (.iload 4, 2) := by decide +kernel
theorem dL_areAll_237 : decode cL_areAll 237 = .ok (.iaload, 1) := by decide +kernel
theorem dL_areAll_238 : decode cL_areAll 238 = .ok (.bipush 11, 2) := by decide +kernel
theorem dL_areAll_240 : decode cL_areAll 240 = .ok (.if_icmp .ge 7, 3) := by decide +kernel
theorem dL_areAll_243 : decode cL_areAll 243 = .ok (.iconst 1, 1) := by decide +kernel
theorem dL_areAll_244 : decode cL_areAll 244 = .ok (.goto 4, 3) := by decide +kernel
theorem dL_areAll_247 : decode cL_areAll 247 = .ok (.iconst 0, 1) := by decide +kernel
theorem dL_areAll_248 : decode cL_areAll 248 = .ok (.istore_n 3, 1) := by decide +kernel
theorem dL_areAll_249 : decode cL_areAll 249 = .ok (.iinc 4 1, 3) := by decide +kernel
theorem dL_areAll_252 : decode cL_areAll 252 = .ok (.goto (-44), 3) := by decide +kernel
theorem dL_areAll_255 : decode cL_areAll 255 = .ok (.iload_n 3, 1) := by decide +kernel
theorem dL_areAll_256 : decode cL_areAll 256 = .ok (.ireturn, 1) := by decide +kernel
theorem dL_isKept_0 : decode cL_isKept 0 = .ok (.iconst 0, 1) := by decide +kernel
theorem dL_isKept_1 : decode cL_isKept 1 = .ok (.istore_n 2, 1) := by decide +kernel
theorem dL_isKept_2 : decode cL_isKept 2 = .ok (.iconst 0, 1) := by decide +kernel
theorem dL_isKept_3 : decode cL_isKept 3 = .ok (.istore_n 3, 1) := by decide +kernel
theorem dL_isKept_4 : decode cL_isKept 4 = .ok (.iload_n 3, 1) := by decide +kernel
theorem dL_isKept_5 : decode cL_isKept 5 = .ok (.iconst 5, 1) := by decide +kernel
theorem dL_isKept_6 : decode cL_isKept 6 = .ok (.if_icmp .ge 49, 3) := by decide +kernel
theorem dL_isKept_9 : decode cL_isKept 9 = .ok (.aload_n 0, 1) := by decide +kernel
theorem dL_isKept_10 : decode cL_isKept 10 = .ok (.iload_n 3, 1) := by decide +kernel
theorem dL_isKept_11 : decode cL_isKept 11 = .ok (.invokevirtual 71, 3) := by decide +kernel
theorem dL_isKept_14 : decode cL_isKept 14 = .ok (.istore 4, 2) := by decide +kernel
theorem dL_isKept_16 : decode cL_isKept 16 = .ok (.iload 4, 2) := by decide +kernel
theorem dL_isKept_18 : decode cL_isKept 18 = .ok (.iload_n 1, 1) := by decide +kernel
theorem dL_isKept_19 : decode cL_isKept 19 = .ok (.if_icmp .le 14, 3) := by decide +kernel
theorem dL_isKept_22 : decode cL_isKept 22 = .ok (.aload_n 0, 1) := by decide +kernel
theorem dL_isKept_23 : decode cL_isKept 23 = .ok (.iload 4, 2) := by decide +kernel
theorem dL_isKept_25 : decode cL_isKept 25 = .ok (.invokevirtual 80, 3) := by decide +kernel
theorem dL_isKept_28 : decode cL_isKept 28 = .ok (.istore 4, 2) := by decide +kernel
theorem dL_isKept_30 : decode cL_isKept 30 = .ok (.goto (-14), 3) := by decide +kernel
theorem dL_isKept_33 : decode cL_isKept 33 = .ok (.iload_n 2, 1) := by decide +kernel
theorem dL_isKept_34 : decode cL_isKept 34 = .ok (.ifCond .ne 9, 3) := by decide +kernel
theorem dL_isKept_37 : decode cL_isKept 37 = .ok (.iload 4, 2) := by decide +kernel
theorem dL_isKept_39 : decode cL_isKept 39 = .ok (.iload_n 1, 1) := by decide +kernel
theorem dL_isKept_40 : decode cL_isKept 40 = .ok (.if_icmp .ne 7, 3) := by decide +kernel
theorem dL_isKept_43 : decode cL_isKept 43 = .ok (.iconst 1, 1) := by decide +kernel
theorem dL_isKept_44 : decode cL_isKept 44 = .ok (.goto 4, 3) := by decide +kernel
theorem dL_isKept_47 : decode cL_isKept 47 = .ok (.iconst 0, 1) := by decide +kernel
theorem dL_isKept_48 : decode cL_isKept 48 = .ok (.istore_n 2, 1) := by decide +kernel
theorem dL_isKept_49 : decode cL_isKept 49 = .ok (.iinc 3 1, 3) := by decide +kernel
theorem dL_isKept_52 : decode cL_isKept 52 = .ok (.goto (-48), 3) := by decide +kernel
theorem dL_isKept_55 : decode cL_isKept 55 = .ok (.iload_n 2, 1) := by decide +kernel
theorem dL_isKept_56 : decode cL_isKept 56 = .ok (.ireturn, 1) := by decide +kernel
theorem dL_isAdded_0 : decode cL_isAdded 0 = .ok (.iload_n 3, 1) := by decide +kernel
theorem dL_isAdded_1 : decode cL_isAdded 1 = .ok (.iconst 4, 1) := by decide +kernel
theorem dL_isAdded_2 : decode cL_isAdded 2 = .ok (.if_icmp .ge 7, 3) := by decide +kernel
theorem dL_isAdded_5 : decode cL_isAdded 5 = .ok (.iconst 1, 1) := by decide +kernel
theorem dL_isAdded_6 : decode cL_isAdded 6 = .ok (.goto 4, 3) := by decide +kernel
theorem dL_isAdded_9 : decode cL_isAdded 9 = .ok (.iconst 0, 1) := by decide +kernel
theorem dL_isAdded_10 : decode cL_isAdded 10 = .ok (.istore 6, 2) := by decide +kernel
theorem dL_isAdded_12 : decode cL_isAdded 12 = .ok (.iload 6, 2) := by decide +kernel
theorem dL_isAdded_14 : decode cL_isAdded 14 = .ok (.ifCond .eq 92, 3) := by decide +kernel
theorem dL_isAdded_17 : decode cL_isAdded 17 = .ok (.iload_n 2, 1) := by decide +kernel
theorem dL_isAdded_18 : decode cL_isAdded 18 = .ok (.ifCond .ne 20, 3) := by decide +kernel
theorem dL_isAdded_21 : decode cL_isAdded 21 = .ok (.iload 4, 2) := by decide +kernel
theorem dL_isAdded_23 : decode cL_isAdded 23 = .ok (.bipush 8, 2) := by decide +kernel
theorem dL_isAdded_25 : decode cL_isAdded 25 = .ok (.if_icmp .ge 81, 3) := by decide +kernel
theorem dL_isAdded_28 : decode cL_isAdded 28 = .ok (.iload 5, 2) := by decide +kernel
theorem dL_isAdded_30 : decode cL_isAdded 30 = .ok (.bipush 12, 2) := by decide +kernel
theorem dL_isAdded_32 : decode cL_isAdded 32 = .ok (.if_icmp .ge 74, 3) := by decide +kernel
theorem dL_isAdded_35 : decode cL_isAdded 35 = .ok (.goto 67, 3) := by decide +kernel
theorem dL_isAdded_38 : decode cL_isAdded 38 = .ok (.iload_n 2, 1) := by decide +kernel
theorem dL_isAdded_39 : decode cL_isAdded 39 = .ok (.iconst 1, 1) := by decide +kernel
theorem dL_isAdded_40 : decode cL_isAdded 40 = .ok (.if_icmp .ne 19, 3) := by decide +kernel
theorem dL_isAdded_43 : decode cL_isAdded 43 = .ok (.iload 4, 2) := by decide +kernel
theorem dL_isAdded_45 : decode cL_isAdded 45 = .ok (.bipush 12, 2) := by decide +kernel
theorem dL_isAdded_47 : decode cL_isAdded 47 = .ok (.if_icmp .ge 59, 3) := by decide +kernel
theorem dL_isAdded_50 : decode cL_isAdded 50 = .ok (.iload 5, 2) := by decide +kernel
theorem dL_isAdded_52 : decode cL_isAdded 52 = .ok (.iconst 4, 1) := by decide +kernel
theorem dL_isAdded_53 : decode cL_isAdded 53 = .ok (.if_icmp .ge 53, 3) := by decide +kernel
theorem dL_isAdded_56 : decode cL_isAdded 56 = .ok (.goto 46, 3) := by decide +kernel
theorem dL_isAdded_59 : decode cL_isAdded 59 = .ok (.iload_n 2, 1) := by decide +kernel
theorem dL_isAdded_60 : decode cL_isAdded 60 = .ok (.iconst 2, 1) := by decide +kernel
theorem dL_isAdded_61 : decode cL_isAdded 61 = .ok (.if_icmp .ne 20, 3) := by decide +kernel
theorem dL_isAdded_64 : decode cL_isAdded 64 = .ok (.iload 4, 2) := by decide +kernel
theorem dL_isAdded_66 : decode cL_isAdded 66 = .ok (.bipush 12, 2) := by decide +kernel
theorem dL_isAdded_68 : decode cL_isAdded 68 = .ok (.if_icmp .ge 38, 3) := by decide +kernel
theorem dL_isAdded_71 : decode cL_isAdded 71 = .ok (.iload 5, 2) := by decide +kernel
theorem dL_isAdded_73 : decode cL_isAdded 73 = .ok (.bipush 12, 2) := by decide +kernel
theorem dL_isAdded_75 : decode cL_isAdded 75 = .ok (.if_icmp .ge 31, 3) := by decide +kernel
theorem dL_isAdded_78 : decode cL_isAdded 78 = .ok (.goto 24, 3) := by decide +kernel
theorem dL_isAdded_81 : decode cL_isAdded 81 = .ok (.iload_n 2, 1) := by decide +kernel
theorem dL_isAdded_82 : decode cL_isAdded 82 = .ok (.iconst 3, 1) := by decide +kernel
theorem dL_isAdded_83 : decode cL_isAdded 83 = .ok (.if_icmp .ne 13, 3) := by decide +kernel
theorem dL_isAdded_86 : decode cL_isAdded 86 = .ok (.iload 4, 2) := by decide +kernel
theorem dL_isAdded_88 : decode cL_isAdded 88 = .ok (.bipush 12, 2) := by decide +kernel
theorem dL_isAdded_90 : decode cL_isAdded 90 = .ok (.if_icmp .ge 16, 3) := by decide +kernel
theorem dL_isAdded_93 : decode cL_isAdded 93 = .ok (.goto 9, 3) := by decide +kernel
theorem dL_isAdded_96 : decode cL_isAdded 96 = .ok (.iload 4, 2) := by decide +kernel
theorem dL_isAdded_98 : decode cL_isAdded 98 = .ok (.iconst 4, 1) := by decide +kernel
theorem dL_isAdded_99 : decode cL_isAdded 99 = .ok (.if_icmp .ge 7, 3) := by decide +kernel
theorem dL_isAdded_102 : decode cL_isAdded 102 = .ok (.iconst 1, 1) := by decide +kernel
theorem dL_isAdded_103 : decode cL_isAdded 103 = .ok (.goto 4, 3) := by decide +kernel
theorem dL_isAdded_106 : decode cL_isAdded 106 = .ok (.iconst 0, 1) := by decide +kernel
theorem dL_isAdded_107 : decode cL_isAdded 107 = .ok (.istore 7, 2) := by decide +kernel
theorem dL_isAdded_109 : decode cL_isAdded 109 = .ok (.iload_n 2, 1) := by decide +kernel
theorem dL_isAdded_110 : decode cL_isAdded 110 = .ok (.iconst 2, 1) := by decide +kernel
theorem dL_isAdded_111 : decode cL_isAdded 111 = .ok (.if_icmp .lt 31, 3) := by decide +kernel
theorem dL_isAdded_114 : decode cL_isAdded 114 = .ok (.iload_n 2, 1) := by decide +kernel
theorem dL_isAdded_115 : decode cL_isAdded 115 = .ok (.iconst 3, 1) := by decide +kernel
theorem dL_isAdded_116 : decode cL_isAdded 116 = .ok (.if_icmp .eq 26, 3) := by decide +kernel
theorem dL_isAdded_119 : decode cL_isAdded 119 = .ok (.iload_n 2, 1) := by decide +kernel
theorem dL_isAdded_120 : decode cL_isAdded 120 = .ok (.iconst 2, 1) := by decide +kernel
theorem dL_isAdded_121 : decode cL_isAdded 121 = .ok (.if_icmp .ne 13, 3) := by decide +kernel
theorem dL_isAdded_124 : decode cL_isAdded 124 = .ok (.iload 4, 2) := by decide +kernel
theorem dL_isAdded_126 : decode cL_isAdded 126 = .ok (.iload 5, 2) := by decide +kernel
theorem dL_isAdded_128 : decode cL_isAdded 128 = .ok (.if_icmp .eq 18, 3) := by decide +kernel
theorem dL_isAdded_131 : decode cL_isAdded 131 = .ok (.goto 11, 3) := by decide +kernel
theorem dL_isAdded_134 : decode cL_isAdded 134 = .ok (.iload 5, 2) := by decide +kernel
theorem dL_isAdded_136 : decode cL_isAdded 136 = .ok (.sipush 1000, 3) := by decide +kernel
theorem dL_isAdded_139 : decode cL_isAdded 139 = .ok (.if_icmp .ge 7, 3) := by decide +kernel
theorem dL_isAdded_142 : decode cL_isAdded 142 = .ok (.iconst 1, 1) := by decide +kernel
theorem dL_isAdded_143 : decode cL_isAdded 143 = .ok (.goto 4, 3) := by decide +kernel
theorem dL_isAdded_146 : decode cL_isAdded 146 = .ok (.iconst 0, 1) := by decide +kernel
theorem dL_isAdded_147 : decode cL_isAdded 147 = .ok (.istore 8, 2) := by decide +kernel
theorem dL_isAdded_149 : decode cL_isAdded 149 = .ok (.iload 7, 2) := by decide +kernel
theorem dL_isAdded_151 : decode cL_isAdded 151 = .ok (.ifCond .ne 8, 3) := by decide +kernel
theorem dL_isAdded_154 : decode cL_isAdded 154 = .ok (.bipush (-30), 2) := by decide +kernel
theorem dL_isAdded_156 : decode cL_isAdded 156 = .ok (.goto 31, 3) := by decide +kernel
theorem dL_isAdded_159 : decode cL_isAdded 159 = .ok (.iload 8, 2) := by decide +kernel
theorem dL_isAdded_161 : decode cL_isAdded 161 = .ok (.ifCond .ne 8, 3) := by decide +kernel
theorem dL_isAdded_164 : decode cL_isAdded 164 = .ok (.bipush (-20), 2) := by decide +kernel
theorem dL_isAdded_166 : decode cL_isAdded 166 = .ok (.goto 21, 3) := by decide +kernel
theorem dL_isAdded_169 : decode cL_isAdded 169 = .ok (.aload_n 1, 1) := by decide +kernel
theorem dL_isAdded_170 : decode cL_isAdded 170 = .ok (.iload_n 3, 1) := by decide +kernel
theorem dL_isAdded_171 : decode cL_isAdded 171 = .ok (.iaload, 1) := by decide +kernel
theorem dL_isAdded_172 : decode cL_isAdded 172 = .ok (.bipush 10, 2) := by decide +kernel
theorem dL_isAdded_174 : decode cL_isAdded 174 = .ok (.if_icmp .ne 8, 3) := by decide +kernel
theorem dL_isAdded_177 : decode cL_isAdded 177 = .ok (.bipush (-10), 2) := by decide +kernel
theorem dL_isAdded_179 : decode cL_isAdded 179 = .ok (.goto 8, 3) := by decide +kernel
theorem dL_isAdded_182 : decode cL_isAdded 182 = .ok (.aload_n 1, 1) := by decide +kernel
theorem dL_isAdded_183 : decode cL_isAdded 183 = .ok (.iload_n 3, 1) := by decide +kernel
theorem dL_isAdded_184 : decode cL_isAdded 184 = .ok (.iaload, 1) := by decide +kernel
theorem dL_isAdded_185 : decode cL_isAdded 185 = .ok (.iconst 1, 1) := by decide +kernel
theorem dL_isAdded_186 : decode cL_isAdded 186 = .ok (.iadd, 1) := by decide +kernel
theorem dL_isAdded_187 : decode cL_isAdded 187 = .ok (.istore 9, 2) := by decide +kernel
theorem dL_isAdded_189 : decode cL_isAdded 189 = .ok (.aload_n 0, 1) := by decide +kernel
theorem dL_isAdded_190 : decode cL_isAdded 190 = .ok (.iload_n 2, 1) := by decide +kernel
theorem dL_isAdded_191 : decode cL_isAdded 191 = .ok (.iload_n 3, 1) := by decide +kernel
theorem dL_isAdded_192 : decode cL_isAdded 192 = .ok (.iload 4, 2) := by decide +kernel
theorem dL_isAdded_194 : decode cL_isAdded 194 = .ok (.iload 5, 2) := by decide +kernel
theorem dL_isAdded_196 : decode cL_isAdded 196 = .ok (.invokestatic 128, 3) := by decide +kernel
theorem dL_isAdded_199 : decode cL_isAdded 199 = .ok (.iload 9, 2) := by decide +kernel
theorem dL_isAdded_201 : decode cL_isAdded 201 = .ok (.if_icmp .ne 7, 3) := by decide +kernel
theorem dL_isAdded_204 : decode cL_isAdded 204 = .ok (.iconst 1, 1) := by decide +kernel
theorem dL_isAdded_205 : decode cL_isAdded 205 = .ok (.goto 4, 3) := by decide +kernel
theorem dL_isAdded_208 : decode cL_isAdded 208 = .ok (.iconst 0, 1) := by decide +kernel
theorem dL_isAdded_209 : decode cL_isAdded 209 = .ok (.istore 10, 2) := by decide +kernel
theorem dL_isAdded_211 : decode cL_isAdded 211 = .ok (.iload 6, 2) := by decide +kernel
theorem dL_isAdded_213 : decode cL_isAdded 213 = .ok (.ifCond .eq 19, 3) := by decide +kernel
theorem dL_isAdded_216 : decode cL_isAdded 216 = .ok (.aload_n 1, 1) := by decide +kernel
theorem dL_isAdded_217 : decode cL_isAdded 217 = .ok (.iload_n 3, 1) := by decide +kernel
theorem dL_isAdded_218 : decode cL_isAdded 218 = .ok (.iload 9, 2) := by decide +kernel
theorem dL_isAdded_220 : decode cL_isAdded 220 = .ok (.ifCond .le 8, 3) := by decide +kernel
theorem dL_isAdded_223 : decode cL_isAdded 223 = .ok (.iload 9, 2) := by decide +kernel
theorem dL_isAdded_225 : decode cL_isAdded 225 = .ok (.goto 6, 3) := by decide +kernel
theorem dL_isAdded_228 : decode cL_isAdded 228 = .ok (.aload_n 1, 1) := by decide +kernel
theorem dL_isAdded_229 : decode cL_isAdded 229 = .ok (.iload_n 3, 1) := by decide +kernel
theorem dL_isAdded_230 : decode cL_isAdded 230 = .ok (.iaload, 1) := by decide +kernel
theorem dL_isAdded_231 : decode cL_isAdded 231 = .ok (.iastore, 1) := by decide +kernel
theorem dL_isAdded_232 : decode cL_isAdded 232 = .ok (.iload 10, 2) := by decide +kernel
theorem dL_isAdded_234 : decode cL_isAdded 234 = .ok (.ireturn, 1) := by decide +kernel
theorem dL_isBuilt_0 : decode cL_isBuilt 0 = .ok (.aload_n 0, 1) := by decide +kernel
theorem dL_isBuilt_1 : decode cL_isBuilt 1 = .ok (.invokevirtual 117, 3) := by decide +kernel
theorem dL_isBuilt_4 : decode cL_isBuilt 4 = .ok (.ifCond .gt 13, 3) := by decide +kernel
theorem dL_isBuilt_7 : decode cL_isBuilt 7 = .ok (.aload_n 0, 1) := by decide +kernel
theorem dL_isBuilt_8 : decode cL_isBuilt 8 = .ok (.invokevirtual 111, 3) := by decide +kernel
theorem dL_isBuilt_11 : decode cL_isBuilt 11 = .ok (.sipush 399, 3) := by decide +kernel
theorem dL_isBuilt_14 : decode cL_isBuilt 14 = .ok (.if_icmp .le 49, 3) := by decide +kernel
theorem dL_isBuilt_17 : decode cL_isBuilt 17 = .ok (.aload_n 0, 1) := by decide +kernel
theorem dL_isBuilt_18 : decode cL_isBuilt 18 = .ok (.iconst 2, 1) := by decide +kernel
theorem dL_isBuilt_19 : decode cL_isBuilt 19 = .ok (.iload_n 1, 1) := by decide +kernel
theorem dL_isBuilt_20 : decode cL_isBuilt 20 = .ok (.invokestatic 131, 3) := by decide +kernel
theorem dL_isBuilt_23 : decode cL_isBuilt 23 = .ok (.bipush (-10), 2) := by decide +kernel
theorem dL_isBuilt_25 : decode cL_isBuilt 25 = .ok (.if_icmp .ne 36, 3) := by decide +kernel
theorem dL_isBuilt_28 : decode cL_isBuilt 28 = .ok (.aload_n 0, 1) := by decide +kernel
theorem dL_isBuilt_29 : decode cL_isBuilt 29 = .ok (.iconst 0, 1) := by decide +kernel
theorem dL_isBuilt_30 : decode cL_isBuilt 30 = .ok (.iload_n 1, 1) := by decide +kernel
theorem dL_isBuilt_31 : decode cL_isBuilt 31 = .ok (.invokestatic 131, 3) := by decide +kernel
theorem dL_isBuilt_34 : decode cL_isBuilt 34 = .ok (.bipush (-10), 2) := by decide +kernel
theorem dL_isBuilt_36 : decode cL_isBuilt 36 = .ok (.if_icmp .ne 25, 3) := by decide +kernel
theorem dL_isBuilt_39 : decode cL_isBuilt 39 = .ok (.aload_n 0, 1) := by decide +kernel
theorem dL_isBuilt_40 : decode cL_isBuilt 40 = .ok (.invokevirtual 117, 3) := by decide +kernel
theorem dL_isBuilt_43 : decode cL_isBuilt 43 = .ok (.ifCond .eq 14, 3) := by decide +kernel
theorem dL_isBuilt_46 : decode cL_isBuilt 46 = .ok (.aload_n 0, 1) := by decide +kernel
theorem dL_isBuilt_47 : decode cL_isBuilt 47 = .ok (.iconst 4, 1) := by decide +kernel
theorem dL_isBuilt_48 : decode cL_isBuilt 48 = .ok (.iconst 0, 1) := by decide +kernel
theorem dL_isBuilt_49 : decode cL_isBuilt 49 = .ok (.invokestatic 131, 3) := by decide +kernel
theorem dL_isBuilt_52 : decode cL_isBuilt 52 = .ok (.bipush (-10), 2) := by decide +kernel
theorem dL_isBuilt_54 : decode cL_isBuilt 54 = .ok (.if_icmp .ne 7, 3) := by decide +kernel
theorem dL_isBuilt_57 : decode cL_isBuilt 57 = .ok (.iconst 1, 1) := by decide +kernel
theorem dL_isBuilt_58 : decode cL_isBuilt 58 = .ok (.goto 4, 3) := by decide +kernel
theorem dL_isBuilt_61 : decode cL_isBuilt 61 = .ok (.iconst 0, 1) := by decide +kernel
theorem dL_isBuilt_62 : decode cL_isBuilt 62 = .ok (.ireturn, 1) := by decide +kernel
theorem dL_isBuilt_63 : decode cL_isBuilt 63 = .ok (.aload_n 0, 1) := by decide +kernel
theorem dL_isBuilt_64 : decode cL_isBuilt 64 = .ok (.invokevirtual 135, 3) := by decide +kernel
theorem dL_isBuilt_67 : decode cL_isBuilt 67 = .ok (.aload_n 0, 1) := by decide +kernel
theorem dL_isBuilt_68 : decode cL_isBuilt 68 = .ok (.invokevirtual 138, 3) := by decide +kernel
theorem dL_isBuilt_71 : decode cL_isBuilt 71 = .ok (.iadd, 1) := by decide +kernel
theorem dL_isBuilt_72 : decode cL_isBuilt 72 = .ok (.istore_n 2, 1) := by decide +kernel
theorem dL_isBuilt_73 : decode cL_isBuilt 73 = .ok (.aload_n 0, 1) := by decide +kernel
theorem dL_isBuilt_74 : decode cL_isBuilt 74 = .ok (.invokevirtual 111, 3) := by decide +kernel
theorem dL_isBuilt_77 : decode cL_isBuilt 77 = .ok (.istore_n 3, 1) := by decide +kernel
theorem dL_isBuilt_78 : decode cL_isBuilt 78 = .ok (.aload_n 0, 1) := by decide +kernel
theorem dL_isBuilt_79 : decode cL_isBuilt 79 = .ok (.iconst 3, 1) := by decide +kernel
theorem dL_isBuilt_80 : decode cL_isBuilt 80 = .ok (.iload_n 1, 1) := by decide +kernel
theorem dL_isBuilt_81 : decode cL_isBuilt 81 = .ok (.invokestatic 131, 3) := by decide +kernel
theorem dL_isBuilt_84 : decode cL_isBuilt 84 = .ok (.istore 4, 2) := by decide +kernel
theorem dL_isBuilt_86 : decode cL_isBuilt 86 = .ok (.aload_n 0, 1) := by decide +kernel
theorem dL_isBuilt_87 : decode cL_isBuilt 87 = .ok (.iconst 2, 1) := by decide +kernel
theorem dL_isBuilt_88 : decode cL_isBuilt 88 = .ok (.iload_n 1, 1) := by decide +kernel
theorem dL_isBuilt_89 : decode cL_isBuilt 89 = .ok (.invokestatic 131, 3) := by decide +kernel
theorem dL_isBuilt_92 : decode cL_isBuilt 92 = .ok (.istore 5, 2) := by decide +kernel
theorem dL_isBuilt_94 : decode cL_isBuilt 94 = .ok (.aload_n 0, 1) := by decide +kernel
theorem dL_isBuilt_95 : decode cL_isBuilt 95 = .ok (.iconst 4, 1) := by decide +kernel
theorem dL_isBuilt_96 : decode cL_isBuilt 96 = .ok (.iload_n 1, 1) := by decide +kernel
theorem dL_isBuilt_97 : decode cL_isBuilt 97 = .ok (.iconst 0, 1) := by decide +kernel
theorem dL_isBuilt_98 : decode cL_isBuilt 98 = .ok (.iconst 0, 1) := by decide +kernel
theorem dL_isBuilt_99 : decode cL_isBuilt 99 = .ok (.invokestatic 124, 3) := by decide +kernel
theorem dL_isBuilt_102 : decode cL_isBuilt 102 = .ok (.istore 6, 2) := by decide +kernel
theorem dL_isBuilt_104 : decode cL_isBuilt 104 = .ok (.aload_n 0, 1) := by decide +kernel
theorem dL_isBuilt_105 : decode cL_isBuilt 105 = .ok (.invokevirtual 135, 3) := by decide +kernel
theorem dL_isBuilt_108 : decode cL_isBuilt 108 = .ok (.aload_n 0, 1) := by decide +kernel
theorem dL_isBuilt_109 : decode cL_isBuilt 109 = .ok (.invokevirtual 138, 3) := by decide +kernel
theorem dL_isBuilt_112 : decode cL_isBuilt 112 = .ok (.iadd, 1) := by decide +kernel
theorem dL_isBuilt_113 : decode cL_isBuilt 113 = .ok (.iload_n 2, 1) := by decide +kernel
theorem dL_isBuilt_114 : decode cL_isBuilt 114 = .ok (.isub, 1) := by decide +kernel
theorem dL_isBuilt_115 : decode cL_isBuilt 115 = .ok (.istore 7, 2) := by decide +kernel
theorem dL_isBuilt_117 : decode cL_isBuilt 117 = .ok (.iload 4, 2) := by decide +kernel
theorem dL_isBuilt_119 : decode cL_isBuilt 119 = .ok (.iconst (-1), 1) := by decide +kernel
theorem dL_isBuilt_120 : decode cL_isBuilt 120 = .ok (.if_icmp .ne 48, 3) := by decide +kernel
theorem dL_isBuilt_123 : decode cL_isBuilt 123 = .ok (.iload 5, 2) := by decide +kernel
theorem dL_isBuilt_125 : decode cL_isBuilt 125 = .ok (.iconst (-1), 1) := by decide +kernel
theorem dL_isBuilt_126 : decode cL_isBuilt 126 = .ok (.if_icmp .ne 40, 3) := by decide +kernel
theorem dL_isBuilt_129 : decode cL_isBuilt 129 = .ok (.aload_n 0, 1) := by decide +kernel
theorem dL_isBuilt_130 : decode cL_isBuilt 130 = .ok (.invokevirtual 114, 3) := by decide +kernel
theorem dL_isBuilt_133 : decode cL_isBuilt 133 = .ok (.iconst (-1), 1) := by decide +kernel
theorem dL_isBuilt_134 : decode cL_isBuilt 134 = .ok (.if_icmp .ne 32, 3) := by decide +kernel
theorem dL_isBuilt_137 : decode cL_isBuilt 137 = .ok (.iload 7, 2) := by decide +kernel
theorem dL_isBuilt_139 : decode cL_isBuilt 139 = .ok (.iload 6, 2) := by decide +kernel
theorem dL_isBuilt_141 : decode cL_isBuilt 141 = .ok (.if_icmp .ge 25, 3) := by decide +kernel
theorem dL_isBuilt_144 : decode cL_isBuilt 144 = .ok (.aload_n 0, 1) := by decide +kernel
theorem dL_isBuilt_145 : decode cL_isBuilt 145 = .ok (.invokevirtual 117, 3) := by decide +kernel
theorem dL_isBuilt_148 : decode cL_isBuilt 148 = .ok (.ifCond .ne 18, 3) := by decide +kernel
theorem dL_isBuilt_151 : decode cL_isBuilt 151 = .ok (.aload_n 0, 1) := by decide +kernel
theorem dL_isBuilt_152 : decode cL_isBuilt 152 = .ok (.iconst 1, 1) := by decide +kernel
theorem dL_isBuilt_153 : decode cL_isBuilt 153 = .ok (.iconst 0, 1) := by decide +kernel
theorem dL_isBuilt_154 : decode cL_isBuilt 154 = .ok (.invokestatic 131, 3) := by decide +kernel
theorem dL_isBuilt_157 : decode cL_isBuilt 157 = .ok (.bipush (-10), 2) := by decide +kernel
theorem dL_isBuilt_159 : decode cL_isBuilt 159 = .ok (.if_icmp .ne 7, 3) := by decide +kernel
theorem dL_isBuilt_162 : decode cL_isBuilt 162 = .ok (.iconst 1, 1) := by decide +kernel
theorem dL_isBuilt_163 : decode cL_isBuilt 163 = .ok (.goto 4, 3) := by decide +kernel
theorem dL_isBuilt_166 : decode cL_isBuilt 166 = .ok (.iconst 0, 1) := by decide +kernel
theorem dL_isBuilt_167 : decode cL_isBuilt 167 = .ok (.ireturn, 1) := by decide +kernel
theorem dL_isBuilt_168 : decode cL_isBuilt 168 = .ok (.aload_n 0, 1) := by decide +kernel
theorem dL_isBuilt_169 : decode cL_isBuilt 169 = .ok (.invokevirtual 111, 3) := by decide +kernel
theorem dL_isBuilt_172 : decode cL_isBuilt 172 = .ok (.istore 8, 2) := by decide +kernel
theorem dL_isBuilt_174 : decode cL_isBuilt 174 = .ok (.aload_n 0, 1) := by decide +kernel
theorem dL_isBuilt_175 : decode cL_isBuilt 175 = .ok (.invokevirtual 138, 3) := by decide +kernel
theorem dL_isBuilt_178 : decode cL_isBuilt 178 = .ok (.istore 9, 2) := by decide +kernel
theorem dL_isBuilt_180 : decode cL_isBuilt 180 = .ok (.iload 5, 2) := by decide +kernel
theorem dL_isBuilt_182 : decode cL_isBuilt 182 = .ok (.ifCond .lt 65, 3) := by decide +kernel
theorem dL_isBuilt_185 : decode cL_isBuilt 185 = .ok (.aload_n 0, 1) := by decide +kernel
theorem dL_isBuilt_186 : decode cL_isBuilt 186 = .ok (.iload 5, 2) := by decide +kernel
theorem dL_isBuilt_188 : decode cL_isBuilt 188 = .ok (.invokevirtual 101, 3) := by decide +kernel
theorem dL_isBuilt_191 : decode cL_isBuilt 191 = .ok (.iload 4, 2) := by decide +kernel
theorem dL_isBuilt_193 : decode cL_isBuilt 193 = .ok (.if_icmp .ne 54, 3) := by decide +kernel
theorem dL_isBuilt_196 : decode cL_isBuilt 196 = .ok (.aload_n 0, 1) := by decide +kernel
theorem dL_isBuilt_197 : decode cL_isBuilt 197 = .ok (.invokevirtual 114, 3) := by decide +kernel
theorem dL_isBuilt_200 : decode cL_isBuilt 200 = .ok (.iload 5, 2) := by decide +kernel
theorem dL_isBuilt_202 : decode cL_isBuilt 202 = .ok (.if_icmp .ne 45, 3) := by decide +kernel
theorem dL_isBuilt_205 : decode cL_isBuilt 205 = .ok (.iload 7, 2) := by decide +kernel
theorem dL_isBuilt_207 : decode cL_isBuilt 207 = .ok (.iload 6, 2) := by decide +kernel
theorem dL_isBuilt_209 : decode cL_isBuilt 209 = .ok (.if_icmp .ne 38, 3) := by decide +kernel
theorem dL_isBuilt_212 : decode cL_isBuilt 212 = .ok (.aload_n 0, 1) := by decide +kernel
theorem dL_isBuilt_213 : decode cL_isBuilt 213 = .ok (.iload 5, 2) := by decide +kernel
theorem dL_isBuilt_215 : decode cL_isBuilt 215 = .ok (.invokevirtual 95, 3) := by decide +kernel
theorem dL_isBuilt_218 : decode cL_isBuilt 218 = .ok (.iload 6, 2) := by decide +kernel
theorem dL_isBuilt_220 : decode cL_isBuilt 220 = .ok (.iconst 1, 1) := by decide +kernel
theorem dL_isBuilt_221 : decode cL_isBuilt 221 = .ok (.iadd, 1) := by decide +kernel
theorem dL_isBuilt_222 : decode cL_isBuilt 222 = .ok (.if_icmp .ne 25, 3) := by decide +kernel
theorem dL_isBuilt_225 : decode cL_isBuilt 225 = .ok (.iload 8, 2) := by decide +kernel
theorem dL_isBuilt_227 : decode cL_isBuilt 227 = .ok (.iload_n 3, 1) := by decide +kernel
theorem dL_isBuilt_228 : decode cL_isBuilt 228 = .ok (.isub, 1) := by decide +kernel
theorem dL_isBuilt_229 : decode cL_isBuilt 229 = .ok (.iload 6, 2) := by decide +kernel
theorem dL_isBuilt_231 : decode cL_isBuilt 231 = .ok (.iconst 1, 1) := by decide +kernel
theorem dL_isBuilt_232 : decode cL_isBuilt 232 = .ok (.iadd, 1) := by decide +kernel
theorem dL_isBuilt_233 : decode cL_isBuilt 233 = .ok (.if_icmp .gt 14, 3) := by decide +kernel
theorem dL_isBuilt_236 : decode cL_isBuilt 236 = .ok (.aload_n 0, 1) := by decide +kernel
theorem dL_isBuilt_237 : decode cL_isBuilt 237 = .ok (.invokevirtual 117, 3) := by decide +kernel
theorem dL_isBuilt_240 : decode cL_isBuilt 240 = .ok (.ifCond .ne 7, 3) := by decide +kernel
theorem dL_isBuilt_243 : decode cL_isBuilt 243 = .ok (.iconst 1, 1) := by decide +kernel
theorem dL_isBuilt_244 : decode cL_isBuilt 244 = .ok (.goto 4, 3) := by decide +kernel
theorem dL_isBuilt_247 : decode cL_isBuilt 247 = .ok (.iconst 0, 1) := by decide +kernel
theorem dL_isBuilt_248 : decode cL_isBuilt 248 = .ok (.istore 10, 2) := by decide +kernel
theorem dL_isBuilt_250 : decode cL_isBuilt 250 = .ok (.iload 8, 2) := by decide +kernel
theorem dL_isBuilt_252 : decode cL_isBuilt 252 = .ok (.sipush 399, 3) := by decide +kernel
theorem dL_isBuilt_255 : decode cL_isBuilt 255 = .ok (.if_icmp .le 25, 3) := by decide +kernel
theorem dL_isBuilt_258 : decode cL_isBuilt 258 = .ok (.iload 10, 2) := by decide +kernel
theorem dL_isBuilt_260 : decode cL_isBuilt 260 = .ok (.ifCond .eq 18, 3) := by decide +kernel
theorem dL_isBuilt_263 : decode cL_isBuilt 263 = .ok (.aload_n 0, 1) := by decide +kernel
theorem dL_isBuilt_264 : decode cL_isBuilt 264 = .ok (.iconst 0, 1) := by decide +kernel
theorem dL_isBuilt_265 : decode cL_isBuilt 265 = .ok (.iload_n 1, 1) := by decide +kernel
theorem dL_isBuilt_266 : decode cL_isBuilt 266 = .ok (.invokestatic 131, 3) := by decide +kernel
theorem dL_isBuilt_269 : decode cL_isBuilt 269 = .ok (.bipush (-10), 2) := by decide +kernel
theorem dL_isBuilt_271 : decode cL_isBuilt 271 = .ok (.if_icmp .ne 7, 3) := by decide +kernel
theorem dL_isBuilt_274 : decode cL_isBuilt 274 = .ok (.iconst 1, 1) := by decide +kernel
theorem dL_isBuilt_275 : decode cL_isBuilt 275 = .ok (.goto 4, 3) := by decide +kernel
theorem dL_isBuilt_278 : decode cL_isBuilt 278 = .ok (.iconst 0, 1) := by decide +kernel
theorem dL_isBuilt_279 : decode cL_isBuilt 279 = .ok (.ireturn, 1) := by decide +kernel
theorem dL_isBuilt_280 : decode cL_isBuilt 280 = .ok (.aload_n 0, 1) := by decide +kernel
theorem dL_isBuilt_281 : decode cL_isBuilt 281 = .ok (.iconst 0, 1) := by decide +kernel
theorem dL_isBuilt_282 : decode cL_isBuilt 282 = .ok (.iload_n 1, 1) := by decide +kernel
theorem dL_isBuilt_283 : decode cL_isBuilt 283 = .ok (.invokestatic 131, 3) := by decide +kernel
theorem dL_isBuilt_286 : decode cL_isBuilt 286 = .ok (.istore 11, 2) := by decide +kernel
theorem dL_isBuilt_288 : decode cL_isBuilt 288 = .ok (.iload 10, 2) := by decide +kernel
theorem dL_isBuilt_290 : decode cL_isBuilt 290 = .ok (.ifCond .eq 39, 3) := by decide +kernel
theorem dL_isBuilt_293 : decode cL_isBuilt 293 = .ok (.aload_n 0, 1) := by decide +kernel
theorem dL_isBuilt_294 : decode cL_isBuilt 294 = .ok (.iload 11, 2) := by decide +kernel
theorem dL_isBuilt_296 : decode cL_isBuilt 296 = .ok (.invokevirtual 95, 3) := by decide +kernel
theorem dL_isBuilt_299 : decode cL_isBuilt 299 = .ok (.iconst 1, 1) := by decide +kernel
theorem dL_isBuilt_300 : decode cL_isBuilt 300 = .ok (.if_icmp .ne 29, 3) := by decide +kernel
theorem dL_isBuilt_303 : decode cL_isBuilt 303 = .ok (.aload_n 0, 1) := by decide +kernel
theorem dL_isBuilt_304 : decode cL_isBuilt 304 = .ok (.invokevirtual 117, 3) := by decide +kernel
theorem dL_isBuilt_307 : decode cL_isBuilt 307 = .ok (.iload 6, 2) := by decide +kernel
theorem dL_isBuilt_309 : decode cL_isBuilt 309 = .ok (.if_icmp .ne 20, 3) := by decide +kernel
theorem dL_isBuilt_312 : decode cL_isBuilt 312 = .ok (.iload 6, 2) := by decide +kernel
theorem dL_isBuilt_314 : decode cL_isBuilt 314 = .ok (.ifCond .eq 11, 3) := by decide +kernel
theorem dL_isBuilt_317 : decode cL_isBuilt 317 = .ok (.aload_n 0, 1) := by decide +kernel
theorem dL_isBuilt_318 : decode cL_isBuilt 318 = .ok (.invokevirtual 114, 3) := by decide +kernel
theorem dL_isBuilt_321 : decode cL_isBuilt 321 = .ok (.iconst (-1), 1) := by decide +kernel
theorem dL_isBuilt_322 : decode cL_isBuilt 322 = .ok (.if_icmp .ne 7, 3) := by decide +kernel
theorem dL_isBuilt_325 : decode cL_isBuilt 325 = .ok (.iconst 1, 1) := by decide +kernel
theorem dL_isBuilt_326 : decode cL_isBuilt 326 = .ok (.goto 4, 3) := by decide +kernel
theorem dL_isBuilt_329 : decode cL_isBuilt 329 = .ok (.iconst 0, 1) := by decide +kernel
theorem dL_isBuilt_330 : decode cL_isBuilt 330 = .ok (.istore 10, 2) := by decide +kernel
theorem dL_isBuilt_332 : decode cL_isBuilt 332 = .ok (.iconst 0, 1) := by decide +kernel
theorem dL_isBuilt_333 : decode cL_isBuilt 333 = .ok (.istore 12, 2) := by decide +kernel
theorem dL_isBuilt_335 : decode cL_isBuilt 335 = .ok (.iload 12, 2) := by decide +kernel
theorem dL_isBuilt_337 : decode cL_isBuilt 337 = .ok (.iload 6, 2) := by decide +kernel
theorem dL_isBuilt_339 : decode cL_isBuilt 339 = .ok (.if_icmp .ge 58, 3) := by decide +kernel
theorem dL_isBuilt_342 : decode cL_isBuilt 342 = .ok (.iload 10, 2) := by decide +kernel
theorem dL_isBuilt_344 : decode cL_isBuilt 344 = .ok (.ifCond .eq 53, 3) := by decide +kernel
theorem dL_isBuilt_347 : decode cL_isBuilt 347 = .ok (.aload_n 0, 1) := by decide +kernel
theorem dL_isBuilt_348 : decode cL_isBuilt 348 = .ok (.iconst 1, 1) := by decide +kernel
theorem dL_isBuilt_349 : decode cL_isBuilt 349 = .ok (.iconst 0, 1) := by decide +kernel
theorem dL_isBuilt_350 : decode cL_isBuilt 350 = .ok (.invokestatic 131, 3) := by decide +kernel
theorem dL_isBuilt_353 : decode cL_isBuilt 353 = .ok (.istore 13, 2) := by decide +kernel
theorem dL_isBuilt_355 : decode cL_isBuilt 355 = .ok (.aload_n 0, 1) := by decide +kernel
theorem dL_isBuilt_356 : decode cL_isBuilt 356 = .ok (.iload 13, 2) := by decide +kernel
theorem dL_isBuilt_358 : decode cL_isBuilt 358 = .ok (.invokevirtual 80, 3) := by decide +kernel
theorem dL_isBuilt_361 : decode cL_isBuilt 361 = .ok (.iload 11, 2) := by decide +kernel
theorem dL_isBuilt_363 : decode cL_isBuilt 363 = .ok (.if_icmp .ne 21, 3) := by decide +kernel
theorem dL_isBuilt_366 : decode cL_isBuilt 366 = .ok (.aload_n 0, 1) := by decide +kernel
theorem dL_isBuilt_367 : decode cL_isBuilt 367 = .ok (.invokevirtual 117, 3) := by decide +kernel
theorem dL_isBuilt_370 : decode cL_isBuilt 370 = .ok (.iload 6, 2) := by decide +kernel
theorem dL_isBuilt_372 : decode cL_isBuilt 372 = .ok (.iconst 1, 1) := by decide +kernel
theorem dL_isBuilt_373 : decode cL_isBuilt 373 = .ok (.isub, 1) := by decide +kernel
theorem dL_isBuilt_374 : decode cL_isBuilt 374 = .ok (.iload 12, 2) := by decide +kernel
theorem dL_isBuilt_376 : decode cL_isBuilt 376 = .ok (.isub, 1) := by decide +kernel
theorem dL_isBuilt_377 : decode cL_isBuilt 377 = .ok (.if_icmp .ne 7, 3) := by decide +kernel
theorem dL_isBuilt_380 : decode cL_isBuilt 380 = .ok (.iconst 1, 1) := by decide +kernel
theorem dL_isBuilt_381 : decode cL_isBuilt 381 = .ok (.goto 4, 3) := by decide +kernel
theorem dL_isBuilt_384 : decode cL_isBuilt 384 = .ok (.iconst 0, 1) := by decide +kernel
theorem dL_isBuilt_385 : decode cL_isBuilt 385 = .ok (.istore 10, 2) := by decide +kernel
theorem dL_isBuilt_387 : decode cL_isBuilt 387 = .ok (.iload 13, 2) := by decide +kernel
theorem dL_isBuilt_389 : decode cL_isBuilt 389 = .ok (.istore 11, 2) := by decide +kernel
theorem dL_isBuilt_391 : decode cL_isBuilt 391 = .ok (.iinc 12 1, 3) := by decide +kernel
theorem dL_isBuilt_394 : decode cL_isBuilt 394 = .ok (.goto (-59), 3) := by decide +kernel
theorem dL_isBuilt_397 : decode cL_isBuilt 397 = .ok (.iload 10, 2) := by decide +kernel
theorem dL_isBuilt_399 : decode cL_isBuilt 399 = .ok (.ifCond .eq 41, 3) := by decide +kernel
theorem dL_isBuilt_402 : decode cL_isBuilt 402 = .ok (.iload 11, 2) := by decide +kernel
theorem dL_isBuilt_404 : decode cL_isBuilt 404 = .ok (.iload 5, 2) := by decide +kernel
theorem dL_isBuilt_406 : decode cL_isBuilt 406 = .ok (.if_icmp .ne 34, 3) := by decide +kernel
theorem dL_isBuilt_409 : decode cL_isBuilt 409 = .ok (.aload_n 0, 1) := by decide +kernel
theorem dL_isBuilt_410 : decode cL_isBuilt 410 = .ok (.invokevirtual 111, 3) := by decide +kernel
theorem dL_isBuilt_413 : decode cL_isBuilt 413 = .ok (.iload 8, 2) := by decide +kernel
theorem dL_isBuilt_415 : decode cL_isBuilt 415 = .ok (.if_icmp .ne 25, 3) := by decide +kernel
theorem dL_isBuilt_418 : decode cL_isBuilt 418 = .ok (.aload_n 0, 1) := by decide +kernel
theorem dL_isBuilt_419 : decode cL_isBuilt 419 = .ok (.invokevirtual 138, 3) := by decide +kernel
theorem dL_isBuilt_422 : decode cL_isBuilt 422 = .ok (.iload 9, 2) := by decide +kernel
theorem dL_isBuilt_424 : decode cL_isBuilt 424 = .ok (.if_icmp .ne 16, 3) := by decide +kernel
theorem dL_isBuilt_427 : decode cL_isBuilt 427 = .ok (.aload_n 0, 1) := by decide +kernel
theorem dL_isBuilt_428 : decode cL_isBuilt 428 = .ok (.invokevirtual 114, 3) := by decide +kernel
theorem dL_isBuilt_431 : decode cL_isBuilt 431 = .ok (.iload 5, 2) := by decide +kernel
theorem dL_isBuilt_433 : decode cL_isBuilt 433 = .ok (.if_icmp .ne 7, 3) := by decide +kernel
theorem dL_isBuilt_436 : decode cL_isBuilt 436 = .ok (.iconst 1, 1) := by decide +kernel
theorem dL_isBuilt_437 : decode cL_isBuilt 437 = .ok (.goto 4, 3) := by decide +kernel
theorem dL_isBuilt_440 : decode cL_isBuilt 440 = .ok (.iconst 0, 1) := by decide +kernel
theorem dL_isBuilt_441 : decode cL_isBuilt 441 = .ok (.ireturn, 1) := by decide +kernel
theorem dL_isSquashed_0 : decode cL_isSquashed 0 = .ok (.aload_n 0, 1) := by decide +kernel
theorem dL_isSquashed_1 : decode cL_isSquashed 1 = .ok (.iconst 2, 1) := by decide +kernel
theorem dL_isSquashed_2 : decode cL_isSquashed 2 = .ok (.iload_n 1, 1) := by decide +kernel
theorem dL_isSquashed_3 : decode cL_isSquashed 3 = .ok (.iconst 0, 1) := by decide +kernel
theorem dL_isSquashed_4 : decode cL_isSquashed 4 = .ok (.invokestatic 141, 3) := by decide +kernel
theorem dL_isSquashed_7 : decode cL_isSquashed 7 = .ok (.istore_n 3, 1) := by decide +kernel
theorem dL_isSquashed_8 : decode cL_isSquashed 8 = .ok (.aload_n 0, 1) := by decide +kernel
theorem dL_isSquashed_9 : decode cL_isSquashed 9 = .ok (.invokevirtual 111, 3) := by decide +kernel
theorem dL_isSquashed_12 : decode cL_isSquashed 12 = .ok (.istore 4, 2) := by decide +kernel
theorem dL_isSquashed_14 : decode cL_isSquashed 14 = .ok (.iload_n 3, 1) := by decide +kernel
theorem dL_isSquashed_15 : decode cL_isSquashed 15 = .ok (.ifCond .ge 7, 3) := by decide +kernel
theorem dL_isSquashed_18 : decode cL_isSquashed 18 = .ok (.iconst 0, 1) := by decide +kernel
theorem dL_isSquashed_19 : decode cL_isSquashed 19 = .ok (.goto 8, 3) := by decide +kernel
theorem dL_isSquashed_22 : decode cL_isSquashed 22 = .ok (.aload_n 0, 1) := by decide +kernel
theorem dL_isSquashed_23 : decode cL_isSquashed 23 = .ok (.iload_n 3, 1) := by decide +kernel
theorem dL_isSquashed_24 : decode cL_isSquashed 24 = .ok (.invokevirtual 95, 3) := by decide +kernel
theorem dL_isSquashed_27 : decode cL_isSquashed 27 = .ok (.istore 5, 2) := by decide +kernel
theorem dL_isSquashed_29 : decode cL_isSquashed 29 = .ok (.aload_n 0, 1) := by decide +kernel
theorem dL_isSquashed_30 : decode cL_isSquashed 30 = .ok (.iconst 3, 1) := by decide +kernel
theorem dL_isSquashed_31 : decode cL_isSquashed 31 = .ok (.iload_n 1, 1) := by decide +kernel
theorem dL_isSquashed_32 : decode cL_isSquashed 32 = .ok (.iload_n 2, 1) := by decide +kernel
theorem dL_isSquashed_33 : decode cL_isSquashed 33 = .ok (.invokestatic 141, 3) := by decide +kernel
theorem dL_isSquashed_36 : decode cL_isSquashed 36 = .ok (.istore 6, 2) := by decide +kernel
theorem dL_isSquashed_38 : decode cL_isSquashed 38 = .ok (.iload_n 1, 1) := by decide +kernel
theorem dL_isSquashed_39 : decode cL_isSquashed 39 = .ok (.iconst 5, 1) := by decide +kernel
theorem dL_isSquashed_40 : decode cL_isSquashed 40 = .ok (.if_icmp .ge 21, 3) := by decide +kernel
theorem dL_isSquashed_43 : decode cL_isSquashed 43 = .ok (.iload_n 2, 1) := by decide +kernel
theorem dL_isSquashed_44 : decode cL_isSquashed 44 = .ok (.ifCond .le 17, 3) := by decide +kernel
theorem dL_isSquashed_47 : decode cL_isSquashed 47 = .ok (.iload_n 3, 1) := by decide +kernel
theorem dL_isSquashed_48 : decode cL_isSquashed 48 = .ok (.ifCond .lt 9, 3) := by decide +kernel
theorem dL_isSquashed_51 : decode cL_isSquashed 51 = .ok (.iload_n 2, 1) := by decide +kernel
theorem dL_isSquashed_52 : decode cL_isSquashed 52 = .ok (.iload 5, 2) := by decide +kernel
theorem dL_isSquashed_54 : decode cL_isSquashed 54 = .ok (.if_icmp .ge 7, 3) := by decide +kernel
theorem dL_isSquashed_57 : decode cL_isSquashed 57 = .ok (.iconst 1, 1) := by decide +kernel
theorem dL_isSquashed_58 : decode cL_isSquashed 58 = .ok (.goto 4, 3) := by decide +kernel
theorem dL_isSquashed_61 : decode cL_isSquashed 61 = .ok (.iconst 0, 1) := by decide +kernel
theorem dL_isSquashed_62 : decode cL_isSquashed 62 = .ok (.istore 7, 2) := by decide +kernel
theorem dL_isSquashed_64 : decode cL_isSquashed 64 = .ok (.iload 7, 2) := by decide +kernel
theorem dL_isSquashed_66 : decode cL_isSquashed 66 = .ok (.ifCond .eq 15, 3) := by decide +kernel
theorem dL_isSquashed_69 : decode cL_isSquashed 69 = .ok (.iload_n 3, 1) := by decide +kernel
theorem dL_isSquashed_70 : decode cL_isSquashed 70 = .ok (.ifCond .lt 11, 3) := by decide +kernel
theorem dL_isSquashed_73 : decode cL_isSquashed 73 = .ok (.iload 4, 2) := by decide +kernel
theorem dL_isSquashed_75 : decode cL_isSquashed 75 = .ok (.sipush 399, 3) := by decide +kernel
theorem dL_isSquashed_78 : decode cL_isSquashed 78 = .ok (.if_icmp .le 35, 3) := by decide +kernel
theorem dL_isSquashed_81 : decode cL_isSquashed 81 = .ok (.iload 6, 2) := by decide +kernel
theorem dL_isSquashed_83 : decode cL_isSquashed 83 = .ok (.iload 7, 2) := by decide +kernel
theorem dL_isSquashed_85 : decode cL_isSquashed 85 = .ok (.ifCond .eq 8, 3) := by decide +kernel
theorem dL_isSquashed_88 : decode cL_isSquashed 88 = .ok (.bipush (-10), 2) := by decide +kernel
theorem dL_isSquashed_90 : decode cL_isSquashed 90 = .ok (.goto 5, 3) := by decide +kernel
theorem dL_isSquashed_93 : decode cL_isSquashed 93 = .ok (.bipush (-30), 2) := by decide +kernel
theorem dL_isSquashed_95 : decode cL_isSquashed 95 = .ok (.if_icmp .ne 16, 3) := by decide +kernel
theorem dL_isSquashed_98 : decode cL_isSquashed 98 = .ok (.aload_n 0, 1) := by decide +kernel
theorem dL_isSquashed_99 : decode cL_isSquashed 99 = .ok (.invokevirtual 111, 3) := by decide +kernel
theorem dL_isSquashed_102 : decode cL_isSquashed 102 = .ok (.iload 4, 2) := by decide +kernel
theorem dL_isSquashed_104 : decode cL_isSquashed 104 = .ok (.if_icmp .ne 7, 3) := by decide +kernel
theorem dL_isSquashed_107 : decode cL_isSquashed 107 = .ok (.iconst 1, 1) := by decide +kernel
theorem dL_isSquashed_108 : decode cL_isSquashed 108 = .ok (.goto 4, 3) := by decide +kernel
theorem dL_isSquashed_111 : decode cL_isSquashed 111 = .ok (.iconst 0, 1) := by decide +kernel
theorem dL_isSquashed_112 : decode cL_isSquashed 112 = .ok (.ireturn, 1) := by decide +kernel
theorem dL_isSquashed_113 : decode cL_isSquashed 113 = .ok (.iload 6, 2) := by decide +kernel
theorem dL_isSquashed_115 : decode cL_isSquashed 115 = .ok (.iload 4, 2) := by decide +kernel
theorem dL_isSquashed_117 : decode cL_isSquashed 117 = .ok (.if_icmp .ne 54, 3) := by decide +kernel
theorem dL_isSquashed_120 : decode cL_isSquashed 120 = .ok (.aload_n 0, 1) := by decide +kernel
theorem dL_isSquashed_121 : decode cL_isSquashed 121 = .ok (.iload_n 1, 1) := by decide +kernel
theorem dL_isSquashed_122 : decode cL_isSquashed 122 = .ok (.invokevirtual 71, 3) := by decide +kernel
theorem dL_isSquashed_125 : decode cL_isSquashed 125 = .ok (.iload 6, 2) := by decide +kernel
theorem dL_isSquashed_127 : decode cL_isSquashed 127 = .ok (.if_icmp .ne 44, 3) := by decide +kernel
theorem dL_isSquashed_130 : decode cL_isSquashed 130 = .ok (.aload_n 0, 1) := by decide +kernel
theorem dL_isSquashed_131 : decode cL_isSquashed 131 = .ok (.iload 6, 2) := by decide +kernel
theorem dL_isSquashed_133 : decode cL_isSquashed 133 = .ok (.invokevirtual 95, 3) := by decide +kernel
theorem dL_isSquashed_136 : decode cL_isSquashed 136 = .ok (.iload_n 2, 1) := by decide +kernel
theorem dL_isSquashed_137 : decode cL_isSquashed 137 = .ok (.iconst 1, 1) := by decide +kernel
theorem dL_isSquashed_138 : decode cL_isSquashed 138 = .ok (.iadd, 1) := by decide +kernel
theorem dL_isSquashed_139 : decode cL_isSquashed 139 = .ok (.if_icmp .ne 32, 3) := by decide +kernel
theorem dL_isSquashed_142 : decode cL_isSquashed 142 = .ok (.aload_n 0, 1) := by decide +kernel
theorem dL_isSquashed_143 : decode cL_isSquashed 143 = .ok (.iload 6, 2) := by decide +kernel
theorem dL_isSquashed_145 : decode cL_isSquashed 145 = .ok (.invokevirtual 101, 3) := by decide +kernel
theorem dL_isSquashed_148 : decode cL_isSquashed 148 = .ok (.aload_n 0, 1) := by decide +kernel
theorem dL_isSquashed_149 : decode cL_isSquashed 149 = .ok (.iload_n 3, 1) := by decide +kernel
theorem dL_isSquashed_150 : decode cL_isSquashed 150 = .ok (.invokevirtual 101, 3) := by decide +kernel
theorem dL_isSquashed_153 : decode cL_isSquashed 153 = .ok (.if_icmp .ne 18, 3) := by decide +kernel
theorem dL_isSquashed_156 : decode cL_isSquashed 156 = .ok (.aload_n 0, 1) := by decide +kernel
theorem dL_isSquashed_157 : decode cL_isSquashed 157 = .ok (.iload 6, 2) := by decide +kernel
theorem dL_isSquashed_159 : decode cL_isSquashed 159 = .ok (.invokevirtual 83, 3) := by decide +kernel
theorem dL_isSquashed_162 : decode cL_isSquashed 162 = .ok (.bipush 12, 2) := by decide +kernel
theorem dL_isSquashed_164 : decode cL_isSquashed 164 = .ok (.if_icmp .gt 7, 3) := by decide +kernel
theorem dL_isSquashed_167 : decode cL_isSquashed 167 = .ok (.iconst 1, 1) := by decide +kernel
theorem dL_isSquashed_168 : decode cL_isSquashed 168 = .ok (.goto 4, 3) := by decide +kernel
theorem dL_isSquashed_171 : decode cL_isSquashed 171 = .ok (.iconst 0, 1) := by decide +kernel
theorem dL_isSquashed_172 : decode cL_isSquashed 172 = .ok (.istore 8, 2) := by decide +kernel
theorem dL_isSquashed_174 : decode cL_isSquashed 174 = .ok (.iconst 0, 1) := by decide +kernel
theorem dL_isSquashed_175 : decode cL_isSquashed 175 = .ok (.istore 9, 2) := by decide +kernel
theorem dL_isSquashed_177 : decode cL_isSquashed 177 = .ok (.iload 9, 2) := by decide +kernel
theorem dL_isSquashed_179 : decode cL_isSquashed 179 = .ok (.bipush 12, 2) := by decide +kernel
theorem dL_isSquashed_181 : decode cL_isSquashed 181 = .ok (.if_icmp .ge 72, 3) := by decide +kernel
theorem dL_isSquashed_184 : decode cL_isSquashed 184 = .ok (.iload 8, 2) := by decide +kernel
theorem dL_isSquashed_186 : decode cL_isSquashed 186 = .ok (.ifCond .eq 67, 3) := by decide +kernel
theorem dL_isSquashed_189 : decode cL_isSquashed 189 = .ok (.aload_n 0, 1) := by decide +kernel
theorem dL_isSquashed_190 : decode cL_isSquashed 190 = .ok (.aload_n 0, 1) := by decide +kernel
theorem dL_isSquashed_191 : decode cL_isSquashed 191 = .ok (.iload 6, 2) := by decide +kernel
theorem dL_isSquashed_193 : decode cL_isSquashed 193 = .ok (.invokevirtual 80, 3) := by decide +kernel
theorem dL_isSquashed_196 : decode cL_isSquashed 196 = .ok (.iload 9, 2) := by decide +kernel
theorem dL_isSquashed_198 : decode cL_isSquashed 198 = .ok (.invokevirtual 89, 3) := by decide +kernel
theorem dL_isSquashed_201 : decode cL_isSquashed 201 = .ok (.istore 10, 2) := by decide +kernel
theorem dL_isSquashed_203 : decode cL_isSquashed 203 = .ok (.aload_n 0, 1) := by decide +kernel
theorem dL_isSquashed_204 : decode cL_isSquashed 204 = .ok (.iload 6, 2) := by decide +kernel
theorem dL_isSquashed_206 : decode cL_isSquashed 206 = .ok (.iload 9, 2) := by decide +kernel
theorem dL_isSquashed_208 : decode cL_isSquashed 208 = .ok (.invokevirtual 86, 3) := by decide +kernel
theorem dL_isSquashed_211 : decode cL_isSquashed 211 = .ok (.iconst (-1), 1) := by decide +kernel
theorem dL_isSquashed_212 : decode cL_isSquashed 212 = .ok (.if_icmp .ne 7, 3) := by decide +kernel
theorem dL_isSquashed_215 : decode cL_isSquashed 215 = .ok (.iconst 1, 1) := by decide +kernel
theorem dL_isSquashed_216 : decode cL_isSquashed 216 = .ok (.goto 4, 3) := by decide +kernel
theorem dL_isSquashed_219 : decode cL_isSquashed 219 = .ok (.iconst 0, 1) := by decide +kernel
theorem dL_isSquashed_220 : decode cL_isSquashed 220 = .ok (.aload_n 0, 1) := by decide +kernel
theorem dL_isSquashed_221 : decode cL_isSquashed 221 = .ok (.iload_n 3, 1) := by decide +kernel
theorem dL_isSquashed_222 : decode cL_isSquashed 222 = .ok (.iload 9, 2) := by decide +kernel
theorem dL_isSquashed_224 : decode cL_isSquashed 224 = .ok (.invokevirtual 89, 3) := by decide +kernel
theorem dL_isSquashed_227 : decode cL_isSquashed 227 = .ok (.iload 10, 2) := by decide +kernel
theorem dL_isSquashed_229 : decode cL_isSquashed 229 = .ok (.if_icmp .ne 7, 3) := by decide +kernel
theorem dL_isSquashed_232 : decode cL_isSquashed 232 = .ok (.iconst 1, 1) := by decide +kernel
theorem dL_isSquashed_233 : decode cL_isSquashed 233 = .ok (.goto 4, 3) := by decide +kernel
theorem dL_isSquashed_236 : decode cL_isSquashed 236 = .ok (.iconst 0, 1) := by decide +kernel
theorem dL_isSquashed_237 : decode cL_isSquashed 237 = .ok (.if_icmp .ne 7, 3) := by decide +kernel
theorem dL_isSquashed_240 : decode cL_isSquashed 240 = .ok (.iconst 1, 1) := by decide +kernel
theorem dL_isSquashed_241 : decode cL_isSquashed 241 = .ok (.goto 4, 3) := by decide +kernel
theorem dL_isSquashed_244 : decode cL_isSquashed 244 = .ok (.iconst 0, 1) := by decide +kernel
theorem dL_isSquashed_245 : decode cL_isSquashed 245 = .ok (.istore 8, 2) := by decide +kernel
theorem dL_isSquashed_247 : decode cL_isSquashed 247 = .ok (.iinc 9 1, 3) := by decide +kernel
theorem dL_isSquashed_250 : decode cL_isSquashed 250 = .ok (.goto (-73), 3) := by decide +kernel
theorem dL_isSquashed_253 : decode cL_isSquashed 253 = .ok (.iconst 0, 1) := by decide +kernel
theorem dL_isSquashed_254 : decode cL_isSquashed 254 = .ok (.istore 9, 2) := by decide +kernel
theorem dL_isSquashed_256 : decode cL_isSquashed 256 = .ok (.iload 9, 2) := by decide +kernel
theorem dL_isSquashed_258 : decode cL_isSquashed 258 = .ok (.iconst 4, 1) := by decide +kernel
theorem dL_isSquashed_259 : decode cL_isSquashed 259 = .ok (.if_icmp .ge 39, 3) := by decide +kernel
theorem dL_isSquashed_262 : decode cL_isSquashed 262 = .ok (.iload 8, 2) := by decide +kernel
theorem dL_isSquashed_264 : decode cL_isSquashed 264 = .ok (.ifCond .eq 34, 3) := by decide +kernel
theorem dL_isSquashed_267 : decode cL_isSquashed 267 = .ok (.aload_n 0, 1) := by decide +kernel
theorem dL_isSquashed_268 : decode cL_isSquashed 268 = .ok (.iload 6, 2) := by decide +kernel
theorem dL_isSquashed_270 : decode cL_isSquashed 270 = .ok (.iload 9, 2) := by decide +kernel
theorem dL_isSquashed_272 : decode cL_isSquashed 272 = .ok (.invokevirtual 92, 3) := by decide +kernel
theorem dL_isSquashed_275 : decode cL_isSquashed 275 = .ok (.aload_n 0, 1) := by decide +kernel
theorem dL_isSquashed_276 : decode cL_isSquashed 276 = .ok (.iload_n 3, 1) := by decide +kernel
theorem dL_isSquashed_277 : decode cL_isSquashed 277 = .ok (.iload 9, 2) := by decide +kernel
theorem dL_isSquashed_279 : decode cL_isSquashed 279 = .ok (.invokevirtual 92, 3) := by decide +kernel
theorem dL_isSquashed_282 : decode cL_isSquashed 282 = .ok (.if_icmp .ne 7, 3) := by decide +kernel
theorem dL_isSquashed_285 : decode cL_isSquashed 285 = .ok (.iconst 1, 1) := by decide +kernel
theorem dL_isSquashed_286 : decode cL_isSquashed 286 = .ok (.goto 4, 3) := by decide +kernel
theorem dL_isSquashed_289 : decode cL_isSquashed 289 = .ok (.iconst 0, 1) := by decide +kernel
theorem dL_isSquashed_290 : decode cL_isSquashed 290 = .ok (.istore 8, 2) := by decide +kernel
theorem dL_isSquashed_292 : decode cL_isSquashed 292 = .ok (.iinc 9 1, 3) := by decide +kernel
theorem dL_isSquashed_295 : decode cL_isSquashed 295 = .ok (.goto (-39), 3) := by decide +kernel
theorem dL_isSquashed_298 : decode cL_isSquashed 298 = .ok (.iload 8, 2) := by decide +kernel
theorem dL_isSquashed_300 : decode cL_isSquashed 300 = .ok (.ireturn, 1) := by decide +kernel
theorem dL_isRebased_0 : decode cL_isRebased 0 = .ok (.aload_n 0, 1) := by decide +kernel
theorem dL_isRebased_1 : decode cL_isRebased 1 = .ok (.iconst 2, 1) := by decide +kernel
theorem dL_isRebased_2 : decode cL_isRebased 2 = .ok (.iload_n 1, 1) := by decide +kernel
theorem dL_isRebased_3 : decode cL_isRebased 3 = .ok (.iconst 0, 1) := by decide +kernel
theorem dL_isRebased_4 : decode cL_isRebased 4 = .ok (.invokestatic 141, 3) := by decide +kernel
theorem dL_isRebased_7 : decode cL_isRebased 7 = .ok (.istore_n 3, 1) := by decide +kernel
theorem dL_isRebased_8 : decode cL_isRebased 8 = .ok (.aload_n 0, 1) := by decide +kernel
theorem dL_isRebased_9 : decode cL_isRebased 9 = .ok (.invokevirtual 111, 3) := by decide +kernel
theorem dL_isRebased_12 : decode cL_isRebased 12 = .ok (.istore 4, 2) := by decide +kernel
theorem dL_isRebased_14 : decode cL_isRebased 14 = .ok (.aload_n 0, 1) := by decide +kernel
theorem dL_isRebased_15 : decode cL_isRebased 15 = .ok (.iconst 4, 1) := by decide +kernel
theorem dL_isRebased_16 : decode cL_isRebased 16 = .ok (.iload_n 1, 1) := by decide +kernel
theorem dL_isRebased_17 : decode cL_isRebased 17 = .ok (.iload_n 2, 1) := by decide +kernel
theorem dL_isRebased_18 : decode cL_isRebased 18 = .ok (.invokestatic 141, 3) := by decide +kernel
theorem dL_isRebased_21 : decode cL_isRebased 21 = .ok (.istore 5, 2) := by decide +kernel
theorem dL_isRebased_23 : decode cL_isRebased 23 = .ok (.iload_n 1, 1) := by decide +kernel
theorem dL_isRebased_24 : decode cL_isRebased 24 = .ok (.iconst 4, 1) := by decide +kernel
theorem dL_isRebased_25 : decode cL_isRebased 25 = .ok (.if_icmp .gt 20, 3) := by decide +kernel
theorem dL_isRebased_28 : decode cL_isRebased 28 = .ok (.iload_n 2, 1) := by decide +kernel
theorem dL_isRebased_29 : decode cL_isRebased 29 = .ok (.iconst 2, 1) := by decide +kernel
theorem dL_isRebased_30 : decode cL_isRebased 30 = .ok (.if_icmp .gt 15, 3) := by decide +kernel
theorem dL_isRebased_33 : decode cL_isRebased 33 = .ok (.iload_n 3, 1) := by decide +kernel
theorem dL_isRebased_34 : decode cL_isRebased 34 = .ok (.ifCond .lt 11, 3) := by decide +kernel
theorem dL_isRebased_37 : decode cL_isRebased 37 = .ok (.iload 4, 2) := by decide +kernel
theorem dL_isRebased_39 : decode cL_isRebased 39 = .ok (.sipush 399, 3) := by decide +kernel
theorem dL_isRebased_42 : decode cL_isRebased 42 = .ok (.if_icmp .le 40, 3) := by decide +kernel
theorem dL_isRebased_45 : decode cL_isRebased 45 = .ok (.iload 5, 2) := by decide +kernel
theorem dL_isRebased_47 : decode cL_isRebased 47 = .ok (.iload_n 1, 1) := by decide +kernel
theorem dL_isRebased_48 : decode cL_isRebased 48 = .ok (.iconst 4, 1) := by decide +kernel
theorem dL_isRebased_49 : decode cL_isRebased 49 = .ok (.if_icmp .gt 8, 3) := by decide +kernel
theorem dL_isRebased_52 : decode cL_isRebased 52 = .ok (.iload_n 2, 1) := by decide +kernel
theorem dL_isRebased_53 : decode cL_isRebased 53 = .ok (.iconst 2, 1) := by decide +kernel
theorem dL_isRebased_54 : decode cL_isRebased 54 = .ok (.if_icmp .le 8, 3) := by decide +kernel
theorem dL_isRebased_57 : decode cL_isRebased 57 = .ok (.bipush (-30), 2) := by decide +kernel
theorem dL_isRebased_59 : decode cL_isRebased 59 = .ok (.goto 5, 3) := by decide +kernel
theorem dL_isRebased_62 : decode cL_isRebased 62 = .ok (.bipush (-10), 2) := by decide +kernel
theorem dL_isRebased_64 : decode cL_isRebased 64 = .ok (.if_icmp .ne 16, 3) := by decide +kernel
theorem dL_isRebased_67 : decode cL_isRebased 67 = .ok (.aload_n 0, 1) := by decide +kernel
theorem dL_isRebased_68 : decode cL_isRebased 68 = .ok (.invokevirtual 111, 3) := by decide +kernel
theorem dL_isRebased_71 : decode cL_isRebased 71 = .ok (.iload 4, 2) := by decide +kernel
theorem dL_isRebased_73 : decode cL_isRebased 73 = .ok (.if_icmp .ne 7, 3) := by decide +kernel
theorem dL_isRebased_76 : decode cL_isRebased 76 = .ok (.iconst 1, 1) := by decide +kernel
theorem dL_isRebased_77 : decode cL_isRebased 77 = .ok (.goto 4, 3) := by decide +kernel
theorem dL_isRebased_80 : decode cL_isRebased 80 = .ok (.iconst 0, 1) := by decide +kernel
theorem dL_isRebased_81 : decode cL_isRebased 81 = .ok (.ireturn, 1) := by decide +kernel
theorem dL_isRebased_82 : decode cL_isRebased 82 = .ok (.aload_n 0, 1) := by decide +kernel
theorem dL_isRebased_83 : decode cL_isRebased 83 = .ok (.iload_n 3, 1) := by decide +kernel
theorem dL_isRebased_84 : decode cL_isRebased 84 = .ok (.invokevirtual 95, 3) := by decide +kernel
theorem dL_isRebased_87 : decode cL_isRebased 87 = .ok (.istore 6, 2) := by decide +kernel
theorem dL_isRebased_89 : decode cL_isRebased 89 = .ok (.iload 5, 2) := by decide +kernel
theorem dL_isRebased_91 : decode cL_isRebased 91 = .ok (.ifCond .lt 88, 3) := by decide +kernel
theorem dL_isRebased_94 : decode cL_isRebased 94 = .ok (.aload_n 0, 1) := by decide +kernel
theorem dL_isRebased_95 : decode cL_isRebased 95 = .ok (.iload_n 1, 1) := by decide +kernel
theorem dL_isRebased_96 : decode cL_isRebased 96 = .ok (.invokevirtual 71, 3) := by decide +kernel
theorem dL_isRebased_99 : decode cL_isRebased 99 = .ok (.iload 5, 2) := by decide +kernel
theorem dL_isRebased_101 : decode cL_isRebased 101 = .ok (.if_icmp .ne 78, 3) := by decide +kernel
theorem dL_isRebased_104 : decode cL_isRebased 104 = .ok (.aload_n 0, 1) := by decide +kernel
theorem dL_isRebased_105 : decode cL_isRebased 105 = .ok (.iload 5, 2) := by decide +kernel
theorem dL_isRebased_107 : decode cL_isRebased 107 = .ok (.invokevirtual 95, 3) := by decide +kernel
theorem dL_isRebased_110 : decode cL_isRebased 110 = .ok (.iload 6, 2) := by decide +kernel
theorem dL_isRebased_112 : decode cL_isRebased 112 = .ok (.if_icmp .ne 67, 3) := by decide +kernel
theorem dL_isRebased_115 : decode cL_isRebased 115 = .ok (.aload_n 0, 1) := by decide +kernel
theorem dL_isRebased_116 : decode cL_isRebased 116 = .ok (.invokevirtual 111, 3) := by decide +kernel
theorem dL_isRebased_119 : decode cL_isRebased 119 = .ok (.iload 4, 2) := by decide +kernel
theorem dL_isRebased_121 : decode cL_isRebased 121 = .ok (.isub, 1) := by decide +kernel
theorem dL_isRebased_122 : decode cL_isRebased 122 = .ok (.iload 6, 2) := by decide +kernel
theorem dL_isRebased_124 : decode cL_isRebased 124 = .ok (.iconst 1, 1) := by decide +kernel
theorem dL_isRebased_125 : decode cL_isRebased 125 = .ok (.isub, 1) := by decide +kernel
theorem dL_isRebased_126 : decode cL_isRebased 126 = .ok (.if_icmp .lt 53, 3) := by decide +kernel
theorem dL_isRebased_129 : decode cL_isRebased 129 = .ok (.aload_n 0, 1) := by decide +kernel
theorem dL_isRebased_130 : decode cL_isRebased 130 = .ok (.invokevirtual 111, 3) := by decide +kernel
theorem dL_isRebased_133 : decode cL_isRebased 133 = .ok (.iload 4, 2) := by decide +kernel
theorem dL_isRebased_135 : decode cL_isRebased 135 = .ok (.isub, 1) := by decide +kernel
theorem dL_isRebased_136 : decode cL_isRebased 136 = .ok (.iload 6, 2) := by decide +kernel
theorem dL_isRebased_138 : decode cL_isRebased 138 = .ok (.if_icmp .gt 41, 3) := by decide +kernel
theorem dL_isRebased_141 : decode cL_isRebased 141 = .ok (.iload 6, 2) := by decide +kernel
theorem dL_isRebased_143 : decode cL_isRebased 143 = .ok (.iconst 1, 1) := by decide +kernel
theorem dL_isRebased_144 : decode cL_isRebased 144 = .ok (.if_icmp .eq 14, 3) := by decide +kernel
theorem dL_isRebased_147 : decode cL_isRebased 147 = .ok (.iload 5, 2) := by decide +kernel
theorem dL_isRebased_149 : decode cL_isRebased 149 = .ok (.aload_n 0, 1) := by decide +kernel
theorem dL_isRebased_150 : decode cL_isRebased 150 = .ok (.invokevirtual 111, 3) := by decide +kernel
theorem dL_isRebased_153 : decode cL_isRebased 153 = .ok (.iconst 1, 1) := by decide +kernel
theorem dL_isRebased_154 : decode cL_isRebased 154 = .ok (.isub, 1) := by decide +kernel
theorem dL_isRebased_155 : decode cL_isRebased 155 = .ok (.if_icmp .ne 24, 3) := by decide +kernel
theorem dL_isRebased_158 : decode cL_isRebased 158 = .ok (.aload_n 0, 1) := by decide +kernel
theorem dL_isRebased_159 : decode cL_isRebased 159 = .ok (.iload 5, 2) := by decide +kernel
theorem dL_isRebased_161 : decode cL_isRebased 161 = .ok (.invokevirtual 98, 3) := by decide +kernel
theorem dL_isRebased_164 : decode cL_isRebased 164 = .ok (.aload_n 0, 1) := by decide +kernel
theorem dL_isRebased_165 : decode cL_isRebased 165 = .ok (.iload_n 3, 1) := by decide +kernel
theorem dL_isRebased_166 : decode cL_isRebased 166 = .ok (.invokevirtual 98, 3) := by decide +kernel
theorem dL_isRebased_169 : decode cL_isRebased 169 = .ok (.isub, 1) := by decide +kernel
theorem dL_isRebased_170 : decode cL_isRebased 170 = .ok (.bipush 12, 2) := by decide +kernel
theorem dL_isRebased_172 : decode cL_isRebased 172 = .ok (.if_icmp .gt 7, 3) := by decide +kernel
theorem dL_isRebased_175 : decode cL_isRebased 175 = .ok (.iconst 1, 1) := by decide +kernel
theorem dL_isRebased_176 : decode cL_isRebased 176 = .ok (.goto 4, 3) := by decide +kernel
theorem dL_isRebased_179 : decode cL_isRebased 179 = .ok (.iconst 0, 1) := by decide +kernel
theorem dL_isRebased_180 : decode cL_isRebased 180 = .ok (.istore 7, 2) := by decide +kernel
theorem dL_isRebased_182 : decode cL_isRebased 182 = .ok (.iconst 0, 1) := by decide +kernel
theorem dL_isRebased_183 : decode cL_isRebased 183 = .ok (.istore 8, 2) := by decide +kernel
theorem dL_isRebased_185 : decode cL_isRebased 185 = .ok (.iload 8, 2) := by decide +kernel
theorem dL_isRebased_187 : decode cL_isRebased 187 = .ok (.iconst 4, 1) := by decide +kernel
theorem dL_isRebased_188 : decode cL_isRebased 188 = .ok (.if_icmp .ge 39, 3) := by decide +kernel
theorem dL_isRebased_191 : decode cL_isRebased 191 = .ok (.iload 7, 2) := by decide +kernel
theorem dL_isRebased_193 : decode cL_isRebased 193 = .ok (.ifCond .eq 34, 3) := by decide +kernel
theorem dL_isRebased_196 : decode cL_isRebased 196 = .ok (.aload_n 0, 1) := by decide +kernel
theorem dL_isRebased_197 : decode cL_isRebased 197 = .ok (.iload 5, 2) := by decide +kernel
theorem dL_isRebased_199 : decode cL_isRebased 199 = .ok (.iload 8, 2) := by decide +kernel
theorem dL_isRebased_201 : decode cL_isRebased 201 = .ok (.invokevirtual 92, 3) := by decide +kernel
theorem dL_isRebased_204 : decode cL_isRebased 204 = .ok (.aload_n 0, 1) := by decide +kernel
theorem dL_isRebased_205 : decode cL_isRebased 205 = .ok (.iload_n 3, 1) := by decide +kernel
theorem dL_isRebased_206 : decode cL_isRebased 206 = .ok (.iload 8, 2) := by decide +kernel
theorem dL_isRebased_208 : decode cL_isRebased 208 = .ok (.invokevirtual 92, 3) := by decide +kernel
theorem dL_isRebased_211 : decode cL_isRebased 211 = .ok (.if_icmp .ne 7, 3) := by decide +kernel
theorem dL_isRebased_214 : decode cL_isRebased 214 = .ok (.iconst 1, 1) := by decide +kernel
theorem dL_isRebased_215 : decode cL_isRebased 215 = .ok (.goto 4, 3) := by decide +kernel
theorem dL_isRebased_218 : decode cL_isRebased 218 = .ok (.iconst 0, 1) := by decide +kernel
theorem dL_isRebased_219 : decode cL_isRebased 219 = .ok (.istore 7, 2) := by decide +kernel
theorem dL_isRebased_221 : decode cL_isRebased 221 = .ok (.iinc 8 1, 3) := by decide +kernel
theorem dL_isRebased_224 : decode cL_isRebased 224 = .ok (.goto (-39), 3) := by decide +kernel
theorem dL_isRebased_227 : decode cL_isRebased 227 = .ok (.iload 5, 2) := by decide +kernel
theorem dL_isRebased_229 : decode cL_isRebased 229 = .ok (.istore 8, 2) := by decide +kernel
theorem dL_isRebased_231 : decode cL_isRebased 231 = .ok (.iload_n 3, 1) := by decide +kernel
theorem dL_isRebased_232 : decode cL_isRebased 232 = .ok (.istore 9, 2) := by decide +kernel
theorem dL_isRebased_234 : decode cL_isRebased 234 = .ok (.iconst 1, 1) := by decide +kernel
theorem dL_isRebased_235 : decode cL_isRebased 235 = .ok (.istore 10, 2) := by decide +kernel
theorem dL_isRebased_237 : decode cL_isRebased 237 = .ok (.iload 10, 2) := by decide +kernel
theorem dL_isRebased_239 : decode cL_isRebased 239 = .ok (.iload 6, 2) := by decide +kernel
theorem dL_isRebased_241 : decode cL_isRebased 241 = .ok (.if_icmp .ge 108, 3) := by decide +kernel
theorem dL_isRebased_244 : decode cL_isRebased 244 = .ok (.iload 7, 2) := by decide +kernel
theorem dL_isRebased_246 : decode cL_isRebased 246 = .ok (.ifCond .eq 103, 3) := by decide +kernel
theorem dL_isRebased_249 : decode cL_isRebased 249 = .ok (.iconst 0, 1) := by decide +kernel
theorem dL_isRebased_250 : decode cL_isRebased 250 = .ok (.istore 11, 2) := by decide +kernel
theorem dL_isRebased_252 : decode cL_isRebased 252 = .ok (.iload 11, 2) := by decide +kernel
theorem dL_isRebased_254 : decode cL_isRebased 254 = .ok (.bipush 12, 2) := by decide +kernel
theorem dL_isRebased_256 : decode cL_isRebased 256 = .ok (.if_icmp .ge 71, 3) := by decide +kernel
theorem dL_isRebased_259 : decode cL_isRebased 259 = .ok (.iload 7, 2) := by decide +kernel
theorem dL_isRebased_261 : decode cL_isRebased 261 = .ok (.ifCond .eq 66, 3) := by decide +kernel
theorem dL_isRebased_264 : decode cL_isRebased 264 = .ok (.aload_n 0, 1) := by decide +kernel
theorem dL_isRebased_265 : decode cL_isRebased 265 = .ok (.iload 9, 2) := by decide +kernel
theorem dL_isRebased_267 : decode cL_isRebased 267 = .ok (.iload 11, 2) := by decide +kernel
theorem dL_isRebased_269 : decode cL_isRebased 269 = .ok (.invokevirtual 86, 3) := by decide +kernel
theorem dL_isRebased_272 : decode cL_isRebased 272 = .ok (.istore 12, 2) := by decide +kernel
theorem dL_isRebased_274 : decode cL_isRebased 274 = .ok (.aload_n 0, 1) := by decide +kernel
theorem dL_isRebased_275 : decode cL_isRebased 275 = .ok (.iload 8, 2) := by decide +kernel
theorem dL_isRebased_277 : decode cL_isRebased 277 = .ok (.iload 11, 2) := by decide +kernel
theorem dL_isRebased_279 : decode cL_isRebased 279 = .ok (.invokevirtual 86, 3) := by decide +kernel
theorem dL_isRebased_282 : decode cL_isRebased 282 = .ok (.iload 12, 2) := by decide +kernel
theorem dL_isRebased_284 : decode cL_isRebased 284 = .ok (.bipush (-2), 2) := by decide +kernel
theorem dL_isRebased_286 : decode cL_isRebased 286 = .ok (.if_icmp .ne 23, 3) := by decide +kernel
theorem dL_isRebased_289 : decode cL_isRebased 289 = .ok (.aload_n 0, 1) := by decide +kernel
theorem dL_isRebased_290 : decode cL_isRebased 290 = .ok (.aload_n 0, 1) := by decide +kernel
theorem dL_isRebased_291 : decode cL_isRebased 291 = .ok (.iload 8, 2) := by decide +kernel
theorem dL_isRebased_293 : decode cL_isRebased 293 = .ok (.invokevirtual 80, 3) := by decide +kernel
theorem dL_isRebased_296 : decode cL_isRebased 296 = .ok (.iload 11, 2) := by decide +kernel
theorem dL_isRebased_298 : decode cL_isRebased 298 = .ok (.invokevirtual 89, 3) := by decide +kernel
theorem dL_isRebased_301 : decode cL_isRebased 301 = .ok (.iconst (-1), 1) := by decide +kernel
theorem dL_isRebased_302 : decode cL_isRebased 302 = .ok (.if_icmp .ne 7, 3) := by decide +kernel
theorem dL_isRebased_305 : decode cL_isRebased 305 = .ok (.iconst (-1), 1) := by decide +kernel
theorem dL_isRebased_306 : decode cL_isRebased 306 = .ok (.goto 5, 3) := by decide +kernel
theorem dL_isRebased_309 : decode cL_isRebased 309 = .ok (.iload 12, 2) := by decide +kernel
theorem dL_isRebased_311 : decode cL_isRebased 311 = .ok (.if_icmp .ne 7, 3) := by decide +kernel
theorem dL_isRebased_314 : decode cL_isRebased 314 = .ok (.iconst 1, 1) := by decide +kernel
theorem dL_isRebased_315 : decode cL_isRebased 315 = .ok (.goto 4, 3) := by decide +kernel
theorem dL_isRebased_318 : decode cL_isRebased 318 = .ok (.iconst 0, 1) := by decide +kernel
theorem dL_isRebased_319 : decode cL_isRebased 319 = .ok (.istore 7, 2) := by decide +kernel
theorem dL_isRebased_321 : decode cL_isRebased 321 = .ok (.iinc 11 1, 3) := by decide +kernel
theorem dL_isRebased_324 : decode cL_isRebased 324 = .ok (.goto (-72), 3) := by decide +kernel
theorem dL_isRebased_327 : decode cL_isRebased 327 = .ok (.aload_n 0, 1) := by decide +kernel
theorem dL_isRebased_328 : decode cL_isRebased 328 = .ok (.iload 8, 2) := by decide +kernel
theorem dL_isRebased_330 : decode cL_isRebased 330 = .ok (.invokevirtual 80, 3) := by decide +kernel
theorem dL_isRebased_333 : decode cL_isRebased 333 = .ok (.istore 8, 2) := by decide +kernel
theorem dL_isRebased_335 : decode cL_isRebased 335 = .ok (.aload_n 0, 1) := by decide +kernel
theorem dL_isRebased_336 : decode cL_isRebased 336 = .ok (.iload 9, 2) := by decide +kernel
theorem dL_isRebased_338 : decode cL_isRebased 338 = .ok (.invokevirtual 80, 3) := by decide +kernel
theorem dL_isRebased_341 : decode cL_isRebased 341 = .ok (.istore 9, 2) := by decide +kernel
theorem dL_isRebased_343 : decode cL_isRebased 343 = .ok (.iinc 10 1, 3) := by decide +kernel
theorem dL_isRebased_346 : decode cL_isRebased 346 = .ok (.goto (-109), 3) := by decide +kernel
theorem dL_isRebased_349 : decode cL_isRebased 349 = .ok (.iload 7, 2) := by decide +kernel
theorem dL_isRebased_351 : decode cL_isRebased 351 = .ok (.ireturn, 1) := by decide +kernel
theorem dL_isPruned_0 : decode cL_isPruned 0 = .ok (.aload_n 0, 1) := by decide +kernel
theorem dL_isPruned_1 : decode cL_isPruned 1 = .ok (.invokevirtual 117, 3) := by decide +kernel
theorem dL_isPruned_4 : decode cL_isPruned 4 = .ok (.ifCond .le 20, 3) := by decide +kernel
theorem dL_isPruned_7 : decode cL_isPruned 7 = .ok (.aload_n 0, 1) := by decide +kernel
theorem dL_isPruned_8 : decode cL_isPruned 8 = .ok (.iconst 4, 1) := by decide +kernel
theorem dL_isPruned_9 : decode cL_isPruned 9 = .ok (.iconst 0, 1) := by decide +kernel
theorem dL_isPruned_10 : decode cL_isPruned 10 = .ok (.invokestatic 131, 3) := by decide +kernel
theorem dL_isPruned_13 : decode cL_isPruned 13 = .ok (.bipush (-10), 2) := by decide +kernel
theorem dL_isPruned_15 : decode cL_isPruned 15 = .ok (.if_icmp .ne 7, 3) := by decide +kernel
theorem dL_isPruned_18 : decode cL_isPruned 18 = .ok (.iconst 1, 1) := by decide +kernel
theorem dL_isPruned_19 : decode cL_isPruned 19 = .ok (.goto 4, 3) := by decide +kernel
theorem dL_isPruned_22 : decode cL_isPruned 22 = .ok (.iconst 0, 1) := by decide +kernel
theorem dL_isPruned_23 : decode cL_isPruned 23 = .ok (.ireturn, 1) := by decide +kernel
theorem dL_isPruned_24 : decode cL_isPruned 24 = .ok (.iconst 0, 1) := by decide +kernel
theorem dL_isPruned_25 : decode cL_isPruned 25 = .ok (.istore_n 1, 1) := by decide +kernel
theorem dL_isPruned_26 : decode cL_isPruned 26 = .ok (.aload_n 0, 1) := by decide +kernel
theorem dL_isPruned_27 : decode cL_isPruned 27 = .ok (.invokevirtual 111, 3) := by decide +kernel
theorem dL_isPruned_30 : decode cL_isPruned 30 = .ok (.istore_n 2, 1) := by decide +kernel
theorem dL_isPruned_31 : decode cL_isPruned 31 = .ok (.iconst 0, 1) := by decide +kernel
theorem dL_isPruned_32 : decode cL_isPruned 32 = .ok (.istore_n 3, 1) := by decide +kernel
theorem dL_isPruned_33 : decode cL_isPruned 33 = .ok (.iload_n 3, 1) := by decide +kernel
theorem dL_isPruned_34 : decode cL_isPruned 34 = .ok (.iload_n 2, 1) := by decide +kernel
theorem dL_isPruned_35 : decode cL_isPruned 35 = .ok (.if_icmp .ge 37, 3) := by decide +kernel
theorem dL_isPruned_38 : decode cL_isPruned 38 = .ok (.iload_n 1, 1) := by decide +kernel
theorem dL_isPruned_39 : decode cL_isPruned 39 = .ok (.aload_n 0, 1) := by decide +kernel
theorem dL_isPruned_40 : decode cL_isPruned 40 = .ok (.iconst 0, 1) := by decide +kernel
theorem dL_isPruned_41 : decode cL_isPruned 41 = .ok (.iload_n 3, 1) := by decide +kernel
theorem dL_isPruned_42 : decode cL_isPruned 42 = .ok (.iconst 0, 1) := by decide +kernel
theorem dL_isPruned_43 : decode cL_isPruned 43 = .ok (.invokestatic 104, 3) := by decide +kernel
theorem dL_isPruned_46 : decode cL_isPruned 46 = .ok (.bipush (-30), 2) := by decide +kernel
theorem dL_isPruned_48 : decode cL_isPruned 48 = .ok (.if_icmp .le 15, 3) := by decide +kernel
theorem dL_isPruned_51 : decode cL_isPruned 51 = .ok (.aload_n 0, 1) := by decide +kernel
theorem dL_isPruned_52 : decode cL_isPruned 52 = .ok (.iload_n 3, 1) := by decide +kernel
theorem dL_isPruned_53 : decode cL_isPruned 53 = .ok (.invokestatic 144, 3) := by decide +kernel
theorem dL_isPruned_56 : decode cL_isPruned 56 = .ok (.ifCond .ne 7, 3) := by decide +kernel
theorem dL_isPruned_59 : decode cL_isPruned 59 = .ok (.iconst 1, 1) := by decide +kernel
theorem dL_isPruned_60 : decode cL_isPruned 60 = .ok (.goto 4, 3) := by decide +kernel
theorem dL_isPruned_63 : decode cL_isPruned 63 = .ok (.iconst 0, 1) := by decide +kernel
theorem dL_isPruned_64 : decode cL_isPruned 64 = .ok (.iadd, 1) := by decide +kernel
theorem dL_isPruned_65 : decode cL_isPruned 65 = .ok (.istore_n 1, 1) := by decide +kernel
theorem dL_isPruned_66 : decode cL_isPruned 66 = .ok (.iinc 3 1, 3) := by decide +kernel
theorem dL_isPruned_69 : decode cL_isPruned 69 = .ok (.goto (-36), 3) := by decide +kernel
theorem dL_isPruned_72 : decode cL_isPruned 72 = .ok (.aload_n 0, 1) := by decide +kernel
theorem dL_isPruned_73 : decode cL_isPruned 73 = .ok (.iconst 4, 1) := by decide +kernel
theorem dL_isPruned_74 : decode cL_isPruned 74 = .ok (.iconst 0, 1) := by decide +kernel
theorem dL_isPruned_75 : decode cL_isPruned 75 = .ok (.invokestatic 131, 3) := by decide +kernel
theorem dL_isPruned_78 : decode cL_isPruned 78 = .ok (.iload_n 1, 1) := by decide +kernel
theorem dL_isPruned_79 : decode cL_isPruned 79 = .ok (.if_icmp .ne 24, 3) := by decide +kernel
theorem dL_isPruned_82 : decode cL_isPruned 82 = .ok (.aload_n 0, 1) := by decide +kernel
theorem dL_isPruned_83 : decode cL_isPruned 83 = .ok (.invokevirtual 111, 3) := by decide +kernel
theorem dL_isPruned_86 : decode cL_isPruned 86 = .ok (.iload_n 2, 1) := by decide +kernel
theorem dL_isPruned_87 : decode cL_isPruned 87 = .ok (.if_icmp .ne 16, 3) := by decide +kernel
theorem dL_isPruned_90 : decode cL_isPruned 90 = .ok (.aload_n 0, 1) := by decide +kernel
theorem dL_isPruned_91 : decode cL_isPruned 91 = .ok (.iconst 4, 1) := by decide +kernel
theorem dL_isPruned_92 : decode cL_isPruned 92 = .ok (.iconst 0, 1) := by decide +kernel
theorem dL_isPruned_93 : decode cL_isPruned 93 = .ok (.invokestatic 131, 3) := by decide +kernel
theorem dL_isPruned_96 : decode cL_isPruned 96 = .ok (.ifCond .ne 7, 3) := by decide +kernel
theorem dL_isPruned_99 : decode cL_isPruned 99 = .ok (.iconst 1, 1) := by decide +kernel
theorem dL_isPruned_100 : decode cL_isPruned 100 = .ok (.goto 4, 3) := by decide +kernel
theorem dL_isPruned_103 : decode cL_isPruned 103 = .ok (.iconst 0, 1) := by decide +kernel
theorem dL_isPruned_104 : decode cL_isPruned 104 = .ok (.istore_n 3, 1) := by decide +kernel
theorem dL_isPruned_105 : decode cL_isPruned 105 = .ok (.iconst 0, 1) := by decide +kernel
theorem dL_isPruned_106 : decode cL_isPruned 106 = .ok (.istore 4, 2) := by decide +kernel
theorem dL_isPruned_108 : decode cL_isPruned 108 = .ok (.iload 4, 2) := by decide +kernel
theorem dL_isPruned_110 : decode cL_isPruned 110 = .ok (.iload_n 2, 1) := by decide +kernel
theorem dL_isPruned_111 : decode cL_isPruned 111 = .ok (.if_icmp .ge 46, 3) := by decide +kernel
theorem dL_isPruned_114 : decode cL_isPruned 114 = .ok (.iload_n 3, 1) := by decide +kernel
theorem dL_isPruned_115 : decode cL_isPruned 115 = .ok (.ifCond .eq 42, 3) := by decide +kernel
theorem dL_isPruned_118 : decode cL_isPruned 118 = .ok (.aload_n 0, 1) := by decide +kernel
theorem dL_isPruned_119 : decode cL_isPruned 119 = .ok (.iconst 0, 1) := by decide +kernel
theorem dL_isPruned_120 : decode cL_isPruned 120 = .ok (.iload 4, 2) := by decide +kernel
theorem dL_isPruned_122 : decode cL_isPruned 122 = .ok (.iconst 0, 1) := by decide +kernel
theorem dL_isPruned_123 : decode cL_isPruned 123 = .ok (.invokestatic 104, 3) := by decide +kernel
theorem dL_isPruned_126 : decode cL_isPruned 126 = .ok (.bipush (-30), 2) := by decide +kernel
theorem dL_isPruned_128 : decode cL_isPruned 128 = .ok (.if_icmp .le 7, 3) := by decide +kernel
theorem dL_isPruned_131 : decode cL_isPruned 131 = .ok (.iconst 1, 1) := by decide +kernel
theorem dL_isPruned_132 : decode cL_isPruned 132 = .ok (.goto 4, 3) := by decide +kernel
theorem dL_isPruned_135 : decode cL_isPruned 135 = .ok (.iconst 0, 1) := by decide +kernel
theorem dL_isPruned_136 : decode cL_isPruned 136 = .ok (.aload_n 0, 1) := by decide +kernel
theorem dL_isPruned_137 : decode cL_isPruned 137 = .ok (.iload 4, 2) := by decide +kernel
theorem dL_isPruned_139 : decode cL_isPruned 139 = .ok (.invokestatic 144, 3) := by decide +kernel
theorem dL_isPruned_142 : decode cL_isPruned 142 = .ok (.if_icmp .ne 7, 3) := by decide +kernel
theorem dL_isPruned_145 : decode cL_isPruned 145 = .ok (.iconst 1, 1) := by decide +kernel
theorem dL_isPruned_146 : decode cL_isPruned 146 = .ok (.goto 4, 3) := by decide +kernel
theorem dL_isPruned_149 : decode cL_isPruned 149 = .ok (.iconst 0, 1) := by decide +kernel
theorem dL_isPruned_150 : decode cL_isPruned 150 = .ok (.istore_n 3, 1) := by decide +kernel
theorem dL_isPruned_151 : decode cL_isPruned 151 = .ok (.iinc 4 1, 3) := by decide +kernel
theorem dL_isPruned_154 : decode cL_isPruned 154 = .ok (.goto (-46), 3) := by decide +kernel
theorem dL_isPruned_157 : decode cL_isPruned 157 = .ok (.iload_n 3, 1) := by decide +kernel
theorem dL_isPruned_158 : decode cL_isPruned 158 = .ok (.ireturn, 1) := by decide +kernel
theorem dL_isDone_0 : decode cL_isDone 0 = .ok (.aload_n 1, 1) := by decide +kernel
theorem dL_isDone_1 : decode cL_isDone 1 = .ok (.iload_n 2, 1) := by decide +kernel
theorem dL_isDone_2 : decode cL_isDone 2 = .ok (.bipush 30, 2) := by decide +kernel
theorem dL_isDone_4 : decode cL_isDone 4 = .ok (.invokestatic 147, 3) := by decide +kernel
theorem dL_isDone_7 : decode cL_isDone 7 = .ok (.istore 4, 2) := by decide +kernel
theorem dL_isDone_9 : decode cL_isDone 9 = .ok (.aload_n 1, 1) := by decide +kernel
theorem dL_isDone_10 : decode cL_isDone 10 = .ok (.iload_n 2, 1) := by decide +kernel
theorem dL_isDone_11 : decode cL_isDone 11 = .ok (.iconst 1, 1) := by decide +kernel
theorem dL_isDone_12 : decode cL_isDone 12 = .ok (.iadd, 1) := by decide +kernel
theorem dL_isDone_13 : decode cL_isDone 13 = .ok (.sipush 6000, 3) := by decide +kernel
theorem dL_isDone_16 : decode cL_isDone 16 = .ok (.invokestatic 147, 3) := by decide +kernel
theorem dL_isDone_19 : decode cL_isDone 19 = .ok (.istore 5, 2) := by decide +kernel
theorem dL_isDone_21 : decode cL_isDone 21 = .ok (.aload_n 1, 1) := by decide +kernel
theorem dL_isDone_22 : decode cL_isDone 22 = .ok (.iload_n 2, 1) := by decide +kernel
theorem dL_isDone_23 : decode cL_isDone 23 = .ok (.iconst 2, 1) := by decide +kernel
theorem dL_isDone_24 : decode cL_isDone 24 = .ok (.iadd, 1) := by decide +kernel
theorem dL_isDone_25 : decode cL_isDone 25 = .ok (.sipush 7000, 3) := by decide +kernel
theorem dL_isDone_28 : decode cL_isDone 28 = .ok (.invokestatic 147, 3) := by decide +kernel
theorem dL_isDone_31 : decode cL_isDone 31 = .ok (.istore 6, 2) := by decide +kernel
theorem dL_isDone_33 : decode cL_isDone 33 = .ok (.aload_n 1, 1) := by decide +kernel
theorem dL_isDone_34 : decode cL_isDone 34 = .ok (.iload_n 2, 1) := by decide +kernel
theorem dL_isDone_35 : decode cL_isDone 35 = .ok (.iconst 3, 1) := by decide +kernel
theorem dL_isDone_36 : decode cL_isDone 36 = .ok (.iadd, 1) := by decide +kernel
theorem dL_isDone_37 : decode cL_isDone 37 = .ok (.sipush 10100, 3) := by decide +kernel
theorem dL_isDone_40 : decode cL_isDone 40 = .ok (.invokestatic 147, 3) := by decide +kernel
theorem dL_isDone_43 : decode cL_isDone 43 = .ok (.istore 7, 2) := by decide +kernel
theorem dL_isDone_45 : decode cL_isDone 45 = .ok (.iload 4, 2) := by decide +kernel
theorem dL_isDone_47 : decode cL_isDone 47 = .ok (.iconst 4, 1) := by decide +kernel
theorem dL_isDone_48 : decode cL_isDone 48 = .ok (.if_icmp .ge 156, 3) := by decide +kernel
theorem dL_isDone_51 : decode cL_isDone 51 = .ok (.aload_n 0, 1) := by decide +kernel
theorem dL_isDone_52 : decode cL_isDone 52 = .ok (.iconst 0, 1) := by decide +kernel
theorem dL_isDone_53 : decode cL_isDone 53 = .ok (.iload 5, 2) := by decide +kernel
theorem dL_isDone_55 : decode cL_isDone 55 = .ok (.bipush 9, 2) := by decide +kernel
theorem dL_isDone_57 : decode cL_isDone 57 = .ok (.irem, 1) := by decide +kernel
theorem dL_isDone_58 : decode cL_isDone 58 = .ok (.iload 7, 2) := by decide +kernel
theorem dL_isDone_60 : decode cL_isDone 60 = .ok (.iconst 3, 1) := by decide +kernel
theorem dL_isDone_61 : decode cL_isDone 61 = .ok (.irem, 1) := by decide +kernel
theorem dL_isDone_62 : decode cL_isDone 62 = .ok (.ifCond .ne 13, 3) := by decide +kernel
theorem dL_isDone_65 : decode cL_isDone 65 = .ok (.iload 6, 2) := by decide +kernel
theorem dL_isDone_67 : decode cL_isDone 67 = .ok (.bipush 50, 2) := by decide +kernel
theorem dL_isDone_69 : decode cL_isDone 69 = .ok (.irem, 1) := by decide +kernel
theorem dL_isDone_70 : decode cL_isDone 70 = .ok (.iconst 2, 1) := by decide +kernel
theorem dL_isDone_71 : decode cL_isDone 71 = .ok (.isub, 1) := by decide +kernel
theorem dL_isDone_72 : decode cL_isDone 72 = .ok (.goto 7, 3) := by decide +kernel
theorem dL_isDone_75 : decode cL_isDone 75 = .ok (.iload 7, 2) := by decide +kernel
theorem dL_isDone_77 : decode cL_isDone 77 = .ok (.iconst 1, 1) := by decide +kernel
theorem dL_isDone_78 : decode cL_isDone 78 = .ok (.isub, 1) := by decide +kernel
theorem dL_isDone_79 : decode cL_isDone 79 = .ok (.iconst 0, 1) := by decide +kernel
theorem dL_isDone_80 : decode cL_isDone 80 = .ok (.invokestatic 124, 3) := by decide +kernel
theorem dL_isDone_83 : decode cL_isDone 83 = .ok (.istore 8, 2) := by decide +kernel
theorem dL_isDone_85 : decode cL_isDone 85 = .ok (.iload 7, 2) := by decide +kernel
theorem dL_isDone_87 : decode cL_isDone 87 = .ok (.iconst 3, 1) := by decide +kernel
theorem dL_isDone_88 : decode cL_isDone 88 = .ok (.irem, 1) := by decide +kernel
theorem dL_isDone_89 : decode cL_isDone 89 = .ok (.ifCond .ne 13, 3) := by decide +kernel
theorem dL_isDone_92 : decode cL_isDone 92 = .ok (.iload 6, 2) := by decide +kernel
theorem dL_isDone_94 : decode cL_isDone 94 = .ok (.bipush 50, 2) := by decide +kernel
theorem dL_isDone_96 : decode cL_isDone 96 = .ok (.irem, 1) := by decide +kernel
theorem dL_isDone_97 : decode cL_isDone 97 = .ok (.iconst 2, 1) := by decide +kernel
theorem dL_isDone_98 : decode cL_isDone 98 = .ok (.isub, 1) := by decide +kernel
theorem dL_isDone_99 : decode cL_isDone 99 = .ok (.goto 7, 3) := by decide +kernel
theorem dL_isDone_102 : decode cL_isDone 102 = .ok (.iload 7, 2) := by decide +kernel
theorem dL_isDone_104 : decode cL_isDone 104 = .ok (.iconst 1, 1) := by decide +kernel
theorem dL_isDone_105 : decode cL_isDone 105 = .ok (.isub, 1) := by decide +kernel
theorem dL_isDone_106 : decode cL_isDone 106 = .ok (.istore 9, 2) := by decide +kernel
theorem dL_isDone_108 : decode cL_isDone 108 = .ok (.iload 9, 2) := by decide +kernel
theorem dL_isDone_110 : decode cL_isDone 110 = .ok (.iconst (-1), 1) := by decide +kernel
theorem dL_isDone_111 : decode cL_isDone 111 = .ok (.if_icmp .lt 15, 3) := by decide +kernel
theorem dL_isDone_114 : decode cL_isDone 114 = .ok (.iload 9, 2) := by decide +kernel
theorem dL_isDone_116 : decode cL_isDone 116 = .ok (.sipush 10000, 3) := by decide +kernel
theorem dL_isDone_119 : decode cL_isDone 119 = .ok (.if_icmp .ge 7, 3) := by decide +kernel
theorem dL_isDone_122 : decode cL_isDone 122 = .ok (.iconst 1, 1) := by decide +kernel
theorem dL_isDone_123 : decode cL_isDone 123 = .ok (.goto 4, 3) := by decide +kernel
theorem dL_isDone_126 : decode cL_isDone 126 = .ok (.iconst 0, 1) := by decide +kernel
theorem dL_isDone_127 : decode cL_isDone 127 = .ok (.istore 10, 2) := by decide +kernel
theorem dL_isDone_129 : decode cL_isDone 129 = .ok (.iload 5, 2) := by decide +kernel
theorem dL_isDone_131 : decode cL_isDone 131 = .ok (.bipush 9, 2) := by decide +kernel
theorem dL_isDone_133 : decode cL_isDone 133 = .ok (.irem, 1) := by decide +kernel
theorem dL_isDone_134 : decode cL_isDone 134 = .ok (.bipush 8, 2) := by decide +kernel
theorem dL_isDone_136 : decode cL_isDone 136 = .ok (.if_icmp .ne 18, 3) := by decide +kernel
theorem dL_isDone_139 : decode cL_isDone 139 = .ok (.iload 8, 2) := by decide +kernel
theorem dL_isDone_141 : decode cL_isDone 141 = .ok (.bipush (-30), 2) := by decide +kernel
theorem dL_isDone_143 : decode cL_isDone 143 = .ok (.if_icmp .ne 7, 3) := by decide +kernel
theorem dL_isDone_146 : decode cL_isDone 146 = .ok (.iconst 1, 1) := by decide +kernel
theorem dL_isDone_147 : decode cL_isDone 147 = .ok (.goto 56, 3) := by decide +kernel
theorem dL_isDone_150 : decode cL_isDone 150 = .ok (.iconst 0, 1) := by decide +kernel
theorem dL_isDone_151 : decode cL_isDone 151 = .ok (.goto 52, 3) := by decide +kernel
theorem dL_isDone_154 : decode cL_isDone 154 = .ok (.iload 10, 2) := by decide +kernel
theorem dL_isDone_156 : decode cL_isDone 156 = .ok (.ifCond .ne 18, 3) := by decide +kernel
theorem dL_isDone_159 : decode cL_isDone 159 = .ok (.iload 8, 2) := by decide +kernel
theorem dL_isDone_161 : decode cL_isDone 161 = .ok (.bipush (-20), 2) := by decide +kernel
theorem dL_isDone_163 : decode cL_isDone 163 = .ok (.if_icmp .ne 7, 3) := by decide +kernel
theorem dL_isDone_166 : decode cL_isDone 166 = .ok (.iconst 1, 1) := by decide +kernel
theorem dL_isDone_167 : decode cL_isDone 167 = .ok (.goto 36, 3) := by decide +kernel
theorem dL_isDone_170 : decode cL_isDone 170 = .ok (.iconst 0, 1) := by decide +kernel
theorem dL_isDone_171 : decode cL_isDone 171 = .ok (.goto 32, 3) := by decide +kernel
theorem dL_isDone_174 : decode cL_isDone 174 = .ok (.iload 8, 2) := by decide +kernel
theorem dL_isDone_176 : decode cL_isDone 176 = .ok (.iconst (-1), 1) := by decide +kernel
theorem dL_isDone_177 : decode cL_isDone 177 = .ok (.if_icmp .lt 25, 3) := by decide +kernel
theorem dL_isDone_180 : decode cL_isDone 180 = .ok (.aload_n 0, 1) := by decide +kernel
theorem dL_isDone_181 : decode cL_isDone 181 = .ok (.iconst 0, 1) := by decide +kernel
theorem dL_isDone_182 : decode cL_isDone 182 = .ok (.iload 5, 2) := by decide +kernel
theorem dL_isDone_184 : decode cL_isDone 184 = .ok (.bipush 9, 2) := by decide +kernel
theorem dL_isDone_186 : decode cL_isDone 186 = .ok (.irem, 1) := by decide +kernel
theorem dL_isDone_187 : decode cL_isDone 187 = .ok (.iload 9, 2) := by decide +kernel
theorem dL_isDone_189 : decode cL_isDone 189 = .ok (.iconst 0, 1) := by decide +kernel
theorem dL_isDone_190 : decode cL_isDone 190 = .ok (.invokestatic 124, 3) := by decide +kernel
theorem dL_isDone_193 : decode cL_isDone 193 = .ok (.iload 9, 2) := by decide +kernel
theorem dL_isDone_195 : decode cL_isDone 195 = .ok (.if_icmp .ne 7, 3) := by decide +kernel
theorem dL_isDone_198 : decode cL_isDone 198 = .ok (.iconst 1, 1) := by decide +kernel
theorem dL_isDone_199 : decode cL_isDone 199 = .ok (.goto 4, 3) := by decide +kernel
theorem dL_isDone_202 : decode cL_isDone 202 = .ok (.iconst 0, 1) := by decide +kernel
theorem dL_isDone_203 : decode cL_isDone 203 = .ok (.ireturn, 1) := by decide +kernel
theorem dL_isDone_204 : decode cL_isDone 204 = .ok (.iload 4, 2) := by decide +kernel
theorem dL_isDone_206 : decode cL_isDone 206 = .ok (.bipush 8, 2) := by decide +kernel
theorem dL_isDone_208 : decode cL_isDone 208 = .ok (.if_icmp .ge 110, 3) := by decide +kernel
theorem dL_isDone_211 : decode cL_isDone 211 = .ok (.iload 7, 2) := by decide +kernel
theorem dL_isDone_213 : decode cL_isDone 213 = .ok (.iconst 3, 1) := by decide +kernel
theorem dL_isDone_214 : decode cL_isDone 214 = .ok (.irem, 1) := by decide +kernel
theorem dL_isDone_215 : decode cL_isDone 215 = .ok (.ifCond .ne 7, 3) := by decide +kernel
theorem dL_isDone_218 : decode cL_isDone 218 = .ok (.iconst (-1), 1) := by decide +kernel
theorem dL_isDone_219 : decode cL_isDone 219 = .ok (.goto 9, 3) := by decide +kernel
theorem dL_isDone_222 : decode cL_isDone 222 = .ok (.iload 6, 2) := by decide +kernel
theorem dL_isDone_224 : decode cL_isDone 224 = .ok (.sipush 10010, 3) := by decide +kernel
theorem dL_isDone_227 : decode cL_isDone 227 = .ok (.irem, 1) := by decide +kernel
theorem dL_isDone_228 : decode cL_isDone 228 = .ok (.istore 8, 2) := by decide +kernel
theorem dL_isDone_230 : decode cL_isDone 230 = .ok (.aload_n 0, 1) := by decide +kernel
theorem dL_isDone_231 : decode cL_isDone 231 = .ok (.iconst 1, 1) := by decide +kernel
theorem dL_isDone_232 : decode cL_isDone 232 = .ok (.iload 5, 2) := by decide +kernel
theorem dL_isDone_234 : decode cL_isDone 234 = .ok (.iconst 3, 1) := by decide +kernel
theorem dL_isDone_235 : decode cL_isDone 235 = .ok (.irem, 1) := by decide +kernel
theorem dL_isDone_236 : decode cL_isDone 236 = .ok (.iload 6, 2) := by decide +kernel
theorem dL_isDone_238 : decode cL_isDone 238 = .ok (.bipush 12, 2) := by decide +kernel
theorem dL_isDone_240 : decode cL_isDone 240 = .ok (.irem, 1) := by decide +kernel
theorem dL_isDone_241 : decode cL_isDone 241 = .ok (.iload 8, 2) := by decide +kernel
theorem dL_isDone_243 : decode cL_isDone 243 = .ok (.invokestatic 124, 3) := by decide +kernel
theorem dL_isDone_246 : decode cL_isDone 246 = .ok (.istore 9, 2) := by decide +kernel
theorem dL_isDone_248 : decode cL_isDone 248 = .ok (.iload 8, 2) := by decide +kernel
theorem dL_isDone_250 : decode cL_isDone 250 = .ok (.sipush 9999, 3) := by decide +kernel
theorem dL_isDone_253 : decode cL_isDone 253 = .ok (.if_icmp .le 18, 3) := by decide +kernel
theorem dL_isDone_256 : decode cL_isDone 256 = .ok (.iload 9, 2) := by decide +kernel
theorem dL_isDone_258 : decode cL_isDone 258 = .ok (.bipush (-20), 2) := by decide +kernel
theorem dL_isDone_260 : decode cL_isDone 260 = .ok (.if_icmp .ne 7, 3) := by decide +kernel
theorem dL_isDone_263 : decode cL_isDone 263 = .ok (.iconst 1, 1) := by decide +kernel
theorem dL_isDone_264 : decode cL_isDone 264 = .ok (.goto 53, 3) := by decide +kernel
theorem dL_isDone_267 : decode cL_isDone 267 = .ok (.iconst 0, 1) := by decide +kernel
theorem dL_isDone_268 : decode cL_isDone 268 = .ok (.goto 49, 3) := by decide +kernel
theorem dL_isDone_271 : decode cL_isDone 271 = .ok (.iload 9, 2) := by decide +kernel
theorem dL_isDone_273 : decode cL_isDone 273 = .ok (.iconst (-1), 1) := by decide +kernel
theorem dL_isDone_274 : decode cL_isDone 274 = .ok (.if_icmp .lt 42, 3) := by decide +kernel
theorem dL_isDone_277 : decode cL_isDone 277 = .ok (.aload_n 0, 1) := by decide +kernel
theorem dL_isDone_278 : decode cL_isDone 278 = .ok (.iconst 1, 1) := by decide +kernel
theorem dL_isDone_279 : decode cL_isDone 279 = .ok (.iload 5, 2) := by decide +kernel
theorem dL_isDone_281 : decode cL_isDone 281 = .ok (.iconst 3, 1) := by decide +kernel
theorem dL_isDone_282 : decode cL_isDone 282 = .ok (.irem, 1) := by decide +kernel
theorem dL_isDone_283 : decode cL_isDone 283 = .ok (.iload 6, 2) := by decide +kernel
theorem dL_isDone_285 : decode cL_isDone 285 = .ok (.bipush 12, 2) := by decide +kernel
theorem dL_isDone_287 : decode cL_isDone 287 = .ok (.irem, 1) := by decide +kernel
theorem dL_isDone_288 : decode cL_isDone 288 = .ok (.iload 8, 2) := by decide +kernel
theorem dL_isDone_290 : decode cL_isDone 290 = .ok (.invokestatic 124, 3) := by decide +kernel
theorem dL_isDone_293 : decode cL_isDone 293 = .ok (.iload 8, 2) := by decide +kernel
theorem dL_isDone_295 : decode cL_isDone 295 = .ok (.if_icmp .ne 21, 3) := by decide +kernel
theorem dL_isDone_298 : decode cL_isDone 298 = .ok (.aload_n 0, 1) := by decide +kernel
theorem dL_isDone_299 : decode cL_isDone 299 = .ok (.iconst 1, 1) := by decide +kernel
theorem dL_isDone_300 : decode cL_isDone 300 = .ok (.iconst 3, 1) := by decide +kernel
theorem dL_isDone_301 : decode cL_isDone 301 = .ok (.iconst 0, 1) := by decide +kernel
theorem dL_isDone_302 : decode cL_isDone 302 = .ok (.bipush (-5), 2) := by decide +kernel
theorem dL_isDone_304 : decode cL_isDone 304 = .ok (.invokestatic 124, 3) := by decide +kernel
theorem dL_isDone_307 : decode cL_isDone 307 = .ok (.bipush (-30), 2) := by decide +kernel
theorem dL_isDone_309 : decode cL_isDone 309 = .ok (.if_icmp .ne 7, 3) := by decide +kernel
theorem dL_isDone_312 : decode cL_isDone 312 = .ok (.iconst 1, 1) := by decide +kernel
theorem dL_isDone_313 : decode cL_isDone 313 = .ok (.goto 4, 3) := by decide +kernel
theorem dL_isDone_316 : decode cL_isDone 316 = .ok (.iconst 0, 1) := by decide +kernel
theorem dL_isDone_317 : decode cL_isDone 317 = .ok (.ireturn, 1) := by decide +kernel
theorem dL_isDone_318 : decode cL_isDone 318 = .ok (.iload 4, 2) := by decide +kernel
theorem dL_isDone_320 : decode cL_isDone 320 = .ok (.bipush 17, 2) := by decide +kernel
theorem dL_isDone_322 : decode cL_isDone 322 = .ok (.if_icmp .ge 58, 3) := by decide +kernel
theorem dL_isDone_325 : decode cL_isDone 325 = .ok (.aload_n 0, 1) := by decide +kernel
theorem dL_isDone_326 : decode cL_isDone 326 = .ok (.aload_n 3, 1) := by decide +kernel
theorem dL_isDone_327 : decode cL_isDone 327 = .ok (.iload 5, 2) := by decide +kernel
theorem dL_isDone_329 : decode cL_isDone 329 = .ok (.iconst 5, 1) := by decide +kernel
theorem dL_isDone_330 : decode cL_isDone 330 = .ok (.irem, 1) := by decide +kernel
theorem dL_isDone_331 : decode cL_isDone 331 = .ok (.iload 6, 2) := by decide +kernel
theorem dL_isDone_333 : decode cL_isDone 333 = .ok (.iconst 5, 1) := by decide +kernel
theorem dL_isDone_334 : decode cL_isDone 334 = .ok (.irem, 1) := by decide +kernel
theorem dL_isDone_335 : decode cL_isDone 335 = .ok (.iload 4, 2) := by decide +kernel
theorem dL_isDone_337 : decode cL_isDone 337 = .ok (.bipush 9, 2) := by decide +kernel
theorem dL_isDone_339 : decode cL_isDone 339 = .ok (.if_icmp .ge 11, 3) := by decide +kernel
theorem dL_isDone_342 : decode cL_isDone 342 = .ok (.iload 7, 2) := by decide +kernel
theorem dL_isDone_344 : decode cL_isDone 344 = .ok (.bipush 14, 2) := by decide +kernel
theorem dL_isDone_346 : decode cL_isDone 346 = .ok (.irem, 1) := by decide +kernel
theorem dL_isDone_347 : decode cL_isDone 347 = .ok (.goto 9, 3) := by decide +kernel
theorem dL_isDone_350 : decode cL_isDone 350 = .ok (.iload 5, 2) := by decide +kernel
theorem dL_isDone_352 : decode cL_isDone 352 = .ok (.iconst 5, 1) := by decide +kernel
theorem dL_isDone_353 : decode cL_isDone 353 = .ok (.idiv, 1) := by decide +kernel
theorem dL_isDone_354 : decode cL_isDone 354 = .ok (.iconst 4, 1) := by decide +kernel
theorem dL_isDone_355 : decode cL_isDone 355 = .ok (.irem, 1) := by decide +kernel
theorem dL_isDone_356 : decode cL_isDone 356 = .ok (.iload 4, 2) := by decide +kernel
theorem dL_isDone_358 : decode cL_isDone 358 = .ok (.bipush 9, 2) := by decide +kernel
theorem dL_isDone_360 : decode cL_isDone 360 = .ok (.if_icmp .ge 12, 3) := by decide +kernel
theorem dL_isDone_363 : decode cL_isDone 363 = .ok (.iload 6, 2) := by decide +kernel
theorem dL_isDone_365 : decode cL_isDone 365 = .ok (.sipush 1005, 3) := by decide +kernel
theorem dL_isDone_368 : decode cL_isDone 368 = .ok (.irem, 1) := by decide +kernel
theorem dL_isDone_369 : decode cL_isDone 369 = .ok (.goto 7, 3) := by decide +kernel
theorem dL_isDone_372 : decode cL_isDone 372 = .ok (.iload 7, 2) := by decide +kernel
theorem dL_isDone_374 : decode cL_isDone 374 = .ok (.iconst 4, 1) := by decide +kernel
theorem dL_isDone_375 : decode cL_isDone 375 = .ok (.irem, 1) := by decide +kernel
theorem dL_isDone_376 : decode cL_isDone 376 = .ok (.invokestatic 151, 3) := by decide +kernel
theorem dL_isDone_379 : decode cL_isDone 379 = .ok (.ireturn, 1) := by decide +kernel
theorem dL_isDone_380 : decode cL_isDone 380 = .ok (.iload 4, 2) := by decide +kernel
theorem dL_isDone_382 : decode cL_isDone 382 = .ok (.bipush 22, 2) := by decide +kernel
theorem dL_isDone_384 : decode cL_isDone 384 = .ok (.if_icmp .ge 12, 3) := by decide +kernel
theorem dL_isDone_387 : decode cL_isDone 387 = .ok (.aload_n 0, 1) := by decide +kernel
theorem dL_isDone_388 : decode cL_isDone 388 = .ok (.iload 5, 2) := by decide +kernel
theorem dL_isDone_390 : decode cL_isDone 390 = .ok (.iconst 4, 1) := by decide +kernel
theorem dL_isDone_391 : decode cL_isDone 391 = .ok (.irem, 1) := by decide +kernel
theorem dL_isDone_392 : decode cL_isDone 392 = .ok (.invokestatic 155, 3) := by decide +kernel
theorem dL_isDone_395 : decode cL_isDone 395 = .ok (.ireturn, 1) := by decide +kernel
theorem dL_isDone_396 : decode cL_isDone 396 = .ok (.iload 4, 2) := by decide +kernel
theorem dL_isDone_398 : decode cL_isDone 398 = .ok (.bipush 22, 2) := by decide +kernel
theorem dL_isDone_400 : decode cL_isDone 400 = .ok (.if_icmp .ne 174, 3) := by decide +kernel
theorem dL_isDone_403 : decode cL_isDone 403 = .ok (.aload_n 0, 1) := by decide +kernel
theorem dL_isDone_404 : decode cL_isDone 404 = .ok (.invokevirtual 117, 3) := by decide +kernel
theorem dL_isDone_407 : decode cL_isDone 407 = .ok (.istore 8, 2) := by decide +kernel
theorem dL_isDone_409 : decode cL_isDone 409 = .ok (.iload 8, 2) := by decide +kernel
theorem dL_isDone_411 : decode cL_isDone 411 = .ok (.ifCond .ne 17, 3) := by decide +kernel
theorem dL_isDone_414 : decode cL_isDone 414 = .ok (.aload_n 0, 1) := by decide +kernel
theorem dL_isDone_415 : decode cL_isDone 415 = .ok (.invokevirtual 111, 3) := by decide +kernel
theorem dL_isDone_418 : decode cL_isDone 418 = .ok (.sipush 399, 3) := by decide +kernel
theorem dL_isDone_421 : decode cL_isDone 421 = .ok (.if_icmp .le 7, 3) := by decide +kernel
theorem dL_isDone_424 : decode cL_isDone 424 = .ok (.iconst 1, 1) := by decide +kernel
theorem dL_isDone_425 : decode cL_isDone 425 = .ok (.goto 4, 3) := by decide +kernel
theorem dL_isDone_428 : decode cL_isDone 428 = .ok (.iconst 0, 1) := by decide +kernel
theorem dL_isDone_429 : decode cL_isDone 429 = .ok (.istore 9, 2) := by decide +kernel
theorem dL_isDone_431 : decode cL_isDone 431 = .ok (.iload 8, 2) := by decide +kernel
theorem dL_isDone_433 : decode cL_isDone 433 = .ok (.ifCond .le 12, 3) := by decide +kernel
theorem dL_isDone_436 : decode cL_isDone 436 = .ok (.aload_n 0, 1) := by decide +kernel
theorem dL_isDone_437 : decode cL_isDone 437 = .ok (.iconst 1, 1) := by decide +kernel
theorem dL_isDone_438 : decode cL_isDone 438 = .ok (.iconst 0, 1) := by decide +kernel
theorem dL_isDone_439 : decode cL_isDone 439 = .ok (.invokestatic 131, 3) := by decide +kernel
theorem dL_isDone_442 : decode cL_isDone 442 = .ok (.goto 12, 3) := by decide +kernel
theorem dL_isDone_445 : decode cL_isDone 445 = .ok (.aload_n 0, 1) := by decide +kernel
theorem dL_isDone_446 : decode cL_isDone 446 = .ok (.iconst 0, 1) := by decide +kernel
theorem dL_isDone_447 : decode cL_isDone 447 = .ok (.iload 5, 2) := by decide +kernel
theorem dL_isDone_449 : decode cL_isDone 449 = .ok (.iconst 4, 1) := by decide +kernel
theorem dL_isDone_450 : decode cL_isDone 450 = .ok (.irem, 1) := by decide +kernel
theorem dL_isDone_451 : decode cL_isDone 451 = .ok (.invokestatic 131, 3) := by decide +kernel
theorem dL_isDone_454 : decode cL_isDone 454 = .ok (.istore 10, 2) := by decide +kernel
theorem dL_isDone_456 : decode cL_isDone 456 = .ok (.iload 9, 2) := by decide +kernel
theorem dL_isDone_458 : decode cL_isDone 458 = .ok (.ifCond .eq 16, 3) := by decide +kernel
theorem dL_isDone_461 : decode cL_isDone 461 = .ok (.iload 10, 2) := by decide +kernel
theorem dL_isDone_463 : decode cL_isDone 463 = .ok (.bipush (-10), 2) := by decide +kernel
theorem dL_isDone_465 : decode cL_isDone 465 = .ok (.if_icmp .ne 7, 3) := by decide +kernel
theorem dL_isDone_468 : decode cL_isDone 468 = .ok (.iconst 1, 1) := by decide +kernel
theorem dL_isDone_469 : decode cL_isDone 469 = .ok (.goto 4, 3) := by decide +kernel
theorem dL_isDone_472 : decode cL_isDone 472 = .ok (.iconst 0, 1) := by decide +kernel
theorem dL_isDone_473 : decode cL_isDone 473 = .ok (.ireturn, 1) := by decide +kernel
theorem dL_isDone_474 : decode cL_isDone 474 = .ok (.iload 8, 2) := by decide +kernel
theorem dL_isDone_476 : decode cL_isDone 476 = .ok (.ifCond .le 51, 3) := by decide +kernel
theorem dL_isDone_479 : decode cL_isDone 479 = .ok (.iload 10, 2) := by decide +kernel
theorem dL_isDone_481 : decode cL_isDone 481 = .ok (.iconst (-1), 1) := by decide +kernel
theorem dL_isDone_482 : decode cL_isDone 482 = .ok (.if_icmp .ne 26, 3) := by decide +kernel
theorem dL_isDone_485 : decode cL_isDone 485 = .ok (.aload_n 0, 1) := by decide +kernel
theorem dL_isDone_486 : decode cL_isDone 486 = .ok (.invokevirtual 117, 3) := by decide +kernel
theorem dL_isDone_489 : decode cL_isDone 489 = .ok (.ifCond .ne 15, 3) := by decide +kernel
theorem dL_isDone_492 : decode cL_isDone 492 = .ok (.aload_n 0, 1) := by decide +kernel
theorem dL_isDone_493 : decode cL_isDone 493 = .ok (.invokevirtual 114, 3) := by decide +kernel
theorem dL_isDone_496 : decode cL_isDone 496 = .ok (.iconst (-1), 1) := by decide +kernel
theorem dL_isDone_497 : decode cL_isDone 497 = .ok (.if_icmp .ne 7, 3) := by decide +kernel
theorem dL_isDone_500 : decode cL_isDone 500 = .ok (.iconst 1, 1) := by decide +kernel
theorem dL_isDone_501 : decode cL_isDone 501 = .ok (.goto 72, 3) := by decide +kernel
theorem dL_isDone_504 : decode cL_isDone 504 = .ok (.iconst 0, 1) := by decide +kernel
theorem dL_isDone_505 : decode cL_isDone 505 = .ok (.goto 68, 3) := by decide +kernel
theorem dL_isDone_508 : decode cL_isDone 508 = .ok (.aload_n 0, 1) := by decide +kernel
theorem dL_isDone_509 : decode cL_isDone 509 = .ok (.invokevirtual 117, 3) := by decide +kernel
theorem dL_isDone_512 : decode cL_isDone 512 = .ok (.iload 8, 2) := by decide +kernel
theorem dL_isDone_514 : decode cL_isDone 514 = .ok (.iconst 1, 1) := by decide +kernel
theorem dL_isDone_515 : decode cL_isDone 515 = .ok (.isub, 1) := by decide +kernel
theorem dL_isDone_516 : decode cL_isDone 516 = .ok (.if_icmp .ne 7, 3) := by decide +kernel
theorem dL_isDone_519 : decode cL_isDone 519 = .ok (.iconst 1, 1) := by decide +kernel
theorem dL_isDone_520 : decode cL_isDone 520 = .ok (.goto 53, 3) := by decide +kernel
theorem dL_isDone_523 : decode cL_isDone 523 = .ok (.iconst 0, 1) := by decide +kernel
theorem dL_isDone_524 : decode cL_isDone 524 = .ok (.goto 49, 3) := by decide +kernel
theorem dL_isDone_527 : decode cL_isDone 527 = .ok (.aload_n 0, 1) := by decide +kernel
theorem dL_isDone_528 : decode cL_isDone 528 = .ok (.iload 10, 2) := by decide +kernel
theorem dL_isDone_530 : decode cL_isDone 530 = .ok (.invokevirtual 95, 3) := by decide +kernel
theorem dL_isDone_533 : decode cL_isDone 533 = .ok (.iconst 1, 1) := by decide +kernel
theorem dL_isDone_534 : decode cL_isDone 534 = .ok (.if_icmp .ne 38, 3) := by decide +kernel
theorem dL_isDone_537 : decode cL_isDone 537 = .ok (.aload_n 0, 1) := by decide +kernel
theorem dL_isDone_538 : decode cL_isDone 538 = .ok (.invokevirtual 117, 3) := by decide +kernel
theorem dL_isDone_541 : decode cL_isDone 541 = .ok (.aload_n 3, 1) := by decide +kernel
theorem dL_isDone_542 : decode cL_isDone 542 = .ok (.iload 5, 2) := by decide +kernel
theorem dL_isDone_544 : decode cL_isDone 544 = .ok (.iconst 4, 1) := by decide +kernel
theorem dL_isDone_545 : decode cL_isDone 545 = .ok (.irem, 1) := by decide +kernel
theorem dL_isDone_546 : decode cL_isDone 546 = .ok (.iaload, 1) := by decide +kernel
theorem dL_isDone_547 : decode cL_isDone 547 = .ok (.if_icmp .ne 25, 3) := by decide +kernel
theorem dL_isDone_550 : decode cL_isDone 550 = .ok (.aload_n 3, 1) := by decide +kernel
theorem dL_isDone_551 : decode cL_isDone 551 = .ok (.iload 5, 2) := by decide +kernel
theorem dL_isDone_553 : decode cL_isDone 553 = .ok (.iconst 4, 1) := by decide +kernel
theorem dL_isDone_554 : decode cL_isDone 554 = .ok (.irem, 1) := by decide +kernel
theorem dL_isDone_555 : decode cL_isDone 555 = .ok (.iaload, 1) := by decide +kernel
theorem dL_isDone_556 : decode cL_isDone 556 = .ok (.ifCond .gt 12, 3) := by decide +kernel
theorem dL_isDone_559 : decode cL_isDone 559 = .ok (.aload_n 0, 1) := by decide +kernel
theorem dL_isDone_560 : decode cL_isDone 560 = .ok (.invokevirtual 114, 3) := by decide +kernel
theorem dL_isDone_563 : decode cL_isDone 563 = .ok (.iload 10, 2) := by decide +kernel
theorem dL_isDone_565 : decode cL_isDone 565 = .ok (.if_icmp .ne 7, 3) := by decide +kernel
theorem dL_isDone_568 : decode cL_isDone 568 = .ok (.iconst 1, 1) := by decide +kernel
theorem dL_isDone_569 : decode cL_isDone 569 = .ok (.goto 4, 3) := by decide +kernel
theorem dL_isDone_572 : decode cL_isDone 572 = .ok (.iconst 0, 1) := by decide +kernel
theorem dL_isDone_573 : decode cL_isDone 573 = .ok (.ireturn, 1) := by decide +kernel
theorem dL_isDone_574 : decode cL_isDone 574 = .ok (.iload 4, 2) := by decide +kernel
theorem dL_isDone_576 : decode cL_isDone 576 = .ok (.bipush 25, 2) := by decide +kernel
theorem dL_isDone_578 : decode cL_isDone 578 = .ok (.if_icmp .ge 99, 3) := by decide +kernel
theorem dL_isDone_581 : decode cL_isDone 581 = .ok (.iload 5, 2) := by decide +kernel
theorem dL_isDone_583 : decode cL_isDone 583 = .ok (.bipush 6, 2) := by decide +kernel
theorem dL_isDone_585 : decode cL_isDone 585 = .ok (.irem, 1) := by decide +kernel
theorem dL_isDone_586 : decode cL_isDone 586 = .ok (.istore 8, 2) := by decide +kernel
theorem dL_isDone_588 : decode cL_isDone 588 = .ok (.aload_n 0, 1) := by decide +kernel
theorem dL_isDone_589 : decode cL_isDone 589 = .ok (.iconst 2, 1) := by decide +kernel
theorem dL_isDone_590 : decode cL_isDone 590 = .ok (.iload 8, 2) := by decide +kernel
theorem dL_isDone_592 : decode cL_isDone 592 = .ok (.iconst 0, 1) := by decide +kernel
theorem dL_isDone_593 : decode cL_isDone 593 = .ok (.invokestatic 141, 3) := by decide +kernel
theorem dL_isDone_596 : decode cL_isDone 596 = .ok (.istore 9, 2) := by decide +kernel
theorem dL_isDone_598 : decode cL_isDone 598 = .ok (.aload_n 0, 1) := by decide +kernel
theorem dL_isDone_599 : decode cL_isDone 599 = .ok (.invokevirtual 114, 3) := by decide +kernel
theorem dL_isDone_602 : decode cL_isDone 602 = .ok (.istore 10, 2) := by decide +kernel
theorem dL_isDone_604 : decode cL_isDone 604 = .ok (.aload_n 0, 1) := by decide +kernel
theorem dL_isDone_605 : decode cL_isDone 605 = .ok (.iconst 0, 1) := by decide +kernel
theorem dL_isDone_606 : decode cL_isDone 606 = .ok (.iload 8, 2) := by decide +kernel
theorem dL_isDone_608 : decode cL_isDone 608 = .ok (.iconst 0, 1) := by decide +kernel
theorem dL_isDone_609 : decode cL_isDone 609 = .ok (.invokestatic 141, 3) := by decide +kernel
theorem dL_isDone_612 : decode cL_isDone 612 = .ok (.istore 11, 2) := by decide +kernel
theorem dL_isDone_614 : decode cL_isDone 614 = .ok (.iload 11, 2) := by decide +kernel
theorem dL_isDone_616 : decode cL_isDone 616 = .ok (.iload 8, 2) := by decide +kernel
theorem dL_isDone_618 : decode cL_isDone 618 = .ok (.iconst 5, 1) := by decide +kernel
theorem dL_isDone_619 : decode cL_isDone 619 = .ok (.if_icmp .ne 8, 3) := by decide +kernel
theorem dL_isDone_622 : decode cL_isDone 622 = .ok (.bipush (-30), 2) := by decide +kernel
theorem dL_isDone_624 : decode cL_isDone 624 = .ok (.goto 15, 3) := by decide +kernel
theorem dL_isDone_627 : decode cL_isDone 627 = .ok (.iload 10, 2) := by decide +kernel
theorem dL_isDone_629 : decode cL_isDone 629 = .ok (.ifCond .ge 8, 3) := by decide +kernel
theorem dL_isDone_632 : decode cL_isDone 632 = .ok (.bipush (-10), 2) := by decide +kernel
theorem dL_isDone_634 : decode cL_isDone 634 = .ok (.goto 5, 3) := by decide +kernel
theorem dL_isDone_637 : decode cL_isDone 637 = .ok (.iload 9, 2) := by decide +kernel
theorem dL_isDone_639 : decode cL_isDone 639 = .ok (.if_icmp .ne 36, 3) := by decide +kernel
theorem dL_isDone_642 : decode cL_isDone 642 = .ok (.iload 8, 2) := by decide +kernel
theorem dL_isDone_644 : decode cL_isDone 644 = .ok (.iconst 5, 1) := by decide +kernel
theorem dL_isDone_645 : decode cL_isDone 645 = .ok (.if_icmp .eq 26, 3) := by decide +kernel
theorem dL_isDone_648 : decode cL_isDone 648 = .ok (.aload_n 0, 1) := by decide +kernel
theorem dL_isDone_649 : decode cL_isDone 649 = .ok (.iconst 2, 1) := by decide +kernel
theorem dL_isDone_650 : decode cL_isDone 650 = .ok (.iload 8, 2) := by decide +kernel
theorem dL_isDone_652 : decode cL_isDone 652 = .ok (.iconst 0, 1) := by decide +kernel
theorem dL_isDone_653 : decode cL_isDone 653 = .ok (.invokestatic 141, 3) := by decide +kernel
theorem dL_isDone_656 : decode cL_isDone 656 = .ok (.iload 10, 2) := by decide +kernel
theorem dL_isDone_658 : decode cL_isDone 658 = .ok (.ifCond .ge 8, 3) := by decide +kernel
theorem dL_isDone_661 : decode cL_isDone 661 = .ok (.iload 9, 2) := by decide +kernel
theorem dL_isDone_663 : decode cL_isDone 663 = .ok (.goto 5, 3) := by decide +kernel
theorem dL_isDone_666 : decode cL_isDone 666 = .ok (.iload 10, 2) := by decide +kernel
theorem dL_isDone_668 : decode cL_isDone 668 = .ok (.if_icmp .ne 7, 3) := by decide +kernel
theorem dL_isDone_671 : decode cL_isDone 671 = .ok (.iconst 1, 1) := by decide +kernel
theorem dL_isDone_672 : decode cL_isDone 672 = .ok (.goto 4, 3) := by decide +kernel
theorem dL_isDone_675 : decode cL_isDone 675 = .ok (.iconst 0, 1) := by decide +kernel
theorem dL_isDone_676 : decode cL_isDone 676 = .ok (.ireturn, 1) := by decide +kernel
theorem dL_isDone_677 : decode cL_isDone 677 = .ok (.iload 4, 2) := by decide +kernel
theorem dL_isDone_679 : decode cL_isDone 679 = .ok (.bipush 25, 2) := by decide +kernel
theorem dL_isDone_681 : decode cL_isDone 681 = .ok (.if_icmp .ne 18, 3) := by decide +kernel
theorem dL_isDone_684 : decode cL_isDone 684 = .ok (.aload_n 0, 1) := by decide +kernel
theorem dL_isDone_685 : decode cL_isDone 685 = .ok (.iload 5, 2) := by decide +kernel
theorem dL_isDone_687 : decode cL_isDone 687 = .ok (.bipush 6, 2) := by decide +kernel
theorem dL_isDone_689 : decode cL_isDone 689 = .ok (.irem, 1) := by decide +kernel
theorem dL_isDone_690 : decode cL_isDone 690 = .ok (.iload 6, 2) := by decide +kernel
theorem dL_isDone_692 : decode cL_isDone 692 = .ok (.bipush 6, 2) := by decide +kernel
theorem dL_isDone_694 : decode cL_isDone 694 = .ok (.irem, 1) := by decide +kernel
theorem dL_isDone_695 : decode cL_isDone 695 = .ok (.invokestatic 158, 3) := by decide +kernel
theorem dL_isDone_698 : decode cL_isDone 698 = .ok (.ireturn, 1) := by decide +kernel
theorem dL_isDone_699 : decode cL_isDone 699 = .ok (.iload 4, 2) := by decide +kernel
theorem dL_isDone_701 : decode cL_isDone 701 = .ok (.bipush 28, 2) := by decide +kernel
theorem dL_isDone_703 : decode cL_isDone 703 = .ok (.if_icmp .ge 17, 3) := by decide +kernel
theorem dL_isDone_706 : decode cL_isDone 706 = .ok (.aload_n 0, 1) := by decide +kernel
theorem dL_isDone_707 : decode cL_isDone 707 = .ok (.iload 5, 2) := by decide +kernel
theorem dL_isDone_709 : decode cL_isDone 709 = .ok (.bipush 6, 2) := by decide +kernel
theorem dL_isDone_711 : decode cL_isDone 711 = .ok (.irem, 1) := by decide +kernel
theorem dL_isDone_712 : decode cL_isDone 712 = .ok (.iload 6, 2) := by decide +kernel
theorem dL_isDone_714 : decode cL_isDone 714 = .ok (.iconst 4, 1) := by decide +kernel
theorem dL_isDone_715 : decode cL_isDone 715 = .ok (.irem, 1) := by decide +kernel
theorem dL_isDone_716 : decode cL_isDone 716 = .ok (.invokestatic 162, 3) := by decide +kernel
theorem dL_isDone_719 : decode cL_isDone 719 = .ok (.ireturn, 1) := by decide +kernel
theorem dL_isDone_720 : decode cL_isDone 720 = .ok (.iload 4, 2) := by decide +kernel
theorem dL_isDone_722 : decode cL_isDone 722 = .ok (.bipush 28, 2) := by decide +kernel
theorem dL_isDone_724 : decode cL_isDone 724 = .ok (.if_icmp .ne 49, 3) := by decide +kernel
theorem dL_isDone_727 : decode cL_isDone 727 = .ok (.iload 7, 2) := by decide +kernel
theorem dL_isDone_729 : decode cL_isDone 729 = .ok (.iconst 2, 1) := by decide +kernel
theorem dL_isDone_730 : decode cL_isDone 730 = .ok (.irem, 1) := by decide +kernel
theorem dL_isDone_731 : decode cL_isDone 731 = .ok (.ifCond .ne 10, 3) := by decide +kernel
theorem dL_isDone_734 : decode cL_isDone 734 = .ok (.aload_n 0, 1) := by decide +kernel
theorem dL_isDone_735 : decode cL_isDone 735 = .ok (.invokestatic 165, 3) := by decide +kernel
theorem dL_isDone_738 : decode cL_isDone 738 = .ok (.goto 34, 3) := by decide +kernel
theorem dL_isDone_741 : decode cL_isDone 741 = .ok (.aload_n 0, 1) := by decide +kernel
theorem dL_isDone_742 : decode cL_isDone 742 = .ok (.iconst 1, 1) := by decide +kernel
theorem dL_isDone_743 : decode cL_isDone 743 = .ok (.iload 5, 2) := by decide +kernel
theorem dL_isDone_745 : decode cL_isDone 745 = .ok (.iconst 5, 1) := by decide +kernel
theorem dL_isDone_746 : decode cL_isDone 746 = .ok (.irem, 1) := by decide +kernel
theorem dL_isDone_747 : decode cL_isDone 747 = .ok (.iconst 0, 1) := by decide +kernel
theorem dL_isDone_748 : decode cL_isDone 748 = .ok (.invokestatic 141, 3) := by decide +kernel
theorem dL_isDone_751 : decode cL_isDone 751 = .ok (.iconst (-1), 1) := by decide +kernel
theorem dL_isDone_752 : decode cL_isDone 752 = .ok (.if_icmp .lt 19, 3) := by decide +kernel
theorem dL_isDone_755 : decode cL_isDone 755 = .ok (.aload_n 0, 1) := by decide +kernel
theorem dL_isDone_756 : decode cL_isDone 756 = .ok (.iload 5, 2) := by decide +kernel
theorem dL_isDone_758 : decode cL_isDone 758 = .ok (.iconst 5, 1) := by decide +kernel
theorem dL_isDone_759 : decode cL_isDone 759 = .ok (.irem, 1) := by decide +kernel
theorem dL_isDone_760 : decode cL_isDone 760 = .ok (.invokevirtual 71, 3) := by decide +kernel
theorem dL_isDone_763 : decode cL_isDone 763 = .ok (.iconst (-1), 1) := by decide +kernel
theorem dL_isDone_764 : decode cL_isDone 764 = .ok (.if_icmp .ne 7, 3) := by decide +kernel
theorem dL_isDone_767 : decode cL_isDone 767 = .ok (.iconst 1, 1) := by decide +kernel
theorem dL_isDone_768 : decode cL_isDone 768 = .ok (.goto 4, 3) := by decide +kernel
theorem dL_isDone_771 : decode cL_isDone 771 = .ok (.iconst 0, 1) := by decide +kernel
theorem dL_isDone_772 : decode cL_isDone 772 = .ok (.ireturn, 1) := by decide +kernel
theorem dL_isDone_773 : decode cL_isDone 773 = .ok (.iload 5, 2) := by decide +kernel
theorem dL_isDone_775 : decode cL_isDone 775 = .ok (.iconst 4, 1) := by decide +kernel
theorem dL_isDone_776 : decode cL_isDone 776 = .ok (.irem, 1) := by decide +kernel
theorem dL_isDone_777 : decode cL_isDone 777 = .ok (.istore 8, 2) := by decide +kernel
theorem dL_isDone_779 : decode cL_isDone 779 = .ok (.iload 6, 2) := by decide +kernel
theorem dL_isDone_781 : decode cL_isDone 781 = .ok (.iconst 3, 1) := by decide +kernel
theorem dL_isDone_782 : decode cL_isDone 782 = .ok (.irem, 1) := by decide +kernel
theorem dL_isDone_783 : decode cL_isDone 783 = .ok (.ifCond .ne 51, 3) := by decide +kernel
theorem dL_isDone_786 : decode cL_isDone 786 = .ok (.aload_n 3, 1) := by decide +kernel
theorem dL_isDone_787 : decode cL_isDone 787 = .ok (.iload 8, 2) := by decide +kernel
theorem dL_isDone_789 : decode cL_isDone 789 = .ok (.iaload, 1) := by decide +kernel
theorem dL_isDone_790 : decode cL_isDone 790 = .ok (.istore 9, 2) := by decide +kernel
theorem dL_isDone_792 : decode cL_isDone 792 = .ok (.aload_n 3, 1) := by decide +kernel
theorem dL_isDone_793 : decode cL_isDone 793 = .ok (.iload 8, 2) := by decide +kernel
theorem dL_isDone_795 : decode cL_isDone 795 = .ok (.iconst 0, 1) := by decide +kernel
theorem dL_isDone_796 : decode cL_isDone 796 = .ok (.iastore, 1) := by decide +kernel
theorem dL_isDone_797 : decode cL_isDone 797 = .ok (.aload_n 0, 1) := by decide +kernel
theorem dL_isDone_798 : decode cL_isDone 798 = .ok (.iconst 2, 1) := by decide +kernel
theorem dL_isDone_799 : decode cL_isDone 799 = .ok (.iload 8, 2) := by decide +kernel
theorem dL_isDone_801 : decode cL_isDone 801 = .ok (.iload 6, 2) := by decide +kernel
theorem dL_isDone_803 : decode cL_isDone 803 = .ok (.iconst 2, 1) := by decide +kernel
theorem dL_isDone_804 : decode cL_isDone 804 = .ok (.irem, 1) := by decide +kernel
theorem dL_isDone_805 : decode cL_isDone 805 = .ok (.iconst 0, 1) := by decide +kernel
theorem dL_isDone_806 : decode cL_isDone 806 = .ok (.invokestatic 124, 3) := by decide +kernel
theorem dL_isDone_809 : decode cL_isDone 809 = .ok (.iload 9, 2) := by decide +kernel
theorem dL_isDone_811 : decode cL_isDone 811 = .ok (.if_icmp .ne 21, 3) := by decide +kernel
theorem dL_isDone_814 : decode cL_isDone 814 = .ok (.aload_n 0, 1) := by decide +kernel
theorem dL_isDone_815 : decode cL_isDone 815 = .ok (.iconst 2, 1) := by decide +kernel
theorem dL_isDone_816 : decode cL_isDone 816 = .ok (.iload 8, 2) := by decide +kernel
theorem dL_isDone_818 : decode cL_isDone 818 = .ok (.iconst 3, 1) := by decide +kernel
theorem dL_isDone_819 : decode cL_isDone 819 = .ok (.iconst 0, 1) := by decide +kernel
theorem dL_isDone_820 : decode cL_isDone 820 = .ok (.invokestatic 124, 3) := by decide +kernel
theorem dL_isDone_823 : decode cL_isDone 823 = .ok (.bipush (-30), 2) := by decide +kernel
theorem dL_isDone_825 : decode cL_isDone 825 = .ok (.if_icmp .ne 7, 3) := by decide +kernel
theorem dL_isDone_828 : decode cL_isDone 828 = .ok (.iconst 1, 1) := by decide +kernel
theorem dL_isDone_829 : decode cL_isDone 829 = .ok (.goto 4, 3) := by decide +kernel
theorem dL_isDone_832 : decode cL_isDone 832 = .ok (.iconst 0, 1) := by decide +kernel
theorem dL_isDone_833 : decode cL_isDone 833 = .ok (.ireturn, 1) := by decide +kernel
theorem dL_isDone_834 : decode cL_isDone 834 = .ok (.iload 6, 2) := by decide +kernel
theorem dL_isDone_836 : decode cL_isDone 836 = .ok (.aload_n 3, 1) := by decide +kernel
theorem dL_isDone_837 : decode cL_isDone 837 = .ok (.iload 8, 2) := by decide +kernel
theorem dL_isDone_839 : decode cL_isDone 839 = .ok (.iaload, 1) := by decide +kernel
theorem dL_isDone_840 : decode cL_isDone 840 = .ok (.iconst 1, 1) := by decide +kernel
theorem dL_isDone_841 : decode cL_isDone 841 = .ok (.iadd, 1) := by decide +kernel
theorem dL_isDone_842 : decode cL_isDone 842 = .ok (.irem, 1) := by decide +kernel
theorem dL_isDone_843 : decode cL_isDone 843 = .ok (.istore 9, 2) := by decide +kernel
theorem dL_isDone_845 : decode cL_isDone 845 = .ok (.iload 9, 2) := by decide +kernel
theorem dL_isDone_847 : decode cL_isDone 847 = .ok (.aload_n 3, 1) := by decide +kernel
theorem dL_isDone_848 : decode cL_isDone 848 = .ok (.iload 8, 2) := by decide +kernel
theorem dL_isDone_850 : decode cL_isDone 850 = .ok (.iaload, 1) := by decide +kernel
theorem dL_isDone_851 : decode cL_isDone 851 = .ok (.if_icmp .ne 8, 3) := by decide +kernel
theorem dL_isDone_854 : decode cL_isDone 854 = .ok (.bipush (-30), 2) := by decide +kernel
theorem dL_isDone_856 : decode cL_isDone 856 = .ok (.goto 9, 3) := by decide +kernel
theorem dL_isDone_859 : decode cL_isDone 859 = .ok (.aload_n 3, 1) := by decide +kernel
theorem dL_isDone_860 : decode cL_isDone 860 = .ok (.iload 8, 2) := by decide +kernel
theorem dL_isDone_862 : decode cL_isDone 862 = .ok (.iaload, 1) := by decide +kernel
theorem dL_isDone_863 : decode cL_isDone 863 = .ok (.iconst 1, 1) := by decide +kernel
theorem dL_isDone_864 : decode cL_isDone 864 = .ok (.isub, 1) := by decide +kernel
theorem dL_isDone_865 : decode cL_isDone 865 = .ok (.istore 10, 2) := by decide +kernel
theorem dL_isDone_867 : decode cL_isDone 867 = .ok (.aload_n 3, 1) := by decide +kernel
theorem dL_isDone_868 : decode cL_isDone 868 = .ok (.iload 8, 2) := by decide +kernel
theorem dL_isDone_870 : decode cL_isDone 870 = .ok (.iload 10, 2) := by decide +kernel
theorem dL_isDone_872 : decode cL_isDone 872 = .ok (.ifCond .ge 10, 3) := by decide +kernel
theorem dL_isDone_875 : decode cL_isDone 875 = .ok (.aload_n 3, 1) := by decide +kernel
theorem dL_isDone_876 : decode cL_isDone 876 = .ok (.iload 8, 2) := by decide +kernel
theorem dL_isDone_878 : decode cL_isDone 878 = .ok (.iaload, 1) := by decide +kernel
theorem dL_isDone_879 : decode cL_isDone 879 = .ok (.goto 5, 3) := by decide +kernel
theorem dL_isDone_882 : decode cL_isDone 882 = .ok (.iload 10, 2) := by decide +kernel
theorem dL_isDone_884 : decode cL_isDone 884 = .ok (.iastore, 1) := by decide +kernel
theorem dL_isDone_885 : decode cL_isDone 885 = .ok (.aload_n 0, 1) := by decide +kernel
theorem dL_isDone_886 : decode cL_isDone 886 = .ok (.iconst 3, 1) := by decide +kernel
theorem dL_isDone_887 : decode cL_isDone 887 = .ok (.iload 8, 2) := by decide +kernel
theorem dL_isDone_889 : decode cL_isDone 889 = .ok (.iload 9, 2) := by decide +kernel
theorem dL_isDone_891 : decode cL_isDone 891 = .ok (.iconst 0, 1) := by decide +kernel
theorem dL_isDone_892 : decode cL_isDone 892 = .ok (.invokestatic 124, 3) := by decide +kernel
theorem dL_isDone_895 : decode cL_isDone 895 = .ok (.iload 10, 2) := by decide +kernel
theorem dL_isDone_897 : decode cL_isDone 897 = .ok (.if_icmp .ne 7, 3) := by decide +kernel
theorem dL_isDone_900 : decode cL_isDone 900 = .ok (.iconst 1, 1) := by decide +kernel
theorem dL_isDone_901 : decode cL_isDone 901 = .ok (.goto 4, 3) := by decide +kernel
theorem dL_isDone_904 : decode cL_isDone 904 = .ok (.iconst 0, 1) := by decide +kernel
theorem dL_isDone_905 : decode cL_isDone 905 = .ok (.ireturn, 1) := by decide +kernel
theorem dL_law_0 : decode cL_law 0 = .ok (.new 9, 3) := by decide +kernel
theorem dL_law_3 : decode cL_law 3 = .ok (.dup, 1) := by decide +kernel
theorem dL_law_4 : decode cL_law 4 = .ok (.invokespecial 169, 3) := by decide +kernel
theorem dL_law_7 : decode cL_law 7 = .ok (.astore_n 1, 1) := by decide +kernel
theorem dL_law_8 : decode cL_law 8 = .ok (.iconst 4, 1) := by decide +kernel
theorem dL_law_9 : decode cL_law 9 = .ok (.newarray .int, 2) := by decide +kernel
theorem dL_law_11 : decode cL_law 11 = .ok (.astore_n 2, 1) := by decide +kernel
theorem dL_law_12 : decode cL_law 12 = .ok (.aload_n 1, 1) := by decide +kernel
theorem dL_law_13 : decode cL_law 13 = .ok (.aload_n 2, 1) := by decide +kernel
theorem dL_law_14 : decode cL_law 14 = .ok (.invokestatic 170, 3) := by decide +kernel
theorem dL_law_17 : decode cL_law 17 = .ok (.ifCond .eq 14, 3) := by decide +kernel
theorem dL_law_20 : decode cL_law 20 = .ok (.aload_n 1, 1) := by decide +kernel
theorem dL_law_21 : decode cL_law 21 = .ok (.invokevirtual 111, 3) := by decide +kernel
theorem dL_law_24 : decode cL_law 24 = .ok (.ifCond .ne 7, 3) := by decide +kernel
theorem dL_law_27 : decode cL_law 27 = .ok (.iconst 1, 1) := by decide +kernel
theorem dL_law_28 : decode cL_law 28 = .ok (.goto 4, 3) := by decide +kernel
theorem dL_law_31 : decode cL_law 31 = .ok (.iconst 0, 1) := by decide +kernel
theorem dL_law_32 : decode cL_law 32 = .ok (.istore_n 3, 1) := by decide +kernel
theorem dL_law_33 : decode cL_law 33 = .ok (.iconst 0, 1) := by decide +kernel
theorem dL_law_34 : decode cL_law 34 = .ok (.istore 4, 2) := by decide +kernel
theorem dL_law_36 : decode cL_law 36 = .ok (.iload 4, 2) := by decide +kernel
theorem dL_law_38 : decode cL_law 38 = .ok (.bipush 64, 2) := by decide +kernel
theorem dL_law_40 : decode cL_law 40 = .ok (.if_icmp .ge 48, 3) := by decide +kernel
theorem dL_law_43 : decode cL_law 43 = .ok (.iload_n 3, 1) := by decide +kernel
theorem dL_law_44 : decode cL_law 44 = .ok (.ifCond .eq 44, 3) := by decide +kernel
theorem dL_law_47 : decode cL_law 47 = .ok (.aload_n 1, 1) := by decide +kernel
theorem dL_law_48 : decode cL_law 48 = .ok (.aload_n 0, 1) := by decide +kernel
theorem dL_law_49 : decode cL_law 49 = .ok (.iconst 4, 1) := by decide +kernel
theorem dL_law_50 : decode cL_law 50 = .ok (.iload 4, 2) := by decide +kernel
theorem dL_law_52 : decode cL_law 52 = .ok (.imul, 1) := by decide +kernel
theorem dL_law_53 : decode cL_law 53 = .ok (.aload_n 2, 1) := by decide +kernel
theorem dL_law_54 : decode cL_law 54 = .ok (.invokestatic 174, 3) := by decide +kernel
theorem dL_law_57 : decode cL_law 57 = .ok (.ifCond .eq 23, 3) := by decide +kernel
theorem dL_law_60 : decode cL_law 60 = .ok (.iload 4, 2) := by decide +kernel
theorem dL_law_62 : decode cL_law 62 = .ok (.iconst 4, 1) := by decide +kernel
theorem dL_law_63 : decode cL_law 63 = .ok (.irem, 1) := by decide +kernel
theorem dL_law_64 : decode cL_law 64 = .ok (.iconst 3, 1) := by decide +kernel
theorem dL_law_65 : decode cL_law 65 = .ok (.if_icmp .lt 11, 3) := by decide +kernel
theorem dL_law_68 : decode cL_law 68 = .ok (.aload_n 1, 1) := by decide +kernel
theorem dL_law_69 : decode cL_law 69 = .ok (.aload_n 2, 1) := by decide +kernel
theorem dL_law_70 : decode cL_law 70 = .ok (.invokestatic 170, 3) := by decide +kernel
theorem dL_law_73 : decode cL_law 73 = .ok (.ifCond .eq 7, 3) := by decide +kernel
theorem dL_law_76 : decode cL_law 76 = .ok (.iconst 1, 1) := by decide +kernel
theorem dL_law_77 : decode cL_law 77 = .ok (.goto 4, 3) := by decide +kernel
theorem dL_law_80 : decode cL_law 80 = .ok (.iconst 0, 1) := by decide +kernel
theorem dL_law_81 : decode cL_law 81 = .ok (.istore_n 3, 1) := by decide +kernel
theorem dL_law_82 : decode cL_law 82 = .ok (.iinc 4 1, 3) := by decide +kernel
theorem dL_law_85 : decode cL_law 85 = .ok (.goto (-49), 3) := by decide +kernel
theorem dL_law_88 : decode cL_law 88 = .ok (.iload_n 3, 1) := by decide +kernel
theorem dL_law_89 : decode cL_law 89 = .ok (.ifCond .eq 160, 3) := by decide +kernel
theorem dL_law_92 : decode cL_law 92 = .ok (.aload_n 1, 1) := by decide +kernel
theorem dL_law_93 : decode cL_law 93 = .ok (.iconst 0, 1) := by decide +kernel
theorem dL_law_94 : decode cL_law 94 = .ok (.iconst (-1), 1) := by decide +kernel
theorem dL_law_95 : decode cL_law 95 = .ok (.bipush (-5), 2) := by decide +kernel
theorem dL_law_97 : decode cL_law 97 = .ok (.iconst 0, 1) := by decide +kernel
theorem dL_law_98 : decode cL_law 98 = .ok (.invokestatic 124, 3) := by decide +kernel
theorem dL_law_101 : decode cL_law 101 = .ok (.bipush (-30), 2) := by decide +kernel
theorem dL_law_103 : decode cL_law 103 = .ok (.if_icmp .ne 146, 3) := by decide +kernel
theorem dL_law_106 : decode cL_law 106 = .ok (.aload_n 1, 1) := by decide +kernel
theorem dL_law_107 : decode cL_law 107 = .ok (.iconst 1, 1) := by decide +kernel
theorem dL_law_108 : decode cL_law 108 = .ok (.iconst 0, 1) := by decide +kernel
theorem dL_law_109 : decode cL_law 109 = .ok (.bipush 12, 2) := by decide +kernel
theorem dL_law_111 : decode cL_law 111 = .ok (.iconst 0, 1) := by decide +kernel
theorem dL_law_112 : decode cL_law 112 = .ok (.invokestatic 124, 3) := by decide +kernel
theorem dL_law_115 : decode cL_law 115 = .ok (.bipush (-30), 2) := by decide +kernel
theorem dL_law_117 : decode cL_law 117 = .ok (.if_icmp .ne 132, 3) := by decide +kernel
theorem dL_law_120 : decode cL_law 120 = .ok (.aload_n 1, 1) := by decide +kernel
theorem dL_law_121 : decode cL_law 121 = .ok (.iconst 2, 1) := by decide +kernel
theorem dL_law_122 : decode cL_law 122 = .ok (.iconst 4, 1) := by decide +kernel
theorem dL_law_123 : decode cL_law 123 = .ok (.iconst 0, 1) := by decide +kernel
theorem dL_law_124 : decode cL_law 124 = .ok (.iconst 0, 1) := by decide +kernel
theorem dL_law_125 : decode cL_law 125 = .ok (.invokestatic 124, 3) := by decide +kernel
theorem dL_law_128 : decode cL_law 128 = .ok (.bipush (-30), 2) := by decide +kernel
theorem dL_law_130 : decode cL_law 130 = .ok (.if_icmp .ne 119, 3) := by decide +kernel
theorem dL_law_133 : decode cL_law 133 = .ok (.aload_n 1, 1) := by decide +kernel
theorem dL_law_134 : decode cL_law 134 = .ok (.iconst 3, 1) := by decide +kernel
theorem dL_law_135 : decode cL_law 135 = .ok (.iconst (-1), 1) := by decide +kernel
theorem dL_law_136 : decode cL_law 136 = .ok (.iconst 0, 1) := by decide +kernel
theorem dL_law_137 : decode cL_law 137 = .ok (.iconst 0, 1) := by decide +kernel
theorem dL_law_138 : decode cL_law 138 = .ok (.invokestatic 124, 3) := by decide +kernel
theorem dL_law_141 : decode cL_law 141 = .ok (.bipush (-30), 2) := by decide +kernel
theorem dL_law_143 : decode cL_law 143 = .ok (.if_icmp .ne 106, 3) := by decide +kernel
theorem dL_law_146 : decode cL_law 146 = .ok (.aload_n 1, 1) := by decide +kernel
theorem dL_law_147 : decode cL_law 147 = .ok (.iconst 2, 1) := by decide +kernel
theorem dL_law_148 : decode cL_law 148 = .ok (.iconst 0, 1) := by decide +kernel
theorem dL_law_149 : decode cL_law 149 = .ok (.iconst 3, 1) := by decide +kernel
theorem dL_law_150 : decode cL_law 150 = .ok (.iconst 3, 1) := by decide +kernel
theorem dL_law_151 : decode cL_law 151 = .ok (.invokestatic 128, 3) := by decide +kernel
theorem dL_law_154 : decode cL_law 154 = .ok (.bipush (-20), 2) := by decide +kernel
theorem dL_law_156 : decode cL_law 156 = .ok (.if_icmp .ne 93, 3) := by decide +kernel
theorem dL_law_159 : decode cL_law 159 = .ok (.aload_n 1, 1) := by decide +kernel
theorem dL_law_160 : decode cL_law 160 = .ok (.iconst 4, 1) := by decide +kernel
theorem dL_law_161 : decode cL_law 161 = .ok (.iconst 0, 1) := by decide +kernel
theorem dL_law_162 : decode cL_law 162 = .ok (.iconst 0, 1) := by decide +kernel
theorem dL_law_163 : decode cL_law 163 = .ok (.sipush 1000, 3) := by decide +kernel
theorem dL_law_166 : decode cL_law 166 = .ok (.invokestatic 128, 3) := by decide +kernel
theorem dL_law_169 : decode cL_law 169 = .ok (.bipush (-20), 2) := by decide +kernel
theorem dL_law_171 : decode cL_law 171 = .ok (.if_icmp .ne 78, 3) := by decide +kernel
theorem dL_law_174 : decode cL_law 174 = .ok (.aload_n 1, 1) := by decide +kernel
theorem dL_law_175 : decode cL_law 175 = .ok (.iconst 4, 1) := by decide +kernel
theorem dL_law_176 : decode cL_law 176 = .ok (.iconst 4, 1) := by decide +kernel
theorem dL_law_177 : decode cL_law 177 = .ok (.iconst 0, 1) := by decide +kernel
theorem dL_law_178 : decode cL_law 178 = .ok (.iconst 0, 1) := by decide +kernel
theorem dL_law_179 : decode cL_law 179 = .ok (.invokestatic 128, 3) := by decide +kernel
theorem dL_law_182 : decode cL_law 182 = .ok (.bipush (-30), 2) := by decide +kernel
theorem dL_law_184 : decode cL_law 184 = .ok (.if_icmp .ne 65, 3) := by decide +kernel
theorem dL_law_187 : decode cL_law 187 = .ok (.aload_n 1, 1) := by decide +kernel
theorem dL_law_188 : decode cL_law 188 = .ok (.iconst 0, 1) := by decide +kernel
theorem dL_law_189 : decode cL_law 189 = .ok (.iconst 4, 1) := by decide +kernel
theorem dL_law_190 : decode cL_law 190 = .ok (.invokestatic 131, 3) := by decide +kernel
theorem dL_law_193 : decode cL_law 193 = .ok (.bipush (-30), 2) := by decide +kernel
theorem dL_law_195 : decode cL_law 195 = .ok (.if_icmp .ne 54, 3) := by decide +kernel
theorem dL_law_198 : decode cL_law 198 = .ok (.aload_n 1, 1) := by decide +kernel
theorem dL_law_199 : decode cL_law 199 = .ok (.iconst 3, 1) := by decide +kernel
theorem dL_law_200 : decode cL_law 200 = .ok (.iconst (-1), 1) := by decide +kernel
theorem dL_law_201 : decode cL_law 201 = .ok (.invokestatic 131, 3) := by decide +kernel
theorem dL_law_204 : decode cL_law 204 = .ok (.bipush (-30), 2) := by decide +kernel
theorem dL_law_206 : decode cL_law 206 = .ok (.if_icmp .ne 43, 3) := by decide +kernel
theorem dL_law_209 : decode cL_law 209 = .ok (.aload_n 1, 1) := by decide +kernel
theorem dL_law_210 : decode cL_law 210 = .ok (.iconst 0, 1) := by decide +kernel
theorem dL_law_211 : decode cL_law 211 = .ok (.iconst 5, 1) := by decide +kernel
theorem dL_law_212 : decode cL_law 212 = .ok (.iconst 0, 1) := by decide +kernel
theorem dL_law_213 : decode cL_law 213 = .ok (.invokestatic 141, 3) := by decide +kernel
theorem dL_law_216 : decode cL_law 216 = .ok (.bipush (-30), 2) := by decide +kernel
theorem dL_law_218 : decode cL_law 218 = .ok (.if_icmp .ne 31, 3) := by decide +kernel
theorem dL_law_221 : decode cL_law 221 = .ok (.aload_n 1, 1) := by decide +kernel
theorem dL_law_222 : decode cL_law 222 = .ok (.iconst 3, 1) := by decide +kernel
theorem dL_law_223 : decode cL_law 223 = .ok (.iconst 0, 1) := by decide +kernel
theorem dL_law_224 : decode cL_law 224 = .ok (.iconst 0, 1) := by decide +kernel
theorem dL_law_225 : decode cL_law 225 = .ok (.invokestatic 141, 3) := by decide +kernel
theorem dL_law_228 : decode cL_law 228 = .ok (.bipush (-30), 2) := by decide +kernel
theorem dL_law_230 : decode cL_law 230 = .ok (.if_icmp .ne 19, 3) := by decide +kernel
theorem dL_law_233 : decode cL_law 233 = .ok (.aload_n 1, 1) := by decide +kernel
theorem dL_law_234 : decode cL_law 234 = .ok (.iconst 4, 1) := by decide +kernel
theorem dL_law_235 : decode cL_law 235 = .ok (.iconst 0, 1) := by decide +kernel
theorem dL_law_236 : decode cL_law 236 = .ok (.iconst 3, 1) := by decide +kernel
theorem dL_law_237 : decode cL_law 237 = .ok (.invokestatic 141, 3) := by decide +kernel
theorem dL_law_240 : decode cL_law 240 = .ok (.bipush (-30), 2) := by decide +kernel
theorem dL_law_242 : decode cL_law 242 = .ok (.if_icmp .ne 7, 3) := by decide +kernel
theorem dL_law_245 : decode cL_law 245 = .ok (.iconst 1, 1) := by decide +kernel
theorem dL_law_246 : decode cL_law 246 = .ok (.goto 4, 3) := by decide +kernel
theorem dL_law_249 : decode cL_law 249 = .ok (.iconst 0, 1) := by decide +kernel
theorem dL_law_250 : decode cL_law 250 = .ok (.istore_n 3, 1) := by decide +kernel
theorem dL_law_251 : decode cL_law 251 = .ok (.iload_n 3, 1) := by decide +kernel
theorem dL_law_252 : decode cL_law 252 = .ok (.ifCond .eq 15, 3) := by decide +kernel
theorem dL_law_255 : decode cL_law 255 = .ok (.aload_n 1, 1) := by decide +kernel
theorem dL_law_256 : decode cL_law 256 = .ok (.aload_n 2, 1) := by decide +kernel
theorem dL_law_257 : decode cL_law 257 = .ok (.invokestatic 170, 3) := by decide +kernel
theorem dL_law_260 : decode cL_law 260 = .ok (.ifCond .eq 7, 3) := by decide +kernel
theorem dL_law_263 : decode cL_law 263 = .ok (.iconst 1, 1) := by decide +kernel
theorem dL_law_264 : decode cL_law 264 = .ok (.goto 4, 3) := by decide +kernel
theorem dL_law_267 : decode cL_law 267 = .ok (.iconst 0, 1) := by decide +kernel
theorem dL_law_268 : decode cL_law 268 = .ok (.ireturn, 1) := by decide +kernel
abbrev vwCl : List vw_C := [(RX0, TX0, 3), (RX1, TX1, 3), (RX2, TX2, 8), (RX3, TX3, 3), (RX4, TX4, 2), (RX5, TX5, 8)]

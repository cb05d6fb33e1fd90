/-! ===== the G layer: a world is a pool (L, f); a goal hides the heap, the written places and the slots ===== -/
abbrev gF : Type := Nat → va_E
def gTy (cy : Nat → ClassId) : List (ClassId × FieldType) := [(cy 0, .int), (cy 1, .int), (cy 2, .int), (cy 3, .array .int), (cy 4, .object RX3), (cy 5, .object RX2), (cy 6, .object RX1)]
/-- the start: classes, words, the JDK's statics, the texts -/
def gE (s0 : State) (D : va_G) (cy : Nat → ClassId) : Prop :=
  va_K D vwCl (gTy cy) s0 ∧ (∃ a0 : Array Value, ∀ w ∈ lw_tbl, w.before a0 s0 = true) ∧
  (vx_Zq Bundle.tN "UNASSIGNED_STACK" Bundle.steD (fun q => s0.heap.size ≤ q) s0 s0.heap ∧ vx_Zq Bundle.tN "SUPPRESSED_SENTINEL" Bundle.listD (fun q => s0.heap.size ≤ q) s0 s0.heap) ∧
  ∀ (o : String) (k : Nat) (tx : String), Cond.stringRef o k tx ∈ lw_tbl → ∃ a : Nat, vk_R o k tx a s0
/-- since the start: the machine's tables grew alone, the old heap is as it was, the pool is new -/
def gW (s0 : State) (L : List Nat) (U : State) : Prop := s0.WarmedH U.vm ∧ s0.heap.size ≤ U.heap.size ∧ (∀ a : Nat, a < s0.heap.size → U.heap[a]? = s0.heap[a]?) ∧ ∀ a ∈ L, s0.heap.size ≤ a
def gA (L : List Nat) (sz : Nat) : Nat → Prop := fun q => q ∈ L ∨ sz ≤ q
/-- the locals, as far as they are known -/
def gL (la : Array Slot) (nL : Nat) (ls : List (Option Value)) : Prop := la.size = nL ∧ lv_wf la ∧ ls.length = nL ∧ ∀ (i : Nat) (v : Value), ls[i]? = some (some v) → la[i]? = some (.val v) ∧ v.category = 1
def gl_l (ls : List (Option Value)) : List (Nat × Value) := (List.range ls.length).filterMap (fun i => (ls[i]?).bind (fun o => o.map (fun v => (i, v))))
theorem gl_mem {ls : List (Option Value)} {i : Nat} {v : Value} : (i, v) ∈ gl_l ls ↔ ls[i]? = some (some v) := by
  unfold gl_l
  rw [List.mem_filterMap]
  constructor
  · rintro ⟨j, hj, h⟩
    cases hz : ls[j]? with
    | none => rw [hz] at h; cases h
    | some o =>
      cases o with
      | none => rw [hz] at h; cases h
      | some w =>
        rw [hz] at h
        cases h
        exact hz
  · intro h
    refine ⟨i, List.mem_range.mpr (List.getElem?_eq_some_iff.mp h).1, ?_⟩
    rw [h]; rfl
theorem gL.has {la : Array Slot} {nL : Nat} {ls : List (Option Value)} (h : gL la nL ls) : lv_has la nL (gl_l ls) := ⟨h.1, h.2.1, fun q hq => (h.2.2.2 q.1 q.2 (gl_mem.mp hq)).1⟩
theorem gL.put {la lb : Array Slot} {nL i : Nat} {v : Value} {ls : List (Option Value)} (h : gL la nL ls) (hc : v.category = 1) (hb : lv_has lb nL ((i, v) :: (gl_l ls).filter (fun q => !(q.1 == i) && !(q.1 + 1 == i && q.2.category == 2)))) : gL lb nL (ls.set i (some v)) := by
  refine ⟨hb.1, hb.2.1, by rw [List.length_set]; exact h.2.2.1, fun j w hw => ?_⟩
  by_cases hj : j = i
  · subst hj
    have hl : j < ls.length := by
      have := (List.getElem?_eq_some_iff.mp hw).1
      rwa [List.length_set] at this
    rw [List.getElem?_set_self hl] at hw
    cases hw
    exact ⟨hb.2.2 (j, v) List.mem_cons_self, hc⟩
  · rw [List.getElem?_set_ne (Ne.symm hj)] at hw
    have h1 := h.2.2.2 j w hw
    refine ⟨hb.2.2 (j, w) (List.mem_cons_of_mem _ (List.mem_filter.mpr ⟨gl_mem.mpr hw, ?_⟩)), h1.2⟩
    simp [hj, h1.2]
theorem gL.weak {la : Array Slot} {nL : Nat} {ls ls' : List (Option Value)} (h : gL la nL ls) (hl : ls'.length = ls.length) (hw : ∀ (i : Nat) (v : Value), ls'[i]? = some (some v) → ls[i]? = some (some v)) : gL la nL ls' := ⟨h.1, h.2.1, hl.trans h.2.2.1, fun i v q => h.2.2.2 i v (hw i v q)⟩
def G (p : Program) (l : Launch) (e : Env) (R : Room) (s : State) (m : MethodId) (args : Array Value) (below : List Frame) (meth : Method) (c : Code) (Q : State → Prop) (D : va_G) (L0 : List Nat) (nL : Nat) (L : List Nat) (f : gF) (ce sl pc : Nat) (ls : List (Option Value)) (st : List Value) : Prop :=
  ∀ (H : Heap) (locs : List Loc) (la : Array Slot), va_P D vwCl (va_pl L f) H → va_D (gA L0 s.heap.size) (va_pl L f) → va_S (gA L0 s.heap.size) s.heap H locs → gL la nL ls → W p l e R s m args below meth c H locs ce sl Q (F0 m pc la st)
/-- what a method's body stands on -/
def gC (p : Program) (l : Launch) (e : Env) (R : Room) (s : State) (m : MethodId) (args : Array Value) (below : List Frame) (meth : Method) (c : Code) (s0 : State) (D : va_G) (cy : Nat → ClassId) (L0 : List Nat) (cc : ByteArray) (nL : Nat) (own : String) : Prop :=
  p.tables.exec = Jvm.exec ∧ c.code = cc ∧ c.maxLocals = nL ∧ s.vm.findClass own = some m.cls ∧ meth.locks = false ∧ gE s0 D cy ∧ gW s0 L0 s ∧ l.stackTraces = false
/-- a cell of the pool -/
def gH (L : List Nat) (f : gF) (a : Nat) (e : va_E) : Prop := a ∈ L ∧ f a = e
theorem gH.up {L : List Nat} {f : gF} {a : Nat} {e e1 : va_E} (h : gH L f a e) : gH L (va_up f a e1) a e1 := ⟨h.1, va_up_self _ _ _⟩
theorem gH.ne {L : List Nat} {f : gF} {a b : Nat} {e e1 : va_E} (h : gH L f b e) (hn : b ≠ a) : gH L (va_up f a e1) b e := ⟨h.1, (va_up_ne _ _ hn).trans h.2⟩
theorem gH.of {L L1 : List Nat} {f f1 : gF} {b : Nat} {e : va_E} (h : gH L f b e) (hL : b ∈ L1) (hf : f1 b = f b) : gH L1 f1 b e := ⟨hL, hf.trans h.2⟩
theorem gH.apart {L : List Nat} {f : gF} {a b : Nat} {e1 e2 : va_E} (h1 : gH L f a e1) (h2 : gH L f b e2) (hn : e1 ≠ e2) : a ≠ b := fun q => hn (by rw [← h1.2, ← h2.2, q])
theorem g_word {args a' : Array Value} {s U : State} {w : Cond} (hW : s.WarmedH U.vm) (hk : (w.onTables && w.keepsFace) = true) (h : w.before args s = true) : w.before a' U = true := by
  rw [Bool.and_eq_true] at hk
  exact va_tabs hk.1 (rfl : (s.setVm U.vm).vm = U.vm) (Cond.before_shiftedFace (State.Shifted.of_warmed hW) _ hk.2 h)
section GCORE
variable {p : Program} {l : Launch} {e : Env} {R : Room} {s : State} {m : MethodId} {args : Array Value} {below : List Frame} {meth : Method} {c : Code} {Q : State → Prop}
variable {s0 : State} {D : va_G} {cy : Nat → ClassId} {L0 : List Nat} {nL : Nat} {cc : ByteArray} {own : String} {L : List Nat} {f : gF} {ce sl pc n : Nat} {ls : List (Option Value)} {st : List Value}
theorem gC.wd (C : gC p l e R s m args below meth c s0 D cy L0 cc nL own) {w : Cond} (hw : w ∈ lw_tbl) (hk : (w.onTables && w.keepsFace) = true) (a' : Array Value) : w.before a' s = true := by
  obtain ⟨-, -, -, -, -, ⟨-, ⟨a0, h⟩, -⟩, ⟨hW, -⟩, -⟩ := C
  exact g_word hW hk (h w hw)
theorem gC.wa (C : gC p l e R s m args below meth c s0 D cy L0 cc nL own) {t : FieldType} (hw : Cond.arrayClass t ∈ lw_tbl) (a' : Array Value) : (Cond.arrayClass t).before a' s = true := by
  obtain ⟨-, -, -, -, -, ⟨-, ⟨a0, h⟩, -⟩, ⟨hW, -⟩, -⟩ := C
  exact word_at hW (Or.inr ⟨t, rfl⟩) (h _ hw)
theorem gC.nwM (C : gC p l e R s m args below meth c s0 D cy L0 cc nL own) {a : String} {i : Nat} {x : MethodName} {h : String} (hw : Cond.methodLinkNest a i x h ∈ lw_tbl) : va_Nw (.methodLinkNest a i x h) s := by
  obtain ⟨-, -, -, -, -, ⟨-, ⟨a0, h9⟩, -⟩, ⟨hW, -⟩, -⟩ := C
  exact va_Nw.warmM hW (va_Nw.of rfl (h9 _ hw))
theorem gC.nwF (C : gC p l e R s m args below meth c s0 D cy L0 cc nL own) {a : String} {i : Nat} {b n d h : String} (hw : Cond.fieldLinkNest a i b n d h ∈ lw_tbl) : va_Nw (.fieldLinkNest a i b n d h) s := by
  obtain ⟨-, -, -, -, -, ⟨-, ⟨a0, h9⟩, -⟩, ⟨hW, -⟩, -⟩ := C
  exact va_Nw.warmF hW (va_Nw.of rfl (h9 _ hw))
theorem gC.K (C : gC p l e R s m args below meth c s0 D cy L0 cc nL own) : va_K D vwCl (gTy cy) s := by
  obtain ⟨-, -, -, -, -, ⟨h, -⟩, ⟨hW, -⟩, -⟩ := C
  exact va_K.moved hW.alike h
theorem gC.new (C : gC p l e R s m args below meth c s0 D cy L0 cc nL own) : ∀ q, s.heap.size ≤ q → gA L0 s.heap.size q := fun _ h => Or.inr h
theorem gC.low (C : gC p l e R s m args below meth c s0 D cy L0 cc nL own) : ∀ q, gA L0 s.heap.size q → s0.heap.size ≤ q := by
  obtain ⟨-, -, -, -, -, -, ⟨-, h1, -, h2⟩, -⟩ := C
  intro q h
  rcases h with h | h
  · exact h2 q h
  · exact Nat.le_trans h1 h
theorem G.mono {ce' sl' : Nat} (h1 : ce ≤ ce') (h2 : sl ≤ sl') (k : G p l e R s m args below meth c Q D L0 nL L f ce' sl' pc ls (st)) : G p l e R s m args below meth c Q D L0 nL L f ce sl pc ls (st) := fun H locs la a b d e => W.widen h1 h2 (k H locs la a b d e)
theorem G.weak {ls' : List (Option Value)} (k : G p l e R s m args below meth c Q D L0 nL L f ce sl pc ls' (st)) (hl : ls'.length = ls.length) (hw : ∀ (i : Nat) (v : Value), ls'[i]? = some (some v) → ls[i]? = some (some v)) : G p l e R s m args below meth c Q D L0 nL L f ce sl pc ls (st) := fun H locs la a b d e => k H locs la a b d (e.weak hl hw)
theorem G.by {y : Int32} (k : ∀ x : Int32, x = y → G p l e R s m args below meth c Q D L0 nL L f ce sl pc ls (.int x :: st)) : G p l e R s m args below meth c Q D L0 nL L f ce sl pc ls (.int y :: st) := k y rfl
theorem g_iconst (C : gC p l e R s m args below meth c s0 D cy L0 cc nL own) {z : Int} {v : Int32} (d : decode cc pc = .ok (.iconst z, 1)) (hv : Int32.ofInt z = v) (hn : pc + 1 = n) (kk : G p l e R s m args below meth c Q D L0 nL L f ce sl n ls (.int v :: st)) : G p l e R s m args below meth c Q D L0 nL L f ce sl pc ls (st) := by
  intro H locs la hP hD hS hl
  subst hn
  exact lv_iconst C.1 C.2.1 d hv (kk H locs la hP hD hS hl)
theorem g_bipush (C : gC p l e R s m args below meth c s0 D cy L0 cc nL own) {z : Int} {v : Int32} (d : decode cc pc = .ok (.bipush z, 2)) (hv : (Int8.ofInt z).toInt32 = v) (hn : pc + 2 = n) (kk : G p l e R s m args below meth c Q D L0 nL L f ce sl n ls (.int v :: st)) : G p l e R s m args below meth c Q D L0 nL L f ce sl pc ls (st) := by
  intro H locs la hP hD hS hl
  subst hn
  exact lv_bipush C.1 C.2.1 d hv (kk H locs la hP hD hS hl)
theorem g_sipush (C : gC p l e R s m args below meth c s0 D cy L0 cc nL own) {z : Int} {v : Int32} (d : decode cc pc = .ok (.sipush z, 3)) (hv : (Int16.ofInt z).toInt32 = v) (hn : pc + 3 = n) (kk : G p l e R s m args below meth c Q D L0 nL L f ce sl n ls (.int v :: st)) : G p l e R s m args below meth c Q D L0 nL L f ce sl pc ls (st) := by
  intro H locs la hP hD hS hl
  subst hn
  exact lv_sipush C.1 C.2.1 d hv (kk H locs la hP hD hS hl)
theorem g_aconst_null (C : gC p l e R s m args below meth c s0 D cy L0 cc nL own)  (d : decode cc pc = .ok (.aconst_null, 1))  (hn : pc + 1 = n) (kk : G p l e R s m args below meth c Q D L0 nL L f ce sl n ls (.null :: st)) : G p l e R s m args below meth c Q D L0 nL L f ce sl pc ls (st) := by
  intro H locs la hP hD hS hl
  subst hn
  exact lv_null C.1 C.2.1 d (kk H locs la hP hD hS hl)
theorem g_iadd (C : gC p l e R s m args below meth c s0 D cy L0 cc nL own) {x y : Int32} (d : decode cc pc = .ok (.iadd, 1))  (hn : pc + 1 = n) (kk : G p l e R s m args below meth c Q D L0 nL L f ce sl n ls (.int (x + y) :: st)) : G p l e R s m args below meth c Q D L0 nL L f ce sl pc ls (.int y :: .int x :: st) := by
  intro H locs la hP hD hS hl
  subst hn
  exact lv_iadd C.1 C.2.1 d (kk H locs la hP hD hS hl)
theorem g_isub (C : gC p l e R s m args below meth c s0 D cy L0 cc nL own) {x y : Int32} (d : decode cc pc = .ok (.isub, 1))  (hn : pc + 1 = n) (kk : G p l e R s m args below meth c Q D L0 nL L f ce sl n ls (.int (x - y) :: st)) : G p l e R s m args below meth c Q D L0 nL L f ce sl pc ls (.int y :: .int x :: st) := by
  intro H locs la hP hD hS hl
  subst hn
  exact lv_isub C.1 C.2.1 d (kk H locs la hP hD hS hl)
theorem g_imul (C : gC p l e R s m args below meth c s0 D cy L0 cc nL own) {x y : Int32} (d : decode cc pc = .ok (.imul, 1))  (hn : pc + 1 = n) (kk : G p l e R s m args below meth c Q D L0 nL L f ce sl n ls (.int (x * y) :: st)) : G p l e R s m args below meth c Q D L0 nL L f ce sl pc ls (.int y :: .int x :: st) := by
  intro H locs la hP hD hS hl
  subst hn
  exact lv_imul C.1 C.2.1 d (kk H locs la hP hD hS hl)
theorem g_iand (C : gC p l e R s m args below meth c s0 D cy L0 cc nL own) {x y : Int32} (d : decode cc pc = .ok (.iand, 1))  (hn : pc + 1 = n) (kk : G p l e R s m args below meth c Q D L0 nL L f ce sl n ls (.int (x &&& y) :: st)) : G p l e R s m args below meth c Q D L0 nL L f ce sl pc ls (.int y :: .int x :: st) := by
  intro H locs la hP hD hS hl
  subst hn
  exact lv_iand C.1 C.2.1 d (kk H locs la hP hD hS hl)
theorem g_irem (C : gC p l e R s m args below meth c s0 D cy L0 cc nL own) {x y : Int32} (d : decode cc pc = .ok (.irem, 1)) (hne : ¬ y = 0) (hn : pc + 1 = n) (kk : G p l e R s m args below meth c Q D L0 nL L f ce sl n ls (.int (x - x / y * y) :: st)) : G p l e R s m args below meth c Q D L0 nL L f ce sl pc ls (.int y :: .int x :: st) := by
  intro H locs la hP hD hS hl
  subst hn
  exact lv_irem C.1 C.2.1 d hne (kk H locs la hP hD hS hl)
theorem g_dup (C : gC p l e R s m args below meth c s0 D cy L0 cc nL own) {v : Value} (d : decode cc pc = .ok (.dup, 1)) (hv : v.category = 1) (hn : pc + 1 = n) (kk : G p l e R s m args below meth c Q D L0 nL L f ce sl n ls (v :: v :: st)) : G p l e R s m args below meth c Q D L0 nL L f ce sl pc ls (v :: st) := by
  intro H locs la hP hD hS hl
  subst hn
  exact lv_dup C.1 C.2.1 d hv (kk H locs la hP hD hS hl)
theorem g_pop (C : gC p l e R s m args below meth c s0 D cy L0 cc nL own) {v : Value} (d : decode cc pc = .ok (.pop, 1)) (hv : v.category = 1) (hn : pc + 1 = n) (kk : G p l e R s m args below meth c Q D L0 nL L f ce sl n ls (st)) : G p l e R s m args below meth c Q D L0 nL L f ce sl pc ls (v :: st) := by
  intro H locs la hP hD hS hl
  subst hn
  exact lv_pop C.1 C.2.1 d hv (kk H locs la hP hD hS hl)
theorem g_dup2 (C : gC p l e R s m args below meth c s0 D cy L0 cc nL own) {v u : Value} (d : decode cc pc = .ok (.dup2, 1)) (hv : v.category = 1) (hu : u.category = 1) (hn : pc + 1 = n) (kk : G p l e R s m args below meth c Q D L0 nL L f ce sl n ls (v :: u :: v :: u :: st)) : G p l e R s m args below meth c Q D L0 nL L f ce sl pc ls (v :: u :: st) := by
  intro H locs la hP hD hS hl
  subst hn
  exact lv_dup2_11 C.1 C.2.1 d hv hu (kk H locs la hP hD hS hl)
theorem g_i2l (C : gC p l e R s m args below meth c s0 D cy L0 cc nL own) {x : Int32} (d : decode cc pc = .ok (.i2l, 1))  (hn : pc + 1 = n) (kk : G p l e R s m args below meth c Q D L0 nL L f ce sl n ls (.long x.toInt64 :: st)) : G p l e R s m args below meth c Q D L0 nL L f ce sl pc ls (.int x :: st) := by
  intro H locs la hP hD hS hl
  subst hn
  exact lv_i2l C.1 C.2.1 d rfl (kk H locs la hP hD hS hl)
theorem g_iload_n (C : gC p l e R s m args below meth c s0 D cy L0 cc nL own) {k : Fin 4} {x : Int32} (d : decode cc pc = .ok (.iload_n k, 1)) (h : ls[(k : Nat)]? = some (some (.int x))) (hn : pc + 1 = n) (kk : G p l e R s m args below meth c Q D L0 nL L f ce sl n ls (.int x :: st)) : G p l e R s m args below meth c Q D L0 nL L f ce sl pc ls (st) := by
  intro H locs la hP hD hS hl
  subst hn
  exact lv_iload_n C.1 C.2.1 d rfl (hl.2.2.2 _ _ h).1 (kk H locs la hP hD hS hl)
theorem g_iload (C : gC p l e R s m args below meth c s0 D cy L0 cc nL own) {k : Nat} {x : Int32} (d : decode cc pc = .ok (.iload k, 2)) (h : ls[(k : Nat)]? = some (some (.int x))) (hn : pc + 2 = n) (kk : G p l e R s m args below meth c Q D L0 nL L f ce sl n ls (.int x :: st)) : G p l e R s m args below meth c Q D L0 nL L f ce sl pc ls (st) := by
  intro H locs la hP hD hS hl
  subst hn
  exact lv_iload C.1 C.2.1 d (hl.2.2.2 _ _ h).1 (kk H locs la hP hD hS hl)
theorem g_aload_n (C : gC p l e R s m args below meth c s0 D cy L0 cc nL own) {k : Fin 4} {v : Value} (d : decode cc pc = .ok (.aload_n k, 1)) (h : ls[(k : Nat)]? = some (some v)) (hv : v = .null ∨ ∃ a, v = .ref a) (hn : pc + 1 = n) (kk : G p l e R s m args below meth c Q D L0 nL L f ce sl n ls (v :: st)) : G p l e R s m args below meth c Q D L0 nL L f ce sl pc ls (st) := by
  intro H locs la hP hD hS hl
  subst hn
  rcases hv with rfl | ⟨a, rfl⟩
  · exact lv_aload_nN C.1 C.2.1 d rfl (hl.2.2.2 _ _ h).1 (kk H locs la hP hD hS hl)
  · exact lv_aload_n C.1 C.2.1 d rfl (hl.2.2.2 _ _ h).1 (kk H locs la hP hD hS hl)
theorem g_aload (C : gC p l e R s m args below meth c s0 D cy L0 cc nL own) {k : Nat} {v : Value} (d : decode cc pc = .ok (.aload k, 2)) (h : ls[(k : Nat)]? = some (some v)) (hv : v = .null ∨ ∃ a, v = .ref a) (hn : pc + 2 = n) (kk : G p l e R s m args below meth c Q D L0 nL L f ce sl n ls (v :: st)) : G p l e R s m args below meth c Q D L0 nL L f ce sl pc ls (st) := by
  intro H locs la hP hD hS hl
  subst hn
  rcases hv with rfl | ⟨a, rfl⟩
  · exact lv_aloadN C.1 C.2.1 d (hl.2.2.2 _ _ h).1 (kk H locs la hP hD hS hl)
  · exact lv_aload C.1 C.2.1 d (hl.2.2.2 _ _ h).1 (kk H locs la hP hD hS hl)
theorem g_istore_n (C : gC p l e R s m args below meth c s0 D cy L0 cc nL own) {k : Fin 4} {x : Int32} {ls' : List (Option Value)} (d : decode cc pc = .ok (.istore_n k, 1)) (h : ls.set (k : Nat) (some (.int x)) = ls') (hk : (k : Nat) < nL) (hn : pc + 1 = n) (kk : G p l e R s m args below meth c Q D L0 nL L f ce sl n ls' (st)) : G p l e R s m args below meth c Q D L0 nL L f ce sl pc ls (.int x :: st) := by
  intro H locs la hP hD hS hl
  subst hn
  subst h
  exact lv_istore_n C.1 C.2.1 d rfl hl.has hk rfl (fun la1 h1 => kk H locs la1 hP hD hS (hl.put rfl h1))
theorem g_istore (C : gC p l e R s m args below meth c s0 D cy L0 cc nL own) {k : Nat} {x : Int32} {ls' : List (Option Value)} (d : decode cc pc = .ok (.istore k, 2)) (h : ls.set (k : Nat) (some (.int x)) = ls') (hk : (k : Nat) < nL) (hn : pc + 2 = n) (kk : G p l e R s m args below meth c Q D L0 nL L f ce sl n ls' (st)) : G p l e R s m args below meth c Q D L0 nL L f ce sl pc ls (.int x :: st) := by
  intro H locs la hP hD hS hl
  subst hn
  subst h
  exact lv_istore C.1 C.2.1 d hl.has hk rfl (fun la1 h1 => kk H locs la1 hP hD hS (hl.put rfl h1))
theorem g_astore_n (C : gC p l e R s m args below meth c s0 D cy L0 cc nL own) {k : Fin 4} {v : Value} {ls' : List (Option Value)} (d : decode cc pc = .ok (.astore_n k, 1)) (hv : v = .null ∨ ∃ a, v = .ref a) (h : ls.set (k : Nat) (some v) = ls') (hk : (k : Nat) < nL) (hn : pc + 1 = n) (kk : G p l e R s m args below meth c Q D L0 nL L f ce sl n ls' (st)) : G p l e R s m args below meth c Q D L0 nL L f ce sl pc ls (v :: st) := by
  intro H locs la hP hD hS hl
  subst hn
  subst h
  rcases hv with rfl | ⟨a, rfl⟩
  · exact lv_astore_nN C.1 C.2.1 d rfl hl.has hk rfl (fun la1 h1 => kk H locs la1 hP hD hS (hl.put rfl h1))
  · exact lv_astore_n C.1 C.2.1 d rfl hl.has hk rfl (fun la1 h1 => kk H locs la1 hP hD hS (hl.put rfl h1))
theorem g_astore (C : gC p l e R s m args below meth c s0 D cy L0 cc nL own) {k : Nat} {v : Value} {ls' : List (Option Value)} (d : decode cc pc = .ok (.astore k, 2)) (hv : v = .null ∨ ∃ a, v = .ref a) (h : ls.set (k : Nat) (some v) = ls') (hk : (k : Nat) < nL) (hn : pc + 2 = n) (kk : G p l e R s m args below meth c Q D L0 nL L f ce sl n ls' (st)) : G p l e R s m args below meth c Q D L0 nL L f ce sl pc ls (v :: st) := by
  intro H locs la hP hD hS hl
  subst hn
  subst h
  rcases hv with rfl | ⟨a, rfl⟩
  · exact lv_astoreN C.1 C.2.1 d hl.has hk rfl (fun la1 h1 => kk H locs la1 hP hD hS (hl.put rfl h1))
  · exact lv_astore C.1 C.2.1 d hl.has hk rfl (fun la1 h1 => kk H locs la1 hP hD hS (hl.put rfl h1))
theorem g_iinc (C : gC p l e R s m args below meth c s0 D cy L0 cc nL own) {k : Nat} {z : Int} {x v : Int32} {ls' : List (Option Value)} (d : decode cc pc = .ok (.iinc k z, 3)) (hx : ls[k]? = some (some (.int x))) (hv : x + Int32.ofInt z = v) (h : ls.set k (some (.int v)) = ls') (hk : k < nL) (hn : pc + 3 = n) (kk : G p l e R s m args below meth c Q D L0 nL L f ce sl n ls' (st)) : G p l e R s m args below meth c Q D L0 nL L f ce sl pc ls (st) := by
  intro H locs la hP hD hS hl
  subst hn
  subst h
  obtain ⟨j, hj⟩ := List.getElem?_of_mem (gl_mem.mpr hx)
  exact lv_iinc C.1 C.2.1 d hl.has hj hv hk rfl (fun la1 h1 => kk H locs la1 hP hD hS (hl.put rfl h1))
theorem g_if_eq (C : gC p l e R s m args below meth c s0 D cy L0 cc nL own) {x : Int32} {off : Int} {tgt : Nat} (d : decode cc pc = .ok (.ifCond .eq off, 3)) (ht : (pc : Int) + off = (tgt : Int)) (hn : pc + 3 = n) (kt : x = 0 → G p l e R s m args below meth c Q D L0 nL L f ce sl tgt ls (st)) (kf : ¬ x = 0 → G p l e R s m args below meth c Q D L0 nL L f ce sl n ls (st)) : G p l e R s m args below meth c Q D L0 nL L f ce sl pc ls (.int x :: st) := by
  intro H locs la hP hD hS hl
  subst hn
  exact lv_if_eq C.1 C.2.1 d ht (fun h => kt h H locs la hP hD hS hl) (fun h => kf h H locs la hP hD hS hl)
theorem g_if_ne (C : gC p l e R s m args below meth c s0 D cy L0 cc nL own) {x : Int32} {off : Int} {tgt : Nat} (d : decode cc pc = .ok (.ifCond .ne off, 3)) (ht : (pc : Int) + off = (tgt : Int)) (hn : pc + 3 = n) (kt : ¬ x = 0 → G p l e R s m args below meth c Q D L0 nL L f ce sl tgt ls (st)) (kf : x = 0 → G p l e R s m args below meth c Q D L0 nL L f ce sl n ls (st)) : G p l e R s m args below meth c Q D L0 nL L f ce sl pc ls (.int x :: st) := by
  intro H locs la hP hD hS hl
  subst hn
  exact lv_if_ne C.1 C.2.1 d ht (fun h => kt h H locs la hP hD hS hl) (fun h => kf h H locs la hP hD hS hl)
theorem g_if_lt (C : gC p l e R s m args below meth c s0 D cy L0 cc nL own) {x : Int32} {off : Int} {tgt : Nat} (d : decode cc pc = .ok (.ifCond .lt off, 3)) (ht : (pc : Int) + off = (tgt : Int)) (hn : pc + 3 = n) (kt : x < 0 → G p l e R s m args below meth c Q D L0 nL L f ce sl tgt ls (st)) (kf : ¬ x < 0 → G p l e R s m args below meth c Q D L0 nL L f ce sl n ls (st)) : G p l e R s m args below meth c Q D L0 nL L f ce sl pc ls (.int x :: st) := by
  intro H locs la hP hD hS hl
  subst hn
  exact lv_if_lt C.1 C.2.1 d ht (fun h => kt h H locs la hP hD hS hl) (fun h => kf h H locs la hP hD hS hl)
theorem g_if_ge (C : gC p l e R s m args below meth c s0 D cy L0 cc nL own) {x : Int32} {off : Int} {tgt : Nat} (d : decode cc pc = .ok (.ifCond .ge off, 3)) (ht : (pc : Int) + off = (tgt : Int)) (hn : pc + 3 = n) (kt : 0 ≤ x → G p l e R s m args below meth c Q D L0 nL L f ce sl tgt ls (st)) (kf : ¬ 0 ≤ x → G p l e R s m args below meth c Q D L0 nL L f ce sl n ls (st)) : G p l e R s m args below meth c Q D L0 nL L f ce sl pc ls (.int x :: st) := by
  intro H locs la hP hD hS hl
  subst hn
  exact lv_if_ge C.1 C.2.1 d ht (fun h => kt h H locs la hP hD hS hl) (fun h => kf h H locs la hP hD hS hl)
theorem g_if_gt (C : gC p l e R s m args below meth c s0 D cy L0 cc nL own) {x : Int32} {off : Int} {tgt : Nat} (d : decode cc pc = .ok (.ifCond .gt off, 3)) (ht : (pc : Int) + off = (tgt : Int)) (hn : pc + 3 = n) (kt : 0 < x → G p l e R s m args below meth c Q D L0 nL L f ce sl tgt ls (st)) (kf : ¬ 0 < x → G p l e R s m args below meth c Q D L0 nL L f ce sl n ls (st)) : G p l e R s m args below meth c Q D L0 nL L f ce sl pc ls (.int x :: st) := by
  intro H locs la hP hD hS hl
  subst hn
  exact lv_if_gt C.1 C.2.1 d ht (fun h => kt h H locs la hP hD hS hl) (fun h => kf h H locs la hP hD hS hl)
theorem g_if_le (C : gC p l e R s m args below meth c s0 D cy L0 cc nL own) {x : Int32} {off : Int} {tgt : Nat} (d : decode cc pc = .ok (.ifCond .le off, 3)) (ht : (pc : Int) + off = (tgt : Int)) (hn : pc + 3 = n) (kt : x ≤ 0 → G p l e R s m args below meth c Q D L0 nL L f ce sl tgt ls (st)) (kf : ¬ x ≤ 0 → G p l e R s m args below meth c Q D L0 nL L f ce sl n ls (st)) : G p l e R s m args below meth c Q D L0 nL L f ce sl pc ls (.int x :: st) := by
  intro H locs la hP hD hS hl
  subst hn
  exact lv_if_le C.1 C.2.1 d ht (fun h => kt h H locs la hP hD hS hl) (fun h => kf h H locs la hP hD hS hl)
theorem g_icmp_eq (C : gC p l e R s m args below meth c s0 D cy L0 cc nL own) {x y : Int32} {off : Int} {tgt : Nat} (d : decode cc pc = .ok (.if_icmp .eq off, 3)) (ht : (pc : Int) + off = (tgt : Int)) (hn : pc + 3 = n) (kt : x = y → G p l e R s m args below meth c Q D L0 nL L f ce sl tgt ls (st)) (kf : ¬ x = y → G p l e R s m args below meth c Q D L0 nL L f ce sl n ls (st)) : G p l e R s m args below meth c Q D L0 nL L f ce sl pc ls (.int y :: .int x :: st) := by
  intro H locs la hP hD hS hl
  subst hn
  exact lv_icmp_eq C.1 C.2.1 d ht (fun h => kt h H locs la hP hD hS hl) (fun h => kf h H locs la hP hD hS hl)
theorem g_icmp_ne (C : gC p l e R s m args below meth c s0 D cy L0 cc nL own) {x y : Int32} {off : Int} {tgt : Nat} (d : decode cc pc = .ok (.if_icmp .ne off, 3)) (ht : (pc : Int) + off = (tgt : Int)) (hn : pc + 3 = n) (kt : ¬ x = y → G p l e R s m args below meth c Q D L0 nL L f ce sl tgt ls (st)) (kf : x = y → G p l e R s m args below meth c Q D L0 nL L f ce sl n ls (st)) : G p l e R s m args below meth c Q D L0 nL L f ce sl pc ls (.int y :: .int x :: st) := by
  intro H locs la hP hD hS hl
  subst hn
  exact lv_icmp_ne C.1 C.2.1 d ht (fun h => kt h H locs la hP hD hS hl) (fun h => kf h H locs la hP hD hS hl)
theorem g_icmp_lt (C : gC p l e R s m args below meth c s0 D cy L0 cc nL own) {x y : Int32} {off : Int} {tgt : Nat} (d : decode cc pc = .ok (.if_icmp .lt off, 3)) (ht : (pc : Int) + off = (tgt : Int)) (hn : pc + 3 = n) (kt : x < y → G p l e R s m args below meth c Q D L0 nL L f ce sl tgt ls (st)) (kf : ¬ x < y → G p l e R s m args below meth c Q D L0 nL L f ce sl n ls (st)) : G p l e R s m args below meth c Q D L0 nL L f ce sl pc ls (.int y :: .int x :: st) := by
  intro H locs la hP hD hS hl
  subst hn
  exact lv_icmp_lt C.1 C.2.1 d ht (fun h => kt h H locs la hP hD hS hl) (fun h => kf h H locs la hP hD hS hl)
theorem g_icmp_ge (C : gC p l e R s m args below meth c s0 D cy L0 cc nL own) {x y : Int32} {off : Int} {tgt : Nat} (d : decode cc pc = .ok (.if_icmp .ge off, 3)) (ht : (pc : Int) + off = (tgt : Int)) (hn : pc + 3 = n) (kt : y ≤ x → G p l e R s m args below meth c Q D L0 nL L f ce sl tgt ls (st)) (kf : ¬ y ≤ x → G p l e R s m args below meth c Q D L0 nL L f ce sl n ls (st)) : G p l e R s m args below meth c Q D L0 nL L f ce sl pc ls (.int y :: .int x :: st) := by
  intro H locs la hP hD hS hl
  subst hn
  exact lv_icmp_ge C.1 C.2.1 d ht (fun h => kt h H locs la hP hD hS hl) (fun h => kf h H locs la hP hD hS hl)
theorem g_icmp_gt (C : gC p l e R s m args below meth c s0 D cy L0 cc nL own) {x y : Int32} {off : Int} {tgt : Nat} (d : decode cc pc = .ok (.if_icmp .gt off, 3)) (ht : (pc : Int) + off = (tgt : Int)) (hn : pc + 3 = n) (kt : y < x → G p l e R s m args below meth c Q D L0 nL L f ce sl tgt ls (st)) (kf : ¬ y < x → G p l e R s m args below meth c Q D L0 nL L f ce sl n ls (st)) : G p l e R s m args below meth c Q D L0 nL L f ce sl pc ls (.int y :: .int x :: st) := by
  intro H locs la hP hD hS hl
  subst hn
  exact lv_icmp_gt C.1 C.2.1 d ht (fun h => kt h H locs la hP hD hS hl) (fun h => kf h H locs la hP hD hS hl)
theorem g_icmp_le (C : gC p l e R s m args below meth c s0 D cy L0 cc nL own) {x y : Int32} {off : Int} {tgt : Nat} (d : decode cc pc = .ok (.if_icmp .le off, 3)) (ht : (pc : Int) + off = (tgt : Int)) (hn : pc + 3 = n) (kt : x ≤ y → G p l e R s m args below meth c Q D L0 nL L f ce sl tgt ls (st)) (kf : ¬ x ≤ y → G p l e R s m args below meth c Q D L0 nL L f ce sl n ls (st)) : G p l e R s m args below meth c Q D L0 nL L f ce sl pc ls (.int y :: .int x :: st) := by
  intro H locs la hP hD hS hl
  subst hn
  exact lv_icmp_le C.1 C.2.1 d ht (fun h => kt h H locs la hP hD hS hl) (fun h => kf h H locs la hP hD hS hl)
theorem g_goto (C : gC p l e R s m args below meth c s0 D cy L0 cc nL own) {off : Int} {tgt : Nat} (d : decode cc pc = .ok (.goto off, 3)) (ht : (pc : Int) + off = (tgt : Int)) (kk : G p l e R s m args below meth c Q D L0 nL L f ce sl tgt ls (st)) : G p l e R s m args below meth c Q D L0 nL L f ce sl pc ls (st) := by
  intro H locs la hP hD hS hl
  exact lv_goto C.1 C.2.1 d ht (kk H locs la hP hD hS hl)
theorem g_ifnull (C : gC p l e R s m args below meth c s0 D cy L0 cc nL own) {o : Option Nat} {off : Int} {tgt : Nat} (d : decode cc pc = .ok (.ifnull off, 3)) (ht : (pc : Int) + off = (tgt : Int)) (hn : pc + 3 = n) (kt : o = none → G p l e R s m args below meth c Q D L0 nL L f ce sl tgt ls (st)) (kf : ∀ a, o = some a → G p l e R s m args below meth c Q D L0 nL L f ce sl n ls (st)) : G p l e R s m args below meth c Q D L0 nL L f ce sl pc ls (va_rf o :: st) := by
  intro H locs la hP hD hS hl
  subst hn
  cases o with
  | none => exact lv_ifnullN C.1 C.2.1 d ht (kt rfl H locs la hP hD hS hl)
  | some a => exact lv_ifnull C.1 C.2.1 d (kf a rfl H locs la hP hD hS hl)
theorem g_ifnonnull (C : gC p l e R s m args below meth c s0 D cy L0 cc nL own) {o : Option Nat} {off : Int} {tgt : Nat} (d : decode cc pc = .ok (.ifnonnull off, 3)) (ht : (pc : Int) + off = (tgt : Int)) (hn : pc + 3 = n) (kt : ∀ a, o = some a → G p l e R s m args below meth c Q D L0 nL L f ce sl tgt ls (st)) (kf : o = none → G p l e R s m args below meth c Q D L0 nL L f ce sl n ls (st)) : G p l e R s m args below meth c Q D L0 nL L f ce sl pc ls (va_rf o :: st) := by
  intro H locs la hP hD hS hl
  subst hn
  cases o with
  | none => exact lv_ifnonnullN C.1 C.2.1 d (kf rfl H locs la hP hD hS hl)
  | some a => exact lv_ifnonnull C.1 C.2.1 d ht (kt a rfl H locs la hP hD hS hl)
theorem g_acmp_eq (C : gC p l e R s m args below meth c s0 D cy L0 cc nL own) {rx ry : Option Nat} {off : Int} {tgt : Nat} (d : decode cc pc = .ok (.if_acmp .eq off, 3)) (ht : (pc : Int) + off = (tgt : Int)) (hn : pc + 3 = n) (kt : rx = ry → G p l e R s m args below meth c Q D L0 nL L f ce sl tgt ls (st)) (kf : ¬ rx = ry → G p l e R s m args below meth c Q D L0 nL L f ce sl n ls (st)) : G p l e R s m args below meth c Q D L0 nL L f ce sl pc ls (va_rf ry :: va_rf rx :: st) := by
  intro H locs la hP hD hS hl
  subst hn
  exact lv_acmp_eq C.1 C.2.1 d ht (fun h => kt h H locs la hP hD hS hl) (fun h => kf h H locs la hP hD hS hl)
theorem g_acmp_ne (C : gC p l e R s m args below meth c s0 D cy L0 cc nL own) {rx ry : Option Nat} {off : Int} {tgt : Nat} (d : decode cc pc = .ok (.if_acmp .ne off, 3)) (ht : (pc : Int) + off = (tgt : Int)) (hn : pc + 3 = n) (kt : ¬ rx = ry → G p l e R s m args below meth c Q D L0 nL L f ce sl tgt ls (st)) (kf : rx = ry → G p l e R s m args below meth c Q D L0 nL L f ce sl n ls (st)) : G p l e R s m args below meth c Q D L0 nL L f ce sl pc ls (va_rf ry :: va_rf rx :: st) := by
  intro H locs la hP hD hS hl
  subst hn
  exact lv_acmp_ne C.1 C.2.1 d ht (fun h => kt h H locs la hP hD hS hl) (fun h => kf h H locs la hP hD hS hl)
theorem g_tableIn (C : gC p l e R s m args below meth c s0 D cy L0 cc nL own) {dflt lo hi : Int} {offs : Array Int} {len : Nat} {x : Int32} {off : Int} {tgt : Nat} (d : decode cc pc = .ok (.tableswitch dflt lo hi offs, len)) (h1 : ¬ x.toInt < lo) (h2 : ¬ hi < x.toInt) (ho : offs[(x.toInt - lo).toNat]? = some off) (ht : (pc : Int) + off = (tgt : Int)) (kk : G p l e R s m args below meth c Q D L0 nL L f ce sl tgt ls (st)) : G p l e R s m args below meth c Q D L0 nL L f ce sl pc ls (.int x :: st) := by
  intro H locs la hP hD hS hl
  exact lv_tableIn C.1 C.2.1 d h1 h2 ho ht (kk H locs la hP hD hS hl)
theorem g_tableOut (C : gC p l e R s m args below meth c s0 D cy L0 cc nL own) {dflt lo hi : Int} {offs : Array Int} {len : Nat} {x : Int32} {tgt : Nat} (d : decode cc pc = .ok (.tableswitch dflt lo hi offs, len)) (h : x.toInt < lo ∨ hi < x.toInt) (ht : (pc : Int) + dflt = (tgt : Int)) (kk : G p l e R s m args below meth c Q D L0 nL L f ce sl tgt ls (st)) : G p l e R s m args below meth c Q D L0 nL L f ce sl pc ls (.int x :: st) := by
  intro H locs la hP hD hS hl
  exact lv_tableOut C.1 C.2.1 d h ht (kk H locs la hP hD hS hl)
theorem g_ldc (C : gC p l e R s m args below meth c s0 D cy L0 cc nL own) {index : Nat} {v : Int32} (d : decode cc pc = .ok (.ldc index, 2)) (hw : Cond.constant own index v ∈ lw_tbl) (hn : pc + 2 = n) (kk : G p l e R s m args below meth c Q D L0 nL L f ce sl n ls (.int v :: st)) : G p l e R s m args below meth c Q D L0 nL L f ce sl pc ls (st) := by
  intro H locs la hP hD hS hl
  subst hn
  exact lv_ldc C.1 C.2.1 C.2.2.2.1 (C.wd hw rfl args) d (kk H locs la hP hD hS hl)
end GCORE
/-- the words of a read of field k of class ci -/
def gwF (own : String) (idx ci k : Nat) : Prop := ∃ (Cn : String) (T : u_T) (N : Nat), vwCl[ci]? = some (Cn, T, N) ∧ k < N ∧ (∀ w ∈ u_ws Cn T N, w ∈ lw_tbl ∧ (w.onTables && w.keepsFace) = true) ∧ (Cond.fieldLink own idx (T k).1 (T k).2.1 (T k).2.2.1 ∈ lw_tbl ∨ ∃ host : String, Cond.fieldLinkNest own idx (T k).1 (T k).2.1 (T k).2.2.1 host ∈ lw_tbl)
/-- .. and of a write -/
def gwP (own : String) (idx ci k : Nat) (fin : Bool) (ty : FieldType) : Prop := ∃ (Cn : String) (T : u_T) (N : Nat) (ty0 : Nat → FieldType), vwCl[ci]? = some (Cn, T, N) ∧ k < N ∧ (∀ w ∈ u_ws Cn T N, w ∈ lw_tbl ∧ (w.onTables && w.keepsFace) = true) ∧ (∀ k, k < N → parseFieldDescriptor (T k).2.2.1 = some (ty0 k)) ∧ (∀ a, a < N → ∀ b, b < N → a ≠ b → (T a).2.1 ≠ (T b).2.1) ∧ (T k).2.2.2 = fin ∧ parseFieldDescriptor (T k).2.2.1 = some ty ∧ (fin = true → (T k).1 = own) ∧ (Cond.fieldLink own idx (T k).1 (T k).2.1 (T k).2.2.1 ∈ lw_tbl ∨ (fin = false ∧ ∃ host : String, Cond.fieldLinkNest own idx (T k).1 (T k).2.1 (T k).2.2.1 host ∈ lw_tbl))
section GHEAP
variable {p : Program} {l : Launch} {e : Env} {R : Room} {s : State} {m : MethodId} {args : Array Value} {below : List Frame} {meth : Method} {c : Code} {Q : State → Prop}
variable {s0 : State} {D : va_G} {cy : Nat → ClassId} {L0 : List Nat} {nL : Nat} {cc : ByteArray} {own : String} {L : List Nat} {f : gF} {ce sl pc n : Nat} {ls : List (Option Value)} {st : List Value}
theorem gp_at {X : List Nat} {D9 : va_G} {H : Heap} {a : Nat} {e9 : va_E} (ha : gH L f a e9) : ∃ k : Nat, (va_pl L f)[k]? = some (a, e9) := by
  obtain ⟨k, hk⟩ := va_pl_get (X := []) (f := f) ha.1
  rw [ha.2] at hk
  exact ⟨k, hk⟩
theorem gp_set {A : Nat → Prop} {a k : Nat} {e0 e1 : va_E} (hD : va_D A (va_pl L f)) (ha : gH L f a e0) (hk : (va_pl L f)[k]? = some (a, e0)) : (va_pl L f).set k (a, e1) = va_pl L (va_up f a e1) :=
  va_pl_set (X := []) hD ha.1 (by rw [ha.2]; exact hk)
theorem gp_nL {H : Heap} (hP : va_P D vwCl (va_pl L f) H) {a : Nat} (h : H.size ≤ a) : a ∉ L := va_pl_fresh (X := []) hP h
theorem gp_new {A : Nat → Prop} {q : Nat} {e : va_E} (hD : va_D A (va_pl L f ++ [(q, e)])) : q ∉ L := va_pl_fresh2 (X := []) hD
theorem g_get (C : gC p l e R s m args below meth c s0 D cy L0 cc nL own) {idx ci k a : Nat} {fs : List Value} {v : Value} (d : decode cc pc = .ok (.getfield idx, 3)) (hw : gwF own idx ci k) (ha : gH L f a (.inr (ci, fs))) (hv : fs[k]? = some v) (hn : pc + 3 = n) (kk : G p l e R s m args below meth c Q D L0 nL L f ce sl n ls (v :: st)) : G p l e R s m args below meth c Q D L0 nL L f ce sl pc ls (.ref a :: st) := by
  intro H locs la hP hD hS hl
  subst hn
  obtain ⟨Cn, T, N, hc, hk, hin, hlk⟩ := hw
  obtain ⟨q0, hq⟩ := gp_at (X := []) (D9 := D) (H := H) ha
  have ht : ∀ w ∈ u_ws Cn T N, w.before args s = true := fun w h => C.wd (hin w h).1 (hin w h).2 args
  rcases hlk with hlk | ⟨host, hlk⟩
  · exact va_get (D := D) C.1 C.2.1 ht (fun w h => h) C.2.2.2.1 C.K hP q0 hq hc k hk (C.wd hlk rfl args) (fun _ h => h) hv d (kk H locs la hP hD hS hl)
  · exact va_getN (D := D) C.1 C.2.1 ht (fun w h => h) C.2.2.2.1 C.K hP q0 hq hc k hk (va_Nw.use rfl (C.nwF hlk)) (fun _ h => h) hv d (kk H locs la hP hD hS hl)
theorem g_put (C : gC p l e R s m args below meth c s0 D cy L0 cc nL own) {idx ci k a : Nat} {fs : List Value} {v : Value} {ty : FieldType} (d : decode cc pc = .ok (.putfield idx, 3)) (hw : gwP own idx ci k false ty) (ha : gH L f a (.inr (ci, fs))) (hv : narrow ty v = v ∧ fits ty v = true) (hl9 : k < fs.length) (hn : pc + 3 = n) (kk : G p l e R s m args below meth c Q D L0 nL L (va_up f a (.inr (ci, fs.set k v))) ce sl n ls (st)) : G p l e R s m args below meth c Q D L0 nL L f ce sl pc ls (v :: .ref a :: st) := by
  intro H locs la hP hD hS hl
  subst hn
  obtain ⟨Cn, T, N, ty0, hc, hk, hin, h1, h2, h3, h4, -, hlk⟩ := hw
  obtain ⟨q0, hq⟩ := gp_at (X := []) (D9 := D) (H := H) ha
  have ht : ∀ w ∈ u_ws Cn T N, w.before args s = true := fun w h => C.wd (hin w h).1 (hin w h).2 args
  rcases hlk with hlk | ⟨-, host, hlk⟩
  · refine va_put (D := D) C.1 C.2.1 ht (fun w h => h) ty0 h1 h2 C.2.2.2.1 C.K hP hD hS q0 hq hc k hk (C.wd hlk rfl args) (fun _ h => h) h3 h4 hv.1 hv.2 hl9 d (fun H1 locs1 hP1 hD1 hS1 => ?_)
    rw [gp_set hD ha hq] at hP1 hD1
    exact kk H1 locs1 la hP1 hD1 hS1 hl
  · refine va_putN (D := D) C.1 C.2.1 ht (fun w h => h) ty0 h1 h2 C.2.2.2.1 C.K hP hD hS q0 hq hc k hk (va_Nw.use rfl (C.nwF hlk)) (fun _ h => h) h3 h4 hv.1 hv.2 hl9 d (fun H1 locs1 hP1 hD1 hS1 => ?_)
    rw [gp_set hD ha hq] at hP1 hD1
    exact kk H1 locs1 la hP1 hD1 hS1 hl
theorem g_putF (C : gC p l e R s m args below meth c s0 D cy L0 cc nL own) {idx ci k a : Nat} {fs : List Value} {v : Value} {ty : FieldType} (d : decode cc pc = .ok (.putfield idx, 3)) (hw : gwP own idx ci k true ty) (hin9 : meth.name = "<init>") (ha : gH L f a (.inr (ci, fs))) (hv : narrow ty v = v ∧ fits ty v = true) (hl9 : k < fs.length) (hn : pc + 3 = n) (kk : G p l e R s m args below meth c Q D L0 nL L (va_up f a (.inr (ci, fs.set k v))) ce sl n ls (st)) : G p l e R s m args below meth c Q D L0 nL L f ce sl pc ls (v :: .ref a :: st) := by
  intro H locs la hP hD hS hl
  subst hn
  obtain ⟨Cn, T, N, ty0, hc, hk, hin, h1, h2, h3, h4, h5, hlk⟩ := hw
  obtain ⟨q0, hq⟩ := gp_at (X := []) (D9 := D) (H := H) ha
  have ht : ∀ w ∈ u_ws Cn T N, w.before args s = true := fun w h => C.wd (hin w h).1 (hin w h).2 args
  rcases hlk with hlk | ⟨h, -⟩
  · refine va_putF (D := D) C.1 C.2.1 ht (fun w h => h) ty0 h1 h2 C.2.2.2.1 C.K hP hD hS q0 hq hc k hk (C.wd hlk rfl args) (fun _ h => h) h3 hin9 (h5 rfl) h4 hv.1 hv.2 hl9 d (fun H1 locs1 hP1 hD1 hS1 => ?_)
    rw [gp_set hD ha hq] at hP1 hD1
    exact kk H1 locs1 la hP1 hD1 hS1 hl
  · cases h
theorem gj_clamp {j N : Nat} (hj : j < N) (hN : N < 2 ^ 31) : (nI j).toNatClampNeg = j := nI_clamp (Nat.lt_trans hj hN)
theorem g_iald (C : gC p l e R s m args below meth c s0 D cy L0 cc nL own) {a j N : Nat} {g : Nat → Int32} {i : Int32} (d : decode cc pc = .ok (.iaload, 1)) (ha : gH L f a (.inl (cy 0, N, .inl g))) (hi : i = nI j) (hj : j < N) (hN : N < 2 ^ 31) (hn : pc + 1 = n) (kk : G p l e R s m args below meth c Q D L0 nL L f ce sl n ls (.int (g j) :: st)) : G p l e R s m args below meth c Q D L0 nL L f ce sl pc ls (.int i :: .ref a :: st) := by
  intro H locs la hP hD hS hl
  subst hn
  subst hi
  obtain ⟨q0, hq⟩ := gp_at (X := []) (D9 := D) (H := H) ha
  refine va_iald C.1 C.2.1 C.K hP q0 0 hq rfl (vp_in_nI hj hN) d ?_
  rw [gj_clamp hj hN]
  exact kk H locs la hP hD hS hl
theorem g_aald (C : gC p l e R s m args below meth c s0 D cy L0 cc nL own) {a j N t : Nat} {g : Nat → Option Nat} {i : Int32} {ty : FieldType} (d : decode cc pc = .ok (.aaload, 1)) (ht : (gTy cy)[t]? = some (cy t, ty)) (hty : ty.isReference = true) (ha : gH L f a (.inl (cy t, N, .inr (.inr (.inr (.inr g)))))) (hi : i = nI j) (hj : j < N) (hN : N < 2 ^ 31) (hn : pc + 1 = n) (kk : G p l e R s m args below meth c Q D L0 nL L f ce sl n ls (va_rf (g j) :: st)) : G p l e R s m args below meth c Q D L0 nL L f ce sl pc ls (.int i :: .ref a :: st) := by
  intro H locs la hP hD hS hl
  subst hn
  subst hi
  obtain ⟨q0, hq⟩ := gp_at (X := []) (D9 := D) (H := H) ha
  have hin := vp_in_nI hj hN
  have hlt : (nI j).toNatClampNeg < N := by rw [gj_clamp hj hN]; exact hj
  refine W.aald (v := va_rf (g j)) (ty := ty) C.1 C.2.1 (hP q0 _ hq) ((C.K.2 t _ ht).1 N (fun j => va_rf (g j))) hty (fun q => by cases q) (by show ¬ (nI j < 0 ∨ (arrV _ _ _).slots.size ≤ _); rw [arrV_size]; exact hin) (by show (arrV _ _ _).slots[_]? = _; rw [arrV_read _ _ hlt, gj_clamp hj hN]) rfl rfl d ?_
  exact kk H locs la hP hD hS hl
theorem g_iast (C : gC p l e R s m args below meth c s0 D cy L0 cc nL own) {a j N : Nat} {g : Nat → Int32} {i : Int32} {x : Int32} (d : decode cc pc = .ok (.iastore, 1)) (ha : gH L f a (.inl (cy 0, N, .inl g))) (hi : i = nI j) (hj : j < N) (hN : N < 2 ^ 31) (hn : pc + 1 = n) (kk : G p l e R s m args below meth c Q D L0 nL L (va_up f a (.inl (cy 0, N, .inl (upd g j x)))) ce sl n ls (st)) : G p l e R s m args below meth c Q D L0 nL L f ce sl pc ls (.int x :: .int i :: .ref a :: st) := by
  intro H locs la hP hD hS hl
  subst hn
  subst hi
  obtain ⟨q0, hq⟩ := gp_at (X := []) (D9 := D) (H := H) ha
  refine va_iast C.1 C.2.1 C.K hP hD hS q0 0 hq rfl (vp_in_nI hj hN) d (fun H1 locs1 hP1 hD1 hS1 => ?_)
  rw [gj_clamp hj hN] at hP1 hD1
  rw [gp_set hD ha hq] at hP1 hD1
  exact kk H1 locs1 la hP1 hD1 hS1 hl
theorem g_aast (C : gC p l e R s m args below meth c s0 D cy L0 cc nL own) {a j N t ci v : Nat} {g : Nat → Option Nat} {i : Int32} {r : vw_C} {vs : List Value} (d : decode cc pc = .ok (.aastore, 1)) (ht : (gTy cy)[t]? = some (cy t, .object r.1)) (hc : vwCl[ci]? = some r) (ha : gH L f a (.inl (cy t, N, .inr (.inr (.inr (.inr g)))))) (hv : gH L f v (.inr (ci, vs))) (hi : i = nI j) (hj : j < N) (hN : N < 2 ^ 31) (hn : pc + 1 = n) (kk : G p l e R s m args below meth c Q D L0 nL L (va_up f a (.inl (cy t, N, .inr (.inr (.inr (.inr (va_up g j (some v)))))))) ce sl n ls (st)) : G p l e R s m args below meth c Q D L0 nL L f ce sl pc ls (.ref v :: .int i :: .ref a :: st) := by
  intro H locs la hP hD hS hl
  subst hn
  subst hi
  obtain ⟨q0, hq⟩ := gp_at (X := []) (D9 := D) (H := H) ha
  obtain ⟨q1, hq1⟩ := gp_at (X := []) (D9 := D) (H := H) hv
  refine va_astq C.1 C.2.1 C.K hP hD hS q0 t q1 ci hq ht hq1 hc (vp_in_nI hj hN) d (fun H1 locs1 hP1 hD1 hS1 => ?_)
  rw [gj_clamp hj hN] at hP1 hD1
  rw [gp_set hD ha hq] at hP1 hD1
  exact kk H1 locs1 la hP1 hD1 hS1 hl
theorem g_aastN (C : gC p l e R s m args below meth c s0 D cy L0 cc nL own) {a j N t : Nat} {g : Nat → Option Nat} {i : Int32} {Cn : String} (d : decode cc pc = .ok (.aastore, 1)) (ht : (gTy cy)[t]? = some (cy t, .object Cn)) (ha : gH L f a (.inl (cy t, N, .inr (.inr (.inr (.inr g)))))) (hi : i = nI j) (hj : j < N) (hN : N < 2 ^ 31) (hn : pc + 1 = n) (kk : G p l e R s m args below meth c Q D L0 nL L (va_up f a (.inl (cy t, N, .inr (.inr (.inr (.inr (va_up g j none))))))) ce sl n ls (st)) : G p l e R s m args below meth c Q D L0 nL L f ce sl pc ls (.null :: .int i :: .ref a :: st) := by
  intro H locs la hP hD hS hl
  subst hn
  subst hi
  obtain ⟨q0, hq⟩ := gp_at (X := []) (D9 := D) (H := H) ha
  refine va_astqN C.1 C.2.1 C.K hP hD hS q0 t hq ht (vp_in_nI hj hN) d (fun H1 locs1 hP1 hD1 hS1 => ?_)
  rw [gj_clamp hj hN] at hP1 hD1
  rw [gp_set hD ha hq] at hP1 hD1
  exact kk H1 locs1 la hP1 hD1 hS1 hl
theorem g_alen (C : gC p l e R s m args below meth c s0 D cy L0 cc nL own) {a t : Nat} {x : vp_A} {ty : FieldType} {v : Int32} (d : decode cc pc = .ok (.arraylength, 1)) (ht : (gTy cy)[t]? = some (cy t, ty)) (ha : gH L f a (.inl (cy t, x))) (hv : Int32.ofNat x.1 = v) (hn : pc + 1 = n) (kk : G p l e R s m args below meth c Q D L0 nL L f ce sl n ls (.int v :: st)) : G p l e R s m args below meth c Q D L0 nL L f ce sl pc ls (.ref a :: st) := by
  intro H locs la hP hD hS hl
  subst hn
  obtain ⟨q0, hq⟩ := gp_at (X := []) (D9 := D) (H := H) ha
  exact va_alen C.1 C.2.1 C.K hP q0 t hq ht hv d (kk H locs la hP hD hS hl)
theorem g_new (C : gC p l e R s m args below meth c s0 D cy L0 cc nL own) {idx ci N : Nat} {Cn : String} {T : u_T} {fs : List Value} (ty : Nat → FieldType) (d : decode cc pc = .ok (.new idx, 3)) (hc : vwCl[ci]? = some (Cn, T, N)) (hin : ∀ w ∈ u_ws Cn T N, w ∈ lw_tbl ∧ (w.onTables && w.keepsFace) = true) (hty : ∀ k, k < N → parseFieldDescriptor (T k).2.2.1 = some (ty k)) (hfs : ∀ j, j < N → defaultValue (ty j) = vp_V fs j) (w1 : Cond.classLink own idx Cn ∈ lw_tbl) (w2 : Cond.instantiable Cn N ∈ lw_tbl) (w3 : Cond.initialized Cn ∈ lw_tbl) (hR : ce + 1 ≤ R.cells ∧ sl + N ≤ R.slots) (hn : pc + 3 = n)
    (kk : ∀ q : Nat, q ∉ L → G p l e R s m args below meth c Q D L0 nL (L ++ [q]) (va_up f q (.inr (ci, fs))) (ce + 1) (sl + N) n ls (.ref q :: st)) : G p l e R s m args below meth c Q D L0 nL L f ce sl pc ls (st) := by
  intro H locs la hP hD hS hl
  subst hn
  have ht : ∀ w ∈ u_ws Cn T N, w.before args s = true := fun w h => C.wd (hin w h).1 (hin w h).2 args
  refine va_new (D := D) C.1 C.2.1 ht (fun w h => h) ty hty C.2.2.2.1 (C.wd w1 rfl args) (C.wd w2 rfl args) (C.wd w3 rfl args) C.K hP hD hS C.new hc hfs hR.1 hR.2 d (fun q H1 hP1 hD1 hS1 => ?_)
  have hq := gp_new hD1
  rw [va_pl_push hq] at hP1 hD1
  exact kk q hq H1 locs la hP1 hD1 hS1 hl
theorem g_newi (C : gC p l e R s m args below meth c s0 D cy L0 cc nL own) {k : Int32} {N : Nat} (d : decode cc pc = .ok (.newarray .int, 2)) (hk : k = nI N) (hN : N < 2 ^ 20) (w1 : Cond.arrayClass .int ∈ lw_tbl) (hR : ce + 1 ≤ R.cells ∧ sl + N ≤ R.slots) (hn : pc + 2 = n)
    (kk : ∀ q : Nat, q ∉ L → G p l e R s m args below meth c Q D L0 nL (L ++ [q]) (va_up f q (.inl (cy 0, N, .inl (fun _ => 0)))) (ce + 1) (sl + N) n ls (.ref q :: st)) : G p l e R s m args below meth c Q D L0 nL L f ce sl pc ls (.int k :: st) := by
  intro H locs la hP hD hS hl
  subst hn
  subst hk
  have hc31 : N < 2 ^ 31 := Nat.lt_trans hN (by decide)
  refine va_newa (atype := .int) (ty := .int) (a0 := (N, .inl (fun _ => 0))) C.1 C.2.1 (C.wa w1 args) rfl C.K hP hD hS C.new (fun cA => rfl) (nI_pos hc31) (nI_clamp hc31) (by have : N < 1048576 := hN; show N * 4 ≤ 536870912; omega) hR.1 hR.2 d (fun q cA H1 hK1 hP1 hD1 hS1 => ?_)
  have hq := gp_new hD1
  have e1 : cA = cy 0 := by
    have h1 : s.vm.findClass ("[" ++ (FieldType.int).toString) = some cA := (hK1.2 7 (cA, .int) rfl).2
    have h2 : s.vm.findClass ("[" ++ (FieldType.int).toString) = some (cy 0) := (hK1.2 0 (cy 0, .int) rfl).2
    exact Option.some.inj (h1.symm.trans h2)
  subst e1
  rw [va_pl_push hq] at hP1 hD1
  exact kk q hq H1 locs la hP1 hD1 hS1 hl
theorem g_newq (C : gC p l e R s m args below meth c s0 D cy L0 cc nL own) {k : Int32} {idx N t : Nat} {Cn : String} (d : decode cc pc = .ok (.anewarray idx, 3)) (ht : (gTy cy)[t]? = some (cy t, .object Cn)) (hk : k = nI N) (hN : N < 2 ^ 20) (w1 : Cond.classLink own idx Cn ∈ lw_tbl) (w2 : Cond.arrayOver (.object Cn) ∈ lw_tbl) (hR : ce + 1 ≤ R.cells ∧ sl + N ≤ R.slots) (hn : pc + 3 = n)
    (kk : ∀ q : Nat, q ∉ L → G p l e R s m args below meth c Q D L0 nL (L ++ [q]) (va_up f q (.inl (cy t, N, .inr (.inr (.inr (.inr (fun _ => none))))))) (ce + 1) (sl + N) n ls (.ref q :: st)) : G p l e R s m args below meth c Q D L0 nL L f ce sl pc ls (.int k :: st) := by
  intro H locs la hP hD hS hl
  subst hn
  subst hk
  have hc31 : N < 2 ^ 31 := Nat.lt_trans hN (by decide)
  have hov : va_AO Cn s := by
    obtain ⟨-, -, -, -, -, ⟨-, ⟨a0, h9⟩, -⟩, ⟨hW, -⟩, -⟩ := C
    have h8 : va_AO Cn s0 := (h9 _ w2 : (Cond.arrayOver (.object Cn)).before a0 s0 = true)
    exact va_AO.moved hW.alike h8
  refine va_newq (C := Cn) C.1 C.2.1 C.2.2.2.1 (C.wd w1 rfl args) hov C.K hP hD hS C.new (nI_pos hc31) (nI_clamp hc31) (by have : N < 1048576 := hN; omega) hR.1 hR.2 d (fun q cA H1 hK1 hP1 hD1 hS1 => ?_)
  have hq := gp_new hD1
  have e1 : cA = cy t := by
    obtain ⟨-, -, -, -, -, h1⟩ := (hK1.2 7 (cA, .object Cn) rfl).2
    obtain ⟨-, -, -, -, -, h2⟩ := (C.K.2 t _ ht).2
    exact Option.some.inj (h1.symm.trans h2)
  subst e1
  rw [va_pl_push hq] at hP1 hD1
  exact kk q hq H1 locs la hP1 hD1 hS1 hl
theorem g_objInit (C : gC p l e R s m args below meth c s0 D cy L0 cc nL own) {idx a : Nat} (d : decode cc pc = .ok (.invokespecial idx, 3)) (w1 : Cond.methodLink own idx Lib.objectInit ∈ lw_tbl) (w2 : Cond.instanceMethod Lib.objectInit ∈ lw_tbl) (w3 : Cond.code Lib.objectInit ⟨#[0xb1]⟩ 1 none ∈ lw_tbl) (hR : 1 ≤ R.frames ∧ (st.map fun v => v.category).sum + 12 ≤ R.locals) (hn : pc + 3 = n) (kk : G p l e R s m args below meth c Q D L0 nL L f ce sl n ls (st)) : G p l e R s m args below meth c Q D L0 nL L f ce sl pc ls (.ref a :: st) := by
  intro H locs la hP hD hS hl
  subst hn
  refine W.objInit C.1 C.2.1 C.2.2.2.1 (C.wd w1 rfl args) (C.wd w2 rfl args) (C.wd w3 rfl args) rfl (by rw [C.2.2.1]; exact hl.1) rfl d hR.1 (by show 2 * 0 + _ + 12 ≤ _; omega) ?_
  exact W.eq (g2 := F0 m (pc + 3) la st) rfl (kk H locs la hP hD hS hl)
end GHEAP

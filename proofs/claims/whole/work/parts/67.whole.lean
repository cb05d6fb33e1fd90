/-! THE CLAIM OUT OF ONE WALK OF THE LAW'S BODY. Your part is whole_start (and what it stands on); all else here is the same for every law, but numbers. -/
def R_law : String := "LayeredImagesLaw"
def lw_P (b : Addr) (xs : List Int32) (args : Array Value) (s : State) : Prop := args = #[.ref b] ∧ s.IntsAt b xs ∧ xs.length ≤ 2048 ∧ (Jvm.Cond.and given_1 narrow_1).before args s = true
def lw_Q (_ : Array Value) (s : State) (o : Outcome) (t : State) : Prop := o = .returned (some (.int 1)) ∧ Framed s o t [] 601024 7293034
def lw_Z (below : List Frame) (a : Array Value) (s : State) : State → Prop := fun t => ∃ o, t.status = .running ∧ Ended t below o ∧ lw_Q a s o t
/-- the law's own end, with 1 on the stack, nothing written that was there before, its room as the claim has it -/
theorem lw_ret {p : Program} {l : Launch} {e : Env} {s : State} {m : MethodId} {below : List Frame} {meth : Method} {c : Code} {b : Nat} (hx : p.tables.exec = Jvm.exec) (hb : c.code = code) (hr : meth.sig.returnType = ret) (hlocks : meth.locks = false) {pc : Nat} {H : Heap} {ls : Array Slot} (hdg : decode code pc = .ok (.ireturn, 1)) : W p l e room_1 s m #[Value.ref b] below meth c H [] 601024 7293034 (lw_Z below #[Value.ref b] s) (F0 m pc ls [.int 1]) := by
  intro T hT X
  obtain ⟨fs, hret, hrun, hended, hW, hframe⟩ := X.leave (v := some (.int 1)) (hlocks := hlocks) (fun h => by rw [hr] at h; cases h)
  have hmeth' : T.vm.method? m = some meth := X.method'
  refine ⟨T.setFrames fs, ?_, .returned (some (.int 1)), hrun, hended, rfl, ⟨_, rfl⟩, hW, hframe⟩
  jvm_step X.here [X.here.top, hx, hb, hdg, hmeth', hr, ret, narrow_b1]
  (try refine ⟨rfl, ?_⟩); (try refine ⟨rfl, ?_⟩)
  first | (intro acts; rw [hret _ acts rfl rfl rfl]) | rw [hret _ _ rfl rfl rfl]
  exact Steps.refl _
/-- what holds at the law's entry: the machine, the code, the tables' words (any of lw_tbl by 'hts w (by decide +kernel)'), the script of L ints xs at the cell b, what the Statement gives of the start (any of its parts by flat_of_before) -/
def lw_At (p : Program) (s : State) (m : MethodId) (meth : Method) (c : Code) (b L : Nat) (xs : Nat → Int32) : Prop :=
  p.tables.exec = Jvm.exec ∧ c.code = code ∧ meth.sig.returnType = ret ∧ c.maxLocals = 7 ∧ s.vm.findClass R_law = some m.cls ∧ (∀ w ∈ lw_tbl, w.before #[Value.ref b] s = true) ∧ va_X b L xs s s.heap ∧ b < s.heap.size ∧ meth.locks = false ∧ (Jvm.Cond.and given_1 narrow_1).before #[Value.ref b] s = true
-- ===== YOUR PART BEGINS =====
-- the start of the law, as the G layer has it
def lw_sel : Cond → Option (String × Nat × String)
  | .stringRef o k tx => some (o, k, tx)
  | _ => none
def lw_strs : List (String × Nat × String) := [("LayeredImages", 253, "there is none of this number"), ("LayeredImages", 255, "the content is out of range"), ("LayeredImages", 261, "there is no such recipe"), ("LayeredImages", 265, "the recipe is full"), ("LayeredImages", 76, "from and to are the same path"), ("LayeredImages", 81, "the value is out of range"), ("LayeredImages", 257, "a build goes on"), ("LayeredImages", 259, "too many layers were made"), ("LayeredImages$Store", 56, "there is no room for a layer"), ("LayeredImages", 116, "no build goes on"), ("LayeredImages", 190, "no build is complete, or its layer is gone"), ("LayeredImages", 197, "the image has no such place"), ("LayeredImages", 200, "the tag stands for no layer"), ("LayeredImages", 263, "there is no such layer, or it is gone")]
set_option maxRecDepth 100000 in
theorem lw_strs_ok : lw_tbl.filterMap lw_sel = lw_strs := by decide +kernel
theorem lw_arr1 {s : State} {args : Array Value} {ty : FieldType} (h : (Cond.arrayClass ty).before args s = true) : ∃ cA : ClassId, ArrOfT s cA ty ∧ s.vm.findClass ("[" ++ ty.toString) = some cA := by
  obtain ⟨c, k, comp, h1, h2, h3⟩ := Cond.arrayClass_spec h
  exact ⟨c, fun n z => ⟨fun k h => (by cases h), k, h2, comp, h3⟩, h1⟩
theorem lw_arr2 {s : State} {args : Array Value} {C : String} (h : (Cond.arrayOver (.object C)).before args s = true) : ∃ cA : ClassId, ArrOfT s cA (.object C) ∧ va_RA s cA (.object C) := by
  obtain ⟨comp, c, k, h1, -, h3, h4, h5⟩ := Cond.arrayOver_spec h
  exact ⟨c, fun n z => ⟨fun k h => (by cases h), k, h3, comp, h4⟩, k, comp, h3, h4, h1, h5⟩
theorem lw_arr3 {s : State} {args : Array Value} (h : (Cond.arrayOver (.array .int)).before args s = true) : ∃ cA : ClassId, ArrOfT s cA (.array .int) ∧ va_RA s cA (.array .int) := by
  obtain ⟨comp, c, k, -, -, h3, h4, h5⟩ := Jvm.Stand.arrayOver_specB h
  exact ⟨c, fun n z => ⟨fun k h => (by cases h), k, h3, comp, h4⟩, h5⟩
set_option maxRecDepth 100000 in
theorem lw_ex : ∀ q ∈ lw_strs, Cond.exactly (.string q.1 q.2.1) "java/lang/String" ∈ flatC (Jvm.Cond.and given_1 narrow_1) := by decide +kernel
theorem lw_gE {s : State} {args : Array Value} (hts : ∀ w ∈ lw_tbl, w.before args s = true) (hgv : (Jvm.Cond.and given_1 narrow_1).before args s = true) : ∃ (D : va_G) (cy : Nat → ClassId), gE s D cy := by
  have hs := flat_of_before _ hgv
  obtain ⟨c0, i0, hK0⟩ := u_known (C := RX0) (T := TX0) (N := 3) (n := 3) hts (fun w h => (uX0 w h).1) (hts (.instantiable RX0 3) (List.mem_of_getElem? (i := 110) (by decide +kernel)))
  obtain ⟨c1, i1, hK1⟩ := u_known (C := RX1) (T := TX1) (N := 3) (n := 3) hts (fun w h => (uX1 w h).1) (hts (.instantiable RX1 3) (List.mem_of_getElem? (i := 366) (by decide +kernel)))
  obtain ⟨c2, i2, hK2⟩ := u_known (C := RX2) (T := TX2) (N := 8) (n := 8) hts (fun w h => (uX2 w h).1) (hts (.instantiable RX2 8) (List.mem_of_getElem? (i := 472) (by decide +kernel)))
  obtain ⟨c3, i3, hK3⟩ := u_known (C := RX3) (T := TX3) (N := 3) (n := 3) hts (fun w h => (uX3 w h).1) (hts (.instantiable RX3 3) (List.mem_of_getElem? (i := 116) (by decide +kernel)))
  obtain ⟨c4, i4, hK4⟩ := u_known (C := RX4) (T := TX4) (N := 2) (n := 2) hts (fun w h => (uX4 w h).1) (hts (.instantiable RX4 2) (List.mem_of_getElem? (i := 94) (by decide +kernel)))
  obtain ⟨c5, i5, hK5⟩ := u_known (C := RX5) (T := TX5) (N := 8) (n := 8) hts (fun w h => (uX5 w h).1) (hts (.instantiable RX5 8) (List.mem_of_getElem? (i := 80) (by decide +kernel)))
  obtain ⟨c6, i6, hK6⟩ := u_known (C := RX6) (T := TX6) (N := 32) (n := 32) hts (fun w h => (uX6 w h).1) (hts (.instantiable RX6 32) (List.mem_of_getElem? (i := 786) (by decide +kernel)))
  obtain ⟨a0, hA0⟩ := lw_arr1 (ty := .int) (hts (.arrayClass .int) (List.mem_of_getElem? (i := 108) (by decide +kernel)))
  obtain ⟨a1, hA1⟩ := lw_arr1 (ty := .boolean) (hts (.arrayClass .boolean) (List.mem_of_getElem? (i := 888) (by decide +kernel)))
  obtain ⟨a2, hA2⟩ := lw_arr1 (ty := .long) (hts (.arrayClass .long) (List.mem_of_getElem? (i := 1096) (by decide +kernel)))
  obtain ⟨a3, hA3⟩ := lw_arr3 (hts (.arrayOver (.array .int)) (List.mem_of_getElem? (i := 88) (by decide +kernel)))
  obtain ⟨a4, hA4⟩ := lw_arr2 (C := RX3) (hts (.arrayOver (.object RX3)) (List.mem_of_getElem? (i := 90) (by decide +kernel)))
  obtain ⟨a5, hA5⟩ := lw_arr2 (C := RX2) (hts (.arrayOver (.object RX2)) (List.mem_of_getElem? (i := 92) (by decide +kernel)))
  obtain ⟨a6, hA6⟩ := lw_arr2 (C := RX1) (hts (.arrayOver (.object RX1)) (List.mem_of_getElem? (i := 122) (by decide +kernel)))
  refine ⟨(fun k => if k = 0 then c0 else if k = 1 then c1 else if k = 2 then c2 else if k = 3 then c3 else if k = 4 then c4 else if k = 5 then c5 else c6, fun k => if k = 0 then i0 else if k = 1 then i1 else if k = 2 then i2 else if k = 3 then i3 else if k = 4 then i4 else if k = 5 then i5 else i6), fun k => if k = 0 then a0 else if k = 1 then a1 else if k = 2 then a2 else if k = 3 then a3 else if k = 4 then a4 else if k = 5 then a5 else a6, ⟨fun k q hq => ?_, fun k q hq => ?_⟩, ⟨args, hts⟩, ⟨?_, ?_⟩, fun o k tx hw => ?_⟩
  · match k, hq with
    | 0, hq => cases hq; exact hK0
    | 1, hq => cases hq; exact hK1
    | 2, hq => cases hq; exact hK2
    | 3, hq => cases hq; exact hK3
    | 4, hq => cases hq; exact hK4
    | 5, hq => cases hq; exact hK5
    | 6, hq => cases hq; exact hK6
    | k + 7, hq => exact nomatch (show (none : Option vw_C) = some q from hq)
  · match k, hq with
    | 0, hq => cases hq; exact hA0
    | 1, hq => cases hq; exact hA1
    | 2, hq => cases hq; exact hA2
    | 3, hq => cases hq; exact hA3
    | 4, hq => cases hq; exact hA4
    | 5, hq => cases hq; exact hA5
    | 6, hq => cases hq; exact hA6
    | k + 7, hq => exact nomatch (show (none : Option (ClassId × FieldType)) = some q from hq)
  · exact vx_Zqof (hts (.laysStatic Bundle.tN "UNASSIGNED_STACK" Bundle.steD) (List.mem_of_getElem? (i := 254) (by decide +kernel))) (hts (.initialized Bundle.tN) (List.mem_of_getElem? (i := 71) (by decide +kernel))) (hs _ (by decide +kernel)) (fun a ha h => absurd ha (Nat.not_lt.mpr h))
  · exact vx_Zqof (hts (.laysStatic Bundle.tN "SUPPRESSED_SENTINEL" Bundle.listD) (List.mem_of_getElem? (i := 256) (by decide +kernel))) (hts (.initialized Bundle.tN) (List.mem_of_getElem? (i := 71) (by decide +kernel))) (hs _ (by decide +kernel)) (fun a ha h => absurd ha (Nat.not_lt.mpr h))
  · have hm : (o, k, tx) ∈ lw_strs := by
      rw [← lw_strs_ok]
      exact List.mem_filterMap.mpr ⟨_, hw, rfl⟩
    obtain ⟨a, -, -, -, ha, -⟩ := Cond.exactly_spec (hs _ (lw_ex _ hm))
    exact ⟨a, vk_R.of (hts _ hw) ha⟩
theorem lw_gN {s : State} {args : Array Value} (hgv : (Jvm.Cond.and given_1 narrow_1).before args s = true) : gN9 s := by
  have hs := flat_of_before _ hgv
  exact ⟨va_Nc.of (hs (.not (.castable xA xI)) (by decide +kernel)), va_Nc.of (hs (.not (.castable xS xI)) (by decide +kernel)), va_Nc.of (hs (.not (.castable xS xA)) (by decide +kernel))⟩
/-- YOUR PART: from the entry, for every script of at most 2048 ints, the law comes to its end with true ('hflags': the launch's flags, for a law that throws: no stack traces) -/
theorem whole_start {p : Program} {e : Env} {s : State} {m : MethodId} {below : List Frame} {meth : Method} {c : Code} (l : Launch) (hflags : l.flags = flags0) {b L : Nat} {xs : Nat → Int32} (hL : L ≤ 2048) (C0 : lw_At p s m meth c b L xs) : W p l e room_1 s m #[Value.ref b] below meth c s.heap [] 0 0 (lw_Z below #[Value.ref b] s) (entryFrame m ([Value.ref b] : List Value).toArray 7) := by
  obtain ⟨hx, hb, hr, hml, hown, hts, hX, hbl, hlocks, hgv⟩ := id C0
  have hst : l.stackTraces = false := by
    unfold Launch.stackTraces
    rw [hflags]
    decide +kernel
  obtain ⟨D, cy, hE⟩ := lw_gE hts hgv
  have hN := lw_gN hgv
  have C : gC p l e room_1 s m #[Value.ref b] below meth c s D cy [] code 7 RL := ⟨hx, hb, hml, hown, hlocks, hE, ⟨State.WarmedH.refl s, Nat.le_refl _, fun _ _ => rfl, fun a h => absurd h List.not_mem_nil⟩, hst⟩
  have hfin : ∀ (L1 : List Nat) (f1 : gF) (ce sl : Nat) (ls : List (Option Value)) (st : List Value), True := fun _ _ _ _ _ _ => trivial
  clear hfin
  have hfin : ∀ (L1 : List Nat) (f1 : gF) (ls : List (Option Value)) (ce sl : Nat), ce ≤ 601024 → sl ≤ 7293034 → G p l e room_1 s m #[Value.ref b] below meth c (lw_Z below #[Value.ref b] s) D [] 7 L1 f1 ce sl 2027 ls [] := by
    intro L1 f1 ls ce sl h1 h2
    refine g_iconst (n := 2028) (v := 1) C dL_law_2027 rfl rfl ?_
    intro H locs la hP hD hS hl
    refine va_forget (fun q hq => (hS.2.2 q hq).resolve_left List.not_mem_nil) ?_
    exact W.widen h1 h2 (lw_ret hx hb hr hlocks dL_law_2028)
  have K : G p l e room_1 s m #[Value.ref b] below meth c (lw_Z below #[Value.ref b] s) D [] 7 [] (fun _ => .inr (0, [])) 0 0 0 [some (.ref b), none, none, none, none, none, none] [] := by
    refine g_new (n := 3) (ci := 5) (fs := D5) C tyX5 dL_law_0 rfl uX5 tyX5_ok hD5 (List.mem_of_getElem? (i := 79) (by decide +kernel)) (List.mem_of_getElem? (i := 80) (by decide +kernel)) (List.mem_of_getElem? (i := 65) (by decide +kernel)) ⟨by decide, by decide⟩ rfl (fun co hco => ?_)
    refine g_dup (n := 4) C dL_law_3 rfl rfl ?_
    refine g_I (n := 7) (rest := [_]) C (k5_init hE hst gH.new) dL_law_4 kM_X5_init kL_L_103 kI_X5_init rfl rfl (Nat.le_of_ble_eq_true rfl) ⟨by decide, by decide⟩ ⟨by decide, by decide⟩ rfl (fun v9 Lc f9 hq => ?_)
    obtain ⟨rfl, hcw⟩ := hq
    refine G.sk (st' := [_]) rfl ?_
    refine g_astore_n (n := 8) (ls' := [_, _, _, _, _, _, _]) C dL_law_7 (Or.inr ⟨_, rfl⟩) rfl (by decide) rfl ?_
    refine g_new (n := 11) (ci := 6) (fs := D6) C tyX6 dL_law_8 rfl uX6 tyX6_ok hD6 (List.mem_of_getElem? (i := 785) (by decide +kernel)) (List.mem_of_getElem? (i := 786) (by decide +kernel)) (List.mem_of_getElem? (i := 70) (by decide +kernel)) ⟨by decide, by decide⟩ rfl (fun mo hmo => ?_)
    refine G.swap ?_
    refine g_dup (n := 12) C dL_law_11 rfl rfl ?_
    refine g_I (n := 15) (rest := [_]) C ((k6_init hE hst (L := [mo]) (⟨List.mem_singleton.mpr rfl, va_up_self _ _ _⟩)).fr Lc) dL_law_12 kM_X6_init kL_L_106 kI_X6_init rfl rfl (Nat.le_of_ble_eq_true rfl) ⟨by decide, by decide⟩ ⟨by decide, by decide⟩ rfl (fun v8 L8 f8 hq => ?_)
    obtain ⟨Lm, f1, ⟨rfl, ad, hm⟩, rfl, e1, e2⟩ := hq
    have hcw8 := hcw.ext (f' := f8) (fun a ha => (e2 a ha).trans (va_up_ne _ _ (fun z => hmo (z ▸ ha))))
    have hm8 := hm.ext (fun a ha => (e1 a ha).1)
    refine G.swap ?_
    refine G.sk (st' := [_]) rfl ?_
    refine g_astore_n (n := 16) (ls' := [_, _, _, _, _, _, _]) C dL_law_15 (Or.inr ⟨_, rfl⟩) rfl (by decide) rfl ?_
    refine g_iconst (n := 17) (v := nI 1) C dL_law_16 rfl rfl ?_
    refine g_newl (n := 19) C dL_law_17 rfl (by decide) (List.mem_of_getElem? (i := 1096) (by decide +kernel)) ⟨by decide, by decide⟩ rfl (fun q9 hq9 => ?_)
    have hcw9 := hcw8.ext (f' := va_up f8 q9 (.inl (cy 2, 1, .inr (.inl (fun _ => 0))))) (fun a ha => va_up_ne _ _ (fun z => hq9 (z ▸ List.mem_append_left _ ha)))
    have hm9 := hm8.ext (f' := va_up f8 q9 (.inl (cy 2, 1, .inr (.inl (fun _ => 0))))) (fun a ha => va_up_ne _ _ (fun z => hq9 (z ▸ List.mem_append_right _ ha)))
    refine G.swap3 ?_
    refine g_astore_n (n := 20) (ls' := [_, _, _, _, _, _, _]) C dL_law_19 (Or.inr ⟨_, rfl⟩) rfl (by decide) rfl ?_
    refine g_iconst (n := 21) (v := nI 0) C dL_law_20 rfl rfl ?_
    refine g_istore (n := 23) (ls' := [_, _, _, _, _, _, _]) C dL_law_21 rfl (by decide) rfl ?_
    exact G.mono (ce' := 46) (sl' := 10486) (by decide) (by decide) (lw_loop C hN hX hbl hL (fun j Lc f A I o5 o6 hj hw => hfin _ _ _ _ _ (by omega) (by omega)) ⟨hcw9, ⟨_, va_up_self _ _ _⟩, ad, hm9⟩)
  rw [lg_entry_eq]
  exact K s.heap [] _ (fun k q h => (nomatch (show (none : Option (Nat × va_E)) = some q from h))) ⟨fun i j p q h => (nomatch (show (none : Option (Nat × va_E)) = some p from h)), fun k q h => (nomatch (show (none : Option (Nat × va_E)) = some q from h))⟩ va_S.rf (gL.entry (av := [.ref b]) (n := 7) (fun v hv => by rw [List.mem_singleton.mp hv]; rfl) (Nat.le_of_ble_eq_true rfl))
-- ===== YOUR PART ENDS =====
set_option maxHeartbeats 4000000 in
theorem lw_walk (l : Launch) (hflags : l.flags = flags0) (b : Addr) (xs : List Int32) : MetFree l x (headSpec (Jvm.Cond.code x code maxLocals ret :: tables_1) room_1) (lw_P b xs) (fun _ _ _ _ _ => True) lw_Q := by
  refine MetFree.of_bodyS (code := code) (maxLocals := maxLocals) (ret := ret) (by decide) ?_ ?_
  · intro args s m h hn
    obtain ⟨meth, c, h1, h2, h3, h4, h5, h6, -, -⟩ := Cond.code_spec hn (atoms_spec (ws := Jvm.Cond.code x code maxLocals ret :: tables_1) h _ List.mem_cons_self)
    exact ⟨meth, c, h1, h2, h3, h4, h5, h6⟩
  · intro p e s m args below meth c s₁ B hml0 hP _
    obtain ⟨rfl, hx, hbd, hgv⟩ := hP
    obtain ⟨scr, harrAt, hlist, hof, hsmall⟩ := hx
    obtain ⟨hcb, hkn, -, -⟩ := State.arrayAt?_spec harrAt
    have hown : s.vm.findClass R_law = some m.cls := findClass_of_methodNamed B.named
    have hts0 : ∀ c ∈ (Jvm.Cond.code x code maxLocals ret :: tables_1), c.before #[Value.ref b] s = true := atoms_spec (ws := Jvm.Cond.code x code maxLocals ret :: tables_1) B.pre
    have hts : ∀ w ∈ lw_tbl, w.before #[Value.ref b] s = true := k2_hts_sels lw_privs (fun w hw => hts0 w (List.mem_cons_of_mem _ hw)) lw_privs_ok
    have hml : c.maxLocals = 7 := B.maxLocals_eq (hts0 _ List.mem_cons_self)
    have X₀ : Stand p l e room_1 s m #[Value.ref b] below meth c s₁ [] 0 0 := Stand.of_body B
    have hh0 : s₁.heap = s.heap := by rw [B.state]; rfl
    have hsz : scr.slots.size = xs.length := by rw [← Array.length_toList, hlist, List.length_map]
    have hval : ∀ j : Nat, j < xs.length → scr.slots[j]? = some (.int (xs.getD j 0)) := fun j hj => by
      rw [← Array.getElem?_toList, hlist]
      simp [hj]
    have hbl : b < s.heap.size := (Array.getElem?_eq_some_iff.mp hcb).1
    have hX : va_X b xs.length (fun j => xs.getD j 0) s s.heap := ⟨scr, hcb, hof, hkn, hsz, hval⟩
    have K : W p l e room_1 s m #[Value.ref b] below meth c s₁.heap [] 0 0 (lw_Z below #[Value.ref b] s) (entryFrame m ([Value.ref b] : List Value).toArray 7) := by
      rw [hh0]
      exact whole_start l hflags hbd ⟨B.exec, B.bytes, B.returns, hml, hown, hts, hX, hbl, B.notSynchronized, hgv⟩
    obtain ⟨t, a1, o, b1, b2, b3⟩ := K s₁ rfl X₀
    exact ⟨t, o, a1, b1, b2, b3⟩
theorem lw_pre_spec {args : Array Value} {s : State} (h : (Jvm.Cond.and given_1 narrow_1).before args s = true) (hr : rest_1_c.before args s = true) : ∃ (b : Addr) (xs : List Int32), lw_P b xs args s := by
  have hs := flat_of_before _ h
  have hq := flat_of_before _ hr
  have hc : (Cond.count 1).before args s = true := hs _ (by decide +kernel)
  have harr : (Cond.arrayOf (.arg 0) .int).before args s = true := hs _ (by decide +kernel)
  have hle : (Cond.le (.length (.arg 0)) (.int 2048)).before args s = true := hs _ (by decide +kernel)
  have hlen : (Cond.isInt (.length (.arg 0))).before args s = true := hq _ (by decide +kernel)
  have hall : (Cond.all (.arg 0) (.isInt (.elem (.arg 0) (.index 0)))).before args s = true := hq _ (by decide +kernel)
  obtain ⟨b, xs, hb, hx⟩ := State.ints_of_pre rfl harr hlen hall
  have hsm : xs.length < 2 ^ 31 := hx.choose_spec.2.2.2
  have hev : (Term.length (.arg 0)).eval args s none [] s = some (.int xs.length.toInt32) := hx.length_eval hb
  have hv := Cond.le_ints hev (show (Term.int 2048).eval args s none [] s = some (.int 2048) from rfl)
  have hd : xs.length.toInt32 ≤ 2048 := by
    simpa [Cond.before, Cond.holds, hv] using hle
  have hN : xs.length ≤ 2048 := (Int32.ofNat_le_ofNat hsm (by decide)).mp (show Int32.ofNat xs.length ≤ Int32.ofNat 2048 from hd)
  exact ⟨b, xs, Cond.one_arg hc (show args[0]? = some (.ref b) from hb), hx, hN, h⟩
theorem lw_comes (l : Launch) (hflags : l.flags = flags0) : Comes l x (Jvm.Cond.code x code maxLocals ret :: tables_1) room_1 (fun tb e args s => Calls_1 tb e args s ∧ rest_1 tb e args s ∧ Pre_1 tb e args s)
    (fun _ _ args s o t => lw_Q args s o t) := by
  intro p e ha hc hk s m args below hf hfit hheap happ hpre
  obtain ⟨b, xs, hP⟩ := lw_pre_spec hpre.2.2 hpre.2.1
  obtain ⟨k, o, h1, h2, h3, hQ⟩ := lw_walk l hflags b xs p e ha hc hk s m args below hf ((Spec.applies_iff_loose hf).mp happ).1 hP trivial
  exact ⟨k, o, h1, h2, h3, hQ⟩
theorem lw_frame {s t : State} {o : Outcome} {args : Array Value} (h : Framed s o t [] 601024 7293034) :
    Framed s o t (fieldLocs frame_1_writes args s ++ arrayLocs frame_1_arrays args s ++ staticLocs frame_1_statics s) 601024 7293034 := h
theorem lw_limb (L : Cond) (hL : ∀ (args : Array Value) (s t : State), L.after args s (.returned (some (.int 1))) t = true) :
    ArmFor flags0 classFile x code maxLocals ret World_1 tables_1 room_1 Calls_1 rest_1 Pre_1
      (fun tb e a s o t => postC L tb e a s o t ∧ Framed s o t (fieldLocs frame_1_writes a s ++ arrayLocs frame_1_arrays a s ++ staticLocs frame_1_statics s) 601024 7293034) := by
  intro l hflags _ _ p e ha hc hk s m args below hf hfit hheap happ hpre
  obtain ⟨k, o, h1, h2, h3, rfl, hF⟩ := lw_comes l hflags p e ha hc hk s m args below hf hfit hheap happ hpre
  exact ⟨k, _, h1, h2, h3, hL args s _, lw_frame hF⟩
theorem i_vc : Claimed_1_1 ∧ Claimed_1_2 := ⟨lw_limb limb_1_1 (fun args s t => by simp [limb_1_1, Cond.after, Cond.holds, Cond.value]), lw_limb limb_1_2 (fun args s t => Cond.after_iff.mpr (by
  first | (rw [show limb_1_2 = Cond.eq .result (.int 1) from rfl, Cond.eq_ints (x := 1) (y := 1) rfl rfl]; simp; done) | (simp [limb_1_2, Cond.value, Term.eval]; done)))⟩

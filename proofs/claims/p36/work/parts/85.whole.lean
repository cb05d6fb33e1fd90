/-! THE CLAIM OUT OF ONE WALK OF THE LAW'S BODY. Your part is whole_start (and what it stands on); all else here is the same for every law, but numbers. -/
def R_law : String := "LayeredImagesLaw"
def lw_P (b : Addr) (xs : List Int32) (args : Array Value) (s : State) : Prop := args = #[.ref b] ∧ s.IntsAt b xs ∧ xs.length ≤ 260 ∧ (Jvm.Cond.and given_1 narrow_1).before args s = true
def lw_Q (_ : Array Value) (s : State) (o : Outcome) (t : State) : Prop := o = .returned (some (.int 1)) ∧ Framed s o t [] 863415 6511222
def lw_Z (below : List Frame) (a : Array Value) (s : State) : State → Prop := fun t => ∃ o, t.status = .running ∧ Ended t below o ∧ lw_Q a s o t
/-- the law's own end, with 1 on the stack, nothing written that was there before, its room as the claim has it -/
theorem lw_ret {p : Program} {l : Launch} {e : Env} {s : State} {m : MethodId} {below : List Frame} {meth : Method} {c : Code} {b : Nat} (hx : p.tables.exec = Jvm.exec) (hb : c.code = code) (hr : meth.sig.returnType = ret) (hlocks : meth.locks = false) {pc : Nat} {H : Heap} {ls : Array Slot} (hdg : decode code pc = .ok (.ireturn, 1)) : W p l e room_1 s m #[Value.ref b] below meth c H [] 863415 6511222 (lw_Z below #[Value.ref b] s) (F0 m pc ls [.int 1]) := by
  intro T hT X
  obtain ⟨fs, hret, hrun, hended, hW, hframe⟩ := X.leave (v := some (.int 1)) (hlocks := hlocks) (fun h => by rw [hr] at h; cases h)
  have hmeth' : T.vm.method? m = some meth := X.method'
  refine ⟨T.setFrames fs, ?_, .returned (some (.int 1)), hrun, hended, rfl, ⟨_, rfl⟩, hW, hframe⟩
  jvm_step X.here [X.here.top, hx, hb, hdg, hmeth', hr, ret, narrow_b1]
  (try refine ⟨rfl, ?_⟩); (try refine ⟨rfl, ?_⟩)
  first | (intro acts; rw [hret _ acts rfl rfl rfl]) | rw [hret _ _ rfl rfl rfl]
  exact Steps.refl _
/-- what holds at the law's entry: the machine, the code, the tables' words (any of lw_tbl by 'hts w (by decide +kernel)'), the script of L ints xs at the cell b, what the Statement gives of the start (any of its parts by flat_of_before) -/
def lw_At (p : Program) (s : State) (m : MethodId) (meth : Method) (c : Code) (b L : Nat) (xs : Nat → Int32) : Prop :=
  p.tables.exec = Jvm.exec ∧ c.code = code ∧ meth.sig.returnType = ret ∧ c.maxLocals = 5 ∧ s.vm.findClass R_law = some m.cls ∧ (∀ w ∈ lw_tbl, w.before #[Value.ref b] s = true) ∧ va_X b L xs s s.heap ∧ b < s.heap.size ∧ meth.locks = false ∧ (Jvm.Cond.and given_1 narrow_1).before #[Value.ref b] s = true
-- ===== YOUR PART BEGINS =====
-- the start of the law, as the G layer has it
def lw_sel : Cond → Option (String × Nat × String)
  | .stringRef o k tx => some (o, k, tx)
  | _ => none
def lw_strs : List (String × Nat × String) := [("LayeredImages", 253, "there is none of this number"), ("LayeredImages", 255, "the content is out of range"), ("LayeredImages", 261, "there is no such recipe"), ("LayeredImages", 265, "the recipe is full"), ("LayeredImages", 76, "from and to are the same path"), ("LayeredImages", 81, "the value is out of range"), ("LayeredImages", 257, "a build goes on"), ("LayeredImages", 259, "too many layers were made"), ("LayeredImages$Store", 56, "there is no room for a layer"), ("LayeredImages", 116, "no build goes on"), ("LayeredImages", 190, "no build is complete, or its layer is gone"), ("LayeredImages", 197, "the image has no such place"), ("LayeredImages", 200, "the tag stands for no layer"), ("LayeredImages", 263, "there is no such layer, or it is gone")]
set_option maxRecDepth 100000 in
theorem lw_strs_ok : lw_tbl.filterMap lw_sel = lw_strs := by decide +kernel
theorem lw_arr1 {s : State} {args : Array Value} {ty : FieldType} (h : (Cond.arrayClass ty).before args s = true) : ∃ cA : ClassId, ArrOfT s cA ty ∧ s.vm.findClass ("[" ++ ty.toString) = some cA := by
  obtain ⟨c, k, comp, h1, h2, h3⟩ := Cond.arrayClass_spec h
  exact ⟨c, fun n z => ⟨fun k h => (by cases h), k, h2, comp, h3⟩, h1⟩
theorem lw_arr2 {s : State} {args : Array Value} {C : String} (h : (Cond.arrayOver (.object C)).before args s = true) : ∃ cA : ClassId, ArrOfT s cA (.object C) ∧ va_RA s cA (.object C) := by
  obtain ⟨comp, c, k, h1, -, h3, h4, h5⟩ := Cond.arrayOver_spec h
  exact ⟨c, fun n z => ⟨fun k h => (by cases h), k, h3, comp, h4⟩, k, comp, h3, h4, h1, h5⟩
theorem lw_arr3 {s : State} {args : Array Value} (h : (Cond.arrayOver (.array .int)).before args s = true) : ∃ cA : ClassId, ArrOfT s cA (.array .int) ∧ va_RA s cA (.array .int) := by
  obtain ⟨comp, c, k, -, -, h3, h4, h5⟩ := Jvm.Stand.arrayOver_specB h
  exact ⟨c, fun n z => ⟨fun k h => (by cases h), k, h3, comp, h4⟩, h5⟩
set_option maxRecDepth 100000 in
theorem lw_ex : ∀ q ∈ lw_strs, Cond.exactly (.string q.1 q.2.1) "java/lang/String" ∈ flatC (Jvm.Cond.and given_1 narrow_1) := by decide +kernel
theorem lw_gE {s : State} {args : Array Value} (hts : ∀ w ∈ lw_tbl, w.before args s = true) (hgv : (Jvm.Cond.and given_1 narrow_1).before args s = true) : ∃ (D : va_G) (cy : Nat → ClassId), gE s D cy := by
  have hs := flat_of_before _ hgv
  obtain ⟨c0, i0, hK0⟩ := u_known (C := RX0) (T := TX0) (N := 3) (n := 3) hts (fun w h => (uX0 w h).1) (hts (.instantiable RX0 3) (List.mem_of_getElem? (i := 93) (by decide +kernel)))
  obtain ⟨c1, i1, hK1⟩ := u_known (C := RX1) (T := TX1) (N := 3) (n := 3) hts (fun w h => (uX1 w h).1) (hts (.instantiable RX1 3) (List.mem_of_getElem? (i := 324) (by decide +kernel)))
  obtain ⟨c2, i2, hK2⟩ := u_known (C := RX2) (T := TX2) (N := 8) (n := 8) hts (fun w h => (uX2 w h).1) (hts (.instantiable RX2 8) (List.mem_of_getElem? (i := 406) (by decide +kernel)))
  obtain ⟨c3, i3, hK3⟩ := u_known (C := RX3) (T := TX3) (N := 3) (n := 3) hts (fun w h => (uX3 w h).1) (hts (.instantiable RX3 3) (List.mem_of_getElem? (i := 99) (by decide +kernel)))
  obtain ⟨c4, i4, hK4⟩ := u_known (C := RX4) (T := TX4) (N := 2) (n := 2) hts (fun w h => (uX4 w h).1) (hts (.instantiable RX4 2) (List.mem_of_getElem? (i := 77) (by decide +kernel)))
  obtain ⟨c5, i5, hK5⟩ := u_known (C := RX5) (T := TX5) (N := 8) (n := 8) hts (fun w h => (uX5 w h).1) (hts (.instantiable RX5 8) (List.mem_of_getElem? (i := 63) (by decide +kernel)))
  obtain ⟨a0, hA0⟩ := lw_arr1 (ty := .int) (hts (.arrayClass .int) (List.mem_of_getElem? (i := 91) (by decide +kernel)))
  obtain ⟨a3, hA3⟩ := lw_arr3 (hts (.arrayOver (.array .int)) (List.mem_of_getElem? (i := 71) (by decide +kernel)))
  obtain ⟨a4, hA4⟩ := lw_arr2 (C := RX3) (hts (.arrayOver (.object RX3)) (List.mem_of_getElem? (i := 73) (by decide +kernel)))
  obtain ⟨a5, hA5⟩ := lw_arr2 (C := RX2) (hts (.arrayOver (.object RX2)) (List.mem_of_getElem? (i := 75) (by decide +kernel)))
  obtain ⟨a6, hA6⟩ := lw_arr2 (C := RX1) (hts (.arrayOver (.object RX1)) (List.mem_of_getElem? (i := 105) (by decide +kernel)))
  refine ⟨(fun k => if k = 0 then c0 else if k = 1 then c1 else if k = 2 then c2 else if k = 3 then c3 else if k = 4 then c4 else c5, fun k => if k = 0 then i0 else if k = 1 then i1 else if k = 2 then i2 else if k = 3 then i3 else if k = 4 then i4 else i5), fun k => if k = 0 then a0 else if k = 1 then a0 else if k = 2 then a0 else if k = 3 then a3 else if k = 4 then a4 else if k = 5 then a5 else a6, ⟨fun k q hq => ?_, fun k q hq => ?_⟩, ⟨args, hts⟩, ⟨?_, ?_⟩, fun o k tx hw => ?_⟩
  · match k, hq with
    | 0, hq => cases hq; exact hK0
    | 1, hq => cases hq; exact hK1
    | 2, hq => cases hq; exact hK2
    | 3, hq => cases hq; exact hK3
    | 4, hq => cases hq; exact hK4
    | 5, hq => cases hq; exact hK5
    | k + 6, hq => exact nomatch (show (none : Option vw_C) = some q from hq)
  · match k, hq with
    | 0, hq => cases hq; exact hA0
    | 1, hq => cases hq; exact hA0
    | 2, hq => cases hq; exact hA0
    | 3, hq => cases hq; exact hA3
    | 4, hq => cases hq; exact hA4
    | 5, hq => cases hq; exact hA5
    | 6, hq => cases hq; exact hA6
    | k + 7, hq => exact nomatch (show (none : Option (ClassId × FieldType)) = some q from hq)
  · exact vx_Zqof (hts (.laysStatic Bundle.tN "UNASSIGNED_STACK" Bundle.steD) (List.mem_of_getElem? (i := 205) (by decide +kernel))) (hts (.initialized Bundle.tN) (List.mem_of_getElem? (i := 54) (by decide +kernel))) (hs _ (by decide +kernel)) (fun a ha h => absurd ha (Nat.not_lt.mpr h))
  · exact vx_Zqof (hts (.laysStatic Bundle.tN "SUPPRESSED_SENTINEL" Bundle.listD) (List.mem_of_getElem? (i := 207) (by decide +kernel))) (hts (.initialized Bundle.tN) (List.mem_of_getElem? (i := 54) (by decide +kernel))) (hs _ (by decide +kernel)) (fun a ha h => absurd ha (Nat.not_lt.mpr h))
  · have hm : (o, k, tx) ∈ lw_strs := by
      rw [← lw_strs_ok]
      exact List.mem_filterMap.mpr ⟨_, hw, rfl⟩
    obtain ⟨a, -, -, -, ha, -⟩ := Cond.exactly_spec (hs _ (lw_ex _ hm))
    exact ⟨a, vk_R.of (hts _ hw) ha⟩
theorem lw_gN {s : State} {args : Array Value} (hgv : (Jvm.Cond.and given_1 narrow_1).before args s = true) : gN9 s := by
  have hs := flat_of_before _ hgv
  exact ⟨va_Nc.of (hs (.not (.castable xA xI)) (by decide +kernel)), va_Nc.of (hs (.not (.castable xS xI)) (by decide +kernel)), va_Nc.of (hs (.not (.castable xS xA)) (by decide +kernel))⟩
/-- the class as it is made, in the ghosts -/
theorem CX_0 {cy : Nat → ClassId} {co : Nat} {L : List Nat} {f : gF} (h : CW cy co A0 I0 L f) : CX cy co 0 (fun _ => 0) (fun _ => 0) (fun _ _ => 0) A0 I0 L f := CX.of h rfl (by decide) (fun k hk => absurd hk (Nat.not_lt_zero k)) (fun k q hk => absurd hk (Nat.not_lt_zero k)) (fun k hk => absurd hk (Nat.not_lt_zero k))
theorem INV_0 : INV A0 0 (fun _ => 0) (fun _ _ => 0) := ⟨fun k q hk => absurd hk (Nat.not_lt_zero k), fun k hk => absurd hk (Nat.not_lt_zero k), fun k hk => absurd hk (Nat.not_lt_zero k)⟩
/-- YOUR PART: from the entry, for every script of at most 260 ints, the law comes to its end with true ('hflags': the launch's flags, for a law that throws: no stack traces) -/
theorem whole_start {p : Program} {e : Env} {s : State} {m : MethodId} {below : List Frame} {meth : Method} {c : Code} (l : Launch) (hflags : l.flags = flags0) {b L : Nat} {xs : Nat → Int32} (hL : L ≤ 260) (C0 : lw_At p s m meth c b L xs) : W p l e room_1 s m #[Value.ref b] below meth c s.heap [] 0 0 (lw_Z below #[Value.ref b] s) (entryFrame m ([Value.ref b] : List Value).toArray 5) := by
  obtain ⟨hx, hb, hr, hml, hown, hts, hX, hbl, hlocks, hgv⟩ := id C0
  have hst : l.stackTraces = false := by
    unfold Launch.stackTraces
    rw [hflags]
    decide +kernel
  obtain ⟨D, cy, hE⟩ := lw_gE hts hgv
  have hN := lw_gN hgv
  have hN9 : L < 2 ^ 31 := by omega
  have C : gC p l e room_1 s m #[Value.ref b] below meth c s D cy [] code 5 RL := ⟨hx, hb, hml, hown, hlocks, hE, ⟨State.WarmedH.refl s, Nat.le_refl _, fun _ _ => rfl, fun a h => absurd h List.not_mem_nil⟩, hst⟩
  have hfin : ∀ (L1 : List Nat) (f1 : gF) (ls : List (Option Value)) (ce sl : Nat), ce ≤ 863415 → sl ≤ 6511222 → G p l e room_1 s m #[Value.ref b] below meth c (lw_Z below #[Value.ref b] s) D [] 5 L1 f1 ce sl 263 ls [] := by
    intro L1 f1 ls ce sl h1 h2
    refine g_iconst (n := 264) (v := 1) C dL_law_263 rfl rfl ?_
    refine g_goto (tgt := 268) C dL_law_264 (by decide) ?_
    intro H locs la hP hD hS hl
    refine va_forget (fun q hq => (hS.2.2 q hq).resolve_left List.not_mem_nil) ?_
    exact W.widen h1 h2 (lw_ret hx hb hr hlocks dL_law_268)
  have K : G p l e room_1 s m #[Value.ref b] below meth c (lw_Z below #[Value.ref b] s) D [] 5 [] (fun _ => .inr (0, [])) 0 0 0 [some (.ref b), none, none, none, none] [] := by
    refine g_new (n := 3) (ci := 5) (fs := D5) C tyX5 dL_law_0 rfl uX5 tyX5_ok hD5 (List.mem_of_getElem? (i := 62) (by decide +kernel)) (List.mem_of_getElem? (i := 63) (by decide +kernel)) (List.mem_of_getElem? (i := 49) (by decide +kernel)) ⟨by decide, by decide⟩ rfl (fun co hco => ?_)
    refine g_dup (n := 4) C dL_law_3 rfl rfl ?_
    refine g_I (n := 7) (rest := [_]) C (k5_init hE hst gH.new) dL_law_4 kM_X5_init kL_L_169 kI_X5_init rfl rfl (Nat.le_of_ble_eq_true rfl) ⟨by decide, by decide⟩ ⟨by first | omega | (simp only [room_1]; omega), by first | omega | (simp only [room_1]; omega)⟩ rfl (fun v9 Lc f9 hq => ?_)
    obtain ⟨rfl, hcw⟩ := hq
    refine G.sk (st' := [_]) rfl ?_
    refine g_astore_n (n := 8) (ls' := [_, _, _, _, _]) C dL_law_7 (Or.inr ⟨_, rfl⟩) rfl (by decide) rfl ?_
    refine g_iconst (n := 9) (v := nI 4) C dL_law_8 rfl rfl ?_
    refine g_newi (n := 11) C dL_law_9 rfl (by decide) (List.mem_of_getElem? (i := 91) (by decide +kernel)) ⟨by decide, by decide⟩ rfl (fun ga hga => ?_)
    have h := (CX_0 hcw).ext (f' := va_up f9 ga (.inl (cy 0, 4, .inl (fun _ => 0)))) (fun a ha => va_up_ne _ _ (fun z => hga (z ▸ ha)))
    have hg : va_up f9 ga (.inl (cy 0, 4, .inl (fun _ => (0 : Int32)))) ga = .inl (cy 0, 4, .inl (fun _ => 0)) := va_up_self _ _ _
    have hgA : ∀ i, i < 4 → A0 3 i = (fun _ => (0 : Int32)) i := fun i _ => by unfold A0; rw [upR_k (by decide), upR_k (by decide), upR_k (by decide)]; rfl
    generalize va_up f9 ga (.inl (cy 0, 4, .inl (fun _ => (0 : Int32)))) = f at h hg ⊢
    refine g_astore_n (n := 12) (ls' := [_, _, _, _, _]) C dL_law_11 (Or.inr ⟨_, rfl⟩) rfl (by decide) rfl ?_
    refine g_aload_n (n := 13) C dL_law_12 rfl (Or.inr ⟨_, rfl⟩) rfl ?_
    refine g_aload_n (n := 14) C dL_law_13 rfl (Or.inr ⟨_, rfl⟩) rfl ?_
    refine g_S (n := 17) (rest := []) C (l_areAll hE hst hN (h.up [ga]) INV_0 ⟨List.mem_append_right _ (List.mem_singleton.mpr rfl), hg⟩ (fun i hi => (hgA i hi).symm)) dL_law_14 kM_L_areAll kL_L_170 kS_L_areAll rfl rfl (Nat.le_of_ble_eq_true rfl) ⟨by decide, by decide⟩ ⟨by first | omega | (simp only [room_1]; omega), by first | omega | (simp only [room_1]; omega)⟩ rfl (fun v9 L9 f9 hq => ?_)
    obtain ⟨rfl, rfl, rfl⟩ := hq
    refine G.sk (st' := [_]) rfl ?_
    refine g_if_eq (n := 20) (tgt := 31) C dL_law_17 (by decide) rfl (fun h17 => (by first | exact absurd h17 (by decide) | exact (h17 (by decide)).elim)) (fun h17 => ?_)
    refine g_aload_n (n := 21) C dL_law_20 rfl (Or.inr ⟨_, rfl⟩) rfl ?_
    refine g_V (n := 24) (rest := []) C (z_layers hE hst (h.up [ga]) (mc := 0) (ms := 0)) dL_law_21 kM_X5_layers kL_L_111 kV_X5_layers (h.up [ga]).co.choose_spec rfl rfl rfl (Nat.le_of_ble_eq_true rfl) ⟨by decide, by decide⟩ ⟨by first | omega | (simp only [room_1]; omega), by first | omega | (simp only [room_1]; omega)⟩ rfl (fun v9 L9 f9 hq => ?_)
    obtain ⟨rfl, rfl, rfl⟩ := hq
    refine G.sk (st' := [_]) rfl ?_
    refine g_if_ne (n := 27) (tgt := 31) C dL_law_24 (by decide) rfl (fun h24 => (by first | exact absurd h24 (by decide) | exact (h24 (by decide)).elim)) (fun h24 => ?_)
    refine g_iconst (n := 28) (v := nI 1) C dL_law_27 rfl rfl ?_
    refine g_goto (tgt := 32) C dL_law_28 (by decide) ?_
    refine g_istore_n (n := 33) (ls' := [_, _, _, _, _]) C dL_law_32 rfl (by decide) rfl ?_
    refine g_iconst (n := 34) (v := nI 0) C dL_law_33 rfl rfl ?_
    refine g_istore (n := 36) (ls' := [_, _, _, _, _]) C dL_law_34 rfl (by decide) rfl ?_
    refine g_loop (α := Nat × List Nat × gF) (fun z => z.1 ≤ 64 ∧ GWo cy co ga z.2.1 z.2.2) (fun z => 64 - z.1) (fun z => z.2.1) (fun z => z.2.2) (fun z => 462 + 2130 * z.1) (fun z => 3198 + 12760 * z.1) 36 (fun z => [some (.ref b), some (.ref co), some (.ref ga), some (.int (nI 1)), some (.int (nI z.1))]) (fun _ => []) (fun z hz ih => ?_) (fun J => G.mono (ce' := 462 + 2130 * 0) (sl' := 3198 + 12760 * 0) (by omega) (by omega) (J (0, _, _) ⟨Nat.zero_le _, Lc, _, rfl, hga, hg, 0, _, _, _, A0, I0, h, INV_0, hgA⟩))
    clear h hg hgA
    obtain ⟨k, L, f⟩ := z
    obtain ⟨hk64, Lc, g, hLc, hga, hg, n, PR, PL, S, A, I, h, hi, hgA⟩ := hz
    dsimp only at hk64 hLc hg h ih ⊢
    subst hLc
    refine g_iload (n := 38) C dL_law_36 rfl rfl ?_
    refine g_bipush (n := 40) (v := nI 64) C dL_law_38 rfl rfl ?_
    refine g_icmp_ge (n := 43) (tgt := 88) C dL_law_40 (by decide) rfl (fun h40 => ?_) (fun h40 => ?_)
    · skip
      refine g_iload_n (n := 89) C dL_law_88 rfl rfl ?_
      refine g_if_eq (n := 92) (tgt := 249) C dL_law_89 (by decide) rfl (fun h89 => (by first | exact absurd h89 (by decide) | exact (h89 (by decide)).elim)) (fun h89 => ?_)
      obtain ⟨TG, hT⟩ := h.tgs
      refine g_aload_n (n := 93) C dL_law_92 rfl (Or.inr ⟨_, rfl⟩) rfl ?_
      refine g_iconst (n := 94) (v := nI 0) C dL_law_93 rfl rfl ?_
      refine g_iconst (n := 95) (v := -1) C dL_law_94 rfl rfl ?_
      refine g_bipush (n := 97) (v := -5) C dL_law_95 rfl rfl ?_
      refine g_iconst (n := 98) (v := nI 0) C dL_law_97 rfl rfl ?_
      refine g_SH (n := 101) (rest := []) C (tn_setFile_I hE hst hN (h.up [ga]) (x := -1) (y := -5) (fun ⟨q, hq, eq⟩ => gn_ne1 (by omega) eq.symm) (nI 0)) dL_law_98 kH_sets kW_L_124 kT_sets rfl rfl (Nat.le_of_ble_eq_true rfl) ⟨by decide, by decide⟩ ⟨by first | omega | (simp only [room_1]; omega), by first | omega | (simp only [room_1]; omega)⟩ rfl (fun v9 L9 f9 hq => ?_)
      obtain ⟨rfl, rfl, rfl⟩ := hq
      refine G.sk (st' := [_]) rfl ?_
      refine g_bipush (n := 103) (v := -30) C dL_law_101 rfl rfl ?_
      refine g_icmp_ne (n := 106) (tgt := 249) C dL_law_103 (by decide) rfl (fun h103 => (by first | exact absurd h103 (by decide) | exact (h103 (by decide)).elim)) (fun h103 => ?_)
      refine g_aload_n (n := 107) C dL_law_106 rfl (Or.inr ⟨_, rfl⟩) rfl ?_
      refine g_iconst (n := 108) (v := nI 1) C dL_law_107 rfl rfl ?_
      refine g_iconst (n := 109) (v := nI 0) C dL_law_108 rfl rfl ?_
      refine g_bipush (n := 111) (v := nI 12) C dL_law_109 rfl rfl ?_
      refine g_iconst (n := 112) (v := nI 0) C dL_law_111 rfl rfl ?_
      refine g_SH (n := 115) (rest := []) C (tn_setBase_I hE hst hN (h.up [ga]) (x := nI 0) (y := nI 12) (z := nI 0) (fun ⟨_, q, hq, eq⟩ => by have := gn_inj (by decide) (by omega) eq; omega)) dL_law_112 kH_sets kW_L_124 kT_sets rfl rfl (Nat.le_of_ble_eq_true rfl) ⟨by decide, by decide⟩ ⟨by first | omega | (simp only [room_1]; omega), by first | omega | (simp only [room_1]; omega)⟩ rfl (fun v9 L9 f9 hq => ?_)
      obtain ⟨rfl, rfl, rfl⟩ := hq
      refine G.sk (st' := [_]) rfl ?_
      refine g_bipush (n := 117) (v := -30) C dL_law_115 rfl rfl ?_
      refine g_icmp_ne (n := 120) (tgt := 249) C dL_law_117 (by decide) rfl (fun h117 => (by first | exact absurd h117 (by decide) | exact (h117 (by decide)).elim)) (fun h117 => ?_)
      refine g_aload_n (n := 121) C dL_law_120 rfl (Or.inr ⟨_, rfl⟩) rfl ?_
      refine g_iconst (n := 122) (v := nI 2) C dL_law_121 rfl rfl ?_
      refine g_iconst (n := 123) (v := nI 4) C dL_law_122 rfl rfl ?_
      refine g_iconst (n := 124) (v := nI 0) C dL_law_123 rfl rfl ?_
      refine g_iconst (n := 125) (v := nI 0) C dL_law_124 rfl rfl ?_
      refine g_SH (n := 128) (rest := []) C (tn_reset hE hst hN (h.up [ga]) (x := nI 4) (y := nI 0) (fun ⟨⟨q, hq, eq⟩, _⟩ => by have := gn_inj (by decide) (by omega) eq; omega) (nI 0)) dL_law_125 kH_sets kW_L_124 kT_sets rfl rfl (Nat.le_of_ble_eq_true rfl) ⟨by decide, by decide⟩ ⟨by first | omega | (simp only [room_1]; omega), by first | omega | (simp only [room_1]; omega)⟩ rfl (fun v9 L9 f9 hq => ?_)
      obtain ⟨rfl, rfl, rfl⟩ := hq
      refine G.sk (st' := [_]) rfl ?_
      refine g_bipush (n := 130) (v := -30) C dL_law_128 rfl rfl ?_
      refine g_icmp_ne (n := 133) (tgt := 249) C dL_law_130 (by decide) rfl (fun h130 => (by first | exact absurd h130 (by decide) | exact (h130 (by decide)).elim)) (fun h130 => ?_)
      refine g_aload_n (n := 134) C dL_law_133 rfl (Or.inr ⟨_, rfl⟩) rfl ?_
      refine g_iconst (n := 135) (v := nI 3) C dL_law_134 rfl rfl ?_
      refine g_iconst (n := 136) (v := -1) C dL_law_135 rfl rfl ?_
      refine g_iconst (n := 137) (v := nI 0) C dL_law_136 rfl rfl ?_
      refine g_iconst (n := 138) (v := nI 0) C dL_law_137 rfl rfl ?_
      refine g_SH (n := 141) (rest := []) C (tn_drop hE hst hN (h.up [ga]) (x := -1) (y := nI 0) (fun ⟨q, m2, j2, hq, eq, _⟩ => gn_ne1 (by omega) eq.symm) (nI 0)) dL_law_138 kH_sets kW_L_124 kT_sets rfl rfl (Nat.le_of_ble_eq_true rfl) ⟨by decide, by decide⟩ ⟨by first | omega | (simp only [room_1]; omega), by first | omega | (simp only [room_1]; omega)⟩ rfl (fun v9 L9 f9 hq => ?_)
      obtain ⟨rfl, rfl, rfl⟩ := hq
      refine G.sk (st' := [_]) rfl ?_
      refine g_bipush (n := 143) (v := -30) C dL_law_141 rfl rfl ?_
      refine g_icmp_ne (n := 146) (tgt := 249) C dL_law_143 (by decide) rfl (fun h143 => (by first | exact absurd h143 (by decide) | exact (h143 (by decide)).elim)) (fun h143 => ?_)
      refine g_aload_n (n := 147) C dL_law_146 rfl (Or.inr ⟨_, rfl⟩) rfl ?_
      refine g_iconst (n := 148) (v := nI 2) C dL_law_147 rfl rfl ?_
      refine g_iconst (n := 149) (v := nI 0) C dL_law_148 rfl rfl ?_
      refine g_iconst (n := 150) (v := nI 3) C dL_law_149 rfl rfl ?_
      refine g_iconst (n := 151) (v := nI 3) C dL_law_150 rfl rfl ?_
      refine g_SH (n := 154) (rest := []) C (tn_addMove_A hE hst hN (h.up [ga]) (x := nI 0) (y := nI 3) (z := nI 3) ⟨⟨0, by decide, rfl⟩, ⟨3, by decide, rfl⟩, 3, by decide, rfl⟩ (fun z => z rfl)) dL_law_151 kH_adds kW_L_128 kT_adds rfl rfl (Nat.le_of_ble_eq_true rfl) ⟨by decide, by decide⟩ ⟨by first | omega | (simp only [room_1]; omega), by first | omega | (simp only [room_1]; omega)⟩ rfl (fun v9 L9 f9 hq => ?_)
      obtain ⟨rfl, rfl, rfl⟩ := hq
      refine G.sk (st' := [_]) rfl ?_
      refine g_bipush (n := 156) (v := -20) C dL_law_154 rfl rfl ?_
      refine g_icmp_ne (n := 159) (tgt := 249) C dL_law_156 (by decide) rfl (fun h156 => (by first | exact absurd h156 (by decide) | exact (h156 (by decide)).elim)) (fun h156 => ?_)
      refine g_aload_n (n := 160) C dL_law_159 rfl (Or.inr ⟨_, rfl⟩) rfl ?_
      refine g_iconst (n := 161) (v := nI 4) C dL_law_160 rfl rfl ?_
      refine g_iconst (n := 162) (v := nI 0) C dL_law_161 rfl rfl ?_
      refine g_iconst (n := 163) (v := nI 0) C dL_law_162 rfl rfl ?_
      refine g_sipush (n := 166) (v := nI 1000) C dL_law_163 rfl rfl ?_
      refine g_SH (n := 169) (rest := []) C (tn_addSet_A hE hst hN (h.up [ga]) (x := nI 0) (y := nI 0) (z := nI 1000) ⟨⟨0, by decide, rfl⟩, 0, by decide, rfl⟩ (fun ⟨q, hq, eq⟩ => by have := gn_inj (by decide) (by omega) eq; omega)) dL_law_166 kH_adds kW_L_128 kT_adds rfl rfl (Nat.le_of_ble_eq_true rfl) ⟨by decide, by decide⟩ ⟨by first | omega | (simp only [room_1]; omega), by first | omega | (simp only [room_1]; omega)⟩ rfl (fun v9 L9 f9 hq => ?_)
      obtain ⟨rfl, rfl, rfl⟩ := hq
      refine G.sk (st' := [_]) rfl ?_
      refine g_bipush (n := 171) (v := -20) C dL_law_169 rfl rfl ?_
      refine g_icmp_ne (n := 174) (tgt := 249) C dL_law_171 (by decide) rfl (fun h171 => (by first | exact absurd h171 (by decide) | exact (h171 (by decide)).elim)) (fun h171 => ?_)
      refine g_aload_n (n := 175) C dL_law_174 rfl (Or.inr ⟨_, rfl⟩) rfl ?_
      refine g_iconst (n := 176) (v := nI 4) C dL_law_175 rfl rfl ?_
      refine g_iconst (n := 177) (v := nI 4) C dL_law_176 rfl rfl ?_
      refine g_iconst (n := 178) (v := nI 0) C dL_law_177 rfl rfl ?_
      refine g_iconst (n := 179) (v := nI 0) C dL_law_178 rfl rfl ?_
      refine g_SH (n := 182) (rest := []) C (tn_addSet_I hE hst hN (h.up [ga]) (x := nI 4) (y := nI 0) (z := nI 0) (fun ⟨⟨q, hq, eq⟩, _⟩ => by have := gn_inj (by decide) (by omega) eq; omega)) dL_law_179 kH_adds kW_L_128 kT_adds rfl rfl (Nat.le_of_ble_eq_true rfl) ⟨by decide, by decide⟩ ⟨by first | omega | (simp only [room_1]; omega), by first | omega | (simp only [room_1]; omega)⟩ rfl (fun v9 L9 f9 hq => ?_)
      obtain ⟨rfl, rfl, rfl⟩ := hq
      refine G.sk (st' := [_]) rfl ?_
      refine g_bipush (n := 184) (v := -30) C dL_law_182 rfl rfl ?_
      refine g_icmp_ne (n := 187) (tgt := 249) C dL_law_184 (by decide) rfl (fun h184 => (by first | exact absurd h184 (by decide) | exact (h184 (by decide)).elim)) (fun h184 => ?_)
      refine g_aload_n (n := 188) C dL_law_187 rfl (Or.inr ⟨_, rfl⟩) rfl ?_
      refine g_iconst (n := 189) (v := nI 0) C dL_law_188 rfl rfl ?_
      refine g_iconst (n := 190) (v := nI 4) C dL_law_189 rfl rfl ?_
      refine g_SH (n := 193) (rest := []) C (tn_start_I hE hst hN (h.up [ga]) (x := nI 4) (fun ⟨q, hq, eq⟩ => by have := gn_inj (by decide) (by omega) eq; omega)) dL_law_190 kH_builds kW_L_131 kT_builds rfl rfl (Nat.le_of_ble_eq_true rfl) ⟨by decide, by decide⟩ ⟨by first | omega | (simp only [room_1]; omega), by first | omega | (simp only [room_1]; omega)⟩ rfl (fun v9 L9 f9 hq => ?_)
      obtain ⟨rfl, rfl, rfl⟩ := hq
      refine G.sk (st' := [_]) rfl ?_
      refine g_bipush (n := 195) (v := -30) C dL_law_193 rfl rfl ?_
      refine g_icmp_ne (n := 198) (tgt := 249) C dL_law_195 (by decide) rfl (fun h195 => (by first | exact absurd h195 (by decide) | exact (h195 (by decide)).elim)) (fun h195 => ?_)
      refine g_aload_n (n := 199) C dL_law_198 rfl (Or.inr ⟨_, rfl⟩) rfl ?_
      refine g_iconst (n := 200) (v := nI 3) C dL_law_199 rfl rfl ?_
      refine g_iconst (n := 201) (v := -1) C dL_law_200 rfl rfl ?_
      refine g_SH (n := 204) (rest := []) C (tn_cleanDigest hE hst hN (h.up [ga]) (x := -1) (fun ⟨q, hq, eq⟩ => gn_ne1 (by omega) eq.symm)) dL_law_201 kH_builds kW_L_131 kT_builds rfl rfl (Nat.le_of_ble_eq_true rfl) ⟨by decide, by decide⟩ ⟨by first | omega | (simp only [room_1]; omega), by first | omega | (simp only [room_1]; omega)⟩ rfl (fun v9 L9 f9 hq => ?_)
      obtain ⟨rfl, rfl, rfl⟩ := hq
      refine G.sk (st' := [_]) rfl ?_
      refine g_bipush (n := 206) (v := -30) C dL_law_204 rfl rfl ?_
      refine g_icmp_ne (n := 209) (tgt := 249) C dL_law_206 (by decide) rfl (fun h206 => (by first | exact absurd h206 (by decide) | exact (h206 (by decide)).elim)) (fun h206 => ?_)
      refine g_aload_n (n := 210) C dL_law_209 rfl (Or.inr ⟨_, rfl⟩) rfl ?_
      refine g_iconst (n := 211) (v := nI 0) C dL_law_210 rfl rfl ?_
      refine g_iconst (n := 212) (v := nI 5) C dL_law_211 rfl rfl ?_
      refine g_iconst (n := 213) (v := nI 0) C dL_law_212 rfl rfl ?_
      refine g_SH (n := 216) (rest := []) C (tn_tag_I hE hst hN (h.up [ga]) (x := nI 5) (fun ⟨q, hq, eq⟩ => by have := gn_inj (by decide) (by omega) eq; omega) (nI 0)) dL_law_213 kH_tags kW_L_141 kT_tags rfl rfl (Nat.le_of_ble_eq_true rfl) ⟨by decide, by decide⟩ ⟨by first | omega | (simp only [room_1]; omega), by first | omega | (simp only [room_1]; omega)⟩ rfl (fun v9 L9 f9 hq => ?_)
      obtain ⟨rfl, rfl, rfl⟩ := hq
      refine G.sk (st' := [_]) rfl ?_
      refine g_bipush (n := 218) (v := -30) C dL_law_216 rfl rfl ?_
      refine g_icmp_ne (n := 221) (tgt := 249) C dL_law_218 (by decide) rfl (fun h218 => (by first | exact absurd h218 (by decide) | exact (h218 (by decide)).elim)) (fun h218 => ?_)
      refine g_aload_n (n := 222) C dL_law_221 rfl (Or.inr ⟨_, rfl⟩) rfl ?_
      refine g_iconst (n := 223) (v := nI 3) C dL_law_222 rfl rfl ?_
      refine g_iconst (n := 224) (v := nI 0) C dL_law_223 rfl rfl ?_
      refine g_iconst (n := 225) (v := nI 0) C dL_law_224 rfl rfl ?_
      refine g_SH (n := 228) (rest := []) C (tn_squash_I hE hst hN (h.up [ga]) hT.tag (x := nI 0) (y := nI 0) (fun ⟨i2, z2, q1, q2, q3, q4, _⟩ => by have := gn_inj (by decide) (by omega) q3; omega)) dL_law_225 kH_tags kW_L_141 kT_tags rfl rfl (Nat.le_of_ble_eq_true rfl) ⟨by decide, by decide⟩ ⟨by first | omega | (simp only [room_1]; omega), by first | omega | (simp only [room_1]; omega)⟩ rfl (fun v9 L9 f9 hq => ?_)
      obtain ⟨rfl, rfl, rfl⟩ := hq
      refine G.sk (st' := [_]) rfl ?_
      refine g_bipush (n := 230) (v := -30) C dL_law_228 rfl rfl ?_
      refine g_icmp_ne (n := 233) (tgt := 249) C dL_law_230 (by decide) rfl (fun h230 => (by first | exact absurd h230 (by decide) | exact (h230 (by decide)).elim)) (fun h230 => ?_)
      refine g_aload_n (n := 234) C dL_law_233 rfl (Or.inr ⟨_, rfl⟩) rfl ?_
      refine g_iconst (n := 235) (v := nI 4) C dL_law_234 rfl rfl ?_
      refine g_iconst (n := 236) (v := nI 0) C dL_law_235 rfl rfl ?_
      refine g_iconst (n := 237) (v := nI 3) C dL_law_236 rfl rfl ?_
      refine g_SH (n := 240) (rest := []) C (tn_rebase_I hE hst hN (h.up [ga]) hT.tag (x := nI 0) (y := nI 3) (fun ⟨_, q, hq, eq⟩ => by have := gn_inj (by decide) (by omega) eq; omega)) dL_law_237 kH_tags kW_L_141 kT_tags rfl rfl (Nat.le_of_ble_eq_true rfl) ⟨by decide, by decide⟩ ⟨by first | omega | (simp only [room_1]; omega), by first | omega | (simp only [room_1]; omega)⟩ rfl (fun v9 L9 f9 hq => ?_)
      obtain ⟨rfl, rfl, rfl⟩ := hq
      refine G.sk (st' := [_]) rfl ?_
      refine g_bipush (n := 242) (v := -30) C dL_law_240 rfl rfl ?_
      refine g_icmp_ne (n := 245) (tgt := 249) C dL_law_242 (by decide) rfl (fun h242 => (by first | exact absurd h242 (by decide) | exact (h242 (by decide)).elim)) (fun h242 => ?_)
      refine g_iconst (n := 246) (v := nI 1) C dL_law_245 rfl rfl ?_
      refine g_goto (tgt := 250) C dL_law_246 (by decide) ?_
      refine g_istore_n (n := 251) (ls' := [_, _, _, _, _]) C dL_law_250 rfl (by decide) rfl ?_
      refine g_iload_n (n := 252) C dL_law_251 rfl rfl ?_
      refine g_if_eq (n := 255) (tgt := 267) C dL_law_252 (by decide) rfl (fun h252 => (by first | exact absurd h252 (by decide) | exact (h252 (by decide)).elim)) (fun h252 => ?_)
      refine g_aload_n (n := 256) C dL_law_255 rfl (Or.inr ⟨_, rfl⟩) rfl ?_
      refine g_aload_n (n := 257) C dL_law_256 rfl (Or.inr ⟨_, rfl⟩) rfl ?_
      refine g_S (n := 260) (rest := []) C (l_areAll hE hst hN (h.up [ga]) hi ⟨List.mem_append_right _ (List.mem_singleton.mpr rfl), hg⟩ (fun i hi => (hgA i hi).symm)) dL_law_257 kM_L_areAll kL_L_170 kS_L_areAll rfl rfl (Nat.le_of_ble_eq_true rfl) ⟨by decide, by decide⟩ ⟨by first | omega | (simp only [room_1]; omega), by first | omega | (simp only [room_1]; omega)⟩ rfl (fun v9 L9 f9 hq => ?_)
      obtain ⟨rfl, rfl, rfl⟩ := hq
      refine G.sk (st' := [_]) rfl ?_
      refine g_if_eq (n := 263) (tgt := 267) C dL_law_260 (by decide) rfl (fun h260 => (by first | exact absurd h260 (by decide) | exact (h260 (by decide)).elim)) (fun h260 => ?_)
      exact hfin _ _ _ _ _ (by omega) (by omega)
    · have hk9 : k < 64 := gn_gt h40 (by decide) (by omega)
      refine g_iload_n (n := 44) C dL_law_43 rfl rfl ?_
      refine g_if_eq (n := 47) (tgt := 88) C dL_law_44 (by decide) rfl (fun h44 => (by first | exact absurd h44 (by decide) | exact (h44 (by decide)).elim)) (fun h44 => ?_)
      refine g_aload_n (n := 48) C dL_law_47 rfl (Or.inr ⟨_, rfl⟩) rfl ?_
      refine g_aload_n (n := 49) C dL_law_48 rfl (Or.inr ⟨_, rfl⟩) rfl ?_
      refine g_iconst (n := 50) (v := nI 4) C dL_law_49 rfl rfl ?_
      refine g_iload (n := 52) C dL_law_50 rfl rfl ?_
      refine g_imulN (n := 53) C dL_law_52 rfl ?_
      refine g_aload_n (n := 54) C dL_law_53 rfl (Or.inr ⟨_, rfl⟩) rfl ?_
      refine g_S (n := 57) (rest := []) C (l_isDone hE hst hN hX hbl hN9 h hi hga hg hgA (k0 := 4 * k) (by omega)) dL_law_54 kM_L_isDone kL_L_174 kS_L_isDone rfl rfl (Nat.le_of_ble_eq_true rfl) ⟨by decide, by decide⟩ ⟨by first | omega | (simp only [room_1]; omega), by first | omega | (simp only [room_1]; omega)⟩ rfl (fun v9 L9 f9 hq => ?_)
      obtain ⟨rfl, Lc2, g2, rfl, hga2, hg2, n2, PR2, PL2, S2, A2, I2, h2, hi2, hgA2⟩ := hq
      refine G.sk (st' := [_]) rfl ?_
      refine g_if_eq (n := 60) (tgt := 80) C dL_law_57 (by decide) rfl (fun h57 => (by first | exact absurd h57 (by decide) | exact (h57 (by decide)).elim)) (fun h57 => ?_)
      refine g_iload (n := 62) C dL_law_60 rfl rfl ?_
      refine g_iconst (n := 63) (v := nI 4) C dL_law_62 rfl rfl ?_
      refine g_iremN (n := 64) C dL_law_63 (by omega) (by omega) (by omega) rfl ?_
      refine g_iconst (n := 65) (v := nI 3) C dL_law_64 rfl rfl ?_
      refine g_icmp_lt (n := 68) (tgt := 76) C dL_law_65 (by decide) rfl (fun h65 => ?_) (fun h65 => ?_)
      · skip
        refine g_iconst (n := 77) (v := nI 1) C dL_law_76 rfl rfl ?_
        refine g_goto (tgt := 81) C dL_law_77 (by decide) ?_
        refine g_istore_n (n := 82) (ls' := [_, _, _, _, _]) C dL_law_81 rfl (by decide) rfl ?_
        refine g_iinc (n := 85) (ls' := [_, _, _, _, _]) C dL_law_82 rfl (nI_1 _) rfl (by decide) rfl ?_
        refine g_goto (tgt := 36) C dL_law_85 (by decide) ?_
        first
        | exact G.mono (ce' := 462 + 2130 * (k + 1)) (sl' := 3198 + 12760 * (k + 1)) (by omega) (by omega) (ih (k + 1, _, _) ⟨by show k + 1 ≤ 64; omega, Lc2, g2, rfl, hga2, hg2, n2, PR2, PL2, S2, A2, I2, h2, hi2, hgA2⟩ (by show 64 - (k + 1) < 64 - k; omega))
      · skip
        refine g_aload_n (n := 69) C dL_law_68 rfl (Or.inr ⟨_, rfl⟩) rfl ?_
        refine g_aload_n (n := 70) C dL_law_69 rfl (Or.inr ⟨_, rfl⟩) rfl ?_
        refine g_S (n := 73) (rest := []) C (l_areAll hE hst hN (h2.up [ga]) hi2 ⟨List.mem_append_right _ (List.mem_singleton.mpr rfl), hg2⟩ (fun i hi => (hgA2 i hi).symm)) dL_law_70 kM_L_areAll kL_L_170 kS_L_areAll rfl rfl (Nat.le_of_ble_eq_true rfl) ⟨by decide, by decide⟩ ⟨by first | omega | (simp only [room_1]; omega), by first | omega | (simp only [room_1]; omega)⟩ rfl (fun v9 L9 f9 hq => ?_)
        obtain ⟨rfl, rfl, rfl⟩ := hq
        refine G.sk (st' := [_]) rfl ?_
        refine g_if_eq (n := 76) (tgt := 80) C dL_law_73 (by decide) rfl (fun h73 => (by first | exact absurd h73 (by decide) | exact (h73 (by decide)).elim)) (fun h73 => ?_)
        refine g_iconst (n := 77) (v := nI 1) C dL_law_76 rfl rfl ?_
        refine g_goto (tgt := 81) C dL_law_77 (by decide) ?_
        refine g_istore_n (n := 82) (ls' := [_, _, _, _, _]) C dL_law_81 rfl (by decide) rfl ?_
        refine g_iinc (n := 85) (ls' := [_, _, _, _, _]) C dL_law_82 rfl (nI_1 _) rfl (by decide) rfl ?_
        refine g_goto (tgt := 36) C dL_law_85 (by decide) ?_
        first
        | exact G.mono (ce' := 462 + 2130 * (k + 1)) (sl' := 3198 + 12760 * (k + 1)) (by omega) (by omega) (ih (k + 1, _, _) ⟨by show k + 1 ≤ 64; omega, Lc2, g2, rfl, hga2, hg2, n2, PR2, PL2, S2, A2, I2, h2, hi2, hgA2⟩ (by show 64 - (k + 1) < 64 - k; omega))
  rw [lg_entry_eq]
  exact K s.heap [] _ (fun k q h => (nomatch (show (none : Option (Nat × va_E)) = some q from h))) ⟨fun i j p q h => (nomatch (show (none : Option (Nat × va_E)) = some p from h)), fun k q h => (nomatch (show (none : Option (Nat × va_E)) = some q from h))⟩ va_S.rf (gL.entry (av := [.ref b]) (n := 5) (fun v hv => by rw [List.mem_singleton.mp hv]; rfl) (Nat.le_of_ble_eq_true rfl))
-- ===== YOUR PART ENDS =====
set_option maxHeartbeats 4000000 in
theorem lw_walk (l : Launch) (hflags : l.flags = flags0) (b : Addr) (xs : List Int32) : MetFree l x (headSpec (Jvm.Cond.code x code maxLocals ret :: tables_1) room_1) (lw_P b xs) (fun _ _ _ _ _ => True) lw_Q := by
  refine MetFree.of_bodyS (code := code) (maxLocals := maxLocals) (ret := ret) (by decide) ?_ ?_
  · intro args s m h hn
    obtain ⟨meth, c, h1, h2, h3, h4, h5, h6, -, -⟩ := Cond.code_spec hn (atoms_spec (ws := Jvm.Cond.code x code maxLocals ret :: tables_1) h _ List.mem_cons_self)
    exact ⟨meth, c, h1, h2, h3, h4, h5, h6⟩
  · intro p e s m args below meth c s₁ B hml0 hP _
    obtain ⟨rfl, hx, hbd, hgv⟩ := hP
    obtain ⟨scr, harrAt, hlist, hof, hsmall⟩ := hx
    obtain ⟨hcb, hkn, -, -⟩ := State.arrayAt?_spec harrAt
    have hown : s.vm.findClass R_law = some m.cls := findClass_of_methodNamed B.named
    have hts0 : ∀ c ∈ (Jvm.Cond.code x code maxLocals ret :: tables_1), c.before #[Value.ref b] s = true := atoms_spec (ws := Jvm.Cond.code x code maxLocals ret :: tables_1) B.pre
    have hts : ∀ w ∈ lw_tbl, w.before #[Value.ref b] s = true := k2_hts_sels lw_privs (fun w hw => hts0 w (List.mem_cons_of_mem _ hw)) lw_privs_ok
    have hml : c.maxLocals = 5 := B.maxLocals_eq (hts0 _ List.mem_cons_self)
    have X₀ : Stand p l e room_1 s m #[Value.ref b] below meth c s₁ [] 0 0 := Stand.of_body B
    have hh0 : s₁.heap = s.heap := by rw [B.state]; rfl
    have hsz : scr.slots.size = xs.length := by rw [← Array.length_toList, hlist, List.length_map]
    have hval : ∀ j : Nat, j < xs.length → scr.slots[j]? = some (.int (xs.getD j 0)) := fun j hj => by
      rw [← Array.getElem?_toList, hlist]
      simp [hj]
    have hbl : b < s.heap.size := (Array.getElem?_eq_some_iff.mp hcb).1
    have hX : va_X b xs.length (fun j => xs.getD j 0) s s.heap := ⟨scr, hcb, hof, hkn, hsz, hval⟩
    have K : W p l e room_1 s m #[Value.ref b] below meth c s₁.heap [] 0 0 (lw_Z below #[Value.ref b] s) (entryFrame m ([Value.ref b] : List Value).toArray 5) := by
      rw [hh0]
      exact whole_start l hflags hbd ⟨B.exec, B.bytes, B.returns, hml, hown, hts, hX, hbl, B.notSynchronized, hgv⟩
    obtain ⟨t, a1, o, b1, b2, b3⟩ := K s₁ rfl X₀
    exact ⟨t, o, a1, b1, b2, b3⟩
theorem lw_pre_spec {args : Array Value} {s : State} (h : (Jvm.Cond.and given_1 narrow_1).before args s = true) (hr : rest_1_c.before args s = true) : ∃ (b : Addr) (xs : List Int32), lw_P b xs args s := by
  have hs := flat_of_before _ h
  have hq := flat_of_before _ hr
  have hc : (Cond.count 1).before args s = true := hs _ (by decide +kernel)
  have harr : (Cond.arrayOf (.arg 0) .int).before args s = true := hs _ (by decide +kernel)
  have hle : (Cond.le (.length (.arg 0)) (.int 260)).before args s = true := hs _ (by decide +kernel)
  have hlen : (Cond.isInt (.length (.arg 0))).before args s = true := hq _ (by decide +kernel)
  have hall : (Cond.all (.arg 0) (.isInt (.elem (.arg 0) (.index 0)))).before args s = true := hq _ (by decide +kernel)
  obtain ⟨b, xs, hb, hx⟩ := State.ints_of_pre rfl harr hlen hall
  have hsm : xs.length < 2 ^ 31 := hx.choose_spec.2.2.2
  have hev : (Term.length (.arg 0)).eval args s none [] s = some (.int xs.length.toInt32) := hx.length_eval hb
  have hv := Cond.le_ints hev (show (Term.int 260).eval args s none [] s = some (.int 260) from rfl)
  have hd : xs.length.toInt32 ≤ 260 := by
    simpa [Cond.before, Cond.holds, hv] using hle
  have hN : xs.length ≤ 260 := (Int32.ofNat_le_ofNat hsm (by decide)).mp (show Int32.ofNat xs.length ≤ Int32.ofNat 260 from hd)
  exact ⟨b, xs, Cond.one_arg hc (show args[0]? = some (.ref b) from hb), hx, hN, h⟩
theorem lw_comes (l : Launch) (hflags : l.flags = flags0) : Comes l x (Jvm.Cond.code x code maxLocals ret :: tables_1) room_1 (fun tb e args s => Calls_1 tb e args s ∧ rest_1 tb e args s ∧ Pre_1 tb e args s)
    (fun _ _ args s o t => lw_Q args s o t) := by
  intro p e ha hc hk s m args below hf hfit hheap happ hpre
  obtain ⟨b, xs, hP⟩ := lw_pre_spec hpre.2.2 hpre.2.1
  obtain ⟨k, o, h1, h2, h3, hQ⟩ := lw_walk l hflags b xs p e ha hc hk s m args below hf ((Spec.applies_iff_loose hf).mp happ).1 hP trivial
  exact ⟨k, o, h1, h2, h3, hQ⟩
theorem lw_frame {s t : State} {o : Outcome} {args : Array Value} (h : Framed s o t [] 863415 6511222) :
    Framed s o t (fieldLocs frame_1_writes args s ++ arrayLocs frame_1_arrays args s ++ staticLocs frame_1_statics s) 863415 6511222 := h
theorem lw_limb (L : Cond) (hL : ∀ (args : Array Value) (s t : State), L.after args s (.returned (some (.int 1))) t = true) :
    ArmFor flags0 classFile x code maxLocals ret World_1 tables_1 room_1 Calls_1 rest_1 Pre_1
      (fun tb e a s o t => postC L tb e a s o t ∧ Framed s o t (fieldLocs frame_1_writes a s ++ arrayLocs frame_1_arrays a s ++ staticLocs frame_1_statics s) 863415 6511222) := by
  intro l hflags _ _ p e ha hc hk s m args below hf hfit hheap happ hpre
  obtain ⟨k, o, h1, h2, h3, rfl, hF⟩ := lw_comes l hflags p e ha hc hk s m args below hf hfit hheap happ hpre
  exact ⟨k, _, h1, h2, h3, hL args s _, lw_frame hF⟩
theorem i_vc : Claimed_1_1 ∧ Claimed_1_2 := ⟨lw_limb limb_1_1 (fun args s t => by simp [limb_1_1, Cond.after, Cond.holds, Cond.value]), lw_limb limb_1_2 (fun args s t => Cond.after_iff.mpr (by
  first | (rw [show limb_1_2 = Cond.eq .result (.int 1) from rfl, Cond.eq_ints (x := 1) (y := 1) rfl rfl]; simp; done) | (simp [limb_1_2, Cond.value, Term.eval]; done)))⟩

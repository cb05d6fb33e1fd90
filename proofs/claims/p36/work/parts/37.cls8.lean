/-! ===== the class, VIII: throwing ===== -/
section GTHROWW
variable {p : Program} {l : Launch} {e : Env} {R : Room} {s : State} {m : MethodId} {args : Array Value} {below : List Frame} {meth : Method} {c : Code} {Q : State → Prop}
variable {s0 : State} {D : va_G} {cy : Nat → ClassId} {L0 : List Nat} {nL : Nat} {cc : ByteArray} {own : String} {L : List Nat} {f : gF} {ce sl pc n : Nat} {ls : List (Option Value)} {st : List Value}
variable {y : MethodName} {bytes : ByteArray} {maxL idx d9 mc ms : Nat} {ret : Option FieldType} {As rest : List Value} {b : Nat} {Qr : Option Value → List Nat → gF → Prop}
variable {f0 : gF} {PX PX9 : String → Prop} {mc9 ms9 : Nat}
theorem g_throwW (C : gC p l e R s m args below meth c s0 D cy L0 cc nL own) {ik is ic : Nat} {cls text : String} {names : List String} (hno : ∀ x ∈ c.exceptionTable.toList, False) (hcls : Bundle.fit cls = true) (hnames : ∀ n ∈ names, Bundle.fit n = true) (w1 : Cond.classLink own ik cls ∈ lw_tbl) (w2 : Cond.initialized cls ∈ lw_tbl) (w3 : Cond.stringRef own is text ∈ lw_tbl) (hat : ∀ w ∈ vx_atS own ic cls names, w ∈ lw_tbl ∧ (w.onTables && w.keepsFace) = true)
    (d0 : decode cc pc = .ok (.new ik, 3)) (d3 : decode cc (pc + 3) = .ok (.dup, 1)) (d4 : decode cc (pc + 4) = .ok (.ldc_w is, 3)) (d6 : decode cc (pc + 7) = .ok (.invokespecial ic, 3)) (d9 : decode cc (pc + 10) = .ok (.athrow, 1))
    (hR : names.length + 3 < R.frames ∧ (st.map fun v => v.category).sum + (13 * (names.length + 1) + 43) ≤ R.locals ∧ ce + 1 ≤ R.cells ∧ sl + 6 ≤ R.slots) (hpx : PX cls) (hc : ce + 1 ≤ mc ∧ sl + 6 ≤ ms) : G p l e R s m args below meth c (vx_MQ below (gQc D L0 s.heap.size Qr) (gXc D L0 f0 s.heap.size PX) args s mc ms (gA L0 s.heap.size)) D L0 nL L0 f0 ce sl pc ls st := by
  intro H locs la hP hD hS hl
  obtain ⟨sa, hsa⟩ : ∃ a : Nat, vk_R own is text a s := by
    obtain ⟨-, -, -, -, -, ⟨-, -, -, h4⟩, ⟨hW, -⟩, -⟩ := C
    obtain ⟨a, ha⟩ := h4 own is text w3
    exact ⟨a, ha.warm hW⟩
  have ot : ∀ w : Cond, (w.onTables && w.keepsFace) = true → vx_ot w = true := fun w h => by
    rw [Bool.and_eq_true] at h
    simp [vx_ot, h.1]
  refine vx_throwSW C.1 C.2.1 C.2.2.2.2.2.2.2 C.2.2.2.1 hcls hnames (C.wd w1 rfl args) (C.wd w2 rfl args) hsa (fun w hw => C.wd (hat w hw).1 (hat w hw).2 args) (fun w hw => ?_) C.zq.1 C.zq.2 hS (by rw [C.2.2.1]; exact hl.1) d0 d3 d4 d6 d9 (fun x hx => (hno x hx).elim) hR.1 hR.2.1 hR.2.2.1 hR.2.2.2 C.2.2.2.2.1 (fun t hvm hz hk => ?_) hS.2.2 hc.1 hc.2
  · rcases List.mem_cons.mp hw with rfl | hw
    · exact ot _ rfl
    · rcases List.mem_cons.mp hw with rfl | hw
      · exact ot _ rfl
      · exact ot w (hat w hw).2
  · refine ⟨hpx, hP.kept (fun k q hq => hk q.1 (hP k q hq).lt), hD, Nat.le_trans hS.1 hz, fun q h1 h2 => ?_⟩
    rw [hk q (Nat.lt_of_lt_of_le h1 hS.1)]
    exact hS.2.1 q h1 h2
end GTHROWW
def xI : String := "java/lang/IndexOutOfBoundsException"
def xA : String := "java/lang/IllegalArgumentException"
def xS : String := "java/lang/IllegalStateException"
def xNm : List String := ["java/lang/RuntimeException", "java/lang/Exception"]
theorem xNm_ok : ∀ n ∈ xNm, Bundle.fit n = true := by decide +kernel
set_option maxRecDepth 100000 in
theorem hat_X5_118 : ∀ w ∈ vx_atS RX5 118 xS xNm, w ∈ lw_tbl ∧ (w.onTables && w.keepsFace) = true := by decide +kernel
set_option maxRecDepth 100000 in
theorem hat_X5_78 : ∀ w ∈ vx_atS RX5 78 xA xNm, w ∈ lw_tbl ∧ (w.onTables && w.keepsFace) = true := by decide +kernel
set_option maxRecDepth 100000 in
theorem hat_X5_199 : ∀ w ∈ vx_atS RX5 199 xI xNm, w ∈ lw_tbl ∧ (w.onTables && w.keepsFace) = true := by decide +kernel
theorem k5_reqIndex {l : Launch} {s0 : State} {D : va_G} {cy : Nat → ClassId} (hE : gE s0 D cy) (hl : l.stackTraces = false) {L : List Nat} {f : gF} (x : Int32) {N : Nat} (hN9 : N < 2 ^ 31) : gX l s0 D yX5_requireIndex cX5_requireIndex 2 none 7 1 6 [.int x, .int (nI N)] L f (fun v L1 f1 => v = none ∧ gin x N ∧ L = L1 ∧ f = f1) (fun E => E = xI ∧ ¬ gin x N) := by
  refine gX.of (own := RX5) hE hl (by decide +kernel) rfl rfl (Nat.le_of_ble_eq_true rfl) (fun p9 e9 s9 m9 a99 b99 t99 c9 C hr hno => ?_)
  refine G.weak (ls' := [some (.int x), some (.int (nI N))]) ?_ rfl (fun _ _ h => h)
  refine g_iload_n (n := 1) C dX5_requireIndex_0 rfl rfl ?_
  refine g_iload_n (n := 2) C dX5_requireIndex_1 rfl rfl ?_
  refine g_S (n := 5) (rest := []) C (k5_isIn hE hl x (nI N)) dX5_requireIndex_2 kM_X5_isIn kL_X5_249 kS_X5_isIn rfl rfl (Nat.le_of_ble_eq_true rfl) ⟨by decide, by decide⟩ ⟨by decide, by decide⟩ rfl (fun v9 L9 f9 hq => ?_)
  obtain ⟨rfl, rfl, rfl⟩ := hq
  refine G.sk (st' := [_]) rfl ?_
  refine g_if_ne (n := 8) (tgt := 18) C dX5_requireIndex_5 (by decide) rfl (fun h5 => ?_) (fun h5 => ?_)
  · have h5 := gin_t h5 hN9
    refine G.x ?_
    refine g_vret C hr dX5_requireIndex_18 ?_ ⟨by decide, by decide⟩
    exact ⟨rfl, h5, rfl, rfl⟩
  · have h5 := gin_f h5 hN9
    exact g_throw (cls := xI) (text := "there is none of this number") (names := xNm) C hno (by decide +kernel) xNm_ok (List.mem_of_getElem? (i := 178) (by decide +kernel)) (List.mem_of_getElem? (i := 57) (by decide +kernel)) (List.mem_of_getElem? (i := 219) (by decide +kernel)) hat_X5_199 dX5_requireIndex_8 dX5_requireIndex_11 dX5_requireIndex_12 dX5_requireIndex_14 dX5_requireIndex_17 ⟨by decide, by decide, by decide, by decide⟩ ⟨rfl, h5⟩ ⟨by decide, by decide⟩
theorem k5_reqIndexM {l : Launch} {s0 : State} {D : va_G} {cy : Nat → ClassId} (hE : gE s0 D cy) (hl : l.stackTraces = false) {L : List Nat} {f : gF} {x : Int32} {N : Nat} (hN9 : N < 2 ^ 31) (hx : gin x N) : gM l s0 D yX5_requireIndex cX5_requireIndex 2 none 2 0 0 [.int x, .int (nI N)] L f (fun v L1 f1 => v = none ∧ L = L1 ∧ f = f1) := by
  refine gM.of (own := RX5) hE hl (by decide +kernel) rfl rfl (Nat.le_of_ble_eq_true rfl) (fun p9 e9 s9 m9 a99 b99 t99 c9 C hr hnm => ?_)
  refine G.weak (ls' := [some (.int x), some (.int (nI N))]) ?_ rfl (fun _ _ h => h)
  refine g_iload_n (n := 1) C dX5_requireIndex_0 rfl rfl ?_
  refine g_iload_n (n := 2) C dX5_requireIndex_1 rfl rfl ?_
  refine g_S (n := 5) (rest := []) C (k5_isIn hE hl x (nI N)) dX5_requireIndex_2 kM_X5_isIn kL_X5_249 kS_X5_isIn rfl rfl (Nat.le_of_ble_eq_true rfl) ⟨by decide, by decide⟩ ⟨by decide, by decide⟩ rfl (fun v9 L9 f9 hq => ?_)
  obtain ⟨rfl, rfl, rfl⟩ := hq
  refine G.sk (st' := [_]) rfl ?_
  refine g_if_ne (n := 8) (tgt := 18) C dX5_requireIndex_5 (by decide) rfl (fun h5 => ?_) (fun h5 => absurd hx (gin_f h5 hN9))
  refine g_vret C hr dX5_requireIndex_18 ?_ ⟨by decide, by decide⟩
  exact ⟨rfl, rfl, rfl⟩
theorem gct_1 : gct (-1) := Or.inl rfl
theorem gct_lt {x : Int32} (h1 : ¬ x = -1) (h : x < 0) : ¬ gct x := by
  rintro (e | ⟨j, hj, rfl⟩)
  · exact h1 e
  · rw [gn_lt, nI_toInt (by omega)] at h
    have e0 : (0 : Int32).toInt = 0 := by decide
    rw [e0] at h
    omega
theorem gct_gt {x : Int32} (h1 : ¬ x = -1) (h : ¬ x ≤ nI 9999) : ¬ gct x := fun z => h (gct_iff.mpr z).2
theorem gct_ok {x : Int32} (h : ¬ x < 0) (h2 : x ≤ nI 9999) : gct x := gct_iff.mp ⟨by
  rw [gn_lt] at h
  rw [gn_le]
  have e0 : (0 : Int32).toInt = 0 := by decide
  have e1 : (-1 : Int32).toInt = -1 := by decide
  rw [e0] at h
  rw [e1]
  omega, h2⟩
theorem k5_reqContent {l : Launch} {s0 : State} {D : va_G} {cy : Nat → ClassId} (hE : gE s0 D cy) (hl : l.stackTraces = false) {L : List Nat} {f : gF} (x : Int32) : gX l s0 D yX5_requireContent cX5_requireContent 1 none 7 1 6 [.int x] L f (fun v L1 f1 => v = none ∧ gct x ∧ L = L1 ∧ f = f1) (fun E => E = xA ∧ ¬ gct x) := by
  refine gX.of (own := RX5) hE hl (by decide +kernel) rfl rfl (Nat.le_of_ble_eq_true rfl) (fun p9 e9 s9 m9 a99 b99 t99 c9 C hr hno => ?_)
  refine G.weak (ls' := [some (.int x)]) ?_ rfl (fun _ _ h => h)
  refine g_iload_n (n := 1) C dX5_requireContent_0 rfl rfl ?_
  refine g_iconst (n := 2) (v := -1) C dX5_requireContent_1 rfl rfl ?_
  refine g_icmp_eq (n := 5) (tgt := 26) C dX5_requireContent_2 (by decide) rfl (fun h2 => ?_) (fun h2 => ?_)
  · refine G.x ?_
    refine g_vret C hr dX5_requireContent_26 ?_ ⟨by decide, by decide⟩
    refine ⟨rfl, ?_, rfl, rfl⟩
    first | (rw [h2]; exact gct_1) | exact gct_ok h6 h13
  · refine g_iload_n (n := 6) C dX5_requireContent_5 rfl rfl ?_
    refine g_if_lt (n := 9) (tgt := 16) C dX5_requireContent_6 (by decide) rfl (fun h6 => ?_) (fun h6 => ?_)
    · exact g_throw (cls := xA) (text := "the content is out of range") (names := xNm) C hno (by decide +kernel) xNm_ok (List.mem_of_getElem? (i := 249) (by decide +kernel)) (List.mem_of_getElem? (i := 58) (by decide +kernel)) (List.mem_of_getElem? (i := 258) (by decide +kernel)) hat_X5_78 dX5_requireContent_16 dX5_requireContent_19 dX5_requireContent_20 dX5_requireContent_22 dX5_requireContent_25 ⟨by decide, by decide, by decide, by decide⟩ ⟨rfl, by first | exact gct_lt h2 h6 | exact gct_gt h2 h13⟩ ⟨by decide, by decide⟩
    · refine g_iload_n (n := 10) C dX5_requireContent_9 rfl rfl ?_
      refine g_sipush (n := 13) (v := nI 9999) C dX5_requireContent_10 rfl rfl ?_
      refine g_icmp_le (n := 16) (tgt := 26) C dX5_requireContent_13 (by decide) rfl (fun h13 => ?_) (fun h13 => ?_)
      · refine G.x ?_
        refine g_vret C hr dX5_requireContent_26 ?_ ⟨by decide, by decide⟩
        refine ⟨rfl, ?_, rfl, rfl⟩
        first | (rw [h2]; exact gct_1) | exact gct_ok h6 h13
      · exact g_throw (cls := xA) (text := "the content is out of range") (names := xNm) C hno (by decide +kernel) xNm_ok (List.mem_of_getElem? (i := 249) (by decide +kernel)) (List.mem_of_getElem? (i := 58) (by decide +kernel)) (List.mem_of_getElem? (i := 258) (by decide +kernel)) hat_X5_78 dX5_requireContent_16 dX5_requireContent_19 dX5_requireContent_20 dX5_requireContent_22 dX5_requireContent_25 ⟨by decide, by decide, by decide, by decide⟩ ⟨rfl, by first | exact gct_lt h2 h6 | exact gct_gt h2 h13⟩ ⟨by decide, by decide⟩

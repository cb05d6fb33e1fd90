/-! ===== the law, XII: one turn ===== -/
section GREM
variable {p : Program} {l : Launch} {e : Env} {R : Room} {s : State} {m : MethodId} {args : Array Value} {below : List Frame} {meth : Method} {c : Code} {Q : State → Prop}
variable {s0 : State} {D : va_G} {cy : Nat → ClassId} {L0 : List Nat} {nL : Nat} {cc : ByteArray} {own : String} {L : List Nat} {f : gF} {ce sl pc n : Nat} {ls : List (Option Value)} {st : List Value}
theorem g_iremN (C : gC p l e R s m args below meth c s0 D cy L0 cc nL own) {x y : Nat} (d : decode cc pc = .ok (.irem, 1)) (hx : x < 2 ^ 31) (hy : 0 < y) (hy2 : y < 2 ^ 31) (hn : pc + 1 = n) (kk : G p l e R s m args below meth c Q D L0 nL L f ce sl n ls (.int (nI (x % y)) :: st)) : G p l e R s m args below meth c Q D L0 nL L f ce sl pc ls (.int (nI y) :: .int (nI x) :: st) := by
  refine g_irem C d (fun z => by have := gn_inj (b := 0) hy2 (by decide) z; omega) hn ?_
  rw [gn_mod hx hy2]
  exact kk
theorem g_idivN (C : gC p l e R s m args below meth c s0 D cy L0 cc nL own) {x y : Nat} (d : decode cc pc = .ok (.idiv, 1)) (hx : x < 2 ^ 31) (hy : 0 < y) (hy2 : y < 2 ^ 31) (hn : pc + 1 = n) (kk : G p l e R s m args below meth c Q D L0 nL L f ce sl n ls (.int (nI (x / y)) :: st)) : G p l e R s m args below meth c Q D L0 nL L f ce sl pc ls (.int (nI y) :: .int (nI x) :: st) := by
  intro H locs la hP hD hS hl
  subst hn
  refine lv_idiv C.1 C.2.1 d (fun z => by have := gn_inj (b := 0) hy2 (by decide) z; omega) ?_
  rw [gn_div hx hy2]
  exact kk H locs la hP hD hS hl
end GREM
theorem gct_of {v : Int32} (h1 : ¬ v < -1) (h2 : ¬ nI 10000 ≤ v) : gct v := by
  refine gct_iff.mp ⟨?_, ?_⟩
  · rw [gn_le]; rw [gn_lt] at h1; omega
  · rw [gn_le, nI_toInt (by decide)]; rw [gn_le, nI_toInt (by decide)] at h2; omega
theorem gct_lo {v : Int32} (h : gct v) : ¬ v < -1 := by
  rcases h with rfl | ⟨j, hj, rfl⟩
  · decide
  · have e1 : (-1 : Int32).toInt = -1 := by decide
    rw [gn_lt, e1, nI_toInt (by omega)]
    omega
theorem gct_hi {v : Int32} (h : gct v) : ¬ nI 10000 ≤ v := by
  rcases h with rfl | ⟨j, hj, rfl⟩
  · decide
  · rw [nI_leI (by decide) (by omega)]
    omega
theorem pI_lo {m : Nat} (h : m ≤ 2 ^ 31) : ¬ pI m < -1 := by
  cases m with
  | zero => decide
  | succ j =>
    have e1 : (-1 : Int32).toInt = -1 := by decide
    rw [pI_nI, gn_lt, e1, nI_toInt (by omega)]
    omega
theorem LWo.r3 {cy : Nat → ClassId} {co : Nat} {r3 r4 : Nat → Int32} {L : List Nat} {f : gF} (h : LWo cy co r3 L f) (e : ∀ i, i < 4 → r3 i = r4 i) : LWo cy co r4 L f := by
  obtain ⟨n, PR, PL, S, A, I, h1, h2, h3⟩ := h
  exact ⟨n, PR, PL, S, A, I, h1, h2, fun i hi => (h3 i hi).trans (e i hi)⟩
theorem drA_39 {A : Nat → Nat → Int32} {g : Nat → Int32} {x m j q : Nat} (hg : ∀ i, i < 4 → A 3 i = g i) : ∀ i, i < 4 → drA A x m j q 3 i = upd g x (nI (m - 1)) i := fun i hi => by
  unfold upd
  by_cases e : i = x
  · rw [if_pos e, e]; exact drA_3
  · rw [if_neg e]
    exact (if_neg (by omega)).trans ((mU_j e).trans (hg i hi))
theorem rst_39 {A : Nat → Nat → Int32} {g : Nat → Int32} {x : Nat} {b : Int32} (hg : ∀ i, i < 4 → A 3 i = g i) : ∀ i, i < 4 → mU (mU A 2 x b) 3 x (nI 0) 3 i = upd g x (nI 0) i := fun i hi => by
  unfold upd
  by_cases e : i = x
  · rw [if_pos e, e, mU_s]
  · rw [if_neg e, mU_j e, mU_k (by decide)]
    exact hg i hi
theorem agw.of {A A1 : Nat → Nat → Int32} {n : Nat} (h : ∀ k j, 9 ≤ k → k ≤ 15 → A1 k j = A k j) : agw A A1 n := ⟨fun r k hr hk => h r k (by omega) (by omega), fun _ _ _ _ => h _ _ (by decide) (by decide), fun _ _ _ _ => h _ _ (by decide) (by decide)⟩
theorem mU_ag {A : Nat → Nat → Int32} {n r j : Nat} {x : Int32} (h : r < 9 ∨ 15 < r) : agw A (mU A r j x) n := agw.of (fun k i h1 h2 => mU_k (by omega))
/-- a turn starts: a step is taken or fails -/
theorem stp_ex {n : Nat} {PR PL : Nat → Nat} {S A : Nat → Nat → Int32} {I : Nat → Int32} {t c k : Nat} (hw : WF n PR PL S A) (hg : vGo A I n PL t c k) :
    ∃ (b : Int32) (n1 : Nat) (A1 : Nat → Nat → Int32) (PR1 PL1 : Nat → Nat) (S1 : Nat → Nat → Int32) (go9 co9 m9 d9 ly9 hi9 mi9 : Int32), goR A (va_up I 27 (nI 0)) n S k t c b A1 (IVf (va_up I 27 (nI 0)) n1 go9 co9 m9 d9 ly9 hi9 mi9) ∧ WF n1 PR1 PL1 S1 A1 ∧ (∀ j, A1 3 j = A 3 j) ∧ ((b = -1 ∧ go9 = nI 0 ∧ co9 = nI 0) ∨ (¬ b = -1 ∧ slV (IVf I n1 go9 co9 m9 d9 ly9 hi9 mi9) = nI (c - (t + 1)))) := by
  obtain ⟨h17, h18, h19, h20, htc, hc, hk, h24, h8, hpl, hv, hn⟩ := hg
  rcases go_ex (m := c) (va_up I 27 (nI 0)) hw (by omega) hk (by omega) (hv t htc) with ⟨hf, hgo⟩ | ⟨hf, its, k1, n1, PR1, PL1, S1, A1, x, y, hi, hgo, hxy, hw1, hx1, hn1, hk1, hfn, hp1, hfr⟩
  · exact ⟨-1, n, A, PR, PL, S, _, _, _, _, _, _, _, hgo, hw, fun _ => rfl, Or.inl ⟨rfl, rfl, rfl⟩⟩
  · exact ⟨nI k1, n1, A1, PR1, PL1, S1, _, _, _, _, _, _, _, hgo, hw1, fun j => hfr 3 j (by decide), Or.inr ⟨gn_ne1 (by have := hw1.1; omega), sl_m rfl rfl rfl (by omega)⟩⟩
theorem l_isAdded {l : Launch} {s0 : State} {D : va_G} {cy : Nat → ClassId} (hE : gE s0 D cy) (hl : l.stackTraces = false) {f : gF} (hN : gN9 s0) {co n : Nat} {PR PL : Nat → Nat} {S A : Nat → Nat → Int32} {I : Nat → Int32} {Lc : List Nat} {ga : Nat} {g : Nat → Int32} (h : CX cy co n PR PL S A I Lc f) (hi : INV A n PR S) (hga : ga ∉ Lc) (hg : f ga = .inl (cy 0, 4, .inl g)) (hgA : ∀ i, i < 4 → A 3 i = g i) {w x a b : Nat} (hw : w < 5) (hx9 : x < 2 ^ 31) (ha9 : a < 2 ^ 31) (hb9 : b < 2 ^ 31) : gM l s0 D yL_isAdded cL_isAdded 11 (some .boolean) 11 6 30 [.ref co, .ref ga, .int (nI w), .int (nI x), .int (nI a), .int (nI b)] (Lc ++ [ga]) f (fun v L1 f1 => v = some (.int 1) ∧ GWo cy co ga L1 f1) := by
  rcases (show w = 0 ∨ w = 1 ∨ w = 2 ∨ w = 3 ∨ w = 4 by omega) with rfl | rfl | rfl | rfl | rfl
  · exact l_isAdded_0 hE hl hN h hi hga hg hgA hx9 ha9 hb9
  · exact l_isAdded_1 hE hl hN h hi hga hg hgA hx9 ha9 hb9
  · exact l_isAdded_2 hE hl hN h hi hga hg hgA hx9 ha9 hb9
  · exact l_isAdded_3 hE hl hN h hi hga hg hgA hx9 ha9 hb9
  · exact l_isAdded_4 hE hl hN h hi hga hg hgA hx9 ha9 hb9
theorem l_isDone {l : Launch} {s0 : State} {D : va_G} {cy : Nat → ClassId} (hE : gE s0 D cy) (hl : l.stackTraces = false) {f : gF} (hN : gN9 s0) {b9 N : Nat} {xs : Nat → Int32} (hX : va_X b9 N xs s0 s0.heap) (hbl : b9 < s0.heap.size) (hN9 : N < 2 ^ 31) {co n : Nat} {PR PL : Nat → Nat} {S A : Nat → Nat → Int32} {I : Nat → Int32} {Lc : List Nat} {ga : Nat} {g : Nat → Int32} (h : CX cy co n PR PL S A I Lc f) (hi : INV A n PR S) (hga : ga ∉ Lc) (hg : f ga = .inl (cy 0, 4, .inl g)) (hgA : ∀ i, i < 4 → A 3 i = g i) {k0 : Nat} (hk0 : k0 < 2 ^ 20) : gM l s0 D yL_isDone cL_isDone 12 (some .boolean) 12 1690 10120 [.ref co, .ref b9, .int (nI k0), .ref ga] (Lc ++ [ga]) f (fun v L1 f1 => v = some (.int 1) ∧ GWo cy co ga L1 f1) := by
  refine gM.of (own := RL) hE hl (by decide +kernel) rfl rfl (Nat.le_of_ble_eq_true rfl) (fun p9 e9 s9 m9 a99 b99 t99 c9 C hr hnm => ?_)
  refine G.weak (ls' := [some (.ref co), some (.ref b9), some (.int (nI k0)), some (.ref ga), none, none, none, none, none, none, none, none]) ?_ rfl (fun _ _ h => h)
  obtain ⟨i7, hn9, hPR, hsh, hpl, hpb, hlv⟩ := h.nv
  have hpar : ∀ k, k < n → PR k ≤ k := fun k hk => (hPR k hk).1
  obtain ⟨TG, hT⟩ := h.tgs
  refine g_aload_n (n := 1) C dL_isDone_0 rfl (Or.inr ⟨_, rfl⟩) rfl ?_
  refine g_iload_n (n := 2) C dL_isDone_1 rfl rfl ?_
  refine g_bipush (n := 4) (v := nI 30) C dL_isDone_2 rfl rfl ?_
  refine g_S (n := 7) (rest := []) C (l_part hE hl hX hbl hN9 (k := k0) (n0 := 30) (by omega) (by decide) (by decide)) dL_isDone_4 kM_L_part kL_L_147 kS_L_part rfl rfl (Nat.le_of_ble_eq_true rfl) ⟨by decide, by decide⟩ ⟨by first | omega | (simp only [gRm]; omega), by first | omega | (simp only [gRm]; omega)⟩ rfl (fun v9 L9 f9 hq => ?_)
  obtain ⟨⟨jw, hjw, rfl⟩, rfl, rfl⟩ := hq
  refine G.sk (st' := [_]) rfl ?_
  refine g_istore (n := 9) (ls' := [_, _, _, _, _, _, _, _, _, _, _, _]) C dL_isDone_7 rfl (by decide) rfl ?_
  refine g_aload_n (n := 10) C dL_isDone_9 rfl (Or.inr ⟨_, rfl⟩) rfl ?_
  refine g_iload_n (n := 11) C dL_isDone_10 rfl rfl ?_
  refine g_iconst (n := 12) (v := nI 1) C dL_isDone_11 rfl rfl ?_
  refine g_iaddN (n := 13) C dL_isDone_12 rfl ?_
  refine g_sipush (n := 16) (v := nI 6000) C dL_isDone_13 rfl rfl ?_
  refine g_S (n := 19) (rest := []) C (l_part hE hl hX hbl hN9 (k := k0 + 1) (n0 := 6000) (by omega) (by decide) (by decide)) dL_isDone_16 kM_L_part kL_L_147 kS_L_part rfl rfl (Nat.le_of_ble_eq_true rfl) ⟨by decide, by decide⟩ ⟨by first | omega | (simp only [gRm]; omega), by first | omega | (simp only [gRm]; omega)⟩ rfl (fun v9 L9 f9 hq => ?_)
  obtain ⟨⟨ja, hja, rfl⟩, rfl, rfl⟩ := hq
  refine G.sk (st' := [_]) rfl ?_
  refine g_istore (n := 21) (ls' := [_, _, _, _, _, _, _, _, _, _, _, _]) C dL_isDone_19 rfl (by decide) rfl ?_
  refine g_aload_n (n := 22) C dL_isDone_21 rfl (Or.inr ⟨_, rfl⟩) rfl ?_
  refine g_iload_n (n := 23) C dL_isDone_22 rfl rfl ?_
  refine g_iconst (n := 24) (v := nI 2) C dL_isDone_23 rfl rfl ?_
  refine g_iaddN (n := 25) C dL_isDone_24 rfl ?_
  refine g_sipush (n := 28) (v := nI 7000) C dL_isDone_25 rfl rfl ?_
  refine g_S (n := 31) (rest := []) C (l_part hE hl hX hbl hN9 (k := k0 + 2) (n0 := 7000) (by omega) (by decide) (by decide)) dL_isDone_28 kM_L_part kL_L_147 kS_L_part rfl rfl (Nat.le_of_ble_eq_true rfl) ⟨by decide, by decide⟩ ⟨by first | omega | (simp only [gRm]; omega), by first | omega | (simp only [gRm]; omega)⟩ rfl (fun v9 L9 f9 hq => ?_)
  obtain ⟨⟨jb, hjb, rfl⟩, rfl, rfl⟩ := hq
  refine G.sk (st' := [_]) rfl ?_
  refine g_istore (n := 33) (ls' := [_, _, _, _, _, _, _, _, _, _, _, _]) C dL_isDone_31 rfl (by decide) rfl ?_
  refine g_aload_n (n := 34) C dL_isDone_33 rfl (Or.inr ⟨_, rfl⟩) rfl ?_
  refine g_iload_n (n := 35) C dL_isDone_34 rfl rfl ?_
  refine g_iconst (n := 36) (v := nI 3) C dL_isDone_35 rfl rfl ?_
  refine g_iaddN (n := 37) C dL_isDone_36 rfl ?_
  refine g_sipush (n := 40) (v := nI 10100) C dL_isDone_37 rfl rfl ?_
  refine g_S (n := 43) (rest := []) C (l_part hE hl hX hbl hN9 (k := k0 + 3) (n0 := 10100) (by omega) (by decide) (by decide)) dL_isDone_40 kM_L_part kL_L_147 kS_L_part rfl rfl (Nat.le_of_ble_eq_true rfl) ⟨by decide, by decide⟩ ⟨by first | omega | (simp only [gRm]; omega), by first | omega | (simp only [gRm]; omega)⟩ rfl (fun v9 L9 f9 hq => ?_)
  obtain ⟨⟨jc, hjc, rfl⟩, rfl, rfl⟩ := hq
  refine G.sk (st' := [_]) rfl ?_
  refine g_istore (n := 45) (ls' := [_, _, _, _, _, _, _, _, _, _, _, _]) C dL_isDone_43 rfl (by decide) rfl ?_
  by_cases hwl0 : jw < 4
  · by_cases h3 : jc % 3 = 0
    · obtain ⟨v, hv⟩ : ∃ v, v = nI (jb % 50) - nI 2 := ⟨_, rfl⟩
      by_cases hf8 : ja % 9 = 8
      · refine g_iload (n := 47) C dL_isDone_45 rfl rfl ?_
        refine g_iconst (n := 48) (v := nI 4) C dL_isDone_47 rfl rfl ?_
        refine g_icmp_ge (n := 51) (tgt := 204) C dL_isDone_48 (by decide) rfl (fun h48 => absurd h48 (fun z => by have := gn_ge z (by decide) (by omega); omega)) (fun h48 => ?_)
        refine g_aload_n (n := 52) C dL_isDone_51 rfl (Or.inr ⟨_, rfl⟩) rfl ?_
        refine g_iconst (n := 53) (v := nI 0) C dL_isDone_52 rfl rfl ?_
        refine g_iload (n := 55) C dL_isDone_53 rfl rfl ?_
        refine g_bipush (n := 57) (v := nI 9) C dL_isDone_55 rfl rfl ?_
        refine g_iremN (n := 58) C dL_isDone_57 (by omega) (by omega) (by omega) rfl ?_
        refine g_iload (n := 60) C dL_isDone_58 rfl rfl ?_
        refine g_iconst (n := 61) (v := nI 3) C dL_isDone_60 rfl rfl ?_
        refine g_iremN (n := 62) C dL_isDone_61 (by omega) (by omega) (by omega) rfl ?_
        refine g_if_ne (n := 65) (tgt := 75) C dL_isDone_62 (by decide) rfl (fun h62 => absurd (by rw [h3]; rfl) h62) (fun h62 => ?_)
        refine g_iload (n := 67) C dL_isDone_65 rfl rfl ?_
        refine g_bipush (n := 69) (v := nI 50) C dL_isDone_67 rfl rfl ?_
        refine g_iremN (n := 70) C dL_isDone_69 (by omega) (by omega) (by omega) rfl ?_
        refine g_iconst (n := 71) (v := nI 2) C dL_isDone_70 rfl rfl ?_
        refine g_isub (n := 72) C dL_isDone_71 rfl ?_
        rw [← hv]
        refine g_goto (tgt := 79) C dL_isDone_72 (by decide) ?_
        skip
        refine g_iconst (n := 80) (v := nI 0) C dL_isDone_79 rfl rfl ?_
        refine g_SH (n := 83) (rest := []) C (tn_setFile_I hE hl hN (h.up [ga]) (x := nI (ja % 9)) (y := v) (fun ⟨q, hq, eq⟩ => by have := gn_inj (by omega) (by omega) eq; omega) (nI 0)) dL_isDone_80 kH_sets kW_L_124 kT_sets rfl rfl (Nat.le_of_ble_eq_true rfl) ⟨by decide, by decide⟩ ⟨by first | omega | (simp only [gRm]; omega), by first | omega | (simp only [gRm]; omega)⟩ rfl (fun v9 L9 f9 hq => ?_)
        obtain ⟨rfl, rfl, rfl⟩ := hq
        refine G.sk (st' := [_]) rfl ?_
        refine g_istore (n := 85) (ls' := [_, _, _, _, _, _, _, _, _, _, _, _]) C dL_isDone_83 rfl (by decide) rfl ?_
        refine g_iload (n := 87) C dL_isDone_85 rfl rfl ?_
        refine g_iconst (n := 88) (v := nI 3) C dL_isDone_87 rfl rfl ?_
        refine g_iremN (n := 89) C dL_isDone_88 (by omega) (by omega) (by omega) rfl ?_
        refine g_if_ne (n := 92) (tgt := 102) C dL_isDone_89 (by decide) rfl (fun h89 => absurd (by rw [h3]; rfl) h89) (fun h89 => ?_)
        refine g_iload (n := 94) C dL_isDone_92 rfl rfl ?_
        refine g_bipush (n := 96) (v := nI 50) C dL_isDone_94 rfl rfl ?_
        refine g_iremN (n := 97) C dL_isDone_96 (by omega) (by omega) (by omega) rfl ?_
        refine g_iconst (n := 98) (v := nI 2) C dL_isDone_97 rfl rfl ?_
        refine g_isub (n := 99) C dL_isDone_98 rfl ?_
        rw [← hv]
        refine g_goto (tgt := 106) C dL_isDone_99 (by decide) ?_
        skip
        refine g_istore (n := 108) (ls' := [_, _, _, _, _, _, _, _, _, _, _, _]) C dL_isDone_106 rfl (by decide) rfl ?_
        refine g_iload (n := 110) C dL_isDone_108 rfl rfl ?_
        refine g_iconst (n := 111) (v := -1) C dL_isDone_110 rfl rfl ?_
        refine g_icmp_lt (n := 114) (tgt := 126) C dL_isDone_111 (by decide) rfl (fun h111 => ?_) (fun h111 => ?_)
        · skip
          refine g_iconst (n := 127) (v := nI 0) C dL_isDone_126 rfl rfl ?_
          refine g_istore (n := 129) (ls' := [_, _, _, _, _, _, _, _, _, _, _, _]) C dL_isDone_127 rfl (by decide) rfl ?_
          refine g_iload (n := 131) C dL_isDone_129 rfl rfl ?_
          refine g_bipush (n := 133) (v := nI 9) C dL_isDone_131 rfl rfl ?_
          refine g_iremN (n := 134) C dL_isDone_133 (by omega) (by omega) (by omega) rfl ?_
          refine g_bipush (n := 136) (v := nI 8) C dL_isDone_134 rfl rfl ?_
          refine g_icmp_ne (n := 139) (tgt := 154) C dL_isDone_136 (by decide) rfl (fun h136 => absurd (by rw [hf8]) h136) (fun h136 => ?_)
          refine g_iload (n := 141) C dL_isDone_139 rfl rfl ?_
          refine g_bipush (n := 143) (v := -30) C dL_isDone_141 rfl rfl ?_
          refine g_icmp_ne (n := 146) (tgt := 150) C dL_isDone_143 (by decide) rfl (fun h143 => (by first | exact absurd h143 (by decide) | exact (h143 (by decide)).elim)) (fun h143 => ?_)
          refine g_iconst (n := 147) (v := nI 1) C dL_isDone_146 rfl rfl ?_
          refine g_goto (tgt := 203) C dL_isDone_147 (by decide) ?_
          refine g_zret C hr rfl dL_isDone_203 ?_ ⟨by first | omega | (simp only [gRm]; omega), by first | omega | (simp only [gRm]; omega)⟩
          exact ⟨rfl, Lc, g, rfl, hga, hg, n, PR, PL, S, A, I, h, hi, hgA⟩
        · skip
          refine g_iload (n := 116) C dL_isDone_114 rfl rfl ?_
          refine g_sipush (n := 119) (v := nI 10000) C dL_isDone_116 rfl rfl ?_
          refine g_icmp_ge (n := 122) (tgt := 126) C dL_isDone_119 (by decide) rfl (fun h119 => ?_) (fun h119 => ?_)
          · skip
            refine g_iconst (n := 127) (v := nI 0) C dL_isDone_126 rfl rfl ?_
            refine g_istore (n := 129) (ls' := [_, _, _, _, _, _, _, _, _, _, _, _]) C dL_isDone_127 rfl (by decide) rfl ?_
            refine g_iload (n := 131) C dL_isDone_129 rfl rfl ?_
            refine g_bipush (n := 133) (v := nI 9) C dL_isDone_131 rfl rfl ?_
            refine g_iremN (n := 134) C dL_isDone_133 (by omega) (by omega) (by omega) rfl ?_
            refine g_bipush (n := 136) (v := nI 8) C dL_isDone_134 rfl rfl ?_
            refine g_icmp_ne (n := 139) (tgt := 154) C dL_isDone_136 (by decide) rfl (fun h136 => absurd (by rw [hf8]) h136) (fun h136 => ?_)
            refine g_iload (n := 141) C dL_isDone_139 rfl rfl ?_
            refine g_bipush (n := 143) (v := -30) C dL_isDone_141 rfl rfl ?_
            refine g_icmp_ne (n := 146) (tgt := 150) C dL_isDone_143 (by decide) rfl (fun h143 => (by first | exact absurd h143 (by decide) | exact (h143 (by decide)).elim)) (fun h143 => ?_)
            refine g_iconst (n := 147) (v := nI 1) C dL_isDone_146 rfl rfl ?_
            refine g_goto (tgt := 203) C dL_isDone_147 (by decide) ?_
            refine g_zret C hr rfl dL_isDone_203 ?_ ⟨by first | omega | (simp only [gRm]; omega), by first | omega | (simp only [gRm]; omega)⟩
            exact ⟨rfl, Lc, g, rfl, hga, hg, n, PR, PL, S, A, I, h, hi, hgA⟩
          · skip
            refine g_iconst (n := 123) (v := nI 1) C dL_isDone_122 rfl rfl ?_
            refine g_goto (tgt := 127) C dL_isDone_123 (by decide) ?_
            refine g_istore (n := 129) (ls' := [_, _, _, _, _, _, _, _, _, _, _, _]) C dL_isDone_127 rfl (by decide) rfl ?_
            refine g_iload (n := 131) C dL_isDone_129 rfl rfl ?_
            refine g_bipush (n := 133) (v := nI 9) C dL_isDone_131 rfl rfl ?_
            refine g_iremN (n := 134) C dL_isDone_133 (by omega) (by omega) (by omega) rfl ?_
            refine g_bipush (n := 136) (v := nI 8) C dL_isDone_134 rfl rfl ?_
            refine g_icmp_ne (n := 139) (tgt := 154) C dL_isDone_136 (by decide) rfl (fun h136 => absurd (by rw [hf8]) h136) (fun h136 => ?_)
            refine g_iload (n := 141) C dL_isDone_139 rfl rfl ?_
            refine g_bipush (n := 143) (v := -30) C dL_isDone_141 rfl rfl ?_
            refine g_icmp_ne (n := 146) (tgt := 150) C dL_isDone_143 (by decide) rfl (fun h143 => (by first | exact absurd h143 (by decide) | exact (h143 (by decide)).elim)) (fun h143 => ?_)
            refine g_iconst (n := 147) (v := nI 1) C dL_isDone_146 rfl rfl ?_
            refine g_goto (tgt := 203) C dL_isDone_147 (by decide) ?_
            refine g_zret C hr rfl dL_isDone_203 ?_ ⟨by first | omega | (simp only [gRm]; omega), by first | omega | (simp only [gRm]; omega)⟩
            exact ⟨rfl, Lc, g, rfl, hga, hg, n, PR, PL, S, A, I, h, hi, hgA⟩
      · by_cases hgc : gct v
        · refine g_iload (n := 47) C dL_isDone_45 rfl rfl ?_
          refine g_iconst (n := 48) (v := nI 4) C dL_isDone_47 rfl rfl ?_
          refine g_icmp_ge (n := 51) (tgt := 204) C dL_isDone_48 (by decide) rfl (fun h48 => absurd h48 (fun z => by have := gn_ge z (by decide) (by omega); omega)) (fun h48 => ?_)
          refine g_aload_n (n := 52) C dL_isDone_51 rfl (Or.inr ⟨_, rfl⟩) rfl ?_
          refine g_iconst (n := 53) (v := nI 0) C dL_isDone_52 rfl rfl ?_
          refine g_iload (n := 55) C dL_isDone_53 rfl rfl ?_
          refine g_bipush (n := 57) (v := nI 9) C dL_isDone_55 rfl rfl ?_
          refine g_iremN (n := 58) C dL_isDone_57 (by omega) (by omega) (by omega) rfl ?_
          refine g_iload (n := 60) C dL_isDone_58 rfl rfl ?_
          refine g_iconst (n := 61) (v := nI 3) C dL_isDone_60 rfl rfl ?_
          refine g_iremN (n := 62) C dL_isDone_61 (by omega) (by omega) (by omega) rfl ?_
          refine g_if_ne (n := 65) (tgt := 75) C dL_isDone_62 (by decide) rfl (fun h62 => absurd (by rw [h3]; rfl) h62) (fun h62 => ?_)
          refine g_iload (n := 67) C dL_isDone_65 rfl rfl ?_
          refine g_bipush (n := 69) (v := nI 50) C dL_isDone_67 rfl rfl ?_
          refine g_iremN (n := 70) C dL_isDone_69 (by omega) (by omega) (by omega) rfl ?_
          refine g_iconst (n := 71) (v := nI 2) C dL_isDone_70 rfl rfl ?_
          refine g_isub (n := 72) C dL_isDone_71 rfl ?_
          rw [← hv]
          refine g_goto (tgt := 79) C dL_isDone_72 (by decide) ?_
          skip
          refine g_iconst (n := 80) (v := nI 0) C dL_isDone_79 rfl rfl ?_
          refine g_SH (n := 83) (rest := []) C (gH9.g (t_setFile hE hl hN h (j := ja % 9) (by omega) (y := v) hgc (nI 0)) (fun _ _ _ z1 z2 => z1.ext z2) hg) dL_isDone_80 kH_sets kW_L_124 kT_sets rfl rfl (Nat.le_of_ble_eq_true rfl) ⟨by decide, by decide⟩ ⟨by first | omega | (simp only [gRm]; omega), by first | omega | (simp only [gRm]; omega)⟩ rfl (fun v9 L9 f9 hq => ?_)
          obtain ⟨rfl, L2, rfl, hga2, h2, hg2⟩ := hq
          refine G.sk (st' := [_]) rfl ?_
          refine g_istore (n := 85) (ls' := [_, _, _, _, _, _, _, _, _, _, _, _]) C dL_isDone_83 rfl (by decide) rfl ?_
          refine g_iload (n := 87) C dL_isDone_85 rfl rfl ?_
          refine g_iconst (n := 88) (v := nI 3) C dL_isDone_87 rfl rfl ?_
          refine g_iremN (n := 89) C dL_isDone_88 (by omega) (by omega) (by omega) rfl ?_
          refine g_if_ne (n := 92) (tgt := 102) C dL_isDone_89 (by decide) rfl (fun h89 => absurd (by rw [h3]; rfl) h89) (fun h89 => ?_)
          refine g_iload (n := 94) C dL_isDone_92 rfl rfl ?_
          refine g_bipush (n := 96) (v := nI 50) C dL_isDone_94 rfl rfl ?_
          refine g_iremN (n := 97) C dL_isDone_96 (by omega) (by omega) (by omega) rfl ?_
          refine g_iconst (n := 98) (v := nI 2) C dL_isDone_97 rfl rfl ?_
          refine g_isub (n := 99) C dL_isDone_98 rfl ?_
          rw [← hv]
          refine g_goto (tgt := 106) C dL_isDone_99 (by decide) ?_
          skip
          refine g_istore (n := 108) (ls' := [_, _, _, _, _, _, _, _, _, _, _, _]) C dL_isDone_106 rfl (by decide) rfl ?_
          refine g_iload (n := 110) C dL_isDone_108 rfl rfl ?_
          refine g_iconst (n := 111) (v := -1) C dL_isDone_110 rfl rfl ?_
          refine g_icmp_lt (n := 114) (tgt := 126) C dL_isDone_111 (by decide) rfl (fun h111 => absurd h111 (gct_lo hgc)) (fun h111 => ?_)
          refine g_iload (n := 116) C dL_isDone_114 rfl rfl ?_
          refine g_sipush (n := 119) (v := nI 10000) C dL_isDone_116 rfl rfl ?_
          refine g_icmp_ge (n := 122) (tgt := 126) C dL_isDone_119 (by decide) rfl (fun h119 => absurd h119 (gct_hi hgc)) (fun h119 => ?_)
          refine g_iconst (n := 123) (v := nI 1) C dL_isDone_122 rfl rfl ?_
          refine g_goto (tgt := 127) C dL_isDone_123 (by decide) ?_
          refine g_istore (n := 129) (ls' := [_, _, _, _, _, _, _, _, _, _, _, _]) C dL_isDone_127 rfl (by decide) rfl ?_
          refine g_iload (n := 131) C dL_isDone_129 rfl rfl ?_
          refine g_bipush (n := 133) (v := nI 9) C dL_isDone_131 rfl rfl ?_
          refine g_iremN (n := 134) C dL_isDone_133 (by omega) (by omega) (by omega) rfl ?_
          refine g_bipush (n := 136) (v := nI 8) C dL_isDone_134 rfl rfl ?_
          refine g_icmp_ne (n := 139) (tgt := 154) C dL_isDone_136 (by decide) rfl (fun h136 => ?_) (fun h136 => absurd h136 (fun z => hf8 (gn_inj (by omega) (by decide) z)))
          refine g_iload (n := 156) C dL_isDone_154 rfl rfl ?_
          refine g_if_ne (n := 159) (tgt := 174) C dL_isDone_156 (by decide) rfl (fun h156 => ?_) (fun h156 => absurd h156 (by decide))
          refine g_iload (n := 176) C dL_isDone_174 rfl rfl ?_
          refine g_iconst (n := 177) (v := -1) C dL_isDone_176 rfl rfl ?_
          refine g_icmp_lt (n := 180) (tgt := 202) C dL_isDone_177 (by decide) rfl (fun h177 => absurd h177 (gct_lo (h.ct.1 (ja % 9) (by omega)))) (fun h177 => ?_)
          refine g_aload_n (n := 181) C dL_isDone_180 rfl (Or.inr ⟨_, rfl⟩) rfl ?_
          refine g_iconst (n := 182) (v := nI 0) C dL_isDone_181 rfl rfl ?_
          refine g_iload (n := 184) C dL_isDone_182 rfl rfl ?_
          refine g_bipush (n := 186) (v := nI 9) C dL_isDone_184 rfl rfl ?_
          refine g_iremN (n := 187) C dL_isDone_186 (by omega) (by omega) (by omega) rfl ?_
          refine g_iload (n := 189) C dL_isDone_187 rfl rfl ?_
          refine g_iconst (n := 190) (v := nI 0) C dL_isDone_189 rfl rfl ?_
          refine g_SH (n := 193) (rest := []) C (gH9.g (t_setFile hE hl hN h2 (j := ja % 9) (by omega) (y := v) hgc (nI 0)) (fun _ _ _ z1 z2 => z1.ext z2) hg2) dL_isDone_190 kH_sets kW_L_124 kT_sets rfl rfl (Nat.le_of_ble_eq_true rfl) ⟨by decide, by decide⟩ ⟨by first | omega | (simp only [gRm]; omega), by first | omega | (simp only [gRm]; omega)⟩ rfl (fun v9 L9 f9 hq => ?_)
          obtain ⟨rfl, L3, rfl, hga3, h4, hg3⟩ := hq
          refine G.sk (st' := [_]) rfl ?_
          rw [mU_s]
          refine g_iload (n := 195) C dL_isDone_193 rfl rfl ?_
          refine g_icmp_ne (n := 198) (tgt := 202) C dL_isDone_195 (by decide) rfl (fun h195 => absurd rfl h195) (fun h195 => ?_)
          refine g_iconst (n := 199) (v := nI 1) C dL_isDone_198 rfl rfl ?_
          refine g_goto (tgt := 203) C dL_isDone_199 (by decide) ?_
          refine g_zret C hr rfl dL_isDone_203 ?_ ⟨by first | omega | (simp only [gRm]; omega), by first | omega | (simp only [gRm]; omega)⟩
          exact ⟨rfl, L3, g, rfl, hga3, hg3, n, PR, PL, S, _, I, h4, (hi.ag hpar (mU_ag (by decide))).ag hpar (mU_ag (by decide)), fun i hi4 => by rw [mU_k (by decide), mU_k (by decide)]; exact hgA i hi4⟩
        · refine g_iload (n := 47) C dL_isDone_45 rfl rfl ?_
          refine g_iconst (n := 48) (v := nI 4) C dL_isDone_47 rfl rfl ?_
          refine g_icmp_ge (n := 51) (tgt := 204) C dL_isDone_48 (by decide) rfl (fun h48 => absurd h48 (fun z => by have := gn_ge z (by decide) (by omega); omega)) (fun h48 => ?_)
          refine g_aload_n (n := 52) C dL_isDone_51 rfl (Or.inr ⟨_, rfl⟩) rfl ?_
          refine g_iconst (n := 53) (v := nI 0) C dL_isDone_52 rfl rfl ?_
          refine g_iload (n := 55) C dL_isDone_53 rfl rfl ?_
          refine g_bipush (n := 57) (v := nI 9) C dL_isDone_55 rfl rfl ?_
          refine g_iremN (n := 58) C dL_isDone_57 (by omega) (by omega) (by omega) rfl ?_
          refine g_iload (n := 60) C dL_isDone_58 rfl rfl ?_
          refine g_iconst (n := 61) (v := nI 3) C dL_isDone_60 rfl rfl ?_
          refine g_iremN (n := 62) C dL_isDone_61 (by omega) (by omega) (by omega) rfl ?_
          refine g_if_ne (n := 65) (tgt := 75) C dL_isDone_62 (by decide) rfl (fun h62 => absurd (by rw [h3]; rfl) h62) (fun h62 => ?_)
          refine g_iload (n := 67) C dL_isDone_65 rfl rfl ?_
          refine g_bipush (n := 69) (v := nI 50) C dL_isDone_67 rfl rfl ?_
          refine g_iremN (n := 70) C dL_isDone_69 (by omega) (by omega) (by omega) rfl ?_
          refine g_iconst (n := 71) (v := nI 2) C dL_isDone_70 rfl rfl ?_
          refine g_isub (n := 72) C dL_isDone_71 rfl ?_
          rw [← hv]
          refine g_goto (tgt := 79) C dL_isDone_72 (by decide) ?_
          skip
          refine g_iconst (n := 80) (v := nI 0) C dL_isDone_79 rfl rfl ?_
          refine g_SH (n := 83) (rest := []) C (tn_setFile_A hE hl hN (h.up [ga]) (x := nI (ja % 9)) (y := v) ⟨ja % 9, by omega, rfl⟩ hgc (nI 0)) dL_isDone_80 kH_sets kW_L_124 kT_sets rfl rfl (Nat.le_of_ble_eq_true rfl) ⟨by decide, by decide⟩ ⟨by first | omega | (simp only [gRm]; omega), by first | omega | (simp only [gRm]; omega)⟩ rfl (fun v9 L9 f9 hq => ?_)
          obtain ⟨rfl, rfl, rfl⟩ := hq
          refine G.sk (st' := [_]) rfl ?_
          refine g_istore (n := 85) (ls' := [_, _, _, _, _, _, _, _, _, _, _, _]) C dL_isDone_83 rfl (by decide) rfl ?_
          refine g_iload (n := 87) C dL_isDone_85 rfl rfl ?_
          refine g_iconst (n := 88) (v := nI 3) C dL_isDone_87 rfl rfl ?_
          refine g_iremN (n := 89) C dL_isDone_88 (by omega) (by omega) (by omega) rfl ?_
          refine g_if_ne (n := 92) (tgt := 102) C dL_isDone_89 (by decide) rfl (fun h89 => absurd (by rw [h3]; rfl) h89) (fun h89 => ?_)
          refine g_iload (n := 94) C dL_isDone_92 rfl rfl ?_
          refine g_bipush (n := 96) (v := nI 50) C dL_isDone_94 rfl rfl ?_
          refine g_iremN (n := 97) C dL_isDone_96 (by omega) (by omega) (by omega) rfl ?_
          refine g_iconst (n := 98) (v := nI 2) C dL_isDone_97 rfl rfl ?_
          refine g_isub (n := 99) C dL_isDone_98 rfl ?_
          rw [← hv]
          refine g_goto (tgt := 106) C dL_isDone_99 (by decide) ?_
          skip
          refine g_istore (n := 108) (ls' := [_, _, _, _, _, _, _, _, _, _, _, _]) C dL_isDone_106 rfl (by decide) rfl ?_
          refine g_iload (n := 110) C dL_isDone_108 rfl rfl ?_
          refine g_iconst (n := 111) (v := -1) C dL_isDone_110 rfl rfl ?_
          refine g_icmp_lt (n := 114) (tgt := 126) C dL_isDone_111 (by decide) rfl (fun h111 => ?_) (fun h111 => ?_)
          · skip
            refine g_iconst (n := 127) (v := nI 0) C dL_isDone_126 rfl rfl ?_
            refine g_istore (n := 129) (ls' := [_, _, _, _, _, _, _, _, _, _, _, _]) C dL_isDone_127 rfl (by decide) rfl ?_
            refine g_iload (n := 131) C dL_isDone_129 rfl rfl ?_
            refine g_bipush (n := 133) (v := nI 9) C dL_isDone_131 rfl rfl ?_
            refine g_iremN (n := 134) C dL_isDone_133 (by omega) (by omega) (by omega) rfl ?_
            refine g_bipush (n := 136) (v := nI 8) C dL_isDone_134 rfl rfl ?_
            refine g_icmp_ne (n := 139) (tgt := 154) C dL_isDone_136 (by decide) rfl (fun h136 => ?_) (fun h136 => absurd h136 (fun z => hf8 (gn_inj (by omega) (by decide) z)))
            refine g_iload (n := 156) C dL_isDone_154 rfl rfl ?_
            refine g_if_ne (n := 159) (tgt := 174) C dL_isDone_156 (by decide) rfl (fun h156 => (by first | exact absurd h156 (by decide) | exact (h156 (by decide)).elim)) (fun h156 => ?_)
            refine g_iload (n := 161) C dL_isDone_159 rfl rfl ?_
            refine g_bipush (n := 163) (v := -20) C dL_isDone_161 rfl rfl ?_
            refine g_icmp_ne (n := 166) (tgt := 170) C dL_isDone_163 (by decide) rfl (fun h163 => (by first | exact absurd h163 (by decide) | exact (h163 (by decide)).elim)) (fun h163 => ?_)
            refine g_iconst (n := 167) (v := nI 1) C dL_isDone_166 rfl rfl ?_
            refine g_goto (tgt := 203) C dL_isDone_167 (by decide) ?_
            refine g_zret C hr rfl dL_isDone_203 ?_ ⟨by first | omega | (simp only [gRm]; omega), by first | omega | (simp only [gRm]; omega)⟩
            exact ⟨rfl, Lc, g, rfl, hga, hg, n, PR, PL, S, A, I, h, hi, hgA⟩
          · skip
            refine g_iload (n := 116) C dL_isDone_114 rfl rfl ?_
            refine g_sipush (n := 119) (v := nI 10000) C dL_isDone_116 rfl rfl ?_
            refine g_icmp_ge (n := 122) (tgt := 126) C dL_isDone_119 (by decide) rfl (fun h119 => ?_) (fun h119 => absurd (gct_of h111 h119) hgc)
            refine g_iconst (n := 127) (v := nI 0) C dL_isDone_126 rfl rfl ?_
            refine g_istore (n := 129) (ls' := [_, _, _, _, _, _, _, _, _, _, _, _]) C dL_isDone_127 rfl (by decide) rfl ?_
            refine g_iload (n := 131) C dL_isDone_129 rfl rfl ?_
            refine g_bipush (n := 133) (v := nI 9) C dL_isDone_131 rfl rfl ?_
            refine g_iremN (n := 134) C dL_isDone_133 (by omega) (by omega) (by omega) rfl ?_
            refine g_bipush (n := 136) (v := nI 8) C dL_isDone_134 rfl rfl ?_
            refine g_icmp_ne (n := 139) (tgt := 154) C dL_isDone_136 (by decide) rfl (fun h136 => ?_) (fun h136 => absurd h136 (fun z => hf8 (gn_inj (by omega) (by decide) z)))
            refine g_iload (n := 156) C dL_isDone_154 rfl rfl ?_
            refine g_if_ne (n := 159) (tgt := 174) C dL_isDone_156 (by decide) rfl (fun h156 => (by first | exact absurd h156 (by decide) | exact (h156 (by decide)).elim)) (fun h156 => ?_)
            refine g_iload (n := 161) C dL_isDone_159 rfl rfl ?_
            refine g_bipush (n := 163) (v := -20) C dL_isDone_161 rfl rfl ?_
            refine g_icmp_ne (n := 166) (tgt := 170) C dL_isDone_163 (by decide) rfl (fun h163 => (by first | exact absurd h163 (by decide) | exact (h163 (by decide)).elim)) (fun h163 => ?_)
            refine g_iconst (n := 167) (v := nI 1) C dL_isDone_166 rfl rfl ?_
            refine g_goto (tgt := 203) C dL_isDone_167 (by decide) ?_
            refine g_zret C hr rfl dL_isDone_203 ?_ ⟨by first | omega | (simp only [gRm]; omega), by first | omega | (simp only [gRm]; omega)⟩
            exact ⟨rfl, Lc, g, rfl, hga, hg, n, PR, PL, S, A, I, h, hi, hgA⟩
    · obtain ⟨v, hv⟩ : ∃ v, v = nI jc - nI 1 := ⟨_, rfl⟩
      by_cases hf8 : ja % 9 = 8
      · refine g_iload (n := 47) C dL_isDone_45 rfl rfl ?_
        refine g_iconst (n := 48) (v := nI 4) C dL_isDone_47 rfl rfl ?_
        refine g_icmp_ge (n := 51) (tgt := 204) C dL_isDone_48 (by decide) rfl (fun h48 => absurd h48 (fun z => by have := gn_ge z (by decide) (by omega); omega)) (fun h48 => ?_)
        refine g_aload_n (n := 52) C dL_isDone_51 rfl (Or.inr ⟨_, rfl⟩) rfl ?_
        refine g_iconst (n := 53) (v := nI 0) C dL_isDone_52 rfl rfl ?_
        refine g_iload (n := 55) C dL_isDone_53 rfl rfl ?_
        refine g_bipush (n := 57) (v := nI 9) C dL_isDone_55 rfl rfl ?_
        refine g_iremN (n := 58) C dL_isDone_57 (by omega) (by omega) (by omega) rfl ?_
        refine g_iload (n := 60) C dL_isDone_58 rfl rfl ?_
        refine g_iconst (n := 61) (v := nI 3) C dL_isDone_60 rfl rfl ?_
        refine g_iremN (n := 62) C dL_isDone_61 (by omega) (by omega) (by omega) rfl ?_
        refine g_if_ne (n := 65) (tgt := 75) C dL_isDone_62 (by decide) rfl (fun h62 => ?_) (fun h62 => absurd h62 (fun z => h3 (gn_inj (b := 0) (by omega) (by decide) z)))
        refine g_iload (n := 77) C dL_isDone_75 rfl rfl ?_
        refine g_iconst (n := 78) (v := nI 1) C dL_isDone_77 rfl rfl ?_
        refine g_isub (n := 79) C dL_isDone_78 rfl ?_
        rw [← hv]
        refine g_iconst (n := 80) (v := nI 0) C dL_isDone_79 rfl rfl ?_
        refine g_SH (n := 83) (rest := []) C (tn_setFile_I hE hl hN (h.up [ga]) (x := nI (ja % 9)) (y := v) (fun ⟨q, hq, eq⟩ => by have := gn_inj (by omega) (by omega) eq; omega) (nI 0)) dL_isDone_80 kH_sets kW_L_124 kT_sets rfl rfl (Nat.le_of_ble_eq_true rfl) ⟨by decide, by decide⟩ ⟨by first | omega | (simp only [gRm]; omega), by first | omega | (simp only [gRm]; omega)⟩ rfl (fun v9 L9 f9 hq => ?_)
        obtain ⟨rfl, rfl, rfl⟩ := hq
        refine G.sk (st' := [_]) rfl ?_
        refine g_istore (n := 85) (ls' := [_, _, _, _, _, _, _, _, _, _, _, _]) C dL_isDone_83 rfl (by decide) rfl ?_
        refine g_iload (n := 87) C dL_isDone_85 rfl rfl ?_
        refine g_iconst (n := 88) (v := nI 3) C dL_isDone_87 rfl rfl ?_
        refine g_iremN (n := 89) C dL_isDone_88 (by omega) (by omega) (by omega) rfl ?_
        refine g_if_ne (n := 92) (tgt := 102) C dL_isDone_89 (by decide) rfl (fun h89 => ?_) (fun h89 => absurd h89 (fun z => h3 (gn_inj (b := 0) (by omega) (by decide) z)))
        refine g_iload (n := 104) C dL_isDone_102 rfl rfl ?_
        refine g_iconst (n := 105) (v := nI 1) C dL_isDone_104 rfl rfl ?_
        refine g_isub (n := 106) C dL_isDone_105 rfl ?_
        rw [← hv]
        refine g_istore (n := 108) (ls' := [_, _, _, _, _, _, _, _, _, _, _, _]) C dL_isDone_106 rfl (by decide) rfl ?_
        refine g_iload (n := 110) C dL_isDone_108 rfl rfl ?_
        refine g_iconst (n := 111) (v := -1) C dL_isDone_110 rfl rfl ?_
        refine g_icmp_lt (n := 114) (tgt := 126) C dL_isDone_111 (by decide) rfl (fun h111 => ?_) (fun h111 => ?_)
        · skip
          refine g_iconst (n := 127) (v := nI 0) C dL_isDone_126 rfl rfl ?_
          refine g_istore (n := 129) (ls' := [_, _, _, _, _, _, _, _, _, _, _, _]) C dL_isDone_127 rfl (by decide) rfl ?_
          refine g_iload (n := 131) C dL_isDone_129 rfl rfl ?_
          refine g_bipush (n := 133) (v := nI 9) C dL_isDone_131 rfl rfl ?_
          refine g_iremN (n := 134) C dL_isDone_133 (by omega) (by omega) (by omega) rfl ?_
          refine g_bipush (n := 136) (v := nI 8) C dL_isDone_134 rfl rfl ?_
          refine g_icmp_ne (n := 139) (tgt := 154) C dL_isDone_136 (by decide) rfl (fun h136 => absurd (by rw [hf8]) h136) (fun h136 => ?_)
          refine g_iload (n := 141) C dL_isDone_139 rfl rfl ?_
          refine g_bipush (n := 143) (v := -30) C dL_isDone_141 rfl rfl ?_
          refine g_icmp_ne (n := 146) (tgt := 150) C dL_isDone_143 (by decide) rfl (fun h143 => (by first | exact absurd h143 (by decide) | exact (h143 (by decide)).elim)) (fun h143 => ?_)
          refine g_iconst (n := 147) (v := nI 1) C dL_isDone_146 rfl rfl ?_
          refine g_goto (tgt := 203) C dL_isDone_147 (by decide) ?_
          refine g_zret C hr rfl dL_isDone_203 ?_ ⟨by first | omega | (simp only [gRm]; omega), by first | omega | (simp only [gRm]; omega)⟩
          exact ⟨rfl, Lc, g, rfl, hga, hg, n, PR, PL, S, A, I, h, hi, hgA⟩
        · skip
          refine g_iload (n := 116) C dL_isDone_114 rfl rfl ?_
          refine g_sipush (n := 119) (v := nI 10000) C dL_isDone_116 rfl rfl ?_
          refine g_icmp_ge (n := 122) (tgt := 126) C dL_isDone_119 (by decide) rfl (fun h119 => ?_) (fun h119 => ?_)
          · skip
            refine g_iconst (n := 127) (v := nI 0) C dL_isDone_126 rfl rfl ?_
            refine g_istore (n := 129) (ls' := [_, _, _, _, _, _, _, _, _, _, _, _]) C dL_isDone_127 rfl (by decide) rfl ?_
            refine g_iload (n := 131) C dL_isDone_129 rfl rfl ?_
            refine g_bipush (n := 133) (v := nI 9) C dL_isDone_131 rfl rfl ?_
            refine g_iremN (n := 134) C dL_isDone_133 (by omega) (by omega) (by omega) rfl ?_
            refine g_bipush (n := 136) (v := nI 8) C dL_isDone_134 rfl rfl ?_
            refine g_icmp_ne (n := 139) (tgt := 154) C dL_isDone_136 (by decide) rfl (fun h136 => absurd (by rw [hf8]) h136) (fun h136 => ?_)
            refine g_iload (n := 141) C dL_isDone_139 rfl rfl ?_
            refine g_bipush (n := 143) (v := -30) C dL_isDone_141 rfl rfl ?_
            refine g_icmp_ne (n := 146) (tgt := 150) C dL_isDone_143 (by decide) rfl (fun h143 => (by first | exact absurd h143 (by decide) | exact (h143 (by decide)).elim)) (fun h143 => ?_)
            refine g_iconst (n := 147) (v := nI 1) C dL_isDone_146 rfl rfl ?_
            refine g_goto (tgt := 203) C dL_isDone_147 (by decide) ?_
            refine g_zret C hr rfl dL_isDone_203 ?_ ⟨by first | omega | (simp only [gRm]; omega), by first | omega | (simp only [gRm]; omega)⟩
            exact ⟨rfl, Lc, g, rfl, hga, hg, n, PR, PL, S, A, I, h, hi, hgA⟩
          · skip
            refine g_iconst (n := 123) (v := nI 1) C dL_isDone_122 rfl rfl ?_
            refine g_goto (tgt := 127) C dL_isDone_123 (by decide) ?_
            refine g_istore (n := 129) (ls' := [_, _, _, _, _, _, _, _, _, _, _, _]) C dL_isDone_127 rfl (by decide) rfl ?_
            refine g_iload (n := 131) C dL_isDone_129 rfl rfl ?_
            refine g_bipush (n := 133) (v := nI 9) C dL_isDone_131 rfl rfl ?_
            refine g_iremN (n := 134) C dL_isDone_133 (by omega) (by omega) (by omega) rfl ?_
            refine g_bipush (n := 136) (v := nI 8) C dL_isDone_134 rfl rfl ?_
            refine g_icmp_ne (n := 139) (tgt := 154) C dL_isDone_136 (by decide) rfl (fun h136 => absurd (by rw [hf8]) h136) (fun h136 => ?_)
            refine g_iload (n := 141) C dL_isDone_139 rfl rfl ?_
            refine g_bipush (n := 143) (v := -30) C dL_isDone_141 rfl rfl ?_
            refine g_icmp_ne (n := 146) (tgt := 150) C dL_isDone_143 (by decide) rfl (fun h143 => (by first | exact absurd h143 (by decide) | exact (h143 (by decide)).elim)) (fun h143 => ?_)
            refine g_iconst (n := 147) (v := nI 1) C dL_isDone_146 rfl rfl ?_
            refine g_goto (tgt := 203) C dL_isDone_147 (by decide) ?_
            refine g_zret C hr rfl dL_isDone_203 ?_ ⟨by first | omega | (simp only [gRm]; omega), by first | omega | (simp only [gRm]; omega)⟩
            exact ⟨rfl, Lc, g, rfl, hga, hg, n, PR, PL, S, A, I, h, hi, hgA⟩
      · by_cases hgc : gct v
        · refine g_iload (n := 47) C dL_isDone_45 rfl rfl ?_
          refine g_iconst (n := 48) (v := nI 4) C dL_isDone_47 rfl rfl ?_
          refine g_icmp_ge (n := 51) (tgt := 204) C dL_isDone_48 (by decide) rfl (fun h48 => absurd h48 (fun z => by have := gn_ge z (by decide) (by omega); omega)) (fun h48 => ?_)
          refine g_aload_n (n := 52) C dL_isDone_51 rfl (Or.inr ⟨_, rfl⟩) rfl ?_
          refine g_iconst (n := 53) (v := nI 0) C dL_isDone_52 rfl rfl ?_
          refine g_iload (n := 55) C dL_isDone_53 rfl rfl ?_
          refine g_bipush (n := 57) (v := nI 9) C dL_isDone_55 rfl rfl ?_
          refine g_iremN (n := 58) C dL_isDone_57 (by omega) (by omega) (by omega) rfl ?_
          refine g_iload (n := 60) C dL_isDone_58 rfl rfl ?_
          refine g_iconst (n := 61) (v := nI 3) C dL_isDone_60 rfl rfl ?_
          refine g_iremN (n := 62) C dL_isDone_61 (by omega) (by omega) (by omega) rfl ?_
          refine g_if_ne (n := 65) (tgt := 75) C dL_isDone_62 (by decide) rfl (fun h62 => ?_) (fun h62 => absurd h62 (fun z => h3 (gn_inj (b := 0) (by omega) (by decide) z)))
          refine g_iload (n := 77) C dL_isDone_75 rfl rfl ?_
          refine g_iconst (n := 78) (v := nI 1) C dL_isDone_77 rfl rfl ?_
          refine g_isub (n := 79) C dL_isDone_78 rfl ?_
          rw [← hv]
          refine g_iconst (n := 80) (v := nI 0) C dL_isDone_79 rfl rfl ?_
          refine g_SH (n := 83) (rest := []) C (gH9.g (t_setFile hE hl hN h (j := ja % 9) (by omega) (y := v) hgc (nI 0)) (fun _ _ _ z1 z2 => z1.ext z2) hg) dL_isDone_80 kH_sets kW_L_124 kT_sets rfl rfl (Nat.le_of_ble_eq_true rfl) ⟨by decide, by decide⟩ ⟨by first | omega | (simp only [gRm]; omega), by first | omega | (simp only [gRm]; omega)⟩ rfl (fun v9 L9 f9 hq => ?_)
          obtain ⟨rfl, L2, rfl, hga2, h2, hg2⟩ := hq
          refine G.sk (st' := [_]) rfl ?_
          refine g_istore (n := 85) (ls' := [_, _, _, _, _, _, _, _, _, _, _, _]) C dL_isDone_83 rfl (by decide) rfl ?_
          refine g_iload (n := 87) C dL_isDone_85 rfl rfl ?_
          refine g_iconst (n := 88) (v := nI 3) C dL_isDone_87 rfl rfl ?_
          refine g_iremN (n := 89) C dL_isDone_88 (by omega) (by omega) (by omega) rfl ?_
          refine g_if_ne (n := 92) (tgt := 102) C dL_isDone_89 (by decide) rfl (fun h89 => ?_) (fun h89 => absurd h89 (fun z => h3 (gn_inj (b := 0) (by omega) (by decide) z)))
          refine g_iload (n := 104) C dL_isDone_102 rfl rfl ?_
          refine g_iconst (n := 105) (v := nI 1) C dL_isDone_104 rfl rfl ?_
          refine g_isub (n := 106) C dL_isDone_105 rfl ?_
          rw [← hv]
          refine g_istore (n := 108) (ls' := [_, _, _, _, _, _, _, _, _, _, _, _]) C dL_isDone_106 rfl (by decide) rfl ?_
          refine g_iload (n := 110) C dL_isDone_108 rfl rfl ?_
          refine g_iconst (n := 111) (v := -1) C dL_isDone_110 rfl rfl ?_
          refine g_icmp_lt (n := 114) (tgt := 126) C dL_isDone_111 (by decide) rfl (fun h111 => absurd h111 (gct_lo hgc)) (fun h111 => ?_)
          refine g_iload (n := 116) C dL_isDone_114 rfl rfl ?_
          refine g_sipush (n := 119) (v := nI 10000) C dL_isDone_116 rfl rfl ?_
          refine g_icmp_ge (n := 122) (tgt := 126) C dL_isDone_119 (by decide) rfl (fun h119 => absurd h119 (gct_hi hgc)) (fun h119 => ?_)
          refine g_iconst (n := 123) (v := nI 1) C dL_isDone_122 rfl rfl ?_
          refine g_goto (tgt := 127) C dL_isDone_123 (by decide) ?_
          refine g_istore (n := 129) (ls' := [_, _, _, _, _, _, _, _, _, _, _, _]) C dL_isDone_127 rfl (by decide) rfl ?_
          refine g_iload (n := 131) C dL_isDone_129 rfl rfl ?_
          refine g_bipush (n := 133) (v := nI 9) C dL_isDone_131 rfl rfl ?_
          refine g_iremN (n := 134) C dL_isDone_133 (by omega) (by omega) (by omega) rfl ?_
          refine g_bipush (n := 136) (v := nI 8) C dL_isDone_134 rfl rfl ?_
          refine g_icmp_ne (n := 139) (tgt := 154) C dL_isDone_136 (by decide) rfl (fun h136 => ?_) (fun h136 => absurd h136 (fun z => hf8 (gn_inj (by omega) (by decide) z)))
          refine g_iload (n := 156) C dL_isDone_154 rfl rfl ?_
          refine g_if_ne (n := 159) (tgt := 174) C dL_isDone_156 (by decide) rfl (fun h156 => ?_) (fun h156 => absurd h156 (by decide))
          refine g_iload (n := 176) C dL_isDone_174 rfl rfl ?_
          refine g_iconst (n := 177) (v := -1) C dL_isDone_176 rfl rfl ?_
          refine g_icmp_lt (n := 180) (tgt := 202) C dL_isDone_177 (by decide) rfl (fun h177 => absurd h177 (gct_lo (h.ct.1 (ja % 9) (by omega)))) (fun h177 => ?_)
          refine g_aload_n (n := 181) C dL_isDone_180 rfl (Or.inr ⟨_, rfl⟩) rfl ?_
          refine g_iconst (n := 182) (v := nI 0) C dL_isDone_181 rfl rfl ?_
          refine g_iload (n := 184) C dL_isDone_182 rfl rfl ?_
          refine g_bipush (n := 186) (v := nI 9) C dL_isDone_184 rfl rfl ?_
          refine g_iremN (n := 187) C dL_isDone_186 (by omega) (by omega) (by omega) rfl ?_
          refine g_iload (n := 189) C dL_isDone_187 rfl rfl ?_
          refine g_iconst (n := 190) (v := nI 0) C dL_isDone_189 rfl rfl ?_
          refine g_SH (n := 193) (rest := []) C (gH9.g (t_setFile hE hl hN h2 (j := ja % 9) (by omega) (y := v) hgc (nI 0)) (fun _ _ _ z1 z2 => z1.ext z2) hg2) dL_isDone_190 kH_sets kW_L_124 kT_sets rfl rfl (Nat.le_of_ble_eq_true rfl) ⟨by decide, by decide⟩ ⟨by first | omega | (simp only [gRm]; omega), by first | omega | (simp only [gRm]; omega)⟩ rfl (fun v9 L9 f9 hq => ?_)
          obtain ⟨rfl, L3, rfl, hga3, h4, hg3⟩ := hq
          refine G.sk (st' := [_]) rfl ?_
          rw [mU_s]
          refine g_iload (n := 195) C dL_isDone_193 rfl rfl ?_
          refine g_icmp_ne (n := 198) (tgt := 202) C dL_isDone_195 (by decide) rfl (fun h195 => absurd rfl h195) (fun h195 => ?_)
          refine g_iconst (n := 199) (v := nI 1) C dL_isDone_198 rfl rfl ?_
          refine g_goto (tgt := 203) C dL_isDone_199 (by decide) ?_
          refine g_zret C hr rfl dL_isDone_203 ?_ ⟨by first | omega | (simp only [gRm]; omega), by first | omega | (simp only [gRm]; omega)⟩
          exact ⟨rfl, L3, g, rfl, hga3, hg3, n, PR, PL, S, _, I, h4, (hi.ag hpar (mU_ag (by decide))).ag hpar (mU_ag (by decide)), fun i hi4 => by rw [mU_k (by decide), mU_k (by decide)]; exact hgA i hi4⟩
        · refine g_iload (n := 47) C dL_isDone_45 rfl rfl ?_
          refine g_iconst (n := 48) (v := nI 4) C dL_isDone_47 rfl rfl ?_
          refine g_icmp_ge (n := 51) (tgt := 204) C dL_isDone_48 (by decide) rfl (fun h48 => absurd h48 (fun z => by have := gn_ge z (by decide) (by omega); omega)) (fun h48 => ?_)
          refine g_aload_n (n := 52) C dL_isDone_51 rfl (Or.inr ⟨_, rfl⟩) rfl ?_
          refine g_iconst (n := 53) (v := nI 0) C dL_isDone_52 rfl rfl ?_
          refine g_iload (n := 55) C dL_isDone_53 rfl rfl ?_
          refine g_bipush (n := 57) (v := nI 9) C dL_isDone_55 rfl rfl ?_
          refine g_iremN (n := 58) C dL_isDone_57 (by omega) (by omega) (by omega) rfl ?_
          refine g_iload (n := 60) C dL_isDone_58 rfl rfl ?_
          refine g_iconst (n := 61) (v := nI 3) C dL_isDone_60 rfl rfl ?_
          refine g_iremN (n := 62) C dL_isDone_61 (by omega) (by omega) (by omega) rfl ?_
          refine g_if_ne (n := 65) (tgt := 75) C dL_isDone_62 (by decide) rfl (fun h62 => ?_) (fun h62 => absurd h62 (fun z => h3 (gn_inj (b := 0) (by omega) (by decide) z)))
          refine g_iload (n := 77) C dL_isDone_75 rfl rfl ?_
          refine g_iconst (n := 78) (v := nI 1) C dL_isDone_77 rfl rfl ?_
          refine g_isub (n := 79) C dL_isDone_78 rfl ?_
          rw [← hv]
          refine g_iconst (n := 80) (v := nI 0) C dL_isDone_79 rfl rfl ?_
          refine g_SH (n := 83) (rest := []) C (tn_setFile_A hE hl hN (h.up [ga]) (x := nI (ja % 9)) (y := v) ⟨ja % 9, by omega, rfl⟩ hgc (nI 0)) dL_isDone_80 kH_sets kW_L_124 kT_sets rfl rfl (Nat.le_of_ble_eq_true rfl) ⟨by decide, by decide⟩ ⟨by first | omega | (simp only [gRm]; omega), by first | omega | (simp only [gRm]; omega)⟩ rfl (fun v9 L9 f9 hq => ?_)
          obtain ⟨rfl, rfl, rfl⟩ := hq
          refine G.sk (st' := [_]) rfl ?_
          refine g_istore (n := 85) (ls' := [_, _, _, _, _, _, _, _, _, _, _, _]) C dL_isDone_83 rfl (by decide) rfl ?_
          refine g_iload (n := 87) C dL_isDone_85 rfl rfl ?_
          refine g_iconst (n := 88) (v := nI 3) C dL_isDone_87 rfl rfl ?_
          refine g_iremN (n := 89) C dL_isDone_88 (by omega) (by omega) (by omega) rfl ?_
          refine g_if_ne (n := 92) (tgt := 102) C dL_isDone_89 (by decide) rfl (fun h89 => ?_) (fun h89 => absurd h89 (fun z => h3 (gn_inj (b := 0) (by omega) (by decide) z)))
          refine g_iload (n := 104) C dL_isDone_102 rfl rfl ?_
          refine g_iconst (n := 105) (v := nI 1) C dL_isDone_104 rfl rfl ?_
          refine g_isub (n := 106) C dL_isDone_105 rfl ?_
          rw [← hv]
          refine g_istore (n := 108) (ls' := [_, _, _, _, _, _, _, _, _, _, _, _]) C dL_isDone_106 rfl (by decide) rfl ?_
          refine g_iload (n := 110) C dL_isDone_108 rfl rfl ?_
          refine g_iconst (n := 111) (v := -1) C dL_isDone_110 rfl rfl ?_
          refine g_icmp_lt (n := 114) (tgt := 126) C dL_isDone_111 (by decide) rfl (fun h111 => ?_) (fun h111 => ?_)
          · skip
            refine g_iconst (n := 127) (v := nI 0) C dL_isDone_126 rfl rfl ?_
            refine g_istore (n := 129) (ls' := [_, _, _, _, _, _, _, _, _, _, _, _]) C dL_isDone_127 rfl (by decide) rfl ?_
            refine g_iload (n := 131) C dL_isDone_129 rfl rfl ?_
            refine g_bipush (n := 133) (v := nI 9) C dL_isDone_131 rfl rfl ?_
            refine g_iremN (n := 134) C dL_isDone_133 (by omega) (by omega) (by omega) rfl ?_
            refine g_bipush (n := 136) (v := nI 8) C dL_isDone_134 rfl rfl ?_
            refine g_icmp_ne (n := 139) (tgt := 154) C dL_isDone_136 (by decide) rfl (fun h136 => ?_) (fun h136 => absurd h136 (fun z => hf8 (gn_inj (by omega) (by decide) z)))
            refine g_iload (n := 156) C dL_isDone_154 rfl rfl ?_
            refine g_if_ne (n := 159) (tgt := 174) C dL_isDone_156 (by decide) rfl (fun h156 => (by first | exact absurd h156 (by decide) | exact (h156 (by decide)).elim)) (fun h156 => ?_)
            refine g_iload (n := 161) C dL_isDone_159 rfl rfl ?_
            refine g_bipush (n := 163) (v := -20) C dL_isDone_161 rfl rfl ?_
            refine g_icmp_ne (n := 166) (tgt := 170) C dL_isDone_163 (by decide) rfl (fun h163 => (by first | exact absurd h163 (by decide) | exact (h163 (by decide)).elim)) (fun h163 => ?_)
            refine g_iconst (n := 167) (v := nI 1) C dL_isDone_166 rfl rfl ?_
            refine g_goto (tgt := 203) C dL_isDone_167 (by decide) ?_
            refine g_zret C hr rfl dL_isDone_203 ?_ ⟨by first | omega | (simp only [gRm]; omega), by first | omega | (simp only [gRm]; omega)⟩
            exact ⟨rfl, Lc, g, rfl, hga, hg, n, PR, PL, S, A, I, h, hi, hgA⟩
          · skip
            refine g_iload (n := 116) C dL_isDone_114 rfl rfl ?_
            refine g_sipush (n := 119) (v := nI 10000) C dL_isDone_116 rfl rfl ?_
            refine g_icmp_ge (n := 122) (tgt := 126) C dL_isDone_119 (by decide) rfl (fun h119 => ?_) (fun h119 => absurd (gct_of h111 h119) hgc)
            refine g_iconst (n := 127) (v := nI 0) C dL_isDone_126 rfl rfl ?_
            refine g_istore (n := 129) (ls' := [_, _, _, _, _, _, _, _, _, _, _, _]) C dL_isDone_127 rfl (by decide) rfl ?_
            refine g_iload (n := 131) C dL_isDone_129 rfl rfl ?_
            refine g_bipush (n := 133) (v := nI 9) C dL_isDone_131 rfl rfl ?_
            refine g_iremN (n := 134) C dL_isDone_133 (by omega) (by omega) (by omega) rfl ?_
            refine g_bipush (n := 136) (v := nI 8) C dL_isDone_134 rfl rfl ?_
            refine g_icmp_ne (n := 139) (tgt := 154) C dL_isDone_136 (by decide) rfl (fun h136 => ?_) (fun h136 => absurd h136 (fun z => hf8 (gn_inj (by omega) (by decide) z)))
            refine g_iload (n := 156) C dL_isDone_154 rfl rfl ?_
            refine g_if_ne (n := 159) (tgt := 174) C dL_isDone_156 (by decide) rfl (fun h156 => (by first | exact absurd h156 (by decide) | exact (h156 (by decide)).elim)) (fun h156 => ?_)
            refine g_iload (n := 161) C dL_isDone_159 rfl rfl ?_
            refine g_bipush (n := 163) (v := -20) C dL_isDone_161 rfl rfl ?_
            refine g_icmp_ne (n := 166) (tgt := 170) C dL_isDone_163 (by decide) rfl (fun h163 => (by first | exact absurd h163 (by decide) | exact (h163 (by decide)).elim)) (fun h163 => ?_)
            refine g_iconst (n := 167) (v := nI 1) C dL_isDone_166 rfl rfl ?_
            refine g_goto (tgt := 203) C dL_isDone_167 (by decide) ?_
            refine g_zret C hr rfl dL_isDone_203 ?_ ⟨by first | omega | (simp only [gRm]; omega), by first | omega | (simp only [gRm]; omega)⟩
            exact ⟨rfl, Lc, g, rfl, hga, hg, n, PR, PL, S, A, I, h, hi, hgA⟩
  · by_cases hwl1 : jw < 8
    · by_cases h3 : jc % 3 = 0
      · obtain ⟨v, hv⟩ : ∃ v : Int32, v = -1 := ⟨_, rfl⟩
        have hgc : gct v := Or.inl hv
        have hv99 : v ≤ nI 9999 := by rw [hv]; decide
        refine g_iload (n := 47) C dL_isDone_45 rfl rfl ?_
        refine g_iconst (n := 48) (v := nI 4) C dL_isDone_47 rfl rfl ?_
        refine g_icmp_ge (n := 51) (tgt := 204) C dL_isDone_48 (by decide) rfl (fun h48 => ?_) (fun h48 => absurd ((nI_leI (by decide) (by omega)).mpr (by omega)) h48)
        refine g_iload (n := 206) C dL_isDone_204 rfl rfl ?_
        refine g_bipush (n := 208) (v := nI 8) C dL_isDone_206 rfl rfl ?_
        refine g_icmp_ge (n := 211) (tgt := 318) C dL_isDone_208 (by decide) rfl (fun h208 => absurd h208 (fun z => by have := gn_ge z (by decide) (by omega); omega)) (fun h208 => ?_)
        refine g_iload (n := 213) C dL_isDone_211 rfl rfl ?_
        refine g_iconst (n := 214) (v := nI 3) C dL_isDone_213 rfl rfl ?_
        refine g_iremN (n := 215) C dL_isDone_214 (by omega) (by omega) (by omega) rfl ?_
        refine g_if_ne (n := 218) (tgt := 222) C dL_isDone_215 (by decide) rfl (fun h215 => absurd (by rw [h3]; rfl) h215) (fun h215 => ?_)
        refine g_iconst (n := 219) (v := -1) C dL_isDone_218 rfl rfl ?_
        refine g_goto (tgt := 228) C dL_isDone_219 (by decide) ?_
        rw [← hv]
        refine g_istore (n := 230) (ls' := [_, _, _, _, _, _, _, _, _, _, _, _]) C dL_isDone_228 rfl (by decide) rfl ?_
        refine g_aload_n (n := 231) C dL_isDone_230 rfl (Or.inr ⟨_, rfl⟩) rfl ?_
        refine g_iconst (n := 232) (v := nI 1) C dL_isDone_231 rfl rfl ?_
        refine g_iload (n := 234) C dL_isDone_232 rfl rfl ?_
        refine g_iconst (n := 235) (v := nI 3) C dL_isDone_234 rfl rfl ?_
        refine g_iremN (n := 236) C dL_isDone_235 (by omega) (by omega) (by omega) rfl ?_
        refine g_iload (n := 238) C dL_isDone_236 rfl rfl ?_
        refine g_bipush (n := 240) (v := nI 12) C dL_isDone_238 rfl rfl ?_
        refine g_iremN (n := 241) C dL_isDone_240 (by omega) (by omega) (by omega) rfl ?_
        refine g_iload (n := 243) C dL_isDone_241 rfl rfl ?_
        refine g_SH (n := 246) (rest := []) C (gH9.g (t_setBase hE hl hN h (i := ja % 3) (j := jb % 12) (by omega) (by omega) (z := v) hgc) (fun _ _ _ z1 z2 => z1.ext z2) hg) dL_isDone_243 kH_sets kW_L_124 kT_sets rfl rfl (Nat.le_of_ble_eq_true rfl) ⟨by decide, by decide⟩ ⟨by first | omega | (simp only [gRm]; omega), by first | omega | (simp only [gRm]; omega)⟩ rfl (fun v9 L9 f9 hq => ?_)
        obtain ⟨rfl, L2, rfl, hga2, h2, hg2⟩ := hq
        refine G.sk (st' := [_]) rfl ?_
        refine g_istore (n := 248) (ls' := [_, _, _, _, _, _, _, _, _, _, _, _]) C dL_isDone_246 rfl (by decide) rfl ?_
        refine g_iload (n := 250) C dL_isDone_248 rfl rfl ?_
        refine g_sipush (n := 253) (v := nI 9999) C dL_isDone_250 rfl rfl ?_
        refine g_icmp_le (n := 256) (tgt := 271) C dL_isDone_253 (by decide) rfl (fun h253 => ?_) (fun h253 => absurd hv99 h253)
        refine g_iload (n := 273) C dL_isDone_271 rfl rfl ?_
        refine g_iconst (n := 274) (v := -1) C dL_isDone_273 rfl rfl ?_
        refine g_icmp_lt (n := 277) (tgt := 316) C dL_isDone_274 (by decide) rfl (fun h274 => absurd h274 (gct_lo (h.ct.2.1 _ (by omega)))) (fun h274 => ?_)
        refine g_aload_n (n := 278) C dL_isDone_277 rfl (Or.inr ⟨_, rfl⟩) rfl ?_
        refine g_iconst (n := 279) (v := nI 1) C dL_isDone_278 rfl rfl ?_
        refine g_iload (n := 281) C dL_isDone_279 rfl rfl ?_
        refine g_iconst (n := 282) (v := nI 3) C dL_isDone_281 rfl rfl ?_
        refine g_iremN (n := 283) C dL_isDone_282 (by omega) (by omega) (by omega) rfl ?_
        refine g_iload (n := 285) C dL_isDone_283 rfl rfl ?_
        refine g_bipush (n := 287) (v := nI 12) C dL_isDone_285 rfl rfl ?_
        refine g_iremN (n := 288) C dL_isDone_287 (by omega) (by omega) (by omega) rfl ?_
        refine g_iload (n := 290) C dL_isDone_288 rfl rfl ?_
        refine g_SH (n := 293) (rest := []) C (gH9.g (t_setBase hE hl hN h2 (i := ja % 3) (j := jb % 12) (by omega) (by omega) (z := v) hgc) (fun _ _ _ z1 z2 => z1.ext z2) hg2) dL_isDone_290 kH_sets kW_L_124 kT_sets rfl rfl (Nat.le_of_ble_eq_true rfl) ⟨by decide, by decide⟩ ⟨by first | omega | (simp only [gRm]; omega), by first | omega | (simp only [gRm]; omega)⟩ rfl (fun v9 L9 f9 hq => ?_)
        obtain ⟨rfl, L3, rfl, hga3, h4, hg3⟩ := hq
        refine G.sk (st' := [_]) rfl ?_
        rw [mU_s]
        refine g_iload (n := 295) C dL_isDone_293 rfl rfl ?_
        refine g_icmp_ne (n := 298) (tgt := 316) C dL_isDone_295 (by decide) rfl (fun h295 => absurd rfl h295) (fun h295 => ?_)
        refine g_aload_n (n := 299) C dL_isDone_298 rfl (Or.inr ⟨_, rfl⟩) rfl ?_
        refine g_iconst (n := 300) (v := nI 1) C dL_isDone_299 rfl rfl ?_
        refine g_iconst (n := 301) (v := nI 3) C dL_isDone_300 rfl rfl ?_
        refine g_iconst (n := 302) (v := nI 0) C dL_isDone_301 rfl rfl ?_
        refine g_bipush (n := 304) (v := -5) C dL_isDone_302 rfl rfl ?_
        refine g_SH (n := 307) (rest := []) C (tn_setBase_I hE hl hN (h4.up [ga]) (x := nI 3) (y := nI 0) (z := -5) (fun ⟨⟨q, hq, eq⟩, _⟩ => by have := gn_inj (by decide) (by omega) eq; omega)) dL_isDone_304 kH_sets kW_L_124 kT_sets rfl rfl (Nat.le_of_ble_eq_true rfl) ⟨by decide, by decide⟩ ⟨by first | omega | (simp only [gRm]; omega), by first | omega | (simp only [gRm]; omega)⟩ rfl (fun v9 L9 f9 hq => ?_)
        obtain ⟨rfl, rfl, rfl⟩ := hq
        refine G.sk (st' := [_]) rfl ?_
        refine g_bipush (n := 309) (v := -30) C dL_isDone_307 rfl rfl ?_
        refine g_icmp_ne (n := 312) (tgt := 316) C dL_isDone_309 (by decide) rfl (fun h309 => (by first | exact absurd h309 (by decide) | exact (h309 (by decide)).elim)) (fun h309 => ?_)
        refine g_iconst (n := 313) (v := nI 1) C dL_isDone_312 rfl rfl ?_
        refine g_goto (tgt := 317) C dL_isDone_313 (by decide) ?_
        refine g_zret C hr rfl dL_isDone_317 ?_ ⟨by first | omega | (simp only [gRm]; omega), by first | omega | (simp only [gRm]; omega)⟩
        exact ⟨rfl, L3, g, rfl, hga3, hg3, n, PR, PL, S, _, I, h4, (hi.ag hpar (mU_ag (by decide))).ag hpar (mU_ag (by decide)), fun i hi4 => by rw [mU_k (by decide), mU_k (by decide)]; exact hgA i hi4⟩
      · obtain ⟨v, hv⟩ : ∃ v, v = nI (jb % 10010) := ⟨_, rfl⟩
        by_cases hv9 : jb % 10010 ≤ 9999
        · have hgc : gct v := Or.inr ⟨jb % 10010, by omega, hv⟩
          have hv99 : v ≤ nI 9999 := by rw [hv]; exact (nI_leI (by omega) (by decide)).mpr hv9
          refine g_iload (n := 47) C dL_isDone_45 rfl rfl ?_
          refine g_iconst (n := 48) (v := nI 4) C dL_isDone_47 rfl rfl ?_
          refine g_icmp_ge (n := 51) (tgt := 204) C dL_isDone_48 (by decide) rfl (fun h48 => ?_) (fun h48 => absurd ((nI_leI (by decide) (by omega)).mpr (by omega)) h48)
          refine g_iload (n := 206) C dL_isDone_204 rfl rfl ?_
          refine g_bipush (n := 208) (v := nI 8) C dL_isDone_206 rfl rfl ?_
          refine g_icmp_ge (n := 211) (tgt := 318) C dL_isDone_208 (by decide) rfl (fun h208 => absurd h208 (fun z => by have := gn_ge z (by decide) (by omega); omega)) (fun h208 => ?_)
          refine g_iload (n := 213) C dL_isDone_211 rfl rfl ?_
          refine g_iconst (n := 214) (v := nI 3) C dL_isDone_213 rfl rfl ?_
          refine g_iremN (n := 215) C dL_isDone_214 (by omega) (by omega) (by omega) rfl ?_
          refine g_if_ne (n := 218) (tgt := 222) C dL_isDone_215 (by decide) rfl (fun h215 => ?_) (fun h215 => absurd h215 (fun z => h3 (gn_inj (b := 0) (by omega) (by decide) z)))
          refine g_iload (n := 224) C dL_isDone_222 rfl rfl ?_
          refine g_sipush (n := 227) (v := nI 10010) C dL_isDone_224 rfl rfl ?_
          refine g_iremN (n := 228) C dL_isDone_227 (by omega) (by omega) (by omega) rfl ?_
          rw [← hv]
          refine g_istore (n := 230) (ls' := [_, _, _, _, _, _, _, _, _, _, _, _]) C dL_isDone_228 rfl (by decide) rfl ?_
          refine g_aload_n (n := 231) C dL_isDone_230 rfl (Or.inr ⟨_, rfl⟩) rfl ?_
          refine g_iconst (n := 232) (v := nI 1) C dL_isDone_231 rfl rfl ?_
          refine g_iload (n := 234) C dL_isDone_232 rfl rfl ?_
          refine g_iconst (n := 235) (v := nI 3) C dL_isDone_234 rfl rfl ?_
          refine g_iremN (n := 236) C dL_isDone_235 (by omega) (by omega) (by omega) rfl ?_
          refine g_iload (n := 238) C dL_isDone_236 rfl rfl ?_
          refine g_bipush (n := 240) (v := nI 12) C dL_isDone_238 rfl rfl ?_
          refine g_iremN (n := 241) C dL_isDone_240 (by omega) (by omega) (by omega) rfl ?_
          refine g_iload (n := 243) C dL_isDone_241 rfl rfl ?_
          refine g_SH (n := 246) (rest := []) C (gH9.g (t_setBase hE hl hN h (i := ja % 3) (j := jb % 12) (by omega) (by omega) (z := v) hgc) (fun _ _ _ z1 z2 => z1.ext z2) hg) dL_isDone_243 kH_sets kW_L_124 kT_sets rfl rfl (Nat.le_of_ble_eq_true rfl) ⟨by decide, by decide⟩ ⟨by first | omega | (simp only [gRm]; omega), by first | omega | (simp only [gRm]; omega)⟩ rfl (fun v9 L9 f9 hq => ?_)
          obtain ⟨rfl, L2, rfl, hga2, h2, hg2⟩ := hq
          refine G.sk (st' := [_]) rfl ?_
          refine g_istore (n := 248) (ls' := [_, _, _, _, _, _, _, _, _, _, _, _]) C dL_isDone_246 rfl (by decide) rfl ?_
          refine g_iload (n := 250) C dL_isDone_248 rfl rfl ?_
          refine g_sipush (n := 253) (v := nI 9999) C dL_isDone_250 rfl rfl ?_
          refine g_icmp_le (n := 256) (tgt := 271) C dL_isDone_253 (by decide) rfl (fun h253 => ?_) (fun h253 => absurd hv99 h253)
          refine g_iload (n := 273) C dL_isDone_271 rfl rfl ?_
          refine g_iconst (n := 274) (v := -1) C dL_isDone_273 rfl rfl ?_
          refine g_icmp_lt (n := 277) (tgt := 316) C dL_isDone_274 (by decide) rfl (fun h274 => absurd h274 (gct_lo (h.ct.2.1 _ (by omega)))) (fun h274 => ?_)
          refine g_aload_n (n := 278) C dL_isDone_277 rfl (Or.inr ⟨_, rfl⟩) rfl ?_
          refine g_iconst (n := 279) (v := nI 1) C dL_isDone_278 rfl rfl ?_
          refine g_iload (n := 281) C dL_isDone_279 rfl rfl ?_
          refine g_iconst (n := 282) (v := nI 3) C dL_isDone_281 rfl rfl ?_
          refine g_iremN (n := 283) C dL_isDone_282 (by omega) (by omega) (by omega) rfl ?_
          refine g_iload (n := 285) C dL_isDone_283 rfl rfl ?_
          refine g_bipush (n := 287) (v := nI 12) C dL_isDone_285 rfl rfl ?_
          refine g_iremN (n := 288) C dL_isDone_287 (by omega) (by omega) (by omega) rfl ?_
          refine g_iload (n := 290) C dL_isDone_288 rfl rfl ?_
          refine g_SH (n := 293) (rest := []) C (gH9.g (t_setBase hE hl hN h2 (i := ja % 3) (j := jb % 12) (by omega) (by omega) (z := v) hgc) (fun _ _ _ z1 z2 => z1.ext z2) hg2) dL_isDone_290 kH_sets kW_L_124 kT_sets rfl rfl (Nat.le_of_ble_eq_true rfl) ⟨by decide, by decide⟩ ⟨by first | omega | (simp only [gRm]; omega), by first | omega | (simp only [gRm]; omega)⟩ rfl (fun v9 L9 f9 hq => ?_)
          obtain ⟨rfl, L3, rfl, hga3, h4, hg3⟩ := hq
          refine G.sk (st' := [_]) rfl ?_
          rw [mU_s]
          refine g_iload (n := 295) C dL_isDone_293 rfl rfl ?_
          refine g_icmp_ne (n := 298) (tgt := 316) C dL_isDone_295 (by decide) rfl (fun h295 => absurd rfl h295) (fun h295 => ?_)
          refine g_aload_n (n := 299) C dL_isDone_298 rfl (Or.inr ⟨_, rfl⟩) rfl ?_
          refine g_iconst (n := 300) (v := nI 1) C dL_isDone_299 rfl rfl ?_
          refine g_iconst (n := 301) (v := nI 3) C dL_isDone_300 rfl rfl ?_
          refine g_iconst (n := 302) (v := nI 0) C dL_isDone_301 rfl rfl ?_
          refine g_bipush (n := 304) (v := -5) C dL_isDone_302 rfl rfl ?_
          refine g_SH (n := 307) (rest := []) C (tn_setBase_I hE hl hN (h4.up [ga]) (x := nI 3) (y := nI 0) (z := -5) (fun ⟨⟨q, hq, eq⟩, _⟩ => by have := gn_inj (by decide) (by omega) eq; omega)) dL_isDone_304 kH_sets kW_L_124 kT_sets rfl rfl (Nat.le_of_ble_eq_true rfl) ⟨by decide, by decide⟩ ⟨by first | omega | (simp only [gRm]; omega), by first | omega | (simp only [gRm]; omega)⟩ rfl (fun v9 L9 f9 hq => ?_)
          obtain ⟨rfl, rfl, rfl⟩ := hq
          refine G.sk (st' := [_]) rfl ?_
          refine g_bipush (n := 309) (v := -30) C dL_isDone_307 rfl rfl ?_
          refine g_icmp_ne (n := 312) (tgt := 316) C dL_isDone_309 (by decide) rfl (fun h309 => (by first | exact absurd h309 (by decide) | exact (h309 (by decide)).elim)) (fun h309 => ?_)
          refine g_iconst (n := 313) (v := nI 1) C dL_isDone_312 rfl rfl ?_
          refine g_goto (tgt := 317) C dL_isDone_313 (by decide) ?_
          refine g_zret C hr rfl dL_isDone_317 ?_ ⟨by first | omega | (simp only [gRm]; omega), by first | omega | (simp only [gRm]; omega)⟩
          exact ⟨rfl, L3, g, rfl, hga3, hg3, n, PR, PL, S, _, I, h4, (hi.ag hpar (mU_ag (by decide))).ag hpar (mU_ag (by decide)), fun i hi4 => by rw [mU_k (by decide), mU_k (by decide)]; exact hgA i hi4⟩
        · have hgc : ¬ gct v := fun z => z.elim (fun z => gn_ne1 (by omega) (hv.symm.trans z)) (fun ⟨q, hq, eq⟩ => by have := gn_inj (by omega) (by omega) (hv.symm.trans eq); omega)
          have hv99 : ¬ v ≤ nI 9999 := by rw [hv]; exact fun z => hv9 ((nI_leI (by omega) (by decide)).mp z)
          refine g_iload (n := 47) C dL_isDone_45 rfl rfl ?_
          refine g_iconst (n := 48) (v := nI 4) C dL_isDone_47 rfl rfl ?_
          refine g_icmp_ge (n := 51) (tgt := 204) C dL_isDone_48 (by decide) rfl (fun h48 => ?_) (fun h48 => absurd ((nI_leI (by decide) (by omega)).mpr (by omega)) h48)
          refine g_iload (n := 206) C dL_isDone_204 rfl rfl ?_
          refine g_bipush (n := 208) (v := nI 8) C dL_isDone_206 rfl rfl ?_
          refine g_icmp_ge (n := 211) (tgt := 318) C dL_isDone_208 (by decide) rfl (fun h208 => absurd h208 (fun z => by have := gn_ge z (by decide) (by omega); omega)) (fun h208 => ?_)
          refine g_iload (n := 213) C dL_isDone_211 rfl rfl ?_
          refine g_iconst (n := 214) (v := nI 3) C dL_isDone_213 rfl rfl ?_
          refine g_iremN (n := 215) C dL_isDone_214 (by omega) (by omega) (by omega) rfl ?_
          refine g_if_ne (n := 218) (tgt := 222) C dL_isDone_215 (by decide) rfl (fun h215 => ?_) (fun h215 => absurd h215 (fun z => h3 (gn_inj (b := 0) (by omega) (by decide) z)))
          refine g_iload (n := 224) C dL_isDone_222 rfl rfl ?_
          refine g_sipush (n := 227) (v := nI 10010) C dL_isDone_224 rfl rfl ?_
          refine g_iremN (n := 228) C dL_isDone_227 (by omega) (by omega) (by omega) rfl ?_
          rw [← hv]
          refine g_istore (n := 230) (ls' := [_, _, _, _, _, _, _, _, _, _, _, _]) C dL_isDone_228 rfl (by decide) rfl ?_
          refine g_aload_n (n := 231) C dL_isDone_230 rfl (Or.inr ⟨_, rfl⟩) rfl ?_
          refine g_iconst (n := 232) (v := nI 1) C dL_isDone_231 rfl rfl ?_
          refine g_iload (n := 234) C dL_isDone_232 rfl rfl ?_
          refine g_iconst (n := 235) (v := nI 3) C dL_isDone_234 rfl rfl ?_
          refine g_iremN (n := 236) C dL_isDone_235 (by omega) (by omega) (by omega) rfl ?_
          refine g_iload (n := 238) C dL_isDone_236 rfl rfl ?_
          refine g_bipush (n := 240) (v := nI 12) C dL_isDone_238 rfl rfl ?_
          refine g_iremN (n := 241) C dL_isDone_240 (by omega) (by omega) (by omega) rfl ?_
          refine g_iload (n := 243) C dL_isDone_241 rfl rfl ?_
          refine g_SH (n := 246) (rest := []) C (tn_setBase_A hE hl hN (h.up [ga]) (x := nI (ja % 3)) (y := nI (jb % 12)) (z := v) ⟨⟨ja % 3, by omega, rfl⟩, jb % 12, by omega, rfl⟩ hgc) dL_isDone_243 kH_sets kW_L_124 kT_sets rfl rfl (Nat.le_of_ble_eq_true rfl) ⟨by decide, by decide⟩ ⟨by first | omega | (simp only [gRm]; omega), by first | omega | (simp only [gRm]; omega)⟩ rfl (fun v9 L9 f9 hq => ?_)
          obtain ⟨rfl, rfl, rfl⟩ := hq
          refine G.sk (st' := [_]) rfl ?_
          refine g_istore (n := 248) (ls' := [_, _, _, _, _, _, _, _, _, _, _, _]) C dL_isDone_246 rfl (by decide) rfl ?_
          refine g_iload (n := 250) C dL_isDone_248 rfl rfl ?_
          refine g_sipush (n := 253) (v := nI 9999) C dL_isDone_250 rfl rfl ?_
          refine g_icmp_le (n := 256) (tgt := 271) C dL_isDone_253 (by decide) rfl (fun h253 => absurd h253 hv99) (fun h253 => ?_)
          refine g_iload (n := 258) C dL_isDone_256 rfl rfl ?_
          refine g_bipush (n := 260) (v := -20) C dL_isDone_258 rfl rfl ?_
          refine g_icmp_ne (n := 263) (tgt := 267) C dL_isDone_260 (by decide) rfl (fun h260 => (by first | exact absurd h260 (by decide) | exact (h260 (by decide)).elim)) (fun h260 => ?_)
          refine g_iconst (n := 264) (v := nI 1) C dL_isDone_263 rfl rfl ?_
          refine g_goto (tgt := 317) C dL_isDone_264 (by decide) ?_
          refine g_zret C hr rfl dL_isDone_317 ?_ ⟨by first | omega | (simp only [gRm]; omega), by first | omega | (simp only [gRm]; omega)⟩
          exact ⟨rfl, Lc, g, rfl, hga, hg, n, PR, PL, S, A, I, h, hi, hgA⟩
    · by_cases hwl2 : jw < 17
      · by_cases hw9 : jw < 9
        · refine g_iload (n := 47) C dL_isDone_45 rfl rfl ?_
          refine g_iconst (n := 48) (v := nI 4) C dL_isDone_47 rfl rfl ?_
          refine g_icmp_ge (n := 51) (tgt := 204) C dL_isDone_48 (by decide) rfl (fun h48 => ?_) (fun h48 => absurd ((nI_leI (by decide) (by omega)).mpr (by omega)) h48)
          refine g_iload (n := 206) C dL_isDone_204 rfl rfl ?_
          refine g_bipush (n := 208) (v := nI 8) C dL_isDone_206 rfl rfl ?_
          refine g_icmp_ge (n := 211) (tgt := 318) C dL_isDone_208 (by decide) rfl (fun h208 => ?_) (fun h208 => absurd ((nI_leI (by decide) (by omega)).mpr (by omega)) h208)
          refine g_iload (n := 320) C dL_isDone_318 rfl rfl ?_
          refine g_bipush (n := 322) (v := nI 17) C dL_isDone_320 rfl rfl ?_
          refine g_icmp_ge (n := 325) (tgt := 380) C dL_isDone_322 (by decide) rfl (fun h322 => absurd h322 (fun z => by have := gn_ge z (by decide) (by omega); omega)) (fun h322 => ?_)
          refine g_aload_n (n := 326) C dL_isDone_325 rfl (Or.inr ⟨_, rfl⟩) rfl ?_
          refine g_aload_n (n := 327) C dL_isDone_326 rfl (Or.inr ⟨_, rfl⟩) rfl ?_
          refine g_iload (n := 329) C dL_isDone_327 rfl rfl ?_
          refine g_iconst (n := 330) (v := nI 5) C dL_isDone_329 rfl rfl ?_
          refine g_iremN (n := 331) C dL_isDone_330 (by omega) (by omega) (by omega) rfl ?_
          refine g_iload (n := 333) C dL_isDone_331 rfl rfl ?_
          refine g_iconst (n := 334) (v := nI 5) C dL_isDone_333 rfl rfl ?_
          refine g_iremN (n := 335) C dL_isDone_334 (by omega) (by omega) (by omega) rfl ?_
          refine g_iload (n := 337) C dL_isDone_335 rfl rfl ?_
          refine g_bipush (n := 339) (v := nI 9) C dL_isDone_337 rfl rfl ?_
          refine g_icmp_ge (n := 342) (tgt := 350) C dL_isDone_339 (by decide) rfl (fun h339 => absurd h339 (fun z => by have := gn_ge z (by decide) (by omega); omega)) (fun h339 => ?_)
          refine g_iload (n := 344) C dL_isDone_342 rfl rfl ?_
          refine g_bipush (n := 346) (v := nI 14) C dL_isDone_344 rfl rfl ?_
          refine g_iremN (n := 347) C dL_isDone_346 (by omega) (by omega) (by omega) rfl ?_
          refine g_goto (tgt := 356) C dL_isDone_347 (by decide) ?_
          refine g_iload (n := 358) C dL_isDone_356 rfl rfl ?_
          refine g_bipush (n := 360) (v := nI 9) C dL_isDone_358 rfl rfl ?_
          refine g_icmp_ge (n := 363) (tgt := 372) C dL_isDone_360 (by decide) rfl (fun h360 => absurd h360 (fun z => by have := gn_ge z (by decide) (by omega); omega)) (fun h360 => ?_)
          refine g_iload (n := 365) C dL_isDone_363 rfl rfl ?_
          refine g_sipush (n := 368) (v := nI 1005) C dL_isDone_365 rfl rfl ?_
          refine g_iremN (n := 369) C dL_isDone_368 (by omega) (by omega) (by omega) rfl ?_
          refine g_goto (tgt := 376) C dL_isDone_369 (by decide) ?_
          refine g_S (n := 379) (rest := []) C (l_isAdded hE hl hN h hi hga hg hgA (w := ja % 5) (x := jb % 5) (a := jc % 14) (b := jb % 1005) (by omega) (by omega) (by omega) (by omega)) dL_isDone_376 kM_L_isAdded kL_L_151 kS_L_isAdded rfl rfl (Nat.le_of_ble_eq_true rfl) ⟨by decide, by decide⟩ ⟨by first | omega | (simp only [gRm]; omega), by first | omega | (simp only [gRm]; omega)⟩ rfl (fun v9 L9 f9 hq => ?_)
          obtain ⟨rfl, hgw⟩ := hq
          refine G.sk (st' := [_]) rfl ?_
          refine g_zret C hr rfl dL_isDone_379 ?_ ⟨by first | omega | (simp only [gRm]; omega), by first | omega | (simp only [gRm]; omega)⟩
          exact ⟨rfl, hgw⟩
        · refine g_iload (n := 47) C dL_isDone_45 rfl rfl ?_
          refine g_iconst (n := 48) (v := nI 4) C dL_isDone_47 rfl rfl ?_
          refine g_icmp_ge (n := 51) (tgt := 204) C dL_isDone_48 (by decide) rfl (fun h48 => ?_) (fun h48 => absurd ((nI_leI (by decide) (by omega)).mpr (by omega)) h48)
          refine g_iload (n := 206) C dL_isDone_204 rfl rfl ?_
          refine g_bipush (n := 208) (v := nI 8) C dL_isDone_206 rfl rfl ?_
          refine g_icmp_ge (n := 211) (tgt := 318) C dL_isDone_208 (by decide) rfl (fun h208 => ?_) (fun h208 => absurd ((nI_leI (by decide) (by omega)).mpr (by omega)) h208)
          refine g_iload (n := 320) C dL_isDone_318 rfl rfl ?_
          refine g_bipush (n := 322) (v := nI 17) C dL_isDone_320 rfl rfl ?_
          refine g_icmp_ge (n := 325) (tgt := 380) C dL_isDone_322 (by decide) rfl (fun h322 => absurd h322 (fun z => by have := gn_ge z (by decide) (by omega); omega)) (fun h322 => ?_)
          refine g_aload_n (n := 326) C dL_isDone_325 rfl (Or.inr ⟨_, rfl⟩) rfl ?_
          refine g_aload_n (n := 327) C dL_isDone_326 rfl (Or.inr ⟨_, rfl⟩) rfl ?_
          refine g_iload (n := 329) C dL_isDone_327 rfl rfl ?_
          refine g_iconst (n := 330) (v := nI 5) C dL_isDone_329 rfl rfl ?_
          refine g_iremN (n := 331) C dL_isDone_330 (by omega) (by omega) (by omega) rfl ?_
          refine g_iload (n := 333) C dL_isDone_331 rfl rfl ?_
          refine g_iconst (n := 334) (v := nI 5) C dL_isDone_333 rfl rfl ?_
          refine g_iremN (n := 335) C dL_isDone_334 (by omega) (by omega) (by omega) rfl ?_
          refine g_iload (n := 337) C dL_isDone_335 rfl rfl ?_
          refine g_bipush (n := 339) (v := nI 9) C dL_isDone_337 rfl rfl ?_
          refine g_icmp_ge (n := 342) (tgt := 350) C dL_isDone_339 (by decide) rfl (fun h339 => ?_) (fun h339 => absurd ((nI_leI (by decide) (by omega)).mpr (by omega)) h339)
          refine g_iload (n := 352) C dL_isDone_350 rfl rfl ?_
          refine g_iconst (n := 353) (v := nI 5) C dL_isDone_352 rfl rfl ?_
          refine g_idivN (n := 354) C dL_isDone_353 (by omega) (by omega) (by omega) rfl ?_
          refine g_iconst (n := 355) (v := nI 4) C dL_isDone_354 rfl rfl ?_
          refine g_iremN (n := 356) C dL_isDone_355 (by omega) (by omega) (by omega) rfl ?_
          refine g_iload (n := 358) C dL_isDone_356 rfl rfl ?_
          refine g_bipush (n := 360) (v := nI 9) C dL_isDone_358 rfl rfl ?_
          refine g_icmp_ge (n := 363) (tgt := 372) C dL_isDone_360 (by decide) rfl (fun h360 => ?_) (fun h360 => absurd ((nI_leI (by decide) (by omega)).mpr (by omega)) h360)
          refine g_iload (n := 374) C dL_isDone_372 rfl rfl ?_
          refine g_iconst (n := 375) (v := nI 4) C dL_isDone_374 rfl rfl ?_
          refine g_iremN (n := 376) C dL_isDone_375 (by omega) (by omega) (by omega) rfl ?_
          refine g_S (n := 379) (rest := []) C (l_isAdded hE hl hN h hi hga hg hgA (w := ja % 5) (x := jb % 5) (a := ja / 5 % 4) (b := jc % 4) (by omega) (by omega) (by omega) (by omega)) dL_isDone_376 kM_L_isAdded kL_L_151 kS_L_isAdded rfl rfl (Nat.le_of_ble_eq_true rfl) ⟨by decide, by decide⟩ ⟨by first | omega | (simp only [gRm]; omega), by first | omega | (simp only [gRm]; omega)⟩ rfl (fun v9 L9 f9 hq => ?_)
          obtain ⟨rfl, hgw⟩ := hq
          refine G.sk (st' := [_]) rfl ?_
          refine g_zret C hr rfl dL_isDone_379 ?_ ⟨by first | omega | (simp only [gRm]; omega), by first | omega | (simp only [gRm]; omega)⟩
          exact ⟨rfl, hgw⟩
      · by_cases hwl3 : jw < 22
        · refine g_iload (n := 47) C dL_isDone_45 rfl rfl ?_
          refine g_iconst (n := 48) (v := nI 4) C dL_isDone_47 rfl rfl ?_
          refine g_icmp_ge (n := 51) (tgt := 204) C dL_isDone_48 (by decide) rfl (fun h48 => ?_) (fun h48 => absurd ((nI_leI (by decide) (by omega)).mpr (by omega)) h48)
          refine g_iload (n := 206) C dL_isDone_204 rfl rfl ?_
          refine g_bipush (n := 208) (v := nI 8) C dL_isDone_206 rfl rfl ?_
          refine g_icmp_ge (n := 211) (tgt := 318) C dL_isDone_208 (by decide) rfl (fun h208 => ?_) (fun h208 => absurd ((nI_leI (by decide) (by omega)).mpr (by omega)) h208)
          refine g_iload (n := 320) C dL_isDone_318 rfl rfl ?_
          refine g_bipush (n := 322) (v := nI 17) C dL_isDone_320 rfl rfl ?_
          refine g_icmp_ge (n := 325) (tgt := 380) C dL_isDone_322 (by decide) rfl (fun h322 => ?_) (fun h322 => absurd ((nI_leI (by decide) (by omega)).mpr (by omega)) h322)
          refine g_iload (n := 382) C dL_isDone_380 rfl rfl ?_
          refine g_bipush (n := 384) (v := nI 22) C dL_isDone_382 rfl rfl ?_
          refine g_icmp_ge (n := 387) (tgt := 396) C dL_isDone_384 (by decide) rfl (fun h384 => absurd h384 (fun z => by have := gn_ge z (by decide) (by omega); omega)) (fun h384 => ?_)
          refine g_aload_n (n := 388) C dL_isDone_387 rfl (Or.inr ⟨_, rfl⟩) rfl ?_
          refine g_iload (n := 390) C dL_isDone_388 rfl rfl ?_
          refine g_iconst (n := 391) (v := nI 4) C dL_isDone_390 rfl rfl ?_
          refine g_iremN (n := 392) C dL_isDone_391 (by omega) (by omega) (by omega) rfl ?_
          refine g_S (n := 395) (rest := []) C (gM.g (l_isBuilt hE hl hN h hi (i := ja % 4) (by omega)) (fun _ _ _ z1 z2 => z1.ext z2) hg) dL_isDone_392 kM_L_isBuilt kL_L_155 kS_L_isBuilt rfl rfl (Nat.le_of_ble_eq_true rfl) ⟨by decide, by decide⟩ ⟨by first | omega | (simp only [gRm]; omega), by first | omega | (simp only [gRm]; omega)⟩ rfl (fun v9 L9 f9 hq => ?_)
          obtain ⟨rfl, L2, rfl, hga2, hlw, hg2⟩ := hq
          refine G.sk (st' := [_]) rfl ?_
          refine g_zret C hr rfl dL_isDone_395 ?_ ⟨by first | omega | (simp only [gRm]; omega), by first | omega | (simp only [gRm]; omega)⟩
          exact ⟨rfl, L2, g, rfl, hga2, hg2, hlw.r3 hgA⟩
        · by_cases hw22 : jw = 22
          · rcases h.bu.sl with ⟨h17, -⟩ | ⟨t, c, k, hvg, esl⟩
            · by_cases hn4 : n < 400
              · obtain ⟨m, b2, hm10, hb3, hm3, hb2, -⟩ := h.rec9 (ja % 4) (by omega)
                obtain ⟨k1, n1, A2, PR1, PL1, S1, hrr, hw1, hx1, hn1, hk1, hrf, hfr, hp0, hl0⟩ := root_ex (h.wf hi) (by omega) hb3
                have hag : agr A2 (begA A2 A (ja % 4) m) n1 := agr.of (fun k j h1 h2 => begA_k (by omega) (by omega) (by omega))
                have hbk : ∀ k j, k < 21 → begA A2 A (ja % 4) m k j = A2 k j := fun k j hk => begA_k (by omega) (by omega) (by omega)
                have hw2 : WF n1 PR1 PL1 S1 (begA A2 A (ja % 4) m) := hw1.ag hag.w (fun k j hk => hbk k j (by omega))
                have hk18 : begA A2 A (ja % 4) m 8 k1 = 0 := (hbk 8 k1 (by decide)).trans hrf.1.1.1
                have hA3 : ∀ j, begA A2 A (ja % 4) m 3 j = A 3 j := fun j => (hbk 3 j (by decide)).trans (hfr 3 j (by decide))
                have hgm : g (ja % 4) = nI m := (hgA (ja % 4) (by omega)).symm.trans hm3
                have hn1b : n1 ≤ 420 := hw1.1
                by_cases hm0 : m = 0
                · have hslm : slV (IVf I n1 (nI (if m = 0 then 0 else 1)) (nI (if m = 0 then 1 else 0)) (nI m) (nI 0) (nI k1) (I 25) (I 26)) = nI m := by
                    rw [sl_m (t := 0) (m := m) (by show nI (if m = 0 then 0 else 1) = nI (if 0 = m then 0 else 1); by_cases z : m = 0 <;> simp [z, eq_comm]) rfl rfl (Nat.zero_le _), Nat.sub_zero]
                  have hres : resV (begA A2 A (ja % 4) m) (IVf I n1 (nI (if m = 0 then 0 else 1)) (nI (if m = 0 then 1 else 0)) (nI m) (nI 0) (nI k1) (I 25) (I 26)) = nI k1 := res_1 (by show nI (if m = 0 then 1 else 0) = nI 1; rw [if_pos hm0]) rfl (by omega) hk18
                  refine g_iload (n := 47) C dL_isDone_45 rfl rfl ?_
                  refine g_iconst (n := 48) (v := nI 4) C dL_isDone_47 rfl rfl ?_
                  refine g_icmp_ge (n := 51) (tgt := 204) C dL_isDone_48 (by decide) rfl (fun h48 => ?_) (fun h48 => absurd ((nI_leI (by decide) (by omega)).mpr (by omega)) h48)
                  refine g_iload (n := 206) C dL_isDone_204 rfl rfl ?_
                  refine g_bipush (n := 208) (v := nI 8) C dL_isDone_206 rfl rfl ?_
                  refine g_icmp_ge (n := 211) (tgt := 318) C dL_isDone_208 (by decide) rfl (fun h208 => ?_) (fun h208 => absurd ((nI_leI (by decide) (by omega)).mpr (by omega)) h208)
                  refine g_iload (n := 320) C dL_isDone_318 rfl rfl ?_
                  refine g_bipush (n := 322) (v := nI 17) C dL_isDone_320 rfl rfl ?_
                  refine g_icmp_ge (n := 325) (tgt := 380) C dL_isDone_322 (by decide) rfl (fun h322 => ?_) (fun h322 => absurd ((nI_leI (by decide) (by omega)).mpr (by omega)) h322)
                  refine g_iload (n := 382) C dL_isDone_380 rfl rfl ?_
                  refine g_bipush (n := 384) (v := nI 22) C dL_isDone_382 rfl rfl ?_
                  refine g_icmp_ge (n := 387) (tgt := 396) C dL_isDone_384 (by decide) rfl (fun h384 => ?_) (fun h384 => absurd ((nI_leI (by decide) (by omega)).mpr (by omega)) h384)
                  refine g_iload (n := 398) C dL_isDone_396 rfl rfl ?_
                  refine g_bipush (n := 400) (v := nI 22) C dL_isDone_398 rfl rfl ?_
                  refine g_icmp_ne (n := 403) (tgt := 574) C dL_isDone_400 (by decide) rfl (fun h400 => absurd (by rw [hw22]) h400) (fun h400 => ?_)
                  refine g_aload_n (n := 404) C dL_isDone_403 rfl (Or.inr ⟨_, rfl⟩) rfl ?_
                  refine g_V (n := 407) (rest := []) C (z_stepsLeft hE hl (h.up [ga]) (mc := 0) (ms := 0)) dL_isDone_404 kM_X5_stepsLeft kL_L_117 kV_X5_stepsLeft (h.up [ga]).co.choose_spec rfl rfl rfl (Nat.le_of_ble_eq_true rfl) ⟨by decide, by decide⟩ ⟨by first | omega | (simp only [gRm]; omega), by first | omega | (simp only [gRm]; omega)⟩ rfl (fun v9 L9 f9 hq => ?_)
                  obtain ⟨rfl, rfl, rfl⟩ := hq
                  refine G.sk (st' := [_]) rfl ?_
                  rw [sl_0 h17]
                  refine g_istore (n := 409) (ls' := [_, _, _, _, _, _, _, _, _, _, _, _]) C dL_isDone_407 rfl (by decide) rfl ?_
                  refine g_iload (n := 411) C dL_isDone_409 rfl rfl ?_
                  refine g_if_ne (n := 414) (tgt := 428) C dL_isDone_411 (by decide) rfl (fun h411 => (by first | exact absurd h411 (by decide) | exact (h411 (by decide)).elim)) (fun h411 => ?_)
                  refine g_aload_n (n := 415) C dL_isDone_414 rfl (Or.inr ⟨_, rfl⟩) rfl ?_
                  refine g_V (n := 418) (rest := []) C (z_layers hE hl (h.up [ga]) (mc := 0) (ms := 0)) dL_isDone_415 kM_X5_layers kL_L_111 kV_X5_layers (h.up [ga]).co.choose_spec rfl rfl rfl (Nat.le_of_ble_eq_true rfl) ⟨by decide, by decide⟩ ⟨by first | omega | (simp only [gRm]; omega), by first | omega | (simp only [gRm]; omega)⟩ rfl (fun v9 L9 f9 hq => ?_)
                  obtain ⟨rfl, rfl, rfl⟩ := hq
                  refine G.sk (st' := [_]) rfl ?_
                  refine g_sipush (n := 421) (v := nI 399) C dL_isDone_418 rfl rfl ?_
                  refine g_icmp_le (n := 424) (tgt := 428) C dL_isDone_421 (by decide) rfl (fun h421 => ?_) (fun h421 => absurd ((nI_leI (by omega) (by decide)).mpr (by omega)) h421)
                  refine g_iconst (n := 429) (v := nI 0) C dL_isDone_428 rfl rfl ?_
                  refine g_istore (n := 431) (ls' := [_, _, _, _, _, _, _, _, _, _, _, _]) C dL_isDone_429 rfl (by decide) rfl ?_
                  refine g_iload (n := 433) C dL_isDone_431 rfl rfl ?_
                  refine g_if_le (n := 436) (tgt := 445) C dL_isDone_433 (by decide) rfl (fun h433 => ?_) (fun h433 => absurd (by decide) h433)
                  refine g_aload_n (n := 446) C dL_isDone_445 rfl (Or.inr ⟨_, rfl⟩) rfl ?_
                  refine g_iconst (n := 447) (v := nI 0) C dL_isDone_446 rfl rfl ?_
                  refine g_iload (n := 449) C dL_isDone_447 rfl rfl ?_
                  refine g_iconst (n := 450) (v := nI 4) C dL_isDone_449 rfl rfl ?_
                  refine g_iremN (n := 451) C dL_isDone_450 (by omega) (by omega) (by omega) rfl ?_
                  refine g_SH (n := 454) (rest := []) C (gH9.g (t_start hE hl hN h (i := ja % 4) (by omega) h17 hn4 hb2 hb3 hm3 hm10 hrr hw2) (fun _ _ _ z1 z2 => z1.ext z2) hg) dL_isDone_451 kH_builds kW_L_131 kT_builds rfl rfl (Nat.le_of_ble_eq_true rfl) ⟨by decide, by decide⟩ ⟨by first | omega | (simp only [gRm]; omega), by first | omega | (simp only [gRm]; omega)⟩ rfl (fun v9 L9 f9 hq => ?_)
                  obtain ⟨rfl, L2, rfl, hga2, h2, hg2⟩ := hq
                  refine G.sk (st' := [_]) rfl ?_
                  refine g_istore (n := 456) (ls' := [_, _, _, _, _, _, _, _, _, _, _, _]) C dL_isDone_454 rfl (by decide) rfl ?_
                  refine g_iload (n := 458) C dL_isDone_456 rfl rfl ?_
                  refine g_if_eq (n := 461) (tgt := 474) C dL_isDone_458 (by decide) rfl (fun h458 => ?_) (fun h458 => absurd (by decide) h458)
                  refine g_iload (n := 476) C dL_isDone_474 rfl rfl ?_
                  refine g_if_le (n := 479) (tgt := 527) C dL_isDone_476 (by decide) rfl (fun h476 => ?_) (fun h476 => absurd (by decide) h476)
                  refine g_aload_n (n := 528) C dL_isDone_527 rfl (Or.inr ⟨_, rfl⟩) rfl ?_
                  refine g_iload (n := 530) C dL_isDone_528 rfl rfl ?_
                  refine g_V (n := 533) (rest := []) C (z_depth hE hl (h2.up [ga]) (mc := 0) (ms := 0) (k := k1) hk1 hk18) dL_isDone_530 kM_X5_depth kL_L_95 kV_X5_depth (h2.up [ga]).co.choose_spec rfl rfl rfl (Nat.le_of_ble_eq_true rfl) ⟨by decide, by decide⟩ ⟨by first | omega | (simp only [gRm]; omega), by first | omega | (simp only [gRm]; omega)⟩ rfl (fun v9 L9 f9 hq => ?_)
                  obtain ⟨rfl, rfl, rfl⟩ := hq
                  refine G.sk (st' := [_]) rfl ?_
                  rw [hl0]
                  refine g_iconst (n := 534) (v := nI 1) C dL_isDone_533 rfl rfl ?_
                  refine g_icmp_ne (n := 537) (tgt := 572) C dL_isDone_534 (by decide) rfl (fun h534 => absurd rfl h534) (fun h534 => ?_)
                  refine g_aload_n (n := 538) C dL_isDone_537 rfl (Or.inr ⟨_, rfl⟩) rfl ?_
                  refine g_V (n := 541) (rest := []) C (z_stepsLeft hE hl (h2.up [ga]) (mc := 0) (ms := 0) ) dL_isDone_538 kM_X5_stepsLeft kL_L_117 kV_X5_stepsLeft (h2.up [ga]).co.choose_spec rfl rfl rfl (Nat.le_of_ble_eq_true rfl) ⟨by decide, by decide⟩ ⟨by first | omega | (simp only [gRm]; omega), by first | omega | (simp only [gRm]; omega)⟩ rfl (fun v9 L9 f9 hq => ?_)
                  obtain ⟨rfl, rfl, rfl⟩ := hq
                  refine G.sk (st' := [_]) rfl ?_
                  rw [hslm]
                  refine g_aload_n (n := 542) C dL_isDone_541 rfl (Or.inr ⟨_, rfl⟩) rfl ?_
                  refine g_iload (n := 544) C dL_isDone_542 rfl rfl ?_
                  refine g_iconst (n := 545) (v := nI 4) C dL_isDone_544 rfl rfl ?_
                  refine g_iremN (n := 546) C dL_isDone_545 (by omega) (by omega) (by omega) rfl ?_
                  refine g_iald (n := 547) C dL_isDone_546 ⟨List.mem_append_right _ (List.mem_singleton.mpr rfl), hg2⟩ rfl (by omega) (by decide) rfl ?_
                  rw [hgm]
                  refine g_icmp_ne (n := 550) (tgt := 572) C dL_isDone_547 (by decide) rfl (fun h547 => absurd rfl h547) (fun h547 => ?_)
                  refine g_aload_n (n := 551) C dL_isDone_550 rfl (Or.inr ⟨_, rfl⟩) rfl ?_
                  refine g_iload (n := 553) C dL_isDone_551 rfl rfl ?_
                  refine g_iconst (n := 554) (v := nI 4) C dL_isDone_553 rfl rfl ?_
                  refine g_iremN (n := 555) C dL_isDone_554 (by omega) (by omega) (by omega) rfl ?_
                  refine g_iald (n := 556) C dL_isDone_555 ⟨List.mem_append_right _ (List.mem_singleton.mpr rfl), hg2⟩ rfl (by omega) (by decide) rfl ?_
                  rw [hgm]
                  refine g_if_gt (n := 559) (tgt := 568) C dL_isDone_556 (by decide) rfl (fun h556 => absurd h556 (by rw [hm0]; decide)) (fun h556 => ?_)
                  refine g_aload_n (n := 560) C dL_isDone_559 rfl (Or.inr ⟨_, rfl⟩) rfl ?_
                  refine g_V (n := 563) (rest := []) C (z_built hE hl (h2.up [ga]) (mc := 0) (ms := 0) ) dL_isDone_560 kM_X5_built kL_L_114 kV_X5_built (h2.up [ga]).co.choose_spec rfl rfl rfl (Nat.le_of_ble_eq_true rfl) ⟨by decide, by decide⟩ ⟨by first | omega | (simp only [gRm]; omega), by first | omega | (simp only [gRm]; omega)⟩ rfl (fun v9 L9 f9 hq => ?_)
                  obtain ⟨rfl, rfl, rfl⟩ := hq
                  refine G.sk (st' := [_]) rfl ?_
                  rw [hres]
                  refine g_iload (n := 565) C dL_isDone_563 rfl rfl ?_
                  refine g_icmp_ne (n := 568) (tgt := 572) C dL_isDone_565 (by decide) rfl (fun h565 => absurd rfl h565) (fun h565 => ?_)
                  refine g_iconst (n := 569) (v := nI 1) C dL_isDone_568 rfl rfl ?_
                  refine g_goto (tgt := 573) C dL_isDone_569 (by decide) ?_
                  refine g_zret C hr rfl dL_isDone_573 ?_ ⟨by first | omega | (simp only [gRm]; omega), by first | omega | (simp only [gRm]; omega)⟩
                  exact ⟨rfl, L2, g, rfl, hga2, hg2, n1, PR1, PL1, S1, _, _, h2, hw2.2.2.2.2.2.2, fun i hi4 => (hA3 i).trans (hgA i hi4)⟩
                · have hslm : slV (IVf I n1 (nI (if m = 0 then 0 else 1)) (nI (if m = 0 then 1 else 0)) (nI m) (nI 0) (nI k1) (I 25) (I 26)) = nI m := by
                    rw [sl_m (t := 0) (m := m) (by show nI (if m = 0 then 0 else 1) = nI (if 0 = m then 0 else 1); by_cases z : m = 0 <;> simp [z, eq_comm]) rfl rfl (Nat.zero_le _), Nat.sub_zero]
                  refine g_iload (n := 47) C dL_isDone_45 rfl rfl ?_
                  refine g_iconst (n := 48) (v := nI 4) C dL_isDone_47 rfl rfl ?_
                  refine g_icmp_ge (n := 51) (tgt := 204) C dL_isDone_48 (by decide) rfl (fun h48 => ?_) (fun h48 => absurd ((nI_leI (by decide) (by omega)).mpr (by omega)) h48)
                  refine g_iload (n := 206) C dL_isDone_204 rfl rfl ?_
                  refine g_bipush (n := 208) (v := nI 8) C dL_isDone_206 rfl rfl ?_
                  refine g_icmp_ge (n := 211) (tgt := 318) C dL_isDone_208 (by decide) rfl (fun h208 => ?_) (fun h208 => absurd ((nI_leI (by decide) (by omega)).mpr (by omega)) h208)
                  refine g_iload (n := 320) C dL_isDone_318 rfl rfl ?_
                  refine g_bipush (n := 322) (v := nI 17) C dL_isDone_320 rfl rfl ?_
                  refine g_icmp_ge (n := 325) (tgt := 380) C dL_isDone_322 (by decide) rfl (fun h322 => ?_) (fun h322 => absurd ((nI_leI (by decide) (by omega)).mpr (by omega)) h322)
                  refine g_iload (n := 382) C dL_isDone_380 rfl rfl ?_
                  refine g_bipush (n := 384) (v := nI 22) C dL_isDone_382 rfl rfl ?_
                  refine g_icmp_ge (n := 387) (tgt := 396) C dL_isDone_384 (by decide) rfl (fun h384 => ?_) (fun h384 => absurd ((nI_leI (by decide) (by omega)).mpr (by omega)) h384)
                  refine g_iload (n := 398) C dL_isDone_396 rfl rfl ?_
                  refine g_bipush (n := 400) (v := nI 22) C dL_isDone_398 rfl rfl ?_
                  refine g_icmp_ne (n := 403) (tgt := 574) C dL_isDone_400 (by decide) rfl (fun h400 => absurd (by rw [hw22]) h400) (fun h400 => ?_)
                  refine g_aload_n (n := 404) C dL_isDone_403 rfl (Or.inr ⟨_, rfl⟩) rfl ?_
                  refine g_V (n := 407) (rest := []) C (z_stepsLeft hE hl (h.up [ga]) (mc := 0) (ms := 0)) dL_isDone_404 kM_X5_stepsLeft kL_L_117 kV_X5_stepsLeft (h.up [ga]).co.choose_spec rfl rfl rfl (Nat.le_of_ble_eq_true rfl) ⟨by decide, by decide⟩ ⟨by first | omega | (simp only [gRm]; omega), by first | omega | (simp only [gRm]; omega)⟩ rfl (fun v9 L9 f9 hq => ?_)
                  obtain ⟨rfl, rfl, rfl⟩ := hq
                  refine G.sk (st' := [_]) rfl ?_
                  rw [sl_0 h17]
                  refine g_istore (n := 409) (ls' := [_, _, _, _, _, _, _, _, _, _, _, _]) C dL_isDone_407 rfl (by decide) rfl ?_
                  refine g_iload (n := 411) C dL_isDone_409 rfl rfl ?_
                  refine g_if_ne (n := 414) (tgt := 428) C dL_isDone_411 (by decide) rfl (fun h411 => (by first | exact absurd h411 (by decide) | exact (h411 (by decide)).elim)) (fun h411 => ?_)
                  refine g_aload_n (n := 415) C dL_isDone_414 rfl (Or.inr ⟨_, rfl⟩) rfl ?_
                  refine g_V (n := 418) (rest := []) C (z_layers hE hl (h.up [ga]) (mc := 0) (ms := 0)) dL_isDone_415 kM_X5_layers kL_L_111 kV_X5_layers (h.up [ga]).co.choose_spec rfl rfl rfl (Nat.le_of_ble_eq_true rfl) ⟨by decide, by decide⟩ ⟨by first | omega | (simp only [gRm]; omega), by first | omega | (simp only [gRm]; omega)⟩ rfl (fun v9 L9 f9 hq => ?_)
                  obtain ⟨rfl, rfl, rfl⟩ := hq
                  refine G.sk (st' := [_]) rfl ?_
                  refine g_sipush (n := 421) (v := nI 399) C dL_isDone_418 rfl rfl ?_
                  refine g_icmp_le (n := 424) (tgt := 428) C dL_isDone_421 (by decide) rfl (fun h421 => ?_) (fun h421 => absurd ((nI_leI (by omega) (by decide)).mpr (by omega)) h421)
                  refine g_iconst (n := 429) (v := nI 0) C dL_isDone_428 rfl rfl ?_
                  refine g_istore (n := 431) (ls' := [_, _, _, _, _, _, _, _, _, _, _, _]) C dL_isDone_429 rfl (by decide) rfl ?_
                  refine g_iload (n := 433) C dL_isDone_431 rfl rfl ?_
                  refine g_if_le (n := 436) (tgt := 445) C dL_isDone_433 (by decide) rfl (fun h433 => ?_) (fun h433 => absurd (by decide) h433)
                  refine g_aload_n (n := 446) C dL_isDone_445 rfl (Or.inr ⟨_, rfl⟩) rfl ?_
                  refine g_iconst (n := 447) (v := nI 0) C dL_isDone_446 rfl rfl ?_
                  refine g_iload (n := 449) C dL_isDone_447 rfl rfl ?_
                  refine g_iconst (n := 450) (v := nI 4) C dL_isDone_449 rfl rfl ?_
                  refine g_iremN (n := 451) C dL_isDone_450 (by omega) (by omega) (by omega) rfl ?_
                  refine g_SH (n := 454) (rest := []) C (gH9.g (t_start hE hl hN h (i := ja % 4) (by omega) h17 hn4 hb2 hb3 hm3 hm10 hrr hw2) (fun _ _ _ z1 z2 => z1.ext z2) hg) dL_isDone_451 kH_builds kW_L_131 kT_builds rfl rfl (Nat.le_of_ble_eq_true rfl) ⟨by decide, by decide⟩ ⟨by first | omega | (simp only [gRm]; omega), by first | omega | (simp only [gRm]; omega)⟩ rfl (fun v9 L9 f9 hq => ?_)
                  obtain ⟨rfl, L2, rfl, hga2, h2, hg2⟩ := hq
                  refine G.sk (st' := [_]) rfl ?_
                  refine g_istore (n := 456) (ls' := [_, _, _, _, _, _, _, _, _, _, _, _]) C dL_isDone_454 rfl (by decide) rfl ?_
                  refine g_iload (n := 458) C dL_isDone_456 rfl rfl ?_
                  refine g_if_eq (n := 461) (tgt := 474) C dL_isDone_458 (by decide) rfl (fun h458 => ?_) (fun h458 => absurd (by decide) h458)
                  refine g_iload (n := 476) C dL_isDone_474 rfl rfl ?_
                  refine g_if_le (n := 479) (tgt := 527) C dL_isDone_476 (by decide) rfl (fun h476 => ?_) (fun h476 => absurd (by decide) h476)
                  refine g_aload_n (n := 528) C dL_isDone_527 rfl (Or.inr ⟨_, rfl⟩) rfl ?_
                  refine g_iload (n := 530) C dL_isDone_528 rfl rfl ?_
                  refine g_V (n := 533) (rest := []) C (z_depth hE hl (h2.up [ga]) (mc := 0) (ms := 0) (k := k1) hk1 hk18) dL_isDone_530 kM_X5_depth kL_L_95 kV_X5_depth (h2.up [ga]).co.choose_spec rfl rfl rfl (Nat.le_of_ble_eq_true rfl) ⟨by decide, by decide⟩ ⟨by first | omega | (simp only [gRm]; omega), by first | omega | (simp only [gRm]; omega)⟩ rfl (fun v9 L9 f9 hq => ?_)
                  obtain ⟨rfl, rfl, rfl⟩ := hq
                  refine G.sk (st' := [_]) rfl ?_
                  rw [hl0]
                  refine g_iconst (n := 534) (v := nI 1) C dL_isDone_533 rfl rfl ?_
                  refine g_icmp_ne (n := 537) (tgt := 572) C dL_isDone_534 (by decide) rfl (fun h534 => absurd rfl h534) (fun h534 => ?_)
                  refine g_aload_n (n := 538) C dL_isDone_537 rfl (Or.inr ⟨_, rfl⟩) rfl ?_
                  refine g_V (n := 541) (rest := []) C (z_stepsLeft hE hl (h2.up [ga]) (mc := 0) (ms := 0) ) dL_isDone_538 kM_X5_stepsLeft kL_L_117 kV_X5_stepsLeft (h2.up [ga]).co.choose_spec rfl rfl rfl (Nat.le_of_ble_eq_true rfl) ⟨by decide, by decide⟩ ⟨by first | omega | (simp only [gRm]; omega), by first | omega | (simp only [gRm]; omega)⟩ rfl (fun v9 L9 f9 hq => ?_)
                  obtain ⟨rfl, rfl, rfl⟩ := hq
                  refine G.sk (st' := [_]) rfl ?_
                  rw [hslm]
                  refine g_aload_n (n := 542) C dL_isDone_541 rfl (Or.inr ⟨_, rfl⟩) rfl ?_
                  refine g_iload (n := 544) C dL_isDone_542 rfl rfl ?_
                  refine g_iconst (n := 545) (v := nI 4) C dL_isDone_544 rfl rfl ?_
                  refine g_iremN (n := 546) C dL_isDone_545 (by omega) (by omega) (by omega) rfl ?_
                  refine g_iald (n := 547) C dL_isDone_546 ⟨List.mem_append_right _ (List.mem_singleton.mpr rfl), hg2⟩ rfl (by omega) (by decide) rfl ?_
                  rw [hgm]
                  refine g_icmp_ne (n := 550) (tgt := 572) C dL_isDone_547 (by decide) rfl (fun h547 => absurd rfl h547) (fun h547 => ?_)
                  refine g_aload_n (n := 551) C dL_isDone_550 rfl (Or.inr ⟨_, rfl⟩) rfl ?_
                  refine g_iload (n := 553) C dL_isDone_551 rfl rfl ?_
                  refine g_iconst (n := 554) (v := nI 4) C dL_isDone_553 rfl rfl ?_
                  refine g_iremN (n := 555) C dL_isDone_554 (by omega) (by omega) (by omega) rfl ?_
                  refine g_iald (n := 556) C dL_isDone_555 ⟨List.mem_append_right _ (List.mem_singleton.mpr rfl), hg2⟩ rfl (by omega) (by decide) rfl ?_
                  rw [hgm]
                  refine g_if_gt (n := 559) (tgt := 568) C dL_isDone_556 (by decide) rfl (fun h556 => ?_) (fun h556 => absurd ((nI_ltI (a := 0) (by decide) (by omega)).mpr (by omega)) h556)
                  refine g_iconst (n := 569) (v := nI 1) C dL_isDone_568 rfl rfl ?_
                  refine g_goto (tgt := 573) C dL_isDone_569 (by decide) ?_
                  refine g_zret C hr rfl dL_isDone_573 ?_ ⟨by first | omega | (simp only [gRm]; omega), by first | omega | (simp only [gRm]; omega)⟩
                  exact ⟨rfl, L2, g, rfl, hga2, hg2, n1, PR1, PL1, S1, _, _, h2, hw2.2.2.2.2.2.2, fun i hi4 => (hA3 i).trans (hgA i hi4)⟩
              · refine g_iload (n := 47) C dL_isDone_45 rfl rfl ?_
                refine g_iconst (n := 48) (v := nI 4) C dL_isDone_47 rfl rfl ?_
                refine g_icmp_ge (n := 51) (tgt := 204) C dL_isDone_48 (by decide) rfl (fun h48 => ?_) (fun h48 => absurd ((nI_leI (by decide) (by omega)).mpr (by omega)) h48)
                refine g_iload (n := 206) C dL_isDone_204 rfl rfl ?_
                refine g_bipush (n := 208) (v := nI 8) C dL_isDone_206 rfl rfl ?_
                refine g_icmp_ge (n := 211) (tgt := 318) C dL_isDone_208 (by decide) rfl (fun h208 => ?_) (fun h208 => absurd ((nI_leI (by decide) (by omega)).mpr (by omega)) h208)
                refine g_iload (n := 320) C dL_isDone_318 rfl rfl ?_
                refine g_bipush (n := 322) (v := nI 17) C dL_isDone_320 rfl rfl ?_
                refine g_icmp_ge (n := 325) (tgt := 380) C dL_isDone_322 (by decide) rfl (fun h322 => ?_) (fun h322 => absurd ((nI_leI (by decide) (by omega)).mpr (by omega)) h322)
                refine g_iload (n := 382) C dL_isDone_380 rfl rfl ?_
                refine g_bipush (n := 384) (v := nI 22) C dL_isDone_382 rfl rfl ?_
                refine g_icmp_ge (n := 387) (tgt := 396) C dL_isDone_384 (by decide) rfl (fun h384 => ?_) (fun h384 => absurd ((nI_leI (by decide) (by omega)).mpr (by omega)) h384)
                refine g_iload (n := 398) C dL_isDone_396 rfl rfl ?_
                refine g_bipush (n := 400) (v := nI 22) C dL_isDone_398 rfl rfl ?_
                refine g_icmp_ne (n := 403) (tgt := 574) C dL_isDone_400 (by decide) rfl (fun h400 => absurd (by rw [hw22]) h400) (fun h400 => ?_)
                refine g_aload_n (n := 404) C dL_isDone_403 rfl (Or.inr ⟨_, rfl⟩) rfl ?_
                refine g_V (n := 407) (rest := []) C (z_stepsLeft hE hl (h.up [ga]) (mc := 0) (ms := 0)) dL_isDone_404 kM_X5_stepsLeft kL_L_117 kV_X5_stepsLeft (h.up [ga]).co.choose_spec rfl rfl rfl (Nat.le_of_ble_eq_true rfl) ⟨by decide, by decide⟩ ⟨by first | omega | (simp only [gRm]; omega), by first | omega | (simp only [gRm]; omega)⟩ rfl (fun v9 L9 f9 hq => ?_)
                obtain ⟨rfl, rfl, rfl⟩ := hq
                refine G.sk (st' := [_]) rfl ?_
                rw [sl_0 h17]
                refine g_istore (n := 409) (ls' := [_, _, _, _, _, _, _, _, _, _, _, _]) C dL_isDone_407 rfl (by decide) rfl ?_
                refine g_iload (n := 411) C dL_isDone_409 rfl rfl ?_
                refine g_if_ne (n := 414) (tgt := 428) C dL_isDone_411 (by decide) rfl (fun h411 => (by first | exact absurd h411 (by decide) | exact (h411 (by decide)).elim)) (fun h411 => ?_)
                refine g_aload_n (n := 415) C dL_isDone_414 rfl (Or.inr ⟨_, rfl⟩) rfl ?_
                refine g_V (n := 418) (rest := []) C (z_layers hE hl (h.up [ga]) (mc := 0) (ms := 0)) dL_isDone_415 kM_X5_layers kL_L_111 kV_X5_layers (h.up [ga]).co.choose_spec rfl rfl rfl (Nat.le_of_ble_eq_true rfl) ⟨by decide, by decide⟩ ⟨by first | omega | (simp only [gRm]; omega), by first | omega | (simp only [gRm]; omega)⟩ rfl (fun v9 L9 f9 hq => ?_)
                obtain ⟨rfl, rfl, rfl⟩ := hq
                refine G.sk (st' := [_]) rfl ?_
                refine g_sipush (n := 421) (v := nI 399) C dL_isDone_418 rfl rfl ?_
                refine g_icmp_le (n := 424) (tgt := 428) C dL_isDone_421 (by decide) rfl (fun h421 => absurd h421 (fun y => by have := gn_ge y (by omega) (by decide); omega)) (fun h421 => ?_)
                refine g_iconst (n := 425) (v := nI 1) C dL_isDone_424 rfl rfl ?_
                refine g_goto (tgt := 429) C dL_isDone_425 (by decide) ?_
                refine g_istore (n := 431) (ls' := [_, _, _, _, _, _, _, _, _, _, _, _]) C dL_isDone_429 rfl (by decide) rfl ?_
                refine g_iload (n := 433) C dL_isDone_431 rfl rfl ?_
                refine g_if_le (n := 436) (tgt := 445) C dL_isDone_433 (by decide) rfl (fun h433 => ?_) (fun h433 => absurd (by decide) h433)
                refine g_aload_n (n := 446) C dL_isDone_445 rfl (Or.inr ⟨_, rfl⟩) rfl ?_
                refine g_iconst (n := 447) (v := nI 0) C dL_isDone_446 rfl rfl ?_
                refine g_iload (n := 449) C dL_isDone_447 rfl rfl ?_
                refine g_iconst (n := 450) (v := nI 4) C dL_isDone_449 rfl rfl ?_
                refine g_iremN (n := 451) C dL_isDone_450 (by omega) (by omega) (by omega) rfl ?_
                refine g_SH (n := 454) (rest := []) C (tn_start_S hE hl hN (h.up [ga]) (x := nI (ja % 4)) ⟨ja % 4, by omega, rfl⟩ (fun ⟨_, y2⟩ => absurd y2 (by omega))) dL_isDone_451 kH_builds kW_L_131 kT_builds rfl rfl (Nat.le_of_ble_eq_true rfl) ⟨by decide, by decide⟩ ⟨by first | omega | (simp only [gRm]; omega), by first | omega | (simp only [gRm]; omega)⟩ rfl (fun v9 L9 f9 hq => ?_)
                obtain ⟨rfl, rfl, rfl⟩ := hq
                refine G.sk (st' := [_]) rfl ?_
                refine g_istore (n := 456) (ls' := [_, _, _, _, _, _, _, _, _, _, _, _]) C dL_isDone_454 rfl (by decide) rfl ?_
                refine g_iload (n := 458) C dL_isDone_456 rfl rfl ?_
                refine g_if_eq (n := 461) (tgt := 474) C dL_isDone_458 (by decide) rfl (fun h458 => (by first | exact absurd h458 (by decide) | exact (h458 (by decide)).elim)) (fun h458 => ?_)
                refine g_iload (n := 463) C dL_isDone_461 rfl rfl ?_
                refine g_bipush (n := 465) (v := -10) C dL_isDone_463 rfl rfl ?_
                refine g_icmp_ne (n := 468) (tgt := 472) C dL_isDone_465 (by decide) rfl (fun h465 => (by first | exact absurd h465 (by decide) | exact (h465 (by decide)).elim)) (fun h465 => ?_)
                refine g_iconst (n := 469) (v := nI 1) C dL_isDone_468 rfl rfl ?_
                refine g_goto (tgt := 473) C dL_isDone_469 (by decide) ?_
                refine g_zret C hr rfl dL_isDone_473 ?_ ⟨by first | omega | (simp only [gRm]; omega), by first | omega | (simp only [gRm]; omega)⟩
                exact ⟨rfl, Lc, g, rfl, hga, hg, n, PR, PL, S, A, I, h, hi, hgA⟩
            · have htc : t < c ∧ c ≤ 10 := ⟨hvg.2.2.2.2.1, hvg.2.2.2.2.2.1⟩
              obtain ⟨b, n1, A1, PR1, PL1, S1, go9, co9, mm9, d9, ly9, hi9, mi9, hgo, hw1, hA3, hb⟩ := stp_ex (h.wf hi) hvg
              obtain ⟨hgo17, hgo18, hgo19, hgo20, hgot, hgoc, hgok, hgo24, hgo8, -⟩ := hvg
              rcases hb with ⟨hbe, hg0, hc0⟩ | ⟨hbe, hsl⟩
              · refine g_iload (n := 47) C dL_isDone_45 rfl rfl ?_
                refine g_iconst (n := 48) (v := nI 4) C dL_isDone_47 rfl rfl ?_
                refine g_icmp_ge (n := 51) (tgt := 204) C dL_isDone_48 (by decide) rfl (fun h48 => ?_) (fun h48 => absurd ((nI_leI (by decide) (by omega)).mpr (by omega)) h48)
                refine g_iload (n := 206) C dL_isDone_204 rfl rfl ?_
                refine g_bipush (n := 208) (v := nI 8) C dL_isDone_206 rfl rfl ?_
                refine g_icmp_ge (n := 211) (tgt := 318) C dL_isDone_208 (by decide) rfl (fun h208 => ?_) (fun h208 => absurd ((nI_leI (by decide) (by omega)).mpr (by omega)) h208)
                refine g_iload (n := 320) C dL_isDone_318 rfl rfl ?_
                refine g_bipush (n := 322) (v := nI 17) C dL_isDone_320 rfl rfl ?_
                refine g_icmp_ge (n := 325) (tgt := 380) C dL_isDone_322 (by decide) rfl (fun h322 => ?_) (fun h322 => absurd ((nI_leI (by decide) (by omega)).mpr (by omega)) h322)
                refine g_iload (n := 382) C dL_isDone_380 rfl rfl ?_
                refine g_bipush (n := 384) (v := nI 22) C dL_isDone_382 rfl rfl ?_
                refine g_icmp_ge (n := 387) (tgt := 396) C dL_isDone_384 (by decide) rfl (fun h384 => ?_) (fun h384 => absurd ((nI_leI (by decide) (by omega)).mpr (by omega)) h384)
                refine g_iload (n := 398) C dL_isDone_396 rfl rfl ?_
                refine g_bipush (n := 400) (v := nI 22) C dL_isDone_398 rfl rfl ?_
                refine g_icmp_ne (n := 403) (tgt := 574) C dL_isDone_400 (by decide) rfl (fun h400 => absurd (by rw [hw22]) h400) (fun h400 => ?_)
                refine g_aload_n (n := 404) C dL_isDone_403 rfl (Or.inr ⟨_, rfl⟩) rfl ?_
                refine g_V (n := 407) (rest := []) C (z_stepsLeft hE hl (h.up [ga]) (mc := 0) (ms := 0)) dL_isDone_404 kM_X5_stepsLeft kL_L_117 kV_X5_stepsLeft (h.up [ga]).co.choose_spec rfl rfl rfl (Nat.le_of_ble_eq_true rfl) ⟨by decide, by decide⟩ ⟨by first | omega | (simp only [gRm]; omega), by first | omega | (simp only [gRm]; omega)⟩ rfl (fun v9 L9 f9 hq => ?_)
                obtain ⟨rfl, rfl, rfl⟩ := hq
                refine G.sk (st' := [_]) rfl ?_
                rw [esl]
                refine g_istore (n := 409) (ls' := [_, _, _, _, _, _, _, _, _, _, _, _]) C dL_isDone_407 rfl (by decide) rfl ?_
                refine g_iload (n := 411) C dL_isDone_409 rfl rfl ?_
                refine g_if_ne (n := 414) (tgt := 428) C dL_isDone_411 (by decide) rfl (fun h411 => ?_) (fun h411 => absurd h411 (fun z => by have := gn_inj (b := 0) (by omega) (by decide) z; omega))
                refine g_iconst (n := 429) (v := nI 0) C dL_isDone_428 rfl rfl ?_
                refine g_istore (n := 431) (ls' := [_, _, _, _, _, _, _, _, _, _, _, _]) C dL_isDone_429 rfl (by decide) rfl ?_
                refine g_iload (n := 433) C dL_isDone_431 rfl rfl ?_
                refine g_if_le (n := 436) (tgt := 445) C dL_isDone_433 (by decide) rfl (fun h433 => absurd h433 (fun y => by have := gn_ge (b := 0) y (by omega) (by decide); omega)) (fun h433 => ?_)
                refine g_aload_n (n := 437) C dL_isDone_436 rfl (Or.inr ⟨_, rfl⟩) rfl ?_
                refine g_iconst (n := 438) (v := nI 1) C dL_isDone_437 rfl rfl ?_
                refine g_iconst (n := 439) (v := nI 0) C dL_isDone_438 rfl rfl ?_
                refine g_SH (n := 442) (rest := []) C (gH9.g (t_step hE hl hN h hgo17 hgok hgo24 hgo20 hgot hgoc hgo19 hgo hw1 (nI 0)) (fun _ _ _ z1 z2 => z1.ext z2) hg) dL_isDone_439 kH_builds kW_L_131 kT_builds rfl rfl (Nat.le_of_ble_eq_true rfl) ⟨by decide, by decide⟩ ⟨by first | omega | (simp only [gRm]; omega), by first | omega | (simp only [gRm]; omega)⟩ rfl (fun v9 L9 f9 hq => ?_)
                obtain ⟨rfl, L2, rfl, hga2, h2, hg2⟩ := hq
                refine G.sk (st' := [_]) rfl ?_
                refine g_goto (tgt := 454) C dL_isDone_442 (by decide) ?_
                refine g_istore (n := 456) (ls' := [_, _, _, _, _, _, _, _, _, _, _, _]) C dL_isDone_454 rfl (by decide) rfl ?_
                refine g_iload (n := 458) C dL_isDone_456 rfl rfl ?_
                refine g_if_eq (n := 461) (tgt := 474) C dL_isDone_458 (by decide) rfl (fun h458 => ?_) (fun h458 => absurd (by decide) h458)
                refine g_iload (n := 476) C dL_isDone_474 rfl rfl ?_
                refine g_if_le (n := 479) (tgt := 527) C dL_isDone_476 (by decide) rfl (fun h476 => absurd h476 (fun y => by have := gn_ge (b := 0) y (by omega) (by decide); omega)) (fun h476 => ?_)
                refine g_iload (n := 481) C dL_isDone_479 rfl rfl ?_
                refine g_iconst (n := 482) (v := -1) C dL_isDone_481 rfl rfl ?_
                refine g_icmp_ne (n := 485) (tgt := 508) C dL_isDone_482 (by decide) rfl (fun h482 => absurd hbe h482) (fun h482 => ?_)
                refine g_aload_n (n := 486) C dL_isDone_485 rfl (Or.inr ⟨_, rfl⟩) rfl ?_
                refine g_V (n := 489) (rest := []) C (z_stepsLeft hE hl (h2.up [ga]) (mc := 0) (ms := 0) ) dL_isDone_486 kM_X5_stepsLeft kL_L_117 kV_X5_stepsLeft (h2.up [ga]).co.choose_spec rfl rfl rfl (Nat.le_of_ble_eq_true rfl) ⟨by decide, by decide⟩ ⟨by first | omega | (simp only [gRm]; omega), by first | omega | (simp only [gRm]; omega)⟩ rfl (fun v9 L9 f9 hq => ?_)
                obtain ⟨rfl, rfl, rfl⟩ := hq
                refine G.sk (st' := [_]) rfl ?_
                rw [sl_0 hg0]
                refine g_if_ne (n := 492) (tgt := 504) C dL_isDone_489 (by decide) rfl (fun h489 => (by first | exact absurd h489 (by decide) | exact (h489 (by decide)).elim)) (fun h489 => ?_)
                refine g_aload_n (n := 493) C dL_isDone_492 rfl (Or.inr ⟨_, rfl⟩) rfl ?_
                refine g_V (n := 496) (rest := []) C (z_built hE hl (h2.up [ga]) (mc := 0) (ms := 0) ) dL_isDone_493 kM_X5_built kL_L_114 kV_X5_built (h2.up [ga]).co.choose_spec rfl rfl rfl (Nat.le_of_ble_eq_true rfl) ⟨by decide, by decide⟩ ⟨by first | omega | (simp only [gRm]; omega), by first | omega | (simp only [gRm]; omega)⟩ rfl (fun v9 L9 f9 hq => ?_)
                obtain ⟨rfl, rfl, rfl⟩ := hq
                refine G.sk (st' := [_]) rfl ?_
                rw [res_0 hc0]
                refine g_iconst (n := 497) (v := -1) C dL_isDone_496 rfl rfl ?_
                refine g_icmp_ne (n := 500) (tgt := 504) C dL_isDone_497 (by decide) rfl (fun h497 => (by first | exact absurd h497 (by decide) | exact (h497 (by decide)).elim)) (fun h497 => ?_)
                refine g_iconst (n := 501) (v := nI 1) C dL_isDone_500 rfl rfl ?_
                refine g_goto (tgt := 573) C dL_isDone_501 (by decide) ?_
                refine g_zret C hr rfl dL_isDone_573 ?_ ⟨by first | omega | (simp only [gRm]; omega), by first | omega | (simp only [gRm]; omega)⟩
                exact ⟨rfl, L2, g, rfl, hga2, hg2, n1, PR1, PL1, S1, _, _, h2, hw1.2.2.2.2.2.2, fun i hi4 => (hA3 i).trans (hgA i hi4)⟩
              · refine g_iload (n := 47) C dL_isDone_45 rfl rfl ?_
                refine g_iconst (n := 48) (v := nI 4) C dL_isDone_47 rfl rfl ?_
                refine g_icmp_ge (n := 51) (tgt := 204) C dL_isDone_48 (by decide) rfl (fun h48 => ?_) (fun h48 => absurd ((nI_leI (by decide) (by omega)).mpr (by omega)) h48)
                refine g_iload (n := 206) C dL_isDone_204 rfl rfl ?_
                refine g_bipush (n := 208) (v := nI 8) C dL_isDone_206 rfl rfl ?_
                refine g_icmp_ge (n := 211) (tgt := 318) C dL_isDone_208 (by decide) rfl (fun h208 => ?_) (fun h208 => absurd ((nI_leI (by decide) (by omega)).mpr (by omega)) h208)
                refine g_iload (n := 320) C dL_isDone_318 rfl rfl ?_
                refine g_bipush (n := 322) (v := nI 17) C dL_isDone_320 rfl rfl ?_
                refine g_icmp_ge (n := 325) (tgt := 380) C dL_isDone_322 (by decide) rfl (fun h322 => ?_) (fun h322 => absurd ((nI_leI (by decide) (by omega)).mpr (by omega)) h322)
                refine g_iload (n := 382) C dL_isDone_380 rfl rfl ?_
                refine g_bipush (n := 384) (v := nI 22) C dL_isDone_382 rfl rfl ?_
                refine g_icmp_ge (n := 387) (tgt := 396) C dL_isDone_384 (by decide) rfl (fun h384 => ?_) (fun h384 => absurd ((nI_leI (by decide) (by omega)).mpr (by omega)) h384)
                refine g_iload (n := 398) C dL_isDone_396 rfl rfl ?_
                refine g_bipush (n := 400) (v := nI 22) C dL_isDone_398 rfl rfl ?_
                refine g_icmp_ne (n := 403) (tgt := 574) C dL_isDone_400 (by decide) rfl (fun h400 => absurd (by rw [hw22]) h400) (fun h400 => ?_)
                refine g_aload_n (n := 404) C dL_isDone_403 rfl (Or.inr ⟨_, rfl⟩) rfl ?_
                refine g_V (n := 407) (rest := []) C (z_stepsLeft hE hl (h.up [ga]) (mc := 0) (ms := 0)) dL_isDone_404 kM_X5_stepsLeft kL_L_117 kV_X5_stepsLeft (h.up [ga]).co.choose_spec rfl rfl rfl (Nat.le_of_ble_eq_true rfl) ⟨by decide, by decide⟩ ⟨by first | omega | (simp only [gRm]; omega), by first | omega | (simp only [gRm]; omega)⟩ rfl (fun v9 L9 f9 hq => ?_)
                obtain ⟨rfl, rfl, rfl⟩ := hq
                refine G.sk (st' := [_]) rfl ?_
                rw [esl]
                refine g_istore (n := 409) (ls' := [_, _, _, _, _, _, _, _, _, _, _, _]) C dL_isDone_407 rfl (by decide) rfl ?_
                refine g_iload (n := 411) C dL_isDone_409 rfl rfl ?_
                refine g_if_ne (n := 414) (tgt := 428) C dL_isDone_411 (by decide) rfl (fun h411 => ?_) (fun h411 => absurd h411 (fun z => by have := gn_inj (b := 0) (by omega) (by decide) z; omega))
                refine g_iconst (n := 429) (v := nI 0) C dL_isDone_428 rfl rfl ?_
                refine g_istore (n := 431) (ls' := [_, _, _, _, _, _, _, _, _, _, _, _]) C dL_isDone_429 rfl (by decide) rfl ?_
                refine g_iload (n := 433) C dL_isDone_431 rfl rfl ?_
                refine g_if_le (n := 436) (tgt := 445) C dL_isDone_433 (by decide) rfl (fun h433 => absurd h433 (fun y => by have := gn_ge (b := 0) y (by omega) (by decide); omega)) (fun h433 => ?_)
                refine g_aload_n (n := 437) C dL_isDone_436 rfl (Or.inr ⟨_, rfl⟩) rfl ?_
                refine g_iconst (n := 438) (v := nI 1) C dL_isDone_437 rfl rfl ?_
                refine g_iconst (n := 439) (v := nI 0) C dL_isDone_438 rfl rfl ?_
                refine g_SH (n := 442) (rest := []) C (gH9.g (t_step hE hl hN h hgo17 hgok hgo24 hgo20 hgot hgoc hgo19 hgo hw1 (nI 0)) (fun _ _ _ z1 z2 => z1.ext z2) hg) dL_isDone_439 kH_builds kW_L_131 kT_builds rfl rfl (Nat.le_of_ble_eq_true rfl) ⟨by decide, by decide⟩ ⟨by first | omega | (simp only [gRm]; omega), by first | omega | (simp only [gRm]; omega)⟩ rfl (fun v9 L9 f9 hq => ?_)
                obtain ⟨rfl, L2, rfl, hga2, h2, hg2⟩ := hq
                refine G.sk (st' := [_]) rfl ?_
                refine g_goto (tgt := 454) C dL_isDone_442 (by decide) ?_
                refine g_istore (n := 456) (ls' := [_, _, _, _, _, _, _, _, _, _, _, _]) C dL_isDone_454 rfl (by decide) rfl ?_
                refine g_iload (n := 458) C dL_isDone_456 rfl rfl ?_
                refine g_if_eq (n := 461) (tgt := 474) C dL_isDone_458 (by decide) rfl (fun h458 => ?_) (fun h458 => absurd (by decide) h458)
                refine g_iload (n := 476) C dL_isDone_474 rfl rfl ?_
                refine g_if_le (n := 479) (tgt := 527) C dL_isDone_476 (by decide) rfl (fun h476 => absurd h476 (fun y => by have := gn_ge (b := 0) y (by omega) (by decide); omega)) (fun h476 => ?_)
                refine g_iload (n := 481) C dL_isDone_479 rfl rfl ?_
                refine g_iconst (n := 482) (v := -1) C dL_isDone_481 rfl rfl ?_
                refine g_icmp_ne (n := 485) (tgt := 508) C dL_isDone_482 (by decide) rfl (fun h482 => ?_) (fun h482 => absurd h482 hbe)
                refine g_aload_n (n := 509) C dL_isDone_508 rfl (Or.inr ⟨_, rfl⟩) rfl ?_
                refine g_V (n := 512) (rest := []) C (z_stepsLeft hE hl (h2.up [ga]) (mc := 0) (ms := 0) ) dL_isDone_509 kM_X5_stepsLeft kL_L_117 kV_X5_stepsLeft (h2.up [ga]).co.choose_spec rfl rfl rfl (Nat.le_of_ble_eq_true rfl) ⟨by decide, by decide⟩ ⟨by first | omega | (simp only [gRm]; omega), by first | omega | (simp only [gRm]; omega)⟩ rfl (fun v9 L9 f9 hq => ?_)
                obtain ⟨rfl, rfl, rfl⟩ := hq
                refine G.sk (st' := [_]) rfl ?_
                rw [hsl]
                refine g_iload (n := 514) C dL_isDone_512 rfl rfl ?_
                refine g_iconst (n := 515) (v := nI 1) C dL_isDone_514 rfl rfl ?_
                refine g_isubN (n := 516) C dL_isDone_515 (by omega) rfl ?_
                refine g_icmp_ne (n := 519) (tgt := 523) C dL_isDone_516 (by decide) rfl (fun h516 => absurd (by rw [show c - t - 1 = c - (t + 1) by omega]) h516) (fun h516 => ?_)
                refine g_iconst (n := 520) (v := nI 1) C dL_isDone_519 rfl rfl ?_
                refine g_goto (tgt := 573) C dL_isDone_520 (by decide) ?_
                refine g_zret C hr rfl dL_isDone_573 ?_ ⟨by first | omega | (simp only [gRm]; omega), by first | omega | (simp only [gRm]; omega)⟩
                exact ⟨rfl, L2, g, rfl, hga2, hg2, n1, PR1, PL1, S1, _, _, h2, hw1.2.2.2.2.2.2, fun i hi4 => (hA3 i).trans (hgA i hi4)⟩
          · by_cases hwl5 : jw < 25
            · by_cases ht : ja % 6 < 5
              · rcases h.bu.res hn9 with hres | ⟨k, hk, hres, hk8, h24, -⟩
                · refine g_iload (n := 47) C dL_isDone_45 rfl rfl ?_
                  refine g_iconst (n := 48) (v := nI 4) C dL_isDone_47 rfl rfl ?_
                  refine g_icmp_ge (n := 51) (tgt := 204) C dL_isDone_48 (by decide) rfl (fun h48 => ?_) (fun h48 => absurd ((nI_leI (by decide) (by omega)).mpr (by omega)) h48)
                  refine g_iload (n := 206) C dL_isDone_204 rfl rfl ?_
                  refine g_bipush (n := 208) (v := nI 8) C dL_isDone_206 rfl rfl ?_
                  refine g_icmp_ge (n := 211) (tgt := 318) C dL_isDone_208 (by decide) rfl (fun h208 => ?_) (fun h208 => absurd ((nI_leI (by decide) (by omega)).mpr (by omega)) h208)
                  refine g_iload (n := 320) C dL_isDone_318 rfl rfl ?_
                  refine g_bipush (n := 322) (v := nI 17) C dL_isDone_320 rfl rfl ?_
                  refine g_icmp_ge (n := 325) (tgt := 380) C dL_isDone_322 (by decide) rfl (fun h322 => ?_) (fun h322 => absurd ((nI_leI (by decide) (by omega)).mpr (by omega)) h322)
                  refine g_iload (n := 382) C dL_isDone_380 rfl rfl ?_
                  refine g_bipush (n := 384) (v := nI 22) C dL_isDone_382 rfl rfl ?_
                  refine g_icmp_ge (n := 387) (tgt := 396) C dL_isDone_384 (by decide) rfl (fun h384 => ?_) (fun h384 => absurd ((nI_leI (by decide) (by omega)).mpr (by omega)) h384)
                  refine g_iload (n := 398) C dL_isDone_396 rfl rfl ?_
                  refine g_bipush (n := 400) (v := nI 22) C dL_isDone_398 rfl rfl ?_
                  refine g_icmp_ne (n := 403) (tgt := 574) C dL_isDone_400 (by decide) rfl (fun h400 => ?_) (fun h400 => absurd h400 (fun z => by have := gn_inj (by omega) (by decide) z; omega))
                  refine g_iload (n := 576) C dL_isDone_574 rfl rfl ?_
                  refine g_bipush (n := 578) (v := nI 25) C dL_isDone_576 rfl rfl ?_
                  refine g_icmp_ge (n := 581) (tgt := 677) C dL_isDone_578 (by decide) rfl (fun h578 => absurd h578 (fun z => by have := gn_ge z (by decide) (by omega); omega)) (fun h578 => ?_)
                  refine g_iload (n := 583) C dL_isDone_581 rfl rfl ?_
                  refine g_bipush (n := 585) (v := nI 6) C dL_isDone_583 rfl rfl ?_
                  refine g_iremN (n := 586) C dL_isDone_585 (by omega) (by omega) (by omega) rfl ?_
                  refine g_istore (n := 588) (ls' := [_, _, _, _, _, _, _, _, _, _, _, _]) C dL_isDone_586 rfl (by decide) rfl ?_
                  refine g_aload_n (n := 589) C dL_isDone_588 rfl (Or.inr ⟨_, rfl⟩) rfl ?_
                  refine g_iconst (n := 590) (v := nI 2) C dL_isDone_589 rfl rfl ?_
                  refine g_iload (n := 592) C dL_isDone_590 rfl rfl ?_
                  refine g_iconst (n := 593) (v := nI 0) C dL_isDone_592 rfl rfl ?_
                  refine g_SH (n := 596) (rest := []) C (tz_tagged hE hl hN (h.up [ga]) ht (nI 0)) dL_isDone_593 kH_tags kW_L_141 kT_tags rfl rfl (Nat.le_of_ble_eq_true rfl) ⟨by decide, by decide⟩ ⟨by first | omega | (simp only [gRm]; omega), by first | omega | (simp only [gRm]; omega)⟩ rfl (fun v9 L9 f9 hq => ?_)
                  obtain ⟨rfl, rfl, rfl⟩ := hq
                  refine G.sk (st' := [_]) rfl ?_
                  refine g_istore (n := 598) (ls' := [_, _, _, _, _, _, _, _, _, _, _, _]) C dL_isDone_596 rfl (by decide) rfl ?_
                  refine g_aload_n (n := 599) C dL_isDone_598 rfl (Or.inr ⟨_, rfl⟩) rfl ?_
                  refine g_V (n := 602) (rest := []) C (z_built hE hl (h.up [ga]) (mc := 0) (ms := 0)) dL_isDone_599 kM_X5_built kL_L_114 kV_X5_built (h.up [ga]).co.choose_spec rfl rfl rfl (Nat.le_of_ble_eq_true rfl) ⟨by decide, by decide⟩ ⟨by first | omega | (simp only [gRm]; omega), by first | omega | (simp only [gRm]; omega)⟩ rfl (fun v9 L9 f9 hq => ?_)
                  obtain ⟨rfl, rfl, rfl⟩ := hq
                  refine G.sk (st' := [_]) rfl ?_
                  rw [hres]
                  refine g_istore (n := 604) (ls' := [_, _, _, _, _, _, _, _, _, _, _, _]) C dL_isDone_602 rfl (by decide) rfl ?_
                  refine g_aload_n (n := 605) C dL_isDone_604 rfl (Or.inr ⟨_, rfl⟩) rfl ?_
                  refine g_iconst (n := 606) (v := nI 0) C dL_isDone_605 rfl rfl ?_
                  refine g_iload (n := 608) C dL_isDone_606 rfl rfl ?_
                  refine g_iconst (n := 609) (v := nI 0) C dL_isDone_608 rfl rfl ?_
                  refine g_SH (n := 612) (rest := []) C (tn_tag_S hE hl hN (h.up [ga]) (x := nI (ja % 6)) ⟨_, ht, rfl⟩ (fun z => z hres) (nI 0)) dL_isDone_609 kH_tags kW_L_141 kT_tags rfl rfl (Nat.le_of_ble_eq_true rfl) ⟨by decide, by decide⟩ ⟨by first | omega | (simp only [gRm]; omega), by first | omega | (simp only [gRm]; omega)⟩ rfl (fun v9 L9 f9 hq => ?_)
                  obtain ⟨rfl, rfl, rfl⟩ := hq
                  refine G.sk (st' := [_]) rfl ?_
                  refine g_istore (n := 614) (ls' := [_, _, _, _, _, _, _, _, _, _, _, _]) C dL_isDone_612 rfl (by decide) rfl ?_
                  refine g_iload (n := 616) C dL_isDone_614 rfl rfl ?_
                  refine g_iload (n := 618) C dL_isDone_616 rfl rfl ?_
                  refine g_iconst (n := 619) (v := nI 5) C dL_isDone_618 rfl rfl ?_
                  refine g_icmp_ne (n := 622) (tgt := 627) C dL_isDone_619 (by decide) rfl (fun h619 => ?_) (fun h619 => absurd h619 (fun z => by have := gn_inj (by omega) (by decide) z; omega))
                  refine g_iload (n := 629) C dL_isDone_627 rfl rfl ?_
                  refine g_if_ge (n := 632) (tgt := 637) C dL_isDone_629 (by decide) rfl (fun h629 => absurd h629 (by decide)) (fun h629 => ?_)
                  refine g_bipush (n := 634) (v := -10) C dL_isDone_632 rfl rfl ?_
                  refine g_goto (tgt := 639) C dL_isDone_634 (by decide) ?_
                  refine g_icmp_ne (n := 642) (tgt := 675) C dL_isDone_639 (by decide) rfl (fun h639 => absurd rfl h639) (fun h639 => ?_)
                  refine g_iload (n := 644) C dL_isDone_642 rfl rfl ?_
                  refine g_iconst (n := 645) (v := nI 5) C dL_isDone_644 rfl rfl ?_
                  refine g_icmp_eq (n := 648) (tgt := 671) C dL_isDone_645 (by decide) rfl (fun h645 => absurd h645 (fun z => by have := gn_inj (by omega) (by decide) z; omega)) (fun h645 => ?_)
                  refine g_aload_n (n := 649) C dL_isDone_648 rfl (Or.inr ⟨_, rfl⟩) rfl ?_
                  refine g_iconst (n := 650) (v := nI 2) C dL_isDone_649 rfl rfl ?_
                  refine g_iload (n := 652) C dL_isDone_650 rfl rfl ?_
                  refine g_iconst (n := 653) (v := nI 0) C dL_isDone_652 rfl rfl ?_
                  refine g_SH (n := 656) (rest := []) C (tz_tagged hE hl hN (h.up [ga]) ht (nI 0)) dL_isDone_653 kH_tags kW_L_141 kT_tags rfl rfl (Nat.le_of_ble_eq_true rfl) ⟨by decide, by decide⟩ ⟨by first | omega | (simp only [gRm]; omega), by first | omega | (simp only [gRm]; omega)⟩ rfl (fun v9 L9 f9 hq => ?_)
                  obtain ⟨rfl, rfl, rfl⟩ := hq
                  refine G.sk (st' := [_]) rfl ?_
                  refine g_iload (n := 658) C dL_isDone_656 rfl rfl ?_
                  refine g_if_ge (n := 661) (tgt := 666) C dL_isDone_658 (by decide) rfl (fun h658 => absurd h658 (by decide)) (fun h658 => ?_)
                  refine g_iload (n := 663) C dL_isDone_661 rfl rfl ?_
                  refine g_goto (tgt := 668) C dL_isDone_663 (by decide) ?_
                  refine g_icmp_ne (n := 671) (tgt := 675) C dL_isDone_668 (by decide) rfl (fun h668 => absurd rfl h668) (fun h668 => ?_)
                  refine g_iconst (n := 672) (v := nI 1) C dL_isDone_671 rfl rfl ?_
                  refine g_goto (tgt := 676) C dL_isDone_672 (by decide) ?_
                  refine g_zret C hr rfl dL_isDone_676 ?_ ⟨by first | omega | (simp only [gRm]; omega), by first | omega | (simp only [gRm]; omega)⟩
                  exact ⟨rfl, Lc, g, rfl, hga, hg, n, PR, PL, S, A, I, h, hi, hgA⟩
                · refine g_iload (n := 47) C dL_isDone_45 rfl rfl ?_
                  refine g_iconst (n := 48) (v := nI 4) C dL_isDone_47 rfl rfl ?_
                  refine g_icmp_ge (n := 51) (tgt := 204) C dL_isDone_48 (by decide) rfl (fun h48 => ?_) (fun h48 => absurd ((nI_leI (by decide) (by omega)).mpr (by omega)) h48)
                  refine g_iload (n := 206) C dL_isDone_204 rfl rfl ?_
                  refine g_bipush (n := 208) (v := nI 8) C dL_isDone_206 rfl rfl ?_
                  refine g_icmp_ge (n := 211) (tgt := 318) C dL_isDone_208 (by decide) rfl (fun h208 => ?_) (fun h208 => absurd ((nI_leI (by decide) (by omega)).mpr (by omega)) h208)
                  refine g_iload (n := 320) C dL_isDone_318 rfl rfl ?_
                  refine g_bipush (n := 322) (v := nI 17) C dL_isDone_320 rfl rfl ?_
                  refine g_icmp_ge (n := 325) (tgt := 380) C dL_isDone_322 (by decide) rfl (fun h322 => ?_) (fun h322 => absurd ((nI_leI (by decide) (by omega)).mpr (by omega)) h322)
                  refine g_iload (n := 382) C dL_isDone_380 rfl rfl ?_
                  refine g_bipush (n := 384) (v := nI 22) C dL_isDone_382 rfl rfl ?_
                  refine g_icmp_ge (n := 387) (tgt := 396) C dL_isDone_384 (by decide) rfl (fun h384 => ?_) (fun h384 => absurd ((nI_leI (by decide) (by omega)).mpr (by omega)) h384)
                  refine g_iload (n := 398) C dL_isDone_396 rfl rfl ?_
                  refine g_bipush (n := 400) (v := nI 22) C dL_isDone_398 rfl rfl ?_
                  refine g_icmp_ne (n := 403) (tgt := 574) C dL_isDone_400 (by decide) rfl (fun h400 => ?_) (fun h400 => absurd h400 (fun z => by have := gn_inj (by omega) (by decide) z; omega))
                  refine g_iload (n := 576) C dL_isDone_574 rfl rfl ?_
                  refine g_bipush (n := 578) (v := nI 25) C dL_isDone_576 rfl rfl ?_
                  refine g_icmp_ge (n := 581) (tgt := 677) C dL_isDone_578 (by decide) rfl (fun h578 => absurd h578 (fun z => by have := gn_ge z (by decide) (by omega); omega)) (fun h578 => ?_)
                  refine g_iload (n := 583) C dL_isDone_581 rfl rfl ?_
                  refine g_bipush (n := 585) (v := nI 6) C dL_isDone_583 rfl rfl ?_
                  refine g_iremN (n := 586) C dL_isDone_585 (by omega) (by omega) (by omega) rfl ?_
                  refine g_istore (n := 588) (ls' := [_, _, _, _, _, _, _, _, _, _, _, _]) C dL_isDone_586 rfl (by decide) rfl ?_
                  refine g_aload_n (n := 589) C dL_isDone_588 rfl (Or.inr ⟨_, rfl⟩) rfl ?_
                  refine g_iconst (n := 590) (v := nI 2) C dL_isDone_589 rfl rfl ?_
                  refine g_iload (n := 592) C dL_isDone_590 rfl rfl ?_
                  refine g_iconst (n := 593) (v := nI 0) C dL_isDone_592 rfl rfl ?_
                  refine g_SH (n := 596) (rest := []) C (tz_tagged hE hl hN (h.up [ga]) ht (nI 0)) dL_isDone_593 kH_tags kW_L_141 kT_tags rfl rfl (Nat.le_of_ble_eq_true rfl) ⟨by decide, by decide⟩ ⟨by first | omega | (simp only [gRm]; omega), by first | omega | (simp only [gRm]; omega)⟩ rfl (fun v9 L9 f9 hq => ?_)
                  obtain ⟨rfl, rfl, rfl⟩ := hq
                  refine G.sk (st' := [_]) rfl ?_
                  refine g_istore (n := 598) (ls' := [_, _, _, _, _, _, _, _, _, _, _, _]) C dL_isDone_596 rfl (by decide) rfl ?_
                  refine g_aload_n (n := 599) C dL_isDone_598 rfl (Or.inr ⟨_, rfl⟩) rfl ?_
                  refine g_V (n := 602) (rest := []) C (z_built hE hl (h.up [ga]) (mc := 0) (ms := 0)) dL_isDone_599 kM_X5_built kL_L_114 kV_X5_built (h.up [ga]).co.choose_spec rfl rfl rfl (Nat.le_of_ble_eq_true rfl) ⟨by decide, by decide⟩ ⟨by first | omega | (simp only [gRm]; omega), by first | omega | (simp only [gRm]; omega)⟩ rfl (fun v9 L9 f9 hq => ?_)
                  obtain ⟨rfl, rfl, rfl⟩ := hq
                  refine G.sk (st' := [_]) rfl ?_
                  rw [hres]
                  refine g_istore (n := 604) (ls' := [_, _, _, _, _, _, _, _, _, _, _, _]) C dL_isDone_602 rfl (by decide) rfl ?_
                  refine g_aload_n (n := 605) C dL_isDone_604 rfl (Or.inr ⟨_, rfl⟩) rfl ?_
                  refine g_iconst (n := 606) (v := nI 0) C dL_isDone_605 rfl rfl ?_
                  refine g_iload (n := 608) C dL_isDone_606 rfl rfl ?_
                  refine g_iconst (n := 609) (v := nI 0) C dL_isDone_608 rfl rfl ?_
                  refine g_SH (n := 612) (rest := []) C (gH9.g (t_tag hE hl hN h ht (by rw [hres]; exact gn_ne1 (by omega)) (nI 0)) (fun _ _ _ z1 z2 => z1.ext z2) hg) dL_isDone_609 kH_tags kW_L_141 kT_tags rfl rfl (Nat.le_of_ble_eq_true rfl) ⟨by decide, by decide⟩ ⟨by first | omega | (simp only [gRm]; omega), by first | omega | (simp only [gRm]; omega)⟩ rfl (fun v9 L9 f9 hq => ?_)
                  obtain ⟨rfl, L2, rfl, hga2, h2, hg2⟩ := hq
                  refine G.sk (st' := [_]) rfl ?_
                  refine g_istore (n := 614) (ls' := [_, _, _, _, _, _, _, _, _, _, _, _]) C dL_isDone_612 rfl (by decide) rfl ?_
                  refine g_iload (n := 616) C dL_isDone_614 rfl rfl ?_
                  refine g_iload (n := 618) C dL_isDone_616 rfl rfl ?_
                  refine g_iconst (n := 619) (v := nI 5) C dL_isDone_618 rfl rfl ?_
                  refine g_icmp_ne (n := 622) (tgt := 627) C dL_isDone_619 (by decide) rfl (fun h619 => ?_) (fun h619 => absurd h619 (fun z => by have := gn_inj (by omega) (by decide) z; omega))
                  refine g_iload (n := 629) C dL_isDone_627 rfl rfl ?_
                  refine g_if_ge (n := 632) (tgt := 637) C dL_isDone_629 (by decide) rfl (fun h629 => ?_) (fun h629 => absurd (nI_nn (by omega)) h629)
                  refine g_iload (n := 639) C dL_isDone_637 rfl rfl ?_
                  refine g_icmp_ne (n := 642) (tgt := 675) C dL_isDone_639 (by decide) rfl (fun h639 => absurd rfl h639) (fun h639 => ?_)
                  refine g_iload (n := 644) C dL_isDone_642 rfl rfl ?_
                  refine g_iconst (n := 645) (v := nI 5) C dL_isDone_644 rfl rfl ?_
                  refine g_icmp_eq (n := 648) (tgt := 671) C dL_isDone_645 (by decide) rfl (fun h645 => absurd h645 (fun z => by have := gn_inj (by omega) (by decide) z; omega)) (fun h645 => ?_)
                  refine g_aload_n (n := 649) C dL_isDone_648 rfl (Or.inr ⟨_, rfl⟩) rfl ?_
                  refine g_iconst (n := 650) (v := nI 2) C dL_isDone_649 rfl rfl ?_
                  refine g_iload (n := 652) C dL_isDone_650 rfl rfl ?_
                  refine g_iconst (n := 653) (v := nI 0) C dL_isDone_652 rfl rfl ?_
                  refine g_SH (n := 656) (rest := []) C (tz_tagged hE hl hN (h2.up [ga]) ht (nI 0)) dL_isDone_653 kH_tags kW_L_141 kT_tags rfl rfl (Nat.le_of_ble_eq_true rfl) ⟨by decide, by decide⟩ ⟨by first | omega | (simp only [gRm]; omega), by first | omega | (simp only [gRm]; omega)⟩ rfl (fun v9 L9 f9 hq => ?_)
                  obtain ⟨rfl, rfl, rfl⟩ := hq
                  refine G.sk (st' := [_]) rfl ?_
                  rw [mU_s, h24]
                  refine g_iload (n := 658) C dL_isDone_656 rfl rfl ?_
                  refine g_if_ge (n := 661) (tgt := 666) C dL_isDone_658 (by decide) rfl (fun h658 => ?_) (fun h658 => absurd (nI_nn (by omega)) h658)
                  refine g_iload (n := 668) C dL_isDone_666 rfl rfl ?_
                  refine g_icmp_ne (n := 671) (tgt := 675) C dL_isDone_668 (by decide) rfl (fun h668 => absurd rfl h668) (fun h668 => ?_)
                  refine g_iconst (n := 672) (v := nI 1) C dL_isDone_671 rfl rfl ?_
                  refine g_goto (tgt := 676) C dL_isDone_672 (by decide) ?_
                  refine g_zret C hr rfl dL_isDone_676 ?_ ⟨by first | omega | (simp only [gRm]; omega), by first | omega | (simp only [gRm]; omega)⟩
                  exact ⟨rfl, L2, g, rfl, hga2, hg2, n, PR, PL, S, _, I, h2, hi.ag hpar (mU_ag (by decide)), fun i hi4 => (mU_k (by decide)).trans (hgA i hi4)⟩
              · have ht : ja % 6 = 5 := by omega
                refine g_iload (n := 47) C dL_isDone_45 rfl rfl ?_
                refine g_iconst (n := 48) (v := nI 4) C dL_isDone_47 rfl rfl ?_
                refine g_icmp_ge (n := 51) (tgt := 204) C dL_isDone_48 (by decide) rfl (fun h48 => ?_) (fun h48 => absurd ((nI_leI (by decide) (by omega)).mpr (by omega)) h48)
                refine g_iload (n := 206) C dL_isDone_204 rfl rfl ?_
                refine g_bipush (n := 208) (v := nI 8) C dL_isDone_206 rfl rfl ?_
                refine g_icmp_ge (n := 211) (tgt := 318) C dL_isDone_208 (by decide) rfl (fun h208 => ?_) (fun h208 => absurd ((nI_leI (by decide) (by omega)).mpr (by omega)) h208)
                refine g_iload (n := 320) C dL_isDone_318 rfl rfl ?_
                refine g_bipush (n := 322) (v := nI 17) C dL_isDone_320 rfl rfl ?_
                refine g_icmp_ge (n := 325) (tgt := 380) C dL_isDone_322 (by decide) rfl (fun h322 => ?_) (fun h322 => absurd ((nI_leI (by decide) (by omega)).mpr (by omega)) h322)
                refine g_iload (n := 382) C dL_isDone_380 rfl rfl ?_
                refine g_bipush (n := 384) (v := nI 22) C dL_isDone_382 rfl rfl ?_
                refine g_icmp_ge (n := 387) (tgt := 396) C dL_isDone_384 (by decide) rfl (fun h384 => ?_) (fun h384 => absurd ((nI_leI (by decide) (by omega)).mpr (by omega)) h384)
                refine g_iload (n := 398) C dL_isDone_396 rfl rfl ?_
                refine g_bipush (n := 400) (v := nI 22) C dL_isDone_398 rfl rfl ?_
                refine g_icmp_ne (n := 403) (tgt := 574) C dL_isDone_400 (by decide) rfl (fun h400 => ?_) (fun h400 => absurd h400 (fun z => by have := gn_inj (by omega) (by decide) z; omega))
                refine g_iload (n := 576) C dL_isDone_574 rfl rfl ?_
                refine g_bipush (n := 578) (v := nI 25) C dL_isDone_576 rfl rfl ?_
                refine g_icmp_ge (n := 581) (tgt := 677) C dL_isDone_578 (by decide) rfl (fun h578 => absurd h578 (fun z => by have := gn_ge z (by decide) (by omega); omega)) (fun h578 => ?_)
                refine g_iload (n := 583) C dL_isDone_581 rfl rfl ?_
                refine g_bipush (n := 585) (v := nI 6) C dL_isDone_583 rfl rfl ?_
                refine g_iremN (n := 586) C dL_isDone_585 (by omega) (by omega) (by omega) rfl ?_
                refine g_istore (n := 588) (ls' := [_, _, _, _, _, _, _, _, _, _, _, _]) C dL_isDone_586 rfl (by decide) rfl ?_
                refine g_aload_n (n := 589) C dL_isDone_588 rfl (Or.inr ⟨_, rfl⟩) rfl ?_
                refine g_iconst (n := 590) (v := nI 2) C dL_isDone_589 rfl rfl ?_
                refine g_iload (n := 592) C dL_isDone_590 rfl rfl ?_
                refine g_iconst (n := 593) (v := nI 0) C dL_isDone_592 rfl rfl ?_
                refine g_SH (n := 596) (rest := []) C (tn_tagged hE hl hN (h.up [ga]) (x := nI (ja % 6)) (fun ⟨q, hq, eq⟩ => by have := gn_inj (by omega) (by omega) eq; omega) (nI 0)) dL_isDone_593 kH_tags kW_L_141 kT_tags rfl rfl (Nat.le_of_ble_eq_true rfl) ⟨by decide, by decide⟩ ⟨by first | omega | (simp only [gRm]; omega), by first | omega | (simp only [gRm]; omega)⟩ rfl (fun v9 L9 f9 hq => ?_)
                obtain ⟨rfl, rfl, rfl⟩ := hq
                refine G.sk (st' := [_]) rfl ?_
                refine g_istore (n := 598) (ls' := [_, _, _, _, _, _, _, _, _, _, _, _]) C dL_isDone_596 rfl (by decide) rfl ?_
                refine g_aload_n (n := 599) C dL_isDone_598 rfl (Or.inr ⟨_, rfl⟩) rfl ?_
                refine g_V (n := 602) (rest := []) C (z_built hE hl (h.up [ga]) (mc := 0) (ms := 0)) dL_isDone_599 kM_X5_built kL_L_114 kV_X5_built (h.up [ga]).co.choose_spec rfl rfl rfl (Nat.le_of_ble_eq_true rfl) ⟨by decide, by decide⟩ ⟨by first | omega | (simp only [gRm]; omega), by first | omega | (simp only [gRm]; omega)⟩ rfl (fun v9 L9 f9 hq => ?_)
                obtain ⟨rfl, rfl, rfl⟩ := hq
                refine G.sk (st' := [_]) rfl ?_
                refine g_istore (n := 604) (ls' := [_, _, _, _, _, _, _, _, _, _, _, _]) C dL_isDone_602 rfl (by decide) rfl ?_
                refine g_aload_n (n := 605) C dL_isDone_604 rfl (Or.inr ⟨_, rfl⟩) rfl ?_
                refine g_iconst (n := 606) (v := nI 0) C dL_isDone_605 rfl rfl ?_
                refine g_iload (n := 608) C dL_isDone_606 rfl rfl ?_
                refine g_iconst (n := 609) (v := nI 0) C dL_isDone_608 rfl rfl ?_
                refine g_SH (n := 612) (rest := []) C (tn_tag_I hE hl hN (h.up [ga]) (x := nI (ja % 6)) (fun ⟨q, hq, eq⟩ => by have := gn_inj (by omega) (by omega) eq; omega) (nI 0)) dL_isDone_609 kH_tags kW_L_141 kT_tags rfl rfl (Nat.le_of_ble_eq_true rfl) ⟨by decide, by decide⟩ ⟨by first | omega | (simp only [gRm]; omega), by first | omega | (simp only [gRm]; omega)⟩ rfl (fun v9 L9 f9 hq => ?_)
                obtain ⟨rfl, rfl, rfl⟩ := hq
                refine G.sk (st' := [_]) rfl ?_
                refine g_istore (n := 614) (ls' := [_, _, _, _, _, _, _, _, _, _, _, _]) C dL_isDone_612 rfl (by decide) rfl ?_
                refine g_iload (n := 616) C dL_isDone_614 rfl rfl ?_
                refine g_iload (n := 618) C dL_isDone_616 rfl rfl ?_
                refine g_iconst (n := 619) (v := nI 5) C dL_isDone_618 rfl rfl ?_
                refine g_icmp_ne (n := 622) (tgt := 627) C dL_isDone_619 (by decide) rfl (fun h619 => absurd (by rw [ht]) h619) (fun h619 => ?_)
                refine g_bipush (n := 624) (v := -30) C dL_isDone_622 rfl rfl ?_
                refine g_goto (tgt := 639) C dL_isDone_624 (by decide) ?_
                refine g_icmp_ne (n := 642) (tgt := 675) C dL_isDone_639 (by decide) rfl (fun h639 => absurd rfl h639) (fun h639 => ?_)
                refine g_iload (n := 644) C dL_isDone_642 rfl rfl ?_
                refine g_iconst (n := 645) (v := nI 5) C dL_isDone_644 rfl rfl ?_
                refine g_icmp_eq (n := 648) (tgt := 671) C dL_isDone_645 (by decide) rfl (fun h645 => ?_) (fun h645 => absurd (by rw [ht]) h645)
                refine g_iconst (n := 672) (v := nI 1) C dL_isDone_671 rfl rfl ?_
                refine g_goto (tgt := 676) C dL_isDone_672 (by decide) ?_
                refine g_zret C hr rfl dL_isDone_676 ?_ ⟨by first | omega | (simp only [gRm]; omega), by first | omega | (simp only [gRm]; omega)⟩
                exact ⟨rfl, Lc, g, rfl, hga, hg, n, PR, PL, S, A, I, h, hi, hgA⟩
            · by_cases hw22 : jw = 25
              · refine g_iload (n := 47) C dL_isDone_45 rfl rfl ?_
                refine g_iconst (n := 48) (v := nI 4) C dL_isDone_47 rfl rfl ?_
                refine g_icmp_ge (n := 51) (tgt := 204) C dL_isDone_48 (by decide) rfl (fun h48 => ?_) (fun h48 => absurd ((nI_leI (by decide) (by omega)).mpr (by omega)) h48)
                refine g_iload (n := 206) C dL_isDone_204 rfl rfl ?_
                refine g_bipush (n := 208) (v := nI 8) C dL_isDone_206 rfl rfl ?_
                refine g_icmp_ge (n := 211) (tgt := 318) C dL_isDone_208 (by decide) rfl (fun h208 => ?_) (fun h208 => absurd ((nI_leI (by decide) (by omega)).mpr (by omega)) h208)
                refine g_iload (n := 320) C dL_isDone_318 rfl rfl ?_
                refine g_bipush (n := 322) (v := nI 17) C dL_isDone_320 rfl rfl ?_
                refine g_icmp_ge (n := 325) (tgt := 380) C dL_isDone_322 (by decide) rfl (fun h322 => ?_) (fun h322 => absurd ((nI_leI (by decide) (by omega)).mpr (by omega)) h322)
                refine g_iload (n := 382) C dL_isDone_380 rfl rfl ?_
                refine g_bipush (n := 384) (v := nI 22) C dL_isDone_382 rfl rfl ?_
                refine g_icmp_ge (n := 387) (tgt := 396) C dL_isDone_384 (by decide) rfl (fun h384 => ?_) (fun h384 => absurd ((nI_leI (by decide) (by omega)).mpr (by omega)) h384)
                refine g_iload (n := 398) C dL_isDone_396 rfl rfl ?_
                refine g_bipush (n := 400) (v := nI 22) C dL_isDone_398 rfl rfl ?_
                refine g_icmp_ne (n := 403) (tgt := 574) C dL_isDone_400 (by decide) rfl (fun h400 => ?_) (fun h400 => absurd h400 (fun z => by have := gn_inj (by omega) (by decide) z; omega))
                refine g_iload (n := 576) C dL_isDone_574 rfl rfl ?_
                refine g_bipush (n := 578) (v := nI 25) C dL_isDone_576 rfl rfl ?_
                refine g_icmp_ge (n := 581) (tgt := 677) C dL_isDone_578 (by decide) rfl (fun h578 => ?_) (fun h578 => absurd ((nI_leI (by decide) (by omega)).mpr (by omega)) h578)
                refine g_iload (n := 679) C dL_isDone_677 rfl rfl ?_
                refine g_bipush (n := 681) (v := nI 25) C dL_isDone_679 rfl rfl ?_
                refine g_icmp_ne (n := 684) (tgt := 699) C dL_isDone_681 (by decide) rfl (fun h681 => absurd (by rw [hw22]) h681) (fun h681 => ?_)
                refine g_aload_n (n := 685) C dL_isDone_684 rfl (Or.inr ⟨_, rfl⟩) rfl ?_
                refine g_iload (n := 687) C dL_isDone_685 rfl rfl ?_
                refine g_bipush (n := 689) (v := nI 6) C dL_isDone_687 rfl rfl ?_
                refine g_iremN (n := 690) C dL_isDone_689 (by omega) (by omega) (by omega) rfl ?_
                refine g_iload (n := 692) C dL_isDone_690 rfl rfl ?_
                refine g_bipush (n := 694) (v := nI 6) C dL_isDone_692 rfl rfl ?_
                refine g_iremN (n := 695) C dL_isDone_694 (by omega) (by omega) (by omega) rfl ?_
                refine g_S (n := 698) (rest := []) C (gM.g (l_isSquashed hE hl hN h hi (t := ja % 6) (z := jb % 6) (by omega) (by omega)) (fun _ _ _ z1 z2 => z1.ext z2) hg) dL_isDone_695 kM_L_isSquashed kL_L_158 kS_L_isSquashed rfl rfl (Nat.le_of_ble_eq_true rfl) ⟨by decide, by decide⟩ ⟨by first | omega | (simp only [gRm]; omega), by first | omega | (simp only [gRm]; omega)⟩ rfl (fun v9 L9 f9 hq => ?_)
                obtain ⟨rfl, L2, rfl, hga2, hlw, hg2⟩ := hq
                refine G.sk (st' := [_]) rfl ?_
                refine g_zret C hr rfl dL_isDone_698 ?_ ⟨by first | omega | (simp only [gRm]; omega), by first | omega | (simp only [gRm]; omega)⟩
                exact ⟨rfl, L2, g, rfl, hga2, hg2, hlw.r3 hgA⟩
              · by_cases hwl7 : jw < 28
                · refine g_iload (n := 47) C dL_isDone_45 rfl rfl ?_
                  refine g_iconst (n := 48) (v := nI 4) C dL_isDone_47 rfl rfl ?_
                  refine g_icmp_ge (n := 51) (tgt := 204) C dL_isDone_48 (by decide) rfl (fun h48 => ?_) (fun h48 => absurd ((nI_leI (by decide) (by omega)).mpr (by omega)) h48)
                  refine g_iload (n := 206) C dL_isDone_204 rfl rfl ?_
                  refine g_bipush (n := 208) (v := nI 8) C dL_isDone_206 rfl rfl ?_
                  refine g_icmp_ge (n := 211) (tgt := 318) C dL_isDone_208 (by decide) rfl (fun h208 => ?_) (fun h208 => absurd ((nI_leI (by decide) (by omega)).mpr (by omega)) h208)
                  refine g_iload (n := 320) C dL_isDone_318 rfl rfl ?_
                  refine g_bipush (n := 322) (v := nI 17) C dL_isDone_320 rfl rfl ?_
                  refine g_icmp_ge (n := 325) (tgt := 380) C dL_isDone_322 (by decide) rfl (fun h322 => ?_) (fun h322 => absurd ((nI_leI (by decide) (by omega)).mpr (by omega)) h322)
                  refine g_iload (n := 382) C dL_isDone_380 rfl rfl ?_
                  refine g_bipush (n := 384) (v := nI 22) C dL_isDone_382 rfl rfl ?_
                  refine g_icmp_ge (n := 387) (tgt := 396) C dL_isDone_384 (by decide) rfl (fun h384 => ?_) (fun h384 => absurd ((nI_leI (by decide) (by omega)).mpr (by omega)) h384)
                  refine g_iload (n := 398) C dL_isDone_396 rfl rfl ?_
                  refine g_bipush (n := 400) (v := nI 22) C dL_isDone_398 rfl rfl ?_
                  refine g_icmp_ne (n := 403) (tgt := 574) C dL_isDone_400 (by decide) rfl (fun h400 => ?_) (fun h400 => absurd h400 (fun z => by have := gn_inj (by omega) (by decide) z; omega))
                  refine g_iload (n := 576) C dL_isDone_574 rfl rfl ?_
                  refine g_bipush (n := 578) (v := nI 25) C dL_isDone_576 rfl rfl ?_
                  refine g_icmp_ge (n := 581) (tgt := 677) C dL_isDone_578 (by decide) rfl (fun h578 => ?_) (fun h578 => absurd ((nI_leI (by decide) (by omega)).mpr (by omega)) h578)
                  refine g_iload (n := 679) C dL_isDone_677 rfl rfl ?_
                  refine g_bipush (n := 681) (v := nI 25) C dL_isDone_679 rfl rfl ?_
                  refine g_icmp_ne (n := 684) (tgt := 699) C dL_isDone_681 (by decide) rfl (fun h681 => ?_) (fun h681 => absurd h681 (fun z => by have := gn_inj (by omega) (by decide) z; omega))
                  refine g_iload (n := 701) C dL_isDone_699 rfl rfl ?_
                  refine g_bipush (n := 703) (v := nI 28) C dL_isDone_701 rfl rfl ?_
                  refine g_icmp_ge (n := 706) (tgt := 720) C dL_isDone_703 (by decide) rfl (fun h703 => absurd h703 (fun z => by have := gn_ge z (by decide) (by omega); omega)) (fun h703 => ?_)
                  refine g_aload_n (n := 707) C dL_isDone_706 rfl (Or.inr ⟨_, rfl⟩) rfl ?_
                  refine g_iload (n := 709) C dL_isDone_707 rfl rfl ?_
                  refine g_bipush (n := 711) (v := nI 6) C dL_isDone_709 rfl rfl ?_
                  refine g_iremN (n := 712) C dL_isDone_711 (by omega) (by omega) (by omega) rfl ?_
                  refine g_iload (n := 714) C dL_isDone_712 rfl rfl ?_
                  refine g_iconst (n := 715) (v := nI 4) C dL_isDone_714 rfl rfl ?_
                  refine g_iremN (n := 716) C dL_isDone_715 (by omega) (by omega) (by omega) rfl ?_
                  refine g_S (n := 719) (rest := []) C (gM.g (l_isRebased hE hl hN h hi (t := ja % 6) (b := jb % 4) (by omega) (by omega)) (fun _ _ _ z1 z2 => z1.ext z2) hg) dL_isDone_716 kM_L_isRebased kL_L_162 kS_L_isRebased rfl rfl (Nat.le_of_ble_eq_true rfl) ⟨by decide, by decide⟩ ⟨by first | omega | (simp only [gRm]; omega), by first | omega | (simp only [gRm]; omega)⟩ rfl (fun v9 L9 f9 hq => ?_)
                  obtain ⟨rfl, L2, rfl, hga2, hlw, hg2⟩ := hq
                  refine G.sk (st' := [_]) rfl ?_
                  refine g_zret C hr rfl dL_isDone_719 ?_ ⟨by first | omega | (simp only [gRm]; omega), by first | omega | (simp only [gRm]; omega)⟩
                  exact ⟨rfl, L2, g, rfl, hga2, hg2, hlw.r3 hgA⟩
                · by_cases hw22 : jw = 28
                  · by_cases h2e : jc % 2 = 0
                    · refine g_iload (n := 47) C dL_isDone_45 rfl rfl ?_
                      refine g_iconst (n := 48) (v := nI 4) C dL_isDone_47 rfl rfl ?_
                      refine g_icmp_ge (n := 51) (tgt := 204) C dL_isDone_48 (by decide) rfl (fun h48 => ?_) (fun h48 => absurd ((nI_leI (by decide) (by omega)).mpr (by omega)) h48)
                      refine g_iload (n := 206) C dL_isDone_204 rfl rfl ?_
                      refine g_bipush (n := 208) (v := nI 8) C dL_isDone_206 rfl rfl ?_
                      refine g_icmp_ge (n := 211) (tgt := 318) C dL_isDone_208 (by decide) rfl (fun h208 => ?_) (fun h208 => absurd ((nI_leI (by decide) (by omega)).mpr (by omega)) h208)
                      refine g_iload (n := 320) C dL_isDone_318 rfl rfl ?_
                      refine g_bipush (n := 322) (v := nI 17) C dL_isDone_320 rfl rfl ?_
                      refine g_icmp_ge (n := 325) (tgt := 380) C dL_isDone_322 (by decide) rfl (fun h322 => ?_) (fun h322 => absurd ((nI_leI (by decide) (by omega)).mpr (by omega)) h322)
                      refine g_iload (n := 382) C dL_isDone_380 rfl rfl ?_
                      refine g_bipush (n := 384) (v := nI 22) C dL_isDone_382 rfl rfl ?_
                      refine g_icmp_ge (n := 387) (tgt := 396) C dL_isDone_384 (by decide) rfl (fun h384 => ?_) (fun h384 => absurd ((nI_leI (by decide) (by omega)).mpr (by omega)) h384)
                      refine g_iload (n := 398) C dL_isDone_396 rfl rfl ?_
                      refine g_bipush (n := 400) (v := nI 22) C dL_isDone_398 rfl rfl ?_
                      refine g_icmp_ne (n := 403) (tgt := 574) C dL_isDone_400 (by decide) rfl (fun h400 => ?_) (fun h400 => absurd h400 (fun z => by have := gn_inj (by omega) (by decide) z; omega))
                      refine g_iload (n := 576) C dL_isDone_574 rfl rfl ?_
                      refine g_bipush (n := 578) (v := nI 25) C dL_isDone_576 rfl rfl ?_
                      refine g_icmp_ge (n := 581) (tgt := 677) C dL_isDone_578 (by decide) rfl (fun h578 => ?_) (fun h578 => absurd ((nI_leI (by decide) (by omega)).mpr (by omega)) h578)
                      refine g_iload (n := 679) C dL_isDone_677 rfl rfl ?_
                      refine g_bipush (n := 681) (v := nI 25) C dL_isDone_679 rfl rfl ?_
                      refine g_icmp_ne (n := 684) (tgt := 699) C dL_isDone_681 (by decide) rfl (fun h681 => ?_) (fun h681 => absurd h681 (fun z => by have := gn_inj (by omega) (by decide) z; omega))
                      refine g_iload (n := 701) C dL_isDone_699 rfl rfl ?_
                      refine g_bipush (n := 703) (v := nI 28) C dL_isDone_701 rfl rfl ?_
                      refine g_icmp_ge (n := 706) (tgt := 720) C dL_isDone_703 (by decide) rfl (fun h703 => ?_) (fun h703 => absurd ((nI_leI (by decide) (by omega)).mpr (by omega)) h703)
                      refine g_iload (n := 722) C dL_isDone_720 rfl rfl ?_
                      refine g_bipush (n := 724) (v := nI 28) C dL_isDone_722 rfl rfl ?_
                      refine g_icmp_ne (n := 727) (tgt := 773) C dL_isDone_724 (by decide) rfl (fun h724 => absurd (by rw [hw22]) h724) (fun h724 => ?_)
                      refine g_iload (n := 729) C dL_isDone_727 rfl rfl ?_
                      refine g_iconst (n := 730) (v := nI 2) C dL_isDone_729 rfl rfl ?_
                      refine g_iremN (n := 731) C dL_isDone_730 (by omega) (by omega) (by omega) rfl ?_
                      refine g_if_ne (n := 734) (tgt := 741) C dL_isDone_731 (by decide) rfl (fun h731 => absurd (by rw [h2e]; rfl) h731) (fun h731 => ?_)
                      refine g_aload_n (n := 735) C dL_isDone_734 rfl (Or.inr ⟨_, rfl⟩) rfl ?_
                      refine g_S (n := 738) (rest := []) C (gM.g (l_isPruned hE hl hN h hi ) (fun _ _ _ z1 z2 => z1.ext z2) hg) dL_isDone_735 kM_L_isPruned kL_L_165 kS_L_isPruned rfl rfl (Nat.le_of_ble_eq_true rfl) ⟨by decide, by decide⟩ ⟨by first | omega | (simp only [gRm]; omega), by first | omega | (simp only [gRm]; omega)⟩ rfl (fun v9 L9 f9 hq => ?_)
                      obtain ⟨rfl, L2, rfl, hga2, hlw, hg2⟩ := hq
                      refine G.sk (st' := [_]) rfl ?_
                      refine g_goto (tgt := 772) C dL_isDone_738 (by decide) ?_
                      refine g_zret C hr rfl dL_isDone_772 ?_ ⟨by first | omega | (simp only [gRm]; omega), by first | omega | (simp only [gRm]; omega)⟩
                      exact ⟨rfl, L2, g, rfl, hga2, hg2, hlw.r3 hgA⟩
                    · refine g_iload (n := 47) C dL_isDone_45 rfl rfl ?_
                      refine g_iconst (n := 48) (v := nI 4) C dL_isDone_47 rfl rfl ?_
                      refine g_icmp_ge (n := 51) (tgt := 204) C dL_isDone_48 (by decide) rfl (fun h48 => ?_) (fun h48 => absurd ((nI_leI (by decide) (by omega)).mpr (by omega)) h48)
                      refine g_iload (n := 206) C dL_isDone_204 rfl rfl ?_
                      refine g_bipush (n := 208) (v := nI 8) C dL_isDone_206 rfl rfl ?_
                      refine g_icmp_ge (n := 211) (tgt := 318) C dL_isDone_208 (by decide) rfl (fun h208 => ?_) (fun h208 => absurd ((nI_leI (by decide) (by omega)).mpr (by omega)) h208)
                      refine g_iload (n := 320) C dL_isDone_318 rfl rfl ?_
                      refine g_bipush (n := 322) (v := nI 17) C dL_isDone_320 rfl rfl ?_
                      refine g_icmp_ge (n := 325) (tgt := 380) C dL_isDone_322 (by decide) rfl (fun h322 => ?_) (fun h322 => absurd ((nI_leI (by decide) (by omega)).mpr (by omega)) h322)
                      refine g_iload (n := 382) C dL_isDone_380 rfl rfl ?_
                      refine g_bipush (n := 384) (v := nI 22) C dL_isDone_382 rfl rfl ?_
                      refine g_icmp_ge (n := 387) (tgt := 396) C dL_isDone_384 (by decide) rfl (fun h384 => ?_) (fun h384 => absurd ((nI_leI (by decide) (by omega)).mpr (by omega)) h384)
                      refine g_iload (n := 398) C dL_isDone_396 rfl rfl ?_
                      refine g_bipush (n := 400) (v := nI 22) C dL_isDone_398 rfl rfl ?_
                      refine g_icmp_ne (n := 403) (tgt := 574) C dL_isDone_400 (by decide) rfl (fun h400 => ?_) (fun h400 => absurd h400 (fun z => by have := gn_inj (by omega) (by decide) z; omega))
                      refine g_iload (n := 576) C dL_isDone_574 rfl rfl ?_
                      refine g_bipush (n := 578) (v := nI 25) C dL_isDone_576 rfl rfl ?_
                      refine g_icmp_ge (n := 581) (tgt := 677) C dL_isDone_578 (by decide) rfl (fun h578 => ?_) (fun h578 => absurd ((nI_leI (by decide) (by omega)).mpr (by omega)) h578)
                      refine g_iload (n := 679) C dL_isDone_677 rfl rfl ?_
                      refine g_bipush (n := 681) (v := nI 25) C dL_isDone_679 rfl rfl ?_
                      refine g_icmp_ne (n := 684) (tgt := 699) C dL_isDone_681 (by decide) rfl (fun h681 => ?_) (fun h681 => absurd h681 (fun z => by have := gn_inj (by omega) (by decide) z; omega))
                      refine g_iload (n := 701) C dL_isDone_699 rfl rfl ?_
                      refine g_bipush (n := 703) (v := nI 28) C dL_isDone_701 rfl rfl ?_
                      refine g_icmp_ge (n := 706) (tgt := 720) C dL_isDone_703 (by decide) rfl (fun h703 => ?_) (fun h703 => absurd ((nI_leI (by decide) (by omega)).mpr (by omega)) h703)
                      refine g_iload (n := 722) C dL_isDone_720 rfl rfl ?_
                      refine g_bipush (n := 724) (v := nI 28) C dL_isDone_722 rfl rfl ?_
                      refine g_icmp_ne (n := 727) (tgt := 773) C dL_isDone_724 (by decide) rfl (fun h724 => absurd (by rw [hw22]) h724) (fun h724 => ?_)
                      refine g_iload (n := 729) C dL_isDone_727 rfl rfl ?_
                      refine g_iconst (n := 730) (v := nI 2) C dL_isDone_729 rfl rfl ?_
                      refine g_iremN (n := 731) C dL_isDone_730 (by omega) (by omega) (by omega) rfl ?_
                      refine g_if_ne (n := 734) (tgt := 741) C dL_isDone_731 (by decide) rfl (fun h731 => ?_) (fun h731 => absurd h731 (fun z => h2e (gn_inj (b := 0) (by omega) (by decide) z)))
                      refine g_aload_n (n := 742) C dL_isDone_741 rfl (Or.inr ⟨_, rfl⟩) rfl ?_
                      refine g_iconst (n := 743) (v := nI 1) C dL_isDone_742 rfl rfl ?_
                      refine g_iload (n := 745) C dL_isDone_743 rfl rfl ?_
                      refine g_iconst (n := 746) (v := nI 5) C dL_isDone_745 rfl rfl ?_
                      refine g_iremN (n := 747) C dL_isDone_746 (by omega) (by omega) (by omega) rfl ?_
                      refine g_iconst (n := 748) (v := nI 0) C dL_isDone_747 rfl rfl ?_
                      refine g_SH (n := 751) (rest := []) C (gH9.g (t_untag hE hl hN h (j := ja % 5) (by omega) (nI 0)) (fun _ _ _ z1 z2 => z1.ext z2) hg) dL_isDone_748 kH_tags kW_L_141 kT_tags rfl rfl (Nat.le_of_ble_eq_true rfl) ⟨by decide, by decide⟩ ⟨by first | omega | (simp only [gRm]; omega), by first | omega | (simp only [gRm]; omega)⟩ rfl (fun v9 L9 f9 hq => ?_)
                      obtain ⟨rfl, L2, rfl, hga2, h2, hg2⟩ := hq
                      refine G.sk (st' := [_]) rfl ?_
                      rw [(hT (ja % 5) (by omega)).2.1]
                      refine g_iconst (n := 752) (v := -1) C dL_isDone_751 rfl rfl ?_
                      refine g_icmp_lt (n := 755) (tgt := 771) C dL_isDone_752 (by decide) rfl (fun h752 => absurd h752 (pI_lo (by have := (hT (ja % 5) (by omega)).1; omega))) (fun h752 => ?_)
                      refine g_aload_n (n := 756) C dL_isDone_755 rfl (Or.inr ⟨_, rfl⟩) rfl ?_
                      refine g_iload (n := 758) C dL_isDone_756 rfl rfl ?_
                      refine g_iconst (n := 759) (v := nI 5) C dL_isDone_758 rfl rfl ?_
                      refine g_iremN (n := 760) C dL_isDone_759 (by omega) (by omega) (by omega) rfl ?_
                      refine g_V (n := 763) (rest := []) C (z_tagged hE hl (h2.up [ga]) (mc := 0) (ms := 0) (j := ja % 5) (by omega)) dL_isDone_760 kM_X5_tagged kL_L_71 kV_X5_tagged (h2.up [ga]).co.choose_spec rfl rfl rfl (Nat.le_of_ble_eq_true rfl) ⟨by decide, by decide⟩ ⟨by first | omega | (simp only [gRm]; omega), by first | omega | (simp only [gRm]; omega)⟩ rfl (fun v9 L9 f9 hq => ?_)
                      obtain ⟨rfl, rfl, rfl⟩ := hq
                      refine G.sk (st' := [_]) rfl ?_
                      rw [mU_s]
                      refine g_iconst (n := 764) (v := -1) C dL_isDone_763 rfl rfl ?_
                      refine g_icmp_ne (n := 767) (tgt := 771) C dL_isDone_764 (by decide) rfl (fun h764 => (by first | exact absurd h764 (by decide) | exact (h764 (by decide)).elim)) (fun h764 => ?_)
                      refine g_iconst (n := 768) (v := nI 1) C dL_isDone_767 rfl rfl ?_
                      refine g_goto (tgt := 772) C dL_isDone_768 (by decide) ?_
                      refine g_zret C hr rfl dL_isDone_772 ?_ ⟨by first | omega | (simp only [gRm]; omega), by first | omega | (simp only [gRm]; omega)⟩
                      exact ⟨rfl, L2, g, rfl, hga2, hg2, n, PR, PL, S, _, I, h2, hi.ag hpar (mU_ag (by decide)), fun i hi4 => (mU_k (by decide)).trans (hgA i hi4)⟩
                  · obtain ⟨m, b2, hm10, -, hm, -, -⟩ := h.rec9 (ja % 4) (by omega)
                    rw [hgA (ja % 4) (by omega)] at hm
                    by_cases h3 : jb % 3 = 0
                    · refine g_iload (n := 47) C dL_isDone_45 rfl rfl ?_
                      refine g_iconst (n := 48) (v := nI 4) C dL_isDone_47 rfl rfl ?_
                      refine g_icmp_ge (n := 51) (tgt := 204) C dL_isDone_48 (by decide) rfl (fun h48 => ?_) (fun h48 => absurd ((nI_leI (by decide) (by omega)).mpr (by omega)) h48)
                      refine g_iload (n := 206) C dL_isDone_204 rfl rfl ?_
                      refine g_bipush (n := 208) (v := nI 8) C dL_isDone_206 rfl rfl ?_
                      refine g_icmp_ge (n := 211) (tgt := 318) C dL_isDone_208 (by decide) rfl (fun h208 => ?_) (fun h208 => absurd ((nI_leI (by decide) (by omega)).mpr (by omega)) h208)
                      refine g_iload (n := 320) C dL_isDone_318 rfl rfl ?_
                      refine g_bipush (n := 322) (v := nI 17) C dL_isDone_320 rfl rfl ?_
                      refine g_icmp_ge (n := 325) (tgt := 380) C dL_isDone_322 (by decide) rfl (fun h322 => ?_) (fun h322 => absurd ((nI_leI (by decide) (by omega)).mpr (by omega)) h322)
                      refine g_iload (n := 382) C dL_isDone_380 rfl rfl ?_
                      refine g_bipush (n := 384) (v := nI 22) C dL_isDone_382 rfl rfl ?_
                      refine g_icmp_ge (n := 387) (tgt := 396) C dL_isDone_384 (by decide) rfl (fun h384 => ?_) (fun h384 => absurd ((nI_leI (by decide) (by omega)).mpr (by omega)) h384)
                      refine g_iload (n := 398) C dL_isDone_396 rfl rfl ?_
                      refine g_bipush (n := 400) (v := nI 22) C dL_isDone_398 rfl rfl ?_
                      refine g_icmp_ne (n := 403) (tgt := 574) C dL_isDone_400 (by decide) rfl (fun h400 => ?_) (fun h400 => absurd h400 (fun z => by have := gn_inj (by omega) (by decide) z; omega))
                      refine g_iload (n := 576) C dL_isDone_574 rfl rfl ?_
                      refine g_bipush (n := 578) (v := nI 25) C dL_isDone_576 rfl rfl ?_
                      refine g_icmp_ge (n := 581) (tgt := 677) C dL_isDone_578 (by decide) rfl (fun h578 => ?_) (fun h578 => absurd ((nI_leI (by decide) (by omega)).mpr (by omega)) h578)
                      refine g_iload (n := 679) C dL_isDone_677 rfl rfl ?_
                      refine g_bipush (n := 681) (v := nI 25) C dL_isDone_679 rfl rfl ?_
                      refine g_icmp_ne (n := 684) (tgt := 699) C dL_isDone_681 (by decide) rfl (fun h681 => ?_) (fun h681 => absurd h681 (fun z => by have := gn_inj (by omega) (by decide) z; omega))
                      refine g_iload (n := 701) C dL_isDone_699 rfl rfl ?_
                      refine g_bipush (n := 703) (v := nI 28) C dL_isDone_701 rfl rfl ?_
                      refine g_icmp_ge (n := 706) (tgt := 720) C dL_isDone_703 (by decide) rfl (fun h703 => ?_) (fun h703 => absurd ((nI_leI (by decide) (by omega)).mpr (by omega)) h703)
                      refine g_iload (n := 722) C dL_isDone_720 rfl rfl ?_
                      refine g_bipush (n := 724) (v := nI 28) C dL_isDone_722 rfl rfl ?_
                      refine g_icmp_ne (n := 727) (tgt := 773) C dL_isDone_724 (by decide) rfl (fun h724 => ?_) (fun h724 => absurd h724 (fun z => by have := gn_inj (by omega) (by decide) z; omega))
                      refine g_iload (n := 775) C dL_isDone_773 rfl rfl ?_
                      refine g_iconst (n := 776) (v := nI 4) C dL_isDone_775 rfl rfl ?_
                      refine g_iremN (n := 777) C dL_isDone_776 (by omega) (by omega) (by omega) rfl ?_
                      refine g_istore (n := 779) (ls' := [_, _, _, _, _, _, _, _, _, _, _, _]) C dL_isDone_777 rfl (by decide) rfl ?_
                      refine g_iload (n := 781) C dL_isDone_779 rfl rfl ?_
                      refine g_iconst (n := 782) (v := nI 3) C dL_isDone_781 rfl rfl ?_
                      refine g_iremN (n := 783) C dL_isDone_782 (by omega) (by omega) (by omega) rfl ?_
                      refine g_if_ne (n := 786) (tgt := 834) C dL_isDone_783 (by decide) rfl (fun h783 => absurd (by rw [h3]; rfl) h783) (fun h783 => ?_)
                      refine g_aload_n (n := 787) C dL_isDone_786 rfl (Or.inr ⟨_, rfl⟩) rfl ?_
                      refine g_iload (n := 789) C dL_isDone_787 rfl rfl ?_
                      refine g_iald (n := 790) C dL_isDone_789 ⟨List.mem_append_right _ (List.mem_singleton.mpr rfl), hg⟩ rfl (by omega) (by decide) rfl ?_
                      rw [hm]
                      refine g_istore (n := 792) (ls' := [_, _, _, _, _, _, _, _, _, _, _, _]) C dL_isDone_790 rfl (by decide) rfl ?_
                      refine g_aload_n (n := 793) C dL_isDone_792 rfl (Or.inr ⟨_, rfl⟩) rfl ?_
                      refine g_iload (n := 795) C dL_isDone_793 rfl rfl ?_
                      refine g_iconst (n := 796) (v := nI 0) C dL_isDone_795 rfl rfl ?_
                      refine g_iast (n := 797) C dL_isDone_796 ⟨List.mem_append_right _ (List.mem_singleton.mpr rfl), hg⟩ rfl (by omega) (by decide) rfl ?_
                      have hx := h.ext (f' := va_up f ga (.inl (cy 0, 4, .inl (upd g (ja % 4) (nI 0))))) (fun a ha => va_up_ne _ _ (fun z => hga (z ▸ ha)))
                      refine g_aload_n (n := 798) C dL_isDone_797 rfl (Or.inr ⟨_, rfl⟩) rfl ?_
                      refine g_iconst (n := 799) (v := nI 2) C dL_isDone_798 rfl rfl ?_
                      refine g_iload (n := 801) C dL_isDone_799 rfl rfl ?_
                      refine g_iload (n := 803) C dL_isDone_801 rfl rfl ?_
                      refine g_iconst (n := 804) (v := nI 2) C dL_isDone_803 rfl rfl ?_
                      refine g_iremN (n := 805) C dL_isDone_804 (by omega) (by omega) (by omega) rfl ?_
                      refine g_iconst (n := 806) (v := nI 0) C dL_isDone_805 rfl rfl ?_
                      refine g_SH (n := 809) (rest := []) C (gH9.g (t_reset hE hl hN hx (i := ja % 4) (j := jb % 2) (by omega) (by omega) (nI 0)) (fun _ _ _ z1 z2 => z1.ext z2) (va_up_self _ _ _)) dL_isDone_806 kH_sets kW_L_124 kT_sets rfl rfl (Nat.le_of_ble_eq_true rfl) ⟨by decide, by decide⟩ ⟨by first | omega | (simp only [gRm]; omega), by first | omega | (simp only [gRm]; omega)⟩ rfl (fun v9 L9 f9 hq => ?_)
                      obtain ⟨rfl, L2, rfl, hga2, h2, hg2⟩ := hq
                      refine G.sk (st' := [_]) rfl ?_
                      rw [hgA (ja % 4) (by omega), hm]
                      refine g_iload (n := 811) C dL_isDone_809 rfl rfl ?_
                      refine g_icmp_ne (n := 814) (tgt := 832) C dL_isDone_811 (by decide) rfl (fun h811 => absurd rfl h811) (fun h811 => ?_)
                      refine g_aload_n (n := 815) C dL_isDone_814 rfl (Or.inr ⟨_, rfl⟩) rfl ?_
                      refine g_iconst (n := 816) (v := nI 2) C dL_isDone_815 rfl rfl ?_
                      refine g_iload (n := 818) C dL_isDone_816 rfl rfl ?_
                      refine g_iconst (n := 819) (v := nI 3) C dL_isDone_818 rfl rfl ?_
                      refine g_iconst (n := 820) (v := nI 0) C dL_isDone_819 rfl rfl ?_
                      refine g_SH (n := 823) (rest := []) C (tn_reset hE hl hN (h2.up [ga]) (x := nI (ja % 4)) (y := nI 3) (fun ⟨_, q, hq, eq⟩ => by have := gn_inj (by decide) (by omega) eq; omega) (nI 0)) dL_isDone_820 kH_sets kW_L_124 kT_sets rfl rfl (Nat.le_of_ble_eq_true rfl) ⟨by decide, by decide⟩ ⟨by first | omega | (simp only [gRm]; omega), by first | omega | (simp only [gRm]; omega)⟩ rfl (fun v9 L9 f9 hq => ?_)
                      obtain ⟨rfl, rfl, rfl⟩ := hq
                      refine G.sk (st' := [_]) rfl ?_
                      refine g_bipush (n := 825) (v := -30) C dL_isDone_823 rfl rfl ?_
                      refine g_icmp_ne (n := 828) (tgt := 832) C dL_isDone_825 (by decide) rfl (fun h825 => (by first | exact absurd h825 (by decide) | exact (h825 (by decide)).elim)) (fun h825 => ?_)
                      refine g_iconst (n := 829) (v := nI 1) C dL_isDone_828 rfl rfl ?_
                      refine g_goto (tgt := 833) C dL_isDone_829 (by decide) ?_
                      refine g_zret C hr rfl dL_isDone_833 ?_ ⟨by first | omega | (simp only [gRm]; omega), by first | omega | (simp only [gRm]; omega)⟩
                      exact ⟨rfl, L2, _, rfl, hga2, hg2, n, PR, PL, S, _, I, h2, (hi.ag hpar (mU_ag (r := 2) (by decide))).ag hpar (mU_ag (by decide)), rst_39 hgA⟩
                    · by_cases hd : jb % (m + 1) = m
                      · refine g_iload (n := 47) C dL_isDone_45 rfl rfl ?_
                        refine g_iconst (n := 48) (v := nI 4) C dL_isDone_47 rfl rfl ?_
                        refine g_icmp_ge (n := 51) (tgt := 204) C dL_isDone_48 (by decide) rfl (fun h48 => ?_) (fun h48 => absurd ((nI_leI (by decide) (by omega)).mpr (by omega)) h48)
                        refine g_iload (n := 206) C dL_isDone_204 rfl rfl ?_
                        refine g_bipush (n := 208) (v := nI 8) C dL_isDone_206 rfl rfl ?_
                        refine g_icmp_ge (n := 211) (tgt := 318) C dL_isDone_208 (by decide) rfl (fun h208 => ?_) (fun h208 => absurd ((nI_leI (by decide) (by omega)).mpr (by omega)) h208)
                        refine g_iload (n := 320) C dL_isDone_318 rfl rfl ?_
                        refine g_bipush (n := 322) (v := nI 17) C dL_isDone_320 rfl rfl ?_
                        refine g_icmp_ge (n := 325) (tgt := 380) C dL_isDone_322 (by decide) rfl (fun h322 => ?_) (fun h322 => absurd ((nI_leI (by decide) (by omega)).mpr (by omega)) h322)
                        refine g_iload (n := 382) C dL_isDone_380 rfl rfl ?_
                        refine g_bipush (n := 384) (v := nI 22) C dL_isDone_382 rfl rfl ?_
                        refine g_icmp_ge (n := 387) (tgt := 396) C dL_isDone_384 (by decide) rfl (fun h384 => ?_) (fun h384 => absurd ((nI_leI (by decide) (by omega)).mpr (by omega)) h384)
                        refine g_iload (n := 398) C dL_isDone_396 rfl rfl ?_
                        refine g_bipush (n := 400) (v := nI 22) C dL_isDone_398 rfl rfl ?_
                        refine g_icmp_ne (n := 403) (tgt := 574) C dL_isDone_400 (by decide) rfl (fun h400 => ?_) (fun h400 => absurd h400 (fun z => by have := gn_inj (by omega) (by decide) z; omega))
                        refine g_iload (n := 576) C dL_isDone_574 rfl rfl ?_
                        refine g_bipush (n := 578) (v := nI 25) C dL_isDone_576 rfl rfl ?_
                        refine g_icmp_ge (n := 581) (tgt := 677) C dL_isDone_578 (by decide) rfl (fun h578 => ?_) (fun h578 => absurd ((nI_leI (by decide) (by omega)).mpr (by omega)) h578)
                        refine g_iload (n := 679) C dL_isDone_677 rfl rfl ?_
                        refine g_bipush (n := 681) (v := nI 25) C dL_isDone_679 rfl rfl ?_
                        refine g_icmp_ne (n := 684) (tgt := 699) C dL_isDone_681 (by decide) rfl (fun h681 => ?_) (fun h681 => absurd h681 (fun z => by have := gn_inj (by omega) (by decide) z; omega))
                        refine g_iload (n := 701) C dL_isDone_699 rfl rfl ?_
                        refine g_bipush (n := 703) (v := nI 28) C dL_isDone_701 rfl rfl ?_
                        refine g_icmp_ge (n := 706) (tgt := 720) C dL_isDone_703 (by decide) rfl (fun h703 => ?_) (fun h703 => absurd ((nI_leI (by decide) (by omega)).mpr (by omega)) h703)
                        refine g_iload (n := 722) C dL_isDone_720 rfl rfl ?_
                        refine g_bipush (n := 724) (v := nI 28) C dL_isDone_722 rfl rfl ?_
                        refine g_icmp_ne (n := 727) (tgt := 773) C dL_isDone_724 (by decide) rfl (fun h724 => ?_) (fun h724 => absurd h724 (fun z => by have := gn_inj (by omega) (by decide) z; omega))
                        refine g_iload (n := 775) C dL_isDone_773 rfl rfl ?_
                        refine g_iconst (n := 776) (v := nI 4) C dL_isDone_775 rfl rfl ?_
                        refine g_iremN (n := 777) C dL_isDone_776 (by omega) (by omega) (by omega) rfl ?_
                        refine g_istore (n := 779) (ls' := [_, _, _, _, _, _, _, _, _, _, _, _]) C dL_isDone_777 rfl (by decide) rfl ?_
                        refine g_iload (n := 781) C dL_isDone_779 rfl rfl ?_
                        refine g_iconst (n := 782) (v := nI 3) C dL_isDone_781 rfl rfl ?_
                        refine g_iremN (n := 783) C dL_isDone_782 (by omega) (by omega) (by omega) rfl ?_
                        refine g_if_ne (n := 786) (tgt := 834) C dL_isDone_783 (by decide) rfl (fun h783 => ?_) (fun h783 => absurd h783 (fun z => h3 (gn_inj (b := 0) (by omega) (by decide) z)))
                        refine g_iload (n := 836) C dL_isDone_834 rfl rfl ?_
                        refine g_aload_n (n := 837) C dL_isDone_836 rfl (Or.inr ⟨_, rfl⟩) rfl ?_
                        refine g_iload (n := 839) C dL_isDone_837 rfl rfl ?_
                        refine g_iald (n := 840) C dL_isDone_839 ⟨List.mem_append_right _ (List.mem_singleton.mpr rfl), hg⟩ rfl (by omega) (by decide) rfl ?_
                        rw [hm]
                        refine g_iconst (n := 841) (v := nI 1) C dL_isDone_840 rfl rfl ?_
                        refine g_iaddN (n := 842) C dL_isDone_841 rfl ?_
                        refine g_iremN (n := 843) C dL_isDone_842 (by omega) (by omega) (by omega) rfl ?_
                        refine g_istore (n := 845) (ls' := [_, _, _, _, _, _, _, _, _, _, _, _]) C dL_isDone_843 rfl (by decide) rfl ?_
                        refine g_iload (n := 847) C dL_isDone_845 rfl rfl ?_
                        refine g_aload_n (n := 848) C dL_isDone_847 rfl (Or.inr ⟨_, rfl⟩) rfl ?_
                        refine g_iload (n := 850) C dL_isDone_848 rfl rfl ?_
                        refine g_iald (n := 851) C dL_isDone_850 ⟨List.mem_append_right _ (List.mem_singleton.mpr rfl), hg⟩ rfl (by omega) (by decide) rfl ?_
                        rw [hm]
                        refine g_icmp_ne (n := 854) (tgt := 859) C dL_isDone_851 (by decide) rfl (fun h851 => absurd (by rw [hd]) h851) (fun h851 => ?_)
                        refine g_bipush (n := 856) (v := -30) C dL_isDone_854 rfl rfl ?_
                        refine g_goto (tgt := 865) C dL_isDone_856 (by decide) ?_
                        refine g_istore (n := 867) (ls' := [_, _, _, _, _, _, _, _, _, _, _, _]) C dL_isDone_865 rfl (by decide) rfl ?_
                        refine g_aload_n (n := 868) C dL_isDone_867 rfl (Or.inr ⟨_, rfl⟩) rfl ?_
                        refine g_iload (n := 870) C dL_isDone_868 rfl rfl ?_
                        refine g_iload (n := 872) C dL_isDone_870 rfl rfl ?_
                        refine g_if_ge (n := 875) (tgt := 882) C dL_isDone_872 (by decide) rfl (fun h872 => absurd h872 (by decide)) (fun h872 => ?_)
                        refine g_aload_n (n := 876) C dL_isDone_875 rfl (Or.inr ⟨_, rfl⟩) rfl ?_
                        refine g_iload (n := 878) C dL_isDone_876 rfl rfl ?_
                        refine g_iald (n := 879) C dL_isDone_878 ⟨List.mem_append_right _ (List.mem_singleton.mpr rfl), hg⟩ rfl (by omega) (by decide) rfl ?_
                        refine g_goto (tgt := 884) C dL_isDone_879 (by decide) ?_
                        refine g_iast (n := 885) C dL_isDone_884 ⟨List.mem_append_right _ (List.mem_singleton.mpr rfl), hg⟩ rfl (by omega) (by decide) rfl ?_
                        have hx := h.ext (f' := va_up f ga (.inl (cy 0, 4, .inl (upd g (ja % 4) (g (ja % 4)))))) (fun a ha => va_up_ne _ _ (fun z => hga (z ▸ ha)))
                        refine g_aload_n (n := 886) C dL_isDone_885 rfl (Or.inr ⟨_, rfl⟩) rfl ?_
                        refine g_iconst (n := 887) (v := nI 3) C dL_isDone_886 rfl rfl ?_
                        refine g_iload (n := 889) C dL_isDone_887 rfl rfl ?_
                        refine g_iload (n := 891) C dL_isDone_889 rfl rfl ?_
                        refine g_iconst (n := 892) (v := nI 0) C dL_isDone_891 rfl rfl ?_
                        refine g_SH (n := 895) (rest := []) C (tn_drop hE hl hN (hx.up [ga]) (x := nI (ja % 4)) (y := nI (jb % (m + 1))) (fun ⟨i2, m2, j2, q1, e1, q3, q4, q5, e5⟩ => by
                            have ei := gn_inj (by omega) (by omega) e1
                            rw [← ei, hgA (ja % 4) (by omega), hm] at q3
                            have em := gn_inj (by omega) (by omega) q3
                            have ej := gn_inj (by omega) (by omega) e5
                            omega) (nI 0)) dL_isDone_892 kH_sets kW_L_124 kT_sets rfl rfl (Nat.le_of_ble_eq_true rfl) ⟨by decide, by decide⟩ ⟨by first | omega | (simp only [gRm]; omega), by first | omega | (simp only [gRm]; omega)⟩ rfl (fun v9 L9 f9 hq => ?_)
                        obtain ⟨rfl, rfl, rfl⟩ := hq
                        refine G.sk (st' := [_]) rfl ?_
                        refine g_iload (n := 897) C dL_isDone_895 rfl rfl ?_
                        refine g_icmp_ne (n := 900) (tgt := 904) C dL_isDone_897 (by decide) rfl (fun h897 => absurd rfl h897) (fun h897 => ?_)
                        refine g_iconst (n := 901) (v := nI 1) C dL_isDone_900 rfl rfl ?_
                        refine g_goto (tgt := 905) C dL_isDone_901 (by decide) ?_
                        refine g_zret C hr rfl dL_isDone_905 ?_ ⟨by first | omega | (simp only [gRm]; omega), by first | omega | (simp only [gRm]; omega)⟩
                        exact ⟨rfl, Lc, _, rfl, hga, va_up_self _ _ _, n, PR, PL, S, A, I, hx, hi, fun i hi4 => by rw [upd_same]; exact hgA i hi4⟩
                      · have hlt : jb % (m + 1) < m + 1 := Nat.mod_lt _ (by omega)
                        refine g_iload (n := 47) C dL_isDone_45 rfl rfl ?_
                        refine g_iconst (n := 48) (v := nI 4) C dL_isDone_47 rfl rfl ?_
                        refine g_icmp_ge (n := 51) (tgt := 204) C dL_isDone_48 (by decide) rfl (fun h48 => ?_) (fun h48 => absurd ((nI_leI (by decide) (by omega)).mpr (by omega)) h48)
                        refine g_iload (n := 206) C dL_isDone_204 rfl rfl ?_
                        refine g_bipush (n := 208) (v := nI 8) C dL_isDone_206 rfl rfl ?_
                        refine g_icmp_ge (n := 211) (tgt := 318) C dL_isDone_208 (by decide) rfl (fun h208 => ?_) (fun h208 => absurd ((nI_leI (by decide) (by omega)).mpr (by omega)) h208)
                        refine g_iload (n := 320) C dL_isDone_318 rfl rfl ?_
                        refine g_bipush (n := 322) (v := nI 17) C dL_isDone_320 rfl rfl ?_
                        refine g_icmp_ge (n := 325) (tgt := 380) C dL_isDone_322 (by decide) rfl (fun h322 => ?_) (fun h322 => absurd ((nI_leI (by decide) (by omega)).mpr (by omega)) h322)
                        refine g_iload (n := 382) C dL_isDone_380 rfl rfl ?_
                        refine g_bipush (n := 384) (v := nI 22) C dL_isDone_382 rfl rfl ?_
                        refine g_icmp_ge (n := 387) (tgt := 396) C dL_isDone_384 (by decide) rfl (fun h384 => ?_) (fun h384 => absurd ((nI_leI (by decide) (by omega)).mpr (by omega)) h384)
                        refine g_iload (n := 398) C dL_isDone_396 rfl rfl ?_
                        refine g_bipush (n := 400) (v := nI 22) C dL_isDone_398 rfl rfl ?_
                        refine g_icmp_ne (n := 403) (tgt := 574) C dL_isDone_400 (by decide) rfl (fun h400 => ?_) (fun h400 => absurd h400 (fun z => by have := gn_inj (by omega) (by decide) z; omega))
                        refine g_iload (n := 576) C dL_isDone_574 rfl rfl ?_
                        refine g_bipush (n := 578) (v := nI 25) C dL_isDone_576 rfl rfl ?_
                        refine g_icmp_ge (n := 581) (tgt := 677) C dL_isDone_578 (by decide) rfl (fun h578 => ?_) (fun h578 => absurd ((nI_leI (by decide) (by omega)).mpr (by omega)) h578)
                        refine g_iload (n := 679) C dL_isDone_677 rfl rfl ?_
                        refine g_bipush (n := 681) (v := nI 25) C dL_isDone_679 rfl rfl ?_
                        refine g_icmp_ne (n := 684) (tgt := 699) C dL_isDone_681 (by decide) rfl (fun h681 => ?_) (fun h681 => absurd h681 (fun z => by have := gn_inj (by omega) (by decide) z; omega))
                        refine g_iload (n := 701) C dL_isDone_699 rfl rfl ?_
                        refine g_bipush (n := 703) (v := nI 28) C dL_isDone_701 rfl rfl ?_
                        refine g_icmp_ge (n := 706) (tgt := 720) C dL_isDone_703 (by decide) rfl (fun h703 => ?_) (fun h703 => absurd ((nI_leI (by decide) (by omega)).mpr (by omega)) h703)
                        refine g_iload (n := 722) C dL_isDone_720 rfl rfl ?_
                        refine g_bipush (n := 724) (v := nI 28) C dL_isDone_722 rfl rfl ?_
                        refine g_icmp_ne (n := 727) (tgt := 773) C dL_isDone_724 (by decide) rfl (fun h724 => ?_) (fun h724 => absurd h724 (fun z => by have := gn_inj (by omega) (by decide) z; omega))
                        refine g_iload (n := 775) C dL_isDone_773 rfl rfl ?_
                        refine g_iconst (n := 776) (v := nI 4) C dL_isDone_775 rfl rfl ?_
                        refine g_iremN (n := 777) C dL_isDone_776 (by omega) (by omega) (by omega) rfl ?_
                        refine g_istore (n := 779) (ls' := [_, _, _, _, _, _, _, _, _, _, _, _]) C dL_isDone_777 rfl (by decide) rfl ?_
                        refine g_iload (n := 781) C dL_isDone_779 rfl rfl ?_
                        refine g_iconst (n := 782) (v := nI 3) C dL_isDone_781 rfl rfl ?_
                        refine g_iremN (n := 783) C dL_isDone_782 (by omega) (by omega) (by omega) rfl ?_
                        refine g_if_ne (n := 786) (tgt := 834) C dL_isDone_783 (by decide) rfl (fun h783 => ?_) (fun h783 => absurd h783 (fun z => h3 (gn_inj (b := 0) (by omega) (by decide) z)))
                        refine g_iload (n := 836) C dL_isDone_834 rfl rfl ?_
                        refine g_aload_n (n := 837) C dL_isDone_836 rfl (Or.inr ⟨_, rfl⟩) rfl ?_
                        refine g_iload (n := 839) C dL_isDone_837 rfl rfl ?_
                        refine g_iald (n := 840) C dL_isDone_839 ⟨List.mem_append_right _ (List.mem_singleton.mpr rfl), hg⟩ rfl (by omega) (by decide) rfl ?_
                        rw [hm]
                        refine g_iconst (n := 841) (v := nI 1) C dL_isDone_840 rfl rfl ?_
                        refine g_iaddN (n := 842) C dL_isDone_841 rfl ?_
                        refine g_iremN (n := 843) C dL_isDone_842 (by omega) (by omega) (by omega) rfl ?_
                        refine g_istore (n := 845) (ls' := [_, _, _, _, _, _, _, _, _, _, _, _]) C dL_isDone_843 rfl (by decide) rfl ?_
                        refine g_iload (n := 847) C dL_isDone_845 rfl rfl ?_
                        refine g_aload_n (n := 848) C dL_isDone_847 rfl (Or.inr ⟨_, rfl⟩) rfl ?_
                        refine g_iload (n := 850) C dL_isDone_848 rfl rfl ?_
                        refine g_iald (n := 851) C dL_isDone_850 ⟨List.mem_append_right _ (List.mem_singleton.mpr rfl), hg⟩ rfl (by omega) (by decide) rfl ?_
                        rw [hm]
                        refine g_icmp_ne (n := 854) (tgt := 859) C dL_isDone_851 (by decide) rfl (fun h851 => ?_) (fun h851 => absurd h851 (fun z => hd (gn_inj (by omega) (by omega) z)))
                        refine g_aload_n (n := 860) C dL_isDone_859 rfl (Or.inr ⟨_, rfl⟩) rfl ?_
                        refine g_iload (n := 862) C dL_isDone_860 rfl rfl ?_
                        refine g_iald (n := 863) C dL_isDone_862 ⟨List.mem_append_right _ (List.mem_singleton.mpr rfl), hg⟩ rfl (by omega) (by decide) rfl ?_
                        rw [hm]
                        refine g_iconst (n := 864) (v := nI 1) C dL_isDone_863 rfl rfl ?_
                        refine g_isubN (n := 865) C dL_isDone_864 (by omega) rfl ?_
                        refine g_istore (n := 867) (ls' := [_, _, _, _, _, _, _, _, _, _, _, _]) C dL_isDone_865 rfl (by decide) rfl ?_
                        refine g_aload_n (n := 868) C dL_isDone_867 rfl (Or.inr ⟨_, rfl⟩) rfl ?_
                        refine g_iload (n := 870) C dL_isDone_868 rfl rfl ?_
                        refine g_iload (n := 872) C dL_isDone_870 rfl rfl ?_
                        refine g_if_ge (n := 875) (tgt := 882) C dL_isDone_872 (by decide) rfl (fun h872 => ?_) (fun h872 => absurd (nI_nn (by omega)) h872)
                        refine g_iload (n := 884) C dL_isDone_882 rfl rfl ?_
                        refine g_iast (n := 885) C dL_isDone_884 ⟨List.mem_append_right _ (List.mem_singleton.mpr rfl), hg⟩ rfl (by omega) (by decide) rfl ?_
                        have hx := h.ext (f' := va_up f ga (.inl (cy 0, 4, .inl (upd g (ja % 4) (nI (m - 1)))))) (fun a ha => va_up_ne _ _ (fun z => hga (z ▸ ha)))
                        refine g_aload_n (n := 886) C dL_isDone_885 rfl (Or.inr ⟨_, rfl⟩) rfl ?_
                        refine g_iconst (n := 887) (v := nI 3) C dL_isDone_886 rfl rfl ?_
                        refine g_iload (n := 889) C dL_isDone_887 rfl rfl ?_
                        refine g_iload (n := 891) C dL_isDone_889 rfl rfl ?_
                        refine g_iconst (n := 892) (v := nI 0) C dL_isDone_891 rfl rfl ?_
                        refine g_SH (n := 895) (rest := []) C (gH9.g (t_drop hE hl hN hx (i := ja % 4) (m := m) (j := jb % (m + 1)) (by omega) ((hgA (ja % 4) (by omega)).trans hm) hm10 (by omega) (nI 0)) (fun _ _ _ z1 z2 => z1.ext z2) (va_up_self _ _ _)) dL_isDone_892 kH_sets kW_L_124 kT_sets rfl rfl (Nat.le_of_ble_eq_true rfl) ⟨by decide, by decide⟩ ⟨by first | omega | (simp only [gRm]; omega), by first | omega | (simp only [gRm]; omega)⟩ rfl (fun v9 L9 f9 hq => ?_)
                        obtain ⟨rfl, L2, rfl, hga2, h2, hg2⟩ := hq
                        refine G.sk (st' := [_]) rfl ?_
                        refine g_iload (n := 897) C dL_isDone_895 rfl rfl ?_
                        refine g_icmp_ne (n := 900) (tgt := 904) C dL_isDone_897 (by decide) rfl (fun h897 => absurd rfl h897) (fun h897 => ?_)
                        refine g_iconst (n := 901) (v := nI 1) C dL_isDone_900 rfl rfl ?_
                        refine g_goto (tgt := 905) C dL_isDone_901 (by decide) ?_
                        refine g_zret C hr rfl dL_isDone_905 ?_ ⟨by first | omega | (simp only [gRm]; omega), by first | omega | (simp only [gRm]; omega)⟩
                        exact ⟨rfl, L2, _, rfl, hga2, hg2, n, PR, PL, S, _, I, h2, hi.ag hpar (agw.of (fun k j h1 h2 => (if_neg (by omega)).trans (mU_k (by omega)))), drA_39 hgA⟩

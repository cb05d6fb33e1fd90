/-! ===== the law, VII: what is kept; pruning ===== -/
theorem anc_eq {PR : Nat → Nat} {n x m : Nat} (hp : ∀ k, k < n → PR k ≤ k) (hx : x ≤ n) (h : pI x ≤ nI m) (hm : m < 2 ^ 31) (hn : n < 2 ^ 31) : anc PR x m ↔ pI x = nI m := by
  cases x with
  | zero => exact ⟨fun z => z.elim, fun z => absurd z.symm (gn_ne1 hm)⟩
  | succ i =>
    rw [pI_nI, nI_leI (by omega) hm] at h
    rw [anc_s hp hx, pI_nI]
    constructor
    · rintro (rfl | z)
      · rfl
      · have := ancR_lt hp _ _ _ (by have := hp i hx; omega) z
        have := hp i hx
        omega
    · intro z
      exact Or.inl (gn_inj (by omega) hm z).symm
theorem pI_gt {x m : Nat} (h : ¬ pI x ≤ nI m) (hx : x ≤ 2 ^ 31) (hm : m < 2 ^ 31) : ∃ i, x = i + 1 ∧ m < i := by
  cases x with
  | zero =>
    refine absurd ?_ h
    have e1 : (pI 0).toInt = -1 := by decide
    rw [gn_le, e1, nI_toInt hm]
    omega
  | succ i =>
    rw [pI_nI, nI_leI (by omega) hm] at h
    exact ⟨i, rfl, by omega⟩
theorem l_isKept {l : Launch} {s0 : State} {D : va_G} {cy : Nat → ClassId} (hE : gE s0 D cy) (hl : l.stackTraces = false) {L : List Nat} {f : gF} {co n : Nat} {PR PL : Nat → Nat} {S A : Nat → Nat → Int32} {I : Nat → Int32} (h : CX cy co n PR PL S A I L f) {TG : Nat → Nat} (hT : vTgl A n TG) {mm : Nat} (hm9 : mm < n) : gM l s0 D yL_isKept cL_isKept 5 (some .boolean) 9 0 0 [.ref co, .int (nI mm)] L f (fun v L1 f1 => (∃ w, v = some (.int (nI w)) ∧ cdb (kep PR TG 5 mm) w) ∧ L = L1 ∧ f = f1) := by
  refine gM.of (own := RL) hE hl (by decide +kernel) rfl rfl (Nat.le_of_ble_eq_true rfl) (fun p9 e9 s9 m9 a99 b99 t99 c9 C hr hnm => ?_)
  refine G.weak (ls' := [some (.ref co), some (.int (nI mm)), none, none, none]) ?_ rfl (fun _ _ h => h)
  obtain ⟨i7, hn9, hPR, hsh, hpl, hpb, hlv⟩ := h.nv
  have hpar : ∀ k, k < n → PR k ≤ k := fun k hk => (hPR k hk).1
  refine g_iconst (n := 1) (v := nI 0) C dL_isKept_0 rfl rfl ?_
  refine g_istore_n (n := 2) (ls' := [_, _, _, _, _]) C dL_isKept_1 rfl (by decide) rfl ?_
  refine g_iconst (n := 3) (v := nI 0) C dL_isKept_2 rfl rfl ?_
  refine g_istore_n (n := 4) (ls' := [_, _, _, _, _]) C dL_isKept_3 rfl (by decide) rfl ?_
  refine g_loop (α := Nat × Nat) (fun z => z.1 ≤ 5 ∧ cdb (kep PR TG z.1 mm) z.2) (fun z => 5 - z.1) (fun _ => L) (fun _ => f) (fun _ => 0) (fun _ => 0) 4 (fun z => [some (.ref co), some (.int (nI mm)), some (.int (nI z.2)), some (.int (nI z.1)), none]) (fun _ => []) (fun z hz ih => ?_) (fun J => J (0, 0) ⟨Nat.zero_le _, Or.inr ⟨rfl, fun ⟨t, ht, _⟩ => absurd ht (Nat.not_lt_zero t)⟩⟩)
  obtain ⟨j, w⟩ := z
  obtain ⟨hj9, hw⟩ := hz
  dsimp only at hj9 hw ih ⊢
  refine g_iload_n (n := 5) C dL_isKept_4 rfl rfl ?_
  refine g_iconst (n := 6) (v := nI 5) C dL_isKept_5 rfl rfl ?_
  refine g_icmp_ge (n := 9) (tgt := 55) C dL_isKept_6 (by decide) rfl (fun h6 => ?_) (fun h6 => ?_)
  · have e9 : j = 5 := by have := gn_ge h6 (by decide) (by omega); omega
    subst e9
    refine g_iload_n (n := 56) C dL_isKept_55 rfl rfl ?_
    refine g_zret C hr (by rcases hw with ⟨rfl, -⟩ | ⟨rfl, -⟩ <;> rfl) dL_isKept_56 ?_ ⟨by first | omega | (simp only [gRm]; omega), by first | omega | (simp only [gRm]; omega)⟩
    exact ⟨⟨w, rfl, hw⟩, rfl, rfl⟩
  · have hj5 : j < 5 := gn_gt h6 (by decide) (by omega)
    refine g_aload_n (n := 10) C dL_isKept_9 rfl (Or.inr ⟨_, rfl⟩) rfl ?_
    refine g_iload_n (n := 11) C dL_isKept_10 rfl rfl ?_
    refine g_V (n := 14) (rest := []) C (z_tagged hE hl h (mc := 0) (ms := 0) hj5) dL_isKept_11 kM_X5_tagged kL_L_71 kV_X5_tagged h.co.choose_spec rfl rfl rfl (Nat.le_of_ble_eq_true rfl) ⟨by decide, by decide⟩ ⟨by first | omega | (simp only [gRm]; omega), by first | omega | (simp only [gRm]; omega)⟩ rfl (fun v9 L9 f9 hq => ?_)
    obtain ⟨rfl, rfl, rfl⟩ := hq
    refine G.sk (st' := [_]) rfl ?_
    rw [(hT j hj5).2.1]
    refine g_istore (n := 16) (ls' := [_, _, _, _, _]) C dL_isKept_14 rfl (by decide) rfl ?_
    refine g_loop (α := Nat) (fun x => x ≤ n ∧ (anc PR (TG j) mm ↔ anc PR x mm) ∧ ∀ i, x = i + 1 → A 8 i = 0) (fun x => x) (fun _ => L) (fun _ => f) (fun _ => 0) (fun _ => 0) 16 (fun x => [some (.ref co), some (.int (nI mm)), some (.int (nI w)), some (.int (nI j)), some (.int (pI x))]) (fun _ => []) (fun x hx0 ih2 => ?_) (fun J => J (TG j) ⟨(hT j hj5).1, Iff.rfl, fun i hi9 => (hT j hj5).2.2 i hi9⟩)
    obtain ⟨hx, hxa, hlx⟩ := hx0
    refine g_iload (n := 18) C dL_isKept_16 rfl rfl ?_
    refine g_iload_n (n := 19) C dL_isKept_18 rfl rfl ?_
    refine g_icmp_le (n := 22) (tgt := 33) C dL_isKept_19 (by decide) rfl (fun h19 => ?_) (fun h19 => ?_)
    · have hae := anc_eq hpar hx h19 (by omega) (by omega)
      refine g_iload_n (n := 34) C dL_isKept_33 rfl rfl ?_
      refine g_if_ne (n := 37) (tgt := 43) C dL_isKept_34 (by decide) rfl (fun h34 => ?_) (fun h34 => ?_)
      · have hw1 : w = 1 := hw.elim And.left (fun z => absurd (by rw [z.1]; rfl) h34)
        refine g_iconst (n := 44) (v := nI 1) C dL_isKept_43 rfl rfl ?_
        refine g_goto (tgt := 48) C dL_isKept_44 (by decide) ?_
        refine g_istore_n (n := 49) (ls' := [_, _, _, _, _]) C dL_isKept_48 rfl (by decide) rfl ?_
        refine g_iinc (n := 52) (ls' := [_, _, _, _, _]) C dL_isKept_49 rfl (nI_1 _) rfl (by decide) rfl ?_
        refine g_goto (tgt := 4) C dL_isKept_52 (by decide) ?_
        first
        | exact G.wk (wk2.s (wk2.s (wk2.s (wk2.s (wk2.n wk2.z))))) (ih (j + 1, 1) ⟨by show j + 1 ≤ 5; omega, Or.inl ⟨rfl, kep_s.mpr (Or.inl (hw.elim And.right (fun z => absurd hw1 (by rw [z.1]; decide))))⟩⟩ (by show 5 - (j + 1) < 5 - j; omega))
        | exact G.wk (wk2.s (wk2.s (wk2.s (wk2.s (wk2.n wk2.z))))) (ih (j + 1, 1) ⟨by show j + 1 ≤ 5; omega, Or.inl ⟨rfl, kep_s.mpr (Or.inr (hxa.mpr (hae.mpr h40)))⟩⟩ (by show 5 - (j + 1) < 5 - j; omega))
        | exact G.wk (wk2.s (wk2.s (wk2.s (wk2.s (wk2.n wk2.z))))) (ih (j + 1, 0) ⟨by show j + 1 ≤ 5; omega, Or.inr ⟨rfl, fun z => (kep_s.mp z).elim (hw.elim (fun y => absurd hw0 (by rw [y.1]; decide)) And.right) (fun y => h40 (hae.mp (hxa.mp y)))⟩⟩ (by show 5 - (j + 1) < 5 - j; omega))
      · have hw0 : w = 0 := hw.elim (fun z => absurd h34 (by rw [z.1]; decide)) And.left
        refine g_iload (n := 39) C dL_isKept_37 rfl rfl ?_
        refine g_iload_n (n := 40) C dL_isKept_39 rfl rfl ?_
        refine g_icmp_ne (n := 43) (tgt := 47) C dL_isKept_40 (by decide) rfl (fun h40 => ?_) (fun h40 => ?_)
        · skip
          refine g_iconst (n := 48) (v := nI 0) C dL_isKept_47 rfl rfl ?_
          refine g_istore_n (n := 49) (ls' := [_, _, _, _, _]) C dL_isKept_48 rfl (by decide) rfl ?_
          refine g_iinc (n := 52) (ls' := [_, _, _, _, _]) C dL_isKept_49 rfl (nI_1 _) rfl (by decide) rfl ?_
          refine g_goto (tgt := 4) C dL_isKept_52 (by decide) ?_
          first
          | exact G.wk (wk2.s (wk2.s (wk2.s (wk2.s (wk2.n wk2.z))))) (ih (j + 1, 1) ⟨by show j + 1 ≤ 5; omega, Or.inl ⟨rfl, kep_s.mpr (Or.inl (hw.elim And.right (fun z => absurd hw1 (by rw [z.1]; decide))))⟩⟩ (by show 5 - (j + 1) < 5 - j; omega))
          | exact G.wk (wk2.s (wk2.s (wk2.s (wk2.s (wk2.n wk2.z))))) (ih (j + 1, 1) ⟨by show j + 1 ≤ 5; omega, Or.inl ⟨rfl, kep_s.mpr (Or.inr (hxa.mpr (hae.mpr h40)))⟩⟩ (by show 5 - (j + 1) < 5 - j; omega))
          | exact G.wk (wk2.s (wk2.s (wk2.s (wk2.s (wk2.n wk2.z))))) (ih (j + 1, 0) ⟨by show j + 1 ≤ 5; omega, Or.inr ⟨rfl, fun z => (kep_s.mp z).elim (hw.elim (fun y => absurd hw0 (by rw [y.1]; decide)) And.right) (fun y => h40 (hae.mp (hxa.mp y)))⟩⟩ (by show 5 - (j + 1) < 5 - j; omega))
        · skip
          refine g_iconst (n := 44) (v := nI 1) C dL_isKept_43 rfl rfl ?_
          refine g_goto (tgt := 48) C dL_isKept_44 (by decide) ?_
          refine g_istore_n (n := 49) (ls' := [_, _, _, _, _]) C dL_isKept_48 rfl (by decide) rfl ?_
          refine g_iinc (n := 52) (ls' := [_, _, _, _, _]) C dL_isKept_49 rfl (nI_1 _) rfl (by decide) rfl ?_
          refine g_goto (tgt := 4) C dL_isKept_52 (by decide) ?_
          first
          | exact G.wk (wk2.s (wk2.s (wk2.s (wk2.s (wk2.n wk2.z))))) (ih (j + 1, 1) ⟨by show j + 1 ≤ 5; omega, Or.inl ⟨rfl, kep_s.mpr (Or.inl (hw.elim And.right (fun z => absurd hw1 (by rw [z.1]; decide))))⟩⟩ (by show 5 - (j + 1) < 5 - j; omega))
          | exact G.wk (wk2.s (wk2.s (wk2.s (wk2.s (wk2.n wk2.z))))) (ih (j + 1, 1) ⟨by show j + 1 ≤ 5; omega, Or.inl ⟨rfl, kep_s.mpr (Or.inr (hxa.mpr (hae.mpr h40)))⟩⟩ (by show 5 - (j + 1) < 5 - j; omega))
          | exact G.wk (wk2.s (wk2.s (wk2.s (wk2.s (wk2.n wk2.z))))) (ih (j + 1, 0) ⟨by show j + 1 ≤ 5; omega, Or.inr ⟨rfl, fun z => (kep_s.mp z).elim (hw.elim (fun y => absurd hw0 (by rw [y.1]; decide)) And.right) (fun y => h40 (hae.mp (hxa.mp y)))⟩⟩ (by show 5 - (j + 1) < 5 - j; omega))
    · obtain ⟨i, rfl, hmi⟩ := pI_gt h19 (by omega) (by omega)
      have hin : i < n := hx
      rw [pI_nI]
      refine g_aload_n (n := 23) C dL_isKept_22 rfl (Or.inr ⟨_, rfl⟩) rfl ?_
      refine g_iload (n := 25) C dL_isKept_23 rfl rfl ?_
      refine g_V (n := 28) (rest := []) C (z_parentOf hE hl h (mc := 0) (ms := 0) hin (hlx i rfl)) dL_isKept_25 kM_X5_parentOf kL_L_80 kV_X5_parentOf h.co.choose_spec rfl rfl rfl (Nat.le_of_ble_eq_true rfl) ⟨by decide, by decide⟩ ⟨by first | omega | (simp only [gRm]; omega), by first | omega | (simp only [gRm]; omega)⟩ rfl (fun v9 L9 f9 hq => ?_)
      obtain ⟨rfl, rfl, rfl⟩ := hq
      refine G.sk (st' := [_]) rfl ?_
      refine g_istore (n := 30) (ls' := [_, _, _, _, _]) C dL_isKept_28 rfl (by decide) rfl ?_
      refine g_goto (tgt := 16) C dL_isKept_30 (by decide) ?_
      exact ih2 (PR i) ⟨by have := hpar i hin; omega, hxa.trans ((anc_s hpar hin).trans ⟨fun z => z.resolve_left (by omega), Or.inr⟩), fun i2 hi2 => hlv i i2 hin (hlx i rfl) hi2⟩ (by have := hpar i hin; omega)
theorem l_isPruned {l : Launch} {s0 : State} {D : va_G} {cy : Nat → ClassId} (hE : gE s0 D cy) (hl : l.stackTraces = false) {L : List Nat} {f : gF} (hN : gN9 s0) {co n : Nat} {PR PL : Nat → Nat} {S A : Nat → Nat → Int32} {I : Nat → Int32} (h : CX cy co n PR PL S A I L f) (hi : INV A n PR S) : gM l s0 D yL_isPruned cL_isPruned 5 (some .boolean) 10 1690 10120 [.ref co] L f (fun v L1 f1 => v = some (.int 1) ∧ LWo cy co (A 3) L1 f1) := by
  refine gM.of (own := RL) hE hl (by decide +kernel) rfl rfl (Nat.le_of_ble_eq_true rfl) (fun p9 e9 s9 m9 a99 b99 t99 c9 C hr hnm => ?_)
  refine G.weak (ls' := [some (.ref co), none, none, none, none]) ?_ rfl (fun _ _ h => h)
  obtain ⟨i7, hn9, hPR, hsh, hpl, hpb, hlv⟩ := h.nv
  have hpar : ∀ k, k < n → PR k ≤ k := fun k hk => (hPR k hk).1
  obtain ⟨TG, hT⟩ := h.tgs
  refine g_aload_n (n := 1) C dL_isPruned_0 rfl (Or.inr ⟨_, rfl⟩) rfl ?_
  refine g_V (n := 4) (rest := []) C (z_stepsLeft hE hl h (mc := 0) (ms := 0)) dL_isPruned_1 kM_X5_stepsLeft kL_L_117 kV_X5_stepsLeft h.co.choose_spec rfl rfl rfl (Nat.le_of_ble_eq_true rfl) ⟨by decide, by decide⟩ ⟨by first | omega | (simp only [gRm]; omega), by first | omega | (simp only [gRm]; omega)⟩ rfl (fun v9 L9 f9 hq => ?_)
  obtain ⟨rfl, rfl, rfl⟩ := hq
  refine G.sk (st' := [_]) rfl ?_
  refine g_if_le (n := 7) (tgt := 24) C dL_isPruned_4 (by decide) rfl (fun h4 => ?_) (fun h4 => ?_)
  · have h17 : I 17 = nI 0 := by
      rcases h.bu.sl with ⟨z, -⟩ | ⟨t, c, k, ⟨-, -, -, -, z, zc, -⟩, e⟩
      · exact z
      · rw [e] at h4
        have := gn_ge (b := 0) h4 (by omega) (by decide)
        omega
    refine g_iconst (n := 25) (v := nI 0) C dL_isPruned_24 rfl rfl ?_
    refine g_istore_n (n := 26) (ls' := [_, _, _, _, _]) C dL_isPruned_25 rfl (by decide) rfl ?_
    refine g_aload_n (n := 27) C dL_isPruned_26 rfl (Or.inr ⟨_, rfl⟩) rfl ?_
    refine g_V (n := 30) (rest := []) C (z_layers hE hl h (mc := 0) (ms := 0)) dL_isPruned_27 kM_X5_layers kL_L_111 kV_X5_layers h.co.choose_spec rfl rfl rfl (Nat.le_of_ble_eq_true rfl) ⟨by decide, by decide⟩ ⟨by first | omega | (simp only [gRm]; omega), by first | omega | (simp only [gRm]; omega)⟩ rfl (fun v9 L9 f9 hq => ?_)
    obtain ⟨rfl, rfl, rfl⟩ := hq
    refine G.sk (st' := [_]) rfl ?_
    refine g_istore_n (n := 31) (ls' := [_, _, _, _, _]) C dL_isPruned_30 rfl (by decide) rfl ?_
    refine g_iconst (n := 32) (v := nI 0) C dL_isPruned_31 rfl rfl ?_
    refine g_istore_n (n := 33) (ls' := [_, _, _, _, _]) C dL_isPruned_32 rfl (by decide) rfl ?_
    refine g_loop (α := Nat) (fun i => i ≤ n) (fun i => n - i) (fun _ => L) (fun _ => f) (fun i => 2 * i) (fun i => 12 * i) 33 (fun i => [some (.ref co), some (.int (nI (cntN A (gKp PR TG) i))), some (.int (nI n)), some (.int (nI i)), none]) (fun _ => []) (fun i hi0 ih => ?_) (fun J => J 0 (Nat.zero_le _))
    refine g_iload_n (n := 34) C dL_isPruned_33 rfl rfl ?_
    refine g_iload_n (n := 35) C dL_isPruned_34 rfl rfl ?_
    refine g_icmp_ge (n := 38) (tgt := 72) C dL_isPruned_35 (by decide) rfl (fun h35 => ?_) (fun h35 => ?_)
    · have e9 : n = i := by have := gn_ge h35 (by omega) (by omega); omega
      subst e9
      refine g_aload_n (n := 73) C dL_isPruned_72 rfl (Or.inr ⟨_, rfl⟩) rfl ?_
      refine g_iconst (n := 74) (v := nI 4) C dL_isPruned_73 rfl rfl ?_
      refine g_iconst (n := 75) (v := nI 0) C dL_isPruned_74 rfl rfl ?_
      refine g_SH (n := 78) (rest := []) C (t_prune hE hl hN h hT.tag h17 (nI 0)) dL_isPruned_75 kH_builds kW_L_131 kT_builds rfl rfl (Nat.le_of_ble_eq_true rfl) ⟨by decide, by decide⟩ ⟨by first | omega | (simp only [gRm]; omega), by first | omega | (simp only [gRm]; omega)⟩ rfl (fun v9 L9 f9 hq => ?_)
      obtain ⟨rfl, h1⟩ := hq
      refine G.sk (st' := [_]) rfl ?_
      have hT1 := stp_tag hpar hT
      refine g_iload_n (n := 79) C dL_isPruned_78 rfl rfl ?_
      refine g_icmp_ne (n := 82) (tgt := 103) C dL_isPruned_79 (by decide) rfl (fun h79 => absurd rfl h79) (fun h79 => ?_)
      refine g_aload_n (n := 83) C dL_isPruned_82 rfl (Or.inr ⟨_, rfl⟩) rfl ?_
      refine g_V (n := 86) (rest := []) C (z_layers hE hl h1 (mc := 0) (ms := 0)) dL_isPruned_83 kM_X5_layers kL_L_111 kV_X5_layers h1.co.choose_spec rfl rfl rfl (Nat.le_of_ble_eq_true rfl) ⟨by decide, by decide⟩ ⟨by first | omega | (simp only [gRm]; omega), by first | omega | (simp only [gRm]; omega)⟩ rfl (fun v9 L9 f9 hq => ?_)
      obtain ⟨rfl, rfl, rfl⟩ := hq
      refine G.sk (st' := [_]) rfl ?_
      refine g_iload_n (n := 87) C dL_isPruned_86 rfl rfl ?_
      refine g_icmp_ne (n := 90) (tgt := 103) C dL_isPruned_87 (by decide) rfl (fun h87 => absurd rfl h87) (fun h87 => ?_)
      refine g_aload_n (n := 91) C dL_isPruned_90 rfl (Or.inr ⟨_, rfl⟩) rfl ?_
      refine g_iconst (n := 92) (v := nI 4) C dL_isPruned_91 rfl rfl ?_
      refine g_iconst (n := 93) (v := nI 0) C dL_isPruned_92 rfl rfl ?_
      refine g_SH (n := 96) (rest := []) C (t_prune hE hl hN h1 hT1.tag h17 (nI 0)) dL_isPruned_93 kH_builds kW_L_131 kT_builds rfl rfl (Nat.le_of_ble_eq_true rfl) ⟨by decide, by decide⟩ ⟨by first | omega | (simp only [gRm]; omega), by first | omega | (simp only [gRm]; omega)⟩ rfl (fun v9 L9 f9 hq => ?_)
      obtain ⟨rfl, h2⟩ := hq
      refine G.sk (st' := [_]) rfl ?_
      have hT2 := stp_tag hpar hT1
      have hlv2 : ∀ k, k < n → (stp (stp A (gKp PR TG) n) (gKp PR TG) n 8 k = 0 ↔ kep PR TG 5 k) := fun k hk => stp_live hk
      obtain ⟨-, -, hPR2, -⟩ := h2.nv
      have hi2 := (hi.ag hpar stp_ag).ag hpar (stp_ag (A := stp A (gKp PR TG) n) (g := gKp PR TG) (q := n))
      refine g_if_ne (n := 99) (tgt := 103) C dL_isPruned_96 (by decide) rfl (fun h96 => absurd (show nI (cntN (stp A (gKp PR TG) n) (gKp PR TG) n) = 0 by rw [cntN_0 (fun k hk z => (stp_live hk).mp z) n (Nat.le_refl _)]; rfl) h96) (fun h96 => ?_)
      refine g_iconst (n := 100) (v := nI 1) C dL_isPruned_99 rfl rfl ?_
      refine g_goto (tgt := 104) C dL_isPruned_100 (by decide) ?_
      refine g_istore_n (n := 105) (ls' := [_, _, _, _, _]) C dL_isPruned_104 rfl (by decide) rfl ?_
      refine g_iconst (n := 106) (v := nI 0) C dL_isPruned_105 rfl rfl ?_
      refine g_istore (n := 108) (ls' := [_, _, _, _, _]) C dL_isPruned_106 rfl (by decide) rfl ?_
      skip
      refine g_loop (α := Nat) (fun i => i ≤ n) (fun i => n - i) (fun _ => _) (fun _ => _) (fun i => 842 + 2 * i) (fun i => 5052 + 12 * i) 108 (fun i => [some (.ref co), some (.int (nI (cntN A (gKp PR TG) n))), some (.int (nI n)), some (.int (nI 1)), some (.int (nI i))]) (fun _ => []) (fun i hi0 ih2 => ?_) (fun J => G.mono (ce' := 842 + 2 * 0) (sl' := 5052 + 12 * 0) (by omega) (by omega) (J 0 (Nat.zero_le _)))
      refine g_iload (n := 110) C dL_isPruned_108 rfl rfl ?_
      refine g_iload_n (n := 111) C dL_isPruned_110 rfl rfl ?_
      refine g_icmp_ge (n := 114) (tgt := 157) C dL_isPruned_111 (by decide) rfl (fun h111 => ?_) (fun h111 => ?_)
      · have e9 : n = i := by have := gn_ge h111 (by omega) (by omega); omega
        subst e9
        refine g_iload_n (n := 158) C dL_isPruned_157 rfl rfl ?_
        refine g_zret C hr rfl dL_isPruned_158 ?_ ⟨by first | omega | (simp only [gRm]; omega), by first | omega | (simp only [gRm]; omega)⟩
        exact ⟨rfl, n, PR, PL, S, _, I, h2, hi2, fun j hj => by rw [stp_k (by decide) (by decide), stp_k (by decide) (by decide)]⟩
      · have hi9 : i < n := gn_gt h111 (by omega) (by omega)
        refine g_iload_n (n := 115) C dL_isPruned_114 rfl rfl ?_
        refine g_if_eq (n := 118) (tgt := 157) C dL_isPruned_115 (by decide) rfl (fun h115 => (by first | exact absurd h115 (by decide) | exact (h115 (by decide)).elim)) (fun h115 => ?_)
        refine g_aload_n (n := 119) C dL_isPruned_118 rfl (Or.inr ⟨_, rfl⟩) rfl ?_
        refine g_iconst (n := 120) (v := nI 0) C dL_isPruned_119 rfl rfl ?_
        refine g_iload (n := 122) C dL_isPruned_120 rfl rfl ?_
        refine g_iconst (n := 123) (v := nI 0) C dL_isPruned_122 rfl rfl ?_
        by_cases hk9 : kep PR TG 5 i
        · refine g_SH (n := 126) (rest := []) C (tz_parentOf hE hl hN h2 hi9 ((hlv2 i hi9).mpr hk9) (nI 0)) dL_isPruned_123 kH_tells kW_L_104 kT_tells rfl rfl (Nat.le_of_ble_eq_true rfl) ⟨by decide, by decide⟩ ⟨by first | omega | (simp only [gRm]; omega), by first | omega | (simp only [gRm]; omega)⟩ rfl (fun v9 L9 f9 hq => ?_)
          obtain ⟨rfl, rfl, rfl⟩ := hq
          refine G.sk (st' := [_]) rfl ?_
          refine g_bipush (n := 128) (v := -30) C dL_isPruned_126 rfl rfl ?_
          refine g_icmp_le (n := 131) (tgt := 135) C dL_isPruned_128 (by decide) rfl (fun h128 => absurd h128 (pI_30 (by have := (hPR2 i hi9).1; omega))) (fun h128 => ?_)
          refine g_iconst (n := 132) (v := nI 1) C dL_isPruned_131 rfl rfl ?_
          refine g_goto (tgt := 136) C dL_isPruned_132 (by decide) ?_
          refine g_aload_n (n := 137) C dL_isPruned_136 rfl (Or.inr ⟨_, rfl⟩) rfl ?_
          refine g_iload (n := 139) C dL_isPruned_137 rfl rfl ?_
          refine g_S (n := 142) (rest := [_]) C (l_isKept hE hl h2 hT2 hi9) dL_isPruned_139 kM_L_isKept kL_L_144 kS_L_isKept rfl rfl (Nat.le_of_ble_eq_true rfl) ⟨by decide, by decide⟩ ⟨by first | omega | (simp only [gRm]; omega), by first | omega | (simp only [gRm]; omega)⟩ rfl (fun v9 L9 f9 hq => ?_)
          obtain ⟨⟨w, rfl, hw⟩, rfl, rfl⟩ := hq
          refine G.sk (st' := [_, _]) rfl ?_
          refine g_icmp_ne (n := 145) (tgt := 149) C dL_isPruned_142 (by decide) rfl (fun h142 => absurd (by rw [hw.elim And.left (fun z => absurd hk9 z.2)]) h142) (fun h142 => ?_)
          refine g_iconst (n := 146) (v := nI 1) C dL_isPruned_145 rfl rfl ?_
          refine g_goto (tgt := 150) C dL_isPruned_146 (by decide) ?_
          refine g_istore_n (n := 151) (ls' := [_, _, _, _, _]) C dL_isPruned_150 rfl (by decide) rfl ?_
          refine g_iinc (n := 154) (ls' := [_, _, _, _, _]) C dL_isPruned_151 rfl (nI_1 _) rfl (by decide) rfl ?_
          refine g_goto (tgt := 108) C dL_isPruned_154 (by decide) ?_
          exact G.mono (ce' := 842 + 2 * (i + 1)) (sl' := 5052 + 12 * (i + 1)) (by omega) (by omega) (ih2 (i + 1) (by omega) (by omega))
        · refine g_SH (n := 126) (rest := []) C (tn_parentOf hE hl hN h2 (no_live8 hn9 hi9 (fun z => hk9 ((hlv2 i hi9).mp z))) (nI 0)) dL_isPruned_123 kH_tells kW_L_104 kT_tells rfl rfl (Nat.le_of_ble_eq_true rfl) ⟨by decide, by decide⟩ ⟨by first | omega | (simp only [gRm]; omega), by first | omega | (simp only [gRm]; omega)⟩ rfl (fun v9 L9 f9 hq => ?_)
          obtain ⟨rfl, rfl, rfl⟩ := hq
          refine G.sk (st' := [_]) rfl ?_
          refine g_bipush (n := 128) (v := -30) C dL_isPruned_126 rfl rfl ?_
          refine g_icmp_le (n := 131) (tgt := 135) C dL_isPruned_128 (by decide) rfl (fun h128 => ?_) (fun h128 => absurd (by decide) h128)
          refine g_iconst (n := 136) (v := nI 0) C dL_isPruned_135 rfl rfl ?_
          refine g_aload_n (n := 137) C dL_isPruned_136 rfl (Or.inr ⟨_, rfl⟩) rfl ?_
          refine g_iload (n := 139) C dL_isPruned_137 rfl rfl ?_
          refine g_S (n := 142) (rest := [_]) C (l_isKept hE hl h2 hT2 hi9) dL_isPruned_139 kM_L_isKept kL_L_144 kS_L_isKept rfl rfl (Nat.le_of_ble_eq_true rfl) ⟨by decide, by decide⟩ ⟨by first | omega | (simp only [gRm]; omega), by first | omega | (simp only [gRm]; omega)⟩ rfl (fun v9 L9 f9 hq => ?_)
          obtain ⟨⟨w, rfl, hw⟩, rfl, rfl⟩ := hq
          refine G.sk (st' := [_, _]) rfl ?_
          refine g_icmp_ne (n := 145) (tgt := 149) C dL_isPruned_142 (by decide) rfl (fun h142 => absurd (by rw [hw.elim (fun z => absurd z.2 hk9) And.left]) h142) (fun h142 => ?_)
          refine g_iconst (n := 146) (v := nI 1) C dL_isPruned_145 rfl rfl ?_
          refine g_goto (tgt := 150) C dL_isPruned_146 (by decide) ?_
          refine g_istore_n (n := 151) (ls' := [_, _, _, _, _]) C dL_isPruned_150 rfl (by decide) rfl ?_
          refine g_iinc (n := 154) (ls' := [_, _, _, _, _]) C dL_isPruned_151 rfl (nI_1 _) rfl (by decide) rfl ?_
          refine g_goto (tgt := 108) C dL_isPruned_154 (by decide) ?_
          exact G.mono (ce' := 842 + 2 * (i + 1)) (sl' := 5052 + 12 * (i + 1)) (by omega) (by omega) (ih2 (i + 1) (by omega) (by omega))
    · have hi9 : i < n := gn_gt h35 (by omega) (by omega)
      refine g_iload_n (n := 39) C dL_isPruned_38 rfl rfl ?_
      refine g_aload_n (n := 40) C dL_isPruned_39 rfl (Or.inr ⟨_, rfl⟩) rfl ?_
      refine g_iconst (n := 41) (v := nI 0) C dL_isPruned_40 rfl rfl ?_
      refine g_iload_n (n := 42) C dL_isPruned_41 rfl rfl ?_
      refine g_iconst (n := 43) (v := nI 0) C dL_isPruned_42 rfl rfl ?_
      by_cases h8 : A 8 i = 0
      · refine g_SH (n := 46) (rest := [_]) C (tz_parentOf hE hl hN h hi9 h8 (nI 0)) dL_isPruned_43 kH_tells kW_L_104 kT_tells rfl rfl (Nat.le_of_ble_eq_true rfl) ⟨by decide, by decide⟩ ⟨by first | omega | (simp only [gRm]; omega), by first | omega | (simp only [gRm]; omega)⟩ rfl (fun v9 L9 f9 hq => ?_)
        obtain ⟨rfl, rfl, rfl⟩ := hq
        refine G.sk (st' := [_, _]) rfl ?_
        refine g_bipush (n := 48) (v := -30) C dL_isPruned_46 rfl rfl ?_
        refine g_icmp_le (n := 51) (tgt := 63) C dL_isPruned_48 (by decide) rfl (fun h48 => absurd h48 (pI_30 (by have := hpar i hi9; omega))) (fun h48 => ?_)
        refine g_aload_n (n := 52) C dL_isPruned_51 rfl (Or.inr ⟨_, rfl⟩) rfl ?_
        refine g_iload_n (n := 53) C dL_isPruned_52 rfl rfl ?_
        refine g_S (n := 56) (rest := [_]) C (l_isKept hE hl h hT hi9) dL_isPruned_53 kM_L_isKept kL_L_144 kS_L_isKept rfl rfl (Nat.le_of_ble_eq_true rfl) ⟨by decide, by decide⟩ ⟨by first | omega | (simp only [gRm]; omega), by first | omega | (simp only [gRm]; omega)⟩ rfl (fun v9 L9 f9 hq => ?_)
        obtain ⟨⟨w, rfl, hw⟩, rfl, rfl⟩ := hq
        refine G.sk (st' := [_, _]) rfl ?_
        refine g_if_ne (n := 59) (tgt := 63) C dL_isPruned_56 (by decide) rfl (fun h56 => ?_) (fun h56 => ?_)
        · have hkp : kep PR TG 5 i := hw.elim And.right (fun z => absurd (by rw [z.1]; rfl) h56)
          refine g_iconst (n := 64) (v := nI 0) C dL_isPruned_63 rfl rfl ?_
          refine g_iaddN (n := 65) C dL_isPruned_64 rfl ?_
          refine g_istore_n (n := 66) (ls' := [_, _, _, _, _]) C dL_isPruned_65 rfl (by decide) rfl ?_
          refine g_iinc (n := 69) (ls' := [_, _, _, _, _]) C dL_isPruned_66 rfl (nI_1 _) rfl (by decide) rfl ?_
          refine g_goto (tgt := 33) C dL_isPruned_69 (by decide) ?_
          first
          | rw [show cntN A (gKp PR TG) i + 1 = cntN A (gKp PR TG) (i + 1) from cnt_ye ⟨gKp_0.mpr hkp, h8⟩]
          | rw [show cntN A (gKp PR TG) i + 0 = cntN A (gKp PR TG) (i + 1) from (cnt_no (fun z => gKp_0.mp z.1 hkp)).symm]
          | rw [show cntN A (gKp PR TG) i + 0 = cntN A (gKp PR TG) (i + 1) from (cnt_no (fun z => h8 z.2)).symm]
          exact G.wk (wk2.s (wk2.s (wk2.s (wk2.s (wk2.n wk2.z))))) (G.mono (ce' := 2 * (i + 1)) (sl' := 12 * (i + 1)) (by omega) (by omega) (ih (i + 1) (by omega) (by omega)))
        · have hkp : ¬ kep PR TG 5 i := hw.elim (fun z => absurd h56 (by rw [z.1]; decide)) And.right
          refine g_iconst (n := 60) (v := nI 1) C dL_isPruned_59 rfl rfl ?_
          refine g_goto (tgt := 64) C dL_isPruned_60 (by decide) ?_
          refine g_iaddN (n := 65) C dL_isPruned_64 rfl ?_
          refine g_istore_n (n := 66) (ls' := [_, _, _, _, _]) C dL_isPruned_65 rfl (by decide) rfl ?_
          refine g_iinc (n := 69) (ls' := [_, _, _, _, _]) C dL_isPruned_66 rfl (nI_1 _) rfl (by decide) rfl ?_
          refine g_goto (tgt := 33) C dL_isPruned_69 (by decide) ?_
          first
          | rw [show cntN A (gKp PR TG) i + 1 = cntN A (gKp PR TG) (i + 1) from cnt_ye ⟨gKp_0.mpr hkp, h8⟩]
          | rw [show cntN A (gKp PR TG) i + 0 = cntN A (gKp PR TG) (i + 1) from (cnt_no (fun z => gKp_0.mp z.1 hkp)).symm]
          | rw [show cntN A (gKp PR TG) i + 0 = cntN A (gKp PR TG) (i + 1) from (cnt_no (fun z => h8 z.2)).symm]
          exact G.wk (wk2.s (wk2.s (wk2.s (wk2.s (wk2.n wk2.z))))) (G.mono (ce' := 2 * (i + 1)) (sl' := 12 * (i + 1)) (by omega) (by omega) (ih (i + 1) (by omega) (by omega)))
      · refine g_SH (n := 46) (rest := [_]) C (tn_parentOf hE hl hN h (no_live8 hn9 hi9 h8) (nI 0)) dL_isPruned_43 kH_tells kW_L_104 kT_tells rfl rfl (Nat.le_of_ble_eq_true rfl) ⟨by decide, by decide⟩ ⟨by first | omega | (simp only [gRm]; omega), by first | omega | (simp only [gRm]; omega)⟩ rfl (fun v9 L9 f9 hq => ?_)
        obtain ⟨rfl, rfl, rfl⟩ := hq
        refine G.sk (st' := [_, _]) rfl ?_
        refine g_bipush (n := 48) (v := -30) C dL_isPruned_46 rfl rfl ?_
        refine g_icmp_le (n := 51) (tgt := 63) C dL_isPruned_48 (by decide) rfl (fun h48 => ?_) (fun h48 => absurd (by decide) h48)
        refine g_iconst (n := 64) (v := nI 0) C dL_isPruned_63 rfl rfl ?_
        refine g_iaddN (n := 65) C dL_isPruned_64 rfl ?_
        refine g_istore_n (n := 66) (ls' := [_, _, _, _, _]) C dL_isPruned_65 rfl (by decide) rfl ?_
        refine g_iinc (n := 69) (ls' := [_, _, _, _, _]) C dL_isPruned_66 rfl (nI_1 _) rfl (by decide) rfl ?_
        refine g_goto (tgt := 33) C dL_isPruned_69 (by decide) ?_
        first
        | rw [show cntN A (gKp PR TG) i + 1 = cntN A (gKp PR TG) (i + 1) from cnt_ye ⟨gKp_0.mpr hkp, h8⟩]
        | rw [show cntN A (gKp PR TG) i + 0 = cntN A (gKp PR TG) (i + 1) from (cnt_no (fun z => gKp_0.mp z.1 hkp)).symm]
        | rw [show cntN A (gKp PR TG) i + 0 = cntN A (gKp PR TG) (i + 1) from (cnt_no (fun z => h8 z.2)).symm]
        exact G.wk (wk2.s (wk2.s (wk2.s (wk2.s (wk2.n wk2.z))))) (G.mono (ce' := 2 * (i + 1)) (sl' := 12 * (i + 1)) (by omega) (by omega) (ih (i + 1) (by omega) (by omega)))
  · have h17 : ¬ I 17 = 0 := by
      rcases h.bu.sl with ⟨-, e⟩ | ⟨t, c, k, ⟨z, -⟩, e⟩
      · rw [e] at h4; exact absurd (by decide) h4
      · rw [z]; decide
    refine g_aload_n (n := 8) C dL_isPruned_7 rfl (Or.inr ⟨_, rfl⟩) rfl ?_
    refine g_iconst (n := 9) (v := nI 4) C dL_isPruned_8 rfl rfl ?_
    refine g_iconst (n := 10) (v := nI 0) C dL_isPruned_9 rfl rfl ?_
    refine g_SH (n := 13) (rest := []) C (tn_prune hE hl hN h hT.tag h17 (nI 0)) dL_isPruned_10 kH_builds kW_L_131 kT_builds rfl rfl (Nat.le_of_ble_eq_true rfl) ⟨by decide, by decide⟩ ⟨by first | omega | (simp only [gRm]; omega), by first | omega | (simp only [gRm]; omega)⟩ rfl (fun v9 L9 f9 hq => ?_)
    obtain ⟨rfl, rfl, rfl⟩ := hq
    refine G.sk (st' := [_]) rfl ?_
    refine g_bipush (n := 15) (v := -10) C dL_isPruned_13 rfl rfl ?_
    refine g_icmp_ne (n := 18) (tgt := 22) C dL_isPruned_15 (by decide) rfl (fun h15 => (by first | exact absurd h15 (by decide) | exact (h15 (by decide)).elim)) (fun h15 => ?_)
    refine g_iconst (n := 19) (v := nI 1) C dL_isPruned_18 rfl rfl ?_
    refine g_goto (tgt := 23) C dL_isPruned_19 (by decide) ?_
    refine g_zret C hr rfl dL_isPruned_23 ?_ ⟨by first | omega | (simp only [gRm]; omega), by first | omega | (simp only [gRm]; omega)⟩
    exact ⟨rfl, n, PR, PL, S, A, I, h, hi, fun _ _ => rfl⟩

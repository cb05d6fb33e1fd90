/-! ===== the law, XI: a build, and the same once more ===== -/
theorem dgF_nn {g : Nat → Int32} (h : ∀ q, q < 12 → cOK (g q)) : ∀ i, i ≤ 12 → ∃ d, d < 1000003 ∧ dgF g i = nI d
  | 0, _ => ⟨1, by decide, rfl⟩
  | i + 1, hi => by
    obtain ⟨d, hd, e⟩ := dgF_nn h i (by omega)
    by_cases e1 : g i = -1
    · exact ⟨d, hd, (dgF_1 e1).symm.trans e⟩
    · obtain ⟨x, hx, ex⟩ := (h i (by omega)).resolve_left e1
      refine ⟨(31 * d + 101 * i + x) % 1000003, Nat.mod_lt _ (by decide), ?_⟩
      show (if g i = -1 then dgF g i else (nI 31 * dgF g i + nI 101 * nI i + g i) - (nI 31 * dgF g i + nI 101 * nI i + g i) / 1000003 * 1000003) = _
      rw [if_neg e1, e, ex, gn_mul, gn_mul, nI_add, nI_add, show (1000003 : Int32) = nI 1000003 from rfl, gn_mod (by omega) (by decide)]
theorem sl_0 {I : Nat → Int32} (h : I 17 = nI 0) : slV I = nI 0 := by
  unfold slV
  rw [if_neg (fun z => z h)]
  rfl
theorem sl_m {I : Nat → Int32} {t m : Nat} (h17 : I 17 = nI (if t = m then 0 else 1)) (h19 : I 19 = nI m) (h20 : I 20 = nI t) (ht : t ≤ m) : slV I = nI (m - t) := by
  unfold slV
  by_cases e : t = m
  · rw [h17, if_pos e, if_neg (fun z => z rfl), e, Nat.sub_self]
    rfl
  · rw [h17, if_neg e, if_pos (by decide), h19, h20, gn_sub ht]
theorem res_0 {A : Nat → Nat → Int32} {I : Nat → Int32} (h : I 18 = nI 0) : resV A I = -1 := by
  unfold resV
  rw [if_neg (fun z => z.1 h)]
theorem res_1 {A : Nat → Nat → Int32} {I : Nat → Int32} {k : Nat} (h : I 18 = nI 1) (h24 : I 24 = nI k) (hk : k < 2 ^ 31) (h8 : A 8 k = 0) : resV A I = nI k := by
  unfold resV
  rw [h24, nI_clamp hk, if_pos ⟨by rw [h]; decide, h8⟩]
theorem add_sub9 {a b c d : Int32} (h : a + b = c + d) {x : Int32} (e : a + b = c + d) : a + b - (c + d) = 0 := by rw [e]; exact Int32.sub_self _
theorem sub_e {a b x : Int32} (h : a = b + x) : a - b = x := by
  rw [h, Int32.add_comm]
  exact Int32.add_sub_cancel _ _
/-- a build that goes on once more, at its step t -/
def stI (I1 : Nat → Int32) (K : Nat → Nat) (m : Nat) (I2 : Nat → Int32) (t : Nat) : Prop := I2 17 = nI (if t = m then 0 else 1) ∧ I2 18 = nI (if t = m then 1 else 0) ∧ I2 19 = nI m ∧ I2 20 = nI t ∧ I2 24 = nI (K t) ∧ I2 26 = I1 26
theorem l_isBuilt {l : Launch} {s0 : State} {D : va_G} {cy : Nat → ClassId} (hE : gE s0 D cy) (hl : l.stackTraces = false) {L : List Nat} {f : gF} (hN : gN9 s0) {co n : Nat} {PR PL : Nat → Nat} {S A : Nat → Nat → Int32} {I : Nat → Int32} (h : CX cy co n PR PL S A I L f) (hi : INV A n PR S) {i : Nat} (hi4 : i < 4) : gM l s0 D yL_isBuilt cL_isBuilt 14 (some .boolean) 11 130 1100 [.ref co, .int (nI i)] L f (fun v L1 f1 => v = some (.int 1) ∧ LWo cy co (A 3) L1 f1) := by
  refine gM.of (own := RL) hE hl (by decide +kernel) rfl rfl (Nat.le_of_ble_eq_true rfl) (fun p9 e9 s9 m9 a99 b99 t99 c9 C hr hnm => ?_)
  refine G.weak (ls' := [some (.ref co), some (.int (nI i)), none, none, none, none, none, none, none, none, none, none, none, none]) ?_ rfl (fun _ _ h => h)
  obtain ⟨i7, hn9, hPR, hsh, hpl, hpb, hlv⟩ := h.nv
  obtain ⟨TG, hT⟩ := h.tgs
  rcases h.bu.sl with ⟨h17, -⟩ | ⟨t, c, k, ⟨h17, -, -, -, htc, hc10, -⟩, esl⟩
  · by_cases hn4 : n < 400
    · obtain ⟨m, b9, hm10, hb3, h3, h2, hv⟩ := h.rec9 i hi4
      obtain ⟨b, A1, I1, n1, PR1, PL1, S1, K, e, hbd, ⟨q1, q2, q3, q4, q5, q6, q7, q8, q9, q10, q11, q12, q13, q14, q15⟩, w1, c0, u0, c1, u1, hc0, hu0, hcr, hcl⟩ := bld_ex (I := I) (h.wf hi) hn4 h17 hi4 h2 hb3 h3 hm10 hv
      have hn1 : n1 ≤ 420 := q1.1
      have e3i : A1 3 i = nI m := (q4 3 i (Or.inl (by decide))).trans h3
      have e2i : A1 2 i = nI b9 := (q4 2 i (Or.inl (by decide))).trans h2
      rcases q15 with ⟨z1, rfl, e18⟩ | ⟨rfl, rfl, e18, e24⟩
      · have hw0 : w1 = 0 := hcl.elim And.right (fun z => absurd z.1 (by omega))
        refine g_aload_n (n := 1) C dL_isBuilt_0 rfl (Or.inr ⟨_, rfl⟩) rfl ?_
        refine g_V (n := 4) (rest := []) C (z_stepsLeft hE hl h (mc := 0) (ms := 0)) dL_isBuilt_1 kM_X5_stepsLeft kL_L_117 kV_X5_stepsLeft h.co.choose_spec rfl rfl rfl (Nat.le_of_ble_eq_true rfl) ⟨by decide, by decide⟩ ⟨by first | omega | (simp only [gRm]; omega), by first | omega | (simp only [gRm]; omega)⟩ rfl (fun v9 L9 f9 hq => ?_)
        obtain ⟨rfl, rfl, rfl⟩ := hq
        refine G.sk (st' := [_]) rfl ?_
        rw [sl_0 h17]
        refine g_if_gt (n := 7) (tgt := 17) C dL_isBuilt_4 (by decide) rfl (fun h4 => absurd h4 (by decide)) (fun h4 => ?_)
        refine g_aload_n (n := 8) C dL_isBuilt_7 rfl (Or.inr ⟨_, rfl⟩) rfl ?_
        refine g_V (n := 11) (rest := []) C (z_layers hE hl h (mc := 0) (ms := 0)) dL_isBuilt_8 kM_X5_layers kL_L_111 kV_X5_layers h.co.choose_spec rfl rfl rfl (Nat.le_of_ble_eq_true rfl) ⟨by decide, by decide⟩ ⟨by first | omega | (simp only [gRm]; omega), by first | omega | (simp only [gRm]; omega)⟩ rfl (fun v9 L9 f9 hq => ?_)
        obtain ⟨rfl, rfl, rfl⟩ := hq
        refine G.sk (st' := [_]) rfl ?_
        refine g_sipush (n := 14) (v := nI 399) C dL_isBuilt_11 rfl rfl ?_
        refine g_icmp_le (n := 17) (tgt := 63) C dL_isBuilt_14 (by decide) rfl (fun h14 => ?_) (fun h14 => absurd ((nI_leI (by omega) (by decide)).mpr (by omega)) h14)
        refine g_aload_n (n := 64) C dL_isBuilt_63 rfl (Or.inr ⟨_, rfl⟩) rfl ?_
        refine g_V (n := 67) (rest := []) C (z_hits hE hl h (mc := 0) (ms := 0)) dL_isBuilt_64 kM_X5_hits kL_L_135 kV_X5_hits h.co.choose_spec rfl rfl rfl (Nat.le_of_ble_eq_true rfl) ⟨by decide, by decide⟩ ⟨by first | omega | (simp only [gRm]; omega), by first | omega | (simp only [gRm]; omega)⟩ rfl (fun v9 L9 f9 hq => ?_)
        obtain ⟨rfl, rfl, rfl⟩ := hq
        refine G.sk (st' := [_]) rfl ?_
        refine g_aload_n (n := 68) C dL_isBuilt_67 rfl (Or.inr ⟨_, rfl⟩) rfl ?_
        refine g_V (n := 71) (rest := [_]) C (z_misses hE hl h (mc := 0) (ms := 0)) dL_isBuilt_68 kM_X5_misses kL_L_138 kV_X5_misses h.co.choose_spec rfl rfl rfl (Nat.le_of_ble_eq_true rfl) ⟨by decide, by decide⟩ ⟨by first | omega | (simp only [gRm]; omega), by first | omega | (simp only [gRm]; omega)⟩ rfl (fun v9 L9 f9 hq => ?_)
        obtain ⟨rfl, rfl, rfl⟩ := hq
        refine G.sk (st' := [_, _]) rfl ?_
        refine g_iadd (n := 72) C dL_isBuilt_71 rfl ?_
        refine g_istore_n (n := 73) (ls' := [_, _, _, _, _, _, _, _, _, _, _, _, _, _]) C dL_isBuilt_72 rfl (by decide) rfl ?_
        refine g_aload_n (n := 74) C dL_isBuilt_73 rfl (Or.inr ⟨_, rfl⟩) rfl ?_
        refine g_V (n := 77) (rest := []) C (z_layers hE hl h (mc := 0) (ms := 0)) dL_isBuilt_74 kM_X5_layers kL_L_111 kV_X5_layers h.co.choose_spec rfl rfl rfl (Nat.le_of_ble_eq_true rfl) ⟨by decide, by decide⟩ ⟨by first | omega | (simp only [gRm]; omega), by first | omega | (simp only [gRm]; omega)⟩ rfl (fun v9 L9 f9 hq => ?_)
        obtain ⟨rfl, rfl, rfl⟩ := hq
        refine G.sk (st' := [_]) rfl ?_
        refine g_istore_n (n := 78) (ls' := [_, _, _, _, _, _, _, _, _, _, _, _, _, _]) C dL_isBuilt_77 rfl (by decide) rfl ?_
        refine g_aload_n (n := 79) C dL_isBuilt_78 rfl (Or.inr ⟨_, rfl⟩) rfl ?_
        refine g_iconst (n := 80) (v := nI 3) C dL_isBuilt_79 rfl rfl ?_
        refine g_iload_n (n := 81) C dL_isBuilt_80 rfl rfl ?_
        refine g_SH (n := 84) (rest := []) C (t_cleanDigest hE hl hN h hi4 h2 hb3 h3 hm10 hc0 hu0 hcr (Or.inl hw0)) dL_isBuilt_81 kH_builds kW_L_131 kT_builds rfl rfl (Nat.le_of_ble_eq_true rfl) ⟨by decide, by decide⟩ ⟨by first | omega | (simp only [gRm]; omega), by first | omega | (simp only [gRm]; omega)⟩ rfl (fun v9 L9 f9 hq => ?_)
        obtain ⟨rfl, hA⟩ := hq
        refine G.sk (st' := [_]) rfl ?_
        refine G.top (y := -1) (by rw [hw0]; rfl) ?_
        refine g_istore (n := 86) (ls' := [_, _, _, _, _, _, _, _, _, _, _, _, _, _]) C dL_isBuilt_84 rfl (by decide) rfl ?_
        refine g_aload_n (n := 87) C dL_isBuilt_86 rfl (Or.inr ⟨_, rfl⟩) rfl ?_
        refine g_iconst (n := 88) (v := nI 2) C dL_isBuilt_87 rfl rfl ?_
        refine g_iload_n (n := 89) C dL_isBuilt_88 rfl rfl ?_
        refine g_SH (n := 92) (rest := []) C (t_build hE hl hN hA hbd q6 q7 q1) dL_isBuilt_89 kH_builds kW_L_131 kT_builds rfl rfl (Nat.le_of_ble_eq_true rfl) ⟨by decide, by decide⟩ ⟨by first | omega | (simp only [gRm]; omega), by first | omega | (simp only [gRm]; omega)⟩ rfl (fun v9 L9 f9 hq => ?_)
        obtain ⟨rfl, h1⟩ := hq
        refine G.sk (st' := [_]) rfl ?_
        refine g_istore (n := 94) (ls' := [_, _, _, _, _, _, _, _, _, _, _, _, _, _]) C dL_isBuilt_92 rfl (by decide) rfl ?_
        refine g_aload_n (n := 95) C dL_isBuilt_94 rfl (Or.inr ⟨_, rfl⟩) rfl ?_
        refine g_iconst (n := 96) (v := nI 4) C dL_isBuilt_95 rfl rfl ?_
        refine g_iload_n (n := 97) C dL_isBuilt_96 rfl rfl ?_
        refine g_iconst (n := 98) (v := nI 0) C dL_isBuilt_97 rfl rfl ?_
        refine g_iconst (n := 99) (v := nI 0) C dL_isBuilt_98 rfl rfl ?_
        refine g_SH (n := 102) (rest := []) C (tz_instructions hE hl hN h1 hi4 (nI 0) (nI 0)) dL_isBuilt_99 kH_sets kW_L_124 kT_sets rfl rfl (Nat.le_of_ble_eq_true rfl) ⟨by decide, by decide⟩ ⟨by first | omega | (simp only [gRm]; omega), by first | omega | (simp only [gRm]; omega)⟩ rfl (fun v9 L9 f9 hq => ?_)
        obtain ⟨rfl, rfl, rfl⟩ := hq
        refine G.sk (st' := [_]) rfl ?_
        rw [e3i]
        refine g_istore (n := 104) (ls' := [_, _, _, _, _, _, _, _, _, _, _, _, _, _]) C dL_isBuilt_102 rfl (by decide) rfl ?_
        refine g_aload_n (n := 105) C dL_isBuilt_104 rfl (Or.inr ⟨_, rfl⟩) rfl ?_
        refine g_V (n := 108) (rest := []) C (z_hits hE hl h1 (mc := 0) (ms := 0) ) dL_isBuilt_105 kM_X5_hits kL_L_135 kV_X5_hits h1.co.choose_spec rfl rfl rfl (Nat.le_of_ble_eq_true rfl) ⟨by decide, by decide⟩ ⟨by first | omega | (simp only [gRm]; omega), by first | omega | (simp only [gRm]; omega)⟩ rfl (fun v9 L9 f9 hq => ?_)
        obtain ⟨rfl, rfl, rfl⟩ := hq
        refine G.sk (st' := [_]) rfl ?_
        refine g_aload_n (n := 109) C dL_isBuilt_108 rfl (Or.inr ⟨_, rfl⟩) rfl ?_
        refine g_V (n := 112) (rest := [_]) C (z_misses hE hl h1 (mc := 0) (ms := 0) ) dL_isBuilt_109 kM_X5_misses kL_L_138 kV_X5_misses h1.co.choose_spec rfl rfl rfl (Nat.le_of_ble_eq_true rfl) ⟨by decide, by decide⟩ ⟨by first | omega | (simp only [gRm]; omega), by first | omega | (simp only [gRm]; omega)⟩ rfl (fun v9 L9 f9 hq => ?_)
        obtain ⟨rfl, rfl, rfl⟩ := hq
        refine G.sk (st' := [_, _]) rfl ?_
        refine g_iadd (n := 113) C dL_isBuilt_112 rfl ?_
        refine g_iload_n (n := 114) C dL_isBuilt_113 rfl rfl ?_
        refine g_isub (n := 115) C dL_isBuilt_114 rfl ?_
        rw [sub_e q9]
        refine g_istore (n := 117) (ls' := [_, _, _, _, _, _, _, _, _, _, _, _, _, _]) C dL_isBuilt_115 rfl (by decide) rfl ?_
        refine g_iload (n := 119) C dL_isBuilt_117 rfl rfl ?_
        refine g_iconst (n := 120) (v := -1) C dL_isBuilt_119 rfl rfl ?_
        refine g_icmp_ne (n := 123) (tgt := 168) C dL_isBuilt_120 (by decide) rfl (fun h120 => (by first | exact absurd h120 (by decide) | exact (h120 (by decide)).elim)) (fun h120 => ?_)
        refine g_iload (n := 125) C dL_isBuilt_123 rfl rfl ?_
        refine g_iconst (n := 126) (v := -1) C dL_isBuilt_125 rfl rfl ?_
        refine g_icmp_ne (n := 129) (tgt := 166) C dL_isBuilt_126 (by decide) rfl (fun h126 => (by first | exact absurd h126 (by decide) | exact (h126 (by decide)).elim)) (fun h126 => ?_)
        refine g_aload_n (n := 130) C dL_isBuilt_129 rfl (Or.inr ⟨_, rfl⟩) rfl ?_
        refine g_V (n := 133) (rest := []) C (z_built hE hl h1 (mc := 0) (ms := 0) ) dL_isBuilt_130 kM_X5_built kL_L_114 kV_X5_built h1.co.choose_spec rfl rfl rfl (Nat.le_of_ble_eq_true rfl) ⟨by decide, by decide⟩ ⟨by first | omega | (simp only [gRm]; omega), by first | omega | (simp only [gRm]; omega)⟩ rfl (fun v9 L9 f9 hq => ?_)
        obtain ⟨rfl, rfl, rfl⟩ := hq
        refine G.sk (st' := [_]) rfl ?_
        rw [res_0 e18]
        refine g_iconst (n := 134) (v := -1) C dL_isBuilt_133 rfl rfl ?_
        refine g_icmp_ne (n := 137) (tgt := 166) C dL_isBuilt_134 (by decide) rfl (fun h134 => (by first | exact absurd h134 (by decide) | exact (h134 (by decide)).elim)) (fun h134 => ?_)
        refine g_iload (n := 139) C dL_isBuilt_137 rfl rfl ?_
        refine g_iload (n := 141) C dL_isBuilt_139 rfl rfl ?_
        refine g_icmp_ge (n := 144) (tgt := 166) C dL_isBuilt_141 (by decide) rfl (fun h141 => absurd h141 (fun y => by have := gn_ge y (by omega) (by omega); omega)) (fun h141 => ?_)
        refine g_aload_n (n := 145) C dL_isBuilt_144 rfl (Or.inr ⟨_, rfl⟩) rfl ?_
        refine g_V (n := 148) (rest := []) C (z_stepsLeft hE hl h1 (mc := 0) (ms := 0) ) dL_isBuilt_145 kM_X5_stepsLeft kL_L_117 kV_X5_stepsLeft h1.co.choose_spec rfl rfl rfl (Nat.le_of_ble_eq_true rfl) ⟨by decide, by decide⟩ ⟨by first | omega | (simp only [gRm]; omega), by first | omega | (simp only [gRm]; omega)⟩ rfl (fun v9 L9 f9 hq => ?_)
        obtain ⟨rfl, rfl, rfl⟩ := hq
        refine G.sk (st' := [_]) rfl ?_
        rw [sl_0 q8]
        refine g_if_ne (n := 151) (tgt := 166) C dL_isBuilt_148 (by decide) rfl (fun h148 => (by first | exact absurd h148 (by decide) | exact (h148 (by decide)).elim)) (fun h148 => ?_)
        refine g_aload_n (n := 152) C dL_isBuilt_151 rfl (Or.inr ⟨_, rfl⟩) rfl ?_
        refine g_iconst (n := 153) (v := nI 1) C dL_isBuilt_152 rfl rfl ?_
        refine g_iconst (n := 154) (v := nI 0) C dL_isBuilt_153 rfl rfl ?_
        refine g_SH (n := 157) (rest := []) C (tn_step hE hl hN h1 q8 (nI 0)) dL_isBuilt_154 kH_builds kW_L_131 kT_builds rfl rfl (Nat.le_of_ble_eq_true rfl) ⟨by decide, by decide⟩ ⟨by first | omega | (simp only [gRm]; omega), by first | omega | (simp only [gRm]; omega)⟩ rfl (fun v9 L9 f9 hq => ?_)
        obtain ⟨rfl, rfl, rfl⟩ := hq
        refine G.sk (st' := [_]) rfl ?_
        refine g_bipush (n := 159) (v := -10) C dL_isBuilt_157 rfl rfl ?_
        refine g_icmp_ne (n := 162) (tgt := 166) C dL_isBuilt_159 (by decide) rfl (fun h159 => (by first | exact absurd h159 (by decide) | exact (h159 (by decide)).elim)) (fun h159 => ?_)
        refine g_iconst (n := 163) (v := nI 1) C dL_isBuilt_162 rfl rfl ?_
        refine g_goto (tgt := 167) C dL_isBuilt_163 (by decide) ?_
        refine g_zret C hr rfl dL_isBuilt_167 ?_ ⟨by first | omega | (simp only [gRm]; omega), by first | omega | (simp only [gRm]; omega)⟩
        exact ⟨rfl, n1, PR1, PL1, S1, A1, _, h1, q1.2.2.2.2.2.2, fun j _ => q4 3 j (Or.inl (by decide))⟩
      · obtain ⟨hw0, hcs⟩ : w1 = 1 ∧ ∀ p, p < 12 → c1 p = S1 (K e) p := hcl.elim (fun z => absurd z.1 (by omega)) And.right
        obtain ⟨hKm, hK8⟩ := q13.1 e (Nat.zero_le _) (Nat.le_refl _)
        obtain ⟨hK0, hK08⟩ := q13.1 0 (Nat.le_refl _) (Nat.zero_le _)
        have hdn : ¬ dgF c1 12 = -1 := by
          obtain ⟨d, hd, ed⟩ := dgF_nn (g := c1) (fun q hq => by rw [hcs q hq]; exact q1.2.2.2.2.2.1.2.2.1 _ q hKm hq) 12 (Nat.le_refl _)
          rw [ed]
          exact gn_ne1 (by omega)
        generalize e = m at *
        by_cases hn14 : n1 < 400
        · refine g_aload_n (n := 1) C dL_isBuilt_0 rfl (Or.inr ⟨_, rfl⟩) rfl ?_
          refine g_V (n := 4) (rest := []) C (z_stepsLeft hE hl h (mc := 0) (ms := 0)) dL_isBuilt_1 kM_X5_stepsLeft kL_L_117 kV_X5_stepsLeft h.co.choose_spec rfl rfl rfl (Nat.le_of_ble_eq_true rfl) ⟨by decide, by decide⟩ ⟨by first | omega | (simp only [gRm]; omega), by first | omega | (simp only [gRm]; omega)⟩ rfl (fun v9 L9 f9 hq => ?_)
          obtain ⟨rfl, rfl, rfl⟩ := hq
          refine G.sk (st' := [_]) rfl ?_
          rw [sl_0 h17]
          refine g_if_gt (n := 7) (tgt := 17) C dL_isBuilt_4 (by decide) rfl (fun h4 => absurd h4 (by decide)) (fun h4 => ?_)
          refine g_aload_n (n := 8) C dL_isBuilt_7 rfl (Or.inr ⟨_, rfl⟩) rfl ?_
          refine g_V (n := 11) (rest := []) C (z_layers hE hl h (mc := 0) (ms := 0)) dL_isBuilt_8 kM_X5_layers kL_L_111 kV_X5_layers h.co.choose_spec rfl rfl rfl (Nat.le_of_ble_eq_true rfl) ⟨by decide, by decide⟩ ⟨by first | omega | (simp only [gRm]; omega), by first | omega | (simp only [gRm]; omega)⟩ rfl (fun v9 L9 f9 hq => ?_)
          obtain ⟨rfl, rfl, rfl⟩ := hq
          refine G.sk (st' := [_]) rfl ?_
          refine g_sipush (n := 14) (v := nI 399) C dL_isBuilt_11 rfl rfl ?_
          refine g_icmp_le (n := 17) (tgt := 63) C dL_isBuilt_14 (by decide) rfl (fun h14 => ?_) (fun h14 => absurd ((nI_leI (by omega) (by decide)).mpr (by omega)) h14)
          refine g_aload_n (n := 64) C dL_isBuilt_63 rfl (Or.inr ⟨_, rfl⟩) rfl ?_
          refine g_V (n := 67) (rest := []) C (z_hits hE hl h (mc := 0) (ms := 0)) dL_isBuilt_64 kM_X5_hits kL_L_135 kV_X5_hits h.co.choose_spec rfl rfl rfl (Nat.le_of_ble_eq_true rfl) ⟨by decide, by decide⟩ ⟨by first | omega | (simp only [gRm]; omega), by first | omega | (simp only [gRm]; omega)⟩ rfl (fun v9 L9 f9 hq => ?_)
          obtain ⟨rfl, rfl, rfl⟩ := hq
          refine G.sk (st' := [_]) rfl ?_
          refine g_aload_n (n := 68) C dL_isBuilt_67 rfl (Or.inr ⟨_, rfl⟩) rfl ?_
          refine g_V (n := 71) (rest := [_]) C (z_misses hE hl h (mc := 0) (ms := 0)) dL_isBuilt_68 kM_X5_misses kL_L_138 kV_X5_misses h.co.choose_spec rfl rfl rfl (Nat.le_of_ble_eq_true rfl) ⟨by decide, by decide⟩ ⟨by first | omega | (simp only [gRm]; omega), by first | omega | (simp only [gRm]; omega)⟩ rfl (fun v9 L9 f9 hq => ?_)
          obtain ⟨rfl, rfl, rfl⟩ := hq
          refine G.sk (st' := [_, _]) rfl ?_
          refine g_iadd (n := 72) C dL_isBuilt_71 rfl ?_
          refine g_istore_n (n := 73) (ls' := [_, _, _, _, _, _, _, _, _, _, _, _, _, _]) C dL_isBuilt_72 rfl (by decide) rfl ?_
          refine g_aload_n (n := 74) C dL_isBuilt_73 rfl (Or.inr ⟨_, rfl⟩) rfl ?_
          refine g_V (n := 77) (rest := []) C (z_layers hE hl h (mc := 0) (ms := 0)) dL_isBuilt_74 kM_X5_layers kL_L_111 kV_X5_layers h.co.choose_spec rfl rfl rfl (Nat.le_of_ble_eq_true rfl) ⟨by decide, by decide⟩ ⟨by first | omega | (simp only [gRm]; omega), by first | omega | (simp only [gRm]; omega)⟩ rfl (fun v9 L9 f9 hq => ?_)
          obtain ⟨rfl, rfl, rfl⟩ := hq
          refine G.sk (st' := [_]) rfl ?_
          refine g_istore_n (n := 78) (ls' := [_, _, _, _, _, _, _, _, _, _, _, _, _, _]) C dL_isBuilt_77 rfl (by decide) rfl ?_
          refine g_aload_n (n := 79) C dL_isBuilt_78 rfl (Or.inr ⟨_, rfl⟩) rfl ?_
          refine g_iconst (n := 80) (v := nI 3) C dL_isBuilt_79 rfl rfl ?_
          refine g_iload_n (n := 81) C dL_isBuilt_80 rfl rfl ?_
          refine g_SH (n := 84) (rest := []) C (t_cleanDigest hE hl hN h hi4 h2 hb3 h3 hm10 hc0 hu0 hcr (Or.inr hw0)) dL_isBuilt_81 kH_builds kW_L_131 kT_builds rfl rfl (Nat.le_of_ble_eq_true rfl) ⟨by decide, by decide⟩ ⟨by first | omega | (simp only [gRm]; omega), by first | omega | (simp only [gRm]; omega)⟩ rfl (fun v9 L9 f9 hq => ?_)
          obtain ⟨rfl, hA⟩ := hq
          refine G.sk (st' := [_]) rfl ?_
          refine G.top (y := dgF c1 12) (by rw [hw0]; rfl) ?_
          refine g_istore (n := 86) (ls' := [_, _, _, _, _, _, _, _, _, _, _, _, _, _]) C dL_isBuilt_84 rfl (by decide) rfl ?_
          refine g_aload_n (n := 87) C dL_isBuilt_86 rfl (Or.inr ⟨_, rfl⟩) rfl ?_
          refine g_iconst (n := 88) (v := nI 2) C dL_isBuilt_87 rfl rfl ?_
          refine g_iload_n (n := 89) C dL_isBuilt_88 rfl rfl ?_
          refine g_SH (n := 92) (rest := []) C (t_build hE hl hN hA hbd q6 q7 q1) dL_isBuilt_89 kH_builds kW_L_131 kT_builds rfl rfl (Nat.le_of_ble_eq_true rfl) ⟨by decide, by decide⟩ ⟨by first | omega | (simp only [gRm]; omega), by first | omega | (simp only [gRm]; omega)⟩ rfl (fun v9 L9 f9 hq => ?_)
          obtain ⟨rfl, h1⟩ := hq
          refine G.sk (st' := [_]) rfl ?_
          refine g_istore (n := 94) (ls' := [_, _, _, _, _, _, _, _, _, _, _, _, _, _]) C dL_isBuilt_92 rfl (by decide) rfl ?_
          refine g_aload_n (n := 95) C dL_isBuilt_94 rfl (Or.inr ⟨_, rfl⟩) rfl ?_
          refine g_iconst (n := 96) (v := nI 4) C dL_isBuilt_95 rfl rfl ?_
          refine g_iload_n (n := 97) C dL_isBuilt_96 rfl rfl ?_
          refine g_iconst (n := 98) (v := nI 0) C dL_isBuilt_97 rfl rfl ?_
          refine g_iconst (n := 99) (v := nI 0) C dL_isBuilt_98 rfl rfl ?_
          refine g_SH (n := 102) (rest := []) C (tz_instructions hE hl hN h1 hi4 (nI 0) (nI 0)) dL_isBuilt_99 kH_sets kW_L_124 kT_sets rfl rfl (Nat.le_of_ble_eq_true rfl) ⟨by decide, by decide⟩ ⟨by first | omega | (simp only [gRm]; omega), by first | omega | (simp only [gRm]; omega)⟩ rfl (fun v9 L9 f9 hq => ?_)
          obtain ⟨rfl, rfl, rfl⟩ := hq
          refine G.sk (st' := [_]) rfl ?_
          rw [e3i]
          refine g_istore (n := 104) (ls' := [_, _, _, _, _, _, _, _, _, _, _, _, _, _]) C dL_isBuilt_102 rfl (by decide) rfl ?_
          refine g_aload_n (n := 105) C dL_isBuilt_104 rfl (Or.inr ⟨_, rfl⟩) rfl ?_
          refine g_V (n := 108) (rest := []) C (z_hits hE hl h1 (mc := 0) (ms := 0) ) dL_isBuilt_105 kM_X5_hits kL_L_135 kV_X5_hits h1.co.choose_spec rfl rfl rfl (Nat.le_of_ble_eq_true rfl) ⟨by decide, by decide⟩ ⟨by first | omega | (simp only [gRm]; omega), by first | omega | (simp only [gRm]; omega)⟩ rfl (fun v9 L9 f9 hq => ?_)
          obtain ⟨rfl, rfl, rfl⟩ := hq
          refine G.sk (st' := [_]) rfl ?_
          refine g_aload_n (n := 109) C dL_isBuilt_108 rfl (Or.inr ⟨_, rfl⟩) rfl ?_
          refine g_V (n := 112) (rest := [_]) C (z_misses hE hl h1 (mc := 0) (ms := 0) ) dL_isBuilt_109 kM_X5_misses kL_L_138 kV_X5_misses h1.co.choose_spec rfl rfl rfl (Nat.le_of_ble_eq_true rfl) ⟨by decide, by decide⟩ ⟨by first | omega | (simp only [gRm]; omega), by first | omega | (simp only [gRm]; omega)⟩ rfl (fun v9 L9 f9 hq => ?_)
          obtain ⟨rfl, rfl, rfl⟩ := hq
          refine G.sk (st' := [_, _]) rfl ?_
          refine g_iadd (n := 113) C dL_isBuilt_112 rfl ?_
          refine g_iload_n (n := 114) C dL_isBuilt_113 rfl rfl ?_
          refine g_isub (n := 115) C dL_isBuilt_114 rfl ?_
          rw [sub_e q9]
          refine g_istore (n := 117) (ls' := [_, _, _, _, _, _, _, _, _, _, _, _, _, _]) C dL_isBuilt_115 rfl (by decide) rfl ?_
          refine g_iload (n := 119) C dL_isBuilt_117 rfl rfl ?_
          refine g_iconst (n := 120) (v := -1) C dL_isBuilt_119 rfl rfl ?_
          refine g_icmp_ne (n := 123) (tgt := 168) C dL_isBuilt_120 (by decide) rfl (fun h120 => ?_) (fun h120 => absurd h120 hdn)
          refine g_aload_n (n := 169) C dL_isBuilt_168 rfl (Or.inr ⟨_, rfl⟩) rfl ?_
          refine g_V (n := 172) (rest := []) C (z_layers hE hl h1 (mc := 0) (ms := 0) ) dL_isBuilt_169 kM_X5_layers kL_L_111 kV_X5_layers h1.co.choose_spec rfl rfl rfl (Nat.le_of_ble_eq_true rfl) ⟨by decide, by decide⟩ ⟨by first | omega | (simp only [gRm]; omega), by first | omega | (simp only [gRm]; omega)⟩ rfl (fun v9 L9 f9 hq => ?_)
          obtain ⟨rfl, rfl, rfl⟩ := hq
          refine G.sk (st' := [_]) rfl ?_
          refine g_istore (n := 174) (ls' := [_, _, _, _, _, _, _, _, _, _, _, _, _, _]) C dL_isBuilt_172 rfl (by decide) rfl ?_
          refine g_aload_n (n := 175) C dL_isBuilt_174 rfl (Or.inr ⟨_, rfl⟩) rfl ?_
          refine g_V (n := 178) (rest := []) C (z_misses hE hl h1 (mc := 0) (ms := 0) ) dL_isBuilt_175 kM_X5_misses kL_L_138 kV_X5_misses h1.co.choose_spec rfl rfl rfl (Nat.le_of_ble_eq_true rfl) ⟨by decide, by decide⟩ ⟨by first | omega | (simp only [gRm]; omega), by first | omega | (simp only [gRm]; omega)⟩ rfl (fun v9 L9 f9 hq => ?_)
          obtain ⟨rfl, rfl, rfl⟩ := hq
          refine G.sk (st' := [_]) rfl ?_
          refine g_istore (n := 180) (ls' := [_, _, _, _, _, _, _, _, _, _, _, _, _, _]) C dL_isBuilt_178 rfl (by decide) rfl ?_
          refine g_iload (n := 182) C dL_isBuilt_180 rfl rfl ?_
          refine g_if_lt (n := 185) (tgt := 247) C dL_isBuilt_182 (by decide) rfl (fun h182 => absurd h182 (nI_n0 (by omega))) (fun h182 => ?_)
          refine g_aload_n (n := 186) C dL_isBuilt_185 rfl (Or.inr ⟨_, rfl⟩) rfl ?_
          refine g_iload (n := 188) C dL_isBuilt_186 rfl rfl ?_
          refine g_V (n := 191) (rest := []) C (z_digest hE hl h1 (mc := 0) (ms := 0) (k := K m) hKm hK8) dL_isBuilt_188 kM_X5_digest kL_L_101 kV_X5_digest h1.co.choose_spec rfl rfl rfl (Nat.le_of_ble_eq_true rfl) ⟨by decide, by decide⟩ ⟨by first | omega | (simp only [gRm]; omega), by first | omega | (simp only [gRm]; omega)⟩ rfl (fun v9 L9 f9 hq => ?_)
          obtain ⟨rfl, rfl, rfl⟩ := hq
          refine G.sk (st' := [_]) rfl ?_
          refine g_iload (n := 193) C dL_isBuilt_191 rfl rfl ?_
          refine g_icmp_ne (n := 196) (tgt := 247) C dL_isBuilt_193 (by decide) rfl (fun h193 => absurd (dgF_c (fun q hq => (hcs q hq).symm) 12 (Nat.le_refl _)) h193) (fun h193 => ?_)
          refine g_aload_n (n := 197) C dL_isBuilt_196 rfl (Or.inr ⟨_, rfl⟩) rfl ?_
          refine g_V (n := 200) (rest := []) C (z_built hE hl h1 (mc := 0) (ms := 0) ) dL_isBuilt_197 kM_X5_built kL_L_114 kV_X5_built h1.co.choose_spec rfl rfl rfl (Nat.le_of_ble_eq_true rfl) ⟨by decide, by decide⟩ ⟨by first | omega | (simp only [gRm]; omega), by first | omega | (simp only [gRm]; omega)⟩ rfl (fun v9 L9 f9 hq => ?_)
          obtain ⟨rfl, rfl, rfl⟩ := hq
          refine G.sk (st' := [_]) rfl ?_
          rw [res_1 e18 e24 (by omega) hK8]
          refine g_iload (n := 202) C dL_isBuilt_200 rfl rfl ?_
          refine g_icmp_ne (n := 205) (tgt := 247) C dL_isBuilt_202 (by decide) rfl (fun h202 => absurd rfl h202) (fun h202 => ?_)
          refine g_iload (n := 207) C dL_isBuilt_205 rfl rfl ?_
          refine g_iload (n := 209) C dL_isBuilt_207 rfl rfl ?_
          refine g_icmp_ne (n := 212) (tgt := 247) C dL_isBuilt_209 (by decide) rfl (fun h209 => absurd rfl h209) (fun h209 => ?_)
          refine g_aload_n (n := 213) C dL_isBuilt_212 rfl (Or.inr ⟨_, rfl⟩) rfl ?_
          refine g_iload (n := 215) C dL_isBuilt_213 rfl rfl ?_
          refine g_V (n := 218) (rest := []) C (z_depth hE hl h1 (mc := 0) (ms := 0) (k := K m) hKm hK8) dL_isBuilt_215 kM_X5_depth kL_L_95 kV_X5_depth h1.co.choose_spec rfl rfl rfl (Nat.le_of_ble_eq_true rfl) ⟨by decide, by decide⟩ ⟨by first | omega | (simp only [gRm]; omega), by first | omega | (simp only [gRm]; omega)⟩ rfl (fun v9 L9 f9 hq => ?_)
          obtain ⟨rfl, rfl, rfl⟩ := hq
          refine G.sk (st' := [_]) rfl ?_
          rw [q14 m (Nat.le_refl _)]
          refine g_iload (n := 220) C dL_isBuilt_218 rfl rfl ?_
          refine g_iconst (n := 221) (v := nI 1) C dL_isBuilt_220 rfl rfl ?_
          refine g_iaddN (n := 222) C dL_isBuilt_221 rfl ?_
          refine g_icmp_ne (n := 225) (tgt := 247) C dL_isBuilt_222 (by decide) rfl (fun h222 => absurd rfl h222) (fun h222 => ?_)
          refine g_iload (n := 227) C dL_isBuilt_225 rfl rfl ?_
          refine g_iload_n (n := 228) C dL_isBuilt_227 rfl rfl ?_
          refine g_isubN (n := 229) C dL_isBuilt_228 (by have := q2.1; omega) rfl ?_
          refine g_iload (n := 231) C dL_isBuilt_229 rfl rfl ?_
          refine g_iconst (n := 232) (v := nI 1) C dL_isBuilt_231 rfl rfl ?_
          refine g_iaddN (n := 233) C dL_isBuilt_232 rfl ?_
          refine g_icmp_gt (n := 236) (tgt := 247) C dL_isBuilt_233 (by decide) rfl (fun h233 => absurd h233 (fun y => by have := (nI_ltI (by omega) (by omega)).mp y; omega)) (fun h233 => ?_)
          refine g_aload_n (n := 237) C dL_isBuilt_236 rfl (Or.inr ⟨_, rfl⟩) rfl ?_
          refine g_V (n := 240) (rest := []) C (z_stepsLeft hE hl h1 (mc := 0) (ms := 0) ) dL_isBuilt_237 kM_X5_stepsLeft kL_L_117 kV_X5_stepsLeft h1.co.choose_spec rfl rfl rfl (Nat.le_of_ble_eq_true rfl) ⟨by decide, by decide⟩ ⟨by first | omega | (simp only [gRm]; omega), by first | omega | (simp only [gRm]; omega)⟩ rfl (fun v9 L9 f9 hq => ?_)
          obtain ⟨rfl, rfl, rfl⟩ := hq
          refine G.sk (st' := [_]) rfl ?_
          rw [sl_0 q8]
          refine g_if_ne (n := 243) (tgt := 247) C dL_isBuilt_240 (by decide) rfl (fun h240 => (by first | exact absurd h240 (by decide) | exact (h240 (by decide)).elim)) (fun h240 => ?_)
          refine g_iconst (n := 244) (v := nI 1) C dL_isBuilt_243 rfl rfl ?_
          refine g_goto (tgt := 248) C dL_isBuilt_244 (by decide) ?_
          refine g_istore (n := 250) (ls' := [_, _, _, _, _, _, _, _, _, _, _, _, _, _]) C dL_isBuilt_248 rfl (by decide) rfl ?_
          refine g_iload (n := 252) C dL_isBuilt_250 rfl rfl ?_
          refine g_sipush (n := 255) (v := nI 399) C dL_isBuilt_252 rfl rfl ?_
          refine g_icmp_le (n := 258) (tgt := 280) C dL_isBuilt_255 (by decide) rfl (fun h255 => ?_) (fun h255 => absurd ((nI_leI (by omega) (by decide)).mpr (by omega)) h255)
          refine g_aload_n (n := 281) C dL_isBuilt_280 rfl (Or.inr ⟨_, rfl⟩) rfl ?_
          refine g_iconst (n := 282) (v := nI 0) C dL_isBuilt_281 rfl rfl ?_
          refine g_iload_n (n := 283) C dL_isBuilt_282 rfl rfl ?_
          refine g_SH (n := 286) (rest := []) C (t_start hE hl hN h1 hi4 q8 hn14 e2i hb3 e3i hm10 (Or.inl ⟨q10.lst (q13.1 0 (Nat.le_refl _) (Nat.zero_le _)).1, rfl, rfl⟩) (by rw [begA_id q5]; exact q1)) dL_isBuilt_283 kH_builds kW_L_131 kT_builds rfl rfl (Nat.le_of_ble_eq_true rfl) ⟨by decide, by decide⟩ ⟨by first | omega | (simp only [gRm]; omega), by first | omega | (simp only [gRm]; omega)⟩ rfl (fun v9 L9 f9 hq => ?_)
          obtain ⟨rfl, h5⟩ := hq
          rw [begA_id q5] at h5
          refine G.sk (st' := [_]) rfl ?_
          have hs5 : stI I1 K m (IVf I1 n1 (nI (if m = 0 then 0 else 1)) (nI (if m = 0 then 1 else 0)) (nI m) (nI 0) (nI (K 0)) (I1 25) (I1 26)) 0 := ⟨by show nI (if m = 0 then 0 else 1) = nI (if 0 = m then 0 else 1); by_cases z : m = 0 <;> simp [z, eq_comm], by show nI (if m = 0 then 1 else 0) = nI (if 0 = m then 1 else 0); by_cases z : m = 0 <;> simp [z, eq_comm], rfl, rfl, rfl, rfl⟩
          generalize IVf I1 n1 (nI (if m = 0 then 0 else 1)) (nI (if m = 0 then 1 else 0)) (nI m) (nI 0) (nI (K 0)) (I1 25) (I1 26) = I5 at h5 hs5
          refine g_istore (n := 288) (ls' := [_, _, _, _, _, _, _, _, _, _, _, _, _, _]) C dL_isBuilt_286 rfl (by decide) rfl ?_
          refine g_iload (n := 290) C dL_isBuilt_288 rfl rfl ?_
          refine g_if_eq (n := 293) (tgt := 329) C dL_isBuilt_290 (by decide) rfl (fun h290 => (by first | exact absurd h290 (by decide) | exact (h290 (by decide)).elim)) (fun h290 => ?_)
          refine g_aload_n (n := 294) C dL_isBuilt_293 rfl (Or.inr ⟨_, rfl⟩) rfl ?_
          refine g_iload (n := 296) C dL_isBuilt_294 rfl rfl ?_
          refine g_V (n := 299) (rest := []) C (z_depth hE hl h5 (mc := 0) (ms := 0) (k := K 0) hK0 hK08) dL_isBuilt_296 kM_X5_depth kL_L_95 kV_X5_depth h5.co.choose_spec rfl rfl rfl (Nat.le_of_ble_eq_true rfl) ⟨by decide, by decide⟩ ⟨by first | omega | (simp only [gRm]; omega), by first | omega | (simp only [gRm]; omega)⟩ rfl (fun v9 L9 f9 hq => ?_)
          obtain ⟨rfl, rfl, rfl⟩ := hq
          refine G.sk (st' := [_]) rfl ?_
          rw [q14 0 (Nat.zero_le _)]
          refine g_iconst (n := 300) (v := nI 1) C dL_isBuilt_299 rfl rfl ?_
          refine g_icmp_ne (n := 303) (tgt := 329) C dL_isBuilt_300 (by decide) rfl (fun h300 => absurd rfl h300) (fun h300 => ?_)
          refine g_aload_n (n := 304) C dL_isBuilt_303 rfl (Or.inr ⟨_, rfl⟩) rfl ?_
          refine g_V (n := 307) (rest := []) C (z_stepsLeft hE hl h5 (mc := 0) (ms := 0) ) dL_isBuilt_304 kM_X5_stepsLeft kL_L_117 kV_X5_stepsLeft h5.co.choose_spec rfl rfl rfl (Nat.le_of_ble_eq_true rfl) ⟨by decide, by decide⟩ ⟨by first | omega | (simp only [gRm]; omega), by first | omega | (simp only [gRm]; omega)⟩ rfl (fun v9 L9 f9 hq => ?_)
          obtain ⟨rfl, rfl, rfl⟩ := hq
          refine G.sk (st' := [_]) rfl ?_
          rw [sl_m hs5.1 hs5.2.2.1 hs5.2.2.2.1 (Nat.zero_le _), Nat.sub_zero]
          refine g_iload (n := 309) C dL_isBuilt_307 rfl rfl ?_
          refine g_icmp_ne (n := 312) (tgt := 329) C dL_isBuilt_309 (by decide) rfl (fun h309 => absurd rfl h309) (fun h309 => ?_)
          refine g_cut (α := Unit) (fun _ => True) (fun _ => L9) (fun _ => f9) (fun _ => 71) (fun _ => 582) 325 (fun _ => [some (.ref co), some (.int (nI i)), some (.int (I 25 + I 26)), some (.int (nI n)), some (.int (dgF c1 12)), some (.int (nI (K m))), some (.int (nI m)), some (.int (nI m)), some (.int (nI n1)), some (.int (I1 26)), some (.int (nI 1)), some (.int (nI (K 0))), none, none]) (fun _ => []) (fun J => ?_) (fun _ _ => ?_)
          · refine g_iload (n := 314) C dL_isBuilt_312 rfl rfl ?_
            refine g_if_eq (n := 317) (tgt := 325) C dL_isBuilt_314 (by decide) rfl (fun h314 => ?_) (fun h314 => ?_)
            · skip
              exact J () trivial
            · have hm0 : ¬ 0 = m := fun z => h314 (by rw [← z]; rfl)
              refine g_aload_n (n := 318) C dL_isBuilt_317 rfl (Or.inr ⟨_, rfl⟩) rfl ?_
              refine g_V (n := 321) (rest := []) C (z_built hE hl h5 (mc := 0) (ms := 0) ) dL_isBuilt_318 kM_X5_built kL_L_114 kV_X5_built h5.co.choose_spec rfl rfl rfl (Nat.le_of_ble_eq_true rfl) ⟨by decide, by decide⟩ ⟨by first | omega | (simp only [gRm]; omega), by first | omega | (simp only [gRm]; omega)⟩ rfl (fun v9 L9 f9 hq => ?_)
              obtain ⟨rfl, rfl, rfl⟩ := hq
              refine G.sk (st' := [_]) rfl ?_
              rw [res_0 (by rw [hs5.2.1, if_neg hm0])]
              refine g_iconst (n := 322) (v := -1) C dL_isBuilt_321 rfl rfl ?_
              refine g_icmp_ne (n := 325) (tgt := 329) C dL_isBuilt_322 (by decide) rfl (fun h322 => (by first | exact absurd h322 (by decide) | exact (h322 (by decide)).elim)) (fun h322 => ?_)
              exact J () trivial
          · refine g_iconst (n := 326) (v := nI 1) C dL_isBuilt_325 rfl rfl ?_
            refine g_goto (tgt := 330) C dL_isBuilt_326 (by decide) ?_
            refine g_istore (n := 332) (ls' := [_, _, _, _, _, _, _, _, _, _, _, _, _, _]) C dL_isBuilt_330 rfl (by decide) rfl ?_
            refine g_iconst (n := 333) (v := nI 0) C dL_isBuilt_332 rfl rfl ?_
            refine g_istore (n := 335) (ls' := [_, _, _, _, _, _, _, _, _, _, _, _, _, _]) C dL_isBuilt_333 rfl (by decide) rfl ?_
            refine g_loop (α := Nat × (Nat → Int32) × List Nat × gF) (fun z => z.1 ≤ m ∧ CX cy co n1 PR1 PL1 S1 A1 z.2.1 z.2.2.1 z.2.2.2 ∧ stI I1 K m z.2.1 z.1) (fun z => m - z.1) (fun z => z.2.2.1) (fun z => z.2.2.2) (fun z => 71 + 5 * z.1) (fun z => 582 + 42 * z.1) 335 (fun z => [some (.ref co), some (.int (nI i)), some (.int (I 25 + I 26)), some (.int (nI n)), some (.int (dgF c1 12)), some (.int (nI (K m))), some (.int (nI m)), some (.int (nI m)), some (.int (nI n1)), some (.int (I1 26)), some (.int (nI 1)), some (.int (nI (K z.1))), some (.int (nI z.1)), none]) (fun _ => []) (fun z hz ih => ?_) (fun J => J (0, _, _, _) ⟨Nat.zero_le _, h5, hs5⟩)
            obtain ⟨t, I2, L5, f5⟩ := z
            obtain ⟨ht0, h6, s1, s2, s3, s4, s5, s6⟩ := hz
            dsimp only at ht0 h6 s1 s2 s3 s4 s5 s6 ih ⊢
            refine g_iload (n := 337) C dL_isBuilt_335 rfl rfl ?_
            refine g_iload (n := 339) C dL_isBuilt_337 rfl rfl ?_
            refine g_icmp_ge (n := 342) (tgt := 397) C dL_isBuilt_339 (by decide) rfl (fun h339 => ?_) (fun h339 => ?_)
            · have et : m = t := by have := gn_ge h339 (by omega) (by omega); omega
              subst et
              refine g_iload (n := 399) C dL_isBuilt_397 rfl rfl ?_
              refine g_if_eq (n := 402) (tgt := 440) C dL_isBuilt_399 (by decide) rfl (fun h399 => (by first | exact absurd h399 (by decide) | exact (h399 (by decide)).elim)) (fun h399 => ?_)
              refine g_iload (n := 404) C dL_isBuilt_402 rfl rfl ?_
              refine g_iload (n := 406) C dL_isBuilt_404 rfl rfl ?_
              refine g_icmp_ne (n := 409) (tgt := 440) C dL_isBuilt_406 (by decide) rfl (fun h406 => absurd rfl h406) (fun h406 => ?_)
              refine g_aload_n (n := 410) C dL_isBuilt_409 rfl (Or.inr ⟨_, rfl⟩) rfl ?_
              refine g_V (n := 413) (rest := []) C (z_layers hE hl h6 (mc := 0) (ms := 0) ) dL_isBuilt_410 kM_X5_layers kL_L_111 kV_X5_layers h6.co.choose_spec rfl rfl rfl (Nat.le_of_ble_eq_true rfl) ⟨by decide, by decide⟩ ⟨by first | omega | (simp only [gRm]; omega), by first | omega | (simp only [gRm]; omega)⟩ rfl (fun v9 L9 f9 hq => ?_)
              obtain ⟨rfl, rfl, rfl⟩ := hq
              refine G.sk (st' := [_]) rfl ?_
              refine g_iload (n := 415) C dL_isBuilt_413 rfl rfl ?_
              refine g_icmp_ne (n := 418) (tgt := 440) C dL_isBuilt_415 (by decide) rfl (fun h415 => absurd rfl h415) (fun h415 => ?_)
              refine g_aload_n (n := 419) C dL_isBuilt_418 rfl (Or.inr ⟨_, rfl⟩) rfl ?_
              refine g_V (n := 422) (rest := []) C (z_misses hE hl h6 (mc := 0) (ms := 0) ) dL_isBuilt_419 kM_X5_misses kL_L_138 kV_X5_misses h6.co.choose_spec rfl rfl rfl (Nat.le_of_ble_eq_true rfl) ⟨by decide, by decide⟩ ⟨by first | omega | (simp only [gRm]; omega), by first | omega | (simp only [gRm]; omega)⟩ rfl (fun v9 L9 f9 hq => ?_)
              obtain ⟨rfl, rfl, rfl⟩ := hq
              refine G.sk (st' := [_]) rfl ?_
              rw [s6]
              refine g_iload (n := 424) C dL_isBuilt_422 rfl rfl ?_
              refine g_icmp_ne (n := 427) (tgt := 440) C dL_isBuilt_424 (by decide) rfl (fun h424 => absurd rfl h424) (fun h424 => ?_)
              refine g_aload_n (n := 428) C dL_isBuilt_427 rfl (Or.inr ⟨_, rfl⟩) rfl ?_
              refine g_V (n := 431) (rest := []) C (z_built hE hl h6 (mc := 0) (ms := 0) ) dL_isBuilt_428 kM_X5_built kL_L_114 kV_X5_built h6.co.choose_spec rfl rfl rfl (Nat.le_of_ble_eq_true rfl) ⟨by decide, by decide⟩ ⟨by first | omega | (simp only [gRm]; omega), by first | omega | (simp only [gRm]; omega)⟩ rfl (fun v9 L9 f9 hq => ?_)
              obtain ⟨rfl, rfl, rfl⟩ := hq
              refine G.sk (st' := [_]) rfl ?_
              rw [res_1 (by rw [s2, if_pos rfl]) s5 (by omega) hK8]
              refine g_iload (n := 433) C dL_isBuilt_431 rfl rfl ?_
              refine g_icmp_ne (n := 436) (tgt := 440) C dL_isBuilt_433 (by decide) rfl (fun h433 => absurd rfl h433) (fun h433 => ?_)
              refine g_iconst (n := 437) (v := nI 1) C dL_isBuilt_436 rfl rfl ?_
              refine g_goto (tgt := 441) C dL_isBuilt_437 (by decide) ?_
              refine g_zret C hr rfl dL_isBuilt_441 ?_ ⟨by first | omega | (simp only [gRm]; omega), by first | omega | (simp only [gRm]; omega)⟩
              exact ⟨rfl, n1, PR1, PL1, S1, A1, _, h6, q1.2.2.2.2.2.2, fun j _ => q4 3 j (Or.inl (by decide))⟩
            · have htm : t < m := gn_gt h339 (by omega) (by omega)
              refine g_iload (n := 344) C dL_isBuilt_342 rfl rfl ?_
              refine g_if_eq (n := 347) (tgt := 397) C dL_isBuilt_344 (by decide) rfl (fun h344 => (by first | exact absurd h344 (by decide) | exact (h344 (by decide)).elim)) (fun h344 => ?_)
              refine g_aload_n (n := 348) C dL_isBuilt_347 rfl (Or.inr ⟨_, rfl⟩) rfl ?_
              refine g_iconst (n := 349) (v := nI 1) C dL_isBuilt_348 rfl rfl ?_
              refine g_iconst (n := 350) (v := nI 0) C dL_isBuilt_349 rfl rfl ?_
              refine g_SH (n := 353) (rest := []) C (t_step hE hl hN h6 (by rw [s1, if_neg (by omega)]) (q13.1 t (Nat.zero_le _) (by omega)).1 s5 s4 htm hm10 s3 (go_hit (va_up I2 27 (nI 0)) q13 htm) q1 (nI 0)) dL_isBuilt_350 kH_builds kW_L_131 kT_builds rfl rfl (Nat.le_of_ble_eq_true rfl) ⟨by decide, by decide⟩ ⟨by first | omega | (simp only [gRm]; omega), by first | omega | (simp only [gRm]; omega)⟩ rfl (fun v9 L9 f9 hq => ?_)
              obtain ⟨rfl, h7⟩ := hq
              refine G.sk (st' := [_]) rfl ?_
              obtain ⟨hnf, hpp, -⟩ := q13.2 t (Nat.zero_le _) htm
              obtain ⟨hKt, hKt8⟩ := q13.1 (t + 1) (by omega) (by omega)
              have hs7 : stI I1 K m (IVf I2 n1 (nI (if t + 1 = m then 0 else 1)) (nI (if t + 1 = m then 1 else 0)) (nI m) (nI (t + 1)) (nI (K (t + 1))) (va_up I2 27 (nI 0) 25 + nI 1) (va_up I2 27 (nI 0) 26 + nI 0)) (t + 1) := ⟨rfl, rfl, rfl, rfl, rfl, (show I2 26 + nI 0 = I1 26 from (Int32.add_zero _).trans s6)⟩
              refine g_istore (n := 355) (ls' := [_, _, _, _, _, _, _, _, _, _, _, _, _, _]) C dL_isBuilt_353 rfl (by decide) rfl ?_
              refine g_aload_n (n := 356) C dL_isBuilt_355 rfl (Or.inr ⟨_, rfl⟩) rfl ?_
              refine g_iload (n := 358) C dL_isBuilt_356 rfl rfl ?_
              refine g_V (n := 361) (rest := []) C (z_parentOf hE hl h7 (mc := 0) (ms := 0) (k := K (t + 1)) hKt hKt8) dL_isBuilt_358 kM_X5_parentOf kL_L_80 kV_X5_parentOf h7.co.choose_spec rfl rfl rfl (Nat.le_of_ble_eq_true rfl) ⟨by decide, by decide⟩ ⟨by first | omega | (simp only [gRm]; omega), by first | omega | (simp only [gRm]; omega)⟩ rfl (fun v9 L9 f9 hq => ?_)
              obtain ⟨rfl, rfl, rfl⟩ := hq
              refine G.sk (st' := [_]) rfl ?_
              rw [hpp, pI_nI]
              refine g_iload (n := 363) C dL_isBuilt_361 rfl rfl ?_
              refine g_icmp_ne (n := 366) (tgt := 384) C dL_isBuilt_363 (by decide) rfl (fun h363 => absurd rfl h363) (fun h363 => ?_)
              refine g_aload_n (n := 367) C dL_isBuilt_366 rfl (Or.inr ⟨_, rfl⟩) rfl ?_
              refine g_V (n := 370) (rest := []) C (z_stepsLeft hE hl h7 (mc := 0) (ms := 0) ) dL_isBuilt_367 kM_X5_stepsLeft kL_L_117 kV_X5_stepsLeft h7.co.choose_spec rfl rfl rfl (Nat.le_of_ble_eq_true rfl) ⟨by decide, by decide⟩ ⟨by first | omega | (simp only [gRm]; omega), by first | omega | (simp only [gRm]; omega)⟩ rfl (fun v9 L9 f9 hq => ?_)
              obtain ⟨rfl, rfl, rfl⟩ := hq
              refine G.sk (st' := [_]) rfl ?_
              rw [sl_m hs7.1 hs7.2.2.1 hs7.2.2.2.1 (by omega)]
              refine g_iload (n := 372) C dL_isBuilt_370 rfl rfl ?_
              refine g_iconst (n := 373) (v := nI 1) C dL_isBuilt_372 rfl rfl ?_
              refine g_isubN (n := 374) C dL_isBuilt_373 (by omega) rfl ?_
              refine g_iload (n := 376) C dL_isBuilt_374 rfl rfl ?_
              refine g_isubN (n := 377) C dL_isBuilt_376 (by omega) rfl ?_
              refine g_icmp_ne (n := 380) (tgt := 384) C dL_isBuilt_377 (by decide) rfl (fun h377 => absurd (by rw [show m - (t + 1) = m - 1 - t by omega]) h377) (fun h377 => ?_)
              refine g_iconst (n := 381) (v := nI 1) C dL_isBuilt_380 rfl rfl ?_
              refine g_goto (tgt := 385) C dL_isBuilt_381 (by decide) ?_
              refine g_istore (n := 387) (ls' := [_, _, _, _, _, _, _, _, _, _, _, _, _, _]) C dL_isBuilt_385 rfl (by decide) rfl ?_
              refine g_iload (n := 389) C dL_isBuilt_387 rfl rfl ?_
              refine g_istore (n := 391) (ls' := [_, _, _, _, _, _, _, _, _, _, _, _, _, _]) C dL_isBuilt_389 rfl (by decide) rfl ?_
              refine g_iinc (n := 394) (ls' := [_, _, _, _, _, _, _, _, _, _, _, _, _, _]) C dL_isBuilt_391 rfl (nI_1 _) rfl (by decide) rfl ?_
              refine g_goto (tgt := 335) C dL_isBuilt_394 (by decide) ?_
              exact G.wk (wk2.s (wk2.s (wk2.s (wk2.s (wk2.s (wk2.s (wk2.s (wk2.s (wk2.s (wk2.s (wk2.s (wk2.s (wk2.s (wk2.n wk2.z)))))))))))))) (G.mono (ce' := 71 + 5 * (t + 1)) (sl' := 582 + 42 * (t + 1)) (by omega) (by omega) (ih (t + 1, _, _, _) ⟨htm, h7, hs7⟩ (by show m - (t + 1) < m - t; omega)))
        · refine g_aload_n (n := 1) C dL_isBuilt_0 rfl (Or.inr ⟨_, rfl⟩) rfl ?_
          refine g_V (n := 4) (rest := []) C (z_stepsLeft hE hl h (mc := 0) (ms := 0)) dL_isBuilt_1 kM_X5_stepsLeft kL_L_117 kV_X5_stepsLeft h.co.choose_spec rfl rfl rfl (Nat.le_of_ble_eq_true rfl) ⟨by decide, by decide⟩ ⟨by first | omega | (simp only [gRm]; omega), by first | omega | (simp only [gRm]; omega)⟩ rfl (fun v9 L9 f9 hq => ?_)
          obtain ⟨rfl, rfl, rfl⟩ := hq
          refine G.sk (st' := [_]) rfl ?_
          rw [sl_0 h17]
          refine g_if_gt (n := 7) (tgt := 17) C dL_isBuilt_4 (by decide) rfl (fun h4 => absurd h4 (by decide)) (fun h4 => ?_)
          refine g_aload_n (n := 8) C dL_isBuilt_7 rfl (Or.inr ⟨_, rfl⟩) rfl ?_
          refine g_V (n := 11) (rest := []) C (z_layers hE hl h (mc := 0) (ms := 0)) dL_isBuilt_8 kM_X5_layers kL_L_111 kV_X5_layers h.co.choose_spec rfl rfl rfl (Nat.le_of_ble_eq_true rfl) ⟨by decide, by decide⟩ ⟨by first | omega | (simp only [gRm]; omega), by first | omega | (simp only [gRm]; omega)⟩ rfl (fun v9 L9 f9 hq => ?_)
          obtain ⟨rfl, rfl, rfl⟩ := hq
          refine G.sk (st' := [_]) rfl ?_
          refine g_sipush (n := 14) (v := nI 399) C dL_isBuilt_11 rfl rfl ?_
          refine g_icmp_le (n := 17) (tgt := 63) C dL_isBuilt_14 (by decide) rfl (fun h14 => ?_) (fun h14 => absurd ((nI_leI (by omega) (by decide)).mpr (by omega)) h14)
          refine g_aload_n (n := 64) C dL_isBuilt_63 rfl (Or.inr ⟨_, rfl⟩) rfl ?_
          refine g_V (n := 67) (rest := []) C (z_hits hE hl h (mc := 0) (ms := 0)) dL_isBuilt_64 kM_X5_hits kL_L_135 kV_X5_hits h.co.choose_spec rfl rfl rfl (Nat.le_of_ble_eq_true rfl) ⟨by decide, by decide⟩ ⟨by first | omega | (simp only [gRm]; omega), by first | omega | (simp only [gRm]; omega)⟩ rfl (fun v9 L9 f9 hq => ?_)
          obtain ⟨rfl, rfl, rfl⟩ := hq
          refine G.sk (st' := [_]) rfl ?_
          refine g_aload_n (n := 68) C dL_isBuilt_67 rfl (Or.inr ⟨_, rfl⟩) rfl ?_
          refine g_V (n := 71) (rest := [_]) C (z_misses hE hl h (mc := 0) (ms := 0)) dL_isBuilt_68 kM_X5_misses kL_L_138 kV_X5_misses h.co.choose_spec rfl rfl rfl (Nat.le_of_ble_eq_true rfl) ⟨by decide, by decide⟩ ⟨by first | omega | (simp only [gRm]; omega), by first | omega | (simp only [gRm]; omega)⟩ rfl (fun v9 L9 f9 hq => ?_)
          obtain ⟨rfl, rfl, rfl⟩ := hq
          refine G.sk (st' := [_, _]) rfl ?_
          refine g_iadd (n := 72) C dL_isBuilt_71 rfl ?_
          refine g_istore_n (n := 73) (ls' := [_, _, _, _, _, _, _, _, _, _, _, _, _, _]) C dL_isBuilt_72 rfl (by decide) rfl ?_
          refine g_aload_n (n := 74) C dL_isBuilt_73 rfl (Or.inr ⟨_, rfl⟩) rfl ?_
          refine g_V (n := 77) (rest := []) C (z_layers hE hl h (mc := 0) (ms := 0)) dL_isBuilt_74 kM_X5_layers kL_L_111 kV_X5_layers h.co.choose_spec rfl rfl rfl (Nat.le_of_ble_eq_true rfl) ⟨by decide, by decide⟩ ⟨by first | omega | (simp only [gRm]; omega), by first | omega | (simp only [gRm]; omega)⟩ rfl (fun v9 L9 f9 hq => ?_)
          obtain ⟨rfl, rfl, rfl⟩ := hq
          refine G.sk (st' := [_]) rfl ?_
          refine g_istore_n (n := 78) (ls' := [_, _, _, _, _, _, _, _, _, _, _, _, _, _]) C dL_isBuilt_77 rfl (by decide) rfl ?_
          refine g_aload_n (n := 79) C dL_isBuilt_78 rfl (Or.inr ⟨_, rfl⟩) rfl ?_
          refine g_iconst (n := 80) (v := nI 3) C dL_isBuilt_79 rfl rfl ?_
          refine g_iload_n (n := 81) C dL_isBuilt_80 rfl rfl ?_
          refine g_SH (n := 84) (rest := []) C (t_cleanDigest hE hl hN h hi4 h2 hb3 h3 hm10 hc0 hu0 hcr (Or.inr hw0)) dL_isBuilt_81 kH_builds kW_L_131 kT_builds rfl rfl (Nat.le_of_ble_eq_true rfl) ⟨by decide, by decide⟩ ⟨by first | omega | (simp only [gRm]; omega), by first | omega | (simp only [gRm]; omega)⟩ rfl (fun v9 L9 f9 hq => ?_)
          obtain ⟨rfl, hA⟩ := hq
          refine G.sk (st' := [_]) rfl ?_
          refine G.top (y := dgF c1 12) (by rw [hw0]; rfl) ?_
          refine g_istore (n := 86) (ls' := [_, _, _, _, _, _, _, _, _, _, _, _, _, _]) C dL_isBuilt_84 rfl (by decide) rfl ?_
          refine g_aload_n (n := 87) C dL_isBuilt_86 rfl (Or.inr ⟨_, rfl⟩) rfl ?_
          refine g_iconst (n := 88) (v := nI 2) C dL_isBuilt_87 rfl rfl ?_
          refine g_iload_n (n := 89) C dL_isBuilt_88 rfl rfl ?_
          refine g_SH (n := 92) (rest := []) C (t_build hE hl hN hA hbd q6 q7 q1) dL_isBuilt_89 kH_builds kW_L_131 kT_builds rfl rfl (Nat.le_of_ble_eq_true rfl) ⟨by decide, by decide⟩ ⟨by first | omega | (simp only [gRm]; omega), by first | omega | (simp only [gRm]; omega)⟩ rfl (fun v9 L9 f9 hq => ?_)
          obtain ⟨rfl, h1⟩ := hq
          refine G.sk (st' := [_]) rfl ?_
          refine g_istore (n := 94) (ls' := [_, _, _, _, _, _, _, _, _, _, _, _, _, _]) C dL_isBuilt_92 rfl (by decide) rfl ?_
          refine g_aload_n (n := 95) C dL_isBuilt_94 rfl (Or.inr ⟨_, rfl⟩) rfl ?_
          refine g_iconst (n := 96) (v := nI 4) C dL_isBuilt_95 rfl rfl ?_
          refine g_iload_n (n := 97) C dL_isBuilt_96 rfl rfl ?_
          refine g_iconst (n := 98) (v := nI 0) C dL_isBuilt_97 rfl rfl ?_
          refine g_iconst (n := 99) (v := nI 0) C dL_isBuilt_98 rfl rfl ?_
          refine g_SH (n := 102) (rest := []) C (tz_instructions hE hl hN h1 hi4 (nI 0) (nI 0)) dL_isBuilt_99 kH_sets kW_L_124 kT_sets rfl rfl (Nat.le_of_ble_eq_true rfl) ⟨by decide, by decide⟩ ⟨by first | omega | (simp only [gRm]; omega), by first | omega | (simp only [gRm]; omega)⟩ rfl (fun v9 L9 f9 hq => ?_)
          obtain ⟨rfl, rfl, rfl⟩ := hq
          refine G.sk (st' := [_]) rfl ?_
          rw [e3i]
          refine g_istore (n := 104) (ls' := [_, _, _, _, _, _, _, _, _, _, _, _, _, _]) C dL_isBuilt_102 rfl (by decide) rfl ?_
          refine g_aload_n (n := 105) C dL_isBuilt_104 rfl (Or.inr ⟨_, rfl⟩) rfl ?_
          refine g_V (n := 108) (rest := []) C (z_hits hE hl h1 (mc := 0) (ms := 0) ) dL_isBuilt_105 kM_X5_hits kL_L_135 kV_X5_hits h1.co.choose_spec rfl rfl rfl (Nat.le_of_ble_eq_true rfl) ⟨by decide, by decide⟩ ⟨by first | omega | (simp only [gRm]; omega), by first | omega | (simp only [gRm]; omega)⟩ rfl (fun v9 L9 f9 hq => ?_)
          obtain ⟨rfl, rfl, rfl⟩ := hq
          refine G.sk (st' := [_]) rfl ?_
          refine g_aload_n (n := 109) C dL_isBuilt_108 rfl (Or.inr ⟨_, rfl⟩) rfl ?_
          refine g_V (n := 112) (rest := [_]) C (z_misses hE hl h1 (mc := 0) (ms := 0) ) dL_isBuilt_109 kM_X5_misses kL_L_138 kV_X5_misses h1.co.choose_spec rfl rfl rfl (Nat.le_of_ble_eq_true rfl) ⟨by decide, by decide⟩ ⟨by first | omega | (simp only [gRm]; omega), by first | omega | (simp only [gRm]; omega)⟩ rfl (fun v9 L9 f9 hq => ?_)
          obtain ⟨rfl, rfl, rfl⟩ := hq
          refine G.sk (st' := [_, _]) rfl ?_
          refine g_iadd (n := 113) C dL_isBuilt_112 rfl ?_
          refine g_iload_n (n := 114) C dL_isBuilt_113 rfl rfl ?_
          refine g_isub (n := 115) C dL_isBuilt_114 rfl ?_
          rw [sub_e q9]
          refine g_istore (n := 117) (ls' := [_, _, _, _, _, _, _, _, _, _, _, _, _, _]) C dL_isBuilt_115 rfl (by decide) rfl ?_
          refine g_iload (n := 119) C dL_isBuilt_117 rfl rfl ?_
          refine g_iconst (n := 120) (v := -1) C dL_isBuilt_119 rfl rfl ?_
          refine g_icmp_ne (n := 123) (tgt := 168) C dL_isBuilt_120 (by decide) rfl (fun h120 => ?_) (fun h120 => absurd h120 hdn)
          refine g_aload_n (n := 169) C dL_isBuilt_168 rfl (Or.inr ⟨_, rfl⟩) rfl ?_
          refine g_V (n := 172) (rest := []) C (z_layers hE hl h1 (mc := 0) (ms := 0) ) dL_isBuilt_169 kM_X5_layers kL_L_111 kV_X5_layers h1.co.choose_spec rfl rfl rfl (Nat.le_of_ble_eq_true rfl) ⟨by decide, by decide⟩ ⟨by first | omega | (simp only [gRm]; omega), by first | omega | (simp only [gRm]; omega)⟩ rfl (fun v9 L9 f9 hq => ?_)
          obtain ⟨rfl, rfl, rfl⟩ := hq
          refine G.sk (st' := [_]) rfl ?_
          refine g_istore (n := 174) (ls' := [_, _, _, _, _, _, _, _, _, _, _, _, _, _]) C dL_isBuilt_172 rfl (by decide) rfl ?_
          refine g_aload_n (n := 175) C dL_isBuilt_174 rfl (Or.inr ⟨_, rfl⟩) rfl ?_
          refine g_V (n := 178) (rest := []) C (z_misses hE hl h1 (mc := 0) (ms := 0) ) dL_isBuilt_175 kM_X5_misses kL_L_138 kV_X5_misses h1.co.choose_spec rfl rfl rfl (Nat.le_of_ble_eq_true rfl) ⟨by decide, by decide⟩ ⟨by first | omega | (simp only [gRm]; omega), by first | omega | (simp only [gRm]; omega)⟩ rfl (fun v9 L9 f9 hq => ?_)
          obtain ⟨rfl, rfl, rfl⟩ := hq
          refine G.sk (st' := [_]) rfl ?_
          refine g_istore (n := 180) (ls' := [_, _, _, _, _, _, _, _, _, _, _, _, _, _]) C dL_isBuilt_178 rfl (by decide) rfl ?_
          refine g_iload (n := 182) C dL_isBuilt_180 rfl rfl ?_
          refine g_if_lt (n := 185) (tgt := 247) C dL_isBuilt_182 (by decide) rfl (fun h182 => absurd h182 (nI_n0 (by omega))) (fun h182 => ?_)
          refine g_aload_n (n := 186) C dL_isBuilt_185 rfl (Or.inr ⟨_, rfl⟩) rfl ?_
          refine g_iload (n := 188) C dL_isBuilt_186 rfl rfl ?_
          refine g_V (n := 191) (rest := []) C (z_digest hE hl h1 (mc := 0) (ms := 0) (k := K m) hKm hK8) dL_isBuilt_188 kM_X5_digest kL_L_101 kV_X5_digest h1.co.choose_spec rfl rfl rfl (Nat.le_of_ble_eq_true rfl) ⟨by decide, by decide⟩ ⟨by first | omega | (simp only [gRm]; omega), by first | omega | (simp only [gRm]; omega)⟩ rfl (fun v9 L9 f9 hq => ?_)
          obtain ⟨rfl, rfl, rfl⟩ := hq
          refine G.sk (st' := [_]) rfl ?_
          refine g_iload (n := 193) C dL_isBuilt_191 rfl rfl ?_
          refine g_icmp_ne (n := 196) (tgt := 247) C dL_isBuilt_193 (by decide) rfl (fun h193 => absurd (dgF_c (fun q hq => (hcs q hq).symm) 12 (Nat.le_refl _)) h193) (fun h193 => ?_)
          refine g_aload_n (n := 197) C dL_isBuilt_196 rfl (Or.inr ⟨_, rfl⟩) rfl ?_
          refine g_V (n := 200) (rest := []) C (z_built hE hl h1 (mc := 0) (ms := 0) ) dL_isBuilt_197 kM_X5_built kL_L_114 kV_X5_built h1.co.choose_spec rfl rfl rfl (Nat.le_of_ble_eq_true rfl) ⟨by decide, by decide⟩ ⟨by first | omega | (simp only [gRm]; omega), by first | omega | (simp only [gRm]; omega)⟩ rfl (fun v9 L9 f9 hq => ?_)
          obtain ⟨rfl, rfl, rfl⟩ := hq
          refine G.sk (st' := [_]) rfl ?_
          rw [res_1 e18 e24 (by omega) hK8]
          refine g_iload (n := 202) C dL_isBuilt_200 rfl rfl ?_
          refine g_icmp_ne (n := 205) (tgt := 247) C dL_isBuilt_202 (by decide) rfl (fun h202 => absurd rfl h202) (fun h202 => ?_)
          refine g_iload (n := 207) C dL_isBuilt_205 rfl rfl ?_
          refine g_iload (n := 209) C dL_isBuilt_207 rfl rfl ?_
          refine g_icmp_ne (n := 212) (tgt := 247) C dL_isBuilt_209 (by decide) rfl (fun h209 => absurd rfl h209) (fun h209 => ?_)
          refine g_aload_n (n := 213) C dL_isBuilt_212 rfl (Or.inr ⟨_, rfl⟩) rfl ?_
          refine g_iload (n := 215) C dL_isBuilt_213 rfl rfl ?_
          refine g_V (n := 218) (rest := []) C (z_depth hE hl h1 (mc := 0) (ms := 0) (k := K m) hKm hK8) dL_isBuilt_215 kM_X5_depth kL_L_95 kV_X5_depth h1.co.choose_spec rfl rfl rfl (Nat.le_of_ble_eq_true rfl) ⟨by decide, by decide⟩ ⟨by first | omega | (simp only [gRm]; omega), by first | omega | (simp only [gRm]; omega)⟩ rfl (fun v9 L9 f9 hq => ?_)
          obtain ⟨rfl, rfl, rfl⟩ := hq
          refine G.sk (st' := [_]) rfl ?_
          rw [q14 m (Nat.le_refl _)]
          refine g_iload (n := 220) C dL_isBuilt_218 rfl rfl ?_
          refine g_iconst (n := 221) (v := nI 1) C dL_isBuilt_220 rfl rfl ?_
          refine g_iaddN (n := 222) C dL_isBuilt_221 rfl ?_
          refine g_icmp_ne (n := 225) (tgt := 247) C dL_isBuilt_222 (by decide) rfl (fun h222 => absurd rfl h222) (fun h222 => ?_)
          refine g_iload (n := 227) C dL_isBuilt_225 rfl rfl ?_
          refine g_iload_n (n := 228) C dL_isBuilt_227 rfl rfl ?_
          refine g_isubN (n := 229) C dL_isBuilt_228 (by have := q2.1; omega) rfl ?_
          refine g_iload (n := 231) C dL_isBuilt_229 rfl rfl ?_
          refine g_iconst (n := 232) (v := nI 1) C dL_isBuilt_231 rfl rfl ?_
          refine g_iaddN (n := 233) C dL_isBuilt_232 rfl ?_
          refine g_icmp_gt (n := 236) (tgt := 247) C dL_isBuilt_233 (by decide) rfl (fun h233 => absurd h233 (fun y => by have := (nI_ltI (by omega) (by omega)).mp y; omega)) (fun h233 => ?_)
          refine g_aload_n (n := 237) C dL_isBuilt_236 rfl (Or.inr ⟨_, rfl⟩) rfl ?_
          refine g_V (n := 240) (rest := []) C (z_stepsLeft hE hl h1 (mc := 0) (ms := 0) ) dL_isBuilt_237 kM_X5_stepsLeft kL_L_117 kV_X5_stepsLeft h1.co.choose_spec rfl rfl rfl (Nat.le_of_ble_eq_true rfl) ⟨by decide, by decide⟩ ⟨by first | omega | (simp only [gRm]; omega), by first | omega | (simp only [gRm]; omega)⟩ rfl (fun v9 L9 f9 hq => ?_)
          obtain ⟨rfl, rfl, rfl⟩ := hq
          refine G.sk (st' := [_]) rfl ?_
          rw [sl_0 q8]
          refine g_if_ne (n := 243) (tgt := 247) C dL_isBuilt_240 (by decide) rfl (fun h240 => (by first | exact absurd h240 (by decide) | exact (h240 (by decide)).elim)) (fun h240 => ?_)
          refine g_iconst (n := 244) (v := nI 1) C dL_isBuilt_243 rfl rfl ?_
          refine g_goto (tgt := 248) C dL_isBuilt_244 (by decide) ?_
          refine g_istore (n := 250) (ls' := [_, _, _, _, _, _, _, _, _, _, _, _, _, _]) C dL_isBuilt_248 rfl (by decide) rfl ?_
          refine g_iload (n := 252) C dL_isBuilt_250 rfl rfl ?_
          refine g_sipush (n := 255) (v := nI 399) C dL_isBuilt_252 rfl rfl ?_
          refine g_icmp_le (n := 258) (tgt := 280) C dL_isBuilt_255 (by decide) rfl (fun h255 => absurd h255 (fun y => by have := gn_ge y (by omega) (by decide); omega)) (fun h255 => ?_)
          refine g_iload (n := 260) C dL_isBuilt_258 rfl rfl ?_
          refine g_if_eq (n := 263) (tgt := 278) C dL_isBuilt_260 (by decide) rfl (fun h260 => (by first | exact absurd h260 (by decide) | exact (h260 (by decide)).elim)) (fun h260 => ?_)
          refine g_aload_n (n := 264) C dL_isBuilt_263 rfl (Or.inr ⟨_, rfl⟩) rfl ?_
          refine g_iconst (n := 265) (v := nI 0) C dL_isBuilt_264 rfl rfl ?_
          refine g_iload_n (n := 266) C dL_isBuilt_265 rfl rfl ?_
          refine g_SH (n := 269) (rest := []) C (tn_start_S hE hl hN h1 (x := nI i) ⟨i, hi4, rfl⟩ (fun ⟨_, y2⟩ => absurd y2 (by omega))) dL_isBuilt_266 kH_builds kW_L_131 kT_builds rfl rfl (Nat.le_of_ble_eq_true rfl) ⟨by decide, by decide⟩ ⟨by first | omega | (simp only [gRm]; omega), by first | omega | (simp only [gRm]; omega)⟩ rfl (fun v9 L9 f9 hq => ?_)
          obtain ⟨rfl, rfl, rfl⟩ := hq
          refine G.sk (st' := [_]) rfl ?_
          refine g_bipush (n := 271) (v := -10) C dL_isBuilt_269 rfl rfl ?_
          refine g_icmp_ne (n := 274) (tgt := 278) C dL_isBuilt_271 (by decide) rfl (fun h271 => (by first | exact absurd h271 (by decide) | exact (h271 (by decide)).elim)) (fun h271 => ?_)
          refine g_iconst (n := 275) (v := nI 1) C dL_isBuilt_274 rfl rfl ?_
          refine g_goto (tgt := 279) C dL_isBuilt_275 (by decide) ?_
          refine g_zret C hr rfl dL_isBuilt_279 ?_ ⟨by first | omega | (simp only [gRm]; omega), by first | omega | (simp only [gRm]; omega)⟩
          exact ⟨rfl, n1, PR1, PL1, S1, A1, _, h1, q1.2.2.2.2.2.2, fun j _ => q4 3 j (Or.inl (by decide))⟩
    · refine g_aload_n (n := 1) C dL_isBuilt_0 rfl (Or.inr ⟨_, rfl⟩) rfl ?_
      refine g_V (n := 4) (rest := []) C (z_stepsLeft hE hl h (mc := 0) (ms := 0)) dL_isBuilt_1 kM_X5_stepsLeft kL_L_117 kV_X5_stepsLeft h.co.choose_spec rfl rfl rfl (Nat.le_of_ble_eq_true rfl) ⟨by decide, by decide⟩ ⟨by first | omega | (simp only [gRm]; omega), by first | omega | (simp only [gRm]; omega)⟩ rfl (fun v9 L9 f9 hq => ?_)
      obtain ⟨rfl, rfl, rfl⟩ := hq
      refine G.sk (st' := [_]) rfl ?_
      rw [sl_0 h17]
      refine g_if_gt (n := 7) (tgt := 17) C dL_isBuilt_4 (by decide) rfl (fun h4 => absurd h4 (by decide)) (fun h4 => ?_)
      refine g_aload_n (n := 8) C dL_isBuilt_7 rfl (Or.inr ⟨_, rfl⟩) rfl ?_
      refine g_V (n := 11) (rest := []) C (z_layers hE hl h (mc := 0) (ms := 0)) dL_isBuilt_8 kM_X5_layers kL_L_111 kV_X5_layers h.co.choose_spec rfl rfl rfl (Nat.le_of_ble_eq_true rfl) ⟨by decide, by decide⟩ ⟨by first | omega | (simp only [gRm]; omega), by first | omega | (simp only [gRm]; omega)⟩ rfl (fun v9 L9 f9 hq => ?_)
      obtain ⟨rfl, rfl, rfl⟩ := hq
      refine G.sk (st' := [_]) rfl ?_
      refine g_sipush (n := 14) (v := nI 399) C dL_isBuilt_11 rfl rfl ?_
      refine g_icmp_le (n := 17) (tgt := 63) C dL_isBuilt_14 (by decide) rfl (fun h14 => absurd h14 (fun y => by have := gn_ge y (by omega) (by decide); omega)) (fun h14 => ?_)
      refine g_aload_n (n := 18) C dL_isBuilt_17 rfl (Or.inr ⟨_, rfl⟩) rfl ?_
      refine g_iconst (n := 19) (v := nI 2) C dL_isBuilt_18 rfl rfl ?_
      refine g_iload_n (n := 20) C dL_isBuilt_19 rfl rfl ?_
      refine g_SH (n := 23) (rest := []) C (tn_build_S hE hl hN h (x := nI i) ⟨i, hi4, rfl⟩ (fun ⟨y1, y2⟩ => absurd y2 (by omega))) dL_isBuilt_20 kH_builds kW_L_131 kT_builds rfl rfl (Nat.le_of_ble_eq_true rfl) ⟨by decide, by decide⟩ ⟨by first | omega | (simp only [gRm]; omega), by first | omega | (simp only [gRm]; omega)⟩ rfl (fun v9 L9 f9 hq => ?_)
      obtain ⟨rfl, rfl, rfl⟩ := hq
      refine G.sk (st' := [_]) rfl ?_
      refine g_bipush (n := 25) (v := -10) C dL_isBuilt_23 rfl rfl ?_
      refine g_icmp_ne (n := 28) (tgt := 61) C dL_isBuilt_25 (by decide) rfl (fun h25 => (by first | exact absurd h25 (by decide) | exact (h25 (by decide)).elim)) (fun h25 => ?_)
      refine g_aload_n (n := 29) C dL_isBuilt_28 rfl (Or.inr ⟨_, rfl⟩) rfl ?_
      refine g_iconst (n := 30) (v := nI 0) C dL_isBuilt_29 rfl rfl ?_
      refine g_iload_n (n := 31) C dL_isBuilt_30 rfl rfl ?_
      refine g_SH (n := 34) (rest := []) C (tn_start_S hE hl hN h (x := nI i) ⟨i, hi4, rfl⟩ (fun ⟨y1, y2⟩ => absurd y2 (by omega))) dL_isBuilt_31 kH_builds kW_L_131 kT_builds rfl rfl (Nat.le_of_ble_eq_true rfl) ⟨by decide, by decide⟩ ⟨by first | omega | (simp only [gRm]; omega), by first | omega | (simp only [gRm]; omega)⟩ rfl (fun v9 L9 f9 hq => ?_)
      obtain ⟨rfl, rfl, rfl⟩ := hq
      refine G.sk (st' := [_]) rfl ?_
      refine g_bipush (n := 36) (v := -10) C dL_isBuilt_34 rfl rfl ?_
      refine g_icmp_ne (n := 39) (tgt := 61) C dL_isBuilt_36 (by decide) rfl (fun h36 => (by first | exact absurd h36 (by decide) | exact (h36 (by decide)).elim)) (fun h36 => ?_)
      refine g_aload_n (n := 40) C dL_isBuilt_39 rfl (Or.inr ⟨_, rfl⟩) rfl ?_
      refine g_V (n := 43) (rest := []) C (z_stepsLeft hE hl h (mc := 0) (ms := 0)) dL_isBuilt_40 kM_X5_stepsLeft kL_L_117 kV_X5_stepsLeft h.co.choose_spec rfl rfl rfl (Nat.le_of_ble_eq_true rfl) ⟨by decide, by decide⟩ ⟨by first | omega | (simp only [gRm]; omega), by first | omega | (simp only [gRm]; omega)⟩ rfl (fun v9 L9 f9 hq => ?_)
      obtain ⟨rfl, rfl, rfl⟩ := hq
      refine G.sk (st' := [_]) rfl ?_
      rw [sl_0 h17]
      refine g_if_eq (n := 46) (tgt := 57) C dL_isBuilt_43 (by decide) rfl (fun h43 => ?_) (fun h43 => absurd (by decide) h43)
      refine g_iconst (n := 58) (v := nI 1) C dL_isBuilt_57 rfl rfl ?_
      refine g_goto (tgt := 62) C dL_isBuilt_58 (by decide) ?_
      refine g_zret C hr rfl dL_isBuilt_62 ?_ ⟨by first | omega | (simp only [gRm]; omega), by first | omega | (simp only [gRm]; omega)⟩
      exact ⟨rfl, n, PR, PL, S, A, I, h, hi, fun _ _ => rfl⟩
  · have h17 : ¬ I 17 = 0 := by rw [h17]; decide
    refine g_aload_n (n := 1) C dL_isBuilt_0 rfl (Or.inr ⟨_, rfl⟩) rfl ?_
    refine g_V (n := 4) (rest := []) C (z_stepsLeft hE hl h (mc := 0) (ms := 0)) dL_isBuilt_1 kM_X5_stepsLeft kL_L_117 kV_X5_stepsLeft h.co.choose_spec rfl rfl rfl (Nat.le_of_ble_eq_true rfl) ⟨by decide, by decide⟩ ⟨by first | omega | (simp only [gRm]; omega), by first | omega | (simp only [gRm]; omega)⟩ rfl (fun v9 L9 f9 hq => ?_)
    obtain ⟨rfl, rfl, rfl⟩ := hq
    refine G.sk (st' := [_]) rfl ?_
    rw [esl]
    refine g_if_gt (n := 7) (tgt := 17) C dL_isBuilt_4 (by decide) rfl (fun h4 => ?_) (fun h4 => absurd ((nI_ltI (a := 0) (by decide) (by omega)).mpr (by omega)) h4)
    refine g_aload_n (n := 18) C dL_isBuilt_17 rfl (Or.inr ⟨_, rfl⟩) rfl ?_
    refine g_iconst (n := 19) (v := nI 2) C dL_isBuilt_18 rfl rfl ?_
    refine g_iload_n (n := 20) C dL_isBuilt_19 rfl rfl ?_
    refine g_SH (n := 23) (rest := []) C (tn_build_S hE hl hN h (x := nI i) ⟨i, hi4, rfl⟩ (fun ⟨y1, y2⟩ => h17 y1)) dL_isBuilt_20 kH_builds kW_L_131 kT_builds rfl rfl (Nat.le_of_ble_eq_true rfl) ⟨by decide, by decide⟩ ⟨by first | omega | (simp only [gRm]; omega), by first | omega | (simp only [gRm]; omega)⟩ rfl (fun v9 L9 f9 hq => ?_)
    obtain ⟨rfl, rfl, rfl⟩ := hq
    refine G.sk (st' := [_]) rfl ?_
    refine g_bipush (n := 25) (v := -10) C dL_isBuilt_23 rfl rfl ?_
    refine g_icmp_ne (n := 28) (tgt := 61) C dL_isBuilt_25 (by decide) rfl (fun h25 => (by first | exact absurd h25 (by decide) | exact (h25 (by decide)).elim)) (fun h25 => ?_)
    refine g_aload_n (n := 29) C dL_isBuilt_28 rfl (Or.inr ⟨_, rfl⟩) rfl ?_
    refine g_iconst (n := 30) (v := nI 0) C dL_isBuilt_29 rfl rfl ?_
    refine g_iload_n (n := 31) C dL_isBuilt_30 rfl rfl ?_
    refine g_SH (n := 34) (rest := []) C (tn_start_S hE hl hN h (x := nI i) ⟨i, hi4, rfl⟩ (fun ⟨y1, y2⟩ => h17 y1)) dL_isBuilt_31 kH_builds kW_L_131 kT_builds rfl rfl (Nat.le_of_ble_eq_true rfl) ⟨by decide, by decide⟩ ⟨by first | omega | (simp only [gRm]; omega), by first | omega | (simp only [gRm]; omega)⟩ rfl (fun v9 L9 f9 hq => ?_)
    obtain ⟨rfl, rfl, rfl⟩ := hq
    refine G.sk (st' := [_]) rfl ?_
    refine g_bipush (n := 36) (v := -10) C dL_isBuilt_34 rfl rfl ?_
    refine g_icmp_ne (n := 39) (tgt := 61) C dL_isBuilt_36 (by decide) rfl (fun h36 => (by first | exact absurd h36 (by decide) | exact (h36 (by decide)).elim)) (fun h36 => ?_)
    refine g_aload_n (n := 40) C dL_isBuilt_39 rfl (Or.inr ⟨_, rfl⟩) rfl ?_
    refine g_V (n := 43) (rest := []) C (z_stepsLeft hE hl h (mc := 0) (ms := 0)) dL_isBuilt_40 kM_X5_stepsLeft kL_L_117 kV_X5_stepsLeft h.co.choose_spec rfl rfl rfl (Nat.le_of_ble_eq_true rfl) ⟨by decide, by decide⟩ ⟨by first | omega | (simp only [gRm]; omega), by first | omega | (simp only [gRm]; omega)⟩ rfl (fun v9 L9 f9 hq => ?_)
    obtain ⟨rfl, rfl, rfl⟩ := hq
    refine G.sk (st' := [_]) rfl ?_
    rw [esl]
    refine g_if_eq (n := 46) (tgt := 57) C dL_isBuilt_43 (by decide) rfl (fun h43 => absurd h43 (fun y => by have := gn_inj (b := 0) (by omega) (by decide) y; omega)) (fun h43 => ?_)
    refine g_aload_n (n := 47) C dL_isBuilt_46 rfl (Or.inr ⟨_, rfl⟩) rfl ?_
    refine g_iconst (n := 48) (v := nI 4) C dL_isBuilt_47 rfl rfl ?_
    refine g_iconst (n := 49) (v := nI 0) C dL_isBuilt_48 rfl rfl ?_
    refine g_SH (n := 52) (rest := []) C (tn_prune hE hl hN h hT.tag h17 (nI 0)) dL_isBuilt_49 kH_builds kW_L_131 kT_builds rfl rfl (Nat.le_of_ble_eq_true rfl) ⟨by decide, by decide⟩ ⟨by first | omega | (simp only [gRm]; omega), by first | omega | (simp only [gRm]; omega)⟩ rfl (fun v9 L9 f9 hq => ?_)
    obtain ⟨rfl, rfl, rfl⟩ := hq
    refine G.sk (st' := [_]) rfl ?_
    refine g_bipush (n := 54) (v := -10) C dL_isBuilt_52 rfl rfl ?_
    refine g_icmp_ne (n := 57) (tgt := 61) C dL_isBuilt_54 (by decide) rfl (fun h54 => (by first | exact absurd h54 (by decide) | exact (h54 (by decide)).elim)) (fun h54 => ?_)
    refine g_iconst (n := 58) (v := nI 1) C dL_isBuilt_57 rfl rfl ?_
    refine g_goto (tgt := 62) C dL_isBuilt_58 (by decide) ?_
    refine g_zret C hr rfl dL_isBuilt_62 ?_ ⟨by first | omega | (simp only [gRm]; omega), by first | omega | (simp only [gRm]; omega)⟩
    exact ⟨rfl, n, PR, PL, S, A, I, h, hi, fun _ _ => rfl⟩

/-! ===== the law, VI: all the layers; what is kept ===== -/
theorem pI_ne30 {m : Nat} (h : m ≤ 2 ^ 31) : ¬ pI m = -30 := fun e => pI_30 h (by rw [e]; decide)
theorem vBu.res {A : Nat → Nat → Int32} {I : Nat → Int32} {n : Nat} {PL : Nat → Nat} (h : vBu A I n PL) (hn : n ≤ 420) : resV A I = -1 ∨ ∃ k, k < n ∧ resV A I = nI k ∧ A 8 k = 0 ∧ I 24 = nI k ∧ I 18 = nI 1 ∧ I 17 = nI 0 := by
  rcases h with ⟨t, c, k, h17, h18, -⟩ | ⟨h17, h18 | ⟨h18, k, hk, h24⟩⟩
  · refine Or.inl ?_
    unfold resV
    rw [if_neg (fun z => z.1 h18)]
  · refine Or.inl ?_
    unfold resV
    rw [if_neg (fun z => z.1 h18)]
  · by_cases h8 : A 8 k = 0
    · refine Or.inr ⟨k, hk, ?_, h8, h24, h18, h17⟩
      unfold resV
      rw [h24, nI_clamp (by omega), if_pos ⟨by rw [h18]; decide, h8⟩]
    · refine Or.inl ?_
      unfold resV
      rw [h24, nI_clamp (by omega), if_neg (fun z => h8 z.2)]
theorem vBu.sl {A : Nat → Nat → Int32} {I : Nat → Int32} {n : Nat} {PL : Nat → Nat} (h : vBu A I n PL) : (I 17 = nI 0 ∧ slV I = nI 0) ∨ ∃ t c k, vGo A I n PL t c k ∧ slV I = nI (c - t) := by
  rcases h with ⟨t, c, k, h⟩ | ⟨h17, -⟩
  · refine Or.inr ⟨t, c, k, h, ?_⟩
    obtain ⟨h17, -, h19, h20, htc, -⟩ := h
    unfold slV
    rw [if_pos (by rw [h17]; decide), h19, h20, gn_sub (by omega)]
  · refine Or.inl ⟨h17, ?_⟩
    unfold slV
    rw [if_neg (fun z => z h17)]
    rfl
theorem res_lt {A : Nat → Nat → Int32} {I : Nat → Int32} {n : Nat} {PL : Nat → Nat} (h : vBu A I n PL) (hn : n ≤ 420) : ¬ nI n ≤ resV A I := by
  rcases h.res hn with e | ⟨k, hk, e, -⟩
  · rw [e]; exact pI_lt (m := 0) (Nat.zero_le _) (by omega)
  · rw [e, nI_leI (by omega) (by omega)]; omega
theorem res_go {A : Nat → Nat → Int32} {I : Nat → Int32} {n : Nat} {PL : Nat → Nat} (h : vBu A I n PL) (hs : ¬ slV I = 0) : resV A I = -1 := by
  rcases h.sl with ⟨-, e⟩ | ⟨t, c, k, ⟨h17, h18, -⟩, -⟩
  · exact absurd e hs
  · unfold resV
    rw [if_neg (fun z => z.1 h18)]
theorem sl_lt {A : Nat → Nat → Int32} {I : Nat → Int32} {n : Nat} {PL : Nat → Nat} (h : vBu A I n PL) : ¬ nI 11 ≤ slV I := by
  rcases h.sl with ⟨-, e⟩ | ⟨t, c, k, ⟨-, -, -, -, hl, hc, -⟩, e⟩
  · rw [e]; decide
  · rw [e, nI_leI (by decide) (by omega)]; omega
theorem no_live {A : Nat → Nat → Int32} {n : Nat} (hn : n ≤ 420) : ¬ live A n (nI n) := fun ⟨k, hk, e, _⟩ => by
  have := gn_inj (by omega) (by omega) e
  omega
theorem no_liveM {A : Nat → Nat → Int32} {n : Nat} (hn : n ≤ 420) : ¬ live A n (-1) := fun ⟨k, hk, e, _⟩ => gn_ne1 (by omega) e.symm
theorem no_live8 {A : Nat → Nat → Int32} {n i : Nat} (hn : n ≤ 420) (hi : i < n) (h8 : ¬ A 8 i = 0) : ¬ live A n (nI i) := fun ⟨k, hk, e, e8⟩ => by
  have := gn_inj (by omega) (by omega) e
  rw [this] at h8
  exact h8 e8
theorem l_areAll {l : Launch} {s0 : State} {D : va_G} {cy : Nat → ClassId} (hE : gE s0 D cy) (hl : l.stackTraces = false) {L : List Nat} {f : gF} (hN : gN9 s0) {co n : Nat} {PR PL : Nat → Nat} {S A : Nat → Nat → Int32} {I : Nat → Int32} (h : CX cy co n PR PL S A I L f) (hi : INV A n PR S) {ga : Nat} {g : Nat → Int32} (hg : gH L f ga (.inl (cy 0, 4, .inl g))) (hgA : ∀ i, i < 4 → g i = A 3 i) : gM l s0 D yL_areAll cL_areAll 6 (some .boolean) 11 440 2640 [.ref co, .ref ga] L f (fun v L1 f1 => v = some (.int 1) ∧ L = L1 ∧ f = f1) := by
  refine gM.of (own := RL) hE hl (by decide +kernel) rfl rfl (Nat.le_of_ble_eq_true rfl) (fun p9 e9 s9 m9 a99 b99 t99 c9 C hr hnm => ?_)
  refine G.weak (ls' := [some (.ref co), some (.ref ga), none, none, none, none]) ?_ rfl (fun _ _ h => h)
  obtain ⟨i7, hn9, hPR, hsh, hpl, hpb, hlv⟩ := h.nv
  have hpar : ∀ k, k < n → PR k ≤ k := fun k hk => (hPR k hk).1
  obtain ⟨TG, hT⟩ := h.tgs
  refine g_cut (α := Unit) (fun _ => True) (fun _ => L) (fun _ => f) (fun _ => 4) (fun _ => 24) 53 (fun _ => [some (.ref co), some (.ref ga), some (.int (nI n)), none, none, none]) (fun _ => []) (fun J => ?_) (fun _ _ => ?_)
  · refine g_aload_n (n := 1) C dL_areAll_0 rfl (Or.inr ⟨_, rfl⟩) rfl ?_
    refine g_V (n := 4) (rest := []) C (z_layers hE hl h (mc := 0) (ms := 0)) dL_areAll_1 kM_X5_layers kL_L_111 kV_X5_layers h.co.choose_spec rfl rfl rfl (Nat.le_of_ble_eq_true rfl) ⟨by decide, by decide⟩ ⟨by first | omega | (simp only [gRm]; omega), by first | omega | (simp only [gRm]; omega)⟩ rfl (fun v9 L9 f9 hq => ?_)
    obtain ⟨rfl, rfl, rfl⟩ := hq
    refine G.sk (st' := [_]) rfl ?_
    refine g_istore_n (n := 5) (ls' := [_, _, _, _, _, _]) C dL_areAll_4 rfl (by decide) rfl ?_
    refine g_aload_n (n := 6) C dL_areAll_5 rfl (Or.inr ⟨_, rfl⟩) rfl ?_
    refine g_iconst (n := 7) (v := nI 0) C dL_areAll_6 rfl rfl ?_
    refine g_iload_n (n := 8) C dL_areAll_7 rfl rfl ?_
    refine g_iconst (n := 9) (v := nI 0) C dL_areAll_8 rfl rfl ?_
    refine g_SH (n := 12) (rest := []) C (tn_parentOf hE hl hN h (no_live hn9) (nI 0)) dL_areAll_9 kH_tells kW_L_104 kT_tells rfl rfl (Nat.le_of_ble_eq_true rfl) ⟨by decide, by decide⟩ ⟨by first | omega | (simp only [gRm]; omega), by first | omega | (simp only [gRm]; omega)⟩ rfl (fun v9 L9 f9 hq => ?_)
    obtain ⟨rfl, rfl, rfl⟩ := hq
    refine G.sk (st' := [_]) rfl ?_
    refine g_bipush (n := 14) (v := -30) C dL_areAll_12 rfl rfl ?_
    refine g_icmp_ne (n := 17) (tgt := 66) C dL_areAll_14 (by decide) rfl (fun h14 => (by first | exact absurd h14 (by decide) | exact (h14 (by decide)).elim)) (fun h14 => ?_)
    refine g_aload_n (n := 18) C dL_areAll_17 rfl (Or.inr ⟨_, rfl⟩) rfl ?_
    refine g_bipush (n := 20) (v := nI 7) C dL_areAll_18 rfl rfl ?_
    refine g_iconst (n := 21) (v := -1) C dL_areAll_20 rfl rfl ?_
    refine g_iconst (n := 22) (v := nI 0) C dL_areAll_21 rfl rfl ?_
    refine g_SH (n := 25) (rest := []) C (tn_digest hE hl hN h (no_liveM hn9) (nI 0)) dL_areAll_22 kH_tells kW_L_104 kT_tells rfl rfl (Nat.le_of_ble_eq_true rfl) ⟨by decide, by decide⟩ ⟨by first | omega | (simp only [gRm]; omega), by first | omega | (simp only [gRm]; omega)⟩ rfl (fun v9 L9 f9 hq => ?_)
    obtain ⟨rfl, rfl, rfl⟩ := hq
    refine G.sk (st' := [_]) rfl ?_
    refine g_bipush (n := 27) (v := -30) C dL_areAll_25 rfl rfl ?_
    refine g_icmp_ne (n := 30) (tgt := 66) C dL_areAll_27 (by decide) rfl (fun h27 => (by first | exact absurd h27 (by decide) | exact (h27 (by decide)).elim)) (fun h27 => ?_)
    refine g_aload_n (n := 31) C dL_areAll_30 rfl (Or.inr ⟨_, rfl⟩) rfl ?_
    refine g_V (n := 34) (rest := []) C (z_built hE hl h (mc := 0) (ms := 0)) dL_areAll_31 kM_X5_built kL_L_114 kV_X5_built h.co.choose_spec rfl rfl rfl (Nat.le_of_ble_eq_true rfl) ⟨by decide, by decide⟩ ⟨by first | omega | (simp only [gRm]; omega), by first | omega | (simp only [gRm]; omega)⟩ rfl (fun v9 L9 f9 hq => ?_)
    obtain ⟨rfl, rfl, rfl⟩ := hq
    refine G.sk (st' := [_]) rfl ?_
    refine g_iload_n (n := 35) C dL_areAll_34 rfl rfl ?_
    refine g_icmp_ge (n := 38) (tgt := 66) C dL_areAll_35 (by decide) rfl (fun h35 => absurd h35 (res_lt h.bu hn9)) (fun h35 => ?_)
    refine g_aload_n (n := 39) C dL_areAll_38 rfl (Or.inr ⟨_, rfl⟩) rfl ?_
    refine g_V (n := 42) (rest := []) C (z_stepsLeft hE hl h (mc := 0) (ms := 0)) dL_areAll_39 kM_X5_stepsLeft kL_L_117 kV_X5_stepsLeft h.co.choose_spec rfl rfl rfl (Nat.le_of_ble_eq_true rfl) ⟨by decide, by decide⟩ ⟨by first | omega | (simp only [gRm]; omega), by first | omega | (simp only [gRm]; omega)⟩ rfl (fun v9 L9 f9 hq => ?_)
    obtain ⟨rfl, rfl, rfl⟩ := hq
    refine G.sk (st' := [_]) rfl ?_
    refine g_if_eq (n := 45) (tgt := 53) C dL_areAll_42 (by decide) rfl (fun h42 => ?_) (fun h42 => ?_)
    · skip
      exact J () trivial
    · skip
      refine g_aload_n (n := 46) C dL_areAll_45 rfl (Or.inr ⟨_, rfl⟩) rfl ?_
      refine g_V (n := 49) (rest := []) C (z_built hE hl h (mc := 0) (ms := 0)) dL_areAll_46 kM_X5_built kL_L_114 kV_X5_built h.co.choose_spec rfl rfl rfl (Nat.le_of_ble_eq_true rfl) ⟨by decide, by decide⟩ ⟨by first | omega | (simp only [gRm]; omega), by first | omega | (simp only [gRm]; omega)⟩ rfl (fun v9 L9 f9 hq => ?_)
      obtain ⟨rfl, rfl, rfl⟩ := hq
      refine G.sk (st' := [_]) rfl ?_
      refine g_iconst (n := 50) (v := -1) C dL_areAll_49 rfl rfl ?_
      refine g_icmp_ne (n := 53) (tgt := 66) C dL_areAll_50 (by decide) rfl (fun h50 => absurd (res_go h.bu h42) h50) (fun h50 => ?_)
      exact J () trivial
  · refine g_cut (α := Nat) (fun k0 => k0 ≤ n ∧ n ≤ k0 + 40) (fun _ => L) (fun _ => f) (fun _ => 4) (fun _ => 24) 82 (fun _ => [some (.ref co), some (.ref ga), some (.int (nI n)), some (.int (nI 1)), none, none]) (fun k0 => [.int (nI k0)]) (fun J => ?_) (fun k0 hk0 => ?_)
    · refine g_aload_n (n := 54) C dL_areAll_53 rfl (Or.inr ⟨_, rfl⟩) rfl ?_
      refine g_V (n := 57) (rest := []) C (z_stepsLeft hE hl h (mc := 0) (ms := 0)) dL_areAll_54 kM_X5_stepsLeft kL_L_117 kV_X5_stepsLeft h.co.choose_spec rfl rfl rfl (Nat.le_of_ble_eq_true rfl) ⟨by decide, by decide⟩ ⟨by first | omega | (simp only [gRm]; omega), by first | omega | (simp only [gRm]; omega)⟩ rfl (fun v9 L9 f9 hq => ?_)
      obtain ⟨rfl, rfl, rfl⟩ := hq
      refine G.sk (st' := [_]) rfl ?_
      refine g_bipush (n := 59) (v := nI 11) C dL_areAll_57 rfl rfl ?_
      refine g_icmp_ge (n := 62) (tgt := 66) C dL_areAll_59 (by decide) rfl (fun h59 => absurd h59 (sl_lt h.bu)) (fun h59 => ?_)
      refine g_iconst (n := 63) (v := nI 1) C dL_areAll_62 rfl rfl ?_
      refine g_goto (tgt := 67) C dL_areAll_63 (by decide) ?_
      refine g_istore_n (n := 68) (ls' := [_, _, _, _, _, _]) C dL_areAll_67 rfl (by decide) rfl ?_
      refine g_iload_n (n := 69) C dL_areAll_68 rfl rfl ?_
      refine g_bipush (n := 71) (v := nI 40) C dL_areAll_69 rfl rfl ?_
      refine g_icmp_le (n := 74) (tgt := 81) C dL_areAll_71 (by decide) rfl (fun h71 => ?_) (fun h71 => ?_)
      · skip
        refine g_iconst (n := 82) (v := nI 0) C dL_areAll_81 rfl rfl ?_
        first
        | exact J 0 ⟨Nat.zero_le _, by have := gn_ge h71 (by omega) (by decide); omega⟩
        | exact J (n - 40) ⟨by omega, by omega⟩
      · have h40 : 40 < n := gn_gt h71 (by omega) (by decide)
        refine g_iload_n (n := 75) C dL_areAll_74 rfl rfl ?_
        refine g_bipush (n := 77) (v := nI 40) C dL_areAll_75 rfl rfl ?_
        refine g_isubN (n := 78) C dL_areAll_77 (by omega) rfl ?_
        refine g_goto (tgt := 82) C dL_areAll_78 (by decide) ?_
        first
        | exact J 0 ⟨Nat.zero_le _, by have := gn_ge h71 (by omega) (by decide); omega⟩
        | exact J (n - 40) ⟨by omega, by omega⟩
    · refine g_istore (n := 84) (ls' := [_, _, _, _, _, _]) C dL_areAll_82 rfl (by decide) rfl ?_
      refine g_loop (α := Nat) (fun i => k0 ≤ i ∧ i ≤ n) (fun i => n - i) (fun _ => L) (fun _ => f) (fun i => 4 + 10 * (i - k0)) (fun i => 24 + 60 * (i - k0)) 84 (fun i => [some (.ref co), some (.ref ga), some (.int (nI n)), some (.int (nI 1)), some (.int (nI i)), none]) (fun _ => []) (fun i hi0 ih => ?_) (fun J => G.mono (ce' := 4 + 10 * (k0 - k0)) (sl' := 24 + 60 * (k0 - k0)) (by omega) (by omega) (J k0 ⟨Nat.le_refl _, hk0.1⟩))
      refine g_iload (n := 86) C dL_areAll_84 rfl rfl ?_
      refine g_iload_n (n := 87) C dL_areAll_86 rfl rfl ?_
      refine g_icmp_ge (n := 90) (tgt := 142) C dL_areAll_87 (by decide) rfl (fun h87 => ?_) (fun h87 => ?_)
      · have e9 : n = i := by have := gn_ge h87 (by omega) (by omega); omega
        subst e9
        refine g_iconst (n := 143) (v := nI 0) C dL_areAll_142 rfl rfl ?_
        refine g_istore (n := 145) (ls' := [_, _, _, _, _, _]) C dL_areAll_143 rfl (by decide) rfl ?_
        refine g_loop (α := Nat) (fun j => j ≤ 5) (fun j => 5 - j) (fun _ => L) (fun _ => f) (fun j => 404 + 4 * j) (fun j => 2424 + 24 * j) 145 (fun j => [some (.ref co), some (.ref ga), some (.int (nI n)), some (.int (nI 1)), some (.int (nI j)), none]) (fun _ => []) (fun j hj0 ih2 => ?_) (fun J => G.mono (ce' := 404 + 4 * 0) (sl' := 2424 + 24 * 0) (by omega) (by omega) (J 0 (Nat.zero_le _)))
        refine g_iload (n := 147) C dL_areAll_145 rfl rfl ?_
        refine g_iconst (n := 148) (v := nI 5) C dL_areAll_147 rfl rfl ?_
        refine g_icmp_ge (n := 151) (tgt := 205) C dL_areAll_148 (by decide) rfl (fun h148 => ?_) (fun h148 => ?_)
        · have e9 : j = 5 := by have := gn_ge h148 (by decide) (by omega); omega
          subst e9
          refine g_iconst (n := 206) (v := nI 0) C dL_areAll_205 rfl rfl ?_
          refine g_istore (n := 208) (ls' := [_, _, _, _, _, _]) C dL_areAll_206 rfl (by decide) rfl ?_
          refine g_loop (α := Nat) (fun j => j ≤ 4) (fun j => 4 - j) (fun _ => L) (fun _ => f) (fun j => 424 + 2 * j) (fun j => 2544 + 12 * j) 208 (fun j => [some (.ref co), some (.ref ga), some (.int (nI n)), some (.int (nI 1)), some (.int (nI j)), none]) (fun _ => []) (fun j hj0 ih3 => ?_) (fun J => G.mono (ce' := 424 + 2 * 0) (sl' := 2544 + 12 * 0) (by omega) (by omega) (J 0 (Nat.zero_le _)))
          refine g_iload (n := 210) C dL_areAll_208 rfl rfl ?_
          refine g_iconst (n := 211) (v := nI 4) C dL_areAll_210 rfl rfl ?_
          refine g_icmp_ge (n := 214) (tgt := 255) C dL_areAll_211 (by decide) rfl (fun h211 => ?_) (fun h211 => ?_)
          · have e9 : j = 4 := by have := gn_ge h211 (by decide) (by omega); omega
            subst e9
            refine g_iload_n (n := 256) C dL_areAll_255 rfl rfl ?_
            refine g_zret C hr rfl dL_areAll_256 ?_ ⟨by first | omega | (simp only [gRm]; omega), by first | omega | (simp only [gRm]; omega)⟩
            exact ⟨rfl, rfl, rfl⟩
          · have hj4 : j < 4 := gn_gt h211 (by decide) (by omega)
            refine g_iload_n (n := 215) C dL_areAll_214 rfl rfl ?_
            refine g_if_eq (n := 218) (tgt := 255) C dL_areAll_215 (by decide) rfl (fun h215 => (by first | exact absurd h215 (by decide) | exact (h215 (by decide)).elim)) (fun h215 => ?_)
            refine g_aload_n (n := 219) C dL_areAll_218 rfl (Or.inr ⟨_, rfl⟩) rfl ?_
            refine g_iconst (n := 220) (v := nI 4) C dL_areAll_219 rfl rfl ?_
            refine g_iload (n := 222) C dL_areAll_220 rfl rfl ?_
            refine g_iconst (n := 223) (v := nI 0) C dL_areAll_222 rfl rfl ?_
            refine g_iconst (n := 224) (v := nI 0) C dL_areAll_223 rfl rfl ?_
            refine g_SH (n := 227) (rest := []) C (tz_instructions hE hl hN h hj4 (nI 0) (nI 0)) dL_areAll_224 kH_sets kW_L_124 kT_sets rfl rfl (Nat.le_of_ble_eq_true rfl) ⟨by decide, by decide⟩ ⟨by first | omega | (simp only [gRm]; omega), by first | omega | (simp only [gRm]; omega)⟩ rfl (fun v9 L9 f9 hq => ?_)
            obtain ⟨rfl, rfl, rfl⟩ := hq
            refine G.sk (st' := [_]) rfl ?_
            refine g_aload_n (n := 228) C dL_areAll_227 rfl (Or.inr ⟨_, rfl⟩) rfl ?_
            refine g_iload (n := 230) C dL_areAll_228 rfl rfl ?_
            refine g_iald (n := 231) C dL_areAll_230 hg rfl (by omega) (by decide) rfl ?_
            refine g_icmp_ne (n := 234) (tgt := 247) C dL_areAll_231 (by decide) rfl (fun h231 => absurd (hgA j hj4).symm h231) (fun h231 => ?_)
            refine g_aload_n (n := 235) C dL_areAll_234 rfl (Or.inr ⟨_, rfl⟩) rfl ?_
            refine g_iload (n := 237) C dL_areAll_235 rfl rfl ?_
            refine g_iald (n := 238) C dL_areAll_237 hg rfl (by omega) (by decide) rfl ?_
            refine g_bipush (n := 240) (v := nI 11) C dL_areAll_238 rfl rfl ?_
            refine g_icmp_ge (n := 243) (tgt := 247) C dL_areAll_240 (by decide) rfl (fun h240 => absurd h240 (by rw [hgA j hj4]; obtain ⟨m, b, hm, -, e3, -⟩ := h.rec9 j hj4; rw [e3]; exact fun z => by have := gn_ge z (by decide) (by omega); omega)) (fun h240 => ?_)
            refine g_iconst (n := 244) (v := nI 1) C dL_areAll_243 rfl rfl ?_
            refine g_goto (tgt := 248) C dL_areAll_244 (by decide) ?_
            refine g_istore_n (n := 249) (ls' := [_, _, _, _, _, _]) C dL_areAll_248 rfl (by decide) rfl ?_
            refine g_iinc (n := 252) (ls' := [_, _, _, _, _, _]) C dL_areAll_249 rfl (nI_1 _) rfl (by decide) rfl ?_
            refine g_goto (tgt := 208) C dL_areAll_252 (by decide) ?_
            exact G.wk (wk2.s (wk2.s (wk2.s (wk2.s (wk2.s (wk2.s wk2.z)))))) (G.mono (ce' := 424 + 2 * (j + 1)) (sl' := 2544 + 12 * (j + 1)) (by omega) (by omega) (ih3 (j + 1) (by omega) (by omega)))
        · have hj5 : j < 5 := gn_gt h148 (by decide) (by omega)
          refine g_iload_n (n := 152) C dL_areAll_151 rfl rfl ?_
          refine g_if_eq (n := 155) (tgt := 205) C dL_areAll_152 (by decide) rfl (fun h152 => (by first | exact absurd h152 (by decide) | exact (h152 (by decide)).elim)) (fun h152 => ?_)
          refine g_aload_n (n := 156) C dL_areAll_155 rfl (Or.inr ⟨_, rfl⟩) rfl ?_
          refine g_iload (n := 158) C dL_areAll_156 rfl rfl ?_
          refine g_V (n := 161) (rest := []) C (z_tagged hE hl h (mc := 0) (ms := 0) hj5) dL_areAll_158 kM_X5_tagged kL_L_71 kV_X5_tagged h.co.choose_spec rfl rfl rfl (Nat.le_of_ble_eq_true rfl) ⟨by decide, by decide⟩ ⟨by first | omega | (simp only [gRm]; omega), by first | omega | (simp only [gRm]; omega)⟩ rfl (fun v9 L9 f9 hq => ?_)
          obtain ⟨rfl, rfl, rfl⟩ := hq
          refine G.sk (st' := [_]) rfl ?_
          refine g_istore (n := 163) (ls' := [_, _, _, _, _, _]) C dL_areAll_161 rfl (by decide) rfl ?_
          refine g_iload (n := 165) C dL_areAll_163 rfl rfl ?_
          refine g_iconst (n := 166) (v := -1) C dL_areAll_165 rfl rfl ?_
          refine g_icmp_eq (n := 169) (tgt := 193) C dL_areAll_166 (by decide) rfl (fun h166 => ?_) (fun h166 => ?_)
          · skip
            refine g_iconst (n := 194) (v := nI 1) C dL_areAll_193 rfl rfl ?_
            refine g_goto (tgt := 198) C dL_areAll_194 (by decide) ?_
            refine g_istore_n (n := 199) (ls' := [_, _, _, _, _, _]) C dL_areAll_198 rfl (by decide) rfl ?_
            refine g_iinc (n := 202) (ls' := [_, _, _, _, _, _]) C dL_areAll_199 rfl (nI_1 _) rfl (by decide) rfl ?_
            refine g_goto (tgt := 145) C dL_areAll_202 (by decide) ?_
            exact G.wk (wk2.s (wk2.s (wk2.s (wk2.s (wk2.s (wk2.n wk2.z)))))) (G.mono (ce' := 404 + 4 * (j + 1)) (sl' := 2424 + 24 * (j + 1)) (by omega) (by omega) (ih2 (j + 1) (by omega) (by omega)))
          · obtain ⟨k, hk, ek, hk8⟩ : ∃ k, k < n ∧ A 16 j = nI k ∧ A 8 k = 0 := by
              obtain ⟨t1, t2, t3⟩ := hT j hj5
              cases hz : TG j with
              | zero => rw [hz] at t2; exact absurd t2 h166
              | succ k => rw [hz] at t2 t1; exact ⟨k, t1, t2, t3 k hz⟩
            rw [ek]
            refine g_aload_n (n := 170) C dL_areAll_169 rfl (Or.inr ⟨_, rfl⟩) rfl ?_
            refine g_iconst (n := 171) (v := nI 5) C dL_areAll_170 rfl rfl ?_
            refine g_iload (n := 173) C dL_areAll_171 rfl rfl ?_
            refine g_iconst (n := 174) (v := nI 0) C dL_areAll_173 rfl rfl ?_
            refine g_SH (n := 177) (rest := []) C (tz_depth hE hl hN h hk hk8 (nI 0)) dL_areAll_174 kH_tells kW_L_104 kT_tells rfl rfl (Nat.le_of_ble_eq_true rfl) ⟨by decide, by decide⟩ ⟨by first | omega | (simp only [gRm]; omega), by first | omega | (simp only [gRm]; omega)⟩ rfl (fun v9 L9 f9 hq => ?_)
            obtain ⟨rfl, rfl, rfl⟩ := hq
            refine G.sk (st' := [_]) rfl ?_
            refine g_if_le (n := 180) (tgt := 197) C dL_areAll_177 (by decide) rfl (fun h177 => absurd h177 (fun z => by have := gn_ge (b := 0) z (by have := hpb k hk; omega) (by decide); omega)) (fun h177 => ?_)
            refine g_aload_n (n := 181) C dL_areAll_180 rfl (Or.inr ⟨_, rfl⟩) rfl ?_
            refine g_iconst (n := 182) (v := nI 5) C dL_areAll_181 rfl rfl ?_
            refine g_iload (n := 184) C dL_areAll_182 rfl rfl ?_
            refine g_iconst (n := 185) (v := nI 0) C dL_areAll_184 rfl rfl ?_
            refine g_SH (n := 188) (rest := []) C (tz_depth hE hl hN h hk hk8 (nI 0)) dL_areAll_185 kH_tells kW_L_104 kT_tells rfl rfl (Nat.le_of_ble_eq_true rfl) ⟨by decide, by decide⟩ ⟨by first | omega | (simp only [gRm]; omega), by first | omega | (simp only [gRm]; omega)⟩ rfl (fun v9 L9 f9 hq => ?_)
            obtain ⟨rfl, rfl, rfl⟩ := hq
            refine G.sk (st' := [_]) rfl ?_
            refine g_bipush (n := 190) (v := nI 12) C dL_areAll_188 rfl rfl ?_
            refine g_icmp_ge (n := 193) (tgt := 197) C dL_areAll_190 (by decide) rfl (fun h190 => absurd h190 (fun z => by have := hpb k hk; have := gn_ge z (by decide) (by omega); omega)) (fun h190 => ?_)
            refine g_iconst (n := 194) (v := nI 1) C dL_areAll_193 rfl rfl ?_
            refine g_goto (tgt := 198) C dL_areAll_194 (by decide) ?_
            refine g_istore_n (n := 199) (ls' := [_, _, _, _, _, _]) C dL_areAll_198 rfl (by decide) rfl ?_
            refine g_iinc (n := 202) (ls' := [_, _, _, _, _, _]) C dL_areAll_199 rfl (nI_1 _) rfl (by decide) rfl ?_
            refine g_goto (tgt := 145) C dL_areAll_202 (by decide) ?_
            exact G.wk (wk2.s (wk2.s (wk2.s (wk2.s (wk2.s (wk2.n wk2.z)))))) (G.mono (ce' := 404 + 4 * (j + 1)) (sl' := 2424 + 24 * (j + 1)) (by omega) (by omega) (ih2 (j + 1) (by omega) (by omega)))
      · have hi9 : i < n := gn_gt h87 (by omega) (by omega)
        refine g_iload_n (n := 91) C dL_areAll_90 rfl rfl ?_
        refine g_if_eq (n := 94) (tgt := 142) C dL_areAll_91 (by decide) rfl (fun h91 => (by first | exact absurd h91 (by decide) | exact (h91 (by decide)).elim)) (fun h91 => ?_)
        refine g_aload_n (n := 95) C dL_areAll_94 rfl (Or.inr ⟨_, rfl⟩) rfl ?_
        refine g_iconst (n := 96) (v := nI 0) C dL_areAll_95 rfl rfl ?_
        refine g_iload (n := 98) C dL_areAll_96 rfl rfl ?_
        refine g_iconst (n := 99) (v := nI 0) C dL_areAll_98 rfl rfl ?_
        by_cases h8 : A 8 i = 0
        · refine g_SH (n := 102) (rest := []) C (tz_parentOf hE hl hN h hi9 h8 (nI 0)) dL_areAll_99 kH_tells kW_L_104 kT_tells rfl rfl (Nat.le_of_ble_eq_true rfl) ⟨by decide, by decide⟩ ⟨by first | omega | (simp only [gRm]; omega), by first | omega | (simp only [gRm]; omega)⟩ rfl (fun v9 L9 f9 hq => ?_)
          obtain ⟨rfl, rfl, rfl⟩ := hq
          refine G.sk (st' := [_]) rfl ?_
          refine g_bipush (n := 104) (v := -30) C dL_areAll_102 rfl rfl ?_
          refine g_icmp_ne (n := 107) (tgt := 129) C dL_areAll_104 (by decide) rfl (fun h104 => ?_) (fun h104 => absurd h104 (pI_ne30 (by have := hpar i hi9; omega)))
          refine g_aload_n (n := 130) C dL_areAll_129 rfl (Or.inr ⟨_, rfl⟩) rfl ?_
          refine g_iload (n := 132) C dL_areAll_130 rfl rfl ?_
          refine g_S (n := 135) (rest := []) C (l_isLayer hE hl hN h hi hi9 h8) dL_areAll_132 kM_L_isLayer kL_L_120 kS_L_isLayer rfl rfl (Nat.le_of_ble_eq_true rfl) ⟨by decide, by decide⟩ ⟨by first | omega | (simp only [gRm]; omega), by first | omega | (simp only [gRm]; omega)⟩ rfl (fun v9 L9 f9 hq => ?_)
          obtain ⟨rfl, rfl, rfl⟩ := hq
          refine G.sk (st' := [_]) rfl ?_
          refine g_istore_n (n := 136) (ls' := [_, _, _, _, _, _]) C dL_areAll_135 rfl (by decide) rfl ?_
          refine g_iinc (n := 139) (ls' := [_, _, _, _, _, _]) C dL_areAll_136 rfl (nI_1 _) rfl (by decide) rfl ?_
          refine g_goto (tgt := 84) C dL_areAll_139 (by decide) ?_
          exact G.wk (wk2.s (wk2.s (wk2.s (wk2.s (wk2.s (wk2.s wk2.z)))))) (G.mono (ce' := 4 + 10 * (i + 1 - k0)) (sl' := 24 + 60 * (i + 1 - k0)) (by omega) (by omega) (ih (i + 1) ⟨by omega, by omega⟩ (by omega)))
        · refine g_SH (n := 102) (rest := []) C (tn_parentOf hE hl hN h (no_live8 hn9 hi9 h8) (nI 0)) dL_areAll_99 kH_tells kW_L_104 kT_tells rfl rfl (Nat.le_of_ble_eq_true rfl) ⟨by decide, by decide⟩ ⟨by first | omega | (simp only [gRm]; omega), by first | omega | (simp only [gRm]; omega)⟩ rfl (fun v9 L9 f9 hq => ?_)
          obtain ⟨rfl, rfl, rfl⟩ := hq
          refine G.sk (st' := [_]) rfl ?_
          refine g_bipush (n := 104) (v := -30) C dL_areAll_102 rfl rfl ?_
          refine g_icmp_ne (n := 107) (tgt := 129) C dL_areAll_104 (by decide) rfl (fun h104 => (by first | exact absurd h104 (by decide) | exact (h104 (by decide)).elim)) (fun h104 => ?_)
          refine g_aload_n (n := 108) C dL_areAll_107 rfl (Or.inr ⟨_, rfl⟩) rfl ?_
          refine g_bipush (n := 110) (v := nI 7) C dL_areAll_108 rfl rfl ?_
          refine g_iload (n := 112) C dL_areAll_110 rfl rfl ?_
          refine g_iconst (n := 113) (v := nI 0) C dL_areAll_112 rfl rfl ?_
          refine g_SH (n := 116) (rest := []) C (tn_digest hE hl hN h (no_live8 hn9 hi9 h8) (nI 0)) dL_areAll_113 kH_tells kW_L_104 kT_tells rfl rfl (Nat.le_of_ble_eq_true rfl) ⟨by decide, by decide⟩ ⟨by first | omega | (simp only [gRm]; omega), by first | omega | (simp only [gRm]; omega)⟩ rfl (fun v9 L9 f9 hq => ?_)
          obtain ⟨rfl, rfl, rfl⟩ := hq
          refine G.sk (st' := [_]) rfl ?_
          refine g_bipush (n := 118) (v := -30) C dL_areAll_116 rfl rfl ?_
          refine g_icmp_ne (n := 121) (tgt := 125) C dL_areAll_118 (by decide) rfl (fun h118 => (by first | exact absurd h118 (by decide) | exact (h118 (by decide)).elim)) (fun h118 => ?_)
          refine g_iconst (n := 122) (v := nI 1) C dL_areAll_121 rfl rfl ?_
          refine g_goto (tgt := 135) C dL_areAll_122 (by decide) ?_
          refine g_istore_n (n := 136) (ls' := [_, _, _, _, _, _]) C dL_areAll_135 rfl (by decide) rfl ?_
          refine g_iinc (n := 139) (ls' := [_, _, _, _, _, _]) C dL_areAll_136 rfl (nI_1 _) rfl (by decide) rfl ?_
          refine g_goto (tgt := 84) C dL_areAll_139 (by decide) ?_
          exact G.wk (wk2.s (wk2.s (wk2.s (wk2.s (wk2.s (wk2.s wk2.z)))))) (G.mono (ce' := 4 + 10 * (i + 1 - k0)) (sl' := 24 + 60 * (i + 1 - k0)) (by omega) (by omega) (ih (i + 1) ⟨by omega, by omega⟩ (by omega)))

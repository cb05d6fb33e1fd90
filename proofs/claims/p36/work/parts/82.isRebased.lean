/-! ===== the law, X: rebase ===== -/
theorem sub_12 {a b : Nat} (ha : a < 2 ^ 30) (hb : b < 2 ^ 30) (h : a ≤ b + 12) : ¬ nI 12 < nI a - nI b := by
  by_cases hle : b ≤ a
  · rw [gn_sub hle, nI_ltI (by decide) (by omega)]
    omega
  · have e : (nI a - nI b).toInt = (a : Int) - b := by
      rw [Int32.toInt_sub, nI_toInt (by omega), nI_toInt (by omega)]
      exact Int.bmod_eq_of_le (by omega) (by omega)
    rw [gn_lt, e, nI_toInt (by decide)]
    omega
theorem rbV_1 {h s : Int32} (e : ¬ h = -2) : rbV h s = h := if_neg (fun z => e z.1)
theorem rbV_2 {h s : Int32} (e : h = -2) (e2 : s = -1) : rbV h s = -1 := if_pos ⟨e, e2⟩
theorem rbV_3 {h s : Int32} (e2 : ¬ s = -1) : rbV h s = h := if_neg (fun z => e2 z.2)
theorem l_isRebased {l : Launch} {s0 : State} {D : va_G} {cy : Nat → ClassId} (hE : gE s0 D cy) (hl : l.stackTraces = false) {L : List Nat} {f : gF} (hN : gN9 s0) {co n : Nat} {PR PL : Nat → Nat} {S A : Nat → Nat → Int32} {I : Nat → Int32} (h : CX cy co n PR PL S A I L f) (hi : INV A n PR S) {t b : Nat} (ht6 : t < 6) (hb4 : b < 4) : gM l s0 D yL_isRebased cL_isRebased 13 (some .boolean) 10 49 426 [.ref co, .int (nI t), .int (nI b)] L f (fun v L1 f1 => v = some (.int 1) ∧ LWo cy co (A 3) L1 f1) := by
  refine gM.of (own := RL) hE hl (by decide +kernel) rfl rfl (Nat.le_of_ble_eq_true rfl) (fun p9 e9 s9 m9 a99 b99 t99 c9 C hr hnm => ?_)
  refine G.weak (ls' := [some (.ref co), some (.int (nI t)), some (.int (nI b)), none, none, none, none, none, none, none, none, none, none]) ?_ rfl (fun _ _ h => h)
  obtain ⟨i7, hn9, hPR, hsh, hpl, hpb, hlv⟩ := h.nv
  have hpar : ∀ k, k < n → PR k ≤ k := fun k hk => (hPR k hk).1
  obtain ⟨TG, hT⟩ := h.tgs
  by_cases ht : t < 5
  · cases hk1 : TG t with
    | zero =>
      have e16 := tag_0 hT ht hk1
      by_cases hb3 : b < 3
      · refine g_aload_n (n := 1) C dL_isRebased_0 rfl (Or.inr ⟨_, rfl⟩) rfl ?_
        refine g_iconst (n := 2) (v := nI 2) C dL_isRebased_1 rfl rfl ?_
        refine g_iload_n (n := 3) C dL_isRebased_2 rfl rfl ?_
        refine g_iconst (n := 4) (v := nI 0) C dL_isRebased_3 rfl rfl ?_
        refine g_SH (n := 7) (rest := []) C (tz_tagged hE hl hN h ht (nI 0)) dL_isRebased_4 kH_tags kW_L_141 kT_tags rfl rfl (Nat.le_of_ble_eq_true rfl) ⟨by decide, by decide⟩ ⟨by first | omega | (simp only [gRm]; omega), by first | omega | (simp only [gRm]; omega)⟩ rfl (fun v9 L9 f9 hq => ?_)
        obtain ⟨rfl, rfl, rfl⟩ := hq
        refine G.sk (st' := [_]) rfl ?_
        rw [e16]
        refine g_istore_n (n := 8) (ls' := [_, _, _, _, _, _, _, _, _, _, _, _, _]) C dL_isRebased_7 rfl (by decide) rfl ?_
        refine g_aload_n (n := 9) C dL_isRebased_8 rfl (Or.inr ⟨_, rfl⟩) rfl ?_
        refine g_V (n := 12) (rest := []) C (z_layers hE hl h (mc := 0) (ms := 0)) dL_isRebased_9 kM_X5_layers kL_L_111 kV_X5_layers h.co.choose_spec rfl rfl rfl (Nat.le_of_ble_eq_true rfl) ⟨by decide, by decide⟩ ⟨by first | omega | (simp only [gRm]; omega), by first | omega | (simp only [gRm]; omega)⟩ rfl (fun v9 L9 f9 hq => ?_)
        obtain ⟨rfl, rfl, rfl⟩ := hq
        refine G.sk (st' := [_]) rfl ?_
        refine g_istore (n := 14) (ls' := [_, _, _, _, _, _, _, _, _, _, _, _, _]) C dL_isRebased_12 rfl (by decide) rfl ?_
        refine g_aload_n (n := 15) C dL_isRebased_14 rfl (Or.inr ⟨_, rfl⟩) rfl ?_
        refine g_iconst (n := 16) (v := nI 4) C dL_isRebased_15 rfl rfl ?_
        refine g_iload_n (n := 17) C dL_isRebased_16 rfl rfl ?_
        refine g_iload_n (n := 18) C dL_isRebased_17 rfl rfl ?_
        refine g_SH (n := 21) (rest := []) C (tn_rebase_S hE hl hN h hT.tag (x := nI t) (y := nI b) ⟨⟨t, ht, rfl⟩, b, hb3, rfl⟩ (fun ⟨y1, y2⟩ => y2 t ht rfl hk1)) dL_isRebased_18 kH_tags kW_L_141 kT_tags rfl rfl (Nat.le_of_ble_eq_true rfl) ⟨by decide, by decide⟩ ⟨by first | omega | (simp only [gRm]; omega), by first | omega | (simp only [gRm]; omega)⟩ rfl (fun v9 L9 f9 hq => ?_)
        obtain ⟨rfl, rfl, rfl⟩ := hq
        refine G.sk (st' := [_]) rfl ?_
        refine g_istore (n := 23) (ls' := [_, _, _, _, _, _, _, _, _, _, _, _, _]) C dL_isRebased_21 rfl (by decide) rfl ?_
        refine g_iload_n (n := 24) C dL_isRebased_23 rfl rfl ?_
        refine g_iconst (n := 25) (v := nI 4) C dL_isRebased_24 rfl rfl ?_
        refine g_icmp_gt (n := 28) (tgt := 45) C dL_isRebased_25 (by decide) rfl (fun h25 => absurd h25 (fun y => by have := (nI_ltI (by decide) (by omega)).mp y; omega)) (fun h25 => ?_)
        refine g_iload_n (n := 29) C dL_isRebased_28 rfl rfl ?_
        refine g_iconst (n := 30) (v := nI 2) C dL_isRebased_29 rfl rfl ?_
        refine g_icmp_gt (n := 33) (tgt := 45) C dL_isRebased_30 (by decide) rfl (fun h30 => absurd h30 (fun y => by have := (nI_ltI (by decide) (by omega)).mp y; omega)) (fun h30 => ?_)
        refine g_iload_n (n := 34) C dL_isRebased_33 rfl rfl ?_
        refine g_if_lt (n := 37) (tgt := 45) C dL_isRebased_34 (by decide) rfl (fun h34 => ?_) (fun h34 => absurd (by decide) h34)
        refine g_iload (n := 47) C dL_isRebased_45 rfl rfl ?_
        refine g_iload_n (n := 48) C dL_isRebased_47 rfl rfl ?_
        refine g_iconst (n := 49) (v := nI 4) C dL_isRebased_48 rfl rfl ?_
        refine g_icmp_gt (n := 52) (tgt := 57) C dL_isRebased_49 (by decide) rfl (fun h49 => absurd h49 (fun y => by have := (nI_ltI (by decide) (by omega)).mp y; omega)) (fun h49 => ?_)
        refine g_iload_n (n := 53) C dL_isRebased_52 rfl rfl ?_
        refine g_iconst (n := 54) (v := nI 2) C dL_isRebased_53 rfl rfl ?_
        refine g_icmp_le (n := 57) (tgt := 62) C dL_isRebased_54 (by decide) rfl (fun h54 => ?_) (fun h54 => absurd ((nI_leI (by omega) (by decide)).mpr (by omega)) h54)
        refine g_bipush (n := 64) (v := -10) C dL_isRebased_62 rfl rfl ?_
        refine g_icmp_ne (n := 67) (tgt := 80) C dL_isRebased_64 (by decide) rfl (fun h64 => absurd rfl h64) (fun h64 => ?_)
        refine g_aload_n (n := 68) C dL_isRebased_67 rfl (Or.inr ⟨_, rfl⟩) rfl ?_
        refine g_V (n := 71) (rest := []) C (z_layers hE hl h (mc := 0) (ms := 0)) dL_isRebased_68 kM_X5_layers kL_L_111 kV_X5_layers h.co.choose_spec rfl rfl rfl (Nat.le_of_ble_eq_true rfl) ⟨by decide, by decide⟩ ⟨by first | omega | (simp only [gRm]; omega), by first | omega | (simp only [gRm]; omega)⟩ rfl (fun v9 L9 f9 hq => ?_)
        obtain ⟨rfl, rfl, rfl⟩ := hq
        refine G.sk (st' := [_]) rfl ?_
        refine g_iload (n := 73) C dL_isRebased_71 rfl rfl ?_
        refine g_icmp_ne (n := 76) (tgt := 80) C dL_isRebased_73 (by decide) rfl (fun h73 => absurd rfl h73) (fun h73 => ?_)
        refine g_iconst (n := 77) (v := nI 1) C dL_isRebased_76 rfl rfl ?_
        refine g_goto (tgt := 81) C dL_isRebased_77 (by decide) ?_
        refine g_zret C hr rfl dL_isRebased_81 ?_ ⟨by first | omega | (simp only [gRm]; omega), by first | omega | (simp only [gRm]; omega)⟩
        exact ⟨rfl, n, PR, PL, S, A, I, h, hi, fun _ _ => rfl⟩
      · refine g_aload_n (n := 1) C dL_isRebased_0 rfl (Or.inr ⟨_, rfl⟩) rfl ?_
        refine g_iconst (n := 2) (v := nI 2) C dL_isRebased_1 rfl rfl ?_
        refine g_iload_n (n := 3) C dL_isRebased_2 rfl rfl ?_
        refine g_iconst (n := 4) (v := nI 0) C dL_isRebased_3 rfl rfl ?_
        refine g_SH (n := 7) (rest := []) C (tz_tagged hE hl hN h ht (nI 0)) dL_isRebased_4 kH_tags kW_L_141 kT_tags rfl rfl (Nat.le_of_ble_eq_true rfl) ⟨by decide, by decide⟩ ⟨by first | omega | (simp only [gRm]; omega), by first | omega | (simp only [gRm]; omega)⟩ rfl (fun v9 L9 f9 hq => ?_)
        obtain ⟨rfl, rfl, rfl⟩ := hq
        refine G.sk (st' := [_]) rfl ?_
        rw [e16]
        refine g_istore_n (n := 8) (ls' := [_, _, _, _, _, _, _, _, _, _, _, _, _]) C dL_isRebased_7 rfl (by decide) rfl ?_
        refine g_aload_n (n := 9) C dL_isRebased_8 rfl (Or.inr ⟨_, rfl⟩) rfl ?_
        refine g_V (n := 12) (rest := []) C (z_layers hE hl h (mc := 0) (ms := 0)) dL_isRebased_9 kM_X5_layers kL_L_111 kV_X5_layers h.co.choose_spec rfl rfl rfl (Nat.le_of_ble_eq_true rfl) ⟨by decide, by decide⟩ ⟨by first | omega | (simp only [gRm]; omega), by first | omega | (simp only [gRm]; omega)⟩ rfl (fun v9 L9 f9 hq => ?_)
        obtain ⟨rfl, rfl, rfl⟩ := hq
        refine G.sk (st' := [_]) rfl ?_
        refine g_istore (n := 14) (ls' := [_, _, _, _, _, _, _, _, _, _, _, _, _]) C dL_isRebased_12 rfl (by decide) rfl ?_
        refine g_aload_n (n := 15) C dL_isRebased_14 rfl (Or.inr ⟨_, rfl⟩) rfl ?_
        refine g_iconst (n := 16) (v := nI 4) C dL_isRebased_15 rfl rfl ?_
        refine g_iload_n (n := 17) C dL_isRebased_16 rfl rfl ?_
        refine g_iload_n (n := 18) C dL_isRebased_17 rfl rfl ?_
        refine g_SH (n := 21) (rest := []) C (tn_rebase_I hE hl hN h hT.tag (x := nI t) (y := nI b) (fun ⟨_, i, hi5, e⟩ => by have := gn_inj (by omega) (by omega) e; omega)) dL_isRebased_18 kH_tags kW_L_141 kT_tags rfl rfl (Nat.le_of_ble_eq_true rfl) ⟨by decide, by decide⟩ ⟨by first | omega | (simp only [gRm]; omega), by first | omega | (simp only [gRm]; omega)⟩ rfl (fun v9 L9 f9 hq => ?_)
        obtain ⟨rfl, rfl, rfl⟩ := hq
        refine G.sk (st' := [_]) rfl ?_
        refine g_istore (n := 23) (ls' := [_, _, _, _, _, _, _, _, _, _, _, _, _]) C dL_isRebased_21 rfl (by decide) rfl ?_
        refine g_iload_n (n := 24) C dL_isRebased_23 rfl rfl ?_
        refine g_iconst (n := 25) (v := nI 4) C dL_isRebased_24 rfl rfl ?_
        refine g_icmp_gt (n := 28) (tgt := 45) C dL_isRebased_25 (by decide) rfl (fun h25 => absurd h25 (fun y => by have := (nI_ltI (by decide) (by omega)).mp y; omega)) (fun h25 => ?_)
        refine g_iload_n (n := 29) C dL_isRebased_28 rfl rfl ?_
        refine g_iconst (n := 30) (v := nI 2) C dL_isRebased_29 rfl rfl ?_
        refine g_icmp_gt (n := 33) (tgt := 45) C dL_isRebased_30 (by decide) rfl (fun h30 => ?_) (fun h30 => absurd ((nI_ltI (by decide) (by omega)).mpr (by omega)) h30)
        refine g_iload (n := 47) C dL_isRebased_45 rfl rfl ?_
        refine g_iload_n (n := 48) C dL_isRebased_47 rfl rfl ?_
        refine g_iconst (n := 49) (v := nI 4) C dL_isRebased_48 rfl rfl ?_
        refine g_icmp_gt (n := 52) (tgt := 57) C dL_isRebased_49 (by decide) rfl (fun h49 => absurd h49 (fun y => by have := (nI_ltI (by decide) (by omega)).mp y; omega)) (fun h49 => ?_)
        refine g_iload_n (n := 53) C dL_isRebased_52 rfl rfl ?_
        refine g_iconst (n := 54) (v := nI 2) C dL_isRebased_53 rfl rfl ?_
        refine g_icmp_le (n := 57) (tgt := 62) C dL_isRebased_54 (by decide) rfl (fun h54 => absurd h54 (fun y => by have := gn_ge y (by omega) (by decide); omega)) (fun h54 => ?_)
        refine g_bipush (n := 59) (v := -30) C dL_isRebased_57 rfl rfl ?_
        refine g_goto (tgt := 64) C dL_isRebased_59 (by decide) ?_
        refine g_icmp_ne (n := 67) (tgt := 80) C dL_isRebased_64 (by decide) rfl (fun h64 => absurd rfl h64) (fun h64 => ?_)
        refine g_aload_n (n := 68) C dL_isRebased_67 rfl (Or.inr ⟨_, rfl⟩) rfl ?_
        refine g_V (n := 71) (rest := []) C (z_layers hE hl h (mc := 0) (ms := 0)) dL_isRebased_68 kM_X5_layers kL_L_111 kV_X5_layers h.co.choose_spec rfl rfl rfl (Nat.le_of_ble_eq_true rfl) ⟨by decide, by decide⟩ ⟨by first | omega | (simp only [gRm]; omega), by first | omega | (simp only [gRm]; omega)⟩ rfl (fun v9 L9 f9 hq => ?_)
        obtain ⟨rfl, rfl, rfl⟩ := hq
        refine G.sk (st' := [_]) rfl ?_
        refine g_iload (n := 73) C dL_isRebased_71 rfl rfl ?_
        refine g_icmp_ne (n := 76) (tgt := 80) C dL_isRebased_73 (by decide) rfl (fun h73 => absurd rfl h73) (fun h73 => ?_)
        refine g_iconst (n := 77) (v := nI 1) C dL_isRebased_76 rfl rfl ?_
        refine g_goto (tgt := 81) C dL_isRebased_77 (by decide) ?_
        refine g_zret C hr rfl dL_isRebased_81 ?_ ⟨by first | omega | (simp only [gRm]; omega), by first | omega | (simp only [gRm]; omega)⟩
        exact ⟨rfl, n, PR, PL, S, A, I, h, hi, fun _ _ => rfl⟩
    | succ k =>
      obtain ⟨e16, hk, hk8⟩ := tag_s hT ht hk1
      have hpbk := hpb k hk
      by_cases hb3 : b < 3
      · by_cases hn4 : n < 400
        · obtain ⟨A1, n1, PR1, PL1, S1, O, T, hrb, hc, hw1, hx1, hnl, hnu, hfr, hTp, hT8, hTpl, hTl, hT0, hT0p, hTT, h16, h16o⟩ := rbs_ex (I := I) (h.wf hi) hn4 ht hb3 hk1 hk
          have hn1 : n1 ≤ 420 := hw1.1
          have hk1n : k < n1 := by have := hx1.1; omega
          have hk81 : A1 8 k = 0 := (hx1.2.1.1 8 k (by decide) hk).trans hk8
          have hOO : ∀ y, y ≤ PL k → O y < n1 ∧ A1 8 (O y) = 0 ∧ (0 < y → PR1 (O y) = O (y - 1) + 1) := fun y hy => by
            obtain ⟨o1, o2, o3, o4⟩ := hc.2 y hy
            exact ⟨by have := hx1.1; omega, (hx1.2.1.1 8 _ (by decide) o1).trans (chn_lv hc hlv hk8 hy), fun hp => (hx1.2.2.1 _ o1).trans (o4 hp)⟩
          have hO0 : PR1 (O 0) = 0 := by
            obtain ⟨o1, o2, o3, o4⟩ := hc.2 0 (Nat.zero_le _)
            rw [hx1.2.2.1 _ o1]
            have := hpl _ o1
            rw [o2] at this
            cases hz : PR (O 0) with
            | zero => rfl
            | succ j => rw [hz] at this; exact absurd this (by show ¬ 0 = PL j + 1; omega)
          have hvv : ∀ v, v < 4 → A1 11 (4 * T (PL k) + v) = A1 11 (4 * k + v) := fun v hv => by
            rcases Nat.eq_zero_or_pos (PL k) with z | z
            · have e1 := (hw1.2.2.2.2.2.2.2.1 (T 0) hT0 hT0p).2 v hv
              have e2 := (hw1.2.2.2.2.2.2.2.1 (O 0) (hOO 0 (Nat.zero_le _)).1 hO0).2 v hv
              have e3 := hc.1
              rw [z] at e3
              rw [e3] at e2
              rw [z, e1, e2]
            · have := (hTT (PL k) z (Nat.le_refl _)).2.2.2.2 v hv
              rw [hc.1] at this
              exact this
          have hsz : isT A1 PR1 (T (PL k) + 1) ≤ isT A1 PR1 (k + 1) + 12 := by
            have := rb_sz (fun k hk => (hw1.2.1 k hk).1) hT0p hT0 hO0 (fun y hy => ⟨(hOO y hy).1, (hOO y hy).2.2⟩) hTT (PL k) (Nat.le_refl _)
            rw [hc.1] at this
            exact this
          have hs1 := isT_b (A := A1) (fun k hk => (hw1.2.1 k hk).1) hw1.2.2.2.1 _ hTp
          have hs2 := isT_b (A := A1) (fun k hk => (hw1.2.1 k hk).1) hw1.2.2.2.1 _ hk1n
          have hs3 := hw1.2.2.2.2.1 _ hTp
          have hs4 := hw1.2.2.2.2.1 _ hk1n
          refine g_aload_n (n := 1) C dL_isRebased_0 rfl (Or.inr ⟨_, rfl⟩) rfl ?_
          refine g_iconst (n := 2) (v := nI 2) C dL_isRebased_1 rfl rfl ?_
          refine g_iload_n (n := 3) C dL_isRebased_2 rfl rfl ?_
          refine g_iconst (n := 4) (v := nI 0) C dL_isRebased_3 rfl rfl ?_
          refine g_SH (n := 7) (rest := []) C (tz_tagged hE hl hN h ht (nI 0)) dL_isRebased_4 kH_tags kW_L_141 kT_tags rfl rfl (Nat.le_of_ble_eq_true rfl) ⟨by decide, by decide⟩ ⟨by first | omega | (simp only [gRm]; omega), by first | omega | (simp only [gRm]; omega)⟩ rfl (fun v9 L9 f9 hq => ?_)
          obtain ⟨rfl, rfl, rfl⟩ := hq
          refine G.sk (st' := [_]) rfl ?_
          rw [e16]
          refine g_istore_n (n := 8) (ls' := [_, _, _, _, _, _, _, _, _, _, _, _, _]) C dL_isRebased_7 rfl (by decide) rfl ?_
          refine g_aload_n (n := 9) C dL_isRebased_8 rfl (Or.inr ⟨_, rfl⟩) rfl ?_
          refine g_V (n := 12) (rest := []) C (z_layers hE hl h (mc := 0) (ms := 0)) dL_isRebased_9 kM_X5_layers kL_L_111 kV_X5_layers h.co.choose_spec rfl rfl rfl (Nat.le_of_ble_eq_true rfl) ⟨by decide, by decide⟩ ⟨by first | omega | (simp only [gRm]; omega), by first | omega | (simp only [gRm]; omega)⟩ rfl (fun v9 L9 f9 hq => ?_)
          obtain ⟨rfl, rfl, rfl⟩ := hq
          refine G.sk (st' := [_]) rfl ?_
          refine g_istore (n := 14) (ls' := [_, _, _, _, _, _, _, _, _, _, _, _, _]) C dL_isRebased_12 rfl (by decide) rfl ?_
          refine g_aload_n (n := 15) C dL_isRebased_14 rfl (Or.inr ⟨_, rfl⟩) rfl ?_
          refine g_iconst (n := 16) (v := nI 4) C dL_isRebased_15 rfl rfl ?_
          refine g_iload_n (n := 17) C dL_isRebased_16 rfl rfl ?_
          refine g_iload_n (n := 18) C dL_isRebased_17 rfl rfl ?_
          refine g_SH (n := 21) (rest := []) C (t_rebase hE hl hN h hT.tag hrb hw1) dL_isRebased_18 kH_tags kW_L_141 kT_tags rfl rfl (Nat.le_of_ble_eq_true rfl) ⟨by decide, by decide⟩ ⟨by first | omega | (simp only [gRm]; omega), by first | omega | (simp only [gRm]; omega)⟩ rfl (fun v9 L9 f9 hq => ?_)
          obtain ⟨rfl, h1⟩ := hq
          refine G.sk (st' := [_]) rfl ?_
          obtain ⟨-, -, hPR1, -, hpl1, -, hlv1⟩ := h1.nv
          have hpar1 : ∀ k, k < n1 → PR1 k ≤ k := fun k hk => (hPR1 k hk).1
          refine g_istore (n := 23) (ls' := [_, _, _, _, _, _, _, _, _, _, _, _, _]) C dL_isRebased_21 rfl (by decide) rfl ?_
          refine g_iload_n (n := 24) C dL_isRebased_23 rfl rfl ?_
          refine g_iconst (n := 25) (v := nI 4) C dL_isRebased_24 rfl rfl ?_
          refine g_icmp_gt (n := 28) (tgt := 45) C dL_isRebased_25 (by decide) rfl (fun h25 => absurd h25 (fun y => by have := (nI_ltI (by decide) (by omega)).mp y; omega)) (fun h25 => ?_)
          refine g_iload_n (n := 29) C dL_isRebased_28 rfl rfl ?_
          refine g_iconst (n := 30) (v := nI 2) C dL_isRebased_29 rfl rfl ?_
          refine g_icmp_gt (n := 33) (tgt := 45) C dL_isRebased_30 (by decide) rfl (fun h30 => absurd h30 (fun y => by have := (nI_ltI (by decide) (by omega)).mp y; omega)) (fun h30 => ?_)
          refine g_iload_n (n := 34) C dL_isRebased_33 rfl rfl ?_
          refine g_if_lt (n := 37) (tgt := 45) C dL_isRebased_34 (by decide) rfl (fun h34 => absurd h34 (nI_n0 (by omega))) (fun h34 => ?_)
          refine g_iload (n := 39) C dL_isRebased_37 rfl rfl ?_
          refine g_sipush (n := 42) (v := nI 399) C dL_isRebased_39 rfl rfl ?_
          refine g_icmp_le (n := 45) (tgt := 82) C dL_isRebased_42 (by decide) rfl (fun h42 => ?_) (fun h42 => absurd ((nI_leI (by omega) (by decide)).mpr (by omega)) h42)
          refine g_cut (α := Unit) (fun _ => True) (fun _ => L9) (fun _ => f9) (fun _ => 49) (fun _ => 426) 158 (fun _ => [some (.ref co), some (.int (nI t)), some (.int (nI b)), some (.int (nI k)), some (.int (nI n)), some (.int (nI (T (PL k)))), some (.int (nI (PL k + 1))), none, none, none, none, none, none]) (fun _ => []) (fun J => ?_) (fun _ _ => ?_)
          · refine g_aload_n (n := 83) C dL_isRebased_82 rfl (Or.inr ⟨_, rfl⟩) rfl ?_
            refine g_iload_n (n := 84) C dL_isRebased_83 rfl rfl ?_
            refine g_V (n := 87) (rest := []) C (z_depth hE hl h1 (mc := 0) (ms := 0) (k := k) hk1n hk81) dL_isRebased_84 kM_X5_depth kL_L_95 kV_X5_depth h1.co.choose_spec rfl rfl rfl (Nat.le_of_ble_eq_true rfl) ⟨by decide, by decide⟩ ⟨by first | omega | (simp only [gRm]; omega), by first | omega | (simp only [gRm]; omega)⟩ rfl (fun v9 L9 f9 hq => ?_)
            obtain ⟨rfl, rfl, rfl⟩ := hq
            refine G.sk (st' := [_]) rfl ?_
            rw [hx1.2.2.2.1 k hk]
            refine g_istore (n := 89) (ls' := [_, _, _, _, _, _, _, _, _, _, _, _, _]) C dL_isRebased_87 rfl (by decide) rfl ?_
            refine g_iload (n := 91) C dL_isRebased_89 rfl rfl ?_
            refine g_if_lt (n := 94) (tgt := 179) C dL_isRebased_91 (by decide) rfl (fun h91 => absurd h91 (nI_n0 (by omega))) (fun h91 => ?_)
            refine g_aload_n (n := 95) C dL_isRebased_94 rfl (Or.inr ⟨_, rfl⟩) rfl ?_
            refine g_iload_n (n := 96) C dL_isRebased_95 rfl rfl ?_
            refine g_V (n := 99) (rest := []) C (z_tagged hE hl h1 (mc := 0) (ms := 0) ht) dL_isRebased_96 kM_X5_tagged kL_L_71 kV_X5_tagged h1.co.choose_spec rfl rfl rfl (Nat.le_of_ble_eq_true rfl) ⟨by decide, by decide⟩ ⟨by first | omega | (simp only [gRm]; omega), by first | omega | (simp only [gRm]; omega)⟩ rfl (fun v9 L9 f9 hq => ?_)
            obtain ⟨rfl, rfl, rfl⟩ := hq
            refine G.sk (st' := [_]) rfl ?_
            rw [h16]
            refine g_iload (n := 101) C dL_isRebased_99 rfl rfl ?_
            refine g_icmp_ne (n := 104) (tgt := 179) C dL_isRebased_101 (by decide) rfl (fun h101 => absurd rfl h101) (fun h101 => ?_)
            refine g_aload_n (n := 105) C dL_isRebased_104 rfl (Or.inr ⟨_, rfl⟩) rfl ?_
            refine g_iload (n := 107) C dL_isRebased_105 rfl rfl ?_
            refine g_V (n := 110) (rest := []) C (z_depth hE hl h1 (mc := 0) (ms := 0) (k := T (PL k)) hTp hT8) dL_isRebased_107 kM_X5_depth kL_L_95 kV_X5_depth h1.co.choose_spec rfl rfl rfl (Nat.le_of_ble_eq_true rfl) ⟨by decide, by decide⟩ ⟨by first | omega | (simp only [gRm]; omega), by first | omega | (simp only [gRm]; omega)⟩ rfl (fun v9 L9 f9 hq => ?_)
            obtain ⟨rfl, rfl, rfl⟩ := hq
            refine G.sk (st' := [_]) rfl ?_
            rw [hTpl]
            refine g_iload (n := 112) C dL_isRebased_110 rfl rfl ?_
            refine g_icmp_ne (n := 115) (tgt := 179) C dL_isRebased_112 (by decide) rfl (fun h112 => absurd rfl h112) (fun h112 => ?_)
            refine g_aload_n (n := 116) C dL_isRebased_115 rfl (Or.inr ⟨_, rfl⟩) rfl ?_
            refine g_V (n := 119) (rest := []) C (z_layers hE hl h1 (mc := 0) (ms := 0) ) dL_isRebased_116 kM_X5_layers kL_L_111 kV_X5_layers h1.co.choose_spec rfl rfl rfl (Nat.le_of_ble_eq_true rfl) ⟨by decide, by decide⟩ ⟨by first | omega | (simp only [gRm]; omega), by first | omega | (simp only [gRm]; omega)⟩ rfl (fun v9 L9 f9 hq => ?_)
            obtain ⟨rfl, rfl, rfl⟩ := hq
            refine G.sk (st' := [_]) rfl ?_
            refine g_iload (n := 121) C dL_isRebased_119 rfl rfl ?_
            refine g_isubN (n := 122) C dL_isRebased_121 (by omega) rfl ?_
            refine g_iload (n := 124) C dL_isRebased_122 rfl rfl ?_
            refine g_iconst (n := 125) (v := nI 1) C dL_isRebased_124 rfl rfl ?_
            refine g_isubN (n := 126) C dL_isRebased_125 (by omega) rfl ?_
            refine g_icmp_lt (n := 129) (tgt := 179) C dL_isRebased_126 (by decide) rfl (fun h126 => absurd h126 (fun y => by have := (nI_ltI (by omega) (by omega)).mp y; omega)) (fun h126 => ?_)
            refine g_aload_n (n := 130) C dL_isRebased_129 rfl (Or.inr ⟨_, rfl⟩) rfl ?_
            refine g_V (n := 133) (rest := []) C (z_layers hE hl h1 (mc := 0) (ms := 0) ) dL_isRebased_130 kM_X5_layers kL_L_111 kV_X5_layers h1.co.choose_spec rfl rfl rfl (Nat.le_of_ble_eq_true rfl) ⟨by decide, by decide⟩ ⟨by first | omega | (simp only [gRm]; omega), by first | omega | (simp only [gRm]; omega)⟩ rfl (fun v9 L9 f9 hq => ?_)
            obtain ⟨rfl, rfl, rfl⟩ := hq
            refine G.sk (st' := [_]) rfl ?_
            refine g_iload (n := 135) C dL_isRebased_133 rfl rfl ?_
            refine g_isubN (n := 136) C dL_isRebased_135 (by omega) rfl ?_
            refine g_iload (n := 138) C dL_isRebased_136 rfl rfl ?_
            refine g_icmp_gt (n := 141) (tgt := 179) C dL_isRebased_138 (by decide) rfl (fun h138 => absurd h138 (fun y => by have := (nI_ltI (by omega) (by omega)).mp y; omega)) (fun h138 => ?_)
            refine g_iload (n := 143) C dL_isRebased_141 rfl rfl ?_
            refine g_iconst (n := 144) (v := nI 1) C dL_isRebased_143 rfl rfl ?_
            refine g_icmp_eq (n := 147) (tgt := 158) C dL_isRebased_144 (by decide) rfl (fun h144 => ?_) (fun h144 => ?_)
            · skip
              exact J () trivial
            · have hp0 : 0 < PL k := by
                rcases Nat.eq_zero_or_pos (PL k) with z | z
                · exact absurd (by rw [z]) h144
                · exact z
              refine g_iload (n := 149) C dL_isRebased_147 rfl rfl ?_
              refine g_aload_n (n := 150) C dL_isRebased_149 rfl (Or.inr ⟨_, rfl⟩) rfl ?_
              refine g_V (n := 153) (rest := [_]) C (z_layers hE hl h1 (mc := 0) (ms := 0) ) dL_isRebased_150 kM_X5_layers kL_L_111 kV_X5_layers h1.co.choose_spec rfl rfl rfl (Nat.le_of_ble_eq_true rfl) ⟨by decide, by decide⟩ ⟨by first | omega | (simp only [gRm]; omega), by first | omega | (simp only [gRm]; omega)⟩ rfl (fun v9 L9 f9 hq => ?_)
              obtain ⟨rfl, rfl, rfl⟩ := hq
              refine G.sk (st' := [_, _]) rfl ?_
              refine g_iconst (n := 154) (v := nI 1) C dL_isRebased_153 rfl rfl ?_
              refine g_isubN (n := 155) C dL_isRebased_154 (by omega) rfl ?_
              refine g_icmp_ne (n := 158) (tgt := 179) C dL_isRebased_155 (by decide) rfl (fun h155 => absurd (by rw [← hTl hp0]) h155) (fun h155 => ?_)
              exact J () trivial
          · refine g_aload_n (n := 159) C dL_isRebased_158 rfl (Or.inr ⟨_, rfl⟩) rfl ?_
            refine g_iload (n := 161) C dL_isRebased_159 rfl rfl ?_
            refine g_V (n := 164) (rest := []) C (z_imageSize hE hl h1 (mc := 0) (ms := 0) (k := T (PL k)) hTp hT8) dL_isRebased_161 kM_X5_imageSize kL_L_98 kV_X5_imageSize h1.co.choose_spec rfl rfl rfl (Nat.le_of_ble_eq_true rfl) ⟨by decide, by decide⟩ ⟨by first | omega | (simp only [gRm]; omega), by first | omega | (simp only [gRm]; omega)⟩ rfl (fun v9 L9 f9 hq => ?_)
            obtain ⟨rfl, rfl, rfl⟩ := hq
            refine G.sk (st' := [_]) rfl ?_
            refine g_aload_n (n := 165) C dL_isRebased_164 rfl (Or.inr ⟨_, rfl⟩) rfl ?_
            refine g_iload_n (n := 166) C dL_isRebased_165 rfl rfl ?_
            refine g_V (n := 169) (rest := [_]) C (z_imageSize hE hl h1 (mc := 0) (ms := 0) (k := k) hk1n hk81) dL_isRebased_166 kM_X5_imageSize kL_L_98 kV_X5_imageSize h1.co.choose_spec rfl rfl rfl (Nat.le_of_ble_eq_true rfl) ⟨by decide, by decide⟩ ⟨by first | omega | (simp only [gRm]; omega), by first | omega | (simp only [gRm]; omega)⟩ rfl (fun v9 L9 f9 hq => ?_)
            obtain ⟨rfl, rfl, rfl⟩ := hq
            refine G.sk (st' := [_, _]) rfl ?_
            refine g_isub (n := 170) C dL_isRebased_169 rfl ?_
            refine g_bipush (n := 172) (v := nI 12) C dL_isRebased_170 rfl rfl ?_
            refine g_icmp_gt (n := 175) (tgt := 179) C dL_isRebased_172 (by decide) rfl (fun h172 => absurd h172 (sub_12 (by omega) (by omega) hsz)) (fun h172 => ?_)
            refine g_iconst (n := 176) (v := nI 1) C dL_isRebased_175 rfl rfl ?_
            refine g_goto (tgt := 180) C dL_isRebased_176 (by decide) ?_
            refine g_istore (n := 182) (ls' := [_, _, _, _, _, _, _, _, _, _, _, _, _]) C dL_isRebased_180 rfl (by decide) rfl ?_
            refine g_iconst (n := 183) (v := nI 0) C dL_isRebased_182 rfl rfl ?_
            refine g_istore (n := 185) (ls' := [_, _, _, _, _, _, _, _, _, _, _, _, _]) C dL_isRebased_183 rfl (by decide) rfl ?_
            refine g_loop (α := Nat) (fun v => v ≤ 4) (fun v => 4 - v) (fun _ => L9) (fun _ => f9) (fun _ => 49) (fun _ => 426) 185 (fun v => [some (.ref co), some (.int (nI t)), some (.int (nI b)), some (.int (nI k)), some (.int (nI n)), some (.int (nI (T (PL k)))), some (.int (nI (PL k + 1))), some (.int (nI 1)), some (.int (nI v)), none, none, none, none]) (fun _ => []) (fun v hv0 ih => ?_) (fun J => J 0 (Nat.zero_le _))
            refine g_iload (n := 187) C dL_isRebased_185 rfl rfl ?_
            refine g_iconst (n := 188) (v := nI 4) C dL_isRebased_187 rfl rfl ?_
            refine g_icmp_ge (n := 191) (tgt := 227) C dL_isRebased_188 (by decide) rfl (fun h188 => ?_) (fun h188 => ?_)
            · have e9 : 4 = v := by have := gn_ge h188 (by decide) (by omega); omega
              subst e9
              refine g_iload (n := 229) C dL_isRebased_227 rfl rfl ?_
              refine g_istore (n := 231) (ls' := [_, _, _, _, _, _, _, _, _, _, _, _, _]) C dL_isRebased_229 rfl (by decide) rfl ?_
              refine g_iload_n (n := 232) C dL_isRebased_231 rfl rfl ?_
              refine g_istore (n := 234) (ls' := [_, _, _, _, _, _, _, _, _, _, _, _, _]) C dL_isRebased_232 rfl (by decide) rfl ?_
              refine g_iconst (n := 235) (v := nI 1) C dL_isRebased_234 rfl rfl ?_
              refine g_istore (n := 237) (ls' := [_, _, _, _, _, _, _, _, _, _, _, _, _]) C dL_isRebased_235 rfl (by decide) rfl ?_
              refine g_loop (α := Nat) (fun i => 1 ≤ i ∧ i ≤ PL k + 1) (fun i => PL k + 1 - i) (fun _ => L9) (fun _ => f9) (fun _ => 49) (fun _ => 426) 237 (fun i => [some (.ref co), some (.int (nI t)), some (.int (nI b)), some (.int (nI k)), some (.int (nI n)), some (.int (nI (T (PL k)))), some (.int (nI (PL k + 1))), some (.int (nI 1)), some (.int (nI (T (PL k + 1 - i)))), some (.int (nI (O (PL k + 1 - i)))), some (.int (nI i)), none, none]) (fun _ => []) (fun i hi0 ih2 => ?_) (fun J => ?_)
              · refine g_iload (n := 239) C dL_isRebased_237 rfl rfl ?_
                refine g_iload (n := 241) C dL_isRebased_239 rfl rfl ?_
                refine g_icmp_ge (n := 244) (tgt := 349) C dL_isRebased_241 (by decide) rfl (fun h241 => ?_) (fun h241 => ?_)
                · skip
                  refine g_iload (n := 351) C dL_isRebased_349 rfl rfl ?_
                  refine g_zret C hr rfl dL_isRebased_351 ?_ ⟨by first | omega | (simp only [gRm]; omega), by first | omega | (simp only [gRm]; omega)⟩
                  exact ⟨rfl, n1, PR1, PL1, S1, A1, _, h1, hw1.2.2.2.2.2.2, fun j _ => hfr 3 j (by decide)⟩
                · have hip : i < PL k + 1 := gn_gt h241 (by omega) (by omega)
                  have hy1 : 1 ≤ PL k + 1 - i := by omega
                  have hy2 : PL k + 1 - i ≤ PL k := by omega
                  have hyn : PL k + 1 - (i + 1) = PL k + 1 - i - 1 := by omega
                  generalize PL k + 1 - i = y at hy1 hy2 hyn ⊢
                  obtain ⟨a1, a2, a3, a4, a5⟩ := hTT y hy1 hy2
                  obtain ⟨b1, b2, b3⟩ := hOO y hy2
                  have hT1 : T (y - 1) < n1 := by have := hpar1 _ a1; omega
                  have hT18 : A1 8 (T (y - 1)) = 0 := hlv1 _ _ a1 a2 a3
                  refine g_iload (n := 246) C dL_isRebased_244 rfl rfl ?_
                  refine g_if_eq (n := 249) (tgt := 349) C dL_isRebased_246 (by decide) rfl (fun h246 => (by first | exact absurd h246 (by decide) | exact (h246 (by decide)).elim)) (fun h246 => ?_)
                  refine g_iconst (n := 250) (v := nI 0) C dL_isRebased_249 rfl rfl ?_
                  refine g_istore (n := 252) (ls' := [_, _, _, _, _, _, _, _, _, _, _, _, _]) C dL_isRebased_250 rfl (by decide) rfl ?_
                  refine g_loop (α := Nat) (fun q => q ≤ 12) (fun q => 12 - q) (fun _ => L9) (fun _ => f9) (fun _ => 49) (fun _ => 426) 252 (fun q => [some (.ref co), some (.int (nI t)), some (.int (nI b)), some (.int (nI k)), some (.int (nI n)), some (.int (nI (T (PL k)))), some (.int (nI (PL k + 1))), some (.int (nI 1)), some (.int (nI (T y))), some (.int (nI (O y))), some (.int (nI i)), some (.int (nI q)), none]) (fun _ => []) (fun q hq0 ih3 => ?_) (fun J => J 0 (Nat.zero_le _))
                  refine g_iload (n := 254) C dL_isRebased_252 rfl rfl ?_
                  refine g_bipush (n := 256) (v := nI 12) C dL_isRebased_254 rfl rfl ?_
                  refine g_icmp_ge (n := 259) (tgt := 327) C dL_isRebased_256 (by decide) rfl (fun h256 => ?_) (fun h256 => ?_)
                  · skip
                    refine g_aload_n (n := 328) C dL_isRebased_327 rfl (Or.inr ⟨_, rfl⟩) rfl ?_
                    refine g_iload (n := 330) C dL_isRebased_328 rfl rfl ?_
                    refine g_V (n := 333) (rest := []) C (z_parentOf hE hl h1 (mc := 0) (ms := 0) (k := T y) a1 a2) dL_isRebased_330 kM_X5_parentOf kL_L_80 kV_X5_parentOf h1.co.choose_spec rfl rfl rfl (Nat.le_of_ble_eq_true rfl) ⟨by decide, by decide⟩ ⟨by first | omega | (simp only [gRm]; omega), by first | omega | (simp only [gRm]; omega)⟩ rfl (fun v9 L9 f9 hq => ?_)
                    obtain ⟨rfl, rfl, rfl⟩ := hq
                    refine G.sk (st' := [_]) rfl ?_
                    rw [a3, pI_nI]
                    refine g_istore (n := 335) (ls' := [_, _, _, _, _, _, _, _, _, _, _, _, _]) C dL_isRebased_333 rfl (by decide) rfl ?_
                    refine g_aload_n (n := 336) C dL_isRebased_335 rfl (Or.inr ⟨_, rfl⟩) rfl ?_
                    refine g_iload (n := 338) C dL_isRebased_336 rfl rfl ?_
                    refine g_V (n := 341) (rest := []) C (z_parentOf hE hl h1 (mc := 0) (ms := 0) (k := O y) b1 b2) dL_isRebased_338 kM_X5_parentOf kL_L_80 kV_X5_parentOf h1.co.choose_spec rfl rfl rfl (Nat.le_of_ble_eq_true rfl) ⟨by decide, by decide⟩ ⟨by first | omega | (simp only [gRm]; omega), by first | omega | (simp only [gRm]; omega)⟩ rfl (fun v9 L9 f9 hq => ?_)
                    obtain ⟨rfl, rfl, rfl⟩ := hq
                    refine G.sk (st' := [_]) rfl ?_
                    rw [b3 (by omega), pI_nI]
                    refine g_istore (n := 343) (ls' := [_, _, _, _, _, _, _, _, _, _, _, _, _]) C dL_isRebased_341 rfl (by decide) rfl ?_
                    refine g_iinc (n := 346) (ls' := [_, _, _, _, _, _, _, _, _, _, _, _, _]) C dL_isRebased_343 rfl (nI_1 _) rfl (by decide) rfl ?_
                    refine g_goto (tgt := 237) C dL_isRebased_346 (by decide) ?_
                    rw [← hyn]
                    exact G.wk (wk2.s (wk2.s (wk2.s (wk2.s (wk2.s (wk2.s (wk2.s (wk2.s (wk2.s (wk2.s (wk2.s (wk2.n (wk2.n wk2.z))))))))))))) (ih2 (i + 1) ⟨by omega, by omega⟩ (by omega))
                  · have hq9 : q < 12 := gn_gt h256 (by decide) (by omega)
                    refine g_iload (n := 261) C dL_isRebased_259 rfl rfl ?_
                    refine g_if_eq (n := 264) (tgt := 327) C dL_isRebased_261 (by decide) rfl (fun h261 => (by first | exact absurd h261 (by decide) | exact (h261 (by decide)).elim)) (fun h261 => ?_)
                    refine g_aload_n (n := 265) C dL_isRebased_264 rfl (Or.inr ⟨_, rfl⟩) rfl ?_
                    refine g_iload (n := 267) C dL_isRebased_265 rfl rfl ?_
                    refine g_iload (n := 269) C dL_isRebased_267 rfl rfl ?_
                    refine g_V (n := 272) (rest := []) C (z_heldAt hE hl h1 (mc := 0) (ms := 0) (k := O y) b1 b2 hq9) dL_isRebased_269 kM_X5_heldAt kL_L_86 kV_X5_heldAt h1.co.choose_spec rfl rfl rfl (Nat.le_of_ble_eq_true rfl) ⟨by decide, by decide⟩ ⟨by first | omega | (simp only [gRm]; omega), by first | omega | (simp only [gRm]; omega)⟩ rfl (fun v9 L9 f9 hq => ?_)
                    obtain ⟨rfl, rfl, rfl⟩ := hq
                    refine G.sk (st' := [_]) rfl ?_
                    refine g_istore (n := 274) (ls' := [_, _, _, _, _, _, _, _, _, _, _, _, _]) C dL_isRebased_272 rfl (by decide) rfl ?_
                    refine g_aload_n (n := 275) C dL_isRebased_274 rfl (Or.inr ⟨_, rfl⟩) rfl ?_
                    refine g_iload (n := 277) C dL_isRebased_275 rfl rfl ?_
                    refine g_iload (n := 279) C dL_isRebased_277 rfl rfl ?_
                    refine g_V (n := 282) (rest := []) C (z_heldAt hE hl h1 (mc := 0) (ms := 0) (k := T y) a1 a2 hq9) dL_isRebased_279 kM_X5_heldAt kL_L_86 kV_X5_heldAt h1.co.choose_spec rfl rfl rfl (Nat.le_of_ble_eq_true rfl) ⟨by decide, by decide⟩ ⟨by first | omega | (simp only [gRm]; omega), by first | omega | (simp only [gRm]; omega)⟩ rfl (fun v9 L9 f9 hq => ?_)
                    obtain ⟨rfl, rfl, rfl⟩ := hq
                    refine G.sk (st' := [_]) rfl ?_
                    refine g_iload (n := 284) C dL_isRebased_282 rfl rfl ?_
                    refine g_bipush (n := 286) (v := -2) C dL_isRebased_284 rfl rfl ?_
                    refine g_icmp_ne (n := 289) (tgt := 309) C dL_isRebased_286 (by decide) rfl (fun h286 => ?_) (fun h286 => ?_)
                    · have e286 := (a4 q hq9).trans (rbV_1 h286)
                      refine g_iload (n := 311) C dL_isRebased_309 rfl rfl ?_
                      refine g_icmp_ne (n := 314) (tgt := 318) C dL_isRebased_311 (by decide) rfl (fun h311 => absurd e286 h311) (fun h311 => ?_)
                      refine g_iconst (n := 315) (v := nI 1) C dL_isRebased_314 rfl rfl ?_
                      refine g_goto (tgt := 319) C dL_isRebased_315 (by decide) ?_
                      refine g_istore (n := 321) (ls' := [_, _, _, _, _, _, _, _, _, _, _, _, _]) C dL_isRebased_319 rfl (by decide) rfl ?_
                      refine g_iinc (n := 324) (ls' := [_, _, _, _, _, _, _, _, _, _, _, _, _]) C dL_isRebased_321 rfl (nI_1 _) rfl (by decide) rfl ?_
                      refine g_goto (tgt := 252) C dL_isRebased_324 (by decide) ?_
                      exact G.wk (wk2.s (wk2.s (wk2.s (wk2.s (wk2.s (wk2.s (wk2.s (wk2.s (wk2.s (wk2.s (wk2.s (wk2.s (wk2.n wk2.z))))))))))))) (ih3 (q + 1) (by omega) (by omega))
                    · skip
                      refine g_aload_n (n := 290) C dL_isRebased_289 rfl (Or.inr ⟨_, rfl⟩) rfl ?_
                      refine g_aload_n (n := 291) C dL_isRebased_290 rfl (Or.inr ⟨_, rfl⟩) rfl ?_
                      refine g_iload (n := 293) C dL_isRebased_291 rfl rfl ?_
                      refine g_V (n := 296) (rest := [_, _]) C (z_parentOf hE hl h1 (mc := 0) (ms := 0) (k := T y) a1 a2) dL_isRebased_293 kM_X5_parentOf kL_L_80 kV_X5_parentOf h1.co.choose_spec rfl rfl rfl (Nat.le_of_ble_eq_true rfl) ⟨by decide, by decide⟩ ⟨by first | omega | (simp only [gRm]; omega), by first | omega | (simp only [gRm]; omega)⟩ rfl (fun v9 L9 f9 hq => ?_)
                      obtain ⟨rfl, rfl, rfl⟩ := hq
                      refine G.sk (st' := [_, _, _]) rfl ?_
                      rw [a3, pI_nI]
                      refine g_iload (n := 298) C dL_isRebased_296 rfl rfl ?_
                      refine g_V (n := 301) (rest := [_]) C (z_shownAt hE hl h1 (mc := 0) (ms := 0) (k := T (y - 1)) hT1 hT18 hq9) dL_isRebased_298 kM_X5_shownAt kL_L_89 kV_X5_shownAt h1.co.choose_spec rfl rfl rfl (Nat.le_of_ble_eq_true rfl) ⟨by decide, by decide⟩ ⟨by first | omega | (simp only [gRm]; omega), by first | omega | (simp only [gRm]; omega)⟩ rfl (fun v9 L9 f9 hq => ?_)
                      obtain ⟨rfl, rfl, rfl⟩ := hq
                      refine G.sk (st' := [_, _]) rfl ?_
                      refine g_iconst (n := 302) (v := -1) C dL_isRebased_301 rfl rfl ?_
                      refine g_icmp_ne (n := 305) (tgt := 309) C dL_isRebased_302 (by decide) rfl (fun h302 => ?_) (fun h302 => ?_)
                      · have e302 := (a4 q hq9).trans (rbV_3 h302)
                        refine g_iload (n := 311) C dL_isRebased_309 rfl rfl ?_
                        refine g_icmp_ne (n := 314) (tgt := 318) C dL_isRebased_311 (by decide) rfl (fun h311 => absurd e302 h311) (fun h311 => ?_)
                        refine g_iconst (n := 315) (v := nI 1) C dL_isRebased_314 rfl rfl ?_
                        refine g_goto (tgt := 319) C dL_isRebased_315 (by decide) ?_
                        refine g_istore (n := 321) (ls' := [_, _, _, _, _, _, _, _, _, _, _, _, _]) C dL_isRebased_319 rfl (by decide) rfl ?_
                        refine g_iinc (n := 324) (ls' := [_, _, _, _, _, _, _, _, _, _, _, _, _]) C dL_isRebased_321 rfl (nI_1 _) rfl (by decide) rfl ?_
                        refine g_goto (tgt := 252) C dL_isRebased_324 (by decide) ?_
                        exact G.wk (wk2.s (wk2.s (wk2.s (wk2.s (wk2.s (wk2.s (wk2.s (wk2.s (wk2.s (wk2.s (wk2.s (wk2.s (wk2.n wk2.z))))))))))))) (ih3 (q + 1) (by omega) (by omega))
                      · have e302 := (a4 q hq9).trans (rbV_2 h286 h302)
                        refine g_iconst (n := 306) (v := -1) C dL_isRebased_305 rfl rfl ?_
                        refine g_goto (tgt := 311) C dL_isRebased_306 (by decide) ?_
                        refine g_icmp_ne (n := 314) (tgt := 318) C dL_isRebased_311 (by decide) rfl (fun h311 => absurd e302 h311) (fun h311 => ?_)
                        refine g_iconst (n := 315) (v := nI 1) C dL_isRebased_314 rfl rfl ?_
                        refine g_goto (tgt := 319) C dL_isRebased_315 (by decide) ?_
                        refine g_istore (n := 321) (ls' := [_, _, _, _, _, _, _, _, _, _, _, _, _]) C dL_isRebased_319 rfl (by decide) rfl ?_
                        refine g_iinc (n := 324) (ls' := [_, _, _, _, _, _, _, _, _, _, _, _, _]) C dL_isRebased_321 rfl (nI_1 _) rfl (by decide) rfl ?_
                        refine g_goto (tgt := 252) C dL_isRebased_324 (by decide) ?_
                        exact G.wk (wk2.s (wk2.s (wk2.s (wk2.s (wk2.s (wk2.s (wk2.s (wk2.s (wk2.s (wk2.s (wk2.s (wk2.s (wk2.n wk2.z))))))))))))) (ih3 (q + 1) (by omega) (by omega))
              · have J1 := J 1 ⟨Nat.le_refl _, by omega⟩
                rw [Nat.add_sub_cancel, hc.1] at J1
                exact J1
            · have hv4 : v < 4 := gn_gt h188 (by decide) (by omega)
              refine g_iload (n := 193) C dL_isRebased_191 rfl rfl ?_
              refine g_if_eq (n := 196) (tgt := 227) C dL_isRebased_193 (by decide) rfl (fun h193 => (by first | exact absurd h193 (by decide) | exact (h193 (by decide)).elim)) (fun h193 => ?_)
              refine g_aload_n (n := 197) C dL_isRebased_196 rfl (Or.inr ⟨_, rfl⟩) rfl ?_
              refine g_iload (n := 199) C dL_isRebased_197 rfl rfl ?_
              refine g_iload (n := 201) C dL_isRebased_199 rfl rfl ?_
              refine g_V (n := 204) (rest := []) C (z_variable hE hl h1 (mc := 0) (ms := 0) (k := T (PL k)) hTp hT8 hv4) dL_isRebased_201 kM_X5_variable kL_L_92 kV_X5_variable h1.co.choose_spec rfl rfl rfl (Nat.le_of_ble_eq_true rfl) ⟨by decide, by decide⟩ ⟨by first | omega | (simp only [gRm]; omega), by first | omega | (simp only [gRm]; omega)⟩ rfl (fun v9 L9 f9 hq => ?_)
              obtain ⟨rfl, rfl, rfl⟩ := hq
              refine G.sk (st' := [_]) rfl ?_
              refine g_aload_n (n := 205) C dL_isRebased_204 rfl (Or.inr ⟨_, rfl⟩) rfl ?_
              refine g_iload_n (n := 206) C dL_isRebased_205 rfl rfl ?_
              refine g_iload (n := 208) C dL_isRebased_206 rfl rfl ?_
              refine g_V (n := 211) (rest := [_]) C (z_variable hE hl h1 (mc := 0) (ms := 0) (k := k) hk1n hk81 hv4) dL_isRebased_208 kM_X5_variable kL_L_92 kV_X5_variable h1.co.choose_spec rfl rfl rfl (Nat.le_of_ble_eq_true rfl) ⟨by decide, by decide⟩ ⟨by first | omega | (simp only [gRm]; omega), by first | omega | (simp only [gRm]; omega)⟩ rfl (fun v9 L9 f9 hq => ?_)
              obtain ⟨rfl, rfl, rfl⟩ := hq
              refine G.sk (st' := [_, _]) rfl ?_
              refine g_icmp_ne (n := 214) (tgt := 218) C dL_isRebased_211 (by decide) rfl (fun h211 => absurd (hvv v hv4) h211) (fun h211 => ?_)
              refine g_iconst (n := 215) (v := nI 1) C dL_isRebased_214 rfl rfl ?_
              refine g_goto (tgt := 219) C dL_isRebased_215 (by decide) ?_
              refine g_istore (n := 221) (ls' := [_, _, _, _, _, _, _, _, _, _, _, _, _]) C dL_isRebased_219 rfl (by decide) rfl ?_
              refine g_iinc (n := 224) (ls' := [_, _, _, _, _, _, _, _, _, _, _, _, _]) C dL_isRebased_221 rfl (nI_1 _) rfl (by decide) rfl ?_
              refine g_goto (tgt := 185) C dL_isRebased_224 (by decide) ?_
              exact G.wk (wk2.s (wk2.s (wk2.s (wk2.s (wk2.s (wk2.s (wk2.s (wk2.s (wk2.s (wk2.s (wk2.s (wk2.s (wk2.s wk2.z))))))))))))) (ih (v + 1) (by omega) (by omega))
        · refine g_aload_n (n := 1) C dL_isRebased_0 rfl (Or.inr ⟨_, rfl⟩) rfl ?_
          refine g_iconst (n := 2) (v := nI 2) C dL_isRebased_1 rfl rfl ?_
          refine g_iload_n (n := 3) C dL_isRebased_2 rfl rfl ?_
          refine g_iconst (n := 4) (v := nI 0) C dL_isRebased_3 rfl rfl ?_
          refine g_SH (n := 7) (rest := []) C (tz_tagged hE hl hN h ht (nI 0)) dL_isRebased_4 kH_tags kW_L_141 kT_tags rfl rfl (Nat.le_of_ble_eq_true rfl) ⟨by decide, by decide⟩ ⟨by first | omega | (simp only [gRm]; omega), by first | omega | (simp only [gRm]; omega)⟩ rfl (fun v9 L9 f9 hq => ?_)
          obtain ⟨rfl, rfl, rfl⟩ := hq
          refine G.sk (st' := [_]) rfl ?_
          rw [e16]
          refine g_istore_n (n := 8) (ls' := [_, _, _, _, _, _, _, _, _, _, _, _, _]) C dL_isRebased_7 rfl (by decide) rfl ?_
          refine g_aload_n (n := 9) C dL_isRebased_8 rfl (Or.inr ⟨_, rfl⟩) rfl ?_
          refine g_V (n := 12) (rest := []) C (z_layers hE hl h (mc := 0) (ms := 0)) dL_isRebased_9 kM_X5_layers kL_L_111 kV_X5_layers h.co.choose_spec rfl rfl rfl (Nat.le_of_ble_eq_true rfl) ⟨by decide, by decide⟩ ⟨by first | omega | (simp only [gRm]; omega), by first | omega | (simp only [gRm]; omega)⟩ rfl (fun v9 L9 f9 hq => ?_)
          obtain ⟨rfl, rfl, rfl⟩ := hq
          refine G.sk (st' := [_]) rfl ?_
          refine g_istore (n := 14) (ls' := [_, _, _, _, _, _, _, _, _, _, _, _, _]) C dL_isRebased_12 rfl (by decide) rfl ?_
          refine g_aload_n (n := 15) C dL_isRebased_14 rfl (Or.inr ⟨_, rfl⟩) rfl ?_
          refine g_iconst (n := 16) (v := nI 4) C dL_isRebased_15 rfl rfl ?_
          refine g_iload_n (n := 17) C dL_isRebased_16 rfl rfl ?_
          refine g_iload_n (n := 18) C dL_isRebased_17 rfl rfl ?_
          refine g_SH (n := 21) (rest := []) C (tn_rebase_S hE hl hN h hT.tag (x := nI t) (y := nI b) ⟨⟨t, ht, rfl⟩, b, hb3, rfl⟩ (fun ⟨y1, y2⟩ => absurd y1 (by omega))) dL_isRebased_18 kH_tags kW_L_141 kT_tags rfl rfl (Nat.le_of_ble_eq_true rfl) ⟨by decide, by decide⟩ ⟨by first | omega | (simp only [gRm]; omega), by first | omega | (simp only [gRm]; omega)⟩ rfl (fun v9 L9 f9 hq => ?_)
          obtain ⟨rfl, rfl, rfl⟩ := hq
          refine G.sk (st' := [_]) rfl ?_
          refine g_istore (n := 23) (ls' := [_, _, _, _, _, _, _, _, _, _, _, _, _]) C dL_isRebased_21 rfl (by decide) rfl ?_
          refine g_iload_n (n := 24) C dL_isRebased_23 rfl rfl ?_
          refine g_iconst (n := 25) (v := nI 4) C dL_isRebased_24 rfl rfl ?_
          refine g_icmp_gt (n := 28) (tgt := 45) C dL_isRebased_25 (by decide) rfl (fun h25 => absurd h25 (fun y => by have := (nI_ltI (by decide) (by omega)).mp y; omega)) (fun h25 => ?_)
          refine g_iload_n (n := 29) C dL_isRebased_28 rfl rfl ?_
          refine g_iconst (n := 30) (v := nI 2) C dL_isRebased_29 rfl rfl ?_
          refine g_icmp_gt (n := 33) (tgt := 45) C dL_isRebased_30 (by decide) rfl (fun h30 => absurd h30 (fun y => by have := (nI_ltI (by decide) (by omega)).mp y; omega)) (fun h30 => ?_)
          refine g_iload_n (n := 34) C dL_isRebased_33 rfl rfl ?_
          refine g_if_lt (n := 37) (tgt := 45) C dL_isRebased_34 (by decide) rfl (fun h34 => absurd h34 (nI_n0 (by omega))) (fun h34 => ?_)
          refine g_iload (n := 39) C dL_isRebased_37 rfl rfl ?_
          refine g_sipush (n := 42) (v := nI 399) C dL_isRebased_39 rfl rfl ?_
          refine g_icmp_le (n := 45) (tgt := 82) C dL_isRebased_42 (by decide) rfl (fun h42 => absurd h42 (fun y => by have := gn_ge y (by omega) (by decide); omega)) (fun h42 => ?_)
          refine g_iload (n := 47) C dL_isRebased_45 rfl rfl ?_
          refine g_iload_n (n := 48) C dL_isRebased_47 rfl rfl ?_
          refine g_iconst (n := 49) (v := nI 4) C dL_isRebased_48 rfl rfl ?_
          refine g_icmp_gt (n := 52) (tgt := 57) C dL_isRebased_49 (by decide) rfl (fun h49 => absurd h49 (fun y => by have := (nI_ltI (by decide) (by omega)).mp y; omega)) (fun h49 => ?_)
          refine g_iload_n (n := 53) C dL_isRebased_52 rfl rfl ?_
          refine g_iconst (n := 54) (v := nI 2) C dL_isRebased_53 rfl rfl ?_
          refine g_icmp_le (n := 57) (tgt := 62) C dL_isRebased_54 (by decide) rfl (fun h54 => ?_) (fun h54 => absurd ((nI_leI (by omega) (by decide)).mpr (by omega)) h54)
          refine g_bipush (n := 64) (v := -10) C dL_isRebased_62 rfl rfl ?_
          refine g_icmp_ne (n := 67) (tgt := 80) C dL_isRebased_64 (by decide) rfl (fun h64 => absurd rfl h64) (fun h64 => ?_)
          refine g_aload_n (n := 68) C dL_isRebased_67 rfl (Or.inr ⟨_, rfl⟩) rfl ?_
          refine g_V (n := 71) (rest := []) C (z_layers hE hl h (mc := 0) (ms := 0)) dL_isRebased_68 kM_X5_layers kL_L_111 kV_X5_layers h.co.choose_spec rfl rfl rfl (Nat.le_of_ble_eq_true rfl) ⟨by decide, by decide⟩ ⟨by first | omega | (simp only [gRm]; omega), by first | omega | (simp only [gRm]; omega)⟩ rfl (fun v9 L9 f9 hq => ?_)
          obtain ⟨rfl, rfl, rfl⟩ := hq
          refine G.sk (st' := [_]) rfl ?_
          refine g_iload (n := 73) C dL_isRebased_71 rfl rfl ?_
          refine g_icmp_ne (n := 76) (tgt := 80) C dL_isRebased_73 (by decide) rfl (fun h73 => absurd rfl h73) (fun h73 => ?_)
          refine g_iconst (n := 77) (v := nI 1) C dL_isRebased_76 rfl rfl ?_
          refine g_goto (tgt := 81) C dL_isRebased_77 (by decide) ?_
          refine g_zret C hr rfl dL_isRebased_81 ?_ ⟨by first | omega | (simp only [gRm]; omega), by first | omega | (simp only [gRm]; omega)⟩
          exact ⟨rfl, n, PR, PL, S, A, I, h, hi, fun _ _ => rfl⟩
      · refine g_aload_n (n := 1) C dL_isRebased_0 rfl (Or.inr ⟨_, rfl⟩) rfl ?_
        refine g_iconst (n := 2) (v := nI 2) C dL_isRebased_1 rfl rfl ?_
        refine g_iload_n (n := 3) C dL_isRebased_2 rfl rfl ?_
        refine g_iconst (n := 4) (v := nI 0) C dL_isRebased_3 rfl rfl ?_
        refine g_SH (n := 7) (rest := []) C (tz_tagged hE hl hN h ht (nI 0)) dL_isRebased_4 kH_tags kW_L_141 kT_tags rfl rfl (Nat.le_of_ble_eq_true rfl) ⟨by decide, by decide⟩ ⟨by first | omega | (simp only [gRm]; omega), by first | omega | (simp only [gRm]; omega)⟩ rfl (fun v9 L9 f9 hq => ?_)
        obtain ⟨rfl, rfl, rfl⟩ := hq
        refine G.sk (st' := [_]) rfl ?_
        rw [e16]
        refine g_istore_n (n := 8) (ls' := [_, _, _, _, _, _, _, _, _, _, _, _, _]) C dL_isRebased_7 rfl (by decide) rfl ?_
        refine g_aload_n (n := 9) C dL_isRebased_8 rfl (Or.inr ⟨_, rfl⟩) rfl ?_
        refine g_V (n := 12) (rest := []) C (z_layers hE hl h (mc := 0) (ms := 0)) dL_isRebased_9 kM_X5_layers kL_L_111 kV_X5_layers h.co.choose_spec rfl rfl rfl (Nat.le_of_ble_eq_true rfl) ⟨by decide, by decide⟩ ⟨by first | omega | (simp only [gRm]; omega), by first | omega | (simp only [gRm]; omega)⟩ rfl (fun v9 L9 f9 hq => ?_)
        obtain ⟨rfl, rfl, rfl⟩ := hq
        refine G.sk (st' := [_]) rfl ?_
        refine g_istore (n := 14) (ls' := [_, _, _, _, _, _, _, _, _, _, _, _, _]) C dL_isRebased_12 rfl (by decide) rfl ?_
        refine g_aload_n (n := 15) C dL_isRebased_14 rfl (Or.inr ⟨_, rfl⟩) rfl ?_
        refine g_iconst (n := 16) (v := nI 4) C dL_isRebased_15 rfl rfl ?_
        refine g_iload_n (n := 17) C dL_isRebased_16 rfl rfl ?_
        refine g_iload_n (n := 18) C dL_isRebased_17 rfl rfl ?_
        refine g_SH (n := 21) (rest := []) C (tn_rebase_I hE hl hN h hT.tag (x := nI t) (y := nI b) (fun ⟨_, i, hi5, e⟩ => by have := gn_inj (by omega) (by omega) e; omega)) dL_isRebased_18 kH_tags kW_L_141 kT_tags rfl rfl (Nat.le_of_ble_eq_true rfl) ⟨by decide, by decide⟩ ⟨by first | omega | (simp only [gRm]; omega), by first | omega | (simp only [gRm]; omega)⟩ rfl (fun v9 L9 f9 hq => ?_)
        obtain ⟨rfl, rfl, rfl⟩ := hq
        refine G.sk (st' := [_]) rfl ?_
        refine g_istore (n := 23) (ls' := [_, _, _, _, _, _, _, _, _, _, _, _, _]) C dL_isRebased_21 rfl (by decide) rfl ?_
        refine g_iload_n (n := 24) C dL_isRebased_23 rfl rfl ?_
        refine g_iconst (n := 25) (v := nI 4) C dL_isRebased_24 rfl rfl ?_
        refine g_icmp_gt (n := 28) (tgt := 45) C dL_isRebased_25 (by decide) rfl (fun h25 => absurd h25 (fun y => by have := (nI_ltI (by decide) (by omega)).mp y; omega)) (fun h25 => ?_)
        refine g_iload_n (n := 29) C dL_isRebased_28 rfl rfl ?_
        refine g_iconst (n := 30) (v := nI 2) C dL_isRebased_29 rfl rfl ?_
        refine g_icmp_gt (n := 33) (tgt := 45) C dL_isRebased_30 (by decide) rfl (fun h30 => ?_) (fun h30 => absurd ((nI_ltI (by decide) (by omega)).mpr (by omega)) h30)
        refine g_iload (n := 47) C dL_isRebased_45 rfl rfl ?_
        refine g_iload_n (n := 48) C dL_isRebased_47 rfl rfl ?_
        refine g_iconst (n := 49) (v := nI 4) C dL_isRebased_48 rfl rfl ?_
        refine g_icmp_gt (n := 52) (tgt := 57) C dL_isRebased_49 (by decide) rfl (fun h49 => absurd h49 (fun y => by have := (nI_ltI (by decide) (by omega)).mp y; omega)) (fun h49 => ?_)
        refine g_iload_n (n := 53) C dL_isRebased_52 rfl rfl ?_
        refine g_iconst (n := 54) (v := nI 2) C dL_isRebased_53 rfl rfl ?_
        refine g_icmp_le (n := 57) (tgt := 62) C dL_isRebased_54 (by decide) rfl (fun h54 => absurd h54 (fun y => by have := gn_ge y (by omega) (by decide); omega)) (fun h54 => ?_)
        refine g_bipush (n := 59) (v := -30) C dL_isRebased_57 rfl rfl ?_
        refine g_goto (tgt := 64) C dL_isRebased_59 (by decide) ?_
        refine g_icmp_ne (n := 67) (tgt := 80) C dL_isRebased_64 (by decide) rfl (fun h64 => absurd rfl h64) (fun h64 => ?_)
        refine g_aload_n (n := 68) C dL_isRebased_67 rfl (Or.inr ⟨_, rfl⟩) rfl ?_
        refine g_V (n := 71) (rest := []) C (z_layers hE hl h (mc := 0) (ms := 0)) dL_isRebased_68 kM_X5_layers kL_L_111 kV_X5_layers h.co.choose_spec rfl rfl rfl (Nat.le_of_ble_eq_true rfl) ⟨by decide, by decide⟩ ⟨by first | omega | (simp only [gRm]; omega), by first | omega | (simp only [gRm]; omega)⟩ rfl (fun v9 L9 f9 hq => ?_)
        obtain ⟨rfl, rfl, rfl⟩ := hq
        refine G.sk (st' := [_]) rfl ?_
        refine g_iload (n := 73) C dL_isRebased_71 rfl rfl ?_
        refine g_icmp_ne (n := 76) (tgt := 80) C dL_isRebased_73 (by decide) rfl (fun h73 => absurd rfl h73) (fun h73 => ?_)
        refine g_iconst (n := 77) (v := nI 1) C dL_isRebased_76 rfl rfl ?_
        refine g_goto (tgt := 81) C dL_isRebased_77 (by decide) ?_
        refine g_zret C hr rfl dL_isRebased_81 ?_ ⟨by first | omega | (simp only [gRm]; omega), by first | omega | (simp only [gRm]; omega)⟩
        exact ⟨rfl, n, PR, PL, S, A, I, h, hi, fun _ _ => rfl⟩
  · refine g_aload_n (n := 1) C dL_isRebased_0 rfl (Or.inr ⟨_, rfl⟩) rfl ?_
    refine g_iconst (n := 2) (v := nI 2) C dL_isRebased_1 rfl rfl ?_
    refine g_iload_n (n := 3) C dL_isRebased_2 rfl rfl ?_
    refine g_iconst (n := 4) (v := nI 0) C dL_isRebased_3 rfl rfl ?_
    refine g_SH (n := 7) (rest := []) C (tn_tagged hE hl hN h (x := nI t) (fun ⟨i, hi5, e⟩ => by have := gn_inj (by omega) (by omega) e; omega) (nI 0)) dL_isRebased_4 kH_tags kW_L_141 kT_tags rfl rfl (Nat.le_of_ble_eq_true rfl) ⟨by decide, by decide⟩ ⟨by first | omega | (simp only [gRm]; omega), by first | omega | (simp only [gRm]; omega)⟩ rfl (fun v9 L9 f9 hq => ?_)
    obtain ⟨rfl, rfl, rfl⟩ := hq
    refine G.sk (st' := [_]) rfl ?_
    refine g_istore_n (n := 8) (ls' := [_, _, _, _, _, _, _, _, _, _, _, _, _]) C dL_isRebased_7 rfl (by decide) rfl ?_
    refine g_aload_n (n := 9) C dL_isRebased_8 rfl (Or.inr ⟨_, rfl⟩) rfl ?_
    refine g_V (n := 12) (rest := []) C (z_layers hE hl h (mc := 0) (ms := 0)) dL_isRebased_9 kM_X5_layers kL_L_111 kV_X5_layers h.co.choose_spec rfl rfl rfl (Nat.le_of_ble_eq_true rfl) ⟨by decide, by decide⟩ ⟨by first | omega | (simp only [gRm]; omega), by first | omega | (simp only [gRm]; omega)⟩ rfl (fun v9 L9 f9 hq => ?_)
    obtain ⟨rfl, rfl, rfl⟩ := hq
    refine G.sk (st' := [_]) rfl ?_
    refine g_istore (n := 14) (ls' := [_, _, _, _, _, _, _, _, _, _, _, _, _]) C dL_isRebased_12 rfl (by decide) rfl ?_
    refine g_aload_n (n := 15) C dL_isRebased_14 rfl (Or.inr ⟨_, rfl⟩) rfl ?_
    refine g_iconst (n := 16) (v := nI 4) C dL_isRebased_15 rfl rfl ?_
    refine g_iload_n (n := 17) C dL_isRebased_16 rfl rfl ?_
    refine g_iload_n (n := 18) C dL_isRebased_17 rfl rfl ?_
    refine g_SH (n := 21) (rest := []) C (tn_rebase_I hE hl hN h hT.tag (x := nI t) (y := nI b) (fun ⟨⟨i, hi5, e⟩, _⟩ => by have := gn_inj (by omega) (by omega) e; omega)) dL_isRebased_18 kH_tags kW_L_141 kT_tags rfl rfl (Nat.le_of_ble_eq_true rfl) ⟨by decide, by decide⟩ ⟨by first | omega | (simp only [gRm]; omega), by first | omega | (simp only [gRm]; omega)⟩ rfl (fun v9 L9 f9 hq => ?_)
    obtain ⟨rfl, rfl, rfl⟩ := hq
    refine G.sk (st' := [_]) rfl ?_
    refine g_istore (n := 23) (ls' := [_, _, _, _, _, _, _, _, _, _, _, _, _]) C dL_isRebased_21 rfl (by decide) rfl ?_
    refine g_iload_n (n := 24) C dL_isRebased_23 rfl rfl ?_
    refine g_iconst (n := 25) (v := nI 4) C dL_isRebased_24 rfl rfl ?_
    refine g_icmp_gt (n := 28) (tgt := 45) C dL_isRebased_25 (by decide) rfl (fun h25 => ?_) (fun h25 => absurd ((nI_ltI (by decide) (by omega)).mpr (by omega)) h25)
    refine g_iload (n := 47) C dL_isRebased_45 rfl rfl ?_
    refine g_iload_n (n := 48) C dL_isRebased_47 rfl rfl ?_
    refine g_iconst (n := 49) (v := nI 4) C dL_isRebased_48 rfl rfl ?_
    refine g_icmp_gt (n := 52) (tgt := 57) C dL_isRebased_49 (by decide) rfl (fun h49 => ?_) (fun h49 => absurd ((nI_ltI (by decide) (by omega)).mpr (by omega)) h49)
    refine g_bipush (n := 59) (v := -30) C dL_isRebased_57 rfl rfl ?_
    refine g_goto (tgt := 64) C dL_isRebased_59 (by decide) ?_
    refine g_icmp_ne (n := 67) (tgt := 80) C dL_isRebased_64 (by decide) rfl (fun h64 => absurd rfl h64) (fun h64 => ?_)
    refine g_aload_n (n := 68) C dL_isRebased_67 rfl (Or.inr ⟨_, rfl⟩) rfl ?_
    refine g_V (n := 71) (rest := []) C (z_layers hE hl h (mc := 0) (ms := 0)) dL_isRebased_68 kM_X5_layers kL_L_111 kV_X5_layers h.co.choose_spec rfl rfl rfl (Nat.le_of_ble_eq_true rfl) ⟨by decide, by decide⟩ ⟨by first | omega | (simp only [gRm]; omega), by first | omega | (simp only [gRm]; omega)⟩ rfl (fun v9 L9 f9 hq => ?_)
    obtain ⟨rfl, rfl, rfl⟩ := hq
    refine G.sk (st' := [_]) rfl ?_
    refine g_iload (n := 73) C dL_isRebased_71 rfl rfl ?_
    refine g_icmp_ne (n := 76) (tgt := 80) C dL_isRebased_73 (by decide) rfl (fun h73 => absurd rfl h73) (fun h73 => ?_)
    refine g_iconst (n := 77) (v := nI 1) C dL_isRebased_76 rfl rfl ?_
    refine g_goto (tgt := 81) C dL_isRebased_77 (by decide) ?_
    refine g_zret C hr rfl dL_isRebased_81 ?_ ⟨by first | omega | (simp only [gRm]; omega), by first | omega | (simp only [gRm]; omega)⟩
    exact ⟨rfl, n, PR, PL, S, A, I, h, hi, fun _ _ => rfl⟩

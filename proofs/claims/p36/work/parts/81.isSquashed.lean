/-! ===== the law, IX: squash ===== -/
theorem tag_0 {A : Nat → Nat → Int32} {n t : Nat} {TG : Nat → Nat} (hT : vTgl A n TG) (ht : t < 5) (hz : TG t = 0) : A 16 t = -1 := by
  rw [(hT t ht).2.1, hz]; rfl
theorem tag_s {A : Nat → Nat → Int32} {n t k : Nat} {TG : Nat → Nat} (hT : vTgl A n TG) (ht : t < 5) (hz : TG t = k + 1) : A 16 t = nI k ∧ k < n ∧ A 8 k = 0 := by
  obtain ⟨t1, t2, t3⟩ := hT t ht
  rw [hz] at t1 t2
  exact ⟨t2, t1, t3 k hz⟩
theorem sqC1_y {PL TG : Nat → Nat} {t z : Nat} (ht : t < 5) (hz : 0 < z) (hz6 : z < 6) (h : ∀ k, TG t = k + 1 → z < PL k + 1) : sqC1 PL TG (nI t) (nI z) := ⟨t, z, ht, rfl, rfl, hz, by omega, h⟩
theorem sqC1_u {PL TG : Nat → Nat} {t z : Nat} (ht : t < 6) (hz6 : z < 6) (h : sqC1 PL TG (nI t) (nI z)) : t < 5 ∧ 0 < z ∧ ∀ k, TG t = k + 1 → z < PL k + 1 := by
  obtain ⟨i, y, hi, e1, e2, h1, h2, h3⟩ := h
  have ei : t = i := gn_inj (by omega) (by omega) e1
  have ey : z = y := gn_inj (by omega) h2 e2
  subst ei
  subst ey
  exact ⟨hi, h1, h3⟩
theorem l_isSquashed {l : Launch} {s0 : State} {D : va_G} {cy : Nat → ClassId} (hE : gE s0 D cy) (hl : l.stackTraces = false) {L : List Nat} {f : gF} (hN : gN9 s0) {co n : Nat} {PR PL : Nat → Nat} {S A : Nat → Nat → Int32} {I : Nat → Int32} (h : CX cy co n PR PL S A I L f) (hi : INV A n PR S) {t z : Nat} (ht6 : t < 6) (hz6 : z < 6) : gM l s0 D yL_isSquashed cL_isSquashed 11 (some .boolean) 10 10 66 [.ref co, .int (nI t), .int (nI z)] L f (fun v L1 f1 => v = some (.int 1) ∧ LWo cy co (A 3) L1 f1) := by
  refine gM.of (own := RL) hE hl (by decide +kernel) rfl rfl (Nat.le_of_ble_eq_true rfl) (fun p9 e9 s9 m9 a99 b99 t99 c9 C hr hnm => ?_)
  refine G.weak (ls' := [some (.ref co), some (.int (nI t)), some (.int (nI z)), none, none, none, none, none, none, none, none]) ?_ rfl (fun _ _ h => h)
  obtain ⟨i7, hn9, hPR, hsh, hpl, hpb, hlv⟩ := h.nv
  have hpar : ∀ k, k < n → PR k ≤ k := fun k hk => (hPR k hk).1
  obtain ⟨TG, hT⟩ := h.tgs
  by_cases ht : t < 5
  · cases hk1 : TG t with
    | zero =>
      have e16 := tag_0 hT ht hk1
      by_cases hz0 : z = 0
      · refine g_aload_n (n := 1) C dL_isSquashed_0 rfl (Or.inr ⟨_, rfl⟩) rfl ?_
        refine g_iconst (n := 2) (v := nI 2) C dL_isSquashed_1 rfl rfl ?_
        refine g_iload_n (n := 3) C dL_isSquashed_2 rfl rfl ?_
        refine g_iconst (n := 4) (v := nI 0) C dL_isSquashed_3 rfl rfl ?_
        refine g_SH (n := 7) (rest := []) C (tz_tagged hE hl hN h ht (nI 0)) dL_isSquashed_4 kH_tags kW_L_141 kT_tags rfl rfl (Nat.le_of_ble_eq_true rfl) ⟨by decide, by decide⟩ ⟨by first | omega | (simp only [gRm]; omega), by first | omega | (simp only [gRm]; omega)⟩ rfl (fun v9 L9 f9 hq => ?_)
        obtain ⟨rfl, rfl, rfl⟩ := hq
        refine G.sk (st' := [_]) rfl ?_
        rw [e16]
        refine g_istore_n (n := 8) (ls' := [_, _, _, _, _, _, _, _, _, _, _]) C dL_isSquashed_7 rfl (by decide) rfl ?_
        refine g_aload_n (n := 9) C dL_isSquashed_8 rfl (Or.inr ⟨_, rfl⟩) rfl ?_
        refine g_V (n := 12) (rest := []) C (z_layers hE hl h (mc := 0) (ms := 0)) dL_isSquashed_9 kM_X5_layers kL_L_111 kV_X5_layers h.co.choose_spec rfl rfl rfl (Nat.le_of_ble_eq_true rfl) ⟨by decide, by decide⟩ ⟨by first | omega | (simp only [gRm]; omega), by first | omega | (simp only [gRm]; omega)⟩ rfl (fun v9 L9 f9 hq => ?_)
        obtain ⟨rfl, rfl, rfl⟩ := hq
        refine G.sk (st' := [_]) rfl ?_
        refine g_istore (n := 14) (ls' := [_, _, _, _, _, _, _, _, _, _, _]) C dL_isSquashed_12 rfl (by decide) rfl ?_
        refine g_iload_n (n := 15) C dL_isSquashed_14 rfl rfl ?_
        refine g_if_ge (n := 18) (tgt := 22) C dL_isSquashed_15 (by decide) rfl (fun h15 => absurd h15 (by decide)) (fun h15 => ?_)
        refine g_iconst (n := 19) (v := nI 0) C dL_isSquashed_18 rfl rfl ?_
        refine g_goto (tgt := 27) C dL_isSquashed_19 (by decide) ?_
        refine g_istore (n := 29) (ls' := [_, _, _, _, _, _, _, _, _, _, _]) C dL_isSquashed_27 rfl (by decide) rfl ?_
        refine g_aload_n (n := 30) C dL_isSquashed_29 rfl (Or.inr ⟨_, rfl⟩) rfl ?_
        refine g_iconst (n := 31) (v := nI 3) C dL_isSquashed_30 rfl rfl ?_
        refine g_iload_n (n := 32) C dL_isSquashed_31 rfl rfl ?_
        refine g_iload_n (n := 33) C dL_isSquashed_32 rfl rfl ?_
        refine g_SH (n := 36) (rest := []) C (tn_squash_I hE hl hN h hT.tag (x := nI t) (y := nI z) (fun y => by obtain ⟨y1, y2, y3⟩ := sqC1_u ht6 hz6 y; omega)) dL_isSquashed_33 kH_tags kW_L_141 kT_tags rfl rfl (Nat.le_of_ble_eq_true rfl) ⟨by decide, by decide⟩ ⟨by first | omega | (simp only [gRm]; omega), by first | omega | (simp only [gRm]; omega)⟩ rfl (fun v9 L9 f9 hq => ?_)
        obtain ⟨rfl, rfl, rfl⟩ := hq
        refine G.sk (st' := [_]) rfl ?_
        refine g_istore (n := 38) (ls' := [_, _, _, _, _, _, _, _, _, _, _]) C dL_isSquashed_36 rfl (by decide) rfl ?_
        refine g_iload_n (n := 39) C dL_isSquashed_38 rfl rfl ?_
        refine g_iconst (n := 40) (v := nI 5) C dL_isSquashed_39 rfl rfl ?_
        refine g_icmp_ge (n := 43) (tgt := 61) C dL_isSquashed_40 (by decide) rfl (fun h40 => absurd h40 (fun y => by have := gn_ge y (by decide) (by omega); omega)) (fun h40 => ?_)
        refine g_iload_n (n := 44) C dL_isSquashed_43 rfl rfl ?_
        refine g_if_le (n := 47) (tgt := 61) C dL_isSquashed_44 (by decide) rfl (fun h44 => ?_) (fun h44 => absurd (by rw [hz0]; decide) h44)
        refine g_iconst (n := 62) (v := nI 0) C dL_isSquashed_61 rfl rfl ?_
        refine g_istore (n := 64) (ls' := [_, _, _, _, _, _, _, _, _, _, _]) C dL_isSquashed_62 rfl (by decide) rfl ?_
        refine g_iload (n := 66) C dL_isSquashed_64 rfl rfl ?_
        refine g_if_eq (n := 69) (tgt := 81) C dL_isSquashed_66 (by decide) rfl (fun h66 => ?_) (fun h66 => absurd (by decide) h66)
        refine g_iload (n := 83) C dL_isSquashed_81 rfl rfl ?_
        refine g_iload (n := 85) C dL_isSquashed_83 rfl rfl ?_
        refine g_if_eq (n := 88) (tgt := 93) C dL_isSquashed_85 (by decide) rfl (fun h85 => ?_) (fun h85 => absurd (by decide) h85)
        refine g_bipush (n := 95) (v := -30) C dL_isSquashed_93 rfl rfl ?_
        refine g_icmp_ne (n := 98) (tgt := 111) C dL_isSquashed_95 (by decide) rfl (fun h95 => absurd rfl h95) (fun h95 => ?_)
        refine g_aload_n (n := 99) C dL_isSquashed_98 rfl (Or.inr ⟨_, rfl⟩) rfl ?_
        refine g_V (n := 102) (rest := []) C (z_layers hE hl h (mc := 0) (ms := 0)) dL_isSquashed_99 kM_X5_layers kL_L_111 kV_X5_layers h.co.choose_spec rfl rfl rfl (Nat.le_of_ble_eq_true rfl) ⟨by decide, by decide⟩ ⟨by first | omega | (simp only [gRm]; omega), by first | omega | (simp only [gRm]; omega)⟩ rfl (fun v9 L9 f9 hq => ?_)
        obtain ⟨rfl, rfl, rfl⟩ := hq
        refine G.sk (st' := [_]) rfl ?_
        refine g_iload (n := 104) C dL_isSquashed_102 rfl rfl ?_
        refine g_icmp_ne (n := 107) (tgt := 111) C dL_isSquashed_104 (by decide) rfl (fun h104 => absurd rfl h104) (fun h104 => ?_)
        refine g_iconst (n := 108) (v := nI 1) C dL_isSquashed_107 rfl rfl ?_
        refine g_goto (tgt := 112) C dL_isSquashed_108 (by decide) ?_
        refine g_zret C hr rfl dL_isSquashed_112 ?_ ⟨by first | omega | (simp only [gRm]; omega), by first | omega | (simp only [gRm]; omega)⟩
        exact ⟨rfl, n, PR, PL, S, A, I, h, hi, fun _ _ => rfl⟩
      · refine g_aload_n (n := 1) C dL_isSquashed_0 rfl (Or.inr ⟨_, rfl⟩) rfl ?_
        refine g_iconst (n := 2) (v := nI 2) C dL_isSquashed_1 rfl rfl ?_
        refine g_iload_n (n := 3) C dL_isSquashed_2 rfl rfl ?_
        refine g_iconst (n := 4) (v := nI 0) C dL_isSquashed_3 rfl rfl ?_
        refine g_SH (n := 7) (rest := []) C (tz_tagged hE hl hN h ht (nI 0)) dL_isSquashed_4 kH_tags kW_L_141 kT_tags rfl rfl (Nat.le_of_ble_eq_true rfl) ⟨by decide, by decide⟩ ⟨by first | omega | (simp only [gRm]; omega), by first | omega | (simp only [gRm]; omega)⟩ rfl (fun v9 L9 f9 hq => ?_)
        obtain ⟨rfl, rfl, rfl⟩ := hq
        refine G.sk (st' := [_]) rfl ?_
        rw [e16]
        refine g_istore_n (n := 8) (ls' := [_, _, _, _, _, _, _, _, _, _, _]) C dL_isSquashed_7 rfl (by decide) rfl ?_
        refine g_aload_n (n := 9) C dL_isSquashed_8 rfl (Or.inr ⟨_, rfl⟩) rfl ?_
        refine g_V (n := 12) (rest := []) C (z_layers hE hl h (mc := 0) (ms := 0)) dL_isSquashed_9 kM_X5_layers kL_L_111 kV_X5_layers h.co.choose_spec rfl rfl rfl (Nat.le_of_ble_eq_true rfl) ⟨by decide, by decide⟩ ⟨by first | omega | (simp only [gRm]; omega), by first | omega | (simp only [gRm]; omega)⟩ rfl (fun v9 L9 f9 hq => ?_)
        obtain ⟨rfl, rfl, rfl⟩ := hq
        refine G.sk (st' := [_]) rfl ?_
        refine g_istore (n := 14) (ls' := [_, _, _, _, _, _, _, _, _, _, _]) C dL_isSquashed_12 rfl (by decide) rfl ?_
        refine g_iload_n (n := 15) C dL_isSquashed_14 rfl rfl ?_
        refine g_if_ge (n := 18) (tgt := 22) C dL_isSquashed_15 (by decide) rfl (fun h15 => absurd h15 (by decide)) (fun h15 => ?_)
        refine g_iconst (n := 19) (v := nI 0) C dL_isSquashed_18 rfl rfl ?_
        refine g_goto (tgt := 27) C dL_isSquashed_19 (by decide) ?_
        refine g_istore (n := 29) (ls' := [_, _, _, _, _, _, _, _, _, _, _]) C dL_isSquashed_27 rfl (by decide) rfl ?_
        refine g_aload_n (n := 30) C dL_isSquashed_29 rfl (Or.inr ⟨_, rfl⟩) rfl ?_
        refine g_iconst (n := 31) (v := nI 3) C dL_isSquashed_30 rfl rfl ?_
        refine g_iload_n (n := 32) C dL_isSquashed_31 rfl rfl ?_
        refine g_iload_n (n := 33) C dL_isSquashed_32 rfl rfl ?_
        refine g_SH (n := 36) (rest := []) C (tn_squash_S hE hl hN h hT.tag (x := nI t) (y := nI z) (sqC1_y ht (by omega) hz6 (fun k2 hk2 => by omega)) (fun ⟨y1, y2⟩ => y2 t ht rfl hk1)) dL_isSquashed_33 kH_tags kW_L_141 kT_tags rfl rfl (Nat.le_of_ble_eq_true rfl) ⟨by decide, by decide⟩ ⟨by first | omega | (simp only [gRm]; omega), by first | omega | (simp only [gRm]; omega)⟩ rfl (fun v9 L9 f9 hq => ?_)
        obtain ⟨rfl, rfl, rfl⟩ := hq
        refine G.sk (st' := [_]) rfl ?_
        refine g_istore (n := 38) (ls' := [_, _, _, _, _, _, _, _, _, _, _]) C dL_isSquashed_36 rfl (by decide) rfl ?_
        refine g_iload_n (n := 39) C dL_isSquashed_38 rfl rfl ?_
        refine g_iconst (n := 40) (v := nI 5) C dL_isSquashed_39 rfl rfl ?_
        refine g_icmp_ge (n := 43) (tgt := 61) C dL_isSquashed_40 (by decide) rfl (fun h40 => absurd h40 (fun y => by have := gn_ge y (by decide) (by omega); omega)) (fun h40 => ?_)
        refine g_iload_n (n := 44) C dL_isSquashed_43 rfl rfl ?_
        refine g_if_le (n := 47) (tgt := 61) C dL_isSquashed_44 (by decide) rfl (fun h44 => absurd h44 (fun y => by have := gn_ge (b := 0) y (by omega) (by decide); omega)) (fun h44 => ?_)
        refine g_iload_n (n := 48) C dL_isSquashed_47 rfl rfl ?_
        refine g_if_lt (n := 51) (tgt := 57) C dL_isSquashed_48 (by decide) rfl (fun h48 => ?_) (fun h48 => absurd (by decide) h48)
        refine g_iconst (n := 58) (v := nI 1) C dL_isSquashed_57 rfl rfl ?_
        refine g_goto (tgt := 62) C dL_isSquashed_58 (by decide) ?_
        refine g_istore (n := 64) (ls' := [_, _, _, _, _, _, _, _, _, _, _]) C dL_isSquashed_62 rfl (by decide) rfl ?_
        refine g_iload (n := 66) C dL_isSquashed_64 rfl rfl ?_
        refine g_if_eq (n := 69) (tgt := 81) C dL_isSquashed_66 (by decide) rfl (fun h66 => (by first | exact absurd h66 (by decide) | exact (h66 (by decide)).elim)) (fun h66 => ?_)
        refine g_iload_n (n := 70) C dL_isSquashed_69 rfl rfl ?_
        refine g_if_lt (n := 73) (tgt := 81) C dL_isSquashed_70 (by decide) rfl (fun h70 => ?_) (fun h70 => absurd (by decide) h70)
        refine g_iload (n := 83) C dL_isSquashed_81 rfl rfl ?_
        refine g_iload (n := 85) C dL_isSquashed_83 rfl rfl ?_
        refine g_if_eq (n := 88) (tgt := 93) C dL_isSquashed_85 (by decide) rfl (fun h85 => (by first | exact absurd h85 (by decide) | exact (h85 (by decide)).elim)) (fun h85 => ?_)
        refine g_bipush (n := 90) (v := -10) C dL_isSquashed_88 rfl rfl ?_
        refine g_goto (tgt := 95) C dL_isSquashed_90 (by decide) ?_
        refine g_icmp_ne (n := 98) (tgt := 111) C dL_isSquashed_95 (by decide) rfl (fun h95 => absurd rfl h95) (fun h95 => ?_)
        refine g_aload_n (n := 99) C dL_isSquashed_98 rfl (Or.inr ⟨_, rfl⟩) rfl ?_
        refine g_V (n := 102) (rest := []) C (z_layers hE hl h (mc := 0) (ms := 0)) dL_isSquashed_99 kM_X5_layers kL_L_111 kV_X5_layers h.co.choose_spec rfl rfl rfl (Nat.le_of_ble_eq_true rfl) ⟨by decide, by decide⟩ ⟨by first | omega | (simp only [gRm]; omega), by first | omega | (simp only [gRm]; omega)⟩ rfl (fun v9 L9 f9 hq => ?_)
        obtain ⟨rfl, rfl, rfl⟩ := hq
        refine G.sk (st' := [_]) rfl ?_
        refine g_iload (n := 104) C dL_isSquashed_102 rfl rfl ?_
        refine g_icmp_ne (n := 107) (tgt := 111) C dL_isSquashed_104 (by decide) rfl (fun h104 => absurd rfl h104) (fun h104 => ?_)
        refine g_iconst (n := 108) (v := nI 1) C dL_isSquashed_107 rfl rfl ?_
        refine g_goto (tgt := 112) C dL_isSquashed_108 (by decide) ?_
        refine g_zret C hr rfl dL_isSquashed_112 ?_ ⟨by first | omega | (simp only [gRm]; omega), by first | omega | (simp only [gRm]; omega)⟩
        exact ⟨rfl, n, PR, PL, S, A, I, h, hi, fun _ _ => rfl⟩
    | succ k =>
      obtain ⟨e16, hk, hk8⟩ := tag_s hT ht hk1
      have hpbk := hpb k hk
      by_cases hzp : 0 < z ∧ z < PL k + 1
      · by_cases hn4 : n < 400
        · obtain ⟨hz0, hz2⟩ := hzp
          obtain ⟨j, PR1, PL1, S1, hj, hpj, haj, hw1, hx1, hpr1, hpl1, e8, eS, e10, e11, efr⟩ := sq_ex (h.wf hi) hn4 hk hz0 hz2 t
          have hk81 : sqA A n k j t S 8 k = 0 := (hx1.2.1.1 8 k (by decide) hk).trans hk8
          have hj81 : sqA A n k j t S 8 j = 0 := (hx1.2.1.1 8 j (by decide) hj).trans (ancR_liv hpar hlv (k + 1) (k + 1) j hk (fun i hi9 => by rw [show i = k by omega]; exact hk8) haj)
          refine g_aload_n (n := 1) C dL_isSquashed_0 rfl (Or.inr ⟨_, rfl⟩) rfl ?_
          refine g_iconst (n := 2) (v := nI 2) C dL_isSquashed_1 rfl rfl ?_
          refine g_iload_n (n := 3) C dL_isSquashed_2 rfl rfl ?_
          refine g_iconst (n := 4) (v := nI 0) C dL_isSquashed_3 rfl rfl ?_
          refine g_SH (n := 7) (rest := []) C (tz_tagged hE hl hN h ht (nI 0)) dL_isSquashed_4 kH_tags kW_L_141 kT_tags rfl rfl (Nat.le_of_ble_eq_true rfl) ⟨by decide, by decide⟩ ⟨by first | omega | (simp only [gRm]; omega), by first | omega | (simp only [gRm]; omega)⟩ rfl (fun v9 L9 f9 hq => ?_)
          obtain ⟨rfl, rfl, rfl⟩ := hq
          refine G.sk (st' := [_]) rfl ?_
          rw [e16]
          refine g_istore_n (n := 8) (ls' := [_, _, _, _, _, _, _, _, _, _, _]) C dL_isSquashed_7 rfl (by decide) rfl ?_
          refine g_aload_n (n := 9) C dL_isSquashed_8 rfl (Or.inr ⟨_, rfl⟩) rfl ?_
          refine g_V (n := 12) (rest := []) C (z_layers hE hl h (mc := 0) (ms := 0)) dL_isSquashed_9 kM_X5_layers kL_L_111 kV_X5_layers h.co.choose_spec rfl rfl rfl (Nat.le_of_ble_eq_true rfl) ⟨by decide, by decide⟩ ⟨by first | omega | (simp only [gRm]; omega), by first | omega | (simp only [gRm]; omega)⟩ rfl (fun v9 L9 f9 hq => ?_)
          obtain ⟨rfl, rfl, rfl⟩ := hq
          refine G.sk (st' := [_]) rfl ?_
          refine g_istore (n := 14) (ls' := [_, _, _, _, _, _, _, _, _, _, _]) C dL_isSquashed_12 rfl (by decide) rfl ?_
          refine g_iload_n (n := 15) C dL_isSquashed_14 rfl rfl ?_
          refine g_if_ge (n := 18) (tgt := 22) C dL_isSquashed_15 (by decide) rfl (fun h15 => ?_) (fun h15 => absurd (nI_nn (by omega)) h15)
          refine g_aload_n (n := 23) C dL_isSquashed_22 rfl (Or.inr ⟨_, rfl⟩) rfl ?_
          refine g_iload_n (n := 24) C dL_isSquashed_23 rfl rfl ?_
          refine g_V (n := 27) (rest := []) C (z_depth hE hl h (mc := 0) (ms := 0) hk hk8) dL_isSquashed_24 kM_X5_depth kL_L_95 kV_X5_depth h.co.choose_spec rfl rfl rfl (Nat.le_of_ble_eq_true rfl) ⟨by decide, by decide⟩ ⟨by first | omega | (simp only [gRm]; omega), by first | omega | (simp only [gRm]; omega)⟩ rfl (fun v9 L9 f9 hq => ?_)
          obtain ⟨rfl, rfl, rfl⟩ := hq
          refine G.sk (st' := [_]) rfl ?_
          refine g_istore (n := 29) (ls' := [_, _, _, _, _, _, _, _, _, _, _]) C dL_isSquashed_27 rfl (by decide) rfl ?_
          refine g_aload_n (n := 30) C dL_isSquashed_29 rfl (Or.inr ⟨_, rfl⟩) rfl ?_
          refine g_iconst (n := 31) (v := nI 3) C dL_isSquashed_30 rfl rfl ?_
          refine g_iload_n (n := 32) C dL_isSquashed_31 rfl rfl ?_
          refine g_iload_n (n := 33) C dL_isSquashed_32 rfl rfl ?_
          refine g_SH (n := 36) (rest := []) C (t_squash hE hl hN h hT.tag ht hk1 hz0 hz2 (by omega) hn4 hj hpj haj hw1) dL_isSquashed_33 kH_tags kW_L_141 kT_tags rfl rfl (Nat.le_of_ble_eq_true rfl) ⟨by decide, by decide⟩ ⟨by first | omega | (simp only [gRm]; omega), by first | omega | (simp only [gRm]; omega)⟩ rfl (fun v9 L9 f9 hq => ?_)
          obtain ⟨rfl, h1⟩ := hq
          refine G.sk (st' := [_]) rfl ?_
          refine g_istore (n := 38) (ls' := [_, _, _, _, _, _, _, _, _, _, _]) C dL_isSquashed_36 rfl (by decide) rfl ?_
          refine g_iload_n (n := 39) C dL_isSquashed_38 rfl rfl ?_
          refine g_iconst (n := 40) (v := nI 5) C dL_isSquashed_39 rfl rfl ?_
          refine g_icmp_ge (n := 43) (tgt := 61) C dL_isSquashed_40 (by decide) rfl (fun h40 => absurd h40 (fun y => by have := gn_ge y (by decide) (by omega); omega)) (fun h40 => ?_)
          refine g_iload_n (n := 44) C dL_isSquashed_43 rfl rfl ?_
          refine g_if_le (n := 47) (tgt := 61) C dL_isSquashed_44 (by decide) rfl (fun h44 => absurd h44 (fun y => by have := gn_ge (b := 0) y (by omega) (by decide); omega)) (fun h44 => ?_)
          refine g_iload_n (n := 48) C dL_isSquashed_47 rfl rfl ?_
          refine g_if_lt (n := 51) (tgt := 57) C dL_isSquashed_48 (by decide) rfl (fun h48 => absurd h48 (nI_n0 (by omega))) (fun h48 => ?_)
          refine g_iload_n (n := 52) C dL_isSquashed_51 rfl rfl ?_
          refine g_iload (n := 54) C dL_isSquashed_52 rfl rfl ?_
          refine g_icmp_ge (n := 57) (tgt := 61) C dL_isSquashed_54 (by decide) rfl (fun h54 => absurd h54 (fun y => by have := gn_ge y (by omega) (by omega); omega)) (fun h54 => ?_)
          refine g_iconst (n := 58) (v := nI 1) C dL_isSquashed_57 rfl rfl ?_
          refine g_goto (tgt := 62) C dL_isSquashed_58 (by decide) ?_
          refine g_istore (n := 64) (ls' := [_, _, _, _, _, _, _, _, _, _, _]) C dL_isSquashed_62 rfl (by decide) rfl ?_
          refine g_iload (n := 66) C dL_isSquashed_64 rfl rfl ?_
          refine g_if_eq (n := 69) (tgt := 81) C dL_isSquashed_66 (by decide) rfl (fun h66 => (by first | exact absurd h66 (by decide) | exact (h66 (by decide)).elim)) (fun h66 => ?_)
          refine g_iload_n (n := 70) C dL_isSquashed_69 rfl rfl ?_
          refine g_if_lt (n := 73) (tgt := 81) C dL_isSquashed_70 (by decide) rfl (fun h70 => absurd h70 (nI_n0 (by omega))) (fun h70 => ?_)
          refine g_iload (n := 75) C dL_isSquashed_73 rfl rfl ?_
          refine g_sipush (n := 78) (v := nI 399) C dL_isSquashed_75 rfl rfl ?_
          refine g_icmp_le (n := 81) (tgt := 113) C dL_isSquashed_78 (by decide) rfl (fun h78 => ?_) (fun h78 => absurd ((nI_leI (by omega) (by decide)).mpr (by omega)) h78)
          refine g_iload (n := 115) C dL_isSquashed_113 rfl rfl ?_
          refine g_iload (n := 117) C dL_isSquashed_115 rfl rfl ?_
          refine g_icmp_ne (n := 120) (tgt := 171) C dL_isSquashed_117 (by decide) rfl (fun h117 => absurd rfl h117) (fun h117 => ?_)
          refine g_aload_n (n := 121) C dL_isSquashed_120 rfl (Or.inr ⟨_, rfl⟩) rfl ?_
          refine g_iload_n (n := 122) C dL_isSquashed_121 rfl rfl ?_
          refine g_V (n := 125) (rest := []) C (z_tagged hE hl h1 (mc := 0) (ms := 0) ht) dL_isSquashed_122 kM_X5_tagged kL_L_71 kV_X5_tagged h1.co.choose_spec rfl rfl rfl (Nat.le_of_ble_eq_true rfl) ⟨by decide, by decide⟩ ⟨by first | omega | (simp only [gRm]; omega), by first | omega | (simp only [gRm]; omega)⟩ rfl (fun v9 L9 f9 hq => ?_)
          obtain ⟨rfl, rfl, rfl⟩ := hq
          refine G.sk (st' := [_]) rfl ?_
          rw [show sqA A n k j t S 16 t = nI n by unfold sqA; exact mU_s]
          refine g_iload (n := 127) C dL_isSquashed_125 rfl rfl ?_
          refine g_icmp_ne (n := 130) (tgt := 171) C dL_isSquashed_127 (by decide) rfl (fun h127 => absurd rfl h127) (fun h127 => ?_)
          refine g_aload_n (n := 131) C dL_isSquashed_130 rfl (Or.inr ⟨_, rfl⟩) rfl ?_
          refine g_iload (n := 133) C dL_isSquashed_131 rfl rfl ?_
          refine g_V (n := 136) (rest := []) C (z_depth hE hl h1 (mc := 0) (ms := 0) (k := n) (by omega) e8) dL_isSquashed_133 kM_X5_depth kL_L_95 kV_X5_depth h1.co.choose_spec rfl rfl rfl (Nat.le_of_ble_eq_true rfl) ⟨by decide, by decide⟩ ⟨by first | omega | (simp only [gRm]; omega), by first | omega | (simp only [gRm]; omega)⟩ rfl (fun v9 L9 f9 hq => ?_)
          obtain ⟨rfl, rfl, rfl⟩ := hq
          refine G.sk (st' := [_]) rfl ?_
          refine g_iload_n (n := 137) C dL_isSquashed_136 rfl rfl ?_
          refine g_iconst (n := 138) (v := nI 1) C dL_isSquashed_137 rfl rfl ?_
          refine g_iaddN (n := 139) C dL_isSquashed_138 rfl ?_
          refine g_icmp_ne (n := 142) (tgt := 171) C dL_isSquashed_139 (by decide) rfl (fun h139 => absurd (by rw [hpl1]) h139) (fun h139 => ?_)
          refine g_aload_n (n := 143) C dL_isSquashed_142 rfl (Or.inr ⟨_, rfl⟩) rfl ?_
          refine g_iload (n := 145) C dL_isSquashed_143 rfl rfl ?_
          refine g_V (n := 148) (rest := []) C (z_digest hE hl h1 (mc := 0) (ms := 0) (k := n) (by omega) e8) dL_isSquashed_145 kM_X5_digest kL_L_101 kV_X5_digest h1.co.choose_spec rfl rfl rfl (Nat.le_of_ble_eq_true rfl) ⟨by decide, by decide⟩ ⟨by first | omega | (simp only [gRm]; omega), by first | omega | (simp only [gRm]; omega)⟩ rfl (fun v9 L9 f9 hq => ?_)
          obtain ⟨rfl, rfl, rfl⟩ := hq
          refine G.sk (st' := [_]) rfl ?_
          refine g_aload_n (n := 149) C dL_isSquashed_148 rfl (Or.inr ⟨_, rfl⟩) rfl ?_
          refine g_iload_n (n := 150) C dL_isSquashed_149 rfl rfl ?_
          refine g_V (n := 153) (rest := [_]) C (z_digest hE hl h1 (mc := 0) (ms := 0) (k := k) (by omega) hk81) dL_isSquashed_150 kM_X5_digest kL_L_101 kV_X5_digest h1.co.choose_spec rfl rfl rfl (Nat.le_of_ble_eq_true rfl) ⟨by decide, by decide⟩ ⟨by first | omega | (simp only [gRm]; omega), by first | omega | (simp only [gRm]; omega)⟩ rfl (fun v9 L9 f9 hq => ?_)
          obtain ⟨rfl, rfl, rfl⟩ := hq
          refine G.sk (st' := [_, _]) rfl ?_
          refine g_icmp_ne (n := 156) (tgt := 171) C dL_isSquashed_153 (by decide) rfl (fun h153 => absurd (dgF_c (fun q hq => (eS q hq).trans (hx1.2.2.2.2 k hk q).symm) 12 (Nat.le_refl _)) h153) (fun h153 => ?_)
          refine g_aload_n (n := 157) C dL_isSquashed_156 rfl (Or.inr ⟨_, rfl⟩) rfl ?_
          refine g_iload (n := 159) C dL_isSquashed_157 rfl rfl ?_
          refine g_V (n := 162) (rest := []) C (z_sizeOf hE hl h1 (mc := 0) (ms := 0) (k := n) (by omega) e8) dL_isSquashed_159 kM_X5_sizeOf kL_L_83 kV_X5_sizeOf h1.co.choose_spec rfl rfl rfl (Nat.le_of_ble_eq_true rfl) ⟨by decide, by decide⟩ ⟨by first | omega | (simp only [gRm]; omega), by first | omega | (simp only [gRm]; omega)⟩ rfl (fun v9 L9 f9 hq => ?_)
          obtain ⟨rfl, rfl, rfl⟩ := hq
          refine G.sk (st' := [_]) rfl ?_
          refine g_bipush (n := 164) (v := nI 12) C dL_isSquashed_162 rfl rfl ?_
          refine g_icmp_gt (n := 167) (tgt := 171) C dL_isSquashed_164 (by decide) rfl (fun h164 => absurd h164 (fun y => by have := szN_le (sqA A n k j t S) n 12; have := (nI_ltI (by decide) (by omega)).mp y; omega)) (fun h164 => ?_)
          refine g_iconst (n := 168) (v := nI 1) C dL_isSquashed_167 rfl rfl ?_
          refine g_goto (tgt := 172) C dL_isSquashed_168 (by decide) ?_
          refine g_istore (n := 174) (ls' := [_, _, _, _, _, _, _, _, _, _, _]) C dL_isSquashed_172 rfl (by decide) rfl ?_
          refine g_iconst (n := 175) (v := nI 0) C dL_isSquashed_174 rfl rfl ?_
          refine g_istore (n := 177) (ls' := [_, _, _, _, _, _, _, _, _, _, _]) C dL_isSquashed_175 rfl (by decide) rfl ?_
          refine g_loop (α := Nat) (fun q => q ≤ 12) (fun q => 12 - q) (fun _ => _) (fun _ => _) (fun _ => 10) (fun _ => 66) 177 (fun q => [some (.ref co), some (.int (nI t)), some (.int (nI z)), some (.int (nI k)), some (.int (nI n)), some (.int (nI (PL k + 1))), some (.int (nI n)), some (.int (nI 1)), some (.int (nI 1)), some (.int (nI q)), none]) (fun _ => []) (fun q hq0 ih => ?_) (fun J => J 0 (Nat.zero_le _))
          refine g_iload (n := 179) C dL_isSquashed_177 rfl rfl ?_
          refine g_bipush (n := 181) (v := nI 12) C dL_isSquashed_179 rfl rfl ?_
          refine g_icmp_ge (n := 184) (tgt := 253) C dL_isSquashed_181 (by decide) rfl (fun h181 => ?_) (fun h181 => ?_)
          · have e9 : 12 = q := by have := gn_ge h181 (by decide) (by omega); omega
            subst e9
            refine g_iconst (n := 254) (v := nI 0) C dL_isSquashed_253 rfl rfl ?_
            refine g_istore (n := 256) (ls' := [_, _, _, _, _, _, _, _, _, _, _]) C dL_isSquashed_254 rfl (by decide) rfl ?_
            refine g_loop (α := Nat) (fun v => v ≤ 4) (fun v => 4 - v) (fun _ => _) (fun _ => _) (fun _ => 10) (fun _ => 66) 256 (fun v => [some (.ref co), some (.int (nI t)), some (.int (nI z)), some (.int (nI k)), some (.int (nI n)), some (.int (nI (PL k + 1))), some (.int (nI n)), some (.int (nI 1)), some (.int (nI 1)), some (.int (nI v)), none]) (fun _ => []) (fun v hv0 ih2 => ?_) (fun J => J 0 (Nat.zero_le _))
            refine g_iload (n := 258) C dL_isSquashed_256 rfl rfl ?_
            refine g_iconst (n := 259) (v := nI 4) C dL_isSquashed_258 rfl rfl ?_
            refine g_icmp_ge (n := 262) (tgt := 298) C dL_isSquashed_259 (by decide) rfl (fun h259 => ?_) (fun h259 => ?_)
            · have e9 : 4 = v := by have := gn_ge h259 (by decide) (by omega); omega
              subst e9
              refine g_iload (n := 300) C dL_isSquashed_298 rfl rfl ?_
              refine g_zret C hr rfl dL_isSquashed_300 ?_ ⟨by first | omega | (simp only [gRm]; omega), by first | omega | (simp only [gRm]; omega)⟩
              exact ⟨rfl, n + 1, PR1, PL1, S1, _, _, h1, hw1.2.2.2.2.2.2, fun j _ => efr 3 j (by decide)⟩
            · have hv4 : v < 4 := gn_gt h259 (by decide) (by omega)
              refine g_iload (n := 264) C dL_isSquashed_262 rfl rfl ?_
              refine g_if_eq (n := 267) (tgt := 298) C dL_isSquashed_264 (by decide) rfl (fun h264 => (by first | exact absurd h264 (by decide) | exact (h264 (by decide)).elim)) (fun h264 => ?_)
              refine g_aload_n (n := 268) C dL_isSquashed_267 rfl (Or.inr ⟨_, rfl⟩) rfl ?_
              refine g_iload (n := 270) C dL_isSquashed_268 rfl rfl ?_
              refine g_iload (n := 272) C dL_isSquashed_270 rfl rfl ?_
              refine g_V (n := 275) (rest := []) C (z_variable hE hl h1 (mc := 0) (ms := 0) (k := n) (by omega) e8 hv4) dL_isSquashed_272 kM_X5_variable kL_L_92 kV_X5_variable h1.co.choose_spec rfl rfl rfl (Nat.le_of_ble_eq_true rfl) ⟨by decide, by decide⟩ ⟨by first | omega | (simp only [gRm]; omega), by first | omega | (simp only [gRm]; omega)⟩ rfl (fun v9 L9 f9 hq => ?_)
              obtain ⟨rfl, rfl, rfl⟩ := hq
              refine G.sk (st' := [_]) rfl ?_
              refine g_aload_n (n := 276) C dL_isSquashed_275 rfl (Or.inr ⟨_, rfl⟩) rfl ?_
              refine g_iload_n (n := 277) C dL_isSquashed_276 rfl rfl ?_
              refine g_iload (n := 279) C dL_isSquashed_277 rfl rfl ?_
              refine g_V (n := 282) (rest := [_]) C (z_variable hE hl h1 (mc := 0) (ms := 0) (k := k) (by omega) hk81 hv4) dL_isSquashed_279 kM_X5_variable kL_L_92 kV_X5_variable h1.co.choose_spec rfl rfl rfl (Nat.le_of_ble_eq_true rfl) ⟨by decide, by decide⟩ ⟨by first | omega | (simp only [gRm]; omega), by first | omega | (simp only [gRm]; omega)⟩ rfl (fun v9 L9 f9 hq => ?_)
              obtain ⟨rfl, rfl, rfl⟩ := hq
              refine G.sk (st' := [_, _]) rfl ?_
              refine g_icmp_ne (n := 285) (tgt := 289) C dL_isSquashed_282 (by decide) rfl (fun h282 => absurd (by rw [e11 v hv4, hx1.2.1.2.2 k v hk hv4]) h282) (fun h282 => ?_)
              refine g_iconst (n := 286) (v := nI 1) C dL_isSquashed_285 rfl rfl ?_
              refine g_goto (tgt := 290) C dL_isSquashed_286 (by decide) ?_
              refine g_istore (n := 292) (ls' := [_, _, _, _, _, _, _, _, _, _, _]) C dL_isSquashed_290 rfl (by decide) rfl ?_
              refine g_iinc (n := 295) (ls' := [_, _, _, _, _, _, _, _, _, _, _]) C dL_isSquashed_292 rfl (nI_1 _) rfl (by decide) rfl ?_
              refine g_goto (tgt := 256) C dL_isSquashed_295 (by decide) ?_
              exact G.wk (wk2.s (wk2.s (wk2.s (wk2.s (wk2.s (wk2.s (wk2.s (wk2.s (wk2.s (wk2.s (wk2.n wk2.z))))))))))) (ih2 (v + 1) (by omega) (by omega))
          · have hq9 : q < 12 := gn_gt h181 (by decide) (by omega)
            refine g_iload (n := 186) C dL_isSquashed_184 rfl rfl ?_
            refine g_if_eq (n := 189) (tgt := 253) C dL_isSquashed_186 (by decide) rfl (fun h186 => (by first | exact absurd h186 (by decide) | exact (h186 (by decide)).elim)) (fun h186 => ?_)
            refine g_aload_n (n := 190) C dL_isSquashed_189 rfl (Or.inr ⟨_, rfl⟩) rfl ?_
            refine g_aload_n (n := 191) C dL_isSquashed_190 rfl (Or.inr ⟨_, rfl⟩) rfl ?_
            refine g_iload (n := 193) C dL_isSquashed_191 rfl rfl ?_
            refine g_V (n := 196) (rest := [_]) C (z_parentOf hE hl h1 (mc := 0) (ms := 0) (k := n) (by omega) e8) dL_isSquashed_193 kM_X5_parentOf kL_L_80 kV_X5_parentOf h1.co.choose_spec rfl rfl rfl (Nat.le_of_ble_eq_true rfl) ⟨by decide, by decide⟩ ⟨by first | omega | (simp only [gRm]; omega), by first | omega | (simp only [gRm]; omega)⟩ rfl (fun v9 L9 f9 hq => ?_)
            obtain ⟨rfl, rfl, rfl⟩ := hq
            refine G.sk (st' := [_, _]) rfl ?_
            rw [hpr1, pI_nI]
            refine g_iload (n := 198) C dL_isSquashed_196 rfl rfl ?_
            refine g_V (n := 201) (rest := []) C (z_shownAt hE hl h1 (mc := 0) (ms := 0) (k := j) (by omega) hj81 hq9) dL_isSquashed_198 kM_X5_shownAt kL_L_89 kV_X5_shownAt h1.co.choose_spec rfl rfl rfl (Nat.le_of_ble_eq_true rfl) ⟨by decide, by decide⟩ ⟨by first | omega | (simp only [gRm]; omega), by first | omega | (simp only [gRm]; omega)⟩ rfl (fun v9 L9 f9 hq => ?_)
            obtain ⟨rfl, rfl, rfl⟩ := hq
            refine G.sk (st' := [_]) rfl ?_
            refine g_istore (n := 203) (ls' := [_, _, _, _, _, _, _, _, _, _, _]) C dL_isSquashed_201 rfl (by decide) rfl ?_
            refine g_aload_n (n := 204) C dL_isSquashed_203 rfl (Or.inr ⟨_, rfl⟩) rfl ?_
            refine g_iload (n := 206) C dL_isSquashed_204 rfl rfl ?_
            refine g_iload (n := 208) C dL_isSquashed_206 rfl rfl ?_
            refine g_V (n := 211) (rest := []) C (z_heldAt hE hl h1 (mc := 0) (ms := 0) (k := n) (by omega) e8 hq9) dL_isSquashed_208 kM_X5_heldAt kL_L_86 kV_X5_heldAt h1.co.choose_spec rfl rfl rfl (Nat.le_of_ble_eq_true rfl) ⟨by decide, by decide⟩ ⟨by first | omega | (simp only [gRm]; omega), by first | omega | (simp only [gRm]; omega)⟩ rfl (fun v9 L9 f9 hq => ?_)
            obtain ⟨rfl, rfl, rfl⟩ := hq
            refine G.sk (st' := [_]) rfl ?_
            refine g_iconst (n := 212) (v := -1) C dL_isSquashed_211 rfl rfl ?_
            refine g_icmp_ne (n := 215) (tgt := 219) C dL_isSquashed_212 (by decide) rfl (fun h212 => ?_) (fun h212 => ?_)
            · have h212 : ¬ S1 k q = S1 j q := fun y => h212 ((e10 q hq9).mpr (by rw [← hx1.2.2.2.2 k hk q, ← hx1.2.2.2.2 j hj q]; exact y))
              refine g_iconst (n := 220) (v := nI 0) C dL_isSquashed_219 rfl rfl ?_
              refine g_aload_n (n := 221) C dL_isSquashed_220 rfl (Or.inr ⟨_, rfl⟩) rfl ?_
              refine g_iload_n (n := 222) C dL_isSquashed_221 rfl rfl ?_
              refine g_iload (n := 224) C dL_isSquashed_222 rfl rfl ?_
              refine g_V (n := 227) (rest := [_]) C (z_shownAt hE hl h1 (mc := 0) (ms := 0) (k := k) (by omega) hk81 hq9) dL_isSquashed_224 kM_X5_shownAt kL_L_89 kV_X5_shownAt h1.co.choose_spec rfl rfl rfl (Nat.le_of_ble_eq_true rfl) ⟨by decide, by decide⟩ ⟨by first | omega | (simp only [gRm]; omega), by first | omega | (simp only [gRm]; omega)⟩ rfl (fun v9 L9 f9 hq => ?_)
              obtain ⟨rfl, rfl, rfl⟩ := hq
              refine G.sk (st' := [_, _]) rfl ?_
              refine g_iload (n := 229) C dL_isSquashed_227 rfl rfl ?_
              refine g_icmp_ne (n := 232) (tgt := 236) C dL_isSquashed_229 (by decide) rfl (fun h229 => ?_) (fun h229 => absurd h229 h212)
              refine g_iconst (n := 237) (v := nI 0) C dL_isSquashed_236 rfl rfl ?_
              refine g_icmp_ne (n := 240) (tgt := 244) C dL_isSquashed_237 (by decide) rfl (fun h237 => (by first | exact absurd h237 (by decide) | exact (h237 (by decide)).elim)) (fun h237 => ?_)
              refine g_iconst (n := 241) (v := nI 1) C dL_isSquashed_240 rfl rfl ?_
              refine g_goto (tgt := 245) C dL_isSquashed_241 (by decide) ?_
              refine g_istore (n := 247) (ls' := [_, _, _, _, _, _, _, _, _, _, _]) C dL_isSquashed_245 rfl (by decide) rfl ?_
              refine g_iinc (n := 250) (ls' := [_, _, _, _, _, _, _, _, _, _, _]) C dL_isSquashed_247 rfl (nI_1 _) rfl (by decide) rfl ?_
              refine g_goto (tgt := 177) C dL_isSquashed_250 (by decide) ?_
              exact G.wk (wk2.s (wk2.s (wk2.s (wk2.s (wk2.s (wk2.s (wk2.s (wk2.s (wk2.s (wk2.s (wk2.n wk2.z))))))))))) (ih (q + 1) (by omega) (by omega))
            · have h212 : S1 k q = S1 j q := by rw [hx1.2.2.2.2 k hk q, hx1.2.2.2.2 j hj q]; exact (e10 q hq9).mp h212
              refine g_iconst (n := 216) (v := nI 1) C dL_isSquashed_215 rfl rfl ?_
              refine g_goto (tgt := 220) C dL_isSquashed_216 (by decide) ?_
              refine g_aload_n (n := 221) C dL_isSquashed_220 rfl (Or.inr ⟨_, rfl⟩) rfl ?_
              refine g_iload_n (n := 222) C dL_isSquashed_221 rfl rfl ?_
              refine g_iload (n := 224) C dL_isSquashed_222 rfl rfl ?_
              refine g_V (n := 227) (rest := [_]) C (z_shownAt hE hl h1 (mc := 0) (ms := 0) (k := k) (by omega) hk81 hq9) dL_isSquashed_224 kM_X5_shownAt kL_L_89 kV_X5_shownAt h1.co.choose_spec rfl rfl rfl (Nat.le_of_ble_eq_true rfl) ⟨by decide, by decide⟩ ⟨by first | omega | (simp only [gRm]; omega), by first | omega | (simp only [gRm]; omega)⟩ rfl (fun v9 L9 f9 hq => ?_)
              obtain ⟨rfl, rfl, rfl⟩ := hq
              refine G.sk (st' := [_, _]) rfl ?_
              refine g_iload (n := 229) C dL_isSquashed_227 rfl rfl ?_
              refine g_icmp_ne (n := 232) (tgt := 236) C dL_isSquashed_229 (by decide) rfl (fun h229 => absurd h212 h229) (fun h229 => ?_)
              refine g_iconst (n := 233) (v := nI 1) C dL_isSquashed_232 rfl rfl ?_
              refine g_goto (tgt := 237) C dL_isSquashed_233 (by decide) ?_
              refine g_icmp_ne (n := 240) (tgt := 244) C dL_isSquashed_237 (by decide) rfl (fun h237 => (by first | exact absurd h237 (by decide) | exact (h237 (by decide)).elim)) (fun h237 => ?_)
              refine g_iconst (n := 241) (v := nI 1) C dL_isSquashed_240 rfl rfl ?_
              refine g_goto (tgt := 245) C dL_isSquashed_241 (by decide) ?_
              refine g_istore (n := 247) (ls' := [_, _, _, _, _, _, _, _, _, _, _]) C dL_isSquashed_245 rfl (by decide) rfl ?_
              refine g_iinc (n := 250) (ls' := [_, _, _, _, _, _, _, _, _, _, _]) C dL_isSquashed_247 rfl (nI_1 _) rfl (by decide) rfl ?_
              refine g_goto (tgt := 177) C dL_isSquashed_250 (by decide) ?_
              exact G.wk (wk2.s (wk2.s (wk2.s (wk2.s (wk2.s (wk2.s (wk2.s (wk2.s (wk2.s (wk2.s (wk2.n wk2.z))))))))))) (ih (q + 1) (by omega) (by omega))
        · refine g_aload_n (n := 1) C dL_isSquashed_0 rfl (Or.inr ⟨_, rfl⟩) rfl ?_
          refine g_iconst (n := 2) (v := nI 2) C dL_isSquashed_1 rfl rfl ?_
          refine g_iload_n (n := 3) C dL_isSquashed_2 rfl rfl ?_
          refine g_iconst (n := 4) (v := nI 0) C dL_isSquashed_3 rfl rfl ?_
          refine g_SH (n := 7) (rest := []) C (tz_tagged hE hl hN h ht (nI 0)) dL_isSquashed_4 kH_tags kW_L_141 kT_tags rfl rfl (Nat.le_of_ble_eq_true rfl) ⟨by decide, by decide⟩ ⟨by first | omega | (simp only [gRm]; omega), by first | omega | (simp only [gRm]; omega)⟩ rfl (fun v9 L9 f9 hq => ?_)
          obtain ⟨rfl, rfl, rfl⟩ := hq
          refine G.sk (st' := [_]) rfl ?_
          rw [e16]
          refine g_istore_n (n := 8) (ls' := [_, _, _, _, _, _, _, _, _, _, _]) C dL_isSquashed_7 rfl (by decide) rfl ?_
          refine g_aload_n (n := 9) C dL_isSquashed_8 rfl (Or.inr ⟨_, rfl⟩) rfl ?_
          refine g_V (n := 12) (rest := []) C (z_layers hE hl h (mc := 0) (ms := 0)) dL_isSquashed_9 kM_X5_layers kL_L_111 kV_X5_layers h.co.choose_spec rfl rfl rfl (Nat.le_of_ble_eq_true rfl) ⟨by decide, by decide⟩ ⟨by first | omega | (simp only [gRm]; omega), by first | omega | (simp only [gRm]; omega)⟩ rfl (fun v9 L9 f9 hq => ?_)
          obtain ⟨rfl, rfl, rfl⟩ := hq
          refine G.sk (st' := [_]) rfl ?_
          refine g_istore (n := 14) (ls' := [_, _, _, _, _, _, _, _, _, _, _]) C dL_isSquashed_12 rfl (by decide) rfl ?_
          refine g_iload_n (n := 15) C dL_isSquashed_14 rfl rfl ?_
          refine g_if_ge (n := 18) (tgt := 22) C dL_isSquashed_15 (by decide) rfl (fun h15 => ?_) (fun h15 => absurd (nI_nn (by omega)) h15)
          refine g_aload_n (n := 23) C dL_isSquashed_22 rfl (Or.inr ⟨_, rfl⟩) rfl ?_
          refine g_iload_n (n := 24) C dL_isSquashed_23 rfl rfl ?_
          refine g_V (n := 27) (rest := []) C (z_depth hE hl h (mc := 0) (ms := 0) hk hk8) dL_isSquashed_24 kM_X5_depth kL_L_95 kV_X5_depth h.co.choose_spec rfl rfl rfl (Nat.le_of_ble_eq_true rfl) ⟨by decide, by decide⟩ ⟨by first | omega | (simp only [gRm]; omega), by first | omega | (simp only [gRm]; omega)⟩ rfl (fun v9 L9 f9 hq => ?_)
          obtain ⟨rfl, rfl, rfl⟩ := hq
          refine G.sk (st' := [_]) rfl ?_
          refine g_istore (n := 29) (ls' := [_, _, _, _, _, _, _, _, _, _, _]) C dL_isSquashed_27 rfl (by decide) rfl ?_
          refine g_aload_n (n := 30) C dL_isSquashed_29 rfl (Or.inr ⟨_, rfl⟩) rfl ?_
          refine g_iconst (n := 31) (v := nI 3) C dL_isSquashed_30 rfl rfl ?_
          refine g_iload_n (n := 32) C dL_isSquashed_31 rfl rfl ?_
          refine g_iload_n (n := 33) C dL_isSquashed_32 rfl rfl ?_
          refine g_SH (n := 36) (rest := []) C (tn_squash_S hE hl hN h hT.tag (x := nI t) (y := nI z) (sqC1_y ht (by omega) hz6 (fun k2 hk2 => by have e2 : k2 = k := (by omega); subst e2; omega)) (fun ⟨y1, y2⟩ => absurd y1 (by omega))) dL_isSquashed_33 kH_tags kW_L_141 kT_tags rfl rfl (Nat.le_of_ble_eq_true rfl) ⟨by decide, by decide⟩ ⟨by first | omega | (simp only [gRm]; omega), by first | omega | (simp only [gRm]; omega)⟩ rfl (fun v9 L9 f9 hq => ?_)
          obtain ⟨rfl, rfl, rfl⟩ := hq
          refine G.sk (st' := [_]) rfl ?_
          refine g_istore (n := 38) (ls' := [_, _, _, _, _, _, _, _, _, _, _]) C dL_isSquashed_36 rfl (by decide) rfl ?_
          refine g_iload_n (n := 39) C dL_isSquashed_38 rfl rfl ?_
          refine g_iconst (n := 40) (v := nI 5) C dL_isSquashed_39 rfl rfl ?_
          refine g_icmp_ge (n := 43) (tgt := 61) C dL_isSquashed_40 (by decide) rfl (fun h40 => absurd h40 (fun y => by have := gn_ge y (by decide) (by omega); omega)) (fun h40 => ?_)
          refine g_iload_n (n := 44) C dL_isSquashed_43 rfl rfl ?_
          refine g_if_le (n := 47) (tgt := 61) C dL_isSquashed_44 (by decide) rfl (fun h44 => absurd h44 (fun y => by have := gn_ge (b := 0) y (by omega) (by decide); omega)) (fun h44 => ?_)
          refine g_iload_n (n := 48) C dL_isSquashed_47 rfl rfl ?_
          refine g_if_lt (n := 51) (tgt := 57) C dL_isSquashed_48 (by decide) rfl (fun h48 => absurd h48 (nI_n0 (by omega))) (fun h48 => ?_)
          refine g_iload_n (n := 52) C dL_isSquashed_51 rfl rfl ?_
          refine g_iload (n := 54) C dL_isSquashed_52 rfl rfl ?_
          refine g_icmp_ge (n := 57) (tgt := 61) C dL_isSquashed_54 (by decide) rfl (fun h54 => absurd h54 (fun y => by have := gn_ge y (by omega) (by omega); omega)) (fun h54 => ?_)
          refine g_iconst (n := 58) (v := nI 1) C dL_isSquashed_57 rfl rfl ?_
          refine g_goto (tgt := 62) C dL_isSquashed_58 (by decide) ?_
          refine g_istore (n := 64) (ls' := [_, _, _, _, _, _, _, _, _, _, _]) C dL_isSquashed_62 rfl (by decide) rfl ?_
          refine g_iload (n := 66) C dL_isSquashed_64 rfl rfl ?_
          refine g_if_eq (n := 69) (tgt := 81) C dL_isSquashed_66 (by decide) rfl (fun h66 => (by first | exact absurd h66 (by decide) | exact (h66 (by decide)).elim)) (fun h66 => ?_)
          refine g_iload_n (n := 70) C dL_isSquashed_69 rfl rfl ?_
          refine g_if_lt (n := 73) (tgt := 81) C dL_isSquashed_70 (by decide) rfl (fun h70 => absurd h70 (nI_n0 (by omega))) (fun h70 => ?_)
          refine g_iload (n := 75) C dL_isSquashed_73 rfl rfl ?_
          refine g_sipush (n := 78) (v := nI 399) C dL_isSquashed_75 rfl rfl ?_
          refine g_icmp_le (n := 81) (tgt := 113) C dL_isSquashed_78 (by decide) rfl (fun h78 => absurd h78 (fun y => by have := gn_ge y (by omega) (by decide); omega)) (fun h78 => ?_)
          refine g_iload (n := 83) C dL_isSquashed_81 rfl rfl ?_
          refine g_iload (n := 85) C dL_isSquashed_83 rfl rfl ?_
          refine g_if_eq (n := 88) (tgt := 93) C dL_isSquashed_85 (by decide) rfl (fun h85 => (by first | exact absurd h85 (by decide) | exact (h85 (by decide)).elim)) (fun h85 => ?_)
          refine g_bipush (n := 90) (v := -10) C dL_isSquashed_88 rfl rfl ?_
          refine g_goto (tgt := 95) C dL_isSquashed_90 (by decide) ?_
          refine g_icmp_ne (n := 98) (tgt := 111) C dL_isSquashed_95 (by decide) rfl (fun h95 => absurd rfl h95) (fun h95 => ?_)
          refine g_aload_n (n := 99) C dL_isSquashed_98 rfl (Or.inr ⟨_, rfl⟩) rfl ?_
          refine g_V (n := 102) (rest := []) C (z_layers hE hl h (mc := 0) (ms := 0)) dL_isSquashed_99 kM_X5_layers kL_L_111 kV_X5_layers h.co.choose_spec rfl rfl rfl (Nat.le_of_ble_eq_true rfl) ⟨by decide, by decide⟩ ⟨by first | omega | (simp only [gRm]; omega), by first | omega | (simp only [gRm]; omega)⟩ rfl (fun v9 L9 f9 hq => ?_)
          obtain ⟨rfl, rfl, rfl⟩ := hq
          refine G.sk (st' := [_]) rfl ?_
          refine g_iload (n := 104) C dL_isSquashed_102 rfl rfl ?_
          refine g_icmp_ne (n := 107) (tgt := 111) C dL_isSquashed_104 (by decide) rfl (fun h104 => absurd rfl h104) (fun h104 => ?_)
          refine g_iconst (n := 108) (v := nI 1) C dL_isSquashed_107 rfl rfl ?_
          refine g_goto (tgt := 112) C dL_isSquashed_108 (by decide) ?_
          refine g_zret C hr rfl dL_isSquashed_112 ?_ ⟨by first | omega | (simp only [gRm]; omega), by first | omega | (simp only [gRm]; omega)⟩
          exact ⟨rfl, n, PR, PL, S, A, I, h, hi, fun _ _ => rfl⟩
      · by_cases hz0 : z = 0
        · refine g_aload_n (n := 1) C dL_isSquashed_0 rfl (Or.inr ⟨_, rfl⟩) rfl ?_
          refine g_iconst (n := 2) (v := nI 2) C dL_isSquashed_1 rfl rfl ?_
          refine g_iload_n (n := 3) C dL_isSquashed_2 rfl rfl ?_
          refine g_iconst (n := 4) (v := nI 0) C dL_isSquashed_3 rfl rfl ?_
          refine g_SH (n := 7) (rest := []) C (tz_tagged hE hl hN h ht (nI 0)) dL_isSquashed_4 kH_tags kW_L_141 kT_tags rfl rfl (Nat.le_of_ble_eq_true rfl) ⟨by decide, by decide⟩ ⟨by first | omega | (simp only [gRm]; omega), by first | omega | (simp only [gRm]; omega)⟩ rfl (fun v9 L9 f9 hq => ?_)
          obtain ⟨rfl, rfl, rfl⟩ := hq
          refine G.sk (st' := [_]) rfl ?_
          rw [e16]
          refine g_istore_n (n := 8) (ls' := [_, _, _, _, _, _, _, _, _, _, _]) C dL_isSquashed_7 rfl (by decide) rfl ?_
          refine g_aload_n (n := 9) C dL_isSquashed_8 rfl (Or.inr ⟨_, rfl⟩) rfl ?_
          refine g_V (n := 12) (rest := []) C (z_layers hE hl h (mc := 0) (ms := 0)) dL_isSquashed_9 kM_X5_layers kL_L_111 kV_X5_layers h.co.choose_spec rfl rfl rfl (Nat.le_of_ble_eq_true rfl) ⟨by decide, by decide⟩ ⟨by first | omega | (simp only [gRm]; omega), by first | omega | (simp only [gRm]; omega)⟩ rfl (fun v9 L9 f9 hq => ?_)
          obtain ⟨rfl, rfl, rfl⟩ := hq
          refine G.sk (st' := [_]) rfl ?_
          refine g_istore (n := 14) (ls' := [_, _, _, _, _, _, _, _, _, _, _]) C dL_isSquashed_12 rfl (by decide) rfl ?_
          refine g_iload_n (n := 15) C dL_isSquashed_14 rfl rfl ?_
          refine g_if_ge (n := 18) (tgt := 22) C dL_isSquashed_15 (by decide) rfl (fun h15 => ?_) (fun h15 => absurd (nI_nn (by omega)) h15)
          refine g_aload_n (n := 23) C dL_isSquashed_22 rfl (Or.inr ⟨_, rfl⟩) rfl ?_
          refine g_iload_n (n := 24) C dL_isSquashed_23 rfl rfl ?_
          refine g_V (n := 27) (rest := []) C (z_depth hE hl h (mc := 0) (ms := 0) hk hk8) dL_isSquashed_24 kM_X5_depth kL_L_95 kV_X5_depth h.co.choose_spec rfl rfl rfl (Nat.le_of_ble_eq_true rfl) ⟨by decide, by decide⟩ ⟨by first | omega | (simp only [gRm]; omega), by first | omega | (simp only [gRm]; omega)⟩ rfl (fun v9 L9 f9 hq => ?_)
          obtain ⟨rfl, rfl, rfl⟩ := hq
          refine G.sk (st' := [_]) rfl ?_
          refine g_istore (n := 29) (ls' := [_, _, _, _, _, _, _, _, _, _, _]) C dL_isSquashed_27 rfl (by decide) rfl ?_
          refine g_aload_n (n := 30) C dL_isSquashed_29 rfl (Or.inr ⟨_, rfl⟩) rfl ?_
          refine g_iconst (n := 31) (v := nI 3) C dL_isSquashed_30 rfl rfl ?_
          refine g_iload_n (n := 32) C dL_isSquashed_31 rfl rfl ?_
          refine g_iload_n (n := 33) C dL_isSquashed_32 rfl rfl ?_
          refine g_SH (n := 36) (rest := []) C (tn_squash_I hE hl hN h hT.tag (x := nI t) (y := nI z) (fun y => by obtain ⟨y1, y2, y3⟩ := sqC1_u ht6 hz6 y; omega)) dL_isSquashed_33 kH_tags kW_L_141 kT_tags rfl rfl (Nat.le_of_ble_eq_true rfl) ⟨by decide, by decide⟩ ⟨by first | omega | (simp only [gRm]; omega), by first | omega | (simp only [gRm]; omega)⟩ rfl (fun v9 L9 f9 hq => ?_)
          obtain ⟨rfl, rfl, rfl⟩ := hq
          refine G.sk (st' := [_]) rfl ?_
          refine g_istore (n := 38) (ls' := [_, _, _, _, _, _, _, _, _, _, _]) C dL_isSquashed_36 rfl (by decide) rfl ?_
          refine g_iload_n (n := 39) C dL_isSquashed_38 rfl rfl ?_
          refine g_iconst (n := 40) (v := nI 5) C dL_isSquashed_39 rfl rfl ?_
          refine g_icmp_ge (n := 43) (tgt := 61) C dL_isSquashed_40 (by decide) rfl (fun h40 => absurd h40 (fun y => by have := gn_ge y (by decide) (by omega); omega)) (fun h40 => ?_)
          refine g_iload_n (n := 44) C dL_isSquashed_43 rfl rfl ?_
          refine g_if_le (n := 47) (tgt := 61) C dL_isSquashed_44 (by decide) rfl (fun h44 => ?_) (fun h44 => absurd (by rw [hz0]; decide) h44)
          refine g_iconst (n := 62) (v := nI 0) C dL_isSquashed_61 rfl rfl ?_
          refine g_istore (n := 64) (ls' := [_, _, _, _, _, _, _, _, _, _, _]) C dL_isSquashed_62 rfl (by decide) rfl ?_
          refine g_iload (n := 66) C dL_isSquashed_64 rfl rfl ?_
          refine g_if_eq (n := 69) (tgt := 81) C dL_isSquashed_66 (by decide) rfl (fun h66 => ?_) (fun h66 => absurd (by decide) h66)
          refine g_iload (n := 83) C dL_isSquashed_81 rfl rfl ?_
          refine g_iload (n := 85) C dL_isSquashed_83 rfl rfl ?_
          refine g_if_eq (n := 88) (tgt := 93) C dL_isSquashed_85 (by decide) rfl (fun h85 => ?_) (fun h85 => absurd (by decide) h85)
          refine g_bipush (n := 95) (v := -30) C dL_isSquashed_93 rfl rfl ?_
          refine g_icmp_ne (n := 98) (tgt := 111) C dL_isSquashed_95 (by decide) rfl (fun h95 => absurd rfl h95) (fun h95 => ?_)
          refine g_aload_n (n := 99) C dL_isSquashed_98 rfl (Or.inr ⟨_, rfl⟩) rfl ?_
          refine g_V (n := 102) (rest := []) C (z_layers hE hl h (mc := 0) (ms := 0)) dL_isSquashed_99 kM_X5_layers kL_L_111 kV_X5_layers h.co.choose_spec rfl rfl rfl (Nat.le_of_ble_eq_true rfl) ⟨by decide, by decide⟩ ⟨by first | omega | (simp only [gRm]; omega), by first | omega | (simp only [gRm]; omega)⟩ rfl (fun v9 L9 f9 hq => ?_)
          obtain ⟨rfl, rfl, rfl⟩ := hq
          refine G.sk (st' := [_]) rfl ?_
          refine g_iload (n := 104) C dL_isSquashed_102 rfl rfl ?_
          refine g_icmp_ne (n := 107) (tgt := 111) C dL_isSquashed_104 (by decide) rfl (fun h104 => absurd rfl h104) (fun h104 => ?_)
          refine g_iconst (n := 108) (v := nI 1) C dL_isSquashed_107 rfl rfl ?_
          refine g_goto (tgt := 112) C dL_isSquashed_108 (by decide) ?_
          refine g_zret C hr rfl dL_isSquashed_112 ?_ ⟨by first | omega | (simp only [gRm]; omega), by first | omega | (simp only [gRm]; omega)⟩
          exact ⟨rfl, n, PR, PL, S, A, I, h, hi, fun _ _ => rfl⟩
        · refine g_aload_n (n := 1) C dL_isSquashed_0 rfl (Or.inr ⟨_, rfl⟩) rfl ?_
          refine g_iconst (n := 2) (v := nI 2) C dL_isSquashed_1 rfl rfl ?_
          refine g_iload_n (n := 3) C dL_isSquashed_2 rfl rfl ?_
          refine g_iconst (n := 4) (v := nI 0) C dL_isSquashed_3 rfl rfl ?_
          refine g_SH (n := 7) (rest := []) C (tz_tagged hE hl hN h ht (nI 0)) dL_isSquashed_4 kH_tags kW_L_141 kT_tags rfl rfl (Nat.le_of_ble_eq_true rfl) ⟨by decide, by decide⟩ ⟨by first | omega | (simp only [gRm]; omega), by first | omega | (simp only [gRm]; omega)⟩ rfl (fun v9 L9 f9 hq => ?_)
          obtain ⟨rfl, rfl, rfl⟩ := hq
          refine G.sk (st' := [_]) rfl ?_
          rw [e16]
          refine g_istore_n (n := 8) (ls' := [_, _, _, _, _, _, _, _, _, _, _]) C dL_isSquashed_7 rfl (by decide) rfl ?_
          refine g_aload_n (n := 9) C dL_isSquashed_8 rfl (Or.inr ⟨_, rfl⟩) rfl ?_
          refine g_V (n := 12) (rest := []) C (z_layers hE hl h (mc := 0) (ms := 0)) dL_isSquashed_9 kM_X5_layers kL_L_111 kV_X5_layers h.co.choose_spec rfl rfl rfl (Nat.le_of_ble_eq_true rfl) ⟨by decide, by decide⟩ ⟨by first | omega | (simp only [gRm]; omega), by first | omega | (simp only [gRm]; omega)⟩ rfl (fun v9 L9 f9 hq => ?_)
          obtain ⟨rfl, rfl, rfl⟩ := hq
          refine G.sk (st' := [_]) rfl ?_
          refine g_istore (n := 14) (ls' := [_, _, _, _, _, _, _, _, _, _, _]) C dL_isSquashed_12 rfl (by decide) rfl ?_
          refine g_iload_n (n := 15) C dL_isSquashed_14 rfl rfl ?_
          refine g_if_ge (n := 18) (tgt := 22) C dL_isSquashed_15 (by decide) rfl (fun h15 => ?_) (fun h15 => absurd (nI_nn (by omega)) h15)
          refine g_aload_n (n := 23) C dL_isSquashed_22 rfl (Or.inr ⟨_, rfl⟩) rfl ?_
          refine g_iload_n (n := 24) C dL_isSquashed_23 rfl rfl ?_
          refine g_V (n := 27) (rest := []) C (z_depth hE hl h (mc := 0) (ms := 0) hk hk8) dL_isSquashed_24 kM_X5_depth kL_L_95 kV_X5_depth h.co.choose_spec rfl rfl rfl (Nat.le_of_ble_eq_true rfl) ⟨by decide, by decide⟩ ⟨by first | omega | (simp only [gRm]; omega), by first | omega | (simp only [gRm]; omega)⟩ rfl (fun v9 L9 f9 hq => ?_)
          obtain ⟨rfl, rfl, rfl⟩ := hq
          refine G.sk (st' := [_]) rfl ?_
          refine g_istore (n := 29) (ls' := [_, _, _, _, _, _, _, _, _, _, _]) C dL_isSquashed_27 rfl (by decide) rfl ?_
          refine g_aload_n (n := 30) C dL_isSquashed_29 rfl (Or.inr ⟨_, rfl⟩) rfl ?_
          refine g_iconst (n := 31) (v := nI 3) C dL_isSquashed_30 rfl rfl ?_
          refine g_iload_n (n := 32) C dL_isSquashed_31 rfl rfl ?_
          refine g_iload_n (n := 33) C dL_isSquashed_32 rfl rfl ?_
          refine g_SH (n := 36) (rest := []) C (tn_squash_I hE hl hN h hT.tag (x := nI t) (y := nI z) (fun y => by obtain ⟨y1, y2, y3⟩ := sqC1_u ht6 hz6 y; have := y3 k hk1; omega)) dL_isSquashed_33 kH_tags kW_L_141 kT_tags rfl rfl (Nat.le_of_ble_eq_true rfl) ⟨by decide, by decide⟩ ⟨by first | omega | (simp only [gRm]; omega), by first | omega | (simp only [gRm]; omega)⟩ rfl (fun v9 L9 f9 hq => ?_)
          obtain ⟨rfl, rfl, rfl⟩ := hq
          refine G.sk (st' := [_]) rfl ?_
          refine g_istore (n := 38) (ls' := [_, _, _, _, _, _, _, _, _, _, _]) C dL_isSquashed_36 rfl (by decide) rfl ?_
          refine g_iload_n (n := 39) C dL_isSquashed_38 rfl rfl ?_
          refine g_iconst (n := 40) (v := nI 5) C dL_isSquashed_39 rfl rfl ?_
          refine g_icmp_ge (n := 43) (tgt := 61) C dL_isSquashed_40 (by decide) rfl (fun h40 => absurd h40 (fun y => by have := gn_ge y (by decide) (by omega); omega)) (fun h40 => ?_)
          refine g_iload_n (n := 44) C dL_isSquashed_43 rfl rfl ?_
          refine g_if_le (n := 47) (tgt := 61) C dL_isSquashed_44 (by decide) rfl (fun h44 => absurd h44 (fun y => by have := gn_ge (b := 0) y (by omega) (by decide); omega)) (fun h44 => ?_)
          refine g_iload_n (n := 48) C dL_isSquashed_47 rfl rfl ?_
          refine g_if_lt (n := 51) (tgt := 57) C dL_isSquashed_48 (by decide) rfl (fun h48 => absurd h48 (nI_n0 (by omega))) (fun h48 => ?_)
          refine g_iload_n (n := 52) C dL_isSquashed_51 rfl rfl ?_
          refine g_iload (n := 54) C dL_isSquashed_52 rfl rfl ?_
          refine g_icmp_ge (n := 57) (tgt := 61) C dL_isSquashed_54 (by decide) rfl (fun h54 => ?_) (fun h54 => absurd ((nI_leI (by omega) (by omega)).mpr (by omega)) h54)
          refine g_iconst (n := 62) (v := nI 0) C dL_isSquashed_61 rfl rfl ?_
          refine g_istore (n := 64) (ls' := [_, _, _, _, _, _, _, _, _, _, _]) C dL_isSquashed_62 rfl (by decide) rfl ?_
          refine g_iload (n := 66) C dL_isSquashed_64 rfl rfl ?_
          refine g_if_eq (n := 69) (tgt := 81) C dL_isSquashed_66 (by decide) rfl (fun h66 => ?_) (fun h66 => absurd (by decide) h66)
          refine g_iload (n := 83) C dL_isSquashed_81 rfl rfl ?_
          refine g_iload (n := 85) C dL_isSquashed_83 rfl rfl ?_
          refine g_if_eq (n := 88) (tgt := 93) C dL_isSquashed_85 (by decide) rfl (fun h85 => ?_) (fun h85 => absurd (by decide) h85)
          refine g_bipush (n := 95) (v := -30) C dL_isSquashed_93 rfl rfl ?_
          refine g_icmp_ne (n := 98) (tgt := 111) C dL_isSquashed_95 (by decide) rfl (fun h95 => absurd rfl h95) (fun h95 => ?_)
          refine g_aload_n (n := 99) C dL_isSquashed_98 rfl (Or.inr ⟨_, rfl⟩) rfl ?_
          refine g_V (n := 102) (rest := []) C (z_layers hE hl h (mc := 0) (ms := 0)) dL_isSquashed_99 kM_X5_layers kL_L_111 kV_X5_layers h.co.choose_spec rfl rfl rfl (Nat.le_of_ble_eq_true rfl) ⟨by decide, by decide⟩ ⟨by first | omega | (simp only [gRm]; omega), by first | omega | (simp only [gRm]; omega)⟩ rfl (fun v9 L9 f9 hq => ?_)
          obtain ⟨rfl, rfl, rfl⟩ := hq
          refine G.sk (st' := [_]) rfl ?_
          refine g_iload (n := 104) C dL_isSquashed_102 rfl rfl ?_
          refine g_icmp_ne (n := 107) (tgt := 111) C dL_isSquashed_104 (by decide) rfl (fun h104 => absurd rfl h104) (fun h104 => ?_)
          refine g_iconst (n := 108) (v := nI 1) C dL_isSquashed_107 rfl rfl ?_
          refine g_goto (tgt := 112) C dL_isSquashed_108 (by decide) ?_
          refine g_zret C hr rfl dL_isSquashed_112 ?_ ⟨by first | omega | (simp only [gRm]; omega), by first | omega | (simp only [gRm]; omega)⟩
          exact ⟨rfl, n, PR, PL, S, A, I, h, hi, fun _ _ => rfl⟩
  · refine g_aload_n (n := 1) C dL_isSquashed_0 rfl (Or.inr ⟨_, rfl⟩) rfl ?_
    refine g_iconst (n := 2) (v := nI 2) C dL_isSquashed_1 rfl rfl ?_
    refine g_iload_n (n := 3) C dL_isSquashed_2 rfl rfl ?_
    refine g_iconst (n := 4) (v := nI 0) C dL_isSquashed_3 rfl rfl ?_
    refine g_SH (n := 7) (rest := []) C (tn_tagged hE hl hN h (x := nI t) (fun ⟨i, hi5, e⟩ => by have := gn_inj (by omega) (by omega) e; omega) (nI 0)) dL_isSquashed_4 kH_tags kW_L_141 kT_tags rfl rfl (Nat.le_of_ble_eq_true rfl) ⟨by decide, by decide⟩ ⟨by first | omega | (simp only [gRm]; omega), by first | omega | (simp only [gRm]; omega)⟩ rfl (fun v9 L9 f9 hq => ?_)
    obtain ⟨rfl, rfl, rfl⟩ := hq
    refine G.sk (st' := [_]) rfl ?_
    refine g_istore_n (n := 8) (ls' := [_, _, _, _, _, _, _, _, _, _, _]) C dL_isSquashed_7 rfl (by decide) rfl ?_
    refine g_aload_n (n := 9) C dL_isSquashed_8 rfl (Or.inr ⟨_, rfl⟩) rfl ?_
    refine g_V (n := 12) (rest := []) C (z_layers hE hl h (mc := 0) (ms := 0)) dL_isSquashed_9 kM_X5_layers kL_L_111 kV_X5_layers h.co.choose_spec rfl rfl rfl (Nat.le_of_ble_eq_true rfl) ⟨by decide, by decide⟩ ⟨by first | omega | (simp only [gRm]; omega), by first | omega | (simp only [gRm]; omega)⟩ rfl (fun v9 L9 f9 hq => ?_)
    obtain ⟨rfl, rfl, rfl⟩ := hq
    refine G.sk (st' := [_]) rfl ?_
    refine g_istore (n := 14) (ls' := [_, _, _, _, _, _, _, _, _, _, _]) C dL_isSquashed_12 rfl (by decide) rfl ?_
    refine g_iload_n (n := 15) C dL_isSquashed_14 rfl rfl ?_
    refine g_if_ge (n := 18) (tgt := 22) C dL_isSquashed_15 (by decide) rfl (fun h15 => absurd h15 (by decide)) (fun h15 => ?_)
    refine g_iconst (n := 19) (v := nI 0) C dL_isSquashed_18 rfl rfl ?_
    refine g_goto (tgt := 27) C dL_isSquashed_19 (by decide) ?_
    refine g_istore (n := 29) (ls' := [_, _, _, _, _, _, _, _, _, _, _]) C dL_isSquashed_27 rfl (by decide) rfl ?_
    refine g_aload_n (n := 30) C dL_isSquashed_29 rfl (Or.inr ⟨_, rfl⟩) rfl ?_
    refine g_iconst (n := 31) (v := nI 3) C dL_isSquashed_30 rfl rfl ?_
    refine g_iload_n (n := 32) C dL_isSquashed_31 rfl rfl ?_
    refine g_iload_n (n := 33) C dL_isSquashed_32 rfl rfl ?_
    refine g_SH (n := 36) (rest := []) C (tn_squash_I hE hl hN h hT.tag (x := nI t) (y := nI z) (fun y => by obtain ⟨y1, y2, y3⟩ := sqC1_u ht6 hz6 y; omega)) dL_isSquashed_33 kH_tags kW_L_141 kT_tags rfl rfl (Nat.le_of_ble_eq_true rfl) ⟨by decide, by decide⟩ ⟨by first | omega | (simp only [gRm]; omega), by first | omega | (simp only [gRm]; omega)⟩ rfl (fun v9 L9 f9 hq => ?_)
    obtain ⟨rfl, rfl, rfl⟩ := hq
    refine G.sk (st' := [_]) rfl ?_
    refine g_istore (n := 38) (ls' := [_, _, _, _, _, _, _, _, _, _, _]) C dL_isSquashed_36 rfl (by decide) rfl ?_
    refine g_iload_n (n := 39) C dL_isSquashed_38 rfl rfl ?_
    refine g_iconst (n := 40) (v := nI 5) C dL_isSquashed_39 rfl rfl ?_
    refine g_icmp_ge (n := 43) (tgt := 61) C dL_isSquashed_40 (by decide) rfl (fun h40 => ?_) (fun h40 => absurd ((nI_leI (by decide) (by omega)).mpr (by omega)) h40)
    refine g_iconst (n := 62) (v := nI 0) C dL_isSquashed_61 rfl rfl ?_
    refine g_istore (n := 64) (ls' := [_, _, _, _, _, _, _, _, _, _, _]) C dL_isSquashed_62 rfl (by decide) rfl ?_
    refine g_iload (n := 66) C dL_isSquashed_64 rfl rfl ?_
    refine g_if_eq (n := 69) (tgt := 81) C dL_isSquashed_66 (by decide) rfl (fun h66 => ?_) (fun h66 => absurd (by decide) h66)
    refine g_iload (n := 83) C dL_isSquashed_81 rfl rfl ?_
    refine g_iload (n := 85) C dL_isSquashed_83 rfl rfl ?_
    refine g_if_eq (n := 88) (tgt := 93) C dL_isSquashed_85 (by decide) rfl (fun h85 => ?_) (fun h85 => absurd (by decide) h85)
    refine g_bipush (n := 95) (v := -30) C dL_isSquashed_93 rfl rfl ?_
    refine g_icmp_ne (n := 98) (tgt := 111) C dL_isSquashed_95 (by decide) rfl (fun h95 => absurd rfl h95) (fun h95 => ?_)
    refine g_aload_n (n := 99) C dL_isSquashed_98 rfl (Or.inr ⟨_, rfl⟩) rfl ?_
    refine g_V (n := 102) (rest := []) C (z_layers hE hl h (mc := 0) (ms := 0)) dL_isSquashed_99 kM_X5_layers kL_L_111 kV_X5_layers h.co.choose_spec rfl rfl rfl (Nat.le_of_ble_eq_true rfl) ⟨by decide, by decide⟩ ⟨by first | omega | (simp only [gRm]; omega), by first | omega | (simp only [gRm]; omega)⟩ rfl (fun v9 L9 f9 hq => ?_)
    obtain ⟨rfl, rfl, rfl⟩ := hq
    refine G.sk (st' := [_]) rfl ?_
    refine g_iload (n := 104) C dL_isSquashed_102 rfl rfl ?_
    refine g_icmp_ne (n := 107) (tgt := 111) C dL_isSquashed_104 (by decide) rfl (fun h104 => absurd rfl h104) (fun h104 => ?_)
    refine g_iconst (n := 108) (v := nI 1) C dL_isSquashed_107 rfl rfl ?_
    refine g_goto (tgt := 112) C dL_isSquashed_108 (by decide) ?_
    refine g_zret C hr rfl dL_isSquashed_112 ?_ ⟨by first | omega | (simp only [gRm]; omega), by first | omega | (simp only [gRm]; omega)⟩
    exact ⟨rfl, n, PR, PL, S, A, I, h, hi, fun _ _ => rfl⟩

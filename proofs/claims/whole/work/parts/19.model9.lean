/-! ===== the reference, IX: drop ===== -/
def drpC (A : Nat → Nat → Int32) (r y : Int32) : Prop := ∃ i m j, i < 4 ∧ r = nI i ∧ A 3 i = nI m ∧ m ≤ 10 ∧ j < m ∧ y = nI j
def drA (A : Nat → Nat → Int32) (i m j q : Nat) : Nat → Nat → Int32 := fun k1 j1 => if (k1 = 4 ∨ k1 = 5 ∨ k1 = 6) ∧ 10 * i + j ≤ j1 ∧ j1 < 10 * i + j + q then A k1 (j1 + 1) else mU A 3 i (nI (m - 1)) k1 j1
theorem drA_0 {A : Nat → Nat → Int32} {i m j : Nat} : drA A i m j 0 = mU A 3 i (nI (m - 1)) := by
  funext k1 j1
  exact if_neg (by omega)
theorem drA_o {A : Nat → Nat → Int32} {i m j q k1 j1 : Nat} (h3 : k1 ≠ 3) (h : 10 * i + j + q ≤ j1) : drA A i m j q k1 j1 = A k1 j1 := (if_neg (by omega)).trans (mU_k h3)
theorem drA_3 {A : Nat → Nat → Int32} {i m j q : Nat} : drA A i m j q 3 i = nI (m - 1) := (if_neg (by omega)).trans mU_s
theorem drA_s {A : Nat → Nat → Int32} {i m j q : Nat} {x y z : Int32} (hx : x = A 4 (10 * i + j + q + 1)) (hy : y = A 5 (10 * i + j + q + 1)) (hz : z = A 6 (10 * i + j + q + 1)) : mU (mU (mU (drA A i m j q) 4 (10 * i + j + q) x) 5 (10 * i + j + q) y) 6 (10 * i + j + q) z = drA A i m j (q + 1) := by
  funext k1 j1
  subst hx hy hz
  by_cases e : j1 = 10 * i + j + q
  · subst e
    by_cases h1 : k1 = 4
    · subst h1
      rw [mU_k (by decide), mU_k (by decide), mU_s]
      exact (if_pos ⟨by decide, by omega, by omega⟩).symm
    · by_cases h2 : k1 = 5
      · subst h2
        rw [mU_k (by decide), mU_s]
        exact (if_pos ⟨by decide, by omega, by omega⟩).symm
      · by_cases h3 : k1 = 6
        · subst h3
          rw [mU_s]
          exact (if_pos ⟨by decide, by omega, by omega⟩).symm
        · rw [mU_k h3, mU_k h2, mU_k h1]
          exact (if_neg (by omega)).trans (if_neg (by omega)).symm
  · rw [mU_j e, mU_j e, mU_j e]
    unfold drA
    by_cases h : (k1 = 4 ∨ k1 = 5 ∨ k1 = 6) ∧ 10 * i + j ≤ j1 ∧ j1 < 10 * i + j + q
    · rw [if_pos h, if_pos ⟨h.1, h.2.1, by omega⟩]
    · rw [if_neg h, if_neg (fun z => h ⟨z.1, z.2.1, by omega⟩)]
theorem k6_drop {l : Launch} {s0 : State} {D : va_G} {cy : Nat → ClassId} (hE : gE s0 D cy) (hl : l.stackTraces = false) {mo : Nat} {ad : Nat → Nat} {A : Nat → Nat → Int32} {I : Nat → Int32} {L : List Nat} {f : gF} (hM : IsM cy mo ad A I L f) (hR : vRec A) (r y : Int32) : gM l s0 D yX6_drop cX6_drop 5 (some .int) 2 0 0 [.ref mo, .int r, .int y] L f (mQ cy mo ad L (fun b9 A1 I1 => ∃ w, cd2 (drpC A r y) w ∧ I1 = va_up I 27 (nI w) ∧ (w = 0 → ∃ i m j, i < 4 ∧ r = nI i ∧ A 3 i = nI m ∧ m ≤ 10 ∧ j < m ∧ y = nI j ∧ b9 = nI (m - 1) ∧ A1 = drA A i m j (m - 1 - j)) ∧ (w ≠ 0 → A1 = A))) := by
  refine gM.of (own := RX6) hE hl (by decide +kernel) rfl rfl (Nat.le_of_ble_eq_true rfl) (fun p9 e9 s9 m9 a99 b99 t99 c9 C hr hnm => ?_)
  refine G.weak (ls' := [some (.ref mo), some (.int r), some (.int y), none, none]) ?_ rfl (fun _ _ h => h)
  refine g_cut (α := Nat) (fun w => cdb (drpC A r y) w) (fun _ => L) (fun _ => f) (fun _ => 0) (fun _ => 0) 39 (fun _ => [some (.ref mo), some (.int r), some (.int y), none, none]) (fun w => [.int (nI w)]) (fun J => ?_) (fun w hw => ?_)
  · skip
    refine g_iload_n (n := 1) C dX6_drop_0 rfl rfl ?_
    refine g_iconst (n := 2) (v := nI 4) C dX6_drop_1 rfl rfl ?_
    refine g_S (n := 5) (rest := []) C (k6_isIn hE hl (r) (nI 4)) dX6_drop_2 kM_X6_isIn kL_X6_87 kS_X6_isIn rfl rfl (Nat.le_of_ble_eq_true rfl) ⟨by decide, by decide⟩ ⟨by decide, by decide⟩ rfl (fun v9 L9 f9 hq => ?_)
    obtain ⟨rfl, rfl, rfl⟩ := hq
    refine G.sk (st' := [_]) rfl ?_
    refine g_if_eq (n := 8) (tgt := 38) C dX6_drop_5 (by decide) rfl (fun h5 => ?_) (fun h5 => ?_)
    · have h5 := gin_f h5 (by decide)
      refine g_iconst (n := 39) (v := nI 0) C dX6_drop_38 rfl rfl ?_
      first | exact J _ (Or.inl ⟨rfl, i, m, _, hi, rfl, e3, hm9, h31.choose_spec.1, h31.choose_spec.2⟩) | exact J _ (Or.inr ⟨rfl, fun ⟨i2, m2, j2, a1, a2, a3, a4, a5, a6⟩ => h31 ⟨j2, by have e := gn_inj (by omega) (by omega) a2; subst e; have e := gn_inj (by omega) (by omega) (e3.symm.trans a3); omega, a6⟩⟩) | exact J _ (Or.inr ⟨rfl, fun ⟨i2, m2, j2, a1, a2, _⟩ => h5 ⟨i2, a1, a2⟩⟩)
    · obtain ⟨i, hi, rfl⟩ := gin_t h5 (by decide)
      obtain ⟨m, b0, hm9, hb0, e3, e2, hins⟩ := hR i hi
      refine g_iload_n (n := 9) C dX6_drop_8 rfl rfl ?_
      refine g_aload_n (n := 10) C dX6_drop_9 rfl (Or.inr ⟨_, rfl⟩) rfl ?_
      refine m_get (n := 13) C hM dX6_drop_10 kF_X6_19 rfl rfl ?_
      refine g_iload_n (n := 14) C dX6_drop_13 rfl rfl ?_
      refine g_if_lt (n := 17) (tgt := 22) C dX6_drop_14 (by decide) rfl (fun h14 => absurd h14 (nI_pos (by omega))) (fun h14 => ?_)
      refine g_iload_n (n := 18) C dX6_drop_17 rfl rfl ?_
      refine g_iconst (n := 19) (v := nI 4) C dX6_drop_18 rfl rfl ?_
      refine g_icmp_lt (n := 22) (tgt := 26) C dX6_drop_19 (by decide) rfl (fun h19 => ?_) (fun h19 => absurd ((nI_ltI (by omega) (by decide)).mpr hi) h19)
      refine g_iload_n (n := 27) C dX6_drop_26 rfl rfl ?_
      refine m_ald (n := 28) C hM dX6_drop_27 rfl rfl rfl (by simp only [mLen]; omega) (by decide) rfl ?_
      refine G.top (y := nI m) e3 ?_
      refine g_S (n := 31) (rest := []) C (k6_isIn hE hl y (nI m)) dX6_drop_28 kM_X6_isIn kL_X6_87 kS_X6_isIn rfl rfl (Nat.le_of_ble_eq_true rfl) ⟨by decide, by decide⟩ ⟨by decide, by decide⟩ rfl (fun v9 L9 f9 hq => ?_)
      obtain ⟨rfl, rfl, rfl⟩ := hq
      refine G.sk (st' := [_]) rfl ?_
      refine g_if_eq (n := 34) (tgt := 38) C dX6_drop_31 (by decide) rfl (fun h31 => ?_) (fun h31 => ?_)
      · have h31 := gin_f h31 (by omega)
        refine g_iconst (n := 39) (v := nI 0) C dX6_drop_38 rfl rfl ?_
        first | exact J _ (Or.inl ⟨rfl, i, m, _, hi, rfl, e3, hm9, h31.choose_spec.1, h31.choose_spec.2⟩) | exact J _ (Or.inr ⟨rfl, fun ⟨i2, m2, j2, a1, a2, a3, a4, a5, a6⟩ => h31 ⟨j2, by have e := gn_inj (by omega) (by omega) a2; subst e; have e := gn_inj (by omega) (by omega) (e3.symm.trans a3); omega, a6⟩⟩) | exact J _ (Or.inr ⟨rfl, fun ⟨i2, m2, j2, a1, a2, _⟩ => h5 ⟨i2, a1, a2⟩⟩)
      · have h31 := gin_t h31 (by omega)
        refine g_iconst (n := 35) (v := nI 1) C dX6_drop_34 rfl rfl ?_
        refine g_goto (tgt := 39) C dX6_drop_35 (by decide) ?_
        first | exact J _ (Or.inl ⟨rfl, i, m, _, hi, rfl, e3, hm9, h31.choose_spec.1, h31.choose_spec.2⟩) | exact J _ (Or.inr ⟨rfl, fun ⟨i2, m2, j2, a1, a2, a3, a4, a5, a6⟩ => h31 ⟨j2, by have e := gn_inj (by omega) (by omega) a2; subst e; have e := gn_inj (by omega) (by omega) (e3.symm.trans a3); omega, a6⟩⟩) | exact J _ (Or.inr ⟨rfl, fun ⟨i2, m2, j2, a1, a2, _⟩ => h5 ⟨i2, a1, a2⟩⟩)
  · skip
    refine g_cut (α := Nat) (fun w => cd2 (drpC A r y) w) (fun _ => L) (fun _ => f) (fun _ => 0) (fun _ => 0) 50 (fun _ => [some (.ref mo), some (.int r), some (.int y), some (.int (nI w)), none]) (fun u => [.int (nI u), .ref mo]) (fun J2 => ?_) (fun u hu => ?_)
    · skip
      refine g_istore_n (n := 40) (ls' := [_, _, _, _, _]) C dX6_drop_39 rfl (by decide) rfl ?_
      refine g_aload_n (n := 41) C dX6_drop_40 rfl (Or.inr ⟨_, rfl⟩) rfl ?_
      refine g_iload_n (n := 42) C dX6_drop_41 rfl rfl ?_
      refine g_if_eq (n := 45) (tgt := 49) C dX6_drop_42 (by decide) rfl (fun h42 => ?_) (fun h42 => ?_)
      · have hc := cdb_f hw h42
        refine g_iconst (n := 50) (v := nI 1) C dX6_drop_49 rfl rfl ?_
        exact J2 _ (by simp [cd2, hc])
      · have hc := cdb_t hw h42
        refine g_iconst (n := 46) (v := nI 0) C dX6_drop_45 rfl rfl ?_
        refine g_goto (tgt := 50) C dX6_drop_46 (by decide) ?_
        exact J2 _ (by simp [cd2, hc])
    · skip
      refine g_V (n := 53) (rest := []) C (k6_fails hE hl hM _) dX6_drop_50 kM_X6_fails kL_X6_95 kV_X6_fails hM.1 rfl rfl rfl (Nat.le_of_ble_eq_true rfl) ⟨by decide, by decide⟩ ⟨by decide, by decide⟩ rfl (fun v9 L9 f hq => ?_)
      obtain ⟨rfl, hM, rfl⟩ := hq
      refine G.sk (st' := [_]) rfl ?_
      refine g_if_eq (n := 56) (tgt := 58) C dX6_drop_53 (by decide) rfl (fun h53 => ?_) (fun h53 => ?_)
      · obtain ⟨rfl, i, m, j, hi, rfl, e3, hm9, hj, rfl⟩ := cd2_f hu h53
        refine g_aload_n (n := 59) C dX6_drop_58 rfl (Or.inr ⟨_, rfl⟩) rfl ?_
        refine m_get (n := 62) C hM dX6_drop_59 kF_X6_19 rfl rfl ?_
        refine g_iload_n (n := 63) C dX6_drop_62 rfl rfl ?_
        refine g_dup2 (n := 64) C dX6_drop_63 rfl rfl rfl ?_
        refine m_ald (n := 65) C hM dX6_drop_64 rfl rfl rfl (by simp only [mLen]; omega) (by decide) rfl ?_
        refine G.top (y := nI m) e3 ?_
        refine g_iconst (n := 66) (v := nI 1) C dX6_drop_65 rfl rfl ?_
        refine g_isubN (n := 67) C dX6_drop_66 (by omega) rfl ?_
        refine m_ast (n := 68) C hM dX6_drop_67 rfl rfl rfl (by simp only [mLen]; omega) (by decide) rfl (fun f hM => ?_)
        refine g_bipush (n := 70) (v := nI 10) C dX6_drop_68 rfl rfl ?_
        refine g_iload_n (n := 71) C dX6_drop_70 rfl rfl ?_
        refine g_imulN (n := 72) C dX6_drop_71 rfl ?_
        refine g_iload_n (n := 73) C dX6_drop_72 rfl rfl ?_
        refine g_iaddN (n := 74) C dX6_drop_73 rfl ?_
        refine g_istore (n := 76) (ls' := [_, _, _, _, _]) C dX6_drop_74 rfl (by decide) rfl ?_
        refine g_loop (α := Nat × gF) (fun z => j + z.1 ≤ m - 1 ∧ IsM cy mo ad (drA A i m j z.1) (va_up I 27 (nI 0)) L z.2) (fun z => m - z.1) (fun _ => L) (fun z => z.2) (fun _ => 0) (fun _ => 0) 76 (fun z => [some (.ref mo), some (.int (nI i)), some (.int (nI j)), some (.int (nI w)), some (.int (nI (10 * i + j + z.1)))]) (fun _ => []) (fun z hz ih => ?_) (fun J3 => J3 (0, f) ⟨by show j + 0 ≤ m - 1; omega, by rw [drA_0]; exact hM⟩)
        obtain ⟨q, f⟩ := z
        obtain ⟨hq9, hM⟩ := hz
        dsimp only at hq9 hM ih ⊢
        refine g_iload (n := 78) C dX6_drop_76 rfl rfl ?_
        refine g_bipush (n := 80) (v := nI 10) C dX6_drop_78 rfl rfl ?_
        refine g_iload_n (n := 81) C dX6_drop_80 rfl rfl ?_
        refine g_imulN (n := 82) C dX6_drop_81 rfl ?_
        refine g_aload_n (n := 83) C dX6_drop_82 rfl (Or.inr ⟨_, rfl⟩) rfl ?_
        refine m_get (n := 86) C hM dX6_drop_83 kF_X6_19 rfl rfl ?_
        refine g_iload_n (n := 87) C dX6_drop_86 rfl rfl ?_
        refine m_ald (n := 88) C hM dX6_drop_87 rfl rfl rfl (by simp only [mLen]; omega) (by decide) rfl ?_
        refine G.top (y := nI (m - 1)) drA_3 ?_
        refine g_iaddN (n := 89) C dX6_drop_88 rfl ?_
        refine g_icmp_ge (n := 92) (tgt := 146) C dX6_drop_89 (by decide) rfl (fun h89 => ?_) (fun h89 => ?_)
        · have e9 : m - 1 - j = q := by have := gn_ge h89 (by omega) (by omega); omega
          subst e9
          refine g_aload_n (n := 147) C dX6_drop_146 rfl (Or.inr ⟨_, rfl⟩) rfl ?_
          refine m_get (n := 150) C hM dX6_drop_147 kF_X6_19 rfl rfl ?_
          refine g_iload_n (n := 151) C dX6_drop_150 rfl rfl ?_
          refine m_ald (n := 152) C hM dX6_drop_151 rfl rfl rfl (by simp only [mLen]; omega) (by decide) rfl ?_
          refine G.top (y := nI (m - 1)) drA_3 ?_
          refine g_iret C hr dX6_drop_152 ?_ ⟨by decide, by decide⟩
          exact ⟨rfl, _, _, _, rfl, hM, 0, hu, rfl, fun _ => ⟨i, m, j, hi, rfl, e3, hm9, hj, rfl, rfl, rfl⟩, fun h => absurd rfl h⟩
        · have hi2 : 10 * i + j + q < 10 * i + (m - 1) := gn_gt h89 (by omega) (by omega)
          refine g_aload_n (n := 93) C dX6_drop_92 rfl (Or.inr ⟨_, rfl⟩) rfl ?_
          refine m_get (n := 96) C hM dX6_drop_93 kF_X6_22 rfl rfl ?_
          refine g_iload (n := 98) C dX6_drop_96 rfl rfl ?_
          refine g_aload_n (n := 99) C dX6_drop_98 rfl (Or.inr ⟨_, rfl⟩) rfl ?_
          refine m_get (n := 102) C hM dX6_drop_99 kF_X6_22 rfl rfl ?_
          refine g_iload (n := 104) C dX6_drop_102 rfl rfl ?_
          refine g_iconst (n := 105) (v := nI 1) C dX6_drop_104 rfl rfl ?_
          refine g_iaddN (n := 106) C dX6_drop_105 rfl ?_
          refine m_ald (n := 107) C hM dX6_drop_106 rfl rfl rfl (by simp only [mLen]; omega) (by decide) rfl ?_
          refine G.top (y := A 4 (10 * i + j + q + 1)) (by rw [drA_o (by decide) (by omega)]) ?_
          refine m_ast (n := 108) C hM dX6_drop_107 rfl rfl rfl (by simp only [mLen]; omega) (by decide) rfl (fun f hM => ?_)
          refine g_aload_n (n := 109) C dX6_drop_108 rfl (Or.inr ⟨_, rfl⟩) rfl ?_
          refine m_get (n := 112) C hM dX6_drop_109 kF_X6_25 rfl rfl ?_
          refine g_iload (n := 114) C dX6_drop_112 rfl rfl ?_
          refine g_aload_n (n := 115) C dX6_drop_114 rfl (Or.inr ⟨_, rfl⟩) rfl ?_
          refine m_get (n := 118) C hM dX6_drop_115 kF_X6_25 rfl rfl ?_
          refine g_iload (n := 120) C dX6_drop_118 rfl rfl ?_
          refine g_iconst (n := 121) (v := nI 1) C dX6_drop_120 rfl rfl ?_
          refine g_iaddN (n := 122) C dX6_drop_121 rfl ?_
          refine m_ald (n := 123) C hM dX6_drop_122 rfl rfl rfl (by simp only [mLen]; omega) (by decide) rfl ?_
          refine G.top (y := A 5 (10 * i + j + q + 1)) (by rw [mU_k (by decide), drA_o (by decide) (by omega)]) ?_
          refine m_ast (n := 124) C hM dX6_drop_123 rfl rfl rfl (by simp only [mLen]; omega) (by decide) rfl (fun f hM => ?_)
          refine g_aload_n (n := 125) C dX6_drop_124 rfl (Or.inr ⟨_, rfl⟩) rfl ?_
          refine m_get (n := 128) C hM dX6_drop_125 kF_X6_28 rfl rfl ?_
          refine g_iload (n := 130) C dX6_drop_128 rfl rfl ?_
          refine g_aload_n (n := 131) C dX6_drop_130 rfl (Or.inr ⟨_, rfl⟩) rfl ?_
          refine m_get (n := 134) C hM dX6_drop_131 kF_X6_28 rfl rfl ?_
          refine g_iload (n := 136) C dX6_drop_134 rfl rfl ?_
          refine g_iconst (n := 137) (v := nI 1) C dX6_drop_136 rfl rfl ?_
          refine g_iaddN (n := 138) C dX6_drop_137 rfl ?_
          refine m_ald (n := 139) C hM dX6_drop_138 rfl rfl rfl (by simp only [mLen]; omega) (by decide) rfl ?_
          refine G.top (y := A 6 (10 * i + j + q + 1)) (by rw [mU_k (by decide), mU_k (by decide), drA_o (by decide) (by omega)]) ?_
          refine m_ast (n := 140) C hM dX6_drop_139 rfl rfl rfl (by simp only [mLen]; omega) (by decide) rfl (fun f hM => ?_)
          refine g_iinc (n := 143) (ls' := [_, _, _, _, _]) C dX6_drop_140 rfl (nI_1 _) rfl (by decide) rfl ?_
          refine g_goto (tgt := 76) C dX6_drop_143 (by decide) ?_
          rw [drA_s rfl rfl rfl] at hM
          exact ih (q + 1, f) ⟨by show j + (q + 1) ≤ m - 1; omega, hM⟩ (by show m - (q + 1) < m - q; omega)
      · have hw0 := cd_t h53
        refine g_iconst (n := 57) (v := nI 0) C dX6_drop_56 rfl rfl ?_
        refine g_iret C hr dX6_drop_57 ?_ ⟨by decide, by decide⟩
        exact ⟨rfl, nI 0, A, _, rfl, hM, u, hu, rfl, fun h => absurd h hw0, fun _ => rfl⟩
/-! ===== clean builds ===== -/
def stc (A : Nat → Nat → Int32) (c u : Nat → Int32) : Nat → Nat → Int32 := fun k j => if k = 28 then c j else if k = 29 then u j else A k j
theorem stc_id {A : Nat → Nat → Int32} : stc A (A 28) (A 29) = A := by
  funext k j
  by_cases h : k = 28
  · subst h; rfl
  · by_cases h2 : k = 29
    · subst h2; rfl
    · simp [stc, h, h2]
theorem stc_k {A : Nat → Nat → Int32} {c u : Nat → Int32} {k j : Nat} (h : k < 28) : stc A c u k j = A k j := by
  simp [stc, show k ≠ 28 by omega, show k ≠ 29 by omega]
theorem stc_c {A : Nat → Nat → Int32} {c u : Nat → Int32} {q : Nat} {x : Int32} : mU (stc A c u) 28 q x = stc A (upd c q x) u := by
  funext k j
  by_cases h : k = 28
  · subst h; simp [mU, stc, upd]
  · simp [mU, stc, h]
theorem stc_u {A : Nat → Nat → Int32} {c u : Nat → Int32} {q : Nat} {x : Int32} : mU (stc A c u) 29 q x = stc A c (upd u q x) := by
  funext k j
  by_cases h : k = 29
  · subst h; simp [mU, stc, upd]
  · by_cases h2 : k = 28
    · subst h2; simp [mU, stc]
    · simp [mU, stc, h, h2]
def cfP (F c : Nat → Int32) (what a : Int32) : Prop := (what = nI 0 ∧ ∃ j, j < 8 ∧ a = nI j ∧ F j = -1) ∨ ((what = nI 2 ∨ what = nI 3) ∧ ∃ q, q < 12 ∧ a = nI q ∧ c q = -1)
/-- an instruction, carried out on what is shown (c) and the variables (u) -/
def clR (F c u : Nat → Int32) (what a b : Int32) (w : Nat) (c1 u1 : Nat → Int32) : Prop :=
  (w = 0 ∧ cfP F c what a ∧ c1 = c ∧ u1 = u) ∨ (w = 1 ∧ ¬ cfP F c what a ∧
  ((what = nI 0 ∧ ∃ j q, j < 8 ∧ q < 12 ∧ a = nI j ∧ b = nI q ∧ c1 = upd c q (F j) ∧ u1 = u) ∨
   (what = nI 1 ∧ ∃ q v, q < 12 ∧ v < 4 ∧ a = nI q ∧ b = nI v ∧ c1 = upd c q (runV (c q) (u v)) ∧ u1 = u) ∨
   (what = nI 2 ∧ ∃ q r, q < 12 ∧ r < 12 ∧ q ≠ r ∧ a = nI q ∧ b = nI r ∧ c1 = upd (upd c q (-1)) r (c q) ∧ u1 = u) ∨
   (what = nI 3 ∧ ∃ q, q < 12 ∧ a = nI q ∧ c1 = upd (upd c q (-1)) q (-1) ∧ u1 = u) ∨
   (what = nI 4 ∧ ∃ v, v < 4 ∧ a = nI v ∧ c1 = c ∧ u1 = upd u v b)))
theorem cf_n0 {F c : Nat → Int32} {j : Nat} (hj : j < 8) (h1 : ¬ F j = -1) : ¬ cfP F c (nI 0) (nI j) := by
  rintro (⟨-, i, hi, e, h2⟩ | ⟨h2, -⟩)
  · have := gn_inj (by omega) (by omega) e
    subst this
    exact h1 h2
  · rcases h2 with h2 | h2 <;> exact absurd h2 (by decide)
theorem cf_n2 {F c : Nat → Int32} {q : Nat} {what : Int32} (h : what = nI 2 ∨ what = nI 3) (hq : q < 12) (h1 : ¬ c q = -1) : ¬ cfP F c what (nI q) := by
  rintro (⟨h2, -⟩ | ⟨-, i, hi, e, h2⟩)
  · rcases h with h | h <;> exact absurd (h.symm.trans h2) (by decide)
  · have := gn_inj (by omega) (by omega) e
    subst this
    exact h1 h2
theorem cf_n1 {F c : Nat → Int32} {what a : Int32} (h0 : ¬ what = nI 0) (h2 : ¬ what = nI 2) (h3 : ¬ what = nI 3) : ¬ cfP F c what a := by
  rintro (⟨h, -⟩ | ⟨h | h, -⟩)
  · exact h0 h
  · exact h2 h
  · exact h3 h
theorem k6_cleans {l : Launch} {s0 : State} {D : va_G} {cy : Nat → ClassId} (hE : gE s0 D cy) (hl : l.stackTraces = false) {mo : Nat} {ad : Nat → Nat} {A : Nat → Nat → Int32} {I : Nat → Int32} {L : List Nat} {f : gF} {c u : Nat → Int32} (hM : IsM cy mo ad (stc A c u) I L f) {what a b : Int32} (hI : vIns what a b) : gM l s0 D yX6_cleans cX6_cleans 5 (some .boolean) 1 0 0 [.ref mo, .int what, .int a, .int b] L f (fun v L1 f1 => L = L1 ∧ ∃ w c1 u1, v = some (.int (nI w)) ∧ IsM cy mo ad (stc A c1 u1) I L f1 ∧ clR (A 0) c u what a b w c1 u1) := by
  refine gM.of (own := RX6) hE hl (by decide +kernel) rfl rfl (Nat.le_of_ble_eq_true rfl) (fun p9 e9 s9 m9 a99 b99 t99 c9 C hr hnm => ?_)
  refine G.weak (ls' := [some (.ref mo), some (.int what), some (.int a), some (.int b), none]) ?_ rfl (fun _ _ h => h)
  rcases hI with ⟨rfl, ⟨j, hj, rfl⟩, ⟨q, hq9, rfl⟩⟩ | ⟨rfl, ⟨q, hq9, rfl⟩, ⟨v, hv9, rfl⟩⟩ | ⟨rfl, ⟨q, hq9, rfl⟩, ⟨r, hr9, rfl⟩, hne⟩ | ⟨rfl, ⟨q, hq9, rfl⟩⟩ | ⟨rfl, ⟨v, hv9, rfl⟩, hb9⟩
  · skip
    refine g_iload_n (n := 1) C dX6_cleans_0 rfl rfl ?_
    refine g_if_ne (n := 4) (tgt := 14) C dX6_cleans_1 (by decide) rfl (fun h1 => absurd rfl h1) (fun h1 => ?_)
    refine g_aload_n (n := 5) C dX6_cleans_4 rfl (Or.inr ⟨_, rfl⟩) rfl ?_
    refine m_get (n := 8) C hM dX6_cleans_5 kF_X6_7 rfl rfl ?_
    refine g_iload_n (n := 9) C dX6_cleans_8 rfl rfl ?_
    refine m_ald (n := 10) C hM dX6_cleans_9 rfl rfl rfl (by simp only [mLen]; omega) (by decide) rfl ?_
    refine G.top (y := A 0 j) (stc_k (by decide)) ?_
    refine g_iconst (n := 11) (v := -1) C dX6_cleans_10 rfl rfl ?_
    refine g_icmp_eq (n := 14) (tgt := 34) C dX6_cleans_11 (by decide) rfl (fun h11 => ?_) (fun h11 => ?_)
    · refine g_iconst (n := 35) (v := nI 0) C dX6_cleans_34 rfl rfl ?_
      refine g_zret C hr rfl dX6_cleans_35 ?_ ⟨by decide, by decide⟩
      exact ⟨rfl, 0, c, u, rfl, hM, Or.inl ⟨rfl, Or.inl ⟨rfl, j, hj, rfl, h11⟩, rfl, rfl⟩⟩
    · refine g_iload_n (n := 15) C dX6_cleans_14 rfl rfl ?_
      refine g_iconst (n := 16) (v := nI 2) C dX6_cleans_15 rfl rfl ?_
      refine g_icmp_eq (n := 19) (tgt := 24) C dX6_cleans_16 (by decide) rfl (fun h16 => absurd h16 (by decide)) (fun h16 => ?_)
      refine g_iload_n (n := 20) C dX6_cleans_19 rfl rfl ?_
      refine g_iconst (n := 21) (v := nI 3) C dX6_cleans_20 rfl rfl ?_
      refine g_icmp_ne (n := 24) (tgt := 36) C dX6_cleans_21 (by decide) rfl (fun h21 => ?_) (fun h21 => absurd h21 (by decide))
      refine g_iload_n (n := 37) C dX6_cleans_36 rfl rfl ?_
      refine g_if_ne (n := 40) (tgt := 55) C dX6_cleans_37 (by decide) rfl (fun h37 => absurd rfl h37) (fun h37 => ?_)
      refine g_aload_n (n := 41) C dX6_cleans_40 rfl (Or.inr ⟨_, rfl⟩) rfl ?_
      refine m_get (n := 44) C hM dX6_cleans_41 kF_X6_72 rfl rfl ?_
      refine g_iload_n (n := 45) C dX6_cleans_44 rfl rfl ?_
      refine g_aload_n (n := 46) C dX6_cleans_45 rfl (Or.inr ⟨_, rfl⟩) rfl ?_
      refine m_get (n := 49) C hM dX6_cleans_46 kF_X6_7 rfl rfl ?_
      refine g_iload_n (n := 50) C dX6_cleans_49 rfl rfl ?_
      refine m_ald (n := 51) C hM dX6_cleans_50 rfl rfl rfl (by simp only [mLen]; omega) (by decide) rfl ?_
      refine G.top (y := A 0 j) (stc_k (by decide)) ?_
      refine m_ast (n := 52) C hM dX6_cleans_51 rfl rfl rfl (by simp only [mLen]; omega) (by decide) rfl (fun f hM => ?_)
      rw [stc_c] at hM
      refine g_goto (tgt := 161) C dX6_cleans_52 (by decide) ?_
      try rw [stc_c] at hM
      refine g_iconst (n := 162) (v := nI 1) C dX6_cleans_161 rfl rfl ?_
      refine g_zret C hr rfl dX6_cleans_162 ?_ ⟨by decide, by decide⟩
      exact ⟨rfl, 1, _, _, rfl, hM, Or.inr ⟨rfl, cf_n0 hj h11, Or.inl ⟨rfl, j, q, hj, hq9, rfl, rfl, rfl, rfl⟩⟩⟩
  · skip
    refine g_iload_n (n := 1) C dX6_cleans_0 rfl rfl ?_
    refine g_if_ne (n := 4) (tgt := 14) C dX6_cleans_1 (by decide) rfl (fun h1 => ?_) (fun h1 => absurd h1 (by decide))
    refine g_iload_n (n := 15) C dX6_cleans_14 rfl rfl ?_
    refine g_iconst (n := 16) (v := nI 2) C dX6_cleans_15 rfl rfl ?_
    refine g_icmp_eq (n := 19) (tgt := 24) C dX6_cleans_16 (by decide) rfl (fun h16 => absurd h16 (by decide)) (fun h16 => ?_)
    refine g_iload_n (n := 20) C dX6_cleans_19 rfl rfl ?_
    refine g_iconst (n := 21) (v := nI 3) C dX6_cleans_20 rfl rfl ?_
    refine g_icmp_ne (n := 24) (tgt := 36) C dX6_cleans_21 (by decide) rfl (fun h21 => ?_) (fun h21 => absurd h21 (by decide))
    refine g_iload_n (n := 37) C dX6_cleans_36 rfl rfl ?_
    refine g_if_ne (n := 40) (tgt := 55) C dX6_cleans_37 (by decide) rfl (fun h37 => ?_) (fun h37 => absurd h37 (by decide))
    refine g_iload_n (n := 56) C dX6_cleans_55 rfl rfl ?_
    refine g_iconst (n := 57) (v := nI 1) C dX6_cleans_56 rfl rfl ?_
    refine g_icmp_ne (n := 60) (tgt := 105) C dX6_cleans_57 (by decide) rfl (fun h57 => absurd rfl h57) (fun h57 => ?_)
    refine g_aload_n (n := 61) C dX6_cleans_60 rfl (Or.inr ⟨_, rfl⟩) rfl ?_
    refine m_get (n := 64) C hM dX6_cleans_61 kF_X6_72 rfl rfl ?_
    refine g_iload_n (n := 65) C dX6_cleans_64 rfl rfl ?_
    refine g_bipush (n := 67) (v := nI 31) C dX6_cleans_65 rfl rfl ?_
    refine g_aload_n (n := 68) C dX6_cleans_67 rfl (Or.inr ⟨_, rfl⟩) rfl ?_
    refine m_get (n := 71) C hM dX6_cleans_68 kF_X6_72 rfl rfl ?_
    refine g_iload_n (n := 72) C dX6_cleans_71 rfl rfl ?_
    refine m_ald (n := 73) C hM dX6_cleans_72 rfl rfl rfl (by simp only [mLen]; omega) (by decide) rfl ?_
    refine G.top (y := c q) rfl ?_
    refine g_iconst (n := 74) (v := -1) C dX6_cleans_73 rfl rfl ?_
    refine g_icmp_ne (n := 77) (tgt := 81) C dX6_cleans_74 (by decide) rfl (fun h74 => ?_) (fun h74 => ?_)
    · refine g_aload_n (n := 82) C dX6_cleans_81 rfl (Or.inr ⟨_, rfl⟩) rfl ?_
      refine m_get (n := 85) C hM dX6_cleans_82 kF_X6_72 rfl rfl ?_
      refine g_iload_n (n := 86) C dX6_cleans_85 rfl rfl ?_
      refine m_ald (n := 87) C hM dX6_cleans_86 rfl rfl rfl (by simp only [mLen]; omega) (by decide) rfl ?_
      try refine G.top (y := c q) rfl ?_
      refine g_imul (n := 88) C dX6_cleans_87 rfl ?_
      refine g_aload_n (n := 89) C dX6_cleans_88 rfl (Or.inr ⟨_, rfl⟩) rfl ?_
      refine m_get (n := 92) C hM dX6_cleans_89 kF_X6_75 rfl rfl ?_
      refine g_iload_n (n := 93) C dX6_cleans_92 rfl rfl ?_
      refine m_ald (n := 94) C hM dX6_cleans_93 rfl rfl rfl (by simp only [mLen]; omega) (by decide) rfl ?_
      refine G.top (y := u v) rfl ?_
      refine g_iadd (n := 95) C dX6_cleans_94 rfl ?_
      refine g_iconst (n := 96) (v := nI 1) C dX6_cleans_95 rfl rfl ?_
      refine g_iadd (n := 97) C dX6_cleans_96 rfl ?_
      refine g_sipush (n := 100) (v := nI 10007) C dX6_cleans_97 rfl rfl ?_
      refine g_irem (n := 101) C dX6_cleans_100 (by decide) rfl ?_
      refine G.top (y := runV (c q) (u v)) (by unfold runV; first | (rw [if_pos h74]; rfl) | (rw [if_neg h74]; rfl)) ?_
      refine m_ast (n := 102) C hM dX6_cleans_101 rfl rfl rfl (by simp only [mLen]; omega) (by decide) rfl (fun f hM => ?_)
      rw [stc_c] at hM
      refine g_goto (tgt := 161) C dX6_cleans_102 (by decide) ?_
      try rw [stc_c] at hM
      refine g_iconst (n := 162) (v := nI 1) C dX6_cleans_161 rfl rfl ?_
      refine g_zret C hr rfl dX6_cleans_162 ?_ ⟨by decide, by decide⟩
      exact ⟨rfl, 1, _, _, rfl, hM, Or.inr ⟨rfl, cf_n1 (by decide) (by decide) (by decide), Or.inr (Or.inl ⟨rfl, q, v, hq9, hv9, rfl, rfl, rfl, rfl⟩)⟩⟩
    · refine g_iconst (n := 78) (v := nI 0) C dX6_cleans_77 rfl rfl ?_
      refine g_goto (tgt := 87) C dX6_cleans_78 (by decide) ?_
      try refine G.top (y := c q) rfl ?_
      refine g_imul (n := 88) C dX6_cleans_87 rfl ?_
      refine g_aload_n (n := 89) C dX6_cleans_88 rfl (Or.inr ⟨_, rfl⟩) rfl ?_
      refine m_get (n := 92) C hM dX6_cleans_89 kF_X6_75 rfl rfl ?_
      refine g_iload_n (n := 93) C dX6_cleans_92 rfl rfl ?_
      refine m_ald (n := 94) C hM dX6_cleans_93 rfl rfl rfl (by simp only [mLen]; omega) (by decide) rfl ?_
      refine G.top (y := u v) rfl ?_
      refine g_iadd (n := 95) C dX6_cleans_94 rfl ?_
      refine g_iconst (n := 96) (v := nI 1) C dX6_cleans_95 rfl rfl ?_
      refine g_iadd (n := 97) C dX6_cleans_96 rfl ?_
      refine g_sipush (n := 100) (v := nI 10007) C dX6_cleans_97 rfl rfl ?_
      refine g_irem (n := 101) C dX6_cleans_100 (by decide) rfl ?_
      refine G.top (y := runV (c q) (u v)) (by unfold runV; first | (rw [if_pos h74]; rfl) | (rw [if_neg h74]; rfl)) ?_
      refine m_ast (n := 102) C hM dX6_cleans_101 rfl rfl rfl (by simp only [mLen]; omega) (by decide) rfl (fun f hM => ?_)
      rw [stc_c] at hM
      refine g_goto (tgt := 161) C dX6_cleans_102 (by decide) ?_
      try rw [stc_c] at hM
      refine g_iconst (n := 162) (v := nI 1) C dX6_cleans_161 rfl rfl ?_
      refine g_zret C hr rfl dX6_cleans_162 ?_ ⟨by decide, by decide⟩
      exact ⟨rfl, 1, _, _, rfl, hM, Or.inr ⟨rfl, cf_n1 (by decide) (by decide) (by decide), Or.inr (Or.inl ⟨rfl, q, v, hq9, hv9, rfl, rfl, rfl, rfl⟩)⟩⟩
  · skip
    refine g_iload_n (n := 1) C dX6_cleans_0 rfl rfl ?_
    refine g_if_ne (n := 4) (tgt := 14) C dX6_cleans_1 (by decide) rfl (fun h1 => ?_) (fun h1 => absurd h1 (by decide))
    refine g_iload_n (n := 15) C dX6_cleans_14 rfl rfl ?_
    refine g_iconst (n := 16) (v := nI 2) C dX6_cleans_15 rfl rfl ?_
    refine g_icmp_eq (n := 19) (tgt := 24) C dX6_cleans_16 (by decide) rfl (fun h16 => ?_) (fun h16 => absurd rfl h16)
    refine g_aload_n (n := 25) C dX6_cleans_24 rfl (Or.inr ⟨_, rfl⟩) rfl ?_
    refine m_get (n := 28) C hM dX6_cleans_25 kF_X6_72 rfl rfl ?_
    refine g_iload_n (n := 29) C dX6_cleans_28 rfl rfl ?_
    refine m_ald (n := 30) C hM dX6_cleans_29 rfl rfl rfl (by simp only [mLen]; omega) (by decide) rfl ?_
    refine G.top (y := c q) rfl ?_
    refine g_iconst (n := 31) (v := -1) C dX6_cleans_30 rfl rfl ?_
    refine g_icmp_ne (n := 34) (tgt := 36) C dX6_cleans_31 (by decide) rfl (fun h31 => ?_) (fun h31 => ?_)
    · refine g_iload_n (n := 37) C dX6_cleans_36 rfl rfl ?_
      refine g_if_ne (n := 40) (tgt := 55) C dX6_cleans_37 (by decide) rfl (fun h37 => ?_) (fun h37 => absurd h37 (by decide))
      refine g_iload_n (n := 56) C dX6_cleans_55 rfl rfl ?_
      refine g_iconst (n := 57) (v := nI 1) C dX6_cleans_56 rfl rfl ?_
      refine g_icmp_ne (n := 60) (tgt := 105) C dX6_cleans_57 (by decide) rfl (fun h57 => ?_) (fun h57 => absurd h57 (by decide))
      refine g_iload_n (n := 106) C dX6_cleans_105 rfl rfl ?_
      refine g_iconst (n := 107) (v := nI 4) C dX6_cleans_106 rfl rfl ?_
      refine g_icmp_ne (n := 110) (tgt := 120) C dX6_cleans_107 (by decide) rfl (fun h107 => ?_) (fun h107 => absurd h107 (by decide))
      refine g_aload_n (n := 121) C dX6_cleans_120 rfl (Or.inr ⟨_, rfl⟩) rfl ?_
      refine m_get (n := 124) C hM dX6_cleans_121 kF_X6_72 rfl rfl ?_
      refine g_iload_n (n := 125) C dX6_cleans_124 rfl rfl ?_
      refine m_ald (n := 126) C hM dX6_cleans_125 rfl rfl rfl (by simp only [mLen]; omega) (by decide) rfl ?_
      refine G.top (y := c q) rfl ?_
      refine g_istore (n := 128) (ls' := [_, _, _, _, _]) C dX6_cleans_126 rfl (by decide) rfl ?_
      refine g_aload_n (n := 129) C dX6_cleans_128 rfl (Or.inr ⟨_, rfl⟩) rfl ?_
      refine m_get (n := 132) C hM dX6_cleans_129 kF_X6_72 rfl rfl ?_
      refine g_iload_n (n := 133) C dX6_cleans_132 rfl rfl ?_
      refine g_iconst (n := 134) (v := -1) C dX6_cleans_133 rfl rfl ?_
      refine m_ast (n := 135) C hM dX6_cleans_134 rfl rfl rfl (by simp only [mLen]; omega) (by decide) rfl (fun f hM => ?_)
      rw [stc_c] at hM
      refine g_aload_n (n := 136) C dX6_cleans_135 rfl (Or.inr ⟨_, rfl⟩) rfl ?_
      refine m_get (n := 139) C hM dX6_cleans_136 kF_X6_72 rfl rfl ?_
      refine g_iload_n (n := 140) C dX6_cleans_139 rfl rfl ?_
      refine g_iconst (n := 141) (v := nI 2) C dX6_cleans_140 rfl rfl ?_
      refine g_icmp_ne (n := 144) (tgt := 148) C dX6_cleans_141 (by decide) rfl (fun h141 => absurd rfl h141) (fun h141 => ?_)
      refine g_iload_n (n := 145) C dX6_cleans_144 rfl rfl ?_
      refine g_goto (tgt := 149) C dX6_cleans_145 (by decide) ?_
      refine g_iload_n (n := 150) C dX6_cleans_149 rfl rfl ?_
      refine g_iconst (n := 151) (v := nI 2) C dX6_cleans_150 rfl rfl ?_
      refine g_icmp_ne (n := 154) (tgt := 159) C dX6_cleans_151 (by decide) rfl (fun h151 => absurd rfl h151) (fun h151 => ?_)
      refine g_iload (n := 156) C dX6_cleans_154 rfl rfl ?_
      refine g_goto (tgt := 160) C dX6_cleans_156 (by decide) ?_
      refine m_ast (n := 161) C hM dX6_cleans_160 rfl rfl rfl (by simp only [mLen]; omega) (by decide) rfl (fun f hM => ?_)
      try rw [stc_c] at hM
      refine g_iconst (n := 162) (v := nI 1) C dX6_cleans_161 rfl rfl ?_
      refine g_zret C hr rfl dX6_cleans_162 ?_ ⟨by decide, by decide⟩
      exact ⟨rfl, 1, _, _, rfl, hM, Or.inr ⟨rfl, cf_n2 (Or.inl rfl) hq9 h31, Or.inr (Or.inr (Or.inl ⟨rfl, q, r, hq9, hr9, fun e => hne (congrArg nI e), rfl, rfl, rfl, rfl⟩))⟩⟩
    · refine g_iconst (n := 35) (v := nI 0) C dX6_cleans_34 rfl rfl ?_
      refine g_zret C hr rfl dX6_cleans_35 ?_ ⟨by decide, by decide⟩
      exact ⟨rfl, 0, c, u, rfl, hM, Or.inl ⟨rfl, Or.inr ⟨Or.inl rfl, q, hq9, rfl, h31⟩, rfl, rfl⟩⟩
  · skip
    refine g_iload_n (n := 1) C dX6_cleans_0 rfl rfl ?_
    refine g_if_ne (n := 4) (tgt := 14) C dX6_cleans_1 (by decide) rfl (fun h1 => ?_) (fun h1 => absurd h1 (by decide))
    refine g_iload_n (n := 15) C dX6_cleans_14 rfl rfl ?_
    refine g_iconst (n := 16) (v := nI 2) C dX6_cleans_15 rfl rfl ?_
    refine g_icmp_eq (n := 19) (tgt := 24) C dX6_cleans_16 (by decide) rfl (fun h16 => absurd h16 (by decide)) (fun h16 => ?_)
    refine g_iload_n (n := 20) C dX6_cleans_19 rfl rfl ?_
    refine g_iconst (n := 21) (v := nI 3) C dX6_cleans_20 rfl rfl ?_
    refine g_icmp_ne (n := 24) (tgt := 36) C dX6_cleans_21 (by decide) rfl (fun h21 => absurd rfl h21) (fun h21 => ?_)
    refine g_aload_n (n := 25) C dX6_cleans_24 rfl (Or.inr ⟨_, rfl⟩) rfl ?_
    refine m_get (n := 28) C hM dX6_cleans_25 kF_X6_72 rfl rfl ?_
    refine g_iload_n (n := 29) C dX6_cleans_28 rfl rfl ?_
    refine m_ald (n := 30) C hM dX6_cleans_29 rfl rfl rfl (by simp only [mLen]; omega) (by decide) rfl ?_
    refine G.top (y := c q) rfl ?_
    refine g_iconst (n := 31) (v := -1) C dX6_cleans_30 rfl rfl ?_
    refine g_icmp_ne (n := 34) (tgt := 36) C dX6_cleans_31 (by decide) rfl (fun h31 => ?_) (fun h31 => ?_)
    · refine g_iload_n (n := 37) C dX6_cleans_36 rfl rfl ?_
      refine g_if_ne (n := 40) (tgt := 55) C dX6_cleans_37 (by decide) rfl (fun h37 => ?_) (fun h37 => absurd h37 (by decide))
      refine g_iload_n (n := 56) C dX6_cleans_55 rfl rfl ?_
      refine g_iconst (n := 57) (v := nI 1) C dX6_cleans_56 rfl rfl ?_
      refine g_icmp_ne (n := 60) (tgt := 105) C dX6_cleans_57 (by decide) rfl (fun h57 => ?_) (fun h57 => absurd h57 (by decide))
      refine g_iload_n (n := 106) C dX6_cleans_105 rfl rfl ?_
      refine g_iconst (n := 107) (v := nI 4) C dX6_cleans_106 rfl rfl ?_
      refine g_icmp_ne (n := 110) (tgt := 120) C dX6_cleans_107 (by decide) rfl (fun h107 => ?_) (fun h107 => absurd h107 (by decide))
      refine g_aload_n (n := 121) C dX6_cleans_120 rfl (Or.inr ⟨_, rfl⟩) rfl ?_
      refine m_get (n := 124) C hM dX6_cleans_121 kF_X6_72 rfl rfl ?_
      refine g_iload_n (n := 125) C dX6_cleans_124 rfl rfl ?_
      refine m_ald (n := 126) C hM dX6_cleans_125 rfl rfl rfl (by simp only [mLen]; omega) (by decide) rfl ?_
      refine G.top (y := c q) rfl ?_
      refine g_istore (n := 128) (ls' := [_, _, _, _, _]) C dX6_cleans_126 rfl (by decide) rfl ?_
      refine g_aload_n (n := 129) C dX6_cleans_128 rfl (Or.inr ⟨_, rfl⟩) rfl ?_
      refine m_get (n := 132) C hM dX6_cleans_129 kF_X6_72 rfl rfl ?_
      refine g_iload_n (n := 133) C dX6_cleans_132 rfl rfl ?_
      refine g_iconst (n := 134) (v := -1) C dX6_cleans_133 rfl rfl ?_
      refine m_ast (n := 135) C hM dX6_cleans_134 rfl rfl rfl (by simp only [mLen]; omega) (by decide) rfl (fun f hM => ?_)
      rw [stc_c] at hM
      refine g_aload_n (n := 136) C dX6_cleans_135 rfl (Or.inr ⟨_, rfl⟩) rfl ?_
      refine m_get (n := 139) C hM dX6_cleans_136 kF_X6_72 rfl rfl ?_
      refine g_iload_n (n := 140) C dX6_cleans_139 rfl rfl ?_
      refine g_iconst (n := 141) (v := nI 2) C dX6_cleans_140 rfl rfl ?_
      refine g_icmp_ne (n := 144) (tgt := 148) C dX6_cleans_141 (by decide) rfl (fun h141 => ?_) (fun h141 => absurd h141 (by decide))
      refine g_iload_n (n := 149) C dX6_cleans_148 rfl rfl ?_
      refine g_iload_n (n := 150) C dX6_cleans_149 rfl rfl ?_
      refine g_iconst (n := 151) (v := nI 2) C dX6_cleans_150 rfl rfl ?_
      refine g_icmp_ne (n := 154) (tgt := 159) C dX6_cleans_151 (by decide) rfl (fun h151 => ?_) (fun h151 => absurd h151 (by decide))
      refine g_iconst (n := 160) (v := -1) C dX6_cleans_159 rfl rfl ?_
      refine m_ast (n := 161) C hM dX6_cleans_160 rfl rfl rfl (by simp only [mLen]; omega) (by decide) rfl (fun f hM => ?_)
      try rw [stc_c] at hM
      refine g_iconst (n := 162) (v := nI 1) C dX6_cleans_161 rfl rfl ?_
      refine g_zret C hr rfl dX6_cleans_162 ?_ ⟨by decide, by decide⟩
      exact ⟨rfl, 1, _, _, rfl, hM, Or.inr ⟨rfl, cf_n2 (Or.inr rfl) hq9 h31, Or.inr (Or.inr (Or.inr (Or.inl ⟨rfl, q, hq9, rfl, rfl, rfl⟩)))⟩⟩
    · refine g_iconst (n := 35) (v := nI 0) C dX6_cleans_34 rfl rfl ?_
      refine g_zret C hr rfl dX6_cleans_35 ?_ ⟨by decide, by decide⟩
      exact ⟨rfl, 0, c, u, rfl, hM, Or.inl ⟨rfl, Or.inr ⟨Or.inr rfl, q, hq9, rfl, h31⟩, rfl, rfl⟩⟩
  · skip
    refine g_iload_n (n := 1) C dX6_cleans_0 rfl rfl ?_
    refine g_if_ne (n := 4) (tgt := 14) C dX6_cleans_1 (by decide) rfl (fun h1 => ?_) (fun h1 => absurd h1 (by decide))
    refine g_iload_n (n := 15) C dX6_cleans_14 rfl rfl ?_
    refine g_iconst (n := 16) (v := nI 2) C dX6_cleans_15 rfl rfl ?_
    refine g_icmp_eq (n := 19) (tgt := 24) C dX6_cleans_16 (by decide) rfl (fun h16 => absurd h16 (by decide)) (fun h16 => ?_)
    refine g_iload_n (n := 20) C dX6_cleans_19 rfl rfl ?_
    refine g_iconst (n := 21) (v := nI 3) C dX6_cleans_20 rfl rfl ?_
    refine g_icmp_ne (n := 24) (tgt := 36) C dX6_cleans_21 (by decide) rfl (fun h21 => ?_) (fun h21 => absurd h21 (by decide))
    refine g_iload_n (n := 37) C dX6_cleans_36 rfl rfl ?_
    refine g_if_ne (n := 40) (tgt := 55) C dX6_cleans_37 (by decide) rfl (fun h37 => ?_) (fun h37 => absurd h37 (by decide))
    refine g_iload_n (n := 56) C dX6_cleans_55 rfl rfl ?_
    refine g_iconst (n := 57) (v := nI 1) C dX6_cleans_56 rfl rfl ?_
    refine g_icmp_ne (n := 60) (tgt := 105) C dX6_cleans_57 (by decide) rfl (fun h57 => ?_) (fun h57 => absurd h57 (by decide))
    refine g_iload_n (n := 106) C dX6_cleans_105 rfl rfl ?_
    refine g_iconst (n := 107) (v := nI 4) C dX6_cleans_106 rfl rfl ?_
    refine g_icmp_ne (n := 110) (tgt := 120) C dX6_cleans_107 (by decide) rfl (fun h107 => absurd rfl h107) (fun h107 => ?_)
    refine g_aload_n (n := 111) C dX6_cleans_110 rfl (Or.inr ⟨_, rfl⟩) rfl ?_
    refine m_get (n := 114) C hM dX6_cleans_111 kF_X6_75 rfl rfl ?_
    refine g_iload_n (n := 115) C dX6_cleans_114 rfl rfl ?_
    refine g_iload_n (n := 116) C dX6_cleans_115 rfl rfl ?_
    refine m_ast (n := 117) C hM dX6_cleans_116 rfl rfl rfl (by simp only [mLen]; omega) (by decide) rfl (fun f hM => ?_)
    rw [stc_u] at hM
    refine g_goto (tgt := 161) C dX6_cleans_117 (by decide) ?_
    try rw [stc_c] at hM
    refine g_iconst (n := 162) (v := nI 1) C dX6_cleans_161 rfl rfl ?_
    refine g_zret C hr rfl dX6_cleans_162 ?_ ⟨by decide, by decide⟩
    exact ⟨rfl, 1, _, _, rfl, hM, Or.inr ⟨rfl, cf_n1 (by decide) (by decide) (by decide), Or.inr (Or.inr (Or.inr (Or.inr ⟨rfl, v, hv9, rfl, rfl, rfl⟩)))⟩⟩

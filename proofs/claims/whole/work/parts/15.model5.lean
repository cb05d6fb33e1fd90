/-! ===== the reference, V: roots ===== -/
theorem cdl_1 {Q : Prop} {E : Nat → Prop} {q w : Nat} (h : cdb (Q ∧ ∀ r, r < q → E r) w) (h1 : ¬ nI w = 0) (h2 : E q) : cdb (Q ∧ ∀ r, r < q + 1 → E r) 1 := by
  have h3 := cdb_t h h1
  refine Or.inl ⟨rfl, h3.1, fun r hr => ?_⟩
  by_cases e : r = q
  · rw [e]; exact h2
  · exact h3.2 r (by omega)
theorem cdl_0 {Q : Prop} {E : Nat → Prop} {q w : Nat} (h : cdb (Q ∧ ∀ r, r < q → E r) w) (h1 : nI w = 0) : cdb (Q ∧ ∀ r, r < q + 1 → E r) 0 := Or.inr ⟨rfl, fun k => cdb_f h h1 ⟨k.1, fun r hr => k.2 r (by omega)⟩⟩
theorem cdl_2 {Q : Prop} {E : Nat → Prop} {q : Nat} (h : ¬ E q) : cdb (Q ∧ ∀ r, r < q + 1 → E r) 0 := Or.inr ⟨rfl, fun k => h (k.2 q (by omega))⟩
theorem cdl_i {Q : Prop} {E : Nat → Prop} {w : Nat} (h : cdb Q w) : cdb (Q ∧ ∀ r, r < 0 → E r) w := by
  rcases h with ⟨rfl, h⟩ | ⟨rfl, h⟩
  · exact Or.inl ⟨rfl, h, fun r hr => absurd hr (by omega)⟩
  · exact Or.inr ⟨rfl, fun k => h k.1⟩
theorem k6_root {l : Launch} {s0 : State} {D : va_G} {cy : Nat → ClassId} (hE : gE s0 D cy) (hl : l.stackTraces = false) {mo : Nat} {ad : Nat → Nat} {A : Nat → Nat → Int32} {I : Nat → Int32} {L : List Nat} {f : gF} (hM : IsM cy mo ad A I L f) {n b : Nat} (hN : I 7 = nI n) (hn9 : n < 420) (hb : b < 3) : gM l s0 D yX6_root cX6_root 6 (some .int) 2 0 0 [.ref mo, .int (nI b)] L f (fun v L1 f1 => L = L1 ∧ ∃ k1 n1 A1, v = some (.int (nI k1)) ∧ IsM cy mo ad A1 (va_up I 7 (nI n1)) L f1 ∧ rootR A n b k1 n1 A1) := by
  refine gM.of (own := RX6) hE hl (by decide +kernel) rfl rfl (Nat.le_of_ble_eq_true rfl) (fun p9 e9 s9 m9 a99 b99 t99 c9 C hr hnm => ?_)
  refine G.weak (ls' := [some (.ref mo), some (.int (nI b)), none, none, none, none]) ?_ rfl (fun _ _ h => h)
  refine g_loop (α := Nat × Nat × Option Value × Option Value) (fun x => x.1 ≤ n ∧ lst (rootP A b) x.1 n x.2.1) (fun x => x.1) (fun _ => L) (fun _ => f) (fun _ => 0) (fun _ => 0) 9 (fun x => [some (.ref mo), some (.int (nI b)), some (.int (pI x.2.1)), some (.int (pI x.1)), x.2.2.1, x.2.2.2]) (fun _ => []) (fun x hv ih => ?_) (fun J => ?_)
  · obtain ⟨i, fm, o4, o5⟩ := x
    obtain ⟨hi9, hlst⟩ := hv
    dsimp only at hi9 hlst ih ⊢
    refine g_iload_n (n := 10) C dX6_root_9 rfl rfl ?_
    refine g_if_lt (n := 13) (tgt := 111) C dX6_root_10 (by decide) rfl (fun h10 => ?_) (fun h10 => ?_)
    · have e9 := pI_neg h10 (by omega)
      subst e9
      refine g_iload_n (n := 112) C dX6_root_111 rfl rfl ?_
      refine g_iconst (n := 113) (v := -1) C dX6_root_112 rfl rfl ?_
      refine g_icmp_ne (n := 116) (tgt := 158) C dX6_root_113 (by decide) rfl (fun h113 => ?_) (fun h113 => ?_)
      · obtain ⟨k1, rfl⟩ : ∃ k1, fm = k1 + 1 := ⟨fm - 1, by cases fm with | zero => exact absurd rfl h113 | succ j => rfl⟩
        refine g_iload_n (n := 159) C dX6_root_158 rfl rfl ?_
        refine g_iret C hr dX6_root_159 ?_ ⟨by decide, by decide⟩
        first | exact ⟨rfl, n, n + 1, _, rfl, hM, Or.inr ⟨hlst, rfl, rfl, rfl⟩⟩ | exact ⟨rfl, k1, n, A, rfl, by rw [up_id hN]; exact hM, Or.inl ⟨hlst, rfl, rfl⟩⟩
      · have e8 : fm = 0 := by
          rcases hlst with ⟨h, -⟩ | ⟨j0, rfl, -, h, -⟩
          · exact h
          · exact pI_0 h113 (by omega)
        subst e8
        refine g_aload_n (n := 117) C dX6_root_116 rfl (Or.inr ⟨_, rfl⟩) rfl ?_
        refine g_iconst (n := 118) (v := -1) C dX6_root_117 rfl rfl ?_
        refine g_V (n := 121) (rest := []) C (k6_makes hE hl hM hN hn9 (m := 0) (Nat.zero_le _)) dX6_root_118 kM_X6_makes kL_X6_105 kV_X6_makes hM.1 rfl rfl rfl (Nat.le_of_ble_eq_true rfl) ⟨by decide, by decide⟩ ⟨by decide, by decide⟩ rfl (fun v9 L9 f hq => ?_)
        obtain ⟨rfl, rfl, hM⟩ := hq
        refine G.sk (st' := [_]) rfl ?_
        refine g_istore_n (n := 122) (ls' := [_, _, _, _, _, _]) C dX6_root_121 rfl (by decide) rfl ?_
        refine g_iconst (n := 123) (v := nI 0) C dX6_root_122 rfl rfl ?_
        refine g_istore_n (n := 124) (ls' := [_, _, _, _, _, _]) C dX6_root_123 rfl (by decide) rfl ?_
        refine g_loop (α := Nat × gF) (fun z => z.1 ≤ 12 ∧ IsM cy mo ad (upR (mkA A n 0) 10 (12 * n) z.1 (fun q => A 1 (12 * b + q))) (va_up I 7 (nI (n + 1))) L z.2) (fun z => 12 - z.1) (fun _ => L) (fun z => z.2) (fun _ => _) (fun _ => _) 124 (fun z => [some (.ref mo), some (.int (nI b)), some (.int (nI n)), some (.int (nI z.1)), o4, o5]) (fun _ => []) (fun z hz ih2 => ?_) (fun J3 => J3 (0, f) ⟨Nat.zero_le _, by rw [upR_0]; exact hM⟩)
        obtain ⟨i, f⟩ := z
        obtain ⟨hi8, hM⟩ := hz
        dsimp only at hi8 hM ih2 ⊢
        refine g_iload_n (n := 125) C dX6_root_124 rfl rfl ?_
        refine g_bipush (n := 127) (v := nI 12) C dX6_root_125 rfl rfl ?_
        refine g_icmp_ge (n := 130) (tgt := 158) C dX6_root_127 (by decide) rfl (fun h127 => ?_) (fun h127 => ?_)
        · have e9 : i = 12 := by have := gn_ge h127 (by decide) (by omega); omega
          subst e9
          refine g_iload_n (n := 159) C dX6_root_158 rfl rfl ?_
          refine g_iret C hr dX6_root_159 ?_ ⟨by decide, by decide⟩
          first | exact ⟨rfl, n, n + 1, _, rfl, hM, Or.inr ⟨hlst, rfl, rfl, rfl⟩⟩ | exact ⟨rfl, k1, n, A, rfl, by rw [up_id hN]; exact hM, Or.inl ⟨hlst, rfl, rfl⟩⟩
        · have hi : i < 12 := gn_gt h127 (by decide) (by omega)
          refine g_aload_n (n := 131) C dX6_root_130 rfl (Or.inr ⟨_, rfl⟩) rfl ?_
          refine m_get (n := 134) C hM dX6_root_131 kF_X6_38 rfl rfl ?_
          refine g_bipush (n := 136) (v := nI 12) C dX6_root_134 rfl rfl ?_
          refine g_iload_n (n := 137) C dX6_root_136 rfl rfl ?_
          refine g_imulN (n := 138) C dX6_root_137 rfl ?_
          refine g_iload_n (n := 139) C dX6_root_138 rfl rfl ?_
          refine g_iaddN (n := 140) C dX6_root_139 rfl ?_
          refine g_aload_n (n := 141) C dX6_root_140 rfl (Or.inr ⟨_, rfl⟩) rfl ?_
          refine m_get (n := 144) C hM dX6_root_141 kF_X6_13 rfl rfl ?_
          refine g_bipush (n := 146) (v := nI 12) C dX6_root_144 rfl rfl ?_
          refine g_iload_n (n := 147) C dX6_root_146 rfl rfl ?_
          refine g_imulN (n := 148) C dX6_root_147 rfl ?_
          refine g_iload_n (n := 149) C dX6_root_148 rfl rfl ?_
          refine g_iaddN (n := 150) C dX6_root_149 rfl ?_
          refine m_ald (n := 151) C hM dX6_root_150 rfl rfl rfl (by simp only [mLen]; omega) (by decide) rfl ?_
          refine G.top (y := A 1 (12 * b + i)) (by simp [mkA, mU, upR]) ?_
          refine m_ast (n := 152) C hM dX6_root_151 rfl rfl rfl (by simp only [mLen]; omega) (by decide) rfl (fun f hM => ?_)
          refine g_iinc (n := 155) (ls' := [_, _, _, _, _, _]) C dX6_root_152 rfl (nI_1 _) rfl (by decide) rfl ?_
          refine g_goto (tgt := 124) C dX6_root_155 (by decide) ?_
          rw [upR_s rfl] at hM
          exact ih2 (i + 1, f) ⟨by show i + 1 ≤ 12; omega, hM⟩ (by show 12 - (i + 1) < 12 - i; omega)
    · obtain ⟨j, rfl⟩ := pI_nneg h10
      rw [show pI (j + 1) = nI j from rfl]
      refine g_cut (α := Nat) (fun w => cdb (A 8 j = 0 ∧ A 9 j = -1) w) (fun _ => L) (fun _ => f) (fun _ => 0) (fun _ => 0) 37 (fun _ => [some (.ref mo), some (.int (nI b)), some (.int (pI fm)), some (.int (nI j)), o4, o5]) (fun w => [.int (nI w)]) (fun J2 => ?_) (fun w hw => ?_)
      · skip
        refine g_aload_n (n := 14) C dX6_root_13 rfl (Or.inr ⟨_, rfl⟩) rfl ?_
        refine m_get (n := 17) C hM dX6_root_14 kF_X6_31 rfl rfl ?_
        refine g_iload_n (n := 18) C dX6_root_17 rfl rfl ?_
        refine m_zld (n := 19) C hM dX6_root_18 rfl rfl rfl (by simp only [mLen]; omega) (by decide) rfl ?_
        refine g_if_ne (n := 22) (tgt := 36) C dX6_root_19 (by decide) rfl (fun h19 => ?_) (fun h19 => ?_)
        · refine g_iconst (n := 37) (v := nI 0) C dX6_root_36 rfl rfl ?_
          exact J2 _ (by simp [cdb, h19])
        · refine g_aload_n (n := 23) C dX6_root_22 rfl (Or.inr ⟨_, rfl⟩) rfl ?_
          refine m_get (n := 26) C hM dX6_root_23 kF_X6_35 rfl rfl ?_
          refine g_iload_n (n := 27) C dX6_root_26 rfl rfl ?_
          refine m_ald (n := 28) C hM dX6_root_27 rfl rfl rfl (by simp only [mLen]; omega) (by decide) rfl ?_
          refine g_iconst (n := 29) (v := -1) C dX6_root_28 rfl rfl ?_
          refine g_icmp_ne (n := 32) (tgt := 36) C dX6_root_29 (by decide) rfl (fun h29 => ?_) (fun h29 => ?_)
          · refine g_iconst (n := 37) (v := nI 0) C dX6_root_36 rfl rfl ?_
            exact J2 _ (by simp [cdb, h19, h29])
          · refine g_iconst (n := 33) (v := nI 1) C dX6_root_32 rfl rfl ?_
            refine g_goto (tgt := 37) C dX6_root_33 (by decide) ?_
            exact J2 _ (by simp [cdb, h19, h29])
      · skip
        refine g_istore (n := 39) (ls' := [_, _, _, _, _, _]) C dX6_root_37 rfl (by decide) rfl ?_
        refine g_iconst (n := 40) (v := nI 0) C dX6_root_39 rfl rfl ?_
        refine g_istore (n := 42) (ls' := [_, _, _, _, _, _]) C dX6_root_40 rfl (by decide) rfl ?_
        refine g_loop (α := Nat × Nat) (fun z => z.1 ≤ 12 ∧ cdb ((A 8 j = 0 ∧ A 9 j = -1) ∧ ∀ r, r < z.1 → A 10 (12 * j + r) = A 1 (12 * b + r)) z.2) (fun z => 12 - z.1) (fun _ => L) (fun _ => f) (fun _ => 0) (fun _ => 0) 42 (fun z => [some (.ref mo), some (.int (nI b)), some (.int (pI fm)), some (.int (nI j)), some (.int (nI z.2)), some (.int (nI z.1))]) (fun _ => []) (fun z hz ih2 => ?_) (fun J3 => J3 (0, w) ⟨Nat.zero_le _, cdl_i hw⟩)
        obtain ⟨q, u⟩ := z
        obtain ⟨hq9, hu⟩ := hz
        dsimp only at hq9 hu ih2 ⊢
        refine g_iload (n := 44) C dX6_root_42 rfl rfl ?_
        refine g_bipush (n := 46) (v := nI 12) C dX6_root_44 rfl rfl ?_
        refine g_icmp_ge (n := 49) (tgt := 94) C dX6_root_46 (by decide) rfl (fun h46 => ?_) (fun h46 => ?_)
        · have e9 : q = 12 := by have := gn_ge h46 (by decide) (by omega); omega
          subst e9
          refine g_iload (n := 96) C dX6_root_94 rfl rfl ?_
          refine g_if_eq (n := 99) (tgt := 103) C dX6_root_96 (by decide) rfl (fun h96 => ?_) (fun h96 => ?_)
          · refine g_iload_n (n := 104) C dX6_root_103 rfl rfl ?_
            refine g_istore_n (n := 105) (ls' := [_, _, _, _, _, _]) C dX6_root_104 rfl (by decide) rfl ?_
            refine g_iinc (n := 108) (ls' := [_, _, _, _, _, _]) C dX6_root_105 rfl (gn_pred j) rfl (by decide) rfl ?_
            refine g_goto (tgt := 9) C dX6_root_108 (by decide) ?_
            first | exact ih (j, j + 1, _, _) ⟨by show j ≤ n; omega, lst_y (by omega) (cdb_t hu h96)⟩ (Nat.lt_succ_self j) | exact ih (j, fm, _, _) ⟨by show j ≤ n; omega, lst_x hlst (cdb_f hu h96)⟩ (Nat.lt_succ_self j)
          · refine g_iload_n (n := 100) C dX6_root_99 rfl rfl ?_
            refine g_goto (tgt := 104) C dX6_root_100 (by decide) ?_
            refine g_istore_n (n := 105) (ls' := [_, _, _, _, _, _]) C dX6_root_104 rfl (by decide) rfl ?_
            refine g_iinc (n := 108) (ls' := [_, _, _, _, _, _]) C dX6_root_105 rfl (gn_pred j) rfl (by decide) rfl ?_
            refine g_goto (tgt := 9) C dX6_root_108 (by decide) ?_
            first | exact ih (j, j + 1, _, _) ⟨by show j ≤ n; omega, lst_y (by omega) (cdb_t hu h96)⟩ (Nat.lt_succ_self j) | exact ih (j, fm, _, _) ⟨by show j ≤ n; omega, lst_x hlst (cdb_f hu h96)⟩ (Nat.lt_succ_self j)
        · have hi : q < 12 := gn_gt h46 (by decide) (by omega)
          refine g_iload (n := 51) C dX6_root_49 rfl rfl ?_
          refine g_if_eq (n := 54) (tgt := 85) C dX6_root_51 (by decide) rfl (fun h51 => ?_) (fun h51 => ?_)
          · refine g_iconst (n := 86) (v := nI 0) C dX6_root_85 rfl rfl ?_
            refine g_istore (n := 88) (ls' := [_, _, _, _, _, _]) C dX6_root_86 rfl (by decide) rfl ?_
            refine g_iinc (n := 91) (ls' := [_, _, _, _, _, _]) C dX6_root_88 rfl (nI_1 _) rfl (by decide) rfl ?_
            refine g_goto (tgt := 42) C dX6_root_91 (by decide) ?_
            exact ih2 (q + 1, _) ⟨by show q + 1 ≤ 12; omega, by first | exact cdl_1 hu h51 h78 | exact cdl_0 hu h51 | exact cdl_2 h78⟩ (by show 12 - (q + 1) < 12 - q; omega)
          · refine g_aload_n (n := 55) C dX6_root_54 rfl (Or.inr ⟨_, rfl⟩) rfl ?_
            refine m_get (n := 58) C hM dX6_root_55 kF_X6_38 rfl rfl ?_
            refine g_bipush (n := 60) (v := nI 12) C dX6_root_58 rfl rfl ?_
            refine g_iload_n (n := 61) C dX6_root_60 rfl rfl ?_
            refine g_imulN (n := 62) C dX6_root_61 rfl ?_
            refine g_iload (n := 64) C dX6_root_62 rfl rfl ?_
            refine g_iaddN (n := 65) C dX6_root_64 rfl ?_
            refine m_ald (n := 66) C hM dX6_root_65 rfl rfl rfl (by simp only [mLen]; omega) (by decide) rfl ?_
            refine g_aload_n (n := 67) C dX6_root_66 rfl (Or.inr ⟨_, rfl⟩) rfl ?_
            refine m_get (n := 70) C hM dX6_root_67 kF_X6_13 rfl rfl ?_
            refine g_bipush (n := 72) (v := nI 12) C dX6_root_70 rfl rfl ?_
            refine g_iload_n (n := 73) C dX6_root_72 rfl rfl ?_
            refine g_imulN (n := 74) C dX6_root_73 rfl ?_
            refine g_iload (n := 76) C dX6_root_74 rfl rfl ?_
            refine g_iaddN (n := 77) C dX6_root_76 rfl ?_
            refine m_ald (n := 78) C hM dX6_root_77 rfl rfl rfl (by simp only [mLen]; omega) (by decide) rfl ?_
            refine g_icmp_ne (n := 81) (tgt := 85) C dX6_root_78 (by decide) rfl (fun h78 => ?_) (fun h78 => ?_)
            · refine g_iconst (n := 86) (v := nI 0) C dX6_root_85 rfl rfl ?_
              refine g_istore (n := 88) (ls' := [_, _, _, _, _, _]) C dX6_root_86 rfl (by decide) rfl ?_
              refine g_iinc (n := 91) (ls' := [_, _, _, _, _, _]) C dX6_root_88 rfl (nI_1 _) rfl (by decide) rfl ?_
              refine g_goto (tgt := 42) C dX6_root_91 (by decide) ?_
              exact ih2 (q + 1, _) ⟨by show q + 1 ≤ 12; omega, by first | exact cdl_1 hu h51 h78 | exact cdl_0 hu h51 | exact cdl_2 h78⟩ (by show 12 - (q + 1) < 12 - q; omega)
            · refine g_iconst (n := 82) (v := nI 1) C dX6_root_81 rfl rfl ?_
              refine g_goto (tgt := 86) C dX6_root_82 (by decide) ?_
              refine g_istore (n := 88) (ls' := [_, _, _, _, _, _]) C dX6_root_86 rfl (by decide) rfl ?_
              refine g_iinc (n := 91) (ls' := [_, _, _, _, _, _]) C dX6_root_88 rfl (nI_1 _) rfl (by decide) rfl ?_
              refine g_goto (tgt := 42) C dX6_root_91 (by decide) ?_
              exact ih2 (q + 1, _) ⟨by show q + 1 ≤ 12; omega, by first | exact cdl_1 hu h51 h78 | exact cdl_0 hu h51 | exact cdl_2 h78⟩ (by show 12 - (q + 1) < 12 - q; omega)
  · skip
    refine g_iconst (n := 1) (v := -1) C dX6_root_0 rfl rfl ?_
    refine g_istore_n (n := 2) (ls' := [_, _, _, _, _, _]) C dX6_root_1 rfl (by decide) rfl ?_
    refine g_aload_n (n := 3) C dX6_root_2 rfl (Or.inr ⟨_, rfl⟩) rfl ?_
    refine m_get (n := 6) C hM dX6_root_3 kF_X6_102 rfl rfl ?_
    rw [hN]
    refine g_iconst (n := 7) (v := nI 1) C dX6_root_6 rfl rfl ?_
    refine g_isub (n := 8) C dX6_root_7 rfl ?_
    refine G.top (y := pI n) (gn_pred2 n) ?_
    refine g_istore_n (n := 9) (ls' := [_, _, _, _, _, _]) C dX6_root_8 rfl (by decide) rfl ?_
    exact J (n, 0, none, none) ⟨Nat.le_refl _, lst_n⟩

/-! ===== the reference, X: cleanDigest, prune ===== -/
def cIn (A : Nat → Nat → Int32) (b q : Nat) : Nat → Int32 := fun p => if p < q then A 1 (12 * b + p) else A 28 p
def uIn (A : Nat → Nat → Int32) (q : Nat) : Nat → Int32 := fun p => if p < q then nI 0 else A 29 p
theorem cIn_s {A : Nat → Nat → Int32} {b q : Nat} : upd (cIn A b q) q (A 1 (12 * b + q)) = cIn A b (q + 1) := by
  funext p
  unfold upd cIn
  by_cases h : p = q
  · subst h; rw [if_pos rfl, if_pos (by omega)]
  · rw [if_neg h]
    by_cases h2 : p < q
    · rw [if_pos h2, if_pos (by omega)]
    · rw [if_neg h2, if_neg (by omega)]
theorem uIn_s {A : Nat → Nat → Int32} {q : Nat} : upd (uIn A q) q (nI 0) = uIn A (q + 1) := by
  funext p
  unfold upd uIn
  by_cases h : p = q
  · subst h; rw [if_pos rfl, if_pos (by omega)]
  · rw [if_neg h]
    by_cases h2 : p < q
    · rw [if_pos h2, if_pos (by omega)]
    · rw [if_neg h2, if_neg (by omega)]
theorem cIn_0 {A : Nat → Nat → Int32} {b : Nat} : cIn A b 0 = A 28 := funext fun p => if_neg (by omega)
theorem uIn_0 {A : Nat → Nat → Int32} : uIn A 0 = A 29 := funext fun p => if_neg (by omega)
def crunR (A : Nat → Nat → Int32) (i : Nat) : Nat → Nat → (Nat → Int32) → (Nat → Int32) → Nat → (Nat → Int32) → (Nat → Int32) → Prop
  | 0, _, c, u, w, c1, u1 => w = 1 ∧ c1 = c ∧ u1 = u
  | s + 1, p, c, u, w, c1, u1 => ∃ w0 c0 u0, clR (A 0) c u (A 4 (10 * i + p)) (A 5 (10 * i + p)) (A 6 (10 * i + p)) w0 c0 u0 ∧ ((w0 = 0 ∧ w = 0 ∧ c1 = c0 ∧ u1 = u0) ∨ (w0 = 1 ∧ crunR A i s (p + 1) c0 u0 w c1 u1))
theorem clR_w {F c u c1 u1 : Nat → Int32} {what a b : Int32} {w : Nat} (h : clR F c u what a b w c1 u1) : w = 0 ∨ w = 1 := by
  rcases h with ⟨h, -⟩ | ⟨h, -⟩
  · exact Or.inl h
  · exact Or.inr h
theorem k6_cleanDigest {l : Launch} {s0 : State} {D : va_G} {cy : Nat → ClassId} (hE : gE s0 D cy) (hl : l.stackTraces = false) {mo : Nat} {ad : Nat → Nat} {A : Nat → Nat → Int32} {I : Nat → Int32} {L : List Nat} {f : gF} (hM : IsM cy mo ad A I L f) (hR : vRec A) (r : Int32) : gM l s0 D yX6_cleanDigest cX6_cleanDigest 5 (some .int) 2 0 0 [.ref mo, .int r] L f (mQ cy mo ad L (fun b9 A1 I1 => ∃ w, cd2 (gin r 4) w ∧ I1 = va_up I 27 (nI w) ∧ (w = 0 → ∃ i b m w1 c0 u0 c1 u1, i < 4 ∧ r = nI i ∧ A 2 i = nI b ∧ b < 3 ∧ A 3 i = nI m ∧ m ≤ 10 ∧ (∀ q, q < 12 → c0 q = A 1 (12 * b + q)) ∧ (∀ v, v < 4 → u0 v = nI 0) ∧ crunR A i m 0 c0 u0 w1 c1 u1 ∧ (w1 = 0 ∨ w1 = 1) ∧ b9 = (if w1 = 0 then -1 else dgF c1 12) ∧ A1 = stc A c1 u1) ∧ (w ≠ 0 → A1 = A))) := by
  refine gM.of (own := RX6) hE hl (by decide +kernel) rfl rfl (Nat.le_of_ble_eq_true rfl) (fun p9 e9 s9 m9 a99 b99 t99 c9 C hr hnm => ?_)
  refine G.weak (ls' := [some (.ref mo), some (.int r), none, none, none]) ?_ rfl (fun _ _ h => h)
  refine g_cut (α := Nat) (fun w => cd2 (gin r 4) w) (fun _ => L) (fun _ => f) (fun _ => 0) (fun _ => 0) 14 (fun _ => [some (.ref mo), some (.int r), none, none, none]) (fun w => [.int (nI w), .ref mo]) (fun J => ?_) (fun w hw => ?_)
  · skip
    refine g_aload_n (n := 1) C dX6_cleanDigest_0 rfl (Or.inr ⟨_, rfl⟩) rfl ?_
    refine g_iload_n (n := 2) C dX6_cleanDigest_1 rfl rfl ?_
    refine g_iconst (n := 3) (v := nI 4) C dX6_cleanDigest_2 rfl rfl ?_
    refine g_S (n := 6) (rest := [_]) C (k6_isIn hE hl (r) (nI 4)) dX6_cleanDigest_3 kM_X6_isIn kL_X6_87 kS_X6_isIn rfl rfl (Nat.le_of_ble_eq_true rfl) ⟨by decide, by decide⟩ ⟨by decide, by decide⟩ rfl (fun v9 L9 f9 hq => ?_)
    obtain ⟨rfl, rfl, rfl⟩ := hq
    refine G.sk (st' := [_, _]) rfl ?_
    refine g_if_eq (n := 9) (tgt := 13) C dX6_cleanDigest_6 (by decide) rfl (fun h6 => ?_) (fun h6 => ?_)
    · have h6 := gin_f h6 (by decide)
      refine g_iconst (n := 14) (v := nI 1) C dX6_cleanDigest_13 rfl rfl ?_
      exact J _ (by simp [cd2, h6])
    · have h6 := gin_t h6 (by decide)
      refine g_iconst (n := 10) (v := nI 0) C dX6_cleanDigest_9 rfl rfl ?_
      refine g_goto (tgt := 14) C dX6_cleanDigest_10 (by decide) ?_
      exact J _ (by simp [cd2, h6])
  · skip
    refine g_V (n := 17) (rest := []) C (k6_fails hE hl hM _) dX6_cleanDigest_14 kM_X6_fails kL_X6_95 kV_X6_fails hM.1 rfl rfl rfl (Nat.le_of_ble_eq_true rfl) ⟨by decide, by decide⟩ ⟨by decide, by decide⟩ rfl (fun v9 L9 f hq => ?_)
    obtain ⟨rfl, hM, rfl⟩ := hq
    refine G.sk (st' := [_]) rfl ?_
    refine g_if_eq (n := 20) (tgt := 22) C dX6_cleanDigest_17 (by decide) rfl (fun h17 => ?_) (fun h17 => ?_)
    · obtain ⟨rfl, i, hi, rfl⟩ := cd2_f hw h17
      obtain ⟨m, b, hm9, hb9, e3, e2, hins⟩ := hR i hi
      refine g_iconst (n := 23) (v := nI 0) C dX6_cleanDigest_22 rfl rfl ?_
      refine g_istore_n (n := 24) (ls' := [_, _, _, _, _]) C dX6_cleanDigest_23 rfl (by decide) rfl ?_
      refine g_loop (α := Nat × gF) (fun z => z.1 ≤ 12 ∧ IsM cy mo ad (stc A (cIn A b z.1) (A 29)) (va_up I 27 (nI 0)) L z.2) (fun z => 12 - z.1) (fun _ => L) (fun z => z.2) (fun _ => 0) (fun _ => 0) 24 (fun z => [some (.ref mo), some (.int (nI i)), some (.int (nI z.1)), none, none]) (fun _ => []) (fun z hz ih => ?_) (fun J3 => J3 (0, f) ⟨Nat.zero_le _, by rw [cIn_0, stc_id]; exact hM⟩)
      obtain ⟨q, f⟩ := z
      obtain ⟨hq9, hM⟩ := hz
      dsimp only at hq9 hM ih ⊢
      refine g_iload_n (n := 25) C dX6_cleanDigest_24 rfl rfl ?_
      refine g_bipush (n := 27) (v := nI 12) C dX6_cleanDigest_25 rfl rfl ?_
      refine g_icmp_ge (n := 30) (tgt := 58) C dX6_cleanDigest_27 (by decide) rfl (fun h27 => ?_) (fun h27 => ?_)
      · have e9 : q = 12 := by have := gn_ge h27 (by decide) (by omega); omega
        subst e9
        refine g_iconst (n := 59) (v := nI 0) C dX6_cleanDigest_58 rfl rfl ?_
        refine g_istore_n (n := 60) (ls' := [_, _, _, _, _]) C dX6_cleanDigest_59 rfl (by decide) rfl ?_
        refine g_loop (α := Nat × gF) (fun z => z.1 ≤ 4 ∧ IsM cy mo ad (stc A (cIn A b 12) (uIn A z.1)) (va_up I 27 (nI 0)) L z.2) (fun z => 4 - z.1) (fun _ => L) (fun z => z.2) (fun _ => 0) (fun _ => 0) 60 (fun z => [some (.ref mo), some (.int (nI i)), some (.int (nI z.1)), none, none]) (fun _ => []) (fun z hz ih => ?_) (fun J3 => J3 (0, f) ⟨Nat.zero_le _, by rw [uIn_0]; exact hM⟩)
        obtain ⟨q, f⟩ := z
        obtain ⟨hq9, hM⟩ := hz
        dsimp only at hq9 hM ih ⊢
        refine g_iload_n (n := 61) C dX6_cleanDigest_60 rfl rfl ?_
        refine g_iconst (n := 62) (v := nI 4) C dX6_cleanDigest_61 rfl rfl ?_
        refine g_icmp_ge (n := 65) (tgt := 78) C dX6_cleanDigest_62 (by decide) rfl (fun h62 => ?_) (fun h62 => ?_)
        · have e9 : q = 4 := by have := gn_ge h62 (by decide) (by omega); omega
          subst e9
          refine g_iconst (n := 79) (v := nI 1) C dX6_cleanDigest_78 rfl rfl ?_
          refine g_istore_n (n := 80) (ls' := [_, _, _, _, _]) C dX6_cleanDigest_79 rfl (by decide) rfl ?_
          refine g_bipush (n := 82) (v := nI 10) C dX6_cleanDigest_80 rfl rfl ?_
          refine g_iload_n (n := 83) C dX6_cleanDigest_82 rfl rfl ?_
          refine g_imulN (n := 84) C dX6_cleanDigest_83 rfl ?_
          refine g_istore_n (n := 85) (ls' := [_, _, _, _, _]) C dX6_cleanDigest_84 rfl (by decide) rfl ?_
          refine g_loop (α := gF × (Nat → Int32) × (Nat → Int32) × Nat × Nat) (fun z => IsM cy mo ad (stc A z.2.1 z.2.2.1) (va_up I 27 (nI 0)) L z.1 ∧ z.2.2.2.2 ≤ m ∧ (z.2.2.2.1 = 0 → crunR A i m 0 (cIn A b 12) (uIn A 4) 0 z.2.1 z.2.2.1) ∧ (z.2.2.2.1 ≠ 0 → z.2.2.2.1 = 1 ∧ ∀ w1 c1 u1, crunR A i (m - z.2.2.2.2) z.2.2.2.2 z.2.1 z.2.2.1 w1 c1 u1 → crunR A i m 0 (cIn A b 12) (uIn A 4) w1 c1 u1)) (fun z => m - z.2.2.2.2) (fun _ => L) (fun z => z.1) (fun _ => 0) (fun _ => 0) 85 (fun z => [some (.ref mo), some (.int (nI i)), some (.int (nI z.2.2.2.1)), some (.int (nI (10 * i + z.2.2.2.2))), none]) (fun _ => []) (fun z hz ih => ?_) (fun J3 => J3 (f, cIn A b 12, uIn A 4, 1, 0) ⟨hM, Nat.zero_le _, fun h => absurd h Nat.one_ne_zero, fun _ => ⟨rfl, fun _ _ _ h => h⟩⟩)
          obtain ⟨f, c, u, w5, q⟩ := z
          obtain ⟨hM, hq9, hw5, hw6⟩ := hz
          dsimp only at hM hq9 hw5 hw6 ih ⊢
          refine g_cut (α := Option Value) (fun _ => crunR A i m 0 (cIn A b 12) (uIn A 4) w5 c u ∧ (w5 = 0 ∨ w5 = 1)) (fun _ => L) (fun _ => f) (fun _ => 0) (fun _ => 0) 133 (fun o => [some (.ref mo), some (.int (nI i)), some (.int (nI w5)), o, none]) (fun _ => []) (fun J4 => ?_) (fun o3 hT => ?_)
          · skip
            refine g_iload_n (n := 86) C dX6_cleanDigest_85 rfl rfl ?_
            refine g_bipush (n := 88) (v := nI 10) C dX6_cleanDigest_86 rfl rfl ?_
            refine g_iload_n (n := 89) C dX6_cleanDigest_88 rfl rfl ?_
            refine g_imulN (n := 90) C dX6_cleanDigest_89 rfl ?_
            refine g_aload_n (n := 91) C dX6_cleanDigest_90 rfl (Or.inr ⟨_, rfl⟩) rfl ?_
            refine m_get (n := 94) C hM dX6_cleanDigest_91 kF_X6_19 rfl rfl ?_
            refine g_iload_n (n := 95) C dX6_cleanDigest_94 rfl rfl ?_
            refine m_ald (n := 96) C hM dX6_cleanDigest_95 rfl rfl rfl (by simp only [mLen]; omega) (by decide) rfl ?_
            refine G.top (y := nI m) ((stc_k (by decide)).trans e3) ?_
            refine g_iaddN (n := 97) C dX6_cleanDigest_96 rfl ?_
            refine g_icmp_ge (n := 100) (tgt := 133) C dX6_cleanDigest_97 (by decide) rfl (fun h97 => ?_) (fun h97 => ?_)
            · have hqm : q = m := by have := gn_ge h97 (by omega) (by omega); omega
              first | exact J4 _ ⟨by rw [hw0]; exact hw5 hw0, Or.inl hw0⟩ | exact J4 _ (by
                by_cases e : w5 = 0
                · exact ⟨by rw [e]; exact hw5 e, Or.inl e⟩
                · obtain ⟨h51, hw7⟩ := hw6 e
                  refine ⟨hw7 _ _ _ ?_, Or.inr h51⟩
                  rw [hqm, Nat.sub_self]
                  exact ⟨h51, rfl, rfl⟩)
            · have hi2 : q + 1 ≤ m := by have := gn_gt h97 (by omega) (by omega); omega
              refine g_iload_n (n := 101) C dX6_cleanDigest_100 rfl rfl ?_
              refine g_if_eq (n := 104) (tgt := 133) C dX6_cleanDigest_101 (by decide) rfl (fun h101 => ?_) (fun h101 => ?_)
              · have hw0 : w5 = 0 := by
                  by_cases e : w5 = 0
                  · exact e
                  · obtain ⟨h51, -⟩ := hw6 e
                    subst h51
                    exact absurd h101 (by decide)
                first | exact J4 _ ⟨by rw [hw0]; exact hw5 hw0, Or.inl hw0⟩ | exact J4 _ (by
                  by_cases e : w5 = 0
                  · exact ⟨by rw [e]; exact hw5 e, Or.inl e⟩
                  · obtain ⟨h51, hw7⟩ := hw6 e
                    refine ⟨hw7 _ _ _ ?_, Or.inr h51⟩
                    rw [hqm, Nat.sub_self]
                    exact ⟨h51, rfl, rfl⟩)
              · refine g_aload_n (n := 105) C dX6_cleanDigest_104 rfl (Or.inr ⟨_, rfl⟩) rfl ?_
                refine g_aload_n (n := 106) C dX6_cleanDigest_105 rfl (Or.inr ⟨_, rfl⟩) rfl ?_
                refine m_get (n := 109) C hM dX6_cleanDigest_106 kF_X6_22 rfl rfl ?_
                refine g_iload_n (n := 110) C dX6_cleanDigest_109 rfl rfl ?_
                refine m_ald (n := 111) C hM dX6_cleanDigest_110 rfl rfl rfl (by simp only [mLen]; omega) (by decide) rfl ?_
                refine G.top (y := A 4 (10 * i + q)) (stc_k (by decide)) ?_
                refine g_aload_n (n := 112) C dX6_cleanDigest_111 rfl (Or.inr ⟨_, rfl⟩) rfl ?_
                refine m_get (n := 115) C hM dX6_cleanDigest_112 kF_X6_25 rfl rfl ?_
                refine g_iload_n (n := 116) C dX6_cleanDigest_115 rfl rfl ?_
                refine m_ald (n := 117) C hM dX6_cleanDigest_116 rfl rfl rfl (by simp only [mLen]; omega) (by decide) rfl ?_
                refine G.top (y := A 5 (10 * i + q)) (stc_k (by decide)) ?_
                refine g_aload_n (n := 118) C dX6_cleanDigest_117 rfl (Or.inr ⟨_, rfl⟩) rfl ?_
                refine m_get (n := 121) C hM dX6_cleanDigest_118 kF_X6_28 rfl rfl ?_
                refine g_iload_n (n := 122) C dX6_cleanDigest_121 rfl rfl ?_
                refine m_ald (n := 123) C hM dX6_cleanDigest_122 rfl rfl rfl (by simp only [mLen]; omega) (by decide) rfl ?_
                refine G.top (y := A 6 (10 * i + q)) (stc_k (by decide)) ?_
                refine g_V (n := 126) (rest := []) C (k6_cleans hE hl hM (hins q (by omega))) dX6_cleanDigest_123 kM_X6_cleans kL_X6_159 kV_X6_cleans hM.1 rfl rfl rfl (Nat.le_of_ble_eq_true rfl) ⟨by decide, by decide⟩ ⟨by decide, by decide⟩ rfl (fun v9 L9 f hq => ?_)
                obtain ⟨rfl, w0, c0, u0, rfl, hM, hcl⟩ := hq
                refine G.sk (st' := [_]) rfl ?_
                refine g_istore_n (n := 127) (ls' := [_, _, _, _, _]) C dX6_cleanDigest_126 rfl (by decide) rfl ?_
                refine g_iinc (n := 130) (ls' := [_, _, _, _, _]) C dX6_cleanDigest_127 rfl (nI_1 _) rfl (by decide) rfl ?_
                refine g_goto (tgt := 85) C dX6_cleanDigest_130 (by decide) ?_
                have hmp : m - q = (m - (q + 1)) + 1 := by omega
                obtain ⟨h51, hw7⟩ := hw6 (fun e => h101 (congrArg nI e))
                refine ih (f, c0, u0, w0, q + 1) ⟨hM, hi2, fun h0 => ?_, fun h0 => ?_⟩ (by show m - (q + 1) < m - q; omega)
                · refine hw7 0 c0 u0 ?_
                  rw [hmp]
                  replace h0 : w0 = 0 := h0
                  exact ⟨w0, c0, u0, hcl, Or.inl ⟨h0, rfl, rfl, rfl⟩⟩
                · replace h0 : w0 ≠ 0 := h0
                  have h1 : w0 = 1 := (clR_w hcl).resolve_left h0
                  refine ⟨h1, fun w1 c1 u1 h => hw7 w1 c1 u1 ?_⟩
                  rw [hmp]
                  exact ⟨w0, c0, u0, hcl, Or.inr ⟨h1, h⟩⟩
          · obtain ⟨hT, hw8⟩ := hT
            refine g_iconst (n := 134) (v := nI 1) C dX6_cleanDigest_133 rfl rfl ?_
            refine g_istore_n (n := 135) (ls' := [_, _, _, _, _]) C dX6_cleanDigest_134 rfl (by decide) rfl ?_
            refine g_iconst (n := 136) (v := nI 0) C dX6_cleanDigest_135 rfl rfl ?_
            refine g_istore (n := 138) (ls' := [_, _, _, _, _]) C dX6_cleanDigest_136 rfl (by decide) rfl ?_
            refine g_loop (α := Nat) (fun q => q ≤ 12) (fun q => 12 - q) (fun _ => L) (fun _ => f) (fun _ => 0) (fun _ => 0) 138 (fun q => [some (.ref mo), some (.int (nI i)), some (.int (nI w5)), some (.int (dgF c q)), some (.int (nI q))]) (fun _ => []) (fun q hq7 ih4 => ?_) (fun J5 => J5 0 (Nat.zero_le _))
            refine g_iload (n := 140) C dX6_cleanDigest_138 rfl rfl ?_
            refine g_bipush (n := 142) (v := nI 12) C dX6_cleanDigest_140 rfl rfl ?_
            refine g_icmp_ge (n := 145) (tgt := 188) C dX6_cleanDigest_142 (by decide) rfl (fun h142 => ?_) (fun h142 => ?_)
            · have e9 : q = 12 := by have := gn_ge h142 (by decide) (by omega); omega
              subst e9
              refine g_iload_n (n := 189) C dX6_cleanDigest_188 rfl rfl ?_
              refine g_if_eq (n := 192) (tgt := 196) C dX6_cleanDigest_189 (by decide) rfl (fun h189 => ?_) (fun h189 => ?_)
              · have hz9 : w5 = 0 := by
                  rcases hw8 with h | h
                  · exact h
                  · subst h; exact absurd h189 (by decide)
                refine g_iconst (n := 197) (v := -1) C dX6_cleanDigest_196 rfl rfl ?_
                refine g_iret C hr dX6_cleanDigest_197 ?_ ⟨by decide, by decide⟩
                exact ⟨rfl, _, _, _, rfl, hM, 0, hw, rfl, fun _ => ⟨i, b, m, w5, _, _, c, u, hi, rfl, e2, hb9, e3, hm9, (fun q hq => if_pos hq), (fun v hv => if_pos hv), hT, hw8, by first | rw [if_pos hz9] | rw [if_neg hz9], rfl⟩, fun h => absurd rfl h⟩
              · have hz9 : ¬ w5 = 0 := fun e => h189 (congrArg nI e)
                refine g_iload_n (n := 193) C dX6_cleanDigest_192 rfl rfl ?_
                refine g_goto (tgt := 197) C dX6_cleanDigest_193 (by decide) ?_
                refine g_iret C hr dX6_cleanDigest_197 ?_ ⟨by decide, by decide⟩
                exact ⟨rfl, _, _, _, rfl, hM, 0, hw, rfl, fun _ => ⟨i, b, m, w5, _, _, c, u, hi, rfl, e2, hb9, e3, hm9, (fun q hq => if_pos hq), (fun v hv => if_pos hv), hT, hw8, by first | rw [if_pos hz9] | rw [if_neg hz9], rfl⟩, fun h => absurd rfl h⟩
            · have hi9 : q < 12 := gn_gt h142 (by decide) (by omega)
              refine g_aload_n (n := 146) C dX6_cleanDigest_145 rfl (Or.inr ⟨_, rfl⟩) rfl ?_
              refine m_get (n := 149) C hM dX6_cleanDigest_146 kF_X6_72 rfl rfl ?_
              refine g_iload (n := 151) C dX6_cleanDigest_149 rfl rfl ?_
              refine m_ald (n := 152) C hM dX6_cleanDigest_151 rfl rfl rfl (by simp only [mLen]; omega) (by decide) rfl ?_
              refine G.top (y := c q) rfl ?_
              refine g_iconst (n := 153) (v := -1) C dX6_cleanDigest_152 rfl rfl ?_
              refine g_icmp_ne (n := 156) (tgt := 160) C dX6_cleanDigest_153 (by decide) rfl (fun h153 => ?_) (fun h153 => ?_)
              · refine g_bipush (n := 162) (v := nI 31) C dX6_cleanDigest_160 rfl rfl ?_
                refine g_iload_n (n := 163) C dX6_cleanDigest_162 rfl rfl ?_
                refine g_imul (n := 164) C dX6_cleanDigest_163 rfl ?_
                refine g_bipush (n := 166) (v := nI 101) C dX6_cleanDigest_164 rfl rfl ?_
                refine g_iload (n := 168) C dX6_cleanDigest_166 rfl rfl ?_
                refine g_imul (n := 169) C dX6_cleanDigest_168 rfl ?_
                refine g_iadd (n := 170) C dX6_cleanDigest_169 rfl ?_
                refine g_aload_n (n := 171) C dX6_cleanDigest_170 rfl (Or.inr ⟨_, rfl⟩) rfl ?_
                refine m_get (n := 174) C hM dX6_cleanDigest_171 kF_X6_72 rfl rfl ?_
                refine g_iload (n := 176) C dX6_cleanDigest_174 rfl rfl ?_
                refine m_ald (n := 177) C hM dX6_cleanDigest_176 rfl rfl rfl (by simp only [mLen]; omega) (by decide) rfl ?_
                refine G.top (y := c q) rfl ?_
                refine g_iadd (n := 178) C dX6_cleanDigest_177 rfl ?_
                refine g_ldc (n := 180) (v := 1000003) C dX6_cleanDigest_178 (List.mem_of_getElem? (i := 1023) (by decide +kernel)) rfl ?_
                refine g_irem (n := 181) C dX6_cleanDigest_180 (by decide) rfl ?_
                refine G.top (y := dgF c (q + 1)) (by simp [dgF, h153]) ?_
                refine g_istore_n (n := 182) (ls' := [_, _, _, _, _]) C dX6_cleanDigest_181 rfl (by decide) rfl ?_
                refine g_iinc (n := 185) (ls' := [_, _, _, _, _]) C dX6_cleanDigest_182 rfl (nI_1 _) rfl (by decide) rfl ?_
                refine g_goto (tgt := 138) C dX6_cleanDigest_185 (by decide) ?_
                exact ih4 (q + 1) (by omega) (by omega)
              · refine g_iload_n (n := 157) C dX6_cleanDigest_156 rfl rfl ?_
                refine g_goto (tgt := 181) C dX6_cleanDigest_157 (by decide) ?_
                refine G.top (y := dgF c (q + 1)) (by simp [dgF, h153]) ?_
                refine g_istore_n (n := 182) (ls' := [_, _, _, _, _]) C dX6_cleanDigest_181 rfl (by decide) rfl ?_
                refine g_iinc (n := 185) (ls' := [_, _, _, _, _]) C dX6_cleanDigest_182 rfl (nI_1 _) rfl (by decide) rfl ?_
                refine g_goto (tgt := 138) C dX6_cleanDigest_185 (by decide) ?_
                exact ih4 (q + 1) (by omega) (by omega)
        · have hi9 : q < 4 := gn_gt h62 (by decide) (by omega)
          refine g_aload_n (n := 66) C dX6_cleanDigest_65 rfl (Or.inr ⟨_, rfl⟩) rfl ?_
          refine m_get (n := 69) C hM dX6_cleanDigest_66 kF_X6_75 rfl rfl ?_
          refine g_iload_n (n := 70) C dX6_cleanDigest_69 rfl rfl ?_
          refine g_iconst (n := 71) (v := nI 0) C dX6_cleanDigest_70 rfl rfl ?_
          refine m_ast (n := 72) C hM dX6_cleanDigest_71 rfl rfl rfl (by simp only [mLen]; omega) (by decide) rfl (fun f hM => ?_)
          rw [stc_u] at hM
          refine g_iinc (n := 75) (ls' := [_, _, _, _, _]) C dX6_cleanDigest_72 rfl (nI_1 _) rfl (by decide) rfl ?_
          refine g_goto (tgt := 60) C dX6_cleanDigest_75 (by decide) ?_
          rw [uIn_s] at hM
          exact ih (q + 1, f) ⟨by show q + 1 ≤ 4; omega, hM⟩ (by show 4 - (q + 1) < 4 - q; omega)
      · have hi9 : q < 12 := gn_gt h27 (by decide) (by omega)
        refine g_aload_n (n := 31) C dX6_cleanDigest_30 rfl (Or.inr ⟨_, rfl⟩) rfl ?_
        refine m_get (n := 34) C hM dX6_cleanDigest_31 kF_X6_72 rfl rfl ?_
        refine g_iload_n (n := 35) C dX6_cleanDigest_34 rfl rfl ?_
        refine g_aload_n (n := 36) C dX6_cleanDigest_35 rfl (Or.inr ⟨_, rfl⟩) rfl ?_
        refine m_get (n := 39) C hM dX6_cleanDigest_36 kF_X6_13 rfl rfl ?_
        refine g_bipush (n := 41) (v := nI 12) C dX6_cleanDigest_39 rfl rfl ?_
        refine g_aload_n (n := 42) C dX6_cleanDigest_41 rfl (Or.inr ⟨_, rfl⟩) rfl ?_
        refine m_get (n := 45) C hM dX6_cleanDigest_42 kF_X6_16 rfl rfl ?_
        refine g_iload_n (n := 46) C dX6_cleanDigest_45 rfl rfl ?_
        refine m_ald (n := 47) C hM dX6_cleanDigest_46 rfl rfl rfl (by simp only [mLen]; omega) (by decide) rfl ?_
        refine G.top (y := nI b) ((stc_k (by decide)).trans e2) ?_
        refine g_imulN (n := 48) C dX6_cleanDigest_47 rfl ?_
        refine g_iload_n (n := 49) C dX6_cleanDigest_48 rfl rfl ?_
        refine g_iaddN (n := 50) C dX6_cleanDigest_49 rfl ?_
        refine m_ald (n := 51) C hM dX6_cleanDigest_50 rfl rfl rfl (by simp only [mLen]; omega) (by decide) rfl ?_
        refine G.top (y := A 1 (12 * b + q)) (stc_k (by decide)) ?_
        refine m_ast (n := 52) C hM dX6_cleanDigest_51 rfl rfl rfl (by simp only [mLen]; omega) (by decide) rfl (fun f hM => ?_)
        rw [stc_c] at hM
        refine g_iinc (n := 55) (ls' := [_, _, _, _, _]) C dX6_cleanDigest_52 rfl (nI_1 _) rfl (by decide) rfl ?_
        refine g_goto (tgt := 24) C dX6_cleanDigest_55 (by decide) ?_
        rw [cIn_s] at hM
        exact ih (q + 1, f) ⟨by show q + 1 ≤ 12; omega, hM⟩ (by show 12 - (q + 1) < 12 - q; omega)
    · have hw0 := cd_t h17
      refine g_iconst (n := 21) (v := nI 0) C dX6_cleanDigest_20 rfl rfl ?_
      refine g_iret C hr dX6_cleanDigest_21 ?_ ⟨by decide, by decide⟩
      exact ⟨rfl, nI 0, A, _, rfl, hM, w, hw, rfl, fun h => absurd h hw0, fun _ => rfl⟩
/-- k is the m-th - 1 or above it -/
def ancR (PR : Nat → Nat) : Nat → Nat → Nat → Prop
  | 0, _, _ => False
  | _ + 1, 0, _ => False
  | u + 1, j + 1, k => k = j ∨ ancR PR u (PR j) k
theorem ancR_st {PR : Nat → Nat} {n : Nat} (h : ∀ k, k < n → PR k ≤ k) : ∀ u m k, m ≤ u → m ≤ n → (ancR PR (u + 1) m k ↔ ancR PR u m k) := by
  intro u
  induction u with
  | zero => intro m k hm hn; rw [show m = 0 by omega]; exact Iff.rfl
  | succ u ih =>
    intro m k hm hn
    cases m with
    | zero => exact Iff.rfl
    | succ j =>
      have h1 := h j (by omega)
      show (k = j ∨ ancR PR (u + 1) (PR j) k) ↔ (k = j ∨ ancR PR u (PR j) k)
      rw [ih (PR j) k (by omega) (by omega)]
theorem ancR_up {PR : Nat → Nat} {n : Nat} (h : ∀ k, k < n → PR k ≤ k) : ∀ d m k, m ≤ n → (ancR PR (m + d) m k ↔ ancR PR m m k) := by
  intro d
  induction d with
  | zero => intro m k _; exact Iff.rfl
  | succ d ih => intro m k hm; exact (ancR_st h (m + d) m k (by omega) hm).trans (ih m k hm)
def anc (PR : Nat → Nat) (m k : Nat) : Prop := ancR PR m m k
theorem anc_0 {PR : Nat → Nat} {k : Nat} : ¬ anc PR 0 k := fun h => h
theorem anc_s {PR : Nat → Nat} {n j k : Nat} (h : ∀ k, k < n → PR k ≤ k) (hj : j < n) : anc PR (j + 1) k ↔ (k = j ∨ anc PR (PR j) k) := by
  have h1 := h j hj
  show (k = j ∨ ancR PR j (PR j) k) ↔ (k = j ∨ ancR PR (PR j) (PR j) k)
  rw [← ancR_up h (j - PR j) (PR j) k (by omega), Nat.add_sub_cancel' h1]
def vTag (A : Nat → Nat → Int32) (n : Nat) (TG : Nat → Nat) : Prop := ∀ t, t < 5 → TG t ≤ n ∧ A 16 t = pI (TG t)
def kep (PR TG : Nat → Nat) (T k : Nat) : Prop := ∃ t, t < T ∧ anc PR (TG t) k
def stp (A : Nat → Nat → Int32) (g : Nat → Int32) (q : Nat) : Nat → Nat → Int32 := fun k1 j1 => if k1 = 31 then g j1 else if k1 = 8 ∧ j1 < q then (if g j1 = nI 0 then nI 1 else nI 0) else A k1 j1
theorem stp_k {A : Nat → Nat → Int32} {g : Nat → Int32} {q k j : Nat} (h : k ≠ 31) (h2 : k ≠ 8) : stp A g q k j = A k j := by simp [stp, h, h2]
theorem stp_31 {A : Nat → Nat → Int32} {g : Nat → Int32} {q j : Nat} : stp A g q 31 j = g j := rfl
theorem stp_8 {A : Nat → Nat → Int32} {g : Nat → Int32} {q j : Nat} (h : q ≤ j) : stp A g q 8 j = A 8 j := by
  show (if 8 = 31 then _ else if 8 = 8 ∧ j < q then _ else A 8 j) = _
  rw [if_neg (by decide), if_neg (by omega)]
theorem stp_g {A : Nat → Nat → Int32} {g : Nat → Int32} {q j : Nat} {x : Int32} (hq : q = 0) : mU (stp A g q) 31 j x = stp A (upd g j x) q := by
  funext k1 j1
  subst hq
  by_cases h : k1 = 31
  · subst h; simp [mU, stp, upd]
  · simp [mU, stp, h]
theorem stp_s {A : Nat → Nat → Int32} {g : Nat → Int32} {q : Nat} {x : Int32} (hx : x = (if g q = nI 0 then nI 1 else nI 0)) : mU (stp A g q) 8 q x = stp A g (q + 1) := by
  funext k1 j1
  subst hx
  by_cases h : k1 = 31
  · subst h; simp [mU, stp]
  · by_cases h8 : k1 = 8
    · subst h8
      by_cases e : j1 = q
      · subst e; simp [mU, stp]
      · have hl : j1 < q + 1 ↔ j1 < q := by omega
        simp [mU, stp, e, hl]
    · simp [mU, stp, h, h8]
theorem stp_0 {A : Nat → Nat → Int32} : stp A (A 31) 0 = A := by
  funext k1 j1
  by_cases h : k1 = 31
  · subst h; rfl
  · simp [stp, h]
def cntN (A : Nat → Nat → Int32) (g : Nat → Int32) : Nat → Nat
  | 0 => 0
  | q + 1 => cntN A g q + if g q = nI 0 ∧ A 8 q = nI 0 then 1 else 0
theorem cntN_le {A : Nat → Nat → Int32} {g : Nat → Int32} : ∀ q, cntN A g q ≤ q
  | 0 => Nat.le_refl _
  | q + 1 => by
    have := cntN_le (A := A) (g := g) q
    unfold cntN
    split <;> omega
def kIn (A : Nat → Nat → Int32) (q : Nat) : Nat → Int32 := fun p => if p < q then nI 0 else A 31 p
theorem kIn_s {A : Nat → Nat → Int32} {q : Nat} : upd (kIn A q) q (nI 0) = kIn A (q + 1) := by
  funext p
  unfold upd kIn
  by_cases h : p = q
  · subst h; rw [if_pos rfl, if_pos (by omega)]
  · rw [if_neg h]
    by_cases h2 : p < q
    · rw [if_pos h2, if_pos (by omega)]
    · rw [if_neg h2, if_neg (by omega)]
theorem kIn_0 {A : Nat → Nat → Int32} : kIn A 0 = A 31 := funext fun p => if_neg (by omega)
theorem kep_s {PR TG : Nat → Nat} {T k : Nat} : kep PR TG (T + 1) k ↔ (kep PR TG T k ∨ anc PR (TG T) k) := by
  constructor
  · rintro ⟨t, ht, h⟩
    by_cases e : t = T
    · subst e; exact Or.inr h
    · exact Or.inl ⟨t, by omega, h⟩
  · rintro (⟨t, ht, h⟩ | h)
    · exact ⟨t, by omega, h⟩
    · exact ⟨T, by omega, h⟩
theorem k6_prune {l : Launch} {s0 : State} {D : va_G} {cy : Nat → ClassId} (hE : gE s0 D cy) (hl : l.stackTraces = false) {mo : Nat} {ad : Nat → Nat} {A : Nat → Nat → Int32} {I : Nat → Int32} {L : List Nat} {f : gF} (hM : IsM cy mo ad A I L f) {n : Nat} (hN : I 7 = nI n) (hn9 : n ≤ 420) {PR TG : Nat → Nat} (hPR : vPar A n PR) (hTG : vTag A n TG) : gM l s0 D yX6_prune cX6_prune 3 (some .int) 2 0 0 [.ref mo] L f (mQ cy mo ad L (fun b9 A1 I1 => ∃ w, cd2 (I 17 = 0) w ∧ I1 = va_up I 27 (nI w) ∧ (w = 0 → ∃ g, (∀ k, k < n → (g k = nI 0 ∨ g k = nI 1) ∧ (g k = nI 1 ↔ kep PR TG 5 k)) ∧ b9 = nI (cntN A g n) ∧ A1 = stp A g n) ∧ (w ≠ 0 → A1 = A))) := by
  refine gM.of (own := RX6) hE hl (by decide +kernel) rfl rfl (Nat.le_of_ble_eq_true rfl) (fun p9 e9 s9 m9 a99 b99 t99 c9 C hr hnm => ?_)
  refine G.weak (ls' := [some (.ref mo), none, none]) ?_ rfl (fun _ _ h => h)
  refine g_cut (α := Nat) (fun w => cd2 (I 17 = 0) w) (fun _ => L) (fun _ => f) (fun _ => 0) (fun _ => 0) 13 (fun _ => [some (.ref mo), none, none]) (fun w => [.int (nI w), .ref mo]) (fun J => ?_) (fun w hw => ?_)
  · skip
    refine g_aload_n (n := 1) C dX6_prune_0 rfl (Or.inr ⟨_, rfl⟩) rfl ?_
    refine g_aload_n (n := 2) C dX6_prune_1 rfl (Or.inr ⟨_, rfl⟩) rfl ?_
    refine m_get (n := 5) C hM dX6_prune_2 kF_X6_118 rfl rfl ?_
    refine g_if_eq (n := 8) (tgt := 12) C dX6_prune_5 (by decide) rfl (fun h5 => ?_) (fun h5 => ?_)
    · refine g_iconst (n := 13) (v := nI 0) C dX6_prune_12 rfl rfl ?_
      exact J _ (by simp [cd2, h5])
    · refine g_iconst (n := 9) (v := nI 1) C dX6_prune_8 rfl rfl ?_
      refine g_goto (tgt := 13) C dX6_prune_9 (by decide) ?_
      exact J _ (by simp [cd2, h5])
  · skip
    refine g_V (n := 16) (rest := []) C (k6_fails hE hl hM _) dX6_prune_13 kM_X6_fails kL_X6_95 kV_X6_fails hM.1 rfl rfl rfl (Nat.le_of_ble_eq_true rfl) ⟨by decide, by decide⟩ ⟨by decide, by decide⟩ rfl (fun v9 L9 f hq => ?_)
    obtain ⟨rfl, hM, rfl⟩ := hq
    refine G.sk (st' := [_]) rfl ?_
    refine g_if_eq (n := 19) (tgt := 21) C dX6_prune_16 (by decide) rfl (fun h16 => ?_) (fun h16 => ?_)
    · obtain ⟨rfl, h17⟩ := cd2_f hw h16
      refine g_iconst (n := 22) (v := nI 0) C dX6_prune_21 rfl rfl ?_
      refine g_istore_n (n := 23) (ls' := [_, _, _]) C dX6_prune_22 rfl (by decide) rfl ?_
      refine g_loop (α := Nat × gF) (fun z => z.1 ≤ n ∧ IsM cy mo ad (stp A (kIn A z.1) 0) (va_up I 27 (nI 0)) L z.2) (fun z => n - z.1) (fun _ => L) (fun z => z.2) (fun _ => 0) (fun _ => 0) 23 (fun z => [some (.ref mo), some (.int (nI z.1)), none]) (fun _ => []) (fun z hz ih => ?_) (fun J3 => J3 (0, f) ⟨Nat.zero_le _, by rw [kIn_0, stp_0]; exact hM⟩)
      obtain ⟨q, f⟩ := z
      obtain ⟨hq9, hM⟩ := hz
      dsimp only at hq9 hM ih ⊢
      refine g_iload_n (n := 24) C dX6_prune_23 rfl rfl ?_
      refine g_aload_n (n := 25) C dX6_prune_24 rfl (Or.inr ⟨_, rfl⟩) rfl ?_
      refine m_get (n := 28) C hM dX6_prune_25 kF_X6_102 rfl rfl ?_
      refine G.top (y := nI n) hN ?_
      refine g_icmp_ge (n := 31) (tgt := 44) C dX6_prune_28 (by decide) rfl (fun h28 => ?_) (fun h28 => ?_)
      · have e9 : n = q := by have := gn_ge h28 (by omega) (by omega); omega
        subst e9
        refine g_iconst (n := 45) (v := nI 0) C dX6_prune_44 rfl rfl ?_
        refine g_istore_n (n := 46) (ls' := [_, _, _]) C dX6_prune_45 rfl (by decide) rfl ?_
        refine g_loop (α := Nat × gF × (Nat → Int32) × Option Value) (fun z => z.1 ≤ 5 ∧ IsM cy mo ad (stp A z.2.2.1 0) (va_up I 27 (nI 0)) L z.2.1 ∧ ∀ k, k < n → (z.2.2.1 k = nI 0 ∨ z.2.2.1 k = nI 1) ∧ (z.2.2.1 k = nI 1 ↔ kep PR TG z.1 k)) (fun z => 5 - z.1) (fun _ => L) (fun z => z.2.1) (fun _ => 0) (fun _ => 0) 46 (fun z => [some (.ref mo), some (.int (nI z.1)), z.2.2.2]) (fun _ => []) (fun z hz ih => ?_) (fun J3 => J3 (0, f, kIn A n, none) ⟨Nat.zero_le _, hM, fun k hk => ⟨Or.inl (if_pos hk), fun h => absurd ((if_pos hk).symm.trans h) (by decide), fun ⟨t, ht, _⟩ => absurd ht (Nat.not_lt_zero _)⟩⟩)
        obtain ⟨q, f, g, o2⟩ := z
        obtain ⟨hq9, hM, hg⟩ := hz
        dsimp only at hq9 hM hg ih ⊢
        refine g_iload_n (n := 47) C dX6_prune_46 rfl rfl ?_
        refine g_iconst (n := 48) (v := nI 5) C dX6_prune_47 rfl rfl ?_
        refine g_icmp_ge (n := 51) (tgt := 86) C dX6_prune_48 (by decide) rfl (fun h48 => ?_) (fun h48 => ?_)
        · have e9 : q = 5 := by have := gn_ge h48 (by decide) (by omega); omega
          subst e9
          refine g_iconst (n := 87) (v := nI 0) C dX6_prune_86 rfl rfl ?_
          refine g_istore_n (n := 88) (ls' := [_, _, _]) C dX6_prune_87 rfl (by decide) rfl ?_
          refine g_loop (α := Nat × gF × Nat) (fun z => z.1 ≤ n ∧ IsM cy mo ad (stp A g z.1) (va_up I 27 (nI 0)) L z.2.1 ∧ z.2.2 = cntN A g z.1) (fun z => n - z.1) (fun _ => L) (fun z => z.2.1) (fun _ => 0) (fun _ => 0) 90 (fun z => [some (.ref mo), some (.int (nI z.2.2)), some (.int (nI z.1))]) (fun _ => []) (fun z hz ih5 => ?_) (fun J3 => ?_)
          · obtain ⟨q, f, t⟩ := z
            obtain ⟨hq9, hM, ht9⟩ := hz
            dsimp only at hq9 hM ht9 ih5 ⊢
            subst ht9
            refine g_iload_n (n := 91) C dX6_prune_90 rfl rfl ?_
            refine g_aload_n (n := 92) C dX6_prune_91 rfl (Or.inr ⟨_, rfl⟩) rfl ?_
            refine m_get (n := 95) C hM dX6_prune_92 kF_X6_102 rfl rfl ?_
            refine G.top (y := nI n) hN ?_
            refine g_icmp_ge (n := 98) (tgt := 150) C dX6_prune_95 (by decide) rfl (fun h95 => ?_) (fun h95 => ?_)
            · have e9 : n = q := by have := gn_ge h95 (by omega) (by omega); omega
              subst e9
              refine g_iload_n (n := 151) C dX6_prune_150 rfl rfl ?_
              refine g_iret C hr dX6_prune_151 ?_ ⟨by decide, by decide⟩
              exact ⟨rfl, _, _, _, rfl, hM, 0, hw, rfl, fun _ => ⟨g, hg, rfl, rfl⟩, fun h => absurd rfl h⟩
            · have hi9 : q < n := gn_gt h95 (by omega) (by omega)
              have hgq := (hg q hi9).1
              refine g_iload_n (n := 99) C dX6_prune_98 rfl rfl ?_
              refine g_aload_n (n := 100) C dX6_prune_99 rfl (Or.inr ⟨_, rfl⟩) rfl ?_
              refine m_get (n := 103) C hM dX6_prune_100 kF_X6_81 rfl rfl ?_
              refine g_iload_n (n := 104) C dX6_prune_103 rfl rfl ?_
              refine m_zld (n := 105) C hM dX6_prune_104 rfl rfl rfl (by simp only [mLen]; omega) (by decide) rfl ?_
              refine G.top (y := g q) rfl ?_
              refine g_if_ne (n := 108) (tgt := 117) C dX6_prune_105 (by decide) rfl (fun h105 => ?_) (fun h105 => ?_)
              · refine g_iconst (n := 118) (v := nI 0) C dX6_prune_117 rfl rfl ?_
                refine g_goto (tgt := 122) C dX6_prune_118 (by decide) ?_
                refine g_iaddN (n := 123) C dX6_prune_122 rfl ?_
                refine G.top (y := nI (cntN A g (q + 1))) (congrArg nI (by first | (rw [cntN, if_neg (fun z => h105 z.1)]) | (rw [cntN, if_neg (fun z => h114 z.2)]) | (rw [cntN, if_pos ⟨h105, h114⟩]))) ?_
                refine g_istore_n (n := 124) (ls' := [_, _, _]) C dX6_prune_123 rfl (by decide) rfl ?_
                refine g_aload_n (n := 125) C dX6_prune_124 rfl (Or.inr ⟨_, rfl⟩) rfl ?_
                refine m_get (n := 128) C hM dX6_prune_125 kF_X6_31 rfl rfl ?_
                refine g_iload_n (n := 129) C dX6_prune_128 rfl rfl ?_
                refine g_aload_n (n := 130) C dX6_prune_129 rfl (Or.inr ⟨_, rfl⟩) rfl ?_
                refine m_get (n := 133) C hM dX6_prune_130 kF_X6_81 rfl rfl ?_
                refine g_iload_n (n := 134) C dX6_prune_133 rfl rfl ?_
                refine m_zld (n := 135) C hM dX6_prune_134 rfl rfl rfl (by simp only [mLen]; omega) (by decide) rfl ?_
                refine G.top (y := g q) rfl ?_
                refine g_if_ne (n := 138) (tgt := 142) C dX6_prune_135 (by decide) rfl (fun h135 => ?_) (fun h135 => ?_)
                · refine g_iconst (n := 143) (v := nI 0) C dX6_prune_142 rfl rfl ?_
                  refine m_zst (n := 144) C hM dX6_prune_143 rfl rfl rfl rfl (by simp only [mLen]; omega) (by decide) rfl (fun f hM => ?_)
                  refine g_iinc (n := 147) (ls' := [_, _, _]) C dX6_prune_144 rfl (nI_1 _) rfl (by decide) rfl ?_
                  refine g_goto (tgt := 90) C dX6_prune_147 (by decide) ?_
                  rw [stp_s (by first | exact (if_neg h135).symm | exact (if_pos h135).symm)] at hM
                  exact ih5 (q + 1, f, cntN A g (q + 1)) ⟨by show q + 1 ≤ n; omega, hM, rfl⟩ (by show n - (q + 1) < n - q; omega)
                · refine g_iconst (n := 139) (v := nI 1) C dX6_prune_138 rfl rfl ?_
                  refine g_goto (tgt := 143) C dX6_prune_139 (by decide) ?_
                  refine m_zst (n := 144) C hM dX6_prune_143 rfl rfl rfl rfl (by simp only [mLen]; omega) (by decide) rfl (fun f hM => ?_)
                  refine g_iinc (n := 147) (ls' := [_, _, _]) C dX6_prune_144 rfl (nI_1 _) rfl (by decide) rfl ?_
                  refine g_goto (tgt := 90) C dX6_prune_147 (by decide) ?_
                  rw [stp_s (by first | exact (if_neg h135).symm | exact (if_pos h135).symm)] at hM
                  exact ih5 (q + 1, f, cntN A g (q + 1)) ⟨by show q + 1 ≤ n; omega, hM, rfl⟩ (by show n - (q + 1) < n - q; omega)
              · refine g_aload_n (n := 109) C dX6_prune_108 rfl (Or.inr ⟨_, rfl⟩) rfl ?_
                refine m_get (n := 112) C hM dX6_prune_109 kF_X6_31 rfl rfl ?_
                refine g_iload_n (n := 113) C dX6_prune_112 rfl rfl ?_
                refine m_zld (n := 114) C hM dX6_prune_113 rfl rfl rfl (by simp only [mLen]; omega) (by decide) rfl ?_
                refine G.top (y := A 8 q) (stp_8 (Nat.le_refl _)) ?_
                refine g_if_eq (n := 117) (tgt := 121) C dX6_prune_114 (by decide) rfl (fun h114 => ?_) (fun h114 => ?_)
                · refine g_iconst (n := 122) (v := nI 1) C dX6_prune_121 rfl rfl ?_
                  refine g_iaddN (n := 123) C dX6_prune_122 rfl ?_
                  refine G.top (y := nI (cntN A g (q + 1))) (congrArg nI (by first | (rw [cntN, if_neg (fun z => h105 z.1)]) | (rw [cntN, if_neg (fun z => h114 z.2)]) | (rw [cntN, if_pos ⟨h105, h114⟩]))) ?_
                  refine g_istore_n (n := 124) (ls' := [_, _, _]) C dX6_prune_123 rfl (by decide) rfl ?_
                  refine g_aload_n (n := 125) C dX6_prune_124 rfl (Or.inr ⟨_, rfl⟩) rfl ?_
                  refine m_get (n := 128) C hM dX6_prune_125 kF_X6_31 rfl rfl ?_
                  refine g_iload_n (n := 129) C dX6_prune_128 rfl rfl ?_
                  refine g_aload_n (n := 130) C dX6_prune_129 rfl (Or.inr ⟨_, rfl⟩) rfl ?_
                  refine m_get (n := 133) C hM dX6_prune_130 kF_X6_81 rfl rfl ?_
                  refine g_iload_n (n := 134) C dX6_prune_133 rfl rfl ?_
                  refine m_zld (n := 135) C hM dX6_prune_134 rfl rfl rfl (by simp only [mLen]; omega) (by decide) rfl ?_
                  refine G.top (y := g q) rfl ?_
                  refine g_if_ne (n := 138) (tgt := 142) C dX6_prune_135 (by decide) rfl (fun h135 => ?_) (fun h135 => ?_)
                  · refine g_iconst (n := 143) (v := nI 0) C dX6_prune_142 rfl rfl ?_
                    refine m_zst (n := 144) C hM dX6_prune_143 rfl rfl rfl rfl (by simp only [mLen]; omega) (by decide) rfl (fun f hM => ?_)
                    refine g_iinc (n := 147) (ls' := [_, _, _]) C dX6_prune_144 rfl (nI_1 _) rfl (by decide) rfl ?_
                    refine g_goto (tgt := 90) C dX6_prune_147 (by decide) ?_
                    rw [stp_s (by first | exact (if_neg h135).symm | exact (if_pos h135).symm)] at hM
                    exact ih5 (q + 1, f, cntN A g (q + 1)) ⟨by show q + 1 ≤ n; omega, hM, rfl⟩ (by show n - (q + 1) < n - q; omega)
                  · refine g_iconst (n := 139) (v := nI 1) C dX6_prune_138 rfl rfl ?_
                    refine g_goto (tgt := 143) C dX6_prune_139 (by decide) ?_
                    refine m_zst (n := 144) C hM dX6_prune_143 rfl rfl rfl rfl (by simp only [mLen]; omega) (by decide) rfl (fun f hM => ?_)
                    refine g_iinc (n := 147) (ls' := [_, _, _]) C dX6_prune_144 rfl (nI_1 _) rfl (by decide) rfl ?_
                    refine g_goto (tgt := 90) C dX6_prune_147 (by decide) ?_
                    rw [stp_s (by first | exact (if_neg h135).symm | exact (if_pos h135).symm)] at hM
                    exact ih5 (q + 1, f, cntN A g (q + 1)) ⟨by show q + 1 ≤ n; omega, hM, rfl⟩ (by show n - (q + 1) < n - q; omega)
                · refine g_iconst (n := 118) (v := nI 0) C dX6_prune_117 rfl rfl ?_
                  refine g_goto (tgt := 122) C dX6_prune_118 (by decide) ?_
                  refine g_iaddN (n := 123) C dX6_prune_122 rfl ?_
                  refine G.top (y := nI (cntN A g (q + 1))) (congrArg nI (by first | (rw [cntN, if_neg (fun z => h105 z.1)]) | (rw [cntN, if_neg (fun z => h114 z.2)]) | (rw [cntN, if_pos ⟨h105, h114⟩]))) ?_
                  refine g_istore_n (n := 124) (ls' := [_, _, _]) C dX6_prune_123 rfl (by decide) rfl ?_
                  refine g_aload_n (n := 125) C dX6_prune_124 rfl (Or.inr ⟨_, rfl⟩) rfl ?_
                  refine m_get (n := 128) C hM dX6_prune_125 kF_X6_31 rfl rfl ?_
                  refine g_iload_n (n := 129) C dX6_prune_128 rfl rfl ?_
                  refine g_aload_n (n := 130) C dX6_prune_129 rfl (Or.inr ⟨_, rfl⟩) rfl ?_
                  refine m_get (n := 133) C hM dX6_prune_130 kF_X6_81 rfl rfl ?_
                  refine g_iload_n (n := 134) C dX6_prune_133 rfl rfl ?_
                  refine m_zld (n := 135) C hM dX6_prune_134 rfl rfl rfl (by simp only [mLen]; omega) (by decide) rfl ?_
                  refine G.top (y := g q) rfl ?_
                  refine g_if_ne (n := 138) (tgt := 142) C dX6_prune_135 (by decide) rfl (fun h135 => ?_) (fun h135 => ?_)
                  · refine g_iconst (n := 143) (v := nI 0) C dX6_prune_142 rfl rfl ?_
                    refine m_zst (n := 144) C hM dX6_prune_143 rfl rfl rfl rfl (by simp only [mLen]; omega) (by decide) rfl (fun f hM => ?_)
                    refine g_iinc (n := 147) (ls' := [_, _, _]) C dX6_prune_144 rfl (nI_1 _) rfl (by decide) rfl ?_
                    refine g_goto (tgt := 90) C dX6_prune_147 (by decide) ?_
                    rw [stp_s (by first | exact (if_neg h135).symm | exact (if_pos h135).symm)] at hM
                    exact ih5 (q + 1, f, cntN A g (q + 1)) ⟨by show q + 1 ≤ n; omega, hM, rfl⟩ (by show n - (q + 1) < n - q; omega)
                  · refine g_iconst (n := 139) (v := nI 1) C dX6_prune_138 rfl rfl ?_
                    refine g_goto (tgt := 143) C dX6_prune_139 (by decide) ?_
                    refine m_zst (n := 144) C hM dX6_prune_143 rfl rfl rfl rfl (by simp only [mLen]; omega) (by decide) rfl (fun f hM => ?_)
                    refine g_iinc (n := 147) (ls' := [_, _, _]) C dX6_prune_144 rfl (nI_1 _) rfl (by decide) rfl ?_
                    refine g_goto (tgt := 90) C dX6_prune_147 (by decide) ?_
                    rw [stp_s (by first | exact (if_neg h135).symm | exact (if_pos h135).symm)] at hM
                    exact ih5 (q + 1, f, cntN A g (q + 1)) ⟨by show q + 1 ≤ n; omega, hM, rfl⟩ (by show n - (q + 1) < n - q; omega)
          · skip
            refine g_iconst (n := 89) (v := nI 0) C dX6_prune_88 rfl rfl ?_
            refine g_istore_n (n := 90) (ls' := [_, _, _]) C dX6_prune_89 rfl (by decide) rfl ?_
            exact J3 (0, f, 0) ⟨Nat.zero_le _, hM, rfl⟩
        · have hi9 : q < 5 := gn_gt h48 (by decide) (by omega)
          refine g_aload_n (n := 52) C dX6_prune_51 rfl (Or.inr ⟨_, rfl⟩) rfl ?_
          refine m_get (n := 55) C hM dX6_prune_52 kF_X6_56 rfl rfl ?_
          refine g_iload_n (n := 56) C dX6_prune_55 rfl rfl ?_
          refine m_ald (n := 57) C hM dX6_prune_56 rfl rfl rfl (by simp only [mLen]; omega) (by decide) rfl ?_
          refine G.top (y := pI (TG q)) ((stp_k (by decide) (by decide)).trans (hTG q hi9).2) ?_
          refine g_istore_n (n := 58) (ls' := [_, _, _]) C dX6_prune_57 rfl (by decide) rfl ?_
          refine g_loop (α := Nat × gF × (Nat → Int32)) (fun z => z.1 ≤ n ∧ IsM cy mo ad (stp A z.2.2 0) (va_up I 27 (nI 0)) L z.2.1 ∧ ∀ k, k < n → (z.2.2 k = nI 0 ∨ z.2.2 k = nI 1) ∧ ((z.2.2 k = nI 1 ∨ anc PR z.1 k) ↔ kep PR TG (q + 1) k)) (fun z => z.1) (fun _ => L) (fun z => z.2.1) (fun _ => 0) (fun _ => 0) 58 (fun z => [some (.ref mo), some (.int (nI q)), some (.int (pI z.1))]) (fun _ => []) (fun z hz ih2 => ?_) (fun J3 => J3 (TG q, f, g) ⟨(hTG q hi9).1, hM, fun k hk => ⟨(hg k hk).1, by rw [kep_s, (hg k hk).2]⟩⟩)
          obtain ⟨m, f, g2⟩ := z
          obtain ⟨hm, hM, hg2⟩ := hz
          dsimp only at hm hM hg2 ih2 ⊢
          refine g_iload_n (n := 59) C dX6_prune_58 rfl rfl ?_
          refine g_iconst (n := 60) (v := -1) C dX6_prune_59 rfl rfl ?_
          refine g_icmp_eq (n := 63) (tgt := 80) C dX6_prune_60 (by decide) rfl (fun h60 => ?_) (fun h60 => ?_)
          · have e9 := pI_0 h60 (by omega)
            subst e9
            refine g_iinc (n := 83) (ls' := [_, _, _]) C dX6_prune_80 rfl (nI_1 _) rfl (by decide) rfl ?_
            refine g_goto (tgt := 46) C dX6_prune_83 (by decide) ?_
            refine ih (q + 1, f, g2, _) ⟨by show q + 1 ≤ 5; omega, hM, fun k hk => ⟨(hg2 k hk).1, ?_⟩⟩ (by show 5 - (q + 1) < 5 - q; omega)
            rw [← (hg2 k hk).2]
            simp [anc_0]
          · obtain ⟨j, rfl⟩ : ∃ j, m = j + 1 := ⟨m - 1, by cases m with | zero => exact absurd rfl h60 | succ j => rfl⟩
            rw [show pI (j + 1) = nI j from rfl]
            refine g_aload_n (n := 64) C dX6_prune_63 rfl (Or.inr ⟨_, rfl⟩) rfl ?_
            refine m_get (n := 67) C hM dX6_prune_64 kF_X6_81 rfl rfl ?_
            refine g_iload_n (n := 68) C dX6_prune_67 rfl rfl ?_
            refine g_iconst (n := 69) (v := nI 1) C dX6_prune_68 rfl rfl ?_
            refine m_zst (n := 70) C hM dX6_prune_69 rfl rfl rfl rfl (by simp only [mLen]; omega) (by decide) rfl (fun f hM => ?_)
            rw [stp_g rfl] at hM
            refine g_aload_n (n := 71) C dX6_prune_70 rfl (Or.inr ⟨_, rfl⟩) rfl ?_
            refine m_get (n := 74) C hM dX6_prune_71 kF_X6_35 rfl rfl ?_
            refine g_iload_n (n := 75) C dX6_prune_74 rfl rfl ?_
            refine m_ald (n := 76) C hM dX6_prune_75 rfl rfl rfl (by simp only [mLen]; omega) (by decide) rfl ?_
            refine G.top (y := pI (PR j)) ((stp_k (by decide) (by decide)).trans (hPR j (by omega)).2) ?_
            refine g_istore_n (n := 77) (ls' := [_, _, _]) C dX6_prune_76 rfl (by decide) rfl ?_
            refine g_goto (tgt := 58) C dX6_prune_77 (by decide) ?_
            refine ih2 (PR j, f, upd g2 j (nI 1)) ⟨by have := (hPR j (by omega)).1; show PR j ≤ n; omega, hM, fun k hk => ?_⟩ (by have := (hPR j (by omega)).1; show PR j < j + 1; omega)
            obtain ⟨a1, a2⟩ := hg2 k hk
            rw [anc_s (n := n) (fun k hk => (hPR k hk).1) (by omega)] at a2
            rw [← a2]
            by_cases e : k = j
            · subst e
              simp [upd]
            · have e2 : upd g2 j (nI 1) k = g2 k := if_neg e
              show (upd g2 j (nI 1) k = _ ∨ upd g2 j (nI 1) k = _) ∧ (upd g2 j (nI 1) k = _ ∨ _ ↔ _)
              rw [e2]
              simp [e, a1]
      · have hi9 : q < n := gn_gt h28 (by omega) (by omega)
        refine g_aload_n (n := 32) C dX6_prune_31 rfl (Or.inr ⟨_, rfl⟩) rfl ?_
        refine m_get (n := 35) C hM dX6_prune_32 kF_X6_81 rfl rfl ?_
        refine g_iload_n (n := 36) C dX6_prune_35 rfl rfl ?_
        refine g_iconst (n := 37) (v := nI 0) C dX6_prune_36 rfl rfl ?_
        refine m_zst (n := 38) C hM dX6_prune_37 rfl rfl rfl rfl (by simp only [mLen]; omega) (by decide) rfl (fun f hM => ?_)
        rw [stp_g rfl] at hM
        refine g_iinc (n := 41) (ls' := [_, _, _]) C dX6_prune_38 rfl (nI_1 _) rfl (by decide) rfl ?_
        refine g_goto (tgt := 23) C dX6_prune_41 (by decide) ?_
        rw [kIn_s] at hM
        exact ih (q + 1, f) ⟨by show q + 1 ≤ n; omega, hM⟩ (by show n - (q + 1) < n - q; omega)
    · have hw0 := cd_t h16
      refine g_iconst (n := 20) (v := nI 0) C dX6_prune_19 rfl rfl ?_
      refine g_iret C hr dX6_prune_20 ?_ ⟨by decide, by decide⟩
      exact ⟨rfl, nI 0, A, _, rfl, hM, w, hw, rfl, fun h => absurd h hw0, fun _ => rfl⟩

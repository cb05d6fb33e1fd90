/-! ===== the law, VIII: an instruction is added ===== -/
theorem addA_39 {A : Nat → Nat → Int32} {g : Nat → Int32} {x m : Nat} {w a b : Int32} (hg : ∀ i, i < 4 → A 3 i = g i) : ∀ i, i < 4 → addA A x m w a b 3 i = upd g x (nI (m + 1)) i := fun i hi => by
  unfold addA upd
  by_cases e : i = x
  · rw [if_pos e, e, mU_s]
  · rw [if_neg e, mU_j e, mU_k (by decide), mU_k (by decide), mU_k (by decide)]
    exact hg i hi
theorem addA_ag {A : Nat → Nat → Int32} {n x m : Nat} {w a b : Int32} : agw A (addA A x m w a b) n := (agr.of (fun k j h1 h2 => by unfold addA; rw [mU_k (by omega), mU_k (by omega), mU_k (by omega), mU_k (by omega)])).w
theorem cdb_1 {P : Prop} {w : Nat} (h : cdb P w) (hz : ¬ nI w = 0) : P := h.elim And.right (fun z => absurd (by rw [z.1]; rfl) hz)
theorem cdb_0 {P : Prop} {w : Nat} (h : cdb P w) (hz : nI w = 0) : ¬ P := h.elim (fun z => absurd hz (by rw [z.1]; decide)) And.right
theorem cdb_y {P : Prop} {w : Nat} (h : cdb P w) (p : P) : ¬ nI w = 0 := fun z => cdb_0 h z p
theorem l_isAdded_0 {l : Launch} {s0 : State} {D : va_G} {cy : Nat → ClassId} (hE : gE s0 D cy) (hl : l.stackTraces = false) {f : gF} (hN : gN9 s0) {co n : Nat} {PR PL : Nat → Nat} {S A : Nat → Nat → Int32} {I : Nat → Int32} {Lc : List Nat} {ga : Nat} {g : Nat → Int32} (h : CX cy co n PR PL S A I Lc f) (hi : INV A n PR S) (hga : ga ∉ Lc) (hg : f ga = .inl (cy 0, 4, .inl g)) (hgA : ∀ i, i < 4 → A 3 i = g i) {x a b : Nat} (hx9 : x < 2 ^ 31) (ha9 : a < 2 ^ 31) (hb9 : b < 2 ^ 31) : gM l s0 D yL_isAdded cL_isAdded 11 (some .boolean) 11 6 30 [.ref co, .ref ga, .int (nI 0), .int (nI x), .int (nI a), .int (nI b)] (Lc ++ [ga]) f (fun v L1 f1 => v = some (.int 1) ∧ GWo cy co ga L1 f1) := by
  refine gM.of (own := RL) hE hl (by decide +kernel) rfl rfl (Nat.le_of_ble_eq_true rfl) (fun p9 e9 s9 m9 a99 b99 t99 c9 C hr hnm => ?_)
  refine G.weak (ls' := [some (.ref co), some (.ref ga), some (.int (nI 0)), some (.int (nI x)), some (.int (nI a)), some (.int (nI b)), none, none, none, none, none]) ?_ rfl (fun _ _ h => h)
  obtain ⟨i7, hn9, hPR, hsh, hpl, hpb, hlv⟩ := h.nv
  have hpar : ∀ k, k < n → PR k ≤ k := fun k hk => (hPR k hk).1
  refine g_cut (α := Nat × Nat) (fun z => cdb (x < 4) z.2 ∧ cdb (x < 4 ∧ a < 8 ∧ b < 12) z.1) (fun _ => Lc ++ [ga]) (fun _ => f) (fun _ => 0) (fun _ => 0) 107 (fun z => [some (.ref co), some (.ref ga), some (.int (nI 0)), some (.int (nI x)), some (.int (nI a)), some (.int (nI b)), some (.int (nI z.2)), none, none, none, none]) (fun z => [.int (nI z.1)]) (fun J => ?_) (fun z hz => ?_)
  · refine g_iload_n (n := 1) C dL_isAdded_0 rfl rfl ?_
    refine g_iconst (n := 2) (v := nI 4) C dL_isAdded_1 rfl rfl ?_
    refine g_icmp_ge (n := 5) (tgt := 9) C dL_isAdded_2 (by decide) rfl (fun h2 => ?_) (fun h2 => ?_)
    · have hx4 : ¬ x < 4 := by have := gn_ge h2 (by decide) hx9; omega
      refine g_iconst (n := 10) (v := nI 0) C dL_isAdded_9 rfl rfl ?_
      refine g_istore (n := 12) (ls' := [_, _, _, _, _, _, _, _, _, _, _]) C dL_isAdded_10 rfl (by decide) rfl ?_
      refine g_iload (n := 14) C dL_isAdded_12 rfl rfl ?_
      refine g_if_eq (n := 17) (tgt := 106) C dL_isAdded_14 (by decide) rfl (fun h14 => ?_) (fun h14 => absurd (by decide) h14)
      refine g_iconst (n := 107) (v := nI 0) C dL_isAdded_106 rfl rfl ?_
      first
      | exact J (1, 1) ⟨Or.inl ⟨rfl, hx4⟩, Or.inl ⟨rfl, hx4, hca, hcb⟩⟩
      | exact J (0, 1) ⟨Or.inl ⟨rfl, hx4⟩, Or.inr ⟨rfl, fun z => by omega⟩⟩
      | exact J (0, 0) ⟨Or.inr ⟨rfl, hx4⟩, Or.inr ⟨rfl, fun z => by omega⟩⟩
    · have hx4 : x < 4 := gn_gt h2 (by decide) hx9
      refine g_iconst (n := 6) (v := nI 1) C dL_isAdded_5 rfl rfl ?_
      refine g_goto (tgt := 10) C dL_isAdded_6 (by decide) ?_
      refine g_istore (n := 12) (ls' := [_, _, _, _, _, _, _, _, _, _, _]) C dL_isAdded_10 rfl (by decide) rfl ?_
      refine g_iload (n := 14) C dL_isAdded_12 rfl rfl ?_
      refine g_if_eq (n := 17) (tgt := 106) C dL_isAdded_14 (by decide) rfl (fun h14 => absurd h14 (by decide)) (fun h14 => ?_)
      refine g_iload_n (n := 18) C dL_isAdded_17 rfl rfl ?_
      refine g_if_ne (n := 21) (tgt := 38) C dL_isAdded_18 (by decide) rfl (fun h18 => (by first | exact absurd h18 (by decide) | exact (h18 (by decide)).elim)) (fun h18 => ?_)
      refine g_iload (n := 23) C dL_isAdded_21 rfl rfl ?_
      refine g_bipush (n := 25) (v := nI 8) C dL_isAdded_23 rfl rfl ?_
      refine g_icmp_ge (n := 28) (tgt := 106) C dL_isAdded_25 (by decide) rfl (fun h25 => ?_) (fun h25 => ?_)
      · have hca : ¬ a < 8 := by have := gn_ge h25 (by decide) ha9; omega
        refine g_iconst (n := 107) (v := nI 0) C dL_isAdded_106 rfl rfl ?_
        first
        | exact J (1, 1) ⟨Or.inl ⟨rfl, hx4⟩, Or.inl ⟨rfl, hx4, hca, hcb⟩⟩
        | exact J (0, 1) ⟨Or.inl ⟨rfl, hx4⟩, Or.inr ⟨rfl, fun z => by omega⟩⟩
        | exact J (0, 0) ⟨Or.inr ⟨rfl, hx4⟩, Or.inr ⟨rfl, fun z => by omega⟩⟩
      · have hca : a < 8 := gn_gt h25 (by decide) ha9
        refine g_iload (n := 30) C dL_isAdded_28 rfl rfl ?_
        refine g_bipush (n := 32) (v := nI 12) C dL_isAdded_30 rfl rfl ?_
        refine g_icmp_ge (n := 35) (tgt := 106) C dL_isAdded_32 (by decide) rfl (fun h32 => ?_) (fun h32 => ?_)
        · have hcb : ¬ b < 12 := by have := gn_ge h32 (by decide) hb9; omega
          refine g_iconst (n := 107) (v := nI 0) C dL_isAdded_106 rfl rfl ?_
          first
          | exact J (1, 1) ⟨Or.inl ⟨rfl, hx4⟩, Or.inl ⟨rfl, hx4, hca, hcb⟩⟩
          | exact J (0, 1) ⟨Or.inl ⟨rfl, hx4⟩, Or.inr ⟨rfl, fun z => by omega⟩⟩
          | exact J (0, 0) ⟨Or.inr ⟨rfl, hx4⟩, Or.inr ⟨rfl, fun z => by omega⟩⟩
        · have hcb : b < 12 := gn_gt h32 (by decide) hb9
          refine g_goto (tgt := 102) C dL_isAdded_35 (by decide) ?_
          refine g_iconst (n := 103) (v := nI 1) C dL_isAdded_102 rfl rfl ?_
          refine g_goto (tgt := 107) C dL_isAdded_103 (by decide) ?_
          first
          | exact J (1, 1) ⟨Or.inl ⟨rfl, hx4⟩, Or.inl ⟨rfl, hx4, hca, hcb⟩⟩
          | exact J (0, 1) ⟨Or.inl ⟨rfl, hx4⟩, Or.inr ⟨rfl, fun z => by omega⟩⟩
          | exact J (0, 0) ⟨Or.inr ⟨rfl, hx4⟩, Or.inr ⟨rfl, fun z => by omega⟩⟩
  · obtain ⟨w7, w6⟩ := z
    obtain ⟨h6, h7⟩ := hz
    dsimp only at h6 h7 ⊢
    refine g_cut (α := Nat) (fun w8 => cdb (True) w8) (fun _ => Lc ++ [ga]) (fun _ => f) (fun _ => 0) (fun _ => 0) 147 (fun _ => [some (.ref co), some (.ref ga), some (.int (nI 0)), some (.int (nI x)), some (.int (nI a)), some (.int (nI b)), some (.int (nI w6)), some (.int (nI w7)), none, none, none]) (fun w8 => [.int (nI w8)]) (fun J => ?_) (fun w8 h8 => ?_)
    · refine g_istore (n := 109) (ls' := [_, _, _, _, _, _, _, _, _, _, _]) C dL_isAdded_107 rfl (by decide) rfl ?_
      refine g_iload_n (n := 110) C dL_isAdded_109 rfl rfl ?_
      refine g_iconst (n := 111) (v := nI 2) C dL_isAdded_110 rfl rfl ?_
      refine g_icmp_lt (n := 114) (tgt := 142) C dL_isAdded_111 (by decide) rfl (fun h111 => ?_) (fun h111 => (by first | exact absurd h111 (by decide) | exact (h111 (by decide)).elim))
      refine g_iconst (n := 143) (v := nI 1) C dL_isAdded_142 rfl rfl ?_
      refine g_goto (tgt := 147) C dL_isAdded_143 (by decide) ?_
      first
      | exact J 1 (Or.inl ⟨rfl, trivial⟩)
      | exact J 1 (Or.inl ⟨rfl, hrt⟩)
      | exact J 0 (Or.inr ⟨rfl, hrt⟩)
    · refine g_istore (n := 149) (ls' := [_, _, _, _, _, _, _, _, _, _, _]) C dL_isAdded_147 rfl (by decide) rfl ?_
      refine g_iload (n := 151) C dL_isAdded_149 rfl rfl ?_
      refine g_if_ne (n := 154) (tgt := 159) C dL_isAdded_151 (by decide) rfl (fun h151 => ?_) (fun h151 => ?_)
      · have hth := cdb_1 h7 h151
        refine g_iload (n := 161) C dL_isAdded_159 rfl rfl ?_
        refine g_if_ne (n := 164) (tgt := 169) C dL_isAdded_161 (by decide) rfl (fun h161 => ?_) (fun h161 => absurd h161 (cdb_y h8 trivial))
        skip
        refine g_aload_n (n := 170) C dL_isAdded_169 rfl (Or.inr ⟨_, rfl⟩) rfl ?_
        refine g_iload_n (n := 171) C dL_isAdded_170 rfl rfl ?_
        obtain ⟨m, bb, hm9, -, hm, -, -⟩ := h.rec9 x hth.1
        rw [hgA x hth.1] at hm
        refine g_iald (n := 172) C dL_isAdded_171 ⟨List.mem_append_right _ (List.mem_singleton.mpr rfl), hg⟩ rfl (by have := hth.1; omega) (by decide) rfl ?_
        rw [hm]
        refine g_bipush (n := 174) (v := nI 10) C dL_isAdded_172 rfl rfl ?_
        refine g_icmp_ne (n := 177) (tgt := 182) C dL_isAdded_174 (by decide) rfl (fun h174 => ?_) (fun h174 => ?_)
        · have hm9 : m < 10 := by
            rcases Nat.lt_or_ge m 10 with z | z
            · exact z
            · exact absurd (by rw [show m = 10 by omega]) h174
          refine g_aload_n (n := 183) C dL_isAdded_182 rfl (Or.inr ⟨_, rfl⟩) rfl ?_
          refine g_iload_n (n := 184) C dL_isAdded_183 rfl rfl ?_
          refine g_iald (n := 185) C dL_isAdded_184 ⟨List.mem_append_right _ (List.mem_singleton.mpr rfl), hg⟩ rfl (by have := hth.1; omega) (by decide) rfl ?_
          rw [hm]
          refine g_iconst (n := 186) (v := nI 1) C dL_isAdded_185 rfl rfl ?_
          refine g_iaddN (n := 187) C dL_isAdded_186 rfl ?_
          refine g_istore (n := 189) (ls' := [_, _, _, _, _, _, _, _, _, _, _]) C dL_isAdded_187 rfl (by decide) rfl ?_
          refine g_aload_n (n := 190) C dL_isAdded_189 rfl (Or.inr ⟨_, rfl⟩) rfl ?_
          refine g_iload_n (n := 191) C dL_isAdded_190 rfl rfl ?_
          refine g_iload_n (n := 192) C dL_isAdded_191 rfl rfl ?_
          refine g_iload (n := 194) C dL_isAdded_192 rfl rfl ?_
          refine g_iload (n := 196) C dL_isAdded_194 rfl rfl ?_
          refine g_SH (n := 199) (rest := []) C (gH9.g (t_addCopy hE hl hN h hth.1 ((hgA x hth.1).trans hm) hm9 hth.2.1 hth.2.2) (fun _ _ _ z1 z2 => z1.ext z2) hg) dL_isAdded_196 kH_adds kW_L_128 kT_adds rfl rfl (Nat.le_of_ble_eq_true rfl) ⟨by decide, by decide⟩ ⟨by first | omega | (simp only [gRm]; omega), by first | omega | (simp only [gRm]; omega)⟩ rfl (fun v9 L9 f9 hq => ?_)
          obtain ⟨rfl, L2, rfl, hga2, h2, hg2⟩ := hq
          refine G.sk (st' := [_]) rfl ?_
          refine g_iload (n := 201) C dL_isAdded_199 rfl rfl ?_
          refine g_icmp_ne (n := 204) (tgt := 208) C dL_isAdded_201 (by decide) rfl (fun h201 => absurd rfl h201) (fun h201 => ?_)
          refine g_iconst (n := 205) (v := nI 1) C dL_isAdded_204 rfl rfl ?_
          refine g_goto (tgt := 209) C dL_isAdded_205 (by decide) ?_
          refine g_istore (n := 211) (ls' := [_, _, _, _, _, _, _, _, _, _, _]) C dL_isAdded_209 rfl (by decide) rfl ?_
          refine g_iload (n := 213) C dL_isAdded_211 rfl rfl ?_
          refine g_if_eq (n := 216) (tgt := 232) C dL_isAdded_213 (by decide) rfl (fun h213 => absurd h213 (cdb_y h6 hth.1)) (fun h213 => ?_)
          have hx4 := cdb_1 h6 h213
          refine g_aload_n (n := 217) C dL_isAdded_216 rfl (Or.inr ⟨_, rfl⟩) rfl ?_
          refine g_iload_n (n := 218) C dL_isAdded_217 rfl rfl ?_
          refine g_iload (n := 220) C dL_isAdded_218 rfl rfl ?_
          refine g_if_le (n := 223) (tgt := 228) C dL_isAdded_220 (by decide) rfl (fun h220 => absurd h220 (fun z => by have := gn_ge (b := 0) z (by omega) (by decide); omega)) (fun h220 => ?_)
          refine g_iload (n := 225) C dL_isAdded_223 rfl rfl ?_
          refine g_goto (tgt := 231) C dL_isAdded_225 (by decide) ?_
          refine g_iast (n := 232) C dL_isAdded_231 ⟨List.mem_append_right _ (List.mem_singleton.mpr rfl), hg2⟩ rfl (by exact hth.1) (by decide) rfl ?_
          refine g_iload (n := 234) C dL_isAdded_232 rfl rfl ?_
          refine g_zret C hr rfl dL_isAdded_234 ?_ ⟨by first | omega | (simp only [gRm]; omega), by first | omega | (simp only [gRm]; omega)⟩
          exact ⟨rfl, L2, _, rfl, hga2, va_up_self _ _ _, n, PR, PL, S, _, I, h2.ext (fun a ha => va_up_ne _ _ (fun z => hga2 (z ▸ ha))), hi.ag hpar addA_ag, addA_39 hgA⟩
        · have hm10 : m = 10 := gn_inj (by omega) (by decide) h174
          refine g_bipush (n := 179) (v := -10) C dL_isAdded_177 rfl rfl ?_
          refine g_goto (tgt := 187) C dL_isAdded_179 (by decide) ?_
          refine g_istore (n := 189) (ls' := [_, _, _, _, _, _, _, _, _, _, _]) C dL_isAdded_187 rfl (by decide) rfl ?_
          refine g_aload_n (n := 190) C dL_isAdded_189 rfl (Or.inr ⟨_, rfl⟩) rfl ?_
          refine g_iload_n (n := 191) C dL_isAdded_190 rfl rfl ?_
          refine g_iload_n (n := 192) C dL_isAdded_191 rfl rfl ?_
          refine g_iload (n := 194) C dL_isAdded_192 rfl rfl ?_
          refine g_iload (n := 196) C dL_isAdded_194 rfl rfl ?_
          refine g_SH (n := 199) (rest := []) C (tn_addCopy_S hE hl hN (h.up [ga]) (x := nI x) (y := nI a) (z := nI b) ⟨⟨x, hth.1, rfl⟩, ⟨a, hth.2.1, rfl⟩, ⟨b, hth.2.2, rfl⟩⟩ (fun z => z x hth.1 rfl (by rw [hgA x hth.1, hm, hm10]))) dL_isAdded_196 kH_adds kW_L_128 kT_adds rfl rfl (Nat.le_of_ble_eq_true rfl) ⟨by decide, by decide⟩ ⟨by first | omega | (simp only [gRm]; omega), by first | omega | (simp only [gRm]; omega)⟩ rfl (fun v9 L9 f9 hq => ?_)
          obtain ⟨rfl, rfl, rfl⟩ := hq
          refine G.sk (st' := [_]) rfl ?_
          refine g_iload (n := 201) C dL_isAdded_199 rfl rfl ?_
          refine g_icmp_ne (n := 204) (tgt := 208) C dL_isAdded_201 (by decide) rfl (fun h201 => absurd rfl h201) (fun h201 => ?_)
          refine g_iconst (n := 205) (v := nI 1) C dL_isAdded_204 rfl rfl ?_
          refine g_goto (tgt := 209) C dL_isAdded_205 (by decide) ?_
          refine g_istore (n := 211) (ls' := [_, _, _, _, _, _, _, _, _, _, _]) C dL_isAdded_209 rfl (by decide) rfl ?_
          refine g_iload (n := 213) C dL_isAdded_211 rfl rfl ?_
          refine g_if_eq (n := 216) (tgt := 232) C dL_isAdded_213 (by decide) rfl (fun h213 => absurd h213 (cdb_y h6 hth.1)) (fun h213 => ?_)
          have hx4 := cdb_1 h6 h213
          refine g_aload_n (n := 217) C dL_isAdded_216 rfl (Or.inr ⟨_, rfl⟩) rfl ?_
          refine g_iload_n (n := 218) C dL_isAdded_217 rfl rfl ?_
          refine g_iload (n := 220) C dL_isAdded_218 rfl rfl ?_
          refine g_if_le (n := 223) (tgt := 228) C dL_isAdded_220 (by decide) rfl (fun h220 => ?_) (fun h220 => absurd (by decide) h220)
          refine g_aload_n (n := 229) C dL_isAdded_228 rfl (Or.inr ⟨_, rfl⟩) rfl ?_
          refine g_iload_n (n := 230) C dL_isAdded_229 rfl rfl ?_
          refine g_iald (n := 231) C dL_isAdded_230 ⟨List.mem_append_right _ (List.mem_singleton.mpr rfl), hg⟩ rfl (by first | exact hx4 | exact hth.1) (by decide) rfl ?_
          refine g_iast (n := 232) C dL_isAdded_231 ⟨List.mem_append_right _ (List.mem_singleton.mpr rfl), hg⟩ rfl (by first | exact hx4 | exact hth.1) (by decide) rfl ?_
          refine g_iload (n := 234) C dL_isAdded_232 rfl rfl ?_
          refine g_zret C hr rfl dL_isAdded_234 ?_ ⟨by first | omega | (simp only [gRm]; omega), by first | omega | (simp only [gRm]; omega)⟩
          first
          | exact ⟨rfl, Lc, g, rfl, hga, hg, n, PR, PL, S, A, I, h, hi, hgA⟩
          | exact ⟨rfl, Lc, upd g x (g x), rfl, hga, va_up_self _ _ _, n, PR, PL, S, A, I, h.ext (fun a ha => va_up_ne _ _ (fun z => hga (z ▸ ha))), hi, fun i hi4 => by rw [upd_same]; exact hgA i hi4⟩
      · have hnt := cdb_0 h7 h151
        refine g_bipush (n := 156) (v := -30) C dL_isAdded_154 rfl rfl ?_
        refine g_goto (tgt := 187) C dL_isAdded_156 (by decide) ?_
        refine g_istore (n := 189) (ls' := [_, _, _, _, _, _, _, _, _, _, _]) C dL_isAdded_187 rfl (by decide) rfl ?_
        refine g_aload_n (n := 190) C dL_isAdded_189 rfl (Or.inr ⟨_, rfl⟩) rfl ?_
        refine g_iload_n (n := 191) C dL_isAdded_190 rfl rfl ?_
        refine g_iload_n (n := 192) C dL_isAdded_191 rfl rfl ?_
        refine g_iload (n := 194) C dL_isAdded_192 rfl rfl ?_
        refine g_iload (n := 196) C dL_isAdded_194 rfl rfl ?_
        refine g_SH (n := 199) (rest := []) C (tn_addCopy_I hE hl hN (h.up [ga]) (x := nI x) (y := nI a) (z := nI b) (fun z => hnt (by obtain ⟨⟨i1, q1, e1⟩, ⟨i2, q2, e2⟩, ⟨i3, q3, e3⟩⟩ := z; exact ⟨by have := gn_inj hx9 (by omega) e1; omega, by have := gn_inj ha9 (by omega) e2; omega, by have := gn_inj hb9 (by omega) e3; omega⟩))) dL_isAdded_196 kH_adds kW_L_128 kT_adds rfl rfl (Nat.le_of_ble_eq_true rfl) ⟨by decide, by decide⟩ ⟨by first | omega | (simp only [gRm]; omega), by first | omega | (simp only [gRm]; omega)⟩ rfl (fun v9 L9 f9 hq => ?_)
        obtain ⟨rfl, rfl, rfl⟩ := hq
        refine G.sk (st' := [_]) rfl ?_
        refine g_iload (n := 201) C dL_isAdded_199 rfl rfl ?_
        refine g_icmp_ne (n := 204) (tgt := 208) C dL_isAdded_201 (by decide) rfl (fun h201 => absurd rfl h201) (fun h201 => ?_)
        refine g_iconst (n := 205) (v := nI 1) C dL_isAdded_204 rfl rfl ?_
        refine g_goto (tgt := 209) C dL_isAdded_205 (by decide) ?_
        refine g_istore (n := 211) (ls' := [_, _, _, _, _, _, _, _, _, _, _]) C dL_isAdded_209 rfl (by decide) rfl ?_
        refine g_iload (n := 213) C dL_isAdded_211 rfl rfl ?_
        refine g_if_eq (n := 216) (tgt := 232) C dL_isAdded_213 (by decide) rfl (fun h213 => ?_) (fun h213 => ?_)
        · skip
          refine g_iload (n := 234) C dL_isAdded_232 rfl rfl ?_
          refine g_zret C hr rfl dL_isAdded_234 ?_ ⟨by first | omega | (simp only [gRm]; omega), by first | omega | (simp only [gRm]; omega)⟩
          first
          | exact ⟨rfl, Lc, g, rfl, hga, hg, n, PR, PL, S, A, I, h, hi, hgA⟩
          | exact ⟨rfl, Lc, upd g x (g x), rfl, hga, va_up_self _ _ _, n, PR, PL, S, A, I, h.ext (fun a ha => va_up_ne _ _ (fun z => hga (z ▸ ha))), hi, fun i hi4 => by rw [upd_same]; exact hgA i hi4⟩
        · have hx4 := cdb_1 h6 h213
          refine g_aload_n (n := 217) C dL_isAdded_216 rfl (Or.inr ⟨_, rfl⟩) rfl ?_
          refine g_iload_n (n := 218) C dL_isAdded_217 rfl rfl ?_
          refine g_iload (n := 220) C dL_isAdded_218 rfl rfl ?_
          refine g_if_le (n := 223) (tgt := 228) C dL_isAdded_220 (by decide) rfl (fun h220 => ?_) (fun h220 => absurd (by decide) h220)
          refine g_aload_n (n := 229) C dL_isAdded_228 rfl (Or.inr ⟨_, rfl⟩) rfl ?_
          refine g_iload_n (n := 230) C dL_isAdded_229 rfl rfl ?_
          refine g_iald (n := 231) C dL_isAdded_230 ⟨List.mem_append_right _ (List.mem_singleton.mpr rfl), hg⟩ rfl (by first | exact hx4 | exact hth.1) (by decide) rfl ?_
          refine g_iast (n := 232) C dL_isAdded_231 ⟨List.mem_append_right _ (List.mem_singleton.mpr rfl), hg⟩ rfl (by first | exact hx4 | exact hth.1) (by decide) rfl ?_
          refine g_iload (n := 234) C dL_isAdded_232 rfl rfl ?_
          refine g_zret C hr rfl dL_isAdded_234 ?_ ⟨by first | omega | (simp only [gRm]; omega), by first | omega | (simp only [gRm]; omega)⟩
          first
          | exact ⟨rfl, Lc, g, rfl, hga, hg, n, PR, PL, S, A, I, h, hi, hgA⟩
          | exact ⟨rfl, Lc, upd g x (g x), rfl, hga, va_up_self _ _ _, n, PR, PL, S, A, I, h.ext (fun a ha => va_up_ne _ _ (fun z => hga (z ▸ ha))), hi, fun i hi4 => by rw [upd_same]; exact hgA i hi4⟩
theorem l_isAdded_1 {l : Launch} {s0 : State} {D : va_G} {cy : Nat → ClassId} (hE : gE s0 D cy) (hl : l.stackTraces = false) {f : gF} (hN : gN9 s0) {co n : Nat} {PR PL : Nat → Nat} {S A : Nat → Nat → Int32} {I : Nat → Int32} {Lc : List Nat} {ga : Nat} {g : Nat → Int32} (h : CX cy co n PR PL S A I Lc f) (hi : INV A n PR S) (hga : ga ∉ Lc) (hg : f ga = .inl (cy 0, 4, .inl g)) (hgA : ∀ i, i < 4 → A 3 i = g i) {x a b : Nat} (hx9 : x < 2 ^ 31) (ha9 : a < 2 ^ 31) (hb9 : b < 2 ^ 31) : gM l s0 D yL_isAdded cL_isAdded 11 (some .boolean) 11 6 30 [.ref co, .ref ga, .int (nI 1), .int (nI x), .int (nI a), .int (nI b)] (Lc ++ [ga]) f (fun v L1 f1 => v = some (.int 1) ∧ GWo cy co ga L1 f1) := by
  refine gM.of (own := RL) hE hl (by decide +kernel) rfl rfl (Nat.le_of_ble_eq_true rfl) (fun p9 e9 s9 m9 a99 b99 t99 c9 C hr hnm => ?_)
  refine G.weak (ls' := [some (.ref co), some (.ref ga), some (.int (nI 1)), some (.int (nI x)), some (.int (nI a)), some (.int (nI b)), none, none, none, none, none]) ?_ rfl (fun _ _ h => h)
  obtain ⟨i7, hn9, hPR, hsh, hpl, hpb, hlv⟩ := h.nv
  have hpar : ∀ k, k < n → PR k ≤ k := fun k hk => (hPR k hk).1
  refine g_cut (α := Nat × Nat) (fun z => cdb (x < 4) z.2 ∧ cdb (x < 4 ∧ a < 12 ∧ b < 4) z.1) (fun _ => Lc ++ [ga]) (fun _ => f) (fun _ => 0) (fun _ => 0) 107 (fun z => [some (.ref co), some (.ref ga), some (.int (nI 1)), some (.int (nI x)), some (.int (nI a)), some (.int (nI b)), some (.int (nI z.2)), none, none, none, none]) (fun z => [.int (nI z.1)]) (fun J => ?_) (fun z hz => ?_)
  · refine g_iload_n (n := 1) C dL_isAdded_0 rfl rfl ?_
    refine g_iconst (n := 2) (v := nI 4) C dL_isAdded_1 rfl rfl ?_
    refine g_icmp_ge (n := 5) (tgt := 9) C dL_isAdded_2 (by decide) rfl (fun h2 => ?_) (fun h2 => ?_)
    · have hx4 : ¬ x < 4 := by have := gn_ge h2 (by decide) hx9; omega
      refine g_iconst (n := 10) (v := nI 0) C dL_isAdded_9 rfl rfl ?_
      refine g_istore (n := 12) (ls' := [_, _, _, _, _, _, _, _, _, _, _]) C dL_isAdded_10 rfl (by decide) rfl ?_
      refine g_iload (n := 14) C dL_isAdded_12 rfl rfl ?_
      refine g_if_eq (n := 17) (tgt := 106) C dL_isAdded_14 (by decide) rfl (fun h14 => ?_) (fun h14 => absurd (by decide) h14)
      refine g_iconst (n := 107) (v := nI 0) C dL_isAdded_106 rfl rfl ?_
      first
      | exact J (1, 1) ⟨Or.inl ⟨rfl, hx4⟩, Or.inl ⟨rfl, hx4, hca, hcb⟩⟩
      | exact J (0, 1) ⟨Or.inl ⟨rfl, hx4⟩, Or.inr ⟨rfl, fun z => by omega⟩⟩
      | exact J (0, 0) ⟨Or.inr ⟨rfl, hx4⟩, Or.inr ⟨rfl, fun z => by omega⟩⟩
    · have hx4 : x < 4 := gn_gt h2 (by decide) hx9
      refine g_iconst (n := 6) (v := nI 1) C dL_isAdded_5 rfl rfl ?_
      refine g_goto (tgt := 10) C dL_isAdded_6 (by decide) ?_
      refine g_istore (n := 12) (ls' := [_, _, _, _, _, _, _, _, _, _, _]) C dL_isAdded_10 rfl (by decide) rfl ?_
      refine g_iload (n := 14) C dL_isAdded_12 rfl rfl ?_
      refine g_if_eq (n := 17) (tgt := 106) C dL_isAdded_14 (by decide) rfl (fun h14 => absurd h14 (by decide)) (fun h14 => ?_)
      refine g_iload_n (n := 18) C dL_isAdded_17 rfl rfl ?_
      refine g_if_ne (n := 21) (tgt := 38) C dL_isAdded_18 (by decide) rfl (fun h18 => ?_) (fun h18 => (by first | exact absurd h18 (by decide) | exact (h18 (by decide)).elim))
      refine g_iload_n (n := 39) C dL_isAdded_38 rfl rfl ?_
      refine g_iconst (n := 40) (v := nI 1) C dL_isAdded_39 rfl rfl ?_
      refine g_icmp_ne (n := 43) (tgt := 59) C dL_isAdded_40 (by decide) rfl (fun h40 => (by first | exact absurd h40 (by decide) | exact (h40 (by decide)).elim)) (fun h40 => ?_)
      refine g_iload (n := 45) C dL_isAdded_43 rfl rfl ?_
      refine g_bipush (n := 47) (v := nI 12) C dL_isAdded_45 rfl rfl ?_
      refine g_icmp_ge (n := 50) (tgt := 106) C dL_isAdded_47 (by decide) rfl (fun h47 => ?_) (fun h47 => ?_)
      · have hca : ¬ a < 12 := by have := gn_ge h47 (by decide) ha9; omega
        refine g_iconst (n := 107) (v := nI 0) C dL_isAdded_106 rfl rfl ?_
        first
        | exact J (1, 1) ⟨Or.inl ⟨rfl, hx4⟩, Or.inl ⟨rfl, hx4, hca, hcb⟩⟩
        | exact J (0, 1) ⟨Or.inl ⟨rfl, hx4⟩, Or.inr ⟨rfl, fun z => by omega⟩⟩
        | exact J (0, 0) ⟨Or.inr ⟨rfl, hx4⟩, Or.inr ⟨rfl, fun z => by omega⟩⟩
      · have hca : a < 12 := gn_gt h47 (by decide) ha9
        refine g_iload (n := 52) C dL_isAdded_50 rfl rfl ?_
        refine g_iconst (n := 53) (v := nI 4) C dL_isAdded_52 rfl rfl ?_
        refine g_icmp_ge (n := 56) (tgt := 106) C dL_isAdded_53 (by decide) rfl (fun h53 => ?_) (fun h53 => ?_)
        · have hcb : ¬ b < 4 := by have := gn_ge h53 (by decide) hb9; omega
          refine g_iconst (n := 107) (v := nI 0) C dL_isAdded_106 rfl rfl ?_
          first
          | exact J (1, 1) ⟨Or.inl ⟨rfl, hx4⟩, Or.inl ⟨rfl, hx4, hca, hcb⟩⟩
          | exact J (0, 1) ⟨Or.inl ⟨rfl, hx4⟩, Or.inr ⟨rfl, fun z => by omega⟩⟩
          | exact J (0, 0) ⟨Or.inr ⟨rfl, hx4⟩, Or.inr ⟨rfl, fun z => by omega⟩⟩
        · have hcb : b < 4 := gn_gt h53 (by decide) hb9
          refine g_goto (tgt := 102) C dL_isAdded_56 (by decide) ?_
          refine g_iconst (n := 103) (v := nI 1) C dL_isAdded_102 rfl rfl ?_
          refine g_goto (tgt := 107) C dL_isAdded_103 (by decide) ?_
          first
          | exact J (1, 1) ⟨Or.inl ⟨rfl, hx4⟩, Or.inl ⟨rfl, hx4, hca, hcb⟩⟩
          | exact J (0, 1) ⟨Or.inl ⟨rfl, hx4⟩, Or.inr ⟨rfl, fun z => by omega⟩⟩
          | exact J (0, 0) ⟨Or.inr ⟨rfl, hx4⟩, Or.inr ⟨rfl, fun z => by omega⟩⟩
  · obtain ⟨w7, w6⟩ := z
    obtain ⟨h6, h7⟩ := hz
    dsimp only at h6 h7 ⊢
    refine g_cut (α := Nat) (fun w8 => cdb (True) w8) (fun _ => Lc ++ [ga]) (fun _ => f) (fun _ => 0) (fun _ => 0) 147 (fun _ => [some (.ref co), some (.ref ga), some (.int (nI 1)), some (.int (nI x)), some (.int (nI a)), some (.int (nI b)), some (.int (nI w6)), some (.int (nI w7)), none, none, none]) (fun w8 => [.int (nI w8)]) (fun J => ?_) (fun w8 h8 => ?_)
    · refine g_istore (n := 109) (ls' := [_, _, _, _, _, _, _, _, _, _, _]) C dL_isAdded_107 rfl (by decide) rfl ?_
      refine g_iload_n (n := 110) C dL_isAdded_109 rfl rfl ?_
      refine g_iconst (n := 111) (v := nI 2) C dL_isAdded_110 rfl rfl ?_
      refine g_icmp_lt (n := 114) (tgt := 142) C dL_isAdded_111 (by decide) rfl (fun h111 => ?_) (fun h111 => (by first | exact absurd h111 (by decide) | exact (h111 (by decide)).elim))
      refine g_iconst (n := 143) (v := nI 1) C dL_isAdded_142 rfl rfl ?_
      refine g_goto (tgt := 147) C dL_isAdded_143 (by decide) ?_
      first
      | exact J 1 (Or.inl ⟨rfl, trivial⟩)
      | exact J 1 (Or.inl ⟨rfl, hrt⟩)
      | exact J 0 (Or.inr ⟨rfl, hrt⟩)
    · refine g_istore (n := 149) (ls' := [_, _, _, _, _, _, _, _, _, _, _]) C dL_isAdded_147 rfl (by decide) rfl ?_
      refine g_iload (n := 151) C dL_isAdded_149 rfl rfl ?_
      refine g_if_ne (n := 154) (tgt := 159) C dL_isAdded_151 (by decide) rfl (fun h151 => ?_) (fun h151 => ?_)
      · have hth := cdb_1 h7 h151
        refine g_iload (n := 161) C dL_isAdded_159 rfl rfl ?_
        refine g_if_ne (n := 164) (tgt := 169) C dL_isAdded_161 (by decide) rfl (fun h161 => ?_) (fun h161 => absurd h161 (cdb_y h8 trivial))
        skip
        refine g_aload_n (n := 170) C dL_isAdded_169 rfl (Or.inr ⟨_, rfl⟩) rfl ?_
        refine g_iload_n (n := 171) C dL_isAdded_170 rfl rfl ?_
        obtain ⟨m, bb, hm9, -, hm, -, -⟩ := h.rec9 x hth.1
        rw [hgA x hth.1] at hm
        refine g_iald (n := 172) C dL_isAdded_171 ⟨List.mem_append_right _ (List.mem_singleton.mpr rfl), hg⟩ rfl (by have := hth.1; omega) (by decide) rfl ?_
        rw [hm]
        refine g_bipush (n := 174) (v := nI 10) C dL_isAdded_172 rfl rfl ?_
        refine g_icmp_ne (n := 177) (tgt := 182) C dL_isAdded_174 (by decide) rfl (fun h174 => ?_) (fun h174 => ?_)
        · have hm9 : m < 10 := by
            rcases Nat.lt_or_ge m 10 with z | z
            · exact z
            · exact absurd (by rw [show m = 10 by omega]) h174
          refine g_aload_n (n := 183) C dL_isAdded_182 rfl (Or.inr ⟨_, rfl⟩) rfl ?_
          refine g_iload_n (n := 184) C dL_isAdded_183 rfl rfl ?_
          refine g_iald (n := 185) C dL_isAdded_184 ⟨List.mem_append_right _ (List.mem_singleton.mpr rfl), hg⟩ rfl (by have := hth.1; omega) (by decide) rfl ?_
          rw [hm]
          refine g_iconst (n := 186) (v := nI 1) C dL_isAdded_185 rfl rfl ?_
          refine g_iaddN (n := 187) C dL_isAdded_186 rfl ?_
          refine g_istore (n := 189) (ls' := [_, _, _, _, _, _, _, _, _, _, _]) C dL_isAdded_187 rfl (by decide) rfl ?_
          refine g_aload_n (n := 190) C dL_isAdded_189 rfl (Or.inr ⟨_, rfl⟩) rfl ?_
          refine g_iload_n (n := 191) C dL_isAdded_190 rfl rfl ?_
          refine g_iload_n (n := 192) C dL_isAdded_191 rfl rfl ?_
          refine g_iload (n := 194) C dL_isAdded_192 rfl rfl ?_
          refine g_iload (n := 196) C dL_isAdded_194 rfl rfl ?_
          refine g_SH (n := 199) (rest := []) C (gH9.g (t_addRun hE hl hN h hth.1 ((hgA x hth.1).trans hm) hm9 hth.2.1 hth.2.2) (fun _ _ _ z1 z2 => z1.ext z2) hg) dL_isAdded_196 kH_adds kW_L_128 kT_adds rfl rfl (Nat.le_of_ble_eq_true rfl) ⟨by decide, by decide⟩ ⟨by first | omega | (simp only [gRm]; omega), by first | omega | (simp only [gRm]; omega)⟩ rfl (fun v9 L9 f9 hq => ?_)
          obtain ⟨rfl, L2, rfl, hga2, h2, hg2⟩ := hq
          refine G.sk (st' := [_]) rfl ?_
          refine g_iload (n := 201) C dL_isAdded_199 rfl rfl ?_
          refine g_icmp_ne (n := 204) (tgt := 208) C dL_isAdded_201 (by decide) rfl (fun h201 => absurd rfl h201) (fun h201 => ?_)
          refine g_iconst (n := 205) (v := nI 1) C dL_isAdded_204 rfl rfl ?_
          refine g_goto (tgt := 209) C dL_isAdded_205 (by decide) ?_
          refine g_istore (n := 211) (ls' := [_, _, _, _, _, _, _, _, _, _, _]) C dL_isAdded_209 rfl (by decide) rfl ?_
          refine g_iload (n := 213) C dL_isAdded_211 rfl rfl ?_
          refine g_if_eq (n := 216) (tgt := 232) C dL_isAdded_213 (by decide) rfl (fun h213 => absurd h213 (cdb_y h6 hth.1)) (fun h213 => ?_)
          have hx4 := cdb_1 h6 h213
          refine g_aload_n (n := 217) C dL_isAdded_216 rfl (Or.inr ⟨_, rfl⟩) rfl ?_
          refine g_iload_n (n := 218) C dL_isAdded_217 rfl rfl ?_
          refine g_iload (n := 220) C dL_isAdded_218 rfl rfl ?_
          refine g_if_le (n := 223) (tgt := 228) C dL_isAdded_220 (by decide) rfl (fun h220 => absurd h220 (fun z => by have := gn_ge (b := 0) z (by omega) (by decide); omega)) (fun h220 => ?_)
          refine g_iload (n := 225) C dL_isAdded_223 rfl rfl ?_
          refine g_goto (tgt := 231) C dL_isAdded_225 (by decide) ?_
          refine g_iast (n := 232) C dL_isAdded_231 ⟨List.mem_append_right _ (List.mem_singleton.mpr rfl), hg2⟩ rfl (by exact hth.1) (by decide) rfl ?_
          refine g_iload (n := 234) C dL_isAdded_232 rfl rfl ?_
          refine g_zret C hr rfl dL_isAdded_234 ?_ ⟨by first | omega | (simp only [gRm]; omega), by first | omega | (simp only [gRm]; omega)⟩
          exact ⟨rfl, L2, _, rfl, hga2, va_up_self _ _ _, n, PR, PL, S, _, I, h2.ext (fun a ha => va_up_ne _ _ (fun z => hga2 (z ▸ ha))), hi.ag hpar addA_ag, addA_39 hgA⟩
        · have hm10 : m = 10 := gn_inj (by omega) (by decide) h174
          refine g_bipush (n := 179) (v := -10) C dL_isAdded_177 rfl rfl ?_
          refine g_goto (tgt := 187) C dL_isAdded_179 (by decide) ?_
          refine g_istore (n := 189) (ls' := [_, _, _, _, _, _, _, _, _, _, _]) C dL_isAdded_187 rfl (by decide) rfl ?_
          refine g_aload_n (n := 190) C dL_isAdded_189 rfl (Or.inr ⟨_, rfl⟩) rfl ?_
          refine g_iload_n (n := 191) C dL_isAdded_190 rfl rfl ?_
          refine g_iload_n (n := 192) C dL_isAdded_191 rfl rfl ?_
          refine g_iload (n := 194) C dL_isAdded_192 rfl rfl ?_
          refine g_iload (n := 196) C dL_isAdded_194 rfl rfl ?_
          refine g_SH (n := 199) (rest := []) C (tn_addRun_S hE hl hN (h.up [ga]) (x := nI x) (y := nI a) (z := nI b) ⟨⟨x, hth.1, rfl⟩, ⟨a, hth.2.1, rfl⟩, ⟨b, hth.2.2, rfl⟩⟩ (fun z => z x hth.1 rfl (by rw [hgA x hth.1, hm, hm10]))) dL_isAdded_196 kH_adds kW_L_128 kT_adds rfl rfl (Nat.le_of_ble_eq_true rfl) ⟨by decide, by decide⟩ ⟨by first | omega | (simp only [gRm]; omega), by first | omega | (simp only [gRm]; omega)⟩ rfl (fun v9 L9 f9 hq => ?_)
          obtain ⟨rfl, rfl, rfl⟩ := hq
          refine G.sk (st' := [_]) rfl ?_
          refine g_iload (n := 201) C dL_isAdded_199 rfl rfl ?_
          refine g_icmp_ne (n := 204) (tgt := 208) C dL_isAdded_201 (by decide) rfl (fun h201 => absurd rfl h201) (fun h201 => ?_)
          refine g_iconst (n := 205) (v := nI 1) C dL_isAdded_204 rfl rfl ?_
          refine g_goto (tgt := 209) C dL_isAdded_205 (by decide) ?_
          refine g_istore (n := 211) (ls' := [_, _, _, _, _, _, _, _, _, _, _]) C dL_isAdded_209 rfl (by decide) rfl ?_
          refine g_iload (n := 213) C dL_isAdded_211 rfl rfl ?_
          refine g_if_eq (n := 216) (tgt := 232) C dL_isAdded_213 (by decide) rfl (fun h213 => absurd h213 (cdb_y h6 hth.1)) (fun h213 => ?_)
          have hx4 := cdb_1 h6 h213
          refine g_aload_n (n := 217) C dL_isAdded_216 rfl (Or.inr ⟨_, rfl⟩) rfl ?_
          refine g_iload_n (n := 218) C dL_isAdded_217 rfl rfl ?_
          refine g_iload (n := 220) C dL_isAdded_218 rfl rfl ?_
          refine g_if_le (n := 223) (tgt := 228) C dL_isAdded_220 (by decide) rfl (fun h220 => ?_) (fun h220 => absurd (by decide) h220)
          refine g_aload_n (n := 229) C dL_isAdded_228 rfl (Or.inr ⟨_, rfl⟩) rfl ?_
          refine g_iload_n (n := 230) C dL_isAdded_229 rfl rfl ?_
          refine g_iald (n := 231) C dL_isAdded_230 ⟨List.mem_append_right _ (List.mem_singleton.mpr rfl), hg⟩ rfl (by first | exact hx4 | exact hth.1) (by decide) rfl ?_
          refine g_iast (n := 232) C dL_isAdded_231 ⟨List.mem_append_right _ (List.mem_singleton.mpr rfl), hg⟩ rfl (by first | exact hx4 | exact hth.1) (by decide) rfl ?_
          refine g_iload (n := 234) C dL_isAdded_232 rfl rfl ?_
          refine g_zret C hr rfl dL_isAdded_234 ?_ ⟨by first | omega | (simp only [gRm]; omega), by first | omega | (simp only [gRm]; omega)⟩
          first
          | exact ⟨rfl, Lc, g, rfl, hga, hg, n, PR, PL, S, A, I, h, hi, hgA⟩
          | exact ⟨rfl, Lc, upd g x (g x), rfl, hga, va_up_self _ _ _, n, PR, PL, S, A, I, h.ext (fun a ha => va_up_ne _ _ (fun z => hga (z ▸ ha))), hi, fun i hi4 => by rw [upd_same]; exact hgA i hi4⟩
      · have hnt := cdb_0 h7 h151
        refine g_bipush (n := 156) (v := -30) C dL_isAdded_154 rfl rfl ?_
        refine g_goto (tgt := 187) C dL_isAdded_156 (by decide) ?_
        refine g_istore (n := 189) (ls' := [_, _, _, _, _, _, _, _, _, _, _]) C dL_isAdded_187 rfl (by decide) rfl ?_
        refine g_aload_n (n := 190) C dL_isAdded_189 rfl (Or.inr ⟨_, rfl⟩) rfl ?_
        refine g_iload_n (n := 191) C dL_isAdded_190 rfl rfl ?_
        refine g_iload_n (n := 192) C dL_isAdded_191 rfl rfl ?_
        refine g_iload (n := 194) C dL_isAdded_192 rfl rfl ?_
        refine g_iload (n := 196) C dL_isAdded_194 rfl rfl ?_
        refine g_SH (n := 199) (rest := []) C (tn_addRun_I hE hl hN (h.up [ga]) (x := nI x) (y := nI a) (z := nI b) (fun z => hnt (by obtain ⟨⟨i1, q1, e1⟩, ⟨i2, q2, e2⟩, ⟨i3, q3, e3⟩⟩ := z; exact ⟨by have := gn_inj hx9 (by omega) e1; omega, by have := gn_inj ha9 (by omega) e2; omega, by have := gn_inj hb9 (by omega) e3; omega⟩))) dL_isAdded_196 kH_adds kW_L_128 kT_adds rfl rfl (Nat.le_of_ble_eq_true rfl) ⟨by decide, by decide⟩ ⟨by first | omega | (simp only [gRm]; omega), by first | omega | (simp only [gRm]; omega)⟩ rfl (fun v9 L9 f9 hq => ?_)
        obtain ⟨rfl, rfl, rfl⟩ := hq
        refine G.sk (st' := [_]) rfl ?_
        refine g_iload (n := 201) C dL_isAdded_199 rfl rfl ?_
        refine g_icmp_ne (n := 204) (tgt := 208) C dL_isAdded_201 (by decide) rfl (fun h201 => absurd rfl h201) (fun h201 => ?_)
        refine g_iconst (n := 205) (v := nI 1) C dL_isAdded_204 rfl rfl ?_
        refine g_goto (tgt := 209) C dL_isAdded_205 (by decide) ?_
        refine g_istore (n := 211) (ls' := [_, _, _, _, _, _, _, _, _, _, _]) C dL_isAdded_209 rfl (by decide) rfl ?_
        refine g_iload (n := 213) C dL_isAdded_211 rfl rfl ?_
        refine g_if_eq (n := 216) (tgt := 232) C dL_isAdded_213 (by decide) rfl (fun h213 => ?_) (fun h213 => ?_)
        · skip
          refine g_iload (n := 234) C dL_isAdded_232 rfl rfl ?_
          refine g_zret C hr rfl dL_isAdded_234 ?_ ⟨by first | omega | (simp only [gRm]; omega), by first | omega | (simp only [gRm]; omega)⟩
          first
          | exact ⟨rfl, Lc, g, rfl, hga, hg, n, PR, PL, S, A, I, h, hi, hgA⟩
          | exact ⟨rfl, Lc, upd g x (g x), rfl, hga, va_up_self _ _ _, n, PR, PL, S, A, I, h.ext (fun a ha => va_up_ne _ _ (fun z => hga (z ▸ ha))), hi, fun i hi4 => by rw [upd_same]; exact hgA i hi4⟩
        · have hx4 := cdb_1 h6 h213
          refine g_aload_n (n := 217) C dL_isAdded_216 rfl (Or.inr ⟨_, rfl⟩) rfl ?_
          refine g_iload_n (n := 218) C dL_isAdded_217 rfl rfl ?_
          refine g_iload (n := 220) C dL_isAdded_218 rfl rfl ?_
          refine g_if_le (n := 223) (tgt := 228) C dL_isAdded_220 (by decide) rfl (fun h220 => ?_) (fun h220 => absurd (by decide) h220)
          refine g_aload_n (n := 229) C dL_isAdded_228 rfl (Or.inr ⟨_, rfl⟩) rfl ?_
          refine g_iload_n (n := 230) C dL_isAdded_229 rfl rfl ?_
          refine g_iald (n := 231) C dL_isAdded_230 ⟨List.mem_append_right _ (List.mem_singleton.mpr rfl), hg⟩ rfl (by first | exact hx4 | exact hth.1) (by decide) rfl ?_
          refine g_iast (n := 232) C dL_isAdded_231 ⟨List.mem_append_right _ (List.mem_singleton.mpr rfl), hg⟩ rfl (by first | exact hx4 | exact hth.1) (by decide) rfl ?_
          refine g_iload (n := 234) C dL_isAdded_232 rfl rfl ?_
          refine g_zret C hr rfl dL_isAdded_234 ?_ ⟨by first | omega | (simp only [gRm]; omega), by first | omega | (simp only [gRm]; omega)⟩
          first
          | exact ⟨rfl, Lc, g, rfl, hga, hg, n, PR, PL, S, A, I, h, hi, hgA⟩
          | exact ⟨rfl, Lc, upd g x (g x), rfl, hga, va_up_self _ _ _, n, PR, PL, S, A, I, h.ext (fun a ha => va_up_ne _ _ (fun z => hga (z ▸ ha))), hi, fun i hi4 => by rw [upd_same]; exact hgA i hi4⟩
theorem l_isAdded_2 {l : Launch} {s0 : State} {D : va_G} {cy : Nat → ClassId} (hE : gE s0 D cy) (hl : l.stackTraces = false) {f : gF} (hN : gN9 s0) {co n : Nat} {PR PL : Nat → Nat} {S A : Nat → Nat → Int32} {I : Nat → Int32} {Lc : List Nat} {ga : Nat} {g : Nat → Int32} (h : CX cy co n PR PL S A I Lc f) (hi : INV A n PR S) (hga : ga ∉ Lc) (hg : f ga = .inl (cy 0, 4, .inl g)) (hgA : ∀ i, i < 4 → A 3 i = g i) {x a b : Nat} (hx9 : x < 2 ^ 31) (ha9 : a < 2 ^ 31) (hb9 : b < 2 ^ 31) : gM l s0 D yL_isAdded cL_isAdded 11 (some .boolean) 11 6 30 [.ref co, .ref ga, .int (nI 2), .int (nI x), .int (nI a), .int (nI b)] (Lc ++ [ga]) f (fun v L1 f1 => v = some (.int 1) ∧ GWo cy co ga L1 f1) := by
  refine gM.of (own := RL) hE hl (by decide +kernel) rfl rfl (Nat.le_of_ble_eq_true rfl) (fun p9 e9 s9 m9 a99 b99 t99 c9 C hr hnm => ?_)
  refine G.weak (ls' := [some (.ref co), some (.ref ga), some (.int (nI 2)), some (.int (nI x)), some (.int (nI a)), some (.int (nI b)), none, none, none, none, none]) ?_ rfl (fun _ _ h => h)
  obtain ⟨i7, hn9, hPR, hsh, hpl, hpb, hlv⟩ := h.nv
  have hpar : ∀ k, k < n → PR k ≤ k := fun k hk => (hPR k hk).1
  refine g_cut (α := Nat × Nat) (fun z => cdb (x < 4) z.2 ∧ cdb (x < 4 ∧ a < 12 ∧ b < 12) z.1) (fun _ => Lc ++ [ga]) (fun _ => f) (fun _ => 0) (fun _ => 0) 107 (fun z => [some (.ref co), some (.ref ga), some (.int (nI 2)), some (.int (nI x)), some (.int (nI a)), some (.int (nI b)), some (.int (nI z.2)), none, none, none, none]) (fun z => [.int (nI z.1)]) (fun J => ?_) (fun z hz => ?_)
  · refine g_iload_n (n := 1) C dL_isAdded_0 rfl rfl ?_
    refine g_iconst (n := 2) (v := nI 4) C dL_isAdded_1 rfl rfl ?_
    refine g_icmp_ge (n := 5) (tgt := 9) C dL_isAdded_2 (by decide) rfl (fun h2 => ?_) (fun h2 => ?_)
    · have hx4 : ¬ x < 4 := by have := gn_ge h2 (by decide) hx9; omega
      refine g_iconst (n := 10) (v := nI 0) C dL_isAdded_9 rfl rfl ?_
      refine g_istore (n := 12) (ls' := [_, _, _, _, _, _, _, _, _, _, _]) C dL_isAdded_10 rfl (by decide) rfl ?_
      refine g_iload (n := 14) C dL_isAdded_12 rfl rfl ?_
      refine g_if_eq (n := 17) (tgt := 106) C dL_isAdded_14 (by decide) rfl (fun h14 => ?_) (fun h14 => absurd (by decide) h14)
      refine g_iconst (n := 107) (v := nI 0) C dL_isAdded_106 rfl rfl ?_
      first
      | exact J (1, 1) ⟨Or.inl ⟨rfl, hx4⟩, Or.inl ⟨rfl, hx4, hca, hcb⟩⟩
      | exact J (0, 1) ⟨Or.inl ⟨rfl, hx4⟩, Or.inr ⟨rfl, fun z => by omega⟩⟩
      | exact J (0, 0) ⟨Or.inr ⟨rfl, hx4⟩, Or.inr ⟨rfl, fun z => by omega⟩⟩
    · have hx4 : x < 4 := gn_gt h2 (by decide) hx9
      refine g_iconst (n := 6) (v := nI 1) C dL_isAdded_5 rfl rfl ?_
      refine g_goto (tgt := 10) C dL_isAdded_6 (by decide) ?_
      refine g_istore (n := 12) (ls' := [_, _, _, _, _, _, _, _, _, _, _]) C dL_isAdded_10 rfl (by decide) rfl ?_
      refine g_iload (n := 14) C dL_isAdded_12 rfl rfl ?_
      refine g_if_eq (n := 17) (tgt := 106) C dL_isAdded_14 (by decide) rfl (fun h14 => absurd h14 (by decide)) (fun h14 => ?_)
      refine g_iload_n (n := 18) C dL_isAdded_17 rfl rfl ?_
      refine g_if_ne (n := 21) (tgt := 38) C dL_isAdded_18 (by decide) rfl (fun h18 => ?_) (fun h18 => (by first | exact absurd h18 (by decide) | exact (h18 (by decide)).elim))
      refine g_iload_n (n := 39) C dL_isAdded_38 rfl rfl ?_
      refine g_iconst (n := 40) (v := nI 1) C dL_isAdded_39 rfl rfl ?_
      refine g_icmp_ne (n := 43) (tgt := 59) C dL_isAdded_40 (by decide) rfl (fun h40 => ?_) (fun h40 => (by first | exact absurd h40 (by decide) | exact (h40 (by decide)).elim))
      refine g_iload_n (n := 60) C dL_isAdded_59 rfl rfl ?_
      refine g_iconst (n := 61) (v := nI 2) C dL_isAdded_60 rfl rfl ?_
      refine g_icmp_ne (n := 64) (tgt := 81) C dL_isAdded_61 (by decide) rfl (fun h61 => (by first | exact absurd h61 (by decide) | exact (h61 (by decide)).elim)) (fun h61 => ?_)
      refine g_iload (n := 66) C dL_isAdded_64 rfl rfl ?_
      refine g_bipush (n := 68) (v := nI 12) C dL_isAdded_66 rfl rfl ?_
      refine g_icmp_ge (n := 71) (tgt := 106) C dL_isAdded_68 (by decide) rfl (fun h68 => ?_) (fun h68 => ?_)
      · have hca : ¬ a < 12 := by have := gn_ge h68 (by decide) ha9; omega
        refine g_iconst (n := 107) (v := nI 0) C dL_isAdded_106 rfl rfl ?_
        first
        | exact J (1, 1) ⟨Or.inl ⟨rfl, hx4⟩, Or.inl ⟨rfl, hx4, hca, hcb⟩⟩
        | exact J (0, 1) ⟨Or.inl ⟨rfl, hx4⟩, Or.inr ⟨rfl, fun z => by omega⟩⟩
        | exact J (0, 0) ⟨Or.inr ⟨rfl, hx4⟩, Or.inr ⟨rfl, fun z => by omega⟩⟩
      · have hca : a < 12 := gn_gt h68 (by decide) ha9
        refine g_iload (n := 73) C dL_isAdded_71 rfl rfl ?_
        refine g_bipush (n := 75) (v := nI 12) C dL_isAdded_73 rfl rfl ?_
        refine g_icmp_ge (n := 78) (tgt := 106) C dL_isAdded_75 (by decide) rfl (fun h75 => ?_) (fun h75 => ?_)
        · have hcb : ¬ b < 12 := by have := gn_ge h75 (by decide) hb9; omega
          refine g_iconst (n := 107) (v := nI 0) C dL_isAdded_106 rfl rfl ?_
          first
          | exact J (1, 1) ⟨Or.inl ⟨rfl, hx4⟩, Or.inl ⟨rfl, hx4, hca, hcb⟩⟩
          | exact J (0, 1) ⟨Or.inl ⟨rfl, hx4⟩, Or.inr ⟨rfl, fun z => by omega⟩⟩
          | exact J (0, 0) ⟨Or.inr ⟨rfl, hx4⟩, Or.inr ⟨rfl, fun z => by omega⟩⟩
        · have hcb : b < 12 := gn_gt h75 (by decide) hb9
          refine g_goto (tgt := 102) C dL_isAdded_78 (by decide) ?_
          refine g_iconst (n := 103) (v := nI 1) C dL_isAdded_102 rfl rfl ?_
          refine g_goto (tgt := 107) C dL_isAdded_103 (by decide) ?_
          first
          | exact J (1, 1) ⟨Or.inl ⟨rfl, hx4⟩, Or.inl ⟨rfl, hx4, hca, hcb⟩⟩
          | exact J (0, 1) ⟨Or.inl ⟨rfl, hx4⟩, Or.inr ⟨rfl, fun z => by omega⟩⟩
          | exact J (0, 0) ⟨Or.inr ⟨rfl, hx4⟩, Or.inr ⟨rfl, fun z => by omega⟩⟩
  · obtain ⟨w7, w6⟩ := z
    obtain ⟨h6, h7⟩ := hz
    dsimp only at h6 h7 ⊢
    refine g_cut (α := Nat) (fun w8 => cdb (a ≠ b) w8) (fun _ => Lc ++ [ga]) (fun _ => f) (fun _ => 0) (fun _ => 0) 147 (fun _ => [some (.ref co), some (.ref ga), some (.int (nI 2)), some (.int (nI x)), some (.int (nI a)), some (.int (nI b)), some (.int (nI w6)), some (.int (nI w7)), none, none, none]) (fun w8 => [.int (nI w8)]) (fun J => ?_) (fun w8 h8 => ?_)
    · refine g_istore (n := 109) (ls' := [_, _, _, _, _, _, _, _, _, _, _]) C dL_isAdded_107 rfl (by decide) rfl ?_
      refine g_iload_n (n := 110) C dL_isAdded_109 rfl rfl ?_
      refine g_iconst (n := 111) (v := nI 2) C dL_isAdded_110 rfl rfl ?_
      refine g_icmp_lt (n := 114) (tgt := 142) C dL_isAdded_111 (by decide) rfl (fun h111 => (by first | exact absurd h111 (by decide) | exact (h111 (by decide)).elim)) (fun h111 => ?_)
      refine g_iload_n (n := 115) C dL_isAdded_114 rfl rfl ?_
      refine g_iconst (n := 116) (v := nI 3) C dL_isAdded_115 rfl rfl ?_
      refine g_icmp_eq (n := 119) (tgt := 142) C dL_isAdded_116 (by decide) rfl (fun h116 => (by first | exact absurd h116 (by decide) | exact (h116 (by decide)).elim)) (fun h116 => ?_)
      refine g_iload_n (n := 120) C dL_isAdded_119 rfl rfl ?_
      refine g_iconst (n := 121) (v := nI 2) C dL_isAdded_120 rfl rfl ?_
      refine g_icmp_ne (n := 124) (tgt := 134) C dL_isAdded_121 (by decide) rfl (fun h121 => (by first | exact absurd h121 (by decide) | exact (h121 (by decide)).elim)) (fun h121 => ?_)
      refine g_iload (n := 126) C dL_isAdded_124 rfl rfl ?_
      refine g_iload (n := 128) C dL_isAdded_126 rfl rfl ?_
      refine g_icmp_eq (n := 131) (tgt := 146) C dL_isAdded_128 (by decide) rfl (fun h128 => ?_) (fun h128 => ?_)
      · have hrt : ¬ a ≠ b := fun z => z (gn_inj ha9 hb9 h128)
        refine g_iconst (n := 147) (v := nI 0) C dL_isAdded_146 rfl rfl ?_
        first
        | exact J 1 (Or.inl ⟨rfl, trivial⟩)
        | exact J 1 (Or.inl ⟨rfl, hrt⟩)
        | exact J 0 (Or.inr ⟨rfl, hrt⟩)
      · have hrt : a ≠ b := fun z => h128 (by rw [z])
        refine g_goto (tgt := 142) C dL_isAdded_131 (by decide) ?_
        refine g_iconst (n := 143) (v := nI 1) C dL_isAdded_142 rfl rfl ?_
        refine g_goto (tgt := 147) C dL_isAdded_143 (by decide) ?_
        first
        | exact J 1 (Or.inl ⟨rfl, trivial⟩)
        | exact J 1 (Or.inl ⟨rfl, hrt⟩)
        | exact J 0 (Or.inr ⟨rfl, hrt⟩)
    · refine g_istore (n := 149) (ls' := [_, _, _, _, _, _, _, _, _, _, _]) C dL_isAdded_147 rfl (by decide) rfl ?_
      refine g_iload (n := 151) C dL_isAdded_149 rfl rfl ?_
      refine g_if_ne (n := 154) (tgt := 159) C dL_isAdded_151 (by decide) rfl (fun h151 => ?_) (fun h151 => ?_)
      · have hth := cdb_1 h7 h151
        refine g_iload (n := 161) C dL_isAdded_159 rfl rfl ?_
        refine g_if_ne (n := 164) (tgt := 169) C dL_isAdded_161 (by decide) rfl (fun h161 => ?_) (fun h161 => ?_)
        · have hrt := cdb_1 h8 h161
          refine g_aload_n (n := 170) C dL_isAdded_169 rfl (Or.inr ⟨_, rfl⟩) rfl ?_
          refine g_iload_n (n := 171) C dL_isAdded_170 rfl rfl ?_
          obtain ⟨m, bb, hm9, -, hm, -, -⟩ := h.rec9 x hth.1
          rw [hgA x hth.1] at hm
          refine g_iald (n := 172) C dL_isAdded_171 ⟨List.mem_append_right _ (List.mem_singleton.mpr rfl), hg⟩ rfl (by have := hth.1; omega) (by decide) rfl ?_
          rw [hm]
          refine g_bipush (n := 174) (v := nI 10) C dL_isAdded_172 rfl rfl ?_
          refine g_icmp_ne (n := 177) (tgt := 182) C dL_isAdded_174 (by decide) rfl (fun h174 => ?_) (fun h174 => ?_)
          · have hm9 : m < 10 := by
              rcases Nat.lt_or_ge m 10 with z | z
              · exact z
              · exact absurd (by rw [show m = 10 by omega]) h174
            refine g_aload_n (n := 183) C dL_isAdded_182 rfl (Or.inr ⟨_, rfl⟩) rfl ?_
            refine g_iload_n (n := 184) C dL_isAdded_183 rfl rfl ?_
            refine g_iald (n := 185) C dL_isAdded_184 ⟨List.mem_append_right _ (List.mem_singleton.mpr rfl), hg⟩ rfl (by have := hth.1; omega) (by decide) rfl ?_
            rw [hm]
            refine g_iconst (n := 186) (v := nI 1) C dL_isAdded_185 rfl rfl ?_
            refine g_iaddN (n := 187) C dL_isAdded_186 rfl ?_
            refine g_istore (n := 189) (ls' := [_, _, _, _, _, _, _, _, _, _, _]) C dL_isAdded_187 rfl (by decide) rfl ?_
            refine g_aload_n (n := 190) C dL_isAdded_189 rfl (Or.inr ⟨_, rfl⟩) rfl ?_
            refine g_iload_n (n := 191) C dL_isAdded_190 rfl rfl ?_
            refine g_iload_n (n := 192) C dL_isAdded_191 rfl rfl ?_
            refine g_iload (n := 194) C dL_isAdded_192 rfl rfl ?_
            refine g_iload (n := 196) C dL_isAdded_194 rfl rfl ?_
            refine g_SH (n := 199) (rest := []) C (gH9.g (t_addMove hE hl hN h hth.1 ((hgA x hth.1).trans hm) hm9 hth.2.1 hth.2.2 hrt) (fun _ _ _ z1 z2 => z1.ext z2) hg) dL_isAdded_196 kH_adds kW_L_128 kT_adds rfl rfl (Nat.le_of_ble_eq_true rfl) ⟨by decide, by decide⟩ ⟨by first | omega | (simp only [gRm]; omega), by first | omega | (simp only [gRm]; omega)⟩ rfl (fun v9 L9 f9 hq => ?_)
            obtain ⟨rfl, L2, rfl, hga2, h2, hg2⟩ := hq
            refine G.sk (st' := [_]) rfl ?_
            refine g_iload (n := 201) C dL_isAdded_199 rfl rfl ?_
            refine g_icmp_ne (n := 204) (tgt := 208) C dL_isAdded_201 (by decide) rfl (fun h201 => absurd rfl h201) (fun h201 => ?_)
            refine g_iconst (n := 205) (v := nI 1) C dL_isAdded_204 rfl rfl ?_
            refine g_goto (tgt := 209) C dL_isAdded_205 (by decide) ?_
            refine g_istore (n := 211) (ls' := [_, _, _, _, _, _, _, _, _, _, _]) C dL_isAdded_209 rfl (by decide) rfl ?_
            refine g_iload (n := 213) C dL_isAdded_211 rfl rfl ?_
            refine g_if_eq (n := 216) (tgt := 232) C dL_isAdded_213 (by decide) rfl (fun h213 => absurd h213 (cdb_y h6 hth.1)) (fun h213 => ?_)
            have hx4 := cdb_1 h6 h213
            refine g_aload_n (n := 217) C dL_isAdded_216 rfl (Or.inr ⟨_, rfl⟩) rfl ?_
            refine g_iload_n (n := 218) C dL_isAdded_217 rfl rfl ?_
            refine g_iload (n := 220) C dL_isAdded_218 rfl rfl ?_
            refine g_if_le (n := 223) (tgt := 228) C dL_isAdded_220 (by decide) rfl (fun h220 => absurd h220 (fun z => by have := gn_ge (b := 0) z (by omega) (by decide); omega)) (fun h220 => ?_)
            refine g_iload (n := 225) C dL_isAdded_223 rfl rfl ?_
            refine g_goto (tgt := 231) C dL_isAdded_225 (by decide) ?_
            refine g_iast (n := 232) C dL_isAdded_231 ⟨List.mem_append_right _ (List.mem_singleton.mpr rfl), hg2⟩ rfl (by exact hth.1) (by decide) rfl ?_
            refine g_iload (n := 234) C dL_isAdded_232 rfl rfl ?_
            refine g_zret C hr rfl dL_isAdded_234 ?_ ⟨by first | omega | (simp only [gRm]; omega), by first | omega | (simp only [gRm]; omega)⟩
            exact ⟨rfl, L2, _, rfl, hga2, va_up_self _ _ _, n, PR, PL, S, _, I, h2.ext (fun a ha => va_up_ne _ _ (fun z => hga2 (z ▸ ha))), hi.ag hpar addA_ag, addA_39 hgA⟩
          · have hm10 : m = 10 := gn_inj (by omega) (by decide) h174
            refine g_bipush (n := 179) (v := -10) C dL_isAdded_177 rfl rfl ?_
            refine g_goto (tgt := 187) C dL_isAdded_179 (by decide) ?_
            refine g_istore (n := 189) (ls' := [_, _, _, _, _, _, _, _, _, _, _]) C dL_isAdded_187 rfl (by decide) rfl ?_
            refine g_aload_n (n := 190) C dL_isAdded_189 rfl (Or.inr ⟨_, rfl⟩) rfl ?_
            refine g_iload_n (n := 191) C dL_isAdded_190 rfl rfl ?_
            refine g_iload_n (n := 192) C dL_isAdded_191 rfl rfl ?_
            refine g_iload (n := 194) C dL_isAdded_192 rfl rfl ?_
            refine g_iload (n := 196) C dL_isAdded_194 rfl rfl ?_
            refine g_SH (n := 199) (rest := []) C (tn_addMove_S hE hl hN (h.up [ga]) (x := nI x) (y := nI a) (z := nI b) ⟨⟨x, hth.1, rfl⟩, ⟨a, hth.2.1, rfl⟩, ⟨b, hth.2.2, rfl⟩⟩ (fun z => hrt (gn_inj ha9 hb9 z)) (fun z => z x hth.1 rfl (by rw [hgA x hth.1, hm, hm10]))) dL_isAdded_196 kH_adds kW_L_128 kT_adds rfl rfl (Nat.le_of_ble_eq_true rfl) ⟨by decide, by decide⟩ ⟨by first | omega | (simp only [gRm]; omega), by first | omega | (simp only [gRm]; omega)⟩ rfl (fun v9 L9 f9 hq => ?_)
            obtain ⟨rfl, rfl, rfl⟩ := hq
            refine G.sk (st' := [_]) rfl ?_
            refine g_iload (n := 201) C dL_isAdded_199 rfl rfl ?_
            refine g_icmp_ne (n := 204) (tgt := 208) C dL_isAdded_201 (by decide) rfl (fun h201 => absurd rfl h201) (fun h201 => ?_)
            refine g_iconst (n := 205) (v := nI 1) C dL_isAdded_204 rfl rfl ?_
            refine g_goto (tgt := 209) C dL_isAdded_205 (by decide) ?_
            refine g_istore (n := 211) (ls' := [_, _, _, _, _, _, _, _, _, _, _]) C dL_isAdded_209 rfl (by decide) rfl ?_
            refine g_iload (n := 213) C dL_isAdded_211 rfl rfl ?_
            refine g_if_eq (n := 216) (tgt := 232) C dL_isAdded_213 (by decide) rfl (fun h213 => absurd h213 (cdb_y h6 hth.1)) (fun h213 => ?_)
            have hx4 := cdb_1 h6 h213
            refine g_aload_n (n := 217) C dL_isAdded_216 rfl (Or.inr ⟨_, rfl⟩) rfl ?_
            refine g_iload_n (n := 218) C dL_isAdded_217 rfl rfl ?_
            refine g_iload (n := 220) C dL_isAdded_218 rfl rfl ?_
            refine g_if_le (n := 223) (tgt := 228) C dL_isAdded_220 (by decide) rfl (fun h220 => ?_) (fun h220 => absurd (by decide) h220)
            refine g_aload_n (n := 229) C dL_isAdded_228 rfl (Or.inr ⟨_, rfl⟩) rfl ?_
            refine g_iload_n (n := 230) C dL_isAdded_229 rfl rfl ?_
            refine g_iald (n := 231) C dL_isAdded_230 ⟨List.mem_append_right _ (List.mem_singleton.mpr rfl), hg⟩ rfl (by first | exact hx4 | exact hth.1) (by decide) rfl ?_
            refine g_iast (n := 232) C dL_isAdded_231 ⟨List.mem_append_right _ (List.mem_singleton.mpr rfl), hg⟩ rfl (by first | exact hx4 | exact hth.1) (by decide) rfl ?_
            refine g_iload (n := 234) C dL_isAdded_232 rfl rfl ?_
            refine g_zret C hr rfl dL_isAdded_234 ?_ ⟨by first | omega | (simp only [gRm]; omega), by first | omega | (simp only [gRm]; omega)⟩
            first
            | exact ⟨rfl, Lc, g, rfl, hga, hg, n, PR, PL, S, A, I, h, hi, hgA⟩
            | exact ⟨rfl, Lc, upd g x (g x), rfl, hga, va_up_self _ _ _, n, PR, PL, S, A, I, h.ext (fun a ha => va_up_ne _ _ (fun z => hga (z ▸ ha))), hi, fun i hi4 => by rw [upd_same]; exact hgA i hi4⟩
        · have hrt := cdb_0 h8 h161
          refine g_bipush (n := 166) (v := -20) C dL_isAdded_164 rfl rfl ?_
          refine g_goto (tgt := 187) C dL_isAdded_166 (by decide) ?_
          refine g_istore (n := 189) (ls' := [_, _, _, _, _, _, _, _, _, _, _]) C dL_isAdded_187 rfl (by decide) rfl ?_
          refine g_aload_n (n := 190) C dL_isAdded_189 rfl (Or.inr ⟨_, rfl⟩) rfl ?_
          refine g_iload_n (n := 191) C dL_isAdded_190 rfl rfl ?_
          refine g_iload_n (n := 192) C dL_isAdded_191 rfl rfl ?_
          refine g_iload (n := 194) C dL_isAdded_192 rfl rfl ?_
          refine g_iload (n := 196) C dL_isAdded_194 rfl rfl ?_
          refine g_SH (n := 199) (rest := []) C (tn_addMove_A hE hl hN (h.up [ga]) (x := nI x) (y := nI a) (z := nI b) ⟨⟨x, hth.1, rfl⟩, ⟨a, hth.2.1, rfl⟩, ⟨b, hth.2.2, rfl⟩⟩ (fun z => hrt (fun y => z (by rw [y])))) dL_isAdded_196 kH_adds kW_L_128 kT_adds rfl rfl (Nat.le_of_ble_eq_true rfl) ⟨by decide, by decide⟩ ⟨by first | omega | (simp only [gRm]; omega), by first | omega | (simp only [gRm]; omega)⟩ rfl (fun v9 L9 f9 hq => ?_)
          obtain ⟨rfl, rfl, rfl⟩ := hq
          refine G.sk (st' := [_]) rfl ?_
          refine g_iload (n := 201) C dL_isAdded_199 rfl rfl ?_
          refine g_icmp_ne (n := 204) (tgt := 208) C dL_isAdded_201 (by decide) rfl (fun h201 => absurd rfl h201) (fun h201 => ?_)
          refine g_iconst (n := 205) (v := nI 1) C dL_isAdded_204 rfl rfl ?_
          refine g_goto (tgt := 209) C dL_isAdded_205 (by decide) ?_
          refine g_istore (n := 211) (ls' := [_, _, _, _, _, _, _, _, _, _, _]) C dL_isAdded_209 rfl (by decide) rfl ?_
          refine g_iload (n := 213) C dL_isAdded_211 rfl rfl ?_
          refine g_if_eq (n := 216) (tgt := 232) C dL_isAdded_213 (by decide) rfl (fun h213 => absurd h213 (cdb_y h6 hth.1)) (fun h213 => ?_)
          have hx4 := cdb_1 h6 h213
          refine g_aload_n (n := 217) C dL_isAdded_216 rfl (Or.inr ⟨_, rfl⟩) rfl ?_
          refine g_iload_n (n := 218) C dL_isAdded_217 rfl rfl ?_
          refine g_iload (n := 220) C dL_isAdded_218 rfl rfl ?_
          refine g_if_le (n := 223) (tgt := 228) C dL_isAdded_220 (by decide) rfl (fun h220 => ?_) (fun h220 => absurd (by decide) h220)
          refine g_aload_n (n := 229) C dL_isAdded_228 rfl (Or.inr ⟨_, rfl⟩) rfl ?_
          refine g_iload_n (n := 230) C dL_isAdded_229 rfl rfl ?_
          refine g_iald (n := 231) C dL_isAdded_230 ⟨List.mem_append_right _ (List.mem_singleton.mpr rfl), hg⟩ rfl (by first | exact hx4 | exact hth.1) (by decide) rfl ?_
          refine g_iast (n := 232) C dL_isAdded_231 ⟨List.mem_append_right _ (List.mem_singleton.mpr rfl), hg⟩ rfl (by first | exact hx4 | exact hth.1) (by decide) rfl ?_
          refine g_iload (n := 234) C dL_isAdded_232 rfl rfl ?_
          refine g_zret C hr rfl dL_isAdded_234 ?_ ⟨by first | omega | (simp only [gRm]; omega), by first | omega | (simp only [gRm]; omega)⟩
          first
          | exact ⟨rfl, Lc, g, rfl, hga, hg, n, PR, PL, S, A, I, h, hi, hgA⟩
          | exact ⟨rfl, Lc, upd g x (g x), rfl, hga, va_up_self _ _ _, n, PR, PL, S, A, I, h.ext (fun a ha => va_up_ne _ _ (fun z => hga (z ▸ ha))), hi, fun i hi4 => by rw [upd_same]; exact hgA i hi4⟩
      · have hnt := cdb_0 h7 h151
        refine g_bipush (n := 156) (v := -30) C dL_isAdded_154 rfl rfl ?_
        refine g_goto (tgt := 187) C dL_isAdded_156 (by decide) ?_
        refine g_istore (n := 189) (ls' := [_, _, _, _, _, _, _, _, _, _, _]) C dL_isAdded_187 rfl (by decide) rfl ?_
        refine g_aload_n (n := 190) C dL_isAdded_189 rfl (Or.inr ⟨_, rfl⟩) rfl ?_
        refine g_iload_n (n := 191) C dL_isAdded_190 rfl rfl ?_
        refine g_iload_n (n := 192) C dL_isAdded_191 rfl rfl ?_
        refine g_iload (n := 194) C dL_isAdded_192 rfl rfl ?_
        refine g_iload (n := 196) C dL_isAdded_194 rfl rfl ?_
        refine g_SH (n := 199) (rest := []) C (tn_addMove_I hE hl hN (h.up [ga]) (x := nI x) (y := nI a) (z := nI b) (fun z => hnt (by obtain ⟨⟨i1, q1, e1⟩, ⟨i2, q2, e2⟩, ⟨i3, q3, e3⟩⟩ := z; exact ⟨by have := gn_inj hx9 (by omega) e1; omega, by have := gn_inj ha9 (by omega) e2; omega, by have := gn_inj hb9 (by omega) e3; omega⟩))) dL_isAdded_196 kH_adds kW_L_128 kT_adds rfl rfl (Nat.le_of_ble_eq_true rfl) ⟨by decide, by decide⟩ ⟨by first | omega | (simp only [gRm]; omega), by first | omega | (simp only [gRm]; omega)⟩ rfl (fun v9 L9 f9 hq => ?_)
        obtain ⟨rfl, rfl, rfl⟩ := hq
        refine G.sk (st' := [_]) rfl ?_
        refine g_iload (n := 201) C dL_isAdded_199 rfl rfl ?_
        refine g_icmp_ne (n := 204) (tgt := 208) C dL_isAdded_201 (by decide) rfl (fun h201 => absurd rfl h201) (fun h201 => ?_)
        refine g_iconst (n := 205) (v := nI 1) C dL_isAdded_204 rfl rfl ?_
        refine g_goto (tgt := 209) C dL_isAdded_205 (by decide) ?_
        refine g_istore (n := 211) (ls' := [_, _, _, _, _, _, _, _, _, _, _]) C dL_isAdded_209 rfl (by decide) rfl ?_
        refine g_iload (n := 213) C dL_isAdded_211 rfl rfl ?_
        refine g_if_eq (n := 216) (tgt := 232) C dL_isAdded_213 (by decide) rfl (fun h213 => ?_) (fun h213 => ?_)
        · skip
          refine g_iload (n := 234) C dL_isAdded_232 rfl rfl ?_
          refine g_zret C hr rfl dL_isAdded_234 ?_ ⟨by first | omega | (simp only [gRm]; omega), by first | omega | (simp only [gRm]; omega)⟩
          first
          | exact ⟨rfl, Lc, g, rfl, hga, hg, n, PR, PL, S, A, I, h, hi, hgA⟩
          | exact ⟨rfl, Lc, upd g x (g x), rfl, hga, va_up_self _ _ _, n, PR, PL, S, A, I, h.ext (fun a ha => va_up_ne _ _ (fun z => hga (z ▸ ha))), hi, fun i hi4 => by rw [upd_same]; exact hgA i hi4⟩
        · have hx4 := cdb_1 h6 h213
          refine g_aload_n (n := 217) C dL_isAdded_216 rfl (Or.inr ⟨_, rfl⟩) rfl ?_
          refine g_iload_n (n := 218) C dL_isAdded_217 rfl rfl ?_
          refine g_iload (n := 220) C dL_isAdded_218 rfl rfl ?_
          refine g_if_le (n := 223) (tgt := 228) C dL_isAdded_220 (by decide) rfl (fun h220 => ?_) (fun h220 => absurd (by decide) h220)
          refine g_aload_n (n := 229) C dL_isAdded_228 rfl (Or.inr ⟨_, rfl⟩) rfl ?_
          refine g_iload_n (n := 230) C dL_isAdded_229 rfl rfl ?_
          refine g_iald (n := 231) C dL_isAdded_230 ⟨List.mem_append_right _ (List.mem_singleton.mpr rfl), hg⟩ rfl (by first | exact hx4 | exact hth.1) (by decide) rfl ?_
          refine g_iast (n := 232) C dL_isAdded_231 ⟨List.mem_append_right _ (List.mem_singleton.mpr rfl), hg⟩ rfl (by first | exact hx4 | exact hth.1) (by decide) rfl ?_
          refine g_iload (n := 234) C dL_isAdded_232 rfl rfl ?_
          refine g_zret C hr rfl dL_isAdded_234 ?_ ⟨by first | omega | (simp only [gRm]; omega), by first | omega | (simp only [gRm]; omega)⟩
          first
          | exact ⟨rfl, Lc, g, rfl, hga, hg, n, PR, PL, S, A, I, h, hi, hgA⟩
          | exact ⟨rfl, Lc, upd g x (g x), rfl, hga, va_up_self _ _ _, n, PR, PL, S, A, I, h.ext (fun a ha => va_up_ne _ _ (fun z => hga (z ▸ ha))), hi, fun i hi4 => by rw [upd_same]; exact hgA i hi4⟩
theorem l_isAdded_3 {l : Launch} {s0 : State} {D : va_G} {cy : Nat → ClassId} (hE : gE s0 D cy) (hl : l.stackTraces = false) {f : gF} (hN : gN9 s0) {co n : Nat} {PR PL : Nat → Nat} {S A : Nat → Nat → Int32} {I : Nat → Int32} {Lc : List Nat} {ga : Nat} {g : Nat → Int32} (h : CX cy co n PR PL S A I Lc f) (hi : INV A n PR S) (hga : ga ∉ Lc) (hg : f ga = .inl (cy 0, 4, .inl g)) (hgA : ∀ i, i < 4 → A 3 i = g i) {x a b : Nat} (hx9 : x < 2 ^ 31) (ha9 : a < 2 ^ 31) (hb9 : b < 2 ^ 31) : gM l s0 D yL_isAdded cL_isAdded 11 (some .boolean) 11 6 30 [.ref co, .ref ga, .int (nI 3), .int (nI x), .int (nI a), .int (nI b)] (Lc ++ [ga]) f (fun v L1 f1 => v = some (.int 1) ∧ GWo cy co ga L1 f1) := by
  refine gM.of (own := RL) hE hl (by decide +kernel) rfl rfl (Nat.le_of_ble_eq_true rfl) (fun p9 e9 s9 m9 a99 b99 t99 c9 C hr hnm => ?_)
  refine G.weak (ls' := [some (.ref co), some (.ref ga), some (.int (nI 3)), some (.int (nI x)), some (.int (nI a)), some (.int (nI b)), none, none, none, none, none]) ?_ rfl (fun _ _ h => h)
  obtain ⟨i7, hn9, hPR, hsh, hpl, hpb, hlv⟩ := h.nv
  have hpar : ∀ k, k < n → PR k ≤ k := fun k hk => (hPR k hk).1
  refine g_cut (α := Nat × Nat) (fun z => cdb (x < 4) z.2 ∧ cdb (x < 4 ∧ a < 12) z.1) (fun _ => Lc ++ [ga]) (fun _ => f) (fun _ => 0) (fun _ => 0) 107 (fun z => [some (.ref co), some (.ref ga), some (.int (nI 3)), some (.int (nI x)), some (.int (nI a)), some (.int (nI b)), some (.int (nI z.2)), none, none, none, none]) (fun z => [.int (nI z.1)]) (fun J => ?_) (fun z hz => ?_)
  · refine g_iload_n (n := 1) C dL_isAdded_0 rfl rfl ?_
    refine g_iconst (n := 2) (v := nI 4) C dL_isAdded_1 rfl rfl ?_
    refine g_icmp_ge (n := 5) (tgt := 9) C dL_isAdded_2 (by decide) rfl (fun h2 => ?_) (fun h2 => ?_)
    · have hx4 : ¬ x < 4 := by have := gn_ge h2 (by decide) hx9; omega
      refine g_iconst (n := 10) (v := nI 0) C dL_isAdded_9 rfl rfl ?_
      refine g_istore (n := 12) (ls' := [_, _, _, _, _, _, _, _, _, _, _]) C dL_isAdded_10 rfl (by decide) rfl ?_
      refine g_iload (n := 14) C dL_isAdded_12 rfl rfl ?_
      refine g_if_eq (n := 17) (tgt := 106) C dL_isAdded_14 (by decide) rfl (fun h14 => ?_) (fun h14 => absurd (by decide) h14)
      refine g_iconst (n := 107) (v := nI 0) C dL_isAdded_106 rfl rfl ?_
      first
      | exact J (1, 1) ⟨Or.inl ⟨rfl, hx4⟩, Or.inl ⟨rfl, hx4, hca⟩⟩
      | exact J (0, 1) ⟨Or.inl ⟨rfl, hx4⟩, Or.inr ⟨rfl, fun z => by omega⟩⟩
      | exact J (0, 0) ⟨Or.inr ⟨rfl, hx4⟩, Or.inr ⟨rfl, fun z => by omega⟩⟩
    · have hx4 : x < 4 := gn_gt h2 (by decide) hx9
      refine g_iconst (n := 6) (v := nI 1) C dL_isAdded_5 rfl rfl ?_
      refine g_goto (tgt := 10) C dL_isAdded_6 (by decide) ?_
      refine g_istore (n := 12) (ls' := [_, _, _, _, _, _, _, _, _, _, _]) C dL_isAdded_10 rfl (by decide) rfl ?_
      refine g_iload (n := 14) C dL_isAdded_12 rfl rfl ?_
      refine g_if_eq (n := 17) (tgt := 106) C dL_isAdded_14 (by decide) rfl (fun h14 => absurd h14 (by decide)) (fun h14 => ?_)
      refine g_iload_n (n := 18) C dL_isAdded_17 rfl rfl ?_
      refine g_if_ne (n := 21) (tgt := 38) C dL_isAdded_18 (by decide) rfl (fun h18 => ?_) (fun h18 => (by first | exact absurd h18 (by decide) | exact (h18 (by decide)).elim))
      refine g_iload_n (n := 39) C dL_isAdded_38 rfl rfl ?_
      refine g_iconst (n := 40) (v := nI 1) C dL_isAdded_39 rfl rfl ?_
      refine g_icmp_ne (n := 43) (tgt := 59) C dL_isAdded_40 (by decide) rfl (fun h40 => ?_) (fun h40 => (by first | exact absurd h40 (by decide) | exact (h40 (by decide)).elim))
      refine g_iload_n (n := 60) C dL_isAdded_59 rfl rfl ?_
      refine g_iconst (n := 61) (v := nI 2) C dL_isAdded_60 rfl rfl ?_
      refine g_icmp_ne (n := 64) (tgt := 81) C dL_isAdded_61 (by decide) rfl (fun h61 => ?_) (fun h61 => (by first | exact absurd h61 (by decide) | exact (h61 (by decide)).elim))
      refine g_iload_n (n := 82) C dL_isAdded_81 rfl rfl ?_
      refine g_iconst (n := 83) (v := nI 3) C dL_isAdded_82 rfl rfl ?_
      refine g_icmp_ne (n := 86) (tgt := 96) C dL_isAdded_83 (by decide) rfl (fun h83 => (by first | exact absurd h83 (by decide) | exact (h83 (by decide)).elim)) (fun h83 => ?_)
      refine g_iload (n := 88) C dL_isAdded_86 rfl rfl ?_
      refine g_bipush (n := 90) (v := nI 12) C dL_isAdded_88 rfl rfl ?_
      refine g_icmp_ge (n := 93) (tgt := 106) C dL_isAdded_90 (by decide) rfl (fun h90 => ?_) (fun h90 => ?_)
      · have hca : ¬ a < 12 := by have := gn_ge h90 (by decide) ha9; omega
        refine g_iconst (n := 107) (v := nI 0) C dL_isAdded_106 rfl rfl ?_
        first
        | exact J (1, 1) ⟨Or.inl ⟨rfl, hx4⟩, Or.inl ⟨rfl, hx4, hca⟩⟩
        | exact J (0, 1) ⟨Or.inl ⟨rfl, hx4⟩, Or.inr ⟨rfl, fun z => by omega⟩⟩
        | exact J (0, 0) ⟨Or.inr ⟨rfl, hx4⟩, Or.inr ⟨rfl, fun z => by omega⟩⟩
      · have hca : a < 12 := gn_gt h90 (by decide) ha9
        refine g_goto (tgt := 102) C dL_isAdded_93 (by decide) ?_
        refine g_iconst (n := 103) (v := nI 1) C dL_isAdded_102 rfl rfl ?_
        refine g_goto (tgt := 107) C dL_isAdded_103 (by decide) ?_
        first
        | exact J (1, 1) ⟨Or.inl ⟨rfl, hx4⟩, Or.inl ⟨rfl, hx4, hca⟩⟩
        | exact J (0, 1) ⟨Or.inl ⟨rfl, hx4⟩, Or.inr ⟨rfl, fun z => by omega⟩⟩
        | exact J (0, 0) ⟨Or.inr ⟨rfl, hx4⟩, Or.inr ⟨rfl, fun z => by omega⟩⟩
  · obtain ⟨w7, w6⟩ := z
    obtain ⟨h6, h7⟩ := hz
    dsimp only at h6 h7 ⊢
    refine g_cut (α := Nat) (fun w8 => cdb (True) w8) (fun _ => Lc ++ [ga]) (fun _ => f) (fun _ => 0) (fun _ => 0) 147 (fun _ => [some (.ref co), some (.ref ga), some (.int (nI 3)), some (.int (nI x)), some (.int (nI a)), some (.int (nI b)), some (.int (nI w6)), some (.int (nI w7)), none, none, none]) (fun w8 => [.int (nI w8)]) (fun J => ?_) (fun w8 h8 => ?_)
    · refine g_istore (n := 109) (ls' := [_, _, _, _, _, _, _, _, _, _, _]) C dL_isAdded_107 rfl (by decide) rfl ?_
      refine g_iload_n (n := 110) C dL_isAdded_109 rfl rfl ?_
      refine g_iconst (n := 111) (v := nI 2) C dL_isAdded_110 rfl rfl ?_
      refine g_icmp_lt (n := 114) (tgt := 142) C dL_isAdded_111 (by decide) rfl (fun h111 => (by first | exact absurd h111 (by decide) | exact (h111 (by decide)).elim)) (fun h111 => ?_)
      refine g_iload_n (n := 115) C dL_isAdded_114 rfl rfl ?_
      refine g_iconst (n := 116) (v := nI 3) C dL_isAdded_115 rfl rfl ?_
      refine g_icmp_eq (n := 119) (tgt := 142) C dL_isAdded_116 (by decide) rfl (fun h116 => ?_) (fun h116 => (by first | exact absurd h116 (by decide) | exact (h116 (by decide)).elim))
      refine g_iconst (n := 143) (v := nI 1) C dL_isAdded_142 rfl rfl ?_
      refine g_goto (tgt := 147) C dL_isAdded_143 (by decide) ?_
      first
      | exact J 1 (Or.inl ⟨rfl, trivial⟩)
      | exact J 1 (Or.inl ⟨rfl, hrt⟩)
      | exact J 0 (Or.inr ⟨rfl, hrt⟩)
    · refine g_istore (n := 149) (ls' := [_, _, _, _, _, _, _, _, _, _, _]) C dL_isAdded_147 rfl (by decide) rfl ?_
      refine g_iload (n := 151) C dL_isAdded_149 rfl rfl ?_
      refine g_if_ne (n := 154) (tgt := 159) C dL_isAdded_151 (by decide) rfl (fun h151 => ?_) (fun h151 => ?_)
      · have hth := cdb_1 h7 h151
        refine g_iload (n := 161) C dL_isAdded_159 rfl rfl ?_
        refine g_if_ne (n := 164) (tgt := 169) C dL_isAdded_161 (by decide) rfl (fun h161 => ?_) (fun h161 => absurd h161 (cdb_y h8 trivial))
        skip
        refine g_aload_n (n := 170) C dL_isAdded_169 rfl (Or.inr ⟨_, rfl⟩) rfl ?_
        refine g_iload_n (n := 171) C dL_isAdded_170 rfl rfl ?_
        obtain ⟨m, bb, hm9, -, hm, -, -⟩ := h.rec9 x hth.1
        rw [hgA x hth.1] at hm
        refine g_iald (n := 172) C dL_isAdded_171 ⟨List.mem_append_right _ (List.mem_singleton.mpr rfl), hg⟩ rfl (by have := hth.1; omega) (by decide) rfl ?_
        rw [hm]
        refine g_bipush (n := 174) (v := nI 10) C dL_isAdded_172 rfl rfl ?_
        refine g_icmp_ne (n := 177) (tgt := 182) C dL_isAdded_174 (by decide) rfl (fun h174 => ?_) (fun h174 => ?_)
        · have hm9 : m < 10 := by
            rcases Nat.lt_or_ge m 10 with z | z
            · exact z
            · exact absurd (by rw [show m = 10 by omega]) h174
          refine g_aload_n (n := 183) C dL_isAdded_182 rfl (Or.inr ⟨_, rfl⟩) rfl ?_
          refine g_iload_n (n := 184) C dL_isAdded_183 rfl rfl ?_
          refine g_iald (n := 185) C dL_isAdded_184 ⟨List.mem_append_right _ (List.mem_singleton.mpr rfl), hg⟩ rfl (by have := hth.1; omega) (by decide) rfl ?_
          rw [hm]
          refine g_iconst (n := 186) (v := nI 1) C dL_isAdded_185 rfl rfl ?_
          refine g_iaddN (n := 187) C dL_isAdded_186 rfl ?_
          refine g_istore (n := 189) (ls' := [_, _, _, _, _, _, _, _, _, _, _]) C dL_isAdded_187 rfl (by decide) rfl ?_
          refine g_aload_n (n := 190) C dL_isAdded_189 rfl (Or.inr ⟨_, rfl⟩) rfl ?_
          refine g_iload_n (n := 191) C dL_isAdded_190 rfl rfl ?_
          refine g_iload_n (n := 192) C dL_isAdded_191 rfl rfl ?_
          refine g_iload (n := 194) C dL_isAdded_192 rfl rfl ?_
          refine g_iload (n := 196) C dL_isAdded_194 rfl rfl ?_
          refine g_SH (n := 199) (rest := []) C (gH9.g (t_addRemove hE hl hN h hth.1 ((hgA x hth.1).trans hm) hm9 hth.2 (nI b)) (fun _ _ _ z1 z2 => z1.ext z2) hg) dL_isAdded_196 kH_adds kW_L_128 kT_adds rfl rfl (Nat.le_of_ble_eq_true rfl) ⟨by decide, by decide⟩ ⟨by first | omega | (simp only [gRm]; omega), by first | omega | (simp only [gRm]; omega)⟩ rfl (fun v9 L9 f9 hq => ?_)
          obtain ⟨rfl, L2, rfl, hga2, h2, hg2⟩ := hq
          refine G.sk (st' := [_]) rfl ?_
          refine g_iload (n := 201) C dL_isAdded_199 rfl rfl ?_
          refine g_icmp_ne (n := 204) (tgt := 208) C dL_isAdded_201 (by decide) rfl (fun h201 => absurd rfl h201) (fun h201 => ?_)
          refine g_iconst (n := 205) (v := nI 1) C dL_isAdded_204 rfl rfl ?_
          refine g_goto (tgt := 209) C dL_isAdded_205 (by decide) ?_
          refine g_istore (n := 211) (ls' := [_, _, _, _, _, _, _, _, _, _, _]) C dL_isAdded_209 rfl (by decide) rfl ?_
          refine g_iload (n := 213) C dL_isAdded_211 rfl rfl ?_
          refine g_if_eq (n := 216) (tgt := 232) C dL_isAdded_213 (by decide) rfl (fun h213 => absurd h213 (cdb_y h6 hth.1)) (fun h213 => ?_)
          have hx4 := cdb_1 h6 h213
          refine g_aload_n (n := 217) C dL_isAdded_216 rfl (Or.inr ⟨_, rfl⟩) rfl ?_
          refine g_iload_n (n := 218) C dL_isAdded_217 rfl rfl ?_
          refine g_iload (n := 220) C dL_isAdded_218 rfl rfl ?_
          refine g_if_le (n := 223) (tgt := 228) C dL_isAdded_220 (by decide) rfl (fun h220 => absurd h220 (fun z => by have := gn_ge (b := 0) z (by omega) (by decide); omega)) (fun h220 => ?_)
          refine g_iload (n := 225) C dL_isAdded_223 rfl rfl ?_
          refine g_goto (tgt := 231) C dL_isAdded_225 (by decide) ?_
          refine g_iast (n := 232) C dL_isAdded_231 ⟨List.mem_append_right _ (List.mem_singleton.mpr rfl), hg2⟩ rfl (by exact hth.1) (by decide) rfl ?_
          refine g_iload (n := 234) C dL_isAdded_232 rfl rfl ?_
          refine g_zret C hr rfl dL_isAdded_234 ?_ ⟨by first | omega | (simp only [gRm]; omega), by first | omega | (simp only [gRm]; omega)⟩
          exact ⟨rfl, L2, _, rfl, hga2, va_up_self _ _ _, n, PR, PL, S, _, I, h2.ext (fun a ha => va_up_ne _ _ (fun z => hga2 (z ▸ ha))), hi.ag hpar addA_ag, addA_39 hgA⟩
        · have hm10 : m = 10 := gn_inj (by omega) (by decide) h174
          refine g_bipush (n := 179) (v := -10) C dL_isAdded_177 rfl rfl ?_
          refine g_goto (tgt := 187) C dL_isAdded_179 (by decide) ?_
          refine g_istore (n := 189) (ls' := [_, _, _, _, _, _, _, _, _, _, _]) C dL_isAdded_187 rfl (by decide) rfl ?_
          refine g_aload_n (n := 190) C dL_isAdded_189 rfl (Or.inr ⟨_, rfl⟩) rfl ?_
          refine g_iload_n (n := 191) C dL_isAdded_190 rfl rfl ?_
          refine g_iload_n (n := 192) C dL_isAdded_191 rfl rfl ?_
          refine g_iload (n := 194) C dL_isAdded_192 rfl rfl ?_
          refine g_iload (n := 196) C dL_isAdded_194 rfl rfl ?_
          refine g_SH (n := 199) (rest := []) C (tn_addRemove_S hE hl hN (h.up [ga]) (x := nI x) (y := nI a) ⟨⟨x, hth.1, rfl⟩, ⟨a, hth.2, rfl⟩⟩ (fun z => z x hth.1 rfl (by rw [hgA x hth.1, hm, hm10])) (nI b)) dL_isAdded_196 kH_adds kW_L_128 kT_adds rfl rfl (Nat.le_of_ble_eq_true rfl) ⟨by decide, by decide⟩ ⟨by first | omega | (simp only [gRm]; omega), by first | omega | (simp only [gRm]; omega)⟩ rfl (fun v9 L9 f9 hq => ?_)
          obtain ⟨rfl, rfl, rfl⟩ := hq
          refine G.sk (st' := [_]) rfl ?_
          refine g_iload (n := 201) C dL_isAdded_199 rfl rfl ?_
          refine g_icmp_ne (n := 204) (tgt := 208) C dL_isAdded_201 (by decide) rfl (fun h201 => absurd rfl h201) (fun h201 => ?_)
          refine g_iconst (n := 205) (v := nI 1) C dL_isAdded_204 rfl rfl ?_
          refine g_goto (tgt := 209) C dL_isAdded_205 (by decide) ?_
          refine g_istore (n := 211) (ls' := [_, _, _, _, _, _, _, _, _, _, _]) C dL_isAdded_209 rfl (by decide) rfl ?_
          refine g_iload (n := 213) C dL_isAdded_211 rfl rfl ?_
          refine g_if_eq (n := 216) (tgt := 232) C dL_isAdded_213 (by decide) rfl (fun h213 => absurd h213 (cdb_y h6 hth.1)) (fun h213 => ?_)
          have hx4 := cdb_1 h6 h213
          refine g_aload_n (n := 217) C dL_isAdded_216 rfl (Or.inr ⟨_, rfl⟩) rfl ?_
          refine g_iload_n (n := 218) C dL_isAdded_217 rfl rfl ?_
          refine g_iload (n := 220) C dL_isAdded_218 rfl rfl ?_
          refine g_if_le (n := 223) (tgt := 228) C dL_isAdded_220 (by decide) rfl (fun h220 => ?_) (fun h220 => absurd (by decide) h220)
          refine g_aload_n (n := 229) C dL_isAdded_228 rfl (Or.inr ⟨_, rfl⟩) rfl ?_
          refine g_iload_n (n := 230) C dL_isAdded_229 rfl rfl ?_
          refine g_iald (n := 231) C dL_isAdded_230 ⟨List.mem_append_right _ (List.mem_singleton.mpr rfl), hg⟩ rfl (by first | exact hx4 | exact hth.1) (by decide) rfl ?_
          refine g_iast (n := 232) C dL_isAdded_231 ⟨List.mem_append_right _ (List.mem_singleton.mpr rfl), hg⟩ rfl (by first | exact hx4 | exact hth.1) (by decide) rfl ?_
          refine g_iload (n := 234) C dL_isAdded_232 rfl rfl ?_
          refine g_zret C hr rfl dL_isAdded_234 ?_ ⟨by first | omega | (simp only [gRm]; omega), by first | omega | (simp only [gRm]; omega)⟩
          first
          | exact ⟨rfl, Lc, g, rfl, hga, hg, n, PR, PL, S, A, I, h, hi, hgA⟩
          | exact ⟨rfl, Lc, upd g x (g x), rfl, hga, va_up_self _ _ _, n, PR, PL, S, A, I, h.ext (fun a ha => va_up_ne _ _ (fun z => hga (z ▸ ha))), hi, fun i hi4 => by rw [upd_same]; exact hgA i hi4⟩
      · have hnt := cdb_0 h7 h151
        refine g_bipush (n := 156) (v := -30) C dL_isAdded_154 rfl rfl ?_
        refine g_goto (tgt := 187) C dL_isAdded_156 (by decide) ?_
        refine g_istore (n := 189) (ls' := [_, _, _, _, _, _, _, _, _, _, _]) C dL_isAdded_187 rfl (by decide) rfl ?_
        refine g_aload_n (n := 190) C dL_isAdded_189 rfl (Or.inr ⟨_, rfl⟩) rfl ?_
        refine g_iload_n (n := 191) C dL_isAdded_190 rfl rfl ?_
        refine g_iload_n (n := 192) C dL_isAdded_191 rfl rfl ?_
        refine g_iload (n := 194) C dL_isAdded_192 rfl rfl ?_
        refine g_iload (n := 196) C dL_isAdded_194 rfl rfl ?_
        refine g_SH (n := 199) (rest := []) C (tn_addRemove_I hE hl hN (h.up [ga]) (x := nI x) (y := nI a) (fun z => hnt (by obtain ⟨⟨i1, q1, e1⟩, ⟨i2, q2, e2⟩⟩ := z; exact ⟨by have := gn_inj hx9 (by omega) e1; omega, by have := gn_inj ha9 (by omega) e2; omega⟩)) (nI b)) dL_isAdded_196 kH_adds kW_L_128 kT_adds rfl rfl (Nat.le_of_ble_eq_true rfl) ⟨by decide, by decide⟩ ⟨by first | omega | (simp only [gRm]; omega), by first | omega | (simp only [gRm]; omega)⟩ rfl (fun v9 L9 f9 hq => ?_)
        obtain ⟨rfl, rfl, rfl⟩ := hq
        refine G.sk (st' := [_]) rfl ?_
        refine g_iload (n := 201) C dL_isAdded_199 rfl rfl ?_
        refine g_icmp_ne (n := 204) (tgt := 208) C dL_isAdded_201 (by decide) rfl (fun h201 => absurd rfl h201) (fun h201 => ?_)
        refine g_iconst (n := 205) (v := nI 1) C dL_isAdded_204 rfl rfl ?_
        refine g_goto (tgt := 209) C dL_isAdded_205 (by decide) ?_
        refine g_istore (n := 211) (ls' := [_, _, _, _, _, _, _, _, _, _, _]) C dL_isAdded_209 rfl (by decide) rfl ?_
        refine g_iload (n := 213) C dL_isAdded_211 rfl rfl ?_
        refine g_if_eq (n := 216) (tgt := 232) C dL_isAdded_213 (by decide) rfl (fun h213 => ?_) (fun h213 => ?_)
        · skip
          refine g_iload (n := 234) C dL_isAdded_232 rfl rfl ?_
          refine g_zret C hr rfl dL_isAdded_234 ?_ ⟨by first | omega | (simp only [gRm]; omega), by first | omega | (simp only [gRm]; omega)⟩
          first
          | exact ⟨rfl, Lc, g, rfl, hga, hg, n, PR, PL, S, A, I, h, hi, hgA⟩
          | exact ⟨rfl, Lc, upd g x (g x), rfl, hga, va_up_self _ _ _, n, PR, PL, S, A, I, h.ext (fun a ha => va_up_ne _ _ (fun z => hga (z ▸ ha))), hi, fun i hi4 => by rw [upd_same]; exact hgA i hi4⟩
        · have hx4 := cdb_1 h6 h213
          refine g_aload_n (n := 217) C dL_isAdded_216 rfl (Or.inr ⟨_, rfl⟩) rfl ?_
          refine g_iload_n (n := 218) C dL_isAdded_217 rfl rfl ?_
          refine g_iload (n := 220) C dL_isAdded_218 rfl rfl ?_
          refine g_if_le (n := 223) (tgt := 228) C dL_isAdded_220 (by decide) rfl (fun h220 => ?_) (fun h220 => absurd (by decide) h220)
          refine g_aload_n (n := 229) C dL_isAdded_228 rfl (Or.inr ⟨_, rfl⟩) rfl ?_
          refine g_iload_n (n := 230) C dL_isAdded_229 rfl rfl ?_
          refine g_iald (n := 231) C dL_isAdded_230 ⟨List.mem_append_right _ (List.mem_singleton.mpr rfl), hg⟩ rfl (by first | exact hx4 | exact hth.1) (by decide) rfl ?_
          refine g_iast (n := 232) C dL_isAdded_231 ⟨List.mem_append_right _ (List.mem_singleton.mpr rfl), hg⟩ rfl (by first | exact hx4 | exact hth.1) (by decide) rfl ?_
          refine g_iload (n := 234) C dL_isAdded_232 rfl rfl ?_
          refine g_zret C hr rfl dL_isAdded_234 ?_ ⟨by first | omega | (simp only [gRm]; omega), by first | omega | (simp only [gRm]; omega)⟩
          first
          | exact ⟨rfl, Lc, g, rfl, hga, hg, n, PR, PL, S, A, I, h, hi, hgA⟩
          | exact ⟨rfl, Lc, upd g x (g x), rfl, hga, va_up_self _ _ _, n, PR, PL, S, A, I, h.ext (fun a ha => va_up_ne _ _ (fun z => hga (z ▸ ha))), hi, fun i hi4 => by rw [upd_same]; exact hgA i hi4⟩
theorem l_isAdded_4 {l : Launch} {s0 : State} {D : va_G} {cy : Nat → ClassId} (hE : gE s0 D cy) (hl : l.stackTraces = false) {f : gF} (hN : gN9 s0) {co n : Nat} {PR PL : Nat → Nat} {S A : Nat → Nat → Int32} {I : Nat → Int32} {Lc : List Nat} {ga : Nat} {g : Nat → Int32} (h : CX cy co n PR PL S A I Lc f) (hi : INV A n PR S) (hga : ga ∉ Lc) (hg : f ga = .inl (cy 0, 4, .inl g)) (hgA : ∀ i, i < 4 → A 3 i = g i) {x a b : Nat} (hx9 : x < 2 ^ 31) (ha9 : a < 2 ^ 31) (hb9 : b < 2 ^ 31) : gM l s0 D yL_isAdded cL_isAdded 11 (some .boolean) 11 6 30 [.ref co, .ref ga, .int (nI 4), .int (nI x), .int (nI a), .int (nI b)] (Lc ++ [ga]) f (fun v L1 f1 => v = some (.int 1) ∧ GWo cy co ga L1 f1) := by
  refine gM.of (own := RL) hE hl (by decide +kernel) rfl rfl (Nat.le_of_ble_eq_true rfl) (fun p9 e9 s9 m9 a99 b99 t99 c9 C hr hnm => ?_)
  refine G.weak (ls' := [some (.ref co), some (.ref ga), some (.int (nI 4)), some (.int (nI x)), some (.int (nI a)), some (.int (nI b)), none, none, none, none, none]) ?_ rfl (fun _ _ h => h)
  obtain ⟨i7, hn9, hPR, hsh, hpl, hpb, hlv⟩ := h.nv
  have hpar : ∀ k, k < n → PR k ≤ k := fun k hk => (hPR k hk).1
  refine g_cut (α := Nat × Nat) (fun z => cdb (x < 4) z.2 ∧ cdb (x < 4 ∧ a < 4) z.1) (fun _ => Lc ++ [ga]) (fun _ => f) (fun _ => 0) (fun _ => 0) 107 (fun z => [some (.ref co), some (.ref ga), some (.int (nI 4)), some (.int (nI x)), some (.int (nI a)), some (.int (nI b)), some (.int (nI z.2)), none, none, none, none]) (fun z => [.int (nI z.1)]) (fun J => ?_) (fun z hz => ?_)
  · refine g_iload_n (n := 1) C dL_isAdded_0 rfl rfl ?_
    refine g_iconst (n := 2) (v := nI 4) C dL_isAdded_1 rfl rfl ?_
    refine g_icmp_ge (n := 5) (tgt := 9) C dL_isAdded_2 (by decide) rfl (fun h2 => ?_) (fun h2 => ?_)
    · have hx4 : ¬ x < 4 := by have := gn_ge h2 (by decide) hx9; omega
      refine g_iconst (n := 10) (v := nI 0) C dL_isAdded_9 rfl rfl ?_
      refine g_istore (n := 12) (ls' := [_, _, _, _, _, _, _, _, _, _, _]) C dL_isAdded_10 rfl (by decide) rfl ?_
      refine g_iload (n := 14) C dL_isAdded_12 rfl rfl ?_
      refine g_if_eq (n := 17) (tgt := 106) C dL_isAdded_14 (by decide) rfl (fun h14 => ?_) (fun h14 => absurd (by decide) h14)
      refine g_iconst (n := 107) (v := nI 0) C dL_isAdded_106 rfl rfl ?_
      first
      | exact J (1, 1) ⟨Or.inl ⟨rfl, hx4⟩, Or.inl ⟨rfl, hx4, hca⟩⟩
      | exact J (0, 1) ⟨Or.inl ⟨rfl, hx4⟩, Or.inr ⟨rfl, fun z => by omega⟩⟩
      | exact J (0, 0) ⟨Or.inr ⟨rfl, hx4⟩, Or.inr ⟨rfl, fun z => by omega⟩⟩
    · have hx4 : x < 4 := gn_gt h2 (by decide) hx9
      refine g_iconst (n := 6) (v := nI 1) C dL_isAdded_5 rfl rfl ?_
      refine g_goto (tgt := 10) C dL_isAdded_6 (by decide) ?_
      refine g_istore (n := 12) (ls' := [_, _, _, _, _, _, _, _, _, _, _]) C dL_isAdded_10 rfl (by decide) rfl ?_
      refine g_iload (n := 14) C dL_isAdded_12 rfl rfl ?_
      refine g_if_eq (n := 17) (tgt := 106) C dL_isAdded_14 (by decide) rfl (fun h14 => absurd h14 (by decide)) (fun h14 => ?_)
      refine g_iload_n (n := 18) C dL_isAdded_17 rfl rfl ?_
      refine g_if_ne (n := 21) (tgt := 38) C dL_isAdded_18 (by decide) rfl (fun h18 => ?_) (fun h18 => (by first | exact absurd h18 (by decide) | exact (h18 (by decide)).elim))
      refine g_iload_n (n := 39) C dL_isAdded_38 rfl rfl ?_
      refine g_iconst (n := 40) (v := nI 1) C dL_isAdded_39 rfl rfl ?_
      refine g_icmp_ne (n := 43) (tgt := 59) C dL_isAdded_40 (by decide) rfl (fun h40 => ?_) (fun h40 => (by first | exact absurd h40 (by decide) | exact (h40 (by decide)).elim))
      refine g_iload_n (n := 60) C dL_isAdded_59 rfl rfl ?_
      refine g_iconst (n := 61) (v := nI 2) C dL_isAdded_60 rfl rfl ?_
      refine g_icmp_ne (n := 64) (tgt := 81) C dL_isAdded_61 (by decide) rfl (fun h61 => ?_) (fun h61 => (by first | exact absurd h61 (by decide) | exact (h61 (by decide)).elim))
      refine g_iload_n (n := 82) C dL_isAdded_81 rfl rfl ?_
      refine g_iconst (n := 83) (v := nI 3) C dL_isAdded_82 rfl rfl ?_
      refine g_icmp_ne (n := 86) (tgt := 96) C dL_isAdded_83 (by decide) rfl (fun h83 => ?_) (fun h83 => (by first | exact absurd h83 (by decide) | exact (h83 (by decide)).elim))
      refine g_iload (n := 98) C dL_isAdded_96 rfl rfl ?_
      refine g_iconst (n := 99) (v := nI 4) C dL_isAdded_98 rfl rfl ?_
      refine g_icmp_ge (n := 102) (tgt := 106) C dL_isAdded_99 (by decide) rfl (fun h99 => ?_) (fun h99 => ?_)
      · have hca : ¬ a < 4 := by have := gn_ge h99 (by decide) ha9; omega
        refine g_iconst (n := 107) (v := nI 0) C dL_isAdded_106 rfl rfl ?_
        first
        | exact J (1, 1) ⟨Or.inl ⟨rfl, hx4⟩, Or.inl ⟨rfl, hx4, hca⟩⟩
        | exact J (0, 1) ⟨Or.inl ⟨rfl, hx4⟩, Or.inr ⟨rfl, fun z => by omega⟩⟩
        | exact J (0, 0) ⟨Or.inr ⟨rfl, hx4⟩, Or.inr ⟨rfl, fun z => by omega⟩⟩
      · have hca : a < 4 := gn_gt h99 (by decide) ha9
        refine g_iconst (n := 103) (v := nI 1) C dL_isAdded_102 rfl rfl ?_
        refine g_goto (tgt := 107) C dL_isAdded_103 (by decide) ?_
        first
        | exact J (1, 1) ⟨Or.inl ⟨rfl, hx4⟩, Or.inl ⟨rfl, hx4, hca⟩⟩
        | exact J (0, 1) ⟨Or.inl ⟨rfl, hx4⟩, Or.inr ⟨rfl, fun z => by omega⟩⟩
        | exact J (0, 0) ⟨Or.inr ⟨rfl, hx4⟩, Or.inr ⟨rfl, fun z => by omega⟩⟩
  · obtain ⟨w7, w6⟩ := z
    obtain ⟨h6, h7⟩ := hz
    dsimp only at h6 h7 ⊢
    refine g_cut (α := Nat) (fun w8 => cdb (b < 1000) w8) (fun _ => Lc ++ [ga]) (fun _ => f) (fun _ => 0) (fun _ => 0) 147 (fun _ => [some (.ref co), some (.ref ga), some (.int (nI 4)), some (.int (nI x)), some (.int (nI a)), some (.int (nI b)), some (.int (nI w6)), some (.int (nI w7)), none, none, none]) (fun w8 => [.int (nI w8)]) (fun J => ?_) (fun w8 h8 => ?_)
    · refine g_istore (n := 109) (ls' := [_, _, _, _, _, _, _, _, _, _, _]) C dL_isAdded_107 rfl (by decide) rfl ?_
      refine g_iload_n (n := 110) C dL_isAdded_109 rfl rfl ?_
      refine g_iconst (n := 111) (v := nI 2) C dL_isAdded_110 rfl rfl ?_
      refine g_icmp_lt (n := 114) (tgt := 142) C dL_isAdded_111 (by decide) rfl (fun h111 => (by first | exact absurd h111 (by decide) | exact (h111 (by decide)).elim)) (fun h111 => ?_)
      refine g_iload_n (n := 115) C dL_isAdded_114 rfl rfl ?_
      refine g_iconst (n := 116) (v := nI 3) C dL_isAdded_115 rfl rfl ?_
      refine g_icmp_eq (n := 119) (tgt := 142) C dL_isAdded_116 (by decide) rfl (fun h116 => (by first | exact absurd h116 (by decide) | exact (h116 (by decide)).elim)) (fun h116 => ?_)
      refine g_iload_n (n := 120) C dL_isAdded_119 rfl rfl ?_
      refine g_iconst (n := 121) (v := nI 2) C dL_isAdded_120 rfl rfl ?_
      refine g_icmp_ne (n := 124) (tgt := 134) C dL_isAdded_121 (by decide) rfl (fun h121 => ?_) (fun h121 => (by first | exact absurd h121 (by decide) | exact (h121 (by decide)).elim))
      refine g_iload (n := 136) C dL_isAdded_134 rfl rfl ?_
      refine g_sipush (n := 139) (v := nI 1000) C dL_isAdded_136 rfl rfl ?_
      refine g_icmp_ge (n := 142) (tgt := 146) C dL_isAdded_139 (by decide) rfl (fun h139 => ?_) (fun h139 => ?_)
      · have hrt : ¬ b < 1000 := by have := gn_ge h139 (by decide) hb9; omega
        refine g_iconst (n := 147) (v := nI 0) C dL_isAdded_146 rfl rfl ?_
        first
        | exact J 1 (Or.inl ⟨rfl, trivial⟩)
        | exact J 1 (Or.inl ⟨rfl, hrt⟩)
        | exact J 0 (Or.inr ⟨rfl, hrt⟩)
      · have hrt : b < 1000 := gn_gt h139 (by decide) hb9
        refine g_iconst (n := 143) (v := nI 1) C dL_isAdded_142 rfl rfl ?_
        refine g_goto (tgt := 147) C dL_isAdded_143 (by decide) ?_
        first
        | exact J 1 (Or.inl ⟨rfl, trivial⟩)
        | exact J 1 (Or.inl ⟨rfl, hrt⟩)
        | exact J 0 (Or.inr ⟨rfl, hrt⟩)
    · refine g_istore (n := 149) (ls' := [_, _, _, _, _, _, _, _, _, _, _]) C dL_isAdded_147 rfl (by decide) rfl ?_
      refine g_iload (n := 151) C dL_isAdded_149 rfl rfl ?_
      refine g_if_ne (n := 154) (tgt := 159) C dL_isAdded_151 (by decide) rfl (fun h151 => ?_) (fun h151 => ?_)
      · have hth := cdb_1 h7 h151
        refine g_iload (n := 161) C dL_isAdded_159 rfl rfl ?_
        refine g_if_ne (n := 164) (tgt := 169) C dL_isAdded_161 (by decide) rfl (fun h161 => ?_) (fun h161 => ?_)
        · have hrt := cdb_1 h8 h161
          refine g_aload_n (n := 170) C dL_isAdded_169 rfl (Or.inr ⟨_, rfl⟩) rfl ?_
          refine g_iload_n (n := 171) C dL_isAdded_170 rfl rfl ?_
          obtain ⟨m, bb, hm9, -, hm, -, -⟩ := h.rec9 x hth.1
          rw [hgA x hth.1] at hm
          refine g_iald (n := 172) C dL_isAdded_171 ⟨List.mem_append_right _ (List.mem_singleton.mpr rfl), hg⟩ rfl (by have := hth.1; omega) (by decide) rfl ?_
          rw [hm]
          refine g_bipush (n := 174) (v := nI 10) C dL_isAdded_172 rfl rfl ?_
          refine g_icmp_ne (n := 177) (tgt := 182) C dL_isAdded_174 (by decide) rfl (fun h174 => ?_) (fun h174 => ?_)
          · have hm9 : m < 10 := by
              rcases Nat.lt_or_ge m 10 with z | z
              · exact z
              · exact absurd (by rw [show m = 10 by omega]) h174
            refine g_aload_n (n := 183) C dL_isAdded_182 rfl (Or.inr ⟨_, rfl⟩) rfl ?_
            refine g_iload_n (n := 184) C dL_isAdded_183 rfl rfl ?_
            refine g_iald (n := 185) C dL_isAdded_184 ⟨List.mem_append_right _ (List.mem_singleton.mpr rfl), hg⟩ rfl (by have := hth.1; omega) (by decide) rfl ?_
            rw [hm]
            refine g_iconst (n := 186) (v := nI 1) C dL_isAdded_185 rfl rfl ?_
            refine g_iaddN (n := 187) C dL_isAdded_186 rfl ?_
            refine g_istore (n := 189) (ls' := [_, _, _, _, _, _, _, _, _, _, _]) C dL_isAdded_187 rfl (by decide) rfl ?_
            refine g_aload_n (n := 190) C dL_isAdded_189 rfl (Or.inr ⟨_, rfl⟩) rfl ?_
            refine g_iload_n (n := 191) C dL_isAdded_190 rfl rfl ?_
            refine g_iload_n (n := 192) C dL_isAdded_191 rfl rfl ?_
            refine g_iload (n := 194) C dL_isAdded_192 rfl rfl ?_
            refine g_iload (n := 196) C dL_isAdded_194 rfl rfl ?_
            refine g_SH (n := 199) (rest := []) C (gH9.g (t_addSet hE hl hN h hth.1 ((hgA x hth.1).trans hm) hm9 hth.2 hrt) (fun _ _ _ z1 z2 => z1.ext z2) hg) dL_isAdded_196 kH_adds kW_L_128 kT_adds rfl rfl (Nat.le_of_ble_eq_true rfl) ⟨by decide, by decide⟩ ⟨by first | omega | (simp only [gRm]; omega), by first | omega | (simp only [gRm]; omega)⟩ rfl (fun v9 L9 f9 hq => ?_)
            obtain ⟨rfl, L2, rfl, hga2, h2, hg2⟩ := hq
            refine G.sk (st' := [_]) rfl ?_
            refine g_iload (n := 201) C dL_isAdded_199 rfl rfl ?_
            refine g_icmp_ne (n := 204) (tgt := 208) C dL_isAdded_201 (by decide) rfl (fun h201 => absurd rfl h201) (fun h201 => ?_)
            refine g_iconst (n := 205) (v := nI 1) C dL_isAdded_204 rfl rfl ?_
            refine g_goto (tgt := 209) C dL_isAdded_205 (by decide) ?_
            refine g_istore (n := 211) (ls' := [_, _, _, _, _, _, _, _, _, _, _]) C dL_isAdded_209 rfl (by decide) rfl ?_
            refine g_iload (n := 213) C dL_isAdded_211 rfl rfl ?_
            refine g_if_eq (n := 216) (tgt := 232) C dL_isAdded_213 (by decide) rfl (fun h213 => absurd h213 (cdb_y h6 hth.1)) (fun h213 => ?_)
            have hx4 := cdb_1 h6 h213
            refine g_aload_n (n := 217) C dL_isAdded_216 rfl (Or.inr ⟨_, rfl⟩) rfl ?_
            refine g_iload_n (n := 218) C dL_isAdded_217 rfl rfl ?_
            refine g_iload (n := 220) C dL_isAdded_218 rfl rfl ?_
            refine g_if_le (n := 223) (tgt := 228) C dL_isAdded_220 (by decide) rfl (fun h220 => absurd h220 (fun z => by have := gn_ge (b := 0) z (by omega) (by decide); omega)) (fun h220 => ?_)
            refine g_iload (n := 225) C dL_isAdded_223 rfl rfl ?_
            refine g_goto (tgt := 231) C dL_isAdded_225 (by decide) ?_
            refine g_iast (n := 232) C dL_isAdded_231 ⟨List.mem_append_right _ (List.mem_singleton.mpr rfl), hg2⟩ rfl (by exact hth.1) (by decide) rfl ?_
            refine g_iload (n := 234) C dL_isAdded_232 rfl rfl ?_
            refine g_zret C hr rfl dL_isAdded_234 ?_ ⟨by first | omega | (simp only [gRm]; omega), by first | omega | (simp only [gRm]; omega)⟩
            exact ⟨rfl, L2, _, rfl, hga2, va_up_self _ _ _, n, PR, PL, S, _, I, h2.ext (fun a ha => va_up_ne _ _ (fun z => hga2 (z ▸ ha))), hi.ag hpar addA_ag, addA_39 hgA⟩
          · have hm10 : m = 10 := gn_inj (by omega) (by decide) h174
            refine g_bipush (n := 179) (v := -10) C dL_isAdded_177 rfl rfl ?_
            refine g_goto (tgt := 187) C dL_isAdded_179 (by decide) ?_
            refine g_istore (n := 189) (ls' := [_, _, _, _, _, _, _, _, _, _, _]) C dL_isAdded_187 rfl (by decide) rfl ?_
            refine g_aload_n (n := 190) C dL_isAdded_189 rfl (Or.inr ⟨_, rfl⟩) rfl ?_
            refine g_iload_n (n := 191) C dL_isAdded_190 rfl rfl ?_
            refine g_iload_n (n := 192) C dL_isAdded_191 rfl rfl ?_
            refine g_iload (n := 194) C dL_isAdded_192 rfl rfl ?_
            refine g_iload (n := 196) C dL_isAdded_194 rfl rfl ?_
            refine g_SH (n := 199) (rest := []) C (tn_addSet_S hE hl hN (h.up [ga]) (x := nI x) (y := nI a) (z := nI b) ⟨⟨x, hth.1, rfl⟩, ⟨a, hth.2, rfl⟩⟩ ⟨b, hrt, rfl⟩ (fun z => z x hth.1 rfl (by rw [hgA x hth.1, hm, hm10]))) dL_isAdded_196 kH_adds kW_L_128 kT_adds rfl rfl (Nat.le_of_ble_eq_true rfl) ⟨by decide, by decide⟩ ⟨by first | omega | (simp only [gRm]; omega), by first | omega | (simp only [gRm]; omega)⟩ rfl (fun v9 L9 f9 hq => ?_)
            obtain ⟨rfl, rfl, rfl⟩ := hq
            refine G.sk (st' := [_]) rfl ?_
            refine g_iload (n := 201) C dL_isAdded_199 rfl rfl ?_
            refine g_icmp_ne (n := 204) (tgt := 208) C dL_isAdded_201 (by decide) rfl (fun h201 => absurd rfl h201) (fun h201 => ?_)
            refine g_iconst (n := 205) (v := nI 1) C dL_isAdded_204 rfl rfl ?_
            refine g_goto (tgt := 209) C dL_isAdded_205 (by decide) ?_
            refine g_istore (n := 211) (ls' := [_, _, _, _, _, _, _, _, _, _, _]) C dL_isAdded_209 rfl (by decide) rfl ?_
            refine g_iload (n := 213) C dL_isAdded_211 rfl rfl ?_
            refine g_if_eq (n := 216) (tgt := 232) C dL_isAdded_213 (by decide) rfl (fun h213 => absurd h213 (cdb_y h6 hth.1)) (fun h213 => ?_)
            have hx4 := cdb_1 h6 h213
            refine g_aload_n (n := 217) C dL_isAdded_216 rfl (Or.inr ⟨_, rfl⟩) rfl ?_
            refine g_iload_n (n := 218) C dL_isAdded_217 rfl rfl ?_
            refine g_iload (n := 220) C dL_isAdded_218 rfl rfl ?_
            refine g_if_le (n := 223) (tgt := 228) C dL_isAdded_220 (by decide) rfl (fun h220 => ?_) (fun h220 => absurd (by decide) h220)
            refine g_aload_n (n := 229) C dL_isAdded_228 rfl (Or.inr ⟨_, rfl⟩) rfl ?_
            refine g_iload_n (n := 230) C dL_isAdded_229 rfl rfl ?_
            refine g_iald (n := 231) C dL_isAdded_230 ⟨List.mem_append_right _ (List.mem_singleton.mpr rfl), hg⟩ rfl (by first | exact hx4 | exact hth.1) (by decide) rfl ?_
            refine g_iast (n := 232) C dL_isAdded_231 ⟨List.mem_append_right _ (List.mem_singleton.mpr rfl), hg⟩ rfl (by first | exact hx4 | exact hth.1) (by decide) rfl ?_
            refine g_iload (n := 234) C dL_isAdded_232 rfl rfl ?_
            refine g_zret C hr rfl dL_isAdded_234 ?_ ⟨by first | omega | (simp only [gRm]; omega), by first | omega | (simp only [gRm]; omega)⟩
            first
            | exact ⟨rfl, Lc, g, rfl, hga, hg, n, PR, PL, S, A, I, h, hi, hgA⟩
            | exact ⟨rfl, Lc, upd g x (g x), rfl, hga, va_up_self _ _ _, n, PR, PL, S, A, I, h.ext (fun a ha => va_up_ne _ _ (fun z => hga (z ▸ ha))), hi, fun i hi4 => by rw [upd_same]; exact hgA i hi4⟩
        · have hrt := cdb_0 h8 h161
          refine g_bipush (n := 166) (v := -20) C dL_isAdded_164 rfl rfl ?_
          refine g_goto (tgt := 187) C dL_isAdded_166 (by decide) ?_
          refine g_istore (n := 189) (ls' := [_, _, _, _, _, _, _, _, _, _, _]) C dL_isAdded_187 rfl (by decide) rfl ?_
          refine g_aload_n (n := 190) C dL_isAdded_189 rfl (Or.inr ⟨_, rfl⟩) rfl ?_
          refine g_iload_n (n := 191) C dL_isAdded_190 rfl rfl ?_
          refine g_iload_n (n := 192) C dL_isAdded_191 rfl rfl ?_
          refine g_iload (n := 194) C dL_isAdded_192 rfl rfl ?_
          refine g_iload (n := 196) C dL_isAdded_194 rfl rfl ?_
          refine g_SH (n := 199) (rest := []) C (tn_addSet_A hE hl hN (h.up [ga]) (x := nI x) (y := nI a) (z := nI b) ⟨⟨x, hth.1, rfl⟩, ⟨a, hth.2, rfl⟩⟩ (fun ⟨j, hj, e⟩ => hrt (by have := gn_inj hb9 (by omega) e; omega))) dL_isAdded_196 kH_adds kW_L_128 kT_adds rfl rfl (Nat.le_of_ble_eq_true rfl) ⟨by decide, by decide⟩ ⟨by first | omega | (simp only [gRm]; omega), by first | omega | (simp only [gRm]; omega)⟩ rfl (fun v9 L9 f9 hq => ?_)
          obtain ⟨rfl, rfl, rfl⟩ := hq
          refine G.sk (st' := [_]) rfl ?_
          refine g_iload (n := 201) C dL_isAdded_199 rfl rfl ?_
          refine g_icmp_ne (n := 204) (tgt := 208) C dL_isAdded_201 (by decide) rfl (fun h201 => absurd rfl h201) (fun h201 => ?_)
          refine g_iconst (n := 205) (v := nI 1) C dL_isAdded_204 rfl rfl ?_
          refine g_goto (tgt := 209) C dL_isAdded_205 (by decide) ?_
          refine g_istore (n := 211) (ls' := [_, _, _, _, _, _, _, _, _, _, _]) C dL_isAdded_209 rfl (by decide) rfl ?_
          refine g_iload (n := 213) C dL_isAdded_211 rfl rfl ?_
          refine g_if_eq (n := 216) (tgt := 232) C dL_isAdded_213 (by decide) rfl (fun h213 => absurd h213 (cdb_y h6 hth.1)) (fun h213 => ?_)
          have hx4 := cdb_1 h6 h213
          refine g_aload_n (n := 217) C dL_isAdded_216 rfl (Or.inr ⟨_, rfl⟩) rfl ?_
          refine g_iload_n (n := 218) C dL_isAdded_217 rfl rfl ?_
          refine g_iload (n := 220) C dL_isAdded_218 rfl rfl ?_
          refine g_if_le (n := 223) (tgt := 228) C dL_isAdded_220 (by decide) rfl (fun h220 => ?_) (fun h220 => absurd (by decide) h220)
          refine g_aload_n (n := 229) C dL_isAdded_228 rfl (Or.inr ⟨_, rfl⟩) rfl ?_
          refine g_iload_n (n := 230) C dL_isAdded_229 rfl rfl ?_
          refine g_iald (n := 231) C dL_isAdded_230 ⟨List.mem_append_right _ (List.mem_singleton.mpr rfl), hg⟩ rfl (by first | exact hx4 | exact hth.1) (by decide) rfl ?_
          refine g_iast (n := 232) C dL_isAdded_231 ⟨List.mem_append_right _ (List.mem_singleton.mpr rfl), hg⟩ rfl (by first | exact hx4 | exact hth.1) (by decide) rfl ?_
          refine g_iload (n := 234) C dL_isAdded_232 rfl rfl ?_
          refine g_zret C hr rfl dL_isAdded_234 ?_ ⟨by first | omega | (simp only [gRm]; omega), by first | omega | (simp only [gRm]; omega)⟩
          first
          | exact ⟨rfl, Lc, g, rfl, hga, hg, n, PR, PL, S, A, I, h, hi, hgA⟩
          | exact ⟨rfl, Lc, upd g x (g x), rfl, hga, va_up_self _ _ _, n, PR, PL, S, A, I, h.ext (fun a ha => va_up_ne _ _ (fun z => hga (z ▸ ha))), hi, fun i hi4 => by rw [upd_same]; exact hgA i hi4⟩
      · have hnt := cdb_0 h7 h151
        refine g_bipush (n := 156) (v := -30) C dL_isAdded_154 rfl rfl ?_
        refine g_goto (tgt := 187) C dL_isAdded_156 (by decide) ?_
        refine g_istore (n := 189) (ls' := [_, _, _, _, _, _, _, _, _, _, _]) C dL_isAdded_187 rfl (by decide) rfl ?_
        refine g_aload_n (n := 190) C dL_isAdded_189 rfl (Or.inr ⟨_, rfl⟩) rfl ?_
        refine g_iload_n (n := 191) C dL_isAdded_190 rfl rfl ?_
        refine g_iload_n (n := 192) C dL_isAdded_191 rfl rfl ?_
        refine g_iload (n := 194) C dL_isAdded_192 rfl rfl ?_
        refine g_iload (n := 196) C dL_isAdded_194 rfl rfl ?_
        refine g_SH (n := 199) (rest := []) C (tn_addSet_I hE hl hN (h.up [ga]) (x := nI x) (y := nI a) (z := nI b) (fun z => hnt (by obtain ⟨⟨i1, q1, e1⟩, ⟨i2, q2, e2⟩⟩ := z; exact ⟨by have := gn_inj hx9 (by omega) e1; omega, by have := gn_inj ha9 (by omega) e2; omega⟩))) dL_isAdded_196 kH_adds kW_L_128 kT_adds rfl rfl (Nat.le_of_ble_eq_true rfl) ⟨by decide, by decide⟩ ⟨by first | omega | (simp only [gRm]; omega), by first | omega | (simp only [gRm]; omega)⟩ rfl (fun v9 L9 f9 hq => ?_)
        obtain ⟨rfl, rfl, rfl⟩ := hq
        refine G.sk (st' := [_]) rfl ?_
        refine g_iload (n := 201) C dL_isAdded_199 rfl rfl ?_
        refine g_icmp_ne (n := 204) (tgt := 208) C dL_isAdded_201 (by decide) rfl (fun h201 => absurd rfl h201) (fun h201 => ?_)
        refine g_iconst (n := 205) (v := nI 1) C dL_isAdded_204 rfl rfl ?_
        refine g_goto (tgt := 209) C dL_isAdded_205 (by decide) ?_
        refine g_istore (n := 211) (ls' := [_, _, _, _, _, _, _, _, _, _, _]) C dL_isAdded_209 rfl (by decide) rfl ?_
        refine g_iload (n := 213) C dL_isAdded_211 rfl rfl ?_
        refine g_if_eq (n := 216) (tgt := 232) C dL_isAdded_213 (by decide) rfl (fun h213 => ?_) (fun h213 => ?_)
        · skip
          refine g_iload (n := 234) C dL_isAdded_232 rfl rfl ?_
          refine g_zret C hr rfl dL_isAdded_234 ?_ ⟨by first | omega | (simp only [gRm]; omega), by first | omega | (simp only [gRm]; omega)⟩
          first
          | exact ⟨rfl, Lc, g, rfl, hga, hg, n, PR, PL, S, A, I, h, hi, hgA⟩
          | exact ⟨rfl, Lc, upd g x (g x), rfl, hga, va_up_self _ _ _, n, PR, PL, S, A, I, h.ext (fun a ha => va_up_ne _ _ (fun z => hga (z ▸ ha))), hi, fun i hi4 => by rw [upd_same]; exact hgA i hi4⟩
        · have hx4 := cdb_1 h6 h213
          refine g_aload_n (n := 217) C dL_isAdded_216 rfl (Or.inr ⟨_, rfl⟩) rfl ?_
          refine g_iload_n (n := 218) C dL_isAdded_217 rfl rfl ?_
          refine g_iload (n := 220) C dL_isAdded_218 rfl rfl ?_
          refine g_if_le (n := 223) (tgt := 228) C dL_isAdded_220 (by decide) rfl (fun h220 => ?_) (fun h220 => absurd (by decide) h220)
          refine g_aload_n (n := 229) C dL_isAdded_228 rfl (Or.inr ⟨_, rfl⟩) rfl ?_
          refine g_iload_n (n := 230) C dL_isAdded_229 rfl rfl ?_
          refine g_iald (n := 231) C dL_isAdded_230 ⟨List.mem_append_right _ (List.mem_singleton.mpr rfl), hg⟩ rfl (by first | exact hx4 | exact hth.1) (by decide) rfl ?_
          refine g_iast (n := 232) C dL_isAdded_231 ⟨List.mem_append_right _ (List.mem_singleton.mpr rfl), hg⟩ rfl (by first | exact hx4 | exact hth.1) (by decide) rfl ?_
          refine g_iload (n := 234) C dL_isAdded_232 rfl rfl ?_
          refine g_zret C hr rfl dL_isAdded_234 ?_ ⟨by first | omega | (simp only [gRm]; omega), by first | omega | (simp only [gRm]; omega)⟩
          first
          | exact ⟨rfl, Lc, g, rfl, hga, hg, n, PR, PL, S, A, I, h, hi, hgA⟩
          | exact ⟨rfl, Lc, upd g x (g x), rfl, hga, va_up_self _ _ _, n, PR, PL, S, A, I, h.ext (fun a ha => va_up_ne _ _ (fun z => hga (z ▸ ha))), hi, fun i hi4 => by rw [upd_same]; exact hgA i hi4⟩

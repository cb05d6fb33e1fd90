/-! ===== the reference, VII: steps ===== -/
def runW (c v : Int32) : Int32 := (nI 31 * c + v + nI 1) - (nI 31 * c + v + nI 1) / nI 10007 * nI 10007
def runV (c v : Int32) : Int32 := runW (if c = -1 then nI 0 else c) v
def lfB (A : Nat → Nat → Int32) (n k0 : Nat) (what a b its : Int32) : Nat → Nat → Int32 := mU (mU (mU (mU (mkA A n (k0 + 1)) 12 n what) 13 n a) 14 n b) 15 n its
theorem lfB_9 {A : Nat → Nat → Int32} {n k0 k : Nat} {what a b its : Int32} (h : k < n) : lfB A n k0 what a b its 9 k = A 9 k := by
  unfold lfB mkA
  rw [mU_k (by decide), mU_k (by decide), mU_k (by decide), mU_k (by decide), mU_k (by decide), mU_k (by decide), mU_j (by omega), upR_k (by decide), upR_k (by decide)]
theorem lfB_10 {A : Nat → Nat → Int32} {n k0 k q : Nat} {what a b its : Int32} (h : k < n) (hq : q < 12) : lfB A n k0 what a b its 10 (12 * k + q) = A 10 (12 * k + q) := by
  unfold lfB mkA
  rw [mU_k (by decide), mU_k (by decide), mU_k (by decide), mU_k (by decide), mU_k (by decide), mU_k (by decide), mU_k (by decide), upR_k (by decide), upR_o (by omega)]
theorem lfB_11 {A : Nat → Nat → Int32} {n k0 k q : Nat} {what a b its : Int32} (h : k < n) (hq : q < 4) : lfB A n k0 what a b its 11 (4 * k + q) = A 11 (4 * k + q) := by
  unfold lfB mkA
  rw [mU_k (by decide), mU_k (by decide), mU_k (by decide), mU_k (by decide), mU_k (by decide), mU_k (by decide), mU_k (by decide), upR_o (by omega), upR_k (by decide)]
theorem lfB_par {A : Nat → Nat → Int32} {n k0 : Nat} {what a b its : Int32} {PR : Nat → Nat} (h : vPar A n PR) : vPar (lfB A n k0 what a b its) n PR := fun k hk => ⟨(h k hk).1, by rw [lfB_9 hk]; exact (h k hk).2⟩
theorem lfB_sh {A : Nat → Nat → Int32} {n k0 : Nat} {what a b its : Int32} {PR : Nat → Nat} {S : Nat → Nat → Int32} (h : vShow A n PR S) : vShow (lfB A n k0 what a b its) n PR S := fun k q hk hq => by rw [lfB_10 hk hq]; exact h k q hk hq
/-- what a new layer by a step becomes -/
def lfR (A : Nat → Nat → Int32) (n k0 : Nat) (S : Nat → Nat → Int32) (what a b its : Int32) (A1 : Nat → Nat → Int32) : Prop :=
  (what = nI 0 ∧ ∃ q, q < 12 ∧ b = nI q ∧ A1 = mU (lfB A n k0 what a b its) 10 (12 * n + q) its) ∨
  (what = nI 1 ∧ ∃ q v, q < 12 ∧ v < 4 ∧ a = nI q ∧ b = nI v ∧ A1 = mU (lfB A n k0 what a b its) 10 (12 * n + q) (runV (S k0 q) (A 11 (4 * k0 + v)))) ∨
  (what = nI 2 ∧ ∃ q r, q < 12 ∧ r < 12 ∧ a = nI q ∧ b = nI r ∧ A1 = mU (mU (lfB A n k0 what a b its) 10 (12 * n + r) (S k0 q)) 10 (12 * n + q) (-2)) ∨
  (what = nI 3 ∧ ∃ q, q < 12 ∧ a = nI q ∧ A1 = mU (lfB A n k0 what a b its) 10 (12 * n + q) (-2)) ∨
  (what = nI 4 ∧ ∃ v, v < 4 ∧ a = nI v ∧ A1 = mU (lfB A n k0 what a b its) 11 (4 * n + v) b)
def itsP (A : Nat → Nat → Int32) (what a its : Int32) : Prop := (what = nI 0 ∧ ∃ j, j < 8 ∧ a = nI j ∧ its = A 0 j) ∨ (what ≠ nI 0 ∧ its = nI 0)
/-- one step of a build -/
def goR (A : Nat → Nat → Int32) (I : Nat → Int32) (n : Nat) (S : Nat → Nat → Int32) (k0 d m : Nat) (b9 : Int32) (A1 : Nat → Nat → Int32) (I1 : Nat → Int32) : Prop :=
  (failP A S k0 (A 21 d) (A 22 d) ∧ b9 = -1 ∧ A1 = A ∧ iV I1 n (nI 0) (nI 0) (nI m) (nI d) (nI k0) (I 25) (I 26) ∧ I1 27 = I 27) ∨
  (¬ failP A S k0 (A 21 d) (A 22 d) ∧ ∃ its fm k1 n1, itsP A (A 21 d) (A 22 d) its ∧ lst (mdP A k0 (A 21 d) (A 22 d) (A 23 d) its) 0 n fm ∧ b9 = nI k1 ∧ I1 27 = I 27 ∧
    ((fm = k1 + 1 ∧ n1 = n ∧ A1 = A ∧ iV I1 n1 (nI (if d + 1 = m then 0 else 1)) (nI (if d + 1 = m then 1 else 0)) (nI m) (nI (d + 1)) (nI k1) (I 25 + nI 1) (I 26 + nI 0)) ∨
     (fm = 0 ∧ k1 = n ∧ n1 = n + 1 ∧ lfR A n k0 S (A 21 d) (A 22 d) (A 23 d) its A1 ∧ iV I1 n1 (nI (if d + 1 = m then 0 else 1)) (nI (if d + 1 = m then 1 else 0)) (nI m) (nI (d + 1)) (nI k1) (I 25 + nI 0) (I 26 + nI 1))))
theorem k6_layerFor {l : Launch} {s0 : State} {D : va_G} {cy : Nat → ClassId} (hE : gE s0 D cy) (hl : l.stackTraces = false) {mo : Nat} {ad : Nat → Nat} {A : Nat → Nat → Int32} {I : Nat → Int32} {L : List Nat} {f : gF} (hM : IsM cy mo ad A I L f) {n : Nat} (hN : I 7 = nI n) (hn9 : n < 420) {PR : Nat → Nat} (hPR : vPar A n PR) {S : Nat → Nat → Int32} (hSh : vShow A n PR S) {k0 : Nat} (hk0 : k0 < n) (e24 : I 24 = nI k0) {what a b its : Int32} (hI : vIns what a b) : gM l s0 D yX6_layerFor cX6_layerFor 8 (some .int) 2 0 0 [.ref mo, .int what, .int a, .int b, .int its] L f (fun v L1 f1 => L = L1 ∧ v = some (.int (nI n)) ∧ ∃ A1, IsM cy mo ad A1 (va_up I 7 (nI (n + 1))) L f1 ∧ lfR A n k0 S what a b its A1) := by
  refine gM.of (own := RX6) hE hl (by decide +kernel) rfl rfl (Nat.le_of_ble_eq_true rfl) (fun p9 e9 s9 m9 a99 b99 t99 c9 C hr hnm => ?_)
  refine G.weak (ls' := [some (.ref mo), some (.int what), some (.int a), some (.int b), some (.int its), none, none, none]) ?_ rfl (fun _ _ h => h)
  refine g_aload_n (n := 1) C dX6_layerFor_0 rfl (Or.inr ⟨_, rfl⟩) rfl ?_
  refine g_aload_n (n := 2) C dX6_layerFor_1 rfl (Or.inr ⟨_, rfl⟩) rfl ?_
  refine m_get (n := 5) C hM dX6_layerFor_2 kF_X6_68 rfl rfl ?_
  refine G.top (y := nI k0) e24 ?_
  refine g_V (n := 8) (rest := []) C (k6_makes hE hl hM hN hn9 (m := k0 + 1) (by omega)) dX6_layerFor_5 kM_X6_makes kL_X6_105 kV_X6_makes hM.1 rfl rfl rfl (Nat.le_of_ble_eq_true rfl) ⟨by decide, by decide⟩ ⟨by decide, by decide⟩ rfl (fun v9 L9 f hq => ?_)
  obtain ⟨rfl, rfl, hM⟩ := hq
  refine G.sk (st' := [_]) rfl ?_
  refine g_istore (n := 10) (ls' := [_, _, _, _, _, _, _, _]) C dX6_layerFor_8 rfl (by decide) rfl ?_
  refine g_aload_n (n := 11) C dX6_layerFor_10 rfl (Or.inr ⟨_, rfl⟩) rfl ?_
  refine m_get (n := 14) C hM dX6_layerFor_11 kF_X6_44 rfl rfl ?_
  refine g_iload (n := 16) C dX6_layerFor_14 rfl rfl ?_
  refine g_iload_n (n := 17) C dX6_layerFor_16 rfl rfl ?_
  refine m_ast (n := 18) C hM dX6_layerFor_17 rfl rfl rfl (by simp only [mLen]; omega) (by decide) rfl (fun f hM => ?_)
  refine g_aload_n (n := 19) C dX6_layerFor_18 rfl (Or.inr ⟨_, rfl⟩) rfl ?_
  refine m_get (n := 22) C hM dX6_layerFor_19 kF_X6_47 rfl rfl ?_
  refine g_iload (n := 24) C dX6_layerFor_22 rfl rfl ?_
  refine g_iload_n (n := 25) C dX6_layerFor_24 rfl rfl ?_
  refine m_ast (n := 26) C hM dX6_layerFor_25 rfl rfl rfl (by simp only [mLen]; omega) (by decide) rfl (fun f hM => ?_)
  refine g_aload_n (n := 27) C dX6_layerFor_26 rfl (Or.inr ⟨_, rfl⟩) rfl ?_
  refine m_get (n := 30) C hM dX6_layerFor_27 kF_X6_50 rfl rfl ?_
  refine g_iload (n := 32) C dX6_layerFor_30 rfl rfl ?_
  refine g_iload_n (n := 33) C dX6_layerFor_32 rfl rfl ?_
  refine m_ast (n := 34) C hM dX6_layerFor_33 rfl rfl rfl (by simp only [mLen]; omega) (by decide) rfl (fun f hM => ?_)
  refine g_aload_n (n := 35) C dX6_layerFor_34 rfl (Or.inr ⟨_, rfl⟩) rfl ?_
  refine m_get (n := 38) C hM dX6_layerFor_35 kF_X6_53 rfl rfl ?_
  refine g_iload (n := 40) C dX6_layerFor_38 rfl rfl ?_
  refine g_iload (n := 42) C dX6_layerFor_40 rfl rfl ?_
  refine m_ast (n := 43) C hM dX6_layerFor_42 rfl rfl rfl (by simp only [mLen]; omega) (by decide) rfl (fun f hM => ?_)
  replace hM : IsM cy mo ad (lfB A n k0 what a b its) (va_up I 7 (nI (n + 1))) L f := hM
  refine g_bipush (n := 45) (v := nI 12) C dX6_layerFor_43 rfl rfl ?_
  refine g_iload (n := 47) C dX6_layerFor_45 rfl rfl ?_
  refine g_imulN (n := 48) C dX6_layerFor_47 rfl ?_
  refine g_istore (n := 50) (ls' := [_, _, _, _, _, _, _, _]) C dX6_layerFor_48 rfl (by decide) rfl ?_
  refine g_iload_n (n := 51) C dX6_layerFor_50 rfl rfl ?_
  rcases hI with ⟨rfl, ha, hb⟩ | ⟨rfl, ha, hb⟩ | ⟨rfl, ha, hb, hne⟩ | ⟨rfl, ha⟩ | ⟨rfl, ha, hb⟩
  · obtain ⟨q, hq9, rfl⟩ := hb
    refine g_tableIn (tgt := 80) C dX6_layerFor_51 (by decide) (by decide) rfl (by decide) ?_
    refine g_aload_n (n := 81) C dX6_layerFor_80 rfl (Or.inr ⟨_, rfl⟩) rfl ?_
    refine m_get (n := 84) C hM dX6_layerFor_81 kF_X6_38 rfl rfl ?_
    refine g_iload (n := 86) C dX6_layerFor_84 rfl rfl ?_
    refine g_iload_n (n := 87) C dX6_layerFor_86 rfl rfl ?_
    refine g_iaddN (n := 88) C dX6_layerFor_87 rfl ?_
    refine g_iload (n := 90) C dX6_layerFor_88 rfl rfl ?_
    refine m_ast (n := 91) C hM dX6_layerFor_90 rfl rfl rfl (by simp only [mLen]; omega) (by decide) rfl (fun f hM => ?_)
    refine g_goto (tgt := 210) C dX6_layerFor_91 (by decide) ?_
    refine g_iload (n := 212) C dX6_layerFor_210 rfl rfl ?_
    refine g_iret C hr dX6_layerFor_212 ?_ ⟨by decide, by decide⟩
    first | exact ⟨rfl, rfl, _, hM, Or.inl ⟨rfl, q, hq9, rfl, rfl⟩⟩ | exact ⟨rfl, rfl, _, hM, Or.inr (Or.inl ⟨rfl, q, v, hq9, hv9, rfl, rfl, rfl⟩)⟩ | exact ⟨rfl, rfl, _, hM, Or.inr (Or.inr (Or.inl ⟨rfl, q, r, hq9, hr9, rfl, rfl, rfl⟩))⟩ | exact ⟨rfl, rfl, _, hM, Or.inr (Or.inr (Or.inr (Or.inl ⟨rfl, q, hq9, rfl, rfl⟩)))⟩ | exact ⟨rfl, rfl, _, hM, Or.inr (Or.inr (Or.inr (Or.inr ⟨rfl, v, hv9, rfl, rfl⟩)))⟩
  · obtain ⟨q, hq9, rfl⟩ := ha
    obtain ⟨v, hv9, rfl⟩ := hb
    refine g_tableIn (tgt := 94) C dX6_layerFor_51 (by decide) (by decide) rfl (by decide) ?_
    refine g_aload_n (n := 95) C dX6_layerFor_94 rfl (Or.inr ⟨_, rfl⟩) rfl ?_
    refine g_aload_n (n := 96) C dX6_layerFor_95 rfl (Or.inr ⟨_, rfl⟩) rfl ?_
    refine m_get (n := 99) C hM dX6_layerFor_96 kF_X6_68 rfl rfl ?_
    refine G.top (y := nI k0) e24 ?_
    refine g_iload_n (n := 100) C dX6_layerFor_99 rfl rfl ?_
    refine g_V (n := 103) (rest := []) C (k6_shows hE hl hM (Nat.le_of_lt hn9) (lfB_par hPR) (lfB_sh hSh) hk0 hq9) dX6_layerFor_100 kM_X6_shows kL_X6_129 kV_X6_shows hM.1 rfl rfl rfl (Nat.le_of_ble_eq_true rfl) ⟨by decide, by decide⟩ ⟨by decide, by decide⟩ rfl (fun v9 L9 f9 hq => ?_)
    obtain ⟨rfl, rfl, rfl⟩ := hq
    refine G.sk (st' := [_]) rfl ?_
    refine g_istore (n := 105) (ls' := [_, _, _, _, _, _, _, _]) C dX6_layerFor_103 rfl (by decide) rfl ?_
    refine g_aload_n (n := 106) C dX6_layerFor_105 rfl (Or.inr ⟨_, rfl⟩) rfl ?_
    refine m_get (n := 109) C hM dX6_layerFor_106 kF_X6_38 rfl rfl ?_
    refine g_iload (n := 111) C dX6_layerFor_109 rfl rfl ?_
    refine g_iload_n (n := 112) C dX6_layerFor_111 rfl rfl ?_
    refine g_iaddN (n := 113) C dX6_layerFor_112 rfl ?_
    refine g_bipush (n := 115) (v := nI 31) C dX6_layerFor_113 rfl rfl ?_
    refine g_iload (n := 117) C dX6_layerFor_115 rfl rfl ?_
    refine g_iconst (n := 118) (v := -1) C dX6_layerFor_117 rfl rfl ?_
    refine g_icmp_ne (n := 121) (tgt := 125) C dX6_layerFor_118 (by decide) rfl (fun h118 => ?_) (fun h118 => ?_)
    · refine g_iload (n := 127) C dX6_layerFor_125 rfl rfl ?_
      refine g_imul (n := 128) C dX6_layerFor_127 rfl ?_
      refine g_aload_n (n := 129) C dX6_layerFor_128 rfl (Or.inr ⟨_, rfl⟩) rfl ?_
      refine m_get (n := 132) C hM dX6_layerFor_129 kF_X6_41 rfl rfl ?_
      refine g_iconst (n := 133) (v := nI 4) C dX6_layerFor_132 rfl rfl ?_
      refine g_aload_n (n := 134) C dX6_layerFor_133 rfl (Or.inr ⟨_, rfl⟩) rfl ?_
      refine m_get (n := 137) C hM dX6_layerFor_134 kF_X6_68 rfl rfl ?_
      refine G.top (y := nI k0) e24 ?_
      refine g_imulN (n := 138) C dX6_layerFor_137 rfl ?_
      refine g_iload_n (n := 139) C dX6_layerFor_138 rfl rfl ?_
      refine g_iaddN (n := 140) C dX6_layerFor_139 rfl ?_
      refine m_ald (n := 141) C hM dX6_layerFor_140 rfl rfl rfl (by simp only [mLen]; omega) (by decide) rfl ?_
      refine G.top (y := A 11 (4 * k0 + v)) (lfB_11 hk0 hv9) ?_
      refine g_iadd (n := 142) C dX6_layerFor_141 rfl ?_
      refine g_iconst (n := 143) (v := nI 1) C dX6_layerFor_142 rfl rfl ?_
      refine g_iadd (n := 144) C dX6_layerFor_143 rfl ?_
      refine g_sipush (n := 147) (v := nI 10007) C dX6_layerFor_144 rfl rfl ?_
      refine g_irem (n := 148) C dX6_layerFor_147 (by decide) rfl ?_
      refine G.top (y := runV (S k0 q) (A 11 (4 * k0 + v))) (by unfold runV; first | (rw [if_pos h118]; rfl) | (rw [if_neg h118]; rfl)) ?_
      refine m_ast (n := 149) C hM dX6_layerFor_148 rfl rfl rfl (by simp only [mLen]; omega) (by decide) rfl (fun f hM => ?_)
      refine g_goto (tgt := 210) C dX6_layerFor_149 (by decide) ?_
      refine g_iload (n := 212) C dX6_layerFor_210 rfl rfl ?_
      refine g_iret C hr dX6_layerFor_212 ?_ ⟨by decide, by decide⟩
      first | exact ⟨rfl, rfl, _, hM, Or.inl ⟨rfl, q, hq9, rfl, rfl⟩⟩ | exact ⟨rfl, rfl, _, hM, Or.inr (Or.inl ⟨rfl, q, v, hq9, hv9, rfl, rfl, rfl⟩)⟩ | exact ⟨rfl, rfl, _, hM, Or.inr (Or.inr (Or.inl ⟨rfl, q, r, hq9, hr9, rfl, rfl, rfl⟩))⟩ | exact ⟨rfl, rfl, _, hM, Or.inr (Or.inr (Or.inr (Or.inl ⟨rfl, q, hq9, rfl, rfl⟩)))⟩ | exact ⟨rfl, rfl, _, hM, Or.inr (Or.inr (Or.inr (Or.inr ⟨rfl, v, hv9, rfl, rfl⟩)))⟩
    · refine g_iconst (n := 122) (v := nI 0) C dX6_layerFor_121 rfl rfl ?_
      refine g_goto (tgt := 127) C dX6_layerFor_122 (by decide) ?_
      refine g_imul (n := 128) C dX6_layerFor_127 rfl ?_
      refine g_aload_n (n := 129) C dX6_layerFor_128 rfl (Or.inr ⟨_, rfl⟩) rfl ?_
      refine m_get (n := 132) C hM dX6_layerFor_129 kF_X6_41 rfl rfl ?_
      refine g_iconst (n := 133) (v := nI 4) C dX6_layerFor_132 rfl rfl ?_
      refine g_aload_n (n := 134) C dX6_layerFor_133 rfl (Or.inr ⟨_, rfl⟩) rfl ?_
      refine m_get (n := 137) C hM dX6_layerFor_134 kF_X6_68 rfl rfl ?_
      refine G.top (y := nI k0) e24 ?_
      refine g_imulN (n := 138) C dX6_layerFor_137 rfl ?_
      refine g_iload_n (n := 139) C dX6_layerFor_138 rfl rfl ?_
      refine g_iaddN (n := 140) C dX6_layerFor_139 rfl ?_
      refine m_ald (n := 141) C hM dX6_layerFor_140 rfl rfl rfl (by simp only [mLen]; omega) (by decide) rfl ?_
      refine G.top (y := A 11 (4 * k0 + v)) (lfB_11 hk0 hv9) ?_
      refine g_iadd (n := 142) C dX6_layerFor_141 rfl ?_
      refine g_iconst (n := 143) (v := nI 1) C dX6_layerFor_142 rfl rfl ?_
      refine g_iadd (n := 144) C dX6_layerFor_143 rfl ?_
      refine g_sipush (n := 147) (v := nI 10007) C dX6_layerFor_144 rfl rfl ?_
      refine g_irem (n := 148) C dX6_layerFor_147 (by decide) rfl ?_
      refine G.top (y := runV (S k0 q) (A 11 (4 * k0 + v))) (by unfold runV; first | (rw [if_pos h118]; rfl) | (rw [if_neg h118]; rfl)) ?_
      refine m_ast (n := 149) C hM dX6_layerFor_148 rfl rfl rfl (by simp only [mLen]; omega) (by decide) rfl (fun f hM => ?_)
      refine g_goto (tgt := 210) C dX6_layerFor_149 (by decide) ?_
      refine g_iload (n := 212) C dX6_layerFor_210 rfl rfl ?_
      refine g_iret C hr dX6_layerFor_212 ?_ ⟨by decide, by decide⟩
      first | exact ⟨rfl, rfl, _, hM, Or.inl ⟨rfl, q, hq9, rfl, rfl⟩⟩ | exact ⟨rfl, rfl, _, hM, Or.inr (Or.inl ⟨rfl, q, v, hq9, hv9, rfl, rfl, rfl⟩)⟩ | exact ⟨rfl, rfl, _, hM, Or.inr (Or.inr (Or.inl ⟨rfl, q, r, hq9, hr9, rfl, rfl, rfl⟩))⟩ | exact ⟨rfl, rfl, _, hM, Or.inr (Or.inr (Or.inr (Or.inl ⟨rfl, q, hq9, rfl, rfl⟩)))⟩ | exact ⟨rfl, rfl, _, hM, Or.inr (Or.inr (Or.inr (Or.inr ⟨rfl, v, hv9, rfl, rfl⟩)))⟩
  · obtain ⟨q, hq9, rfl⟩ := ha
    obtain ⟨r, hr9, rfl⟩ := hb
    refine g_tableIn (tgt := 152) C dX6_layerFor_51 (by decide) (by decide) rfl (by decide) ?_
    refine g_aload_n (n := 153) C dX6_layerFor_152 rfl (Or.inr ⟨_, rfl⟩) rfl ?_
    refine m_get (n := 156) C hM dX6_layerFor_153 kF_X6_38 rfl rfl ?_
    refine g_iload (n := 158) C dX6_layerFor_156 rfl rfl ?_
    refine g_iload_n (n := 159) C dX6_layerFor_158 rfl rfl ?_
    refine g_iaddN (n := 160) C dX6_layerFor_159 rfl ?_
    refine g_aload_n (n := 161) C dX6_layerFor_160 rfl (Or.inr ⟨_, rfl⟩) rfl ?_
    refine g_aload_n (n := 162) C dX6_layerFor_161 rfl (Or.inr ⟨_, rfl⟩) rfl ?_
    refine m_get (n := 165) C hM dX6_layerFor_162 kF_X6_68 rfl rfl ?_
    refine G.top (y := nI k0) e24 ?_
    refine g_iload_n (n := 166) C dX6_layerFor_165 rfl rfl ?_
    refine g_V (n := 169) (rest := [_, _]) C (k6_shows hE hl hM (Nat.le_of_lt hn9) (lfB_par hPR) (lfB_sh hSh) hk0 hq9) dX6_layerFor_166 kM_X6_shows kL_X6_129 kV_X6_shows hM.1 rfl rfl rfl (Nat.le_of_ble_eq_true rfl) ⟨by decide, by decide⟩ ⟨by decide, by decide⟩ rfl (fun v9 L9 f9 hq => ?_)
    obtain ⟨rfl, rfl, rfl⟩ := hq
    refine G.sk (st' := [_, _, _]) rfl ?_
    refine m_ast (n := 170) C hM dX6_layerFor_169 rfl rfl rfl (by simp only [mLen]; omega) (by decide) rfl (fun f hM => ?_)
    refine g_aload_n (n := 171) C dX6_layerFor_170 rfl (Or.inr ⟨_, rfl⟩) rfl ?_
    refine m_get (n := 174) C hM dX6_layerFor_171 kF_X6_38 rfl rfl ?_
    refine g_iload (n := 176) C dX6_layerFor_174 rfl rfl ?_
    refine g_iload_n (n := 177) C dX6_layerFor_176 rfl rfl ?_
    refine g_iaddN (n := 178) C dX6_layerFor_177 rfl ?_
    refine g_bipush (n := 180) (v := -2) C dX6_layerFor_178 rfl rfl ?_
    refine m_ast (n := 181) C hM dX6_layerFor_180 rfl rfl rfl (by simp only [mLen]; omega) (by decide) rfl (fun f hM => ?_)
    refine g_goto (tgt := 210) C dX6_layerFor_181 (by decide) ?_
    refine g_iload (n := 212) C dX6_layerFor_210 rfl rfl ?_
    refine g_iret C hr dX6_layerFor_212 ?_ ⟨by decide, by decide⟩
    first | exact ⟨rfl, rfl, _, hM, Or.inl ⟨rfl, q, hq9, rfl, rfl⟩⟩ | exact ⟨rfl, rfl, _, hM, Or.inr (Or.inl ⟨rfl, q, v, hq9, hv9, rfl, rfl, rfl⟩)⟩ | exact ⟨rfl, rfl, _, hM, Or.inr (Or.inr (Or.inl ⟨rfl, q, r, hq9, hr9, rfl, rfl, rfl⟩))⟩ | exact ⟨rfl, rfl, _, hM, Or.inr (Or.inr (Or.inr (Or.inl ⟨rfl, q, hq9, rfl, rfl⟩)))⟩ | exact ⟨rfl, rfl, _, hM, Or.inr (Or.inr (Or.inr (Or.inr ⟨rfl, v, hv9, rfl, rfl⟩)))⟩
  · obtain ⟨q, hq9, rfl⟩ := ha
    refine g_tableIn (tgt := 184) C dX6_layerFor_51 (by decide) (by decide) rfl (by decide) ?_
    refine g_aload_n (n := 185) C dX6_layerFor_184 rfl (Or.inr ⟨_, rfl⟩) rfl ?_
    refine m_get (n := 188) C hM dX6_layerFor_185 kF_X6_38 rfl rfl ?_
    refine g_iload (n := 190) C dX6_layerFor_188 rfl rfl ?_
    refine g_iload_n (n := 191) C dX6_layerFor_190 rfl rfl ?_
    refine g_iaddN (n := 192) C dX6_layerFor_191 rfl ?_
    refine g_bipush (n := 194) (v := -2) C dX6_layerFor_192 rfl rfl ?_
    refine m_ast (n := 195) C hM dX6_layerFor_194 rfl rfl rfl (by simp only [mLen]; omega) (by decide) rfl (fun f hM => ?_)
    refine g_goto (tgt := 210) C dX6_layerFor_195 (by decide) ?_
    refine g_iload (n := 212) C dX6_layerFor_210 rfl rfl ?_
    refine g_iret C hr dX6_layerFor_212 ?_ ⟨by decide, by decide⟩
    first | exact ⟨rfl, rfl, _, hM, Or.inl ⟨rfl, q, hq9, rfl, rfl⟩⟩ | exact ⟨rfl, rfl, _, hM, Or.inr (Or.inl ⟨rfl, q, v, hq9, hv9, rfl, rfl, rfl⟩)⟩ | exact ⟨rfl, rfl, _, hM, Or.inr (Or.inr (Or.inl ⟨rfl, q, r, hq9, hr9, rfl, rfl, rfl⟩))⟩ | exact ⟨rfl, rfl, _, hM, Or.inr (Or.inr (Or.inr (Or.inl ⟨rfl, q, hq9, rfl, rfl⟩)))⟩ | exact ⟨rfl, rfl, _, hM, Or.inr (Or.inr (Or.inr (Or.inr ⟨rfl, v, hv9, rfl, rfl⟩)))⟩
  · obtain ⟨v, hv9, rfl⟩ := ha
    refine g_tableOut (tgt := 198) C dX6_layerFor_51 (by decide) (by decide) ?_
    refine g_aload_n (n := 199) C dX6_layerFor_198 rfl (Or.inr ⟨_, rfl⟩) rfl ?_
    refine m_get (n := 202) C hM dX6_layerFor_199 kF_X6_41 rfl rfl ?_
    refine g_iconst (n := 203) (v := nI 4) C dX6_layerFor_202 rfl rfl ?_
    refine g_iload (n := 205) C dX6_layerFor_203 rfl rfl ?_
    refine g_imulN (n := 206) C dX6_layerFor_205 rfl ?_
    refine g_iload_n (n := 207) C dX6_layerFor_206 rfl rfl ?_
    refine g_iaddN (n := 208) C dX6_layerFor_207 rfl ?_
    refine g_iload_n (n := 209) C dX6_layerFor_208 rfl rfl ?_
    refine m_ast (n := 210) C hM dX6_layerFor_209 rfl rfl rfl (by simp only [mLen]; omega) (by decide) rfl (fun f hM => ?_)
    refine g_iload (n := 212) C dX6_layerFor_210 rfl rfl ?_
    refine g_iret C hr dX6_layerFor_212 ?_ ⟨by decide, by decide⟩
    first | exact ⟨rfl, rfl, _, hM, Or.inl ⟨rfl, q, hq9, rfl, rfl⟩⟩ | exact ⟨rfl, rfl, _, hM, Or.inr (Or.inl ⟨rfl, q, v, hq9, hv9, rfl, rfl, rfl⟩)⟩ | exact ⟨rfl, rfl, _, hM, Or.inr (Or.inr (Or.inl ⟨rfl, q, r, hq9, hr9, rfl, rfl, rfl⟩))⟩ | exact ⟨rfl, rfl, _, hM, Or.inr (Or.inr (Or.inr (Or.inl ⟨rfl, q, hq9, rfl, rfl⟩)))⟩ | exact ⟨rfl, rfl, _, hM, Or.inr (Or.inr (Or.inr (Or.inr ⟨rfl, v, hv9, rfl, rfl⟩)))⟩
theorem k6_goes {l : Launch} {s0 : State} {D : va_G} {cy : Nat → ClassId} (hE : gE s0 D cy) (hl : l.stackTraces = false) {mo : Nat} {ad : Nat → Nat} {A : Nat → Nat → Int32} {I : Nat → Int32} {L : List Nat} {f : gF} (hM : IsM cy mo ad A I L f) {n : Nat} (hN : I 7 = nI n) (hn9 : n < 420) {PR : Nat → Nat} (hPR : vPar A n PR) {S : Nat → Nat → Int32} (hSh : vShow A n PR S) {k0 : Nat} (hk0 : k0 < n) (e24 : I 24 = nI k0) {d m : Nat} (e20 : I 20 = nI d) (hd : d < m) (hm9 : m ≤ 10) (e19 : I 19 = nI m) (hI : vIns (A 21 d) (A 22 d) (A 23 d)) : gM l s0 D yX6_goes cX6_goes 6 (some .int) 3 0 0 [.ref mo] L f (fun v L1 f1 => L = L1 ∧ ∃ b9 A1 I1, v = some (.int b9) ∧ IsM cy mo ad A1 I1 L f1 ∧ goR A I n S k0 d m b9 A1 I1) := by
  refine gM.of (own := RX6) hE hl (by decide +kernel) rfl rfl (Nat.le_of_ble_eq_true rfl) (fun p9 e9 s9 m9 a99 b99 t99 c9 C hr hnm => ?_)
  refine G.weak (ls' := [some (.ref mo), none, none, none, none, none]) ?_ rfl (fun _ _ h => h)
  refine g_aload_n (n := 1) C dX6_goes_0 rfl (Or.inr ⟨_, rfl⟩) rfl ?_
  refine m_get (n := 4) C hM dX6_goes_1 kF_X6_59 rfl rfl ?_
  refine g_aload_n (n := 5) C dX6_goes_4 rfl (Or.inr ⟨_, rfl⟩) rfl ?_
  refine m_get (n := 8) C hM dX6_goes_5 kF_X6_115 rfl rfl ?_
  refine G.top (y := nI d) e20 ?_
  refine m_ald (n := 9) C hM dX6_goes_8 rfl rfl rfl (by simp only [mLen]; omega) (by decide) rfl ?_
  refine g_istore_n (n := 10) (ls' := [_, _, _, _, _, _]) C dX6_goes_9 rfl (by decide) rfl ?_
  refine g_aload_n (n := 11) C dX6_goes_10 rfl (Or.inr ⟨_, rfl⟩) rfl ?_
  refine m_get (n := 14) C hM dX6_goes_11 kF_X6_62 rfl rfl ?_
  refine g_aload_n (n := 15) C dX6_goes_14 rfl (Or.inr ⟨_, rfl⟩) rfl ?_
  refine m_get (n := 18) C hM dX6_goes_15 kF_X6_115 rfl rfl ?_
  refine G.top (y := nI d) e20 ?_
  refine m_ald (n := 19) C hM dX6_goes_18 rfl rfl rfl (by simp only [mLen]; omega) (by decide) rfl ?_
  refine g_istore_n (n := 20) (ls' := [_, _, _, _, _, _]) C dX6_goes_19 rfl (by decide) rfl ?_
  refine g_aload_n (n := 21) C dX6_goes_20 rfl (Or.inr ⟨_, rfl⟩) rfl ?_
  refine m_get (n := 24) C hM dX6_goes_21 kF_X6_65 rfl rfl ?_
  refine g_aload_n (n := 25) C dX6_goes_24 rfl (Or.inr ⟨_, rfl⟩) rfl ?_
  refine m_get (n := 28) C hM dX6_goes_25 kF_X6_115 rfl rfl ?_
  refine G.top (y := nI d) e20 ?_
  refine m_ald (n := 29) C hM dX6_goes_28 rfl rfl rfl (by simp only [mLen]; omega) (by decide) rfl ?_
  refine g_istore_n (n := 30) (ls' := [_, _, _, _, _, _]) C dX6_goes_29 rfl (by decide) rfl ?_
  refine g_aload_n (n := 31) C dX6_goes_30 rfl (Or.inr ⟨_, rfl⟩) rfl ?_
  refine g_iload_n (n := 32) C dX6_goes_31 rfl rfl ?_
  refine g_iload_n (n := 33) C dX6_goes_32 rfl rfl ?_
  refine g_V (n := 36) (rest := []) C (k6_canStep hE hl hM (Nat.le_of_lt hn9) hPR hSh hk0 e24 hI) dX6_goes_33 kM_X6_canStep kL_X6_133 kV_X6_canStep hM.1 rfl rfl rfl (Nat.le_of_ble_eq_true rfl) ⟨by decide, by decide⟩ ⟨by decide, by decide⟩ rfl (fun v9 L9 f9 hq => ?_)
  obtain ⟨⟨w8, rfl, hw8⟩, rfl, rfl⟩ := hq
  refine G.sk (st' := [_]) rfl ?_
  refine g_if_ne (n := 39) (tgt := 51) C dX6_goes_36 (by decide) rfl (fun h36 => ?_) (fun h36 => ?_)
  · have hc := cdb_t hw8 h36
    refine g_cut (α := Int32) (fun its => itsP A (A 21 d) (A 22 d) its) (fun _ => L) (fun _ => f) (fun _ => 0) (fun _ => 0) 65 (fun _ => [some (.ref mo), some (.int (A 21 d)), some (.int (A 22 d)), some (.int (A 23 d)), none, none]) (fun its => [.int its]) (fun J => ?_) (fun its hits => ?_)
    · skip
      refine g_iload_n (n := 52) C dX6_goes_51 rfl rfl ?_
      refine g_if_ne (n := 55) (tgt := 64) C dX6_goes_52 (by decide) rfl (fun h52 => ?_) (fun h52 => ?_)
      · refine g_iconst (n := 65) (v := nI 0) C dX6_goes_64 rfl rfl ?_
        first | exact J _ (Or.inl ⟨h52, j, hj, ej, rfl⟩) | exact J _ (Or.inr ⟨h52, rfl⟩)
      · obtain ⟨j, hj, ej⟩ := vIns_8 hI h52
        refine g_aload_n (n := 56) C dX6_goes_55 rfl (Or.inr ⟨_, rfl⟩) rfl ?_
        refine m_get (n := 59) C hM dX6_goes_56 kF_X6_7 rfl rfl ?_
        refine g_iload_n (n := 60) C dX6_goes_59 rfl rfl ?_
        refine m_ald (n := 61) C hM dX6_goes_60 rfl rfl ej (by simp only [mLen]; omega) (by decide) rfl ?_
        refine g_goto (tgt := 65) C dX6_goes_61 (by decide) ?_
        first | exact J _ (Or.inl ⟨h52, j, hj, ej, rfl⟩) | exact J _ (Or.inr ⟨h52, rfl⟩)
    · skip
      refine g_istore (n := 67) (ls' := [_, _, _, _, _, _]) C dX6_goes_65 rfl (by decide) rfl ?_
      refine g_aload_n (n := 68) C dX6_goes_67 rfl (Or.inr ⟨_, rfl⟩) rfl ?_
      refine g_iload_n (n := 69) C dX6_goes_68 rfl rfl ?_
      refine g_iload_n (n := 70) C dX6_goes_69 rfl rfl ?_
      refine g_iload_n (n := 71) C dX6_goes_70 rfl rfl ?_
      refine g_iload (n := 73) C dX6_goes_71 rfl rfl ?_
      refine g_V (n := 76) (rest := []) C (k6_cached hE hl hM hN (Nat.le_of_lt hn9) e24 _ _ _ _) dX6_goes_73 kM_X6_cached kL_X6_136 kV_X6_cached hM.1 rfl rfl rfl (Nat.le_of_ble_eq_true rfl) ⟨by decide, by decide⟩ ⟨by decide, by decide⟩ rfl (fun v9 L9 f9 hq => ?_)
      obtain ⟨⟨fm, rfl, hlst⟩, rfl, rfl⟩ := hq
      refine G.sk (st' := [_]) rfl ?_
      cases fm with
      | zero =>
        refine g_istore (n := 78) (ls' := [_, _, _, _, _, _]) C dX6_goes_76 rfl (by decide) rfl ?_
        refine g_aload_n (n := 79) C dX6_goes_78 rfl (Or.inr ⟨_, rfl⟩) rfl ?_
        refine g_dup (n := 80) C dX6_goes_79 rfl rfl ?_
        refine m_get (n := 83) C hM dX6_goes_80 kF_X6_140 rfl rfl ?_
        refine g_iload (n := 85) C dX6_goes_83 rfl rfl ?_
        refine g_iconst (n := 86) (v := -1) C dX6_goes_85 rfl rfl ?_
        refine g_icmp_ne (n := 89) (tgt := 93) C dX6_goes_86 (by decide) rfl (fun h86 => absurd rfl h86) (fun h86 => ?_)
        refine g_iconst (n := 90) (v := nI 0) C dX6_goes_89 rfl rfl ?_
        refine g_goto (tgt := 94) C dX6_goes_90 (by decide) ?_
        refine g_iadd (n := 95) C dX6_goes_94 rfl ?_
        refine m_put (n := 98) C hM dX6_goes_95 kP_X6_140 ⟨rfl, rfl⟩ (by decide) rfl rfl (fun f hM => ?_)
        refine g_aload_n (n := 99) C dX6_goes_98 rfl (Or.inr ⟨_, rfl⟩) rfl ?_
        refine g_dup (n := 100) C dX6_goes_99 rfl rfl ?_
        refine m_get (n := 103) C hM dX6_goes_100 kF_X6_143 rfl rfl ?_
        refine g_iload (n := 105) C dX6_goes_103 rfl rfl ?_
        refine g_iconst (n := 106) (v := -1) C dX6_goes_105 rfl rfl ?_
        refine g_icmp_ne (n := 109) (tgt := 113) C dX6_goes_106 (by decide) rfl (fun h106 => absurd rfl h106) (fun h106 => ?_)
        refine g_iconst (n := 110) (v := nI 1) C dX6_goes_109 rfl rfl ?_
        refine g_goto (tgt := 114) C dX6_goes_110 (by decide) ?_
        refine g_iadd (n := 115) C dX6_goes_114 rfl ?_
        refine m_put (n := 118) C hM dX6_goes_115 kP_X6_143 ⟨rfl, rfl⟩ (by decide) rfl rfl (fun f hM => ?_)
        refine g_aload_n (n := 119) C dX6_goes_118 rfl (Or.inr ⟨_, rfl⟩) rfl ?_
        refine g_iload (n := 121) C dX6_goes_119 rfl rfl ?_
        refine g_iconst (n := 122) (v := -1) C dX6_goes_121 rfl rfl ?_
        refine g_icmp_ne (n := 125) (tgt := 137) C dX6_goes_122 (by decide) rfl (fun h122 => absurd rfl h122) (fun h122 => ?_)
        refine g_aload_n (n := 126) C dX6_goes_125 rfl (Or.inr ⟨_, rfl⟩) rfl ?_
        refine g_iload_n (n := 127) C dX6_goes_126 rfl rfl ?_
        refine g_iload_n (n := 128) C dX6_goes_127 rfl rfl ?_
        refine g_iload_n (n := 129) C dX6_goes_128 rfl rfl ?_
        refine g_iload (n := 131) C dX6_goes_129 rfl rfl ?_
        refine g_V (n := 134) (rest := [_]) C (k6_layerFor hE hl hM hN hn9 hPR hSh hk0 e24 hI) dX6_goes_131 kM_X6_layerFor kL_X6_146 kV_X6_layerFor hM.1 rfl rfl rfl (Nat.le_of_ble_eq_true rfl) ⟨by decide, by decide⟩ ⟨by decide, by decide⟩ rfl (fun v9 L9 f hq => ?_)
        obtain ⟨rfl, rfl, A1, hM, hlf⟩ := hq
        refine G.sk (st' := [_, _]) rfl ?_
        refine g_goto (tgt := 139) C dX6_goes_134 (by decide) ?_
        refine m_put (n := 142) C hM dX6_goes_139 kP_X6_68 ⟨rfl, rfl⟩ (by decide) rfl rfl (fun f hM => ?_)
        refine g_aload_n (n := 143) C dX6_goes_142 rfl (Or.inr ⟨_, rfl⟩) rfl ?_
        refine g_dup (n := 144) C dX6_goes_143 rfl rfl ?_
        refine m_get (n := 147) C hM dX6_goes_144 kF_X6_115 rfl rfl ?_
        refine G.top (y := nI d) e20 ?_
        refine g_iconst (n := 148) (v := nI 1) C dX6_goes_147 rfl rfl ?_
        refine g_iaddN (n := 149) C dX6_goes_148 rfl ?_
        refine m_put (n := 152) C hM dX6_goes_149 kP_X6_115 ⟨rfl, rfl⟩ (by decide) rfl rfl (fun f hM => ?_)
        by_cases hdm : d + 1 = m
        · skip
          refine g_aload_n (n := 153) C dX6_goes_152 rfl (Or.inr ⟨_, rfl⟩) rfl ?_
          refine g_aload_n (n := 154) C dX6_goes_153 rfl (Or.inr ⟨_, rfl⟩) rfl ?_
          refine m_get (n := 157) C hM dX6_goes_154 kF_X6_115 rfl rfl ?_
          refine G.top (y := nI (d + 1)) rfl ?_
          refine g_aload_n (n := 158) C dX6_goes_157 rfl (Or.inr ⟨_, rfl⟩) rfl ?_
          refine m_get (n := 161) C hM dX6_goes_158 kF_X6_112 rfl rfl ?_
          refine G.top (y := nI m) e19 ?_
          refine g_icmp_ne (n := 164) (tgt := 168) C dX6_goes_161 (by decide) rfl (fun h161 => absurd (congrArg nI hdm) h161) (fun h161 => ?_)
          refine g_iconst (n := 165) (v := nI 1) C dX6_goes_164 rfl rfl ?_
          refine g_goto (tgt := 169) C dX6_goes_165 (by decide) ?_
          refine m_put (n := 172) C hM dX6_goes_169 kP_X6_122 ⟨rfl, rfl⟩ (by decide) rfl rfl (fun f hM => ?_)
          refine g_aload_n (n := 173) C dX6_goes_172 rfl (Or.inr ⟨_, rfl⟩) rfl ?_
          refine g_aload_n (n := 174) C dX6_goes_173 rfl (Or.inr ⟨_, rfl⟩) rfl ?_
          refine m_get (n := 177) C hM dX6_goes_174 kF_X6_122 rfl rfl ?_
          refine G.top (y := nI 1) rfl ?_
          refine g_if_ne (n := 180) (tgt := 184) C dX6_goes_177 (by decide) rfl (fun h177 => ?_) (fun h177 => absurd h177 (by decide))
          refine g_iconst (n := 185) (v := nI 0) C dX6_goes_184 rfl rfl ?_
          refine m_put (n := 188) C hM dX6_goes_185 kP_X6_118 ⟨rfl, rfl⟩ (by decide) rfl rfl (fun f hM => ?_)
          refine g_aload_n (n := 189) C dX6_goes_188 rfl (Or.inr ⟨_, rfl⟩) rfl ?_
          refine m_get (n := 192) C hM dX6_goes_189 kF_X6_68 rfl rfl ?_
          refine G.top (y := nI n) rfl ?_
          refine g_iret C hr dX6_goes_192 ?_ ⟨by decide, by decide⟩
          exact ⟨rfl, nI n, A1, _, rfl, hM, Or.inr ⟨hc, its, 0, n, n + 1, hits, hlst, rfl, rfl, Or.inr ⟨rfl, rfl, rfl, hlf, ⟨rfl, by rw [if_pos hdm]; rfl, by rw [if_pos hdm]; rfl, e19, rfl, rfl, rfl, rfl⟩⟩⟩⟩
        · skip
          refine g_aload_n (n := 153) C dX6_goes_152 rfl (Or.inr ⟨_, rfl⟩) rfl ?_
          refine g_aload_n (n := 154) C dX6_goes_153 rfl (Or.inr ⟨_, rfl⟩) rfl ?_
          refine m_get (n := 157) C hM dX6_goes_154 kF_X6_115 rfl rfl ?_
          refine G.top (y := nI (d + 1)) rfl ?_
          refine g_aload_n (n := 158) C dX6_goes_157 rfl (Or.inr ⟨_, rfl⟩) rfl ?_
          refine m_get (n := 161) C hM dX6_goes_158 kF_X6_112 rfl rfl ?_
          refine G.top (y := nI m) e19 ?_
          refine g_icmp_ne (n := 164) (tgt := 168) C dX6_goes_161 (by decide) rfl (fun h161 => ?_) (fun h161 => absurd (gn_inj (by omega) (by omega) h161) hdm)
          refine g_iconst (n := 169) (v := nI 0) C dX6_goes_168 rfl rfl ?_
          refine m_put (n := 172) C hM dX6_goes_169 kP_X6_122 ⟨rfl, rfl⟩ (by decide) rfl rfl (fun f hM => ?_)
          refine g_aload_n (n := 173) C dX6_goes_172 rfl (Or.inr ⟨_, rfl⟩) rfl ?_
          refine g_aload_n (n := 174) C dX6_goes_173 rfl (Or.inr ⟨_, rfl⟩) rfl ?_
          refine m_get (n := 177) C hM dX6_goes_174 kF_X6_122 rfl rfl ?_
          refine G.top (y := nI 0) rfl ?_
          refine g_if_ne (n := 180) (tgt := 184) C dX6_goes_177 (by decide) rfl (fun h177 => absurd rfl h177) (fun h177 => ?_)
          refine g_iconst (n := 181) (v := nI 1) C dX6_goes_180 rfl rfl ?_
          refine g_goto (tgt := 185) C dX6_goes_181 (by decide) ?_
          refine m_put (n := 188) C hM dX6_goes_185 kP_X6_118 ⟨rfl, rfl⟩ (by decide) rfl rfl (fun f hM => ?_)
          refine g_aload_n (n := 189) C dX6_goes_188 rfl (Or.inr ⟨_, rfl⟩) rfl ?_
          refine m_get (n := 192) C hM dX6_goes_189 kF_X6_68 rfl rfl ?_
          refine G.top (y := nI n) rfl ?_
          refine g_iret C hr dX6_goes_192 ?_ ⟨by decide, by decide⟩
          exact ⟨rfl, nI n, A1, _, rfl, hM, Or.inr ⟨hc, its, 0, n, n + 1, hits, hlst, rfl, rfl, Or.inr ⟨rfl, rfl, rfl, hlf, ⟨rfl, by rw [if_neg hdm]; rfl, by rw [if_neg hdm]; rfl, e19, rfl, rfl, rfl, rfl⟩⟩⟩⟩
      | succ k1 =>
        have hk1 : k1 < n := by
          rcases hlst with ⟨h, -⟩ | ⟨j0, h, -, h2, -⟩ <;> omega
        refine g_istore (n := 78) (ls' := [_, _, _, _, _, _]) C dX6_goes_76 rfl (by decide) rfl ?_
        refine g_aload_n (n := 79) C dX6_goes_78 rfl (Or.inr ⟨_, rfl⟩) rfl ?_
        refine g_dup (n := 80) C dX6_goes_79 rfl rfl ?_
        refine m_get (n := 83) C hM dX6_goes_80 kF_X6_140 rfl rfl ?_
        refine g_iload (n := 85) C dX6_goes_83 rfl rfl ?_
        refine g_iconst (n := 86) (v := -1) C dX6_goes_85 rfl rfl ?_
        refine g_icmp_ne (n := 89) (tgt := 93) C dX6_goes_86 (by decide) rfl (fun h86 => ?_) (fun h86 => absurd h86 (gn_ne1 (by omega)))
        refine g_iconst (n := 94) (v := nI 1) C dX6_goes_93 rfl rfl ?_
        refine g_iadd (n := 95) C dX6_goes_94 rfl ?_
        refine m_put (n := 98) C hM dX6_goes_95 kP_X6_140 ⟨rfl, rfl⟩ (by decide) rfl rfl (fun f hM => ?_)
        refine g_aload_n (n := 99) C dX6_goes_98 rfl (Or.inr ⟨_, rfl⟩) rfl ?_
        refine g_dup (n := 100) C dX6_goes_99 rfl rfl ?_
        refine m_get (n := 103) C hM dX6_goes_100 kF_X6_143 rfl rfl ?_
        refine g_iload (n := 105) C dX6_goes_103 rfl rfl ?_
        refine g_iconst (n := 106) (v := -1) C dX6_goes_105 rfl rfl ?_
        refine g_icmp_ne (n := 109) (tgt := 113) C dX6_goes_106 (by decide) rfl (fun h106 => ?_) (fun h106 => absurd h106 (gn_ne1 (by omega)))
        refine g_iconst (n := 114) (v := nI 0) C dX6_goes_113 rfl rfl ?_
        refine g_iadd (n := 115) C dX6_goes_114 rfl ?_
        refine m_put (n := 118) C hM dX6_goes_115 kP_X6_143 ⟨rfl, rfl⟩ (by decide) rfl rfl (fun f hM => ?_)
        refine g_aload_n (n := 119) C dX6_goes_118 rfl (Or.inr ⟨_, rfl⟩) rfl ?_
        refine g_iload (n := 121) C dX6_goes_119 rfl rfl ?_
        refine g_iconst (n := 122) (v := -1) C dX6_goes_121 rfl rfl ?_
        refine g_icmp_ne (n := 125) (tgt := 137) C dX6_goes_122 (by decide) rfl (fun h122 => ?_) (fun h122 => absurd h122 (gn_ne1 (by omega)))
        refine g_iload (n := 139) C dX6_goes_137 rfl rfl ?_
        refine G.top (y := nI k1) rfl ?_
        refine m_put (n := 142) C hM dX6_goes_139 kP_X6_68 ⟨rfl, rfl⟩ (by decide) rfl rfl (fun f hM => ?_)
        refine g_aload_n (n := 143) C dX6_goes_142 rfl (Or.inr ⟨_, rfl⟩) rfl ?_
        refine g_dup (n := 144) C dX6_goes_143 rfl rfl ?_
        refine m_get (n := 147) C hM dX6_goes_144 kF_X6_115 rfl rfl ?_
        refine G.top (y := nI d) e20 ?_
        refine g_iconst (n := 148) (v := nI 1) C dX6_goes_147 rfl rfl ?_
        refine g_iaddN (n := 149) C dX6_goes_148 rfl ?_
        refine m_put (n := 152) C hM dX6_goes_149 kP_X6_115 ⟨rfl, rfl⟩ (by decide) rfl rfl (fun f hM => ?_)
        by_cases hdm : d + 1 = m
        · skip
          refine g_aload_n (n := 153) C dX6_goes_152 rfl (Or.inr ⟨_, rfl⟩) rfl ?_
          refine g_aload_n (n := 154) C dX6_goes_153 rfl (Or.inr ⟨_, rfl⟩) rfl ?_
          refine m_get (n := 157) C hM dX6_goes_154 kF_X6_115 rfl rfl ?_
          refine G.top (y := nI (d + 1)) rfl ?_
          refine g_aload_n (n := 158) C dX6_goes_157 rfl (Or.inr ⟨_, rfl⟩) rfl ?_
          refine m_get (n := 161) C hM dX6_goes_158 kF_X6_112 rfl rfl ?_
          refine G.top (y := nI m) e19 ?_
          refine g_icmp_ne (n := 164) (tgt := 168) C dX6_goes_161 (by decide) rfl (fun h161 => absurd (congrArg nI hdm) h161) (fun h161 => ?_)
          refine g_iconst (n := 165) (v := nI 1) C dX6_goes_164 rfl rfl ?_
          refine g_goto (tgt := 169) C dX6_goes_165 (by decide) ?_
          refine m_put (n := 172) C hM dX6_goes_169 kP_X6_122 ⟨rfl, rfl⟩ (by decide) rfl rfl (fun f hM => ?_)
          refine g_aload_n (n := 173) C dX6_goes_172 rfl (Or.inr ⟨_, rfl⟩) rfl ?_
          refine g_aload_n (n := 174) C dX6_goes_173 rfl (Or.inr ⟨_, rfl⟩) rfl ?_
          refine m_get (n := 177) C hM dX6_goes_174 kF_X6_122 rfl rfl ?_
          refine G.top (y := nI 1) rfl ?_
          refine g_if_ne (n := 180) (tgt := 184) C dX6_goes_177 (by decide) rfl (fun h177 => ?_) (fun h177 => absurd h177 (by decide))
          refine g_iconst (n := 185) (v := nI 0) C dX6_goes_184 rfl rfl ?_
          refine m_put (n := 188) C hM dX6_goes_185 kP_X6_118 ⟨rfl, rfl⟩ (by decide) rfl rfl (fun f hM => ?_)
          refine g_aload_n (n := 189) C dX6_goes_188 rfl (Or.inr ⟨_, rfl⟩) rfl ?_
          refine m_get (n := 192) C hM dX6_goes_189 kF_X6_68 rfl rfl ?_
          refine G.top (y := nI k1) rfl ?_
          refine g_iret C hr dX6_goes_192 ?_ ⟨by decide, by decide⟩
          exact ⟨rfl, nI k1, A, _, rfl, hM, Or.inr ⟨hc, its, k1 + 1, k1, n, hits, hlst, rfl, rfl, Or.inl ⟨rfl, rfl, rfl, ⟨hN, by rw [if_pos hdm]; rfl, by rw [if_pos hdm]; rfl, e19, rfl, rfl, rfl, rfl⟩⟩⟩⟩
        · skip
          refine g_aload_n (n := 153) C dX6_goes_152 rfl (Or.inr ⟨_, rfl⟩) rfl ?_
          refine g_aload_n (n := 154) C dX6_goes_153 rfl (Or.inr ⟨_, rfl⟩) rfl ?_
          refine m_get (n := 157) C hM dX6_goes_154 kF_X6_115 rfl rfl ?_
          refine G.top (y := nI (d + 1)) rfl ?_
          refine g_aload_n (n := 158) C dX6_goes_157 rfl (Or.inr ⟨_, rfl⟩) rfl ?_
          refine m_get (n := 161) C hM dX6_goes_158 kF_X6_112 rfl rfl ?_
          refine G.top (y := nI m) e19 ?_
          refine g_icmp_ne (n := 164) (tgt := 168) C dX6_goes_161 (by decide) rfl (fun h161 => ?_) (fun h161 => absurd (gn_inj (by omega) (by omega) h161) hdm)
          refine g_iconst (n := 169) (v := nI 0) C dX6_goes_168 rfl rfl ?_
          refine m_put (n := 172) C hM dX6_goes_169 kP_X6_122 ⟨rfl, rfl⟩ (by decide) rfl rfl (fun f hM => ?_)
          refine g_aload_n (n := 173) C dX6_goes_172 rfl (Or.inr ⟨_, rfl⟩) rfl ?_
          refine g_aload_n (n := 174) C dX6_goes_173 rfl (Or.inr ⟨_, rfl⟩) rfl ?_
          refine m_get (n := 177) C hM dX6_goes_174 kF_X6_122 rfl rfl ?_
          refine G.top (y := nI 0) rfl ?_
          refine g_if_ne (n := 180) (tgt := 184) C dX6_goes_177 (by decide) rfl (fun h177 => absurd rfl h177) (fun h177 => ?_)
          refine g_iconst (n := 181) (v := nI 1) C dX6_goes_180 rfl rfl ?_
          refine g_goto (tgt := 185) C dX6_goes_181 (by decide) ?_
          refine m_put (n := 188) C hM dX6_goes_185 kP_X6_118 ⟨rfl, rfl⟩ (by decide) rfl rfl (fun f hM => ?_)
          refine g_aload_n (n := 189) C dX6_goes_188 rfl (Or.inr ⟨_, rfl⟩) rfl ?_
          refine m_get (n := 192) C hM dX6_goes_189 kF_X6_68 rfl rfl ?_
          refine G.top (y := nI k1) rfl ?_
          refine g_iret C hr dX6_goes_192 ?_ ⟨by decide, by decide⟩
          exact ⟨rfl, nI k1, A, _, rfl, hM, Or.inr ⟨hc, its, k1 + 1, k1, n, hits, hlst, rfl, rfl, Or.inl ⟨rfl, rfl, rfl, ⟨hN, by rw [if_neg hdm]; rfl, by rw [if_neg hdm]; rfl, e19, rfl, rfl, rfl, rfl⟩⟩⟩⟩
  · have hc := Classical.not_not.mp (cdb_f hw8 h36)
    refine g_aload_n (n := 40) C dX6_goes_39 rfl (Or.inr ⟨_, rfl⟩) rfl ?_
    refine g_iconst (n := 41) (v := nI 0) C dX6_goes_40 rfl rfl ?_
    refine m_put (n := 44) C hM dX6_goes_41 kP_X6_118 ⟨rfl, rfl⟩ (by decide) rfl rfl (fun f hM => ?_)
    refine g_aload_n (n := 45) C dX6_goes_44 rfl (Or.inr ⟨_, rfl⟩) rfl ?_
    refine g_iconst (n := 46) (v := nI 0) C dX6_goes_45 rfl rfl ?_
    refine m_put (n := 49) C hM dX6_goes_46 kP_X6_122 ⟨rfl, rfl⟩ (by decide) rfl rfl (fun f hM => ?_)
    refine g_iconst (n := 50) (v := -1) C dX6_goes_49 rfl rfl ?_
    refine g_iret C hr dX6_goes_50 ?_ ⟨by decide, by decide⟩
    exact ⟨rfl, -1, A, _, rfl, hM, Or.inl ⟨hc, rfl, rfl, ⟨hN, rfl, rfl, e19, e20, e24, rfl, rfl⟩, rfl⟩⟩
theorem k6_step {l : Launch} {s0 : State} {D : va_G} {cy : Nat → ClassId} (hE : gE s0 D cy) (hl : l.stackTraces = false) {mo : Nat} {ad : Nat → Nat} {A : Nat → Nat → Int32} {I : Nat → Int32} {L : List Nat} {f : gF} (hM : IsM cy mo ad A I L f) {n : Nat} (hN : I 7 = nI n) {PR : Nat → Nat} (hPR : vPar A n PR) {S : Nat → Nat → Int32} (hSh : vShow A n PR S) {k0 d m : Nat} (hG : ¬ I 17 = 0 → n < 420 ∧ k0 < n ∧ I 24 = nI k0 ∧ I 20 = nI d ∧ d < m ∧ m ≤ 10 ∧ I 19 = nI m ∧ vIns (A 21 d) (A 22 d) (A 23 d))  : gM l s0 D yX6_step cX6_step 1 (some .int) 4 0 0 [.ref mo] L f (mQ cy mo ad L (fun b9 A1 I1 => ∃ w, cd2 (¬ I 17 = 0) w ∧ (w ≠ 0 → A1 = A ∧ I1 = va_up I 27 (nI w)) ∧ (w = 0 → goR A (va_up I 27 (nI 0)) n S k0 d m b9 A1 I1))) := by
  refine gM.of (own := RX6) hE hl (by decide +kernel) rfl rfl (Nat.le_of_ble_eq_true rfl) (fun p9 e9 s9 m9 a99 b99 t99 c9 C hr hnm => ?_)
  refine G.weak (ls' := [some (.ref mo)]) ?_ rfl (fun _ _ h => h)
  refine g_cut (α := Nat) (fun w => cd2 (¬ I 17 = 0) w) (fun _ => L) (fun _ => f) (fun _ => 0) (fun _ => 0) 13 (fun _ => [some (.ref mo)]) (fun w => [.int (nI w), .ref mo]) (fun J => ?_) (fun w hw => ?_)
  · skip
    refine g_aload_n (n := 1) C dX6_step_0 rfl (Or.inr ⟨_, rfl⟩) rfl ?_
    refine g_aload_n (n := 2) C dX6_step_1 rfl (Or.inr ⟨_, rfl⟩) rfl ?_
    refine m_get (n := 5) C hM dX6_step_2 kF_X6_118 rfl rfl ?_
    refine g_if_eq (n := 8) (tgt := 12) C dX6_step_5 (by decide) rfl (fun h5 => ?_) (fun h5 => ?_)
    · refine g_iconst (n := 13) (v := nI 1) C dX6_step_12 rfl rfl ?_
      exact J _ (by simp [cd2, h5])
    · refine g_iconst (n := 9) (v := nI 0) C dX6_step_8 rfl rfl ?_
      refine g_goto (tgt := 13) C dX6_step_9 (by decide) ?_
      exact J _ (by simp [cd2, h5])
  · skip
    refine g_V (n := 16) (rest := []) C (k6_fails hE hl hM _) dX6_step_13 kM_X6_fails kL_X6_95 kV_X6_fails hM.1 rfl rfl rfl (Nat.le_of_ble_eq_true rfl) ⟨by decide, by decide⟩ ⟨by decide, by decide⟩ rfl (fun v9 L9 f hq => ?_)
    obtain ⟨rfl, hM, rfl⟩ := hq
    refine G.sk (st' := [_]) rfl ?_
    refine g_if_eq (n := 19) (tgt := 23) C dX6_step_16 (by decide) rfl (fun h16 => ?_) (fun h16 => ?_)
    · obtain ⟨rfl, h17⟩ := cd2_f hw h16
      obtain ⟨g1, g2, g3, g4, g5, g6, g7, g8⟩ := hG h17
      refine g_aload_n (n := 24) C dX6_step_23 rfl (Or.inr ⟨_, rfl⟩) rfl ?_
      refine g_V (n := 27) (rest := []) C (k6_goes hE hl hM hN g1 hPR hSh g2 g3 g4 g5 g6 g7 g8) dX6_step_24 kM_X6_goes kL_X6_149 kV_X6_goes hM.1 rfl rfl rfl (Nat.le_of_ble_eq_true rfl) ⟨by decide, by decide⟩ ⟨by decide, by decide⟩ rfl (fun v9 L9 f hq => ?_)
      obtain ⟨rfl, b8, A8, I8, rfl, hM, hgo⟩ := hq
      refine G.sk (st' := [_]) rfl ?_
      refine g_iret C hr dX6_step_27 ?_ ⟨by decide, by decide⟩
      first | exact ⟨rfl, nI 0, A, _, rfl, hM, w, hw, fun _ => ⟨rfl, rfl⟩, fun h => absurd h hw0⟩ | (exact ⟨rfl, b8, A8, I8, rfl, hM, 0, hw, fun h => absurd rfl h, fun _ => hgo⟩)
    · have hw0 := cd_t h16
      refine g_iconst (n := 20) (v := nI 0) C dX6_step_19 rfl rfl ?_
      refine g_goto (tgt := 27) C dX6_step_20 (by decide) ?_
      refine g_iret C hr dX6_step_27 ?_ ⟨by decide, by decide⟩
      first | exact ⟨rfl, nI 0, A, _, rfl, hM, w, hw, fun _ => ⟨rfl, rfl⟩, fun h => absurd h hw0⟩ | (exact ⟨rfl, b8, A8, I8, rfl, hM, 0, hw, fun h => absurd rfl h, fun _ => hgo⟩)
theorem k6_start {l : Launch} {s0 : State} {D : va_G} {cy : Nat → ClassId} (hE : gE s0 D cy) (hl : l.stackTraces = false) {mo : Nat} {ad : Nat → Nat} {A : Nat → Nat → Int32} {I : Nat → Int32} {L : List Nat} {f : gF} (hM : IsM cy mo ad A I L f) (hR : vRec A) {n : Nat} (hN : I 7 = nI n) (hn9 : n ≤ 420) (r : Int32) : gM l s0 D yX6_start cX6_start 2 (some .int) 4 0 0 [.ref mo, .int r] L f (mQ cy mo ad L (fun b9 A1 I1 => ∃ w, cd3 (gin r 4) (I 17 = 0 ∧ n < 400) w ∧ (w ≠ 0 → A1 = A ∧ I1 = va_up I 27 (nI w)) ∧ (w = 0 → ∃ i b m k1 n1 A2, i < 4 ∧ r = nI i ∧ A 2 i = nI b ∧ b < 3 ∧ A 3 i = nI m ∧ m ≤ 10 ∧ rootR A n b k1 n1 A2 ∧ A1 = begA A2 A i m ∧ b9 = nI k1 ∧ iV I1 n1 (nI (if m = 0 then 0 else 1)) (nI (if m = 0 then 1 else 0)) (nI m) (nI 0) (nI k1) (I 25) (I 26) ∧ I1 27 = nI 0))) := by
  refine gM.of (own := RX6) hE hl (by decide +kernel) rfl rfl (Nat.le_of_ble_eq_true rfl) (fun p9 e9 s9 m9 a99 b99 t99 c9 C hr hnm => ?_)
  refine G.weak (ls' := [some (.ref mo), some (.int r)]) ?_ rfl (fun _ _ h => h)
  refine g_cut (α := Nat) (fun w => cd3 (gin r 4) (I 17 = 0 ∧ n < 400) w) (fun _ => L) (fun _ => f) (fun _ => 0) (fun _ => 0) 35 (fun _ => [some (.ref mo), some (.int r)]) (fun w => [.int (nI w), .ref mo]) (fun J => ?_) (fun w hw => ?_)
  · skip
    refine g_aload_n (n := 1) C dX6_start_0 rfl (Or.inr ⟨_, rfl⟩) rfl ?_
    refine g_iload_n (n := 2) C dX6_start_1 rfl rfl ?_
    refine g_iconst (n := 3) (v := nI 4) C dX6_start_2 rfl rfl ?_
    refine g_S (n := 6) (rest := [_]) C (k6_isIn hE hl (r) (nI 4)) dX6_start_3 kM_X6_isIn kL_X6_87 kS_X6_isIn rfl rfl (Nat.le_of_ble_eq_true rfl) ⟨by decide, by decide⟩ ⟨by decide, by decide⟩ rfl (fun v9 L9 f9 hq => ?_)
    obtain ⟨rfl, rfl, rfl⟩ := hq
    refine G.sk (st' := [_, _]) rfl ?_
    refine g_if_ne (n := 9) (tgt := 13) C dX6_start_6 (by decide) rfl (fun h6 => ?_) (fun h6 => ?_)
    · have h6 := gin_t h6 (by decide)
      refine g_aload_n (n := 14) C dX6_start_13 rfl (Or.inr ⟨_, rfl⟩) rfl ?_
      refine m_get (n := 17) C hM dX6_start_14 kF_X6_118 rfl rfl ?_
      refine g_if_ne (n := 20) (tgt := 30) C dX6_start_17 (by decide) rfl (fun h17 => ?_) (fun h17 => ?_)
      · refine g_iconst (n := 31) (v := nI 2) C dX6_start_30 rfl rfl ?_
        refine g_goto (tgt := 35) C dX6_start_31 (by decide) ?_
        exact J _ (by simp [cd3, h6, h17])
      · refine g_aload_n (n := 21) C dX6_start_20 rfl (Or.inr ⟨_, rfl⟩) rfl ?_
        refine m_get (n := 24) C hM dX6_start_21 kF_X6_102 rfl rfl ?_
        refine g_sipush (n := 27) (v := nI 400) C dX6_start_24 rfl rfl ?_
        refine g_icmp_lt (n := 30) (tgt := 34) C dX6_start_27 (by decide) rfl (fun h27 => ?_) (fun h27 => ?_)
        · rw [hN] at h27
          have h27 := (nI_ltI (by omega) (by decide)).mp h27
          refine g_iconst (n := 35) (v := nI 0) C dX6_start_34 rfl rfl ?_
          exact J _ (by simp [cd3, h6, h17, h27])
        · rw [hN] at h27
          have h27 : ¬ n < 400 := fun q => h27 ((nI_ltI (by omega) (by decide)).mpr q)
          refine g_iconst (n := 31) (v := nI 2) C dX6_start_30 rfl rfl ?_
          refine g_goto (tgt := 35) C dX6_start_31 (by decide) ?_
          exact J _ (by simp [cd3, h6, h17, h27])
    · have h6 := gin_f h6 (by decide)
      refine g_iconst (n := 10) (v := nI 1) C dX6_start_9 rfl rfl ?_
      refine g_goto (tgt := 35) C dX6_start_10 (by decide) ?_
      exact J _ (by simp [cd3, h6])
  · skip
    refine g_V (n := 38) (rest := []) C (k6_fails hE hl hM _) dX6_start_35 kM_X6_fails kL_X6_95 kV_X6_fails hM.1 rfl rfl rfl (Nat.le_of_ble_eq_true rfl) ⟨by decide, by decide⟩ ⟨by decide, by decide⟩ rfl (fun v9 L9 f hq => ?_)
    obtain ⟨rfl, hM, rfl⟩ := hq
    refine G.sk (st' := [_]) rfl ?_
    refine g_if_eq (n := 41) (tgt := 43) C dX6_start_38 (by decide) rfl (fun h38 => ?_) (fun h38 => ?_)
    · obtain ⟨rfl, ⟨i, hi, rfl⟩, h17, h400⟩ := cd3_f hw h38
      obtain ⟨m, b, hm9, hb9, e3, e2, -⟩ := hR i hi
      refine g_aload_n (n := 44) C dX6_start_43 rfl (Or.inr ⟨_, rfl⟩) rfl ?_
      refine g_iload_n (n := 45) C dX6_start_44 rfl rfl ?_
      refine g_V (n := 48) (rest := []) C (k6_begins hE hl hM hN (by omega) hi hb9 e2 e3 hm9) dX6_start_45 kM_X6_begins kL_X6_125 kV_X6_begins hM.1 rfl rfl rfl (Nat.le_of_ble_eq_true rfl) ⟨by decide, by decide⟩ ⟨by decide, by decide⟩ rfl (fun v9 L9 f hq => ?_)
      obtain ⟨rfl, k1, n1, A2, I2, rfl, hroot, hM, hiv, h27⟩ := hq
      refine G.sk (st' := []) rfl ?_
      refine g_aload_n (n := 49) C dX6_start_48 rfl (Or.inr ⟨_, rfl⟩) rfl ?_
      refine m_get (n := 52) C hM dX6_start_49 kF_X6_68 rfl rfl ?_
      refine G.top (y := nI k1) hiv.2.2.2.2.2.1 ?_
      refine g_iret C hr dX6_start_52 ?_ ⟨by decide, by decide⟩
      exact ⟨rfl, nI k1, _, I2, rfl, hM, 0, hw, fun h => absurd rfl h, fun _ => ⟨i, b, m, k1, n1, A2, hi, rfl, e2, hb9, e3, hm9, hroot, rfl, rfl, hiv, h27⟩⟩
    · have hw0 := cd_t h38
      refine g_iconst (n := 42) (v := nI 0) C dX6_start_41 rfl rfl ?_
      refine g_iret C hr dX6_start_42 ?_ ⟨by decide, by decide⟩
      exact ⟨rfl, nI 0, A, _, rfl, hM, w, hw, fun _ => ⟨rfl, rfl⟩, fun h => absurd h hw0⟩

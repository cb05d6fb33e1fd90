/-! ===== the reference, VI: builds ===== -/
/-- the numbers of the object -/
def iV (I : Nat → Int32) (n : Nat) (go co m d ly hi mi : Int32) : Prop := I 7 = nI n ∧ I 17 = go ∧ I 18 = co ∧ I 19 = m ∧ I 20 = d ∧ I 24 = ly ∧ I 25 = hi ∧ I 26 = mi
def begA (A1 A : Nat → Nat → Int32) (i q : Nat) : Nat → Nat → Int32 := fun k1 j1 => if k1 = 21 ∧ j1 < q then A 4 (10 * i + j1) else if k1 = 22 ∧ j1 < q then A 5 (10 * i + j1) else if k1 = 23 ∧ j1 < q then A 6 (10 * i + j1) else A1 k1 j1
theorem begA_0 {A1 A : Nat → Nat → Int32} {i : Nat} : begA A1 A i 0 = A1 := by
  funext k1 j1
  simp [begA]
theorem begA_s {A1 A : Nat → Nat → Int32} {i q : Nat} {x y z : Int32} (hx : x = A 4 (10 * i + q)) (hy : y = A 5 (10 * i + q)) (hz : z = A 6 (10 * i + q)) : mU (mU (mU (begA A1 A i q) 21 q x) 22 q y) 23 q z = begA A1 A i (q + 1) := by
  funext k1 j1
  subst hx hy hz
  by_cases e : j1 = q
  · subst e
    by_cases h1 : k1 = 21
    · subst h1; simp [mU, begA]
    · by_cases h2 : k1 = 22
      · subst h2; simp [mU, begA]
      · by_cases h3 : k1 = 23
        · subst h3; simp [mU, begA]
        · simp [mU, begA, h1, h2, h3]
  · have hl : j1 < q + 1 ↔ j1 < q := by omega
    simp [mU, begA, e, hl]
theorem begA_k {A1 A : Nat → Nat → Int32} {i q k1 j1 : Nat} (h : k1 ≠ 21) (h2 : k1 ≠ 22) (h3 : k1 ≠ 23) : begA A1 A i q k1 j1 = A1 k1 j1 := by simp [begA, h, h2, h3]
theorem rootR_k {A A1 : Nat → Nat → Int32} {n b k1 n1 : Nat} (h : rootR A n b k1 n1 A1) {k j : Nat} (h8 : k ≠ 8) (h9 : k ≠ 9) (h10 : k ≠ 10) (h11 : k ≠ 11) (h12 : k ≠ 12) : A1 k j = A k j := by
  rcases h with ⟨-, -, rfl⟩ | ⟨-, -, -, rfl⟩
  · rfl
  · unfold rtA mkA
    rw [upR_k h10, mU_k h12, mU_k h8, mU_k h9, upR_k h11, upR_k h10]
theorem k6_begins {l : Launch} {s0 : State} {D : va_G} {cy : Nat → ClassId} (hE : gE s0 D cy) (hl : l.stackTraces = false) {mo : Nat} {ad : Nat → Nat} {A : Nat → Nat → Int32} {I : Nat → Int32} {L : List Nat} {f : gF} (hM : IsM cy mo ad A I L f) {n i b m : Nat} (hN : I 7 = nI n) (hn9 : n < 420) (hi : i < 4) (hb : b < 3) (e2 : A 2 i = nI b) (e3 : A 3 i = nI m) (hm9 : m ≤ 10) : gM l s0 D yX6_begins cX6_begins 3 none 3 0 0 [.ref mo, .int (nI i)] L f (fun v L1 f1 => L = L1 ∧ ∃ k1 n1 A1 I1, v = none ∧ rootR A n b k1 n1 A1 ∧ IsM cy mo ad (begA A1 A i m) I1 L f1 ∧ iV I1 n1 (nI (if m = 0 then 0 else 1)) (nI (if m = 0 then 1 else 0)) (nI m) (nI 0) (nI k1) (I 25) (I 26) ∧ I1 27 = I 27) := by
  refine gM.of (own := RX6) hE hl (by decide +kernel) rfl rfl (Nat.le_of_ble_eq_true rfl) (fun p9 e9 s9 m9 a99 b99 t99 c9 C hr hnm => ?_)
  refine G.weak (ls' := [some (.ref mo), some (.int (nI i)), none]) ?_ rfl (fun _ _ h => h)
  refine g_aload_n (n := 1) C dX6_begins_0 rfl (Or.inr ⟨_, rfl⟩) rfl ?_
  refine g_aload_n (n := 2) C dX6_begins_1 rfl (Or.inr ⟨_, rfl⟩) rfl ?_
  refine g_aload_n (n := 3) C dX6_begins_2 rfl (Or.inr ⟨_, rfl⟩) rfl ?_
  refine m_get (n := 6) C hM dX6_begins_3 kF_X6_16 rfl rfl ?_
  refine g_iload_n (n := 7) C dX6_begins_6 rfl rfl ?_
  refine m_ald (n := 8) C hM dX6_begins_7 rfl rfl rfl (by simp only [mLen]; omega) (by decide) rfl ?_
  rw [e2]
  refine g_V (n := 11) (rest := [_]) C (k6_root hE hl hM hN hn9 hb) dX6_begins_8 kM_X6_root kL_X6_109 kV_X6_root hM.1 rfl rfl rfl (Nat.le_of_ble_eq_true rfl) ⟨by decide, by decide⟩ ⟨by decide, by decide⟩ rfl (fun v9 L9 f hq => ?_)
  obtain ⟨rfl, k1, n1, A1, rfl, hM, hroot⟩ := hq
  have e3 : A1 3 i = nI m := (rootR_k hroot (by decide) (by decide) (by decide) (by decide) (by decide)).trans e3
  refine G.sk (st' := [_, _]) rfl ?_
  refine m_put (n := 14) C hM dX6_begins_11 kP_X6_68 ⟨rfl, rfl⟩ (by decide) rfl rfl (fun f hM => ?_)
  refine g_aload_n (n := 15) C dX6_begins_14 rfl (Or.inr ⟨_, rfl⟩) rfl ?_
  refine g_aload_n (n := 16) C dX6_begins_15 rfl (Or.inr ⟨_, rfl⟩) rfl ?_
  refine m_get (n := 19) C hM dX6_begins_16 kF_X6_19 rfl rfl ?_
  refine g_iload_n (n := 20) C dX6_begins_19 rfl rfl ?_
  refine m_ald (n := 21) C hM dX6_begins_20 rfl rfl rfl (by simp only [mLen]; omega) (by decide) rfl ?_
  rw [e3]
  refine m_put (n := 24) C hM dX6_begins_21 kP_X6_112 ⟨rfl, rfl⟩ (by decide) rfl rfl (fun f hM => ?_)
  refine g_aload_n (n := 25) C dX6_begins_24 rfl (Or.inr ⟨_, rfl⟩) rfl ?_
  refine g_iconst (n := 26) (v := nI 0) C dX6_begins_25 rfl rfl ?_
  refine m_put (n := 29) C hM dX6_begins_26 kP_X6_115 ⟨rfl, rfl⟩ (by decide) rfl rfl (fun f hM => ?_)
  refine g_iconst (n := 30) (v := nI 0) C dX6_begins_29 rfl rfl ?_
  refine g_istore_n (n := 31) (ls' := [_, _, _]) C dX6_begins_30 rfl (by decide) rfl ?_
  generalize hI2 : va_up (va_up (va_up (va_up I 7 (nI n1)) 24 (nI k1)) 19 (nI m)) 20 (nI 0) = I2 at hM
  have e19 : I2 19 = nI m := by rw [← hI2]; rfl
  have e7 : I2 7 = nI n1 := by rw [← hI2]; rfl
  have e24 : I2 24 = nI k1 := by rw [← hI2]; rfl
  have e20 : I2 20 = nI 0 := by rw [← hI2]; rfl
  have e25 : I2 25 = I 25 := by rw [← hI2]; rfl
  have e26 : I2 26 = I 26 := by rw [← hI2]; rfl
  have e27 : I2 27 = I 27 := by rw [← hI2]; rfl
  refine g_loop (α := Nat × gF) (fun z => z.1 ≤ m ∧ IsM cy mo ad (begA A1 A i z.1) I2 L z.2) (fun z => m - z.1) (fun _ => L) (fun z => z.2) (fun _ => _) (fun _ => _) 31 (fun z => [some (.ref mo), some (.int (nI i)), some (.int (nI z.1))]) (fun _ => []) (fun z hz ih => ?_) (fun J => J (0, f) ⟨Nat.zero_le _, by rw [begA_0]; exact hM⟩)
  obtain ⟨q, f⟩ := z
  obtain ⟨hq9, hM⟩ := hz
  dsimp only at hq9 hM ih ⊢
  refine g_iload_n (n := 32) C dX6_begins_31 rfl rfl ?_
  refine g_aload_n (n := 33) C dX6_begins_32 rfl (Or.inr ⟨_, rfl⟩) rfl ?_
  refine m_get (n := 36) C hM dX6_begins_33 kF_X6_112 rfl rfl ?_
  rw [e19]
  refine g_icmp_ge (n := 39) (tgt := 96) C dX6_begins_36 (by decide) rfl (fun h36 => ?_) (fun h36 => ?_)
  · have e9 : m = q := by have := gn_ge h36 (by omega) (by omega); omega
    subst e9
    refine g_aload_n (n := 97) C dX6_begins_96 rfl (Or.inr ⟨_, rfl⟩) rfl ?_
    refine g_aload_n (n := 98) C dX6_begins_97 rfl (Or.inr ⟨_, rfl⟩) rfl ?_
    refine m_get (n := 101) C hM dX6_begins_98 kF_X6_112 rfl rfl ?_
    rw [e19]
    refine g_if_le (n := 104) (tgt := 108) C dX6_begins_101 (by decide) rfl (fun h101 => ?_) (fun h101 => ?_)
    · refine g_iconst (n := 109) (v := nI 0) C dX6_begins_108 rfl rfl ?_
      refine m_put (n := 112) C hM dX6_begins_109 kP_X6_118 ⟨rfl, rfl⟩ (by decide) rfl rfl (fun f hM => ?_)
      refine g_aload_n (n := 113) C dX6_begins_112 rfl (Or.inr ⟨_, rfl⟩) rfl ?_
      refine g_aload_n (n := 114) C dX6_begins_113 rfl (Or.inr ⟨_, rfl⟩) rfl ?_
      refine m_get (n := 117) C hM dX6_begins_114 kF_X6_112 rfl rfl ?_
      rw [show va_up I2 17 _ 19 = nI m from e19]
      refine g_if_ne (n := 120) (tgt := 124) C dX6_begins_117 (by decide) rfl (fun h117 => ?_) (fun h117 => ?_)
      · refine g_iconst (n := 125) (v := nI 0) C dX6_begins_124 rfl rfl ?_
        refine m_put (n := 128) C hM dX6_begins_125 kP_X6_122 ⟨rfl, rfl⟩ (by decide) rfl rfl (fun f hM => ?_)
        refine g_vret C hr dX6_begins_128 ?_ ⟨by decide, by decide⟩
        have hq0 : m < 2 ^ 31 := by omega
        refine ⟨rfl, k1, n1, A1, _, rfl, hroot, hM, ⟨e7, ?_, ?_, e19, e20, e24, e25, e26⟩, e27⟩
        · first | (rw [if_neg (fun h => h117 (congrArg nI h))]; exact absurd (gn_le0 h101 hq0) (fun h => h117 (congrArg nI h))) | (rw [if_pos (gn_le0 h101 hq0)]; rfl) | (rw [if_neg (fun h => h101 (by rw [h]; decide))]; rfl)
        · first | (rw [if_pos (gn_le0 h101 hq0)]; first | rfl | exact absurd (congrArg nI (gn_le0 h101 hq0)) h117) | (rw [if_neg (fun h => h101 (by rw [h]; decide))]; first | rfl | exact absurd (by rw [gn_inj hq0 (by decide) h117]; decide) h101)
      · refine g_iconst (n := 121) (v := nI 1) C dX6_begins_120 rfl rfl ?_
        refine g_goto (tgt := 125) C dX6_begins_121 (by decide) ?_
        refine m_put (n := 128) C hM dX6_begins_125 kP_X6_122 ⟨rfl, rfl⟩ (by decide) rfl rfl (fun f hM => ?_)
        refine g_vret C hr dX6_begins_128 ?_ ⟨by decide, by decide⟩
        have hq0 : m < 2 ^ 31 := by omega
        refine ⟨rfl, k1, n1, A1, _, rfl, hroot, hM, ⟨e7, ?_, ?_, e19, e20, e24, e25, e26⟩, e27⟩
        · first | (rw [if_neg (fun h => h117 (congrArg nI h))]; exact absurd (gn_le0 h101 hq0) (fun h => h117 (congrArg nI h))) | (rw [if_pos (gn_le0 h101 hq0)]; rfl) | (rw [if_neg (fun h => h101 (by rw [h]; decide))]; rfl)
        · first | (rw [if_pos (gn_le0 h101 hq0)]; first | rfl | exact absurd (congrArg nI (gn_le0 h101 hq0)) h117) | (rw [if_neg (fun h => h101 (by rw [h]; decide))]; first | rfl | exact absurd (by rw [gn_inj hq0 (by decide) h117]; decide) h101)
    · refine g_iconst (n := 105) (v := nI 1) C dX6_begins_104 rfl rfl ?_
      refine g_goto (tgt := 109) C dX6_begins_105 (by decide) ?_
      refine m_put (n := 112) C hM dX6_begins_109 kP_X6_118 ⟨rfl, rfl⟩ (by decide) rfl rfl (fun f hM => ?_)
      refine g_aload_n (n := 113) C dX6_begins_112 rfl (Or.inr ⟨_, rfl⟩) rfl ?_
      refine g_aload_n (n := 114) C dX6_begins_113 rfl (Or.inr ⟨_, rfl⟩) rfl ?_
      refine m_get (n := 117) C hM dX6_begins_114 kF_X6_112 rfl rfl ?_
      rw [show va_up I2 17 _ 19 = nI m from e19]
      refine g_if_ne (n := 120) (tgt := 124) C dX6_begins_117 (by decide) rfl (fun h117 => ?_) (fun h117 => ?_)
      · refine g_iconst (n := 125) (v := nI 0) C dX6_begins_124 rfl rfl ?_
        refine m_put (n := 128) C hM dX6_begins_125 kP_X6_122 ⟨rfl, rfl⟩ (by decide) rfl rfl (fun f hM => ?_)
        refine g_vret C hr dX6_begins_128 ?_ ⟨by decide, by decide⟩
        have hq0 : m < 2 ^ 31 := by omega
        refine ⟨rfl, k1, n1, A1, _, rfl, hroot, hM, ⟨e7, ?_, ?_, e19, e20, e24, e25, e26⟩, e27⟩
        · first | (rw [if_neg (fun h => h117 (congrArg nI h))]; exact absurd (gn_le0 h101 hq0) (fun h => h117 (congrArg nI h))) | (rw [if_pos (gn_le0 h101 hq0)]; rfl) | (rw [if_neg (fun h => h101 (by rw [h]; decide))]; rfl)
        · first | (rw [if_pos (gn_le0 h101 hq0)]; first | rfl | exact absurd (congrArg nI (gn_le0 h101 hq0)) h117) | (rw [if_neg (fun h => h101 (by rw [h]; decide))]; first | rfl | exact absurd (by rw [gn_inj hq0 (by decide) h117]; decide) h101)
      · refine g_iconst (n := 121) (v := nI 1) C dX6_begins_120 rfl rfl ?_
        refine g_goto (tgt := 125) C dX6_begins_121 (by decide) ?_
        refine m_put (n := 128) C hM dX6_begins_125 kP_X6_122 ⟨rfl, rfl⟩ (by decide) rfl rfl (fun f hM => ?_)
        refine g_vret C hr dX6_begins_128 ?_ ⟨by decide, by decide⟩
        have hq0 : m < 2 ^ 31 := by omega
        refine ⟨rfl, k1, n1, A1, _, rfl, hroot, hM, ⟨e7, ?_, ?_, e19, e20, e24, e25, e26⟩, e27⟩
        · first | (rw [if_neg (fun h => h117 (congrArg nI h))]; exact absurd (gn_le0 h101 hq0) (fun h => h117 (congrArg nI h))) | (rw [if_pos (gn_le0 h101 hq0)]; rfl) | (rw [if_neg (fun h => h101 (by rw [h]; decide))]; rfl)
        · first | (rw [if_pos (gn_le0 h101 hq0)]; first | rfl | exact absurd (congrArg nI (gn_le0 h101 hq0)) h117) | (rw [if_neg (fun h => h101 (by rw [h]; decide))]; first | rfl | exact absurd (by rw [gn_inj hq0 (by decide) h117]; decide) h101)
  · have hi : q < m := gn_gt h36 (by omega) (by omega)
    refine g_aload_n (n := 40) C dX6_begins_39 rfl (Or.inr ⟨_, rfl⟩) rfl ?_
    refine m_get (n := 43) C hM dX6_begins_40 kF_X6_59 rfl rfl ?_
    refine g_iload_n (n := 44) C dX6_begins_43 rfl rfl ?_
    refine g_aload_n (n := 45) C dX6_begins_44 rfl (Or.inr ⟨_, rfl⟩) rfl ?_
    refine m_get (n := 48) C hM dX6_begins_45 kF_X6_22 rfl rfl ?_
    refine g_bipush (n := 50) (v := nI 10) C dX6_begins_48 rfl rfl ?_
    refine g_iload_n (n := 51) C dX6_begins_50 rfl rfl ?_
    refine g_imulN (n := 52) C dX6_begins_51 rfl ?_
    refine g_iload_n (n := 53) C dX6_begins_52 rfl rfl ?_
    refine g_iaddN (n := 54) C dX6_begins_53 rfl ?_
    refine m_ald (n := 55) C hM dX6_begins_54 rfl rfl rfl (by simp only [mLen]; omega) (by decide) rfl ?_
    refine G.top (y := A 4 (10 * i + q)) (by rw [begA_k (by decide) (by decide) (by decide)]; exact rootR_k hroot (by decide) (by decide) (by decide) (by decide) (by decide)) ?_
    refine m_ast (n := 56) C hM dX6_begins_55 rfl rfl rfl (by simp only [mLen]; omega) (by decide) rfl (fun f hM => ?_)
    refine g_aload_n (n := 57) C dX6_begins_56 rfl (Or.inr ⟨_, rfl⟩) rfl ?_
    refine m_get (n := 60) C hM dX6_begins_57 kF_X6_62 rfl rfl ?_
    refine g_iload_n (n := 61) C dX6_begins_60 rfl rfl ?_
    refine g_aload_n (n := 62) C dX6_begins_61 rfl (Or.inr ⟨_, rfl⟩) rfl ?_
    refine m_get (n := 65) C hM dX6_begins_62 kF_X6_25 rfl rfl ?_
    refine g_bipush (n := 67) (v := nI 10) C dX6_begins_65 rfl rfl ?_
    refine g_iload_n (n := 68) C dX6_begins_67 rfl rfl ?_
    refine g_imulN (n := 69) C dX6_begins_68 rfl ?_
    refine g_iload_n (n := 70) C dX6_begins_69 rfl rfl ?_
    refine g_iaddN (n := 71) C dX6_begins_70 rfl ?_
    refine m_ald (n := 72) C hM dX6_begins_71 rfl rfl rfl (by simp only [mLen]; omega) (by decide) rfl ?_
    refine G.top (y := A 5 (10 * i + q)) (by rw [mU_k (by decide), begA_k (by decide) (by decide) (by decide)]; exact rootR_k hroot (by decide) (by decide) (by decide) (by decide) (by decide)) ?_
    refine m_ast (n := 73) C hM dX6_begins_72 rfl rfl rfl (by simp only [mLen]; omega) (by decide) rfl (fun f hM => ?_)
    refine g_aload_n (n := 74) C dX6_begins_73 rfl (Or.inr ⟨_, rfl⟩) rfl ?_
    refine m_get (n := 77) C hM dX6_begins_74 kF_X6_65 rfl rfl ?_
    refine g_iload_n (n := 78) C dX6_begins_77 rfl rfl ?_
    refine g_aload_n (n := 79) C dX6_begins_78 rfl (Or.inr ⟨_, rfl⟩) rfl ?_
    refine m_get (n := 82) C hM dX6_begins_79 kF_X6_28 rfl rfl ?_
    refine g_bipush (n := 84) (v := nI 10) C dX6_begins_82 rfl rfl ?_
    refine g_iload_n (n := 85) C dX6_begins_84 rfl rfl ?_
    refine g_imulN (n := 86) C dX6_begins_85 rfl ?_
    refine g_iload_n (n := 87) C dX6_begins_86 rfl rfl ?_
    refine g_iaddN (n := 88) C dX6_begins_87 rfl ?_
    refine m_ald (n := 89) C hM dX6_begins_88 rfl rfl rfl (by simp only [mLen]; omega) (by decide) rfl ?_
    refine G.top (y := A 6 (10 * i + q)) (by rw [mU_k (by decide), mU_k (by decide), begA_k (by decide) (by decide) (by decide)]; exact rootR_k hroot (by decide) (by decide) (by decide) (by decide) (by decide)) ?_
    refine m_ast (n := 90) C hM dX6_begins_89 rfl rfl rfl (by simp only [mLen]; omega) (by decide) rfl (fun f hM => ?_)
    refine g_iinc (n := 93) (ls' := [_, _, _]) C dX6_begins_90 rfl (nI_1 _) rfl (by decide) rfl ?_
    refine g_goto (tgt := 31) C dX6_begins_93 (by decide) ?_
    rw [begA_s rfl rfl rfl] at hM
    exact ih (q + 1, f) ⟨by show q + 1 ≤ m; omega, hM⟩ (by show m - (q + 1) < m - q; omega)
/-- an instruction fails on layer k -/
def failP (A : Nat → Nat → Int32) (S : Nat → Nat → Int32) (k : Nat) (what a : Int32) : Prop := (what = nI 0 ∧ ∃ j, j < 8 ∧ a = nI j ∧ A 0 j = -1) ∨ ((what = nI 2 ∨ what = nI 3) ∧ ∃ q, q < 12 ∧ a = nI q ∧ S k q = -1)
theorem vIns_8 {k a b : Int32} (h : vIns k a b) (e : k = nI 0) : gin a 8 := by
  subst e
  rcases h with ⟨-, h, -⟩ | ⟨h, -⟩ | ⟨h, -⟩ | ⟨h, -⟩ | ⟨h, -⟩
  · exact h
  all_goals exact absurd h (by decide)
theorem vIns_12 {k a b : Int32} (h : vIns k a b) (e : k = nI 2 ∨ k = nI 3) : gin a 12 := by
  rcases e with e | e <;> subst e <;> rcases h with ⟨h, -⟩ | ⟨h, -⟩ | ⟨h, h2, -⟩ | ⟨h, h2⟩ | ⟨h, -⟩ <;> first | exact h2 | exact absurd h (by decide)
theorem fp_n0 {A S : Nat → Nat → Int32} {k j : Nat} {what : Int32} (h : what = nI 0) (hj : j < 8) (h1 : ¬ A 0 j = -1) : ¬ failP A S k what (nI j) := by
  rintro (⟨-, i, hi, e, h2⟩ | ⟨h2, -⟩)
  · have := gn_inj (by omega) (by omega) e
    subst this
    exact h1 h2
  · rcases h2 with h2 | h2 <;> exact absurd (h.symm.trans h2) (by decide)
theorem fp_n2 {A S : Nat → Nat → Int32} {k q : Nat} {what : Int32} (h : what = nI 2 ∨ what = nI 3) (hq : q < 12) (h1 : ¬ S k q = -1) : ¬ failP A S k what (nI q) := by
  rintro (⟨h2, -⟩ | ⟨-, i, hi, e, h2⟩)
  · rcases h with h | h <;> exact absurd (h.symm.trans h2) (by decide)
  · have := gn_inj (by omega) (by omega) e
    subst this
    exact h1 h2
theorem fp_n1 {A S : Nat → Nat → Int32} {k : Nat} {what a : Int32} (h0 : ¬ what = nI 0) (h2 : ¬ what = nI 2) (h3 : ¬ what = nI 3) : ¬ failP A S k what a := by
  rintro (⟨h, -⟩ | ⟨h | h, -⟩)
  · exact h0 h
  · exact h2 h
  · exact h3 h
theorem k6_canStep {l : Launch} {s0 : State} {D : va_G} {cy : Nat → ClassId} (hE : gE s0 D cy) (hl : l.stackTraces = false) {mo : Nat} {ad : Nat → Nat} {A : Nat → Nat → Int32} {I : Nat → Int32} {L : List Nat} {f : gF} (hM : IsM cy mo ad A I L f) {n : Nat} (hn9 : n ≤ 420) {PR : Nat → Nat} (hPR : vPar A n PR) {S : Nat → Nat → Int32} (hSh : vShow A n PR S) {k0 : Nat} (hk0 : k0 < n) (e24 : I 24 = nI k0) {what a b : Int32} (hI : vIns what a b) : gM l s0 D yX6_canStep cX6_canStep 3 (some .boolean) 2 0 0 [.ref mo, .int what, .int a] L f (fun v L1 f1 => (∃ w, v = some (.int (nI w)) ∧ cdb (¬ failP A S k0 what a) w) ∧ L = L1 ∧ f = f1) := by
  refine gM.of (own := RX6) hE hl (by decide +kernel) rfl rfl (Nat.le_of_ble_eq_true rfl) (fun p9 e9 s9 m9 a99 b99 t99 c9 C hr hnm => ?_)
  refine G.weak (ls' := [some (.ref mo), some (.int what), some (.int a)]) ?_ rfl (fun _ _ h => h)
  refine g_iload_n (n := 1) C dX6_canStep_0 rfl rfl ?_
  refine g_if_ne (n := 4) (tgt := 22) C dX6_canStep_1 (by decide) rfl (fun h1 => ?_) (fun h1 => ?_)
  · refine g_iload_n (n := 23) C dX6_canStep_22 rfl rfl ?_
    refine g_iconst (n := 24) (v := nI 2) C dX6_canStep_23 rfl rfl ?_
    refine g_icmp_eq (n := 27) (tgt := 32) C dX6_canStep_24 (by decide) rfl (fun h24 => ?_) (fun h24 => ?_)
    · have h23 : what = nI 2 ∨ what = nI 3 := Or.inl h24
      obtain ⟨q, hq9, rfl⟩ := vIns_12 hI h23
      refine g_aload_n (n := 33) C dX6_canStep_32 rfl (Or.inr ⟨_, rfl⟩) rfl ?_
      refine g_aload_n (n := 34) C dX6_canStep_33 rfl (Or.inr ⟨_, rfl⟩) rfl ?_
      refine m_get (n := 37) C hM dX6_canStep_34 kF_X6_68 rfl rfl ?_
      refine g_iload_n (n := 38) C dX6_canStep_37 rfl rfl ?_
      rw [e24]
      refine g_V (n := 41) (rest := []) C (k6_shows hE hl hM hn9 hPR hSh hk0 hq9) dX6_canStep_38 kM_X6_shows kL_X6_129 kV_X6_shows hM.1 rfl rfl rfl (Nat.le_of_ble_eq_true rfl) ⟨by decide, by decide⟩ ⟨by decide, by decide⟩ rfl (fun v9 L9 f9 hq => ?_)
      obtain ⟨rfl, rfl, rfl⟩ := hq
      refine G.sk (st' := [_]) rfl ?_
      refine g_iconst (n := 42) (v := -1) C dX6_canStep_41 rfl rfl ?_
      refine g_icmp_eq (n := 45) (tgt := 49) C dX6_canStep_42 (by decide) rfl (fun h42 => ?_) (fun h42 => ?_)
      · refine g_iconst (n := 50) (v := nI 0) C dX6_canStep_49 rfl rfl ?_
        refine g_goto (tgt := 54) C dX6_canStep_50 (by decide) ?_
        refine g_zret C hr rfl dX6_canStep_54 ?_ ⟨by decide, by decide⟩
        refine ⟨⟨_, rfl, ?_⟩, rfl, rfl⟩
        first | exact Or.inl ⟨rfl, fp_n0 h1 hj h11⟩ | exact Or.inr ⟨rfl, fun z => z (Or.inl ⟨h1, j, hj, rfl, h11⟩)⟩ | exact Or.inl ⟨rfl, fp_n2 h23 hq9 h42⟩ | exact Or.inr ⟨rfl, fun z => z (Or.inr ⟨h23, q, hq9, rfl, h42⟩)⟩ | exact Or.inl ⟨rfl, fp_n1 h1 h24 h29⟩
      · refine g_iconst (n := 46) (v := nI 1) C dX6_canStep_45 rfl rfl ?_
        refine g_goto (tgt := 54) C dX6_canStep_46 (by decide) ?_
        refine g_zret C hr rfl dX6_canStep_54 ?_ ⟨by decide, by decide⟩
        refine ⟨⟨_, rfl, ?_⟩, rfl, rfl⟩
        first | exact Or.inl ⟨rfl, fp_n0 h1 hj h11⟩ | exact Or.inr ⟨rfl, fun z => z (Or.inl ⟨h1, j, hj, rfl, h11⟩)⟩ | exact Or.inl ⟨rfl, fp_n2 h23 hq9 h42⟩ | exact Or.inr ⟨rfl, fun z => z (Or.inr ⟨h23, q, hq9, rfl, h42⟩)⟩ | exact Or.inl ⟨rfl, fp_n1 h1 h24 h29⟩
    · refine g_iload_n (n := 28) C dX6_canStep_27 rfl rfl ?_
      refine g_iconst (n := 29) (v := nI 3) C dX6_canStep_28 rfl rfl ?_
      refine g_icmp_ne (n := 32) (tgt := 53) C dX6_canStep_29 (by decide) rfl (fun h29 => ?_) (fun h29 => ?_)
      · refine g_iconst (n := 54) (v := nI 1) C dX6_canStep_53 rfl rfl ?_
        refine g_zret C hr rfl dX6_canStep_54 ?_ ⟨by decide, by decide⟩
        refine ⟨⟨_, rfl, ?_⟩, rfl, rfl⟩
        first | exact Or.inl ⟨rfl, fp_n0 h1 hj h11⟩ | exact Or.inr ⟨rfl, fun z => z (Or.inl ⟨h1, j, hj, rfl, h11⟩)⟩ | exact Or.inl ⟨rfl, fp_n2 h23 hq9 h42⟩ | exact Or.inr ⟨rfl, fun z => z (Or.inr ⟨h23, q, hq9, rfl, h42⟩)⟩ | exact Or.inl ⟨rfl, fp_n1 h1 h24 h29⟩
      · have h23 : what = nI 2 ∨ what = nI 3 := Or.inr h29
        obtain ⟨q, hq9, rfl⟩ := vIns_12 hI h23
        refine g_aload_n (n := 33) C dX6_canStep_32 rfl (Or.inr ⟨_, rfl⟩) rfl ?_
        refine g_aload_n (n := 34) C dX6_canStep_33 rfl (Or.inr ⟨_, rfl⟩) rfl ?_
        refine m_get (n := 37) C hM dX6_canStep_34 kF_X6_68 rfl rfl ?_
        refine g_iload_n (n := 38) C dX6_canStep_37 rfl rfl ?_
        rw [e24]
        refine g_V (n := 41) (rest := []) C (k6_shows hE hl hM hn9 hPR hSh hk0 hq9) dX6_canStep_38 kM_X6_shows kL_X6_129 kV_X6_shows hM.1 rfl rfl rfl (Nat.le_of_ble_eq_true rfl) ⟨by decide, by decide⟩ ⟨by decide, by decide⟩ rfl (fun v9 L9 f9 hq => ?_)
        obtain ⟨rfl, rfl, rfl⟩ := hq
        refine G.sk (st' := [_]) rfl ?_
        refine g_iconst (n := 42) (v := -1) C dX6_canStep_41 rfl rfl ?_
        refine g_icmp_eq (n := 45) (tgt := 49) C dX6_canStep_42 (by decide) rfl (fun h42 => ?_) (fun h42 => ?_)
        · refine g_iconst (n := 50) (v := nI 0) C dX6_canStep_49 rfl rfl ?_
          refine g_goto (tgt := 54) C dX6_canStep_50 (by decide) ?_
          refine g_zret C hr rfl dX6_canStep_54 ?_ ⟨by decide, by decide⟩
          refine ⟨⟨_, rfl, ?_⟩, rfl, rfl⟩
          first | exact Or.inl ⟨rfl, fp_n0 h1 hj h11⟩ | exact Or.inr ⟨rfl, fun z => z (Or.inl ⟨h1, j, hj, rfl, h11⟩)⟩ | exact Or.inl ⟨rfl, fp_n2 h23 hq9 h42⟩ | exact Or.inr ⟨rfl, fun z => z (Or.inr ⟨h23, q, hq9, rfl, h42⟩)⟩ | exact Or.inl ⟨rfl, fp_n1 h1 h24 h29⟩
        · refine g_iconst (n := 46) (v := nI 1) C dX6_canStep_45 rfl rfl ?_
          refine g_goto (tgt := 54) C dX6_canStep_46 (by decide) ?_
          refine g_zret C hr rfl dX6_canStep_54 ?_ ⟨by decide, by decide⟩
          refine ⟨⟨_, rfl, ?_⟩, rfl, rfl⟩
          first | exact Or.inl ⟨rfl, fp_n0 h1 hj h11⟩ | exact Or.inr ⟨rfl, fun z => z (Or.inl ⟨h1, j, hj, rfl, h11⟩)⟩ | exact Or.inl ⟨rfl, fp_n2 h23 hq9 h42⟩ | exact Or.inr ⟨rfl, fun z => z (Or.inr ⟨h23, q, hq9, rfl, h42⟩)⟩ | exact Or.inl ⟨rfl, fp_n1 h1 h24 h29⟩
  · obtain ⟨j, hj, rfl⟩ := vIns_8 hI h1
    refine g_aload_n (n := 5) C dX6_canStep_4 rfl (Or.inr ⟨_, rfl⟩) rfl ?_
    refine m_get (n := 8) C hM dX6_canStep_5 kF_X6_7 rfl rfl ?_
    refine g_iload_n (n := 9) C dX6_canStep_8 rfl rfl ?_
    refine m_ald (n := 10) C hM dX6_canStep_9 rfl rfl rfl (by simp only [mLen]; omega) (by decide) rfl ?_
    refine g_iconst (n := 11) (v := -1) C dX6_canStep_10 rfl rfl ?_
    refine g_icmp_eq (n := 14) (tgt := 18) C dX6_canStep_11 (by decide) rfl (fun h11 => ?_) (fun h11 => ?_)
    · refine g_iconst (n := 19) (v := nI 0) C dX6_canStep_18 rfl rfl ?_
      refine g_goto (tgt := 54) C dX6_canStep_19 (by decide) ?_
      refine g_zret C hr rfl dX6_canStep_54 ?_ ⟨by decide, by decide⟩
      refine ⟨⟨_, rfl, ?_⟩, rfl, rfl⟩
      first | exact Or.inl ⟨rfl, fp_n0 h1 hj h11⟩ | exact Or.inr ⟨rfl, fun z => z (Or.inl ⟨h1, j, hj, rfl, h11⟩)⟩ | exact Or.inl ⟨rfl, fp_n2 h23 hq9 h42⟩ | exact Or.inr ⟨rfl, fun z => z (Or.inr ⟨h23, q, hq9, rfl, h42⟩)⟩ | exact Or.inl ⟨rfl, fp_n1 h1 h24 h29⟩
    · refine g_iconst (n := 15) (v := nI 1) C dX6_canStep_14 rfl rfl ?_
      refine g_goto (tgt := 54) C dX6_canStep_15 (by decide) ?_
      refine g_zret C hr rfl dX6_canStep_54 ?_ ⟨by decide, by decide⟩
      refine ⟨⟨_, rfl, ?_⟩, rfl, rfl⟩
      first | exact Or.inl ⟨rfl, fp_n0 h1 hj h11⟩ | exact Or.inr ⟨rfl, fun z => z (Or.inl ⟨h1, j, hj, rfl, h11⟩)⟩ | exact Or.inl ⟨rfl, fp_n2 h23 hq9 h42⟩ | exact Or.inr ⟨rfl, fun z => z (Or.inr ⟨h23, q, hq9, rfl, h42⟩)⟩ | exact Or.inl ⟨rfl, fp_n1 h1 h24 h29⟩
def mdP (A : Nat → Nat → Int32) (k0 : Nat) (what a b its : Int32) (k : Nat) : Prop := A 8 k = 0 ∧ A 12 k = what ∧ A 9 k = nI k0 ∧ A 13 k = a ∧ A 14 k = b ∧ A 15 k = its
theorem k6_cached {l : Launch} {s0 : State} {D : va_G} {cy : Nat → ClassId} (hE : gE s0 D cy) (hl : l.stackTraces = false) {mo : Nat} {ad : Nat → Nat} {A : Nat → Nat → Int32} {I : Nat → Int32} {L : List Nat} {f : gF} (hM : IsM cy mo ad A I L f) {n k0 : Nat} (hN : I 7 = nI n) (hn9 : n ≤ 420) (e24 : I 24 = nI k0) (what a b its : Int32) : gM l s0 D yX6_cached cX6_cached 8 (some .int) 1 0 0 [.ref mo, .int what, .int a, .int b, .int its] L f (fun v L1 f1 => (∃ fm, v = some (.int (pI fm)) ∧ lst (mdP A k0 what a b its) 0 n fm) ∧ L = L1 ∧ f = f1) := by
  refine gM.of (own := RX6) hE hl (by decide +kernel) rfl rfl (Nat.le_of_ble_eq_true rfl) (fun p9 e9 s9 m9 a99 b99 t99 c9 C hr hnm => ?_)
  refine G.weak (ls' := [some (.ref mo), some (.int what), some (.int a), some (.int b), some (.int its), none, none, none]) ?_ rfl (fun _ _ h => h)
  refine g_loop (α := Nat × Nat × Option Value) (fun x => x.1 ≤ n ∧ lst (mdP A k0 what a b its) x.1 n x.2.1) (fun x => x.1) (fun _ => L) (fun _ => f) (fun _ => 0) (fun _ => 0) 11 (fun x => [some (.ref mo), some (.int what), some (.int a), some (.int b), some (.int its), some (.int (pI x.2.1)), some (.int (pI x.1)), x.2.2]) (fun _ => []) (fun x hv ih => ?_) (fun J => ?_)
  · obtain ⟨i, fm, o7⟩ := x
    obtain ⟨hi9, hlst⟩ := hv
    dsimp only at hi9 hlst ih ⊢
    refine g_iload (n := 13) C dX6_cached_11 rfl rfl ?_
    refine g_if_lt (n := 16) (tgt := 112) C dX6_cached_13 (by decide) rfl (fun h13 => ?_) (fun h13 => ?_)
    · have e9 := pI_neg h13 (by omega)
      subst e9
      refine g_iload (n := 114) C dX6_cached_112 rfl rfl ?_
      refine g_iret C hr dX6_cached_114 ?_ ⟨by decide, by decide⟩
      exact ⟨⟨fm, rfl, hlst⟩, rfl, rfl⟩
    · obtain ⟨j, rfl⟩ := pI_nneg h13
      rw [show pI (j + 1) = nI j from rfl]
      refine g_cut (α := Nat) (fun w => cdb (mdP A k0 what a b its j) w) (fun _ => L) (fun _ => f) (fun _ => 0) (fun _ => 0) 90 (fun _ => [some (.ref mo), some (.int what), some (.int a), some (.int b), some (.int its), some (.int (pI fm)), some (.int (nI j)), o7]) (fun w => [.int (nI w)]) (fun J2 => ?_) (fun w hw => ?_)
      · skip
        refine g_aload_n (n := 17) C dX6_cached_16 rfl (Or.inr ⟨_, rfl⟩) rfl ?_
        refine m_get (n := 20) C hM dX6_cached_17 kF_X6_31 rfl rfl ?_
        refine g_iload (n := 22) C dX6_cached_20 rfl rfl ?_
        refine m_zld (n := 23) C hM dX6_cached_22 rfl rfl rfl (by simp only [mLen]; omega) (by decide) rfl ?_
        refine g_if_ne (n := 26) (tgt := 89) C dX6_cached_23 (by decide) rfl (fun h23 => ?_) (fun h23 => ?_)
        · refine g_iconst (n := 90) (v := nI 0) C dX6_cached_89 rfl rfl ?_
          exact J2 _ (by simp [cdb, mdP, h23])
        · refine g_aload_n (n := 27) C dX6_cached_26 rfl (Or.inr ⟨_, rfl⟩) rfl ?_
          refine m_get (n := 30) C hM dX6_cached_27 kF_X6_44 rfl rfl ?_
          refine g_iload (n := 32) C dX6_cached_30 rfl rfl ?_
          refine m_ald (n := 33) C hM dX6_cached_32 rfl rfl rfl (by simp only [mLen]; omega) (by decide) rfl ?_
          refine g_iload_n (n := 34) C dX6_cached_33 rfl rfl ?_
          refine g_icmp_ne (n := 37) (tgt := 89) C dX6_cached_34 (by decide) rfl (fun h34 => ?_) (fun h34 => ?_)
          · refine g_iconst (n := 90) (v := nI 0) C dX6_cached_89 rfl rfl ?_
            exact J2 _ (by simp [cdb, mdP, h23, h34])
          · refine g_aload_n (n := 38) C dX6_cached_37 rfl (Or.inr ⟨_, rfl⟩) rfl ?_
            refine m_get (n := 41) C hM dX6_cached_38 kF_X6_35 rfl rfl ?_
            refine g_iload (n := 43) C dX6_cached_41 rfl rfl ?_
            refine m_ald (n := 44) C hM dX6_cached_43 rfl rfl rfl (by simp only [mLen]; omega) (by decide) rfl ?_
            refine g_aload_n (n := 45) C dX6_cached_44 rfl (Or.inr ⟨_, rfl⟩) rfl ?_
            refine m_get (n := 48) C hM dX6_cached_45 kF_X6_68 rfl rfl ?_
            rw [e24]
            refine g_icmp_ne (n := 51) (tgt := 89) C dX6_cached_48 (by decide) rfl (fun h48 => ?_) (fun h48 => ?_)
            · refine g_iconst (n := 90) (v := nI 0) C dX6_cached_89 rfl rfl ?_
              exact J2 _ (by simp [cdb, mdP, h23, h34, h48])
            · refine g_aload_n (n := 52) C dX6_cached_51 rfl (Or.inr ⟨_, rfl⟩) rfl ?_
              refine m_get (n := 55) C hM dX6_cached_52 kF_X6_47 rfl rfl ?_
              refine g_iload (n := 57) C dX6_cached_55 rfl rfl ?_
              refine m_ald (n := 58) C hM dX6_cached_57 rfl rfl rfl (by simp only [mLen]; omega) (by decide) rfl ?_
              refine g_iload_n (n := 59) C dX6_cached_58 rfl rfl ?_
              refine g_icmp_ne (n := 62) (tgt := 89) C dX6_cached_59 (by decide) rfl (fun h59 => ?_) (fun h59 => ?_)
              · refine g_iconst (n := 90) (v := nI 0) C dX6_cached_89 rfl rfl ?_
                exact J2 _ (by simp [cdb, mdP, h23, h34, h48, h59])
              · refine g_aload_n (n := 63) C dX6_cached_62 rfl (Or.inr ⟨_, rfl⟩) rfl ?_
                refine m_get (n := 66) C hM dX6_cached_63 kF_X6_50 rfl rfl ?_
                refine g_iload (n := 68) C dX6_cached_66 rfl rfl ?_
                refine m_ald (n := 69) C hM dX6_cached_68 rfl rfl rfl (by simp only [mLen]; omega) (by decide) rfl ?_
                refine g_iload_n (n := 70) C dX6_cached_69 rfl rfl ?_
                refine g_icmp_ne (n := 73) (tgt := 89) C dX6_cached_70 (by decide) rfl (fun h70 => ?_) (fun h70 => ?_)
                · refine g_iconst (n := 90) (v := nI 0) C dX6_cached_89 rfl rfl ?_
                  exact J2 _ (by simp [cdb, mdP, h23, h34, h48, h59, h70])
                · refine g_aload_n (n := 74) C dX6_cached_73 rfl (Or.inr ⟨_, rfl⟩) rfl ?_
                  refine m_get (n := 77) C hM dX6_cached_74 kF_X6_53 rfl rfl ?_
                  refine g_iload (n := 79) C dX6_cached_77 rfl rfl ?_
                  refine m_ald (n := 80) C hM dX6_cached_79 rfl rfl rfl (by simp only [mLen]; omega) (by decide) rfl ?_
                  refine g_iload (n := 82) C dX6_cached_80 rfl rfl ?_
                  refine g_icmp_ne (n := 85) (tgt := 89) C dX6_cached_82 (by decide) rfl (fun h82 => ?_) (fun h82 => ?_)
                  · refine g_iconst (n := 90) (v := nI 0) C dX6_cached_89 rfl rfl ?_
                    exact J2 _ (by simp [cdb, mdP, h23, h34, h48, h59, h70, h82])
                  · refine g_iconst (n := 86) (v := nI 1) C dX6_cached_85 rfl rfl ?_
                    refine g_goto (tgt := 90) C dX6_cached_86 (by decide) ?_
                    exact J2 _ (by simp [cdb, mdP, h23, h34, h48, h59, h70, h82])
      · skip
        refine g_istore (n := 92) (ls' := [_, _, _, _, _, _, _, _]) C dX6_cached_90 rfl (by decide) rfl ?_
        refine g_iload (n := 94) C dX6_cached_92 rfl rfl ?_
        refine g_if_eq (n := 97) (tgt := 102) C dX6_cached_94 (by decide) rfl (fun h94 => ?_) (fun h94 => ?_)
        · refine g_iload (n := 104) C dX6_cached_102 rfl rfl ?_
          refine g_istore (n := 106) (ls' := [_, _, _, _, _, _, _, _]) C dX6_cached_104 rfl (by decide) rfl ?_
          refine g_iinc (n := 109) (ls' := [_, _, _, _, _, _, _, _]) C dX6_cached_106 rfl (gn_pred j) rfl (by decide) rfl ?_
          refine g_goto (tgt := 11) C dX6_cached_109 (by decide) ?_
          first | exact ih (j, j + 1, _) ⟨by show j ≤ n; omega, lst_y (by omega) (cdb_t hw h94)⟩ (Nat.lt_succ_self j) | exact ih (j, fm, _) ⟨by show j ≤ n; omega, lst_x hlst (cdb_f hw h94)⟩ (Nat.lt_succ_self j)
        · refine g_iload (n := 99) C dX6_cached_97 rfl rfl ?_
          refine g_goto (tgt := 104) C dX6_cached_99 (by decide) ?_
          refine g_istore (n := 106) (ls' := [_, _, _, _, _, _, _, _]) C dX6_cached_104 rfl (by decide) rfl ?_
          refine g_iinc (n := 109) (ls' := [_, _, _, _, _, _, _, _]) C dX6_cached_106 rfl (gn_pred j) rfl (by decide) rfl ?_
          refine g_goto (tgt := 11) C dX6_cached_109 (by decide) ?_
          first | exact ih (j, j + 1, _) ⟨by show j ≤ n; omega, lst_y (by omega) (cdb_t hw h94)⟩ (Nat.lt_succ_self j) | exact ih (j, fm, _) ⟨by show j ≤ n; omega, lst_x hlst (cdb_f hw h94)⟩ (Nat.lt_succ_self j)
  · skip
    refine g_iconst (n := 1) (v := -1) C dX6_cached_0 rfl rfl ?_
    refine g_istore (n := 3) (ls' := [_, _, _, _, _, _, _, _]) C dX6_cached_1 rfl (by decide) rfl ?_
    refine g_aload_n (n := 4) C dX6_cached_3 rfl (Or.inr ⟨_, rfl⟩) rfl ?_
    refine m_get (n := 7) C hM dX6_cached_4 kF_X6_102 rfl rfl ?_
    rw [hN]
    refine g_iconst (n := 8) (v := nI 1) C dX6_cached_7 rfl rfl ?_
    refine g_isub (n := 9) C dX6_cached_8 rfl ?_
    refine G.top (y := pI n) (gn_pred2 n) ?_
    refine g_istore (n := 11) (ls' := [_, _, _, _, _, _, _, _]) C dX6_cached_9 rfl (by decide) rfl ?_
    exact J (n, 0, none) ⟨Nat.le_refl _, lst_n⟩

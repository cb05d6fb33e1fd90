/-! ===== the reference, IV: layers, made ===== -/
def upR (A : Nat → Nat → Int32) (k lo len : Nat) (g : Nat → Int32) : Nat → Nat → Int32 := fun k1 j1 => if k1 = k ∧ lo ≤ j1 ∧ j1 < lo + len then g (j1 - lo) else A k1 j1
theorem upR_0 {A : Nat → Nat → Int32} {k lo : Nat} {g : Nat → Int32} : upR A k lo 0 g = A := by
  funext k1 j1
  unfold upR
  rw [if_neg (by omega)]
theorem upR_s {A : Nat → Nat → Int32} {k lo i : Nat} {g : Nat → Int32} {x : Int32} (hx : x = g i) : mU (upR A k lo i g) k (lo + i) x = upR A k lo (i + 1) g := by
  funext k1 j1
  subst hx
  unfold mU upR
  by_cases h : k1 = k ∧ j1 = lo + i
  · obtain ⟨rfl, rfl⟩ := h
    rw [if_pos ⟨rfl, rfl⟩, if_pos ⟨rfl, by omega, by omega⟩, Nat.add_sub_cancel_left]
  · rw [if_neg h]
    by_cases h2 : k1 = k ∧ lo ≤ j1 ∧ j1 < lo + i
    · rw [if_pos h2, if_pos ⟨h2.1, h2.2.1, by omega⟩]
    · rw [if_neg h2, if_neg (fun q => by
        by_cases e : j1 = lo + i
        · exact h ⟨q.1, e⟩
        · exact h2 ⟨q.1, q.2.1, by omega⟩)]
theorem upR_k {A : Nat → Nat → Int32} {k lo len k1 j1 : Nat} {g : Nat → Int32} (h : k1 ≠ k) : upR A k lo len g k1 j1 = A k1 j1 := if_neg (fun q => h q.1)
theorem upR_o {A : Nat → Nat → Int32} {k lo len k1 j1 : Nat} {g : Nat → Int32} (h : j1 < lo ∨ lo + len ≤ j1) : upR A k lo len g k1 j1 = A k1 j1 := if_neg (fun q => by omega)
theorem upR_i {A : Nat → Nat → Int32} {k lo len i : Nat} {g : Nat → Int32} (h : i < len) : upR A k lo len g k (lo + i) = g i := by
  unfold upR
  rw [if_pos ⟨rfl, by omega, by omega⟩, Nat.add_sub_cancel_left]
/-- the values of a new layer's variables -/
def vOf (A : Nat → Nat → Int32) : Nat → Nat → Int32
  | 0, _ => nI 0
  | j + 1, v => A 11 (4 * j + v)
def mkA (A : Nat → Nat → Int32) (n m : Nat) : Nat → Nat → Int32 := mU (mU (mU (upR (upR A 10 (12 * n) 12 (fun _ => -1)) 11 (4 * n) 4 (vOf A m)) 9 n (pI m)) 8 n (nI 0)) 12 n (-1)
theorem gn_pred (i : Nat) : nI i + Int32.ofInt (-1) = pI i := by
  cases i with
  | zero => decide
  | succ j =>
    have h := nI_pred j
    rw [Int32.sub_eq_add_neg] at h
    exact h
theorem gn_pred2 (i : Nat) : nI i - nI 1 = pI i := by
  rw [← gn_pred, Int32.sub_eq_add_neg]
  rfl
theorem pI_neg {i : Nat} (h : pI i < 0) (hi : i ≤ 2 ^ 31) : i = 0 := by
  cases i with
  | zero => rfl
  | succ j => exact absurd h (nI_pos (by omega))
theorem pI_nneg {i : Nat} (h : ¬ pI i < 0) : ∃ j, i = j + 1 := by
  cases i with
  | zero => exact absurd (by decide) h
  | succ j => exact ⟨j, rfl⟩
/-- from i on, below n, the least with P is fm - 1; none for 0 -/
def lst (P : Nat → Prop) (i n fm : Nat) : Prop := (fm = 0 ∧ ∀ j, i ≤ j → j < n → ¬ P j) ∨ (∃ j0, fm = j0 + 1 ∧ i ≤ j0 ∧ j0 < n ∧ P j0 ∧ ∀ j, i ≤ j → j < j0 → ¬ P j)
theorem lst_n {P : Nat → Prop} {n : Nat} : lst P n n 0 := Or.inl ⟨rfl, fun j h1 h2 => absurd h2 (by omega)⟩
theorem lst_y {P : Nat → Prop} {i n : Nat} (hi : i < n) (hP : P i) : lst P i n (i + 1) := Or.inr ⟨i, rfl, Nat.le_refl _, hi, hP, fun j h1 h2 => absurd h2 (by omega)⟩
theorem lst_x {P : Nat → Prop} {i n fm : Nat} (h : lst P (i + 1) n fm) (hP : ¬ P i) : lst P i n fm := by
  have up : ∀ j, i ≤ j → ¬ j = i → i + 1 ≤ j := fun j h1 h2 => by omega
  rcases h with ⟨rfl, h⟩ | ⟨j0, rfl, h1, h2, h3, h4⟩
  · exact Or.inl ⟨rfl, fun j h1 h2 => by
      by_cases e : j = i
      · rw [e]; exact hP
      · exact h j (up j h1 e) h2⟩
  · exact Or.inr ⟨j0, rfl, by omega, h2, h3, fun j h5 h6 => by
      by_cases e : j = i
      · rw [e]; exact hP
      · exact h4 j (up j h5 e) h6⟩
theorem lst_u {P : Nat → Prop} {n a b : Nat} (h : lst P 0 n a) (h2 : lst P 0 n b) : a = b := by
  rcases h with ⟨rfl, h⟩ | ⟨j0, rfl, -, h1, h3, h4⟩ <;> rcases h2 with ⟨rfl, k⟩ | ⟨j1, rfl, -, k1, k3, k4⟩
  · rfl
  · exact absurd k3 (h j1 (Nat.zero_le _) k1)
  · exact absurd h3 (k j0 (Nat.zero_le _) h1)
  · rcases Nat.lt_trichotomy j0 j1 with q | q | q
    · exact absurd h3 (k4 j0 (Nat.zero_le _) q)
    · rw [q]
    · exact absurd k3 (h4 j1 (Nat.zero_le _) q)
def rootP (A : Nat → Nat → Int32) (b k : Nat) : Prop := (A 8 k = 0 ∧ A 9 k = -1) ∧ ∀ q, q < 12 → A 10 (12 * k + q) = A 1 (12 * b + q)
def rtA (A : Nat → Nat → Int32) (n b : Nat) : Nat → Nat → Int32 := upR (mkA A n 0) 10 (12 * n) 12 (fun q => A 1 (12 * b + q))
/-- the root layer for base b: found, or made -/
def rootR (A : Nat → Nat → Int32) (n b k1 n1 : Nat) (A1 : Nat → Nat → Int32) : Prop := (lst (rootP A b) 0 n (k1 + 1) ∧ n1 = n ∧ A1 = A) ∨ (lst (rootP A b) 0 n 0 ∧ k1 = n ∧ n1 = n + 1 ∧ A1 = rtA A n b)
theorem rootR_u {A : Nat → Nat → Int32} {n b k1 n1 k2 n2 : Nat} {A1 A2 : Nat → Nat → Int32} (h : rootR A n b k1 n1 A1) (h2 : rootR A n b k2 n2 A2) : k1 = k2 ∧ n1 = n2 ∧ A1 = A2 := by
  rcases h with ⟨h, rfl, rfl⟩ | ⟨h, rfl, rfl, rfl⟩ <;> rcases h2 with ⟨k, rfl, rfl⟩ | ⟨k, rfl, rfl, rfl⟩
  · have := lst_u h k
    exact ⟨by omega, rfl, rfl⟩
  · exact absurd (lst_u h k) (by omega)
  · exact absurd (lst_u h k) (by omega)
  · exact ⟨rfl, rfl, rfl⟩
theorem up_id {I : Nat → Int32} {k : Nat} {x : Int32} (h : I k = x) : va_up I k x = I := by
  funext z
  unfold va_up
  by_cases e : z = k
  · rw [if_pos e, e, h]
  · rw [if_neg e]
theorem k6_makes {l : Launch} {s0 : State} {D : va_G} {cy : Nat → ClassId} (hE : gE s0 D cy) (hl : l.stackTraces = false) {mo : Nat} {ad : Nat → Nat} {A : Nat → Nat → Int32} {I : Nat → Int32} {L : List Nat} {f : gF} (hM : IsM cy mo ad A I L f) {n m : Nat} (hN : I 7 = nI n) (hn9 : n < 420) (hm9 : m ≤ n) : gM l s0 D yX6_makes cX6_makes 3 (some .int) 1 0 0 [.ref mo, .int (pI m)] L f (fun v L1 f1 => L = L1 ∧ v = some (.int (nI n)) ∧ IsM cy mo ad (mkA A n m) (va_up I 7 (nI (n + 1))) L f1) := by
  refine gM.of (own := RX6) hE hl (by decide +kernel) rfl rfl (Nat.le_of_ble_eq_true rfl) (fun p9 e9 s9 m9 a99 b99 t99 c9 C hr hnm => ?_)
  refine G.weak (ls' := [some (.ref mo), some (.int (pI m)), none]) ?_ rfl (fun _ _ h => h)
  refine g_loop (α := Nat × gF) (fun iA => iA.1 ≤ 12 ∧ IsM cy mo ad (upR A 10 (12 * n) iA.1 (fun _ => -1)) I L iA.2) (fun iA => 12 - iA.1) (fun _ => L) (fun iA => iA.2) (fun _ => 0) (fun _ => 0) 2 (fun iA => [some (.ref mo), some (.int (pI m)), some (.int (nI iA.1))]) (fun _ => []) (fun iA hv ih => ?_) (fun J => ?_)
  · obtain ⟨i, f⟩ := iA
    obtain ⟨hi9, hM⟩ := hv
    dsimp only at hi9 hM ih ⊢
    refine g_iload_n (n := 3) C dX6_makes_2 rfl rfl ?_
    refine g_bipush (n := 5) (v := nI 12) C dX6_makes_3 rfl rfl ?_
    refine g_icmp_ge (n := 8) (tgt := 29) C dX6_makes_5 (by decide) rfl (fun h5 => ?_) (fun h5 => ?_)
    · have e9 : i = 12 := by have := gn_ge h5 (by decide) (by omega); omega
      subst e9
      refine g_iconst (n := 30) (v := nI 0) C dX6_makes_29 rfl rfl ?_
      refine g_istore_n (n := 31) (ls' := [_, _, _]) C dX6_makes_30 rfl (by decide) rfl ?_
      refine g_loop (α := Nat × gF) (fun iA => iA.1 ≤ 4 ∧ IsM cy mo ad (upR (upR A 10 (12 * n) 12 (fun _ => -1)) 11 (4 * n) iA.1 (vOf A m)) I L iA.2) (fun iA => 4 - iA.1) (fun _ => L) (fun iA => iA.2) (fun _ => 0) (fun _ => 0) 31 (fun iA => [some (.ref mo), some (.int (pI m)), some (.int (nI iA.1))]) (fun _ => []) (fun iA hv ih => ?_) (fun J => ?_)
      · obtain ⟨i, f⟩ := iA
        obtain ⟨hi9, hM⟩ := hv
        dsimp only at hi9 hM ih ⊢
        refine g_iload_n (n := 32) C dX6_makes_31 rfl rfl ?_
        refine g_iconst (n := 33) (v := nI 4) C dX6_makes_32 rfl rfl ?_
        refine g_icmp_ge (n := 36) (tgt := 74) C dX6_makes_33 (by decide) rfl (fun h33 => ?_) (fun h33 => ?_)
        · have e9 : i = 4 := by have := gn_ge h33 (by decide) (by omega); omega
          subst e9
          refine g_aload_n (n := 75) C dX6_makes_74 rfl (Or.inr ⟨_, rfl⟩) rfl ?_
          refine m_get (n := 78) C hM dX6_makes_75 kF_X6_35 rfl rfl ?_
          refine g_aload_n (n := 79) C dX6_makes_78 rfl (Or.inr ⟨_, rfl⟩) rfl ?_
          refine m_get (n := 82) C hM dX6_makes_79 kF_X6_102 rfl rfl ?_
          refine g_iload_n (n := 83) C dX6_makes_82 rfl rfl ?_
          refine m_ast (n := 84) C hM dX6_makes_83 rfl rfl hN (by simp only [mLen]; omega) (by decide) rfl (fun f hM => ?_)
          refine g_aload_n (n := 85) C dX6_makes_84 rfl (Or.inr ⟨_, rfl⟩) rfl ?_
          refine m_get (n := 88) C hM dX6_makes_85 kF_X6_31 rfl rfl ?_
          refine g_aload_n (n := 89) C dX6_makes_88 rfl (Or.inr ⟨_, rfl⟩) rfl ?_
          refine m_get (n := 92) C hM dX6_makes_89 kF_X6_102 rfl rfl ?_
          refine g_iconst (n := 93) (v := nI 0) C dX6_makes_92 rfl rfl ?_
          refine m_zst (n := 94) C hM dX6_makes_93 rfl rfl rfl hN (by simp only [mLen]; omega) (by decide) rfl (fun f hM => ?_)
          refine g_aload_n (n := 95) C dX6_makes_94 rfl (Or.inr ⟨_, rfl⟩) rfl ?_
          refine m_get (n := 98) C hM dX6_makes_95 kF_X6_44 rfl rfl ?_
          refine g_aload_n (n := 99) C dX6_makes_98 rfl (Or.inr ⟨_, rfl⟩) rfl ?_
          refine m_get (n := 102) C hM dX6_makes_99 kF_X6_102 rfl rfl ?_
          refine g_iconst (n := 103) (v := -1) C dX6_makes_102 rfl rfl ?_
          refine m_ast (n := 104) C hM dX6_makes_103 rfl rfl hN (by simp only [mLen]; omega) (by decide) rfl (fun f hM => ?_)
          refine g_aload_n (n := 105) C dX6_makes_104 rfl (Or.inr ⟨_, rfl⟩) rfl ?_
          refine g_dup (n := 106) C dX6_makes_105 rfl rfl ?_
          refine m_get (n := 109) C hM dX6_makes_106 kF_X6_102 rfl rfl ?_
          refine g_iconst (n := 110) (v := nI 1) C dX6_makes_109 rfl rfl ?_
          rw [hN]
          refine g_iaddN (n := 111) C dX6_makes_110 rfl ?_
          refine m_put (n := 114) C hM dX6_makes_111 kP_X6_102 ⟨rfl, rfl⟩ (by decide) rfl rfl (fun f hM => ?_)
          refine g_aload_n (n := 115) C dX6_makes_114 rfl (Or.inr ⟨_, rfl⟩) rfl ?_
          refine m_get (n := 118) C hM dX6_makes_115 kF_X6_102 rfl rfl ?_
          refine g_iconst (n := 119) (v := nI 1) C dX6_makes_118 rfl rfl ?_
          refine g_isubN (n := 120) C dX6_makes_119 (by omega) rfl ?_
          refine g_iret C hr dX6_makes_120 ?_ ⟨by decide, by decide⟩
          exact ⟨rfl, rfl, hM⟩
        · have hi : i < 4 := gn_gt h33 (by decide) (by omega)
          refine g_aload_n (n := 37) C dX6_makes_36 rfl (Or.inr ⟨_, rfl⟩) rfl ?_
          refine m_get (n := 40) C hM dX6_makes_37 kF_X6_41 rfl rfl ?_
          refine g_iconst (n := 41) (v := nI 4) C dX6_makes_40 rfl rfl ?_
          refine g_aload_n (n := 42) C dX6_makes_41 rfl (Or.inr ⟨_, rfl⟩) rfl ?_
          refine m_get (n := 45) C hM dX6_makes_42 kF_X6_102 rfl rfl ?_
          rw [hN]
          refine g_imulN (n := 46) C dX6_makes_45 rfl ?_
          refine g_iload_n (n := 47) C dX6_makes_46 rfl rfl ?_
          refine g_iaddN (n := 48) C dX6_makes_47 rfl ?_
          refine g_iload_n (n := 49) C dX6_makes_48 rfl rfl ?_
          refine g_iconst (n := 50) (v := -1) C dX6_makes_49 rfl rfl ?_
          refine g_icmp_ne (n := 53) (tgt := 57) C dX6_makes_50 (by decide) rfl (fun h50 => ?_) (fun h50 => ?_)
          · obtain ⟨j, rfl⟩ : ∃ j, m = j + 1 := ⟨m - 1, by cases m with | zero => exact absurd rfl h50 | succ j => rfl⟩
            rw [show pI (j + 1) = nI j from rfl]
            refine g_aload_n (n := 58) C dX6_makes_57 rfl (Or.inr ⟨_, rfl⟩) rfl ?_
            refine m_get (n := 61) C hM dX6_makes_58 kF_X6_41 rfl rfl ?_
            refine g_iconst (n := 62) (v := nI 4) C dX6_makes_61 rfl rfl ?_
            refine g_iload_n (n := 63) C dX6_makes_62 rfl rfl ?_
            refine g_imulN (n := 64) C dX6_makes_63 rfl ?_
            refine g_iload_n (n := 65) C dX6_makes_64 rfl rfl ?_
            refine g_iaddN (n := 66) C dX6_makes_65 rfl ?_
            refine m_ald (n := 67) C hM dX6_makes_66 rfl rfl rfl (by simp only [mLen]; omega) (by decide) rfl ?_
            try refine G.top (y := A 11 (4 * j + i)) (by rw [upR_o (by omega), upR_k (by decide)]) ?_
            refine m_ast (n := 68) C hM dX6_makes_67 rfl rfl rfl (by simp only [mLen]; omega) (by decide) rfl (fun f hM => ?_)
            refine g_iinc (n := 71) (ls' := [_, _, _]) C dX6_makes_68 rfl (nI_1 _) rfl (by decide) rfl ?_
            refine g_goto (tgt := 31) C dX6_makes_71 (by decide) ?_
            rw [upR_s (by first | rfl | (simp only [vOf]))] at hM
            exact ih (i + 1, f) ⟨by show i + 1 ≤ 4; omega, hM⟩ (by show 4 - (i + 1) < 4 - i; omega)
          · have e8 := pI_0 h50 (by omega)
            subst e8
            refine g_iconst (n := 54) (v := nI 0) C dX6_makes_53 rfl rfl ?_
            refine g_goto (tgt := 67) C dX6_makes_54 (by decide) ?_
            try refine G.top (y := A 11 (4 * j + i)) (by rw [upR_o (by omega), upR_k (by decide)]) ?_
            refine m_ast (n := 68) C hM dX6_makes_67 rfl rfl rfl (by simp only [mLen]; omega) (by decide) rfl (fun f hM => ?_)
            refine g_iinc (n := 71) (ls' := [_, _, _]) C dX6_makes_68 rfl (nI_1 _) rfl (by decide) rfl ?_
            refine g_goto (tgt := 31) C dX6_makes_71 (by decide) ?_
            rw [upR_s (by first | rfl | (simp only [vOf]))] at hM
            exact ih (i + 1, f) ⟨by show i + 1 ≤ 4; omega, hM⟩ (by show 4 - (i + 1) < 4 - i; omega)
      · exact J (0, f) ⟨Nat.zero_le _, by rw [upR_0]; exact hM⟩
    · have hi : i < 12 := gn_gt h5 (by decide) (by omega)
      refine g_aload_n (n := 9) C dX6_makes_8 rfl (Or.inr ⟨_, rfl⟩) rfl ?_
      refine m_get (n := 12) C hM dX6_makes_9 kF_X6_38 rfl rfl ?_
      refine g_bipush (n := 14) (v := nI 12) C dX6_makes_12 rfl rfl ?_
      refine g_aload_n (n := 15) C dX6_makes_14 rfl (Or.inr ⟨_, rfl⟩) rfl ?_
      refine m_get (n := 18) C hM dX6_makes_15 kF_X6_102 rfl rfl ?_
      rw [hN]
      refine g_imulN (n := 19) C dX6_makes_18 rfl ?_
      refine g_iload_n (n := 20) C dX6_makes_19 rfl rfl ?_
      refine g_iaddN (n := 21) C dX6_makes_20 rfl ?_
      refine g_iconst (n := 22) (v := -1) C dX6_makes_21 rfl rfl ?_
      refine m_ast (n := 23) C hM dX6_makes_22 rfl rfl rfl (by simp only [mLen]; omega) (by decide) rfl (fun f hM => ?_)
      refine g_iinc (n := 26) (ls' := [_, _, _]) C dX6_makes_23 rfl (nI_1 _) rfl (by decide) rfl ?_
      refine g_goto (tgt := 2) C dX6_makes_26 (by decide) ?_
      rw [upR_s rfl] at hM
      exact ih (i + 1, f) ⟨by show i + 1 ≤ 12; omega, hM⟩ (by show 12 - (i + 1) < 12 - i; omega)
  · skip
    refine g_iconst (n := 1) (v := nI 0) C dX6_makes_0 rfl rfl ?_
    refine g_istore_n (n := 2) (ls' := [_, _, _]) C dX6_makes_1 rfl (by decide) rfl ?_
    exact J (0, f) ⟨Nat.zero_le _, by rw [upR_0]; exact hM⟩

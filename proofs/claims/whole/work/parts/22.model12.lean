/-! ===== the reference, XII: rebase ===== -/
def str (A : Nat → Nat → Int32) (g : Nat → Int32) : Nat → Nat → Int32 := fun k j => if k = 30 then g j else A k j
theorem str_k {A : Nat → Nat → Int32} {g : Nat → Int32} {k j : Nat} (h : k ≠ 30) : str A g k j = A k j := if_neg h
theorem str_0 {A : Nat → Nat → Int32} : str A (A 30) = A := by
  funext k j
  by_cases h : k = 30
  · subst h; rfl
  · exact if_neg h
theorem str_s {A : Nat → Nat → Int32} {g : Nat → Int32} {q : Nat} {x : Int32} : mU (str A g) 30 q x = str A (upd g q x) := by
  funext k j
  by_cases h : k = 30
  · subst h; simp [mU, str, upd]
  · simp [mU, str, h]
def rbV (h s : Int32) : Int32 := if h = -2 ∧ s = -1 then -1 else h
def rbA (A : Nat → Nat → Int32) (n top o : Nat) (S : Nat → Nat → Int32) : Nat → Nat → Int32 := upR (upR (mkA A n (top + 1)) 10 (12 * n) 12 (fun q => rbV (A 10 (12 * o + q)) (S top q))) 11 (4 * n) 4 (fun v => A 11 (4 * o + v))
theorem rbA_9 {A : Nat → Nat → Int32} {n top o k : Nat} {S : Nat → Nat → Int32} (h : k < n) : rbA A n top o S 9 k = A 9 k := by
  unfold rbA
  rw [upR_k (by decide), upR_k (by decide), mkA_9 h]
theorem rbA_9n {A : Nat → Nat → Int32} {n top o : Nat} {S : Nat → Nat → Int32} : rbA A n top o S 9 n = pI (top + 1) := by
  unfold rbA mkA
  rw [upR_k (by decide), upR_k (by decide), mU_k (by decide), mU_k (by decide), mU_s]
theorem rbA_10 {A : Nat → Nat → Int32} {n top o k q : Nat} {S : Nat → Nat → Int32} (h : k < n) (hq : q < 12) : rbA A n top o S 10 (12 * k + q) = A 10 (12 * k + q) := by
  unfold rbA
  rw [upR_k (by decide), upR_o (by omega), mkA_10 h hq]
theorem rbA_11 {A : Nat → Nat → Int32} {n top o k q : Nat} {S : Nat → Nat → Int32} (h : k < n) (hq : q < 4) : rbA A n top o S 11 (4 * k + q) = A 11 (4 * k + q) := by
  unfold rbA
  rw [upR_o (by omega), upR_k (by decide), mkA_11 h hq]
theorem rbA_k {A : Nat → Nat → Int32} {n top o k j : Nat} {S : Nat → Nat → Int32} (h : k < 8 ∨ 12 < k) : rbA A n top o S k j = A k j := by
  unfold rbA
  rw [upR_k (by omega), upR_k (by omega), mkA_k h]
def rbStep (A : Nat → Nat → Int32) (n top o : Nat) (A1 : Nat → Nat → Int32) : Prop := ∃ (PR : Nat → Nat) (S : Nat → Nat → Int32), vPar A n PR ∧ vShow A n PR S ∧ A1 = rbA A n top o S
/-- the layers of an image, put anew one on the other -/
def rbR (O : Nat → Nat → Prop) : Nat → Nat → (Nat → Nat → Int32) → Nat → Nat → (Nat → Nat → Int32) → Nat → Nat → Prop
  | 0, _, A, n, top, A1, n1, t1 => A1 = A ∧ n1 = n ∧ t1 = top
  | u + 1, x, A, n, top, A1, n1, t1 => ∃ (o : Nat) (A2 : Nat → Nat → Int32), O x o ∧ rbStep A n top o A2 ∧ rbR O u (x + 1) A2 (n + 1) n A1 n1 t1
def oldAt (n : Nat) (PR PL : Nat → Nat) (k x o : Nat) : Prop := o < n ∧ PL o = x ∧ anc PR (k + 1) o
theorem rtA_k {A : Nat → Nat → Int32} {n b k j : Nat} (h : k < 8 ∨ 12 < k) : rtA A n b k j = A k j := by
  unfold rtA
  rw [upR_k (by omega), mkA_k h]
theorem rtA_11 {A : Nat → Nat → Int32} {n b k q : Nat} (h : k < n) (hq : q < 4) : rtA A n b 11 (4 * k + q) = A 11 (4 * k + q) := by
  unfold rtA
  rw [upR_k (by decide), mkA_11 h hq]
/-- what the root layer leaves of the others -/
theorem rootR_old {A A1 : Nat → Nat → Int32} {n b k1 n1 : Nat} {PR : Nat → Nat} {S : Nat → Nat → Int32} (h : rootR A n b k1 n1 A1) (hPR : vPar A n PR) (hSh : vShow A n PR S) :
    k1 < n1 ∧ n ≤ n1 ∧ n1 ≤ n + 1 ∧ (∃ PR9 S9, vPar A1 n1 PR9 ∧ vShow A1 n1 PR9 S9) ∧ (∀ k q, k < n → q < 12 → A1 10 (12 * k + q) = A 10 (12 * k + q)) ∧ (∀ k q, k < n → q < 4 → A1 11 (4 * k + q) = A 11 (4 * k + q)) ∧ ∀ k j, (k < 8 ∨ 12 < k) → A1 k j = A k j := by
  rcases h with ⟨hl9, rfl, rfl⟩ | ⟨hl9, rfl, rfl, rfl⟩
  · refine ⟨?_, Nat.le_refl _, Nat.le_succ _, ⟨PR, S, hPR, hSh⟩, fun _ _ _ _ => rfl, fun _ _ _ _ => rfl, fun _ _ _ => rfl⟩
    rcases hl9 with ⟨h, -⟩ | ⟨j0, h, -, h2, -⟩ <;> omega
  · exact ⟨Nat.lt_succ_self _, Nat.le_succ _, Nat.le_refl _, ⟨_, _, ext_par hPR (Nat.zero_le _) (fun k hk => rtA_9 hk) rtA_9n, ext_sh hPR hSh (Nat.zero_le _) (fun k q hk hq => rtA_10 hk hq)⟩, fun k q hk hq => rtA_10 hk hq, fun k q hk hq => rtA_11 hk hq, fun k j hk => rtA_k hk⟩
theorem k6_rebase {l : Launch} {s0 : State} {D : va_G} {cy : Nat → ClassId} (hE : gE s0 D cy) (hl : l.stackTraces = false) {mo : Nat} {ad : Nat → Nat} {A : Nat → Nat → Int32} {I : Nat → Int32} {L : List Nat} {f : gF} (hM : IsM cy mo ad A I L f) {n : Nat} (hN : I 7 = nI n) (hn9 : n ≤ 420) {PR : Nat → Nat} (hPR : vPar A n PR) {S : Nat → Nat → Int32} (hSh : vShow A n PR S) {PL : Nat → Nat} (hPL : vPL n PR PL) (hPLb : ∀ k, k < n → PL k ≤ 10) {TG : Nat → Nat} (hTG : vTag A n TG) (t b : Int32) : gM l s0 D yX6_rebase cX6_rebase 11 (some .int) 3 0 0 [.ref mo, .int t, .int b] L f (mQ cy mo ad L (fun b9 A1 I1 => ∃ w, cd3 (gin t 5 ∧ gin b 3) (sqC2 TG n t) w ∧ (w ≠ 0 → A1 = A ∧ I1 = va_up I 27 (nI w)) ∧ (w = 0 → ∃ i b1 k g k1 n1 A2 Ax nx top, i < 5 ∧ t = nI i ∧ b = nI b1 ∧ b1 < 3 ∧ TG i = k + 1 ∧ k < n ∧ n < 400 ∧ rootR (str A g) n b1 k1 n1 A2 ∧ rbR (oldAt n PR PL k) (PL k) 1 A2 n1 k1 Ax nx top ∧ b9 = nI top ∧ A1 = mU Ax 16 i (nI top) ∧ I1 = va_up (va_up I 27 (nI 0)) 7 (nI nx)))) := by
  refine gM.of (own := RX6) hE hl (by decide +kernel) rfl rfl (Nat.le_of_ble_eq_true rfl) (fun p9 e9 s9 m9 a99 b99 t99 c9 C hr hnm => ?_)
  refine G.weak (ls' := [some (.ref mo), some (.int t), some (.int b), none, none, none, none, none, none, none, none]) ?_ rfl (fun _ _ h => h)
  refine g_cut (α := Nat × Option Value) (fun z => cd3 (gin t 5 ∧ gin b 3) (sqC2 TG n t) z.1) (fun _ => L) (fun _ => f) (fun _ => 0) (fun _ => 0) 56 (fun z => [some (.ref mo), some (.int t), some (.int b), z.2, none, none, none, none, none, none, none]) (fun z => [.int (nI z.1), .ref mo]) (fun J => ?_) (fun z hz => ?_)
  · skip
    refine g_iload_n (n := 1) C dX6_rebase_0 rfl rfl ?_
    refine g_iconst (n := 2) (v := nI 5) C dX6_rebase_1 rfl rfl ?_
    refine g_S (n := 5) (rest := []) C (k6_isIn hE hl (t) (nI 5)) dX6_rebase_2 kM_X6_isIn kL_X6_87 kS_X6_isIn rfl rfl (Nat.le_of_ble_eq_true rfl) ⟨by decide, by decide⟩ ⟨by decide, by decide⟩ rfl (fun v9 L9 f9 hq => ?_)
    obtain ⟨rfl, rfl, rfl⟩ := hq
    refine G.sk (st' := [_]) rfl ?_
    refine g_if_eq (n := 8) (tgt := 20) C dX6_rebase_5 (by decide) rfl (fun h5 => ?_) (fun h5 => ?_)
    · have h5 := gin_f h5 (by decide)
      refine g_iconst (n := 21) (v := nI 0) C dX6_rebase_20 rfl rfl ?_
      refine g_istore_n (n := 22) (ls' := [_, _, _, _, _, _, _, _, _, _, _]) C dX6_rebase_21 rfl (by decide) rfl ?_
      refine g_aload_n (n := 23) C dX6_rebase_22 rfl (Or.inr ⟨_, rfl⟩) rfl ?_
      refine g_iload_n (n := 24) C dX6_rebase_23 rfl rfl ?_
      refine g_if_ne (n := 27) (tgt := 31) C dX6_rebase_24 (by decide) rfl (fun h24 => absurd rfl h24) (fun h24 => ?_)
      refine g_iconst (n := 28) (v := nI 1) C dX6_rebase_27 rfl rfl ?_
      refine g_goto (tgt := 56) C dX6_rebase_28 (by decide) ?_
      first | exact J (1, _) (Or.inl ⟨rfl, fun q => h5 q.1⟩) | exact J (1, _) (Or.inl ⟨rfl, fun q => h13 q.2⟩) | exact J (2, _) (Or.inr (Or.inl ⟨rfl, ⟨⟨i, hi, rfl⟩, ⟨b1, hb1, rfl⟩⟩, fun q => q.2 i hi rfl (pI_0 h38 (by have := (hTG i hi).1; omega))⟩)) | exact J (0, _) (Or.inr (Or.inr ⟨rfl, ⟨⟨i, hi, rfl⟩, ⟨b1, hb1, rfl⟩⟩, h48, fun i2 h2 e => by have e2 := gn_inj (by omega) (by omega) e; subst e2; exact fun e3 => h38 (by rw [e3]; rfl)⟩)) | exact J (2, _) (Or.inr (Or.inl ⟨rfl, ⟨⟨i, hi, rfl⟩, ⟨b1, hb1, rfl⟩⟩, fun q => h48 q.1⟩))
    · obtain ⟨i, hi, rfl⟩ := gin_t h5 (by decide)
      refine g_iload_n (n := 9) C dX6_rebase_8 rfl rfl ?_
      refine g_iconst (n := 10) (v := nI 3) C dX6_rebase_9 rfl rfl ?_
      refine g_S (n := 13) (rest := []) C (k6_isIn hE hl (b) (nI 3)) dX6_rebase_10 kM_X6_isIn kL_X6_87 kS_X6_isIn rfl rfl (Nat.le_of_ble_eq_true rfl) ⟨by decide, by decide⟩ ⟨by decide, by decide⟩ rfl (fun v9 L9 f9 hq => ?_)
      obtain ⟨rfl, rfl, rfl⟩ := hq
      refine G.sk (st' := [_]) rfl ?_
      refine g_if_eq (n := 16) (tgt := 20) C dX6_rebase_13 (by decide) rfl (fun h13 => ?_) (fun h13 => ?_)
      · have h13 := gin_f h13 (by decide)
        refine g_iconst (n := 21) (v := nI 0) C dX6_rebase_20 rfl rfl ?_
        refine g_istore_n (n := 22) (ls' := [_, _, _, _, _, _, _, _, _, _, _]) C dX6_rebase_21 rfl (by decide) rfl ?_
        refine g_aload_n (n := 23) C dX6_rebase_22 rfl (Or.inr ⟨_, rfl⟩) rfl ?_
        refine g_iload_n (n := 24) C dX6_rebase_23 rfl rfl ?_
        refine g_if_ne (n := 27) (tgt := 31) C dX6_rebase_24 (by decide) rfl (fun h24 => absurd rfl h24) (fun h24 => ?_)
        refine g_iconst (n := 28) (v := nI 1) C dX6_rebase_27 rfl rfl ?_
        refine g_goto (tgt := 56) C dX6_rebase_28 (by decide) ?_
        first | exact J (1, _) (Or.inl ⟨rfl, fun q => h5 q.1⟩) | exact J (1, _) (Or.inl ⟨rfl, fun q => h13 q.2⟩) | exact J (2, _) (Or.inr (Or.inl ⟨rfl, ⟨⟨i, hi, rfl⟩, ⟨b1, hb1, rfl⟩⟩, fun q => q.2 i hi rfl (pI_0 h38 (by have := (hTG i hi).1; omega))⟩)) | exact J (0, _) (Or.inr (Or.inr ⟨rfl, ⟨⟨i, hi, rfl⟩, ⟨b1, hb1, rfl⟩⟩, h48, fun i2 h2 e => by have e2 := gn_inj (by omega) (by omega) e; subst e2; exact fun e3 => h38 (by rw [e3]; rfl)⟩)) | exact J (2, _) (Or.inr (Or.inl ⟨rfl, ⟨⟨i, hi, rfl⟩, ⟨b1, hb1, rfl⟩⟩, fun q => h48 q.1⟩))
      · obtain ⟨b1, hb1, rfl⟩ := gin_t h13 (by decide)
        refine g_iconst (n := 17) (v := nI 1) C dX6_rebase_16 rfl rfl ?_
        refine g_goto (tgt := 21) C dX6_rebase_17 (by decide) ?_
        refine g_istore_n (n := 22) (ls' := [_, _, _, _, _, _, _, _, _, _, _]) C dX6_rebase_21 rfl (by decide) rfl ?_
        refine g_aload_n (n := 23) C dX6_rebase_22 rfl (Or.inr ⟨_, rfl⟩) rfl ?_
        refine g_iload_n (n := 24) C dX6_rebase_23 rfl rfl ?_
        refine g_if_ne (n := 27) (tgt := 31) C dX6_rebase_24 (by decide) rfl (fun h24 => ?_) (fun h24 => absurd h24 (by decide))
        refine g_aload_n (n := 32) C dX6_rebase_31 rfl (Or.inr ⟨_, rfl⟩) rfl ?_
        refine m_get (n := 35) C hM dX6_rebase_32 kF_X6_56 rfl rfl ?_
        refine g_iload_n (n := 36) C dX6_rebase_35 rfl rfl ?_
        refine m_ald (n := 37) C hM dX6_rebase_36 rfl rfl rfl (by simp only [mLen]; omega) (by decide) rfl ?_
        refine G.top (y := pI (TG i)) (hTG i hi).2 ?_
        refine g_iconst (n := 38) (v := -1) C dX6_rebase_37 rfl rfl ?_
        refine g_icmp_eq (n := 41) (tgt := 51) C dX6_rebase_38 (by decide) rfl (fun h38 => ?_) (fun h38 => ?_)
        · refine g_iconst (n := 52) (v := nI 2) C dX6_rebase_51 rfl rfl ?_
          refine g_goto (tgt := 56) C dX6_rebase_52 (by decide) ?_
          first | exact J (1, _) (Or.inl ⟨rfl, fun q => h5 q.1⟩) | exact J (1, _) (Or.inl ⟨rfl, fun q => h13 q.2⟩) | exact J (2, _) (Or.inr (Or.inl ⟨rfl, ⟨⟨i, hi, rfl⟩, ⟨b1, hb1, rfl⟩⟩, fun q => q.2 i hi rfl (pI_0 h38 (by have := (hTG i hi).1; omega))⟩)) | exact J (0, _) (Or.inr (Or.inr ⟨rfl, ⟨⟨i, hi, rfl⟩, ⟨b1, hb1, rfl⟩⟩, h48, fun i2 h2 e => by have e2 := gn_inj (by omega) (by omega) e; subst e2; exact fun e3 => h38 (by rw [e3]; rfl)⟩)) | exact J (2, _) (Or.inr (Or.inl ⟨rfl, ⟨⟨i, hi, rfl⟩, ⟨b1, hb1, rfl⟩⟩, fun q => h48 q.1⟩))
        · refine g_aload_n (n := 42) C dX6_rebase_41 rfl (Or.inr ⟨_, rfl⟩) rfl ?_
          refine m_get (n := 45) C hM dX6_rebase_42 kF_X6_102 rfl rfl ?_
          refine g_sipush (n := 48) (v := nI 400) C dX6_rebase_45 rfl rfl ?_
          refine g_icmp_lt (n := 51) (tgt := 55) C dX6_rebase_48 (by decide) rfl (fun h48 => ?_) (fun h48 => ?_)
          · rw [hN] at h48
            have h48 := (nI_ltI (by omega) (by decide)).mp h48
            refine g_iconst (n := 56) (v := nI 0) C dX6_rebase_55 rfl rfl ?_
            first | exact J (1, _) (Or.inl ⟨rfl, fun q => h5 q.1⟩) | exact J (1, _) (Or.inl ⟨rfl, fun q => h13 q.2⟩) | exact J (2, _) (Or.inr (Or.inl ⟨rfl, ⟨⟨i, hi, rfl⟩, ⟨b1, hb1, rfl⟩⟩, fun q => q.2 i hi rfl (pI_0 h38 (by have := (hTG i hi).1; omega))⟩)) | exact J (0, _) (Or.inr (Or.inr ⟨rfl, ⟨⟨i, hi, rfl⟩, ⟨b1, hb1, rfl⟩⟩, h48, fun i2 h2 e => by have e2 := gn_inj (by omega) (by omega) e; subst e2; exact fun e3 => h38 (by rw [e3]; rfl)⟩)) | exact J (2, _) (Or.inr (Or.inl ⟨rfl, ⟨⟨i, hi, rfl⟩, ⟨b1, hb1, rfl⟩⟩, fun q => h48 q.1⟩))
          · rw [hN] at h48
            have h48 : ¬ n < 400 := fun q => h48 ((nI_ltI (by omega) (by decide)).mpr q)
            refine g_iconst (n := 52) (v := nI 2) C dX6_rebase_51 rfl rfl ?_
            refine g_goto (tgt := 56) C dX6_rebase_52 (by decide) ?_
            first | exact J (1, _) (Or.inl ⟨rfl, fun q => h5 q.1⟩) | exact J (1, _) (Or.inl ⟨rfl, fun q => h13 q.2⟩) | exact J (2, _) (Or.inr (Or.inl ⟨rfl, ⟨⟨i, hi, rfl⟩, ⟨b1, hb1, rfl⟩⟩, fun q => q.2 i hi rfl (pI_0 h38 (by have := (hTG i hi).1; omega))⟩)) | exact J (0, _) (Or.inr (Or.inr ⟨rfl, ⟨⟨i, hi, rfl⟩, ⟨b1, hb1, rfl⟩⟩, h48, fun i2 h2 e => by have e2 := gn_inj (by omega) (by omega) e; subst e2; exact fun e3 => h38 (by rw [e3]; rfl)⟩)) | exact J (2, _) (Or.inr (Or.inl ⟨rfl, ⟨⟨i, hi, rfl⟩, ⟨b1, hb1, rfl⟩⟩, fun q => h48 q.1⟩))
  · obtain ⟨w, o3⟩ := z
    replace hw : cd3 (gin t 5 ∧ gin b 3) (sqC2 TG n t) w := hz
    dsimp only
    refine g_V (n := 59) (rest := []) C (k6_fails hE hl hM _) dX6_rebase_56 kM_X6_fails kL_X6_95 kV_X6_fails hM.1 rfl rfl rfl (Nat.le_of_ble_eq_true rfl) ⟨by decide, by decide⟩ ⟨by decide, by decide⟩ rfl (fun v9 L9 f hq => ?_)
    obtain ⟨rfl, hM, rfl⟩ := hq
    refine G.sk (st' := [_]) rfl ?_
    refine g_if_eq (n := 62) (tgt := 64) C dX6_rebase_59 (by decide) rfl (fun h59 => ?_) (fun h59 => ?_)
    · obtain ⟨rfl, ⟨⟨i, hi, rfl⟩, ⟨b1, hb9, rfl⟩⟩, h400, hT⟩ := cd3_f hw h59
      obtain ⟨k, hk⟩ : ∃ k, TG i = k + 1 := ⟨TG i - 1, by have := hT i hi rfl; omega⟩
      have hkn : k < n := by have := (hTG i hi).1; omega
      have hPk := hPLb k hkn
      refine g_aload_n (n := 65) C dX6_rebase_64 rfl (Or.inr ⟨_, rfl⟩) rfl ?_
      refine g_aload_n (n := 66) C dX6_rebase_65 rfl (Or.inr ⟨_, rfl⟩) rfl ?_
      refine m_get (n := 69) C hM dX6_rebase_66 kF_X6_56 rfl rfl ?_
      refine g_iload_n (n := 70) C dX6_rebase_69 rfl rfl ?_
      refine m_ald (n := 71) C hM dX6_rebase_70 rfl rfl rfl (by simp only [mLen]; omega) (by decide) rfl ?_
      refine G.top (y := nI k) ((hTG i hi).2.trans (by rw [hk]; rfl)) ?_
      refine g_V (n := 74) (rest := []) C (k6_deep hE hl hM hn9 hPR hPL hkn) dX6_rebase_71 kM_X6_deep kL_X6_164 kV_X6_deep hM.1 rfl rfl rfl (Nat.le_of_ble_eq_true rfl) ⟨by decide, by decide⟩ ⟨by decide, by decide⟩ rfl (fun v9 L9 f9 hq => ?_)
      obtain ⟨rfl, rfl, rfl⟩ := hq
      refine G.sk (st' := [_]) rfl ?_
      refine g_istore (n := 76) (ls' := [_, _, _, _, _, _, _, _, _, _, _]) C dX6_rebase_74 rfl (by decide) rfl ?_
      refine g_aload_n (n := 77) C dX6_rebase_76 rfl (Or.inr ⟨_, rfl⟩) rfl ?_
      refine m_get (n := 80) C hM dX6_rebase_77 kF_X6_56 rfl rfl ?_
      refine g_iload_n (n := 81) C dX6_rebase_80 rfl rfl ?_
      refine m_ald (n := 82) C hM dX6_rebase_81 rfl rfl rfl (by simp only [mLen]; omega) (by decide) rfl ?_
      refine G.top (y := nI k) ((hTG i hi).2.trans (by rw [hk]; rfl)) ?_
      refine g_istore (n := 84) (ls' := [_, _, _, _, _, _, _, _, _, _, _]) C dX6_rebase_82 rfl (by decide) rfl ?_
      refine g_iload (n := 86) C dX6_rebase_84 rfl rfl ?_
      refine g_iconst (n := 87) (v := nI 1) C dX6_rebase_86 rfl rfl ?_
      refine g_isubN (n := 88) C dX6_rebase_87 (Nat.le_add_left 1 _) rfl ?_
      refine G.top (y := pI (PL k + 1)) rfl ?_
      refine g_istore (n := 90) (ls' := [_, _, _, _, _, _, _, _, _, _, _]) C dX6_rebase_88 rfl (by decide) rfl ?_
      refine g_loop (α := Nat × Nat × gF × (Nat → Int32)) (fun z => IsM cy mo ad (str A z.2.2.2) (va_up I 27 (nI 0)) L z.2.2.1 ∧ z.1 ≤ PL k + 1 ∧ dpt PL z.2.1 = z.1 ∧ (∀ j, z.2.1 = j + 1 → j < n ∧ anc PR (k + 1) j) ∧ ∀ x, z.1 ≤ x → x ≤ PL k → ∃ o, z.2.2.2 x = nI o ∧ oldAt n PR PL k x o) (fun z => z.1) (fun _ => L) (fun z => z.2.2.1) (fun _ => 0) (fun _ => 0) 90 (fun z => [some (.ref mo), some (.int (nI i)), some (.int (nI b1)), o3, some (.int (nI (PL k + 1))), some (.int (pI z.2.1)), some (.int (pI z.1)), none, none, none, none]) (fun _ => []) (fun z hz ih => ?_) (fun J3 => J3 (PL k + 1, k + 1, f, A 30) ⟨by rw [str_0]; exact hM, Nat.le_refl _, rfl, fun j hj => by have e := Nat.succ.inj hj; subst e; exact ⟨hkn, (anc_s (n := n) (fun k hk => (hPR k hk).1) hkn).mpr (Or.inl rfl)⟩, fun x h1 h2 => absurd h2 (by omega)⟩)
      obtain ⟨c, m, f, g⟩ := z
      obtain ⟨hM, hc9, hdm, hma, hrow⟩ := hz
      dsimp only at hM hc9 hdm hma hrow ih ⊢
      refine g_iload (n := 92) C dX6_rebase_90 rfl rfl ?_
      refine g_if_lt (n := 95) (tgt := 119) C dX6_rebase_92 (by decide) rfl (fun h92 => ?_) (fun h92 => ?_)
      · have e9 := pI_neg h92 (by omega)
        subst e9
        have hm0 : m = 0 := by
          cases m with
          | zero => rfl
          | succ j => exact absurd hdm (Nat.succ_ne_zero _)
        subst hm0
        refine g_aload_n (n := 120) C dX6_rebase_119 rfl (Or.inr ⟨_, rfl⟩) rfl ?_
        refine g_iload_n (n := 121) C dX6_rebase_120 rfl rfl ?_
        refine g_V (n := 124) (rest := []) C (k6_root hE hl hM hN (by omega) hb9) dX6_rebase_121 kM_X6_root kL_X6_109 kV_X6_root hM.1 rfl rfl rfl (Nat.le_of_ble_eq_true rfl) ⟨by decide, by decide⟩ ⟨by decide, by decide⟩ rfl (fun v9 L9 f hq => ?_)
        obtain ⟨rfl, k1, n1, A1, rfl, hM, hroot⟩ := hq
        refine G.sk (st' := [_]) rfl ?_
        refine g_istore (n := 126) (ls' := [_, _, _, _, _, _, _, _, _, _, _]) C dX6_rebase_124 rfl (by decide) rfl ?_
        refine g_iconst (n := 127) (v := nI 1) C dX6_rebase_126 rfl rfl ?_
        refine g_istore (n := 129) (ls' := [_, _, _, _, _, _, _, _, _, _, _]) C dX6_rebase_127 rfl (by decide) rfl ?_
        obtain ⟨r1, r2, r3, r4, r5, r6, r7⟩ := rootR_old hroot (PR := PR) (S := S) (fun k hk => ⟨(hPR k hk).1, (str_k (by decide)).trans (hPR k hk).2⟩) (fun k q hk hq => by rw [str_k (by decide)]; exact hSh k q hk hq)
        refine g_loop (α := Nat × (Nat → Nat → Int32) × Nat × Nat × gF × Option Value × Option Value × Option Value × Option Value) (fun z => IsM cy mo ad z.2.1 (va_up (va_up I 27 (nI 0)) 7 (nI z.2.2.1)) L z.2.2.2.2.1 ∧ 1 ≤ z.1 ∧ z.1 ≤ PL k + 1 ∧ z.2.2.2.1 < z.2.2.1 ∧ n ≤ z.2.2.1 ∧ z.2.2.1 + (PL k + 1 - z.1) ≤ 420 ∧ (∃ PR9 S9, vPar z.2.1 z.2.2.1 PR9 ∧ vShow z.2.1 z.2.2.1 PR9 S9) ∧ (∀ x, z.2.1 30 x = g x) ∧ ∀ A7 n7 t7, rbR (oldAt n PR PL k) (PL k + 1 - z.1) z.1 z.2.1 z.2.2.1 z.2.2.2.1 A7 n7 t7 → rbR (oldAt n PR PL k) (PL k) 1 A1 n1 k1 A7 n7 t7) (fun z => PL k + 1 - z.1) (fun _ => L) (fun z => z.2.2.2.2.1) (fun _ => 0) (fun _ => 0) 129 (fun z => [some (.ref mo), some (.int (nI i)), some (.int (nI b1)), o3, some (.int (nI (PL k + 1))), z.2.2.2.2.2.2.2.2, some (.int (nI z.2.2.2.1)), some (.int (nI z.1)), z.2.2.2.2.2.1, z.2.2.2.2.2.2.1, z.2.2.2.2.2.2.2.1]) (fun _ => []) (fun z hz ih4 => ?_) (fun J3 => J3 (1, A1, n1, k1, f, none, none, none, _) ⟨hM, Nat.le_refl _, by show 1 ≤ PL k + 1; omega, r1, r2, by show n1 + (PL k + 1 - 1) ≤ 420; omega, r4, fun x => (r7 30 x (Or.inr (by decide))).trans (if_pos rfl), fun _ _ _ h => h⟩)
        obtain ⟨x, Ax, nx, top, f, o8, o9, o10, o5⟩ := z
        obtain ⟨hM, hx1, hx9, htop, hnn, hnx, ⟨PR9, S9, hPR9, hSh9⟩, hr30, hT9⟩ := hz
        dsimp only at hM hx1 hx9 htop hnn hnx hPR9 hSh9 hr30 hT9 ih4 ⊢
        refine g_iload (n := 131) C dX6_rebase_129 rfl rfl ?_
        refine g_iload (n := 133) C dX6_rebase_131 rfl rfl ?_
        refine g_icmp_ge (n := 136) (tgt := 272) C dX6_rebase_133 (by decide) rfl (fun h133 => ?_) (fun h133 => ?_)
        · have e9 : x = PL k + 1 := by have := gn_ge h133 (by omega) (by omega); omega
          subst e9
          refine g_aload_n (n := 273) C dX6_rebase_272 rfl (Or.inr ⟨_, rfl⟩) rfl ?_
          refine m_get (n := 276) C hM dX6_rebase_273 kF_X6_56 rfl rfl ?_
          refine g_iload_n (n := 277) C dX6_rebase_276 rfl rfl ?_
          refine g_iload (n := 279) C dX6_rebase_277 rfl rfl ?_
          refine m_ast (n := 280) C hM dX6_rebase_279 rfl rfl rfl (by simp only [mLen]; omega) (by decide) rfl (fun f hM => ?_)
          refine g_iload (n := 282) C dX6_rebase_280 rfl rfl ?_
          refine g_iret C hr dX6_rebase_282 ?_ ⟨by decide, by decide⟩
          exact ⟨rfl, _, _, _, rfl, hM, 0, hw, fun h => absurd rfl h, fun _ => ⟨i, b1, k, g, k1, n1, A1, Ax, nx, top, hi, rfl, rfl, hb9, hk, hkn, h400, hroot, hT9 _ _ _ (by rw [Nat.sub_self]; exact ⟨rfl, rfl, rfl⟩), rfl, rfl, rfl⟩⟩
        · have hxl : x < PL k + 1 := gn_gt h133 (by omega) (by omega)
          refine g_aload_n (n := 137) C dX6_rebase_136 rfl (Or.inr ⟨_, rfl⟩) rfl ?_
          refine g_iload (n := 139) C dX6_rebase_137 rfl rfl ?_
          refine g_V (n := 142) (rest := []) C (k6_makes hE hl hM rfl (by omega) (m := top + 1) htop) dX6_rebase_139 kM_X6_makes kL_X6_105 kV_X6_makes hM.1 rfl rfl rfl (Nat.le_of_ble_eq_true rfl) ⟨by decide, by decide⟩ ⟨by decide, by decide⟩ rfl (fun v9 L9 f hq => ?_)
          obtain ⟨rfl, rfl, hM⟩ := hq
          refine G.sk (st' := [_]) rfl ?_
          refine g_istore (n := 144) (ls' := [_, _, _, _, _, _, _, _, _, _, _]) C dX6_rebase_142 rfl (by decide) rfl ?_
          refine g_iconst (n := 145) (v := nI 0) C dX6_rebase_144 rfl rfl ?_
          refine g_istore (n := 147) (ls' := [_, _, _, _, _, _, _, _, _, _, _]) C dX6_rebase_145 rfl (by decide) rfl ?_
          obtain ⟨o, ho, hoA⟩ := hrow x (Nat.zero_le _) (by omega)
          have hox : o < nx := by have := hoA.1; omega
          rw [bx_uu] at hM
          refine g_loop (α := Nat × gF × Option Value) (fun y => y.1 ≤ 12 ∧ IsM cy mo ad (upR (mkA Ax nx (top + 1)) 10 (12 * nx) y.1 (fun q => rbV (Ax 10 (12 * o + q)) (S9 top q))) (va_up (va_up I 27 (nI 0)) 7 (nI (nx + 1))) L y.2.1) (fun y => 12 - y.1) (fun _ => L) (fun y => y.2.1) (fun _ => 0) (fun _ => 0) 147 (fun y => [some (.ref mo), some (.int (nI i)), some (.int (nI b1)), o3, some (.int (nI (PL k + 1))), o5, some (.int (nI top)), some (.int (nI x)), some (.int (nI nx)), some (.int (nI y.1)), y.2.2]) (fun _ => []) (fun y hy ih5 => ?_) (fun J4 => J4 (0, f, o10) ⟨Nat.zero_le _, by rw [upR_0]; exact hM⟩)
          obtain ⟨q, f, o10⟩ := y
          obtain ⟨hq9, hM⟩ := hy
          dsimp only at hq9 hM ih5 ⊢
          refine g_iload (n := 149) C dX6_rebase_147 rfl rfl ?_
          refine g_bipush (n := 151) (v := nI 12) C dX6_rebase_149 rfl rfl ?_
          refine g_icmp_ge (n := 154) (tgt := 218) C dX6_rebase_151 (by decide) rfl (fun h151 => ?_) (fun h151 => ?_)
          · have e9 : q = 12 := by have := gn_ge h151 (by decide) (by omega); omega
            subst e9
            refine g_iconst (n := 219) (v := nI 0) C dX6_rebase_218 rfl rfl ?_
            refine g_istore (n := 221) (ls' := [_, _, _, _, _, _, _, _, _, _, _]) C dX6_rebase_219 rfl (by decide) rfl ?_
            refine g_loop (α := Nat × gF) (fun y => y.1 ≤ 4 ∧ IsM cy mo ad (upR (upR (mkA Ax nx (top + 1)) 10 (12 * nx) 12 (fun q => rbV (Ax 10 (12 * o + q)) (S9 top q))) 11 (4 * nx) y.1 (fun v => Ax 11 (4 * o + v))) (va_up (va_up I 27 (nI 0)) 7 (nI (nx + 1))) L y.2) (fun y => 4 - y.1) (fun _ => L) (fun y => y.2) (fun _ => 0) (fun _ => 0) 221 (fun y => [some (.ref mo), some (.int (nI i)), some (.int (nI b1)), o3, some (.int (nI (PL k + 1))), o5, some (.int (nI top)), some (.int (nI x)), some (.int (nI nx)), some (.int (nI y.1)), o10]) (fun _ => []) (fun y hy ih6 => ?_) (fun J5 => J5 (0, f) ⟨Nat.zero_le _, by rw [upR_0]; exact hM⟩)
            obtain ⟨q, f⟩ := y
            obtain ⟨hq9, hM⟩ := hy
            dsimp only at hq9 hM ih6 ⊢
            refine g_iload (n := 223) C dX6_rebase_221 rfl rfl ?_
            refine g_iconst (n := 224) (v := nI 4) C dX6_rebase_223 rfl rfl ?_
            refine g_icmp_ge (n := 227) (tgt := 262) C dX6_rebase_224 (by decide) rfl (fun h224 => ?_) (fun h224 => ?_)
            · have e9 : q = 4 := by have := gn_ge h224 (by decide) (by omega); omega
              subst e9
              refine g_iload (n := 264) C dX6_rebase_262 rfl rfl ?_
              refine g_istore (n := 266) (ls' := [_, _, _, _, _, _, _, _, _, _, _]) C dX6_rebase_264 rfl (by decide) rfl ?_
              refine g_iinc (n := 269) (ls' := [_, _, _, _, _, _, _, _, _, _, _]) C dX6_rebase_266 rfl (nI_1 _) rfl (by decide) rfl ?_
              refine g_goto (tgt := 129) C dX6_rebase_269 (by decide) ?_
              replace hM : IsM cy mo ad (rbA Ax nx top o S9) _ L f := hM
              refine ih4 (x + 1, rbA Ax nx top o S9, nx + 1, nx, f, _, _, _, _) ⟨hM, by show 1 ≤ x + 1; omega, by show x + 1 ≤ PL k + 1; omega, Nat.lt_succ_self _, by show n ≤ nx + 1; omega, by show nx + 1 + (PL k + 1 - (x + 1)) ≤ 420; omega, ⟨_, _, ext_par hPR9 htop (fun k hk => rbA_9 (o := o) (S := S9) hk) (rbA_9n (o := o) (S := S9)), ext_sh hPR9 hSh9 htop (fun k q hk hq => rbA_10 (o := o) (S := S9) hk hq)⟩, fun x3 => (rbA_k (n := nx) (top := top) (o := o) (S := S9) (Or.inr (by decide))).trans (hr30 x3), fun A7 n7 t7 h => hT9 A7 n7 t7 ?_⟩ (by show PL k + 1 - (x + 1) < PL k + 1 - x; omega)
              rw [show PL k + 1 - x = (PL k + 1 - (x + 1)) + 1 by omega]
              exact ⟨o, _, hoA, ⟨PR9, S9, hPR9, hSh9, rfl⟩, h⟩
            · have hi9 : q < 4 := gn_gt h224 (by decide) (by omega)
              refine g_aload_n (n := 228) C dX6_rebase_227 rfl (Or.inr ⟨_, rfl⟩) rfl ?_
              refine m_get (n := 231) C hM dX6_rebase_228 kF_X6_41 rfl rfl ?_
              refine g_iconst (n := 232) (v := nI 4) C dX6_rebase_231 rfl rfl ?_
              refine g_iload (n := 234) C dX6_rebase_232 rfl rfl ?_
              refine g_imulN (n := 235) C dX6_rebase_234 rfl ?_
              refine g_iload (n := 237) C dX6_rebase_235 rfl rfl ?_
              refine g_iaddN (n := 238) C dX6_rebase_237 rfl ?_
              refine g_aload_n (n := 239) C dX6_rebase_238 rfl (Or.inr ⟨_, rfl⟩) rfl ?_
              refine m_get (n := 242) C hM dX6_rebase_239 kF_X6_41 rfl rfl ?_
              refine g_iconst (n := 243) (v := nI 4) C dX6_rebase_242 rfl rfl ?_
              refine g_aload_n (n := 244) C dX6_rebase_243 rfl (Or.inr ⟨_, rfl⟩) rfl ?_
              refine m_get (n := 247) C hM dX6_rebase_244 kF_X6_78 rfl rfl ?_
              refine g_iload (n := 249) C dX6_rebase_247 rfl rfl ?_
              refine m_ald (n := 250) C hM dX6_rebase_249 rfl rfl rfl (by simp only [mLen]; omega) (by decide) rfl ?_
              refine G.top (y := nI o) (by rw [upR_k (by decide), upR_k (by decide), mkA_k (Or.inr (by decide)), hr30, ho]) ?_
              refine g_imulN (n := 251) C dX6_rebase_250 rfl ?_
              refine g_iload (n := 253) C dX6_rebase_251 rfl rfl ?_
              refine g_iaddN (n := 254) C dX6_rebase_253 rfl ?_
              refine m_ald (n := 255) C hM dX6_rebase_254 rfl rfl rfl (by simp only [mLen]; omega) (by decide) rfl ?_
              refine G.top (y := Ax 11 (4 * o + q)) (by rw [upR_o (by omega), upR_k (by decide), mkA_11 hox hi9]) ?_
              refine m_ast (n := 256) C hM dX6_rebase_255 rfl rfl rfl (by simp only [mLen]; omega) (by decide) rfl (fun f hM => ?_)
              refine g_iinc (n := 259) (ls' := [_, _, _, _, _, _, _, _, _, _, _]) C dX6_rebase_256 rfl (nI_1 _) rfl (by decide) rfl ?_
              refine g_goto (tgt := 221) C dX6_rebase_259 (by decide) ?_
              rw [upR_s rfl] at hM
              exact ih6 (q + 1, f) ⟨by show q + 1 ≤ 4; omega, hM⟩ (by show 4 - (q + 1) < 4 - q; omega)
          · have hi9 : q < 12 := gn_gt h151 (by decide) (by omega)
            refine g_aload_n (n := 155) C dX6_rebase_154 rfl (Or.inr ⟨_, rfl⟩) rfl ?_
            refine m_get (n := 158) C hM dX6_rebase_155 kF_X6_38 rfl rfl ?_
            refine g_bipush (n := 160) (v := nI 12) C dX6_rebase_158 rfl rfl ?_
            refine g_aload_n (n := 161) C dX6_rebase_160 rfl (Or.inr ⟨_, rfl⟩) rfl ?_
            refine m_get (n := 164) C hM dX6_rebase_161 kF_X6_78 rfl rfl ?_
            refine g_iload (n := 166) C dX6_rebase_164 rfl rfl ?_
            refine m_ald (n := 167) C hM dX6_rebase_166 rfl rfl rfl (by simp only [mLen]; omega) (by decide) rfl ?_
            refine G.top (y := nI o) (by rw [upR_k (by decide), mkA_k (Or.inr (by decide)), hr30, ho]) ?_
            refine g_imulN (n := 168) C dX6_rebase_167 rfl ?_
            refine g_iload (n := 170) C dX6_rebase_168 rfl rfl ?_
            refine g_iaddN (n := 171) C dX6_rebase_170 rfl ?_
            refine m_ald (n := 172) C hM dX6_rebase_171 rfl rfl rfl (by simp only [mLen]; omega) (by decide) rfl ?_
            refine G.top (y := Ax 10 (12 * o + q)) (by rw [upR_o (by omega), mkA_10 hox hi9]) ?_
            refine g_istore (n := 174) (ls' := [_, _, _, _, _, _, _, _, _, _, _]) C dX6_rebase_172 rfl (by decide) rfl ?_
            refine g_aload_n (n := 175) C dX6_rebase_174 rfl (Or.inr ⟨_, rfl⟩) rfl ?_
            refine m_get (n := 178) C hM dX6_rebase_175 kF_X6_38 rfl rfl ?_
            refine g_bipush (n := 180) (v := nI 12) C dX6_rebase_178 rfl rfl ?_
            refine g_iload (n := 182) C dX6_rebase_180 rfl rfl ?_
            refine g_imulN (n := 183) C dX6_rebase_182 rfl ?_
            refine g_iload (n := 185) C dX6_rebase_183 rfl rfl ?_
            refine g_iaddN (n := 186) C dX6_rebase_185 rfl ?_
            refine g_iload (n := 188) C dX6_rebase_186 rfl rfl ?_
            refine g_bipush (n := 190) (v := -2) C dX6_rebase_188 rfl rfl ?_
            refine g_icmp_ne (n := 193) (tgt := 209) C dX6_rebase_190 (by decide) rfl (fun h190 => ?_) (fun h190 => ?_)
            · refine g_iload (n := 211) C dX6_rebase_209 rfl rfl ?_
              refine G.top (y := rbV (Ax 10 (12 * o + q)) (S9 top q)) (by unfold rbV; first | exact (if_pos ⟨h190, h202⟩).symm | exact (if_neg (fun z => h190 z.1)).symm | exact (if_neg (fun z => h202 z.2)).symm) ?_
              refine m_ast (n := 212) C hM dX6_rebase_211 rfl rfl rfl (by simp only [mLen]; omega) (by decide) rfl (fun f hM => ?_)
              refine g_iinc (n := 215) (ls' := [_, _, _, _, _, _, _, _, _, _, _]) C dX6_rebase_212 rfl (nI_1 _) rfl (by decide) rfl ?_
              refine g_goto (tgt := 147) C dX6_rebase_215 (by decide) ?_
              rw [upR_s rfl] at hM
              exact ih5 (q + 1, f, _) ⟨by show q + 1 ≤ 12; omega, hM⟩ (by show 12 - (q + 1) < 12 - q; omega)
            · refine g_aload_n (n := 194) C dX6_rebase_193 rfl (Or.inr ⟨_, rfl⟩) rfl ?_
              refine g_iload (n := 196) C dX6_rebase_194 rfl rfl ?_
              refine g_iload (n := 198) C dX6_rebase_196 rfl rfl ?_
              refine g_V (n := 201) (rest := [_, _]) C (k6_shows hE hl hM (by omega) (mk_par hPR9) (mk_sh hSh9) htop hi9) dX6_rebase_198 kM_X6_shows kL_X6_129 kV_X6_shows hM.1 rfl rfl rfl (Nat.le_of_ble_eq_true rfl) ⟨by decide, by decide⟩ ⟨by decide, by decide⟩ rfl (fun v9 L9 f9 hq => ?_)
              obtain ⟨rfl, rfl, rfl⟩ := hq
              refine G.sk (st' := [_, _, _]) rfl ?_
              refine g_iconst (n := 202) (v := -1) C dX6_rebase_201 rfl rfl ?_
              refine g_icmp_ne (n := 205) (tgt := 209) C dX6_rebase_202 (by decide) rfl (fun h202 => ?_) (fun h202 => ?_)
              · refine g_iload (n := 211) C dX6_rebase_209 rfl rfl ?_
                refine G.top (y := rbV (Ax 10 (12 * o + q)) (S9 top q)) (by unfold rbV; first | exact (if_pos ⟨h190, h202⟩).symm | exact (if_neg (fun z => h190 z.1)).symm | exact (if_neg (fun z => h202 z.2)).symm) ?_
                refine m_ast (n := 212) C hM dX6_rebase_211 rfl rfl rfl (by simp only [mLen]; omega) (by decide) rfl (fun f hM => ?_)
                refine g_iinc (n := 215) (ls' := [_, _, _, _, _, _, _, _, _, _, _]) C dX6_rebase_212 rfl (nI_1 _) rfl (by decide) rfl ?_
                refine g_goto (tgt := 147) C dX6_rebase_215 (by decide) ?_
                rw [upR_s rfl] at hM
                exact ih5 (q + 1, f, _) ⟨by show q + 1 ≤ 12; omega, hM⟩ (by show 12 - (q + 1) < 12 - q; omega)
              · refine g_iconst (n := 206) (v := -1) C dX6_rebase_205 rfl rfl ?_
                refine g_goto (tgt := 211) C dX6_rebase_206 (by decide) ?_
                refine G.top (y := rbV (Ax 10 (12 * o + q)) (S9 top q)) (by unfold rbV; first | exact (if_pos ⟨h190, h202⟩).symm | exact (if_neg (fun z => h190 z.1)).symm | exact (if_neg (fun z => h202 z.2)).symm) ?_
                refine m_ast (n := 212) C hM dX6_rebase_211 rfl rfl rfl (by simp only [mLen]; omega) (by decide) rfl (fun f hM => ?_)
                refine g_iinc (n := 215) (ls' := [_, _, _, _, _, _, _, _, _, _, _]) C dX6_rebase_212 rfl (nI_1 _) rfl (by decide) rfl ?_
                refine g_goto (tgt := 147) C dX6_rebase_215 (by decide) ?_
                rw [upR_s rfl] at hM
                exact ih5 (q + 1, f, _) ⟨by show q + 1 ≤ 12; omega, hM⟩ (by show 12 - (q + 1) < 12 - q; omega)
      · obtain ⟨c2, rfl⟩ := pI_nneg h92
        obtain ⟨j, rfl⟩ : ∃ j, m = j + 1 := by
          cases m with
          | zero => exact absurd hdm.symm (Nat.succ_ne_zero _)
          | succ j => exact ⟨j, rfl⟩
        have hPj : PL j = c2 := Nat.succ.inj hdm
        have hja := hma j rfl
        rw [show pI (c2 + 1) = nI c2 from rfl, show pI (j + 1) = nI j from rfl]
        refine g_aload_n (n := 96) C dX6_rebase_95 rfl (Or.inr ⟨_, rfl⟩) rfl ?_
        refine m_get (n := 99) C hM dX6_rebase_96 kF_X6_78 rfl rfl ?_
        refine g_iload (n := 101) C dX6_rebase_99 rfl rfl ?_
        refine g_iload (n := 103) C dX6_rebase_101 rfl rfl ?_
        refine m_ast (n := 104) C hM dX6_rebase_103 rfl rfl rfl (by simp only [mLen]; omega) (by decide) rfl (fun f hM => ?_)
        refine g_aload_n (n := 105) C dX6_rebase_104 rfl (Or.inr ⟨_, rfl⟩) rfl ?_
        refine m_get (n := 108) C hM dX6_rebase_105 kF_X6_35 rfl rfl ?_
        refine g_iload (n := 110) C dX6_rebase_108 rfl rfl ?_
        refine m_ald (n := 111) C hM dX6_rebase_110 rfl rfl rfl (by simp only [mLen]; omega) (by decide) rfl ?_
        refine G.top (y := pI (PR j)) ((mU_k (by decide)).trans ((str_k (by decide)).trans (hPR j hja.1).2)) ?_
        refine g_istore (n := 113) (ls' := [_, _, _, _, _, _, _, _, _, _, _]) C dX6_rebase_111 rfl (by decide) rfl ?_
        refine g_iinc (n := 116) (ls' := [_, _, _, _, _, _, _, _, _, _, _]) C dX6_rebase_113 rfl (gn_pred c2) rfl (by decide) rfl ?_
        refine g_goto (tgt := 90) C dX6_rebase_116 (by decide) ?_
        rw [str_s] at hM
        refine ih (c2, PR j, f, upd g c2 (nI j)) ⟨hM, by show c2 ≤ PL k + 1; omega, by show dpt PL (PR j) = c2; rw [← hPL j hja.1, hPj], fun j2 h2 => ⟨by have := (hPR j hja.1).1; have h2 : PR j = j2 + 1 := h2; have := hja.1; omega, anc_tr (n := n) (fun k hk => (hPR k hk).1) hkn hja.1 h2 hja.2⟩, fun x h1 h2 => ?_⟩ (Nat.lt_succ_self c2)
        by_cases e : x = c2
        · subst e
          exact ⟨j, if_pos rfl, hja.1, hPj, hja.2⟩
        · obtain ⟨o, ho, ho2⟩ := hrow x (by have h1 : c2 ≤ x := h1; omega) h2
          exact ⟨o, (if_neg e).trans ho, ho2⟩
    · have hw0 := cd_t h59
      refine g_iconst (n := 63) (v := nI 0) C dX6_rebase_62 rfl rfl ?_
      refine g_iret C hr dX6_rebase_63 ?_ ⟨by decide, by decide⟩
      exact ⟨rfl, nI 0, A, _, rfl, hM, w, hw, fun _ => ⟨rfl, rfl⟩, fun h => absurd h hw0⟩

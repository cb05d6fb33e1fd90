/-! ===== the reference, VIII: build ===== -/
theorem lfR_o {A A1 : Nat → Nat → Int32} {n k0 : Nat} {S : Nat → Nat → Int32} {what a b its : Int32} (h : lfR A n k0 S what a b its A1) {k j : Nat} (h10 : k ≠ 10 ∨ (∃ i q, k = 10 ∧ i < n ∧ q < 12 ∧ j = 12 * i + q)) (h11 : k ≠ 11 ∨ (∃ i q, k = 11 ∧ i < n ∧ q < 4 ∧ j = 4 * i + q)) : A1 k j = lfB A n k0 what a b its k j := by
  have n10 : ∀ q, ¬ (k = 10 ∧ j = 12 * n + q) := by
    rintro q ⟨rfl, rfl⟩
    rcases h10 with h | ⟨i, r, -, h1, h2, h3⟩
    · exact h rfl
    · omega
  have n11 : ∀ q, ¬ (k = 11 ∧ j = 4 * n + q) := by
    rintro q ⟨rfl, rfl⟩
    rcases h11 with h | ⟨i, r, -, h1, h2, h3⟩
    · exact h rfl
    · omega
  rcases h with ⟨rfl, q, hq, rfl, rfl⟩ | ⟨rfl, q, v, hq, hv, rfl, rfl, rfl⟩ | ⟨rfl, q, r, hq, hr, rfl, rfl, rfl⟩ | ⟨rfl, q, hq, rfl, rfl⟩ | ⟨rfl, v, hv, rfl, rfl⟩
  · exact if_neg (n10 q)
  · exact if_neg (n10 q)
  · exact (if_neg (n10 q)).trans (if_neg (n10 r))
  · exact if_neg (n10 q)
  · exact if_neg (n11 v)
theorem lfR_9 {A A1 : Nat → Nat → Int32} {n k0 : Nat} {S : Nat → Nat → Int32} {what a b its : Int32} (h : lfR A n k0 S what a b its A1) {k : Nat} (hk : k < n) : A1 9 k = A 9 k := by
  rw [lfR_o h (Or.inl (by decide)) (Or.inl (by decide)), lfB_9 hk]
theorem lfR_9n {A A1 : Nat → Nat → Int32} {n k0 : Nat} {S : Nat → Nat → Int32} {what a b its : Int32} (h : lfR A n k0 S what a b its A1) : A1 9 n = pI (k0 + 1) := by
  rw [lfR_o h (Or.inl (by decide)) (Or.inl (by decide))]
  unfold lfB mkA
  rw [mU_k (by decide), mU_k (by decide), mU_k (by decide), mU_k (by decide), mU_k (by decide), mU_k (by decide), mU_s]
theorem lfR_10 {A A1 : Nat → Nat → Int32} {n k0 : Nat} {S : Nat → Nat → Int32} {what a b its : Int32} (h : lfR A n k0 S what a b its A1) {k q : Nat} (hk : k < n) (hq : q < 12) : A1 10 (12 * k + q) = A 10 (12 * k + q) := by
  rw [lfR_o h (Or.inr ⟨k, q, rfl, hk, hq, rfl⟩) (Or.inl (by decide)), lfB_10 hk hq]
theorem lfR_k {A A1 : Nat → Nat → Int32} {n k0 : Nat} {S : Nat → Nat → Int32} {what a b its : Int32} (h : lfR A n k0 S what a b its A1) {k j : Nat} (hk : k < 8 ∨ 15 < k) : A1 k j = A k j := by
  rw [lfR_o h (Or.inl (by omega)) (Or.inl (by omega))]
  unfold lfB mkA
  rw [mU_k (by omega), mU_k (by omega), mU_k (by omega), mU_k (by omega), mU_k (by omega), mU_k (by omega), mU_k (by omega), upR_k (by omega), upR_k (by omega)]
def PRx (PR : Nat → Nat) (n m : Nat) : Nat → Nat := fun k => if k = n then m else PR k
def Sx (S : Nat → Nat → Int32) (n : Nat) (g : Nat → Int32) : Nat → Nat → Int32 := fun k q => if k = n then g q else S k q
theorem ext_par {A A1 : Nat → Nat → Int32} {n m : Nat} {PR : Nat → Nat} (hPR : vPar A n PR) (hm : m ≤ n) (h9 : ∀ k, k < n → A1 9 k = A 9 k) (h9n : A1 9 n = pI m) : vPar A1 (n + 1) (PRx PR n m) := by
  intro k hk
  by_cases e : k = n
  · subst e
    simp only [PRx, if_true]
    exact ⟨hm, h9n⟩
  · simp only [PRx, if_neg e]
    rw [h9 k (by omega)]
    exact hPR k (by omega)
theorem spr_x {S : Nat → Nat → Int32} {n m q : Nat} {g : Nat → Int32} (hm : m ≤ n) : spr (Sx S n g) q m = spr S q m := by
  cases m with
  | zero => rfl
  | succ j => show Sx S n g j q = S j q; exact if_neg (by omega)
theorem ext_sh {A A1 : Nat → Nat → Int32} {n m : Nat} {PR : Nat → Nat} {S : Nat → Nat → Int32} (hPR : vPar A n PR) (hSh : vShow A n PR S) (hm : m ≤ n) (h10 : ∀ k q, k < n → q < 12 → A1 10 (12 * k + q) = A 10 (12 * k + q)) : vShow A1 (n + 1) (PRx PR n m) (Sx S n (fun q => shw (A1 10 (12 * n + q)) m S q)) := by
  intro k q hk hq
  by_cases e : k = n
  · subst e
    simp only [PRx, if_true]
    rw [show Sx S k (fun q => shw (A1 10 (12 * k + q)) m S q) k q = shw (A1 10 (12 * k + q)) m S q from if_pos rfl]
    unfold shw
    rw [spr_x hm]
  · have hk2 : k < n := by omega
    simp only [PRx, if_neg e]
    rw [show Sx S n (fun q => shw (A1 10 (12 * n + q)) m S q) k q = S k q from if_neg e, hSh k q hk2 hq, h10 k q hk2 hq]
    unfold shw
    rw [spr_x (by have := (hPR k hk2).1; omega)]
/-- a build's steps, from the (d+1)-th on -/
def runR : Nat → (Nat → Nat → Int32) → (Nat → Int32) → Nat → Nat → Nat → Nat → Int32 → (Nat → Nat → Int32) → (Nat → Int32) → Prop
  | 0, A, I, _, k0, _, _, b, A1, I1 => b = nI k0 ∧ A1 = A ∧ I1 = I
  | u + 1, A, I, n, k0, d, m, b, A1, I1 => ∃ (PR : Nat → Nat) (S : Nat → Nat → Int32) (b8 : Int32) (A8 : Nat → Nat → Int32) (I8 : Nat → Int32), vPar A n PR ∧ vShow A n PR S ∧ goR A I n S k0 d m b8 A8 I8 ∧
      ((I8 17 = 0 ∧ b = b8 ∧ A1 = A8 ∧ I1 = I8) ∨ (¬ I8 17 = 0 ∧ ∃ n8 k8, I8 7 = nI n8 ∧ I8 24 = nI k8 ∧ n8 < 420 ∧ k8 < n8 ∧ runR u A8 I8 n8 k8 (d + 1) m b A1 I1))
theorem goR_27 {A A1 : Nat → Nat → Int32} {I I1 : Nat → Int32} {n k0 d m : Nat} {S : Nat → Nat → Int32} {b : Int32} (h : goR A I n S k0 d m b A1 I1) : I1 27 = I 27 := by
  rcases h with ⟨-, -, -, -, h⟩ | ⟨-, its, fm, k1, n1, -, -, -, h, -⟩ <;> exact h
theorem goR_k {A A1 : Nat → Nat → Int32} {I I1 : Nat → Int32} {n k0 d m : Nat} {S : Nat → Nat → Int32} {b : Int32} (h : goR A I n S k0 d m b A1 I1) {k j : Nat} (hk : k < 8 ∨ 15 < k) : A1 k j = A k j := by
  rcases h with ⟨-, -, rfl, -⟩ | ⟨-, its, fm, k1, n1, -, -, -, -, ⟨-, -, rfl, -⟩ | ⟨-, -, -, h, -⟩⟩
  · rfl
  · rfl
  · exact lfR_k h hk
theorem gn_b01 {c : Prop} [Decidable c] (h : ¬ nI (if c then 0 else 1) = 0) : ¬ c := fun q => h (by rw [if_pos q]; rfl)
theorem gn_b10 {c : Prop} [Decidable c] (h : nI (if c then 0 else 1) = 0) : c := by
  by_cases q : c
  · exact q
  · rw [if_neg q] at h
    exact absurd h (by decide)
/-- a step that doesn't end the build -/
theorem goR_next {A A1 : Nat → Nat → Int32} {I I1 : Nat → Int32} {n k0 d m : Nat} {PR : Nat → Nat} {S : Nat → Nat → Int32} {b : Int32} (h : goR A I n S k0 d m b A1 I1) (hPR : vPar A n PR) (hSh : vShow A n PR S) (hk0 : k0 < n) (hd : d < m) (hb : n + (m - d) ≤ 420) (h17 : ¬ I1 17 = 0) :
    ∃ (n1 k1 : Nat) (PR1 : Nat → Nat) (S1 : Nat → Nat → Int32), I1 7 = nI n1 ∧ I1 24 = nI k1 ∧ I1 20 = nI (d + 1) ∧ I1 19 = nI m ∧ k1 < n1 ∧ d + 1 < m ∧ n1 + (m - (d + 1)) ≤ 420 ∧ n1 < 420 ∧ vPar A1 n1 PR1 ∧ vShow A1 n1 PR1 S1 := by
  rcases h with ⟨-, -, -, ⟨-, h, -⟩, -⟩ | ⟨-, its, fm, k1, n1, -, hlst, -, -, ⟨rfl, rfl, rfl, ⟨e7, e17, e18, e19, e20, e24, -⟩⟩ | ⟨rfl, rfl, rfl, hlf, ⟨e7, e17, e18, e19, e20, e24, -⟩⟩⟩
  · exact absurd h h17
  · rw [e17] at h17
    have := gn_b01 h17
    have hk1 : k1 < n1 := by
      rcases hlst with ⟨h, -⟩ | ⟨j0, h, -, h2, -⟩ <;> omega
    exact ⟨n1, k1, PR, S, e7, e24, e20, e19, hk1, by omega, by omega, by omega, hPR, hSh⟩
  · rw [e17] at h17
    have := gn_b01 h17
    exact ⟨_, _, _, _, e7, e24, e20, e19, Nat.lt_succ_self _, by omega, by omega, by omega, ext_par hPR (by omega) (fun k hk => lfR_9 hlf hk) (lfR_9n hlf), ext_sh hPR hSh (by omega) (fun k q hk hq => lfR_10 hlf hk hq)⟩
theorem rtA_9 {A : Nat → Nat → Int32} {n b k : Nat} (h : k < n) : rtA A n b 9 k = A 9 k := by
  unfold rtA mkA
  rw [upR_k (by decide), mU_k (by decide), mU_k (by decide), mU_j (by omega), upR_k (by decide), upR_k (by decide)]
theorem rtA_9n {A : Nat → Nat → Int32} {n b : Nat} : rtA A n b 9 n = pI 0 := by
  unfold rtA mkA
  rw [upR_k (by decide), mU_k (by decide), mU_k (by decide), mU_s]
theorem rtA_10 {A : Nat → Nat → Int32} {n b k q : Nat} (h : k < n) (hq : q < 12) : rtA A n b 10 (12 * k + q) = A 10 (12 * k + q) := by
  unfold rtA mkA
  rw [upR_o (by omega), mU_k (by decide), mU_k (by decide), mU_k (by decide), upR_k (by decide), upR_o (by omega)]
theorem k6_build {l : Launch} {s0 : State} {D : va_G} {cy : Nat → ClassId} (hE : gE s0 D cy) (hl : l.stackTraces = false) {mo : Nat} {ad : Nat → Nat} {A : Nat → Nat → Int32} {I : Nat → Int32} {L : List Nat} {f : gF} (hM : IsM cy mo ad A I L f) (hR : vRec A) {n : Nat} (hN : I 7 = nI n) (hn9 : n ≤ 420) {PR : Nat → Nat} (hPR : vPar A n PR) {S : Nat → Nat → Int32} (hSh : vShow A n PR S) (r : Int32) : gM l s0 D yX6_build cX6_build 3 (some .int) 4 0 0 [.ref mo, .int r] L f (mQ cy mo ad L (fun b9 A1 I1 => ∃ w, cd3 (gin r 4) (I 17 = 0 ∧ n < 400) w ∧ (w ≠ 0 → A1 = A ∧ I1 = va_up I 27 (nI w)) ∧ (w = 0 → ∃ i b m k1 n1 A2 I2, i < 4 ∧ r = nI i ∧ A 2 i = nI b ∧ b < 3 ∧ A 3 i = nI m ∧ m ≤ 10 ∧ rootR A n b k1 n1 A2 ∧ iV I2 n1 (nI (if m = 0 then 0 else 1)) (nI (if m = 0 then 1 else 0)) (nI m) (nI 0) (nI k1) (I 25) (I 26) ∧ I2 27 = nI 0 ∧ runR m (begA A2 A i m) I2 n1 k1 0 m b9 A1 I1))) := by
  refine gM.of (own := RX6) hE hl (by decide +kernel) rfl rfl (Nat.le_of_ble_eq_true rfl) (fun p9 e9 s9 m9 a99 b99 t99 c9 C hr hnm => ?_)
  refine G.weak (ls' := [some (.ref mo), some (.int r), none]) ?_ rfl (fun _ _ h => h)
  refine g_cut (α := Nat) (fun w => cd3 (gin r 4) (I 17 = 0 ∧ n < 400) w) (fun _ => L) (fun _ => f) (fun _ => 0) (fun _ => 0) 35 (fun _ => [some (.ref mo), some (.int r), none]) (fun w => [.int (nI w), .ref mo]) (fun J => ?_) (fun w hw => ?_)
  · skip
    refine g_aload_n (n := 1) C dX6_build_0 rfl (Or.inr ⟨_, rfl⟩) rfl ?_
    refine g_iload_n (n := 2) C dX6_build_1 rfl rfl ?_
    refine g_iconst (n := 3) (v := nI 4) C dX6_build_2 rfl rfl ?_
    refine g_S (n := 6) (rest := [_]) C (k6_isIn hE hl (r) (nI 4)) dX6_build_3 kM_X6_isIn kL_X6_87 kS_X6_isIn rfl rfl (Nat.le_of_ble_eq_true rfl) ⟨by decide, by decide⟩ ⟨by decide, by decide⟩ rfl (fun v9 L9 f9 hq => ?_)
    obtain ⟨rfl, rfl, rfl⟩ := hq
    refine G.sk (st' := [_, _]) rfl ?_
    refine g_if_ne (n := 9) (tgt := 13) C dX6_build_6 (by decide) rfl (fun h6 => ?_) (fun h6 => ?_)
    · have h6 := gin_t h6 (by decide)
      refine g_aload_n (n := 14) C dX6_build_13 rfl (Or.inr ⟨_, rfl⟩) rfl ?_
      refine m_get (n := 17) C hM dX6_build_14 kF_X6_118 rfl rfl ?_
      refine g_if_ne (n := 20) (tgt := 30) C dX6_build_17 (by decide) rfl (fun h17 => ?_) (fun h17 => ?_)
      · refine g_iconst (n := 31) (v := nI 2) C dX6_build_30 rfl rfl ?_
        refine g_goto (tgt := 35) C dX6_build_31 (by decide) ?_
        exact J _ (by simp [cd3, h6, h17])
      · refine g_aload_n (n := 21) C dX6_build_20 rfl (Or.inr ⟨_, rfl⟩) rfl ?_
        refine m_get (n := 24) C hM dX6_build_21 kF_X6_102 rfl rfl ?_
        refine g_sipush (n := 27) (v := nI 400) C dX6_build_24 rfl rfl ?_
        refine g_icmp_lt (n := 30) (tgt := 34) C dX6_build_27 (by decide) rfl (fun h27 => ?_) (fun h27 => ?_)
        · rw [hN] at h27
          have h27 := (nI_ltI (by omega) (by decide)).mp h27
          refine g_iconst (n := 35) (v := nI 0) C dX6_build_34 rfl rfl ?_
          exact J _ (by simp [cd3, h6, h17, h27])
        · rw [hN] at h27
          have h27 : ¬ n < 400 := fun q => h27 ((nI_ltI (by omega) (by decide)).mpr q)
          refine g_iconst (n := 31) (v := nI 2) C dX6_build_30 rfl rfl ?_
          refine g_goto (tgt := 35) C dX6_build_31 (by decide) ?_
          exact J _ (by simp [cd3, h6, h17, h27])
    · have h6 := gin_f h6 (by decide)
      refine g_iconst (n := 10) (v := nI 1) C dX6_build_9 rfl rfl ?_
      refine g_goto (tgt := 35) C dX6_build_10 (by decide) ?_
      exact J _ (by simp [cd3, h6])
  · skip
    refine g_V (n := 38) (rest := []) C (k6_fails hE hl hM _) dX6_build_35 kM_X6_fails kL_X6_95 kV_X6_fails hM.1 rfl rfl rfl (Nat.le_of_ble_eq_true rfl) ⟨by decide, by decide⟩ ⟨by decide, by decide⟩ rfl (fun v9 L9 f hq => ?_)
    obtain ⟨rfl, hM, rfl⟩ := hq
    refine G.sk (st' := [_]) rfl ?_
    refine g_if_eq (n := 41) (tgt := 43) C dX6_build_38 (by decide) rfl (fun h38 => ?_) (fun h38 => ?_)
    · obtain ⟨rfl, ⟨i, hi, rfl⟩, h17, h400⟩ := cd3_f hw h38
      obtain ⟨m, b, hm9, hb9, e3, e2, hins⟩ := hR i hi
      refine g_aload_n (n := 44) C dX6_build_43 rfl (Or.inr ⟨_, rfl⟩) rfl ?_
      refine g_iload_n (n := 45) C dX6_build_44 rfl rfl ?_
      refine g_V (n := 48) (rest := []) C (k6_begins hE hl hM hN (by omega) hi hb9 e2 e3 hm9) dX6_build_45 kM_X6_begins kL_X6_125 kV_X6_begins hM.1 rfl rfl rfl (Nat.le_of_ble_eq_true rfl) ⟨by decide, by decide⟩ ⟨by decide, by decide⟩ rfl (fun v9 L9 f hq => ?_)
      obtain ⟨rfl, k1, n1, A2, I2, rfl, hroot, hM, hiv, h27⟩ := hq
      refine G.sk (st' := []) rfl ?_
      refine g_aload_n (n := 49) C dX6_build_48 rfl (Or.inr ⟨_, rfl⟩) rfl ?_
      refine m_get (n := 52) C hM dX6_build_49 kF_X6_68 rfl rfl ?_
      refine G.top (y := nI k1) hiv.2.2.2.2.2.1 ?_
      refine g_istore_n (n := 53) (ls' := [_, _, _]) C dX6_build_52 rfl (by decide) rfl ?_
      have hv3 : ∀ k, 21 ≤ k → k ≤ 23 → ∀ j, j < m → begA A2 A i m k j = (if k = 21 then A 4 (10 * i + j) else if k = 22 then A 5 (10 * i + j) else A 6 (10 * i + j)) := by
        intro k h1 h2 j hj
        rcases (show k = 21 ∨ k = 22 ∨ k = 23 by omega) with rfl | rfl | rfl <;> simp [begA, hj]
      have qI0 : ∀ j, j < m → vIns (begA A2 A i m 21 j) (begA A2 A i m 22 j) (begA A2 A i m 23 j) := by
        intro j hj
        rw [hv3 21 (by decide) (by decide) j hj, hv3 22 (by decide) (by decide) j hj, hv3 23 (by decide) (by decide) j hj]
        exact hins j hj
      refine g_loop (α := gF × (Nat → Nat → Int32) × (Nat → Int32) × Int32 × Nat) (fun z => IsM cy mo ad z.2.1 z.2.2.1 L z.1 ∧ (z.2.2.1 17 = 0 → runR m (begA A2 A i m) I2 n1 k1 0 m z.2.2.2.1 z.2.1 z.2.2.1) ∧ (¬ z.2.2.1 17 = 0 → ∃ n8 k8 d8 PR8 S8, z.2.2.1 7 = nI n8 ∧ n8 < 420 ∧ vPar z.2.1 n8 PR8 ∧ vShow z.2.1 n8 PR8 S8 ∧ k8 < n8 ∧ z.2.2.1 24 = nI k8 ∧ z.2.2.1 20 = nI d8 ∧ d8 < m ∧ z.2.2.1 19 = nI m ∧ (∀ i, i < m → vIns (z.2.1 21 i) (z.2.1 22 i) (z.2.1 23 i)) ∧ n8 + (m - d8) ≤ 420 ∧ ∃ u, m - d8 = u + 1 ∧ m - d8 + z.2.2.2.2 = 20 ∧ ∀ b7 A7 I7, runR (u + 1) z.2.1 z.2.2.1 n8 k8 d8 m b7 A7 I7 → runR m (begA A2 A i m) I2 n1 k1 0 m b7 A7 I7)) (fun z => 20 - z.2.2.2.2) (fun _ => L) (fun z => z.1) (fun _ => 0) (fun _ => 0) 53 (fun z => [some (.ref mo), some (.int (nI i)), some (.int z.2.2.2.1)]) (fun _ => []) (fun z hz ih => ?_) (fun J2 => ?_)
      · obtain ⟨f, A7, I7, b8, c7⟩ := z
        obtain ⟨hM, hx1, hx2⟩ := hz
        dsimp only at hM hx1 hx2 ih ⊢
        refine g_aload_n (n := 54) C dX6_build_53 rfl (Or.inr ⟨_, rfl⟩) rfl ?_
        refine m_get (n := 57) C hM dX6_build_54 kF_X6_118 rfl rfl ?_
        refine g_if_eq (n := 60) (tgt := 68) C dX6_build_57 (by decide) rfl (fun h57 => ?_) (fun h57 => ?_)
        · refine g_iload_n (n := 69) C dX6_build_68 rfl rfl ?_
          refine g_iret C hr dX6_build_69 ?_ ⟨by decide, by decide⟩
          exact ⟨rfl, b8, _, _, rfl, hM, 0, hw, fun h => absurd rfl h, fun _ => ⟨i, b, m, k1, n1, A2, I2, hi, rfl, e2, hb9, e3, hm9, hroot, hiv, h27, hx1 h57⟩⟩
        · obtain ⟨n8, k8, d8, PR8, S8, q7, q420, qPR, qSh, qk, q24, q20, qd, q19, qI, qb, qT⟩ := hx2 h57
          refine g_aload_n (n := 61) C dX6_build_60 rfl (Or.inr ⟨_, rfl⟩) rfl ?_
          refine g_V (n := 64) (rest := []) C (k6_goes hE hl hM q7 q420 qPR qSh qk q24 q20 qd hm9 q19 (qI _ (by omega))) dX6_build_61 kM_X6_goes kL_X6_149 kV_X6_goes hM.1 rfl rfl rfl (Nat.le_of_ble_eq_true rfl) ⟨by decide, by decide⟩ ⟨by decide, by decide⟩ rfl (fun v9 L9 f hq => ?_)
          obtain ⟨rfl, b8, A8, I8, rfl, hM, hgo⟩ := hq
          refine G.sk (st' := [_]) rfl ?_
          refine g_istore_n (n := 65) (ls' := [_, _, _]) C dX6_build_64 rfl (by decide) rfl ?_
          refine g_goto (tgt := 53) C dX6_build_65 (by decide) ?_
          obtain ⟨u, hu, hc7, qT⟩ := qT
          refine ih (f, A8, I8, b8, c7 + 1) ⟨hM, fun h0 => qT _ _ _ ⟨PR8, S8, b8, A8, I8, qPR, qSh, hgo, Or.inl ⟨h0, rfl, rfl, rfl⟩⟩, fun h0 => ?_⟩ (by show 20 - (c7 + 1) < 20 - c7; omega)
          obtain ⟨n9, k9, PR9, S9, r7, r24, r20, r19, rk, rd, rb, r420, rPR, rSh⟩ := goR_next hgo qPR qSh qk qd qb h0
          refine ⟨n9, k9, d8 + 1, PR9, S9, r7, r420, rPR, rSh, rk, r24, r20, rd, r19, fun j hj => ?_, rb, u - 1, by omega, by show m - (d8 + 1) + (c7 + 1) = 20; omega, fun b A I hr => ?_⟩
          · show vIns (A8 21 j) (A8 22 j) (A8 23 j)
            rw [goR_k hgo (Or.inr (by decide)), goR_k hgo (Or.inr (by decide)), goR_k hgo (Or.inr (by decide))]
            exact qI j hj
          · refine qT b A I ⟨PR8, S8, b8, A8, I8, qPR, qSh, hgo, Or.inr ⟨h0, n9, k9, r7, r24, r420, rk, ?_⟩⟩
            rw [show u - 1 + 1 = u by omega] at hr
            exact hr
      · obtain ⟨s7, s17, s18, s19, s20, s24, s25, s26⟩ := hiv
        have hr9 : ∀ k j, k = 9 ∨ k = 10 → begA A2 A i m k j = A2 k j := fun k j hk => begA_k (by omega) (by omega) (by omega)
        refine J2 (f, begA A2 A i m, I2, nI k1, 20 - m) ⟨hM, fun h0 => ?_, fun h0 => ?_⟩
        · replace h0 : I2 17 = 0 := h0
          rw [s17] at h0
          have hm0 := gn_b10 h0
          subst hm0
          exact ⟨rfl, rfl, rfl⟩
        · replace h0 : ¬ I2 17 = 0 := h0
          rw [s17] at h0
          have hm0 := gn_b01 h0
          have hbase : k1 < n1 ∧ n1 ≤ 400 ∧ ∃ PR9 S9, vPar A2 n1 PR9 ∧ vShow A2 n1 PR9 S9 := by
            rcases hroot with ⟨hl9, rfl, rfl⟩ | ⟨hl9, rfl, rfl, rfl⟩
            · refine ⟨?_, by omega, PR, S, hPR, hSh⟩
              rcases hl9 with ⟨h, -⟩ | ⟨j0, h, -, h2, -⟩ <;> omega
            · exact ⟨Nat.lt_succ_self _, by omega, _, _, ext_par hPR (Nat.zero_le _) (fun k hk => rtA_9 hk) rtA_9n, ext_sh hPR hSh (Nat.zero_le _) (fun k q hk hq => rtA_10 hk hq)⟩
          obtain ⟨hk9, hn4, PR9, S9, hPR9, hSh9⟩ := hbase
          refine ⟨n1, k1, 0, PR9, S9, s7, by omega, fun k hk => ?_, fun k q hk hq => ?_, hk9, s24, s20, by omega, s19, qI0, by omega, m - 1, by omega, by show m - 0 + (20 - m) = 20; omega, fun b A I hr => ?_⟩
          · show _ ∧ begA A2 A i m 9 k = _
            rw [hr9 9 k (Or.inl rfl)]
            exact hPR9 k hk
          · show S9 k q = shw (begA A2 A i m 10 (12 * k + q)) _ _ _
            rw [hr9 10 _ (Or.inr rfl)]
            exact hSh9 k q hk hq
          · rw [show m - 1 + 1 = m by omega] at hr
            exact hr
    · have hw0 := cd_t h38
      refine g_iconst (n := 42) (v := nI 0) C dX6_build_41 rfl rfl ?_
      refine g_iret C hr dX6_build_42 ?_ ⟨by decide, by decide⟩
      exact ⟨rfl, nI 0, A, _, rfl, hM, w, hw, fun _ => ⟨rfl, rfl⟩, fun h => absurd h hw0⟩

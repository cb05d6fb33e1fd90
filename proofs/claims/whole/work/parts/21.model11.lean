/-! ===== the reference, XI: squash ===== -/
theorem mkA_9 {A : Nat → Nat → Int32} {n m k : Nat} (h : k < n) : mkA A n m 9 k = A 9 k := by
  unfold mkA
  rw [mU_k (by decide), mU_k (by decide), mU_j (by omega), upR_k (by decide), upR_k (by decide)]
theorem mkA_10 {A : Nat → Nat → Int32} {n m k q : Nat} (h : k < n) (hq : q < 12) : mkA A n m 10 (12 * k + q) = A 10 (12 * k + q) := by
  unfold mkA
  rw [mU_k (by decide), mU_k (by decide), mU_k (by decide), upR_k (by decide), upR_o (by omega)]
theorem mkA_11 {A : Nat → Nat → Int32} {n m k q : Nat} (h : k < n) (hq : q < 4) : mkA A n m 11 (4 * k + q) = A 11 (4 * k + q) := by
  unfold mkA
  rw [mU_k (by decide), mU_k (by decide), mU_k (by decide), upR_o (by omega), upR_k (by decide)]
theorem mkA_k {A : Nat → Nat → Int32} {n m k j : Nat} (h : k < 8 ∨ 12 < k) : mkA A n m k j = A k j := by
  unfold mkA
  rw [mU_k (by omega), mU_k (by omega), mU_k (by omega), upR_k (by omega), upR_k (by omega)]
theorem mk_par {A : Nat → Nat → Int32} {n m q : Nat} {g : Nat → Int32} {PR : Nat → Nat} (h : vPar A n PR) : vPar (upR (mkA A n m) 10 (12 * n) q g) n PR := fun k hk => ⟨(h k hk).1, by rw [upR_k (by decide), mkA_9 hk]; exact (h k hk).2⟩
theorem mk_sh {A : Nat → Nat → Int32} {n m q : Nat} {g : Nat → Int32} {PR : Nat → Nat} {S : Nat → Nat → Int32} (h : vShow A n PR S) : vShow (upR (mkA A n m) 10 (12 * n) q g) n PR S := fun k r hk hr => by rw [upR_o (by omega), mkA_10 hk hr]; exact h k r hk hr
def sqV (S : Nat → Nat → Int32) (k j q : Nat) : Int32 := if S k q = S j q then -1 else if S k q = -1 then -2 else S k q
def sqA (A : Nat → Nat → Int32) (n k j i : Nat) (S : Nat → Nat → Int32) : Nat → Nat → Int32 := mU (upR (upR (mkA A n (j + 1)) 10 (12 * n) 12 (sqV S k j)) 11 (4 * n) 4 (fun v => A 11 (4 * k + v))) 16 i (nI n)
def sqC1 (PL TG : Nat → Nat) (t p : Int32) : Prop := ∃ i z, i < 5 ∧ t = nI i ∧ p = nI z ∧ 0 < z ∧ z < 2 ^ 31 ∧ ∀ k, TG i = k + 1 → z < PL k + 1
def sqC2 (TG : Nat → Nat) (n : Nat) (t : Int32) : Prop := n < 400 ∧ ∀ i, i < 5 → t = nI i → TG i ≠ 0
theorem cd3_lt {P1 P2 : Prop} {w : Nat} (h : cd3 P1 P2 w) : w < 4 := by
  rcases h with ⟨h, -⟩ | ⟨h, -⟩ | ⟨h, -⟩ <;> omega
theorem sq1 {PL TG : Nat → Nat} {n : Nat} {t p : Int32} (h : ¬ gin t 5) : cd3 (sqC1 PL TG t p) (sqC2 TG n t) 1 := Or.inl ⟨rfl, fun ⟨i, z, h1, h2, _⟩ => h ⟨i, h1, h2⟩⟩
theorem sq2 {PL TG : Nat → Nat} {n : Nat} {t p : Int32} (h : p ≤ 0) : cd3 (sqC1 PL TG t p) (sqC2 TG n t) 1 := Or.inl ⟨rfl, fun ⟨i, z, h1, h2, h3, h4, h5, _⟩ => by
  rw [h3] at h
  have := gn_le0 h h5
  omega⟩
theorem sq3 {PL TG : Nat → Nat} {n i z : Nat} (hi : i < 5) (hz : 0 < z) (hz2 : z < 2 ^ 31) (h : TG i = 0) : cd3 (sqC1 PL TG (nI i) (nI z)) (sqC2 TG n (nI i)) 2 := Or.inr (Or.inl ⟨rfl, ⟨i, z, hi, rfl, rfl, hz, hz2, fun k hk => by omega⟩, fun ⟨_, h2⟩ => h2 i hi rfl h⟩)
theorem sq4 {PL TG : Nat → Nat} {n i z k : Nat} (hi : i < 5) (hz2 : z < 2 ^ 31) (h : TG i = k + 1) (h2 : ¬ z < PL k + 1) : cd3 (sqC1 PL TG (nI i) (nI z)) (sqC2 TG n (nI i)) 1 := Or.inl ⟨rfl, fun ⟨i2, z2, h1, e1, e2, h3, h4, h5⟩ => by
  have := gn_inj (by omega) (by omega) e1
  subst this
  have := gn_inj hz2 h4 e2
  subst this
  exact h2 (h5 k h)⟩
theorem sq5 {PL TG : Nat → Nat} {n i z k : Nat} (hi : i < 5) (hz : 0 < z) (hz2 : z < 2 ^ 31) (h : TG i = k + 1) (h2 : z < PL k + 1) (h4 : ¬ n < 400) : cd3 (sqC1 PL TG (nI i) (nI z)) (sqC2 TG n (nI i)) 2 := Or.inr (Or.inl ⟨rfl, ⟨i, z, hi, rfl, rfl, hz, hz2, fun k2 hk => by
  have : k2 = k := by omega
  subst this
  exact h2⟩, fun ⟨h5, _⟩ => h4 h5⟩)
theorem sq6 {PL TG : Nat → Nat} {n i z k : Nat} (hi : i < 5) (hz : 0 < z) (hz2 : z < 2 ^ 31) (h : TG i = k + 1) (h2 : z < PL k + 1) (h4 : n < 400) : cd3 (sqC1 PL TG (nI i) (nI z)) (sqC2 TG n (nI i)) 0 := Or.inr (Or.inr ⟨rfl, ⟨i, z, hi, rfl, rfl, hz, hz2, fun k2 hk => by
  have : k2 = k := by omega
  subst this
  exact h2⟩, h4, fun i2 hi2 e => by
  have := gn_inj (by omega) (by omega) e
  subst this
  omega⟩)
theorem gn_lt_le {p : Int32} (h : p < 0) : p ≤ 0 := by
  rw [gn_lt] at h
  rw [gn_le]
  omega
theorem ancR_tr {PR : Nat → Nat} {n : Nat} (h : ∀ k, k < n → PR k ≤ k) {j j2 : Nat} (hj : PR j = j2 + 1) : ∀ u m, m ≤ u → m ≤ n → ancR PR u m j → ancR PR u m j2 := by
  intro u
  induction u with
  | zero => intro m _ _ h; exact h
  | succ u ih =>
    intro m hm hn ha
    cases m with
    | zero => exact ha
    | succ k =>
      have h1 := h k (by omega)
      rcases ha with rfl | ha
      · refine Or.inr ?_
        cases u with
        | zero => omega
        | succ u =>
          rw [hj]
          exact Or.inl rfl
      · exact Or.inr (ih (PR k) (by omega) (by omega) ha)
theorem anc_tr {PR : Nat → Nat} {n k j j2 : Nat} (h : ∀ k, k < n → PR k ≤ k) (hk : k < n) (hj : j < n) (hj2 : PR j = j2 + 1) (ha : anc PR (k + 1) j) : anc PR (k + 1) j2 := ancR_tr h hj2 (k + 1) (k + 1) (Nat.le_refl _) hk ha
theorem k6_squash {l : Launch} {s0 : State} {D : va_G} {cy : Nat → ClassId} (hE : gE s0 D cy) (hl : l.stackTraces = false) {mo : Nat} {ad : Nat → Nat} {A : Nat → Nat → Int32} {I : Nat → Int32} {L : List Nat} {f : gF} (hM : IsM cy mo ad A I L f) {n : Nat} (hN : I 7 = nI n) (hn9 : n ≤ 420) {PR : Nat → Nat} (hPR : vPar A n PR) {S : Nat → Nat → Int32} (hSh : vShow A n PR S) {PL : Nat → Nat} (hPL : vPL n PR PL) (hPLb : ∀ k, k < n → PL k ≤ 10) {TG : Nat → Nat} (hTG : vTag A n TG) (t p : Int32) : gM l s0 D yX6_squash cX6_squash 10 (some .int) 2 0 0 [.ref mo, .int t, .int p] L f (mQ cy mo ad L (fun b9 A1 I1 => ∃ w, cd3 (sqC1 PL TG t p) (sqC2 TG n t) w ∧ (w ≠ 0 → A1 = A ∧ I1 = va_up I 27 (nI w)) ∧ (w = 0 → ∃ i k z j, i < 5 ∧ t = nI i ∧ TG i = k + 1 ∧ p = nI z ∧ 0 < z ∧ z < PL k + 1 ∧ n < 400 ∧ j < n ∧ PL j + 1 = z ∧ anc PR (k + 1) j ∧ b9 = nI n ∧ A1 = sqA A n k j i S ∧ I1 = va_up (va_up I 27 (nI 0)) 7 (nI (n + 1))))) := by
  refine gM.of (own := RX6) hE hl (by decide +kernel) rfl rfl (Nat.le_of_ble_eq_true rfl) (fun p9 e9 s9 m9 a99 b99 t99 c9 C hr hnm => ?_)
  refine G.weak (ls' := [some (.ref mo), some (.int t), some (.int p), none, none, none, none, none, none, none]) ?_ rfl (fun _ _ h => h)
  refine g_cut (α := Nat × Option Value × Option Value × Option Value) (fun z => cd3 (sqC1 PL TG t p) (sqC2 TG n t) z.1 ∧ (z.1 = 0 → ∃ i k z9, i < 5 ∧ t = nI i ∧ TG i = k + 1 ∧ p = nI z9 ∧ 0 < z9 ∧ z9 < PL k + 1 ∧ n < 400 ∧ z.2.2.1 = some (.int (nI k)))) (fun _ => L) (fun _ => f) (fun _ => 0) (fun _ => 0) 92 (fun z => [some (.ref mo), some (.int t), some (.int p), z.2.1, z.2.2.1, z.2.2.2, none, none, none, none]) (fun z => [.int (nI z.1), .ref mo]) (fun J => ?_) (fun z hz => ?_)
  · skip
    refine g_iload_n (n := 1) C dX6_squash_0 rfl rfl ?_
    refine g_iconst (n := 2) (v := nI 5) C dX6_squash_1 rfl rfl ?_
    refine g_S (n := 5) (rest := []) C (k6_isIn hE hl (t) (nI 5)) dX6_squash_2 kM_X6_isIn kL_X6_87 kS_X6_isIn rfl rfl (Nat.le_of_ble_eq_true rfl) ⟨by decide, by decide⟩ ⟨by decide, by decide⟩ rfl (fun v9 L9 f9 hq => ?_)
    obtain ⟨rfl, rfl, rfl⟩ := hq
    refine G.sk (st' := [_]) rfl ?_
    refine g_if_eq (n := 8) (tgt := 16) C dX6_squash_5 (by decide) rfl (fun h5 => ?_) (fun h5 => ?_)
    · have h5 := gin_f h5 (by decide)
      refine g_iconst (n := 17) (v := nI 0) C dX6_squash_16 rfl rfl ?_
      refine g_istore_n (n := 18) (ls' := [_, _, _, _, _, _, _, _, _, _]) C dX6_squash_17 rfl (by decide) rfl ?_
      refine g_iload_n (n := 19) C dX6_squash_18 rfl rfl ?_
      refine g_if_eq (n := 22) (tgt := 31) C dX6_squash_19 (by decide) rfl (fun h19 => ?_) (fun h19 => absurd rfl h19)
      refine g_iconst (n := 32) (v := -1) C dX6_squash_31 rfl rfl ?_
      refine g_istore (n := 34) (ls' := [_, _, _, _, _, _, _, _, _, _]) C dX6_squash_32 rfl (by decide) rfl ?_
      refine g_iload (n := 36) C dX6_squash_34 rfl rfl ?_
      refine g_iconst (n := 37) (v := -1) C dX6_squash_36 rfl rfl ?_
      refine g_icmp_eq (n := 40) (tgt := 54) C dX6_squash_37 (by decide) rfl (fun h37 => ?_) (fun h37 => absurd rfl h37)
      refine g_iconst (n := 55) (v := nI 0) C dX6_squash_54 rfl rfl ?_
      refine g_istore (n := 57) (ls' := [_, _, _, _, _, _, _, _, _, _]) C dX6_squash_55 rfl (by decide) rfl ?_
      refine g_aload_n (n := 58) C dX6_squash_57 rfl (Or.inr ⟨_, rfl⟩) rfl ?_
      refine g_iload_n (n := 59) C dX6_squash_58 rfl rfl ?_
      refine g_if_eq (n := 62) (tgt := 67) C dX6_squash_59 (by decide) rfl (fun h59 => ?_) (fun h59 => absurd rfl h59)
      refine g_iconst (n := 68) (v := nI 1) C dX6_squash_67 rfl rfl ?_
      refine g_goto (tgt := 92) C dX6_squash_68 (by decide) ?_
      first | exact J (1, _, _, _) ⟨sq1 h5, fun h => absurd h Nat.one_ne_zero⟩ | exact J (1, _, _, _) ⟨sq2 h9, fun h => absurd h Nat.one_ne_zero⟩ | exact J (2, _, _, _) ⟨sq3 hi hz0 hzb hm, fun h => absurd h (Nat.succ_ne_zero 1)⟩ | exact J (1, _, _, _) ⟨sq4 hi hzb hm h47, fun h => absurd h Nat.one_ne_zero⟩ | exact J (2, _, _, _) ⟨sq5 hi hz0 hzb hm h47 h84, fun h => absurd h (Nat.succ_ne_zero 1)⟩ | exact J (0, _, _, _) ⟨sq6 hi hz0 hzb hm h47 h84, fun _ => ⟨i, k, z, hi, rfl, hm, rfl, hz0, h47, h84, rfl⟩⟩
    · obtain ⟨i, hi, rfl⟩ := gin_t h5 (by decide)
      refine g_iload_n (n := 9) C dX6_squash_8 rfl rfl ?_
      refine g_if_le (n := 12) (tgt := 16) C dX6_squash_9 (by decide) rfl (fun h9 => ?_) (fun h9 => ?_)
      · refine g_iconst (n := 17) (v := nI 0) C dX6_squash_16 rfl rfl ?_
        refine g_istore_n (n := 18) (ls' := [_, _, _, _, _, _, _, _, _, _]) C dX6_squash_17 rfl (by decide) rfl ?_
        refine g_iload_n (n := 19) C dX6_squash_18 rfl rfl ?_
        refine g_if_eq (n := 22) (tgt := 31) C dX6_squash_19 (by decide) rfl (fun h19 => ?_) (fun h19 => absurd rfl h19)
        refine g_iconst (n := 32) (v := -1) C dX6_squash_31 rfl rfl ?_
        refine g_istore (n := 34) (ls' := [_, _, _, _, _, _, _, _, _, _]) C dX6_squash_32 rfl (by decide) rfl ?_
        refine g_iload (n := 36) C dX6_squash_34 rfl rfl ?_
        refine g_iconst (n := 37) (v := -1) C dX6_squash_36 rfl rfl ?_
        refine g_icmp_eq (n := 40) (tgt := 54) C dX6_squash_37 (by decide) rfl (fun h37 => ?_) (fun h37 => absurd rfl h37)
        refine g_iconst (n := 55) (v := nI 0) C dX6_squash_54 rfl rfl ?_
        refine g_istore (n := 57) (ls' := [_, _, _, _, _, _, _, _, _, _]) C dX6_squash_55 rfl (by decide) rfl ?_
        refine g_aload_n (n := 58) C dX6_squash_57 rfl (Or.inr ⟨_, rfl⟩) rfl ?_
        refine g_iload_n (n := 59) C dX6_squash_58 rfl rfl ?_
        refine g_if_eq (n := 62) (tgt := 67) C dX6_squash_59 (by decide) rfl (fun h59 => ?_) (fun h59 => absurd rfl h59)
        refine g_iconst (n := 68) (v := nI 1) C dX6_squash_67 rfl rfl ?_
        refine g_goto (tgt := 92) C dX6_squash_68 (by decide) ?_
        first | exact J (1, _, _, _) ⟨sq1 h5, fun h => absurd h Nat.one_ne_zero⟩ | exact J (1, _, _, _) ⟨sq2 h9, fun h => absurd h Nat.one_ne_zero⟩ | exact J (2, _, _, _) ⟨sq3 hi hz0 hzb hm, fun h => absurd h (Nat.succ_ne_zero 1)⟩ | exact J (1, _, _, _) ⟨sq4 hi hzb hm h47, fun h => absurd h Nat.one_ne_zero⟩ | exact J (2, _, _, _) ⟨sq5 hi hz0 hzb hm h47 h84, fun h => absurd h (Nat.succ_ne_zero 1)⟩ | exact J (0, _, _, _) ⟨sq6 hi hz0 hzb hm h47 h84, fun _ => ⟨i, k, z, hi, rfl, hm, rfl, hz0, h47, h84, rfl⟩⟩
      · obtain ⟨z, hzb, rfl⟩ := nI_of (fun h => h9 (gn_lt_le h))
        have hz0 : 0 < z := Nat.pos_of_ne_zero (fun e => h9 (by rw [e]; decide))
        refine g_iconst (n := 13) (v := nI 1) C dX6_squash_12 rfl rfl ?_
        refine g_goto (tgt := 17) C dX6_squash_13 (by decide) ?_
        refine g_istore_n (n := 18) (ls' := [_, _, _, _, _, _, _, _, _, _]) C dX6_squash_17 rfl (by decide) rfl ?_
        refine g_iload_n (n := 19) C dX6_squash_18 rfl rfl ?_
        refine g_if_eq (n := 22) (tgt := 31) C dX6_squash_19 (by decide) rfl (fun h19 => absurd h19 (by decide)) (fun h19 => ?_)
        refine g_aload_n (n := 23) C dX6_squash_22 rfl (Or.inr ⟨_, rfl⟩) rfl ?_
        refine m_get (n := 26) C hM dX6_squash_23 kF_X6_56 rfl rfl ?_
        refine g_iload_n (n := 27) C dX6_squash_26 rfl rfl ?_
        refine m_ald (n := 28) C hM dX6_squash_27 rfl rfl rfl (by simp only [mLen]; omega) (by decide) rfl ?_
        refine G.top (y := pI (TG i)) (hTG i hi).2 ?_
        refine g_goto (tgt := 32) C dX6_squash_28 (by decide) ?_
        refine g_istore (n := 34) (ls' := [_, _, _, _, _, _, _, _, _, _]) C dX6_squash_32 rfl (by decide) rfl ?_
        rcases hm : TG i with _ | k
        · skip
          refine g_iload (n := 36) C dX6_squash_34 rfl rfl ?_
          refine g_iconst (n := 37) (v := -1) C dX6_squash_36 rfl rfl ?_
          refine g_icmp_eq (n := 40) (tgt := 54) C dX6_squash_37 (by decide) rfl (fun h37 => ?_) (fun h37 => absurd rfl h37)
          refine g_iconst (n := 55) (v := nI 0) C dX6_squash_54 rfl rfl ?_
          refine g_istore (n := 57) (ls' := [_, _, _, _, _, _, _, _, _, _]) C dX6_squash_55 rfl (by decide) rfl ?_
          refine g_aload_n (n := 58) C dX6_squash_57 rfl (Or.inr ⟨_, rfl⟩) rfl ?_
          refine g_iload_n (n := 59) C dX6_squash_58 rfl rfl ?_
          refine g_if_eq (n := 62) (tgt := 67) C dX6_squash_59 (by decide) rfl (fun h59 => absurd h59 (by decide)) (fun h59 => ?_)
          refine g_iload (n := 64) C dX6_squash_62 rfl rfl ?_
          refine g_if_eq (n := 67) (tgt := 71) C dX6_squash_64 (by decide) rfl (fun h64 => ?_) (fun h64 => absurd rfl h64)
          refine g_iload (n := 73) C dX6_squash_71 rfl rfl ?_
          refine g_iconst (n := 74) (v := -1) C dX6_squash_73 rfl rfl ?_
          refine g_icmp_eq (n := 77) (tgt := 87) C dX6_squash_74 (by decide) rfl (fun h74 => ?_) (fun h74 => absurd rfl h74)
          refine g_iconst (n := 88) (v := nI 2) C dX6_squash_87 rfl rfl ?_
          refine g_goto (tgt := 92) C dX6_squash_88 (by decide) ?_
          exact J (2, _, _, _) ⟨sq3 hi hz0 hzb hm, fun h => absurd h (Nat.succ_ne_zero 1)⟩
        · have hkn : k < n := by have := (hTG i hi).1; omega
          have hPk := hPLb k hkn
          refine g_iload (n := 36) C dX6_squash_34 rfl rfl ?_
          refine g_iconst (n := 37) (v := -1) C dX6_squash_36 rfl rfl ?_
          refine g_icmp_eq (n := 40) (tgt := 54) C dX6_squash_37 (by decide) rfl (fun h37 => absurd h37 (gn_ne1 (by omega))) (fun h37 => ?_)
          refine g_iload_n (n := 41) C dX6_squash_40 rfl rfl ?_
          refine g_aload_n (n := 42) C dX6_squash_41 rfl (Or.inr ⟨_, rfl⟩) rfl ?_
          refine g_iload (n := 44) C dX6_squash_42 rfl rfl ?_
          refine g_V (n := 47) (rest := [_]) C (k6_deep hE hl hM hn9 hPR hPL (k := k) (by omega)) dX6_squash_44 kM_X6_deep kL_X6_164 kV_X6_deep hM.1 rfl rfl rfl (Nat.le_of_ble_eq_true rfl) ⟨by decide, by decide⟩ ⟨by decide, by decide⟩ rfl (fun v9 L9 f9 hq => ?_)
          obtain ⟨rfl, rfl, rfl⟩ := hq
          refine G.sk (st' := [_, _]) rfl ?_
          refine g_icmp_lt (n := 50) (tgt := 54) C dX6_squash_47 (by decide) rfl (fun h47 => ?_) (fun h47 => ?_)
          · have h47 := (nI_ltI (by omega) (by omega)).mp h47
            refine g_iconst (n := 55) (v := nI 0) C dX6_squash_54 rfl rfl ?_
            refine g_istore (n := 57) (ls' := [_, _, _, _, _, _, _, _, _, _]) C dX6_squash_55 rfl (by decide) rfl ?_
            refine g_aload_n (n := 58) C dX6_squash_57 rfl (Or.inr ⟨_, rfl⟩) rfl ?_
            refine g_iload_n (n := 59) C dX6_squash_58 rfl rfl ?_
            refine g_if_eq (n := 62) (tgt := 67) C dX6_squash_59 (by decide) rfl (fun h59 => absurd h59 (by decide)) (fun h59 => ?_)
            refine g_iload (n := 64) C dX6_squash_62 rfl rfl ?_
            refine g_if_eq (n := 67) (tgt := 71) C dX6_squash_64 (by decide) rfl (fun h64 => ?_) (fun h64 => absurd rfl h64)
            refine g_iload (n := 73) C dX6_squash_71 rfl rfl ?_
            refine g_iconst (n := 74) (v := -1) C dX6_squash_73 rfl rfl ?_
            refine g_icmp_eq (n := 77) (tgt := 87) C dX6_squash_74 (by decide) rfl (fun h74 => absurd h74 (gn_ne1 (by omega))) (fun h74 => ?_)
            refine g_aload_n (n := 78) C dX6_squash_77 rfl (Or.inr ⟨_, rfl⟩) rfl ?_
            refine m_get (n := 81) C hM dX6_squash_78 kF_X6_102 rfl rfl ?_
            refine g_sipush (n := 84) (v := nI 400) C dX6_squash_81 rfl rfl ?_
            refine g_icmp_lt (n := 87) (tgt := 91) C dX6_squash_84 (by decide) rfl (fun h84 => ?_) (fun h84 => ?_)
            · rw [hN] at h84
              have h84 := (nI_ltI (by omega) (by decide)).mp h84
              refine g_iconst (n := 92) (v := nI 0) C dX6_squash_91 rfl rfl ?_
              first | exact J (1, _, _, _) ⟨sq1 h5, fun h => absurd h Nat.one_ne_zero⟩ | exact J (1, _, _, _) ⟨sq2 h9, fun h => absurd h Nat.one_ne_zero⟩ | exact J (2, _, _, _) ⟨sq3 hi hz0 hzb hm, fun h => absurd h (Nat.succ_ne_zero 1)⟩ | exact J (1, _, _, _) ⟨sq4 hi hzb hm h47, fun h => absurd h Nat.one_ne_zero⟩ | exact J (2, _, _, _) ⟨sq5 hi hz0 hzb hm h47 h84, fun h => absurd h (Nat.succ_ne_zero 1)⟩ | exact J (0, _, _, _) ⟨sq6 hi hz0 hzb hm h47 h84, fun _ => ⟨i, k, z, hi, rfl, hm, rfl, hz0, h47, h84, rfl⟩⟩
            · rw [hN] at h84
              have h84 : ¬ n < 400 := fun q => h84 ((nI_ltI (by omega) (by decide)).mpr q)
              refine g_iconst (n := 88) (v := nI 2) C dX6_squash_87 rfl rfl ?_
              refine g_goto (tgt := 92) C dX6_squash_88 (by decide) ?_
              first | exact J (1, _, _, _) ⟨sq1 h5, fun h => absurd h Nat.one_ne_zero⟩ | exact J (1, _, _, _) ⟨sq2 h9, fun h => absurd h Nat.one_ne_zero⟩ | exact J (2, _, _, _) ⟨sq3 hi hz0 hzb hm, fun h => absurd h (Nat.succ_ne_zero 1)⟩ | exact J (1, _, _, _) ⟨sq4 hi hzb hm h47, fun h => absurd h Nat.one_ne_zero⟩ | exact J (2, _, _, _) ⟨sq5 hi hz0 hzb hm h47 h84, fun h => absurd h (Nat.succ_ne_zero 1)⟩ | exact J (0, _, _, _) ⟨sq6 hi hz0 hzb hm h47 h84, fun _ => ⟨i, k, z, hi, rfl, hm, rfl, hz0, h47, h84, rfl⟩⟩
          · have h47 : ¬ z < PL k + 1 := fun q => h47 ((nI_ltI (by omega) (by omega)).mpr q)
            refine g_iconst (n := 51) (v := nI 1) C dX6_squash_50 rfl rfl ?_
            refine g_goto (tgt := 55) C dX6_squash_51 (by decide) ?_
            refine g_istore (n := 57) (ls' := [_, _, _, _, _, _, _, _, _, _]) C dX6_squash_55 rfl (by decide) rfl ?_
            refine g_aload_n (n := 58) C dX6_squash_57 rfl (Or.inr ⟨_, rfl⟩) rfl ?_
            refine g_iload_n (n := 59) C dX6_squash_58 rfl rfl ?_
            refine g_if_eq (n := 62) (tgt := 67) C dX6_squash_59 (by decide) rfl (fun h59 => absurd h59 (by decide)) (fun h59 => ?_)
            refine g_iload (n := 64) C dX6_squash_62 rfl rfl ?_
            refine g_if_eq (n := 67) (tgt := 71) C dX6_squash_64 (by decide) rfl (fun h64 => absurd h64 (by decide)) (fun h64 => ?_)
            refine g_iconst (n := 68) (v := nI 1) C dX6_squash_67 rfl rfl ?_
            refine g_goto (tgt := 92) C dX6_squash_68 (by decide) ?_
            first | exact J (1, _, _, _) ⟨sq1 h5, fun h => absurd h Nat.one_ne_zero⟩ | exact J (1, _, _, _) ⟨sq2 h9, fun h => absurd h Nat.one_ne_zero⟩ | exact J (2, _, _, _) ⟨sq3 hi hz0 hzb hm, fun h => absurd h (Nat.succ_ne_zero 1)⟩ | exact J (1, _, _, _) ⟨sq4 hi hzb hm h47, fun h => absurd h Nat.one_ne_zero⟩ | exact J (2, _, _, _) ⟨sq5 hi hz0 hzb hm h47 h84, fun h => absurd h (Nat.succ_ne_zero 1)⟩ | exact J (0, _, _, _) ⟨sq6 hi hz0 hzb hm h47 h84, fun _ => ⟨i, k, z, hi, rfl, hm, rfl, hz0, h47, h84, rfl⟩⟩
  · obtain ⟨w, o3, o4, o5⟩ := z
    obtain ⟨hw, hw9⟩ := hz
    dsimp only at hw hw9 ⊢
    refine g_V (n := 95) (rest := []) C (k6_fails hE hl hM _) dX6_squash_92 kM_X6_fails kL_X6_95 kV_X6_fails hM.1 rfl rfl rfl (Nat.le_of_ble_eq_true rfl) ⟨by decide, by decide⟩ ⟨by decide, by decide⟩ rfl (fun v9 L9 f hq => ?_)
    obtain ⟨rfl, hM, rfl⟩ := hq
    refine G.sk (st' := [_]) rfl ?_
    refine g_if_eq (n := 98) (tgt := 100) C dX6_squash_95 (by decide) rfl (fun h95 => ?_) (fun h95 => ?_)
    · have hw0 := cd_f h95 (cd3_lt hw)
      subst hw0
      obtain ⟨i, k, z, hi, rfl, hTk, rfl, hz0, hz, h400, rfl⟩ := hw9 rfl
      have hkn : k < n := by have := (hTG i hi).1; omega
      have hPk := hPLb k hkn
      refine g_iload (n := 102) C dX6_squash_100 rfl rfl ?_
      refine g_istore (n := 104) (ls' := [_, _, _, _, _, _, _, _, _, _]) C dX6_squash_102 rfl (by decide) rfl ?_
      refine g_aload_n (n := 105) C dX6_squash_104 rfl (Or.inr ⟨_, rfl⟩) rfl ?_
      refine g_iload (n := 107) C dX6_squash_105 rfl rfl ?_
      refine g_V (n := 110) (rest := []) C (k6_deep hE hl hM hn9 hPR hPL (k := k) (by omega)) dX6_squash_107 kM_X6_deep kL_X6_164 kV_X6_deep hM.1 rfl rfl rfl (Nat.le_of_ble_eq_true rfl) ⟨by decide, by decide⟩ ⟨by decide, by decide⟩ rfl (fun v9 L9 f9 hq => ?_)
      obtain ⟨rfl, rfl, rfl⟩ := hq
      refine G.sk (st' := [_]) rfl ?_
      refine g_istore (n := 112) (ls' := [_, _, _, _, _, _, _, _, _, _]) C dX6_squash_110 rfl (by decide) rfl ?_
      refine g_loop (α := Nat) (fun j => j < n ∧ z ≤ PL j + 1 ∧ anc PR (k + 1) j) (fun j => j) (fun _ => L) (fun _ => f) (fun _ => 0) (fun _ => 0) 112 (fun j => [some (.ref mo), some (.int (nI i)), some (.int (nI z)), o3, some (.int (nI k)), o5, some (.int (nI j)), some (.int (nI (PL j + 1))), none, none]) (fun _ => []) (fun j hj ih => ?_) (fun J3 => J3 k ⟨hkn, Nat.le_of_lt hz, (anc_s (n := n) (fun k hk => (hPR k hk).1) hkn).mpr (Or.inl rfl)⟩)
      obtain ⟨hj, hzj, han⟩ := hj
      refine g_iload (n := 114) C dX6_squash_112 rfl rfl ?_
      refine g_iload_n (n := 115) C dX6_squash_114 rfl rfl ?_
      refine g_icmp_le (n := 118) (tgt := 133) C dX6_squash_115 (by decide) rfl (fun h115 => ?_) (fun h115 => ?_)
      · have hzz : PL j + 1 = z := by have := hPLb j hj; have := gn_ge h115 (by omega) (by omega); omega
        refine g_aload_n (n := 134) C dX6_squash_133 rfl (Or.inr ⟨_, rfl⟩) rfl ?_
        refine g_iload (n := 136) C dX6_squash_134 rfl rfl ?_
        refine g_V (n := 139) (rest := []) C (k6_makes hE hl hM hN (by omega) (m := j + 1) (by omega)) dX6_squash_136 kM_X6_makes kL_X6_105 kV_X6_makes hM.1 rfl rfl rfl (Nat.le_of_ble_eq_true rfl) ⟨by decide, by decide⟩ ⟨by decide, by decide⟩ rfl (fun v9 L9 f hq => ?_)
        obtain ⟨rfl, rfl, hM⟩ := hq
        refine G.sk (st' := [_]) rfl ?_
        refine g_istore (n := 141) (ls' := [_, _, _, _, _, _, _, _, _, _]) C dX6_squash_139 rfl (by decide) rfl ?_
        refine g_iconst (n := 142) (v := nI 0) C dX6_squash_141 rfl rfl ?_
        refine g_istore (n := 144) (ls' := [_, _, _, _, _, _, _, _, _, _]) C dX6_squash_142 rfl (by decide) rfl ?_
        refine g_loop (α := Nat × gF × Option Value) (fun x => x.1 ≤ 12 ∧ IsM cy mo ad (upR (mkA A n (j + 1)) 10 (12 * n) x.1 (sqV S k j)) (va_up (va_up I 27 (nI 0)) 7 (nI (n + 1))) L x.2.1) (fun x => 12 - x.1) (fun _ => L) (fun x => x.2.1) (fun _ => 0) (fun _ => 0) 144 (fun x => [some (.ref mo), some (.int (nI i)), some (.int (nI z)), o3, some (.int (nI k)), o5, some (.int (nI j)), some (.int (nI n)), some (.int (nI x.1)), x.2.2]) (fun _ => []) (fun x hx ih2 => ?_) (fun J4 => J4 (0, f, none) ⟨Nat.zero_le _, by rw [upR_0]; exact hM⟩)
        obtain ⟨q, f, o9⟩ := x
        obtain ⟨hq9, hM⟩ := hx
        dsimp only at hq9 hM ih2 ⊢
        refine g_iload (n := 146) C dX6_squash_144 rfl rfl ?_
        refine g_bipush (n := 148) (v := nI 12) C dX6_squash_146 rfl rfl ?_
        refine g_icmp_ge (n := 151) (tgt := 210) C dX6_squash_148 (by decide) rfl (fun h148 => ?_) (fun h148 => ?_)
        · have e9 : q = 12 := by have := gn_ge h148 (by decide) (by omega); omega
          subst e9
          refine g_iconst (n := 211) (v := nI 0) C dX6_squash_210 rfl rfl ?_
          refine g_istore (n := 213) (ls' := [_, _, _, _, _, _, _, _, _, _]) C dX6_squash_211 rfl (by decide) rfl ?_
          refine g_loop (α := Nat × gF) (fun x => x.1 ≤ 4 ∧ IsM cy mo ad (upR (upR (mkA A n (j + 1)) 10 (12 * n) 12 (sqV S k j)) 11 (4 * n) x.1 (fun v => A 11 (4 * k + v))) (va_up (va_up I 27 (nI 0)) 7 (nI (n + 1))) L x.2) (fun x => 4 - x.1) (fun _ => L) (fun x => x.2) (fun _ => 0) (fun _ => 0) 213 (fun x => [some (.ref mo), some (.int (nI i)), some (.int (nI z)), o3, some (.int (nI k)), o5, some (.int (nI j)), some (.int (nI n)), some (.int (nI x.1)), o9]) (fun _ => []) (fun x hx ih3 => ?_) (fun J5 => J5 (0, f) ⟨Nat.zero_le _, by rw [upR_0]; exact hM⟩)
          obtain ⟨q, f⟩ := x
          obtain ⟨hq9, hM⟩ := hx
          dsimp only at hq9 hM ih3 ⊢
          refine g_iload (n := 215) C dX6_squash_213 rfl rfl ?_
          refine g_iconst (n := 216) (v := nI 4) C dX6_squash_215 rfl rfl ?_
          refine g_icmp_ge (n := 219) (tgt := 249) C dX6_squash_216 (by decide) rfl (fun h216 => ?_) (fun h216 => ?_)
          · have e9 : q = 4 := by have := gn_ge h216 (by decide) (by omega); omega
            subst e9
            refine g_aload_n (n := 250) C dX6_squash_249 rfl (Or.inr ⟨_, rfl⟩) rfl ?_
            refine m_get (n := 253) C hM dX6_squash_250 kF_X6_56 rfl rfl ?_
            refine g_iload_n (n := 254) C dX6_squash_253 rfl rfl ?_
            refine g_iload (n := 256) C dX6_squash_254 rfl rfl ?_
            refine m_ast (n := 257) C hM dX6_squash_256 rfl rfl rfl (by simp only [mLen]; omega) (by decide) rfl (fun f hM => ?_)
            refine g_iload (n := 259) C dX6_squash_257 rfl rfl ?_
            refine g_iret C hr dX6_squash_259 ?_ ⟨by decide, by decide⟩
            exact ⟨rfl, _, _, _, rfl, hM, 0, hw, fun h => absurd rfl h, fun _ => ⟨i, k, z, j, hi, rfl, hTk, rfl, hz0, hz, h400, hj, hzz, han, rfl, rfl, rfl⟩⟩
          · have hi9 : q < 4 := gn_gt h216 (by decide) (by omega)
            refine g_aload_n (n := 220) C dX6_squash_219 rfl (Or.inr ⟨_, rfl⟩) rfl ?_
            refine m_get (n := 223) C hM dX6_squash_220 kF_X6_41 rfl rfl ?_
            refine g_iconst (n := 224) (v := nI 4) C dX6_squash_223 rfl rfl ?_
            refine g_iload (n := 226) C dX6_squash_224 rfl rfl ?_
            refine g_imulN (n := 227) C dX6_squash_226 rfl ?_
            refine g_iload (n := 229) C dX6_squash_227 rfl rfl ?_
            refine g_iaddN (n := 230) C dX6_squash_229 rfl ?_
            refine g_aload_n (n := 231) C dX6_squash_230 rfl (Or.inr ⟨_, rfl⟩) rfl ?_
            refine m_get (n := 234) C hM dX6_squash_231 kF_X6_41 rfl rfl ?_
            refine g_iconst (n := 235) (v := nI 4) C dX6_squash_234 rfl rfl ?_
            refine g_iload (n := 237) C dX6_squash_235 rfl rfl ?_
            refine g_imulN (n := 238) C dX6_squash_237 rfl ?_
            refine g_iload (n := 240) C dX6_squash_238 rfl rfl ?_
            refine g_iaddN (n := 241) C dX6_squash_240 rfl ?_
            refine m_ald (n := 242) C hM dX6_squash_241 rfl rfl rfl (by simp only [mLen]; omega) (by decide) rfl ?_
            refine G.top (y := A 11 (4 * k + q)) (by rw [upR_o (by omega), upR_k (by decide), mkA_11 hkn hi9]) ?_
            refine m_ast (n := 243) C hM dX6_squash_242 rfl rfl rfl (by simp only [mLen]; omega) (by decide) rfl (fun f hM => ?_)
            refine g_iinc (n := 246) (ls' := [_, _, _, _, _, _, _, _, _, _]) C dX6_squash_243 rfl (nI_1 _) rfl (by decide) rfl ?_
            refine g_goto (tgt := 213) C dX6_squash_246 (by decide) ?_
            rw [upR_s rfl] at hM
            exact ih3 (q + 1, f) ⟨by show q + 1 ≤ 4; omega, hM⟩ (by show 4 - (q + 1) < 4 - q; omega)
        · have hi9 : q < 12 := gn_gt h148 (by decide) (by omega)
          refine g_aload_n (n := 152) C dX6_squash_151 rfl (Or.inr ⟨_, rfl⟩) rfl ?_
          refine g_iload (n := 154) C dX6_squash_152 rfl rfl ?_
          refine g_iload (n := 156) C dX6_squash_154 rfl rfl ?_
          refine g_V (n := 159) (rest := []) C (k6_shows hE hl hM hn9 (mk_par hPR) (mk_sh hSh) hkn hi9) dX6_squash_156 kM_X6_shows kL_X6_129 kV_X6_shows hM.1 rfl rfl rfl (Nat.le_of_ble_eq_true rfl) ⟨by decide, by decide⟩ ⟨by decide, by decide⟩ rfl (fun v9 L9 f9 hq => ?_)
          obtain ⟨rfl, rfl, rfl⟩ := hq
          refine G.sk (st' := [_]) rfl ?_
          refine g_istore (n := 161) (ls' := [_, _, _, _, _, _, _, _, _, _]) C dX6_squash_159 rfl (by decide) rfl ?_
          refine g_aload_n (n := 162) C dX6_squash_161 rfl (Or.inr ⟨_, rfl⟩) rfl ?_
          refine m_get (n := 165) C hM dX6_squash_162 kF_X6_38 rfl rfl ?_
          refine g_bipush (n := 167) (v := nI 12) C dX6_squash_165 rfl rfl ?_
          refine g_iload (n := 169) C dX6_squash_167 rfl rfl ?_
          refine g_imulN (n := 170) C dX6_squash_169 rfl ?_
          refine g_iload (n := 172) C dX6_squash_170 rfl rfl ?_
          refine g_iaddN (n := 173) C dX6_squash_172 rfl ?_
          refine g_iload (n := 175) C dX6_squash_173 rfl rfl ?_
          refine g_aload_n (n := 176) C dX6_squash_175 rfl (Or.inr ⟨_, rfl⟩) rfl ?_
          refine g_iload (n := 178) C dX6_squash_176 rfl rfl ?_
          refine g_iload (n := 180) C dX6_squash_178 rfl rfl ?_
          refine g_V (n := 183) (rest := [_, _, _]) C (k6_shows hE hl hM hn9 (mk_par hPR) (mk_sh hSh) hj hi9) dX6_squash_180 kM_X6_shows kL_X6_129 kV_X6_shows hM.1 rfl rfl rfl (Nat.le_of_ble_eq_true rfl) ⟨by decide, by decide⟩ ⟨by decide, by decide⟩ rfl (fun v9 L9 f9 hq => ?_)
          obtain ⟨rfl, rfl, rfl⟩ := hq
          refine G.sk (st' := [_, _, _, _]) rfl ?_
          refine g_icmp_ne (n := 186) (tgt := 190) C dX6_squash_183 (by decide) rfl (fun h183 => ?_) (fun h183 => ?_)
          · refine g_iload (n := 192) C dX6_squash_190 rfl rfl ?_
            refine g_iconst (n := 193) (v := -1) C dX6_squash_192 rfl rfl ?_
            refine g_icmp_ne (n := 196) (tgt := 201) C dX6_squash_193 (by decide) rfl (fun h193 => ?_) (fun h193 => ?_)
            · refine g_iload (n := 203) C dX6_squash_201 rfl rfl ?_
              refine G.top (y := sqV S k j q) (by unfold sqV; first | (rw [if_pos h183]) | (rw [if_neg h183, if_pos h193]) | (rw [if_neg h183, if_neg h193])) ?_
              refine m_ast (n := 204) C hM dX6_squash_203 rfl rfl rfl (by simp only [mLen]; omega) (by decide) rfl (fun f hM => ?_)
              refine g_iinc (n := 207) (ls' := [_, _, _, _, _, _, _, _, _, _]) C dX6_squash_204 rfl (nI_1 _) rfl (by decide) rfl ?_
              refine g_goto (tgt := 144) C dX6_squash_207 (by decide) ?_
              rw [upR_s rfl] at hM
              exact ih2 (q + 1, f, _) ⟨by show q + 1 ≤ 12; omega, hM⟩ (by show 12 - (q + 1) < 12 - q; omega)
            · refine g_bipush (n := 198) (v := -2) C dX6_squash_196 rfl rfl ?_
              refine g_goto (tgt := 203) C dX6_squash_198 (by decide) ?_
              refine G.top (y := sqV S k j q) (by unfold sqV; first | (rw [if_pos h183]) | (rw [if_neg h183, if_pos h193]) | (rw [if_neg h183, if_neg h193])) ?_
              refine m_ast (n := 204) C hM dX6_squash_203 rfl rfl rfl (by simp only [mLen]; omega) (by decide) rfl (fun f hM => ?_)
              refine g_iinc (n := 207) (ls' := [_, _, _, _, _, _, _, _, _, _]) C dX6_squash_204 rfl (nI_1 _) rfl (by decide) rfl ?_
              refine g_goto (tgt := 144) C dX6_squash_207 (by decide) ?_
              rw [upR_s rfl] at hM
              exact ih2 (q + 1, f, _) ⟨by show q + 1 ≤ 12; omega, hM⟩ (by show 12 - (q + 1) < 12 - q; omega)
          · refine g_iconst (n := 187) (v := -1) C dX6_squash_186 rfl rfl ?_
            refine g_goto (tgt := 203) C dX6_squash_187 (by decide) ?_
            refine G.top (y := sqV S k j q) (by unfold sqV; first | (rw [if_pos h183]) | (rw [if_neg h183, if_pos h193]) | (rw [if_neg h183, if_neg h193])) ?_
            refine m_ast (n := 204) C hM dX6_squash_203 rfl rfl rfl (by simp only [mLen]; omega) (by decide) rfl (fun f hM => ?_)
            refine g_iinc (n := 207) (ls' := [_, _, _, _, _, _, _, _, _, _]) C dX6_squash_204 rfl (nI_1 _) rfl (by decide) rfl ?_
            refine g_goto (tgt := 144) C dX6_squash_207 (by decide) ?_
            rw [upR_s rfl] at hM
            exact ih2 (q + 1, f, _) ⟨by show q + 1 ≤ 12; omega, hM⟩ (by show 12 - (q + 1) < 12 - q; omega)
      · have hzz : z < PL j + 1 := by have := hPLb j hj; exact gn_gt h115 (by omega) (by omega)
        obtain ⟨j2, hj2⟩ : ∃ j2, PR j = j2 + 1 := by
          have h7 := hPL j hj
          cases e : PR j with
          | zero => rw [e] at h7; have h8 : PL j = 0 := h7; omega
          | succ j2 => exact ⟨j2, rfl⟩
        have hPj : PL j = PL j2 + 1 := by have h7 := hPL j hj; rw [hj2] at h7; exact h7
        have hjj : j2 < j := by have := (hPR j hj).1; omega
        refine g_aload_n (n := 119) C dX6_squash_118 rfl (Or.inr ⟨_, rfl⟩) rfl ?_
        refine m_get (n := 122) C hM dX6_squash_119 kF_X6_35 rfl rfl ?_
        refine g_iload (n := 124) C dX6_squash_122 rfl rfl ?_
        refine m_ald (n := 125) C hM dX6_squash_124 rfl rfl rfl (by simp only [mLen]; omega) (by decide) rfl ?_
        refine G.top (y := nI j2) ((hPR j hj).2.trans (by rw [hj2]; rfl)) ?_
        refine g_istore (n := 127) (ls' := [_, _, _, _, _, _, _, _, _, _]) C dX6_squash_125 rfl (by decide) rfl ?_
        refine g_iinc (n := 130) (ls' := [_, _, _, _, _, _, _, _, _, _]) C dX6_squash_127 rfl (show nI (PL j + 1) + Int32.ofInt (-1) = nI (PL j2 + 1) from by rw [gn_pred, hPj]; rfl) rfl (by decide) rfl ?_
        refine g_goto (tgt := 112) C dX6_squash_130 (by decide) ?_
        exact ih j2 ⟨by omega, by omega, anc_tr (n := n) (fun k hk => (hPR k hk).1) hkn hj hj2 han⟩ (by omega)
    · have hw0 := cd_t h95
      refine g_iconst (n := 99) (v := nI 0) C dX6_squash_98 rfl rfl ?_
      refine g_iret C hr dX6_squash_99 ?_ ⟨by decide, by decide⟩
      exact ⟨rfl, nI 0, A, _, rfl, hM, w, hw, fun _ => ⟨rfl, rfl⟩, fun h => absurd h hw0⟩

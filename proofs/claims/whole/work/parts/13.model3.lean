/-! ===== the reference, III: layers, read ===== -/
/-- no parent, or a parent -/
def pI : Nat → Int32
  | 0 => -1
  | j + 1 => nI j
theorem pI_0 {m : Nat} (h : pI m = -1) (hm : m ≤ 2 ^ 31) : m = 0 := by
  cases m with
  | zero => rfl
  | succ j => exact absurd h (gn_ne1 (by omega))
theorem pI_inj {a b : Nat} (h : pI a = pI b) (ha : a ≤ 2 ^ 31) (hb : b ≤ 2 ^ 31) : a = b := by
  cases a with
  | zero => exact (pI_0 h.symm hb).symm
  | succ a =>
    cases b with
    | zero => exact pI_0 h ha
    | succ b => exact congrArg (· + 1) (gn_inj (by omega) (by omega) h)
def live (A : Nat → Nat → Int32) (n : Nat) (x : Int32) : Prop := ∃ k, k < n ∧ x = nI k ∧ A 8 k = 0
/-- the parents: PR k is 0 for a root layer, j + 1 for a child of j -/
def vPar (A : Nat → Nat → Int32) (n : Nat) (PR : Nat → Nat) : Prop := ∀ k, k < n → PR k ≤ k ∧ A 9 k = pI (PR k)
def spr (S : Nat → Nat → Int32) (q : Nat) : Nat → Int32
  | 0 => -1
  | j + 1 => S j q
def shw (h : Int32) (m : Nat) (S : Nat → Nat → Int32) (q : Nat) : Int32 := if h = -1 then spr S q m else if h = -2 then -1 else h
theorem shw_1 {h : Int32} {m : Nat} {S : Nat → Nat → Int32} {q : Nat} (e : h = -1) : shw h m S q = spr S q m := if_pos e
theorem shw_2 {h : Int32} {m : Nat} {S : Nat → Nat → Int32} {q : Nat} (e : ¬ h = -1) : shw h m S q = if h = -2 then -1 else h := if_neg e
def vShow (A : Nat → Nat → Int32) (n : Nat) (PR : Nat → Nat) (S : Nat → Nat → Int32) : Prop := ∀ k q, k < n → q < 12 → S k q = shw (A 10 (12 * k + q)) (PR k) S q
def dpt (PL : Nat → Nat) : Nat → Nat
  | 0 => 0
  | j + 1 => PL j + 1
def vPL (n : Nat) (PR PL : Nat → Nat) : Prop := ∀ k, k < n → PL k = dpt PL (PR k)
def szN (A : Nat → Nat → Int32) (k : Nat) : Nat → Nat
  | 0 => 0
  | i + 1 => szN A k i + if A 10 (12 * k + i) = -1 then 0 else 1
def isz (A : Nat → Nat → Int32) (PR : Nat → Nat) : Nat → Nat → Nat
  | 0, _ => 0
  | _ + 1, 0 => 0
  | u + 1, j + 1 => szN A j 12 + isz A PR u (PR j)
theorem isz_st {A : Nat → Nat → Int32} {PR : Nat → Nat} {n : Nat} (h : ∀ k, k < n → PR k ≤ k) : ∀ u m, m ≤ u → m ≤ n → isz A PR (u + 1) m = isz A PR u m := by
  intro u
  induction u with
  | zero => intro m hm hn; rw [show m = 0 by omega]; rfl
  | succ u ih =>
    intro m hm hn
    cases m with
    | zero => rfl
    | succ j =>
      have h1 := h j (by omega)
      show szN A j 12 + isz A PR (u + 1) (PR j) = szN A j 12 + isz A PR u (PR j)
      rw [ih (PR j) (by omega) (by omega)]
theorem isz_up {A : Nat → Nat → Int32} {PR : Nat → Nat} {n : Nat} (h : ∀ k, k < n → PR k ≤ k) : ∀ d m, m ≤ n → isz A PR (m + d) m = isz A PR m m := by
  intro d
  induction d with
  | zero => intro m _; rfl
  | succ d ih => intro m hm; rw [← ih m hm]; exact isz_st h (m + d) m (by omega) hm
/-- the image's size, from m on -/
def isT (A : Nat → Nat → Int32) (PR : Nat → Nat) (m : Nat) : Nat := isz A PR m m
theorem isT_s {A : Nat → Nat → Int32} {PR : Nat → Nat} {n j : Nat} (h : ∀ k, k < n → PR k ≤ k) (hj : j < n) : isT A PR (j + 1) = szN A j 12 + isT A PR (PR j) := by
  have h1 := h j hj
  show szN A j 12 + isz A PR j (PR j) = szN A j 12 + isz A PR (PR j) (PR j)
  rw [← isz_up h (j - PR j) (PR j) (by omega), Nat.add_sub_cancel' h1]
def dgF (g : Nat → Int32) : Nat → Int32
  | 0 => nI 1
  | i + 1 => if g i = -1 then dgF g i else (nI 31 * dgF g i + nI 101 * nI i + g i) - (nI 31 * dgF g i + nI 101 * nI i + g i) / 1000003 * 1000003
theorem gn_ge {a b : Nat} (h : nI a ≤ nI b) (ha : a < 2 ^ 31) (hb : b < 2 ^ 31) : a ≤ b := (nI_leI ha hb).mp h
theorem gn_gt {a b : Nat} (h : ¬ nI a ≤ nI b) (ha : a < 2 ^ 31) (hb : b < 2 ^ 31) : b < a := Nat.lt_of_not_le (fun q => h ((nI_leI ha hb).mpr q))
theorem k6_is {l : Launch} {s0 : State} {D : va_G} {cy : Nat → ClassId} (hE : gE s0 D cy) (hl : l.stackTraces = false) {mo : Nat} {ad : Nat → Nat} {A : Nat → Nat → Int32} {I : Nat → Int32} {L : List Nat} {f : gF} (hM : IsM cy mo ad A I L f) {n : Nat} (hN : I 7 = nI n) (hn9 : n ≤ 420) (x : Int32) : gM l s0 D yX6_is cX6_is 2 (some .boolean) 2 0 0 [.ref mo, .int x] L f (fun v L1 f1 => (∃ w, v = some (.int (nI w)) ∧ cdb (live A n x) w) ∧ L = L1 ∧ f = f1) := by
  refine gM.of (own := RX6) hE hl (by decide +kernel) rfl rfl (Nat.le_of_ble_eq_true rfl) (fun p9 e9 s9 m9 a99 b99 t99 c9 C hr hnm => ?_)
  refine G.weak (ls' := [some (.ref mo), some (.int x)]) ?_ rfl (fun _ _ h => h)
  refine g_iload_n (n := 1) C dX6_is_0 rfl rfl ?_
  refine g_aload_n (n := 2) C dX6_is_1 rfl (Or.inr ⟨_, rfl⟩) rfl ?_
  refine m_get (n := 5) C hM dX6_is_2 kF_X6_102 rfl rfl ?_
  refine g_S (n := 8) (rest := []) C (k6_isIn hE hl x (I 7)) dX6_is_5 kM_X6_isIn kL_X6_87 kS_X6_isIn rfl rfl (Nat.le_of_ble_eq_true rfl) ⟨by decide, by decide⟩ ⟨by decide, by decide⟩ rfl (fun v9 L9 f9 hq => ?_)
  obtain ⟨rfl, rfl, rfl⟩ := hq
  refine G.sk (st' := [_]) rfl ?_
  refine g_if_eq (n := 11) (tgt := 24) C dX6_is_8 (by decide) rfl (fun h8 => ?_) (fun h8 => ?_)
  · rw [hN] at h8
    have h8 := gin_f h8 (by omega)
    refine g_iconst (n := 25) (v := nI 0) C dX6_is_24 rfl rfl ?_
    refine g_zret C hr rfl dX6_is_25 ?_ ⟨by decide, by decide⟩
    refine ⟨⟨_, rfl, ?_⟩, rfl, rfl⟩
    first | exact Or.inl ⟨rfl, k, hk, rfl, Classical.not_not.mp h17⟩ | exact Or.inl ⟨rfl, k, hk, rfl, h17⟩ | exact Or.inr ⟨rfl, fun ⟨j, hj, e, _⟩ => h8 ⟨j, hj, e⟩⟩ | exact Or.inr ⟨rfl, fun ⟨j, hj, e, h⟩ => h17 (by have e2 := gn_inj (by omega) (by omega) e; subst e2; exact h)⟩
  · rw [hN] at h8
    obtain ⟨k, hk, rfl⟩ := gin_t h8 (by omega)
    refine g_aload_n (n := 12) C dX6_is_11 rfl (Or.inr ⟨_, rfl⟩) rfl ?_
    refine m_get (n := 15) C hM dX6_is_12 kF_X6_31 rfl rfl ?_
    refine g_iload_n (n := 16) C dX6_is_15 rfl rfl ?_
    refine m_zld (n := 17) C hM dX6_is_16 rfl rfl rfl (by simp only [mLen]; omega) (by decide) rfl ?_
    refine g_if_ne (n := 20) (tgt := 24) C dX6_is_17 (by decide) rfl (fun h17 => ?_) (fun h17 => ?_)
    · refine g_iconst (n := 25) (v := nI 0) C dX6_is_24 rfl rfl ?_
      refine g_zret C hr rfl dX6_is_25 ?_ ⟨by decide, by decide⟩
      refine ⟨⟨_, rfl, ?_⟩, rfl, rfl⟩
      first | exact Or.inl ⟨rfl, k, hk, rfl, Classical.not_not.mp h17⟩ | exact Or.inl ⟨rfl, k, hk, rfl, h17⟩ | exact Or.inr ⟨rfl, fun ⟨j, hj, e, _⟩ => h8 ⟨j, hj, e⟩⟩ | exact Or.inr ⟨rfl, fun ⟨j, hj, e, h⟩ => h17 (by have e2 := gn_inj (by omega) (by omega) e; subst e2; exact h)⟩
    · refine g_iconst (n := 21) (v := nI 1) C dX6_is_20 rfl rfl ?_
      refine g_goto (tgt := 25) C dX6_is_21 (by decide) ?_
      refine g_zret C hr rfl dX6_is_25 ?_ ⟨by decide, by decide⟩
      refine ⟨⟨_, rfl, ?_⟩, rfl, rfl⟩
      first | exact Or.inl ⟨rfl, k, hk, rfl, Classical.not_not.mp h17⟩ | exact Or.inl ⟨rfl, k, hk, rfl, h17⟩ | exact Or.inr ⟨rfl, fun ⟨j, hj, e, _⟩ => h8 ⟨j, hj, e⟩⟩ | exact Or.inr ⟨rfl, fun ⟨j, hj, e, h⟩ => h17 (by have e2 := gn_inj (by omega) (by omega) e; subst e2; exact h)⟩
theorem k6_parentOf {l : Launch} {s0 : State} {D : va_G} {cy : Nat → ClassId} (hE : gE s0 D cy) (hl : l.stackTraces = false) {mo : Nat} {ad : Nat → Nat} {A : Nat → Nat → Int32} {I : Nat → Int32} {L : List Nat} {f : gF} (hM : IsM cy mo ad A I L f) {n : Nat} (hN : I 7 = nI n) (hn9 : n ≤ 420) (x : Int32) : gM l s0 D yX6_parentOf cX6_parentOf 2 (some .int) 3 0 0 [.ref mo, .int x] L f (mQ cy mo ad L (fun b9 A1 I1 => ∃ w, cd2 (live A n x) w ∧ I1 = va_up I 27 (nI w) ∧ (w = 0 → A1 = A ∧ ∃ k, k < n ∧ x = nI k ∧ A 8 k = 0 ∧ b9 = A 9 k) ∧ (w ≠ 0 → A1 = A))) := by
  refine gM.of (own := RX6) hE hl (by decide +kernel) rfl rfl (Nat.le_of_ble_eq_true rfl) (fun p9 e9 s9 m9 a99 b99 t99 c9 C hr hnm => ?_)
  refine G.weak (ls' := [some (.ref mo), some (.int x)]) ?_ rfl (fun _ _ h => h)
  refine g_cut (α := Nat) (fun w => cd2 (live A n x) w) (fun _ => L) (fun _ => f) (fun _ => 0 + 0) (fun _ => 0 + 0) 14 (fun _ => [some (.ref mo), some (.int x)]) (fun w => [.int (nI w), .ref mo]) (fun J => ?_) (fun w hw => ?_)
  · skip
    refine g_aload_n (n := 1) C dX6_parentOf_0 rfl (Or.inr ⟨_, rfl⟩) rfl ?_
    refine g_aload_n (n := 2) C dX6_parentOf_1 rfl (Or.inr ⟨_, rfl⟩) rfl ?_
    refine g_iload_n (n := 3) C dX6_parentOf_2 rfl rfl ?_
    refine g_V (n := 6) (rest := [_]) C (k6_is hE hl hM hN hn9 _) dX6_parentOf_3 kM_X6_is kL_X6_167 kV_X6_is hM.1 rfl rfl rfl (Nat.le_of_ble_eq_true rfl) ⟨by decide, by decide⟩ ⟨by decide, by decide⟩ rfl (fun v9 L9 f9 hq => ?_)
    obtain ⟨⟨w8, rfl, hw8⟩, rfl, rfl⟩ := hq
    refine G.sk (st' := [_, _]) rfl ?_
    refine g_if_eq (n := 9) (tgt := 13) C dX6_parentOf_6 (by decide) rfl (fun h6 => ?_) (fun h6 => ?_)
    · have h6 := cdb_f hw8 h6
      refine g_iconst (n := 14) (v := nI 1) C dX6_parentOf_13 rfl rfl ?_
      exact J _ (by simp [cd2, h6])
    · have h6 := cdb_t hw8 h6
      refine g_iconst (n := 10) (v := nI 0) C dX6_parentOf_9 rfl rfl ?_
      refine g_goto (tgt := 14) C dX6_parentOf_10 (by decide) ?_
      exact J _ (by simp [cd2, h6])
  · skip
    refine g_V (n := 17) (rest := []) C (k6_fails hE hl hM _) dX6_parentOf_14 kM_X6_fails kL_X6_95 kV_X6_fails hM.1 rfl rfl rfl (Nat.le_of_ble_eq_true rfl) ⟨by decide, by decide⟩ ⟨by decide, by decide⟩ rfl (fun v9 L9 f hq => ?_)
    obtain ⟨rfl, hM, rfl⟩ := hq
    refine G.sk (st' := [_]) rfl ?_
    refine g_if_eq (n := 20) (tgt := 24) C dX6_parentOf_17 (by decide) rfl (fun h17 => ?_) (fun h17 => ?_)
    · obtain ⟨rfl, k, hk, rfl, hg⟩ := cd2_f hw h17
      refine g_aload_n (n := 25) C dX6_parentOf_24 rfl (Or.inr ⟨_, rfl⟩) rfl ?_
      refine m_get (n := 28) C hM dX6_parentOf_25 kF_X6_35 rfl rfl ?_
      refine g_iload_n (n := 29) C dX6_parentOf_28 rfl rfl ?_
      refine m_ald (n := 30) C hM dX6_parentOf_29 rfl rfl rfl (by simp only [mLen]; omega) (by decide) rfl ?_
      refine g_iret C hr dX6_parentOf_30 ?_ ⟨by decide, by decide⟩
      first | exact ⟨rfl, _, _, _, rfl, hM, 0, hw, rfl, fun _ => ⟨rfl, k, hk, rfl, hg, rfl⟩, fun h => absurd rfl h⟩ | exact ⟨rfl, nI 0, A, _, rfl, hM, w, hw, rfl, fun h => absurd h hw0, fun _ => rfl⟩
    · have hw0 := cd_t h17
      refine g_iconst (n := 21) (v := nI 0) C dX6_parentOf_20 rfl rfl ?_
      refine g_goto (tgt := 30) C dX6_parentOf_21 (by decide) ?_
      refine g_iret C hr dX6_parentOf_30 ?_ ⟨by decide, by decide⟩
      first | exact ⟨rfl, _, _, _, rfl, hM, 0, hw, rfl, fun _ => ⟨rfl, k, hk, rfl, hg, rfl⟩, fun h => absurd rfl h⟩ | exact ⟨rfl, nI 0, A, _, rfl, hM, w, hw, rfl, fun h => absurd h hw0, fun _ => rfl⟩
theorem k6_size {l : Launch} {s0 : State} {D : va_G} {cy : Nat → ClassId} (hE : gE s0 D cy) (hl : l.stackTraces = false) {mo : Nat} {ad : Nat → Nat} {A : Nat → Nat → Int32} {I : Nat → Int32} {L : List Nat} {f : gF} (hM : IsM cy mo ad A I L f) {k : Nat} (hk : k < 420) : gM l s0 D yX6_size cX6_size 4 (some .int) 1 0 0 [.ref mo, .int (nI k)] L f (fun v L1 f1 => v = some (.int (nI (szN A k 12))) ∧ L = L1 ∧ f = f1) := by
  refine gM.of (own := RX6) hE hl (by decide +kernel) rfl rfl (Nat.le_of_ble_eq_true rfl) (fun p9 e9 s9 m9 a99 b99 t99 c9 C hr hnm => ?_)
  refine G.weak (ls' := [some (.ref mo), some (.int (nI k)), none, none]) ?_ rfl (fun _ _ h => h)
  refine g_loop (α := Nat) (fun i => i ≤ 12) (fun i => 12 - i) (fun _ => L) (fun _ => f) (fun _ => 0) (fun _ => 0) 4 (fun i => [some (.ref mo), some (.int (nI k)), some (.int (nI (szN A k i))), some (.int (nI i))]) (fun _ => []) (fun i hi9 ih => ?_) (fun J => ?_)
  · skip
    refine g_iload_n (n := 5) C dX6_size_4 rfl rfl ?_
    refine g_bipush (n := 7) (v := nI 12) C dX6_size_5 rfl rfl ?_
    refine g_icmp_ge (n := 10) (tgt := 39) C dX6_size_7 (by decide) rfl (fun h7 => ?_) (fun h7 => ?_)
    · have e9 : i = 12 := by have := gn_ge h7 (by decide) (by omega); omega
      subst e9
      refine g_iload_n (n := 40) C dX6_size_39 rfl rfl ?_
      refine g_iret C hr dX6_size_40 ?_ ⟨by decide, by decide⟩
      exact ⟨rfl, rfl, rfl⟩
    · have hi : i < 12 := gn_gt h7 (by decide) (by omega)
      refine g_iload_n (n := 11) C dX6_size_10 rfl rfl ?_
      refine g_aload_n (n := 12) C dX6_size_11 rfl (Or.inr ⟨_, rfl⟩) rfl ?_
      refine m_get (n := 15) C hM dX6_size_12 kF_X6_38 rfl rfl ?_
      refine g_bipush (n := 17) (v := nI 12) C dX6_size_15 rfl rfl ?_
      refine g_iload_n (n := 18) C dX6_size_17 rfl rfl ?_
      refine g_imulN (n := 19) C dX6_size_18 rfl ?_
      refine g_iload_n (n := 20) C dX6_size_19 rfl rfl ?_
      refine g_iaddN (n := 21) C dX6_size_20 rfl ?_
      refine m_ald (n := 22) C hM dX6_size_21 rfl rfl rfl (by simp only [mLen]; omega) (by decide) rfl ?_
      refine g_iconst (n := 23) (v := -1) C dX6_size_22 rfl rfl ?_
      refine g_icmp_ne (n := 26) (tgt := 30) C dX6_size_23 (by decide) rfl (fun h23 => ?_) (fun h23 => ?_)
      · refine g_iconst (n := 31) (v := nI 1) C dX6_size_30 rfl rfl ?_
        refine g_iaddN (n := 32) C dX6_size_31 rfl ?_
        refine G.top (y := nI (szN A k (i + 1))) (by simp [szN, h23]) ?_
        refine g_istore_n (n := 33) (ls' := [_, _, _, _]) C dX6_size_32 rfl (by decide) rfl ?_
        refine g_iinc (n := 36) (ls' := [_, _, _, _]) C dX6_size_33 rfl (nI_1 _) rfl (by decide) rfl ?_
        refine g_goto (tgt := 4) C dX6_size_36 (by decide) ?_
        exact ih (i + 1) (by omega) (by omega)
      · refine g_iconst (n := 27) (v := nI 0) C dX6_size_26 rfl rfl ?_
        refine g_goto (tgt := 31) C dX6_size_27 (by decide) ?_
        refine g_iaddN (n := 32) C dX6_size_31 rfl ?_
        refine G.top (y := nI (szN A k (i + 1))) (by simp [szN, h23]) ?_
        refine g_istore_n (n := 33) (ls' := [_, _, _, _]) C dX6_size_32 rfl (by decide) rfl ?_
        refine g_iinc (n := 36) (ls' := [_, _, _, _]) C dX6_size_33 rfl (nI_1 _) rfl (by decide) rfl ?_
        refine g_goto (tgt := 4) C dX6_size_36 (by decide) ?_
        exact ih (i + 1) (by omega) (by omega)
  · skip
    refine g_iconst (n := 1) (v := nI 0) C dX6_size_0 rfl rfl ?_
    refine g_istore_n (n := 2) (ls' := [_, _, _, _]) C dX6_size_1 rfl (by decide) rfl ?_
    refine g_iconst (n := 3) (v := nI 0) C dX6_size_2 rfl rfl ?_
    refine g_istore_n (n := 4) (ls' := [_, _, _, _]) C dX6_size_3 rfl (by decide) rfl ?_
    exact J 0 (by omega)
theorem k6_sizeOf {l : Launch} {s0 : State} {D : va_G} {cy : Nat → ClassId} (hE : gE s0 D cy) (hl : l.stackTraces = false) {mo : Nat} {ad : Nat → Nat} {A : Nat → Nat → Int32} {I : Nat → Int32} {L : List Nat} {f : gF} (hM : IsM cy mo ad A I L f) {n : Nat} (hN : I 7 = nI n) (hn9 : n ≤ 420) (x : Int32) : gM l s0 D yX6_sizeOf cX6_sizeOf 2 (some .int) 3 0 0 [.ref mo, .int x] L f (mQ cy mo ad L (fun b9 A1 I1 => ∃ w, cd2 (live A n x) w ∧ I1 = va_up I 27 (nI w) ∧ (w = 0 → A1 = A ∧ ∃ k, k < n ∧ x = nI k ∧ A 8 k = 0 ∧ b9 = nI (szN A k 12)) ∧ (w ≠ 0 → A1 = A))) := by
  refine gM.of (own := RX6) hE hl (by decide +kernel) rfl rfl (Nat.le_of_ble_eq_true rfl) (fun p9 e9 s9 m9 a99 b99 t99 c9 C hr hnm => ?_)
  refine G.weak (ls' := [some (.ref mo), some (.int x)]) ?_ rfl (fun _ _ h => h)
  refine g_cut (α := Nat) (fun w => cd2 (live A n x) w) (fun _ => L) (fun _ => f) (fun _ => 0 + 0) (fun _ => 0 + 0) 14 (fun _ => [some (.ref mo), some (.int x)]) (fun w => [.int (nI w), .ref mo]) (fun J => ?_) (fun w hw => ?_)
  · skip
    refine g_aload_n (n := 1) C dX6_sizeOf_0 rfl (Or.inr ⟨_, rfl⟩) rfl ?_
    refine g_aload_n (n := 2) C dX6_sizeOf_1 rfl (Or.inr ⟨_, rfl⟩) rfl ?_
    refine g_iload_n (n := 3) C dX6_sizeOf_2 rfl rfl ?_
    refine g_V (n := 6) (rest := [_]) C (k6_is hE hl hM hN hn9 _) dX6_sizeOf_3 kM_X6_is kL_X6_167 kV_X6_is hM.1 rfl rfl rfl (Nat.le_of_ble_eq_true rfl) ⟨by decide, by decide⟩ ⟨by decide, by decide⟩ rfl (fun v9 L9 f9 hq => ?_)
    obtain ⟨⟨w8, rfl, hw8⟩, rfl, rfl⟩ := hq
    refine G.sk (st' := [_, _]) rfl ?_
    refine g_if_eq (n := 9) (tgt := 13) C dX6_sizeOf_6 (by decide) rfl (fun h6 => ?_) (fun h6 => ?_)
    · have h6 := cdb_f hw8 h6
      refine g_iconst (n := 14) (v := nI 1) C dX6_sizeOf_13 rfl rfl ?_
      exact J _ (by simp [cd2, h6])
    · have h6 := cdb_t hw8 h6
      refine g_iconst (n := 10) (v := nI 0) C dX6_sizeOf_9 rfl rfl ?_
      refine g_goto (tgt := 14) C dX6_sizeOf_10 (by decide) ?_
      exact J _ (by simp [cd2, h6])
  · skip
    refine g_V (n := 17) (rest := []) C (k6_fails hE hl hM _) dX6_sizeOf_14 kM_X6_fails kL_X6_95 kV_X6_fails hM.1 rfl rfl rfl (Nat.le_of_ble_eq_true rfl) ⟨by decide, by decide⟩ ⟨by decide, by decide⟩ rfl (fun v9 L9 f hq => ?_)
    obtain ⟨rfl, hM, rfl⟩ := hq
    refine G.sk (st' := [_]) rfl ?_
    refine g_if_eq (n := 20) (tgt := 24) C dX6_sizeOf_17 (by decide) rfl (fun h17 => ?_) (fun h17 => ?_)
    · obtain ⟨rfl, k, hk, rfl, hg⟩ := cd2_f hw h17
      refine g_aload_n (n := 25) C dX6_sizeOf_24 rfl (Or.inr ⟨_, rfl⟩) rfl ?_
      refine g_iload_n (n := 26) C dX6_sizeOf_25 rfl rfl ?_
      refine g_V (n := 29) (rest := []) C (k6_size hE hl hM (by omega)) dX6_sizeOf_26 kM_X6_size kL_X6_170 kV_X6_size hM.1 rfl rfl rfl (Nat.le_of_ble_eq_true rfl) ⟨by decide, by decide⟩ ⟨by decide, by decide⟩ rfl (fun v9 L9 f9 hq => ?_)
      obtain ⟨rfl, rfl, rfl⟩ := hq
      refine G.sk (st' := [_]) rfl ?_
      refine g_iret C hr dX6_sizeOf_29 ?_ ⟨by decide, by decide⟩
      first | exact ⟨rfl, _, _, _, rfl, hM, 0, hw, rfl, fun _ => ⟨rfl, k, hk, rfl, hg, rfl⟩, fun h => absurd rfl h⟩ | exact ⟨rfl, nI 0, A, _, rfl, hM, w, hw, rfl, fun h => absurd h hw0, fun _ => rfl⟩
    · have hw0 := cd_t h17
      refine g_iconst (n := 21) (v := nI 0) C dX6_sizeOf_20 rfl rfl ?_
      refine g_goto (tgt := 29) C dX6_sizeOf_21 (by decide) ?_
      refine g_iret C hr dX6_sizeOf_29 ?_ ⟨by decide, by decide⟩
      first | exact ⟨rfl, _, _, _, rfl, hM, 0, hw, rfl, fun _ => ⟨rfl, k, hk, rfl, hg, rfl⟩, fun h => absurd rfl h⟩ | exact ⟨rfl, nI 0, A, _, rfl, hM, w, hw, rfl, fun h => absurd h hw0, fun _ => rfl⟩
theorem k6_shows {l : Launch} {s0 : State} {D : va_G} {cy : Nat → ClassId} (hE : gE s0 D cy) (hl : l.stackTraces = false) {mo : Nat} {ad : Nat → Nat} {A : Nat → Nat → Int32} {I : Nat → Int32} {L : List Nat} {f : gF} (hM : IsM cy mo ad A I L f) {n : Nat} (hn9 : n ≤ 420) {PR : Nat → Nat} (hPR : vPar A n PR) {S : Nat → Nat → Int32} (hSh : vShow A n PR S) {k q : Nat} (hk : k < n) (hq : q < 12) : gM l s0 D yX6_shows cX6_shows 4 (some .int) 1 0 0 [.ref mo, .int (nI k), .int (nI q)] L f (fun v L1 f1 => v = some (.int (S k q)) ∧ L = L1 ∧ f = f1) := by
  refine gM.of (own := RX6) hE hl (by decide +kernel) rfl rfl (Nat.le_of_ble_eq_true rfl) (fun p9 e9 s9 m9 a99 b99 t99 c9 C hr hnm => ?_)
  refine G.weak (ls' := [some (.ref mo), some (.int (nI k)), some (.int (nI q)), none]) ?_ rfl (fun _ _ h => h)
  refine g_loop (α := Nat) (fun m => m ≤ n ∧ S k q = spr S q m) (fun m => m) (fun _ => L) (fun _ => f) (fun _ => 0) (fun _ => 0) 2 (fun m => [some (.ref mo), some (.int (nI k)), some (.int (nI q)), some (.int (pI m))]) (fun _ => []) (fun m hm ih => ?_) (fun J => ?_)
  · obtain ⟨hm, hS⟩ := hm
    refine g_cut (α := Nat) (fun m => m ≤ n ∧ (match m with | 0 => S k q = -1 | j + 1 => S k q = (if A 10 (12 * j + q) = -2 then -1 else A 10 (12 * j + q)))) (fun _ => L) (fun _ => f) (fun _ => 0) (fun _ => 0) 32 (fun m => [some (.ref mo), some (.int (nI k)), some (.int (nI q)), some (.int (pI m))]) (fun _ => []) (fun J => ?_) (fun m hm => ?_)
    · skip
      refine g_iload_n (n := 3) C dX6_shows_2 rfl rfl ?_
      refine g_iconst (n := 4) (v := -1) C dX6_shows_3 rfl rfl ?_
      refine g_icmp_eq (n := 7) (tgt := 32) C dX6_shows_4 (by decide) rfl (fun h4 => ?_) (fun h4 => ?_)
      · have e9 := pI_0 h4 (by omega)
        subst e9
        first | exact J 0 ⟨by omega, hS⟩ | exact J (j + 1) ⟨hm, by show S k q = _; rw [hS]; show S j q = _; rw [hSh j q (by omega) hq, shw_2 h19]⟩
      · obtain ⟨j, rfl⟩ : ∃ j, m = j + 1 := ⟨m - 1, by cases m with | zero => exact absurd rfl h4 | succ j => rfl⟩
        rw [show pI (j + 1) = nI j from rfl]
        refine g_aload_n (n := 8) C dX6_shows_7 rfl (Or.inr ⟨_, rfl⟩) rfl ?_
        refine m_get (n := 11) C hM dX6_shows_8 kF_X6_38 rfl rfl ?_
        refine g_bipush (n := 13) (v := nI 12) C dX6_shows_11 rfl rfl ?_
        refine g_iload_n (n := 14) C dX6_shows_13 rfl rfl ?_
        refine g_imulN (n := 15) C dX6_shows_14 rfl ?_
        refine g_iload_n (n := 16) C dX6_shows_15 rfl rfl ?_
        refine g_iaddN (n := 17) C dX6_shows_16 rfl ?_
        refine m_ald (n := 18) C hM dX6_shows_17 rfl rfl rfl (by simp only [mLen]; omega) (by decide) rfl ?_
        refine g_iconst (n := 19) (v := -1) C dX6_shows_18 rfl rfl ?_
        refine g_icmp_ne (n := 22) (tgt := 32) C dX6_shows_19 (by decide) rfl (fun h19 => ?_) (fun h19 => ?_)
        · first | exact J 0 ⟨by omega, hS⟩ | exact J (j + 1) ⟨hm, by show S k q = _; rw [hS]; show S j q = _; rw [hSh j q (by omega) hq, shw_2 h19]⟩
        · refine g_aload_n (n := 23) C dX6_shows_22 rfl (Or.inr ⟨_, rfl⟩) rfl ?_
          refine m_get (n := 26) C hM dX6_shows_23 kF_X6_35 rfl rfl ?_
          refine g_iload_n (n := 27) C dX6_shows_26 rfl rfl ?_
          refine m_ald (n := 28) C hM dX6_shows_27 rfl rfl rfl (by simp only [mLen]; omega) (by decide) rfl ?_
          refine G.top (y := pI (PR j)) ((hPR j (by omega)).2) ?_
          refine g_istore_n (n := 29) (ls' := [_, _, _, _]) C dX6_shows_28 rfl (by decide) rfl ?_
          refine g_goto (tgt := 2) C dX6_shows_29 (by decide) ?_
          exact ih (PR j) ⟨by have := (hPR j (by omega)).1; omega, by rw [hS]; show S j q = _; rw [hSh j q (by omega) hq, shw_1 h19]⟩ (by have := (hPR j (by omega)).1; omega)
    · skip
      obtain ⟨hm, hS⟩ := hm
      refine g_iload_n (n := 33) C dX6_shows_32 rfl rfl ?_
      refine g_iconst (n := 34) (v := -1) C dX6_shows_33 rfl rfl ?_
      refine g_icmp_eq (n := 37) (tgt := 53) C dX6_shows_34 (by decide) rfl (fun h34 => ?_) (fun h34 => ?_)
      · have e9 := pI_0 h34 (by omega)
        subst e9
        refine g_iconst (n := 54) (v := -1) C dX6_shows_53 rfl rfl ?_
        refine g_goto (tgt := 68) C dX6_shows_54 (by decide) ?_
        refine g_iret C hr dX6_shows_68 ?_ ⟨by decide, by decide⟩
        refine ⟨?_, rfl, rfl⟩
        first | exact congrArg (fun z => some (Value.int z)) (show (-1 : Int32) = S k q from hS.symm) | (rw [hS, if_pos h50]; done) | (rw [hS, if_neg h50]; done)
      · obtain ⟨j, rfl⟩ : ∃ j, m = j + 1 := ⟨m - 1, by cases m with | zero => exact absurd rfl h34 | succ j => rfl⟩
        rw [show pI (j + 1) = nI j from rfl]
        replace hS : S k q = (if A 10 (12 * j + q) = -2 then -1 else A 10 (12 * j + q)) := hS
        refine g_aload_n (n := 38) C dX6_shows_37 rfl (Or.inr ⟨_, rfl⟩) rfl ?_
        refine m_get (n := 41) C hM dX6_shows_38 kF_X6_38 rfl rfl ?_
        refine g_bipush (n := 43) (v := nI 12) C dX6_shows_41 rfl rfl ?_
        refine g_iload_n (n := 44) C dX6_shows_43 rfl rfl ?_
        refine g_imulN (n := 45) C dX6_shows_44 rfl ?_
        refine g_iload_n (n := 46) C dX6_shows_45 rfl rfl ?_
        refine g_iaddN (n := 47) C dX6_shows_46 rfl ?_
        refine m_ald (n := 48) C hM dX6_shows_47 rfl rfl rfl (by simp only [mLen]; omega) (by decide) rfl ?_
        refine g_bipush (n := 50) (v := -2) C dX6_shows_48 rfl rfl ?_
        refine g_icmp_ne (n := 53) (tgt := 57) C dX6_shows_50 (by decide) rfl (fun h50 => ?_) (fun h50 => ?_)
        · refine g_aload_n (n := 58) C dX6_shows_57 rfl (Or.inr ⟨_, rfl⟩) rfl ?_
          refine m_get (n := 61) C hM dX6_shows_58 kF_X6_38 rfl rfl ?_
          refine g_bipush (n := 63) (v := nI 12) C dX6_shows_61 rfl rfl ?_
          refine g_iload_n (n := 64) C dX6_shows_63 rfl rfl ?_
          refine g_imulN (n := 65) C dX6_shows_64 rfl ?_
          refine g_iload_n (n := 66) C dX6_shows_65 rfl rfl ?_
          refine g_iaddN (n := 67) C dX6_shows_66 rfl ?_
          refine m_ald (n := 68) C hM dX6_shows_67 rfl rfl rfl (by simp only [mLen]; omega) (by decide) rfl ?_
          refine g_iret C hr dX6_shows_68 ?_ ⟨by decide, by decide⟩
          refine ⟨?_, rfl, rfl⟩
          first | exact congrArg (fun z => some (Value.int z)) (show (-1 : Int32) = S k q from hS.symm) | (rw [hS, if_pos h50]; done) | (rw [hS, if_neg h50]; done)
        · refine g_iconst (n := 54) (v := -1) C dX6_shows_53 rfl rfl ?_
          refine g_goto (tgt := 68) C dX6_shows_54 (by decide) ?_
          refine g_iret C hr dX6_shows_68 ?_ ⟨by decide, by decide⟩
          refine ⟨?_, rfl, rfl⟩
          first | exact congrArg (fun z => some (Value.int z)) (show (-1 : Int32) = S k q from hS.symm) | (rw [hS, if_pos h50]; done) | (rw [hS, if_neg h50]; done)
  · skip
    refine g_iload_n (n := 1) C dX6_shows_0 rfl rfl ?_
    refine g_istore_n (n := 2) (ls' := [_, _, _, _]) C dX6_shows_1 rfl (by decide) rfl ?_
    exact J (k + 1) ⟨by omega, rfl⟩
theorem k6_deep {l : Launch} {s0 : State} {D : va_G} {cy : Nat → ClassId} (hE : gE s0 D cy) (hl : l.stackTraces = false) {mo : Nat} {ad : Nat → Nat} {A : Nat → Nat → Int32} {I : Nat → Int32} {L : List Nat} {f : gF} (hM : IsM cy mo ad A I L f) {n : Nat} (hn9 : n ≤ 420) {PR PL : Nat → Nat} (hPR : vPar A n PR) (hPL : vPL n PR PL) {k : Nat} (hk : k < n) : gM l s0 D yX6_deep cX6_deep 4 (some .int) 1 0 0 [.ref mo, .int (nI k)] L f (fun v L1 f1 => v = some (.int (nI (PL k + 1))) ∧ L = L1 ∧ f = f1) := by
  refine gM.of (own := RX6) hE hl (by decide +kernel) rfl rfl (Nat.le_of_ble_eq_true rfl) (fun p9 e9 s9 m9 a99 b99 t99 c9 C hr hnm => ?_)
  refine G.weak (ls' := [some (.ref mo), some (.int (nI k)), none, none]) ?_ rfl (fun _ _ h => h)
  refine g_loop (α := Nat) (fun m => m ≤ n ∧ dpt PL m ≤ PL k + 1) (fun m => m) (fun _ => L) (fun _ => f) (fun _ => 0) (fun _ => 0) 4 (fun m => [some (.ref mo), some (.int (nI k)), some (.int (nI (PL k + 1 - dpt PL m))), some (.int (pI m))]) (fun _ => []) (fun m hm ih => ?_) (fun J => ?_)
  · obtain ⟨hm, hd⟩ := hm
    refine g_iload_n (n := 5) C dX6_deep_4 rfl rfl ?_
    refine g_iconst (n := 6) (v := -1) C dX6_deep_5 rfl rfl ?_
    refine g_icmp_eq (n := 9) (tgt := 22) C dX6_deep_6 (by decide) rfl (fun h6 => ?_) (fun h6 => ?_)
    · have e9 := pI_0 h6 (by omega)
      subst e9
      refine g_iload_n (n := 23) C dX6_deep_22 rfl rfl ?_
      refine g_iret C hr dX6_deep_23 ?_ ⟨by decide, by decide⟩
      exact ⟨rfl, rfl, rfl⟩
    · obtain ⟨j, rfl⟩ : ∃ j, m = j + 1 := ⟨m - 1, by cases m with | zero => exact absurd rfl h6 | succ j => rfl⟩
      rw [show pI (j + 1) = nI j from rfl]
      refine g_iinc (n := 12) (ls' := [_, _, _, _]) C dX6_deep_9 rfl (nI_1 _) rfl (by decide) rfl ?_
      refine g_aload_n (n := 13) C dX6_deep_12 rfl (Or.inr ⟨_, rfl⟩) rfl ?_
      refine m_get (n := 16) C hM dX6_deep_13 kF_X6_35 rfl rfl ?_
      refine g_iload_n (n := 17) C dX6_deep_16 rfl rfl ?_
      refine m_ald (n := 18) C hM dX6_deep_17 rfl rfl rfl (by simp only [mLen]; omega) (by decide) rfl ?_
      refine G.top (y := pI (PR j)) ((hPR j (by omega)).2) ?_
      refine g_istore_n (n := 19) (ls' := [_, _, _, _]) C dX6_deep_18 rfl (by decide) rfl ?_
      refine g_goto (tgt := 4) C dX6_deep_19 (by decide) ?_
      have e7 := hPL j (by omega)
      have e8 : dpt PL (j + 1) = PL j + 1 := rfl
      rw [show PL k + 1 - dpt PL (j + 1) + 1 = PL k + 1 - dpt PL (PR j) by omega]
      exact ih (PR j) ⟨by have := (hPR j (by omega)).1; omega, by omega⟩ (by have := (hPR j (by omega)).1; omega)
  · skip
    refine g_iconst (n := 1) (v := nI 0) C dX6_deep_0 rfl rfl ?_
    refine g_istore_n (n := 2) (ls' := [_, _, _, _]) C dX6_deep_1 rfl (by decide) rfl ?_
    refine g_iload_n (n := 3) C dX6_deep_2 rfl rfl ?_
    refine g_istore_n (n := 4) (ls' := [_, _, _, _]) C dX6_deep_3 rfl (by decide) rfl ?_
    refine cast (congrArg (fun z => G p9 l e9 (gRm 1 0 0) s9 m9 a99 b99 t99 c9 _ D L 4 L f 0 0 4 [some (.ref mo), some (.int (nI k)), some (.int (nI z)), some (.int (nI k))] []) (show PL k + 1 - dpt PL (k + 1) = 0 from Nat.sub_self _)) (J (k + 1) ⟨by omega, Nat.le_refl _⟩)
theorem k6_depth {l : Launch} {s0 : State} {D : va_G} {cy : Nat → ClassId} (hE : gE s0 D cy) (hl : l.stackTraces = false) {mo : Nat} {ad : Nat → Nat} {A : Nat → Nat → Int32} {I : Nat → Int32} {L : List Nat} {f : gF} (hM : IsM cy mo ad A I L f) {n : Nat} (hN : I 7 = nI n) (hn9 : n ≤ 420) {PR : Nat → Nat} (hPR : vPar A n PR) {PL : Nat → Nat} (hPL : vPL n PR PL) (x : Int32) : gM l s0 D yX6_depth cX6_depth 2 (some .int) 3 0 0 [.ref mo, .int x] L f (mQ cy mo ad L (fun b9 A1 I1 => ∃ w, cd2 (live A n x) w ∧ I1 = va_up I 27 (nI w) ∧ (w = 0 → A1 = A ∧ ∃ k, k < n ∧ x = nI k ∧ A 8 k = 0 ∧ b9 = nI (PL k + 1)) ∧ (w ≠ 0 → A1 = A))) := by
  refine gM.of (own := RX6) hE hl (by decide +kernel) rfl rfl (Nat.le_of_ble_eq_true rfl) (fun p9 e9 s9 m9 a99 b99 t99 c9 C hr hnm => ?_)
  refine G.weak (ls' := [some (.ref mo), some (.int x)]) ?_ rfl (fun _ _ h => h)
  refine g_cut (α := Nat) (fun w => cd2 (live A n x) w) (fun _ => L) (fun _ => f) (fun _ => 0 + 0) (fun _ => 0 + 0) 14 (fun _ => [some (.ref mo), some (.int x)]) (fun w => [.int (nI w), .ref mo]) (fun J => ?_) (fun w hw => ?_)
  · skip
    refine g_aload_n (n := 1) C dX6_depth_0 rfl (Or.inr ⟨_, rfl⟩) rfl ?_
    refine g_aload_n (n := 2) C dX6_depth_1 rfl (Or.inr ⟨_, rfl⟩) rfl ?_
    refine g_iload_n (n := 3) C dX6_depth_2 rfl rfl ?_
    refine g_V (n := 6) (rest := [_]) C (k6_is hE hl hM hN hn9 _) dX6_depth_3 kM_X6_is kL_X6_167 kV_X6_is hM.1 rfl rfl rfl (Nat.le_of_ble_eq_true rfl) ⟨by decide, by decide⟩ ⟨by decide, by decide⟩ rfl (fun v9 L9 f9 hq => ?_)
    obtain ⟨⟨w8, rfl, hw8⟩, rfl, rfl⟩ := hq
    refine G.sk (st' := [_, _]) rfl ?_
    refine g_if_eq (n := 9) (tgt := 13) C dX6_depth_6 (by decide) rfl (fun h6 => ?_) (fun h6 => ?_)
    · have h6 := cdb_f hw8 h6
      refine g_iconst (n := 14) (v := nI 1) C dX6_depth_13 rfl rfl ?_
      exact J _ (by simp [cd2, h6])
    · have h6 := cdb_t hw8 h6
      refine g_iconst (n := 10) (v := nI 0) C dX6_depth_9 rfl rfl ?_
      refine g_goto (tgt := 14) C dX6_depth_10 (by decide) ?_
      exact J _ (by simp [cd2, h6])
  · skip
    refine g_V (n := 17) (rest := []) C (k6_fails hE hl hM _) dX6_depth_14 kM_X6_fails kL_X6_95 kV_X6_fails hM.1 rfl rfl rfl (Nat.le_of_ble_eq_true rfl) ⟨by decide, by decide⟩ ⟨by decide, by decide⟩ rfl (fun v9 L9 f hq => ?_)
    obtain ⟨rfl, hM, rfl⟩ := hq
    refine G.sk (st' := [_]) rfl ?_
    refine g_if_eq (n := 20) (tgt := 24) C dX6_depth_17 (by decide) rfl (fun h17 => ?_) (fun h17 => ?_)
    · obtain ⟨rfl, k, hk, rfl, hg⟩ := cd2_f hw h17
      refine g_aload_n (n := 25) C dX6_depth_24 rfl (Or.inr ⟨_, rfl⟩) rfl ?_
      refine g_iload_n (n := 26) C dX6_depth_25 rfl rfl ?_
      refine g_V (n := 29) (rest := []) C (k6_deep hE hl hM hn9 hPR hPL (by omega)) dX6_depth_26 kM_X6_deep kL_X6_164 kV_X6_deep hM.1 rfl rfl rfl (Nat.le_of_ble_eq_true rfl) ⟨by decide, by decide⟩ ⟨by decide, by decide⟩ rfl (fun v9 L9 f9 hq => ?_)
      obtain ⟨rfl, rfl, rfl⟩ := hq
      refine G.sk (st' := [_]) rfl ?_
      refine g_iret C hr dX6_depth_29 ?_ ⟨by decide, by decide⟩
      first | exact ⟨rfl, _, _, _, rfl, hM, 0, hw, rfl, fun _ => ⟨rfl, k, hk, rfl, hg, rfl⟩, fun h => absurd rfl h⟩ | exact ⟨rfl, nI 0, A, _, rfl, hM, w, hw, rfl, fun h => absurd h hw0, fun _ => rfl⟩
    · have hw0 := cd_t h17
      refine g_iconst (n := 21) (v := nI 0) C dX6_depth_20 rfl rfl ?_
      refine g_goto (tgt := 29) C dX6_depth_21 (by decide) ?_
      refine g_iret C hr dX6_depth_29 ?_ ⟨by decide, by decide⟩
      first | exact ⟨rfl, _, _, _, rfl, hM, 0, hw, rfl, fun _ => ⟨rfl, k, hk, rfl, hg, rfl⟩, fun h => absurd rfl h⟩ | exact ⟨rfl, nI 0, A, _, rfl, hM, w, hw, rfl, fun h => absurd h hw0, fun _ => rfl⟩
theorem k6_heldAt {l : Launch} {s0 : State} {D : va_G} {cy : Nat → ClassId} (hE : gE s0 D cy) (hl : l.stackTraces = false) {mo : Nat} {ad : Nat → Nat} {A : Nat → Nat → Int32} {I : Nat → Int32} {L : List Nat} {f : gF} (hM : IsM cy mo ad A I L f) {n : Nat} (hN : I 7 = nI n) (hn9 : n ≤ 420) (x y : Int32) : gM l s0 D yX6_heldAt cX6_heldAt 3 (some .int) 3 0 0 [.ref mo, .int x, .int y] L f (mQ cy mo ad L (fun b9 A1 I1 => ∃ w, cd2 (live A n x ∧ gin y 12) w ∧ I1 = va_up I 27 (nI w) ∧ (w = 0 → A1 = A ∧ ∃ k q, k < n ∧ q < 12 ∧ x = nI k ∧ y = nI q ∧ A 8 k = 0 ∧ b9 = A 10 (12 * k + q)) ∧ (w ≠ 0 → A1 = A))) := by
  refine gM.of (own := RX6) hE hl (by decide +kernel) rfl rfl (Nat.le_of_ble_eq_true rfl) (fun p9 e9 s9 m9 a99 b99 t99 c9 C hr hnm => ?_)
  refine G.weak (ls' := [some (.ref mo), some (.int x), some (.int y)]) ?_ rfl (fun _ _ h => h)
  refine g_cut (α := Nat) (fun w => cd2 (live A n x ∧ gin y 12) w) (fun _ => L) (fun _ => f) (fun _ => 0 + 0) (fun _ => 0 + 0) 23 (fun _ => [some (.ref mo), some (.int x), some (.int y)]) (fun w => [.int (nI w), .ref mo]) (fun J => ?_) (fun w hw => ?_)
  · skip
    refine g_aload_n (n := 1) C dX6_heldAt_0 rfl (Or.inr ⟨_, rfl⟩) rfl ?_
    refine g_aload_n (n := 2) C dX6_heldAt_1 rfl (Or.inr ⟨_, rfl⟩) rfl ?_
    refine g_iload_n (n := 3) C dX6_heldAt_2 rfl rfl ?_
    refine g_V (n := 6) (rest := [_]) C (k6_is hE hl hM hN hn9 _) dX6_heldAt_3 kM_X6_is kL_X6_167 kV_X6_is hM.1 rfl rfl rfl (Nat.le_of_ble_eq_true rfl) ⟨by decide, by decide⟩ ⟨by decide, by decide⟩ rfl (fun v9 L9 f9 hq => ?_)
    obtain ⟨⟨w8, rfl, hw8⟩, rfl, rfl⟩ := hq
    refine G.sk (st' := [_, _]) rfl ?_
    refine g_if_eq (n := 9) (tgt := 22) C dX6_heldAt_6 (by decide) rfl (fun h6 => ?_) (fun h6 => ?_)
    · have h6 := cdb_f hw8 h6
      refine g_iconst (n := 23) (v := nI 1) C dX6_heldAt_22 rfl rfl ?_
      exact J _ (by simp [cd2, h6])
    · have h6 := cdb_t hw8 h6
      refine g_iload_n (n := 10) C dX6_heldAt_9 rfl rfl ?_
      refine g_bipush (n := 12) (v := nI 12) C dX6_heldAt_10 rfl rfl ?_
      refine g_S (n := 15) (rest := [_]) C (k6_isIn hE hl (y) (nI 12)) dX6_heldAt_12 kM_X6_isIn kL_X6_87 kS_X6_isIn rfl rfl (Nat.le_of_ble_eq_true rfl) ⟨by decide, by decide⟩ ⟨by decide, by decide⟩ rfl (fun v9 L9 f9 hq => ?_)
      obtain ⟨rfl, rfl, rfl⟩ := hq
      refine G.sk (st' := [_, _]) rfl ?_
      refine g_if_eq (n := 18) (tgt := 22) C dX6_heldAt_15 (by decide) rfl (fun h15 => ?_) (fun h15 => ?_)
      · have h15 := gin_f h15 (by decide)
        refine g_iconst (n := 23) (v := nI 1) C dX6_heldAt_22 rfl rfl ?_
        exact J _ (by simp [cd2, h6, h15])
      · have h15 := gin_t h15 (by decide)
        refine g_iconst (n := 19) (v := nI 0) C dX6_heldAt_18 rfl rfl ?_
        refine g_goto (tgt := 23) C dX6_heldAt_19 (by decide) ?_
        exact J _ (by simp [cd2, h6, h15])
  · skip
    refine g_V (n := 26) (rest := []) C (k6_fails hE hl hM _) dX6_heldAt_23 kM_X6_fails kL_X6_95 kV_X6_fails hM.1 rfl rfl rfl (Nat.le_of_ble_eq_true rfl) ⟨by decide, by decide⟩ ⟨by decide, by decide⟩ rfl (fun v9 L9 f hq => ?_)
    obtain ⟨rfl, hM, rfl⟩ := hq
    refine G.sk (st' := [_]) rfl ?_
    refine g_if_eq (n := 29) (tgt := 33) C dX6_heldAt_26 (by decide) rfl (fun h26 => ?_) (fun h26 => ?_)
    · obtain ⟨rfl, ⟨k, hk, rfl, hg⟩, ⟨q, hq9, rfl⟩⟩ := cd2_f hw h26
      refine g_aload_n (n := 34) C dX6_heldAt_33 rfl (Or.inr ⟨_, rfl⟩) rfl ?_
      refine m_get (n := 37) C hM dX6_heldAt_34 kF_X6_38 rfl rfl ?_
      refine g_bipush (n := 39) (v := nI 12) C dX6_heldAt_37 rfl rfl ?_
      refine g_iload_n (n := 40) C dX6_heldAt_39 rfl rfl ?_
      refine g_imulN (n := 41) C dX6_heldAt_40 rfl ?_
      refine g_iload_n (n := 42) C dX6_heldAt_41 rfl rfl ?_
      refine g_iaddN (n := 43) C dX6_heldAt_42 rfl ?_
      refine m_ald (n := 44) C hM dX6_heldAt_43 rfl rfl rfl (by simp only [mLen]; omega) (by decide) rfl ?_
      refine g_iret C hr dX6_heldAt_44 ?_ ⟨by decide, by decide⟩
      first | exact ⟨rfl, _, _, _, rfl, hM, 0, hw, rfl, fun _ => ⟨rfl, k, q, hk, hq9, rfl, rfl, hg, rfl⟩, fun h => absurd rfl h⟩ | exact ⟨rfl, nI 0, A, _, rfl, hM, w, hw, rfl, fun h => absurd h hw0, fun _ => rfl⟩
    · have hw0 := cd_t h26
      refine g_iconst (n := 30) (v := nI 0) C dX6_heldAt_29 rfl rfl ?_
      refine g_goto (tgt := 44) C dX6_heldAt_30 (by decide) ?_
      refine g_iret C hr dX6_heldAt_44 ?_ ⟨by decide, by decide⟩
      first | exact ⟨rfl, _, _, _, rfl, hM, 0, hw, rfl, fun _ => ⟨rfl, k, q, hk, hq9, rfl, rfl, hg, rfl⟩, fun h => absurd rfl h⟩ | exact ⟨rfl, nI 0, A, _, rfl, hM, w, hw, rfl, fun h => absurd h hw0, fun _ => rfl⟩
theorem k6_variable {l : Launch} {s0 : State} {D : va_G} {cy : Nat → ClassId} (hE : gE s0 D cy) (hl : l.stackTraces = false) {mo : Nat} {ad : Nat → Nat} {A : Nat → Nat → Int32} {I : Nat → Int32} {L : List Nat} {f : gF} (hM : IsM cy mo ad A I L f) {n : Nat} (hN : I 7 = nI n) (hn9 : n ≤ 420) (x y : Int32) : gM l s0 D yX6_variable cX6_variable 3 (some .int) 3 0 0 [.ref mo, .int x, .int y] L f (mQ cy mo ad L (fun b9 A1 I1 => ∃ w, cd2 (live A n x ∧ gin y 4) w ∧ I1 = va_up I 27 (nI w) ∧ (w = 0 → A1 = A ∧ ∃ k q, k < n ∧ q < 4 ∧ x = nI k ∧ y = nI q ∧ A 8 k = 0 ∧ b9 = A 11 (4 * k + q)) ∧ (w ≠ 0 → A1 = A))) := by
  refine gM.of (own := RX6) hE hl (by decide +kernel) rfl rfl (Nat.le_of_ble_eq_true rfl) (fun p9 e9 s9 m9 a99 b99 t99 c9 C hr hnm => ?_)
  refine G.weak (ls' := [some (.ref mo), some (.int x), some (.int y)]) ?_ rfl (fun _ _ h => h)
  refine g_cut (α := Nat) (fun w => cd2 (live A n x ∧ gin y 4) w) (fun _ => L) (fun _ => f) (fun _ => 0 + 0) (fun _ => 0 + 0) 22 (fun _ => [some (.ref mo), some (.int x), some (.int y)]) (fun w => [.int (nI w), .ref mo]) (fun J => ?_) (fun w hw => ?_)
  · skip
    refine g_aload_n (n := 1) C dX6_variable_0 rfl (Or.inr ⟨_, rfl⟩) rfl ?_
    refine g_aload_n (n := 2) C dX6_variable_1 rfl (Or.inr ⟨_, rfl⟩) rfl ?_
    refine g_iload_n (n := 3) C dX6_variable_2 rfl rfl ?_
    refine g_V (n := 6) (rest := [_]) C (k6_is hE hl hM hN hn9 _) dX6_variable_3 kM_X6_is kL_X6_167 kV_X6_is hM.1 rfl rfl rfl (Nat.le_of_ble_eq_true rfl) ⟨by decide, by decide⟩ ⟨by decide, by decide⟩ rfl (fun v9 L9 f9 hq => ?_)
    obtain ⟨⟨w8, rfl, hw8⟩, rfl, rfl⟩ := hq
    refine G.sk (st' := [_, _]) rfl ?_
    refine g_if_eq (n := 9) (tgt := 21) C dX6_variable_6 (by decide) rfl (fun h6 => ?_) (fun h6 => ?_)
    · have h6 := cdb_f hw8 h6
      refine g_iconst (n := 22) (v := nI 1) C dX6_variable_21 rfl rfl ?_
      exact J _ (by simp [cd2, h6])
    · have h6 := cdb_t hw8 h6
      refine g_iload_n (n := 10) C dX6_variable_9 rfl rfl ?_
      refine g_iconst (n := 11) (v := nI 4) C dX6_variable_10 rfl rfl ?_
      refine g_S (n := 14) (rest := [_]) C (k6_isIn hE hl (y) (nI 4)) dX6_variable_11 kM_X6_isIn kL_X6_87 kS_X6_isIn rfl rfl (Nat.le_of_ble_eq_true rfl) ⟨by decide, by decide⟩ ⟨by decide, by decide⟩ rfl (fun v9 L9 f9 hq => ?_)
      obtain ⟨rfl, rfl, rfl⟩ := hq
      refine G.sk (st' := [_, _]) rfl ?_
      refine g_if_eq (n := 17) (tgt := 21) C dX6_variable_14 (by decide) rfl (fun h14 => ?_) (fun h14 => ?_)
      · have h14 := gin_f h14 (by decide)
        refine g_iconst (n := 22) (v := nI 1) C dX6_variable_21 rfl rfl ?_
        exact J _ (by simp [cd2, h6, h14])
      · have h14 := gin_t h14 (by decide)
        refine g_iconst (n := 18) (v := nI 0) C dX6_variable_17 rfl rfl ?_
        refine g_goto (tgt := 22) C dX6_variable_18 (by decide) ?_
        exact J _ (by simp [cd2, h6, h14])
  · skip
    refine g_V (n := 25) (rest := []) C (k6_fails hE hl hM _) dX6_variable_22 kM_X6_fails kL_X6_95 kV_X6_fails hM.1 rfl rfl rfl (Nat.le_of_ble_eq_true rfl) ⟨by decide, by decide⟩ ⟨by decide, by decide⟩ rfl (fun v9 L9 f hq => ?_)
    obtain ⟨rfl, hM, rfl⟩ := hq
    refine G.sk (st' := [_]) rfl ?_
    refine g_if_eq (n := 28) (tgt := 32) C dX6_variable_25 (by decide) rfl (fun h25 => ?_) (fun h25 => ?_)
    · obtain ⟨rfl, ⟨k, hk, rfl, hg⟩, ⟨q, hq9, rfl⟩⟩ := cd2_f hw h25
      refine g_aload_n (n := 33) C dX6_variable_32 rfl (Or.inr ⟨_, rfl⟩) rfl ?_
      refine m_get (n := 36) C hM dX6_variable_33 kF_X6_41 rfl rfl ?_
      refine g_iconst (n := 37) (v := nI 4) C dX6_variable_36 rfl rfl ?_
      refine g_iload_n (n := 38) C dX6_variable_37 rfl rfl ?_
      refine g_imulN (n := 39) C dX6_variable_38 rfl ?_
      refine g_iload_n (n := 40) C dX6_variable_39 rfl rfl ?_
      refine g_iaddN (n := 41) C dX6_variable_40 rfl ?_
      refine m_ald (n := 42) C hM dX6_variable_41 rfl rfl rfl (by simp only [mLen]; omega) (by decide) rfl ?_
      refine g_iret C hr dX6_variable_42 ?_ ⟨by decide, by decide⟩
      first | exact ⟨rfl, _, _, _, rfl, hM, 0, hw, rfl, fun _ => ⟨rfl, k, q, hk, hq9, rfl, rfl, hg, rfl⟩, fun h => absurd rfl h⟩ | exact ⟨rfl, nI 0, A, _, rfl, hM, w, hw, rfl, fun h => absurd h hw0, fun _ => rfl⟩
    · have hw0 := cd_t h25
      refine g_iconst (n := 29) (v := nI 0) C dX6_variable_28 rfl rfl ?_
      refine g_goto (tgt := 42) C dX6_variable_29 (by decide) ?_
      refine g_iret C hr dX6_variable_42 ?_ ⟨by decide, by decide⟩
      first | exact ⟨rfl, _, _, _, rfl, hM, 0, hw, rfl, fun _ => ⟨rfl, k, q, hk, hq9, rfl, rfl, hg, rfl⟩, fun h => absurd rfl h⟩ | exact ⟨rfl, nI 0, A, _, rfl, hM, w, hw, rfl, fun h => absurd h hw0, fun _ => rfl⟩
theorem k6_shownAt {l : Launch} {s0 : State} {D : va_G} {cy : Nat → ClassId} (hE : gE s0 D cy) (hl : l.stackTraces = false) {mo : Nat} {ad : Nat → Nat} {A : Nat → Nat → Int32} {I : Nat → Int32} {L : List Nat} {f : gF} (hM : IsM cy mo ad A I L f) {n : Nat} (hN : I 7 = nI n) (hn9 : n ≤ 420) {PR : Nat → Nat} (hPR : vPar A n PR) {S : Nat → Nat → Int32} (hSh : vShow A n PR S) (x y : Int32) : gM l s0 D yX6_shownAt cX6_shownAt 3 (some .int) 3 0 0 [.ref mo, .int x, .int y] L f (mQ cy mo ad L (fun b9 A1 I1 => ∃ w, cd2 (live A n x ∧ gin y 12) w ∧ I1 = va_up I 27 (nI w) ∧ (w = 0 → A1 = A ∧ ∃ k q, k < n ∧ q < 12 ∧ x = nI k ∧ y = nI q ∧ A 8 k = 0 ∧ b9 = S k q) ∧ (w ≠ 0 → A1 = A))) := by
  refine gM.of (own := RX6) hE hl (by decide +kernel) rfl rfl (Nat.le_of_ble_eq_true rfl) (fun p9 e9 s9 m9 a99 b99 t99 c9 C hr hnm => ?_)
  refine G.weak (ls' := [some (.ref mo), some (.int x), some (.int y)]) ?_ rfl (fun _ _ h => h)
  refine g_cut (α := Nat) (fun w => cd2 (live A n x ∧ gin y 12) w) (fun _ => L) (fun _ => f) (fun _ => 0 + 0) (fun _ => 0 + 0) 23 (fun _ => [some (.ref mo), some (.int x), some (.int y)]) (fun w => [.int (nI w), .ref mo]) (fun J => ?_) (fun w hw => ?_)
  · skip
    refine g_aload_n (n := 1) C dX6_shownAt_0 rfl (Or.inr ⟨_, rfl⟩) rfl ?_
    refine g_aload_n (n := 2) C dX6_shownAt_1 rfl (Or.inr ⟨_, rfl⟩) rfl ?_
    refine g_iload_n (n := 3) C dX6_shownAt_2 rfl rfl ?_
    refine g_V (n := 6) (rest := [_]) C (k6_is hE hl hM hN hn9 _) dX6_shownAt_3 kM_X6_is kL_X6_167 kV_X6_is hM.1 rfl rfl rfl (Nat.le_of_ble_eq_true rfl) ⟨by decide, by decide⟩ ⟨by decide, by decide⟩ rfl (fun v9 L9 f9 hq => ?_)
    obtain ⟨⟨w8, rfl, hw8⟩, rfl, rfl⟩ := hq
    refine G.sk (st' := [_, _]) rfl ?_
    refine g_if_eq (n := 9) (tgt := 22) C dX6_shownAt_6 (by decide) rfl (fun h6 => ?_) (fun h6 => ?_)
    · have h6 := cdb_f hw8 h6
      refine g_iconst (n := 23) (v := nI 1) C dX6_shownAt_22 rfl rfl ?_
      exact J _ (by simp [cd2, h6])
    · have h6 := cdb_t hw8 h6
      refine g_iload_n (n := 10) C dX6_shownAt_9 rfl rfl ?_
      refine g_bipush (n := 12) (v := nI 12) C dX6_shownAt_10 rfl rfl ?_
      refine g_S (n := 15) (rest := [_]) C (k6_isIn hE hl (y) (nI 12)) dX6_shownAt_12 kM_X6_isIn kL_X6_87 kS_X6_isIn rfl rfl (Nat.le_of_ble_eq_true rfl) ⟨by decide, by decide⟩ ⟨by decide, by decide⟩ rfl (fun v9 L9 f9 hq => ?_)
      obtain ⟨rfl, rfl, rfl⟩ := hq
      refine G.sk (st' := [_, _]) rfl ?_
      refine g_if_eq (n := 18) (tgt := 22) C dX6_shownAt_15 (by decide) rfl (fun h15 => ?_) (fun h15 => ?_)
      · have h15 := gin_f h15 (by decide)
        refine g_iconst (n := 23) (v := nI 1) C dX6_shownAt_22 rfl rfl ?_
        exact J _ (by simp [cd2, h6, h15])
      · have h15 := gin_t h15 (by decide)
        refine g_iconst (n := 19) (v := nI 0) C dX6_shownAt_18 rfl rfl ?_
        refine g_goto (tgt := 23) C dX6_shownAt_19 (by decide) ?_
        exact J _ (by simp [cd2, h6, h15])
  · skip
    refine g_V (n := 26) (rest := []) C (k6_fails hE hl hM _) dX6_shownAt_23 kM_X6_fails kL_X6_95 kV_X6_fails hM.1 rfl rfl rfl (Nat.le_of_ble_eq_true rfl) ⟨by decide, by decide⟩ ⟨by decide, by decide⟩ rfl (fun v9 L9 f hq => ?_)
    obtain ⟨rfl, hM, rfl⟩ := hq
    refine G.sk (st' := [_]) rfl ?_
    refine g_if_eq (n := 29) (tgt := 33) C dX6_shownAt_26 (by decide) rfl (fun h26 => ?_) (fun h26 => ?_)
    · obtain ⟨rfl, ⟨k, hk, rfl, hg⟩, ⟨q, hq9, rfl⟩⟩ := cd2_f hw h26
      refine g_aload_n (n := 34) C dX6_shownAt_33 rfl (Or.inr ⟨_, rfl⟩) rfl ?_
      refine g_iload_n (n := 35) C dX6_shownAt_34 rfl rfl ?_
      refine g_iload_n (n := 36) C dX6_shownAt_35 rfl rfl ?_
      refine g_V (n := 39) (rest := []) C (k6_shows hE hl hM hn9 hPR hSh (by omega) hq9) dX6_shownAt_36 kM_X6_shows kL_X6_129 kV_X6_shows hM.1 rfl rfl rfl (Nat.le_of_ble_eq_true rfl) ⟨by decide, by decide⟩ ⟨by decide, by decide⟩ rfl (fun v9 L9 f9 hq => ?_)
      obtain ⟨rfl, rfl, rfl⟩ := hq
      refine G.sk (st' := [_]) rfl ?_
      refine g_iret C hr dX6_shownAt_39 ?_ ⟨by decide, by decide⟩
      first | exact ⟨rfl, _, _, _, rfl, hM, 0, hw, rfl, fun _ => ⟨rfl, k, q, hk, hq9, rfl, rfl, hg, rfl⟩, fun h => absurd rfl h⟩ | exact ⟨rfl, nI 0, A, _, rfl, hM, w, hw, rfl, fun h => absurd h hw0, fun _ => rfl⟩
    · have hw0 := cd_t h26
      refine g_iconst (n := 30) (v := nI 0) C dX6_shownAt_29 rfl rfl ?_
      refine g_goto (tgt := 39) C dX6_shownAt_30 (by decide) ?_
      refine g_iret C hr dX6_shownAt_39 ?_ ⟨by decide, by decide⟩
      first | exact ⟨rfl, _, _, _, rfl, hM, 0, hw, rfl, fun _ => ⟨rfl, k, q, hk, hq9, rfl, rfl, hg, rfl⟩, fun h => absurd rfl h⟩ | exact ⟨rfl, nI 0, A, _, rfl, hM, w, hw, rfl, fun h => absurd h hw0, fun _ => rfl⟩
theorem k6_imageSize {l : Launch} {s0 : State} {D : va_G} {cy : Nat → ClassId} (hE : gE s0 D cy) (hl : l.stackTraces = false) {mo : Nat} {ad : Nat → Nat} {A : Nat → Nat → Int32} {I : Nat → Int32} {L : List Nat} {f : gF} (hM : IsM cy mo ad A I L f) {n : Nat} (hN : I 7 = nI n) (hn9 : n ≤ 420) {PR : Nat → Nat} (hPR : vPar A n PR) (x : Int32) : gM l s0 D yX6_imageSize cX6_imageSize 4 (some .int) 3 0 0 [.ref mo, .int x] L f (mQ cy mo ad L (fun b9 A1 I1 => ∃ w, cd2 (live A n x) w ∧ I1 = va_up I 27 (nI w) ∧ (w = 0 → A1 = A ∧ ∃ k, k < n ∧ x = nI k ∧ A 8 k = 0 ∧ b9 = nI (isT A PR (k + 1))) ∧ (w ≠ 0 → A1 = A))) := by
  refine gM.of (own := RX6) hE hl (by decide +kernel) rfl rfl (Nat.le_of_ble_eq_true rfl) (fun p9 e9 s9 m9 a99 b99 t99 c9 C hr hnm => ?_)
  refine G.weak (ls' := [some (.ref mo), some (.int x), none, none]) ?_ rfl (fun _ _ h => h)
  refine g_cut (α := Nat) (fun w => cd2 (live A n x) w) (fun _ => L) (fun _ => f) (fun _ => 0 + 0) (fun _ => 0 + 0) 14 (fun _ => [some (.ref mo), some (.int x), none, none]) (fun w => [.int (nI w), .ref mo]) (fun J => ?_) (fun w hw => ?_)
  · skip
    refine g_aload_n (n := 1) C dX6_imageSize_0 rfl (Or.inr ⟨_, rfl⟩) rfl ?_
    refine g_aload_n (n := 2) C dX6_imageSize_1 rfl (Or.inr ⟨_, rfl⟩) rfl ?_
    refine g_iload_n (n := 3) C dX6_imageSize_2 rfl rfl ?_
    refine g_V (n := 6) (rest := [_]) C (k6_is hE hl hM hN hn9 _) dX6_imageSize_3 kM_X6_is kL_X6_167 kV_X6_is hM.1 rfl rfl rfl (Nat.le_of_ble_eq_true rfl) ⟨by decide, by decide⟩ ⟨by decide, by decide⟩ rfl (fun v9 L9 f9 hq => ?_)
    obtain ⟨⟨w8, rfl, hw8⟩, rfl, rfl⟩ := hq
    refine G.sk (st' := [_, _]) rfl ?_
    refine g_if_eq (n := 9) (tgt := 13) C dX6_imageSize_6 (by decide) rfl (fun h6 => ?_) (fun h6 => ?_)
    · have h6 := cdb_f hw8 h6
      refine g_iconst (n := 14) (v := nI 1) C dX6_imageSize_13 rfl rfl ?_
      exact J _ (by simp [cd2, h6])
    · have h6 := cdb_t hw8 h6
      refine g_iconst (n := 10) (v := nI 0) C dX6_imageSize_9 rfl rfl ?_
      refine g_goto (tgt := 14) C dX6_imageSize_10 (by decide) ?_
      exact J _ (by simp [cd2, h6])
  · skip
    refine g_V (n := 17) (rest := []) C (k6_fails hE hl hM _) dX6_imageSize_14 kM_X6_fails kL_X6_95 kV_X6_fails hM.1 rfl rfl rfl (Nat.le_of_ble_eq_true rfl) ⟨by decide, by decide⟩ ⟨by decide, by decide⟩ rfl (fun v9 L9 f hq => ?_)
    obtain ⟨rfl, hM, rfl⟩ := hq
    refine G.sk (st' := [_]) rfl ?_
    refine g_if_eq (n := 20) (tgt := 22) C dX6_imageSize_17 (by decide) rfl (fun h17 => ?_) (fun h17 => ?_)
    · obtain ⟨rfl, k, hk, rfl, hg⟩ := cd2_f hw h17
      refine g_iconst (n := 23) (v := nI 0) C dX6_imageSize_22 rfl rfl ?_
      refine g_istore_n (n := 24) (ls' := [_, _, _, _]) C dX6_imageSize_23 rfl (by decide) rfl ?_
      refine g_iload_n (n := 25) C dX6_imageSize_24 rfl rfl ?_
      refine g_istore_n (n := 26) (ls' := [_, _, _, _]) C dX6_imageSize_25 rfl (by decide) rfl ?_
      refine g_loop (α := Nat × Nat) (fun mt => mt.1 ≤ n ∧ mt.2 + isT A PR mt.1 = isT A PR (k + 1)) (fun mt => mt.1) (fun _ => L) (fun _ => f) (fun _ => _) (fun _ => _) 26 (fun mt => [some (.ref mo), some (.int (nI k)), some (.int (nI mt.2)), some (.int (pI mt.1))]) (fun _ => []) (fun mt hv ih => ?_) (fun J => J (k + 1, 0) ⟨hk, Nat.zero_add _⟩)
      obtain ⟨m, t⟩ := mt
      obtain ⟨hm, hv2⟩ := hv
      dsimp only at hm hv2 ih ⊢
      refine g_iload_n (n := 27) C dX6_imageSize_26 rfl rfl ?_
      refine g_iconst (n := 28) (v := -1) C dX6_imageSize_27 rfl rfl ?_
      refine g_icmp_eq (n := 31) (tgt := 49) C dX6_imageSize_28 (by decide) rfl (fun h28 => ?_) (fun h28 => ?_)
      · have e9 := pI_0 h28 (by omega)
        subst e9
        have ht : t = isT A PR (k + 1) := hv2
        subst ht
        refine g_iload_n (n := 50) C dX6_imageSize_49 rfl rfl ?_
        refine g_iret C hr dX6_imageSize_50 ?_ ⟨by decide, by decide⟩
        exact ⟨rfl, _, _, _, rfl, hM, 0, hw, rfl, fun _ => ⟨rfl, k, hk, rfl, hg, rfl⟩, fun h => absurd rfl h⟩
      · obtain ⟨j, rfl⟩ : ∃ j, m = j + 1 := ⟨m - 1, by cases m with | zero => exact absurd rfl h28 | succ j => rfl⟩
        rw [show pI (j + 1) = nI j from rfl]
        refine g_iload_n (n := 32) C dX6_imageSize_31 rfl rfl ?_
        refine g_aload_n (n := 33) C dX6_imageSize_32 rfl (Or.inr ⟨_, rfl⟩) rfl ?_
        refine g_iload_n (n := 34) C dX6_imageSize_33 rfl rfl ?_
        refine g_V (n := 37) (rest := [_]) C (k6_size hE hl hM (by omega)) dX6_imageSize_34 kM_X6_size kL_X6_170 kV_X6_size hM.1 rfl rfl rfl (Nat.le_of_ble_eq_true rfl) ⟨by decide, by decide⟩ ⟨by decide, by decide⟩ rfl (fun v9 L9 f9 hq => ?_)
        obtain ⟨rfl, rfl, rfl⟩ := hq
        refine G.sk (st' := [_, _]) rfl ?_
        refine g_iaddN (n := 38) C dX6_imageSize_37 rfl ?_
        refine g_istore_n (n := 39) (ls' := [_, _, _, _]) C dX6_imageSize_38 rfl (by decide) rfl ?_
        refine g_aload_n (n := 40) C dX6_imageSize_39 rfl (Or.inr ⟨_, rfl⟩) rfl ?_
        refine m_get (n := 43) C hM dX6_imageSize_40 kF_X6_35 rfl rfl ?_
        refine g_iload_n (n := 44) C dX6_imageSize_43 rfl rfl ?_
        refine m_ald (n := 45) C hM dX6_imageSize_44 rfl rfl rfl (by simp only [mLen]; omega) (by decide) rfl ?_
        refine G.top (y := pI (PR j)) ((hPR j (by omega)).2) ?_
        refine g_istore_n (n := 46) (ls' := [_, _, _, _]) C dX6_imageSize_45 rfl (by decide) rfl ?_
        refine g_goto (tgt := 26) C dX6_imageSize_46 (by decide) ?_
        exact ih (PR j, t + szN A j 12) ⟨by have := (hPR j (by omega)).1; show PR j ≤ n; omega, by rw [← hv2, isT_s (n := n) (fun k hk => (hPR k hk).1) (by omega), Nat.add_assoc]⟩ (by have := (hPR j (by omega)).1; show PR j < j + 1; omega)
    · have hw0 := cd_t h17
      refine g_iconst (n := 21) (v := nI 0) C dX6_imageSize_20 rfl rfl ?_
      refine g_iret C hr dX6_imageSize_21 ?_ ⟨by decide, by decide⟩
      exact ⟨rfl, nI 0, A, _, rfl, hM, w, hw, rfl, fun h => absurd h hw0, fun _ => rfl⟩
theorem k6_digest {l : Launch} {s0 : State} {D : va_G} {cy : Nat → ClassId} (hE : gE s0 D cy) (hl : l.stackTraces = false) {mo : Nat} {ad : Nat → Nat} {A : Nat → Nat → Int32} {I : Nat → Int32} {L : List Nat} {f : gF} (hM : IsM cy mo ad A I L f) {n : Nat} (hN : I 7 = nI n) (hn9 : n ≤ 420) {PR : Nat → Nat} (hPR : vPar A n PR) {S : Nat → Nat → Int32} (hSh : vShow A n PR S) (x : Int32) : gM l s0 D yX6_digest cX6_digest 5 (some .int) 3 0 0 [.ref mo, .int x] L f (mQ cy mo ad L (fun b9 A1 I1 => ∃ w, cd2 (live A n x) w ∧ I1 = va_up I 27 (nI w) ∧ (w = 0 → A1 = A ∧ ∃ k, k < n ∧ x = nI k ∧ A 8 k = 0 ∧ b9 = dgF (S k) 12) ∧ (w ≠ 0 → A1 = A))) := by
  refine gM.of (own := RX6) hE hl (by decide +kernel) rfl rfl (Nat.le_of_ble_eq_true rfl) (fun p9 e9 s9 m9 a99 b99 t99 c9 C hr hnm => ?_)
  refine G.weak (ls' := [some (.ref mo), some (.int x), none, none, none]) ?_ rfl (fun _ _ h => h)
  refine g_cut (α := Nat) (fun w => cd2 (live A n x) w) (fun _ => L) (fun _ => f) (fun _ => 0 + 0) (fun _ => 0 + 0) 14 (fun _ => [some (.ref mo), some (.int x), none, none, none]) (fun w => [.int (nI w), .ref mo]) (fun J => ?_) (fun w hw => ?_)
  · skip
    refine g_aload_n (n := 1) C dX6_digest_0 rfl (Or.inr ⟨_, rfl⟩) rfl ?_
    refine g_aload_n (n := 2) C dX6_digest_1 rfl (Or.inr ⟨_, rfl⟩) rfl ?_
    refine g_iload_n (n := 3) C dX6_digest_2 rfl rfl ?_
    refine g_V (n := 6) (rest := [_]) C (k6_is hE hl hM hN hn9 _) dX6_digest_3 kM_X6_is kL_X6_167 kV_X6_is hM.1 rfl rfl rfl (Nat.le_of_ble_eq_true rfl) ⟨by decide, by decide⟩ ⟨by decide, by decide⟩ rfl (fun v9 L9 f9 hq => ?_)
    obtain ⟨⟨w8, rfl, hw8⟩, rfl, rfl⟩ := hq
    refine G.sk (st' := [_, _]) rfl ?_
    refine g_if_eq (n := 9) (tgt := 13) C dX6_digest_6 (by decide) rfl (fun h6 => ?_) (fun h6 => ?_)
    · have h6 := cdb_f hw8 h6
      refine g_iconst (n := 14) (v := nI 1) C dX6_digest_13 rfl rfl ?_
      exact J _ (by simp [cd2, h6])
    · have h6 := cdb_t hw8 h6
      refine g_iconst (n := 10) (v := nI 0) C dX6_digest_9 rfl rfl ?_
      refine g_goto (tgt := 14) C dX6_digest_10 (by decide) ?_
      exact J _ (by simp [cd2, h6])
  · skip
    refine g_V (n := 17) (rest := []) C (k6_fails hE hl hM _) dX6_digest_14 kM_X6_fails kL_X6_95 kV_X6_fails hM.1 rfl rfl rfl (Nat.le_of_ble_eq_true rfl) ⟨by decide, by decide⟩ ⟨by decide, by decide⟩ rfl (fun v9 L9 f hq => ?_)
    obtain ⟨rfl, hM, rfl⟩ := hq
    refine G.sk (st' := [_]) rfl ?_
    refine g_if_eq (n := 20) (tgt := 22) C dX6_digest_17 (by decide) rfl (fun h17 => ?_) (fun h17 => ?_)
    · obtain ⟨rfl, k, hk, rfl, hg⟩ := cd2_f hw h17
      refine g_iconst (n := 23) (v := nI 1) C dX6_digest_22 rfl rfl ?_
      refine g_istore_n (n := 24) (ls' := [_, _, _, _, _]) C dX6_digest_23 rfl (by decide) rfl ?_
      refine g_iconst (n := 25) (v := nI 0) C dX6_digest_24 rfl rfl ?_
      refine g_istore_n (n := 26) (ls' := [_, _, _, _, _]) C dX6_digest_25 rfl (by decide) rfl ?_
      refine g_loop (α := Nat × Option Value) (fun i => i.1 ≤ 12) (fun i => 12 - i.1) (fun _ => L) (fun _ => f) (fun _ => _) (fun _ => _) 26 (fun i => [some (.ref mo), some (.int (nI k)), some (.int (dgF (S k) i.1)), some (.int (nI i.1)), i.2]) (fun _ => []) (fun i hv ih => ?_) (fun J => J (0, none) (Nat.zero_le _))
      obtain ⟨i, o4⟩ := i
      dsimp only at hv ih ⊢
      replace hv : i ≤ 12 := hv
      refine g_iload_n (n := 27) C dX6_digest_26 rfl rfl ?_
      refine g_bipush (n := 29) (v := nI 12) C dX6_digest_27 rfl rfl ?_
      refine g_icmp_ge (n := 32) (tgt := 72) C dX6_digest_29 (by decide) rfl (fun h29 => ?_) (fun h29 => ?_)
      · have e9 : i = 12 := by have := gn_ge h29 (by decide) (by omega); omega
        subst e9
        refine g_iload_n (n := 73) C dX6_digest_72 rfl rfl ?_
        refine g_iret C hr dX6_digest_73 ?_ ⟨by decide, by decide⟩
        exact ⟨rfl, _, _, _, rfl, hM, 0, hw, rfl, fun _ => ⟨rfl, k, hk, rfl, hg, rfl⟩, fun h => absurd rfl h⟩
      · have hi : i < 12 := gn_gt h29 (by decide) (by omega)
        refine g_aload_n (n := 33) C dX6_digest_32 rfl (Or.inr ⟨_, rfl⟩) rfl ?_
        refine g_iload_n (n := 34) C dX6_digest_33 rfl rfl ?_
        refine g_iload_n (n := 35) C dX6_digest_34 rfl rfl ?_
        refine g_V (n := 38) (rest := []) C (k6_shows hE hl hM hn9 hPR hSh (by omega) hi) dX6_digest_35 kM_X6_shows kL_X6_129 kV_X6_shows hM.1 rfl rfl rfl (Nat.le_of_ble_eq_true rfl) ⟨by decide, by decide⟩ ⟨by decide, by decide⟩ rfl (fun v9 L9 f9 hq => ?_)
        obtain ⟨rfl, rfl, rfl⟩ := hq
        refine G.sk (st' := [_]) rfl ?_
        refine g_istore (n := 40) (ls' := [_, _, _, _, _]) C dX6_digest_38 rfl (by decide) rfl ?_
        refine g_iload (n := 42) C dX6_digest_40 rfl rfl ?_
        refine g_iconst (n := 43) (v := -1) C dX6_digest_42 rfl rfl ?_
        refine g_icmp_ne (n := 46) (tgt := 50) C dX6_digest_43 (by decide) rfl (fun h43 => ?_) (fun h43 => ?_)
        · refine g_bipush (n := 52) (v := nI 31) C dX6_digest_50 rfl rfl ?_
          refine g_iload_n (n := 53) C dX6_digest_52 rfl rfl ?_
          refine g_imul (n := 54) C dX6_digest_53 rfl ?_
          refine g_bipush (n := 56) (v := nI 101) C dX6_digest_54 rfl rfl ?_
          refine g_iload_n (n := 57) C dX6_digest_56 rfl rfl ?_
          refine g_imul (n := 58) C dX6_digest_57 rfl ?_
          refine g_iadd (n := 59) C dX6_digest_58 rfl ?_
          refine g_iload (n := 61) C dX6_digest_59 rfl rfl ?_
          refine g_iadd (n := 62) C dX6_digest_61 rfl ?_
          refine g_ldc (n := 64) (v := 1000003) C dX6_digest_62 (List.mem_of_getElem? (i := 1023) (by decide +kernel)) rfl ?_
          refine g_irem (n := 65) C dX6_digest_64 (by decide) rfl ?_
          refine G.top (y := dgF (S k) (i + 1)) (by simp [dgF, h43]) ?_
          refine g_istore_n (n := 66) (ls' := [_, _, _, _, _]) C dX6_digest_65 rfl (by decide) rfl ?_
          refine g_iinc (n := 69) (ls' := [_, _, _, _, _]) C dX6_digest_66 rfl (nI_1 _) rfl (by decide) rfl ?_
          refine g_goto (tgt := 26) C dX6_digest_69 (by decide) ?_
          exact ih (i + 1, _) (show i + 1 ≤ 12 by omega) (show 12 - (i + 1) < 12 - i by omega)
        · have e7 : dgF (S k) (i + 1) = dgF (S k) i := by simp [dgF, h43]
          refine g_iload_n (n := 47) C dX6_digest_46 rfl rfl ?_
          refine g_goto (tgt := 65) C dX6_digest_47 (by decide) ?_
          refine G.top (y := dgF (S k) (i + 1)) (by simp [dgF, h43]) ?_
          refine g_istore_n (n := 66) (ls' := [_, _, _, _, _]) C dX6_digest_65 rfl (by decide) rfl ?_
          refine g_iinc (n := 69) (ls' := [_, _, _, _, _]) C dX6_digest_66 rfl (nI_1 _) rfl (by decide) rfl ?_
          refine g_goto (tgt := 26) C dX6_digest_69 (by decide) ?_
          exact ih (i + 1, _) (show i + 1 ≤ 12 by omega) (show 12 - (i + 1) < 12 - i by omega)
    · have hw0 := cd_t h17
      refine g_iconst (n := 21) (v := nI 0) C dX6_digest_20 rfl rfl ?_
      refine g_iret C hr dX6_digest_21 ?_ ⟨by decide, by decide⟩
      exact ⟨rfl, nI 0, A, _, rfl, hM, w, hw, rfl, fun h => absurd h hw0, fun _ => rfl⟩

/-! ===== the class, XXIII: prune ===== -/
theorem k5_partAtG {l : Launch} {s0 : State} {D : va_G} {cy : Nat → ClassId} (hE : gE s0 D cy) (hl : l.stackTraces = false) {L : List Nat} {f : gF} {bk : Nat → Nat} {n : Nat} {PR PL : Nat → Nat} {S A : Nat → Nat → Int32} {I : Nat → Int32} (hnv : pIn n A I PR PL S) (hlk : ∀ k, k < n → ∃ m ip, gH L f (bk (100 + 4 * k)) (.inr (2, [.int (nI k), va_rf (pR bk (PR k)), .int (nI (PL k)), .ref (bk (101 + 4 * k)), .ref (bk (102 + 4 * k)), .ref (bk (103 + 4 * k)), va_rf m, .int ip]))) {k : Nat} (hk : k < n) {z : Nat} (hz9 : z < 2 ^ 31) : gM l s0 D yX2_partAt cX2_partAt 3 (some (.object RX2)) 1 0 0 [.ref (bk (100 + 4 * k)), .int (nI z)] L f (fun v L1 f1 => (∃ j, j < n ∧ v = some (.ref (bk (100 + 4 * j))) ∧ anc PR (k + 1) j ∧ (PL j = z ∨ (j = k ∧ PL k ≤ z))) ∧ L = L1 ∧ f = f1) := by
  refine gM.of (own := RX2) hE hl (by decide +kernel) rfl rfl (Nat.le_of_ble_eq_true rfl) (fun p9 e9 s9 m9 a99 b99 t99 c9 C hr hnm => ?_)
  refine G.weak (ls' := [some (.ref (bk (100 + 4 * k))), some (.int (nI z)), none]) ?_ rfl (fun _ _ h => h)
  obtain ⟨-, hn9, hPR, -, hPL, hPb, -⟩ := hnv
  refine g_aload_n (n := 1) C dX2_partAt_0 rfl (Or.inr ⟨_, rfl⟩) rfl ?_
  refine g_astore_n (n := 2) (ls' := [_, _, _]) C dX2_partAt_1 (Or.inr ⟨_, rfl⟩) rfl (by decide) rfl ?_
  refine g_loop (α := Nat) (fun j => j < n ∧ anc PR (k + 1) j ∧ (z ≤ PL j ∨ j = k)) (fun j => j) (fun _ => L) (fun _ => f) (fun _ => 0) (fun _ => 0) 2 (fun j => [some (.ref (bk (100 + 4 * k))), some (.int (nI z)), some (.ref (bk (100 + 4 * j)))]) (fun _ => []) (fun j hj ih => ?_) (fun J => J k ⟨hk, (anc_s (n := n) (fun k hk => (hPR k hk).1) hk).mpr (Or.inl rfl), Or.inr rfl⟩)
  obtain ⟨hjn, hja, hjz⟩ := hj
  obtain ⟨m, ip, hL⟩ := hlk j hjn
  have hp10 := hPb j hjn
  refine g_aload_n (n := 3) C dX2_partAt_2 rfl (Or.inr ⟨_, rfl⟩) rfl ?_
  refine g_get (n := 6) C dX2_partAt_3 kF_X2_32 (by assumption) rfl rfl ?_
  refine g_iload_n (n := 7) C dX2_partAt_6 rfl rfl ?_
  refine g_icmp_le (n := 10) (tgt := 25) C dX2_partAt_7 (by decide) rfl (fun h7 => ?_) (fun h7 => ?_)
  · have h7 : PL j ≤ z := (nI_leI (by omega) (by omega)).mp h7
    refine g_aload_n (n := 26) C dX2_partAt_25 rfl (Or.inr ⟨_, rfl⟩) rfl ?_
    refine g_aret (o := (some (bk (100 + 4 * j)))) C hr (Or.inl ⟨_, rfl⟩) dX2_partAt_26 ?_ ⟨by decide, by decide⟩
    refine ⟨⟨j, hjn, rfl, hja, ?_⟩, rfl, rfl⟩
    rcases hjz with h | h
    · exact Or.inl (by omega)
    · rw [h] at h7 ⊢; exact Or.inr ⟨rfl, h7⟩
  · have h7 : z < PL j := Nat.lt_of_not_le (fun q => h7 ((nI_leI (by omega) (by omega)).mpr q))
    refine g_aload_n (n := 11) C dX2_partAt_10 rfl (Or.inr ⟨_, rfl⟩) rfl ?_
    refine g_get (n := 14) C dX2_partAt_11 kF_X2_28 (by assumption) rfl rfl ?_
    refine g_ifnull (n := 17) (tgt := 25) C dX2_partAt_14 (by decide) rfl (fun h14 => ?_) (fun a14 h14 => ?_)
    · have e9 := pR_none h14
      have e8 := hPL j hjn
      rw [e9] at e8
      have e8 : PL j = 0 := e8
      omega
    · obtain ⟨i, hpi, rfl⟩ := pR_some h14
      have hij := (hPR j hjn).1
      have e8 := hPL j hjn
      rw [hpi] at e8
      have e8 : PL j = PL i + 1 := e8
      refine g_aload_n (n := 18) C dX2_partAt_17 rfl (Or.inr ⟨_, rfl⟩) rfl ?_
      refine g_get (n := 21) C dX2_partAt_18 kF_X2_28 (by assumption) rfl rfl ?_
      rw [h14]
      refine g_astore_n (n := 22) (ls' := [_, _, _]) C dX2_partAt_21 (Or.inr ⟨_, rfl⟩) rfl (by decide) rfl ?_
      refine g_goto (tgt := 2) C dX2_partAt_22 (by decide) ?_
      exact ih i ⟨by omega, anc_tr (n := n) (fun k hk => (hPR k hk).1) hk hjn hpi hja, Or.inl (by omega)⟩ (by omega)
theorem anc_lo {A : Nat → Nat → Int32} {n : Nat} {PR PL : Nat → Nat} (hPR : vPar A n PR) (hPL : vPL n PR PL) : ∀ m, m < n → ∀ q, anc PR (m + 1) q → q < n ∧ PL q ≤ PL m ∧ (PL q = PL m → q = m) := by
  intro m
  induction m using Nat.strongRecOn with
  | ind m ih =>
    intro hm q ha
    rcases (anc_s (n := n) (fun k hk => (hPR k hk).1) hm).mp ha with rfl | ha
    · exact ⟨hm, Nat.le_refl _, fun _ => rfl⟩
    · cases hp : PR m with
      | zero => rw [hp] at ha; exact absurd ha anc_0
      | succ t =>
        have h1 := (hPR m hm).1
        have h2 := hPL m hm
        rw [hp] at ha h2
        have h2 : PL m = PL t + 1 := h2
        have h3 := ih t (by omega) (by omega) q ha
        exact ⟨h3.1, by omega, fun z => by omega⟩
theorem kep_n9 {PR TG : Nat → Nat} {i k : Nat} (h : ¬ kep PR TG i k) (h2 : ¬ anc PR (TG i) k) : ¬ kep PR TG (i + 1) k := by
  rintro ⟨t, ht, ha⟩
  by_cases e : t = i
  · rw [e] at ha; exact h2 ha
  · exact h ⟨t, by omega, ha⟩
theorem k5_isInTaggedImage {l : Launch} {s0 : State} {D : va_G} {cy : Nat → ClassId} (hE : gE s0 D cy) (hl : l.stackTraces = false) {L : List Nat} {f : gF} {bk : Nat → Nat} {n : Nat} {PR PL : Nat → Nat} {S A : Nat → Nat → Int32} {I : Nat → Int32} (hnv : pIn n A I PR PL S) (hlk : ∀ k, k < n → ∃ m ip, gH L f (bk (100 + 4 * k)) (.inr (2, [.int (nI k), va_rf (pR bk (PR k)), .int (nI (PL k)), .ref (bk (101 + 4 * k)), .ref (bk (102 + 4 * k)), .ref (bk (103 + 4 * k)), va_rf m, .int ip]))) (hco : gH L f (bk 0) (.inr (5, [.ref (bk 1), .ref (bk 2), .ref (bk 6), .ref (bk 7), .ref (bk 8), .ref (bk 10), .int (I 25), .int (I 26)]))) {gt : Nat → Option Nat} (hta : gH L f (bk 7) (.inl (cy 5, 5, qR gt))) {TG : Nat → Nat} (hgt : ∀ i, i < 5 → gt i = pR bk (TG i) ∧ TG i ≤ n) (hbj : ∀ i j, i < n → j < n → bk (100 + 4 * i) = bk (100 + 4 * j) → i = j) {k : Nat} (hk : k < n) : gM l s0 D yX5_isInTaggedImage cX5_isInTaggedImage 6 (some .boolean) 2 0 0 [.ref (bk 0), .ref (bk (100 + 4 * k))] L f (fun v L1 f1 => (∃ w, v = some (.int (nI w)) ∧ cdb (kep PR TG 5 k) w) ∧ L = L1 ∧ f = f1) := by
  refine gM.of (own := RX5) hE hl (by decide +kernel) rfl rfl (Nat.le_of_ble_eq_true rfl) (fun p9 e9 s9 m9 a99 b99 t99 c9 C hr hnm => ?_)
  refine G.weak (ls' := [some (.ref (bk 0)), some (.ref (bk (100 + 4 * k))), none, none, none, none]) ?_ rfl (fun _ _ h => h)
  have hnv9 := hnv
  obtain ⟨-, hn9, hPR, -, hPL, hPb, -⟩ := hnv9
  obtain ⟨mk, ipk, hLk⟩ := hlk k hk
  have hPk := hPb k hk
  refine g_aload_n (n := 1) C dX5_isInTaggedImage_0 rfl (Or.inr ⟨_, rfl⟩) rfl ?_
  refine g_get (n := 4) C dX5_isInTaggedImage_1 kF_X5_26 (by assumption) rfl rfl ?_
  refine g_astore_n (n := 5) (ls' := [_, _, _, _, _, _]) C dX5_isInTaggedImage_4 (Or.inr ⟨_, rfl⟩) rfl (by decide) rfl ?_
  refine g_aload_n (n := 6) C dX5_isInTaggedImage_5 rfl (Or.inr ⟨_, rfl⟩) rfl ?_
  refine g_alen (n := 7) (t := 5) C dX5_isInTaggedImage_6 rfl (by assumption) rfl rfl ?_
  refine G.top (y := nI 5) rfl ?_
  refine g_istore_n (n := 8) (ls' := [_, _, _, _, _, _]) C dX5_isInTaggedImage_7 rfl (by decide) rfl ?_
  refine g_iconst (n := 9) (v := nI 0) C dX5_isInTaggedImage_8 rfl rfl ?_
  refine g_istore (n := 11) (ls' := [_, _, _, _, _, _]) C dX5_isInTaggedImage_9 rfl (by decide) rfl ?_
  refine g_loop (α := Nat × Option Value) (fun y => y.1 ≤ 5 ∧ ¬ kep PR TG y.1 k) (fun y => 5 - y.1) (fun _ => L) (fun _ => f) (fun _ => 0) (fun _ => 0) 11 (fun y => [some (.ref (bk 0)), some (.ref (bk (100 + 4 * k))), some (.ref (bk 7)), some (.int (nI 5)), some (.int (nI y.1)), y.2]) (fun _ => []) (fun y hy ih => ?_) (fun J => J (0, none) ⟨Nat.zero_le _, fun ⟨t, ht, _⟩ => absurd ht (Nat.not_lt_zero t)⟩)
  obtain ⟨i, o5⟩ := y
  obtain ⟨hi9, hno⟩ := hy
  dsimp only at hi9 hno ih ⊢
  refine g_iload (n := 13) C dX5_isInTaggedImage_11 rfl rfl ?_
  refine g_iload_n (n := 14) C dX5_isInTaggedImage_13 rfl rfl ?_
  refine g_icmp_ge (n := 17) (tgt := 49) C dX5_isInTaggedImage_14 (by decide) rfl (fun h14 => ?_) (fun h14 => ?_)
  · have e9 : i = 5 := by have := gn_ge h14 (by decide) (by omega); omega
    subst e9
    refine g_iconst (n := 50) (v := nI 0) C dX5_isInTaggedImage_49 rfl rfl ?_
    refine g_zret C hr rfl dX5_isInTaggedImage_50 ?_ ⟨by decide, by decide⟩
    exact ⟨⟨_, rfl, Or.inr ⟨rfl, hno⟩⟩, rfl, rfl⟩
  · have hi : i < 5 := gn_gt h14 (by omega) (by omega)
    obtain ⟨hgi, hti⟩ := hgt i hi
    refine g_aload_n (n := 18) C dX5_isInTaggedImage_17 rfl (Or.inr ⟨_, rfl⟩) rfl ?_
    refine g_iload (n := 20) C dX5_isInTaggedImage_18 rfl rfl ?_
    refine g_aald (n := 21) (t := 5) C dX5_isInTaggedImage_20 rfl rfl (by assumption) rfl (by omega) (by decide) rfl ?_
    rw [hgi]
    refine g_astore (n := 23) (ls' := [_, _, _, _, _, _]) C dX5_isInTaggedImage_21 (rf_or _) rfl (by decide) rfl ?_
    refine g_aload (n := 25) C dX5_isInTaggedImage_23 rfl (rf_or _) rfl ?_
    refine g_ifnull (n := 28) (tgt := 43) C dX5_isInTaggedImage_25 (by decide) rfl (fun h25 => ?_) (fun a25 h25 => ?_)
    · have h0 := pR_none h25
      refine g_iinc (n := 46) (ls' := [_, _, _, _, _, _]) C dX5_isInTaggedImage_43 rfl (nI_1 _) rfl (by decide) rfl ?_
      refine g_goto (tgt := 11) C dX5_isInTaggedImage_46 (by decide) ?_
      first | (have hnr : ¬ anc PR (TG i) k := (by rw [h0]; exact anc_0); exact ih (i + 1, _) ⟨by show i + 1 ≤ 5; omega, kep_n9 hno hnr⟩ (by show 5 - (i + 1) < 5 - i; omega)) | (have hnr : ¬ anc PR (TG i) k := hnk; exact ih (i + 1, _) ⟨by show i + 1 ≤ 5; omega, kep_n9 hno hnr⟩ (by show 5 - (i + 1) < 5 - i; omega))
    · obtain ⟨t9, hTt, rfl⟩ := pR_some h25
      rw [hTt]
      rw [show pR bk (t9 + 1) = some (bk (100 + 4 * t9)) from rfl]
      obtain ⟨mt, ipt, hLt⟩ := hlk t9 (by omega)
      refine g_aload (n := 30) C dX5_isInTaggedImage_28 rfl (rf_or _) rfl ?_
      refine g_aload_n (n := 31) C dX5_isInTaggedImage_30 rfl (Or.inr ⟨_, rfl⟩) rfl ?_
      refine g_get (n := 34) C dX5_isInTaggedImage_31 kF_X5_192 (by assumption) rfl rfl ?_
      refine g_V (n := 37) (rest := []) C (k5_partAtG hE hl hnv hlk (k := t9) (by omega) (z := PL k) (by omega)) dX5_isInTaggedImage_34 kM_X2_partAt kL_X5_202 kV_X2_partAt hLt rfl rfl rfl (Nat.le_of_ble_eq_true rfl) ⟨by decide, by decide⟩ ⟨by decide, by decide⟩ rfl (fun v9 L9 f9 hq => ?_)
      obtain ⟨⟨j, hjn, rfl, hja, hjz⟩, rfl, rfl⟩ := hq
      refine G.sk (st' := [_]) rfl ?_
      refine g_aload_n (n := 38) C dX5_isInTaggedImage_37 rfl (Or.inr ⟨_, rfl⟩) rfl ?_
      refine g_acmp_ne (rx := (some (bk (100 + 4 * j)))) (ry := (some (bk (100 + 4 * k)))) (n := 41) (tgt := 43) C dX5_isInTaggedImage_38 (by decide) rfl (fun h38 => ?_) (fun h38 => ?_)
      · have hnk : ¬ anc PR (TG i) k := by
          intro ha
          rw [hTt] at ha
          have h1 := anc_lo hPR hPL t9 (by omega) k ha
          have e : j = k := by
            rcases hjz with h | ⟨h, h2⟩
            · exact anc_u hPR hPL (by omega) hja ha h
            · have e1 : PL k = PL t9 := by omega
              rw [h]; exact (h1.2.2 e1).symm
          exact h38 (by rw [e])
        refine g_iinc (n := 46) (ls' := [_, _, _, _, _, _]) C dX5_isInTaggedImage_43 rfl (nI_1 _) rfl (by decide) rfl ?_
        refine g_goto (tgt := 11) C dX5_isInTaggedImage_46 (by decide) ?_
        first | (have hnr : ¬ anc PR (TG i) k := (by rw [h0]; exact anc_0); exact ih (i + 1, _) ⟨by show i + 1 ≤ 5; omega, kep_n9 hno hnr⟩ (by show 5 - (i + 1) < 5 - i; omega)) | (have hnr : ¬ anc PR (TG i) k := hnk; exact ih (i + 1, _) ⟨by show i + 1 ≤ 5; omega, kep_n9 hno hnr⟩ (by show 5 - (i + 1) < 5 - i; omega))
      · have e := hbj j k hjn hk (Option.some.inj h38)
        subst e
        refine g_iconst (n := 42) (v := nI 1) C dX5_isInTaggedImage_41 rfl rfl ?_
        refine g_zret C hr rfl dX5_isInTaggedImage_42 ?_ ⟨by decide, by decide⟩
        exact ⟨⟨_, rfl, Or.inl ⟨rfl, i, hi, by rw [hTt]; exact hja⟩⟩, rfl, rfl⟩

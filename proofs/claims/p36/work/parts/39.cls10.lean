/-! ===== the class, X: searches ===== -/
theorem pR_some {bk : Nat → Nat} {m a : Nat} (h : pR bk m = some a) : ∃ j, m = j + 1 ∧ a = bk (100 + 4 * j) := by
  cases m with
  | zero => cases h
  | succ j => exact ⟨j, rfl, (Option.some.inj h).symm⟩
theorem no_s {P : Nat → Prop} {i : Nat} (hno : ∀ j, j < i → ¬ P j) (hnr : ¬ P i) : ∀ j, j < i + 1 → ¬ P j := fun j hj => by
  by_cases e : j = i
  · rw [e]; exact hnr
  · exact hno j (by omega)
theorem pR_none {bk : Nat → Nat} {m : Nat} (h : pR bk m = none) : m = 0 := by
  cases m with
  | zero => rfl
  | succ j => cases h
theorem RC.bj {cy : Nat → ClassId} {L : List Nat} {f : gF} {bk : Nat → Nat} {n : Nat} {X : Nat → va_E} {Is : Nat → Option iT} {PR PL : Nat → Nat} {S A : Nat → Nat → Int32} {I : Nat → Int32} (hR : RC cy bk n X Is PR PL S A I L f) {i j : Nat} (hi : i < n) (hj : j < n) (h : bk (100 + 4 * i) = bk (100 + 4 * j)) : i = j := by
  have := hR.1.2.1 _ _ (bw hi (r := 0) (by decide)) (bw hj (r := 0) (by decide)) h
  omega
theorem k5_partAt {l : Launch} {s0 : State} {D : va_G} {cy : Nat → ClassId} (hE : gE s0 D cy) (hl : l.stackTraces = false) {L : List Nat} {f : gF} {bk : Nat → Nat} {n : Nat} {X : Nat → va_E} {Is : Nat → Option iT} {PR PL : Nat → Nat} {S A : Nat → Nat → Int32} {I : Nat → Int32} (hR : RC cy bk n X Is PR PL S A I L f) {k : Nat} (hk : k < n) {z : Nat} (hz9 : z < 2 ^ 31) : gM l s0 D yX2_partAt cX2_partAt 3 (some (.object RX2)) 1 0 0 [.ref (bk (100 + 4 * k)), .int (nI z)] L f (fun v L1 f1 => (∃ j, j < n ∧ v = some (.ref (bk (100 + 4 * j))) ∧ anc PR (k + 1) j ∧ (PL j = z ∨ (j = k ∧ PL k ≤ z))) ∧ L = L1 ∧ f = f1) := by
  refine gM.of (own := RX2) hE hl (by decide +kernel) rfl rfl (Nat.le_of_ble_eq_true rfl) (fun p9 e9 s9 m9 a99 b99 t99 c9 C hr hnm => ?_)
  refine G.weak (ls' := [some (.ref (bk (100 + 4 * k))), some (.int (nI z)), none]) ?_ rfl (fun _ _ h => h)
  obtain ⟨-, hn9, hPR, -, hPL, hPb, -⟩ := hR.nv
  refine g_aload_n (n := 1) C dX2_partAt_0 rfl (Or.inr ⟨_, rfl⟩) rfl ?_
  refine g_astore_n (n := 2) (ls' := [_, _, _]) C dX2_partAt_1 (Or.inr ⟨_, rfl⟩) rfl (by decide) rfl ?_
  refine g_loop (α := Nat) (fun j => j < n ∧ anc PR (k + 1) j ∧ (z ≤ PL j ∨ j = k)) (fun j => j) (fun _ => L) (fun _ => f) (fun _ => 0) (fun _ => 0) 2 (fun j => [some (.ref (bk (100 + 4 * k))), some (.int (nI z)), some (.ref (bk (100 + 4 * j)))]) (fun _ => []) (fun j hj ih => ?_) (fun J => J k ⟨hk, (anc_s (n := n) (fun k hk => (hPR k hk).1) hk).mpr (Or.inl rfl), Or.inr rfl⟩)
  obtain ⟨hjn, hja, hjz⟩ := hj
  obtain ⟨h, s, v, m, ip, hL, hh, hs, hv, -⟩ := hR.lk hjn
  have hp10 := hPb j hjn
  refine g_aload_n (n := 3) C dX2_partAt_2 rfl (Or.inr ⟨_, rfl⟩) rfl ?_
  refine g_get (n := 6) C dX2_partAt_3 kF_X2_32 (by assumption) rfl rfl ?_
  refine g_iload_n (n := 7) C dX2_partAt_6 rfl rfl ?_
  refine g_icmp_le (n := 10) (tgt := 25) C dX2_partAt_7 (by decide) rfl (fun h7 => ?_) (fun h7 => ?_)
  · have h7 : PL j ≤ z := (nI_leI (by omega) (by omega)).mp h7
    refine g_aload_n (n := 26) C dX2_partAt_25 rfl (Or.inr ⟨_, rfl⟩) rfl ?_
    refine g_aret (o := (some (bk (100 + 4 * j)))) C hr (Or.inl ⟨_, rfl⟩) dX2_partAt_26 ?_ ⟨by decide, by decide⟩
    refine ⟨⟨j, hjn, rfl, hja, ?_⟩, rfl, rfl⟩
    rcases hjz with h | h
    · exact Or.inl (by omega)
    · rw [h] at h7 ⊢; exact Or.inr ⟨rfl, h7⟩
  · have h7 : z < PL j := Nat.lt_of_not_le (fun q => h7 ((nI_leI (by omega) (by omega)).mpr q))
    refine g_aload_n (n := 11) C dX2_partAt_10 rfl (Or.inr ⟨_, rfl⟩) rfl ?_
    refine g_get (n := 14) C dX2_partAt_11 kF_X2_28 (by assumption) rfl rfl ?_
    refine g_ifnull (n := 17) (tgt := 25) C dX2_partAt_14 (by decide) rfl (fun h14 => ?_) (fun a14 h14 => ?_)
    · have e9 := pR_none h14
      have e8 := hPL j hjn
      rw [e9] at e8
      have e8 : PL j = 0 := e8
      omega
    · obtain ⟨i, hpi, rfl⟩ := pR_some h14
      have hij := (hPR j hjn).1
      have e8 := hPL j hjn
      rw [hpi] at e8
      have e8 : PL j = PL i + 1 := e8
      refine g_aload_n (n := 18) C dX2_partAt_17 rfl (Or.inr ⟨_, rfl⟩) rfl ?_
      refine g_get (n := 21) C dX2_partAt_18 kF_X2_28 (by assumption) rfl rfl ?_
      rw [h14]
      refine g_astore_n (n := 22) (ls' := [_, _, _]) C dX2_partAt_21 (Or.inr ⟨_, rfl⟩) rfl (by decide) rfl ?_
      refine g_goto (tgt := 2) C dX2_partAt_22 (by decide) ?_
      exact ih i ⟨by omega, anc_tr (n := n) (fun k hk => (hPR k hk).1) hk hjn hpi hja, Or.inl (by omega)⟩ (by omega)
theorem k5_findRoot {l : Launch} {s0 : State} {D : va_G} {cy : Nat → ClassId} (hE : gE s0 D cy) (hl : l.stackTraces = false) {L : List Nat} {f : gF} {bk : Nat → Nat} {n : Nat} {X : Nat → va_E} {Is : Nat → Option iT} {PR PL : Nat → Nat} {S A : Nat → Nat → Int32} {I : Nat → Int32} (hR : RC cy bk n X Is PR PL S A I L f) {b : Nat} (hb : b < 3) : gM l s0 D yX4_findRoot cX4_findRoot 4 (some (.object RX2)) 3 0 0 [.ref (bk 8), .ref (bk (3 + b))] L f (fun v L1 f1 => (∃ m, v = some (va_rf (pR bk m)) ∧ lst (rootP A b) 0 n m) ∧ L = L1 ∧ f = f1) := by
  refine gM.of (own := RX4) hE hl (by decide +kernel) rfl rfl (Nat.le_of_ble_eq_true rfl) (fun p9 e9 s9 m9 a99 b99 t99 c9 C hr hnm => ?_)
  refine G.weak (ls' := [some (.ref (bk 8)), some (.ref (bk (3 + b))), none, none]) ?_ rfl (fun _ _ h => h)
  obtain ⟨-, hn9, hPR, -, hPL, hPb, -⟩ := hR.nv
  obtain ⟨g, hso, hrow, hg1, hg2⟩ := hR.st
  obtain ⟨B, hB, hB9⟩ := hR.br hb
  refine g_iconst (n := 1) (v := nI 0) C dX4_findRoot_0 rfl rfl ?_
  refine g_istore_n (n := 2) (ls' := [_, _, _, _]) C dX4_findRoot_1 rfl (by decide) rfl ?_
  refine g_loop (α := Nat × Option Value) (fun y => y.1 ≤ n ∧ ∀ j, j < y.1 → ¬ rootP A b j) (fun y => n - y.1) (fun _ => L) (fun _ => f) (fun _ => 0) (fun _ => 0) 2 (fun y => [some (.ref (bk 8)), some (.ref (bk (3 + b))), some (.int (nI y.1)), y.2]) (fun _ => []) (fun y hy ih => ?_) (fun J => J (0, none) ⟨Nat.zero_le _, fun j hj => absurd hj (Nat.not_lt_zero j)⟩)
  obtain ⟨i, o3⟩ := y
  obtain ⟨hi9, hno⟩ := hy
  dsimp only at hi9 hno ih ⊢
  refine g_iload_n (n := 3) C dX4_findRoot_2 rfl rfl ?_
  refine g_aload_n (n := 4) C dX4_findRoot_3 rfl (Or.inr ⟨_, rfl⟩) rfl ?_
  refine g_get (n := 7) C dX4_findRoot_4 kF_X4_21 (by assumption) rfl rfl ?_
  refine g_icmp_ge (n := 10) (tgt := 36) C dX4_findRoot_7 (by decide) rfl (fun h7 => ?_) (fun h7 => ?_)
  · have e9 : i = n := by have := gn_ge h7 (by omega) (by omega); omega
    subst e9
    refine g_aconst_null (n := 37) C dX4_findRoot_36 rfl ?_
    refine G.sk (st' := [va_rf none]) rfl ?_
    refine g_aret C hr (Or.inl ⟨_, rfl⟩) dX4_findRoot_37 ?_ ⟨by decide, by decide⟩
    exact ⟨⟨0, rfl, Or.inl ⟨rfl, fun j _ hj => hno j hj⟩⟩, rfl, rfl⟩
  · have hi : i < n := gn_gt h7 (by omega) (by omega)
    refine g_aload_n (n := 11) C dX4_findRoot_10 rfl (Or.inr ⟨_, rfl⟩) rfl ?_
    refine g_iload_n (n := 12) C dX4_findRoot_11 rfl rfl ?_
    refine g_V (n := 15) (rest := []) C (k5_find hE hl hso hrow (nI i)) dX4_findRoot_12 kM_X4_find kL_X4_25 kV_X4_find (by assumption) rfl rfl rfl (Nat.le_of_ble_eq_true rfl) ⟨by decide, by decide⟩ ⟨by decide, by decide⟩ rfl (fun v9 L9 f9 hq => ?_)
    obtain ⟨⟨o, rfl, ho⟩, rfl, rfl⟩ := hq
    refine G.sk (st' := [_]) rfl ?_
    refine g_astore_n (n := 16) (ls' := [_, _, _, _]) C dX4_findRoot_15 (rf_or _) rfl (by decide) rfl ?_
    refine g_aload_n (n := 17) C dX4_findRoot_16 rfl (rf_or _) rfl ?_
    refine g_ifnull (n := 20) (tgt := 30) C dX4_findRoot_17 (by decide) rfl (fun h17 => ?_) (fun a17 h17 => ?_)
    · have hdead := find_none hn9 hg1 ho h17
      refine g_iinc (n := 33) (ls' := [_, _, _, _]) C dX4_findRoot_30 rfl (nI_1 _) rfl (by decide) rfl ?_
      refine g_goto (tgt := 2) C dX4_findRoot_33 (by decide) ?_
      first | (have hnr : ¬ rootP A b i := fun z => hdead ⟨i, hi, rfl, z.1.1⟩; exact ih (i + 1, _) ⟨by show i + 1 ≤ n; omega, no_s hno hnr⟩ (by show n - (i + 1) < n - i; omega)) | (have hnr : ¬ rootP A b i := fun z => h25 ⟨by rw [pI_0 (((hPR i hi).2).symm.trans z.1.2) (by have := (hPR i hi).1; omega)]; rfl, fun q hq => by rw [hh9 q hq, hB9 q hq]; exact z.2 q hq⟩; exact ih (i + 1, _) ⟨by show i + 1 ≤ n; omega, no_s hno hnr⟩ (by show n - (i + 1) < n - i; omega))
    · obtain ⟨k, hk, e9, h8, rfl⟩ := find_some hg1 hg2 ho h17
      have e9 := gn_inj (by omega) (by omega) e9
      subst e9
      obtain ⟨hf, sf, vf, mf, ipf, hL, hh, hs, hv, hh9, -⟩ := hR.lk hk
      rw [h17]
      refine g_aload_n (n := 21) C dX4_findRoot_20 rfl (rf_or _) rfl ?_
      refine g_aload_n (n := 22) C dX4_findRoot_21 rfl (Or.inr ⟨_, rfl⟩) rfl ?_
      refine g_V (n := 25) (rest := []) C (k5_isRootOf hE hl hL hh hs hv hB) dX4_findRoot_22 kM_X2_isRootOf kL_X4_29 kV_X2_isRootOf hL rfl rfl rfl (Nat.le_of_ble_eq_true rfl) ⟨by decide, by decide⟩ ⟨by decide, by decide⟩ rfl (fun v9 L9 f9 hq => ?_)
      obtain ⟨⟨w8, rfl, hw8⟩, rfl, rfl⟩ := hq
      refine G.sk (st' := [_]) rfl ?_
      refine g_if_eq (n := 28) (tgt := 30) C dX4_findRoot_25 (by decide) rfl (fun h25 => ?_) (fun h25 => ?_)
      · have h25 := cdb_f hw8 h25
        refine g_iinc (n := 33) (ls' := [_, _, _, _]) C dX4_findRoot_30 rfl (nI_1 _) rfl (by decide) rfl ?_
        refine g_goto (tgt := 2) C dX4_findRoot_33 (by decide) ?_
        first | (have hnr : ¬ rootP A b i := fun z => hdead ⟨i, hi, rfl, z.1.1⟩; exact ih (i + 1, _) ⟨by show i + 1 ≤ n; omega, no_s hno hnr⟩ (by show n - (i + 1) < n - i; omega)) | (have hnr : ¬ rootP A b i := fun z => h25 ⟨by rw [pI_0 (((hPR i hi).2).symm.trans z.1.2) (by have := (hPR i hi).1; omega)]; rfl, fun q hq => by rw [hh9 q hq, hB9 q hq]; exact z.2 q hq⟩; exact ih (i + 1, _) ⟨by show i + 1 ≤ n; omega, no_s hno hnr⟩ (by show n - (i + 1) < n - i; omega))
      · have h25 := cdb_t hw8 h25
        refine g_aload_n (n := 29) C dX4_findRoot_28 rfl (rf_or _) rfl ?_
        refine g_aret (o := (some (bk (100 + 4 * i)))) C hr (Or.inl ⟨_, rfl⟩) dX4_findRoot_29 ?_ ⟨by decide, by decide⟩
        exact ⟨⟨i + 1, rfl, Or.inr ⟨i, rfl, Nat.zero_le _, hk, ⟨⟨h8, (hPR i hk).2.trans (by rw [pR_none h25.1]; rfl)⟩, fun q hq => by rw [← hh9 q hq, ← hB9 q hq]; exact h25.2 q hq⟩, fun j _ hj => hno j hj⟩⟩, rfl, rfl⟩
theorem insR.u {o : Option iT} {k a b : Int32} {t : iT} (h : insR o k a b) (e : o = some t) : t = (k, a, if k = nI 3 then -1 else b) := Option.some.inj (e.symm.trans h.1)
theorem vIns_n1 {k a b : Int32} (h : vIns k a b) : k ≠ -1 := by
  rintro rfl
  rcases h with ⟨h, -⟩ | ⟨h, -⟩ | ⟨h, -⟩ | ⟨h, -⟩ | ⟨h, -⟩ <;> exact absurd h (by decide)
/-- the class's test of a layer's maker is the reference's -/
theorem mk_iff {Is : Nat → Option iT} {A : Nat → Nat → Int32} {k : Nat} {m : Option Nat} {ip what a b its x : Int32} (h : mkC Is A k m ip) (hV : vIns what a b) (h3 : what = nI 3 → b = nI 0) (hx : x = if what = nI 0 then its else -1) (h0 : what ≠ nI 0 → its = nI 0) (km fm sm : Int32) (hm : ∀ v, m = some v → Is v = some (km, fm, sm)) :
    (m ≠ none ∧ km = what ∧ fm = a ∧ sm = (if what = nI 3 then -1 else b) ∧ ip = x) ↔ (A 12 k = what ∧ A 13 k = a ∧ A 14 k = b ∧ A 15 k = its) := by
  rcases h with ⟨e1, e2, e3⟩ | ⟨v, e1, e2, e3, e4⟩
  · constructor
    · intro z; exact absurd e1 z.1
    · intro z; exact absurd (z.1.symm.trans e2) (vIns_n1 hV)
  · have e5 := hm v e1
    have e6 := e2.u e5
    obtain ⟨q1, q2⟩ := Prod.mk.inj e6
    obtain ⟨q2, q3⟩ := Prod.mk.inj q2
    rw [q1, q2, q3, e3, hx]
    constructor
    · rintro ⟨-, z1, z2, z3, z4⟩
      refine ⟨z1, z2, ?_, ?_⟩
      · rw [z1] at z3
        by_cases h : what = nI 3
        · rw [h3 h]; exact e2.2.2 (z1.trans h)
        · rw [if_neg h, if_neg h] at z3; exact z3
      · rw [z1] at z4
        by_cases h : what = nI 0
        · rw [if_pos h, if_pos h] at z4; exact z4
        · rw [h0 h]; exact e4 (by rw [z1]; exact h)
    · rintro ⟨z1, z2, z3, z4⟩
      rw [z1, z2, z3, z4]
      exact ⟨by rw [e1]; exact Option.some_ne_none _, rfl, rfl, rfl, rfl⟩
theorem mkC.some {Is : Nat → Option iT} {A : Nat → Nat → Int32} {k : Nat} {m : Option Nat} {ip : Int32} (h : mkC Is A k m ip) : ∃ t : iT, ∀ v, m = some v → Is v = some t := by
  rcases h with ⟨e1, -, -⟩ | ⟨v, e1, e2, -⟩
  · exact ⟨(0, 0, 0), fun v e => by rw [e1] at e; cases e⟩
  · exact ⟨_, fun v2 e => by rw [e1] at e; cases e; exact e2.1⟩
theorem par_of {bk : Nat → Nat} {A : Nat → Nat → Int32} {PR : Nat → Nat} {i k0 n : Nat} (h1 : A 9 i = pI (PR i)) (h2 : PR i ≤ i) (hi : i < n) (hn : n ≤ 420) (h : A 9 i = nI k0) (hk : k0 < 2 ^ 31 := by omega) : pR bk (PR i) = some (bk (100 + 4 * k0)) := by
  have e : PR i = k0 + 1 := pI_inj (h1.symm.trans h) (by omega) (by omega)
  rw [e]
  rfl
theorem k5_findMade {l : Launch} {s0 : State} {D : va_G} {cy : Nat → ClassId} (hE : gE s0 D cy) (hl : l.stackTraces = false) {L : List Nat} {f : gF} {bk : Nat → Nat} {n : Nat} {X : Nat → va_E} {Is : Nat → Option iT} {PR PL : Nat → Nat} {S A : Nat → Nat → Int32} {I : Nat → Int32} (hR : RC cy bk n X Is PR PL S A I L f) {k0 : Nat} (hk0 : k0 < n) {i9 : Nat} {what a b its x : Int32} (hin9 : insR (Is i9) what a b) (hx9 : x = if what = nI 0 then its else -1) (h09 : what ≠ nI 0 → its = nI 0) : gM l s0 D yX4_findMade cX4_findMade 6 (some (.object RX2)) 3 0 0 [.ref (bk 8), .ref (bk (100 + 4 * k0)), .ref i9, .int x] L f (fun v L1 f1 => (∃ m, v = some (va_rf (pR bk m)) ∧ lst (mdP A k0 what a b its) 0 n m) ∧ L = L1 ∧ f = f1) := by
  refine gM.of (own := RX4) hE hl (by decide +kernel) rfl rfl (Nat.le_of_ble_eq_true rfl) (fun p9 e9 s9 m9 a99 b99 t99 c9 C hr hnm => ?_)
  refine G.weak (ls' := [some (.ref (bk 8)), some (.ref (bk (100 + 4 * k0))), some (.ref i9), some (.int x), none, none]) ?_ rfl (fun _ _ h => h)
  obtain ⟨-, hn9, hPR, -, hPL, hPb, -⟩ := hR.nv
  obtain ⟨g, hso, hrow, hg1, hg2⟩ := hR.st
  obtain ⟨h0, s0f, v0, m0, ip0, hL0, -⟩ := hR.lk hk0
  have hic := hR.ic hin9.1
  have hyoung : ∀ j, j < n → j ≤ k0 → A 9 j ≠ nI k0 := by
    intro j hj hjk e
    have e2 := pI_inj (((hPR j hj).2).symm.trans e : pI (PR j) = pI (k0 + 1)) (by have := (hPR j hj).1; omega) (by omega)
    have := (hPR j hj).1
    omega
  refine g_aload_n (n := 1) C dX4_findMade_0 rfl (Or.inr ⟨_, rfl⟩) rfl ?_
  refine g_get (n := 4) C dX4_findMade_1 kF_X4_33 (by assumption) rfl rfl ?_
  refine g_iconst (n := 5) (v := nI 1) C dX4_findMade_4 rfl rfl ?_
  refine g_iaddN (n := 6) C dX4_findMade_5 rfl ?_
  refine g_istore (n := 8) (ls' := [_, _, _, _, _, _]) C dX4_findMade_6 rfl (by decide) rfl ?_
  refine g_loop (α := Nat × Option Value) (fun y => k0 < y.1 ∧ y.1 ≤ n ∧ ∀ j, j < y.1 → ¬ mdP A k0 what a b its j) (fun y => n - y.1) (fun _ => L) (fun _ => f) (fun _ => 0) (fun _ => 0) 8 (fun y => [some (.ref (bk 8)), some (.ref (bk (100 + 4 * k0))), some (.ref i9), some (.int x), some (.int (nI y.1)), y.2]) (fun _ => []) (fun y hy ih => ?_) (fun J => J (k0 + 1, none) ⟨Nat.lt_succ_self _, hk0, fun j hj z => hyoung j (by have hj : j < k0 + 1 := hj; omega) (by have hj : j < k0 + 1 := hj; omega) z.2.2.1⟩)
  obtain ⟨i, o3⟩ := y
  obtain ⟨hki, hi9, hno⟩ := hy
  dsimp only at hki hi9 hno ih ⊢
  refine g_iload (n := 10) C dX4_findMade_8 rfl rfl ?_
  refine g_aload_n (n := 11) C dX4_findMade_10 rfl (Or.inr ⟨_, rfl⟩) rfl ?_
  refine g_get (n := 14) C dX4_findMade_11 kF_X4_21 (by assumption) rfl rfl ?_
  refine g_icmp_ge (n := 17) (tgt := 58) C dX4_findMade_14 (by decide) rfl (fun h14 => ?_) (fun h14 => ?_)
  · have e9 : i = n := by have := gn_ge h14 (by omega) (by omega); omega
    subst e9
    refine g_aconst_null (n := 59) C dX4_findMade_58 rfl ?_
    refine G.sk (st' := [va_rf none]) rfl ?_
    refine g_aret C hr (Or.inl ⟨_, rfl⟩) dX4_findMade_59 ?_ ⟨by decide, by decide⟩
    exact ⟨⟨0, rfl, Or.inl ⟨rfl, fun j _ hj => hno j hj⟩⟩, rfl, rfl⟩
  · have hi : i < n := gn_gt h14 (by omega) (by omega)
    refine g_aload_n (n := 18) C dX4_findMade_17 rfl (Or.inr ⟨_, rfl⟩) rfl ?_
    refine g_iload (n := 20) C dX4_findMade_18 rfl rfl ?_
    refine g_V (n := 23) (rest := []) C (k5_find hE hl hso hrow (nI i)) dX4_findMade_20 kM_X4_find kL_X4_25 kV_X4_find (by assumption) rfl rfl rfl (Nat.le_of_ble_eq_true rfl) ⟨by decide, by decide⟩ ⟨by decide, by decide⟩ rfl (fun v9 L9 f9 hq => ?_)
    obtain ⟨⟨o, rfl, ho⟩, rfl, rfl⟩ := hq
    refine G.sk (st' := [_]) rfl ?_
    refine g_astore (n := 25) (ls' := [_, _, _, _, _, _]) C dX4_findMade_23 (rf_or _) rfl (by decide) rfl ?_
    refine g_aload (n := 27) C dX4_findMade_25 rfl (rf_or _) rfl ?_
    refine g_ifnull (n := 30) (tgt := 52) C dX4_findMade_27 (by decide) rfl (fun h27 => ?_) (fun a27 h27 => ?_)
    · have hdead := find_none hn9 hg1 ho h27
      refine g_iinc (n := 55) (ls' := [_, _, _, _, _, _]) C dX4_findMade_52 rfl (nI_1 _) rfl (by decide) rfl ?_
      refine g_goto (tgt := 8) C dX4_findMade_55 (by decide) ?_
      first | (have hnr : ¬ mdP A k0 what a b its i := fun z => hdead ⟨i, hi, rfl, z.1⟩; exact ih (i + 1, _) ⟨by show k0 < i + 1; omega, by show i + 1 ≤ n; omega, no_s hno hnr⟩ (by show n - (i + 1) < n - i; omega)) | (have hnr : ¬ mdP A k0 what a b its i := fun z => h36 (par_of (hPR i hi).2 (hPR i hi).1 hi hn9 z.2.2.1); exact ih (i + 1, _) ⟨by show k0 < i + 1; omega, by show i + 1 ≤ n; omega, no_s hno hnr⟩ (by show n - (i + 1) < n - i; omega)) | (have hnr : ¬ mdP A k0 what a b its i := fun z => h46 (hiff.mpr ⟨z.2.1, z.2.2.2.1, z.2.2.2.2.1, z.2.2.2.2.2⟩); exact ih (i + 1, _) ⟨by show k0 < i + 1; omega, by show i + 1 ≤ n; omega, no_s hno hnr⟩ (by show n - (i + 1) < n - i; omega))
    · obtain ⟨k, hk, e9, h8, rfl⟩ := find_some hg1 hg2 ho h27
      have e9 := gn_inj (by omega) (by omega) e9
      subst e9
      subst h27
      obtain ⟨hf, sf, vf, mf, ipf, hL, hh, hs, hv, -, -, -, hmk⟩ := hR.lk hk
      obtain ⟨⟨km, fm, sm⟩, hmt⟩ := hmk.some
      have hiff := mk_iff hmk hin9.2.1 hin9.2.2 hx9 h09 km fm sm hmt
      refine g_aload (n := 32) C dX4_findMade_30 rfl (rf_or _) rfl ?_
      refine g_get (n := 35) C dX4_findMade_32 kF_X4_36 (by assumption) rfl rfl ?_
      refine g_aload_n (n := 36) C dX4_findMade_35 rfl (Or.inr ⟨_, rfl⟩) rfl ?_
      refine g_acmp_ne (rx := (pR bk (PR i))) (ry := (some (bk (100 + 4 * k0)))) (n := 39) (tgt := 52) C dX4_findMade_36 (by decide) rfl (fun h36 => ?_) (fun h36 => ?_)
      · refine g_iinc (n := 55) (ls' := [_, _, _, _, _, _]) C dX4_findMade_52 rfl (nI_1 _) rfl (by decide) rfl ?_
        refine g_goto (tgt := 8) C dX4_findMade_55 (by decide) ?_
        first | (have hnr : ¬ mdP A k0 what a b its i := fun z => hdead ⟨i, hi, rfl, z.1⟩; exact ih (i + 1, _) ⟨by show k0 < i + 1; omega, by show i + 1 ≤ n; omega, no_s hno hnr⟩ (by show n - (i + 1) < n - i; omega)) | (have hnr : ¬ mdP A k0 what a b its i := fun z => h36 (par_of (hPR i hi).2 (hPR i hi).1 hi hn9 z.2.2.1); exact ih (i + 1, _) ⟨by show k0 < i + 1; omega, by show i + 1 ≤ n; omega, no_s hno hnr⟩ (by show n - (i + 1) < n - i; omega)) | (have hnr : ¬ mdP A k0 what a b its i := fun z => h46 (hiff.mpr ⟨z.2.1, z.2.2.2.1, z.2.2.2.2.1, z.2.2.2.2.2⟩); exact ih (i + 1, _) ⟨by show k0 < i + 1; omega, by show i + 1 ≤ n; omega, no_s hno hnr⟩ (by show n - (i + 1) < n - i; omega))
      · refine g_aload (n := 41) C dX4_findMade_39 rfl (rf_or _) rfl ?_
        refine g_aload_n (n := 42) C dX4_findMade_41 rfl (Or.inr ⟨_, rfl⟩) rfl ?_
        refine g_iload_n (n := 43) C dX4_findMade_42 rfl rfl ?_
        refine g_V (n := 46) (rest := []) C (k5_wasMadeBy hE hl hL hh hs hv hic (fun m9 e => hR.ic (hmt m9 e)) x) dX4_findMade_43 kM_X2_wasMadeBy kL_X4_40 kV_X2_wasMadeBy hL rfl rfl rfl (Nat.le_of_ble_eq_true rfl) ⟨by decide, by decide⟩ ⟨by decide, by decide⟩ rfl (fun v9 L9 f9 hq => ?_)
        obtain ⟨⟨w8, rfl, hw8⟩, rfl, rfl⟩ := hq
        refine G.sk (st' := [_]) rfl ?_
        refine g_if_eq (n := 49) (tgt := 52) C dX4_findMade_46 (by decide) rfl (fun h46 => ?_) (fun h46 => ?_)
        · have h46 := cdb_f hw8 h46
          refine g_iinc (n := 55) (ls' := [_, _, _, _, _, _]) C dX4_findMade_52 rfl (nI_1 _) rfl (by decide) rfl ?_
          refine g_goto (tgt := 8) C dX4_findMade_55 (by decide) ?_
          first | (have hnr : ¬ mdP A k0 what a b its i := fun z => hdead ⟨i, hi, rfl, z.1⟩; exact ih (i + 1, _) ⟨by show k0 < i + 1; omega, by show i + 1 ≤ n; omega, no_s hno hnr⟩ (by show n - (i + 1) < n - i; omega)) | (have hnr : ¬ mdP A k0 what a b its i := fun z => h36 (par_of (hPR i hi).2 (hPR i hi).1 hi hn9 z.2.2.1); exact ih (i + 1, _) ⟨by show k0 < i + 1; omega, by show i + 1 ≤ n; omega, no_s hno hnr⟩ (by show n - (i + 1) < n - i; omega)) | (have hnr : ¬ mdP A k0 what a b its i := fun z => h46 (hiff.mpr ⟨z.2.1, z.2.2.2.1, z.2.2.2.2.1, z.2.2.2.2.2⟩); exact ih (i + 1, _) ⟨by show k0 < i + 1; omega, by show i + 1 ≤ n; omega, no_s hno hnr⟩ (by show n - (i + 1) < n - i; omega))
        · have h46 := cdb_t hw8 h46
          have hz := hiff.mp h46
          refine g_aload (n := 51) C dX4_findMade_49 rfl (rf_or _) rfl ?_
          refine g_aret (o := (some (bk (100 + 4 * i)))) C hr (Or.inl ⟨_, rfl⟩) dX4_findMade_51 ?_ ⟨by decide, by decide⟩
          obtain ⟨j0, e0, e00⟩ := pR_some h36
          have e1 := hR.bj (by have := (hPR i hk).1; omega) hk0 e00.symm
          exact ⟨⟨i + 1, rfl, Or.inr ⟨i, rfl, Nat.zero_le _, hk, ⟨h8, hz.1, (hPR i hk).2.trans (by rw [e0, e1]; rfl), hz.2.1, hz.2.2.1, hz.2.2.2⟩, fun j _ hj => hno j hj⟩⟩, rfl, rfl⟩

/-! ===== the class, XXII: squash ===== -/
theorem RC.tg {cy : Nat → ClassId} {L : List Nat} {f : gF} {bk : Nat → Nat} {n : Nat} {X : Nat → va_E} {Is : Nat → Option iT} {PR PL : Nat → Nat} {S A : Nat → Nat → Int32} {I : Nat → Int32} (hR : RC cy bk n X Is PR PL S A I L f) {TG : Nat → Nat} (hTG : vTag A n TG) {g : Nat → Option Nat} (hg : ∀ i, i < 5 → tgC bk n A (A 16 i) (g i)) {i : Nat} (hi : i < 5) : g i = pR bk (TG i) ∧ ∀ k, TG i = k + 1 → k < n ∧ A 8 k = 0 := by
  have hn9 := hR.nv.2.1
  obtain ⟨h1, h2⟩ := hTG i hi
  rcases hg i hi with ⟨e, e2⟩ | ⟨k, hk, e, e8, e2⟩
  · have h0 := pI_0 (h2.symm.trans e) (by omega)
    rw [h0]
    exact ⟨e2, fun k hk => by cases hk⟩
  · have h0 : TG i = k + 1 := pI_inj (h2.symm.trans e) (by omega) (by omega)
    rw [h0]
    exact ⟨e2, fun k2 hk2 => by have := Nat.succ.inj hk2; subst this; exact ⟨hk, e8⟩⟩
theorem anc_live {A : Nat → Nat → Int32} {n : Nat} {PR : Nat → Nat} (hPR : vPar A n PR) (hl : ∀ k j, k < n → A 8 k = 0 → PR k = j + 1 → A 8 j = 0) : ∀ k, k < n → A 8 k = 0 → ∀ j, anc PR (k + 1) j → A 8 j = 0 := by
  intro k
  induction k using Nat.strongRecOn with
  | ind k ih =>
    intro hk h8 j ha
    rcases (anc_s (n := n) (fun k hk => (hPR k hk).1) hk).mp ha with rfl | ha
    · exact h8
    · cases hp : PR k with
      | zero => rw [hp] at ha; exact absurd ha anc_0
      | succ i =>
        have := (hPR k hk).1
        rw [hp] at ha
        exact ih i (by omega) (by omega) (hl k i hk h8 hp) j ha
theorem pos_of {y : Int32} (h : ¬ y < nI 1) : ∃ z, y = nI z ∧ 0 < z ∧ z < 2 ^ 31 := by
  have h1 : ¬ y < 0 := fun q => h (by
    rw [gn_lt] at q ⊢
    have e0 : (0 : Int32).toInt = 0 := by decide
    have e1 : (nI 1).toInt = 1 := by decide
    omega)
  obtain ⟨z, hz, rfl⟩ := nI_of h1
  exact ⟨z, rfl, Nat.pos_of_ne_zero (fun e => h (by rw [e]; decide)), hz⟩
theorem sq_lo {PL TG : Nat → Nat} {x y : Int32} (h : y < nI 1) : ¬ sqC1 PL TG x y := by
  rintro ⟨i, z, -, -, rfl, h1, h2, -⟩
  rw [gn_lt, nI_toInt h2] at h
  have e1 : (nI 1).toInt = 1 := by decide
  omega
theorem sq_i {PL TG : Nat → Nat} {x y : Int32} (h : ¬ gin x 5) : ¬ sqC1 PL TG x y := fun ⟨i, z, h1, h2, _⟩ => h ⟨i, h1, h2⟩
theorem sq_hi {PL TG : Nat → Nat} {i z k : Nat} (hi : i < 5) (hz : z < 2 ^ 31) (h : TG i = k + 1) (h2 : ¬ z ≤ PL k) : ¬ sqC1 PL TG (nI i) (nI z) := by
  rintro ⟨i2, z2, q1, q2, q3, q4, q5, q6⟩
  have := gn_inj (by omega) (by omega) q2
  subst this
  have := gn_inj hz q5 q3
  subst this
  have := q6 k h
  omega
theorem sq_ok {PL TG : Nat → Nat} {i z : Nat} (hi : i < 5) (h0 : 0 < z) (hz : z < 2 ^ 31) (h : ∀ k, TG i = k + 1 → z ≤ PL k) : sqC1 PL TG (nI i) (nI z) := ⟨i, z, hi, rfl, rfl, h0, hz, fun k hk => by have := h k hk; omega⟩
theorem sq_no {TG : Nat → Nat} {n i : Nat} (hi : i < 5) (h : TG i = 0) : ¬ sqC2 TG n (nI i) := fun z => z.2 i hi rfl h
theorem sq_2 {TG : Nat → Nat} {n i : Nat} (hi : i < 5) (hn : n < 400) (h : TG i ≠ 0) : sqC2 TG n (nI i) := ⟨hn, fun i2 hi2 e => by
  have := gn_inj (by omega) (by omega) e
  subst this
  exact h⟩
def sqB (A : Nat → Nat → Int32) (n k j : Nat) (S : Nat → Nat → Int32) : Nat → Nat → Int32 := upR (upR (mkA A n (j + 1)) 10 (12 * n) 12 (sqV S k j)) 11 (4 * n) 4 (fun v => A 11 (4 * k + v))
theorem sqB_ex {A S : Nat → Nat → Int32} {n k j : Nat} : exA (mkA A n (j + 1)) (sqB A n k j S) n := by
  unfold sqB
  refine ⟨fun r i h => by rw [upR_k (by omega), upR_k (by omega)], fun i q hi hq => by rw [upR_k (by decide), upR_o (by omega)], fun i q hi hq => by rw [upR_o (by omega), upR_k (by decide)], fun r i h1 h2 hi => by rw [upR_k (by omega), upR_k (by omega)]⟩
theorem sqB_10 {A S : Nat → Nat → Int32} {n k j q : Nat} (hq : q < 12) : sqB A n k j S 10 (12 * n + q) = sqV S k j q := by
  unfold sqB
  rw [upR_k (by decide), upR_i hq]
theorem sqB_11 {A S : Nat → Nat → Int32} {n k j q : Nat} (hq : q < 4) : sqB A n k j S 11 (4 * n + q) = A 11 (4 * k + q) := by
  unfold sqB
  rw [upR_i hq]
theorem sqB_12 {A S : Nat → Nat → Int32} {n k j r i : Nat} (h : r < 10 ∨ 11 < r) : sqB A n k j S r i = mkA A n (j + 1) r i := by
  unfold sqB
  rw [upR_k (by omega), upR_k (by omega)]
theorem pw_at {P : Nat → Prop} [DecidablePred P] {g H : Nat → Int32} {i q : Nat} (h : q < i) : pw P g H i q = if P q then g q else H q := by
  unfold pw
  by_cases e : P q
  · rw [if_pos ⟨h, e⟩, if_pos e]
  · rw [if_neg (fun z => e z.2), if_neg e]
theorem cOK_2 {x : Int32} (h : cOK x) : x ≠ -2 := by
  rcases h with rfl | ⟨j, hj, rfl⟩
  · decide
  · exact gn_ne2 (by omega)
theorem anc_u {A : Nat → Nat → Int32} {n k i j : Nat} {PR PL : Nat → Nat} (hPR : vPar A n PR) (hPL : vPL n PR PL) (hk : k < n) (hi : anc PR (k + 1) i) (hj : anc PR (k + 1) j) (e : PL i = PL j) : i = j := by
  have lo : ∀ m, m < n → ∀ q, anc PR (m + 1) q → PL q ≤ PL m ∧ (PL q = PL m → q = m) := by
    intro m
    induction m using Nat.strongRecOn with
    | ind m ih =>
      intro hm q ha
      rcases (anc_s (n := n) (fun k hk => (hPR k hk).1) hm).mp ha with rfl | ha
      · exact ⟨Nat.le_refl _, fun _ => rfl⟩
      · cases hp : PR m with
        | zero => rw [hp] at ha; exact absurd ha anc_0
        | succ t =>
          have h1 := (hPR m hm).1
          have h2 := hPL m hm
          rw [hp] at ha h2
          have h2 : PL m = PL t + 1 := h2
          have h3 := (ih t (by omega) (by omega) q ha).1
          exact ⟨by omega, fun z => by omega⟩
  induction k using Nat.strongRecOn with
  | ind k ih =>
    rcases (anc_s (n := n) (fun k hk => (hPR k hk).1) hk).mp hi with rfl | hi2 <;> rcases (anc_s (n := n) (fun k hk => (hPR k hk).1) hk).mp hj with rfl | hj2
    · rfl
    · exact ((lo _ hk j hj).2 e.symm).symm
    · exact (lo _ hk i hi).2 e
    · cases hp : PR k with
      | zero => rw [hp] at hi2; exact absurd hi2 anc_0
      | succ t =>
        have h1 := (hPR k hk).1
        rw [hp] at hi2 hj2
        exact ih t (by omega) (by omega) hi2 hj2
theorem k5_squash {l : Launch} {s0 : State} {D : va_G} {cy : Nat → ClassId} (hE : gE s0 D cy) (hl : l.stackTraces = false) {L : List Nat} {f : gF} {bk : Nat → Nat} {n : Nat} {X : Nat → va_E} {Is : Nat → Option iT} {PR PL : Nat → Nat} {S A : Nat → Nat → Int32} {I : Nat → Int32} (hR : RC cy bk n X Is PR PL S A I L f) (hB9 : rmB n I) (hC9 : pCt n A S) {TG : Nat → Nat} (hTG : vTag A n TG) (x y : Int32) : gX l s0 D yX5_squash cX5_squash 5 (some .int) 8 8 54 [.ref (bk 0), .int x, .int y] L f (uQ cy (bk 0) (fun b A1 I1 => ∃ w, cd3 (sqC1 PL TG x y) (sqC2 TG n x) w ∧ (w ≠ 0 → A1 = A ∧ I1 = va_up I 27 (nI w)) ∧ (w = 0 → ∃ i k z j, i < 5 ∧ x = nI i ∧ TG i = k + 1 ∧ y = nI z ∧ 0 < z ∧ z < PL k + 1 ∧ n < 400 ∧ j < n ∧ PL j + 1 = z ∧ anc PR (k + 1) j ∧ b = nI n ∧ A1 = sqA A n k j i S ∧ I1 = va_up (va_up I 27 (nI 0)) 7 (nI (n + 1))))) (uX [xI, xS] A I (fun b A1 I1 => ∃ w, cd3 (sqC1 PL TG x y) (sqC2 TG n x) w ∧ (w ≠ 0 → A1 = A ∧ I1 = va_up I 27 (nI w)) ∧ (w = 0 → ∃ i k z j, i < 5 ∧ x = nI i ∧ TG i = k + 1 ∧ y = nI z ∧ 0 < z ∧ z < PL k + 1 ∧ n < 400 ∧ j < n ∧ PL j + 1 = z ∧ anc PR (k + 1) j ∧ b = nI n ∧ A1 = sqA A n k j i S ∧ I1 = va_up (va_up I 27 (nI 0)) 7 (nI (n + 1))))) := by
  refine gX.of (own := RX5) hE hl (by decide +kernel) rfl rfl (Nat.le_of_ble_eq_true rfl) (fun p9 e9 s9 m9 a99 b99 t99 c9 C hr hno => ?_)
  refine G.weak (ls' := [some (.ref (bk 0)), some (.int x), some (.int y), none, none]) ?_ rfl (fun _ _ h => h)
  refine g_iload_n (n := 1) C dX5_squash_0 rfl rfl ?_
  refine g_iconst (n := 2) (v := nI 5) C dX5_squash_1 rfl rfl ?_
  refine g_SX (n := 5) (rest := []) C hno (k5_reqIndex hE hl x (N := 5) (by decide)) dX5_squash_2 kM_X5_requireIndex kW_X5_51 kS_X5_requireIndex rfl rfl (Nat.le_of_ble_eq_true rfl) ⟨by decide, by decide⟩ ⟨by decide, by decide⟩ rfl (fun E h => by
      rcases h with ⟨rfl, h9⟩
      intro b A1 I1 hr
      obtain ⟨w, hw, hf, -⟩ := hr
      have e9 : w = 1 := cd3_1 hw (sq_i h9)
      subst e9
      obtain ⟨hA, hI⟩ := hf (by decide)
      exact ⟨1, by decide, by decide, by rw [hI]; rfl, rfl, hA, hI⟩) ⟨by decide, by decide⟩ (fun v9 L9 f9 hq => ?_)
  obtain ⟨rfl, ⟨i, hi, rfl⟩, rfl, rfl⟩ := hq
  refine G.sk (st' := []) rfl ?_
  have hco := hR.co
  obtain ⟨gt, hta, hgt⟩ := hR.ta
  obtain ⟨hI7, hn9, hPR, hSh, hPL, hPb, hLv⟩ := hR.nv
  obtain ⟨htg1, htg2⟩ := hR.tg hTG hgt hi
  have hTn := (hTG i hi).1
  refine g_aload_n (n := 6) C dX5_squash_5 rfl (Or.inr ⟨_, rfl⟩) rfl ?_
  refine g_get (n := 9) C dX5_squash_6 kF_X5_26 (by assumption) rfl rfl ?_
  refine g_iload_n (n := 10) C dX5_squash_9 rfl rfl ?_
  refine g_aald (n := 11) (t := 5) C dX5_squash_10 rfl rfl (by assumption) rfl (by omega) (by decide) rfl ?_
  rw [htg1]
  refine g_astore_n (n := 12) (ls' := [_, _, _, _, _]) C dX5_squash_11 (rf_or _) rfl (by decide) rfl ?_
  refine g_iload_n (n := 13) C dX5_squash_12 rfl rfl ?_
  refine g_iconst (n := 14) (v := nI 1) C dX5_squash_13 rfl rfl ?_
  refine g_icmp_lt (n := 17) (tgt := 29) C dX5_squash_14 (by decide) rfl (fun h14 => ?_) (fun h14 => ?_)
  · have hbad : ¬ sqC1 PL TG (nI i) y := sq_lo h14
    exact g_throw (cls := xI) (text := "the image has no such place") (names := xNm) C hno (by decide +kernel) xNm_ok (List.mem_of_getElem? (i := 178) (by decide +kernel)) (List.mem_of_getElem? (i := 57) (by decide +kernel)) (List.mem_of_getElem? (i := 616) (by decide +kernel)) hat_X5_199 dX5_squash_29 dX5_squash_32 dX5_squash_33 dX5_squash_35 dX5_squash_38 ⟨by decide, by decide, by decide, by decide⟩ (by
      intro b A1 I1 hr
      obtain ⟨w, hw, hf, -⟩ := hr
      have e9 := cd3_1 hw hbad
      subst e9
      obtain ⟨hA, hI⟩ := hf (by decide)
      exact ⟨1, by decide, by decide, by rw [hI]; rfl, rfl, hA, hI⟩) ⟨by decide, by decide⟩
  · obtain ⟨z, rfl, hz0, hz9⟩ := pos_of h14
    refine g_aload_n (n := 18) C dX5_squash_17 rfl (rf_or _) rfl ?_
    refine g_ifnull (n := 21) (tgt := 39) C dX5_squash_18 (by decide) rfl (fun h18 => ?_) (fun a18 h18 => ?_)
    · have h0 := pR_none h18
      have hc1 : sqC1 PL TG (nI i) (nI z) := sq_ok hi hz0 hz9 (fun k hk => by rw [h0] at hk; cases hk)
      refine g_aload_n (n := 40) C dX5_squash_39 rfl (rf_or _) rfl ?_
      refine g_ifnonnull (n := 43) (tgt := 53) C dX5_squash_40 (by decide) rfl (fun a40 h40 => absurd h40 (by rw [h0]; exact nofun)) (fun h40 => ?_)
      exact g_throw (cls := xS) (text := "the tag stands for no layer") (names := xNm) C hno (by decide +kernel) xNm_ok (List.mem_of_getElem? (i := 307) (by decide +kernel)) (List.mem_of_getElem? (i := 59) (by decide +kernel)) (List.mem_of_getElem? (i := 617) (by decide +kernel)) hat_X5_118 dX5_squash_43 dX5_squash_46 dX5_squash_47 dX5_squash_49 dX5_squash_52 ⟨by decide, by decide, by decide, by decide⟩ (by
        intro b A1 I1 hr
        obtain ⟨w, hw, hf, -⟩ := hr
        have e9 := cd3_2 hw hc1 (sq_no hi h0)
        subst e9
        obtain ⟨hA, hI⟩ := hf (by decide)
        exact ⟨2, by decide, by decide, by rw [hI]; rfl, rfl, hA, hI⟩) ⟨by decide, by decide⟩
    · obtain ⟨k, hTk, rfl⟩ := pR_some h18
      obtain ⟨hk, h8⟩ := htg2 k hTk
      obtain ⟨hfk, sfk, vfk, mfk, ipk, hLk, hhk, hsk5, hvk, -⟩ := hR.lk hk
      have hPk := hPb k hk
      rw [hTk]
      rw [show pR bk (k + 1) = some (bk (100 + 4 * k)) from rfl]
      refine g_iload_n (n := 22) C dX5_squash_21 rfl rfl ?_
      refine g_aload_n (n := 23) C dX5_squash_22 rfl (rf_or _) rfl ?_
      refine g_get (n := 26) C dX5_squash_23 kF_X5_192 (by assumption) rfl rfl ?_
      refine g_icmp_le (n := 29) (tgt := 39) C dX5_squash_26 (by decide) rfl (fun h26 => ?_) (fun h26 => ?_)
      · have h26 : z ≤ PL k := (nI_leI (by omega) (by omega)).mp h26
        have hc1 : sqC1 PL TG (nI i) (nI z) := sq_ok hi hz0 hz9 (fun k2 hk2 => by rw [hTk] at hk2; have := Nat.succ.inj hk2; subst this; exact h26)
        refine g_aload_n (n := 40) C dX5_squash_39 rfl (rf_or _) rfl ?_
        refine g_ifnonnull (n := 43) (tgt := 53) C dX5_squash_40 (by decide) rfl (fun a40 h40 => ?_) (fun h40 => nomatch h40)
        refine g_aload_n (n := 54) C dX5_squash_53 rfl (Or.inr ⟨_, rfl⟩) rfl ?_
        refine g_VX (n := 57) (rest := []) C hno (k5_reqOpen hE hl hR) dX5_squash_54 kM_X5_requireOpen kW_X5_89 kV_X5_requireOpen hR.co rfl rfl rfl (Nat.le_of_ble_eq_true rfl) ⟨by decide, by decide⟩ ⟨by decide, by decide⟩ rfl (fun E h => by
            rcases h with ⟨rfl, h9⟩
            intro b A1 I1 hr
            obtain ⟨w, hw, hf, -⟩ := hr
            have e9 : w = 2 := cd3_2 hw hc1 (fun z9 => h9 z9.1)
            subst e9
            obtain ⟨hA, hI⟩ := hf (by decide)
            exact ⟨2, by decide, by decide, by rw [hI]; rfl, rfl, hA, hI⟩) ⟨by decide, by decide⟩ (fun v9 L9 f9 hq => ?_)
        obtain ⟨rfl, h400, rfl, rfl⟩ := hq
        obtain ⟨gs, hso, -⟩ := hR.st
        refine G.sk (st' := []) rfl ?_
        refine g_aload_n (n := 58) C dX5_squash_57 rfl (Or.inr ⟨_, rfl⟩) rfl ?_
        refine g_get (n := 61) C dX5_squash_58 kF_X5_33 (by assumption) rfl rfl ?_
        refine g_aload_n (n := 62) C dX5_squash_61 rfl (rf_or _) rfl ?_
        refine g_iload_n (n := 63) C dX5_squash_62 rfl rfl ?_
        refine g_iconst (n := 64) (v := nI 1) C dX5_squash_63 rfl rfl ?_
        refine g_isubN (n := 65) C dX5_squash_64 (by omega) rfl ?_
        refine g_V (n := 68) (rest := [_]) C (k5_partAt hE hl hR hk (z := z - 1) (by omega)) dX5_squash_65 kM_X2_partAt kL_X5_202 kV_X2_partAt hLk rfl rfl rfl (Nat.le_of_ble_eq_true rfl) ⟨by decide, by decide⟩ ⟨by decide, by decide⟩ rfl (fun v9 L9 f9 hq => ?_)
        obtain ⟨⟨j, hjn, rfl, hja, hjz⟩, rfl, rfl⟩ := hq
        have hj1 : PL j + 1 = z := by
          rcases hjz with h | ⟨h, h2⟩
          · omega
          · omega
        have hj8 := anc_live hPR hLv k hk h8 j hja
        refine G.sk (st' := [_, _]) rfl ?_
        refine g_V (n := 71) (rest := []) C (k5_newChild hE hl hR hjn (by omega) (by omega) hj8) dX5_squash_68 kM_X4_newChild kL_X5_205 kV_X4_newChild hso rfl rfl rfl (Nat.le_of_ble_eq_true rfl) ⟨by decide, by decide⟩ ⟨by decide, by decide⟩ rfl (fun v9 L9 f9 hq => ?_)
        obtain ⟨bk1, X1, rfl, hR2, hex⟩ := hq
        rw [← hex.1 (100 + 4 * k) (by omega), ← hex.1 0 (by omega)]
        have hco2 := hR2.co
        obtain ⟨h0, s0f, v0, m0, ip0, hL0, hh0, hs0, hv0, q1, q2, q3, hmk⟩ := hR2.lk (Nat.lt_succ_self n)
        obtain ⟨h5, s5, v5, m5, ip5, hL5, hh5, hs5, hv5, p1, p2, p3, -⟩ := hR2.lk (k := k) (by omega)
        have ap : ∀ {r t i k2 : Nat}, r < 4 → t < 4 → i < n + 1 → k2 < n + 1 → 100 + r + 4 * i ≠ 100 + t + 4 * k2 → bk1 (100 + r + 4 * i) ≠ bk1 (100 + t + 4 * k2) := fun hr ht hi hk h => hR2.1.ap (bw hi hr) (bw hk ht) h
        refine G.sk (st' := [_]) rfl ?_
        refine g_astore (n := 73) (ls' := [_, _, _, _, _]) C dX5_squash_71 (Or.inr ⟨_, rfl⟩) rfl (by decide) rfl ?_
        refine g_aload (n := 75) C dX5_squash_73 rfl (Or.inr ⟨_, rfl⟩) rfl ?_
        refine g_aload_n (n := 76) C dX5_squash_75 rfl (rf_or _) rfl ?_
        refine g_V (n := 79) (rest := []) C (k5_showLike hE hl hL0 hh0 hs0 hv0 hL5 hh5 hs5 hv5 (ap (r := 2) (t := 1) (i := n) (k2 := n) (by decide) (by decide) (by omega) (by omega) (by omega)) (ap (r := 1) (t := 1) (i := k) (k2 := n) (by decide) (by decide) (by omega) (by omega) (by omega)) (ap (r := 2) (t := 2) (i := k) (k2 := n) (by decide) (by decide) (by omega) (by omega) (by omega)) (ap (r := 1) (t := 2) (i := k) (k2 := n) (by decide) (by decide) (by omega) (by omega) (by omega)) (ap (r := 2) (t := 1) (i := k) (k2 := n) (by decide) (by decide) (by omega) (by omega) (by omega)) (ap (r := 3) (t := 3) (i := k) (k2 := n) (by decide) (by decide) (by omega) (by omega) (by omega))) dX5_squash_76 kM_X2_showLike kL_X5_209 kV_X2_showLike hL0 rfl rfl rfl (Nat.le_of_ble_eq_true rfl) ⟨by decide, by decide⟩ ⟨by decide, by decide⟩ rfl (fun v9 L9 f9 hq => ?_)
        obtain ⟨rfl, rfl, g9, rfl, hg9⟩ := hq
        have hsn : ∀ q, q < 12 → s0f q = S j q := fun q hq => by rw [q2 q hq, Sx_n, mkA_10n hq, shw_n1]; rfl
        have hsk : ∀ q, q < 12 → s5 q = S k q := fun q hq => by rw [p2 q hq, Sx_o hk]
        have hsp : ∀ q, spr (Sx S n (fun q => shw (mkA A n (j + 1) 10 (12 * n + q)) (j + 1) S q)) q (j + 1) = spr S q (j + 1) := fun q => spr_x hjn
        have hR3 := hR2.lay (k := n) (A' := sqB A n k j S) rfl sqB_ex.1 sqB_ex.2.1 sqB_ex.2.2.1 sqB_ex.2.2.2 (H := slH s5 h0 s0f 12) (fun q hq => by
          rw [sqB_10 hq]
          unfold slH sqV
          rw [pw_at hq]
          unfold slG
          rw [hsn q hq, hsk q hq, q1 q hq, mkA_10n hq]
          by_cases e : S k q = S j q
          · rw [if_neg (fun z => z e), if_pos e]
          · rw [if_pos e, if_neg e]) (S9 := slS s5 s0f 12) (fun q hq => by
          rw [sqB_10 hq, PRx_n, shw_e (hsp q)]
          unfold slS sqV
          rw [pw_at hq]
          unfold slG
          rw [hsn q hq, hsk q hq]
          by_cases e : S k q = S j q
          · rw [if_neg (fun z => z e), if_pos e, shw_n1]; rfl
          · rw [if_pos e, if_neg e]
            by_cases e2 : S k q = -1
            · rw [if_pos e2]; rfl
            · rw [if_neg e2, shw_sv e2]) (V := g9) (fun q hq => by rw [sqB_11 hq, hg9 q hq, p3 q hq, mkA_11 hk hq]) (m := m0) (ip := ip0) (hmk.c (fun _ _ z => z) (fun r h1 h2 => sqB_12 (Or.inr (by omega))))
        rw [upf_id hL0.2] at hR3
        obtain ⟨gt3, hta3, hgt3⟩ := hR3.ta
        have hco3 := hR3.co
        obtain ⟨h6, s6, v6, m6, ip6, hL6, -⟩ := hR3.lk (Nat.lt_succ_self n)
        refine G.sk (st' := []) rfl ?_
        refine g_aload_n (n := 80) C dX5_squash_79 rfl (Or.inr ⟨_, rfl⟩) rfl ?_
        refine g_get (n := 83) C dX5_squash_80 kF_X5_26 hco3 rfl rfl ?_
        refine g_iload_n (n := 84) C dX5_squash_83 rfl rfl ?_
        refine g_aload (n := 86) C dX5_squash_84 rfl (Or.inr ⟨_, rfl⟩) rfl ?_
        refine g_aast (n := 87) (t := 5) (ci := 2) C dX5_squash_86 rfl rfl hta3 hL6 rfl (by omega) (by decide) rfl ?_
        refine g_aload (n := 89) C dX5_squash_87 rfl (Or.inr ⟨_, rfl⟩) rfl ?_
        refine g_get (n := 92) C dX5_squash_89 kF_X5_103 (hL6.ne (gH.apart hL6 hta3 (fun e => by cases e))) rfl rfl ?_
        refine G.x ?_
        refine g_iret C hr dX5_squash_92 ?_ ⟨by decide, by decide⟩
        intro b A1 I1 hr
        obtain ⟨w, hw, -, hz⟩ := hr
        have e9 := cd3_0 hw hc1 (sq_2 hi h400 (by omega))
        subst e9
        obtain ⟨i2, k2, z2, j2, hi2, f1, f2, f3, f4, f5, f6, f7, f8, f9, f10, f11, f12⟩ := hz rfl
        have d1 := gn_inj (by omega) (by omega) f1
        subst d1
        have d2 : k2 = k := by omega
        subst d2
        have d3 := gn_inj (by omega) (by omega) f3
        subst d3
        have d4 : j2 = j := anc_u hPR hPL hk f9 hja (by omega)
        subst d4
        have hA9 : A1 = mU (sqB A n k2 j2 S) 16 i (nI n) := f11
        have hset := hR3.setT hgt3 rfl (i := i) (x := nI n) (o := some (bk1 (100 + 4 * n))) (Or.inr ⟨n, Nat.lt_succ_self n, rfl, (sqB_12 (Or.inl (by decide))).trans grA_mk.2.2.1, rfl⟩)
        have hIx : ∀ r, r ≠ 27 → I1 r = va_up I 7 (nI (n + 1)) r := by
          intro r hr
          rw [f12]
          by_cases e : r = 7
          · rw [e, va_up_self, va_up_self]
          · rw [va_up_ne _ _ e, va_up_ne _ _ hr, va_up_ne _ _ e]
        have hfin := hset.cg (A' := A1) (fun r q _ => by rw [hA9]) hIx
        refine ⟨by rw [f12]; rfl, by rw [f10], bk1, n + 1, _, Is, _, _, _, rfl, hfin, ?_, ?_⟩
        · intro c2 t2 z1 z2 z3 z4 z5
          omega
        · obtain ⟨p1, p2, p3, p4⟩ := hC9
          rw [hA9]
          refine ⟨fun j hj => by rw [mU_k (by decide), sqB_12 (Or.inl (by decide)), mkA_k (by decide)]; exact p1 j hj, fun j hj => by rw [mU_k (by decide), sqB_12 (Or.inl (by decide)), mkA_k (by decide)]; exact p2 j hj, fun r q hr hq => ?_, fun r q hr hq => ?_⟩
          · by_cases e : r = n
            · rw [e, Sx_n, PRx_n, shw_e (hsp q), sqB_10 hq]
              refine shw_ok ?_ (p3 j2 q hjn hq)
              unfold sqV
              by_cases e : S k2 q = S j2 q
              · rw [if_pos e]; exact Or.inl rfl
              · rw [if_neg e]
                by_cases e2 : S k2 q = -1
                · rw [if_pos e2]; exact Or.inr (Or.inl rfl)
                · rw [if_neg e2]; exact Or.inr (Or.inr (p3 k2 q hk hq))
            · rw [Sx_o (by omega), Sx_o (by omega)]; exact p3 r q (by omega) hq
          · rw [mU_k (by decide)]
            by_cases e : r = n
            · rw [e, sqB_11 hq]; exact p4 k2 q hk hq
            · rw [sqB_ex.2.2.1 r q (by omega) hq, mkA_11 (by omega) hq]; exact p4 r q (by omega) hq
      · have hbad := sq_hi hi hz9 hTk (fun q => h26 ((nI_leI (by omega) (by omega)).mpr q))
        exact g_throw (cls := xI) (text := "the image has no such place") (names := xNm) C hno (by decide +kernel) xNm_ok (List.mem_of_getElem? (i := 178) (by decide +kernel)) (List.mem_of_getElem? (i := 57) (by decide +kernel)) (List.mem_of_getElem? (i := 616) (by decide +kernel)) hat_X5_199 dX5_squash_29 dX5_squash_32 dX5_squash_33 dX5_squash_35 dX5_squash_38 ⟨by decide, by decide, by decide, by decide⟩ (by
          intro b A1 I1 hr
          obtain ⟨w, hw, hf, -⟩ := hr
          have e9 := cd3_1 hw hbad
          subst e9
          obtain ⟨hA, hI⟩ := hf (by decide)
          exact ⟨1, by decide, by decide, by rw [hI]; rfl, rfl, hA, hI⟩) ⟨by decide, by decide⟩

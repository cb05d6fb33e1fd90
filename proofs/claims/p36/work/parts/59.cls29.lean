/-! ===== the class, XXIX: cleanDigest ===== -/
theorem cfP_c {F F2 s s2 : Nat → Int32} {w a : Int32} (hF : ∀ q, q < 8 → F q = F2 q) (hs : ∀ q, q < 12 → s q = s2 q) (h : cfP F s w a) : cfP F2 s2 w a := by
  rcases h with ⟨h1, j, hj, h2, h3⟩ | ⟨h1, q, hq, h2, h3⟩
  · exact Or.inl ⟨h1, j, hj, h2, (hF j hj).symm.trans h3⟩
  · exact Or.inr ⟨h1, q, hq, h2, (hs q hq).symm.trans h3⟩
theorem cl_0 {F c u c1 u1 : Nat → Int32} {what a b : Int32} {w : Nat} (h : clR F c u what a b w c1 u1) (hf : cfP F c what a) : w = 0 := by
  rcases h with ⟨h, -⟩ | ⟨-, h, -⟩
  · exact h
  · exact absurd hf h
theorem cl_1 {F c u c1 u1 : Nat → Int32} {what a b : Int32} {w : Nat} (h : clR F c u what a b w c1 u1) (hf : ¬ cfP F c what a) : w = 1 := by
  rcases h with ⟨-, h, -⟩ | ⟨h, -⟩
  · exact absurd h hf
  · exact h
theorem upd_q {g h : Nat → Int32} {N i : Nat} {x y : Int32} (e : ∀ q, q < N → g q = h q) (hx : x = y) : ∀ q, q < N → upd g i x q = upd h i y q := fun q hq => by
  unfold upd
  by_cases z : q = i
  · rw [if_pos z, if_pos z, hx]
  · rw [if_neg z, if_neg z]; exact e q hq
theorem upd_P {P : Int32 → Prop} {g : Nat → Int32} {N i : Nat} {x : Int32} (e : ∀ q, q < N → P (g q)) (hx : P x) : ∀ q, q < N → P (upd g i x q) := fun q hq => by
  unfold upd
  by_cases z : q = i
  · rw [if_pos z]; exact hx
  · rw [if_neg z]; exact e q hq
theorem sv_c {x : Int32} (h : cOK x) : sv x = x := if_neg (cOK_2 h)
/-- what is shown by the class's draft and by the reference's -/
theorem cl_ca {F c u c1 u1 H S V H1 S1 V1 : Nat → Int32} {what a b x : Int32} (hF : ∀ j, j < 8 → gct (F j)) (hS : ∀ q, q < 12 → S q = c q) (hU : ∀ v, v < 4 → V v = u v) (hk : ∀ q, q < 12 → cOK (S q)) (hg : ∀ v, v < 4 → gin (V v) 1000) (hx : itsC F what a x) (hca : caR what a (if what = nI 3 then -1 else b) x H S V H1 S1 V1) (hcl : clR F c u what a b 1 c1 u1) : (∀ q, q < 12 → S1 q = c1 q) ∧ ∀ v, v < 4 → V1 v = u1 v := by
  rcases hcl with ⟨h, -⟩ | ⟨-, -, hcl⟩
  · exact absurd h (by decide)
  rcases hca with ⟨h, q, hq, e1, rfl, rfl, rfl⟩ | ⟨h, q, v, hq, hv, e1, e2, rfl, rfl, rfl⟩ | ⟨h, q, r, hq, hr, hqr, e1, e2, rfl, rfl, rfl⟩ | ⟨h, q, hq, e1, rfl, rfl, rfl⟩ | ⟨h, v, hv, e1, rfl, rfl, rfl⟩ <;> subst h <;> rcases hcl with ⟨k, j2, q2, hj2, hq2, f1, f2, rfl, rfl⟩ | ⟨k, q2, v2, hq2, hv2, f1, f2, rfl, rfl⟩ | ⟨k, q2, r2, hq2, hr2, hqr2, f1, f2, rfl, rfl⟩ | ⟨k, q2, hq2, f1, rfl, rfl⟩ | ⟨k, v2, hv2, f1, rfl, rfl⟩ <;> first | exact absurd k (by decide) | skip
  · rw [if_neg (by decide)] at e1
    have d1 := gn_inj (by omega) (by omega) (e1.symm.trans f2)
    subst d1
    rcases hx with ⟨-, j, hj, g1, g2⟩ | ⟨g1, -⟩
    · have d2 := gn_inj (by omega) (by omega) (g1.symm.trans f1)
      subst d2
      exact ⟨upd_q hS (by rw [g2]; exact sv_c (gct_ok9 (hF _ hj))), hU⟩
    · exact absurd rfl g1
  · rw [if_neg (by decide)] at e2
    have d1 := gn_inj (by omega) (by omega) (e1.symm.trans f1)
    subst d1
    have d2 := gn_inj (by omega) (by omega) (e2.symm.trans f2)
    subst d2
    refine ⟨upd_q hS ?_, hU⟩
    rw [← hS q hq, ← hU v hv]
    exact sv_c (cOK_n (runV_ok (hk q hq) (hg v hv))).1
  · rw [if_neg (by decide)] at e2
    have d1 := gn_inj (by omega) (by omega) (e1.symm.trans f1)
    subst d1
    have d2 := gn_inj (by omega) (by omega) (e2.symm.trans f2)
    subst d2
    refine ⟨fun p hp => ?_, hU⟩
    unfold upd
    by_cases z : p = q
    · rw [if_pos z, if_neg (fun y => hqr (z.symm.trans y)), if_pos z]; rfl
    · rw [if_neg z, if_neg z]
      by_cases y : p = r
      · rw [if_pos y, if_pos y, ← hS q hq]; exact sv_c (hk q hq)
      · rw [if_neg y, if_neg y]; exact hS p hp
  · have d1 := gn_inj (by omega) (by omega) (e1.symm.trans f1)
    subst d1
    refine ⟨fun p hp => ?_, hU⟩
    unfold upd
    by_cases z : p = q
    · rw [if_pos z, if_pos z]; rfl
    · rw [if_neg z, if_neg z, if_neg z]; exact hS p hp
  · have d1 := gn_inj (by omega) (by omega) (e1.symm.trans f1)
    subst d1
    exact ⟨hS, upd_q hU (if_neg (by decide))⟩
theorem ca_ok {F H S V H1 S1 V1 : Nat → Int32} {what a b x : Int32} (hV : vIns what a b) (hF : ∀ j, j < 8 → gct (F j)) (hk : ∀ q, q < 12 → cOK (S q)) (hg : ∀ v, v < 4 → gin (V v) 1000) (hx : itsC F what a x) (hca : caR what a (if what = nI 3 then -1 else b) x H S V H1 S1 V1) : (∀ q, q < 12 → cOK (S1 q)) ∧ ∀ v, v < 4 → gin (V1 v) 1000 := by
  have m2 : cOK (sv (-2)) := Or.inl rfl
  rcases hca with ⟨h, q, hq, e1, rfl, rfl, rfl⟩ | ⟨h, q, v, hq, hv, e1, e2, rfl, rfl, rfl⟩ | ⟨h, q, r, hq, hr, hqr, e1, e2, rfl, rfl, rfl⟩ | ⟨h, q, hq, e1, rfl, rfl, rfl⟩ | ⟨h, v, hv, e1, rfl, rfl, rfl⟩
  · refine ⟨upd_P (P := cOK) hk ?_, hg⟩
    rcases hx with ⟨-, j, hj, g1, g2⟩ | ⟨g1, -⟩
    · rw [g2, sv_c (gct_ok9 (hF _ hj))]; exact gct_ok9 (hF _ hj)
    · exact absurd h g1
  · have h9 := (cOK_n (runV_ok (hk q hq) (hg v hv))).1
    exact ⟨upd_P hk (by rw [sv_c h9]; exact h9), hg⟩
  · exact ⟨upd_P (upd_P hk (by rw [sv_c (hk q hq)]; exact hk q hq)) m2, hg⟩
  · exact ⟨upd_P hk m2, hg⟩
  · refine ⟨hk, upd_P (P := fun z => gin z 1000) hg ?_⟩
    subst h
    rw [if_neg (by decide)]
    rcases hV with ⟨h, -⟩ | ⟨h, -⟩ | ⟨h, -⟩ | ⟨h, -⟩ | ⟨-, -, h⟩
    · exact absurd h (by decide)
    · exact absurd h (by decide)
    · exact absurd h (by decide)
    · exact absurd h (by decide)
    · exact h
theorem itsC_c {F F2 : Nat → Int32} {k a x : Int32} (hF : ∀ q, q < 8 → F q = F2 q) (h : itsC F k a x) : itsC F2 k a x := by
  rcases h with ⟨h1, j, hj, h2, h3⟩ | h
  · exact Or.inl ⟨h1, j, hj, h2, h3.trans (hF j hj)⟩
  · exact Or.inr h
theorem CW.stc {cy : Nat → ClassId} {L : List Nat} {f : gF} {bk : Nat → Nat} {n : Nat} {X : Nat → va_E} {Is : Nat → Option iT} {PR PL : Nat → Nat} {S A : Nat → Nat → Int32} {I : Nat → Int32} (hR : RC cy bk n X Is PR PL S A I L f) (hB9 : rmB n I) (hC9 : pCt n A S) {c u : Nat → Int32} {x : Int32} : CW cy (bk 0) (stc A c u) (va_up I 27 x) L f := ⟨bk, n, X, Is, PR, PL, S, rfl, hR.cg (fun k j hk => stc_k hk) i27, hB9.cg i27, hC9.cg (fun k j h => stc_k (by omega))⟩
/-- what is left of a clean build -/
def cdT (A : Nat → Nat → Int32) (i b c p : Nat) (S V : Nat → Int32) : Prop := ∀ c0 u0 w1 c1 u1, (∀ q, q < 12 → c0 q = A 1 (12 * b + q)) → (∀ v, v < 4 → u0 v = nI 0) → crunR A i c 0 c0 u0 w1 c1 u1 → ∃ cc uu, (∀ q, q < 12 → S q = cc q) ∧ (∀ v, v < 4 → V v = uu v) ∧ crunR A i (c - p) p cc uu w1 c1 u1
theorem cdT_s {A : Nat → Nat → Int32} {i b c p : Nat} {H S V H1 S1 V1 : Nat → Int32} {x : Int32} (hp : p < c) (h : cdT A i b c p S V) (hF : ∀ j, j < 8 → gct (A 0 j)) (hk : ∀ q, q < 12 → cOK (S q)) (hg : ∀ v, v < 4 → gin (V v) 1000) (hx : itsC (A 0) (A 4 (10 * i + p)) (A 5 (10 * i + p)) x) (hca : caR (A 4 (10 * i + p)) (A 5 (10 * i + p)) (if A 4 (10 * i + p) = nI 3 then -1 else A 6 (10 * i + p)) x H S V H1 S1 V1) (hf : ¬ cfP (A 0) S (A 4 (10 * i + p)) (A 5 (10 * i + p))) : cdT A i b c (p + 1) S1 V1 := by
  intro c0 u0 w1 c1 u1 k1 k2 k3
  obtain ⟨cc, uu, q1, q2, q3⟩ := h c0 u0 w1 c1 u1 k1 k2 k3
  rw [show c - p = (c - (p + 1)) + 1 by omega] at q3
  obtain ⟨w0, c2, u2, r1, r2⟩ := q3
  have hw := cl_1 r1 (fun z => hf (cfP_c (fun _ _ => rfl) (fun q hq => (q1 q hq).symm) z))
  subst hw
  rcases r2 with ⟨r2, -⟩ | ⟨-, r2⟩
  · exact absurd r2 (by decide)
  · obtain ⟨y1, y2⟩ := cl_ca hF q1 q2 hk hg hx hca r1
    exact ⟨c2, u2, y1, y2, r2⟩
theorem cdT_f {A : Nat → Nat → Int32} {i b c p : Nat} {S V : Nat → Int32} (hp : p < c) (h : cdT A i b c p S V) (hf : cfP (A 0) S (A 4 (10 * i + p)) (A 5 (10 * i + p))) : ∀ c0 u0 w1 c1 u1, (∀ q, q < 12 → c0 q = A 1 (12 * b + q)) → (∀ v, v < 4 → u0 v = nI 0) → crunR A i c 0 c0 u0 w1 c1 u1 → w1 = 0 := by
  intro c0 u0 w1 c1 u1 k1 k2 k3
  obtain ⟨cc, uu, q1, q2, q3⟩ := h c0 u0 w1 c1 u1 k1 k2 k3
  rw [show c - p = (c - (p + 1)) + 1 by omega] at q3
  obtain ⟨w0, c2, u2, r1, r2⟩ := q3
  have hw := cl_0 r1 (cfP_c (fun _ _ => rfl) q1 hf)
  subst hw
  rcases r2 with ⟨-, r2, -⟩ | ⟨r2, -⟩
  · exact r2
  · exact absurd r2 (by decide)
theorem k5_cleanDigest {l : Launch} {s0 : State} {D : va_G} {cy : Nat → ClassId} (hE : gE s0 D cy) (hl : l.stackTraces = false) {L : List Nat} {f : gF} {bk : Nat → Nat} {n : Nat} {X : Nat → va_E} {Is : Nat → Option iT} {PR PL : Nat → Nat} {S A : Nat → Nat → Int32} {I : Nat → Int32} (hR : RC cy bk n X Is PR PL S A I L f) (hB9 : rmB n I) (hC9 : pCt n A S) (x : Int32) : gX l s0 D yX5_cleanDigest cX5_cleanDigest 7 (some .int) 8 5 42 [.ref (bk 0), .int x] L f (uQ cy (bk 0) (fun b A1 I1 => ∃ w, cd2 (gin x 4) w ∧ I1 = va_up I 27 (nI w) ∧ (w = 0 → ∃ i b9 m w1 c0 u0 c1 u1, i < 4 ∧ x = nI i ∧ A 2 i = nI b9 ∧ b9 < 3 ∧ A 3 i = nI m ∧ m ≤ 10 ∧ (∀ q, q < 12 → c0 q = A 1 (12 * b9 + q)) ∧ (∀ v, v < 4 → u0 v = nI 0) ∧ crunR A i m 0 c0 u0 w1 c1 u1 ∧ (w1 = 0 ∨ w1 = 1) ∧ b = (if w1 = 0 then -1 else dgF c1 12) ∧ A1 = stc A c1 u1) ∧ (w ≠ 0 → A1 = A))) (uX [xI, xS] A I (fun b A1 I1 => ∃ w, cd2 (gin x 4) w ∧ I1 = va_up I 27 (nI w) ∧ (w = 0 → ∃ i b9 m w1 c0 u0 c1 u1, i < 4 ∧ x = nI i ∧ A 2 i = nI b9 ∧ b9 < 3 ∧ A 3 i = nI m ∧ m ≤ 10 ∧ (∀ q, q < 12 → c0 q = A 1 (12 * b9 + q)) ∧ (∀ v, v < 4 → u0 v = nI 0) ∧ crunR A i m 0 c0 u0 w1 c1 u1 ∧ (w1 = 0 ∨ w1 = 1) ∧ b = (if w1 = 0 then -1 else dgF c1 12) ∧ A1 = stc A c1 u1) ∧ (w ≠ 0 → A1 = A))) := by
  refine gX.of (own := RX5) hE hl (by decide +kernel) rfl rfl (Nat.le_of_ble_eq_true rfl) (fun p9 e9 s9 m9 a99 b99 t99 c9 C hr hno => ?_)
  refine G.weak (ls' := [some (.ref (bk 0)), some (.int x), none, none, none, none, none]) ?_ rfl (fun _ _ h => h)
  refine g_aload_n (n := 1) C dX5_cleanDigest_0 rfl (Or.inr ⟨_, rfl⟩) rfl ?_
  refine g_iload_n (n := 2) C dX5_cleanDigest_1 rfl rfl ?_
  refine g_VX (n := 5) (rest := []) C hno (k5_recipeAt hE hl hR x) dX5_cleanDigest_2 kM_X5_recipeAt kW_X5_59 kV_X5_recipeAt hR.co rfl rfl rfl (Nat.le_of_ble_eq_true rfl) ⟨by decide, by decide⟩ ⟨by decide, by decide⟩ rfl (fun E h => by
      rcases h with ⟨rfl, h9⟩
      intro b A1 I1 hr
      obtain ⟨w, hw, hI, -, hf⟩ := hr
      have e9 : w = 1 := cd2_1 hw h9
      subst e9
      exact ⟨1, by decide, by decide, by rw [hI]; rfl, rfl, hf (by decide), hI⟩) ⟨by decide, by decide⟩ (fun v9 L9 f9 hq => ?_)
  obtain ⟨⟨i, hi, rfl, rfl⟩, rfl, rfl⟩ := hq
  obtain ⟨c, b, g, hc9, hb9, e3, e2, hro, hrw, hg1, hg2⟩ := hR.ri hi
  obtain ⟨B, hB, hBe⟩ := hR.br hb9
  refine G.sk (st' := [_]) rfl ?_
  refine g_astore_n (n := 6) (ls' := [_, _, _, _, _, _, _]) C dX5_cleanDigest_5 (Or.inr ⟨_, rfl⟩) rfl (by decide) rfl ?_
  refine g_new (n := 9) (ci := 2) (fs := D2) C tyX2 dX5_cleanDigest_6 rfl uX2 tyX2_ok hD2 (List.mem_of_getElem? (i := 74) (by decide +kernel)) (List.mem_of_getElem? (i := 406) (by decide +kernel)) (List.mem_of_getElem? (i := 61) (by decide +kernel)) ⟨by decide, by decide⟩ rfl (fun a haL => ?_)
  have hRx := hR.ext (L1 := L ++ [a]) (f1 := va_up f a (.inr (2, D2))) (fun y hy => List.mem_append_left _ hy) (fun y hy => va_up_ne _ _ (fun z => haL (z ▸ hy)))
  have hcox := hRx.co
  refine g_dup (n := 10) C dX5_cleanDigest_9 rfl rfl ?_
  refine g_iconst (n := 11) (v := -1) C dX5_cleanDigest_10 rfl rfl ?_
  refine g_aload_n (n := 12) C dX5_cleanDigest_11 rfl (Or.inr ⟨_, rfl⟩) rfl ?_
  refine g_aload_n (n := 13) C dX5_cleanDigest_12 rfl (Or.inr ⟨_, rfl⟩) rfl ?_
  refine g_get (n := 16) C dX5_cleanDigest_13 kF_X5_92 (hro.push haL) rfl rfl ?_
  refine g_V (n := 19) (rest := [_, _, _]) C (k5_contentsOf hE hl hRx hb9) dX5_cleanDigest_16 kM_X5_contentsOf kL_X5_172 kV_X5_contentsOf hcox rfl rfl rfl (Nat.le_of_ble_eq_true rfl) ⟨by decide, by decide⟩ ⟨by decide, by decide⟩ rfl (fun v9 L9 f9 hq => ?_)
  obtain ⟨rfl, rfl, rfl⟩ := hq
  refine G.sk (st' := [_, _, _, _]) rfl ?_
  refine g_I (n := 22) (rest := [_]) C (k5_layInit hE hl gH.new (hB.push haL) (-1)) dX5_cleanDigest_19 kM_X2_init kL_X5_176 kI_X2_init rfl rfl (Nat.le_of_ble_eq_true rfl) ⟨by decide, by decide⟩ ⟨by decide, by decide⟩ rfl (fun v9 L9 f9 hq => ?_)
  obtain ⟨rfl, h, s, v, H, S9, V, hN, u1, u2, u3⟩ := hq
  refine G.sk (st' := [_]) rfl ?_
  refine g_astore_n (n := 23) (ls' := [_, _, _, _, _, _, _]) C dX5_cleanDigest_22 (Or.inr ⟨_, rfl⟩) rfl (by decide) rfl ?_
  refine g_iconst (n := 24) (v := nI 0) C dX5_cleanDigest_23 rfl rfl ?_
  refine g_istore (n := 26) (ls' := [_, _, _, _, _, _, _]) C dX5_cleanDigest_24 rfl (by decide) rfl ?_
  refine g_loop (α := Nat × (Nat → Int32) × (Nat → Int32) × (Nat → Int32) × Option Value × Option Value) (fun z => z.1 ≤ c ∧ (∀ q, q < 12 → cOK (z.2.2.1 q)) ∧ (∀ v, v < 4 → gin (z.2.2.2.1 v) 1000) ∧ cdT A i b c z.1 z.2.2.1 z.2.2.2.1) (fun z => c - z.1) (fun _ => L9) (fun z => fL cy f9 h s v z.2.1 z.2.2.1 z.2.2.2.1) (fun _ => 5) (fun _ => 42) 26 (fun z => [some (.ref (bk 0)), some (.int (nI i)), some (.ref (bk (11 + 2 * i))), some (.ref a), some (.int (nI z.1)), z.2.2.2.2.1, z.2.2.2.2.2]) (fun _ => []) (fun z hz ih => ?_) (fun J => G.fx (fL_id hN.2.2.1 hN.2.2.2.1 hN.2.2.2.2.1) (J (0, H, S9, V, none, none) ⟨Nat.zero_le _, fun q hq => ?_, fun q hq => ?_, fun c0 u0 w1 c1 u1 k1 k2 k3 => ⟨c0, u0, fun q hq => ?_, fun q hq => ?_, k3⟩⟩))
  rotate_left
  · show cOK (S9 q)
    rw [u2 q hq, hBe q hq]
    exact gct_ok9 (hC9.2.1 _ (by omega))
  · show gin (V q) 1000
    rw [u3 q hq]
    exact ⟨0, by decide, rfl⟩
  · show S9 q = c0 q
    rw [u2 q hq, hBe q hq, k1 q hq]
  · show V q = u0 q
    rw [u3 q hq, k2 q hq]
  obtain ⟨p, H1, S1, V1, o5, o6⟩ := z
  obtain ⟨hp9, hok, hgi, hT⟩ := hz
  dsimp only at hp9 hok hgi hT ih ⊢
  obtain ⟨hN1, hL1, hh1, hs1, hv1, hf1, hf2, hf3, hsh⟩ := hN.fL H1 S1 V1
  have m1 : ∀ y, y ∈ L → y ∈ L9 := fun y hy => hN1.1 y (List.mem_append_left _ hy)
  have m2 : ∀ y, y ∈ L → fL cy f9 h s v H1 S1 V1 y = f y := fun y hy => (hN1.2 y (List.mem_append_left _ hy) (fun z => haL (z ▸ hy))).trans (va_up_ne _ _ (fun z => haL (z ▸ hy)))
  have hR1 := hR.ext m1 m2
  have hco1 := hR1.co
  have hro1 := hro.of (m1 _ hro.1) (m2 _ hro.1)
  have hrw1 := hrw.of (m1 _ hrw.1) (m2 _ hrw.1)
  obtain ⟨F, hfi, hF⟩ := hR1.fi
  refine g_iload (n := 28) C dX5_cleanDigest_26 rfl rfl ?_
  refine g_aload_n (n := 29) C dX5_cleanDigest_28 rfl (Or.inr ⟨_, rfl⟩) rfl ?_
  refine g_get (n := 32) C dX5_cleanDigest_29 kF_X5_63 hro1 rfl rfl ?_
  refine g_icmp_ge (n := 35) (tgt := 88) C dX5_cleanDigest_32 (by decide) rfl (fun h32 => ?_) (fun h32 => ?_)
  · have e9 : p = c := by have := gn_ge h32 (by omega) (by omega); omega
    subst e9
    refine g_aload_n (n := 89) C dX5_cleanDigest_88 rfl (Or.inr ⟨_, rfl⟩) rfl ?_
    refine g_V (n := 92) (rest := []) C (k5_fingerprint hE hl hL1 hh1 hs1 hv1) dX5_cleanDigest_89 kM_X2_fingerprint kL_X5_187 kV_X2_fingerprint hL1 rfl rfl rfl (Nat.le_of_ble_eq_true rfl) ⟨by decide, by decide⟩ ⟨by decide, by decide⟩ rfl (fun v9 L9 f9 hq => ?_)
    obtain ⟨rfl, rfl, rfl⟩ := hq
    refine G.sk (st' := [_]) rfl ?_
    refine G.x ?_
    refine g_iret C hr dX5_cleanDigest_92 ?_ ⟨by decide, by decide⟩
    intro bb A1 I1 hr
    obtain ⟨w, hw, hI, h0, -⟩ := hr
    have e9 := cd2_0 hw ⟨i, hi, rfl⟩
    subst e9
    obtain ⟨i2, b2, m3, w1, c0, u0, c1, u1, hi3, f1, f2, f3, f4, f5, f6, f7, f8, f10, f11, f12⟩ := h0 rfl
    have d1 := gn_inj (by omega) (by omega) f1
    subst d1
    have d2 := gn_inj (by omega) (by omega) (f2.symm.trans e2)
    subst d2
    have d3 := gn_inj (by omega) (by omega) (f4.symm.trans e3)
    subst d3
    obtain ⟨cc, uu, r1, r2, r3⟩ := hT c0 u0 w1 c1 u1 f6 f7 f8
    rw [Nat.sub_self] at r3
    obtain ⟨r4, r5, r6⟩ := r3
    subst r4
    subst r5
    have hval : (some (.int (dgF S1 12)) : Option Value) = some (.int bb) := by rw [f11, if_neg (by decide), dgF_c r1 12 (Nat.le_refl _)]
    rw [hI, f12]
    exact ⟨rfl, hval, CW.stc hR1 hB9 hC9⟩
  · have hi2 : p < c := gn_gt h32 (by omega) (by omega)
    obtain ⟨v7, hv7, hins⟩ := hg2 p hi2
    have hic := hR1.ic hins.1
    refine g_aload_n (n := 36) C dX5_cleanDigest_35 rfl (Or.inr ⟨_, rfl⟩) rfl ?_
    refine g_iload (n := 38) C dX5_cleanDigest_36 rfl rfl ?_
    refine g_V (n := 41) (rest := []) C (k5_at hE hl hro1 hrw1 (p := p) (by omega)) dX5_cleanDigest_38 kM_X3_at kL_X5_179 kV_X3_at hro1 rfl rfl rfl (Nat.le_of_ble_eq_true rfl) ⟨by decide, by decide⟩ ⟨by decide, by decide⟩ rfl (fun v9 L9 f9 hq => ?_)
    obtain ⟨rfl, rfl, rfl⟩ := hq
    refine G.sk (st' := [_]) rfl ?_
    rw [hv7]
    refine g_astore (n := 43) (ls' := [_, _, _, _, _, _, _]) C dX5_cleanDigest_41 (rf_or _) rfl (by decide) rfl ?_
    refine g_aload (n := 45) C dX5_cleanDigest_43 rfl (rf_or _) rfl ?_
    refine g_ifnonnull (o := some v7) (n := 48) (tgt := 50) C dX5_cleanDigest_45 (by decide) rfl (fun a45 h45 => ?_) (fun h45 => nomatch h45)
    refine g_aload (n := 52) C dX5_cleanDigest_50 rfl (rf_or _) rfl ?_
    refine g_aload_n (n := 53) C dX5_cleanDigest_52 rfl (Or.inr ⟨_, rfl⟩) rfl ?_
    refine g_get (n := 56) C dX5_cleanDigest_53 kF_X5_9 hco1 rfl rfl ?_
    refine g_V (n := 59) (rest := []) C (k5_inputFrom hE hl hic hfi (fun e => vIns_8 hins.2.1 e)) dX5_cleanDigest_56 kM_X1_inputFrom kL_X5_119 kV_X1_inputFrom hic rfl rfl rfl (Nat.le_of_ble_eq_true rfl) ⟨by decide, by decide⟩ ⟨by decide, by decide⟩ rfl (fun v9 L9 f9 hq => ?_)
    obtain ⟨⟨x, rfl, hx⟩, rfl, rfl⟩ := hq
    refine G.sk (st' := [_]) rfl ?_
    refine g_istore (n := 61) (ls' := [_, _, _, _, _, _, _]) C dX5_cleanDigest_59 rfl (by decide) rfl ?_
    refine g_aload (n := 63) C dX5_cleanDigest_61 rfl (rf_or _) rfl ?_
    refine g_aload_n (n := 64) C dX5_cleanDigest_63 rfl (Or.inr ⟨_, rfl⟩) rfl ?_
    refine g_iload (n := 66) C dX5_cleanDigest_64 rfl rfl ?_
    refine g_V (n := 69) (rest := []) C (k5_failsOn hE hl hic hL1 hh1 hs1 hv1 (vIns_c hins.2.1) hx) dX5_cleanDigest_66 kM_X1_failsOn kL_X5_125 kV_X1_failsOn hic rfl rfl rfl (Nat.le_of_ble_eq_true rfl) ⟨by decide, by decide⟩ ⟨by decide, by decide⟩ rfl (fun v9 L9 f9 hq => ?_)
    obtain ⟨⟨w8, rfl, hw8⟩, rfl, rfl⟩ := hq
    refine G.sk (st' := [_]) rfl ?_
    refine g_if_eq (n := 72) (tgt := 74) C dX5_cleanDigest_69 (by decide) rfl (fun h69 => ?_) (fun h69 => ?_)
    · have hnf : ¬ cfP (A 0) S1 (A 4 (10 * i + p)) (A 5 (10 * i + p)) := fun z => cdb_f hw8 h69 (cfP_c (fun q hq => (hF q hq).symm) (fun _ _ => rfl) z)
      refine g_aload (n := 76) C dX5_cleanDigest_74 rfl (rf_or _) rfl ?_
      refine g_aload_n (n := 77) C dX5_cleanDigest_76 rfl (Or.inr ⟨_, rfl⟩) rfl ?_
      refine g_iload (n := 79) C dX5_cleanDigest_77 rfl rfl ?_
      refine g_V (n := 82) (rest := []) C (k5_carryOut hE hl hic hL1 hh1 hs1 hv1 hsh (vIns_c hins.2.1) x) dX5_cleanDigest_79 kM_X1_carryOut kL_X5_183 kV_X1_carryOut hic rfl rfl rfl (Nat.le_of_ble_eq_true rfl) ⟨by decide, by decide⟩ ⟨by decide, by decide⟩ rfl (fun v9 L9 f9 hq => ?_)
      obtain ⟨rfl, rfl, H2, S2, V2, rfl, hca⟩ := hq
      refine G.sk (st' := []) rfl ?_
      refine g_iinc (n := 85) (ls' := [_, _, _, _, _, _, _]) C dX5_cleanDigest_82 rfl (nI_1 _) rfl (by decide) rfl ?_
      refine g_goto (tgt := 26) C dX5_cleanDigest_85 (by decide) ?_
      rw [fL_fL hsh (gH.apart hh1 hv1 (fun e => by cases e)) (gH.apart hs1 hv1 (fun e => by cases e))]
      obtain ⟨y1, y2⟩ := ca_ok hins.2.1 hC9.1 hok hgi (itsC_c hF hx) hca
      exact ih (p + 1, H2, S2, V2, _, _) ⟨hi2, y1, y2, cdT_s hi2 hT hC9.1 hok hgi (itsC_c hF hx) hca hnf⟩ (by show c - (p + 1) < c - p; omega)
    · have hfa : cfP (A 0) S1 (A 4 (10 * i + p)) (A 5 (10 * i + p)) := cfP_c hF (fun _ _ => rfl) (cdb_t hw8 h69)
      refine g_iconst (n := 73) (v := -1) C dX5_cleanDigest_72 rfl rfl ?_
      refine G.x ?_
      refine g_iret C hr dX5_cleanDigest_73 ?_ ⟨by decide, by decide⟩
      intro bb A1 I1 hr
      obtain ⟨w, hw, hI, h0, -⟩ := hr
      have e9 := cd2_0 hw ⟨i, hi, rfl⟩
      subst e9
      obtain ⟨i2, b2, m3, w1, c0, u0, c1, u1, hi3, f1, f2, f3, f4, f5, f6, f7, f8, f10, f11, f12⟩ := h0 rfl
      have d1 := gn_inj (by omega) (by omega) f1
      subst d1
      have d2 := gn_inj (by omega) (by omega) (f2.symm.trans e2)
      subst d2
      have d3 := gn_inj (by omega) (by omega) (f4.symm.trans e3)
      subst d3
      have hw1 := cdT_f hi2 hT hfa c0 u0 w1 c1 u1 f6 f7 f8
      have hval : (some (.int (-1)) : Option Value) = some (.int bb) := by rw [f11, if_pos hw1]
      rw [hI, f12]
      exact ⟨rfl, hval, CW.stc hR1 hB9 hC9⟩

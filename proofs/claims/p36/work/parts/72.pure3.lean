/-! ===== what the property stands on, III: a clean build; a build, and the same once more ===== -/
theorem cl_ex {F c u : Nat → Int32} {w a b : Int32} (hv : vIns w a b) (hf : ¬ cfP F c w a) : ∃ c1 u1 : Nat → Int32, clR F c u w a b 1 c1 u1 ∧ ∀ its, (w = nI 0 → ∃ j, j < 8 ∧ a = nI j ∧ its = F j) → car its c u w a b c1 u1 := by
  rcases id hv with ⟨e, ⟨j, hj, ea⟩, ⟨q, hq, eb⟩⟩ | ⟨e, ⟨q, hq, ea⟩, ⟨v, hv4, eb⟩⟩ | ⟨e, ⟨q, hq, ea⟩, ⟨r, hr, eb⟩, hne⟩ | ⟨e, ⟨q, hq, ea⟩⟩ | ⟨e, ⟨v, hv4, ea⟩, hb⟩
  · refine ⟨upd c q (F j), u, Or.inr ⟨rfl, hf, Or.inl ⟨e, j, q, hj, hq, ea, eb, rfl, rfl⟩⟩, fun its hi => Or.inl ⟨e, q, hq, eb, fun p hp => ?_, fun _ _ => rfl⟩⟩
    obtain ⟨j2, hj2, e2, e3⟩ := hi e
    have ej : j2 = j := gn_inj (by omega) (by omega) (e2.symm.trans ea)
    rw [e3, ej]
    rfl
  · exact ⟨upd c q (runV (c q) (u v)), u, Or.inr ⟨rfl, hf, Or.inr (Or.inl ⟨e, q, v, hq, hv4, ea, eb, rfl, rfl⟩)⟩, fun its hi => Or.inr (Or.inl ⟨e, q, v, hq, hv4, ea, eb, fun p hp => rfl, fun _ _ => rfl⟩)⟩
  · have hqr : q ≠ r := fun z => hne (by rw [ea, eb, z])
    refine ⟨upd (upd c q (-1)) r (c q), u, Or.inr ⟨rfl, hf, Or.inr (Or.inr (Or.inl ⟨e, q, r, hq, hr, hqr, ea, eb, rfl, rfl⟩))⟩, fun its hi => Or.inr (Or.inr (Or.inl ⟨e, q, r, hq, hr, hqr, ea, eb, fun p hp => ?_, fun _ _ => rfl⟩))⟩
    unfold upd
    by_cases e1 : p = q
    · rw [if_pos e1, if_neg (by omega), if_pos e1]
    · rw [if_neg e1, if_neg e1]
  · refine ⟨upd (upd c q (-1)) q (-1), u, Or.inr ⟨rfl, hf, Or.inr (Or.inr (Or.inr (Or.inl ⟨e, q, hq, ea, rfl, rfl⟩)))⟩, fun its hi => Or.inr (Or.inr (Or.inr (Or.inl ⟨e, q, hq, ea, fun p hp => ?_, fun _ _ => rfl⟩)))⟩
    unfold upd
    by_cases e1 : p = q
    · rw [if_pos e1, if_pos e1]
    · rw [if_neg e1, if_neg e1]
  · exact ⟨c, upd u v b, Or.inr ⟨rfl, hf, Or.inr (Or.inr (Or.inr (Or.inr ⟨e, v, hv4, ea, rfl, rfl⟩)))⟩, fun its hi => Or.inr (Or.inr (Or.inr (Or.inr ⟨e, v, hv4, ea, fun _ _ => rfl, fun _ _ => rfl⟩)))⟩
theorem cfP_c9 {A S : Nat → Nat → Int32} {k : Nat} {c : Nat → Int32} {w a : Int32} (hc : ∀ p, p < 12 → c p = S k p) : cfP (A 0) c w a ↔ failP A S k w a := by
  unfold cfP failP
  constructor
  · rintro (h | ⟨h, q, hq, e, z⟩)
    · exact Or.inl h
    · exact Or.inr ⟨h, q, hq, e, by rw [← hc q hq]; exact z⟩
  · rintro (h | ⟨h, q, hq, e, z⟩)
    · exact Or.inl h
    · exact Or.inr ⟨h, q, hq, e, by rw [hc q hq]; exact z⟩
theorem clean_ex {n : Nat} {PR : Nat → Nat} {S A : Nat → Nat → Int32} {i m : Nat} (hrow : ∀ p, p < m → A 21 p = A 4 (10 * i + p) ∧ A 22 p = A 5 (10 * i + p) ∧ A 23 p = A 6 (10 * i + p)) (hv : ∀ p, p < m → vIns (A 21 p) (A 22 p) (A 23 p)) (hca : vCA A n PR S) {K : Nat → Nat} {e : Nat} (he : e ≤ m) : ∀ (s d : Nat) (c u : Nat → Int32), d + s = m → d ≤ e → pth A S PR n K d e → (∀ p, p < 12 → c p = S (K d) p) → (∀ v, v < 4 → u v = vsA A (K d) v) →
    (e < m → failP A S (K e) (A 21 e) (A 22 e) → ∃ c1 u1 : Nat → Int32, crunR A i s d c u 0 c1 u1) ∧ (e = m → ∃ c1 u1 : Nat → Int32, crunR A i s d c u 1 c1 u1 ∧ ∀ p, p < 12 → c1 p = S (K m) p)
  | 0, d, c, u, hd, hde, hp, hc, hu => ⟨fun h => by omega, fun h => ⟨c, u, ⟨rfl, rfl, rfl⟩, fun p hp => by rw [hc p hp, show m = d by omega]⟩⟩
  | s + 1, d, c, u, hd, hde, hp, hc, hu => by
    obtain ⟨r1, r2, r3⟩ := hrow d (by omega)
    by_cases ed : d = e
    · refine ⟨fun h hf => ⟨c, u, 0, c, u, Or.inl ⟨rfl, ?_, rfl, rfl⟩, Or.inl ⟨rfl, rfl, rfl, rfl⟩⟩, fun h => by omega⟩
      rw [← ed, r1, r2] at hf
      exact (cfP_c9 hc).mpr hf
    · obtain ⟨hnf, hpr, its, hi, hfn⟩ := hp.2 d (Nat.le_refl _) (by omega)
      have hvd := hv d (by omega)
      obtain ⟨c1, u1, hcl, hcar⟩ := cl_ex (F := A 0) (c := c) (u := u) hvd (fun z => hnf ((cfP_c9 hc).mp z))
      have h1 : car its c u (A 21 d) (A 22 d) (A 23 d) c1 u1 := hcar its (fun e0 => by
        rcases hi with ⟨-, z⟩ | ⟨z, -⟩
        · exact z
        · exact absurd e0 z)
      obtain ⟨⟨m8, m12, m9, m13, m14, m15⟩, -⟩ := hfn
      have hk1 := (hp.1 (d + 1) (by omega) (by omega)).1
      obtain ⟨j, hj, hm9⟩ := hca (K (d + 1)) hk1 (by rw [m12]; exact vIns_n9 hvd)
      have ej : j = K d := by omega
      subst ej
      unfold mkd at hm9
      rw [m12, m13, m14, m15] at hm9
      obtain ⟨g1, g2⟩ := car_u hm9 h1 (fun _ => rfl) (fun p hp => hc p hp) (fun v hv => hu v hv)
      obtain ⟨i1, i2⟩ := clean_ex hrow hv hca he s (d + 1) c1 u1 (by omega) (by omega) ⟨fun t h1 h2 => hp.1 t (by omega) h2, fun t h1 h2 => hp.2 t (by omega) h2⟩ g1 g2
      rw [r1, r2, r3] at hcl
      refine ⟨fun h hf => ?_, fun h => ?_⟩
      · obtain ⟨c2, u2, h2⟩ := i1 h hf
        exact ⟨c2, u2, 1, c1, u1, hcl, Or.inr ⟨rfl, h2⟩⟩
      · obtain ⟨c2, u2, h2, h3⟩ := i2 h
        exact ⟨c2, u2, ⟨1, c1, u1, hcl, Or.inr ⟨rfl, h2⟩⟩, h3⟩
theorem crunR_cg {A A' : Nat → Nat → Int32} {i : Nat} (h0 : A' 0 = A 0) (h4 : A' 4 = A 4) (h5 : A' 5 = A 5) (h6 : A' 6 = A 6) : ∀ (s p : Nat) (c u : Nat → Int32) (w : Nat) (c1 u1 : Nat → Int32), crunR A i s p c u w c1 u1 → crunR A' i s p c u w c1 u1
  | 0, _, _, _, _, _, _, h => h
  | s + 1, p, c, u, w, c1, u1, h => by
    obtain ⟨w0, c0, u0, hcl, hh⟩ := h
    refine ⟨w0, c0, u0, by rw [h0, h4, h5, h6]; exact hcl, hh.imp id (fun ⟨a, b⟩ => ⟨a, crunR_cg h0 h4 h5 h6 s (p + 1) c0 u0 w c1 u1 b⟩)⟩
theorem pth_pl {A S : Nat → Nat → Int32} {PR PL : Nat → Nat} {n : Nat} {K : Nat → Nat} {e : Nat} (hp : pth A S PR n K 0 e) (hl : vPL n PR PL) (h0 : PL (K 0) = 0) : ∀ t, t ≤ e → PL (K t) = t
  | 0, _ => h0
  | t + 1, ht => by
    rw [hl _ (hp.1 (t + 1) (by omega) ht).1, (hp.2 t (by omega) (by omega)).2.1]
    show PL (K t) + 1 = t + 1
    rw [pth_pl hp hl h0 t (by omega)]
theorem begA_r {A1 A : Nat → Nat → Int32} {i m p : Nat} (h : p < m) : begA A1 A i m 21 p = A 4 (10 * i + p) ∧ begA A1 A i m 22 p = A 5 (10 * i + p) ∧ begA A1 A i m 23 p = A 6 (10 * i + p) := by
  refine ⟨if_pos ⟨rfl, h⟩, ?_, ?_⟩
  · exact (if_neg (by omega)).trans (if_pos ⟨rfl, h⟩)
  · exact (if_neg (by omega)).trans ((if_neg (by omega)).trans (if_pos ⟨rfl, h⟩))
theorem begA_id {A : Nat → Nat → Int32} {i m : Nat} (h : ∀ p, p < m → A 21 p = A 4 (10 * i + p) ∧ A 22 p = A 5 (10 * i + p) ∧ A 23 p = A 6 (10 * i + p)) : begA A A i m = A := by
  funext k j
  unfold begA
  by_cases h1 : k = 21 ∧ j < m
  · rw [if_pos h1, h1.1]; exact (h j h1.2).1.symm
  · rw [if_neg h1]
    by_cases h2 : k = 22 ∧ j < m
    · rw [if_pos h2, h2.1]; exact (h j h2.2).2.1.symm
    · rw [if_neg h2]
      by_cases h3 : k = 23 ∧ j < m
      · rw [if_pos h3, h3.1]; exact (h j h3.2).2.2.symm
      · rw [if_neg h3]
/-- what a build leaves -/
def bldQ (A : Nat → Nat → Int32) (I : Nat → Int32) (n : Nat) (PR PL : Nat → Nat) (S : Nat → Nat → Int32) (i b9 m : Nat) (b : Int32) (A1 : Nat → Nat → Int32) (I1 : Nat → Int32) (n1 : Nat) (PR1 PL1 : Nat → Nat) (S1 : Nat → Nat → Int32) (K : Nat → Nat) (e : Nat) : Prop :=
  WF n1 PR1 PL1 S1 A1 ∧ XT n PR PL S A n1 PR1 PL1 S1 A1 ∧ n1 ≤ n + (m + 1) ∧ (∀ k j, k < 8 ∨ (15 < k ∧ k < 21) → A1 k j = A k j) ∧ (∀ p, p < m → A1 21 p = A1 4 (10 * i + p) ∧ A1 22 p = A1 5 (10 * i + p) ∧ A1 23 p = A1 6 (10 * i + p)) ∧ I1 27 = nI 0 ∧ I1 7 = nI n1 ∧ I1 17 = nI 0 ∧ I1 25 + I1 26 = I 25 + I 26 + nI e ∧ rfd A1 b9 (K 0) ∧ PR1 (K 0) = 0 ∧ e ≤ m ∧ pth A1 S1 PR1 n1 K 0 e ∧ (∀ t, t ≤ e → PL1 (K t) = t) ∧
  ((e < m ∧ b = -1 ∧ I1 18 = nI 0) ∨ (e = m ∧ b = nI (K m) ∧ I1 18 = nI 1 ∧ I1 24 = nI (K m)))
theorem bld_ex {n : Nat} {PR PL : Nat → Nat} {S A : Nat → Nat → Int32} {I : Nat → Int32} (hw : WF n PR PL S A) (hn : n < 400) (h17 : I 17 = nI 0) {i b9 m : Nat} (hi : i < 4) (h2 : A 2 i = nI b9) (hb : b9 < 3) (h3 : A 3 i = nI m) (hm : m ≤ 10) (hv : ∀ p, p < m → vIns (A 4 (10 * i + p)) (A 5 (10 * i + p)) (A 6 (10 * i + p))) :
    ∃ (b : Int32) (A1 : Nat → Nat → Int32) (I1 : Nat → Int32) (n1 : Nat) (PR1 PL1 : Nat → Nat) (S1 : Nat → Nat → Int32) (K : Nat → Nat) (e : Nat), bdR A I n (nI i) b A1 I1 ∧ bldQ A I n PR PL S i b9 m b A1 I1 n1 PR1 PL1 S1 K e ∧
      ∃ (w1 : Nat) (c0 u0 c1 u1 : Nat → Int32), (∀ q, q < 12 → c0 q = A 1 (12 * b9 + q)) ∧ (∀ v, v < 4 → u0 v = nI 0) ∧ crunR A i m 0 c0 u0 w1 c1 u1 ∧ ((e < m ∧ w1 = 0) ∨ (e = m ∧ w1 = 1 ∧ ∀ p, p < 12 → c1 p = S1 (K m) p)) := by
  obtain ⟨k1, n1, A2, PR1, PL1, S1, hr, hw1, hx1, hn1, hk1, hrf, hfr, hp0, hl0⟩ := root_ex hw (by omega) hb
  have hr8 : A2 8 k1 = 0 := hrf.1.1.1
  -- the build begins
  have hag : agr A2 (begA A2 A i m) n1 := agr.of (fun k j h1 h2 => begA_k (by omega) (by omega) (by omega))
  have hbk : ∀ k j, k < 21 → begA A2 A i m k j = A2 k j := fun k j hk => begA_k (by omega) (by omega) (by omega)
  have hw2 : WF n1 PR1 PL1 S1 (begA A2 A i m) := hw1.ag hag.w (fun k j hk => hbk k j (by omega))
  have hx2 := hx1.tr (XT.ag hag)
  obtain ⟨b, A3, I3, n3, PR3, PL3, S3, K, e, hrun, q1, q2, q3, q4, q5, q6, q7, q8, q9, q10, q11, q12, q13⟩ := run_ex m hm m 0 k1 n1 PR1 PL1 S1 (begA A2 A i m) (IVf (va_up I 27 (nI 0)) n1 (nI (if m = 0 then 0 else 1)) (nI (if m = 0 then 1 else 0)) (nI m) (nI 0) (nI k1) (I 25) (I 26)) (by omega) hw2 (by omega) hk1 (by rw [hbk 8 k1 (by decide)]; exact hr8) hl0 (fun p hp => by rw [(begA_r hp).1, (begA_r hp).2.1, (begA_r hp).2.2]; exact hv p hp) (fun z => ⟨rfl, by show nI (if m = 0 then 0 else 1) = nI 0; rw [if_pos z], by show nI (if m = 0 then 1 else 0) = nI 1; rw [if_pos z], rfl⟩)
  have hf : ∀ k j, k < 8 ∨ (15 < k ∧ k < 21) → A3 k j = A k j := fun k j hk => (q4 k j (by omega)).trans ((hbk k j (by omega)).trans (hfr k j (by omega)))
  have hrow : ∀ p, p < m → A3 21 p = A3 4 (10 * i + p) ∧ A3 22 p = A3 5 (10 * i + p) ∧ A3 23 p = A3 6 (10 * i + p) := fun p hp => by
    rw [q4 21 p (by omega), q4 22 p (by omega), q4 23 p (by omega), hf 4 _ (by omega), hf 5 _ (by omega), hf 6 _ (by omega)]
    exact begA_r hp
  have h11 : ∀ q, A3 1 q = A2 1 q := fun q => (q4 1 q (by omega)).trans (hbk 1 q (by omega))
  have hrf3 : rfd A3 b9 (K 0) := by
    rw [q9]
    exact rfd_ag hrf (hag.tr q2.2.1 (Nat.le_refl _)) h11 hk1
  have hpr3 : PR3 (K 0) = 0 := by
    rw [q9, q2.2.2.1 k1 hk1]; exact hp0
  have hpl3 : PL3 (K 0) = 0 := by
    rw [q9, q2.2.2.2.1 k1 hk1]; exact hl0
  obtain ⟨v0, v1, v2, v3, v4, ⟨p1, p2, p3, p4⟩, ⟨i1, i2, i3⟩⟩ := id q1
  have hK0 := (q12.1 0 (Nat.le_refl _) q10).1
  have hS0 : ∀ q, q < 12 → S3 (K 0) q = A3 1 (12 * b9 + q) := fun q hq => by
    rw [v2 (K 0) q hK0 hq, hpr3, hrf3.1.2 q hq]
    exact shw_0 (gct_2 (p2 _ (by omega)))
  have hV0 : ∀ v, v < 4 → vsA A3 (K 0) v = nI 0 := fun v hv => (i2 (K 0) hK0 hpr3).2 v hv
  obtain ⟨c1, c2⟩ := clean_ex hrow (fun p hp => by
    obtain ⟨e1, e2, e3⟩ := hrow p hp
    rw [e1, e2, e3, hf 4 _ (by omega), hf 5 _ (by omega), hf 6 _ (by omega)]
    exact hv p hp) i3 q11 m 0 (fun q => A3 1 (12 * b9 + q)) (fun _ => nI 0) (by omega) q10 q12 (fun p hp => (hS0 p hp).symm) (fun v hv => (hV0 v hv).symm)
  have hback : ∀ (w : Nat) (x y : Nat → Int32), crunR A3 i m 0 (fun q => A3 1 (12 * b9 + q)) (fun _ => nI 0) w x y → crunR A i m 0 (fun q => A3 1 (12 * b9 + q)) (fun _ => nI 0) w x y := fun w x y h => crunR_cg (funext fun j => (hf 0 j (by omega)).symm) (funext fun j => (hf 4 j (by omega)).symm) (funext fun j => (hf 5 j (by omega)).symm) (funext fun j => (hf 6 j (by omega)).symm) m 0 _ _ w x y h
  refine ⟨b, A3, I3, n3, PR3, PL3, S3, K, e, ⟨0, Or.inr (Or.inr ⟨rfl, ⟨i, hi, rfl⟩, h17, hn⟩), fun z => absurd rfl z, fun _ => ⟨i, b9, m, k1, n1, A2, _, hi, rfl, h2, hb, h3, hm, hr, iV_f, rfl, hrun⟩⟩, ⟨q1, hx2.tr q2, by omega, hf, hrow, q5, q6, q7, by rw [q8, Nat.sub_zero]; rfl, hrf3, hpr3, q11, q12, pth_pl q12 v3 hpl3, ?_⟩, ?_⟩
  · rcases q13 with ⟨z1, z2, z3, z4⟩ | z
    · exact Or.inl ⟨z1, z3, z4⟩
    · exact Or.inr z
  · rcases q13 with ⟨z1, z2, z3, z4⟩ | ⟨z1, -⟩
    · obtain ⟨x, y, hxy⟩ := c1 z1 z2
      exact ⟨0, _, _, x, y, fun q hq => hf 1 _ (by omega), fun _ _ => rfl, hback _ _ _ hxy, Or.inl ⟨z1, rfl⟩⟩
    · obtain ⟨x, y, hxy, hs⟩ := c2 z1
      exact ⟨1, _, _, x, y, fun q hq => hf 1 _ (by omega), fun _ _ => rfl, hback _ _ _ hxy, Or.inr ⟨z1, rfl, hs⟩⟩
/-- the same step once more is a hit -/
theorem go_hit {A S : Nat → Nat → Int32} {PR : Nat → Nat} {n : Nat} {K : Nat → Nat} {e m t : Nat} (I : Nat → Int32) (hp : pth A S PR n K 0 e) (ht : t < e) : goR A I n S (K t) t m (nI (K (t + 1))) A (IVf I n (nI (if t + 1 = m then 0 else 1)) (nI (if t + 1 = m then 1 else 0)) (nI m) (nI (t + 1)) (nI (K (t + 1))) (I 25 + nI 1) (I 26 + nI 0)) := by
  obtain ⟨hf, -, its, hi, hfn⟩ := hp.2 t (Nat.zero_le _) ht
  exact Or.inr ⟨hf, its, K (t + 1) + 1, K (t + 1), n, hi, hfn.lst (hp.1 (t + 1) (by omega) (by omega)).1, rfl, rfl, Or.inl ⟨rfl, rfl, rfl, iV_f⟩⟩

theorem cd2_lt {P : Prop} {w : Nat} (h : cd2 P w) : w < 2 := by
  rcases h with ⟨h, -⟩ | ⟨h, -⟩ <;> omega
theorem RC.rec9 {cy : Nat → ClassId} {L : List Nat} {f : gF} {bk : Nat → Nat} {n : Nat} {X : Nat → va_E} {Is : Nat → Option iT} {PR PL : Nat → Nat} {S A : Nat → Nat → Int32} {I : Nat → Int32} (hR : RC cy bk n X Is PR PL S A I L f) : vRec A := fun r hr => by
  obtain ⟨c, b, g, hc, hb, e3, e2, -, -, -, hg2⟩ := hR.ri hr
  exact ⟨c, b, hc, hb, e3, e2, fun i hi => by obtain ⟨v, -, h⟩ := hg2 i hi; exact h.2.1⟩
theorem RC.b18 {cy : Nat → ClassId} {L : List Nat} {f : gF} {bk : Nat → Nat} {n : Nat} {X : Nat → va_E} {Is : Nat → Option iT} {PR PL : Nat → Nat} {S A : Nat → Nat → Int32} {I : Nat → Int32} (hR : RC cy bk n X Is PR PL S A I L f) : I 18 ≠ 0 → ∃ k, k < 420 ∧ I 24 = nI k := by
  intro h
  have hn9 := hR.nv.2.1
  obtain ⟨t, c, ly, bs, g, -, -, -, -, -, -, -, hbu⟩ := hR.bu
  rcases hbu with ⟨-, z, -⟩ | ⟨-, -, ⟨z, -⟩ | ⟨-, k, hk, h24, -⟩⟩
  · exact absurd z h
  · exact absurd z h
  · exact ⟨k, by omega, h24⟩
theorem RC.tgs {cy : Nat → ClassId} {L : List Nat} {f : gF} {bk : Nat → Nat} {n : Nat} {X : Nat → va_E} {Is : Nat → Option iT} {PR PL : Nat → Nat} {S A : Nat → Nat → Int32} {I : Nat → Int32} (hR : RC cy bk n X Is PR PL S A I L f) : ∃ TG, vTag A n TG := by
  obtain ⟨g, -, hg⟩ := hR.ta
  have h : ∀ t, ∃ m, t < 5 → m ≤ n ∧ A 16 t = pI m := fun t => by
    by_cases ht : t < 5
    · rcases hg t ht with ⟨e, -⟩ | ⟨k, hk, e, -⟩
      · exact ⟨0, fun _ => ⟨Nat.zero_le _, e⟩⟩
      · exact ⟨k + 1, fun _ => ⟨hk, e⟩⟩
    · exact ⟨0, fun z => absurd z ht⟩
  exact ⟨fun t => (h t).choose, fun t ht => (h t).choose_spec ht⟩
theorem RC.goes {cy : Nat → ClassId} {L : List Nat} {f : gF} {bk : Nat → Nat} {n : Nat} {X : Nat → va_E} {Is : Nat → Option iT} {PR PL : Nat → Nat} {S A : Nat → Nat → Int32} {I : Nat → Int32} (hR : RC cy bk n X Is PR PL S A I L f) (hB9 : rmB n I) : ∃ k0 d m, (I 17 = nI 1 → k0 < n ∧ I 24 = nI k0 ∧ I 20 = nI d ∧ d < m ∧ m ≤ 10 ∧ I 19 = nI m) ∧ (¬ I 17 = 0 → n < 420 ∧ k0 < n ∧ I 24 = nI k0 ∧ I 20 = nI d ∧ d < m ∧ m ≤ 10 ∧ I 19 = nI m ∧ vIns (A 21 d) (A 22 d) (A 23 d)) := by
  obtain ⟨t, c, ly, bs, g, ht, hc, -, -, -, -, hp2, hbu⟩ := hR.bu
  rcases hbu with ⟨z, -, h19, h20, htc, k, hk, h24, -⟩ | ⟨z, -⟩
  · obtain ⟨v, -, hv⟩ := hp2 t htc
    have := hB9 c t z h19 h20 hc ht
    exact ⟨k, t, c, fun _ => ⟨hk, h24, h20, htc, hc, h19⟩, fun _ => ⟨by omega, hk, h24, h20, htc, hc, h19, hv.2.1⟩⟩
  · exact ⟨0, 0, 0, fun h => absurd (h.symm.trans z) (by decide), fun h => absurd z h⟩
theorem gX.mono {l : Launch} {s0 : State} {D : va_G} {y : MethodName} {cc : ByteArray} {maxL : Nat} {ret : Option FieldType} {d mc ms : Nat} {av : List Value} {L : List Nat} {f : gF} {Qr Qr' : Option Value → List Nat → gF → Prop} {PX PX' : String → Prop} (h : gX l s0 D y cc maxL ret d mc ms av L f Qr PX) (hQ : ∀ v L1 f1, Qr v L1 f1 → Qr' v L1 f1) (hP : ∀ E, PX E → PX' E) : gX l s0 D y cc maxL ret d mc ms av L f Qr' PX' := by
  intro sz
  refine MetFree.mono (h sz) (fun a s hp => hp) (fun _ _ _ _ _ _ => trivial) (fun a st o t hp hq => ?_)
  rcases hq with ⟨⟨⟨v, L1, f1, ho, hq, h1⟩, hF⟩, hL⟩ | ⟨q, ho, E, ce, Lc, ⟨hpx, h1⟩, h2⟩
  · exact Or.inl ⟨⟨⟨v, L1, f1, ho, hQ _ _ _ hq, h1⟩, hF⟩, hL⟩
  · exact Or.inr ⟨q, ho, E, ce, Lc, ⟨hP E hpx, h1⟩, h2⟩
theorem start_c {l : Launch} {s0 : State} {D : va_G} {cy : Nat → ClassId} (hE : gE s0 D cy) (hl : l.stackTraces = false) {L : List Nat} {f : gF} {bk : Nat → Nat} {n : Nat} {X : Nat → va_E} {Is : Nat → Option iT} {PR PL : Nat → Nat} {S A : Nat → Nat → Int32} {I : Nat → Int32} (hR : RC cy bk n X Is PR PL S A I L f) (hB9 : rmB n I) (hC9 : pCt n A S) (x : Int32) : gX l s0 D yX5_start cX5_start 4 (some .int) 8 7 54 [.ref (bk 0), .int x] L f (uQ cy (bk 0) (fun b A1 I1 => ∃ w, cd3 (gin x 4) (I 17 = 0 ∧ n < 400) w ∧ (w ≠ 0 → A1 = A ∧ I1 = va_up I 27 (nI w)) ∧ (w = 0 → ∃ i b9 m k1 n1 A2, i < 4 ∧ x = nI i ∧ A 2 i = nI b9 ∧ b9 < 3 ∧ A 3 i = nI m ∧ m ≤ 10 ∧ rootR A n b9 k1 n1 A2 ∧ A1 = begA A2 A i m ∧ b = nI k1 ∧ iV I1 n1 (nI (if m = 0 then 0 else 1)) (nI (if m = 0 then 1 else 0)) (nI m) (nI 0) (nI k1) (I 25) (I 26) ∧ I1 27 = nI 0))) (uX [xI, xS] A I (fun b A1 I1 => ∃ w, cd3 (gin x 4) (I 17 = 0 ∧ n < 400) w ∧ (w ≠ 0 → A1 = A ∧ I1 = va_up I 27 (nI w)) ∧ (w = 0 → ∃ i b9 m k1 n1 A2, i < 4 ∧ x = nI i ∧ A 2 i = nI b9 ∧ b9 < 3 ∧ A 3 i = nI m ∧ m ≤ 10 ∧ rootR A n b9 k1 n1 A2 ∧ A1 = begA A2 A i m ∧ b = nI k1 ∧ iV I1 n1 (nI (if m = 0 then 0 else 1)) (nI (if m = 0 then 1 else 0)) (nI m) (nI 0) (nI k1) (I 25) (I 26) ∧ I1 27 = nI 0))) := gX.mono (k5_start0 hE hl hR hB9 hC9 x) (fun v L1 f1 h => start_u h) (fun E h => start_x h)
theorem goR_i {A S : Nat → Nat → Int32} {I I2 : Nat → Int32} {n k0 d m : Nat} {b : Int32} {A1 : Nat → Nat → Int32} {I1 : Nat → Int32} (h25 : I2 25 = I 25) (h26 : I2 26 = I 26) (h : goR A I2 n S k0 d m b A1 I1) : goR A I n S k0 d m b A1 (va_up I1 27 (I 27)) := by
  have iv : ∀ {n go co m d ly hi mi}, iV I1 n go co m d ly hi mi → iV (va_up I1 27 (I 27)) n go co m d ly hi mi := fun h => h
  rcases h with ⟨f1, e1, e2, e3, -⟩ | ⟨f1, its, fm, k1, n1, q1, q2, q3, -, q5⟩
  · rw [h25, h26] at e3
    exact Or.inl ⟨f1, e1, e2, iv e3, rfl⟩
  · rw [h25, h26] at q5
    exact Or.inr ⟨f1, its, fm, k1, n1, q1, q2, q3, rfl, q5.imp (fun ⟨a, b, c, d⟩ => ⟨a, b, c, iv d⟩) (fun ⟨a, b, c, d, e⟩ => ⟨a, b, c, d, iv e⟩)⟩
theorem step_c {l : Launch} {s0 : State} {D : va_G} {cy : Nat → ClassId} (hE : gE s0 D cy) (hl : l.stackTraces = false) {L : List Nat} {f : gF} {bk : Nat → Nat} {n : Nat} {X : Nat → va_E} {Is : Nat → Option iT} {PR PL : Nat → Nat} {S A : Nat → Nat → Int32} {I : Nat → Int32} (hR : RC cy bk n X Is PR PL S A I L f) (hB9 : rmB n I) (hC9 : pCt n A S) {k0 d m : Nat} (hG : I 17 = nI 1 → k0 < n ∧ I 24 = nI k0 ∧ I 20 = nI d ∧ d < m ∧ m ≤ 10 ∧ I 19 = nI m) : gX l s0 D yX5_step cX5_step 5 (some .int) 7 5 42 [.ref (bk 0)] L f (uQ cy (bk 0) (fun b A1 I1 => ∃ w, cd2 (¬ I 17 = 0) w ∧ (w ≠ 0 → A1 = A ∧ I1 = va_up I 27 (nI w)) ∧ (w = 0 → goR A (va_up I 27 (nI 0)) n S k0 d m b A1 I1))) (uX [xS] A I (fun b A1 I1 => ∃ w, cd2 (¬ I 17 = 0) w ∧ (w ≠ 0 → A1 = A ∧ I1 = va_up I 27 (nI w)) ∧ (w = 0 → goR A (va_up I 27 (nI 0)) n S k0 d m b A1 I1))) := by
  refine gX.mono (k5_step0 hE hl hR hB9 hC9 hG) (fun v L1 f1 h => ?_) (fun E h => ?_)
  · intro b A1 I1 hr
    obtain ⟨w, hw, -, h0⟩ := hr
    have e9 := cd2_0 hw (by rw [h.1]; decide)
    subst e9
    have hgo := h0 rfl
    have h27 : I1 27 = nI 0 := goR_27 hgo
    obtain ⟨hv, bk1, n1, X1, Is1, PR1, PL1, S1, h1, hR1, hB1, hC1⟩ := h.2 b A1 _ (goR_i (I := I) (I2 := va_up I 27 (nI 0)) rfl rfl hgo)
    have hi : i8 (va_up I1 27 (I 27)) I1 := ⟨rfl, rfl, rfl, rfl, rfl, rfl, rfl, rfl⟩
    exact ⟨h27, hv, bk1, n1, X1, Is1, PR1, PL1, S1, h1, hR1.cI hi, hB1.cI hi, hC1⟩
  · intro b A1 I1 hr
    obtain ⟨w, hw, hf, -⟩ := hr
    have e17 : I 17 = nI 0 := by
      obtain ⟨t, c, ly, bs, g, -, -, -, -, -, -, -, hbu⟩ := hR.bu
      rcases hbu with ⟨z, -⟩ | ⟨z, -⟩
      · exact absurd z h.2
      · exact z
    have e9 := cd2_1 hw (fun z => z e17)
    subst e9
    obtain ⟨hA, hI⟩ := hf (by decide)
    exact ⟨1, by decide, by decide, by rw [hI]; rfl, h.1, hA, hI⟩

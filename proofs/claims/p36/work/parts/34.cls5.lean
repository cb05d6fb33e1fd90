/-! ===== the class, V: the build, the store, new objects ===== -/
theorem gn_0lt {a b : Nat} (h : nI (b - a) ≤ 0) (hb : b < 2 ^ 31) : ¬ a < b := by
  have := gn_le0 h (by omega)
  omega
theorem gn_lt0 {a b : Nat} (h : ¬ nI (b - a) ≤ 0) (hb : b < 2 ^ 31) : a < b := by
  refine Classical.byContradiction fun q => h ?_
  rw [show b - a = 0 by omega]
  decide
theorem k5_left {l : Launch} {s0 : State} {D : va_G} {cy : Nat → ClassId} (hE : gE s0 D cy) (hl : l.stackTraces = false) {L : List Nat} {f : gF} {r w c : Nat} {bs : Int32} {g : Nat → Option Nat} (hr9 : gH L f r (.inr (3, [.ref w, .int bs, .int (nI c)]))) (hw9 : gH L f w (.inl (cy 6, 10, .inr (.inr (.inr (.inr g)))))) {bo t : Nat} {ly : Option Nat} (hb9 : gH L f bo (.inr (0, [.ref r, .int (nI t), va_rf ly]))) (ht9 : t ≤ c) (hc9 : c ≤ 10) : gM l s0 D yX0_left cX0_left 1 (some .int) 1 0 0 [.ref bo] L f (fun v L1 f1 => v = some (.int (nI (c - t))) ∧ L = L1 ∧ f = f1) := by
  refine gM.of (own := RX0) hE hl (by decide +kernel) rfl rfl (Nat.le_of_ble_eq_true rfl) (fun p9 e9 s9 m9 a99 b99 t99 c9 C hr hnm => ?_)
  refine G.weak (ls' := [some (.ref bo)]) ?_ rfl (fun _ _ h => h)
  refine g_aload_n (n := 1) C dX0_left_0 rfl (Or.inr ⟨_, rfl⟩) rfl ?_
  refine g_get (n := 4) C dX0_left_1 kF_X0_10 (by assumption) rfl rfl ?_
  refine g_get (n := 7) C dX0_left_4 kF_X0_28 (by assumption) rfl rfl ?_
  refine g_aload_n (n := 8) C dX0_left_7 rfl (Or.inr ⟨_, rfl⟩) rfl ?_
  refine g_get (n := 11) C dX0_left_8 kF_X0_20 (by assumption) rfl rfl ?_
  refine g_isubN (n := 12) C dX0_left_11 (by omega) rfl ?_
  refine g_iret C hr dX0_left_12 ?_ ⟨by decide, by decide⟩
  exact ⟨rfl, rfl, rfl⟩
theorem k5_goesOn {l : Launch} {s0 : State} {D : va_G} {cy : Nat → ClassId} (hE : gE s0 D cy) (hl : l.stackTraces = false) {L : List Nat} {f : gF} {r w c : Nat} {bs : Int32} {g : Nat → Option Nat} (hr9 : gH L f r (.inr (3, [.ref w, .int bs, .int (nI c)]))) (hw9 : gH L f w (.inl (cy 6, 10, .inr (.inr (.inr (.inr g)))))) {bo t : Nat} {ly : Option Nat} (hb9 : gH L f bo (.inr (0, [.ref r, .int (nI t), va_rf ly]))) (ht9 : t ≤ c) (hc9 : c ≤ 10) : gM l s0 D yX0_goesOn cX0_goesOn 1 (some .boolean) 2 0 0 [.ref bo] L f (fun v L1 f1 => (∃ w, v = some (.int (nI w)) ∧ cdb (t < c) w) ∧ L = L1 ∧ f = f1) := by
  refine gM.of (own := RX0) hE hl (by decide +kernel) rfl rfl (Nat.le_of_ble_eq_true rfl) (fun p9 e9 s9 m9 a99 b99 t99 c9 C hr hnm => ?_)
  refine G.weak (ls' := [some (.ref bo)]) ?_ rfl (fun _ _ h => h)
  refine g_aload_n (n := 1) C dX0_goesOn_0 rfl (Or.inr ⟨_, rfl⟩) rfl ?_
  refine g_V (n := 4) (rest := []) C (k5_left hE hl hr9 hw9 hb9 ht9 hc9) dX0_goesOn_1 kM_X0_left kL_X0_31 kV_X0_left (by assumption) rfl rfl rfl (Nat.le_of_ble_eq_true rfl) ⟨by decide, by decide⟩ ⟨by decide, by decide⟩ rfl (fun v9 L9 f9 hq => ?_)
  obtain ⟨rfl, rfl, rfl⟩ := hq
  refine G.sk (st' := [_]) rfl ?_
  refine g_if_le (n := 7) (tgt := 11) C dX0_goesOn_4 (by decide) rfl (fun h4 => ?_) (fun h4 => ?_)
  · refine g_iconst (n := 12) (v := nI 0) C dX0_goesOn_11 rfl rfl ?_
    refine g_zret C hr rfl dX0_goesOn_12 ?_ ⟨by decide, by decide⟩
    refine ⟨⟨_, rfl, ?_⟩, rfl, rfl⟩
    first | exact Or.inl ⟨rfl, gn_lt0 h4 (by omega)⟩ | exact Or.inr ⟨rfl, gn_0lt h4 (by omega)⟩
  · refine g_iconst (n := 8) (v := nI 1) C dX0_goesOn_7 rfl rfl ?_
    refine g_goto (tgt := 12) C dX0_goesOn_8 (by decide) ?_
    refine g_zret C hr rfl dX0_goesOn_12 ?_ ⟨by decide, by decide⟩
    refine ⟨⟨_, rfl, ?_⟩, rfl, rfl⟩
    first | exact Or.inl ⟨rfl, gn_lt0 h4 (by omega)⟩ | exact Or.inr ⟨rfl, gn_0lt h4 (by omega)⟩
theorem k5_upcoming {l : Launch} {s0 : State} {D : va_G} {cy : Nat → ClassId} (hE : gE s0 D cy) (hl : l.stackTraces = false) {L : List Nat} {f : gF} {r w c : Nat} {bs : Int32} {g : Nat → Option Nat} (hr9 : gH L f r (.inr (3, [.ref w, .int bs, .int (nI c)]))) (hw9 : gH L f w (.inl (cy 6, 10, .inr (.inr (.inr (.inr g)))))) {bo t : Nat} {ly : Option Nat} (hb9 : gH L f bo (.inr (0, [.ref r, .int (nI t), va_rf ly]))) (ht9 : t ≤ c) (hc9 : c ≤ 10) : gM l s0 D yX0_upcoming cX0_upcoming 1 (some (.object RX1)) 3 0 0 [.ref bo] L f (fun v L1 f1 => v = some (va_rf (if t < c then g t else none)) ∧ L = L1 ∧ f = f1) := by
  refine gM.of (own := RX0) hE hl (by decide +kernel) rfl rfl (Nat.le_of_ble_eq_true rfl) (fun p9 e9 s9 m9 a99 b99 t99 c9 C hr hnm => ?_)
  refine G.weak (ls' := [some (.ref bo)]) ?_ rfl (fun _ _ h => h)
  refine g_aload_n (n := 1) C dX0_upcoming_0 rfl (Or.inr ⟨_, rfl⟩) rfl ?_
  refine g_V (n := 4) (rest := []) C (k5_goesOn hE hl hr9 hw9 hb9 ht9 hc9) dX0_upcoming_1 kM_X0_goesOn kL_X0_35 kV_X0_goesOn (by assumption) rfl rfl rfl (Nat.le_of_ble_eq_true rfl) ⟨by decide, by decide⟩ ⟨by decide, by decide⟩ rfl (fun v9 L9 f9 hq => ?_)
  obtain ⟨⟨w8, rfl, hw8⟩, rfl, rfl⟩ := hq
  refine G.sk (st' := [_]) rfl ?_
  refine g_if_eq (n := 7) (tgt := 21) C dX0_upcoming_4 (by decide) rfl (fun h4 => ?_) (fun h4 => ?_)
  · have h4 := cdb_f hw8 h4
    rw [if_neg h4]
    refine g_aconst_null (n := 22) C dX0_upcoming_21 rfl ?_
    refine G.sk (st' := [va_rf none]) rfl ?_
    refine g_aret C hr (Or.inl ⟨_, rfl⟩) dX0_upcoming_22 ?_ ⟨by decide, by decide⟩
    exact ⟨rfl, rfl, rfl⟩
  · have h4 := cdb_t hw8 h4
    rw [if_pos h4]
    refine g_aload_n (n := 8) C dX0_upcoming_7 rfl (Or.inr ⟨_, rfl⟩) rfl ?_
    refine g_get (n := 11) C dX0_upcoming_8 kF_X0_10 (by assumption) rfl rfl ?_
    refine g_aload_n (n := 12) C dX0_upcoming_11 rfl (Or.inr ⟨_, rfl⟩) rfl ?_
    refine g_get (n := 15) C dX0_upcoming_12 kF_X0_20 (by assumption) rfl rfl ?_
    refine g_V (n := 18) (rest := []) C (k5_at hE hl hr9 hw9 (p := t) (by omega)) dX0_upcoming_15 kM_X3_at kL_X0_39 kV_X3_at hr9 rfl rfl rfl (Nat.le_of_ble_eq_true rfl) ⟨by decide, by decide⟩ ⟨by decide, by decide⟩ rfl (fun v9 L9 f9 hq => ?_)
    obtain ⟨rfl, rfl, rfl⟩ := hq
    refine G.sk (st' := [_]) rfl ?_
    refine g_goto (tgt := 22) C dX0_upcoming_18 (by decide) ?_
    refine g_aret C hr (Or.inl ⟨_, rfl⟩) dX0_upcoming_22 ?_ ⟨by decide, by decide⟩
    exact ⟨rfl, rfl, rfl⟩
theorem k5_advanceTo {l : Launch} {s0 : State} {D : va_G} {cy : Nat → ClassId} (hE : gE s0 D cy) (hl : l.stackTraces = false) {L : List Nat} {f : gF} {r w c : Nat} {bs : Int32} {g : Nat → Option Nat} (hr9 : gH L f r (.inr (3, [.ref w, .int bs, .int (nI c)]))) (hw9 : gH L f w (.inl (cy 6, 10, .inr (.inr (.inr (.inr g)))))) {bo t : Nat} {ly : Option Nat} (hb9 : gH L f bo (.inr (0, [.ref r, .int (nI t), va_rf ly]))) (x : Nat) : gM l s0 D yX0_advanceTo cX0_advanceTo 2 none 1 0 0 [.ref bo, .ref x] L f (fun v L1 f1 => v = none ∧ L = L1 ∧ f1 = va_up f bo (.inr (0, [.ref r, .int (nI (t + 1)), .ref x]))) := by
  refine gM.of (own := RX0) hE hl (by decide +kernel) rfl rfl (Nat.le_of_ble_eq_true rfl) (fun p9 e9 s9 m9 a99 b99 t99 c9 C hr hnm => ?_)
  refine G.weak (ls' := [some (.ref bo), some (.ref x)]) ?_ rfl (fun _ _ h => h)
  refine g_aload_n (n := 1) C dX0_advanceTo_0 rfl (Or.inr ⟨_, rfl⟩) rfl ?_
  refine g_aload_n (n := 2) C dX0_advanceTo_1 rfl (Or.inr ⟨_, rfl⟩) rfl ?_
  refine g_put (n := 5) C dX0_advanceTo_2 kP_X0_24 (by assumption) ⟨rfl, rfl⟩ (Nat.le_of_ble_eq_true rfl) rfl ?_
  refine g_aload_n (n := 6) C dX0_advanceTo_5 rfl (Or.inr ⟨_, rfl⟩) rfl ?_
  refine g_dup (n := 7) C dX0_advanceTo_6 rfl rfl ?_
  refine g_get (n := 10) C dX0_advanceTo_7 kF_X0_20 hb9.up rfl rfl ?_
  refine g_iconst (n := 11) (v := nI 1) C dX0_advanceTo_10 rfl rfl ?_
  refine g_iaddN (n := 12) C dX0_advanceTo_11 rfl ?_
  refine g_put (n := 15) C dX0_advanceTo_12 kP_X0_20 hb9.up ⟨rfl, rfl⟩ (Nat.le_of_ble_eq_true rfl) rfl ?_
  rw [up_up]
  refine g_vret C hr dX0_advanceTo_15 ?_ ⟨by decide, by decide⟩
  exact ⟨rfl, rfl, rfl⟩
theorem k5_fail {l : Launch} {s0 : State} {D : va_G} {cy : Nat → ClassId} (hE : gE s0 D cy) (hl : l.stackTraces = false) {L : List Nat} {f : gF} {r w c : Nat} {bs : Int32} {g : Nat → Option Nat} (hr9 : gH L f r (.inr (3, [.ref w, .int bs, .int (nI c)]))) (hw9 : gH L f w (.inl (cy 6, 10, .inr (.inr (.inr (.inr g)))))) {bo t : Nat} {ly : Option Nat} (hb9 : gH L f bo (.inr (0, [.ref r, .int (nI t), va_rf ly]))) : gM l s0 D yX0_fail cX0_fail 1 none 1 0 0 [.ref bo] L f (fun v L1 f1 => v = none ∧ L = L1 ∧ f1 = va_up f bo (.inr (0, [.ref r, .int (nI c), .null]))) := by
  refine gM.of (own := RX0) hE hl (by decide +kernel) rfl rfl (Nat.le_of_ble_eq_true rfl) (fun p9 e9 s9 m9 a99 b99 t99 c9 C hr hnm => ?_)
  refine G.weak (ls' := [some (.ref bo)]) ?_ rfl (fun _ _ h => h)
  refine g_aload_n (n := 1) C dX0_fail_0 rfl (Or.inr ⟨_, rfl⟩) rfl ?_
  refine g_aconst_null (n := 2) C dX0_fail_1 rfl ?_
  refine g_put (n := 5) C dX0_fail_2 kP_X0_24 (by assumption) ⟨rfl, rfl⟩ (Nat.le_of_ble_eq_true rfl) rfl ?_
  refine g_aload_n (n := 6) C dX0_fail_5 rfl (Or.inr ⟨_, rfl⟩) rfl ?_
  refine g_aload_n (n := 7) C dX0_fail_6 rfl (Or.inr ⟨_, rfl⟩) rfl ?_
  refine g_get (n := 10) C dX0_fail_7 kF_X0_10 hb9.up rfl rfl ?_
  refine g_get (n := 13) C dX0_fail_10 kF_X0_28 (hr9.ne (gH.apart hr9 hb9 (fun e => by cases e))) rfl rfl ?_
  refine g_put (n := 16) C dX0_fail_13 kP_X0_20 hb9.up ⟨rfl, rfl⟩ (Nat.le_of_ble_eq_true rfl) rfl ?_
  rw [up_up]
  refine g_vret C hr dX0_fail_16 ?_ ⟨by decide, by decide⟩
  exact ⟨rfl, rfl, rfl⟩
theorem k5_finished {l : Launch} {s0 : State} {D : va_G} {cy : Nat → ClassId} (hE : gE s0 D cy) (hl : l.stackTraces = false) {L : List Nat} {f : gF} {r w c : Nat} {bs : Int32} {g : Nat → Option Nat} (hr9 : gH L f r (.inr (3, [.ref w, .int bs, .int (nI c)]))) (hw9 : gH L f w (.inl (cy 6, 10, .inr (.inr (.inr (.inr g)))))) {bo t : Nat} {ly : Option Nat} (hb9 : gH L f bo (.inr (0, [.ref r, .int (nI t), va_rf ly]))) (ht9 : t ≤ c) (hc9 : c ≤ 10) : gM l s0 D yX0_finished cX0_finished 1 (some (.object RX2)) 3 0 0 [.ref bo] L f (fun v L1 f1 => v = some (va_rf (if t < c then none else ly)) ∧ L = L1 ∧ f = f1) := by
  refine gM.of (own := RX0) hE hl (by decide +kernel) rfl rfl (Nat.le_of_ble_eq_true rfl) (fun p9 e9 s9 m9 a99 b99 t99 c9 C hr hnm => ?_)
  refine G.weak (ls' := [some (.ref bo)]) ?_ rfl (fun _ _ h => h)
  refine g_aload_n (n := 1) C dX0_finished_0 rfl (Or.inr ⟨_, rfl⟩) rfl ?_
  refine g_V (n := 4) (rest := []) C (k5_goesOn hE hl hr9 hw9 hb9 ht9 hc9) dX0_finished_1 kM_X0_goesOn kL_X0_35 kV_X0_goesOn (by assumption) rfl rfl rfl (Nat.le_of_ble_eq_true rfl) ⟨by decide, by decide⟩ ⟨by decide, by decide⟩ rfl (fun v9 L9 f9 hq => ?_)
  obtain ⟨⟨w8, rfl, hw8⟩, rfl, rfl⟩ := hq
  refine G.sk (st' := [_]) rfl ?_
  refine g_if_eq (n := 7) (tgt := 11) C dX0_finished_4 (by decide) rfl (fun h4 => ?_) (fun h4 => ?_)
  · have h4 := cdb_f hw8 h4
    rw [if_neg h4]
    refine g_aload_n (n := 12) C dX0_finished_11 rfl (Or.inr ⟨_, rfl⟩) rfl ?_
    refine g_get (n := 15) C dX0_finished_12 kF_X0_24 (by assumption) rfl rfl ?_
    refine g_aret C hr (Or.inl ⟨_, rfl⟩) dX0_finished_15 ?_ ⟨by decide, by decide⟩
    exact ⟨rfl, rfl, rfl⟩
  · have h4 := cdb_t hw8 h4
    rw [if_pos h4]
    refine g_aconst_null (n := 8) C dX0_finished_7 rfl ?_
    refine G.sk (st' := [va_rf none]) rfl ?_
    refine g_goto (tgt := 15) C dX0_finished_8 (by decide) ?_
    refine g_aret C hr (Or.inl ⟨_, rfl⟩) dX0_finished_15 ?_ ⟨by decide, by decide⟩
    exact ⟨rfl, rfl, rfl⟩
theorem k5_forget {l : Launch} {s0 : State} {D : va_G} {cy : Nat → ClassId} (hE : gE s0 D cy) (hl : l.stackTraces = false) {L : List Nat} {f : gF} {r w c : Nat} {bs : Int32} {g : Nat → Option Nat} (hr9 : gH L f r (.inr (3, [.ref w, .int bs, .int (nI c)]))) (hw9 : gH L f w (.inl (cy 6, 10, .inr (.inr (.inr (.inr g)))))) {bo t : Nat} {ly : Option Nat} (hb9 : gH L f bo (.inr (0, [.ref r, .int (nI t), va_rf ly]))) (x : Nat) : gM l s0 D yX0_forget cX0_forget 2 none 1 0 0 [.ref bo, .ref x] L f (fun v L1 f1 => v = none ∧ L = L1 ∧ f1 = va_up f bo (.inr (0, [.ref r, .int (nI t), va_rf (if ly = some x then none else ly)]))) := by
  refine gM.of (own := RX0) hE hl (by decide +kernel) rfl rfl (Nat.le_of_ble_eq_true rfl) (fun p9 e9 s9 m9 a99 b99 t99 c9 C hr hnm => ?_)
  refine G.weak (ls' := [some (.ref bo), some (.ref x)]) ?_ rfl (fun _ _ h => h)
  refine g_aload_n (n := 1) C dX0_forget_0 rfl (Or.inr ⟨_, rfl⟩) rfl ?_
  refine g_get (n := 4) C dX0_forget_1 kF_X0_24 (by assumption) rfl rfl ?_
  refine g_aload_n (n := 5) C dX0_forget_4 rfl (Or.inr ⟨_, rfl⟩) rfl ?_
  refine g_acmp_ne (rx := ly) (ry := (some x)) (n := 8) (tgt := 13) C dX0_forget_5 (by decide) rfl (fun h5 => ?_) (fun h5 => ?_)
  · refine g_vret C hr dX0_forget_13 ?_ ⟨by decide, by decide⟩
    first | (rw [if_pos h5]; exact ⟨rfl, rfl, rfl⟩) | (rw [if_neg h5]; exact ⟨rfl, rfl, (upf_id hb9.2).symm⟩)
  · refine g_aload_n (n := 9) C dX0_forget_8 rfl (Or.inr ⟨_, rfl⟩) rfl ?_
    refine g_aconst_null (n := 10) C dX0_forget_9 rfl ?_
    refine g_put (n := 13) C dX0_forget_10 kP_X0_24 (by assumption) ⟨rfl, rfl⟩ (Nat.le_of_ble_eq_true rfl) rfl ?_
    refine g_vret C hr dX0_forget_13 ?_ ⟨by decide, by decide⟩
    first | (rw [if_pos h5]; exact ⟨rfl, rfl, rfl⟩) | (rw [if_neg h5]; exact ⟨rfl, rfl, (upf_id hb9.2).symm⟩)
theorem k5_begin {l : Launch} {s0 : State} {D : va_G} {cy : Nat → ClassId} (hE : gE s0 D cy) (hl : l.stackTraces = false) {L : List Nat} {f : gF} {r w c : Nat} {bs : Int32} {g : Nat → Option Nat} (hr9 : gH L f r (.inr (3, [.ref w, .int bs, .int (nI c)]))) (hw9 : gH L f w (.inl (cy 6, 10, .inr (.inr (.inr (.inr g)))))) {bo t : Nat} {ly : Option Nat} (hb9 : gH L f bo (.inr (0, [.ref r, .int (nI t), va_rf ly]))) {r2 w2 c2 : Nat} {bs2 : Int32} {g2 : Nat → Option Nat} (hr2 : gH L f r2 (.inr (3, [.ref w2, .int bs2, .int (nI c2)]))) (hw2 : gH L f w2 (.inl (cy 6, 10, .inr (.inr (.inr (.inr g2)))))) (hrr : r2 ≠ r) (hww : w2 ≠ w) (hc9 : c2 ≤ 10) (hg9 : ∀ q, q < c2 → ∃ v k1 k2 k3, g2 q = some v ∧ gH L f v (.inr (1, [.int k1, .int k2, .int k3]))) (x : Nat) : gM l s0 D yX0_begin cX0_begin 3 none 4 0 0 [.ref bo, .ref r2, .ref x] L f (fun v L1 f1 => v = none ∧ L = L1 ∧ ∃ g1, f1 = va_up (va_up (va_up f w (.inl (cy 6, 10, .inr (.inr (.inr (.inr g1)))))) r (.inr (3, [.ref w, .int bs2, .int (nI c2)]))) bo (.inr (0, [.ref r, .int (nI 0), .ref x])) ∧ (∀ q, q < c2 → g1 q = g2 q) ∧ ∀ q, c2 ≤ q → g1 q = g q) := by
  refine gM.of (own := RX0) hE hl (by decide +kernel) rfl rfl (Nat.le_of_ble_eq_true rfl) (fun p9 e9 s9 m9 a99 b99 t99 c9 C hr hnm => ?_)
  refine G.weak (ls' := [some (.ref bo), some (.ref r2), some (.ref x)]) ?_ rfl (fun _ _ h => h)
  refine g_aload_n (n := 1) C dX0_begin_0 rfl (Or.inr ⟨_, rfl⟩) rfl ?_
  refine g_get (n := 4) C dX0_begin_1 kF_X0_10 (by assumption) rfl rfl ?_
  refine g_aload_n (n := 5) C dX0_begin_4 rfl (Or.inr ⟨_, rfl⟩) rfl ?_
  refine g_V (n := 8) (rest := []) C (k5_becomeLike hE hl hr9 hw9 hr2 hw2 hrr hww hc9 hg9) dX0_begin_5 kM_X3_becomeLike kL_X0_16 kV_X3_becomeLike hr9 rfl rfl rfl (Nat.le_of_ble_eq_true rfl) ⟨by decide, by decide⟩ ⟨by decide, by decide⟩ rfl (fun v9 L9 f9 hq => ?_)
  obtain ⟨rfl, rfl, g1, rfl, hg⟩ := hq
  have hb1 := (hb9.ne (e1 := .inl (cy 6, 10, .inr (.inr (.inr (.inr g1))))) (gH.apart hb9 hw9 (fun e => by cases e))).ne (e1 := .inr (3, [.ref w, .int bs2, .int (nI c2)])) (gH.apart hb9 hr9 (fun e => by cases e))
  refine G.sk (st' := []) rfl ?_
  refine g_aload_n (n := 9) C dX0_begin_8 rfl (Or.inr ⟨_, rfl⟩) rfl ?_
  refine g_iconst (n := 10) (v := nI 0) C dX0_begin_9 rfl rfl ?_
  refine g_put (n := 13) C dX0_begin_10 kP_X0_20 hb1 ⟨rfl, rfl⟩ (Nat.le_of_ble_eq_true rfl) rfl ?_
  refine g_aload_n (n := 14) C dX0_begin_13 rfl (Or.inr ⟨_, rfl⟩) rfl ?_
  refine g_aload_n (n := 15) C dX0_begin_14 rfl (Or.inr ⟨_, rfl⟩) rfl ?_
  refine g_put (n := 18) C dX0_begin_15 kP_X0_24 hb1.up ⟨rfl, rfl⟩ (Nat.le_of_ble_eq_true rfl) rfl ?_
  rw [up_up]
  refine g_vret C hr dX0_begin_18 ?_ ⟨by decide, by decide⟩
  exact ⟨rfl, rfl, g1, rfl, hg⟩
theorem k5_find {l : Launch} {s0 : State} {D : va_G} {cy : Nat → ClassId} (hE : gE s0 D cy) (hl : l.stackTraces = false) {L : List Nat} {f : gF} {so w n : Nat} {g : Nat → Option Nat} (hs9 : gH L f so (.inr (4, [.ref w, .int (nI n)]))) (hw9 : gH L f w (.inl (cy 5, 420, .inr (.inr (.inr (.inr g)))))) (x : Int32) : gM l s0 D yX4_find cX4_find 2 (some (.object RX2)) 2 0 0 [.ref so, .int x] L f (fun v L1 f1 => (∃ o, v = some (va_rf o) ∧ ((∃ j, j < 420 ∧ x = nI j ∧ o = g j) ∨ (¬ gin x 420 ∧ o = none))) ∧ L = L1 ∧ f = f1) := by
  refine gM.of (own := RX4) hE hl (by decide +kernel) rfl rfl (Nat.le_of_ble_eq_true rfl) (fun p9 e9 s9 m9 a99 b99 t99 c9 C hr hnm => ?_)
  refine G.weak (ls' := [some (.ref so), some (.int x)]) ?_ rfl (fun _ _ h => h)
  refine g_iload_n (n := 1) C dX4_find_0 rfl rfl ?_
  refine g_aload_n (n := 2) C dX4_find_1 rfl (Or.inr ⟨_, rfl⟩) rfl ?_
  refine g_get (n := 5) C dX4_find_2 kF_X4_11 (by assumption) rfl rfl ?_
  refine g_alen (n := 6) (t := 5) C dX4_find_5 rfl (by assumption) rfl rfl ?_
  refine g_S (n := 9) (rest := []) C (k5_isIn hE hl (x) (nI 420)) dX4_find_6 kM_X5_isIn kL_X4_17 kS_X5_isIn rfl rfl (Nat.le_of_ble_eq_true rfl) ⟨by decide, by decide⟩ ⟨by decide, by decide⟩ rfl (fun v9 L9 f9 hq => ?_)
  obtain ⟨rfl, rfl, rfl⟩ := hq
  refine G.sk (st' := [_]) rfl ?_
  refine g_if_eq (n := 12) (tgt := 21) C dX4_find_9 (by decide) rfl (fun h9 => ?_) (fun h9 => ?_)
  · have h9 := gin_f h9 (by decide)
    refine g_aconst_null (n := 22) C dX4_find_21 rfl ?_
    refine G.sk (st' := [va_rf none]) rfl ?_
    refine g_aret C hr (Or.inl ⟨_, rfl⟩) dX4_find_22 ?_ ⟨by decide, by decide⟩
    refine ⟨⟨_, rfl, ?_⟩, rfl, rfl⟩
    first | exact Or.inl ⟨j, hj, rfl, rfl⟩ | exact Or.inr ⟨h9, rfl⟩
  · obtain ⟨j, hj, rfl⟩ := gin_t h9 (by decide)
    refine g_aload_n (n := 13) C dX4_find_12 rfl (Or.inr ⟨_, rfl⟩) rfl ?_
    refine g_get (n := 16) C dX4_find_13 kF_X4_11 (by assumption) rfl rfl ?_
    refine g_iload_n (n := 17) C dX4_find_16 rfl rfl ?_
    refine g_aald (n := 18) (t := 5) C dX4_find_17 rfl rfl (by assumption) rfl (by omega) (by decide) rfl ?_
    refine g_goto (tgt := 22) C dX4_find_18 (by decide) ?_
    refine g_aret C hr (Or.inl ⟨_, rfl⟩) dX4_find_22 ?_ ⟨by decide, by decide⟩
    refine ⟨⟨_, rfl, ?_⟩, rfl, rfl⟩
    first | exact Or.inl ⟨j, hj, rfl, rfl⟩ | exact Or.inr ⟨h9, rfl⟩
theorem k5_remove {l : Launch} {s0 : State} {D : va_G} {cy : Nat → ClassId} (hE : gE s0 D cy) (hl : l.stackTraces = false) {L : List Nat} {f : gF} {so w n : Nat} {g : Nat → Option Nat} (hs9 : gH L f so (.inr (4, [.ref w, .int (nI n)]))) (hw9 : gH L f w (.inl (cy 5, 420, .inr (.inr (.inr (.inr g)))))) {k : Nat} (hk9 : k < 420) : gM l s0 D yX4_remove cX4_remove 2 none 2 0 0 [.ref so, .int (nI k)] L f (fun v L1 f1 => v = none ∧ L = L1 ∧ f1 = va_up f w (.inl (cy 5, 420, .inr (.inr (.inr (.inr (va_up g k none))))))) := by
  refine gM.of (own := RX4) hE hl (by decide +kernel) rfl rfl (Nat.le_of_ble_eq_true rfl) (fun p9 e9 s9 m9 a99 b99 t99 c9 C hr hnm => ?_)
  refine G.weak (ls' := [some (.ref so), some (.int (nI k))]) ?_ rfl (fun _ _ h => h)
  refine g_iload_n (n := 1) C dX4_remove_0 rfl rfl ?_
  refine g_aload_n (n := 2) C dX4_remove_1 rfl (Or.inr ⟨_, rfl⟩) rfl ?_
  refine g_get (n := 5) C dX4_remove_2 kF_X4_11 (by assumption) rfl rfl ?_
  refine g_alen (n := 6) (t := 5) C dX4_remove_5 rfl (by assumption) rfl rfl ?_
  refine g_S (n := 9) (rest := []) C (k5_isIn hE hl (nI k) (nI 420)) dX4_remove_6 kM_X5_isIn kL_X4_17 kS_X5_isIn rfl rfl (Nat.le_of_ble_eq_true rfl) ⟨by decide, by decide⟩ ⟨by decide, by decide⟩ rfl (fun v9 L9 f9 hq => ?_)
  obtain ⟨rfl, rfl, rfl⟩ := hq
  refine G.sk (st' := [_]) rfl ?_
  refine g_if_eq (n := 12) (tgt := 19) C dX4_remove_9 (by decide) rfl (fun h9 => absurd h9 (in_t hk9 (by decide))) (fun h9 => ?_)
  refine g_aload_n (n := 13) C dX4_remove_12 rfl (Or.inr ⟨_, rfl⟩) rfl ?_
  refine g_get (n := 16) C dX4_remove_13 kF_X4_11 (by assumption) rfl rfl ?_
  refine g_iload_n (n := 17) C dX4_remove_16 rfl rfl ?_
  refine g_aconst_null (n := 18) C dX4_remove_17 rfl ?_
  refine g_aastN (n := 19) (t := 5) C dX4_remove_18 rfl (by assumption) rfl (by omega) (by decide) rfl ?_
  refine g_vret C hr dX4_remove_19 ?_ ⟨by decide, by decide⟩
  exact ⟨rfl, rfl, rfl⟩
theorem k5_kept {l : Launch} {s0 : State} {D : va_G} {cy : Nat → ClassId} (hE : gE s0 D cy) (hl : l.stackTraces = false) {L : List Nat} {f : gF} {so w n : Nat} {g : Nat → Option Nat} (hs9 : gH L f so (.inr (4, [.ref w, .int (nI n)]))) (hw9 : gH L f w (.inl (cy 5, 420, .inr (.inr (.inr (.inr g)))))) (hn9 : n < 420) {a : Nat} {vs : List Value} (ha : gH L f a (.inr (2, vs))) : gM l s0 D yX4_kept cX4_kept 2 (some (.object RX2)) 2 0 0 [.ref so, .ref a] L f (fun v L1 f1 => v = some (.ref a) ∧ L = L1 ∧ f1 = va_up (va_up f w (.inl (cy 5, 420, .inr (.inr (.inr (.inr (va_up g n (some a)))))))) so (.inr (4, [.ref w, .int (nI (n + 1))]))) := by
  refine gM.of (own := RX4) hE hl (by decide +kernel) rfl rfl (Nat.le_of_ble_eq_true rfl) (fun p9 e9 s9 m9 a99 b99 t99 c9 C hr hnm => ?_)
  refine G.weak (ls' := [some (.ref so), some (.ref a)]) ?_ rfl (fun _ _ h => h)
  refine g_aload_n (n := 1) C dX4_kept_0 rfl (Or.inr ⟨_, rfl⟩) rfl ?_
  refine g_get (n := 4) C dX4_kept_1 kF_X4_21 (by assumption) rfl rfl ?_
  refine g_aload_n (n := 5) C dX4_kept_4 rfl (Or.inr ⟨_, rfl⟩) rfl ?_
  refine g_get (n := 8) C dX4_kept_5 kF_X4_11 (by assumption) rfl rfl ?_
  refine g_alen (n := 9) (t := 5) C dX4_kept_8 rfl (by assumption) rfl rfl ?_
  refine g_S (n := 12) (rest := []) C (k5_isIn hE hl (nI n) (nI 420)) dX4_kept_9 kM_X5_isIn kL_X4_17 kS_X5_isIn rfl rfl (Nat.le_of_ble_eq_true rfl) ⟨by decide, by decide⟩ ⟨by decide, by decide⟩ rfl (fun v9 L9 f9 hq => ?_)
  obtain ⟨rfl, rfl, rfl⟩ := hq
  refine G.sk (st' := [_]) rfl ?_
  refine g_if_ne (n := 15) (tgt := 25) C dX4_kept_12 (by decide) rfl (fun h12 => ?_) (fun h12 => absurd h12 (in_t hn9 (by decide)))
  refine g_aload_n (n := 26) C dX4_kept_25 rfl (Or.inr ⟨_, rfl⟩) rfl ?_
  refine g_get (n := 29) C dX4_kept_26 kF_X4_11 (by assumption) rfl rfl ?_
  refine g_aload_n (n := 30) C dX4_kept_29 rfl (Or.inr ⟨_, rfl⟩) rfl ?_
  refine g_get (n := 33) C dX4_kept_30 kF_X4_21 (by assumption) rfl rfl ?_
  refine g_aload_n (n := 34) C dX4_kept_33 rfl (Or.inr ⟨_, rfl⟩) rfl ?_
  refine g_aast (n := 35) (t := 5) (ci := 2) C dX4_kept_34 rfl rfl (by assumption) (by assumption) rfl (by omega) (by decide) rfl ?_
  refine g_aload_n (n := 36) C dX4_kept_35 rfl (Or.inr ⟨_, rfl⟩) rfl ?_
  refine g_dup (n := 37) C dX4_kept_36 rfl rfl ?_
  refine g_get (n := 40) C dX4_kept_37 kF_X4_21 (hs9.ne (gH.apart hs9 hw9 (fun e => by cases e))) rfl rfl ?_
  refine g_iconst (n := 41) (v := nI 1) C dX4_kept_40 rfl rfl ?_
  refine g_iaddN (n := 42) C dX4_kept_41 rfl ?_
  refine g_put (n := 45) C dX4_kept_42 kP_X4_21 (hs9.ne (gH.apart hs9 hw9 (fun e => by cases e))) ⟨rfl, rfl⟩ (Nat.le_of_ble_eq_true rfl) rfl ?_
  refine g_aload_n (n := 46) C dX4_kept_45 rfl (Or.inr ⟨_, rfl⟩) rfl ?_
  refine g_aret (o := some a) C hr (Or.inl ⟨_, rfl⟩) dX4_kept_46 ?_ ⟨by decide, by decide⟩
  exact ⟨rfl, rfl, rfl⟩
theorem k5_insInit {l : Launch} {s0 : State} {D : va_G} {cy : Nat → ClassId} (hE : gE s0 D cy) (hl : l.stackTraces = false) {L : List Nat} {f : gF} {i9 : Nat} {x0 y0 z0 : Value} (hI : gH L f i9 (.inr (1, [x0, y0, z0]))) (x y z : Int32) : gM l s0 D yX1_init cX1_init 4 none 1 0 0 [.ref i9, .int x, .int y, .int z] L f (fun v L1 f1 => v = none ∧ L = L1 ∧ f1 = va_up f i9 (.inr (1, [.int x, .int y, .int z]))) := by
  refine gM.of (own := RX1) hE hl (by decide +kernel) rfl rfl (Nat.le_of_ble_eq_true rfl) (fun p9 e9 s9 m9 a99 b99 t99 c9 C hr hnm => ?_)
  refine G.weak (ls' := [some (.ref i9), some (.int x), some (.int y), some (.int z)]) ?_ rfl (fun _ _ h => h)
  refine g_aload_n (n := 1) C dX1_init_0 rfl (Or.inr ⟨_, rfl⟩) rfl ?_
  refine g_objInit (n := 4) C dX1_init_1 (List.mem_of_getElem? (i := 328) (by decide +kernel)) (List.mem_of_getElem? (i := 68) (by decide +kernel)) (List.mem_of_getElem? (i := 69) (by decide +kernel)) ⟨by decide, by decide⟩ rfl ?_
  refine g_aload_n (n := 5) C dX1_init_4 rfl (Or.inr ⟨_, rfl⟩) rfl ?_
  refine g_iload_n (n := 6) C dX1_init_5 rfl rfl ?_
  refine g_putF (n := 9) C dX1_init_6 kP_X1_9 hnm (by assumption) ⟨rfl, rfl⟩ (Nat.le_of_ble_eq_true rfl) rfl ?_
  refine g_aload_n (n := 10) C dX1_init_9 rfl (Or.inr ⟨_, rfl⟩) rfl ?_
  refine g_iload_n (n := 11) C dX1_init_10 rfl rfl ?_
  refine g_putF (n := 14) C dX1_init_11 kP_X1_15 hnm hI.up ⟨rfl, rfl⟩ (Nat.le_of_ble_eq_true rfl) rfl ?_
  rw [up_up]
  refine g_aload_n (n := 15) C dX1_init_14 rfl (Or.inr ⟨_, rfl⟩) rfl ?_
  refine g_iload_n (n := 16) C dX1_init_15 rfl rfl ?_
  refine g_putF (n := 19) C dX1_init_16 kP_X1_18 hnm hI.up ⟨rfl, rfl⟩ (Nat.le_of_ble_eq_true rfl) rfl ?_
  rw [up_up]
  refine g_vret C hr dX1_init_19 ?_ ⟨by decide, by decide⟩
  exact ⟨rfl, rfl, rfl⟩

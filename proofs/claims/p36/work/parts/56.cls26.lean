/-! ===== the class, XXVI: new objects ===== -/
theorem k5_fill {l : Launch} {s0 : State} {D : va_G} {cy : Nat → ClassId} (hE : gE s0 D cy) (hl : l.stackTraces = false) {L : List Nat} {f : gF} {a N : Nat} {g0 : Nat → Int32} (hN9 : N < 2 ^ 20) (ha : gH L f a (.inl (cy 0, N, .inl g0))) (x : Int32) : gM l s0 D yJ7_fill_53178 cJ7_fill_53178 4 none 1 0 0 [.ref a, .int x] L f (fun v L1 f1 => v = none ∧ L = L1 ∧ ∃ g, f1 = va_up f a (.inl (cy 0, N, .inl g)) ∧ ∀ q, q < N → g q = x) := by
  refine gM.of (own := RJ7) hE hl (by decide +kernel) rfl rfl (Nat.le_of_ble_eq_true rfl) (fun p9 e9 s9 m9 a99 b99 t99 c9 C hr hnm => ?_)
  refine G.weak (ls' := [some (.ref a), some (.int x), none, none]) ?_ rfl (fun _ _ h => h)
  refine g_iconst (n := 1) (v := nI 0) C dJ7_fill_53178_0 rfl rfl ?_
  refine g_istore_n (n := 2) (ls' := [_, _, _, _]) C dJ7_fill_53178_1 rfl (by decide) rfl ?_
  refine g_aload_n (n := 3) C dJ7_fill_53178_2 rfl (Or.inr ⟨_, rfl⟩) rfl ?_
  refine g_alen (n := 4) (t := 0) C dJ7_fill_53178_3 rfl (by assumption) rfl rfl ?_
  refine G.top (y := nI N) rfl ?_
  refine g_istore_n (n := 5) (ls' := [_, _, _, _]) C dJ7_fill_53178_4 rfl (by decide) rfl ?_
  refine g_loop (α := Nat × (Nat → Int32)) (fun z => z.1 ≤ N ∧ ∀ q, q < z.1 → z.2 q = x) (fun z => N - z.1) (fun _ => L) (fun z => va_up f a (.inl (cy 0, N, .inl z.2))) (fun _ => 0) (fun _ => 0) 5 (fun z => [some (.ref a), some (.int x), some (.int (nI z.1)), some (.int (nI N))]) (fun _ => []) (fun z hz ih => ?_) (fun J => G.fx (upf_id ha.2) (J (0, g0) ⟨Nat.zero_le _, fun q hq => absurd hq (Nat.not_lt_zero q)⟩))
  obtain ⟨i, g⟩ := z
  obtain ⟨hi9, hg⟩ := hz
  dsimp only at hi9 hg ih ⊢
  have ha1 := ha.up (e1 := .inl (cy 0, N, .inl g))
  refine g_iload_n (n := 6) C dJ7_fill_53178_5 rfl rfl ?_
  refine g_iload_n (n := 7) C dJ7_fill_53178_6 rfl rfl ?_
  refine g_icmp_ge (n := 10) (tgt := 20) C dJ7_fill_53178_7 (by decide) rfl (fun h7 => ?_) (fun h7 => ?_)
  · have e9 : N = i := by have := gn_ge h7 (by omega) (by omega); omega
    subst e9
    refine g_vret C hr dJ7_fill_53178_20 ?_ ⟨by decide, by decide⟩
    exact ⟨rfl, rfl, g, rfl, hg⟩
  · have hi : i < N := gn_gt h7 (by omega) (by omega)
    refine g_aload_n (n := 11) C dJ7_fill_53178_10 rfl (Or.inr ⟨_, rfl⟩) rfl ?_
    refine g_iload_n (n := 12) C dJ7_fill_53178_11 rfl rfl ?_
    refine g_iload_n (n := 13) C dJ7_fill_53178_12 rfl rfl ?_
    refine g_iast (n := 14) C dJ7_fill_53178_13 ha1 rfl (by omega) (by omega) rfl ?_
    refine g_iinc (n := 17) (ls' := [_, _, _, _]) C dJ7_fill_53178_14 rfl (nI_1 _) rfl (by decide) rfl ?_
    refine g_goto (tgt := 5) C dJ7_fill_53178_17 (by decide) ?_
    rw [up_up]
    exact ih (i + 1, upd g i x) ⟨hi, fun q hq => upd_ext (G := fun _ => x) hg hq⟩ (by show N - (i + 1) < N - i; omega)
def D3 : List Value := [.null, .int 0, .int 0]
def D4 : List Value := [.null, .int 0]
def D0 : List Value := [.null, .int 0, .null]
theorem hD3 : ∀ j, j < 3 → defaultValue (tyX3 j) = vp_V D3 j := by
  intro j hj
  rcases (show j = 0 ∨ j = 1 ∨ j = 2 by omega) with rfl | rfl | rfl <;> rfl
theorem hD4 : ∀ j, j < 2 → defaultValue (tyX4 j) = vp_V D4 j := by
  intro j hj
  rcases (show j = 0 ∨ j = 1 by omega) with rfl | rfl <;> rfl
theorem hD0 : ∀ j, j < 3 → defaultValue (tyX0 j) = vp_V D0 j := by
  intro j hj
  rcases (show j = 0 ∨ j = 1 ∨ j = 2 by omega) with rfl | rfl | rfl <;> rfl
theorem k5_recInit {l : Launch} {s0 : State} {D : va_G} {cy : Nat → ClassId} (hE : gE s0 D cy) (hl : l.stackTraces = false) {L : List Nat} {f : gF} {r : Nat} (hr9 : gH L f r (.inr (3, D3))) : gM l s0 D yX3_init cX3_init 1 none 1 1 10 [.ref r] L f (fun v L1 f1 => v = none ∧ ∃ q, q ∉ L ∧ L1 = L ++ [q] ∧ f1 = va_up (va_up f q (.inl (cy 6, 10, .inr (.inr (.inr (.inr (fun _ => none))))))) r (.inr (3, [.ref q, .int 0, .int 0]))) := by
  refine gM.of (own := RX3) hE hl (by decide +kernel) rfl rfl (Nat.le_of_ble_eq_true rfl) (fun p9 e9 s9 m9 a99 b99 t99 c9 C hr hnm => ?_)
  refine G.weak (ls' := [some (.ref r)]) ?_ rfl (fun _ _ h => h)
  refine g_aload_n (n := 1) C dX3_init_0 rfl (Or.inr ⟨_, rfl⟩) rfl ?_
  refine g_objInit (n := 4) C dX3_init_1 (List.mem_of_getElem? (i := 103) (by decide +kernel)) (List.mem_of_getElem? (i := 68) (by decide +kernel)) (List.mem_of_getElem? (i := 69) (by decide +kernel)) ⟨by decide, by decide⟩ rfl ?_
  refine g_aload_n (n := 5) C dX3_init_4 rfl (Or.inr ⟨_, rfl⟩) rfl ?_
  refine g_bipush (n := 7) (v := nI 10) C dX3_init_5 rfl rfl ?_
  refine g_newq (n := 10) (t := 6) (Cn := "LayeredImages$Instruction") C dX3_init_7 rfl rfl (by decide) (List.mem_of_getElem? (i := 104) (by decide +kernel)) (List.mem_of_getElem? (i := 105) (by decide +kernel)) ⟨by decide, by decide⟩ rfl (fun q hq => ?_)
  refine g_putF (n := 13) C dX3_init_10 kP_X3_11 hnm (hr9.push hq) ⟨rfl, rfl⟩ (Nat.le_of_ble_eq_true rfl) rfl ?_
  refine g_vret C hr dX3_init_13 ?_ ⟨by decide, by decide⟩
  exact ⟨rfl, q, hq, rfl, rfl⟩
theorem k5_stoInit {l : Launch} {s0 : State} {D : va_G} {cy : Nat → ClassId} (hE : gE s0 D cy) (hl : l.stackTraces = false) {L : List Nat} {f : gF} {r : Nat} (hr9 : gH L f r (.inr (4, D4))) : gM l s0 D yX4_init cX4_init 1 none 1 1 420 [.ref r] L f (fun v L1 f1 => v = none ∧ ∃ q, q ∉ L ∧ L1 = L ++ [q] ∧ f1 = va_up (va_up f q (.inl (cy 5, 420, .inr (.inr (.inr (.inr (fun _ => none))))))) r (.inr (4, [.ref q, .int 0]))) := by
  refine gM.of (own := RX4) hE hl (by decide +kernel) rfl rfl (Nat.le_of_ble_eq_true rfl) (fun p9 e9 s9 m9 a99 b99 t99 c9 C hr hnm => ?_)
  refine G.weak (ls' := [some (.ref r)]) ?_ rfl (fun _ _ h => h)
  refine g_aload_n (n := 1) C dX4_init_0 rfl (Or.inr ⟨_, rfl⟩) rfl ?_
  refine g_objInit (n := 4) C dX4_init_1 (List.mem_of_getElem? (i := 81) (by decide +kernel)) (List.mem_of_getElem? (i := 68) (by decide +kernel)) (List.mem_of_getElem? (i := 69) (by decide +kernel)) ⟨by decide, by decide⟩ rfl ?_
  refine g_aload_n (n := 5) C dX4_init_4 rfl (Or.inr ⟨_, rfl⟩) rfl ?_
  refine g_sipush (n := 8) (v := nI 420) C dX4_init_5 rfl rfl ?_
  refine g_newq (n := 11) (t := 5) (Cn := "LayeredImages$Layer") C dX4_init_8 rfl rfl (by decide) (List.mem_of_getElem? (i := 82) (by decide +kernel)) (List.mem_of_getElem? (i := 75) (by decide +kernel)) ⟨by decide, by decide⟩ rfl (fun q hq => ?_)
  refine g_putF (n := 14) C dX4_init_11 kP_X4_11 hnm (hr9.push hq) ⟨rfl, rfl⟩ (Nat.le_of_ble_eq_true rfl) rfl ?_
  refine g_vret C hr dX4_init_14 ?_ ⟨by decide, by decide⟩
  exact ⟨rfl, q, hq, rfl, rfl⟩
theorem k5_bldInit {l : Launch} {s0 : State} {D : va_G} {cy : Nat → ClassId} (hE : gE s0 D cy) (hl : l.stackTraces = false) {L : List Nat} {f : gF} {r : Nat} (hr9 : gH L f r (.inr (0, D0))) : gM l s0 D yX0_init cX0_init 1 none 2 2 13 [.ref r] L f (fun v L1 f1 => v = none ∧ ∃ q w, q ∉ L ∧ w ∉ L ∧ w ≠ q ∧ L1 = L ++ [q] ++ [w] ∧ f1 = va_up (va_up (va_up (va_up f q (.inr (3, D3))) w (.inl (cy 6, 10, .inr (.inr (.inr (.inr (fun _ => none))))))) q (.inr (3, [.ref w, .int 0, .int 0]))) r (.inr (0, [.ref q, .int 0, .null]))) := by
  refine gM.of (own := RX0) hE hl (by decide +kernel) rfl rfl (Nat.le_of_ble_eq_true rfl) (fun p9 e9 s9 m9 a99 b99 t99 c9 C hr hnm => ?_)
  refine G.weak (ls' := [some (.ref r)]) ?_ rfl (fun _ _ h => h)
  refine g_aload_n (n := 1) C dX0_init_0 rfl (Or.inr ⟨_, rfl⟩) rfl ?_
  refine g_objInit (n := 4) C dX0_init_1 (List.mem_of_getElem? (i := 97) (by decide +kernel)) (List.mem_of_getElem? (i := 68) (by decide +kernel)) (List.mem_of_getElem? (i := 69) (by decide +kernel)) ⟨by decide, by decide⟩ rfl ?_
  refine g_aload_n (n := 5) C dX0_init_4 rfl (Or.inr ⟨_, rfl⟩) rfl ?_
  refine g_new (n := 8) (ci := 3) (fs := D3) C tyX3 dX0_init_5 rfl uX3 tyX3_ok hD3 (List.mem_of_getElem? (i := 98) (by decide +kernel)) (List.mem_of_getElem? (i := 99) (by decide +kernel)) (List.mem_of_getElem? (i := 52) (by decide +kernel)) ⟨by decide, by decide⟩ rfl (fun q hq9 => ?_)
  refine g_dup (n := 9) C dX0_init_8 rfl rfl ?_
  refine g_I (n := 12) (rest := [_, _]) C (k5_recInit hE hl gH.new) dX0_init_9 kM_X3_init kL_X0_9 kI_X3_init rfl rfl (Nat.le_of_ble_eq_true rfl) ⟨by decide, by decide⟩ ⟨by decide, by decide⟩ rfl (fun v9 L9 f9 hq => ?_)
  obtain ⟨rfl, w, hw, rfl, rfl⟩ := hq
  refine G.sk (st' := [_, _]) rfl ?_
  refine g_putF (n := 15) C dX0_init_12 kP_X0_10 hnm (((hr9.push hq9).push hw).ne (gH.nq hr9 hq9)) ⟨rfl, rfl⟩ (Nat.le_of_ble_eq_true rfl) rfl ?_
  refine g_vret C hr dX0_init_15 ?_ ⟨by decide, by decide⟩
  exact ⟨rfl, q, w, hq9, fun z => hw (List.mem_append_left _ z), fun z => hw (z ▸ List.mem_append_right _ List.mem_cons_self), rfl, rfl⟩

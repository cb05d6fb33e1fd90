/-! ===== the class, IV: recipes, the build, the store ===== -/
theorem gH.push {L : List Nat} {f : gF} {b q : Nat} {e e1 : va_E} (h : gH L f b e) (hq : q ∉ L) : gH (L ++ [q]) (va_up f q e1) b e := h.of (List.mem_append_left _ h.1) (va_up_ne _ _ (fun z => hq (z ▸ h.1)))
theorem gH.new {L : List Nat} {f : gF} {q : Nat} {e : va_E} : gH (L ++ [q]) (va_up f q e) q e := ⟨List.mem_append_right _ List.mem_cons_self, va_up_self _ _ _⟩
theorem gH.nq {L : List Nat} {f : gF} {b q : Nat} {e : va_E} (h : gH L f b e) (hq : q ∉ L) : b ≠ q := fun z => hq (z ▸ h.1)
/-- the pool grew; of the old cells only a may have changed -/
def fr9 (L : List Nat) (f : gF) (L1 : List Nat) (f1 : gF) (a : Nat) : Prop := (∀ b, b ∈ L → b ∈ L1) ∧ ∀ b, b ∈ L → b ≠ a → f1 b = f b
theorem fr9.at {L L1 : List Nat} {f f1 : gF} {a b : Nat} {e : va_E} (h : fr9 L f L1 f1 a) (hb : gH L f b e) (hn : b ≠ a) : gH L1 f1 b e := hb.of (h.1 b hb.1) (h.2 b hb.1 hn)
theorem gn_add1 (x : Nat) : nI x + nI 1 = nI (x + 1) := nI_add x 1
section GAAST
variable {p : Program} {l : Launch} {e : Env} {R : Room} {s : State} {m : MethodId} {args : Array Value} {below : List Frame} {meth : Method} {c : Code} {Q : State → Prop}
variable {s0 : State} {D : va_G} {cy : Nat → ClassId} {L0 : List Nat} {nL : Nat} {cc : ByteArray} {own : String} {L : List Nat} {f : gF} {ce sl pc n : Nat} {ls : List (Option Value)} {st : List Value}
theorem g_aastO (C : gC p l e R s m args below meth c s0 D cy L0 cc nL own) {a j N t ci : Nat} {o : Option Nat} {g : Nat → Option Nat} {i : Int32} {r : vw_C} (d : decode cc pc = .ok (.aastore, 1)) (ht : (gTy cy)[t]? = some (cy t, .object r.1)) (hc : vwCl[ci]? = some r) (ha : gH L f a (.inl (cy t, N, .inr (.inr (.inr (.inr g)))))) (hv : ∀ v, o = some v → ∃ vs, gH L f v (.inr (ci, vs))) (hi : i = nI j) (hj : j < N) (hN : N < 2 ^ 31) (hn : pc + 1 = n) (kk : G p l e R s m args below meth c Q D L0 nL L (va_up f a (.inl (cy t, N, .inr (.inr (.inr (.inr (va_up g j o))))))) ce sl n ls (st)) : G p l e R s m args below meth c Q D L0 nL L f ce sl pc ls (va_rf o :: .int i :: .ref a :: st) := by
  cases o with
  | none => exact g_aastN C d ht ha hi hj hN hn kk
  | some v =>
    obtain ⟨vs, hv⟩ := hv v rfl
    exact g_aast C d ht hc ha hv hi hj hN hn kk
end GAAST
theorem k5_at {l : Launch} {s0 : State} {D : va_G} {cy : Nat → ClassId} (hE : gE s0 D cy) (hl : l.stackTraces = false) {L : List Nat} {f : gF} {r w c : Nat} {bs : Int32} {g : Nat → Option Nat} (hr9 : gH L f r (.inr (3, [.ref w, .int bs, .int (nI c)]))) (hw9 : gH L f w (.inl (cy 6, 10, .inr (.inr (.inr (.inr g)))))) {p : Nat} (hp9 : p < 10) : gM l s0 D yX3_at cX3_at 2 (some (.object RX1)) 2 0 0 [.ref r, .int (nI p)] L f (fun v L1 f1 => v = some (va_rf (g p)) ∧ L = L1 ∧ f = f1) := by
  refine gM.of (own := RX3) hE hl (by decide +kernel) rfl rfl (Nat.le_of_ble_eq_true rfl) (fun p9 e9 s9 m9 a99 b99 t99 c9 C hr hnm => ?_)
  refine G.weak (ls' := [some (.ref r), some (.int (nI p))]) ?_ rfl (fun _ _ h => h)
  refine g_iload_n (n := 1) C dX3_at_0 rfl rfl ?_
  refine g_aload_n (n := 2) C dX3_at_1 rfl (Or.inr ⟨_, rfl⟩) rfl ?_
  refine g_get (n := 5) C dX3_at_2 kF_X3_11 (by assumption) rfl rfl ?_
  refine g_alen (n := 6) (t := 6) C dX3_at_5 rfl (by assumption) rfl rfl ?_
  refine g_S (n := 9) (rest := []) C (k5_isIn hE hl (nI p) (nI 10)) dX3_at_6 kM_X5_isIn kL_X3_17 kS_X5_isIn rfl rfl (Nat.le_of_ble_eq_true rfl) ⟨by decide, by decide⟩ ⟨by decide, by decide⟩ rfl (fun v9 L9 f9 hq => ?_)
  obtain ⟨rfl, rfl, rfl⟩ := hq
  refine G.sk (st' := [_]) rfl ?_
  refine g_if_eq (n := 12) (tgt := 21) C dX3_at_9 (by decide) rfl (fun h9 => absurd h9 (in_t hp9 (by decide))) (fun h9 => ?_)
  refine g_aload_n (n := 13) C dX3_at_12 rfl (Or.inr ⟨_, rfl⟩) rfl ?_
  refine g_get (n := 16) C dX3_at_13 kF_X3_11 (by assumption) rfl rfl ?_
  refine g_iload_n (n := 17) C dX3_at_16 rfl rfl ?_
  refine g_aald (n := 18) (t := 6) C dX3_at_17 rfl rfl (by assumption) rfl (by omega) (by decide) rfl ?_
  refine g_goto (tgt := 22) C dX3_at_18 (by decide) ?_
  refine g_aret (o := g p) C hr (Or.inl ⟨_, rfl⟩) dX3_at_22 ?_ ⟨by decide, by decide⟩
  exact ⟨rfl, rfl, rfl⟩
theorem k5_clearOn {l : Launch} {s0 : State} {D : va_G} {cy : Nat → ClassId} (hE : gE s0 D cy) (hl : l.stackTraces = false) {L : List Nat} {f : gF} {r w c : Nat} {bs : Int32} {g : Nat → Option Nat} (hr9 : gH L f r (.inr (3, [.ref w, .int bs, .int (nI c)]))) (hw9 : gH L f w (.inl (cy 6, 10, .inr (.inr (.inr (.inr g)))))) (x : Int32) : gM l s0 D yX3_clearOn cX3_clearOn 2 none 1 0 0 [.ref r, .int x] L f (fun v L1 f1 => v = none ∧ L = L1 ∧ f1 = va_up f r (.inr (3, [.ref w, .int x, .int (nI 0)]))) := by
  refine gM.of (own := RX3) hE hl (by decide +kernel) rfl rfl (Nat.le_of_ble_eq_true rfl) (fun p9 e9 s9 m9 a99 b99 t99 c9 C hr hnm => ?_)
  refine G.weak (ls' := [some (.ref r), some (.int x)]) ?_ rfl (fun _ _ h => h)
  refine g_aload_n (n := 1) C dX3_clearOn_0 rfl (Or.inr ⟨_, rfl⟩) rfl ?_
  refine g_iload_n (n := 2) C dX3_clearOn_1 rfl rfl ?_
  refine g_put (n := 5) C dX3_clearOn_2 kP_X3_21 (by assumption) ⟨rfl, rfl⟩ (Nat.le_of_ble_eq_true rfl) rfl ?_
  refine g_aload_n (n := 6) C dX3_clearOn_5 rfl (Or.inr ⟨_, rfl⟩) rfl ?_
  refine g_iconst (n := 7) (v := nI 0) C dX3_clearOn_6 rfl rfl ?_
  refine g_put (n := 10) C dX3_clearOn_7 kP_X3_25 hr9.up ⟨rfl, rfl⟩ (Nat.le_of_ble_eq_true rfl) rfl ?_
  rw [up_up]
  refine g_vret C hr dX3_clearOn_10 ?_ ⟨by decide, by decide⟩
  exact ⟨rfl, rfl, rfl⟩
theorem k5_append {l : Launch} {s0 : State} {D : va_G} {cy : Nat → ClassId} (hE : gE s0 D cy) (hl : l.stackTraces = false) {L : List Nat} {f : gF} {r w c : Nat} {bs : Int32} {g : Nat → Option Nat} (hr9 : gH L f r (.inr (3, [.ref w, .int bs, .int (nI c)]))) (hw9 : gH L f w (.inl (cy 6, 10, .inr (.inr (.inr (.inr g)))))) {i9 : Nat} {ki fi se : Int32} (hI : gH L f i9 (.inr (1, [.int ki, .int fi, .int se]))) (hc9 : c < 10) : gM l s0 D yX3_append cX3_append 2 none 2 0 0 [.ref r, .ref i9] L f (fun v L1 f1 => v = none ∧ L = L1 ∧ f1 = va_up (va_up f w (.inl (cy 6, 10, .inr (.inr (.inr (.inr (va_up g c (some i9)))))))) r (.inr (3, [.ref w, .int bs, .int (nI (c + 1))]))) := by
  refine gM.of (own := RX3) hE hl (by decide +kernel) rfl rfl (Nat.le_of_ble_eq_true rfl) (fun p9 e9 s9 m9 a99 b99 t99 c9 C hr hnm => ?_)
  refine G.weak (ls' := [some (.ref r), some (.ref i9)]) ?_ rfl (fun _ _ h => h)
  refine g_aload_n (n := 1) C dX3_append_0 rfl (Or.inr ⟨_, rfl⟩) rfl ?_
  refine g_get (n := 4) C dX3_append_1 kF_X3_25 (by assumption) rfl rfl ?_
  refine g_aload_n (n := 5) C dX3_append_4 rfl (Or.inr ⟨_, rfl⟩) rfl ?_
  refine g_get (n := 8) C dX3_append_5 kF_X3_11 (by assumption) rfl rfl ?_
  refine g_alen (n := 9) (t := 6) C dX3_append_8 rfl (by assumption) rfl rfl ?_
  refine g_S (n := 12) (rest := []) C (k5_isIn hE hl (nI c) (nI 10)) dX3_append_9 kM_X5_isIn kL_X3_17 kS_X5_isIn rfl rfl (Nat.le_of_ble_eq_true rfl) ⟨by decide, by decide⟩ ⟨by decide, by decide⟩ rfl (fun v9 L9 f9 hq => ?_)
  obtain ⟨rfl, rfl, rfl⟩ := hq
  refine G.sk (st' := [_]) rfl ?_
  refine g_if_eq (n := 15) (tgt := 35) C dX3_append_12 (by decide) rfl (fun h12 => absurd h12 (in_t hc9 (by decide))) (fun h12 => ?_)
  refine g_aload_n (n := 16) C dX3_append_15 rfl (Or.inr ⟨_, rfl⟩) rfl ?_
  refine g_get (n := 19) C dX3_append_16 kF_X3_11 (by assumption) rfl rfl ?_
  refine g_aload_n (n := 20) C dX3_append_19 rfl (Or.inr ⟨_, rfl⟩) rfl ?_
  refine g_get (n := 23) C dX3_append_20 kF_X3_25 (by assumption) rfl rfl ?_
  refine g_aload_n (n := 24) C dX3_append_23 rfl (Or.inr ⟨_, rfl⟩) rfl ?_
  refine g_aast (n := 25) (t := 6) (ci := 1) C dX3_append_24 rfl rfl (by assumption) (by assumption) rfl (by omega) (by decide) rfl ?_
  refine g_aload_n (n := 26) C dX3_append_25 rfl (Or.inr ⟨_, rfl⟩) rfl ?_
  refine g_dup (n := 27) C dX3_append_26 rfl rfl ?_
  refine g_get (n := 30) C dX3_append_27 kF_X3_25 (hr9.ne (gH.apart hr9 hw9 (fun e => by cases e))) rfl rfl ?_
  refine g_iconst (n := 31) (v := nI 1) C dX3_append_30 rfl rfl ?_
  refine g_iaddN (n := 32) C dX3_append_31 rfl ?_
  refine g_put (n := 35) C dX3_append_32 kP_X3_25 (hr9.ne (gH.apart hr9 hw9 (fun e => by cases e))) ⟨rfl, rfl⟩ (Nat.le_of_ble_eq_true rfl) rfl ?_
  refine g_vret C hr dX3_append_35 ?_ ⟨by decide, by decide⟩
  exact ⟨rfl, rfl, rfl⟩
/-- a row from which the entry at p was taken -/
def rmG (g : Nat → Option Nat) (p i : Nat) (q : Nat) : Option Nat := if p ≤ q ∧ q < i then g (q + 1) else g q
theorem k5_removeAt {l : Launch} {s0 : State} {D : va_G} {cy : Nat → ClassId} (hE : gE s0 D cy) (hl : l.stackTraces = false) {L : List Nat} {f : gF} {r w c : Nat} {bs : Int32} {g : Nat → Option Nat} (hr9 : gH L f r (.inr (3, [.ref w, .int bs, .int (nI c)]))) (hw9 : gH L f w (.inl (cy 6, 10, .inr (.inr (.inr (.inr g)))))) {p : Nat} (hp9 : p < c) (hc9 : c ≤ 10) (hg9 : ∀ q v, g q = some v → ∃ vs, gH L f v (.inr (1, vs))) : gM l s0 D yX3_removeAt cX3_removeAt 3 none 2 0 0 [.ref r, .int (nI p)] L f (fun v L1 f1 => v = none ∧ L = L1 ∧ ∃ g1, f1 = va_up (va_up f w (.inl (cy 6, 10, .inr (.inr (.inr (.inr g1)))))) r (.inr (3, [.ref w, .int bs, .int (nI (c - 1))])) ∧ ∀ q, g1 q = rmG g p 9 q) := by
  refine gM.of (own := RX3) hE hl (by decide +kernel) rfl rfl (Nat.le_of_ble_eq_true rfl) (fun p9 e9 s9 m9 a99 b99 t99 c9 C hr hnm => ?_)
  refine G.weak (ls' := [some (.ref r), some (.int (nI p)), none]) ?_ rfl (fun _ _ h => h)
  refine g_iload_n (n := 1) C dX3_removeAt_0 rfl rfl ?_
  refine g_aload_n (n := 2) C dX3_removeAt_1 rfl (Or.inr ⟨_, rfl⟩) rfl ?_
  refine g_get (n := 5) C dX3_removeAt_2 kF_X3_25 (by assumption) rfl rfl ?_
  refine g_S (n := 8) (rest := []) C (k5_isIn hE hl (nI p) (nI c)) dX3_removeAt_5 kM_X5_isIn kL_X3_17 kS_X5_isIn rfl rfl (Nat.le_of_ble_eq_true rfl) ⟨by decide, by decide⟩ ⟨by decide, by decide⟩ rfl (fun v9 L9 f9 hq => ?_)
  obtain ⟨rfl, rfl, rfl⟩ := hq
  refine G.sk (st' := [_]) rfl ?_
  refine g_if_eq (n := 11) (tgt := 54) C dX3_removeAt_8 (by decide) rfl (fun h8 => absurd h8 (in_t hp9 (by omega))) (fun h8 => ?_)
  refine g_iload_n (n := 12) C dX3_removeAt_11 rfl rfl ?_
  refine g_istore_n (n := 13) (ls' := [_, _, _]) C dX3_removeAt_12 rfl (by decide) rfl ?_
  refine g_loop (α := Nat × (Nat → Option Nat)) (fun z => p ≤ z.1 ∧ z.1 < 10 ∧ ∀ q, z.2 q = rmG g p z.1 q) (fun z => 10 - z.1) (fun _ => L) (fun z => va_up f w (.inl (cy 6, 10, .inr (.inr (.inr (.inr z.2)))))) (fun _ => 0) (fun _ => 0) 13 (fun z => [some (.ref r), some (.int (nI p)), some (.int (nI z.1))]) (fun _ => []) (fun z hz ih => ?_) (fun J => G.fx (upf_id hw9.2) (J (p, g) ⟨Nat.le_refl _, by show p < 10; omega, fun q => (if_neg (by show ¬ (p ≤ q ∧ q < p); omega)).symm⟩))
  obtain ⟨i, g1⟩ := z
  obtain ⟨hi1, hi9, hg⟩ := hz
  dsimp only at hi1 hi9 hg ih ⊢
  have hr1 := hr9.ne (e1 := .inl (cy 6, 10, .inr (.inr (.inr (.inr g1))))) (gH.apart hr9 hw9 (fun e => by cases e))
  have hw1 := hw9.up (e1 := .inl (cy 6, 10, .inr (.inr (.inr (.inr g1)))))
  refine g_iload_n (n := 14) C dX3_removeAt_13 rfl rfl ?_
  refine g_iconst (n := 15) (v := nI 1) C dX3_removeAt_14 rfl rfl ?_
  refine g_iaddN (n := 16) C dX3_removeAt_15 rfl ?_
  refine g_aload_n (n := 17) C dX3_removeAt_16 rfl (Or.inr ⟨_, rfl⟩) rfl ?_
  refine g_get (n := 20) C dX3_removeAt_17 kF_X3_11 (by assumption) rfl rfl ?_
  refine g_alen (n := 21) (t := 6) C dX3_removeAt_20 rfl (by assumption) rfl rfl ?_
  refine G.top (y := nI 10) rfl ?_
  refine g_icmp_ge (n := 24) (tgt := 44) C dX3_removeAt_21 (by decide) rfl (fun h21 => ?_) (fun h21 => ?_)
  · have e9 : i = 9 := by have := gn_ge h21 (by decide) (by omega); omega
    subst e9
    refine g_aload_n (n := 45) C dX3_removeAt_44 rfl (Or.inr ⟨_, rfl⟩) rfl ?_
    refine g_dup (n := 46) C dX3_removeAt_45 rfl rfl ?_
    refine g_get (n := 49) C dX3_removeAt_46 kF_X3_25 (by assumption) rfl rfl ?_
    refine g_iconst (n := 50) (v := nI 1) C dX3_removeAt_49 rfl rfl ?_
    refine g_isubN (n := 51) C dX3_removeAt_50 (by omega) rfl ?_
    refine g_put (n := 54) C dX3_removeAt_51 kP_X3_25 (by assumption) ⟨rfl, rfl⟩ (Nat.le_of_ble_eq_true rfl) rfl ?_
    refine g_vret C hr dX3_removeAt_54 ?_ ⟨by decide, by decide⟩
    exact ⟨rfl, rfl, g1, rfl, hg⟩
  · have hi : i + 1 < 10 := gn_gt h21 (by decide) (by omega)
    refine g_aload_n (n := 25) C dX3_removeAt_24 rfl (Or.inr ⟨_, rfl⟩) rfl ?_
    refine g_get (n := 28) C dX3_removeAt_25 kF_X3_11 (by assumption) rfl rfl ?_
    refine g_iload_n (n := 29) C dX3_removeAt_28 rfl rfl ?_
    refine g_aload_n (n := 30) C dX3_removeAt_29 rfl (Or.inr ⟨_, rfl⟩) rfl ?_
    refine g_get (n := 33) C dX3_removeAt_30 kF_X3_11 (by assumption) rfl rfl ?_
    refine g_iload_n (n := 34) C dX3_removeAt_33 rfl rfl ?_
    refine g_iconst (n := 35) (v := nI 1) C dX3_removeAt_34 rfl rfl ?_
    refine g_iaddN (n := 36) C dX3_removeAt_35 rfl ?_
    refine g_aald (n := 37) (t := 6) C dX3_removeAt_36 rfl rfl (by assumption) rfl (by omega) (by decide) rfl ?_
    refine g_aastO (n := 38) (t := 6) (ci := 1) C dX3_removeAt_37 rfl rfl (by assumption) (fun v hv => by
        have hv2 := (hg (i + 1)).symm.trans hv
        obtain ⟨vs, hv3⟩ := hg9 _ v (by unfold rmG at hv2; rw [if_neg (by omega)] at hv2; exact hv2)
        exact ⟨vs, hv3.ne (gH.apart hv3 hw9 (fun e => by cases e))⟩) rfl (by omega) (by decide) rfl ?_
    refine g_iinc (n := 41) (ls' := [_, _, _]) C dX3_removeAt_38 rfl (nI_1 _) rfl (by decide) rfl ?_
    refine g_goto (tgt := 13) C dX3_removeAt_41 (by decide) ?_
    rw [up_up]
    refine ih (i + 1, va_up g1 i (g1 (i + 1))) ⟨by show p ≤ i + 1; omega, by show i + 1 < 10; omega, fun q => ?_⟩ (by show 10 - (i + 1) < 10 - i; omega)
    show va_up g1 i (g1 (i + 1)) q = rmG g p (i + 1) q
    by_cases e : q = i
    · rw [e, va_up_self, hg (i + 1)]
      unfold rmG
      rw [if_neg (by omega), if_pos (by omega)]
    · rw [va_up_ne _ _ e, hg q]
      unfold rmG
      by_cases h2 : p ≤ q ∧ q < i
      · rw [if_pos h2, if_pos (by omega)]
      · rw [if_neg h2, if_neg (by omega)]
theorem k5_becomeLike {l : Launch} {s0 : State} {D : va_G} {cy : Nat → ClassId} (hE : gE s0 D cy) (hl : l.stackTraces = false) {L : List Nat} {f : gF} {r w c : Nat} {bs : Int32} {g : Nat → Option Nat} (hr9 : gH L f r (.inr (3, [.ref w, .int bs, .int (nI c)]))) (hw9 : gH L f w (.inl (cy 6, 10, .inr (.inr (.inr (.inr g)))))) {r2 w2 c2 : Nat} {bs2 : Int32} {g2 : Nat → Option Nat} (hr2 : gH L f r2 (.inr (3, [.ref w2, .int bs2, .int (nI c2)]))) (hw2 : gH L f w2 (.inl (cy 6, 10, .inr (.inr (.inr (.inr g2)))))) (hrr : r2 ≠ r) (hww : w2 ≠ w) (hc9 : c2 ≤ 10) (hg9 : ∀ q, q < c2 → ∃ v k1 k2 k3, g2 q = some v ∧ gH L f v (.inr (1, [.int k1, .int k2, .int k3]))) : gM l s0 D yX3_becomeLike cX3_becomeLike 3 none 3 0 0 [.ref r, .ref r2] L f (fun v L1 f1 => v = none ∧ L = L1 ∧ ∃ g1, f1 = va_up (va_up f w (.inl (cy 6, 10, .inr (.inr (.inr (.inr g1)))))) r (.inr (3, [.ref w, .int bs2, .int (nI c2)])) ∧ (∀ q, q < c2 → g1 q = g2 q) ∧ ∀ q, c2 ≤ q → g1 q = g q) := by
  refine gM.of (own := RX3) hE hl (by decide +kernel) rfl rfl (Nat.le_of_ble_eq_true rfl) (fun p9 e9 s9 m9 a99 b99 t99 c9 C hr hnm => ?_)
  refine G.weak (ls' := [some (.ref r), some (.ref r2), none]) ?_ rfl (fun _ _ h => h)
  refine g_aload_n (n := 1) C dX3_becomeLike_0 rfl (Or.inr ⟨_, rfl⟩) rfl ?_
  refine g_aload_n (n := 2) C dX3_becomeLike_1 rfl (Or.inr ⟨_, rfl⟩) rfl ?_
  refine g_get (n := 5) C dX3_becomeLike_2 kF_X3_21 (by assumption) rfl rfl ?_
  refine g_V (n := 8) (rest := []) C (k5_clearOn hE hl hr9 hw9 _) dX3_becomeLike_5 kM_X3_clearOn kL_X3_28 kV_X3_clearOn (by assumption) rfl rfl rfl (Nat.le_of_ble_eq_true rfl) ⟨by decide, by decide⟩ ⟨by decide, by decide⟩ rfl (fun v9 L9 f9 hq => ?_)
  obtain ⟨rfl, rfl, rfl⟩ := hq
  refine G.sk (st' := []) rfl ?_
  refine g_iconst (n := 9) (v := nI 0) C dX3_becomeLike_8 rfl rfl ?_
  refine g_istore_n (n := 10) (ls' := [_, _, _]) C dX3_becomeLike_9 rfl (by decide) rfl ?_
  refine g_loop (α := Nat × (Nat → Option Nat)) (fun z => z.1 ≤ c2 ∧ (∀ q, q < z.1 → z.2 q = g2 q) ∧ ∀ q, z.1 ≤ q → z.2 q = g q) (fun z => c2 - z.1) (fun _ => L) (fun z => va_up (va_up f w (.inl (cy 6, 10, .inr (.inr (.inr (.inr z.2)))))) r (.inr (3, [.ref w, .int bs2, .int (nI z.1)]))) (fun _ => 0) (fun _ => 0) 10 (fun z => [some (.ref r), some (.ref r2), some (.int (nI z.1))]) (fun _ => []) (fun z hz ih => ?_) (fun J => G.fx (by rw [upf_id hw9.2]) (J (0, g) ⟨Nat.zero_le _, fun q hq => absurd hq (Nat.not_lt_zero q), fun _ _ => rfl⟩))
  obtain ⟨i, g1⟩ := z
  obtain ⟨hi9, hg, hgo⟩ := hz
  dsimp only at hi9 hg hgo ih ⊢
  have hr1 : gH L (va_up (va_up f w (.inl (cy 6, 10, .inr (.inr (.inr (.inr g1)))))) r (.inr (3, [.ref w, .int bs2, .int (nI i)]))) r (.inr (3, [.ref w, .int bs2, .int (nI i)])) := (hr9.ne (gH.apart hr9 hw9 (fun e => by cases e))).up
  have hw1 : gH L (va_up (va_up f w (.inl (cy 6, 10, .inr (.inr (.inr (.inr g1)))))) r (.inr (3, [.ref w, .int bs2, .int (nI i)]))) w (.inl (cy 6, 10, .inr (.inr (.inr (.inr g1))))) := hw9.up.ne (gH.apart hr9 hw9 (fun e => by cases e)).symm
  have hr3 : gH L (va_up (va_up f w (.inl (cy 6, 10, .inr (.inr (.inr (.inr g1)))))) r (.inr (3, [.ref w, .int bs2, .int (nI i)]))) r2 (.inr (3, [.ref w2, .int bs2, .int (nI c2)])) := (hr2.ne (gH.apart hr2 hw9 (fun e => by cases e))).ne hrr
  have hw3 : gH L (va_up (va_up f w (.inl (cy 6, 10, .inr (.inr (.inr (.inr g1)))))) r (.inr (3, [.ref w, .int bs2, .int (nI i)]))) w2 (.inl (cy 6, 10, .inr (.inr (.inr (.inr g2))))) := (hw2.ne hww).ne (gH.apart hw2 hr9 (fun e => by cases e))
  refine g_iload_n (n := 11) C dX3_becomeLike_10 rfl rfl ?_
  refine g_aload_n (n := 12) C dX3_becomeLike_11 rfl (Or.inr ⟨_, rfl⟩) rfl ?_
  refine g_get (n := 15) C dX3_becomeLike_12 kF_X3_25 (by assumption) rfl rfl ?_
  refine g_icmp_ge (n := 18) (tgt := 33) C dX3_becomeLike_15 (by decide) rfl (fun h15 => ?_) (fun h15 => ?_)
  · have e9 : i = c2 := by have := gn_ge h15 (by omega) (by omega); omega
    subst e9
    refine g_vret C hr dX3_becomeLike_33 ?_ ⟨by decide, by decide⟩
    exact ⟨rfl, rfl, g1, rfl, hg, hgo⟩
  · have hi : i < c2 := gn_gt h15 (by omega) (by omega)
    obtain ⟨b9, k1, k2, k3, hb9, hcell⟩ := hg9 i hi
    have hcell1 := (hcell.ne (e1 := .inl (cy 6, 10, .inr (.inr (.inr (.inr g1))))) (gH.apart hcell hw9 (fun e => by cases e))).ne (e1 := .inr (3, [.ref w, .int bs2, .int (nI i)])) (gH.apart hcell hr9 (fun e => by cases e))
    refine g_aload_n (n := 19) C dX3_becomeLike_18 rfl (Or.inr ⟨_, rfl⟩) rfl ?_
    refine g_aload_n (n := 20) C dX3_becomeLike_19 rfl (Or.inr ⟨_, rfl⟩) rfl ?_
    refine g_iload_n (n := 21) C dX3_becomeLike_20 rfl rfl ?_
    refine g_V (n := 24) (rest := [_]) C (k5_at hE hl hr3 hw3 (p := i) (by omega)) dX3_becomeLike_21 kM_X3_at kL_X3_32 kV_X3_at hr3 rfl rfl rfl (Nat.le_of_ble_eq_true rfl) ⟨by decide, by decide⟩ ⟨by decide, by decide⟩ rfl (fun v9 L9 f9 hq => ?_)
    obtain ⟨rfl, rfl, rfl⟩ := hq
    refine G.sk (st' := [_, _]) rfl ?_
    rw [hb9]
    refine g_V (n := 27) (rest := []) C (k5_append hE hl hr1 hw1 hcell1 (by omega)) dX3_becomeLike_24 kM_X3_append kL_X3_36 kV_X3_append hr1 rfl rfl rfl (Nat.le_of_ble_eq_true rfl) ⟨by decide, by decide⟩ ⟨by decide, by decide⟩ rfl (fun v9 L9 f9 hq => ?_)
    obtain ⟨rfl, rfl, rfl⟩ := hq
    refine G.sk (st' := []) rfl ?_
    refine g_iinc (n := 30) (ls' := [_, _, _]) C dX3_becomeLike_27 rfl (nI_1 _) rfl (by decide) rfl ?_
    refine g_goto (tgt := 10) C dX3_becomeLike_30 (by decide) ?_
    have e8 : va_up (va_up (va_up (va_up f w (.inl (cy 6, 10, .inr (.inr (.inr (.inr g1)))))) r (.inr (3, [.ref w, .int bs2, .int (nI i)]))) w (.inl (cy 6, 10, .inr (.inr (.inr (.inr (va_up g1 i (some b9)))))))) r (.inr (3, [.ref w, .int bs2, .int (nI (i + 1))])) = va_up (va_up f w (.inl (cy 6, 10, .inr (.inr (.inr (.inr (va_up g1 i (some b9)))))))) r (.inr (3, [.ref w, .int bs2, .int (nI (i + 1))])) := up_2 (gH.apart hr9 hw9 (fun e => by cases e)).symm
    refine G.fx e8.symm (ih (i + 1, va_up g1 i (some b9)) ⟨by show i + 1 ≤ c2; omega, fun q hq => ?_, fun q hq => (va_up_ne _ _ (by have hq : i + 1 ≤ q := hq; omega)).trans (hgo q (by have hq : i + 1 ≤ q := hq; omega))⟩ (by show c2 - (i + 1) < c2 - i; omega))
    show va_up g1 i (some b9) q = g2 q
    by_cases e : q = i
    · rw [e, va_up_self]; exact hb9.symm
    · rw [va_up_ne _ _ e]; exact hg q (by have hq : q < i + 1 := hq; omega)

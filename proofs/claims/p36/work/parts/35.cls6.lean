/-! ===== the class, VI: a new layer ===== -/
/-- a new layer at a, with its three new arrays -/
def nLy (cy : Nat → ClassId) (L : List Nat) (f : gF) (L1 : List Nat) (f1 : gF) (a : Nat) (nu : Int32) (pr : Option Nat) (pl : Int32) (h s v : Nat) (H S V : Nat → Int32) : Prop :=
  fr9 L f L1 f1 a ∧ gH L1 f1 a (.inr (2, [.int nu, va_rf pr, .int pl, .ref h, .ref s, .ref v, va_rf none, .int (-1)])) ∧ gH L1 f1 h (.inl (cy 0, 12, .inl H)) ∧ gH L1 f1 s (.inl (cy 0, 12, .inl S)) ∧ gH L1 f1 v (.inl (cy 0, 4, .inl V)) ∧ h ∉ L ∧ s ∉ L ∧ v ∉ L ∧ s ≠ h
theorem nLy.fL {cy : Nat → ClassId} {L : List Nat} {f : gF} {L1 : List Nat} {f1 : gF} {a : Nat} {nu : Int32} {pr : Option Nat} {pl : Int32} {h s v : Nat} {H S V : Nat → Int32} (k : nLy cy L f L1 f1 a nu pr pl h s v H S V) (H1 S1 V1 : Nat → Int32) : nLy cy L f L1 (fL cy f1 h s v H1 S1 V1) a nu pr pl h s v H1 S1 V1 := by
  obtain ⟨k1, k2, k3, k4, k5, k6, k7, k8, k9⟩ := k
  obtain ⟨e1, e2, e3, e4⟩ := ly_up k2 k3 k4 k5 k9 H1 S1 V1
  refine ⟨⟨k1.1, fun b hb hn => ?_⟩, e1, e2, e3, e4, k6, k7, k8, k9⟩
  show va_up (va_up (va_up f1 h _) s _) v _ b = f b
  have m1 : b ≠ v := fun z => k8 (z ▸ hb)
  have m2 : b ≠ s := fun z => k7 (z ▸ hb)
  have m3 : b ≠ h := fun z => k6 (z ▸ hb)
  rw [va_up_ne _ _ m1, va_up_ne _ _ m2, va_up_ne _ _ m3]
  exact k1.2 b hb hn
def D2 : List Value := [.int 0, .null, .int 0, .null, .null, .null, .null, .int 0]
theorem k5_layInit {l : Launch} {s0 : State} {D : va_G} {cy : Nat → ClassId} (hE : gE s0 D cy) (hl : l.stackTraces = false) {L : List Nat} {f : gF} {a c8 : Nat} {B : Nat → Int32} (hA : gH L f a (.inr (2, D2))) (hc : gH L f c8 (.inl (cy 0, 12, .inl B))) (nu : Int32) : gM l s0 D yX2_init cX2_init 5 none 1 3 28 [.ref a, .int nu, .ref c8] L f (fun v9 L1 f1 => v9 = none ∧ ∃ h s v H S V, nLy cy L f L1 f1 a nu none (nI 0) h s v H S V ∧ (∀ q, q < 12 → H q = B q) ∧ (∀ q, q < 12 → S q = B q) ∧ ∀ q, q < 4 → V q = nI 0) := by
  refine gM.of (own := RX2) hE hl (by decide +kernel) rfl rfl (Nat.le_of_ble_eq_true rfl) (fun p9 e9 s9 m9 a99 b99 t99 c9 C hr hnm => ?_)
  refine G.weak (ls' := [some (.ref a), some (.int nu), some (.ref c8), none, none]) ?_ rfl (fun _ _ h => h)
  have n_a := hA.1
  have nc8 : c8 ≠ a := gH.apart hc hA (fun e => by cases e)
  refine g_aload_n (n := 1) C dX2_init_0 rfl (Or.inr ⟨_, rfl⟩) rfl ?_
  refine g_objInit (n := 4) C dX2_init_1 (List.mem_of_getElem? (i := 415) (by decide +kernel)) (List.mem_of_getElem? (i := 68) (by decide +kernel)) (List.mem_of_getElem? (i := 69) (by decide +kernel)) ⟨by decide, by decide⟩ rfl ?_
  refine g_aload_n (n := 5) C dX2_init_4 rfl (Or.inr ⟨_, rfl⟩) rfl ?_
  refine g_bipush (n := 7) (v := nI 12) C dX2_init_5 rfl rfl ?_
  refine g_newi (n := 9) C dX2_init_7 rfl (by decide) (List.mem_of_getElem? (i := 91) (by decide +kernel)) ⟨by decide, by decide⟩ rfl (fun h hq1 => ?_)
  have nh : h ≠ a := fun z => hq1 (z ▸ hA.1)
  refine g_putF (n := 12) C dX2_init_9 kP_X2_9 hnm (gH.push hA hq1) ⟨rfl, rfl⟩ (Nat.le_of_ble_eq_true rfl) rfl ?_
  refine g_aload_n (n := 13) C dX2_init_12 rfl (Or.inr ⟨_, rfl⟩) rfl ?_
  refine g_bipush (n := 15) (v := nI 12) C dX2_init_13 rfl rfl ?_
  refine g_newi (n := 17) C dX2_init_15 rfl (by decide) (List.mem_of_getElem? (i := 91) (by decide +kernel)) ⟨by decide, by decide⟩ rfl (fun s hq2 => ?_)
  have ns : s ≠ a := fun z => hq2 (z ▸ List.mem_append_left _ hA.1)
  refine g_putF (n := 20) C dX2_init_17 kP_X2_15 hnm (gH.push (gH.up (gH.push hA hq1)) hq2) ⟨rfl, rfl⟩ (Nat.le_of_ble_eq_true rfl) rfl ?_
  refine g_aload_n (n := 21) C dX2_init_20 rfl (Or.inr ⟨_, rfl⟩) rfl ?_
  refine g_iconst (n := 22) (v := nI 4) C dX2_init_21 rfl rfl ?_
  refine g_newi (n := 24) C dX2_init_22 rfl (by decide) (List.mem_of_getElem? (i := 91) (by decide +kernel)) ⟨by decide, by decide⟩ rfl (fun v hq3 => ?_)
  have nv : v ≠ a := fun z => hq3 (z ▸ List.mem_append_left _ (List.mem_append_left _ hA.1))
  refine g_putF (n := 27) C dX2_init_24 kP_X2_18 hnm (gH.push (gH.up (gH.push (gH.up (gH.push hA hq1)) hq2)) hq3) ⟨rfl, rfl⟩ (Nat.le_of_ble_eq_true rfl) rfl ?_
  refine g_aload_n (n := 28) C dX2_init_27 rfl (Or.inr ⟨_, rfl⟩) rfl ?_
  refine g_iconst (n := 29) (v := -1) C dX2_init_28 rfl rfl ?_
  refine g_put (n := 32) C dX2_init_29 kP_X2_21 (gH.up (gH.push (gH.up (gH.push (gH.up (gH.push hA hq1)) hq2)) hq3)) ⟨rfl, rfl⟩ (Nat.le_of_ble_eq_true rfl) rfl ?_
  refine g_aload_n (n := 33) C dX2_init_32 rfl (Or.inr ⟨_, rfl⟩) rfl ?_
  refine g_iload_n (n := 34) C dX2_init_33 rfl rfl ?_
  refine g_putF (n := 37) C dX2_init_34 kP_X2_25 hnm (gH.up (gH.up (gH.push (gH.up (gH.push (gH.up (gH.push hA hq1)) hq2)) hq3))) ⟨rfl, rfl⟩ (Nat.le_of_ble_eq_true rfl) rfl ?_
  refine g_aload_n (n := 38) C dX2_init_37 rfl (Or.inr ⟨_, rfl⟩) rfl ?_
  refine g_aconst_null (n := 39) C dX2_init_38 rfl ?_
  refine g_putF (n := 42) C dX2_init_39 kP_X2_28 hnm (gH.up (gH.up (gH.up (gH.push (gH.up (gH.push (gH.up (gH.push hA hq1)) hq2)) hq3)))) ⟨rfl, rfl⟩ (Nat.le_of_ble_eq_true rfl) rfl ?_
  refine g_aload_n (n := 43) C dX2_init_42 rfl (Or.inr ⟨_, rfl⟩) rfl ?_
  refine g_iconst (n := 44) (v := nI 0) C dX2_init_43 rfl rfl ?_
  refine g_putF (n := 47) C dX2_init_44 kP_X2_32 hnm (gH.up (gH.up (gH.up (gH.up (gH.push (gH.up (gH.push (gH.up (gH.push hA hq1)) hq2)) hq3))))) ⟨rfl, rfl⟩ (Nat.le_of_ble_eq_true rfl) rfl ?_
  refine G.gen (fun L1 f1 => nLy cy L f L1 f1 a nu none (nI 0) h s v (fun _ => 0) (fun _ => 0) (fun _ => 0) ∧ gH L1 f1 c8 (.inl (cy 0, 12, .inl B))) ⟨⟨⟨fun b hb => List.mem_append_left _ (List.mem_append_left _ (List.mem_append_left _ hb)), fun b hb hn => ?_⟩, (gH.up (gH.up (gH.up (gH.up (gH.up (gH.push (gH.up (gH.push (gH.up (gH.push hA hq1)) hq2)) hq3)))))), (gH.ne (gH.ne (gH.ne (gH.ne (gH.ne (gH.push (gH.ne (gH.push (gH.ne gH.new nh) hq2) nh) hq3) nh) nh) nh) nh) nh), (gH.ne (gH.ne (gH.ne (gH.ne (gH.ne (gH.push (gH.ne gH.new ns) hq3) ns) ns) ns) ns) ns), (gH.ne (gH.ne (gH.ne (gH.ne (gH.ne gH.new nv) nv) nv) nv) nv), hq1, fun z => hq2 (List.mem_append_left _ z), fun z => hq3 (List.mem_append_left _ (List.mem_append_left _ z)), fun z => hq2 (z ▸ List.mem_append_right _ List.mem_cons_self)⟩, (gH.ne (gH.ne (gH.ne (gH.ne (gH.ne (gH.push (gH.ne (gH.push (gH.ne (gH.push hc hq1) nc8) hq2) nc8) hq3) nc8) nc8) nc8) nc8) nc8)⟩ (fun L1 f1 hP => ?_)
  · have m1 : b ≠ h := fun z => hq1 (z ▸ hb)
    have m2 : b ≠ s := fun z => hq2 (z ▸ List.mem_append_left _ hb)
    have m3 : b ≠ v := fun z => hq3 (z ▸ List.mem_append_left _ (List.mem_append_left _ hb))
    repeat (first | rw [va_up_ne _ _ hn] | rw [va_up_ne _ _ m1] | rw [va_up_ne _ _ m2] | rw [va_up_ne _ _ m3])
  obtain ⟨hN, hc8⟩ := hP
  have qc8 : c8 ∈ L := hc.1
  refine g_iconst (n := 48) (v := nI 0) C dX2_init_47 rfl rfl ?_
  refine g_istore_n (n := 49) (ls' := [_, _, _, _, _]) C dX2_init_48 rfl (by decide) rfl ?_
  refine g_loop (α := Nat × (Nat → Int32) × Option Value) (fun z => z.1 ≤ 12 ∧ ∀ q, q < z.1 → z.2.1 q = B q) (fun z => 12 - z.1) (fun _ => L1) (fun z => fL cy f1 h s v z.2.1 z.2.1 (fun _ => 0)) (fun _ => 3) (fun _ => 28) 49 (fun z => [some (.ref a), some (.int nu), some (.ref c8), some (.int (nI z.1)), z.2.2]) (fun _ => []) (fun z hz ih => ?_) (fun J => G.fx (fL_id hN.2.2.1 hN.2.2.2.1 hN.2.2.2.2.1) (J (0, (fun _ => 0), none) ⟨Nat.zero_le _, fun q hq => absurd hq (Nat.not_lt_zero q)⟩))
  obtain ⟨i, g, o4⟩ := z
  obtain ⟨hi9, hg⟩ := hz
  dsimp only at hi9 hg ih ⊢
  obtain ⟨hN1, hL1, hh1, hs1, hv1, hf1, hf2, hf3, hsh⟩ := hN.fL g g (fun _ => 0)
  have hc81 := ly_ot (cy := cy) (h := h) (s := s) (v := v) (H := g) (S := g) (V := (fun _ => 0)) hc8 (fun z => hf1 (z ▸ qc8)) (fun z => hf2 (z ▸ qc8)) (fun z => hf3 (z ▸ qc8)) g g (fun _ => 0)
  refine g_iload_n (n := 50) C dX2_init_49 rfl rfl ?_
  refine g_bipush (n := 52) (v := nI 12) C dX2_init_50 rfl rfl ?_
  refine g_icmp_ge (n := 55) (tgt := 92) C dX2_init_52 (by decide) rfl (fun h52 => ?_) (fun h52 => ?_)
  · have e9 : i = 12 := by have := gn_ge h52 (by decide) (by omega); omega
    subst e9
    refine g_vret C hr dX2_init_92 ?_ ⟨by decide, by decide⟩
    exact ⟨rfl, h, s, v, g, g, _, hN.fL g g _, hg, hg, fun _ _ => rfl⟩
  · have hi : i < 12 := gn_gt h52 (by decide) (by omega)
    refine g_iload_n (n := 56) C dX2_init_55 rfl rfl ?_
    refine g_aload_n (n := 57) C dX2_init_56 rfl (Or.inr ⟨_, rfl⟩) rfl ?_
    refine g_alen (n := 58) (t := 0) C dX2_init_57 rfl (by assumption) rfl rfl ?_
    refine G.top (y := nI 12) rfl ?_
    refine g_icmp_ge (n := 61) (tgt := 67) C dX2_init_58 (by decide) rfl (fun h58 => absurd (gn_ge h58 (by decide) (by omega)) (by omega)) (fun h58 => ?_)
    refine g_aload_n (n := 62) C dX2_init_61 rfl (Or.inr ⟨_, rfl⟩) rfl ?_
    refine g_iload_n (n := 63) C dX2_init_62 rfl rfl ?_
    refine g_iald (n := 64) C dX2_init_63 (by assumption) rfl (by omega) (by decide) rfl ?_
    refine g_goto (tgt := 68) C dX2_init_64 (by decide) ?_
    refine g_istore (n := 70) (ls' := [_, _, _, _, _]) C dX2_init_68 rfl (by decide) rfl ?_
    refine g_aload_n (n := 71) C dX2_init_70 rfl (Or.inr ⟨_, rfl⟩) rfl ?_
    refine g_get (n := 74) C dX2_init_71 kF_X2_9 (by assumption) rfl rfl ?_
    refine g_iload_n (n := 75) C dX2_init_74 rfl rfl ?_
    refine g_iload (n := 77) C dX2_init_75 rfl rfl ?_
    refine g_iast (n := 78) C dX2_init_77 hh1 rfl (by omega) (by decide) rfl ?_
    refine g_aload_n (n := 79) C dX2_init_78 rfl (Or.inr ⟨_, rfl⟩) rfl ?_
    refine g_get (n := 82) C dX2_init_79 kF_X2_15 (hL1.ne (gH.apart hL1 hh1 (fun e => by cases e))) rfl rfl ?_
    refine g_iload_n (n := 83) C dX2_init_82 rfl rfl ?_
    refine g_iload (n := 85) C dX2_init_83 rfl rfl ?_
    refine g_iast (n := 86) C dX2_init_85 (hs1.ne hsh) rfl (by omega) (by decide) rfl ?_
    refine g_iinc (n := 89) (ls' := [_, _, _, _, _]) C dX2_init_86 rfl (nI_1 _) rfl (by decide) rfl ?_
    refine g_goto (tgt := 49) C dX2_init_89 (by decide) ?_
    rw [fL_hold hh1 hs1 hv1, fL_fL hsh (gH.apart hh1 hv1 (fun e => by cases e)) (gH.apart hs1 hv1 (fun e => by cases e))]
    exact ih (i + 1, upd g i (B i), _) ⟨by show i + 1 ≤ 12; omega, fun q hq => upd_ext hg hq⟩ (by show 12 - (i + 1) < 12 - i; omega)
theorem k5_layChild {l : Launch} {s0 : State} {D : va_G} {cy : Nat → ClassId} (hE : gE s0 D cy) (hl : l.stackTraces = false) {L : List Nat} {f : gF} {a pa9 h2 s2 v2 P2 : Nat} {nu2 ip2 : Int32} {pr2 mk2 : Option Nat} {S2 V2 : Nat → Int32} (hA : gH L f a (.inr (2, D2))) (hp : gH L f pa9 (.inr (2, [.int nu2, va_rf pr2, .int (nI P2), .ref h2, .ref s2, .ref v2, va_rf mk2, .int ip2]))) (hs : gH L f s2 (.inl (cy 0, 12, .inl S2))) (hv : gH L f v2 (.inl (cy 0, 4, .inl V2))) (hpa : pa9 ≠ a) (nu : Int32) : gM l s0 D yX2_init_ cX2_init_ 4 none 1 3 28 [.ref a, .int nu, .ref pa9] L f (fun v9 L1 f1 => v9 = none ∧ ∃ h s v H S V, nLy cy L f L1 f1 a nu (some pa9) (nI (P2 + 1)) h s v H S V ∧ (∀ q, q < 12 → H q = -1) ∧ (∀ q, q < 12 → S q = S2 q) ∧ ∀ q, q < 4 → V q = V2 q) := by
  refine gM.of (own := RX2) hE hl (by decide +kernel) rfl rfl (Nat.le_of_ble_eq_true rfl) (fun p9 e9 s9 m9 a99 b99 t99 c9 C hr hnm => ?_)
  refine G.weak (ls' := [some (.ref a), some (.int nu), some (.ref pa9), none]) ?_ rfl (fun _ _ h => h)
  have n_a := hA.1
  have npa9 := hpa
  have ns2 : s2 ≠ a := gH.apart hs hA (fun e => by cases e)
  have nv2 : v2 ≠ a := gH.apart hv hA (fun e => by cases e)
  refine g_aload_n (n := 1) C dX2_init__0 rfl (Or.inr ⟨_, rfl⟩) rfl ?_
  refine g_objInit (n := 4) C dX2_init__1 (List.mem_of_getElem? (i := 415) (by decide +kernel)) (List.mem_of_getElem? (i := 68) (by decide +kernel)) (List.mem_of_getElem? (i := 69) (by decide +kernel)) ⟨by decide, by decide⟩ rfl ?_
  refine g_aload_n (n := 5) C dX2_init__4 rfl (Or.inr ⟨_, rfl⟩) rfl ?_
  refine g_bipush (n := 7) (v := nI 12) C dX2_init__5 rfl rfl ?_
  refine g_newi (n := 9) C dX2_init__7 rfl (by decide) (List.mem_of_getElem? (i := 91) (by decide +kernel)) ⟨by decide, by decide⟩ rfl (fun h hq1 => ?_)
  have nh : h ≠ a := fun z => hq1 (z ▸ hA.1)
  refine g_putF (n := 12) C dX2_init__9 kP_X2_9 hnm (gH.push hA hq1) ⟨rfl, rfl⟩ (Nat.le_of_ble_eq_true rfl) rfl ?_
  refine g_aload_n (n := 13) C dX2_init__12 rfl (Or.inr ⟨_, rfl⟩) rfl ?_
  refine g_bipush (n := 15) (v := nI 12) C dX2_init__13 rfl rfl ?_
  refine g_newi (n := 17) C dX2_init__15 rfl (by decide) (List.mem_of_getElem? (i := 91) (by decide +kernel)) ⟨by decide, by decide⟩ rfl (fun s hq2 => ?_)
  have ns : s ≠ a := fun z => hq2 (z ▸ List.mem_append_left _ hA.1)
  refine g_putF (n := 20) C dX2_init__17 kP_X2_15 hnm (gH.push (gH.up (gH.push hA hq1)) hq2) ⟨rfl, rfl⟩ (Nat.le_of_ble_eq_true rfl) rfl ?_
  refine g_aload_n (n := 21) C dX2_init__20 rfl (Or.inr ⟨_, rfl⟩) rfl ?_
  refine g_iconst (n := 22) (v := nI 4) C dX2_init__21 rfl rfl ?_
  refine g_newi (n := 24) C dX2_init__22 rfl (by decide) (List.mem_of_getElem? (i := 91) (by decide +kernel)) ⟨by decide, by decide⟩ rfl (fun v hq3 => ?_)
  have nv : v ≠ a := fun z => hq3 (z ▸ List.mem_append_left _ (List.mem_append_left _ hA.1))
  refine g_putF (n := 27) C dX2_init__24 kP_X2_18 hnm (gH.push (gH.up (gH.push (gH.up (gH.push hA hq1)) hq2)) hq3) ⟨rfl, rfl⟩ (Nat.le_of_ble_eq_true rfl) rfl ?_
  refine g_aload_n (n := 28) C dX2_init__27 rfl (Or.inr ⟨_, rfl⟩) rfl ?_
  refine g_iconst (n := 29) (v := -1) C dX2_init__28 rfl rfl ?_
  refine g_put (n := 32) C dX2_init__29 kP_X2_21 (gH.up (gH.push (gH.up (gH.push (gH.up (gH.push hA hq1)) hq2)) hq3)) ⟨rfl, rfl⟩ (Nat.le_of_ble_eq_true rfl) rfl ?_
  refine g_aload_n (n := 33) C dX2_init__32 rfl (Or.inr ⟨_, rfl⟩) rfl ?_
  refine g_iload_n (n := 34) C dX2_init__33 rfl rfl ?_
  refine g_putF (n := 37) C dX2_init__34 kP_X2_25 hnm (gH.up (gH.up (gH.push (gH.up (gH.push (gH.up (gH.push hA hq1)) hq2)) hq3))) ⟨rfl, rfl⟩ (Nat.le_of_ble_eq_true rfl) rfl ?_
  refine g_aload_n (n := 38) C dX2_init__37 rfl (Or.inr ⟨_, rfl⟩) rfl ?_
  refine g_aload_n (n := 39) C dX2_init__38 rfl (Or.inr ⟨_, rfl⟩) rfl ?_
  refine g_putF (n := 42) C dX2_init__39 kP_X2_28 hnm (gH.up (gH.up (gH.up (gH.push (gH.up (gH.push (gH.up (gH.push hA hq1)) hq2)) hq3)))) ⟨rfl, rfl⟩ (Nat.le_of_ble_eq_true rfl) rfl ?_
  refine g_aload_n (n := 43) C dX2_init__42 rfl (Or.inr ⟨_, rfl⟩) rfl ?_
  refine g_aload_n (n := 44) C dX2_init__43 rfl (Or.inr ⟨_, rfl⟩) rfl ?_
  refine g_get (n := 47) C dX2_init__44 kF_X2_32 (gH.ne (gH.ne (gH.ne (gH.ne (gH.push (gH.ne (gH.push (gH.ne (gH.push hp hq1) npa9) hq2) npa9) hq3) npa9) npa9) npa9) npa9) rfl rfl ?_
  refine g_iconst (n := 48) (v := nI 1) C dX2_init__47 rfl rfl ?_
  refine g_iaddN (n := 49) C dX2_init__48 rfl ?_
  refine g_putF (n := 52) C dX2_init__49 kP_X2_32 hnm (gH.up (gH.up (gH.up (gH.up (gH.push (gH.up (gH.push (gH.up (gH.push hA hq1)) hq2)) hq3))))) ⟨rfl, rfl⟩ (Nat.le_of_ble_eq_true rfl) rfl ?_
  refine G.gen (fun L1 f1 => nLy cy L f L1 f1 a nu (some pa9) (nI (P2 + 1)) h s v (fun _ => 0) (fun _ => 0) (fun _ => 0) ∧ gH L1 f1 pa9 (.inr (2, [.int nu2, va_rf pr2, .int (nI P2), .ref h2, .ref s2, .ref v2, va_rf mk2, .int ip2])) ∧ gH L1 f1 s2 (.inl (cy 0, 12, .inl S2)) ∧ gH L1 f1 v2 (.inl (cy 0, 4, .inl V2))) ⟨⟨⟨fun b hb => List.mem_append_left _ (List.mem_append_left _ (List.mem_append_left _ hb)), fun b hb hn => ?_⟩, (gH.up (gH.up (gH.up (gH.up (gH.up (gH.push (gH.up (gH.push (gH.up (gH.push hA hq1)) hq2)) hq3)))))), (gH.ne (gH.ne (gH.ne (gH.ne (gH.ne (gH.push (gH.ne (gH.push (gH.ne gH.new nh) hq2) nh) hq3) nh) nh) nh) nh) nh), (gH.ne (gH.ne (gH.ne (gH.ne (gH.ne (gH.push (gH.ne gH.new ns) hq3) ns) ns) ns) ns) ns), (gH.ne (gH.ne (gH.ne (gH.ne (gH.ne gH.new nv) nv) nv) nv) nv), hq1, fun z => hq2 (List.mem_append_left _ z), fun z => hq3 (List.mem_append_left _ (List.mem_append_left _ z)), fun z => hq2 (z ▸ List.mem_append_right _ List.mem_cons_self)⟩, (gH.ne (gH.ne (gH.ne (gH.ne (gH.ne (gH.push (gH.ne (gH.push (gH.ne (gH.push hp hq1) npa9) hq2) npa9) hq3) npa9) npa9) npa9) npa9) npa9), (gH.ne (gH.ne (gH.ne (gH.ne (gH.ne (gH.push (gH.ne (gH.push (gH.ne (gH.push hs hq1) ns2) hq2) ns2) hq3) ns2) ns2) ns2) ns2) ns2), (gH.ne (gH.ne (gH.ne (gH.ne (gH.ne (gH.push (gH.ne (gH.push (gH.ne (gH.push hv hq1) nv2) hq2) nv2) hq3) nv2) nv2) nv2) nv2) nv2)⟩ (fun L1 f1 hP => ?_)
  · have m1 : b ≠ h := fun z => hq1 (z ▸ hb)
    have m2 : b ≠ s := fun z => hq2 (z ▸ List.mem_append_left _ hb)
    have m3 : b ≠ v := fun z => hq3 (z ▸ List.mem_append_left _ (List.mem_append_left _ hb))
    repeat (first | rw [va_up_ne _ _ hn] | rw [va_up_ne _ _ m1] | rw [va_up_ne _ _ m2] | rw [va_up_ne _ _ m3])
  obtain ⟨hN, hpa9, hs2, hv2⟩ := hP
  have qpa9 : pa9 ∈ L := hp.1
  have qs2 : s2 ∈ L := hs.1
  have qv2 : v2 ∈ L := hv.1
  refine g_iconst (n := 53) (v := nI 0) C dX2_init__52 rfl rfl ?_
  refine g_istore_n (n := 54) (ls' := [_, _, _, _]) C dX2_init__53 rfl (by decide) rfl ?_
  refine g_loop (α := Nat × (Nat → Int32) × (Nat → Int32)) (fun z => z.1 ≤ 12 ∧ (∀ q, q < z.1 → z.2.1 q = -1) ∧ ∀ q, q < z.1 → z.2.2 q = S2 q) (fun z => 12 - z.1) (fun _ => L1) (fun z => fL cy f1 h s v z.2.1 z.2.2 (fun _ => 0)) (fun _ => 3) (fun _ => 28) 54 (fun z => [some (.ref a), some (.int nu), some (.ref pa9), some (.int (nI z.1))]) (fun _ => []) (fun z hz ih => ?_) (fun J => G.fx (fL_id hN.2.2.1 hN.2.2.2.1 hN.2.2.2.2.1) (J (0, (fun _ => 0), (fun _ => 0)) ⟨Nat.zero_le _, fun q hq => absurd hq (Nat.not_lt_zero q), fun q hq => absurd hq (Nat.not_lt_zero q)⟩))
  obtain ⟨i, g, g2⟩ := z
  obtain ⟨hi9, hg, hg2⟩ := hz
  dsimp only at hi9 hg hg2 ih ⊢
  obtain ⟨hN1, hL1, hh1, hs1, hv1, hf1, hf2, hf3, hsh⟩ := hN.fL g g2 (fun _ => 0)
  have hpa91 := ly_ot (cy := cy) (h := h) (s := s) (v := v) (H := g) (S := g2) (V := (fun _ => 0)) hpa9 (fun z => hf1 (z ▸ qpa9)) (fun z => hf2 (z ▸ qpa9)) (fun z => hf3 (z ▸ qpa9)) g g2 (fun _ => 0)
  have hs21 := ly_ot (cy := cy) (h := h) (s := s) (v := v) (H := g) (S := g2) (V := (fun _ => 0)) hs2 (fun z => hf1 (z ▸ qs2)) (fun z => hf2 (z ▸ qs2)) (fun z => hf3 (z ▸ qs2)) g g2 (fun _ => 0)
  have hv21 := ly_ot (cy := cy) (h := h) (s := s) (v := v) (H := g) (S := g2) (V := (fun _ => 0)) hv2 (fun z => hf1 (z ▸ qv2)) (fun z => hf2 (z ▸ qv2)) (fun z => hf3 (z ▸ qv2)) g g2 (fun _ => 0)
  refine g_iload_n (n := 55) C dX2_init__54 rfl rfl ?_
  refine g_bipush (n := 57) (v := nI 12) C dX2_init__55 rfl rfl ?_
  refine g_icmp_ge (n := 60) (tgt := 85) C dX2_init__57 (by decide) rfl (fun h57 => ?_) (fun h57 => ?_)
  · have e9 : i = 12 := by have := gn_ge h57 (by decide) (by omega); omega
    subst e9
    refine g_iconst (n := 86) (v := nI 0) C dX2_init__85 rfl rfl ?_
    refine g_istore_n (n := 87) (ls' := [_, _, _, _]) C dX2_init__86 rfl (by decide) rfl ?_
    clear ih
    refine g_loop (α := Nat × (Nat → Int32)) (fun z => z.1 ≤ 4 ∧ ∀ q, q < z.1 → z.2 q = V2 q) (fun z => 4 - z.1) (fun _ => L1) (fun z => fL cy f1 h s v g g2 z.2) (fun _ => 3) (fun _ => 28) 87 (fun z => [some (.ref a), some (.int nu), some (.ref pa9), some (.int (nI z.1))]) (fun _ => []) (fun z hz ih => ?_) (fun J => J (0, (fun _ => 0)) ⟨Nat.zero_le _, fun q hq => absurd hq (Nat.not_lt_zero q)⟩)
    obtain ⟨i, g3⟩ := z
    obtain ⟨hi9, hg3⟩ := hz
    dsimp only at hi9 hg3 ih ⊢
    clear hN1 hL1 hh1 hs1 hv1 hpa91 hs21 hv21
    obtain ⟨hN1, hL1, hh1, hs1, hv1, _, _, _, _⟩ := hN.fL g g2 g3
    have hpa91 := ly_ot (cy := cy) (h := h) (s := s) (v := v) (H := g) (S := g2) (V := g3) hpa9 (fun z => hf1 (z ▸ qpa9)) (fun z => hf2 (z ▸ qpa9)) (fun z => hf3 (z ▸ qpa9)) g g2 g3
    have hs21 := ly_ot (cy := cy) (h := h) (s := s) (v := v) (H := g) (S := g2) (V := g3) hs2 (fun z => hf1 (z ▸ qs2)) (fun z => hf2 (z ▸ qs2)) (fun z => hf3 (z ▸ qs2)) g g2 g3
    have hv21 := ly_ot (cy := cy) (h := h) (s := s) (v := v) (H := g) (S := g2) (V := g3) hv2 (fun z => hf1 (z ▸ qv2)) (fun z => hf2 (z ▸ qv2)) (fun z => hf3 (z ▸ qv2)) g g2 g3
    refine g_iload_n (n := 88) C dX2_init__87 rfl rfl ?_
    refine g_iconst (n := 89) (v := nI 4) C dX2_init__88 rfl rfl ?_
    refine g_icmp_ge (n := 92) (tgt := 110) C dX2_init__89 (by decide) rfl (fun h89 => ?_) (fun h89 => ?_)
    · have e9 : i = 4 := by have := gn_ge h89 (by decide) (by omega); omega
      subst e9
      refine g_vret C hr dX2_init__110 ?_ ⟨by decide, by decide⟩
      exact ⟨rfl, h, s, v, g, g2, g3, hN.fL g g2 g3, hg, hg2, hg3⟩
    · have hi : i < 4 := gn_gt h89 (by decide) (by omega)
      refine g_aload_n (n := 93) C dX2_init__92 rfl (Or.inr ⟨_, rfl⟩) rfl ?_
      refine g_get (n := 96) C dX2_init__93 kF_X2_18 hL1 rfl rfl ?_
      refine g_iload_n (n := 97) C dX2_init__96 rfl rfl ?_
      refine g_aload_n (n := 98) C dX2_init__97 rfl (Or.inr ⟨_, rfl⟩) rfl ?_
      refine g_get (n := 101) C dX2_init__98 kF_X2_18 hpa91 rfl rfl ?_
      refine g_iload_n (n := 102) C dX2_init__101 rfl rfl ?_
      refine g_iald (n := 103) C dX2_init__102 hv21 rfl (by omega) (by decide) rfl ?_
      refine g_iast (n := 104) C dX2_init__103 hv1 rfl (by omega) (by decide) rfl ?_
      refine g_iinc (n := 107) (ls' := [_, _, _, _]) C dX2_init__104 rfl (nI_1 _) rfl (by decide) rfl ?_
      refine g_goto (tgt := 87) C dX2_init__107 (by decide) ?_
      rw [fL_asg hh1 hs1, fL_fL hsh (gH.apart hh1 hv1 (fun e => by cases e)) (gH.apart hs1 hv1 (fun e => by cases e))]
      exact ih (i + 1, upd g3 i (V2 i)) ⟨by show i + 1 ≤ 4; omega, fun q hq => upd_ext hg3 hq⟩ (by show 4 - (i + 1) < 4 - i; omega)
  · have hi : i < 12 := gn_gt h57 (by decide) (by omega)
    refine g_aload_n (n := 61) C dX2_init__60 rfl (Or.inr ⟨_, rfl⟩) rfl ?_
    refine g_get (n := 64) C dX2_init__61 kF_X2_9 hL1 rfl rfl ?_
    refine g_iload_n (n := 65) C dX2_init__64 rfl rfl ?_
    refine g_iconst (n := 66) (v := -1) C dX2_init__65 rfl rfl ?_
    refine g_iast (n := 67) C dX2_init__66 hh1 rfl (by omega) (by decide) rfl ?_
    refine g_aload_n (n := 68) C dX2_init__67 rfl (Or.inr ⟨_, rfl⟩) rfl ?_
    refine g_get (n := 71) C dX2_init__68 kF_X2_15 (hL1.ne (gH.apart hL1 hh1 (fun e => by cases e))) rfl rfl ?_
    refine g_iload_n (n := 72) C dX2_init__71 rfl rfl ?_
    refine g_aload_n (n := 73) C dX2_init__72 rfl (Or.inr ⟨_, rfl⟩) rfl ?_
    refine g_get (n := 76) C dX2_init__73 kF_X2_15 (hpa91.ne (gH.apart hpa91 hh1 (fun e => by cases e))) rfl rfl ?_
    refine g_iload_n (n := 77) C dX2_init__76 rfl rfl ?_
    refine g_iald (n := 78) C dX2_init__77 (hs21.ne (fun z => hf1 (z ▸ qs2))) rfl (by omega) (by decide) rfl ?_
    refine g_iast (n := 79) C dX2_init__78 (hs1.ne hsh) rfl (by omega) (by decide) rfl ?_
    refine g_iinc (n := 82) (ls' := [_, _, _, _]) C dX2_init__79 rfl (nI_1 _) rfl (by decide) rfl ?_
    refine g_goto (tgt := 54) C dX2_init__82 (by decide) ?_
    rw [fL_hold hh1 hs1 hv1, fL_fL hsh (gH.apart hh1 hv1 (fun e => by cases e)) (gH.apart hs1 hv1 (fun e => by cases e))]
    exact ih (i + 1, upd g i (-1), upd g2 i (S2 i)) ⟨by show i + 1 ≤ 12; omega, fun q hq => upd_ext (G := fun _ => -1) hg hq, fun q hq => upd_ext hg2 hq⟩ (by show 12 - (i + 1) < 12 - i; omega)

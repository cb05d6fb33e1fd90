/-! ===== questions that are answered: the pool stays as it is, nothing is made ===== -/
theorem gM.toX {l : Launch} {s0 : State} {D : va_G} {y : MethodName} {cc : ByteArray} {maxL : Nat} {ret : Option FieldType} {d mc ms : Nat} {av : List Value} {L : List Nat} {f : gF} {Qr : Option Value → List Nat → gF → Prop} (h : gM l s0 D y cc maxL ret d mc ms av L f Qr) : gX l s0 D y cc maxL ret d mc ms av L f Qr (fun _ => False) := by
  intro sz
  exact MetFree.mono (h sz) (fun a s hp => hp) (fun _ _ _ _ _ _ => trivial) (fun a st o t hp hq => Or.inl hq)
theorem k7_layerAt {l : Launch} {s0 : State} {D : va_G} {cy : Nat → ClassId} (hE : gE s0 D cy) (hl : l.stackTraces = false) {L : List Nat} {f : gF} {bk : Nat → Nat} {n : Nat} {X : Nat → va_E} {Is : Nat → Option iT} {PR PL : Nat → Nat} {S A : Nat → Nat → Int32} {I : Nat → Int32} (hR : RC cy bk n X Is PR PL S A I L f) {mc ms : Nat} {k : Nat} (hk : k < n) (h8 : A 8 k = 0) : gM l s0 D yX5_layerAt cX5_layerAt 3 (some (.object RX2)) 7 mc ms [.ref (bk 0), .int (nI k)] L f (fun v L1 f1 => v = some (.ref (bk (100 + 4 * k))) ∧ L = L1 ∧ f = f1) := by
  refine gM.of (own := RX5) hE hl (by decide +kernel) rfl rfl (Nat.le_of_ble_eq_true rfl) (fun p9 e9 s9 m9 a99 b99 t99 c9 C hr hnm => ?_)
  refine G.weak (ls' := [some (.ref (bk 0)), some (.int (nI k)), none]) ?_ rfl (fun _ _ h => h)
  refine g_aload_n (n := 1) C dX5_layerAt_0 rfl (Or.inr ⟨_, rfl⟩) rfl ?_
  have hco := hR.co
  obtain ⟨g, hso, hrow, hg1, hg2⟩ := hR.st
  refine g_get (n := 4) C dX5_layerAt_1 kF_X5_33 (by assumption) rfl rfl ?_
  refine g_iload_n (n := 5) C dX5_layerAt_4 rfl rfl ?_
  refine g_V (n := 8) (rest := []) C (k5_find hE hl hso hrow (nI k)) dX5_layerAt_5 kM_X4_find kL_X5_218 kV_X4_find (by assumption) rfl rfl rfl (Nat.le_of_ble_eq_true rfl) ⟨Nat.le_of_ble_eq_true rfl, Nat.le_of_ble_eq_true rfl⟩ ⟨Nat.zero_le _, Nat.zero_le _⟩ rfl (fun v9 L9 f9 hq => ?_)
  obtain ⟨⟨o, rfl, ho⟩, rfl, rfl⟩ := hq
  refine G.sk (st' := [_]) rfl ?_
  refine g_astore_n (n := 9) (ls' := [_, _, _]) C dX5_layerAt_8 (rf_or _) rfl (by decide) rfl ?_
  refine g_aload_n (n := 10) C dX5_layerAt_9 rfl (rf_or _) rfl ?_
  refine g_ifnonnull (n := 13) (tgt := 24) C dX5_layerAt_10 (by decide) rfl (fun a10 h10 => ?_) (fun h10 => absurd ⟨k, hk, rfl, h8⟩ (find_none hR.nv.2.1 hg1 ho h10))
  obtain ⟨k2, hk2, ek, -, ho2⟩ := find_some hg1 hg2 ho h10
  have ek2 : k2 = k := gn_inj (by have := hR.nv.2.1; omega) (by have := hR.nv.2.1; omega) ek.symm
  subst ek2
  refine g_aload_n (n := 25) C dX5_layerAt_24 rfl (rf_or _) rfl ?_
  refine g_aret C hr (Or.inl ⟨_, rfl⟩) dX5_layerAt_25 ?_ ⟨Nat.zero_le _, Nat.zero_le _⟩
  exact ⟨by rw [h10]; exact congrArg (fun z => some (Value.ref z)) ho2, rfl, rfl⟩
theorem k7_parentOf {l : Launch} {s0 : State} {D : va_G} {cy : Nat → ClassId} (hE : gE s0 D cy) (hl : l.stackTraces = false) {L : List Nat} {f : gF} {bk : Nat → Nat} {n : Nat} {X : Nat → va_E} {Is : Nat → Option iT} {PR PL : Nat → Nat} {S A : Nat → Nat → Int32} {I : Nat → Int32} (hR : RC cy bk n X Is PR PL S A I L f) {mc ms : Nat} {k : Nat} (hk : k < n) (h8 : A 8 k = 0) : gM l s0 D yX5_parentOf cX5_parentOf 2 (some .int) 8 mc ms [.ref (bk 0), .int (nI k)] L f (fun v L1 f1 => v = some (.int (pI (PR k))) ∧ L = L1 ∧ f = f1) := by
  refine gM.of (own := RX5) hE hl (by decide +kernel) rfl rfl (Nat.le_of_ble_eq_true rfl) (fun p9 e9 s9 m9 a99 b99 t99 c9 C hr hnm => ?_)
  refine G.weak (ls' := [some (.ref (bk 0)), some (.int (nI k))]) ?_ rfl (fun _ _ h => h)
  refine g_aload_n (n := 1) C dX5_parentOf_0 rfl (Or.inr ⟨_, rfl⟩) rfl ?_
  refine g_iload_n (n := 2) C dX5_parentOf_1 rfl rfl ?_
  refine g_V (n := 5) (rest := []) C (k7_layerAt hE hl hR (mc := 0) (ms := 0) hk h8) dX5_parentOf_2 kM_X5_layerAt kL_X5_231 kV_X5_layerAt hR.co rfl rfl rfl (Nat.le_of_ble_eq_true rfl) ⟨Nat.le_of_ble_eq_true rfl, Nat.le_of_ble_eq_true rfl⟩ ⟨Nat.zero_le _, Nat.zero_le _⟩ rfl (fun v9 L9 f9 hq => ?_)
  obtain ⟨rfl, rfl, rfl⟩ := hq
  refine G.sk (st' := [_]) rfl ?_
  obtain ⟨hI7, hn9, hPR, hSh, hPL, hPb, -⟩ := hR.nv
  obtain ⟨h, s, v, m, ip, hL, hh, hs, hv, q1, q2, q3, -⟩ := hR.lk hk
  refine g_get (n := 8) C dX5_parentOf_5 kF_X5_234 (by assumption) rfl rfl ?_
  refine g_S (n := 11) (rest := []) C (k5_numberOf hE hl (hR.nb (m := PR k) (by have := (hPR k hk).1; omega))) dX5_parentOf_8 kM_X5_numberOf kL_X5_162 kS_X5_numberOf rfl rfl (Nat.le_of_ble_eq_true rfl) ⟨Nat.le_of_ble_eq_true rfl, Nat.le_of_ble_eq_true rfl⟩ ⟨Nat.zero_le _, Nat.zero_le _⟩ rfl (fun v9 L9 f9 hq => ?_)
  obtain ⟨rfl, rfl, rfl⟩ := hq
  refine G.sk (st' := [_]) rfl ?_
  refine g_iret C hr dX5_parentOf_11 ?_ ⟨Nat.zero_le _, Nat.zero_le _⟩
  exact ⟨rfl, rfl, rfl⟩
theorem k7_sizeOf {l : Launch} {s0 : State} {D : va_G} {cy : Nat → ClassId} (hE : gE s0 D cy) (hl : l.stackTraces = false) {L : List Nat} {f : gF} {bk : Nat → Nat} {n : Nat} {X : Nat → va_E} {Is : Nat → Option iT} {PR PL : Nat → Nat} {S A : Nat → Nat → Int32} {I : Nat → Int32} (hR : RC cy bk n X Is PR PL S A I L f) {mc ms : Nat} {k : Nat} (hk : k < n) (h8 : A 8 k = 0) : gM l s0 D yX5_sizeOf cX5_sizeOf 2 (some .int) 8 mc ms [.ref (bk 0), .int (nI k)] L f (fun v L1 f1 => v = some (.int (nI (szN A k 12))) ∧ L = L1 ∧ f = f1) := by
  refine gM.of (own := RX5) hE hl (by decide +kernel) rfl rfl (Nat.le_of_ble_eq_true rfl) (fun p9 e9 s9 m9 a99 b99 t99 c9 C hr hnm => ?_)
  refine G.weak (ls' := [some (.ref (bk 0)), some (.int (nI k))]) ?_ rfl (fun _ _ h => h)
  refine g_aload_n (n := 1) C dX5_sizeOf_0 rfl (Or.inr ⟨_, rfl⟩) rfl ?_
  refine g_iload_n (n := 2) C dX5_sizeOf_1 rfl rfl ?_
  refine g_V (n := 5) (rest := []) C (k7_layerAt hE hl hR (mc := 0) (ms := 0) hk h8) dX5_sizeOf_2 kM_X5_layerAt kL_X5_231 kV_X5_layerAt hR.co rfl rfl rfl (Nat.le_of_ble_eq_true rfl) ⟨Nat.le_of_ble_eq_true rfl, Nat.le_of_ble_eq_true rfl⟩ ⟨Nat.zero_le _, Nat.zero_le _⟩ rfl (fun v9 L9 f9 hq => ?_)
  obtain ⟨rfl, rfl, rfl⟩ := hq
  refine G.sk (st' := [_]) rfl ?_
  obtain ⟨hI7, hn9, hPR, hSh, hPL, hPb, -⟩ := hR.nv
  obtain ⟨h, s, v, m, ip, hL, hh, hs, hv, q1, q2, q3, -⟩ := hR.lk hk
  refine g_V (n := 8) (rest := []) C (k5_size hE hl hL hh hs hv) dX5_sizeOf_5 kM_X2_size kL_X5_237 kV_X2_size hL rfl rfl rfl (Nat.le_of_ble_eq_true rfl) ⟨Nat.le_of_ble_eq_true rfl, Nat.le_of_ble_eq_true rfl⟩ ⟨Nat.zero_le _, Nat.zero_le _⟩ rfl (fun v9 L9 f9 hq => ?_)
  obtain ⟨rfl, rfl, rfl⟩ := hq
  refine G.sk (st' := [_]) rfl ?_
  refine g_iret C hr dX5_sizeOf_8 ?_ ⟨Nat.zero_le _, Nat.zero_le _⟩
  exact ⟨by rw [szF_N q1 12 (Nat.le_refl _)], rfl, rfl⟩
theorem k7_depth {l : Launch} {s0 : State} {D : va_G} {cy : Nat → ClassId} (hE : gE s0 D cy) (hl : l.stackTraces = false) {L : List Nat} {f : gF} {bk : Nat → Nat} {n : Nat} {X : Nat → va_E} {Is : Nat → Option iT} {PR PL : Nat → Nat} {S A : Nat → Nat → Int32} {I : Nat → Int32} (hR : RC cy bk n X Is PR PL S A I L f) {mc ms : Nat} {k : Nat} (hk : k < n) (h8 : A 8 k = 0) : gM l s0 D yX5_depth cX5_depth 2 (some .int) 8 mc ms [.ref (bk 0), .int (nI k)] L f (fun v L1 f1 => v = some (.int (nI (PL k + 1))) ∧ L = L1 ∧ f = f1) := by
  refine gM.of (own := RX5) hE hl (by decide +kernel) rfl rfl (Nat.le_of_ble_eq_true rfl) (fun p9 e9 s9 m9 a99 b99 t99 c9 C hr hnm => ?_)
  refine G.weak (ls' := [some (.ref (bk 0)), some (.int (nI k))]) ?_ rfl (fun _ _ h => h)
  refine g_aload_n (n := 1) C dX5_depth_0 rfl (Or.inr ⟨_, rfl⟩) rfl ?_
  refine g_iload_n (n := 2) C dX5_depth_1 rfl rfl ?_
  refine g_V (n := 5) (rest := []) C (k7_layerAt hE hl hR (mc := 0) (ms := 0) hk h8) dX5_depth_2 kM_X5_layerAt kL_X5_231 kV_X5_layerAt hR.co rfl rfl rfl (Nat.le_of_ble_eq_true rfl) ⟨Nat.le_of_ble_eq_true rfl, Nat.le_of_ble_eq_true rfl⟩ ⟨Nat.zero_le _, Nat.zero_le _⟩ rfl (fun v9 L9 f9 hq => ?_)
  obtain ⟨rfl, rfl, rfl⟩ := hq
  refine G.sk (st' := [_]) rfl ?_
  obtain ⟨hI7, hn9, hPR, hSh, hPL, hPb, -⟩ := hR.nv
  obtain ⟨h, s, v, m, ip, hL, hh, hs, hv, q1, q2, q3, -⟩ := hR.lk hk
  refine g_get (n := 8) C dX5_depth_5 kF_X5_192 (by assumption) rfl rfl ?_
  refine g_iconst (n := 9) (v := nI 1) C dX5_depth_8 rfl rfl ?_
  refine g_iaddN (n := 10) C dX5_depth_9 rfl ?_
  refine g_iret C hr dX5_depth_10 ?_ ⟨Nat.zero_le _, Nat.zero_le _⟩
  exact ⟨rfl, rfl, rfl⟩
theorem k7_digest {l : Launch} {s0 : State} {D : va_G} {cy : Nat → ClassId} (hE : gE s0 D cy) (hl : l.stackTraces = false) {L : List Nat} {f : gF} {bk : Nat → Nat} {n : Nat} {X : Nat → va_E} {Is : Nat → Option iT} {PR PL : Nat → Nat} {S A : Nat → Nat → Int32} {I : Nat → Int32} (hR : RC cy bk n X Is PR PL S A I L f) {mc ms : Nat} {k : Nat} (hk : k < n) (h8 : A 8 k = 0) : gM l s0 D yX5_digest cX5_digest 2 (some .int) 8 mc ms [.ref (bk 0), .int (nI k)] L f (fun v L1 f1 => v = some (.int (dgF (S k) 12)) ∧ L = L1 ∧ f = f1) := by
  refine gM.of (own := RX5) hE hl (by decide +kernel) rfl rfl (Nat.le_of_ble_eq_true rfl) (fun p9 e9 s9 m9 a99 b99 t99 c9 C hr hnm => ?_)
  refine G.weak (ls' := [some (.ref (bk 0)), some (.int (nI k))]) ?_ rfl (fun _ _ h => h)
  refine g_aload_n (n := 1) C dX5_digest_0 rfl (Or.inr ⟨_, rfl⟩) rfl ?_
  refine g_iload_n (n := 2) C dX5_digest_1 rfl rfl ?_
  refine g_V (n := 5) (rest := []) C (k7_layerAt hE hl hR (mc := 0) (ms := 0) hk h8) dX5_digest_2 kM_X5_layerAt kL_X5_231 kV_X5_layerAt hR.co rfl rfl rfl (Nat.le_of_ble_eq_true rfl) ⟨Nat.le_of_ble_eq_true rfl, Nat.le_of_ble_eq_true rfl⟩ ⟨Nat.zero_le _, Nat.zero_le _⟩ rfl (fun v9 L9 f9 hq => ?_)
  obtain ⟨rfl, rfl, rfl⟩ := hq
  refine G.sk (st' := [_]) rfl ?_
  obtain ⟨hI7, hn9, hPR, hSh, hPL, hPb, -⟩ := hR.nv
  obtain ⟨h, s, v, m, ip, hL, hh, hs, hv, q1, q2, q3, -⟩ := hR.lk hk
  refine g_V (n := 8) (rest := []) C (k5_fingerprint hE hl hL hh hs hv) dX5_digest_5 kM_X2_fingerprint kL_X5_187 kV_X2_fingerprint hL rfl rfl rfl (Nat.le_of_ble_eq_true rfl) ⟨Nat.le_of_ble_eq_true rfl, Nat.le_of_ble_eq_true rfl⟩ ⟨Nat.zero_le _, Nat.zero_le _⟩ rfl (fun v9 L9 f9 hq => ?_)
  obtain ⟨rfl, rfl, rfl⟩ := hq
  refine G.sk (st' := [_]) rfl ?_
  refine g_iret C hr dX5_digest_8 ?_ ⟨Nat.zero_le _, Nat.zero_le _⟩
  exact ⟨by rw [dgF_c q2 12 (Nat.le_refl _)], rfl, rfl⟩
theorem k7_heldAt {l : Launch} {s0 : State} {D : va_G} {cy : Nat → ClassId} (hE : gE s0 D cy) (hl : l.stackTraces = false) {L : List Nat} {f : gF} {bk : Nat → Nat} {n : Nat} {X : Nat → va_E} {Is : Nat → Option iT} {PR PL : Nat → Nat} {S A : Nat → Nat → Int32} {I : Nat → Int32} (hR : RC cy bk n X Is PR PL S A I L f) {mc ms : Nat} {k : Nat} (hk : k < n) (h8 : A 8 k = 0) {q : Nat} (hq9 : q < 12) : gM l s0 D yX5_heldAt cX5_heldAt 4 (some .int) 8 mc ms [.ref (bk 0), .int (nI k), .int (nI q)] L f (fun v L1 f1 => v = some (.int (A 10 (12 * k + q))) ∧ L = L1 ∧ f = f1) := by
  refine gM.of (own := RX5) hE hl (by decide +kernel) rfl rfl (Nat.le_of_ble_eq_true rfl) (fun p9 e9 s9 m9 a99 b99 t99 c9 C hr hnm => ?_)
  refine G.weak (ls' := [some (.ref (bk 0)), some (.int (nI k)), some (.int (nI q)), none]) ?_ rfl (fun _ _ h => h)
  refine g_aload_n (n := 1) C dX5_heldAt_0 rfl (Or.inr ⟨_, rfl⟩) rfl ?_
  refine g_iload_n (n := 2) C dX5_heldAt_1 rfl rfl ?_
  refine g_V (n := 5) (rest := []) C (k7_layerAt hE hl hR (mc := 0) (ms := 0) hk h8) dX5_heldAt_2 kM_X5_layerAt kL_X5_231 kV_X5_layerAt hR.co rfl rfl rfl (Nat.le_of_ble_eq_true rfl) ⟨Nat.le_of_ble_eq_true rfl, Nat.le_of_ble_eq_true rfl⟩ ⟨Nat.zero_le _, Nat.zero_le _⟩ rfl (fun v9 L9 f9 hq => ?_)
  obtain ⟨rfl, rfl, rfl⟩ := hq
  refine G.sk (st' := [_]) rfl ?_
  obtain ⟨hI7, hn9, hPR, hSh, hPL, hPb, -⟩ := hR.nv
  obtain ⟨h, s, v, m, ip, hL, hh, hs, hv, q1, q2, q3, -⟩ := hR.lk hk
  refine g_astore_n (n := 6) (ls' := [_, _, _, _]) C dX5_heldAt_5 (Or.inr ⟨_, rfl⟩) rfl (by decide) rfl ?_
  refine g_iload_n (n := 7) C dX5_heldAt_6 rfl rfl ?_
  refine g_bipush (n := 9) (v := nI 12) C dX5_heldAt_7 rfl rfl ?_
  refine g_S (n := 12) (rest := []) C (k5_reqIndexM hE hl (x := nI q) (N := 12) (by decide) ⟨q, hq9, rfl⟩) dX5_heldAt_9 kM_X5_requireIndex kL_X5_51 kS_X5_requireIndex rfl rfl (Nat.le_of_ble_eq_true rfl) ⟨Nat.le_of_ble_eq_true rfl, Nat.le_of_ble_eq_true rfl⟩ ⟨Nat.zero_le _, Nat.zero_le _⟩ rfl (fun v9 L9 f9 hq => ?_)
  obtain ⟨rfl, rfl, rfl⟩ := hq
  refine G.sk (st' := []) rfl ?_
  refine g_aload_n (n := 13) C dX5_heldAt_12 rfl (Or.inr ⟨_, rfl⟩) rfl ?_
  refine g_iload_n (n := 14) C dX5_heldAt_13 rfl rfl ?_
  refine g_V (n := 17) (rest := []) C (k5_holds hE hl hL hh hs hv hq9) dX5_heldAt_14 kM_X2_holds kL_X5_240 kV_X2_holds hL rfl rfl rfl (Nat.le_of_ble_eq_true rfl) ⟨Nat.le_of_ble_eq_true rfl, Nat.le_of_ble_eq_true rfl⟩ ⟨Nat.zero_le _, Nat.zero_le _⟩ rfl (fun v9 L9 f9 hq => ?_)
  obtain ⟨rfl, rfl, rfl⟩ := hq
  refine G.sk (st' := [_]) rfl ?_
  refine g_iret C hr dX5_heldAt_17 ?_ ⟨Nat.zero_le _, Nat.zero_le _⟩
  exact ⟨by rw [q1 q hq9], rfl, rfl⟩
theorem k7_shownAt {l : Launch} {s0 : State} {D : va_G} {cy : Nat → ClassId} (hE : gE s0 D cy) (hl : l.stackTraces = false) {L : List Nat} {f : gF} {bk : Nat → Nat} {n : Nat} {X : Nat → va_E} {Is : Nat → Option iT} {PR PL : Nat → Nat} {S A : Nat → Nat → Int32} {I : Nat → Int32} (hR : RC cy bk n X Is PR PL S A I L f) {mc ms : Nat} {k : Nat} (hk : k < n) (h8 : A 8 k = 0) {q : Nat} (hq9 : q < 12) : gM l s0 D yX5_shownAt cX5_shownAt 4 (some .int) 8 mc ms [.ref (bk 0), .int (nI k), .int (nI q)] L f (fun v L1 f1 => v = some (.int (S k q)) ∧ L = L1 ∧ f = f1) := by
  refine gM.of (own := RX5) hE hl (by decide +kernel) rfl rfl (Nat.le_of_ble_eq_true rfl) (fun p9 e9 s9 m9 a99 b99 t99 c9 C hr hnm => ?_)
  refine G.weak (ls' := [some (.ref (bk 0)), some (.int (nI k)), some (.int (nI q)), none]) ?_ rfl (fun _ _ h => h)
  refine g_aload_n (n := 1) C dX5_shownAt_0 rfl (Or.inr ⟨_, rfl⟩) rfl ?_
  refine g_iload_n (n := 2) C dX5_shownAt_1 rfl rfl ?_
  refine g_V (n := 5) (rest := []) C (k7_layerAt hE hl hR (mc := 0) (ms := 0) hk h8) dX5_shownAt_2 kM_X5_layerAt kL_X5_231 kV_X5_layerAt hR.co rfl rfl rfl (Nat.le_of_ble_eq_true rfl) ⟨Nat.le_of_ble_eq_true rfl, Nat.le_of_ble_eq_true rfl⟩ ⟨Nat.zero_le _, Nat.zero_le _⟩ rfl (fun v9 L9 f9 hq => ?_)
  obtain ⟨rfl, rfl, rfl⟩ := hq
  refine G.sk (st' := [_]) rfl ?_
  obtain ⟨hI7, hn9, hPR, hSh, hPL, hPb, -⟩ := hR.nv
  obtain ⟨h, s, v, m, ip, hL, hh, hs, hv, q1, q2, q3, -⟩ := hR.lk hk
  refine g_astore_n (n := 6) (ls' := [_, _, _, _]) C dX5_shownAt_5 (Or.inr ⟨_, rfl⟩) rfl (by decide) rfl ?_
  refine g_iload_n (n := 7) C dX5_shownAt_6 rfl rfl ?_
  refine g_bipush (n := 9) (v := nI 12) C dX5_shownAt_7 rfl rfl ?_
  refine g_S (n := 12) (rest := []) C (k5_reqIndexM hE hl (x := nI q) (N := 12) (by decide) ⟨q, hq9, rfl⟩) dX5_shownAt_9 kM_X5_requireIndex kL_X5_51 kS_X5_requireIndex rfl rfl (Nat.le_of_ble_eq_true rfl) ⟨Nat.le_of_ble_eq_true rfl, Nat.le_of_ble_eq_true rfl⟩ ⟨Nat.zero_le _, Nat.zero_le _⟩ rfl (fun v9 L9 f9 hq => ?_)
  obtain ⟨rfl, rfl, rfl⟩ := hq
  refine G.sk (st' := []) rfl ?_
  refine g_aload_n (n := 13) C dX5_shownAt_12 rfl (Or.inr ⟨_, rfl⟩) rfl ?_
  refine g_iload_n (n := 14) C dX5_shownAt_13 rfl rfl ?_
  refine g_V (n := 17) (rest := []) C (k5_shows hE hl hL hh hs hv hq9) dX5_shownAt_14 kM_X2_shows kL_X5_243 kV_X2_shows hL rfl rfl rfl (Nat.le_of_ble_eq_true rfl) ⟨Nat.le_of_ble_eq_true rfl, Nat.le_of_ble_eq_true rfl⟩ ⟨Nat.zero_le _, Nat.zero_le _⟩ rfl (fun v9 L9 f9 hq => ?_)
  obtain ⟨rfl, rfl, rfl⟩ := hq
  refine G.sk (st' := [_]) rfl ?_
  refine g_iret C hr dX5_shownAt_17 ?_ ⟨Nat.zero_le _, Nat.zero_le _⟩
  exact ⟨by rw [q2 q hq9], rfl, rfl⟩
theorem k7_variable {l : Launch} {s0 : State} {D : va_G} {cy : Nat → ClassId} (hE : gE s0 D cy) (hl : l.stackTraces = false) {L : List Nat} {f : gF} {bk : Nat → Nat} {n : Nat} {X : Nat → va_E} {Is : Nat → Option iT} {PR PL : Nat → Nat} {S A : Nat → Nat → Int32} {I : Nat → Int32} (hR : RC cy bk n X Is PR PL S A I L f) {mc ms : Nat} {k : Nat} (hk : k < n) (h8 : A 8 k = 0) {q : Nat} (hq9 : q < 4) : gM l s0 D yX5_variable cX5_variable 4 (some .int) 8 mc ms [.ref (bk 0), .int (nI k), .int (nI q)] L f (fun v L1 f1 => v = some (.int (A 11 (4 * k + q))) ∧ L = L1 ∧ f = f1) := by
  refine gM.of (own := RX5) hE hl (by decide +kernel) rfl rfl (Nat.le_of_ble_eq_true rfl) (fun p9 e9 s9 m9 a99 b99 t99 c9 C hr hnm => ?_)
  refine G.weak (ls' := [some (.ref (bk 0)), some (.int (nI k)), some (.int (nI q)), none]) ?_ rfl (fun _ _ h => h)
  refine g_aload_n (n := 1) C dX5_variable_0 rfl (Or.inr ⟨_, rfl⟩) rfl ?_
  refine g_iload_n (n := 2) C dX5_variable_1 rfl rfl ?_
  refine g_V (n := 5) (rest := []) C (k7_layerAt hE hl hR (mc := 0) (ms := 0) hk h8) dX5_variable_2 kM_X5_layerAt kL_X5_231 kV_X5_layerAt hR.co rfl rfl rfl (Nat.le_of_ble_eq_true rfl) ⟨Nat.le_of_ble_eq_true rfl, Nat.le_of_ble_eq_true rfl⟩ ⟨Nat.zero_le _, Nat.zero_le _⟩ rfl (fun v9 L9 f9 hq => ?_)
  obtain ⟨rfl, rfl, rfl⟩ := hq
  refine G.sk (st' := [_]) rfl ?_
  obtain ⟨hI7, hn9, hPR, hSh, hPL, hPb, -⟩ := hR.nv
  obtain ⟨h, s, v, m, ip, hL, hh, hs, hv, q1, q2, q3, -⟩ := hR.lk hk
  refine g_astore_n (n := 6) (ls' := [_, _, _, _]) C dX5_variable_5 (Or.inr ⟨_, rfl⟩) rfl (by decide) rfl ?_
  refine g_iload_n (n := 7) C dX5_variable_6 rfl rfl ?_
  refine g_iconst (n := 8) (v := nI 4) C dX5_variable_7 rfl rfl ?_
  refine g_S (n := 11) (rest := []) C (k5_reqIndexM hE hl (x := nI q) (N := 4) (by decide) ⟨q, hq9, rfl⟩) dX5_variable_8 kM_X5_requireIndex kL_X5_51 kS_X5_requireIndex rfl rfl (Nat.le_of_ble_eq_true rfl) ⟨Nat.le_of_ble_eq_true rfl, Nat.le_of_ble_eq_true rfl⟩ ⟨Nat.zero_le _, Nat.zero_le _⟩ rfl (fun v9 L9 f9 hq => ?_)
  obtain ⟨rfl, rfl, rfl⟩ := hq
  refine G.sk (st' := []) rfl ?_
  refine g_aload_n (n := 12) C dX5_variable_11 rfl (Or.inr ⟨_, rfl⟩) rfl ?_
  refine g_iload_n (n := 13) C dX5_variable_12 rfl rfl ?_
  refine g_V (n := 16) (rest := []) C (k5_value hE hl hL hh hs hv hq9) dX5_variable_13 kM_X2_value kL_X5_246 kV_X2_value hL rfl rfl rfl (Nat.le_of_ble_eq_true rfl) ⟨Nat.le_of_ble_eq_true rfl, Nat.le_of_ble_eq_true rfl⟩ ⟨Nat.zero_le _, Nat.zero_le _⟩ rfl (fun v9 L9 f9 hq => ?_)
  obtain ⟨rfl, rfl, rfl⟩ := hq
  refine G.sk (st' := [_]) rfl ?_
  refine g_iret C hr dX5_variable_16 ?_ ⟨Nat.zero_le _, Nat.zero_le _⟩
  exact ⟨by rw [q3 q hq9], rfl, rfl⟩
theorem k7_imageSize {l : Launch} {s0 : State} {D : va_G} {cy : Nat → ClassId} (hE : gE s0 D cy) (hl : l.stackTraces = false) {L : List Nat} {f : gF} {bk : Nat → Nat} {n : Nat} {X : Nat → va_E} {Is : Nat → Option iT} {PR PL : Nat → Nat} {S A : Nat → Nat → Int32} {I : Nat → Int32} (hR : RC cy bk n X Is PR PL S A I L f) {mc ms : Nat} {k : Nat} (hk : k < n) (h8 : A 8 k = 0) : gM l s0 D yX5_imageSize cX5_imageSize 4 (some .int) 8 mc ms [.ref (bk 0), .int (nI k)] L f (fun v L1 f1 => v = some (.int (nI (isT A PR (k + 1)))) ∧ L = L1 ∧ f = f1) := by
  refine gM.of (own := RX5) hE hl (by decide +kernel) rfl rfl (Nat.le_of_ble_eq_true rfl) (fun p9 e9 s9 m9 a99 b99 t99 c9 C hr hnm => ?_)
  refine G.weak (ls' := [some (.ref (bk 0)), some (.int (nI k)), none, none]) ?_ rfl (fun _ _ h => h)
  refine g_iconst (n := 1) (v := nI 0) C dX5_imageSize_0 rfl rfl ?_
  refine g_istore_n (n := 2) (ls' := [_, _, _, _]) C dX5_imageSize_1 rfl (by decide) rfl ?_
  refine g_aload_n (n := 3) C dX5_imageSize_2 rfl (Or.inr ⟨_, rfl⟩) rfl ?_
  refine g_iload_n (n := 4) C dX5_imageSize_3 rfl rfl ?_
  refine g_V (n := 7) (rest := []) C (k7_layerAt hE hl hR (mc := 0) (ms := 0) hk h8) dX5_imageSize_4 kM_X5_layerAt kL_X5_231 kV_X5_layerAt hR.co rfl rfl rfl (Nat.le_of_ble_eq_true rfl) ⟨Nat.le_of_ble_eq_true rfl, Nat.le_of_ble_eq_true rfl⟩ ⟨Nat.zero_le _, Nat.zero_le _⟩ rfl (fun v9 L9 f9 hq => ?_)
  obtain ⟨rfl, rfl, rfl⟩ := hq
  refine G.sk (st' := [_]) rfl ?_
  obtain ⟨hI7, hn9, hPR, hSh, hPL, hPb, -⟩ := hR.nv
  refine g_astore_n (n := 8) (ls' := [_, _, _, _]) C dX5_imageSize_7 (Or.inr ⟨_, rfl⟩) rfl (by decide) rfl ?_
  refine g_loop (α := Nat × Nat) (fun y => y.1 ≤ n ∧ y.2 + isT A PR y.1 = isT A PR (k + 1)) (fun y => y.1) (fun _ => L) (fun _ => f) (fun _ => _) (fun _ => _) 8 (fun y => [some (.ref (bk 0)), some (.int (nI k)), some (.int (nI y.2)), some (va_rf (pR bk y.1))]) (fun _ => []) (fun y hy ih => ?_) (fun J => J (k + 1, 0) ⟨hk, Nat.zero_add _⟩)
  obtain ⟨m9, t9⟩ := y
  obtain ⟨hm, hv2⟩ := hy
  dsimp only at hm hv2 ih ⊢
  refine g_aload_n (n := 9) C dX5_imageSize_8 rfl (rf_or _) rfl ?_
  refine g_ifnull (n := 12) (tgt := 27) C dX5_imageSize_9 (by decide) rfl (fun h9 => ?_) (fun a9 h9 => ?_)
  · have e9 := pR_none h9
    subst e9
    have ht : t9 = isT A PR (k + 1) := hv2
    subst ht
    refine g_iload_n (n := 28) C dX5_imageSize_27 rfl rfl ?_
    refine g_iret C hr dX5_imageSize_28 ?_ ⟨Nat.zero_le _, Nat.zero_le _⟩
    exact ⟨rfl, rfl, rfl⟩
  · obtain ⟨j, rfl, rfl⟩ := pR_some h9
    rw [show pR bk (j + 1) = some (bk (100 + 4 * j)) from rfl]
    obtain ⟨h, s, v, m, ip, hL, hh, hs, hv, q1, -⟩ := hR.lk (k := j) hm
    refine g_iload_n (n := 13) C dX5_imageSize_12 rfl rfl ?_
    refine g_aload_n (n := 14) C dX5_imageSize_13 rfl (Or.inr ⟨_, rfl⟩) rfl ?_
    refine g_V (n := 17) (rest := [_]) C (k5_size hE hl hL hh hs hv) dX5_imageSize_14 kM_X2_size kL_X5_237 kV_X2_size hL rfl rfl rfl (Nat.le_of_ble_eq_true rfl) ⟨Nat.le_of_ble_eq_true rfl, Nat.le_of_ble_eq_true rfl⟩ ⟨Nat.zero_le _, Nat.zero_le _⟩ rfl (fun v9 L9 f9 hq => ?_)
    obtain ⟨rfl, rfl, rfl⟩ := hq
    refine G.sk (st' := [_, _]) rfl ?_
    refine g_iaddN (n := 18) C dX5_imageSize_17 rfl ?_
    refine g_istore_n (n := 19) (ls' := [_, _, _, _]) C dX5_imageSize_18 rfl (by decide) rfl ?_
    refine g_aload_n (n := 20) C dX5_imageSize_19 rfl (Or.inr ⟨_, rfl⟩) rfl ?_
    refine g_get (n := 23) C dX5_imageSize_20 kF_X5_234 (by assumption) rfl rfl ?_
    refine g_astore_n (n := 24) (ls' := [_, _, _, _]) C dX5_imageSize_23 (rf_or _) rfl (by decide) rfl ?_
    refine g_goto (tgt := 8) C dX5_imageSize_24 (by decide) ?_
    rw [szF_N q1 12 (Nat.le_refl _)]
    exact ih (PR j, t9 + szN A j 12) ⟨by have := (hPR j hm).1; show PR j ≤ n; omega, by rw [← hv2, isT_s (n := n) (fun k hk => (hPR k hk).1) hm, Nat.add_assoc]⟩ (by have := (hPR j hm).1; show PR j < j + 1; omega)
theorem k7_hits {l : Launch} {s0 : State} {D : va_G} {cy : Nat → ClassId} (hE : gE s0 D cy) (hl : l.stackTraces = false) {L : List Nat} {f : gF} {bk : Nat → Nat} {n : Nat} {X : Nat → va_E} {Is : Nat → Option iT} {PR PL : Nat → Nat} {S A : Nat → Nat → Int32} {I : Nat → Int32} (hR : RC cy bk n X Is PR PL S A I L f) {mc ms : Nat}  : gM l s0 D yX5_hits cX5_hits 1 (some .int) 8 mc ms [.ref (bk 0)] L f (fun v L1 f1 => v = some (.int (I 25)) ∧ L = L1 ∧ f = f1) := by
  refine gM.of (own := RX5) hE hl (by decide +kernel) rfl rfl (Nat.le_of_ble_eq_true rfl) (fun p9 e9 s9 m9 a99 b99 t99 c9 C hr hnm => ?_)
  refine G.weak (ls' := [some (.ref (bk 0))]) ?_ rfl (fun _ _ h => h)
  refine g_aload_n (n := 1) C dX5_hits_0 rfl (Or.inr ⟨_, rfl⟩) rfl ?_
  refine g_get (n := 4) C dX5_hits_1 kF_X5_166 hR.co rfl rfl ?_
  refine g_iret C hr dX5_hits_4 ?_ ⟨Nat.zero_le _, Nat.zero_le _⟩
  exact ⟨rfl, rfl, rfl⟩
theorem k7_misses {l : Launch} {s0 : State} {D : va_G} {cy : Nat → ClassId} (hE : gE s0 D cy) (hl : l.stackTraces = false) {L : List Nat} {f : gF} {bk : Nat → Nat} {n : Nat} {X : Nat → va_E} {Is : Nat → Option iT} {PR PL : Nat → Nat} {S A : Nat → Nat → Int32} {I : Nat → Int32} (hR : RC cy bk n X Is PR PL S A I L f) {mc ms : Nat}  : gM l s0 D yX5_misses cX5_misses 1 (some .int) 8 mc ms [.ref (bk 0)] L f (fun v L1 f1 => v = some (.int (I 26)) ∧ L = L1 ∧ f = f1) := by
  refine gM.of (own := RX5) hE hl (by decide +kernel) rfl rfl (Nat.le_of_ble_eq_true rfl) (fun p9 e9 s9 m9 a99 b99 t99 c9 C hr hnm => ?_)
  refine G.weak (ls' := [some (.ref (bk 0))]) ?_ rfl (fun _ _ h => h)
  refine g_aload_n (n := 1) C dX5_misses_0 rfl (Or.inr ⟨_, rfl⟩) rfl ?_
  refine g_get (n := 4) C dX5_misses_1 kF_X5_169 hR.co rfl rfl ?_
  refine g_iret C hr dX5_misses_4 ?_ ⟨Nat.zero_le _, Nat.zero_le _⟩
  exact ⟨rfl, rfl, rfl⟩
theorem k7_layers {l : Launch} {s0 : State} {D : va_G} {cy : Nat → ClassId} (hE : gE s0 D cy) (hl : l.stackTraces = false) {L : List Nat} {f : gF} {bk : Nat → Nat} {n : Nat} {X : Nat → va_E} {Is : Nat → Option iT} {PR PL : Nat → Nat} {S A : Nat → Nat → Int32} {I : Nat → Int32} (hR : RC cy bk n X Is PR PL S A I L f) {mc ms : Nat}  : gM l s0 D yX5_layers cX5_layers 1 (some .int) 8 mc ms [.ref (bk 0)] L f (fun v L1 f1 => v = some (.int (nI n)) ∧ L = L1 ∧ f = f1) := by
  refine gM.of (own := RX5) hE hl (by decide +kernel) rfl rfl (Nat.le_of_ble_eq_true rfl) (fun p9 e9 s9 m9 a99 b99 t99 c9 C hr hnm => ?_)
  refine G.weak (ls' := [some (.ref (bk 0))]) ?_ rfl (fun _ _ h => h)
  have hco := hR.co
  obtain ⟨g, hso, -⟩ := hR.st
  refine g_aload_n (n := 1) C dX5_layers_0 rfl (Or.inr ⟨_, rfl⟩) rfl ?_
  refine g_get (n := 4) C dX5_layers_1 kF_X5_33 (by assumption) rfl rfl ?_
  refine g_get (n := 7) C dX5_layers_4 kF_X5_215 (by assumption) rfl rfl ?_
  refine g_iret C hr dX5_layers_7 ?_ ⟨Nat.zero_le _, Nat.zero_le _⟩
  exact ⟨rfl, rfl, rfl⟩
theorem k7_stepsLeft {l : Launch} {s0 : State} {D : va_G} {cy : Nat → ClassId} (hE : gE s0 D cy) (hl : l.stackTraces = false) {L : List Nat} {f : gF} {bk : Nat → Nat} {n : Nat} {X : Nat → va_E} {Is : Nat → Option iT} {PR PL : Nat → Nat} {S A : Nat → Nat → Int32} {I : Nat → Int32} (hR : RC cy bk n X Is PR PL S A I L f) {mc ms : Nat}  : gM l s0 D yX5_stepsLeft cX5_stepsLeft 1 (some .int) 8 mc ms [.ref (bk 0)] L f (fun v L1 f1 => v = some (.int (slV I)) ∧ L = L1 ∧ f = f1) := by
  refine gM.of (own := RX5) hE hl (by decide +kernel) rfl rfl (Nat.le_of_ble_eq_true rfl) (fun p9 e9 s9 m9 a99 b99 t99 c9 C hr hnm => ?_)
  refine G.weak (ls' := [some (.ref (bk 0))]) ?_ rfl (fun _ _ h => h)
  have hco := hR.co
  obtain ⟨t, c, ly, bs, g, ht9, hc9, hbo, hpl, hpr, hp1, hp2, hbu⟩ := hR.bu
  refine g_aload_n (n := 1) C dX5_stepsLeft_0 rfl (Or.inr ⟨_, rfl⟩) rfl ?_
  refine g_get (n := 4) C dX5_stepsLeft_1 kF_X5_40 (by assumption) rfl rfl ?_
  refine g_V (n := 7) (rest := []) C (k5_left hE hl hpl hpr hbo ht9 hc9) dX5_stepsLeft_4 kM_X0_left kL_X5_155 kV_X0_left (by assumption) rfl rfl rfl (Nat.le_of_ble_eq_true rfl) ⟨Nat.le_of_ble_eq_true rfl, Nat.le_of_ble_eq_true rfl⟩ ⟨Nat.zero_le _, Nat.zero_le _⟩ rfl (fun v9 L9 f9 hq => ?_)
  obtain ⟨rfl, rfl, rfl⟩ := hq
  refine G.sk (st' := [_]) rfl ?_
  refine g_iret C hr dX5_stepsLeft_7 ?_ ⟨Nat.zero_le _, Nat.zero_le _⟩
  have e6 : slV I = nI (c - t) := by
    unfold slV
    rcases hbu with ⟨h1, -, h2, h3, -⟩ | ⟨h1, h2, -⟩
    · rw [if_pos (by rw [h1]; decide), h2, h3, gn_sub ht9]
    · rw [if_neg (fun z => z h1), h2, Nat.sub_self]; rfl
  exact ⟨by rw [e6], rfl, rfl⟩
theorem k7_built {l : Launch} {s0 : State} {D : va_G} {cy : Nat → ClassId} (hE : gE s0 D cy) (hl : l.stackTraces = false) {L : List Nat} {f : gF} {bk : Nat → Nat} {n : Nat} {X : Nat → va_E} {Is : Nat → Option iT} {PR PL : Nat → Nat} {S A : Nat → Nat → Int32} {I : Nat → Int32} (hR : RC cy bk n X Is PR PL S A I L f) {mc ms : Nat}  : gM l s0 D yX5_built cX5_built 1 (some .int) 8 mc ms [.ref (bk 0)] L f (fun v L1 f1 => v = some (.int (resV A I)) ∧ L = L1 ∧ f = f1) := by
  refine gM.of (own := RX5) hE hl (by decide +kernel) rfl rfl (Nat.le_of_ble_eq_true rfl) (fun p9 e9 s9 m9 a99 b99 t99 c9 C hr hnm => ?_)
  refine G.weak (ls' := [some (.ref (bk 0))]) ?_ rfl (fun _ _ h => h)
  have hco := hR.co
  obtain ⟨t, c, ly, bs, g, ht9, hc9, hbo, hpl, hpr, hp1, hp2, hbu⟩ := hR.bu
  refine g_aload_n (n := 1) C dX5_built_0 rfl (Or.inr ⟨_, rfl⟩) rfl ?_
  refine g_get (n := 4) C dX5_built_1 kF_X5_40 (by assumption) rfl rfl ?_
  refine g_V (n := 7) (rest := []) C (k5_finished hE hl hpl hpr hbo ht9 hc9) dX5_built_4 kM_X0_finished kL_X5_158 kV_X0_finished (by assumption) rfl rfl rfl (Nat.le_of_ble_eq_true rfl) ⟨Nat.le_of_ble_eq_true rfl, Nat.le_of_ble_eq_true rfl⟩ ⟨Nat.zero_le _, Nat.zero_le _⟩ rfl (fun v9 L9 f9 hq => ?_)
  obtain ⟨rfl, rfl, rfl⟩ := hq
  have hfin := hR.fin hbu
  generalize (if t < c then none else ly) = o at hfin ⊢
  refine G.sk (st' := [_]) rfl ?_
  refine g_S (n := 10) (rest := []) C (k5_numberOf hE hl (x := resV A I) (hR.fiX (hfin.imp id (fun ⟨k, h1, h2, h3, h4, h5⟩ => ⟨k, h1, h4, h5⟩)))) dX5_built_7 kM_X5_numberOf kL_X5_162 kS_X5_numberOf rfl rfl (Nat.le_of_ble_eq_true rfl) ⟨Nat.le_of_ble_eq_true rfl, Nat.le_of_ble_eq_true rfl⟩ ⟨Nat.zero_le _, Nat.zero_le _⟩ rfl (fun v9 L9 f9 hq => ?_)
  obtain ⟨rfl, rfl, rfl⟩ := hq
  refine G.sk (st' := [_]) rfl ?_
  refine g_iret C hr dX5_built_10 ?_ ⟨Nat.zero_le _, Nat.zero_le _⟩
  exact ⟨rfl, rfl, rfl⟩
theorem k7_tagged {l : Launch} {s0 : State} {D : va_G} {cy : Nat → ClassId} (hE : gE s0 D cy) (hl : l.stackTraces = false) {L : List Nat} {f : gF} {bk : Nat → Nat} {n : Nat} {X : Nat → va_E} {Is : Nat → Option iT} {PR PL : Nat → Nat} {S A : Nat → Nat → Int32} {I : Nat → Int32} (hR : RC cy bk n X Is PR PL S A I L f) {mc ms : Nat} {j : Nat} (hj : j < 5) : gM l s0 D yX5_tagged cX5_tagged 2 (some .int) 8 mc ms [.ref (bk 0), .int (nI j)] L f (fun v L1 f1 => v = some (.int (A 16 j)) ∧ L = L1 ∧ f = f1) := by
  refine gM.of (own := RX5) hE hl (by decide +kernel) rfl rfl (Nat.le_of_ble_eq_true rfl) (fun p9 e9 s9 m9 a99 b99 t99 c9 C hr hnm => ?_)
  refine G.weak (ls' := [some (.ref (bk 0)), some (.int (nI j))]) ?_ rfl (fun _ _ h => h)
  refine g_iload_n (n := 1) C dX5_tagged_0 rfl rfl ?_
  refine g_iconst (n := 2) (v := nI 5) C dX5_tagged_1 rfl rfl ?_
  refine g_S (n := 5) (rest := []) C (k5_reqIndexM hE hl (x := nI j) (N := 5) (by decide) ⟨j, hj, rfl⟩) dX5_tagged_2 kM_X5_requireIndex kL_X5_51 kS_X5_requireIndex rfl rfl (Nat.le_of_ble_eq_true rfl) ⟨Nat.le_of_ble_eq_true rfl, Nat.le_of_ble_eq_true rfl⟩ ⟨Nat.zero_le _, Nat.zero_le _⟩ rfl (fun v9 L9 f9 hq => ?_)
  obtain ⟨rfl, rfl, rfl⟩ := hq
  refine G.sk (st' := []) rfl ?_
  have hco := hR.co
  obtain ⟨g, hta, hg⟩ := hR.ta
  refine g_aload_n (n := 6) C dX5_tagged_5 rfl (Or.inr ⟨_, rfl⟩) rfl ?_
  refine g_get (n := 9) C dX5_tagged_6 kF_X5_26 (by assumption) rfl rfl ?_
  refine g_iload_n (n := 10) C dX5_tagged_9 rfl rfl ?_
  refine g_aald (n := 11) (t := 5) C dX5_tagged_10 rfl rfl (by assumption) rfl (by omega) (by decide) rfl ?_
  refine g_S (n := 14) (rest := []) C (k5_numberOf hE hl (x := A 16 j) (hR.fiX (hg j hj).w)) dX5_tagged_11 kM_X5_numberOf kL_X5_162 kS_X5_numberOf rfl rfl (Nat.le_of_ble_eq_true rfl) ⟨Nat.le_of_ble_eq_true rfl, Nat.le_of_ble_eq_true rfl⟩ ⟨Nat.zero_le _, Nat.zero_le _⟩ rfl (fun v9 L9 f9 hq => ?_)
  obtain ⟨rfl, rfl, rfl⟩ := hq
  refine G.sk (st' := [_]) rfl ?_
  refine g_iret C hr dX5_tagged_14 ?_ ⟨Nat.zero_le _, Nat.zero_le _⟩
  exact ⟨rfl, rfl, rfl⟩
theorem k7_recipeAt {l : Launch} {s0 : State} {D : va_G} {cy : Nat → ClassId} (hE : gE s0 D cy) (hl : l.stackTraces = false) {L : List Nat} {f : gF} {bk : Nat → Nat} {n : Nat} {X : Nat → va_E} {Is : Nat → Option iT} {PR PL : Nat → Nat} {S A : Nat → Nat → Int32} {I : Nat → Int32} (hR : RC cy bk n X Is PR PL S A I L f) {mc ms : Nat} {i : Nat} (hi : i < 4) : gM l s0 D yX5_recipeAt cX5_recipeAt 3 (some (.object RX3)) 7 mc ms [.ref (bk 0), .int (nI i)] L f (fun v L1 f1 => v = some (.ref (bk (11 + 2 * i))) ∧ L = L1 ∧ f = f1) := by
  refine gM.of (own := RX5) hE hl (by decide +kernel) rfl rfl (Nat.le_of_ble_eq_true rfl) (fun p9 e9 s9 m9 a99 b99 t99 c9 C hr hnm => ?_)
  refine G.weak (ls' := [some (.ref (bk 0)), some (.int (nI i)), none]) ?_ rfl (fun _ _ h => h)
  refine g_iload_n (n := 1) C dX5_recipeAt_0 rfl rfl ?_
  refine g_iconst (n := 2) (v := nI 4) C dX5_recipeAt_1 rfl rfl ?_
  refine g_S (n := 5) (rest := []) C (k5_isIn hE hl (nI i) (nI 4)) dX5_recipeAt_2 kM_X5_isIn kL_X5_249 kS_X5_isIn rfl rfl (Nat.le_of_ble_eq_true rfl) ⟨Nat.le_of_ble_eq_true rfl, Nat.le_of_ble_eq_true rfl⟩ ⟨Nat.zero_le _, Nat.zero_le _⟩ rfl (fun v9 L9 f9 hq => ?_)
  obtain ⟨rfl, rfl, rfl⟩ := hq
  refine G.sk (st' := [_]) rfl ?_
  refine g_if_eq (n := 8) (tgt := 17) C dX5_recipeAt_5 (by decide) rfl (fun h5 => absurd h5 (in_t hi (by decide))) (fun h5 => ?_)
  have hco := hR.co
  obtain ⟨r, hre, hri⟩ := hR.re
  refine g_aload_n (n := 9) C dX5_recipeAt_8 rfl (Or.inr ⟨_, rfl⟩) rfl ?_
  refine g_get (n := 12) C dX5_recipeAt_9 kF_X5_20 (by assumption) rfl rfl ?_
  refine g_iload_n (n := 13) C dX5_recipeAt_12 rfl rfl ?_
  refine g_aald (n := 14) (t := 4) C dX5_recipeAt_13 rfl rfl (by assumption) rfl (by omega) (by decide) rfl ?_
  rw [hri i hi]
  refine g_goto (tgt := 18) C dX5_recipeAt_14 (by decide) ?_
  refine g_astore_n (n := 19) (ls' := [_, _, _]) C dX5_recipeAt_18 (rf_or _) rfl (by decide) rfl ?_
  refine g_aload_n (n := 20) C dX5_recipeAt_19 rfl (rf_or _) rfl ?_
  refine g_ifnonnull (n := 23) (tgt := 34) C dX5_recipeAt_20 (by decide) rfl (fun a20 h20 => ?_) (fun h20 => nomatch h20)
  refine g_aload_n (n := 35) C dX5_recipeAt_34 rfl (rf_or _) rfl ?_
  refine g_aret C hr (Or.inl ⟨_, rfl⟩) dX5_recipeAt_35 ?_ ⟨Nat.zero_le _, Nat.zero_le _⟩
  exact ⟨rfl, rfl, rfl⟩
theorem k7_instructions {l : Launch} {s0 : State} {D : va_G} {cy : Nat → ClassId} (hE : gE s0 D cy) (hl : l.stackTraces = false) {L : List Nat} {f : gF} {bk : Nat → Nat} {n : Nat} {X : Nat → va_E} {Is : Nat → Option iT} {PR PL : Nat → Nat} {S A : Nat → Nat → Int32} {I : Nat → Int32} (hR : RC cy bk n X Is PR PL S A I L f) {mc ms : Nat} {i : Nat} (hi : i < 4) : gM l s0 D yX5_instructions cX5_instructions 2 (some .int) 8 mc ms [.ref (bk 0), .int (nI i)] L f (fun v L1 f1 => v = some (.int (A 3 i)) ∧ L = L1 ∧ f = f1) := by
  refine gM.of (own := RX5) hE hl (by decide +kernel) rfl rfl (Nat.le_of_ble_eq_true rfl) (fun p9 e9 s9 m9 a99 b99 t99 c9 C hr hnm => ?_)
  refine G.weak (ls' := [some (.ref (bk 0)), some (.int (nI i))]) ?_ rfl (fun _ _ h => h)
  refine g_aload_n (n := 1) C dX5_instructions_0 rfl (Or.inr ⟨_, rfl⟩) rfl ?_
  refine g_iload_n (n := 2) C dX5_instructions_1 rfl rfl ?_
  refine g_V (n := 5) (rest := []) C (k7_recipeAt hE hl hR (mc := 0) (ms := 0) hi) dX5_instructions_2 kM_X5_recipeAt kL_X5_59 kV_X5_recipeAt hR.co rfl rfl rfl (Nat.le_of_ble_eq_true rfl) ⟨Nat.le_of_ble_eq_true rfl, Nat.le_of_ble_eq_true rfl⟩ ⟨Nat.zero_le _, Nat.zero_le _⟩ rfl (fun v9 L9 f9 hq => ?_)
  obtain ⟨rfl, rfl, rfl⟩ := hq
  refine G.sk (st' := [_]) rfl ?_
  obtain ⟨c, b0, g, hc9, hb9, e3, e2, hro, hrw, hg1, hg2⟩ := hR.ri hi
  rw [e3]
  refine g_get (n := 8) C dX5_instructions_5 kF_X5_63 (by assumption) rfl rfl ?_
  refine g_iret C hr dX5_instructions_8 ?_ ⟨Nat.zero_le _, Nat.zero_le _⟩
  exact ⟨rfl, rfl, rfl⟩
theorem z_parentOf {l : Launch} {s0 : State} {D : va_G} {cy : Nat → ClassId} (hE : gE s0 D cy) (hl : l.stackTraces = false) {L : List Nat} {f : gF} {co n : Nat} {PR PL : Nat → Nat} {S A : Nat → Nat → Int32} {I : Nat → Int32} {mc ms : Nat} (h : CX cy co n PR PL S A I L f) {k : Nat} (hk : k < n) (h8 : A 8 k = 0) : gM l s0 D yX5_parentOf cX5_parentOf 2 (some .int) 8 mc ms [.ref co, .int (nI k)] L f (fun v L1 f1 => v = some (.int (pI (PR k))) ∧ L = L1 ∧ f = f1) := by
  obtain ⟨bk, X, Is, rfl, hR, -⟩ := h
  exact k7_parentOf hE hl hR hk h8
theorem z_sizeOf {l : Launch} {s0 : State} {D : va_G} {cy : Nat → ClassId} (hE : gE s0 D cy) (hl : l.stackTraces = false) {L : List Nat} {f : gF} {co n : Nat} {PR PL : Nat → Nat} {S A : Nat → Nat → Int32} {I : Nat → Int32} {mc ms : Nat} (h : CX cy co n PR PL S A I L f) {k : Nat} (hk : k < n) (h8 : A 8 k = 0) : gM l s0 D yX5_sizeOf cX5_sizeOf 2 (some .int) 8 mc ms [.ref co, .int (nI k)] L f (fun v L1 f1 => v = some (.int (nI (szN A k 12))) ∧ L = L1 ∧ f = f1) := by
  obtain ⟨bk, X, Is, rfl, hR, -⟩ := h
  exact k7_sizeOf hE hl hR hk h8
theorem z_depth {l : Launch} {s0 : State} {D : va_G} {cy : Nat → ClassId} (hE : gE s0 D cy) (hl : l.stackTraces = false) {L : List Nat} {f : gF} {co n : Nat} {PR PL : Nat → Nat} {S A : Nat → Nat → Int32} {I : Nat → Int32} {mc ms : Nat} (h : CX cy co n PR PL S A I L f) {k : Nat} (hk : k < n) (h8 : A 8 k = 0) : gM l s0 D yX5_depth cX5_depth 2 (some .int) 8 mc ms [.ref co, .int (nI k)] L f (fun v L1 f1 => v = some (.int (nI (PL k + 1))) ∧ L = L1 ∧ f = f1) := by
  obtain ⟨bk, X, Is, rfl, hR, -⟩ := h
  exact k7_depth hE hl hR hk h8
theorem z_digest {l : Launch} {s0 : State} {D : va_G} {cy : Nat → ClassId} (hE : gE s0 D cy) (hl : l.stackTraces = false) {L : List Nat} {f : gF} {co n : Nat} {PR PL : Nat → Nat} {S A : Nat → Nat → Int32} {I : Nat → Int32} {mc ms : Nat} (h : CX cy co n PR PL S A I L f) {k : Nat} (hk : k < n) (h8 : A 8 k = 0) : gM l s0 D yX5_digest cX5_digest 2 (some .int) 8 mc ms [.ref co, .int (nI k)] L f (fun v L1 f1 => v = some (.int (dgF (S k) 12)) ∧ L = L1 ∧ f = f1) := by
  obtain ⟨bk, X, Is, rfl, hR, -⟩ := h
  exact k7_digest hE hl hR hk h8
theorem z_heldAt {l : Launch} {s0 : State} {D : va_G} {cy : Nat → ClassId} (hE : gE s0 D cy) (hl : l.stackTraces = false) {L : List Nat} {f : gF} {co n : Nat} {PR PL : Nat → Nat} {S A : Nat → Nat → Int32} {I : Nat → Int32} {mc ms : Nat} (h : CX cy co n PR PL S A I L f) {k : Nat} (hk : k < n) (h8 : A 8 k = 0) {q : Nat} (hq9 : q < 12) : gM l s0 D yX5_heldAt cX5_heldAt 4 (some .int) 8 mc ms [.ref co, .int (nI k), .int (nI q)] L f (fun v L1 f1 => v = some (.int (A 10 (12 * k + q))) ∧ L = L1 ∧ f = f1) := by
  obtain ⟨bk, X, Is, rfl, hR, -⟩ := h
  exact k7_heldAt hE hl hR hk h8 hq9
theorem z_shownAt {l : Launch} {s0 : State} {D : va_G} {cy : Nat → ClassId} (hE : gE s0 D cy) (hl : l.stackTraces = false) {L : List Nat} {f : gF} {co n : Nat} {PR PL : Nat → Nat} {S A : Nat → Nat → Int32} {I : Nat → Int32} {mc ms : Nat} (h : CX cy co n PR PL S A I L f) {k : Nat} (hk : k < n) (h8 : A 8 k = 0) {q : Nat} (hq9 : q < 12) : gM l s0 D yX5_shownAt cX5_shownAt 4 (some .int) 8 mc ms [.ref co, .int (nI k), .int (nI q)] L f (fun v L1 f1 => v = some (.int (S k q)) ∧ L = L1 ∧ f = f1) := by
  obtain ⟨bk, X, Is, rfl, hR, -⟩ := h
  exact k7_shownAt hE hl hR hk h8 hq9
theorem z_variable {l : Launch} {s0 : State} {D : va_G} {cy : Nat → ClassId} (hE : gE s0 D cy) (hl : l.stackTraces = false) {L : List Nat} {f : gF} {co n : Nat} {PR PL : Nat → Nat} {S A : Nat → Nat → Int32} {I : Nat → Int32} {mc ms : Nat} (h : CX cy co n PR PL S A I L f) {k : Nat} (hk : k < n) (h8 : A 8 k = 0) {q : Nat} (hq9 : q < 4) : gM l s0 D yX5_variable cX5_variable 4 (some .int) 8 mc ms [.ref co, .int (nI k), .int (nI q)] L f (fun v L1 f1 => v = some (.int (A 11 (4 * k + q))) ∧ L = L1 ∧ f = f1) := by
  obtain ⟨bk, X, Is, rfl, hR, -⟩ := h
  exact k7_variable hE hl hR hk h8 hq9
theorem z_imageSize {l : Launch} {s0 : State} {D : va_G} {cy : Nat → ClassId} (hE : gE s0 D cy) (hl : l.stackTraces = false) {L : List Nat} {f : gF} {co n : Nat} {PR PL : Nat → Nat} {S A : Nat → Nat → Int32} {I : Nat → Int32} {mc ms : Nat} (h : CX cy co n PR PL S A I L f) {k : Nat} (hk : k < n) (h8 : A 8 k = 0) : gM l s0 D yX5_imageSize cX5_imageSize 4 (some .int) 8 mc ms [.ref co, .int (nI k)] L f (fun v L1 f1 => v = some (.int (nI (isT A PR (k + 1)))) ∧ L = L1 ∧ f = f1) := by
  obtain ⟨bk, X, Is, rfl, hR, -⟩ := h
  exact k7_imageSize hE hl hR hk h8
theorem z_hits {l : Launch} {s0 : State} {D : va_G} {cy : Nat → ClassId} (hE : gE s0 D cy) (hl : l.stackTraces = false) {L : List Nat} {f : gF} {co n : Nat} {PR PL : Nat → Nat} {S A : Nat → Nat → Int32} {I : Nat → Int32} {mc ms : Nat} (h : CX cy co n PR PL S A I L f)  : gM l s0 D yX5_hits cX5_hits 1 (some .int) 8 mc ms [.ref co] L f (fun v L1 f1 => v = some (.int (I 25)) ∧ L = L1 ∧ f = f1) := by
  obtain ⟨bk, X, Is, rfl, hR, -⟩ := h
  exact k7_hits hE hl hR 
theorem z_misses {l : Launch} {s0 : State} {D : va_G} {cy : Nat → ClassId} (hE : gE s0 D cy) (hl : l.stackTraces = false) {L : List Nat} {f : gF} {co n : Nat} {PR PL : Nat → Nat} {S A : Nat → Nat → Int32} {I : Nat → Int32} {mc ms : Nat} (h : CX cy co n PR PL S A I L f)  : gM l s0 D yX5_misses cX5_misses 1 (some .int) 8 mc ms [.ref co] L f (fun v L1 f1 => v = some (.int (I 26)) ∧ L = L1 ∧ f = f1) := by
  obtain ⟨bk, X, Is, rfl, hR, -⟩ := h
  exact k7_misses hE hl hR 
theorem z_layers {l : Launch} {s0 : State} {D : va_G} {cy : Nat → ClassId} (hE : gE s0 D cy) (hl : l.stackTraces = false) {L : List Nat} {f : gF} {co n : Nat} {PR PL : Nat → Nat} {S A : Nat → Nat → Int32} {I : Nat → Int32} {mc ms : Nat} (h : CX cy co n PR PL S A I L f)  : gM l s0 D yX5_layers cX5_layers 1 (some .int) 8 mc ms [.ref co] L f (fun v L1 f1 => v = some (.int (nI n)) ∧ L = L1 ∧ f = f1) := by
  obtain ⟨bk, X, Is, rfl, hR, -⟩ := h
  exact k7_layers hE hl hR 
theorem z_stepsLeft {l : Launch} {s0 : State} {D : va_G} {cy : Nat → ClassId} (hE : gE s0 D cy) (hl : l.stackTraces = false) {L : List Nat} {f : gF} {co n : Nat} {PR PL : Nat → Nat} {S A : Nat → Nat → Int32} {I : Nat → Int32} {mc ms : Nat} (h : CX cy co n PR PL S A I L f)  : gM l s0 D yX5_stepsLeft cX5_stepsLeft 1 (some .int) 8 mc ms [.ref co] L f (fun v L1 f1 => v = some (.int (slV I)) ∧ L = L1 ∧ f = f1) := by
  obtain ⟨bk, X, Is, rfl, hR, -⟩ := h
  exact k7_stepsLeft hE hl hR 
theorem z_built {l : Launch} {s0 : State} {D : va_G} {cy : Nat → ClassId} (hE : gE s0 D cy) (hl : l.stackTraces = false) {L : List Nat} {f : gF} {co n : Nat} {PR PL : Nat → Nat} {S A : Nat → Nat → Int32} {I : Nat → Int32} {mc ms : Nat} (h : CX cy co n PR PL S A I L f)  : gM l s0 D yX5_built cX5_built 1 (some .int) 8 mc ms [.ref co] L f (fun v L1 f1 => v = some (.int (resV A I)) ∧ L = L1 ∧ f = f1) := by
  obtain ⟨bk, X, Is, rfl, hR, -⟩ := h
  exact k7_built hE hl hR 
theorem z_tagged {l : Launch} {s0 : State} {D : va_G} {cy : Nat → ClassId} (hE : gE s0 D cy) (hl : l.stackTraces = false) {L : List Nat} {f : gF} {co n : Nat} {PR PL : Nat → Nat} {S A : Nat → Nat → Int32} {I : Nat → Int32} {mc ms : Nat} (h : CX cy co n PR PL S A I L f) {j : Nat} (hj : j < 5) : gM l s0 D yX5_tagged cX5_tagged 2 (some .int) 8 mc ms [.ref co, .int (nI j)] L f (fun v L1 f1 => v = some (.int (A 16 j)) ∧ L = L1 ∧ f = f1) := by
  obtain ⟨bk, X, Is, rfl, hR, -⟩ := h
  exact k7_tagged hE hl hR hj
theorem z_instructions {l : Launch} {s0 : State} {D : va_G} {cy : Nat → ClassId} (hE : gE s0 D cy) (hl : l.stackTraces = false) {L : List Nat} {f : gF} {co n : Nat} {PR PL : Nat → Nat} {S A : Nat → Nat → Int32} {I : Nat → Int32} {mc ms : Nat} (h : CX cy co n PR PL S A I L f) {i : Nat} (hi : i < 4) : gM l s0 D yX5_instructions cX5_instructions 2 (some .int) 8 mc ms [.ref co, .int (nI i)] L f (fun v L1 f1 => v = some (.int (A 3 i)) ∧ L = L1 ∧ f = f1) := by
  obtain ⟨bk, X, Is, rfl, hR, -⟩ := h
  exact k7_instructions hE hl hR hi

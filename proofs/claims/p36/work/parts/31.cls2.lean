/-! ===== the class, II: instructions on layers ===== -/
def fL (cy : Nat → ClassId) (f : gF) (h s v : Nat) (H S V : Nat → Int32) : gF := va_up (va_up (va_up f h (.inl (cy 0, 12, .inl H))) s (.inl (cy 0, 12, .inl S))) v (.inl (cy 0, 4, .inl V))
theorem ly_up {cy : Nat → ClassId} {L : List Nat} {f : gF} {a h s v : Nat} {fs : List Value} {H S V : Nat → Int32} (hL : gH L f a (.inr (2, fs))) (hh : gH L f h (.inl (cy 0, 12, .inl H))) (hs : gH L f s (.inl (cy 0, 12, .inl S))) (hv : gH L f v (.inl (cy 0, 4, .inl V))) (hsh : s ≠ h) (H1 S1 V1 : Nat → Int32) :
    gH L (fL cy f h s v H1 S1 V1) a (.inr (2, fs)) ∧ gH L (fL cy f h s v H1 S1 V1) h (.inl (cy 0, 12, .inl H1)) ∧ gH L (fL cy f h s v H1 S1 V1) s (.inl (cy 0, 12, .inl S1)) ∧ gH L (fL cy f h s v H1 S1 V1) v (.inl (cy 0, 4, .inl V1)) := by
  have a1 : a ≠ h := gH.apart hL hh (fun e => by cases e)
  have a2 : a ≠ s := gH.apart hL hs (fun e => by cases e)
  have a3 : a ≠ v := gH.apart hL hv (fun e => by cases e)
  have a4 : h ≠ v := gH.apart hh hv (fun e => by cases e)
  have a5 : s ≠ v := gH.apart hs hv (fun e => by cases e)
  exact ⟨((hL.ne a1).ne a2).ne a3, (hh.up.ne hsh.symm).ne a4, ((hs.ne hsh).up).ne a5, ((hv.ne a4.symm).ne a5.symm).up⟩
theorem ly_ot {cy : Nat → ClassId} {L : List Nat} {f : gF} {b h s v : Nat} {e : va_E} {H S V : Nat → Int32} (hb : gH L f b e) (h1 : b ≠ h) (h2 : b ≠ s) (h3 : b ≠ v) (H1 S1 V1 : Nat → Int32) : gH L (fL cy f h s v H1 S1 V1) b e := ((hb.ne h1).ne h2).ne h3
theorem ly_in {cy : Nat → ClassId} {L : List Nat} {f : gF} {b h s v : Nat} {ci : Nat} {fs : List Value} {H S V : Nat → Int32} (hb : gH L f b (.inr (ci, fs))) (hh : gH L f h (.inl (cy 0, 12, .inl H))) (hs : gH L f s (.inl (cy 0, 12, .inl S))) (hv : gH L f v (.inl (cy 0, 4, .inl V))) (H1 S1 V1 : Nat → Int32) : gH L (fL cy f h s v H1 S1 V1) b (.inr (ci, fs)) :=
  ly_ot (H := H1) (S := S1) (V := V1) hb (gH.apart hb hh (fun e => by cases e)) (gH.apart hb hs (fun e => by cases e)) (gH.apart hb hv (fun e => by cases e)) H1 S1 V1
theorem fL_hold {cy : Nat → ClassId} {L : List Nat} {f : gF} {h s v : Nat} {H S V : Nat → Int32} (hh : gH L f h (.inl (cy 0, 12, .inl H))) (hs : gH L f s (.inl (cy 0, 12, .inl S))) (hv : gH L f v (.inl (cy 0, 4, .inl V))) (H1 S1 : Nat → Int32) : va_up (va_up f h (.inl (cy 0, 12, .inl H1))) s (.inl (cy 0, 12, .inl S1)) = fL cy f h s v H1 S1 V := by
  unfold fL
  exact (upf_id ((va_up_ne _ _ (gH.apart hv hs (fun e => by cases e))).trans ((va_up_ne _ _ (gH.apart hv hh (fun e => by cases e))).trans hv.2))).symm
theorem fL_asg {cy : Nat → ClassId} {L : List Nat} {f : gF} {h s v : Nat} {H S : Nat → Int32} (hh : gH L f h (.inl (cy 0, 12, .inl H))) (hs : gH L f s (.inl (cy 0, 12, .inl S))) (V1 : Nat → Int32) : va_up f v (.inl (cy 0, 4, .inl V1)) = fL cy f h s v H S V1 := by
  unfold fL
  rw [upf_id hh.2, upf_id hs.2]
theorem fL_fL {cy : Nat → ClassId} {f : gF} {h s v : Nat} (h1 : s ≠ h) (h2 : h ≠ v) (h3 : s ≠ v) (H S V H1 S1 V1 : Nat → Int32) : fL cy (fL cy f h s v H S V) h s v H1 S1 V1 = fL cy f h s v H1 S1 V1 := by
  unfold fL
  rw [up_c (Ne.symm h2), up_c (Ne.symm h3), up_up, up_2 h1.symm]
theorem fL_id {cy : Nat → ClassId} {L : List Nat} {f : gF} {h s v : Nat} {H S V : Nat → Int32} (hh : gH L f h (.inl (cy 0, 12, .inl H))) (hs : gH L f s (.inl (cy 0, 12, .inl S))) (hv : gH L f v (.inl (cy 0, 4, .inl V))) : fL cy f h s v H S V = f := by
  unfold fL
  rw [upf_id hh.2, upf_id hs.2, upf_id hv.2]
/-- what an instruction does to a layer's three arrays -/
def caR (ki fi se x : Int32) (H S V H1 S1 V1 : Nat → Int32) : Prop :=
  (ki = nI 0 ∧ ∃ q, q < 12 ∧ se = nI q ∧ H1 = upd H q x ∧ S1 = upd S q (sv x) ∧ V1 = V) ∨
  (ki = nI 1 ∧ ∃ q v, q < 12 ∧ v < 4 ∧ fi = nI q ∧ se = nI v ∧ H1 = upd H q (runV (S q) (V v)) ∧ S1 = upd S q (sv (runV (S q) (V v))) ∧ V1 = V) ∨
  (ki = nI 2 ∧ ∃ q r, q < 12 ∧ r < 12 ∧ q ≠ r ∧ fi = nI q ∧ se = nI r ∧ H1 = upd (upd H r (S q)) q (-2) ∧ S1 = upd (upd S r (sv (S q))) q (sv (-2)) ∧ V1 = V) ∨
  (ki = nI 3 ∧ ∃ q, q < 12 ∧ fi = nI q ∧ H1 = upd H q (-2) ∧ S1 = upd S q (sv (-2)) ∧ V1 = V) ∨
  (ki = nI 4 ∧ ∃ v, v < 4 ∧ fi = nI v ∧ H1 = H ∧ S1 = S ∧ V1 = upd V v se)
/-- the input of an instruction, as the class reads it -/
def itsC (F : Nat → Int32) (ki fi x : Int32) : Prop := (ki = nI 0 ∧ ∃ j, j < 8 ∧ fi = nI j ∧ x = F j) ∨ (ki ≠ nI 0 ∧ x = -1)
theorem k5_runOn {l : Launch} {s0 : State} {D : va_G} {cy : Nat → ClassId} (hE : gE s0 D cy) (hl : l.stackTraces = false) {L : List Nat} {f : gF} (x y : Int32) : gM l s0 D yX1_runOn cX1_runOn 3 (some .int) 1 0 0 [.int x, .int y] L f (fun v L1 f1 => v = some (.int (runV x y)) ∧ L = L1 ∧ f = f1) := by
  refine gM.of (own := RX1) hE hl (by decide +kernel) rfl rfl (Nat.le_of_ble_eq_true rfl) (fun p9 e9 s9 m9 a99 b99 t99 c9 C hr hnm => ?_)
  refine G.weak (ls' := [some (.int x), some (.int y), none]) ?_ rfl (fun _ _ h => h)
  refine g_iload_n (n := 1) C dX1_runOn_0 rfl rfl ?_
  refine g_iconst (n := 2) (v := -1) C dX1_runOn_1 rfl rfl ?_
  refine g_icmp_ne (n := 5) (tgt := 9) C dX1_runOn_2 (by decide) rfl (fun h2 => ?_) (fun h2 => ?_)
  · refine g_iload_n (n := 10) C dX1_runOn_9 rfl rfl ?_
    refine G.top (y := if x = -1 then nI 0 else x) (by first | rw [if_pos h2] | rw [if_neg h2]) ?_
    refine g_istore_n (n := 11) (ls' := [_, _, _]) C dX1_runOn_10 rfl (by decide) rfl ?_
    refine g_bipush (n := 13) (v := nI 31) C dX1_runOn_11 rfl rfl ?_
    refine g_iload_n (n := 14) C dX1_runOn_13 rfl rfl ?_
    refine g_imul (n := 15) C dX1_runOn_14 rfl ?_
    refine g_iload_n (n := 16) C dX1_runOn_15 rfl rfl ?_
    refine g_iadd (n := 17) C dX1_runOn_16 rfl ?_
    refine g_iconst (n := 18) (v := nI 1) C dX1_runOn_17 rfl rfl ?_
    refine g_iadd (n := 19) C dX1_runOn_18 rfl ?_
    refine g_sipush (n := 22) (v := nI 10007) C dX1_runOn_19 rfl rfl ?_
    refine g_irem (n := 23) C dX1_runOn_22 (by decide) rfl ?_
    refine g_iret C hr dX1_runOn_23 ?_ ⟨by decide, by decide⟩
    exact ⟨rfl, rfl, rfl⟩
  · refine g_iconst (n := 6) (v := nI 0) C dX1_runOn_5 rfl rfl ?_
    refine g_goto (tgt := 10) C dX1_runOn_6 (by decide) ?_
    refine G.top (y := if x = -1 then nI 0 else x) (by first | rw [if_pos h2] | rw [if_neg h2]) ?_
    refine g_istore_n (n := 11) (ls' := [_, _, _]) C dX1_runOn_10 rfl (by decide) rfl ?_
    refine g_bipush (n := 13) (v := nI 31) C dX1_runOn_11 rfl rfl ?_
    refine g_iload_n (n := 14) C dX1_runOn_13 rfl rfl ?_
    refine g_imul (n := 15) C dX1_runOn_14 rfl ?_
    refine g_iload_n (n := 16) C dX1_runOn_15 rfl rfl ?_
    refine g_iadd (n := 17) C dX1_runOn_16 rfl ?_
    refine g_iconst (n := 18) (v := nI 1) C dX1_runOn_17 rfl rfl ?_
    refine g_iadd (n := 19) C dX1_runOn_18 rfl ?_
    refine g_sipush (n := 22) (v := nI 10007) C dX1_runOn_19 rfl rfl ?_
    refine g_irem (n := 23) C dX1_runOn_22 (by decide) rfl ?_
    refine g_iret C hr dX1_runOn_23 ?_ ⟨by decide, by decide⟩
    exact ⟨rfl, rfl, rfl⟩
theorem k5_isSameAs {l : Launch} {s0 : State} {D : va_G} {cy : Nat → ClassId} (hE : gE s0 D cy) (hl : l.stackTraces = false) {L : List Nat} {f : gF} {i9 : Nat} {ki fi se : Int32} (hI : gH L f i9 (.inr (1, [.int ki, .int fi, .int se]))) {j9 : Nat} {ki2 fi2 se2 : Int32} (hI2 : gH L f j9 (.inr (1, [.int ki2, .int fi2, .int se2]))) : gM l s0 D yX1_isSameAs cX1_isSameAs 2 (some .boolean) 1 0 0 [.ref i9, .ref j9] L f (fun v L1 f1 => (∃ w, v = some (.int (nI w)) ∧ cdb (ki = ki2 ∧ fi = fi2 ∧ se = se2) w) ∧ L = L1 ∧ f = f1) := by
  refine gM.of (own := RX1) hE hl (by decide +kernel) rfl rfl (Nat.le_of_ble_eq_true rfl) (fun p9 e9 s9 m9 a99 b99 t99 c9 C hr hnm => ?_)
  refine G.weak (ls' := [some (.ref i9), some (.ref j9)]) ?_ rfl (fun _ _ h => h)
  refine g_aload_n (n := 1) C dX1_isSameAs_0 rfl (Or.inr ⟨_, rfl⟩) rfl ?_
  refine g_get (n := 4) C dX1_isSameAs_1 kF_X1_9 (by assumption) rfl rfl ?_
  refine g_aload_n (n := 5) C dX1_isSameAs_4 rfl (Or.inr ⟨_, rfl⟩) rfl ?_
  refine g_get (n := 8) C dX1_isSameAs_5 kF_X1_9 (by assumption) rfl rfl ?_
  refine g_icmp_ne (n := 11) (tgt := 37) C dX1_isSameAs_8 (by decide) rfl (fun h8 => ?_) (fun h8 => ?_)
  · refine g_iconst (n := 38) (v := nI 0) C dX1_isSameAs_37 rfl rfl ?_
    refine g_zret C hr rfl dX1_isSameAs_38 ?_ ⟨by decide, by decide⟩
    refine ⟨⟨_, rfl, ?_⟩, rfl, rfl⟩
    first | exact Or.inl ⟨rfl, h8, h19, h30⟩ | exact Or.inr ⟨rfl, fun z => h8 z.1⟩ | exact Or.inr ⟨rfl, fun z => h19 z.2.1⟩ | exact Or.inr ⟨rfl, fun z => h30 z.2.2⟩
  · refine g_aload_n (n := 12) C dX1_isSameAs_11 rfl (Or.inr ⟨_, rfl⟩) rfl ?_
    refine g_get (n := 15) C dX1_isSameAs_12 kF_X1_15 (by assumption) rfl rfl ?_
    refine g_aload_n (n := 16) C dX1_isSameAs_15 rfl (Or.inr ⟨_, rfl⟩) rfl ?_
    refine g_get (n := 19) C dX1_isSameAs_16 kF_X1_15 (by assumption) rfl rfl ?_
    refine g_icmp_ne (n := 22) (tgt := 37) C dX1_isSameAs_19 (by decide) rfl (fun h19 => ?_) (fun h19 => ?_)
    · refine g_iconst (n := 38) (v := nI 0) C dX1_isSameAs_37 rfl rfl ?_
      refine g_zret C hr rfl dX1_isSameAs_38 ?_ ⟨by decide, by decide⟩
      refine ⟨⟨_, rfl, ?_⟩, rfl, rfl⟩
      first | exact Or.inl ⟨rfl, h8, h19, h30⟩ | exact Or.inr ⟨rfl, fun z => h8 z.1⟩ | exact Or.inr ⟨rfl, fun z => h19 z.2.1⟩ | exact Or.inr ⟨rfl, fun z => h30 z.2.2⟩
    · refine g_aload_n (n := 23) C dX1_isSameAs_22 rfl (Or.inr ⟨_, rfl⟩) rfl ?_
      refine g_get (n := 26) C dX1_isSameAs_23 kF_X1_18 (by assumption) rfl rfl ?_
      refine g_aload_n (n := 27) C dX1_isSameAs_26 rfl (Or.inr ⟨_, rfl⟩) rfl ?_
      refine g_get (n := 30) C dX1_isSameAs_27 kF_X1_18 (by assumption) rfl rfl ?_
      refine g_icmp_ne (n := 33) (tgt := 37) C dX1_isSameAs_30 (by decide) rfl (fun h30 => ?_) (fun h30 => ?_)
      · refine g_iconst (n := 38) (v := nI 0) C dX1_isSameAs_37 rfl rfl ?_
        refine g_zret C hr rfl dX1_isSameAs_38 ?_ ⟨by decide, by decide⟩
        refine ⟨⟨_, rfl, ?_⟩, rfl, rfl⟩
        first | exact Or.inl ⟨rfl, h8, h19, h30⟩ | exact Or.inr ⟨rfl, fun z => h8 z.1⟩ | exact Or.inr ⟨rfl, fun z => h19 z.2.1⟩ | exact Or.inr ⟨rfl, fun z => h30 z.2.2⟩
      · refine g_iconst (n := 34) (v := nI 1) C dX1_isSameAs_33 rfl rfl ?_
        refine g_goto (tgt := 38) C dX1_isSameAs_34 (by decide) ?_
        refine g_zret C hr rfl dX1_isSameAs_38 ?_ ⟨by decide, by decide⟩
        refine ⟨⟨_, rfl, ?_⟩, rfl, rfl⟩
        first | exact Or.inl ⟨rfl, h8, h19, h30⟩ | exact Or.inr ⟨rfl, fun z => h8 z.1⟩ | exact Or.inr ⟨rfl, fun z => h19 z.2.1⟩ | exact Or.inr ⟨rfl, fun z => h30 z.2.2⟩
theorem k5_inputFrom {l : Launch} {s0 : State} {D : va_G} {cy : Nat → ClassId} (hE : gE s0 D cy) (hl : l.stackTraces = false) {L : List Nat} {f : gF} {i9 : Nat} {ki fi se : Int32} (hI : gH L f i9 (.inr (1, [.int ki, .int fi, .int se]))) {c8 : Nat} {F : Nat → Int32} (hF : gH L f c8 (.inl (cy 0, 8, .inl F))) (h8 : ki = nI 0 → gin fi 8) : gM l s0 D yX1_inputFrom cX1_inputFrom 2 (some .int) 2 0 0 [.ref i9, .ref c8] L f (fun v L1 f1 => (∃ x, v = some (.int x) ∧ itsC F ki fi x) ∧ L = L1 ∧ f = f1) := by
  refine gM.of (own := RX1) hE hl (by decide +kernel) rfl rfl (Nat.le_of_ble_eq_true rfl) (fun p9 e9 s9 m9 a99 b99 t99 c9 C hr hnm => ?_)
  refine G.weak (ls' := [some (.ref i9), some (.ref c8)]) ?_ rfl (fun _ _ h => h)
  refine g_aload_n (n := 1) C dX1_inputFrom_0 rfl (Or.inr ⟨_, rfl⟩) rfl ?_
  refine g_get (n := 4) C dX1_inputFrom_1 kF_X1_9 (by assumption) rfl rfl ?_
  refine g_if_ne (n := 7) (tgt := 28) C dX1_inputFrom_4 (by decide) rfl (fun h4 => ?_) (fun h4 => ?_)
  · refine g_iconst (n := 29) (v := -1) C dX1_inputFrom_28 rfl rfl ?_
    refine g_iret C hr dX1_inputFrom_29 ?_ ⟨by decide, by decide⟩
    refine ⟨⟨_, rfl, ?_⟩, rfl, rfl⟩
    first | exact Or.inl ⟨h4, j, hj, rfl, rfl⟩ | exact Or.inr ⟨h4, rfl⟩
  · obtain ⟨j, hj, rfl⟩ := h8 h4
    refine g_aload_n (n := 8) C dX1_inputFrom_7 rfl (Or.inr ⟨_, rfl⟩) rfl ?_
    refine g_get (n := 11) C dX1_inputFrom_8 kF_X1_15 (by assumption) rfl rfl ?_
    refine g_aload_n (n := 12) C dX1_inputFrom_11 rfl (Or.inr ⟨_, rfl⟩) rfl ?_
    refine g_alen (n := 13) (t := 0) C dX1_inputFrom_12 rfl (by assumption) rfl rfl ?_
    refine g_S (n := 16) (rest := []) C (k5_isIn hE hl (nI j) (nI 8)) dX1_inputFrom_13 kM_X5_isIn kL_X1_21 kS_X5_isIn rfl rfl (Nat.le_of_ble_eq_true rfl) ⟨by decide, by decide⟩ ⟨by decide, by decide⟩ rfl (fun v9 L9 f9 hq => ?_)
    obtain ⟨rfl, rfl, rfl⟩ := hq
    refine G.sk (st' := [_]) rfl ?_
    refine g_if_eq (n := 19) (tgt := 28) C dX1_inputFrom_16 (by decide) rfl (fun h16 => absurd h16 (in_t hj (by decide))) (fun h16 => ?_)
    refine g_aload_n (n := 20) C dX1_inputFrom_19 rfl (Or.inr ⟨_, rfl⟩) rfl ?_
    refine g_aload_n (n := 21) C dX1_inputFrom_20 rfl (Or.inr ⟨_, rfl⟩) rfl ?_
    refine g_get (n := 24) C dX1_inputFrom_21 kF_X1_15 (by assumption) rfl rfl ?_
    refine g_iald (n := 25) C dX1_inputFrom_24 (by assumption) rfl (by omega) (by decide) rfl ?_
    refine g_goto (tgt := 29) C dX1_inputFrom_25 (by decide) ?_
    refine g_iret C hr dX1_inputFrom_29 ?_ ⟨by decide, by decide⟩
    refine ⟨⟨_, rfl, ?_⟩, rfl, rfl⟩
    first | exact Or.inl ⟨h4, j, hj, rfl, rfl⟩ | exact Or.inr ⟨h4, rfl⟩
theorem k5_failsOn {l : Launch} {s0 : State} {D : va_G} {cy : Nat → ClassId} (hE : gE s0 D cy) (hl : l.stackTraces = false) {L : List Nat} {f : gF} {i9 : Nat} {ki fi se : Int32} (hI : gH L f i9 (.inr (1, [.int ki, .int fi, .int se]))) {a h s v : Nat} {nu pl ip : Int32} {pr mk : Option Nat} {H S V : Nat → Int32} (hL : gH L f a (.inr (2, [.int nu, va_rf pr, .int pl, .ref h, .ref s, .ref v, va_rf mk, .int ip]))) (hh : gH L f h (.inl (cy 0, 12, .inl H))) (hs : gH L f s (.inl (cy 0, 12, .inl S))) (hv : gH L f v (.inl (cy 0, 4, .inl V))) (hV : vIns ki fi se) {F : Nat → Int32} {x : Int32} (hC : itsC F ki fi x) : gM l s0 D yX1_failsOn cX1_failsOn 3 (some .boolean) 3 0 0 [.ref i9, .ref a, .int x] L f (fun v L1 f1 => (∃ w, v = some (.int (nI w)) ∧ cdb (cfP F S ki fi) w) ∧ L = L1 ∧ f = f1) := by
  refine gM.of (own := RX1) hE hl (by decide +kernel) rfl rfl (Nat.le_of_ble_eq_true rfl) (fun p9 e9 s9 m9 a99 b99 t99 c9 C hr hnm => ?_)
  refine G.weak (ls' := [some (.ref i9), some (.ref a), some (.int x)]) ?_ rfl (fun _ _ h => h)
  refine g_aload_n (n := 1) C dX1_failsOn_0 rfl (Or.inr ⟨_, rfl⟩) rfl ?_
  refine g_get (n := 4) C dX1_failsOn_1 kF_X1_9 (by assumption) rfl rfl ?_
  rcases hV with ⟨rfl, ⟨j, hj, rfl⟩, -⟩ | ⟨rfl, -⟩ | ⟨rfl, ⟨q, hq9, rfl⟩, -⟩ | ⟨rfl, ⟨q, hq9, rfl⟩⟩ | ⟨rfl, -⟩
  · obtain rfl : x = F j := by
      rcases hC with ⟨-, j2, hj2, e, e2⟩ | ⟨h, -⟩
      · rw [e2, gn_inj (by omega) (by omega) e]
      · exact absurd rfl h
    refine g_tableIn (tgt := 36) C dX1_failsOn_4 (by decide) (by decide) rfl (by decide) ?_
    refine g_iload_n (n := 37) C dX1_failsOn_36 rfl rfl ?_
    refine g_iconst (n := 38) (v := -1) C dX1_failsOn_37 rfl rfl ?_
    refine g_icmp_ne (n := 41) (tgt := 45) C dX1_failsOn_38 (by decide) rfl (fun h38 => ?_) (fun h38 => ?_)
    · refine g_iconst (n := 46) (v := nI 0) C dX1_failsOn_45 rfl rfl ?_
      refine g_zret C hr rfl dX1_failsOn_46 ?_ ⟨by decide, by decide⟩
      refine ⟨⟨_, rfl, ?_⟩, rfl, rfl⟩
      first | exact Or.inl ⟨rfl, Or.inl ⟨rfl, j, hj, rfl, h38⟩⟩ | exact Or.inr ⟨rfl, cf_n0 hj h38⟩
    · refine g_iconst (n := 42) (v := nI 1) C dX1_failsOn_41 rfl rfl ?_
      refine g_goto (tgt := 46) C dX1_failsOn_42 (by decide) ?_
      refine g_zret C hr rfl dX1_failsOn_46 ?_ ⟨by decide, by decide⟩
      refine ⟨⟨_, rfl, ?_⟩, rfl, rfl⟩
      first | exact Or.inl ⟨rfl, Or.inl ⟨rfl, j, hj, rfl, h38⟩⟩ | exact Or.inr ⟨rfl, cf_n0 hj h38⟩
  · refine g_tableIn (tgt := 65) C dX1_failsOn_4 (by decide) (by decide) rfl (by decide) ?_
    refine g_iconst (n := 66) (v := nI 0) C dX1_failsOn_65 rfl rfl ?_
    refine g_zret C hr rfl dX1_failsOn_66 ?_ ⟨by decide, by decide⟩
    exact ⟨⟨_, rfl, Or.inr ⟨rfl, cf_n1 (by decide) (by decide) (by decide)⟩⟩, rfl, rfl⟩
  · refine g_tableIn (tgt := 47) C dX1_failsOn_4 (by decide) (by decide) rfl (by decide) ?_
    refine g_aload_n (n := 48) C dX1_failsOn_47 rfl (Or.inr ⟨_, rfl⟩) rfl ?_
    refine g_aload_n (n := 49) C dX1_failsOn_48 rfl (Or.inr ⟨_, rfl⟩) rfl ?_
    refine g_get (n := 52) C dX1_failsOn_49 kF_X1_15 (by assumption) rfl rfl ?_
    refine g_V (n := 55) (rest := []) C (k5_shows hE hl hL hh hs hv hq9) dX1_failsOn_52 kM_X2_shows kL_X1_25 kV_X2_shows (by assumption) rfl rfl rfl (Nat.le_of_ble_eq_true rfl) ⟨by decide, by decide⟩ ⟨by decide, by decide⟩ rfl (fun v9 L9 f9 hq => ?_)
    obtain ⟨rfl, rfl, rfl⟩ := hq
    refine G.sk (st' := [_]) rfl ?_
    refine g_iconst (n := 56) (v := -1) C dX1_failsOn_55 rfl rfl ?_
    refine g_icmp_ne (n := 59) (tgt := 63) C dX1_failsOn_56 (by decide) rfl (fun h56 => ?_) (fun h56 => ?_)
    · refine g_iconst (n := 64) (v := nI 0) C dX1_failsOn_63 rfl rfl ?_
      refine g_zret C hr rfl dX1_failsOn_64 ?_ ⟨by decide, by decide⟩
      refine ⟨⟨_, rfl, ?_⟩, rfl, rfl⟩
      first | exact Or.inl ⟨rfl, Or.inr ⟨Or.inl rfl, q, hq9, rfl, h56⟩⟩ | exact Or.inl ⟨rfl, Or.inr ⟨Or.inr rfl, q, hq9, rfl, h56⟩⟩ | exact Or.inr ⟨rfl, cf_n2 (Or.inl rfl) hq9 h56⟩ | exact Or.inr ⟨rfl, cf_n2 (Or.inr rfl) hq9 h56⟩
    · refine g_iconst (n := 60) (v := nI 1) C dX1_failsOn_59 rfl rfl ?_
      refine g_goto (tgt := 64) C dX1_failsOn_60 (by decide) ?_
      refine g_zret C hr rfl dX1_failsOn_64 ?_ ⟨by decide, by decide⟩
      refine ⟨⟨_, rfl, ?_⟩, rfl, rfl⟩
      first | exact Or.inl ⟨rfl, Or.inr ⟨Or.inl rfl, q, hq9, rfl, h56⟩⟩ | exact Or.inl ⟨rfl, Or.inr ⟨Or.inr rfl, q, hq9, rfl, h56⟩⟩ | exact Or.inr ⟨rfl, cf_n2 (Or.inl rfl) hq9 h56⟩ | exact Or.inr ⟨rfl, cf_n2 (Or.inr rfl) hq9 h56⟩
  · refine g_tableIn (tgt := 47) C dX1_failsOn_4 (by decide) (by decide) rfl (by decide) ?_
    refine g_aload_n (n := 48) C dX1_failsOn_47 rfl (Or.inr ⟨_, rfl⟩) rfl ?_
    refine g_aload_n (n := 49) C dX1_failsOn_48 rfl (Or.inr ⟨_, rfl⟩) rfl ?_
    refine g_get (n := 52) C dX1_failsOn_49 kF_X1_15 (by assumption) rfl rfl ?_
    refine g_V (n := 55) (rest := []) C (k5_shows hE hl hL hh hs hv hq9) dX1_failsOn_52 kM_X2_shows kL_X1_25 kV_X2_shows (by assumption) rfl rfl rfl (Nat.le_of_ble_eq_true rfl) ⟨by decide, by decide⟩ ⟨by decide, by decide⟩ rfl (fun v9 L9 f9 hq => ?_)
    obtain ⟨rfl, rfl, rfl⟩ := hq
    refine G.sk (st' := [_]) rfl ?_
    refine g_iconst (n := 56) (v := -1) C dX1_failsOn_55 rfl rfl ?_
    refine g_icmp_ne (n := 59) (tgt := 63) C dX1_failsOn_56 (by decide) rfl (fun h56 => ?_) (fun h56 => ?_)
    · refine g_iconst (n := 64) (v := nI 0) C dX1_failsOn_63 rfl rfl ?_
      refine g_zret C hr rfl dX1_failsOn_64 ?_ ⟨by decide, by decide⟩
      refine ⟨⟨_, rfl, ?_⟩, rfl, rfl⟩
      first | exact Or.inl ⟨rfl, Or.inr ⟨Or.inl rfl, q, hq9, rfl, h56⟩⟩ | exact Or.inl ⟨rfl, Or.inr ⟨Or.inr rfl, q, hq9, rfl, h56⟩⟩ | exact Or.inr ⟨rfl, cf_n2 (Or.inl rfl) hq9 h56⟩ | exact Or.inr ⟨rfl, cf_n2 (Or.inr rfl) hq9 h56⟩
    · refine g_iconst (n := 60) (v := nI 1) C dX1_failsOn_59 rfl rfl ?_
      refine g_goto (tgt := 64) C dX1_failsOn_60 (by decide) ?_
      refine g_zret C hr rfl dX1_failsOn_64 ?_ ⟨by decide, by decide⟩
      refine ⟨⟨_, rfl, ?_⟩, rfl, rfl⟩
      first | exact Or.inl ⟨rfl, Or.inr ⟨Or.inl rfl, q, hq9, rfl, h56⟩⟩ | exact Or.inl ⟨rfl, Or.inr ⟨Or.inr rfl, q, hq9, rfl, h56⟩⟩ | exact Or.inr ⟨rfl, cf_n2 (Or.inl rfl) hq9 h56⟩ | exact Or.inr ⟨rfl, cf_n2 (Or.inr rfl) hq9 h56⟩
  · refine g_tableOut (tgt := 65) C dX1_failsOn_4 (by decide) (by decide) ?_
    refine g_iconst (n := 66) (v := nI 0) C dX1_failsOn_65 rfl rfl ?_
    refine g_zret C hr rfl dX1_failsOn_66 ?_ ⟨by decide, by decide⟩
    exact ⟨⟨_, rfl, Or.inr ⟨rfl, cf_n1 (by decide) (by decide) (by decide)⟩⟩, rfl, rfl⟩
theorem k5_carryOut {l : Launch} {s0 : State} {D : va_G} {cy : Nat → ClassId} (hE : gE s0 D cy) (hl : l.stackTraces = false) {L : List Nat} {f : gF} {i9 : Nat} {ki fi se : Int32} (hI : gH L f i9 (.inr (1, [.int ki, .int fi, .int se]))) {a h s v : Nat} {nu pl ip : Int32} {pr mk : Option Nat} {H S V : Nat → Int32} (hL : gH L f a (.inr (2, [.int nu, va_rf pr, .int pl, .ref h, .ref s, .ref v, va_rf mk, .int ip]))) (hh : gH L f h (.inl (cy 0, 12, .inl H))) (hs : gH L f s (.inl (cy 0, 12, .inl S))) (hv : gH L f v (.inl (cy 0, 4, .inl V))) (hsh : s ≠ h) (hV : vIns ki fi se) (x : Int32) : gM l s0 D yX1_carryOut cX1_carryOut 3 none 3 0 0 [.ref i9, .ref a, .int x] L f (fun v9 L1 f1 => v9 = none ∧ L = L1 ∧ ∃ H1 S1 V1, f1 = fL cy f h s v H1 S1 V1 ∧ caR ki fi se x H S V H1 S1 V1) := by
  refine gM.of (own := RX1) hE hl (by decide +kernel) rfl rfl (Nat.le_of_ble_eq_true rfl) (fun p9 e9 s9 m9 a99 b99 t99 c9 C hr hnm => ?_)
  refine G.weak (ls' := [some (.ref i9), some (.ref a), some (.int x)]) ?_ rfl (fun _ _ h => h)
  refine g_aload_n (n := 1) C dX1_carryOut_0 rfl (Or.inr ⟨_, rfl⟩) rfl ?_
  refine g_get (n := 4) C dX1_carryOut_1 kF_X1_9 (by assumption) rfl rfl ?_
  rcases hV with ⟨rfl, -, ⟨r, hr9, rfl⟩⟩ | ⟨rfl, ⟨q, hq9, rfl⟩, ⟨u, hu9, rfl⟩⟩ | ⟨rfl, ⟨q, hq9, rfl⟩, ⟨r, hr9, rfl⟩, hne⟩ | ⟨rfl, ⟨q, hq9, rfl⟩⟩ | ⟨rfl, ⟨u, hu9, rfl⟩, -⟩
  · refine g_tableIn (tgt := 40) C dX1_carryOut_4 (by decide) (by decide) rfl (by decide) ?_
    refine g_aload_n (n := 41) C dX1_carryOut_40 rfl (Or.inr ⟨_, rfl⟩) rfl ?_
    refine g_aload_n (n := 42) C dX1_carryOut_41 rfl (Or.inr ⟨_, rfl⟩) rfl ?_
    refine g_get (n := 45) C dX1_carryOut_42 kF_X1_18 (by assumption) rfl rfl ?_
    refine g_iload_n (n := 46) C dX1_carryOut_45 rfl rfl ?_
    refine g_V (n := 49) (rest := []) C (k5_hold hE hl hL hh hs hv hsh hr9 _) dX1_carryOut_46 kM_X2_hold kL_X1_31 kV_X2_hold (by assumption) rfl rfl rfl (Nat.le_of_ble_eq_true rfl) ⟨by decide, by decide⟩ ⟨by decide, by decide⟩ rfl (fun v9 L9 f9 hq => ?_)
    obtain ⟨rfl, rfl, rfl⟩ := hq
    rw [fL_hold hh hs hv]
    refine G.sk (st' := []) rfl ?_
    refine g_goto (tgt := 139) C dX1_carryOut_49 (by decide) ?_
    refine g_vret C hr dX1_carryOut_139 ?_ ⟨by decide, by decide⟩
    refine ⟨rfl, rfl, _, _, _, rfl, ?_⟩
    first | exact Or.inl ⟨rfl, r, hr9, rfl, rfl, rfl, rfl⟩ | exact Or.inr (Or.inl ⟨rfl, q, u, hq9, hu9, rfl, rfl, rfl, rfl, rfl⟩) | exact Or.inr (Or.inr (Or.inl ⟨rfl, q, r, hq9, hr9, fun e => hne (by rw [e]), rfl, rfl, rfl, rfl, rfl⟩)) | exact Or.inr (Or.inr (Or.inr (Or.inl ⟨rfl, q, hq9, rfl, rfl, rfl, rfl⟩))) | exact Or.inr (Or.inr (Or.inr (Or.inr ⟨rfl, u, hu9, rfl, rfl, rfl, rfl⟩)))
  · refine g_tableIn (tgt := 52) C dX1_carryOut_4 (by decide) (by decide) rfl (by decide) ?_
    refine g_aload_n (n := 53) C dX1_carryOut_52 rfl (Or.inr ⟨_, rfl⟩) rfl ?_
    refine g_aload_n (n := 54) C dX1_carryOut_53 rfl (Or.inr ⟨_, rfl⟩) rfl ?_
    refine g_get (n := 57) C dX1_carryOut_54 kF_X1_15 (by assumption) rfl rfl ?_
    refine g_aload_n (n := 58) C dX1_carryOut_57 rfl (Or.inr ⟨_, rfl⟩) rfl ?_
    refine g_aload_n (n := 59) C dX1_carryOut_58 rfl (Or.inr ⟨_, rfl⟩) rfl ?_
    refine g_get (n := 62) C dX1_carryOut_59 kF_X1_15 (by assumption) rfl rfl ?_
    refine g_V (n := 65) (rest := [_, _]) C (k5_shows hE hl hL hh hs hv hq9) dX1_carryOut_62 kM_X2_shows kL_X1_25 kV_X2_shows (by assumption) rfl rfl rfl (Nat.le_of_ble_eq_true rfl) ⟨by decide, by decide⟩ ⟨by decide, by decide⟩ rfl (fun v9 L9 f9 hq => ?_)
    obtain ⟨rfl, rfl, rfl⟩ := hq
    refine G.sk (st' := [_, _, _]) rfl ?_
    refine g_aload_n (n := 66) C dX1_carryOut_65 rfl (Or.inr ⟨_, rfl⟩) rfl ?_
    refine g_aload_n (n := 67) C dX1_carryOut_66 rfl (Or.inr ⟨_, rfl⟩) rfl ?_
    refine g_get (n := 70) C dX1_carryOut_67 kF_X1_18 (by assumption) rfl rfl ?_
    refine g_V (n := 73) (rest := [_, _, _]) C (k5_value hE hl hL hh hs hv hu9) dX1_carryOut_70 kM_X2_value kL_X1_35 kV_X2_value (by assumption) rfl rfl rfl (Nat.le_of_ble_eq_true rfl) ⟨by decide, by decide⟩ ⟨by decide, by decide⟩ rfl (fun v9 L9 f9 hq => ?_)
    obtain ⟨rfl, rfl, rfl⟩ := hq
    refine G.sk (st' := [_, _, _, _]) rfl ?_
    refine g_S (n := 76) (rest := [_, _]) C (k5_runOn hE hl _ _) dX1_carryOut_73 kM_X1_runOn kL_X1_38 kS_X1_runOn rfl rfl (Nat.le_of_ble_eq_true rfl) ⟨by decide, by decide⟩ ⟨by decide, by decide⟩ rfl (fun v9 L9 f9 hq => ?_)
    obtain ⟨rfl, rfl, rfl⟩ := hq
    refine G.sk (st' := [_, _, _]) rfl ?_
    refine g_V (n := 79) (rest := []) C (k5_hold hE hl hL hh hs hv hsh hq9 _) dX1_carryOut_76 kM_X2_hold kL_X1_31 kV_X2_hold (by assumption) rfl rfl rfl (Nat.le_of_ble_eq_true rfl) ⟨by decide, by decide⟩ ⟨by decide, by decide⟩ rfl (fun v9 L9 f9 hq => ?_)
    obtain ⟨rfl, rfl, rfl⟩ := hq
    rw [fL_hold hh hs hv]
    refine G.sk (st' := []) rfl ?_
    refine g_goto (tgt := 139) C dX1_carryOut_79 (by decide) ?_
    refine g_vret C hr dX1_carryOut_139 ?_ ⟨by decide, by decide⟩
    refine ⟨rfl, rfl, _, _, _, rfl, ?_⟩
    first | exact Or.inl ⟨rfl, r, hr9, rfl, rfl, rfl, rfl⟩ | exact Or.inr (Or.inl ⟨rfl, q, u, hq9, hu9, rfl, rfl, rfl, rfl, rfl⟩) | exact Or.inr (Or.inr (Or.inl ⟨rfl, q, r, hq9, hr9, fun e => hne (by rw [e]), rfl, rfl, rfl, rfl, rfl⟩)) | exact Or.inr (Or.inr (Or.inr (Or.inl ⟨rfl, q, hq9, rfl, rfl, rfl, rfl⟩))) | exact Or.inr (Or.inr (Or.inr (Or.inr ⟨rfl, u, hu9, rfl, rfl, rfl, rfl⟩)))
  · refine g_tableIn (tgt := 82) C dX1_carryOut_4 (by decide) (by decide) rfl (by decide) ?_
    refine g_aload_n (n := 83) C dX1_carryOut_82 rfl (Or.inr ⟨_, rfl⟩) rfl ?_
    refine g_aload_n (n := 84) C dX1_carryOut_83 rfl (Or.inr ⟨_, rfl⟩) rfl ?_
    refine g_get (n := 87) C dX1_carryOut_84 kF_X1_18 (by assumption) rfl rfl ?_
    refine g_aload_n (n := 88) C dX1_carryOut_87 rfl (Or.inr ⟨_, rfl⟩) rfl ?_
    refine g_aload_n (n := 89) C dX1_carryOut_88 rfl (Or.inr ⟨_, rfl⟩) rfl ?_
    refine g_get (n := 92) C dX1_carryOut_89 kF_X1_15 (by assumption) rfl rfl ?_
    refine g_V (n := 95) (rest := [_, _]) C (k5_shows hE hl hL hh hs hv hq9) dX1_carryOut_92 kM_X2_shows kL_X1_25 kV_X2_shows (by assumption) rfl rfl rfl (Nat.le_of_ble_eq_true rfl) ⟨by decide, by decide⟩ ⟨by decide, by decide⟩ rfl (fun v9 L9 f9 hq => ?_)
    obtain ⟨rfl, rfl, rfl⟩ := hq
    refine G.sk (st' := [_, _, _]) rfl ?_
    refine g_V (n := 98) (rest := []) C (k5_hold hE hl hL hh hs hv hsh hr9 _) dX1_carryOut_95 kM_X2_hold kL_X1_31 kV_X2_hold (by assumption) rfl rfl rfl (Nat.le_of_ble_eq_true rfl) ⟨by decide, by decide⟩ ⟨by decide, by decide⟩ rfl (fun v9 L9 f9 hq => ?_)
    obtain ⟨rfl, rfl, rfl⟩ := hq
    rw [fL_hold hh hs hv]
    have hI1 := ly_in hI hh hs hv (upd H r (S q)) (upd S r (sv (S q))) V
    obtain ⟨hL1, hh1, hs1, hv1⟩ := ly_up hL hh hs hv hsh (upd H r (S q)) (upd S r (sv (S q))) V
    refine G.sk (st' := []) rfl ?_
    refine g_aload_n (n := 99) C dX1_carryOut_98 rfl (Or.inr ⟨_, rfl⟩) rfl ?_
    refine g_aload_n (n := 100) C dX1_carryOut_99 rfl (Or.inr ⟨_, rfl⟩) rfl ?_
    refine g_get (n := 103) C dX1_carryOut_100 kF_X1_15 (by assumption) rfl rfl ?_
    refine g_bipush (n := 105) (v := -2) C dX1_carryOut_103 rfl rfl ?_
    refine g_V (n := 108) (rest := []) C (k5_hold hE hl hL1 hh1 hs1 hv1 hsh hq9 _) dX1_carryOut_105 kM_X2_hold kL_X1_31 kV_X2_hold (by assumption) rfl rfl rfl (Nat.le_of_ble_eq_true rfl) ⟨by decide, by decide⟩ ⟨by decide, by decide⟩ rfl (fun v9 L9 f9 hq => ?_)
    obtain ⟨rfl, rfl, rfl⟩ := hq
    rw [fL_hold hh1 hs1 hv1, fL_fL hsh (gH.apart hh hv (fun e => by cases e)) (gH.apart hs hv (fun e => by cases e))]
    refine G.sk (st' := []) rfl ?_
    refine g_goto (tgt := 139) C dX1_carryOut_108 (by decide) ?_
    refine g_vret C hr dX1_carryOut_139 ?_ ⟨by decide, by decide⟩
    refine ⟨rfl, rfl, _, _, _, rfl, ?_⟩
    first | exact Or.inl ⟨rfl, r, hr9, rfl, rfl, rfl, rfl⟩ | exact Or.inr (Or.inl ⟨rfl, q, u, hq9, hu9, rfl, rfl, rfl, rfl, rfl⟩) | exact Or.inr (Or.inr (Or.inl ⟨rfl, q, r, hq9, hr9, fun e => hne (by rw [e]), rfl, rfl, rfl, rfl, rfl⟩)) | exact Or.inr (Or.inr (Or.inr (Or.inl ⟨rfl, q, hq9, rfl, rfl, rfl, rfl⟩))) | exact Or.inr (Or.inr (Or.inr (Or.inr ⟨rfl, u, hu9, rfl, rfl, rfl, rfl⟩)))
  · refine g_tableIn (tgt := 111) C dX1_carryOut_4 (by decide) (by decide) rfl (by decide) ?_
    refine g_aload_n (n := 112) C dX1_carryOut_111 rfl (Or.inr ⟨_, rfl⟩) rfl ?_
    refine g_aload_n (n := 113) C dX1_carryOut_112 rfl (Or.inr ⟨_, rfl⟩) rfl ?_
    refine g_get (n := 116) C dX1_carryOut_113 kF_X1_15 (by assumption) rfl rfl ?_
    refine g_bipush (n := 118) (v := -2) C dX1_carryOut_116 rfl rfl ?_
    refine g_V (n := 121) (rest := []) C (k5_hold hE hl hL hh hs hv hsh hq9 _) dX1_carryOut_118 kM_X2_hold kL_X1_31 kV_X2_hold (by assumption) rfl rfl rfl (Nat.le_of_ble_eq_true rfl) ⟨by decide, by decide⟩ ⟨by decide, by decide⟩ rfl (fun v9 L9 f9 hq => ?_)
    obtain ⟨rfl, rfl, rfl⟩ := hq
    rw [fL_hold hh hs hv]
    refine G.sk (st' := []) rfl ?_
    refine g_goto (tgt := 139) C dX1_carryOut_121 (by decide) ?_
    refine g_vret C hr dX1_carryOut_139 ?_ ⟨by decide, by decide⟩
    refine ⟨rfl, rfl, _, _, _, rfl, ?_⟩
    first | exact Or.inl ⟨rfl, r, hr9, rfl, rfl, rfl, rfl⟩ | exact Or.inr (Or.inl ⟨rfl, q, u, hq9, hu9, rfl, rfl, rfl, rfl, rfl⟩) | exact Or.inr (Or.inr (Or.inl ⟨rfl, q, r, hq9, hr9, fun e => hne (by rw [e]), rfl, rfl, rfl, rfl, rfl⟩)) | exact Or.inr (Or.inr (Or.inr (Or.inl ⟨rfl, q, hq9, rfl, rfl, rfl, rfl⟩))) | exact Or.inr (Or.inr (Or.inr (Or.inr ⟨rfl, u, hu9, rfl, rfl, rfl, rfl⟩)))
  · refine g_tableIn (tgt := 124) C dX1_carryOut_4 (by decide) (by decide) rfl (by decide) ?_
    refine g_aload_n (n := 125) C dX1_carryOut_124 rfl (Or.inr ⟨_, rfl⟩) rfl ?_
    refine g_aload_n (n := 126) C dX1_carryOut_125 rfl (Or.inr ⟨_, rfl⟩) rfl ?_
    refine g_get (n := 129) C dX1_carryOut_126 kF_X1_15 (by assumption) rfl rfl ?_
    refine g_aload_n (n := 130) C dX1_carryOut_129 rfl (Or.inr ⟨_, rfl⟩) rfl ?_
    refine g_get (n := 133) C dX1_carryOut_130 kF_X1_18 (by assumption) rfl rfl ?_
    refine g_V (n := 136) (rest := []) C (k5_assign hE hl hL hh hs hv hu9 _) dX1_carryOut_133 kM_X2_assign kL_X1_42 kV_X2_assign (by assumption) rfl rfl rfl (Nat.le_of_ble_eq_true rfl) ⟨by decide, by decide⟩ ⟨by decide, by decide⟩ rfl (fun v9 L9 f9 hq => ?_)
    obtain ⟨rfl, rfl, rfl⟩ := hq
    rw [fL_asg hh hs]
    refine G.sk (st' := []) rfl ?_
    refine g_goto (tgt := 139) C dX1_carryOut_136 (by decide) ?_
    refine g_vret C hr dX1_carryOut_139 ?_ ⟨by decide, by decide⟩
    refine ⟨rfl, rfl, _, _, _, rfl, ?_⟩
    first | exact Or.inl ⟨rfl, r, hr9, rfl, rfl, rfl, rfl⟩ | exact Or.inr (Or.inl ⟨rfl, q, u, hq9, hu9, rfl, rfl, rfl, rfl, rfl⟩) | exact Or.inr (Or.inr (Or.inl ⟨rfl, q, r, hq9, hr9, fun e => hne (by rw [e]), rfl, rfl, rfl, rfl, rfl⟩)) | exact Or.inr (Or.inr (Or.inr (Or.inl ⟨rfl, q, hq9, rfl, rfl, rfl, rfl⟩))) | exact Or.inr (Or.inr (Or.inr (Or.inr ⟨rfl, u, hu9, rfl, rfl, rfl, rfl⟩)))

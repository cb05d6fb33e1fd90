/-! ===== the class, I: small methods of layers and instructions ===== -/
theorem in_t {q N : Nat} (h : q < N) (hN : N < 2 ^ 31) : ¬ bI (0 ≤ nI q ∧ nI q < nI N) = 0 := fun e => bI_0.mp e ((gin_iff hN).mpr ⟨q, h, rfl⟩)
theorem up_up {α : Type} {f : Nat → α} {a : Nat} {x y : α} : va_up (va_up f a x) a y = va_up f a y := by
  funext b
  by_cases h : b = a
  · subst h; rw [va_up_self, va_up_self]
  · rw [va_up_ne _ _ h, va_up_ne _ _ h, va_up_ne _ _ h]
theorem upf_id {α : Type} {f : Nat → α} {a : Nat} {x : α} (h : f a = x) : va_up f a x = f := by
  funext b
  by_cases e : b = a
  · subst e; rw [va_up_self, h]
  · rw [va_up_ne _ _ e]
theorem up_c {α : Type} {f : Nat → α} {a b : Nat} {x y : α} (h : a ≠ b) : va_up (va_up f a x) b y = va_up (va_up f b y) a x := by
  funext c
  by_cases e : c = a
  · subst e; rw [va_up_ne _ _ h, va_up_self, va_up_self]
  · by_cases e2 : c = b
    · subst e2; rw [va_up_self, va_up_ne _ _ e, va_up_self]
    · rw [va_up_ne _ _ e2, va_up_ne _ _ e, va_up_ne _ _ e, va_up_ne _ _ e2]
theorem up_2 {α : Type} {f : Nat → α} {a b : Nat} {x y x1 y1 : α} (h : a ≠ b) : va_up (va_up (va_up (va_up f a x) b y) a x1) b y1 = va_up (va_up f a x1) b y1 := by
  rw [up_c (Ne.symm h), up_up, up_up]
theorem rf_or (o : Option Nat) : va_rf o = .null ∨ ∃ a, va_rf o = .ref a := by
  cases o with
  | none => exact Or.inl rfl
  | some a => exact Or.inr ⟨a, rfl⟩
def sv (x : Int32) : Int32 := if x = -2 then -1 else x
def szF (H : Nat → Int32) : Nat → Nat
  | 0 => 0
  | i + 1 => szF H i + if H i = -1 then 0 else 1
section GFX
variable {p : Program} {l : Launch} {e : Env} {R : Room} {s : State} {m : MethodId} {args : Array Value} {below : List Frame} {meth : Method} {c : Code} {Q : State → Prop}
variable {s0 : State} {D : va_G} {cy : Nat → ClassId} {L0 : List Nat} {nL : Nat} {cc : ByteArray} {own : String} {L : List Nat} {f : gF} {ce sl pc n : Nat} {ls : List (Option Value)} {st : List Value}
theorem G.fx {f1 : gF} (h : f1 = f) (k : G p l e R s m args below meth c Q D L0 nL L f1 ce sl pc ls (st)) : G p l e R s m args below meth c Q D L0 nL L f ce sl pc ls (st) := h ▸ k
end GFX
theorem k5_isIn {l : Launch} {s0 : State} {D : va_G} {cy : Nat → ClassId} (hE : gE s0 D cy) (hl : l.stackTraces = false) {L : List Nat} {f : gF} (x y : Int32) : gM l s0 D yX5_isIn cX5_isIn 2 (some .boolean) 1 0 0 [.int x, .int y] L f (fun v L1 f1 => v = some (.int (bI (0 ≤ x ∧ x < y))) ∧ L = L1 ∧ f = f1) := by
  refine gM.of (own := RX5) hE hl (by decide +kernel) rfl rfl (Nat.le_of_ble_eq_true rfl) (fun p9 e9 s9 m9 a99 b99 t99 c9 C hr hnm => ?_)
  refine G.weak (ls' := [some (.int x), some (.int y)]) ?_ rfl (fun _ _ h => h)
  refine g_iload_n (n := 1) C dX5_isIn_0 rfl rfl ?_
  refine g_if_lt (n := 4) (tgt := 13) C dX5_isIn_1 (by decide) rfl (fun h1 => ?_) (fun h1 => ?_)
  · refine g_iconst (n := 14) (v := nI 0) C dX5_isIn_13 rfl rfl ?_
    refine g_zret C hr rfl dX5_isIn_14 ?_ ⟨by decide, by decide⟩
    refine ⟨?_, rfl, rfl⟩
    first | rw [bI_t ⟨Int32.not_lt.mp h1, Int32.not_le.mp h6⟩]; rfl | (rw [bI_f (fun z => absurd z.1 (Int32.not_le.mpr h1))]; rfl) | (rw [bI_f (fun z => absurd z.2 (Int32.not_lt.mpr h6))]; rfl)
  · refine g_iload_n (n := 5) C dX5_isIn_4 rfl rfl ?_
    refine g_iload_n (n := 6) C dX5_isIn_5 rfl rfl ?_
    refine g_icmp_ge (n := 9) (tgt := 13) C dX5_isIn_6 (by decide) rfl (fun h6 => ?_) (fun h6 => ?_)
    · refine g_iconst (n := 14) (v := nI 0) C dX5_isIn_13 rfl rfl ?_
      refine g_zret C hr rfl dX5_isIn_14 ?_ ⟨by decide, by decide⟩
      refine ⟨?_, rfl, rfl⟩
      first | rw [bI_t ⟨Int32.not_lt.mp h1, Int32.not_le.mp h6⟩]; rfl | (rw [bI_f (fun z => absurd z.1 (Int32.not_le.mpr h1))]; rfl) | (rw [bI_f (fun z => absurd z.2 (Int32.not_lt.mpr h6))]; rfl)
    · refine g_iconst (n := 10) (v := nI 1) C dX5_isIn_9 rfl rfl ?_
      refine g_goto (tgt := 14) C dX5_isIn_10 (by decide) ?_
      refine g_zret C hr rfl dX5_isIn_14 ?_ ⟨by decide, by decide⟩
      refine ⟨?_, rfl, rfl⟩
      first | rw [bI_t ⟨Int32.not_lt.mp h1, Int32.not_le.mp h6⟩]; rfl | (rw [bI_f (fun z => absurd z.1 (Int32.not_le.mpr h1))]; rfl) | (rw [bI_f (fun z => absurd z.2 (Int32.not_lt.mpr h6))]; rfl)
theorem k5_holds {l : Launch} {s0 : State} {D : va_G} {cy : Nat → ClassId} (hE : gE s0 D cy) (hl : l.stackTraces = false) {L : List Nat} {f : gF} {a h s v : Nat} {nu pl ip : Int32} {pr mk : Option Nat} {H S V : Nat → Int32} (hL : gH L f a (.inr (2, [.int nu, va_rf pr, .int pl, .ref h, .ref s, .ref v, va_rf mk, .int ip]))) (hh : gH L f h (.inl (cy 0, 12, .inl H))) (hs : gH L f s (.inl (cy 0, 12, .inl S))) (hv : gH L f v (.inl (cy 0, 4, .inl V))) {q : Nat} (hq9 : q < 12) : gM l s0 D yX2_holds cX2_holds 2 (some .int) 2 0 0 [.ref a, .int (nI q)] L f (fun v L1 f1 => v = some (.int (H q)) ∧ L = L1 ∧ f = f1) := by
  refine gM.of (own := RX2) hE hl (by decide +kernel) rfl rfl (Nat.le_of_ble_eq_true rfl) (fun p9 e9 s9 m9 a99 b99 t99 c9 C hr hnm => ?_)
  refine G.weak (ls' := [some (.ref a), some (.int (nI q))]) ?_ rfl (fun _ _ h => h)
  refine g_iload_n (n := 1) C dX2_holds_0 rfl rfl ?_
  refine g_bipush (n := 3) (v := nI 12) C dX2_holds_1 rfl rfl ?_
  refine g_S (n := 6) (rest := []) C (k5_isIn hE hl (nI q) (nI 12)) dX2_holds_3 kM_X5_isIn kL_X2_35 kS_X5_isIn rfl rfl (Nat.le_of_ble_eq_true rfl) ⟨by decide, by decide⟩ ⟨by decide, by decide⟩ rfl (fun v9 L9 f9 hq => ?_)
  obtain ⟨rfl, rfl, rfl⟩ := hq
  refine G.sk (st' := [_]) rfl ?_
  refine g_if_eq (n := 9) (tgt := 18) C dX2_holds_6 (by decide) rfl (fun h6 => absurd h6 (in_t hq9 (by decide))) (fun h6 => ?_)
  refine g_aload_n (n := 10) C dX2_holds_9 rfl (Or.inr ⟨_, rfl⟩) rfl ?_
  refine g_get (n := 13) C dX2_holds_10 kF_X2_9 (by assumption) rfl rfl ?_
  refine g_iload_n (n := 14) C dX2_holds_13 rfl rfl ?_
  refine g_iald (n := 15) C dX2_holds_14 (by assumption) rfl (by omega) (by decide) rfl ?_
  refine g_goto (tgt := 19) C dX2_holds_15 (by decide) ?_
  refine g_iret C hr dX2_holds_19 ?_ ⟨by decide, by decide⟩
  exact ⟨rfl, rfl, rfl⟩
theorem k5_shows {l : Launch} {s0 : State} {D : va_G} {cy : Nat → ClassId} (hE : gE s0 D cy) (hl : l.stackTraces = false) {L : List Nat} {f : gF} {a h s v : Nat} {nu pl ip : Int32} {pr mk : Option Nat} {H S V : Nat → Int32} (hL : gH L f a (.inr (2, [.int nu, va_rf pr, .int pl, .ref h, .ref s, .ref v, va_rf mk, .int ip]))) (hh : gH L f h (.inl (cy 0, 12, .inl H))) (hs : gH L f s (.inl (cy 0, 12, .inl S))) (hv : gH L f v (.inl (cy 0, 4, .inl V))) {q : Nat} (hq9 : q < 12) : gM l s0 D yX2_shows cX2_shows 2 (some .int) 2 0 0 [.ref a, .int (nI q)] L f (fun v L1 f1 => v = some (.int (S q)) ∧ L = L1 ∧ f = f1) := by
  refine gM.of (own := RX2) hE hl (by decide +kernel) rfl rfl (Nat.le_of_ble_eq_true rfl) (fun p9 e9 s9 m9 a99 b99 t99 c9 C hr hnm => ?_)
  refine G.weak (ls' := [some (.ref a), some (.int (nI q))]) ?_ rfl (fun _ _ h => h)
  refine g_iload_n (n := 1) C dX2_shows_0 rfl rfl ?_
  refine g_bipush (n := 3) (v := nI 12) C dX2_shows_1 rfl rfl ?_
  refine g_S (n := 6) (rest := []) C (k5_isIn hE hl (nI q) (nI 12)) dX2_shows_3 kM_X5_isIn kL_X2_35 kS_X5_isIn rfl rfl (Nat.le_of_ble_eq_true rfl) ⟨by decide, by decide⟩ ⟨by decide, by decide⟩ rfl (fun v9 L9 f9 hq => ?_)
  obtain ⟨rfl, rfl, rfl⟩ := hq
  refine G.sk (st' := [_]) rfl ?_
  refine g_if_eq (n := 9) (tgt := 18) C dX2_shows_6 (by decide) rfl (fun h6 => absurd h6 (in_t hq9 (by decide))) (fun h6 => ?_)
  refine g_aload_n (n := 10) C dX2_shows_9 rfl (Or.inr ⟨_, rfl⟩) rfl ?_
  refine g_get (n := 13) C dX2_shows_10 kF_X2_15 (by assumption) rfl rfl ?_
  refine g_iload_n (n := 14) C dX2_shows_13 rfl rfl ?_
  refine g_iald (n := 15) C dX2_shows_14 (by assumption) rfl (by omega) (by decide) rfl ?_
  refine g_goto (tgt := 19) C dX2_shows_15 (by decide) ?_
  refine g_iret C hr dX2_shows_19 ?_ ⟨by decide, by decide⟩
  exact ⟨rfl, rfl, rfl⟩
theorem k5_value {l : Launch} {s0 : State} {D : va_G} {cy : Nat → ClassId} (hE : gE s0 D cy) (hl : l.stackTraces = false) {L : List Nat} {f : gF} {a h s v : Nat} {nu pl ip : Int32} {pr mk : Option Nat} {H S V : Nat → Int32} (hL : gH L f a (.inr (2, [.int nu, va_rf pr, .int pl, .ref h, .ref s, .ref v, va_rf mk, .int ip]))) (hh : gH L f h (.inl (cy 0, 12, .inl H))) (hs : gH L f s (.inl (cy 0, 12, .inl S))) (hv : gH L f v (.inl (cy 0, 4, .inl V))) {q : Nat} (hq9 : q < 4) : gM l s0 D yX2_value cX2_value 2 (some .int) 2 0 0 [.ref a, .int (nI q)] L f (fun v L1 f1 => v = some (.int (V q)) ∧ L = L1 ∧ f = f1) := by
  refine gM.of (own := RX2) hE hl (by decide +kernel) rfl rfl (Nat.le_of_ble_eq_true rfl) (fun p9 e9 s9 m9 a99 b99 t99 c9 C hr hnm => ?_)
  refine G.weak (ls' := [some (.ref a), some (.int (nI q))]) ?_ rfl (fun _ _ h => h)
  refine g_iload_n (n := 1) C dX2_value_0 rfl rfl ?_
  refine g_iconst (n := 2) (v := nI 4) C dX2_value_1 rfl rfl ?_
  refine g_S (n := 5) (rest := []) C (k5_isIn hE hl (nI q) (nI 4)) dX2_value_2 kM_X5_isIn kL_X2_35 kS_X5_isIn rfl rfl (Nat.le_of_ble_eq_true rfl) ⟨by decide, by decide⟩ ⟨by decide, by decide⟩ rfl (fun v9 L9 f9 hq => ?_)
  obtain ⟨rfl, rfl, rfl⟩ := hq
  refine G.sk (st' := [_]) rfl ?_
  refine g_if_eq (n := 8) (tgt := 17) C dX2_value_5 (by decide) rfl (fun h5 => absurd h5 (in_t hq9 (by decide))) (fun h5 => ?_)
  refine g_aload_n (n := 9) C dX2_value_8 rfl (Or.inr ⟨_, rfl⟩) rfl ?_
  refine g_get (n := 12) C dX2_value_9 kF_X2_18 (by assumption) rfl rfl ?_
  refine g_iload_n (n := 13) C dX2_value_12 rfl rfl ?_
  refine g_iald (n := 14) C dX2_value_13 (by assumption) rfl (by omega) (by decide) rfl ?_
  refine g_goto (tgt := 18) C dX2_value_14 (by decide) ?_
  refine g_iret C hr dX2_value_18 ?_ ⟨by decide, by decide⟩
  exact ⟨rfl, rfl, rfl⟩
theorem k5_hold {l : Launch} {s0 : State} {D : va_G} {cy : Nat → ClassId} (hE : gE s0 D cy) (hl : l.stackTraces = false) {L : List Nat} {f : gF} {a h s v : Nat} {nu pl ip : Int32} {pr mk : Option Nat} {H S V : Nat → Int32} (hL : gH L f a (.inr (2, [.int nu, va_rf pr, .int pl, .ref h, .ref s, .ref v, va_rf mk, .int ip]))) (hh : gH L f h (.inl (cy 0, 12, .inl H))) (hs : gH L f s (.inl (cy 0, 12, .inl S))) (hv : gH L f v (.inl (cy 0, 4, .inl V))) (hsh : s ≠ h) {q : Nat} (hq9 : q < 12) (x : Int32) : gM l s0 D yX2_hold cX2_hold 3 none 2 0 0 [.ref a, .int (nI q), .int x] L f (fun v L1 f1 => v = none ∧ L = L1 ∧ f1 = va_up (va_up f h (.inl (cy 0, 12, .inl (upd H q x)))) s (.inl (cy 0, 12, .inl (upd S q (sv x))))) := by
  refine gM.of (own := RX2) hE hl (by decide +kernel) rfl rfl (Nat.le_of_ble_eq_true rfl) (fun p9 e9 s9 m9 a99 b99 t99 c9 C hr hnm => ?_)
  refine G.weak (ls' := [some (.ref a), some (.int (nI q)), some (.int x)]) ?_ rfl (fun _ _ h => h)
  refine g_iload_n (n := 1) C dX2_hold_0 rfl rfl ?_
  refine g_bipush (n := 3) (v := nI 12) C dX2_hold_1 rfl rfl ?_
  refine g_S (n := 6) (rest := []) C (k5_isIn hE hl (nI q) (nI 12)) dX2_hold_3 kM_X5_isIn kL_X2_35 kS_X5_isIn rfl rfl (Nat.le_of_ble_eq_true rfl) ⟨by decide, by decide⟩ ⟨by decide, by decide⟩ rfl (fun v9 L9 f9 hq => ?_)
  obtain ⟨rfl, rfl, rfl⟩ := hq
  refine G.sk (st' := [_]) rfl ?_
  refine g_if_eq (n := 9) (tgt := 33) C dX2_hold_6 (by decide) rfl (fun h6 => absurd h6 (in_t hq9 (by decide))) (fun h6 => ?_)
  refine g_aload_n (n := 10) C dX2_hold_9 rfl (Or.inr ⟨_, rfl⟩) rfl ?_
  refine g_get (n := 13) C dX2_hold_10 kF_X2_9 (by assumption) rfl rfl ?_
  refine g_iload_n (n := 14) C dX2_hold_13 rfl rfl ?_
  refine g_iload_n (n := 15) C dX2_hold_14 rfl rfl ?_
  refine g_iast (n := 16) C dX2_hold_15 (by assumption) rfl (by omega) (by decide) rfl ?_
  refine g_aload_n (n := 17) C dX2_hold_16 rfl (Or.inr ⟨_, rfl⟩) rfl ?_
  refine g_get (n := 20) C dX2_hold_17 kF_X2_15 (hL.ne (gH.apart hL hh (fun e => by cases e))) rfl rfl ?_
  refine g_iload_n (n := 21) C dX2_hold_20 rfl rfl ?_
  refine g_iload_n (n := 22) C dX2_hold_21 rfl rfl ?_
  refine g_bipush (n := 24) (v := -2) C dX2_hold_22 rfl rfl ?_
  refine g_icmp_ne (n := 27) (tgt := 31) C dX2_hold_24 (by decide) rfl (fun h24 => ?_) (fun h24 => ?_)
  · refine g_iload_n (n := 32) C dX2_hold_31 rfl rfl ?_
    refine G.top (y := sv x) (by unfold sv; first | exact (if_pos h24).symm | exact (if_neg h24).symm) ?_
    refine g_iast (n := 33) C dX2_hold_32 (hs.ne hsh) rfl (by omega) (by decide) rfl ?_
    refine g_vret C hr dX2_hold_33 ?_ ⟨by decide, by decide⟩
    exact ⟨rfl, rfl, rfl⟩
  · refine g_iconst (n := 28) (v := -1) C dX2_hold_27 rfl rfl ?_
    refine g_goto (tgt := 32) C dX2_hold_28 (by decide) ?_
    refine G.top (y := sv x) (by unfold sv; first | exact (if_pos h24).symm | exact (if_neg h24).symm) ?_
    refine g_iast (n := 33) C dX2_hold_32 (hs.ne hsh) rfl (by omega) (by decide) rfl ?_
    refine g_vret C hr dX2_hold_33 ?_ ⟨by decide, by decide⟩
    exact ⟨rfl, rfl, rfl⟩
theorem k5_assign {l : Launch} {s0 : State} {D : va_G} {cy : Nat → ClassId} (hE : gE s0 D cy) (hl : l.stackTraces = false) {L : List Nat} {f : gF} {a h s v : Nat} {nu pl ip : Int32} {pr mk : Option Nat} {H S V : Nat → Int32} (hL : gH L f a (.inr (2, [.int nu, va_rf pr, .int pl, .ref h, .ref s, .ref v, va_rf mk, .int ip]))) (hh : gH L f h (.inl (cy 0, 12, .inl H))) (hs : gH L f s (.inl (cy 0, 12, .inl S))) (hv : gH L f v (.inl (cy 0, 4, .inl V))) {q : Nat} (hq9 : q < 4) (x : Int32) : gM l s0 D yX2_assign cX2_assign 3 none 2 0 0 [.ref a, .int (nI q), .int x] L f (fun v9 L1 f1 => v9 = none ∧ L = L1 ∧ f1 = va_up f v (.inl (cy 0, 4, .inl (upd V q x)))) := by
  refine gM.of (own := RX2) hE hl (by decide +kernel) rfl rfl (Nat.le_of_ble_eq_true rfl) (fun p9 e9 s9 m9 a99 b99 t99 c9 C hr hnm => ?_)
  refine G.weak (ls' := [some (.ref a), some (.int (nI q)), some (.int x)]) ?_ rfl (fun _ _ h => h)
  refine g_iload_n (n := 1) C dX2_assign_0 rfl rfl ?_
  refine g_iconst (n := 2) (v := nI 4) C dX2_assign_1 rfl rfl ?_
  refine g_S (n := 5) (rest := []) C (k5_isIn hE hl (nI q) (nI 4)) dX2_assign_2 kM_X5_isIn kL_X2_35 kS_X5_isIn rfl rfl (Nat.le_of_ble_eq_true rfl) ⟨by decide, by decide⟩ ⟨by decide, by decide⟩ rfl (fun v9 L9 f9 hq => ?_)
  obtain ⟨rfl, rfl, rfl⟩ := hq
  refine G.sk (st' := [_]) rfl ?_
  refine g_if_eq (n := 8) (tgt := 15) C dX2_assign_5 (by decide) rfl (fun h5 => absurd h5 (in_t hq9 (by decide))) (fun h5 => ?_)
  refine g_aload_n (n := 9) C dX2_assign_8 rfl (Or.inr ⟨_, rfl⟩) rfl ?_
  refine g_get (n := 12) C dX2_assign_9 kF_X2_18 (by assumption) rfl rfl ?_
  refine g_iload_n (n := 13) C dX2_assign_12 rfl rfl ?_
  refine g_iload_n (n := 14) C dX2_assign_13 rfl rfl ?_
  refine g_iast (n := 15) C dX2_assign_14 (by assumption) rfl (by omega) (by decide) rfl ?_
  refine g_vret C hr dX2_assign_15 ?_ ⟨by decide, by decide⟩
  exact ⟨rfl, rfl, rfl⟩
theorem upd_ext {g G : Nat → Int32} {i : Nat} (h : ∀ j, j < i → g j = G j) {j : Nat} (hj : j < i + 1) : upd g i (G i) j = G j := by
  unfold upd
  by_cases e : j = i
  · rw [if_pos e, e]
  · rw [if_neg e]; exact h j (by omega)
theorem k5_assignLike {l : Launch} {s0 : State} {D : va_G} {cy : Nat → ClassId} (hE : gE s0 D cy) (hl : l.stackTraces = false) {L : List Nat} {f : gF} {a h s v : Nat} {nu pl ip : Int32} {pr mk : Option Nat} {H S V : Nat → Int32} (hL : gH L f a (.inr (2, [.int nu, va_rf pr, .int pl, .ref h, .ref s, .ref v, va_rf mk, .int ip]))) (hh : gH L f h (.inl (cy 0, 12, .inl H))) (hs : gH L f s (.inl (cy 0, 12, .inl S))) (hv : gH L f v (.inl (cy 0, 4, .inl V))) {a2 h2 s2 v2 : Nat} {nu2 pl2 ip2 : Int32} {pr2 mk2 : Option Nat} {H2 S2 V2 : Nat → Int32} (hL2 : gH L f a2 (.inr (2, [.int nu2, va_rf pr2, .int pl2, .ref h2, .ref s2, .ref v2, va_rf mk2, .int ip2]))) (hh2 : gH L f h2 (.inl (cy 0, 12, .inl H2))) (hs2 : gH L f s2 (.inl (cy 0, 12, .inl S2))) (hv2 : gH L f v2 (.inl (cy 0, 4, .inl V2))) (hvv : v2 ≠ v) : gM l s0 D yX2_assignLike cX2_assignLike 3 none 1 0 0 [.ref a, .ref a2] L f (fun v9 L1 f1 => v9 = none ∧ L = L1 ∧ ∃ g, f1 = va_up f v (.inl (cy 0, 4, .inl g)) ∧ ∀ j, j < 4 → g j = V2 j) := by
  refine gM.of (own := RX2) hE hl (by decide +kernel) rfl rfl (Nat.le_of_ble_eq_true rfl) (fun p9 e9 s9 m9 a99 b99 t99 c9 C hr hnm => ?_)
  refine G.weak (ls' := [some (.ref a), some (.ref a2), none]) ?_ rfl (fun _ _ h => h)
  refine g_iconst (n := 1) (v := nI 0) C dX2_assignLike_0 rfl rfl ?_
  refine g_istore_n (n := 2) (ls' := [_, _, _]) C dX2_assignLike_1 rfl (by decide) rfl ?_
  refine g_loop (α := Nat × (Nat → Int32)) (fun z => z.1 ≤ 4 ∧ ∀ j, j < z.1 → z.2 j = V2 j) (fun z => 4 - z.1) (fun _ => L) (fun z => va_up f v (.inl (cy 0, 4, .inl z.2))) (fun _ => 0) (fun _ => 0) 2 (fun z => [some (.ref a), some (.ref a2), some (.int (nI z.1))]) (fun _ => []) (fun z hz ih => ?_) (fun J => G.fx (upf_id hv.2) (J (0, V) ⟨Nat.zero_le _, fun j hj => absurd hj (Nat.not_lt_zero j)⟩))
  obtain ⟨i, g⟩ := z
  obtain ⟨hi9, hg⟩ := hz
  dsimp only at hi9 hg ih ⊢
  have hL1 := hL.ne (e1 := .inl (cy 0, 4, .inl g)) (gH.apart hL hv (fun e => by cases e))
  have hM1 := hL2.ne (e1 := .inl (cy 0, 4, .inl g)) (gH.apart hL2 hv (fun e => by cases e))
  have hv1 := hv.up (e1 := .inl (cy 0, 4, .inl g))
  have hw1 := hv2.ne (e1 := .inl (cy 0, 4, .inl g)) hvv
  refine g_iload_n (n := 3) C dX2_assignLike_2 rfl rfl ?_
  refine g_iconst (n := 4) (v := nI 4) C dX2_assignLike_3 rfl rfl ?_
  refine g_icmp_ge (n := 7) (tgt := 25) C dX2_assignLike_4 (by decide) rfl (fun h4 => ?_) (fun h4 => ?_)
  · have e9 : i = 4 := by have := gn_ge h4 (by decide) (by omega); omega
    subst e9
    refine g_vret C hr dX2_assignLike_25 ?_ ⟨by decide, by decide⟩
    exact ⟨rfl, rfl, g, rfl, hg⟩
  · have hi : i < 4 := gn_gt h4 (by decide) (by omega)
    refine g_aload_n (n := 8) C dX2_assignLike_7 rfl (Or.inr ⟨_, rfl⟩) rfl ?_
    refine g_get (n := 11) C dX2_assignLike_8 kF_X2_18 (by assumption) rfl rfl ?_
    refine g_iload_n (n := 12) C dX2_assignLike_11 rfl rfl ?_
    refine g_aload_n (n := 13) C dX2_assignLike_12 rfl (Or.inr ⟨_, rfl⟩) rfl ?_
    refine g_get (n := 16) C dX2_assignLike_13 kF_X2_18 (by assumption) rfl rfl ?_
    refine g_iload_n (n := 17) C dX2_assignLike_16 rfl rfl ?_
    refine g_iald (n := 18) C dX2_assignLike_17 (by assumption) rfl (by omega) (by decide) rfl ?_
    refine g_iast (n := 19) C dX2_assignLike_18 (by assumption) rfl (by omega) (by decide) rfl ?_
    refine g_iinc (n := 22) (ls' := [_, _, _]) C dX2_assignLike_19 rfl (nI_1 _) rfl (by decide) rfl ?_
    refine g_goto (tgt := 2) C dX2_assignLike_22 (by decide) ?_
    rw [up_up]
    exact ih (i + 1, upd g i (V2 i)) ⟨by show i + 1 ≤ 4; omega, fun j hj => upd_ext hg hj⟩ (by show 4 - (i + 1) < 4 - i; omega)
theorem k5_size {l : Launch} {s0 : State} {D : va_G} {cy : Nat → ClassId} (hE : gE s0 D cy) (hl : l.stackTraces = false) {L : List Nat} {f : gF} {a h s v : Nat} {nu pl ip : Int32} {pr mk : Option Nat} {H S V : Nat → Int32} (hL : gH L f a (.inr (2, [.int nu, va_rf pr, .int pl, .ref h, .ref s, .ref v, va_rf mk, .int ip]))) (hh : gH L f h (.inl (cy 0, 12, .inl H))) (hs : gH L f s (.inl (cy 0, 12, .inl S))) (hv : gH L f v (.inl (cy 0, 4, .inl V))) : gM l s0 D yX2_size cX2_size 3 (some .int) 1 0 0 [.ref a] L f (fun v L1 f1 => v = some (.int (nI (szF H 12))) ∧ L = L1 ∧ f = f1) := by
  refine gM.of (own := RX2) hE hl (by decide +kernel) rfl rfl (Nat.le_of_ble_eq_true rfl) (fun p9 e9 s9 m9 a99 b99 t99 c9 C hr hnm => ?_)
  refine G.weak (ls' := [some (.ref a), none, none]) ?_ rfl (fun _ _ h => h)
  refine g_loop (α := Nat) (fun i => i ≤ 12) (fun i => 12 - i) (fun _ => L) (fun _ => f) (fun _ => 0) (fun _ => 0) 4 (fun i => [some (.ref a), some (.int (nI (szF H i))), some (.int (nI i))]) (fun _ => []) (fun i hi9 ih => ?_) (fun J => ?_)
  · skip
    refine g_iload_n (n := 5) C dX2_size_4 rfl rfl ?_
    refine g_bipush (n := 7) (v := nI 12) C dX2_size_5 rfl rfl ?_
    refine g_icmp_ge (n := 10) (tgt := 29) C dX2_size_7 (by decide) rfl (fun h7 => ?_) (fun h7 => ?_)
    · have e9 : i = 12 := by have := gn_ge h7 (by decide) (by omega); omega
      subst e9
      refine g_iload_n (n := 30) C dX2_size_29 rfl rfl ?_
      refine g_iret C hr dX2_size_30 ?_ ⟨by decide, by decide⟩
      exact ⟨rfl, rfl, rfl⟩
    · have hi : i < 12 := gn_gt h7 (by decide) (by omega)
      refine g_aload_n (n := 11) C dX2_size_10 rfl (Or.inr ⟨_, rfl⟩) rfl ?_
      refine g_get (n := 14) C dX2_size_11 kF_X2_9 (by assumption) rfl rfl ?_
      refine g_iload_n (n := 15) C dX2_size_14 rfl rfl ?_
      refine g_iald (n := 16) C dX2_size_15 (by assumption) rfl (by omega) (by decide) rfl ?_
      refine g_iconst (n := 17) (v := -1) C dX2_size_16 rfl rfl ?_
      refine g_icmp_eq (n := 20) (tgt := 23) C dX2_size_17 (by decide) rfl (fun h17 => ?_) (fun h17 => ?_)
      · refine g_iinc (n := 26) (ls' := [_, _, _]) C dX2_size_23 rfl (nI_1 _) rfl (by decide) rfl ?_
        refine g_goto (tgt := 4) C dX2_size_26 (by decide) ?_
        first | (rw [show szF H i + 1 = szF H (i + 1) by simp [szF, h17]]; exact ih (i + 1) (by omega) (by omega)) | (rw [show szF H i = szF H (i + 1) by simp [szF, h17]]; exact ih (i + 1) (by omega) (by omega))
      · refine g_iinc (n := 23) (ls' := [_, _, _]) C dX2_size_20 rfl (nI_1 _) rfl (by decide) rfl ?_
        refine g_iinc (n := 26) (ls' := [_, _, _]) C dX2_size_23 rfl (nI_1 _) rfl (by decide) rfl ?_
        refine g_goto (tgt := 4) C dX2_size_26 (by decide) ?_
        first | (rw [show szF H i + 1 = szF H (i + 1) by simp [szF, h17]]; exact ih (i + 1) (by omega) (by omega)) | (rw [show szF H i = szF H (i + 1) by simp [szF, h17]]; exact ih (i + 1) (by omega) (by omega))
  · skip
    refine g_iconst (n := 1) (v := nI 0) C dX2_size_0 rfl rfl ?_
    refine g_istore_n (n := 2) (ls' := [_, _, _]) C dX2_size_1 rfl (by decide) rfl ?_
    refine g_iconst (n := 3) (v := nI 0) C dX2_size_2 rfl rfl ?_
    refine g_istore_n (n := 4) (ls' := [_, _, _]) C dX2_size_3 rfl (by decide) rfl ?_
    exact J 0 (by omega)
theorem k5_fingerprint {l : Launch} {s0 : State} {D : va_G} {cy : Nat → ClassId} (hE : gE s0 D cy) (hl : l.stackTraces = false) {L : List Nat} {f : gF} {a h s v : Nat} {nu pl ip : Int32} {pr mk : Option Nat} {H S V : Nat → Int32} (hL : gH L f a (.inr (2, [.int nu, va_rf pr, .int pl, .ref h, .ref s, .ref v, va_rf mk, .int ip]))) (hh : gH L f h (.inl (cy 0, 12, .inl H))) (hs : gH L f s (.inl (cy 0, 12, .inl S))) (hv : gH L f v (.inl (cy 0, 4, .inl V))) : gM l s0 D yX2_fingerprint cX2_fingerprint 3 (some .int) 1 0 0 [.ref a] L f (fun v L1 f1 => v = some (.int (dgF S 12)) ∧ L = L1 ∧ f = f1) := by
  refine gM.of (own := RX2) hE hl (by decide +kernel) rfl rfl (Nat.le_of_ble_eq_true rfl) (fun p9 e9 s9 m9 a99 b99 t99 c9 C hr hnm => ?_)
  refine G.weak (ls' := [some (.ref a), none, none]) ?_ rfl (fun _ _ h => h)
  refine g_loop (α := Nat) (fun i => i ≤ 12) (fun i => 12 - i) (fun _ => L) (fun _ => f) (fun _ => 0) (fun _ => 0) 4 (fun i => [some (.ref a), some (.int (dgF S i)), some (.int (nI i))]) (fun _ => []) (fun i hi9 ih => ?_) (fun J => ?_)
  · skip
    refine g_iload_n (n := 5) C dX2_fingerprint_4 rfl rfl ?_
    refine g_bipush (n := 7) (v := nI 12) C dX2_fingerprint_5 rfl rfl ?_
    refine g_icmp_ge (n := 10) (tgt := 46) C dX2_fingerprint_7 (by decide) rfl (fun h7 => ?_) (fun h7 => ?_)
    · have e9 : i = 12 := by have := gn_ge h7 (by decide) (by omega); omega
      subst e9
      refine g_iload_n (n := 47) C dX2_fingerprint_46 rfl rfl ?_
      refine g_iret C hr dX2_fingerprint_47 ?_ ⟨by decide, by decide⟩
      exact ⟨rfl, rfl, rfl⟩
    · have hi : i < 12 := gn_gt h7 (by decide) (by omega)
      refine g_aload_n (n := 11) C dX2_fingerprint_10 rfl (Or.inr ⟨_, rfl⟩) rfl ?_
      refine g_get (n := 14) C dX2_fingerprint_11 kF_X2_15 (by assumption) rfl rfl ?_
      refine g_iload_n (n := 15) C dX2_fingerprint_14 rfl rfl ?_
      refine g_iald (n := 16) C dX2_fingerprint_15 (by assumption) rfl (by omega) (by decide) rfl ?_
      refine g_iconst (n := 17) (v := -1) C dX2_fingerprint_16 rfl rfl ?_
      refine g_icmp_eq (n := 20) (tgt := 40) C dX2_fingerprint_17 (by decide) rfl (fun h17 => ?_) (fun h17 => ?_)
      · refine g_iinc (n := 43) (ls' := [_, _, _]) C dX2_fingerprint_40 rfl (nI_1 _) rfl (by decide) rfl ?_
        refine g_goto (tgt := 4) C dX2_fingerprint_43 (by decide) ?_
        first | exact ih (i + 1) (by omega) (by omega) | (rw [show dgF S i = dgF S (i + 1) by simp [dgF, h17]]; exact ih (i + 1) (by omega) (by omega))
      · refine g_bipush (n := 22) (v := nI 31) C dX2_fingerprint_20 rfl rfl ?_
        refine g_iload_n (n := 23) C dX2_fingerprint_22 rfl rfl ?_
        refine g_imul (n := 24) C dX2_fingerprint_23 rfl ?_
        refine g_bipush (n := 26) (v := nI 101) C dX2_fingerprint_24 rfl rfl ?_
        refine g_iload_n (n := 27) C dX2_fingerprint_26 rfl rfl ?_
        refine g_imul (n := 28) C dX2_fingerprint_27 rfl ?_
        refine g_iadd (n := 29) C dX2_fingerprint_28 rfl ?_
        refine g_aload_n (n := 30) C dX2_fingerprint_29 rfl (Or.inr ⟨_, rfl⟩) rfl ?_
        refine g_get (n := 33) C dX2_fingerprint_30 kF_X2_15 (by assumption) rfl rfl ?_
        refine g_iload_n (n := 34) C dX2_fingerprint_33 rfl rfl ?_
        refine g_iald (n := 35) C dX2_fingerprint_34 (by assumption) rfl (by omega) (by decide) rfl ?_
        refine g_iadd (n := 36) C dX2_fingerprint_35 rfl ?_
        refine g_ldc (n := 38) (v := 1000003) C dX2_fingerprint_36 (List.mem_of_getElem? (i := 574) (by decide +kernel)) rfl ?_
        refine g_irem (n := 39) C dX2_fingerprint_38 (by decide) rfl ?_
        refine G.top (y := dgF S (i + 1)) (by simp [dgF, h17]) ?_
        refine g_istore_n (n := 40) (ls' := [_, _, _]) C dX2_fingerprint_39 rfl (by decide) rfl ?_
        refine g_iinc (n := 43) (ls' := [_, _, _]) C dX2_fingerprint_40 rfl (nI_1 _) rfl (by decide) rfl ?_
        refine g_goto (tgt := 4) C dX2_fingerprint_43 (by decide) ?_
        first | exact ih (i + 1) (by omega) (by omega) | (rw [show dgF S i = dgF S (i + 1) by simp [dgF, h17]]; exact ih (i + 1) (by omega) (by omega))
  · skip
    refine g_iconst (n := 1) (v := nI 1) C dX2_fingerprint_0 rfl rfl ?_
    refine g_istore_n (n := 2) (ls' := [_, _, _]) C dX2_fingerprint_1 rfl (by decide) rfl ?_
    refine g_iconst (n := 3) (v := nI 0) C dX2_fingerprint_2 rfl rfl ?_
    refine g_istore_n (n := 4) (ls' := [_, _, _]) C dX2_fingerprint_3 rfl (by decide) rfl ?_
    exact J 0 (by omega)

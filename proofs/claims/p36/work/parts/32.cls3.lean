/-! ===== the class, III: layers that become like others ===== -/
def pw (P : Nat → Prop) [DecidablePred P] (g H : Nat → Int32) (i : Nat) : Nat → Int32 := fun q => if q < i ∧ P q then g q else H q
theorem pw_0 {P : Nat → Prop} [DecidablePred P] {g H : Nat → Int32} : pw P g H 0 = H := funext fun q => if_neg (fun h => absurd h.1 (Nat.not_lt_zero q))
theorem pw_i {P : Nat → Prop} [DecidablePred P] {g H : Nat → Int32} {i : Nat} : pw P g H i i = H i := if_neg (fun h => absurd h.1 (Nat.lt_irrefl i))
theorem pw_e {P : Nat → Prop} [DecidablePred P] {g H : Nat → Int32} {i : Nat} (h : ¬ P i) : pw P g H (i + 1) = pw P g H i := by
  funext q
  unfold pw
  by_cases e : q = i
  · subst e; rw [if_neg (fun z => h z.2), if_neg (fun z => h z.2)]
  · by_cases e2 : q < i ∧ P q
    · rw [if_pos e2, if_pos ⟨by omega, e2.2⟩]
    · rw [if_neg e2, if_neg (fun z => e2 ⟨by omega, z.2⟩)]
theorem pw_s {P : Nat → Prop} [DecidablePred P] {g H : Nat → Int32} {i : Nat} (h : P i) : upd (pw P g H i) i (g i) = pw P g H (i + 1) := by
  funext q
  show (if q = i then g i else if q < i ∧ P q then g q else H q) = if q < i + 1 ∧ P q then g q else H q
  by_cases e : q = i
  · subst e
    rw [if_pos (rfl : q = q), if_pos (show q < q + 1 ∧ P q from ⟨Nat.lt_succ_self q, h⟩)]
  · rw [if_neg e]
    by_cases e2 : q < i ∧ P q
    · rw [if_pos e2, if_pos ⟨by omega, e2.2⟩]
    · rw [if_neg e2, if_neg (fun z => e2 ⟨by omega, z.2⟩)]
def slG (D9 : Nat → Int32) (q : Nat) : Int32 := if D9 q = -1 then -2 else D9 q
def slH (D9 H S : Nat → Int32) (i : Nat) : Nat → Int32 := pw (fun q => ¬ D9 q = S q) (slG D9) H i
def slS (D9 S : Nat → Int32) (i : Nat) : Nat → Int32 := pw (fun q => ¬ D9 q = S q) (fun q => sv (slG D9 q)) S i
abbrev hlC (D9 S : Nat → Int32) (q : Nat) : Prop := D9 q ≠ -1 ∧ ¬ (D9 q = -2 ∧ S q = -1)
def hlH (D9 S H : Nat → Int32) (i : Nat) : Nat → Int32 := pw (hlC D9 S) D9 H i
def hlS (D9 S : Nat → Int32) (i : Nat) : Nat → Int32 := pw (hlC D9 S) (fun q => sv (D9 q)) S i
theorem slH_0 {D9 H S : Nat → Int32} : slH D9 H S 0 = H := pw_0
theorem slS_0 {D9 S : Nat → Int32} : slS D9 S 0 = S := pw_0
theorem slS_i {D9 S : Nat → Int32} {i : Nat} : slS D9 S i i = S i := pw_i
theorem slH_e {D9 H S : Nat → Int32} {i : Nat} (h : D9 i = S i) : slH D9 H S (i + 1) = slH D9 H S i := pw_e (fun z => z h)
theorem slS_e {D9 S : Nat → Int32} {i : Nat} (h : D9 i = S i) : slS D9 S (i + 1) = slS D9 S i := pw_e (fun z => z h)
theorem slH_s {D9 H S : Nat → Int32} {i : Nat} (h : ¬ D9 i = S i) : upd (slH D9 H S i) i (slG D9 i) = slH D9 H S (i + 1) := pw_s (P := fun q => ¬ D9 q = S q) h
theorem slS_s {D9 S : Nat → Int32} {i : Nat} (h : ¬ D9 i = S i) : upd (slS D9 S i) i (sv (slG D9 i)) = slS D9 S (i + 1) := pw_s (P := fun q => ¬ D9 q = S q) (g := fun q => sv (slG D9 q)) h
theorem hlH_0 {D9 H S : Nat → Int32} : hlH D9 S H 0 = H := pw_0
theorem hlS_0 {D9 S : Nat → Int32} : hlS D9 S 0 = S := pw_0
theorem hlS_i {D9 S : Nat → Int32} {i : Nat} : hlS D9 S i i = S i := pw_i
theorem hlH_e {D9 H S : Nat → Int32} {i : Nat} (h : ¬ hlC D9 S i) : hlH D9 S H (i + 1) = hlH D9 S H i := pw_e h
theorem hlS_e {D9 S : Nat → Int32} {i : Nat} (h : ¬ hlC D9 S i) : hlS D9 S (i + 1) = hlS D9 S i := pw_e h
theorem hlH_s {D9 H S : Nat → Int32} {i : Nat} (h : hlC D9 S i) : upd (hlH D9 S H i) i (D9 i) = hlH D9 S H (i + 1) := pw_s (P := hlC D9 S) h
theorem hlS_s {D9 S : Nat → Int32} {i : Nat} (h : hlC D9 S i) : upd (hlS D9 S i) i (sv (D9 i)) = hlS D9 S (i + 1) := pw_s (P := hlC D9 S) (g := fun q => sv (D9 q)) h
theorem k5_isRootOf {l : Launch} {s0 : State} {D : va_G} {cy : Nat → ClassId} (hE : gE s0 D cy) (hl : l.stackTraces = false) {L : List Nat} {f : gF} {a h s v : Nat} {nu pl ip : Int32} {pr mk : Option Nat} {H S V : Nat → Int32} (hL : gH L f a (.inr (2, [.int nu, va_rf pr, .int pl, .ref h, .ref s, .ref v, va_rf mk, .int ip]))) (hh : gH L f h (.inl (cy 0, 12, .inl H))) (hs : gH L f s (.inl (cy 0, 12, .inl S))) (hv : gH L f v (.inl (cy 0, 4, .inl V))) {b9 : Nat} {B : Nat → Int32} (hB : gH L f b9 (.inl (cy 0, 12, .inl B))) : gM l s0 D yX2_isRootOf cX2_isRootOf 3 (some .boolean) 1 0 0 [.ref a, .ref b9] L f (fun v L1 f1 => (∃ w, v = some (.int (nI w)) ∧ cdb (pr = none ∧ ∀ q, q < 12 → H q = B q) w) ∧ L = L1 ∧ f = f1) := by
  refine gM.of (own := RX2) hE hl (by decide +kernel) rfl rfl (Nat.le_of_ble_eq_true rfl) (fun p9 e9 s9 m9 a99 b99 t99 c9 C hr hnm => ?_)
  refine G.weak (ls' := [some (.ref a), some (.ref b9), none]) ?_ rfl (fun _ _ h => h)
  refine g_cut (α := Unit) (fun _ => pr = none) (fun _ => L) (fun _ => f) (fun _ => 0) (fun _ => 0) 9 (fun _ => [some (.ref a), some (.ref b9), none]) (fun _ => []) (fun J => ?_) (fun _ hpr => ?_)
  · skip
    refine g_aload_n (n := 1) C dX2_isRootOf_0 rfl (Or.inr ⟨_, rfl⟩) rfl ?_
    refine g_get (n := 4) C dX2_isRootOf_1 kF_X2_28 (by assumption) rfl rfl ?_
    refine g_ifnull (n := 7) (tgt := 9) C dX2_isRootOf_4 (by decide) rfl (fun h4 => ?_) (fun a4 h4 => ?_)
    · exact J () h4
    · refine g_iconst (n := 8) (v := nI 0) C dX2_isRootOf_7 rfl rfl ?_
      refine g_zret C hr rfl dX2_isRootOf_8 ?_ ⟨by decide, by decide⟩
      exact ⟨⟨_, rfl, Or.inr ⟨rfl, fun z => by rw [h4] at z; cases z.1⟩⟩, rfl, rfl⟩
  · skip
    refine g_iconst (n := 10) (v := nI 0) C dX2_isRootOf_9 rfl rfl ?_
    refine g_istore_n (n := 11) (ls' := [_, _, _]) C dX2_isRootOf_10 rfl (by decide) rfl ?_
    refine g_loop (α := Nat) (fun i => i ≤ 12 ∧ ∀ q, q < i → H q = B q) (fun i => 12 - i) (fun _ => L) (fun _ => f) (fun _ => 0) (fun _ => 0) 11 (fun i => [some (.ref a), some (.ref b9), some (.int (nI i))]) (fun _ => []) (fun i hz ih => ?_) (fun J => J 0 ⟨Nat.zero_le _, fun q hq => absurd hq (Nat.not_lt_zero q)⟩)
    obtain ⟨hi9, hg⟩ := hz
    refine g_iload_n (n := 12) C dX2_isRootOf_11 rfl rfl ?_
    refine g_bipush (n := 14) (v := nI 12) C dX2_isRootOf_12 rfl rfl ?_
    refine g_icmp_ge (n := 17) (tgt := 43) C dX2_isRootOf_14 (by decide) rfl (fun h14 => ?_) (fun h14 => ?_)
    · have e9 : i = 12 := by have := gn_ge h14 (by decide) (by omega); omega
      subst e9
      refine g_iconst (n := 44) (v := nI 1) C dX2_isRootOf_43 rfl rfl ?_
      refine g_zret C hr rfl dX2_isRootOf_44 ?_ ⟨by decide, by decide⟩
      exact ⟨⟨_, rfl, Or.inl ⟨rfl, hpr, hg⟩⟩, rfl, rfl⟩
    · have hi : i < 12 := gn_gt h14 (by decide) (by omega)
      refine g_iload_n (n := 18) C dX2_isRootOf_17 rfl rfl ?_
      refine g_aload_n (n := 19) C dX2_isRootOf_18 rfl (Or.inr ⟨_, rfl⟩) rfl ?_
      refine g_alen (n := 20) (t := 0) C dX2_isRootOf_19 rfl (by assumption) rfl rfl ?_
      refine G.top (y := nI 12) rfl ?_
      refine g_icmp_ge (n := 23) (tgt := 43) C dX2_isRootOf_20 (by decide) rfl (fun h20 => absurd (gn_ge h20 (by decide) (by omega)) (by omega)) (fun h20 => ?_)
      refine g_aload_n (n := 24) C dX2_isRootOf_23 rfl (Or.inr ⟨_, rfl⟩) rfl ?_
      refine g_get (n := 27) C dX2_isRootOf_24 kF_X2_9 (by assumption) rfl rfl ?_
      refine g_iload_n (n := 28) C dX2_isRootOf_27 rfl rfl ?_
      refine g_iald (n := 29) C dX2_isRootOf_28 (by assumption) rfl (by omega) (by decide) rfl ?_
      refine g_aload_n (n := 30) C dX2_isRootOf_29 rfl (Or.inr ⟨_, rfl⟩) rfl ?_
      refine g_iload_n (n := 31) C dX2_isRootOf_30 rfl rfl ?_
      refine g_iald (n := 32) C dX2_isRootOf_31 (by assumption) rfl (by omega) (by decide) rfl ?_
      refine g_icmp_eq (n := 35) (tgt := 37) C dX2_isRootOf_32 (by decide) rfl (fun h32 => ?_) (fun h32 => ?_)
      · refine g_iinc (n := 40) (ls' := [_, _, _]) C dX2_isRootOf_37 rfl (nI_1 _) rfl (by decide) rfl ?_
        refine g_goto (tgt := 11) C dX2_isRootOf_40 (by decide) ?_
        exact ih (i + 1) ⟨by omega, fun q hq => by
          by_cases e : q = i
          · rw [e]; exact h32
          · exact hg q (by omega)⟩ (by omega)
      · refine g_iconst (n := 36) (v := nI 0) C dX2_isRootOf_35 rfl rfl ?_
        refine g_zret C hr rfl dX2_isRootOf_36 ?_ ⟨by decide, by decide⟩
        exact ⟨⟨_, rfl, Or.inr ⟨rfl, fun z => h32 (z.2 i hi)⟩⟩, rfl, rfl⟩
theorem k5_showLike {l : Launch} {s0 : State} {D : va_G} {cy : Nat → ClassId} (hE : gE s0 D cy) (hl : l.stackTraces = false) {L : List Nat} {f : gF} {a h s v : Nat} {nu pl ip : Int32} {pr mk : Option Nat} {H S V : Nat → Int32} (hL : gH L f a (.inr (2, [.int nu, va_rf pr, .int pl, .ref h, .ref s, .ref v, va_rf mk, .int ip]))) (hh : gH L f h (.inl (cy 0, 12, .inl H))) (hs : gH L f s (.inl (cy 0, 12, .inl S))) (hv : gH L f v (.inl (cy 0, 4, .inl V))) {a2 h2 s2 v2 : Nat} {nu2 pl2 ip2 : Int32} {pr2 mk2 : Option Nat} {H2 S2 V2 : Nat → Int32} (hL2 : gH L f a2 (.inr (2, [.int nu2, va_rf pr2, .int pl2, .ref h2, .ref s2, .ref v2, va_rf mk2, .int ip2]))) (hh2 : gH L f h2 (.inl (cy 0, 12, .inl H2))) (hs2 : gH L f s2 (.inl (cy 0, 12, .inl S2))) (hv2 : gH L f v2 (.inl (cy 0, 4, .inl V2))) (hsh : s ≠ h) (hsh2 : h2 ≠ h) (hss2 : s2 ≠ s) (hhs2 : h2 ≠ s) (hsh3 : s2 ≠ h) (hvv : v2 ≠ v) : gM l s0 D yX2_showLike cX2_showLike 4 none 3 0 0 [.ref a, .ref a2] L f (fun v9 L1 f1 => v9 = none ∧ L = L1 ∧ ∃ g, f1 = fL cy f h s v (slH S2 H S 12) (slS S2 S 12) g ∧ ∀ j, j < 4 → g j = V2 j) := by
  refine gM.of (own := RX2) hE hl (by decide +kernel) rfl rfl (Nat.le_of_ble_eq_true rfl) (fun p9 e9 s9 m9 a99 b99 t99 c9 C hr hnm => ?_)
  refine G.weak (ls' := [some (.ref a), some (.ref a2), none, none]) ?_ rfl (fun _ _ h => h)
  refine g_iconst (n := 1) (v := nI 0) C dX2_showLike_0 rfl rfl ?_
  refine g_istore_n (n := 2) (ls' := [_, _, _, _]) C dX2_showLike_1 rfl (by decide) rfl ?_
  refine g_loop (α := Nat × Option Value) (fun z => z.1 ≤ 12) (fun z => 12 - z.1) (fun _ => L) (fun z => fL cy f h s v (slH S2 H S z.1) (slS S2 S z.1) V) (fun _ => 0) (fun _ => 0) 2 (fun z => [some (.ref a), some (.ref a2), some (.int (nI z.1)), z.2]) (fun _ => []) (fun z hz ih => ?_) (fun J => G.fx (by show fL cy f h s v (slH S2 H S 0) (slS S2 S 0) V = f; rw [slH_0, slS_0]; exact fL_id hh hs hv) (J (0, none) (Nat.zero_le _)))
  obtain ⟨i, o0⟩ := z
  dsimp only at hz ih ⊢
  replace hz : i ≤ 12 := hz
  obtain ⟨hL1, hh1, hs1, hv1⟩ := ly_up hL hh hs hv hsh (slH S2 H S i) (slS S2 S i) V
  have hL3 := ly_in hL2 hh hs hv (slH S2 H S i) (slS S2 S i) V
  have hh3 := ly_ot (cy := cy) (H := H) (S := S) (V := V) hh2 hsh2 hhs2 (gH.apart hh2 hv (fun e => by cases e)) (slH S2 H S i) (slS S2 S i) V
  have hs3 := ly_ot (cy := cy) (H := H) (S := S) (V := V) hs2 hsh3 hss2 (gH.apart hs2 hv (fun e => by cases e)) (slH S2 H S i) (slS S2 S i) V
  have hv3 := ly_ot (cy := cy) (H := H) (S := S) (V := V) hv2 (gH.apart hv2 hh (fun e => by cases e)) (gH.apart hv2 hs (fun e => by cases e)) hvv (slH S2 H S i) (slS S2 S i) V
  refine g_iload_n (n := 3) C dX2_showLike_2 rfl rfl ?_
  refine g_bipush (n := 5) (v := nI 12) C dX2_showLike_3 rfl rfl ?_
  refine g_icmp_ge (n := 8) (tgt := 47) C dX2_showLike_5 (by decide) rfl (fun h5 => ?_) (fun h5 => ?_)
  · have e9 : i = 12 := by have := gn_ge h5 (by decide) (by omega); omega
    subst e9
    refine g_aload_n (n := 48) C dX2_showLike_47 rfl (Or.inr ⟨_, rfl⟩) rfl ?_
    refine g_aload_n (n := 49) C dX2_showLike_48 rfl (Or.inr ⟨_, rfl⟩) rfl ?_
    refine g_V (n := 52) (rest := []) C (k5_assignLike hE hl hL1 hh1 hs1 hv1 hL3 hh3 hs3 hv3 hvv) dX2_showLike_49 kM_X2_assignLike kL_X2_57 kV_X2_assignLike (by assumption) rfl rfl rfl (Nat.le_of_ble_eq_true rfl) ⟨by decide, by decide⟩ ⟨by decide, by decide⟩ rfl (fun v9 L9 f9 hq => ?_)
    obtain ⟨rfl, rfl, g, rfl, hg⟩ := hq
    refine G.sk (st' := []) rfl ?_
    refine g_vret C hr dX2_showLike_52 ?_ ⟨by decide, by decide⟩
    refine ⟨rfl, rfl, g, ?_, hg⟩
    rw [fL_asg hh1 hs1]
    exact fL_fL hsh (gH.apart hh hv (fun e => by cases e)) (gH.apart hs hv (fun e => by cases e)) _ _ _ _ _ _
  · have hi : i < 12 := gn_gt h5 (by decide) (by omega)
    refine g_aload_n (n := 9) C dX2_showLike_8 rfl (Or.inr ⟨_, rfl⟩) rfl ?_
    refine g_get (n := 12) C dX2_showLike_9 kF_X2_15 (by assumption) rfl rfl ?_
    refine g_iload_n (n := 13) C dX2_showLike_12 rfl rfl ?_
    refine g_iald (n := 14) C dX2_showLike_13 (by assumption) rfl (by omega) (by decide) rfl ?_
    refine g_istore_n (n := 15) (ls' := [_, _, _, _]) C dX2_showLike_14 rfl (by decide) rfl ?_
    refine g_iload_n (n := 16) C dX2_showLike_15 rfl rfl ?_
    refine g_aload_n (n := 17) C dX2_showLike_16 rfl (Or.inr ⟨_, rfl⟩) rfl ?_
    refine g_get (n := 20) C dX2_showLike_17 kF_X2_15 (by assumption) rfl rfl ?_
    refine g_iload_n (n := 21) C dX2_showLike_20 rfl rfl ?_
    refine g_iald (n := 22) C dX2_showLike_21 (by assumption) rfl (by omega) (by decide) rfl ?_
    rw [slS_i]
    refine g_icmp_eq (n := 25) (tgt := 41) C dX2_showLike_22 (by decide) rfl (fun h22 => ?_) (fun h22 => ?_)
    · refine g_iinc (n := 44) (ls' := [_, _, _, _]) C dX2_showLike_41 rfl (nI_1 _) rfl (by decide) rfl ?_
      refine g_goto (tgt := 2) C dX2_showLike_44 (by decide) ?_
      first | (rw [← slH_e (H := H) h22, ← slS_e h22]; exact ih (i + 1, _) (by show i + 1 ≤ 12; omega) (by show 12 - (i + 1) < 12 - i; omega)) | (rw [slH_s h22, slS_s h22]; exact ih (i + 1, _) (by show i + 1 ≤ 12; omega) (by show 12 - (i + 1) < 12 - i; omega))
    · refine g_aload_n (n := 26) C dX2_showLike_25 rfl (Or.inr ⟨_, rfl⟩) rfl ?_
      refine g_iload_n (n := 27) C dX2_showLike_26 rfl rfl ?_
      refine g_iload_n (n := 28) C dX2_showLike_27 rfl rfl ?_
      refine g_iconst (n := 29) (v := -1) C dX2_showLike_28 rfl rfl ?_
      refine g_icmp_ne (n := 32) (tgt := 37) C dX2_showLike_29 (by decide) rfl (fun h29 => ?_) (fun h29 => ?_)
      · refine g_iload_n (n := 38) C dX2_showLike_37 rfl rfl ?_
        refine G.top (y := slG S2 i) (by unfold slG; first | exact (if_pos h29).symm | exact (if_neg h29).symm) ?_
        refine g_V (n := 41) (rest := []) C (k5_hold hE hl hL1 hh1 hs1 hv1 hsh hi _) dX2_showLike_38 kM_X2_hold kL_X2_53 kV_X2_hold (by assumption) rfl rfl rfl (Nat.le_of_ble_eq_true rfl) ⟨by decide, by decide⟩ ⟨by decide, by decide⟩ rfl (fun v9 L9 f9 hq => ?_)
        obtain ⟨rfl, rfl, rfl⟩ := hq
        rw [fL_hold hh1 hs1 hv1, fL_fL hsh (gH.apart hh hv (fun e => by cases e)) (gH.apart hs hv (fun e => by cases e))]
        refine G.sk (st' := []) rfl ?_
        refine g_iinc (n := 44) (ls' := [_, _, _, _]) C dX2_showLike_41 rfl (nI_1 _) rfl (by decide) rfl ?_
        refine g_goto (tgt := 2) C dX2_showLike_44 (by decide) ?_
        first | (rw [← slH_e (H := H) h22, ← slS_e h22]; exact ih (i + 1, _) (by show i + 1 ≤ 12; omega) (by show 12 - (i + 1) < 12 - i; omega)) | (rw [slH_s h22, slS_s h22]; exact ih (i + 1, _) (by show i + 1 ≤ 12; omega) (by show 12 - (i + 1) < 12 - i; omega))
      · refine g_bipush (n := 34) (v := -2) C dX2_showLike_32 rfl rfl ?_
        refine g_goto (tgt := 38) C dX2_showLike_34 (by decide) ?_
        refine G.top (y := slG S2 i) (by unfold slG; first | exact (if_pos h29).symm | exact (if_neg h29).symm) ?_
        refine g_V (n := 41) (rest := []) C (k5_hold hE hl hL1 hh1 hs1 hv1 hsh hi _) dX2_showLike_38 kM_X2_hold kL_X2_53 kV_X2_hold (by assumption) rfl rfl rfl (Nat.le_of_ble_eq_true rfl) ⟨by decide, by decide⟩ ⟨by decide, by decide⟩ rfl (fun v9 L9 f9 hq => ?_)
        obtain ⟨rfl, rfl, rfl⟩ := hq
        rw [fL_hold hh1 hs1 hv1, fL_fL hsh (gH.apart hh hv (fun e => by cases e)) (gH.apart hs hv (fun e => by cases e))]
        refine G.sk (st' := []) rfl ?_
        refine g_iinc (n := 44) (ls' := [_, _, _, _]) C dX2_showLike_41 rfl (nI_1 _) rfl (by decide) rfl ?_
        refine g_goto (tgt := 2) C dX2_showLike_44 (by decide) ?_
        first | (rw [← slH_e (H := H) h22, ← slS_e h22]; exact ih (i + 1, _) (by show i + 1 ≤ 12; omega) (by show 12 - (i + 1) < 12 - i; omega)) | (rw [slH_s h22, slS_s h22]; exact ih (i + 1, _) (by show i + 1 ≤ 12; omega) (by show 12 - (i + 1) < 12 - i; omega))
theorem k5_holdLike {l : Launch} {s0 : State} {D : va_G} {cy : Nat → ClassId} (hE : gE s0 D cy) (hl : l.stackTraces = false) {L : List Nat} {f : gF} {a h s v : Nat} {nu pl ip : Int32} {pr mk : Option Nat} {H S V : Nat → Int32} (hL : gH L f a (.inr (2, [.int nu, va_rf pr, .int pl, .ref h, .ref s, .ref v, va_rf mk, .int ip]))) (hh : gH L f h (.inl (cy 0, 12, .inl H))) (hs : gH L f s (.inl (cy 0, 12, .inl S))) (hv : gH L f v (.inl (cy 0, 4, .inl V))) {a2 h2 s2 v2 : Nat} {nu2 pl2 ip2 : Int32} {pr2 mk2 : Option Nat} {H2 S2 V2 : Nat → Int32} (hL2 : gH L f a2 (.inr (2, [.int nu2, va_rf pr2, .int pl2, .ref h2, .ref s2, .ref v2, va_rf mk2, .int ip2]))) (hh2 : gH L f h2 (.inl (cy 0, 12, .inl H2))) (hs2 : gH L f s2 (.inl (cy 0, 12, .inl S2))) (hv2 : gH L f v2 (.inl (cy 0, 4, .inl V2))) (hsh : s ≠ h) (hsh2 : h2 ≠ h) (hss2 : s2 ≠ s) (hhs2 : h2 ≠ s) (hsh3 : s2 ≠ h) (hvv : v2 ≠ v) : gM l s0 D yX2_holdLike cX2_holdLike 5 none 3 0 0 [.ref a, .ref a2] L f (fun v9 L1 f1 => v9 = none ∧ L = L1 ∧ ∃ g, f1 = fL cy f h s v (hlH H2 S H 12) (hlS H2 S 12) g ∧ ∀ j, j < 4 → g j = V2 j) := by
  refine gM.of (own := RX2) hE hl (by decide +kernel) rfl rfl (Nat.le_of_ble_eq_true rfl) (fun p9 e9 s9 m9 a99 b99 t99 c9 C hr hnm => ?_)
  refine G.weak (ls' := [some (.ref a), some (.ref a2), none, none, none]) ?_ rfl (fun _ _ h => h)
  refine g_iconst (n := 1) (v := nI 0) C dX2_holdLike_0 rfl rfl ?_
  refine g_istore_n (n := 2) (ls' := [_, _, _, _, _]) C dX2_holdLike_1 rfl (by decide) rfl ?_
  refine g_loop (α := Nat × Option Value × Option Value) (fun z => z.1 ≤ 12) (fun z => 12 - z.1) (fun _ => L) (fun z => fL cy f h s v (hlH H2 S H z.1) (hlS H2 S z.1) V) (fun _ => 0) (fun _ => 0) 2 (fun z => [some (.ref a), some (.ref a2), some (.int (nI z.1)), z.2.1, z.2.2]) (fun _ => []) (fun z hz ih => ?_) (fun J => G.fx (by show fL cy f h s v (hlH H2 S H 0) (hlS H2 S 0) V = f; rw [hlH_0, hlS_0]; exact fL_id hh hs hv) (J (0, none, none) (Nat.zero_le _)))
  obtain ⟨i, o0, o1⟩ := z
  dsimp only at hz ih ⊢
  replace hz : i ≤ 12 := hz
  obtain ⟨hL1, hh1, hs1, hv1⟩ := ly_up hL hh hs hv hsh (hlH H2 S H i) (hlS H2 S i) V
  have hL3 := ly_in hL2 hh hs hv (hlH H2 S H i) (hlS H2 S i) V
  have hh3 := ly_ot (cy := cy) (H := H) (S := S) (V := V) hh2 hsh2 hhs2 (gH.apart hh2 hv (fun e => by cases e)) (hlH H2 S H i) (hlS H2 S i) V
  have hs3 := ly_ot (cy := cy) (H := H) (S := S) (V := V) hs2 hsh3 hss2 (gH.apart hs2 hv (fun e => by cases e)) (hlH H2 S H i) (hlS H2 S i) V
  have hv3 := ly_ot (cy := cy) (H := H) (S := S) (V := V) hv2 (gH.apart hv2 hh (fun e => by cases e)) (gH.apart hv2 hs (fun e => by cases e)) hvv (hlH H2 S H i) (hlS H2 S i) V
  refine g_iload_n (n := 3) C dX2_holdLike_2 rfl rfl ?_
  refine g_bipush (n := 5) (v := nI 12) C dX2_holdLike_3 rfl rfl ?_
  refine g_icmp_ge (n := 8) (tgt := 60) C dX2_holdLike_5 (by decide) rfl (fun h5 => ?_) (fun h5 => ?_)
  · have e9 : i = 12 := by have := gn_ge h5 (by decide) (by omega); omega
    subst e9
    refine g_aload_n (n := 61) C dX2_holdLike_60 rfl (Or.inr ⟨_, rfl⟩) rfl ?_
    refine g_aload_n (n := 62) C dX2_holdLike_61 rfl (Or.inr ⟨_, rfl⟩) rfl ?_
    refine g_V (n := 65) (rest := []) C (k5_assignLike hE hl hL1 hh1 hs1 hv1 hL3 hh3 hs3 hv3 hvv) dX2_holdLike_62 kM_X2_assignLike kL_X2_57 kV_X2_assignLike (by assumption) rfl rfl rfl (Nat.le_of_ble_eq_true rfl) ⟨by decide, by decide⟩ ⟨by decide, by decide⟩ rfl (fun v9 L9 f9 hq => ?_)
    obtain ⟨rfl, rfl, g, rfl, hg⟩ := hq
    refine G.sk (st' := []) rfl ?_
    refine g_vret C hr dX2_holdLike_65 ?_ ⟨by decide, by decide⟩
    refine ⟨rfl, rfl, g, ?_, hg⟩
    rw [fL_asg hh1 hs1]
    exact fL_fL hsh (gH.apart hh hv (fun e => by cases e)) (gH.apart hs hv (fun e => by cases e)) _ _ _ _ _ _
  · have hi : i < 12 := gn_gt h5 (by decide) (by omega)
    refine g_aload_n (n := 9) C dX2_holdLike_8 rfl (Or.inr ⟨_, rfl⟩) rfl ?_
    refine g_get (n := 12) C dX2_holdLike_9 kF_X2_9 (by assumption) rfl rfl ?_
    refine g_iload_n (n := 13) C dX2_holdLike_12 rfl rfl ?_
    refine g_iald (n := 14) C dX2_holdLike_13 (by assumption) rfl (by omega) (by decide) rfl ?_
    refine g_istore_n (n := 15) (ls' := [_, _, _, _, _]) C dX2_holdLike_14 rfl (by decide) rfl ?_
    refine g_iload_n (n := 16) C dX2_holdLike_15 rfl rfl ?_
    refine g_bipush (n := 18) (v := -2) C dX2_holdLike_16 rfl rfl ?_
    refine g_icmp_ne (n := 21) (tgt := 35) C dX2_holdLike_18 (by decide) rfl (fun h18 => ?_) (fun h18 => ?_)
    · refine g_iconst (n := 36) (v := nI 0) C dX2_holdLike_35 rfl rfl ?_
      refine g_istore (n := 38) (ls' := [_, _, _, _, _]) C dX2_holdLike_36 rfl (by decide) rfl ?_
      refine g_iload_n (n := 39) C dX2_holdLike_38 rfl rfl ?_
      refine g_iconst (n := 40) (v := -1) C dX2_holdLike_39 rfl rfl ?_
      refine g_icmp_eq (n := 43) (tgt := 54) C dX2_holdLike_40 (by decide) rfl (fun h40 => ?_) (fun h40 => ?_)
      · refine g_iinc (n := 57) (ls' := [_, _, _, _, _]) C dX2_holdLike_54 rfl (nI_1 _) rfl (by decide) rfl ?_
        refine g_goto (tgt := 2) C dX2_holdLike_57 (by decide) ?_
        first | exact absurd h45 (by decide) | exact absurd rfl h45 | (have hc : hlC H2 S i := ⟨h40, fun z => h18 z.1⟩; rw [hlH_s hc, hlS_s hc]; exact ih (i + 1, _, _) (by show i + 1 ≤ 12; omega) (by show 12 - (i + 1) < 12 - i; omega)) | (have hc : hlC H2 S i := ⟨h40, fun z => h28 z.2⟩; rw [hlH_s hc, hlS_s hc]; exact ih (i + 1, _, _) (by show i + 1 ≤ 12; omega) (by show 12 - (i + 1) < 12 - i; omega)) | (have hc : ¬ hlC H2 S i := fun z => z.1 h40; rw [← hlH_e (H := H) hc, ← hlS_e hc]; exact ih (i + 1, _, _) (by show i + 1 ≤ 12; omega) (by show 12 - (i + 1) < 12 - i; omega)) | (have hc : ¬ hlC H2 S i := fun z => z.2 ⟨h18, h28⟩; rw [← hlH_e (H := H) hc, ← hlS_e hc]; exact ih (i + 1, _, _) (by show i + 1 ≤ 12; omega) (by show 12 - (i + 1) < 12 - i; omega))
      · refine g_iload (n := 45) C dX2_holdLike_43 rfl rfl ?_
        refine g_if_ne (n := 48) (tgt := 54) C dX2_holdLike_45 (by decide) rfl (fun h45 => ?_) (fun h45 => ?_)
        · refine g_iinc (n := 57) (ls' := [_, _, _, _, _]) C dX2_holdLike_54 rfl (nI_1 _) rfl (by decide) rfl ?_
          refine g_goto (tgt := 2) C dX2_holdLike_57 (by decide) ?_
          first | exact absurd h45 (by decide) | exact absurd rfl h45 | (have hc : hlC H2 S i := ⟨h40, fun z => h18 z.1⟩; rw [hlH_s hc, hlS_s hc]; exact ih (i + 1, _, _) (by show i + 1 ≤ 12; omega) (by show 12 - (i + 1) < 12 - i; omega)) | (have hc : hlC H2 S i := ⟨h40, fun z => h28 z.2⟩; rw [hlH_s hc, hlS_s hc]; exact ih (i + 1, _, _) (by show i + 1 ≤ 12; omega) (by show 12 - (i + 1) < 12 - i; omega)) | (have hc : ¬ hlC H2 S i := fun z => z.1 h40; rw [← hlH_e (H := H) hc, ← hlS_e hc]; exact ih (i + 1, _, _) (by show i + 1 ≤ 12; omega) (by show 12 - (i + 1) < 12 - i; omega)) | (have hc : ¬ hlC H2 S i := fun z => z.2 ⟨h18, h28⟩; rw [← hlH_e (H := H) hc, ← hlS_e hc]; exact ih (i + 1, _, _) (by show i + 1 ≤ 12; omega) (by show 12 - (i + 1) < 12 - i; omega))
        · refine g_aload_n (n := 49) C dX2_holdLike_48 rfl (Or.inr ⟨_, rfl⟩) rfl ?_
          refine g_iload_n (n := 50) C dX2_holdLike_49 rfl rfl ?_
          refine g_iload_n (n := 51) C dX2_holdLike_50 rfl rfl ?_
          refine g_V (n := 54) (rest := []) C (k5_hold hE hl hL1 hh1 hs1 hv1 hsh hi _) dX2_holdLike_51 kM_X2_hold kL_X2_53 kV_X2_hold (by assumption) rfl rfl rfl (Nat.le_of_ble_eq_true rfl) ⟨by decide, by decide⟩ ⟨by decide, by decide⟩ rfl (fun v9 L9 f9 hq => ?_)
          obtain ⟨rfl, rfl, rfl⟩ := hq
          rw [fL_hold hh1 hs1 hv1, fL_fL hsh (gH.apart hh hv (fun e => by cases e)) (gH.apart hs hv (fun e => by cases e))]
          refine G.sk (st' := []) rfl ?_
          refine g_iinc (n := 57) (ls' := [_, _, _, _, _]) C dX2_holdLike_54 rfl (nI_1 _) rfl (by decide) rfl ?_
          refine g_goto (tgt := 2) C dX2_holdLike_57 (by decide) ?_
          first | exact absurd h45 (by decide) | exact absurd rfl h45 | (have hc : hlC H2 S i := ⟨h40, fun z => h18 z.1⟩; rw [hlH_s hc, hlS_s hc]; exact ih (i + 1, _, _) (by show i + 1 ≤ 12; omega) (by show 12 - (i + 1) < 12 - i; omega)) | (have hc : hlC H2 S i := ⟨h40, fun z => h28 z.2⟩; rw [hlH_s hc, hlS_s hc]; exact ih (i + 1, _, _) (by show i + 1 ≤ 12; omega) (by show 12 - (i + 1) < 12 - i; omega)) | (have hc : ¬ hlC H2 S i := fun z => z.1 h40; rw [← hlH_e (H := H) hc, ← hlS_e hc]; exact ih (i + 1, _, _) (by show i + 1 ≤ 12; omega) (by show 12 - (i + 1) < 12 - i; omega)) | (have hc : ¬ hlC H2 S i := fun z => z.2 ⟨h18, h28⟩; rw [← hlH_e (H := H) hc, ← hlS_e hc]; exact ih (i + 1, _, _) (by show i + 1 ≤ 12; omega) (by show 12 - (i + 1) < 12 - i; omega))
    · refine g_aload_n (n := 22) C dX2_holdLike_21 rfl (Or.inr ⟨_, rfl⟩) rfl ?_
      refine g_get (n := 25) C dX2_holdLike_22 kF_X2_15 (by assumption) rfl rfl ?_
      refine g_iload_n (n := 26) C dX2_holdLike_25 rfl rfl ?_
      refine g_iald (n := 27) C dX2_holdLike_26 (by assumption) rfl (by omega) (by decide) rfl ?_
      refine g_iconst (n := 28) (v := -1) C dX2_holdLike_27 rfl rfl ?_
      rw [hlS_i]
      refine g_icmp_ne (n := 31) (tgt := 35) C dX2_holdLike_28 (by decide) rfl (fun h28 => ?_) (fun h28 => ?_)
      · refine g_iconst (n := 36) (v := nI 0) C dX2_holdLike_35 rfl rfl ?_
        refine g_istore (n := 38) (ls' := [_, _, _, _, _]) C dX2_holdLike_36 rfl (by decide) rfl ?_
        refine g_iload_n (n := 39) C dX2_holdLike_38 rfl rfl ?_
        refine g_iconst (n := 40) (v := -1) C dX2_holdLike_39 rfl rfl ?_
        refine g_icmp_eq (n := 43) (tgt := 54) C dX2_holdLike_40 (by decide) rfl (fun h40 => ?_) (fun h40 => ?_)
        · refine g_iinc (n := 57) (ls' := [_, _, _, _, _]) C dX2_holdLike_54 rfl (nI_1 _) rfl (by decide) rfl ?_
          refine g_goto (tgt := 2) C dX2_holdLike_57 (by decide) ?_
          first | exact absurd h45 (by decide) | exact absurd rfl h45 | (have hc : hlC H2 S i := ⟨h40, fun z => h18 z.1⟩; rw [hlH_s hc, hlS_s hc]; exact ih (i + 1, _, _) (by show i + 1 ≤ 12; omega) (by show 12 - (i + 1) < 12 - i; omega)) | (have hc : hlC H2 S i := ⟨h40, fun z => h28 z.2⟩; rw [hlH_s hc, hlS_s hc]; exact ih (i + 1, _, _) (by show i + 1 ≤ 12; omega) (by show 12 - (i + 1) < 12 - i; omega)) | (have hc : ¬ hlC H2 S i := fun z => z.1 h40; rw [← hlH_e (H := H) hc, ← hlS_e hc]; exact ih (i + 1, _, _) (by show i + 1 ≤ 12; omega) (by show 12 - (i + 1) < 12 - i; omega)) | (have hc : ¬ hlC H2 S i := fun z => z.2 ⟨h18, h28⟩; rw [← hlH_e (H := H) hc, ← hlS_e hc]; exact ih (i + 1, _, _) (by show i + 1 ≤ 12; omega) (by show 12 - (i + 1) < 12 - i; omega))
        · refine g_iload (n := 45) C dX2_holdLike_43 rfl rfl ?_
          refine g_if_ne (n := 48) (tgt := 54) C dX2_holdLike_45 (by decide) rfl (fun h45 => ?_) (fun h45 => ?_)
          · refine g_iinc (n := 57) (ls' := [_, _, _, _, _]) C dX2_holdLike_54 rfl (nI_1 _) rfl (by decide) rfl ?_
            refine g_goto (tgt := 2) C dX2_holdLike_57 (by decide) ?_
            first | exact absurd h45 (by decide) | exact absurd rfl h45 | (have hc : hlC H2 S i := ⟨h40, fun z => h18 z.1⟩; rw [hlH_s hc, hlS_s hc]; exact ih (i + 1, _, _) (by show i + 1 ≤ 12; omega) (by show 12 - (i + 1) < 12 - i; omega)) | (have hc : hlC H2 S i := ⟨h40, fun z => h28 z.2⟩; rw [hlH_s hc, hlS_s hc]; exact ih (i + 1, _, _) (by show i + 1 ≤ 12; omega) (by show 12 - (i + 1) < 12 - i; omega)) | (have hc : ¬ hlC H2 S i := fun z => z.1 h40; rw [← hlH_e (H := H) hc, ← hlS_e hc]; exact ih (i + 1, _, _) (by show i + 1 ≤ 12; omega) (by show 12 - (i + 1) < 12 - i; omega)) | (have hc : ¬ hlC H2 S i := fun z => z.2 ⟨h18, h28⟩; rw [← hlH_e (H := H) hc, ← hlS_e hc]; exact ih (i + 1, _, _) (by show i + 1 ≤ 12; omega) (by show 12 - (i + 1) < 12 - i; omega))
          · refine g_aload_n (n := 49) C dX2_holdLike_48 rfl (Or.inr ⟨_, rfl⟩) rfl ?_
            refine g_iload_n (n := 50) C dX2_holdLike_49 rfl rfl ?_
            refine g_iload_n (n := 51) C dX2_holdLike_50 rfl rfl ?_
            refine g_V (n := 54) (rest := []) C (k5_hold hE hl hL1 hh1 hs1 hv1 hsh hi _) dX2_holdLike_51 kM_X2_hold kL_X2_53 kV_X2_hold (by assumption) rfl rfl rfl (Nat.le_of_ble_eq_true rfl) ⟨by decide, by decide⟩ ⟨by decide, by decide⟩ rfl (fun v9 L9 f9 hq => ?_)
            obtain ⟨rfl, rfl, rfl⟩ := hq
            rw [fL_hold hh1 hs1 hv1, fL_fL hsh (gH.apart hh hv (fun e => by cases e)) (gH.apart hs hv (fun e => by cases e))]
            refine G.sk (st' := []) rfl ?_
            refine g_iinc (n := 57) (ls' := [_, _, _, _, _]) C dX2_holdLike_54 rfl (nI_1 _) rfl (by decide) rfl ?_
            refine g_goto (tgt := 2) C dX2_holdLike_57 (by decide) ?_
            first | exact absurd h45 (by decide) | exact absurd rfl h45 | (have hc : hlC H2 S i := ⟨h40, fun z => h18 z.1⟩; rw [hlH_s hc, hlS_s hc]; exact ih (i + 1, _, _) (by show i + 1 ≤ 12; omega) (by show 12 - (i + 1) < 12 - i; omega)) | (have hc : hlC H2 S i := ⟨h40, fun z => h28 z.2⟩; rw [hlH_s hc, hlS_s hc]; exact ih (i + 1, _, _) (by show i + 1 ≤ 12; omega) (by show 12 - (i + 1) < 12 - i; omega)) | (have hc : ¬ hlC H2 S i := fun z => z.1 h40; rw [← hlH_e (H := H) hc, ← hlS_e hc]; exact ih (i + 1, _, _) (by show i + 1 ≤ 12; omega) (by show 12 - (i + 1) < 12 - i; omega)) | (have hc : ¬ hlC H2 S i := fun z => z.2 ⟨h18, h28⟩; rw [← hlH_e (H := H) hc, ← hlS_e hc]; exact ih (i + 1, _, _) (by show i + 1 ≤ 12; omega) (by show 12 - (i + 1) < 12 - i; omega))
      · refine g_iconst (n := 32) (v := nI 1) C dX2_holdLike_31 rfl rfl ?_
        refine g_goto (tgt := 36) C dX2_holdLike_32 (by decide) ?_
        refine g_istore (n := 38) (ls' := [_, _, _, _, _]) C dX2_holdLike_36 rfl (by decide) rfl ?_
        refine g_iload_n (n := 39) C dX2_holdLike_38 rfl rfl ?_
        refine g_iconst (n := 40) (v := -1) C dX2_holdLike_39 rfl rfl ?_
        refine g_icmp_eq (n := 43) (tgt := 54) C dX2_holdLike_40 (by decide) rfl (fun h40 => ?_) (fun h40 => ?_)
        · refine g_iinc (n := 57) (ls' := [_, _, _, _, _]) C dX2_holdLike_54 rfl (nI_1 _) rfl (by decide) rfl ?_
          refine g_goto (tgt := 2) C dX2_holdLike_57 (by decide) ?_
          first | exact absurd h45 (by decide) | exact absurd rfl h45 | (have hc : hlC H2 S i := ⟨h40, fun z => h18 z.1⟩; rw [hlH_s hc, hlS_s hc]; exact ih (i + 1, _, _) (by show i + 1 ≤ 12; omega) (by show 12 - (i + 1) < 12 - i; omega)) | (have hc : hlC H2 S i := ⟨h40, fun z => h28 z.2⟩; rw [hlH_s hc, hlS_s hc]; exact ih (i + 1, _, _) (by show i + 1 ≤ 12; omega) (by show 12 - (i + 1) < 12 - i; omega)) | (have hc : ¬ hlC H2 S i := fun z => z.1 h40; rw [← hlH_e (H := H) hc, ← hlS_e hc]; exact ih (i + 1, _, _) (by show i + 1 ≤ 12; omega) (by show 12 - (i + 1) < 12 - i; omega)) | (have hc : ¬ hlC H2 S i := fun z => z.2 ⟨h18, h28⟩; rw [← hlH_e (H := H) hc, ← hlS_e hc]; exact ih (i + 1, _, _) (by show i + 1 ≤ 12; omega) (by show 12 - (i + 1) < 12 - i; omega))
        · refine g_iload (n := 45) C dX2_holdLike_43 rfl rfl ?_
          refine g_if_ne (n := 48) (tgt := 54) C dX2_holdLike_45 (by decide) rfl (fun h45 => ?_) (fun h45 => ?_)
          · refine g_iinc (n := 57) (ls' := [_, _, _, _, _]) C dX2_holdLike_54 rfl (nI_1 _) rfl (by decide) rfl ?_
            refine g_goto (tgt := 2) C dX2_holdLike_57 (by decide) ?_
            first | exact absurd h45 (by decide) | exact absurd rfl h45 | (have hc : hlC H2 S i := ⟨h40, fun z => h18 z.1⟩; rw [hlH_s hc, hlS_s hc]; exact ih (i + 1, _, _) (by show i + 1 ≤ 12; omega) (by show 12 - (i + 1) < 12 - i; omega)) | (have hc : hlC H2 S i := ⟨h40, fun z => h28 z.2⟩; rw [hlH_s hc, hlS_s hc]; exact ih (i + 1, _, _) (by show i + 1 ≤ 12; omega) (by show 12 - (i + 1) < 12 - i; omega)) | (have hc : ¬ hlC H2 S i := fun z => z.1 h40; rw [← hlH_e (H := H) hc, ← hlS_e hc]; exact ih (i + 1, _, _) (by show i + 1 ≤ 12; omega) (by show 12 - (i + 1) < 12 - i; omega)) | (have hc : ¬ hlC H2 S i := fun z => z.2 ⟨h18, h28⟩; rw [← hlH_e (H := H) hc, ← hlS_e hc]; exact ih (i + 1, _, _) (by show i + 1 ≤ 12; omega) (by show 12 - (i + 1) < 12 - i; omega))
          · refine g_aload_n (n := 49) C dX2_holdLike_48 rfl (Or.inr ⟨_, rfl⟩) rfl ?_
            refine g_iload_n (n := 50) C dX2_holdLike_49 rfl rfl ?_
            refine g_iload_n (n := 51) C dX2_holdLike_50 rfl rfl ?_
            refine g_V (n := 54) (rest := []) C (k5_hold hE hl hL1 hh1 hs1 hv1 hsh hi _) dX2_holdLike_51 kM_X2_hold kL_X2_53 kV_X2_hold (by assumption) rfl rfl rfl (Nat.le_of_ble_eq_true rfl) ⟨by decide, by decide⟩ ⟨by decide, by decide⟩ rfl (fun v9 L9 f9 hq => ?_)
            obtain ⟨rfl, rfl, rfl⟩ := hq
            rw [fL_hold hh1 hs1 hv1, fL_fL hsh (gH.apart hh hv (fun e => by cases e)) (gH.apart hs hv (fun e => by cases e))]
            refine G.sk (st' := []) rfl ?_
            refine g_iinc (n := 57) (ls' := [_, _, _, _, _]) C dX2_holdLike_54 rfl (nI_1 _) rfl (by decide) rfl ?_
            refine g_goto (tgt := 2) C dX2_holdLike_57 (by decide) ?_
            first | exact absurd h45 (by decide) | exact absurd rfl h45 | (have hc : hlC H2 S i := ⟨h40, fun z => h18 z.1⟩; rw [hlH_s hc, hlS_s hc]; exact ih (i + 1, _, _) (by show i + 1 ≤ 12; omega) (by show 12 - (i + 1) < 12 - i; omega)) | (have hc : hlC H2 S i := ⟨h40, fun z => h28 z.2⟩; rw [hlH_s hc, hlS_s hc]; exact ih (i + 1, _, _) (by show i + 1 ≤ 12; omega) (by show 12 - (i + 1) < 12 - i; omega)) | (have hc : ¬ hlC H2 S i := fun z => z.1 h40; rw [← hlH_e (H := H) hc, ← hlS_e hc]; exact ih (i + 1, _, _) (by show i + 1 ≤ 12; omega) (by show 12 - (i + 1) < 12 - i; omega)) | (have hc : ¬ hlC H2 S i := fun z => z.2 ⟨h18, h28⟩; rw [← hlH_e (H := H) hc, ← hlS_e hc]; exact ih (i + 1, _, _) (by show i + 1 ≤ 12; omega) (by show 12 - (i + 1) < 12 - i; omega))
theorem k5_wasMadeBy {l : Launch} {s0 : State} {D : va_G} {cy : Nat → ClassId} (hE : gE s0 D cy) (hl : l.stackTraces = false) {L : List Nat} {f : gF} {a h s v : Nat} {nu pl ip : Int32} {pr mk : Option Nat} {H S V : Nat → Int32} (hL : gH L f a (.inr (2, [.int nu, va_rf pr, .int pl, .ref h, .ref s, .ref v, va_rf mk, .int ip]))) (hh : gH L f h (.inl (cy 0, 12, .inl H))) (hs : gH L f s (.inl (cy 0, 12, .inl S))) (hv : gH L f v (.inl (cy 0, 4, .inl V))) {i9 : Nat} {ki fi se : Int32} (hI : gH L f i9 (.inr (1, [.int ki, .int fi, .int se]))) {km fm sm : Int32} (hm : ∀ m, mk = some m → gH L f m (.inr (1, [.int km, .int fm, .int sm]))) (x : Int32) : gM l s0 D yX2_wasMadeBy cX2_wasMadeBy 3 (some .boolean) 2 0 0 [.ref a, .ref i9, .int x] L f (fun v L1 f1 => (∃ w, v = some (.int (nI w)) ∧ cdb (mk ≠ none ∧ km = ki ∧ fm = fi ∧ sm = se ∧ ip = x) w) ∧ L = L1 ∧ f = f1) := by
  refine gM.of (own := RX2) hE hl (by decide +kernel) rfl rfl (Nat.le_of_ble_eq_true rfl) (fun p9 e9 s9 m9 a99 b99 t99 c9 C hr hnm => ?_)
  refine G.weak (ls' := [some (.ref a), some (.ref i9), some (.int x)]) ?_ rfl (fun _ _ h => h)
  refine g_aload_n (n := 1) C dX2_wasMadeBy_0 rfl (Or.inr ⟨_, rfl⟩) rfl ?_
  refine g_get (n := 4) C dX2_wasMadeBy_1 kF_X2_39 (by assumption) rfl rfl ?_
  refine g_ifnull (n := 7) (tgt := 30) C dX2_wasMadeBy_4 (by decide) rfl (fun h4 => ?_) (fun a4 h4 => ?_)
  · refine g_iconst (n := 31) (v := nI 0) C dX2_wasMadeBy_30 rfl rfl ?_
    refine g_zret C hr rfl dX2_wasMadeBy_31 ?_ ⟨by decide, by decide⟩
    refine ⟨⟨_, rfl, ?_⟩, rfl, rfl⟩
    first | exact Or.inr ⟨rfl, fun z => z.1 h4⟩ | exact Or.inr ⟨rfl, fun z => h15 ⟨z.2.1, z.2.2.1, z.2.2.2.1⟩⟩ | exact Or.inr ⟨rfl, fun z => h23 z.2.2.2.2⟩ | exact Or.inl ⟨rfl, Option.some_ne_none _, h15.1, h15.2.1, h15.2.2, h23⟩
  · subst h4
    have hm1 := hm a4 rfl
    refine g_aload_n (n := 8) C dX2_wasMadeBy_7 rfl (Or.inr ⟨_, rfl⟩) rfl ?_
    refine g_get (n := 11) C dX2_wasMadeBy_8 kF_X2_39 (by assumption) rfl rfl ?_
    refine g_aload_n (n := 12) C dX2_wasMadeBy_11 rfl (Or.inr ⟨_, rfl⟩) rfl ?_
    show G _ _ _ _ _ _ _ _ _ _ _ _ _ _ _ _ _ _ _ _ (.ref i9 :: .ref a4 :: _)
    refine g_V (n := 15) (rest := []) C (k5_isSameAs hE hl hm1 hI) dX2_wasMadeBy_12 kM_X1_isSameAs kL_X2_49 kV_X1_isSameAs hm1 rfl rfl rfl (Nat.le_of_ble_eq_true rfl) ⟨by decide, by decide⟩ ⟨by decide, by decide⟩ rfl (fun v9 L9 f9 hq => ?_)
    obtain ⟨⟨w8, rfl, hw8⟩, rfl, rfl⟩ := hq
    refine G.sk (st' := [_]) rfl ?_
    refine g_if_eq (n := 18) (tgt := 30) C dX2_wasMadeBy_15 (by decide) rfl (fun h15 => ?_) (fun h15 => ?_)
    · have h15 := cdb_f hw8 h15
      refine g_iconst (n := 31) (v := nI 0) C dX2_wasMadeBy_30 rfl rfl ?_
      refine g_zret C hr rfl dX2_wasMadeBy_31 ?_ ⟨by decide, by decide⟩
      refine ⟨⟨_, rfl, ?_⟩, rfl, rfl⟩
      first | exact Or.inr ⟨rfl, fun z => z.1 h4⟩ | exact Or.inr ⟨rfl, fun z => h15 ⟨z.2.1, z.2.2.1, z.2.2.2.1⟩⟩ | exact Or.inr ⟨rfl, fun z => h23 z.2.2.2.2⟩ | exact Or.inl ⟨rfl, Option.some_ne_none _, h15.1, h15.2.1, h15.2.2, h23⟩
    · have h15 := cdb_t hw8 h15
      refine g_aload_n (n := 19) C dX2_wasMadeBy_18 rfl (Or.inr ⟨_, rfl⟩) rfl ?_
      refine g_get (n := 22) C dX2_wasMadeBy_19 kF_X2_21 (by assumption) rfl rfl ?_
      refine g_iload_n (n := 23) C dX2_wasMadeBy_22 rfl rfl ?_
      refine g_icmp_ne (n := 26) (tgt := 30) C dX2_wasMadeBy_23 (by decide) rfl (fun h23 => ?_) (fun h23 => ?_)
      · refine g_iconst (n := 31) (v := nI 0) C dX2_wasMadeBy_30 rfl rfl ?_
        refine g_zret C hr rfl dX2_wasMadeBy_31 ?_ ⟨by decide, by decide⟩
        refine ⟨⟨_, rfl, ?_⟩, rfl, rfl⟩
        first | exact Or.inr ⟨rfl, fun z => z.1 h4⟩ | exact Or.inr ⟨rfl, fun z => h15 ⟨z.2.1, z.2.2.1, z.2.2.2.1⟩⟩ | exact Or.inr ⟨rfl, fun z => h23 z.2.2.2.2⟩ | exact Or.inl ⟨rfl, Option.some_ne_none _, h15.1, h15.2.1, h15.2.2, h23⟩
      · refine g_iconst (n := 27) (v := nI 1) C dX2_wasMadeBy_26 rfl rfl ?_
        refine g_goto (tgt := 31) C dX2_wasMadeBy_27 (by decide) ?_
        refine g_zret C hr rfl dX2_wasMadeBy_31 ?_ ⟨by decide, by decide⟩
        refine ⟨⟨_, rfl, ?_⟩, rfl, rfl⟩
        first | exact Or.inr ⟨rfl, fun z => z.1 h4⟩ | exact Or.inr ⟨rfl, fun z => h15 ⟨z.2.1, z.2.2.1, z.2.2.2.1⟩⟩ | exact Or.inr ⟨rfl, fun z => h23 z.2.2.2.2⟩ | exact Or.inl ⟨rfl, Option.some_ne_none _, h15.1, h15.2.1, h15.2.2, h23⟩
theorem k5_becomeMadeBy {l : Launch} {s0 : State} {D : va_G} {cy : Nat → ClassId} (hE : gE s0 D cy) (hl : l.stackTraces = false) {L : List Nat} {f : gF} {a h s v : Nat} {nu pl ip : Int32} {pr mk : Option Nat} {H S V : Nat → Int32} (hL : gH L f a (.inr (2, [.int nu, va_rf pr, .int pl, .ref h, .ref s, .ref v, va_rf mk, .int ip]))) (hh : gH L f h (.inl (cy 0, 12, .inl H))) (hs : gH L f s (.inl (cy 0, 12, .inl S))) (hv : gH L f v (.inl (cy 0, 4, .inl V))) {i9 : Nat} {ki fi se : Int32} (hI : gH L f i9 (.inr (1, [.int ki, .int fi, .int se]))) (hsh : s ≠ h) (hV : vIns ki fi se) (x : Int32) : gM l s0 D yX2_becomeMadeBy cX2_becomeMadeBy 3 none 4 0 0 [.ref a, .ref i9, .int x] L f (fun v9 L1 f1 => v9 = none ∧ L = L1 ∧ ∃ H1 S1 V1, f1 = fL cy (va_up f a (.inr (2, [.int nu, va_rf pr, .int pl, .ref h, .ref s, .ref v, .ref i9, .int x]))) h s v H1 S1 V1 ∧ caR ki fi se x H S V H1 S1 V1) := by
  refine gM.of (own := RX2) hE hl (by decide +kernel) rfl rfl (Nat.le_of_ble_eq_true rfl) (fun p9 e9 s9 m9 a99 b99 t99 c9 C hr hnm => ?_)
  refine G.weak (ls' := [some (.ref a), some (.ref i9), some (.int x)]) ?_ rfl (fun _ _ h => h)
  refine g_aload_n (n := 1) C dX2_becomeMadeBy_0 rfl (Or.inr ⟨_, rfl⟩) rfl ?_
  refine g_aload_n (n := 2) C dX2_becomeMadeBy_1 rfl (Or.inr ⟨_, rfl⟩) rfl ?_
  refine g_put (n := 5) C dX2_becomeMadeBy_2 kP_X2_39 hL ⟨rfl, rfl⟩ (Nat.le_of_ble_eq_true rfl) rfl ?_
  refine g_aload_n (n := 6) C dX2_becomeMadeBy_5 rfl (Or.inr ⟨_, rfl⟩) rfl ?_
  refine g_iload_n (n := 7) C dX2_becomeMadeBy_6 rfl rfl ?_
  refine g_put (n := 10) C dX2_becomeMadeBy_7 kP_X2_21 hL.up ⟨rfl, rfl⟩ (Nat.le_of_ble_eq_true rfl) rfl ?_
  rw [up_up]
  have ai : i9 ≠ a := gH.apart hI hL (fun e => by cases e)
  have hL1 := hL.up (e1 := .inr (2, [.int nu, va_rf pr, .int pl, .ref h, .ref s, .ref v, .ref i9, .int x]))
  have hI1 := hI.ne (e1 := .inr (2, [.int nu, va_rf pr, .int pl, .ref h, .ref s, .ref v, .ref i9, .int x])) ai
  have hh1 := hh.ne (e1 := .inr (2, [.int nu, va_rf pr, .int pl, .ref h, .ref s, .ref v, .ref i9, .int x])) (gH.apart hh hL (fun e => by cases e))
  have hs1 := hs.ne (e1 := .inr (2, [.int nu, va_rf pr, .int pl, .ref h, .ref s, .ref v, .ref i9, .int x])) (gH.apart hs hL (fun e => by cases e))
  have hv1 := hv.ne (e1 := .inr (2, [.int nu, va_rf pr, .int pl, .ref h, .ref s, .ref v, .ref i9, .int x])) (gH.apart hv hL (fun e => by cases e))
  refine g_aload_n (n := 11) C dX2_becomeMadeBy_10 rfl (Or.inr ⟨_, rfl⟩) rfl ?_
  refine g_aload_n (n := 12) C dX2_becomeMadeBy_11 rfl (Or.inr ⟨_, rfl⟩) rfl ?_
  refine g_iload_n (n := 13) C dX2_becomeMadeBy_12 rfl rfl ?_
  refine g_V (n := 16) (rest := []) C (k5_carryOut (mk := some i9) hE hl hI1 hL1 hh1 hs1 hv1 hsh hV _) dX2_becomeMadeBy_13 kM_X1_carryOut kL_X2_43 kV_X1_carryOut hI1 rfl rfl rfl (Nat.le_of_ble_eq_true rfl) ⟨by decide, by decide⟩ ⟨by decide, by decide⟩ rfl (fun v9 L9 f9 hq => ?_)
  obtain ⟨rfl, rfl, H1, S1, V1, rfl, hca⟩ := hq
  refine G.sk (st' := []) rfl ?_
  refine g_vret C hr dX2_becomeMadeBy_16 ?_ ⟨by decide, by decide⟩
  exact ⟨rfl, rfl, H1, S1, V1, rfl, hca⟩

/-! ===== the law, V: its loop ===== -/
theorem lw_end {N j : Nat} (hN : N ≤ 2048) (hj : j ≤ 2048) (h : ¬ nI N - nI 4 < nI j) : j + 4 ≤ N := by
  by_cases h4 : 4 ≤ N
  · rw [gn_sub h4] at h
    have := (nI_ltI (a := N - 4) (b := j) (by omega) (by omega))
    have h2 : ¬ N - 4 < j := fun q => h (this.mpr q)
    omega
  · refine absurd ?_ h
    rw [gn_lt, nI_toInt (n := j) (by omega)]
    rcases (show N = 0 ∨ N = 1 ∨ N = 2 ∨ N = 3 by omega) with rfl | rfl | rfl | rfl
    · rw [show (nI 0 - nI 4).toInt = -4 by decide]; omega
    · rw [show (nI 1 - nI 4).toInt = -3 by decide]; omega
    · rw [show (nI 2 - nI 4).toInt = -2 by decide]; omega
    · rw [show (nI 3 - nI 4).toInt = -1 by decide]; omega
theorem lw_case (v : Int32) : (∃ k, k < 33 ∧ v = nI k) ∨ (v.toInt < 0 ∨ 32 < v.toInt) := by
  by_cases h : gin v 33
  · obtain ⟨k, hk, e⟩ := h
    exact Or.inl ⟨k, hk, e⟩
  · refine Or.inr ?_
    have h2 := fun z => h ((gin_iff (by decide)).mp z)
    rw [gn_le, gn_lt] at h2
    have e0 : (0 : Int32).toInt = 0 := by decide
    have e33 : (nI 33).toInt = 33 := by decide
    rw [e0, e33] at h2
    by_cases z : 0 ≤ v.toInt
    · exact Or.inr (by have := Int.not_lt.mp (fun q => h2 ⟨z, q⟩); omega)
    · exact Or.inl (by omega)
def D6 : List Value := mFp 0 (fun _ => 0) (fun _ => 0)
theorem hD6 : ∀ j, j < 32 → defaultValue (tyX6 j) = vp_V D6 j := by
  intro j hj
  rcases (show j = 0 ∨ j = 1 ∨ j = 2 ∨ j = 3 ∨ j = 4 ∨ j = 5 ∨ j = 6 ∨ j = 7 ∨ j = 8 ∨ j = 9 ∨ j = 10 ∨ j = 11 ∨ j = 12 ∨ j = 13 ∨ j = 14 ∨ j = 15 ∨ j = 16 ∨ j = 17 ∨ j = 18 ∨ j = 19 ∨ j = 20 ∨ j = 21 ∨ j = 22 ∨ j = 23 ∨ j = 24 ∨ j = 25 ∨ j = 26 ∨ j = 27 ∨ j = 28 ∨ j = 29 ∨ j = 30 ∨ j = 31 by omega) with rfl | rfl | rfl | rfl | rfl | rfl | rfl | rfl | rfl | rfl | rfl | rfl | rfl | rfl | rfl | rfl | rfl | rfl | rfl | rfl | rfl | rfl | rfl | rfl | rfl | rfl | rfl | rfl | rfl | rfl | rfl | rfl <;> rfl
section GLAW5
variable {p : Program} {l : Launch} {e : Env} {R : Room} {s : State} {m : MethodId} {args : Array Value} {below : List Frame} {meth : Method} {c : Code} {Q : State → Prop}
variable {s0 : State} {D : va_G} {cy : Nat → ClassId} {L0 : List Nat} {nL : Nat} {cc : ByteArray} {own : String} {L : List Nat} {f : gF} {ce sl pc n : Nat} {ls : List (Option Value)} {st : List Value}
theorem G.swap3 {K1 K2 K3 : List Nat} (k : G p l e R s m args below meth c Q D L0 nL ((K1 ++ K3) ++ K2) f ce sl pc ls (st)) : G p l e R s m args below meth c Q D L0 nL ((K1 ++ K2) ++ K3) f ce sl pc ls (st) := by
  intro H locs la hP hD hS hl
  rw [va_pl_app, va_pl_app] at hP hD
  have h1 := va_P.swap (a := va_pl K1 f) (b := va_pl K2 f) (c := va_pl K3 f) hP
  have h2 := va_D.swap (a := va_pl K1 f) (b := va_pl K2 f) (c := va_pl K3 f) hD
  rw [← va_pl_app, ← va_pl_app] at h1 h2
  exact k H locs la h1 h2 hS hl
end GLAW5
section LLOOP
variable {p : Program} {l : Launch} {e : Env} {s : State} {m : MethodId} {args : Array Value} {below : List Frame} {meth : Method} {c : Code} {Q : State → Prop} {s0 : State} {D : va_G} {cy : Nat → ClassId}
theorem lw_loop (C : gC p l e room_1 s m args below meth c s0 D cy [] code 7 RL) (hN : gN9 s0) {b9 N : Nat} {xs : Nat → Int32} (hX : va_X b9 N xs s s.heap) (hbl : b9 < s.heap.size) (hN9 : N ≤ 2048) {co mo q9 : Nat} {Lm : List Nat} (hfin : ∀ (j : Nat) (Lc : List Nat) (f : gF) (A : Nat → Nat → Int32) (I : Nat → Int32) (o5 o6 : Option Value), 4 * j ≤ 2048 → LWD cy co mo q9 A I Lc Lm f → G p l e room_1 s m args below meth c Q D [] 7 ((Lc ++ [q9]) ++ Lm) f (46 + 57 * j) (10486 + 474 * j) 2027 [some (.ref b9), some (.ref co), some (.ref mo), some (.ref q9), some (.int (nI (4 * j))), o5, o6] ([]))
    {Lc : List Nat} {f : gF} {A : Nat → Nat → Int32} {I : Nat → Int32} (hw : LWD cy co mo q9 A I Lc Lm f) : G p l e room_1 s m args below meth c Q D [] 7 ((Lc ++ [q9]) ++ Lm) f 46 10486 23 [some (.ref b9), some (.ref co), some (.ref mo), some (.ref q9), some (.int (nI (4 * 0))), none, none] ([]) := by
  refine g_loop (α := Nat × List Nat × gF × (Nat → Nat → Int32) × (Nat → Int32) × Option Value × Option Value) (fun z => 4 * z.1 ≤ N ∧ LWD cy co mo q9 z.2.2.2.1 z.2.2.2.2.1 z.2.1 Lm z.2.2.1) (fun z => N - z.1) (fun z => (z.2.1 ++ [q9]) ++ Lm) (fun z => z.2.2.1) (fun z => 46 + 57 * z.1) (fun z => 10486 + 474 * z.1) 23 (fun z => [some (.ref b9), some (.ref co), some (.ref mo), some (.ref q9), some (.int (nI (4 * z.1))), z.2.2.2.2.2.1, z.2.2.2.2.2.2]) (fun _ => []) (fun z hz ih => ?_) (fun J => J (0, Lc, f, A, I, none, none) ⟨Nat.zero_le _, hw⟩)
  obtain ⟨j, Lc, f, A, I, o5, o6⟩ := z
  obtain ⟨hj, hw⟩ := hz
  dsimp only at hj hw ih ⊢
  refine g_iload (n := 25) C dL_law_23 rfl rfl ?_
  refine g_aload_n (n := 26) C dL_law_25 rfl (Or.inr ⟨_, rfl⟩) rfl ?_
  refine g_slen9 (n := 27) C hX hbl List.not_mem_nil dL_law_26 rfl ?_
  refine g_iconst (n := 28) (v := nI 4) C dL_law_27 rfl rfl ?_
  refine g_isub (n := 29) C dL_law_28 rfl ?_
  refine g_icmp_gt (n := 32) (tgt := 2027) C dL_law_29 (by decide) rfl (fun h29 => ?_) (fun h29 => ?_)
  · exact hfin j Lc f A I o5 o6 (by omega) hw
  · have hj4 := lw_end hN9 (by omega) h29
    refine g_aload_n (n := 33) C dL_law_32 rfl (Or.inr ⟨_, rfl⟩) rfl ?_
    refine g_iload (n := 35) C dL_law_33 rfl rfl ?_
    refine g_sld (n := 36) (j := 4 * j) C hX hbl List.not_mem_nil dL_law_35 rfl (by omega) (by omega) rfl ?_
    refine g_bipush (n := 38) (v := nI 63) C dL_law_36 rfl rfl ?_
    refine g_iand (n := 39) C dL_law_38 rfl ?_
    generalize xs (4 * j) &&& nI 63 = v
    have kk : ∀ (Lc1 : List Nat) (f1 : gF) (A1 : Nat → Nat → Int32) (I1 : Nat → Int32), LWD cy co mo q9 A1 I1 Lc1 Lm f1 → G p l e room_1 s m args below meth c Q D [] 7 ((Lc1 ++ [q9]) ++ Lm) f1 (46 + 57 * j + 57) (10486 + 474 * j + 474) 2021 [some (.ref b9), some (.ref co), some (.ref mo), some (.ref q9), some (.int (nI (4 * j))), none, none] ([]) := by
      intro Lc1 f1 A1 I1 hw1
      refine g_iinc (n := 2024) (ls' := [_, _, _, _, _, _, _]) C dL_law_2021 rfl (nI_add (4 * j) 4) rfl (by decide) rfl ?_
      refine g_goto (tgt := 23) C dL_law_2024 (by decide) ?_
      exact G.mono (ce' := 46 + 57 * (j + 1)) (sl' := 10486 + 474 * (j + 1)) (by omega) (by omega) (ih (j + 1, Lc1, f1, A1, I1, none, none) ⟨by show 4 * (j + 1) ≤ N; omega, hw1⟩ (by show N - (j + 1) < N - j; omega))
    refine G.weak (ls' := [some (.ref b9), some (.ref co), some (.ref mo), some (.ref q9), some (.int (nI (4 * j))), none, none]) ?_ rfl lw_weak
    rcases lw_case v with ⟨k, hk, rfl⟩ | hv
    · rcases (show k = 0 ∨ k = 1 ∨ k = 2 ∨ k = 3 ∨ k = 4 ∨ k = 5 ∨ k = 6 ∨ k = 7 ∨ k = 8 ∨ k = 9 ∨ k = 10 ∨ k = 11 ∨ k = 12 ∨ k = 13 ∨ k = 14 ∨ k = 15 ∨ k = 16 ∨ k = 17 ∨ k = 18 ∨ k = 19 ∨ k = 20 ∨ k = 21 ∨ k = 22 ∨ k = 23 ∨ k = 24 ∨ k = 25 ∨ k = 26 ∨ k = 27 ∨ k = 28 ∨ k = 29 ∨ k = 30 ∨ k = 31 ∨ k = 32 by omega) with rfl | rfl | rfl | rfl | rfl | rfl | rfl | rfl | rfl | rfl | rfl | rfl | rfl | rfl | rfl | rfl | rfl | rfl | rfl | rfl | rfl | rfl | rfl | rfl | rfl | rfl | rfl | rfl | rfl | rfl | rfl | rfl | rfl
      · exact g_tableIn (tgt := 184) C dL_law_39 (by decide) (by decide) rfl (by decide) (lc_setFile C hN hX hbl hN9 hj4 hw (by omega) (by omega) kk)
      · exact g_tableIn (tgt := 252) C dL_law_39 (by decide) (by decide) rfl (by decide) (lc_setBase C hN hX hbl hN9 hj4 hw (by omega) (by omega) kk)
      · exact g_tableIn (tgt := 332) C dL_law_39 (by decide) (by decide) rfl (by decide) (lc_reset C hN hX hbl hN9 hj4 hw (by omega) (by omega) kk)
      · exact g_tableIn (tgt := 400) C dL_law_39 (by decide) (by decide) rfl (by decide) (lc_addCopy C hN hX hbl hN9 hj4 hw (by omega) (by omega) kk)
      · exact g_tableIn (tgt := 480) C dL_law_39 (by decide) (by decide) rfl (by decide) (lc_addRun C hN hX hbl hN9 hj4 hw (by omega) (by omega) kk)
      · exact g_tableIn (tgt := 560) C dL_law_39 (by decide) (by decide) rfl (by decide) (lc_addMove C hN hX hbl hN9 hj4 hw (by omega) (by omega) kk)
      · exact g_tableIn (tgt := 640) C dL_law_39 (by decide) (by decide) rfl (by decide) (lc_addRemove C hN hX hbl hN9 hj4 hw (by omega) (by omega) kk)
      · exact g_tableIn (tgt := 708) C dL_law_39 (by decide) (by decide) rfl (by decide) (lc_addSet C hN hX hbl hN9 hj4 hw (by omega) (by omega) kk)
      · exact g_tableIn (tgt := 788) C dL_law_39 (by decide) (by decide) rfl (by decide) (lc_drop C hN hX hbl hN9 hj4 hw (by omega) (by omega) kk)
      · exact g_tableIn (tgt := 856) C dL_law_39 (by decide) (by decide) rfl (by decide) (lc_instructions C hN hX hbl hN9 hj4 hw (by omega) (by omega) kk)
      · exact g_tableIn (tgt := 912) C dL_law_39 (by decide) (by decide) rfl (by decide) (lc_start C hN hX hbl hN9 hj4 hw (by omega) (by omega) kk)
      · exact g_tableIn (tgt := 968) C dL_law_39 (by decide) (by decide) rfl (by decide) (lc_step C hN hX hbl hN9 hj4 hw (by omega) (by omega) kk)
      · exact g_tableIn (tgt := 1012) C dL_law_39 (by decide) (by decide) rfl (by decide) (lc_build C hN hX hbl hN9 hj4 hw (by omega) (by omega) kk)
      · exact g_tableIn (tgt := 1068) C dL_law_39 (by decide) (by decide) rfl (by decide) (lc_stepsLeft C hN hX hbl hN9 hj4 hw (by omega) (by omega) kk)
      · exact g_tableIn (tgt := 1081) C dL_law_39 (by decide) (by decide) rfl (by decide) (lc_built C hN hX hbl hN9 hj4 hw (by omega) (by omega) kk)
      · exact g_tableIn (tgt := 1094) C dL_law_39 (by decide) (by decide) rfl (by decide) (lc_hits C hN hX hbl hN9 hj4 hw (by omega) (by omega) kk)
      · exact g_tableIn (tgt := 1107) C dL_law_39 (by decide) (by decide) rfl (by decide) (lc_misses C hN hX hbl hN9 hj4 hw (by omega) (by omega) kk)
      · exact g_tableIn (tgt := 1120) C dL_law_39 (by decide) (by decide) rfl (by decide) (lc_cleanDigest C hN hX hbl hN9 hj4 hw (by omega) (by omega) kk)
      · exact g_tableIn (tgt := 1176) C dL_law_39 (by decide) (by decide) rfl (by decide) (lc_tag C hN hX hbl hN9 hj4 hw (by omega) (by omega) kk)
      · exact g_tableIn (tgt := 1232) C dL_law_39 (by decide) (by decide) rfl (by decide) (lc_untag C hN hX hbl hN9 hj4 hw (by omega) (by omega) kk)
      · exact g_tableIn (tgt := 1288) C dL_law_39 (by decide) (by decide) rfl (by decide) (lc_tagged C hN hX hbl hN9 hj4 hw (by omega) (by omega) kk)
      · exact g_tableIn (tgt := 1344) C dL_law_39 (by decide) (by decide) rfl (by decide) (lc_squash C hN hX hbl hN9 hj4 hw (by omega) (by omega) kk)
      · exact g_tableIn (tgt := 1412) C dL_law_39 (by decide) (by decide) rfl (by decide) (lc_rebase C hN hX hbl hN9 hj4 hw (by omega) (by omega) kk)
      · exact g_tableIn (tgt := 1480) C dL_law_39 (by decide) (by decide) rfl (by decide) (lc_prune C hN hX hbl hN9 hj4 hw (by omega) (by omega) kk)
      · exact g_tableIn (tgt := 1524) C dL_law_39 (by decide) (by decide) rfl (by decide) (lc_layers C hN hX hbl hN9 hj4 hw (by omega) (by omega) kk)
      · exact g_tableIn (tgt := 1537) C dL_law_39 (by decide) (by decide) rfl (by decide) (lc_parentOf C hN hX hbl hN9 hj4 hw (by omega) (by omega) kk)
      · exact g_tableIn (tgt := 1593) C dL_law_39 (by decide) (by decide) rfl (by decide) (lc_sizeOf C hN hX hbl hN9 hj4 hw (by omega) (by omega) kk)
      · exact g_tableIn (tgt := 1649) C dL_law_39 (by decide) (by decide) rfl (by decide) (lc_heldAt C hN hX hbl hN9 hj4 hw (by omega) (by omega) kk)
      · exact g_tableIn (tgt := 1717) C dL_law_39 (by decide) (by decide) rfl (by decide) (lc_shownAt C hN hX hbl hN9 hj4 hw (by omega) (by omega) kk)
      · exact g_tableIn (tgt := 1785) C dL_law_39 (by decide) (by decide) rfl (by decide) (lc_variable C hN hX hbl hN9 hj4 hw (by omega) (by omega) kk)
      · exact g_tableIn (tgt := 1853) C dL_law_39 (by decide) (by decide) rfl (by decide) (lc_depth C hN hX hbl hN9 hj4 hw (by omega) (by omega) kk)
      · exact g_tableIn (tgt := 1909) C dL_law_39 (by decide) (by decide) rfl (by decide) (lc_imageSize C hN hX hbl hN9 hj4 hw (by omega) (by omega) kk)
      · exact g_tableIn (tgt := 1965) C dL_law_39 (by decide) (by decide) rfl (by decide) (lc_digest C hN hX hbl hN9 hj4 hw (by omega) (by omega) kk)
    · refine g_tableOut (tgt := 2021) C dL_law_39 hv (by decide) ?_
      exact G.mono (ce' := 46 + 57 * j + 57) (sl' := 10486 + 474 * j + 474) (by omega) (by omega) (kk Lc f A I hw)
end LLOOP

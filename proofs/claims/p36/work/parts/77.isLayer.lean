/-! ===== the law, V: a layer ===== -/
theorem l_isLayer_r {l : Launch} {s0 : State} {D : va_G} {cy : Nat → ClassId} (hE : gE s0 D cy) (hl : l.stackTraces = false) {L : List Nat} {f : gF} (hN : gN9 s0) {co n : Nat} {PR PL : Nat → Nat} {S A : Nat → Nat → Int32} {I : Nat → Int32} (h : CX cy co n PR PL S A I L f) (hi : INV A n PR S) {k : Nat} (hk : k < n) (h8 : A 8 k = 0) (hz : PR k = 0) : gM l s0 D yL_isLayer cL_isLayer 10 (some .boolean) 10 8 48 [.ref co, .int (nI k)] L f (fun v L1 f1 => v = some (.int 1) ∧ L = L1 ∧ f = f1) := by
  refine gM.of (own := RL) hE hl (by decide +kernel) rfl rfl (Nat.le_of_ble_eq_true rfl) (fun p9 e9 s9 m9 a99 b99 t99 c9 C hr hnm => ?_)
  refine G.weak (ls' := [some (.ref co), some (.int (nI k)), none, none, none, none, none, none, none, none]) ?_ rfl (fun _ _ h => h)
  obtain ⟨i7, hn9, hPR, hsh, hpl, hpb, hlv⟩ := h.nv
  have hpar : ∀ k, k < n → PR k ≤ k := fun k hk => (hPR k hk).1
  have hle := hpar k hk
  refine g_aload_n (n := 1) C dL_isLayer_0 rfl (Or.inr ⟨_, rfl⟩) rfl ?_
  refine g_iload_n (n := 2) C dL_isLayer_1 rfl rfl ?_
  refine g_V (n := 5) (rest := []) C (z_parentOf hE hl h (mc := 0) (ms := 0) hk h8) dL_isLayer_2 kM_X5_parentOf kL_L_80 kV_X5_parentOf h.co.choose_spec rfl rfl rfl (Nat.le_of_ble_eq_true rfl) ⟨by decide, by decide⟩ ⟨by first | omega | (simp only [gRm]; omega), by first | omega | (simp only [gRm]; omega)⟩ rfl (fun v9 L9 f9 hq => ?_)
  obtain ⟨rfl, rfl, rfl⟩ := hq
  refine G.sk (st' := [_]) rfl ?_
  refine G.top (y := -1) (by rw [hz]; rfl) ?_
  refine g_istore_n (n := 6) (ls' := [_, _, _, _, _, _, _, _, _, _]) C dL_isLayer_5 rfl (by decide) rfl ?_
  refine g_iconst (n := 7) (v := nI 0) C dL_isLayer_6 rfl rfl ?_
  refine g_istore_n (n := 8) (ls' := [_, _, _, _, _, _, _, _, _, _]) C dL_isLayer_7 rfl (by decide) rfl ?_
  refine g_iconst (n := 9) (v := nI 1) C dL_isLayer_8 rfl rfl ?_
  refine g_istore (n := 11) (ls' := [_, _, _, _, _, _, _, _, _, _]) C dL_isLayer_9 rfl (by decide) rfl ?_
  refine g_iload_n (n := 12) C dL_isLayer_11 rfl rfl ?_
  refine g_iload_n (n := 13) C dL_isLayer_12 rfl rfl ?_
  refine g_icmp_ge (n := 16) (tgt := 36) C dL_isLayer_13 (by decide) rfl (fun h13 => absurd h13 (by exact pI_lt (m := 0) (by omega) (by omega))) (fun h13 => ?_)
  refine g_iload_n (n := 17) C dL_isLayer_16 rfl rfl ?_
  refine g_if_lt (n := 20) (tgt := 32) C dL_isLayer_17 (by decide) rfl (fun h17 => ?_) (fun h17 => absurd (show (-1 : Int32) < 0 by decide) h17)
  refine g_iconst (n := 33) (v := nI 1) C dL_isLayer_32 rfl rfl ?_
  refine g_goto (tgt := 37) C dL_isLayer_33 (by decide) ?_
  refine g_istore (n := 39) (ls' := [_, _, _, _, _, _, _, _, _, _]) C dL_isLayer_37 rfl (by decide) rfl ?_
  refine g_iconst (n := 40) (v := nI 0) C dL_isLayer_39 rfl rfl ?_
  refine g_istore (n := 42) (ls' := [_, _, _, _, _, _, _, _, _, _]) C dL_isLayer_40 rfl (by decide) rfl ?_
  refine g_loop (α := Nat) (fun i => i ≤ 12) (fun i => 12 - i) (fun _ => L) (fun _ => f) (fun _ => 0) (fun _ => 0) 42 (fun i => [some (.ref co), some (.int (nI k)), some (.int (-1)), some (.int (nI (szN A k i))), some (.int (dgF (S k) i)), some (.int (nI 1)), some (.int (nI i)), none, none, none]) (fun _ => []) (fun i hi99 ih => ?_) (fun J => J 0 (Nat.zero_le _))
  refine g_iload (n := 44) C dL_isLayer_42 rfl rfl ?_
  refine g_bipush (n := 46) (v := nI 12) C dL_isLayer_44 rfl rfl ?_
  refine g_icmp_ge (n := 49) (tgt := 200) C dL_isLayer_46 (by decide) rfl (fun h46 => ?_) (fun h46 => ?_)
  · have e9 : i = 12 := by have := gn_ge h46 (by decide) (by omega); omega
    subst e9
    refine g_iconst (n := 201) (v := nI 0) C dL_isLayer_200 rfl rfl ?_
    refine g_istore (n := 203) (ls' := [_, _, _, _, _, _, _, _, _, _]) C dL_isLayer_201 rfl (by decide) rfl ?_
    refine g_loop (α := Nat) (fun i => i ≤ 4) (fun i => 4 - i) (fun _ => L) (fun _ => f) (fun _ => 0) (fun _ => 0) 203 (fun i => [some (.ref co), some (.int (nI k)), some (.int (-1)), some (.int (nI (szN A k 12))), some (.int (dgF (S k) 12)), some (.int (nI 1)), some (.int (nI i)), none, none, none]) (fun _ => []) (fun i hi98 ih2 => ?_) (fun J => J 0 (Nat.zero_le _))
    refine g_iload (n := 205) C dL_isLayer_203 rfl rfl ?_
    refine g_iconst (n := 206) (v := nI 4) C dL_isLayer_205 rfl rfl ?_
    refine g_icmp_ge (n := 209) (tgt := 258) C dL_isLayer_206 (by decide) rfl (fun h206 => ?_) (fun h206 => ?_)
    · have e9 : i = 4 := by have := gn_ge h206 (by decide) (by omega); omega
      subst e9
      refine g_iload (n := 260) C dL_isLayer_258 rfl rfl ?_
      refine g_if_eq (n := 263) (tgt := 357) C dL_isLayer_260 (by decide) rfl (fun h260 => (by first | exact absurd h260 (by decide) | exact (h260 (by decide)).elim)) (fun h260 => ?_)
      refine g_aload_n (n := 264) C dL_isLayer_263 rfl (Or.inr ⟨_, rfl⟩) rfl ?_
      refine g_iload_n (n := 265) C dL_isLayer_264 rfl rfl ?_
      refine g_V (n := 268) (rest := []) C (z_sizeOf hE hl h (mc := 0) (ms := 0) hk h8) dL_isLayer_265 kM_X5_sizeOf kL_L_83 kV_X5_sizeOf h.co.choose_spec rfl rfl rfl (Nat.le_of_ble_eq_true rfl) ⟨by decide, by decide⟩ ⟨by first | omega | (simp only [gRm]; omega), by first | omega | (simp only [gRm]; omega)⟩ rfl (fun v9 L9 f9 hq => ?_)
      obtain ⟨rfl, rfl, rfl⟩ := hq
      refine G.sk (st' := [_]) rfl ?_
      refine g_iload_n (n := 269) C dL_isLayer_268 rfl rfl ?_
      refine g_icmp_ne (n := 272) (tgt := 357) C dL_isLayer_269 (by decide) rfl (fun h269 => absurd rfl h269) (fun h269 => ?_)
      refine g_aload_n (n := 273) C dL_isLayer_272 rfl (Or.inr ⟨_, rfl⟩) rfl ?_
      refine g_iload_n (n := 274) C dL_isLayer_273 rfl rfl ?_
      refine g_V (n := 277) (rest := []) C (z_digest hE hl h (mc := 0) (ms := 0) hk h8) dL_isLayer_274 kM_X5_digest kL_L_101 kV_X5_digest h.co.choose_spec rfl rfl rfl (Nat.le_of_ble_eq_true rfl) ⟨by decide, by decide⟩ ⟨by first | omega | (simp only [gRm]; omega), by first | omega | (simp only [gRm]; omega)⟩ rfl (fun v9 L9 f9 hq => ?_)
      obtain ⟨rfl, rfl, rfl⟩ := hq
      refine G.sk (st' := [_]) rfl ?_
      refine g_iload (n := 279) C dL_isLayer_277 rfl rfl ?_
      refine g_icmp_ne (n := 282) (tgt := 357) C dL_isLayer_279 (by decide) rfl (fun h279 => absurd rfl h279) (fun h279 => ?_)
      refine g_aload_n (n := 283) C dL_isLayer_282 rfl (Or.inr ⟨_, rfl⟩) rfl ?_
      refine g_iload_n (n := 284) C dL_isLayer_283 rfl rfl ?_
      refine g_V (n := 287) (rest := []) C (z_depth hE hl h (mc := 0) (ms := 0) hk h8) dL_isLayer_284 kM_X5_depth kL_L_95 kV_X5_depth h.co.choose_spec rfl rfl rfl (Nat.le_of_ble_eq_true rfl) ⟨by decide, by decide⟩ ⟨by first | omega | (simp only [gRm]; omega), by first | omega | (simp only [gRm]; omega)⟩ rfl (fun v9 L9 f9 hq => ?_)
      obtain ⟨rfl, rfl, rfl⟩ := hq
      refine G.sk (st' := [_]) rfl ?_
      refine g_iload_n (n := 288) C dL_isLayer_287 rfl rfl ?_
      refine g_if_ge (n := 291) (tgt := 295) C dL_isLayer_288 (by decide) rfl (fun h288 => absurd h288 (by decide)) (fun h288 => ?_)
      refine g_iconst (n := 292) (v := nI 1) C dL_isLayer_291 rfl rfl ?_
      refine g_goto (tgt := 302) C dL_isLayer_292 (by decide) ?_
      refine g_icmp_ne (n := 305) (tgt := 357) C dL_isLayer_302 (by decide) rfl (fun h302 => absurd (by rw [hpl k hk, hz]; rfl) h302) (fun h302 => ?_)
      refine g_aload_n (n := 306) C dL_isLayer_305 rfl (Or.inr ⟨_, rfl⟩) rfl ?_
      refine g_iload_n (n := 307) C dL_isLayer_306 rfl rfl ?_
      refine g_V (n := 310) (rest := []) C (z_imageSize hE hl h (mc := 0) (ms := 0) hk h8) dL_isLayer_307 kM_X5_imageSize kL_L_98 kV_X5_imageSize h.co.choose_spec rfl rfl rfl (Nat.le_of_ble_eq_true rfl) ⟨by decide, by decide⟩ ⟨by first | omega | (simp only [gRm]; omega), by first | omega | (simp only [gRm]; omega)⟩ rfl (fun v9 L9 f9 hq => ?_)
      obtain ⟨rfl, rfl, rfl⟩ := hq
      refine G.sk (st' := [_]) rfl ?_
      refine g_iload_n (n := 311) C dL_isLayer_310 rfl rfl ?_
      refine g_iload_n (n := 312) C dL_isLayer_311 rfl rfl ?_
      refine g_if_ge (n := 315) (tgt := 319) C dL_isLayer_312 (by decide) rfl (fun h312 => absurd h312 (by decide)) (fun h312 => ?_)
      refine g_iconst (n := 316) (v := nI 0) C dL_isLayer_315 rfl rfl ?_
      refine g_goto (tgt := 324) C dL_isLayer_316 (by decide) ?_
      refine g_iaddN (n := 325) C dL_isLayer_324 rfl ?_
      refine g_icmp_ne (n := 328) (tgt := 357) C dL_isLayer_325 (by decide) rfl (fun h325 => absurd (by rw [isT_s hpar hk, hz]; first | done | rfl) h325) (fun h325 => ?_)
      refine g_aload_n (n := 329) C dL_isLayer_328 rfl (Or.inr ⟨_, rfl⟩) rfl ?_
      refine g_iconst (n := 330) (v := nI 2) C dL_isLayer_329 rfl rfl ?_
      refine g_iload_n (n := 331) C dL_isLayer_330 rfl rfl ?_
      refine g_bipush (n := 333) (v := nI 12) C dL_isLayer_331 rfl rfl ?_
      refine g_SH (n := 336) (rest := []) C (tn_heldAt hE hl hN h (x := nI k) (y := nI 12) (fun ⟨q, hq, e⟩ => by have := gn_inj (by decide) (by omega) e; omega)) dL_isLayer_333 kH_tells kW_L_104 kT_tells rfl rfl (Nat.le_of_ble_eq_true rfl) ⟨by decide, by decide⟩ ⟨by first | omega | (simp only [gRm]; omega), by first | omega | (simp only [gRm]; omega)⟩ rfl (fun v9 L9 f9 hq => ?_)
      obtain ⟨rfl, rfl, rfl⟩ := hq
      refine G.sk (st' := [_]) rfl ?_
      refine g_bipush (n := 338) (v := -30) C dL_isLayer_336 rfl rfl ?_
      refine g_icmp_ne (n := 341) (tgt := 357) C dL_isLayer_338 (by decide) rfl (fun h338 => (by first | exact absurd h338 (by decide) | exact (h338 (by decide)).elim)) (fun h338 => ?_)
      refine g_aload_n (n := 342) C dL_isLayer_341 rfl (Or.inr ⟨_, rfl⟩) rfl ?_
      refine g_iconst (n := 343) (v := nI 4) C dL_isLayer_342 rfl rfl ?_
      refine g_iload_n (n := 344) C dL_isLayer_343 rfl rfl ?_
      refine g_iconst (n := 345) (v := nI 4) C dL_isLayer_344 rfl rfl ?_
      refine g_SH (n := 348) (rest := []) C (tn_variable hE hl hN h (x := nI k) (y := nI 4) (fun ⟨q, hq, e⟩ => by have := gn_inj (by decide) (by omega) e; omega)) dL_isLayer_345 kH_tells kW_L_104 kT_tells rfl rfl (Nat.le_of_ble_eq_true rfl) ⟨by decide, by decide⟩ ⟨by first | omega | (simp only [gRm]; omega), by first | omega | (simp only [gRm]; omega)⟩ rfl (fun v9 L9 f9 hq => ?_)
      obtain ⟨rfl, rfl, rfl⟩ := hq
      refine G.sk (st' := [_]) rfl ?_
      refine g_bipush (n := 350) (v := -30) C dL_isLayer_348 rfl rfl ?_
      refine g_icmp_ne (n := 353) (tgt := 357) C dL_isLayer_350 (by decide) rfl (fun h350 => (by first | exact absurd h350 (by decide) | exact (h350 (by decide)).elim)) (fun h350 => ?_)
      refine g_iconst (n := 354) (v := nI 1) C dL_isLayer_353 rfl rfl ?_
      refine g_goto (tgt := 358) C dL_isLayer_354 (by decide) ?_
      refine g_zret C hr rfl dL_isLayer_358 ?_ ⟨by first | omega | (simp only [gRm]; omega), by first | omega | (simp only [gRm]; omega)⟩
      exact ⟨rfl, rfl, rfl⟩
    · have hi4 : i < 4 := gn_gt h206 (by decide) (by omega)
      refine g_iload (n := 211) C dL_isLayer_209 rfl rfl ?_
      refine g_if_eq (n := 214) (tgt := 258) C dL_isLayer_211 (by decide) rfl (fun h211 => (by first | exact absurd h211 (by decide) | exact (h211 (by decide)).elim)) (fun h211 => ?_)
      refine g_aload_n (n := 215) C dL_isLayer_214 rfl (Or.inr ⟨_, rfl⟩) rfl ?_
      refine g_iload_n (n := 216) C dL_isLayer_215 rfl rfl ?_
      refine g_iload (n := 218) C dL_isLayer_216 rfl rfl ?_
      refine g_V (n := 221) (rest := []) C (z_variable hE hl h (mc := 0) (ms := 0) hk h8 hi4) dL_isLayer_218 kM_X5_variable kL_L_92 kV_X5_variable h.co.choose_spec rfl rfl rfl (Nat.le_of_ble_eq_true rfl) ⟨by decide, by decide⟩ ⟨by first | omega | (simp only [gRm]; omega), by first | omega | (simp only [gRm]; omega)⟩ rfl (fun v9 L9 f9 hq => ?_)
      obtain ⟨rfl, rfl, rfl⟩ := hq
      refine G.sk (st' := [_]) rfl ?_
      refine g_istore (n := 223) (ls' := [_, _, _, _, _, _, _, _, _, _]) C dL_isLayer_221 rfl (by decide) rfl ?_
      refine g_iload (n := 225) C dL_isLayer_223 rfl rfl ?_
      refine g_if_lt (n := 228) (tgt := 249) C dL_isLayer_225 (by decide) rfl (fun h225 => absurd h225 (gin_n0 (h.ct.2.2.2 k i hk hi4) (by decide))) (fun h225 => ?_)
      refine g_iload (n := 230) C dL_isLayer_228 rfl rfl ?_
      refine g_sipush (n := 233) (v := nI 1000) C dL_isLayer_230 rfl rfl ?_
      refine g_icmp_ge (n := 236) (tgt := 249) C dL_isLayer_233 (by decide) rfl (fun h233 => absurd h233 (gin_hi (h.ct.2.2.2 k i hk hi4) (by decide))) (fun h233 => ?_)
      refine g_iload_n (n := 237) C dL_isLayer_236 rfl rfl ?_
      refine g_if_ge (n := 240) (tgt := 245) C dL_isLayer_237 (by decide) rfl (fun h237 => absurd h237 (by decide)) (fun h237 => ?_)
      refine g_iload (n := 242) C dL_isLayer_240 rfl rfl ?_
      refine g_if_ne (n := 245) (tgt := 249) C dL_isLayer_242 (by decide) rfl (fun h242 => absurd ((hi.2.1 k hk hz).2 i hi4) h242) (fun h242 => ?_)
      refine g_iconst (n := 246) (v := nI 1) C dL_isLayer_245 rfl rfl ?_
      refine g_goto (tgt := 250) C dL_isLayer_246 (by decide) ?_
      refine g_istore (n := 252) (ls' := [_, _, _, _, _, _, _, _, _, _]) C dL_isLayer_250 rfl (by decide) rfl ?_
      refine g_iinc (n := 255) (ls' := [_, _, _, _, _, _, _, _, _, _]) C dL_isLayer_252 rfl (nI_1 _) rfl (by decide) rfl ?_
      refine g_goto (tgt := 203) C dL_isLayer_255 (by decide) ?_
      exact G.wk (wk2.s (wk2.s (wk2.s (wk2.s (wk2.s (wk2.s (wk2.s (wk2.n (wk2.n (wk2.n wk2.z)))))))))) (ih2 (i + 1) (by omega) (by omega))
  · have hi9 : i < 12 := gn_gt h46 (by decide) (by omega)
    refine g_iload (n := 51) C dL_isLayer_49 rfl rfl ?_
    refine g_if_eq (n := 54) (tgt := 200) C dL_isLayer_51 (by decide) rfl (fun h51 => (by first | exact absurd h51 (by decide) | exact (h51 (by decide)).elim)) (fun h51 => ?_)
    refine g_aload_n (n := 55) C dL_isLayer_54 rfl (Or.inr ⟨_, rfl⟩) rfl ?_
    refine g_iload_n (n := 56) C dL_isLayer_55 rfl rfl ?_
    refine g_iload (n := 58) C dL_isLayer_56 rfl rfl ?_
    refine g_V (n := 61) (rest := []) C (z_heldAt hE hl h (mc := 0) (ms := 0) hk h8 hi9) dL_isLayer_58 kM_X5_heldAt kL_L_86 kV_X5_heldAt h.co.choose_spec rfl rfl rfl (Nat.le_of_ble_eq_true rfl) ⟨by decide, by decide⟩ ⟨by first | omega | (simp only [gRm]; omega), by first | omega | (simp only [gRm]; omega)⟩ rfl (fun v9 L9 f9 hq => ?_)
    obtain ⟨rfl, rfl, rfl⟩ := hq
    refine G.sk (st' := [_]) rfl ?_
    refine g_istore (n := 63) (ls' := [_, _, _, _, _, _, _, _, _, _]) C dL_isLayer_61 rfl (by decide) rfl ?_
    refine g_iload_n (n := 64) C dL_isLayer_63 rfl rfl ?_
    refine g_if_ge (n := 67) (tgt := 71) C dL_isLayer_64 (by decide) rfl (fun h64 => absurd h64 (by decide)) (fun h64 => ?_)
    refine g_iconst (n := 68) (v := -1) C dL_isLayer_67 rfl rfl ?_
    refine g_goto (tgt := 78) C dL_isLayer_68 (by decide) ?_
    refine g_istore (n := 80) (ls' := [_, _, _, _, _, _, _, _, _, _]) C dL_isLayer_78 rfl (by decide) rfl ?_
    refine g_aload_n (n := 81) C dL_isLayer_80 rfl (Or.inr ⟨_, rfl⟩) rfl ?_
    refine g_iload_n (n := 82) C dL_isLayer_81 rfl rfl ?_
    refine g_iload (n := 84) C dL_isLayer_82 rfl rfl ?_
    refine g_V (n := 87) (rest := []) C (z_shownAt hE hl h (mc := 0) (ms := 0) hk h8 hi9) dL_isLayer_84 kM_X5_shownAt kL_L_89 kV_X5_shownAt h.co.choose_spec rfl rfl rfl (Nat.le_of_ble_eq_true rfl) ⟨by decide, by decide⟩ ⟨by first | omega | (simp only [gRm]; omega), by first | omega | (simp only [gRm]; omega)⟩ rfl (fun v9 L9 f9 hq => ?_)
    obtain ⟨rfl, rfl, rfl⟩ := hq
    refine G.sk (st' := [_]) rfl ?_
    refine g_istore (n := 89) (ls' := [_, _, _, _, _, _, _, _, _, _]) C dL_isLayer_87 rfl (by decide) rfl ?_
    refine g_iload_n (n := 90) C dL_isLayer_89 rfl rfl ?_
    refine g_iload (n := 92) C dL_isLayer_90 rfl rfl ?_
    refine g_iconst (n := 93) (v := -1) C dL_isLayer_92 rfl rfl ?_
    refine g_icmp_ne (n := 96) (tgt := 100) C dL_isLayer_93 (by decide) rfl (fun h93 => ?_) (fun h93 => ?_)
    · skip
      refine g_iconst (n := 101) (v := nI 1) C dL_isLayer_100 rfl rfl ?_
      refine g_iaddN (n := 102) C dL_isLayer_101 rfl ?_
      refine g_istore_n (n := 103) (ls' := [_, _, _, _, _, _, _, _, _, _]) C dL_isLayer_102 rfl (by decide) rfl ?_
      refine g_iload (n := 105) C dL_isLayer_103 rfl rfl ?_
      refine g_iload (n := 107) C dL_isLayer_105 rfl rfl ?_
      refine g_iconst (n := 108) (v := -1) C dL_isLayer_107 rfl rfl ?_
      refine g_icmp_ne (n := 111) (tgt := 116) C dL_isLayer_108 (by decide) rfl (fun h108 => ?_) (fun h108 => absurd h108 h93)
      refine g_iload (n := 118) C dL_isLayer_116 rfl rfl ?_
      refine g_bipush (n := 120) (v := -2) C dL_isLayer_118 rfl rfl ?_
      refine g_icmp_ne (n := 123) (tgt := 127) C dL_isLayer_120 (by decide) rfl (fun h120 => ?_) (fun h120 => ?_)
      · have e120 : S k i = A 10 (12 * k + i) := shS_3 hsh hk hi9 h93 h120
        refine g_iload (n := 129) C dL_isLayer_127 rfl rfl ?_
        refine g_icmp_ne (n := 132) (tgt := 162) C dL_isLayer_129 (by decide) rfl (fun h129 => absurd e120 h129) (fun h129 => ?_)
        refine g_iload (n := 134) C dL_isLayer_132 rfl rfl ?_
        refine g_bipush (n := 136) (v := -2) C dL_isLayer_134 rfl rfl ?_
        refine g_icmp_lt (n := 139) (tgt := 162) C dL_isLayer_136 (by decide) rfl (fun h136 => absurd h136 (cOH_lo (hi.1 k i hk hi9))) (fun h136 => ?_)
        refine g_iload (n := 141) C dL_isLayer_139 rfl rfl ?_
        refine g_sipush (n := 144) (v := nI 10007) C dL_isLayer_141 rfl rfl ?_
        refine g_icmp_ge (n := 147) (tgt := 162) C dL_isLayer_144 (by decide) rfl (fun h144 => absurd h144 (cOH_hi (hi.1 k i hk hi9))) (fun h144 => ?_)
        refine g_iload_n (n := 148) C dL_isLayer_147 rfl rfl ?_
        refine g_if_ge (n := 151) (tgt := 158) C dL_isLayer_148 (by decide) rfl (fun h148 => absurd h148 (by decide)) (fun h148 => ?_)
        refine g_iload (n := 153) C dL_isLayer_151 rfl rfl ?_
        refine g_bipush (n := 155) (v := -2) C dL_isLayer_153 rfl rfl ?_
        refine g_icmp_eq (n := 158) (tgt := 162) C dL_isLayer_155 (by decide) rfl (fun h155 => absurd h155 ((hi.2.1 k hk hz).1 i hi9)) (fun h155 => ?_)
        refine g_iconst (n := 159) (v := nI 1) C dL_isLayer_158 rfl rfl ?_
        refine g_goto (tgt := 163) C dL_isLayer_159 (by decide) ?_
        refine g_istore (n := 165) (ls' := [_, _, _, _, _, _, _, _, _, _]) C dL_isLayer_163 rfl (by decide) rfl ?_
        refine g_iload (n := 167) C dL_isLayer_165 rfl rfl ?_
        refine g_if_ge (n := 170) (tgt := 175) C dL_isLayer_167 (by decide) rfl (fun h167 => ?_) (fun h167 => ?_)
        · skip
          refine g_bipush (n := 177) (v := nI 31) C dL_isLayer_175 rfl rfl ?_
          refine g_iload (n := 179) C dL_isLayer_177 rfl rfl ?_
          refine g_imul (n := 180) C dL_isLayer_179 rfl ?_
          refine g_bipush (n := 182) (v := nI 101) C dL_isLayer_180 rfl rfl ?_
          refine g_iload (n := 184) C dL_isLayer_182 rfl rfl ?_
          refine g_imul (n := 185) C dL_isLayer_184 rfl ?_
          refine g_iadd (n := 186) C dL_isLayer_185 rfl ?_
          refine g_iload (n := 188) C dL_isLayer_186 rfl rfl ?_
          refine g_iadd (n := 189) C dL_isLayer_188 rfl ?_
          refine g_ldc (n := 191) (v := 1000003) C dL_isLayer_189 (List.mem_of_getElem? (i := 697) (by decide +kernel)) rfl ?_
          refine g_irem (n := 192) C dL_isLayer_191 (by decide) rfl ?_
          first
          | rw [show (nI 31 * dgF (S k) i + nI 101 * nI i + S k i) - (nI 31 * dgF (S k) i + nI 101 * nI i + S k i) / 1000003 * 1000003 = dgF (S k) (i + 1) by simp [dgF, cOK_y h167]]
          | skip
          refine g_istore (n := 194) (ls' := [_, _, _, _, _, _, _, _, _, _]) C dL_isLayer_192 rfl (by decide) rfl ?_
          refine g_iinc (n := 197) (ls' := [_, _, _, _, _, _, _, _, _, _]) C dL_isLayer_194 rfl (nI_1 _) rfl (by decide) rfl ?_
          refine g_goto (tgt := 42) C dL_isLayer_197 (by decide) ?_
          first
          | rw [szN_1 h93]
          | rw [szN_2 h93]
          first
          | rw [dgF_1 e167]
          | skip
          exact G.wk (wk2.s (wk2.s (wk2.s (wk2.s (wk2.s (wk2.s (wk2.s (wk2.n (wk2.n (wk2.n wk2.z)))))))))) (ih (i + 1) (by omega) (by omega))
        · have e167 : S k i = -1 := cOK_n9 (h.ct.2.2.1 k i hk hi9) h167
          refine g_iload (n := 172) C dL_isLayer_170 rfl rfl ?_
          refine g_goto (tgt := 192) C dL_isLayer_172 (by decide) ?_
          first
          | rw [show (nI 31 * dgF (S k) i + nI 101 * nI i + S k i) - (nI 31 * dgF (S k) i + nI 101 * nI i + S k i) / 1000003 * 1000003 = dgF (S k) (i + 1) by simp [dgF, cOK_y h167]]
          | skip
          refine g_istore (n := 194) (ls' := [_, _, _, _, _, _, _, _, _, _]) C dL_isLayer_192 rfl (by decide) rfl ?_
          refine g_iinc (n := 197) (ls' := [_, _, _, _, _, _, _, _, _, _]) C dL_isLayer_194 rfl (nI_1 _) rfl (by decide) rfl ?_
          refine g_goto (tgt := 42) C dL_isLayer_197 (by decide) ?_
          first
          | rw [szN_1 h93]
          | rw [szN_2 h93]
          first
          | rw [dgF_1 e167]
          | skip
          exact G.wk (wk2.s (wk2.s (wk2.s (wk2.s (wk2.s (wk2.s (wk2.s (wk2.n (wk2.n (wk2.n wk2.z)))))))))) (ih (i + 1) (by omega) (by omega))
      · have e120 : S k i = -1 := shS_2 hsh hk hi9 h93 h120
        refine g_iconst (n := 124) (v := -1) C dL_isLayer_123 rfl rfl ?_
        refine g_goto (tgt := 129) C dL_isLayer_124 (by decide) ?_
        refine g_icmp_ne (n := 132) (tgt := 162) C dL_isLayer_129 (by decide) rfl (fun h129 => absurd e120 h129) (fun h129 => ?_)
        refine g_iload (n := 134) C dL_isLayer_132 rfl rfl ?_
        refine g_bipush (n := 136) (v := -2) C dL_isLayer_134 rfl rfl ?_
        refine g_icmp_lt (n := 139) (tgt := 162) C dL_isLayer_136 (by decide) rfl (fun h136 => absurd h136 (cOH_lo (hi.1 k i hk hi9))) (fun h136 => ?_)
        refine g_iload (n := 141) C dL_isLayer_139 rfl rfl ?_
        refine g_sipush (n := 144) (v := nI 10007) C dL_isLayer_141 rfl rfl ?_
        refine g_icmp_ge (n := 147) (tgt := 162) C dL_isLayer_144 (by decide) rfl (fun h144 => absurd h144 (cOH_hi (hi.1 k i hk hi9))) (fun h144 => ?_)
        refine g_iload_n (n := 148) C dL_isLayer_147 rfl rfl ?_
        refine g_if_ge (n := 151) (tgt := 158) C dL_isLayer_148 (by decide) rfl (fun h148 => absurd h148 (by decide)) (fun h148 => ?_)
        refine g_iload (n := 153) C dL_isLayer_151 rfl rfl ?_
        refine g_bipush (n := 155) (v := -2) C dL_isLayer_153 rfl rfl ?_
        refine g_icmp_eq (n := 158) (tgt := 162) C dL_isLayer_155 (by decide) rfl (fun h155 => absurd h155 ((hi.2.1 k hk hz).1 i hi9)) (fun h155 => ?_)
        refine g_iconst (n := 159) (v := nI 1) C dL_isLayer_158 rfl rfl ?_
        refine g_goto (tgt := 163) C dL_isLayer_159 (by decide) ?_
        refine g_istore (n := 165) (ls' := [_, _, _, _, _, _, _, _, _, _]) C dL_isLayer_163 rfl (by decide) rfl ?_
        refine g_iload (n := 167) C dL_isLayer_165 rfl rfl ?_
        refine g_if_ge (n := 170) (tgt := 175) C dL_isLayer_167 (by decide) rfl (fun h167 => ?_) (fun h167 => ?_)
        · skip
          refine g_bipush (n := 177) (v := nI 31) C dL_isLayer_175 rfl rfl ?_
          refine g_iload (n := 179) C dL_isLayer_177 rfl rfl ?_
          refine g_imul (n := 180) C dL_isLayer_179 rfl ?_
          refine g_bipush (n := 182) (v := nI 101) C dL_isLayer_180 rfl rfl ?_
          refine g_iload (n := 184) C dL_isLayer_182 rfl rfl ?_
          refine g_imul (n := 185) C dL_isLayer_184 rfl ?_
          refine g_iadd (n := 186) C dL_isLayer_185 rfl ?_
          refine g_iload (n := 188) C dL_isLayer_186 rfl rfl ?_
          refine g_iadd (n := 189) C dL_isLayer_188 rfl ?_
          refine g_ldc (n := 191) (v := 1000003) C dL_isLayer_189 (List.mem_of_getElem? (i := 697) (by decide +kernel)) rfl ?_
          refine g_irem (n := 192) C dL_isLayer_191 (by decide) rfl ?_
          first
          | rw [show (nI 31 * dgF (S k) i + nI 101 * nI i + S k i) - (nI 31 * dgF (S k) i + nI 101 * nI i + S k i) / 1000003 * 1000003 = dgF (S k) (i + 1) by simp [dgF, cOK_y h167]]
          | skip
          refine g_istore (n := 194) (ls' := [_, _, _, _, _, _, _, _, _, _]) C dL_isLayer_192 rfl (by decide) rfl ?_
          refine g_iinc (n := 197) (ls' := [_, _, _, _, _, _, _, _, _, _]) C dL_isLayer_194 rfl (nI_1 _) rfl (by decide) rfl ?_
          refine g_goto (tgt := 42) C dL_isLayer_197 (by decide) ?_
          first
          | rw [szN_1 h93]
          | rw [szN_2 h93]
          first
          | rw [dgF_1 e167]
          | skip
          exact G.wk (wk2.s (wk2.s (wk2.s (wk2.s (wk2.s (wk2.s (wk2.s (wk2.n (wk2.n (wk2.n wk2.z)))))))))) (ih (i + 1) (by omega) (by omega))
        · have e167 : S k i = -1 := cOK_n9 (h.ct.2.2.1 k i hk hi9) h167
          refine g_iload (n := 172) C dL_isLayer_170 rfl rfl ?_
          refine g_goto (tgt := 192) C dL_isLayer_172 (by decide) ?_
          first
          | rw [show (nI 31 * dgF (S k) i + nI 101 * nI i + S k i) - (nI 31 * dgF (S k) i + nI 101 * nI i + S k i) / 1000003 * 1000003 = dgF (S k) (i + 1) by simp [dgF, cOK_y h167]]
          | skip
          refine g_istore (n := 194) (ls' := [_, _, _, _, _, _, _, _, _, _]) C dL_isLayer_192 rfl (by decide) rfl ?_
          refine g_iinc (n := 197) (ls' := [_, _, _, _, _, _, _, _, _, _]) C dL_isLayer_194 rfl (nI_1 _) rfl (by decide) rfl ?_
          refine g_goto (tgt := 42) C dL_isLayer_197 (by decide) ?_
          first
          | rw [szN_1 h93]
          | rw [szN_2 h93]
          first
          | rw [dgF_1 e167]
          | skip
          exact G.wk (wk2.s (wk2.s (wk2.s (wk2.s (wk2.s (wk2.s (wk2.s (wk2.n (wk2.n (wk2.n wk2.z)))))))))) (ih (i + 1) (by omega) (by omega))
    · have e93 : S k i = -1 := (shS_1 hsh hk hi9 h93).trans (by rw [hz]; rfl)
      refine g_iconst (n := 97) (v := nI 0) C dL_isLayer_96 rfl rfl ?_
      refine g_goto (tgt := 101) C dL_isLayer_97 (by decide) ?_
      refine g_iaddN (n := 102) C dL_isLayer_101 rfl ?_
      refine g_istore_n (n := 103) (ls' := [_, _, _, _, _, _, _, _, _, _]) C dL_isLayer_102 rfl (by decide) rfl ?_
      refine g_iload (n := 105) C dL_isLayer_103 rfl rfl ?_
      refine g_iload (n := 107) C dL_isLayer_105 rfl rfl ?_
      refine g_iconst (n := 108) (v := -1) C dL_isLayer_107 rfl rfl ?_
      refine g_icmp_ne (n := 111) (tgt := 116) C dL_isLayer_108 (by decide) rfl (fun h108 => absurd h93 h108) (fun h108 => ?_)
      refine g_iload (n := 113) C dL_isLayer_111 rfl rfl ?_
      refine g_goto (tgt := 129) C dL_isLayer_113 (by decide) ?_
      refine g_icmp_ne (n := 132) (tgt := 162) C dL_isLayer_129 (by decide) rfl (fun h129 => absurd e93 h129) (fun h129 => ?_)
      refine g_iload (n := 134) C dL_isLayer_132 rfl rfl ?_
      refine g_bipush (n := 136) (v := -2) C dL_isLayer_134 rfl rfl ?_
      refine g_icmp_lt (n := 139) (tgt := 162) C dL_isLayer_136 (by decide) rfl (fun h136 => absurd h136 (cOH_lo (hi.1 k i hk hi9))) (fun h136 => ?_)
      refine g_iload (n := 141) C dL_isLayer_139 rfl rfl ?_
      refine g_sipush (n := 144) (v := nI 10007) C dL_isLayer_141 rfl rfl ?_
      refine g_icmp_ge (n := 147) (tgt := 162) C dL_isLayer_144 (by decide) rfl (fun h144 => absurd h144 (cOH_hi (hi.1 k i hk hi9))) (fun h144 => ?_)
      refine g_iload_n (n := 148) C dL_isLayer_147 rfl rfl ?_
      refine g_if_ge (n := 151) (tgt := 158) C dL_isLayer_148 (by decide) rfl (fun h148 => absurd h148 (by decide)) (fun h148 => ?_)
      refine g_iload (n := 153) C dL_isLayer_151 rfl rfl ?_
      refine g_bipush (n := 155) (v := -2) C dL_isLayer_153 rfl rfl ?_
      refine g_icmp_eq (n := 158) (tgt := 162) C dL_isLayer_155 (by decide) rfl (fun h155 => absurd h155 ((hi.2.1 k hk hz).1 i hi9)) (fun h155 => ?_)
      refine g_iconst (n := 159) (v := nI 1) C dL_isLayer_158 rfl rfl ?_
      refine g_goto (tgt := 163) C dL_isLayer_159 (by decide) ?_
      refine g_istore (n := 165) (ls' := [_, _, _, _, _, _, _, _, _, _]) C dL_isLayer_163 rfl (by decide) rfl ?_
      refine g_iload (n := 167) C dL_isLayer_165 rfl rfl ?_
      refine g_if_ge (n := 170) (tgt := 175) C dL_isLayer_167 (by decide) rfl (fun h167 => ?_) (fun h167 => ?_)
      · skip
        refine g_bipush (n := 177) (v := nI 31) C dL_isLayer_175 rfl rfl ?_
        refine g_iload (n := 179) C dL_isLayer_177 rfl rfl ?_
        refine g_imul (n := 180) C dL_isLayer_179 rfl ?_
        refine g_bipush (n := 182) (v := nI 101) C dL_isLayer_180 rfl rfl ?_
        refine g_iload (n := 184) C dL_isLayer_182 rfl rfl ?_
        refine g_imul (n := 185) C dL_isLayer_184 rfl ?_
        refine g_iadd (n := 186) C dL_isLayer_185 rfl ?_
        refine g_iload (n := 188) C dL_isLayer_186 rfl rfl ?_
        refine g_iadd (n := 189) C dL_isLayer_188 rfl ?_
        refine g_ldc (n := 191) (v := 1000003) C dL_isLayer_189 (List.mem_of_getElem? (i := 697) (by decide +kernel)) rfl ?_
        refine g_irem (n := 192) C dL_isLayer_191 (by decide) rfl ?_
        first
        | rw [show (nI 31 * dgF (S k) i + nI 101 * nI i + S k i) - (nI 31 * dgF (S k) i + nI 101 * nI i + S k i) / 1000003 * 1000003 = dgF (S k) (i + 1) by simp [dgF, cOK_y h167]]
        | skip
        refine g_istore (n := 194) (ls' := [_, _, _, _, _, _, _, _, _, _]) C dL_isLayer_192 rfl (by decide) rfl ?_
        refine g_iinc (n := 197) (ls' := [_, _, _, _, _, _, _, _, _, _]) C dL_isLayer_194 rfl (nI_1 _) rfl (by decide) rfl ?_
        refine g_goto (tgt := 42) C dL_isLayer_197 (by decide) ?_
        first
        | rw [szN_1 h93]
        | rw [szN_2 h93]
        first
        | rw [dgF_1 e167]
        | skip
        exact G.wk (wk2.s (wk2.s (wk2.s (wk2.s (wk2.s (wk2.s (wk2.s (wk2.n (wk2.n (wk2.n wk2.z)))))))))) (ih (i + 1) (by omega) (by omega))
      · have e167 : S k i = -1 := cOK_n9 (h.ct.2.2.1 k i hk hi9) h167
        refine g_iload (n := 172) C dL_isLayer_170 rfl rfl ?_
        refine g_goto (tgt := 192) C dL_isLayer_172 (by decide) ?_
        first
        | rw [show (nI 31 * dgF (S k) i + nI 101 * nI i + S k i) - (nI 31 * dgF (S k) i + nI 101 * nI i + S k i) / 1000003 * 1000003 = dgF (S k) (i + 1) by simp [dgF, cOK_y h167]]
        | skip
        refine g_istore (n := 194) (ls' := [_, _, _, _, _, _, _, _, _, _]) C dL_isLayer_192 rfl (by decide) rfl ?_
        refine g_iinc (n := 197) (ls' := [_, _, _, _, _, _, _, _, _, _]) C dL_isLayer_194 rfl (nI_1 _) rfl (by decide) rfl ?_
        refine g_goto (tgt := 42) C dL_isLayer_197 (by decide) ?_
        first
        | rw [szN_1 h93]
        | rw [szN_2 h93]
        first
        | rw [dgF_1 e167]
        | skip
        exact G.wk (wk2.s (wk2.s (wk2.s (wk2.s (wk2.s (wk2.s (wk2.s (wk2.n (wk2.n (wk2.n wk2.z)))))))))) (ih (i + 1) (by omega) (by omega))
theorem l_isLayer_c {l : Launch} {s0 : State} {D : va_G} {cy : Nat → ClassId} (hE : gE s0 D cy) (hl : l.stackTraces = false) {L : List Nat} {f : gF} (hN : gN9 s0) {co n : Nat} {PR PL : Nat → Nat} {S A : Nat → Nat → Int32} {I : Nat → Int32} (h : CX cy co n PR PL S A I L f) (hi : INV A n PR S) {k : Nat} (hk : k < n) (h8 : A 8 k = 0) {j : Nat} (hz : PR k = j + 1) : gM l s0 D yL_isLayer cL_isLayer 10 (some .boolean) 10 8 48 [.ref co, .int (nI k)] L f (fun v L1 f1 => v = some (.int 1) ∧ L = L1 ∧ f = f1) := by
  refine gM.of (own := RL) hE hl (by decide +kernel) rfl rfl (Nat.le_of_ble_eq_true rfl) (fun p9 e9 s9 m9 a99 b99 t99 c9 C hr hnm => ?_)
  refine G.weak (ls' := [some (.ref co), some (.int (nI k)), none, none, none, none, none, none, none, none]) ?_ rfl (fun _ _ h => h)
  obtain ⟨i7, hn9, hPR, hsh, hpl, hpb, hlv⟩ := h.nv
  have hpar : ∀ k, k < n → PR k ≤ k := fun k hk => (hPR k hk).1
  have hle := hpar k hk
  have hj : j < n := by omega
  have h8j : A 8 j = 0 := hlv k j hk h8 hz
  refine g_aload_n (n := 1) C dL_isLayer_0 rfl (Or.inr ⟨_, rfl⟩) rfl ?_
  refine g_iload_n (n := 2) C dL_isLayer_1 rfl rfl ?_
  refine g_V (n := 5) (rest := []) C (z_parentOf hE hl h (mc := 0) (ms := 0) hk h8) dL_isLayer_2 kM_X5_parentOf kL_L_80 kV_X5_parentOf h.co.choose_spec rfl rfl rfl (Nat.le_of_ble_eq_true rfl) ⟨by decide, by decide⟩ ⟨by first | omega | (simp only [gRm]; omega), by first | omega | (simp only [gRm]; omega)⟩ rfl (fun v9 L9 f9 hq => ?_)
  obtain ⟨rfl, rfl, rfl⟩ := hq
  refine G.sk (st' := [_]) rfl ?_
  refine G.top (y := nI j) (by rw [hz]; rfl) ?_
  refine g_istore_n (n := 6) (ls' := [_, _, _, _, _, _, _, _, _, _]) C dL_isLayer_5 rfl (by decide) rfl ?_
  refine g_iconst (n := 7) (v := nI 0) C dL_isLayer_6 rfl rfl ?_
  refine g_istore_n (n := 8) (ls' := [_, _, _, _, _, _, _, _, _, _]) C dL_isLayer_7 rfl (by decide) rfl ?_
  refine g_iconst (n := 9) (v := nI 1) C dL_isLayer_8 rfl rfl ?_
  refine g_istore (n := 11) (ls' := [_, _, _, _, _, _, _, _, _, _]) C dL_isLayer_9 rfl (by decide) rfl ?_
  refine g_iload_n (n := 12) C dL_isLayer_11 rfl rfl ?_
  refine g_iload_n (n := 13) C dL_isLayer_12 rfl rfl ?_
  refine g_icmp_ge (n := 16) (tgt := 36) C dL_isLayer_13 (by decide) rfl (fun h13 => absurd h13 (by exact pI_lt (m := j + 1) (by omega) (by omega))) (fun h13 => ?_)
  refine g_iload_n (n := 17) C dL_isLayer_16 rfl rfl ?_
  refine g_if_lt (n := 20) (tgt := 32) C dL_isLayer_17 (by decide) rfl (fun h17 => absurd h17 (nI_n0 (by omega))) (fun h17 => ?_)
  refine g_aload_n (n := 21) C dL_isLayer_20 rfl (Or.inr ⟨_, rfl⟩) rfl ?_
  refine g_iconst (n := 22) (v := nI 0) C dL_isLayer_21 rfl rfl ?_
  refine g_iload_n (n := 23) C dL_isLayer_22 rfl rfl ?_
  refine g_iconst (n := 24) (v := nI 0) C dL_isLayer_23 rfl rfl ?_
  refine g_SH (n := 27) (rest := []) C (tz_parentOf hE hl hN h hj h8j (nI 0)) dL_isLayer_24 kH_tells kW_L_104 kT_tells rfl rfl (Nat.le_of_ble_eq_true rfl) ⟨by decide, by decide⟩ ⟨by first | omega | (simp only [gRm]; omega), by first | omega | (simp only [gRm]; omega)⟩ rfl (fun v9 L9 f9 hq => ?_)
  obtain ⟨rfl, rfl, rfl⟩ := hq
  refine G.sk (st' := [_]) rfl ?_
  refine g_bipush (n := 29) (v := -30) C dL_isLayer_27 rfl rfl ?_
  refine g_icmp_le (n := 32) (tgt := 36) C dL_isLayer_29 (by decide) rfl (fun h29 => absurd h29 (pI_30 (by have := hpar j hj; omega))) (fun h29 => ?_)
  refine g_iconst (n := 33) (v := nI 1) C dL_isLayer_32 rfl rfl ?_
  refine g_goto (tgt := 37) C dL_isLayer_33 (by decide) ?_
  refine g_istore (n := 39) (ls' := [_, _, _, _, _, _, _, _, _, _]) C dL_isLayer_37 rfl (by decide) rfl ?_
  refine g_iconst (n := 40) (v := nI 0) C dL_isLayer_39 rfl rfl ?_
  refine g_istore (n := 42) (ls' := [_, _, _, _, _, _, _, _, _, _]) C dL_isLayer_40 rfl (by decide) rfl ?_
  refine g_loop (α := Nat) (fun i => i ≤ 12) (fun i => 12 - i) (fun _ => L) (fun _ => f) (fun _ => 2) (fun _ => 12) 42 (fun i => [some (.ref co), some (.int (nI k)), some (.int (nI j)), some (.int (nI (szN A k i))), some (.int (dgF (S k) i)), some (.int (nI 1)), some (.int (nI i)), none, none, none]) (fun _ => []) (fun i hi99 ih => ?_) (fun J => J 0 (Nat.zero_le _))
  refine g_iload (n := 44) C dL_isLayer_42 rfl rfl ?_
  refine g_bipush (n := 46) (v := nI 12) C dL_isLayer_44 rfl rfl ?_
  refine g_icmp_ge (n := 49) (tgt := 200) C dL_isLayer_46 (by decide) rfl (fun h46 => ?_) (fun h46 => ?_)
  · have e9 : i = 12 := by have := gn_ge h46 (by decide) (by omega); omega
    subst e9
    refine g_iconst (n := 201) (v := nI 0) C dL_isLayer_200 rfl rfl ?_
    refine g_istore (n := 203) (ls' := [_, _, _, _, _, _, _, _, _, _]) C dL_isLayer_201 rfl (by decide) rfl ?_
    refine g_loop (α := Nat) (fun i => i ≤ 4) (fun i => 4 - i) (fun _ => L) (fun _ => f) (fun _ => 2) (fun _ => 12) 203 (fun i => [some (.ref co), some (.int (nI k)), some (.int (nI j)), some (.int (nI (szN A k 12))), some (.int (dgF (S k) 12)), some (.int (nI 1)), some (.int (nI i)), none, none, none]) (fun _ => []) (fun i hi98 ih2 => ?_) (fun J => J 0 (Nat.zero_le _))
    refine g_iload (n := 205) C dL_isLayer_203 rfl rfl ?_
    refine g_iconst (n := 206) (v := nI 4) C dL_isLayer_205 rfl rfl ?_
    refine g_icmp_ge (n := 209) (tgt := 258) C dL_isLayer_206 (by decide) rfl (fun h206 => ?_) (fun h206 => ?_)
    · have e9 : i = 4 := by have := gn_ge h206 (by decide) (by omega); omega
      subst e9
      refine g_iload (n := 260) C dL_isLayer_258 rfl rfl ?_
      refine g_if_eq (n := 263) (tgt := 357) C dL_isLayer_260 (by decide) rfl (fun h260 => (by first | exact absurd h260 (by decide) | exact (h260 (by decide)).elim)) (fun h260 => ?_)
      refine g_aload_n (n := 264) C dL_isLayer_263 rfl (Or.inr ⟨_, rfl⟩) rfl ?_
      refine g_iload_n (n := 265) C dL_isLayer_264 rfl rfl ?_
      refine g_V (n := 268) (rest := []) C (z_sizeOf hE hl h (mc := 0) (ms := 0) hk h8) dL_isLayer_265 kM_X5_sizeOf kL_L_83 kV_X5_sizeOf h.co.choose_spec rfl rfl rfl (Nat.le_of_ble_eq_true rfl) ⟨by decide, by decide⟩ ⟨by first | omega | (simp only [gRm]; omega), by first | omega | (simp only [gRm]; omega)⟩ rfl (fun v9 L9 f9 hq => ?_)
      obtain ⟨rfl, rfl, rfl⟩ := hq
      refine G.sk (st' := [_]) rfl ?_
      refine g_iload_n (n := 269) C dL_isLayer_268 rfl rfl ?_
      refine g_icmp_ne (n := 272) (tgt := 357) C dL_isLayer_269 (by decide) rfl (fun h269 => absurd rfl h269) (fun h269 => ?_)
      refine g_aload_n (n := 273) C dL_isLayer_272 rfl (Or.inr ⟨_, rfl⟩) rfl ?_
      refine g_iload_n (n := 274) C dL_isLayer_273 rfl rfl ?_
      refine g_V (n := 277) (rest := []) C (z_digest hE hl h (mc := 0) (ms := 0) hk h8) dL_isLayer_274 kM_X5_digest kL_L_101 kV_X5_digest h.co.choose_spec rfl rfl rfl (Nat.le_of_ble_eq_true rfl) ⟨by decide, by decide⟩ ⟨by first | omega | (simp only [gRm]; omega), by first | omega | (simp only [gRm]; omega)⟩ rfl (fun v9 L9 f9 hq => ?_)
      obtain ⟨rfl, rfl, rfl⟩ := hq
      refine G.sk (st' := [_]) rfl ?_
      refine g_iload (n := 279) C dL_isLayer_277 rfl rfl ?_
      refine g_icmp_ne (n := 282) (tgt := 357) C dL_isLayer_279 (by decide) rfl (fun h279 => absurd rfl h279) (fun h279 => ?_)
      refine g_aload_n (n := 283) C dL_isLayer_282 rfl (Or.inr ⟨_, rfl⟩) rfl ?_
      refine g_iload_n (n := 284) C dL_isLayer_283 rfl rfl ?_
      refine g_V (n := 287) (rest := []) C (z_depth hE hl h (mc := 0) (ms := 0) hk h8) dL_isLayer_284 kM_X5_depth kL_L_95 kV_X5_depth h.co.choose_spec rfl rfl rfl (Nat.le_of_ble_eq_true rfl) ⟨by decide, by decide⟩ ⟨by first | omega | (simp only [gRm]; omega), by first | omega | (simp only [gRm]; omega)⟩ rfl (fun v9 L9 f9 hq => ?_)
      obtain ⟨rfl, rfl, rfl⟩ := hq
      refine G.sk (st' := [_]) rfl ?_
      refine g_iload_n (n := 288) C dL_isLayer_287 rfl rfl ?_
      refine g_if_ge (n := 291) (tgt := 295) C dL_isLayer_288 (by decide) rfl (fun h288 => ?_) (fun h288 => absurd (nI_nn (by omega)) h288)
      refine g_aload_n (n := 296) C dL_isLayer_295 rfl (Or.inr ⟨_, rfl⟩) rfl ?_
      refine g_iload_n (n := 297) C dL_isLayer_296 rfl rfl ?_
      refine g_V (n := 300) (rest := [_]) C (z_depth hE hl h (mc := 0) (ms := 0) hj h8j) dL_isLayer_297 kM_X5_depth kL_L_95 kV_X5_depth h.co.choose_spec rfl rfl rfl (Nat.le_of_ble_eq_true rfl) ⟨by decide, by decide⟩ ⟨by first | omega | (simp only [gRm]; omega), by first | omega | (simp only [gRm]; omega)⟩ rfl (fun v9 L9 f9 hq => ?_)
      obtain ⟨rfl, rfl, rfl⟩ := hq
      refine G.sk (st' := [_, _]) rfl ?_
      refine g_iconst (n := 301) (v := nI 1) C dL_isLayer_300 rfl rfl ?_
      refine g_iaddN (n := 302) C dL_isLayer_301 rfl ?_
      refine g_icmp_ne (n := 305) (tgt := 357) C dL_isLayer_302 (by decide) rfl (fun h302 => absurd (by rw [hpl k hk, hz]; rfl) h302) (fun h302 => ?_)
      refine g_aload_n (n := 306) C dL_isLayer_305 rfl (Or.inr ⟨_, rfl⟩) rfl ?_
      refine g_iload_n (n := 307) C dL_isLayer_306 rfl rfl ?_
      refine g_V (n := 310) (rest := []) C (z_imageSize hE hl h (mc := 0) (ms := 0) hk h8) dL_isLayer_307 kM_X5_imageSize kL_L_98 kV_X5_imageSize h.co.choose_spec rfl rfl rfl (Nat.le_of_ble_eq_true rfl) ⟨by decide, by decide⟩ ⟨by first | omega | (simp only [gRm]; omega), by first | omega | (simp only [gRm]; omega)⟩ rfl (fun v9 L9 f9 hq => ?_)
      obtain ⟨rfl, rfl, rfl⟩ := hq
      refine G.sk (st' := [_]) rfl ?_
      refine g_iload_n (n := 311) C dL_isLayer_310 rfl rfl ?_
      refine g_iload_n (n := 312) C dL_isLayer_311 rfl rfl ?_
      refine g_if_ge (n := 315) (tgt := 319) C dL_isLayer_312 (by decide) rfl (fun h312 => ?_) (fun h312 => absurd (nI_nn (by omega)) h312)
      refine g_aload_n (n := 320) C dL_isLayer_319 rfl (Or.inr ⟨_, rfl⟩) rfl ?_
      refine g_iload_n (n := 321) C dL_isLayer_320 rfl rfl ?_
      refine g_V (n := 324) (rest := [_, _]) C (z_imageSize hE hl h (mc := 0) (ms := 0) hj h8j) dL_isLayer_321 kM_X5_imageSize kL_L_98 kV_X5_imageSize h.co.choose_spec rfl rfl rfl (Nat.le_of_ble_eq_true rfl) ⟨by decide, by decide⟩ ⟨by first | omega | (simp only [gRm]; omega), by first | omega | (simp only [gRm]; omega)⟩ rfl (fun v9 L9 f9 hq => ?_)
      obtain ⟨rfl, rfl, rfl⟩ := hq
      refine G.sk (st' := [_, _, _]) rfl ?_
      refine g_iaddN (n := 325) C dL_isLayer_324 rfl ?_
      refine g_icmp_ne (n := 328) (tgt := 357) C dL_isLayer_325 (by decide) rfl (fun h325 => absurd (by rw [isT_s hpar hk, hz]; first | done | rfl) h325) (fun h325 => ?_)
      refine g_aload_n (n := 329) C dL_isLayer_328 rfl (Or.inr ⟨_, rfl⟩) rfl ?_
      refine g_iconst (n := 330) (v := nI 2) C dL_isLayer_329 rfl rfl ?_
      refine g_iload_n (n := 331) C dL_isLayer_330 rfl rfl ?_
      refine g_bipush (n := 333) (v := nI 12) C dL_isLayer_331 rfl rfl ?_
      refine g_SH (n := 336) (rest := []) C (tn_heldAt hE hl hN h (x := nI k) (y := nI 12) (fun ⟨q, hq, e⟩ => by have := gn_inj (by decide) (by omega) e; omega)) dL_isLayer_333 kH_tells kW_L_104 kT_tells rfl rfl (Nat.le_of_ble_eq_true rfl) ⟨by decide, by decide⟩ ⟨by first | omega | (simp only [gRm]; omega), by first | omega | (simp only [gRm]; omega)⟩ rfl (fun v9 L9 f9 hq => ?_)
      obtain ⟨rfl, rfl, rfl⟩ := hq
      refine G.sk (st' := [_]) rfl ?_
      refine g_bipush (n := 338) (v := -30) C dL_isLayer_336 rfl rfl ?_
      refine g_icmp_ne (n := 341) (tgt := 357) C dL_isLayer_338 (by decide) rfl (fun h338 => (by first | exact absurd h338 (by decide) | exact (h338 (by decide)).elim)) (fun h338 => ?_)
      refine g_aload_n (n := 342) C dL_isLayer_341 rfl (Or.inr ⟨_, rfl⟩) rfl ?_
      refine g_iconst (n := 343) (v := nI 4) C dL_isLayer_342 rfl rfl ?_
      refine g_iload_n (n := 344) C dL_isLayer_343 rfl rfl ?_
      refine g_iconst (n := 345) (v := nI 4) C dL_isLayer_344 rfl rfl ?_
      refine g_SH (n := 348) (rest := []) C (tn_variable hE hl hN h (x := nI k) (y := nI 4) (fun ⟨q, hq, e⟩ => by have := gn_inj (by decide) (by omega) e; omega)) dL_isLayer_345 kH_tells kW_L_104 kT_tells rfl rfl (Nat.le_of_ble_eq_true rfl) ⟨by decide, by decide⟩ ⟨by first | omega | (simp only [gRm]; omega), by first | omega | (simp only [gRm]; omega)⟩ rfl (fun v9 L9 f9 hq => ?_)
      obtain ⟨rfl, rfl, rfl⟩ := hq
      refine G.sk (st' := [_]) rfl ?_
      refine g_bipush (n := 350) (v := -30) C dL_isLayer_348 rfl rfl ?_
      refine g_icmp_ne (n := 353) (tgt := 357) C dL_isLayer_350 (by decide) rfl (fun h350 => (by first | exact absurd h350 (by decide) | exact (h350 (by decide)).elim)) (fun h350 => ?_)
      refine g_iconst (n := 354) (v := nI 1) C dL_isLayer_353 rfl rfl ?_
      refine g_goto (tgt := 358) C dL_isLayer_354 (by decide) ?_
      refine g_zret C hr rfl dL_isLayer_358 ?_ ⟨by first | omega | (simp only [gRm]; omega), by first | omega | (simp only [gRm]; omega)⟩
      exact ⟨rfl, rfl, rfl⟩
    · have hi4 : i < 4 := gn_gt h206 (by decide) (by omega)
      refine g_iload (n := 211) C dL_isLayer_209 rfl rfl ?_
      refine g_if_eq (n := 214) (tgt := 258) C dL_isLayer_211 (by decide) rfl (fun h211 => (by first | exact absurd h211 (by decide) | exact (h211 (by decide)).elim)) (fun h211 => ?_)
      refine g_aload_n (n := 215) C dL_isLayer_214 rfl (Or.inr ⟨_, rfl⟩) rfl ?_
      refine g_iload_n (n := 216) C dL_isLayer_215 rfl rfl ?_
      refine g_iload (n := 218) C dL_isLayer_216 rfl rfl ?_
      refine g_V (n := 221) (rest := []) C (z_variable hE hl h (mc := 0) (ms := 0) hk h8 hi4) dL_isLayer_218 kM_X5_variable kL_L_92 kV_X5_variable h.co.choose_spec rfl rfl rfl (Nat.le_of_ble_eq_true rfl) ⟨by decide, by decide⟩ ⟨by first | omega | (simp only [gRm]; omega), by first | omega | (simp only [gRm]; omega)⟩ rfl (fun v9 L9 f9 hq => ?_)
      obtain ⟨rfl, rfl, rfl⟩ := hq
      refine G.sk (st' := [_]) rfl ?_
      refine g_istore (n := 223) (ls' := [_, _, _, _, _, _, _, _, _, _]) C dL_isLayer_221 rfl (by decide) rfl ?_
      refine g_iload (n := 225) C dL_isLayer_223 rfl rfl ?_
      refine g_if_lt (n := 228) (tgt := 249) C dL_isLayer_225 (by decide) rfl (fun h225 => absurd h225 (gin_n0 (h.ct.2.2.2 k i hk hi4) (by decide))) (fun h225 => ?_)
      refine g_iload (n := 230) C dL_isLayer_228 rfl rfl ?_
      refine g_sipush (n := 233) (v := nI 1000) C dL_isLayer_230 rfl rfl ?_
      refine g_icmp_ge (n := 236) (tgt := 249) C dL_isLayer_233 (by decide) rfl (fun h233 => absurd h233 (gin_hi (h.ct.2.2.2 k i hk hi4) (by decide))) (fun h233 => ?_)
      refine g_iload_n (n := 237) C dL_isLayer_236 rfl rfl ?_
      refine g_if_ge (n := 240) (tgt := 245) C dL_isLayer_237 (by decide) rfl (fun h237 => ?_) (fun h237 => absurd (nI_nn (by omega)) h237)
      refine g_iconst (n := 246) (v := nI 1) C dL_isLayer_245 rfl rfl ?_
      refine g_goto (tgt := 250) C dL_isLayer_246 (by decide) ?_
      refine g_istore (n := 252) (ls' := [_, _, _, _, _, _, _, _, _, _]) C dL_isLayer_250 rfl (by decide) rfl ?_
      refine g_iinc (n := 255) (ls' := [_, _, _, _, _, _, _, _, _, _]) C dL_isLayer_252 rfl (nI_1 _) rfl (by decide) rfl ?_
      refine g_goto (tgt := 203) C dL_isLayer_255 (by decide) ?_
      exact G.wk (wk2.s (wk2.s (wk2.s (wk2.s (wk2.s (wk2.s (wk2.s (wk2.n (wk2.n (wk2.n wk2.z)))))))))) (ih2 (i + 1) (by omega) (by omega))
  · have hi9 : i < 12 := gn_gt h46 (by decide) (by omega)
    refine g_iload (n := 51) C dL_isLayer_49 rfl rfl ?_
    refine g_if_eq (n := 54) (tgt := 200) C dL_isLayer_51 (by decide) rfl (fun h51 => (by first | exact absurd h51 (by decide) | exact (h51 (by decide)).elim)) (fun h51 => ?_)
    refine g_aload_n (n := 55) C dL_isLayer_54 rfl (Or.inr ⟨_, rfl⟩) rfl ?_
    refine g_iload_n (n := 56) C dL_isLayer_55 rfl rfl ?_
    refine g_iload (n := 58) C dL_isLayer_56 rfl rfl ?_
    refine g_V (n := 61) (rest := []) C (z_heldAt hE hl h (mc := 0) (ms := 0) hk h8 hi9) dL_isLayer_58 kM_X5_heldAt kL_L_86 kV_X5_heldAt h.co.choose_spec rfl rfl rfl (Nat.le_of_ble_eq_true rfl) ⟨by decide, by decide⟩ ⟨by first | omega | (simp only [gRm]; omega), by first | omega | (simp only [gRm]; omega)⟩ rfl (fun v9 L9 f9 hq => ?_)
    obtain ⟨rfl, rfl, rfl⟩ := hq
    refine G.sk (st' := [_]) rfl ?_
    refine g_istore (n := 63) (ls' := [_, _, _, _, _, _, _, _, _, _]) C dL_isLayer_61 rfl (by decide) rfl ?_
    refine g_iload_n (n := 64) C dL_isLayer_63 rfl rfl ?_
    refine g_if_ge (n := 67) (tgt := 71) C dL_isLayer_64 (by decide) rfl (fun h64 => ?_) (fun h64 => absurd (nI_nn (by omega)) h64)
    refine g_aload_n (n := 72) C dL_isLayer_71 rfl (Or.inr ⟨_, rfl⟩) rfl ?_
    refine g_iload_n (n := 73) C dL_isLayer_72 rfl rfl ?_
    refine g_iload (n := 75) C dL_isLayer_73 rfl rfl ?_
    refine g_V (n := 78) (rest := []) C (z_shownAt hE hl h (mc := 0) (ms := 0) hj h8j hi9) dL_isLayer_75 kM_X5_shownAt kL_L_89 kV_X5_shownAt h.co.choose_spec rfl rfl rfl (Nat.le_of_ble_eq_true rfl) ⟨by decide, by decide⟩ ⟨by first | omega | (simp only [gRm]; omega), by first | omega | (simp only [gRm]; omega)⟩ rfl (fun v9 L9 f9 hq => ?_)
    obtain ⟨rfl, rfl, rfl⟩ := hq
    refine G.sk (st' := [_]) rfl ?_
    refine g_istore (n := 80) (ls' := [_, _, _, _, _, _, _, _, _, _]) C dL_isLayer_78 rfl (by decide) rfl ?_
    refine g_aload_n (n := 81) C dL_isLayer_80 rfl (Or.inr ⟨_, rfl⟩) rfl ?_
    refine g_iload_n (n := 82) C dL_isLayer_81 rfl rfl ?_
    refine g_iload (n := 84) C dL_isLayer_82 rfl rfl ?_
    refine g_V (n := 87) (rest := []) C (z_shownAt hE hl h (mc := 0) (ms := 0) hk h8 hi9) dL_isLayer_84 kM_X5_shownAt kL_L_89 kV_X5_shownAt h.co.choose_spec rfl rfl rfl (Nat.le_of_ble_eq_true rfl) ⟨by decide, by decide⟩ ⟨by first | omega | (simp only [gRm]; omega), by first | omega | (simp only [gRm]; omega)⟩ rfl (fun v9 L9 f9 hq => ?_)
    obtain ⟨rfl, rfl, rfl⟩ := hq
    refine G.sk (st' := [_]) rfl ?_
    refine g_istore (n := 89) (ls' := [_, _, _, _, _, _, _, _, _, _]) C dL_isLayer_87 rfl (by decide) rfl ?_
    refine g_iload_n (n := 90) C dL_isLayer_89 rfl rfl ?_
    refine g_iload (n := 92) C dL_isLayer_90 rfl rfl ?_
    refine g_iconst (n := 93) (v := -1) C dL_isLayer_92 rfl rfl ?_
    refine g_icmp_ne (n := 96) (tgt := 100) C dL_isLayer_93 (by decide) rfl (fun h93 => ?_) (fun h93 => ?_)
    · skip
      refine g_iconst (n := 101) (v := nI 1) C dL_isLayer_100 rfl rfl ?_
      refine g_iaddN (n := 102) C dL_isLayer_101 rfl ?_
      refine g_istore_n (n := 103) (ls' := [_, _, _, _, _, _, _, _, _, _]) C dL_isLayer_102 rfl (by decide) rfl ?_
      refine g_iload (n := 105) C dL_isLayer_103 rfl rfl ?_
      refine g_iload (n := 107) C dL_isLayer_105 rfl rfl ?_
      refine g_iconst (n := 108) (v := -1) C dL_isLayer_107 rfl rfl ?_
      refine g_icmp_ne (n := 111) (tgt := 116) C dL_isLayer_108 (by decide) rfl (fun h108 => ?_) (fun h108 => absurd h108 h93)
      refine g_iload (n := 118) C dL_isLayer_116 rfl rfl ?_
      refine g_bipush (n := 120) (v := -2) C dL_isLayer_118 rfl rfl ?_
      refine g_icmp_ne (n := 123) (tgt := 127) C dL_isLayer_120 (by decide) rfl (fun h120 => ?_) (fun h120 => ?_)
      · have e120 : S k i = A 10 (12 * k + i) := shS_3 hsh hk hi9 h93 h120
        refine g_iload (n := 129) C dL_isLayer_127 rfl rfl ?_
        refine g_icmp_ne (n := 132) (tgt := 162) C dL_isLayer_129 (by decide) rfl (fun h129 => absurd e120 h129) (fun h129 => ?_)
        refine g_iload (n := 134) C dL_isLayer_132 rfl rfl ?_
        refine g_bipush (n := 136) (v := -2) C dL_isLayer_134 rfl rfl ?_
        refine g_icmp_lt (n := 139) (tgt := 162) C dL_isLayer_136 (by decide) rfl (fun h136 => absurd h136 (cOH_lo (hi.1 k i hk hi9))) (fun h136 => ?_)
        refine g_iload (n := 141) C dL_isLayer_139 rfl rfl ?_
        refine g_sipush (n := 144) (v := nI 10007) C dL_isLayer_141 rfl rfl ?_
        refine g_icmp_ge (n := 147) (tgt := 162) C dL_isLayer_144 (by decide) rfl (fun h144 => absurd h144 (cOH_hi (hi.1 k i hk hi9))) (fun h144 => ?_)
        refine g_iload_n (n := 148) C dL_isLayer_147 rfl rfl ?_
        refine g_if_ge (n := 151) (tgt := 158) C dL_isLayer_148 (by decide) rfl (fun h148 => ?_) (fun h148 => absurd (nI_nn (by omega)) h148)
        refine g_iconst (n := 159) (v := nI 1) C dL_isLayer_158 rfl rfl ?_
        refine g_goto (tgt := 163) C dL_isLayer_159 (by decide) ?_
        refine g_istore (n := 165) (ls' := [_, _, _, _, _, _, _, _, _, _]) C dL_isLayer_163 rfl (by decide) rfl ?_
        refine g_iload (n := 167) C dL_isLayer_165 rfl rfl ?_
        refine g_if_ge (n := 170) (tgt := 175) C dL_isLayer_167 (by decide) rfl (fun h167 => ?_) (fun h167 => ?_)
        · skip
          refine g_bipush (n := 177) (v := nI 31) C dL_isLayer_175 rfl rfl ?_
          refine g_iload (n := 179) C dL_isLayer_177 rfl rfl ?_
          refine g_imul (n := 180) C dL_isLayer_179 rfl ?_
          refine g_bipush (n := 182) (v := nI 101) C dL_isLayer_180 rfl rfl ?_
          refine g_iload (n := 184) C dL_isLayer_182 rfl rfl ?_
          refine g_imul (n := 185) C dL_isLayer_184 rfl ?_
          refine g_iadd (n := 186) C dL_isLayer_185 rfl ?_
          refine g_iload (n := 188) C dL_isLayer_186 rfl rfl ?_
          refine g_iadd (n := 189) C dL_isLayer_188 rfl ?_
          refine g_ldc (n := 191) (v := 1000003) C dL_isLayer_189 (List.mem_of_getElem? (i := 697) (by decide +kernel)) rfl ?_
          refine g_irem (n := 192) C dL_isLayer_191 (by decide) rfl ?_
          first
          | rw [show (nI 31 * dgF (S k) i + nI 101 * nI i + S k i) - (nI 31 * dgF (S k) i + nI 101 * nI i + S k i) / 1000003 * 1000003 = dgF (S k) (i + 1) by simp [dgF, cOK_y h167]]
          | skip
          refine g_istore (n := 194) (ls' := [_, _, _, _, _, _, _, _, _, _]) C dL_isLayer_192 rfl (by decide) rfl ?_
          refine g_iinc (n := 197) (ls' := [_, _, _, _, _, _, _, _, _, _]) C dL_isLayer_194 rfl (nI_1 _) rfl (by decide) rfl ?_
          refine g_goto (tgt := 42) C dL_isLayer_197 (by decide) ?_
          first
          | rw [szN_1 h93]
          | rw [szN_2 h93]
          first
          | rw [dgF_1 e167]
          | skip
          exact G.wk (wk2.s (wk2.s (wk2.s (wk2.s (wk2.s (wk2.s (wk2.s (wk2.n (wk2.n (wk2.n wk2.z)))))))))) (ih (i + 1) (by omega) (by omega))
        · have e167 : S k i = -1 := cOK_n9 (h.ct.2.2.1 k i hk hi9) h167
          refine g_iload (n := 172) C dL_isLayer_170 rfl rfl ?_
          refine g_goto (tgt := 192) C dL_isLayer_172 (by decide) ?_
          first
          | rw [show (nI 31 * dgF (S k) i + nI 101 * nI i + S k i) - (nI 31 * dgF (S k) i + nI 101 * nI i + S k i) / 1000003 * 1000003 = dgF (S k) (i + 1) by simp [dgF, cOK_y h167]]
          | skip
          refine g_istore (n := 194) (ls' := [_, _, _, _, _, _, _, _, _, _]) C dL_isLayer_192 rfl (by decide) rfl ?_
          refine g_iinc (n := 197) (ls' := [_, _, _, _, _, _, _, _, _, _]) C dL_isLayer_194 rfl (nI_1 _) rfl (by decide) rfl ?_
          refine g_goto (tgt := 42) C dL_isLayer_197 (by decide) ?_
          first
          | rw [szN_1 h93]
          | rw [szN_2 h93]
          first
          | rw [dgF_1 e167]
          | skip
          exact G.wk (wk2.s (wk2.s (wk2.s (wk2.s (wk2.s (wk2.s (wk2.s (wk2.n (wk2.n (wk2.n wk2.z)))))))))) (ih (i + 1) (by omega) (by omega))
      · have e120 : S k i = -1 := shS_2 hsh hk hi9 h93 h120
        refine g_iconst (n := 124) (v := -1) C dL_isLayer_123 rfl rfl ?_
        refine g_goto (tgt := 129) C dL_isLayer_124 (by decide) ?_
        refine g_icmp_ne (n := 132) (tgt := 162) C dL_isLayer_129 (by decide) rfl (fun h129 => absurd e120 h129) (fun h129 => ?_)
        refine g_iload (n := 134) C dL_isLayer_132 rfl rfl ?_
        refine g_bipush (n := 136) (v := -2) C dL_isLayer_134 rfl rfl ?_
        refine g_icmp_lt (n := 139) (tgt := 162) C dL_isLayer_136 (by decide) rfl (fun h136 => absurd h136 (cOH_lo (hi.1 k i hk hi9))) (fun h136 => ?_)
        refine g_iload (n := 141) C dL_isLayer_139 rfl rfl ?_
        refine g_sipush (n := 144) (v := nI 10007) C dL_isLayer_141 rfl rfl ?_
        refine g_icmp_ge (n := 147) (tgt := 162) C dL_isLayer_144 (by decide) rfl (fun h144 => absurd h144 (cOH_hi (hi.1 k i hk hi9))) (fun h144 => ?_)
        refine g_iload_n (n := 148) C dL_isLayer_147 rfl rfl ?_
        refine g_if_ge (n := 151) (tgt := 158) C dL_isLayer_148 (by decide) rfl (fun h148 => ?_) (fun h148 => absurd (nI_nn (by omega)) h148)
        refine g_iconst (n := 159) (v := nI 1) C dL_isLayer_158 rfl rfl ?_
        refine g_goto (tgt := 163) C dL_isLayer_159 (by decide) ?_
        refine g_istore (n := 165) (ls' := [_, _, _, _, _, _, _, _, _, _]) C dL_isLayer_163 rfl (by decide) rfl ?_
        refine g_iload (n := 167) C dL_isLayer_165 rfl rfl ?_
        refine g_if_ge (n := 170) (tgt := 175) C dL_isLayer_167 (by decide) rfl (fun h167 => ?_) (fun h167 => ?_)
        · skip
          refine g_bipush (n := 177) (v := nI 31) C dL_isLayer_175 rfl rfl ?_
          refine g_iload (n := 179) C dL_isLayer_177 rfl rfl ?_
          refine g_imul (n := 180) C dL_isLayer_179 rfl ?_
          refine g_bipush (n := 182) (v := nI 101) C dL_isLayer_180 rfl rfl ?_
          refine g_iload (n := 184) C dL_isLayer_182 rfl rfl ?_
          refine g_imul (n := 185) C dL_isLayer_184 rfl ?_
          refine g_iadd (n := 186) C dL_isLayer_185 rfl ?_
          refine g_iload (n := 188) C dL_isLayer_186 rfl rfl ?_
          refine g_iadd (n := 189) C dL_isLayer_188 rfl ?_
          refine g_ldc (n := 191) (v := 1000003) C dL_isLayer_189 (List.mem_of_getElem? (i := 697) (by decide +kernel)) rfl ?_
          refine g_irem (n := 192) C dL_isLayer_191 (by decide) rfl ?_
          first
          | rw [show (nI 31 * dgF (S k) i + nI 101 * nI i + S k i) - (nI 31 * dgF (S k) i + nI 101 * nI i + S k i) / 1000003 * 1000003 = dgF (S k) (i + 1) by simp [dgF, cOK_y h167]]
          | skip
          refine g_istore (n := 194) (ls' := [_, _, _, _, _, _, _, _, _, _]) C dL_isLayer_192 rfl (by decide) rfl ?_
          refine g_iinc (n := 197) (ls' := [_, _, _, _, _, _, _, _, _, _]) C dL_isLayer_194 rfl (nI_1 _) rfl (by decide) rfl ?_
          refine g_goto (tgt := 42) C dL_isLayer_197 (by decide) ?_
          first
          | rw [szN_1 h93]
          | rw [szN_2 h93]
          first
          | rw [dgF_1 e167]
          | skip
          exact G.wk (wk2.s (wk2.s (wk2.s (wk2.s (wk2.s (wk2.s (wk2.s (wk2.n (wk2.n (wk2.n wk2.z)))))))))) (ih (i + 1) (by omega) (by omega))
        · have e167 : S k i = -1 := cOK_n9 (h.ct.2.2.1 k i hk hi9) h167
          refine g_iload (n := 172) C dL_isLayer_170 rfl rfl ?_
          refine g_goto (tgt := 192) C dL_isLayer_172 (by decide) ?_
          first
          | rw [show (nI 31 * dgF (S k) i + nI 101 * nI i + S k i) - (nI 31 * dgF (S k) i + nI 101 * nI i + S k i) / 1000003 * 1000003 = dgF (S k) (i + 1) by simp [dgF, cOK_y h167]]
          | skip
          refine g_istore (n := 194) (ls' := [_, _, _, _, _, _, _, _, _, _]) C dL_isLayer_192 rfl (by decide) rfl ?_
          refine g_iinc (n := 197) (ls' := [_, _, _, _, _, _, _, _, _, _]) C dL_isLayer_194 rfl (nI_1 _) rfl (by decide) rfl ?_
          refine g_goto (tgt := 42) C dL_isLayer_197 (by decide) ?_
          first
          | rw [szN_1 h93]
          | rw [szN_2 h93]
          first
          | rw [dgF_1 e167]
          | skip
          exact G.wk (wk2.s (wk2.s (wk2.s (wk2.s (wk2.s (wk2.s (wk2.s (wk2.n (wk2.n (wk2.n wk2.z)))))))))) (ih (i + 1) (by omega) (by omega))
    · have e93 : S k i = S j i := (shS_1 hsh hk hi9 h93).trans (by rw [hz]; rfl)
      refine g_iconst (n := 97) (v := nI 0) C dL_isLayer_96 rfl rfl ?_
      refine g_goto (tgt := 101) C dL_isLayer_97 (by decide) ?_
      refine g_iaddN (n := 102) C dL_isLayer_101 rfl ?_
      refine g_istore_n (n := 103) (ls' := [_, _, _, _, _, _, _, _, _, _]) C dL_isLayer_102 rfl (by decide) rfl ?_
      refine g_iload (n := 105) C dL_isLayer_103 rfl rfl ?_
      refine g_iload (n := 107) C dL_isLayer_105 rfl rfl ?_
      refine g_iconst (n := 108) (v := -1) C dL_isLayer_107 rfl rfl ?_
      refine g_icmp_ne (n := 111) (tgt := 116) C dL_isLayer_108 (by decide) rfl (fun h108 => absurd h93 h108) (fun h108 => ?_)
      refine g_iload (n := 113) C dL_isLayer_111 rfl rfl ?_
      refine g_goto (tgt := 129) C dL_isLayer_113 (by decide) ?_
      refine g_icmp_ne (n := 132) (tgt := 162) C dL_isLayer_129 (by decide) rfl (fun h129 => absurd e93 h129) (fun h129 => ?_)
      refine g_iload (n := 134) C dL_isLayer_132 rfl rfl ?_
      refine g_bipush (n := 136) (v := -2) C dL_isLayer_134 rfl rfl ?_
      refine g_icmp_lt (n := 139) (tgt := 162) C dL_isLayer_136 (by decide) rfl (fun h136 => absurd h136 (cOH_lo (hi.1 k i hk hi9))) (fun h136 => ?_)
      refine g_iload (n := 141) C dL_isLayer_139 rfl rfl ?_
      refine g_sipush (n := 144) (v := nI 10007) C dL_isLayer_141 rfl rfl ?_
      refine g_icmp_ge (n := 147) (tgt := 162) C dL_isLayer_144 (by decide) rfl (fun h144 => absurd h144 (cOH_hi (hi.1 k i hk hi9))) (fun h144 => ?_)
      refine g_iload_n (n := 148) C dL_isLayer_147 rfl rfl ?_
      refine g_if_ge (n := 151) (tgt := 158) C dL_isLayer_148 (by decide) rfl (fun h148 => ?_) (fun h148 => absurd (nI_nn (by omega)) h148)
      refine g_iconst (n := 159) (v := nI 1) C dL_isLayer_158 rfl rfl ?_
      refine g_goto (tgt := 163) C dL_isLayer_159 (by decide) ?_
      refine g_istore (n := 165) (ls' := [_, _, _, _, _, _, _, _, _, _]) C dL_isLayer_163 rfl (by decide) rfl ?_
      refine g_iload (n := 167) C dL_isLayer_165 rfl rfl ?_
      refine g_if_ge (n := 170) (tgt := 175) C dL_isLayer_167 (by decide) rfl (fun h167 => ?_) (fun h167 => ?_)
      · skip
        refine g_bipush (n := 177) (v := nI 31) C dL_isLayer_175 rfl rfl ?_
        refine g_iload (n := 179) C dL_isLayer_177 rfl rfl ?_
        refine g_imul (n := 180) C dL_isLayer_179 rfl ?_
        refine g_bipush (n := 182) (v := nI 101) C dL_isLayer_180 rfl rfl ?_
        refine g_iload (n := 184) C dL_isLayer_182 rfl rfl ?_
        refine g_imul (n := 185) C dL_isLayer_184 rfl ?_
        refine g_iadd (n := 186) C dL_isLayer_185 rfl ?_
        refine g_iload (n := 188) C dL_isLayer_186 rfl rfl ?_
        refine g_iadd (n := 189) C dL_isLayer_188 rfl ?_
        refine g_ldc (n := 191) (v := 1000003) C dL_isLayer_189 (List.mem_of_getElem? (i := 697) (by decide +kernel)) rfl ?_
        refine g_irem (n := 192) C dL_isLayer_191 (by decide) rfl ?_
        first
        | rw [show (nI 31 * dgF (S k) i + nI 101 * nI i + S k i) - (nI 31 * dgF (S k) i + nI 101 * nI i + S k i) / 1000003 * 1000003 = dgF (S k) (i + 1) by simp [dgF, cOK_y h167]]
        | skip
        refine g_istore (n := 194) (ls' := [_, _, _, _, _, _, _, _, _, _]) C dL_isLayer_192 rfl (by decide) rfl ?_
        refine g_iinc (n := 197) (ls' := [_, _, _, _, _, _, _, _, _, _]) C dL_isLayer_194 rfl (nI_1 _) rfl (by decide) rfl ?_
        refine g_goto (tgt := 42) C dL_isLayer_197 (by decide) ?_
        first
        | rw [szN_1 h93]
        | rw [szN_2 h93]
        first
        | rw [dgF_1 e167]
        | skip
        exact G.wk (wk2.s (wk2.s (wk2.s (wk2.s (wk2.s (wk2.s (wk2.s (wk2.n (wk2.n (wk2.n wk2.z)))))))))) (ih (i + 1) (by omega) (by omega))
      · have e167 : S k i = -1 := cOK_n9 (h.ct.2.2.1 k i hk hi9) h167
        refine g_iload (n := 172) C dL_isLayer_170 rfl rfl ?_
        refine g_goto (tgt := 192) C dL_isLayer_172 (by decide) ?_
        first
        | rw [show (nI 31 * dgF (S k) i + nI 101 * nI i + S k i) - (nI 31 * dgF (S k) i + nI 101 * nI i + S k i) / 1000003 * 1000003 = dgF (S k) (i + 1) by simp [dgF, cOK_y h167]]
        | skip
        refine g_istore (n := 194) (ls' := [_, _, _, _, _, _, _, _, _, _]) C dL_isLayer_192 rfl (by decide) rfl ?_
        refine g_iinc (n := 197) (ls' := [_, _, _, _, _, _, _, _, _, _]) C dL_isLayer_194 rfl (nI_1 _) rfl (by decide) rfl ?_
        refine g_goto (tgt := 42) C dL_isLayer_197 (by decide) ?_
        first
        | rw [szN_1 h93]
        | rw [szN_2 h93]
        first
        | rw [dgF_1 e167]
        | skip
        exact G.wk (wk2.s (wk2.s (wk2.s (wk2.s (wk2.s (wk2.s (wk2.s (wk2.n (wk2.n (wk2.n wk2.z)))))))))) (ih (i + 1) (by omega) (by omega))
theorem l_isLayer {l : Launch} {s0 : State} {D : va_G} {cy : Nat → ClassId} (hE : gE s0 D cy) (hl : l.stackTraces = false) {L : List Nat} {f : gF} (hN : gN9 s0) {co n : Nat} {PR PL : Nat → Nat} {S A : Nat → Nat → Int32} {I : Nat → Int32} (h : CX cy co n PR PL S A I L f) (hi : INV A n PR S) {k : Nat} (hk : k < n) (h8 : A 8 k = 0) : gM l s0 D yL_isLayer cL_isLayer 10 (some .boolean) 10 8 48 [.ref co, .int (nI k)] L f (fun v L1 f1 => v = some (.int 1) ∧ L = L1 ∧ f = f1) := by
  cases hz : PR k with
  | zero => exact l_isLayer_r hE hl hN h hi hk h8 hz
  | succ j => exact l_isLayer_c hE hl hN h hi hk h8 hz

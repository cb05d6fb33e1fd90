/-! ===== the law, IV: its calls ===== -/
section LCASE
variable {p : Program} {l : Launch} {e : Env} {s : State} {m : MethodId} {args : Array Value} {below : List Frame} {meth : Method} {c : Code} {Q : State → Prop} {s0 : State} {D : va_G} {cy : Nat → ClassId}
theorem lc_setFile (C : gC p l e room_1 s m args below meth c s0 D cy [] code 7 RL) (hN : gN9 s0) {b9 N : Nat} {xs : Nat → Int32} (hX : va_X b9 N xs s s.heap) (hbl : b9 < s.heap.size) (hN9 : N ≤ 2048) {j : Nat} (hj : 4 * j + 4 ≤ N) {Lc Lm : List Nat} {f : gF} {A : Nat → Nat → Int32} {I : Nat → Int32} {co mo q9 : Nat} (hw : LWD cy co mo q9 A I Lc Lm f) {ce sl : Nat} (hce : ce + 57 ≤ 601024) (hsl : sl + 474 ≤ 7293034) (kk : ∀ (Lc1 : List Nat) (f1 : gF) (A1 : Nat → Nat → Int32) (I1 : Nat → Int32), LWD cy co mo q9 A1 I1 Lc1 Lm f1 → G p l e room_1 s m args below meth c Q D [] 7 ((Lc1 ++ [q9]) ++ Lm) f1 (ce + 57) (sl + 474) 2021 [some (.ref b9), some (.ref co), some (.ref mo), some (.ref q9), some (.int (nI (4 * j))), none, none] ([])) : G p l e room_1 s m args below meth c Q D [] 7 ((Lc ++ [q9]) ++ Lm) f ce sl 184 [some (.ref b9), some (.ref co), some (.ref mo), some (.ref q9), some (.int (nI (4 * j))), none, none] ([]) := by
  obtain ⟨⟨bk, n, X, Is, PR, PL, S, rfl, hR, hB9, hC9⟩, ⟨g0, hf9⟩, ad, hm⟩ := hw
  have hE := C.2.2.2.2.2.1
  have hl := C.2.2.2.2.2.2.2
  obtain ⟨hI7, hn9, hPR, hSh, hPL, hPb, -⟩ := hR.nv
  have hRec := hR.rec9
  obtain ⟨TG, hTG⟩ := hR.tgs
  refine G.swap ?_
  refine g_peek C ((k6_setFile hE hl hm (xs (4 * j + 1)) (xs (4 * j + 2))).fr (Lc ++ [q9])) dL_law_216 kM_X6_setFile kL_L_112 kV_X6_setFile (hm.1.of (List.mem_append_left _ hm.1.1) rfl) rfl rfl ⟨by decide, by decide⟩ ⟨by show ce + 0 ≤ 601024; omega, by show sl + 0 ≤ 7293034; omega⟩ (fun v8 L8 f8 hq => ?_)
  obtain ⟨Lx, fx, ⟨-, bb, Ab, Ib, -, -, hrl⟩, -⟩ := hq
  refine G.swap ?_
  refine g_aload_n (n := 185) C dL_law_184 rfl (Or.inr ⟨_, rfl⟩) rfl ?_
  refine g_aload_n (n := 186) C dL_law_185 rfl (Or.inr ⟨_, rfl⟩) rfl ?_
  refine g_iload (n := 188) C dL_law_186 rfl rfl ?_
  refine g_iconst (n := 189) (v := nI 1) C dL_law_188 rfl rfl ?_
  refine g_iaddN (n := 190) C dL_law_189 rfl ?_
  refine g_sld (n := 191) (j := 4 * j + 1) C hX hbl List.not_mem_nil dL_law_190 rfl (by omega) (by omega) rfl ?_
  refine g_aload_n (n := 192) C dL_law_191 rfl (Or.inr ⟨_, rfl⟩) rfl ?_
  refine g_iload (n := 194) C dL_law_192 rfl rfl ?_
  refine g_iconst (n := 195) (v := nI 2) C dL_law_194 rfl rfl ?_
  refine g_iaddN (n := 196) C dL_law_195 rfl ?_
  refine g_sld (n := 197) (j := 4 * j + 2) C hX hbl List.not_mem_nil dL_law_196 rfl (by omega) (by omega) rfl ?_
  refine g_aload_n (n := 198) C dL_law_197 rfl (Or.inr ⟨_, rfl⟩) rfl ?_
  refine g_SH (n := 201) (rest := []) C ((kw_setFile hE hl hR hB9 hC9 (xs (4 * j + 1)) (xs (4 * j + 2)) (k5_setFile hE hl hR hB9 hC9 (xs (4 * j + 1)) (xs (4 * j + 2))) ⟨bb, Ab, Ib, hrl⟩ (fun _ _ _ _ _ _ _ h => h) hN hf9).fr Lm) dL_law_198 kH_setFile (List.mem_of_getElem? (i := 212) (by decide +kernel)) kT_setFile rfl rfl (Nat.le_of_ble_eq_true rfl) ⟨by decide, by decide⟩ ⟨by show ce + 2 ≤ 601024; omega, by show sl + 12 ≤ 7293034; omega⟩ rfl (fun v8 L8 f8 hq => ?_)
  obtain ⟨L1, f1, hq, rfl, e1, e2⟩ := hq
  obtain ⟨Lc1, g1, rfl, ho1, w, hw4, rfl, hall⟩ := hq
  have hm1 := hm.ext e2
  refine G.sk (st' := [_]) rfl ?_
  refine G.swap ?_
  refine g_istore (n := 203) (ls' := [_, _, _, _, _, _, _]) C dL_law_201 rfl (by decide) rfl ?_
  refine g_aload_n (n := 204) C dL_law_203 rfl (Or.inr ⟨_, rfl⟩) rfl ?_
  refine g_aload_n (n := 205) C dL_law_204 rfl (Or.inr ⟨_, rfl⟩) rfl ?_
  refine g_iload (n := 207) C dL_law_205 rfl rfl ?_
  refine g_iconst (n := 208) (v := nI 1) C dL_law_207 rfl rfl ?_
  refine g_iaddN (n := 209) C dL_law_208 rfl ?_
  refine g_sld (n := 210) (j := 4 * j + 1) C hX hbl List.not_mem_nil dL_law_209 rfl (by omega) (by omega) rfl ?_
  refine g_aload_n (n := 211) C dL_law_210 rfl (Or.inr ⟨_, rfl⟩) rfl ?_
  refine g_iload (n := 213) C dL_law_211 rfl rfl ?_
  refine g_iconst (n := 214) (v := nI 2) C dL_law_213 rfl rfl ?_
  refine g_iaddN (n := 215) C dL_law_214 rfl ?_
  refine g_sld (n := 216) (j := 4 * j + 2) C hX hbl List.not_mem_nil dL_law_215 rfl (by omega) (by omega) rfl ?_
  refine g_V (n := 219) (rest := []) C ((k6_setFile hE hl hm1 (xs (4 * j + 1)) (xs (4 * j + 2))).fr (Lc1 ++ [q9])) dL_law_216 kM_X6_setFile kL_L_112 kV_X6_setFile (hm1.1.of (List.mem_append_left _ hm1.1.1) rfl) rfl rfl rfl (Nat.le_of_ble_eq_true rfl) ⟨by decide, by decide⟩ ⟨by show ce + 2 + 0 ≤ 601024; omega, by show sl + 12 + 0 ≤ 7293034; omega⟩ rfl (fun v7 L7 f7 hq => ?_)
  obtain ⟨L2, f2, ⟨rfl, bq, Aq, Iq, rfl, hm2, hrq⟩, rfl, e3, e4⟩ := hq
  have hm3 := hm2.ext (fun a ha => (e3 a ha).1)
  refine G.sk (st' := [_]) rfl ?_
  refine g_istore (n := 221) (ls' := [_, _, _, _, _, _, _]) C dL_law_219 rfl (by decide) rfl ?_
  refine g_aload_n (n := 222) C dL_law_221 rfl (Or.inr ⟨_, rfl⟩) rfl ?_
  refine g_V (n := 225) (rest := []) C ((k6_thrown hE hl hm3).fr (Lc1 ++ [q9])) dL_law_222 kM_X6_thrown kL_L_113 kV_X6_thrown (hm3.1.of (List.mem_append_left _ hm3.1.1) rfl) rfl rfl rfl (Nat.le_of_ble_eq_true rfl) ⟨by decide, by decide⟩ ⟨by show ce + 2 + 0 + 0 ≤ 601024; omega, by show sl + 12 + 0 + 0 ≤ 7293034; omega⟩ rfl (fun v6 L6 f6 hq => ?_)
  obtain ⟨L3, f3, ⟨rfl, rfl, rfl⟩, rfl, e5, e6⟩ := hq
  have hm4 := hm3.ext (fun a ha => (e5 a ha).1)
  obtain ⟨h27, hg1, hcw⟩ := hall bq Aq Iq hrq
  have hfx : ∀ a, a ∈ Lc1 ++ [q9] → f6 a = f1 a := fun a ha => (e6 a ha).trans ((e4 a ha).trans (e1 a ha).1)
  have ho6 := (hfx q9 (List.mem_append_right _ List.mem_cons_self)).trans ho1
  refine G.sk (st' := [_]) rfl ?_
  refine g_iload (n := 227) C dL_law_225 rfl rfl ?_
  refine g_icmp_eq (n := 230) (tgt := 232) C dL_law_227 (by decide) rfl (fun h227 => ?_) (fun h227 => absurd h27 h227)
  refine g_iload (n := 234) C dL_law_232 rfl rfl ?_
  refine g_if_ne (n := 237) (tgt := 249) C dL_law_234 (by decide) rfl (fun h234 => ?_) (fun h234 => ?_)
  · refine g_goto (tgt := 2021) C dL_law_249 (by decide) ?_
    refine G.swap ?_
    refine G.weak (ls' := [some (.ref b9), some (.ref (bk 0)), some (.ref mo), some (.ref q9), some (.int (nI (4 * j))), none, none]) ?_ rfl lw_weak
    refine G.mono (ce' := ce + 57) (sl' := sl + 474) (by omega) (by omega) (kk Lc1 f6 Aq Iq ⟨hcw.ext (fun a ha => hfx a (List.mem_append_left _ ha)), ⟨g1, ho6⟩, ad, hm4⟩)
  · have hw0 : w = 0 := gn_inj (by omega) (by omega) h234
    refine g_aload_n (n := 238) C dL_law_237 rfl (Or.inr ⟨_, rfl⟩) rfl ?_
    refine g_iconst (n := 239) (v := nI 0) C dL_law_238 rfl rfl ?_
    refine g_lald (n := 240) C dL_law_239 (⟨List.mem_append_right _ (List.mem_append_right _ List.mem_cons_self), ho6⟩ : gH (Lm ++ (Lc1 ++ [q9])) f6 q9 (.inl (cy 2, 1, .inr (.inl g1)))) rfl (by omega) (by decide) rfl ?_
    refine g_iload (n := 242) C dL_law_240 rfl rfl ?_
    refine g_i2l (n := 243) C dL_law_242 rfl ?_
    refine g_lcmp (n := 244) C dL_law_243 (hg1 hw0) rfl ?_
    refine g_if_eq (n := 247) (tgt := 249) C dL_law_244 (by decide) rfl (fun h244 => ?_) (fun h244 => absurd rfl h244)
    refine g_goto (tgt := 2021) C dL_law_249 (by decide) ?_
    refine G.swap ?_
    refine G.weak (ls' := [some (.ref b9), some (.ref (bk 0)), some (.ref mo), some (.ref q9), some (.int (nI (4 * j))), none, none]) ?_ rfl lw_weak
    refine G.mono (ce' := ce + 57) (sl' := sl + 474) (by omega) (by omega) (kk Lc1 f6 Aq Iq ⟨hcw.ext (fun a ha => hfx a (List.mem_append_left _ ha)), ⟨g1, ho6⟩, ad, hm4⟩)
theorem lc_setBase (C : gC p l e room_1 s m args below meth c s0 D cy [] code 7 RL) (hN : gN9 s0) {b9 N : Nat} {xs : Nat → Int32} (hX : va_X b9 N xs s s.heap) (hbl : b9 < s.heap.size) (hN9 : N ≤ 2048) {j : Nat} (hj : 4 * j + 4 ≤ N) {Lc Lm : List Nat} {f : gF} {A : Nat → Nat → Int32} {I : Nat → Int32} {co mo q9 : Nat} (hw : LWD cy co mo q9 A I Lc Lm f) {ce sl : Nat} (hce : ce + 57 ≤ 601024) (hsl : sl + 474 ≤ 7293034) (kk : ∀ (Lc1 : List Nat) (f1 : gF) (A1 : Nat → Nat → Int32) (I1 : Nat → Int32), LWD cy co mo q9 A1 I1 Lc1 Lm f1 → G p l e room_1 s m args below meth c Q D [] 7 ((Lc1 ++ [q9]) ++ Lm) f1 (ce + 57) (sl + 474) 2021 [some (.ref b9), some (.ref co), some (.ref mo), some (.ref q9), some (.int (nI (4 * j))), none, none] ([])) : G p l e room_1 s m args below meth c Q D [] 7 ((Lc ++ [q9]) ++ Lm) f ce sl 252 [some (.ref b9), some (.ref co), some (.ref mo), some (.ref q9), some (.int (nI (4 * j))), none, none] ([]) := by
  obtain ⟨⟨bk, n, X, Is, PR, PL, S, rfl, hR, hB9, hC9⟩, ⟨g0, hf9⟩, ad, hm⟩ := hw
  have hE := C.2.2.2.2.2.1
  have hl := C.2.2.2.2.2.2.2
  obtain ⟨hI7, hn9, hPR, hSh, hPL, hPb, -⟩ := hR.nv
  have hRec := hR.rec9
  obtain ⟨TG, hTG⟩ := hR.tgs
  refine G.swap ?_
  refine g_peek C ((k6_setBase hE hl hm (xs (4 * j + 1)) (xs (4 * j + 2)) (xs (4 * j + 3))).fr (Lc ++ [q9])) dL_law_296 kM_X6_setBase kL_L_119 kV_X6_setBase (hm.1.of (List.mem_append_left _ hm.1.1) rfl) rfl rfl ⟨by decide, by decide⟩ ⟨by show ce + 0 ≤ 601024; omega, by show sl + 0 ≤ 7293034; omega⟩ (fun v8 L8 f8 hq => ?_)
  obtain ⟨Lx, fx, ⟨-, bb, Ab, Ib, -, -, hrl⟩, -⟩ := hq
  refine G.swap ?_
  refine g_aload_n (n := 253) C dL_law_252 rfl (Or.inr ⟨_, rfl⟩) rfl ?_
  refine g_aload_n (n := 254) C dL_law_253 rfl (Or.inr ⟨_, rfl⟩) rfl ?_
  refine g_iload (n := 256) C dL_law_254 rfl rfl ?_
  refine g_iconst (n := 257) (v := nI 1) C dL_law_256 rfl rfl ?_
  refine g_iaddN (n := 258) C dL_law_257 rfl ?_
  refine g_sld (n := 259) (j := 4 * j + 1) C hX hbl List.not_mem_nil dL_law_258 rfl (by omega) (by omega) rfl ?_
  refine g_aload_n (n := 260) C dL_law_259 rfl (Or.inr ⟨_, rfl⟩) rfl ?_
  refine g_iload (n := 262) C dL_law_260 rfl rfl ?_
  refine g_iconst (n := 263) (v := nI 2) C dL_law_262 rfl rfl ?_
  refine g_iaddN (n := 264) C dL_law_263 rfl ?_
  refine g_sld (n := 265) (j := 4 * j + 2) C hX hbl List.not_mem_nil dL_law_264 rfl (by omega) (by omega) rfl ?_
  refine g_aload_n (n := 266) C dL_law_265 rfl (Or.inr ⟨_, rfl⟩) rfl ?_
  refine g_iload (n := 268) C dL_law_266 rfl rfl ?_
  refine g_iconst (n := 269) (v := nI 3) C dL_law_268 rfl rfl ?_
  refine g_iaddN (n := 270) C dL_law_269 rfl ?_
  refine g_sld (n := 271) (j := 4 * j + 3) C hX hbl List.not_mem_nil dL_law_270 rfl (by omega) (by omega) rfl ?_
  refine g_aload_n (n := 272) C dL_law_271 rfl (Or.inr ⟨_, rfl⟩) rfl ?_
  refine g_SH (n := 275) (rest := []) C ((kw_setBase hE hl hR hB9 hC9 (xs (4 * j + 1)) (xs (4 * j + 2)) (xs (4 * j + 3)) (k5_setBase hE hl hR hB9 hC9 (xs (4 * j + 1)) (xs (4 * j + 2)) (xs (4 * j + 3))) ⟨bb, Ab, Ib, hrl⟩ (fun _ _ _ _ _ _ _ h => h) hN hf9).fr Lm) dL_law_272 kH_setBase (List.mem_of_getElem? (i := 314) (by decide +kernel)) kT_setBase rfl rfl (Nat.le_of_ble_eq_true rfl) ⟨by decide, by decide⟩ ⟨by show ce + 3 ≤ 601024; omega, by show sl + 18 ≤ 7293034; omega⟩ rfl (fun v8 L8 f8 hq => ?_)
  obtain ⟨L1, f1, hq, rfl, e1, e2⟩ := hq
  obtain ⟨Lc1, g1, rfl, ho1, w, hw4, rfl, hall⟩ := hq
  have hm1 := hm.ext e2
  refine G.sk (st' := [_]) rfl ?_
  refine G.swap ?_
  refine g_istore (n := 277) (ls' := [_, _, _, _, _, _, _]) C dL_law_275 rfl (by decide) rfl ?_
  refine g_aload_n (n := 278) C dL_law_277 rfl (Or.inr ⟨_, rfl⟩) rfl ?_
  refine g_aload_n (n := 279) C dL_law_278 rfl (Or.inr ⟨_, rfl⟩) rfl ?_
  refine g_iload (n := 281) C dL_law_279 rfl rfl ?_
  refine g_iconst (n := 282) (v := nI 1) C dL_law_281 rfl rfl ?_
  refine g_iaddN (n := 283) C dL_law_282 rfl ?_
  refine g_sld (n := 284) (j := 4 * j + 1) C hX hbl List.not_mem_nil dL_law_283 rfl (by omega) (by omega) rfl ?_
  refine g_aload_n (n := 285) C dL_law_284 rfl (Or.inr ⟨_, rfl⟩) rfl ?_
  refine g_iload (n := 287) C dL_law_285 rfl rfl ?_
  refine g_iconst (n := 288) (v := nI 2) C dL_law_287 rfl rfl ?_
  refine g_iaddN (n := 289) C dL_law_288 rfl ?_
  refine g_sld (n := 290) (j := 4 * j + 2) C hX hbl List.not_mem_nil dL_law_289 rfl (by omega) (by omega) rfl ?_
  refine g_aload_n (n := 291) C dL_law_290 rfl (Or.inr ⟨_, rfl⟩) rfl ?_
  refine g_iload (n := 293) C dL_law_291 rfl rfl ?_
  refine g_iconst (n := 294) (v := nI 3) C dL_law_293 rfl rfl ?_
  refine g_iaddN (n := 295) C dL_law_294 rfl ?_
  refine g_sld (n := 296) (j := 4 * j + 3) C hX hbl List.not_mem_nil dL_law_295 rfl (by omega) (by omega) rfl ?_
  refine g_V (n := 299) (rest := []) C ((k6_setBase hE hl hm1 (xs (4 * j + 1)) (xs (4 * j + 2)) (xs (4 * j + 3))).fr (Lc1 ++ [q9])) dL_law_296 kM_X6_setBase kL_L_119 kV_X6_setBase (hm1.1.of (List.mem_append_left _ hm1.1.1) rfl) rfl rfl rfl (Nat.le_of_ble_eq_true rfl) ⟨by decide, by decide⟩ ⟨by show ce + 3 + 0 ≤ 601024; omega, by show sl + 18 + 0 ≤ 7293034; omega⟩ rfl (fun v7 L7 f7 hq => ?_)
  obtain ⟨L2, f2, ⟨rfl, bq, Aq, Iq, rfl, hm2, hrq⟩, rfl, e3, e4⟩ := hq
  have hm3 := hm2.ext (fun a ha => (e3 a ha).1)
  refine G.sk (st' := [_]) rfl ?_
  refine g_istore (n := 301) (ls' := [_, _, _, _, _, _, _]) C dL_law_299 rfl (by decide) rfl ?_
  refine g_aload_n (n := 302) C dL_law_301 rfl (Or.inr ⟨_, rfl⟩) rfl ?_
  refine g_V (n := 305) (rest := []) C ((k6_thrown hE hl hm3).fr (Lc1 ++ [q9])) dL_law_302 kM_X6_thrown kL_L_113 kV_X6_thrown (hm3.1.of (List.mem_append_left _ hm3.1.1) rfl) rfl rfl rfl (Nat.le_of_ble_eq_true rfl) ⟨by decide, by decide⟩ ⟨by show ce + 3 + 0 + 0 ≤ 601024; omega, by show sl + 18 + 0 + 0 ≤ 7293034; omega⟩ rfl (fun v6 L6 f6 hq => ?_)
  obtain ⟨L3, f3, ⟨rfl, rfl, rfl⟩, rfl, e5, e6⟩ := hq
  have hm4 := hm3.ext (fun a ha => (e5 a ha).1)
  obtain ⟨h27, hg1, hcw⟩ := hall bq Aq Iq hrq
  have hfx : ∀ a, a ∈ Lc1 ++ [q9] → f6 a = f1 a := fun a ha => (e6 a ha).trans ((e4 a ha).trans (e1 a ha).1)
  have ho6 := (hfx q9 (List.mem_append_right _ List.mem_cons_self)).trans ho1
  refine G.sk (st' := [_]) rfl ?_
  refine g_iload (n := 307) C dL_law_305 rfl rfl ?_
  refine g_icmp_eq (n := 310) (tgt := 312) C dL_law_307 (by decide) rfl (fun h307 => ?_) (fun h307 => absurd h27 h307)
  refine g_iload (n := 314) C dL_law_312 rfl rfl ?_
  refine g_if_ne (n := 317) (tgt := 329) C dL_law_314 (by decide) rfl (fun h314 => ?_) (fun h314 => ?_)
  · refine g_goto (tgt := 2021) C dL_law_329 (by decide) ?_
    refine G.swap ?_
    refine G.weak (ls' := [some (.ref b9), some (.ref (bk 0)), some (.ref mo), some (.ref q9), some (.int (nI (4 * j))), none, none]) ?_ rfl lw_weak
    refine G.mono (ce' := ce + 57) (sl' := sl + 474) (by omega) (by omega) (kk Lc1 f6 Aq Iq ⟨hcw.ext (fun a ha => hfx a (List.mem_append_left _ ha)), ⟨g1, ho6⟩, ad, hm4⟩)
  · have hw0 : w = 0 := gn_inj (by omega) (by omega) h314
    refine g_aload_n (n := 318) C dL_law_317 rfl (Or.inr ⟨_, rfl⟩) rfl ?_
    refine g_iconst (n := 319) (v := nI 0) C dL_law_318 rfl rfl ?_
    refine g_lald (n := 320) C dL_law_319 (⟨List.mem_append_right _ (List.mem_append_right _ List.mem_cons_self), ho6⟩ : gH (Lm ++ (Lc1 ++ [q9])) f6 q9 (.inl (cy 2, 1, .inr (.inl g1)))) rfl (by omega) (by decide) rfl ?_
    refine g_iload (n := 322) C dL_law_320 rfl rfl ?_
    refine g_i2l (n := 323) C dL_law_322 rfl ?_
    refine g_lcmp (n := 324) C dL_law_323 (hg1 hw0) rfl ?_
    refine g_if_eq (n := 327) (tgt := 329) C dL_law_324 (by decide) rfl (fun h324 => ?_) (fun h324 => absurd rfl h324)
    refine g_goto (tgt := 2021) C dL_law_329 (by decide) ?_
    refine G.swap ?_
    refine G.weak (ls' := [some (.ref b9), some (.ref (bk 0)), some (.ref mo), some (.ref q9), some (.int (nI (4 * j))), none, none]) ?_ rfl lw_weak
    refine G.mono (ce' := ce + 57) (sl' := sl + 474) (by omega) (by omega) (kk Lc1 f6 Aq Iq ⟨hcw.ext (fun a ha => hfx a (List.mem_append_left _ ha)), ⟨g1, ho6⟩, ad, hm4⟩)
theorem lc_reset (C : gC p l e room_1 s m args below meth c s0 D cy [] code 7 RL) (hN : gN9 s0) {b9 N : Nat} {xs : Nat → Int32} (hX : va_X b9 N xs s s.heap) (hbl : b9 < s.heap.size) (hN9 : N ≤ 2048) {j : Nat} (hj : 4 * j + 4 ≤ N) {Lc Lm : List Nat} {f : gF} {A : Nat → Nat → Int32} {I : Nat → Int32} {co mo q9 : Nat} (hw : LWD cy co mo q9 A I Lc Lm f) {ce sl : Nat} (hce : ce + 57 ≤ 601024) (hsl : sl + 474 ≤ 7293034) (kk : ∀ (Lc1 : List Nat) (f1 : gF) (A1 : Nat → Nat → Int32) (I1 : Nat → Int32), LWD cy co mo q9 A1 I1 Lc1 Lm f1 → G p l e room_1 s m args below meth c Q D [] 7 ((Lc1 ++ [q9]) ++ Lm) f1 (ce + 57) (sl + 474) 2021 [some (.ref b9), some (.ref co), some (.ref mo), some (.ref q9), some (.int (nI (4 * j))), none, none] ([])) : G p l e room_1 s m args below meth c Q D [] 7 ((Lc ++ [q9]) ++ Lm) f ce sl 332 [some (.ref b9), some (.ref co), some (.ref mo), some (.ref q9), some (.int (nI (4 * j))), none, none] ([]) := by
  obtain ⟨⟨bk, n, X, Is, PR, PL, S, rfl, hR, hB9, hC9⟩, ⟨g0, hf9⟩, ad, hm⟩ := hw
  have hE := C.2.2.2.2.2.1
  have hl := C.2.2.2.2.2.2.2
  obtain ⟨hI7, hn9, hPR, hSh, hPL, hPb, -⟩ := hR.nv
  have hRec := hR.rec9
  obtain ⟨TG, hTG⟩ := hR.tgs
  refine G.swap ?_
  refine g_peek C ((k6_reset hE hl hm (xs (4 * j + 1)) (xs (4 * j + 2))).fr (Lc ++ [q9])) dL_law_364 kM_X6_reset kL_L_122 kV_X6_reset (hm.1.of (List.mem_append_left _ hm.1.1) rfl) rfl rfl ⟨by decide, by decide⟩ ⟨by show ce + 0 ≤ 601024; omega, by show sl + 0 ≤ 7293034; omega⟩ (fun v8 L8 f8 hq => ?_)
  obtain ⟨Lx, fx, ⟨-, bb, Ab, Ib, -, -, hrl⟩, -⟩ := hq
  refine G.swap ?_
  refine g_aload_n (n := 333) C dL_law_332 rfl (Or.inr ⟨_, rfl⟩) rfl ?_
  refine g_aload_n (n := 334) C dL_law_333 rfl (Or.inr ⟨_, rfl⟩) rfl ?_
  refine g_iload (n := 336) C dL_law_334 rfl rfl ?_
  refine g_iconst (n := 337) (v := nI 1) C dL_law_336 rfl rfl ?_
  refine g_iaddN (n := 338) C dL_law_337 rfl ?_
  refine g_sld (n := 339) (j := 4 * j + 1) C hX hbl List.not_mem_nil dL_law_338 rfl (by omega) (by omega) rfl ?_
  refine g_aload_n (n := 340) C dL_law_339 rfl (Or.inr ⟨_, rfl⟩) rfl ?_
  refine g_iload (n := 342) C dL_law_340 rfl rfl ?_
  refine g_iconst (n := 343) (v := nI 2) C dL_law_342 rfl rfl ?_
  refine g_iaddN (n := 344) C dL_law_343 rfl ?_
  refine g_sld (n := 345) (j := 4 * j + 2) C hX hbl List.not_mem_nil dL_law_344 rfl (by omega) (by omega) rfl ?_
  refine g_aload_n (n := 346) C dL_law_345 rfl (Or.inr ⟨_, rfl⟩) rfl ?_
  refine g_SH (n := 349) (rest := []) C ((kw_reset hE hl hR hB9 hC9 (xs (4 * j + 1)) (xs (4 * j + 2)) (k5_reset hE hl hR hB9 hC9 (xs (4 * j + 1)) (xs (4 * j + 2))) ⟨bb, Ab, Ib, hrl⟩ (fun b A1 I1 w hr h27 h0 hT => by
      obtain ⟨w2, hw2, hI, -⟩ := hr
      have e := gn_inj (by have := cd2_lt hw2; omega) (by omega) ((show nI w2 = I1 27 by rw [hI]; rfl).trans h27)
      have := cd2_lt hw2
      omega) hN hf9).fr Lm) dL_law_346 kH_reset (List.mem_of_getElem? (i := 321) (by decide +kernel)) kT_reset rfl rfl (Nat.le_of_ble_eq_true rfl) ⟨by decide, by decide⟩ ⟨by show ce + 3 ≤ 601024; omega, by show sl + 18 ≤ 7293034; omega⟩ rfl (fun v8 L8 f8 hq => ?_)
  obtain ⟨L1, f1, hq, rfl, e1, e2⟩ := hq
  obtain ⟨Lc1, g1, rfl, ho1, w, hw4, rfl, hall⟩ := hq
  have hm1 := hm.ext e2
  refine G.sk (st' := [_]) rfl ?_
  refine G.swap ?_
  refine g_istore (n := 351) (ls' := [_, _, _, _, _, _, _]) C dL_law_349 rfl (by decide) rfl ?_
  refine g_aload_n (n := 352) C dL_law_351 rfl (Or.inr ⟨_, rfl⟩) rfl ?_
  refine g_aload_n (n := 353) C dL_law_352 rfl (Or.inr ⟨_, rfl⟩) rfl ?_
  refine g_iload (n := 355) C dL_law_353 rfl rfl ?_
  refine g_iconst (n := 356) (v := nI 1) C dL_law_355 rfl rfl ?_
  refine g_iaddN (n := 357) C dL_law_356 rfl ?_
  refine g_sld (n := 358) (j := 4 * j + 1) C hX hbl List.not_mem_nil dL_law_357 rfl (by omega) (by omega) rfl ?_
  refine g_aload_n (n := 359) C dL_law_358 rfl (Or.inr ⟨_, rfl⟩) rfl ?_
  refine g_iload (n := 361) C dL_law_359 rfl rfl ?_
  refine g_iconst (n := 362) (v := nI 2) C dL_law_361 rfl rfl ?_
  refine g_iaddN (n := 363) C dL_law_362 rfl ?_
  refine g_sld (n := 364) (j := 4 * j + 2) C hX hbl List.not_mem_nil dL_law_363 rfl (by omega) (by omega) rfl ?_
  refine g_V (n := 367) (rest := []) C ((k6_reset hE hl hm1 (xs (4 * j + 1)) (xs (4 * j + 2))).fr (Lc1 ++ [q9])) dL_law_364 kM_X6_reset kL_L_122 kV_X6_reset (hm1.1.of (List.mem_append_left _ hm1.1.1) rfl) rfl rfl rfl (Nat.le_of_ble_eq_true rfl) ⟨by decide, by decide⟩ ⟨by show ce + 3 + 0 ≤ 601024; omega, by show sl + 18 + 0 ≤ 7293034; omega⟩ rfl (fun v7 L7 f7 hq => ?_)
  obtain ⟨L2, f2, ⟨rfl, bq, Aq, Iq, rfl, hm2, hrq⟩, rfl, e3, e4⟩ := hq
  have hm3 := hm2.ext (fun a ha => (e3 a ha).1)
  refine G.sk (st' := [_]) rfl ?_
  refine g_istore (n := 369) (ls' := [_, _, _, _, _, _, _]) C dL_law_367 rfl (by decide) rfl ?_
  refine g_aload_n (n := 370) C dL_law_369 rfl (Or.inr ⟨_, rfl⟩) rfl ?_
  refine g_V (n := 373) (rest := []) C ((k6_thrown hE hl hm3).fr (Lc1 ++ [q9])) dL_law_370 kM_X6_thrown kL_L_113 kV_X6_thrown (hm3.1.of (List.mem_append_left _ hm3.1.1) rfl) rfl rfl rfl (Nat.le_of_ble_eq_true rfl) ⟨by decide, by decide⟩ ⟨by show ce + 3 + 0 + 0 ≤ 601024; omega, by show sl + 18 + 0 + 0 ≤ 7293034; omega⟩ rfl (fun v6 L6 f6 hq => ?_)
  obtain ⟨L3, f3, ⟨rfl, rfl, rfl⟩, rfl, e5, e6⟩ := hq
  have hm4 := hm3.ext (fun a ha => (e5 a ha).1)
  obtain ⟨h27, hg1, hcw⟩ := hall bq Aq Iq hrq
  have hfx : ∀ a, a ∈ Lc1 ++ [q9] → f6 a = f1 a := fun a ha => (e6 a ha).trans ((e4 a ha).trans (e1 a ha).1)
  have ho6 := (hfx q9 (List.mem_append_right _ List.mem_cons_self)).trans ho1
  refine G.sk (st' := [_]) rfl ?_
  refine g_iload (n := 375) C dL_law_373 rfl rfl ?_
  refine g_icmp_eq (n := 378) (tgt := 380) C dL_law_375 (by decide) rfl (fun h375 => ?_) (fun h375 => absurd h27 h375)
  refine g_iload (n := 382) C dL_law_380 rfl rfl ?_
  refine g_if_ne (n := 385) (tgt := 397) C dL_law_382 (by decide) rfl (fun h382 => ?_) (fun h382 => ?_)
  · refine g_goto (tgt := 2021) C dL_law_397 (by decide) ?_
    refine G.swap ?_
    refine G.weak (ls' := [some (.ref b9), some (.ref (bk 0)), some (.ref mo), some (.ref q9), some (.int (nI (4 * j))), none, none]) ?_ rfl lw_weak
    refine G.mono (ce' := ce + 57) (sl' := sl + 474) (by omega) (by omega) (kk Lc1 f6 Aq Iq ⟨hcw.ext (fun a ha => hfx a (List.mem_append_left _ ha)), ⟨g1, ho6⟩, ad, hm4⟩)
  · have hw0 : w = 0 := gn_inj (by omega) (by omega) h382
    refine g_aload_n (n := 386) C dL_law_385 rfl (Or.inr ⟨_, rfl⟩) rfl ?_
    refine g_iconst (n := 387) (v := nI 0) C dL_law_386 rfl rfl ?_
    refine g_lald (n := 388) C dL_law_387 (⟨List.mem_append_right _ (List.mem_append_right _ List.mem_cons_self), ho6⟩ : gH (Lm ++ (Lc1 ++ [q9])) f6 q9 (.inl (cy 2, 1, .inr (.inl g1)))) rfl (by omega) (by decide) rfl ?_
    refine g_iload (n := 390) C dL_law_388 rfl rfl ?_
    refine g_i2l (n := 391) C dL_law_390 rfl ?_
    refine g_lcmp (n := 392) C dL_law_391 (hg1 hw0) rfl ?_
    refine g_if_eq (n := 395) (tgt := 397) C dL_law_392 (by decide) rfl (fun h392 => ?_) (fun h392 => absurd rfl h392)
    refine g_goto (tgt := 2021) C dL_law_397 (by decide) ?_
    refine G.swap ?_
    refine G.weak (ls' := [some (.ref b9), some (.ref (bk 0)), some (.ref mo), some (.ref q9), some (.int (nI (4 * j))), none, none]) ?_ rfl lw_weak
    refine G.mono (ce' := ce + 57) (sl' := sl + 474) (by omega) (by omega) (kk Lc1 f6 Aq Iq ⟨hcw.ext (fun a ha => hfx a (List.mem_append_left _ ha)), ⟨g1, ho6⟩, ad, hm4⟩)
theorem lc_addCopy (C : gC p l e room_1 s m args below meth c s0 D cy [] code 7 RL) (hN : gN9 s0) {b9 N : Nat} {xs : Nat → Int32} (hX : va_X b9 N xs s s.heap) (hbl : b9 < s.heap.size) (hN9 : N ≤ 2048) {j : Nat} (hj : 4 * j + 4 ≤ N) {Lc Lm : List Nat} {f : gF} {A : Nat → Nat → Int32} {I : Nat → Int32} {co mo q9 : Nat} (hw : LWD cy co mo q9 A I Lc Lm f) {ce sl : Nat} (hce : ce + 57 ≤ 601024) (hsl : sl + 474 ≤ 7293034) (kk : ∀ (Lc1 : List Nat) (f1 : gF) (A1 : Nat → Nat → Int32) (I1 : Nat → Int32), LWD cy co mo q9 A1 I1 Lc1 Lm f1 → G p l e room_1 s m args below meth c Q D [] 7 ((Lc1 ++ [q9]) ++ Lm) f1 (ce + 57) (sl + 474) 2021 [some (.ref b9), some (.ref co), some (.ref mo), some (.ref q9), some (.int (nI (4 * j))), none, none] ([])) : G p l e room_1 s m args below meth c Q D [] 7 ((Lc ++ [q9]) ++ Lm) f ce sl 400 [some (.ref b9), some (.ref co), some (.ref mo), some (.ref q9), some (.int (nI (4 * j))), none, none] ([]) := by
  obtain ⟨⟨bk, n, X, Is, PR, PL, S, rfl, hR, hB9, hC9⟩, ⟨g0, hf9⟩, ad, hm⟩ := hw
  have hE := C.2.2.2.2.2.1
  have hl := C.2.2.2.2.2.2.2
  obtain ⟨hI7, hn9, hPR, hSh, hPL, hPb, -⟩ := hR.nv
  have hRec := hR.rec9
  obtain ⟨TG, hTG⟩ := hR.tgs
  refine G.swap ?_
  refine g_peek C ((k6_addCopy hE hl hm hRec (xs (4 * j + 1)) (xs (4 * j + 2)) (xs (4 * j + 3))).fr (Lc ++ [q9])) dL_law_444 kM_X6_addCopy kL_L_125 kV_X6_addCopy (hm.1.of (List.mem_append_left _ hm.1.1) rfl) rfl rfl ⟨by decide, by decide⟩ ⟨by show ce + 0 ≤ 601024; omega, by show sl + 0 ≤ 7293034; omega⟩ (fun v8 L8 f8 hq => ?_)
  obtain ⟨Lx, fx, ⟨-, bb, Ab, Ib, -, -, hrl⟩, -⟩ := hq
  refine G.swap ?_
  refine g_aload_n (n := 401) C dL_law_400 rfl (Or.inr ⟨_, rfl⟩) rfl ?_
  refine g_aload_n (n := 402) C dL_law_401 rfl (Or.inr ⟨_, rfl⟩) rfl ?_
  refine g_iload (n := 404) C dL_law_402 rfl rfl ?_
  refine g_iconst (n := 405) (v := nI 1) C dL_law_404 rfl rfl ?_
  refine g_iaddN (n := 406) C dL_law_405 rfl ?_
  refine g_sld (n := 407) (j := 4 * j + 1) C hX hbl List.not_mem_nil dL_law_406 rfl (by omega) (by omega) rfl ?_
  refine g_aload_n (n := 408) C dL_law_407 rfl (Or.inr ⟨_, rfl⟩) rfl ?_
  refine g_iload (n := 410) C dL_law_408 rfl rfl ?_
  refine g_iconst (n := 411) (v := nI 2) C dL_law_410 rfl rfl ?_
  refine g_iaddN (n := 412) C dL_law_411 rfl ?_
  refine g_sld (n := 413) (j := 4 * j + 2) C hX hbl List.not_mem_nil dL_law_412 rfl (by omega) (by omega) rfl ?_
  refine g_aload_n (n := 414) C dL_law_413 rfl (Or.inr ⟨_, rfl⟩) rfl ?_
  refine g_iload (n := 416) C dL_law_414 rfl rfl ?_
  refine g_iconst (n := 417) (v := nI 3) C dL_law_416 rfl rfl ?_
  refine g_iaddN (n := 418) C dL_law_417 rfl ?_
  refine g_sld (n := 419) (j := 4 * j + 3) C hX hbl List.not_mem_nil dL_law_418 rfl (by omega) (by omega) rfl ?_
  refine g_aload_n (n := 420) C dL_law_419 rfl (Or.inr ⟨_, rfl⟩) rfl ?_
  refine g_SH (n := 423) (rest := []) C ((kw_addCopy hE hl hR hB9 hC9 (xs (4 * j + 1)) (xs (4 * j + 2)) (xs (4 * j + 3)) (k5_addCopy hE hl hR hB9 hC9 (xs (4 * j + 1)) (xs (4 * j + 2)) (xs (4 * j + 3))) ⟨bb, Ab, Ib, hrl⟩ (fun _ _ _ _ _ _ _ h => h) hN hf9).fr Lm) dL_law_420 kH_addCopy (List.mem_of_getElem? (i := 337) (by decide +kernel)) kT_addCopy rfl rfl (Nat.le_of_ble_eq_true rfl) ⟨by decide, by decide⟩ ⟨by show ce + 6 ≤ 601024; omega, by show sl + 30 ≤ 7293034; omega⟩ rfl (fun v8 L8 f8 hq => ?_)
  obtain ⟨L1, f1, hq, rfl, e1, e2⟩ := hq
  obtain ⟨Lc1, g1, rfl, ho1, w, hw4, rfl, hall⟩ := hq
  have hm1 := hm.ext e2
  refine G.sk (st' := [_]) rfl ?_
  refine G.swap ?_
  refine g_istore (n := 425) (ls' := [_, _, _, _, _, _, _]) C dL_law_423 rfl (by decide) rfl ?_
  refine g_aload_n (n := 426) C dL_law_425 rfl (Or.inr ⟨_, rfl⟩) rfl ?_
  refine g_aload_n (n := 427) C dL_law_426 rfl (Or.inr ⟨_, rfl⟩) rfl ?_
  refine g_iload (n := 429) C dL_law_427 rfl rfl ?_
  refine g_iconst (n := 430) (v := nI 1) C dL_law_429 rfl rfl ?_
  refine g_iaddN (n := 431) C dL_law_430 rfl ?_
  refine g_sld (n := 432) (j := 4 * j + 1) C hX hbl List.not_mem_nil dL_law_431 rfl (by omega) (by omega) rfl ?_
  refine g_aload_n (n := 433) C dL_law_432 rfl (Or.inr ⟨_, rfl⟩) rfl ?_
  refine g_iload (n := 435) C dL_law_433 rfl rfl ?_
  refine g_iconst (n := 436) (v := nI 2) C dL_law_435 rfl rfl ?_
  refine g_iaddN (n := 437) C dL_law_436 rfl ?_
  refine g_sld (n := 438) (j := 4 * j + 2) C hX hbl List.not_mem_nil dL_law_437 rfl (by omega) (by omega) rfl ?_
  refine g_aload_n (n := 439) C dL_law_438 rfl (Or.inr ⟨_, rfl⟩) rfl ?_
  refine g_iload (n := 441) C dL_law_439 rfl rfl ?_
  refine g_iconst (n := 442) (v := nI 3) C dL_law_441 rfl rfl ?_
  refine g_iaddN (n := 443) C dL_law_442 rfl ?_
  refine g_sld (n := 444) (j := 4 * j + 3) C hX hbl List.not_mem_nil dL_law_443 rfl (by omega) (by omega) rfl ?_
  refine g_V (n := 447) (rest := []) C ((k6_addCopy hE hl hm1 hRec (xs (4 * j + 1)) (xs (4 * j + 2)) (xs (4 * j + 3))).fr (Lc1 ++ [q9])) dL_law_444 kM_X6_addCopy kL_L_125 kV_X6_addCopy (hm1.1.of (List.mem_append_left _ hm1.1.1) rfl) rfl rfl rfl (Nat.le_of_ble_eq_true rfl) ⟨by decide, by decide⟩ ⟨by show ce + 6 + 0 ≤ 601024; omega, by show sl + 30 + 0 ≤ 7293034; omega⟩ rfl (fun v7 L7 f7 hq => ?_)
  obtain ⟨L2, f2, ⟨rfl, bq, Aq, Iq, rfl, hm2, hrq⟩, rfl, e3, e4⟩ := hq
  have hm3 := hm2.ext (fun a ha => (e3 a ha).1)
  refine G.sk (st' := [_]) rfl ?_
  refine g_istore (n := 449) (ls' := [_, _, _, _, _, _, _]) C dL_law_447 rfl (by decide) rfl ?_
  refine g_aload_n (n := 450) C dL_law_449 rfl (Or.inr ⟨_, rfl⟩) rfl ?_
  refine g_V (n := 453) (rest := []) C ((k6_thrown hE hl hm3).fr (Lc1 ++ [q9])) dL_law_450 kM_X6_thrown kL_L_113 kV_X6_thrown (hm3.1.of (List.mem_append_left _ hm3.1.1) rfl) rfl rfl rfl (Nat.le_of_ble_eq_true rfl) ⟨by decide, by decide⟩ ⟨by show ce + 6 + 0 + 0 ≤ 601024; omega, by show sl + 30 + 0 + 0 ≤ 7293034; omega⟩ rfl (fun v6 L6 f6 hq => ?_)
  obtain ⟨L3, f3, ⟨rfl, rfl, rfl⟩, rfl, e5, e6⟩ := hq
  have hm4 := hm3.ext (fun a ha => (e5 a ha).1)
  obtain ⟨h27, hg1, hcw⟩ := hall bq Aq Iq hrq
  have hfx : ∀ a, a ∈ Lc1 ++ [q9] → f6 a = f1 a := fun a ha => (e6 a ha).trans ((e4 a ha).trans (e1 a ha).1)
  have ho6 := (hfx q9 (List.mem_append_right _ List.mem_cons_self)).trans ho1
  refine G.sk (st' := [_]) rfl ?_
  refine g_iload (n := 455) C dL_law_453 rfl rfl ?_
  refine g_icmp_eq (n := 458) (tgt := 460) C dL_law_455 (by decide) rfl (fun h455 => ?_) (fun h455 => absurd h27 h455)
  refine g_iload (n := 462) C dL_law_460 rfl rfl ?_
  refine g_if_ne (n := 465) (tgt := 477) C dL_law_462 (by decide) rfl (fun h462 => ?_) (fun h462 => ?_)
  · refine g_goto (tgt := 2021) C dL_law_477 (by decide) ?_
    refine G.swap ?_
    refine G.weak (ls' := [some (.ref b9), some (.ref (bk 0)), some (.ref mo), some (.ref q9), some (.int (nI (4 * j))), none, none]) ?_ rfl lw_weak
    refine G.mono (ce' := ce + 57) (sl' := sl + 474) (by omega) (by omega) (kk Lc1 f6 Aq Iq ⟨hcw.ext (fun a ha => hfx a (List.mem_append_left _ ha)), ⟨g1, ho6⟩, ad, hm4⟩)
  · have hw0 : w = 0 := gn_inj (by omega) (by omega) h462
    refine g_aload_n (n := 466) C dL_law_465 rfl (Or.inr ⟨_, rfl⟩) rfl ?_
    refine g_iconst (n := 467) (v := nI 0) C dL_law_466 rfl rfl ?_
    refine g_lald (n := 468) C dL_law_467 (⟨List.mem_append_right _ (List.mem_append_right _ List.mem_cons_self), ho6⟩ : gH (Lm ++ (Lc1 ++ [q9])) f6 q9 (.inl (cy 2, 1, .inr (.inl g1)))) rfl (by omega) (by decide) rfl ?_
    refine g_iload (n := 470) C dL_law_468 rfl rfl ?_
    refine g_i2l (n := 471) C dL_law_470 rfl ?_
    refine g_lcmp (n := 472) C dL_law_471 (hg1 hw0) rfl ?_
    refine g_if_eq (n := 475) (tgt := 477) C dL_law_472 (by decide) rfl (fun h472 => ?_) (fun h472 => absurd rfl h472)
    refine g_goto (tgt := 2021) C dL_law_477 (by decide) ?_
    refine G.swap ?_
    refine G.weak (ls' := [some (.ref b9), some (.ref (bk 0)), some (.ref mo), some (.ref q9), some (.int (nI (4 * j))), none, none]) ?_ rfl lw_weak
    refine G.mono (ce' := ce + 57) (sl' := sl + 474) (by omega) (by omega) (kk Lc1 f6 Aq Iq ⟨hcw.ext (fun a ha => hfx a (List.mem_append_left _ ha)), ⟨g1, ho6⟩, ad, hm4⟩)
theorem lc_addRun (C : gC p l e room_1 s m args below meth c s0 D cy [] code 7 RL) (hN : gN9 s0) {b9 N : Nat} {xs : Nat → Int32} (hX : va_X b9 N xs s s.heap) (hbl : b9 < s.heap.size) (hN9 : N ≤ 2048) {j : Nat} (hj : 4 * j + 4 ≤ N) {Lc Lm : List Nat} {f : gF} {A : Nat → Nat → Int32} {I : Nat → Int32} {co mo q9 : Nat} (hw : LWD cy co mo q9 A I Lc Lm f) {ce sl : Nat} (hce : ce + 57 ≤ 601024) (hsl : sl + 474 ≤ 7293034) (kk : ∀ (Lc1 : List Nat) (f1 : gF) (A1 : Nat → Nat → Int32) (I1 : Nat → Int32), LWD cy co mo q9 A1 I1 Lc1 Lm f1 → G p l e room_1 s m args below meth c Q D [] 7 ((Lc1 ++ [q9]) ++ Lm) f1 (ce + 57) (sl + 474) 2021 [some (.ref b9), some (.ref co), some (.ref mo), some (.ref q9), some (.int (nI (4 * j))), none, none] ([])) : G p l e room_1 s m args below meth c Q D [] 7 ((Lc ++ [q9]) ++ Lm) f ce sl 480 [some (.ref b9), some (.ref co), some (.ref mo), some (.ref q9), some (.int (nI (4 * j))), none, none] ([]) := by
  obtain ⟨⟨bk, n, X, Is, PR, PL, S, rfl, hR, hB9, hC9⟩, ⟨g0, hf9⟩, ad, hm⟩ := hw
  have hE := C.2.2.2.2.2.1
  have hl := C.2.2.2.2.2.2.2
  obtain ⟨hI7, hn9, hPR, hSh, hPL, hPb, -⟩ := hR.nv
  have hRec := hR.rec9
  obtain ⟨TG, hTG⟩ := hR.tgs
  refine G.swap ?_
  refine g_peek C ((k6_addRun hE hl hm hRec (xs (4 * j + 1)) (xs (4 * j + 2)) (xs (4 * j + 3))).fr (Lc ++ [q9])) dL_law_524 kM_X6_addRun kL_L_128 kV_X6_addRun (hm.1.of (List.mem_append_left _ hm.1.1) rfl) rfl rfl ⟨by decide, by decide⟩ ⟨by show ce + 0 ≤ 601024; omega, by show sl + 0 ≤ 7293034; omega⟩ (fun v8 L8 f8 hq => ?_)
  obtain ⟨Lx, fx, ⟨-, bb, Ab, Ib, -, -, hrl⟩, -⟩ := hq
  refine G.swap ?_
  refine g_aload_n (n := 481) C dL_law_480 rfl (Or.inr ⟨_, rfl⟩) rfl ?_
  refine g_aload_n (n := 482) C dL_law_481 rfl (Or.inr ⟨_, rfl⟩) rfl ?_
  refine g_iload (n := 484) C dL_law_482 rfl rfl ?_
  refine g_iconst (n := 485) (v := nI 1) C dL_law_484 rfl rfl ?_
  refine g_iaddN (n := 486) C dL_law_485 rfl ?_
  refine g_sld (n := 487) (j := 4 * j + 1) C hX hbl List.not_mem_nil dL_law_486 rfl (by omega) (by omega) rfl ?_
  refine g_aload_n (n := 488) C dL_law_487 rfl (Or.inr ⟨_, rfl⟩) rfl ?_
  refine g_iload (n := 490) C dL_law_488 rfl rfl ?_
  refine g_iconst (n := 491) (v := nI 2) C dL_law_490 rfl rfl ?_
  refine g_iaddN (n := 492) C dL_law_491 rfl ?_
  refine g_sld (n := 493) (j := 4 * j + 2) C hX hbl List.not_mem_nil dL_law_492 rfl (by omega) (by omega) rfl ?_
  refine g_aload_n (n := 494) C dL_law_493 rfl (Or.inr ⟨_, rfl⟩) rfl ?_
  refine g_iload (n := 496) C dL_law_494 rfl rfl ?_
  refine g_iconst (n := 497) (v := nI 3) C dL_law_496 rfl rfl ?_
  refine g_iaddN (n := 498) C dL_law_497 rfl ?_
  refine g_sld (n := 499) (j := 4 * j + 3) C hX hbl List.not_mem_nil dL_law_498 rfl (by omega) (by omega) rfl ?_
  refine g_aload_n (n := 500) C dL_law_499 rfl (Or.inr ⟨_, rfl⟩) rfl ?_
  refine g_SH (n := 503) (rest := []) C ((kw_addRun hE hl hR hB9 hC9 (xs (4 * j + 1)) (xs (4 * j + 2)) (xs (4 * j + 3)) (k5_addRun hE hl hR hB9 hC9 (xs (4 * j + 1)) (xs (4 * j + 2)) (xs (4 * j + 3))) ⟨bb, Ab, Ib, hrl⟩ (fun _ _ _ _ _ _ _ h => h) hN hf9).fr Lm) dL_law_500 kH_addRun (List.mem_of_getElem? (i := 386) (by decide +kernel)) kT_addRun rfl rfl (Nat.le_of_ble_eq_true rfl) ⟨by decide, by decide⟩ ⟨by show ce + 6 ≤ 601024; omega, by show sl + 30 ≤ 7293034; omega⟩ rfl (fun v8 L8 f8 hq => ?_)
  obtain ⟨L1, f1, hq, rfl, e1, e2⟩ := hq
  obtain ⟨Lc1, g1, rfl, ho1, w, hw4, rfl, hall⟩ := hq
  have hm1 := hm.ext e2
  refine G.sk (st' := [_]) rfl ?_
  refine G.swap ?_
  refine g_istore (n := 505) (ls' := [_, _, _, _, _, _, _]) C dL_law_503 rfl (by decide) rfl ?_
  refine g_aload_n (n := 506) C dL_law_505 rfl (Or.inr ⟨_, rfl⟩) rfl ?_
  refine g_aload_n (n := 507) C dL_law_506 rfl (Or.inr ⟨_, rfl⟩) rfl ?_
  refine g_iload (n := 509) C dL_law_507 rfl rfl ?_
  refine g_iconst (n := 510) (v := nI 1) C dL_law_509 rfl rfl ?_
  refine g_iaddN (n := 511) C dL_law_510 rfl ?_
  refine g_sld (n := 512) (j := 4 * j + 1) C hX hbl List.not_mem_nil dL_law_511 rfl (by omega) (by omega) rfl ?_
  refine g_aload_n (n := 513) C dL_law_512 rfl (Or.inr ⟨_, rfl⟩) rfl ?_
  refine g_iload (n := 515) C dL_law_513 rfl rfl ?_
  refine g_iconst (n := 516) (v := nI 2) C dL_law_515 rfl rfl ?_
  refine g_iaddN (n := 517) C dL_law_516 rfl ?_
  refine g_sld (n := 518) (j := 4 * j + 2) C hX hbl List.not_mem_nil dL_law_517 rfl (by omega) (by omega) rfl ?_
  refine g_aload_n (n := 519) C dL_law_518 rfl (Or.inr ⟨_, rfl⟩) rfl ?_
  refine g_iload (n := 521) C dL_law_519 rfl rfl ?_
  refine g_iconst (n := 522) (v := nI 3) C dL_law_521 rfl rfl ?_
  refine g_iaddN (n := 523) C dL_law_522 rfl ?_
  refine g_sld (n := 524) (j := 4 * j + 3) C hX hbl List.not_mem_nil dL_law_523 rfl (by omega) (by omega) rfl ?_
  refine g_V (n := 527) (rest := []) C ((k6_addRun hE hl hm1 hRec (xs (4 * j + 1)) (xs (4 * j + 2)) (xs (4 * j + 3))).fr (Lc1 ++ [q9])) dL_law_524 kM_X6_addRun kL_L_128 kV_X6_addRun (hm1.1.of (List.mem_append_left _ hm1.1.1) rfl) rfl rfl rfl (Nat.le_of_ble_eq_true rfl) ⟨by decide, by decide⟩ ⟨by show ce + 6 + 0 ≤ 601024; omega, by show sl + 30 + 0 ≤ 7293034; omega⟩ rfl (fun v7 L7 f7 hq => ?_)
  obtain ⟨L2, f2, ⟨rfl, bq, Aq, Iq, rfl, hm2, hrq⟩, rfl, e3, e4⟩ := hq
  have hm3 := hm2.ext (fun a ha => (e3 a ha).1)
  refine G.sk (st' := [_]) rfl ?_
  refine g_istore (n := 529) (ls' := [_, _, _, _, _, _, _]) C dL_law_527 rfl (by decide) rfl ?_
  refine g_aload_n (n := 530) C dL_law_529 rfl (Or.inr ⟨_, rfl⟩) rfl ?_
  refine g_V (n := 533) (rest := []) C ((k6_thrown hE hl hm3).fr (Lc1 ++ [q9])) dL_law_530 kM_X6_thrown kL_L_113 kV_X6_thrown (hm3.1.of (List.mem_append_left _ hm3.1.1) rfl) rfl rfl rfl (Nat.le_of_ble_eq_true rfl) ⟨by decide, by decide⟩ ⟨by show ce + 6 + 0 + 0 ≤ 601024; omega, by show sl + 30 + 0 + 0 ≤ 7293034; omega⟩ rfl (fun v6 L6 f6 hq => ?_)
  obtain ⟨L3, f3, ⟨rfl, rfl, rfl⟩, rfl, e5, e6⟩ := hq
  have hm4 := hm3.ext (fun a ha => (e5 a ha).1)
  obtain ⟨h27, hg1, hcw⟩ := hall bq Aq Iq hrq
  have hfx : ∀ a, a ∈ Lc1 ++ [q9] → f6 a = f1 a := fun a ha => (e6 a ha).trans ((e4 a ha).trans (e1 a ha).1)
  have ho6 := (hfx q9 (List.mem_append_right _ List.mem_cons_self)).trans ho1
  refine G.sk (st' := [_]) rfl ?_
  refine g_iload (n := 535) C dL_law_533 rfl rfl ?_
  refine g_icmp_eq (n := 538) (tgt := 540) C dL_law_535 (by decide) rfl (fun h535 => ?_) (fun h535 => absurd h27 h535)
  refine g_iload (n := 542) C dL_law_540 rfl rfl ?_
  refine g_if_ne (n := 545) (tgt := 557) C dL_law_542 (by decide) rfl (fun h542 => ?_) (fun h542 => ?_)
  · refine g_goto (tgt := 2021) C dL_law_557 (by decide) ?_
    refine G.swap ?_
    refine G.weak (ls' := [some (.ref b9), some (.ref (bk 0)), some (.ref mo), some (.ref q9), some (.int (nI (4 * j))), none, none]) ?_ rfl lw_weak
    refine G.mono (ce' := ce + 57) (sl' := sl + 474) (by omega) (by omega) (kk Lc1 f6 Aq Iq ⟨hcw.ext (fun a ha => hfx a (List.mem_append_left _ ha)), ⟨g1, ho6⟩, ad, hm4⟩)
  · have hw0 : w = 0 := gn_inj (by omega) (by omega) h542
    refine g_aload_n (n := 546) C dL_law_545 rfl (Or.inr ⟨_, rfl⟩) rfl ?_
    refine g_iconst (n := 547) (v := nI 0) C dL_law_546 rfl rfl ?_
    refine g_lald (n := 548) C dL_law_547 (⟨List.mem_append_right _ (List.mem_append_right _ List.mem_cons_self), ho6⟩ : gH (Lm ++ (Lc1 ++ [q9])) f6 q9 (.inl (cy 2, 1, .inr (.inl g1)))) rfl (by omega) (by decide) rfl ?_
    refine g_iload (n := 550) C dL_law_548 rfl rfl ?_
    refine g_i2l (n := 551) C dL_law_550 rfl ?_
    refine g_lcmp (n := 552) C dL_law_551 (hg1 hw0) rfl ?_
    refine g_if_eq (n := 555) (tgt := 557) C dL_law_552 (by decide) rfl (fun h552 => ?_) (fun h552 => absurd rfl h552)
    refine g_goto (tgt := 2021) C dL_law_557 (by decide) ?_
    refine G.swap ?_
    refine G.weak (ls' := [some (.ref b9), some (.ref (bk 0)), some (.ref mo), some (.ref q9), some (.int (nI (4 * j))), none, none]) ?_ rfl lw_weak
    refine G.mono (ce' := ce + 57) (sl' := sl + 474) (by omega) (by omega) (kk Lc1 f6 Aq Iq ⟨hcw.ext (fun a ha => hfx a (List.mem_append_left _ ha)), ⟨g1, ho6⟩, ad, hm4⟩)
theorem lc_addMove (C : gC p l e room_1 s m args below meth c s0 D cy [] code 7 RL) (hN : gN9 s0) {b9 N : Nat} {xs : Nat → Int32} (hX : va_X b9 N xs s s.heap) (hbl : b9 < s.heap.size) (hN9 : N ≤ 2048) {j : Nat} (hj : 4 * j + 4 ≤ N) {Lc Lm : List Nat} {f : gF} {A : Nat → Nat → Int32} {I : Nat → Int32} {co mo q9 : Nat} (hw : LWD cy co mo q9 A I Lc Lm f) {ce sl : Nat} (hce : ce + 57 ≤ 601024) (hsl : sl + 474 ≤ 7293034) (kk : ∀ (Lc1 : List Nat) (f1 : gF) (A1 : Nat → Nat → Int32) (I1 : Nat → Int32), LWD cy co mo q9 A1 I1 Lc1 Lm f1 → G p l e room_1 s m args below meth c Q D [] 7 ((Lc1 ++ [q9]) ++ Lm) f1 (ce + 57) (sl + 474) 2021 [some (.ref b9), some (.ref co), some (.ref mo), some (.ref q9), some (.int (nI (4 * j))), none, none] ([])) : G p l e room_1 s m args below meth c Q D [] 7 ((Lc ++ [q9]) ++ Lm) f ce sl 560 [some (.ref b9), some (.ref co), some (.ref mo), some (.ref q9), some (.int (nI (4 * j))), none, none] ([]) := by
  obtain ⟨⟨bk, n, X, Is, PR, PL, S, rfl, hR, hB9, hC9⟩, ⟨g0, hf9⟩, ad, hm⟩ := hw
  have hE := C.2.2.2.2.2.1
  have hl := C.2.2.2.2.2.2.2
  obtain ⟨hI7, hn9, hPR, hSh, hPL, hPb, -⟩ := hR.nv
  have hRec := hR.rec9
  obtain ⟨TG, hTG⟩ := hR.tgs
  refine G.swap ?_
  refine g_peek C ((k6_addMove hE hl hm hRec (xs (4 * j + 1)) (xs (4 * j + 2)) (xs (4 * j + 3))).fr (Lc ++ [q9])) dL_law_604 kM_X6_addMove kL_L_131 kV_X6_addMove (hm.1.of (List.mem_append_left _ hm.1.1) rfl) rfl rfl ⟨by decide, by decide⟩ ⟨by show ce + 0 ≤ 601024; omega, by show sl + 0 ≤ 7293034; omega⟩ (fun v8 L8 f8 hq => ?_)
  obtain ⟨Lx, fx, ⟨-, bb, Ab, Ib, -, -, hrl⟩, -⟩ := hq
  refine G.swap ?_
  refine g_aload_n (n := 561) C dL_law_560 rfl (Or.inr ⟨_, rfl⟩) rfl ?_
  refine g_aload_n (n := 562) C dL_law_561 rfl (Or.inr ⟨_, rfl⟩) rfl ?_
  refine g_iload (n := 564) C dL_law_562 rfl rfl ?_
  refine g_iconst (n := 565) (v := nI 1) C dL_law_564 rfl rfl ?_
  refine g_iaddN (n := 566) C dL_law_565 rfl ?_
  refine g_sld (n := 567) (j := 4 * j + 1) C hX hbl List.not_mem_nil dL_law_566 rfl (by omega) (by omega) rfl ?_
  refine g_aload_n (n := 568) C dL_law_567 rfl (Or.inr ⟨_, rfl⟩) rfl ?_
  refine g_iload (n := 570) C dL_law_568 rfl rfl ?_
  refine g_iconst (n := 571) (v := nI 2) C dL_law_570 rfl rfl ?_
  refine g_iaddN (n := 572) C dL_law_571 rfl ?_
  refine g_sld (n := 573) (j := 4 * j + 2) C hX hbl List.not_mem_nil dL_law_572 rfl (by omega) (by omega) rfl ?_
  refine g_aload_n (n := 574) C dL_law_573 rfl (Or.inr ⟨_, rfl⟩) rfl ?_
  refine g_iload (n := 576) C dL_law_574 rfl rfl ?_
  refine g_iconst (n := 577) (v := nI 3) C dL_law_576 rfl rfl ?_
  refine g_iaddN (n := 578) C dL_law_577 rfl ?_
  refine g_sld (n := 579) (j := 4 * j + 3) C hX hbl List.not_mem_nil dL_law_578 rfl (by omega) (by omega) rfl ?_
  refine g_aload_n (n := 580) C dL_law_579 rfl (Or.inr ⟨_, rfl⟩) rfl ?_
  refine g_SH (n := 583) (rest := []) C ((kw_addMove hE hl hR hB9 hC9 (xs (4 * j + 1)) (xs (4 * j + 2)) (xs (4 * j + 3)) (k5_addMove hE hl hR hB9 hC9 (xs (4 * j + 1)) (xs (4 * j + 2)) (xs (4 * j + 3))) ⟨bb, Ab, Ib, hrl⟩ (fun _ _ _ _ _ _ _ h => h) hN hf9).fr Lm) dL_law_580 kH_addMove (List.mem_of_getElem? (i := 393) (by decide +kernel)) kT_addMove rfl rfl (Nat.le_of_ble_eq_true rfl) ⟨by decide, by decide⟩ ⟨by show ce + 6 ≤ 601024; omega, by show sl + 30 ≤ 7293034; omega⟩ rfl (fun v8 L8 f8 hq => ?_)
  obtain ⟨L1, f1, hq, rfl, e1, e2⟩ := hq
  obtain ⟨Lc1, g1, rfl, ho1, w, hw4, rfl, hall⟩ := hq
  have hm1 := hm.ext e2
  refine G.sk (st' := [_]) rfl ?_
  refine G.swap ?_
  refine g_istore (n := 585) (ls' := [_, _, _, _, _, _, _]) C dL_law_583 rfl (by decide) rfl ?_
  refine g_aload_n (n := 586) C dL_law_585 rfl (Or.inr ⟨_, rfl⟩) rfl ?_
  refine g_aload_n (n := 587) C dL_law_586 rfl (Or.inr ⟨_, rfl⟩) rfl ?_
  refine g_iload (n := 589) C dL_law_587 rfl rfl ?_
  refine g_iconst (n := 590) (v := nI 1) C dL_law_589 rfl rfl ?_
  refine g_iaddN (n := 591) C dL_law_590 rfl ?_
  refine g_sld (n := 592) (j := 4 * j + 1) C hX hbl List.not_mem_nil dL_law_591 rfl (by omega) (by omega) rfl ?_
  refine g_aload_n (n := 593) C dL_law_592 rfl (Or.inr ⟨_, rfl⟩) rfl ?_
  refine g_iload (n := 595) C dL_law_593 rfl rfl ?_
  refine g_iconst (n := 596) (v := nI 2) C dL_law_595 rfl rfl ?_
  refine g_iaddN (n := 597) C dL_law_596 rfl ?_
  refine g_sld (n := 598) (j := 4 * j + 2) C hX hbl List.not_mem_nil dL_law_597 rfl (by omega) (by omega) rfl ?_
  refine g_aload_n (n := 599) C dL_law_598 rfl (Or.inr ⟨_, rfl⟩) rfl ?_
  refine g_iload (n := 601) C dL_law_599 rfl rfl ?_
  refine g_iconst (n := 602) (v := nI 3) C dL_law_601 rfl rfl ?_
  refine g_iaddN (n := 603) C dL_law_602 rfl ?_
  refine g_sld (n := 604) (j := 4 * j + 3) C hX hbl List.not_mem_nil dL_law_603 rfl (by omega) (by omega) rfl ?_
  refine g_V (n := 607) (rest := []) C ((k6_addMove hE hl hm1 hRec (xs (4 * j + 1)) (xs (4 * j + 2)) (xs (4 * j + 3))).fr (Lc1 ++ [q9])) dL_law_604 kM_X6_addMove kL_L_131 kV_X6_addMove (hm1.1.of (List.mem_append_left _ hm1.1.1) rfl) rfl rfl rfl (Nat.le_of_ble_eq_true rfl) ⟨by decide, by decide⟩ ⟨by show ce + 6 + 0 ≤ 601024; omega, by show sl + 30 + 0 ≤ 7293034; omega⟩ rfl (fun v7 L7 f7 hq => ?_)
  obtain ⟨L2, f2, ⟨rfl, bq, Aq, Iq, rfl, hm2, hrq⟩, rfl, e3, e4⟩ := hq
  have hm3 := hm2.ext (fun a ha => (e3 a ha).1)
  refine G.sk (st' := [_]) rfl ?_
  refine g_istore (n := 609) (ls' := [_, _, _, _, _, _, _]) C dL_law_607 rfl (by decide) rfl ?_
  refine g_aload_n (n := 610) C dL_law_609 rfl (Or.inr ⟨_, rfl⟩) rfl ?_
  refine g_V (n := 613) (rest := []) C ((k6_thrown hE hl hm3).fr (Lc1 ++ [q9])) dL_law_610 kM_X6_thrown kL_L_113 kV_X6_thrown (hm3.1.of (List.mem_append_left _ hm3.1.1) rfl) rfl rfl rfl (Nat.le_of_ble_eq_true rfl) ⟨by decide, by decide⟩ ⟨by show ce + 6 + 0 + 0 ≤ 601024; omega, by show sl + 30 + 0 + 0 ≤ 7293034; omega⟩ rfl (fun v6 L6 f6 hq => ?_)
  obtain ⟨L3, f3, ⟨rfl, rfl, rfl⟩, rfl, e5, e6⟩ := hq
  have hm4 := hm3.ext (fun a ha => (e5 a ha).1)
  obtain ⟨h27, hg1, hcw⟩ := hall bq Aq Iq hrq
  have hfx : ∀ a, a ∈ Lc1 ++ [q9] → f6 a = f1 a := fun a ha => (e6 a ha).trans ((e4 a ha).trans (e1 a ha).1)
  have ho6 := (hfx q9 (List.mem_append_right _ List.mem_cons_self)).trans ho1
  refine G.sk (st' := [_]) rfl ?_
  refine g_iload (n := 615) C dL_law_613 rfl rfl ?_
  refine g_icmp_eq (n := 618) (tgt := 620) C dL_law_615 (by decide) rfl (fun h615 => ?_) (fun h615 => absurd h27 h615)
  refine g_iload (n := 622) C dL_law_620 rfl rfl ?_
  refine g_if_ne (n := 625) (tgt := 637) C dL_law_622 (by decide) rfl (fun h622 => ?_) (fun h622 => ?_)
  · refine g_goto (tgt := 2021) C dL_law_637 (by decide) ?_
    refine G.swap ?_
    refine G.weak (ls' := [some (.ref b9), some (.ref (bk 0)), some (.ref mo), some (.ref q9), some (.int (nI (4 * j))), none, none]) ?_ rfl lw_weak
    refine G.mono (ce' := ce + 57) (sl' := sl + 474) (by omega) (by omega) (kk Lc1 f6 Aq Iq ⟨hcw.ext (fun a ha => hfx a (List.mem_append_left _ ha)), ⟨g1, ho6⟩, ad, hm4⟩)
  · have hw0 : w = 0 := gn_inj (by omega) (by omega) h622
    refine g_aload_n (n := 626) C dL_law_625 rfl (Or.inr ⟨_, rfl⟩) rfl ?_
    refine g_iconst (n := 627) (v := nI 0) C dL_law_626 rfl rfl ?_
    refine g_lald (n := 628) C dL_law_627 (⟨List.mem_append_right _ (List.mem_append_right _ List.mem_cons_self), ho6⟩ : gH (Lm ++ (Lc1 ++ [q9])) f6 q9 (.inl (cy 2, 1, .inr (.inl g1)))) rfl (by omega) (by decide) rfl ?_
    refine g_iload (n := 630) C dL_law_628 rfl rfl ?_
    refine g_i2l (n := 631) C dL_law_630 rfl ?_
    refine g_lcmp (n := 632) C dL_law_631 (hg1 hw0) rfl ?_
    refine g_if_eq (n := 635) (tgt := 637) C dL_law_632 (by decide) rfl (fun h632 => ?_) (fun h632 => absurd rfl h632)
    refine g_goto (tgt := 2021) C dL_law_637 (by decide) ?_
    refine G.swap ?_
    refine G.weak (ls' := [some (.ref b9), some (.ref (bk 0)), some (.ref mo), some (.ref q9), some (.int (nI (4 * j))), none, none]) ?_ rfl lw_weak
    refine G.mono (ce' := ce + 57) (sl' := sl + 474) (by omega) (by omega) (kk Lc1 f6 Aq Iq ⟨hcw.ext (fun a ha => hfx a (List.mem_append_left _ ha)), ⟨g1, ho6⟩, ad, hm4⟩)
theorem lc_addRemove (C : gC p l e room_1 s m args below meth c s0 D cy [] code 7 RL) (hN : gN9 s0) {b9 N : Nat} {xs : Nat → Int32} (hX : va_X b9 N xs s s.heap) (hbl : b9 < s.heap.size) (hN9 : N ≤ 2048) {j : Nat} (hj : 4 * j + 4 ≤ N) {Lc Lm : List Nat} {f : gF} {A : Nat → Nat → Int32} {I : Nat → Int32} {co mo q9 : Nat} (hw : LWD cy co mo q9 A I Lc Lm f) {ce sl : Nat} (hce : ce + 57 ≤ 601024) (hsl : sl + 474 ≤ 7293034) (kk : ∀ (Lc1 : List Nat) (f1 : gF) (A1 : Nat → Nat → Int32) (I1 : Nat → Int32), LWD cy co mo q9 A1 I1 Lc1 Lm f1 → G p l e room_1 s m args below meth c Q D [] 7 ((Lc1 ++ [q9]) ++ Lm) f1 (ce + 57) (sl + 474) 2021 [some (.ref b9), some (.ref co), some (.ref mo), some (.ref q9), some (.int (nI (4 * j))), none, none] ([])) : G p l e room_1 s m args below meth c Q D [] 7 ((Lc ++ [q9]) ++ Lm) f ce sl 640 [some (.ref b9), some (.ref co), some (.ref mo), some (.ref q9), some (.int (nI (4 * j))), none, none] ([]) := by
  obtain ⟨⟨bk, n, X, Is, PR, PL, S, rfl, hR, hB9, hC9⟩, ⟨g0, hf9⟩, ad, hm⟩ := hw
  have hE := C.2.2.2.2.2.1
  have hl := C.2.2.2.2.2.2.2
  obtain ⟨hI7, hn9, hPR, hSh, hPL, hPb, -⟩ := hR.nv
  have hRec := hR.rec9
  obtain ⟨TG, hTG⟩ := hR.tgs
  refine G.swap ?_
  refine g_peek C ((k6_addRemove hE hl hm hRec (xs (4 * j + 1)) (xs (4 * j + 2))).fr (Lc ++ [q9])) dL_law_672 kM_X6_addRemove kL_L_134 kV_X6_addRemove (hm.1.of (List.mem_append_left _ hm.1.1) rfl) rfl rfl ⟨by decide, by decide⟩ ⟨by show ce + 0 ≤ 601024; omega, by show sl + 0 ≤ 7293034; omega⟩ (fun v8 L8 f8 hq => ?_)
  obtain ⟨Lx, fx, ⟨-, bb, Ab, Ib, -, -, hrl⟩, -⟩ := hq
  refine G.swap ?_
  refine g_aload_n (n := 641) C dL_law_640 rfl (Or.inr ⟨_, rfl⟩) rfl ?_
  refine g_aload_n (n := 642) C dL_law_641 rfl (Or.inr ⟨_, rfl⟩) rfl ?_
  refine g_iload (n := 644) C dL_law_642 rfl rfl ?_
  refine g_iconst (n := 645) (v := nI 1) C dL_law_644 rfl rfl ?_
  refine g_iaddN (n := 646) C dL_law_645 rfl ?_
  refine g_sld (n := 647) (j := 4 * j + 1) C hX hbl List.not_mem_nil dL_law_646 rfl (by omega) (by omega) rfl ?_
  refine g_aload_n (n := 648) C dL_law_647 rfl (Or.inr ⟨_, rfl⟩) rfl ?_
  refine g_iload (n := 650) C dL_law_648 rfl rfl ?_
  refine g_iconst (n := 651) (v := nI 2) C dL_law_650 rfl rfl ?_
  refine g_iaddN (n := 652) C dL_law_651 rfl ?_
  refine g_sld (n := 653) (j := 4 * j + 2) C hX hbl List.not_mem_nil dL_law_652 rfl (by omega) (by omega) rfl ?_
  refine g_aload_n (n := 654) C dL_law_653 rfl (Or.inr ⟨_, rfl⟩) rfl ?_
  refine g_SH (n := 657) (rest := []) C ((kw_addRemove hE hl hR hB9 hC9 (xs (4 * j + 1)) (xs (4 * j + 2)) (k5_addRemove hE hl hR hB9 hC9 (xs (4 * j + 1)) (xs (4 * j + 2))) ⟨bb, Ab, Ib, hrl⟩ (fun _ _ _ _ _ _ _ h => h) hN hf9).fr Lm) dL_law_654 kH_addRemove (List.mem_of_getElem? (i := 401) (by decide +kernel)) kT_addRemove rfl rfl (Nat.le_of_ble_eq_true rfl) ⟨by decide, by decide⟩ ⟨by show ce + 5 ≤ 601024; omega, by show sl + 24 ≤ 7293034; omega⟩ rfl (fun v8 L8 f8 hq => ?_)
  obtain ⟨L1, f1, hq, rfl, e1, e2⟩ := hq
  obtain ⟨Lc1, g1, rfl, ho1, w, hw4, rfl, hall⟩ := hq
  have hm1 := hm.ext e2
  refine G.sk (st' := [_]) rfl ?_
  refine G.swap ?_
  refine g_istore (n := 659) (ls' := [_, _, _, _, _, _, _]) C dL_law_657 rfl (by decide) rfl ?_
  refine g_aload_n (n := 660) C dL_law_659 rfl (Or.inr ⟨_, rfl⟩) rfl ?_
  refine g_aload_n (n := 661) C dL_law_660 rfl (Or.inr ⟨_, rfl⟩) rfl ?_
  refine g_iload (n := 663) C dL_law_661 rfl rfl ?_
  refine g_iconst (n := 664) (v := nI 1) C dL_law_663 rfl rfl ?_
  refine g_iaddN (n := 665) C dL_law_664 rfl ?_
  refine g_sld (n := 666) (j := 4 * j + 1) C hX hbl List.not_mem_nil dL_law_665 rfl (by omega) (by omega) rfl ?_
  refine g_aload_n (n := 667) C dL_law_666 rfl (Or.inr ⟨_, rfl⟩) rfl ?_
  refine g_iload (n := 669) C dL_law_667 rfl rfl ?_
  refine g_iconst (n := 670) (v := nI 2) C dL_law_669 rfl rfl ?_
  refine g_iaddN (n := 671) C dL_law_670 rfl ?_
  refine g_sld (n := 672) (j := 4 * j + 2) C hX hbl List.not_mem_nil dL_law_671 rfl (by omega) (by omega) rfl ?_
  refine g_V (n := 675) (rest := []) C ((k6_addRemove hE hl hm1 hRec (xs (4 * j + 1)) (xs (4 * j + 2))).fr (Lc1 ++ [q9])) dL_law_672 kM_X6_addRemove kL_L_134 kV_X6_addRemove (hm1.1.of (List.mem_append_left _ hm1.1.1) rfl) rfl rfl rfl (Nat.le_of_ble_eq_true rfl) ⟨by decide, by decide⟩ ⟨by show ce + 5 + 0 ≤ 601024; omega, by show sl + 24 + 0 ≤ 7293034; omega⟩ rfl (fun v7 L7 f7 hq => ?_)
  obtain ⟨L2, f2, ⟨rfl, bq, Aq, Iq, rfl, hm2, hrq⟩, rfl, e3, e4⟩ := hq
  have hm3 := hm2.ext (fun a ha => (e3 a ha).1)
  refine G.sk (st' := [_]) rfl ?_
  refine g_istore (n := 677) (ls' := [_, _, _, _, _, _, _]) C dL_law_675 rfl (by decide) rfl ?_
  refine g_aload_n (n := 678) C dL_law_677 rfl (Or.inr ⟨_, rfl⟩) rfl ?_
  refine g_V (n := 681) (rest := []) C ((k6_thrown hE hl hm3).fr (Lc1 ++ [q9])) dL_law_678 kM_X6_thrown kL_L_113 kV_X6_thrown (hm3.1.of (List.mem_append_left _ hm3.1.1) rfl) rfl rfl rfl (Nat.le_of_ble_eq_true rfl) ⟨by decide, by decide⟩ ⟨by show ce + 5 + 0 + 0 ≤ 601024; omega, by show sl + 24 + 0 + 0 ≤ 7293034; omega⟩ rfl (fun v6 L6 f6 hq => ?_)
  obtain ⟨L3, f3, ⟨rfl, rfl, rfl⟩, rfl, e5, e6⟩ := hq
  have hm4 := hm3.ext (fun a ha => (e5 a ha).1)
  obtain ⟨h27, hg1, hcw⟩ := hall bq Aq Iq hrq
  have hfx : ∀ a, a ∈ Lc1 ++ [q9] → f6 a = f1 a := fun a ha => (e6 a ha).trans ((e4 a ha).trans (e1 a ha).1)
  have ho6 := (hfx q9 (List.mem_append_right _ List.mem_cons_self)).trans ho1
  refine G.sk (st' := [_]) rfl ?_
  refine g_iload (n := 683) C dL_law_681 rfl rfl ?_
  refine g_icmp_eq (n := 686) (tgt := 688) C dL_law_683 (by decide) rfl (fun h683 => ?_) (fun h683 => absurd h27 h683)
  refine g_iload (n := 690) C dL_law_688 rfl rfl ?_
  refine g_if_ne (n := 693) (tgt := 705) C dL_law_690 (by decide) rfl (fun h690 => ?_) (fun h690 => ?_)
  · refine g_goto (tgt := 2021) C dL_law_705 (by decide) ?_
    refine G.swap ?_
    refine G.weak (ls' := [some (.ref b9), some (.ref (bk 0)), some (.ref mo), some (.ref q9), some (.int (nI (4 * j))), none, none]) ?_ rfl lw_weak
    refine G.mono (ce' := ce + 57) (sl' := sl + 474) (by omega) (by omega) (kk Lc1 f6 Aq Iq ⟨hcw.ext (fun a ha => hfx a (List.mem_append_left _ ha)), ⟨g1, ho6⟩, ad, hm4⟩)
  · have hw0 : w = 0 := gn_inj (by omega) (by omega) h690
    refine g_aload_n (n := 694) C dL_law_693 rfl (Or.inr ⟨_, rfl⟩) rfl ?_
    refine g_iconst (n := 695) (v := nI 0) C dL_law_694 rfl rfl ?_
    refine g_lald (n := 696) C dL_law_695 (⟨List.mem_append_right _ (List.mem_append_right _ List.mem_cons_self), ho6⟩ : gH (Lm ++ (Lc1 ++ [q9])) f6 q9 (.inl (cy 2, 1, .inr (.inl g1)))) rfl (by omega) (by decide) rfl ?_
    refine g_iload (n := 698) C dL_law_696 rfl rfl ?_
    refine g_i2l (n := 699) C dL_law_698 rfl ?_
    refine g_lcmp (n := 700) C dL_law_699 (hg1 hw0) rfl ?_
    refine g_if_eq (n := 703) (tgt := 705) C dL_law_700 (by decide) rfl (fun h700 => ?_) (fun h700 => absurd rfl h700)
    refine g_goto (tgt := 2021) C dL_law_705 (by decide) ?_
    refine G.swap ?_
    refine G.weak (ls' := [some (.ref b9), some (.ref (bk 0)), some (.ref mo), some (.ref q9), some (.int (nI (4 * j))), none, none]) ?_ rfl lw_weak
    refine G.mono (ce' := ce + 57) (sl' := sl + 474) (by omega) (by omega) (kk Lc1 f6 Aq Iq ⟨hcw.ext (fun a ha => hfx a (List.mem_append_left _ ha)), ⟨g1, ho6⟩, ad, hm4⟩)
theorem lc_addSet (C : gC p l e room_1 s m args below meth c s0 D cy [] code 7 RL) (hN : gN9 s0) {b9 N : Nat} {xs : Nat → Int32} (hX : va_X b9 N xs s s.heap) (hbl : b9 < s.heap.size) (hN9 : N ≤ 2048) {j : Nat} (hj : 4 * j + 4 ≤ N) {Lc Lm : List Nat} {f : gF} {A : Nat → Nat → Int32} {I : Nat → Int32} {co mo q9 : Nat} (hw : LWD cy co mo q9 A I Lc Lm f) {ce sl : Nat} (hce : ce + 57 ≤ 601024) (hsl : sl + 474 ≤ 7293034) (kk : ∀ (Lc1 : List Nat) (f1 : gF) (A1 : Nat → Nat → Int32) (I1 : Nat → Int32), LWD cy co mo q9 A1 I1 Lc1 Lm f1 → G p l e room_1 s m args below meth c Q D [] 7 ((Lc1 ++ [q9]) ++ Lm) f1 (ce + 57) (sl + 474) 2021 [some (.ref b9), some (.ref co), some (.ref mo), some (.ref q9), some (.int (nI (4 * j))), none, none] ([])) : G p l e room_1 s m args below meth c Q D [] 7 ((Lc ++ [q9]) ++ Lm) f ce sl 708 [some (.ref b9), some (.ref co), some (.ref mo), some (.ref q9), some (.int (nI (4 * j))), none, none] ([]) := by
  obtain ⟨⟨bk, n, X, Is, PR, PL, S, rfl, hR, hB9, hC9⟩, ⟨g0, hf9⟩, ad, hm⟩ := hw
  have hE := C.2.2.2.2.2.1
  have hl := C.2.2.2.2.2.2.2
  obtain ⟨hI7, hn9, hPR, hSh, hPL, hPb, -⟩ := hR.nv
  have hRec := hR.rec9
  obtain ⟨TG, hTG⟩ := hR.tgs
  refine G.swap ?_
  refine g_peek C ((k6_addSet hE hl hm hRec (xs (4 * j + 1)) (xs (4 * j + 2)) (xs (4 * j + 3))).fr (Lc ++ [q9])) dL_law_752 kM_X6_addSet kL_L_137 kV_X6_addSet (hm.1.of (List.mem_append_left _ hm.1.1) rfl) rfl rfl ⟨by decide, by decide⟩ ⟨by show ce + 0 ≤ 601024; omega, by show sl + 0 ≤ 7293034; omega⟩ (fun v8 L8 f8 hq => ?_)
  obtain ⟨Lx, fx, ⟨-, bb, Ab, Ib, -, -, hrl⟩, -⟩ := hq
  refine G.swap ?_
  refine g_aload_n (n := 709) C dL_law_708 rfl (Or.inr ⟨_, rfl⟩) rfl ?_
  refine g_aload_n (n := 710) C dL_law_709 rfl (Or.inr ⟨_, rfl⟩) rfl ?_
  refine g_iload (n := 712) C dL_law_710 rfl rfl ?_
  refine g_iconst (n := 713) (v := nI 1) C dL_law_712 rfl rfl ?_
  refine g_iaddN (n := 714) C dL_law_713 rfl ?_
  refine g_sld (n := 715) (j := 4 * j + 1) C hX hbl List.not_mem_nil dL_law_714 rfl (by omega) (by omega) rfl ?_
  refine g_aload_n (n := 716) C dL_law_715 rfl (Or.inr ⟨_, rfl⟩) rfl ?_
  refine g_iload (n := 718) C dL_law_716 rfl rfl ?_
  refine g_iconst (n := 719) (v := nI 2) C dL_law_718 rfl rfl ?_
  refine g_iaddN (n := 720) C dL_law_719 rfl ?_
  refine g_sld (n := 721) (j := 4 * j + 2) C hX hbl List.not_mem_nil dL_law_720 rfl (by omega) (by omega) rfl ?_
  refine g_aload_n (n := 722) C dL_law_721 rfl (Or.inr ⟨_, rfl⟩) rfl ?_
  refine g_iload (n := 724) C dL_law_722 rfl rfl ?_
  refine g_iconst (n := 725) (v := nI 3) C dL_law_724 rfl rfl ?_
  refine g_iaddN (n := 726) C dL_law_725 rfl ?_
  refine g_sld (n := 727) (j := 4 * j + 3) C hX hbl List.not_mem_nil dL_law_726 rfl (by omega) (by omega) rfl ?_
  refine g_aload_n (n := 728) C dL_law_727 rfl (Or.inr ⟨_, rfl⟩) rfl ?_
  refine g_SH (n := 731) (rest := []) C ((kw_addSet hE hl hR hB9 hC9 (xs (4 * j + 1)) (xs (4 * j + 2)) (xs (4 * j + 3)) (k5_addSet hE hl hR hB9 hC9 (xs (4 * j + 1)) (xs (4 * j + 2)) (xs (4 * j + 3))) ⟨bb, Ab, Ib, hrl⟩ (fun _ _ _ _ _ _ _ h => h) hN hf9).fr Lm) dL_law_728 kH_addSet (List.mem_of_getElem? (i := 408) (by decide +kernel)) kT_addSet rfl rfl (Nat.le_of_ble_eq_true rfl) ⟨by decide, by decide⟩ ⟨by show ce + 5 ≤ 601024; omega, by show sl + 24 ≤ 7293034; omega⟩ rfl (fun v8 L8 f8 hq => ?_)
  obtain ⟨L1, f1, hq, rfl, e1, e2⟩ := hq
  obtain ⟨Lc1, g1, rfl, ho1, w, hw4, rfl, hall⟩ := hq
  have hm1 := hm.ext e2
  refine G.sk (st' := [_]) rfl ?_
  refine G.swap ?_
  refine g_istore (n := 733) (ls' := [_, _, _, _, _, _, _]) C dL_law_731 rfl (by decide) rfl ?_
  refine g_aload_n (n := 734) C dL_law_733 rfl (Or.inr ⟨_, rfl⟩) rfl ?_
  refine g_aload_n (n := 735) C dL_law_734 rfl (Or.inr ⟨_, rfl⟩) rfl ?_
  refine g_iload (n := 737) C dL_law_735 rfl rfl ?_
  refine g_iconst (n := 738) (v := nI 1) C dL_law_737 rfl rfl ?_
  refine g_iaddN (n := 739) C dL_law_738 rfl ?_
  refine g_sld (n := 740) (j := 4 * j + 1) C hX hbl List.not_mem_nil dL_law_739 rfl (by omega) (by omega) rfl ?_
  refine g_aload_n (n := 741) C dL_law_740 rfl (Or.inr ⟨_, rfl⟩) rfl ?_
  refine g_iload (n := 743) C dL_law_741 rfl rfl ?_
  refine g_iconst (n := 744) (v := nI 2) C dL_law_743 rfl rfl ?_
  refine g_iaddN (n := 745) C dL_law_744 rfl ?_
  refine g_sld (n := 746) (j := 4 * j + 2) C hX hbl List.not_mem_nil dL_law_745 rfl (by omega) (by omega) rfl ?_
  refine g_aload_n (n := 747) C dL_law_746 rfl (Or.inr ⟨_, rfl⟩) rfl ?_
  refine g_iload (n := 749) C dL_law_747 rfl rfl ?_
  refine g_iconst (n := 750) (v := nI 3) C dL_law_749 rfl rfl ?_
  refine g_iaddN (n := 751) C dL_law_750 rfl ?_
  refine g_sld (n := 752) (j := 4 * j + 3) C hX hbl List.not_mem_nil dL_law_751 rfl (by omega) (by omega) rfl ?_
  refine g_V (n := 755) (rest := []) C ((k6_addSet hE hl hm1 hRec (xs (4 * j + 1)) (xs (4 * j + 2)) (xs (4 * j + 3))).fr (Lc1 ++ [q9])) dL_law_752 kM_X6_addSet kL_L_137 kV_X6_addSet (hm1.1.of (List.mem_append_left _ hm1.1.1) rfl) rfl rfl rfl (Nat.le_of_ble_eq_true rfl) ⟨by decide, by decide⟩ ⟨by show ce + 5 + 0 ≤ 601024; omega, by show sl + 24 + 0 ≤ 7293034; omega⟩ rfl (fun v7 L7 f7 hq => ?_)
  obtain ⟨L2, f2, ⟨rfl, bq, Aq, Iq, rfl, hm2, hrq⟩, rfl, e3, e4⟩ := hq
  have hm3 := hm2.ext (fun a ha => (e3 a ha).1)
  refine G.sk (st' := [_]) rfl ?_
  refine g_istore (n := 757) (ls' := [_, _, _, _, _, _, _]) C dL_law_755 rfl (by decide) rfl ?_
  refine g_aload_n (n := 758) C dL_law_757 rfl (Or.inr ⟨_, rfl⟩) rfl ?_
  refine g_V (n := 761) (rest := []) C ((k6_thrown hE hl hm3).fr (Lc1 ++ [q9])) dL_law_758 kM_X6_thrown kL_L_113 kV_X6_thrown (hm3.1.of (List.mem_append_left _ hm3.1.1) rfl) rfl rfl rfl (Nat.le_of_ble_eq_true rfl) ⟨by decide, by decide⟩ ⟨by show ce + 5 + 0 + 0 ≤ 601024; omega, by show sl + 24 + 0 + 0 ≤ 7293034; omega⟩ rfl (fun v6 L6 f6 hq => ?_)
  obtain ⟨L3, f3, ⟨rfl, rfl, rfl⟩, rfl, e5, e6⟩ := hq
  have hm4 := hm3.ext (fun a ha => (e5 a ha).1)
  obtain ⟨h27, hg1, hcw⟩ := hall bq Aq Iq hrq
  have hfx : ∀ a, a ∈ Lc1 ++ [q9] → f6 a = f1 a := fun a ha => (e6 a ha).trans ((e4 a ha).trans (e1 a ha).1)
  have ho6 := (hfx q9 (List.mem_append_right _ List.mem_cons_self)).trans ho1
  refine G.sk (st' := [_]) rfl ?_
  refine g_iload (n := 763) C dL_law_761 rfl rfl ?_
  refine g_icmp_eq (n := 766) (tgt := 768) C dL_law_763 (by decide) rfl (fun h763 => ?_) (fun h763 => absurd h27 h763)
  refine g_iload (n := 770) C dL_law_768 rfl rfl ?_
  refine g_if_ne (n := 773) (tgt := 785) C dL_law_770 (by decide) rfl (fun h770 => ?_) (fun h770 => ?_)
  · refine g_goto (tgt := 2021) C dL_law_785 (by decide) ?_
    refine G.swap ?_
    refine G.weak (ls' := [some (.ref b9), some (.ref (bk 0)), some (.ref mo), some (.ref q9), some (.int (nI (4 * j))), none, none]) ?_ rfl lw_weak
    refine G.mono (ce' := ce + 57) (sl' := sl + 474) (by omega) (by omega) (kk Lc1 f6 Aq Iq ⟨hcw.ext (fun a ha => hfx a (List.mem_append_left _ ha)), ⟨g1, ho6⟩, ad, hm4⟩)
  · have hw0 : w = 0 := gn_inj (by omega) (by omega) h770
    refine g_aload_n (n := 774) C dL_law_773 rfl (Or.inr ⟨_, rfl⟩) rfl ?_
    refine g_iconst (n := 775) (v := nI 0) C dL_law_774 rfl rfl ?_
    refine g_lald (n := 776) C dL_law_775 (⟨List.mem_append_right _ (List.mem_append_right _ List.mem_cons_self), ho6⟩ : gH (Lm ++ (Lc1 ++ [q9])) f6 q9 (.inl (cy 2, 1, .inr (.inl g1)))) rfl (by omega) (by decide) rfl ?_
    refine g_iload (n := 778) C dL_law_776 rfl rfl ?_
    refine g_i2l (n := 779) C dL_law_778 rfl ?_
    refine g_lcmp (n := 780) C dL_law_779 (hg1 hw0) rfl ?_
    refine g_if_eq (n := 783) (tgt := 785) C dL_law_780 (by decide) rfl (fun h780 => ?_) (fun h780 => absurd rfl h780)
    refine g_goto (tgt := 2021) C dL_law_785 (by decide) ?_
    refine G.swap ?_
    refine G.weak (ls' := [some (.ref b9), some (.ref (bk 0)), some (.ref mo), some (.ref q9), some (.int (nI (4 * j))), none, none]) ?_ rfl lw_weak
    refine G.mono (ce' := ce + 57) (sl' := sl + 474) (by omega) (by omega) (kk Lc1 f6 Aq Iq ⟨hcw.ext (fun a ha => hfx a (List.mem_append_left _ ha)), ⟨g1, ho6⟩, ad, hm4⟩)
theorem lc_drop (C : gC p l e room_1 s m args below meth c s0 D cy [] code 7 RL) (hN : gN9 s0) {b9 N : Nat} {xs : Nat → Int32} (hX : va_X b9 N xs s s.heap) (hbl : b9 < s.heap.size) (hN9 : N ≤ 2048) {j : Nat} (hj : 4 * j + 4 ≤ N) {Lc Lm : List Nat} {f : gF} {A : Nat → Nat → Int32} {I : Nat → Int32} {co mo q9 : Nat} (hw : LWD cy co mo q9 A I Lc Lm f) {ce sl : Nat} (hce : ce + 57 ≤ 601024) (hsl : sl + 474 ≤ 7293034) (kk : ∀ (Lc1 : List Nat) (f1 : gF) (A1 : Nat → Nat → Int32) (I1 : Nat → Int32), LWD cy co mo q9 A1 I1 Lc1 Lm f1 → G p l e room_1 s m args below meth c Q D [] 7 ((Lc1 ++ [q9]) ++ Lm) f1 (ce + 57) (sl + 474) 2021 [some (.ref b9), some (.ref co), some (.ref mo), some (.ref q9), some (.int (nI (4 * j))), none, none] ([])) : G p l e room_1 s m args below meth c Q D [] 7 ((Lc ++ [q9]) ++ Lm) f ce sl 788 [some (.ref b9), some (.ref co), some (.ref mo), some (.ref q9), some (.int (nI (4 * j))), none, none] ([]) := by
  obtain ⟨⟨bk, n, X, Is, PR, PL, S, rfl, hR, hB9, hC9⟩, ⟨g0, hf9⟩, ad, hm⟩ := hw
  have hE := C.2.2.2.2.2.1
  have hl := C.2.2.2.2.2.2.2
  obtain ⟨hI7, hn9, hPR, hSh, hPL, hPb, -⟩ := hR.nv
  have hRec := hR.rec9
  obtain ⟨TG, hTG⟩ := hR.tgs
  refine G.swap ?_
  refine g_peek C ((k6_drop hE hl hm hRec (xs (4 * j + 1)) (xs (4 * j + 2))).fr (Lc ++ [q9])) dL_law_820 kM_X6_drop kL_L_140 kV_X6_drop (hm.1.of (List.mem_append_left _ hm.1.1) rfl) rfl rfl ⟨by decide, by decide⟩ ⟨by show ce + 0 ≤ 601024; omega, by show sl + 0 ≤ 7293034; omega⟩ (fun v8 L8 f8 hq => ?_)
  obtain ⟨Lx, fx, ⟨-, bb, Ab, Ib, -, -, hrl⟩, -⟩ := hq
  refine G.swap ?_
  refine g_aload_n (n := 789) C dL_law_788 rfl (Or.inr ⟨_, rfl⟩) rfl ?_
  refine g_aload_n (n := 790) C dL_law_789 rfl (Or.inr ⟨_, rfl⟩) rfl ?_
  refine g_iload (n := 792) C dL_law_790 rfl rfl ?_
  refine g_iconst (n := 793) (v := nI 1) C dL_law_792 rfl rfl ?_
  refine g_iaddN (n := 794) C dL_law_793 rfl ?_
  refine g_sld (n := 795) (j := 4 * j + 1) C hX hbl List.not_mem_nil dL_law_794 rfl (by omega) (by omega) rfl ?_
  refine g_aload_n (n := 796) C dL_law_795 rfl (Or.inr ⟨_, rfl⟩) rfl ?_
  refine g_iload (n := 798) C dL_law_796 rfl rfl ?_
  refine g_iconst (n := 799) (v := nI 2) C dL_law_798 rfl rfl ?_
  refine g_iaddN (n := 800) C dL_law_799 rfl ?_
  refine g_sld (n := 801) (j := 4 * j + 2) C hX hbl List.not_mem_nil dL_law_800 rfl (by omega) (by omega) rfl ?_
  refine g_aload_n (n := 802) C dL_law_801 rfl (Or.inr ⟨_, rfl⟩) rfl ?_
  refine g_SH (n := 805) (rest := []) C ((kw_drop hE hl hR hB9 hC9 (xs (4 * j + 1)) (xs (4 * j + 2)) (k5_drop hE hl hR hB9 hC9 (xs (4 * j + 1)) (xs (4 * j + 2))) ⟨bb, Ab, Ib, hrl⟩ (fun b A1 I1 w hr h27 h0 hT => by
      obtain ⟨w2, hw2, hI, -⟩ := hr
      have e := gn_inj (by have := cd2_lt hw2; omega) (by omega) ((show nI w2 = I1 27 by rw [hI]; rfl).trans h27)
      have := cd2_lt hw2
      omega) hN hf9).fr Lm) dL_law_802 kH_drop (List.mem_of_getElem? (i := 416) (by decide +kernel)) kT_drop rfl rfl (Nat.le_of_ble_eq_true rfl) ⟨by decide, by decide⟩ ⟨by show ce + 3 ≤ 601024; omega, by show sl + 18 ≤ 7293034; omega⟩ rfl (fun v8 L8 f8 hq => ?_)
  obtain ⟨L1, f1, hq, rfl, e1, e2⟩ := hq
  obtain ⟨Lc1, g1, rfl, ho1, w, hw4, rfl, hall⟩ := hq
  have hm1 := hm.ext e2
  refine G.sk (st' := [_]) rfl ?_
  refine G.swap ?_
  refine g_istore (n := 807) (ls' := [_, _, _, _, _, _, _]) C dL_law_805 rfl (by decide) rfl ?_
  refine g_aload_n (n := 808) C dL_law_807 rfl (Or.inr ⟨_, rfl⟩) rfl ?_
  refine g_aload_n (n := 809) C dL_law_808 rfl (Or.inr ⟨_, rfl⟩) rfl ?_
  refine g_iload (n := 811) C dL_law_809 rfl rfl ?_
  refine g_iconst (n := 812) (v := nI 1) C dL_law_811 rfl rfl ?_
  refine g_iaddN (n := 813) C dL_law_812 rfl ?_
  refine g_sld (n := 814) (j := 4 * j + 1) C hX hbl List.not_mem_nil dL_law_813 rfl (by omega) (by omega) rfl ?_
  refine g_aload_n (n := 815) C dL_law_814 rfl (Or.inr ⟨_, rfl⟩) rfl ?_
  refine g_iload (n := 817) C dL_law_815 rfl rfl ?_
  refine g_iconst (n := 818) (v := nI 2) C dL_law_817 rfl rfl ?_
  refine g_iaddN (n := 819) C dL_law_818 rfl ?_
  refine g_sld (n := 820) (j := 4 * j + 2) C hX hbl List.not_mem_nil dL_law_819 rfl (by omega) (by omega) rfl ?_
  refine g_V (n := 823) (rest := []) C ((k6_drop hE hl hm1 hRec (xs (4 * j + 1)) (xs (4 * j + 2))).fr (Lc1 ++ [q9])) dL_law_820 kM_X6_drop kL_L_140 kV_X6_drop (hm1.1.of (List.mem_append_left _ hm1.1.1) rfl) rfl rfl rfl (Nat.le_of_ble_eq_true rfl) ⟨by decide, by decide⟩ ⟨by show ce + 3 + 0 ≤ 601024; omega, by show sl + 18 + 0 ≤ 7293034; omega⟩ rfl (fun v7 L7 f7 hq => ?_)
  obtain ⟨L2, f2, ⟨rfl, bq, Aq, Iq, rfl, hm2, hrq⟩, rfl, e3, e4⟩ := hq
  have hm3 := hm2.ext (fun a ha => (e3 a ha).1)
  refine G.sk (st' := [_]) rfl ?_
  refine g_istore (n := 825) (ls' := [_, _, _, _, _, _, _]) C dL_law_823 rfl (by decide) rfl ?_
  refine g_aload_n (n := 826) C dL_law_825 rfl (Or.inr ⟨_, rfl⟩) rfl ?_
  refine g_V (n := 829) (rest := []) C ((k6_thrown hE hl hm3).fr (Lc1 ++ [q9])) dL_law_826 kM_X6_thrown kL_L_113 kV_X6_thrown (hm3.1.of (List.mem_append_left _ hm3.1.1) rfl) rfl rfl rfl (Nat.le_of_ble_eq_true rfl) ⟨by decide, by decide⟩ ⟨by show ce + 3 + 0 + 0 ≤ 601024; omega, by show sl + 18 + 0 + 0 ≤ 7293034; omega⟩ rfl (fun v6 L6 f6 hq => ?_)
  obtain ⟨L3, f3, ⟨rfl, rfl, rfl⟩, rfl, e5, e6⟩ := hq
  have hm4 := hm3.ext (fun a ha => (e5 a ha).1)
  obtain ⟨h27, hg1, hcw⟩ := hall bq Aq Iq hrq
  have hfx : ∀ a, a ∈ Lc1 ++ [q9] → f6 a = f1 a := fun a ha => (e6 a ha).trans ((e4 a ha).trans (e1 a ha).1)
  have ho6 := (hfx q9 (List.mem_append_right _ List.mem_cons_self)).trans ho1
  refine G.sk (st' := [_]) rfl ?_
  refine g_iload (n := 831) C dL_law_829 rfl rfl ?_
  refine g_icmp_eq (n := 834) (tgt := 836) C dL_law_831 (by decide) rfl (fun h831 => ?_) (fun h831 => absurd h27 h831)
  refine g_iload (n := 838) C dL_law_836 rfl rfl ?_
  refine g_if_ne (n := 841) (tgt := 853) C dL_law_838 (by decide) rfl (fun h838 => ?_) (fun h838 => ?_)
  · refine g_goto (tgt := 2021) C dL_law_853 (by decide) ?_
    refine G.swap ?_
    refine G.weak (ls' := [some (.ref b9), some (.ref (bk 0)), some (.ref mo), some (.ref q9), some (.int (nI (4 * j))), none, none]) ?_ rfl lw_weak
    refine G.mono (ce' := ce + 57) (sl' := sl + 474) (by omega) (by omega) (kk Lc1 f6 Aq Iq ⟨hcw.ext (fun a ha => hfx a (List.mem_append_left _ ha)), ⟨g1, ho6⟩, ad, hm4⟩)
  · have hw0 : w = 0 := gn_inj (by omega) (by omega) h838
    refine g_aload_n (n := 842) C dL_law_841 rfl (Or.inr ⟨_, rfl⟩) rfl ?_
    refine g_iconst (n := 843) (v := nI 0) C dL_law_842 rfl rfl ?_
    refine g_lald (n := 844) C dL_law_843 (⟨List.mem_append_right _ (List.mem_append_right _ List.mem_cons_self), ho6⟩ : gH (Lm ++ (Lc1 ++ [q9])) f6 q9 (.inl (cy 2, 1, .inr (.inl g1)))) rfl (by omega) (by decide) rfl ?_
    refine g_iload (n := 846) C dL_law_844 rfl rfl ?_
    refine g_i2l (n := 847) C dL_law_846 rfl ?_
    refine g_lcmp (n := 848) C dL_law_847 (hg1 hw0) rfl ?_
    refine g_if_eq (n := 851) (tgt := 853) C dL_law_848 (by decide) rfl (fun h848 => ?_) (fun h848 => absurd rfl h848)
    refine g_goto (tgt := 2021) C dL_law_853 (by decide) ?_
    refine G.swap ?_
    refine G.weak (ls' := [some (.ref b9), some (.ref (bk 0)), some (.ref mo), some (.ref q9), some (.int (nI (4 * j))), none, none]) ?_ rfl lw_weak
    refine G.mono (ce' := ce + 57) (sl' := sl + 474) (by omega) (by omega) (kk Lc1 f6 Aq Iq ⟨hcw.ext (fun a ha => hfx a (List.mem_append_left _ ha)), ⟨g1, ho6⟩, ad, hm4⟩)
theorem lc_instructions (C : gC p l e room_1 s m args below meth c s0 D cy [] code 7 RL) (hN : gN9 s0) {b9 N : Nat} {xs : Nat → Int32} (hX : va_X b9 N xs s s.heap) (hbl : b9 < s.heap.size) (hN9 : N ≤ 2048) {j : Nat} (hj : 4 * j + 4 ≤ N) {Lc Lm : List Nat} {f : gF} {A : Nat → Nat → Int32} {I : Nat → Int32} {co mo q9 : Nat} (hw : LWD cy co mo q9 A I Lc Lm f) {ce sl : Nat} (hce : ce + 57 ≤ 601024) (hsl : sl + 474 ≤ 7293034) (kk : ∀ (Lc1 : List Nat) (f1 : gF) (A1 : Nat → Nat → Int32) (I1 : Nat → Int32), LWD cy co mo q9 A1 I1 Lc1 Lm f1 → G p l e room_1 s m args below meth c Q D [] 7 ((Lc1 ++ [q9]) ++ Lm) f1 (ce + 57) (sl + 474) 2021 [some (.ref b9), some (.ref co), some (.ref mo), some (.ref q9), some (.int (nI (4 * j))), none, none] ([])) : G p l e room_1 s m args below meth c Q D [] 7 ((Lc ++ [q9]) ++ Lm) f ce sl 856 [some (.ref b9), some (.ref co), some (.ref mo), some (.ref q9), some (.int (nI (4 * j))), none, none] ([]) := by
  obtain ⟨⟨bk, n, X, Is, PR, PL, S, rfl, hR, hB9, hC9⟩, ⟨g0, hf9⟩, ad, hm⟩ := hw
  have hE := C.2.2.2.2.2.1
  have hl := C.2.2.2.2.2.2.2
  obtain ⟨hI7, hn9, hPR, hSh, hPL, hPb, -⟩ := hR.nv
  have hRec := hR.rec9
  obtain ⟨TG, hTG⟩ := hR.tgs
  refine G.swap ?_
  refine g_peek C ((k6_instructions hE hl hm (xs (4 * j + 1))).fr (Lc ++ [q9])) dL_law_876 kM_X6_instructions kL_L_144 kV_X6_instructions (hm.1.of (List.mem_append_left _ hm.1.1) rfl) rfl rfl ⟨by decide, by decide⟩ ⟨by show ce + 0 ≤ 601024; omega, by show sl + 0 ≤ 7293034; omega⟩ (fun v8 L8 f8 hq => ?_)
  obtain ⟨Lx, fx, ⟨-, bb, Ab, Ib, -, -, hrl⟩, -⟩ := hq
  refine G.swap ?_
  refine g_aload_n (n := 857) C dL_law_856 rfl (Or.inr ⟨_, rfl⟩) rfl ?_
  refine g_aload_n (n := 858) C dL_law_857 rfl (Or.inr ⟨_, rfl⟩) rfl ?_
  refine g_iload (n := 860) C dL_law_858 rfl rfl ?_
  refine g_iconst (n := 861) (v := nI 1) C dL_law_860 rfl rfl ?_
  refine g_iaddN (n := 862) C dL_law_861 rfl ?_
  refine g_sld (n := 863) (j := 4 * j + 1) C hX hbl List.not_mem_nil dL_law_862 rfl (by omega) (by omega) rfl ?_
  refine g_aload_n (n := 864) C dL_law_863 rfl (Or.inr ⟨_, rfl⟩) rfl ?_
  refine g_SH (n := 867) (rest := []) C ((kw_instructions hE hl hR hB9 hC9 (xs (4 * j + 1)) (k5_instructions hE hl hR hB9 hC9 (xs (4 * j + 1))) ⟨bb, Ab, Ib, hrl⟩ (fun b A1 I1 w hr h27 h0 hT => by
      obtain ⟨w2, hw2, hI, -⟩ := hr
      have e := gn_inj (by have := cd2_lt hw2; omega) (by omega) ((show nI w2 = I1 27 by rw [hI]; rfl).trans h27)
      have := cd2_lt hw2
      omega) hN hf9).fr Lm) dL_law_864 kH_instructions (List.mem_of_getElem? (i := 427) (by decide +kernel)) kT_instructions rfl rfl (Nat.le_of_ble_eq_true rfl) ⟨by decide, by decide⟩ ⟨by show ce + 2 ≤ 601024; omega, by show sl + 12 ≤ 7293034; omega⟩ rfl (fun v8 L8 f8 hq => ?_)
  obtain ⟨L1, f1, hq, rfl, e1, e2⟩ := hq
  obtain ⟨Lc1, g1, rfl, ho1, w, hw4, rfl, hall⟩ := hq
  have hm1 := hm.ext e2
  refine G.sk (st' := [_]) rfl ?_
  refine G.swap ?_
  refine g_istore (n := 869) (ls' := [_, _, _, _, _, _, _]) C dL_law_867 rfl (by decide) rfl ?_
  refine g_aload_n (n := 870) C dL_law_869 rfl (Or.inr ⟨_, rfl⟩) rfl ?_
  refine g_aload_n (n := 871) C dL_law_870 rfl (Or.inr ⟨_, rfl⟩) rfl ?_
  refine g_iload (n := 873) C dL_law_871 rfl rfl ?_
  refine g_iconst (n := 874) (v := nI 1) C dL_law_873 rfl rfl ?_
  refine g_iaddN (n := 875) C dL_law_874 rfl ?_
  refine g_sld (n := 876) (j := 4 * j + 1) C hX hbl List.not_mem_nil dL_law_875 rfl (by omega) (by omega) rfl ?_
  refine g_V (n := 879) (rest := []) C ((k6_instructions hE hl hm1 (xs (4 * j + 1))).fr (Lc1 ++ [q9])) dL_law_876 kM_X6_instructions kL_L_144 kV_X6_instructions (hm1.1.of (List.mem_append_left _ hm1.1.1) rfl) rfl rfl rfl (Nat.le_of_ble_eq_true rfl) ⟨by decide, by decide⟩ ⟨by show ce + 2 + 0 ≤ 601024; omega, by show sl + 12 + 0 ≤ 7293034; omega⟩ rfl (fun v7 L7 f7 hq => ?_)
  obtain ⟨L2, f2, ⟨rfl, bq, Aq, Iq, rfl, hm2, hrq⟩, rfl, e3, e4⟩ := hq
  have hm3 := hm2.ext (fun a ha => (e3 a ha).1)
  refine G.sk (st' := [_]) rfl ?_
  refine g_istore (n := 881) (ls' := [_, _, _, _, _, _, _]) C dL_law_879 rfl (by decide) rfl ?_
  refine g_aload_n (n := 882) C dL_law_881 rfl (Or.inr ⟨_, rfl⟩) rfl ?_
  refine g_V (n := 885) (rest := []) C ((k6_thrown hE hl hm3).fr (Lc1 ++ [q9])) dL_law_882 kM_X6_thrown kL_L_113 kV_X6_thrown (hm3.1.of (List.mem_append_left _ hm3.1.1) rfl) rfl rfl rfl (Nat.le_of_ble_eq_true rfl) ⟨by decide, by decide⟩ ⟨by show ce + 2 + 0 + 0 ≤ 601024; omega, by show sl + 12 + 0 + 0 ≤ 7293034; omega⟩ rfl (fun v6 L6 f6 hq => ?_)
  obtain ⟨L3, f3, ⟨rfl, rfl, rfl⟩, rfl, e5, e6⟩ := hq
  have hm4 := hm3.ext (fun a ha => (e5 a ha).1)
  obtain ⟨h27, hg1, hcw⟩ := hall bq Aq Iq hrq
  have hfx : ∀ a, a ∈ Lc1 ++ [q9] → f6 a = f1 a := fun a ha => (e6 a ha).trans ((e4 a ha).trans (e1 a ha).1)
  have ho6 := (hfx q9 (List.mem_append_right _ List.mem_cons_self)).trans ho1
  refine G.sk (st' := [_]) rfl ?_
  refine g_iload (n := 887) C dL_law_885 rfl rfl ?_
  refine g_icmp_eq (n := 890) (tgt := 892) C dL_law_887 (by decide) rfl (fun h887 => ?_) (fun h887 => absurd h27 h887)
  refine g_iload (n := 894) C dL_law_892 rfl rfl ?_
  refine g_if_ne (n := 897) (tgt := 909) C dL_law_894 (by decide) rfl (fun h894 => ?_) (fun h894 => ?_)
  · refine g_goto (tgt := 2021) C dL_law_909 (by decide) ?_
    refine G.swap ?_
    refine G.weak (ls' := [some (.ref b9), some (.ref (bk 0)), some (.ref mo), some (.ref q9), some (.int (nI (4 * j))), none, none]) ?_ rfl lw_weak
    refine G.mono (ce' := ce + 57) (sl' := sl + 474) (by omega) (by omega) (kk Lc1 f6 Aq Iq ⟨hcw.ext (fun a ha => hfx a (List.mem_append_left _ ha)), ⟨g1, ho6⟩, ad, hm4⟩)
  · have hw0 : w = 0 := gn_inj (by omega) (by omega) h894
    refine g_aload_n (n := 898) C dL_law_897 rfl (Or.inr ⟨_, rfl⟩) rfl ?_
    refine g_iconst (n := 899) (v := nI 0) C dL_law_898 rfl rfl ?_
    refine g_lald (n := 900) C dL_law_899 (⟨List.mem_append_right _ (List.mem_append_right _ List.mem_cons_self), ho6⟩ : gH (Lm ++ (Lc1 ++ [q9])) f6 q9 (.inl (cy 2, 1, .inr (.inl g1)))) rfl (by omega) (by decide) rfl ?_
    refine g_iload (n := 902) C dL_law_900 rfl rfl ?_
    refine g_i2l (n := 903) C dL_law_902 rfl ?_
    refine g_lcmp (n := 904) C dL_law_903 (hg1 hw0) rfl ?_
    refine g_if_eq (n := 907) (tgt := 909) C dL_law_904 (by decide) rfl (fun h904 => ?_) (fun h904 => absurd rfl h904)
    refine g_goto (tgt := 2021) C dL_law_909 (by decide) ?_
    refine G.swap ?_
    refine G.weak (ls' := [some (.ref b9), some (.ref (bk 0)), some (.ref mo), some (.ref q9), some (.int (nI (4 * j))), none, none]) ?_ rfl lw_weak
    refine G.mono (ce' := ce + 57) (sl' := sl + 474) (by omega) (by omega) (kk Lc1 f6 Aq Iq ⟨hcw.ext (fun a ha => hfx a (List.mem_append_left _ ha)), ⟨g1, ho6⟩, ad, hm4⟩)
theorem lc_start (C : gC p l e room_1 s m args below meth c s0 D cy [] code 7 RL) (hN : gN9 s0) {b9 N : Nat} {xs : Nat → Int32} (hX : va_X b9 N xs s s.heap) (hbl : b9 < s.heap.size) (hN9 : N ≤ 2048) {j : Nat} (hj : 4 * j + 4 ≤ N) {Lc Lm : List Nat} {f : gF} {A : Nat → Nat → Int32} {I : Nat → Int32} {co mo q9 : Nat} (hw : LWD cy co mo q9 A I Lc Lm f) {ce sl : Nat} (hce : ce + 57 ≤ 601024) (hsl : sl + 474 ≤ 7293034) (kk : ∀ (Lc1 : List Nat) (f1 : gF) (A1 : Nat → Nat → Int32) (I1 : Nat → Int32), LWD cy co mo q9 A1 I1 Lc1 Lm f1 → G p l e room_1 s m args below meth c Q D [] 7 ((Lc1 ++ [q9]) ++ Lm) f1 (ce + 57) (sl + 474) 2021 [some (.ref b9), some (.ref co), some (.ref mo), some (.ref q9), some (.int (nI (4 * j))), none, none] ([])) : G p l e room_1 s m args below meth c Q D [] 7 ((Lc ++ [q9]) ++ Lm) f ce sl 912 [some (.ref b9), some (.ref co), some (.ref mo), some (.ref q9), some (.int (nI (4 * j))), none, none] ([]) := by
  obtain ⟨⟨bk, n, X, Is, PR, PL, S, rfl, hR, hB9, hC9⟩, ⟨g0, hf9⟩, ad, hm⟩ := hw
  have hE := C.2.2.2.2.2.1
  have hl := C.2.2.2.2.2.2.2
  obtain ⟨hI7, hn9, hPR, hSh, hPL, hPb, -⟩ := hR.nv
  have hRec := hR.rec9
  obtain ⟨TG, hTG⟩ := hR.tgs
  refine G.swap ?_
  refine g_peek C ((k6_start hE hl hm hRec hI7 hn9 (xs (4 * j + 1))).fr (Lc ++ [q9])) dL_law_932 kM_X6_start kL_L_147 kV_X6_start (hm.1.of (List.mem_append_left _ hm.1.1) rfl) rfl rfl ⟨by decide, by decide⟩ ⟨by show ce + 0 ≤ 601024; omega, by show sl + 0 ≤ 7293034; omega⟩ (fun v8 L8 f8 hq => ?_)
  obtain ⟨Lx, fx, ⟨-, bb, Ab, Ib, -, -, hrl⟩, -⟩ := hq
  refine G.swap ?_
  refine g_aload_n (n := 913) C dL_law_912 rfl (Or.inr ⟨_, rfl⟩) rfl ?_
  refine g_aload_n (n := 914) C dL_law_913 rfl (Or.inr ⟨_, rfl⟩) rfl ?_
  refine g_iload (n := 916) C dL_law_914 rfl rfl ?_
  refine g_iconst (n := 917) (v := nI 1) C dL_law_916 rfl rfl ?_
  refine g_iaddN (n := 918) C dL_law_917 rfl ?_
  refine g_sld (n := 919) (j := 4 * j + 1) C hX hbl List.not_mem_nil dL_law_918 rfl (by omega) (by omega) rfl ?_
  refine g_aload_n (n := 920) C dL_law_919 rfl (Or.inr ⟨_, rfl⟩) rfl ?_
  refine g_SH (n := 923) (rest := []) C ((kw_start hE hl hR hB9 hC9 (xs (4 * j + 1)) (start_c hE hl hR hB9 hC9 (xs (4 * j + 1))) ⟨bb, Ab, Ib, hrl⟩ (fun _ _ _ _ _ _ _ h => h) hN hf9).fr Lm) dL_law_920 kH_start (List.mem_of_getElem? (i := 434) (by decide +kernel)) kT_start rfl rfl (Nat.le_of_ble_eq_true rfl) ⟨by decide, by decide⟩ ⟨by show ce + 7 ≤ 601024; omega, by show sl + 54 ≤ 7293034; omega⟩ rfl (fun v8 L8 f8 hq => ?_)
  obtain ⟨L1, f1, hq, rfl, e1, e2⟩ := hq
  obtain ⟨Lc1, g1, rfl, ho1, w, hw4, rfl, hall⟩ := hq
  have hm1 := hm.ext e2
  refine G.sk (st' := [_]) rfl ?_
  refine G.swap ?_
  refine g_istore (n := 925) (ls' := [_, _, _, _, _, _, _]) C dL_law_923 rfl (by decide) rfl ?_
  refine g_aload_n (n := 926) C dL_law_925 rfl (Or.inr ⟨_, rfl⟩) rfl ?_
  refine g_aload_n (n := 927) C dL_law_926 rfl (Or.inr ⟨_, rfl⟩) rfl ?_
  refine g_iload (n := 929) C dL_law_927 rfl rfl ?_
  refine g_iconst (n := 930) (v := nI 1) C dL_law_929 rfl rfl ?_
  refine g_iaddN (n := 931) C dL_law_930 rfl ?_
  refine g_sld (n := 932) (j := 4 * j + 1) C hX hbl List.not_mem_nil dL_law_931 rfl (by omega) (by omega) rfl ?_
  refine g_V (n := 935) (rest := []) C ((k6_start hE hl hm1 hRec hI7 hn9 (xs (4 * j + 1))).fr (Lc1 ++ [q9])) dL_law_932 kM_X6_start kL_L_147 kV_X6_start (hm1.1.of (List.mem_append_left _ hm1.1.1) rfl) rfl rfl rfl (Nat.le_of_ble_eq_true rfl) ⟨by decide, by decide⟩ ⟨by show ce + 7 + 0 ≤ 601024; omega, by show sl + 54 + 0 ≤ 7293034; omega⟩ rfl (fun v7 L7 f7 hq => ?_)
  obtain ⟨L2, f2, ⟨rfl, bq, Aq, Iq, rfl, hm2, hrq⟩, rfl, e3, e4⟩ := hq
  have hm3 := hm2.ext (fun a ha => (e3 a ha).1)
  refine G.sk (st' := [_]) rfl ?_
  refine g_istore (n := 937) (ls' := [_, _, _, _, _, _, _]) C dL_law_935 rfl (by decide) rfl ?_
  refine g_aload_n (n := 938) C dL_law_937 rfl (Or.inr ⟨_, rfl⟩) rfl ?_
  refine g_V (n := 941) (rest := []) C ((k6_thrown hE hl hm3).fr (Lc1 ++ [q9])) dL_law_938 kM_X6_thrown kL_L_113 kV_X6_thrown (hm3.1.of (List.mem_append_left _ hm3.1.1) rfl) rfl rfl rfl (Nat.le_of_ble_eq_true rfl) ⟨by decide, by decide⟩ ⟨by show ce + 7 + 0 + 0 ≤ 601024; omega, by show sl + 54 + 0 + 0 ≤ 7293034; omega⟩ rfl (fun v6 L6 f6 hq => ?_)
  obtain ⟨L3, f3, ⟨rfl, rfl, rfl⟩, rfl, e5, e6⟩ := hq
  have hm4 := hm3.ext (fun a ha => (e5 a ha).1)
  obtain ⟨h27, hg1, hcw⟩ := hall bq Aq Iq hrq
  have hfx : ∀ a, a ∈ Lc1 ++ [q9] → f6 a = f1 a := fun a ha => (e6 a ha).trans ((e4 a ha).trans (e1 a ha).1)
  have ho6 := (hfx q9 (List.mem_append_right _ List.mem_cons_self)).trans ho1
  refine G.sk (st' := [_]) rfl ?_
  refine g_iload (n := 943) C dL_law_941 rfl rfl ?_
  refine g_icmp_eq (n := 946) (tgt := 948) C dL_law_943 (by decide) rfl (fun h943 => ?_) (fun h943 => absurd h27 h943)
  refine g_iload (n := 950) C dL_law_948 rfl rfl ?_
  refine g_if_ne (n := 953) (tgt := 965) C dL_law_950 (by decide) rfl (fun h950 => ?_) (fun h950 => ?_)
  · refine g_goto (tgt := 2021) C dL_law_965 (by decide) ?_
    refine G.swap ?_
    refine G.weak (ls' := [some (.ref b9), some (.ref (bk 0)), some (.ref mo), some (.ref q9), some (.int (nI (4 * j))), none, none]) ?_ rfl lw_weak
    refine G.mono (ce' := ce + 57) (sl' := sl + 474) (by omega) (by omega) (kk Lc1 f6 Aq Iq ⟨hcw.ext (fun a ha => hfx a (List.mem_append_left _ ha)), ⟨g1, ho6⟩, ad, hm4⟩)
  · have hw0 : w = 0 := gn_inj (by omega) (by omega) h950
    refine g_aload_n (n := 954) C dL_law_953 rfl (Or.inr ⟨_, rfl⟩) rfl ?_
    refine g_iconst (n := 955) (v := nI 0) C dL_law_954 rfl rfl ?_
    refine g_lald (n := 956) C dL_law_955 (⟨List.mem_append_right _ (List.mem_append_right _ List.mem_cons_self), ho6⟩ : gH (Lm ++ (Lc1 ++ [q9])) f6 q9 (.inl (cy 2, 1, .inr (.inl g1)))) rfl (by omega) (by decide) rfl ?_
    refine g_iload (n := 958) C dL_law_956 rfl rfl ?_
    refine g_i2l (n := 959) C dL_law_958 rfl ?_
    refine g_lcmp (n := 960) C dL_law_959 (hg1 hw0) rfl ?_
    refine g_if_eq (n := 963) (tgt := 965) C dL_law_960 (by decide) rfl (fun h960 => ?_) (fun h960 => absurd rfl h960)
    refine g_goto (tgt := 2021) C dL_law_965 (by decide) ?_
    refine G.swap ?_
    refine G.weak (ls' := [some (.ref b9), some (.ref (bk 0)), some (.ref mo), some (.ref q9), some (.int (nI (4 * j))), none, none]) ?_ rfl lw_weak
    refine G.mono (ce' := ce + 57) (sl' := sl + 474) (by omega) (by omega) (kk Lc1 f6 Aq Iq ⟨hcw.ext (fun a ha => hfx a (List.mem_append_left _ ha)), ⟨g1, ho6⟩, ad, hm4⟩)
theorem lc_step (C : gC p l e room_1 s m args below meth c s0 D cy [] code 7 RL) (hN : gN9 s0) {b9 N : Nat} {xs : Nat → Int32} (hX : va_X b9 N xs s s.heap) (hbl : b9 < s.heap.size) (hN9 : N ≤ 2048) {j : Nat} (hj : 4 * j + 4 ≤ N) {Lc Lm : List Nat} {f : gF} {A : Nat → Nat → Int32} {I : Nat → Int32} {co mo q9 : Nat} (hw : LWD cy co mo q9 A I Lc Lm f) {ce sl : Nat} (hce : ce + 57 ≤ 601024) (hsl : sl + 474 ≤ 7293034) (kk : ∀ (Lc1 : List Nat) (f1 : gF) (A1 : Nat → Nat → Int32) (I1 : Nat → Int32), LWD cy co mo q9 A1 I1 Lc1 Lm f1 → G p l e room_1 s m args below meth c Q D [] 7 ((Lc1 ++ [q9]) ++ Lm) f1 (ce + 57) (sl + 474) 2021 [some (.ref b9), some (.ref co), some (.ref mo), some (.ref q9), some (.int (nI (4 * j))), none, none] ([])) : G p l e room_1 s m args below meth c Q D [] 7 ((Lc ++ [q9]) ++ Lm) f ce sl 968 [some (.ref b9), some (.ref co), some (.ref mo), some (.ref q9), some (.int (nI (4 * j))), none, none] ([]) := by
  obtain ⟨⟨bk, n, X, Is, PR, PL, S, rfl, hR, hB9, hC9⟩, ⟨g0, hf9⟩, ad, hm⟩ := hw
  have hE := C.2.2.2.2.2.1
  have hl := C.2.2.2.2.2.2.2
  obtain ⟨hI7, hn9, hPR, hSh, hPL, hPb, -⟩ := hR.nv
  have hRec := hR.rec9
  obtain ⟨TG, hTG⟩ := hR.tgs
  obtain ⟨k0, d0, m0, hG5, hG6⟩ := hR.goes hB9
  refine G.swap ?_
  refine g_peek C ((k6_step hE hl hm hI7 hPR hSh hG6).fr (Lc ++ [q9])) dL_law_976 kM_X6_step kL_L_151 kV_X6_step (hm.1.of (List.mem_append_left _ hm.1.1) rfl) rfl rfl ⟨by decide, by decide⟩ ⟨by show ce + 0 ≤ 601024; omega, by show sl + 0 ≤ 7293034; omega⟩ (fun v8 L8 f8 hq => ?_)
  obtain ⟨Lx, fx, ⟨-, bb, Ab, Ib, -, -, hrl⟩, -⟩ := hq
  refine G.swap ?_
  refine g_aload_n (n := 969) C dL_law_968 rfl (Or.inr ⟨_, rfl⟩) rfl ?_
  refine g_aload_n (n := 970) C dL_law_969 rfl (Or.inr ⟨_, rfl⟩) rfl ?_
  refine g_SH (n := 973) (rest := []) C ((kw_step hE hl hR hB9 hC9 (step_c hE hl hR hB9 hC9 hG5) ⟨bb, Ab, Ib, hrl⟩ (fun _ _ _ _ _ _ _ h => h) hN hf9).fr Lm) dL_law_970 kH_step (List.mem_of_getElem? (i := 533) (by decide +kernel)) kT_step rfl rfl (Nat.le_of_ble_eq_true rfl) ⟨by decide, by decide⟩ ⟨by show ce + 5 ≤ 601024; omega, by show sl + 42 ≤ 7293034; omega⟩ rfl (fun v8 L8 f8 hq => ?_)
  obtain ⟨L1, f1, hq, rfl, e1, e2⟩ := hq
  obtain ⟨Lc1, g1, rfl, ho1, w, hw4, rfl, hall⟩ := hq
  have hm1 := hm.ext e2
  refine G.sk (st' := [_]) rfl ?_
  refine G.swap ?_
  refine g_istore (n := 975) (ls' := [_, _, _, _, _, _, _]) C dL_law_973 rfl (by decide) rfl ?_
  refine g_aload_n (n := 976) C dL_law_975 rfl (Or.inr ⟨_, rfl⟩) rfl ?_
  refine g_V (n := 979) (rest := []) C ((k6_step hE hl hm1 hI7 hPR hSh hG6).fr (Lc1 ++ [q9])) dL_law_976 kM_X6_step kL_L_151 kV_X6_step (hm1.1.of (List.mem_append_left _ hm1.1.1) rfl) rfl rfl rfl (Nat.le_of_ble_eq_true rfl) ⟨by decide, by decide⟩ ⟨by show ce + 5 + 0 ≤ 601024; omega, by show sl + 42 + 0 ≤ 7293034; omega⟩ rfl (fun v7 L7 f7 hq => ?_)
  obtain ⟨L2, f2, ⟨rfl, bq, Aq, Iq, rfl, hm2, hrq⟩, rfl, e3, e4⟩ := hq
  have hm3 := hm2.ext (fun a ha => (e3 a ha).1)
  refine G.sk (st' := [_]) rfl ?_
  refine g_istore (n := 981) (ls' := [_, _, _, _, _, _, _]) C dL_law_979 rfl (by decide) rfl ?_
  refine g_aload_n (n := 982) C dL_law_981 rfl (Or.inr ⟨_, rfl⟩) rfl ?_
  refine g_V (n := 985) (rest := []) C ((k6_thrown hE hl hm3).fr (Lc1 ++ [q9])) dL_law_982 kM_X6_thrown kL_L_113 kV_X6_thrown (hm3.1.of (List.mem_append_left _ hm3.1.1) rfl) rfl rfl rfl (Nat.le_of_ble_eq_true rfl) ⟨by decide, by decide⟩ ⟨by show ce + 5 + 0 + 0 ≤ 601024; omega, by show sl + 42 + 0 + 0 ≤ 7293034; omega⟩ rfl (fun v6 L6 f6 hq => ?_)
  obtain ⟨L3, f3, ⟨rfl, rfl, rfl⟩, rfl, e5, e6⟩ := hq
  have hm4 := hm3.ext (fun a ha => (e5 a ha).1)
  obtain ⟨h27, hg1, hcw⟩ := hall bq Aq Iq hrq
  have hfx : ∀ a, a ∈ Lc1 ++ [q9] → f6 a = f1 a := fun a ha => (e6 a ha).trans ((e4 a ha).trans (e1 a ha).1)
  have ho6 := (hfx q9 (List.mem_append_right _ List.mem_cons_self)).trans ho1
  refine G.sk (st' := [_]) rfl ?_
  refine g_iload (n := 987) C dL_law_985 rfl rfl ?_
  refine g_icmp_eq (n := 990) (tgt := 992) C dL_law_987 (by decide) rfl (fun h987 => ?_) (fun h987 => absurd h27 h987)
  refine g_iload (n := 994) C dL_law_992 rfl rfl ?_
  refine g_if_ne (n := 997) (tgt := 1009) C dL_law_994 (by decide) rfl (fun h994 => ?_) (fun h994 => ?_)
  · refine g_goto (tgt := 2021) C dL_law_1009 (by decide) ?_
    refine G.swap ?_
    refine G.weak (ls' := [some (.ref b9), some (.ref (bk 0)), some (.ref mo), some (.ref q9), some (.int (nI (4 * j))), none, none]) ?_ rfl lw_weak
    refine G.mono (ce' := ce + 57) (sl' := sl + 474) (by omega) (by omega) (kk Lc1 f6 Aq Iq ⟨hcw.ext (fun a ha => hfx a (List.mem_append_left _ ha)), ⟨g1, ho6⟩, ad, hm4⟩)
  · have hw0 : w = 0 := gn_inj (by omega) (by omega) h994
    refine g_aload_n (n := 998) C dL_law_997 rfl (Or.inr ⟨_, rfl⟩) rfl ?_
    refine g_iconst (n := 999) (v := nI 0) C dL_law_998 rfl rfl ?_
    refine g_lald (n := 1000) C dL_law_999 (⟨List.mem_append_right _ (List.mem_append_right _ List.mem_cons_self), ho6⟩ : gH (Lm ++ (Lc1 ++ [q9])) f6 q9 (.inl (cy 2, 1, .inr (.inl g1)))) rfl (by omega) (by decide) rfl ?_
    refine g_iload (n := 1002) C dL_law_1000 rfl rfl ?_
    refine g_i2l (n := 1003) C dL_law_1002 rfl ?_
    refine g_lcmp (n := 1004) C dL_law_1003 (hg1 hw0) rfl ?_
    refine g_if_eq (n := 1007) (tgt := 1009) C dL_law_1004 (by decide) rfl (fun h1004 => ?_) (fun h1004 => absurd rfl h1004)
    refine g_goto (tgt := 2021) C dL_law_1009 (by decide) ?_
    refine G.swap ?_
    refine G.weak (ls' := [some (.ref b9), some (.ref (bk 0)), some (.ref mo), some (.ref q9), some (.int (nI (4 * j))), none, none]) ?_ rfl lw_weak
    refine G.mono (ce' := ce + 57) (sl' := sl + 474) (by omega) (by omega) (kk Lc1 f6 Aq Iq ⟨hcw.ext (fun a ha => hfx a (List.mem_append_left _ ha)), ⟨g1, ho6⟩, ad, hm4⟩)
theorem lc_build (C : gC p l e room_1 s m args below meth c s0 D cy [] code 7 RL) (hN : gN9 s0) {b9 N : Nat} {xs : Nat → Int32} (hX : va_X b9 N xs s s.heap) (hbl : b9 < s.heap.size) (hN9 : N ≤ 2048) {j : Nat} (hj : 4 * j + 4 ≤ N) {Lc Lm : List Nat} {f : gF} {A : Nat → Nat → Int32} {I : Nat → Int32} {co mo q9 : Nat} (hw : LWD cy co mo q9 A I Lc Lm f) {ce sl : Nat} (hce : ce + 57 ≤ 601024) (hsl : sl + 474 ≤ 7293034) (kk : ∀ (Lc1 : List Nat) (f1 : gF) (A1 : Nat → Nat → Int32) (I1 : Nat → Int32), LWD cy co mo q9 A1 I1 Lc1 Lm f1 → G p l e room_1 s m args below meth c Q D [] 7 ((Lc1 ++ [q9]) ++ Lm) f1 (ce + 57) (sl + 474) 2021 [some (.ref b9), some (.ref co), some (.ref mo), some (.ref q9), some (.int (nI (4 * j))), none, none] ([])) : G p l e room_1 s m args below meth c Q D [] 7 ((Lc ++ [q9]) ++ Lm) f ce sl 1012 [some (.ref b9), some (.ref co), some (.ref mo), some (.ref q9), some (.int (nI (4 * j))), none, none] ([]) := by
  obtain ⟨⟨bk, n, X, Is, PR, PL, S, rfl, hR, hB9, hC9⟩, ⟨g0, hf9⟩, ad, hm⟩ := hw
  have hE := C.2.2.2.2.2.1
  have hl := C.2.2.2.2.2.2.2
  obtain ⟨hI7, hn9, hPR, hSh, hPL, hPb, -⟩ := hR.nv
  have hRec := hR.rec9
  obtain ⟨TG, hTG⟩ := hR.tgs
  refine G.swap ?_
  refine g_peek C ((k6_build hE hl hm hRec hI7 hn9 hPR hSh (xs (4 * j + 1))).fr (Lc ++ [q9])) dL_law_1032 kM_X6_build kL_L_154 kV_X6_build (hm.1.of (List.mem_append_left _ hm.1.1) rfl) rfl rfl ⟨by decide, by decide⟩ ⟨by show ce + 0 ≤ 601024; omega, by show sl + 0 ≤ 7293034; omega⟩ (fun v8 L8 f8 hq => ?_)
  obtain ⟨Lx, fx, ⟨-, bb, Ab, Ib, -, -, hrl⟩, -⟩ := hq
  refine G.swap ?_
  refine g_aload_n (n := 1013) C dL_law_1012 rfl (Or.inr ⟨_, rfl⟩) rfl ?_
  refine g_aload_n (n := 1014) C dL_law_1013 rfl (Or.inr ⟨_, rfl⟩) rfl ?_
  refine g_iload (n := 1016) C dL_law_1014 rfl rfl ?_
  refine g_iconst (n := 1017) (v := nI 1) C dL_law_1016 rfl rfl ?_
  refine g_iaddN (n := 1018) C dL_law_1017 rfl ?_
  refine g_sld (n := 1019) (j := 4 * j + 1) C hX hbl List.not_mem_nil dL_law_1018 rfl (by omega) (by omega) rfl ?_
  refine g_aload_n (n := 1020) C dL_law_1019 rfl (Or.inr ⟨_, rfl⟩) rfl ?_
  refine g_SH (n := 1023) (rest := []) C ((kw_build hE hl hR hB9 hC9 (xs (4 * j + 1)) (k5_build hE hl hR hB9 hC9 (xs (4 * j + 1))) ⟨bb, Ab, Ib, hrl⟩ (fun _ _ _ _ _ _ _ h => h) hN hf9).fr Lm) dL_law_1020 kH_build (List.mem_of_getElem? (i := 614) (by decide +kernel)) kT_build rfl rfl (Nat.le_of_ble_eq_true rfl) ⟨by decide, by decide⟩ ⟨by show ce + 57 ≤ 601024; omega, by show sl + 474 ≤ 7293034; omega⟩ rfl (fun v8 L8 f8 hq => ?_)
  obtain ⟨L1, f1, hq, rfl, e1, e2⟩ := hq
  obtain ⟨Lc1, g1, rfl, ho1, w, hw4, rfl, hall⟩ := hq
  have hm1 := hm.ext e2
  refine G.sk (st' := [_]) rfl ?_
  refine G.swap ?_
  refine g_istore (n := 1025) (ls' := [_, _, _, _, _, _, _]) C dL_law_1023 rfl (by decide) rfl ?_
  refine g_aload_n (n := 1026) C dL_law_1025 rfl (Or.inr ⟨_, rfl⟩) rfl ?_
  refine g_aload_n (n := 1027) C dL_law_1026 rfl (Or.inr ⟨_, rfl⟩) rfl ?_
  refine g_iload (n := 1029) C dL_law_1027 rfl rfl ?_
  refine g_iconst (n := 1030) (v := nI 1) C dL_law_1029 rfl rfl ?_
  refine g_iaddN (n := 1031) C dL_law_1030 rfl ?_
  refine g_sld (n := 1032) (j := 4 * j + 1) C hX hbl List.not_mem_nil dL_law_1031 rfl (by omega) (by omega) rfl ?_
  refine g_V (n := 1035) (rest := []) C ((k6_build hE hl hm1 hRec hI7 hn9 hPR hSh (xs (4 * j + 1))).fr (Lc1 ++ [q9])) dL_law_1032 kM_X6_build kL_L_154 kV_X6_build (hm1.1.of (List.mem_append_left _ hm1.1.1) rfl) rfl rfl rfl (Nat.le_of_ble_eq_true rfl) ⟨by decide, by decide⟩ ⟨by show ce + 57 + 0 ≤ 601024; omega, by show sl + 474 + 0 ≤ 7293034; omega⟩ rfl (fun v7 L7 f7 hq => ?_)
  obtain ⟨L2, f2, ⟨rfl, bq, Aq, Iq, rfl, hm2, hrq⟩, rfl, e3, e4⟩ := hq
  have hm3 := hm2.ext (fun a ha => (e3 a ha).1)
  refine G.sk (st' := [_]) rfl ?_
  refine g_istore (n := 1037) (ls' := [_, _, _, _, _, _, _]) C dL_law_1035 rfl (by decide) rfl ?_
  refine g_aload_n (n := 1038) C dL_law_1037 rfl (Or.inr ⟨_, rfl⟩) rfl ?_
  refine g_V (n := 1041) (rest := []) C ((k6_thrown hE hl hm3).fr (Lc1 ++ [q9])) dL_law_1038 kM_X6_thrown kL_L_113 kV_X6_thrown (hm3.1.of (List.mem_append_left _ hm3.1.1) rfl) rfl rfl rfl (Nat.le_of_ble_eq_true rfl) ⟨by decide, by decide⟩ ⟨by show ce + 57 + 0 + 0 ≤ 601024; omega, by show sl + 474 + 0 + 0 ≤ 7293034; omega⟩ rfl (fun v6 L6 f6 hq => ?_)
  obtain ⟨L3, f3, ⟨rfl, rfl, rfl⟩, rfl, e5, e6⟩ := hq
  have hm4 := hm3.ext (fun a ha => (e5 a ha).1)
  obtain ⟨h27, hg1, hcw⟩ := hall bq Aq Iq hrq
  have hfx : ∀ a, a ∈ Lc1 ++ [q9] → f6 a = f1 a := fun a ha => (e6 a ha).trans ((e4 a ha).trans (e1 a ha).1)
  have ho6 := (hfx q9 (List.mem_append_right _ List.mem_cons_self)).trans ho1
  refine G.sk (st' := [_]) rfl ?_
  refine g_iload (n := 1043) C dL_law_1041 rfl rfl ?_
  refine g_icmp_eq (n := 1046) (tgt := 1048) C dL_law_1043 (by decide) rfl (fun h1043 => ?_) (fun h1043 => absurd h27 h1043)
  refine g_iload (n := 1050) C dL_law_1048 rfl rfl ?_
  refine g_if_ne (n := 1053) (tgt := 1065) C dL_law_1050 (by decide) rfl (fun h1050 => ?_) (fun h1050 => ?_)
  · refine g_goto (tgt := 2021) C dL_law_1065 (by decide) ?_
    refine G.swap ?_
    refine G.weak (ls' := [some (.ref b9), some (.ref (bk 0)), some (.ref mo), some (.ref q9), some (.int (nI (4 * j))), none, none]) ?_ rfl lw_weak
    refine G.mono (ce' := ce + 57) (sl' := sl + 474) (by omega) (by omega) (kk Lc1 f6 Aq Iq ⟨hcw.ext (fun a ha => hfx a (List.mem_append_left _ ha)), ⟨g1, ho6⟩, ad, hm4⟩)
  · have hw0 : w = 0 := gn_inj (by omega) (by omega) h1050
    refine g_aload_n (n := 1054) C dL_law_1053 rfl (Or.inr ⟨_, rfl⟩) rfl ?_
    refine g_iconst (n := 1055) (v := nI 0) C dL_law_1054 rfl rfl ?_
    refine g_lald (n := 1056) C dL_law_1055 (⟨List.mem_append_right _ (List.mem_append_right _ List.mem_cons_self), ho6⟩ : gH (Lm ++ (Lc1 ++ [q9])) f6 q9 (.inl (cy 2, 1, .inr (.inl g1)))) rfl (by omega) (by decide) rfl ?_
    refine g_iload (n := 1058) C dL_law_1056 rfl rfl ?_
    refine g_i2l (n := 1059) C dL_law_1058 rfl ?_
    refine g_lcmp (n := 1060) C dL_law_1059 (hg1 hw0) rfl ?_
    refine g_if_eq (n := 1063) (tgt := 1065) C dL_law_1060 (by decide) rfl (fun h1060 => ?_) (fun h1060 => absurd rfl h1060)
    refine g_goto (tgt := 2021) C dL_law_1065 (by decide) ?_
    refine G.swap ?_
    refine G.weak (ls' := [some (.ref b9), some (.ref (bk 0)), some (.ref mo), some (.ref q9), some (.int (nI (4 * j))), none, none]) ?_ rfl lw_weak
    refine G.mono (ce' := ce + 57) (sl' := sl + 474) (by omega) (by omega) (kk Lc1 f6 Aq Iq ⟨hcw.ext (fun a ha => hfx a (List.mem_append_left _ ha)), ⟨g1, ho6⟩, ad, hm4⟩)
theorem lc_stepsLeft (C : gC p l e room_1 s m args below meth c s0 D cy [] code 7 RL) (hN : gN9 s0) {b9 N : Nat} {xs : Nat → Int32} (hX : va_X b9 N xs s s.heap) (hbl : b9 < s.heap.size) (hN9 : N ≤ 2048) {j : Nat} (hj : 4 * j + 4 ≤ N) {Lc Lm : List Nat} {f : gF} {A : Nat → Nat → Int32} {I : Nat → Int32} {co mo q9 : Nat} (hw : LWD cy co mo q9 A I Lc Lm f) {ce sl : Nat} (hce : ce + 57 ≤ 601024) (hsl : sl + 474 ≤ 7293034) (kk : ∀ (Lc1 : List Nat) (f1 : gF) (A1 : Nat → Nat → Int32) (I1 : Nat → Int32), LWD cy co mo q9 A1 I1 Lc1 Lm f1 → G p l e room_1 s m args below meth c Q D [] 7 ((Lc1 ++ [q9]) ++ Lm) f1 (ce + 57) (sl + 474) 2021 [some (.ref b9), some (.ref co), some (.ref mo), some (.ref q9), some (.int (nI (4 * j))), none, none] ([])) : G p l e room_1 s m args below meth c Q D [] 7 ((Lc ++ [q9]) ++ Lm) f ce sl 1068 [some (.ref b9), some (.ref co), some (.ref mo), some (.ref q9), some (.int (nI (4 * j))), none, none] ([]) := by
  obtain ⟨⟨bk, n, X, Is, PR, PL, S, rfl, hR, hB9, hC9⟩, ⟨g0, hf9⟩, ad, hm⟩ := hw
  have hE := C.2.2.2.2.2.1
  have hl := C.2.2.2.2.2.2.2
  obtain ⟨hI7, hn9, hPR, hSh, hPL, hPb, -⟩ := hR.nv
  have hRec := hR.rec9
  obtain ⟨TG, hTG⟩ := hR.tgs
  refine G.pool (L' := Lc ++ ([q9] ++ Lm)) (List.append_assoc _ _ _) ?_
  refine g_aload_n (n := 1069) C dL_law_1068 rfl (Or.inr ⟨_, rfl⟩) rfl ?_
  refine g_V (n := 1072) (rest := []) C ((k5_stepsLeft hE hl hR hB9 hC9).fr ([q9] ++ Lm)) dL_law_1069 kM_X5_stepsLeft kL_L_155 kV_X5_stepsLeft (hR.co.of (List.mem_append_left _ hR.co.1) rfl) rfl rfl rfl (Nat.le_of_ble_eq_true rfl) ⟨by decide, by decide⟩ ⟨by show ce + 0 ≤ 601024; omega, by show sl + 0 ≤ 7293034; omega⟩ rfl (fun v8 L8 f8 hq => ?_)
  obtain ⟨Lc1, f1, hq, rfl, e1, e2⟩ := hq
  obtain ⟨-, rfl, hcw⟩ := hq _ _ _ ⟨rfl, rfl, rfl⟩
  have hm1 := hm.ext (fun a ha => e2 a (List.mem_append_right _ ha))
  have ho8 := (e2 q9 (List.mem_append_left _ List.mem_cons_self)).trans hf9
  refine G.pool (L' := (Lc1 ++ [q9]) ++ Lm) (List.append_assoc _ _ _).symm ?_
  refine G.swap ?_
  refine G.sk (st' := [_]) rfl ?_
  refine g_aload_n (n := 1073) C dL_law_1072 rfl (Or.inr ⟨_, rfl⟩) rfl ?_
  refine g_V (n := 1076) (rest := [_]) C ((k6_stepsLeft hE hl hm1 ).fr (Lc1 ++ [q9])) dL_law_1073 kM_X6_stepsLeft kL_L_158 kV_X6_stepsLeft (hm1.1.of (List.mem_append_left _ hm1.1.1) rfl) rfl rfl rfl (Nat.le_of_ble_eq_true rfl) ⟨by decide, by decide⟩ ⟨by show ce + 0 + 0 ≤ 601024; omega, by show sl + 0 + 0 ≤ 7293034; omega⟩ rfl (fun v7 L7 f7 hq => ?_)
  obtain ⟨L2, f2, ⟨rfl, bq, Aq, Iq, rfl, hm2, rfl, rfl, rfl⟩, rfl, e3, e4⟩ := hq
  have hm3 := hm2.ext (fun a ha => (e3 a ha).1)
  refine G.sk (st' := [_, _]) rfl ?_
  refine g_icmp_eq (n := 1079) (tgt := 2021) C dL_law_1076 (by decide) rfl (fun h1076 => ?_) (fun h1076 => absurd rfl h1076)
  refine G.swap ?_
  refine G.weak (ls' := [some (.ref b9), some (.ref (bk 0)), some (.ref mo), some (.ref q9), some (.int (nI (4 * j))), none, none]) ?_ rfl lw_weak
  refine G.mono (ce' := ce + 57) (sl' := sl + 474) (by omega) (by omega) (kk Lc1 f7 _ _ ⟨hcw.ext (fun a ha => (e4 a (List.mem_append_left _ ha)).trans (e1 a ha).1), ⟨g0, (e4 q9 (List.mem_append_right _ List.mem_cons_self)).trans ho8⟩, ad, hm3⟩)
theorem lc_built (C : gC p l e room_1 s m args below meth c s0 D cy [] code 7 RL) (hN : gN9 s0) {b9 N : Nat} {xs : Nat → Int32} (hX : va_X b9 N xs s s.heap) (hbl : b9 < s.heap.size) (hN9 : N ≤ 2048) {j : Nat} (hj : 4 * j + 4 ≤ N) {Lc Lm : List Nat} {f : gF} {A : Nat → Nat → Int32} {I : Nat → Int32} {co mo q9 : Nat} (hw : LWD cy co mo q9 A I Lc Lm f) {ce sl : Nat} (hce : ce + 57 ≤ 601024) (hsl : sl + 474 ≤ 7293034) (kk : ∀ (Lc1 : List Nat) (f1 : gF) (A1 : Nat → Nat → Int32) (I1 : Nat → Int32), LWD cy co mo q9 A1 I1 Lc1 Lm f1 → G p l e room_1 s m args below meth c Q D [] 7 ((Lc1 ++ [q9]) ++ Lm) f1 (ce + 57) (sl + 474) 2021 [some (.ref b9), some (.ref co), some (.ref mo), some (.ref q9), some (.int (nI (4 * j))), none, none] ([])) : G p l e room_1 s m args below meth c Q D [] 7 ((Lc ++ [q9]) ++ Lm) f ce sl 1081 [some (.ref b9), some (.ref co), some (.ref mo), some (.ref q9), some (.int (nI (4 * j))), none, none] ([]) := by
  obtain ⟨⟨bk, n, X, Is, PR, PL, S, rfl, hR, hB9, hC9⟩, ⟨g0, hf9⟩, ad, hm⟩ := hw
  have hE := C.2.2.2.2.2.1
  have hl := C.2.2.2.2.2.2.2
  obtain ⟨hI7, hn9, hPR, hSh, hPL, hPb, -⟩ := hR.nv
  have hRec := hR.rec9
  obtain ⟨TG, hTG⟩ := hR.tgs
  refine G.pool (L' := Lc ++ ([q9] ++ Lm)) (List.append_assoc _ _ _) ?_
  refine g_aload_n (n := 1082) C dL_law_1081 rfl (Or.inr ⟨_, rfl⟩) rfl ?_
  refine g_V (n := 1085) (rest := []) C ((k5_built hE hl hR hB9 hC9).fr ([q9] ++ Lm)) dL_law_1082 kM_X5_built kL_L_159 kV_X5_built (hR.co.of (List.mem_append_left _ hR.co.1) rfl) rfl rfl rfl (Nat.le_of_ble_eq_true rfl) ⟨by decide, by decide⟩ ⟨by show ce + 0 ≤ 601024; omega, by show sl + 0 ≤ 7293034; omega⟩ rfl (fun v8 L8 f8 hq => ?_)
  obtain ⟨Lc1, f1, hq, rfl, e1, e2⟩ := hq
  obtain ⟨-, rfl, hcw⟩ := hq _ _ _ ⟨rfl, rfl, rfl⟩
  have hm1 := hm.ext (fun a ha => e2 a (List.mem_append_right _ ha))
  have ho8 := (e2 q9 (List.mem_append_left _ List.mem_cons_self)).trans hf9
  refine G.pool (L' := (Lc1 ++ [q9]) ++ Lm) (List.append_assoc _ _ _).symm ?_
  refine G.swap ?_
  refine G.sk (st' := [_]) rfl ?_
  refine g_aload_n (n := 1086) C dL_law_1085 rfl (Or.inr ⟨_, rfl⟩) rfl ?_
  refine g_V (n := 1089) (rest := [_]) C ((k6_built hE hl hm1 hR.b18).fr (Lc1 ++ [q9])) dL_law_1086 kM_X6_built kL_L_162 kV_X6_built (hm1.1.of (List.mem_append_left _ hm1.1.1) rfl) rfl rfl rfl (Nat.le_of_ble_eq_true rfl) ⟨by decide, by decide⟩ ⟨by show ce + 0 + 0 ≤ 601024; omega, by show sl + 0 + 0 ≤ 7293034; omega⟩ rfl (fun v7 L7 f7 hq => ?_)
  obtain ⟨L2, f2, ⟨rfl, bq, Aq, Iq, rfl, hm2, rfl, rfl, rfl⟩, rfl, e3, e4⟩ := hq
  have hm3 := hm2.ext (fun a ha => (e3 a ha).1)
  refine G.sk (st' := [_, _]) rfl ?_
  refine g_icmp_eq (n := 1092) (tgt := 2021) C dL_law_1089 (by decide) rfl (fun h1089 => ?_) (fun h1089 => absurd rfl h1089)
  refine G.swap ?_
  refine G.weak (ls' := [some (.ref b9), some (.ref (bk 0)), some (.ref mo), some (.ref q9), some (.int (nI (4 * j))), none, none]) ?_ rfl lw_weak
  refine G.mono (ce' := ce + 57) (sl' := sl + 474) (by omega) (by omega) (kk Lc1 f7 _ _ ⟨hcw.ext (fun a ha => (e4 a (List.mem_append_left _ ha)).trans (e1 a ha).1), ⟨g0, (e4 q9 (List.mem_append_right _ List.mem_cons_self)).trans ho8⟩, ad, hm3⟩)
theorem lc_hits (C : gC p l e room_1 s m args below meth c s0 D cy [] code 7 RL) (hN : gN9 s0) {b9 N : Nat} {xs : Nat → Int32} (hX : va_X b9 N xs s s.heap) (hbl : b9 < s.heap.size) (hN9 : N ≤ 2048) {j : Nat} (hj : 4 * j + 4 ≤ N) {Lc Lm : List Nat} {f : gF} {A : Nat → Nat → Int32} {I : Nat → Int32} {co mo q9 : Nat} (hw : LWD cy co mo q9 A I Lc Lm f) {ce sl : Nat} (hce : ce + 57 ≤ 601024) (hsl : sl + 474 ≤ 7293034) (kk : ∀ (Lc1 : List Nat) (f1 : gF) (A1 : Nat → Nat → Int32) (I1 : Nat → Int32), LWD cy co mo q9 A1 I1 Lc1 Lm f1 → G p l e room_1 s m args below meth c Q D [] 7 ((Lc1 ++ [q9]) ++ Lm) f1 (ce + 57) (sl + 474) 2021 [some (.ref b9), some (.ref co), some (.ref mo), some (.ref q9), some (.int (nI (4 * j))), none, none] ([])) : G p l e room_1 s m args below meth c Q D [] 7 ((Lc ++ [q9]) ++ Lm) f ce sl 1094 [some (.ref b9), some (.ref co), some (.ref mo), some (.ref q9), some (.int (nI (4 * j))), none, none] ([]) := by
  obtain ⟨⟨bk, n, X, Is, PR, PL, S, rfl, hR, hB9, hC9⟩, ⟨g0, hf9⟩, ad, hm⟩ := hw
  have hE := C.2.2.2.2.2.1
  have hl := C.2.2.2.2.2.2.2
  obtain ⟨hI7, hn9, hPR, hSh, hPL, hPb, -⟩ := hR.nv
  have hRec := hR.rec9
  obtain ⟨TG, hTG⟩ := hR.tgs
  refine G.pool (L' := Lc ++ ([q9] ++ Lm)) (List.append_assoc _ _ _) ?_
  refine g_aload_n (n := 1095) C dL_law_1094 rfl (Or.inr ⟨_, rfl⟩) rfl ?_
  refine g_V (n := 1098) (rest := []) C ((k5_hits hE hl hR hB9 hC9).fr ([q9] ++ Lm)) dL_law_1095 kM_X5_hits kL_L_163 kV_X5_hits (hR.co.of (List.mem_append_left _ hR.co.1) rfl) rfl rfl rfl (Nat.le_of_ble_eq_true rfl) ⟨by decide, by decide⟩ ⟨by show ce + 0 ≤ 601024; omega, by show sl + 0 ≤ 7293034; omega⟩ rfl (fun v8 L8 f8 hq => ?_)
  obtain ⟨Lc1, f1, hq, rfl, e1, e2⟩ := hq
  obtain ⟨-, rfl, hcw⟩ := hq _ _ _ ⟨rfl, rfl, rfl⟩
  have hm1 := hm.ext (fun a ha => e2 a (List.mem_append_right _ ha))
  have ho8 := (e2 q9 (List.mem_append_left _ List.mem_cons_self)).trans hf9
  refine G.pool (L' := (Lc1 ++ [q9]) ++ Lm) (List.append_assoc _ _ _).symm ?_
  refine G.swap ?_
  refine G.sk (st' := [_]) rfl ?_
  refine g_aload_n (n := 1099) C dL_law_1098 rfl (Or.inr ⟨_, rfl⟩) rfl ?_
  refine g_V (n := 1102) (rest := [_]) C ((k6_hits hE hl hm1 ).fr (Lc1 ++ [q9])) dL_law_1099 kM_X6_hits kL_L_166 kV_X6_hits (hm1.1.of (List.mem_append_left _ hm1.1.1) rfl) rfl rfl rfl (Nat.le_of_ble_eq_true rfl) ⟨by decide, by decide⟩ ⟨by show ce + 0 + 0 ≤ 601024; omega, by show sl + 0 + 0 ≤ 7293034; omega⟩ rfl (fun v7 L7 f7 hq => ?_)
  obtain ⟨L2, f2, ⟨rfl, bq, Aq, Iq, rfl, hm2, rfl, rfl, rfl⟩, rfl, e3, e4⟩ := hq
  have hm3 := hm2.ext (fun a ha => (e3 a ha).1)
  refine G.sk (st' := [_, _]) rfl ?_
  refine g_icmp_eq (n := 1105) (tgt := 2021) C dL_law_1102 (by decide) rfl (fun h1102 => ?_) (fun h1102 => absurd rfl h1102)
  refine G.swap ?_
  refine G.weak (ls' := [some (.ref b9), some (.ref (bk 0)), some (.ref mo), some (.ref q9), some (.int (nI (4 * j))), none, none]) ?_ rfl lw_weak
  refine G.mono (ce' := ce + 57) (sl' := sl + 474) (by omega) (by omega) (kk Lc1 f7 _ _ ⟨hcw.ext (fun a ha => (e4 a (List.mem_append_left _ ha)).trans (e1 a ha).1), ⟨g0, (e4 q9 (List.mem_append_right _ List.mem_cons_self)).trans ho8⟩, ad, hm3⟩)
theorem lc_misses (C : gC p l e room_1 s m args below meth c s0 D cy [] code 7 RL) (hN : gN9 s0) {b9 N : Nat} {xs : Nat → Int32} (hX : va_X b9 N xs s s.heap) (hbl : b9 < s.heap.size) (hN9 : N ≤ 2048) {j : Nat} (hj : 4 * j + 4 ≤ N) {Lc Lm : List Nat} {f : gF} {A : Nat → Nat → Int32} {I : Nat → Int32} {co mo q9 : Nat} (hw : LWD cy co mo q9 A I Lc Lm f) {ce sl : Nat} (hce : ce + 57 ≤ 601024) (hsl : sl + 474 ≤ 7293034) (kk : ∀ (Lc1 : List Nat) (f1 : gF) (A1 : Nat → Nat → Int32) (I1 : Nat → Int32), LWD cy co mo q9 A1 I1 Lc1 Lm f1 → G p l e room_1 s m args below meth c Q D [] 7 ((Lc1 ++ [q9]) ++ Lm) f1 (ce + 57) (sl + 474) 2021 [some (.ref b9), some (.ref co), some (.ref mo), some (.ref q9), some (.int (nI (4 * j))), none, none] ([])) : G p l e room_1 s m args below meth c Q D [] 7 ((Lc ++ [q9]) ++ Lm) f ce sl 1107 [some (.ref b9), some (.ref co), some (.ref mo), some (.ref q9), some (.int (nI (4 * j))), none, none] ([]) := by
  obtain ⟨⟨bk, n, X, Is, PR, PL, S, rfl, hR, hB9, hC9⟩, ⟨g0, hf9⟩, ad, hm⟩ := hw
  have hE := C.2.2.2.2.2.1
  have hl := C.2.2.2.2.2.2.2
  obtain ⟨hI7, hn9, hPR, hSh, hPL, hPb, -⟩ := hR.nv
  have hRec := hR.rec9
  obtain ⟨TG, hTG⟩ := hR.tgs
  refine G.pool (L' := Lc ++ ([q9] ++ Lm)) (List.append_assoc _ _ _) ?_
  refine g_aload_n (n := 1108) C dL_law_1107 rfl (Or.inr ⟨_, rfl⟩) rfl ?_
  refine g_V (n := 1111) (rest := []) C ((k5_misses hE hl hR hB9 hC9).fr ([q9] ++ Lm)) dL_law_1108 kM_X5_misses kL_L_167 kV_X5_misses (hR.co.of (List.mem_append_left _ hR.co.1) rfl) rfl rfl rfl (Nat.le_of_ble_eq_true rfl) ⟨by decide, by decide⟩ ⟨by show ce + 0 ≤ 601024; omega, by show sl + 0 ≤ 7293034; omega⟩ rfl (fun v8 L8 f8 hq => ?_)
  obtain ⟨Lc1, f1, hq, rfl, e1, e2⟩ := hq
  obtain ⟨-, rfl, hcw⟩ := hq _ _ _ ⟨rfl, rfl, rfl⟩
  have hm1 := hm.ext (fun a ha => e2 a (List.mem_append_right _ ha))
  have ho8 := (e2 q9 (List.mem_append_left _ List.mem_cons_self)).trans hf9
  refine G.pool (L' := (Lc1 ++ [q9]) ++ Lm) (List.append_assoc _ _ _).symm ?_
  refine G.swap ?_
  refine G.sk (st' := [_]) rfl ?_
  refine g_aload_n (n := 1112) C dL_law_1111 rfl (Or.inr ⟨_, rfl⟩) rfl ?_
  refine g_V (n := 1115) (rest := [_]) C ((k6_misses hE hl hm1 ).fr (Lc1 ++ [q9])) dL_law_1112 kM_X6_misses kL_L_170 kV_X6_misses (hm1.1.of (List.mem_append_left _ hm1.1.1) rfl) rfl rfl rfl (Nat.le_of_ble_eq_true rfl) ⟨by decide, by decide⟩ ⟨by show ce + 0 + 0 ≤ 601024; omega, by show sl + 0 + 0 ≤ 7293034; omega⟩ rfl (fun v7 L7 f7 hq => ?_)
  obtain ⟨L2, f2, ⟨rfl, bq, Aq, Iq, rfl, hm2, rfl, rfl, rfl⟩, rfl, e3, e4⟩ := hq
  have hm3 := hm2.ext (fun a ha => (e3 a ha).1)
  refine G.sk (st' := [_, _]) rfl ?_
  refine g_icmp_eq (n := 1118) (tgt := 2021) C dL_law_1115 (by decide) rfl (fun h1115 => ?_) (fun h1115 => absurd rfl h1115)
  refine G.swap ?_
  refine G.weak (ls' := [some (.ref b9), some (.ref (bk 0)), some (.ref mo), some (.ref q9), some (.int (nI (4 * j))), none, none]) ?_ rfl lw_weak
  refine G.mono (ce' := ce + 57) (sl' := sl + 474) (by omega) (by omega) (kk Lc1 f7 _ _ ⟨hcw.ext (fun a ha => (e4 a (List.mem_append_left _ ha)).trans (e1 a ha).1), ⟨g0, (e4 q9 (List.mem_append_right _ List.mem_cons_self)).trans ho8⟩, ad, hm3⟩)
theorem lc_cleanDigest (C : gC p l e room_1 s m args below meth c s0 D cy [] code 7 RL) (hN : gN9 s0) {b9 N : Nat} {xs : Nat → Int32} (hX : va_X b9 N xs s s.heap) (hbl : b9 < s.heap.size) (hN9 : N ≤ 2048) {j : Nat} (hj : 4 * j + 4 ≤ N) {Lc Lm : List Nat} {f : gF} {A : Nat → Nat → Int32} {I : Nat → Int32} {co mo q9 : Nat} (hw : LWD cy co mo q9 A I Lc Lm f) {ce sl : Nat} (hce : ce + 57 ≤ 601024) (hsl : sl + 474 ≤ 7293034) (kk : ∀ (Lc1 : List Nat) (f1 : gF) (A1 : Nat → Nat → Int32) (I1 : Nat → Int32), LWD cy co mo q9 A1 I1 Lc1 Lm f1 → G p l e room_1 s m args below meth c Q D [] 7 ((Lc1 ++ [q9]) ++ Lm) f1 (ce + 57) (sl + 474) 2021 [some (.ref b9), some (.ref co), some (.ref mo), some (.ref q9), some (.int (nI (4 * j))), none, none] ([])) : G p l e room_1 s m args below meth c Q D [] 7 ((Lc ++ [q9]) ++ Lm) f ce sl 1120 [some (.ref b9), some (.ref co), some (.ref mo), some (.ref q9), some (.int (nI (4 * j))), none, none] ([]) := by
  obtain ⟨⟨bk, n, X, Is, PR, PL, S, rfl, hR, hB9, hC9⟩, ⟨g0, hf9⟩, ad, hm⟩ := hw
  have hE := C.2.2.2.2.2.1
  have hl := C.2.2.2.2.2.2.2
  obtain ⟨hI7, hn9, hPR, hSh, hPL, hPb, -⟩ := hR.nv
  have hRec := hR.rec9
  obtain ⟨TG, hTG⟩ := hR.tgs
  refine G.swap ?_
  refine g_peek C ((k6_cleanDigest hE hl hm hRec (xs (4 * j + 1))).fr (Lc ++ [q9])) dL_law_1140 kM_X6_cleanDigest kL_L_173 kV_X6_cleanDigest (hm.1.of (List.mem_append_left _ hm.1.1) rfl) rfl rfl ⟨by decide, by decide⟩ ⟨by show ce + 0 ≤ 601024; omega, by show sl + 0 ≤ 7293034; omega⟩ (fun v8 L8 f8 hq => ?_)
  obtain ⟨Lx, fx, ⟨-, bb, Ab, Ib, -, -, hrl⟩, -⟩ := hq
  refine G.swap ?_
  refine g_aload_n (n := 1121) C dL_law_1120 rfl (Or.inr ⟨_, rfl⟩) rfl ?_
  refine g_aload_n (n := 1122) C dL_law_1121 rfl (Or.inr ⟨_, rfl⟩) rfl ?_
  refine g_iload (n := 1124) C dL_law_1122 rfl rfl ?_
  refine g_iconst (n := 1125) (v := nI 1) C dL_law_1124 rfl rfl ?_
  refine g_iaddN (n := 1126) C dL_law_1125 rfl ?_
  refine g_sld (n := 1127) (j := 4 * j + 1) C hX hbl List.not_mem_nil dL_law_1126 rfl (by omega) (by omega) rfl ?_
  refine g_aload_n (n := 1128) C dL_law_1127 rfl (Or.inr ⟨_, rfl⟩) rfl ?_
  refine g_SH (n := 1131) (rest := []) C ((kw_cleanDigest hE hl hR hB9 hC9 (xs (4 * j + 1)) (k5_cleanDigest hE hl hR hB9 hC9 (xs (4 * j + 1))) ⟨bb, Ab, Ib, hrl⟩ (fun b A1 I1 w hr h27 h0 hT => by
      obtain ⟨w2, hw2, hI, -⟩ := hr
      have e := gn_inj (by have := cd2_lt hw2; omega) (by omega) ((show nI w2 = I1 27 by rw [hI]; rfl).trans h27)
      have := cd2_lt hw2
      omega) hN hf9).fr Lm) dL_law_1128 kH_cleanDigest (List.mem_of_getElem? (i := 624) (by decide +kernel)) kT_cleanDigest rfl rfl (Nat.le_of_ble_eq_true rfl) ⟨by decide, by decide⟩ ⟨by show ce + 5 ≤ 601024; omega, by show sl + 42 ≤ 7293034; omega⟩ rfl (fun v8 L8 f8 hq => ?_)
  obtain ⟨L1, f1, hq, rfl, e1, e2⟩ := hq
  obtain ⟨Lc1, g1, rfl, ho1, w, hw4, rfl, hall⟩ := hq
  have hm1 := hm.ext e2
  refine G.sk (st' := [_]) rfl ?_
  refine G.swap ?_
  refine g_istore (n := 1133) (ls' := [_, _, _, _, _, _, _]) C dL_law_1131 rfl (by decide) rfl ?_
  refine g_aload_n (n := 1134) C dL_law_1133 rfl (Or.inr ⟨_, rfl⟩) rfl ?_
  refine g_aload_n (n := 1135) C dL_law_1134 rfl (Or.inr ⟨_, rfl⟩) rfl ?_
  refine g_iload (n := 1137) C dL_law_1135 rfl rfl ?_
  refine g_iconst (n := 1138) (v := nI 1) C dL_law_1137 rfl rfl ?_
  refine g_iaddN (n := 1139) C dL_law_1138 rfl ?_
  refine g_sld (n := 1140) (j := 4 * j + 1) C hX hbl List.not_mem_nil dL_law_1139 rfl (by omega) (by omega) rfl ?_
  refine g_V (n := 1143) (rest := []) C ((k6_cleanDigest hE hl hm1 hRec (xs (4 * j + 1))).fr (Lc1 ++ [q9])) dL_law_1140 kM_X6_cleanDigest kL_L_173 kV_X6_cleanDigest (hm1.1.of (List.mem_append_left _ hm1.1.1) rfl) rfl rfl rfl (Nat.le_of_ble_eq_true rfl) ⟨by decide, by decide⟩ ⟨by show ce + 5 + 0 ≤ 601024; omega, by show sl + 42 + 0 ≤ 7293034; omega⟩ rfl (fun v7 L7 f7 hq => ?_)
  obtain ⟨L2, f2, ⟨rfl, bq, Aq, Iq, rfl, hm2, hrq⟩, rfl, e3, e4⟩ := hq
  have hm3 := hm2.ext (fun a ha => (e3 a ha).1)
  refine G.sk (st' := [_]) rfl ?_
  refine g_istore (n := 1145) (ls' := [_, _, _, _, _, _, _]) C dL_law_1143 rfl (by decide) rfl ?_
  refine g_aload_n (n := 1146) C dL_law_1145 rfl (Or.inr ⟨_, rfl⟩) rfl ?_
  refine g_V (n := 1149) (rest := []) C ((k6_thrown hE hl hm3).fr (Lc1 ++ [q9])) dL_law_1146 kM_X6_thrown kL_L_113 kV_X6_thrown (hm3.1.of (List.mem_append_left _ hm3.1.1) rfl) rfl rfl rfl (Nat.le_of_ble_eq_true rfl) ⟨by decide, by decide⟩ ⟨by show ce + 5 + 0 + 0 ≤ 601024; omega, by show sl + 42 + 0 + 0 ≤ 7293034; omega⟩ rfl (fun v6 L6 f6 hq => ?_)
  obtain ⟨L3, f3, ⟨rfl, rfl, rfl⟩, rfl, e5, e6⟩ := hq
  have hm4 := hm3.ext (fun a ha => (e5 a ha).1)
  obtain ⟨h27, hg1, hcw⟩ := hall bq Aq Iq hrq
  have hfx : ∀ a, a ∈ Lc1 ++ [q9] → f6 a = f1 a := fun a ha => (e6 a ha).trans ((e4 a ha).trans (e1 a ha).1)
  have ho6 := (hfx q9 (List.mem_append_right _ List.mem_cons_self)).trans ho1
  refine G.sk (st' := [_]) rfl ?_
  refine g_iload (n := 1151) C dL_law_1149 rfl rfl ?_
  refine g_icmp_eq (n := 1154) (tgt := 1156) C dL_law_1151 (by decide) rfl (fun h1151 => ?_) (fun h1151 => absurd h27 h1151)
  refine g_iload (n := 1158) C dL_law_1156 rfl rfl ?_
  refine g_if_ne (n := 1161) (tgt := 1173) C dL_law_1158 (by decide) rfl (fun h1158 => ?_) (fun h1158 => ?_)
  · refine g_goto (tgt := 2021) C dL_law_1173 (by decide) ?_
    refine G.swap ?_
    refine G.weak (ls' := [some (.ref b9), some (.ref (bk 0)), some (.ref mo), some (.ref q9), some (.int (nI (4 * j))), none, none]) ?_ rfl lw_weak
    refine G.mono (ce' := ce + 57) (sl' := sl + 474) (by omega) (by omega) (kk Lc1 f6 Aq Iq ⟨hcw.ext (fun a ha => hfx a (List.mem_append_left _ ha)), ⟨g1, ho6⟩, ad, hm4⟩)
  · have hw0 : w = 0 := gn_inj (by omega) (by omega) h1158
    refine g_aload_n (n := 1162) C dL_law_1161 rfl (Or.inr ⟨_, rfl⟩) rfl ?_
    refine g_iconst (n := 1163) (v := nI 0) C dL_law_1162 rfl rfl ?_
    refine g_lald (n := 1164) C dL_law_1163 (⟨List.mem_append_right _ (List.mem_append_right _ List.mem_cons_self), ho6⟩ : gH (Lm ++ (Lc1 ++ [q9])) f6 q9 (.inl (cy 2, 1, .inr (.inl g1)))) rfl (by omega) (by decide) rfl ?_
    refine g_iload (n := 1166) C dL_law_1164 rfl rfl ?_
    refine g_i2l (n := 1167) C dL_law_1166 rfl ?_
    refine g_lcmp (n := 1168) C dL_law_1167 (hg1 hw0) rfl ?_
    refine g_if_eq (n := 1171) (tgt := 1173) C dL_law_1168 (by decide) rfl (fun h1168 => ?_) (fun h1168 => absurd rfl h1168)
    refine g_goto (tgt := 2021) C dL_law_1173 (by decide) ?_
    refine G.swap ?_
    refine G.weak (ls' := [some (.ref b9), some (.ref (bk 0)), some (.ref mo), some (.ref q9), some (.int (nI (4 * j))), none, none]) ?_ rfl lw_weak
    refine G.mono (ce' := ce + 57) (sl' := sl + 474) (by omega) (by omega) (kk Lc1 f6 Aq Iq ⟨hcw.ext (fun a ha => hfx a (List.mem_append_left _ ha)), ⟨g1, ho6⟩, ad, hm4⟩)
theorem lc_tag (C : gC p l e room_1 s m args below meth c s0 D cy [] code 7 RL) (hN : gN9 s0) {b9 N : Nat} {xs : Nat → Int32} (hX : va_X b9 N xs s s.heap) (hbl : b9 < s.heap.size) (hN9 : N ≤ 2048) {j : Nat} (hj : 4 * j + 4 ≤ N) {Lc Lm : List Nat} {f : gF} {A : Nat → Nat → Int32} {I : Nat → Int32} {co mo q9 : Nat} (hw : LWD cy co mo q9 A I Lc Lm f) {ce sl : Nat} (hce : ce + 57 ≤ 601024) (hsl : sl + 474 ≤ 7293034) (kk : ∀ (Lc1 : List Nat) (f1 : gF) (A1 : Nat → Nat → Int32) (I1 : Nat → Int32), LWD cy co mo q9 A1 I1 Lc1 Lm f1 → G p l e room_1 s m args below meth c Q D [] 7 ((Lc1 ++ [q9]) ++ Lm) f1 (ce + 57) (sl + 474) 2021 [some (.ref b9), some (.ref co), some (.ref mo), some (.ref q9), some (.int (nI (4 * j))), none, none] ([])) : G p l e room_1 s m args below meth c Q D [] 7 ((Lc ++ [q9]) ++ Lm) f ce sl 1176 [some (.ref b9), some (.ref co), some (.ref mo), some (.ref q9), some (.int (nI (4 * j))), none, none] ([]) := by
  obtain ⟨⟨bk, n, X, Is, PR, PL, S, rfl, hR, hB9, hC9⟩, ⟨g0, hf9⟩, ad, hm⟩ := hw
  have hE := C.2.2.2.2.2.1
  have hl := C.2.2.2.2.2.2.2
  obtain ⟨hI7, hn9, hPR, hSh, hPL, hPb, -⟩ := hR.nv
  have hRec := hR.rec9
  obtain ⟨TG, hTG⟩ := hR.tgs
  refine G.swap ?_
  refine g_peek C ((k6_tag hE hl hm hR.b18 (xs (4 * j + 1))).fr (Lc ++ [q9])) dL_law_1196 kM_X6_tag kL_L_176 kV_X6_tag (hm.1.of (List.mem_append_left _ hm.1.1) rfl) rfl rfl ⟨by decide, by decide⟩ ⟨by show ce + 0 ≤ 601024; omega, by show sl + 0 ≤ 7293034; omega⟩ (fun v8 L8 f8 hq => ?_)
  obtain ⟨Lx, fx, ⟨-, bb, Ab, Ib, -, -, hrl⟩, -⟩ := hq
  refine G.swap ?_
  refine g_aload_n (n := 1177) C dL_law_1176 rfl (Or.inr ⟨_, rfl⟩) rfl ?_
  refine g_aload_n (n := 1178) C dL_law_1177 rfl (Or.inr ⟨_, rfl⟩) rfl ?_
  refine g_iload (n := 1180) C dL_law_1178 rfl rfl ?_
  refine g_iconst (n := 1181) (v := nI 1) C dL_law_1180 rfl rfl ?_
  refine g_iaddN (n := 1182) C dL_law_1181 rfl ?_
  refine g_sld (n := 1183) (j := 4 * j + 1) C hX hbl List.not_mem_nil dL_law_1182 rfl (by omega) (by omega) rfl ?_
  refine g_aload_n (n := 1184) C dL_law_1183 rfl (Or.inr ⟨_, rfl⟩) rfl ?_
  refine g_SH (n := 1187) (rest := []) C ((kw_tag hE hl hR hB9 hC9 (xs (4 * j + 1)) (k5_tag hE hl hR hB9 hC9 (xs (4 * j + 1))) ⟨bb, Ab, Ib, hrl⟩ (fun _ _ _ _ _ _ _ h => h) hN hf9).fr Lm) dL_law_1184 kH_tag (List.mem_of_getElem? (i := 639) (by decide +kernel)) kT_tag rfl rfl (Nat.le_of_ble_eq_true rfl) ⟨by decide, by decide⟩ ⟨by show ce + 2 ≤ 601024; omega, by show sl + 12 ≤ 7293034; omega⟩ rfl (fun v8 L8 f8 hq => ?_)
  obtain ⟨L1, f1, hq, rfl, e1, e2⟩ := hq
  obtain ⟨Lc1, g1, rfl, ho1, w, hw4, rfl, hall⟩ := hq
  have hm1 := hm.ext e2
  refine G.sk (st' := [_]) rfl ?_
  refine G.swap ?_
  refine g_istore (n := 1189) (ls' := [_, _, _, _, _, _, _]) C dL_law_1187 rfl (by decide) rfl ?_
  refine g_aload_n (n := 1190) C dL_law_1189 rfl (Or.inr ⟨_, rfl⟩) rfl ?_
  refine g_aload_n (n := 1191) C dL_law_1190 rfl (Or.inr ⟨_, rfl⟩) rfl ?_
  refine g_iload (n := 1193) C dL_law_1191 rfl rfl ?_
  refine g_iconst (n := 1194) (v := nI 1) C dL_law_1193 rfl rfl ?_
  refine g_iaddN (n := 1195) C dL_law_1194 rfl ?_
  refine g_sld (n := 1196) (j := 4 * j + 1) C hX hbl List.not_mem_nil dL_law_1195 rfl (by omega) (by omega) rfl ?_
  refine g_V (n := 1199) (rest := []) C ((k6_tag hE hl hm1 hR.b18 (xs (4 * j + 1))).fr (Lc1 ++ [q9])) dL_law_1196 kM_X6_tag kL_L_176 kV_X6_tag (hm1.1.of (List.mem_append_left _ hm1.1.1) rfl) rfl rfl rfl (Nat.le_of_ble_eq_true rfl) ⟨by decide, by decide⟩ ⟨by show ce + 2 + 0 ≤ 601024; omega, by show sl + 12 + 0 ≤ 7293034; omega⟩ rfl (fun v7 L7 f7 hq => ?_)
  obtain ⟨L2, f2, ⟨rfl, bq, Aq, Iq, rfl, hm2, hrq⟩, rfl, e3, e4⟩ := hq
  have hm3 := hm2.ext (fun a ha => (e3 a ha).1)
  refine G.sk (st' := [_]) rfl ?_
  refine g_istore (n := 1201) (ls' := [_, _, _, _, _, _, _]) C dL_law_1199 rfl (by decide) rfl ?_
  refine g_aload_n (n := 1202) C dL_law_1201 rfl (Or.inr ⟨_, rfl⟩) rfl ?_
  refine g_V (n := 1205) (rest := []) C ((k6_thrown hE hl hm3).fr (Lc1 ++ [q9])) dL_law_1202 kM_X6_thrown kL_L_113 kV_X6_thrown (hm3.1.of (List.mem_append_left _ hm3.1.1) rfl) rfl rfl rfl (Nat.le_of_ble_eq_true rfl) ⟨by decide, by decide⟩ ⟨by show ce + 2 + 0 + 0 ≤ 601024; omega, by show sl + 12 + 0 + 0 ≤ 7293034; omega⟩ rfl (fun v6 L6 f6 hq => ?_)
  obtain ⟨L3, f3, ⟨rfl, rfl, rfl⟩, rfl, e5, e6⟩ := hq
  have hm4 := hm3.ext (fun a ha => (e5 a ha).1)
  obtain ⟨h27, hg1, hcw⟩ := hall bq Aq Iq hrq
  have hfx : ∀ a, a ∈ Lc1 ++ [q9] → f6 a = f1 a := fun a ha => (e6 a ha).trans ((e4 a ha).trans (e1 a ha).1)
  have ho6 := (hfx q9 (List.mem_append_right _ List.mem_cons_self)).trans ho1
  refine G.sk (st' := [_]) rfl ?_
  refine g_iload (n := 1207) C dL_law_1205 rfl rfl ?_
  refine g_icmp_eq (n := 1210) (tgt := 1212) C dL_law_1207 (by decide) rfl (fun h1207 => ?_) (fun h1207 => absurd h27 h1207)
  refine g_iload (n := 1214) C dL_law_1212 rfl rfl ?_
  refine g_if_ne (n := 1217) (tgt := 1229) C dL_law_1214 (by decide) rfl (fun h1214 => ?_) (fun h1214 => ?_)
  · refine g_goto (tgt := 2021) C dL_law_1229 (by decide) ?_
    refine G.swap ?_
    refine G.weak (ls' := [some (.ref b9), some (.ref (bk 0)), some (.ref mo), some (.ref q9), some (.int (nI (4 * j))), none, none]) ?_ rfl lw_weak
    refine G.mono (ce' := ce + 57) (sl' := sl + 474) (by omega) (by omega) (kk Lc1 f6 Aq Iq ⟨hcw.ext (fun a ha => hfx a (List.mem_append_left _ ha)), ⟨g1, ho6⟩, ad, hm4⟩)
  · have hw0 : w = 0 := gn_inj (by omega) (by omega) h1214
    refine g_aload_n (n := 1218) C dL_law_1217 rfl (Or.inr ⟨_, rfl⟩) rfl ?_
    refine g_iconst (n := 1219) (v := nI 0) C dL_law_1218 rfl rfl ?_
    refine g_lald (n := 1220) C dL_law_1219 (⟨List.mem_append_right _ (List.mem_append_right _ List.mem_cons_self), ho6⟩ : gH (Lm ++ (Lc1 ++ [q9])) f6 q9 (.inl (cy 2, 1, .inr (.inl g1)))) rfl (by omega) (by decide) rfl ?_
    refine g_iload (n := 1222) C dL_law_1220 rfl rfl ?_
    refine g_i2l (n := 1223) C dL_law_1222 rfl ?_
    refine g_lcmp (n := 1224) C dL_law_1223 (hg1 hw0) rfl ?_
    refine g_if_eq (n := 1227) (tgt := 1229) C dL_law_1224 (by decide) rfl (fun h1224 => ?_) (fun h1224 => absurd rfl h1224)
    refine g_goto (tgt := 2021) C dL_law_1229 (by decide) ?_
    refine G.swap ?_
    refine G.weak (ls' := [some (.ref b9), some (.ref (bk 0)), some (.ref mo), some (.ref q9), some (.int (nI (4 * j))), none, none]) ?_ rfl lw_weak
    refine G.mono (ce' := ce + 57) (sl' := sl + 474) (by omega) (by omega) (kk Lc1 f6 Aq Iq ⟨hcw.ext (fun a ha => hfx a (List.mem_append_left _ ha)), ⟨g1, ho6⟩, ad, hm4⟩)
theorem lc_untag (C : gC p l e room_1 s m args below meth c s0 D cy [] code 7 RL) (hN : gN9 s0) {b9 N : Nat} {xs : Nat → Int32} (hX : va_X b9 N xs s s.heap) (hbl : b9 < s.heap.size) (hN9 : N ≤ 2048) {j : Nat} (hj : 4 * j + 4 ≤ N) {Lc Lm : List Nat} {f : gF} {A : Nat → Nat → Int32} {I : Nat → Int32} {co mo q9 : Nat} (hw : LWD cy co mo q9 A I Lc Lm f) {ce sl : Nat} (hce : ce + 57 ≤ 601024) (hsl : sl + 474 ≤ 7293034) (kk : ∀ (Lc1 : List Nat) (f1 : gF) (A1 : Nat → Nat → Int32) (I1 : Nat → Int32), LWD cy co mo q9 A1 I1 Lc1 Lm f1 → G p l e room_1 s m args below meth c Q D [] 7 ((Lc1 ++ [q9]) ++ Lm) f1 (ce + 57) (sl + 474) 2021 [some (.ref b9), some (.ref co), some (.ref mo), some (.ref q9), some (.int (nI (4 * j))), none, none] ([])) : G p l e room_1 s m args below meth c Q D [] 7 ((Lc ++ [q9]) ++ Lm) f ce sl 1232 [some (.ref b9), some (.ref co), some (.ref mo), some (.ref q9), some (.int (nI (4 * j))), none, none] ([]) := by
  obtain ⟨⟨bk, n, X, Is, PR, PL, S, rfl, hR, hB9, hC9⟩, ⟨g0, hf9⟩, ad, hm⟩ := hw
  have hE := C.2.2.2.2.2.1
  have hl := C.2.2.2.2.2.2.2
  obtain ⟨hI7, hn9, hPR, hSh, hPL, hPb, -⟩ := hR.nv
  have hRec := hR.rec9
  obtain ⟨TG, hTG⟩ := hR.tgs
  refine G.swap ?_
  refine g_peek C ((k6_untag hE hl hm (xs (4 * j + 1))).fr (Lc ++ [q9])) dL_law_1252 kM_X6_untag kL_L_179 kV_X6_untag (hm.1.of (List.mem_append_left _ hm.1.1) rfl) rfl rfl ⟨by decide, by decide⟩ ⟨by show ce + 0 ≤ 601024; omega, by show sl + 0 ≤ 7293034; omega⟩ (fun v8 L8 f8 hq => ?_)
  obtain ⟨Lx, fx, ⟨-, bb, Ab, Ib, -, -, hrl⟩, -⟩ := hq
  refine G.swap ?_
  refine g_aload_n (n := 1233) C dL_law_1232 rfl (Or.inr ⟨_, rfl⟩) rfl ?_
  refine g_aload_n (n := 1234) C dL_law_1233 rfl (Or.inr ⟨_, rfl⟩) rfl ?_
  refine g_iload (n := 1236) C dL_law_1234 rfl rfl ?_
  refine g_iconst (n := 1237) (v := nI 1) C dL_law_1236 rfl rfl ?_
  refine g_iaddN (n := 1238) C dL_law_1237 rfl ?_
  refine g_sld (n := 1239) (j := 4 * j + 1) C hX hbl List.not_mem_nil dL_law_1238 rfl (by omega) (by omega) rfl ?_
  refine g_aload_n (n := 1240) C dL_law_1239 rfl (Or.inr ⟨_, rfl⟩) rfl ?_
  refine g_SH (n := 1243) (rest := []) C ((kw_untag hE hl hR hB9 hC9 (xs (4 * j + 1)) (k5_untag hE hl hR hB9 hC9 (xs (4 * j + 1))) ⟨bb, Ab, Ib, hrl⟩ (fun b A1 I1 w hr h27 h0 hT => by
      obtain ⟨w2, hw2, hI, -⟩ := hr
      have e := gn_inj (by have := cd2_lt hw2; omega) (by omega) ((show nI w2 = I1 27 by rw [hI]; rfl).trans h27)
      have := cd2_lt hw2
      omega) hN hf9).fr Lm) dL_law_1240 kH_untag (List.mem_of_getElem? (i := 647) (by decide +kernel)) kT_untag rfl rfl (Nat.le_of_ble_eq_true rfl) ⟨by decide, by decide⟩ ⟨by show ce + 2 ≤ 601024; omega, by show sl + 12 ≤ 7293034; omega⟩ rfl (fun v8 L8 f8 hq => ?_)
  obtain ⟨L1, f1, hq, rfl, e1, e2⟩ := hq
  obtain ⟨Lc1, g1, rfl, ho1, w, hw4, rfl, hall⟩ := hq
  have hm1 := hm.ext e2
  refine G.sk (st' := [_]) rfl ?_
  refine G.swap ?_
  refine g_istore (n := 1245) (ls' := [_, _, _, _, _, _, _]) C dL_law_1243 rfl (by decide) rfl ?_
  refine g_aload_n (n := 1246) C dL_law_1245 rfl (Or.inr ⟨_, rfl⟩) rfl ?_
  refine g_aload_n (n := 1247) C dL_law_1246 rfl (Or.inr ⟨_, rfl⟩) rfl ?_
  refine g_iload (n := 1249) C dL_law_1247 rfl rfl ?_
  refine g_iconst (n := 1250) (v := nI 1) C dL_law_1249 rfl rfl ?_
  refine g_iaddN (n := 1251) C dL_law_1250 rfl ?_
  refine g_sld (n := 1252) (j := 4 * j + 1) C hX hbl List.not_mem_nil dL_law_1251 rfl (by omega) (by omega) rfl ?_
  refine g_V (n := 1255) (rest := []) C ((k6_untag hE hl hm1 (xs (4 * j + 1))).fr (Lc1 ++ [q9])) dL_law_1252 kM_X6_untag kL_L_179 kV_X6_untag (hm1.1.of (List.mem_append_left _ hm1.1.1) rfl) rfl rfl rfl (Nat.le_of_ble_eq_true rfl) ⟨by decide, by decide⟩ ⟨by show ce + 2 + 0 ≤ 601024; omega, by show sl + 12 + 0 ≤ 7293034; omega⟩ rfl (fun v7 L7 f7 hq => ?_)
  obtain ⟨L2, f2, ⟨rfl, bq, Aq, Iq, rfl, hm2, hrq⟩, rfl, e3, e4⟩ := hq
  have hm3 := hm2.ext (fun a ha => (e3 a ha).1)
  refine G.sk (st' := [_]) rfl ?_
  refine g_istore (n := 1257) (ls' := [_, _, _, _, _, _, _]) C dL_law_1255 rfl (by decide) rfl ?_
  refine g_aload_n (n := 1258) C dL_law_1257 rfl (Or.inr ⟨_, rfl⟩) rfl ?_
  refine g_V (n := 1261) (rest := []) C ((k6_thrown hE hl hm3).fr (Lc1 ++ [q9])) dL_law_1258 kM_X6_thrown kL_L_113 kV_X6_thrown (hm3.1.of (List.mem_append_left _ hm3.1.1) rfl) rfl rfl rfl (Nat.le_of_ble_eq_true rfl) ⟨by decide, by decide⟩ ⟨by show ce + 2 + 0 + 0 ≤ 601024; omega, by show sl + 12 + 0 + 0 ≤ 7293034; omega⟩ rfl (fun v6 L6 f6 hq => ?_)
  obtain ⟨L3, f3, ⟨rfl, rfl, rfl⟩, rfl, e5, e6⟩ := hq
  have hm4 := hm3.ext (fun a ha => (e5 a ha).1)
  obtain ⟨h27, hg1, hcw⟩ := hall bq Aq Iq hrq
  have hfx : ∀ a, a ∈ Lc1 ++ [q9] → f6 a = f1 a := fun a ha => (e6 a ha).trans ((e4 a ha).trans (e1 a ha).1)
  have ho6 := (hfx q9 (List.mem_append_right _ List.mem_cons_self)).trans ho1
  refine G.sk (st' := [_]) rfl ?_
  refine g_iload (n := 1263) C dL_law_1261 rfl rfl ?_
  refine g_icmp_eq (n := 1266) (tgt := 1268) C dL_law_1263 (by decide) rfl (fun h1263 => ?_) (fun h1263 => absurd h27 h1263)
  refine g_iload (n := 1270) C dL_law_1268 rfl rfl ?_
  refine g_if_ne (n := 1273) (tgt := 1285) C dL_law_1270 (by decide) rfl (fun h1270 => ?_) (fun h1270 => ?_)
  · refine g_goto (tgt := 2021) C dL_law_1285 (by decide) ?_
    refine G.swap ?_
    refine G.weak (ls' := [some (.ref b9), some (.ref (bk 0)), some (.ref mo), some (.ref q9), some (.int (nI (4 * j))), none, none]) ?_ rfl lw_weak
    refine G.mono (ce' := ce + 57) (sl' := sl + 474) (by omega) (by omega) (kk Lc1 f6 Aq Iq ⟨hcw.ext (fun a ha => hfx a (List.mem_append_left _ ha)), ⟨g1, ho6⟩, ad, hm4⟩)
  · have hw0 : w = 0 := gn_inj (by omega) (by omega) h1270
    refine g_aload_n (n := 1274) C dL_law_1273 rfl (Or.inr ⟨_, rfl⟩) rfl ?_
    refine g_iconst (n := 1275) (v := nI 0) C dL_law_1274 rfl rfl ?_
    refine g_lald (n := 1276) C dL_law_1275 (⟨List.mem_append_right _ (List.mem_append_right _ List.mem_cons_self), ho6⟩ : gH (Lm ++ (Lc1 ++ [q9])) f6 q9 (.inl (cy 2, 1, .inr (.inl g1)))) rfl (by omega) (by decide) rfl ?_
    refine g_iload (n := 1278) C dL_law_1276 rfl rfl ?_
    refine g_i2l (n := 1279) C dL_law_1278 rfl ?_
    refine g_lcmp (n := 1280) C dL_law_1279 (hg1 hw0) rfl ?_
    refine g_if_eq (n := 1283) (tgt := 1285) C dL_law_1280 (by decide) rfl (fun h1280 => ?_) (fun h1280 => absurd rfl h1280)
    refine g_goto (tgt := 2021) C dL_law_1285 (by decide) ?_
    refine G.swap ?_
    refine G.weak (ls' := [some (.ref b9), some (.ref (bk 0)), some (.ref mo), some (.ref q9), some (.int (nI (4 * j))), none, none]) ?_ rfl lw_weak
    refine G.mono (ce' := ce + 57) (sl' := sl + 474) (by omega) (by omega) (kk Lc1 f6 Aq Iq ⟨hcw.ext (fun a ha => hfx a (List.mem_append_left _ ha)), ⟨g1, ho6⟩, ad, hm4⟩)
theorem lc_tagged (C : gC p l e room_1 s m args below meth c s0 D cy [] code 7 RL) (hN : gN9 s0) {b9 N : Nat} {xs : Nat → Int32} (hX : va_X b9 N xs s s.heap) (hbl : b9 < s.heap.size) (hN9 : N ≤ 2048) {j : Nat} (hj : 4 * j + 4 ≤ N) {Lc Lm : List Nat} {f : gF} {A : Nat → Nat → Int32} {I : Nat → Int32} {co mo q9 : Nat} (hw : LWD cy co mo q9 A I Lc Lm f) {ce sl : Nat} (hce : ce + 57 ≤ 601024) (hsl : sl + 474 ≤ 7293034) (kk : ∀ (Lc1 : List Nat) (f1 : gF) (A1 : Nat → Nat → Int32) (I1 : Nat → Int32), LWD cy co mo q9 A1 I1 Lc1 Lm f1 → G p l e room_1 s m args below meth c Q D [] 7 ((Lc1 ++ [q9]) ++ Lm) f1 (ce + 57) (sl + 474) 2021 [some (.ref b9), some (.ref co), some (.ref mo), some (.ref q9), some (.int (nI (4 * j))), none, none] ([])) : G p l e room_1 s m args below meth c Q D [] 7 ((Lc ++ [q9]) ++ Lm) f ce sl 1288 [some (.ref b9), some (.ref co), some (.ref mo), some (.ref q9), some (.int (nI (4 * j))), none, none] ([]) := by
  obtain ⟨⟨bk, n, X, Is, PR, PL, S, rfl, hR, hB9, hC9⟩, ⟨g0, hf9⟩, ad, hm⟩ := hw
  have hE := C.2.2.2.2.2.1
  have hl := C.2.2.2.2.2.2.2
  obtain ⟨hI7, hn9, hPR, hSh, hPL, hPb, -⟩ := hR.nv
  have hRec := hR.rec9
  obtain ⟨TG, hTG⟩ := hR.tgs
  refine G.swap ?_
  refine g_peek C ((k6_tagged hE hl hm (xs (4 * j + 1))).fr (Lc ++ [q9])) dL_law_1308 kM_X6_tagged kL_L_182 kV_X6_tagged (hm.1.of (List.mem_append_left _ hm.1.1) rfl) rfl rfl ⟨by decide, by decide⟩ ⟨by show ce + 0 ≤ 601024; omega, by show sl + 0 ≤ 7293034; omega⟩ (fun v8 L8 f8 hq => ?_)
  obtain ⟨Lx, fx, ⟨-, bb, Ab, Ib, -, -, hrl⟩, -⟩ := hq
  refine G.swap ?_
  refine g_aload_n (n := 1289) C dL_law_1288 rfl (Or.inr ⟨_, rfl⟩) rfl ?_
  refine g_aload_n (n := 1290) C dL_law_1289 rfl (Or.inr ⟨_, rfl⟩) rfl ?_
  refine g_iload (n := 1292) C dL_law_1290 rfl rfl ?_
  refine g_iconst (n := 1293) (v := nI 1) C dL_law_1292 rfl rfl ?_
  refine g_iaddN (n := 1294) C dL_law_1293 rfl ?_
  refine g_sld (n := 1295) (j := 4 * j + 1) C hX hbl List.not_mem_nil dL_law_1294 rfl (by omega) (by omega) rfl ?_
  refine g_aload_n (n := 1296) C dL_law_1295 rfl (Or.inr ⟨_, rfl⟩) rfl ?_
  refine g_SH (n := 1299) (rest := []) C ((kw_tagged hE hl hR hB9 hC9 (xs (4 * j + 1)) (k5_tagged hE hl hR hB9 hC9 (xs (4 * j + 1))) ⟨bb, Ab, Ib, hrl⟩ (fun b A1 I1 w hr h27 h0 hT => by
      obtain ⟨w2, hw2, hI, -⟩ := hr
      have e := gn_inj (by have := cd2_lt hw2; omega) (by omega) ((show nI w2 = I1 27 by rw [hI]; rfl).trans h27)
      have := cd2_lt hw2
      omega) hN hf9).fr Lm) dL_law_1296 kH_tagged (List.mem_of_getElem? (i := 654) (by decide +kernel)) kT_tagged rfl rfl (Nat.le_of_ble_eq_true rfl) ⟨by decide, by decide⟩ ⟨by show ce + 2 ≤ 601024; omega, by show sl + 12 ≤ 7293034; omega⟩ rfl (fun v8 L8 f8 hq => ?_)
  obtain ⟨L1, f1, hq, rfl, e1, e2⟩ := hq
  obtain ⟨Lc1, g1, rfl, ho1, w, hw4, rfl, hall⟩ := hq
  have hm1 := hm.ext e2
  refine G.sk (st' := [_]) rfl ?_
  refine G.swap ?_
  refine g_istore (n := 1301) (ls' := [_, _, _, _, _, _, _]) C dL_law_1299 rfl (by decide) rfl ?_
  refine g_aload_n (n := 1302) C dL_law_1301 rfl (Or.inr ⟨_, rfl⟩) rfl ?_
  refine g_aload_n (n := 1303) C dL_law_1302 rfl (Or.inr ⟨_, rfl⟩) rfl ?_
  refine g_iload (n := 1305) C dL_law_1303 rfl rfl ?_
  refine g_iconst (n := 1306) (v := nI 1) C dL_law_1305 rfl rfl ?_
  refine g_iaddN (n := 1307) C dL_law_1306 rfl ?_
  refine g_sld (n := 1308) (j := 4 * j + 1) C hX hbl List.not_mem_nil dL_law_1307 rfl (by omega) (by omega) rfl ?_
  refine g_V (n := 1311) (rest := []) C ((k6_tagged hE hl hm1 (xs (4 * j + 1))).fr (Lc1 ++ [q9])) dL_law_1308 kM_X6_tagged kL_L_182 kV_X6_tagged (hm1.1.of (List.mem_append_left _ hm1.1.1) rfl) rfl rfl rfl (Nat.le_of_ble_eq_true rfl) ⟨by decide, by decide⟩ ⟨by show ce + 2 + 0 ≤ 601024; omega, by show sl + 12 + 0 ≤ 7293034; omega⟩ rfl (fun v7 L7 f7 hq => ?_)
  obtain ⟨L2, f2, ⟨rfl, bq, Aq, Iq, rfl, hm2, hrq⟩, rfl, e3, e4⟩ := hq
  have hm3 := hm2.ext (fun a ha => (e3 a ha).1)
  refine G.sk (st' := [_]) rfl ?_
  refine g_istore (n := 1313) (ls' := [_, _, _, _, _, _, _]) C dL_law_1311 rfl (by decide) rfl ?_
  refine g_aload_n (n := 1314) C dL_law_1313 rfl (Or.inr ⟨_, rfl⟩) rfl ?_
  refine g_V (n := 1317) (rest := []) C ((k6_thrown hE hl hm3).fr (Lc1 ++ [q9])) dL_law_1314 kM_X6_thrown kL_L_113 kV_X6_thrown (hm3.1.of (List.mem_append_left _ hm3.1.1) rfl) rfl rfl rfl (Nat.le_of_ble_eq_true rfl) ⟨by decide, by decide⟩ ⟨by show ce + 2 + 0 + 0 ≤ 601024; omega, by show sl + 12 + 0 + 0 ≤ 7293034; omega⟩ rfl (fun v6 L6 f6 hq => ?_)
  obtain ⟨L3, f3, ⟨rfl, rfl, rfl⟩, rfl, e5, e6⟩ := hq
  have hm4 := hm3.ext (fun a ha => (e5 a ha).1)
  obtain ⟨h27, hg1, hcw⟩ := hall bq Aq Iq hrq
  have hfx : ∀ a, a ∈ Lc1 ++ [q9] → f6 a = f1 a := fun a ha => (e6 a ha).trans ((e4 a ha).trans (e1 a ha).1)
  have ho6 := (hfx q9 (List.mem_append_right _ List.mem_cons_self)).trans ho1
  refine G.sk (st' := [_]) rfl ?_
  refine g_iload (n := 1319) C dL_law_1317 rfl rfl ?_
  refine g_icmp_eq (n := 1322) (tgt := 1324) C dL_law_1319 (by decide) rfl (fun h1319 => ?_) (fun h1319 => absurd h27 h1319)
  refine g_iload (n := 1326) C dL_law_1324 rfl rfl ?_
  refine g_if_ne (n := 1329) (tgt := 1341) C dL_law_1326 (by decide) rfl (fun h1326 => ?_) (fun h1326 => ?_)
  · refine g_goto (tgt := 2021) C dL_law_1341 (by decide) ?_
    refine G.swap ?_
    refine G.weak (ls' := [some (.ref b9), some (.ref (bk 0)), some (.ref mo), some (.ref q9), some (.int (nI (4 * j))), none, none]) ?_ rfl lw_weak
    refine G.mono (ce' := ce + 57) (sl' := sl + 474) (by omega) (by omega) (kk Lc1 f6 Aq Iq ⟨hcw.ext (fun a ha => hfx a (List.mem_append_left _ ha)), ⟨g1, ho6⟩, ad, hm4⟩)
  · have hw0 : w = 0 := gn_inj (by omega) (by omega) h1326
    refine g_aload_n (n := 1330) C dL_law_1329 rfl (Or.inr ⟨_, rfl⟩) rfl ?_
    refine g_iconst (n := 1331) (v := nI 0) C dL_law_1330 rfl rfl ?_
    refine g_lald (n := 1332) C dL_law_1331 (⟨List.mem_append_right _ (List.mem_append_right _ List.mem_cons_self), ho6⟩ : gH (Lm ++ (Lc1 ++ [q9])) f6 q9 (.inl (cy 2, 1, .inr (.inl g1)))) rfl (by omega) (by decide) rfl ?_
    refine g_iload (n := 1334) C dL_law_1332 rfl rfl ?_
    refine g_i2l (n := 1335) C dL_law_1334 rfl ?_
    refine g_lcmp (n := 1336) C dL_law_1335 (hg1 hw0) rfl ?_
    refine g_if_eq (n := 1339) (tgt := 1341) C dL_law_1336 (by decide) rfl (fun h1336 => ?_) (fun h1336 => absurd rfl h1336)
    refine g_goto (tgt := 2021) C dL_law_1341 (by decide) ?_
    refine G.swap ?_
    refine G.weak (ls' := [some (.ref b9), some (.ref (bk 0)), some (.ref mo), some (.ref q9), some (.int (nI (4 * j))), none, none]) ?_ rfl lw_weak
    refine G.mono (ce' := ce + 57) (sl' := sl + 474) (by omega) (by omega) (kk Lc1 f6 Aq Iq ⟨hcw.ext (fun a ha => hfx a (List.mem_append_left _ ha)), ⟨g1, ho6⟩, ad, hm4⟩)
theorem lc_squash (C : gC p l e room_1 s m args below meth c s0 D cy [] code 7 RL) (hN : gN9 s0) {b9 N : Nat} {xs : Nat → Int32} (hX : va_X b9 N xs s s.heap) (hbl : b9 < s.heap.size) (hN9 : N ≤ 2048) {j : Nat} (hj : 4 * j + 4 ≤ N) {Lc Lm : List Nat} {f : gF} {A : Nat → Nat → Int32} {I : Nat → Int32} {co mo q9 : Nat} (hw : LWD cy co mo q9 A I Lc Lm f) {ce sl : Nat} (hce : ce + 57 ≤ 601024) (hsl : sl + 474 ≤ 7293034) (kk : ∀ (Lc1 : List Nat) (f1 : gF) (A1 : Nat → Nat → Int32) (I1 : Nat → Int32), LWD cy co mo q9 A1 I1 Lc1 Lm f1 → G p l e room_1 s m args below meth c Q D [] 7 ((Lc1 ++ [q9]) ++ Lm) f1 (ce + 57) (sl + 474) 2021 [some (.ref b9), some (.ref co), some (.ref mo), some (.ref q9), some (.int (nI (4 * j))), none, none] ([])) : G p l e room_1 s m args below meth c Q D [] 7 ((Lc ++ [q9]) ++ Lm) f ce sl 1344 [some (.ref b9), some (.ref co), some (.ref mo), some (.ref q9), some (.int (nI (4 * j))), none, none] ([]) := by
  obtain ⟨⟨bk, n, X, Is, PR, PL, S, rfl, hR, hB9, hC9⟩, ⟨g0, hf9⟩, ad, hm⟩ := hw
  have hE := C.2.2.2.2.2.1
  have hl := C.2.2.2.2.2.2.2
  obtain ⟨hI7, hn9, hPR, hSh, hPL, hPb, -⟩ := hR.nv
  have hRec := hR.rec9
  obtain ⟨TG, hTG⟩ := hR.tgs
  refine G.swap ?_
  refine g_peek C ((k6_squash hE hl hm hI7 hn9 hPR hSh hPL hPb hTG (xs (4 * j + 1)) (xs (4 * j + 2))).fr (Lc ++ [q9])) dL_law_1376 kM_X6_squash kL_L_185 kV_X6_squash (hm.1.of (List.mem_append_left _ hm.1.1) rfl) rfl rfl ⟨by decide, by decide⟩ ⟨by show ce + 0 ≤ 601024; omega, by show sl + 0 ≤ 7293034; omega⟩ (fun v8 L8 f8 hq => ?_)
  obtain ⟨Lx, fx, ⟨-, bb, Ab, Ib, -, -, hrl⟩, -⟩ := hq
  refine G.swap ?_
  refine g_aload_n (n := 1345) C dL_law_1344 rfl (Or.inr ⟨_, rfl⟩) rfl ?_
  refine g_aload_n (n := 1346) C dL_law_1345 rfl (Or.inr ⟨_, rfl⟩) rfl ?_
  refine g_iload (n := 1348) C dL_law_1346 rfl rfl ?_
  refine g_iconst (n := 1349) (v := nI 1) C dL_law_1348 rfl rfl ?_
  refine g_iaddN (n := 1350) C dL_law_1349 rfl ?_
  refine g_sld (n := 1351) (j := 4 * j + 1) C hX hbl List.not_mem_nil dL_law_1350 rfl (by omega) (by omega) rfl ?_
  refine g_aload_n (n := 1352) C dL_law_1351 rfl (Or.inr ⟨_, rfl⟩) rfl ?_
  refine g_iload (n := 1354) C dL_law_1352 rfl rfl ?_
  refine g_iconst (n := 1355) (v := nI 2) C dL_law_1354 rfl rfl ?_
  refine g_iaddN (n := 1356) C dL_law_1355 rfl ?_
  refine g_sld (n := 1357) (j := 4 * j + 2) C hX hbl List.not_mem_nil dL_law_1356 rfl (by omega) (by omega) rfl ?_
  refine g_aload_n (n := 1358) C dL_law_1357 rfl (Or.inr ⟨_, rfl⟩) rfl ?_
  refine g_SH (n := 1361) (rest := []) C ((kw_squash hE hl hR hB9 hC9 (xs (4 * j + 1)) (xs (4 * j + 2)) (k5_squash hE hl hR hB9 hC9 hTG (xs (4 * j + 1)) (xs (4 * j + 2))) ⟨bb, Ab, Ib, hrl⟩ (fun _ _ _ _ _ _ _ h => h) hN hf9).fr Lm) dL_law_1358 kH_squash (List.mem_of_getElem? (i := 661) (by decide +kernel)) kT_squash rfl rfl (Nat.le_of_ble_eq_true rfl) ⟨by decide, by decide⟩ ⟨by show ce + 8 ≤ 601024; omega, by show sl + 54 ≤ 7293034; omega⟩ rfl (fun v8 L8 f8 hq => ?_)
  obtain ⟨L1, f1, hq, rfl, e1, e2⟩ := hq
  obtain ⟨Lc1, g1, rfl, ho1, w, hw4, rfl, hall⟩ := hq
  have hm1 := hm.ext e2
  refine G.sk (st' := [_]) rfl ?_
  refine G.swap ?_
  refine g_istore (n := 1363) (ls' := [_, _, _, _, _, _, _]) C dL_law_1361 rfl (by decide) rfl ?_
  refine g_aload_n (n := 1364) C dL_law_1363 rfl (Or.inr ⟨_, rfl⟩) rfl ?_
  refine g_aload_n (n := 1365) C dL_law_1364 rfl (Or.inr ⟨_, rfl⟩) rfl ?_
  refine g_iload (n := 1367) C dL_law_1365 rfl rfl ?_
  refine g_iconst (n := 1368) (v := nI 1) C dL_law_1367 rfl rfl ?_
  refine g_iaddN (n := 1369) C dL_law_1368 rfl ?_
  refine g_sld (n := 1370) (j := 4 * j + 1) C hX hbl List.not_mem_nil dL_law_1369 rfl (by omega) (by omega) rfl ?_
  refine g_aload_n (n := 1371) C dL_law_1370 rfl (Or.inr ⟨_, rfl⟩) rfl ?_
  refine g_iload (n := 1373) C dL_law_1371 rfl rfl ?_
  refine g_iconst (n := 1374) (v := nI 2) C dL_law_1373 rfl rfl ?_
  refine g_iaddN (n := 1375) C dL_law_1374 rfl ?_
  refine g_sld (n := 1376) (j := 4 * j + 2) C hX hbl List.not_mem_nil dL_law_1375 rfl (by omega) (by omega) rfl ?_
  refine g_V (n := 1379) (rest := []) C ((k6_squash hE hl hm1 hI7 hn9 hPR hSh hPL hPb hTG (xs (4 * j + 1)) (xs (4 * j + 2))).fr (Lc1 ++ [q9])) dL_law_1376 kM_X6_squash kL_L_185 kV_X6_squash (hm1.1.of (List.mem_append_left _ hm1.1.1) rfl) rfl rfl rfl (Nat.le_of_ble_eq_true rfl) ⟨by decide, by decide⟩ ⟨by show ce + 8 + 0 ≤ 601024; omega, by show sl + 54 + 0 ≤ 7293034; omega⟩ rfl (fun v7 L7 f7 hq => ?_)
  obtain ⟨L2, f2, ⟨rfl, bq, Aq, Iq, rfl, hm2, hrq⟩, rfl, e3, e4⟩ := hq
  have hm3 := hm2.ext (fun a ha => (e3 a ha).1)
  refine G.sk (st' := [_]) rfl ?_
  refine g_istore (n := 1381) (ls' := [_, _, _, _, _, _, _]) C dL_law_1379 rfl (by decide) rfl ?_
  refine g_aload_n (n := 1382) C dL_law_1381 rfl (Or.inr ⟨_, rfl⟩) rfl ?_
  refine g_V (n := 1385) (rest := []) C ((k6_thrown hE hl hm3).fr (Lc1 ++ [q9])) dL_law_1382 kM_X6_thrown kL_L_113 kV_X6_thrown (hm3.1.of (List.mem_append_left _ hm3.1.1) rfl) rfl rfl rfl (Nat.le_of_ble_eq_true rfl) ⟨by decide, by decide⟩ ⟨by show ce + 8 + 0 + 0 ≤ 601024; omega, by show sl + 54 + 0 + 0 ≤ 7293034; omega⟩ rfl (fun v6 L6 f6 hq => ?_)
  obtain ⟨L3, f3, ⟨rfl, rfl, rfl⟩, rfl, e5, e6⟩ := hq
  have hm4 := hm3.ext (fun a ha => (e5 a ha).1)
  obtain ⟨h27, hg1, hcw⟩ := hall bq Aq Iq hrq
  have hfx : ∀ a, a ∈ Lc1 ++ [q9] → f6 a = f1 a := fun a ha => (e6 a ha).trans ((e4 a ha).trans (e1 a ha).1)
  have ho6 := (hfx q9 (List.mem_append_right _ List.mem_cons_self)).trans ho1
  refine G.sk (st' := [_]) rfl ?_
  refine g_iload (n := 1387) C dL_law_1385 rfl rfl ?_
  refine g_icmp_eq (n := 1390) (tgt := 1392) C dL_law_1387 (by decide) rfl (fun h1387 => ?_) (fun h1387 => absurd h27 h1387)
  refine g_iload (n := 1394) C dL_law_1392 rfl rfl ?_
  refine g_if_ne (n := 1397) (tgt := 1409) C dL_law_1394 (by decide) rfl (fun h1394 => ?_) (fun h1394 => ?_)
  · refine g_goto (tgt := 2021) C dL_law_1409 (by decide) ?_
    refine G.swap ?_
    refine G.weak (ls' := [some (.ref b9), some (.ref (bk 0)), some (.ref mo), some (.ref q9), some (.int (nI (4 * j))), none, none]) ?_ rfl lw_weak
    refine G.mono (ce' := ce + 57) (sl' := sl + 474) (by omega) (by omega) (kk Lc1 f6 Aq Iq ⟨hcw.ext (fun a ha => hfx a (List.mem_append_left _ ha)), ⟨g1, ho6⟩, ad, hm4⟩)
  · have hw0 : w = 0 := gn_inj (by omega) (by omega) h1394
    refine g_aload_n (n := 1398) C dL_law_1397 rfl (Or.inr ⟨_, rfl⟩) rfl ?_
    refine g_iconst (n := 1399) (v := nI 0) C dL_law_1398 rfl rfl ?_
    refine g_lald (n := 1400) C dL_law_1399 (⟨List.mem_append_right _ (List.mem_append_right _ List.mem_cons_self), ho6⟩ : gH (Lm ++ (Lc1 ++ [q9])) f6 q9 (.inl (cy 2, 1, .inr (.inl g1)))) rfl (by omega) (by decide) rfl ?_
    refine g_iload (n := 1402) C dL_law_1400 rfl rfl ?_
    refine g_i2l (n := 1403) C dL_law_1402 rfl ?_
    refine g_lcmp (n := 1404) C dL_law_1403 (hg1 hw0) rfl ?_
    refine g_if_eq (n := 1407) (tgt := 1409) C dL_law_1404 (by decide) rfl (fun h1404 => ?_) (fun h1404 => absurd rfl h1404)
    refine g_goto (tgt := 2021) C dL_law_1409 (by decide) ?_
    refine G.swap ?_
    refine G.weak (ls' := [some (.ref b9), some (.ref (bk 0)), some (.ref mo), some (.ref q9), some (.int (nI (4 * j))), none, none]) ?_ rfl lw_weak
    refine G.mono (ce' := ce + 57) (sl' := sl + 474) (by omega) (by omega) (kk Lc1 f6 Aq Iq ⟨hcw.ext (fun a ha => hfx a (List.mem_append_left _ ha)), ⟨g1, ho6⟩, ad, hm4⟩)
theorem lc_rebase (C : gC p l e room_1 s m args below meth c s0 D cy [] code 7 RL) (hN : gN9 s0) {b9 N : Nat} {xs : Nat → Int32} (hX : va_X b9 N xs s s.heap) (hbl : b9 < s.heap.size) (hN9 : N ≤ 2048) {j : Nat} (hj : 4 * j + 4 ≤ N) {Lc Lm : List Nat} {f : gF} {A : Nat → Nat → Int32} {I : Nat → Int32} {co mo q9 : Nat} (hw : LWD cy co mo q9 A I Lc Lm f) {ce sl : Nat} (hce : ce + 57 ≤ 601024) (hsl : sl + 474 ≤ 7293034) (kk : ∀ (Lc1 : List Nat) (f1 : gF) (A1 : Nat → Nat → Int32) (I1 : Nat → Int32), LWD cy co mo q9 A1 I1 Lc1 Lm f1 → G p l e room_1 s m args below meth c Q D [] 7 ((Lc1 ++ [q9]) ++ Lm) f1 (ce + 57) (sl + 474) 2021 [some (.ref b9), some (.ref co), some (.ref mo), some (.ref q9), some (.int (nI (4 * j))), none, none] ([])) : G p l e room_1 s m args below meth c Q D [] 7 ((Lc ++ [q9]) ++ Lm) f ce sl 1412 [some (.ref b9), some (.ref co), some (.ref mo), some (.ref q9), some (.int (nI (4 * j))), none, none] ([]) := by
  obtain ⟨⟨bk, n, X, Is, PR, PL, S, rfl, hR, hB9, hC9⟩, ⟨g0, hf9⟩, ad, hm⟩ := hw
  have hE := C.2.2.2.2.2.1
  have hl := C.2.2.2.2.2.2.2
  obtain ⟨hI7, hn9, hPR, hSh, hPL, hPb, -⟩ := hR.nv
  have hRec := hR.rec9
  obtain ⟨TG, hTG⟩ := hR.tgs
  refine G.swap ?_
  refine g_peek C ((k6_rebase hE hl hm hI7 hn9 hPR hSh hPL hPb hTG (xs (4 * j + 1)) (xs (4 * j + 2))).fr (Lc ++ [q9])) dL_law_1444 kM_X6_rebase kL_L_188 kV_X6_rebase (hm.1.of (List.mem_append_left _ hm.1.1) rfl) rfl rfl ⟨by decide, by decide⟩ ⟨by show ce + 0 ≤ 601024; omega, by show sl + 0 ≤ 7293034; omega⟩ (fun v8 L8 f8 hq => ?_)
  obtain ⟨Lx, fx, ⟨-, bb, Ab, Ib, -, -, hrl⟩, -⟩ := hq
  refine G.swap ?_
  refine g_aload_n (n := 1413) C dL_law_1412 rfl (Or.inr ⟨_, rfl⟩) rfl ?_
  refine g_aload_n (n := 1414) C dL_law_1413 rfl (Or.inr ⟨_, rfl⟩) rfl ?_
  refine g_iload (n := 1416) C dL_law_1414 rfl rfl ?_
  refine g_iconst (n := 1417) (v := nI 1) C dL_law_1416 rfl rfl ?_
  refine g_iaddN (n := 1418) C dL_law_1417 rfl ?_
  refine g_sld (n := 1419) (j := 4 * j + 1) C hX hbl List.not_mem_nil dL_law_1418 rfl (by omega) (by omega) rfl ?_
  refine g_aload_n (n := 1420) C dL_law_1419 rfl (Or.inr ⟨_, rfl⟩) rfl ?_
  refine g_iload (n := 1422) C dL_law_1420 rfl rfl ?_
  refine g_iconst (n := 1423) (v := nI 2) C dL_law_1422 rfl rfl ?_
  refine g_iaddN (n := 1424) C dL_law_1423 rfl ?_
  refine g_sld (n := 1425) (j := 4 * j + 2) C hX hbl List.not_mem_nil dL_law_1424 rfl (by omega) (by omega) rfl ?_
  refine g_aload_n (n := 1426) C dL_law_1425 rfl (Or.inr ⟨_, rfl⟩) rfl ?_
  refine g_SH (n := 1429) (rest := []) C ((kw_rebase hE hl hR hB9 hC9 (xs (4 * j + 1)) (xs (4 * j + 2)) (k5_rebase hE hl hR hB9 hC9 hTG (xs (4 * j + 1)) (xs (4 * j + 2))) ⟨bb, Ab, Ib, hrl⟩ (fun _ _ _ _ _ _ _ h => h) hN hf9).fr Lm) dL_law_1426 kH_rebase (List.mem_of_getElem? (i := 683) (by decide +kernel)) kT_rebase rfl rfl (Nat.le_of_ble_eq_true rfl) ⟨by decide, by decide⟩ ⟨by show ce + 47 ≤ 601024; omega, by show sl + 414 ≤ 7293034; omega⟩ rfl (fun v8 L8 f8 hq => ?_)
  obtain ⟨L1, f1, hq, rfl, e1, e2⟩ := hq
  obtain ⟨Lc1, g1, rfl, ho1, w, hw4, rfl, hall⟩ := hq
  have hm1 := hm.ext e2
  refine G.sk (st' := [_]) rfl ?_
  refine G.swap ?_
  refine g_istore (n := 1431) (ls' := [_, _, _, _, _, _, _]) C dL_law_1429 rfl (by decide) rfl ?_
  refine g_aload_n (n := 1432) C dL_law_1431 rfl (Or.inr ⟨_, rfl⟩) rfl ?_
  refine g_aload_n (n := 1433) C dL_law_1432 rfl (Or.inr ⟨_, rfl⟩) rfl ?_
  refine g_iload (n := 1435) C dL_law_1433 rfl rfl ?_
  refine g_iconst (n := 1436) (v := nI 1) C dL_law_1435 rfl rfl ?_
  refine g_iaddN (n := 1437) C dL_law_1436 rfl ?_
  refine g_sld (n := 1438) (j := 4 * j + 1) C hX hbl List.not_mem_nil dL_law_1437 rfl (by omega) (by omega) rfl ?_
  refine g_aload_n (n := 1439) C dL_law_1438 rfl (Or.inr ⟨_, rfl⟩) rfl ?_
  refine g_iload (n := 1441) C dL_law_1439 rfl rfl ?_
  refine g_iconst (n := 1442) (v := nI 2) C dL_law_1441 rfl rfl ?_
  refine g_iaddN (n := 1443) C dL_law_1442 rfl ?_
  refine g_sld (n := 1444) (j := 4 * j + 2) C hX hbl List.not_mem_nil dL_law_1443 rfl (by omega) (by omega) rfl ?_
  refine g_V (n := 1447) (rest := []) C ((k6_rebase hE hl hm1 hI7 hn9 hPR hSh hPL hPb hTG (xs (4 * j + 1)) (xs (4 * j + 2))).fr (Lc1 ++ [q9])) dL_law_1444 kM_X6_rebase kL_L_188 kV_X6_rebase (hm1.1.of (List.mem_append_left _ hm1.1.1) rfl) rfl rfl rfl (Nat.le_of_ble_eq_true rfl) ⟨by decide, by decide⟩ ⟨by show ce + 47 + 0 ≤ 601024; omega, by show sl + 414 + 0 ≤ 7293034; omega⟩ rfl (fun v7 L7 f7 hq => ?_)
  obtain ⟨L2, f2, ⟨rfl, bq, Aq, Iq, rfl, hm2, hrq⟩, rfl, e3, e4⟩ := hq
  have hm3 := hm2.ext (fun a ha => (e3 a ha).1)
  refine G.sk (st' := [_]) rfl ?_
  refine g_istore (n := 1449) (ls' := [_, _, _, _, _, _, _]) C dL_law_1447 rfl (by decide) rfl ?_
  refine g_aload_n (n := 1450) C dL_law_1449 rfl (Or.inr ⟨_, rfl⟩) rfl ?_
  refine g_V (n := 1453) (rest := []) C ((k6_thrown hE hl hm3).fr (Lc1 ++ [q9])) dL_law_1450 kM_X6_thrown kL_L_113 kV_X6_thrown (hm3.1.of (List.mem_append_left _ hm3.1.1) rfl) rfl rfl rfl (Nat.le_of_ble_eq_true rfl) ⟨by decide, by decide⟩ ⟨by show ce + 47 + 0 + 0 ≤ 601024; omega, by show sl + 414 + 0 + 0 ≤ 7293034; omega⟩ rfl (fun v6 L6 f6 hq => ?_)
  obtain ⟨L3, f3, ⟨rfl, rfl, rfl⟩, rfl, e5, e6⟩ := hq
  have hm4 := hm3.ext (fun a ha => (e5 a ha).1)
  obtain ⟨h27, hg1, hcw⟩ := hall bq Aq Iq hrq
  have hfx : ∀ a, a ∈ Lc1 ++ [q9] → f6 a = f1 a := fun a ha => (e6 a ha).trans ((e4 a ha).trans (e1 a ha).1)
  have ho6 := (hfx q9 (List.mem_append_right _ List.mem_cons_self)).trans ho1
  refine G.sk (st' := [_]) rfl ?_
  refine g_iload (n := 1455) C dL_law_1453 rfl rfl ?_
  refine g_icmp_eq (n := 1458) (tgt := 1460) C dL_law_1455 (by decide) rfl (fun h1455 => ?_) (fun h1455 => absurd h27 h1455)
  refine g_iload (n := 1462) C dL_law_1460 rfl rfl ?_
  refine g_if_ne (n := 1465) (tgt := 1477) C dL_law_1462 (by decide) rfl (fun h1462 => ?_) (fun h1462 => ?_)
  · refine g_goto (tgt := 2021) C dL_law_1477 (by decide) ?_
    refine G.swap ?_
    refine G.weak (ls' := [some (.ref b9), some (.ref (bk 0)), some (.ref mo), some (.ref q9), some (.int (nI (4 * j))), none, none]) ?_ rfl lw_weak
    refine G.mono (ce' := ce + 57) (sl' := sl + 474) (by omega) (by omega) (kk Lc1 f6 Aq Iq ⟨hcw.ext (fun a ha => hfx a (List.mem_append_left _ ha)), ⟨g1, ho6⟩, ad, hm4⟩)
  · have hw0 : w = 0 := gn_inj (by omega) (by omega) h1462
    refine g_aload_n (n := 1466) C dL_law_1465 rfl (Or.inr ⟨_, rfl⟩) rfl ?_
    refine g_iconst (n := 1467) (v := nI 0) C dL_law_1466 rfl rfl ?_
    refine g_lald (n := 1468) C dL_law_1467 (⟨List.mem_append_right _ (List.mem_append_right _ List.mem_cons_self), ho6⟩ : gH (Lm ++ (Lc1 ++ [q9])) f6 q9 (.inl (cy 2, 1, .inr (.inl g1)))) rfl (by omega) (by decide) rfl ?_
    refine g_iload (n := 1470) C dL_law_1468 rfl rfl ?_
    refine g_i2l (n := 1471) C dL_law_1470 rfl ?_
    refine g_lcmp (n := 1472) C dL_law_1471 (hg1 hw0) rfl ?_
    refine g_if_eq (n := 1475) (tgt := 1477) C dL_law_1472 (by decide) rfl (fun h1472 => ?_) (fun h1472 => absurd rfl h1472)
    refine g_goto (tgt := 2021) C dL_law_1477 (by decide) ?_
    refine G.swap ?_
    refine G.weak (ls' := [some (.ref b9), some (.ref (bk 0)), some (.ref mo), some (.ref q9), some (.int (nI (4 * j))), none, none]) ?_ rfl lw_weak
    refine G.mono (ce' := ce + 57) (sl' := sl + 474) (by omega) (by omega) (kk Lc1 f6 Aq Iq ⟨hcw.ext (fun a ha => hfx a (List.mem_append_left _ ha)), ⟨g1, ho6⟩, ad, hm4⟩)
theorem lc_prune (C : gC p l e room_1 s m args below meth c s0 D cy [] code 7 RL) (hN : gN9 s0) {b9 N : Nat} {xs : Nat → Int32} (hX : va_X b9 N xs s s.heap) (hbl : b9 < s.heap.size) (hN9 : N ≤ 2048) {j : Nat} (hj : 4 * j + 4 ≤ N) {Lc Lm : List Nat} {f : gF} {A : Nat → Nat → Int32} {I : Nat → Int32} {co mo q9 : Nat} (hw : LWD cy co mo q9 A I Lc Lm f) {ce sl : Nat} (hce : ce + 57 ≤ 601024) (hsl : sl + 474 ≤ 7293034) (kk : ∀ (Lc1 : List Nat) (f1 : gF) (A1 : Nat → Nat → Int32) (I1 : Nat → Int32), LWD cy co mo q9 A1 I1 Lc1 Lm f1 → G p l e room_1 s m args below meth c Q D [] 7 ((Lc1 ++ [q9]) ++ Lm) f1 (ce + 57) (sl + 474) 2021 [some (.ref b9), some (.ref co), some (.ref mo), some (.ref q9), some (.int (nI (4 * j))), none, none] ([])) : G p l e room_1 s m args below meth c Q D [] 7 ((Lc ++ [q9]) ++ Lm) f ce sl 1480 [some (.ref b9), some (.ref co), some (.ref mo), some (.ref q9), some (.int (nI (4 * j))), none, none] ([]) := by
  obtain ⟨⟨bk, n, X, Is, PR, PL, S, rfl, hR, hB9, hC9⟩, ⟨g0, hf9⟩, ad, hm⟩ := hw
  have hE := C.2.2.2.2.2.1
  have hl := C.2.2.2.2.2.2.2
  obtain ⟨hI7, hn9, hPR, hSh, hPL, hPb, -⟩ := hR.nv
  have hRec := hR.rec9
  obtain ⟨TG, hTG⟩ := hR.tgs
  refine G.swap ?_
  refine g_peek C ((k6_prune hE hl hm hI7 hn9 hPR hTG).fr (Lc ++ [q9])) dL_law_1488 kM_X6_prune kL_L_191 kV_X6_prune (hm.1.of (List.mem_append_left _ hm.1.1) rfl) rfl rfl ⟨by decide, by decide⟩ ⟨by show ce + 0 ≤ 601024; omega, by show sl + 0 ≤ 7293034; omega⟩ (fun v8 L8 f8 hq => ?_)
  obtain ⟨Lx, fx, ⟨-, bb, Ab, Ib, -, -, hrl⟩, -⟩ := hq
  refine G.swap ?_
  refine g_aload_n (n := 1481) C dL_law_1480 rfl (Or.inr ⟨_, rfl⟩) rfl ?_
  refine g_aload_n (n := 1482) C dL_law_1481 rfl (Or.inr ⟨_, rfl⟩) rfl ?_
  refine g_SH (n := 1485) (rest := []) C ((kw_prune hE hl hR hB9 hC9 (k5_prune hE hl hR hB9 hC9 hTG) ⟨bb, Ab, Ib, hrl⟩ (fun _ _ _ _ _ _ _ h => h) hN hf9).fr Lm) dL_law_1482 kH_prune (List.mem_of_getElem? (i := 694) (by decide +kernel)) kT_prune rfl rfl (Nat.le_of_ble_eq_true rfl) ⟨by decide, by decide⟩ ⟨by show ce + 1 ≤ 601024; omega, by show sl + 6 ≤ 7293034; omega⟩ rfl (fun v8 L8 f8 hq => ?_)
  obtain ⟨L1, f1, hq, rfl, e1, e2⟩ := hq
  obtain ⟨Lc1, g1, rfl, ho1, w, hw4, rfl, hall⟩ := hq
  have hm1 := hm.ext e2
  refine G.sk (st' := [_]) rfl ?_
  refine G.swap ?_
  refine g_istore (n := 1487) (ls' := [_, _, _, _, _, _, _]) C dL_law_1485 rfl (by decide) rfl ?_
  refine g_aload_n (n := 1488) C dL_law_1487 rfl (Or.inr ⟨_, rfl⟩) rfl ?_
  refine g_V (n := 1491) (rest := []) C ((k6_prune hE hl hm1 hI7 hn9 hPR hTG).fr (Lc1 ++ [q9])) dL_law_1488 kM_X6_prune kL_L_191 kV_X6_prune (hm1.1.of (List.mem_append_left _ hm1.1.1) rfl) rfl rfl rfl (Nat.le_of_ble_eq_true rfl) ⟨by decide, by decide⟩ ⟨by show ce + 1 + 0 ≤ 601024; omega, by show sl + 6 + 0 ≤ 7293034; omega⟩ rfl (fun v7 L7 f7 hq => ?_)
  obtain ⟨L2, f2, ⟨rfl, bq, Aq, Iq, rfl, hm2, hrq⟩, rfl, e3, e4⟩ := hq
  have hm3 := hm2.ext (fun a ha => (e3 a ha).1)
  refine G.sk (st' := [_]) rfl ?_
  refine g_istore (n := 1493) (ls' := [_, _, _, _, _, _, _]) C dL_law_1491 rfl (by decide) rfl ?_
  refine g_aload_n (n := 1494) C dL_law_1493 rfl (Or.inr ⟨_, rfl⟩) rfl ?_
  refine g_V (n := 1497) (rest := []) C ((k6_thrown hE hl hm3).fr (Lc1 ++ [q9])) dL_law_1494 kM_X6_thrown kL_L_113 kV_X6_thrown (hm3.1.of (List.mem_append_left _ hm3.1.1) rfl) rfl rfl rfl (Nat.le_of_ble_eq_true rfl) ⟨by decide, by decide⟩ ⟨by show ce + 1 + 0 + 0 ≤ 601024; omega, by show sl + 6 + 0 + 0 ≤ 7293034; omega⟩ rfl (fun v6 L6 f6 hq => ?_)
  obtain ⟨L3, f3, ⟨rfl, rfl, rfl⟩, rfl, e5, e6⟩ := hq
  have hm4 := hm3.ext (fun a ha => (e5 a ha).1)
  obtain ⟨h27, hg1, hcw⟩ := hall bq Aq Iq hrq
  have hfx : ∀ a, a ∈ Lc1 ++ [q9] → f6 a = f1 a := fun a ha => (e6 a ha).trans ((e4 a ha).trans (e1 a ha).1)
  have ho6 := (hfx q9 (List.mem_append_right _ List.mem_cons_self)).trans ho1
  refine G.sk (st' := [_]) rfl ?_
  refine g_iload (n := 1499) C dL_law_1497 rfl rfl ?_
  refine g_icmp_eq (n := 1502) (tgt := 1504) C dL_law_1499 (by decide) rfl (fun h1499 => ?_) (fun h1499 => absurd h27 h1499)
  refine g_iload (n := 1506) C dL_law_1504 rfl rfl ?_
  refine g_if_ne (n := 1509) (tgt := 1521) C dL_law_1506 (by decide) rfl (fun h1506 => ?_) (fun h1506 => ?_)
  · refine g_goto (tgt := 2021) C dL_law_1521 (by decide) ?_
    refine G.swap ?_
    refine G.weak (ls' := [some (.ref b9), some (.ref (bk 0)), some (.ref mo), some (.ref q9), some (.int (nI (4 * j))), none, none]) ?_ rfl lw_weak
    refine G.mono (ce' := ce + 57) (sl' := sl + 474) (by omega) (by omega) (kk Lc1 f6 Aq Iq ⟨hcw.ext (fun a ha => hfx a (List.mem_append_left _ ha)), ⟨g1, ho6⟩, ad, hm4⟩)
  · have hw0 : w = 0 := gn_inj (by omega) (by omega) h1506
    refine g_aload_n (n := 1510) C dL_law_1509 rfl (Or.inr ⟨_, rfl⟩) rfl ?_
    refine g_iconst (n := 1511) (v := nI 0) C dL_law_1510 rfl rfl ?_
    refine g_lald (n := 1512) C dL_law_1511 (⟨List.mem_append_right _ (List.mem_append_right _ List.mem_cons_self), ho6⟩ : gH (Lm ++ (Lc1 ++ [q9])) f6 q9 (.inl (cy 2, 1, .inr (.inl g1)))) rfl (by omega) (by decide) rfl ?_
    refine g_iload (n := 1514) C dL_law_1512 rfl rfl ?_
    refine g_i2l (n := 1515) C dL_law_1514 rfl ?_
    refine g_lcmp (n := 1516) C dL_law_1515 (hg1 hw0) rfl ?_
    refine g_if_eq (n := 1519) (tgt := 1521) C dL_law_1516 (by decide) rfl (fun h1516 => ?_) (fun h1516 => absurd rfl h1516)
    refine g_goto (tgt := 2021) C dL_law_1521 (by decide) ?_
    refine G.swap ?_
    refine G.weak (ls' := [some (.ref b9), some (.ref (bk 0)), some (.ref mo), some (.ref q9), some (.int (nI (4 * j))), none, none]) ?_ rfl lw_weak
    refine G.mono (ce' := ce + 57) (sl' := sl + 474) (by omega) (by omega) (kk Lc1 f6 Aq Iq ⟨hcw.ext (fun a ha => hfx a (List.mem_append_left _ ha)), ⟨g1, ho6⟩, ad, hm4⟩)
theorem lc_layers (C : gC p l e room_1 s m args below meth c s0 D cy [] code 7 RL) (hN : gN9 s0) {b9 N : Nat} {xs : Nat → Int32} (hX : va_X b9 N xs s s.heap) (hbl : b9 < s.heap.size) (hN9 : N ≤ 2048) {j : Nat} (hj : 4 * j + 4 ≤ N) {Lc Lm : List Nat} {f : gF} {A : Nat → Nat → Int32} {I : Nat → Int32} {co mo q9 : Nat} (hw : LWD cy co mo q9 A I Lc Lm f) {ce sl : Nat} (hce : ce + 57 ≤ 601024) (hsl : sl + 474 ≤ 7293034) (kk : ∀ (Lc1 : List Nat) (f1 : gF) (A1 : Nat → Nat → Int32) (I1 : Nat → Int32), LWD cy co mo q9 A1 I1 Lc1 Lm f1 → G p l e room_1 s m args below meth c Q D [] 7 ((Lc1 ++ [q9]) ++ Lm) f1 (ce + 57) (sl + 474) 2021 [some (.ref b9), some (.ref co), some (.ref mo), some (.ref q9), some (.int (nI (4 * j))), none, none] ([])) : G p l e room_1 s m args below meth c Q D [] 7 ((Lc ++ [q9]) ++ Lm) f ce sl 1524 [some (.ref b9), some (.ref co), some (.ref mo), some (.ref q9), some (.int (nI (4 * j))), none, none] ([]) := by
  obtain ⟨⟨bk, n, X, Is, PR, PL, S, rfl, hR, hB9, hC9⟩, ⟨g0, hf9⟩, ad, hm⟩ := hw
  have hE := C.2.2.2.2.2.1
  have hl := C.2.2.2.2.2.2.2
  obtain ⟨hI7, hn9, hPR, hSh, hPL, hPb, -⟩ := hR.nv
  have hRec := hR.rec9
  obtain ⟨TG, hTG⟩ := hR.tgs
  refine G.pool (L' := Lc ++ ([q9] ++ Lm)) (List.append_assoc _ _ _) ?_
  refine g_aload_n (n := 1525) C dL_law_1524 rfl (Or.inr ⟨_, rfl⟩) rfl ?_
  refine g_V (n := 1528) (rest := []) C ((k5_layers hE hl hR hB9 hC9).fr ([q9] ++ Lm)) dL_law_1525 kM_X5_layers kL_L_192 kV_X5_layers (hR.co.of (List.mem_append_left _ hR.co.1) rfl) rfl rfl rfl (Nat.le_of_ble_eq_true rfl) ⟨by decide, by decide⟩ ⟨by show ce + 0 ≤ 601024; omega, by show sl + 0 ≤ 7293034; omega⟩ rfl (fun v8 L8 f8 hq => ?_)
  obtain ⟨Lc1, f1, hq, rfl, e1, e2⟩ := hq
  obtain ⟨-, rfl, hcw⟩ := hq _ _ _ ⟨rfl, rfl, rfl⟩
  have hm1 := hm.ext (fun a ha => e2 a (List.mem_append_right _ ha))
  have ho8 := (e2 q9 (List.mem_append_left _ List.mem_cons_self)).trans hf9
  refine G.pool (L' := (Lc1 ++ [q9]) ++ Lm) (List.append_assoc _ _ _).symm ?_
  refine G.swap ?_
  refine G.sk (st' := [_]) rfl ?_
  refine g_aload_n (n := 1529) C dL_law_1528 rfl (Or.inr ⟨_, rfl⟩) rfl ?_
  refine g_V (n := 1532) (rest := [_]) C ((k6_layers hE hl hm1 ).fr (Lc1 ++ [q9])) dL_law_1529 kM_X6_layers kL_L_195 kV_X6_layers (hm1.1.of (List.mem_append_left _ hm1.1.1) rfl) rfl rfl rfl (Nat.le_of_ble_eq_true rfl) ⟨by decide, by decide⟩ ⟨by show ce + 0 + 0 ≤ 601024; omega, by show sl + 0 + 0 ≤ 7293034; omega⟩ rfl (fun v7 L7 f7 hq => ?_)
  obtain ⟨L2, f2, ⟨rfl, bq, Aq, Iq, rfl, hm2, rfl, rfl, rfl⟩, rfl, e3, e4⟩ := hq
  have hm3 := hm2.ext (fun a ha => (e3 a ha).1)
  refine G.sk (st' := [_, _]) rfl ?_
  refine g_icmp_eq (n := 1535) (tgt := 2021) C dL_law_1532 (by decide) rfl (fun h1532 => ?_) (fun h1532 => absurd rfl h1532)
  refine G.swap ?_
  refine G.weak (ls' := [some (.ref b9), some (.ref (bk 0)), some (.ref mo), some (.ref q9), some (.int (nI (4 * j))), none, none]) ?_ rfl lw_weak
  refine G.mono (ce' := ce + 57) (sl' := sl + 474) (by omega) (by omega) (kk Lc1 f7 _ _ ⟨hcw.ext (fun a ha => (e4 a (List.mem_append_left _ ha)).trans (e1 a ha).1), ⟨g0, (e4 q9 (List.mem_append_right _ List.mem_cons_self)).trans ho8⟩, ad, hm3⟩)
theorem lc_parentOf (C : gC p l e room_1 s m args below meth c s0 D cy [] code 7 RL) (hN : gN9 s0) {b9 N : Nat} {xs : Nat → Int32} (hX : va_X b9 N xs s s.heap) (hbl : b9 < s.heap.size) (hN9 : N ≤ 2048) {j : Nat} (hj : 4 * j + 4 ≤ N) {Lc Lm : List Nat} {f : gF} {A : Nat → Nat → Int32} {I : Nat → Int32} {co mo q9 : Nat} (hw : LWD cy co mo q9 A I Lc Lm f) {ce sl : Nat} (hce : ce + 57 ≤ 601024) (hsl : sl + 474 ≤ 7293034) (kk : ∀ (Lc1 : List Nat) (f1 : gF) (A1 : Nat → Nat → Int32) (I1 : Nat → Int32), LWD cy co mo q9 A1 I1 Lc1 Lm f1 → G p l e room_1 s m args below meth c Q D [] 7 ((Lc1 ++ [q9]) ++ Lm) f1 (ce + 57) (sl + 474) 2021 [some (.ref b9), some (.ref co), some (.ref mo), some (.ref q9), some (.int (nI (4 * j))), none, none] ([])) : G p l e room_1 s m args below meth c Q D [] 7 ((Lc ++ [q9]) ++ Lm) f ce sl 1537 [some (.ref b9), some (.ref co), some (.ref mo), some (.ref q9), some (.int (nI (4 * j))), none, none] ([]) := by
  obtain ⟨⟨bk, n, X, Is, PR, PL, S, rfl, hR, hB9, hC9⟩, ⟨g0, hf9⟩, ad, hm⟩ := hw
  have hE := C.2.2.2.2.2.1
  have hl := C.2.2.2.2.2.2.2
  obtain ⟨hI7, hn9, hPR, hSh, hPL, hPb, -⟩ := hR.nv
  have hRec := hR.rec9
  obtain ⟨TG, hTG⟩ := hR.tgs
  refine G.swap ?_
  refine g_peek C ((k6_parentOf hE hl hm hI7 hn9 (xs (4 * j + 1))).fr (Lc ++ [q9])) dL_law_1557 kM_X6_parentOf kL_L_198 kV_X6_parentOf (hm.1.of (List.mem_append_left _ hm.1.1) rfl) rfl rfl ⟨by decide, by decide⟩ ⟨by show ce + 0 ≤ 601024; omega, by show sl + 0 ≤ 7293034; omega⟩ (fun v8 L8 f8 hq => ?_)
  obtain ⟨Lx, fx, ⟨-, bb, Ab, Ib, -, -, hrl⟩, -⟩ := hq
  refine G.swap ?_
  refine g_aload_n (n := 1538) C dL_law_1537 rfl (Or.inr ⟨_, rfl⟩) rfl ?_
  refine g_aload_n (n := 1539) C dL_law_1538 rfl (Or.inr ⟨_, rfl⟩) rfl ?_
  refine g_iload (n := 1541) C dL_law_1539 rfl rfl ?_
  refine g_iconst (n := 1542) (v := nI 1) C dL_law_1541 rfl rfl ?_
  refine g_iaddN (n := 1543) C dL_law_1542 rfl ?_
  refine g_sld (n := 1544) (j := 4 * j + 1) C hX hbl List.not_mem_nil dL_law_1543 rfl (by omega) (by omega) rfl ?_
  refine g_aload_n (n := 1545) C dL_law_1544 rfl (Or.inr ⟨_, rfl⟩) rfl ?_
  refine g_SH (n := 1548) (rest := []) C ((kw_parentOf hE hl hR hB9 hC9 (xs (4 * j + 1)) (k5_parentOf hE hl hR hB9 hC9 (xs (4 * j + 1))) ⟨bb, Ab, Ib, hrl⟩ (fun b A1 I1 w hr h27 h0 hT => by
      obtain ⟨w2, hw2, hI, -⟩ := hr
      have e := gn_inj (by have := cd2_lt hw2; omega) (by omega) ((show nI w2 = I1 27 by rw [hI]; rfl).trans h27)
      have := cd2_lt hw2
      omega) hN hf9).fr Lm) dL_law_1545 kH_parentOf (List.mem_of_getElem? (i := 714) (by decide +kernel)) kT_parentOf rfl rfl (Nat.le_of_ble_eq_true rfl) ⟨by decide, by decide⟩ ⟨by show ce + 2 ≤ 601024; omega, by show sl + 12 ≤ 7293034; omega⟩ rfl (fun v8 L8 f8 hq => ?_)
  obtain ⟨L1, f1, hq, rfl, e1, e2⟩ := hq
  obtain ⟨Lc1, g1, rfl, ho1, w, hw4, rfl, hall⟩ := hq
  have hm1 := hm.ext e2
  refine G.sk (st' := [_]) rfl ?_
  refine G.swap ?_
  refine g_istore (n := 1550) (ls' := [_, _, _, _, _, _, _]) C dL_law_1548 rfl (by decide) rfl ?_
  refine g_aload_n (n := 1551) C dL_law_1550 rfl (Or.inr ⟨_, rfl⟩) rfl ?_
  refine g_aload_n (n := 1552) C dL_law_1551 rfl (Or.inr ⟨_, rfl⟩) rfl ?_
  refine g_iload (n := 1554) C dL_law_1552 rfl rfl ?_
  refine g_iconst (n := 1555) (v := nI 1) C dL_law_1554 rfl rfl ?_
  refine g_iaddN (n := 1556) C dL_law_1555 rfl ?_
  refine g_sld (n := 1557) (j := 4 * j + 1) C hX hbl List.not_mem_nil dL_law_1556 rfl (by omega) (by omega) rfl ?_
  refine g_V (n := 1560) (rest := []) C ((k6_parentOf hE hl hm1 hI7 hn9 (xs (4 * j + 1))).fr (Lc1 ++ [q9])) dL_law_1557 kM_X6_parentOf kL_L_198 kV_X6_parentOf (hm1.1.of (List.mem_append_left _ hm1.1.1) rfl) rfl rfl rfl (Nat.le_of_ble_eq_true rfl) ⟨by decide, by decide⟩ ⟨by show ce + 2 + 0 ≤ 601024; omega, by show sl + 12 + 0 ≤ 7293034; omega⟩ rfl (fun v7 L7 f7 hq => ?_)
  obtain ⟨L2, f2, ⟨rfl, bq, Aq, Iq, rfl, hm2, hrq⟩, rfl, e3, e4⟩ := hq
  have hm3 := hm2.ext (fun a ha => (e3 a ha).1)
  refine G.sk (st' := [_]) rfl ?_
  refine g_istore (n := 1562) (ls' := [_, _, _, _, _, _, _]) C dL_law_1560 rfl (by decide) rfl ?_
  refine g_aload_n (n := 1563) C dL_law_1562 rfl (Or.inr ⟨_, rfl⟩) rfl ?_
  refine g_V (n := 1566) (rest := []) C ((k6_thrown hE hl hm3).fr (Lc1 ++ [q9])) dL_law_1563 kM_X6_thrown kL_L_113 kV_X6_thrown (hm3.1.of (List.mem_append_left _ hm3.1.1) rfl) rfl rfl rfl (Nat.le_of_ble_eq_true rfl) ⟨by decide, by decide⟩ ⟨by show ce + 2 + 0 + 0 ≤ 601024; omega, by show sl + 12 + 0 + 0 ≤ 7293034; omega⟩ rfl (fun v6 L6 f6 hq => ?_)
  obtain ⟨L3, f3, ⟨rfl, rfl, rfl⟩, rfl, e5, e6⟩ := hq
  have hm4 := hm3.ext (fun a ha => (e5 a ha).1)
  obtain ⟨h27, hg1, hcw⟩ := hall bq Aq Iq hrq
  have hfx : ∀ a, a ∈ Lc1 ++ [q9] → f6 a = f1 a := fun a ha => (e6 a ha).trans ((e4 a ha).trans (e1 a ha).1)
  have ho6 := (hfx q9 (List.mem_append_right _ List.mem_cons_self)).trans ho1
  refine G.sk (st' := [_]) rfl ?_
  refine g_iload (n := 1568) C dL_law_1566 rfl rfl ?_
  refine g_icmp_eq (n := 1571) (tgt := 1573) C dL_law_1568 (by decide) rfl (fun h1568 => ?_) (fun h1568 => absurd h27 h1568)
  refine g_iload (n := 1575) C dL_law_1573 rfl rfl ?_
  refine g_if_ne (n := 1578) (tgt := 1590) C dL_law_1575 (by decide) rfl (fun h1575 => ?_) (fun h1575 => ?_)
  · refine g_goto (tgt := 2021) C dL_law_1590 (by decide) ?_
    refine G.swap ?_
    refine G.weak (ls' := [some (.ref b9), some (.ref (bk 0)), some (.ref mo), some (.ref q9), some (.int (nI (4 * j))), none, none]) ?_ rfl lw_weak
    refine G.mono (ce' := ce + 57) (sl' := sl + 474) (by omega) (by omega) (kk Lc1 f6 Aq Iq ⟨hcw.ext (fun a ha => hfx a (List.mem_append_left _ ha)), ⟨g1, ho6⟩, ad, hm4⟩)
  · have hw0 : w = 0 := gn_inj (by omega) (by omega) h1575
    refine g_aload_n (n := 1579) C dL_law_1578 rfl (Or.inr ⟨_, rfl⟩) rfl ?_
    refine g_iconst (n := 1580) (v := nI 0) C dL_law_1579 rfl rfl ?_
    refine g_lald (n := 1581) C dL_law_1580 (⟨List.mem_append_right _ (List.mem_append_right _ List.mem_cons_self), ho6⟩ : gH (Lm ++ (Lc1 ++ [q9])) f6 q9 (.inl (cy 2, 1, .inr (.inl g1)))) rfl (by omega) (by decide) rfl ?_
    refine g_iload (n := 1583) C dL_law_1581 rfl rfl ?_
    refine g_i2l (n := 1584) C dL_law_1583 rfl ?_
    refine g_lcmp (n := 1585) C dL_law_1584 (hg1 hw0) rfl ?_
    refine g_if_eq (n := 1588) (tgt := 1590) C dL_law_1585 (by decide) rfl (fun h1585 => ?_) (fun h1585 => absurd rfl h1585)
    refine g_goto (tgt := 2021) C dL_law_1590 (by decide) ?_
    refine G.swap ?_
    refine G.weak (ls' := [some (.ref b9), some (.ref (bk 0)), some (.ref mo), some (.ref q9), some (.int (nI (4 * j))), none, none]) ?_ rfl lw_weak
    refine G.mono (ce' := ce + 57) (sl' := sl + 474) (by omega) (by omega) (kk Lc1 f6 Aq Iq ⟨hcw.ext (fun a ha => hfx a (List.mem_append_left _ ha)), ⟨g1, ho6⟩, ad, hm4⟩)
theorem lc_sizeOf (C : gC p l e room_1 s m args below meth c s0 D cy [] code 7 RL) (hN : gN9 s0) {b9 N : Nat} {xs : Nat → Int32} (hX : va_X b9 N xs s s.heap) (hbl : b9 < s.heap.size) (hN9 : N ≤ 2048) {j : Nat} (hj : 4 * j + 4 ≤ N) {Lc Lm : List Nat} {f : gF} {A : Nat → Nat → Int32} {I : Nat → Int32} {co mo q9 : Nat} (hw : LWD cy co mo q9 A I Lc Lm f) {ce sl : Nat} (hce : ce + 57 ≤ 601024) (hsl : sl + 474 ≤ 7293034) (kk : ∀ (Lc1 : List Nat) (f1 : gF) (A1 : Nat → Nat → Int32) (I1 : Nat → Int32), LWD cy co mo q9 A1 I1 Lc1 Lm f1 → G p l e room_1 s m args below meth c Q D [] 7 ((Lc1 ++ [q9]) ++ Lm) f1 (ce + 57) (sl + 474) 2021 [some (.ref b9), some (.ref co), some (.ref mo), some (.ref q9), some (.int (nI (4 * j))), none, none] ([])) : G p l e room_1 s m args below meth c Q D [] 7 ((Lc ++ [q9]) ++ Lm) f ce sl 1593 [some (.ref b9), some (.ref co), some (.ref mo), some (.ref q9), some (.int (nI (4 * j))), none, none] ([]) := by
  obtain ⟨⟨bk, n, X, Is, PR, PL, S, rfl, hR, hB9, hC9⟩, ⟨g0, hf9⟩, ad, hm⟩ := hw
  have hE := C.2.2.2.2.2.1
  have hl := C.2.2.2.2.2.2.2
  obtain ⟨hI7, hn9, hPR, hSh, hPL, hPb, -⟩ := hR.nv
  have hRec := hR.rec9
  obtain ⟨TG, hTG⟩ := hR.tgs
  refine G.swap ?_
  refine g_peek C ((k6_sizeOf hE hl hm hI7 hn9 (xs (4 * j + 1))).fr (Lc ++ [q9])) dL_law_1613 kM_X6_sizeOf kL_L_201 kV_X6_sizeOf (hm.1.of (List.mem_append_left _ hm.1.1) rfl) rfl rfl ⟨by decide, by decide⟩ ⟨by show ce + 0 ≤ 601024; omega, by show sl + 0 ≤ 7293034; omega⟩ (fun v8 L8 f8 hq => ?_)
  obtain ⟨Lx, fx, ⟨-, bb, Ab, Ib, -, -, hrl⟩, -⟩ := hq
  refine G.swap ?_
  refine g_aload_n (n := 1594) C dL_law_1593 rfl (Or.inr ⟨_, rfl⟩) rfl ?_
  refine g_aload_n (n := 1595) C dL_law_1594 rfl (Or.inr ⟨_, rfl⟩) rfl ?_
  refine g_iload (n := 1597) C dL_law_1595 rfl rfl ?_
  refine g_iconst (n := 1598) (v := nI 1) C dL_law_1597 rfl rfl ?_
  refine g_iaddN (n := 1599) C dL_law_1598 rfl ?_
  refine g_sld (n := 1600) (j := 4 * j + 1) C hX hbl List.not_mem_nil dL_law_1599 rfl (by omega) (by omega) rfl ?_
  refine g_aload_n (n := 1601) C dL_law_1600 rfl (Or.inr ⟨_, rfl⟩) rfl ?_
  refine g_SH (n := 1604) (rest := []) C ((kw_sizeOf hE hl hR hB9 hC9 (xs (4 * j + 1)) (k5_sizeOf hE hl hR hB9 hC9 (xs (4 * j + 1))) ⟨bb, Ab, Ib, hrl⟩ (fun b A1 I1 w hr h27 h0 hT => by
      obtain ⟨w2, hw2, hI, -⟩ := hr
      have e := gn_inj (by have := cd2_lt hw2; omega) (by omega) ((show nI w2 = I1 27 by rw [hI]; rfl).trans h27)
      have := cd2_lt hw2
      omega) hN hf9).fr Lm) dL_law_1601 kH_sizeOf (List.mem_of_getElem? (i := 726) (by decide +kernel)) kT_sizeOf rfl rfl (Nat.le_of_ble_eq_true rfl) ⟨by decide, by decide⟩ ⟨by show ce + 2 ≤ 601024; omega, by show sl + 12 ≤ 7293034; omega⟩ rfl (fun v8 L8 f8 hq => ?_)
  obtain ⟨L1, f1, hq, rfl, e1, e2⟩ := hq
  obtain ⟨Lc1, g1, rfl, ho1, w, hw4, rfl, hall⟩ := hq
  have hm1 := hm.ext e2
  refine G.sk (st' := [_]) rfl ?_
  refine G.swap ?_
  refine g_istore (n := 1606) (ls' := [_, _, _, _, _, _, _]) C dL_law_1604 rfl (by decide) rfl ?_
  refine g_aload_n (n := 1607) C dL_law_1606 rfl (Or.inr ⟨_, rfl⟩) rfl ?_
  refine g_aload_n (n := 1608) C dL_law_1607 rfl (Or.inr ⟨_, rfl⟩) rfl ?_
  refine g_iload (n := 1610) C dL_law_1608 rfl rfl ?_
  refine g_iconst (n := 1611) (v := nI 1) C dL_law_1610 rfl rfl ?_
  refine g_iaddN (n := 1612) C dL_law_1611 rfl ?_
  refine g_sld (n := 1613) (j := 4 * j + 1) C hX hbl List.not_mem_nil dL_law_1612 rfl (by omega) (by omega) rfl ?_
  refine g_V (n := 1616) (rest := []) C ((k6_sizeOf hE hl hm1 hI7 hn9 (xs (4 * j + 1))).fr (Lc1 ++ [q9])) dL_law_1613 kM_X6_sizeOf kL_L_201 kV_X6_sizeOf (hm1.1.of (List.mem_append_left _ hm1.1.1) rfl) rfl rfl rfl (Nat.le_of_ble_eq_true rfl) ⟨by decide, by decide⟩ ⟨by show ce + 2 + 0 ≤ 601024; omega, by show sl + 12 + 0 ≤ 7293034; omega⟩ rfl (fun v7 L7 f7 hq => ?_)
  obtain ⟨L2, f2, ⟨rfl, bq, Aq, Iq, rfl, hm2, hrq⟩, rfl, e3, e4⟩ := hq
  have hm3 := hm2.ext (fun a ha => (e3 a ha).1)
  refine G.sk (st' := [_]) rfl ?_
  refine g_istore (n := 1618) (ls' := [_, _, _, _, _, _, _]) C dL_law_1616 rfl (by decide) rfl ?_
  refine g_aload_n (n := 1619) C dL_law_1618 rfl (Or.inr ⟨_, rfl⟩) rfl ?_
  refine g_V (n := 1622) (rest := []) C ((k6_thrown hE hl hm3).fr (Lc1 ++ [q9])) dL_law_1619 kM_X6_thrown kL_L_113 kV_X6_thrown (hm3.1.of (List.mem_append_left _ hm3.1.1) rfl) rfl rfl rfl (Nat.le_of_ble_eq_true rfl) ⟨by decide, by decide⟩ ⟨by show ce + 2 + 0 + 0 ≤ 601024; omega, by show sl + 12 + 0 + 0 ≤ 7293034; omega⟩ rfl (fun v6 L6 f6 hq => ?_)
  obtain ⟨L3, f3, ⟨rfl, rfl, rfl⟩, rfl, e5, e6⟩ := hq
  have hm4 := hm3.ext (fun a ha => (e5 a ha).1)
  obtain ⟨h27, hg1, hcw⟩ := hall bq Aq Iq hrq
  have hfx : ∀ a, a ∈ Lc1 ++ [q9] → f6 a = f1 a := fun a ha => (e6 a ha).trans ((e4 a ha).trans (e1 a ha).1)
  have ho6 := (hfx q9 (List.mem_append_right _ List.mem_cons_self)).trans ho1
  refine G.sk (st' := [_]) rfl ?_
  refine g_iload (n := 1624) C dL_law_1622 rfl rfl ?_
  refine g_icmp_eq (n := 1627) (tgt := 1629) C dL_law_1624 (by decide) rfl (fun h1624 => ?_) (fun h1624 => absurd h27 h1624)
  refine g_iload (n := 1631) C dL_law_1629 rfl rfl ?_
  refine g_if_ne (n := 1634) (tgt := 1646) C dL_law_1631 (by decide) rfl (fun h1631 => ?_) (fun h1631 => ?_)
  · refine g_goto (tgt := 2021) C dL_law_1646 (by decide) ?_
    refine G.swap ?_
    refine G.weak (ls' := [some (.ref b9), some (.ref (bk 0)), some (.ref mo), some (.ref q9), some (.int (nI (4 * j))), none, none]) ?_ rfl lw_weak
    refine G.mono (ce' := ce + 57) (sl' := sl + 474) (by omega) (by omega) (kk Lc1 f6 Aq Iq ⟨hcw.ext (fun a ha => hfx a (List.mem_append_left _ ha)), ⟨g1, ho6⟩, ad, hm4⟩)
  · have hw0 : w = 0 := gn_inj (by omega) (by omega) h1631
    refine g_aload_n (n := 1635) C dL_law_1634 rfl (Or.inr ⟨_, rfl⟩) rfl ?_
    refine g_iconst (n := 1636) (v := nI 0) C dL_law_1635 rfl rfl ?_
    refine g_lald (n := 1637) C dL_law_1636 (⟨List.mem_append_right _ (List.mem_append_right _ List.mem_cons_self), ho6⟩ : gH (Lm ++ (Lc1 ++ [q9])) f6 q9 (.inl (cy 2, 1, .inr (.inl g1)))) rfl (by omega) (by decide) rfl ?_
    refine g_iload (n := 1639) C dL_law_1637 rfl rfl ?_
    refine g_i2l (n := 1640) C dL_law_1639 rfl ?_
    refine g_lcmp (n := 1641) C dL_law_1640 (hg1 hw0) rfl ?_
    refine g_if_eq (n := 1644) (tgt := 1646) C dL_law_1641 (by decide) rfl (fun h1641 => ?_) (fun h1641 => absurd rfl h1641)
    refine g_goto (tgt := 2021) C dL_law_1646 (by decide) ?_
    refine G.swap ?_
    refine G.weak (ls' := [some (.ref b9), some (.ref (bk 0)), some (.ref mo), some (.ref q9), some (.int (nI (4 * j))), none, none]) ?_ rfl lw_weak
    refine G.mono (ce' := ce + 57) (sl' := sl + 474) (by omega) (by omega) (kk Lc1 f6 Aq Iq ⟨hcw.ext (fun a ha => hfx a (List.mem_append_left _ ha)), ⟨g1, ho6⟩, ad, hm4⟩)
theorem lc_heldAt (C : gC p l e room_1 s m args below meth c s0 D cy [] code 7 RL) (hN : gN9 s0) {b9 N : Nat} {xs : Nat → Int32} (hX : va_X b9 N xs s s.heap) (hbl : b9 < s.heap.size) (hN9 : N ≤ 2048) {j : Nat} (hj : 4 * j + 4 ≤ N) {Lc Lm : List Nat} {f : gF} {A : Nat → Nat → Int32} {I : Nat → Int32} {co mo q9 : Nat} (hw : LWD cy co mo q9 A I Lc Lm f) {ce sl : Nat} (hce : ce + 57 ≤ 601024) (hsl : sl + 474 ≤ 7293034) (kk : ∀ (Lc1 : List Nat) (f1 : gF) (A1 : Nat → Nat → Int32) (I1 : Nat → Int32), LWD cy co mo q9 A1 I1 Lc1 Lm f1 → G p l e room_1 s m args below meth c Q D [] 7 ((Lc1 ++ [q9]) ++ Lm) f1 (ce + 57) (sl + 474) 2021 [some (.ref b9), some (.ref co), some (.ref mo), some (.ref q9), some (.int (nI (4 * j))), none, none] ([])) : G p l e room_1 s m args below meth c Q D [] 7 ((Lc ++ [q9]) ++ Lm) f ce sl 1649 [some (.ref b9), some (.ref co), some (.ref mo), some (.ref q9), some (.int (nI (4 * j))), none, none] ([]) := by
  obtain ⟨⟨bk, n, X, Is, PR, PL, S, rfl, hR, hB9, hC9⟩, ⟨g0, hf9⟩, ad, hm⟩ := hw
  have hE := C.2.2.2.2.2.1
  have hl := C.2.2.2.2.2.2.2
  obtain ⟨hI7, hn9, hPR, hSh, hPL, hPb, -⟩ := hR.nv
  have hRec := hR.rec9
  obtain ⟨TG, hTG⟩ := hR.tgs
  refine G.swap ?_
  refine g_peek C ((k6_heldAt hE hl hm hI7 hn9 (xs (4 * j + 1)) (xs (4 * j + 2))).fr (Lc ++ [q9])) dL_law_1681 kM_X6_heldAt kL_L_204 kV_X6_heldAt (hm.1.of (List.mem_append_left _ hm.1.1) rfl) rfl rfl ⟨by decide, by decide⟩ ⟨by show ce + 0 ≤ 601024; omega, by show sl + 0 ≤ 7293034; omega⟩ (fun v8 L8 f8 hq => ?_)
  obtain ⟨Lx, fx, ⟨-, bb, Ab, Ib, -, -, hrl⟩, -⟩ := hq
  refine G.swap ?_
  refine g_aload_n (n := 1650) C dL_law_1649 rfl (Or.inr ⟨_, rfl⟩) rfl ?_
  refine g_aload_n (n := 1651) C dL_law_1650 rfl (Or.inr ⟨_, rfl⟩) rfl ?_
  refine g_iload (n := 1653) C dL_law_1651 rfl rfl ?_
  refine g_iconst (n := 1654) (v := nI 1) C dL_law_1653 rfl rfl ?_
  refine g_iaddN (n := 1655) C dL_law_1654 rfl ?_
  refine g_sld (n := 1656) (j := 4 * j + 1) C hX hbl List.not_mem_nil dL_law_1655 rfl (by omega) (by omega) rfl ?_
  refine g_aload_n (n := 1657) C dL_law_1656 rfl (Or.inr ⟨_, rfl⟩) rfl ?_
  refine g_iload (n := 1659) C dL_law_1657 rfl rfl ?_
  refine g_iconst (n := 1660) (v := nI 2) C dL_law_1659 rfl rfl ?_
  refine g_iaddN (n := 1661) C dL_law_1660 rfl ?_
  refine g_sld (n := 1662) (j := 4 * j + 2) C hX hbl List.not_mem_nil dL_law_1661 rfl (by omega) (by omega) rfl ?_
  refine g_aload_n (n := 1663) C dL_law_1662 rfl (Or.inr ⟨_, rfl⟩) rfl ?_
  refine g_SH (n := 1666) (rest := []) C ((kw_heldAt hE hl hR hB9 hC9 (xs (4 * j + 1)) (xs (4 * j + 2)) (k5_heldAt hE hl hR hB9 hC9 (xs (4 * j + 1)) (xs (4 * j + 2))) ⟨bb, Ab, Ib, hrl⟩ (fun b A1 I1 w hr h27 h0 hT => by
      obtain ⟨w2, hw2, hI, -⟩ := hr
      have e := gn_inj (by have := cd2_lt hw2; omega) (by omega) ((show nI w2 = I1 27 by rw [hI]; rfl).trans h27)
      have := cd2_lt hw2
      omega) hN hf9).fr Lm) dL_law_1663 kH_heldAt (List.mem_of_getElem? (i := 737) (by decide +kernel)) kT_heldAt rfl rfl (Nat.le_of_ble_eq_true rfl) ⟨by decide, by decide⟩ ⟨by show ce + 3 ≤ 601024; omega, by show sl + 18 ≤ 7293034; omega⟩ rfl (fun v8 L8 f8 hq => ?_)
  obtain ⟨L1, f1, hq, rfl, e1, e2⟩ := hq
  obtain ⟨Lc1, g1, rfl, ho1, w, hw4, rfl, hall⟩ := hq
  have hm1 := hm.ext e2
  refine G.sk (st' := [_]) rfl ?_
  refine G.swap ?_
  refine g_istore (n := 1668) (ls' := [_, _, _, _, _, _, _]) C dL_law_1666 rfl (by decide) rfl ?_
  refine g_aload_n (n := 1669) C dL_law_1668 rfl (Or.inr ⟨_, rfl⟩) rfl ?_
  refine g_aload_n (n := 1670) C dL_law_1669 rfl (Or.inr ⟨_, rfl⟩) rfl ?_
  refine g_iload (n := 1672) C dL_law_1670 rfl rfl ?_
  refine g_iconst (n := 1673) (v := nI 1) C dL_law_1672 rfl rfl ?_
  refine g_iaddN (n := 1674) C dL_law_1673 rfl ?_
  refine g_sld (n := 1675) (j := 4 * j + 1) C hX hbl List.not_mem_nil dL_law_1674 rfl (by omega) (by omega) rfl ?_
  refine g_aload_n (n := 1676) C dL_law_1675 rfl (Or.inr ⟨_, rfl⟩) rfl ?_
  refine g_iload (n := 1678) C dL_law_1676 rfl rfl ?_
  refine g_iconst (n := 1679) (v := nI 2) C dL_law_1678 rfl rfl ?_
  refine g_iaddN (n := 1680) C dL_law_1679 rfl ?_
  refine g_sld (n := 1681) (j := 4 * j + 2) C hX hbl List.not_mem_nil dL_law_1680 rfl (by omega) (by omega) rfl ?_
  refine g_V (n := 1684) (rest := []) C ((k6_heldAt hE hl hm1 hI7 hn9 (xs (4 * j + 1)) (xs (4 * j + 2))).fr (Lc1 ++ [q9])) dL_law_1681 kM_X6_heldAt kL_L_204 kV_X6_heldAt (hm1.1.of (List.mem_append_left _ hm1.1.1) rfl) rfl rfl rfl (Nat.le_of_ble_eq_true rfl) ⟨by decide, by decide⟩ ⟨by show ce + 3 + 0 ≤ 601024; omega, by show sl + 18 + 0 ≤ 7293034; omega⟩ rfl (fun v7 L7 f7 hq => ?_)
  obtain ⟨L2, f2, ⟨rfl, bq, Aq, Iq, rfl, hm2, hrq⟩, rfl, e3, e4⟩ := hq
  have hm3 := hm2.ext (fun a ha => (e3 a ha).1)
  refine G.sk (st' := [_]) rfl ?_
  refine g_istore (n := 1686) (ls' := [_, _, _, _, _, _, _]) C dL_law_1684 rfl (by decide) rfl ?_
  refine g_aload_n (n := 1687) C dL_law_1686 rfl (Or.inr ⟨_, rfl⟩) rfl ?_
  refine g_V (n := 1690) (rest := []) C ((k6_thrown hE hl hm3).fr (Lc1 ++ [q9])) dL_law_1687 kM_X6_thrown kL_L_113 kV_X6_thrown (hm3.1.of (List.mem_append_left _ hm3.1.1) rfl) rfl rfl rfl (Nat.le_of_ble_eq_true rfl) ⟨by decide, by decide⟩ ⟨by show ce + 3 + 0 + 0 ≤ 601024; omega, by show sl + 18 + 0 + 0 ≤ 7293034; omega⟩ rfl (fun v6 L6 f6 hq => ?_)
  obtain ⟨L3, f3, ⟨rfl, rfl, rfl⟩, rfl, e5, e6⟩ := hq
  have hm4 := hm3.ext (fun a ha => (e5 a ha).1)
  obtain ⟨h27, hg1, hcw⟩ := hall bq Aq Iq hrq
  have hfx : ∀ a, a ∈ Lc1 ++ [q9] → f6 a = f1 a := fun a ha => (e6 a ha).trans ((e4 a ha).trans (e1 a ha).1)
  have ho6 := (hfx q9 (List.mem_append_right _ List.mem_cons_self)).trans ho1
  refine G.sk (st' := [_]) rfl ?_
  refine g_iload (n := 1692) C dL_law_1690 rfl rfl ?_
  refine g_icmp_eq (n := 1695) (tgt := 1697) C dL_law_1692 (by decide) rfl (fun h1692 => ?_) (fun h1692 => absurd h27 h1692)
  refine g_iload (n := 1699) C dL_law_1697 rfl rfl ?_
  refine g_if_ne (n := 1702) (tgt := 1714) C dL_law_1699 (by decide) rfl (fun h1699 => ?_) (fun h1699 => ?_)
  · refine g_goto (tgt := 2021) C dL_law_1714 (by decide) ?_
    refine G.swap ?_
    refine G.weak (ls' := [some (.ref b9), some (.ref (bk 0)), some (.ref mo), some (.ref q9), some (.int (nI (4 * j))), none, none]) ?_ rfl lw_weak
    refine G.mono (ce' := ce + 57) (sl' := sl + 474) (by omega) (by omega) (kk Lc1 f6 Aq Iq ⟨hcw.ext (fun a ha => hfx a (List.mem_append_left _ ha)), ⟨g1, ho6⟩, ad, hm4⟩)
  · have hw0 : w = 0 := gn_inj (by omega) (by omega) h1699
    refine g_aload_n (n := 1703) C dL_law_1702 rfl (Or.inr ⟨_, rfl⟩) rfl ?_
    refine g_iconst (n := 1704) (v := nI 0) C dL_law_1703 rfl rfl ?_
    refine g_lald (n := 1705) C dL_law_1704 (⟨List.mem_append_right _ (List.mem_append_right _ List.mem_cons_self), ho6⟩ : gH (Lm ++ (Lc1 ++ [q9])) f6 q9 (.inl (cy 2, 1, .inr (.inl g1)))) rfl (by omega) (by decide) rfl ?_
    refine g_iload (n := 1707) C dL_law_1705 rfl rfl ?_
    refine g_i2l (n := 1708) C dL_law_1707 rfl ?_
    refine g_lcmp (n := 1709) C dL_law_1708 (hg1 hw0) rfl ?_
    refine g_if_eq (n := 1712) (tgt := 1714) C dL_law_1709 (by decide) rfl (fun h1709 => ?_) (fun h1709 => absurd rfl h1709)
    refine g_goto (tgt := 2021) C dL_law_1714 (by decide) ?_
    refine G.swap ?_
    refine G.weak (ls' := [some (.ref b9), some (.ref (bk 0)), some (.ref mo), some (.ref q9), some (.int (nI (4 * j))), none, none]) ?_ rfl lw_weak
    refine G.mono (ce' := ce + 57) (sl' := sl + 474) (by omega) (by omega) (kk Lc1 f6 Aq Iq ⟨hcw.ext (fun a ha => hfx a (List.mem_append_left _ ha)), ⟨g1, ho6⟩, ad, hm4⟩)
theorem lc_shownAt (C : gC p l e room_1 s m args below meth c s0 D cy [] code 7 RL) (hN : gN9 s0) {b9 N : Nat} {xs : Nat → Int32} (hX : va_X b9 N xs s s.heap) (hbl : b9 < s.heap.size) (hN9 : N ≤ 2048) {j : Nat} (hj : 4 * j + 4 ≤ N) {Lc Lm : List Nat} {f : gF} {A : Nat → Nat → Int32} {I : Nat → Int32} {co mo q9 : Nat} (hw : LWD cy co mo q9 A I Lc Lm f) {ce sl : Nat} (hce : ce + 57 ≤ 601024) (hsl : sl + 474 ≤ 7293034) (kk : ∀ (Lc1 : List Nat) (f1 : gF) (A1 : Nat → Nat → Int32) (I1 : Nat → Int32), LWD cy co mo q9 A1 I1 Lc1 Lm f1 → G p l e room_1 s m args below meth c Q D [] 7 ((Lc1 ++ [q9]) ++ Lm) f1 (ce + 57) (sl + 474) 2021 [some (.ref b9), some (.ref co), some (.ref mo), some (.ref q9), some (.int (nI (4 * j))), none, none] ([])) : G p l e room_1 s m args below meth c Q D [] 7 ((Lc ++ [q9]) ++ Lm) f ce sl 1717 [some (.ref b9), some (.ref co), some (.ref mo), some (.ref q9), some (.int (nI (4 * j))), none, none] ([]) := by
  obtain ⟨⟨bk, n, X, Is, PR, PL, S, rfl, hR, hB9, hC9⟩, ⟨g0, hf9⟩, ad, hm⟩ := hw
  have hE := C.2.2.2.2.2.1
  have hl := C.2.2.2.2.2.2.2
  obtain ⟨hI7, hn9, hPR, hSh, hPL, hPb, -⟩ := hR.nv
  have hRec := hR.rec9
  obtain ⟨TG, hTG⟩ := hR.tgs
  refine G.swap ?_
  refine g_peek C ((k6_shownAt hE hl hm hI7 hn9 hPR hSh (xs (4 * j + 1)) (xs (4 * j + 2))).fr (Lc ++ [q9])) dL_law_1749 kM_X6_shownAt kL_L_207 kV_X6_shownAt (hm.1.of (List.mem_append_left _ hm.1.1) rfl) rfl rfl ⟨by decide, by decide⟩ ⟨by show ce + 0 ≤ 601024; omega, by show sl + 0 ≤ 7293034; omega⟩ (fun v8 L8 f8 hq => ?_)
  obtain ⟨Lx, fx, ⟨-, bb, Ab, Ib, -, -, hrl⟩, -⟩ := hq
  refine G.swap ?_
  refine g_aload_n (n := 1718) C dL_law_1717 rfl (Or.inr ⟨_, rfl⟩) rfl ?_
  refine g_aload_n (n := 1719) C dL_law_1718 rfl (Or.inr ⟨_, rfl⟩) rfl ?_
  refine g_iload (n := 1721) C dL_law_1719 rfl rfl ?_
  refine g_iconst (n := 1722) (v := nI 1) C dL_law_1721 rfl rfl ?_
  refine g_iaddN (n := 1723) C dL_law_1722 rfl ?_
  refine g_sld (n := 1724) (j := 4 * j + 1) C hX hbl List.not_mem_nil dL_law_1723 rfl (by omega) (by omega) rfl ?_
  refine g_aload_n (n := 1725) C dL_law_1724 rfl (Or.inr ⟨_, rfl⟩) rfl ?_
  refine g_iload (n := 1727) C dL_law_1725 rfl rfl ?_
  refine g_iconst (n := 1728) (v := nI 2) C dL_law_1727 rfl rfl ?_
  refine g_iaddN (n := 1729) C dL_law_1728 rfl ?_
  refine g_sld (n := 1730) (j := 4 * j + 2) C hX hbl List.not_mem_nil dL_law_1729 rfl (by omega) (by omega) rfl ?_
  refine g_aload_n (n := 1731) C dL_law_1730 rfl (Or.inr ⟨_, rfl⟩) rfl ?_
  refine g_SH (n := 1734) (rest := []) C ((kw_shownAt hE hl hR hB9 hC9 (xs (4 * j + 1)) (xs (4 * j + 2)) (k5_shownAt hE hl hR hB9 hC9 (xs (4 * j + 1)) (xs (4 * j + 2))) ⟨bb, Ab, Ib, hrl⟩ (fun b A1 I1 w hr h27 h0 hT => by
      obtain ⟨w2, hw2, hI, -⟩ := hr
      have e := gn_inj (by have := cd2_lt hw2; omega) (by omega) ((show nI w2 = I1 27 by rw [hI]; rfl).trans h27)
      have := cd2_lt hw2
      omega) hN hf9).fr Lm) dL_law_1731 kH_shownAt (List.mem_of_getElem? (i := 748) (by decide +kernel)) kT_shownAt rfl rfl (Nat.le_of_ble_eq_true rfl) ⟨by decide, by decide⟩ ⟨by show ce + 3 ≤ 601024; omega, by show sl + 18 ≤ 7293034; omega⟩ rfl (fun v8 L8 f8 hq => ?_)
  obtain ⟨L1, f1, hq, rfl, e1, e2⟩ := hq
  obtain ⟨Lc1, g1, rfl, ho1, w, hw4, rfl, hall⟩ := hq
  have hm1 := hm.ext e2
  refine G.sk (st' := [_]) rfl ?_
  refine G.swap ?_
  refine g_istore (n := 1736) (ls' := [_, _, _, _, _, _, _]) C dL_law_1734 rfl (by decide) rfl ?_
  refine g_aload_n (n := 1737) C dL_law_1736 rfl (Or.inr ⟨_, rfl⟩) rfl ?_
  refine g_aload_n (n := 1738) C dL_law_1737 rfl (Or.inr ⟨_, rfl⟩) rfl ?_
  refine g_iload (n := 1740) C dL_law_1738 rfl rfl ?_
  refine g_iconst (n := 1741) (v := nI 1) C dL_law_1740 rfl rfl ?_
  refine g_iaddN (n := 1742) C dL_law_1741 rfl ?_
  refine g_sld (n := 1743) (j := 4 * j + 1) C hX hbl List.not_mem_nil dL_law_1742 rfl (by omega) (by omega) rfl ?_
  refine g_aload_n (n := 1744) C dL_law_1743 rfl (Or.inr ⟨_, rfl⟩) rfl ?_
  refine g_iload (n := 1746) C dL_law_1744 rfl rfl ?_
  refine g_iconst (n := 1747) (v := nI 2) C dL_law_1746 rfl rfl ?_
  refine g_iaddN (n := 1748) C dL_law_1747 rfl ?_
  refine g_sld (n := 1749) (j := 4 * j + 2) C hX hbl List.not_mem_nil dL_law_1748 rfl (by omega) (by omega) rfl ?_
  refine g_V (n := 1752) (rest := []) C ((k6_shownAt hE hl hm1 hI7 hn9 hPR hSh (xs (4 * j + 1)) (xs (4 * j + 2))).fr (Lc1 ++ [q9])) dL_law_1749 kM_X6_shownAt kL_L_207 kV_X6_shownAt (hm1.1.of (List.mem_append_left _ hm1.1.1) rfl) rfl rfl rfl (Nat.le_of_ble_eq_true rfl) ⟨by decide, by decide⟩ ⟨by show ce + 3 + 0 ≤ 601024; omega, by show sl + 18 + 0 ≤ 7293034; omega⟩ rfl (fun v7 L7 f7 hq => ?_)
  obtain ⟨L2, f2, ⟨rfl, bq, Aq, Iq, rfl, hm2, hrq⟩, rfl, e3, e4⟩ := hq
  have hm3 := hm2.ext (fun a ha => (e3 a ha).1)
  refine G.sk (st' := [_]) rfl ?_
  refine g_istore (n := 1754) (ls' := [_, _, _, _, _, _, _]) C dL_law_1752 rfl (by decide) rfl ?_
  refine g_aload_n (n := 1755) C dL_law_1754 rfl (Or.inr ⟨_, rfl⟩) rfl ?_
  refine g_V (n := 1758) (rest := []) C ((k6_thrown hE hl hm3).fr (Lc1 ++ [q9])) dL_law_1755 kM_X6_thrown kL_L_113 kV_X6_thrown (hm3.1.of (List.mem_append_left _ hm3.1.1) rfl) rfl rfl rfl (Nat.le_of_ble_eq_true rfl) ⟨by decide, by decide⟩ ⟨by show ce + 3 + 0 + 0 ≤ 601024; omega, by show sl + 18 + 0 + 0 ≤ 7293034; omega⟩ rfl (fun v6 L6 f6 hq => ?_)
  obtain ⟨L3, f3, ⟨rfl, rfl, rfl⟩, rfl, e5, e6⟩ := hq
  have hm4 := hm3.ext (fun a ha => (e5 a ha).1)
  obtain ⟨h27, hg1, hcw⟩ := hall bq Aq Iq hrq
  have hfx : ∀ a, a ∈ Lc1 ++ [q9] → f6 a = f1 a := fun a ha => (e6 a ha).trans ((e4 a ha).trans (e1 a ha).1)
  have ho6 := (hfx q9 (List.mem_append_right _ List.mem_cons_self)).trans ho1
  refine G.sk (st' := [_]) rfl ?_
  refine g_iload (n := 1760) C dL_law_1758 rfl rfl ?_
  refine g_icmp_eq (n := 1763) (tgt := 1765) C dL_law_1760 (by decide) rfl (fun h1760 => ?_) (fun h1760 => absurd h27 h1760)
  refine g_iload (n := 1767) C dL_law_1765 rfl rfl ?_
  refine g_if_ne (n := 1770) (tgt := 1782) C dL_law_1767 (by decide) rfl (fun h1767 => ?_) (fun h1767 => ?_)
  · refine g_goto (tgt := 2021) C dL_law_1782 (by decide) ?_
    refine G.swap ?_
    refine G.weak (ls' := [some (.ref b9), some (.ref (bk 0)), some (.ref mo), some (.ref q9), some (.int (nI (4 * j))), none, none]) ?_ rfl lw_weak
    refine G.mono (ce' := ce + 57) (sl' := sl + 474) (by omega) (by omega) (kk Lc1 f6 Aq Iq ⟨hcw.ext (fun a ha => hfx a (List.mem_append_left _ ha)), ⟨g1, ho6⟩, ad, hm4⟩)
  · have hw0 : w = 0 := gn_inj (by omega) (by omega) h1767
    refine g_aload_n (n := 1771) C dL_law_1770 rfl (Or.inr ⟨_, rfl⟩) rfl ?_
    refine g_iconst (n := 1772) (v := nI 0) C dL_law_1771 rfl rfl ?_
    refine g_lald (n := 1773) C dL_law_1772 (⟨List.mem_append_right _ (List.mem_append_right _ List.mem_cons_self), ho6⟩ : gH (Lm ++ (Lc1 ++ [q9])) f6 q9 (.inl (cy 2, 1, .inr (.inl g1)))) rfl (by omega) (by decide) rfl ?_
    refine g_iload (n := 1775) C dL_law_1773 rfl rfl ?_
    refine g_i2l (n := 1776) C dL_law_1775 rfl ?_
    refine g_lcmp (n := 1777) C dL_law_1776 (hg1 hw0) rfl ?_
    refine g_if_eq (n := 1780) (tgt := 1782) C dL_law_1777 (by decide) rfl (fun h1777 => ?_) (fun h1777 => absurd rfl h1777)
    refine g_goto (tgt := 2021) C dL_law_1782 (by decide) ?_
    refine G.swap ?_
    refine G.weak (ls' := [some (.ref b9), some (.ref (bk 0)), some (.ref mo), some (.ref q9), some (.int (nI (4 * j))), none, none]) ?_ rfl lw_weak
    refine G.mono (ce' := ce + 57) (sl' := sl + 474) (by omega) (by omega) (kk Lc1 f6 Aq Iq ⟨hcw.ext (fun a ha => hfx a (List.mem_append_left _ ha)), ⟨g1, ho6⟩, ad, hm4⟩)
theorem lc_variable (C : gC p l e room_1 s m args below meth c s0 D cy [] code 7 RL) (hN : gN9 s0) {b9 N : Nat} {xs : Nat → Int32} (hX : va_X b9 N xs s s.heap) (hbl : b9 < s.heap.size) (hN9 : N ≤ 2048) {j : Nat} (hj : 4 * j + 4 ≤ N) {Lc Lm : List Nat} {f : gF} {A : Nat → Nat → Int32} {I : Nat → Int32} {co mo q9 : Nat} (hw : LWD cy co mo q9 A I Lc Lm f) {ce sl : Nat} (hce : ce + 57 ≤ 601024) (hsl : sl + 474 ≤ 7293034) (kk : ∀ (Lc1 : List Nat) (f1 : gF) (A1 : Nat → Nat → Int32) (I1 : Nat → Int32), LWD cy co mo q9 A1 I1 Lc1 Lm f1 → G p l e room_1 s m args below meth c Q D [] 7 ((Lc1 ++ [q9]) ++ Lm) f1 (ce + 57) (sl + 474) 2021 [some (.ref b9), some (.ref co), some (.ref mo), some (.ref q9), some (.int (nI (4 * j))), none, none] ([])) : G p l e room_1 s m args below meth c Q D [] 7 ((Lc ++ [q9]) ++ Lm) f ce sl 1785 [some (.ref b9), some (.ref co), some (.ref mo), some (.ref q9), some (.int (nI (4 * j))), none, none] ([]) := by
  obtain ⟨⟨bk, n, X, Is, PR, PL, S, rfl, hR, hB9, hC9⟩, ⟨g0, hf9⟩, ad, hm⟩ := hw
  have hE := C.2.2.2.2.2.1
  have hl := C.2.2.2.2.2.2.2
  obtain ⟨hI7, hn9, hPR, hSh, hPL, hPb, -⟩ := hR.nv
  have hRec := hR.rec9
  obtain ⟨TG, hTG⟩ := hR.tgs
  refine G.swap ?_
  refine g_peek C ((k6_variable hE hl hm hI7 hn9 (xs (4 * j + 1)) (xs (4 * j + 2))).fr (Lc ++ [q9])) dL_law_1817 kM_X6_variable kL_L_210 kV_X6_variable (hm.1.of (List.mem_append_left _ hm.1.1) rfl) rfl rfl ⟨by decide, by decide⟩ ⟨by show ce + 0 ≤ 601024; omega, by show sl + 0 ≤ 7293034; omega⟩ (fun v8 L8 f8 hq => ?_)
  obtain ⟨Lx, fx, ⟨-, bb, Ab, Ib, -, -, hrl⟩, -⟩ := hq
  refine G.swap ?_
  refine g_aload_n (n := 1786) C dL_law_1785 rfl (Or.inr ⟨_, rfl⟩) rfl ?_
  refine g_aload_n (n := 1787) C dL_law_1786 rfl (Or.inr ⟨_, rfl⟩) rfl ?_
  refine g_iload (n := 1789) C dL_law_1787 rfl rfl ?_
  refine g_iconst (n := 1790) (v := nI 1) C dL_law_1789 rfl rfl ?_
  refine g_iaddN (n := 1791) C dL_law_1790 rfl ?_
  refine g_sld (n := 1792) (j := 4 * j + 1) C hX hbl List.not_mem_nil dL_law_1791 rfl (by omega) (by omega) rfl ?_
  refine g_aload_n (n := 1793) C dL_law_1792 rfl (Or.inr ⟨_, rfl⟩) rfl ?_
  refine g_iload (n := 1795) C dL_law_1793 rfl rfl ?_
  refine g_iconst (n := 1796) (v := nI 2) C dL_law_1795 rfl rfl ?_
  refine g_iaddN (n := 1797) C dL_law_1796 rfl ?_
  refine g_sld (n := 1798) (j := 4 * j + 2) C hX hbl List.not_mem_nil dL_law_1797 rfl (by omega) (by omega) rfl ?_
  refine g_aload_n (n := 1799) C dL_law_1798 rfl (Or.inr ⟨_, rfl⟩) rfl ?_
  refine g_SH (n := 1802) (rest := []) C ((kw_variable hE hl hR hB9 hC9 (xs (4 * j + 1)) (xs (4 * j + 2)) (k5_variable hE hl hR hB9 hC9 (xs (4 * j + 1)) (xs (4 * j + 2))) ⟨bb, Ab, Ib, hrl⟩ (fun b A1 I1 w hr h27 h0 hT => by
      obtain ⟨w2, hw2, hI, -⟩ := hr
      have e := gn_inj (by have := cd2_lt hw2; omega) (by omega) ((show nI w2 = I1 27 by rw [hI]; rfl).trans h27)
      have := cd2_lt hw2
      omega) hN hf9).fr Lm) dL_law_1799 kH_variable (List.mem_of_getElem? (i := 756) (by decide +kernel)) kT_variable rfl rfl (Nat.le_of_ble_eq_true rfl) ⟨by decide, by decide⟩ ⟨by show ce + 3 ≤ 601024; omega, by show sl + 18 ≤ 7293034; omega⟩ rfl (fun v8 L8 f8 hq => ?_)
  obtain ⟨L1, f1, hq, rfl, e1, e2⟩ := hq
  obtain ⟨Lc1, g1, rfl, ho1, w, hw4, rfl, hall⟩ := hq
  have hm1 := hm.ext e2
  refine G.sk (st' := [_]) rfl ?_
  refine G.swap ?_
  refine g_istore (n := 1804) (ls' := [_, _, _, _, _, _, _]) C dL_law_1802 rfl (by decide) rfl ?_
  refine g_aload_n (n := 1805) C dL_law_1804 rfl (Or.inr ⟨_, rfl⟩) rfl ?_
  refine g_aload_n (n := 1806) C dL_law_1805 rfl (Or.inr ⟨_, rfl⟩) rfl ?_
  refine g_iload (n := 1808) C dL_law_1806 rfl rfl ?_
  refine g_iconst (n := 1809) (v := nI 1) C dL_law_1808 rfl rfl ?_
  refine g_iaddN (n := 1810) C dL_law_1809 rfl ?_
  refine g_sld (n := 1811) (j := 4 * j + 1) C hX hbl List.not_mem_nil dL_law_1810 rfl (by omega) (by omega) rfl ?_
  refine g_aload_n (n := 1812) C dL_law_1811 rfl (Or.inr ⟨_, rfl⟩) rfl ?_
  refine g_iload (n := 1814) C dL_law_1812 rfl rfl ?_
  refine g_iconst (n := 1815) (v := nI 2) C dL_law_1814 rfl rfl ?_
  refine g_iaddN (n := 1816) C dL_law_1815 rfl ?_
  refine g_sld (n := 1817) (j := 4 * j + 2) C hX hbl List.not_mem_nil dL_law_1816 rfl (by omega) (by omega) rfl ?_
  refine g_V (n := 1820) (rest := []) C ((k6_variable hE hl hm1 hI7 hn9 (xs (4 * j + 1)) (xs (4 * j + 2))).fr (Lc1 ++ [q9])) dL_law_1817 kM_X6_variable kL_L_210 kV_X6_variable (hm1.1.of (List.mem_append_left _ hm1.1.1) rfl) rfl rfl rfl (Nat.le_of_ble_eq_true rfl) ⟨by decide, by decide⟩ ⟨by show ce + 3 + 0 ≤ 601024; omega, by show sl + 18 + 0 ≤ 7293034; omega⟩ rfl (fun v7 L7 f7 hq => ?_)
  obtain ⟨L2, f2, ⟨rfl, bq, Aq, Iq, rfl, hm2, hrq⟩, rfl, e3, e4⟩ := hq
  have hm3 := hm2.ext (fun a ha => (e3 a ha).1)
  refine G.sk (st' := [_]) rfl ?_
  refine g_istore (n := 1822) (ls' := [_, _, _, _, _, _, _]) C dL_law_1820 rfl (by decide) rfl ?_
  refine g_aload_n (n := 1823) C dL_law_1822 rfl (Or.inr ⟨_, rfl⟩) rfl ?_
  refine g_V (n := 1826) (rest := []) C ((k6_thrown hE hl hm3).fr (Lc1 ++ [q9])) dL_law_1823 kM_X6_thrown kL_L_113 kV_X6_thrown (hm3.1.of (List.mem_append_left _ hm3.1.1) rfl) rfl rfl rfl (Nat.le_of_ble_eq_true rfl) ⟨by decide, by decide⟩ ⟨by show ce + 3 + 0 + 0 ≤ 601024; omega, by show sl + 18 + 0 + 0 ≤ 7293034; omega⟩ rfl (fun v6 L6 f6 hq => ?_)
  obtain ⟨L3, f3, ⟨rfl, rfl, rfl⟩, rfl, e5, e6⟩ := hq
  have hm4 := hm3.ext (fun a ha => (e5 a ha).1)
  obtain ⟨h27, hg1, hcw⟩ := hall bq Aq Iq hrq
  have hfx : ∀ a, a ∈ Lc1 ++ [q9] → f6 a = f1 a := fun a ha => (e6 a ha).trans ((e4 a ha).trans (e1 a ha).1)
  have ho6 := (hfx q9 (List.mem_append_right _ List.mem_cons_self)).trans ho1
  refine G.sk (st' := [_]) rfl ?_
  refine g_iload (n := 1828) C dL_law_1826 rfl rfl ?_
  refine g_icmp_eq (n := 1831) (tgt := 1833) C dL_law_1828 (by decide) rfl (fun h1828 => ?_) (fun h1828 => absurd h27 h1828)
  refine g_iload (n := 1835) C dL_law_1833 rfl rfl ?_
  refine g_if_ne (n := 1838) (tgt := 1850) C dL_law_1835 (by decide) rfl (fun h1835 => ?_) (fun h1835 => ?_)
  · refine g_goto (tgt := 2021) C dL_law_1850 (by decide) ?_
    refine G.swap ?_
    refine G.weak (ls' := [some (.ref b9), some (.ref (bk 0)), some (.ref mo), some (.ref q9), some (.int (nI (4 * j))), none, none]) ?_ rfl lw_weak
    refine G.mono (ce' := ce + 57) (sl' := sl + 474) (by omega) (by omega) (kk Lc1 f6 Aq Iq ⟨hcw.ext (fun a ha => hfx a (List.mem_append_left _ ha)), ⟨g1, ho6⟩, ad, hm4⟩)
  · have hw0 : w = 0 := gn_inj (by omega) (by omega) h1835
    refine g_aload_n (n := 1839) C dL_law_1838 rfl (Or.inr ⟨_, rfl⟩) rfl ?_
    refine g_iconst (n := 1840) (v := nI 0) C dL_law_1839 rfl rfl ?_
    refine g_lald (n := 1841) C dL_law_1840 (⟨List.mem_append_right _ (List.mem_append_right _ List.mem_cons_self), ho6⟩ : gH (Lm ++ (Lc1 ++ [q9])) f6 q9 (.inl (cy 2, 1, .inr (.inl g1)))) rfl (by omega) (by decide) rfl ?_
    refine g_iload (n := 1843) C dL_law_1841 rfl rfl ?_
    refine g_i2l (n := 1844) C dL_law_1843 rfl ?_
    refine g_lcmp (n := 1845) C dL_law_1844 (hg1 hw0) rfl ?_
    refine g_if_eq (n := 1848) (tgt := 1850) C dL_law_1845 (by decide) rfl (fun h1845 => ?_) (fun h1845 => absurd rfl h1845)
    refine g_goto (tgt := 2021) C dL_law_1850 (by decide) ?_
    refine G.swap ?_
    refine G.weak (ls' := [some (.ref b9), some (.ref (bk 0)), some (.ref mo), some (.ref q9), some (.int (nI (4 * j))), none, none]) ?_ rfl lw_weak
    refine G.mono (ce' := ce + 57) (sl' := sl + 474) (by omega) (by omega) (kk Lc1 f6 Aq Iq ⟨hcw.ext (fun a ha => hfx a (List.mem_append_left _ ha)), ⟨g1, ho6⟩, ad, hm4⟩)
theorem lc_depth (C : gC p l e room_1 s m args below meth c s0 D cy [] code 7 RL) (hN : gN9 s0) {b9 N : Nat} {xs : Nat → Int32} (hX : va_X b9 N xs s s.heap) (hbl : b9 < s.heap.size) (hN9 : N ≤ 2048) {j : Nat} (hj : 4 * j + 4 ≤ N) {Lc Lm : List Nat} {f : gF} {A : Nat → Nat → Int32} {I : Nat → Int32} {co mo q9 : Nat} (hw : LWD cy co mo q9 A I Lc Lm f) {ce sl : Nat} (hce : ce + 57 ≤ 601024) (hsl : sl + 474 ≤ 7293034) (kk : ∀ (Lc1 : List Nat) (f1 : gF) (A1 : Nat → Nat → Int32) (I1 : Nat → Int32), LWD cy co mo q9 A1 I1 Lc1 Lm f1 → G p l e room_1 s m args below meth c Q D [] 7 ((Lc1 ++ [q9]) ++ Lm) f1 (ce + 57) (sl + 474) 2021 [some (.ref b9), some (.ref co), some (.ref mo), some (.ref q9), some (.int (nI (4 * j))), none, none] ([])) : G p l e room_1 s m args below meth c Q D [] 7 ((Lc ++ [q9]) ++ Lm) f ce sl 1853 [some (.ref b9), some (.ref co), some (.ref mo), some (.ref q9), some (.int (nI (4 * j))), none, none] ([]) := by
  obtain ⟨⟨bk, n, X, Is, PR, PL, S, rfl, hR, hB9, hC9⟩, ⟨g0, hf9⟩, ad, hm⟩ := hw
  have hE := C.2.2.2.2.2.1
  have hl := C.2.2.2.2.2.2.2
  obtain ⟨hI7, hn9, hPR, hSh, hPL, hPb, -⟩ := hR.nv
  have hRec := hR.rec9
  obtain ⟨TG, hTG⟩ := hR.tgs
  refine G.swap ?_
  refine g_peek C ((k6_depth hE hl hm hI7 hn9 hPR hPL (xs (4 * j + 1))).fr (Lc ++ [q9])) dL_law_1873 kM_X6_depth kL_L_213 kV_X6_depth (hm.1.of (List.mem_append_left _ hm.1.1) rfl) rfl rfl ⟨by decide, by decide⟩ ⟨by show ce + 0 ≤ 601024; omega, by show sl + 0 ≤ 7293034; omega⟩ (fun v8 L8 f8 hq => ?_)
  obtain ⟨Lx, fx, ⟨-, bb, Ab, Ib, -, -, hrl⟩, -⟩ := hq
  refine G.swap ?_
  refine g_aload_n (n := 1854) C dL_law_1853 rfl (Or.inr ⟨_, rfl⟩) rfl ?_
  refine g_aload_n (n := 1855) C dL_law_1854 rfl (Or.inr ⟨_, rfl⟩) rfl ?_
  refine g_iload (n := 1857) C dL_law_1855 rfl rfl ?_
  refine g_iconst (n := 1858) (v := nI 1) C dL_law_1857 rfl rfl ?_
  refine g_iaddN (n := 1859) C dL_law_1858 rfl ?_
  refine g_sld (n := 1860) (j := 4 * j + 1) C hX hbl List.not_mem_nil dL_law_1859 rfl (by omega) (by omega) rfl ?_
  refine g_aload_n (n := 1861) C dL_law_1860 rfl (Or.inr ⟨_, rfl⟩) rfl ?_
  refine g_SH (n := 1864) (rest := []) C ((kw_depth hE hl hR hB9 hC9 (xs (4 * j + 1)) (k5_depth hE hl hR hB9 hC9 (xs (4 * j + 1))) ⟨bb, Ab, Ib, hrl⟩ (fun b A1 I1 w hr h27 h0 hT => by
      obtain ⟨w2, hw2, hI, -⟩ := hr
      have e := gn_inj (by have := cd2_lt hw2; omega) (by omega) ((show nI w2 = I1 27 by rw [hI]; rfl).trans h27)
      have := cd2_lt hw2
      omega) hN hf9).fr Lm) dL_law_1861 kH_depth (List.mem_of_getElem? (i := 764) (by decide +kernel)) kT_depth rfl rfl (Nat.le_of_ble_eq_true rfl) ⟨by decide, by decide⟩ ⟨by show ce + 2 ≤ 601024; omega, by show sl + 12 ≤ 7293034; omega⟩ rfl (fun v8 L8 f8 hq => ?_)
  obtain ⟨L1, f1, hq, rfl, e1, e2⟩ := hq
  obtain ⟨Lc1, g1, rfl, ho1, w, hw4, rfl, hall⟩ := hq
  have hm1 := hm.ext e2
  refine G.sk (st' := [_]) rfl ?_
  refine G.swap ?_
  refine g_istore (n := 1866) (ls' := [_, _, _, _, _, _, _]) C dL_law_1864 rfl (by decide) rfl ?_
  refine g_aload_n (n := 1867) C dL_law_1866 rfl (Or.inr ⟨_, rfl⟩) rfl ?_
  refine g_aload_n (n := 1868) C dL_law_1867 rfl (Or.inr ⟨_, rfl⟩) rfl ?_
  refine g_iload (n := 1870) C dL_law_1868 rfl rfl ?_
  refine g_iconst (n := 1871) (v := nI 1) C dL_law_1870 rfl rfl ?_
  refine g_iaddN (n := 1872) C dL_law_1871 rfl ?_
  refine g_sld (n := 1873) (j := 4 * j + 1) C hX hbl List.not_mem_nil dL_law_1872 rfl (by omega) (by omega) rfl ?_
  refine g_V (n := 1876) (rest := []) C ((k6_depth hE hl hm1 hI7 hn9 hPR hPL (xs (4 * j + 1))).fr (Lc1 ++ [q9])) dL_law_1873 kM_X6_depth kL_L_213 kV_X6_depth (hm1.1.of (List.mem_append_left _ hm1.1.1) rfl) rfl rfl rfl (Nat.le_of_ble_eq_true rfl) ⟨by decide, by decide⟩ ⟨by show ce + 2 + 0 ≤ 601024; omega, by show sl + 12 + 0 ≤ 7293034; omega⟩ rfl (fun v7 L7 f7 hq => ?_)
  obtain ⟨L2, f2, ⟨rfl, bq, Aq, Iq, rfl, hm2, hrq⟩, rfl, e3, e4⟩ := hq
  have hm3 := hm2.ext (fun a ha => (e3 a ha).1)
  refine G.sk (st' := [_]) rfl ?_
  refine g_istore (n := 1878) (ls' := [_, _, _, _, _, _, _]) C dL_law_1876 rfl (by decide) rfl ?_
  refine g_aload_n (n := 1879) C dL_law_1878 rfl (Or.inr ⟨_, rfl⟩) rfl ?_
  refine g_V (n := 1882) (rest := []) C ((k6_thrown hE hl hm3).fr (Lc1 ++ [q9])) dL_law_1879 kM_X6_thrown kL_L_113 kV_X6_thrown (hm3.1.of (List.mem_append_left _ hm3.1.1) rfl) rfl rfl rfl (Nat.le_of_ble_eq_true rfl) ⟨by decide, by decide⟩ ⟨by show ce + 2 + 0 + 0 ≤ 601024; omega, by show sl + 12 + 0 + 0 ≤ 7293034; omega⟩ rfl (fun v6 L6 f6 hq => ?_)
  obtain ⟨L3, f3, ⟨rfl, rfl, rfl⟩, rfl, e5, e6⟩ := hq
  have hm4 := hm3.ext (fun a ha => (e5 a ha).1)
  obtain ⟨h27, hg1, hcw⟩ := hall bq Aq Iq hrq
  have hfx : ∀ a, a ∈ Lc1 ++ [q9] → f6 a = f1 a := fun a ha => (e6 a ha).trans ((e4 a ha).trans (e1 a ha).1)
  have ho6 := (hfx q9 (List.mem_append_right _ List.mem_cons_self)).trans ho1
  refine G.sk (st' := [_]) rfl ?_
  refine g_iload (n := 1884) C dL_law_1882 rfl rfl ?_
  refine g_icmp_eq (n := 1887) (tgt := 1889) C dL_law_1884 (by decide) rfl (fun h1884 => ?_) (fun h1884 => absurd h27 h1884)
  refine g_iload (n := 1891) C dL_law_1889 rfl rfl ?_
  refine g_if_ne (n := 1894) (tgt := 1906) C dL_law_1891 (by decide) rfl (fun h1891 => ?_) (fun h1891 => ?_)
  · refine g_goto (tgt := 2021) C dL_law_1906 (by decide) ?_
    refine G.swap ?_
    refine G.weak (ls' := [some (.ref b9), some (.ref (bk 0)), some (.ref mo), some (.ref q9), some (.int (nI (4 * j))), none, none]) ?_ rfl lw_weak
    refine G.mono (ce' := ce + 57) (sl' := sl + 474) (by omega) (by omega) (kk Lc1 f6 Aq Iq ⟨hcw.ext (fun a ha => hfx a (List.mem_append_left _ ha)), ⟨g1, ho6⟩, ad, hm4⟩)
  · have hw0 : w = 0 := gn_inj (by omega) (by omega) h1891
    refine g_aload_n (n := 1895) C dL_law_1894 rfl (Or.inr ⟨_, rfl⟩) rfl ?_
    refine g_iconst (n := 1896) (v := nI 0) C dL_law_1895 rfl rfl ?_
    refine g_lald (n := 1897) C dL_law_1896 (⟨List.mem_append_right _ (List.mem_append_right _ List.mem_cons_self), ho6⟩ : gH (Lm ++ (Lc1 ++ [q9])) f6 q9 (.inl (cy 2, 1, .inr (.inl g1)))) rfl (by omega) (by decide) rfl ?_
    refine g_iload (n := 1899) C dL_law_1897 rfl rfl ?_
    refine g_i2l (n := 1900) C dL_law_1899 rfl ?_
    refine g_lcmp (n := 1901) C dL_law_1900 (hg1 hw0) rfl ?_
    refine g_if_eq (n := 1904) (tgt := 1906) C dL_law_1901 (by decide) rfl (fun h1901 => ?_) (fun h1901 => absurd rfl h1901)
    refine g_goto (tgt := 2021) C dL_law_1906 (by decide) ?_
    refine G.swap ?_
    refine G.weak (ls' := [some (.ref b9), some (.ref (bk 0)), some (.ref mo), some (.ref q9), some (.int (nI (4 * j))), none, none]) ?_ rfl lw_weak
    refine G.mono (ce' := ce + 57) (sl' := sl + 474) (by omega) (by omega) (kk Lc1 f6 Aq Iq ⟨hcw.ext (fun a ha => hfx a (List.mem_append_left _ ha)), ⟨g1, ho6⟩, ad, hm4⟩)
theorem lc_imageSize (C : gC p l e room_1 s m args below meth c s0 D cy [] code 7 RL) (hN : gN9 s0) {b9 N : Nat} {xs : Nat → Int32} (hX : va_X b9 N xs s s.heap) (hbl : b9 < s.heap.size) (hN9 : N ≤ 2048) {j : Nat} (hj : 4 * j + 4 ≤ N) {Lc Lm : List Nat} {f : gF} {A : Nat → Nat → Int32} {I : Nat → Int32} {co mo q9 : Nat} (hw : LWD cy co mo q9 A I Lc Lm f) {ce sl : Nat} (hce : ce + 57 ≤ 601024) (hsl : sl + 474 ≤ 7293034) (kk : ∀ (Lc1 : List Nat) (f1 : gF) (A1 : Nat → Nat → Int32) (I1 : Nat → Int32), LWD cy co mo q9 A1 I1 Lc1 Lm f1 → G p l e room_1 s m args below meth c Q D [] 7 ((Lc1 ++ [q9]) ++ Lm) f1 (ce + 57) (sl + 474) 2021 [some (.ref b9), some (.ref co), some (.ref mo), some (.ref q9), some (.int (nI (4 * j))), none, none] ([])) : G p l e room_1 s m args below meth c Q D [] 7 ((Lc ++ [q9]) ++ Lm) f ce sl 1909 [some (.ref b9), some (.ref co), some (.ref mo), some (.ref q9), some (.int (nI (4 * j))), none, none] ([]) := by
  obtain ⟨⟨bk, n, X, Is, PR, PL, S, rfl, hR, hB9, hC9⟩, ⟨g0, hf9⟩, ad, hm⟩ := hw
  have hE := C.2.2.2.2.2.1
  have hl := C.2.2.2.2.2.2.2
  obtain ⟨hI7, hn9, hPR, hSh, hPL, hPb, -⟩ := hR.nv
  have hRec := hR.rec9
  obtain ⟨TG, hTG⟩ := hR.tgs
  refine G.swap ?_
  refine g_peek C ((k6_imageSize hE hl hm hI7 hn9 hPR (xs (4 * j + 1))).fr (Lc ++ [q9])) dL_law_1929 kM_X6_imageSize kL_L_216 kV_X6_imageSize (hm.1.of (List.mem_append_left _ hm.1.1) rfl) rfl rfl ⟨by decide, by decide⟩ ⟨by show ce + 0 ≤ 601024; omega, by show sl + 0 ≤ 7293034; omega⟩ (fun v8 L8 f8 hq => ?_)
  obtain ⟨Lx, fx, ⟨-, bb, Ab, Ib, -, -, hrl⟩, -⟩ := hq
  refine G.swap ?_
  refine g_aload_n (n := 1910) C dL_law_1909 rfl (Or.inr ⟨_, rfl⟩) rfl ?_
  refine g_aload_n (n := 1911) C dL_law_1910 rfl (Or.inr ⟨_, rfl⟩) rfl ?_
  refine g_iload (n := 1913) C dL_law_1911 rfl rfl ?_
  refine g_iconst (n := 1914) (v := nI 1) C dL_law_1913 rfl rfl ?_
  refine g_iaddN (n := 1915) C dL_law_1914 rfl ?_
  refine g_sld (n := 1916) (j := 4 * j + 1) C hX hbl List.not_mem_nil dL_law_1915 rfl (by omega) (by omega) rfl ?_
  refine g_aload_n (n := 1917) C dL_law_1916 rfl (Or.inr ⟨_, rfl⟩) rfl ?_
  refine g_SH (n := 1920) (rest := []) C ((kw_imageSize hE hl hR hB9 hC9 (xs (4 * j + 1)) (k5_imageSize hE hl hR hB9 hC9 (xs (4 * j + 1))) ⟨bb, Ab, Ib, hrl⟩ (fun b A1 I1 w hr h27 h0 hT => by
      obtain ⟨w2, hw2, hI, -⟩ := hr
      have e := gn_inj (by have := cd2_lt hw2; omega) (by omega) ((show nI w2 = I1 27 by rw [hI]; rfl).trans h27)
      have := cd2_lt hw2
      omega) hN hf9).fr Lm) dL_law_1917 kH_imageSize (List.mem_of_getElem? (i := 771) (by decide +kernel)) kT_imageSize rfl rfl (Nat.le_of_ble_eq_true rfl) ⟨by decide, by decide⟩ ⟨by show ce + 2 ≤ 601024; omega, by show sl + 12 ≤ 7293034; omega⟩ rfl (fun v8 L8 f8 hq => ?_)
  obtain ⟨L1, f1, hq, rfl, e1, e2⟩ := hq
  obtain ⟨Lc1, g1, rfl, ho1, w, hw4, rfl, hall⟩ := hq
  have hm1 := hm.ext e2
  refine G.sk (st' := [_]) rfl ?_
  refine G.swap ?_
  refine g_istore (n := 1922) (ls' := [_, _, _, _, _, _, _]) C dL_law_1920 rfl (by decide) rfl ?_
  refine g_aload_n (n := 1923) C dL_law_1922 rfl (Or.inr ⟨_, rfl⟩) rfl ?_
  refine g_aload_n (n := 1924) C dL_law_1923 rfl (Or.inr ⟨_, rfl⟩) rfl ?_
  refine g_iload (n := 1926) C dL_law_1924 rfl rfl ?_
  refine g_iconst (n := 1927) (v := nI 1) C dL_law_1926 rfl rfl ?_
  refine g_iaddN (n := 1928) C dL_law_1927 rfl ?_
  refine g_sld (n := 1929) (j := 4 * j + 1) C hX hbl List.not_mem_nil dL_law_1928 rfl (by omega) (by omega) rfl ?_
  refine g_V (n := 1932) (rest := []) C ((k6_imageSize hE hl hm1 hI7 hn9 hPR (xs (4 * j + 1))).fr (Lc1 ++ [q9])) dL_law_1929 kM_X6_imageSize kL_L_216 kV_X6_imageSize (hm1.1.of (List.mem_append_left _ hm1.1.1) rfl) rfl rfl rfl (Nat.le_of_ble_eq_true rfl) ⟨by decide, by decide⟩ ⟨by show ce + 2 + 0 ≤ 601024; omega, by show sl + 12 + 0 ≤ 7293034; omega⟩ rfl (fun v7 L7 f7 hq => ?_)
  obtain ⟨L2, f2, ⟨rfl, bq, Aq, Iq, rfl, hm2, hrq⟩, rfl, e3, e4⟩ := hq
  have hm3 := hm2.ext (fun a ha => (e3 a ha).1)
  refine G.sk (st' := [_]) rfl ?_
  refine g_istore (n := 1934) (ls' := [_, _, _, _, _, _, _]) C dL_law_1932 rfl (by decide) rfl ?_
  refine g_aload_n (n := 1935) C dL_law_1934 rfl (Or.inr ⟨_, rfl⟩) rfl ?_
  refine g_V (n := 1938) (rest := []) C ((k6_thrown hE hl hm3).fr (Lc1 ++ [q9])) dL_law_1935 kM_X6_thrown kL_L_113 kV_X6_thrown (hm3.1.of (List.mem_append_left _ hm3.1.1) rfl) rfl rfl rfl (Nat.le_of_ble_eq_true rfl) ⟨by decide, by decide⟩ ⟨by show ce + 2 + 0 + 0 ≤ 601024; omega, by show sl + 12 + 0 + 0 ≤ 7293034; omega⟩ rfl (fun v6 L6 f6 hq => ?_)
  obtain ⟨L3, f3, ⟨rfl, rfl, rfl⟩, rfl, e5, e6⟩ := hq
  have hm4 := hm3.ext (fun a ha => (e5 a ha).1)
  obtain ⟨h27, hg1, hcw⟩ := hall bq Aq Iq hrq
  have hfx : ∀ a, a ∈ Lc1 ++ [q9] → f6 a = f1 a := fun a ha => (e6 a ha).trans ((e4 a ha).trans (e1 a ha).1)
  have ho6 := (hfx q9 (List.mem_append_right _ List.mem_cons_self)).trans ho1
  refine G.sk (st' := [_]) rfl ?_
  refine g_iload (n := 1940) C dL_law_1938 rfl rfl ?_
  refine g_icmp_eq (n := 1943) (tgt := 1945) C dL_law_1940 (by decide) rfl (fun h1940 => ?_) (fun h1940 => absurd h27 h1940)
  refine g_iload (n := 1947) C dL_law_1945 rfl rfl ?_
  refine g_if_ne (n := 1950) (tgt := 1962) C dL_law_1947 (by decide) rfl (fun h1947 => ?_) (fun h1947 => ?_)
  · refine g_goto (tgt := 2021) C dL_law_1962 (by decide) ?_
    refine G.swap ?_
    refine G.weak (ls' := [some (.ref b9), some (.ref (bk 0)), some (.ref mo), some (.ref q9), some (.int (nI (4 * j))), none, none]) ?_ rfl lw_weak
    refine G.mono (ce' := ce + 57) (sl' := sl + 474) (by omega) (by omega) (kk Lc1 f6 Aq Iq ⟨hcw.ext (fun a ha => hfx a (List.mem_append_left _ ha)), ⟨g1, ho6⟩, ad, hm4⟩)
  · have hw0 : w = 0 := gn_inj (by omega) (by omega) h1947
    refine g_aload_n (n := 1951) C dL_law_1950 rfl (Or.inr ⟨_, rfl⟩) rfl ?_
    refine g_iconst (n := 1952) (v := nI 0) C dL_law_1951 rfl rfl ?_
    refine g_lald (n := 1953) C dL_law_1952 (⟨List.mem_append_right _ (List.mem_append_right _ List.mem_cons_self), ho6⟩ : gH (Lm ++ (Lc1 ++ [q9])) f6 q9 (.inl (cy 2, 1, .inr (.inl g1)))) rfl (by omega) (by decide) rfl ?_
    refine g_iload (n := 1955) C dL_law_1953 rfl rfl ?_
    refine g_i2l (n := 1956) C dL_law_1955 rfl ?_
    refine g_lcmp (n := 1957) C dL_law_1956 (hg1 hw0) rfl ?_
    refine g_if_eq (n := 1960) (tgt := 1962) C dL_law_1957 (by decide) rfl (fun h1957 => ?_) (fun h1957 => absurd rfl h1957)
    refine g_goto (tgt := 2021) C dL_law_1962 (by decide) ?_
    refine G.swap ?_
    refine G.weak (ls' := [some (.ref b9), some (.ref (bk 0)), some (.ref mo), some (.ref q9), some (.int (nI (4 * j))), none, none]) ?_ rfl lw_weak
    refine G.mono (ce' := ce + 57) (sl' := sl + 474) (by omega) (by omega) (kk Lc1 f6 Aq Iq ⟨hcw.ext (fun a ha => hfx a (List.mem_append_left _ ha)), ⟨g1, ho6⟩, ad, hm4⟩)
theorem lc_digest (C : gC p l e room_1 s m args below meth c s0 D cy [] code 7 RL) (hN : gN9 s0) {b9 N : Nat} {xs : Nat → Int32} (hX : va_X b9 N xs s s.heap) (hbl : b9 < s.heap.size) (hN9 : N ≤ 2048) {j : Nat} (hj : 4 * j + 4 ≤ N) {Lc Lm : List Nat} {f : gF} {A : Nat → Nat → Int32} {I : Nat → Int32} {co mo q9 : Nat} (hw : LWD cy co mo q9 A I Lc Lm f) {ce sl : Nat} (hce : ce + 57 ≤ 601024) (hsl : sl + 474 ≤ 7293034) (kk : ∀ (Lc1 : List Nat) (f1 : gF) (A1 : Nat → Nat → Int32) (I1 : Nat → Int32), LWD cy co mo q9 A1 I1 Lc1 Lm f1 → G p l e room_1 s m args below meth c Q D [] 7 ((Lc1 ++ [q9]) ++ Lm) f1 (ce + 57) (sl + 474) 2021 [some (.ref b9), some (.ref co), some (.ref mo), some (.ref q9), some (.int (nI (4 * j))), none, none] ([])) : G p l e room_1 s m args below meth c Q D [] 7 ((Lc ++ [q9]) ++ Lm) f ce sl 1965 [some (.ref b9), some (.ref co), some (.ref mo), some (.ref q9), some (.int (nI (4 * j))), none, none] ([]) := by
  obtain ⟨⟨bk, n, X, Is, PR, PL, S, rfl, hR, hB9, hC9⟩, ⟨g0, hf9⟩, ad, hm⟩ := hw
  have hE := C.2.2.2.2.2.1
  have hl := C.2.2.2.2.2.2.2
  obtain ⟨hI7, hn9, hPR, hSh, hPL, hPb, -⟩ := hR.nv
  have hRec := hR.rec9
  obtain ⟨TG, hTG⟩ := hR.tgs
  refine G.swap ?_
  refine g_peek C ((k6_digest hE hl hm hI7 hn9 hPR hSh (xs (4 * j + 1))).fr (Lc ++ [q9])) dL_law_1985 kM_X6_digest kL_L_219 kV_X6_digest (hm.1.of (List.mem_append_left _ hm.1.1) rfl) rfl rfl ⟨by decide, by decide⟩ ⟨by show ce + 0 ≤ 601024; omega, by show sl + 0 ≤ 7293034; omega⟩ (fun v8 L8 f8 hq => ?_)
  obtain ⟨Lx, fx, ⟨-, bb, Ab, Ib, -, -, hrl⟩, -⟩ := hq
  refine G.swap ?_
  refine g_aload_n (n := 1966) C dL_law_1965 rfl (Or.inr ⟨_, rfl⟩) rfl ?_
  refine g_aload_n (n := 1967) C dL_law_1966 rfl (Or.inr ⟨_, rfl⟩) rfl ?_
  refine g_iload (n := 1969) C dL_law_1967 rfl rfl ?_
  refine g_iconst (n := 1970) (v := nI 1) C dL_law_1969 rfl rfl ?_
  refine g_iaddN (n := 1971) C dL_law_1970 rfl ?_
  refine g_sld (n := 1972) (j := 4 * j + 1) C hX hbl List.not_mem_nil dL_law_1971 rfl (by omega) (by omega) rfl ?_
  refine g_aload_n (n := 1973) C dL_law_1972 rfl (Or.inr ⟨_, rfl⟩) rfl ?_
  refine g_SH (n := 1976) (rest := []) C ((kw_digest hE hl hR hB9 hC9 (xs (4 * j + 1)) (k5_digest hE hl hR hB9 hC9 (xs (4 * j + 1))) ⟨bb, Ab, Ib, hrl⟩ (fun b A1 I1 w hr h27 h0 hT => by
      obtain ⟨w2, hw2, hI, -⟩ := hr
      have e := gn_inj (by have := cd2_lt hw2; omega) (by omega) ((show nI w2 = I1 27 by rw [hI]; rfl).trans h27)
      have := cd2_lt hw2
      omega) hN hf9).fr Lm) dL_law_1973 kH_digest (List.mem_of_getElem? (i := 778) (by decide +kernel)) kT_digest rfl rfl (Nat.le_of_ble_eq_true rfl) ⟨by decide, by decide⟩ ⟨by show ce + 2 ≤ 601024; omega, by show sl + 12 ≤ 7293034; omega⟩ rfl (fun v8 L8 f8 hq => ?_)
  obtain ⟨L1, f1, hq, rfl, e1, e2⟩ := hq
  obtain ⟨Lc1, g1, rfl, ho1, w, hw4, rfl, hall⟩ := hq
  have hm1 := hm.ext e2
  refine G.sk (st' := [_]) rfl ?_
  refine G.swap ?_
  refine g_istore (n := 1978) (ls' := [_, _, _, _, _, _, _]) C dL_law_1976 rfl (by decide) rfl ?_
  refine g_aload_n (n := 1979) C dL_law_1978 rfl (Or.inr ⟨_, rfl⟩) rfl ?_
  refine g_aload_n (n := 1980) C dL_law_1979 rfl (Or.inr ⟨_, rfl⟩) rfl ?_
  refine g_iload (n := 1982) C dL_law_1980 rfl rfl ?_
  refine g_iconst (n := 1983) (v := nI 1) C dL_law_1982 rfl rfl ?_
  refine g_iaddN (n := 1984) C dL_law_1983 rfl ?_
  refine g_sld (n := 1985) (j := 4 * j + 1) C hX hbl List.not_mem_nil dL_law_1984 rfl (by omega) (by omega) rfl ?_
  refine g_V (n := 1988) (rest := []) C ((k6_digest hE hl hm1 hI7 hn9 hPR hSh (xs (4 * j + 1))).fr (Lc1 ++ [q9])) dL_law_1985 kM_X6_digest kL_L_219 kV_X6_digest (hm1.1.of (List.mem_append_left _ hm1.1.1) rfl) rfl rfl rfl (Nat.le_of_ble_eq_true rfl) ⟨by decide, by decide⟩ ⟨by show ce + 2 + 0 ≤ 601024; omega, by show sl + 12 + 0 ≤ 7293034; omega⟩ rfl (fun v7 L7 f7 hq => ?_)
  obtain ⟨L2, f2, ⟨rfl, bq, Aq, Iq, rfl, hm2, hrq⟩, rfl, e3, e4⟩ := hq
  have hm3 := hm2.ext (fun a ha => (e3 a ha).1)
  refine G.sk (st' := [_]) rfl ?_
  refine g_istore (n := 1990) (ls' := [_, _, _, _, _, _, _]) C dL_law_1988 rfl (by decide) rfl ?_
  refine g_aload_n (n := 1991) C dL_law_1990 rfl (Or.inr ⟨_, rfl⟩) rfl ?_
  refine g_V (n := 1994) (rest := []) C ((k6_thrown hE hl hm3).fr (Lc1 ++ [q9])) dL_law_1991 kM_X6_thrown kL_L_113 kV_X6_thrown (hm3.1.of (List.mem_append_left _ hm3.1.1) rfl) rfl rfl rfl (Nat.le_of_ble_eq_true rfl) ⟨by decide, by decide⟩ ⟨by show ce + 2 + 0 + 0 ≤ 601024; omega, by show sl + 12 + 0 + 0 ≤ 7293034; omega⟩ rfl (fun v6 L6 f6 hq => ?_)
  obtain ⟨L3, f3, ⟨rfl, rfl, rfl⟩, rfl, e5, e6⟩ := hq
  have hm4 := hm3.ext (fun a ha => (e5 a ha).1)
  obtain ⟨h27, hg1, hcw⟩ := hall bq Aq Iq hrq
  have hfx : ∀ a, a ∈ Lc1 ++ [q9] → f6 a = f1 a := fun a ha => (e6 a ha).trans ((e4 a ha).trans (e1 a ha).1)
  have ho6 := (hfx q9 (List.mem_append_right _ List.mem_cons_self)).trans ho1
  refine G.sk (st' := [_]) rfl ?_
  refine g_iload (n := 1996) C dL_law_1994 rfl rfl ?_
  refine g_icmp_eq (n := 1999) (tgt := 2001) C dL_law_1996 (by decide) rfl (fun h1996 => ?_) (fun h1996 => absurd h27 h1996)
  refine g_iload (n := 2003) C dL_law_2001 rfl rfl ?_
  refine g_if_ne (n := 2006) (tgt := 2018) C dL_law_2003 (by decide) rfl (fun h2003 => ?_) (fun h2003 => ?_)
  · refine g_goto (tgt := 2021) C dL_law_2018 (by decide) ?_
    refine G.swap ?_
    refine G.weak (ls' := [some (.ref b9), some (.ref (bk 0)), some (.ref mo), some (.ref q9), some (.int (nI (4 * j))), none, none]) ?_ rfl lw_weak
    refine G.mono (ce' := ce + 57) (sl' := sl + 474) (by omega) (by omega) (kk Lc1 f6 Aq Iq ⟨hcw.ext (fun a ha => hfx a (List.mem_append_left _ ha)), ⟨g1, ho6⟩, ad, hm4⟩)
  · have hw0 : w = 0 := gn_inj (by omega) (by omega) h2003
    refine g_aload_n (n := 2007) C dL_law_2006 rfl (Or.inr ⟨_, rfl⟩) rfl ?_
    refine g_iconst (n := 2008) (v := nI 0) C dL_law_2007 rfl rfl ?_
    refine g_lald (n := 2009) C dL_law_2008 (⟨List.mem_append_right _ (List.mem_append_right _ List.mem_cons_self), ho6⟩ : gH (Lm ++ (Lc1 ++ [q9])) f6 q9 (.inl (cy 2, 1, .inr (.inl g1)))) rfl (by omega) (by decide) rfl ?_
    refine g_iload (n := 2011) C dL_law_2009 rfl rfl ?_
    refine g_i2l (n := 2012) C dL_law_2011 rfl ?_
    refine g_lcmp (n := 2013) C dL_law_2012 (hg1 hw0) rfl ?_
    refine g_if_eq (n := 2016) (tgt := 2018) C dL_law_2013 (by decide) rfl (fun h2013 => ?_) (fun h2013 => absurd rfl h2013)
    refine g_goto (tgt := 2021) C dL_law_2018 (by decide) ?_
    refine G.swap ?_
    refine G.weak (ls' := [some (.ref b9), some (.ref (bk 0)), some (.ref mo), some (.ref q9), some (.int (nI (4 * j))), none, none]) ?_ rfl lw_weak
    refine G.mono (ce' := ce + 57) (sl' := sl + 474) (by omega) (by omega) (kk Lc1 f6 Aq Iq ⟨hcw.ext (fun a ha => hfx a (List.mem_append_left _ ha)), ⟨g1, ho6⟩, ad, hm4⟩)
end LCASE

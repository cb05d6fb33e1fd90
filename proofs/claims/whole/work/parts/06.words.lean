set_option maxRecDepth 100000 in
theorem uX0 : ∀ w ∈ u_ws RX0 TX0 3, w ∈ lw_tbl ∧ (w.onTables && w.keepsFace) = true := by decide +kernel
set_option maxRecDepth 100000 in
theorem uX1 : ∀ w ∈ u_ws RX1 TX1 3, w ∈ lw_tbl ∧ (w.onTables && w.keepsFace) = true := by decide +kernel
set_option maxRecDepth 100000 in
theorem uX2 : ∀ w ∈ u_ws RX2 TX2 8, w ∈ lw_tbl ∧ (w.onTables && w.keepsFace) = true := by decide +kernel
set_option maxRecDepth 100000 in
theorem uX3 : ∀ w ∈ u_ws RX3 TX3 3, w ∈ lw_tbl ∧ (w.onTables && w.keepsFace) = true := by decide +kernel
set_option maxRecDepth 100000 in
theorem uX4 : ∀ w ∈ u_ws RX4 TX4 2, w ∈ lw_tbl ∧ (w.onTables && w.keepsFace) = true := by decide +kernel
set_option maxRecDepth 100000 in
theorem uX5 : ∀ w ∈ u_ws RX5 TX5 8, w ∈ lw_tbl ∧ (w.onTables && w.keepsFace) = true := by decide +kernel
set_option maxRecDepth 100000 in
theorem uX6 : ∀ w ∈ u_ws RX6 TX6 32, w ∈ lw_tbl ∧ (w.onTables && w.keepsFace) = true := by decide +kernel
theorem kF_X5_9 : gwF RX5 9 5 0 := ⟨RX5, TX5, 8, rfl, by decide, uX5, Or.inl (List.mem_of_getElem? (i := 151) (by decide +kernel))⟩
theorem kP_X5_9 : gwP RX5 9 5 0 true (tyX5 0) := ⟨RX5, TX5, 8, tyX5, rfl, by decide, uX5, tyX5_ok, nmX5, rfl, tyX5_ok 0 (by decide), fun h => (by exact rfl), Or.inl (List.mem_of_getElem? (i := 151) (by decide +kernel))⟩
theorem kF_X5_15 : gwF RX5 15 5 1 := ⟨RX5, TX5, 8, rfl, by decide, uX5, Or.inl (List.mem_of_getElem? (i := 152) (by decide +kernel))⟩
theorem kP_X5_15 : gwP RX5 15 5 1 true (tyX5 1) := ⟨RX5, TX5, 8, tyX5, rfl, by decide, uX5, tyX5_ok, nmX5, rfl, tyX5_ok 1 (by decide), fun h => (by exact rfl), Or.inl (List.mem_of_getElem? (i := 152) (by decide +kernel))⟩
theorem kF_X5_20 : gwF RX5 20 5 2 := ⟨RX5, TX5, 8, rfl, by decide, uX5, Or.inl (List.mem_of_getElem? (i := 153) (by decide +kernel))⟩
theorem kP_X5_20 : gwP RX5 20 5 2 true (tyX5 2) := ⟨RX5, TX5, 8, tyX5, rfl, by decide, uX5, tyX5_ok, nmX5, rfl, tyX5_ok 2 (by decide), fun h => (by exact rfl), Or.inl (List.mem_of_getElem? (i := 153) (by decide +kernel))⟩
theorem kF_X5_26 : gwF RX5 26 5 3 := ⟨RX5, TX5, 8, rfl, by decide, uX5, Or.inl (List.mem_of_getElem? (i := 154) (by decide +kernel))⟩
theorem kP_X5_26 : gwP RX5 26 5 3 true (tyX5 3) := ⟨RX5, TX5, 8, tyX5, rfl, by decide, uX5, tyX5_ok, nmX5, rfl, tyX5_ok 3 (by decide), fun h => (by exact rfl), Or.inl (List.mem_of_getElem? (i := 154) (by decide +kernel))⟩
theorem kF_X5_33 : gwF RX5 33 5 4 := ⟨RX5, TX5, 8, rfl, by decide, uX5, Or.inl (List.mem_of_getElem? (i := 155) (by decide +kernel))⟩
theorem kP_X5_33 : gwP RX5 33 5 4 true (tyX5 4) := ⟨RX5, TX5, 8, tyX5, rfl, by decide, uX5, tyX5_ok, nmX5, rfl, tyX5_ok 4 (by decide), fun h => (by exact rfl), Or.inl (List.mem_of_getElem? (i := 155) (by decide +kernel))⟩
theorem kF_X5_40 : gwF RX5 40 5 5 := ⟨RX5, TX5, 8, rfl, by decide, uX5, Or.inl (List.mem_of_getElem? (i := 156) (by decide +kernel))⟩
theorem kP_X5_40 : gwP RX5 40 5 5 true (tyX5 5) := ⟨RX5, TX5, 8, tyX5, rfl, by decide, uX5, tyX5_ok, nmX5, rfl, tyX5_ok 5 (by decide), fun h => (by exact rfl), Or.inl (List.mem_of_getElem? (i := 156) (by decide +kernel))⟩
theorem kF_X5_63 : gwF RX5 63 3 2 := ⟨RX3, TX3, 3, rfl, by decide, uX3, Or.inr ⟨"LayeredImages", (List.mem_of_getElem? (i := 128) (by decide +kernel))⟩⟩
theorem kP_X5_63 : gwP RX5 63 3 2 false (tyX3 2) := ⟨RX3, TX3, 3, tyX3, rfl, by decide, uX3, tyX3_ok, nmX3, rfl, tyX3_ok 2 (by decide), fun h => (by exact absurd h (by decide)), Or.inr ⟨rfl, "LayeredImages", (List.mem_of_getElem? (i := 128) (by decide +kernel))⟩⟩
theorem kF_X5_92 : gwF RX5 92 3 1 := ⟨RX3, TX3, 3, rfl, by decide, uX3, Or.inr ⟨"LayeredImages", (List.mem_of_getElem? (i := 125) (by decide +kernel))⟩⟩
theorem kP_X5_92 : gwP RX5 92 3 1 false (tyX3 1) := ⟨RX3, TX3, 3, tyX3, rfl, by decide, uX3, tyX3_ok, nmX3, rfl, tyX3_ok 1 (by decide), fun h => (by exact absurd h (by decide)), Or.inr ⟨rfl, "LayeredImages", (List.mem_of_getElem? (i := 125) (by decide +kernel))⟩⟩
theorem kF_X5_103 : gwF RX5 103 2 0 := ⟨RX2, TX2, 8, rfl, by decide, uX2, Or.inr ⟨"LayeredImages", (List.mem_of_getElem? (i := 484) (by decide +kernel))⟩⟩
theorem kF_X5_110 : gwF RX5 110 0 2 := ⟨RX0, TX0, 3, rfl, by decide, uX0, Or.inr ⟨"LayeredImages", (List.mem_of_getElem? (i := 139) (by decide +kernel))⟩⟩
theorem kP_X5_110 : gwP RX5 110 0 2 false (tyX0 2) := ⟨RX0, TX0, 3, tyX0, rfl, by decide, uX0, tyX0_ok, nmX0, rfl, tyX0_ok 2 (by decide), fun h => (by exact absurd h (by decide)), Or.inr ⟨rfl, "LayeredImages", (List.mem_of_getElem? (i := 139) (by decide +kernel))⟩⟩
theorem kF_X5_166 : gwF RX5 166 5 6 := ⟨RX5, TX5, 8, rfl, by decide, uX5, Or.inl (List.mem_of_getElem? (i := 157) (by decide +kernel))⟩
theorem kP_X5_166 : gwP RX5 166 5 6 false (tyX5 6) := ⟨RX5, TX5, 8, tyX5, rfl, by decide, uX5, tyX5_ok, nmX5, rfl, tyX5_ok 6 (by decide), fun h => (by exact absurd h (by decide)), Or.inl (List.mem_of_getElem? (i := 157) (by decide +kernel))⟩
theorem kF_X5_169 : gwF RX5 169 5 7 := ⟨RX5, TX5, 8, rfl, by decide, uX5, Or.inl (List.mem_of_getElem? (i := 158) (by decide +kernel))⟩
theorem kP_X5_169 : gwP RX5 169 5 7 false (tyX5 7) := ⟨RX5, TX5, 8, tyX5, rfl, by decide, uX5, tyX5_ok, nmX5, rfl, tyX5_ok 7 (by decide), fun h => (by exact absurd h (by decide)), Or.inl (List.mem_of_getElem? (i := 158) (by decide +kernel))⟩
theorem kF_X5_192 : gwF RX5 192 2 2 := ⟨RX2, TX2, 8, rfl, by decide, uX2, Or.inr ⟨"LayeredImages", (List.mem_of_getElem? (i := 489) (by decide +kernel))⟩⟩
theorem kF_X5_215 : gwF RX5 215 4 1 := ⟨RX4, TX4, 2, rfl, by decide, uX4, Or.inr ⟨"LayeredImages", (List.mem_of_getElem? (i := 102) (by decide +kernel))⟩⟩
theorem kP_X5_215 : gwP RX5 215 4 1 false (tyX4 1) := ⟨RX4, TX4, 2, tyX4, rfl, by decide, uX4, tyX4_ok, nmX4, rfl, tyX4_ok 1 (by decide), fun h => (by exact absurd h (by decide)), Or.inr ⟨rfl, "LayeredImages", (List.mem_of_getElem? (i := 102) (by decide +kernel))⟩⟩
theorem kF_X5_234 : gwF RX5 234 2 1 := ⟨RX2, TX2, 8, rfl, by decide, uX2, Or.inr ⟨"LayeredImages", (List.mem_of_getElem? (i := 487) (by decide +kernel))⟩⟩
theorem kF_X0_10 : gwF RX0 10 0 0 := ⟨RX0, TX0, 3, rfl, by decide, uX0, Or.inl (List.mem_of_getElem? (i := 136) (by decide +kernel))⟩
theorem kP_X0_10 : gwP RX0 10 0 0 true (tyX0 0) := ⟨RX0, TX0, 3, tyX0, rfl, by decide, uX0, tyX0_ok, nmX0, rfl, tyX0_ok 0 (by decide), fun h => (by exact rfl), Or.inl (List.mem_of_getElem? (i := 136) (by decide +kernel))⟩
theorem kF_X0_20 : gwF RX0 20 0 1 := ⟨RX0, TX0, 3, rfl, by decide, uX0, Or.inl (List.mem_of_getElem? (i := 137) (by decide +kernel))⟩
theorem kP_X0_20 : gwP RX0 20 0 1 false (tyX0 1) := ⟨RX0, TX0, 3, tyX0, rfl, by decide, uX0, tyX0_ok, nmX0, rfl, tyX0_ok 1 (by decide), fun h => (by exact absurd h (by decide)), Or.inl (List.mem_of_getElem? (i := 137) (by decide +kernel))⟩
theorem kF_X0_24 : gwF RX0 24 0 2 := ⟨RX0, TX0, 3, rfl, by decide, uX0, Or.inl (List.mem_of_getElem? (i := 138) (by decide +kernel))⟩
theorem kP_X0_24 : gwP RX0 24 0 2 false (tyX0 2) := ⟨RX0, TX0, 3, tyX0, rfl, by decide, uX0, tyX0_ok, nmX0, rfl, tyX0_ok 2 (by decide), fun h => (by exact absurd h (by decide)), Or.inl (List.mem_of_getElem? (i := 138) (by decide +kernel))⟩
theorem kF_X0_28 : gwF RX0 28 3 2 := ⟨RX3, TX3, 3, rfl, by decide, uX3, Or.inr ⟨"LayeredImages", (List.mem_of_getElem? (i := 126) (by decide +kernel))⟩⟩
theorem kP_X0_28 : gwP RX0 28 3 2 false (tyX3 2) := ⟨RX3, TX3, 3, tyX3, rfl, by decide, uX3, tyX3_ok, nmX3, rfl, tyX3_ok 2 (by decide), fun h => (by exact absurd h (by decide)), Or.inr ⟨rfl, "LayeredImages", (List.mem_of_getElem? (i := 126) (by decide +kernel))⟩⟩
theorem kF_X1_9 : gwF RX1 9 1 0 := ⟨RX1, TX1, 3, rfl, by decide, uX1, Or.inl (List.mem_of_getElem? (i := 371) (by decide +kernel))⟩
theorem kP_X1_9 : gwP RX1 9 1 0 true (tyX1 0) := ⟨RX1, TX1, 3, tyX1, rfl, by decide, uX1, tyX1_ok, nmX1, rfl, tyX1_ok 0 (by decide), fun h => (by exact rfl), Or.inl (List.mem_of_getElem? (i := 371) (by decide +kernel))⟩
theorem kF_X1_15 : gwF RX1 15 1 1 := ⟨RX1, TX1, 3, rfl, by decide, uX1, Or.inl (List.mem_of_getElem? (i := 372) (by decide +kernel))⟩
theorem kP_X1_15 : gwP RX1 15 1 1 true (tyX1 1) := ⟨RX1, TX1, 3, tyX1, rfl, by decide, uX1, tyX1_ok, nmX1, rfl, tyX1_ok 1 (by decide), fun h => (by exact rfl), Or.inl (List.mem_of_getElem? (i := 372) (by decide +kernel))⟩
theorem kF_X1_18 : gwF RX1 18 1 2 := ⟨RX1, TX1, 3, rfl, by decide, uX1, Or.inl (List.mem_of_getElem? (i := 373) (by decide +kernel))⟩
theorem kP_X1_18 : gwP RX1 18 1 2 true (tyX1 2) := ⟨RX1, TX1, 3, tyX1, rfl, by decide, uX1, tyX1_ok, nmX1, rfl, tyX1_ok 2 (by decide), fun h => (by exact rfl), Or.inl (List.mem_of_getElem? (i := 373) (by decide +kernel))⟩
theorem kF_X2_9 : gwF RX2 9 2 3 := ⟨RX2, TX2, 8, rfl, by decide, uX2, Or.inl (List.mem_of_getElem? (i := 490) (by decide +kernel))⟩
theorem kP_X2_9 : gwP RX2 9 2 3 true (tyX2 3) := ⟨RX2, TX2, 8, tyX2, rfl, by decide, uX2, tyX2_ok, nmX2, rfl, tyX2_ok 3 (by decide), fun h => (by exact rfl), Or.inl (List.mem_of_getElem? (i := 490) (by decide +kernel))⟩
theorem kF_X2_15 : gwF RX2 15 2 4 := ⟨RX2, TX2, 8, rfl, by decide, uX2, Or.inl (List.mem_of_getElem? (i := 491) (by decide +kernel))⟩
theorem kP_X2_15 : gwP RX2 15 2 4 true (tyX2 4) := ⟨RX2, TX2, 8, tyX2, rfl, by decide, uX2, tyX2_ok, nmX2, rfl, tyX2_ok 4 (by decide), fun h => (by exact rfl), Or.inl (List.mem_of_getElem? (i := 491) (by decide +kernel))⟩
theorem kF_X2_18 : gwF RX2 18 2 5 := ⟨RX2, TX2, 8, rfl, by decide, uX2, Or.inl (List.mem_of_getElem? (i := 492) (by decide +kernel))⟩
theorem kP_X2_18 : gwP RX2 18 2 5 true (tyX2 5) := ⟨RX2, TX2, 8, tyX2, rfl, by decide, uX2, tyX2_ok, nmX2, rfl, tyX2_ok 5 (by decide), fun h => (by exact rfl), Or.inl (List.mem_of_getElem? (i := 492) (by decide +kernel))⟩
theorem kF_X2_21 : gwF RX2 21 2 7 := ⟨RX2, TX2, 8, rfl, by decide, uX2, Or.inl (List.mem_of_getElem? (i := 494) (by decide +kernel))⟩
theorem kP_X2_21 : gwP RX2 21 2 7 false (tyX2 7) := ⟨RX2, TX2, 8, tyX2, rfl, by decide, uX2, tyX2_ok, nmX2, rfl, tyX2_ok 7 (by decide), fun h => (by exact absurd h (by decide)), Or.inl (List.mem_of_getElem? (i := 494) (by decide +kernel))⟩
theorem kF_X2_25 : gwF RX2 25 2 0 := ⟨RX2, TX2, 8, rfl, by decide, uX2, Or.inl (List.mem_of_getElem? (i := 482) (by decide +kernel))⟩
theorem kP_X2_25 : gwP RX2 25 2 0 true (tyX2 0) := ⟨RX2, TX2, 8, tyX2, rfl, by decide, uX2, tyX2_ok, nmX2, rfl, tyX2_ok 0 (by decide), fun h => (by exact rfl), Or.inl (List.mem_of_getElem? (i := 482) (by decide +kernel))⟩
theorem kF_X2_28 : gwF RX2 28 2 1 := ⟨RX2, TX2, 8, rfl, by decide, uX2, Or.inl (List.mem_of_getElem? (i := 485) (by decide +kernel))⟩
theorem kP_X2_28 : gwP RX2 28 2 1 true (tyX2 1) := ⟨RX2, TX2, 8, tyX2, rfl, by decide, uX2, tyX2_ok, nmX2, rfl, tyX2_ok 1 (by decide), fun h => (by exact rfl), Or.inl (List.mem_of_getElem? (i := 485) (by decide +kernel))⟩
theorem kF_X2_32 : gwF RX2 32 2 2 := ⟨RX2, TX2, 8, rfl, by decide, uX2, Or.inl (List.mem_of_getElem? (i := 488) (by decide +kernel))⟩
theorem kP_X2_32 : gwP RX2 32 2 2 true (tyX2 2) := ⟨RX2, TX2, 8, tyX2, rfl, by decide, uX2, tyX2_ok, nmX2, rfl, tyX2_ok 2 (by decide), fun h => (by exact rfl), Or.inl (List.mem_of_getElem? (i := 488) (by decide +kernel))⟩
theorem kF_X2_39 : gwF RX2 39 2 6 := ⟨RX2, TX2, 8, rfl, by decide, uX2, Or.inl (List.mem_of_getElem? (i := 493) (by decide +kernel))⟩
theorem kP_X2_39 : gwP RX2 39 2 6 false (tyX2 6) := ⟨RX2, TX2, 8, tyX2, rfl, by decide, uX2, tyX2_ok, nmX2, rfl, tyX2_ok 6 (by decide), fun h => (by exact absurd h (by decide)), Or.inl (List.mem_of_getElem? (i := 493) (by decide +kernel))⟩
theorem kF_X3_11 : gwF RX3 11 3 0 := ⟨RX3, TX3, 3, rfl, by decide, uX3, Or.inl (List.mem_of_getElem? (i := 123) (by decide +kernel))⟩
theorem kP_X3_11 : gwP RX3 11 3 0 true (tyX3 0) := ⟨RX3, TX3, 3, tyX3, rfl, by decide, uX3, tyX3_ok, nmX3, rfl, tyX3_ok 0 (by decide), fun h => (by exact rfl), Or.inl (List.mem_of_getElem? (i := 123) (by decide +kernel))⟩
theorem kF_X3_21 : gwF RX3 21 3 1 := ⟨RX3, TX3, 3, rfl, by decide, uX3, Or.inl (List.mem_of_getElem? (i := 124) (by decide +kernel))⟩
theorem kP_X3_21 : gwP RX3 21 3 1 false (tyX3 1) := ⟨RX3, TX3, 3, tyX3, rfl, by decide, uX3, tyX3_ok, nmX3, rfl, tyX3_ok 1 (by decide), fun h => (by exact absurd h (by decide)), Or.inl (List.mem_of_getElem? (i := 124) (by decide +kernel))⟩
theorem kF_X3_25 : gwF RX3 25 3 2 := ⟨RX3, TX3, 3, rfl, by decide, uX3, Or.inl (List.mem_of_getElem? (i := 127) (by decide +kernel))⟩
theorem kP_X3_25 : gwP RX3 25 3 2 false (tyX3 2) := ⟨RX3, TX3, 3, tyX3, rfl, by decide, uX3, tyX3_ok, nmX3, rfl, tyX3_ok 2 (by decide), fun h => (by exact absurd h (by decide)), Or.inl (List.mem_of_getElem? (i := 127) (by decide +kernel))⟩
theorem kF_X4_11 : gwF RX4 11 4 0 := ⟨RX4, TX4, 2, rfl, by decide, uX4, Or.inl (List.mem_of_getElem? (i := 100) (by decide +kernel))⟩
theorem kP_X4_11 : gwP RX4 11 4 0 true (tyX4 0) := ⟨RX4, TX4, 2, tyX4, rfl, by decide, uX4, tyX4_ok, nmX4, rfl, tyX4_ok 0 (by decide), fun h => (by exact rfl), Or.inl (List.mem_of_getElem? (i := 100) (by decide +kernel))⟩
theorem kF_X4_21 : gwF RX4 21 4 1 := ⟨RX4, TX4, 2, rfl, by decide, uX4, Or.inl (List.mem_of_getElem? (i := 101) (by decide +kernel))⟩
theorem kP_X4_21 : gwP RX4 21 4 1 false (tyX4 1) := ⟨RX4, TX4, 2, tyX4, rfl, by decide, uX4, tyX4_ok, nmX4, rfl, tyX4_ok 1 (by decide), fun h => (by exact absurd h (by decide)), Or.inl (List.mem_of_getElem? (i := 101) (by decide +kernel))⟩
theorem kF_X4_33 : gwF RX4 33 2 0 := ⟨RX2, TX2, 8, rfl, by decide, uX2, Or.inr ⟨"LayeredImages", (List.mem_of_getElem? (i := 483) (by decide +kernel))⟩⟩
theorem kF_X4_36 : gwF RX4 36 2 1 := ⟨RX2, TX2, 8, rfl, by decide, uX2, Or.inr ⟨"LayeredImages", (List.mem_of_getElem? (i := 486) (by decide +kernel))⟩⟩
theorem kF_X6_7 : gwF RX6 7 6 0 := ⟨RX6, TX6, 32, rfl, by decide, uX6, Or.inl (List.mem_of_getElem? (i := 791) (by decide +kernel))⟩
theorem kP_X6_7 : gwP RX6 7 6 0 true (tyX6 0) := ⟨RX6, TX6, 32, tyX6, rfl, by decide, uX6, tyX6_ok, nmX6, rfl, tyX6_ok 0 (by decide), fun h => (by exact rfl), Or.inl (List.mem_of_getElem? (i := 791) (by decide +kernel))⟩
theorem kF_X6_13 : gwF RX6 13 6 1 := ⟨RX6, TX6, 32, rfl, by decide, uX6, Or.inl (List.mem_of_getElem? (i := 792) (by decide +kernel))⟩
theorem kP_X6_13 : gwP RX6 13 6 1 true (tyX6 1) := ⟨RX6, TX6, 32, tyX6, rfl, by decide, uX6, tyX6_ok, nmX6, rfl, tyX6_ok 1 (by decide), fun h => (by exact rfl), Or.inl (List.mem_of_getElem? (i := 792) (by decide +kernel))⟩
theorem kF_X6_16 : gwF RX6 16 6 2 := ⟨RX6, TX6, 32, rfl, by decide, uX6, Or.inl (List.mem_of_getElem? (i := 793) (by decide +kernel))⟩
theorem kP_X6_16 : gwP RX6 16 6 2 true (tyX6 2) := ⟨RX6, TX6, 32, tyX6, rfl, by decide, uX6, tyX6_ok, nmX6, rfl, tyX6_ok 2 (by decide), fun h => (by exact rfl), Or.inl (List.mem_of_getElem? (i := 793) (by decide +kernel))⟩
theorem kF_X6_19 : gwF RX6 19 6 3 := ⟨RX6, TX6, 32, rfl, by decide, uX6, Or.inl (List.mem_of_getElem? (i := 794) (by decide +kernel))⟩
theorem kP_X6_19 : gwP RX6 19 6 3 true (tyX6 3) := ⟨RX6, TX6, 32, tyX6, rfl, by decide, uX6, tyX6_ok, nmX6, rfl, tyX6_ok 3 (by decide), fun h => (by exact rfl), Or.inl (List.mem_of_getElem? (i := 794) (by decide +kernel))⟩
theorem kF_X6_22 : gwF RX6 22 6 4 := ⟨RX6, TX6, 32, rfl, by decide, uX6, Or.inl (List.mem_of_getElem? (i := 795) (by decide +kernel))⟩
theorem kP_X6_22 : gwP RX6 22 6 4 true (tyX6 4) := ⟨RX6, TX6, 32, tyX6, rfl, by decide, uX6, tyX6_ok, nmX6, rfl, tyX6_ok 4 (by decide), fun h => (by exact rfl), Or.inl (List.mem_of_getElem? (i := 795) (by decide +kernel))⟩
theorem kF_X6_25 : gwF RX6 25 6 5 := ⟨RX6, TX6, 32, rfl, by decide, uX6, Or.inl (List.mem_of_getElem? (i := 796) (by decide +kernel))⟩
theorem kP_X6_25 : gwP RX6 25 6 5 true (tyX6 5) := ⟨RX6, TX6, 32, tyX6, rfl, by decide, uX6, tyX6_ok, nmX6, rfl, tyX6_ok 5 (by decide), fun h => (by exact rfl), Or.inl (List.mem_of_getElem? (i := 796) (by decide +kernel))⟩
theorem kF_X6_28 : gwF RX6 28 6 6 := ⟨RX6, TX6, 32, rfl, by decide, uX6, Or.inl (List.mem_of_getElem? (i := 797) (by decide +kernel))⟩
theorem kP_X6_28 : gwP RX6 28 6 6 true (tyX6 6) := ⟨RX6, TX6, 32, tyX6, rfl, by decide, uX6, tyX6_ok, nmX6, rfl, tyX6_ok 6 (by decide), fun h => (by exact rfl), Or.inl (List.mem_of_getElem? (i := 797) (by decide +kernel))⟩
theorem kF_X6_31 : gwF RX6 31 6 8 := ⟨RX6, TX6, 32, rfl, by decide, uX6, Or.inl (List.mem_of_getElem? (i := 799) (by decide +kernel))⟩
theorem kP_X6_31 : gwP RX6 31 6 8 true (tyX6 8) := ⟨RX6, TX6, 32, tyX6, rfl, by decide, uX6, tyX6_ok, nmX6, rfl, tyX6_ok 8 (by decide), fun h => (by exact rfl), Or.inl (List.mem_of_getElem? (i := 799) (by decide +kernel))⟩
theorem kF_X6_35 : gwF RX6 35 6 9 := ⟨RX6, TX6, 32, rfl, by decide, uX6, Or.inl (List.mem_of_getElem? (i := 800) (by decide +kernel))⟩
theorem kP_X6_35 : gwP RX6 35 6 9 true (tyX6 9) := ⟨RX6, TX6, 32, tyX6, rfl, by decide, uX6, tyX6_ok, nmX6, rfl, tyX6_ok 9 (by decide), fun h => (by exact rfl), Or.inl (List.mem_of_getElem? (i := 800) (by decide +kernel))⟩
theorem kF_X6_38 : gwF RX6 38 6 10 := ⟨RX6, TX6, 32, rfl, by decide, uX6, Or.inl (List.mem_of_getElem? (i := 801) (by decide +kernel))⟩
theorem kP_X6_38 : gwP RX6 38 6 10 true (tyX6 10) := ⟨RX6, TX6, 32, tyX6, rfl, by decide, uX6, tyX6_ok, nmX6, rfl, tyX6_ok 10 (by decide), fun h => (by exact rfl), Or.inl (List.mem_of_getElem? (i := 801) (by decide +kernel))⟩
theorem kF_X6_41 : gwF RX6 41 6 11 := ⟨RX6, TX6, 32, rfl, by decide, uX6, Or.inl (List.mem_of_getElem? (i := 802) (by decide +kernel))⟩
theorem kP_X6_41 : gwP RX6 41 6 11 true (tyX6 11) := ⟨RX6, TX6, 32, tyX6, rfl, by decide, uX6, tyX6_ok, nmX6, rfl, tyX6_ok 11 (by decide), fun h => (by exact rfl), Or.inl (List.mem_of_getElem? (i := 802) (by decide +kernel))⟩
theorem kF_X6_44 : gwF RX6 44 6 12 := ⟨RX6, TX6, 32, rfl, by decide, uX6, Or.inl (List.mem_of_getElem? (i := 803) (by decide +kernel))⟩
theorem kP_X6_44 : gwP RX6 44 6 12 true (tyX6 12) := ⟨RX6, TX6, 32, tyX6, rfl, by decide, uX6, tyX6_ok, nmX6, rfl, tyX6_ok 12 (by decide), fun h => (by exact rfl), Or.inl (List.mem_of_getElem? (i := 803) (by decide +kernel))⟩
theorem kF_X6_47 : gwF RX6 47 6 13 := ⟨RX6, TX6, 32, rfl, by decide, uX6, Or.inl (List.mem_of_getElem? (i := 804) (by decide +kernel))⟩
theorem kP_X6_47 : gwP RX6 47 6 13 true (tyX6 13) := ⟨RX6, TX6, 32, tyX6, rfl, by decide, uX6, tyX6_ok, nmX6, rfl, tyX6_ok 13 (by decide), fun h => (by exact rfl), Or.inl (List.mem_of_getElem? (i := 804) (by decide +kernel))⟩
theorem kF_X6_50 : gwF RX6 50 6 14 := ⟨RX6, TX6, 32, rfl, by decide, uX6, Or.inl (List.mem_of_getElem? (i := 805) (by decide +kernel))⟩
theorem kP_X6_50 : gwP RX6 50 6 14 true (tyX6 14) := ⟨RX6, TX6, 32, tyX6, rfl, by decide, uX6, tyX6_ok, nmX6, rfl, tyX6_ok 14 (by decide), fun h => (by exact rfl), Or.inl (List.mem_of_getElem? (i := 805) (by decide +kernel))⟩
theorem kF_X6_53 : gwF RX6 53 6 15 := ⟨RX6, TX6, 32, rfl, by decide, uX6, Or.inl (List.mem_of_getElem? (i := 806) (by decide +kernel))⟩
theorem kP_X6_53 : gwP RX6 53 6 15 true (tyX6 15) := ⟨RX6, TX6, 32, tyX6, rfl, by decide, uX6, tyX6_ok, nmX6, rfl, tyX6_ok 15 (by decide), fun h => (by exact rfl), Or.inl (List.mem_of_getElem? (i := 806) (by decide +kernel))⟩
theorem kF_X6_56 : gwF RX6 56 6 16 := ⟨RX6, TX6, 32, rfl, by decide, uX6, Or.inl (List.mem_of_getElem? (i := 807) (by decide +kernel))⟩
theorem kP_X6_56 : gwP RX6 56 6 16 true (tyX6 16) := ⟨RX6, TX6, 32, tyX6, rfl, by decide, uX6, tyX6_ok, nmX6, rfl, tyX6_ok 16 (by decide), fun h => (by exact rfl), Or.inl (List.mem_of_getElem? (i := 807) (by decide +kernel))⟩
theorem kF_X6_59 : gwF RX6 59 6 21 := ⟨RX6, TX6, 32, rfl, by decide, uX6, Or.inl (List.mem_of_getElem? (i := 812) (by decide +kernel))⟩
theorem kP_X6_59 : gwP RX6 59 6 21 true (tyX6 21) := ⟨RX6, TX6, 32, tyX6, rfl, by decide, uX6, tyX6_ok, nmX6, rfl, tyX6_ok 21 (by decide), fun h => (by exact rfl), Or.inl (List.mem_of_getElem? (i := 812) (by decide +kernel))⟩
theorem kF_X6_62 : gwF RX6 62 6 22 := ⟨RX6, TX6, 32, rfl, by decide, uX6, Or.inl (List.mem_of_getElem? (i := 813) (by decide +kernel))⟩
theorem kP_X6_62 : gwP RX6 62 6 22 true (tyX6 22) := ⟨RX6, TX6, 32, tyX6, rfl, by decide, uX6, tyX6_ok, nmX6, rfl, tyX6_ok 22 (by decide), fun h => (by exact rfl), Or.inl (List.mem_of_getElem? (i := 813) (by decide +kernel))⟩
theorem kF_X6_65 : gwF RX6 65 6 23 := ⟨RX6, TX6, 32, rfl, by decide, uX6, Or.inl (List.mem_of_getElem? (i := 814) (by decide +kernel))⟩
theorem kP_X6_65 : gwP RX6 65 6 23 true (tyX6 23) := ⟨RX6, TX6, 32, tyX6, rfl, by decide, uX6, tyX6_ok, nmX6, rfl, tyX6_ok 23 (by decide), fun h => (by exact rfl), Or.inl (List.mem_of_getElem? (i := 814) (by decide +kernel))⟩
theorem kF_X6_68 : gwF RX6 68 6 24 := ⟨RX6, TX6, 32, rfl, by decide, uX6, Or.inl (List.mem_of_getElem? (i := 815) (by decide +kernel))⟩
theorem kP_X6_68 : gwP RX6 68 6 24 false (tyX6 24) := ⟨RX6, TX6, 32, tyX6, rfl, by decide, uX6, tyX6_ok, nmX6, rfl, tyX6_ok 24 (by decide), fun h => (by exact absurd h (by decide)), Or.inl (List.mem_of_getElem? (i := 815) (by decide +kernel))⟩
theorem kF_X6_72 : gwF RX6 72 6 28 := ⟨RX6, TX6, 32, rfl, by decide, uX6, Or.inl (List.mem_of_getElem? (i := 819) (by decide +kernel))⟩
theorem kP_X6_72 : gwP RX6 72 6 28 true (tyX6 28) := ⟨RX6, TX6, 32, tyX6, rfl, by decide, uX6, tyX6_ok, nmX6, rfl, tyX6_ok 28 (by decide), fun h => (by exact rfl), Or.inl (List.mem_of_getElem? (i := 819) (by decide +kernel))⟩
theorem kF_X6_75 : gwF RX6 75 6 29 := ⟨RX6, TX6, 32, rfl, by decide, uX6, Or.inl (List.mem_of_getElem? (i := 820) (by decide +kernel))⟩
theorem kP_X6_75 : gwP RX6 75 6 29 true (tyX6 29) := ⟨RX6, TX6, 32, tyX6, rfl, by decide, uX6, tyX6_ok, nmX6, rfl, tyX6_ok 29 (by decide), fun h => (by exact rfl), Or.inl (List.mem_of_getElem? (i := 820) (by decide +kernel))⟩
theorem kF_X6_78 : gwF RX6 78 6 30 := ⟨RX6, TX6, 32, rfl, by decide, uX6, Or.inl (List.mem_of_getElem? (i := 821) (by decide +kernel))⟩
theorem kP_X6_78 : gwP RX6 78 6 30 true (tyX6 30) := ⟨RX6, TX6, 32, tyX6, rfl, by decide, uX6, tyX6_ok, nmX6, rfl, tyX6_ok 30 (by decide), fun h => (by exact rfl), Or.inl (List.mem_of_getElem? (i := 821) (by decide +kernel))⟩
theorem kF_X6_81 : gwF RX6 81 6 31 := ⟨RX6, TX6, 32, rfl, by decide, uX6, Or.inl (List.mem_of_getElem? (i := 822) (by decide +kernel))⟩
theorem kP_X6_81 : gwP RX6 81 6 31 true (tyX6 31) := ⟨RX6, TX6, 32, tyX6, rfl, by decide, uX6, tyX6_ok, nmX6, rfl, tyX6_ok 31 (by decide), fun h => (by exact rfl), Or.inl (List.mem_of_getElem? (i := 822) (by decide +kernel))⟩
theorem kF_X6_84 : gwF RX6 84 6 27 := ⟨RX6, TX6, 32, rfl, by decide, uX6, Or.inl (List.mem_of_getElem? (i := 818) (by decide +kernel))⟩
theorem kP_X6_84 : gwP RX6 84 6 27 false (tyX6 27) := ⟨RX6, TX6, 32, tyX6, rfl, by decide, uX6, tyX6_ok, nmX6, rfl, tyX6_ok 27 (by decide), fun h => (by exact absurd h (by decide)), Or.inl (List.mem_of_getElem? (i := 818) (by decide +kernel))⟩
theorem kF_X6_102 : gwF RX6 102 6 7 := ⟨RX6, TX6, 32, rfl, by decide, uX6, Or.inl (List.mem_of_getElem? (i := 798) (by decide +kernel))⟩
theorem kP_X6_102 : gwP RX6 102 6 7 false (tyX6 7) := ⟨RX6, TX6, 32, tyX6, rfl, by decide, uX6, tyX6_ok, nmX6, rfl, tyX6_ok 7 (by decide), fun h => (by exact absurd h (by decide)), Or.inl (List.mem_of_getElem? (i := 798) (by decide +kernel))⟩
theorem kF_X6_112 : gwF RX6 112 6 19 := ⟨RX6, TX6, 32, rfl, by decide, uX6, Or.inl (List.mem_of_getElem? (i := 810) (by decide +kernel))⟩
theorem kP_X6_112 : gwP RX6 112 6 19 false (tyX6 19) := ⟨RX6, TX6, 32, tyX6, rfl, by decide, uX6, tyX6_ok, nmX6, rfl, tyX6_ok 19 (by decide), fun h => (by exact absurd h (by decide)), Or.inl (List.mem_of_getElem? (i := 810) (by decide +kernel))⟩
theorem kF_X6_115 : gwF RX6 115 6 20 := ⟨RX6, TX6, 32, rfl, by decide, uX6, Or.inl (List.mem_of_getElem? (i := 811) (by decide +kernel))⟩
theorem kP_X6_115 : gwP RX6 115 6 20 false (tyX6 20) := ⟨RX6, TX6, 32, tyX6, rfl, by decide, uX6, tyX6_ok, nmX6, rfl, tyX6_ok 20 (by decide), fun h => (by exact absurd h (by decide)), Or.inl (List.mem_of_getElem? (i := 811) (by decide +kernel))⟩
theorem kF_X6_118 : gwF RX6 118 6 17 := ⟨RX6, TX6, 32, rfl, by decide, uX6, Or.inl (List.mem_of_getElem? (i := 808) (by decide +kernel))⟩
theorem kP_X6_118 : gwP RX6 118 6 17 false (tyX6 17) := ⟨RX6, TX6, 32, tyX6, rfl, by decide, uX6, tyX6_ok, nmX6, rfl, tyX6_ok 17 (by decide), fun h => (by exact absurd h (by decide)), Or.inl (List.mem_of_getElem? (i := 808) (by decide +kernel))⟩
theorem kF_X6_122 : gwF RX6 122 6 18 := ⟨RX6, TX6, 32, rfl, by decide, uX6, Or.inl (List.mem_of_getElem? (i := 809) (by decide +kernel))⟩
theorem kP_X6_122 : gwP RX6 122 6 18 false (tyX6 18) := ⟨RX6, TX6, 32, tyX6, rfl, by decide, uX6, tyX6_ok, nmX6, rfl, tyX6_ok 18 (by decide), fun h => (by exact absurd h (by decide)), Or.inl (List.mem_of_getElem? (i := 809) (by decide +kernel))⟩
theorem kF_X6_140 : gwF RX6 140 6 25 := ⟨RX6, TX6, 32, rfl, by decide, uX6, Or.inl (List.mem_of_getElem? (i := 816) (by decide +kernel))⟩
theorem kP_X6_140 : gwP RX6 140 6 25 false (tyX6 25) := ⟨RX6, TX6, 32, tyX6, rfl, by decide, uX6, tyX6_ok, nmX6, rfl, tyX6_ok 25 (by decide), fun h => (by exact absurd h (by decide)), Or.inl (List.mem_of_getElem? (i := 816) (by decide +kernel))⟩
theorem kF_X6_143 : gwF RX6 143 6 26 := ⟨RX6, TX6, 32, rfl, by decide, uX6, Or.inl (List.mem_of_getElem? (i := 817) (by decide +kernel))⟩
theorem kP_X6_143 : gwP RX6 143 6 26 false (tyX6 26) := ⟨RX6, TX6, 32, tyX6, rfl, by decide, uX6, tyX6_ok, nmX6, rfl, tyX6_ok 26 (by decide), fun h => (by exact absurd h (by decide)), Or.inl (List.mem_of_getElem? (i := 817) (by decide +kernel))⟩
theorem kM_J7_fill_53178 : gwM yJ7_fill_53178 cJ7_fill_53178 4 none 2 := ⟨(List.mem_of_getElem? (i := 149) (by decide +kernel)), (List.mem_of_getElem? (i := 69) (by decide +kernel)), ⟨by decide +kernel, by decide +kernel⟩, by decide +kernel⟩
theorem kS_J7_fill_53178 : gwS yJ7_fill_53178 := (List.mem_of_getElem? (i := 148) (by decide +kernel))
theorem kM_X0_advanceTo : gwM yX0_advanceTo cX0_advanceTo 2 none 1 := ⟨(List.mem_of_getElem? (i := 613) (by decide +kernel)), (List.mem_of_getElem? (i := 67) (by decide +kernel)), ⟨by decide +kernel, by decide +kernel⟩, by decide +kernel⟩
theorem kV_X0_advanceTo : gwV yX0_advanceTo := ⟨(List.mem_of_getElem? (i := 612) (by decide +kernel)), (List.mem_of_getElem? (i := 36) (by decide +kernel))⟩
theorem kM_X0_begin : gwM yX0_begin cX0_begin 3 none 2 := ⟨(List.mem_of_getElem? (i := 522) (by decide +kernel)), (List.mem_of_getElem? (i := 67) (by decide +kernel)), ⟨by decide +kernel, by decide +kernel⟩, by decide +kernel⟩
theorem kV_X0_begin : gwV yX0_begin := ⟨(List.mem_of_getElem? (i := 521) (by decide +kernel)), (List.mem_of_getElem? (i := 18) (by decide +kernel))⟩
theorem kM_X0_fail : gwM yX0_fail cX0_fail 1 none 0 := ⟨(List.mem_of_getElem? (i := 563) (by decide +kernel)), (List.mem_of_getElem? (i := 67) (by decide +kernel)), ⟨by decide +kernel, by decide +kernel⟩, by decide +kernel⟩
theorem kV_X0_fail : gwV yX0_fail := ⟨(List.mem_of_getElem? (i := 562) (by decide +kernel)), (List.mem_of_getElem? (i := 25) (by decide +kernel))⟩
theorem kM_X0_finished : gwM yX0_finished cX0_finished 1 (some (.object "LayeredImages$Layer")) 0 := ⟨(List.mem_of_getElem? (i := 191) (by decide +kernel)), (List.mem_of_getElem? (i := 67) (by decide +kernel)), ⟨by decide +kernel, by decide +kernel⟩, by decide +kernel⟩
theorem kV_X0_finished : gwV yX0_finished := ⟨(List.mem_of_getElem? (i := 190) (by decide +kernel)), (List.mem_of_getElem? (i := 1) (by decide +kernel))⟩
theorem kM_X0_forget : gwM yX0_forget cX0_forget 2 none 1 := ⟨(List.mem_of_getElem? (i := 713) (by decide +kernel)), (List.mem_of_getElem? (i := 67) (by decide +kernel)), ⟨by decide +kernel, by decide +kernel⟩, by decide +kernel⟩
theorem kV_X0_forget : gwV yX0_forget := ⟨(List.mem_of_getElem? (i := 712) (by decide +kernel)), (List.mem_of_getElem? (i := 44) (by decide +kernel))⟩
theorem kM_X0_goesOn : gwM yX0_goesOn cX0_goesOn 1 (some .boolean) 0 := ⟨(List.mem_of_getElem? (i := 195) (by decide +kernel)), (List.mem_of_getElem? (i := 67) (by decide +kernel)), ⟨by decide +kernel, by decide +kernel⟩, by decide +kernel⟩
theorem kV_X0_goesOn : gwV yX0_goesOn := ⟨(List.mem_of_getElem? (i := 194) (by decide +kernel)), (List.mem_of_getElem? (i := 2) (by decide +kernel))⟩
theorem kM_X0_init : gwM yX0_init cX0_init 1 none 0 := ⟨(List.mem_of_getElem? (i := 113) (by decide +kernel)), (List.mem_of_getElem? (i := 67) (by decide +kernel)), ⟨by decide +kernel, by decide +kernel⟩, by decide +kernel⟩
theorem kI_X0_init : gwI yX0_init := ⟨(List.mem_of_getElem? (i := 112) (by decide +kernel)), rfl⟩
theorem kM_X0_left : gwM yX0_left cX0_left 1 (some .int) 0 := ⟨(List.mem_of_getElem? (i := 183) (by decide +kernel)), (List.mem_of_getElem? (i := 67) (by decide +kernel)), ⟨by decide +kernel, by decide +kernel⟩, by decide +kernel⟩
theorem kV_X0_left : gwV yX0_left := ⟨(List.mem_of_getElem? (i := 182) (by decide +kernel)), (List.mem_of_getElem? (i := 0) (by decide +kernel))⟩
theorem kM_X0_upcoming : gwM yX0_upcoming cX0_upcoming 1 (some (.object "LayeredImages$Instruction")) 0 := ⟨(List.mem_of_getElem? (i := 543) (by decide +kernel)), (List.mem_of_getElem? (i := 67) (by decide +kernel)), ⟨by decide +kernel, by decide +kernel⟩, by decide +kernel⟩
theorem kV_X0_upcoming : gwV yX0_upcoming := ⟨(List.mem_of_getElem? (i := 542) (by decide +kernel)), (List.mem_of_getElem? (i := 21) (by decide +kernel))⟩
theorem kM_X1_carryOut : gwM yX1_carryOut cX1_carryOut 3 none 2 := ⟨(List.mem_of_getElem? (i := 594) (by decide +kernel)), (List.mem_of_getElem? (i := 77) (by decide +kernel)), ⟨by decide +kernel, by decide +kernel⟩, by decide +kernel⟩
theorem kV_X1_carryOut : gwV yX1_carryOut := ⟨(List.mem_of_getElem? (i := 593) (by decide +kernel)), (List.mem_of_getElem? (i := 32) (by decide +kernel))⟩
theorem kM_X1_failsOn : gwM yX1_failsOn cX1_failsOn 3 (some .boolean) 2 := ⟨(List.mem_of_getElem? (i := 554) (by decide +kernel)), (List.mem_of_getElem? (i := 77) (by decide +kernel)), ⟨by decide +kernel, by decide +kernel⟩, by decide +kernel⟩
theorem kV_X1_failsOn : gwV yX1_failsOn := ⟨(List.mem_of_getElem? (i := 553) (by decide +kernel)), (List.mem_of_getElem? (i := 23) (by decide +kernel))⟩
theorem kM_X1_init : gwM yX1_init cX1_init 4 none 3 := ⟨(List.mem_of_getElem? (i := 369) (by decide +kernel)), (List.mem_of_getElem? (i := 77) (by decide +kernel)), ⟨by decide +kernel, by decide +kernel⟩, by decide +kernel⟩
theorem kI_X1_init : gwI yX1_init := ⟨(List.mem_of_getElem? (i := 368) (by decide +kernel)), rfl⟩
theorem kM_X1_inputFrom : gwM yX1_inputFrom cX1_inputFrom 2 (some .int) 1 := ⟨(List.mem_of_getElem? (i := 549) (by decide +kernel)), (List.mem_of_getElem? (i := 77) (by decide +kernel)), ⟨by decide +kernel, by decide +kernel⟩, by decide +kernel⟩
theorem kV_X1_inputFrom : gwV yX1_inputFrom := ⟨(List.mem_of_getElem? (i := 548) (by decide +kernel)), (List.mem_of_getElem? (i := 22) (by decide +kernel))⟩
theorem kM_X1_isSameAs : gwM yX1_isSameAs cX1_isSameAs 2 (some .boolean) 1 := ⟨(List.mem_of_getElem? (i := 579) (by decide +kernel)), (List.mem_of_getElem? (i := 77) (by decide +kernel)), ⟨by decide +kernel, by decide +kernel⟩, by decide +kernel⟩
theorem kV_X1_isSameAs : gwV yX1_isSameAs := ⟨(List.mem_of_getElem? (i := 578) (by decide +kernel)), (List.mem_of_getElem? (i := 29) (by decide +kernel))⟩
theorem kM_X1_runOn : gwM yX1_runOn cX1_runOn 3 (some .int) 2 := ⟨(List.mem_of_getElem? (i := 605) (by decide +kernel)), (List.mem_of_getElem? (i := 77) (by decide +kernel)), ⟨by decide +kernel, by decide +kernel⟩, by decide +kernel⟩
theorem kS_X1_runOn : gwS yX1_runOn := (List.mem_of_getElem? (i := 604) (by decide +kernel))
theorem kM_X2_assign : gwM yX2_assign cX2_assign 3 none 2 := ⟨(List.mem_of_getElem? (i := 609) (by decide +kernel)), (List.mem_of_getElem? (i := 78) (by decide +kernel)), ⟨by decide +kernel, by decide +kernel⟩, by decide +kernel⟩
theorem kV_X2_assign : gwV yX2_assign := ⟨(List.mem_of_getElem? (i := 608) (by decide +kernel)), (List.mem_of_getElem? (i := 35) (by decide +kernel))⟩
theorem kM_X2_assignLike : gwM yX2_assignLike cX2_assignLike 3 none 1 := ⟨(List.mem_of_getElem? (i := 682) (by decide +kernel)), (List.mem_of_getElem? (i := 78) (by decide +kernel)), ⟨by decide +kernel, by decide +kernel⟩, by decide +kernel⟩
theorem kV_X2_assignLike : gwV yX2_assignLike := ⟨(List.mem_of_getElem? (i := 681) (by decide +kernel)), (List.mem_of_getElem? (i := 40) (by decide +kernel))⟩
theorem kM_X2_becomeMadeBy : gwM yX2_becomeMadeBy cX2_becomeMadeBy 3 none 2 := ⟨(List.mem_of_getElem? (i := 590) (by decide +kernel)), (List.mem_of_getElem? (i := 78) (by decide +kernel)), ⟨by decide +kernel, by decide +kernel⟩, by decide +kernel⟩
theorem kV_X2_becomeMadeBy : gwV yX2_becomeMadeBy := ⟨(List.mem_of_getElem? (i := 589) (by decide +kernel)), (List.mem_of_getElem? (i := 31) (by decide +kernel))⟩
theorem kM_X2_fingerprint : gwM yX2_fingerprint cX2_fingerprint 3 (some .int) 0 := ⟨(List.mem_of_getElem? (i := 637) (by decide +kernel)), (List.mem_of_getElem? (i := 78) (by decide +kernel)), ⟨by decide +kernel, by decide +kernel⟩, by decide +kernel⟩
theorem kV_X2_fingerprint : gwV yX2_fingerprint := ⟨(List.mem_of_getElem? (i := 636) (by decide +kernel)), (List.mem_of_getElem? (i := 37) (by decide +kernel))⟩
theorem kM_X2_hold : gwM yX2_hold cX2_hold 3 none 2 := ⟨(List.mem_of_getElem? (i := 598) (by decide +kernel)), (List.mem_of_getElem? (i := 78) (by decide +kernel)), ⟨by decide +kernel, by decide +kernel⟩, by decide +kernel⟩
theorem kV_X2_hold : gwV yX2_hold := ⟨(List.mem_of_getElem? (i := 597) (by decide +kernel)), (List.mem_of_getElem? (i := 33) (by decide +kernel))⟩
theorem kM_X2_holdLike : gwM yX2_holdLike cX2_holdLike 5 none 1 := ⟨(List.mem_of_getElem? (i := 693) (by decide +kernel)), (List.mem_of_getElem? (i := 78) (by decide +kernel)), ⟨by decide +kernel, by decide +kernel⟩, by decide +kernel⟩
theorem kV_X2_holdLike : gwV yX2_holdLike := ⟨(List.mem_of_getElem? (i := 692) (by decide +kernel)), (List.mem_of_getElem? (i := 41) (by decide +kernel))⟩
theorem kM_X2_holds : gwM yX2_holds cX2_holds 2 (some .int) 1 := ⟨(List.mem_of_getElem? (i := 747) (by decide +kernel)), (List.mem_of_getElem? (i := 78) (by decide +kernel)), ⟨by decide +kernel, by decide +kernel⟩, by decide +kernel⟩
theorem kV_X2_holds : gwV yX2_holds := ⟨(List.mem_of_getElem? (i := 746) (by decide +kernel)), (List.mem_of_getElem? (i := 47) (by decide +kernel))⟩
theorem kM_X2_init : gwM yX2_init cX2_init 5 none 2 := ⟨(List.mem_of_getElem? (i := 480) (by decide +kernel)), (List.mem_of_getElem? (i := 78) (by decide +kernel)), ⟨by decide +kernel, by decide +kernel⟩, by decide +kernel⟩
theorem kI_X2_init : gwI yX2_init := ⟨(List.mem_of_getElem? (i := 479) (by decide +kernel)), rfl⟩
theorem kM_X2_init_ : gwM yX2_init_ cX2_init_ 4 none 2 := ⟨(List.mem_of_getElem? (i := 586) (by decide +kernel)), (List.mem_of_getElem? (i := 78) (by decide +kernel)), ⟨by decide +kernel, by decide +kernel⟩, by decide +kernel⟩
theorem kI_X2_init_ : gwI yX2_init_ := ⟨(List.mem_of_getElem? (i := 585) (by decide +kernel)), rfl⟩
theorem kM_X2_isRootOf : gwM yX2_isRootOf cX2_isRootOf 3 (some .boolean) 1 := ⟨(List.mem_of_getElem? (i := 473) (by decide +kernel)), (List.mem_of_getElem? (i := 78) (by decide +kernel)), ⟨by decide +kernel, by decide +kernel⟩, by decide +kernel⟩
theorem kV_X2_isRootOf : gwV yX2_isRootOf := ⟨(List.mem_of_getElem? (i := 471) (by decide +kernel)), (List.mem_of_getElem? (i := 15) (by decide +kernel))⟩
theorem kM_X2_partAt : gwM yX2_partAt cX2_partAt 3 (some (.object "LayeredImages$Layer")) 1 := ⟨(List.mem_of_getElem? (i := 673) (by decide +kernel)), (List.mem_of_getElem? (i := 78) (by decide +kernel)), ⟨by decide +kernel, by decide +kernel⟩, by decide +kernel⟩
theorem kV_X2_partAt : gwV yX2_partAt := ⟨(List.mem_of_getElem? (i := 672) (by decide +kernel)), (List.mem_of_getElem? (i := 38) (by decide +kernel))⟩
theorem kM_X2_showLike : gwM yX2_showLike cX2_showLike 4 none 1 := ⟨(List.mem_of_getElem? (i := 677) (by decide +kernel)), (List.mem_of_getElem? (i := 78) (by decide +kernel)), ⟨by decide +kernel, by decide +kernel⟩, by decide +kernel⟩
theorem kV_X2_showLike : gwV yX2_showLike := ⟨(List.mem_of_getElem? (i := 676) (by decide +kernel)), (List.mem_of_getElem? (i := 39) (by decide +kernel))⟩
theorem kM_X2_shows : gwM yX2_shows cX2_shows 2 (some .int) 1 := ⟨(List.mem_of_getElem? (i := 558) (by decide +kernel)), (List.mem_of_getElem? (i := 78) (by decide +kernel)), ⟨by decide +kernel, by decide +kernel⟩, by decide +kernel⟩
theorem kV_X2_shows : gwV yX2_shows := ⟨(List.mem_of_getElem? (i := 557) (by decide +kernel)), (List.mem_of_getElem? (i := 24) (by decide +kernel))⟩
theorem kM_X2_size : gwM yX2_size cX2_size 3 (some .int) 0 := ⟨(List.mem_of_getElem? (i := 736) (by decide +kernel)), (List.mem_of_getElem? (i := 78) (by decide +kernel)), ⟨by decide +kernel, by decide +kernel⟩, by decide +kernel⟩
theorem kV_X2_size : gwV yX2_size := ⟨(List.mem_of_getElem? (i := 735) (by decide +kernel)), (List.mem_of_getElem? (i := 46) (by decide +kernel))⟩
theorem kM_X2_value : gwM yX2_value cX2_value 2 (some .int) 1 := ⟨(List.mem_of_getElem? (i := 602) (by decide +kernel)), (List.mem_of_getElem? (i := 78) (by decide +kernel)), ⟨by decide +kernel, by decide +kernel⟩, by decide +kernel⟩
theorem kV_X2_value : gwV yX2_value := ⟨(List.mem_of_getElem? (i := 601) (by decide +kernel)), (List.mem_of_getElem? (i := 34) (by decide +kernel))⟩
theorem kM_X2_wasMadeBy : gwM yX2_wasMadeBy cX2_wasMadeBy 3 (some .boolean) 2 := ⟨(List.mem_of_getElem? (i := 575) (by decide +kernel)), (List.mem_of_getElem? (i := 78) (by decide +kernel)), ⟨by decide +kernel, by decide +kernel⟩, by decide +kernel⟩
theorem kV_X2_wasMadeBy : gwV yX2_wasMadeBy := ⟨(List.mem_of_getElem? (i := 574) (by decide +kernel)), (List.mem_of_getElem? (i := 28) (by decide +kernel))⟩
theorem kM_X3_append : gwM yX3_append cX3_append 2 none 1 := ⟨(List.mem_of_getElem? (i := 384) (by decide +kernel)), (List.mem_of_getElem? (i := 68) (by decide +kernel)), ⟨by decide +kernel, by decide +kernel⟩, by decide +kernel⟩
theorem kV_X3_append : gwV yX3_append := ⟨(List.mem_of_getElem? (i := 383) (by decide +kernel)), (List.mem_of_getElem? (i := 7) (by decide +kernel))⟩
theorem kM_X3_at : gwM yX3_at cX3_at 2 (some (.object "LayeredImages$Instruction")) 1 := ⟨(List.mem_of_getElem? (i := 531) (by decide +kernel)), (List.mem_of_getElem? (i := 68) (by decide +kernel)), ⟨by decide +kernel, by decide +kernel⟩, by decide +kernel⟩
theorem kV_X3_at : gwV yX3_at := ⟨(List.mem_of_getElem? (i := 530) (by decide +kernel)), (List.mem_of_getElem? (i := 20) (by decide +kernel))⟩
theorem kM_X3_becomeLike : gwM yX3_becomeLike cX3_becomeLike 3 none 1 := ⟨(List.mem_of_getElem? (i := 526) (by decide +kernel)), (List.mem_of_getElem? (i := 68) (by decide +kernel)), ⟨by decide +kernel, by decide +kernel⟩, by decide +kernel⟩
theorem kV_X3_becomeLike : gwV yX3_becomeLike := ⟨(List.mem_of_getElem? (i := 525) (by decide +kernel)), (List.mem_of_getElem? (i := 19) (by decide +kernel))⟩
theorem kM_X3_clearOn : gwM yX3_clearOn cX3_clearOn 2 none 1 := ⟨(List.mem_of_getElem? (i := 336) (by decide +kernel)), (List.mem_of_getElem? (i := 68) (by decide +kernel)), ⟨by decide +kernel, by decide +kernel⟩, by decide +kernel⟩
theorem kV_X3_clearOn : gwV yX3_clearOn := ⟨(List.mem_of_getElem? (i := 335) (by decide +kernel)), (List.mem_of_getElem? (i := 5) (by decide +kernel))⟩
theorem kM_X3_init : gwM yX3_init cX3_init 1 none 0 := ⟨(List.mem_of_getElem? (i := 119) (by decide +kernel)), (List.mem_of_getElem? (i := 68) (by decide +kernel)), ⟨by decide +kernel, by decide +kernel⟩, by decide +kernel⟩
theorem kI_X3_init : gwI yX3_init := ⟨(List.mem_of_getElem? (i := 118) (by decide +kernel)), rfl⟩
theorem kM_X3_removeAt : gwM yX3_removeAt cX3_removeAt 3 none 1 := ⟨(List.mem_of_getElem? (i := 426) (by decide +kernel)), (List.mem_of_getElem? (i := 68) (by decide +kernel)), ⟨by decide +kernel, by decide +kernel⟩, by decide +kernel⟩
theorem kV_X3_removeAt : gwV yX3_removeAt := ⟨(List.mem_of_getElem? (i := 425) (by decide +kernel)), (List.mem_of_getElem? (i := 8) (by decide +kernel))⟩
theorem kM_X4_find : gwM yX4_find cX4_find 2 (some (.object "LayeredImages$Layer")) 1 := ⟨(List.mem_of_getElem? (i := 467) (by decide +kernel)), (List.mem_of_getElem? (i := 66) (by decide +kernel)), ⟨by decide +kernel, by decide +kernel⟩, by decide +kernel⟩
theorem kV_X4_find : gwV yX4_find := ⟨(List.mem_of_getElem? (i := 466) (by decide +kernel)), (List.mem_of_getElem? (i := 14) (by decide +kernel))⟩
theorem kM_X4_findMade : gwM yX4_findMade cX4_findMade 6 (some (.object "LayeredImages$Layer")) 3 := ⟨(List.mem_of_getElem? (i := 571) (by decide +kernel)), (List.mem_of_getElem? (i := 66) (by decide +kernel)), ⟨by decide +kernel, by decide +kernel⟩, by decide +kernel⟩
theorem kV_X4_findMade : gwV yX4_findMade := ⟨(List.mem_of_getElem? (i := 570) (by decide +kernel)), (List.mem_of_getElem? (i := 27) (by decide +kernel))⟩
theorem kM_X4_findRoot : gwM yX4_findRoot cX4_findRoot 4 (some (.object "LayeredImages$Layer")) 1 := ⟨(List.mem_of_getElem? (i := 463) (by decide +kernel)), (List.mem_of_getElem? (i := 66) (by decide +kernel)), ⟨by decide +kernel, by decide +kernel⟩, by decide +kernel⟩
theorem kV_X4_findRoot : gwV yX4_findRoot := ⟨(List.mem_of_getElem? (i := 462) (by decide +kernel)), (List.mem_of_getElem? (i := 13) (by decide +kernel))⟩
theorem kM_X4_init : gwM yX4_init cX4_init 1 none 0 := ⟨(List.mem_of_getElem? (i := 97) (by decide +kernel)), (List.mem_of_getElem? (i := 66) (by decide +kernel)), ⟨by decide +kernel, by decide +kernel⟩, by decide +kernel⟩
theorem kI_X4_init : gwI yX4_init := ⟨(List.mem_of_getElem? (i := 96) (by decide +kernel)), rfl⟩
theorem kM_X4_kept : gwM yX4_kept cX4_kept 2 (some (.object "LayeredImages$Layer")) 1 := ⟨(List.mem_of_getElem? (i := 515) (by decide +kernel)), (List.mem_of_getElem? (i := 66) (by decide +kernel)), ⟨by decide +kernel, by decide +kernel⟩, by decide +kernel⟩
theorem kV_X4_kept : gwV yX4_kept := ⟨(List.mem_of_getElem? (i := 514) (by decide +kernel)), (List.mem_of_getElem? (i := 17) (by decide +kernel))⟩
theorem kM_X4_newChild : gwM yX4_newChild cX4_newChild 2 (some (.object "LayeredImages$Layer")) 1 := ⟨(List.mem_of_getElem? (i := 583) (by decide +kernel)), (List.mem_of_getElem? (i := 66) (by decide +kernel)), ⟨by decide +kernel, by decide +kernel⟩, by decide +kernel⟩
theorem kV_X4_newChild : gwV yX4_newChild := ⟨(List.mem_of_getElem? (i := 582) (by decide +kernel)), (List.mem_of_getElem? (i := 30) (by decide +kernel))⟩
theorem kM_X4_newRoot : gwM yX4_newRoot cX4_newRoot 2 (some (.object "LayeredImages$Layer")) 1 := ⟨(List.mem_of_getElem? (i := 477) (by decide +kernel)), (List.mem_of_getElem? (i := 66) (by decide +kernel)), ⟨by decide +kernel, by decide +kernel⟩, by decide +kernel⟩
theorem kV_X4_newRoot : gwV yX4_newRoot := ⟨(List.mem_of_getElem? (i := 476) (by decide +kernel)), (List.mem_of_getElem? (i := 16) (by decide +kernel))⟩
theorem kM_X4_remove : gwM yX4_remove cX4_remove 2 none 1 := ⟨(List.mem_of_getElem? (i := 709) (by decide +kernel)), (List.mem_of_getElem? (i := 66) (by decide +kernel)), ⟨by decide +kernel, by decide +kernel⟩, by decide +kernel⟩
theorem kV_X4_remove : gwV yX4_remove := ⟨(List.mem_of_getElem? (i := 708) (by decide +kernel)), (List.mem_of_getElem? (i := 43) (by decide +kernel))⟩
theorem kM_X5_addCopy : gwM yX5_addCopy cX5_addCopy 4 (some .int) 3 := ⟨(List.mem_of_getElem? (i := 344) (by decide +kernel)), (List.mem_of_getElem? (i := 65) (by decide +kernel)), ⟨by decide +kernel, by decide +kernel⟩, by decide +kernel⟩
theorem kV_X5_addCopy : gwV yX5_addCopy := ⟨(List.mem_of_getElem? (i := 342) (by decide +kernel)), (List.mem_of_getElem? (i := 343) (by decide +kernel))⟩
theorem kM_X5_addInstruction : gwM yX5_addInstruction cX5_addInstruction 6 (some .int) 4 := ⟨(List.mem_of_getElem? (i := 348) (by decide +kernel)), (List.mem_of_getElem? (i := 65) (by decide +kernel)), ⟨by decide +kernel, by decide +kernel⟩, by decide +kernel⟩
theorem kV_X5_addInstruction : gwV yX5_addInstruction := ⟨(List.mem_of_getElem? (i := 347) (by decide +kernel)), (List.mem_of_getElem? (i := 6) (by decide +kernel))⟩
theorem kM_X5_addMove : gwM yX5_addMove cX5_addMove 4 (some .int) 3 := ⟨(List.mem_of_getElem? (i := 399) (by decide +kernel)), (List.mem_of_getElem? (i := 65) (by decide +kernel)), ⟨by decide +kernel, by decide +kernel⟩, by decide +kernel⟩
theorem kV_X5_addMove : gwV yX5_addMove := ⟨(List.mem_of_getElem? (i := 397) (by decide +kernel)), (List.mem_of_getElem? (i := 398) (by decide +kernel))⟩
theorem kM_X5_addRemove : gwM yX5_addRemove cX5_addRemove 3 (some .int) 2 := ⟨(List.mem_of_getElem? (i := 407) (by decide +kernel)), (List.mem_of_getElem? (i := 65) (by decide +kernel)), ⟨by decide +kernel, by decide +kernel⟩, by decide +kernel⟩
theorem kV_X5_addRemove : gwV yX5_addRemove := ⟨(List.mem_of_getElem? (i := 405) (by decide +kernel)), (List.mem_of_getElem? (i := 406) (by decide +kernel))⟩
theorem kM_X5_addRun : gwM yX5_addRun cX5_addRun 4 (some .int) 3 := ⟨(List.mem_of_getElem? (i := 392) (by decide +kernel)), (List.mem_of_getElem? (i := 65) (by decide +kernel)), ⟨by decide +kernel, by decide +kernel⟩, by decide +kernel⟩
theorem kV_X5_addRun : gwV yX5_addRun := ⟨(List.mem_of_getElem? (i := 390) (by decide +kernel)), (List.mem_of_getElem? (i := 391) (by decide +kernel))⟩
theorem kM_X5_addSet : gwM yX5_addSet cX5_addSet 4 (some .int) 3 := ⟨(List.mem_of_getElem? (i := 414) (by decide +kernel)), (List.mem_of_getElem? (i := 65) (by decide +kernel)), ⟨by decide +kernel, by decide +kernel⟩, by decide +kernel⟩
theorem kV_X5_addSet : gwV yX5_addSet := ⟨(List.mem_of_getElem? (i := 412) (by decide +kernel)), (List.mem_of_getElem? (i := 413) (by decide +kernel))⟩
theorem kM_X5_build : gwM yX5_build cX5_build 3 (some .int) 1 := ⟨(List.mem_of_getElem? (i := 620) (by decide +kernel)), (List.mem_of_getElem? (i := 65) (by decide +kernel)), ⟨by decide +kernel, by decide +kernel⟩, by decide +kernel⟩
theorem kV_X5_build : gwV yX5_build := ⟨(List.mem_of_getElem? (i := 618) (by decide +kernel)), (List.mem_of_getElem? (i := 619) (by decide +kernel))⟩
theorem kM_X5_built : gwM yX5_built cX5_built 1 (some .int) 0 := ⟨(List.mem_of_getElem? (i := 187) (by decide +kernel)), (List.mem_of_getElem? (i := 65) (by decide +kernel)), ⟨by decide +kernel, by decide +kernel⟩, by decide +kernel⟩
theorem kV_X5_built : gwV yX5_built := ⟨(List.mem_of_getElem? (i := 185) (by decide +kernel)), (List.mem_of_getElem? (i := 186) (by decide +kernel))⟩
theorem kM_X5_cleanDigest : gwM yX5_cleanDigest cX5_cleanDigest 7 (some .int) 1 := ⟨(List.mem_of_getElem? (i := 630) (by decide +kernel)), (List.mem_of_getElem? (i := 65) (by decide +kernel)), ⟨by decide +kernel, by decide +kernel⟩, by decide +kernel⟩
theorem kV_X5_cleanDigest : gwV yX5_cleanDigest := ⟨(List.mem_of_getElem? (i := 628) (by decide +kernel)), (List.mem_of_getElem? (i := 629) (by decide +kernel))⟩
theorem kM_X5_contentsOf : gwM yX5_contentsOf cX5_contentsOf 2 (some (.array .int)) 1 := ⟨(List.mem_of_getElem? (i := 459) (by decide +kernel)), (List.mem_of_getElem? (i := 65) (by decide +kernel)), ⟨by decide +kernel, by decide +kernel⟩, by decide +kernel⟩
theorem kV_X5_contentsOf : gwV yX5_contentsOf := ⟨(List.mem_of_getElem? (i := 458) (by decide +kernel)), (List.mem_of_getElem? (i := 12) (by decide +kernel))⟩
theorem kM_X5_depth : gwM yX5_depth cX5_depth 2 (some .int) 1 := ⟨(List.mem_of_getElem? (i := 770) (by decide +kernel)), (List.mem_of_getElem? (i := 65) (by decide +kernel)), ⟨by decide +kernel, by decide +kernel⟩, by decide +kernel⟩
theorem kV_X5_depth : gwV yX5_depth := ⟨(List.mem_of_getElem? (i := 768) (by decide +kernel)), (List.mem_of_getElem? (i := 769) (by decide +kernel))⟩
theorem kM_X5_digest : gwM yX5_digest cX5_digest 2 (some .int) 1 := ⟨(List.mem_of_getElem? (i := 784) (by decide +kernel)), (List.mem_of_getElem? (i := 65) (by decide +kernel)), ⟨by decide +kernel, by decide +kernel⟩, by decide +kernel⟩
theorem kV_X5_digest : gwV yX5_digest := ⟨(List.mem_of_getElem? (i := 782) (by decide +kernel)), (List.mem_of_getElem? (i := 783) (by decide +kernel))⟩
theorem kM_X5_drop : gwM yX5_drop cX5_drop 4 (some .int) 2 := ⟨(List.mem_of_getElem? (i := 422) (by decide +kernel)), (List.mem_of_getElem? (i := 65) (by decide +kernel)), ⟨by decide +kernel, by decide +kernel⟩, by decide +kernel⟩
theorem kV_X5_drop : gwV yX5_drop := ⟨(List.mem_of_getElem? (i := 420) (by decide +kernel)), (List.mem_of_getElem? (i := 421) (by decide +kernel))⟩
theorem kM_X5_heldAt : gwM yX5_heldAt cX5_heldAt 4 (some .int) 2 := ⟨(List.mem_of_getElem? (i := 743) (by decide +kernel)), (List.mem_of_getElem? (i := 65) (by decide +kernel)), ⟨by decide +kernel, by decide +kernel⟩, by decide +kernel⟩
theorem kV_X5_heldAt : gwV yX5_heldAt := ⟨(List.mem_of_getElem? (i := 741) (by decide +kernel)), (List.mem_of_getElem? (i := 742) (by decide +kernel))⟩
theorem kM_X5_hits : gwM yX5_hits cX5_hits 1 (some .int) 0 := ⟨(List.mem_of_getElem? (i := 203) (by decide +kernel)), (List.mem_of_getElem? (i := 65) (by decide +kernel)), ⟨by decide +kernel, by decide +kernel⟩, by decide +kernel⟩
theorem kV_X5_hits : gwV yX5_hits := ⟨(List.mem_of_getElem? (i := 201) (by decide +kernel)), (List.mem_of_getElem? (i := 202) (by decide +kernel))⟩
theorem kM_X5_imageSize : gwM yX5_imageSize cX5_imageSize 4 (some .int) 1 := ⟨(List.mem_of_getElem? (i := 777) (by decide +kernel)), (List.mem_of_getElem? (i := 65) (by decide +kernel)), ⟨by decide +kernel, by decide +kernel⟩, by decide +kernel⟩
theorem kV_X5_imageSize : gwV yX5_imageSize := ⟨(List.mem_of_getElem? (i := 775) (by decide +kernel)), (List.mem_of_getElem? (i := 776) (by decide +kernel))⟩
theorem kM_X5_init : gwM yX5_init cX5_init 2 none 0 := ⟨(List.mem_of_getElem? (i := 83) (by decide +kernel)), (List.mem_of_getElem? (i := 65) (by decide +kernel)), ⟨by decide +kernel, by decide +kernel⟩, by decide +kernel⟩
theorem kI_X5_init : gwI yX5_init := ⟨(List.mem_of_getElem? (i := 82) (by decide +kernel)), rfl⟩
theorem kM_X5_instructions : gwM yX5_instructions cX5_instructions 2 (some .int) 1 := ⟨(List.mem_of_getElem? (i := 433) (by decide +kernel)), (List.mem_of_getElem? (i := 65) (by decide +kernel)), ⟨by decide +kernel, by decide +kernel⟩, by decide +kernel⟩
theorem kV_X5_instructions : gwV yX5_instructions := ⟨(List.mem_of_getElem? (i := 431) (by decide +kernel)), (List.mem_of_getElem? (i := 432) (by decide +kernel))⟩
theorem kM_X5_isIn : gwM yX5_isIn cX5_isIn 2 (some .boolean) 2 := ⟨(List.mem_of_getElem? (i := 226) (by decide +kernel)), (List.mem_of_getElem? (i := 65) (by decide +kernel)), ⟨by decide +kernel, by decide +kernel⟩, by decide +kernel⟩
theorem kS_X5_isIn : gwS yX5_isIn := (List.mem_of_getElem? (i := 225) (by decide +kernel))
theorem kM_X5_isInTaggedImage : gwM yX5_isInTaggedImage cX5_isInTaggedImage 6 (some .boolean) 1 := ⟨(List.mem_of_getElem? (i := 705) (by decide +kernel)), (List.mem_of_getElem? (i := 65) (by decide +kernel)), ⟨by decide +kernel, by decide +kernel⟩, by decide +kernel⟩
theorem kV_X5_isInTaggedImage : gwV yX5_isInTaggedImage := ⟨(List.mem_of_getElem? (i := 704) (by decide +kernel)), (List.mem_of_getElem? (i := 42) (by decide +kernel))⟩
theorem kM_X5_layerAt : gwM yX5_layerAt cX5_layerAt 3 (some (.object "LayeredImages$Layer")) 1 := ⟨(List.mem_of_getElem? (i := 724) (by decide +kernel)), (List.mem_of_getElem? (i := 65) (by decide +kernel)), ⟨by decide +kernel, by decide +kernel⟩, by decide +kernel⟩
theorem kV_X5_layerAt : gwV yX5_layerAt := ⟨(List.mem_of_getElem? (i := 723) (by decide +kernel)), (List.mem_of_getElem? (i := 45) (by decide +kernel))⟩
theorem kM_X5_layerOfStep : gwM yX5_layerOfStep cX5_layerOfStep 6 (some (.object "LayeredImages$Layer")) 3 := ⟨(List.mem_of_getElem? (i := 567) (by decide +kernel)), (List.mem_of_getElem? (i := 65) (by decide +kernel)), ⟨by decide +kernel, by decide +kernel⟩, by decide +kernel⟩
theorem kV_X5_layerOfStep : gwV yX5_layerOfStep := ⟨(List.mem_of_getElem? (i := 566) (by decide +kernel)), (List.mem_of_getElem? (i := 26) (by decide +kernel))⟩
theorem kM_X5_layers : gwM yX5_layers cX5_layers 1 (some .int) 0 := ⟨(List.mem_of_getElem? (i := 211) (by decide +kernel)), (List.mem_of_getElem? (i := 65) (by decide +kernel)), ⟨by decide +kernel, by decide +kernel⟩, by decide +kernel⟩
theorem kV_X5_layers : gwV yX5_layers := ⟨(List.mem_of_getElem? (i := 209) (by decide +kernel)), (List.mem_of_getElem? (i := 210) (by decide +kernel))⟩
theorem kM_X5_misses : gwM yX5_misses cX5_misses 1 (some .int) 0 := ⟨(List.mem_of_getElem? (i := 207) (by decide +kernel)), (List.mem_of_getElem? (i := 65) (by decide +kernel)), ⟨by decide +kernel, by decide +kernel⟩, by decide +kernel⟩
theorem kV_X5_misses : gwV yX5_misses := ⟨(List.mem_of_getElem? (i := 205) (by decide +kernel)), (List.mem_of_getElem? (i := 206) (by decide +kernel))⟩
theorem kM_X5_numberOf : gwM yX5_numberOf cX5_numberOf 1 (some .int) 1 := ⟨(List.mem_of_getElem? (i := 199) (by decide +kernel)), (List.mem_of_getElem? (i := 65) (by decide +kernel)), ⟨by decide +kernel, by decide +kernel⟩, by decide +kernel⟩
theorem kS_X5_numberOf : gwS yX5_numberOf := (List.mem_of_getElem? (i := 198) (by decide +kernel))
theorem kM_X5_parentOf : gwM yX5_parentOf cX5_parentOf 2 (some .int) 1 := ⟨(List.mem_of_getElem? (i := 720) (by decide +kernel)), (List.mem_of_getElem? (i := 65) (by decide +kernel)), ⟨by decide +kernel, by decide +kernel⟩, by decide +kernel⟩
theorem kV_X5_parentOf : gwV yX5_parentOf := ⟨(List.mem_of_getElem? (i := 718) (by decide +kernel)), (List.mem_of_getElem? (i := 719) (by decide +kernel))⟩
theorem kM_X5_prune : gwM yX5_prune cX5_prune 4 (some .int) 0 := ⟨(List.mem_of_getElem? (i := 700) (by decide +kernel)), (List.mem_of_getElem? (i := 65) (by decide +kernel)), ⟨by decide +kernel, by decide +kernel⟩, by decide +kernel⟩
theorem kV_X5_prune : gwV yX5_prune := ⟨(List.mem_of_getElem? (i := 698) (by decide +kernel)), (List.mem_of_getElem? (i := 699) (by decide +kernel))⟩
theorem kM_X5_rebase : gwM yX5_rebase cX5_rebase 6 (some .int) 2 := ⟨(List.mem_of_getElem? (i := 689) (by decide +kernel)), (List.mem_of_getElem? (i := 65) (by decide +kernel)), ⟨by decide +kernel, by decide +kernel⟩, by decide +kernel⟩
theorem kV_X5_rebase : gwV yX5_rebase := ⟨(List.mem_of_getElem? (i := 687) (by decide +kernel)), (List.mem_of_getElem? (i := 688) (by decide +kernel))⟩
theorem kM_X5_recipeAt : gwM yX5_recipeAt cX5_recipeAt 3 (some (.object "LayeredImages$Recipe")) 1 := ⟨(List.mem_of_getElem? (i := 331) (by decide +kernel)), (List.mem_of_getElem? (i := 65) (by decide +kernel)), ⟨by decide +kernel, by decide +kernel⟩, by decide +kernel⟩
theorem kV_X5_recipeAt : gwV yX5_recipeAt := ⟨(List.mem_of_getElem? (i := 330) (by decide +kernel)), (List.mem_of_getElem? (i := 4) (by decide +kernel))⟩
theorem kM_X5_requireContent : gwM yX5_requireContent cX5_requireContent 1 none 1 := ⟨(List.mem_of_getElem? (i := 297) (by decide +kernel)), (List.mem_of_getElem? (i := 65) (by decide +kernel)), ⟨by decide +kernel, by decide +kernel⟩, by decide +kernel⟩
theorem kS_X5_requireContent : gwS yX5_requireContent := (List.mem_of_getElem? (i := 296) (by decide +kernel))
theorem kM_X5_requireIndex : gwM yX5_requireIndex cX5_requireIndex 2 none 2 := ⟨(List.mem_of_getElem? (i := 223) (by decide +kernel)), (List.mem_of_getElem? (i := 65) (by decide +kernel)), ⟨by decide +kernel, by decide +kernel⟩, by decide +kernel⟩
theorem kS_X5_requireIndex : gwS yX5_requireIndex := (List.mem_of_getElem? (i := 222) (by decide +kernel))
theorem kM_X5_requireNoBuild : gwM yX5_requireNoBuild cX5_requireNoBuild 1 none 0 := ⟨(List.mem_of_getElem? (i := 444) (by decide +kernel)), (List.mem_of_getElem? (i := 65) (by decide +kernel)), ⟨by decide +kernel, by decide +kernel⟩, by decide +kernel⟩
theorem kV_X5_requireNoBuild : gwV yX5_requireNoBuild := ⟨(List.mem_of_getElem? (i := 443) (by decide +kernel)), (List.mem_of_getElem? (i := 9) (by decide +kernel))⟩
theorem kM_X5_requireOpen : gwM yX5_requireOpen cX5_requireOpen 1 none 0 := ⟨(List.mem_of_getElem? (i := 450) (by decide +kernel)), (List.mem_of_getElem? (i := 65) (by decide +kernel)), ⟨by decide +kernel, by decide +kernel⟩, by decide +kernel⟩
theorem kV_X5_requireOpen : gwV yX5_requireOpen := ⟨(List.mem_of_getElem? (i := 449) (by decide +kernel)), (List.mem_of_getElem? (i := 10) (by decide +kernel))⟩
theorem kM_X5_reset : gwM yX5_reset cX5_reset 5 (some .int) 2 := ⟨(List.mem_of_getElem? (i := 327) (by decide +kernel)), (List.mem_of_getElem? (i := 65) (by decide +kernel)), ⟨by decide +kernel, by decide +kernel⟩, by decide +kernel⟩
theorem kV_X5_reset : gwV yX5_reset := ⟨(List.mem_of_getElem? (i := 325) (by decide +kernel)), (List.mem_of_getElem? (i := 326) (by decide +kernel))⟩
theorem kM_X5_rootFor : gwM yX5_rootFor cX5_rootFor 4 (some (.object "LayeredImages$Layer")) 1 := ⟨(List.mem_of_getElem? (i := 455) (by decide +kernel)), (List.mem_of_getElem? (i := 65) (by decide +kernel)), ⟨by decide +kernel, by decide +kernel⟩, by decide +kernel⟩
theorem kV_X5_rootFor : gwV yX5_rootFor := ⟨(List.mem_of_getElem? (i := 454) (by decide +kernel)), (List.mem_of_getElem? (i := 11) (by decide +kernel))⟩
theorem kM_X5_setBase : gwM yX5_setBase cX5_setBase 5 (some .int) 3 := ⟨(List.mem_of_getElem? (i := 320) (by decide +kernel)), (List.mem_of_getElem? (i := 65) (by decide +kernel)), ⟨by decide +kernel, by decide +kernel⟩, by decide +kernel⟩
theorem kV_X5_setBase : gwV yX5_setBase := ⟨(List.mem_of_getElem? (i := 318) (by decide +kernel)), (List.mem_of_getElem? (i := 319) (by decide +kernel))⟩
theorem kM_X5_setFile : gwM yX5_setFile cX5_setFile 4 (some .int) 2 := ⟨(List.mem_of_getElem? (i := 220) (by decide +kernel)), (List.mem_of_getElem? (i := 65) (by decide +kernel)), ⟨by decide +kernel, by decide +kernel⟩, by decide +kernel⟩
theorem kV_X5_setFile : gwV yX5_setFile := ⟨(List.mem_of_getElem? (i := 218) (by decide +kernel)), (List.mem_of_getElem? (i := 219) (by decide +kernel))⟩
theorem kM_X5_shownAt : gwM yX5_shownAt cX5_shownAt 4 (some .int) 2 := ⟨(List.mem_of_getElem? (i := 754) (by decide +kernel)), (List.mem_of_getElem? (i := 65) (by decide +kernel)), ⟨by decide +kernel, by decide +kernel⟩, by decide +kernel⟩
theorem kV_X5_shownAt : gwV yX5_shownAt := ⟨(List.mem_of_getElem? (i := 752) (by decide +kernel)), (List.mem_of_getElem? (i := 753) (by decide +kernel))⟩
theorem kM_X5_sizeOf : gwM yX5_sizeOf cX5_sizeOf 2 (some .int) 1 := ⟨(List.mem_of_getElem? (i := 732) (by decide +kernel)), (List.mem_of_getElem? (i := 65) (by decide +kernel)), ⟨by decide +kernel, by decide +kernel⟩, by decide +kernel⟩
theorem kV_X5_sizeOf : gwV yX5_sizeOf := ⟨(List.mem_of_getElem? (i := 730) (by decide +kernel)), (List.mem_of_getElem? (i := 731) (by decide +kernel))⟩
theorem kM_X5_squash : gwM yX5_squash cX5_squash 5 (some .int) 2 := ⟨(List.mem_of_getElem? (i := 667) (by decide +kernel)), (List.mem_of_getElem? (i := 65) (by decide +kernel)), ⟨by decide +kernel, by decide +kernel⟩, by decide +kernel⟩
theorem kV_X5_squash : gwV yX5_squash := ⟨(List.mem_of_getElem? (i := 665) (by decide +kernel)), (List.mem_of_getElem? (i := 666) (by decide +kernel))⟩
theorem kM_X5_start : gwM yX5_start cX5_start 4 (some .int) 1 := ⟨(List.mem_of_getElem? (i := 440) (by decide +kernel)), (List.mem_of_getElem? (i := 65) (by decide +kernel)), ⟨by decide +kernel, by decide +kernel⟩, by decide +kernel⟩
theorem kV_X5_start : gwV yX5_start := ⟨(List.mem_of_getElem? (i := 438) (by decide +kernel)), (List.mem_of_getElem? (i := 439) (by decide +kernel))⟩
theorem kM_X5_step : gwM yX5_step cX5_step 5 (some .int) 0 := ⟨(List.mem_of_getElem? (i := 539) (by decide +kernel)), (List.mem_of_getElem? (i := 65) (by decide +kernel)), ⟨by decide +kernel, by decide +kernel⟩, by decide +kernel⟩
theorem kV_X5_step : gwV yX5_step := ⟨(List.mem_of_getElem? (i := 537) (by decide +kernel)), (List.mem_of_getElem? (i := 538) (by decide +kernel))⟩
theorem kM_X5_stepsLeft : gwM yX5_stepsLeft cX5_stepsLeft 1 (some .int) 0 := ⟨(List.mem_of_getElem? (i := 179) (by decide +kernel)), (List.mem_of_getElem? (i := 65) (by decide +kernel)), ⟨by decide +kernel, by decide +kernel⟩, by decide +kernel⟩
theorem kV_X5_stepsLeft : gwV yX5_stepsLeft := ⟨(List.mem_of_getElem? (i := 177) (by decide +kernel)), (List.mem_of_getElem? (i := 178) (by decide +kernel))⟩
theorem kM_X5_tag : gwM yX5_tag cX5_tag 4 (some .int) 1 := ⟨(List.mem_of_getElem? (i := 645) (by decide +kernel)), (List.mem_of_getElem? (i := 65) (by decide +kernel)), ⟨by decide +kernel, by decide +kernel⟩, by decide +kernel⟩
theorem kV_X5_tag : gwV yX5_tag := ⟨(List.mem_of_getElem? (i := 643) (by decide +kernel)), (List.mem_of_getElem? (i := 644) (by decide +kernel))⟩
theorem kM_X5_tagged : gwM yX5_tagged cX5_tagged 2 (some .int) 1 := ⟨(List.mem_of_getElem? (i := 660) (by decide +kernel)), (List.mem_of_getElem? (i := 65) (by decide +kernel)), ⟨by decide +kernel, by decide +kernel⟩, by decide +kernel⟩
theorem kV_X5_tagged : gwV yX5_tagged := ⟨(List.mem_of_getElem? (i := 658) (by decide +kernel)), (List.mem_of_getElem? (i := 659) (by decide +kernel))⟩
theorem kM_X5_untag : gwM yX5_untag cX5_untag 3 (some .int) 1 := ⟨(List.mem_of_getElem? (i := 653) (by decide +kernel)), (List.mem_of_getElem? (i := 65) (by decide +kernel)), ⟨by decide +kernel, by decide +kernel⟩, by decide +kernel⟩
theorem kV_X5_untag : gwV yX5_untag := ⟨(List.mem_of_getElem? (i := 651) (by decide +kernel)), (List.mem_of_getElem? (i := 652) (by decide +kernel))⟩
theorem kM_X5_variable : gwM yX5_variable cX5_variable 4 (some .int) 2 := ⟨(List.mem_of_getElem? (i := 762) (by decide +kernel)), (List.mem_of_getElem? (i := 65) (by decide +kernel)), ⟨by decide +kernel, by decide +kernel⟩, by decide +kernel⟩
theorem kV_X5_variable : gwV yX5_variable := ⟨(List.mem_of_getElem? (i := 760) (by decide +kernel)), (List.mem_of_getElem? (i := 761) (by decide +kernel))⟩
theorem kM_X6_addCopy : gwM yX6_addCopy cX6_addCopy 5 (some .int) 3 := ⟨(List.mem_of_getElem? (i := 918) (by decide +kernel)), (List.mem_of_getElem? (i := 70) (by decide +kernel)), ⟨by decide +kernel, by decide +kernel⟩, by decide +kernel⟩
theorem kV_X6_addCopy : gwV yX6_addCopy := ⟨(List.mem_of_getElem? (i := 916) (by decide +kernel)), (List.mem_of_getElem? (i := 917) (by decide +kernel))⟩
theorem kM_X6_addMove : gwM yX6_addMove cX6_addMove 5 (some .int) 3 := ⟨(List.mem_of_getElem? (i := 930) (by decide +kernel)), (List.mem_of_getElem? (i := 70) (by decide +kernel)), ⟨by decide +kernel, by decide +kernel⟩, by decide +kernel⟩
theorem kV_X6_addMove : gwV yX6_addMove := ⟨(List.mem_of_getElem? (i := 928) (by decide +kernel)), (List.mem_of_getElem? (i := 929) (by decide +kernel))⟩
theorem kM_X6_addRemove : gwM yX6_addRemove cX6_addRemove 4 (some .int) 2 := ⟨(List.mem_of_getElem? (i := 934) (by decide +kernel)), (List.mem_of_getElem? (i := 70) (by decide +kernel)), ⟨by decide +kernel, by decide +kernel⟩, by decide +kernel⟩
theorem kV_X6_addRemove : gwV yX6_addRemove := ⟨(List.mem_of_getElem? (i := 932) (by decide +kernel)), (List.mem_of_getElem? (i := 933) (by decide +kernel))⟩
theorem kM_X6_addRun : gwM yX6_addRun cX6_addRun 5 (some .int) 3 := ⟨(List.mem_of_getElem? (i := 926) (by decide +kernel)), (List.mem_of_getElem? (i := 70) (by decide +kernel)), ⟨by decide +kernel, by decide +kernel⟩, by decide +kernel⟩
theorem kV_X6_addRun : gwV yX6_addRun := ⟨(List.mem_of_getElem? (i := 924) (by decide +kernel)), (List.mem_of_getElem? (i := 925) (by decide +kernel))⟩
theorem kM_X6_addSet : gwM yX6_addSet cX6_addSet 5 (some .int) 3 := ⟨(List.mem_of_getElem? (i := 938) (by decide +kernel)), (List.mem_of_getElem? (i := 70) (by decide +kernel)), ⟨by decide +kernel, by decide +kernel⟩, by decide +kernel⟩
theorem kV_X6_addSet : gwV yX6_addSet := ⟨(List.mem_of_getElem? (i := 936) (by decide +kernel)), (List.mem_of_getElem? (i := 937) (by decide +kernel))⟩
theorem kM_X6_adds : gwM yX6_adds cX6_adds 8 (some .int) 6 := ⟨(List.mem_of_getElem? (i := 922) (by decide +kernel)), (List.mem_of_getElem? (i := 70) (by decide +kernel)), ⟨by decide +kernel, by decide +kernel⟩, by decide +kernel⟩
theorem kV_X6_adds : gwV yX6_adds := ⟨(List.mem_of_getElem? (i := 921) (by decide +kernel)), (List.mem_of_getElem? (i := 49) (by decide +kernel))⟩
theorem kM_X6_begins : gwM yX6_begins cX6_begins 3 none 1 := ⟨(List.mem_of_getElem? (i := 954) (by decide +kernel)), (List.mem_of_getElem? (i := 70) (by decide +kernel)), ⟨by decide +kernel, by decide +kernel⟩, by decide +kernel⟩
theorem kV_X6_begins : gwV yX6_begins := ⟨(List.mem_of_getElem? (i := 953) (by decide +kernel)), (List.mem_of_getElem? (i := 50) (by decide +kernel))⟩
theorem kM_X6_build : gwM yX6_build cX6_build 3 (some .int) 1 := ⟨(List.mem_of_getElem? (i := 990) (by decide +kernel)), (List.mem_of_getElem? (i := 70) (by decide +kernel)), ⟨by decide +kernel, by decide +kernel⟩, by decide +kernel⟩
theorem kV_X6_build : gwV yX6_build := ⟨(List.mem_of_getElem? (i := 988) (by decide +kernel)), (List.mem_of_getElem? (i := 989) (by decide +kernel))⟩
theorem kM_X6_built : gwM yX6_built cX6_built 1 (some .int) 0 := ⟨(List.mem_of_getElem? (i := 1002) (by decide +kernel)), (List.mem_of_getElem? (i := 70) (by decide +kernel)), ⟨by decide +kernel, by decide +kernel⟩, by decide +kernel⟩
theorem kV_X6_built : gwV yX6_built := ⟨(List.mem_of_getElem? (i := 1000) (by decide +kernel)), (List.mem_of_getElem? (i := 1001) (by decide +kernel))⟩
theorem kM_X6_cached : gwM yX6_cached cX6_cached 8 (some .int) 4 := ⟨(List.mem_of_getElem? (i := 982) (by decide +kernel)), (List.mem_of_getElem? (i := 70) (by decide +kernel)), ⟨by decide +kernel, by decide +kernel⟩, by decide +kernel⟩
theorem kV_X6_cached : gwV yX6_cached := ⟨(List.mem_of_getElem? (i := 981) (by decide +kernel)), (List.mem_of_getElem? (i := 56) (by decide +kernel))⟩
theorem kM_X6_canStep : gwM yX6_canStep cX6_canStep 3 (some .boolean) 2 := ⟨(List.mem_of_getElem? (i := 974) (by decide +kernel)), (List.mem_of_getElem? (i := 70) (by decide +kernel)), ⟨by decide +kernel, by decide +kernel⟩, by decide +kernel⟩
theorem kV_X6_canStep : gwV yX6_canStep := ⟨(List.mem_of_getElem? (i := 973) (by decide +kernel)), (List.mem_of_getElem? (i := 54) (by decide +kernel))⟩
theorem kM_X6_cleanDigest : gwM yX6_cleanDigest cX6_cleanDigest 5 (some .int) 1 := ⟨(List.mem_of_getElem? (i := 1018) (by decide +kernel)), (List.mem_of_getElem? (i := 70) (by decide +kernel)), ⟨by decide +kernel, by decide +kernel⟩, by decide +kernel⟩
theorem kV_X6_cleanDigest : gwV yX6_cleanDigest := ⟨(List.mem_of_getElem? (i := 1016) (by decide +kernel)), (List.mem_of_getElem? (i := 1017) (by decide +kernel))⟩
theorem kM_X6_cleans : gwM yX6_cleans cX6_cleans 5 (some .boolean) 3 := ⟨(List.mem_of_getElem? (i := 1022) (by decide +kernel)), (List.mem_of_getElem? (i := 70) (by decide +kernel)), ⟨by decide +kernel, by decide +kernel⟩, by decide +kernel⟩
theorem kV_X6_cleans : gwV yX6_cleans := ⟨(List.mem_of_getElem? (i := 1021) (by decide +kernel)), (List.mem_of_getElem? (i := 60) (by decide +kernel))⟩
theorem kM_X6_deep : gwM yX6_deep cX6_deep 4 (some .int) 1 := ⟨(List.mem_of_getElem? (i := 1043) (by decide +kernel)), (List.mem_of_getElem? (i := 70) (by decide +kernel)), ⟨by decide +kernel, by decide +kernel⟩, by decide +kernel⟩
theorem kV_X6_deep : gwV yX6_deep := ⟨(List.mem_of_getElem? (i := 1042) (by decide +kernel)), (List.mem_of_getElem? (i := 61) (by decide +kernel))⟩
theorem kM_X6_depth : gwM yX6_depth cX6_depth 2 (some .int) 1 := ⟨(List.mem_of_getElem? (i := 1087) (by decide +kernel)), (List.mem_of_getElem? (i := 70) (by decide +kernel)), ⟨by decide +kernel, by decide +kernel⟩, by decide +kernel⟩
theorem kV_X6_depth : gwV yX6_depth := ⟨(List.mem_of_getElem? (i := 1085) (by decide +kernel)), (List.mem_of_getElem? (i := 1086) (by decide +kernel))⟩
theorem kM_X6_digest : gwM yX6_digest cX6_digest 5 (some .int) 1 := ⟨(List.mem_of_getElem? (i := 1095) (by decide +kernel)), (List.mem_of_getElem? (i := 70) (by decide +kernel)), ⟨by decide +kernel, by decide +kernel⟩, by decide +kernel⟩
theorem kV_X6_digest : gwV yX6_digest := ⟨(List.mem_of_getElem? (i := 1093) (by decide +kernel)), (List.mem_of_getElem? (i := 1094) (by decide +kernel))⟩
theorem kM_X6_drop : gwM yX6_drop cX6_drop 5 (some .int) 2 := ⟨(List.mem_of_getElem? (i := 942) (by decide +kernel)), (List.mem_of_getElem? (i := 70) (by decide +kernel)), ⟨by decide +kernel, by decide +kernel⟩, by decide +kernel⟩
theorem kV_X6_drop : gwV yX6_drop := ⟨(List.mem_of_getElem? (i := 940) (by decide +kernel)), (List.mem_of_getElem? (i := 941) (by decide +kernel))⟩
theorem kM_X6_fails : gwM yX6_fails cX6_fails 2 (some .boolean) 1 := ⟨(List.mem_of_getElem? (i := 906) (by decide +kernel)), (List.mem_of_getElem? (i := 70) (by decide +kernel)), ⟨by decide +kernel, by decide +kernel⟩, by decide +kernel⟩
theorem kV_X6_fails : gwV yX6_fails := ⟨(List.mem_of_getElem? (i := 905) (by decide +kernel)), (List.mem_of_getElem? (i := 48) (by decide +kernel))⟩
theorem kM_X6_goes : gwM yX6_goes cX6_goes 6 (some .int) 0 := ⟨(List.mem_of_getElem? (i := 970) (by decide +kernel)), (List.mem_of_getElem? (i := 70) (by decide +kernel)), ⟨by decide +kernel, by decide +kernel⟩, by decide +kernel⟩
theorem kV_X6_goes : gwV yX6_goes := ⟨(List.mem_of_getElem? (i := 969) (by decide +kernel)), (List.mem_of_getElem? (i := 53) (by decide +kernel))⟩
theorem kM_X6_heldAt : gwM yX6_heldAt cX6_heldAt 3 (some .int) 2 := ⟨(List.mem_of_getElem? (i := 1075) (by decide +kernel)), (List.mem_of_getElem? (i := 70) (by decide +kernel)), ⟨by decide +kernel, by decide +kernel⟩, by decide +kernel⟩
theorem kV_X6_heldAt : gwV yX6_heldAt := ⟨(List.mem_of_getElem? (i := 1073) (by decide +kernel)), (List.mem_of_getElem? (i := 1074) (by decide +kernel))⟩
theorem kM_X6_hits : gwM yX6_hits cX6_hits 1 (some .int) 0 := ⟨(List.mem_of_getElem? (i := 1010) (by decide +kernel)), (List.mem_of_getElem? (i := 70) (by decide +kernel)), ⟨by decide +kernel, by decide +kernel⟩, by decide +kernel⟩
theorem kV_X6_hits : gwV yX6_hits := ⟨(List.mem_of_getElem? (i := 1008) (by decide +kernel)), (List.mem_of_getElem? (i := 1009) (by decide +kernel))⟩
theorem kM_X6_imageSize : gwM yX6_imageSize cX6_imageSize 4 (some .int) 1 := ⟨(List.mem_of_getElem? (i := 1091) (by decide +kernel)), (List.mem_of_getElem? (i := 70) (by decide +kernel)), ⟨by decide +kernel, by decide +kernel⟩, by decide +kernel⟩
theorem kV_X6_imageSize : gwV yX6_imageSize := ⟨(List.mem_of_getElem? (i := 1089) (by decide +kernel)), (List.mem_of_getElem? (i := 1090) (by decide +kernel))⟩
theorem kM_X6_init : gwM yX6_init cX6_init 2 none 0 := ⟨(List.mem_of_getElem? (i := 789) (by decide +kernel)), (List.mem_of_getElem? (i := 70) (by decide +kernel)), ⟨by decide +kernel, by decide +kernel⟩, by decide +kernel⟩
theorem kI_X6_init : gwI yX6_init := ⟨(List.mem_of_getElem? (i := 788) (by decide +kernel)), rfl⟩
theorem kM_X6_instructions : gwM yX6_instructions cX6_instructions 2 (some .int) 1 := ⟨(List.mem_of_getElem? (i := 946) (by decide +kernel)), (List.mem_of_getElem? (i := 70) (by decide +kernel)), ⟨by decide +kernel, by decide +kernel⟩, by decide +kernel⟩
theorem kV_X6_instructions : gwV yX6_instructions := ⟨(List.mem_of_getElem? (i := 944) (by decide +kernel)), (List.mem_of_getElem? (i := 945) (by decide +kernel))⟩
theorem kM_X6_is : gwM yX6_is cX6_is 2 (some .boolean) 1 := ⟨(List.mem_of_getElem? (i := 1063) (by decide +kernel)), (List.mem_of_getElem? (i := 70) (by decide +kernel)), ⟨by decide +kernel, by decide +kernel⟩, by decide +kernel⟩
theorem kV_X6_is : gwV yX6_is := ⟨(List.mem_of_getElem? (i := 1062) (by decide +kernel)), (List.mem_of_getElem? (i := 62) (by decide +kernel))⟩
theorem kM_X6_isContent : gwM yX6_isContent cX6_isContent 1 (some .boolean) 1 := ⟨(List.mem_of_getElem? (i := 902) (by decide +kernel)), (List.mem_of_getElem? (i := 70) (by decide +kernel)), ⟨by decide +kernel, by decide +kernel⟩, by decide +kernel⟩
theorem kS_X6_isContent : gwS yX6_isContent := (List.mem_of_getElem? (i := 901) (by decide +kernel))
theorem kM_X6_isIn : gwM yX6_isIn cX6_isIn 2 (some .boolean) 2 := ⟨(List.mem_of_getElem? (i := 899) (by decide +kernel)), (List.mem_of_getElem? (i := 70) (by decide +kernel)), ⟨by decide +kernel, by decide +kernel⟩, by decide +kernel⟩
theorem kS_X6_isIn : gwS yX6_isIn := (List.mem_of_getElem? (i := 898) (by decide +kernel))
theorem kM_X6_layerFor : gwM yX6_layerFor cX6_layerFor 8 (some .int) 4 := ⟨(List.mem_of_getElem? (i := 986) (by decide +kernel)), (List.mem_of_getElem? (i := 70) (by decide +kernel)), ⟨by decide +kernel, by decide +kernel⟩, by decide +kernel⟩
theorem kV_X6_layerFor : gwV yX6_layerFor := ⟨(List.mem_of_getElem? (i := 985) (by decide +kernel)), (List.mem_of_getElem? (i := 57) (by decide +kernel))⟩
theorem kM_X6_layers : gwM yX6_layers cX6_layers 1 (some .int) 0 := ⟨(List.mem_of_getElem? (i := 1055) (by decide +kernel)), (List.mem_of_getElem? (i := 70) (by decide +kernel)), ⟨by decide +kernel, by decide +kernel⟩, by decide +kernel⟩
theorem kV_X6_layers : gwV yX6_layers := ⟨(List.mem_of_getElem? (i := 1053) (by decide +kernel)), (List.mem_of_getElem? (i := 1054) (by decide +kernel))⟩
theorem kM_X6_makes : gwM yX6_makes cX6_makes 3 (some .int) 1 := ⟨(List.mem_of_getElem? (i := 962) (by decide +kernel)), (List.mem_of_getElem? (i := 70) (by decide +kernel)), ⟨by decide +kernel, by decide +kernel⟩, by decide +kernel⟩
theorem kV_X6_makes : gwV yX6_makes := ⟨(List.mem_of_getElem? (i := 961) (by decide +kernel)), (List.mem_of_getElem? (i := 52) (by decide +kernel))⟩
theorem kM_X6_misses : gwM yX6_misses cX6_misses 1 (some .int) 0 := ⟨(List.mem_of_getElem? (i := 1014) (by decide +kernel)), (List.mem_of_getElem? (i := 70) (by decide +kernel)), ⟨by decide +kernel, by decide +kernel⟩, by decide +kernel⟩
theorem kV_X6_misses : gwV yX6_misses := ⟨(List.mem_of_getElem? (i := 1012) (by decide +kernel)), (List.mem_of_getElem? (i := 1013) (by decide +kernel))⟩
theorem kM_X6_parentOf : gwM yX6_parentOf cX6_parentOf 2 (some .int) 1 := ⟨(List.mem_of_getElem? (i := 1059) (by decide +kernel)), (List.mem_of_getElem? (i := 70) (by decide +kernel)), ⟨by decide +kernel, by decide +kernel⟩, by decide +kernel⟩
theorem kV_X6_parentOf : gwV yX6_parentOf := ⟨(List.mem_of_getElem? (i := 1057) (by decide +kernel)), (List.mem_of_getElem? (i := 1058) (by decide +kernel))⟩
theorem kM_X6_prune : gwM yX6_prune cX6_prune 3 (some .int) 0 := ⟨(List.mem_of_getElem? (i := 1051) (by decide +kernel)), (List.mem_of_getElem? (i := 70) (by decide +kernel)), ⟨by decide +kernel, by decide +kernel⟩, by decide +kernel⟩
theorem kV_X6_prune : gwV yX6_prune := ⟨(List.mem_of_getElem? (i := 1049) (by decide +kernel)), (List.mem_of_getElem? (i := 1050) (by decide +kernel))⟩
theorem kM_X6_rebase : gwM yX6_rebase cX6_rebase 11 (some .int) 2 := ⟨(List.mem_of_getElem? (i := 1047) (by decide +kernel)), (List.mem_of_getElem? (i := 70) (by decide +kernel)), ⟨by decide +kernel, by decide +kernel⟩, by decide +kernel⟩
theorem kV_X6_rebase : gwV yX6_rebase := ⟨(List.mem_of_getElem? (i := 1045) (by decide +kernel)), (List.mem_of_getElem? (i := 1046) (by decide +kernel))⟩
theorem kM_X6_reset : gwM yX6_reset cX6_reset 4 (some .int) 2 := ⟨(List.mem_of_getElem? (i := 914) (by decide +kernel)), (List.mem_of_getElem? (i := 70) (by decide +kernel)), ⟨by decide +kernel, by decide +kernel⟩, by decide +kernel⟩
theorem kV_X6_reset : gwV yX6_reset := ⟨(List.mem_of_getElem? (i := 912) (by decide +kernel)), (List.mem_of_getElem? (i := 913) (by decide +kernel))⟩
theorem kM_X6_result : gwM yX6_result cX6_result 1 (some .int) 0 := ⟨(List.mem_of_getElem? (i := 1006) (by decide +kernel)), (List.mem_of_getElem? (i := 70) (by decide +kernel)), ⟨by decide +kernel, by decide +kernel⟩, by decide +kernel⟩
theorem kV_X6_result : gwV yX6_result := ⟨(List.mem_of_getElem? (i := 1005) (by decide +kernel)), (List.mem_of_getElem? (i := 59) (by decide +kernel))⟩
theorem kM_X6_root : gwM yX6_root cX6_root 6 (some .int) 1 := ⟨(List.mem_of_getElem? (i := 958) (by decide +kernel)), (List.mem_of_getElem? (i := 70) (by decide +kernel)), ⟨by decide +kernel, by decide +kernel⟩, by decide +kernel⟩
theorem kV_X6_root : gwV yX6_root := ⟨(List.mem_of_getElem? (i := 957) (by decide +kernel)), (List.mem_of_getElem? (i := 51) (by decide +kernel))⟩
theorem kM_X6_setBase : gwM yX6_setBase cX6_setBase 5 (some .int) 3 := ⟨(List.mem_of_getElem? (i := 910) (by decide +kernel)), (List.mem_of_getElem? (i := 70) (by decide +kernel)), ⟨by decide +kernel, by decide +kernel⟩, by decide +kernel⟩
theorem kV_X6_setBase : gwV yX6_setBase := ⟨(List.mem_of_getElem? (i := 908) (by decide +kernel)), (List.mem_of_getElem? (i := 909) (by decide +kernel))⟩
theorem kM_X6_setFile : gwM yX6_setFile cX6_setFile 4 (some .int) 2 := ⟨(List.mem_of_getElem? (i := 896) (by decide +kernel)), (List.mem_of_getElem? (i := 70) (by decide +kernel)), ⟨by decide +kernel, by decide +kernel⟩, by decide +kernel⟩
theorem kV_X6_setFile : gwV yX6_setFile := ⟨(List.mem_of_getElem? (i := 894) (by decide +kernel)), (List.mem_of_getElem? (i := 895) (by decide +kernel))⟩
theorem kM_X6_shownAt : gwM yX6_shownAt cX6_shownAt 3 (some .int) 2 := ⟨(List.mem_of_getElem? (i := 1079) (by decide +kernel)), (List.mem_of_getElem? (i := 70) (by decide +kernel)), ⟨by decide +kernel, by decide +kernel⟩, by decide +kernel⟩
theorem kV_X6_shownAt : gwV yX6_shownAt := ⟨(List.mem_of_getElem? (i := 1077) (by decide +kernel)), (List.mem_of_getElem? (i := 1078) (by decide +kernel))⟩
theorem kM_X6_shows : gwM yX6_shows cX6_shows 4 (some .int) 2 := ⟨(List.mem_of_getElem? (i := 978) (by decide +kernel)), (List.mem_of_getElem? (i := 70) (by decide +kernel)), ⟨by decide +kernel, by decide +kernel⟩, by decide +kernel⟩
theorem kV_X6_shows : gwV yX6_shows := ⟨(List.mem_of_getElem? (i := 977) (by decide +kernel)), (List.mem_of_getElem? (i := 55) (by decide +kernel))⟩
theorem kM_X6_size : gwM yX6_size cX6_size 4 (some .int) 1 := ⟨(List.mem_of_getElem? (i := 1071) (by decide +kernel)), (List.mem_of_getElem? (i := 70) (by decide +kernel)), ⟨by decide +kernel, by decide +kernel⟩, by decide +kernel⟩
theorem kV_X6_size : gwV yX6_size := ⟨(List.mem_of_getElem? (i := 1070) (by decide +kernel)), (List.mem_of_getElem? (i := 63) (by decide +kernel))⟩
theorem kM_X6_sizeOf : gwM yX6_sizeOf cX6_sizeOf 2 (some .int) 1 := ⟨(List.mem_of_getElem? (i := 1067) (by decide +kernel)), (List.mem_of_getElem? (i := 70) (by decide +kernel)), ⟨by decide +kernel, by decide +kernel⟩, by decide +kernel⟩
theorem kV_X6_sizeOf : gwV yX6_sizeOf := ⟨(List.mem_of_getElem? (i := 1065) (by decide +kernel)), (List.mem_of_getElem? (i := 1066) (by decide +kernel))⟩
theorem kM_X6_squash : gwM yX6_squash cX6_squash 10 (some .int) 2 := ⟨(List.mem_of_getElem? (i := 1039) (by decide +kernel)), (List.mem_of_getElem? (i := 70) (by decide +kernel)), ⟨by decide +kernel, by decide +kernel⟩, by decide +kernel⟩
theorem kV_X6_squash : gwV yX6_squash := ⟨(List.mem_of_getElem? (i := 1037) (by decide +kernel)), (List.mem_of_getElem? (i := 1038) (by decide +kernel))⟩
theorem kM_X6_start : gwM yX6_start cX6_start 2 (some .int) 1 := ⟨(List.mem_of_getElem? (i := 950) (by decide +kernel)), (List.mem_of_getElem? (i := 70) (by decide +kernel)), ⟨by decide +kernel, by decide +kernel⟩, by decide +kernel⟩
theorem kV_X6_start : gwV yX6_start := ⟨(List.mem_of_getElem? (i := 948) (by decide +kernel)), (List.mem_of_getElem? (i := 949) (by decide +kernel))⟩
theorem kM_X6_step : gwM yX6_step cX6_step 1 (some .int) 0 := ⟨(List.mem_of_getElem? (i := 966) (by decide +kernel)), (List.mem_of_getElem? (i := 70) (by decide +kernel)), ⟨by decide +kernel, by decide +kernel⟩, by decide +kernel⟩
theorem kV_X6_step : gwV yX6_step := ⟨(List.mem_of_getElem? (i := 964) (by decide +kernel)), (List.mem_of_getElem? (i := 965) (by decide +kernel))⟩
theorem kM_X6_stepsLeft : gwM yX6_stepsLeft cX6_stepsLeft 1 (some .int) 0 := ⟨(List.mem_of_getElem? (i := 994) (by decide +kernel)), (List.mem_of_getElem? (i := 70) (by decide +kernel)), ⟨by decide +kernel, by decide +kernel⟩, by decide +kernel⟩
theorem kV_X6_stepsLeft : gwV yX6_stepsLeft := ⟨(List.mem_of_getElem? (i := 992) (by decide +kernel)), (List.mem_of_getElem? (i := 993) (by decide +kernel))⟩
theorem kM_X6_tag : gwM yX6_tag cX6_tag 3 (some .int) 1 := ⟨(List.mem_of_getElem? (i := 1027) (by decide +kernel)), (List.mem_of_getElem? (i := 70) (by decide +kernel)), ⟨by decide +kernel, by decide +kernel⟩, by decide +kernel⟩
theorem kV_X6_tag : gwV yX6_tag := ⟨(List.mem_of_getElem? (i := 1025) (by decide +kernel)), (List.mem_of_getElem? (i := 1026) (by decide +kernel))⟩
theorem kM_X6_tagged : gwM yX6_tagged cX6_tagged 2 (some .int) 1 := ⟨(List.mem_of_getElem? (i := 1035) (by decide +kernel)), (List.mem_of_getElem? (i := 70) (by decide +kernel)), ⟨by decide +kernel, by decide +kernel⟩, by decide +kernel⟩
theorem kV_X6_tagged : gwV yX6_tagged := ⟨(List.mem_of_getElem? (i := 1033) (by decide +kernel)), (List.mem_of_getElem? (i := 1034) (by decide +kernel))⟩
theorem kM_X6_tells : gwM yX6_tells cX6_tells 2 (some .int) 1 := ⟨(List.mem_of_getElem? (i := 998) (by decide +kernel)), (List.mem_of_getElem? (i := 70) (by decide +kernel)), ⟨by decide +kernel, by decide +kernel⟩, by decide +kernel⟩
theorem kV_X6_tells : gwV yX6_tells := ⟨(List.mem_of_getElem? (i := 997) (by decide +kernel)), (List.mem_of_getElem? (i := 58) (by decide +kernel))⟩
theorem kM_X6_thrown : gwM yX6_thrown cX6_thrown 1 (some .int) 0 := ⟨(List.mem_of_getElem? (i := 892) (by decide +kernel)), (List.mem_of_getElem? (i := 70) (by decide +kernel)), ⟨by decide +kernel, by decide +kernel⟩, by decide +kernel⟩
theorem kV_X6_thrown : gwV yX6_thrown := ⟨(List.mem_of_getElem? (i := 890) (by decide +kernel)), (List.mem_of_getElem? (i := 891) (by decide +kernel))⟩
theorem kM_X6_untag : gwM yX6_untag cX6_untag 3 (some .int) 1 := ⟨(List.mem_of_getElem? (i := 1031) (by decide +kernel)), (List.mem_of_getElem? (i := 70) (by decide +kernel)), ⟨by decide +kernel, by decide +kernel⟩, by decide +kernel⟩
theorem kV_X6_untag : gwV yX6_untag := ⟨(List.mem_of_getElem? (i := 1029) (by decide +kernel)), (List.mem_of_getElem? (i := 1030) (by decide +kernel))⟩
theorem kM_X6_variable : gwM yX6_variable cX6_variable 3 (some .int) 2 := ⟨(List.mem_of_getElem? (i := 1083) (by decide +kernel)), (List.mem_of_getElem? (i := 70) (by decide +kernel)), ⟨by decide +kernel, by decide +kernel⟩, by decide +kernel⟩
theorem kV_X6_variable : gwV yX6_variable := ⟨(List.mem_of_getElem? (i := 1081) (by decide +kernel)), (List.mem_of_getElem? (i := 1082) (by decide +kernel))⟩
theorem kL_X5_32 : gwL RX5 32 yX4_init := Or.inr ⟨"LayeredImages", (List.mem_of_getElem? (i := 95) (by decide +kernel))⟩
theorem kL_X5_39 : gwL RX5 39 yX0_init := Or.inr ⟨"LayeredImages", (List.mem_of_getElem? (i := 111) (by decide +kernel))⟩
theorem kW_X5_44 : Cond.methodLink RX5 44 yJ7_fill_53178 ∈ lw_tbl := (List.mem_of_getElem? (i := 147) (by decide +kernel))
theorem kL_X5_44 : gwL RX5 44 yJ7_fill_53178 := Or.inl kW_X5_44
theorem kL_X5_50 : gwL RX5 50 yX3_init := Or.inr ⟨"LayeredImages", (List.mem_of_getElem? (i := 150) (by decide +kernel))⟩
theorem kW_X5_51 : Cond.methodLink RX5 51 yX5_requireIndex ∈ lw_tbl := (List.mem_of_getElem? (i := 221) (by decide +kernel))
theorem kL_X5_51 : gwL RX5 51 yX5_requireIndex := Or.inl kW_X5_51
theorem kW_X5_55 : Cond.methodLink RX5 55 yX5_requireContent ∈ lw_tbl := (List.mem_of_getElem? (i := 295) (by decide +kernel))
theorem kL_X5_55 : gwL RX5 55 yX5_requireContent := Or.inl kW_X5_55
theorem kW_X5_59 : Cond.methodLink RX5 59 yX5_recipeAt ∈ lw_tbl := (List.mem_of_getElem? (i := 328) (by decide +kernel))
theorem kL_X5_59 : gwL RX5 59 yX5_recipeAt := Or.inl kW_X5_59
theorem kL_X5_67 : gwL RX5 67 yX3_clearOn := Or.inr ⟨"LayeredImages", (List.mem_of_getElem? (i := 333) (by decide +kernel))⟩
theorem kW_X5_70 : Cond.methodLink RX5 70 yX5_addInstruction ∈ lw_tbl := (List.mem_of_getElem? (i := 345) (by decide +kernel))
theorem kL_X5_70 : gwL RX5 70 yX5_addInstruction := Or.inl kW_X5_70
theorem kL_X5_83 : gwL RX5 83 yX3_removeAt := Or.inr ⟨"LayeredImages", (List.mem_of_getElem? (i := 423) (by decide +kernel))⟩
theorem kW_X5_86 : Cond.methodLink RX5 86 yX5_requireNoBuild ∈ lw_tbl := (List.mem_of_getElem? (i := 441) (by decide +kernel))
theorem kL_X5_86 : gwL RX5 86 yX5_requireNoBuild := Or.inl kW_X5_86
theorem kW_X5_89 : Cond.methodLink RX5 89 yX5_requireOpen ∈ lw_tbl := (List.mem_of_getElem? (i := 447) (by decide +kernel))
theorem kL_X5_89 : gwL RX5 89 yX5_requireOpen := Or.inl kW_X5_89
theorem kW_X5_95 : Cond.methodLink RX5 95 yX5_rootFor ∈ lw_tbl := (List.mem_of_getElem? (i := 452) (by decide +kernel))
theorem kL_X5_95 : gwL RX5 95 yX5_rootFor := Or.inl kW_X5_95
theorem kL_X5_99 : gwL RX5 99 yX0_begin := Or.inr ⟨"LayeredImages", (List.mem_of_getElem? (i := 519) (by decide +kernel))⟩
theorem kL_X5_106 : gwL RX5 106 yX0_upcoming := Or.inr ⟨"LayeredImages", (List.mem_of_getElem? (i := 540) (by decide +kernel))⟩
theorem kL_X5_119 : gwL RX5 119 yX1_inputFrom := Or.inr ⟨"LayeredImages", (List.mem_of_getElem? (i := 546) (by decide +kernel))⟩
theorem kL_X5_125 : gwL RX5 125 yX1_failsOn := Or.inr ⟨"LayeredImages", (List.mem_of_getElem? (i := 551) (by decide +kernel))⟩
theorem kL_X5_129 : gwL RX5 129 yX0_fail := Or.inr ⟨"LayeredImages", (List.mem_of_getElem? (i := 560) (by decide +kernel))⟩
theorem kW_X5_132 : Cond.methodLink RX5 132 yX5_layerOfStep ∈ lw_tbl := (List.mem_of_getElem? (i := 564) (by decide +kernel))
theorem kL_X5_132 : gwL RX5 132 yX5_layerOfStep := Or.inl kW_X5_132
theorem kL_X5_136 : gwL RX5 136 yX0_advanceTo := Or.inr ⟨"LayeredImages", (List.mem_of_getElem? (i := 610) (by decide +kernel))⟩
theorem kW_X5_140 : Cond.methodLink RX5 140 yX5_start ∈ lw_tbl := (List.mem_of_getElem? (i := 621) (by decide +kernel))
theorem kL_X5_140 : gwL RX5 140 yX5_start := Or.inl kW_X5_140
theorem kL_X5_144 : gwL RX5 144 yX0_goesOn := Or.inr ⟨"LayeredImages", (List.mem_of_getElem? (i := 445) (by decide +kernel))⟩
theorem kW_X5_148 : Cond.methodLink RX5 148 yX5_step ∈ lw_tbl := (List.mem_of_getElem? (i := 622) (by decide +kernel))
theorem kL_X5_148 : gwL RX5 148 yX5_step := Or.inl kW_X5_148
theorem kW_X5_152 : Cond.methodLink RX5 152 yX5_built ∈ lw_tbl := (List.mem_of_getElem? (i := 623) (by decide +kernel))
theorem kL_X5_152 : gwL RX5 152 yX5_built := Or.inl kW_X5_152
theorem kL_X5_155 : gwL RX5 155 yX0_left := Or.inr ⟨"LayeredImages", (List.mem_of_getElem? (i := 180) (by decide +kernel))⟩
theorem kL_X5_158 : gwL RX5 158 yX0_finished := Or.inr ⟨"LayeredImages", (List.mem_of_getElem? (i := 188) (by decide +kernel))⟩
theorem kW_X5_162 : Cond.methodLink RX5 162 yX5_numberOf ∈ lw_tbl := (List.mem_of_getElem? (i := 197) (by decide +kernel))
theorem kL_X5_162 : gwL RX5 162 yX5_numberOf := Or.inl kW_X5_162
theorem kW_X5_172 : Cond.methodLink RX5 172 yX5_contentsOf ∈ lw_tbl := (List.mem_of_getElem? (i := 456) (by decide +kernel))
theorem kL_X5_172 : gwL RX5 172 yX5_contentsOf := Or.inl kW_X5_172
theorem kL_X5_176 : gwL RX5 176 yX2_init := Or.inr ⟨"LayeredImages", (List.mem_of_getElem? (i := 631) (by decide +kernel))⟩
theorem kL_X5_179 : gwL RX5 179 yX3_at := Or.inr ⟨"LayeredImages", (List.mem_of_getElem? (i := 632) (by decide +kernel))⟩
theorem kL_X5_183 : gwL RX5 183 yX1_carryOut := Or.inr ⟨"LayeredImages", (List.mem_of_getElem? (i := 633) (by decide +kernel))⟩
theorem kL_X5_187 : gwL RX5 187 yX2_fingerprint := Or.inr ⟨"LayeredImages", (List.mem_of_getElem? (i := 634) (by decide +kernel))⟩
theorem kL_X5_202 : gwL RX5 202 yX2_partAt := Or.inr ⟨"LayeredImages", (List.mem_of_getElem? (i := 670) (by decide +kernel))⟩
theorem kL_X5_205 : gwL RX5 205 yX4_newChild := Or.inr ⟨"LayeredImages", (List.mem_of_getElem? (i := 580) (by decide +kernel))⟩
theorem kL_X5_209 : gwL RX5 209 yX2_showLike := Or.inr ⟨"LayeredImages", (List.mem_of_getElem? (i := 674) (by decide +kernel))⟩
theorem kL_X5_212 : gwL RX5 212 yX2_holdLike := Or.inr ⟨"LayeredImages", (List.mem_of_getElem? (i := 690) (by decide +kernel))⟩
theorem kL_X5_218 : gwL RX5 218 yX4_find := Or.inr ⟨"LayeredImages", (List.mem_of_getElem? (i := 701) (by decide +kernel))⟩
theorem kW_X5_221 : Cond.methodLink RX5 221 yX5_isInTaggedImage ∈ lw_tbl := (List.mem_of_getElem? (i := 702) (by decide +kernel))
theorem kL_X5_221 : gwL RX5 221 yX5_isInTaggedImage := Or.inl kW_X5_221
theorem kL_X5_225 : gwL RX5 225 yX4_remove := Or.inr ⟨"LayeredImages", (List.mem_of_getElem? (i := 706) (by decide +kernel))⟩
theorem kL_X5_228 : gwL RX5 228 yX0_forget := Or.inr ⟨"LayeredImages", (List.mem_of_getElem? (i := 710) (by decide +kernel))⟩
theorem kW_X5_231 : Cond.methodLink RX5 231 yX5_layerAt ∈ lw_tbl := (List.mem_of_getElem? (i := 721) (by decide +kernel))
theorem kL_X5_231 : gwL RX5 231 yX5_layerAt := Or.inl kW_X5_231
theorem kL_X5_237 : gwL RX5 237 yX2_size := Or.inr ⟨"LayeredImages", (List.mem_of_getElem? (i := 733) (by decide +kernel))⟩
theorem kL_X5_240 : gwL RX5 240 yX2_holds := Or.inr ⟨"LayeredImages", (List.mem_of_getElem? (i := 744) (by decide +kernel))⟩
theorem kL_X5_243 : gwL RX5 243 yX2_shows := Or.inr ⟨"LayeredImages", (List.mem_of_getElem? (i := 755) (by decide +kernel))⟩
theorem kL_X5_246 : gwL RX5 246 yX2_value := Or.inr ⟨"LayeredImages", (List.mem_of_getElem? (i := 763) (by decide +kernel))⟩
theorem kW_X5_249 : Cond.methodLink RX5 249 yX5_isIn ∈ lw_tbl := (List.mem_of_getElem? (i := 224) (by decide +kernel))
theorem kL_X5_249 : gwL RX5 249 yX5_isIn := Or.inl kW_X5_249
theorem kL_X5_267 : gwL RX5 267 yX1_init := Or.inr ⟨"LayeredImages", (List.mem_of_getElem? (i := 367) (by decide +kernel))⟩
theorem kL_X5_270 : gwL RX5 270 yX3_append := Or.inr ⟨"LayeredImages", (List.mem_of_getElem? (i := 381) (by decide +kernel))⟩
theorem kL_X5_274 : gwL RX5 274 yX4_findRoot := Or.inr ⟨"LayeredImages", (List.mem_of_getElem? (i := 460) (by decide +kernel))⟩
theorem kL_X5_278 : gwL RX5 278 yX4_newRoot := Or.inr ⟨"LayeredImages", (List.mem_of_getElem? (i := 474) (by decide +kernel))⟩
theorem kL_X5_281 : gwL RX5 281 yX4_findMade := Or.inr ⟨"LayeredImages", (List.mem_of_getElem? (i := 568) (by decide +kernel))⟩
theorem kL_X5_284 : gwL RX5 284 yX2_becomeMadeBy := Or.inr ⟨"LayeredImages", (List.mem_of_getElem? (i := 587) (by decide +kernel))⟩
theorem kL_X0_9 : gwL RX0 9 yX3_init := Or.inr ⟨"LayeredImages", (List.mem_of_getElem? (i := 117) (by decide +kernel))⟩
theorem kL_X0_16 : gwL RX0 16 yX3_becomeLike := Or.inr ⟨"LayeredImages", (List.mem_of_getElem? (i := 523) (by decide +kernel))⟩
theorem kW_X0_31 : Cond.methodLink RX0 31 yX0_left ∈ lw_tbl := (List.mem_of_getElem? (i := 196) (by decide +kernel))
theorem kL_X0_31 : gwL RX0 31 yX0_left := Or.inl kW_X0_31
theorem kW_X0_35 : Cond.methodLink RX0 35 yX0_goesOn ∈ lw_tbl := (List.mem_of_getElem? (i := 192) (by decide +kernel))
theorem kL_X0_35 : gwL RX0 35 yX0_goesOn := Or.inl kW_X0_35
theorem kL_X0_39 : gwL RX0 39 yX3_at := Or.inr ⟨"LayeredImages", (List.mem_of_getElem? (i := 544) (by decide +kernel))⟩
theorem kL_X1_21 : gwL RX1 21 yX5_isIn := Or.inr ⟨"LayeredImages", (List.mem_of_getElem? (i := 550) (by decide +kernel))⟩
theorem kL_X1_25 : gwL RX1 25 yX2_shows := Or.inr ⟨"LayeredImages", (List.mem_of_getElem? (i := 555) (by decide +kernel))⟩
theorem kL_X1_31 : gwL RX1 31 yX2_hold := Or.inr ⟨"LayeredImages", (List.mem_of_getElem? (i := 595) (by decide +kernel))⟩
theorem kL_X1_35 : gwL RX1 35 yX2_value := Or.inr ⟨"LayeredImages", (List.mem_of_getElem? (i := 599) (by decide +kernel))⟩
theorem kW_X1_38 : Cond.methodLink RX1 38 yX1_runOn ∈ lw_tbl := (List.mem_of_getElem? (i := 603) (by decide +kernel))
theorem kL_X1_38 : gwL RX1 38 yX1_runOn := Or.inl kW_X1_38
theorem kL_X1_42 : gwL RX1 42 yX2_assign := Or.inr ⟨"LayeredImages", (List.mem_of_getElem? (i := 606) (by decide +kernel))⟩
theorem kL_X2_35 : gwL RX2 35 yX5_isIn := Or.inr ⟨"LayeredImages", (List.mem_of_getElem? (i := 559) (by decide +kernel))⟩
theorem kL_X2_43 : gwL RX2 43 yX1_carryOut := Or.inr ⟨"LayeredImages", (List.mem_of_getElem? (i := 591) (by decide +kernel))⟩
theorem kL_X2_49 : gwL RX2 49 yX1_isSameAs := Or.inr ⟨"LayeredImages", (List.mem_of_getElem? (i := 576) (by decide +kernel))⟩
theorem kW_X2_53 : Cond.methodLink RX2 53 yX2_hold ∈ lw_tbl := (List.mem_of_getElem? (i := 678) (by decide +kernel))
theorem kL_X2_53 : gwL RX2 53 yX2_hold := Or.inl kW_X2_53
theorem kW_X2_57 : Cond.methodLink RX2 57 yX2_assignLike ∈ lw_tbl := (List.mem_of_getElem? (i := 679) (by decide +kernel))
theorem kL_X2_57 : gwL RX2 57 yX2_assignLike := Or.inl kW_X2_57
theorem kL_X3_17 : gwL RX3 17 yX5_isIn := Or.inr ⟨"LayeredImages", (List.mem_of_getElem? (i := 385) (by decide +kernel))⟩
theorem kW_X3_28 : Cond.methodLink RX3 28 yX3_clearOn ∈ lw_tbl := (List.mem_of_getElem? (i := 527) (by decide +kernel))
theorem kL_X3_28 : gwL RX3 28 yX3_clearOn := Or.inl kW_X3_28
theorem kW_X3_32 : Cond.methodLink RX3 32 yX3_at ∈ lw_tbl := (List.mem_of_getElem? (i := 528) (by decide +kernel))
theorem kL_X3_32 : gwL RX3 32 yX3_at := Or.inl kW_X3_32
theorem kW_X3_36 : Cond.methodLink RX3 36 yX3_append ∈ lw_tbl := (List.mem_of_getElem? (i := 532) (by decide +kernel))
theorem kL_X3_36 : gwL RX3 36 yX3_append := Or.inl kW_X3_36
theorem kL_X4_17 : gwL RX4 17 yX5_isIn := Or.inr ⟨"LayeredImages", (List.mem_of_getElem? (i := 468) (by decide +kernel))⟩
theorem kW_X4_25 : Cond.methodLink RX4 25 yX4_find ∈ lw_tbl := (List.mem_of_getElem? (i := 464) (by decide +kernel))
theorem kL_X4_25 : gwL RX4 25 yX4_find := Or.inl kW_X4_25
theorem kL_X4_29 : gwL RX4 29 yX2_isRootOf := Or.inr ⟨"LayeredImages", (List.mem_of_getElem? (i := 469) (by decide +kernel))⟩
theorem kL_X4_40 : gwL RX4 40 yX2_wasMadeBy := Or.inr ⟨"LayeredImages", (List.mem_of_getElem? (i := 572) (by decide +kernel))⟩
theorem kL_X4_44 : gwL RX4 44 yX2_init := Or.inr ⟨"LayeredImages", (List.mem_of_getElem? (i := 478) (by decide +kernel))⟩
theorem kW_X4_47 : Cond.methodLink RX4 47 yX4_kept ∈ lw_tbl := (List.mem_of_getElem? (i := 512) (by decide +kernel))
theorem kL_X4_47 : gwL RX4 47 yX4_kept := Or.inl kW_X4_47
theorem kL_X4_51 : gwL RX4 51 yX2_init_ := Or.inr ⟨"LayeredImages", (List.mem_of_getElem? (i := 584) (by decide +kernel))⟩
theorem kW_L_7 : Cond.methodLink RL 7 yX5_setFile ∈ lw_tbl := (List.mem_of_getElem? (i := 217) (by decide +kernel))
theorem kL_L_7 : gwL RL 7 yX5_setFile := Or.inl kW_L_7
theorem kW_L_17 : Cond.methodLink RL 17 yX5_setBase ∈ lw_tbl := (List.mem_of_getElem? (i := 317) (by decide +kernel))
theorem kL_L_17 : gwL RL 17 yX5_setBase := Or.inl kW_L_17
theorem kW_L_21 : Cond.methodLink RL 21 yX5_reset ∈ lw_tbl := (List.mem_of_getElem? (i := 324) (by decide +kernel))
theorem kL_L_21 : gwL RL 21 yX5_reset := Or.inl kW_L_21
theorem kW_L_24 : Cond.methodLink RL 24 yX5_addCopy ∈ lw_tbl := (List.mem_of_getElem? (i := 341) (by decide +kernel))
theorem kL_L_24 : gwL RL 24 yX5_addCopy := Or.inl kW_L_24
theorem kW_L_29 : Cond.methodLink RL 29 yX5_addRun ∈ lw_tbl := (List.mem_of_getElem? (i := 389) (by decide +kernel))
theorem kL_L_29 : gwL RL 29 yX5_addRun := Or.inl kW_L_29
theorem kW_L_32 : Cond.methodLink RL 32 yX5_addMove ∈ lw_tbl := (List.mem_of_getElem? (i := 396) (by decide +kernel))
theorem kL_L_32 : gwL RL 32 yX5_addMove := Or.inl kW_L_32
theorem kW_L_35 : Cond.methodLink RL 35 yX5_addRemove ∈ lw_tbl := (List.mem_of_getElem? (i := 404) (by decide +kernel))
theorem kL_L_35 : gwL RL 35 yX5_addRemove := Or.inl kW_L_35
theorem kW_L_38 : Cond.methodLink RL 38 yX5_addSet ∈ lw_tbl := (List.mem_of_getElem? (i := 411) (by decide +kernel))
theorem kL_L_38 : gwL RL 38 yX5_addSet := Or.inl kW_L_38
theorem kW_L_41 : Cond.methodLink RL 41 yX5_drop ∈ lw_tbl := (List.mem_of_getElem? (i := 419) (by decide +kernel))
theorem kL_L_41 : gwL RL 41 yX5_drop := Or.inl kW_L_41
theorem kW_L_44 : Cond.methodLink RL 44 yX5_instructions ∈ lw_tbl := (List.mem_of_getElem? (i := 430) (by decide +kernel))
theorem kL_L_44 : gwL RL 44 yX5_instructions := Or.inl kW_L_44
theorem kW_L_48 : Cond.methodLink RL 48 yX5_start ∈ lw_tbl := (List.mem_of_getElem? (i := 437) (by decide +kernel))
theorem kL_L_48 : gwL RL 48 yX5_start := Or.inl kW_L_48
theorem kW_L_51 : Cond.methodLink RL 51 yX5_step ∈ lw_tbl := (List.mem_of_getElem? (i := 536) (by decide +kernel))
theorem kL_L_51 : gwL RL 51 yX5_step := Or.inl kW_L_51
theorem kW_L_55 : Cond.methodLink RL 55 yX5_build ∈ lw_tbl := (List.mem_of_getElem? (i := 617) (by decide +kernel))
theorem kL_L_55 : gwL RL 55 yX5_build := Or.inl kW_L_55
theorem kW_L_58 : Cond.methodLink RL 58 yX5_cleanDigest ∈ lw_tbl := (List.mem_of_getElem? (i := 627) (by decide +kernel))
theorem kL_L_58 : gwL RL 58 yX5_cleanDigest := Or.inl kW_L_58
theorem kW_L_61 : Cond.methodLink RL 61 yX5_tag ∈ lw_tbl := (List.mem_of_getElem? (i := 642) (by decide +kernel))
theorem kL_L_61 : gwL RL 61 yX5_tag := Or.inl kW_L_61
theorem kW_L_64 : Cond.methodLink RL 64 yX5_untag ∈ lw_tbl := (List.mem_of_getElem? (i := 650) (by decide +kernel))
theorem kL_L_64 : gwL RL 64 yX5_untag := Or.inl kW_L_64
theorem kW_L_67 : Cond.methodLink RL 67 yX5_tagged ∈ lw_tbl := (List.mem_of_getElem? (i := 657) (by decide +kernel))
theorem kL_L_67 : gwL RL 67 yX5_tagged := Or.inl kW_L_67
theorem kW_L_70 : Cond.methodLink RL 70 yX5_squash ∈ lw_tbl := (List.mem_of_getElem? (i := 664) (by decide +kernel))
theorem kL_L_70 : gwL RL 70 yX5_squash := Or.inl kW_L_70
theorem kW_L_73 : Cond.methodLink RL 73 yX5_rebase ∈ lw_tbl := (List.mem_of_getElem? (i := 686) (by decide +kernel))
theorem kL_L_73 : gwL RL 73 yX5_rebase := Or.inl kW_L_73
theorem kW_L_76 : Cond.methodLink RL 76 yX5_prune ∈ lw_tbl := (List.mem_of_getElem? (i := 697) (by decide +kernel))
theorem kL_L_76 : gwL RL 76 yX5_prune := Or.inl kW_L_76
theorem kW_L_79 : Cond.methodLink RL 79 yX5_parentOf ∈ lw_tbl := (List.mem_of_getElem? (i := 717) (by decide +kernel))
theorem kL_L_79 : gwL RL 79 yX5_parentOf := Or.inl kW_L_79
theorem kW_L_82 : Cond.methodLink RL 82 yX5_sizeOf ∈ lw_tbl := (List.mem_of_getElem? (i := 729) (by decide +kernel))
theorem kL_L_82 : gwL RL 82 yX5_sizeOf := Or.inl kW_L_82
theorem kW_L_85 : Cond.methodLink RL 85 yX5_heldAt ∈ lw_tbl := (List.mem_of_getElem? (i := 740) (by decide +kernel))
theorem kL_L_85 : gwL RL 85 yX5_heldAt := Or.inl kW_L_85
theorem kW_L_88 : Cond.methodLink RL 88 yX5_shownAt ∈ lw_tbl := (List.mem_of_getElem? (i := 751) (by decide +kernel))
theorem kL_L_88 : gwL RL 88 yX5_shownAt := Or.inl kW_L_88
theorem kW_L_91 : Cond.methodLink RL 91 yX5_variable ∈ lw_tbl := (List.mem_of_getElem? (i := 759) (by decide +kernel))
theorem kL_L_91 : gwL RL 91 yX5_variable := Or.inl kW_L_91
theorem kW_L_94 : Cond.methodLink RL 94 yX5_depth ∈ lw_tbl := (List.mem_of_getElem? (i := 767) (by decide +kernel))
theorem kL_L_94 : gwL RL 94 yX5_depth := Or.inl kW_L_94
theorem kW_L_97 : Cond.methodLink RL 97 yX5_imageSize ∈ lw_tbl := (List.mem_of_getElem? (i := 774) (by decide +kernel))
theorem kL_L_97 : gwL RL 97 yX5_imageSize := Or.inl kW_L_97
theorem kW_L_100 : Cond.methodLink RL 100 yX5_digest ∈ lw_tbl := (List.mem_of_getElem? (i := 781) (by decide +kernel))
theorem kL_L_100 : gwL RL 100 yX5_digest := Or.inl kW_L_100
theorem kW_L_103 : Cond.methodLink RL 103 yX5_init ∈ lw_tbl := (List.mem_of_getElem? (i := 81) (by decide +kernel))
theorem kL_L_103 : gwL RL 103 yX5_init := Or.inl kW_L_103
theorem kW_L_106 : Cond.methodLink RL 106 yX6_init ∈ lw_tbl := (List.mem_of_getElem? (i := 787) (by decide +kernel))
theorem kL_L_106 : gwL RL 106 yX6_init := Or.inl kW_L_106
theorem kW_L_107 : Cond.methodLink RL 107 yL_setFile ∈ lw_tbl := (List.mem_of_getElem? (i := 212) (by decide +kernel))
theorem kL_L_107 : gwL RL 107 yL_setFile := Or.inl kW_L_107
theorem kW_L_112 : Cond.methodLink RL 112 yX6_setFile ∈ lw_tbl := (List.mem_of_getElem? (i := 893) (by decide +kernel))
theorem kL_L_112 : gwL RL 112 yX6_setFile := Or.inl kW_L_112
theorem kW_L_113 : Cond.methodLink RL 113 yX6_thrown ∈ lw_tbl := (List.mem_of_getElem? (i := 889) (by decide +kernel))
theorem kL_L_113 : gwL RL 113 yX6_thrown := Or.inl kW_L_113
theorem kW_L_116 : Cond.methodLink RL 116 yL_setBase ∈ lw_tbl := (List.mem_of_getElem? (i := 314) (by decide +kernel))
theorem kL_L_116 : gwL RL 116 yL_setBase := Or.inl kW_L_116
theorem kW_L_119 : Cond.methodLink RL 119 yX6_setBase ∈ lw_tbl := (List.mem_of_getElem? (i := 907) (by decide +kernel))
theorem kL_L_119 : gwL RL 119 yX6_setBase := Or.inl kW_L_119
theorem kW_L_120 : Cond.methodLink RL 120 yL_reset ∈ lw_tbl := (List.mem_of_getElem? (i := 321) (by decide +kernel))
theorem kL_L_120 : gwL RL 120 yL_reset := Or.inl kW_L_120
theorem kW_L_122 : Cond.methodLink RL 122 yX6_reset ∈ lw_tbl := (List.mem_of_getElem? (i := 911) (by decide +kernel))
theorem kL_L_122 : gwL RL 122 yX6_reset := Or.inl kW_L_122
theorem kW_L_123 : Cond.methodLink RL 123 yL_addCopy ∈ lw_tbl := (List.mem_of_getElem? (i := 337) (by decide +kernel))
theorem kL_L_123 : gwL RL 123 yL_addCopy := Or.inl kW_L_123
theorem kW_L_125 : Cond.methodLink RL 125 yX6_addCopy ∈ lw_tbl := (List.mem_of_getElem? (i := 915) (by decide +kernel))
theorem kL_L_125 : gwL RL 125 yX6_addCopy := Or.inl kW_L_125
theorem kW_L_126 : Cond.methodLink RL 126 yL_addRun ∈ lw_tbl := (List.mem_of_getElem? (i := 386) (by decide +kernel))
theorem kL_L_126 : gwL RL 126 yL_addRun := Or.inl kW_L_126
theorem kW_L_128 : Cond.methodLink RL 128 yX6_addRun ∈ lw_tbl := (List.mem_of_getElem? (i := 923) (by decide +kernel))
theorem kL_L_128 : gwL RL 128 yX6_addRun := Or.inl kW_L_128
theorem kW_L_129 : Cond.methodLink RL 129 yL_addMove ∈ lw_tbl := (List.mem_of_getElem? (i := 393) (by decide +kernel))
theorem kL_L_129 : gwL RL 129 yL_addMove := Or.inl kW_L_129
theorem kW_L_131 : Cond.methodLink RL 131 yX6_addMove ∈ lw_tbl := (List.mem_of_getElem? (i := 927) (by decide +kernel))
theorem kL_L_131 : gwL RL 131 yX6_addMove := Or.inl kW_L_131
theorem kW_L_132 : Cond.methodLink RL 132 yL_addRemove ∈ lw_tbl := (List.mem_of_getElem? (i := 401) (by decide +kernel))
theorem kL_L_132 : gwL RL 132 yL_addRemove := Or.inl kW_L_132
theorem kW_L_134 : Cond.methodLink RL 134 yX6_addRemove ∈ lw_tbl := (List.mem_of_getElem? (i := 931) (by decide +kernel))
theorem kL_L_134 : gwL RL 134 yX6_addRemove := Or.inl kW_L_134
theorem kW_L_135 : Cond.methodLink RL 135 yL_addSet ∈ lw_tbl := (List.mem_of_getElem? (i := 408) (by decide +kernel))
theorem kL_L_135 : gwL RL 135 yL_addSet := Or.inl kW_L_135
theorem kW_L_137 : Cond.methodLink RL 137 yX6_addSet ∈ lw_tbl := (List.mem_of_getElem? (i := 935) (by decide +kernel))
theorem kL_L_137 : gwL RL 137 yX6_addSet := Or.inl kW_L_137
theorem kW_L_138 : Cond.methodLink RL 138 yL_drop ∈ lw_tbl := (List.mem_of_getElem? (i := 416) (by decide +kernel))
theorem kL_L_138 : gwL RL 138 yL_drop := Or.inl kW_L_138
theorem kW_L_140 : Cond.methodLink RL 140 yX6_drop ∈ lw_tbl := (List.mem_of_getElem? (i := 939) (by decide +kernel))
theorem kL_L_140 : gwL RL 140 yX6_drop := Or.inl kW_L_140
theorem kW_L_141 : Cond.methodLink RL 141 yL_instructions ∈ lw_tbl := (List.mem_of_getElem? (i := 427) (by decide +kernel))
theorem kL_L_141 : gwL RL 141 yL_instructions := Or.inl kW_L_141
theorem kW_L_144 : Cond.methodLink RL 144 yX6_instructions ∈ lw_tbl := (List.mem_of_getElem? (i := 943) (by decide +kernel))
theorem kL_L_144 : gwL RL 144 yX6_instructions := Or.inl kW_L_144
theorem kW_L_145 : Cond.methodLink RL 145 yL_start ∈ lw_tbl := (List.mem_of_getElem? (i := 434) (by decide +kernel))
theorem kL_L_145 : gwL RL 145 yL_start := Or.inl kW_L_145
theorem kW_L_147 : Cond.methodLink RL 147 yX6_start ∈ lw_tbl := (List.mem_of_getElem? (i := 947) (by decide +kernel))
theorem kL_L_147 : gwL RL 147 yX6_start := Or.inl kW_L_147
theorem kW_L_148 : Cond.methodLink RL 148 yL_step ∈ lw_tbl := (List.mem_of_getElem? (i := 533) (by decide +kernel))
theorem kL_L_148 : gwL RL 148 yL_step := Or.inl kW_L_148
theorem kW_L_151 : Cond.methodLink RL 151 yX6_step ∈ lw_tbl := (List.mem_of_getElem? (i := 963) (by decide +kernel))
theorem kL_L_151 : gwL RL 151 yX6_step := Or.inl kW_L_151
theorem kW_L_152 : Cond.methodLink RL 152 yL_build ∈ lw_tbl := (List.mem_of_getElem? (i := 614) (by decide +kernel))
theorem kL_L_152 : gwL RL 152 yL_build := Or.inl kW_L_152
theorem kW_L_154 : Cond.methodLink RL 154 yX6_build ∈ lw_tbl := (List.mem_of_getElem? (i := 987) (by decide +kernel))
theorem kL_L_154 : gwL RL 154 yX6_build := Or.inl kW_L_154
theorem kW_L_155 : Cond.methodLink RL 155 yX5_stepsLeft ∈ lw_tbl := (List.mem_of_getElem? (i := 176) (by decide +kernel))
theorem kL_L_155 : gwL RL 155 yX5_stepsLeft := Or.inl kW_L_155
theorem kW_L_158 : Cond.methodLink RL 158 yX6_stepsLeft ∈ lw_tbl := (List.mem_of_getElem? (i := 991) (by decide +kernel))
theorem kL_L_158 : gwL RL 158 yX6_stepsLeft := Or.inl kW_L_158
theorem kW_L_159 : Cond.methodLink RL 159 yX5_built ∈ lw_tbl := (List.mem_of_getElem? (i := 184) (by decide +kernel))
theorem kL_L_159 : gwL RL 159 yX5_built := Or.inl kW_L_159
theorem kW_L_162 : Cond.methodLink RL 162 yX6_built ∈ lw_tbl := (List.mem_of_getElem? (i := 999) (by decide +kernel))
theorem kL_L_162 : gwL RL 162 yX6_built := Or.inl kW_L_162
theorem kW_L_163 : Cond.methodLink RL 163 yX5_hits ∈ lw_tbl := (List.mem_of_getElem? (i := 200) (by decide +kernel))
theorem kL_L_163 : gwL RL 163 yX5_hits := Or.inl kW_L_163
theorem kW_L_166 : Cond.methodLink RL 166 yX6_hits ∈ lw_tbl := (List.mem_of_getElem? (i := 1007) (by decide +kernel))
theorem kL_L_166 : gwL RL 166 yX6_hits := Or.inl kW_L_166
theorem kW_L_167 : Cond.methodLink RL 167 yX5_misses ∈ lw_tbl := (List.mem_of_getElem? (i := 204) (by decide +kernel))
theorem kL_L_167 : gwL RL 167 yX5_misses := Or.inl kW_L_167
theorem kW_L_170 : Cond.methodLink RL 170 yX6_misses ∈ lw_tbl := (List.mem_of_getElem? (i := 1011) (by decide +kernel))
theorem kL_L_170 : gwL RL 170 yX6_misses := Or.inl kW_L_170
theorem kW_L_171 : Cond.methodLink RL 171 yL_cleanDigest ∈ lw_tbl := (List.mem_of_getElem? (i := 624) (by decide +kernel))
theorem kL_L_171 : gwL RL 171 yL_cleanDigest := Or.inl kW_L_171
theorem kW_L_173 : Cond.methodLink RL 173 yX6_cleanDigest ∈ lw_tbl := (List.mem_of_getElem? (i := 1015) (by decide +kernel))
theorem kL_L_173 : gwL RL 173 yX6_cleanDigest := Or.inl kW_L_173
theorem kW_L_174 : Cond.methodLink RL 174 yL_tag ∈ lw_tbl := (List.mem_of_getElem? (i := 639) (by decide +kernel))
theorem kL_L_174 : gwL RL 174 yL_tag := Or.inl kW_L_174
theorem kW_L_176 : Cond.methodLink RL 176 yX6_tag ∈ lw_tbl := (List.mem_of_getElem? (i := 1024) (by decide +kernel))
theorem kL_L_176 : gwL RL 176 yX6_tag := Or.inl kW_L_176
theorem kW_L_177 : Cond.methodLink RL 177 yL_untag ∈ lw_tbl := (List.mem_of_getElem? (i := 647) (by decide +kernel))
theorem kL_L_177 : gwL RL 177 yL_untag := Or.inl kW_L_177
theorem kW_L_179 : Cond.methodLink RL 179 yX6_untag ∈ lw_tbl := (List.mem_of_getElem? (i := 1028) (by decide +kernel))
theorem kL_L_179 : gwL RL 179 yX6_untag := Or.inl kW_L_179
theorem kW_L_180 : Cond.methodLink RL 180 yL_tagged ∈ lw_tbl := (List.mem_of_getElem? (i := 654) (by decide +kernel))
theorem kL_L_180 : gwL RL 180 yL_tagged := Or.inl kW_L_180
theorem kW_L_182 : Cond.methodLink RL 182 yX6_tagged ∈ lw_tbl := (List.mem_of_getElem? (i := 1032) (by decide +kernel))
theorem kL_L_182 : gwL RL 182 yX6_tagged := Or.inl kW_L_182
theorem kW_L_183 : Cond.methodLink RL 183 yL_squash ∈ lw_tbl := (List.mem_of_getElem? (i := 661) (by decide +kernel))
theorem kL_L_183 : gwL RL 183 yL_squash := Or.inl kW_L_183
theorem kW_L_185 : Cond.methodLink RL 185 yX6_squash ∈ lw_tbl := (List.mem_of_getElem? (i := 1036) (by decide +kernel))
theorem kL_L_185 : gwL RL 185 yX6_squash := Or.inl kW_L_185
theorem kW_L_186 : Cond.methodLink RL 186 yL_rebase ∈ lw_tbl := (List.mem_of_getElem? (i := 683) (by decide +kernel))
theorem kL_L_186 : gwL RL 186 yL_rebase := Or.inl kW_L_186
theorem kW_L_188 : Cond.methodLink RL 188 yX6_rebase ∈ lw_tbl := (List.mem_of_getElem? (i := 1044) (by decide +kernel))
theorem kL_L_188 : gwL RL 188 yX6_rebase := Or.inl kW_L_188
theorem kW_L_189 : Cond.methodLink RL 189 yL_prune ∈ lw_tbl := (List.mem_of_getElem? (i := 694) (by decide +kernel))
theorem kL_L_189 : gwL RL 189 yL_prune := Or.inl kW_L_189
theorem kW_L_191 : Cond.methodLink RL 191 yX6_prune ∈ lw_tbl := (List.mem_of_getElem? (i := 1048) (by decide +kernel))
theorem kL_L_191 : gwL RL 191 yX6_prune := Or.inl kW_L_191
theorem kW_L_192 : Cond.methodLink RL 192 yX5_layers ∈ lw_tbl := (List.mem_of_getElem? (i := 208) (by decide +kernel))
theorem kL_L_192 : gwL RL 192 yX5_layers := Or.inl kW_L_192
theorem kW_L_195 : Cond.methodLink RL 195 yX6_layers ∈ lw_tbl := (List.mem_of_getElem? (i := 1052) (by decide +kernel))
theorem kL_L_195 : gwL RL 195 yX6_layers := Or.inl kW_L_195
theorem kW_L_196 : Cond.methodLink RL 196 yL_parentOf ∈ lw_tbl := (List.mem_of_getElem? (i := 714) (by decide +kernel))
theorem kL_L_196 : gwL RL 196 yL_parentOf := Or.inl kW_L_196
theorem kW_L_198 : Cond.methodLink RL 198 yX6_parentOf ∈ lw_tbl := (List.mem_of_getElem? (i := 1056) (by decide +kernel))
theorem kL_L_198 : gwL RL 198 yX6_parentOf := Or.inl kW_L_198
theorem kW_L_199 : Cond.methodLink RL 199 yL_sizeOf ∈ lw_tbl := (List.mem_of_getElem? (i := 726) (by decide +kernel))
theorem kL_L_199 : gwL RL 199 yL_sizeOf := Or.inl kW_L_199
theorem kW_L_201 : Cond.methodLink RL 201 yX6_sizeOf ∈ lw_tbl := (List.mem_of_getElem? (i := 1064) (by decide +kernel))
theorem kL_L_201 : gwL RL 201 yX6_sizeOf := Or.inl kW_L_201
theorem kW_L_202 : Cond.methodLink RL 202 yL_heldAt ∈ lw_tbl := (List.mem_of_getElem? (i := 737) (by decide +kernel))
theorem kL_L_202 : gwL RL 202 yL_heldAt := Or.inl kW_L_202
theorem kW_L_204 : Cond.methodLink RL 204 yX6_heldAt ∈ lw_tbl := (List.mem_of_getElem? (i := 1072) (by decide +kernel))
theorem kL_L_204 : gwL RL 204 yX6_heldAt := Or.inl kW_L_204
theorem kW_L_205 : Cond.methodLink RL 205 yL_shownAt ∈ lw_tbl := (List.mem_of_getElem? (i := 748) (by decide +kernel))
theorem kL_L_205 : gwL RL 205 yL_shownAt := Or.inl kW_L_205
theorem kW_L_207 : Cond.methodLink RL 207 yX6_shownAt ∈ lw_tbl := (List.mem_of_getElem? (i := 1076) (by decide +kernel))
theorem kL_L_207 : gwL RL 207 yX6_shownAt := Or.inl kW_L_207
theorem kW_L_208 : Cond.methodLink RL 208 yL_variable ∈ lw_tbl := (List.mem_of_getElem? (i := 756) (by decide +kernel))
theorem kL_L_208 : gwL RL 208 yL_variable := Or.inl kW_L_208
theorem kW_L_210 : Cond.methodLink RL 210 yX6_variable ∈ lw_tbl := (List.mem_of_getElem? (i := 1080) (by decide +kernel))
theorem kL_L_210 : gwL RL 210 yX6_variable := Or.inl kW_L_210
theorem kW_L_211 : Cond.methodLink RL 211 yL_depth ∈ lw_tbl := (List.mem_of_getElem? (i := 764) (by decide +kernel))
theorem kL_L_211 : gwL RL 211 yL_depth := Or.inl kW_L_211
theorem kW_L_213 : Cond.methodLink RL 213 yX6_depth ∈ lw_tbl := (List.mem_of_getElem? (i := 1084) (by decide +kernel))
theorem kL_L_213 : gwL RL 213 yX6_depth := Or.inl kW_L_213
theorem kW_L_214 : Cond.methodLink RL 214 yL_imageSize ∈ lw_tbl := (List.mem_of_getElem? (i := 771) (by decide +kernel))
theorem kL_L_214 : gwL RL 214 yL_imageSize := Or.inl kW_L_214
theorem kW_L_216 : Cond.methodLink RL 216 yX6_imageSize ∈ lw_tbl := (List.mem_of_getElem? (i := 1088) (by decide +kernel))
theorem kL_L_216 : gwL RL 216 yX6_imageSize := Or.inl kW_L_216
theorem kW_L_217 : Cond.methodLink RL 217 yL_digest ∈ lw_tbl := (List.mem_of_getElem? (i := 778) (by decide +kernel))
theorem kL_L_217 : gwL RL 217 yL_digest := Or.inl kW_L_217
theorem kW_L_219 : Cond.methodLink RL 219 yX6_digest ∈ lw_tbl := (List.mem_of_getElem? (i := 1092) (by decide +kernel))
theorem kL_L_219 : gwL RL 219 yX6_digest := Or.inl kW_L_219
theorem kW_X6_87 : Cond.methodLink RX6 87 yX6_isIn ∈ lw_tbl := (List.mem_of_getElem? (i := 897) (by decide +kernel))
theorem kL_X6_87 : gwL RX6 87 yX6_isIn := Or.inl kW_X6_87
theorem kW_X6_91 : Cond.methodLink RX6 91 yX6_isContent ∈ lw_tbl := (List.mem_of_getElem? (i := 900) (by decide +kernel))
theorem kL_X6_91 : gwL RX6 91 yX6_isContent := Or.inl kW_X6_91
theorem kW_X6_95 : Cond.methodLink RX6 95 yX6_fails ∈ lw_tbl := (List.mem_of_getElem? (i := 903) (by decide +kernel))
theorem kL_X6_95 : gwL RX6 95 yX6_fails := Or.inl kW_X6_95
theorem kW_X6_98 : Cond.methodLink RX6 98 yX6_adds ∈ lw_tbl := (List.mem_of_getElem? (i := 919) (by decide +kernel))
theorem kL_X6_98 : gwL RX6 98 yX6_adds := Or.inl kW_X6_98
theorem kW_X6_105 : Cond.methodLink RX6 105 yX6_makes ∈ lw_tbl := (List.mem_of_getElem? (i := 959) (by decide +kernel))
theorem kL_X6_105 : gwL RX6 105 yX6_makes := Or.inl kW_X6_105
theorem kW_X6_109 : Cond.methodLink RX6 109 yX6_root ∈ lw_tbl := (List.mem_of_getElem? (i := 955) (by decide +kernel))
theorem kL_X6_109 : gwL RX6 109 yX6_root := Or.inl kW_X6_109
theorem kW_X6_125 : Cond.methodLink RX6 125 yX6_begins ∈ lw_tbl := (List.mem_of_getElem? (i := 951) (by decide +kernel))
theorem kL_X6_125 : gwL RX6 125 yX6_begins := Or.inl kW_X6_125
theorem kW_X6_129 : Cond.methodLink RX6 129 yX6_shows ∈ lw_tbl := (List.mem_of_getElem? (i := 975) (by decide +kernel))
theorem kL_X6_129 : gwL RX6 129 yX6_shows := Or.inl kW_X6_129
theorem kW_X6_133 : Cond.methodLink RX6 133 yX6_canStep ∈ lw_tbl := (List.mem_of_getElem? (i := 971) (by decide +kernel))
theorem kL_X6_133 : gwL RX6 133 yX6_canStep := Or.inl kW_X6_133
theorem kW_X6_136 : Cond.methodLink RX6 136 yX6_cached ∈ lw_tbl := (List.mem_of_getElem? (i := 979) (by decide +kernel))
theorem kL_X6_136 : gwL RX6 136 yX6_cached := Or.inl kW_X6_136
theorem kW_X6_146 : Cond.methodLink RX6 146 yX6_layerFor ∈ lw_tbl := (List.mem_of_getElem? (i := 983) (by decide +kernel))
theorem kL_X6_146 : gwL RX6 146 yX6_layerFor := Or.inl kW_X6_146
theorem kW_X6_149 : Cond.methodLink RX6 149 yX6_goes ∈ lw_tbl := (List.mem_of_getElem? (i := 967) (by decide +kernel))
theorem kL_X6_149 : gwL RX6 149 yX6_goes := Or.inl kW_X6_149
theorem kW_X6_153 : Cond.methodLink RX6 153 yX6_tells ∈ lw_tbl := (List.mem_of_getElem? (i := 995) (by decide +kernel))
theorem kL_X6_153 : gwL RX6 153 yX6_tells := Or.inl kW_X6_153
theorem kW_X6_156 : Cond.methodLink RX6 156 yX6_result ∈ lw_tbl := (List.mem_of_getElem? (i := 1003) (by decide +kernel))
theorem kL_X6_156 : gwL RX6 156 yX6_result := Or.inl kW_X6_156
theorem kW_X6_159 : Cond.methodLink RX6 159 yX6_cleans ∈ lw_tbl := (List.mem_of_getElem? (i := 1019) (by decide +kernel))
theorem kL_X6_159 : gwL RX6 159 yX6_cleans := Or.inl kW_X6_159
theorem kW_X6_164 : Cond.methodLink RX6 164 yX6_deep ∈ lw_tbl := (List.mem_of_getElem? (i := 1040) (by decide +kernel))
theorem kL_X6_164 : gwL RX6 164 yX6_deep := Or.inl kW_X6_164
theorem kW_X6_167 : Cond.methodLink RX6 167 yX6_is ∈ lw_tbl := (List.mem_of_getElem? (i := 1060) (by decide +kernel))
theorem kL_X6_167 : gwL RX6 167 yX6_is := Or.inl kW_X6_167
theorem kW_X6_170 : Cond.methodLink RX6 170 yX6_size ∈ lw_tbl := (List.mem_of_getElem? (i := 1068) (by decide +kernel))
theorem kL_X6_170 : gwL RX6 170 yX6_size := Or.inl kW_X6_170

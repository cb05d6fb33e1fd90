set_option maxRecDepth 100000 in
theorem uX0 : ∀ w ∈ u_ws RX0 TX0 3, w ∈ lw_tbl ∧ (w.onTables && w.keepsFace) = true := by decide +kernel
set_option maxRecDepth 100000 in
theorem uX1 : ∀ w ∈ u_ws RX1 TX1 3, w ∈ lw_tbl ∧ (w.onTables && w.keepsFace) = true := by decide +kernel
set_option maxRecDepth 100000 in
theorem uX2 : ∀ w ∈ u_ws RX2 TX2 8, w ∈ lw_tbl ∧ (w.onTables && w.keepsFace) = true := by decide +kernel
set_option maxRecDepth 100000 in
theorem uX3 : ∀ w ∈ u_ws RX3 TX3 3, w ∈ lw_tbl ∧ (w.onTables && w.keepsFace) = true := by decide +kernel
set_option maxRecDepth 100000 in
theorem uX4 : ∀ w ∈ u_ws RX4 TX4 2, w ∈ lw_tbl ∧ (w.onTables && w.keepsFace) = true := by decide +kernel
set_option maxRecDepth 100000 in
theorem uX5 : ∀ w ∈ u_ws RX5 TX5 8, w ∈ lw_tbl ∧ (w.onTables && w.keepsFace) = true := by decide +kernel
theorem kF_X5_9 : gwF RX5 9 5 0 := ⟨RX5, TX5, 8, rfl, by decide, uX5, Or.inl (List.mem_of_getElem? (i := 134) (by decide +kernel))⟩
theorem kP_X5_9 : gwP RX5 9 5 0 true (tyX5 0) := ⟨RX5, TX5, 8, tyX5, rfl, by decide, uX5, tyX5_ok, nmX5, rfl, tyX5_ok 0 (by decide), fun h => (by exact rfl), Or.inl (List.mem_of_getElem? (i := 134) (by decide +kernel))⟩
theorem kF_X5_15 : gwF RX5 15 5 1 := ⟨RX5, TX5, 8, rfl, by decide, uX5, Or.inl (List.mem_of_getElem? (i := 135) (by decide +kernel))⟩
theorem kP_X5_15 : gwP RX5 15 5 1 true (tyX5 1) := ⟨RX5, TX5, 8, tyX5, rfl, by decide, uX5, tyX5_ok, nmX5, rfl, tyX5_ok 1 (by decide), fun h => (by exact rfl), Or.inl (List.mem_of_getElem? (i := 135) (by decide +kernel))⟩
theorem kF_X5_20 : gwF RX5 20 5 2 := ⟨RX5, TX5, 8, rfl, by decide, uX5, Or.inl (List.mem_of_getElem? (i := 136) (by decide +kernel))⟩
theorem kP_X5_20 : gwP RX5 20 5 2 true (tyX5 2) := ⟨RX5, TX5, 8, tyX5, rfl, by decide, uX5, tyX5_ok, nmX5, rfl, tyX5_ok 2 (by decide), fun h => (by exact rfl), Or.inl (List.mem_of_getElem? (i := 136) (by decide +kernel))⟩
theorem kF_X5_26 : gwF RX5 26 5 3 := ⟨RX5, TX5, 8, rfl, by decide, uX5, Or.inl (List.mem_of_getElem? (i := 137) (by decide +kernel))⟩
theorem kP_X5_26 : gwP RX5 26 5 3 true (tyX5 3) := ⟨RX5, TX5, 8, tyX5, rfl, by decide, uX5, tyX5_ok, nmX5, rfl, tyX5_ok 3 (by decide), fun h => (by exact rfl), Or.inl (List.mem_of_getElem? (i := 137) (by decide +kernel))⟩
theorem kF_X5_33 : gwF RX5 33 5 4 := ⟨RX5, TX5, 8, rfl, by decide, uX5, Or.inl (List.mem_of_getElem? (i := 138) (by decide +kernel))⟩
theorem kP_X5_33 : gwP RX5 33 5 4 true (tyX5 4) := ⟨RX5, TX5, 8, tyX5, rfl, by decide, uX5, tyX5_ok, nmX5, rfl, tyX5_ok 4 (by decide), fun h => (by exact rfl), Or.inl (List.mem_of_getElem? (i := 138) (by decide +kernel))⟩
theorem kF_X5_40 : gwF RX5 40 5 5 := ⟨RX5, TX5, 8, rfl, by decide, uX5, Or.inl (List.mem_of_getElem? (i := 139) (by decide +kernel))⟩
theorem kP_X5_40 : gwP RX5 40 5 5 true (tyX5 5) := ⟨RX5, TX5, 8, tyX5, rfl, by decide, uX5, tyX5_ok, nmX5, rfl, tyX5_ok 5 (by decide), fun h => (by exact rfl), Or.inl (List.mem_of_getElem? (i := 139) (by decide +kernel))⟩
theorem kF_X5_63 : gwF RX5 63 3 2 := ⟨RX3, TX3, 3, rfl, by decide, uX3, Or.inr ⟨"LayeredImages", (List.mem_of_getElem? (i := 111) (by decide +kernel))⟩⟩
theorem kP_X5_63 : gwP RX5 63 3 2 false (tyX3 2) := ⟨RX3, TX3, 3, tyX3, rfl, by decide, uX3, tyX3_ok, nmX3, rfl, tyX3_ok 2 (by decide), fun h => (by exact absurd h (by decide)), Or.inr ⟨rfl, "LayeredImages", (List.mem_of_getElem? (i := 111) (by decide +kernel))⟩⟩
theorem kF_X5_92 : gwF RX5 92 3 1 := ⟨RX3, TX3, 3, rfl, by decide, uX3, Or.inr ⟨"LayeredImages", (List.mem_of_getElem? (i := 108) (by decide +kernel))⟩⟩
theorem kP_X5_92 : gwP RX5 92 3 1 false (tyX3 1) := ⟨RX3, TX3, 3, tyX3, rfl, by decide, uX3, tyX3_ok, nmX3, rfl, tyX3_ok 1 (by decide), fun h => (by exact absurd h (by decide)), Or.inr ⟨rfl, "LayeredImages", (List.mem_of_getElem? (i := 108) (by decide +kernel))⟩⟩
theorem kF_X5_103 : gwF RX5 103 2 0 := ⟨RX2, TX2, 8, rfl, by decide, uX2, Or.inr ⟨"LayeredImages", (List.mem_of_getElem? (i := 418) (by decide +kernel))⟩⟩
theorem kF_X5_110 : gwF RX5 110 0 2 := ⟨RX0, TX0, 3, rfl, by decide, uX0, Or.inr ⟨"LayeredImages", (List.mem_of_getElem? (i := 122) (by decide +kernel))⟩⟩
theorem kP_X5_110 : gwP RX5 110 0 2 false (tyX0 2) := ⟨RX0, TX0, 3, tyX0, rfl, by decide, uX0, tyX0_ok, nmX0, rfl, tyX0_ok 2 (by decide), fun h => (by exact absurd h (by decide)), Or.inr ⟨rfl, "LayeredImages", (List.mem_of_getElem? (i := 122) (by decide +kernel))⟩⟩
theorem kF_X5_166 : gwF RX5 166 5 6 := ⟨RX5, TX5, 8, rfl, by decide, uX5, Or.inl (List.mem_of_getElem? (i := 140) (by decide +kernel))⟩
theorem kP_X5_166 : gwP RX5 166 5 6 false (tyX5 6) := ⟨RX5, TX5, 8, tyX5, rfl, by decide, uX5, tyX5_ok, nmX5, rfl, tyX5_ok 6 (by decide), fun h => (by exact absurd h (by decide)), Or.inl (List.mem_of_getElem? (i := 140) (by decide +kernel))⟩
theorem kF_X5_169 : gwF RX5 169 5 7 := ⟨RX5, TX5, 8, rfl, by decide, uX5, Or.inl (List.mem_of_getElem? (i := 141) (by decide +kernel))⟩
theorem kP_X5_169 : gwP RX5 169 5 7 false (tyX5 7) := ⟨RX5, TX5, 8, tyX5, rfl, by decide, uX5, tyX5_ok, nmX5, rfl, tyX5_ok 7 (by decide), fun h => (by exact absurd h (by decide)), Or.inl (List.mem_of_getElem? (i := 141) (by decide +kernel))⟩
theorem kF_X5_192 : gwF RX5 192 2 2 := ⟨RX2, TX2, 8, rfl, by decide, uX2, Or.inr ⟨"LayeredImages", (List.mem_of_getElem? (i := 423) (by decide +kernel))⟩⟩
theorem kF_X5_215 : gwF RX5 215 4 1 := ⟨RX4, TX4, 2, rfl, by decide, uX4, Or.inr ⟨"LayeredImages", (List.mem_of_getElem? (i := 85) (by decide +kernel))⟩⟩
theorem kP_X5_215 : gwP RX5 215 4 1 false (tyX4 1) := ⟨RX4, TX4, 2, tyX4, rfl, by decide, uX4, tyX4_ok, nmX4, rfl, tyX4_ok 1 (by decide), fun h => (by exact absurd h (by decide)), Or.inr ⟨rfl, "LayeredImages", (List.mem_of_getElem? (i := 85) (by decide +kernel))⟩⟩
theorem kF_X5_234 : gwF RX5 234 2 1 := ⟨RX2, TX2, 8, rfl, by decide, uX2, Or.inr ⟨"LayeredImages", (List.mem_of_getElem? (i := 421) (by decide +kernel))⟩⟩
theorem kF_X0_10 : gwF RX0 10 0 0 := ⟨RX0, TX0, 3, rfl, by decide, uX0, Or.inl (List.mem_of_getElem? (i := 119) (by decide +kernel))⟩
theorem kP_X0_10 : gwP RX0 10 0 0 true (tyX0 0) := ⟨RX0, TX0, 3, tyX0, rfl, by decide, uX0, tyX0_ok, nmX0, rfl, tyX0_ok 0 (by decide), fun h => (by exact rfl), Or.inl (List.mem_of_getElem? (i := 119) (by decide +kernel))⟩
theorem kF_X0_20 : gwF RX0 20 0 1 := ⟨RX0, TX0, 3, rfl, by decide, uX0, Or.inl (List.mem_of_getElem? (i := 120) (by decide +kernel))⟩
theorem kP_X0_20 : gwP RX0 20 0 1 false (tyX0 1) := ⟨RX0, TX0, 3, tyX0, rfl, by decide, uX0, tyX0_ok, nmX0, rfl, tyX0_ok 1 (by decide), fun h => (by exact absurd h (by decide)), Or.inl (List.mem_of_getElem? (i := 120) (by decide +kernel))⟩
theorem kF_X0_24 : gwF RX0 24 0 2 := ⟨RX0, TX0, 3, rfl, by decide, uX0, Or.inl (List.mem_of_getElem? (i := 121) (by decide +kernel))⟩
theorem kP_X0_24 : gwP RX0 24 0 2 false (tyX0 2) := ⟨RX0, TX0, 3, tyX0, rfl, by decide, uX0, tyX0_ok, nmX0, rfl, tyX0_ok 2 (by decide), fun h => (by exact absurd h (by decide)), Or.inl (List.mem_of_getElem? (i := 121) (by decide +kernel))⟩
theorem kF_X0_28 : gwF RX0 28 3 2 := ⟨RX3, TX3, 3, rfl, by decide, uX3, Or.inr ⟨"LayeredImages", (List.mem_of_getElem? (i := 109) (by decide +kernel))⟩⟩
theorem kP_X0_28 : gwP RX0 28 3 2 false (tyX3 2) := ⟨RX3, TX3, 3, tyX3, rfl, by decide, uX3, tyX3_ok, nmX3, rfl, tyX3_ok 2 (by decide), fun h => (by exact absurd h (by decide)), Or.inr ⟨rfl, "LayeredImages", (List.mem_of_getElem? (i := 109) (by decide +kernel))⟩⟩
theorem kF_X1_9 : gwF RX1 9 1 0 := ⟨RX1, TX1, 3, rfl, by decide, uX1, Or.inl (List.mem_of_getElem? (i := 329) (by decide +kernel))⟩
theorem kP_X1_9 : gwP RX1 9 1 0 true (tyX1 0) := ⟨RX1, TX1, 3, tyX1, rfl, by decide, uX1, tyX1_ok, nmX1, rfl, tyX1_ok 0 (by decide), fun h => (by exact rfl), Or.inl (List.mem_of_getElem? (i := 329) (by decide +kernel))⟩
theorem kF_X1_15 : gwF RX1 15 1 1 := ⟨RX1, TX1, 3, rfl, by decide, uX1, Or.inl (List.mem_of_getElem? (i := 330) (by decide +kernel))⟩
theorem kP_X1_15 : gwP RX1 15 1 1 true (tyX1 1) := ⟨RX1, TX1, 3, tyX1, rfl, by decide, uX1, tyX1_ok, nmX1, rfl, tyX1_ok 1 (by decide), fun h => (by exact rfl), Or.inl (List.mem_of_getElem? (i := 330) (by decide +kernel))⟩
theorem kF_X1_18 : gwF RX1 18 1 2 := ⟨RX1, TX1, 3, rfl, by decide, uX1, Or.inl (List.mem_of_getElem? (i := 331) (by decide +kernel))⟩
theorem kP_X1_18 : gwP RX1 18 1 2 true (tyX1 2) := ⟨RX1, TX1, 3, tyX1, rfl, by decide, uX1, tyX1_ok, nmX1, rfl, tyX1_ok 2 (by decide), fun h => (by exact rfl), Or.inl (List.mem_of_getElem? (i := 331) (by decide +kernel))⟩
theorem kF_X2_9 : gwF RX2 9 2 3 := ⟨RX2, TX2, 8, rfl, by decide, uX2, Or.inl (List.mem_of_getElem? (i := 424) (by decide +kernel))⟩
theorem kP_X2_9 : gwP RX2 9 2 3 true (tyX2 3) := ⟨RX2, TX2, 8, tyX2, rfl, by decide, uX2, tyX2_ok, nmX2, rfl, tyX2_ok 3 (by decide), fun h => (by exact rfl), Or.inl (List.mem_of_getElem? (i := 424) (by decide +kernel))⟩
theorem kF_X2_15 : gwF RX2 15 2 4 := ⟨RX2, TX2, 8, rfl, by decide, uX2, Or.inl (List.mem_of_getElem? (i := 425) (by decide +kernel))⟩
theorem kP_X2_15 : gwP RX2 15 2 4 true (tyX2 4) := ⟨RX2, TX2, 8, tyX2, rfl, by decide, uX2, tyX2_ok, nmX2, rfl, tyX2_ok 4 (by decide), fun h => (by exact rfl), Or.inl (List.mem_of_getElem? (i := 425) (by decide +kernel))⟩
theorem kF_X2_18 : gwF RX2 18 2 5 := ⟨RX2, TX2, 8, rfl, by decide, uX2, Or.inl (List.mem_of_getElem? (i := 426) (by decide +kernel))⟩
theorem kP_X2_18 : gwP RX2 18 2 5 true (tyX2 5) := ⟨RX2, TX2, 8, tyX2, rfl, by decide, uX2, tyX2_ok, nmX2, rfl, tyX2_ok 5 (by decide), fun h => (by exact rfl), Or.inl (List.mem_of_getElem? (i := 426) (by decide +kernel))⟩
theorem kF_X2_21 : gwF RX2 21 2 7 := ⟨RX2, TX2, 8, rfl, by decide, uX2, Or.inl (List.mem_of_getElem? (i := 428) (by decide +kernel))⟩
theorem kP_X2_21 : gwP RX2 21 2 7 false (tyX2 7) := ⟨RX2, TX2, 8, tyX2, rfl, by decide, uX2, tyX2_ok, nmX2, rfl, tyX2_ok 7 (by decide), fun h => (by exact absurd h (by decide)), Or.inl (List.mem_of_getElem? (i := 428) (by decide +kernel))⟩
theorem kF_X2_25 : gwF RX2 25 2 0 := ⟨RX2, TX2, 8, rfl, by decide, uX2, Or.inl (List.mem_of_getElem? (i := 416) (by decide +kernel))⟩
theorem kP_X2_25 : gwP RX2 25 2 0 true (tyX2 0) := ⟨RX2, TX2, 8, tyX2, rfl, by decide, uX2, tyX2_ok, nmX2, rfl, tyX2_ok 0 (by decide), fun h => (by exact rfl), Or.inl (List.mem_of_getElem? (i := 416) (by decide +kernel))⟩
theorem kF_X2_28 : gwF RX2 28 2 1 := ⟨RX2, TX2, 8, rfl, by decide, uX2, Or.inl (List.mem_of_getElem? (i := 419) (by decide +kernel))⟩
theorem kP_X2_28 : gwP RX2 28 2 1 true (tyX2 1) := ⟨RX2, TX2, 8, tyX2, rfl, by decide, uX2, tyX2_ok, nmX2, rfl, tyX2_ok 1 (by decide), fun h => (by exact rfl), Or.inl (List.mem_of_getElem? (i := 419) (by decide +kernel))⟩
theorem kF_X2_32 : gwF RX2 32 2 2 := ⟨RX2, TX2, 8, rfl, by decide, uX2, Or.inl (List.mem_of_getElem? (i := 422) (by decide +kernel))⟩
theorem kP_X2_32 : gwP RX2 32 2 2 true (tyX2 2) := ⟨RX2, TX2, 8, tyX2, rfl, by decide, uX2, tyX2_ok, nmX2, rfl, tyX2_ok 2 (by decide), fun h => (by exact rfl), Or.inl (List.mem_of_getElem? (i := 422) (by decide +kernel))⟩
theorem kF_X2_39 : gwF RX2 39 2 6 := ⟨RX2, TX2, 8, rfl, by decide, uX2, Or.inl (List.mem_of_getElem? (i := 427) (by decide +kernel))⟩
theorem kP_X2_39 : gwP RX2 39 2 6 false (tyX2 6) := ⟨RX2, TX2, 8, tyX2, rfl, by decide, uX2, tyX2_ok, nmX2, rfl, tyX2_ok 6 (by decide), fun h => (by exact absurd h (by decide)), Or.inl (List.mem_of_getElem? (i := 427) (by decide +kernel))⟩
theorem kF_X3_11 : gwF RX3 11 3 0 := ⟨RX3, TX3, 3, rfl, by decide, uX3, Or.inl (List.mem_of_getElem? (i := 106) (by decide +kernel))⟩
theorem kP_X3_11 : gwP RX3 11 3 0 true (tyX3 0) := ⟨RX3, TX3, 3, tyX3, rfl, by decide, uX3, tyX3_ok, nmX3, rfl, tyX3_ok 0 (by decide), fun h => (by exact rfl), Or.inl (List.mem_of_getElem? (i := 106) (by decide +kernel))⟩
theorem kF_X3_21 : gwF RX3 21 3 1 := ⟨RX3, TX3, 3, rfl, by decide, uX3, Or.inl (List.mem_of_getElem? (i := 107) (by decide +kernel))⟩
theorem kP_X3_21 : gwP RX3 21 3 1 false (tyX3 1) := ⟨RX3, TX3, 3, tyX3, rfl, by decide, uX3, tyX3_ok, nmX3, rfl, tyX3_ok 1 (by decide), fun h => (by exact absurd h (by decide)), Or.inl (List.mem_of_getElem? (i := 107) (by decide +kernel))⟩
theorem kF_X3_25 : gwF RX3 25 3 2 := ⟨RX3, TX3, 3, rfl, by decide, uX3, Or.inl (List.mem_of_getElem? (i := 110) (by decide +kernel))⟩
theorem kP_X3_25 : gwP RX3 25 3 2 false (tyX3 2) := ⟨RX3, TX3, 3, tyX3, rfl, by decide, uX3, tyX3_ok, nmX3, rfl, tyX3_ok 2 (by decide), fun h => (by exact absurd h (by decide)), Or.inl (List.mem_of_getElem? (i := 110) (by decide +kernel))⟩
theorem kF_X4_11 : gwF RX4 11 4 0 := ⟨RX4, TX4, 2, rfl, by decide, uX4, Or.inl (List.mem_of_getElem? (i := 83) (by decide +kernel))⟩
theorem kP_X4_11 : gwP RX4 11 4 0 true (tyX4 0) := ⟨RX4, TX4, 2, tyX4, rfl, by decide, uX4, tyX4_ok, nmX4, rfl, tyX4_ok 0 (by decide), fun h => (by exact rfl), Or.inl (List.mem_of_getElem? (i := 83) (by decide +kernel))⟩
theorem kF_X4_21 : gwF RX4 21 4 1 := ⟨RX4, TX4, 2, rfl, by decide, uX4, Or.inl (List.mem_of_getElem? (i := 84) (by decide +kernel))⟩
theorem kP_X4_21 : gwP RX4 21 4 1 false (tyX4 1) := ⟨RX4, TX4, 2, tyX4, rfl, by decide, uX4, tyX4_ok, nmX4, rfl, tyX4_ok 1 (by decide), fun h => (by exact absurd h (by decide)), Or.inl (List.mem_of_getElem? (i := 84) (by decide +kernel))⟩
theorem kF_X4_33 : gwF RX4 33 2 0 := ⟨RX2, TX2, 8, rfl, by decide, uX2, Or.inr ⟨"LayeredImages", (List.mem_of_getElem? (i := 417) (by decide +kernel))⟩⟩
theorem kF_X4_36 : gwF RX4 36 2 1 := ⟨RX2, TX2, 8, rfl, by decide, uX2, Or.inr ⟨"LayeredImages", (List.mem_of_getElem? (i := 420) (by decide +kernel))⟩⟩

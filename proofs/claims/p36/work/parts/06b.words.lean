theorem kM_J7_fill_53178 : gwM yJ7_fill_53178 cJ7_fill_53178 4 none 2 := ⟨(List.mem_of_getElem? (i := 132) (by decide +kernel)), (List.mem_of_getElem? (i := 53) (by decide +kernel)), ⟨by decide +kernel, by decide +kernel⟩, by decide +kernel⟩
theorem kS_J7_fill_53178 : gwS yJ7_fill_53178 := (List.mem_of_getElem? (i := 131) (by decide +kernel))
theorem kS_L_areAll : gwS yL_areAll := (List.mem_of_getElem? (i := 636) (by decide +kernel))
theorem kS_L_isAdded : gwS yL_isAdded := (List.mem_of_getElem? (i := 706) (by decide +kernel))
theorem kS_L_isBuilt : gwS yL_isBuilt := (List.mem_of_getElem? (i := 709) (by decide +kernel))
theorem kS_L_isDone : gwS yL_isDone := (List.mem_of_getElem? (i := 699) (by decide +kernel))
theorem kS_L_isKept : gwS yL_isKept := (List.mem_of_getElem? (i := 729) (by decide +kernel))
theorem kS_L_isLayer : gwS yL_isLayer := (List.mem_of_getElem? (i := 695) (by decide +kernel))
theorem kS_L_isPruned : gwS yL_isPruned := (List.mem_of_getElem? (i := 726) (by decide +kernel))
theorem kS_L_isRebased : gwS yL_isRebased := (List.mem_of_getElem? (i := 723) (by decide +kernel))
theorem kS_L_isSquashed : gwS yL_isSquashed := (List.mem_of_getElem? (i := 720) (by decide +kernel))
theorem kS_L_part : gwS yL_part := (List.mem_of_getElem? (i := 702) (by decide +kernel))
theorem kM_X0_advanceTo : gwM yX0_advanceTo cX0_advanceTo 2 none 1 := ⟨(List.mem_of_getElem? (i := 545) (by decide +kernel)), (List.mem_of_getElem? (i := 51) (by decide +kernel)), ⟨by decide +kernel, by decide +kernel⟩, by decide +kernel⟩
theorem kV_X0_advanceTo : gwV yX0_advanceTo := ⟨(List.mem_of_getElem? (i := 544) (by decide +kernel)), (List.mem_of_getElem? (i := 35) (by decide +kernel))⟩
theorem kM_X0_begin : gwM yX0_begin cX0_begin 3 none 2 := ⟨(List.mem_of_getElem? (i := 456) (by decide +kernel)), (List.mem_of_getElem? (i := 51) (by decide +kernel)), ⟨by decide +kernel, by decide +kernel⟩, by decide +kernel⟩
theorem kV_X0_begin : gwV yX0_begin := ⟨(List.mem_of_getElem? (i := 455) (by decide +kernel)), (List.mem_of_getElem? (i := 17) (by decide +kernel))⟩
theorem kM_X0_fail : gwM yX0_fail cX0_fail 1 none 0 := ⟨(List.mem_of_getElem? (i := 495) (by decide +kernel)), (List.mem_of_getElem? (i := 51) (by decide +kernel)), ⟨by decide +kernel, by decide +kernel⟩, by decide +kernel⟩
theorem kV_X0_fail : gwV yX0_fail := ⟨(List.mem_of_getElem? (i := 494) (by decide +kernel)), (List.mem_of_getElem? (i := 24) (by decide +kernel))⟩
theorem kM_X0_finished : gwM yX0_finished cX0_finished 1 (some (.object "LayeredImages$Layer")) 0 := ⟨(List.mem_of_getElem? (i := 559) (by decide +kernel)), (List.mem_of_getElem? (i := 51) (by decide +kernel)), ⟨by decide +kernel, by decide +kernel⟩, by decide +kernel⟩
theorem kV_X0_finished : gwV yX0_finished := ⟨(List.mem_of_getElem? (i := 558) (by decide +kernel)), (List.mem_of_getElem? (i := 36) (by decide +kernel))⟩
theorem kM_X0_forget : gwM yX0_forget cX0_forget 2 none 1 := ⟨(List.mem_of_getElem? (i := 595) (by decide +kernel)), (List.mem_of_getElem? (i := 51) (by decide +kernel)), ⟨by decide +kernel, by decide +kernel⟩, by decide +kernel⟩
theorem kV_X0_forget : gwV yX0_forget := ⟨(List.mem_of_getElem? (i := 594) (by decide +kernel)), (List.mem_of_getElem? (i := 41) (by decide +kernel))⟩
theorem kM_X0_goesOn : gwM yX0_goesOn cX0_goesOn 1 (some .boolean) 0 := ⟨(List.mem_of_getElem? (i := 375) (by decide +kernel)), (List.mem_of_getElem? (i := 51) (by decide +kernel)), ⟨by decide +kernel, by decide +kernel⟩, by decide +kernel⟩
theorem kV_X0_goesOn : gwV yX0_goesOn := ⟨(List.mem_of_getElem? (i := 374) (by decide +kernel)), (List.mem_of_getElem? (i := 7) (by decide +kernel))⟩
theorem kM_X0_init : gwM yX0_init cX0_init 1 none 0 := ⟨(List.mem_of_getElem? (i := 96) (by decide +kernel)), (List.mem_of_getElem? (i := 51) (by decide +kernel)), ⟨by decide +kernel, by decide +kernel⟩, by decide +kernel⟩
theorem kI_X0_init : gwI yX0_init := ⟨(List.mem_of_getElem? (i := 95) (by decide +kernel)), rfl⟩
theorem kM_X0_left : gwM yX0_left cX0_left 1 (some .int) 0 := ⟨(List.mem_of_getElem? (i := 379) (by decide +kernel)), (List.mem_of_getElem? (i := 51) (by decide +kernel)), ⟨by decide +kernel, by decide +kernel⟩, by decide +kernel⟩
theorem kV_X0_left : gwV yX0_left := ⟨(List.mem_of_getElem? (i := 378) (by decide +kernel)), (List.mem_of_getElem? (i := 8) (by decide +kernel))⟩
theorem kM_X0_upcoming : gwM yX0_upcoming cX0_upcoming 1 (some (.object "LayeredImages$Instruction")) 0 := ⟨(List.mem_of_getElem? (i := 474) (by decide +kernel)), (List.mem_of_getElem? (i := 51) (by decide +kernel)), ⟨by decide +kernel, by decide +kernel⟩, by decide +kernel⟩
theorem kV_X0_upcoming : gwV yX0_upcoming := ⟨(List.mem_of_getElem? (i := 473) (by decide +kernel)), (List.mem_of_getElem? (i := 20) (by decide +kernel))⟩
theorem kM_X1_carryOut : gwM yX1_carryOut cX1_carryOut 3 none 2 := ⟨(List.mem_of_getElem? (i := 526) (by decide +kernel)), (List.mem_of_getElem? (i := 60) (by decide +kernel)), ⟨by decide +kernel, by decide +kernel⟩, by decide +kernel⟩
theorem kV_X1_carryOut : gwV yX1_carryOut := ⟨(List.mem_of_getElem? (i := 525) (by decide +kernel)), (List.mem_of_getElem? (i := 31) (by decide +kernel))⟩
theorem kM_X1_failsOn : gwM yX1_failsOn cX1_failsOn 3 (some .boolean) 2 := ⟨(List.mem_of_getElem? (i := 486) (by decide +kernel)), (List.mem_of_getElem? (i := 60) (by decide +kernel)), ⟨by decide +kernel, by decide +kernel⟩, by decide +kernel⟩
theorem kV_X1_failsOn : gwV yX1_failsOn := ⟨(List.mem_of_getElem? (i := 485) (by decide +kernel)), (List.mem_of_getElem? (i := 22) (by decide +kernel))⟩
theorem kM_X1_init : gwM yX1_init cX1_init 4 none 3 := ⟨(List.mem_of_getElem? (i := 327) (by decide +kernel)), (List.mem_of_getElem? (i := 60) (by decide +kernel)), ⟨by decide +kernel, by decide +kernel⟩, by decide +kernel⟩
theorem kI_X1_init : gwI yX1_init := ⟨(List.mem_of_getElem? (i := 326) (by decide +kernel)), rfl⟩
theorem kM_X1_inputFrom : gwM yX1_inputFrom cX1_inputFrom 2 (some .int) 1 := ⟨(List.mem_of_getElem? (i := 481) (by decide +kernel)), (List.mem_of_getElem? (i := 60) (by decide +kernel)), ⟨by decide +kernel, by decide +kernel⟩, by decide +kernel⟩
theorem kV_X1_inputFrom : gwV yX1_inputFrom := ⟨(List.mem_of_getElem? (i := 480) (by decide +kernel)), (List.mem_of_getElem? (i := 21) (by decide +kernel))⟩
theorem kM_X1_isSameAs : gwM yX1_isSameAs cX1_isSameAs 2 (some .boolean) 1 := ⟨(List.mem_of_getElem? (i := 511) (by decide +kernel)), (List.mem_of_getElem? (i := 60) (by decide +kernel)), ⟨by decide +kernel, by decide +kernel⟩, by decide +kernel⟩
theorem kV_X1_isSameAs : gwV yX1_isSameAs := ⟨(List.mem_of_getElem? (i := 510) (by decide +kernel)), (List.mem_of_getElem? (i := 28) (by decide +kernel))⟩
theorem kM_X1_runOn : gwM yX1_runOn cX1_runOn 3 (some .int) 2 := ⟨(List.mem_of_getElem? (i := 537) (by decide +kernel)), (List.mem_of_getElem? (i := 60) (by decide +kernel)), ⟨by decide +kernel, by decide +kernel⟩, by decide +kernel⟩
theorem kS_X1_runOn : gwS yX1_runOn := (List.mem_of_getElem? (i := 536) (by decide +kernel))
theorem kM_X2_assign : gwM yX2_assign cX2_assign 3 none 2 := ⟨(List.mem_of_getElem? (i := 541) (by decide +kernel)), (List.mem_of_getElem? (i := 61) (by decide +kernel)), ⟨by decide +kernel, by decide +kernel⟩, by decide +kernel⟩
theorem kV_X2_assign : gwV yX2_assign := ⟨(List.mem_of_getElem? (i := 540) (by decide +kernel)), (List.mem_of_getElem? (i := 34) (by decide +kernel))⟩
theorem kM_X2_assignLike : gwM yX2_assignLike cX2_assignLike 3 none 1 := ⟨(List.mem_of_getElem? (i := 626) (by decide +kernel)), (List.mem_of_getElem? (i := 61) (by decide +kernel)), ⟨by decide +kernel, by decide +kernel⟩, by decide +kernel⟩
theorem kV_X2_assignLike : gwV yX2_assignLike := ⟨(List.mem_of_getElem? (i := 625) (by decide +kernel)), (List.mem_of_getElem? (i := 43) (by decide +kernel))⟩
theorem kM_X2_becomeMadeBy : gwM yX2_becomeMadeBy cX2_becomeMadeBy 3 none 2 := ⟨(List.mem_of_getElem? (i := 522) (by decide +kernel)), (List.mem_of_getElem? (i := 61) (by decide +kernel)), ⟨by decide +kernel, by decide +kernel⟩, by decide +kernel⟩
theorem kV_X2_becomeMadeBy : gwV yX2_becomeMadeBy := ⟨(List.mem_of_getElem? (i := 521) (by decide +kernel)), (List.mem_of_getElem? (i := 30) (by decide +kernel))⟩
theorem kM_X2_fingerprint : gwM yX2_fingerprint cX2_fingerprint 3 (some .int) 0 := ⟨(List.mem_of_getElem? (i := 573) (by decide +kernel)), (List.mem_of_getElem? (i := 61) (by decide +kernel)), ⟨by decide +kernel, by decide +kernel⟩, by decide +kernel⟩
theorem kV_X2_fingerprint : gwV yX2_fingerprint := ⟨(List.mem_of_getElem? (i := 572) (by decide +kernel)), (List.mem_of_getElem? (i := 37) (by decide +kernel))⟩
theorem kM_X2_hold : gwM yX2_hold cX2_hold 3 none 2 := ⟨(List.mem_of_getElem? (i := 530) (by decide +kernel)), (List.mem_of_getElem? (i := 61) (by decide +kernel)), ⟨by decide +kernel, by decide +kernel⟩, by decide +kernel⟩
theorem kV_X2_hold : gwV yX2_hold := ⟨(List.mem_of_getElem? (i := 529) (by decide +kernel)), (List.mem_of_getElem? (i := 32) (by decide +kernel))⟩
theorem kM_X2_holdLike : gwM yX2_holdLike cX2_holdLike 5 none 1 := ⟨(List.mem_of_getElem? (i := 634) (by decide +kernel)), (List.mem_of_getElem? (i := 61) (by decide +kernel)), ⟨by decide +kernel, by decide +kernel⟩, by decide +kernel⟩
theorem kV_X2_holdLike : gwV yX2_holdLike := ⟨(List.mem_of_getElem? (i := 633) (by decide +kernel)), (List.mem_of_getElem? (i := 44) (by decide +kernel))⟩
theorem kM_X2_holds : gwM yX2_holds cX2_holds 2 (some .int) 1 := ⟨(List.mem_of_getElem? (i := 665) (by decide +kernel)), (List.mem_of_getElem? (i := 61) (by decide +kernel)), ⟨by decide +kernel, by decide +kernel⟩, by decide +kernel⟩
theorem kV_X2_holds : gwV yX2_holds := ⟨(List.mem_of_getElem? (i := 664) (by decide +kernel)), (List.mem_of_getElem? (i := 47) (by decide +kernel))⟩
theorem kM_X2_init : gwM yX2_init cX2_init 5 none 2 := ⟨(List.mem_of_getElem? (i := 414) (by decide +kernel)), (List.mem_of_getElem? (i := 61) (by decide +kernel)), ⟨by decide +kernel, by decide +kernel⟩, by decide +kernel⟩
theorem kI_X2_init : gwI yX2_init := ⟨(List.mem_of_getElem? (i := 413) (by decide +kernel)), rfl⟩
theorem kM_X2_init_ : gwM yX2_init_ cX2_init_ 4 none 2 := ⟨(List.mem_of_getElem? (i := 518) (by decide +kernel)), (List.mem_of_getElem? (i := 61) (by decide +kernel)), ⟨by decide +kernel, by decide +kernel⟩, by decide +kernel⟩
theorem kI_X2_init_ : gwI yX2_init_ := ⟨(List.mem_of_getElem? (i := 517) (by decide +kernel)), rfl⟩
theorem kM_X2_isRootOf : gwM yX2_isRootOf cX2_isRootOf 3 (some .boolean) 1 := ⟨(List.mem_of_getElem? (i := 407) (by decide +kernel)), (List.mem_of_getElem? (i := 61) (by decide +kernel)), ⟨by decide +kernel, by decide +kernel⟩, by decide +kernel⟩
theorem kV_X2_isRootOf : gwV yX2_isRootOf := ⟨(List.mem_of_getElem? (i := 405) (by decide +kernel)), (List.mem_of_getElem? (i := 14) (by decide +kernel))⟩
theorem kM_X2_partAt : gwM yX2_partAt cX2_partAt 3 (some (.object "LayeredImages$Layer")) 1 := ⟨(List.mem_of_getElem? (i := 587) (by decide +kernel)), (List.mem_of_getElem? (i := 61) (by decide +kernel)), ⟨by decide +kernel, by decide +kernel⟩, by decide +kernel⟩
theorem kV_X2_partAt : gwV yX2_partAt := ⟨(List.mem_of_getElem? (i := 586) (by decide +kernel)), (List.mem_of_getElem? (i := 39) (by decide +kernel))⟩
theorem kM_X2_showLike : gwM yX2_showLike cX2_showLike 4 none 1 := ⟨(List.mem_of_getElem? (i := 621) (by decide +kernel)), (List.mem_of_getElem? (i := 61) (by decide +kernel)), ⟨by decide +kernel, by decide +kernel⟩, by decide +kernel⟩
theorem kV_X2_showLike : gwV yX2_showLike := ⟨(List.mem_of_getElem? (i := 620) (by decide +kernel)), (List.mem_of_getElem? (i := 42) (by decide +kernel))⟩
theorem kM_X2_shows : gwM yX2_shows cX2_shows 2 (some .int) 1 := ⟨(List.mem_of_getElem? (i := 490) (by decide +kernel)), (List.mem_of_getElem? (i := 61) (by decide +kernel)), ⟨by decide +kernel, by decide +kernel⟩, by decide +kernel⟩
theorem kV_X2_shows : gwV yX2_shows := ⟨(List.mem_of_getElem? (i := 489) (by decide +kernel)), (List.mem_of_getElem? (i := 23) (by decide +kernel))⟩
theorem kM_X2_size : gwM yX2_size cX2_size 3 (some .int) 0 := ⟨(List.mem_of_getElem? (i := 657) (by decide +kernel)), (List.mem_of_getElem? (i := 61) (by decide +kernel)), ⟨by decide +kernel, by decide +kernel⟩, by decide +kernel⟩
theorem kV_X2_size : gwV yX2_size := ⟨(List.mem_of_getElem? (i := 656) (by decide +kernel)), (List.mem_of_getElem? (i := 46) (by decide +kernel))⟩
theorem kM_X2_value : gwM yX2_value cX2_value 2 (some .int) 1 := ⟨(List.mem_of_getElem? (i := 534) (by decide +kernel)), (List.mem_of_getElem? (i := 61) (by decide +kernel)), ⟨by decide +kernel, by decide +kernel⟩, by decide +kernel⟩
theorem kV_X2_value : gwV yX2_value := ⟨(List.mem_of_getElem? (i := 533) (by decide +kernel)), (List.mem_of_getElem? (i := 33) (by decide +kernel))⟩
theorem kM_X2_wasMadeBy : gwM yX2_wasMadeBy cX2_wasMadeBy 3 (some .boolean) 2 := ⟨(List.mem_of_getElem? (i := 507) (by decide +kernel)), (List.mem_of_getElem? (i := 61) (by decide +kernel)), ⟨by decide +kernel, by decide +kernel⟩, by decide +kernel⟩
theorem kV_X2_wasMadeBy : gwV yX2_wasMadeBy := ⟨(List.mem_of_getElem? (i := 506) (by decide +kernel)), (List.mem_of_getElem? (i := 27) (by decide +kernel))⟩
theorem kM_X3_append : gwM yX3_append cX3_append 2 none 1 := ⟨(List.mem_of_getElem? (i := 342) (by decide +kernel)), (List.mem_of_getElem? (i := 52) (by decide +kernel)), ⟨by decide +kernel, by decide +kernel⟩, by decide +kernel⟩
theorem kV_X3_append : gwV yX3_append := ⟨(List.mem_of_getElem? (i := 341) (by decide +kernel)), (List.mem_of_getElem? (i := 5) (by decide +kernel))⟩
theorem kM_X3_at : gwM yX3_at cX3_at 2 (some (.object "LayeredImages$Instruction")) 1 := ⟨(List.mem_of_getElem? (i := 465) (by decide +kernel)), (List.mem_of_getElem? (i := 52) (by decide +kernel)), ⟨by decide +kernel, by decide +kernel⟩, by decide +kernel⟩
theorem kV_X3_at : gwV yX3_at := ⟨(List.mem_of_getElem? (i := 464) (by decide +kernel)), (List.mem_of_getElem? (i := 19) (by decide +kernel))⟩
theorem kM_X3_becomeLike : gwM yX3_becomeLike cX3_becomeLike 3 none 1 := ⟨(List.mem_of_getElem? (i := 460) (by decide +kernel)), (List.mem_of_getElem? (i := 52) (by decide +kernel)), ⟨by decide +kernel, by decide +kernel⟩, by decide +kernel⟩
theorem kV_X3_becomeLike : gwV yX3_becomeLike := ⟨(List.mem_of_getElem? (i := 459) (by decide +kernel)), (List.mem_of_getElem? (i := 18) (by decide +kernel))⟩
theorem kM_X3_clearOn : gwM yX3_clearOn cX3_clearOn 2 none 1 := ⟨(List.mem_of_getElem? (i := 281) (by decide +kernel)), (List.mem_of_getElem? (i := 52) (by decide +kernel)), ⟨by decide +kernel, by decide +kernel⟩, by decide +kernel⟩
theorem kV_X3_clearOn : gwV yX3_clearOn := ⟨(List.mem_of_getElem? (i := 280) (by decide +kernel)), (List.mem_of_getElem? (i := 2) (by decide +kernel))⟩
theorem kM_X3_init : gwM yX3_init cX3_init 1 none 0 := ⟨(List.mem_of_getElem? (i := 102) (by decide +kernel)), (List.mem_of_getElem? (i := 52) (by decide +kernel)), ⟨by decide +kernel, by decide +kernel⟩, by decide +kernel⟩
theorem kI_X3_init : gwI yX3_init := ⟨(List.mem_of_getElem? (i := 101) (by decide +kernel)), rfl⟩
theorem kM_X3_removeAt : gwM yX3_removeAt cX3_removeAt 3 none 1 := ⟨(List.mem_of_getElem? (i := 289) (by decide +kernel)), (List.mem_of_getElem? (i := 52) (by decide +kernel)), ⟨by decide +kernel, by decide +kernel⟩, by decide +kernel⟩
theorem kV_X3_removeAt : gwV yX3_removeAt := ⟨(List.mem_of_getElem? (i := 288) (by decide +kernel)), (List.mem_of_getElem? (i := 3) (by decide +kernel))⟩
theorem kM_X4_find : gwM yX4_find cX4_find 2 (some (.object "LayeredImages$Layer")) 1 := ⟨(List.mem_of_getElem? (i := 401) (by decide +kernel)), (List.mem_of_getElem? (i := 50) (by decide +kernel)), ⟨by decide +kernel, by decide +kernel⟩, by decide +kernel⟩
theorem kV_X4_find : gwV yX4_find := ⟨(List.mem_of_getElem? (i := 400) (by decide +kernel)), (List.mem_of_getElem? (i := 13) (by decide +kernel))⟩
theorem kM_X4_findMade : gwM yX4_findMade cX4_findMade 6 (some (.object "LayeredImages$Layer")) 3 := ⟨(List.mem_of_getElem? (i := 503) (by decide +kernel)), (List.mem_of_getElem? (i := 50) (by decide +kernel)), ⟨by decide +kernel, by decide +kernel⟩, by decide +kernel⟩
theorem kV_X4_findMade : gwV yX4_findMade := ⟨(List.mem_of_getElem? (i := 502) (by decide +kernel)), (List.mem_of_getElem? (i := 26) (by decide +kernel))⟩
theorem kM_X4_findRoot : gwM yX4_findRoot cX4_findRoot 4 (some (.object "LayeredImages$Layer")) 1 := ⟨(List.mem_of_getElem? (i := 397) (by decide +kernel)), (List.mem_of_getElem? (i := 50) (by decide +kernel)), ⟨by decide +kernel, by decide +kernel⟩, by decide +kernel⟩
theorem kV_X4_findRoot : gwV yX4_findRoot := ⟨(List.mem_of_getElem? (i := 396) (by decide +kernel)), (List.mem_of_getElem? (i := 12) (by decide +kernel))⟩
theorem kM_X4_init : gwM yX4_init cX4_init 1 none 0 := ⟨(List.mem_of_getElem? (i := 80) (by decide +kernel)), (List.mem_of_getElem? (i := 50) (by decide +kernel)), ⟨by decide +kernel, by decide +kernel⟩, by decide +kernel⟩
theorem kI_X4_init : gwI yX4_init := ⟨(List.mem_of_getElem? (i := 79) (by decide +kernel)), rfl⟩
theorem kM_X4_kept : gwM yX4_kept cX4_kept 2 (some (.object "LayeredImages$Layer")) 1 := ⟨(List.mem_of_getElem? (i := 449) (by decide +kernel)), (List.mem_of_getElem? (i := 50) (by decide +kernel)), ⟨by decide +kernel, by decide +kernel⟩, by decide +kernel⟩
theorem kV_X4_kept : gwV yX4_kept := ⟨(List.mem_of_getElem? (i := 448) (by decide +kernel)), (List.mem_of_getElem? (i := 16) (by decide +kernel))⟩
theorem kM_X4_newChild : gwM yX4_newChild cX4_newChild 2 (some (.object "LayeredImages$Layer")) 1 := ⟨(List.mem_of_getElem? (i := 515) (by decide +kernel)), (List.mem_of_getElem? (i := 50) (by decide +kernel)), ⟨by decide +kernel, by decide +kernel⟩, by decide +kernel⟩
theorem kV_X4_newChild : gwV yX4_newChild := ⟨(List.mem_of_getElem? (i := 514) (by decide +kernel)), (List.mem_of_getElem? (i := 29) (by decide +kernel))⟩
theorem kM_X4_newRoot : gwM yX4_newRoot cX4_newRoot 2 (some (.object "LayeredImages$Layer")) 1 := ⟨(List.mem_of_getElem? (i := 411) (by decide +kernel)), (List.mem_of_getElem? (i := 50) (by decide +kernel)), ⟨by decide +kernel, by decide +kernel⟩, by decide +kernel⟩
theorem kV_X4_newRoot : gwV yX4_newRoot := ⟨(List.mem_of_getElem? (i := 410) (by decide +kernel)), (List.mem_of_getElem? (i := 15) (by decide +kernel))⟩
theorem kM_X4_remove : gwM yX4_remove cX4_remove 2 none 1 := ⟨(List.mem_of_getElem? (i := 591) (by decide +kernel)), (List.mem_of_getElem? (i := 50) (by decide +kernel)), ⟨by decide +kernel, by decide +kernel⟩, by decide +kernel⟩
theorem kV_X4_remove : gwV yX4_remove := ⟨(List.mem_of_getElem? (i := 590) (by decide +kernel)), (List.mem_of_getElem? (i := 40) (by decide +kernel))⟩
theorem kM_X5_addCopy : gwM yX5_addCopy cX5_addCopy 4 (some .int) 3 := ⟨(List.mem_of_getElem? (i := 302) (by decide +kernel)), (List.mem_of_getElem? (i := 49) (by decide +kernel)), ⟨by decide +kernel, by decide +kernel⟩, by decide +kernel⟩
theorem kV_X5_addCopy : gwV yX5_addCopy := ⟨(List.mem_of_getElem? (i := 300) (by decide +kernel)), (List.mem_of_getElem? (i := 301) (by decide +kernel))⟩
theorem kM_X5_addInstruction : gwM yX5_addInstruction cX5_addInstruction 6 (some .int) 4 := ⟨(List.mem_of_getElem? (i := 306) (by decide +kernel)), (List.mem_of_getElem? (i := 49) (by decide +kernel)), ⟨by decide +kernel, by decide +kernel⟩, by decide +kernel⟩
theorem kV_X5_addInstruction : gwV yX5_addInstruction := ⟨(List.mem_of_getElem? (i := 305) (by decide +kernel)), (List.mem_of_getElem? (i := 4) (by decide +kernel))⟩
theorem kM_X5_addMove : gwM yX5_addMove cX5_addMove 4 (some .int) 3 := ⟨(List.mem_of_getElem? (i := 350) (by decide +kernel)), (List.mem_of_getElem? (i := 49) (by decide +kernel)), ⟨by decide +kernel, by decide +kernel⟩, by decide +kernel⟩
theorem kV_X5_addMove : gwV yX5_addMove := ⟨(List.mem_of_getElem? (i := 348) (by decide +kernel)), (List.mem_of_getElem? (i := 349) (by decide +kernel))⟩
theorem kM_X5_addRemove : gwM yX5_addRemove cX5_addRemove 3 (some .int) 2 := ⟨(List.mem_of_getElem? (i := 355) (by decide +kernel)), (List.mem_of_getElem? (i := 49) (by decide +kernel)), ⟨by decide +kernel, by decide +kernel⟩, by decide +kernel⟩
theorem kV_X5_addRemove : gwV yX5_addRemove := ⟨(List.mem_of_getElem? (i := 353) (by decide +kernel)), (List.mem_of_getElem? (i := 354) (by decide +kernel))⟩
theorem kM_X5_addRun : gwM yX5_addRun cX5_addRun 4 (some .int) 3 := ⟨(List.mem_of_getElem? (i := 346) (by decide +kernel)), (List.mem_of_getElem? (i := 49) (by decide +kernel)), ⟨by decide +kernel, by decide +kernel⟩, by decide +kernel⟩
theorem kV_X5_addRun : gwV yX5_addRun := ⟨(List.mem_of_getElem? (i := 344) (by decide +kernel)), (List.mem_of_getElem? (i := 345) (by decide +kernel))⟩
theorem kM_X5_addSet : gwM yX5_addSet cX5_addSet 4 (some .int) 3 := ⟨(List.mem_of_getElem? (i := 359) (by decide +kernel)), (List.mem_of_getElem? (i := 49) (by decide +kernel)), ⟨by decide +kernel, by decide +kernel⟩, by decide +kernel⟩
theorem kV_X5_addSet : gwV yX5_addSet := ⟨(List.mem_of_getElem? (i := 357) (by decide +kernel)), (List.mem_of_getElem? (i := 358) (by decide +kernel))⟩
theorem kM_X5_build : gwM yX5_build cX5_build 3 (some .int) 1 := ⟨(List.mem_of_getElem? (i := 549) (by decide +kernel)), (List.mem_of_getElem? (i := 49) (by decide +kernel)), ⟨by decide +kernel, by decide +kernel⟩, by decide +kernel⟩
theorem kV_X5_build : gwV yX5_build := ⟨(List.mem_of_getElem? (i := 547) (by decide +kernel)), (List.mem_of_getElem? (i := 548) (by decide +kernel))⟩
theorem kM_X5_built : gwM yX5_built cX5_built 1 (some .int) 0 := ⟨(List.mem_of_getElem? (i := 555) (by decide +kernel)), (List.mem_of_getElem? (i := 49) (by decide +kernel)), ⟨by decide +kernel, by decide +kernel⟩, by decide +kernel⟩
theorem kV_X5_built : gwV yX5_built := ⟨(List.mem_of_getElem? (i := 553) (by decide +kernel)), (List.mem_of_getElem? (i := 554) (by decide +kernel))⟩
theorem kM_X5_cleanDigest : gwM yX5_cleanDigest cX5_cleanDigest 7 (some .int) 1 := ⟨(List.mem_of_getElem? (i := 566) (by decide +kernel)), (List.mem_of_getElem? (i := 49) (by decide +kernel)), ⟨by decide +kernel, by decide +kernel⟩, by decide +kernel⟩
theorem kV_X5_cleanDigest : gwV yX5_cleanDigest := ⟨(List.mem_of_getElem? (i := 564) (by decide +kernel)), (List.mem_of_getElem? (i := 565) (by decide +kernel))⟩
theorem kM_X5_contentsOf : gwM yX5_contentsOf cX5_contentsOf 2 (some (.array .int)) 1 := ⟨(List.mem_of_getElem? (i := 393) (by decide +kernel)), (List.mem_of_getElem? (i := 49) (by decide +kernel)), ⟨by decide +kernel, by decide +kernel⟩, by decide +kernel⟩
theorem kV_X5_contentsOf : gwV yX5_contentsOf := ⟨(List.mem_of_getElem? (i := 392) (by decide +kernel)), (List.mem_of_getElem? (i := 11) (by decide +kernel))⟩
theorem kM_X5_depth : gwM yX5_depth cX5_depth 2 (some .int) 1 := ⟨(List.mem_of_getElem? (i := 679) (by decide +kernel)), (List.mem_of_getElem? (i := 49) (by decide +kernel)), ⟨by decide +kernel, by decide +kernel⟩, by decide +kernel⟩
theorem kV_X5_depth : gwV yX5_depth := ⟨(List.mem_of_getElem? (i := 677) (by decide +kernel)), (List.mem_of_getElem? (i := 678) (by decide +kernel))⟩
theorem kM_X5_digest : gwM yX5_digest cX5_digest 2 (some .int) 1 := ⟨(List.mem_of_getElem? (i := 687) (by decide +kernel)), (List.mem_of_getElem? (i := 49) (by decide +kernel)), ⟨by decide +kernel, by decide +kernel⟩, by decide +kernel⟩
theorem kV_X5_digest : gwV yX5_digest := ⟨(List.mem_of_getElem? (i := 685) (by decide +kernel)), (List.mem_of_getElem? (i := 686) (by decide +kernel))⟩
theorem kM_X5_drop : gwM yX5_drop cX5_drop 4 (some .int) 2 := ⟨(List.mem_of_getElem? (i := 285) (by decide +kernel)), (List.mem_of_getElem? (i := 49) (by decide +kernel)), ⟨by decide +kernel, by decide +kernel⟩, by decide +kernel⟩
theorem kV_X5_drop : gwV yX5_drop := ⟨(List.mem_of_getElem? (i := 283) (by decide +kernel)), (List.mem_of_getElem? (i := 284) (by decide +kernel))⟩
theorem kM_X5_heldAt : gwM yX5_heldAt cX5_heldAt 4 (some .int) 2 := ⟨(List.mem_of_getElem? (i := 661) (by decide +kernel)), (List.mem_of_getElem? (i := 49) (by decide +kernel)), ⟨by decide +kernel, by decide +kernel⟩, by decide +kernel⟩
theorem kV_X5_heldAt : gwV yX5_heldAt := ⟨(List.mem_of_getElem? (i := 659) (by decide +kernel)), (List.mem_of_getElem? (i := 660) (by decide +kernel))⟩
theorem kM_X5_hits : gwM yX5_hits cX5_hits 1 (some .int) 0 := ⟨(List.mem_of_getElem? (i := 714) (by decide +kernel)), (List.mem_of_getElem? (i := 49) (by decide +kernel)), ⟨by decide +kernel, by decide +kernel⟩, by decide +kernel⟩
theorem kV_X5_hits : gwV yX5_hits := ⟨(List.mem_of_getElem? (i := 712) (by decide +kernel)), (List.mem_of_getElem? (i := 713) (by decide +kernel))⟩
theorem kM_X5_imageSize : gwM yX5_imageSize cX5_imageSize 4 (some .int) 1 := ⟨(List.mem_of_getElem? (i := 683) (by decide +kernel)), (List.mem_of_getElem? (i := 49) (by decide +kernel)), ⟨by decide +kernel, by decide +kernel⟩, by decide +kernel⟩
theorem kV_X5_imageSize : gwV yX5_imageSize := ⟨(List.mem_of_getElem? (i := 681) (by decide +kernel)), (List.mem_of_getElem? (i := 682) (by decide +kernel))⟩
theorem kM_X5_init : gwM yX5_init cX5_init 2 none 0 := ⟨(List.mem_of_getElem? (i := 66) (by decide +kernel)), (List.mem_of_getElem? (i := 49) (by decide +kernel)), ⟨by decide +kernel, by decide +kernel⟩, by decide +kernel⟩
theorem kI_X5_init : gwI yX5_init := ⟨(List.mem_of_getElem? (i := 65) (by decide +kernel)), rfl⟩
theorem kM_X5_instructions : gwM yX5_instructions cX5_instructions 2 (some .int) 1 := ⟨(List.mem_of_getElem? (i := 294) (by decide +kernel)), (List.mem_of_getElem? (i := 49) (by decide +kernel)), ⟨by decide +kernel, by decide +kernel⟩, by decide +kernel⟩
theorem kV_X5_instructions : gwV yX5_instructions := ⟨(List.mem_of_getElem? (i := 292) (by decide +kernel)), (List.mem_of_getElem? (i := 293) (by decide +kernel))⟩
theorem kM_X5_isIn : gwM yX5_isIn cX5_isIn 2 (some .boolean) 2 := ⟨(List.mem_of_getElem? (i := 177) (by decide +kernel)), (List.mem_of_getElem? (i := 49) (by decide +kernel)), ⟨by decide +kernel, by decide +kernel⟩, by decide +kernel⟩
theorem kS_X5_isIn : gwS yX5_isIn := (List.mem_of_getElem? (i := 176) (by decide +kernel))
theorem kM_X5_isInTaggedImage : gwM yX5_isInTaggedImage cX5_isInTaggedImage 6 (some .boolean) 1 := ⟨(List.mem_of_getElem? (i := 583) (by decide +kernel)), (List.mem_of_getElem? (i := 49) (by decide +kernel)), ⟨by decide +kernel, by decide +kernel⟩, by decide +kernel⟩
theorem kV_X5_isInTaggedImage : gwV yX5_isInTaggedImage := ⟨(List.mem_of_getElem? (i := 582) (by decide +kernel)), (List.mem_of_getElem? (i := 38) (by decide +kernel))⟩
theorem kM_X5_layerAt : gwM yX5_layerAt cX5_layerAt 3 (some (.object "LayeredImages$Layer")) 1 := ⟨(List.mem_of_getElem? (i := 648) (by decide +kernel)), (List.mem_of_getElem? (i := 49) (by decide +kernel)), ⟨by decide +kernel, by decide +kernel⟩, by decide +kernel⟩
theorem kV_X5_layerAt : gwV yX5_layerAt := ⟨(List.mem_of_getElem? (i := 647) (by decide +kernel)), (List.mem_of_getElem? (i := 45) (by decide +kernel))⟩
theorem kM_X5_layerOfStep : gwM yX5_layerOfStep cX5_layerOfStep 6 (some (.object "LayeredImages$Layer")) 3 := ⟨(List.mem_of_getElem? (i := 499) (by decide +kernel)), (List.mem_of_getElem? (i := 49) (by decide +kernel)), ⟨by decide +kernel, by decide +kernel⟩, by decide +kernel⟩
theorem kV_X5_layerOfStep : gwV yX5_layerOfStep := ⟨(List.mem_of_getElem? (i := 498) (by decide +kernel)), (List.mem_of_getElem? (i := 25) (by decide +kernel))⟩
theorem kM_X5_layers : gwM yX5_layers cX5_layers 1 (some .int) 0 := ⟨(List.mem_of_getElem? (i := 162) (by decide +kernel)), (List.mem_of_getElem? (i := 49) (by decide +kernel)), ⟨by decide +kernel, by decide +kernel⟩, by decide +kernel⟩
theorem kV_X5_layers : gwV yX5_layers := ⟨(List.mem_of_getElem? (i := 160) (by decide +kernel)), (List.mem_of_getElem? (i := 161) (by decide +kernel))⟩
theorem kM_X5_misses : gwM yX5_misses cX5_misses 1 (some .int) 0 := ⟨(List.mem_of_getElem? (i := 718) (by decide +kernel)), (List.mem_of_getElem? (i := 49) (by decide +kernel)), ⟨by decide +kernel, by decide +kernel⟩, by decide +kernel⟩
theorem kV_X5_misses : gwV yX5_misses := ⟨(List.mem_of_getElem? (i := 716) (by decide +kernel)), (List.mem_of_getElem? (i := 717) (by decide +kernel))⟩
theorem kM_X5_numberOf : gwM yX5_numberOf cX5_numberOf 1 (some .int) 1 := ⟨(List.mem_of_getElem? (i := 562) (by decide +kernel)), (List.mem_of_getElem? (i := 49) (by decide +kernel)), ⟨by decide +kernel, by decide +kernel⟩, by decide +kernel⟩
theorem kS_X5_numberOf : gwS yX5_numberOf := (List.mem_of_getElem? (i := 561) (by decide +kernel))
theorem kM_X5_parentOf : gwM yX5_parentOf cX5_parentOf 2 (some .int) 1 := ⟨(List.mem_of_getElem? (i := 644) (by decide +kernel)), (List.mem_of_getElem? (i := 49) (by decide +kernel)), ⟨by decide +kernel, by decide +kernel⟩, by decide +kernel⟩
theorem kV_X5_parentOf : gwV yX5_parentOf := ⟨(List.mem_of_getElem? (i := 642) (by decide +kernel)), (List.mem_of_getElem? (i := 643) (by decide +kernel))⟩
theorem kM_X5_prune : gwM yX5_prune cX5_prune 4 (some .int) 0 := ⟨(List.mem_of_getElem? (i := 578) (by decide +kernel)), (List.mem_of_getElem? (i := 49) (by decide +kernel)), ⟨by decide +kernel, by decide +kernel⟩, by decide +kernel⟩
theorem kV_X5_prune : gwV yX5_prune := ⟨(List.mem_of_getElem? (i := 576) (by decide +kernel)), (List.mem_of_getElem? (i := 577) (by decide +kernel))⟩
theorem kM_X5_rebase : gwM yX5_rebase cX5_rebase 6 (some .int) 2 := ⟨(List.mem_of_getElem? (i := 630) (by decide +kernel)), (List.mem_of_getElem? (i := 49) (by decide +kernel)), ⟨by decide +kernel, by decide +kernel⟩, by decide +kernel⟩
theorem kV_X5_rebase : gwV yX5_rebase := ⟨(List.mem_of_getElem? (i := 628) (by decide +kernel)), (List.mem_of_getElem? (i := 629) (by decide +kernel))⟩
theorem kM_X5_recipeAt : gwM yX5_recipeAt cX5_recipeAt 3 (some (.object "LayeredImages$Recipe")) 1 := ⟨(List.mem_of_getElem? (i := 276) (by decide +kernel)), (List.mem_of_getElem? (i := 49) (by decide +kernel)), ⟨by decide +kernel, by decide +kernel⟩, by decide +kernel⟩
theorem kV_X5_recipeAt : gwV yX5_recipeAt := ⟨(List.mem_of_getElem? (i := 275) (by decide +kernel)), (List.mem_of_getElem? (i := 1) (by decide +kernel))⟩
theorem kM_X5_requireContent : gwM yX5_requireContent cX5_requireContent 1 none 1 := ⟨(List.mem_of_getElem? (i := 248) (by decide +kernel)), (List.mem_of_getElem? (i := 49) (by decide +kernel)), ⟨by decide +kernel, by decide +kernel⟩, by decide +kernel⟩
theorem kS_X5_requireContent : gwS yX5_requireContent := (List.mem_of_getElem? (i := 247) (by decide +kernel))
theorem kM_X5_requireIndex : gwM yX5_requireIndex cX5_requireIndex 2 none 2 := ⟨(List.mem_of_getElem? (i := 174) (by decide +kernel)), (List.mem_of_getElem? (i := 49) (by decide +kernel)), ⟨by decide +kernel, by decide +kernel⟩, by decide +kernel⟩
theorem kS_X5_requireIndex : gwS yX5_requireIndex := (List.mem_of_getElem? (i := 173) (by decide +kernel))
theorem kM_X5_requireNoBuild : gwM yX5_requireNoBuild cX5_requireNoBuild 1 none 0 := ⟨(List.mem_of_getElem? (i := 371) (by decide +kernel)), (List.mem_of_getElem? (i := 49) (by decide +kernel)), ⟨by decide +kernel, by decide +kernel⟩, by decide +kernel⟩
theorem kV_X5_requireNoBuild : gwV yX5_requireNoBuild := ⟨(List.mem_of_getElem? (i := 370) (by decide +kernel)), (List.mem_of_getElem? (i := 6) (by decide +kernel))⟩
theorem kM_X5_requireOpen : gwM yX5_requireOpen cX5_requireOpen 1 none 0 := ⟨(List.mem_of_getElem? (i := 384) (by decide +kernel)), (List.mem_of_getElem? (i := 49) (by decide +kernel)), ⟨by decide +kernel, by decide +kernel⟩, by decide +kernel⟩
theorem kV_X5_requireOpen : gwV yX5_requireOpen := ⟨(List.mem_of_getElem? (i := 383) (by decide +kernel)), (List.mem_of_getElem? (i := 9) (by decide +kernel))⟩
theorem kM_X5_reset : gwM yX5_reset cX5_reset 5 (some .int) 2 := ⟨(List.mem_of_getElem? (i := 272) (by decide +kernel)), (List.mem_of_getElem? (i := 49) (by decide +kernel)), ⟨by decide +kernel, by decide +kernel⟩, by decide +kernel⟩
theorem kV_X5_reset : gwV yX5_reset := ⟨(List.mem_of_getElem? (i := 270) (by decide +kernel)), (List.mem_of_getElem? (i := 271) (by decide +kernel))⟩
theorem kM_X5_rootFor : gwM yX5_rootFor cX5_rootFor 4 (some (.object "LayeredImages$Layer")) 1 := ⟨(List.mem_of_getElem? (i := 389) (by decide +kernel)), (List.mem_of_getElem? (i := 49) (by decide +kernel)), ⟨by decide +kernel, by decide +kernel⟩, by decide +kernel⟩
theorem kV_X5_rootFor : gwV yX5_rootFor := ⟨(List.mem_of_getElem? (i := 388) (by decide +kernel)), (List.mem_of_getElem? (i := 10) (by decide +kernel))⟩
theorem kM_X5_setBase : gwM yX5_setBase cX5_setBase 5 (some .int) 3 := ⟨(List.mem_of_getElem? (i := 268) (by decide +kernel)), (List.mem_of_getElem? (i := 49) (by decide +kernel)), ⟨by decide +kernel, by decide +kernel⟩, by decide +kernel⟩
theorem kV_X5_setBase : gwV yX5_setBase := ⟨(List.mem_of_getElem? (i := 266) (by decide +kernel)), (List.mem_of_getElem? (i := 267) (by decide +kernel))⟩
theorem kM_X5_setFile : gwM yX5_setFile cX5_setFile 4 (some .int) 2 := ⟨(List.mem_of_getElem? (i := 171) (by decide +kernel)), (List.mem_of_getElem? (i := 49) (by decide +kernel)), ⟨by decide +kernel, by decide +kernel⟩, by decide +kernel⟩
theorem kV_X5_setFile : gwV yX5_setFile := ⟨(List.mem_of_getElem? (i := 169) (by decide +kernel)), (List.mem_of_getElem? (i := 170) (by decide +kernel))⟩
theorem kM_X5_shownAt : gwM yX5_shownAt cX5_shownAt 4 (some .int) 2 := ⟨(List.mem_of_getElem? (i := 669) (by decide +kernel)), (List.mem_of_getElem? (i := 49) (by decide +kernel)), ⟨by decide +kernel, by decide +kernel⟩, by decide +kernel⟩
theorem kV_X5_shownAt : gwV yX5_shownAt := ⟨(List.mem_of_getElem? (i := 667) (by decide +kernel)), (List.mem_of_getElem? (i := 668) (by decide +kernel))⟩
theorem kM_X5_sizeOf : gwM yX5_sizeOf cX5_sizeOf 2 (some .int) 1 := ⟨(List.mem_of_getElem? (i := 653) (by decide +kernel)), (List.mem_of_getElem? (i := 49) (by decide +kernel)), ⟨by decide +kernel, by decide +kernel⟩, by decide +kernel⟩
theorem kV_X5_sizeOf : gwV yX5_sizeOf := ⟨(List.mem_of_getElem? (i := 651) (by decide +kernel)), (List.mem_of_getElem? (i := 652) (by decide +kernel))⟩
theorem kM_X5_squash : gwM yX5_squash cX5_squash 5 (some .int) 2 := ⟨(List.mem_of_getElem? (i := 615) (by decide +kernel)), (List.mem_of_getElem? (i := 49) (by decide +kernel)), ⟨by decide +kernel, by decide +kernel⟩, by decide +kernel⟩
theorem kV_X5_squash : gwV yX5_squash := ⟨(List.mem_of_getElem? (i := 613) (by decide +kernel)), (List.mem_of_getElem? (i := 614) (by decide +kernel))⟩
theorem kM_X5_start : gwM yX5_start cX5_start 4 (some .int) 1 := ⟨(List.mem_of_getElem? (i := 367) (by decide +kernel)), (List.mem_of_getElem? (i := 49) (by decide +kernel)), ⟨by decide +kernel, by decide +kernel⟩, by decide +kernel⟩
theorem kV_X5_start : gwV yX5_start := ⟨(List.mem_of_getElem? (i := 365) (by decide +kernel)), (List.mem_of_getElem? (i := 366) (by decide +kernel))⟩
theorem kM_X5_step : gwM yX5_step cX5_step 5 (some .int) 0 := ⟨(List.mem_of_getElem? (i := 470) (by decide +kernel)), (List.mem_of_getElem? (i := 49) (by decide +kernel)), ⟨by decide +kernel, by decide +kernel⟩, by decide +kernel⟩
theorem kV_X5_step : gwV yX5_step := ⟨(List.mem_of_getElem? (i := 468) (by decide +kernel)), (List.mem_of_getElem? (i := 469) (by decide +kernel))⟩
theorem kM_X5_stepsLeft : gwM yX5_stepsLeft cX5_stepsLeft 1 (some .int) 0 := ⟨(List.mem_of_getElem? (i := 692) (by decide +kernel)), (List.mem_of_getElem? (i := 49) (by decide +kernel)), ⟨by decide +kernel, by decide +kernel⟩, by decide +kernel⟩
theorem kV_X5_stepsLeft : gwV yX5_stepsLeft := ⟨(List.mem_of_getElem? (i := 690) (by decide +kernel)), (List.mem_of_getElem? (i := 691) (by decide +kernel))⟩
theorem kM_X5_tag : gwM yX5_tag cX5_tag 4 (some .int) 1 := ⟨(List.mem_of_getElem? (i := 602) (by decide +kernel)), (List.mem_of_getElem? (i := 49) (by decide +kernel)), ⟨by decide +kernel, by decide +kernel⟩, by decide +kernel⟩
theorem kV_X5_tag : gwV yX5_tag := ⟨(List.mem_of_getElem? (i := 600) (by decide +kernel)), (List.mem_of_getElem? (i := 601) (by decide +kernel))⟩
theorem kM_X5_tagged : gwM yX5_tagged cX5_tagged 2 (some .int) 1 := ⟨(List.mem_of_getElem? (i := 611) (by decide +kernel)), (List.mem_of_getElem? (i := 49) (by decide +kernel)), ⟨by decide +kernel, by decide +kernel⟩, by decide +kernel⟩
theorem kV_X5_tagged : gwV yX5_tagged := ⟨(List.mem_of_getElem? (i := 609) (by decide +kernel)), (List.mem_of_getElem? (i := 610) (by decide +kernel))⟩
theorem kM_X5_untag : gwM yX5_untag cX5_untag 3 (some .int) 1 := ⟨(List.mem_of_getElem? (i := 607) (by decide +kernel)), (List.mem_of_getElem? (i := 49) (by decide +kernel)), ⟨by decide +kernel, by decide +kernel⟩, by decide +kernel⟩
theorem kV_X5_untag : gwV yX5_untag := ⟨(List.mem_of_getElem? (i := 605) (by decide +kernel)), (List.mem_of_getElem? (i := 606) (by decide +kernel))⟩
theorem kM_X5_variable : gwM yX5_variable cX5_variable 4 (some .int) 2 := ⟨(List.mem_of_getElem? (i := 674) (by decide +kernel)), (List.mem_of_getElem? (i := 49) (by decide +kernel)), ⟨by decide +kernel, by decide +kernel⟩, by decide +kernel⟩
theorem kV_X5_variable : gwV yX5_variable := ⟨(List.mem_of_getElem? (i := 672) (by decide +kernel)), (List.mem_of_getElem? (i := 673) (by decide +kernel))⟩
theorem kL_X5_32 : gwL RX5 32 yX4_init := Or.inr ⟨"LayeredImages", (List.mem_of_getElem? (i := 78) (by decide +kernel))⟩
theorem kL_X5_39 : gwL RX5 39 yX0_init := Or.inr ⟨"LayeredImages", (List.mem_of_getElem? (i := 94) (by decide +kernel))⟩
theorem kW_X5_44 : Cond.methodLink RX5 44 yJ7_fill_53178 ∈ lw_tbl := (List.mem_of_getElem? (i := 130) (by decide +kernel))
theorem kL_X5_44 : gwL RX5 44 yJ7_fill_53178 := Or.inl kW_X5_44
theorem kL_X5_50 : gwL RX5 50 yX3_init := Or.inr ⟨"LayeredImages", (List.mem_of_getElem? (i := 133) (by decide +kernel))⟩
theorem kW_X5_51 : Cond.methodLink RX5 51 yX5_requireIndex ∈ lw_tbl := (List.mem_of_getElem? (i := 172) (by decide +kernel))
theorem kL_X5_51 : gwL RX5 51 yX5_requireIndex := Or.inl kW_X5_51
theorem kW_X5_55 : Cond.methodLink RX5 55 yX5_requireContent ∈ lw_tbl := (List.mem_of_getElem? (i := 246) (by decide +kernel))
theorem kL_X5_55 : gwL RX5 55 yX5_requireContent := Or.inl kW_X5_55
theorem kW_X5_59 : Cond.methodLink RX5 59 yX5_recipeAt ∈ lw_tbl := (List.mem_of_getElem? (i := 273) (by decide +kernel))
theorem kL_X5_59 : gwL RX5 59 yX5_recipeAt := Or.inl kW_X5_59
theorem kL_X5_67 : gwL RX5 67 yX3_clearOn := Or.inr ⟨"LayeredImages", (List.mem_of_getElem? (i := 278) (by decide +kernel))⟩
theorem kW_X5_70 : Cond.methodLink RX5 70 yX5_addInstruction ∈ lw_tbl := (List.mem_of_getElem? (i := 303) (by decide +kernel))
theorem kL_X5_70 : gwL RX5 70 yX5_addInstruction := Or.inl kW_X5_70
theorem kL_X5_83 : gwL RX5 83 yX3_removeAt := Or.inr ⟨"LayeredImages", (List.mem_of_getElem? (i := 286) (by decide +kernel))⟩
theorem kW_X5_86 : Cond.methodLink RX5 86 yX5_requireNoBuild ∈ lw_tbl := (List.mem_of_getElem? (i := 368) (by decide +kernel))
theorem kL_X5_86 : gwL RX5 86 yX5_requireNoBuild := Or.inl kW_X5_86
theorem kW_X5_89 : Cond.methodLink RX5 89 yX5_requireOpen ∈ lw_tbl := (List.mem_of_getElem? (i := 381) (by decide +kernel))
theorem kL_X5_89 : gwL RX5 89 yX5_requireOpen := Or.inl kW_X5_89
theorem kW_X5_95 : Cond.methodLink RX5 95 yX5_rootFor ∈ lw_tbl := (List.mem_of_getElem? (i := 386) (by decide +kernel))
theorem kL_X5_95 : gwL RX5 95 yX5_rootFor := Or.inl kW_X5_95
theorem kL_X5_99 : gwL RX5 99 yX0_begin := Or.inr ⟨"LayeredImages", (List.mem_of_getElem? (i := 453) (by decide +kernel))⟩
theorem kL_X5_106 : gwL RX5 106 yX0_upcoming := Or.inr ⟨"LayeredImages", (List.mem_of_getElem? (i := 471) (by decide +kernel))⟩
theorem kL_X5_119 : gwL RX5 119 yX1_inputFrom := Or.inr ⟨"LayeredImages", (List.mem_of_getElem? (i := 478) (by decide +kernel))⟩
theorem kL_X5_125 : gwL RX5 125 yX1_failsOn := Or.inr ⟨"LayeredImages", (List.mem_of_getElem? (i := 483) (by decide +kernel))⟩
theorem kL_X5_129 : gwL RX5 129 yX0_fail := Or.inr ⟨"LayeredImages", (List.mem_of_getElem? (i := 492) (by decide +kernel))⟩
theorem kW_X5_132 : Cond.methodLink RX5 132 yX5_layerOfStep ∈ lw_tbl := (List.mem_of_getElem? (i := 496) (by decide +kernel))
theorem kL_X5_132 : gwL RX5 132 yX5_layerOfStep := Or.inl kW_X5_132
theorem kL_X5_136 : gwL RX5 136 yX0_advanceTo := Or.inr ⟨"LayeredImages", (List.mem_of_getElem? (i := 542) (by decide +kernel))⟩
theorem kW_X5_140 : Cond.methodLink RX5 140 yX5_start ∈ lw_tbl := (List.mem_of_getElem? (i := 550) (by decide +kernel))
theorem kL_X5_140 : gwL RX5 140 yX5_start := Or.inl kW_X5_140
theorem kL_X5_144 : gwL RX5 144 yX0_goesOn := Or.inr ⟨"LayeredImages", (List.mem_of_getElem? (i := 372) (by decide +kernel))⟩
theorem kW_X5_148 : Cond.methodLink RX5 148 yX5_step ∈ lw_tbl := (List.mem_of_getElem? (i := 551) (by decide +kernel))
theorem kL_X5_148 : gwL RX5 148 yX5_step := Or.inl kW_X5_148
theorem kW_X5_152 : Cond.methodLink RX5 152 yX5_built ∈ lw_tbl := (List.mem_of_getElem? (i := 552) (by decide +kernel))
theorem kL_X5_152 : gwL RX5 152 yX5_built := Or.inl kW_X5_152
theorem kL_X5_155 : gwL RX5 155 yX0_left := Or.inr ⟨"LayeredImages", (List.mem_of_getElem? (i := 693) (by decide +kernel))⟩
theorem kL_X5_158 : gwL RX5 158 yX0_finished := Or.inr ⟨"LayeredImages", (List.mem_of_getElem? (i := 556) (by decide +kernel))⟩
theorem kW_X5_162 : Cond.methodLink RX5 162 yX5_numberOf ∈ lw_tbl := (List.mem_of_getElem? (i := 560) (by decide +kernel))
theorem kL_X5_162 : gwL RX5 162 yX5_numberOf := Or.inl kW_X5_162
theorem kW_X5_172 : Cond.methodLink RX5 172 yX5_contentsOf ∈ lw_tbl := (List.mem_of_getElem? (i := 390) (by decide +kernel))
theorem kL_X5_172 : gwL RX5 172 yX5_contentsOf := Or.inl kW_X5_172
theorem kL_X5_176 : gwL RX5 176 yX2_init := Or.inr ⟨"LayeredImages", (List.mem_of_getElem? (i := 567) (by decide +kernel))⟩
theorem kL_X5_179 : gwL RX5 179 yX3_at := Or.inr ⟨"LayeredImages", (List.mem_of_getElem? (i := 568) (by decide +kernel))⟩
theorem kL_X5_183 : gwL RX5 183 yX1_carryOut := Or.inr ⟨"LayeredImages", (List.mem_of_getElem? (i := 569) (by decide +kernel))⟩
theorem kL_X5_187 : gwL RX5 187 yX2_fingerprint := Or.inr ⟨"LayeredImages", (List.mem_of_getElem? (i := 570) (by decide +kernel))⟩
theorem kL_X5_202 : gwL RX5 202 yX2_partAt := Or.inr ⟨"LayeredImages", (List.mem_of_getElem? (i := 584) (by decide +kernel))⟩
theorem kL_X5_205 : gwL RX5 205 yX4_newChild := Or.inr ⟨"LayeredImages", (List.mem_of_getElem? (i := 512) (by decide +kernel))⟩
theorem kL_X5_209 : gwL RX5 209 yX2_showLike := Or.inr ⟨"LayeredImages", (List.mem_of_getElem? (i := 618) (by decide +kernel))⟩
theorem kL_X5_212 : gwL RX5 212 yX2_holdLike := Or.inr ⟨"LayeredImages", (List.mem_of_getElem? (i := 631) (by decide +kernel))⟩
theorem kL_X5_218 : gwL RX5 218 yX4_find := Or.inr ⟨"LayeredImages", (List.mem_of_getElem? (i := 579) (by decide +kernel))⟩
theorem kW_X5_221 : Cond.methodLink RX5 221 yX5_isInTaggedImage ∈ lw_tbl := (List.mem_of_getElem? (i := 580) (by decide +kernel))
theorem kL_X5_221 : gwL RX5 221 yX5_isInTaggedImage := Or.inl kW_X5_221
theorem kL_X5_225 : gwL RX5 225 yX4_remove := Or.inr ⟨"LayeredImages", (List.mem_of_getElem? (i := 588) (by decide +kernel))⟩
theorem kL_X5_228 : gwL RX5 228 yX0_forget := Or.inr ⟨"LayeredImages", (List.mem_of_getElem? (i := 592) (by decide +kernel))⟩
theorem kW_X5_231 : Cond.methodLink RX5 231 yX5_layerAt ∈ lw_tbl := (List.mem_of_getElem? (i := 645) (by decide +kernel))
theorem kL_X5_231 : gwL RX5 231 yX5_layerAt := Or.inl kW_X5_231
theorem kL_X5_237 : gwL RX5 237 yX2_size := Or.inr ⟨"LayeredImages", (List.mem_of_getElem? (i := 654) (by decide +kernel))⟩
theorem kL_X5_240 : gwL RX5 240 yX2_holds := Or.inr ⟨"LayeredImages", (List.mem_of_getElem? (i := 662) (by decide +kernel))⟩
theorem kL_X5_243 : gwL RX5 243 yX2_shows := Or.inr ⟨"LayeredImages", (List.mem_of_getElem? (i := 670) (by decide +kernel))⟩
theorem kL_X5_246 : gwL RX5 246 yX2_value := Or.inr ⟨"LayeredImages", (List.mem_of_getElem? (i := 675) (by decide +kernel))⟩
theorem kW_X5_249 : Cond.methodLink RX5 249 yX5_isIn ∈ lw_tbl := (List.mem_of_getElem? (i := 175) (by decide +kernel))
theorem kL_X5_249 : gwL RX5 249 yX5_isIn := Or.inl kW_X5_249
theorem kL_X5_267 : gwL RX5 267 yX1_init := Or.inr ⟨"LayeredImages", (List.mem_of_getElem? (i := 325) (by decide +kernel))⟩
theorem kL_X5_270 : gwL RX5 270 yX3_append := Or.inr ⟨"LayeredImages", (List.mem_of_getElem? (i := 339) (by decide +kernel))⟩
theorem kL_X5_274 : gwL RX5 274 yX4_findRoot := Or.inr ⟨"LayeredImages", (List.mem_of_getElem? (i := 394) (by decide +kernel))⟩
theorem kL_X5_278 : gwL RX5 278 yX4_newRoot := Or.inr ⟨"LayeredImages", (List.mem_of_getElem? (i := 408) (by decide +kernel))⟩
theorem kL_X5_281 : gwL RX5 281 yX4_findMade := Or.inr ⟨"LayeredImages", (List.mem_of_getElem? (i := 500) (by decide +kernel))⟩
theorem kL_X5_284 : gwL RX5 284 yX2_becomeMadeBy := Or.inr ⟨"LayeredImages", (List.mem_of_getElem? (i := 519) (by decide +kernel))⟩
theorem kL_X0_9 : gwL RX0 9 yX3_init := Or.inr ⟨"LayeredImages", (List.mem_of_getElem? (i := 100) (by decide +kernel))⟩
theorem kL_X0_16 : gwL RX0 16 yX3_becomeLike := Or.inr ⟨"LayeredImages", (List.mem_of_getElem? (i := 457) (by decide +kernel))⟩
theorem kW_X0_31 : Cond.methodLink RX0 31 yX0_left ∈ lw_tbl := (List.mem_of_getElem? (i := 376) (by decide +kernel))
theorem kL_X0_31 : gwL RX0 31 yX0_left := Or.inl kW_X0_31
theorem kW_X0_35 : Cond.methodLink RX0 35 yX0_goesOn ∈ lw_tbl := (List.mem_of_getElem? (i := 475) (by decide +kernel))
theorem kL_X0_35 : gwL RX0 35 yX0_goesOn := Or.inl kW_X0_35
theorem kL_X0_39 : gwL RX0 39 yX3_at := Or.inr ⟨"LayeredImages", (List.mem_of_getElem? (i := 476) (by decide +kernel))⟩
theorem kL_X1_21 : gwL RX1 21 yX5_isIn := Or.inr ⟨"LayeredImages", (List.mem_of_getElem? (i := 482) (by decide +kernel))⟩
theorem kL_X1_25 : gwL RX1 25 yX2_shows := Or.inr ⟨"LayeredImages", (List.mem_of_getElem? (i := 487) (by decide +kernel))⟩
theorem kL_X1_31 : gwL RX1 31 yX2_hold := Or.inr ⟨"LayeredImages", (List.mem_of_getElem? (i := 527) (by decide +kernel))⟩
theorem kL_X1_35 : gwL RX1 35 yX2_value := Or.inr ⟨"LayeredImages", (List.mem_of_getElem? (i := 531) (by decide +kernel))⟩
theorem kW_X1_38 : Cond.methodLink RX1 38 yX1_runOn ∈ lw_tbl := (List.mem_of_getElem? (i := 535) (by decide +kernel))
theorem kL_X1_38 : gwL RX1 38 yX1_runOn := Or.inl kW_X1_38
theorem kL_X1_42 : gwL RX1 42 yX2_assign := Or.inr ⟨"LayeredImages", (List.mem_of_getElem? (i := 538) (by decide +kernel))⟩
theorem kL_X2_35 : gwL RX2 35 yX5_isIn := Or.inr ⟨"LayeredImages", (List.mem_of_getElem? (i := 491) (by decide +kernel))⟩
theorem kL_X2_43 : gwL RX2 43 yX1_carryOut := Or.inr ⟨"LayeredImages", (List.mem_of_getElem? (i := 523) (by decide +kernel))⟩
theorem kL_X2_49 : gwL RX2 49 yX1_isSameAs := Or.inr ⟨"LayeredImages", (List.mem_of_getElem? (i := 508) (by decide +kernel))⟩
theorem kW_X2_53 : Cond.methodLink RX2 53 yX2_hold ∈ lw_tbl := (List.mem_of_getElem? (i := 622) (by decide +kernel))
theorem kL_X2_53 : gwL RX2 53 yX2_hold := Or.inl kW_X2_53
theorem kW_X2_57 : Cond.methodLink RX2 57 yX2_assignLike ∈ lw_tbl := (List.mem_of_getElem? (i := 623) (by decide +kernel))
theorem kL_X2_57 : gwL RX2 57 yX2_assignLike := Or.inl kW_X2_57
theorem kL_X3_17 : gwL RX3 17 yX5_isIn := Or.inr ⟨"LayeredImages", (List.mem_of_getElem? (i := 290) (by decide +kernel))⟩
theorem kW_X3_28 : Cond.methodLink RX3 28 yX3_clearOn ∈ lw_tbl := (List.mem_of_getElem? (i := 461) (by decide +kernel))
theorem kL_X3_28 : gwL RX3 28 yX3_clearOn := Or.inl kW_X3_28
theorem kW_X3_32 : Cond.methodLink RX3 32 yX3_at ∈ lw_tbl := (List.mem_of_getElem? (i := 462) (by decide +kernel))
theorem kL_X3_32 : gwL RX3 32 yX3_at := Or.inl kW_X3_32
theorem kW_X3_36 : Cond.methodLink RX3 36 yX3_append ∈ lw_tbl := (List.mem_of_getElem? (i := 466) (by decide +kernel))
theorem kL_X3_36 : gwL RX3 36 yX3_append := Or.inl kW_X3_36
theorem kL_X4_17 : gwL RX4 17 yX5_isIn := Or.inr ⟨"LayeredImages", (List.mem_of_getElem? (i := 402) (by decide +kernel))⟩
theorem kW_X4_25 : Cond.methodLink RX4 25 yX4_find ∈ lw_tbl := (List.mem_of_getElem? (i := 398) (by decide +kernel))
theorem kL_X4_25 : gwL RX4 25 yX4_find := Or.inl kW_X4_25
theorem kL_X4_29 : gwL RX4 29 yX2_isRootOf := Or.inr ⟨"LayeredImages", (List.mem_of_getElem? (i := 403) (by decide +kernel))⟩
theorem kL_X4_40 : gwL RX4 40 yX2_wasMadeBy := Or.inr ⟨"LayeredImages", (List.mem_of_getElem? (i := 504) (by decide +kernel))⟩
theorem kL_X4_44 : gwL RX4 44 yX2_init := Or.inr ⟨"LayeredImages", (List.mem_of_getElem? (i := 412) (by decide +kernel))⟩
theorem kW_X4_47 : Cond.methodLink RX4 47 yX4_kept ∈ lw_tbl := (List.mem_of_getElem? (i := 446) (by decide +kernel))
theorem kL_X4_47 : gwL RX4 47 yX4_kept := Or.inl kW_X4_47
theorem kL_X4_51 : gwL RX4 51 yX2_init_ := Or.inr ⟨"LayeredImages", (List.mem_of_getElem? (i := 516) (by decide +kernel))⟩
theorem kW_L_8 : Cond.methodLink RL 8 yX5_setFile ∈ lw_tbl := (List.mem_of_getElem? (i := 168) (by decide +kernel))
theorem kL_L_8 : gwL RL 8 yX5_setFile := Or.inl kW_L_8
theorem kW_L_14 : Cond.methodLink RL 14 yX5_setBase ∈ lw_tbl := (List.mem_of_getElem? (i := 265) (by decide +kernel))
theorem kL_L_14 : gwL RL 14 yX5_setBase := Or.inl kW_L_14
theorem kW_L_18 : Cond.methodLink RL 18 yX5_reset ∈ lw_tbl := (List.mem_of_getElem? (i := 269) (by decide +kernel))
theorem kL_L_18 : gwL RL 18 yX5_reset := Or.inl kW_L_18
theorem kW_L_21 : Cond.methodLink RL 21 yX5_drop ∈ lw_tbl := (List.mem_of_getElem? (i := 282) (by decide +kernel))
theorem kL_L_21 : gwL RL 21 yX5_drop := Or.inl kW_L_21
theorem kW_L_24 : Cond.methodLink RL 24 yX5_instructions ∈ lw_tbl := (List.mem_of_getElem? (i := 291) (by decide +kernel))
theorem kL_L_24 : gwL RL 24 yX5_instructions := Or.inl kW_L_24
theorem kW_L_32 : Cond.methodLink RL 32 yX5_addCopy ∈ lw_tbl := (List.mem_of_getElem? (i := 299) (by decide +kernel))
theorem kL_L_32 : gwL RL 32 yX5_addCopy := Or.inl kW_L_32
theorem kW_L_35 : Cond.methodLink RL 35 yX5_addRun ∈ lw_tbl := (List.mem_of_getElem? (i := 343) (by decide +kernel))
theorem kL_L_35 : gwL RL 35 yX5_addRun := Or.inl kW_L_35
theorem kW_L_38 : Cond.methodLink RL 38 yX5_addMove ∈ lw_tbl := (List.mem_of_getElem? (i := 347) (by decide +kernel))
theorem kL_L_38 : gwL RL 38 yX5_addMove := Or.inl kW_L_38
theorem kW_L_41 : Cond.methodLink RL 41 yX5_addRemove ∈ lw_tbl := (List.mem_of_getElem? (i := 352) (by decide +kernel))
theorem kL_L_41 : gwL RL 41 yX5_addRemove := Or.inl kW_L_41
theorem kW_L_44 : Cond.methodLink RL 44 yX5_addSet ∈ lw_tbl := (List.mem_of_getElem? (i := 356) (by decide +kernel))
theorem kL_L_44 : gwL RL 44 yX5_addSet := Or.inl kW_L_44
theorem kW_L_49 : Cond.methodLink RL 49 yX5_start ∈ lw_tbl := (List.mem_of_getElem? (i := 364) (by decide +kernel))
theorem kL_L_49 : gwL RL 49 yX5_start := Or.inl kW_L_49
theorem kW_L_52 : Cond.methodLink RL 52 yX5_step ∈ lw_tbl := (List.mem_of_getElem? (i := 467) (by decide +kernel))
theorem kL_L_52 : gwL RL 52 yX5_step := Or.inl kW_L_52
theorem kW_L_56 : Cond.methodLink RL 56 yX5_build ∈ lw_tbl := (List.mem_of_getElem? (i := 546) (by decide +kernel))
theorem kL_L_56 : gwL RL 56 yX5_build := Or.inl kW_L_56
theorem kW_L_59 : Cond.methodLink RL 59 yX5_cleanDigest ∈ lw_tbl := (List.mem_of_getElem? (i := 563) (by decide +kernel))
theorem kL_L_59 : gwL RL 59 yX5_cleanDigest := Or.inl kW_L_59
theorem kW_L_62 : Cond.methodLink RL 62 yX5_prune ∈ lw_tbl := (List.mem_of_getElem? (i := 575) (by decide +kernel))
theorem kL_L_62 : gwL RL 62 yX5_prune := Or.inl kW_L_62
theorem kW_L_65 : Cond.methodLink RL 65 yX5_tag ∈ lw_tbl := (List.mem_of_getElem? (i := 599) (by decide +kernel))
theorem kL_L_65 : gwL RL 65 yX5_tag := Or.inl kW_L_65
theorem kW_L_68 : Cond.methodLink RL 68 yX5_untag ∈ lw_tbl := (List.mem_of_getElem? (i := 604) (by decide +kernel))
theorem kL_L_68 : gwL RL 68 yX5_untag := Or.inl kW_L_68
theorem kW_L_71 : Cond.methodLink RL 71 yX5_tagged ∈ lw_tbl := (List.mem_of_getElem? (i := 608) (by decide +kernel))
theorem kL_L_71 : gwL RL 71 yX5_tagged := Or.inl kW_L_71
theorem kW_L_74 : Cond.methodLink RL 74 yX5_squash ∈ lw_tbl := (List.mem_of_getElem? (i := 612) (by decide +kernel))
theorem kL_L_74 : gwL RL 74 yX5_squash := Or.inl kW_L_74
theorem kW_L_77 : Cond.methodLink RL 77 yX5_rebase ∈ lw_tbl := (List.mem_of_getElem? (i := 627) (by decide +kernel))
theorem kL_L_77 : gwL RL 77 yX5_rebase := Or.inl kW_L_77
theorem kW_L_80 : Cond.methodLink RL 80 yX5_parentOf ∈ lw_tbl := (List.mem_of_getElem? (i := 641) (by decide +kernel))
theorem kL_L_80 : gwL RL 80 yX5_parentOf := Or.inl kW_L_80
theorem kW_L_83 : Cond.methodLink RL 83 yX5_sizeOf ∈ lw_tbl := (List.mem_of_getElem? (i := 650) (by decide +kernel))
theorem kL_L_83 : gwL RL 83 yX5_sizeOf := Or.inl kW_L_83
theorem kW_L_86 : Cond.methodLink RL 86 yX5_heldAt ∈ lw_tbl := (List.mem_of_getElem? (i := 658) (by decide +kernel))
theorem kL_L_86 : gwL RL 86 yX5_heldAt := Or.inl kW_L_86
theorem kW_L_89 : Cond.methodLink RL 89 yX5_shownAt ∈ lw_tbl := (List.mem_of_getElem? (i := 666) (by decide +kernel))
theorem kL_L_89 : gwL RL 89 yX5_shownAt := Or.inl kW_L_89
theorem kW_L_92 : Cond.methodLink RL 92 yX5_variable ∈ lw_tbl := (List.mem_of_getElem? (i := 671) (by decide +kernel))
theorem kL_L_92 : gwL RL 92 yX5_variable := Or.inl kW_L_92
theorem kW_L_95 : Cond.methodLink RL 95 yX5_depth ∈ lw_tbl := (List.mem_of_getElem? (i := 676) (by decide +kernel))
theorem kL_L_95 : gwL RL 95 yX5_depth := Or.inl kW_L_95
theorem kW_L_98 : Cond.methodLink RL 98 yX5_imageSize ∈ lw_tbl := (List.mem_of_getElem? (i := 680) (by decide +kernel))
theorem kL_L_98 : gwL RL 98 yX5_imageSize := Or.inl kW_L_98
theorem kW_L_101 : Cond.methodLink RL 101 yX5_digest ∈ lw_tbl := (List.mem_of_getElem? (i := 684) (by decide +kernel))
theorem kL_L_101 : gwL RL 101 yX5_digest := Or.inl kW_L_101
theorem kW_L_104 : Cond.methodLink RL 104 yL_tells ∈ lw_tbl := (List.mem_of_getElem? (i := 638) (by decide +kernel))
theorem kL_L_104 : gwL RL 104 yL_tells := Or.inl kW_L_104
theorem kW_L_111 : Cond.methodLink RL 111 yX5_layers ∈ lw_tbl := (List.mem_of_getElem? (i := 159) (by decide +kernel))
theorem kL_L_111 : gwL RL 111 yX5_layers := Or.inl kW_L_111
theorem kW_L_114 : Cond.methodLink RL 114 yX5_built ∈ lw_tbl := (List.mem_of_getElem? (i := 688) (by decide +kernel))
theorem kL_L_114 : gwL RL 114 yX5_built := Or.inl kW_L_114
theorem kW_L_117 : Cond.methodLink RL 117 yX5_stepsLeft ∈ lw_tbl := (List.mem_of_getElem? (i := 689) (by decide +kernel))
theorem kL_L_117 : gwL RL 117 yX5_stepsLeft := Or.inl kW_L_117
theorem kW_L_120 : Cond.methodLink RL 120 yL_isLayer ∈ lw_tbl := (List.mem_of_getElem? (i := 694) (by decide +kernel))
theorem kL_L_120 : gwL RL 120 yL_isLayer := Or.inl kW_L_120
theorem kW_L_124 : Cond.methodLink RL 124 yL_sets ∈ lw_tbl := (List.mem_of_getElem? (i := 163) (by decide +kernel))
theorem kL_L_124 : gwL RL 124 yL_sets := Or.inl kW_L_124
theorem kW_L_128 : Cond.methodLink RL 128 yL_adds ∈ lw_tbl := (List.mem_of_getElem? (i := 295) (by decide +kernel))
theorem kL_L_128 : gwL RL 128 yL_adds := Or.inl kW_L_128
theorem kW_L_131 : Cond.methodLink RL 131 yL_builds ∈ lw_tbl := (List.mem_of_getElem? (i := 361) (by decide +kernel))
theorem kL_L_131 : gwL RL 131 yL_builds := Or.inl kW_L_131
theorem kW_L_135 : Cond.methodLink RL 135 yX5_hits ∈ lw_tbl := (List.mem_of_getElem? (i := 711) (by decide +kernel))
theorem kL_L_135 : gwL RL 135 yX5_hits := Or.inl kW_L_135
theorem kW_L_138 : Cond.methodLink RL 138 yX5_misses ∈ lw_tbl := (List.mem_of_getElem? (i := 715) (by decide +kernel))
theorem kL_L_138 : gwL RL 138 yX5_misses := Or.inl kW_L_138
theorem kW_L_141 : Cond.methodLink RL 141 yL_tags ∈ lw_tbl := (List.mem_of_getElem? (i := 596) (by decide +kernel))
theorem kL_L_141 : gwL RL 141 yL_tags := Or.inl kW_L_141
theorem kW_L_144 : Cond.methodLink RL 144 yL_isKept ∈ lw_tbl := (List.mem_of_getElem? (i := 728) (by decide +kernel))
theorem kL_L_144 : gwL RL 144 yL_isKept := Or.inl kW_L_144
theorem kW_L_147 : Cond.methodLink RL 147 yL_part ∈ lw_tbl := (List.mem_of_getElem? (i := 701) (by decide +kernel))
theorem kL_L_147 : gwL RL 147 yL_part := Or.inl kW_L_147
theorem kW_L_151 : Cond.methodLink RL 151 yL_isAdded ∈ lw_tbl := (List.mem_of_getElem? (i := 705) (by decide +kernel))
theorem kL_L_151 : gwL RL 151 yL_isAdded := Or.inl kW_L_151
theorem kW_L_155 : Cond.methodLink RL 155 yL_isBuilt ∈ lw_tbl := (List.mem_of_getElem? (i := 708) (by decide +kernel))
theorem kL_L_155 : gwL RL 155 yL_isBuilt := Or.inl kW_L_155
theorem kW_L_158 : Cond.methodLink RL 158 yL_isSquashed ∈ lw_tbl := (List.mem_of_getElem? (i := 719) (by decide +kernel))
theorem kL_L_158 : gwL RL 158 yL_isSquashed := Or.inl kW_L_158
theorem kW_L_162 : Cond.methodLink RL 162 yL_isRebased ∈ lw_tbl := (List.mem_of_getElem? (i := 722) (by decide +kernel))
theorem kL_L_162 : gwL RL 162 yL_isRebased := Or.inl kW_L_162
theorem kW_L_165 : Cond.methodLink RL 165 yL_isPruned ∈ lw_tbl := (List.mem_of_getElem? (i := 725) (by decide +kernel))
theorem kL_L_165 : gwL RL 165 yL_isPruned := Or.inl kW_L_165
theorem kW_L_169 : Cond.methodLink RL 169 yX5_init ∈ lw_tbl := (List.mem_of_getElem? (i := 64) (by decide +kernel))
theorem kL_L_169 : gwL RL 169 yX5_init := Or.inl kW_L_169
theorem kW_L_170 : Cond.methodLink RL 170 yL_areAll ∈ lw_tbl := (List.mem_of_getElem? (i := 635) (by decide +kernel))
theorem kL_L_170 : gwL RL 170 yL_areAll := Or.inl kW_L_170
theorem kW_L_174 : Cond.methodLink RL 174 yL_isDone ∈ lw_tbl := (List.mem_of_getElem? (i := 698) (by decide +kernel))
theorem kL_L_174 : gwL RL 174 yL_isDone := Or.inl kW_L_174

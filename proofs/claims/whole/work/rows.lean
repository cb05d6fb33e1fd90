section
-- ===== PART A: goes FIRST, ahead of the names: the tables' words, and 'selects' of the private methods out of them =====
/-- a private method of a class that the tables say can be made, by its rows of tables_1 -/
def lw_okq (q : MethodName × Nat) : Prop := (q.1.cls ≠ "java/lang/invoke/MethodHandle" ∧ q.1.cls ≠ "java/lang/invoke/VarHandle") ∧ Cond.instantiable q.1.cls q.2 ∈ tables_1 ∧ Cond.privateMethod q.1 ∈ tables_1 ∧ Cond.instanceMethod q.1 ∈ tables_1
theorem lw_p0 : lw_okq (⟨"LayeredImages$Build", "left", "()I"⟩, 3) := ⟨⟨by decide +kernel, by decide +kernel⟩, List.mem_of_getElem? (i := 46) (by decide +kernel), List.mem_of_getElem? (i := 117) (by decide +kernel), List.mem_of_getElem? (i := 118) (by decide +kernel)⟩
theorem lw_p1 : lw_okq (⟨"LayeredImages$Build", "finished", "()LLayeredImages$Layer;"⟩, 3) := ⟨⟨by decide +kernel, by decide +kernel⟩, List.mem_of_getElem? (i := 46) (by decide +kernel), List.mem_of_getElem? (i := 125) (by decide +kernel), List.mem_of_getElem? (i := 126) (by decide +kernel)⟩
theorem lw_p2 : lw_okq (⟨"LayeredImages$Build", "goesOn", "()Z"⟩, 3) := ⟨⟨by decide +kernel, by decide +kernel⟩, List.mem_of_getElem? (i := 46) (by decide +kernel), List.mem_of_getElem? (i := 129) (by decide +kernel), List.mem_of_getElem? (i := 130) (by decide +kernel)⟩
theorem lw_p3 : lw_okq (⟨"java/lang/Throwable", "fillInStackTrace", "(I)Ljava/lang/Throwable;"⟩, 6) := ⟨⟨by decide +kernel, by decide +kernel⟩, List.mem_of_getElem? (i := 202) (by decide +kernel), List.mem_of_getElem? (i := 200) (by decide +kernel), List.mem_of_getElem? (i := 201) (by decide +kernel)⟩
theorem lw_p4 : lw_okq (⟨"LayeredImages", "recipeAt", "(I)LLayeredImages$Recipe;"⟩, 8) := ⟨⟨by decide +kernel, by decide +kernel⟩, List.mem_of_getElem? (i := 16) (by decide +kernel), List.mem_of_getElem? (i := 265) (by decide +kernel), List.mem_of_getElem? (i := 266) (by decide +kernel)⟩
theorem lw_p5 : lw_okq (⟨"LayeredImages$Recipe", "clearOn", "(I)V"⟩, 3) := ⟨⟨by decide +kernel, by decide +kernel⟩, List.mem_of_getElem? (i := 52) (by decide +kernel), List.mem_of_getElem? (i := 270) (by decide +kernel), List.mem_of_getElem? (i := 271) (by decide +kernel)⟩
theorem lw_p6 : lw_okq (⟨"LayeredImages", "addInstruction", "(IIII)I"⟩, 8) := ⟨⟨by decide +kernel, by decide +kernel⟩, List.mem_of_getElem? (i := 16) (by decide +kernel), List.mem_of_getElem? (i := 282) (by decide +kernel), List.mem_of_getElem? (i := 283) (by decide +kernel)⟩
theorem lw_p7 : lw_okq (⟨"LayeredImages$Recipe", "append", "(LLayeredImages$Instruction;)V"⟩, 3) := ⟨⟨by decide +kernel, by decide +kernel⟩, List.mem_of_getElem? (i := 52) (by decide +kernel), List.mem_of_getElem? (i := 318) (by decide +kernel), List.mem_of_getElem? (i := 319) (by decide +kernel)⟩
theorem lw_p8 : lw_okq (⟨"LayeredImages$Recipe", "removeAt", "(I)V"⟩, 3) := ⟨⟨by decide +kernel, by decide +kernel⟩, List.mem_of_getElem? (i := 52) (by decide +kernel), List.mem_of_getElem? (i := 360) (by decide +kernel), List.mem_of_getElem? (i := 361) (by decide +kernel)⟩
theorem lw_p9 : lw_okq (⟨"LayeredImages", "requireNoBuild", "()V"⟩, 8) := ⟨⟨by decide +kernel, by decide +kernel⟩, List.mem_of_getElem? (i := 16) (by decide +kernel), List.mem_of_getElem? (i := 378) (by decide +kernel), List.mem_of_getElem? (i := 379) (by decide +kernel)⟩
theorem lw_p10 : lw_okq (⟨"LayeredImages", "requireOpen", "()V"⟩, 8) := ⟨⟨by decide +kernel, by decide +kernel⟩, List.mem_of_getElem? (i := 16) (by decide +kernel), List.mem_of_getElem? (i := 384) (by decide +kernel), List.mem_of_getElem? (i := 385) (by decide +kernel)⟩
theorem lw_p11 : lw_okq (⟨"LayeredImages", "rootFor", "(I)LLayeredImages$Layer;"⟩, 8) := ⟨⟨by decide +kernel, by decide +kernel⟩, List.mem_of_getElem? (i := 16) (by decide +kernel), List.mem_of_getElem? (i := 389) (by decide +kernel), List.mem_of_getElem? (i := 390) (by decide +kernel)⟩
theorem lw_p12 : lw_okq (⟨"LayeredImages", "contentsOf", "(I)[I"⟩, 8) := ⟨⟨by decide +kernel, by decide +kernel⟩, List.mem_of_getElem? (i := 16) (by decide +kernel), List.mem_of_getElem? (i := 393) (by decide +kernel), List.mem_of_getElem? (i := 394) (by decide +kernel)⟩
theorem lw_p13 : lw_okq (⟨"LayeredImages$Store", "findRoot", "([I)LLayeredImages$Layer;"⟩, 2) := ⟨⟨by decide +kernel, by decide +kernel⟩, List.mem_of_getElem? (i := 30) (by decide +kernel), List.mem_of_getElem? (i := 397) (by decide +kernel), List.mem_of_getElem? (i := 398) (by decide +kernel)⟩
theorem lw_p14 : lw_okq (⟨"LayeredImages$Store", "find", "(I)LLayeredImages$Layer;"⟩, 2) := ⟨⟨by decide +kernel, by decide +kernel⟩, List.mem_of_getElem? (i := 30) (by decide +kernel), List.mem_of_getElem? (i := 401) (by decide +kernel), List.mem_of_getElem? (i := 402) (by decide +kernel)⟩
theorem lw_p15 : lw_okq (⟨"LayeredImages$Layer", "isRootOf", "([I)Z"⟩, 8) := ⟨⟨by decide +kernel, by decide +kernel⟩, List.mem_of_getElem? (i := 408) (by decide +kernel), List.mem_of_getElem? (i := 406) (by decide +kernel), List.mem_of_getElem? (i := 407) (by decide +kernel)⟩
def lw_privs_1 : List (MethodName × Nat) := [(⟨"LayeredImages$Build", "left", "()I"⟩, 3), (⟨"LayeredImages$Build", "finished", "()LLayeredImages$Layer;"⟩, 3), (⟨"LayeredImages$Build", "goesOn", "()Z"⟩, 3), (⟨"java/lang/Throwable", "fillInStackTrace", "(I)Ljava/lang/Throwable;"⟩, 6), (⟨"LayeredImages", "recipeAt", "(I)LLayeredImages$Recipe;"⟩, 8), (⟨"LayeredImages$Recipe", "clearOn", "(I)V"⟩, 3), (⟨"LayeredImages", "addInstruction", "(IIII)I"⟩, 8), (⟨"LayeredImages$Recipe", "append", "(LLayeredImages$Instruction;)V"⟩, 3), (⟨"LayeredImages$Recipe", "removeAt", "(I)V"⟩, 3), (⟨"LayeredImages", "requireNoBuild", "()V"⟩, 8), (⟨"LayeredImages", "requireOpen", "()V"⟩, 8), (⟨"LayeredImages", "rootFor", "(I)LLayeredImages$Layer;"⟩, 8), (⟨"LayeredImages", "contentsOf", "(I)[I"⟩, 8), (⟨"LayeredImages$Store", "findRoot", "([I)LLayeredImages$Layer;"⟩, 2), (⟨"LayeredImages$Store", "find", "(I)LLayeredImages$Layer;"⟩, 2), (⟨"LayeredImages$Layer", "isRootOf", "([I)Z"⟩, 8)]
theorem lw_r1 : ∀ q ∈ lw_privs_1, lw_okq q := List.forall_mem_cons.mpr ⟨lw_p0, List.forall_mem_cons.mpr ⟨lw_p1, List.forall_mem_cons.mpr ⟨lw_p2, List.forall_mem_cons.mpr ⟨lw_p3, List.forall_mem_cons.mpr ⟨lw_p4, List.forall_mem_cons.mpr ⟨lw_p5, List.forall_mem_cons.mpr ⟨lw_p6, List.forall_mem_cons.mpr ⟨lw_p7, List.forall_mem_cons.mpr ⟨lw_p8, List.forall_mem_cons.mpr ⟨lw_p9, List.forall_mem_cons.mpr ⟨lw_p10, List.forall_mem_cons.mpr ⟨lw_p11, List.forall_mem_cons.mpr ⟨lw_p12, List.forall_mem_cons.mpr ⟨lw_p13, List.forall_mem_cons.mpr ⟨lw_p14, List.forall_mem_cons.mpr ⟨lw_p15, fun _ h => absurd h List.not_mem_nil⟩⟩⟩⟩⟩⟩⟩⟩⟩⟩⟩⟩⟩⟩⟩⟩
theorem lw_p16 : lw_okq (⟨"LayeredImages$Store", "newRoot", "([I)LLayeredImages$Layer;"⟩, 2) := ⟨⟨by decide +kernel, by decide +kernel⟩, List.mem_of_getElem? (i := 30) (by decide +kernel), List.mem_of_getElem? (i := 411) (by decide +kernel), List.mem_of_getElem? (i := 412) (by decide +kernel)⟩
theorem lw_p17 : lw_okq (⟨"LayeredImages$Store", "kept", "(LLayeredImages$Layer;)LLayeredImages$Layer;"⟩, 2) := ⟨⟨by decide +kernel, by decide +kernel⟩, List.mem_of_getElem? (i := 30) (by decide +kernel), List.mem_of_getElem? (i := 449) (by decide +kernel), List.mem_of_getElem? (i := 450) (by decide +kernel)⟩
theorem lw_p18 : lw_okq (⟨"LayeredImages$Build", "begin", "(LLayeredImages$Recipe;LLayeredImages$Layer;)V"⟩, 3) := ⟨⟨by decide +kernel, by decide +kernel⟩, List.mem_of_getElem? (i := 46) (by decide +kernel), List.mem_of_getElem? (i := 456) (by decide +kernel), List.mem_of_getElem? (i := 457) (by decide +kernel)⟩
theorem lw_p19 : lw_okq (⟨"LayeredImages$Recipe", "becomeLike", "(LLayeredImages$Recipe;)V"⟩, 3) := ⟨⟨by decide +kernel, by decide +kernel⟩, List.mem_of_getElem? (i := 52) (by decide +kernel), List.mem_of_getElem? (i := 460) (by decide +kernel), List.mem_of_getElem? (i := 461) (by decide +kernel)⟩
theorem lw_p20 : lw_okq (⟨"LayeredImages$Recipe", "at", "(I)LLayeredImages$Instruction;"⟩, 3) := ⟨⟨by decide +kernel, by decide +kernel⟩, List.mem_of_getElem? (i := 52) (by decide +kernel), List.mem_of_getElem? (i := 465) (by decide +kernel), List.mem_of_getElem? (i := 466) (by decide +kernel)⟩
theorem lw_p21 : lw_okq (⟨"LayeredImages$Build", "upcoming", "()LLayeredImages$Instruction;"⟩, 3) := ⟨⟨by decide +kernel, by decide +kernel⟩, List.mem_of_getElem? (i := 46) (by decide +kernel), List.mem_of_getElem? (i := 477) (by decide +kernel), List.mem_of_getElem? (i := 478) (by decide +kernel)⟩
theorem lw_p22 : lw_okq (⟨"LayeredImages$Instruction", "inputFrom", "([I)I"⟩, 3) := ⟨⟨by decide +kernel, by decide +kernel⟩, List.mem_of_getElem? (i := 302) (by decide +kernel), List.mem_of_getElem? (i := 483) (by decide +kernel), List.mem_of_getElem? (i := 484) (by decide +kernel)⟩
theorem lw_p23 : lw_okq (⟨"LayeredImages$Instruction", "failsOn", "(LLayeredImages$Layer;I)Z"⟩, 3) := ⟨⟨by decide +kernel, by decide +kernel⟩, List.mem_of_getElem? (i := 302) (by decide +kernel), List.mem_of_getElem? (i := 488) (by decide +kernel), List.mem_of_getElem? (i := 489) (by decide +kernel)⟩
theorem lw_p24 : lw_okq (⟨"LayeredImages$Layer", "shows", "(I)I"⟩, 8) := ⟨⟨by decide +kernel, by decide +kernel⟩, List.mem_of_getElem? (i := 408) (by decide +kernel), List.mem_of_getElem? (i := 492) (by decide +kernel), List.mem_of_getElem? (i := 493) (by decide +kernel)⟩
theorem lw_p25 : lw_okq (⟨"LayeredImages$Build", "fail", "()V"⟩, 3) := ⟨⟨by decide +kernel, by decide +kernel⟩, List.mem_of_getElem? (i := 46) (by decide +kernel), List.mem_of_getElem? (i := 497) (by decide +kernel), List.mem_of_getElem? (i := 498) (by decide +kernel)⟩
theorem lw_p26 : lw_okq (⟨"LayeredImages", "layerOfStep", "(LLayeredImages$Layer;LLayeredImages$Instruction;I)LLayeredImages$Layer;"⟩, 8) := ⟨⟨by decide +kernel, by decide +kernel⟩, List.mem_of_getElem? (i := 16) (by decide +kernel), List.mem_of_getElem? (i := 501) (by decide +kernel), List.mem_of_getElem? (i := 502) (by decide +kernel)⟩
theorem lw_p27 : lw_okq (⟨"LayeredImages$Store", "findMade", "(LLayeredImages$Layer;LLayeredImages$Instruction;I)LLayeredImages$Layer;"⟩, 2) := ⟨⟨by decide +kernel, by decide +kernel⟩, List.mem_of_getElem? (i := 30) (by decide +kernel), List.mem_of_getElem? (i := 505) (by decide +kernel), List.mem_of_getElem? (i := 506) (by decide +kernel)⟩
theorem lw_p28 : lw_okq (⟨"LayeredImages$Layer", "wasMadeBy", "(LLayeredImages$Instruction;I)Z"⟩, 8) := ⟨⟨by decide +kernel, by decide +kernel⟩, List.mem_of_getElem? (i := 408) (by decide +kernel), List.mem_of_getElem? (i := 509) (by decide +kernel), List.mem_of_getElem? (i := 510) (by decide +kernel)⟩
theorem lw_p29 : lw_okq (⟨"LayeredImages$Instruction", "isSameAs", "(LLayeredImages$Instruction;)Z"⟩, 3) := ⟨⟨by decide +kernel, by decide +kernel⟩, List.mem_of_getElem? (i := 302) (by decide +kernel), List.mem_of_getElem? (i := 513) (by decide +kernel), List.mem_of_getElem? (i := 514) (by decide +kernel)⟩
theorem lw_p30 : lw_okq (⟨"LayeredImages$Store", "newChild", "(LLayeredImages$Layer;)LLayeredImages$Layer;"⟩, 2) := ⟨⟨by decide +kernel, by decide +kernel⟩, List.mem_of_getElem? (i := 30) (by decide +kernel), List.mem_of_getElem? (i := 517) (by decide +kernel), List.mem_of_getElem? (i := 518) (by decide +kernel)⟩
theorem lw_p31 : lw_okq (⟨"LayeredImages$Layer", "becomeMadeBy", "(LLayeredImages$Instruction;I)V"⟩, 8) := ⟨⟨by decide +kernel, by decide +kernel⟩, List.mem_of_getElem? (i := 408) (by decide +kernel), List.mem_of_getElem? (i := 524) (by decide +kernel), List.mem_of_getElem? (i := 525) (by decide +kernel)⟩
def lw_privs_2 : List (MethodName × Nat) := [(⟨"LayeredImages$Store", "newRoot", "([I)LLayeredImages$Layer;"⟩, 2), (⟨"LayeredImages$Store", "kept", "(LLayeredImages$Layer;)LLayeredImages$Layer;"⟩, 2), (⟨"LayeredImages$Build", "begin", "(LLayeredImages$Recipe;LLayeredImages$Layer;)V"⟩, 3), (⟨"LayeredImages$Recipe", "becomeLike", "(LLayeredImages$Recipe;)V"⟩, 3), (⟨"LayeredImages$Recipe", "at", "(I)LLayeredImages$Instruction;"⟩, 3), (⟨"LayeredImages$Build", "upcoming", "()LLayeredImages$Instruction;"⟩, 3), (⟨"LayeredImages$Instruction", "inputFrom", "([I)I"⟩, 3), (⟨"LayeredImages$Instruction", "failsOn", "(LLayeredImages$Layer;I)Z"⟩, 3), (⟨"LayeredImages$Layer", "shows", "(I)I"⟩, 8), (⟨"LayeredImages$Build", "fail", "()V"⟩, 3), (⟨"LayeredImages", "layerOfStep", "(LLayeredImages$Layer;LLayeredImages$Instruction;I)LLayeredImages$Layer;"⟩, 8), (⟨"LayeredImages$Store", "findMade", "(LLayeredImages$Layer;LLayeredImages$Instruction;I)LLayeredImages$Layer;"⟩, 2), (⟨"LayeredImages$Layer", "wasMadeBy", "(LLayeredImages$Instruction;I)Z"⟩, 8), (⟨"LayeredImages$Instruction", "isSameAs", "(LLayeredImages$Instruction;)Z"⟩, 3), (⟨"LayeredImages$Store", "newChild", "(LLayeredImages$Layer;)LLayeredImages$Layer;"⟩, 2), (⟨"LayeredImages$Layer", "becomeMadeBy", "(LLayeredImages$Instruction;I)V"⟩, 8)]
theorem lw_r2 : ∀ q ∈ lw_privs_2, lw_okq q := List.forall_mem_cons.mpr ⟨lw_p16, List.forall_mem_cons.mpr ⟨lw_p17, List.forall_mem_cons.mpr ⟨lw_p18, List.forall_mem_cons.mpr ⟨lw_p19, List.forall_mem_cons.mpr ⟨lw_p20, List.forall_mem_cons.mpr ⟨lw_p21, List.forall_mem_cons.mpr ⟨lw_p22, List.forall_mem_cons.mpr ⟨lw_p23, List.forall_mem_cons.mpr ⟨lw_p24, List.forall_mem_cons.mpr ⟨lw_p25, List.forall_mem_cons.mpr ⟨lw_p26, List.forall_mem_cons.mpr ⟨lw_p27, List.forall_mem_cons.mpr ⟨lw_p28, List.forall_mem_cons.mpr ⟨lw_p29, List.forall_mem_cons.mpr ⟨lw_p30, List.forall_mem_cons.mpr ⟨lw_p31, fun _ h => absurd h List.not_mem_nil⟩⟩⟩⟩⟩⟩⟩⟩⟩⟩⟩⟩⟩⟩⟩⟩
theorem lw_p32 : lw_okq (⟨"LayeredImages$Instruction", "carryOut", "(LLayeredImages$Layer;I)V"⟩, 3) := ⟨⟨by decide +kernel, by decide +kernel⟩, List.mem_of_getElem? (i := 302) (by decide +kernel), List.mem_of_getElem? (i := 528) (by decide +kernel), List.mem_of_getElem? (i := 529) (by decide +kernel)⟩
theorem lw_p33 : lw_okq (⟨"LayeredImages$Layer", "hold", "(II)V"⟩, 8) := ⟨⟨by decide +kernel, by decide +kernel⟩, List.mem_of_getElem? (i := 408) (by decide +kernel), List.mem_of_getElem? (i := 532) (by decide +kernel), List.mem_of_getElem? (i := 533) (by decide +kernel)⟩
theorem lw_p34 : lw_okq (⟨"LayeredImages$Layer", "value", "(I)I"⟩, 8) := ⟨⟨by decide +kernel, by decide +kernel⟩, List.mem_of_getElem? (i := 408) (by decide +kernel), List.mem_of_getElem? (i := 536) (by decide +kernel), List.mem_of_getElem? (i := 537) (by decide +kernel)⟩
theorem lw_p35 : lw_okq (⟨"LayeredImages$Layer", "assign", "(II)V"⟩, 8) := ⟨⟨by decide +kernel, by decide +kernel⟩, List.mem_of_getElem? (i := 408) (by decide +kernel), List.mem_of_getElem? (i := 543) (by decide +kernel), List.mem_of_getElem? (i := 544) (by decide +kernel)⟩
theorem lw_p36 : lw_okq (⟨"LayeredImages$Build", "advanceTo", "(LLayeredImages$Layer;)V"⟩, 3) := ⟨⟨by decide +kernel, by decide +kernel⟩, List.mem_of_getElem? (i := 46) (by decide +kernel), List.mem_of_getElem? (i := 547) (by decide +kernel), List.mem_of_getElem? (i := 548) (by decide +kernel)⟩
theorem lw_p37 : lw_okq (⟨"LayeredImages$Layer", "fingerprint", "()I"⟩, 8) := ⟨⟨by decide +kernel, by decide +kernel⟩, List.mem_of_getElem? (i := 408) (by decide +kernel), List.mem_of_getElem? (i := 571) (by decide +kernel), List.mem_of_getElem? (i := 572) (by decide +kernel)⟩
theorem lw_p38 : lw_okq (⟨"LayeredImages$Layer", "partAt", "(I)LLayeredImages$Layer;"⟩, 8) := ⟨⟨by decide +kernel, by decide +kernel⟩, List.mem_of_getElem? (i := 408) (by decide +kernel), List.mem_of_getElem? (i := 607) (by decide +kernel), List.mem_of_getElem? (i := 608) (by decide +kernel)⟩
theorem lw_p39 : lw_okq (⟨"LayeredImages$Layer", "showLike", "(LLayeredImages$Layer;)V"⟩, 8) := ⟨⟨by decide +kernel, by decide +kernel⟩, List.mem_of_getElem? (i := 408) (by decide +kernel), List.mem_of_getElem? (i := 611) (by decide +kernel), List.mem_of_getElem? (i := 612) (by decide +kernel)⟩
theorem lw_p40 : lw_okq (⟨"LayeredImages$Layer", "assignLike", "(LLayeredImages$Layer;)V"⟩, 8) := ⟨⟨by decide +kernel, by decide +kernel⟩, List.mem_of_getElem? (i := 408) (by decide +kernel), List.mem_of_getElem? (i := 616) (by decide +kernel), List.mem_of_getElem? (i := 617) (by decide +kernel)⟩
theorem lw_p41 : lw_okq (⟨"LayeredImages$Layer", "holdLike", "(LLayeredImages$Layer;)V"⟩, 8) := ⟨⟨by decide +kernel, by decide +kernel⟩, List.mem_of_getElem? (i := 408) (by decide +kernel), List.mem_of_getElem? (i := 627) (by decide +kernel), List.mem_of_getElem? (i := 628) (by decide +kernel)⟩
theorem lw_p42 : lw_okq (⟨"LayeredImages", "isInTaggedImage", "(LLayeredImages$Layer;)Z"⟩, 8) := ⟨⟨by decide +kernel, by decide +kernel⟩, List.mem_of_getElem? (i := 16) (by decide +kernel), List.mem_of_getElem? (i := 639) (by decide +kernel), List.mem_of_getElem? (i := 640) (by decide +kernel)⟩
theorem lw_p43 : lw_okq (⟨"LayeredImages$Store", "remove", "(I)V"⟩, 2) := ⟨⟨by decide +kernel, by decide +kernel⟩, List.mem_of_getElem? (i := 30) (by decide +kernel), List.mem_of_getElem? (i := 643) (by decide +kernel), List.mem_of_getElem? (i := 644) (by decide +kernel)⟩
theorem lw_p44 : lw_okq (⟨"LayeredImages$Build", "forget", "(LLayeredImages$Layer;)V"⟩, 3) := ⟨⟨by decide +kernel, by decide +kernel⟩, List.mem_of_getElem? (i := 46) (by decide +kernel), List.mem_of_getElem? (i := 647) (by decide +kernel), List.mem_of_getElem? (i := 648) (by decide +kernel)⟩
theorem lw_p45 : lw_okq (⟨"LayeredImages", "layerAt", "(I)LLayeredImages$Layer;"⟩, 8) := ⟨⟨by decide +kernel, by decide +kernel⟩, List.mem_of_getElem? (i := 16) (by decide +kernel), List.mem_of_getElem? (i := 658) (by decide +kernel), List.mem_of_getElem? (i := 659) (by decide +kernel)⟩
theorem lw_p46 : lw_okq (⟨"LayeredImages$Layer", "size", "()I"⟩, 8) := ⟨⟨by decide +kernel, by decide +kernel⟩, List.mem_of_getElem? (i := 408) (by decide +kernel), List.mem_of_getElem? (i := 670) (by decide +kernel), List.mem_of_getElem? (i := 671) (by decide +kernel)⟩
theorem lw_p47 : lw_okq (⟨"LayeredImages$Layer", "holds", "(I)I"⟩, 8) := ⟨⟨by decide +kernel, by decide +kernel⟩, List.mem_of_getElem? (i := 408) (by decide +kernel), List.mem_of_getElem? (i := 681) (by decide +kernel), List.mem_of_getElem? (i := 682) (by decide +kernel)⟩
def lw_privs_3 : List (MethodName × Nat) := [(⟨"LayeredImages$Instruction", "carryOut", "(LLayeredImages$Layer;I)V"⟩, 3), (⟨"LayeredImages$Layer", "hold", "(II)V"⟩, 8), (⟨"LayeredImages$Layer", "value", "(I)I"⟩, 8), (⟨"LayeredImages$Layer", "assign", "(II)V"⟩, 8), (⟨"LayeredImages$Build", "advanceTo", "(LLayeredImages$Layer;)V"⟩, 3), (⟨"LayeredImages$Layer", "fingerprint", "()I"⟩, 8), (⟨"LayeredImages$Layer", "partAt", "(I)LLayeredImages$Layer;"⟩, 8), (⟨"LayeredImages$Layer", "showLike", "(LLayeredImages$Layer;)V"⟩, 8), (⟨"LayeredImages$Layer", "assignLike", "(LLayeredImages$Layer;)V"⟩, 8), (⟨"LayeredImages$Layer", "holdLike", "(LLayeredImages$Layer;)V"⟩, 8), (⟨"LayeredImages", "isInTaggedImage", "(LLayeredImages$Layer;)Z"⟩, 8), (⟨"LayeredImages$Store", "remove", "(I)V"⟩, 2), (⟨"LayeredImages$Build", "forget", "(LLayeredImages$Layer;)V"⟩, 3), (⟨"LayeredImages", "layerAt", "(I)LLayeredImages$Layer;"⟩, 8), (⟨"LayeredImages$Layer", "size", "()I"⟩, 8), (⟨"LayeredImages$Layer", "holds", "(I)I"⟩, 8)]
theorem lw_r3 : ∀ q ∈ lw_privs_3, lw_okq q := List.forall_mem_cons.mpr ⟨lw_p32, List.forall_mem_cons.mpr ⟨lw_p33, List.forall_mem_cons.mpr ⟨lw_p34, List.forall_mem_cons.mpr ⟨lw_p35, List.forall_mem_cons.mpr ⟨lw_p36, List.forall_mem_cons.mpr ⟨lw_p37, List.forall_mem_cons.mpr ⟨lw_p38, List.forall_mem_cons.mpr ⟨lw_p39, List.forall_mem_cons.mpr ⟨lw_p40, List.forall_mem_cons.mpr ⟨lw_p41, List.forall_mem_cons.mpr ⟨lw_p42, List.forall_mem_cons.mpr ⟨lw_p43, List.forall_mem_cons.mpr ⟨lw_p44, List.forall_mem_cons.mpr ⟨lw_p45, List.forall_mem_cons.mpr ⟨lw_p46, List.forall_mem_cons.mpr ⟨lw_p47, fun _ h => absurd h List.not_mem_nil⟩⟩⟩⟩⟩⟩⟩⟩⟩⟩⟩⟩⟩⟩⟩⟩
theorem lw_p48 : lw_okq (⟨"LayeredImagesModel", "fails", "(I)Z"⟩, 32) := ⟨⟨by decide +kernel, by decide +kernel⟩, List.mem_of_getElem? (i := 722) (by decide +kernel), List.mem_of_getElem? (i := 840) (by decide +kernel), List.mem_of_getElem? (i := 841) (by decide +kernel)⟩
theorem lw_p49 : lw_okq (⟨"LayeredImagesModel", "adds", "(IIIIII)I"⟩, 32) := ⟨⟨by decide +kernel, by decide +kernel⟩, List.mem_of_getElem? (i := 722) (by decide +kernel), List.mem_of_getElem? (i := 856) (by decide +kernel), List.mem_of_getElem? (i := 857) (by decide +kernel)⟩
theorem lw_p50 : lw_okq (⟨"LayeredImagesModel", "begins", "(I)V"⟩, 32) := ⟨⟨by decide +kernel, by decide +kernel⟩, List.mem_of_getElem? (i := 722) (by decide +kernel), List.mem_of_getElem? (i := 888) (by decide +kernel), List.mem_of_getElem? (i := 889) (by decide +kernel)⟩
theorem lw_p51 : lw_okq (⟨"LayeredImagesModel", "root", "(I)I"⟩, 32) := ⟨⟨by decide +kernel, by decide +kernel⟩, List.mem_of_getElem? (i := 722) (by decide +kernel), List.mem_of_getElem? (i := 892) (by decide +kernel), List.mem_of_getElem? (i := 893) (by decide +kernel)⟩
theorem lw_p52 : lw_okq (⟨"LayeredImagesModel", "makes", "(I)I"⟩, 32) := ⟨⟨by decide +kernel, by decide +kernel⟩, List.mem_of_getElem? (i := 722) (by decide +kernel), List.mem_of_getElem? (i := 896) (by decide +kernel), List.mem_of_getElem? (i := 897) (by decide +kernel)⟩
theorem lw_p53 : lw_okq (⟨"LayeredImagesModel", "goes", "()I"⟩, 32) := ⟨⟨by decide +kernel, by decide +kernel⟩, List.mem_of_getElem? (i := 722) (by decide +kernel), List.mem_of_getElem? (i := 904) (by decide +kernel), List.mem_of_getElem? (i := 905) (by decide +kernel)⟩
theorem lw_p54 : lw_okq (⟨"LayeredImagesModel", "canStep", "(II)Z"⟩, 32) := ⟨⟨by decide +kernel, by decide +kernel⟩, List.mem_of_getElem? (i := 722) (by decide +kernel), List.mem_of_getElem? (i := 908) (by decide +kernel), List.mem_of_getElem? (i := 909) (by decide +kernel)⟩
theorem lw_p55 : lw_okq (⟨"LayeredImagesModel", "shows", "(II)I"⟩, 32) := ⟨⟨by decide +kernel, by decide +kernel⟩, List.mem_of_getElem? (i := 722) (by decide +kernel), List.mem_of_getElem? (i := 912) (by decide +kernel), List.mem_of_getElem? (i := 913) (by decide +kernel)⟩
theorem lw_p56 : lw_okq (⟨"LayeredImagesModel", "cached", "(IIII)I"⟩, 32) := ⟨⟨by decide +kernel, by decide +kernel⟩, List.mem_of_getElem? (i := 722) (by decide +kernel), List.mem_of_getElem? (i := 916) (by decide +kernel), List.mem_of_getElem? (i := 917) (by decide +kernel)⟩
theorem lw_p57 : lw_okq (⟨"LayeredImagesModel", "layerFor", "(IIII)I"⟩, 32) := ⟨⟨by decide +kernel, by decide +kernel⟩, List.mem_of_getElem? (i := 722) (by decide +kernel), List.mem_of_getElem? (i := 920) (by decide +kernel), List.mem_of_getElem? (i := 921) (by decide +kernel)⟩
theorem lw_p58 : lw_okq (⟨"LayeredImagesModel", "tells", "(I)I"⟩, 32) := ⟨⟨by decide +kernel, by decide +kernel⟩, List.mem_of_getElem? (i := 722) (by decide +kernel), List.mem_of_getElem? (i := 932) (by decide +kernel), List.mem_of_getElem? (i := 933) (by decide +kernel)⟩
theorem lw_p59 : lw_okq (⟨"LayeredImagesModel", "result", "()I"⟩, 32) := ⟨⟨by decide +kernel, by decide +kernel⟩, List.mem_of_getElem? (i := 722) (by decide +kernel), List.mem_of_getElem? (i := 940) (by decide +kernel), List.mem_of_getElem? (i := 941) (by decide +kernel)⟩
theorem lw_p60 : lw_okq (⟨"LayeredImagesModel", "cleans", "(III)Z"⟩, 32) := ⟨⟨by decide +kernel, by decide +kernel⟩, List.mem_of_getElem? (i := 722) (by decide +kernel), List.mem_of_getElem? (i := 956) (by decide +kernel), List.mem_of_getElem? (i := 957) (by decide +kernel)⟩
theorem lw_p61 : lw_okq (⟨"LayeredImagesModel", "deep", "(I)I"⟩, 32) := ⟨⟨by decide +kernel, by decide +kernel⟩, List.mem_of_getElem? (i := 722) (by decide +kernel), List.mem_of_getElem? (i := 977) (by decide +kernel), List.mem_of_getElem? (i := 978) (by decide +kernel)⟩
theorem lw_p62 : lw_okq (⟨"LayeredImagesModel", "is", "(I)Z"⟩, 32) := ⟨⟨by decide +kernel, by decide +kernel⟩, List.mem_of_getElem? (i := 722) (by decide +kernel), List.mem_of_getElem? (i := 997) (by decide +kernel), List.mem_of_getElem? (i := 998) (by decide +kernel)⟩
theorem lw_p63 : lw_okq (⟨"LayeredImagesModel", "size", "(I)I"⟩, 32) := ⟨⟨by decide +kernel, by decide +kernel⟩, List.mem_of_getElem? (i := 722) (by decide +kernel), List.mem_of_getElem? (i := 1005) (by decide +kernel), List.mem_of_getElem? (i := 1006) (by decide +kernel)⟩
def lw_privs_4 : List (MethodName × Nat) := [(⟨"LayeredImagesModel", "fails", "(I)Z"⟩, 32), (⟨"LayeredImagesModel", "adds", "(IIIIII)I"⟩, 32), (⟨"LayeredImagesModel", "begins", "(I)V"⟩, 32), (⟨"LayeredImagesModel", "root", "(I)I"⟩, 32), (⟨"LayeredImagesModel", "makes", "(I)I"⟩, 32), (⟨"LayeredImagesModel", "goes", "()I"⟩, 32), (⟨"LayeredImagesModel", "canStep", "(II)Z"⟩, 32), (⟨"LayeredImagesModel", "shows", "(II)I"⟩, 32), (⟨"LayeredImagesModel", "cached", "(IIII)I"⟩, 32), (⟨"LayeredImagesModel", "layerFor", "(IIII)I"⟩, 32), (⟨"LayeredImagesModel", "tells", "(I)I"⟩, 32), (⟨"LayeredImagesModel", "result", "()I"⟩, 32), (⟨"LayeredImagesModel", "cleans", "(III)Z"⟩, 32), (⟨"LayeredImagesModel", "deep", "(I)I"⟩, 32), (⟨"LayeredImagesModel", "is", "(I)Z"⟩, 32), (⟨"LayeredImagesModel", "size", "(I)I"⟩, 32)]
theorem lw_r4 : ∀ q ∈ lw_privs_4, lw_okq q := List.forall_mem_cons.mpr ⟨lw_p48, List.forall_mem_cons.mpr ⟨lw_p49, List.forall_mem_cons.mpr ⟨lw_p50, List.forall_mem_cons.mpr ⟨lw_p51, List.forall_mem_cons.mpr ⟨lw_p52, List.forall_mem_cons.mpr ⟨lw_p53, List.forall_mem_cons.mpr ⟨lw_p54, List.forall_mem_cons.mpr ⟨lw_p55, List.forall_mem_cons.mpr ⟨lw_p56, List.forall_mem_cons.mpr ⟨lw_p57, List.forall_mem_cons.mpr ⟨lw_p58, List.forall_mem_cons.mpr ⟨lw_p59, List.forall_mem_cons.mpr ⟨lw_p60, List.forall_mem_cons.mpr ⟨lw_p61, List.forall_mem_cons.mpr ⟨lw_p62, List.forall_mem_cons.mpr ⟨lw_p63, fun _ h => absurd h List.not_mem_nil⟩⟩⟩⟩⟩⟩⟩⟩⟩⟩⟩⟩⟩⟩⟩⟩
def lw_privs : List (MethodName × Nat) := lw_privs_1 ++ (lw_privs_2 ++ (lw_privs_3 ++ (lw_privs_4)))
def lw_tbl : List Cond := k2_sels lw_privs ++ tables_1
theorem lw_privs_ok : ∀ q ∈ lw_privs, lw_okq q := by
  show ∀ q ∈ lw_privs_1 ++ (lw_privs_2 ++ (lw_privs_3 ++ (lw_privs_4))), lw_okq q
  exact List.forall_mem_append.mpr ⟨lw_r1, List.forall_mem_append.mpr ⟨lw_r2, List.forall_mem_append.mpr ⟨lw_r3, lw_r4⟩⟩⟩
-- ===== end of PART A; then your names; then what follows =====
end
section
/-! ===== BEGIN words of one list among another's, by their places ===== -/
theorem goodIn_r {big : List Cond} (ws : List Cond) (ps : List Nat) (hp : ws = ps.filterMap (fun i => big[i]?)) (h : ws.all goodWord = true) : GoodIn big ws := by
  intro w hw
  have h1 := List.all_eq_true.mp h w hw
  rw [hp] at hw
  obtain ⟨i, -, hi⟩ := List.mem_filterMap.mp hw
  have hm : w ∈ big := by first | exact List.mem_of_getElem? hi | exact List.getElem?_mem hi
  exact ⟨hm, good_of_word h1⟩
theorem goodIn_app {big a b : List Cond} (ha : GoodIn big a) (hb : GoodIn big b) : GoodIn big (a ++ b) := fun w h => (List.mem_append.mp h).elim (ha w) (hb w)
theorem goodIn_ca {big a b : List Cond} {c : Cond} (ha : GoodIn big (c :: a)) (hb : GoodIn big b) : GoodIn big (c :: (a ++ b)) := fun w h => (List.mem_cons.mp h).elim (fun e => ha w (List.mem_cons.mpr (Or.inl e))) (fun h => (List.mem_append.mp h).elim (fun h => ha w (List.mem_cons.mpr (Or.inr h))) (hb w))
theorem goodIn_sub {big ws : List Cond} (hm : ∀ w ∈ ws, w ∈ big) (h : ws.all goodWord = true) : GoodIn big ws := fun w hw => ⟨hm w hw, good_of_word (List.all_eq_true.mp h w hw)⟩
/-! ===== END ===== -/

/-! ===== BEGIN exceptions that leave a method, and their catching by the caller (launches without stack traces) ===== -/
section VXA
/-! The laws vx_back, vx_callV, vx_callS, vx_callSW, vx_throw0, vx_throwS follow proofs of the library, with one case more: JvmDerived/Free/Laws.lean (Back.of_free), Shelf42/LK1.lean (callV, callS), Shelf/KitTraced.lean (throwNew0V, throwNewS). -/
/-- where a method has thrown q: the class by its name, the cell, what was written, the world -/
def vx_T (XC : String → State → State → Prop) (st : State) (q : Addr) (t : State) (mc ms : Nat) (free : Addr → Prop) : Prop :=
  ∃ (E : String) (ce : Cell) (L : List Loc), XC E st t ∧ t.heap[q]? = some ce ∧ ce.vm = .none ∧ st.vm.findClass E = some ce.cls ∧ st.WarmedH t.vm ∧ st.sameButNew ({ t with vm := st.vm } : State) L mc ms ∧ ∀ z ∈ L, free z.base
def vx_Q (Qc : Array Value → State → Outcome → State → Prop) (XC : String → State → State → Prop) (mc ms : Nat) (free : Addr → Prop) : Array Value → State → Outcome → State → Prop := fun a st o t =>
  (Qc a st o t ∧ ∃ L, FrameEnd st o t L mc ms ∧ ∀ q ∈ L, free q.base) ∨ ∃ q, o = .threw q ∧ vx_T XC st q t mc ms free
/-- a callee that returns or throws -/
def vx_Met (l : Launch) (y : MethodName) (ws : List Cond) (rm : Room) (Pc : Array Value → State → Prop) (Qc : Array Value → State → Outcome → State → Prop) (XC : String → State → State → Prop) (mc ms : Nat) (free : Addr → Prop) : Prop :=
  MetFree l y (headSpec ws rm) Pc (fun _ _ _ _ _ => True) (vx_Q Qc XC mc ms free)
def vx_Post (XC : String → State → State → Prop) (mc ms : Nat) (free : Addr → Prop) : Pt → Array Value → Addr → Pt → Prop := fun A a q B =>
  ∃ (g : JFrame) (mk : MethodId) (t : State) (L : List Loc) (E : String) (ce : Cell), B.U.heap = t.heap ∧ B.U.vm = t.vm ∧ XC E (A.U.calling g mk a) t ∧ t.heap[q]? = some ce ∧ ce.vm = .none ∧ A.U.vm.findClass E = some ce.cls ∧ B.locs = A.locs ++ L ∧ (∀ z ∈ L, free z.base) ∧ B.cells = A.cells + mc ∧ B.slots = A.slots + ms
def vx_Back (l : Launch) (R : Room) (p : Program) (e : Env) (below : List Frame) (s : State) (sargs : Array Value) (y : MethodName) (len W9 : Nat)
    (Pre : Pt → Array Value → Prop) (Post : Pt → Array Value → Option Value → Pt → Prop) (PostX : Pt → Array Value → Addr → Pt → Prop) : Prop :=
  ∀ (m : MethodId) (meth : Method) (c : Code) (A : Pt) (g : JFrame) (ig : Instr) (mk : MethodId) (a : Array Value),
    Stand p l e R s m sargs below meth c A.U A.locs A.cells A.slots → g.method = m → g.locals.size = c.maxLocals → decode c.code g.pc = .ok (ig, len) →
    2 * g.monitorRoom + (g.stack.map fun v => v.category).sum ≤ W9 → A.U.methodNamed? y = some mk → Pre A a →
    (∃ (v : Option Value) (B : Pt), Stand p l e R s m sargs below meth c B.U B.locs B.cells B.slots ∧ Post A a v B ∧
      Steps p.tables e below (doInvoke e (A.U.setTop g) [] mk a).1 (B.U.setTop { g with pc := g.pc + len, stack := v.toList ++ g.stack })) ∨
    (∃ (q : Addr) (B : Pt), Stand p l e R s m sargs below meth c B.U B.locs B.cells B.slots ∧ PostX A a q B ∧
      Steps p.tables e below (doInvoke e (A.U.setTop g) [] mk a).1 ((B.U.setTop g).pushFrame (.throwing q)))
section Payer
variable {l : Launch} {R : Room} {p : Program} {e : Env} {below : List Frame} {s : State} {sargs : Array Value} {y : MethodName} {len W9 : Nat}
theorem vx_back {ws : List Cond} {rm : Room} {Pc : Array Value → State → Prop} {Qc : Array Value → State → Outcome → State → Prop} {XC : String → State → State → Prop} {mc ms : Nat} {free : Addr → Prop} {bytes : ByteArray} {maxL : Nat} {ret : Option FieldType}
    (hM : vx_Met l y ws rm Pc Qc XC mc ms free) (hblind : FrameBlind Pc) (hrc : rm.cells = mc) (hrs : rm.slots = ms)
    (hframes : rm.frames + 1 ≤ R.frames) (hlocals : W9 + (maxL + 11) + rm.locals ≤ R.locals)
    (hws : ∀ w ∈ ws, ∀ a' U, s.WarmedH U.vm → w.before a' U = true) (hcode : Cond.code y bytes maxL ret ∈ ws) (hinit : ∀ a' U, s.WarmedH U.vm → (Cond.initialized y.cls).before a' U = true) :
    vx_Back l R p e below s sargs y len W9 (PreOf R mc ms Pc) (PostOf Qc mc ms free) (vx_Post XC mc ms free) := by
  intro m meth c A g ig mk a X hg hsize hdg hW hn hp
  have h1 : (headSpec ws rm).pre.before a A.U = true := atoms_intro fun w hw => hws w hw _ _ X.warmed
  have h2 : (Cond.code y bytes maxL ret).before a A.U = true := hws _ hcode _ _ X.warmed
  have h3 : (Cond.initialized y.cls).before a A.U = true := hinit _ _ X.warmed
  have h4 : A.cells + (headSpec ws rm).room.cells ≤ R.cells := by rw [show (headSpec ws rm).room.cells = mc from hrc]; exact hp.1
  have h5 : A.slots + (headSpec ws rm).room.slots ≤ R.slots := by rw [show (headSpec ws rm).room.slots = ms from hrs]; exact hp.2.1
  have hPc : Pc a (A.U.calling g mk a) := hblind _ _ _ _ hp.2.2
  obtain ⟨U, Ls, c0, s0⟩ := A
  dsimp only [Pt.U, Pt.locs, Pt.cells, Pt.slots] at h1 h2 h3 h4 h5 X hn hPc ⊢
  obtain ⟨methY, cY, hmY, hcY, -, hlY, -, -, -, -⟩ := Cond.code_spec hn h2
  obtain ⟨kY, hkY, -⟩ := className_of_methodNamed hn
  have hinitY : kY.init = .initialized := Cond.initialized_spec (findClass_of_methodNamed hn) hkY h3
  have h : At U g.method c below := by rw [hg]; exact X.here
  have hlocals9 : W9 + (maxL + 11) + (headSpec ws rm).room.locals ≤ R.locals := hlocals
  have happ : (headSpec ws rm).appliesLoose y e.platform (U.calling g mk a) = true :=
    Spec.appliesLoose_calling (g := g) h hdg hn hkY hinitY
      (X.room_calling (g := g) (R' := (headSpec ws rm).room) hsize hmY hcY hframes (by rw [hlY]; omega) h4 h5) h1
  obtain ⟨mid, hmid⟩ := h.above
  have hfr : (U.setTop g).frames = (.java g :: mid) ++ below := by rw [State.frames_setTop' g h.top, hmid]; rfl
  obtain ⟨o, s₂, hsteps, -, hend, hq⟩ := Steps.callFree hM p X.admits X.cas X.clock (acts := []) hfr happ hPc trivial
  have hq' : vx_Q Qc XC mc ms free a (U.calling g mk a) o s₂ := hq
  rw [State.frames_setTop' g h.top] at hend
  obtain ⟨g₀, hg0⟩ := Option.isSome_iff_exists.mp h.top
  obtain ⟨r, hr⟩ := State.topJava?_eq_some.mp hg0
  have hr' : (({ U with heap := s₂.heap, slotsUsed := s₂.slotsUsed } : State).setVm s₂.vm).frames = .java g₀ :: r := hr
  rcases hq' with ⟨hqc, L, hfe, hL⟩ | ⟨q, rfl, E, ce, L, hx, hce, hcv, hcl, hW₂, hsm, hL⟩
  · obtain ⟨⟨v, rfl⟩, hW₂, e2, q2, q3, q4, q5, q6⟩ := id hfe
    have e3 : s₂ = ({ (U.calling g mk a).setFrames s₂.frames with heap := s₂.heap, slotsUsed := s₂.slotsUsed } : State).setVm s₂.vm := by
      have : s₂ = ({ s₂ with vm := (U.calling g mk a).vm } : State).setVm s₂.vm := rfl
      rw [e2] at this
      exact this
    obtain ⟨c₂, i₂, len₂, hc₂, hd₂, hf₂⟩ := hend
    have hW' : U.WarmedH s₂.vm := hW₂
    have hcc : c₂ = c := by
      have h1 : s₂.code? g.method = U.code? g.method := by
        rw [State.code?_eq, State.code?_eq, hW'.alike.method?]
      exact Option.some.inj (hc₂.symm.trans (h1.trans h.code))
    subst hcc
    have hlen : len₂ = len := by rw [hdg] at hd₂; cases hd₂; rfl
    subst hlen
    have hs₂ : s₂ = (({ U with heap := s₂.heap, slotsUsed := s₂.slotsUsed } : State).setVm s₂.vm).setTop { g with pc := g.pc + len₂, stack := v.toList ++ g.stack } := by
      refine e3.trans ?_
      rw [hf₂, State.calling_eq h.top, State.setFrames_setFrames, State.setTop_of_frames _ hr', hr]
      rfl
    have hsame : U.sameButNew ({ U with heap := s₂.heap, slotsUsed := s₂.slotsUsed } : State) L mc ms := by
      refine ⟨?_, q2, q3, q4, q5, q6⟩
      obtain ⟨t, ht, -⟩ := State.frames_cons hr
      show ({ U with heap := s₂.heap, slotsUsed := s₂.slotsUsed } : State) = { U.setFrames U.frames with heap := s₂.heap, slotsUsed := s₂.slotsUsed }
      rw [State.setFrames_self ht]
    subst hg
    refine Or.inl ⟨v, ⟨(({ U with heap := s₂.heap, slotsUsed := s₂.slotsUsed } : State).setVm s₂.vm), Ls ++ L, c0 + mc, s0 + ms⟩,
      ⟨X.admits, X.cas, X.clock, X.frames, X.room, X.hears, X.method, X.code, (X.here.setHeapUsed s₂.heap s₂.slotsUsed).setVm hW'.alike, X.tail, State.WarmedH.trans X.warmed hW', X.limits, X.bytes, X.same.trans (hsame.setVm s.vm)⟩,
      ⟨g, mk, s₂, L, rfl, rfl, hqc, rfl, hL, rfl, rfl⟩, ?_⟩
    show Steps p.tables e below _ ((({ U with heap := s₂.heap, slotsUsed := s₂.slotsUsed } : State).setVm s₂.vm).setTop { g with pc := g.pc + len₂, stack := v.toList ++ g.stack })
    rw [← hs₂]
    exact hsteps
  · obtain ⟨e2, q2, q3, q4, q5, q6⟩ := id hsm
    have e3 : s₂ = ({ (U.calling g mk a).setFrames s₂.frames with heap := s₂.heap, slotsUsed := s₂.slotsUsed } : State).setVm s₂.vm := by
      have : s₂ = ({ s₂ with vm := (U.calling g mk a).vm } : State).setVm s₂.vm := rfl
      rw [e2] at this
      exact this
    have hf₂ : s₂.frames = .throwing q :: .java g :: U.frames.tail := hend
    have hW' : U.WarmedH s₂.vm := hW₂
    have hs₂ : s₂ = ((({ U with heap := s₂.heap, slotsUsed := s₂.slotsUsed } : State).setVm s₂.vm).setTop g).pushFrame (.throwing q) := by
      refine e3.trans ?_
      rw [hf₂, State.calling_eq h.top, State.setFrames_setFrames, State.pushFrame, State.frames_setTop _ hr', State.setTop_of_frames _ hr', State.setFrames_setFrames, hr]
      rfl
    have hsame : U.sameButNew ({ U with heap := s₂.heap, slotsUsed := s₂.slotsUsed } : State) L mc ms := by
      refine ⟨?_, q2, q3, q4, q5, q6⟩
      obtain ⟨t, ht, -⟩ := State.frames_cons hr
      show ({ U with heap := s₂.heap, slotsUsed := s₂.slotsUsed } : State) = { U.setFrames U.frames with heap := s₂.heap, slotsUsed := s₂.slotsUsed }
      rw [State.setFrames_self ht]
    subst hg
    refine Or.inr ⟨q, ⟨(({ U with heap := s₂.heap, slotsUsed := s₂.slotsUsed } : State).setVm s₂.vm), Ls ++ L, c0 + mc, s0 + ms⟩,
      ⟨X.admits, X.cas, X.clock, X.frames, X.room, X.hears, X.method, X.code, (X.here.setHeapUsed s₂.heap s₂.slotsUsed).setVm hW'.alike, X.tail, State.WarmedH.trans X.warmed hW', X.limits, X.bytes, X.same.trans (hsame.setVm s.vm)⟩,
      ⟨g, mk, s₂, L, E, ce, rfl, rfl, hx, hce, hcv, hcl, rfl, hL, rfl, rfl⟩, ?_⟩
    show Steps p.tables e below _ (((({ U with heap := s₂.heap, slotsUsed := s₂.slotsUsed } : State).setVm s₂.vm).setTop g).pushFrame (.throwing q))
    rw [← hs₂]
    exact hsteps
end Payer
section Calls
variable {p : Program} {l : Launch} {e : Env} {R : Room} {s : State} {m : MethodId} {args : Array Value} {below : List Frame} {meth : Method} {c : Code} {T : State} {locs : List Loc} {cells slots : Nat}
theorem vx_callV (X : Stand p l e R s m args below meth c T locs cells slots) (hexec : p.tables.exec = Jvm.exec) {own C : String} {index : Nat} {y : MethodName} {bytes : ByteArray} {maxL : Nat} {ret : Option FieldType}
    (hown : s.vm.findClass own = some m.cls) (hlink : (Cond.methodLink own index y).before args s = true) (hinst : (Cond.instanceMethod y).before args s = true) (hsel : (Cond.selects C y y).before args s = true)
    (hcode : (Cond.code y bytes maxL ret).before args s = true) (hy : y.cls ≠ "java/lang/invoke/MethodHandle" ∧ y.cls ≠ "java/lang/invoke/VarHandle")
    {W9 : Nat} {Pre : Pt → Array Value → Prop} {Post : Pt → Array Value → Option Value → Pt → Prop} {PostX : Pt → Array Value → Addr → Pt → Prop} (hK : vx_Back l R p e below s args y 3 W9 Pre Post PostX)
    {b : Addr} {cellB : Cell} (hcell : T.heap[b]? = some cellB) (hobj : cellB.vm.isStatics = false) (hcls : s.vm.findClass C = some cellB.cls)
    {g : JFrame} (hg : g.method = m) (hsize : g.locals.size = c.maxLocals) {argsL rest : List Value} (hlen : ∀ sig, parseMethodDescriptor y.desc = some sig → argsL.length = sig.parameters.length)
    (hstack : g.stack = argsL.reverse ++ .ref b :: rest) (hW : 2 * g.monitorRoom + (rest.map fun v => v.category).sum ≤ W9) (hdg : decode c.code g.pc = .ok (.invokevirtual index, 3))
    (hpre : ∀ vm₁, s.WarmedH vm₁ → Pre ⟨T.setVm vm₁, locs, cells, slots⟩ (Value.ref b :: argsL).toArray) :
    (∃ (v : Option Value) (vm₁ : Vm) (B : Pt), s.WarmedH vm₁ ∧ Stand p l e R s m args below meth c B.U B.locs B.cells B.slots ∧ Post ⟨T.setVm vm₁, locs, cells, slots⟩ (Value.ref b :: argsL).toArray v B ∧
      ∀ target, Steps p.tables e below (B.U.setTop { g with pc := g.pc + 3, stack := v.toList ++ rest }) target → Steps p.tables e below (T.setTop g) target) ∨
    (∃ (q : Addr) (vm₁ : Vm) (B : Pt), s.WarmedH vm₁ ∧ Stand p l e R s m args below meth c B.U B.locs B.cells B.slots ∧ PostX ⟨T.setVm vm₁, locs, cells, slots⟩ (Value.ref b :: argsL).toArray q B ∧
      Steps p.tables e below (T.setTop g) ((B.U.setTop { g with stack := rest }).pushFrame (.throwing q))) := by
  obtain ⟨mk, methM, hnamed, hmethM, hstM, habM⟩ := Cond.instanceMethod_spec hinst
  obtain ⟨methM', cM, hmethM', -, -, -, -, -, -, hsigM⟩ := Cond.code_spec hnamed hcode
  cases hmethM.symm.trans hmethM'
  obtain ⟨c2, r2, m2, q1, q2, q3, q4, kP, hkP, hkPi⟩ := Cond.selects_spec hsel
  cases hcls.symm.trans q1
  cases (State.methodFound?_of_named hnamed hy).symm.trans q2
  cases hnamed.symm.trans q3
  have hselP : selectMethod e.platform s.vm cellB.cls mk = .method mk := by rw [Launch.admits_selectMethod X.admits]; exact q4
  obtain ⟨vm₁, X₁, hstep₁⟩ := X.invokevirtual hexec hown hlink hnamed hmethM hstM hkP hkPi hy (a := b) (cell := cellB) hcell
    (fun z h => by rw [h] at hobj; cases hobj) hselP hmethM habM hkP hkPi (g := g) hg (argsL := argsL) (rest := rest) (hlen _ hsigM) hstack hdg
  rcases hK m meth c ⟨T.setVm vm₁, locs, cells, slots⟩ { g with stack := rest } (.invokevirtual index) mk (Value.ref b :: argsL).toArray X₁ hg hsize hdg hW (X₁.named hnamed) (hpre vm₁ X₁.warmed) with ⟨v, B, X', hpost, hsteps⟩ | ⟨q, B, X', hpost, hsteps⟩
  · exact Or.inl ⟨v, vm₁, B, X₁.warmed, X', hpost, fun target h => hstep₁ _ fun acts => by rw [doInvoke_state]; exact hsteps.trans h⟩
  · exact Or.inr ⟨q, vm₁, B, X₁.warmed, X', hpost, hstep₁ _ fun acts => by rw [doInvoke_state]; exact hsteps⟩
theorem vx_callS (X : Stand p l e R s m args below meth c T locs cells slots) (hexec : p.tables.exec = Jvm.exec) {own : String} {index : Nat} {y : MethodName} {bytes : ByteArray} {maxL : Nat} {ret : Option FieldType}
    (hown : s.vm.findClass own = some m.cls) (hlink : (Cond.methodLink own index y).before args s = true) (hstat : (Cond.static y).before args s = true) (hinit : (Cond.initialized y.cls).before args s = true)
    (hcode : (Cond.code y bytes maxL ret).before args s = true) (hy : y.cls ≠ "java/lang/invoke/MethodHandle" ∧ y.cls ≠ "java/lang/invoke/VarHandle")
    {W9 : Nat} {Pre : Pt → Array Value → Prop} {Post : Pt → Array Value → Option Value → Pt → Prop} {PostX : Pt → Array Value → Addr → Pt → Prop} (hK : vx_Back l R p e below s args y 3 W9 Pre Post PostX)
    {g : JFrame} (hg : g.method = m) (hsize : g.locals.size = c.maxLocals) {argsL rest : List Value} (hlen : ∀ sig, parseMethodDescriptor y.desc = some sig → argsL.length = sig.parameters.length)
    (hstack : g.stack = argsL.reverse ++ rest) (hW : 2 * g.monitorRoom + (rest.map fun v => v.category).sum ≤ W9) (hdg : decode c.code g.pc = .ok (.invokestatic index, 3))
    (hpre : ∀ vm₁, s.WarmedH vm₁ → Pre ⟨T.setVm vm₁, locs, cells, slots⟩ argsL.toArray) :
    (∃ (v : Option Value) (vm₁ : Vm) (B : Pt), s.WarmedH vm₁ ∧ Stand p l e R s m args below meth c B.U B.locs B.cells B.slots ∧ Post ⟨T.setVm vm₁, locs, cells, slots⟩ argsL.toArray v B ∧
      ∀ target, Steps p.tables e below (B.U.setTop { g with pc := g.pc + 3, stack := v.toList ++ rest }) target → Steps p.tables e below (T.setTop g) target) ∨
    (∃ (q : Addr) (vm₁ : Vm) (B : Pt), s.WarmedH vm₁ ∧ Stand p l e R s m args below meth c B.U B.locs B.cells B.slots ∧ PostX ⟨T.setVm vm₁, locs, cells, slots⟩ argsL.toArray q B ∧
      Steps p.tables e below (T.setTop g) ((B.U.setTop { g with stack := rest }).pushFrame (.throwing q))) := by
  obtain ⟨mk, hnamed⟩ := Cond.code_named hcode
  obtain ⟨methM, cM, hmethM, -, -, -, -, -, -, hsigM⟩ := Cond.code_spec hnamed hcode
  have hstatic : methM.isStatic = true := Cond.static_spec hnamed hmethM hstat
  obtain ⟨kP, hkP, -⟩ := className_of_methodNamed hnamed
  have hinitP : kP.init = .initialized := Cond.initialized_spec (findClass_of_methodNamed hnamed) hkP hinit
  obtain ⟨vm₁, X₁, hstep₁⟩ := X.invokestatic hexec hown hlink hnamed hmethM hstatic hkP hinitP hy (g := g) hg (argsL := argsL) (rest := rest) (hlen _ hsigM) hstack hdg
  rcases hK m meth c ⟨T.setVm vm₁, locs, cells, slots⟩ { g with stack := rest } (.invokestatic index) mk argsL.toArray X₁ hg hsize hdg hW (X₁.named hnamed) (hpre vm₁ X₁.warmed) with ⟨v, B, X', hpost, hsteps⟩ | ⟨q, B, X', hpost, hsteps⟩
  · exact Or.inl ⟨v, vm₁, B, X₁.warmed, X', hpost, fun target h => hstep₁ _ fun acts => by rw [doInvoke_state]; exact hsteps.trans h⟩
  · exact Or.inr ⟨q, vm₁, B, X₁.warmed, X', hpost, hstep₁ _ fun acts => by rw [doInvoke_state]; exact hsteps⟩
end Calls
theorem vx_cls {s : State} {T : State} {vm₁ : Vm} {E : String} {k : ClassId} (hW : s.WarmedH vm₁) (h : (T.setVm vm₁).vm.findClass E = some k) : s.vm.findClass E = some k := by
  have h1 : vm₁.findClass E = some k := h
  rw [hW.alike.findClass] at h1
  exact h1
/-- the method's frame g, with q thrown over it -/
def vx_W (p : Program) (l : Launch) (e : Env) (R : Room) (s : State) (m : MethodId) (args : Array Value) (below : List Frame) (meth : Method) (c : Code) (H : Heap) (locs : List Loc) (cells slots : Nat) (Q : State → Prop) (g : JFrame) (q : Addr) : Prop :=
  ∀ T : State, T.heap = H → Stand p l e R s m args below meth c T locs cells slots → ∃ t, Steps p.tables e below ((T.setTop g).pushFrame (.throwing q)) t ∧ Q t
def vx_Run (p : Program) (l : Launch) (e : Env) (R : Room) (s : State) (m : MethodId) (args : Array Value) (below : List Frame) (meth : Method) (c : Code) (H : Heap) (locs : List Loc) (cells slots mc ms : Nat) (g : JFrame) (rest : List Value) (Qa : State → Outcome → State → Prop) (XC : String → State → State → Prop) (free : Addr → Prop) : Prop :=
  ∀ T : State, T.heap = H → Stand p l e R s m args below meth c T locs cells slots →
    (∃ (v : Option Value) (st₀ t T' : State) (L : List Loc), st₀.heap = H ∧ Stand p l e R s m args below meth c T' (locs ++ L) (cells + mc) (slots + ms) ∧ (∀ q ∈ L, free q.base) ∧ T'.heap = t.heap ∧ T'.vm = t.vm ∧ Qa st₀ (.returned v) t ∧
      Goes p e below T g T' { g with pc := g.pc + 3, stack := v.toList ++ rest }) ∨
    (∃ (q : Addr) (st₀ t T' : State) (L : List Loc) (E : String) (ce : Cell), st₀.heap = H ∧ Stand p l e R s m args below meth c T' (locs ++ L) (cells + mc) (slots + ms) ∧ (∀ z ∈ L, free z.base) ∧ T'.heap = t.heap ∧ T'.vm = t.vm ∧ XC E st₀ t ∧ t.heap[q]? = some ce ∧ ce.vm = .none ∧ s.vm.findClass E = some ce.cls ∧
      Steps p.tables e below (T.setTop g) ((T'.setTop { g with stack := rest }).pushFrame (.throwing q)))
def vx_X {S : Type} (px : S → Prop) (B : String → S → State → Prop) (A : Nat → Prop) : String → State → State → Prop := fun E st t => ∃ u : S, px u ∧ B E u t ∧ va_F A st t
section Runs
variable {p : Program} {l : Launch} {e : Env} {R : Room} {s : State} {m : MethodId} {args : Array Value} {below : List Frame} {meth : Method} {c : Code} {H : Heap} {locs : List Loc} {cells slots : Nat}
variable {y : MethodName} {bytes cc : ByteArray} {maxL nL mc ms n index : Nat} {ret : Option FieldType} {ws : List Cond} {rm : Room} {Pc : Array Value → State → Prop} {Qc : Array Value → State → Outcome → State → Prop} {XC : String → State → State → Prop} {free : Addr → Prop} {Ts : List Cond} {own C : String} {b : Addr} {As rest : List Value} {g : JFrame}
theorem vx_callBack (cb : CallB R s args own index y bytes maxL ret ws rm mc ms n) (hM : vx_Met l y ws rm Pc Qc XC mc ms free) (hbl : FrameBlind Pc) : vx_Back l R p e below s args y 3 8 (PreOf R mc ms Pc) (PostOf Qc mc ms free) (vx_Post XC mc ms free) := by
  obtain ⟨hrc, hrs, hfr, hlo, hws, hcw, -, hini, -⟩ := cb
  exact vx_back (bytes := bytes) (maxL := maxL) (ret := ret) hM hbl hrc hrs hfr hlo hws hcw (fun a' U hW => word_at hW (Or.inl (by first | rfl | simp [Cond.onTables, Cond.keeps, Cond.steady])) hini)
theorem vx_runV (S : CallFix p m c cc nL s args Ts own) (hM : vx_Met l y ws rm Pc Qc XC mc ms free) (cw : CallW R s args own C index y bytes maxL ret ws rm mc ms n) (hp : PreV s H C b Pc As)
    (hg : g.method = m) (hn : As.length = n) (hsize : g.locals.size = nL) (hstack : g.stack = As.reverse ++ .ref b :: rest) (hW : 2 * g.monitorRoom + (rest.map fun v => v.category).sum ≤ 8) (hdg : decode cc g.pc = .ok (.invokevirtual index, 3)) (hf : cells + mc ≤ R.cells ∧ slots + ms ≤ R.slots) :
    vx_Run p l e R s m args below meth c H locs cells slots mc ms g rest (Qc (Value.ref b :: As).toArray) XC free := by
  have hK : vx_Back l R p e below s args y 3 8 (PreOf R mc ms Pc) (PostOf Qc mc ms free) (vx_Post XC mc ms free) := vx_callBack cw.1 hM hp.1
  obtain ⟨⟨-, -, -, -, -, -, hcode, -, hy, hlen, hl⟩, hin, hse⟩ := cw
  obtain ⟨hx, hb, hml, ho, -⟩ := S
  obtain ⟨-, ⟨cellB, hcB, hoB, hclB⟩, hPc⟩ := hp
  intro T hT X
  rcases vx_callV X hx (C := C) (bytes := bytes) (maxL := maxL) (ret := ret) ho hl hin hse hcode hy hK (by rw [hT]; exact hcB) hoB hclB hg (hsize.trans hml.symm) (argsL := As) (rest := rest) (fun sig h => hn.trans (hlen sig h)) hstack hW (by rw [hb]; exact hdg)
    (fun vm₁ hW₁ => ⟨hf.1, hf.2, hPc (T.setVm vm₁) hT hW₁⟩) with ⟨v, vm₁, ⟨U', l2, c2, s2⟩, hW₁, X', ⟨g', mk, t, L, e1, e2, hq, h1, hL, h2, h3⟩, st⟩ | ⟨q, vm₁, ⟨U', l2, c2, s2⟩, hW₁, X', ⟨g', mk, t, L, E, ce, e1, e2, hq, hce, hcv, hcl, h1, hL, h2, h3⟩, st⟩
  · dsimp only [Pt.U, Pt.locs, Pt.cells, Pt.slots] at X' e1 e2 h1 h2 h3 st
    subst h1; subst h2; subst h3
    exact Or.inl ⟨v, (T.setVm vm₁).calling g' mk (Value.ref b :: As).toArray, t, U', L, hT, X', hL, e1, e2, hq, st⟩
  · dsimp only [Pt.U, Pt.locs, Pt.cells, Pt.slots] at X' e1 e2 h1 h2 h3 st hcl
    subst h1; subst h2; subst h3
    exact Or.inr ⟨q, (T.setVm vm₁).calling g' mk (Value.ref b :: As).toArray, t, U', L, E, ce, hT, X', hL, e1, e2, hq, hce, hcv, vx_cls hW₁ hcl, st⟩
theorem vx_runS (S : CallFix p m c cc nL s args Ts own) (hM : vx_Met l y ws rm Pc Qc XC mc ms free) (cw : CallB R s args own index y bytes maxL ret ws rm mc ms n ∧ (Cond.static y).before args s = true) (hp : PreS s H Pc As)
    (hg : g.method = m) (hn : As.length = n) (hsize : g.locals.size = nL) (hstack : g.stack = As.reverse ++ rest) (hW : 2 * g.monitorRoom + (rest.map fun v => v.category).sum ≤ 8) (hdg : decode cc g.pc = .ok (.invokestatic index, 3)) (hf : cells + mc ≤ R.cells ∧ slots + ms ≤ R.slots) :
    vx_Run p l e R s m args below meth c H locs cells slots mc ms g rest (Qc As.toArray) XC free := by
  have hK : vx_Back l R p e below s args y 3 8 (PreOf R mc ms Pc) (PostOf Qc mc ms free) (vx_Post XC mc ms free) := vx_callBack cw.1 hM hp.1
  obtain ⟨⟨-, -, -, -, -, -, hcode, hini, hy, hlen, hl⟩, hstt⟩ := cw
  obtain ⟨hx, hb, hml, ho, -⟩ := S
  intro T hT X
  rcases vx_callS X hx (bytes := bytes) (maxL := maxL) (ret := ret) ho hl hstt hini hcode hy hK hg (hsize.trans hml.symm) (argsL := As) (rest := rest) (fun sig h => hn.trans (hlen sig h)) hstack hW (by rw [hb]; exact hdg)
    (fun vm₁ hW₁ => ⟨hf.1, hf.2, hp.2 (T.setVm vm₁) hT hW₁⟩) with ⟨v, vm₁, ⟨U', l2, c2, s2⟩, hW₁, X', ⟨g', mk, t, L, e1, e2, hq, h1, hL, h2, h3⟩, st⟩ | ⟨q, vm₁, ⟨U', l2, c2, s2⟩, hW₁, X', ⟨g', mk, t, L, E, ce, e1, e2, hq, hce, hcv, hcl, h1, hL, h2, h3⟩, st⟩
  · dsimp only [Pt.U, Pt.locs, Pt.cells, Pt.slots] at X' e1 e2 h1 h2 h3 st
    subst h1; subst h2; subst h3
    exact Or.inl ⟨v, (T.setVm vm₁).calling g' mk As.toArray, t, U', L, hT, X', hL, e1, e2, hq, st⟩
  · dsimp only [Pt.U, Pt.locs, Pt.cells, Pt.slots] at X' e1 e2 h1 h2 h3 st hcl
    subst h1; subst h2; subst h3
    exact Or.inr ⟨q, (T.setVm vm₁).calling g' mk As.toArray, t, U', L, E, ce, hT, X', hL, e1, e2, hq, hce, hcv, vx_cls hW₁ hcl, st⟩
end Runs
section Rows
variable {p : Program} {l : Launch} {e : Env} {R : Room} {s : State} {m : MethodId} {args : Array Value} {below : List Frame} {meth : Method} {c : Code} {H : Heap} {locs : List Loc} {cells slots : Nat} {Q : State → Prop}
variable {mc ms : Nat} {free : Addr → Prop} {A0 A1 : Nat → Prop} {H0 : Heap} {a : Array Value} {pc : Nat} {ls : Array Slot} {st0 rest : List Value}
theorem vx_keep {st₀ t T' : State} {L : List Loc} (h0 : st₀.heap = H) (e1 : T'.heap = t.heap) (hS : va_S A0 H0 H locs) (hA : ∀ q, q < H.size → A1 q → A0 q) (hf : ∀ q, free q → A0 q) (hL : ∀ q ∈ L, free q.base) (hF : va_F A1 st₀ t) :
    H.size ≤ T'.heap.size ∧ (∀ q : Nat, q < H.size → ¬ A1 q → T'.heap[q]? = H[q]?) ∧ va_S A0 H0 T'.heap (locs ++ L) := by
  obtain ⟨hz, hk⟩ := hF
  rw [h0] at hz hk
  exact ⟨by rw [e1]; exact hz, fun q h1 h2 => by rw [e1]; exact hk q h1 h2,
    ⟨Nat.le_trans hS.1 (by rw [e1]; exact hz), fun q h1 h2 => by rw [e1, hk q (Nat.lt_of_lt_of_le h1 hS.1) (fun z => h2 (hA q (Nat.lt_of_lt_of_le h1 hS.1) z))]; exact hS.2.1 q h1 h2, fun q hq => by
      rcases List.mem_append.mp hq with h | h
      · exact hS.2.2 q h
      · exact hf _ (hL q h)⟩⟩
theorem vx_calli {S SX : Type} {post : Int32 → S → Prop} {px : SX → Prop} {B : S → State → Prop} {BX : String → SX → State → Prop} {AX : Nat → Prop} (hr : vx_Run p l e R s m args below meth c H locs cells slots mc ms (F0 m pc ls st0) rest (va_Qi post B A1 a) (vx_X px BX AX) free) (hS : va_S A0 H0 H locs) (hA : ∀ q, q < H.size → A1 q → A0 q) (hf : ∀ q, free q → A0 q) (hAX : ∀ q, q < H.size → AX q → A0 q)
    (kx : ∀ (E : String) (ce : Cell) (q9 : Addr) (u : SX) (t : State) (H1 : Heap) (locs1 : List Loc), t.heap = H1 → s.vm.Alike t.vm → px u → BX E u t → H.size ≤ H1.size → (∀ q : Nat, q < H.size → ¬ AX q → H1[q]? = H[q]?) → va_S A0 H0 H1 locs1 → H1[q9]? = some ce → ce.vm = .none → s.vm.findClass E = some ce.cls → vx_W p l e R s m args below meth c H1 locs1 (cells + mc) (slots + ms) Q (F0 m pc ls rest) q9)
    (kk : ∀ (r : Int32) (u : S) (t : State) (H1 : Heap) (locs1 : List Loc), t.heap = H1 → s.vm.Alike t.vm → post r u → B u t → H.size ≤ H1.size → (∀ q : Nat, q < H.size → ¬ A1 q → H1[q]? = H[q]?) → va_S A0 H0 H1 locs1 → W p l e R s m args below meth c H1 locs1 (cells + mc) (slots + ms) Q (F0 m (pc + 3) ls (.int r :: rest))) : W p l e R s m args below meth c H locs cells slots Q (F0 m pc ls st0) := by
  intro T hT X
  rcases hr T hT X with ⟨v, st₀, t, T', L, h0, X', hL, e1, e2, ⟨⟨r, u, hv, hp, hb⟩, hF⟩, st⟩ | ⟨q, st₀, t, T', L, E, ce, h0, X', hL, e1, e2, ⟨u, hp, hb, hF⟩, hce, hcv, hcl, st⟩
  · cases hv
    obtain ⟨k1, k2, k3⟩ := vx_keep h0 e1 hS hA hf hL hF
    obtain ⟨t2, a1, b1⟩ := kk r u t T'.heap (locs ++ L) e1.symm (by rw [← e2]; exact X'.warmed.alike) hp hb k1 k2 k3 T' rfl X'
    exact ⟨t2, st t2 a1, b1⟩
  · obtain ⟨k1, k2, k3⟩ := vx_keep h0 e1 hS hAX hf hL hF
    obtain ⟨t2, a1, b1⟩ := kx E ce q u t T'.heap (locs ++ L) e1.symm (by rw [← e2]; exact X'.warmed.alike) hp hb k1 k2 k3 (by rw [e1]; exact hce) hcv hcl T' rfl X'
    exact ⟨t2, st.trans a1, b1⟩
theorem vx_calll {S SX : Type} {post : Int64 → S → Prop} {px : SX → Prop} {B : S → State → Prop} {BX : String → SX → State → Prop} {AX : Nat → Prop} (hr : vx_Run p l e R s m args below meth c H locs cells slots mc ms (F0 m pc ls st0) rest (va_Ql post B A1 a) (vx_X px BX AX) free) (hS : va_S A0 H0 H locs) (hA : ∀ q, q < H.size → A1 q → A0 q) (hf : ∀ q, free q → A0 q) (hAX : ∀ q, q < H.size → AX q → A0 q)
    (kx : ∀ (E : String) (ce : Cell) (q9 : Addr) (u : SX) (t : State) (H1 : Heap) (locs1 : List Loc), t.heap = H1 → s.vm.Alike t.vm → px u → BX E u t → H.size ≤ H1.size → (∀ q : Nat, q < H.size → ¬ AX q → H1[q]? = H[q]?) → va_S A0 H0 H1 locs1 → H1[q9]? = some ce → ce.vm = .none → s.vm.findClass E = some ce.cls → vx_W p l e R s m args below meth c H1 locs1 (cells + mc) (slots + ms) Q (F0 m pc ls rest) q9)
    (kk : ∀ (r : Int64) (u : S) (t : State) (H1 : Heap) (locs1 : List Loc), t.heap = H1 → s.vm.Alike t.vm → post r u → B u t → H.size ≤ H1.size → (∀ q : Nat, q < H.size → ¬ A1 q → H1[q]? = H[q]?) → va_S A0 H0 H1 locs1 → W p l e R s m args below meth c H1 locs1 (cells + mc) (slots + ms) Q (F0 m (pc + 3) ls (.long r :: rest))) : W p l e R s m args below meth c H locs cells slots Q (F0 m pc ls st0) := by
  intro T hT X
  rcases hr T hT X with ⟨v, st₀, t, T', L, h0, X', hL, e1, e2, ⟨⟨r, u, hv, hp, hb⟩, hF⟩, st⟩ | ⟨q, st₀, t, T', L, E, ce, h0, X', hL, e1, e2, ⟨u, hp, hb, hF⟩, hce, hcv, hcl, st⟩
  · cases hv
    obtain ⟨k1, k2, k3⟩ := vx_keep h0 e1 hS hA hf hL hF
    obtain ⟨t2, a1, b1⟩ := kk r u t T'.heap (locs ++ L) e1.symm (by rw [← e2]; exact X'.warmed.alike) hp hb k1 k2 k3 T' rfl X'
    exact ⟨t2, st t2 a1, b1⟩
  · obtain ⟨k1, k2, k3⟩ := vx_keep h0 e1 hS hAX hf hL hF
    obtain ⟨t2, a1, b1⟩ := kx E ce q u t T'.heap (locs ++ L) e1.symm (by rw [← e2]; exact X'.warmed.alike) hp hb k1 k2 k3 (by rw [e1]; exact hce) hcv hcl T' rfl X'
    exact ⟨t2, st.trans a1, b1⟩
theorem vx_callf {S SX : Type} {post : UInt32 → S → Prop} {px : SX → Prop} {B : S → State → Prop} {BX : String → SX → State → Prop} {AX : Nat → Prop} (hr : vx_Run p l e R s m args below meth c H locs cells slots mc ms (F0 m pc ls st0) rest (va_Qf post B A1 a) (vx_X px BX AX) free) (hS : va_S A0 H0 H locs) (hA : ∀ q, q < H.size → A1 q → A0 q) (hf : ∀ q, free q → A0 q) (hAX : ∀ q, q < H.size → AX q → A0 q)
    (kx : ∀ (E : String) (ce : Cell) (q9 : Addr) (u : SX) (t : State) (H1 : Heap) (locs1 : List Loc), t.heap = H1 → s.vm.Alike t.vm → px u → BX E u t → H.size ≤ H1.size → (∀ q : Nat, q < H.size → ¬ AX q → H1[q]? = H[q]?) → va_S A0 H0 H1 locs1 → H1[q9]? = some ce → ce.vm = .none → s.vm.findClass E = some ce.cls → vx_W p l e R s m args below meth c H1 locs1 (cells + mc) (slots + ms) Q (F0 m pc ls rest) q9)
    (kk : ∀ (r : UInt32) (u : S) (t : State) (H1 : Heap) (locs1 : List Loc), t.heap = H1 → s.vm.Alike t.vm → post r u → B u t → H.size ≤ H1.size → (∀ q : Nat, q < H.size → ¬ A1 q → H1[q]? = H[q]?) → va_S A0 H0 H1 locs1 → W p l e R s m args below meth c H1 locs1 (cells + mc) (slots + ms) Q (F0 m (pc + 3) ls (.float r :: rest))) : W p l e R s m args below meth c H locs cells slots Q (F0 m pc ls st0) := by
  intro T hT X
  rcases hr T hT X with ⟨v, st₀, t, T', L, h0, X', hL, e1, e2, ⟨⟨r, u, hv, hp, hb⟩, hF⟩, st⟩ | ⟨q, st₀, t, T', L, E, ce, h0, X', hL, e1, e2, ⟨u, hp, hb, hF⟩, hce, hcv, hcl, st⟩
  · cases hv
    obtain ⟨k1, k2, k3⟩ := vx_keep h0 e1 hS hA hf hL hF
    obtain ⟨t2, a1, b1⟩ := kk r u t T'.heap (locs ++ L) e1.symm (by rw [← e2]; exact X'.warmed.alike) hp hb k1 k2 k3 T' rfl X'
    exact ⟨t2, st t2 a1, b1⟩
  · obtain ⟨k1, k2, k3⟩ := vx_keep h0 e1 hS hAX hf hL hF
    obtain ⟨t2, a1, b1⟩ := kx E ce q u t T'.heap (locs ++ L) e1.symm (by rw [← e2]; exact X'.warmed.alike) hp hb k1 k2 k3 (by rw [e1]; exact hce) hcv hcl T' rfl X'
    exact ⟨t2, st.trans a1, b1⟩
theorem vx_calld {S SX : Type} {post : UInt64 → S → Prop} {px : SX → Prop} {B : S → State → Prop} {BX : String → SX → State → Prop} {AX : Nat → Prop} (hr : vx_Run p l e R s m args below meth c H locs cells slots mc ms (F0 m pc ls st0) rest (va_Qd post B A1 a) (vx_X px BX AX) free) (hS : va_S A0 H0 H locs) (hA : ∀ q, q < H.size → A1 q → A0 q) (hf : ∀ q, free q → A0 q) (hAX : ∀ q, q < H.size → AX q → A0 q)
    (kx : ∀ (E : String) (ce : Cell) (q9 : Addr) (u : SX) (t : State) (H1 : Heap) (locs1 : List Loc), t.heap = H1 → s.vm.Alike t.vm → px u → BX E u t → H.size ≤ H1.size → (∀ q : Nat, q < H.size → ¬ AX q → H1[q]? = H[q]?) → va_S A0 H0 H1 locs1 → H1[q9]? = some ce → ce.vm = .none → s.vm.findClass E = some ce.cls → vx_W p l e R s m args below meth c H1 locs1 (cells + mc) (slots + ms) Q (F0 m pc ls rest) q9)
    (kk : ∀ (r : UInt64) (u : S) (t : State) (H1 : Heap) (locs1 : List Loc), t.heap = H1 → s.vm.Alike t.vm → post r u → B u t → H.size ≤ H1.size → (∀ q : Nat, q < H.size → ¬ A1 q → H1[q]? = H[q]?) → va_S A0 H0 H1 locs1 → W p l e R s m args below meth c H1 locs1 (cells + mc) (slots + ms) Q (F0 m (pc + 3) ls (.double r :: rest))) : W p l e R s m args below meth c H locs cells slots Q (F0 m pc ls st0) := by
  intro T hT X
  rcases hr T hT X with ⟨v, st₀, t, T', L, h0, X', hL, e1, e2, ⟨⟨r, u, hv, hp, hb⟩, hF⟩, st⟩ | ⟨q, st₀, t, T', L, E, ce, h0, X', hL, e1, e2, ⟨u, hp, hb, hF⟩, hce, hcv, hcl, st⟩
  · cases hv
    obtain ⟨k1, k2, k3⟩ := vx_keep h0 e1 hS hA hf hL hF
    obtain ⟨t2, a1, b1⟩ := kk r u t T'.heap (locs ++ L) e1.symm (by rw [← e2]; exact X'.warmed.alike) hp hb k1 k2 k3 T' rfl X'
    exact ⟨t2, st t2 a1, b1⟩
  · obtain ⟨k1, k2, k3⟩ := vx_keep h0 e1 hS hAX hf hL hF
    obtain ⟨t2, a1, b1⟩ := kx E ce q u t T'.heap (locs ++ L) e1.symm (by rw [← e2]; exact X'.warmed.alike) hp hb k1 k2 k3 (by rw [e1]; exact hce) hcv hcl T' rfl X'
    exact ⟨t2, st.trans a1, b1⟩
theorem vx_callv {S SX : Type} {post : S → Prop} {px : SX → Prop} {B : S → State → Prop} {BX : String → SX → State → Prop} {AX : Nat → Prop} (hr : vx_Run p l e R s m args below meth c H locs cells slots mc ms (F0 m pc ls st0) rest (va_Qv post B A1 a) (vx_X px BX AX) free) (hS : va_S A0 H0 H locs) (hA : ∀ q, q < H.size → A1 q → A0 q) (hf : ∀ q, free q → A0 q) (hAX : ∀ q, q < H.size → AX q → A0 q)
    (kx : ∀ (E : String) (ce : Cell) (q9 : Addr) (u : SX) (t : State) (H1 : Heap) (locs1 : List Loc), t.heap = H1 → s.vm.Alike t.vm → px u → BX E u t → H.size ≤ H1.size → (∀ q : Nat, q < H.size → ¬ AX q → H1[q]? = H[q]?) → va_S A0 H0 H1 locs1 → H1[q9]? = some ce → ce.vm = .none → s.vm.findClass E = some ce.cls → vx_W p l e R s m args below meth c H1 locs1 (cells + mc) (slots + ms) Q (F0 m pc ls rest) q9)
    (kk : ∀ (u : S) (t : State) (H1 : Heap) (locs1 : List Loc), t.heap = H1 → s.vm.Alike t.vm → post u → B u t → H.size ≤ H1.size → (∀ q : Nat, q < H.size → ¬ A1 q → H1[q]? = H[q]?) → va_S A0 H0 H1 locs1 → W p l e R s m args below meth c H1 locs1 (cells + mc) (slots + ms) Q (F0 m (pc + 3) ls (rest))) : W p l e R s m args below meth c H locs cells slots Q (F0 m pc ls st0) := by
  intro T hT X
  rcases hr T hT X with ⟨v, st₀, t, T', L, h0, X', hL, e1, e2, ⟨⟨u, hv, hp, hb⟩, hF⟩, st⟩ | ⟨q, st₀, t, T', L, E, ce, h0, X', hL, e1, e2, ⟨u, hp, hb, hF⟩, hce, hcv, hcl, st⟩
  · cases hv
    obtain ⟨k1, k2, k3⟩ := vx_keep h0 e1 hS hA hf hL hF
    obtain ⟨t2, a1, b1⟩ := kk u t T'.heap (locs ++ L) e1.symm (by rw [← e2]; exact X'.warmed.alike) hp hb k1 k2 k3 T' rfl X'
    exact ⟨t2, st t2 a1, b1⟩
  · obtain ⟨k1, k2, k3⟩ := vx_keep h0 e1 hS hAX hf hL hF
    obtain ⟨t2, a1, b1⟩ := kx E ce q u t T'.heap (locs ++ L) e1.symm (by rw [← e2]; exact X'.warmed.alike) hp hb k1 k2 k3 (by rw [e1]; exact hce) hcv hcl T' rfl X'
    exact ⟨t2, st.trans a1, b1⟩
/-- caught by the row x of this method's table; the rows ahead don't take it -/
theorem vx_catch {own name : String} {E : String} {ce : Cell} {q : Addr} (hown : s.vm.findClass own = some m.cls) (pre : List ExceptionTableEntry) (x : ExceptionTableEntry) (suf : List ExceptionTableEntry) (hsplit : c.exceptionTable.toList = pre ++ x :: suf)
    (hpass : ∀ z ∈ pre, covers z pc = false ∨ (z.catchType ≠ 0 ∧ ∃ nm : String, (Cond.classLink own z.catchType nm).before args s = true ∧ va_Nc E nm s)) (hx : covers x pc = true) (h0 : x.catchType ≠ 0)
    (hlink : (Cond.classLink own x.catchType name).before args s = true) (hcast : (Cond.castable E name).before args s = true) (hcell : H[q]? = some ce) (hv : ce.vm = .none) (hcl : s.vm.findClass E = some ce.cls)
    (kk : W p l e R s m args below meth c H locs cells slots Q (F0 m x.handlerPc ls [.ref q])) : vx_W p l e R s m args below meth c H locs cells slots Q (F0 m pc ls rest) q := by
  intro T hT X
  have hpl : e.platform.magicAccessors = ({} : Platform).magicAccessors := by rw [X.admits.platform]
  obtain ⟨c3, c4, hc3, hc4, hasg⟩ := Cond.castable_spec hcast
  cases Option.some.inj (hc3.symm.trans hcl)
  obtain ⟨c5, hc5, hcl5⟩ := Cond.classLink_spec hown hlink e.platform hpl
  cases Option.some.inj (hc4.symm.trans hc5)
  obtain ⟨vm', X', st⟩ := X.thenCaughtThrough q (g := F0 m pc ls rest) rfl (Steps.refl _) (by rw [hT]; exact hcell) (by rw [hv]; rfl) (by obtain ⟨k9, h9, -⟩ := Vm.findClass_spec hcl; exact ⟨k9, h9⟩) pre x suf hsplit
    (fun z hz => by
      rcases hpass z hz with h | ⟨hz0, nm, hl1, hn1⟩
      · exact Or.inl h
      · obtain ⟨c6, hc6, hcl6⟩ := Cond.classLink_spec hown hl1 e.platform hpl
        obtain ⟨a8, b8, h1, h2, h3⟩ := hn1
        cases Option.some.inj (h1.symm.trans hcl)
        cases Option.some.inj (h2.symm.trans hc6)
        exact Or.inr ⟨hz0, _, hcl6, h3⟩) hx (Or.inr ⟨h0, c4, hcl5, hasg⟩)
  obtain ⟨t, a1, b1⟩ := kk (T.setVm vm') hT X'
  exact ⟨t, st.trans a1, b1⟩
end Rows
section Ends
variable {p : Program} {l : Launch} {e : Env} {R : Room} {s : State} {m : MethodId} {args : Array Value} {below : List Frame} {meth : Method} {c : Code} {H : Heap} {locs : List Loc} {cells slots : Nat} {Q : State → Prop}
variable {mc ms : Nat} {free : Addr → Prop} {A0 A1 : Nat → Prop} {H0 : Heap} {a : Array Value} {ls : Array Slot} {st0 rest : List Value}
variable {Qc : Array Value → State → Outcome → State → Prop} {XC : String → State → State → Prop}
/-- what a body that may throw owes at its end -/
def vx_MQ (below : List Frame) (Qc : Array Value → State → Outcome → State → Prop) (XC : String → State → State → Prop) (a : Array Value) (s : State) (mc ms : Nat) (free : Addr → Prop) : State → Prop := fun t =>
  ∃ o, t.status = .running ∧ Ended t below o ∧ vx_Q Qc XC mc ms free a s o t
theorem vx_ret {g : JFrame} {mc ms : Nat} (k : W p l e R s m args below meth c H locs cells slots (MQ below Qc args s mc ms free) g) : W p l e R s m args below meth c H locs cells slots (vx_MQ below Qc XC args s mc ms free) g := by
  intro T hT X
  obtain ⟨t, a1, o, b1, b2, b3, b4⟩ := k T hT X
  exact ⟨t, a1, o, b1, b2, Or.inl ⟨b3, b4⟩⟩
/-- not caught here: it goes on to the caller -/
theorem vx_widen {g : JFrame} {q : Addr} {k n : Nat} (h1 : cells ≤ k) (h2 : slots ≤ n) (kk : vx_W p l e R s m args below meth c H locs k n Q g q) : vx_W p l e R s m args below meth c H locs cells slots Q g q := fun T hT X => kk T hT (stand_widen X h1 h2)
theorem vx_out {pc : Nat} {E : String} {ce : Cell} {q : Addr} {mc ms : Nat} (hout : ∀ x ∈ c.exceptionTable.toList, covers x pc = false) (hlocks : meth.locks = false) (hcell : H[q]? = some ce) (hv : ce.vm = .none) (hcl : s.vm.findClass E = some ce.cls)
    (hx : ∀ t : State, t.heap = H → s.vm.Alike t.vm → XC E s t) (hf : ∀ z ∈ locs, free z.base) (hc : cells ≤ mc) (hs : slots ≤ ms) :
    vx_W p l e R s m args below meth c H locs cells slots (vx_MQ below Qc XC args s mc ms free) (F0 m pc ls rest) q := by
  intro T hT X
  obtain ⟨st1, hrun, hend, hW, hsm⟩ := X.leaveThrown q (g := F0 m pc ls rest) rfl rfl rfl hout hlocks
  have hcell9 : (T.setFrames (.throwing q :: below)).heap[q]? = some ce := by
    show T.heap[q]? = some ce
    rw [hT]; exact hcell
  exact ⟨_, st1, .threw q, hrun, hend, Or.inr ⟨q, rfl, E, ce, locs, hx _ hT hW.alike, hcell9, hv, hcl, hW, hsm.mono hc hs, hf⟩⟩
theorem vx_frame {U : State} {k n : Nat} (h : s.sameButNew ({ U with vm := s.vm } : State) locs k n) : s.heap.size ≤ U.heap.size ∧ ∀ q : Nat, q < s.heap.size → (∀ z ∈ locs, z.base ≠ q) → U.heap[q]? = s.heap[q]? := by
  obtain ⟨-, h2, -, -, -, h6⟩ := h
  refine ⟨h2, fun q hq hz => ?_⟩
  obtain ⟨c9, e1, e2, e3, e4⟩ := h6 q _ (Array.getElem?_eq_getElem hq)
  have hs : c9.slots = (s.heap[q]).slots := Array.ext_getElem? fun i => e4 i fun hm => hz _ hm rfl
  have h9 : c9 = s.heap[q] := by
    rw [hs] at e2
    exact e2
  have e5 : U.heap[q]? = some c9 := e1
  rw [e5, h9, Array.getElem?_eq_getElem hq]
/-- the words of a throw but the four that speak of the heap -/
def vx_no (w : Cond) : Bool := decide (w ≠ .isRef (.static Bundle.tN "UNASSIGNED_STACK" Bundle.steD)) && decide (w ≠ .isRef (.static Bundle.tN "SUPPRESSED_SENTINEL" Bundle.listD)) && decide (w ≠ .laysStatic Bundle.tN "UNASSIGNED_STACK" Bundle.steD) && decide (w ≠ .laysStatic Bundle.tN "SUPPRESSED_SENTINEL" Bundle.listD)
def vx_at0 (own : String) (ic : Nat) (X : String) (names : List String) : List Cond := (Bundle.ownAtoms0 own ic X names).filter vx_no
def vx_atS (own : String) (ic : Nat) (X : String) (names : List String) : List Cond := (Bundle.ownAtoms own ic X names).filter vx_no
/-- a word that the tables alone decide, or a good one -/
def vx_ot (w : Cond) : Bool := w.onTables || goodWord w
theorem vx_ot_at {args a' : Array Value} {s U : State} {w : Cond} (hW : s.WarmedH U.vm) (hvm : s.vm = U.vm) (hg : vx_ot w = true) (h : w.before args s = true) : w.before a' U = true := by
  simp only [vx_ot, Bool.or_eq_true] at hg
  rcases hg with hg | hg
  · exact va_tabs hg hvm h
  · exact word_at hW (good_of_word hg) h
/-- a list's words: the good ones out of the method's own list, the others by premises of their own -/
theorem vx_hat {args : Array Value} {s : State} {L B : List Cond} (h1 : ∀ w ∈ L.filter goodWord, w.before args s = true) (h2 : ∀ w ∈ L.filter (fun w => !goodWord w), w ∈ B) (h3 : ∀ w ∈ B, w.before args s = true) : ∀ w ∈ L, w.before args s = true := by
  intro w hw
  by_cases g : goodWord w = true
  · exact h1 w (List.mem_filter.mpr ⟨hw, g⟩)
  · refine h3 w (h2 w (List.mem_filter.mpr ⟨hw, ?_⟩))
    show (!goodWord w) = true
    cases hgw : goodWord w
    · rfl
    · exact absurd hgw g
theorem vx_c {args : Array Value} {s : State} {w : Cond} {B : List Cond} (h : w.before args s = true) (t : ∀ w ∈ B, w.before args s = true) : ∀ w' ∈ w :: B, w'.before args s = true := fun w' h' => (List.mem_cons.mp h').elim (fun e => by rw [e]; exact h) (t w')
theorem vx_n {args : Array Value} {s : State} : ∀ w ∈ ([] : List Cond), w.before args s = true := fun _ h => nomatch h
theorem vx_own {args : Array Value} {s : State} {L : List Cond} (h1 : ∀ w ∈ L.filter vx_no, w.before args s = true)
    (hU : (Cond.isRef (.static Bundle.tN "UNASSIGNED_STACK" Bundle.steD)).before args s = true) (hN : (Cond.isRef (.static Bundle.tN "SUPPRESSED_SENTINEL" Bundle.listD)).before args s = true)
    (lU : (Cond.laysStatic Bundle.tN "UNASSIGNED_STACK" Bundle.steD).before args s = true) (lN : (Cond.laysStatic Bundle.tN "SUPPRESSED_SENTINEL" Bundle.listD).before args s = true) : ∀ w ∈ L, w.before args s = true := by
  intro w hw
  by_cases e1 : w = .isRef (.static Bundle.tN "UNASSIGNED_STACK" Bundle.steD)
  · rw [e1]; exact hU
  · by_cases e2 : w = .isRef (.static Bundle.tN "SUPPRESSED_SENTINEL" Bundle.listD)
    · rw [e2]; exact hN
    · by_cases e3 : w = .laysStatic Bundle.tN "UNASSIGNED_STACK" Bundle.steD
      · rw [e3]; exact lU
      · by_cases e4 : w = .laysStatic Bundle.tN "SUPPRESSED_SENTINEL" Bundle.listD
        · rw [e4]; exact lN
        · exact h1 w (List.mem_filter.mpr ⟨hw, by unfold vx_no; rw [decide_eq_true e1, decide_eq_true e2, decide_eq_true e3, decide_eq_true e4]; rfl⟩)
/-- where a static field lies, its class's statics cell in H -/
def vx_L (C n d : String) (A : Nat → Prop) (U : State) (H : Heap) : Prop := ∃ (c : ClassId) (k : Class) (i : Nat) (f : Field) (a : Nat) (cell : Cell), U.vm.findClass C = some c ∧ U.fieldFound? C n d = some (c, k, i, f) ∧ f.isStatic = true ∧ k.statics = some a ∧ H[a]? = some cell ∧ cell.vm.isStatics = true ∧ cell.cls = c ∧ f.slot < cell.slots.size ∧ k.staticTypes[f.slot]? = some f.type ∧ ¬ A a
theorem vx_L.moved {C n d : String} {A : Nat → Prop} {u U : State} {H : Heap} (hvm : u.vm.Alike U.vm) (h : vx_L C n d A u H) : vx_L C n d A U H := by
  obtain ⟨c, k, i, f, a, cell, h1, h2, h3, h4, h5, h6, h7, h8, h9, h10⟩ := h
  obtain ⟨k', hi', he⟩ := State.fieldFound?_setVm hvm h2
  exact ⟨c, k', i, f, a, cell, by rw [hvm.findClass]; exact h1, hi', h3, by rw [he]; exact h4, h5, h6, h7, h8, by rw [he]; exact h9, h10⟩
theorem vx_L.kept {C n d : String} {A : Nat → Prop} {U : State} {H H1 : Heap} (h : vx_L C n d A U H) (hq : ∀ a : Nat, a < H.size → ¬ A a → H1[a]? = H[a]?) : vx_L C n d A U H1 := by
  obtain ⟨c, k, i, f, a, cell, h1, h2, h3, h4, h5, h6, h7, h8, h9, h10⟩ := h
  exact ⟨c, k, i, f, a, cell, h1, h2, h3, h4, by rw [hq a (Array.getElem?_eq_some_iff.mp h5).1 h10]; exact h5, h6, h7, h8, h9, h10⟩
theorem vx_L.narrow {C n d : String} {A B : Nat → Prop} {U : State} {H : Heap} (h : vx_L C n d A U H) (hAB : ∀ q, B q → A q) : vx_L C n d B U H := by
  obtain ⟨c, k, i, f, a, cell, h1, h2, h3, h4, h5, h6, h7, h8, h9, h10⟩ := h
  exact ⟨c, k, i, f, a, cell, h1, h2, h3, h4, h5, h6, h7, h8, h9, fun z => h10 (hAB _ z)⟩
theorem vx_L.word {C n d : String} {A : Nat → Prop} {s : State} {args : Array Value} (h : vx_L C n d A s s.heap) : (Cond.laysStatic C n d).before args s = true := by
  obtain ⟨c, k, i, f, a, cell, h1, h2, h3, h4, h5, h6, h7, h8, h9, -⟩ := h
  show (Cond.laysStatic C n d).holds args s none s [] = true
  exact Cond.laysStatic_of h1 h2 h3 h4 h5 h6 h7 h8 h9
/-- .. and what it holds: null or some reference -/
def vx_Zq (C n d : String) (A : Nat → Prop) (U : State) (H : Heap) : Prop := va_Zq C n d A U H ∧ vx_L C n d A U H
theorem vx_Zq.moved {C n d : String} {A : Nat → Prop} {u U : State} {H : Heap} (hvm : u.vm.Alike U.vm) (h : vx_Zq C n d A u H) : vx_Zq C n d A U H := ⟨va_Zq.moved hvm h.1, vx_L.moved hvm h.2⟩
theorem vx_Zq.kept {C n d : String} {A : Nat → Prop} {U : State} {H H1 : Heap} (h : vx_Zq C n d A U H) (hq : ∀ a : Nat, a < H.size → ¬ A a → H1[a]? = H[a]?) : vx_Zq C n d A U H1 := ⟨va_Zq.kept h.1 hq, vx_L.kept h.2 hq⟩
theorem vx_Zq.narrow {C n d : String} {A B : Nat → Prop} {U : State} {H : Heap} (h : vx_Zq C n d A U H) (hAB : ∀ q, B q → A q) : vx_Zq C n d B U H := ⟨va_Zq.narrow h.1 hAB, vx_L.narrow h.2 hAB⟩
theorem vx_Zqof {args : Array Value} {s : State} {C n d : String} {A : Nat → Prop} (hl : (Cond.laysStatic C n d).before args s = true) (hini : (Cond.initialized C).before args s = true) (h : (Cond.isRef (.static C n d)).before args s = true) (hA : ∀ a : Nat, a < s.heap.size → ¬ A a) : vx_Zq C n d A s s.heap := by
  refine ⟨va_Zqof hl hini h hA, ?_⟩
  obtain ⟨c, k, i, f, a, cell, h1, h2, h3, h4, h5, h6, h7, h8, h9⟩ := Cond.laysStatic_spec hl
  exact ⟨c, k, i, f, a, cell, h1, h2, h3, h4, h5, h6, h7, h8, h9, hA a (Array.getElem?_eq_some_iff.mp h5).1⟩
theorem vx_isRef {C n d : String} {v : Value} {A : Nat → Prop} {s : State} {args : Array Value} (h : va_Z C n d v A s s.heap) (hv : v.isRef = true) : (Cond.isRef (.static C n d)).before args s = true := by
  obtain ⟨cf, kf, fi, f, a, cell, h1, h2, h3, h4, h5, h6, h7, -⟩ := h
  have he : (Term.static C n d).eval args s none [] s = some v := by
    simp [Term.eval, State.fieldNamed?, h1, h2, h4, h5, h6, h7]
  simp only [Cond.before, Cond.holds, Cond.value, he]
  cases v <;> simp_all [Value.isRef]
theorem vx_isRefq {C n d : String} {A : Nat → Prop} {s : State} {args : Array Value} (h : va_Zq C n d A s s.heap) : (Cond.isRef (.static C n d)).before args s = true := by
  rcases h with h | ⟨t, h⟩
  · exact vx_isRef h rfl
  · exact vx_isRef h rfl
/-- the same frame, seen from here: as if the method were called anew in this heap -/
theorem vx_rebase {T : State} (X : Stand p l e R s m args below meth c T locs cells slots) {R' : Room} (hf : R'.frames ≤ R.frames) (hl : R'.locals ≤ R.locals) (hc : cells + R'.cells ≤ R.cells) (hs : slots + R'.slots ≤ R.slots) :
    Stand p l e R' ((T.setVm s.vm).setFrames (.invoking m args :: below)) m args below meth c T [] 0 0 := by
  have htop : (T.setVm s.vm).topJava?.isSome := X.here.top
  have hF : ((T.setVm s.vm).setFrames (.invoking m args :: below)).frames = .invoking m args :: below := State.frames_setFrames _ (State.cur_lt_of_top htop)
  obtain ⟨g₀, hg0⟩ := Option.isSome_iff_exists.mp htop
  obtain ⟨r, hr⟩ := State.topJava?_eq_some.mp hg0
  have hl9 : e.platform.stackLimits (T.setVm s.vm).me = e.platform.stackLimits s.me := X.limits
  have hb9 : (T.setVm s.vm).me.stackBytes = s.me.stackBytes := X.bytes
  refine ⟨X.admits, X.cas, X.clock, hF, ?_, X.hears, X.method, X.code, X.here, X.tail, X.warmed, ?_, ?_, ?_⟩
  · have h := X.room
    have hU : ((T.setVm s.vm).setFrames (.invoking m args :: below)).localsInUse = s.localsInUse := by
      rw [State.localsInUse_invoking hF (meth := meth) (c := c) X.method X.code, State.localsInUse_invoking X.frames X.method X.code]
    simp only [State.hasRoom, Bool.and_eq_true, decide_eq_true_eq] at h ⊢
    obtain ⟨⟨⟨⟨h1, h2, h3, h4, h5, h6⟩, h7⟩, h8⟩, h9⟩ := h
    rw [X.frames, List.length_cons] at h2 h3
    have q1 := X.heapSize
    have q2 := X.used
    simp only [hF, hU, List.length_cons, State.stackLimits_setFrames, State.stackBytes_setFrames, hl9, hb9]
    refine ⟨⟨⟨⟨by omega, by omega, by omega, by omega, by omega, h6⟩, ?_⟩, ?_⟩, X.book⟩
    · show T.heap.size + R'.cells ≤ e.platform.maxCells
      omega
    · show T.slotsUsed + R'.slots ≤ e.platform.maxSlots
      omega
  · rw [State.stackLimits_setFrames]; rfl
  · rw [State.stackBytes_setFrames]; rfl
  · refine ⟨?_, Nat.le_refl _, Nat.le_refl _, ?_, ?_, fun a c9 h9 => ⟨c9, h9, rfl, rfl, fun _ _ => rfl⟩⟩
    · obtain ⟨t, ht, -⟩ := State.frames_cons hr
      show T.setVm s.vm = { ((T.setVm s.vm).setFrames (.invoking m args :: below)).setFrames (T.setVm s.vm).frames with heap := T.heap, slotsUsed := T.slotsUsed }
      rw [State.setFrames_setFrames, State.setFrames_self ht]
      rfl
    · show T.slotsUsed = T.slotsUsed + ((T.heap.toList.drop T.heap.size).map (·.slots.size)).sum
      rw [List.drop_eq_nil_of_le (Nat.le_of_eq Array.length_toList)]
      rfl
    · show ((T.heap.toList.drop T.heap.size).map (·.slots.size)).sum ≤ 0
      rw [List.drop_eq_nil_of_le (Nat.le_of_eq Array.length_toList)]
      exact Nat.le_refl _
/-- 'throw new E()': new; dup; invokespecial; athrow -/
theorem vx_throw0 {cc : ByteArray} {pc : Nat} (hexec : p.tables.exec = Jvm.exec) (hb : c.code = cc) (hl : l.stackTraces = false) {own cls : String} {names : List String} {ik ic mc ms : Nat} {A : Nat → Prop}
    (hown : s.vm.findClass own = some m.cls) (hcls : Bundle.fit cls = true) (hnames : ∀ n ∈ names, Bundle.fit n = true)
    (hk : (Cond.classLink own ik cls).before args s = true) (hini : (Cond.initialized cls).before args s = true) (hat : ∀ w ∈ vx_at0 own ic cls names, w.before args s = true)
    (hgood : ∀ w ∈ Cond.classLink own ik cls :: Cond.initialized cls :: vx_at0 own ic cls names, vx_ot w = true)
    (hU : vx_Zq Bundle.tN "UNASSIGNED_STACK" Bundle.steD A s s.heap) (hN : vx_Zq Bundle.tN "SUPPRESSED_SENTINEL" Bundle.listD A s s.heap) (hS : va_S A s.heap H locs) (hsize : ls.size = c.maxLocals)
    (d0 : decode cc pc = .ok (.new ik, 3)) (d3 : decode cc (pc + 3) = .ok (.dup, 1)) (d4 : decode cc (pc + 4) = .ok (.invokespecial ic, 3)) (d7 : decode cc (pc + 7) = .ok (.athrow, 1))
    (hout : ∀ x ∈ c.exceptionTable.toList, covers x (pc + 7) = false)
    (hRframes : names.length + 3 < R.frames) (hRlocals : (rest.map fun v => v.category).sum + (13 * (names.length + 1) + 42) ≤ R.locals) (hRcells : cells + 1 ≤ R.cells) (hRslots : slots + 6 ≤ R.slots) (hlocks : meth.locks = false)
    (hx : ∀ t : State, s.vm.Alike t.vm → H.size ≤ t.heap.size → (∀ q : Nat, q < H.size → t.heap[q]? = H[q]?) → XC cls s t)
    (hf : ∀ z ∈ locs, free z.base) (hc : cells + 1 ≤ mc) (hs : slots + 6 ≤ ms) :
    W p l e R s m args below meth c H locs cells slots (vx_MQ below Qc XC args s mc ms free) (F0 m pc ls rest) := by
  intro T hT X
  have htr : e.platform.stackTraces = false := (show e.platform.stackTraces = l.stackTraces by rw [X.admits.platform]).trans hl
  have Y := vx_rebase X (R' := { frames := R.frames, locals := R.locals, cells := 1, slots := 6 }) (Nat.le_refl _) (Nat.le_refl _) hRcells hRslots
  obtain ⟨s', hA⟩ : ∃ z, z = (T.setVm s.vm).setFrames (.invoking m args :: below) := ⟨_, rfl⟩
  rw [← hA] at Y
  have hvm : s'.vm = s.vm := by rw [hA]; rfl
  have hhp : s'.heap = H := by rw [hA]; exact hT
  have hW0 : s.WarmedH s'.vm := by rw [hvm]; exact State.WarmedH.refl s
  have hat' : ∀ w ∈ vx_at0 own ic cls names, w.before args s' = true := fun w hw => vx_ot_at hW0 hvm.symm (hgood w (List.mem_cons_of_mem _ (List.mem_cons_of_mem _ hw))) (hat w hw)
  have hk' : (Cond.classLink own ik cls).before args s' = true := vx_ot_at hW0 hvm.symm (hgood _ List.mem_cons_self) hk
  have hini' : (Cond.initialized cls).before args s' = true := vx_ot_at hW0 hvm.symm (hgood _ (List.mem_cons_of_mem _ List.mem_cons_self)) hini
  have hU' : vx_Zq Bundle.tN "UNASSIGNED_STACK" Bundle.steD A s' s'.heap := by rw [hhp]; exact vx_Zq.moved hW0.alike (hU.kept hS.2.1)
  have hN' : vx_Zq Bundle.tN "SUPPRESSED_SENTINEL" Bundle.listD A s' s'.heap := by rw [hhp]; exact vx_Zq.moved hW0.alike (hN.kept hS.2.1)
  have h : ∀ w ∈ Bundle.ownAtoms0 own ic cls names, w.before args s' = true := vx_own hat' (vx_isRefq hU'.1) (vx_isRefq hN'.1) hU'.2.word hN'.2.word
  have hown' : s'.vm.findClass own = some m.cls := by rw [hvm]; exact hown
  have hins : (Cond.instantiable cls 6).before args s' = true := h _ (by simp [Bundle.ownAtoms0])
  obtain ⟨vm₁, cX, kX, hfX, hkX, -, -, X₁, st1⟩ := Y.newCold hexec (own := own) (C := cls) (index := ik) (n := 6) hown' hk' hins hini'
    (g := F0 m pc ls rest) rfl (by rw [hb]; exact d0) (Nat.le_refl _) (Nat.le_refl _)
  generalize hT1 : (T.setVm vm₁).pushCell { cls := cX, slots := kX.instanceTypes.map defaultValue, vm := .none } = T1 at X₁ st1
  have hcat : (Value.ref T.heap.size).category = 1 := rfl
  have hcellA : T1.heap[T.heap.size]? = some (freshCell cX kX) := by rw [← hT1]; exact State.heap_pushCell_size _ _
  have d3' : decode c.code (pc + 3) = .ok (.dup, 1) := by rw [hb]; exact d3
  obtain ⟨U, hsteps, hrun, hend, hW, hsame, ce, hce, hO⟩ := X₁.ctorThrow0 hexec htr (own := own) (cls := cls) (names := names) (ic := ic) hown' hcls hnames h (fun x hx => nomatch hx) hfX hkX hcellA (by rw [hhp, hT]; exact Nat.le_refl _)
    (g := { method := m, pc := pc + 4, locals := ls, stack := .ref T.heap.size :: .ref T.heap.size :: rest, locked := none }) rfl hsize rfl rfl (rest := rest) rfl
    (by rw [hb]; exact d4) (by rw [hb]; exact d7) hout hRframes (by simp only [List.map_cons, List.sum_cons, hcat]; omega) hlocks
  obtain ⟨f1, f2⟩ := vx_frame hsame
  rw [hhp] at f1 f2
  have hWs : s.WarmedH U.vm := State.WarmedH.trans hW0 hW
  have hcl : s.vm.findClass cls = some ce.cls := by
    have h9 := hO.cls
    rw [hvm] at h9
    exact h9
  have hall : s.sameButNew ({ U with vm := s.vm } : State) locs mc ms := by
    subst hA
    obtain ⟨e1, e2⟩ := hsame
    rw [State.setFrames_setFrames] at e1
    have h2 : (T.setVm s.vm).sameButNew ({ U with vm := s.vm } : State) [] (0 + 1) (0 + 6) := ⟨e1, e2⟩
    have h3 := X.same.trans h2
    rw [List.append_nil] at h3
    exact h3.mono hc hs
  refine ⟨U, ?_, .threw T.heap.size, hrun, hend, Or.inr ⟨T.heap.size, rfl, cls, ce, locs, hx U hWs.alike f1 (fun q hq => f2 q hq (fun z hz => nomatch hz)), hce, hO.vm, hcl, hWs, hall, hf⟩⟩
  refine st1 _ ?_
  show Steps p.tables e below (T1.setTop { method := m, pc := pc + 3, locals := ls, stack := .ref T.heap.size :: rest, locked := none }) _
  jvm_step X₁.here [X₁.here.top, hexec, d3', Value.category]
  exact hsteps
/-- 'throw new E("text")': new; dup; ldc; invokespecial; athrow -/
theorem vx_throwS {cc : ByteArray} {pc : Nat} (hexec : p.tables.exec = Jvm.exec) (hb : c.code = cc) (hl : l.stackTraces = false) {own cls text : String} {names : List String} {ik is ic mc ms sa : Nat} {A : Nat → Prop}
    (hown : s.vm.findClass own = some m.cls) (hcls : Bundle.fit cls = true) (hnames : ∀ n ∈ names, Bundle.fit n = true)
    (hk : (Cond.classLink own ik cls).before args s = true) (hini : (Cond.initialized cls).before args s = true) (hstr : vk_R own is text sa s) (hat : ∀ w ∈ vx_atS own ic cls names, w.before args s = true)
    (hgood : ∀ w ∈ Cond.classLink own ik cls :: Cond.initialized cls :: vx_atS own ic cls names, vx_ot w = true)
    (hU : vx_Zq Bundle.tN "UNASSIGNED_STACK" Bundle.steD A s s.heap) (hN : vx_Zq Bundle.tN "SUPPRESSED_SENTINEL" Bundle.listD A s s.heap) (hS : va_S A s.heap H locs) (hsize : ls.size = c.maxLocals)
    (d0 : decode cc pc = .ok (.new ik, 3)) (d3 : decode cc (pc + 3) = .ok (.dup, 1)) (d4 : decode cc (pc + 4) = .ok (.ldc is, 2)) (d6 : decode cc (pc + 6) = .ok (.invokespecial ic, 3)) (d9 : decode cc (pc + 9) = .ok (.athrow, 1))
    (hout : ∀ x ∈ c.exceptionTable.toList, covers x (pc + 9) = false)
    (hRframes : names.length + 3 < R.frames) (hRlocals : (rest.map fun v => v.category).sum + (13 * (names.length + 1) + 43) ≤ R.locals) (hRcells : cells + 1 ≤ R.cells) (hRslots : slots + 6 ≤ R.slots) (hlocks : meth.locks = false)
    (hx : ∀ t : State, s.vm.Alike t.vm → H.size ≤ t.heap.size → (∀ q : Nat, q < H.size → t.heap[q]? = H[q]?) → XC cls s t)
    (hf : ∀ z ∈ locs, free z.base) (hc : cells + 1 ≤ mc) (hs : slots + 6 ≤ ms) :
    W p l e R s m args below meth c H locs cells slots (vx_MQ below Qc XC args s mc ms free) (F0 m pc ls rest) := by
  intro T hT X
  have htr : e.platform.stackTraces = false := (show e.platform.stackTraces = l.stackTraces by rw [X.admits.platform]).trans hl
  have Y := vx_rebase X (R' := { frames := R.frames, locals := R.locals, cells := 1, slots := 6 }) (Nat.le_refl _) (Nat.le_refl _) hRcells hRslots
  obtain ⟨s', hA⟩ : ∃ z, z = (T.setVm s.vm).setFrames (.invoking m args :: below) := ⟨_, rfl⟩
  rw [← hA] at Y
  have hvm : s'.vm = s.vm := by rw [hA]; rfl
  have hhp : s'.heap = H := by rw [hA]; exact hT
  have hW0 : s.WarmedH s'.vm := by rw [hvm]; exact State.WarmedH.refl s
  have hat' : ∀ w ∈ vx_atS own ic cls names, w.before args s' = true := fun w hw => vx_ot_at hW0 hvm.symm (hgood w (List.mem_cons_of_mem _ (List.mem_cons_of_mem _ hw))) (hat w hw)
  have hk' : (Cond.classLink own ik cls).before args s' = true := vx_ot_at hW0 hvm.symm (hgood _ List.mem_cons_self) hk
  have hini' : (Cond.initialized cls).before args s' = true := vx_ot_at hW0 hvm.symm (hgood _ (List.mem_cons_of_mem _ List.mem_cons_self)) hini
  have hU' : vx_Zq Bundle.tN "UNASSIGNED_STACK" Bundle.steD A s' s'.heap := by rw [hhp]; exact vx_Zq.moved hW0.alike (hU.kept hS.2.1)
  have hN' : vx_Zq Bundle.tN "SUPPRESSED_SENTINEL" Bundle.listD A s' s'.heap := by rw [hhp]; exact vx_Zq.moved hW0.alike (hN.kept hS.2.1)
  have h : ∀ w ∈ Bundle.ownAtoms own ic cls names, w.before args s' = true := vx_own hat' (vx_isRefq hU'.1) (vx_isRefq hN'.1) hU'.2.word hN'.2.word
  have hown' : s'.vm.findClass own = some m.cls := by rw [hvm]; exact hown
  have hins : (Cond.instantiable cls 6).before args s' = true := h _ (by simp [Bundle.ownAtoms])
  obtain ⟨vm₁, cX, kX, hfX, hkX, -, -, X₁, st1⟩ := Y.newCold hexec (own := own) (C := cls) (index := ik) (n := 6) hown' hk' hins hini'
    (g := F0 m pc ls rest) rfl (by rw [hb]; exact d0) (Nat.le_refl _) (Nat.le_refl _)
  generalize hT1 : (T.setVm vm₁).pushCell { cls := cX, slots := kX.instanceTypes.map defaultValue, vm := .none } = T1 at X₁ st1
  have hcat : (Value.ref T.heap.size).category = 1 := rfl
  have hcellA : T1.heap[T.heap.size]? = some (freshCell cX kX) := by rw [← hT1]; exact State.heap_pushCell_size _ _
  have d3' : decode c.code (pc + 3) = .ok (.dup, 1) := by rw [hb]; exact d3
  have d4' : decode c.code (pc + 4) = .ok (.ldc is, 2) := by rw [hb]; exact d4
  have hstr' : vk_R own is text sa s' := vk_R.warm hW0 hstr
  obtain ⟨U, hsteps, hrun, hend, hW, hsame, ce, hce, hO⟩ := X₁.ctorThrowS hexec htr (own := own) (cls := cls) (names := names) (ic := ic) hown' hcls hnames h (fun x hx => nomatch hx) hfX hkX hcellA (by rw [hhp, hT]; exact Nat.le_refl _) (msg := .ref sa) rfl
    (g := { method := m, pc := pc + 6, locals := ls, stack := .ref sa :: .ref T.heap.size :: .ref T.heap.size :: rest, locked := none }) rfl hsize rfl rfl (rest := rest) rfl
    (by rw [hb]; exact d6) (by rw [hb]; exact d9) hout hRframes (by simp only [List.map_cons, List.sum_cons, hcat]; omega) hlocks
  obtain ⟨f1, f2⟩ := vx_frame hsame
  rw [hhp] at f1 f2
  have hWs : s.WarmedH U.vm := State.WarmedH.trans hW0 hW
  have hcl : s.vm.findClass cls = some ce.cls := by
    have h9 := hO.cls
    rw [hvm] at h9
    exact h9
  have hall : s.sameButNew ({ U with vm := s.vm } : State) locs mc ms := by
    subst hA
    obtain ⟨e1, e2⟩ := hsame
    rw [State.setFrames_setFrames] at e1
    have h2 : (T.setVm s.vm).sameButNew ({ U with vm := s.vm } : State) [] (0 + 1) (0 + 6) := ⟨e1, e2⟩
    have h3 := X.same.trans h2
    rw [List.append_nil] at h3
    exact h3.mono hc hs
  refine ⟨U, ?_, .threw T.heap.size, hrun, hend, Or.inr ⟨T.heap.size, rfl, cls, ce, locs, hx U hWs.alike f1 (fun q hq => f2 q hq (fun z hz => nomatch hz)), hce, hO.vm, hcl, hWs, hall, hf⟩⟩
  refine st1 _ ?_
  show Steps p.tables e below (T1.setTop { method := m, pc := pc + 3, locals := ls, stack := .ref T.heap.size :: rest, locked := none }) _
  jvm_step X₁.here [X₁.here.top, hexec, d3', Value.category]
  exact X₁.ldcString hexec (own := own) (text := text) (index := is) (a := sa) hown' hstr'.1 hstr'.2
    (g := { method := m, pc := pc + 4, locals := ls, stack := .ref T.heap.size :: .ref T.heap.size :: rest, locked := none }) rfl d4' _ hsteps
/-- 'throw new E("text")', the text by a wide index -/
theorem vx_throwSW {cc : ByteArray} {pc : Nat} (hexec : p.tables.exec = Jvm.exec) (hb : c.code = cc) (hl : l.stackTraces = false) {own cls text : String} {names : List String} {ik is ic mc ms sa : Nat} {A : Nat → Prop}
    (hown : s.vm.findClass own = some m.cls) (hcls : Bundle.fit cls = true) (hnames : ∀ n ∈ names, Bundle.fit n = true)
    (hk : (Cond.classLink own ik cls).before args s = true) (hini : (Cond.initialized cls).before args s = true) (hstr : vk_R own is text sa s) (hat : ∀ w ∈ vx_atS own ic cls names, w.before args s = true)
    (hgood : ∀ w ∈ Cond.classLink own ik cls :: Cond.initialized cls :: vx_atS own ic cls names, vx_ot w = true)
    (hU : vx_Zq Bundle.tN "UNASSIGNED_STACK" Bundle.steD A s s.heap) (hN : vx_Zq Bundle.tN "SUPPRESSED_SENTINEL" Bundle.listD A s s.heap) (hS : va_S A s.heap H locs) (hsize : ls.size = c.maxLocals)
    (d0 : decode cc pc = .ok (.new ik, 3)) (d3 : decode cc (pc + 3) = .ok (.dup, 1)) (d4 : decode cc (pc + 4) = .ok (.ldc_w is, 3)) (d7 : decode cc (pc + 7) = .ok (.invokespecial ic, 3)) (d10 : decode cc (pc + 10) = .ok (.athrow, 1))
    (hout : ∀ x ∈ c.exceptionTable.toList, covers x (pc + 10) = false)
    (hRframes : names.length + 3 < R.frames) (hRlocals : (rest.map fun v => v.category).sum + (13 * (names.length + 1) + 43) ≤ R.locals) (hRcells : cells + 1 ≤ R.cells) (hRslots : slots + 6 ≤ R.slots) (hlocks : meth.locks = false)
    (hx : ∀ t : State, s.vm.Alike t.vm → H.size ≤ t.heap.size → (∀ q : Nat, q < H.size → t.heap[q]? = H[q]?) → XC cls s t)
    (hf : ∀ z ∈ locs, free z.base) (hc : cells + 1 ≤ mc) (hs : slots + 6 ≤ ms) :
    W p l e R s m args below meth c H locs cells slots (vx_MQ below Qc XC args s mc ms free) (F0 m pc ls rest) := by
  intro T hT X
  have htr : e.platform.stackTraces = false := (show e.platform.stackTraces = l.stackTraces by rw [X.admits.platform]).trans hl
  have Y := vx_rebase X (R' := { frames := R.frames, locals := R.locals, cells := 1, slots := 6 }) (Nat.le_refl _) (Nat.le_refl _) hRcells hRslots
  obtain ⟨s', hA⟩ : ∃ z, z = (T.setVm s.vm).setFrames (.invoking m args :: below) := ⟨_, rfl⟩
  rw [← hA] at Y
  have hvm : s'.vm = s.vm := by rw [hA]; rfl
  have hhp : s'.heap = H := by rw [hA]; exact hT
  have hW0 : s.WarmedH s'.vm := by rw [hvm]; exact State.WarmedH.refl s
  have hat' : ∀ w ∈ vx_atS own ic cls names, w.before args s' = true := fun w hw => vx_ot_at hW0 hvm.symm (hgood w (List.mem_cons_of_mem _ (List.mem_cons_of_mem _ hw))) (hat w hw)
  have hk' : (Cond.classLink own ik cls).before args s' = true := vx_ot_at hW0 hvm.symm (hgood _ List.mem_cons_self) hk
  have hini' : (Cond.initialized cls).before args s' = true := vx_ot_at hW0 hvm.symm (hgood _ (List.mem_cons_of_mem _ List.mem_cons_self)) hini
  have hU' : vx_Zq Bundle.tN "UNASSIGNED_STACK" Bundle.steD A s' s'.heap := by rw [hhp]; exact vx_Zq.moved hW0.alike (hU.kept hS.2.1)
  have hN' : vx_Zq Bundle.tN "SUPPRESSED_SENTINEL" Bundle.listD A s' s'.heap := by rw [hhp]; exact vx_Zq.moved hW0.alike (hN.kept hS.2.1)
  have h : ∀ w ∈ Bundle.ownAtoms own ic cls names, w.before args s' = true := vx_own hat' (vx_isRefq hU'.1) (vx_isRefq hN'.1) hU'.2.word hN'.2.word
  have hown' : s'.vm.findClass own = some m.cls := by rw [hvm]; exact hown
  have hins : (Cond.instantiable cls 6).before args s' = true := h _ (by simp [Bundle.ownAtoms])
  obtain ⟨vm₁, cX, kX, hfX, hkX, -, -, X₁, st1⟩ := Y.newCold hexec (own := own) (C := cls) (index := ik) (n := 6) hown' hk' hins hini'
    (g := F0 m pc ls rest) rfl (by rw [hb]; exact d0) (Nat.le_refl _) (Nat.le_refl _)
  generalize hT1 : (T.setVm vm₁).pushCell { cls := cX, slots := kX.instanceTypes.map defaultValue, vm := .none } = T1 at X₁ st1
  have hcat : (Value.ref T.heap.size).category = 1 := rfl
  have hcellA : T1.heap[T.heap.size]? = some (freshCell cX kX) := by rw [← hT1]; exact State.heap_pushCell_size _ _
  have d3' : decode c.code (pc + 3) = .ok (.dup, 1) := by rw [hb]; exact d3
  have d4' : decode c.code (pc + 4) = .ok (.ldc_w is, 3) := by rw [hb]; exact d4
  have hstr' : vk_R own is text sa s' := vk_R.warm hW0 hstr
  obtain ⟨U, hsteps, hrun, hend, hW, hsame, ce, hce, hO⟩ := X₁.ctorThrowS hexec htr (own := own) (cls := cls) (names := names) (ic := ic) hown' hcls hnames h (fun x hx => nomatch hx) hfX hkX hcellA (by rw [hhp, hT]; exact Nat.le_refl _) (msg := .ref sa) rfl
    (g := { method := m, pc := pc + 7, locals := ls, stack := .ref sa :: .ref T.heap.size :: .ref T.heap.size :: rest, locked := none }) rfl hsize rfl rfl (rest := rest) rfl
    (by rw [hb]; exact d7) (by rw [hb]; exact d10) hout hRframes (by simp only [List.map_cons, List.sum_cons, hcat]; omega) hlocks
  obtain ⟨f1, f2⟩ := vx_frame hsame
  rw [hhp] at f1 f2
  have hWs : s.WarmedH U.vm := State.WarmedH.trans hW0 hW
  have hcl : s.vm.findClass cls = some ce.cls := by
    have h9 := hO.cls
    rw [hvm] at h9
    exact h9
  have hall : s.sameButNew ({ U with vm := s.vm } : State) locs mc ms := by
    subst hA
    obtain ⟨e1, e2⟩ := hsame
    rw [State.setFrames_setFrames] at e1
    have h2 : (T.setVm s.vm).sameButNew ({ U with vm := s.vm } : State) [] (0 + 1) (0 + 6) := ⟨e1, e2⟩
    have h3 := X.same.trans h2
    rw [List.append_nil] at h3
    exact h3.mono hc hs
  refine ⟨U, ?_, .threw T.heap.size, hrun, hend, Or.inr ⟨T.heap.size, rfl, cls, ce, locs, hx U hWs.alike f1 (fun q hq => f2 q hq (fun z hz => nomatch hz)), hce, hO.vm, hcl, hWs, hall, hf⟩⟩
  refine st1 _ ?_
  show Steps p.tables e below (T1.setTop { method := m, pc := pc + 3, locals := ls, stack := .ref T.heap.size :: rest, locked := none }) _
  jvm_step X₁.here [X₁.here.top, hexec, d3', Value.category]
  exact X₁.ldcStringW hexec (own := own) (text := text) (index := is) (a := sa) hown' hstr'.1 hstr'.2
    (g := { method := m, pc := pc + 4, locals := ls, stack := .ref T.heap.size :: .ref T.heap.size :: rest, locked := none }) rfl d4' _ hsteps
end Ends
section Bodies
variable {l : Launch}
theorem vx_ofW {y : MethodName} {ws ws' : List Cond} {rm : Room} {Pc : Array Value → State → Prop} {Qc : Array Value → State → Outcome → State → Prop} {XC : String → State → State → Prop} {mc ms : Nat} {free : Addr → Prop} {cc : ByteArray} {maxL : Nat} {ret : Option FieldType}
    (hy : plainName y.cls = true) (hw : ws = Cond.code y cc maxL ret :: ws')
    (body : ∀ p e s m args below meth c s₁, BodyLoose p l y (headSpec ws rm) cc maxL ret e s m args below meth c s₁ → c.maxLocals = maxL → (∀ x ∈ c.exceptionTable.toList, False) → Pc args s →
      W p l e (headSpec ws rm).room s m args below meth c s.heap [] 0 0 (vx_MQ below Qc XC args s mc ms free) (entryFrame m args maxL)) : vx_Met l y ws rm Pc Qc XC mc ms free := by
  refine MetFree.of_bodyS (code := cc) (maxLocals := maxL) (ret := ret) hy ?_ ?_
  · intro args s m h hn
    obtain ⟨meth, c, h1, h2, h3, h4, h5, h6, -, -⟩ := Cond.code_spec hn (atoms_spec (ws := ws) h _ (by rw [hw]; exact List.mem_cons_self))
    exact ⟨meth, c, h1, h2, h3, h4, h5, h6⟩
  · intro p e s m args below meth c s₁ B hml hP _
    have hh0 : s₁.heap = s.heap := by rw [B.state]; rfl
    have ht : ∀ x ∈ c.exceptionTable.toList, False := by
      obtain ⟨meth9, c9, h1, h2, -, -, -, -, h7, -⟩ := Cond.code_spec B.named (atoms_spec (ws := ws) B.pre _ (by rw [hw]; exact List.mem_cons_self))
      cases Option.some.inj (h1.symm.trans B.method)
      cases Option.some.inj (h2.symm.trans (Stand.of_body B).code)
      intro x hx
      rw [Array.isEmpty_iff.mp h7] at hx
      cases hx
    obtain ⟨t, a1, o, b1, b2, b3⟩ := body p e s m args below meth c s₁ B hml ht hP s₁ hh0 (Stand.of_body B)
    exact ⟨t, o, a1, b1, b2, b3⟩
/-- the table of a body with handlers -/
theorem vx_table {p : Program} {x y : MethodName} {S : Spec} {cc bytes : ByteArray} {maxL maxL' : Nat} {ret ret' : Option FieldType} {e : Env} {s s₁ : State} {m : MethodId} {args : Array Value} {below : List Frame} {meth : Method} {c : Code} {hh : List (Nat × Nat × Nat × Nat)}
    (B : BodyLoose p l y S cc maxL ret e s m args below meth c s₁) (h : (Cond.codeWith y bytes maxL' ret' hh).before args s = true) : c.exceptionTable.toList = tableOf hh := by
  obtain ⟨m9, meth9, c9, hn9, h1, h2, -, -, h6, -⟩ := Cond.codeWith_spec h
  cases Option.some.inj (hn9.symm.trans B.named)
  cases Option.some.inj (h1.symm.trans B.method)
  cases Option.some.inj (h2.symm.trans (Stand.of_body B).code)
  rw [← h6, table_eq]
end Bodies
end VXA
/-! ===== END ===== -/
/-! ===== BEGIN a static call of a method with an exception table ===== -/
section VXS
variable {p : Program} {l : Launch} {e : Env} {R : Room} {s : State} {m : MethodId} {args : Array Value} {below : List Frame} {meth : Method} {c : Code} {T : State} {H : Heap} {locs : List Loc} {cells slots : Nat}
abbrev vx_CSW (R : Room) (s : State) (args : Array Value) (own : String) (index : Nat) (y : MethodName) (bytes : ByteArray) (maxL : Nat) (ret : Option FieldType) (hh : List (Nat × Nat × Nat × Nat)) (ws : List Cond) (rm : Room) (mc ms n : Nat) : Prop :=
  (rm.cells = mc ∧ rm.slots = ms ∧ rm.frames + 1 ≤ R.frames ∧ 8 + (maxL + 11) + rm.locals ≤ R.locals ∧ (∀ w ∈ ws, ∀ (a' : Array Value) (U : State), s.WarmedH U.vm → w.before a' U = true) ∧ Cond.codeWith y bytes maxL ret hh ∈ ws) ∧
  (Cond.codeWith y bytes maxL ret hh).before args s = true ∧ (Cond.initialized y.cls).before args s = true ∧ (y.cls ≠ "java/lang/invoke/MethodHandle" ∧ y.cls ≠ "java/lang/invoke/VarHandle") ∧
  (∀ sig, parseMethodDescriptor y.desc = some sig → n = sig.parameters.length) ∧ (Cond.methodLink own index y).before args s = true ∧ (Cond.static y).before args s = true
theorem vx_cwSW {own : String} {index maxL mc ms : Nat} {y : MethodName} {bytes : ByteArray} {ret : Option FieldType} {hh : List (Nat × Nat × Nat × Nat)} {Ts ws ws' : List Cond} {rm : Room} (n : Nat) (ht : ∀ w ∈ Ts, w.before args s = true) (hT : GoodIn Ts (va_wsS own index y ws)) (hw : ws = Cond.codeWith y bytes maxL ret hh :: ws') (hrc : rm.cells = mc) (hrs : rm.slots = ms)
    (hd : y.cls ≠ "java/lang/invoke/MethodHandle" ∧ y.cls ≠ "java/lang/invoke/VarHandle" ∧ (parseMethodDescriptor y.desc).map (fun d => d.parameters.length) = some n) (hR : rm.frames + 1 ≤ R.frames ∧ 8 + (maxL + 11) + rm.locals ≤ R.locals) :
    vx_CSW R s args own index y bytes maxL ret hh ws rm mc ms n := by
  have ok : ∀ w ∈ va_wsS own index y ws, w.before args s = true := fun w h => ht w (hT w h).1
  have hG : GoodIn Ts ws := fun w h => hT w (by unfold va_wsS; exact List.mem_append_right _ h)
  have hc : Cond.codeWith y bytes maxL ret hh ∈ ws := by rw [hw]; exact List.mem_cons_self
  refine ⟨⟨hrc, hrs, hR.1, hR.2, pay_in ht hG, hc⟩, ht _ (hG _ hc).1, ok _ (by simp [va_wsS]), ⟨hd.1, hd.2.1⟩, fun sig h => ?_, ok _ (by simp [va_wsS]), ok _ (by simp [va_wsS])⟩
  have h2 := hd.2.2
  rw [h] at h2
  exact (Option.some.inj h2).symm
theorem vx_callSW (X : Stand p l e R s m args below meth c T locs cells slots) (hexec : p.tables.exec = Jvm.exec) {own : String} {index : Nat} {y : MethodName} {bytes : ByteArray} {maxL : Nat} {ret : Option FieldType} {hh : List (Nat × Nat × Nat × Nat)}
    (hown : s.vm.findClass own = some m.cls) (hlink : (Cond.methodLink own index y).before args s = true) (hstat : (Cond.static y).before args s = true) (hinit : (Cond.initialized y.cls).before args s = true)
    (hcode : (Cond.codeWith y bytes maxL ret hh).before args s = true) (hy : y.cls ≠ "java/lang/invoke/MethodHandle" ∧ y.cls ≠ "java/lang/invoke/VarHandle")
    {W9 : Nat} {Pre : Pt → Array Value → Prop} {Post : Pt → Array Value → Option Value → Pt → Prop} (hK : Back l R p e below s args y 3 W9 Pre Post)
    {g : JFrame} (hg : g.method = m) (hsize : g.locals.size = c.maxLocals) {argsL rest : List Value} (hlen : ∀ sig, parseMethodDescriptor y.desc = some sig → argsL.length = sig.parameters.length)
    (hstack : g.stack = argsL.reverse ++ rest) (hW : 2 * g.monitorRoom + (rest.map fun v => v.category).sum ≤ W9) (hdg : decode c.code g.pc = .ok (.invokestatic index, 3))
    (hpre : ∀ vm₁, s.WarmedH vm₁ → Pre ⟨T.setVm vm₁, locs, cells, slots⟩ argsL.toArray) :
    ∃ (v : Option Value) (vm₁ : Vm) (B : Pt), s.WarmedH vm₁ ∧ Stand p l e R s m args below meth c B.U B.locs B.cells B.slots ∧ Post ⟨T.setVm vm₁, locs, cells, slots⟩ argsL.toArray v B ∧
      ∀ target, Steps p.tables e below (B.U.setTop { g with pc := g.pc + 3, stack := v.toList ++ rest }) target → Steps p.tables e below (T.setTop g) target := by
  obtain ⟨mk, methM, cM, hnamed, hmethM, -, -, -, -, -, -, hsigM⟩ := Cond.codeWith_spec hcode
  have hstatic : methM.isStatic = true := Cond.static_spec hnamed hmethM hstat
  obtain ⟨kP, hkP, -⟩ := className_of_methodNamed hnamed
  have hinitP : kP.init = .initialized := Cond.initialized_spec (findClass_of_methodNamed hnamed) hkP hinit
  obtain ⟨vm₁, X₁, hstep₁⟩ := X.invokestatic hexec hown hlink hnamed hmethM hstatic hkP hinitP hy (g := g) hg (argsL := argsL) (rest := rest) (hlen _ hsigM) hstack hdg
  obtain ⟨v, B, X', hpost, hsteps⟩ := hK m meth c ⟨T.setVm vm₁, locs, cells, slots⟩ { g with stack := rest } (.invokestatic index) mk argsL.toArray X₁ hg hsize hdg hW (X₁.named hnamed) (hpre vm₁ X₁.warmed)
  exact ⟨v, vm₁, B, X₁.warmed, X', hpost, fun target h => hstep₁ _ fun acts => by rw [doInvoke_state]; exact hsteps.trans h⟩
theorem vx_runSW {y : MethodName} {bytes cc : ByteArray} {maxL nL mc ms n index : Nat} {ret : Option FieldType} {hh : List (Nat × Nat × Nat × Nat)} {ws : List Cond} {rm : Room} {Pc : Array Value → State → Prop} {Qc : Array Value → State → Outcome → State → Prop} {free : Addr → Prop} {Ts : List Cond} {own : String} {As rest : List Value} {g : JFrame}
    (S : CallFix p m c cc nL s args Ts own) (hM : Met l y ws rm Pc Qc mc ms free) (cw : vx_CSW R s args own index y bytes maxL ret hh ws rm mc ms n) (hp : PreS s H Pc As)
    (hg : g.method = m) (hn : As.length = n) (hsize : g.locals.size = nL) (hstack : g.stack = As.reverse ++ rest) (hW : 2 * g.monitorRoom + (rest.map fun v => v.category).sum ≤ 8) (hdg : decode cc g.pc = .ok (.invokestatic index, 3)) (hf : cells + mc ≤ R.cells ∧ slots + ms ≤ R.slots) :
    va_Run p l e R s m args below meth c H locs cells slots mc ms g rest (Qc As.toArray) (free) := by
  obtain ⟨⟨hrc, hrs, hfr, hlo, hws, hcw⟩, hcode, hini, hy, hlen, hl, hstt⟩ := cw
  have hK : Back l R p e below s args y 3 8 (PreOf R mc ms Pc) (PostOf Qc mc ms free) := va_backW (hh := hh) (bytes := bytes) (maxL := maxL) (ret := ret) hM hp.1 hrc hrs hfr hlo hws hcw (fun a' U hW => word_at hW (Or.inl (by first | rfl | simp [Cond.onTables, Cond.keeps, Cond.steady])) hini)
  obtain ⟨hx, hb, hml, ho, -⟩ := S
  intro T hT X
  obtain ⟨v, vm₁, ⟨U', l2, c2, s2⟩, hW₁, X', ⟨g', mk, t, L, e1, e2, hq, h1, hL, h2, h3⟩, st⟩ := vx_callSW X hx (hh := hh) (bytes := bytes) (maxL := maxL) (ret := ret) ho hl hstt hini hcode hy hK hg (hsize.trans hml.symm) (argsL := As) (rest := rest) (fun sig h => hn.trans (hlen sig h)) hstack hW (by rw [hb]; exact hdg)
    (fun vm₁ hW₁ => ⟨hf.1, hf.2, hp.2 (T.setVm vm₁) hT hW₁⟩)
  dsimp only [Pt.U, Pt.locs, Pt.cells, Pt.slots] at X' e1 e2 h1 h2 h3 st
  subst h1; subst h2; subst h3
  exact ⟨v, (T.setVm vm₁).calling g' mk As.toArray, t, U', L, hT, X', hL, e1, e2, hq, st⟩
/-- not caught here, past rows that name other classes: it goes on to the caller -/
theorem vx_outP {p : Program} {l : Launch} {e : Env} {R : Room} {s : State} {m : MethodId} {args : Array Value} {below : List Frame} {meth : Method} {c : Code} {H : Heap} {locs : List Loc} {cells slots : Nat} {free : Addr → Prop} {ls : Array Slot} {rest : List Value} {Qc : Array Value → State → Outcome → State → Prop} {XC : String → State → State → Prop}
    {pc : Nat} {own E : String} {ce : Cell} {q : Addr} {mc ms : Nat} (hown : s.vm.findClass own = some m.cls) (hlocks : meth.locks = false)
    (hpass : ∀ z ∈ c.exceptionTable.toList, covers z pc = false ∨ (z.catchType ≠ 0 ∧ ∃ nm : String, (Cond.classLink own z.catchType nm).before args s = true ∧ va_Nc E nm s)) (hcell : H[q]? = some ce) (hv : ce.vm = .none) (hcl : s.vm.findClass E = some ce.cls)
    (hx : ∀ t : State, t.heap = H → s.vm.Alike t.vm → XC E s t) (hf : ∀ z ∈ locs, free z.base) (hc : cells ≤ mc) (hs : slots ≤ ms) :
    vx_W p l e R s m args below meth c H locs cells slots (vx_MQ below Qc XC args s mc ms free) (F0 m pc ls rest) q := by
  intro T hT X
  have hpl : e.platform.magicAccessors = ({} : Platform).magicAccessors := by rw [X.admits.platform]
  obtain ⟨vm', hW', X', st⟩ := X.outThrough hlocks q (g := F0 m pc ls rest) rfl rfl rfl (cell := ce) (by rw [hT]; exact hcell) (by rw [hv]; rfl)
    (by obtain ⟨k9, h9, -⟩ := Vm.findClass_spec hcl; exact ⟨k9, h9⟩) (fun z hz => by
      rcases hpass z hz with h | ⟨hz0, nm, hl1, hn1⟩
      · exact Or.inl h
      · obtain ⟨c6, hc6, hcl6⟩ := Cond.classLink_spec hown hl1 e.platform hpl
        obtain ⟨a8, b8, h1, h2, h3⟩ := hn1
        cases Option.some.inj (h1.symm.trans hcl)
        cases Option.some.inj (h2.symm.trans hc6)
        exact Or.inr ⟨hz0, _, hcl6, h3⟩)
  obtain ⟨g₀, hfr⟩ := X'.frames_eq
  have hcell9 : ((T.setVm vm').setFrames (.throwing q :: below)).heap[q]? = some ce := by
    show T.heap[q]? = some ce
    rw [hT]; exact hcell
  have hend : Ended ((T.setVm vm').setFrames (.throwing q :: below)) below (.threw q) := State.frames_setFrames _ (State.cur_lt_of_frames hfr)
  refine ⟨(T.setVm vm').setFrames (.throwing q :: below), ?_, .threw q, X'.here.running, hend, Or.inr ⟨q, rfl, E, ce, locs, hx _ hT (X'.ends _).1.alike, hcell9, hv, hcl, (X'.ends _).1, (X'.ends _).2.mono hc hs, hf⟩⟩
  rw [X.pushThrowing_eq]
  exact st
/-- a thing of a world lies in the heap -/
theorem vx_lt {D : va_G} {cl : List vw_C} {ws : va_W} {H1 : Heap} (h : va_P D cl ws H1) {k : Nat} {q : Nat × va_E} (hk : ws[k]? = some q) : q.1 < H1.size := (h k q hk).lt
end VXS
/-! ===== END ===== -/
/-! ===== BEGIN methods with a table of their own: called by a name, returning or throwing ===== -/
section VXH
/-! vx_backW, vx_callVX, vx_callSX, vx_callVW, vx_runVW, vx_runVX, vx_runSX, vx_ofWH follow the same proofs as their sisters above (Free/Laws.lean, Shelf42/LK1.lean); vx_outP calls Shelf42/NT130.lean (outThrough). -/
section
variable {l : Launch} {R : Room} {p : Program} {e : Env} {below : List Frame} {s : State} {sargs : Array Value} {y : MethodName} {len W9 : Nat}
theorem vx_backW {ws : List Cond} {rm : Room} {Pc : Array Value → State → Prop} {Qc : Array Value → State → Outcome → State → Prop} {XC : String → State → State → Prop} {mc ms : Nat} {free : Addr → Prop} {bytes : ByteArray} {maxL : Nat} {ret : Option FieldType} {hh : List (Nat × Nat × Nat × Nat)}
    (hM : vx_Met l y ws rm Pc Qc XC mc ms free) (hblind : FrameBlind Pc) (hrc : rm.cells = mc) (hrs : rm.slots = ms)
    (hframes : rm.frames + 1 ≤ R.frames) (hlocals : W9 + (maxL + 11) + rm.locals ≤ R.locals)
    (hws : ∀ w ∈ ws, ∀ a' U, s.WarmedH U.vm → w.before a' U = true) (hcode : Cond.codeWith y bytes maxL ret hh ∈ ws) (hinit : ∀ a' U, s.WarmedH U.vm → (Cond.initialized y.cls).before a' U = true) :
    vx_Back l R p e below s sargs y len W9 (PreOf R mc ms Pc) (PostOf Qc mc ms free) (vx_Post XC mc ms free) := by
  intro m meth c A g ig mk a X hg hsize hdg hW hn hp
  have h1 : (headSpec ws rm).pre.before a A.U = true := atoms_intro fun w hw => hws w hw _ _ X.warmed
  have h2 : (Cond.codeWith y bytes maxL ret hh).before a A.U = true := hws _ hcode _ _ X.warmed
  have h3 : (Cond.initialized y.cls).before a A.U = true := hinit _ _ X.warmed
  have h4 : A.cells + (headSpec ws rm).room.cells ≤ R.cells := by rw [show (headSpec ws rm).room.cells = mc from hrc]; exact hp.1
  have h5 : A.slots + (headSpec ws rm).room.slots ≤ R.slots := by rw [show (headSpec ws rm).room.slots = ms from hrs]; exact hp.2.1
  have hPc : Pc a (A.U.calling g mk a) := hblind _ _ _ _ hp.2.2
  obtain ⟨U, Ls, c0, s0⟩ := A
  dsimp only [Pt.U, Pt.locs, Pt.cells, Pt.slots] at h1 h2 h3 h4 h5 X hn hPc ⊢
  obtain ⟨m9, methY, cY, hn9, hmY, hcY, -, hlY, -⟩ := Cond.codeWith_spec h2
  cases Option.some.inj (hn9.symm.trans hn)
  obtain ⟨kY, hkY, -⟩ := className_of_methodNamed hn
  have hinitY : kY.init = .initialized := Cond.initialized_spec (findClass_of_methodNamed hn) hkY h3
  have h : At U g.method c below := by rw [hg]; exact X.here
  have hlocals9 : W9 + (maxL + 11) + (headSpec ws rm).room.locals ≤ R.locals := hlocals
  have happ : (headSpec ws rm).appliesLoose y e.platform (U.calling g mk a) = true :=
    Spec.appliesLoose_calling (g := g) h hdg hn hkY hinitY
      (X.room_calling (g := g) (R' := (headSpec ws rm).room) hsize hmY hcY hframes (by rw [hlY]; omega) h4 h5) h1
  obtain ⟨mid, hmid⟩ := h.above
  have hfr : (U.setTop g).frames = (.java g :: mid) ++ below := by rw [State.frames_setTop' g h.top, hmid]; rfl
  obtain ⟨o, s₂, hsteps, -, hend, hq⟩ := Steps.callFree hM p X.admits X.cas X.clock (acts := []) hfr happ hPc trivial
  have hq' : vx_Q Qc XC mc ms free a (U.calling g mk a) o s₂ := hq
  rw [State.frames_setTop' g h.top] at hend
  obtain ⟨g₀, hg0⟩ := Option.isSome_iff_exists.mp h.top
  obtain ⟨r, hr⟩ := State.topJava?_eq_some.mp hg0
  have hr' : (({ U with heap := s₂.heap, slotsUsed := s₂.slotsUsed } : State).setVm s₂.vm).frames = .java g₀ :: r := hr
  rcases hq' with ⟨hqc, L, hfe, hL⟩ | ⟨q, rfl, E, ce, L, hx, hce, hcv, hcl, hW₂, hsm, hL⟩
  · obtain ⟨⟨v, rfl⟩, hW₂, e2, q2, q3, q4, q5, q6⟩ := id hfe
    have e3 : s₂ = ({ (U.calling g mk a).setFrames s₂.frames with heap := s₂.heap, slotsUsed := s₂.slotsUsed } : State).setVm s₂.vm := by
      have : s₂ = ({ s₂ with vm := (U.calling g mk a).vm } : State).setVm s₂.vm := rfl
      rw [e2] at this
      exact this
    obtain ⟨c₂, i₂, len₂, hc₂, hd₂, hf₂⟩ := hend
    have hW' : U.WarmedH s₂.vm := hW₂
    have hcc : c₂ = c := by
      have h1 : s₂.code? g.method = U.code? g.method := by
        rw [State.code?_eq, State.code?_eq, hW'.alike.method?]
      exact Option.some.inj (hc₂.symm.trans (h1.trans h.code))
    subst hcc
    have hlen : len₂ = len := by rw [hdg] at hd₂; cases hd₂; rfl
    subst hlen
    have hs₂ : s₂ = (({ U with heap := s₂.heap, slotsUsed := s₂.slotsUsed } : State).setVm s₂.vm).setTop { g with pc := g.pc + len₂, stack := v.toList ++ g.stack } := by
      refine e3.trans ?_
      rw [hf₂, State.calling_eq h.top, State.setFrames_setFrames, State.setTop_of_frames _ hr', hr]
      rfl
    have hsame : U.sameButNew ({ U with heap := s₂.heap, slotsUsed := s₂.slotsUsed } : State) L mc ms := by
      refine ⟨?_, q2, q3, q4, q5, q6⟩
      obtain ⟨t, ht, -⟩ := State.frames_cons hr
      show ({ U with heap := s₂.heap, slotsUsed := s₂.slotsUsed } : State) = { U.setFrames U.frames with heap := s₂.heap, slotsUsed := s₂.slotsUsed }
      rw [State.setFrames_self ht]
    subst hg
    refine Or.inl ⟨v, ⟨(({ U with heap := s₂.heap, slotsUsed := s₂.slotsUsed } : State).setVm s₂.vm), Ls ++ L, c0 + mc, s0 + ms⟩,
      ⟨X.admits, X.cas, X.clock, X.frames, X.room, X.hears, X.method, X.code, (X.here.setHeapUsed s₂.heap s₂.slotsUsed).setVm hW'.alike, X.tail, State.WarmedH.trans X.warmed hW', X.limits, X.bytes, X.same.trans (hsame.setVm s.vm)⟩,
      ⟨g, mk, s₂, L, rfl, rfl, hqc, rfl, hL, rfl, rfl⟩, ?_⟩
    show Steps p.tables e below _ ((({ U with heap := s₂.heap, slotsUsed := s₂.slotsUsed } : State).setVm s₂.vm).setTop { g with pc := g.pc + len₂, stack := v.toList ++ g.stack })
    rw [← hs₂]
    exact hsteps
  · obtain ⟨e2, q2, q3, q4, q5, q6⟩ := id hsm
    have e3 : s₂ = ({ (U.calling g mk a).setFrames s₂.frames with heap := s₂.heap, slotsUsed := s₂.slotsUsed } : State).setVm s₂.vm := by
      have : s₂ = ({ s₂ with vm := (U.calling g mk a).vm } : State).setVm s₂.vm := rfl
      rw [e2] at this
      exact this
    have hf₂ : s₂.frames = .throwing q :: .java g :: U.frames.tail := hend
    have hW' : U.WarmedH s₂.vm := hW₂
    have hs₂ : s₂ = ((({ U with heap := s₂.heap, slotsUsed := s₂.slotsUsed } : State).setVm s₂.vm).setTop g).pushFrame (.throwing q) := by
      refine e3.trans ?_
      rw [hf₂, State.calling_eq h.top, State.setFrames_setFrames, State.pushFrame, State.frames_setTop _ hr', State.setTop_of_frames _ hr', State.setFrames_setFrames, hr]
      rfl
    have hsame : U.sameButNew ({ U with heap := s₂.heap, slotsUsed := s₂.slotsUsed } : State) L mc ms := by
      refine ⟨?_, q2, q3, q4, q5, q6⟩
      obtain ⟨t, ht, -⟩ := State.frames_cons hr
      show ({ U with heap := s₂.heap, slotsUsed := s₂.slotsUsed } : State) = { U.setFrames U.frames with heap := s₂.heap, slotsUsed := s₂.slotsUsed }
      rw [State.setFrames_self ht]
    subst hg
    refine Or.inr ⟨q, ⟨(({ U with heap := s₂.heap, slotsUsed := s₂.slotsUsed } : State).setVm s₂.vm), Ls ++ L, c0 + mc, s0 + ms⟩,
      ⟨X.admits, X.cas, X.clock, X.frames, X.room, X.hears, X.method, X.code, (X.here.setHeapUsed s₂.heap s₂.slotsUsed).setVm hW'.alike, X.tail, State.WarmedH.trans X.warmed hW', X.limits, X.bytes, X.same.trans (hsame.setVm s.vm)⟩,
      ⟨g, mk, s₂, L, E, ce, rfl, rfl, hx, hce, hcv, hcl, rfl, hL, rfl, rfl⟩, ?_⟩
    show Steps p.tables e below _ (((({ U with heap := s₂.heap, slotsUsed := s₂.slotsUsed } : State).setVm s₂.vm).setTop g).pushFrame (.throwing q))
    rw [← hs₂]
    exact hsteps
end
variable {p : Program} {l : Launch} {e : Env} {R : Room} {s : State} {m : MethodId} {args : Array Value} {below : List Frame} {meth : Method} {c : Code} {T : State} {H : Heap} {locs : List Loc} {cells slots : Nat}
theorem vx_callVX (X : Stand p l e R s m args below meth c T locs cells slots) (hexec : p.tables.exec = Jvm.exec) {own C : String} {index : Nat} {y : MethodName} {bytes : ByteArray} {maxL : Nat} {ret : Option FieldType} {hh : List (Nat × Nat × Nat × Nat)}
    (hown : s.vm.findClass own = some m.cls) (hlink : (Cond.methodLink own index y).before args s = true) (hinst : (Cond.instanceMethod y).before args s = true) (hsel : (Cond.selects C y y).before args s = true)
    (hcode : (Cond.codeWith y bytes maxL ret hh).before args s = true) (hy : y.cls ≠ "java/lang/invoke/MethodHandle" ∧ y.cls ≠ "java/lang/invoke/VarHandle")
    {W9 : Nat} {Pre : Pt → Array Value → Prop} {Post : Pt → Array Value → Option Value → Pt → Prop} {PostX : Pt → Array Value → Addr → Pt → Prop} (hK : vx_Back l R p e below s args y 3 W9 Pre Post PostX)
    {b : Addr} {cellB : Cell} (hcell : T.heap[b]? = some cellB) (hobj : cellB.vm.isStatics = false) (hcls : s.vm.findClass C = some cellB.cls)
    {g : JFrame} (hg : g.method = m) (hsize : g.locals.size = c.maxLocals) {argsL rest : List Value} (hlen : ∀ sig, parseMethodDescriptor y.desc = some sig → argsL.length = sig.parameters.length)
    (hstack : g.stack = argsL.reverse ++ .ref b :: rest) (hW : 2 * g.monitorRoom + (rest.map fun v => v.category).sum ≤ W9) (hdg : decode c.code g.pc = .ok (.invokevirtual index, 3))
    (hpre : ∀ vm₁, s.WarmedH vm₁ → Pre ⟨T.setVm vm₁, locs, cells, slots⟩ (Value.ref b :: argsL).toArray) :
    (∃ (v : Option Value) (vm₁ : Vm) (B : Pt), s.WarmedH vm₁ ∧ Stand p l e R s m args below meth c B.U B.locs B.cells B.slots ∧ Post ⟨T.setVm vm₁, locs, cells, slots⟩ (Value.ref b :: argsL).toArray v B ∧
      ∀ target, Steps p.tables e below (B.U.setTop { g with pc := g.pc + 3, stack := v.toList ++ rest }) target → Steps p.tables e below (T.setTop g) target) ∨
    (∃ (q : Addr) (vm₁ : Vm) (B : Pt), s.WarmedH vm₁ ∧ Stand p l e R s m args below meth c B.U B.locs B.cells B.slots ∧ PostX ⟨T.setVm vm₁, locs, cells, slots⟩ (Value.ref b :: argsL).toArray q B ∧
      Steps p.tables e below (T.setTop g) ((B.U.setTop { g with stack := rest }).pushFrame (.throwing q))) := by
  obtain ⟨mk, methM, hnamed, hmethM, hstM, habM⟩ := Cond.instanceMethod_spec hinst
  obtain ⟨m8, methM', cM, hn8, hmethM', -, -, -, -, -, -, hsigM⟩ := Cond.codeWith_spec hcode
  cases Option.some.inj (hn8.symm.trans hnamed)
  cases hmethM.symm.trans hmethM'
  obtain ⟨c2, r2, m2, q1, q2, q3, q4, kP, hkP, hkPi⟩ := Cond.selects_spec hsel
  cases hcls.symm.trans q1
  cases (State.methodFound?_of_named hnamed hy).symm.trans q2
  cases hnamed.symm.trans q3
  have hselP : selectMethod e.platform s.vm cellB.cls mk = .method mk := by rw [Launch.admits_selectMethod X.admits]; exact q4
  obtain ⟨vm₁, X₁, hstep₁⟩ := X.invokevirtual hexec hown hlink hnamed hmethM hstM hkP hkPi hy (a := b) (cell := cellB) hcell
    (fun z h => by rw [h] at hobj; cases hobj) hselP hmethM habM hkP hkPi (g := g) hg (argsL := argsL) (rest := rest) (hlen _ hsigM) hstack hdg
  rcases hK m meth c ⟨T.setVm vm₁, locs, cells, slots⟩ { g with stack := rest } (.invokevirtual index) mk (Value.ref b :: argsL).toArray X₁ hg hsize hdg hW (X₁.named hnamed) (hpre vm₁ X₁.warmed) with ⟨v, B, X', hpost, hsteps⟩ | ⟨q, B, X', hpost, hsteps⟩
  · exact Or.inl ⟨v, vm₁, B, X₁.warmed, X', hpost, fun target h => hstep₁ _ fun acts => by rw [doInvoke_state]; exact hsteps.trans h⟩
  · exact Or.inr ⟨q, vm₁, B, X₁.warmed, X', hpost, hstep₁ _ fun acts => by rw [doInvoke_state]; exact hsteps⟩
theorem vx_callSX (X : Stand p l e R s m args below meth c T locs cells slots) (hexec : p.tables.exec = Jvm.exec) {own : String} {index : Nat} {y : MethodName} {bytes : ByteArray} {maxL : Nat} {ret : Option FieldType} {hh : List (Nat × Nat × Nat × Nat)}
    (hown : s.vm.findClass own = some m.cls) (hlink : (Cond.methodLink own index y).before args s = true) (hstat : (Cond.static y).before args s = true) (hinit : (Cond.initialized y.cls).before args s = true)
    (hcode : (Cond.codeWith y bytes maxL ret hh).before args s = true) (hy : y.cls ≠ "java/lang/invoke/MethodHandle" ∧ y.cls ≠ "java/lang/invoke/VarHandle")
    {W9 : Nat} {Pre : Pt → Array Value → Prop} {Post : Pt → Array Value → Option Value → Pt → Prop} {PostX : Pt → Array Value → Addr → Pt → Prop} (hK : vx_Back l R p e below s args y 3 W9 Pre Post PostX)
    {g : JFrame} (hg : g.method = m) (hsize : g.locals.size = c.maxLocals) {argsL rest : List Value} (hlen : ∀ sig, parseMethodDescriptor y.desc = some sig → argsL.length = sig.parameters.length)
    (hstack : g.stack = argsL.reverse ++ rest) (hW : 2 * g.monitorRoom + (rest.map fun v => v.category).sum ≤ W9) (hdg : decode c.code g.pc = .ok (.invokestatic index, 3))
    (hpre : ∀ vm₁, s.WarmedH vm₁ → Pre ⟨T.setVm vm₁, locs, cells, slots⟩ argsL.toArray) :
    (∃ (v : Option Value) (vm₁ : Vm) (B : Pt), s.WarmedH vm₁ ∧ Stand p l e R s m args below meth c B.U B.locs B.cells B.slots ∧ Post ⟨T.setVm vm₁, locs, cells, slots⟩ argsL.toArray v B ∧
      ∀ target, Steps p.tables e below (B.U.setTop { g with pc := g.pc + 3, stack := v.toList ++ rest }) target → Steps p.tables e below (T.setTop g) target) ∨
    (∃ (q : Addr) (vm₁ : Vm) (B : Pt), s.WarmedH vm₁ ∧ Stand p l e R s m args below meth c B.U B.locs B.cells B.slots ∧ PostX ⟨T.setVm vm₁, locs, cells, slots⟩ argsL.toArray q B ∧
      Steps p.tables e below (T.setTop g) ((B.U.setTop { g with stack := rest }).pushFrame (.throwing q))) := by
  obtain ⟨mk, methM, cM, hnamed, hmethM, -, -, -, -, -, -, hsigM⟩ := Cond.codeWith_spec hcode
  have hstatic : methM.isStatic = true := Cond.static_spec hnamed hmethM hstat
  obtain ⟨kP, hkP, -⟩ := className_of_methodNamed hnamed
  have hinitP : kP.init = .initialized := Cond.initialized_spec (findClass_of_methodNamed hnamed) hkP hinit
  obtain ⟨vm₁, X₁, hstep₁⟩ := X.invokestatic hexec hown hlink hnamed hmethM hstatic hkP hinitP hy (g := g) hg (argsL := argsL) (rest := rest) (hlen _ hsigM) hstack hdg
  rcases hK m meth c ⟨T.setVm vm₁, locs, cells, slots⟩ { g with stack := rest } (.invokestatic index) mk argsL.toArray X₁ hg hsize hdg hW (X₁.named hnamed) (hpre vm₁ X₁.warmed) with ⟨v, B, X', hpost, hsteps⟩ | ⟨q, B, X', hpost, hsteps⟩
  · exact Or.inl ⟨v, vm₁, B, X₁.warmed, X', hpost, fun target h => hstep₁ _ fun acts => by rw [doInvoke_state]; exact hsteps.trans h⟩
  · exact Or.inr ⟨q, vm₁, B, X₁.warmed, X', hpost, hstep₁ _ fun acts => by rw [doInvoke_state]; exact hsteps⟩
theorem vx_callVW (X : Stand p l e R s m args below meth c T locs cells slots) (hexec : p.tables.exec = Jvm.exec) {own C : String} {index : Nat} {y : MethodName} {bytes : ByteArray} {maxL : Nat} {ret : Option FieldType} {hh : List (Nat × Nat × Nat × Nat)}
    (hown : s.vm.findClass own = some m.cls) (hlink : (Cond.methodLink own index y).before args s = true) (hinst : (Cond.instanceMethod y).before args s = true) (hsel : (Cond.selects C y y).before args s = true)
    (hcode : (Cond.codeWith y bytes maxL ret hh).before args s = true) (hy : y.cls ≠ "java/lang/invoke/MethodHandle" ∧ y.cls ≠ "java/lang/invoke/VarHandle")
    {W9 : Nat} {Pre : Pt → Array Value → Prop} {Post : Pt → Array Value → Option Value → Pt → Prop} (hK : Back l R p e below s args y 3 W9 Pre Post)
    {b : Addr} {cellB : Cell} (hcell : T.heap[b]? = some cellB) (hobj : cellB.vm.isStatics = false) (hcls : s.vm.findClass C = some cellB.cls)
    {g : JFrame} (hg : g.method = m) (hsize : g.locals.size = c.maxLocals) {argsL rest : List Value} (hlen : ∀ sig, parseMethodDescriptor y.desc = some sig → argsL.length = sig.parameters.length)
    (hstack : g.stack = argsL.reverse ++ .ref b :: rest) (hW : 2 * g.monitorRoom + (rest.map fun v => v.category).sum ≤ W9) (hdg : decode c.code g.pc = .ok (.invokevirtual index, 3))
    (hpre : ∀ vm₁, s.WarmedH vm₁ → Pre ⟨T.setVm vm₁, locs, cells, slots⟩ (Value.ref b :: argsL).toArray) :
    ∃ (v : Option Value) (vm₁ : Vm) (B : Pt), s.WarmedH vm₁ ∧ Stand p l e R s m args below meth c B.U B.locs B.cells B.slots ∧ Post ⟨T.setVm vm₁, locs, cells, slots⟩ (Value.ref b :: argsL).toArray v B ∧
      ∀ target, Steps p.tables e below (B.U.setTop { g with pc := g.pc + 3, stack := v.toList ++ rest }) target → Steps p.tables e below (T.setTop g) target := by
  obtain ⟨mk, methM, hnamed, hmethM, hstM, habM⟩ := Cond.instanceMethod_spec hinst
  obtain ⟨m8, methM', cM, hn8, hmethM', -, -, -, -, -, -, hsigM⟩ := Cond.codeWith_spec hcode
  cases Option.some.inj (hn8.symm.trans hnamed)
  cases hmethM.symm.trans hmethM'
  obtain ⟨c2, r2, m2, q1, q2, q3, q4, kP, hkP, hkPi⟩ := Cond.selects_spec hsel
  cases hcls.symm.trans q1
  cases (State.methodFound?_of_named hnamed hy).symm.trans q2
  cases hnamed.symm.trans q3
  have hselP : selectMethod e.platform s.vm cellB.cls mk = .method mk := by rw [Launch.admits_selectMethod X.admits]; exact q4
  obtain ⟨vm₁, X₁, hstep₁⟩ := X.invokevirtual hexec hown hlink hnamed hmethM hstM hkP hkPi hy (a := b) (cell := cellB) hcell
    (fun z h => by rw [h] at hobj; cases hobj) hselP hmethM habM hkP hkPi (g := g) hg (argsL := argsL) (rest := rest) (hlen _ hsigM) hstack hdg
  obtain ⟨v, B, X', hpost, hsteps⟩ := hK m meth c ⟨T.setVm vm₁, locs, cells, slots⟩ { g with stack := rest } (.invokevirtual index) mk (Value.ref b :: argsL).toArray X₁ hg hsize hdg hW (X₁.named hnamed) (hpre vm₁ X₁.warmed)
  exact ⟨v, vm₁, B, X₁.warmed, X', hpost, fun target h => hstep₁ _ fun acts => by rw [doInvoke_state]; exact hsteps.trans h⟩
abbrev vx_CVW (R : Room) (s : State) (args : Array Value) (own C : String) (index : Nat) (y : MethodName) (bytes : ByteArray) (maxL : Nat) (ret : Option FieldType) (hh : List (Nat × Nat × Nat × Nat)) (ws : List Cond) (rm : Room) (mc ms n : Nat) : Prop :=
  (rm.cells = mc ∧ rm.slots = ms ∧ rm.frames + 1 ≤ R.frames ∧ 8 + (maxL + 11) + rm.locals ≤ R.locals ∧ (∀ w ∈ ws, ∀ (a' : Array Value) (U : State), s.WarmedH U.vm → w.before a' U = true) ∧ Cond.codeWith y bytes maxL ret hh ∈ ws) ∧
  (Cond.codeWith y bytes maxL ret hh).before args s = true ∧ (Cond.initialized y.cls).before args s = true ∧ (y.cls ≠ "java/lang/invoke/MethodHandle" ∧ y.cls ≠ "java/lang/invoke/VarHandle") ∧
  (∀ sig, parseMethodDescriptor y.desc = some sig → n = sig.parameters.length) ∧ (Cond.methodLink own index y).before args s = true ∧ (Cond.instanceMethod y).before args s = true ∧ (Cond.selects C y y).before args s = true
theorem vx_cwVW {own C : String} {index maxL mc ms : Nat} {y : MethodName} {bytes : ByteArray} {ret : Option FieldType} {hh : List (Nat × Nat × Nat × Nat)} {Ts ws ws' : List Cond} {rm : Room} (n : Nat) (ht : ∀ w ∈ Ts, w.before args s = true) (hT : GoodIn Ts (wsV own index C y ws)) (hw : ws = Cond.codeWith y bytes maxL ret hh :: ws') (hrc : rm.cells = mc) (hrs : rm.slots = ms)
    (hd : y.cls = C ∧ y.cls ≠ "java/lang/invoke/MethodHandle" ∧ y.cls ≠ "java/lang/invoke/VarHandle" ∧ (parseMethodDescriptor y.desc).map (fun d => d.parameters.length) = some n) (hR : rm.frames + 1 ≤ R.frames ∧ 8 + (maxL + 11) + rm.locals ≤ R.locals) :
    vx_CVW R s args own C index y bytes maxL ret hh ws rm mc ms n := by
  obtain ⟨hC, hd⟩ := hd
  subst hC
  have ok : ∀ w ∈ wsV own index y.cls y ws, w.before args s = true := fun w h => ht w (hT w h).1
  have hG : GoodIn Ts ws := fun w h => hT w (by unfold wsV; exact List.mem_append_right _ h)
  have hc : Cond.codeWith y bytes maxL ret hh ∈ ws := by rw [hw]; exact List.mem_cons_self
  refine ⟨⟨hrc, hrs, hR.1, hR.2, pay_in ht hG, hc⟩, ht _ (hG _ hc).1, ok _ (by simp [wsV]), ⟨hd.1, hd.2.1⟩, fun sig h => ?_, ok _ (by simp [wsV]), ok _ (by simp [wsV]), ok _ (by simp [wsV])⟩
  have h2 := hd.2.2
  rw [h] at h2
  exact (Option.some.inj h2).symm
theorem vx_runVW {y : MethodName} {bytes cc : ByteArray} {maxL nL mc ms n index : Nat} {ret : Option FieldType} {hh : List (Nat × Nat × Nat × Nat)} {ws : List Cond} {rm : Room} {Pc : Array Value → State → Prop} {Qc : Array Value → State → Outcome → State → Prop} {free : Addr → Prop} {Ts : List Cond} {own C : String} {b : Addr} {As rest : List Value} {g : JFrame}
    (S : CallFix p m c cc nL s args Ts own) (hM : Met l y ws rm Pc Qc mc ms free) (cw : vx_CVW R s args own C index y bytes maxL ret hh ws rm mc ms n) (hp : PreV s H C b Pc As)
    (hg : g.method = m) (hn : As.length = n) (hsize : g.locals.size = nL) (hstack : g.stack = As.reverse ++ .ref b :: rest) (hW : 2 * g.monitorRoom + (rest.map fun v => v.category).sum ≤ 8) (hdg : decode cc g.pc = .ok (.invokevirtual index, 3)) (hf : cells + mc ≤ R.cells ∧ slots + ms ≤ R.slots) :
    va_Run p l e R s m args below meth c H locs cells slots mc ms g rest (Qc (Value.ref b :: As).toArray) free := by
  obtain ⟨⟨hrc, hrs, hfr, hlo, hws, hcw⟩, hcode, hini, hy, hlen, hl, hin, hse⟩ := cw
  have hK : Back l R p e below s args y 3 8 (PreOf R mc ms Pc) (PostOf Qc mc ms free) := va_backW (hh := hh) (bytes := bytes) (maxL := maxL) (ret := ret) hM hp.1 hrc hrs hfr hlo hws hcw (fun a' U hW => word_at hW (Or.inl (by first | rfl | simp [Cond.onTables, Cond.keeps, Cond.steady])) hini)
  obtain ⟨hx, hb, hml, ho, -⟩ := S
  obtain ⟨-, ⟨cellB, hcB, hoB, hclB⟩, hPc⟩ := hp
  intro T hT X
  obtain ⟨v, vm₁, ⟨U', l2, c2, s2⟩, hW₁, X', ⟨g', mk, t, L, e1, e2, hq, h1, hL, h2, h3⟩, st⟩ := vx_callVW X hx (C := C) (hh := hh) (bytes := bytes) (maxL := maxL) (ret := ret) ho hl hin hse hcode hy hK (by rw [hT]; exact hcB) hoB hclB hg (hsize.trans hml.symm) (argsL := As) (rest := rest) (fun sig h => hn.trans (hlen sig h)) hstack hW (by rw [hb]; exact hdg)
    (fun vm₁ hW₁ => ⟨hf.1, hf.2, hPc (T.setVm vm₁) hT hW₁⟩)
  dsimp only [Pt.U, Pt.locs, Pt.cells, Pt.slots] at X' e1 e2 h1 h2 h3 st
  subst h1; subst h2; subst h3
  exact ⟨v, (T.setVm vm₁).calling g' mk (Value.ref b :: As).toArray, t, U', L, hT, X', hL, e1, e2, hq, st⟩
section
variable {y : MethodName} {bytes cc : ByteArray} {maxL nL mc ms n index : Nat} {ret : Option FieldType} {ws : List Cond} {rm : Room} {Pc : Array Value → State → Prop} {Qc : Array Value → State → Outcome → State → Prop} {XC : String → State → State → Prop} {free : Addr → Prop} {Ts : List Cond} {own C : String} {b : Addr} {As rest : List Value} {g : JFrame}
theorem vx_runVX {hh : List (Nat × Nat × Nat × Nat)} (S : CallFix p m c cc nL s args Ts own) (hM : vx_Met l y ws rm Pc Qc XC mc ms free) (cw : vx_CVW R s args own C index y bytes maxL ret hh ws rm mc ms n) (hp : PreV s H C b Pc As)
    (hg : g.method = m) (hn : As.length = n) (hsize : g.locals.size = nL) (hstack : g.stack = As.reverse ++ .ref b :: rest) (hW : 2 * g.monitorRoom + (rest.map fun v => v.category).sum ≤ 8) (hdg : decode cc g.pc = .ok (.invokevirtual index, 3)) (hf : cells + mc ≤ R.cells ∧ slots + ms ≤ R.slots) :
    vx_Run p l e R s m args below meth c H locs cells slots mc ms g rest (Qc (Value.ref b :: As).toArray) XC free := by
  obtain ⟨⟨hrc, hrs, hfr, hlo, hws, hcw⟩, hcode, hini, hy, hlen, hl, hin, hse⟩ := cw
  have hK : vx_Back l R p e below s args y 3 8 (PreOf R mc ms Pc) (PostOf Qc mc ms free) (vx_Post XC mc ms free) := vx_backW (hh := hh) (bytes := bytes) (maxL := maxL) (ret := ret) hM hp.1 hrc hrs hfr hlo hws hcw (fun a' U hW => word_at hW (Or.inl (by first | rfl | simp [Cond.onTables, Cond.keeps, Cond.steady])) hini)
  obtain ⟨hx, hb, hml, ho, -⟩ := S
  obtain ⟨-, ⟨cellB, hcB, hoB, hclB⟩, hPc⟩ := hp
  intro T hT X
  rcases vx_callVX X hx (C := C) (hh := hh) (bytes := bytes) (maxL := maxL) (ret := ret) ho hl hin hse hcode hy hK (by rw [hT]; exact hcB) hoB hclB hg (hsize.trans hml.symm) (argsL := As) (rest := rest) (fun sig h => hn.trans (hlen sig h)) hstack hW (by rw [hb]; exact hdg)
    (fun vm₁ hW₁ => ⟨hf.1, hf.2, hPc (T.setVm vm₁) hT hW₁⟩) with ⟨v, vm₁, ⟨U', l2, c2, s2⟩, hW₁, X', ⟨g', mk, t, L, e1, e2, hq, h1, hL, h2, h3⟩, st⟩ | ⟨q, vm₁, ⟨U', l2, c2, s2⟩, hW₁, X', ⟨g', mk, t, L, E, ce, e1, e2, hq, hce, hcv, hcl, h1, hL, h2, h3⟩, st⟩
  · dsimp only [Pt.U, Pt.locs, Pt.cells, Pt.slots] at X' e1 e2 h1 h2 h3 st
    subst h1; subst h2; subst h3
    exact Or.inl ⟨v, (T.setVm vm₁).calling g' mk (Value.ref b :: As).toArray, t, U', L, hT, X', hL, e1, e2, hq, st⟩
  · dsimp only [Pt.U, Pt.locs, Pt.cells, Pt.slots] at X' e1 e2 h1 h2 h3 st hcl
    subst h1; subst h2; subst h3
    exact Or.inr ⟨q, (T.setVm vm₁).calling g' mk (Value.ref b :: As).toArray, t, U', L, E, ce, hT, X', hL, e1, e2, hq, hce, hcv, vx_cls hW₁ hcl, st⟩
theorem vx_runSX {hh : List (Nat × Nat × Nat × Nat)} (S : CallFix p m c cc nL s args Ts own) (hM : vx_Met l y ws rm Pc Qc XC mc ms free) (cw : vx_CSW R s args own index y bytes maxL ret hh ws rm mc ms n) (hp : PreS s H Pc As)
    (hg : g.method = m) (hn : As.length = n) (hsize : g.locals.size = nL) (hstack : g.stack = As.reverse ++ rest) (hW : 2 * g.monitorRoom + (rest.map fun v => v.category).sum ≤ 8) (hdg : decode cc g.pc = .ok (.invokestatic index, 3)) (hf : cells + mc ≤ R.cells ∧ slots + ms ≤ R.slots) :
    vx_Run p l e R s m args below meth c H locs cells slots mc ms g rest (Qc As.toArray) XC free := by
  obtain ⟨⟨hrc, hrs, hfr, hlo, hws, hcw⟩, hcode, hini, hy, hlen, hl, hstt⟩ := cw
  have hK : vx_Back l R p e below s args y 3 8 (PreOf R mc ms Pc) (PostOf Qc mc ms free) (vx_Post XC mc ms free) := vx_backW (hh := hh) (bytes := bytes) (maxL := maxL) (ret := ret) hM hp.1 hrc hrs hfr hlo hws hcw (fun a' U hW => word_at hW (Or.inl (by first | rfl | simp [Cond.onTables, Cond.keeps, Cond.steady])) hini)
  obtain ⟨hx, hb, hml, ho, -⟩ := S
  intro T hT X
  rcases vx_callSX X hx (hh := hh) (bytes := bytes) (maxL := maxL) (ret := ret) ho hl hstt hini hcode hy hK hg (hsize.trans hml.symm) (argsL := As) (rest := rest) (fun sig h => hn.trans (hlen sig h)) hstack hW (by rw [hb]; exact hdg)
    (fun vm₁ hW₁ => ⟨hf.1, hf.2, hp.2 (T.setVm vm₁) hT hW₁⟩) with ⟨v, vm₁, ⟨U', l2, c2, s2⟩, hW₁, X', ⟨g', mk, t, L, e1, e2, hq, h1, hL, h2, h3⟩, st⟩ | ⟨q, vm₁, ⟨U', l2, c2, s2⟩, hW₁, X', ⟨g', mk, t, L, E, ce, e1, e2, hq, hce, hcv, hcl, h1, hL, h2, h3⟩, st⟩
  · dsimp only [Pt.U, Pt.locs, Pt.cells, Pt.slots] at X' e1 e2 h1 h2 h3 st
    subst h1; subst h2; subst h3
    exact Or.inl ⟨v, (T.setVm vm₁).calling g' mk As.toArray, t, U', L, hT, X', hL, e1, e2, hq, st⟩
  · dsimp only [Pt.U, Pt.locs, Pt.cells, Pt.slots] at X' e1 e2 h1 h2 h3 st hcl
    subst h1; subst h2; subst h3
    exact Or.inr ⟨q, (T.setVm vm₁).calling g' mk As.toArray, t, U', L, E, ce, hT, X', hL, e1, e2, hq, hce, hcv, vx_cls hW₁ hcl, st⟩
end
end VXH
theorem vx_ofWH {l : Launch} {y : MethodName} {ws ws' : List Cond} {rm : Room} {Pc : Array Value → State → Prop} {Qc : Array Value → State → Outcome → State → Prop} {XC : String → State → State → Prop} {mc ms : Nat} {free : Addr → Prop} {cc : ByteArray} {maxL : Nat} {ret : Option FieldType} {hh : List (Nat × Nat × Nat × Nat)}
    (hy : plainName y.cls = true) (hw : ws = Cond.codeWith y cc maxL ret hh :: ws')
    (body : ∀ p e s m args below meth c s₁, BodyLoose p l y (headSpec ws rm) cc maxL ret e s m args below meth c s₁ → c.maxLocals = maxL → Pc args s →
      W p l e (headSpec ws rm).room s m args below meth c s.heap [] 0 0 (vx_MQ below Qc XC args s mc ms free) (entryFrame m args maxL)) : vx_Met l y ws rm Pc Qc XC mc ms free := by
  refine MetFree.of_bodyS (code := cc) (maxLocals := maxL) (ret := ret) hy ?_ ?_
  · intro args s m h hn
    obtain ⟨m9, meth, c, hn9, h1, h2, h3, h4, -, h5, h6, -⟩ := Cond.codeWith_spec (atoms_spec (ws := ws) h _ (by rw [hw]; exact List.mem_cons_self))
    cases hn.symm.trans hn9
    exact ⟨meth, c, h1, h2, h3, h4, h5, h6⟩
  · intro p e s m args below meth c s₁ B hml hP _
    have hh0 : s₁.heap = s.heap := by rw [B.state]; rfl
    obtain ⟨t, a1, o, b1, b2, b3⟩ := body p e s m args below meth c s₁ B hml hP s₁ hh0 (Stand.of_body B)
    exact ⟨t, o, a1, b1, b2, b3⟩
/-! ===== END ===== -/

/-! ===== BEGIN printed: names, fields, word lists, decode rows ===== -/
def RX0 : String := "LayeredImages$Build"
def TX0 : u_T := fun k => match k with
  | 0 => ("LayeredImages$Build", "plan", "LLayeredImages$Recipe;", true)
  | 1 => ("LayeredImages$Build", "taken", "I", false)
  | _ => ("LayeredImages$Build", "layer", "LLayeredImages$Layer;", false)
def tyX0 : Nat → FieldType := fun k => match k with
  | 0 => .object "LayeredImages$Recipe"
  | 1 => .int
  | _ => .object "LayeredImages$Layer"
abbrev wsX00 : List Cond := u_ws RX0 TX0 3
theorem nmX0 : ∀ a, a < 3 → ∀ b, b < 3 → a ≠ b → (TX0 a).2.1 ≠ (TX0 b).2.1 := by decide +kernel
theorem tyX0_ok : ∀ k, k < 3 → parseFieldDescriptor (TX0 k).2.2.1 = some (tyX0 k) := by decide +kernel
abbrev cX0_init : ByteArray := prog_2_method_1_code
def yX0_init : MethodName := ⟨RX0, "<init>", "()V"⟩
abbrev cX0_begin : ByteArray := prog_2_method_2_code
def yX0_begin : MethodName := ⟨RX0, "begin", "(LLayeredImages$Recipe;LLayeredImages$Layer;)V"⟩
abbrev cX0_left : ByteArray := prog_2_method_3_code
def yX0_left : MethodName := ⟨RX0, "left", "()I"⟩
abbrev cX0_goesOn : ByteArray := prog_2_method_4_code
def yX0_goesOn : MethodName := ⟨RX0, "goesOn", "()Z"⟩
abbrev cX0_upcoming : ByteArray := prog_2_method_5_code
def yX0_upcoming : MethodName := ⟨RX0, "upcoming", "()LLayeredImages$Instruction;"⟩
abbrev cX0_advanceTo : ByteArray := prog_2_method_6_code
def yX0_advanceTo : MethodName := ⟨RX0, "advanceTo", "(LLayeredImages$Layer;)V"⟩
abbrev cX0_fail : ByteArray := prog_2_method_7_code
def yX0_fail : MethodName := ⟨RX0, "fail", "()V"⟩
abbrev cX0_finished : ByteArray := prog_2_method_8_code
def yX0_finished : MethodName := ⟨RX0, "finished", "()LLayeredImages$Layer;"⟩
abbrev cX0_forget : ByteArray := prog_2_method_9_code
def yX0_forget : MethodName := ⟨RX0, "forget", "(LLayeredImages$Layer;)V"⟩
def RX1 : String := "LayeredImages$Instruction"
def TX1 : u_T := fun k => match k with
  | 0 => ("LayeredImages$Instruction", "kind", "I", true)
  | 1 => ("LayeredImages$Instruction", "first", "I", true)
  | _ => ("LayeredImages$Instruction", "second", "I", true)
def tyX1 : Nat → FieldType := fun k => match k with
  | 0 => .int
  | 1 => .int
  | _ => .int
abbrev wsX10 : List Cond := u_ws RX1 TX1 3
theorem nmX1 : ∀ a, a < 3 → ∀ b, b < 3 → a ≠ b → (TX1 a).2.1 ≠ (TX1 b).2.1 := by decide +kernel
theorem tyX1_ok : ∀ k, k < 3 → parseFieldDescriptor (TX1 k).2.2.1 = some (tyX1 k) := by decide +kernel
abbrev cX1_init : ByteArray := prog_3_method_1_code
def yX1_init : MethodName := ⟨RX1, "<init>", "(III)V"⟩
abbrev cX1_isSameAs : ByteArray := prog_3_method_2_code
def yX1_isSameAs : MethodName := ⟨RX1, "isSameAs", "(LLayeredImages$Instruction;)Z"⟩
abbrev cX1_inputFrom : ByteArray := prog_3_method_3_code
def yX1_inputFrom : MethodName := ⟨RX1, "inputFrom", "([I)I"⟩
abbrev cX1_failsOn : ByteArray := prog_3_method_4_code
def yX1_failsOn : MethodName := ⟨RX1, "failsOn", "(LLayeredImages$Layer;I)Z"⟩
abbrev cX1_carryOut : ByteArray := prog_3_method_5_code
def yX1_carryOut : MethodName := ⟨RX1, "carryOut", "(LLayeredImages$Layer;I)V"⟩
abbrev cX1_runOn : ByteArray := prog_3_method_6_code
def yX1_runOn : MethodName := ⟨RX1, "runOn", "(II)I"⟩
def RX2 : String := "LayeredImages$Layer"
def TX2 : u_T := fun k => match k with
  | 0 => ("LayeredImages$Layer", "number", "I", true)
  | 1 => ("LayeredImages$Layer", "parent", "LLayeredImages$Layer;", true)
  | 2 => ("LayeredImages$Layer", "place", "I", true)
  | 3 => ("LayeredImages$Layer", "held", "[I", true)
  | 4 => ("LayeredImages$Layer", "shown", "[I", true)
  | 5 => ("LayeredImages$Layer", "values", "[I", true)
  | 6 => ("LayeredImages$Layer", "maker", "LLayeredImages$Instruction;", false)
  | _ => ("LayeredImages$Layer", "input", "I", false)
def tyX2 : Nat → FieldType := fun k => match k with
  | 0 => .int
  | 1 => .object "LayeredImages$Layer"
  | 2 => .int
  | 3 => .array .int
  | 4 => .array .int
  | 5 => .array .int
  | 6 => .object "LayeredImages$Instruction"
  | _ => .int
abbrev wsX20 : List Cond := u_ws RX2 TX2 8
theorem nmX2 : ∀ a, a < 8 → ∀ b, b < 8 → a ≠ b → (TX2 a).2.1 ≠ (TX2 b).2.1 := by decide +kernel
theorem tyX2_ok : ∀ k, k < 8 → parseFieldDescriptor (TX2 k).2.2.1 = some (tyX2 k) := by decide +kernel
abbrev cX2_init : ByteArray := prog_4_method_1_code
def yX2_init : MethodName := ⟨RX2, "<init>", "(I[I)V"⟩
abbrev cX2_init_ : ByteArray := prog_4_method_2_code
def yX2_init_ : MethodName := ⟨RX2, "<init>", "(ILLayeredImages$Layer;)V"⟩
abbrev cX2_holds : ByteArray := prog_4_method_3_code
def yX2_holds : MethodName := ⟨RX2, "holds", "(I)I"⟩
abbrev cX2_shows : ByteArray := prog_4_method_4_code
def yX2_shows : MethodName := ⟨RX2, "shows", "(I)I"⟩
abbrev cX2_value : ByteArray := prog_4_method_5_code
def yX2_value : MethodName := ⟨RX2, "value", "(I)I"⟩
abbrev cX2_hold : ByteArray := prog_4_method_6_code
def yX2_hold : MethodName := ⟨RX2, "hold", "(II)V"⟩
abbrev cX2_assign : ByteArray := prog_4_method_7_code
def yX2_assign : MethodName := ⟨RX2, "assign", "(II)V"⟩
abbrev cX2_assignLike : ByteArray := prog_4_method_8_code
def yX2_assignLike : MethodName := ⟨RX2, "assignLike", "(LLayeredImages$Layer;)V"⟩
abbrev cX2_becomeMadeBy : ByteArray := prog_4_method_9_code
def yX2_becomeMadeBy : MethodName := ⟨RX2, "becomeMadeBy", "(LLayeredImages$Instruction;I)V"⟩
abbrev cX2_wasMadeBy : ByteArray := prog_4_method_10_code
def yX2_wasMadeBy : MethodName := ⟨RX2, "wasMadeBy", "(LLayeredImages$Instruction;I)Z"⟩
abbrev cX2_isRootOf : ByteArray := prog_4_method_11_code
def yX2_isRootOf : MethodName := ⟨RX2, "isRootOf", "([I)Z"⟩
abbrev cX2_showLike : ByteArray := prog_4_method_12_code
def yX2_showLike : MethodName := ⟨RX2, "showLike", "(LLayeredImages$Layer;)V"⟩
abbrev cX2_holdLike : ByteArray := prog_4_method_13_code
def yX2_holdLike : MethodName := ⟨RX2, "holdLike", "(LLayeredImages$Layer;)V"⟩
abbrev cX2_partAt : ByteArray := prog_4_method_14_code
def yX2_partAt : MethodName := ⟨RX2, "partAt", "(I)LLayeredImages$Layer;"⟩
abbrev cX2_size : ByteArray := prog_4_method_15_code
def yX2_size : MethodName := ⟨RX2, "size", "()I"⟩
abbrev cX2_fingerprint : ByteArray := prog_4_method_16_code
def yX2_fingerprint : MethodName := ⟨RX2, "fingerprint", "()I"⟩
def RX3 : String := "LayeredImages$Recipe"
def TX3 : u_T := fun k => match k with
  | 0 => ("LayeredImages$Recipe", "row", "[LLayeredImages$Instruction;", true)
  | 1 => ("LayeredImages$Recipe", "base", "I", false)
  | _ => ("LayeredImages$Recipe", "count", "I", false)
def tyX3 : Nat → FieldType := fun k => match k with
  | 0 => .array (.object "LayeredImages$Instruction")
  | 1 => .int
  | _ => .int
abbrev wsX30 : List Cond := u_ws RX3 TX3 3
theorem nmX3 : ∀ a, a < 3 → ∀ b, b < 3 → a ≠ b → (TX3 a).2.1 ≠ (TX3 b).2.1 := by decide +kernel
theorem tyX3_ok : ∀ k, k < 3 → parseFieldDescriptor (TX3 k).2.2.1 = some (tyX3 k) := by decide +kernel
abbrev cX3_init : ByteArray := prog_5_method_1_code
def yX3_init : MethodName := ⟨RX3, "<init>", "()V"⟩
abbrev cX3_at : ByteArray := prog_5_method_2_code
def yX3_at : MethodName := ⟨RX3, "at", "(I)LLayeredImages$Instruction;"⟩
abbrev cX3_clearOn : ByteArray := prog_5_method_3_code
def yX3_clearOn : MethodName := ⟨RX3, "clearOn", "(I)V"⟩
abbrev cX3_append : ByteArray := prog_5_method_4_code
def yX3_append : MethodName := ⟨RX3, "append", "(LLayeredImages$Instruction;)V"⟩
abbrev cX3_removeAt : ByteArray := prog_5_method_5_code
def yX3_removeAt : MethodName := ⟨RX3, "removeAt", "(I)V"⟩
abbrev cX3_becomeLike : ByteArray := prog_5_method_6_code
def yX3_becomeLike : MethodName := ⟨RX3, "becomeLike", "(LLayeredImages$Recipe;)V"⟩
def RX4 : String := "LayeredImages$Store"
def TX4 : u_T := fun k => match k with
  | 0 => ("LayeredImages$Store", "row", "[LLayeredImages$Layer;", true)
  | _ => ("LayeredImages$Store", "made", "I", false)
def tyX4 : Nat → FieldType := fun k => match k with
  | 0 => .array (.object "LayeredImages$Layer")
  | _ => .int
abbrev wsX40 : List Cond := u_ws RX4 TX4 2
theorem nmX4 : ∀ a, a < 2 → ∀ b, b < 2 → a ≠ b → (TX4 a).2.1 ≠ (TX4 b).2.1 := by decide +kernel
theorem tyX4_ok : ∀ k, k < 2 → parseFieldDescriptor (TX4 k).2.2.1 = some (tyX4 k) := by decide +kernel
abbrev cX4_init : ByteArray := prog_6_method_1_code
def yX4_init : MethodName := ⟨RX4, "<init>", "()V"⟩
abbrev cX4_find : ByteArray := prog_6_method_2_code
def yX4_find : MethodName := ⟨RX4, "find", "(I)LLayeredImages$Layer;"⟩
abbrev cX4_findRoot : ByteArray := prog_6_method_3_code
def yX4_findRoot : MethodName := ⟨RX4, "findRoot", "([I)LLayeredImages$Layer;"⟩
abbrev cX4_findMade : ByteArray := prog_6_method_4_code
def yX4_findMade : MethodName := ⟨RX4, "findMade", "(LLayeredImages$Layer;LLayeredImages$Instruction;I)LLayeredImages$Layer;"⟩
abbrev cX4_newRoot : ByteArray := prog_6_method_5_code
def yX4_newRoot : MethodName := ⟨RX4, "newRoot", "([I)LLayeredImages$Layer;"⟩
abbrev cX4_newChild : ByteArray := prog_6_method_6_code
def yX4_newChild : MethodName := ⟨RX4, "newChild", "(LLayeredImages$Layer;)LLayeredImages$Layer;"⟩
abbrev cX4_kept : ByteArray := prog_6_method_7_code
def yX4_kept : MethodName := ⟨RX4, "kept", "(LLayeredImages$Layer;)LLayeredImages$Layer;"⟩
abbrev cX4_remove : ByteArray := prog_6_method_8_code
def yX4_remove : MethodName := ⟨RX4, "remove", "(I)V"⟩
def RX5 : String := "LayeredImages"
def TX5 : u_T := fun k => match k with
  | 0 => ("LayeredImages", "files", "[I", true)
  | 1 => ("LayeredImages", "bases", "[[I", true)
  | 2 => ("LayeredImages", "recipes", "[LLayeredImages$Recipe;", true)
  | 3 => ("LayeredImages", "tags", "[LLayeredImages$Layer;", true)
  | 4 => ("LayeredImages", "store", "LLayeredImages$Store;", true)
  | 5 => ("LayeredImages", "latest", "LLayeredImages$Build;", true)
  | 6 => ("LayeredImages", "hits", "I", false)
  | _ => ("LayeredImages", "misses", "I", false)
def tyX5 : Nat → FieldType := fun k => match k with
  | 0 => .array .int
  | 1 => .array (.array .int)
  | 2 => .array (.object "LayeredImages$Recipe")
  | 3 => .array (.object "LayeredImages$Layer")
  | 4 => .object "LayeredImages$Store"
  | 5 => .object "LayeredImages$Build"
  | 6 => .int
  | _ => .int
abbrev wsX50 : List Cond := u_ws RX5 TX5 8
theorem nmX5 : ∀ a, a < 8 → ∀ b, b < 8 → a ≠ b → (TX5 a).2.1 ≠ (TX5 b).2.1 := by decide +kernel
theorem tyX5_ok : ∀ k, k < 8 → parseFieldDescriptor (TX5 k).2.2.1 = some (tyX5 k) := by decide +kernel
abbrev cX5_init : ByteArray := prog_1_method_1_code
def yX5_init : MethodName := ⟨RX5, "<init>", "()V"⟩
abbrev cX5_setFile : ByteArray := prog_1_method_2_code
def yX5_setFile : MethodName := ⟨RX5, "setFile", "(II)I"⟩
abbrev cX5_setBase : ByteArray := prog_1_method_3_code
def yX5_setBase : MethodName := ⟨RX5, "setBase", "(III)I"⟩
abbrev cX5_reset : ByteArray := prog_1_method_4_code
def yX5_reset : MethodName := ⟨RX5, "reset", "(II)I"⟩
abbrev cX5_addCopy : ByteArray := prog_1_method_5_code
def yX5_addCopy : MethodName := ⟨RX5, "addCopy", "(III)I"⟩
abbrev cX5_addRun : ByteArray := prog_1_method_6_code
def yX5_addRun : MethodName := ⟨RX5, "addRun", "(III)I"⟩
abbrev cX5_addMove : ByteArray := prog_1_method_7_code
def yX5_addMove : MethodName := ⟨RX5, "addMove", "(III)I"⟩
abbrev cX5_addRemove : ByteArray := prog_1_method_8_code
def yX5_addRemove : MethodName := ⟨RX5, "addRemove", "(II)I"⟩
abbrev cX5_addSet : ByteArray := prog_1_method_9_code
def yX5_addSet : MethodName := ⟨RX5, "addSet", "(III)I"⟩
abbrev cX5_drop : ByteArray := prog_1_method_10_code
def yX5_drop : MethodName := ⟨RX5, "drop", "(II)I"⟩
abbrev cX5_instructions : ByteArray := prog_1_method_11_code
def yX5_instructions : MethodName := ⟨RX5, "instructions", "(I)I"⟩
abbrev cX5_start : ByteArray := prog_1_method_12_code
def yX5_start : MethodName := ⟨RX5, "start", "(I)I"⟩
abbrev cX5_step : ByteArray := prog_1_method_13_code
def yX5_step : MethodName := ⟨RX5, "step", "()I"⟩
abbrev cX5_build : ByteArray := prog_1_method_14_code
def yX5_build : MethodName := ⟨RX5, "build", "(I)I"⟩
abbrev cX5_stepsLeft : ByteArray := prog_1_method_15_code
def yX5_stepsLeft : MethodName := ⟨RX5, "stepsLeft", "()I"⟩
abbrev cX5_built : ByteArray := prog_1_method_16_code
def yX5_built : MethodName := ⟨RX5, "built", "()I"⟩
abbrev cX5_hits : ByteArray := prog_1_method_17_code
def yX5_hits : MethodName := ⟨RX5, "hits", "()I"⟩
abbrev cX5_misses : ByteArray := prog_1_method_18_code
def yX5_misses : MethodName := ⟨RX5, "misses", "()I"⟩
abbrev cX5_cleanDigest : ByteArray := prog_1_method_19_code
def yX5_cleanDigest : MethodName := ⟨RX5, "cleanDigest", "(I)I"⟩
abbrev cX5_tag : ByteArray := prog_1_method_20_code
def yX5_tag : MethodName := ⟨RX5, "tag", "(I)I"⟩
abbrev cX5_untag : ByteArray := prog_1_method_21_code
def yX5_untag : MethodName := ⟨RX5, "untag", "(I)I"⟩
abbrev cX5_tagged : ByteArray := prog_1_method_22_code
def yX5_tagged : MethodName := ⟨RX5, "tagged", "(I)I"⟩
abbrev cX5_squash : ByteArray := prog_1_method_23_code
def yX5_squash : MethodName := ⟨RX5, "squash", "(II)I"⟩
abbrev cX5_rebase : ByteArray := prog_1_method_24_code
def yX5_rebase : MethodName := ⟨RX5, "rebase", "(II)I"⟩
abbrev cX5_prune : ByteArray := prog_1_method_25_code
def yX5_prune : MethodName := ⟨RX5, "prune", "()I"⟩
abbrev cX5_layers : ByteArray := prog_1_method_26_code
def yX5_layers : MethodName := ⟨RX5, "layers", "()I"⟩
abbrev cX5_parentOf : ByteArray := prog_1_method_27_code
def yX5_parentOf : MethodName := ⟨RX5, "parentOf", "(I)I"⟩
abbrev cX5_sizeOf : ByteArray := prog_1_method_28_code
def yX5_sizeOf : MethodName := ⟨RX5, "sizeOf", "(I)I"⟩
abbrev cX5_heldAt : ByteArray := prog_1_method_29_code
def yX5_heldAt : MethodName := ⟨RX5, "heldAt", "(II)I"⟩
abbrev cX5_shownAt : ByteArray := prog_1_method_30_code
def yX5_shownAt : MethodName := ⟨RX5, "shownAt", "(II)I"⟩
abbrev cX5_variable : ByteArray := prog_1_method_31_code
def yX5_variable : MethodName := ⟨RX5, "variable", "(II)I"⟩
abbrev cX5_depth : ByteArray := prog_1_method_32_code
def yX5_depth : MethodName := ⟨RX5, "depth", "(I)I"⟩
abbrev cX5_imageSize : ByteArray := prog_1_method_33_code
def yX5_imageSize : MethodName := ⟨RX5, "imageSize", "(I)I"⟩
abbrev cX5_digest : ByteArray := prog_1_method_34_code
def yX5_digest : MethodName := ⟨RX5, "digest", "(I)I"⟩
abbrev cX5_isIn : ByteArray := prog_1_method_35_code
def yX5_isIn : MethodName := ⟨RX5, "isIn", "(II)Z"⟩
abbrev cX5_requireIndex : ByteArray := prog_1_method_36_code
def yX5_requireIndex : MethodName := ⟨RX5, "requireIndex", "(II)V"⟩
abbrev cX5_requireContent : ByteArray := prog_1_method_37_code
def yX5_requireContent : MethodName := ⟨RX5, "requireContent", "(I)V"⟩
abbrev cX5_requireNoBuild : ByteArray := prog_1_method_38_code
def yX5_requireNoBuild : MethodName := ⟨RX5, "requireNoBuild", "()V"⟩
abbrev cX5_requireOpen : ByteArray := prog_1_method_39_code
def yX5_requireOpen : MethodName := ⟨RX5, "requireOpen", "()V"⟩
abbrev cX5_numberOf : ByteArray := prog_1_method_40_code
def yX5_numberOf : MethodName := ⟨RX5, "numberOf", "(LLayeredImages$Layer;)I"⟩
abbrev cX5_recipeAt : ByteArray := prog_1_method_41_code
def yX5_recipeAt : MethodName := ⟨RX5, "recipeAt", "(I)LLayeredImages$Recipe;"⟩
abbrev cX5_layerAt : ByteArray := prog_1_method_42_code
def yX5_layerAt : MethodName := ⟨RX5, "layerAt", "(I)LLayeredImages$Layer;"⟩
abbrev cX5_contentsOf : ByteArray := prog_1_method_43_code
def yX5_contentsOf : MethodName := ⟨RX5, "contentsOf", "(I)[I"⟩
abbrev cX5_addInstruction : ByteArray := prog_1_method_44_code
def yX5_addInstruction : MethodName := ⟨RX5, "addInstruction", "(IIII)I"⟩
abbrev cX5_rootFor : ByteArray := prog_1_method_45_code
def yX5_rootFor : MethodName := ⟨RX5, "rootFor", "(I)LLayeredImages$Layer;"⟩
abbrev cX5_layerOfStep : ByteArray := prog_1_method_46_code
def yX5_layerOfStep : MethodName := ⟨RX5, "layerOfStep", "(LLayeredImages$Layer;LLayeredImages$Instruction;I)LLayeredImages$Layer;"⟩
abbrev cX5_isInTaggedImage : ByteArray := prog_1_method_47_code
def yX5_isInTaggedImage : MethodName := ⟨RX5, "isInTaggedImage", "(LLayeredImages$Layer;)Z"⟩
def RX6 : String := "LayeredImagesModel"
def TX6 : u_T := fun k => match k with
  | 0 => ("LayeredImagesModel", "file", "[I", true)
  | 1 => ("LayeredImagesModel", "shown", "[I", true)
  | 2 => ("LayeredImagesModel", "baseOf", "[I", true)
  | 3 => ("LayeredImagesModel", "many", "[I", true)
  | 4 => ("LayeredImagesModel", "kind", "[I", true)
  | 5 => ("LayeredImagesModel", "one", "[I", true)
  | 6 => ("LayeredImagesModel", "two", "[I", true)
  | 7 => ("LayeredImagesModel", "layers", "I", false)
  | 8 => ("LayeredImagesModel", "isGone", "[Z", true)
  | 9 => ("LayeredImagesModel", "parent", "[I", true)
  | 10 => ("LayeredImagesModel", "held", "[I", true)
  | 11 => ("LayeredImagesModel", "value", "[I", true)
  | 12 => ("LayeredImagesModel", "madeBy", "[I", true)
  | 13 => ("LayeredImagesModel", "first", "[I", true)
  | 14 => ("LayeredImagesModel", "second", "[I", true)
  | 15 => ("LayeredImagesModel", "input", "[I", true)
  | 16 => ("LayeredImagesModel", "tagged", "[I", true)
  | 17 => ("LayeredImagesModel", "goesOn", "Z", false)
  | 18 => ("LayeredImagesModel", "isComplete", "Z", false)
  | 19 => ("LayeredImagesModel", "steps", "I", false)
  | 20 => ("LayeredImagesModel", "done", "I", false)
  | 21 => ("LayeredImagesModel", "stepKind", "[I", true)
  | 22 => ("LayeredImagesModel", "stepOne", "[I", true)
  | 23 => ("LayeredImagesModel", "stepTwo", "[I", true)
  | 24 => ("LayeredImagesModel", "layer", "I", false)
  | 25 => ("LayeredImagesModel", "hits", "I", false)
  | 26 => ("LayeredImagesModel", "misses", "I", false)
  | 27 => ("LayeredImagesModel", "thrown", "I", false)
  | 28 => ("LayeredImagesModel", "clean", "[I", true)
  | 29 => ("LayeredImagesModel", "cleanValue", "[I", true)
  | 30 => ("LayeredImagesModel", "row", "[I", true)
  | _ => ("LayeredImagesModel", "isKept", "[Z", true)
def tyX6 : Nat → FieldType := fun k => match k with
  | 0 => .array .int
  | 1 => .array .int
  | 2 => .array .int
  | 3 => .array .int
  | 4 => .array .int
  | 5 => .array .int
  | 6 => .array .int
  | 7 => .int
  | 8 => .array .boolean
  | 9 => .array .int
  | 10 => .array .int
  | 11 => .array .int
  | 12 => .array .int
  | 13 => .array .int
  | 14 => .array .int
  | 15 => .array .int
  | 16 => .array .int
  | 17 => .boolean
  | 18 => .boolean
  | 19 => .int
  | 20 => .int
  | 21 => .array .int
  | 22 => .array .int
  | 23 => .array .int
  | 24 => .int
  | 25 => .int
  | 26 => .int
  | 27 => .int
  | 28 => .array .int
  | 29 => .array .int
  | 30 => .array .int
  | _ => .array .boolean
abbrev wsX60 : List Cond := u_ws RX6 TX6 32
theorem nmX6 : ∀ a, a < 32 → ∀ b, b < 32 → a ≠ b → (TX6 a).2.1 ≠ (TX6 b).2.1 := by decide +kernel
theorem tyX6_ok : ∀ k, k < 32 → parseFieldDescriptor (TX6 k).2.2.1 = some (tyX6 k) := by decide +kernel
abbrev cX6_init : ByteArray := prog_8_method_1_code
def yX6_init : MethodName := ⟨RX6, "<init>", "()V"⟩
abbrev cX6_thrown : ByteArray := prog_8_method_2_code
def yX6_thrown : MethodName := ⟨RX6, "thrown", "()I"⟩
abbrev cX6_fails : ByteArray := prog_8_method_3_code
def yX6_fails : MethodName := ⟨RX6, "fails", "(I)Z"⟩
abbrev cX6_tells : ByteArray := prog_8_method_4_code
def yX6_tells : MethodName := ⟨RX6, "tells", "(I)I"⟩
abbrev cX6_isIn : ByteArray := prog_8_method_5_code
def yX6_isIn : MethodName := ⟨RX6, "isIn", "(II)Z"⟩
abbrev cX6_isContent : ByteArray := prog_8_method_6_code
def yX6_isContent : MethodName := ⟨RX6, "isContent", "(I)Z"⟩
abbrev cX6_setFile : ByteArray := prog_8_method_7_code
def yX6_setFile : MethodName := ⟨RX6, "setFile", "(II)I"⟩
abbrev cX6_setBase : ByteArray := prog_8_method_8_code
def yX6_setBase : MethodName := ⟨RX6, "setBase", "(III)I"⟩
abbrev cX6_reset : ByteArray := prog_8_method_9_code
def yX6_reset : MethodName := ⟨RX6, "reset", "(II)I"⟩
abbrev cX6_adds : ByteArray := prog_8_method_10_code
def yX6_adds : MethodName := ⟨RX6, "adds", "(IIIIII)I"⟩
abbrev cX6_addCopy : ByteArray := prog_8_method_11_code
def yX6_addCopy : MethodName := ⟨RX6, "addCopy", "(III)I"⟩
abbrev cX6_addRun : ByteArray := prog_8_method_12_code
def yX6_addRun : MethodName := ⟨RX6, "addRun", "(III)I"⟩
abbrev cX6_addMove : ByteArray := prog_8_method_13_code
def yX6_addMove : MethodName := ⟨RX6, "addMove", "(III)I"⟩
abbrev cX6_addRemove : ByteArray := prog_8_method_14_code
def yX6_addRemove : MethodName := ⟨RX6, "addRemove", "(II)I"⟩
abbrev cX6_addSet : ByteArray := prog_8_method_15_code
def yX6_addSet : MethodName := ⟨RX6, "addSet", "(III)I"⟩
abbrev cX6_drop : ByteArray := prog_8_method_16_code
def yX6_drop : MethodName := ⟨RX6, "drop", "(II)I"⟩
abbrev cX6_instructions : ByteArray := prog_8_method_17_code
def yX6_instructions : MethodName := ⟨RX6, "instructions", "(I)I"⟩
abbrev cX6_is : ByteArray := prog_8_method_18_code
def yX6_is : MethodName := ⟨RX6, "is", "(I)Z"⟩
abbrev cX6_shows : ByteArray := prog_8_method_19_code
def yX6_shows : MethodName := ⟨RX6, "shows", "(II)I"⟩
abbrev cX6_makes : ByteArray := prog_8_method_20_code
def yX6_makes : MethodName := ⟨RX6, "makes", "(I)I"⟩
abbrev cX6_root : ByteArray := prog_8_method_21_code
def yX6_root : MethodName := ⟨RX6, "root", "(I)I"⟩
abbrev cX6_begins : ByteArray := prog_8_method_22_code
def yX6_begins : MethodName := ⟨RX6, "begins", "(I)V"⟩
abbrev cX6_start : ByteArray := prog_8_method_23_code
def yX6_start : MethodName := ⟨RX6, "start", "(I)I"⟩
abbrev cX6_canStep : ByteArray := prog_8_method_24_code
def yX6_canStep : MethodName := ⟨RX6, "canStep", "(II)Z"⟩
abbrev cX6_cached : ByteArray := prog_8_method_25_code
def yX6_cached : MethodName := ⟨RX6, "cached", "(IIII)I"⟩
abbrev cX6_layerFor : ByteArray := prog_8_method_26_code
def yX6_layerFor : MethodName := ⟨RX6, "layerFor", "(IIII)I"⟩
abbrev cX6_goes : ByteArray := prog_8_method_27_code
def yX6_goes : MethodName := ⟨RX6, "goes", "()I"⟩
abbrev cX6_step : ByteArray := prog_8_method_28_code
def yX6_step : MethodName := ⟨RX6, "step", "()I"⟩
abbrev cX6_build : ByteArray := prog_8_method_29_code
def yX6_build : MethodName := ⟨RX6, "build", "(I)I"⟩
abbrev cX6_stepsLeft : ByteArray := prog_8_method_30_code
def yX6_stepsLeft : MethodName := ⟨RX6, "stepsLeft", "()I"⟩
abbrev cX6_result : ByteArray := prog_8_method_31_code
def yX6_result : MethodName := ⟨RX6, "result", "()I"⟩
abbrev cX6_built : ByteArray := prog_8_method_32_code
def yX6_built : MethodName := ⟨RX6, "built", "()I"⟩
abbrev cX6_hits : ByteArray := prog_8_method_33_code
def yX6_hits : MethodName := ⟨RX6, "hits", "()I"⟩
abbrev cX6_misses : ByteArray := prog_8_method_34_code
def yX6_misses : MethodName := ⟨RX6, "misses", "()I"⟩
abbrev cX6_cleans : ByteArray := prog_8_method_35_code
def yX6_cleans : MethodName := ⟨RX6, "cleans", "(III)Z"⟩
abbrev cX6_cleanDigest : ByteArray := prog_8_method_36_code
def yX6_cleanDigest : MethodName := ⟨RX6, "cleanDigest", "(I)I"⟩
abbrev cX6_tag : ByteArray := prog_8_method_37_code
def yX6_tag : MethodName := ⟨RX6, "tag", "(I)I"⟩
abbrev cX6_untag : ByteArray := prog_8_method_38_code
def yX6_untag : MethodName := ⟨RX6, "untag", "(I)I"⟩
abbrev cX6_tagged : ByteArray := prog_8_method_39_code
def yX6_tagged : MethodName := ⟨RX6, "tagged", "(I)I"⟩
abbrev cX6_deep : ByteArray := prog_8_method_40_code
def yX6_deep : MethodName := ⟨RX6, "deep", "(I)I"⟩
abbrev cX6_squash : ByteArray := prog_8_method_41_code
def yX6_squash : MethodName := ⟨RX6, "squash", "(II)I"⟩
abbrev cX6_rebase : ByteArray := prog_8_method_42_code
def yX6_rebase : MethodName := ⟨RX6, "rebase", "(II)I"⟩
abbrev cX6_prune : ByteArray := prog_8_method_43_code
def yX6_prune : MethodName := ⟨RX6, "prune", "()I"⟩
abbrev cX6_layers : ByteArray := prog_8_method_44_code
def yX6_layers : MethodName := ⟨RX6, "layers", "()I"⟩
abbrev cX6_parentOf : ByteArray := prog_8_method_45_code
def yX6_parentOf : MethodName := ⟨RX6, "parentOf", "(I)I"⟩
abbrev cX6_size : ByteArray := prog_8_method_46_code
def yX6_size : MethodName := ⟨RX6, "size", "(I)I"⟩
abbrev cX6_sizeOf : ByteArray := prog_8_method_47_code
def yX6_sizeOf : MethodName := ⟨RX6, "sizeOf", "(I)I"⟩
abbrev cX6_heldAt : ByteArray := prog_8_method_48_code
def yX6_heldAt : MethodName := ⟨RX6, "heldAt", "(II)I"⟩
abbrev cX6_shownAt : ByteArray := prog_8_method_49_code
def yX6_shownAt : MethodName := ⟨RX6, "shownAt", "(II)I"⟩
abbrev cX6_variable : ByteArray := prog_8_method_50_code
def yX6_variable : MethodName := ⟨RX6, "variable", "(II)I"⟩
abbrev cX6_depth : ByteArray := prog_8_method_51_code
def yX6_depth : MethodName := ⟨RX6, "depth", "(I)I"⟩
abbrev cX6_imageSize : ByteArray := prog_8_method_52_code
def yX6_imageSize : MethodName := ⟨RX6, "imageSize", "(I)I"⟩
abbrev cX6_digest : ByteArray := prog_8_method_53_code
def yX6_digest : MethodName := ⟨RX6, "digest", "(I)I"⟩
def RJx145de : String := "java/io/Serializable"
def TJx145de : u_T := fun k => match k with
  | _ => ("", "", "", false)
def tyJx145de : Nat → FieldType := fun k => match k with
  | _ => .int
abbrev wsJx145de0 : List Cond := u_ws RJx145de TJx145de 0
theorem nmJx145de : ∀ a, a < 0 → ∀ b, b < 0 → a ≠ b → (TJx145de a).2.1 ≠ (TJx145de b).2.1 := by decide +kernel
theorem tyJx145de_ok : ∀ k, k < 0 → parseFieldDescriptor (TJx145de k).2.2.1 = some (tyJx145de k) := by decide +kernel
def RJ0 : String := "java/lang/String"
def TJ0 : u_T := fun k => match k with
  | _ => ("", "", "", false)
def tyJ0 : Nat → FieldType := fun k => match k with
  | _ => .int
abbrev wsJ00 : List Cond := u_ws RJ0 TJ0 0
theorem nmJ0 : ∀ a, a < 0 → ∀ b, b < 0 → a ≠ b → (TJ0 a).2.1 ≠ (TJ0 b).2.1 := by decide +kernel
theorem tyJ0_ok : ∀ k, k < 0 → parseFieldDescriptor (TJ0 k).2.2.1 = some (tyJ0 k) := by decide +kernel
def RJ7 : String := "java/util/Arrays"
def TJ7 : u_T := fun k => match k with
  | _ => ("", "", "", false)
def tyJ7 : Nat → FieldType := fun k => match k with
  | _ => .int
abbrev wsJ70 : List Cond := u_ws RJ7 TJ7 0
theorem nmJ7 : ∀ a, a < 0 → ∀ b, b < 0 → a ≠ b → (TJ7 a).2.1 ≠ (TJ7 b).2.1 := by decide +kernel
theorem tyJ7_ok : ∀ k, k < 0 → parseFieldDescriptor (TJ7 k).2.2.1 = some (tyJ7 k) := by decide +kernel
abbrev cJ7_fill_53178 : ByteArray := prog_16_method_103_code
def yJ7_fill_53178 : MethodName := ⟨RJ7, "fill", "([II)V"⟩
def RL : String := "LayeredImagesLaw"
abbrev cL_setFile : ByteArray := method_3_code
def yL_setFile : MethodName := ⟨RL, "setFile", "(LLayeredImages;II[J)I"⟩
abbrev cL_setBase : ByteArray := method_4_code
def yL_setBase : MethodName := ⟨RL, "setBase", "(LLayeredImages;III[J)I"⟩
abbrev cL_reset : ByteArray := method_5_code
def yL_reset : MethodName := ⟨RL, "reset", "(LLayeredImages;II[J)I"⟩
abbrev cL_addCopy : ByteArray := method_6_code
def yL_addCopy : MethodName := ⟨RL, "addCopy", "(LLayeredImages;III[J)I"⟩
abbrev cL_addRun : ByteArray := method_7_code
def yL_addRun : MethodName := ⟨RL, "addRun", "(LLayeredImages;III[J)I"⟩
abbrev cL_addMove : ByteArray := method_8_code
def yL_addMove : MethodName := ⟨RL, "addMove", "(LLayeredImages;III[J)I"⟩
abbrev cL_addRemove : ByteArray := method_9_code
def yL_addRemove : MethodName := ⟨RL, "addRemove", "(LLayeredImages;II[J)I"⟩
abbrev cL_addSet : ByteArray := method_10_code
def yL_addSet : MethodName := ⟨RL, "addSet", "(LLayeredImages;III[J)I"⟩
abbrev cL_drop : ByteArray := method_11_code
def yL_drop : MethodName := ⟨RL, "drop", "(LLayeredImages;II[J)I"⟩
abbrev cL_instructions : ByteArray := method_12_code
def yL_instructions : MethodName := ⟨RL, "instructions", "(LLayeredImages;I[J)I"⟩
abbrev cL_start : ByteArray := method_13_code
def yL_start : MethodName := ⟨RL, "start", "(LLayeredImages;I[J)I"⟩
abbrev cL_step : ByteArray := method_14_code
def yL_step : MethodName := ⟨RL, "step", "(LLayeredImages;[J)I"⟩
abbrev cL_build : ByteArray := method_15_code
def yL_build : MethodName := ⟨RL, "build", "(LLayeredImages;I[J)I"⟩
abbrev cL_cleanDigest : ByteArray := method_16_code
def yL_cleanDigest : MethodName := ⟨RL, "cleanDigest", "(LLayeredImages;I[J)I"⟩
abbrev cL_tag : ByteArray := method_17_code
def yL_tag : MethodName := ⟨RL, "tag", "(LLayeredImages;I[J)I"⟩
abbrev cL_untag : ByteArray := method_18_code
def yL_untag : MethodName := ⟨RL, "untag", "(LLayeredImages;I[J)I"⟩
abbrev cL_tagged : ByteArray := method_19_code
def yL_tagged : MethodName := ⟨RL, "tagged", "(LLayeredImages;I[J)I"⟩
abbrev cL_squash : ByteArray := method_20_code
def yL_squash : MethodName := ⟨RL, "squash", "(LLayeredImages;II[J)I"⟩
abbrev cL_rebase : ByteArray := method_21_code
def yL_rebase : MethodName := ⟨RL, "rebase", "(LLayeredImages;II[J)I"⟩
abbrev cL_prune : ByteArray := method_22_code
def yL_prune : MethodName := ⟨RL, "prune", "(LLayeredImages;[J)I"⟩
abbrev cL_parentOf : ByteArray := method_23_code
def yL_parentOf : MethodName := ⟨RL, "parentOf", "(LLayeredImages;I[J)I"⟩
abbrev cL_sizeOf : ByteArray := method_24_code
def yL_sizeOf : MethodName := ⟨RL, "sizeOf", "(LLayeredImages;I[J)I"⟩
abbrev cL_heldAt : ByteArray := method_25_code
def yL_heldAt : MethodName := ⟨RL, "heldAt", "(LLayeredImages;II[J)I"⟩
abbrev cL_shownAt : ByteArray := method_26_code
def yL_shownAt : MethodName := ⟨RL, "shownAt", "(LLayeredImages;II[J)I"⟩
abbrev cL_variable : ByteArray := method_27_code
def yL_variable : MethodName := ⟨RL, "variable", "(LLayeredImages;II[J)I"⟩
abbrev cL_depth : ByteArray := method_28_code
def yL_depth : MethodName := ⟨RL, "depth", "(LLayeredImages;I[J)I"⟩
abbrev cL_imageSize : ByteArray := method_29_code
def yL_imageSize : MethodName := ⟨RL, "imageSize", "(LLayeredImages;I[J)I"⟩
abbrev cL_digest : ByteArray := method_30_code
def yL_digest : MethodName := ⟨RL, "digest", "(LLayeredImages;I[J)I"⟩
abbrev cL_law : ByteArray := code
def yL_law : MethodName := ⟨RL, "law", "([I)Z"⟩
set_option maxRecDepth 20000 in
set_option maxRecDepth 20000 in
set_option maxRecDepth 20000 in
theorem dX0_init_0 : decode cX0_init 0 = .ok (.aload_n 0, 1) := by decide +kernel
theorem dX0_init_1 : decode cX0_init 1 = .ok (.invokespecial 1, 3) := by decide +kernel
theorem dX0_init_4 : decode cX0_init 4 = .ok (.aload_n 0, 1) := by decide +kernel
theorem dX0_init_5 : decode cX0_init 5 = .ok (.new 7, 3) := by decide +kernel
theorem dX0_init_8 : decode cX0_init 8 = .ok (.dup, 1) := by decide +kernel
theorem dX0_init_9 : decode cX0_init 9 = .ok (.invokespecial 9, 3) := by decide +kernel
theorem dX0_init_12 : decode cX0_init 12 = .ok (.putfield 10, 3) := by decide +kernel
theorem dX0_init_15 : decode cX0_init 15 = .ok (.return_, 1) := by decide +kernel
set_option maxRecDepth 20000 in
set_option maxRecDepth 20000 in
theorem dX0_begin_0 : decode cX0_begin 0 = .ok (.aload_n 0, 1) := by decide +kernel
theorem dX0_begin_1 : decode cX0_begin 1 = .ok (.getfield 10, 3) := by decide +kernel
theorem dX0_begin_4 : decode cX0_begin 4 = .ok (.aload_n 1, 1) := by decide +kernel
theorem dX0_begin_5 : decode cX0_begin 5 = .ok (.invokevirtual 16, 3) := by decide +kernel
theorem dX0_begin_8 : decode cX0_begin 8 = .ok (.aload_n 0, 1) := by decide +kernel
theorem dX0_begin_9 : decode cX0_begin 9 = .ok (.iconst 0, 1) := by decide +kernel
theorem dX0_begin_10 : decode cX0_begin 10 = .ok (.putfield 20, 3) := by decide +kernel
theorem dX0_begin_13 : decode cX0_begin 13 = .ok (.aload_n 0, 1) := by decide +kernel
theorem dX0_begin_14 : decode cX0_begin 14 = .ok (.aload_n 2, 1) := by decide +kernel
theorem dX0_begin_15 : decode cX0_begin 15 = .ok (.putfield 24, 3) := by decide +kernel
theorem dX0_begin_18 : decode cX0_begin 18 = .ok (.return_, 1) := by decide +kernel
theorem dX0_left_0 : decode cX0_left 0 = .ok (.aload_n 0, 1) := by decide +kernel
theorem dX0_left_1 : decode cX0_left 1 = .ok (.getfield 10, 3) := by decide +kernel
theorem dX0_left_4 : decode cX0_left 4 = .ok (.getfield 28, 3) := by decide +kernel
theorem dX0_left_7 : decode cX0_left 7 = .ok (.aload_n 0, 1) := by decide +kernel
theorem dX0_left_8 : decode cX0_left 8 = .ok (.getfield 20, 3) := by decide +kernel
theorem dX0_left_11 : decode cX0_left 11 = .ok (.isub, 1) := by decide +kernel
theorem dX0_left_12 : decode cX0_left 12 = .ok (.ireturn, 1) := by decide +kernel
set_option maxRecDepth 20000 in
set_option maxRecDepth 20000 in
theorem dX0_goesOn_0 : decode cX0_goesOn 0 = .ok (.aload_n 0, 1) := by decide +kernel
theorem dX0_goesOn_1 : decode cX0_goesOn 1 = .ok (.invokevirtual 31, 3) := by decide +kernel
theorem dX0_goesOn_4 : decode cX0_goesOn 4 = .ok (.ifCond .le 7, 3) := by decide +kernel
theorem dX0_goesOn_7 : decode cX0_goesOn 7 = .ok (.iconst 1, 1) := by decide +kernel
theorem dX0_goesOn_8 : decode cX0_goesOn 8 = .ok (.goto 4, 3) := by decide +kernel
theorem dX0_goesOn_11 : decode cX0_goesOn 11 = .ok (.iconst 0, 1) := by decide +kernel
theorem dX0_goesOn_12 : decode cX0_goesOn 12 = .ok (.ireturn, 1) := by decide +kernel
set_option maxRecDepth 20000 in
set_option maxRecDepth 20000 in
set_option maxRecDepth 20000 in
set_option maxRecDepth 20000 in
theorem dX0_upcoming_0 : decode cX0_upcoming 0 = .ok (.aload_n 0, 1) := by decide +kernel
theorem dX0_upcoming_1 : decode cX0_upcoming 1 = .ok (.invokevirtual 35, 3) := by decide +kernel
theorem dX0_upcoming_4 : decode cX0_upcoming 4 = .ok (.ifCond .eq 17, 3) := by decide +kernel
theorem dX0_upcoming_7 : decode cX0_upcoming 7 = .ok (.aload_n 0, 1) := by decide +kernel
theorem dX0_upcoming_8 : decode cX0_upcoming 8 = .ok (.getfield 10, 3) := by decide +kernel
theorem dX0_upcoming_11 : decode cX0_upcoming 11 = .ok (.aload_n 0, 1) := by decide +kernel
theorem dX0_upcoming_12 : decode cX0_upcoming 12 = .ok (.getfield 20, 3) := by decide +kernel
theorem dX0_upcoming_15 : decode cX0_upcoming 15 = .ok (.invokevirtual 39, 3) := by decide +kernel
theorem dX0_upcoming_18 : decode cX0_upcoming 18 = .ok (.goto 4, 3) := by decide +kernel
theorem dX0_upcoming_21 : decode cX0_upcoming 21 = .ok (.aconst_null, 1) := by decide +kernel
theorem dX0_upcoming_22 : decode cX0_upcoming 22 = .ok (.areturn, 1) := by decide +kernel
theorem dX0_advanceTo_0 : decode cX0_advanceTo 0 = .ok (.aload_n 0, 1) := by decide +kernel
theorem dX0_advanceTo_1 : decode cX0_advanceTo 1 = .ok (.aload_n 1, 1) := by decide +kernel
theorem dX0_advanceTo_2 : decode cX0_advanceTo 2 = .ok (.putfield 24, 3) := by decide +kernel
theorem dX0_advanceTo_5 : decode cX0_advanceTo 5 = .ok (.aload_n 0, 1) := by decide +kernel
theorem dX0_advanceTo_6 : decode cX0_advanceTo 6 = .ok (.dup, 1) := by decide +kernel
theorem dX0_advanceTo_7 : decode cX0_advanceTo 7 = .ok (.getfield 20, 3) := by decide +kernel
theorem dX0_advanceTo_10 : decode cX0_advanceTo 10 = .ok (.iconst 1, 1) := by decide +kernel
theorem dX0_advanceTo_11 : decode cX0_advanceTo 11 = .ok (.iadd, 1) := by decide +kernel
theorem dX0_advanceTo_12 : decode cX0_advanceTo 12 = .ok (.putfield 20, 3) := by decide +kernel
theorem dX0_advanceTo_15 : decode cX0_advanceTo 15 = .ok (.return_, 1) := by decide +kernel
theorem dX0_fail_0 : decode cX0_fail 0 = .ok (.aload_n 0, 1) := by decide +kernel
theorem dX0_fail_1 : decode cX0_fail 1 = .ok (.aconst_null, 1) := by decide +kernel
theorem dX0_fail_2 : decode cX0_fail 2 = .ok (.putfield 24, 3) := by decide +kernel
theorem dX0_fail_5 : decode cX0_fail 5 = .ok (.aload_n 0, 1) := by decide +kernel
theorem dX0_fail_6 : decode cX0_fail 6 = .ok (.aload_n 0, 1) := by decide +kernel
theorem dX0_fail_7 : decode cX0_fail 7 = .ok (.getfield 10, 3) := by decide +kernel
theorem dX0_fail_10 : decode cX0_fail 10 = .ok (.getfield 28, 3) := by decide +kernel
theorem dX0_fail_13 : decode cX0_fail 13 = .ok (.putfield 20, 3) := by decide +kernel
theorem dX0_fail_16 : decode cX0_fail 16 = .ok (.return_, 1) := by decide +kernel
set_option maxRecDepth 20000 in
set_option maxRecDepth 20000 in
theorem dX0_finished_0 : decode cX0_finished 0 = .ok (.aload_n 0, 1) := by decide +kernel
theorem dX0_finished_1 : decode cX0_finished 1 = .ok (.invokevirtual 35, 3) := by decide +kernel
theorem dX0_finished_4 : decode cX0_finished 4 = .ok (.ifCond .eq 7, 3) := by decide +kernel
theorem dX0_finished_7 : decode cX0_finished 7 = .ok (.aconst_null, 1) := by decide +kernel
theorem dX0_finished_8 : decode cX0_finished 8 = .ok (.goto 7, 3) := by decide +kernel
theorem dX0_finished_11 : decode cX0_finished 11 = .ok (.aload_n 0, 1) := by decide +kernel
theorem dX0_finished_12 : decode cX0_finished 12 = .ok (.getfield 24, 3) := by decide +kernel
theorem dX0_finished_15 : decode cX0_finished 15 = .ok (.areturn, 1) := by decide +kernel
theorem dX0_forget_0 : decode cX0_forget 0 = .ok (.aload_n 0, 1) := by decide +kernel
theorem dX0_forget_1 : decode cX0_forget 1 = .ok (.getfield 24, 3) := by decide +kernel
theorem dX0_forget_4 : decode cX0_forget 4 = .ok (.aload_n 1, 1) := by decide +kernel
theorem dX0_forget_5 : decode cX0_forget 5 = .ok (.if_acmp .ne 8, 3) := by decide +kernel
theorem dX0_forget_8 : decode cX0_forget 8 = .ok (.aload_n 0, 1) := by decide +kernel
theorem dX0_forget_9 : decode cX0_forget 9 = .ok (.aconst_null, 1) := by decide +kernel
theorem dX0_forget_10 : decode cX0_forget 10 = .ok (.putfield 24, 3) := by decide +kernel
theorem dX0_forget_13 : decode cX0_forget 13 = .ok (.return_, 1) := by decide +kernel
theorem dX1_init_0 : decode cX1_init 0 = .ok (.aload_n 0, 1) := by decide +kernel
theorem dX1_init_1 : decode cX1_init 1 = .ok (.invokespecial 3, 3) := by decide +kernel
theorem dX1_init_4 : decode cX1_init 4 = .ok (.aload_n 0, 1) := by decide +kernel
theorem dX1_init_5 : decode cX1_init 5 = .ok (.iload_n 1, 1) := by decide +kernel
theorem dX1_init_6 : decode cX1_init 6 = .ok (.putfield 9, 3) := by decide +kernel
theorem dX1_init_9 : decode cX1_init 9 = .ok (.aload_n 0, 1) := by decide +kernel
theorem dX1_init_10 : decode cX1_init 10 = .ok (.iload_n 2, 1) := by decide +kernel
theorem dX1_init_11 : decode cX1_init 11 = .ok (.putfield 15, 3) := by decide +kernel
theorem dX1_init_14 : decode cX1_init 14 = .ok (.aload_n 0, 1) := by decide +kernel
theorem dX1_init_15 : decode cX1_init 15 = .ok (.iload_n 3, 1) := by decide +kernel
theorem dX1_init_16 : decode cX1_init 16 = .ok (.putfield 18, 3) := by decide +kernel
theorem dX1_init_19 : decode cX1_init 19 = .ok (.return_, 1) := by decide +kernel
theorem dX1_isSameAs_0 : decode cX1_isSameAs 0 = .ok (.aload_n 0, 1) := by decide +kernel
theorem dX1_isSameAs_1 : decode cX1_isSameAs 1 = .ok (.getfield 9, 3) := by decide +kernel
theorem dX1_isSameAs_4 : decode cX1_isSameAs 4 = .ok (.aload_n 1, 1) := by decide +kernel
theorem dX1_isSameAs_5 : decode cX1_isSameAs 5 = .ok (.getfield 9, 3) := by decide +kernel
theorem dX1_isSameAs_8 : decode cX1_isSameAs 8 = .ok (.if_icmp .ne 29, 3) := by decide +kernel
theorem dX1_isSameAs_11 : decode cX1_isSameAs 11 = .ok (.aload_n 0, 1) := by decide +kernel
theorem dX1_isSameAs_12 : decode cX1_isSameAs 12 = .ok (.getfield 15, 3) := by decide +kernel
theorem dX1_isSameAs_15 : decode cX1_isSameAs 15 = .ok (.aload_n 1, 1) := by decide +kernel
theorem dX1_isSameAs_16 : decode cX1_isSameAs 16 = .ok (.getfield 15, 3) := by decide +kernel
theorem dX1_isSameAs_19 : decode cX1_isSameAs 19 = .ok (.if_icmp .ne 18, 3) := by decide +kernel
theorem dX1_isSameAs_22 : decode cX1_isSameAs 22 = .ok (.aload_n 0, 1) := by decide +kernel
theorem dX1_isSameAs_23 : decode cX1_isSameAs 23 = .ok (.getfield 18, 3) := by decide +kernel
theorem dX1_isSameAs_26 : decode cX1_isSameAs 26 = .ok (.aload_n 1, 1) := by decide +kernel
theorem dX1_isSameAs_27 : decode cX1_isSameAs 27 = .ok (.getfield 18, 3) := by decide +kernel
theorem dX1_isSameAs_30 : decode cX1_isSameAs 30 = .ok (.if_icmp .ne 7, 3) := by decide +kernel
theorem dX1_isSameAs_33 : decode cX1_isSameAs 33 = .ok (.iconst 1, 1) := by decide +kernel
theorem dX1_isSameAs_34 : decode cX1_isSameAs 34 = .ok (.goto 4, 3) := by decide +kernel
theorem dX1_isSameAs_37 : decode cX1_isSameAs 37 = .ok (.iconst 0, 1) := by decide +kernel
theorem dX1_isSameAs_38 : decode cX1_isSameAs 38 = .ok (.ireturn, 1) := by decide +kernel
set_option maxRecDepth 20000 in
set_option maxRecDepth 20000 in
theorem dX1_inputFrom_0 : decode cX1_inputFrom 0 = .ok (.aload_n 0, 1) := by decide +kernel
theorem dX1_inputFrom_1 : decode cX1_inputFrom 1 = .ok (.getfield 9, 3) := by decide +kernel
theorem dX1_inputFrom_4 : decode cX1_inputFrom 4 = .ok (.ifCond .ne 24, 3) := by decide +kernel
theorem dX1_inputFrom_7 : decode cX1_inputFrom 7 = .ok (.aload_n 0, 1) := by decide +kernel
theorem dX1_inputFrom_8 : decode cX1_inputFrom 8 = .ok (.getfield 15, 3) := by decide +kernel
theorem dX1_inputFrom_11 : decode cX1_inputFrom 11 = .ok (.aload_n 1, 1) := by decide +kernel
theorem dX1_inputFrom_12 : decode cX1_inputFrom 12 = .ok (.arraylength, 1) := by decide +kernel
theorem dX1_inputFrom_13 : decode cX1_inputFrom 13 = .ok (.invokestatic 21, 3) := by decide +kernel
theorem dX1_inputFrom_16 : decode cX1_inputFrom 16 = .ok (.ifCond .eq 12, 3) := by decide +kernel
theorem dX1_inputFrom_19 : decode cX1_inputFrom 19 = .ok (.aload_n 1, 1) := by decide +kernel
theorem dX1_inputFrom_20 : decode cX1_inputFrom 20 = .ok (.aload_n 0, 1) := by decide +kernel
theorem dX1_inputFrom_21 : decode cX1_inputFrom 21 = .ok (.getfield 15, 3) := by decide +kernel
theorem dX1_inputFrom_24 : decode cX1_inputFrom 24 = .ok (.iaload, 1) := by decide +kernel
theorem dX1_inputFrom_25 : decode cX1_inputFrom 25 = .ok (.goto 4, 3) := by decide +kernel
theorem dX1_inputFrom_28 : decode cX1_inputFrom 28 = .ok (.iconst (-1), 1) := by decide +kernel
theorem dX1_inputFrom_29 : decode cX1_inputFrom 29 = .ok (.ireturn, 1) := by decide +kernel
set_option maxRecDepth 20000 in
set_option maxRecDepth 20000 in
theorem dX1_failsOn_0 : decode cX1_failsOn 0 = .ok (.aload_n 0, 1) := by decide +kernel
theorem dX1_failsOn_1 : decode cX1_failsOn 1 = .ok (.getfield 9, 3) := by decide +kernel
theorem dX1_failsOn_4 : decode cX1_failsOn 4 = .ok (.tableswitch 61 0 3 #[32, 61, 43, 43], 32) := by decide +kernel
theorem dX1_failsOn_36 : decode cX1_failsOn 36 = .ok (.iload_n 2, 1) := by decide +kernel
theorem dX1_failsOn_37 : decode cX1_failsOn 37 = .ok (.iconst (-1), 1) := by decide +kernel
theorem dX1_failsOn_38 : decode cX1_failsOn 38 = .ok (.if_icmp .ne 7, 3) := by decide +kernel
theorem dX1_failsOn_41 : decode cX1_failsOn 41 = .ok (.iconst 1, 1) := by decide +kernel
theorem dX1_failsOn_42 : decode cX1_failsOn 42 = .ok (.goto 4, 3) := by decide +kernel
theorem dX1_failsOn_45 : decode cX1_failsOn 45 = .ok (.iconst 0, 1) := by decide +kernel
theorem dX1_failsOn_46 : decode cX1_failsOn 46 = .ok (.ireturn, 1) := by decide +kernel
theorem dX1_failsOn_47 : decode cX1_failsOn 47 = .ok (.aload_n 1, 1) := by decide +kernel
theorem dX1_failsOn_48 : decode cX1_failsOn 48 = .ok (.aload_n 0, 1) := by decide +kernel
theorem dX1_failsOn_49 : decode cX1_failsOn 49 = .ok (.getfield 15, 3) := by decide +kernel
theorem dX1_failsOn_52 : decode cX1_failsOn 52 = .ok (.invokevirtual 25, 3) := by decide +kernel
theorem dX1_failsOn_55 : decode cX1_failsOn 55 = .ok (.iconst (-1), 1) := by decide +kernel
theorem dX1_failsOn_56 : decode cX1_failsOn 56 = .ok (.if_icmp .ne 7, 3) := by decide +kernel
theorem dX1_failsOn_59 : decode cX1_failsOn 59 = .ok (.iconst 1, 1) := by decide +kernel
theorem dX1_failsOn_60 : decode cX1_failsOn 60 = .ok (.goto 4, 3) := by decide +kernel
theorem dX1_failsOn_63 : decode cX1_failsOn 63 = .ok (.iconst 0, 1) := by decide +kernel
theorem dX1_failsOn_64 : decode cX1_failsOn 64 = .ok (.ireturn, 1) := by decide +kernel
theorem dX1_failsOn_65 : decode cX1_failsOn 65 = .ok (.iconst 0, 1) := by decide +kernel
theorem dX1_failsOn_66 : decode cX1_failsOn 66 = .ok (.ireturn, 1) := by decide +kernel
set_option maxRecDepth 20000 in
set_option maxRecDepth 20000 in
set_option maxRecDepth 20000 in
set_option maxRecDepth 20000 in
set_option maxRecDepth 20000 in
set_option maxRecDepth 20000 in
set_option maxRecDepth 20000 in
set_option maxRecDepth 20000 in
set_option maxRecDepth 20000 in
set_option maxRecDepth 20000 in
theorem dX1_carryOut_0 : decode cX1_carryOut 0 = .ok (.aload_n 0, 1) := by decide +kernel
theorem dX1_carryOut_1 : decode cX1_carryOut 1 = .ok (.getfield 9, 3) := by decide +kernel
theorem dX1_carryOut_4 : decode cX1_carryOut 4 = .ok (.tableswitch 135 0 4 #[36, 48, 78, 107, 120], 36) := by decide +kernel
theorem dX1_carryOut_40 : decode cX1_carryOut 40 = .ok (.aload_n 1, 1) := by decide +kernel
theorem dX1_carryOut_41 : decode cX1_carryOut 41 = .ok (.aload_n 0, 1) := by decide +kernel
theorem dX1_carryOut_42 : decode cX1_carryOut 42 = .ok (.getfield 18, 3) := by decide +kernel
theorem dX1_carryOut_45 : decode cX1_carryOut 45 = .ok (.iload_n 2, 1) := by decide +kernel
theorem dX1_carryOut_46 : decode cX1_carryOut 46 = .ok (.invokevirtual 31, 3) := by decide +kernel
theorem dX1_carryOut_49 : decode cX1_carryOut 49 = .ok (.goto 90, 3) := by decide +kernel
theorem dX1_carryOut_52 : decode cX1_carryOut 52 = .ok (.aload_n 1, 1) := by decide +kernel
theorem dX1_carryOut_53 : decode cX1_carryOut 53 = .ok (.aload_n 0, 1) := by decide +kernel
theorem dX1_carryOut_54 : decode cX1_carryOut 54 = .ok (.getfield 15, 3) := by decide +kernel
theorem dX1_carryOut_57 : decode cX1_carryOut 57 = .ok (.aload_n 1, 1) := by decide +kernel
theorem dX1_carryOut_58 : decode cX1_carryOut 58 = .ok (.aload_n 0, 1) := by decide +kernel
theorem dX1_carryOut_59 : decode cX1_carryOut 59 = .ok (.getfield 15, 3) := by decide +kernel
theorem dX1_carryOut_62 : decode cX1_carryOut 62 = .ok (.invokevirtual 25, 3) := by decide +kernel
theorem dX1_carryOut_65 : decode cX1_carryOut 65 = .ok (.aload_n 1, 1) := by decide +kernel
theorem dX1_carryOut_66 : decode cX1_carryOut 66 = .ok (.aload_n 0, 1) := by decide +kernel
theorem dX1_carryOut_67 : decode cX1_carryOut 67 = .ok (.getfield 18, 3) := by decide +kernel
theorem dX1_carryOut_70 : decode cX1_carryOut 70 = .ok (.invokevirtual 35, 3) := by decide +kernel
theorem dX1_carryOut_73 : decode cX1_carryOut 73 = .ok (.invokestatic 38, 3) := by decide +kernel
theorem dX1_carryOut_76 : decode cX1_carryOut 76 = .ok (.invokevirtual 31, 3) := by decide +kernel
theorem dX1_carryOut_79 : decode cX1_carryOut 79 = .ok (.goto 60, 3) := by decide +kernel
theorem dX1_carryOut_82 : decode cX1_carryOut 82 = .ok (.aload_n 1, 1) := by decide +kernel
theorem dX1_carryOut_83 : decode cX1_carryOut 83 = .ok (.aload_n 0, 1) := by decide +kernel
theorem dX1_carryOut_84 : decode cX1_carryOut 84 = .ok (.getfield 18, 3) := by decide +kernel
theorem dX1_carryOut_87 : decode cX1_carryOut 87 = .ok (.aload_n 1, 1) := by decide +kernel
theorem dX1_carryOut_88 : decode cX1_carryOut 88 = .ok (.aload_n 0, 1) := by decide +kernel
theorem dX1_carryOut_89 : decode cX1_carryOut 89 = .ok (.getfield 15, 3) := by decide +kernel
theorem dX1_carryOut_92 : decode cX1_carryOut 92 = .ok (.invokevirtual 25, 3) := by decide +kernel
theorem dX1_carryOut_95 : decode cX1_carryOut 95 = .ok (.invokevirtual 31, 3) := by decide +kernel
theorem dX1_carryOut_98 : decode cX1_carryOut 98 = .ok (.aload_n 1, 1) := by decide +kernel
theorem dX1_carryOut_99 : decode cX1_carryOut 99 = .ok (.aload_n 0, 1) := by decide +kernel
theorem dX1_carryOut_100 : decode cX1_carryOut 100 = .ok (.getfield 15, 3) := by decide +kernel
theorem dX1_carryOut_103 : decode cX1_carryOut 103 = .ok (.bipush (-2), 2) := by decide +kernel
theorem dX1_carryOut_105 : decode cX1_carryOut 105 = .ok (.invokevirtual 31, 3) := by decide +kernel
theorem dX1_carryOut_108 : decode cX1_carryOut 108 = .ok (.goto 31, 3) := by decide +kernel
theorem dX1_carryOut_111 : decode cX1_carryOut 111 = .ok (.aload_n 1, 1) := by decide +kernel
theorem dX1_carryOut_112 : decode cX1_carryOut 112 = .ok (.aload_n 0, 1) := by decide +kernel
theorem dX1_carryOut_113 : decode cX1_carryOut 113 = .ok (.getfield 15, 3) := by decide +kernel
theorem dX1_carryOut_116 : decode cX1_carryOut 116 = .ok (.bipush (-2), 2) := by decide +kernel
theorem dX1_carryOut_118 : decode cX1_carryOut 118 = .ok (.invokevirtual 31, 3) := by decide +kernel
theorem dX1_carryOut_121 : decode cX1_carryOut 121 = .ok (.goto 18, 3) := by decide +kernel
theorem dX1_carryOut_124 : decode cX1_carryOut 124 = .ok (.aload_n 1, 1) := by decide +kernel
theorem dX1_carryOut_125 : decode cX1_carryOut 125 = .ok (.aload_n 0, 1) := by decide +kernel
theorem dX1_carryOut_126 : decode cX1_carryOut 126 = .ok (.getfield 15, 3) := by decide +kernel
theorem dX1_carryOut_129 : decode cX1_carryOut 129 = .ok (.aload_n 0, 1) := by decide +kernel
theorem dX1_carryOut_130 : decode cX1_carryOut 130 = .ok (.getfield 18, 3) := by decide +kernel
theorem dX1_carryOut_133 : decode cX1_carryOut 133 = .ok (.invokevirtual 42, 3) := by decide +kernel
theorem dX1_carryOut_136 : decode cX1_carryOut 136 = .ok (.goto 3, 3) := by decide +kernel
theorem dX1_carryOut_139 : decode cX1_carryOut 139 = .ok (.return_, 1) := by decide +kernel
theorem dX1_runOn_0 : decode cX1_runOn 0 = .ok (.iload_n 0, 1) := by decide +kernel
theorem dX1_runOn_1 : decode cX1_runOn 1 = .ok (.iconst (-1), 1) := by decide +kernel
theorem dX1_runOn_2 : decode cX1_runOn 2 = .ok (.if_icmp .ne 7, 3) := by decide +kernel
theorem dX1_runOn_5 : decode cX1_runOn 5 = .ok (.iconst 0, 1) := by decide +kernel
theorem dX1_runOn_6 : decode cX1_runOn 6 = .ok (.goto 4, 3) := by decide +kernel
theorem dX1_runOn_9 : decode cX1_runOn 9 = .ok (.iload_n 0, 1) := by decide +kernel
theorem dX1_runOn_10 : decode cX1_runOn 10 = .ok (.istore_n 2, 1) := by decide +kernel
theorem dX1_runOn_11 : decode cX1_runOn 11 = .ok (.bipush 31, 2) := by decide +kernel
theorem dX1_runOn_13 : decode cX1_runOn 13 = .ok (.iload_n 2, 1) := by decide +kernel
theorem dX1_runOn_14 : decode cX1_runOn 14 = .ok (.imul, 1) := by decide +kernel
theorem dX1_runOn_15 : decode cX1_runOn 15 = .ok (.iload_n 1, 1) := by decide +kernel
theorem dX1_runOn_16 : decode cX1_runOn 16 = .ok (.iadd, 1) := by decide +kernel
theorem dX1_runOn_17 : decode cX1_runOn 17 = .ok (.iconst 1, 1) := by decide +kernel
theorem dX1_runOn_18 : decode cX1_runOn 18 = .ok (.iadd, 1) := by decide +kernel
theorem dX1_runOn_19 : decode cX1_runOn 19 = .ok (.sipush 10007, 3) := by decide +kernel
theorem dX1_runOn_22 : decode cX1_runOn 22 = .ok (.irem, 1) := by decide +kernel
theorem dX1_runOn_23 : decode cX1_runOn 23 = .ok (.ireturn, 1) := by decide +kernel
theorem dX2_init_0 : decode cX2_init 0 = .ok (.aload_n 0, 1) := by decide +kernel
theorem dX2_init_1 : decode cX2_init 1 = .ok (.invokespecial 3, 3) := by decide +kernel
theorem dX2_init_4 : decode cX2_init 4 = .ok (.aload_n 0, 1) := by decide +kernel
theorem dX2_init_5 : decode cX2_init 5 = .ok (.bipush 12, 2) := by decide +kernel
theorem dX2_init_7 : decode cX2_init 7 = .ok (.newarray .int, 2) := by decide +kernel
theorem dX2_init_9 : decode cX2_init 9 = .ok (.putfield 9, 3) := by decide +kernel
theorem dX2_init_12 : decode cX2_init 12 = .ok (.aload_n 0, 1) := by decide +kernel
theorem dX2_init_13 : decode cX2_init 13 = .ok (.bipush 12, 2) := by decide +kernel
theorem dX2_init_15 : decode cX2_init 15 = .ok (.newarray .int, 2) := by decide +kernel
theorem dX2_init_17 : decode cX2_init 17 = .ok (.putfield 15, 3) := by decide +kernel
theorem dX2_init_20 : decode cX2_init 20 = .ok (.aload_n 0, 1) := by decide +kernel
theorem dX2_init_21 : decode cX2_init 21 = .ok (.iconst 4, 1) := by decide +kernel
theorem dX2_init_22 : decode cX2_init 22 = .ok (.newarray .int, 2) := by decide +kernel
theorem dX2_init_24 : decode cX2_init 24 = .ok (.putfield 18, 3) := by decide +kernel
theorem dX2_init_27 : decode cX2_init 27 = .ok (.aload_n 0, 1) := by decide +kernel
theorem dX2_init_28 : decode cX2_init 28 = .ok (.iconst (-1), 1) := by decide +kernel
theorem dX2_init_29 : decode cX2_init 29 = .ok (.putfield 21, 3) := by decide +kernel
theorem dX2_init_32 : decode cX2_init 32 = .ok (.aload_n 0, 1) := by decide +kernel
theorem dX2_init_33 : decode cX2_init 33 = .ok (.iload_n 1, 1) := by decide +kernel
theorem dX2_init_34 : decode cX2_init 34 = .ok (.putfield 25, 3) := by decide +kernel
theorem dX2_init_37 : decode cX2_init 37 = .ok (.aload_n 0, 1) := by decide +kernel
theorem dX2_init_38 : decode cX2_init 38 = .ok (.aconst_null, 1) := by decide +kernel
theorem dX2_init_39 : decode cX2_init 39 = .ok (.putfield 28, 3) := by decide +kernel
theorem dX2_init_42 : decode cX2_init 42 = .ok (.aload_n 0, 1) := by decide +kernel
theorem dX2_init_43 : decode cX2_init 43 = .ok (.iconst 0, 1) := by decide +kernel
theorem dX2_init_44 : decode cX2_init 44 = .ok (.putfield 32, 3) := by decide +kernel
theorem dX2_init_47 : decode cX2_init 47 = .ok (.iconst 0, 1) := by decide +kernel
theorem dX2_init_48 : decode cX2_init 48 = .ok (.istore_n 3, 1) := by decide +kernel
theorem dX2_init_49 : decode cX2_init 49 = .ok (.iload_n 3, 1) := by decide +kernel
theorem dX2_init_50 : decode cX2_init 50 = .ok (.bipush 12, 2) := by decide +kernel
theorem dX2_init_52 : decode cX2_init 52 = .ok (.if_icmp .ge 40, 3) := by decide +kernel
theorem dX2_init_55 : decode cX2_init 55 = .ok (.iload_n 3, 1) := by decide +kernel
theorem dX2_init_56 : decode cX2_init 56 = .ok (.aload_n 2, 1) := by decide +kernel
theorem dX2_init_57 : decode cX2_init 57 = .ok (.arraylength, 1) := by decide +kernel
theorem dX2_init_58 : decode cX2_init 58 = .ok (.if_icmp .ge 9, 3) := by decide +kernel
theorem dX2_init_61 : decode cX2_init 61 = .ok (.aload_n 2, 1) := by decide +kernel
theorem dX2_init_62 : decode cX2_init 62 = .ok (.iload_n 3, 1) := by decide +kernel
theorem dX2_init_63 : decode cX2_init 63 = .ok (.iaload, 1) := by decide +kernel
theorem dX2_init_64 : decode cX2_init 64 = .ok (.goto 4, 3) := by decide +kernel
theorem dX2_init_67 : decode cX2_init 67 = .ok (.iconst (-1), 1) := by decide +kernel
theorem dX2_init_68 : decode cX2_init 68 = .ok (.istore 4, 2) := by decide +kernel
theorem dX2_init_70 : decode cX2_init 70 = .ok (.aload_n 0, 1) := by decide +kernel
theorem dX2_init_71 : decode cX2_init 71 = .ok (.getfield 9, 3) := by decide +kernel
theorem dX2_init_74 : decode cX2_init 74 = .ok (.iload_n 3, 1) := by decide +kernel
theorem dX2_init_75 : decode cX2_init 75 = .ok (.iload 4, 2) := by decide +kernel
theorem dX2_init_77 : decode cX2_init 77 = .ok (.iastore, 1) := by decide +kernel
theorem dX2_init_78 : decode cX2_init 78 = .ok (.aload_n 0, 1) := by decide +kernel
theorem dX2_init_79 : decode cX2_init 79 = .ok (.getfield 15, 3) := by decide +kernel
theorem dX2_init_82 : decode cX2_init 82 = .ok (.iload_n 3, 1) := by decide +kernel
theorem dX2_init_83 : decode cX2_init 83 = .ok (.iload 4, 2) := by decide +kernel
theorem dX2_init_85 : decode cX2_init 85 = .ok (.iastore, 1) := by decide +kernel
theorem dX2_init_86 : decode cX2_init 86 = .ok (.iinc 3 1, 3) := by decide +kernel
theorem dX2_init_89 : decode cX2_init 89 = .ok (.goto (-40), 3) := by decide +kernel
theorem dX2_init_92 : decode cX2_init 92 = .ok (.return_, 1) := by decide +kernel
theorem dX2_init__0 : decode cX2_init_ 0 = .ok (.aload_n 0, 1) := by decide +kernel
theorem dX2_init__1 : decode cX2_init_ 1 = .ok (.invokespecial 3, 3) := by decide +kernel
theorem dX2_init__4 : decode cX2_init_ 4 = .ok (.aload_n 0, 1) := by decide +kernel
theorem dX2_init__5 : decode cX2_init_ 5 = .ok (.bipush 12, 2) := by decide +kernel
theorem dX2_init__7 : decode cX2_init_ 7 = .ok (.newarray .int, 2) := by decide +kernel
theorem dX2_init__9 : decode cX2_init_ 9 = .ok (.putfield 9, 3) := by decide +kernel
theorem dX2_init__12 : decode cX2_init_ 12 = .ok (.aload_n 0, 1) := by decide +kernel
theorem dX2_init__13 : decode cX2_init_ 13 = .ok (.bipush 12, 2) := by decide +kernel
theorem dX2_init__15 : decode cX2_init_ 15 = .ok (.newarray .int, 2) := by decide +kernel
theorem dX2_init__17 : decode cX2_init_ 17 = .ok (.putfield 15, 3) := by decide +kernel
theorem dX2_init__20 : decode cX2_init_ 20 = .ok (.aload_n 0, 1) := by decide +kernel
theorem dX2_init__21 : decode cX2_init_ 21 = .ok (.iconst 4, 1) := by decide +kernel
theorem dX2_init__22 : decode cX2_init_ 22 = .ok (.newarray .int, 2) := by decide +kernel
theorem dX2_init__24 : decode cX2_init_ 24 = .ok (.putfield 18, 3) := by decide +kernel
theorem dX2_init__27 : decode cX2_init_ 27 = .ok (.aload_n 0, 1) := by decide +kernel
theorem dX2_init__28 : decode cX2_init_ 28 = .ok (.iconst (-1), 1) := by decide +kernel
theorem dX2_init__29 : decode cX2_init_ 29 = .ok (.putfield 21, 3) := by decide +kernel
theorem dX2_init__32 : decode cX2_init_ 32 = .ok (.aload_n 0, 1) := by decide +kernel
theorem dX2_init__33 : decode cX2_init_ 33 = .ok (.iload_n 1, 1) := by decide +kernel
theorem dX2_init__34 : decode cX2_init_ 34 = .ok (.putfield 25, 3) := by decide +kernel
theorem dX2_init__37 : decode cX2_init_ 37 = .ok (.aload_n 0, 1) := by decide +kernel
theorem dX2_init__38 : decode cX2_init_ 38 = .ok (.aload_n 2, 1) := by decide +kernel
theorem dX2_init__39 : decode cX2_init_ 39 = .ok (.putfield 28, 3) := by decide +kernel
theorem dX2_init__42 : decode cX2_init_ 42 = .ok (.aload_n 0, 1) := by decide +kernel
theorem dX2_init__43 : decode cX2_init_ 43 = .ok (.aload_n 2, 1) := by decide +kernel
theorem dX2_init__44 : decode cX2_init_ 44 = .ok (.getfield 32, 3) := by decide +kernel
theorem dX2_init__47 : decode cX2_init_ 47 = .ok (.iconst 1, 1) := by decide +kernel
theorem dX2_init__48 : decode cX2_init_ 48 = .ok (.iadd, 1) := by decide +kernel
theorem dX2_init__49 : decode cX2_init_ 49 = .ok (.putfield 32, 3) := by decide +kernel
theorem dX2_init__52 : decode cX2_init_ 52 = .ok (.iconst 0, 1) := by decide +kernel
theorem dX2_init__53 : decode cX2_init_ 53 = .ok (.istore_n 3, 1) := by decide +kernel
theorem dX2_init__54 : decode cX2_init_ 54 = .ok (.iload_n 3, 1) := by decide +kernel
theorem dX2_init__55 : decode cX2_init_ 55 = .ok (.bipush 12, 2) := by decide +kernel
theorem dX2_init__57 : decode cX2_init_ 57 = .ok (.if_icmp .ge 28, 3) := by decide +kernel
theorem dX2_init__60 : decode cX2_init_ 60 = .ok (.aload_n 0, 1) := by decide +kernel
theorem dX2_init__61 : decode cX2_init_ 61 = .ok (.getfield 9, 3) := by decide +kernel
theorem dX2_init__64 : decode cX2_init_ 64 = .ok (.iload_n 3, 1) := by decide +kernel
theorem dX2_init__65 : decode cX2_init_ 65 = .ok (.iconst (-1), 1) := by decide +kernel
theorem dX2_init__66 : decode cX2_init_ 66 = .ok (.iastore, 1) := by decide +kernel
theorem dX2_init__67 : decode cX2_init_ 67 = .ok (.aload_n 0, 1) := by decide +kernel
theorem dX2_init__68 : decode cX2_init_ 68 = .ok (.getfield 15, 3) := by decide +kernel
theorem dX2_init__71 : decode cX2_init_ 71 = .ok (.iload_n 3, 1) := by decide +kernel
theorem dX2_init__72 : decode cX2_init_ 72 = .ok (.aload_n 2, 1) := by decide +kernel
theorem dX2_init__73 : decode cX2_init_ 73 = .ok (.getfield 15, 3) := by decide +kernel
theorem dX2_init__76 : decode cX2_init_ 76 = .ok (.iload_n 3, 1) := by decide +kernel
theorem dX2_init__77 : decode cX2_init_ 77 = .ok (.iaload, 1) := by decide +kernel
theorem dX2_init__78 : decode cX2_init_ 78 = .ok (.iastore, 1) := by decide +kernel
theorem dX2_init__79 : decode cX2_init_ 79 = .ok (.iinc 3 1, 3) := by decide +kernel
theorem dX2_init__82 : decode cX2_init_ 82 = .ok (.goto (-28), 3) := by decide +kernel
theorem dX2_init__85 : decode cX2_init_ 85 = .ok (.iconst 0, 1) := by decide +kernel
theorem dX2_init__86 : decode cX2_init_ 86 = .ok (.istore_n 3, 1) := by decide +kernel
theorem dX2_init__87 : decode cX2_init_ 87 = .ok (.iload_n 3, 1) := by decide +kernel
theorem dX2_init__88 : decode cX2_init_ 88 = .ok (.iconst 4, 1) := by decide +kernel
theorem dX2_init__89 : decode cX2_init_ 89 = .ok (.if_icmp .ge 21, 3) := by decide +kernel
theorem dX2_init__92 : decode cX2_init_ 92 = .ok (.aload_n 0, 1) := by decide +kernel
theorem dX2_init__93 : decode cX2_init_ 93 = .ok (.getfield 18, 3) := by decide +kernel
theorem dX2_init__96 : decode cX2_init_ 96 = .ok (.iload_n 3, 1) := by decide +kernel
theorem dX2_init__97 : decode cX2_init_ 97 = .ok (.aload_n 2, 1) := by decide +kernel
theorem dX2_init__98 : decode cX2_init_ 98 = .ok (.getfield 18, 3) := by decide +kernel
theorem dX2_init__101 : decode cX2_init_ 101 = .ok (.iload_n 3, 1) := by decide +kernel
theorem dX2_init__102 : decode cX2_init_ 102 = .ok (.iaload, 1) := by decide +kernel
theorem dX2_init__103 : decode cX2_init_ 103 = .ok (.iastore, 1) := by decide +kernel
theorem dX2_init__104 : decode cX2_init_ 104 = .ok (.iinc 3 1, 3) := by decide +kernel
theorem dX2_init__107 : decode cX2_init_ 107 = .ok (.goto (-20), 3) := by decide +kernel
theorem dX2_init__110 : decode cX2_init_ 110 = .ok (.return_, 1) := by decide +kernel
set_option maxRecDepth 20000 in
set_option maxRecDepth 20000 in
theorem dX2_holds_0 : decode cX2_holds 0 = .ok (.iload_n 1, 1) := by decide +kernel
theorem dX2_holds_1 : decode cX2_holds 1 = .ok (.bipush 12, 2) := by decide +kernel
theorem dX2_holds_3 : decode cX2_holds 3 = .ok (.invokestatic 35, 3) := by decide +kernel
theorem dX2_holds_6 : decode cX2_holds 6 = .ok (.ifCond .eq 12, 3) := by decide +kernel
theorem dX2_holds_9 : decode cX2_holds 9 = .ok (.aload_n 0, 1) := by decide +kernel
theorem dX2_holds_10 : decode cX2_holds 10 = .ok (.getfield 9, 3) := by decide +kernel
theorem dX2_holds_13 : decode cX2_holds 13 = .ok (.iload_n 1, 1) := by decide +kernel
theorem dX2_holds_14 : decode cX2_holds 14 = .ok (.iaload, 1) := by decide +kernel
theorem dX2_holds_15 : decode cX2_holds 15 = .ok (.goto 4, 3) := by decide +kernel
theorem dX2_holds_18 : decode cX2_holds 18 = .ok (.iconst (-1), 1) := by decide +kernel
theorem dX2_holds_19 : decode cX2_holds 19 = .ok (.ireturn, 1) := by decide +kernel
set_option maxRecDepth 20000 in
set_option maxRecDepth 20000 in
theorem dX2_shows_0 : decode cX2_shows 0 = .ok (.iload_n 1, 1) := by decide +kernel
theorem dX2_shows_1 : decode cX2_shows 1 = .ok (.bipush 12, 2) := by decide +kernel
theorem dX2_shows_3 : decode cX2_shows 3 = .ok (.invokestatic 35, 3) := by decide +kernel
theorem dX2_shows_6 : decode cX2_shows 6 = .ok (.ifCond .eq 12, 3) := by decide +kernel
theorem dX2_shows_9 : decode cX2_shows 9 = .ok (.aload_n 0, 1) := by decide +kernel
theorem dX2_shows_10 : decode cX2_shows 10 = .ok (.getfield 15, 3) := by decide +kernel
theorem dX2_shows_13 : decode cX2_shows 13 = .ok (.iload_n 1, 1) := by decide +kernel
theorem dX2_shows_14 : decode cX2_shows 14 = .ok (.iaload, 1) := by decide +kernel
theorem dX2_shows_15 : decode cX2_shows 15 = .ok (.goto 4, 3) := by decide +kernel
theorem dX2_shows_18 : decode cX2_shows 18 = .ok (.iconst (-1), 1) := by decide +kernel
theorem dX2_shows_19 : decode cX2_shows 19 = .ok (.ireturn, 1) := by decide +kernel
set_option maxRecDepth 20000 in
set_option maxRecDepth 20000 in
theorem dX2_value_0 : decode cX2_value 0 = .ok (.iload_n 1, 1) := by decide +kernel
theorem dX2_value_1 : decode cX2_value 1 = .ok (.iconst 4, 1) := by decide +kernel
theorem dX2_value_2 : decode cX2_value 2 = .ok (.invokestatic 35, 3) := by decide +kernel
theorem dX2_value_5 : decode cX2_value 5 = .ok (.ifCond .eq 12, 3) := by decide +kernel
theorem dX2_value_8 : decode cX2_value 8 = .ok (.aload_n 0, 1) := by decide +kernel
theorem dX2_value_9 : decode cX2_value 9 = .ok (.getfield 18, 3) := by decide +kernel
theorem dX2_value_12 : decode cX2_value 12 = .ok (.iload_n 1, 1) := by decide +kernel
theorem dX2_value_13 : decode cX2_value 13 = .ok (.iaload, 1) := by decide +kernel
theorem dX2_value_14 : decode cX2_value 14 = .ok (.goto 4, 3) := by decide +kernel
theorem dX2_value_17 : decode cX2_value 17 = .ok (.iconst 0, 1) := by decide +kernel
theorem dX2_value_18 : decode cX2_value 18 = .ok (.ireturn, 1) := by decide +kernel
set_option maxRecDepth 20000 in
set_option maxRecDepth 20000 in
theorem dX2_hold_0 : decode cX2_hold 0 = .ok (.iload_n 1, 1) := by decide +kernel
theorem dX2_hold_1 : decode cX2_hold 1 = .ok (.bipush 12, 2) := by decide +kernel
theorem dX2_hold_3 : decode cX2_hold 3 = .ok (.invokestatic 35, 3) := by decide +kernel
theorem dX2_hold_6 : decode cX2_hold 6 = .ok (.ifCond .eq 27, 3) := by decide +kernel
theorem dX2_hold_9 : decode cX2_hold 9 = .ok (.aload_n 0, 1) := by decide +kernel
theorem dX2_hold_10 : decode cX2_hold 10 = .ok (.getfield 9, 3) := by decide +kernel
theorem dX2_hold_13 : decode cX2_hold 13 = .ok (.iload_n 1, 1) := by decide +kernel
theorem dX2_hold_14 : decode cX2_hold 14 = .ok (.iload_n 2, 1) := by decide +kernel
theorem dX2_hold_15 : decode cX2_hold 15 = .ok (.iastore, 1) := by decide +kernel
theorem dX2_hold_16 : decode cX2_hold 16 = .ok (.aload_n 0, 1) := by decide +kernel
theorem dX2_hold_17 : decode cX2_hold 17 = .ok (.getfield 15, 3) := by decide +kernel
theorem dX2_hold_20 : decode cX2_hold 20 = .ok (.iload_n 1, 1) := by decide +kernel
theorem dX2_hold_21 : decode cX2_hold 21 = .ok (.iload_n 2, 1) := by decide +kernel
theorem dX2_hold_22 : decode cX2_hold 22 = .ok (.bipush (-2), 2) := by decide +kernel
theorem dX2_hold_24 : decode cX2_hold 24 = .ok (.if_icmp .ne 7, 3) := by decide +kernel
theorem dX2_hold_27 : decode cX2_hold 27 = .ok (.iconst (-1), 1) := by decide +kernel
theorem dX2_hold_28 : decode cX2_hold 28 = .ok (.goto 4, 3) := by decide +kernel
theorem dX2_hold_31 : decode cX2_hold 31 = .ok (.iload_n 2, 1) := by decide +kernel
theorem dX2_hold_32 : decode cX2_hold 32 = .ok (.iastore, 1) := by decide +kernel
theorem dX2_hold_33 : decode cX2_hold 33 = .ok (.return_, 1) := by decide +kernel
set_option maxRecDepth 20000 in
set_option maxRecDepth 20000 in
theorem dX2_assign_0 : decode cX2_assign 0 = .ok (.iload_n 1, 1) := by decide +kernel
theorem dX2_assign_1 : decode cX2_assign 1 = .ok (.iconst 4, 1) := by decide +kernel
theorem dX2_assign_2 : decode cX2_assign 2 = .ok (.invokestatic 35, 3) := by decide +kernel
theorem dX2_assign_5 : decode cX2_assign 5 = .ok (.ifCond .eq 10, 3) := by decide +kernel
theorem dX2_assign_8 : decode cX2_assign 8 = .ok (.aload_n 0, 1) := by decide +kernel
theorem dX2_assign_9 : decode cX2_assign 9 = .ok (.getfield 18, 3) := by decide +kernel
theorem dX2_assign_12 : decode cX2_assign 12 = .ok (.iload_n 1, 1) := by decide +kernel
theorem dX2_assign_13 : decode cX2_assign 13 = .ok (.iload_n 2, 1) := by decide +kernel
theorem dX2_assign_14 : decode cX2_assign 14 = .ok (.iastore, 1) := by decide +kernel
theorem dX2_assign_15 : decode cX2_assign 15 = .ok (.return_, 1) := by decide +kernel
theorem dX2_assignLike_0 : decode cX2_assignLike 0 = .ok (.iconst 0, 1) := by decide +kernel
theorem dX2_assignLike_1 : decode cX2_assignLike 1 = .ok (.istore_n 2, 1) := by decide +kernel
theorem dX2_assignLike_2 : decode cX2_assignLike 2 = .ok (.iload_n 2, 1) := by decide +kernel
theorem dX2_assignLike_3 : decode cX2_assignLike 3 = .ok (.iconst 4, 1) := by decide +kernel
theorem dX2_assignLike_4 : decode cX2_assignLike 4 = .ok (.if_icmp .ge 21, 3) := by decide +kernel
theorem dX2_assignLike_7 : decode cX2_assignLike 7 = .ok (.aload_n 0, 1) := by decide +kernel
theorem dX2_assignLike_8 : decode cX2_assignLike 8 = .ok (.getfield 18, 3) := by decide +kernel
theorem dX2_assignLike_11 : decode cX2_assignLike 11 = .ok (.iload_n 2, 1) := by decide +kernel
theorem dX2_assignLike_12 : decode cX2_assignLike 12 = .ok (.aload_n 1, 1) := by decide +kernel
theorem dX2_assignLike_13 : decode cX2_assignLike 13 = .ok (.getfield 18, 3) := by decide +kernel
theorem dX2_assignLike_16 : decode cX2_assignLike 16 = .ok (.iload_n 2, 1) := by decide +kernel
theorem dX2_assignLike_17 : decode cX2_assignLike 17 = .ok (.iaload, 1) := by decide +kernel
theorem dX2_assignLike_18 : decode cX2_assignLike 18 = .ok (.iastore, 1) := by decide +kernel
theorem dX2_assignLike_19 : decode cX2_assignLike 19 = .ok (.iinc 2 1, 3) := by decide +kernel
theorem dX2_assignLike_22 : decode cX2_assignLike 22 = .ok (.goto (-20), 3) := by decide +kernel
theorem dX2_assignLike_25 : decode cX2_assignLike 25 = .ok (.return_, 1) := by decide +kernel
set_option maxRecDepth 20000 in
set_option maxRecDepth 20000 in
theorem dX2_becomeMadeBy_0 : decode cX2_becomeMadeBy 0 = .ok (.aload_n 0, 1) := by decide +kernel
theorem dX2_becomeMadeBy_1 : decode cX2_becomeMadeBy 1 = .ok (.aload_n 1, 1) := by decide +kernel
theorem dX2_becomeMadeBy_2 : decode cX2_becomeMadeBy 2 = .ok (.putfield 39, 3) := by decide +kernel
theorem dX2_becomeMadeBy_5 : decode cX2_becomeMadeBy 5 = .ok (.aload_n 0, 1) := by decide +kernel
theorem dX2_becomeMadeBy_6 : decode cX2_becomeMadeBy 6 = .ok (.iload_n 2, 1) := by decide +kernel
theorem dX2_becomeMadeBy_7 : decode cX2_becomeMadeBy 7 = .ok (.putfield 21, 3) := by decide +kernel
theorem dX2_becomeMadeBy_10 : decode cX2_becomeMadeBy 10 = .ok (.aload_n 1, 1) := by decide +kernel
theorem dX2_becomeMadeBy_11 : decode cX2_becomeMadeBy 11 = .ok (.aload_n 0, 1) := by decide +kernel
theorem dX2_becomeMadeBy_12 : decode cX2_becomeMadeBy 12 = .ok (.iload_n 2, 1) := by decide +kernel
theorem dX2_becomeMadeBy_13 : decode cX2_becomeMadeBy 13 = .ok (.invokevirtual 43, 3) := by decide +kernel
theorem dX2_becomeMadeBy_16 : decode cX2_becomeMadeBy 16 = .ok (.return_, 1) := by decide +kernel
set_option maxRecDepth 20000 in
set_option maxRecDepth 20000 in
theorem dX2_wasMadeBy_0 : decode cX2_wasMadeBy 0 = .ok (.aload_n 0, 1) := by decide +kernel
theorem dX2_wasMadeBy_1 : decode cX2_wasMadeBy 1 = .ok (.getfield 39, 3) := by decide +kernel
theorem dX2_wasMadeBy_4 : decode cX2_wasMadeBy 4 = .ok (.ifnull 26, 3) := by decide +kernel
theorem dX2_wasMadeBy_7 : decode cX2_wasMadeBy 7 = .ok (.aload_n 0, 1) := by decide +kernel
theorem dX2_wasMadeBy_8 : decode cX2_wasMadeBy 8 = .ok (.getfield 39, 3) := by decide +kernel
theorem dX2_wasMadeBy_11 : decode cX2_wasMadeBy 11 = .ok (.aload_n 1, 1) := by decide +kernel
theorem dX2_wasMadeBy_12 : decode cX2_wasMadeBy 12 = .ok (.invokevirtual 49, 3) := by decide +kernel
theorem dX2_wasMadeBy_15 : decode cX2_wasMadeBy 15 = .ok (.ifCond .eq 15, 3) := by decide +kernel
theorem dX2_wasMadeBy_18 : decode cX2_wasMadeBy 18 = .ok (.aload_n 0, 1) := by decide +kernel
theorem dX2_wasMadeBy_19 : decode cX2_wasMadeBy 19 = .ok (.getfield 21, 3) := by decide +kernel
theorem dX2_wasMadeBy_22 : decode cX2_wasMadeBy 22 = .ok (.iload_n 2, 1) := by decide +kernel
theorem dX2_wasMadeBy_23 : decode cX2_wasMadeBy 23 = .ok (.if_icmp .ne 7, 3) := by decide +kernel
theorem dX2_wasMadeBy_26 : decode cX2_wasMadeBy 26 = .ok (.iconst 1, 1) := by decide +kernel
theorem dX2_wasMadeBy_27 : decode cX2_wasMadeBy 27 = .ok (.goto 4, 3) := by decide +kernel
theorem dX2_wasMadeBy_30 : decode cX2_wasMadeBy 30 = .ok (.iconst 0, 1) := by decide +kernel
theorem dX2_wasMadeBy_31 : decode cX2_wasMadeBy 31 = .ok (.ireturn, 1) := by decide +kernel
theorem dX2_isRootOf_0 : decode cX2_isRootOf 0 = .ok (.aload_n 0, 1) := by decide +kernel
theorem dX2_isRootOf_1 : decode cX2_isRootOf 1 = .ok (.getfield 28, 3) := by decide +kernel
theorem dX2_isRootOf_4 : decode cX2_isRootOf 4 = .ok (.ifnull 5, 3) := by decide +kernel
theorem dX2_isRootOf_7 : decode cX2_isRootOf 7 = .ok (.iconst 0, 1) := by decide +kernel
theorem dX2_isRootOf_8 : decode cX2_isRootOf 8 = .ok (.ireturn, 1) := by decide +kernel
theorem dX2_isRootOf_9 : decode cX2_isRootOf 9 = .ok (.iconst 0, 1) := by decide +kernel
theorem dX2_isRootOf_10 : decode cX2_isRootOf 10 = .ok (.istore_n 2, 1) := by decide +kernel
theorem dX2_isRootOf_11 : decode cX2_isRootOf 11 = .ok (.iload_n 2, 1) := by decide +kernel
theorem dX2_isRootOf_12 : decode cX2_isRootOf 12 = .ok (.bipush 12, 2) := by decide +kernel
theorem dX2_isRootOf_14 : decode cX2_isRootOf 14 = .ok (.if_icmp .ge 29, 3) := by decide +kernel
theorem dX2_isRootOf_17 : decode cX2_isRootOf 17 = .ok (.iload_n 2, 1) := by decide +kernel
theorem dX2_isRootOf_18 : decode cX2_isRootOf 18 = .ok (.aload_n 1, 1) := by decide +kernel
theorem dX2_isRootOf_19 : decode cX2_isRootOf 19 = .ok (.arraylength, 1) := by decide +kernel
theorem dX2_isRootOf_20 : decode cX2_isRootOf 20 = .ok (.if_icmp .ge 23, 3) := by decide +kernel
theorem dX2_isRootOf_23 : decode cX2_isRootOf 23 = .ok (.aload_n 0, 1) := by decide +kernel
theorem dX2_isRootOf_24 : decode cX2_isRootOf 24 = .ok (.getfield 9, 3) := by decide +kernel
theorem dX2_isRootOf_27 : decode cX2_isRootOf 27 = .ok (.iload_n 2, 1) := by decide +kernel
theorem dX2_isRootOf_28 : decode cX2_isRootOf 28 = .ok (.iaload, 1) := by decide +kernel
theorem dX2_isRootOf_29 : decode cX2_isRootOf 29 = .ok (.aload_n 1, 1) := by decide +kernel
theorem dX2_isRootOf_30 : decode cX2_isRootOf 30 = .ok (.iload_n 2, 1) := by decide +kernel
theorem dX2_isRootOf_31 : decode cX2_isRootOf 31 = .ok (.iaload, 1) := by decide +kernel
theorem dX2_isRootOf_32 : decode cX2_isRootOf 32 = .ok (.if_icmp .eq 5, 3) := by decide +kernel
theorem dX2_isRootOf_35 : decode cX2_isRootOf 35 = .ok (.iconst 0, 1) := by decide +kernel
theorem dX2_isRootOf_36 : decode cX2_isRootOf 36 = .ok (.ireturn, 1) := by decide +kernel
theorem dX2_isRootOf_37 : decode cX2_isRootOf 37 = .ok (.iinc 2 1, 3) := by decide +kernel
theorem dX2_isRootOf_40 : decode cX2_isRootOf 40 = .ok (.goto (-29), 3) := by decide +kernel
theorem dX2_isRootOf_43 : decode cX2_isRootOf 43 = .ok (.iconst 1, 1) := by decide +kernel
theorem dX2_isRootOf_44 : decode cX2_isRootOf 44 = .ok (.ireturn, 1) := by decide +kernel
set_option maxRecDepth 20000 in
set_option maxRecDepth 20000 in
set_option maxRecDepth 20000 in
set_option maxRecDepth 20000 in
theorem dX2_showLike_0 : decode cX2_showLike 0 = .ok (.iconst 0, 1) := by decide +kernel
theorem dX2_showLike_1 : decode cX2_showLike 1 = .ok (.istore_n 2, 1) := by decide +kernel
theorem dX2_showLike_2 : decode cX2_showLike 2 = .ok (.iload_n 2, 1) := by decide +kernel
theorem dX2_showLike_3 : decode cX2_showLike 3 = .ok (.bipush 12, 2) := by decide +kernel
theorem dX2_showLike_5 : decode cX2_showLike 5 = .ok (.if_icmp .ge 42, 3) := by decide +kernel
theorem dX2_showLike_8 : decode cX2_showLike 8 = .ok (.aload_n 1, 1) := by decide +kernel
theorem dX2_showLike_9 : decode cX2_showLike 9 = .ok (.getfield 15, 3) := by decide +kernel
theorem dX2_showLike_12 : decode cX2_showLike 12 = .ok (.iload_n 2, 1) := by decide +kernel
theorem dX2_showLike_13 : decode cX2_showLike 13 = .ok (.iaload, 1) := by decide +kernel
theorem dX2_showLike_14 : decode cX2_showLike 14 = .ok (.istore_n 3, 1) := by decide +kernel
theorem dX2_showLike_15 : decode cX2_showLike 15 = .ok (.iload_n 3, 1) := by decide +kernel
theorem dX2_showLike_16 : decode cX2_showLike 16 = .ok (.aload_n 0, 1) := by decide +kernel
theorem dX2_showLike_17 : decode cX2_showLike 17 = .ok (.getfield 15, 3) := by decide +kernel
theorem dX2_showLike_20 : decode cX2_showLike 20 = .ok (.iload_n 2, 1) := by decide +kernel
theorem dX2_showLike_21 : decode cX2_showLike 21 = .ok (.iaload, 1) := by decide +kernel
theorem dX2_showLike_22 : decode cX2_showLike 22 = .ok (.if_icmp .eq 19, 3) := by decide +kernel
theorem dX2_showLike_25 : decode cX2_showLike 25 = .ok (.aload_n 0, 1) := by decide +kernel
theorem dX2_showLike_26 : decode cX2_showLike 26 = .ok (.iload_n 2, 1) := by decide +kernel
theorem dX2_showLike_27 : decode cX2_showLike 27 = .ok (.iload_n 3, 1) := by decide +kernel
theorem dX2_showLike_28 : decode cX2_showLike 28 = .ok (.iconst (-1), 1) := by decide +kernel
theorem dX2_showLike_29 : decode cX2_showLike 29 = .ok (.if_icmp .ne 8, 3) := by decide +kernel
theorem dX2_showLike_32 : decode cX2_showLike 32 = .ok (.bipush (-2), 2) := by decide +kernel
theorem dX2_showLike_34 : decode cX2_showLike 34 = .ok (.goto 4, 3) := by decide +kernel
theorem dX2_showLike_37 : decode cX2_showLike 37 = .ok (.iload_n 3, 1) := by decide +kernel
theorem dX2_showLike_38 : decode cX2_showLike 38 = .ok (.invokevirtual 53, 3) := by decide +kernel
theorem dX2_showLike_41 : decode cX2_showLike 41 = .ok (.iinc 2 1, 3) := by decide +kernel
theorem dX2_showLike_44 : decode cX2_showLike 44 = .ok (.goto (-42), 3) := by decide +kernel
theorem dX2_showLike_47 : decode cX2_showLike 47 = .ok (.aload_n 0, 1) := by decide +kernel
theorem dX2_showLike_48 : decode cX2_showLike 48 = .ok (.aload_n 1, 1) := by decide +kernel
theorem dX2_showLike_49 : decode cX2_showLike 49 = .ok (.invokevirtual 57, 3) := by decide +kernel
theorem dX2_showLike_52 : decode cX2_showLike 52 = .ok (.return_, 1) := by decide +kernel
set_option maxRecDepth 20000 in
set_option maxRecDepth 20000 in
set_option maxRecDepth 20000 in
set_option maxRecDepth 20000 in
theorem dX2_holdLike_0 : decode cX2_holdLike 0 = .ok (.iconst 0, 1) := by decide +kernel
theorem dX2_holdLike_1 : decode cX2_holdLike 1 = .ok (.istore_n 2, 1) := by decide +kernel
theorem dX2_holdLike_2 : decode cX2_holdLike 2 = .ok (.iload_n 2, 1) := by decide +kernel
theorem dX2_holdLike_3 : decode cX2_holdLike 3 = .ok (.bipush 12, 2) := by decide +kernel
theorem dX2_holdLike_5 : decode cX2_holdLike 5 = .ok (.if_icmp .ge 55, 3) := by decide +kernel
theorem dX2_holdLike_8 : decode cX2_holdLike 8 = .ok (.aload_n 1, 1) := by decide +kernel
theorem dX2_holdLike_9 : decode cX2_holdLike 9 = .ok (.getfield 9, 3) := by decide +kernel
theorem dX2_holdLike_12 : decode cX2_holdLike 12 = .ok (.iload_n 2, 1) := by decide +kernel
theorem dX2_holdLike_13 : decode cX2_holdLike 13 = .ok (.iaload, 1) := by decide +kernel
theorem dX2_holdLike_14 : decode cX2_holdLike 14 = .ok (.istore_n 3, 1) := by decide +kernel
theorem dX2_holdLike_15 : decode cX2_holdLike 15 = .ok (.iload_n 3, 1) := by decide +kernel
theorem dX2_holdLike_16 : decode cX2_holdLike 16 = .ok (.bipush (-2), 2) := by decide +kernel
theorem dX2_holdLike_18 : decode cX2_holdLike 18 = .ok (.if_icmp .ne 17, 3) := by decide +kernel
theorem dX2_holdLike_21 : decode cX2_holdLike 21 = .ok (.aload_n 0, 1) := by decide +kernel
theorem dX2_holdLike_22 : decode cX2_holdLike 22 = .ok (.getfield 15, 3) := by decide +kernel
theorem dX2_holdLike_25 : decode cX2_holdLike 25 = .ok (.iload_n 2, 1) := by decide +kernel
theorem dX2_holdLike_26 : decode cX2_holdLike 26 = .ok (.iaload, 1) := by decide +kernel
theorem dX2_holdLike_27 : decode cX2_holdLike 27 = .ok (.iconst (-1), 1) := by decide +kernel
theorem dX2_holdLike_28 : decode cX2_holdLike 28 = .ok (.if_icmp .ne 7, 3) := by decide +kernel
theorem dX2_holdLike_31 : decode cX2_holdLike 31 = .ok (.iconst 1, 1) := by decide +kernel
theorem dX2_holdLike_32 : decode cX2_holdLike 32 = .ok (.goto 4, 3) := by decide +kernel
theorem dX2_holdLike_35 : decode cX2_holdLike 35 = .ok (.iconst 0, 1) := by decide +kernel
theorem dX2_holdLike_36 : decode cX2_holdLike 36 = .ok (.istore 4, 2) := by decide +kernel
theorem dX2_holdLike_38 : decode cX2_holdLike 38 = .ok (.iload_n 3, 1) := by decide +kernel
theorem dX2_holdLike_39 : decode cX2_holdLike 39 = .ok (.iconst (-1), 1) := by decide +kernel
theorem dX2_holdLike_40 : decode cX2_holdLike 40 = .ok (.if_icmp .eq 14, 3) := by decide +kernel
theorem dX2_holdLike_43 : decode cX2_holdLike 43 = .ok (.iload 4, 2) := by decide +kernel
theorem dX2_holdLike_45 : decode cX2_holdLike 45 = .ok (.ifCond .ne 9, 3) := by decide +kernel
theorem dX2_holdLike_48 : decode cX2_holdLike 48 = .ok (.aload_n 0, 1) := by decide +kernel
theorem dX2_holdLike_49 : decode cX2_holdLike 49 = .ok (.iload_n 2, 1) := by decide +kernel
theorem dX2_holdLike_50 : decode cX2_holdLike 50 = .ok (.iload_n 3, 1) := by decide +kernel
theorem dX2_holdLike_51 : decode cX2_holdLike 51 = .ok (.invokevirtual 53, 3) := by decide +kernel
theorem dX2_holdLike_54 : decode cX2_holdLike 54 = .ok (.iinc 2 1, 3) := by decide +kernel
theorem dX2_holdLike_57 : decode cX2_holdLike 57 = .ok (.goto (-55), 3) := by decide +kernel
theorem dX2_holdLike_60 : decode cX2_holdLike 60 = .ok (.aload_n 0, 1) := by decide +kernel
theorem dX2_holdLike_61 : decode cX2_holdLike 61 = .ok (.aload_n 1, 1) := by decide +kernel
theorem dX2_holdLike_62 : decode cX2_holdLike 62 = .ok (.invokevirtual 57, 3) := by decide +kernel
theorem dX2_holdLike_65 : decode cX2_holdLike 65 = .ok (.return_, 1) := by decide +kernel
theorem dX2_partAt_0 : decode cX2_partAt 0 = .ok (.aload_n 0, 1) := by decide +kernel
theorem dX2_partAt_1 : decode cX2_partAt 1 = .ok (.astore_n 2, 1) := by decide +kernel
theorem dX2_partAt_2 : decode cX2_partAt 2 = .ok (.aload_n 2, 1) := by decide +kernel
theorem dX2_partAt_3 : decode cX2_partAt 3 = .ok (.getfield 32, 3) := by decide +kernel
theorem dX2_partAt_6 : decode cX2_partAt 6 = .ok (.iload_n 1, 1) := by decide +kernel
theorem dX2_partAt_7 : decode cX2_partAt 7 = .ok (.if_icmp .le 18, 3) := by decide +kernel
theorem dX2_partAt_10 : decode cX2_partAt 10 = .ok (.aload_n 2, 1) := by decide +kernel
theorem dX2_partAt_11 : decode cX2_partAt 11 = .ok (.getfield 28, 3) := by decide +kernel
theorem dX2_partAt_14 : decode cX2_partAt 14 = .ok (.ifnull 11, 3) := by decide +kernel
theorem dX2_partAt_17 : decode cX2_partAt 17 = .ok (.aload_n 2, 1) := by decide +kernel
theorem dX2_partAt_18 : decode cX2_partAt 18 = .ok (.getfield 28, 3) := by decide +kernel
theorem dX2_partAt_21 : decode cX2_partAt 21 = .ok (.astore_n 2, 1) := by decide +kernel
theorem dX2_partAt_22 : decode cX2_partAt 22 = .ok (.goto (-20), 3) := by decide +kernel
theorem dX2_partAt_25 : decode cX2_partAt 25 = .ok (.aload_n 2, 1) := by decide +kernel
theorem dX2_partAt_26 : decode cX2_partAt 26 = .ok (.areturn, 1) := by decide +kernel
theorem dX2_size_0 : decode cX2_size 0 = .ok (.iconst 0, 1) := by decide +kernel
theorem dX2_size_1 : decode cX2_size 1 = .ok (.istore_n 1, 1) := by decide +kernel
theorem dX2_size_2 : decode cX2_size 2 = .ok (.iconst 0, 1) := by decide +kernel
theorem dX2_size_3 : decode cX2_size 3 = .ok (.istore_n 2, 1) := by decide +kernel
theorem dX2_size_4 : decode cX2_size 4 = .ok (.iload_n 2, 1) := by decide +kernel
theorem dX2_size_5 : decode cX2_size 5 = .ok (.bipush 12, 2) := by decide +kernel
theorem dX2_size_7 : decode cX2_size 7 = .ok (.if_icmp .ge 22, 3) := by decide +kernel
theorem dX2_size_10 : decode cX2_size 10 = .ok (.aload_n 0, 1) := by decide +kernel
theorem dX2_size_11 : decode cX2_size 11 = .ok (.getfield 9, 3) := by decide +kernel
theorem dX2_size_14 : decode cX2_size 14 = .ok (.iload_n 2, 1) := by decide +kernel
theorem dX2_size_15 : decode cX2_size 15 = .ok (.iaload, 1) := by decide +kernel
theorem dX2_size_16 : decode cX2_size 16 = .ok (.iconst (-1), 1) := by decide +kernel
theorem dX2_size_17 : decode cX2_size 17 = .ok (.if_icmp .eq 6, 3) := by decide +kernel
theorem dX2_size_20 : decode cX2_size 20 = .ok (.iinc 1 1, 3) := by decide +kernel
theorem dX2_size_23 : decode cX2_size 23 = .ok (.iinc 2 1, 3) := by decide +kernel
theorem dX2_size_26 : decode cX2_size 26 = .ok (.goto (-22), 3) := by decide +kernel
theorem dX2_size_29 : decode cX2_size 29 = .ok (.iload_n 1, 1) := by decide +kernel
theorem dX2_size_30 : decode cX2_size 30 = .ok (.ireturn, 1) := by decide +kernel
theorem dX2_fingerprint_0 : decode cX2_fingerprint 0 = .ok (.iconst 1, 1) := by decide +kernel
theorem dX2_fingerprint_1 : decode cX2_fingerprint 1 = .ok (.istore_n 1, 1) := by decide +kernel
theorem dX2_fingerprint_2 : decode cX2_fingerprint 2 = .ok (.iconst 0, 1) := by decide +kernel
theorem dX2_fingerprint_3 : decode cX2_fingerprint 3 = .ok (.istore_n 2, 1) := by decide +kernel
theorem dX2_fingerprint_4 : decode cX2_fingerprint 4 = .ok (.iload_n 2, 1) := by decide +kernel
theorem dX2_fingerprint_5 : decode cX2_fingerprint 5 = .ok (.bipush 12, 2) := by decide +kernel
theorem dX2_fingerprint_7 : decode cX2_fingerprint 7 = .ok (.if_icmp .ge 39, 3) := by decide +kernel
theorem dX2_fingerprint_10 : decode cX2_fingerprint 10 = .ok (.aload_n 0, 1) := by decide +kernel
theorem dX2_fingerprint_11 : decode cX2_fingerprint 11 = .ok (.getfield 15, 3) := by decide +kernel
theorem dX2_fingerprint_14 : decode cX2_fingerprint 14 = .ok (.iload_n 2, 1) := by decide +kernel
theorem dX2_fingerprint_15 : decode cX2_fingerprint 15 = .ok (.iaload, 1) := by decide +kernel
theorem dX2_fingerprint_16 : decode cX2_fingerprint 16 = .ok (.iconst (-1), 1) := by decide +kernel
theorem dX2_fingerprint_17 : decode cX2_fingerprint 17 = .ok (.if_icmp .eq 23, 3) := by decide +kernel
theorem dX2_fingerprint_20 : decode cX2_fingerprint 20 = .ok (.bipush 31, 2) := by decide +kernel
theorem dX2_fingerprint_22 : decode cX2_fingerprint 22 = .ok (.iload_n 1, 1) := by decide +kernel
theorem dX2_fingerprint_23 : decode cX2_fingerprint 23 = .ok (.imul, 1) := by decide +kernel
theorem dX2_fingerprint_24 : decode cX2_fingerprint 24 = .ok (.bipush 101, 2) := by decide +kernel
theorem dX2_fingerprint_26 : decode cX2_fingerprint 26 = .ok (.iload_n 2, 1) := by decide +kernel
theorem dX2_fingerprint_27 : decode cX2_fingerprint 27 = .ok (.imul, 1) := by decide +kernel
theorem dX2_fingerprint_28 : decode cX2_fingerprint 28 = .ok (.iadd, 1) := by decide +kernel
theorem dX2_fingerprint_29 : decode cX2_fingerprint 29 = .ok (.aload_n 0, 1) := by decide +kernel
theorem dX2_fingerprint_30 : decode cX2_fingerprint 30 = .ok (.getfield 15, 3) := by decide +kernel
theorem dX2_fingerprint_33 : decode cX2_fingerprint 33 = .ok (.iload_n 2, 1) := by decide +kernel
theorem dX2_fingerprint_34 : decode cX2_fingerprint 34 = .ok (.iaload, 1) := by decide +kernel
theorem dX2_fingerprint_35 : decode cX2_fingerprint 35 = .ok (.iadd, 1) := by decide +kernel
theorem dX2_fingerprint_36 : decode cX2_fingerprint 36 = .ok (.ldc 61, 2) := by decide +kernel
theorem dX2_fingerprint_38 : decode cX2_fingerprint 38 = .ok (.irem, 1) := by decide +kernel
theorem dX2_fingerprint_39 : decode cX2_fingerprint 39 = .ok (.istore_n 1, 1) := by decide +kernel
theorem dX2_fingerprint_40 : decode cX2_fingerprint 40 = .ok (.iinc 2 1, 3) := by decide +kernel
theorem dX2_fingerprint_43 : decode cX2_fingerprint 43 = .ok (.goto (-39), 3) := by decide +kernel
theorem dX2_fingerprint_46 : decode cX2_fingerprint 46 = .ok (.iload_n 1, 1) := by decide +kernel
theorem dX2_fingerprint_47 : decode cX2_fingerprint 47 = .ok (.ireturn, 1) := by decide +kernel
theorem dX3_init_0 : decode cX3_init 0 = .ok (.aload_n 0, 1) := by decide +kernel
theorem dX3_init_1 : decode cX3_init 1 = .ok (.invokespecial 3, 3) := by decide +kernel
theorem dX3_init_4 : decode cX3_init 4 = .ok (.aload_n 0, 1) := by decide +kernel
theorem dX3_init_5 : decode cX3_init 5 = .ok (.bipush 10, 2) := by decide +kernel
theorem dX3_init_7 : decode cX3_init 7 = .ok (.anewarray 9, 3) := by decide +kernel
theorem dX3_init_10 : decode cX3_init 10 = .ok (.putfield 11, 3) := by decide +kernel
theorem dX3_init_13 : decode cX3_init 13 = .ok (.return_, 1) := by decide +kernel
set_option maxRecDepth 20000 in
set_option maxRecDepth 20000 in
theorem dX3_at_0 : decode cX3_at 0 = .ok (.iload_n 1, 1) := by decide +kernel
theorem dX3_at_1 : decode cX3_at 1 = .ok (.aload_n 0, 1) := by decide +kernel
theorem dX3_at_2 : decode cX3_at 2 = .ok (.getfield 11, 3) := by decide +kernel
theorem dX3_at_5 : decode cX3_at 5 = .ok (.arraylength, 1) := by decide +kernel
theorem dX3_at_6 : decode cX3_at 6 = .ok (.invokestatic 17, 3) := by decide +kernel
theorem dX3_at_9 : decode cX3_at 9 = .ok (.ifCond .eq 12, 3) := by decide +kernel
theorem dX3_at_12 : decode cX3_at 12 = .ok (.aload_n 0, 1) := by decide +kernel
theorem dX3_at_13 : decode cX3_at 13 = .ok (.getfield 11, 3) := by decide +kernel
theorem dX3_at_16 : decode cX3_at 16 = .ok (.iload_n 1, 1) := by decide +kernel
theorem dX3_at_17 : decode cX3_at 17 = .ok (.aaload, 1) := by decide +kernel
theorem dX3_at_18 : decode cX3_at 18 = .ok (.goto 4, 3) := by decide +kernel
theorem dX3_at_21 : decode cX3_at 21 = .ok (.aconst_null, 1) := by decide +kernel
theorem dX3_at_22 : decode cX3_at 22 = .ok (.areturn, 1) := by decide +kernel
theorem dX3_clearOn_0 : decode cX3_clearOn 0 = .ok (.aload_n 0, 1) := by decide +kernel
theorem dX3_clearOn_1 : decode cX3_clearOn 1 = .ok (.iload_n 1, 1) := by decide +kernel
theorem dX3_clearOn_2 : decode cX3_clearOn 2 = .ok (.putfield 21, 3) := by decide +kernel
theorem dX3_clearOn_5 : decode cX3_clearOn 5 = .ok (.aload_n 0, 1) := by decide +kernel
theorem dX3_clearOn_6 : decode cX3_clearOn 6 = .ok (.iconst 0, 1) := by decide +kernel
theorem dX3_clearOn_7 : decode cX3_clearOn 7 = .ok (.putfield 25, 3) := by decide +kernel
theorem dX3_clearOn_10 : decode cX3_clearOn 10 = .ok (.return_, 1) := by decide +kernel
set_option maxRecDepth 20000 in
set_option maxRecDepth 20000 in
theorem dX3_append_0 : decode cX3_append 0 = .ok (.aload_n 0, 1) := by decide +kernel
theorem dX3_append_1 : decode cX3_append 1 = .ok (.getfield 25, 3) := by decide +kernel
theorem dX3_append_4 : decode cX3_append 4 = .ok (.aload_n 0, 1) := by decide +kernel
theorem dX3_append_5 : decode cX3_append 5 = .ok (.getfield 11, 3) := by decide +kernel
theorem dX3_append_8 : decode cX3_append 8 = .ok (.arraylength, 1) := by decide +kernel
theorem dX3_append_9 : decode cX3_append 9 = .ok (.invokestatic 17, 3) := by decide +kernel
theorem dX3_append_12 : decode cX3_append 12 = .ok (.ifCond .eq 23, 3) := by decide +kernel
theorem dX3_append_15 : decode cX3_append 15 = .ok (.aload_n 0, 1) := by decide +kernel
theorem dX3_append_16 : decode cX3_append 16 = .ok (.getfield 11, 3) := by decide +kernel
theorem dX3_append_19 : decode cX3_append 19 = .ok (.aload_n 0, 1) := by decide +kernel
theorem dX3_append_20 : decode cX3_append 20 = .ok (.getfield 25, 3) := by decide +kernel
theorem dX3_append_23 : decode cX3_append 23 = .ok (.aload_n 1, 1) := by decide +kernel
theorem dX3_append_24 : decode cX3_append 24 = .ok (.aastore, 1) := by decide +kernel
theorem dX3_append_25 : decode cX3_append 25 = .ok (.aload_n 0, 1) := by decide +kernel
theorem dX3_append_26 : decode cX3_append 26 = .ok (.dup, 1) := by decide +kernel
theorem dX3_append_27 : decode cX3_append 27 = .ok (.getfield 25, 3) := by decide +kernel
theorem dX3_append_30 : decode cX3_append 30 = .ok (.iconst 1, 1) := by decide +kernel
theorem dX3_append_31 : decode cX3_append 31 = .ok (.iadd, 1) := by decide +kernel
theorem dX3_append_32 : decode cX3_append 32 = .ok (.putfield 25, 3) := by decide +kernel
theorem dX3_append_35 : decode cX3_append 35 = .ok (.return_, 1) := by decide +kernel
set_option maxRecDepth 20000 in
set_option maxRecDepth 20000 in
theorem dX3_removeAt_0 : decode cX3_removeAt 0 = .ok (.iload_n 1, 1) := by decide +kernel
theorem dX3_removeAt_1 : decode cX3_removeAt 1 = .ok (.aload_n 0, 1) := by decide +kernel
theorem dX3_removeAt_2 : decode cX3_removeAt 2 = .ok (.getfield 25, 3) := by decide +kernel
theorem dX3_removeAt_5 : decode cX3_removeAt 5 = .ok (.invokestatic 17, 3) := by decide +kernel
theorem dX3_removeAt_8 : decode cX3_removeAt 8 = .ok (.ifCond .eq 46, 3) := by decide +kernel
theorem dX3_removeAt_11 : decode cX3_removeAt 11 = .ok (.iload_n 1, 1) := by decide +kernel
theorem dX3_removeAt_12 : decode cX3_removeAt 12 = .ok (.istore_n 2, 1) := by decide +kernel
theorem dX3_removeAt_13 : decode cX3_removeAt 13 = .ok (.iload_n 2, 1) := by decide +kernel
theorem dX3_removeAt_14 : decode cX3_removeAt 14 = .ok (.iconst 1, 1) := by decide +kernel
theorem dX3_removeAt_15 : decode cX3_removeAt 15 = .ok (.iadd, 1) := by decide +kernel
theorem dX3_removeAt_16 : decode cX3_removeAt 16 = .ok (.aload_n 0, 1) := by decide +kernel
theorem dX3_removeAt_17 : decode cX3_removeAt 17 = .ok (.getfield 11, 3) := by decide +kernel
theorem dX3_removeAt_20 : decode cX3_removeAt 20 = .ok (.arraylength, 1) := by decide +kernel
theorem dX3_removeAt_21 : decode cX3_removeAt 21 = .ok (.if_icmp .ge 23, 3) := by decide +kernel
theorem dX3_removeAt_24 : decode cX3_removeAt 24 = .ok (.aload_n 0, 1) := by decide +kernel
theorem dX3_removeAt_25 : decode cX3_removeAt 25 = .ok (.getfield 11, 3) := by decide +kernel
theorem dX3_removeAt_28 : decode cX3_removeAt 28 = .ok (.iload_n 2, 1) := by decide +kernel
theorem dX3_removeAt_29 : decode cX3_removeAt 29 = .ok (.aload_n 0, 1) := by decide +kernel
theorem dX3_removeAt_30 : decode cX3_removeAt 30 = .ok (.getfield 11, 3) := by decide +kernel
theorem dX3_removeAt_33 : decode cX3_removeAt 33 = .ok (.iload_n 2, 1) := by decide +kernel
theorem dX3_removeAt_34 : decode cX3_removeAt 34 = .ok (.iconst 1, 1) := by decide +kernel
theorem dX3_removeAt_35 : decode cX3_removeAt 35 = .ok (.iadd, 1) := by decide +kernel
theorem dX3_removeAt_36 : decode cX3_removeAt 36 = .ok (.aaload, 1) := by decide +kernel
theorem dX3_removeAt_37 : decode cX3_removeAt 37 = .ok (.aastore, 1) := by decide +kernel
theorem dX3_removeAt_38 : decode cX3_removeAt 38 = .ok (.iinc 2 1, 3) := by decide +kernel
theorem dX3_removeAt_41 : decode cX3_removeAt 41 = .ok (.goto (-28), 3) := by decide +kernel
theorem dX3_removeAt_44 : decode cX3_removeAt 44 = .ok (.aload_n 0, 1) := by decide +kernel
theorem dX3_removeAt_45 : decode cX3_removeAt 45 = .ok (.dup, 1) := by decide +kernel
theorem dX3_removeAt_46 : decode cX3_removeAt 46 = .ok (.getfield 25, 3) := by decide +kernel
theorem dX3_removeAt_49 : decode cX3_removeAt 49 = .ok (.iconst 1, 1) := by decide +kernel
theorem dX3_removeAt_50 : decode cX3_removeAt 50 = .ok (.isub, 1) := by decide +kernel
theorem dX3_removeAt_51 : decode cX3_removeAt 51 = .ok (.putfield 25, 3) := by decide +kernel
theorem dX3_removeAt_54 : decode cX3_removeAt 54 = .ok (.return_, 1) := by decide +kernel
set_option maxRecDepth 20000 in
set_option maxRecDepth 20000 in
set_option maxRecDepth 20000 in
set_option maxRecDepth 20000 in
set_option maxRecDepth 20000 in
set_option maxRecDepth 20000 in
theorem dX3_becomeLike_0 : decode cX3_becomeLike 0 = .ok (.aload_n 0, 1) := by decide +kernel
theorem dX3_becomeLike_1 : decode cX3_becomeLike 1 = .ok (.aload_n 1, 1) := by decide +kernel
theorem dX3_becomeLike_2 : decode cX3_becomeLike 2 = .ok (.getfield 21, 3) := by decide +kernel
theorem dX3_becomeLike_5 : decode cX3_becomeLike 5 = .ok (.invokevirtual 28, 3) := by decide +kernel
theorem dX3_becomeLike_8 : decode cX3_becomeLike 8 = .ok (.iconst 0, 1) := by decide +kernel
theorem dX3_becomeLike_9 : decode cX3_becomeLike 9 = .ok (.istore_n 2, 1) := by decide +kernel
theorem dX3_becomeLike_10 : decode cX3_becomeLike 10 = .ok (.iload_n 2, 1) := by decide +kernel
theorem dX3_becomeLike_11 : decode cX3_becomeLike 11 = .ok (.aload_n 1, 1) := by decide +kernel
theorem dX3_becomeLike_12 : decode cX3_becomeLike 12 = .ok (.getfield 25, 3) := by decide +kernel
theorem dX3_becomeLike_15 : decode cX3_becomeLike 15 = .ok (.if_icmp .ge 18, 3) := by decide +kernel
theorem dX3_becomeLike_18 : decode cX3_becomeLike 18 = .ok (.aload_n 0, 1) := by decide +kernel
theorem dX3_becomeLike_19 : decode cX3_becomeLike 19 = .ok (.aload_n 1, 1) := by decide +kernel
theorem dX3_becomeLike_20 : decode cX3_becomeLike 20 = .ok (.iload_n 2, 1) := by decide +kernel
theorem dX3_becomeLike_21 : decode cX3_becomeLike 21 = .ok (.invokevirtual 32, 3) := by decide +kernel
theorem dX3_becomeLike_24 : decode cX3_becomeLike 24 = .ok (.invokevirtual 36, 3) := by decide +kernel
theorem dX3_becomeLike_27 : decode cX3_becomeLike 27 = .ok (.iinc 2 1, 3) := by decide +kernel
theorem dX3_becomeLike_30 : decode cX3_becomeLike 30 = .ok (.goto (-20), 3) := by decide +kernel
theorem dX3_becomeLike_33 : decode cX3_becomeLike 33 = .ok (.return_, 1) := by decide +kernel
theorem dX4_init_0 : decode cX4_init 0 = .ok (.aload_n 0, 1) := by decide +kernel
theorem dX4_init_1 : decode cX4_init 1 = .ok (.invokespecial 3, 3) := by decide +kernel
theorem dX4_init_4 : decode cX4_init 4 = .ok (.aload_n 0, 1) := by decide +kernel
theorem dX4_init_5 : decode cX4_init 5 = .ok (.sipush 420, 3) := by decide +kernel
theorem dX4_init_8 : decode cX4_init 8 = .ok (.anewarray 9, 3) := by decide +kernel
theorem dX4_init_11 : decode cX4_init 11 = .ok (.putfield 11, 3) := by decide +kernel
theorem dX4_init_14 : decode cX4_init 14 = .ok (.return_, 1) := by decide +kernel
set_option maxRecDepth 20000 in
set_option maxRecDepth 20000 in
theorem dX4_find_0 : decode cX4_find 0 = .ok (.iload_n 1, 1) := by decide +kernel
theorem dX4_find_1 : decode cX4_find 1 = .ok (.aload_n 0, 1) := by decide +kernel
theorem dX4_find_2 : decode cX4_find 2 = .ok (.getfield 11, 3) := by decide +kernel
theorem dX4_find_5 : decode cX4_find 5 = .ok (.arraylength, 1) := by decide +kernel
theorem dX4_find_6 : decode cX4_find 6 = .ok (.invokestatic 17, 3) := by decide +kernel
theorem dX4_find_9 : decode cX4_find 9 = .ok (.ifCond .eq 12, 3) := by decide +kernel
theorem dX4_find_12 : decode cX4_find 12 = .ok (.aload_n 0, 1) := by decide +kernel
theorem dX4_find_13 : decode cX4_find 13 = .ok (.getfield 11, 3) := by decide +kernel
theorem dX4_find_16 : decode cX4_find 16 = .ok (.iload_n 1, 1) := by decide +kernel
theorem dX4_find_17 : decode cX4_find 17 = .ok (.aaload, 1) := by decide +kernel
theorem dX4_find_18 : decode cX4_find 18 = .ok (.goto 4, 3) := by decide +kernel
theorem dX4_find_21 : decode cX4_find 21 = .ok (.aconst_null, 1) := by decide +kernel
theorem dX4_find_22 : decode cX4_find 22 = .ok (.areturn, 1) := by decide +kernel
set_option maxRecDepth 20000 in
set_option maxRecDepth 20000 in
set_option maxRecDepth 20000 in
set_option maxRecDepth 20000 in
theorem dX4_findRoot_0 : decode cX4_findRoot 0 = .ok (.iconst 0, 1) := by decide +kernel
theorem dX4_findRoot_1 : decode cX4_findRoot 1 = .ok (.istore_n 2, 1) := by decide +kernel
theorem dX4_findRoot_2 : decode cX4_findRoot 2 = .ok (.iload_n 2, 1) := by decide +kernel
theorem dX4_findRoot_3 : decode cX4_findRoot 3 = .ok (.aload_n 0, 1) := by decide +kernel
theorem dX4_findRoot_4 : decode cX4_findRoot 4 = .ok (.getfield 21, 3) := by decide +kernel
theorem dX4_findRoot_7 : decode cX4_findRoot 7 = .ok (.if_icmp .ge 29, 3) := by decide +kernel
theorem dX4_findRoot_10 : decode cX4_findRoot 10 = .ok (.aload_n 0, 1) := by decide +kernel
theorem dX4_findRoot_11 : decode cX4_findRoot 11 = .ok (.iload_n 2, 1) := by decide +kernel
theorem dX4_findRoot_12 : decode cX4_findRoot 12 = .ok (.invokevirtual 25, 3) := by decide +kernel
theorem dX4_findRoot_15 : decode cX4_findRoot 15 = .ok (.astore_n 3, 1) := by decide +kernel
theorem dX4_findRoot_16 : decode cX4_findRoot 16 = .ok (.aload_n 3, 1) := by decide +kernel
theorem dX4_findRoot_17 : decode cX4_findRoot 17 = .ok (.ifnull 13, 3) := by decide +kernel
theorem dX4_findRoot_20 : decode cX4_findRoot 20 = .ok (.aload_n 3, 1) := by decide +kernel
theorem dX4_findRoot_21 : decode cX4_findRoot 21 = .ok (.aload_n 1, 1) := by decide +kernel
theorem dX4_findRoot_22 : decode cX4_findRoot 22 = .ok (.invokevirtual 29, 3) := by decide +kernel
theorem dX4_findRoot_25 : decode cX4_findRoot 25 = .ok (.ifCond .eq 5, 3) := by decide +kernel
theorem dX4_findRoot_28 : decode cX4_findRoot 28 = .ok (.aload_n 3, 1) := by decide +kernel
theorem dX4_findRoot_29 : decode cX4_findRoot 29 = .ok (.areturn, 1) := by decide +kernel
theorem dX4_findRoot_30 : decode cX4_findRoot 30 = .ok (.iinc 2 1, 3) := by decide +kernel
theorem dX4_findRoot_33 : decode cX4_findRoot 33 = .ok (.goto (-31), 3) := by decide +kernel
theorem dX4_findRoot_36 : decode cX4_findRoot 36 = .ok (.aconst_null, 1) := by decide +kernel
theorem dX4_findRoot_37 : decode cX4_findRoot 37 = .ok (.areturn, 1) := by decide +kernel
set_option maxRecDepth 20000 in
set_option maxRecDepth 20000 in
set_option maxRecDepth 20000 in
set_option maxRecDepth 20000 in
theorem dX4_findMade_0 : decode cX4_findMade 0 = .ok (.aload_n 1, 1) := by decide +kernel
theorem dX4_findMade_1 : decode cX4_findMade 1 = .ok (.getfield 33, 3) := by decide +kernel
theorem dX4_findMade_4 : decode cX4_findMade 4 = .ok (.iconst 1, 1) := by decide +kernel
theorem dX4_findMade_5 : decode cX4_findMade 5 = .ok (.iadd, 1) := by decide +kernel
theorem dX4_findMade_6 : decode cX4_findMade 6 = .ok (.istore 4, 2) := by decide +kernel
theorem dX4_findMade_8 : decode cX4_findMade 8 = .ok (.iload 4, 2) := by decide +kernel
theorem dX4_findMade_10 : decode cX4_findMade 10 = .ok (.aload_n 0, 1) := by decide +kernel
theorem dX4_findMade_11 : decode cX4_findMade 11 = .ok (.getfield 21, 3) := by decide +kernel
theorem dX4_findMade_14 : decode cX4_findMade 14 = .ok (.if_icmp .ge 44, 3) := by decide +kernel
theorem dX4_findMade_17 : decode cX4_findMade 17 = .ok (.aload_n 0, 1) := by decide +kernel
theorem dX4_findMade_18 : decode cX4_findMade 18 = .ok (.iload 4, 2) := by decide +kernel
theorem dX4_findMade_20 : decode cX4_findMade 20 = .ok (.invokevirtual 25, 3) := by decide +kernel
theorem dX4_findMade_23 : decode cX4_findMade 23 = .ok (.astore 5, 2) := by decide +kernel
theorem dX4_findMade_25 : decode cX4_findMade 25 = .ok (.aload 5, 2) := by decide +kernel
theorem dX4_findMade_27 : decode cX4_findMade 27 = .ok (.ifnull 25, 3) := by decide +kernel
theorem dX4_findMade_30 : decode cX4_findMade 30 = .ok (.aload 5, 2) := by decide +kernel
theorem dX4_findMade_32 : decode cX4_findMade 32 = .ok (.getfield 36, 3) := by decide +kernel
theorem dX4_findMade_35 : decode cX4_findMade 35 = .ok (.aload_n 1, 1) := by decide +kernel
theorem dX4_findMade_36 : decode cX4_findMade 36 = .ok (.if_acmp .ne 16, 3) := by decide +kernel
theorem dX4_findMade_39 : decode cX4_findMade 39 = .ok (.aload 5, 2) := by decide +kernel
theorem dX4_findMade_41 : decode cX4_findMade 41 = .ok (.aload_n 2, 1) := by decide +kernel
theorem dX4_findMade_42 : decode cX4_findMade 42 = .ok (.iload_n 3, 1) := by decide +kernel
theorem dX4_findMade_43 : decode cX4_findMade 43 = .ok (.invokevirtual 40, 3) := by decide +kernel
theorem dX4_findMade_46 : decode cX4_findMade 46 = .ok (.ifCond .eq 6, 3) := by decide +kernel
theorem dX4_findMade_49 : decode cX4_findMade 49 = .ok (.aload 5, 2) := by decide +kernel
theorem dX4_findMade_51 : decode cX4_findMade 51 = .ok (.areturn, 1) := by decide +kernel
theorem dX4_findMade_52 : decode cX4_findMade 52 = .ok (.iinc 4 1, 3) := by decide +kernel
theorem dX4_findMade_55 : decode cX4_findMade 55 = .ok (.goto (-47), 3) := by decide +kernel
theorem dX4_findMade_58 : decode cX4_findMade 58 = .ok (.aconst_null, 1) := by decide +kernel
theorem dX4_findMade_59 : decode cX4_findMade 59 = .ok (.areturn, 1) := by decide +kernel
set_option maxRecDepth 20000 in
set_option maxRecDepth 20000 in
set_option maxRecDepth 20000 in
set_option maxRecDepth 20000 in
theorem dX4_newRoot_0 : decode cX4_newRoot 0 = .ok (.aload_n 0, 1) := by decide +kernel
theorem dX4_newRoot_1 : decode cX4_newRoot 1 = .ok (.new 9, 3) := by decide +kernel
theorem dX4_newRoot_4 : decode cX4_newRoot 4 = .ok (.dup, 1) := by decide +kernel
theorem dX4_newRoot_5 : decode cX4_newRoot 5 = .ok (.aload_n 0, 1) := by decide +kernel
theorem dX4_newRoot_6 : decode cX4_newRoot 6 = .ok (.getfield 21, 3) := by decide +kernel
theorem dX4_newRoot_9 : decode cX4_newRoot 9 = .ok (.aload_n 1, 1) := by decide +kernel
theorem dX4_newRoot_10 : decode cX4_newRoot 10 = .ok (.invokespecial 44, 3) := by decide +kernel
theorem dX4_newRoot_13 : decode cX4_newRoot 13 = .ok (.invokevirtual 47, 3) := by decide +kernel
theorem dX4_newRoot_16 : decode cX4_newRoot 16 = .ok (.areturn, 1) := by decide +kernel
set_option maxRecDepth 20000 in
set_option maxRecDepth 20000 in
set_option maxRecDepth 20000 in
set_option maxRecDepth 20000 in
theorem dX4_newChild_0 : decode cX4_newChild 0 = .ok (.aload_n 0, 1) := by decide +kernel
theorem dX4_newChild_1 : decode cX4_newChild 1 = .ok (.new 9, 3) := by decide +kernel
theorem dX4_newChild_4 : decode cX4_newChild 4 = .ok (.dup, 1) := by decide +kernel
theorem dX4_newChild_5 : decode cX4_newChild 5 = .ok (.aload_n 0, 1) := by decide +kernel
theorem dX4_newChild_6 : decode cX4_newChild 6 = .ok (.getfield 21, 3) := by decide +kernel
theorem dX4_newChild_9 : decode cX4_newChild 9 = .ok (.aload_n 1, 1) := by decide +kernel
theorem dX4_newChild_10 : decode cX4_newChild 10 = .ok (.invokespecial 51, 3) := by decide +kernel
theorem dX4_newChild_13 : decode cX4_newChild 13 = .ok (.invokevirtual 47, 3) := by decide +kernel
theorem dX4_newChild_16 : decode cX4_newChild 16 = .ok (.areturn, 1) := by decide +kernel
set_option maxRecDepth 20000 in
set_option maxRecDepth 20000 in
theorem dX4_kept_0 : decode cX4_kept 0 = .ok (.aload_n 0, 1) := by decide +kernel
theorem dX4_kept_1 : decode cX4_kept 1 = .ok (.getfield 21, 3) := by decide +kernel
theorem dX4_kept_4 : decode cX4_kept 4 = .ok (.aload_n 0, 1) := by decide +kernel
theorem dX4_kept_5 : decode cX4_kept 5 = .ok (.getfield 11, 3) := by decide +kernel
theorem dX4_kept_8 : decode cX4_kept 8 = .ok (.arraylength, 1) := by decide +kernel
theorem dX4_kept_9 : decode cX4_kept 9 = .ok (.invokestatic 17, 3) := by decide +kernel
theorem dX4_kept_12 : decode cX4_kept 12 = .ok (.ifCond .ne 13, 3) := by decide +kernel
theorem dX4_kept_15 : decode cX4_kept 15 = .ok (.new 54, 3) := by decide +kernel
theorem dX4_kept_18 : decode cX4_kept 18 = .ok (.dup, 1) := by decide +kernel
theorem dX4_kept_19 : decode cX4_kept 19 = .ok (.ldc 56, 2) := by decide +kernel
theorem dX4_kept_21 : decode cX4_kept 21 = .ok (.invokespecial 58, 3) := by decide +kernel
theorem dX4_kept_24 : decode cX4_kept 24 = .ok (.athrow, 1) := by decide +kernel
theorem dX4_kept_25 : decode cX4_kept 25 = .ok (.aload_n 0, 1) := by decide +kernel
theorem dX4_kept_26 : decode cX4_kept 26 = .ok (.getfield 11, 3) := by decide +kernel
theorem dX4_kept_29 : decode cX4_kept 29 = .ok (.aload_n 0, 1) := by decide +kernel
theorem dX4_kept_30 : decode cX4_kept 30 = .ok (.getfield 21, 3) := by decide +kernel
theorem dX4_kept_33 : decode cX4_kept 33 = .ok (.aload_n 1, 1) := by decide +kernel
theorem dX4_kept_34 : decode cX4_kept 34 = .ok (.aastore, 1) := by decide +kernel
theorem dX4_kept_35 : decode cX4_kept 35 = .ok (.aload_n 0, 1) := by decide +kernel
theorem dX4_kept_36 : decode cX4_kept 36 = .ok (.dup, 1) := by decide +kernel
theorem dX4_kept_37 : decode cX4_kept 37 = .ok (.getfield 21, 3) := by decide +kernel
theorem dX4_kept_40 : decode cX4_kept 40 = .ok (.iconst 1, 1) := by decide +kernel
theorem dX4_kept_41 : decode cX4_kept 41 = .ok (.iadd, 1) := by decide +kernel
theorem dX4_kept_42 : decode cX4_kept 42 = .ok (.putfield 21, 3) := by decide +kernel
theorem dX4_kept_45 : decode cX4_kept 45 = .ok (.aload_n 1, 1) := by decide +kernel
theorem dX4_kept_46 : decode cX4_kept 46 = .ok (.areturn, 1) := by decide +kernel
set_option maxRecDepth 20000 in
set_option maxRecDepth 20000 in
theorem dX4_remove_0 : decode cX4_remove 0 = .ok (.iload_n 1, 1) := by decide +kernel
theorem dX4_remove_1 : decode cX4_remove 1 = .ok (.aload_n 0, 1) := by decide +kernel
theorem dX4_remove_2 : decode cX4_remove 2 = .ok (.getfield 11, 3) := by decide +kernel
theorem dX4_remove_5 : decode cX4_remove 5 = .ok (.arraylength, 1) := by decide +kernel
theorem dX4_remove_6 : decode cX4_remove 6 = .ok (.invokestatic 17, 3) := by decide +kernel
theorem dX4_remove_9 : decode cX4_remove 9 = .ok (.ifCond .eq 10, 3) := by decide +kernel
theorem dX4_remove_12 : decode cX4_remove 12 = .ok (.aload_n 0, 1) := by decide +kernel
theorem dX4_remove_13 : decode cX4_remove 13 = .ok (.getfield 11, 3) := by decide +kernel
theorem dX4_remove_16 : decode cX4_remove 16 = .ok (.iload_n 1, 1) := by decide +kernel
theorem dX4_remove_17 : decode cX4_remove 17 = .ok (.aconst_null, 1) := by decide +kernel
theorem dX4_remove_18 : decode cX4_remove 18 = .ok (.aastore, 1) := by decide +kernel
theorem dX4_remove_19 : decode cX4_remove 19 = .ok (.return_, 1) := by decide +kernel
set_option maxRecDepth 20000 in
set_option maxRecDepth 20000 in
set_option maxRecDepth 20000 in
set_option maxRecDepth 20000 in
set_option maxRecDepth 20000 in
set_option maxRecDepth 20000 in
set_option maxRecDepth 20000 in
set_option maxRecDepth 20000 in
theorem dX5_init_0 : decode cX5_init 0 = .ok (.aload_n 0, 1) := by decide +kernel
theorem dX5_init_1 : decode cX5_init 1 = .ok (.invokespecial 1, 3) := by decide +kernel
theorem dX5_init_4 : decode cX5_init 4 = .ok (.aload_n 0, 1) := by decide +kernel
theorem dX5_init_5 : decode cX5_init 5 = .ok (.bipush 8, 2) := by decide +kernel
theorem dX5_init_7 : decode cX5_init 7 = .ok (.newarray .int, 2) := by decide +kernel
theorem dX5_init_9 : decode cX5_init 9 = .ok (.putfield 9, 3) := by decide +kernel
theorem dX5_init_12 : decode cX5_init 12 = .ok (.aload_n 0, 1) := by decide +kernel
theorem dX5_init_13 : decode cX5_init 13 = .ok (.iconst 3, 1) := by decide +kernel
theorem dX5_init_14 : decode cX5_init 14 = .ok (.bipush 12, 2) := by decide +kernel
theorem dX5_init_16 : decode cX5_init 16 = .ok (.multianewarray 13 2, 4) := by decide +kernel
theorem dX5_init_20 : decode cX5_init 20 = .ok (.putfield 15, 3) := by decide +kernel
theorem dX5_init_23 : decode cX5_init 23 = .ok (.aload_n 0, 1) := by decide +kernel
theorem dX5_init_24 : decode cX5_init 24 = .ok (.iconst 4, 1) := by decide +kernel
theorem dX5_init_25 : decode cX5_init 25 = .ok (.anewarray 18, 3) := by decide +kernel
theorem dX5_init_28 : decode cX5_init 28 = .ok (.putfield 20, 3) := by decide +kernel
theorem dX5_init_31 : decode cX5_init 31 = .ok (.aload_n 0, 1) := by decide +kernel
theorem dX5_init_32 : decode cX5_init 32 = .ok (.iconst 5, 1) := by decide +kernel
theorem dX5_init_33 : decode cX5_init 33 = .ok (.anewarray 24, 3) := by decide +kernel
theorem dX5_init_36 : decode cX5_init 36 = .ok (.putfield 26, 3) := by decide +kernel
theorem dX5_init_39 : decode cX5_init 39 = .ok (.aload_n 0, 1) := by decide +kernel
theorem dX5_init_40 : decode cX5_init 40 = .ok (.new 30, 3) := by decide +kernel
theorem dX5_init_43 : decode cX5_init 43 = .ok (.dup, 1) := by decide +kernel
theorem dX5_init_44 : decode cX5_init 44 = .ok (.invokespecial 32, 3) := by decide +kernel
theorem dX5_init_47 : decode cX5_init 47 = .ok (.putfield 33, 3) := by decide +kernel
theorem dX5_init_50 : decode cX5_init 50 = .ok (.aload_n 0, 1) := by decide +kernel
theorem dX5_init_51 : decode cX5_init 51 = .ok (.new 37, 3) := by decide +kernel
theorem dX5_init_54 : decode cX5_init 54 = .ok (.dup, 1) := by decide +kernel
theorem dX5_init_55 : decode cX5_init 55 = .ok (.invokespecial 39, 3) := by decide +kernel
theorem dX5_init_58 : decode cX5_init 58 = .ok (.putfield 40, 3) := by decide +kernel
theorem dX5_init_61 : decode cX5_init 61 = .ok (.aload_n 0, 1) := by decide +kernel
theorem dX5_init_62 : decode cX5_init 62 = .ok (.getfield 9, 3) := by decide +kernel
theorem dX5_init_65 : decode cX5_init 65 = .ok (.iconst (-1), 1) := by decide +kernel
theorem dX5_init_66 : decode cX5_init 66 = .ok (.invokestatic 44, 3) := by decide +kernel
theorem dX5_init_69 : decode cX5_init 69 = .ok (.iconst 0, 1) := by decide +kernel
theorem dX5_init_70 : decode cX5_init 70 = .ok (.istore_n 1, 1) := by decide +kernel
theorem dX5_init_71 : decode cX5_init 71 = .ok (.iload_n 1, 1) := by decide +kernel
theorem dX5_init_72 : decode cX5_init 72 = .ok (.iconst 3, 1) := by decide +kernel
theorem dX5_init_73 : decode cX5_init 73 = .ok (.if_icmp .ge 19, 3) := by decide +kernel
theorem dX5_init_76 : decode cX5_init 76 = .ok (.aload_n 0, 1) := by decide +kernel
theorem dX5_init_77 : decode cX5_init 77 = .ok (.getfield 15, 3) := by decide +kernel
theorem dX5_init_80 : decode cX5_init 80 = .ok (.iload_n 1, 1) := by decide +kernel
theorem dX5_init_81 : decode cX5_init 81 = .ok (.aaload, 1) := by decide +kernel
theorem dX5_init_82 : decode cX5_init 82 = .ok (.iconst (-1), 1) := by decide +kernel
theorem dX5_init_83 : decode cX5_init 83 = .ok (.invokestatic 44, 3) := by decide +kernel
theorem dX5_init_86 : decode cX5_init 86 = .ok (.iinc 1 1, 3) := by decide +kernel
theorem dX5_init_89 : decode cX5_init 89 = .ok (.goto (-18), 3) := by decide +kernel
theorem dX5_init_92 : decode cX5_init 92 = .ok (.iconst 0, 1) := by decide +kernel
theorem dX5_init_93 : decode cX5_init 93 = .ok (.istore_n 1, 1) := by decide +kernel
theorem dX5_init_94 : decode cX5_init 94 = .ok (.iload_n 1, 1) := by decide +kernel
theorem dX5_init_95 : decode cX5_init 95 = .ok (.iconst 4, 1) := by decide +kernel
theorem dX5_init_96 : decode cX5_init 96 = .ok (.if_icmp .ge 22, 3) := by decide +kernel
theorem dX5_init_99 : decode cX5_init 99 = .ok (.aload_n 0, 1) := by decide +kernel
theorem dX5_init_100 : decode cX5_init 100 = .ok (.getfield 20, 3) := by decide +kernel
theorem dX5_init_103 : decode cX5_init 103 = .ok (.iload_n 1, 1) := by decide +kernel
theorem dX5_init_104 : decode cX5_init 104 = .ok (.new 18, 3) := by decide +kernel
theorem dX5_init_107 : decode cX5_init 107 = .ok (.dup, 1) := by decide +kernel
theorem dX5_init_108 : decode cX5_init 108 = .ok (.invokespecial 50, 3) := by decide +kernel
theorem dX5_init_111 : decode cX5_init 111 = .ok (.aastore, 1) := by decide +kernel
theorem dX5_init_112 : decode cX5_init 112 = .ok (.iinc 1 1, 3) := by decide +kernel
theorem dX5_init_115 : decode cX5_init 115 = .ok (.goto (-21), 3) := by decide +kernel
theorem dX5_init_118 : decode cX5_init 118 = .ok (.return_, 1) := by decide +kernel
set_option maxRecDepth 20000 in
set_option maxRecDepth 20000 in
set_option maxRecDepth 20000 in
set_option maxRecDepth 20000 in
theorem dX5_setFile_0 : decode cX5_setFile 0 = .ok (.iload_n 1, 1) := by decide +kernel
theorem dX5_setFile_1 : decode cX5_setFile 1 = .ok (.bipush 8, 2) := by decide +kernel
theorem dX5_setFile_3 : decode cX5_setFile 3 = .ok (.invokestatic 51, 3) := by decide +kernel
theorem dX5_setFile_6 : decode cX5_setFile 6 = .ok (.iload_n 2, 1) := by decide +kernel
theorem dX5_setFile_7 : decode cX5_setFile 7 = .ok (.invokestatic 55, 3) := by decide +kernel
theorem dX5_setFile_10 : decode cX5_setFile 10 = .ok (.aload_n 0, 1) := by decide +kernel
theorem dX5_setFile_11 : decode cX5_setFile 11 = .ok (.getfield 9, 3) := by decide +kernel
theorem dX5_setFile_14 : decode cX5_setFile 14 = .ok (.iload_n 1, 1) := by decide +kernel
theorem dX5_setFile_15 : decode cX5_setFile 15 = .ok (.iaload, 1) := by decide +kernel
theorem dX5_setFile_16 : decode cX5_setFile 16 = .ok (.istore_n 3, 1) := by decide +kernel
theorem dX5_setFile_17 : decode cX5_setFile 17 = .ok (.aload_n 0, 1) := by decide +kernel
theorem dX5_setFile_18 : decode cX5_setFile 18 = .ok (.getfield 9, 3) := by decide +kernel
theorem dX5_setFile_21 : decode cX5_setFile 21 = .ok (.iload_n 1, 1) := by decide +kernel
theorem dX5_setFile_22 : decode cX5_setFile 22 = .ok (.iload_n 2, 1) := by decide +kernel
theorem dX5_setFile_23 : decode cX5_setFile 23 = .ok (.iastore, 1) := by decide +kernel
theorem dX5_setFile_24 : decode cX5_setFile 24 = .ok (.iload_n 3, 1) := by decide +kernel
theorem dX5_setFile_25 : decode cX5_setFile 25 = .ok (.ireturn, 1) := by decide +kernel
set_option maxRecDepth 20000 in
set_option maxRecDepth 20000 in
set_option maxRecDepth 20000 in
set_option maxRecDepth 20000 in
theorem dX5_setBase_0 : decode cX5_setBase 0 = .ok (.iload_n 1, 1) := by decide +kernel
theorem dX5_setBase_1 : decode cX5_setBase 1 = .ok (.iconst 3, 1) := by decide +kernel
theorem dX5_setBase_2 : decode cX5_setBase 2 = .ok (.invokestatic 51, 3) := by decide +kernel
theorem dX5_setBase_5 : decode cX5_setBase 5 = .ok (.iload_n 2, 1) := by decide +kernel
theorem dX5_setBase_6 : decode cX5_setBase 6 = .ok (.bipush 12, 2) := by decide +kernel
theorem dX5_setBase_8 : decode cX5_setBase 8 = .ok (.invokestatic 51, 3) := by decide +kernel
theorem dX5_setBase_11 : decode cX5_setBase 11 = .ok (.iload_n 3, 1) := by decide +kernel
theorem dX5_setBase_12 : decode cX5_setBase 12 = .ok (.invokestatic 55, 3) := by decide +kernel
theorem dX5_setBase_15 : decode cX5_setBase 15 = .ok (.aload_n 0, 1) := by decide +kernel
theorem dX5_setBase_16 : decode cX5_setBase 16 = .ok (.getfield 15, 3) := by decide +kernel
theorem dX5_setBase_19 : decode cX5_setBase 19 = .ok (.iload_n 1, 1) := by decide +kernel
theorem dX5_setBase_20 : decode cX5_setBase 20 = .ok (.aaload, 1) := by decide +kernel
theorem dX5_setBase_21 : decode cX5_setBase 21 = .ok (.iload_n 2, 1) := by decide +kernel
theorem dX5_setBase_22 : decode cX5_setBase 22 = .ok (.iaload, 1) := by decide +kernel
theorem dX5_setBase_23 : decode cX5_setBase 23 = .ok (.istore 4, 2) := by decide +kernel
theorem dX5_setBase_25 : decode cX5_setBase 25 = .ok (.aload_n 0, 1) := by decide +kernel
theorem dX5_setBase_26 : decode cX5_setBase 26 = .ok (.getfield 15, 3) := by decide +kernel
theorem dX5_setBase_29 : decode cX5_setBase 29 = .ok (.iload_n 1, 1) := by decide +kernel
theorem dX5_setBase_30 : decode cX5_setBase 30 = .ok (.aaload, 1) := by decide +kernel
theorem dX5_setBase_31 : decode cX5_setBase 31 = .ok (.iload_n 2, 1) := by decide +kernel
theorem dX5_setBase_32 : decode cX5_setBase 32 = .ok (.iload_n 3, 1) := by decide +kernel
theorem dX5_setBase_33 : decode cX5_setBase 33 = .ok (.iastore, 1) := by decide +kernel
theorem dX5_setBase_34 : decode cX5_setBase 34 = .ok (.iload 4, 2) := by decide +kernel
theorem dX5_setBase_36 : decode cX5_setBase 36 = .ok (.ireturn, 1) := by decide +kernel
set_option maxRecDepth 20000 in
set_option maxRecDepth 20000 in
set_option maxRecDepth 20000 in
set_option maxRecDepth 20000 in
set_option maxRecDepth 20000 in
set_option maxRecDepth 20000 in
theorem dX5_reset_0 : decode cX5_reset 0 = .ok (.aload_n 0, 1) := by decide +kernel
theorem dX5_reset_1 : decode cX5_reset 1 = .ok (.iload_n 1, 1) := by decide +kernel
theorem dX5_reset_2 : decode cX5_reset 2 = .ok (.invokevirtual 59, 3) := by decide +kernel
theorem dX5_reset_5 : decode cX5_reset 5 = .ok (.astore_n 3, 1) := by decide +kernel
theorem dX5_reset_6 : decode cX5_reset 6 = .ok (.iload_n 2, 1) := by decide +kernel
theorem dX5_reset_7 : decode cX5_reset 7 = .ok (.iconst 3, 1) := by decide +kernel
theorem dX5_reset_8 : decode cX5_reset 8 = .ok (.invokestatic 51, 3) := by decide +kernel
theorem dX5_reset_11 : decode cX5_reset 11 = .ok (.aload_n 3, 1) := by decide +kernel
theorem dX5_reset_12 : decode cX5_reset 12 = .ok (.getfield 63, 3) := by decide +kernel
theorem dX5_reset_15 : decode cX5_reset 15 = .ok (.istore 4, 2) := by decide +kernel
theorem dX5_reset_17 : decode cX5_reset 17 = .ok (.aload_n 3, 1) := by decide +kernel
theorem dX5_reset_18 : decode cX5_reset 18 = .ok (.iload_n 2, 1) := by decide +kernel
theorem dX5_reset_19 : decode cX5_reset 19 = .ok (.invokevirtual 67, 3) := by decide +kernel
theorem dX5_reset_22 : decode cX5_reset 22 = .ok (.iload 4, 2) := by decide +kernel
theorem dX5_reset_24 : decode cX5_reset 24 = .ok (.ireturn, 1) := by decide +kernel
set_option maxRecDepth 20000 in
set_option maxRecDepth 20000 in
set_option maxRecDepth 20000 in
set_option maxRecDepth 20000 in
theorem dX5_addCopy_0 : decode cX5_addCopy 0 = .ok (.iload_n 1, 1) := by decide +kernel
theorem dX5_addCopy_1 : decode cX5_addCopy 1 = .ok (.iconst 4, 1) := by decide +kernel
theorem dX5_addCopy_2 : decode cX5_addCopy 2 = .ok (.invokestatic 51, 3) := by decide +kernel
theorem dX5_addCopy_5 : decode cX5_addCopy 5 = .ok (.iload_n 2, 1) := by decide +kernel
theorem dX5_addCopy_6 : decode cX5_addCopy 6 = .ok (.bipush 8, 2) := by decide +kernel
theorem dX5_addCopy_8 : decode cX5_addCopy 8 = .ok (.invokestatic 51, 3) := by decide +kernel
theorem dX5_addCopy_11 : decode cX5_addCopy 11 = .ok (.iload_n 3, 1) := by decide +kernel
theorem dX5_addCopy_12 : decode cX5_addCopy 12 = .ok (.bipush 12, 2) := by decide +kernel
theorem dX5_addCopy_14 : decode cX5_addCopy 14 = .ok (.invokestatic 51, 3) := by decide +kernel
theorem dX5_addCopy_17 : decode cX5_addCopy 17 = .ok (.aload_n 0, 1) := by decide +kernel
theorem dX5_addCopy_18 : decode cX5_addCopy 18 = .ok (.iload_n 1, 1) := by decide +kernel
theorem dX5_addCopy_19 : decode cX5_addCopy 19 = .ok (.iconst 0, 1) := by decide +kernel
theorem dX5_addCopy_20 : decode cX5_addCopy 20 = .ok (.iload_n 2, 1) := by decide +kernel
theorem dX5_addCopy_21 : decode cX5_addCopy 21 = .ok (.iload_n 3, 1) := by decide +kernel
theorem dX5_addCopy_22 : decode cX5_addCopy 22 = .ok (.invokevirtual 70, 3) := by decide +kernel
theorem dX5_addCopy_25 : decode cX5_addCopy 25 = .ok (.ireturn, 1) := by decide +kernel
set_option maxRecDepth 20000 in
set_option maxRecDepth 20000 in
set_option maxRecDepth 20000 in
set_option maxRecDepth 20000 in
theorem dX5_addRun_0 : decode cX5_addRun 0 = .ok (.iload_n 1, 1) := by decide +kernel
theorem dX5_addRun_1 : decode cX5_addRun 1 = .ok (.iconst 4, 1) := by decide +kernel
theorem dX5_addRun_2 : decode cX5_addRun 2 = .ok (.invokestatic 51, 3) := by decide +kernel
theorem dX5_addRun_5 : decode cX5_addRun 5 = .ok (.iload_n 2, 1) := by decide +kernel
theorem dX5_addRun_6 : decode cX5_addRun 6 = .ok (.bipush 12, 2) := by decide +kernel
theorem dX5_addRun_8 : decode cX5_addRun 8 = .ok (.invokestatic 51, 3) := by decide +kernel
theorem dX5_addRun_11 : decode cX5_addRun 11 = .ok (.iload_n 3, 1) := by decide +kernel
theorem dX5_addRun_12 : decode cX5_addRun 12 = .ok (.iconst 4, 1) := by decide +kernel
theorem dX5_addRun_13 : decode cX5_addRun 13 = .ok (.invokestatic 51, 3) := by decide +kernel
theorem dX5_addRun_16 : decode cX5_addRun 16 = .ok (.aload_n 0, 1) := by decide +kernel
theorem dX5_addRun_17 : decode cX5_addRun 17 = .ok (.iload_n 1, 1) := by decide +kernel
theorem dX5_addRun_18 : decode cX5_addRun 18 = .ok (.iconst 1, 1) := by decide +kernel
theorem dX5_addRun_19 : decode cX5_addRun 19 = .ok (.iload_n 2, 1) := by decide +kernel
theorem dX5_addRun_20 : decode cX5_addRun 20 = .ok (.iload_n 3, 1) := by decide +kernel
theorem dX5_addRun_21 : decode cX5_addRun 21 = .ok (.invokevirtual 70, 3) := by decide +kernel
theorem dX5_addRun_24 : decode cX5_addRun 24 = .ok (.ireturn, 1) := by decide +kernel
set_option maxRecDepth 20000 in
set_option maxRecDepth 20000 in
set_option maxRecDepth 20000 in
set_option maxRecDepth 20000 in
theorem dX5_addMove_0 : decode cX5_addMove 0 = .ok (.iload_n 1, 1) := by decide +kernel
theorem dX5_addMove_1 : decode cX5_addMove 1 = .ok (.iconst 4, 1) := by decide +kernel
theorem dX5_addMove_2 : decode cX5_addMove 2 = .ok (.invokestatic 51, 3) := by decide +kernel
theorem dX5_addMove_5 : decode cX5_addMove 5 = .ok (.iload_n 2, 1) := by decide +kernel
theorem dX5_addMove_6 : decode cX5_addMove 6 = .ok (.bipush 12, 2) := by decide +kernel
theorem dX5_addMove_8 : decode cX5_addMove 8 = .ok (.invokestatic 51, 3) := by decide +kernel
theorem dX5_addMove_11 : decode cX5_addMove 11 = .ok (.iload_n 3, 1) := by decide +kernel
theorem dX5_addMove_12 : decode cX5_addMove 12 = .ok (.bipush 12, 2) := by decide +kernel
theorem dX5_addMove_14 : decode cX5_addMove 14 = .ok (.invokestatic 51, 3) := by decide +kernel
theorem dX5_addMove_17 : decode cX5_addMove 17 = .ok (.iload_n 2, 1) := by decide +kernel
theorem dX5_addMove_18 : decode cX5_addMove 18 = .ok (.iload_n 3, 1) := by decide +kernel
theorem dX5_addMove_19 : decode cX5_addMove 19 = .ok (.if_icmp .ne 13, 3) := by decide +kernel
theorem dX5_addMove_22 : decode cX5_addMove 22 = .ok (.new 74, 3) := by decide +kernel
theorem dX5_addMove_25 : decode cX5_addMove 25 = .ok (.dup, 1) := by decide +kernel
theorem dX5_addMove_26 : decode cX5_addMove 26 = .ok (.ldc 76, 2) := by decide +kernel
theorem dX5_addMove_28 : decode cX5_addMove 28 = .ok (.invokespecial 78, 3) := by decide +kernel
theorem dX5_addMove_31 : decode cX5_addMove 31 = .ok (.athrow, 1) := by decide +kernel
theorem dX5_addMove_32 : decode cX5_addMove 32 = .ok (.aload_n 0, 1) := by decide +kernel
theorem dX5_addMove_33 : decode cX5_addMove 33 = .ok (.iload_n 1, 1) := by decide +kernel
theorem dX5_addMove_34 : decode cX5_addMove 34 = .ok (.iconst 2, 1) := by decide +kernel
theorem dX5_addMove_35 : decode cX5_addMove 35 = .ok (.iload_n 2, 1) := by decide +kernel
theorem dX5_addMove_36 : decode cX5_addMove 36 = .ok (.iload_n 3, 1) := by decide +kernel
theorem dX5_addMove_37 : decode cX5_addMove 37 = .ok (.invokevirtual 70, 3) := by decide +kernel
theorem dX5_addMove_40 : decode cX5_addMove 40 = .ok (.ireturn, 1) := by decide +kernel
set_option maxRecDepth 20000 in
set_option maxRecDepth 20000 in
set_option maxRecDepth 20000 in
set_option maxRecDepth 20000 in
theorem dX5_addRemove_0 : decode cX5_addRemove 0 = .ok (.iload_n 1, 1) := by decide +kernel
theorem dX5_addRemove_1 : decode cX5_addRemove 1 = .ok (.iconst 4, 1) := by decide +kernel
theorem dX5_addRemove_2 : decode cX5_addRemove 2 = .ok (.invokestatic 51, 3) := by decide +kernel
theorem dX5_addRemove_5 : decode cX5_addRemove 5 = .ok (.iload_n 2, 1) := by decide +kernel
theorem dX5_addRemove_6 : decode cX5_addRemove 6 = .ok (.bipush 12, 2) := by decide +kernel
theorem dX5_addRemove_8 : decode cX5_addRemove 8 = .ok (.invokestatic 51, 3) := by decide +kernel
theorem dX5_addRemove_11 : decode cX5_addRemove 11 = .ok (.aload_n 0, 1) := by decide +kernel
theorem dX5_addRemove_12 : decode cX5_addRemove 12 = .ok (.iload_n 1, 1) := by decide +kernel
theorem dX5_addRemove_13 : decode cX5_addRemove 13 = .ok (.iconst 3, 1) := by decide +kernel
theorem dX5_addRemove_14 : decode cX5_addRemove 14 = .ok (.iload_n 2, 1) := by decide +kernel
theorem dX5_addRemove_15 : decode cX5_addRemove 15 = .ok (.iconst (-1), 1) := by decide +kernel
theorem dX5_addRemove_16 : decode cX5_addRemove 16 = .ok (.invokevirtual 70, 3) := by decide +kernel
theorem dX5_addRemove_19 : decode cX5_addRemove 19 = .ok (.ireturn, 1) := by decide +kernel
set_option maxRecDepth 20000 in
set_option maxRecDepth 20000 in
set_option maxRecDepth 20000 in
set_option maxRecDepth 20000 in
theorem dX5_addSet_0 : decode cX5_addSet 0 = .ok (.iload_n 1, 1) := by decide +kernel
theorem dX5_addSet_1 : decode cX5_addSet 1 = .ok (.iconst 4, 1) := by decide +kernel
theorem dX5_addSet_2 : decode cX5_addSet 2 = .ok (.invokestatic 51, 3) := by decide +kernel
theorem dX5_addSet_5 : decode cX5_addSet 5 = .ok (.iload_n 2, 1) := by decide +kernel
theorem dX5_addSet_6 : decode cX5_addSet 6 = .ok (.iconst 4, 1) := by decide +kernel
theorem dX5_addSet_7 : decode cX5_addSet 7 = .ok (.invokestatic 51, 3) := by decide +kernel
theorem dX5_addSet_10 : decode cX5_addSet 10 = .ok (.iload_n 3, 1) := by decide +kernel
theorem dX5_addSet_11 : decode cX5_addSet 11 = .ok (.ifCond .lt 10, 3) := by decide +kernel
theorem dX5_addSet_14 : decode cX5_addSet 14 = .ok (.iload_n 3, 1) := by decide +kernel
theorem dX5_addSet_15 : decode cX5_addSet 15 = .ok (.sipush 999, 3) := by decide +kernel
theorem dX5_addSet_18 : decode cX5_addSet 18 = .ok (.if_icmp .le 13, 3) := by decide +kernel
theorem dX5_addSet_21 : decode cX5_addSet 21 = .ok (.new 74, 3) := by decide +kernel
theorem dX5_addSet_24 : decode cX5_addSet 24 = .ok (.dup, 1) := by decide +kernel
theorem dX5_addSet_25 : decode cX5_addSet 25 = .ok (.ldc 81, 2) := by decide +kernel
theorem dX5_addSet_27 : decode cX5_addSet 27 = .ok (.invokespecial 78, 3) := by decide +kernel
theorem dX5_addSet_30 : decode cX5_addSet 30 = .ok (.athrow, 1) := by decide +kernel
theorem dX5_addSet_31 : decode cX5_addSet 31 = .ok (.aload_n 0, 1) := by decide +kernel
theorem dX5_addSet_32 : decode cX5_addSet 32 = .ok (.iload_n 1, 1) := by decide +kernel
theorem dX5_addSet_33 : decode cX5_addSet 33 = .ok (.iconst 4, 1) := by decide +kernel
theorem dX5_addSet_34 : decode cX5_addSet 34 = .ok (.iload_n 2, 1) := by decide +kernel
theorem dX5_addSet_35 : decode cX5_addSet 35 = .ok (.iload_n 3, 1) := by decide +kernel
theorem dX5_addSet_36 : decode cX5_addSet 36 = .ok (.invokevirtual 70, 3) := by decide +kernel
theorem dX5_addSet_39 : decode cX5_addSet 39 = .ok (.ireturn, 1) := by decide +kernel
set_option maxRecDepth 20000 in
set_option maxRecDepth 20000 in
set_option maxRecDepth 20000 in
set_option maxRecDepth 20000 in
set_option maxRecDepth 20000 in
set_option maxRecDepth 20000 in
theorem dX5_drop_0 : decode cX5_drop 0 = .ok (.aload_n 0, 1) := by decide +kernel
theorem dX5_drop_1 : decode cX5_drop 1 = .ok (.iload_n 1, 1) := by decide +kernel
theorem dX5_drop_2 : decode cX5_drop 2 = .ok (.invokevirtual 59, 3) := by decide +kernel
theorem dX5_drop_5 : decode cX5_drop 5 = .ok (.astore_n 3, 1) := by decide +kernel
theorem dX5_drop_6 : decode cX5_drop 6 = .ok (.iload_n 2, 1) := by decide +kernel
theorem dX5_drop_7 : decode cX5_drop 7 = .ok (.aload_n 3, 1) := by decide +kernel
theorem dX5_drop_8 : decode cX5_drop 8 = .ok (.getfield 63, 3) := by decide +kernel
theorem dX5_drop_11 : decode cX5_drop 11 = .ok (.invokestatic 51, 3) := by decide +kernel
theorem dX5_drop_14 : decode cX5_drop 14 = .ok (.aload_n 3, 1) := by decide +kernel
theorem dX5_drop_15 : decode cX5_drop 15 = .ok (.iload_n 2, 1) := by decide +kernel
theorem dX5_drop_16 : decode cX5_drop 16 = .ok (.invokevirtual 83, 3) := by decide +kernel
theorem dX5_drop_19 : decode cX5_drop 19 = .ok (.aload_n 3, 1) := by decide +kernel
theorem dX5_drop_20 : decode cX5_drop 20 = .ok (.getfield 63, 3) := by decide +kernel
theorem dX5_drop_23 : decode cX5_drop 23 = .ok (.ireturn, 1) := by decide +kernel
set_option maxRecDepth 20000 in
set_option maxRecDepth 20000 in
theorem dX5_instructions_0 : decode cX5_instructions 0 = .ok (.aload_n 0, 1) := by decide +kernel
theorem dX5_instructions_1 : decode cX5_instructions 1 = .ok (.iload_n 1, 1) := by decide +kernel
theorem dX5_instructions_2 : decode cX5_instructions 2 = .ok (.invokevirtual 59, 3) := by decide +kernel
theorem dX5_instructions_5 : decode cX5_instructions 5 = .ok (.getfield 63, 3) := by decide +kernel
theorem dX5_instructions_8 : decode cX5_instructions 8 = .ok (.ireturn, 1) := by decide +kernel
set_option maxRecDepth 20000 in
set_option maxRecDepth 20000 in
set_option maxRecDepth 20000 in
set_option maxRecDepth 20000 in
set_option maxRecDepth 20000 in
set_option maxRecDepth 20000 in
set_option maxRecDepth 20000 in
set_option maxRecDepth 20000 in
set_option maxRecDepth 20000 in
set_option maxRecDepth 20000 in
theorem dX5_start_0 : decode cX5_start 0 = .ok (.aload_n 0, 1) := by decide +kernel
theorem dX5_start_1 : decode cX5_start 1 = .ok (.iload_n 1, 1) := by decide +kernel
theorem dX5_start_2 : decode cX5_start 2 = .ok (.invokevirtual 59, 3) := by decide +kernel
theorem dX5_start_5 : decode cX5_start 5 = .ok (.astore_n 2, 1) := by decide +kernel
theorem dX5_start_6 : decode cX5_start 6 = .ok (.aload_n 0, 1) := by decide +kernel
theorem dX5_start_7 : decode cX5_start 7 = .ok (.invokevirtual 86, 3) := by decide +kernel
theorem dX5_start_10 : decode cX5_start 10 = .ok (.aload_n 0, 1) := by decide +kernel
theorem dX5_start_11 : decode cX5_start 11 = .ok (.invokevirtual 89, 3) := by decide +kernel
theorem dX5_start_14 : decode cX5_start 14 = .ok (.aload_n 0, 1) := by decide +kernel
theorem dX5_start_15 : decode cX5_start 15 = .ok (.aload_n 2, 1) := by decide +kernel
theorem dX5_start_16 : decode cX5_start 16 = .ok (.getfield 92, 3) := by decide +kernel
theorem dX5_start_19 : decode cX5_start 19 = .ok (.invokevirtual 95, 3) := by decide +kernel
theorem dX5_start_22 : decode cX5_start 22 = .ok (.astore_n 3, 1) := by decide +kernel
theorem dX5_start_23 : decode cX5_start 23 = .ok (.aload_n 0, 1) := by decide +kernel
theorem dX5_start_24 : decode cX5_start 24 = .ok (.getfield 40, 3) := by decide +kernel
theorem dX5_start_27 : decode cX5_start 27 = .ok (.aload_n 2, 1) := by decide +kernel
theorem dX5_start_28 : decode cX5_start 28 = .ok (.aload_n 3, 1) := by decide +kernel
theorem dX5_start_29 : decode cX5_start 29 = .ok (.invokevirtual 99, 3) := by decide +kernel
theorem dX5_start_32 : decode cX5_start 32 = .ok (.aload_n 3, 1) := by decide +kernel
theorem dX5_start_33 : decode cX5_start 33 = .ok (.getfield 103, 3) := by decide +kernel
theorem dX5_start_36 : decode cX5_start 36 = .ok (.ireturn, 1) := by decide +kernel
set_option maxRecDepth 20000 in
set_option maxRecDepth 20000 in
set_option maxRecDepth 20000 in
set_option maxRecDepth 20000 in
set_option maxRecDepth 20000 in
set_option maxRecDepth 20000 in
set_option maxRecDepth 20000 in
set_option maxRecDepth 20000 in
set_option maxRecDepth 20000 in
set_option maxRecDepth 20000 in
set_option maxRecDepth 20000 in
set_option maxRecDepth 20000 in
theorem dX5_step_0 : decode cX5_step 0 = .ok (.aload_n 0, 1) := by decide +kernel
theorem dX5_step_1 : decode cX5_step 1 = .ok (.getfield 40, 3) := by decide +kernel
theorem dX5_step_4 : decode cX5_step 4 = .ok (.invokevirtual 106, 3) := by decide +kernel
theorem dX5_step_7 : decode cX5_step 7 = .ok (.astore_n 1, 1) := by decide +kernel
theorem dX5_step_8 : decode cX5_step 8 = .ok (.aload_n 0, 1) := by decide +kernel
theorem dX5_step_9 : decode cX5_step 9 = .ok (.getfield 40, 3) := by decide +kernel
theorem dX5_step_12 : decode cX5_step 12 = .ok (.getfield 110, 3) := by decide +kernel
theorem dX5_step_15 : decode cX5_step 15 = .ok (.astore_n 2, 1) := by decide +kernel
theorem dX5_step_16 : decode cX5_step 16 = .ok (.aload_n 1, 1) := by decide +kernel
theorem dX5_step_17 : decode cX5_step 17 = .ok (.ifnull 7, 3) := by decide +kernel
theorem dX5_step_20 : decode cX5_step 20 = .ok (.aload_n 2, 1) := by decide +kernel
theorem dX5_step_21 : decode cX5_step 21 = .ok (.ifnonnull 13, 3) := by decide +kernel
theorem dX5_step_24 : decode cX5_step 24 = .ok (.new 114, 3) := by decide +kernel
theorem dX5_step_27 : decode cX5_step 27 = .ok (.dup, 1) := by decide +kernel
theorem dX5_step_28 : decode cX5_step 28 = .ok (.ldc 116, 2) := by decide +kernel
theorem dX5_step_30 : decode cX5_step 30 = .ok (.invokespecial 118, 3) := by decide +kernel
theorem dX5_step_33 : decode cX5_step 33 = .ok (.athrow, 1) := by decide +kernel
theorem dX5_step_34 : decode cX5_step 34 = .ok (.aload_n 1, 1) := by decide +kernel
theorem dX5_step_35 : decode cX5_step 35 = .ok (.aload_n 0, 1) := by decide +kernel
theorem dX5_step_36 : decode cX5_step 36 = .ok (.getfield 9, 3) := by decide +kernel
theorem dX5_step_39 : decode cX5_step 39 = .ok (.invokevirtual 119, 3) := by decide +kernel
theorem dX5_step_42 : decode cX5_step 42 = .ok (.istore_n 3, 1) := by decide +kernel
theorem dX5_step_43 : decode cX5_step 43 = .ok (.aload_n 1, 1) := by decide +kernel
theorem dX5_step_44 : decode cX5_step 44 = .ok (.aload_n 2, 1) := by decide +kernel
theorem dX5_step_45 : decode cX5_step 45 = .ok (.iload_n 3, 1) := by decide +kernel
theorem dX5_step_46 : decode cX5_step 46 = .ok (.invokevirtual 125, 3) := by decide +kernel
theorem dX5_step_49 : decode cX5_step 49 = .ok (.ifCond .eq 12, 3) := by decide +kernel
theorem dX5_step_52 : decode cX5_step 52 = .ok (.aload_n 0, 1) := by decide +kernel
theorem dX5_step_53 : decode cX5_step 53 = .ok (.getfield 40, 3) := by decide +kernel
theorem dX5_step_56 : decode cX5_step 56 = .ok (.invokevirtual 129, 3) := by decide +kernel
theorem dX5_step_59 : decode cX5_step 59 = .ok (.iconst (-1), 1) := by decide +kernel
theorem dX5_step_60 : decode cX5_step 60 = .ok (.ireturn, 1) := by decide +kernel
theorem dX5_step_61 : decode cX5_step 61 = .ok (.aload_n 0, 1) := by decide +kernel
theorem dX5_step_62 : decode cX5_step 62 = .ok (.aload_n 2, 1) := by decide +kernel
theorem dX5_step_63 : decode cX5_step 63 = .ok (.aload_n 1, 1) := by decide +kernel
theorem dX5_step_64 : decode cX5_step 64 = .ok (.iload_n 3, 1) := by decide +kernel
theorem dX5_step_65 : decode cX5_step 65 = .ok (.invokevirtual 132, 3) := by decide +kernel
theorem dX5_step_68 : decode cX5_step 68 = .ok (.astore 4, 2) := by decide +kernel
theorem dX5_step_70 : decode cX5_step 70 = .ok (.aload_n 0, 1) := by decide +kernel
theorem dX5_step_71 : decode cX5_step 71 = .ok (.getfield 40, 3) := by decide +kernel
theorem dX5_step_74 : decode cX5_step 74 = .ok (.aload 4, 2) := by decide +kernel
theorem dX5_step_76 : decode cX5_step 76 = .ok (.invokevirtual 136, 3) := by decide +kernel
theorem dX5_step_79 : decode cX5_step 79 = .ok (.aload 4, 2) := by decide +kernel
theorem dX5_step_81 : decode cX5_step 81 = .ok (.getfield 103, 3) := by decide +kernel
theorem dX5_step_84 : decode cX5_step 84 = .ok (.ireturn, 1) := by decide +kernel
set_option maxRecDepth 20000 in
set_option maxRecDepth 20000 in
set_option maxRecDepth 20000 in
set_option maxRecDepth 20000 in
set_option maxRecDepth 20000 in
set_option maxRecDepth 20000 in
set_option maxRecDepth 20000 in
set_option maxRecDepth 20000 in
theorem dX5_build_0 : decode cX5_build 0 = .ok (.aload_n 0, 1) := by decide +kernel
theorem dX5_build_1 : decode cX5_build 1 = .ok (.iload_n 1, 1) := by decide +kernel
theorem dX5_build_2 : decode cX5_build 2 = .ok (.invokevirtual 140, 3) := by decide +kernel
theorem dX5_build_5 : decode cX5_build 5 = .ok (.pop, 1) := by decide +kernel
theorem dX5_build_6 : decode cX5_build 6 = .ok (.iconst 0, 1) := by decide +kernel
theorem dX5_build_7 : decode cX5_build 7 = .ok (.istore_n 2, 1) := by decide +kernel
theorem dX5_build_8 : decode cX5_build 8 = .ok (.iload_n 2, 1) := by decide +kernel
theorem dX5_build_9 : decode cX5_build 9 = .ok (.bipush 10, 2) := by decide +kernel
theorem dX5_build_11 : decode cX5_build 11 = .ok (.if_icmp .ge 24, 3) := by decide +kernel
theorem dX5_build_14 : decode cX5_build 14 = .ok (.aload_n 0, 1) := by decide +kernel
theorem dX5_build_15 : decode cX5_build 15 = .ok (.getfield 40, 3) := by decide +kernel
theorem dX5_build_18 : decode cX5_build 18 = .ok (.invokevirtual 144, 3) := by decide +kernel
theorem dX5_build_21 : decode cX5_build 21 = .ok (.ifCond .eq 14, 3) := by decide +kernel
theorem dX5_build_24 : decode cX5_build 24 = .ok (.aload_n 0, 1) := by decide +kernel
theorem dX5_build_25 : decode cX5_build 25 = .ok (.invokevirtual 148, 3) := by decide +kernel
theorem dX5_build_28 : decode cX5_build 28 = .ok (.pop, 1) := by decide +kernel
theorem dX5_build_29 : decode cX5_build 29 = .ok (.iinc 2 1, 3) := by decide +kernel
theorem dX5_build_32 : decode cX5_build 32 = .ok (.goto (-24), 3) := by decide +kernel
theorem dX5_build_35 : decode cX5_build 35 = .ok (.aload_n 0, 1) := by decide +kernel
theorem dX5_build_36 : decode cX5_build 36 = .ok (.invokevirtual 152, 3) := by decide +kernel
theorem dX5_build_39 : decode cX5_build 39 = .ok (.ireturn, 1) := by decide +kernel
set_option maxRecDepth 20000 in
set_option maxRecDepth 20000 in
theorem dX5_stepsLeft_0 : decode cX5_stepsLeft 0 = .ok (.aload_n 0, 1) := by decide +kernel
theorem dX5_stepsLeft_1 : decode cX5_stepsLeft 1 = .ok (.getfield 40, 3) := by decide +kernel
theorem dX5_stepsLeft_4 : decode cX5_stepsLeft 4 = .ok (.invokevirtual 155, 3) := by decide +kernel
theorem dX5_stepsLeft_7 : decode cX5_stepsLeft 7 = .ok (.ireturn, 1) := by decide +kernel
set_option maxRecDepth 20000 in
set_option maxRecDepth 20000 in
set_option maxRecDepth 20000 in
set_option maxRecDepth 20000 in
theorem dX5_built_0 : decode cX5_built 0 = .ok (.aload_n 0, 1) := by decide +kernel
theorem dX5_built_1 : decode cX5_built 1 = .ok (.getfield 40, 3) := by decide +kernel
theorem dX5_built_4 : decode cX5_built 4 = .ok (.invokevirtual 158, 3) := by decide +kernel
theorem dX5_built_7 : decode cX5_built 7 = .ok (.invokestatic 162, 3) := by decide +kernel
theorem dX5_built_10 : decode cX5_built 10 = .ok (.ireturn, 1) := by decide +kernel
theorem dX5_hits_0 : decode cX5_hits 0 = .ok (.aload_n 0, 1) := by decide +kernel
theorem dX5_hits_1 : decode cX5_hits 1 = .ok (.getfield 166, 3) := by decide +kernel
theorem dX5_hits_4 : decode cX5_hits 4 = .ok (.ireturn, 1) := by decide +kernel
theorem dX5_misses_0 : decode cX5_misses 0 = .ok (.aload_n 0, 1) := by decide +kernel
theorem dX5_misses_1 : decode cX5_misses 1 = .ok (.getfield 169, 3) := by decide +kernel
theorem dX5_misses_4 : decode cX5_misses 4 = .ok (.ireturn, 1) := by decide +kernel
set_option maxRecDepth 20000 in
set_option maxRecDepth 20000 in
set_option maxRecDepth 20000 in
set_option maxRecDepth 20000 in
set_option maxRecDepth 20000 in
set_option maxRecDepth 20000 in
set_option maxRecDepth 20000 in
set_option maxRecDepth 20000 in
set_option maxRecDepth 20000 in
set_option maxRecDepth 20000 in
set_option maxRecDepth 20000 in
set_option maxRecDepth 20000 in
set_option maxRecDepth 20000 in
set_option maxRecDepth 20000 in
set_option maxRecDepth 20000 in
set_option maxRecDepth 20000 in
theorem dX5_cleanDigest_0 : decode cX5_cleanDigest 0 = .ok (.aload_n 0, 1) := by decide +kernel
theorem dX5_cleanDigest_1 : decode cX5_cleanDigest 1 = .ok (.iload_n 1, 1) := by decide +kernel
theorem dX5_cleanDigest_2 : decode cX5_cleanDigest 2 = .ok (.invokevirtual 59, 3) := by decide +kernel
theorem dX5_cleanDigest_5 : decode cX5_cleanDigest 5 = .ok (.astore_n 2, 1) := by decide +kernel
theorem dX5_cleanDigest_6 : decode cX5_cleanDigest 6 = .ok (.new 24, 3) := by decide +kernel
theorem dX5_cleanDigest_9 : decode cX5_cleanDigest 9 = .ok (.dup, 1) := by decide +kernel
theorem dX5_cleanDigest_10 : decode cX5_cleanDigest 10 = .ok (.iconst (-1), 1) := by decide +kernel
theorem dX5_cleanDigest_11 : decode cX5_cleanDigest 11 = .ok (.aload_n 0, 1) := by decide +kernel
theorem dX5_cleanDigest_12 : decode cX5_cleanDigest 12 = .ok (.aload_n 2, 1) := by decide +kernel
theorem dX5_cleanDigest_13 : decode cX5_cleanDigest 13 = .ok (.getfield 92, 3) := by decide +kernel
theorem dX5_cleanDigest_16 : decode cX5_cleanDigest 16 = .ok (.invokevirtual 172, 3) := by decide +kernel
theorem dX5_cleanDigest_19 : decode cX5_cleanDigest 19 = .ok (.invokespecial 176, 3) := by decide +kernel
theorem dX5_cleanDigest_22 : decode cX5_cleanDigest 22 = .ok (.astore_n 3, 1) := by decide +kernel
theorem dX5_cleanDigest_23 : decode cX5_cleanDigest 23 = .ok (.iconst 0, 1) := by decide +kernel
theorem dX5_cleanDigest_24 : decode cX5_cleanDigest 24 = .ok (.istore 4, 2) := by decide +kernel
theorem dX5_cleanDigest_26 : decode cX5_cleanDigest 26 = .ok (.iload 4, 2) := by decide +kernel
theorem dX5_cleanDigest_28 : decode cX5_cleanDigest 28 = .ok (.aload_n 2, 1) := by decide +kernel
theorem dX5_cleanDigest_29 : decode cX5_cleanDigest 29 = .ok (.getfield 63, 3) := by decide +kernel
theorem dX5_cleanDigest_32 : decode cX5_cleanDigest 32 = .ok (.if_icmp .ge 56, 3) := by decide +kernel
theorem dX5_cleanDigest_35 : decode cX5_cleanDigest 35 = .ok (.aload_n 2, 1) := by decide +kernel
theorem dX5_cleanDigest_36 : decode cX5_cleanDigest 36 = .ok (.iload 4, 2) := by decide +kernel
theorem dX5_cleanDigest_38 : decode cX5_cleanDigest 38 = .ok (.invokevirtual 179, 3) := by decide +kernel
theorem dX5_cleanDigest_41 : decode cX5_cleanDigest 41 = .ok (.astore 5, 2) := by decide +kernel
theorem dX5_cleanDigest_43 : decode cX5_cleanDigest 43 = .ok (.aload 5, 2) := by decide +kernel
theorem dX5_cleanDigest_45 : decode cX5_cleanDigest 45 = .ok (.ifnonnull 5, 3) := by decide +kernel
theorem dX5_cleanDigest_48 : decode cX5_cleanDigest 48 = .ok (.iconst (-1), 1) := by decide +kernel
theorem dX5_cleanDigest_49 : decode cX5_cleanDigest 49 = .ok (.ireturn, 1) := by decide +kernel
theorem dX5_cleanDigest_50 : decode cX5_cleanDigest 50 = .ok (.aload 5, 2) := by decide +kernel
theorem dX5_cleanDigest_52 : decode cX5_cleanDigest 52 = .ok (.aload_n 0, 1) := by decide +kernel
theorem dX5_cleanDigest_53 : decode cX5_cleanDigest 53 = .ok (.getfield 9, 3) := by decide +kernel
theorem dX5_cleanDigest_56 : decode cX5_cleanDigest 56 = .ok (.invokevirtual 119, 3) := by decide +kernel
theorem dX5_cleanDigest_59 : decode cX5_cleanDigest 59 = .ok (.istore 6, 2) := by decide +kernel
theorem dX5_cleanDigest_61 : decode cX5_cleanDigest 61 = .ok (.aload 5, 2) := by decide +kernel
theorem dX5_cleanDigest_63 : decode cX5_cleanDigest 63 = .ok (.aload_n 3, 1) := by decide +kernel
theorem dX5_cleanDigest_64 : decode cX5_cleanDigest 64 = .ok (.iload 6, 2) := by decide +kernel
theorem dX5_cleanDigest_66 : decode cX5_cleanDigest 66 = .ok (.invokevirtual 125, 3) := by decide +kernel
theorem dX5_cleanDigest_69 : decode cX5_cleanDigest 69 = .ok (.ifCond .eq 5, 3) := by decide +kernel
theorem dX5_cleanDigest_72 : decode cX5_cleanDigest 72 = .ok (.iconst (-1), 1) := by decide +kernel
theorem dX5_cleanDigest_73 : decode cX5_cleanDigest 73 = .ok (.ireturn, 1) := by decide +kernel
theorem dX5_cleanDigest_74 : decode cX5_cleanDigest 74 = .ok (.aload 5, 2) := by decide +kernel
theorem dX5_cleanDigest_76 : decode cX5_cleanDigest 76 = .ok (.aload_n 3, 1) := by decide +kernel
theorem dX5_cleanDigest_77 : decode cX5_cleanDigest 77 = .ok (.iload 6, 2) := by decide +kernel
theorem dX5_cleanDigest_79 : decode cX5_cleanDigest 79 = .ok (.invokevirtual 183, 3) := by decide +kernel
theorem dX5_cleanDigest_82 : decode cX5_cleanDigest 82 = .ok (.iinc 4 1, 3) := by decide +kernel
theorem dX5_cleanDigest_85 : decode cX5_cleanDigest 85 = .ok (.goto (-59), 3) := by decide +kernel
theorem dX5_cleanDigest_88 : decode cX5_cleanDigest 88 = .ok (.aload_n 3, 1) := by decide +kernel
theorem dX5_cleanDigest_89 : decode cX5_cleanDigest 89 = .ok (.invokevirtual 187, 3) := by decide +kernel
theorem dX5_cleanDigest_92 : decode cX5_cleanDigest 92 = .ok (.ireturn, 1) := by decide +kernel
set_option maxRecDepth 20000 in
set_option maxRecDepth 20000 in
set_option maxRecDepth 20000 in
set_option maxRecDepth 20000 in
set_option maxRecDepth 20000 in
set_option maxRecDepth 20000 in
theorem dX5_tag_0 : decode cX5_tag 0 = .ok (.iload_n 1, 1) := by decide +kernel
theorem dX5_tag_1 : decode cX5_tag 1 = .ok (.iconst 5, 1) := by decide +kernel
theorem dX5_tag_2 : decode cX5_tag 2 = .ok (.invokestatic 51, 3) := by decide +kernel
theorem dX5_tag_5 : decode cX5_tag 5 = .ok (.aload_n 0, 1) := by decide +kernel
theorem dX5_tag_6 : decode cX5_tag 6 = .ok (.getfield 40, 3) := by decide +kernel
theorem dX5_tag_9 : decode cX5_tag 9 = .ok (.invokevirtual 158, 3) := by decide +kernel
theorem dX5_tag_12 : decode cX5_tag 12 = .ok (.astore_n 2, 1) := by decide +kernel
theorem dX5_tag_13 : decode cX5_tag 13 = .ok (.aload_n 2, 1) := by decide +kernel
theorem dX5_tag_14 : decode cX5_tag 14 = .ok (.ifnonnull 13, 3) := by decide +kernel
theorem dX5_tag_17 : decode cX5_tag 17 = .ok (.new 114, 3) := by decide +kernel
theorem dX5_tag_20 : decode cX5_tag 20 = .ok (.dup, 1) := by decide +kernel
theorem dX5_tag_21 : decode cX5_tag 21 = .ok (.ldc 190, 2) := by decide +kernel
theorem dX5_tag_23 : decode cX5_tag 23 = .ok (.invokespecial 118, 3) := by decide +kernel
theorem dX5_tag_26 : decode cX5_tag 26 = .ok (.athrow, 1) := by decide +kernel
theorem dX5_tag_27 : decode cX5_tag 27 = .ok (.aload_n 0, 1) := by decide +kernel
theorem dX5_tag_28 : decode cX5_tag 28 = .ok (.getfield 26, 3) := by decide +kernel
theorem dX5_tag_31 : decode cX5_tag 31 = .ok (.iload_n 1, 1) := by decide +kernel
theorem dX5_tag_32 : decode cX5_tag 32 = .ok (.aaload, 1) := by decide +kernel
theorem dX5_tag_33 : decode cX5_tag 33 = .ok (.invokestatic 162, 3) := by decide +kernel
theorem dX5_tag_36 : decode cX5_tag 36 = .ok (.istore_n 3, 1) := by decide +kernel
theorem dX5_tag_37 : decode cX5_tag 37 = .ok (.aload_n 0, 1) := by decide +kernel
theorem dX5_tag_38 : decode cX5_tag 38 = .ok (.getfield 26, 3) := by decide +kernel
theorem dX5_tag_41 : decode cX5_tag 41 = .ok (.iload_n 1, 1) := by decide +kernel
theorem dX5_tag_42 : decode cX5_tag 42 = .ok (.aload_n 2, 1) := by decide +kernel
theorem dX5_tag_43 : decode cX5_tag 43 = .ok (.aastore, 1) := by decide +kernel
theorem dX5_tag_44 : decode cX5_tag 44 = .ok (.iload_n 3, 1) := by decide +kernel
theorem dX5_tag_45 : decode cX5_tag 45 = .ok (.ireturn, 1) := by decide +kernel
set_option maxRecDepth 20000 in
set_option maxRecDepth 20000 in
set_option maxRecDepth 20000 in
set_option maxRecDepth 20000 in
theorem dX5_untag_0 : decode cX5_untag 0 = .ok (.iload_n 1, 1) := by decide +kernel
theorem dX5_untag_1 : decode cX5_untag 1 = .ok (.iconst 5, 1) := by decide +kernel
theorem dX5_untag_2 : decode cX5_untag 2 = .ok (.invokestatic 51, 3) := by decide +kernel
theorem dX5_untag_5 : decode cX5_untag 5 = .ok (.aload_n 0, 1) := by decide +kernel
theorem dX5_untag_6 : decode cX5_untag 6 = .ok (.getfield 26, 3) := by decide +kernel
theorem dX5_untag_9 : decode cX5_untag 9 = .ok (.iload_n 1, 1) := by decide +kernel
theorem dX5_untag_10 : decode cX5_untag 10 = .ok (.aaload, 1) := by decide +kernel
theorem dX5_untag_11 : decode cX5_untag 11 = .ok (.invokestatic 162, 3) := by decide +kernel
theorem dX5_untag_14 : decode cX5_untag 14 = .ok (.istore_n 2, 1) := by decide +kernel
theorem dX5_untag_15 : decode cX5_untag 15 = .ok (.aload_n 0, 1) := by decide +kernel
theorem dX5_untag_16 : decode cX5_untag 16 = .ok (.getfield 26, 3) := by decide +kernel
theorem dX5_untag_19 : decode cX5_untag 19 = .ok (.iload_n 1, 1) := by decide +kernel
theorem dX5_untag_20 : decode cX5_untag 20 = .ok (.aconst_null, 1) := by decide +kernel
theorem dX5_untag_21 : decode cX5_untag 21 = .ok (.aastore, 1) := by decide +kernel
theorem dX5_untag_22 : decode cX5_untag 22 = .ok (.iload_n 2, 1) := by decide +kernel
theorem dX5_untag_23 : decode cX5_untag 23 = .ok (.ireturn, 1) := by decide +kernel
set_option maxRecDepth 20000 in
set_option maxRecDepth 20000 in
set_option maxRecDepth 20000 in
set_option maxRecDepth 20000 in
theorem dX5_tagged_0 : decode cX5_tagged 0 = .ok (.iload_n 1, 1) := by decide +kernel
theorem dX5_tagged_1 : decode cX5_tagged 1 = .ok (.iconst 5, 1) := by decide +kernel
theorem dX5_tagged_2 : decode cX5_tagged 2 = .ok (.invokestatic 51, 3) := by decide +kernel
theorem dX5_tagged_5 : decode cX5_tagged 5 = .ok (.aload_n 0, 1) := by decide +kernel
theorem dX5_tagged_6 : decode cX5_tagged 6 = .ok (.getfield 26, 3) := by decide +kernel
theorem dX5_tagged_9 : decode cX5_tagged 9 = .ok (.iload_n 1, 1) := by decide +kernel
theorem dX5_tagged_10 : decode cX5_tagged 10 = .ok (.aaload, 1) := by decide +kernel
theorem dX5_tagged_11 : decode cX5_tagged 11 = .ok (.invokestatic 162, 3) := by decide +kernel
theorem dX5_tagged_14 : decode cX5_tagged 14 = .ok (.ireturn, 1) := by decide +kernel
set_option maxRecDepth 20000 in
set_option maxRecDepth 20000 in
set_option maxRecDepth 20000 in
set_option maxRecDepth 20000 in
set_option maxRecDepth 20000 in
set_option maxRecDepth 20000 in
set_option maxRecDepth 20000 in
set_option maxRecDepth 20000 in
set_option maxRecDepth 20000 in
set_option maxRecDepth 20000 in
theorem dX5_squash_0 : decode cX5_squash 0 = .ok (.iload_n 1, 1) := by decide +kernel
theorem dX5_squash_1 : decode cX5_squash 1 = .ok (.iconst 5, 1) := by decide +kernel
theorem dX5_squash_2 : decode cX5_squash 2 = .ok (.invokestatic 51, 3) := by decide +kernel
theorem dX5_squash_5 : decode cX5_squash 5 = .ok (.aload_n 0, 1) := by decide +kernel
theorem dX5_squash_6 : decode cX5_squash 6 = .ok (.getfield 26, 3) := by decide +kernel
theorem dX5_squash_9 : decode cX5_squash 9 = .ok (.iload_n 1, 1) := by decide +kernel
theorem dX5_squash_10 : decode cX5_squash 10 = .ok (.aaload, 1) := by decide +kernel
theorem dX5_squash_11 : decode cX5_squash 11 = .ok (.astore_n 3, 1) := by decide +kernel
theorem dX5_squash_12 : decode cX5_squash 12 = .ok (.iload_n 2, 1) := by decide +kernel
theorem dX5_squash_13 : decode cX5_squash 13 = .ok (.iconst 1, 1) := by decide +kernel
theorem dX5_squash_14 : decode cX5_squash 14 = .ok (.if_icmp .lt 15, 3) := by decide +kernel
theorem dX5_squash_17 : decode cX5_squash 17 = .ok (.aload_n 3, 1) := by decide +kernel
theorem dX5_squash_18 : decode cX5_squash 18 = .ok (.ifnull 21, 3) := by decide +kernel
theorem dX5_squash_21 : decode cX5_squash 21 = .ok (.iload_n 2, 1) := by decide +kernel
theorem dX5_squash_22 : decode cX5_squash 22 = .ok (.aload_n 3, 1) := by decide +kernel
theorem dX5_squash_23 : decode cX5_squash 23 = .ok (.getfield 192, 3) := by decide +kernel
theorem dX5_squash_26 : decode cX5_squash 26 = .ok (.if_icmp .le 13, 3) := by decide +kernel
theorem dX5_squash_29 : decode cX5_squash 29 = .ok (.new 195, 3) := by decide +kernel
theorem dX5_squash_32 : decode cX5_squash 32 = .ok (.dup, 1) := by decide +kernel
theorem dX5_squash_33 : decode cX5_squash 33 = .ok (.ldc 197, 2) := by decide +kernel
theorem dX5_squash_35 : decode cX5_squash 35 = .ok (.invokespecial 199, 3) := by decide +kernel
theorem dX5_squash_38 : decode cX5_squash 38 = .ok (.athrow, 1) := by decide +kernel
theorem dX5_squash_39 : decode cX5_squash 39 = .ok (.aload_n 3, 1) := by decide +kernel
theorem dX5_squash_40 : decode cX5_squash 40 = .ok (.ifnonnull 13, 3) := by decide +kernel
theorem dX5_squash_43 : decode cX5_squash 43 = .ok (.new 114, 3) := by decide +kernel
theorem dX5_squash_46 : decode cX5_squash 46 = .ok (.dup, 1) := by decide +kernel
theorem dX5_squash_47 : decode cX5_squash 47 = .ok (.ldc 200, 2) := by decide +kernel
theorem dX5_squash_49 : decode cX5_squash 49 = .ok (.invokespecial 118, 3) := by decide +kernel
theorem dX5_squash_52 : decode cX5_squash 52 = .ok (.athrow, 1) := by decide +kernel
theorem dX5_squash_53 : decode cX5_squash 53 = .ok (.aload_n 0, 1) := by decide +kernel
theorem dX5_squash_54 : decode cX5_squash 54 = .ok (.invokevirtual 89, 3) := by decide +kernel
theorem dX5_squash_57 : decode cX5_squash 57 = .ok (.aload_n 0, 1) := by decide +kernel
theorem dX5_squash_58 : decode cX5_squash 58 = .ok (.getfield 33, 3) := by decide +kernel
theorem dX5_squash_61 : decode cX5_squash 61 = .ok (.aload_n 3, 1) := by decide +kernel
theorem dX5_squash_62 : decode cX5_squash 62 = .ok (.iload_n 2, 1) := by decide +kernel
theorem dX5_squash_63 : decode cX5_squash 63 = .ok (.iconst 1, 1) := by decide +kernel
theorem dX5_squash_64 : decode cX5_squash 64 = .ok (.isub, 1) := by decide +kernel
theorem dX5_squash_65 : decode cX5_squash 65 = .ok (.invokevirtual 202, 3) := by decide +kernel
theorem dX5_squash_68 : decode cX5_squash 68 = .ok (.invokevirtual 205, 3) := by decide +kernel
theorem dX5_squash_71 : decode cX5_squash 71 = .ok (.astore 4, 2) := by decide +kernel
theorem dX5_squash_73 : decode cX5_squash 73 = .ok (.aload 4, 2) := by decide +kernel
theorem dX5_squash_75 : decode cX5_squash 75 = .ok (.aload_n 3, 1) := by decide +kernel
theorem dX5_squash_76 : decode cX5_squash 76 = .ok (.invokevirtual 209, 3) := by decide +kernel
theorem dX5_squash_79 : decode cX5_squash 79 = .ok (.aload_n 0, 1) := by decide +kernel
theorem dX5_squash_80 : decode cX5_squash 80 = .ok (.getfield 26, 3) := by decide +kernel
theorem dX5_squash_83 : decode cX5_squash 83 = .ok (.iload_n 1, 1) := by decide +kernel
theorem dX5_squash_84 : decode cX5_squash 84 = .ok (.aload 4, 2) := by decide +kernel
theorem dX5_squash_86 : decode cX5_squash 86 = .ok (.aastore, 1) := by decide +kernel
theorem dX5_squash_87 : decode cX5_squash 87 = .ok (.aload 4, 2) := by decide +kernel
theorem dX5_squash_89 : decode cX5_squash 89 = .ok (.getfield 103, 3) := by decide +kernel
theorem dX5_squash_92 : decode cX5_squash 92 = .ok (.ireturn, 1) := by decide +kernel
set_option maxRecDepth 20000 in
set_option maxRecDepth 20000 in
set_option maxRecDepth 20000 in
set_option maxRecDepth 20000 in
set_option maxRecDepth 20000 in
set_option maxRecDepth 20000 in
set_option maxRecDepth 20000 in
set_option maxRecDepth 20000 in
set_option maxRecDepth 20000 in
set_option maxRecDepth 20000 in
set_option maxRecDepth 20000 in
set_option maxRecDepth 20000 in
theorem dX5_rebase_0 : decode cX5_rebase 0 = .ok (.iload_n 1, 1) := by decide +kernel
theorem dX5_rebase_1 : decode cX5_rebase 1 = .ok (.iconst 5, 1) := by decide +kernel
theorem dX5_rebase_2 : decode cX5_rebase 2 = .ok (.invokestatic 51, 3) := by decide +kernel
theorem dX5_rebase_5 : decode cX5_rebase 5 = .ok (.iload_n 2, 1) := by decide +kernel
theorem dX5_rebase_6 : decode cX5_rebase 6 = .ok (.iconst 3, 1) := by decide +kernel
theorem dX5_rebase_7 : decode cX5_rebase 7 = .ok (.invokestatic 51, 3) := by decide +kernel
theorem dX5_rebase_10 : decode cX5_rebase 10 = .ok (.aload_n 0, 1) := by decide +kernel
theorem dX5_rebase_11 : decode cX5_rebase 11 = .ok (.getfield 26, 3) := by decide +kernel
theorem dX5_rebase_14 : decode cX5_rebase 14 = .ok (.iload_n 1, 1) := by decide +kernel
theorem dX5_rebase_15 : decode cX5_rebase 15 = .ok (.aaload, 1) := by decide +kernel
theorem dX5_rebase_16 : decode cX5_rebase 16 = .ok (.astore_n 3, 1) := by decide +kernel
theorem dX5_rebase_17 : decode cX5_rebase 17 = .ok (.aload_n 3, 1) := by decide +kernel
theorem dX5_rebase_18 : decode cX5_rebase 18 = .ok (.ifnonnull 13, 3) := by decide +kernel
theorem dX5_rebase_21 : decode cX5_rebase 21 = .ok (.new 114, 3) := by decide +kernel
theorem dX5_rebase_24 : decode cX5_rebase 24 = .ok (.dup, 1) := by decide +kernel
theorem dX5_rebase_25 : decode cX5_rebase 25 = .ok (.ldc 200, 2) := by decide +kernel
theorem dX5_rebase_27 : decode cX5_rebase 27 = .ok (.invokespecial 118, 3) := by decide +kernel
theorem dX5_rebase_30 : decode cX5_rebase 30 = .ok (.athrow, 1) := by decide +kernel
theorem dX5_rebase_31 : decode cX5_rebase 31 = .ok (.aload_n 0, 1) := by decide +kernel
theorem dX5_rebase_32 : decode cX5_rebase 32 = .ok (.invokevirtual 89, 3) := by decide +kernel
theorem dX5_rebase_35 : decode cX5_rebase 35 = .ok (.aload_n 0, 1) := by decide +kernel
theorem dX5_rebase_36 : decode cX5_rebase 36 = .ok (.iload_n 2, 1) := by decide +kernel
theorem dX5_rebase_37 : decode cX5_rebase 37 = .ok (.invokevirtual 95, 3) := by decide +kernel
theorem dX5_rebase_40 : decode cX5_rebase 40 = .ok (.astore 4, 2) := by decide +kernel
theorem dX5_rebase_42 : decode cX5_rebase 42 = .ok (.iconst 1, 1) := by decide +kernel
theorem dX5_rebase_43 : decode cX5_rebase 43 = .ok (.istore 5, 2) := by decide +kernel
theorem dX5_rebase_45 : decode cX5_rebase 45 = .ok (.iload 5, 2) := by decide +kernel
theorem dX5_rebase_47 : decode cX5_rebase 47 = .ok (.aload_n 3, 1) := by decide +kernel
theorem dX5_rebase_48 : decode cX5_rebase 48 = .ok (.getfield 192, 3) := by decide +kernel
theorem dX5_rebase_51 : decode cX5_rebase 51 = .ok (.if_icmp .gt 31, 3) := by decide +kernel
theorem dX5_rebase_54 : decode cX5_rebase 54 = .ok (.aload_n 0, 1) := by decide +kernel
theorem dX5_rebase_55 : decode cX5_rebase 55 = .ok (.getfield 33, 3) := by decide +kernel
theorem dX5_rebase_58 : decode cX5_rebase 58 = .ok (.aload 4, 2) := by decide +kernel
theorem dX5_rebase_60 : decode cX5_rebase 60 = .ok (.invokevirtual 205, 3) := by decide +kernel
theorem dX5_rebase_63 : decode cX5_rebase 63 = .ok (.astore 4, 2) := by decide +kernel
theorem dX5_rebase_65 : decode cX5_rebase 65 = .ok (.aload 4, 2) := by decide +kernel
theorem dX5_rebase_67 : decode cX5_rebase 67 = .ok (.aload_n 3, 1) := by decide +kernel
theorem dX5_rebase_68 : decode cX5_rebase 68 = .ok (.iload 5, 2) := by decide +kernel
theorem dX5_rebase_70 : decode cX5_rebase 70 = .ok (.invokevirtual 202, 3) := by decide +kernel
theorem dX5_rebase_73 : decode cX5_rebase 73 = .ok (.invokevirtual 212, 3) := by decide +kernel
theorem dX5_rebase_76 : decode cX5_rebase 76 = .ok (.iinc 5 1, 3) := by decide +kernel
theorem dX5_rebase_79 : decode cX5_rebase 79 = .ok (.goto (-34), 3) := by decide +kernel
theorem dX5_rebase_82 : decode cX5_rebase 82 = .ok (.aload_n 0, 1) := by decide +kernel
theorem dX5_rebase_83 : decode cX5_rebase 83 = .ok (.getfield 26, 3) := by decide +kernel
theorem dX5_rebase_86 : decode cX5_rebase 86 = .ok (.iload_n 1, 1) := by decide +kernel
theorem dX5_rebase_87 : decode cX5_rebase 87 = .ok (.aload 4, 2) := by decide +kernel
theorem dX5_rebase_89 : decode cX5_rebase 89 = .ok (.aastore, 1) := by decide +kernel
theorem dX5_rebase_90 : decode cX5_rebase 90 = .ok (.aload 4, 2) := by decide +kernel
theorem dX5_rebase_92 : decode cX5_rebase 92 = .ok (.getfield 103, 3) := by decide +kernel
theorem dX5_rebase_95 : decode cX5_rebase 95 = .ok (.ireturn, 1) := by decide +kernel
set_option maxRecDepth 20000 in
set_option maxRecDepth 20000 in
set_option maxRecDepth 20000 in
set_option maxRecDepth 20000 in
set_option maxRecDepth 20000 in
set_option maxRecDepth 20000 in
set_option maxRecDepth 20000 in
set_option maxRecDepth 20000 in
set_option maxRecDepth 20000 in
set_option maxRecDepth 20000 in
theorem dX5_prune_0 : decode cX5_prune 0 = .ok (.aload_n 0, 1) := by decide +kernel
theorem dX5_prune_1 : decode cX5_prune 1 = .ok (.invokevirtual 86, 3) := by decide +kernel
theorem dX5_prune_4 : decode cX5_prune 4 = .ok (.iconst 0, 1) := by decide +kernel
theorem dX5_prune_5 : decode cX5_prune 5 = .ok (.istore_n 1, 1) := by decide +kernel
theorem dX5_prune_6 : decode cX5_prune 6 = .ok (.iconst 0, 1) := by decide +kernel
theorem dX5_prune_7 : decode cX5_prune 7 = .ok (.istore_n 2, 1) := by decide +kernel
theorem dX5_prune_8 : decode cX5_prune 8 = .ok (.iload_n 2, 1) := by decide +kernel
theorem dX5_prune_9 : decode cX5_prune 9 = .ok (.aload_n 0, 1) := by decide +kernel
theorem dX5_prune_10 : decode cX5_prune 10 = .ok (.getfield 33, 3) := by decide +kernel
theorem dX5_prune_13 : decode cX5_prune 13 = .ok (.getfield 215, 3) := by decide +kernel
theorem dX5_prune_16 : decode cX5_prune 16 = .ok (.if_icmp .ge 49, 3) := by decide +kernel
theorem dX5_prune_19 : decode cX5_prune 19 = .ok (.aload_n 0, 1) := by decide +kernel
theorem dX5_prune_20 : decode cX5_prune 20 = .ok (.getfield 33, 3) := by decide +kernel
theorem dX5_prune_23 : decode cX5_prune 23 = .ok (.iload_n 2, 1) := by decide +kernel
theorem dX5_prune_24 : decode cX5_prune 24 = .ok (.invokevirtual 218, 3) := by decide +kernel
theorem dX5_prune_27 : decode cX5_prune 27 = .ok (.astore_n 3, 1) := by decide +kernel
theorem dX5_prune_28 : decode cX5_prune 28 = .ok (.aload_n 3, 1) := by decide +kernel
theorem dX5_prune_29 : decode cX5_prune 29 = .ok (.ifnull 30, 3) := by decide +kernel
theorem dX5_prune_32 : decode cX5_prune 32 = .ok (.aload_n 0, 1) := by decide +kernel
theorem dX5_prune_33 : decode cX5_prune 33 = .ok (.aload_n 3, 1) := by decide +kernel
theorem dX5_prune_34 : decode cX5_prune 34 = .ok (.invokevirtual 221, 3) := by decide +kernel
theorem dX5_prune_37 : decode cX5_prune 37 = .ok (.ifCond .ne 22, 3) := by decide +kernel
theorem dX5_prune_40 : decode cX5_prune 40 = .ok (.aload_n 0, 1) := by decide +kernel
theorem dX5_prune_41 : decode cX5_prune 41 = .ok (.getfield 33, 3) := by decide +kernel
theorem dX5_prune_44 : decode cX5_prune 44 = .ok (.iload_n 2, 1) := by decide +kernel
theorem dX5_prune_45 : decode cX5_prune 45 = .ok (.invokevirtual 225, 3) := by decide +kernel
theorem dX5_prune_48 : decode cX5_prune 48 = .ok (.aload_n 0, 1) := by decide +kernel
theorem dX5_prune_49 : decode cX5_prune 49 = .ok (.getfield 40, 3) := by decide +kernel
theorem dX5_prune_52 : decode cX5_prune 52 = .ok (.aload_n 3, 1) := by decide +kernel
theorem dX5_prune_53 : decode cX5_prune 53 = .ok (.invokevirtual 228, 3) := by decide +kernel
theorem dX5_prune_56 : decode cX5_prune 56 = .ok (.iinc 1 1, 3) := by decide +kernel
theorem dX5_prune_59 : decode cX5_prune 59 = .ok (.iinc 2 1, 3) := by decide +kernel
theorem dX5_prune_62 : decode cX5_prune 62 = .ok (.goto (-54), 3) := by decide +kernel
theorem dX5_prune_65 : decode cX5_prune 65 = .ok (.iload_n 1, 1) := by decide +kernel
theorem dX5_prune_66 : decode cX5_prune 66 = .ok (.ireturn, 1) := by decide +kernel
theorem dX5_layers_0 : decode cX5_layers 0 = .ok (.aload_n 0, 1) := by decide +kernel
theorem dX5_layers_1 : decode cX5_layers 1 = .ok (.getfield 33, 3) := by decide +kernel
theorem dX5_layers_4 : decode cX5_layers 4 = .ok (.getfield 215, 3) := by decide +kernel
theorem dX5_layers_7 : decode cX5_layers 7 = .ok (.ireturn, 1) := by decide +kernel
set_option maxRecDepth 20000 in
set_option maxRecDepth 20000 in
set_option maxRecDepth 20000 in
set_option maxRecDepth 20000 in
theorem dX5_parentOf_0 : decode cX5_parentOf 0 = .ok (.aload_n 0, 1) := by decide +kernel
theorem dX5_parentOf_1 : decode cX5_parentOf 1 = .ok (.iload_n 1, 1) := by decide +kernel
theorem dX5_parentOf_2 : decode cX5_parentOf 2 = .ok (.invokevirtual 231, 3) := by decide +kernel
theorem dX5_parentOf_5 : decode cX5_parentOf 5 = .ok (.getfield 234, 3) := by decide +kernel
theorem dX5_parentOf_8 : decode cX5_parentOf 8 = .ok (.invokestatic 162, 3) := by decide +kernel
theorem dX5_parentOf_11 : decode cX5_parentOf 11 = .ok (.ireturn, 1) := by decide +kernel
set_option maxRecDepth 20000 in
set_option maxRecDepth 20000 in
set_option maxRecDepth 20000 in
set_option maxRecDepth 20000 in
theorem dX5_sizeOf_0 : decode cX5_sizeOf 0 = .ok (.aload_n 0, 1) := by decide +kernel
theorem dX5_sizeOf_1 : decode cX5_sizeOf 1 = .ok (.iload_n 1, 1) := by decide +kernel
theorem dX5_sizeOf_2 : decode cX5_sizeOf 2 = .ok (.invokevirtual 231, 3) := by decide +kernel
theorem dX5_sizeOf_5 : decode cX5_sizeOf 5 = .ok (.invokevirtual 237, 3) := by decide +kernel
theorem dX5_sizeOf_8 : decode cX5_sizeOf 8 = .ok (.ireturn, 1) := by decide +kernel
set_option maxRecDepth 20000 in
set_option maxRecDepth 20000 in
set_option maxRecDepth 20000 in
set_option maxRecDepth 20000 in
set_option maxRecDepth 20000 in
set_option maxRecDepth 20000 in
theorem dX5_heldAt_0 : decode cX5_heldAt 0 = .ok (.aload_n 0, 1) := by decide +kernel
theorem dX5_heldAt_1 : decode cX5_heldAt 1 = .ok (.iload_n 1, 1) := by decide +kernel
theorem dX5_heldAt_2 : decode cX5_heldAt 2 = .ok (.invokevirtual 231, 3) := by decide +kernel
theorem dX5_heldAt_5 : decode cX5_heldAt 5 = .ok (.astore_n 3, 1) := by decide +kernel
theorem dX5_heldAt_6 : decode cX5_heldAt 6 = .ok (.iload_n 2, 1) := by decide +kernel
theorem dX5_heldAt_7 : decode cX5_heldAt 7 = .ok (.bipush 12, 2) := by decide +kernel
theorem dX5_heldAt_9 : decode cX5_heldAt 9 = .ok (.invokestatic 51, 3) := by decide +kernel
theorem dX5_heldAt_12 : decode cX5_heldAt 12 = .ok (.aload_n 3, 1) := by decide +kernel
theorem dX5_heldAt_13 : decode cX5_heldAt 13 = .ok (.iload_n 2, 1) := by decide +kernel
theorem dX5_heldAt_14 : decode cX5_heldAt 14 = .ok (.invokevirtual 240, 3) := by decide +kernel
theorem dX5_heldAt_17 : decode cX5_heldAt 17 = .ok (.ireturn, 1) := by decide +kernel
set_option maxRecDepth 20000 in
set_option maxRecDepth 20000 in
set_option maxRecDepth 20000 in
set_option maxRecDepth 20000 in
set_option maxRecDepth 20000 in
set_option maxRecDepth 20000 in
theorem dX5_shownAt_0 : decode cX5_shownAt 0 = .ok (.aload_n 0, 1) := by decide +kernel
theorem dX5_shownAt_1 : decode cX5_shownAt 1 = .ok (.iload_n 1, 1) := by decide +kernel
theorem dX5_shownAt_2 : decode cX5_shownAt 2 = .ok (.invokevirtual 231, 3) := by decide +kernel
theorem dX5_shownAt_5 : decode cX5_shownAt 5 = .ok (.astore_n 3, 1) := by decide +kernel
theorem dX5_shownAt_6 : decode cX5_shownAt 6 = .ok (.iload_n 2, 1) := by decide +kernel
theorem dX5_shownAt_7 : decode cX5_shownAt 7 = .ok (.bipush 12, 2) := by decide +kernel
theorem dX5_shownAt_9 : decode cX5_shownAt 9 = .ok (.invokestatic 51, 3) := by decide +kernel
theorem dX5_shownAt_12 : decode cX5_shownAt 12 = .ok (.aload_n 3, 1) := by decide +kernel
theorem dX5_shownAt_13 : decode cX5_shownAt 13 = .ok (.iload_n 2, 1) := by decide +kernel
theorem dX5_shownAt_14 : decode cX5_shownAt 14 = .ok (.invokevirtual 243, 3) := by decide +kernel
theorem dX5_shownAt_17 : decode cX5_shownAt 17 = .ok (.ireturn, 1) := by decide +kernel
set_option maxRecDepth 20000 in
set_option maxRecDepth 20000 in
set_option maxRecDepth 20000 in
set_option maxRecDepth 20000 in
set_option maxRecDepth 20000 in
set_option maxRecDepth 20000 in
theorem dX5_variable_0 : decode cX5_variable 0 = .ok (.aload_n 0, 1) := by decide +kernel
theorem dX5_variable_1 : decode cX5_variable 1 = .ok (.iload_n 1, 1) := by decide +kernel
theorem dX5_variable_2 : decode cX5_variable 2 = .ok (.invokevirtual 231, 3) := by decide +kernel
theorem dX5_variable_5 : decode cX5_variable 5 = .ok (.astore_n 3, 1) := by decide +kernel
theorem dX5_variable_6 : decode cX5_variable 6 = .ok (.iload_n 2, 1) := by decide +kernel
theorem dX5_variable_7 : decode cX5_variable 7 = .ok (.iconst 4, 1) := by decide +kernel
theorem dX5_variable_8 : decode cX5_variable 8 = .ok (.invokestatic 51, 3) := by decide +kernel
theorem dX5_variable_11 : decode cX5_variable 11 = .ok (.aload_n 3, 1) := by decide +kernel
theorem dX5_variable_12 : decode cX5_variable 12 = .ok (.iload_n 2, 1) := by decide +kernel
theorem dX5_variable_13 : decode cX5_variable 13 = .ok (.invokevirtual 246, 3) := by decide +kernel
theorem dX5_variable_16 : decode cX5_variable 16 = .ok (.ireturn, 1) := by decide +kernel
set_option maxRecDepth 20000 in
set_option maxRecDepth 20000 in
theorem dX5_depth_0 : decode cX5_depth 0 = .ok (.aload_n 0, 1) := by decide +kernel
theorem dX5_depth_1 : decode cX5_depth 1 = .ok (.iload_n 1, 1) := by decide +kernel
theorem dX5_depth_2 : decode cX5_depth 2 = .ok (.invokevirtual 231, 3) := by decide +kernel
theorem dX5_depth_5 : decode cX5_depth 5 = .ok (.getfield 192, 3) := by decide +kernel
theorem dX5_depth_8 : decode cX5_depth 8 = .ok (.iconst 1, 1) := by decide +kernel
theorem dX5_depth_9 : decode cX5_depth 9 = .ok (.iadd, 1) := by decide +kernel
theorem dX5_depth_10 : decode cX5_depth 10 = .ok (.ireturn, 1) := by decide +kernel
set_option maxRecDepth 20000 in
set_option maxRecDepth 20000 in
set_option maxRecDepth 20000 in
set_option maxRecDepth 20000 in
theorem dX5_imageSize_0 : decode cX5_imageSize 0 = .ok (.iconst 0, 1) := by decide +kernel
theorem dX5_imageSize_1 : decode cX5_imageSize 1 = .ok (.istore_n 2, 1) := by decide +kernel
theorem dX5_imageSize_2 : decode cX5_imageSize 2 = .ok (.aload_n 0, 1) := by decide +kernel
theorem dX5_imageSize_3 : decode cX5_imageSize 3 = .ok (.iload_n 1, 1) := by decide +kernel
theorem dX5_imageSize_4 : decode cX5_imageSize 4 = .ok (.invokevirtual 231, 3) := by decide +kernel
theorem dX5_imageSize_7 : decode cX5_imageSize 7 = .ok (.astore_n 3, 1) := by decide +kernel
theorem dX5_imageSize_8 : decode cX5_imageSize 8 = .ok (.aload_n 3, 1) := by decide +kernel
theorem dX5_imageSize_9 : decode cX5_imageSize 9 = .ok (.ifnull 18, 3) := by decide +kernel
theorem dX5_imageSize_12 : decode cX5_imageSize 12 = .ok (.iload_n 2, 1) := by decide +kernel
theorem dX5_imageSize_13 : decode cX5_imageSize 13 = .ok (.aload_n 3, 1) := by decide +kernel
theorem dX5_imageSize_14 : decode cX5_imageSize 14 = .ok (.invokevirtual 237, 3) := by decide +kernel
theorem dX5_imageSize_17 : decode cX5_imageSize 17 = .ok (.iadd, 1) := by decide +kernel
theorem dX5_imageSize_18 : decode cX5_imageSize 18 = .ok (.istore_n 2, 1) := by decide +kernel
theorem dX5_imageSize_19 : decode cX5_imageSize 19 = .ok (.aload_n 3, 1) := by decide +kernel
theorem dX5_imageSize_20 : decode cX5_imageSize 20 = .ok (.getfield 234, 3) := by decide +kernel
theorem dX5_imageSize_23 : decode cX5_imageSize 23 = .ok (.astore_n 3, 1) := by decide +kernel
theorem dX5_imageSize_24 : decode cX5_imageSize 24 = .ok (.goto (-16), 3) := by decide +kernel
theorem dX5_imageSize_27 : decode cX5_imageSize 27 = .ok (.iload_n 2, 1) := by decide +kernel
theorem dX5_imageSize_28 : decode cX5_imageSize 28 = .ok (.ireturn, 1) := by decide +kernel
set_option maxRecDepth 20000 in
set_option maxRecDepth 20000 in
set_option maxRecDepth 20000 in
set_option maxRecDepth 20000 in
theorem dX5_digest_0 : decode cX5_digest 0 = .ok (.aload_n 0, 1) := by decide +kernel
theorem dX5_digest_1 : decode cX5_digest 1 = .ok (.iload_n 1, 1) := by decide +kernel
theorem dX5_digest_2 : decode cX5_digest 2 = .ok (.invokevirtual 231, 3) := by decide +kernel
theorem dX5_digest_5 : decode cX5_digest 5 = .ok (.invokevirtual 187, 3) := by decide +kernel
theorem dX5_digest_8 : decode cX5_digest 8 = .ok (.ireturn, 1) := by decide +kernel
theorem dX5_isIn_0 : decode cX5_isIn 0 = .ok (.iload_n 0, 1) := by decide +kernel
theorem dX5_isIn_1 : decode cX5_isIn 1 = .ok (.ifCond .lt 12, 3) := by decide +kernel
theorem dX5_isIn_4 : decode cX5_isIn 4 = .ok (.iload_n 0, 1) := by decide +kernel
theorem dX5_isIn_5 : decode cX5_isIn 5 = .ok (.iload_n 1, 1) := by decide +kernel
theorem dX5_isIn_6 : decode cX5_isIn 6 = .ok (.if_icmp .ge 7, 3) := by decide +kernel
theorem dX5_isIn_9 : decode cX5_isIn 9 = .ok (.iconst 1, 1) := by decide +kernel
theorem dX5_isIn_10 : decode cX5_isIn 10 = .ok (.goto 4, 3) := by decide +kernel
theorem dX5_isIn_13 : decode cX5_isIn 13 = .ok (.iconst 0, 1) := by decide +kernel
theorem dX5_isIn_14 : decode cX5_isIn 14 = .ok (.ireturn, 1) := by decide +kernel
set_option maxRecDepth 20000 in
set_option maxRecDepth 20000 in
theorem dX5_requireIndex_0 : decode cX5_requireIndex 0 = .ok (.iload_n 0, 1) := by decide +kernel
theorem dX5_requireIndex_1 : decode cX5_requireIndex 1 = .ok (.iload_n 1, 1) := by decide +kernel
theorem dX5_requireIndex_2 : decode cX5_requireIndex 2 = .ok (.invokestatic 249, 3) := by decide +kernel
theorem dX5_requireIndex_5 : decode cX5_requireIndex 5 = .ok (.ifCond .ne 13, 3) := by decide +kernel
theorem dX5_requireIndex_8 : decode cX5_requireIndex 8 = .ok (.new 195, 3) := by decide +kernel
theorem dX5_requireIndex_11 : decode cX5_requireIndex 11 = .ok (.dup, 1) := by decide +kernel
theorem dX5_requireIndex_12 : decode cX5_requireIndex 12 = .ok (.ldc 253, 2) := by decide +kernel
theorem dX5_requireIndex_14 : decode cX5_requireIndex 14 = .ok (.invokespecial 199, 3) := by decide +kernel
theorem dX5_requireIndex_17 : decode cX5_requireIndex 17 = .ok (.athrow, 1) := by decide +kernel
theorem dX5_requireIndex_18 : decode cX5_requireIndex 18 = .ok (.return_, 1) := by decide +kernel
theorem dX5_requireContent_0 : decode cX5_requireContent 0 = .ok (.iload_n 0, 1) := by decide +kernel
theorem dX5_requireContent_1 : decode cX5_requireContent 1 = .ok (.iconst (-1), 1) := by decide +kernel
theorem dX5_requireContent_2 : decode cX5_requireContent 2 = .ok (.if_icmp .eq 24, 3) := by decide +kernel
theorem dX5_requireContent_5 : decode cX5_requireContent 5 = .ok (.iload_n 0, 1) := by decide +kernel
theorem dX5_requireContent_6 : decode cX5_requireContent 6 = .ok (.ifCond .lt 10, 3) := by decide +kernel
theorem dX5_requireContent_9 : decode cX5_requireContent 9 = .ok (.iload_n 0, 1) := by decide +kernel
theorem dX5_requireContent_10 : decode cX5_requireContent 10 = .ok (.sipush 9999, 3) := by decide +kernel
theorem dX5_requireContent_13 : decode cX5_requireContent 13 = .ok (.if_icmp .le 13, 3) := by decide +kernel
theorem dX5_requireContent_16 : decode cX5_requireContent 16 = .ok (.new 74, 3) := by decide +kernel
theorem dX5_requireContent_19 : decode cX5_requireContent 19 = .ok (.dup, 1) := by decide +kernel
theorem dX5_requireContent_20 : decode cX5_requireContent 20 = .ok (.ldc 255, 2) := by decide +kernel
theorem dX5_requireContent_22 : decode cX5_requireContent 22 = .ok (.invokespecial 78, 3) := by decide +kernel
theorem dX5_requireContent_25 : decode cX5_requireContent 25 = .ok (.athrow, 1) := by decide +kernel
theorem dX5_requireContent_26 : decode cX5_requireContent 26 = .ok (.return_, 1) := by decide +kernel
set_option maxRecDepth 20000 in
set_option maxRecDepth 20000 in
theorem dX5_requireNoBuild_0 : decode cX5_requireNoBuild 0 = .ok (.aload_n 0, 1) := by decide +kernel
theorem dX5_requireNoBuild_1 : decode cX5_requireNoBuild 1 = .ok (.getfield 40, 3) := by decide +kernel
theorem dX5_requireNoBuild_4 : decode cX5_requireNoBuild 4 = .ok (.invokevirtual 144, 3) := by decide +kernel
theorem dX5_requireNoBuild_7 : decode cX5_requireNoBuild 7 = .ok (.ifCond .eq 14, 3) := by decide +kernel
theorem dX5_requireNoBuild_10 : decode cX5_requireNoBuild 10 = .ok (.new 114, 3) := by decide +kernel
theorem dX5_requireNoBuild_13 : decode cX5_requireNoBuild 13 = .ok (.dup, 1) := by decide +kernel
theorem dX5_requireNoBuild_14 : decode cX5_requireNoBuild 14 = .ok (.ldc_w 257, 3) := by decide +kernel
theorem dX5_requireNoBuild_17 : decode cX5_requireNoBuild 17 = .ok (.invokespecial 118, 3) := by decide +kernel
theorem dX5_requireNoBuild_20 : decode cX5_requireNoBuild 20 = .ok (.athrow, 1) := by decide +kernel
theorem dX5_requireNoBuild_21 : decode cX5_requireNoBuild 21 = .ok (.return_, 1) := by decide +kernel
theorem dX5_requireOpen_0 : decode cX5_requireOpen 0 = .ok (.aload_n 0, 1) := by decide +kernel
theorem dX5_requireOpen_1 : decode cX5_requireOpen 1 = .ok (.getfield 33, 3) := by decide +kernel
theorem dX5_requireOpen_4 : decode cX5_requireOpen 4 = .ok (.getfield 215, 3) := by decide +kernel
theorem dX5_requireOpen_7 : decode cX5_requireOpen 7 = .ok (.sipush 400, 3) := by decide +kernel
theorem dX5_requireOpen_10 : decode cX5_requireOpen 10 = .ok (.if_icmp .lt 14, 3) := by decide +kernel
theorem dX5_requireOpen_13 : decode cX5_requireOpen 13 = .ok (.new 114, 3) := by decide +kernel
theorem dX5_requireOpen_16 : decode cX5_requireOpen 16 = .ok (.dup, 1) := by decide +kernel
theorem dX5_requireOpen_17 : decode cX5_requireOpen 17 = .ok (.ldc_w 259, 3) := by decide +kernel
theorem dX5_requireOpen_20 : decode cX5_requireOpen 20 = .ok (.invokespecial 118, 3) := by decide +kernel
theorem dX5_requireOpen_23 : decode cX5_requireOpen 23 = .ok (.athrow, 1) := by decide +kernel
theorem dX5_requireOpen_24 : decode cX5_requireOpen 24 = .ok (.return_, 1) := by decide +kernel
theorem dX5_numberOf_0 : decode cX5_numberOf 0 = .ok (.aload_n 0, 1) := by decide +kernel
theorem dX5_numberOf_1 : decode cX5_numberOf 1 = .ok (.ifnonnull 7, 3) := by decide +kernel
theorem dX5_numberOf_4 : decode cX5_numberOf 4 = .ok (.iconst (-1), 1) := by decide +kernel
theorem dX5_numberOf_5 : decode cX5_numberOf 5 = .ok (.goto 7, 3) := by decide +kernel
theorem dX5_numberOf_8 : decode cX5_numberOf 8 = .ok (.aload_n 0, 1) := by decide +kernel
theorem dX5_numberOf_9 : decode cX5_numberOf 9 = .ok (.getfield 103, 3) := by decide +kernel
theorem dX5_numberOf_12 : decode cX5_numberOf 12 = .ok (.ireturn, 1) := by decide +kernel
set_option maxRecDepth 20000 in
set_option maxRecDepth 20000 in
theorem dX5_recipeAt_0 : decode cX5_recipeAt 0 = .ok (.iload_n 1, 1) := by decide +kernel
theorem dX5_recipeAt_1 : decode cX5_recipeAt 1 = .ok (.iconst 4, 1) := by decide +kernel
theorem dX5_recipeAt_2 : decode cX5_recipeAt 2 = .ok (.invokestatic 249, 3) := by decide +kernel
theorem dX5_recipeAt_5 : decode cX5_recipeAt 5 = .ok (.ifCond .eq 12, 3) := by decide +kernel
theorem dX5_recipeAt_8 : decode cX5_recipeAt 8 = .ok (.aload_n 0, 1) := by decide +kernel
theorem dX5_recipeAt_9 : decode cX5_recipeAt 9 = .ok (.getfield 20, 3) := by decide +kernel
theorem dX5_recipeAt_12 : decode cX5_recipeAt 12 = .ok (.iload_n 1, 1) := by decide +kernel
theorem dX5_recipeAt_13 : decode cX5_recipeAt 13 = .ok (.aaload, 1) := by decide +kernel
theorem dX5_recipeAt_14 : decode cX5_recipeAt 14 = .ok (.goto 4, 3) := by decide +kernel
theorem dX5_recipeAt_17 : decode cX5_recipeAt 17 = .ok (.aconst_null, 1) := by decide +kernel
theorem dX5_recipeAt_18 : decode cX5_recipeAt 18 = .ok (.astore_n 2, 1) := by decide +kernel
theorem dX5_recipeAt_19 : decode cX5_recipeAt 19 = .ok (.aload_n 2, 1) := by decide +kernel
theorem dX5_recipeAt_20 : decode cX5_recipeAt 20 = .ok (.ifnonnull 14, 3) := by decide +kernel
theorem dX5_recipeAt_23 : decode cX5_recipeAt 23 = .ok (.new 195, 3) := by decide +kernel
theorem dX5_recipeAt_26 : decode cX5_recipeAt 26 = .ok (.dup, 1) := by decide +kernel
theorem dX5_recipeAt_27 : decode cX5_recipeAt 27 = .ok (.ldc_w 261, 3) := by decide +kernel
theorem dX5_recipeAt_30 : decode cX5_recipeAt 30 = .ok (.invokespecial 199, 3) := by decide +kernel
theorem dX5_recipeAt_33 : decode cX5_recipeAt 33 = .ok (.athrow, 1) := by decide +kernel
theorem dX5_recipeAt_34 : decode cX5_recipeAt 34 = .ok (.aload_n 2, 1) := by decide +kernel
theorem dX5_recipeAt_35 : decode cX5_recipeAt 35 = .ok (.areturn, 1) := by decide +kernel
set_option maxRecDepth 20000 in
set_option maxRecDepth 20000 in
theorem dX5_layerAt_0 : decode cX5_layerAt 0 = .ok (.aload_n 0, 1) := by decide +kernel
theorem dX5_layerAt_1 : decode cX5_layerAt 1 = .ok (.getfield 33, 3) := by decide +kernel
theorem dX5_layerAt_4 : decode cX5_layerAt 4 = .ok (.iload_n 1, 1) := by decide +kernel
theorem dX5_layerAt_5 : decode cX5_layerAt 5 = .ok (.invokevirtual 218, 3) := by decide +kernel
theorem dX5_layerAt_8 : decode cX5_layerAt 8 = .ok (.astore_n 2, 1) := by decide +kernel
theorem dX5_layerAt_9 : decode cX5_layerAt 9 = .ok (.aload_n 2, 1) := by decide +kernel
theorem dX5_layerAt_10 : decode cX5_layerAt 10 = .ok (.ifnonnull 14, 3) := by decide +kernel
theorem dX5_layerAt_13 : decode cX5_layerAt 13 = .ok (.new 195, 3) := by decide +kernel
theorem dX5_layerAt_16 : decode cX5_layerAt 16 = .ok (.dup, 1) := by decide +kernel
theorem dX5_layerAt_17 : decode cX5_layerAt 17 = .ok (.ldc_w 263, 3) := by decide +kernel
theorem dX5_layerAt_20 : decode cX5_layerAt 20 = .ok (.invokespecial 199, 3) := by decide +kernel
theorem dX5_layerAt_23 : decode cX5_layerAt 23 = .ok (.athrow, 1) := by decide +kernel
theorem dX5_layerAt_24 : decode cX5_layerAt 24 = .ok (.aload_n 2, 1) := by decide +kernel
theorem dX5_layerAt_25 : decode cX5_layerAt 25 = .ok (.areturn, 1) := by decide +kernel
set_option maxRecDepth 20000 in
set_option maxRecDepth 20000 in
theorem dX5_contentsOf_0 : decode cX5_contentsOf 0 = .ok (.iload_n 1, 1) := by decide +kernel
theorem dX5_contentsOf_1 : decode cX5_contentsOf 1 = .ok (.iconst 3, 1) := by decide +kernel
theorem dX5_contentsOf_2 : decode cX5_contentsOf 2 = .ok (.invokestatic 51, 3) := by decide +kernel
theorem dX5_contentsOf_5 : decode cX5_contentsOf 5 = .ok (.aload_n 0, 1) := by decide +kernel
theorem dX5_contentsOf_6 : decode cX5_contentsOf 6 = .ok (.getfield 15, 3) := by decide +kernel
theorem dX5_contentsOf_9 : decode cX5_contentsOf 9 = .ok (.iload_n 1, 1) := by decide +kernel
theorem dX5_contentsOf_10 : decode cX5_contentsOf 10 = .ok (.aaload, 1) := by decide +kernel
theorem dX5_contentsOf_11 : decode cX5_contentsOf 11 = .ok (.areturn, 1) := by decide +kernel
set_option maxRecDepth 20000 in
set_option maxRecDepth 20000 in
set_option maxRecDepth 20000 in
set_option maxRecDepth 20000 in
set_option maxRecDepth 20000 in
set_option maxRecDepth 20000 in
theorem dX5_addInstruction_0 : decode cX5_addInstruction 0 = .ok (.aload_n 0, 1) := by decide +kernel
theorem dX5_addInstruction_1 : decode cX5_addInstruction 1 = .ok (.iload_n 1, 1) := by decide +kernel
theorem dX5_addInstruction_2 : decode cX5_addInstruction 2 = .ok (.invokevirtual 59, 3) := by decide +kernel
theorem dX5_addInstruction_5 : decode cX5_addInstruction 5 = .ok (.astore 5, 2) := by decide +kernel
theorem dX5_addInstruction_7 : decode cX5_addInstruction 7 = .ok (.aload 5, 2) := by decide +kernel
theorem dX5_addInstruction_9 : decode cX5_addInstruction 9 = .ok (.getfield 63, 3) := by decide +kernel
theorem dX5_addInstruction_12 : decode cX5_addInstruction 12 = .ok (.bipush 10, 2) := by decide +kernel
theorem dX5_addInstruction_14 : decode cX5_addInstruction 14 = .ok (.if_icmp .lt 14, 3) := by decide +kernel
theorem dX5_addInstruction_17 : decode cX5_addInstruction 17 = .ok (.new 114, 3) := by decide +kernel
theorem dX5_addInstruction_20 : decode cX5_addInstruction 20 = .ok (.dup, 1) := by decide +kernel
theorem dX5_addInstruction_21 : decode cX5_addInstruction 21 = .ok (.ldc_w 265, 3) := by decide +kernel
theorem dX5_addInstruction_24 : decode cX5_addInstruction 24 = .ok (.invokespecial 118, 3) := by decide +kernel
theorem dX5_addInstruction_27 : decode cX5_addInstruction 27 = .ok (.athrow, 1) := by decide +kernel
theorem dX5_addInstruction_28 : decode cX5_addInstruction 28 = .ok (.aload 5, 2) := by decide +kernel
theorem dX5_addInstruction_30 : decode cX5_addInstruction 30 = .ok (.new 120, 3) := by decide +kernel
theorem dX5_addInstruction_33 : decode cX5_addInstruction 33 = .ok (.dup, 1) := by decide +kernel
theorem dX5_addInstruction_34 : decode cX5_addInstruction 34 = .ok (.iload_n 2, 1) := by decide +kernel
theorem dX5_addInstruction_35 : decode cX5_addInstruction 35 = .ok (.iload_n 3, 1) := by decide +kernel
theorem dX5_addInstruction_36 : decode cX5_addInstruction 36 = .ok (.iload 4, 2) := by decide +kernel
theorem dX5_addInstruction_38 : decode cX5_addInstruction 38 = .ok (.invokespecial 267, 3) := by decide +kernel
theorem dX5_addInstruction_41 : decode cX5_addInstruction 41 = .ok (.invokevirtual 270, 3) := by decide +kernel
theorem dX5_addInstruction_44 : decode cX5_addInstruction 44 = .ok (.aload 5, 2) := by decide +kernel
theorem dX5_addInstruction_46 : decode cX5_addInstruction 46 = .ok (.getfield 63, 3) := by decide +kernel
theorem dX5_addInstruction_49 : decode cX5_addInstruction 49 = .ok (.ireturn, 1) := by decide +kernel
set_option maxRecDepth 20000 in
set_option maxRecDepth 20000 in
set_option maxRecDepth 20000 in
set_option maxRecDepth 20000 in
set_option maxRecDepth 20000 in
set_option maxRecDepth 20000 in
theorem dX5_rootFor_0 : decode cX5_rootFor 0 = .ok (.aload_n 0, 1) := by decide +kernel
theorem dX5_rootFor_1 : decode cX5_rootFor 1 = .ok (.iload_n 1, 1) := by decide +kernel
theorem dX5_rootFor_2 : decode cX5_rootFor 2 = .ok (.invokevirtual 172, 3) := by decide +kernel
theorem dX5_rootFor_5 : decode cX5_rootFor 5 = .ok (.astore_n 2, 1) := by decide +kernel
theorem dX5_rootFor_6 : decode cX5_rootFor 6 = .ok (.aload_n 0, 1) := by decide +kernel
theorem dX5_rootFor_7 : decode cX5_rootFor 7 = .ok (.getfield 33, 3) := by decide +kernel
theorem dX5_rootFor_10 : decode cX5_rootFor 10 = .ok (.aload_n 2, 1) := by decide +kernel
theorem dX5_rootFor_11 : decode cX5_rootFor 11 = .ok (.invokevirtual 274, 3) := by decide +kernel
theorem dX5_rootFor_14 : decode cX5_rootFor 14 = .ok (.astore_n 3, 1) := by decide +kernel
theorem dX5_rootFor_15 : decode cX5_rootFor 15 = .ok (.aload_n 3, 1) := by decide +kernel
theorem dX5_rootFor_16 : decode cX5_rootFor 16 = .ok (.ifnonnull 14, 3) := by decide +kernel
theorem dX5_rootFor_19 : decode cX5_rootFor 19 = .ok (.aload_n 0, 1) := by decide +kernel
theorem dX5_rootFor_20 : decode cX5_rootFor 20 = .ok (.getfield 33, 3) := by decide +kernel
theorem dX5_rootFor_23 : decode cX5_rootFor 23 = .ok (.aload_n 2, 1) := by decide +kernel
theorem dX5_rootFor_24 : decode cX5_rootFor 24 = .ok (.invokevirtual 278, 3) := by decide +kernel
theorem dX5_rootFor_27 : decode cX5_rootFor 27 = .ok (.goto 4, 3) := by decide +kernel
theorem dX5_rootFor_30 : decode cX5_rootFor 30 = .ok (.aload_n 3, 1) := by decide +kernel
theorem dX5_rootFor_31 : decode cX5_rootFor 31 = .ok (.areturn, 1) := by decide +kernel
set_option maxRecDepth 20000 in
set_option maxRecDepth 20000 in
set_option maxRecDepth 20000 in
set_option maxRecDepth 20000 in
set_option maxRecDepth 20000 in
set_option maxRecDepth 20000 in
theorem dX5_layerOfStep_0 : decode cX5_layerOfStep 0 = .ok (.aload_n 0, 1) := by decide +kernel
theorem dX5_layerOfStep_1 : decode cX5_layerOfStep 1 = .ok (.getfield 33, 3) := by decide +kernel
theorem dX5_layerOfStep_4 : decode cX5_layerOfStep 4 = .ok (.aload_n 1, 1) := by decide +kernel
theorem dX5_layerOfStep_5 : decode cX5_layerOfStep 5 = .ok (.aload_n 2, 1) := by decide +kernel
theorem dX5_layerOfStep_6 : decode cX5_layerOfStep 6 = .ok (.iload_n 3, 1) := by decide +kernel
theorem dX5_layerOfStep_7 : decode cX5_layerOfStep 7 = .ok (.invokevirtual 281, 3) := by decide +kernel
theorem dX5_layerOfStep_10 : decode cX5_layerOfStep 10 = .ok (.astore 4, 2) := by decide +kernel
theorem dX5_layerOfStep_12 : decode cX5_layerOfStep 12 = .ok (.aload 4, 2) := by decide +kernel
theorem dX5_layerOfStep_14 : decode cX5_layerOfStep 14 = .ok (.ifnull 16, 3) := by decide +kernel
theorem dX5_layerOfStep_17 : decode cX5_layerOfStep 17 = .ok (.aload_n 0, 1) := by decide +kernel
theorem dX5_layerOfStep_18 : decode cX5_layerOfStep 18 = .ok (.dup, 1) := by decide +kernel
theorem dX5_layerOfStep_19 : decode cX5_layerOfStep 19 = .ok (.getfield 166, 3) := by decide +kernel
theorem dX5_layerOfStep_22 : decode cX5_layerOfStep 22 = .ok (.iconst 1, 1) := by decide +kernel
theorem dX5_layerOfStep_23 : decode cX5_layerOfStep 23 = .ok (.iadd, 1) := by decide +kernel
theorem dX5_layerOfStep_24 : decode cX5_layerOfStep 24 = .ok (.putfield 166, 3) := by decide +kernel
theorem dX5_layerOfStep_27 : decode cX5_layerOfStep 27 = .ok (.aload 4, 2) := by decide +kernel
theorem dX5_layerOfStep_29 : decode cX5_layerOfStep 29 = .ok (.areturn, 1) := by decide +kernel
theorem dX5_layerOfStep_30 : decode cX5_layerOfStep 30 = .ok (.aload_n 0, 1) := by decide +kernel
theorem dX5_layerOfStep_31 : decode cX5_layerOfStep 31 = .ok (.dup, 1) := by decide +kernel
theorem dX5_layerOfStep_32 : decode cX5_layerOfStep 32 = .ok (.getfield 169, 3) := by decide +kernel
theorem dX5_layerOfStep_35 : decode cX5_layerOfStep 35 = .ok (.iconst 1, 1) := by decide +kernel
theorem dX5_layerOfStep_36 : decode cX5_layerOfStep 36 = .ok (.iadd, 1) := by decide +kernel
theorem dX5_layerOfStep_37 : decode cX5_layerOfStep 37 = .ok (.putfield 169, 3) := by decide +kernel
theorem dX5_layerOfStep_40 : decode cX5_layerOfStep 40 = .ok (.aload_n 0, 1) := by decide +kernel
theorem dX5_layerOfStep_41 : decode cX5_layerOfStep 41 = .ok (.getfield 33, 3) := by decide +kernel
theorem dX5_layerOfStep_44 : decode cX5_layerOfStep 44 = .ok (.aload_n 1, 1) := by decide +kernel
theorem dX5_layerOfStep_45 : decode cX5_layerOfStep 45 = .ok (.invokevirtual 205, 3) := by decide +kernel
theorem dX5_layerOfStep_48 : decode cX5_layerOfStep 48 = .ok (.astore 5, 2) := by decide +kernel
theorem dX5_layerOfStep_50 : decode cX5_layerOfStep 50 = .ok (.aload 5, 2) := by decide +kernel
theorem dX5_layerOfStep_52 : decode cX5_layerOfStep 52 = .ok (.aload_n 2, 1) := by decide +kernel
theorem dX5_layerOfStep_53 : decode cX5_layerOfStep 53 = .ok (.iload_n 3, 1) := by decide +kernel
theorem dX5_layerOfStep_54 : decode cX5_layerOfStep 54 = .ok (.invokevirtual 284, 3) := by decide +kernel
theorem dX5_layerOfStep_57 : decode cX5_layerOfStep 57 = .ok (.aload 5, 2) := by decide +kernel
theorem dX5_layerOfStep_59 : decode cX5_layerOfStep 59 = .ok (.areturn, 1) := by decide +kernel
set_option maxRecDepth 20000 in
set_option maxRecDepth 20000 in
theorem dX5_isInTaggedImage_0 : decode cX5_isInTaggedImage 0 = .ok (.aload_n 0, 1) := by decide +kernel
theorem dX5_isInTaggedImage_1 : decode cX5_isInTaggedImage 1 = .ok (.getfield 26, 3) := by decide +kernel
theorem dX5_isInTaggedImage_4 : decode cX5_isInTaggedImage 4 = .ok (.astore_n 2, 1) := by decide +kernel
theorem dX5_isInTaggedImage_5 : decode cX5_isInTaggedImage 5 = .ok (.aload_n 2, 1) := by decide +kernel
theorem dX5_isInTaggedImage_6 : decode cX5_isInTaggedImage 6 = .ok (.arraylength, 1) := by decide +kernel
theorem dX5_isInTaggedImage_7 : decode cX5_isInTaggedImage 7 = .ok (.istore_n 3, 1) := by decide +kernel
theorem dX5_isInTaggedImage_8 : decode cX5_isInTaggedImage 8 = .ok (.iconst 0, 1) := by decide +kernel
theorem dX5_isInTaggedImage_9 : decode cX5_isInTaggedImage 9 = .ok (.istore 4, 2) := by decide +kernel
theorem dX5_isInTaggedImage_11 : decode cX5_isInTaggedImage 11 = .ok (.iload 4, 2) := by decide +kernel
theorem dX5_isInTaggedImage_13 : decode cX5_isInTaggedImage 13 = .ok (.iload_n 3, 1) := by decide +kernel
theorem dX5_isInTaggedImage_14 : decode cX5_isInTaggedImage 14 = .ok (.if_icmp .ge 35, 3) := by decide +kernel
theorem dX5_isInTaggedImage_17 : decode cX5_isInTaggedImage 17 = .ok (.aload_n 2, 1) := by decide +kernel
theorem dX5_isInTaggedImage_18 : decode cX5_isInTaggedImage 18 = .ok (.iload 4, 2) := by decide +kernel
theorem dX5_isInTaggedImage_20 : decode cX5_isInTaggedImage 20 = .ok (.aaload, 1) := by decide +kernel
theorem dX5_isInTaggedImage_21 : decode cX5_isInTaggedImage 21 = .ok (.astore 5, 2) := by decide +kernel
theorem dX5_isInTaggedImage_23 : decode cX5_isInTaggedImage 23 = .ok (.aload 5, 2) := by decide +kernel
theorem dX5_isInTaggedImage_25 : decode cX5_isInTaggedImage 25 = .ok (.ifnull 18, 3) := by decide +kernel
theorem dX5_isInTaggedImage_28 : decode cX5_isInTaggedImage 28 = .ok (.aload 5, 2) := by decide +kernel
theorem dX5_isInTaggedImage_30 : decode cX5_isInTaggedImage 30 = .ok (.aload_n 1, 1) := by decide +kernel
theorem dX5_isInTaggedImage_31 : decode cX5_isInTaggedImage 31 = .ok (.getfield 192, 3) := by decide +kernel
theorem dX5_isInTaggedImage_34 : decode cX5_isInTaggedImage 34 = .ok (.invokevirtual 202, 3) := by decide +kernel
theorem dX5_isInTaggedImage_37 : decode cX5_isInTaggedImage 37 = .ok (.aload_n 1, 1) := by decide +kernel
theorem dX5_isInTaggedImage_38 : decode cX5_isInTaggedImage 38 = .ok (.if_acmp .ne 5, 3) := by decide +kernel
theorem dX5_isInTaggedImage_41 : decode cX5_isInTaggedImage 41 = .ok (.iconst 1, 1) := by decide +kernel
theorem dX5_isInTaggedImage_42 : decode cX5_isInTaggedImage 42 = .ok (.ireturn, 1) := by decide +kernel
theorem dX5_isInTaggedImage_43 : decode cX5_isInTaggedImage 43 = .ok (.iinc 4 1, 3) := by decide +kernel
theorem dX5_isInTaggedImage_46 : decode cX5_isInTaggedImage 46 = .ok (.goto (-35), 3) := by decide +kernel
theorem dX5_isInTaggedImage_49 : decode cX5_isInTaggedImage 49 = .ok (.iconst 0, 1) := by decide +kernel
theorem dX5_isInTaggedImage_50 : decode cX5_isInTaggedImage 50 = .ok (.ireturn, 1) := by decide +kernel
theorem dX6_init_0 : decode cX6_init 0 = .ok (.aload_n 0, 1) := by decide +kernel
theorem dX6_init_1 : decode cX6_init 1 = .ok (.invokespecial 1, 3) := by decide +kernel
theorem dX6_init_4 : decode cX6_init 4 = .ok (.aload_n 0, 1) := by decide +kernel
theorem dX6_init_5 : decode cX6_init 5 = .ok (.bipush 8, 2) := by decide +kernel
theorem dX6_init_7 : decode cX6_init 7 = .ok (.newarray .int, 2) := by decide +kernel
theorem dX6_init_9 : decode cX6_init 9 = .ok (.putfield 7, 3) := by decide +kernel
theorem dX6_init_12 : decode cX6_init 12 = .ok (.aload_n 0, 1) := by decide +kernel
theorem dX6_init_13 : decode cX6_init 13 = .ok (.bipush 36, 2) := by decide +kernel
theorem dX6_init_15 : decode cX6_init 15 = .ok (.newarray .int, 2) := by decide +kernel
theorem dX6_init_17 : decode cX6_init 17 = .ok (.putfield 13, 3) := by decide +kernel
theorem dX6_init_20 : decode cX6_init 20 = .ok (.aload_n 0, 1) := by decide +kernel
theorem dX6_init_21 : decode cX6_init 21 = .ok (.iconst 4, 1) := by decide +kernel
theorem dX6_init_22 : decode cX6_init 22 = .ok (.newarray .int, 2) := by decide +kernel
theorem dX6_init_24 : decode cX6_init 24 = .ok (.putfield 16, 3) := by decide +kernel
theorem dX6_init_27 : decode cX6_init 27 = .ok (.aload_n 0, 1) := by decide +kernel
theorem dX6_init_28 : decode cX6_init 28 = .ok (.iconst 4, 1) := by decide +kernel
theorem dX6_init_29 : decode cX6_init 29 = .ok (.newarray .int, 2) := by decide +kernel
theorem dX6_init_31 : decode cX6_init 31 = .ok (.putfield 19, 3) := by decide +kernel
theorem dX6_init_34 : decode cX6_init 34 = .ok (.aload_n 0, 1) := by decide +kernel
theorem dX6_init_35 : decode cX6_init 35 = .ok (.bipush 40, 2) := by decide +kernel
theorem dX6_init_37 : decode cX6_init 37 = .ok (.newarray .int, 2) := by decide +kernel
theorem dX6_init_39 : decode cX6_init 39 = .ok (.putfield 22, 3) := by decide +kernel
theorem dX6_init_42 : decode cX6_init 42 = .ok (.aload_n 0, 1) := by decide +kernel
theorem dX6_init_43 : decode cX6_init 43 = .ok (.bipush 40, 2) := by decide +kernel
theorem dX6_init_45 : decode cX6_init 45 = .ok (.newarray .int, 2) := by decide +kernel
theorem dX6_init_47 : decode cX6_init 47 = .ok (.putfield 25, 3) := by decide +kernel
theorem dX6_init_50 : decode cX6_init 50 = .ok (.aload_n 0, 1) := by decide +kernel
theorem dX6_init_51 : decode cX6_init 51 = .ok (.bipush 40, 2) := by decide +kernel
theorem dX6_init_53 : decode cX6_init 53 = .ok (.newarray .int, 2) := by decide +kernel
theorem dX6_init_55 : decode cX6_init 55 = .ok (.putfield 28, 3) := by decide +kernel
theorem dX6_init_58 : decode cX6_init 58 = .ok (.aload_n 0, 1) := by decide +kernel
theorem dX6_init_59 : decode cX6_init 59 = .ok (.sipush 420, 3) := by decide +kernel
theorem dX6_init_62 : decode cX6_init 62 = .ok (.newarray .boolean, 2) := by decide +kernel
theorem dX6_init_64 : decode cX6_init 64 = .ok (.putfield 31, 3) := by decide +kernel
theorem dX6_init_67 : decode cX6_init 67 = .ok (.aload_n 0, 1) := by decide +kernel
theorem dX6_init_68 : decode cX6_init 68 = .ok (.sipush 420, 3) := by decide +kernel
theorem dX6_init_71 : decode cX6_init 71 = .ok (.newarray .int, 2) := by decide +kernel
theorem dX6_init_73 : decode cX6_init 73 = .ok (.putfield 35, 3) := by decide +kernel
theorem dX6_init_76 : decode cX6_init 76 = .ok (.aload_n 0, 1) := by decide +kernel
theorem dX6_init_77 : decode cX6_init 77 = .ok (.sipush 5040, 3) := by decide +kernel
theorem dX6_init_80 : decode cX6_init 80 = .ok (.newarray .int, 2) := by decide +kernel
theorem dX6_init_82 : decode cX6_init 82 = .ok (.putfield 38, 3) := by decide +kernel
theorem dX6_init_85 : decode cX6_init 85 = .ok (.aload_n 0, 1) := by decide +kernel
theorem dX6_init_86 : decode cX6_init 86 = .ok (.sipush 1680, 3) := by decide +kernel
theorem dX6_init_89 : decode cX6_init 89 = .ok (.newarray .int, 2) := by decide +kernel
theorem dX6_init_91 : decode cX6_init 91 = .ok (.putfield 41, 3) := by decide +kernel
theorem dX6_init_94 : decode cX6_init 94 = .ok (.aload_n 0, 1) := by decide +kernel
theorem dX6_init_95 : decode cX6_init 95 = .ok (.sipush 420, 3) := by decide +kernel
theorem dX6_init_98 : decode cX6_init 98 = .ok (.newarray .int, 2) := by decide +kernel
theorem dX6_init_100 : decode cX6_init 100 = .ok (.putfield 44, 3) := by decide +kernel
theorem dX6_init_103 : decode cX6_init 103 = .ok (.aload_n 0, 1) := by decide +kernel
theorem dX6_init_104 : decode cX6_init 104 = .ok (.sipush 420, 3) := by decide +kernel
theorem dX6_init_107 : decode cX6_init 107 = .ok (.newarray .int, 2) := by decide +kernel
theorem dX6_init_109 : decode cX6_init 109 = .ok (.putfield 47, 3) := by decide +kernel
theorem dX6_init_112 : decode cX6_init 112 = .ok (.aload_n 0, 1) := by decide +kernel
theorem dX6_init_113 : decode cX6_init 113 = .ok (.sipush 420, 3) := by decide +kernel
theorem dX6_init_116 : decode cX6_init 116 = .ok (.newarray .int, 2) := by decide +kernel
theorem dX6_init_118 : decode cX6_init 118 = .ok (.putfield 50, 3) := by decide +kernel
theorem dX6_init_121 : decode cX6_init 121 = .ok (.aload_n 0, 1) := by decide +kernel
theorem dX6_init_122 : decode cX6_init 122 = .ok (.sipush 420, 3) := by decide +kernel
theorem dX6_init_125 : decode cX6_init 125 = .ok (.newarray .int, 2) := by decide +kernel
theorem dX6_init_127 : decode cX6_init 127 = .ok (.putfield 53, 3) := by decide +kernel
theorem dX6_init_130 : decode cX6_init 130 = .ok (.aload_n 0, 1) := by decide +kernel
theorem dX6_init_131 : decode cX6_init 131 = .ok (.iconst 5, 1) := by decide +kernel
theorem dX6_init_132 : decode cX6_init 132 = .ok (.newarray .int, 2) := by decide +kernel
theorem dX6_init_134 : decode cX6_init 134 = .ok (.putfield 56, 3) := by decide +kernel
theorem dX6_init_137 : decode cX6_init 137 = .ok (.aload_n 0, 1) := by decide +kernel
theorem dX6_init_138 : decode cX6_init 138 = .ok (.bipush 10, 2) := by decide +kernel
theorem dX6_init_140 : decode cX6_init 140 = .ok (.newarray .int, 2) := by decide +kernel
theorem dX6_init_142 : decode cX6_init 142 = .ok (.putfield 59, 3) := by decide +kernel
theorem dX6_init_145 : decode cX6_init 145 = .ok (.aload_n 0, 1) := by decide +kernel
theorem dX6_init_146 : decode cX6_init 146 = .ok (.bipush 10, 2) := by decide +kernel
theorem dX6_init_148 : decode cX6_init 148 = .ok (.newarray .int, 2) := by decide +kernel
theorem dX6_init_150 : decode cX6_init 150 = .ok (.putfield 62, 3) := by decide +kernel
theorem dX6_init_153 : decode cX6_init 153 = .ok (.aload_n 0, 1) := by decide +kernel
theorem dX6_init_154 : decode cX6_init 154 = .ok (.bipush 10, 2) := by decide +kernel
theorem dX6_init_156 : decode cX6_init 156 = .ok (.newarray .int, 2) := by decide +kernel
theorem dX6_init_158 : decode cX6_init 158 = .ok (.putfield 65, 3) := by decide +kernel
theorem dX6_init_161 : decode cX6_init 161 = .ok (.aload_n 0, 1) := by decide +kernel
theorem dX6_init_162 : decode cX6_init 162 = .ok (.iconst (-1), 1) := by decide +kernel
theorem dX6_init_163 : decode cX6_init 163 = .ok (.putfield 68, 3) := by decide +kernel
theorem dX6_init_166 : decode cX6_init 166 = .ok (.aload_n 0, 1) := by decide +kernel
theorem dX6_init_167 : decode cX6_init 167 = .ok (.bipush 12, 2) := by decide +kernel
theorem dX6_init_169 : decode cX6_init 169 = .ok (.newarray .int, 2) := by decide +kernel
theorem dX6_init_171 : decode cX6_init 171 = .ok (.putfield 72, 3) := by decide +kernel
theorem dX6_init_174 : decode cX6_init 174 = .ok (.aload_n 0, 1) := by decide +kernel
theorem dX6_init_175 : decode cX6_init 175 = .ok (.iconst 4, 1) := by decide +kernel
theorem dX6_init_176 : decode cX6_init 176 = .ok (.newarray .int, 2) := by decide +kernel
theorem dX6_init_178 : decode cX6_init 178 = .ok (.putfield 75, 3) := by decide +kernel
theorem dX6_init_181 : decode cX6_init 181 = .ok (.aload_n 0, 1) := by decide +kernel
theorem dX6_init_182 : decode cX6_init 182 = .ok (.bipush 16, 2) := by decide +kernel
theorem dX6_init_184 : decode cX6_init 184 = .ok (.newarray .int, 2) := by decide +kernel
theorem dX6_init_186 : decode cX6_init 186 = .ok (.putfield 78, 3) := by decide +kernel
theorem dX6_init_189 : decode cX6_init 189 = .ok (.aload_n 0, 1) := by decide +kernel
theorem dX6_init_190 : decode cX6_init 190 = .ok (.sipush 420, 3) := by decide +kernel
theorem dX6_init_193 : decode cX6_init 193 = .ok (.newarray .boolean, 2) := by decide +kernel
theorem dX6_init_195 : decode cX6_init 195 = .ok (.putfield 81, 3) := by decide +kernel
theorem dX6_init_198 : decode cX6_init 198 = .ok (.iconst 0, 1) := by decide +kernel
theorem dX6_init_199 : decode cX6_init 199 = .ok (.istore_n 1, 1) := by decide +kernel
theorem dX6_init_200 : decode cX6_init 200 = .ok (.iload_n 1, 1) := by decide +kernel
theorem dX6_init_201 : decode cX6_init 201 = .ok (.bipush 8, 2) := by decide +kernel
theorem dX6_init_203 : decode cX6_init 203 = .ok (.if_icmp .ge 16, 3) := by decide +kernel
theorem dX6_init_206 : decode cX6_init 206 = .ok (.aload_n 0, 1) := by decide +kernel
theorem dX6_init_207 : decode cX6_init 207 = .ok (.getfield 7, 3) := by decide +kernel
theorem dX6_init_210 : decode cX6_init 210 = .ok (.iload_n 1, 1) := by decide +kernel
theorem dX6_init_211 : decode cX6_init 211 = .ok (.iconst (-1), 1) := by decide +kernel
theorem dX6_init_212 : decode cX6_init 212 = .ok (.iastore, 1) := by decide +kernel
theorem dX6_init_213 : decode cX6_init 213 = .ok (.iinc 1 1, 3) := by decide +kernel
theorem dX6_init_216 : decode cX6_init 216 = .ok (.goto (-16), 3) := by decide +kernel
theorem dX6_init_219 : decode cX6_init 219 = .ok (.iconst 0, 1) := by decide +kernel
theorem dX6_init_220 : decode cX6_init 220 = .ok (.istore_n 1, 1) := by decide +kernel
theorem dX6_init_221 : decode cX6_init 221 = .ok (.iload_n 1, 1) := by decide +kernel
theorem dX6_init_222 : decode cX6_init 222 = .ok (.bipush 36, 2) := by decide +kernel
theorem dX6_init_224 : decode cX6_init 224 = .ok (.if_icmp .ge 16, 3) := by decide +kernel
theorem dX6_init_227 : decode cX6_init 227 = .ok (.aload_n 0, 1) := by decide +kernel
theorem dX6_init_228 : decode cX6_init 228 = .ok (.getfield 13, 3) := by decide +kernel
theorem dX6_init_231 : decode cX6_init 231 = .ok (.iload_n 1, 1) := by decide +kernel
theorem dX6_init_232 : decode cX6_init 232 = .ok (.iconst (-1), 1) := by decide +kernel
theorem dX6_init_233 : decode cX6_init 233 = .ok (.iastore, 1) := by decide +kernel
theorem dX6_init_234 : decode cX6_init 234 = .ok (.iinc 1 1, 3) := by decide +kernel
theorem dX6_init_237 : decode cX6_init 237 = .ok (.goto (-16), 3) := by decide +kernel
theorem dX6_init_240 : decode cX6_init 240 = .ok (.iconst 0, 1) := by decide +kernel
theorem dX6_init_241 : decode cX6_init 241 = .ok (.istore_n 1, 1) := by decide +kernel
theorem dX6_init_242 : decode cX6_init 242 = .ok (.iload_n 1, 1) := by decide +kernel
theorem dX6_init_243 : decode cX6_init 243 = .ok (.iconst 5, 1) := by decide +kernel
theorem dX6_init_244 : decode cX6_init 244 = .ok (.if_icmp .ge 16, 3) := by decide +kernel
theorem dX6_init_247 : decode cX6_init 247 = .ok (.aload_n 0, 1) := by decide +kernel
theorem dX6_init_248 : decode cX6_init 248 = .ok (.getfield 56, 3) := by decide +kernel
theorem dX6_init_251 : decode cX6_init 251 = .ok (.iload_n 1, 1) := by decide +kernel
theorem dX6_init_252 : decode cX6_init 252 = .ok (.iconst (-1), 1) := by decide +kernel
theorem dX6_init_253 : decode cX6_init 253 = .ok (.iastore, 1) := by decide +kernel
theorem dX6_init_254 : decode cX6_init 254 = .ok (.iinc 1 1, 3) := by decide +kernel
theorem dX6_init_257 : decode cX6_init 257 = .ok (.goto (-15), 3) := by decide +kernel
theorem dX6_init_260 : decode cX6_init 260 = .ok (.return_, 1) := by decide +kernel
theorem dX6_thrown_0 : decode cX6_thrown 0 = .ok (.aload_n 0, 1) := by decide +kernel
theorem dX6_thrown_1 : decode cX6_thrown 1 = .ok (.getfield 84, 3) := by decide +kernel
theorem dX6_thrown_4 : decode cX6_thrown 4 = .ok (.ireturn, 1) := by decide +kernel
theorem dX6_fails_0 : decode cX6_fails 0 = .ok (.aload_n 0, 1) := by decide +kernel
theorem dX6_fails_1 : decode cX6_fails 1 = .ok (.iload_n 1, 1) := by decide +kernel
theorem dX6_fails_2 : decode cX6_fails 2 = .ok (.putfield 84, 3) := by decide +kernel
theorem dX6_fails_5 : decode cX6_fails 5 = .ok (.iload_n 1, 1) := by decide +kernel
theorem dX6_fails_6 : decode cX6_fails 6 = .ok (.ifCond .le 7, 3) := by decide +kernel
theorem dX6_fails_9 : decode cX6_fails 9 = .ok (.iconst 1, 1) := by decide +kernel
theorem dX6_fails_10 : decode cX6_fails 10 = .ok (.goto 4, 3) := by decide +kernel
theorem dX6_fails_13 : decode cX6_fails 13 = .ok (.iconst 0, 1) := by decide +kernel
theorem dX6_fails_14 : decode cX6_fails 14 = .ok (.ireturn, 1) := by decide +kernel
theorem dX6_tells_0 : decode cX6_tells 0 = .ok (.aload_n 0, 1) := by decide +kernel
theorem dX6_tells_1 : decode cX6_tells 1 = .ok (.iconst 0, 1) := by decide +kernel
theorem dX6_tells_2 : decode cX6_tells 2 = .ok (.putfield 84, 3) := by decide +kernel
theorem dX6_tells_5 : decode cX6_tells 5 = .ok (.iload_n 1, 1) := by decide +kernel
theorem dX6_tells_6 : decode cX6_tells 6 = .ok (.ireturn, 1) := by decide +kernel
theorem dX6_isIn_0 : decode cX6_isIn 0 = .ok (.iload_n 0, 1) := by decide +kernel
theorem dX6_isIn_1 : decode cX6_isIn 1 = .ok (.ifCond .lt 12, 3) := by decide +kernel
theorem dX6_isIn_4 : decode cX6_isIn 4 = .ok (.iload_n 0, 1) := by decide +kernel
theorem dX6_isIn_5 : decode cX6_isIn 5 = .ok (.iload_n 1, 1) := by decide +kernel
theorem dX6_isIn_6 : decode cX6_isIn 6 = .ok (.if_icmp .ge 7, 3) := by decide +kernel
theorem dX6_isIn_9 : decode cX6_isIn 9 = .ok (.iconst 1, 1) := by decide +kernel
theorem dX6_isIn_10 : decode cX6_isIn 10 = .ok (.goto 4, 3) := by decide +kernel
theorem dX6_isIn_13 : decode cX6_isIn 13 = .ok (.iconst 0, 1) := by decide +kernel
theorem dX6_isIn_14 : decode cX6_isIn 14 = .ok (.ireturn, 1) := by decide +kernel
theorem dX6_isContent_0 : decode cX6_isContent 0 = .ok (.iload_n 0, 1) := by decide +kernel
theorem dX6_isContent_1 : decode cX6_isContent 1 = .ok (.iconst (-1), 1) := by decide +kernel
theorem dX6_isContent_2 : decode cX6_isContent 2 = .ok (.if_icmp .lt 14, 3) := by decide +kernel
theorem dX6_isContent_5 : decode cX6_isContent 5 = .ok (.iload_n 0, 1) := by decide +kernel
theorem dX6_isContent_6 : decode cX6_isContent 6 = .ok (.sipush 9999, 3) := by decide +kernel
theorem dX6_isContent_9 : decode cX6_isContent 9 = .ok (.if_icmp .gt 7, 3) := by decide +kernel
theorem dX6_isContent_12 : decode cX6_isContent 12 = .ok (.iconst 1, 1) := by decide +kernel
theorem dX6_isContent_13 : decode cX6_isContent 13 = .ok (.goto 4, 3) := by decide +kernel
theorem dX6_isContent_16 : decode cX6_isContent 16 = .ok (.iconst 0, 1) := by decide +kernel
theorem dX6_isContent_17 : decode cX6_isContent 17 = .ok (.ireturn, 1) := by decide +kernel
set_option maxRecDepth 20000 in
set_option maxRecDepth 20000 in
set_option maxRecDepth 20000 in
set_option maxRecDepth 20000 in
set_option maxRecDepth 20000 in
set_option maxRecDepth 20000 in
theorem dX6_setFile_0 : decode cX6_setFile 0 = .ok (.aload_n 0, 1) := by decide +kernel
theorem dX6_setFile_1 : decode cX6_setFile 1 = .ok (.iload_n 1, 1) := by decide +kernel
theorem dX6_setFile_2 : decode cX6_setFile 2 = .ok (.bipush 8, 2) := by decide +kernel
theorem dX6_setFile_4 : decode cX6_setFile 4 = .ok (.invokestatic 87, 3) := by decide +kernel
theorem dX6_setFile_7 : decode cX6_setFile 7 = .ok (.ifCond .ne 7, 3) := by decide +kernel
theorem dX6_setFile_10 : decode cX6_setFile 10 = .ok (.iconst 1, 1) := by decide +kernel
theorem dX6_setFile_11 : decode cX6_setFile 11 = .ok (.goto 15, 3) := by decide +kernel
theorem dX6_setFile_14 : decode cX6_setFile 14 = .ok (.iload_n 2, 1) := by decide +kernel
theorem dX6_setFile_15 : decode cX6_setFile 15 = .ok (.invokestatic 91, 3) := by decide +kernel
theorem dX6_setFile_18 : decode cX6_setFile 18 = .ok (.ifCond .eq 7, 3) := by decide +kernel
theorem dX6_setFile_21 : decode cX6_setFile 21 = .ok (.iconst 0, 1) := by decide +kernel
theorem dX6_setFile_22 : decode cX6_setFile 22 = .ok (.goto 4, 3) := by decide +kernel
theorem dX6_setFile_25 : decode cX6_setFile 25 = .ok (.iconst 2, 1) := by decide +kernel
theorem dX6_setFile_26 : decode cX6_setFile 26 = .ok (.invokevirtual 95, 3) := by decide +kernel
theorem dX6_setFile_29 : decode cX6_setFile 29 = .ok (.ifCond .eq 5, 3) := by decide +kernel
theorem dX6_setFile_32 : decode cX6_setFile 32 = .ok (.iconst 0, 1) := by decide +kernel
theorem dX6_setFile_33 : decode cX6_setFile 33 = .ok (.ireturn, 1) := by decide +kernel
theorem dX6_setFile_34 : decode cX6_setFile 34 = .ok (.aload_n 0, 1) := by decide +kernel
theorem dX6_setFile_35 : decode cX6_setFile 35 = .ok (.getfield 7, 3) := by decide +kernel
theorem dX6_setFile_38 : decode cX6_setFile 38 = .ok (.iload_n 1, 1) := by decide +kernel
theorem dX6_setFile_39 : decode cX6_setFile 39 = .ok (.iaload, 1) := by decide +kernel
theorem dX6_setFile_40 : decode cX6_setFile 40 = .ok (.istore_n 3, 1) := by decide +kernel
theorem dX6_setFile_41 : decode cX6_setFile 41 = .ok (.aload_n 0, 1) := by decide +kernel
theorem dX6_setFile_42 : decode cX6_setFile 42 = .ok (.getfield 7, 3) := by decide +kernel
theorem dX6_setFile_45 : decode cX6_setFile 45 = .ok (.iload_n 1, 1) := by decide +kernel
theorem dX6_setFile_46 : decode cX6_setFile 46 = .ok (.iload_n 2, 1) := by decide +kernel
theorem dX6_setFile_47 : decode cX6_setFile 47 = .ok (.iastore, 1) := by decide +kernel
theorem dX6_setFile_48 : decode cX6_setFile 48 = .ok (.iload_n 3, 1) := by decide +kernel
theorem dX6_setFile_49 : decode cX6_setFile 49 = .ok (.ireturn, 1) := by decide +kernel
set_option maxRecDepth 20000 in
set_option maxRecDepth 20000 in
set_option maxRecDepth 20000 in
set_option maxRecDepth 20000 in
set_option maxRecDepth 20000 in
set_option maxRecDepth 20000 in
theorem dX6_setBase_0 : decode cX6_setBase 0 = .ok (.aload_n 0, 1) := by decide +kernel
theorem dX6_setBase_1 : decode cX6_setBase 1 = .ok (.iload_n 1, 1) := by decide +kernel
theorem dX6_setBase_2 : decode cX6_setBase 2 = .ok (.iconst 3, 1) := by decide +kernel
theorem dX6_setBase_3 : decode cX6_setBase 3 = .ok (.invokestatic 87, 3) := by decide +kernel
theorem dX6_setBase_6 : decode cX6_setBase 6 = .ok (.ifCond .eq 12, 3) := by decide +kernel
theorem dX6_setBase_9 : decode cX6_setBase 9 = .ok (.iload_n 2, 1) := by decide +kernel
theorem dX6_setBase_10 : decode cX6_setBase 10 = .ok (.bipush 12, 2) := by decide +kernel
theorem dX6_setBase_12 : decode cX6_setBase 12 = .ok (.invokestatic 87, 3) := by decide +kernel
theorem dX6_setBase_15 : decode cX6_setBase 15 = .ok (.ifCond .ne 7, 3) := by decide +kernel
theorem dX6_setBase_18 : decode cX6_setBase 18 = .ok (.iconst 1, 1) := by decide +kernel
theorem dX6_setBase_19 : decode cX6_setBase 19 = .ok (.goto 15, 3) := by decide +kernel
theorem dX6_setBase_22 : decode cX6_setBase 22 = .ok (.iload_n 3, 1) := by decide +kernel
theorem dX6_setBase_23 : decode cX6_setBase 23 = .ok (.invokestatic 91, 3) := by decide +kernel
theorem dX6_setBase_26 : decode cX6_setBase 26 = .ok (.ifCond .eq 7, 3) := by decide +kernel
theorem dX6_setBase_29 : decode cX6_setBase 29 = .ok (.iconst 0, 1) := by decide +kernel
theorem dX6_setBase_30 : decode cX6_setBase 30 = .ok (.goto 4, 3) := by decide +kernel
theorem dX6_setBase_33 : decode cX6_setBase 33 = .ok (.iconst 2, 1) := by decide +kernel
theorem dX6_setBase_34 : decode cX6_setBase 34 = .ok (.invokevirtual 95, 3) := by decide +kernel
theorem dX6_setBase_37 : decode cX6_setBase 37 = .ok (.ifCond .eq 5, 3) := by decide +kernel
theorem dX6_setBase_40 : decode cX6_setBase 40 = .ok (.iconst 0, 1) := by decide +kernel
theorem dX6_setBase_41 : decode cX6_setBase 41 = .ok (.ireturn, 1) := by decide +kernel
theorem dX6_setBase_42 : decode cX6_setBase 42 = .ok (.aload_n 0, 1) := by decide +kernel
theorem dX6_setBase_43 : decode cX6_setBase 43 = .ok (.getfield 13, 3) := by decide +kernel
theorem dX6_setBase_46 : decode cX6_setBase 46 = .ok (.bipush 12, 2) := by decide +kernel
theorem dX6_setBase_48 : decode cX6_setBase 48 = .ok (.iload_n 1, 1) := by decide +kernel
theorem dX6_setBase_49 : decode cX6_setBase 49 = .ok (.imul, 1) := by decide +kernel
theorem dX6_setBase_50 : decode cX6_setBase 50 = .ok (.iload_n 2, 1) := by decide +kernel
theorem dX6_setBase_51 : decode cX6_setBase 51 = .ok (.iadd, 1) := by decide +kernel
theorem dX6_setBase_52 : decode cX6_setBase 52 = .ok (.iaload, 1) := by decide +kernel
theorem dX6_setBase_53 : decode cX6_setBase 53 = .ok (.istore 4, 2) := by decide +kernel
theorem dX6_setBase_55 : decode cX6_setBase 55 = .ok (.aload_n 0, 1) := by decide +kernel
theorem dX6_setBase_56 : decode cX6_setBase 56 = .ok (.getfield 13, 3) := by decide +kernel
theorem dX6_setBase_59 : decode cX6_setBase 59 = .ok (.bipush 12, 2) := by decide +kernel
theorem dX6_setBase_61 : decode cX6_setBase 61 = .ok (.iload_n 1, 1) := by decide +kernel
theorem dX6_setBase_62 : decode cX6_setBase 62 = .ok (.imul, 1) := by decide +kernel
theorem dX6_setBase_63 : decode cX6_setBase 63 = .ok (.iload_n 2, 1) := by decide +kernel
theorem dX6_setBase_64 : decode cX6_setBase 64 = .ok (.iadd, 1) := by decide +kernel
theorem dX6_setBase_65 : decode cX6_setBase 65 = .ok (.iload_n 3, 1) := by decide +kernel
theorem dX6_setBase_66 : decode cX6_setBase 66 = .ok (.iastore, 1) := by decide +kernel
theorem dX6_setBase_67 : decode cX6_setBase 67 = .ok (.iload 4, 2) := by decide +kernel
theorem dX6_setBase_69 : decode cX6_setBase 69 = .ok (.ireturn, 1) := by decide +kernel
set_option maxRecDepth 20000 in
set_option maxRecDepth 20000 in
set_option maxRecDepth 20000 in
set_option maxRecDepth 20000 in
theorem dX6_reset_0 : decode cX6_reset 0 = .ok (.aload_n 0, 1) := by decide +kernel
theorem dX6_reset_1 : decode cX6_reset 1 = .ok (.iload_n 1, 1) := by decide +kernel
theorem dX6_reset_2 : decode cX6_reset 2 = .ok (.iconst 4, 1) := by decide +kernel
theorem dX6_reset_3 : decode cX6_reset 3 = .ok (.invokestatic 87, 3) := by decide +kernel
theorem dX6_reset_6 : decode cX6_reset 6 = .ok (.ifCond .eq 15, 3) := by decide +kernel
theorem dX6_reset_9 : decode cX6_reset 9 = .ok (.iload_n 2, 1) := by decide +kernel
theorem dX6_reset_10 : decode cX6_reset 10 = .ok (.iconst 3, 1) := by decide +kernel
theorem dX6_reset_11 : decode cX6_reset 11 = .ok (.invokestatic 87, 3) := by decide +kernel
theorem dX6_reset_14 : decode cX6_reset 14 = .ok (.ifCond .eq 7, 3) := by decide +kernel
theorem dX6_reset_17 : decode cX6_reset 17 = .ok (.iconst 0, 1) := by decide +kernel
theorem dX6_reset_18 : decode cX6_reset 18 = .ok (.goto 4, 3) := by decide +kernel
theorem dX6_reset_21 : decode cX6_reset 21 = .ok (.iconst 1, 1) := by decide +kernel
theorem dX6_reset_22 : decode cX6_reset 22 = .ok (.invokevirtual 95, 3) := by decide +kernel
theorem dX6_reset_25 : decode cX6_reset 25 = .ok (.ifCond .eq 5, 3) := by decide +kernel
theorem dX6_reset_28 : decode cX6_reset 28 = .ok (.iconst 0, 1) := by decide +kernel
theorem dX6_reset_29 : decode cX6_reset 29 = .ok (.ireturn, 1) := by decide +kernel
theorem dX6_reset_30 : decode cX6_reset 30 = .ok (.aload_n 0, 1) := by decide +kernel
theorem dX6_reset_31 : decode cX6_reset 31 = .ok (.getfield 19, 3) := by decide +kernel
theorem dX6_reset_34 : decode cX6_reset 34 = .ok (.iload_n 1, 1) := by decide +kernel
theorem dX6_reset_35 : decode cX6_reset 35 = .ok (.iaload, 1) := by decide +kernel
theorem dX6_reset_36 : decode cX6_reset 36 = .ok (.istore_n 3, 1) := by decide +kernel
theorem dX6_reset_37 : decode cX6_reset 37 = .ok (.aload_n 0, 1) := by decide +kernel
theorem dX6_reset_38 : decode cX6_reset 38 = .ok (.getfield 16, 3) := by decide +kernel
theorem dX6_reset_41 : decode cX6_reset 41 = .ok (.iload_n 1, 1) := by decide +kernel
theorem dX6_reset_42 : decode cX6_reset 42 = .ok (.iload_n 2, 1) := by decide +kernel
theorem dX6_reset_43 : decode cX6_reset 43 = .ok (.iastore, 1) := by decide +kernel
theorem dX6_reset_44 : decode cX6_reset 44 = .ok (.aload_n 0, 1) := by decide +kernel
theorem dX6_reset_45 : decode cX6_reset 45 = .ok (.getfield 19, 3) := by decide +kernel
theorem dX6_reset_48 : decode cX6_reset 48 = .ok (.iload_n 1, 1) := by decide +kernel
theorem dX6_reset_49 : decode cX6_reset 49 = .ok (.iconst 0, 1) := by decide +kernel
theorem dX6_reset_50 : decode cX6_reset 50 = .ok (.iastore, 1) := by decide +kernel
theorem dX6_reset_51 : decode cX6_reset 51 = .ok (.iload_n 3, 1) := by decide +kernel
theorem dX6_reset_52 : decode cX6_reset 52 = .ok (.ireturn, 1) := by decide +kernel
set_option maxRecDepth 20000 in
set_option maxRecDepth 20000 in
theorem dX6_adds_0 : decode cX6_adds 0 = .ok (.aload_n 0, 1) := by decide +kernel
theorem dX6_adds_1 : decode cX6_adds 1 = .ok (.iload 5, 2) := by decide +kernel
theorem dX6_adds_3 : decode cX6_adds 3 = .ok (.ifCond .le 8, 3) := by decide +kernel
theorem dX6_adds_6 : decode cX6_adds 6 = .ok (.iload 5, 2) := by decide +kernel
theorem dX6_adds_8 : decode cX6_adds 8 = .ok (.goto 20, 3) := by decide +kernel
theorem dX6_adds_11 : decode cX6_adds 11 = .ok (.aload_n 0, 1) := by decide +kernel
theorem dX6_adds_12 : decode cX6_adds 12 = .ok (.getfield 19, 3) := by decide +kernel
theorem dX6_adds_15 : decode cX6_adds 15 = .ok (.iload_n 1, 1) := by decide +kernel
theorem dX6_adds_16 : decode cX6_adds 16 = .ok (.iaload, 1) := by decide +kernel
theorem dX6_adds_17 : decode cX6_adds 17 = .ok (.bipush 10, 2) := by decide +kernel
theorem dX6_adds_19 : decode cX6_adds 19 = .ok (.if_icmp .ne 8, 3) := by decide +kernel
theorem dX6_adds_22 : decode cX6_adds 22 = .ok (.iload 6, 2) := by decide +kernel
theorem dX6_adds_24 : decode cX6_adds 24 = .ok (.goto 4, 3) := by decide +kernel
theorem dX6_adds_27 : decode cX6_adds 27 = .ok (.iconst 0, 1) := by decide +kernel
theorem dX6_adds_28 : decode cX6_adds 28 = .ok (.invokevirtual 95, 3) := by decide +kernel
theorem dX6_adds_31 : decode cX6_adds 31 = .ok (.ifCond .eq 5, 3) := by decide +kernel
theorem dX6_adds_34 : decode cX6_adds 34 = .ok (.iconst 0, 1) := by decide +kernel
theorem dX6_adds_35 : decode cX6_adds 35 = .ok (.ireturn, 1) := by decide +kernel
theorem dX6_adds_36 : decode cX6_adds 36 = .ok (.bipush 10, 2) := by decide +kernel
theorem dX6_adds_38 : decode cX6_adds 38 = .ok (.iload_n 1, 1) := by decide +kernel
theorem dX6_adds_39 : decode cX6_adds 39 = .ok (.imul, 1) := by decide +kernel
theorem dX6_adds_40 : decode cX6_adds 40 = .ok (.aload_n 0, 1) := by decide +kernel
theorem dX6_adds_41 : decode cX6_adds 41 = .ok (.getfield 19, 3) := by decide +kernel
theorem dX6_adds_44 : decode cX6_adds 44 = .ok (.iload_n 1, 1) := by decide +kernel
theorem dX6_adds_45 : decode cX6_adds 45 = .ok (.iaload, 1) := by decide +kernel
theorem dX6_adds_46 : decode cX6_adds 46 = .ok (.iadd, 1) := by decide +kernel
theorem dX6_adds_47 : decode cX6_adds 47 = .ok (.istore 7, 2) := by decide +kernel
theorem dX6_adds_49 : decode cX6_adds 49 = .ok (.aload_n 0, 1) := by decide +kernel
theorem dX6_adds_50 : decode cX6_adds 50 = .ok (.getfield 22, 3) := by decide +kernel
theorem dX6_adds_53 : decode cX6_adds 53 = .ok (.iload 7, 2) := by decide +kernel
theorem dX6_adds_55 : decode cX6_adds 55 = .ok (.iload_n 2, 1) := by decide +kernel
theorem dX6_adds_56 : decode cX6_adds 56 = .ok (.iastore, 1) := by decide +kernel
theorem dX6_adds_57 : decode cX6_adds 57 = .ok (.aload_n 0, 1) := by decide +kernel
theorem dX6_adds_58 : decode cX6_adds 58 = .ok (.getfield 25, 3) := by decide +kernel
theorem dX6_adds_61 : decode cX6_adds 61 = .ok (.iload 7, 2) := by decide +kernel
theorem dX6_adds_63 : decode cX6_adds 63 = .ok (.iload_n 3, 1) := by decide +kernel
theorem dX6_adds_64 : decode cX6_adds 64 = .ok (.iastore, 1) := by decide +kernel
theorem dX6_adds_65 : decode cX6_adds 65 = .ok (.aload_n 0, 1) := by decide +kernel
theorem dX6_adds_66 : decode cX6_adds 66 = .ok (.getfield 28, 3) := by decide +kernel
theorem dX6_adds_69 : decode cX6_adds 69 = .ok (.iload 7, 2) := by decide +kernel
theorem dX6_adds_71 : decode cX6_adds 71 = .ok (.iload 4, 2) := by decide +kernel
theorem dX6_adds_73 : decode cX6_adds 73 = .ok (.iastore, 1) := by decide +kernel
theorem dX6_adds_74 : decode cX6_adds 74 = .ok (.aload_n 0, 1) := by decide +kernel
theorem dX6_adds_75 : decode cX6_adds 75 = .ok (.getfield 19, 3) := by decide +kernel
theorem dX6_adds_78 : decode cX6_adds 78 = .ok (.iload_n 1, 1) := by decide +kernel
theorem dX6_adds_79 : decode cX6_adds 79 = .ok (.dup2, 1) := by decide +kernel
theorem dX6_adds_80 : decode cX6_adds 80 = .ok (.iaload, 1) := by decide +kernel
theorem dX6_adds_81 : decode cX6_adds 81 = .ok (.iconst 1, 1) := by decide +kernel
theorem dX6_adds_82 : decode cX6_adds 82 = .ok (.iadd, 1) := by decide +kernel
theorem dX6_adds_83 : decode cX6_adds 83 = .ok (.iastore, 1) := by decide +kernel
theorem dX6_adds_84 : decode cX6_adds 84 = .ok (.aload_n 0, 1) := by decide +kernel
theorem dX6_adds_85 : decode cX6_adds 85 = .ok (.getfield 19, 3) := by decide +kernel
theorem dX6_adds_88 : decode cX6_adds 88 = .ok (.iload_n 1, 1) := by decide +kernel
theorem dX6_adds_89 : decode cX6_adds 89 = .ok (.iaload, 1) := by decide +kernel
theorem dX6_adds_90 : decode cX6_adds 90 = .ok (.ireturn, 1) := by decide +kernel
set_option maxRecDepth 20000 in
set_option maxRecDepth 20000 in
set_option maxRecDepth 20000 in
set_option maxRecDepth 20000 in
theorem dX6_addCopy_0 : decode cX6_addCopy 0 = .ok (.iload_n 1, 1) := by decide +kernel
theorem dX6_addCopy_1 : decode cX6_addCopy 1 = .ok (.iconst 4, 1) := by decide +kernel
theorem dX6_addCopy_2 : decode cX6_addCopy 2 = .ok (.invokestatic 87, 3) := by decide +kernel
theorem dX6_addCopy_5 : decode cX6_addCopy 5 = .ok (.ifCond .eq 25, 3) := by decide +kernel
theorem dX6_addCopy_8 : decode cX6_addCopy 8 = .ok (.iload_n 2, 1) := by decide +kernel
theorem dX6_addCopy_9 : decode cX6_addCopy 9 = .ok (.bipush 8, 2) := by decide +kernel
theorem dX6_addCopy_11 : decode cX6_addCopy 11 = .ok (.invokestatic 87, 3) := by decide +kernel
theorem dX6_addCopy_14 : decode cX6_addCopy 14 = .ok (.ifCond .eq 16, 3) := by decide +kernel
theorem dX6_addCopy_17 : decode cX6_addCopy 17 = .ok (.iload_n 3, 1) := by decide +kernel
theorem dX6_addCopy_18 : decode cX6_addCopy 18 = .ok (.bipush 12, 2) := by decide +kernel
theorem dX6_addCopy_20 : decode cX6_addCopy 20 = .ok (.invokestatic 87, 3) := by decide +kernel
theorem dX6_addCopy_23 : decode cX6_addCopy 23 = .ok (.ifCond .eq 7, 3) := by decide +kernel
theorem dX6_addCopy_26 : decode cX6_addCopy 26 = .ok (.iconst 1, 1) := by decide +kernel
theorem dX6_addCopy_27 : decode cX6_addCopy 27 = .ok (.goto 4, 3) := by decide +kernel
theorem dX6_addCopy_30 : decode cX6_addCopy 30 = .ok (.iconst 0, 1) := by decide +kernel
theorem dX6_addCopy_31 : decode cX6_addCopy 31 = .ok (.istore 4, 2) := by decide +kernel
theorem dX6_addCopy_33 : decode cX6_addCopy 33 = .ok (.aload_n 0, 1) := by decide +kernel
theorem dX6_addCopy_34 : decode cX6_addCopy 34 = .ok (.iload_n 1, 1) := by decide +kernel
theorem dX6_addCopy_35 : decode cX6_addCopy 35 = .ok (.iconst 0, 1) := by decide +kernel
theorem dX6_addCopy_36 : decode cX6_addCopy 36 = .ok (.iload_n 2, 1) := by decide +kernel
theorem dX6_addCopy_37 : decode cX6_addCopy 37 = .ok (.iload_n 3, 1) := by decide +kernel
theorem dX6_addCopy_38 : decode cX6_addCopy 38 = .ok (.iload 4, 2) := by decide +kernel
theorem dX6_addCopy_40 : decode cX6_addCopy 40 = .ok (.ifCond .eq 7, 3) := by decide +kernel
theorem dX6_addCopy_43 : decode cX6_addCopy 43 = .ok (.iconst 0, 1) := by decide +kernel
theorem dX6_addCopy_44 : decode cX6_addCopy 44 = .ok (.goto 4, 3) := by decide +kernel
theorem dX6_addCopy_47 : decode cX6_addCopy 47 = .ok (.iconst 1, 1) := by decide +kernel
theorem dX6_addCopy_48 : decode cX6_addCopy 48 = .ok (.iconst 2, 1) := by decide +kernel
theorem dX6_addCopy_49 : decode cX6_addCopy 49 = .ok (.invokevirtual 98, 3) := by decide +kernel
theorem dX6_addCopy_52 : decode cX6_addCopy 52 = .ok (.ireturn, 1) := by decide +kernel
set_option maxRecDepth 20000 in
set_option maxRecDepth 20000 in
set_option maxRecDepth 20000 in
set_option maxRecDepth 20000 in
theorem dX6_addRun_0 : decode cX6_addRun 0 = .ok (.iload_n 1, 1) := by decide +kernel
theorem dX6_addRun_1 : decode cX6_addRun 1 = .ok (.iconst 4, 1) := by decide +kernel
theorem dX6_addRun_2 : decode cX6_addRun 2 = .ok (.invokestatic 87, 3) := by decide +kernel
theorem dX6_addRun_5 : decode cX6_addRun 5 = .ok (.ifCond .eq 24, 3) := by decide +kernel
theorem dX6_addRun_8 : decode cX6_addRun 8 = .ok (.iload_n 2, 1) := by decide +kernel
theorem dX6_addRun_9 : decode cX6_addRun 9 = .ok (.bipush 12, 2) := by decide +kernel
theorem dX6_addRun_11 : decode cX6_addRun 11 = .ok (.invokestatic 87, 3) := by decide +kernel
theorem dX6_addRun_14 : decode cX6_addRun 14 = .ok (.ifCond .eq 15, 3) := by decide +kernel
theorem dX6_addRun_17 : decode cX6_addRun 17 = .ok (.iload_n 3, 1) := by decide +kernel
theorem dX6_addRun_18 : decode cX6_addRun 18 = .ok (.iconst 4, 1) := by decide +kernel
theorem dX6_addRun_19 : decode cX6_addRun 19 = .ok (.invokestatic 87, 3) := by decide +kernel
theorem dX6_addRun_22 : decode cX6_addRun 22 = .ok (.ifCond .eq 7, 3) := by decide +kernel
theorem dX6_addRun_25 : decode cX6_addRun 25 = .ok (.iconst 1, 1) := by decide +kernel
theorem dX6_addRun_26 : decode cX6_addRun 26 = .ok (.goto 4, 3) := by decide +kernel
theorem dX6_addRun_29 : decode cX6_addRun 29 = .ok (.iconst 0, 1) := by decide +kernel
theorem dX6_addRun_30 : decode cX6_addRun 30 = .ok (.istore 4, 2) := by decide +kernel
theorem dX6_addRun_32 : decode cX6_addRun 32 = .ok (.aload_n 0, 1) := by decide +kernel
theorem dX6_addRun_33 : decode cX6_addRun 33 = .ok (.iload_n 1, 1) := by decide +kernel
theorem dX6_addRun_34 : decode cX6_addRun 34 = .ok (.iconst 1, 1) := by decide +kernel
theorem dX6_addRun_35 : decode cX6_addRun 35 = .ok (.iload_n 2, 1) := by decide +kernel
theorem dX6_addRun_36 : decode cX6_addRun 36 = .ok (.iload_n 3, 1) := by decide +kernel
theorem dX6_addRun_37 : decode cX6_addRun 37 = .ok (.iload 4, 2) := by decide +kernel
theorem dX6_addRun_39 : decode cX6_addRun 39 = .ok (.ifCond .eq 7, 3) := by decide +kernel
theorem dX6_addRun_42 : decode cX6_addRun 42 = .ok (.iconst 0, 1) := by decide +kernel
theorem dX6_addRun_43 : decode cX6_addRun 43 = .ok (.goto 4, 3) := by decide +kernel
theorem dX6_addRun_46 : decode cX6_addRun 46 = .ok (.iconst 1, 1) := by decide +kernel
theorem dX6_addRun_47 : decode cX6_addRun 47 = .ok (.iconst 2, 1) := by decide +kernel
theorem dX6_addRun_48 : decode cX6_addRun 48 = .ok (.invokevirtual 98, 3) := by decide +kernel
theorem dX6_addRun_51 : decode cX6_addRun 51 = .ok (.ireturn, 1) := by decide +kernel
set_option maxRecDepth 20000 in
set_option maxRecDepth 20000 in
set_option maxRecDepth 20000 in
set_option maxRecDepth 20000 in
theorem dX6_addMove_0 : decode cX6_addMove 0 = .ok (.iload_n 1, 1) := by decide +kernel
theorem dX6_addMove_1 : decode cX6_addMove 1 = .ok (.iconst 4, 1) := by decide +kernel
theorem dX6_addMove_2 : decode cX6_addMove 2 = .ok (.invokestatic 87, 3) := by decide +kernel
theorem dX6_addMove_5 : decode cX6_addMove 5 = .ok (.ifCond .eq 25, 3) := by decide +kernel
theorem dX6_addMove_8 : decode cX6_addMove 8 = .ok (.iload_n 2, 1) := by decide +kernel
theorem dX6_addMove_9 : decode cX6_addMove 9 = .ok (.bipush 12, 2) := by decide +kernel
theorem dX6_addMove_11 : decode cX6_addMove 11 = .ok (.invokestatic 87, 3) := by decide +kernel
theorem dX6_addMove_14 : decode cX6_addMove 14 = .ok (.ifCond .eq 16, 3) := by decide +kernel
theorem dX6_addMove_17 : decode cX6_addMove 17 = .ok (.iload_n 3, 1) := by decide +kernel
theorem dX6_addMove_18 : decode cX6_addMove 18 = .ok (.bipush 12, 2) := by decide +kernel
theorem dX6_addMove_20 : decode cX6_addMove 20 = .ok (.invokestatic 87, 3) := by decide +kernel
theorem dX6_addMove_23 : decode cX6_addMove 23 = .ok (.ifCond .eq 7, 3) := by decide +kernel
theorem dX6_addMove_26 : decode cX6_addMove 26 = .ok (.iconst 1, 1) := by decide +kernel
theorem dX6_addMove_27 : decode cX6_addMove 27 = .ok (.goto 4, 3) := by decide +kernel
theorem dX6_addMove_30 : decode cX6_addMove 30 = .ok (.iconst 0, 1) := by decide +kernel
theorem dX6_addMove_31 : decode cX6_addMove 31 = .ok (.istore 4, 2) := by decide +kernel
theorem dX6_addMove_33 : decode cX6_addMove 33 = .ok (.aload_n 0, 1) := by decide +kernel
theorem dX6_addMove_34 : decode cX6_addMove 34 = .ok (.iload_n 1, 1) := by decide +kernel
theorem dX6_addMove_35 : decode cX6_addMove 35 = .ok (.iconst 2, 1) := by decide +kernel
theorem dX6_addMove_36 : decode cX6_addMove 36 = .ok (.iload_n 2, 1) := by decide +kernel
theorem dX6_addMove_37 : decode cX6_addMove 37 = .ok (.iload_n 3, 1) := by decide +kernel
theorem dX6_addMove_38 : decode cX6_addMove 38 = .ok (.iload 4, 2) := by decide +kernel
theorem dX6_addMove_40 : decode cX6_addMove 40 = .ok (.ifCond .ne 7, 3) := by decide +kernel
theorem dX6_addMove_43 : decode cX6_addMove 43 = .ok (.iconst 1, 1) := by decide +kernel
theorem dX6_addMove_44 : decode cX6_addMove 44 = .ok (.goto 13, 3) := by decide +kernel
theorem dX6_addMove_47 : decode cX6_addMove 47 = .ok (.iload_n 2, 1) := by decide +kernel
theorem dX6_addMove_48 : decode cX6_addMove 48 = .ok (.iload_n 3, 1) := by decide +kernel
theorem dX6_addMove_49 : decode cX6_addMove 49 = .ok (.if_icmp .ne 7, 3) := by decide +kernel
theorem dX6_addMove_52 : decode cX6_addMove 52 = .ok (.iconst 2, 1) := by decide +kernel
theorem dX6_addMove_53 : decode cX6_addMove 53 = .ok (.goto 4, 3) := by decide +kernel
theorem dX6_addMove_56 : decode cX6_addMove 56 = .ok (.iconst 0, 1) := by decide +kernel
theorem dX6_addMove_57 : decode cX6_addMove 57 = .ok (.iconst 3, 1) := by decide +kernel
theorem dX6_addMove_58 : decode cX6_addMove 58 = .ok (.invokevirtual 98, 3) := by decide +kernel
theorem dX6_addMove_61 : decode cX6_addMove 61 = .ok (.ireturn, 1) := by decide +kernel
set_option maxRecDepth 20000 in
set_option maxRecDepth 20000 in
set_option maxRecDepth 20000 in
set_option maxRecDepth 20000 in
theorem dX6_addRemove_0 : decode cX6_addRemove 0 = .ok (.iload_n 1, 1) := by decide +kernel
theorem dX6_addRemove_1 : decode cX6_addRemove 1 = .ok (.iconst 4, 1) := by decide +kernel
theorem dX6_addRemove_2 : decode cX6_addRemove 2 = .ok (.invokestatic 87, 3) := by decide +kernel
theorem dX6_addRemove_5 : decode cX6_addRemove 5 = .ok (.ifCond .eq 16, 3) := by decide +kernel
theorem dX6_addRemove_8 : decode cX6_addRemove 8 = .ok (.iload_n 2, 1) := by decide +kernel
theorem dX6_addRemove_9 : decode cX6_addRemove 9 = .ok (.bipush 12, 2) := by decide +kernel
theorem dX6_addRemove_11 : decode cX6_addRemove 11 = .ok (.invokestatic 87, 3) := by decide +kernel
theorem dX6_addRemove_14 : decode cX6_addRemove 14 = .ok (.ifCond .eq 7, 3) := by decide +kernel
theorem dX6_addRemove_17 : decode cX6_addRemove 17 = .ok (.iconst 1, 1) := by decide +kernel
theorem dX6_addRemove_18 : decode cX6_addRemove 18 = .ok (.goto 4, 3) := by decide +kernel
theorem dX6_addRemove_21 : decode cX6_addRemove 21 = .ok (.iconst 0, 1) := by decide +kernel
theorem dX6_addRemove_22 : decode cX6_addRemove 22 = .ok (.istore_n 3, 1) := by decide +kernel
theorem dX6_addRemove_23 : decode cX6_addRemove 23 = .ok (.aload_n 0, 1) := by decide +kernel
theorem dX6_addRemove_24 : decode cX6_addRemove 24 = .ok (.iload_n 1, 1) := by decide +kernel
theorem dX6_addRemove_25 : decode cX6_addRemove 25 = .ok (.iconst 3, 1) := by decide +kernel
theorem dX6_addRemove_26 : decode cX6_addRemove 26 = .ok (.iload_n 2, 1) := by decide +kernel
theorem dX6_addRemove_27 : decode cX6_addRemove 27 = .ok (.iconst 0, 1) := by decide +kernel
theorem dX6_addRemove_28 : decode cX6_addRemove 28 = .ok (.iload_n 3, 1) := by decide +kernel
theorem dX6_addRemove_29 : decode cX6_addRemove 29 = .ok (.ifCond .eq 7, 3) := by decide +kernel
theorem dX6_addRemove_32 : decode cX6_addRemove 32 = .ok (.iconst 0, 1) := by decide +kernel
theorem dX6_addRemove_33 : decode cX6_addRemove 33 = .ok (.goto 4, 3) := by decide +kernel
theorem dX6_addRemove_36 : decode cX6_addRemove 36 = .ok (.iconst 1, 1) := by decide +kernel
theorem dX6_addRemove_37 : decode cX6_addRemove 37 = .ok (.iconst 2, 1) := by decide +kernel
theorem dX6_addRemove_38 : decode cX6_addRemove 38 = .ok (.invokevirtual 98, 3) := by decide +kernel
theorem dX6_addRemove_41 : decode cX6_addRemove 41 = .ok (.ireturn, 1) := by decide +kernel
set_option maxRecDepth 20000 in
set_option maxRecDepth 20000 in
set_option maxRecDepth 20000 in
set_option maxRecDepth 20000 in
theorem dX6_addSet_0 : decode cX6_addSet 0 = .ok (.iload_n 1, 1) := by decide +kernel
theorem dX6_addSet_1 : decode cX6_addSet 1 = .ok (.iconst 4, 1) := by decide +kernel
theorem dX6_addSet_2 : decode cX6_addSet 2 = .ok (.invokestatic 87, 3) := by decide +kernel
theorem dX6_addSet_5 : decode cX6_addSet 5 = .ok (.ifCond .eq 15, 3) := by decide +kernel
theorem dX6_addSet_8 : decode cX6_addSet 8 = .ok (.iload_n 2, 1) := by decide +kernel
theorem dX6_addSet_9 : decode cX6_addSet 9 = .ok (.iconst 4, 1) := by decide +kernel
theorem dX6_addSet_10 : decode cX6_addSet 10 = .ok (.invokestatic 87, 3) := by decide +kernel
theorem dX6_addSet_13 : decode cX6_addSet 13 = .ok (.ifCond .eq 7, 3) := by decide +kernel
theorem dX6_addSet_16 : decode cX6_addSet 16 = .ok (.iconst 1, 1) := by decide +kernel
theorem dX6_addSet_17 : decode cX6_addSet 17 = .ok (.goto 4, 3) := by decide +kernel
theorem dX6_addSet_20 : decode cX6_addSet 20 = .ok (.iconst 0, 1) := by decide +kernel
theorem dX6_addSet_21 : decode cX6_addSet 21 = .ok (.istore 4, 2) := by decide +kernel
theorem dX6_addSet_23 : decode cX6_addSet 23 = .ok (.aload_n 0, 1) := by decide +kernel
theorem dX6_addSet_24 : decode cX6_addSet 24 = .ok (.iload_n 1, 1) := by decide +kernel
theorem dX6_addSet_25 : decode cX6_addSet 25 = .ok (.iconst 4, 1) := by decide +kernel
theorem dX6_addSet_26 : decode cX6_addSet 26 = .ok (.iload_n 2, 1) := by decide +kernel
theorem dX6_addSet_27 : decode cX6_addSet 27 = .ok (.iload_n 3, 1) := by decide +kernel
theorem dX6_addSet_28 : decode cX6_addSet 28 = .ok (.iload 4, 2) := by decide +kernel
theorem dX6_addSet_30 : decode cX6_addSet 30 = .ok (.ifCond .ne 7, 3) := by decide +kernel
theorem dX6_addSet_33 : decode cX6_addSet 33 = .ok (.iconst 1, 1) := by decide +kernel
theorem dX6_addSet_34 : decode cX6_addSet 34 = .ok (.goto 18, 3) := by decide +kernel
theorem dX6_addSet_37 : decode cX6_addSet 37 = .ok (.iload_n 3, 1) := by decide +kernel
theorem dX6_addSet_38 : decode cX6_addSet 38 = .ok (.sipush 1000, 3) := by decide +kernel
theorem dX6_addSet_41 : decode cX6_addSet 41 = .ok (.invokestatic 87, 3) := by decide +kernel
theorem dX6_addSet_44 : decode cX6_addSet 44 = .ok (.ifCond .eq 7, 3) := by decide +kernel
theorem dX6_addSet_47 : decode cX6_addSet 47 = .ok (.iconst 0, 1) := by decide +kernel
theorem dX6_addSet_48 : decode cX6_addSet 48 = .ok (.goto 4, 3) := by decide +kernel
theorem dX6_addSet_51 : decode cX6_addSet 51 = .ok (.iconst 2, 1) := by decide +kernel
theorem dX6_addSet_52 : decode cX6_addSet 52 = .ok (.iconst 3, 1) := by decide +kernel
theorem dX6_addSet_53 : decode cX6_addSet 53 = .ok (.invokevirtual 98, 3) := by decide +kernel
theorem dX6_addSet_56 : decode cX6_addSet 56 = .ok (.ireturn, 1) := by decide +kernel
set_option maxRecDepth 20000 in
set_option maxRecDepth 20000 in
set_option maxRecDepth 20000 in
set_option maxRecDepth 20000 in
theorem dX6_drop_0 : decode cX6_drop 0 = .ok (.iload_n 1, 1) := by decide +kernel
theorem dX6_drop_1 : decode cX6_drop 1 = .ok (.iconst 4, 1) := by decide +kernel
theorem dX6_drop_2 : decode cX6_drop 2 = .ok (.invokestatic 87, 3) := by decide +kernel
theorem dX6_drop_5 : decode cX6_drop 5 = .ok (.ifCond .eq 33, 3) := by decide +kernel
theorem dX6_drop_8 : decode cX6_drop 8 = .ok (.iload_n 2, 1) := by decide +kernel
theorem dX6_drop_9 : decode cX6_drop 9 = .ok (.aload_n 0, 1) := by decide +kernel
theorem dX6_drop_10 : decode cX6_drop 10 = .ok (.getfield 19, 3) := by decide +kernel
theorem dX6_drop_13 : decode cX6_drop 13 = .ok (.iload_n 1, 1) := by decide +kernel
theorem dX6_drop_14 : decode cX6_drop 14 = .ok (.ifCond .lt 8, 3) := by decide +kernel
theorem dX6_drop_17 : decode cX6_drop 17 = .ok (.iload_n 1, 1) := by decide +kernel
theorem dX6_drop_18 : decode cX6_drop 18 = .ok (.iconst 4, 1) := by decide +kernel
theorem dX6_drop_19 : decode cX6_drop 19 = .ok (.if_icmp .lt 7, 3) := by decide +kernel
theorem dX6_drop_22 : decode cX6_drop 22 = .ok (.iconst 0, 1) := by decide +kernel
theorem dX6_drop_23 : decode cX6_drop 23 = .ok (.goto 4, 3) := by decide +kernel
theorem dX6_drop_26 : decode cX6_drop 26 = .ok (.iload_n 1, 1) := by decide +kernel
theorem dX6_drop_27 : decode cX6_drop 27 = .ok (.iaload, 1) := by decide +kernel
theorem dX6_drop_28 : decode cX6_drop 28 = .ok (.invokestatic 87, 3) := by decide +kernel
theorem dX6_drop_31 : decode cX6_drop 31 = .ok (.ifCond .eq 7, 3) := by decide +kernel
theorem dX6_drop_34 : decode cX6_drop 34 = .ok (.iconst 1, 1) := by decide +kernel
theorem dX6_drop_35 : decode cX6_drop 35 = .ok (.goto 4, 3) := by decide +kernel
theorem dX6_drop_38 : decode cX6_drop 38 = .ok (.iconst 0, 1) := by decide +kernel
theorem dX6_drop_39 : decode cX6_drop 39 = .ok (.istore_n 3, 1) := by decide +kernel
theorem dX6_drop_40 : decode cX6_drop 40 = .ok (.aload_n 0, 1) := by decide +kernel
theorem dX6_drop_41 : decode cX6_drop 41 = .ok (.iload_n 3, 1) := by decide +kernel
theorem dX6_drop_42 : decode cX6_drop 42 = .ok (.ifCond .eq 7, 3) := by decide +kernel
theorem dX6_drop_45 : decode cX6_drop 45 = .ok (.iconst 0, 1) := by decide +kernel
theorem dX6_drop_46 : decode cX6_drop 46 = .ok (.goto 4, 3) := by decide +kernel
theorem dX6_drop_49 : decode cX6_drop 49 = .ok (.iconst 1, 1) := by decide +kernel
theorem dX6_drop_50 : decode cX6_drop 50 = .ok (.invokevirtual 95, 3) := by decide +kernel
theorem dX6_drop_53 : decode cX6_drop 53 = .ok (.ifCond .eq 5, 3) := by decide +kernel
theorem dX6_drop_56 : decode cX6_drop 56 = .ok (.iconst 0, 1) := by decide +kernel
theorem dX6_drop_57 : decode cX6_drop 57 = .ok (.ireturn, 1) := by decide +kernel
theorem dX6_drop_58 : decode cX6_drop 58 = .ok (.aload_n 0, 1) := by decide +kernel
theorem dX6_drop_59 : decode cX6_drop 59 = .ok (.getfield 19, 3) := by decide +kernel
theorem dX6_drop_62 : decode cX6_drop 62 = .ok (.iload_n 1, 1) := by decide +kernel
theorem dX6_drop_63 : decode cX6_drop 63 = .ok (.dup2, 1) := by decide +kernel
theorem dX6_drop_64 : decode cX6_drop 64 = .ok (.iaload, 1) := by decide +kernel
theorem dX6_drop_65 : decode cX6_drop 65 = .ok (.iconst 1, 1) := by decide +kernel
theorem dX6_drop_66 : decode cX6_drop 66 = .ok (.isub, 1) := by decide +kernel
theorem dX6_drop_67 : decode cX6_drop 67 = .ok (.iastore, 1) := by decide +kernel
theorem dX6_drop_68 : decode cX6_drop 68 = .ok (.bipush 10, 2) := by decide +kernel
theorem dX6_drop_70 : decode cX6_drop 70 = .ok (.iload_n 1, 1) := by decide +kernel
theorem dX6_drop_71 : decode cX6_drop 71 = .ok (.imul, 1) := by decide +kernel
theorem dX6_drop_72 : decode cX6_drop 72 = .ok (.iload_n 2, 1) := by decide +kernel
theorem dX6_drop_73 : decode cX6_drop 73 = .ok (.iadd, 1) := by decide +kernel
theorem dX6_drop_74 : decode cX6_drop 74 = .ok (.istore 4, 2) := by decide +kernel
theorem dX6_drop_76 : decode cX6_drop 76 = .ok (.iload 4, 2) := by decide +kernel
theorem dX6_drop_78 : decode cX6_drop 78 = .ok (.bipush 10, 2) := by decide +kernel
theorem dX6_drop_80 : decode cX6_drop 80 = .ok (.iload_n 1, 1) := by decide +kernel
theorem dX6_drop_81 : decode cX6_drop 81 = .ok (.imul, 1) := by decide +kernel
theorem dX6_drop_82 : decode cX6_drop 82 = .ok (.aload_n 0, 1) := by decide +kernel
theorem dX6_drop_83 : decode cX6_drop 83 = .ok (.getfield 19, 3) := by decide +kernel
theorem dX6_drop_86 : decode cX6_drop 86 = .ok (.iload_n 1, 1) := by decide +kernel
theorem dX6_drop_87 : decode cX6_drop 87 = .ok (.iaload, 1) := by decide +kernel
theorem dX6_drop_88 : decode cX6_drop 88 = .ok (.iadd, 1) := by decide +kernel
theorem dX6_drop_89 : decode cX6_drop 89 = .ok (.if_icmp .ge 57, 3) := by decide +kernel
theorem dX6_drop_92 : decode cX6_drop 92 = .ok (.aload_n 0, 1) := by decide +kernel
theorem dX6_drop_93 : decode cX6_drop 93 = .ok (.getfield 22, 3) := by decide +kernel
theorem dX6_drop_96 : decode cX6_drop 96 = .ok (.iload 4, 2) := by decide +kernel
theorem dX6_drop_98 : decode cX6_drop 98 = .ok (.aload_n 0, 1) := by decide +kernel
theorem dX6_drop_99 : decode cX6_drop 99 = .ok (.getfield 22, 3) := by decide +kernel
theorem dX6_drop_102 : decode cX6_drop 102 = .ok (.iload 4, 2) := by decide +kernel
theorem dX6_drop_104 : decode cX6_drop 104 = .ok (.iconst 1, 1) := by decide +kernel
theorem dX6_drop_105 : decode cX6_drop 105 = .ok (.iadd, 1) := by decide +kernel
theorem dX6_drop_106 : decode cX6_drop 106 = .ok (.iaload, 1) := by decide +kernel
theorem dX6_drop_107 : decode cX6_drop 107 = .ok (.iastore, 1) := by decide +kernel
theorem dX6_drop_108 : decode cX6_drop 108 = .ok (.aload_n 0, 1) := by decide +kernel
theorem dX6_drop_109 : decode cX6_drop 109 = .ok (.getfield 25, 3) := by decide +kernel
theorem dX6_drop_112 : decode cX6_drop 112 = .ok (.iload 4, 2) := by decide +kernel
theorem dX6_drop_114 : decode cX6_drop 114 = .ok (.aload_n 0, 1) := by decide +kernel
theorem dX6_drop_115 : decode cX6_drop 115 = .ok (.getfield 25, 3) := by decide +kernel
theorem dX6_drop_118 : decode cX6_drop 118 = .ok (.iload 4, 2) := by decide +kernel
theorem dX6_drop_120 : decode cX6_drop 120 = .ok (.iconst 1, 1) := by decide +kernel
theorem dX6_drop_121 : decode cX6_drop 121 = .ok (.iadd, 1) := by decide +kernel
theorem dX6_drop_122 : decode cX6_drop 122 = .ok (.iaload, 1) := by decide +kernel
theorem dX6_drop_123 : decode cX6_drop 123 = .ok (.iastore, 1) := by decide +kernel
theorem dX6_drop_124 : decode cX6_drop 124 = .ok (.aload_n 0, 1) := by decide +kernel
theorem dX6_drop_125 : decode cX6_drop 125 = .ok (.getfield 28, 3) := by decide +kernel
theorem dX6_drop_128 : decode cX6_drop 128 = .ok (.iload 4, 2) := by decide +kernel
theorem dX6_drop_130 : decode cX6_drop 130 = .ok (.aload_n 0, 1) := by decide +kernel
theorem dX6_drop_131 : decode cX6_drop 131 = .ok (.getfield 28, 3) := by decide +kernel
theorem dX6_drop_134 : decode cX6_drop 134 = .ok (.iload 4, 2) := by decide +kernel
theorem dX6_drop_136 : decode cX6_drop 136 = .ok (.iconst 1, 1) := by decide +kernel
theorem dX6_drop_137 : decode cX6_drop 137 = .ok (.iadd, 1) := by decide +kernel
theorem dX6_drop_138 : decode cX6_drop 138 = .ok (.iaload, 1) := by decide +kernel
theorem dX6_drop_139 : decode cX6_drop 139 = .ok (.iastore, 1) := by decide +kernel
theorem dX6_drop_140 : decode cX6_drop 140 = .ok (.iinc 4 1, 3) := by decide +kernel
theorem dX6_drop_143 : decode cX6_drop 143 = .ok (.goto (-67), 3) := by decide +kernel
theorem dX6_drop_146 : decode cX6_drop 146 = .ok (.aload_n 0, 1) := by decide +kernel
theorem dX6_drop_147 : decode cX6_drop 147 = .ok (.getfield 19, 3) := by decide +kernel
theorem dX6_drop_150 : decode cX6_drop 150 = .ok (.iload_n 1, 1) := by decide +kernel
theorem dX6_drop_151 : decode cX6_drop 151 = .ok (.iaload, 1) := by decide +kernel
theorem dX6_drop_152 : decode cX6_drop 152 = .ok (.ireturn, 1) := by decide +kernel
set_option maxRecDepth 20000 in
set_option maxRecDepth 20000 in
set_option maxRecDepth 20000 in
set_option maxRecDepth 20000 in
theorem dX6_instructions_0 : decode cX6_instructions 0 = .ok (.aload_n 0, 1) := by decide +kernel
theorem dX6_instructions_1 : decode cX6_instructions 1 = .ok (.iload_n 1, 1) := by decide +kernel
theorem dX6_instructions_2 : decode cX6_instructions 2 = .ok (.iconst 4, 1) := by decide +kernel
theorem dX6_instructions_3 : decode cX6_instructions 3 = .ok (.invokestatic 87, 3) := by decide +kernel
theorem dX6_instructions_6 : decode cX6_instructions 6 = .ok (.ifCond .eq 7, 3) := by decide +kernel
theorem dX6_instructions_9 : decode cX6_instructions 9 = .ok (.iconst 0, 1) := by decide +kernel
theorem dX6_instructions_10 : decode cX6_instructions 10 = .ok (.goto 4, 3) := by decide +kernel
theorem dX6_instructions_13 : decode cX6_instructions 13 = .ok (.iconst 1, 1) := by decide +kernel
theorem dX6_instructions_14 : decode cX6_instructions 14 = .ok (.invokevirtual 95, 3) := by decide +kernel
theorem dX6_instructions_17 : decode cX6_instructions 17 = .ok (.ifCond .eq 7, 3) := by decide +kernel
theorem dX6_instructions_20 : decode cX6_instructions 20 = .ok (.iconst 0, 1) := by decide +kernel
theorem dX6_instructions_21 : decode cX6_instructions 21 = .ok (.goto 9, 3) := by decide +kernel
theorem dX6_instructions_24 : decode cX6_instructions 24 = .ok (.aload_n 0, 1) := by decide +kernel
theorem dX6_instructions_25 : decode cX6_instructions 25 = .ok (.getfield 19, 3) := by decide +kernel
theorem dX6_instructions_28 : decode cX6_instructions 28 = .ok (.iload_n 1, 1) := by decide +kernel
theorem dX6_instructions_29 : decode cX6_instructions 29 = .ok (.iaload, 1) := by decide +kernel
theorem dX6_instructions_30 : decode cX6_instructions 30 = .ok (.ireturn, 1) := by decide +kernel
set_option maxRecDepth 20000 in
set_option maxRecDepth 20000 in
theorem dX6_is_0 : decode cX6_is 0 = .ok (.iload_n 1, 1) := by decide +kernel
theorem dX6_is_1 : decode cX6_is 1 = .ok (.aload_n 0, 1) := by decide +kernel
theorem dX6_is_2 : decode cX6_is 2 = .ok (.getfield 102, 3) := by decide +kernel
theorem dX6_is_5 : decode cX6_is 5 = .ok (.invokestatic 87, 3) := by decide +kernel
theorem dX6_is_8 : decode cX6_is 8 = .ok (.ifCond .eq 16, 3) := by decide +kernel
theorem dX6_is_11 : decode cX6_is 11 = .ok (.aload_n 0, 1) := by decide +kernel
theorem dX6_is_12 : decode cX6_is 12 = .ok (.getfield 31, 3) := by decide +kernel
theorem dX6_is_15 : decode cX6_is 15 = .ok (.iload_n 1, 1) := by decide +kernel
theorem dX6_is_16 : decode cX6_is 16 = .ok (.baload, 1) := by decide +kernel
theorem dX6_is_17 : decode cX6_is 17 = .ok (.ifCond .ne 7, 3) := by decide +kernel
theorem dX6_is_20 : decode cX6_is 20 = .ok (.iconst 1, 1) := by decide +kernel
theorem dX6_is_21 : decode cX6_is 21 = .ok (.goto 4, 3) := by decide +kernel
theorem dX6_is_24 : decode cX6_is 24 = .ok (.iconst 0, 1) := by decide +kernel
theorem dX6_is_25 : decode cX6_is 25 = .ok (.ireturn, 1) := by decide +kernel
theorem dX6_shows_0 : decode cX6_shows 0 = .ok (.iload_n 1, 1) := by decide +kernel
theorem dX6_shows_1 : decode cX6_shows 1 = .ok (.istore_n 3, 1) := by decide +kernel
theorem dX6_shows_2 : decode cX6_shows 2 = .ok (.iload_n 3, 1) := by decide +kernel
theorem dX6_shows_3 : decode cX6_shows 3 = .ok (.iconst (-1), 1) := by decide +kernel
theorem dX6_shows_4 : decode cX6_shows 4 = .ok (.if_icmp .eq 28, 3) := by decide +kernel
theorem dX6_shows_7 : decode cX6_shows 7 = .ok (.aload_n 0, 1) := by decide +kernel
theorem dX6_shows_8 : decode cX6_shows 8 = .ok (.getfield 38, 3) := by decide +kernel
theorem dX6_shows_11 : decode cX6_shows 11 = .ok (.bipush 12, 2) := by decide +kernel
theorem dX6_shows_13 : decode cX6_shows 13 = .ok (.iload_n 3, 1) := by decide +kernel
theorem dX6_shows_14 : decode cX6_shows 14 = .ok (.imul, 1) := by decide +kernel
theorem dX6_shows_15 : decode cX6_shows 15 = .ok (.iload_n 2, 1) := by decide +kernel
theorem dX6_shows_16 : decode cX6_shows 16 = .ok (.iadd, 1) := by decide +kernel
theorem dX6_shows_17 : decode cX6_shows 17 = .ok (.iaload, 1) := by decide +kernel
theorem dX6_shows_18 : decode cX6_shows 18 = .ok (.iconst (-1), 1) := by decide +kernel
theorem dX6_shows_19 : decode cX6_shows 19 = .ok (.if_icmp .ne 13, 3) := by decide +kernel
theorem dX6_shows_22 : decode cX6_shows 22 = .ok (.aload_n 0, 1) := by decide +kernel
theorem dX6_shows_23 : decode cX6_shows 23 = .ok (.getfield 35, 3) := by decide +kernel
theorem dX6_shows_26 : decode cX6_shows 26 = .ok (.iload_n 3, 1) := by decide +kernel
theorem dX6_shows_27 : decode cX6_shows 27 = .ok (.iaload, 1) := by decide +kernel
theorem dX6_shows_28 : decode cX6_shows 28 = .ok (.istore_n 3, 1) := by decide +kernel
theorem dX6_shows_29 : decode cX6_shows 29 = .ok (.goto (-27), 3) := by decide +kernel
theorem dX6_shows_32 : decode cX6_shows 32 = .ok (.iload_n 3, 1) := by decide +kernel
theorem dX6_shows_33 : decode cX6_shows 33 = .ok (.iconst (-1), 1) := by decide +kernel
theorem dX6_shows_34 : decode cX6_shows 34 = .ok (.if_icmp .eq 19, 3) := by decide +kernel
theorem dX6_shows_37 : decode cX6_shows 37 = .ok (.aload_n 0, 1) := by decide +kernel
theorem dX6_shows_38 : decode cX6_shows 38 = .ok (.getfield 38, 3) := by decide +kernel
theorem dX6_shows_41 : decode cX6_shows 41 = .ok (.bipush 12, 2) := by decide +kernel
theorem dX6_shows_43 : decode cX6_shows 43 = .ok (.iload_n 3, 1) := by decide +kernel
theorem dX6_shows_44 : decode cX6_shows 44 = .ok (.imul, 1) := by decide +kernel
theorem dX6_shows_45 : decode cX6_shows 45 = .ok (.iload_n 2, 1) := by decide +kernel
theorem dX6_shows_46 : decode cX6_shows 46 = .ok (.iadd, 1) := by decide +kernel
theorem dX6_shows_47 : decode cX6_shows 47 = .ok (.iaload, 1) := by decide +kernel
theorem dX6_shows_48 : decode cX6_shows 48 = .ok (.bipush (-2), 2) := by decide +kernel
theorem dX6_shows_50 : decode cX6_shows 50 = .ok (.if_icmp .ne 7, 3) := by decide +kernel
theorem dX6_shows_53 : decode cX6_shows 53 = .ok (.iconst (-1), 1) := by decide +kernel
theorem dX6_shows_54 : decode cX6_shows 54 = .ok (.goto 14, 3) := by decide +kernel
theorem dX6_shows_57 : decode cX6_shows 57 = .ok (.aload_n 0, 1) := by decide +kernel
theorem dX6_shows_58 : decode cX6_shows 58 = .ok (.getfield 38, 3) := by decide +kernel
theorem dX6_shows_61 : decode cX6_shows 61 = .ok (.bipush 12, 2) := by decide +kernel
theorem dX6_shows_63 : decode cX6_shows 63 = .ok (.iload_n 3, 1) := by decide +kernel
theorem dX6_shows_64 : decode cX6_shows 64 = .ok (.imul, 1) := by decide +kernel
theorem dX6_shows_65 : decode cX6_shows 65 = .ok (.iload_n 2, 1) := by decide +kernel
theorem dX6_shows_66 : decode cX6_shows 66 = .ok (.iadd, 1) := by decide +kernel
theorem dX6_shows_67 : decode cX6_shows 67 = .ok (.iaload, 1) := by decide +kernel
theorem dX6_shows_68 : decode cX6_shows 68 = .ok (.ireturn, 1) := by decide +kernel
theorem dX6_makes_0 : decode cX6_makes 0 = .ok (.iconst 0, 1) := by decide +kernel
theorem dX6_makes_1 : decode cX6_makes 1 = .ok (.istore_n 2, 1) := by decide +kernel
theorem dX6_makes_2 : decode cX6_makes 2 = .ok (.iload_n 2, 1) := by decide +kernel
theorem dX6_makes_3 : decode cX6_makes 3 = .ok (.bipush 12, 2) := by decide +kernel
theorem dX6_makes_5 : decode cX6_makes 5 = .ok (.if_icmp .ge 24, 3) := by decide +kernel
theorem dX6_makes_8 : decode cX6_makes 8 = .ok (.aload_n 0, 1) := by decide +kernel
theorem dX6_makes_9 : decode cX6_makes 9 = .ok (.getfield 38, 3) := by decide +kernel
theorem dX6_makes_12 : decode cX6_makes 12 = .ok (.bipush 12, 2) := by decide +kernel
theorem dX6_makes_14 : decode cX6_makes 14 = .ok (.aload_n 0, 1) := by decide +kernel
theorem dX6_makes_15 : decode cX6_makes 15 = .ok (.getfield 102, 3) := by decide +kernel
theorem dX6_makes_18 : decode cX6_makes 18 = .ok (.imul, 1) := by decide +kernel
theorem dX6_makes_19 : decode cX6_makes 19 = .ok (.iload_n 2, 1) := by decide +kernel
theorem dX6_makes_20 : decode cX6_makes 20 = .ok (.iadd, 1) := by decide +kernel
theorem dX6_makes_21 : decode cX6_makes 21 = .ok (.iconst (-1), 1) := by decide +kernel
theorem dX6_makes_22 : decode cX6_makes 22 = .ok (.iastore, 1) := by decide +kernel
theorem dX6_makes_23 : decode cX6_makes 23 = .ok (.iinc 2 1, 3) := by decide +kernel
theorem dX6_makes_26 : decode cX6_makes 26 = .ok (.goto (-24), 3) := by decide +kernel
theorem dX6_makes_29 : decode cX6_makes 29 = .ok (.iconst 0, 1) := by decide +kernel
theorem dX6_makes_30 : decode cX6_makes 30 = .ok (.istore_n 2, 1) := by decide +kernel
theorem dX6_makes_31 : decode cX6_makes 31 = .ok (.iload_n 2, 1) := by decide +kernel
theorem dX6_makes_32 : decode cX6_makes 32 = .ok (.iconst 4, 1) := by decide +kernel
theorem dX6_makes_33 : decode cX6_makes 33 = .ok (.if_icmp .ge 41, 3) := by decide +kernel
theorem dX6_makes_36 : decode cX6_makes 36 = .ok (.aload_n 0, 1) := by decide +kernel
theorem dX6_makes_37 : decode cX6_makes 37 = .ok (.getfield 41, 3) := by decide +kernel
theorem dX6_makes_40 : decode cX6_makes 40 = .ok (.iconst 4, 1) := by decide +kernel
theorem dX6_makes_41 : decode cX6_makes 41 = .ok (.aload_n 0, 1) := by decide +kernel
theorem dX6_makes_42 : decode cX6_makes 42 = .ok (.getfield 102, 3) := by decide +kernel
theorem dX6_makes_45 : decode cX6_makes 45 = .ok (.imul, 1) := by decide +kernel
theorem dX6_makes_46 : decode cX6_makes 46 = .ok (.iload_n 2, 1) := by decide +kernel
theorem dX6_makes_47 : decode cX6_makes 47 = .ok (.iadd, 1) := by decide +kernel
theorem dX6_makes_48 : decode cX6_makes 48 = .ok (.iload_n 1, 1) := by decide +kernel
theorem dX6_makes_49 : decode cX6_makes 49 = .ok (.iconst (-1), 1) := by decide +kernel
theorem dX6_makes_50 : decode cX6_makes 50 = .ok (.if_icmp .ne 7, 3) := by decide +kernel
theorem dX6_makes_53 : decode cX6_makes 53 = .ok (.iconst 0, 1) := by decide +kernel
theorem dX6_makes_54 : decode cX6_makes 54 = .ok (.goto 13, 3) := by decide +kernel
theorem dX6_makes_57 : decode cX6_makes 57 = .ok (.aload_n 0, 1) := by decide +kernel
theorem dX6_makes_58 : decode cX6_makes 58 = .ok (.getfield 41, 3) := by decide +kernel
theorem dX6_makes_61 : decode cX6_makes 61 = .ok (.iconst 4, 1) := by decide +kernel
theorem dX6_makes_62 : decode cX6_makes 62 = .ok (.iload_n 1, 1) := by decide +kernel
theorem dX6_makes_63 : decode cX6_makes 63 = .ok (.imul, 1) := by decide +kernel
theorem dX6_makes_64 : decode cX6_makes 64 = .ok (.iload_n 2, 1) := by decide +kernel
theorem dX6_makes_65 : decode cX6_makes 65 = .ok (.iadd, 1) := by decide +kernel
theorem dX6_makes_66 : decode cX6_makes 66 = .ok (.iaload, 1) := by decide +kernel
theorem dX6_makes_67 : decode cX6_makes 67 = .ok (.iastore, 1) := by decide +kernel
theorem dX6_makes_68 : decode cX6_makes 68 = .ok (.iinc 2 1, 3) := by decide +kernel
theorem dX6_makes_71 : decode cX6_makes 71 = .ok (.goto (-40), 3) := by decide +kernel
theorem dX6_makes_74 : decode cX6_makes 74 = .ok (.aload_n 0, 1) := by decide +kernel
theorem dX6_makes_75 : decode cX6_makes 75 = .ok (.getfield 35, 3) := by decide +kernel
theorem dX6_makes_78 : decode cX6_makes 78 = .ok (.aload_n 0, 1) := by decide +kernel
theorem dX6_makes_79 : decode cX6_makes 79 = .ok (.getfield 102, 3) := by decide +kernel
theorem dX6_makes_82 : decode cX6_makes 82 = .ok (.iload_n 1, 1) := by decide +kernel
theorem dX6_makes_83 : decode cX6_makes 83 = .ok (.iastore, 1) := by decide +kernel
theorem dX6_makes_84 : decode cX6_makes 84 = .ok (.aload_n 0, 1) := by decide +kernel
theorem dX6_makes_85 : decode cX6_makes 85 = .ok (.getfield 31, 3) := by decide +kernel
theorem dX6_makes_88 : decode cX6_makes 88 = .ok (.aload_n 0, 1) := by decide +kernel
theorem dX6_makes_89 : decode cX6_makes 89 = .ok (.getfield 102, 3) := by decide +kernel
theorem dX6_makes_92 : decode cX6_makes 92 = .ok (.iconst 0, 1) := by decide +kernel
theorem dX6_makes_93 : decode cX6_makes 93 = .ok (.bastore, 1) := by decide +kernel
theorem dX6_makes_94 : decode cX6_makes 94 = .ok (.aload_n 0, 1) := by decide +kernel
theorem dX6_makes_95 : decode cX6_makes 95 = .ok (.getfield 44, 3) := by decide +kernel
theorem dX6_makes_98 : decode cX6_makes 98 = .ok (.aload_n 0, 1) := by decide +kernel
theorem dX6_makes_99 : decode cX6_makes 99 = .ok (.getfield 102, 3) := by decide +kernel
theorem dX6_makes_102 : decode cX6_makes 102 = .ok (.iconst (-1), 1) := by decide +kernel
theorem dX6_makes_103 : decode cX6_makes 103 = .ok (.iastore, 1) := by decide +kernel
theorem dX6_makes_104 : decode cX6_makes 104 = .ok (.aload_n 0, 1) := by decide +kernel
theorem dX6_makes_105 : decode cX6_makes 105 = .ok (.dup, 1) := by decide +kernel
theorem dX6_makes_106 : decode cX6_makes 106 = .ok (.getfield 102, 3) := by decide +kernel
theorem dX6_makes_109 : decode cX6_makes 109 = .ok (.iconst 1, 1) := by decide +kernel
theorem dX6_makes_110 : decode cX6_makes 110 = .ok (.iadd, 1) := by decide +kernel
theorem dX6_makes_111 : decode cX6_makes 111 = .ok (.putfield 102, 3) := by decide +kernel
theorem dX6_makes_114 : decode cX6_makes 114 = .ok (.aload_n 0, 1) := by decide +kernel
theorem dX6_makes_115 : decode cX6_makes 115 = .ok (.getfield 102, 3) := by decide +kernel
theorem dX6_makes_118 : decode cX6_makes 118 = .ok (.iconst 1, 1) := by decide +kernel
theorem dX6_makes_119 : decode cX6_makes 119 = .ok (.isub, 1) := by decide +kernel
theorem dX6_makes_120 : decode cX6_makes 120 = .ok (.ireturn, 1) := by decide +kernel
set_option maxRecDepth 20000 in
set_option maxRecDepth 20000 in
theorem dX6_root_0 : decode cX6_root 0 = .ok (.iconst (-1), 1) := by decide +kernel
theorem dX6_root_1 : decode cX6_root 1 = .ok (.istore_n 2, 1) := by decide +kernel
theorem dX6_root_2 : decode cX6_root 2 = .ok (.aload_n 0, 1) := by decide +kernel
theorem dX6_root_3 : decode cX6_root 3 = .ok (.getfield 102, 3) := by decide +kernel
theorem dX6_root_6 : decode cX6_root 6 = .ok (.iconst 1, 1) := by decide +kernel
theorem dX6_root_7 : decode cX6_root 7 = .ok (.isub, 1) := by decide +kernel
theorem dX6_root_8 : decode cX6_root 8 = .ok (.istore_n 3, 1) := by decide +kernel
theorem dX6_root_9 : decode cX6_root 9 = .ok (.iload_n 3, 1) := by decide +kernel
theorem dX6_root_10 : decode cX6_root 10 = .ok (.ifCond .lt 101, 3) := by decide +kernel
theorem dX6_root_13 : decode cX6_root 13 = .ok (.aload_n 0, 1) := by decide +kernel
theorem dX6_root_14 : decode cX6_root 14 = .ok (.getfield 31, 3) := by decide +kernel
theorem dX6_root_17 : decode cX6_root 17 = .ok (.iload_n 3, 1) := by decide +kernel
theorem dX6_root_18 : decode cX6_root 18 = .ok (.baload, 1) := by decide +kernel
theorem dX6_root_19 : decode cX6_root 19 = .ok (.ifCond .ne 17, 3) := by decide +kernel
theorem dX6_root_22 : decode cX6_root 22 = .ok (.aload_n 0, 1) := by decide +kernel
theorem dX6_root_23 : decode cX6_root 23 = .ok (.getfield 35, 3) := by decide +kernel
theorem dX6_root_26 : decode cX6_root 26 = .ok (.iload_n 3, 1) := by decide +kernel
theorem dX6_root_27 : decode cX6_root 27 = .ok (.iaload, 1) := by decide +kernel
theorem dX6_root_28 : decode cX6_root 28 = .ok (.iconst (-1), 1) := by decide +kernel
theorem dX6_root_29 : decode cX6_root 29 = .ok (.if_icmp .ne 7, 3) := by decide +kernel
theorem dX6_root_32 : decode cX6_root 32 = .ok (.iconst 1, 1) := by decide +kernel
theorem dX6_root_33 : decode cX6_root 33 = .ok (.goto 4, 3) := by decide +kernel
theorem dX6_root_36 : decode cX6_root 36 = .ok (.iconst 0, 1) := by decide +kernel
theorem dX6_root_37 : decode cX6_root 37 = .ok (.istore 4, 2) := by decide +kernel
theorem dX6_root_39 : decode cX6_root 39 = .ok (.iconst 0, 1) := by decide +kernel
theorem dX6_root_40 : decode cX6_root 40 = .ok (.istore 5, 2) := by decide +kernel
theorem dX6_root_42 : decode cX6_root 42 = .ok (.iload 5, 2) := by decide +kernel
theorem dX6_root_44 : decode cX6_root 44 = .ok (.bipush 12, 2) := by decide +kernel
theorem dX6_root_46 : decode cX6_root 46 = .ok (.if_icmp .ge 48, 3) := by decide +kernel
theorem dX6_root_49 : decode cX6_root 49 = .ok (.iload 4, 2) := by decide +kernel
theorem dX6_root_51 : decode cX6_root 51 = .ok (.ifCond .eq 34, 3) := by decide +kernel
theorem dX6_root_54 : decode cX6_root 54 = .ok (.aload_n 0, 1) := by decide +kernel
theorem dX6_root_55 : decode cX6_root 55 = .ok (.getfield 38, 3) := by decide +kernel
theorem dX6_root_58 : decode cX6_root 58 = .ok (.bipush 12, 2) := by decide +kernel
theorem dX6_root_60 : decode cX6_root 60 = .ok (.iload_n 3, 1) := by decide +kernel
theorem dX6_root_61 : decode cX6_root 61 = .ok (.imul, 1) := by decide +kernel
theorem dX6_root_62 : decode cX6_root 62 = .ok (.iload 5, 2) := by decide +kernel
theorem dX6_root_64 : decode cX6_root 64 = .ok (.iadd, 1) := by decide +kernel
theorem dX6_root_65 : decode cX6_root 65 = .ok (.iaload, 1) := by decide +kernel
theorem dX6_root_66 : decode cX6_root 66 = .ok (.aload_n 0, 1) := by decide +kernel
theorem dX6_root_67 : decode cX6_root 67 = .ok (.getfield 13, 3) := by decide +kernel
theorem dX6_root_70 : decode cX6_root 70 = .ok (.bipush 12, 2) := by decide +kernel
theorem dX6_root_72 : decode cX6_root 72 = .ok (.iload_n 1, 1) := by decide +kernel
theorem dX6_root_73 : decode cX6_root 73 = .ok (.imul, 1) := by decide +kernel
theorem dX6_root_74 : decode cX6_root 74 = .ok (.iload 5, 2) := by decide +kernel
theorem dX6_root_76 : decode cX6_root 76 = .ok (.iadd, 1) := by decide +kernel
theorem dX6_root_77 : decode cX6_root 77 = .ok (.iaload, 1) := by decide +kernel
theorem dX6_root_78 : decode cX6_root 78 = .ok (.if_icmp .ne 7, 3) := by decide +kernel
theorem dX6_root_81 : decode cX6_root 81 = .ok (.iconst 1, 1) := by decide +kernel
theorem dX6_root_82 : decode cX6_root 82 = .ok (.goto 4, 3) := by decide +kernel
theorem dX6_root_85 : decode cX6_root 85 = .ok (.iconst 0, 1) := by decide +kernel
theorem dX6_root_86 : decode cX6_root 86 = .ok (.istore 4, 2) := by decide +kernel
theorem dX6_root_88 : decode cX6_root 88 = .ok (.iinc 5 1, 3) := by decide +kernel
theorem dX6_root_91 : decode cX6_root 91 = .ok (.goto (-49), 3) := by decide +kernel
theorem dX6_root_94 : decode cX6_root 94 = .ok (.iload 4, 2) := by decide +kernel
theorem dX6_root_96 : decode cX6_root 96 = .ok (.ifCond .eq 7, 3) := by decide +kernel
theorem dX6_root_99 : decode cX6_root 99 = .ok (.iload_n 3, 1) := by decide +kernel
theorem dX6_root_100 : decode cX6_root 100 = .ok (.goto 4, 3) := by decide +kernel
theorem dX6_root_103 : decode cX6_root 103 = .ok (.iload_n 2, 1) := by decide +kernel
theorem dX6_root_104 : decode cX6_root 104 = .ok (.istore_n 2, 1) := by decide +kernel
theorem dX6_root_105 : decode cX6_root 105 = .ok (.iinc 3 (-1), 3) := by decide +kernel
theorem dX6_root_108 : decode cX6_root 108 = .ok (.goto (-99), 3) := by decide +kernel
theorem dX6_root_111 : decode cX6_root 111 = .ok (.iload_n 2, 1) := by decide +kernel
theorem dX6_root_112 : decode cX6_root 112 = .ok (.iconst (-1), 1) := by decide +kernel
theorem dX6_root_113 : decode cX6_root 113 = .ok (.if_icmp .ne 45, 3) := by decide +kernel
theorem dX6_root_116 : decode cX6_root 116 = .ok (.aload_n 0, 1) := by decide +kernel
theorem dX6_root_117 : decode cX6_root 117 = .ok (.iconst (-1), 1) := by decide +kernel
theorem dX6_root_118 : decode cX6_root 118 = .ok (.invokevirtual 105, 3) := by decide +kernel
theorem dX6_root_121 : decode cX6_root 121 = .ok (.istore_n 2, 1) := by decide +kernel
theorem dX6_root_122 : decode cX6_root 122 = .ok (.iconst 0, 1) := by decide +kernel
theorem dX6_root_123 : decode cX6_root 123 = .ok (.istore_n 3, 1) := by decide +kernel
theorem dX6_root_124 : decode cX6_root 124 = .ok (.iload_n 3, 1) := by decide +kernel
theorem dX6_root_125 : decode cX6_root 125 = .ok (.bipush 12, 2) := by decide +kernel
theorem dX6_root_127 : decode cX6_root 127 = .ok (.if_icmp .ge 31, 3) := by decide +kernel
theorem dX6_root_130 : decode cX6_root 130 = .ok (.aload_n 0, 1) := by decide +kernel
theorem dX6_root_131 : decode cX6_root 131 = .ok (.getfield 38, 3) := by decide +kernel
theorem dX6_root_134 : decode cX6_root 134 = .ok (.bipush 12, 2) := by decide +kernel
theorem dX6_root_136 : decode cX6_root 136 = .ok (.iload_n 2, 1) := by decide +kernel
theorem dX6_root_137 : decode cX6_root 137 = .ok (.imul, 1) := by decide +kernel
theorem dX6_root_138 : decode cX6_root 138 = .ok (.iload_n 3, 1) := by decide +kernel
theorem dX6_root_139 : decode cX6_root 139 = .ok (.iadd, 1) := by decide +kernel
theorem dX6_root_140 : decode cX6_root 140 = .ok (.aload_n 0, 1) := by decide +kernel
theorem dX6_root_141 : decode cX6_root 141 = .ok (.getfield 13, 3) := by decide +kernel
theorem dX6_root_144 : decode cX6_root 144 = .ok (.bipush 12, 2) := by decide +kernel
theorem dX6_root_146 : decode cX6_root 146 = .ok (.iload_n 1, 1) := by decide +kernel
theorem dX6_root_147 : decode cX6_root 147 = .ok (.imul, 1) := by decide +kernel
theorem dX6_root_148 : decode cX6_root 148 = .ok (.iload_n 3, 1) := by decide +kernel
theorem dX6_root_149 : decode cX6_root 149 = .ok (.iadd, 1) := by decide +kernel
theorem dX6_root_150 : decode cX6_root 150 = .ok (.iaload, 1) := by decide +kernel
theorem dX6_root_151 : decode cX6_root 151 = .ok (.iastore, 1) := by decide +kernel
theorem dX6_root_152 : decode cX6_root 152 = .ok (.iinc 3 1, 3) := by decide +kernel
theorem dX6_root_155 : decode cX6_root 155 = .ok (.goto (-31), 3) := by decide +kernel
theorem dX6_root_158 : decode cX6_root 158 = .ok (.iload_n 2, 1) := by decide +kernel
theorem dX6_root_159 : decode cX6_root 159 = .ok (.ireturn, 1) := by decide +kernel
set_option maxRecDepth 20000 in
set_option maxRecDepth 20000 in
theorem dX6_begins_0 : decode cX6_begins 0 = .ok (.aload_n 0, 1) := by decide +kernel
theorem dX6_begins_1 : decode cX6_begins 1 = .ok (.aload_n 0, 1) := by decide +kernel
theorem dX6_begins_2 : decode cX6_begins 2 = .ok (.aload_n 0, 1) := by decide +kernel
theorem dX6_begins_3 : decode cX6_begins 3 = .ok (.getfield 16, 3) := by decide +kernel
theorem dX6_begins_6 : decode cX6_begins 6 = .ok (.iload_n 1, 1) := by decide +kernel
theorem dX6_begins_7 : decode cX6_begins 7 = .ok (.iaload, 1) := by decide +kernel
theorem dX6_begins_8 : decode cX6_begins 8 = .ok (.invokevirtual 109, 3) := by decide +kernel
theorem dX6_begins_11 : decode cX6_begins 11 = .ok (.putfield 68, 3) := by decide +kernel
theorem dX6_begins_14 : decode cX6_begins 14 = .ok (.aload_n 0, 1) := by decide +kernel
theorem dX6_begins_15 : decode cX6_begins 15 = .ok (.aload_n 0, 1) := by decide +kernel
theorem dX6_begins_16 : decode cX6_begins 16 = .ok (.getfield 19, 3) := by decide +kernel
theorem dX6_begins_19 : decode cX6_begins 19 = .ok (.iload_n 1, 1) := by decide +kernel
theorem dX6_begins_20 : decode cX6_begins 20 = .ok (.iaload, 1) := by decide +kernel
theorem dX6_begins_21 : decode cX6_begins 21 = .ok (.putfield 112, 3) := by decide +kernel
theorem dX6_begins_24 : decode cX6_begins 24 = .ok (.aload_n 0, 1) := by decide +kernel
theorem dX6_begins_25 : decode cX6_begins 25 = .ok (.iconst 0, 1) := by decide +kernel
theorem dX6_begins_26 : decode cX6_begins 26 = .ok (.putfield 115, 3) := by decide +kernel
theorem dX6_begins_29 : decode cX6_begins 29 = .ok (.iconst 0, 1) := by decide +kernel
theorem dX6_begins_30 : decode cX6_begins 30 = .ok (.istore_n 2, 1) := by decide +kernel
theorem dX6_begins_31 : decode cX6_begins 31 = .ok (.iload_n 2, 1) := by decide +kernel
theorem dX6_begins_32 : decode cX6_begins 32 = .ok (.aload_n 0, 1) := by decide +kernel
theorem dX6_begins_33 : decode cX6_begins 33 = .ok (.getfield 112, 3) := by decide +kernel
theorem dX6_begins_36 : decode cX6_begins 36 = .ok (.if_icmp .ge 60, 3) := by decide +kernel
theorem dX6_begins_39 : decode cX6_begins 39 = .ok (.aload_n 0, 1) := by decide +kernel
theorem dX6_begins_40 : decode cX6_begins 40 = .ok (.getfield 59, 3) := by decide +kernel
theorem dX6_begins_43 : decode cX6_begins 43 = .ok (.iload_n 2, 1) := by decide +kernel
theorem dX6_begins_44 : decode cX6_begins 44 = .ok (.aload_n 0, 1) := by decide +kernel
theorem dX6_begins_45 : decode cX6_begins 45 = .ok (.getfield 22, 3) := by decide +kernel
theorem dX6_begins_48 : decode cX6_begins 48 = .ok (.bipush 10, 2) := by decide +kernel
theorem dX6_begins_50 : decode cX6_begins 50 = .ok (.iload_n 1, 1) := by decide +kernel
theorem dX6_begins_51 : decode cX6_begins 51 = .ok (.imul, 1) := by decide +kernel
theorem dX6_begins_52 : decode cX6_begins 52 = .ok (.iload_n 2, 1) := by decide +kernel
theorem dX6_begins_53 : decode cX6_begins 53 = .ok (.iadd, 1) := by decide +kernel
theorem dX6_begins_54 : decode cX6_begins 54 = .ok (.iaload, 1) := by decide +kernel
theorem dX6_begins_55 : decode cX6_begins 55 = .ok (.iastore, 1) := by decide +kernel
theorem dX6_begins_56 : decode cX6_begins 56 = .ok (.aload_n 0, 1) := by decide +kernel
theorem dX6_begins_57 : decode cX6_begins 57 = .ok (.getfield 62, 3) := by decide +kernel
theorem dX6_begins_60 : decode cX6_begins 60 = .ok (.iload_n 2, 1) := by decide +kernel
theorem dX6_begins_61 : decode cX6_begins 61 = .ok (.aload_n 0, 1) := by decide +kernel
theorem dX6_begins_62 : decode cX6_begins 62 = .ok (.getfield 25, 3) := by decide +kernel
theorem dX6_begins_65 : decode cX6_begins 65 = .ok (.bipush 10, 2) := by decide +kernel
theorem dX6_begins_67 : decode cX6_begins 67 = .ok (.iload_n 1, 1) := by decide +kernel
theorem dX6_begins_68 : decode cX6_begins 68 = .ok (.imul, 1) := by decide +kernel
theorem dX6_begins_69 : decode cX6_begins 69 = .ok (.iload_n 2, 1) := by decide +kernel
theorem dX6_begins_70 : decode cX6_begins 70 = .ok (.iadd, 1) := by decide +kernel
theorem dX6_begins_71 : decode cX6_begins 71 = .ok (.iaload, 1) := by decide +kernel
theorem dX6_begins_72 : decode cX6_begins 72 = .ok (.iastore, 1) := by decide +kernel
theorem dX6_begins_73 : decode cX6_begins 73 = .ok (.aload_n 0, 1) := by decide +kernel
theorem dX6_begins_74 : decode cX6_begins 74 = .ok (.getfield 65, 3) := by decide +kernel
theorem dX6_begins_77 : decode cX6_begins 77 = .ok (.iload_n 2, 1) := by decide +kernel
theorem dX6_begins_78 : decode cX6_begins 78 = .ok (.aload_n 0, 1) := by decide +kernel
theorem dX6_begins_79 : decode cX6_begins 79 = .ok (.getfield 28, 3) := by decide +kernel
theorem dX6_begins_82 : decode cX6_begins 82 = .ok (.bipush 10, 2) := by decide +kernel
theorem dX6_begins_84 : decode cX6_begins 84 = .ok (.iload_n 1, 1) := by decide +kernel
theorem dX6_begins_85 : decode cX6_begins 85 = .ok (.imul, 1) := by decide +kernel
theorem dX6_begins_86 : decode cX6_begins 86 = .ok (.iload_n 2, 1) := by decide +kernel
theorem dX6_begins_87 : decode cX6_begins 87 = .ok (.iadd, 1) := by decide +kernel
theorem dX6_begins_88 : decode cX6_begins 88 = .ok (.iaload, 1) := by decide +kernel
theorem dX6_begins_89 : decode cX6_begins 89 = .ok (.iastore, 1) := by decide +kernel
theorem dX6_begins_90 : decode cX6_begins 90 = .ok (.iinc 2 1, 3) := by decide +kernel
theorem dX6_begins_93 : decode cX6_begins 93 = .ok (.goto (-62), 3) := by decide +kernel
theorem dX6_begins_96 : decode cX6_begins 96 = .ok (.aload_n 0, 1) := by decide +kernel
theorem dX6_begins_97 : decode cX6_begins 97 = .ok (.aload_n 0, 1) := by decide +kernel
theorem dX6_begins_98 : decode cX6_begins 98 = .ok (.getfield 112, 3) := by decide +kernel
theorem dX6_begins_101 : decode cX6_begins 101 = .ok (.ifCond .le 7, 3) := by decide +kernel
theorem dX6_begins_104 : decode cX6_begins 104 = .ok (.iconst 1, 1) := by decide +kernel
theorem dX6_begins_105 : decode cX6_begins 105 = .ok (.goto 4, 3) := by decide +kernel
theorem dX6_begins_108 : decode cX6_begins 108 = .ok (.iconst 0, 1) := by decide +kernel
theorem dX6_begins_109 : decode cX6_begins 109 = .ok (.putfield 118, 3) := by decide +kernel
theorem dX6_begins_112 : decode cX6_begins 112 = .ok (.aload_n 0, 1) := by decide +kernel
theorem dX6_begins_113 : decode cX6_begins 113 = .ok (.aload_n 0, 1) := by decide +kernel
theorem dX6_begins_114 : decode cX6_begins 114 = .ok (.getfield 112, 3) := by decide +kernel
theorem dX6_begins_117 : decode cX6_begins 117 = .ok (.ifCond .ne 7, 3) := by decide +kernel
theorem dX6_begins_120 : decode cX6_begins 120 = .ok (.iconst 1, 1) := by decide +kernel
theorem dX6_begins_121 : decode cX6_begins 121 = .ok (.goto 4, 3) := by decide +kernel
theorem dX6_begins_124 : decode cX6_begins 124 = .ok (.iconst 0, 1) := by decide +kernel
theorem dX6_begins_125 : decode cX6_begins 125 = .ok (.putfield 122, 3) := by decide +kernel
theorem dX6_begins_128 : decode cX6_begins 128 = .ok (.return_, 1) := by decide +kernel
set_option maxRecDepth 20000 in
set_option maxRecDepth 20000 in
set_option maxRecDepth 20000 in
set_option maxRecDepth 20000 in
set_option maxRecDepth 20000 in
set_option maxRecDepth 20000 in
theorem dX6_start_0 : decode cX6_start 0 = .ok (.aload_n 0, 1) := by decide +kernel
theorem dX6_start_1 : decode cX6_start 1 = .ok (.iload_n 1, 1) := by decide +kernel
theorem dX6_start_2 : decode cX6_start 2 = .ok (.iconst 4, 1) := by decide +kernel
theorem dX6_start_3 : decode cX6_start 3 = .ok (.invokestatic 87, 3) := by decide +kernel
theorem dX6_start_6 : decode cX6_start 6 = .ok (.ifCond .ne 7, 3) := by decide +kernel
theorem dX6_start_9 : decode cX6_start 9 = .ok (.iconst 1, 1) := by decide +kernel
theorem dX6_start_10 : decode cX6_start 10 = .ok (.goto 25, 3) := by decide +kernel
theorem dX6_start_13 : decode cX6_start 13 = .ok (.aload_n 0, 1) := by decide +kernel
theorem dX6_start_14 : decode cX6_start 14 = .ok (.getfield 118, 3) := by decide +kernel
theorem dX6_start_17 : decode cX6_start 17 = .ok (.ifCond .ne 13, 3) := by decide +kernel
theorem dX6_start_20 : decode cX6_start 20 = .ok (.aload_n 0, 1) := by decide +kernel
theorem dX6_start_21 : decode cX6_start 21 = .ok (.getfield 102, 3) := by decide +kernel
theorem dX6_start_24 : decode cX6_start 24 = .ok (.sipush 400, 3) := by decide +kernel
theorem dX6_start_27 : decode cX6_start 27 = .ok (.if_icmp .lt 7, 3) := by decide +kernel
theorem dX6_start_30 : decode cX6_start 30 = .ok (.iconst 2, 1) := by decide +kernel
theorem dX6_start_31 : decode cX6_start 31 = .ok (.goto 4, 3) := by decide +kernel
theorem dX6_start_34 : decode cX6_start 34 = .ok (.iconst 0, 1) := by decide +kernel
theorem dX6_start_35 : decode cX6_start 35 = .ok (.invokevirtual 95, 3) := by decide +kernel
theorem dX6_start_38 : decode cX6_start 38 = .ok (.ifCond .eq 5, 3) := by decide +kernel
theorem dX6_start_41 : decode cX6_start 41 = .ok (.iconst 0, 1) := by decide +kernel
theorem dX6_start_42 : decode cX6_start 42 = .ok (.ireturn, 1) := by decide +kernel
theorem dX6_start_43 : decode cX6_start 43 = .ok (.aload_n 0, 1) := by decide +kernel
theorem dX6_start_44 : decode cX6_start 44 = .ok (.iload_n 1, 1) := by decide +kernel
theorem dX6_start_45 : decode cX6_start 45 = .ok (.invokevirtual 125, 3) := by decide +kernel
theorem dX6_start_48 : decode cX6_start 48 = .ok (.aload_n 0, 1) := by decide +kernel
theorem dX6_start_49 : decode cX6_start 49 = .ok (.getfield 68, 3) := by decide +kernel
theorem dX6_start_52 : decode cX6_start 52 = .ok (.ireturn, 1) := by decide +kernel
set_option maxRecDepth 20000 in
set_option maxRecDepth 20000 in
theorem dX6_canStep_0 : decode cX6_canStep 0 = .ok (.iload_n 1, 1) := by decide +kernel
theorem dX6_canStep_1 : decode cX6_canStep 1 = .ok (.ifCond .ne 21, 3) := by decide +kernel
theorem dX6_canStep_4 : decode cX6_canStep 4 = .ok (.aload_n 0, 1) := by decide +kernel
theorem dX6_canStep_5 : decode cX6_canStep 5 = .ok (.getfield 7, 3) := by decide +kernel
theorem dX6_canStep_8 : decode cX6_canStep 8 = .ok (.iload_n 2, 1) := by decide +kernel
theorem dX6_canStep_9 : decode cX6_canStep 9 = .ok (.iaload, 1) := by decide +kernel
theorem dX6_canStep_10 : decode cX6_canStep 10 = .ok (.iconst (-1), 1) := by decide +kernel
theorem dX6_canStep_11 : decode cX6_canStep 11 = .ok (.if_icmp .eq 7, 3) := by decide +kernel
theorem dX6_canStep_14 : decode cX6_canStep 14 = .ok (.iconst 1, 1) := by decide +kernel
theorem dX6_canStep_15 : decode cX6_canStep 15 = .ok (.goto 39, 3) := by decide +kernel
theorem dX6_canStep_18 : decode cX6_canStep 18 = .ok (.iconst 0, 1) := by decide +kernel
theorem dX6_canStep_19 : decode cX6_canStep 19 = .ok (.goto 35, 3) := by decide +kernel
theorem dX6_canStep_22 : decode cX6_canStep 22 = .ok (.iload_n 1, 1) := by decide +kernel
theorem dX6_canStep_23 : decode cX6_canStep 23 = .ok (.iconst 2, 1) := by decide +kernel
theorem dX6_canStep_24 : decode cX6_canStep 24 = .ok (.if_icmp .eq 8, 3) := by decide +kernel
theorem dX6_canStep_27 : decode cX6_canStep 27 = .ok (.iload_n 1, 1) := by decide +kernel
theorem dX6_canStep_28 : decode cX6_canStep 28 = .ok (.iconst 3, 1) := by decide +kernel
theorem dX6_canStep_29 : decode cX6_canStep 29 = .ok (.if_icmp .ne 24, 3) := by decide +kernel
theorem dX6_canStep_32 : decode cX6_canStep 32 = .ok (.aload_n 0, 1) := by decide +kernel
theorem dX6_canStep_33 : decode cX6_canStep 33 = .ok (.aload_n 0, 1) := by decide +kernel
theorem dX6_canStep_34 : decode cX6_canStep 34 = .ok (.getfield 68, 3) := by decide +kernel
theorem dX6_canStep_37 : decode cX6_canStep 37 = .ok (.iload_n 2, 1) := by decide +kernel
theorem dX6_canStep_38 : decode cX6_canStep 38 = .ok (.invokevirtual 129, 3) := by decide +kernel
theorem dX6_canStep_41 : decode cX6_canStep 41 = .ok (.iconst (-1), 1) := by decide +kernel
theorem dX6_canStep_42 : decode cX6_canStep 42 = .ok (.if_icmp .eq 7, 3) := by decide +kernel
theorem dX6_canStep_45 : decode cX6_canStep 45 = .ok (.iconst 1, 1) := by decide +kernel
theorem dX6_canStep_46 : decode cX6_canStep 46 = .ok (.goto 8, 3) := by decide +kernel
theorem dX6_canStep_49 : decode cX6_canStep 49 = .ok (.iconst 0, 1) := by decide +kernel
theorem dX6_canStep_50 : decode cX6_canStep 50 = .ok (.goto 4, 3) := by decide +kernel
theorem dX6_canStep_53 : decode cX6_canStep 53 = .ok (.iconst 1, 1) := by decide +kernel
theorem dX6_canStep_54 : decode cX6_canStep 54 = .ok (.ireturn, 1) := by decide +kernel
theorem dX6_cached_0 : decode cX6_cached 0 = .ok (.iconst (-1), 1) := by decide +kernel
theorem dX6_cached_1 : decode cX6_cached 1 = .ok (.istore 5, 2) := by decide +kernel
theorem dX6_cached_3 : decode cX6_cached 3 = .ok (.aload_n 0, 1) := by decide +kernel
theorem dX6_cached_4 : decode cX6_cached 4 = .ok (.getfield 102, 3) := by decide +kernel
theorem dX6_cached_7 : decode cX6_cached 7 = .ok (.iconst 1, 1) := by decide +kernel
theorem dX6_cached_8 : decode cX6_cached 8 = .ok (.isub, 1) := by decide +kernel
theorem dX6_cached_9 : decode cX6_cached 9 = .ok (.istore 6, 2) := by decide +kernel
theorem dX6_cached_11 : decode cX6_cached 11 = .ok (.iload 6, 2) := by decide +kernel
theorem dX6_cached_13 : decode cX6_cached 13 = .ok (.ifCond .lt 99, 3) := by decide +kernel
theorem dX6_cached_16 : decode cX6_cached 16 = .ok (.aload_n 0, 1) := by decide +kernel
theorem dX6_cached_17 : decode cX6_cached 17 = .ok (.getfield 31, 3) := by decide +kernel
theorem dX6_cached_20 : decode cX6_cached 20 = .ok (.iload 6, 2) := by decide +kernel
theorem dX6_cached_22 : decode cX6_cached 22 = .ok (.baload, 1) := by decide +kernel
theorem dX6_cached_23 : decode cX6_cached 23 = .ok (.ifCond .ne 66, 3) := by decide +kernel
theorem dX6_cached_26 : decode cX6_cached 26 = .ok (.aload_n 0, 1) := by decide +kernel
theorem dX6_cached_27 : decode cX6_cached 27 = .ok (.getfield 44, 3) := by decide +kernel
theorem dX6_cached_30 : decode cX6_cached 30 = .ok (.iload 6, 2) := by decide +kernel
theorem dX6_cached_32 : decode cX6_cached 32 = .ok (.iaload, 1) := by decide +kernel
theorem dX6_cached_33 : decode cX6_cached 33 = .ok (.iload_n 1, 1) := by decide +kernel
theorem dX6_cached_34 : decode cX6_cached 34 = .ok (.if_icmp .ne 55, 3) := by decide +kernel
theorem dX6_cached_37 : decode cX6_cached 37 = .ok (.aload_n 0, 1) := by decide +kernel
theorem dX6_cached_38 : decode cX6_cached 38 = .ok (.getfield 35, 3) := by decide +kernel
theorem dX6_cached_41 : decode cX6_cached 41 = .ok (.iload 6, 2) := by decide +kernel
theorem dX6_cached_43 : decode cX6_cached 43 = .ok (.iaload, 1) := by decide +kernel
theorem dX6_cached_44 : decode cX6_cached 44 = .ok (.aload_n 0, 1) := by decide +kernel
theorem dX6_cached_45 : decode cX6_cached 45 = .ok (.getfield 68, 3) := by decide +kernel
theorem dX6_cached_48 : decode cX6_cached 48 = .ok (.if_icmp .ne 41, 3) := by decide +kernel
theorem dX6_cached_51 : decode cX6_cached 51 = .ok (.aload_n 0, 1) := by decide +kernel
theorem dX6_cached_52 : decode cX6_cached 52 = .ok (.getfield 47, 3) := by decide +kernel
theorem dX6_cached_55 : decode cX6_cached 55 = .ok (.iload 6, 2) := by decide +kernel
theorem dX6_cached_57 : decode cX6_cached 57 = .ok (.iaload, 1) := by decide +kernel
theorem dX6_cached_58 : decode cX6_cached 58 = .ok (.iload_n 2, 1) := by decide +kernel
theorem dX6_cached_59 : decode cX6_cached 59 = .ok (.if_icmp .ne 30, 3) := by decide +kernel
theorem dX6_cached_62 : decode cX6_cached 62 = .ok (.aload_n 0, 1) := by decide +kernel
theorem dX6_cached_63 : decode cX6_cached 63 = .ok (.getfield 50, 3) := by decide +kernel
theorem dX6_cached_66 : decode cX6_cached 66 = .ok (.iload 6, 2) := by decide +kernel
theorem dX6_cached_68 : decode cX6_cached 68 = .ok (.iaload, 1) := by decide +kernel
theorem dX6_cached_69 : decode cX6_cached 69 = .ok (.iload_n 3, 1) := by decide +kernel
theorem dX6_cached_70 : decode cX6_cached 70 = .ok (.if_icmp .ne 19, 3) := by decide +kernel
theorem dX6_cached_73 : decode cX6_cached 73 = .ok (.aload_n 0, 1) := by decide +kernel
theorem dX6_cached_74 : decode cX6_cached 74 = .ok (.getfield 53, 3) := by decide +kernel
theorem dX6_cached_77 : decode cX6_cached 77 = .ok (.iload 6, 2) := by decide +kernel
theorem dX6_cached_79 : decode cX6_cached 79 = .ok (.iaload, 1) := by decide +kernel
theorem dX6_cached_80 : decode cX6_cached 80 = .ok (.iload 4, 2) := by decide +kernel
theorem dX6_cached_82 : decode cX6_cached 82 = .ok (.if_icmp .ne 7, 3) := by decide +kernel
theorem dX6_cached_85 : decode cX6_cached 85 = .ok (.iconst 1, 1) := by decide +kernel
theorem dX6_cached_86 : decode cX6_cached 86 = .ok (.goto 4, 3) := by decide +kernel
theorem dX6_cached_89 : decode cX6_cached 89 = .ok (.iconst 0, 1) := by decide +kernel
theorem dX6_cached_90 : decode cX6_cached 90 = .ok (.istore 7, 2) := by decide +kernel
theorem dX6_cached_92 : decode cX6_cached 92 = .ok (.iload 7, 2) := by decide +kernel
theorem dX6_cached_94 : decode cX6_cached 94 = .ok (.ifCond .eq 8, 3) := by decide +kernel
theorem dX6_cached_97 : decode cX6_cached 97 = .ok (.iload 6, 2) := by decide +kernel
theorem dX6_cached_99 : decode cX6_cached 99 = .ok (.goto 5, 3) := by decide +kernel
theorem dX6_cached_102 : decode cX6_cached 102 = .ok (.iload 5, 2) := by decide +kernel
theorem dX6_cached_104 : decode cX6_cached 104 = .ok (.istore 5, 2) := by decide +kernel
theorem dX6_cached_106 : decode cX6_cached 106 = .ok (.iinc 6 (-1), 3) := by decide +kernel
theorem dX6_cached_109 : decode cX6_cached 109 = .ok (.goto (-98), 3) := by decide +kernel
theorem dX6_cached_112 : decode cX6_cached 112 = .ok (.iload 5, 2) := by decide +kernel
theorem dX6_cached_114 : decode cX6_cached 114 = .ok (.ireturn, 1) := by decide +kernel
set_option maxRecDepth 20000 in
set_option maxRecDepth 20000 in
set_option maxRecDepth 20000 in
set_option maxRecDepth 20000 in
theorem dX6_layerFor_0 : decode cX6_layerFor 0 = .ok (.aload_n 0, 1) := by decide +kernel
theorem dX6_layerFor_1 : decode cX6_layerFor 1 = .ok (.aload_n 0, 1) := by decide +kernel
theorem dX6_layerFor_2 : decode cX6_layerFor 2 = .ok (.getfield 68, 3) := by decide +kernel
theorem dX6_layerFor_5 : decode cX6_layerFor 5 = .ok (.invokevirtual 105, 3) := by decide +kernel
theorem dX6_layerFor_8 : decode cX6_layerFor 8 = .ok (.istore 5, 2) := by decide +kernel
theorem dX6_layerFor_10 : decode cX6_layerFor 10 = .ok (.aload_n 0, 1) := by decide +kernel
theorem dX6_layerFor_11 : decode cX6_layerFor 11 = .ok (.getfield 44, 3) := by decide +kernel
theorem dX6_layerFor_14 : decode cX6_layerFor 14 = .ok (.iload 5, 2) := by decide +kernel
theorem dX6_layerFor_16 : decode cX6_layerFor 16 = .ok (.iload_n 1, 1) := by decide +kernel
theorem dX6_layerFor_17 : decode cX6_layerFor 17 = .ok (.iastore, 1) := by decide +kernel
theorem dX6_layerFor_18 : decode cX6_layerFor 18 = .ok (.aload_n 0, 1) := by decide +kernel
theorem dX6_layerFor_19 : decode cX6_layerFor 19 = .ok (.getfield 47, 3) := by decide +kernel
theorem dX6_layerFor_22 : decode cX6_layerFor 22 = .ok (.iload 5, 2) := by decide +kernel
theorem dX6_layerFor_24 : decode cX6_layerFor 24 = .ok (.iload_n 2, 1) := by decide +kernel
theorem dX6_layerFor_25 : decode cX6_layerFor 25 = .ok (.iastore, 1) := by decide +kernel
theorem dX6_layerFor_26 : decode cX6_layerFor 26 = .ok (.aload_n 0, 1) := by decide +kernel
theorem dX6_layerFor_27 : decode cX6_layerFor 27 = .ok (.getfield 50, 3) := by decide +kernel
theorem dX6_layerFor_30 : decode cX6_layerFor 30 = .ok (.iload 5, 2) := by decide +kernel
theorem dX6_layerFor_32 : decode cX6_layerFor 32 = .ok (.iload_n 3, 1) := by decide +kernel
theorem dX6_layerFor_33 : decode cX6_layerFor 33 = .ok (.iastore, 1) := by decide +kernel
theorem dX6_layerFor_34 : decode cX6_layerFor 34 = .ok (.aload_n 0, 1) := by decide +kernel
theorem dX6_layerFor_35 : decode cX6_layerFor 35 = .ok (.getfield 53, 3) := by decide +kernel
theorem dX6_layerFor_38 : decode cX6_layerFor 38 = .ok (.iload 5, 2) := by decide +kernel
theorem dX6_layerFor_40 : decode cX6_layerFor 40 = .ok (.iload 4, 2) := by decide +kernel
theorem dX6_layerFor_42 : decode cX6_layerFor 42 = .ok (.iastore, 1) := by decide +kernel
theorem dX6_layerFor_43 : decode cX6_layerFor 43 = .ok (.bipush 12, 2) := by decide +kernel
theorem dX6_layerFor_45 : decode cX6_layerFor 45 = .ok (.iload 5, 2) := by decide +kernel
theorem dX6_layerFor_47 : decode cX6_layerFor 47 = .ok (.imul, 1) := by decide +kernel
theorem dX6_layerFor_48 : decode cX6_layerFor 48 = .ok (.istore 6, 2) := by decide +kernel
theorem dX6_layerFor_50 : decode cX6_layerFor 50 = .ok (.iload_n 1, 1) := by decide +kernel
theorem dX6_layerFor_51 : decode cX6_layerFor 51 = .ok (.tableswitch 147 0 3 #[29, 43, 101, 133], 29) := by decide +kernel
theorem dX6_layerFor_80 : decode cX6_layerFor 80 = .ok (.aload_n 0, 1) := by decide +kernel
theorem dX6_layerFor_81 : decode cX6_layerFor 81 = .ok (.getfield 38, 3) := by decide +kernel
theorem dX6_layerFor_84 : decode cX6_layerFor 84 = .ok (.iload 6, 2) := by decide +kernel
theorem dX6_layerFor_86 : decode cX6_layerFor 86 = .ok (.iload_n 3, 1) := by decide +kernel
theorem dX6_layerFor_87 : decode cX6_layerFor 87 = .ok (.iadd, 1) := by decide +kernel
theorem dX6_layerFor_88 : decode cX6_layerFor 88 = .ok (.iload 4, 2) := by decide +kernel
theorem dX6_layerFor_90 : decode cX6_layerFor 90 = .ok (.iastore, 1) := by decide +kernel
theorem dX6_layerFor_91 : decode cX6_layerFor 91 = .ok (.goto 119, 3) := by decide +kernel
theorem dX6_layerFor_94 : decode cX6_layerFor 94 = .ok (.aload_n 0, 1) := by decide +kernel
theorem dX6_layerFor_95 : decode cX6_layerFor 95 = .ok (.aload_n 0, 1) := by decide +kernel
theorem dX6_layerFor_96 : decode cX6_layerFor 96 = .ok (.getfield 68, 3) := by decide +kernel
theorem dX6_layerFor_99 : decode cX6_layerFor 99 = .ok (.iload_n 2, 1) := by decide +kernel
theorem dX6_layerFor_100 : decode cX6_layerFor 100 = .ok (.invokevirtual 129, 3) := by decide +kernel
theorem dX6_layerFor_103 : decode cX6_layerFor 103 = .ok (.istore 7, 2) := by decide +kernel
theorem dX6_layerFor_105 : decode cX6_layerFor 105 = .ok (.aload_n 0, 1) := by decide +kernel
theorem dX6_layerFor_106 : decode cX6_layerFor 106 = .ok (.getfield 38, 3) := by decide +kernel
theorem dX6_layerFor_109 : decode cX6_layerFor 109 = .ok (.iload 6, 2) := by decide +kernel
theorem dX6_layerFor_111 : decode cX6_layerFor 111 = .ok (.iload_n 2, 1) := by decide +kernel
theorem dX6_layerFor_112 : decode cX6_layerFor 112 = .ok (.iadd, 1) := by decide +kernel
theorem dX6_layerFor_113 : decode cX6_layerFor 113 = .ok (.bipush 31, 2) := by decide +kernel
theorem dX6_layerFor_115 : decode cX6_layerFor 115 = .ok (.iload 7, 2) := by decide +kernel
theorem dX6_layerFor_117 : decode cX6_layerFor 117 = .ok (.iconst (-1), 1) := by decide +kernel
theorem dX6_layerFor_118 : decode cX6_layerFor 118 = .ok (.if_icmp .ne 7, 3) := by decide +kernel
theorem dX6_layerFor_121 : decode cX6_layerFor 121 = .ok (.iconst 0, 1) := by decide +kernel
theorem dX6_layerFor_122 : decode cX6_layerFor 122 = .ok (.goto 5, 3) := by decide +kernel
theorem dX6_layerFor_125 : decode cX6_layerFor 125 = .ok (.iload 7, 2) := by decide +kernel
theorem dX6_layerFor_127 : decode cX6_layerFor 127 = .ok (.imul, 1) := by decide +kernel
theorem dX6_layerFor_128 : decode cX6_layerFor 128 = .ok (.aload_n 0, 1) := by decide +kernel
theorem dX6_layerFor_129 : decode cX6_layerFor 129 = .ok (.getfield 41, 3) := by decide +kernel
theorem dX6_layerFor_132 : decode cX6_layerFor 132 = .ok (.iconst 4, 1) := by decide +kernel
theorem dX6_layerFor_133 : decode cX6_layerFor 133 = .ok (.aload_n 0, 1) := by decide +kernel
theorem dX6_layerFor_134 : decode cX6_layerFor 134 = .ok (.getfield 68, 3) := by decide +kernel
theorem dX6_layerFor_137 : decode cX6_layerFor 137 = .ok (.imul, 1) := by decide +kernel
theorem dX6_layerFor_138 : decode cX6_layerFor 138 = .ok (.iload_n 3, 1) := by decide +kernel
theorem dX6_layerFor_139 : decode cX6_layerFor 139 = .ok (.iadd, 1) := by decide +kernel
theorem dX6_layerFor_140 : decode cX6_layerFor 140 = .ok (.iaload, 1) := by decide +kernel
theorem dX6_layerFor_141 : decode cX6_layerFor 141 = .ok (.iadd, 1) := by decide +kernel
theorem dX6_layerFor_142 : decode cX6_layerFor 142 = .ok (.iconst 1, 1) := by decide +kernel
theorem dX6_layerFor_143 : decode cX6_layerFor 143 = .ok (.iadd, 1) := by decide +kernel
theorem dX6_layerFor_144 : decode cX6_layerFor 144 = .ok (.sipush 10007, 3) := by decide +kernel
theorem dX6_layerFor_147 : decode cX6_layerFor 147 = .ok (.irem, 1) := by decide +kernel
theorem dX6_layerFor_148 : decode cX6_layerFor 148 = .ok (.iastore, 1) := by decide +kernel
theorem dX6_layerFor_149 : decode cX6_layerFor 149 = .ok (.goto 61, 3) := by decide +kernel
theorem dX6_layerFor_152 : decode cX6_layerFor 152 = .ok (.aload_n 0, 1) := by decide +kernel
theorem dX6_layerFor_153 : decode cX6_layerFor 153 = .ok (.getfield 38, 3) := by decide +kernel
theorem dX6_layerFor_156 : decode cX6_layerFor 156 = .ok (.iload 6, 2) := by decide +kernel
theorem dX6_layerFor_158 : decode cX6_layerFor 158 = .ok (.iload_n 3, 1) := by decide +kernel
theorem dX6_layerFor_159 : decode cX6_layerFor 159 = .ok (.iadd, 1) := by decide +kernel
theorem dX6_layerFor_160 : decode cX6_layerFor 160 = .ok (.aload_n 0, 1) := by decide +kernel
theorem dX6_layerFor_161 : decode cX6_layerFor 161 = .ok (.aload_n 0, 1) := by decide +kernel
theorem dX6_layerFor_162 : decode cX6_layerFor 162 = .ok (.getfield 68, 3) := by decide +kernel
theorem dX6_layerFor_165 : decode cX6_layerFor 165 = .ok (.iload_n 2, 1) := by decide +kernel
theorem dX6_layerFor_166 : decode cX6_layerFor 166 = .ok (.invokevirtual 129, 3) := by decide +kernel
theorem dX6_layerFor_169 : decode cX6_layerFor 169 = .ok (.iastore, 1) := by decide +kernel
theorem dX6_layerFor_170 : decode cX6_layerFor 170 = .ok (.aload_n 0, 1) := by decide +kernel
theorem dX6_layerFor_171 : decode cX6_layerFor 171 = .ok (.getfield 38, 3) := by decide +kernel
theorem dX6_layerFor_174 : decode cX6_layerFor 174 = .ok (.iload 6, 2) := by decide +kernel
theorem dX6_layerFor_176 : decode cX6_layerFor 176 = .ok (.iload_n 2, 1) := by decide +kernel
theorem dX6_layerFor_177 : decode cX6_layerFor 177 = .ok (.iadd, 1) := by decide +kernel
theorem dX6_layerFor_178 : decode cX6_layerFor 178 = .ok (.bipush (-2), 2) := by decide +kernel
theorem dX6_layerFor_180 : decode cX6_layerFor 180 = .ok (.iastore, 1) := by decide +kernel
theorem dX6_layerFor_181 : decode cX6_layerFor 181 = .ok (.goto 29, 3) := by decide +kernel
theorem dX6_layerFor_184 : decode cX6_layerFor 184 = .ok (.aload_n 0, 1) := by decide +kernel
theorem dX6_layerFor_185 : decode cX6_layerFor 185 = .ok (.getfield 38, 3) := by decide +kernel
theorem dX6_layerFor_188 : decode cX6_layerFor 188 = .ok (.iload 6, 2) := by decide +kernel
theorem dX6_layerFor_190 : decode cX6_layerFor 190 = .ok (.iload_n 2, 1) := by decide +kernel
theorem dX6_layerFor_191 : decode cX6_layerFor 191 = .ok (.iadd, 1) := by decide +kernel
theorem dX6_layerFor_192 : decode cX6_layerFor 192 = .ok (.bipush (-2), 2) := by decide +kernel
theorem dX6_layerFor_194 : decode cX6_layerFor 194 = .ok (.iastore, 1) := by decide +kernel
theorem dX6_layerFor_195 : decode cX6_layerFor 195 = .ok (.goto 15, 3) := by decide +kernel
theorem dX6_layerFor_198 : decode cX6_layerFor 198 = .ok (.aload_n 0, 1) := by decide +kernel
theorem dX6_layerFor_199 : decode cX6_layerFor 199 = .ok (.getfield 41, 3) := by decide +kernel
theorem dX6_layerFor_202 : decode cX6_layerFor 202 = .ok (.iconst 4, 1) := by decide +kernel
theorem dX6_layerFor_203 : decode cX6_layerFor 203 = .ok (.iload 5, 2) := by decide +kernel
theorem dX6_layerFor_205 : decode cX6_layerFor 205 = .ok (.imul, 1) := by decide +kernel
theorem dX6_layerFor_206 : decode cX6_layerFor 206 = .ok (.iload_n 2, 1) := by decide +kernel
theorem dX6_layerFor_207 : decode cX6_layerFor 207 = .ok (.iadd, 1) := by decide +kernel
theorem dX6_layerFor_208 : decode cX6_layerFor 208 = .ok (.iload_n 3, 1) := by decide +kernel
theorem dX6_layerFor_209 : decode cX6_layerFor 209 = .ok (.iastore, 1) := by decide +kernel
theorem dX6_layerFor_210 : decode cX6_layerFor 210 = .ok (.iload 5, 2) := by decide +kernel
theorem dX6_layerFor_212 : decode cX6_layerFor 212 = .ok (.ireturn, 1) := by decide +kernel
set_option maxRecDepth 20000 in
set_option maxRecDepth 20000 in
set_option maxRecDepth 20000 in
set_option maxRecDepth 20000 in
set_option maxRecDepth 20000 in
set_option maxRecDepth 20000 in
theorem dX6_goes_0 : decode cX6_goes 0 = .ok (.aload_n 0, 1) := by decide +kernel
theorem dX6_goes_1 : decode cX6_goes 1 = .ok (.getfield 59, 3) := by decide +kernel
theorem dX6_goes_4 : decode cX6_goes 4 = .ok (.aload_n 0, 1) := by decide +kernel
theorem dX6_goes_5 : decode cX6_goes 5 = .ok (.getfield 115, 3) := by decide +kernel
theorem dX6_goes_8 : decode cX6_goes 8 = .ok (.iaload, 1) := by decide +kernel
theorem dX6_goes_9 : decode cX6_goes 9 = .ok (.istore_n 1, 1) := by decide +kernel
theorem dX6_goes_10 : decode cX6_goes 10 = .ok (.aload_n 0, 1) := by decide +kernel
theorem dX6_goes_11 : decode cX6_goes 11 = .ok (.getfield 62, 3) := by decide +kernel
theorem dX6_goes_14 : decode cX6_goes 14 = .ok (.aload_n 0, 1) := by decide +kernel
theorem dX6_goes_15 : decode cX6_goes 15 = .ok (.getfield 115, 3) := by decide +kernel
theorem dX6_goes_18 : decode cX6_goes 18 = .ok (.iaload, 1) := by decide +kernel
theorem dX6_goes_19 : decode cX6_goes 19 = .ok (.istore_n 2, 1) := by decide +kernel
theorem dX6_goes_20 : decode cX6_goes 20 = .ok (.aload_n 0, 1) := by decide +kernel
theorem dX6_goes_21 : decode cX6_goes 21 = .ok (.getfield 65, 3) := by decide +kernel
theorem dX6_goes_24 : decode cX6_goes 24 = .ok (.aload_n 0, 1) := by decide +kernel
theorem dX6_goes_25 : decode cX6_goes 25 = .ok (.getfield 115, 3) := by decide +kernel
theorem dX6_goes_28 : decode cX6_goes 28 = .ok (.iaload, 1) := by decide +kernel
theorem dX6_goes_29 : decode cX6_goes 29 = .ok (.istore_n 3, 1) := by decide +kernel
theorem dX6_goes_30 : decode cX6_goes 30 = .ok (.aload_n 0, 1) := by decide +kernel
theorem dX6_goes_31 : decode cX6_goes 31 = .ok (.iload_n 1, 1) := by decide +kernel
theorem dX6_goes_32 : decode cX6_goes 32 = .ok (.iload_n 2, 1) := by decide +kernel
theorem dX6_goes_33 : decode cX6_goes 33 = .ok (.invokevirtual 133, 3) := by decide +kernel
theorem dX6_goes_36 : decode cX6_goes 36 = .ok (.ifCond .ne 15, 3) := by decide +kernel
theorem dX6_goes_39 : decode cX6_goes 39 = .ok (.aload_n 0, 1) := by decide +kernel
theorem dX6_goes_40 : decode cX6_goes 40 = .ok (.iconst 0, 1) := by decide +kernel
theorem dX6_goes_41 : decode cX6_goes 41 = .ok (.putfield 118, 3) := by decide +kernel
theorem dX6_goes_44 : decode cX6_goes 44 = .ok (.aload_n 0, 1) := by decide +kernel
theorem dX6_goes_45 : decode cX6_goes 45 = .ok (.iconst 0, 1) := by decide +kernel
theorem dX6_goes_46 : decode cX6_goes 46 = .ok (.putfield 122, 3) := by decide +kernel
theorem dX6_goes_49 : decode cX6_goes 49 = .ok (.iconst (-1), 1) := by decide +kernel
theorem dX6_goes_50 : decode cX6_goes 50 = .ok (.ireturn, 1) := by decide +kernel
theorem dX6_goes_51 : decode cX6_goes 51 = .ok (.iload_n 1, 1) := by decide +kernel
theorem dX6_goes_52 : decode cX6_goes 52 = .ok (.ifCond .ne 12, 3) := by decide +kernel
theorem dX6_goes_55 : decode cX6_goes 55 = .ok (.aload_n 0, 1) := by decide +kernel
theorem dX6_goes_56 : decode cX6_goes 56 = .ok (.getfield 7, 3) := by decide +kernel
theorem dX6_goes_59 : decode cX6_goes 59 = .ok (.iload_n 2, 1) := by decide +kernel
theorem dX6_goes_60 : decode cX6_goes 60 = .ok (.iaload, 1) := by decide +kernel
theorem dX6_goes_61 : decode cX6_goes 61 = .ok (.goto 4, 3) := by decide +kernel
theorem dX6_goes_64 : decode cX6_goes 64 = .ok (.iconst 0, 1) := by decide +kernel
theorem dX6_goes_65 : decode cX6_goes 65 = .ok (.istore 4, 2) := by decide +kernel
theorem dX6_goes_67 : decode cX6_goes 67 = .ok (.aload_n 0, 1) := by decide +kernel
theorem dX6_goes_68 : decode cX6_goes 68 = .ok (.iload_n 1, 1) := by decide +kernel
theorem dX6_goes_69 : decode cX6_goes 69 = .ok (.iload_n 2, 1) := by decide +kernel
theorem dX6_goes_70 : decode cX6_goes 70 = .ok (.iload_n 3, 1) := by decide +kernel
theorem dX6_goes_71 : decode cX6_goes 71 = .ok (.iload 4, 2) := by decide +kernel
theorem dX6_goes_73 : decode cX6_goes 73 = .ok (.invokevirtual 136, 3) := by decide +kernel
theorem dX6_goes_76 : decode cX6_goes 76 = .ok (.istore 5, 2) := by decide +kernel
theorem dX6_goes_78 : decode cX6_goes 78 = .ok (.aload_n 0, 1) := by decide +kernel
theorem dX6_goes_79 : decode cX6_goes 79 = .ok (.dup, 1) := by decide +kernel
theorem dX6_goes_80 : decode cX6_goes 80 = .ok (.getfield 140, 3) := by decide +kernel
theorem dX6_goes_83 : decode cX6_goes 83 = .ok (.iload 5, 2) := by decide +kernel
theorem dX6_goes_85 : decode cX6_goes 85 = .ok (.iconst (-1), 1) := by decide +kernel
theorem dX6_goes_86 : decode cX6_goes 86 = .ok (.if_icmp .ne 7, 3) := by decide +kernel
theorem dX6_goes_89 : decode cX6_goes 89 = .ok (.iconst 0, 1) := by decide +kernel
theorem dX6_goes_90 : decode cX6_goes 90 = .ok (.goto 4, 3) := by decide +kernel
theorem dX6_goes_93 : decode cX6_goes 93 = .ok (.iconst 1, 1) := by decide +kernel
theorem dX6_goes_94 : decode cX6_goes 94 = .ok (.iadd, 1) := by decide +kernel
theorem dX6_goes_95 : decode cX6_goes 95 = .ok (.putfield 140, 3) := by decide +kernel
theorem dX6_goes_98 : decode cX6_goes 98 = .ok (.aload_n 0, 1) := by decide +kernel
theorem dX6_goes_99 : decode cX6_goes 99 = .ok (.dup, 1) := by decide +kernel
theorem dX6_goes_100 : decode cX6_goes 100 = .ok (.getfield 143, 3) := by decide +kernel
theorem dX6_goes_103 : decode cX6_goes 103 = .ok (.iload 5, 2) := by decide +kernel
theorem dX6_goes_105 : decode cX6_goes 105 = .ok (.iconst (-1), 1) := by decide +kernel
theorem dX6_goes_106 : decode cX6_goes 106 = .ok (.if_icmp .ne 7, 3) := by decide +kernel
theorem dX6_goes_109 : decode cX6_goes 109 = .ok (.iconst 1, 1) := by decide +kernel
theorem dX6_goes_110 : decode cX6_goes 110 = .ok (.goto 4, 3) := by decide +kernel
theorem dX6_goes_113 : decode cX6_goes 113 = .ok (.iconst 0, 1) := by decide +kernel
theorem dX6_goes_114 : decode cX6_goes 114 = .ok (.iadd, 1) := by decide +kernel
theorem dX6_goes_115 : decode cX6_goes 115 = .ok (.putfield 143, 3) := by decide +kernel
theorem dX6_goes_118 : decode cX6_goes 118 = .ok (.aload_n 0, 1) := by decide +kernel
theorem dX6_goes_119 : decode cX6_goes 119 = .ok (.iload 5, 2) := by decide +kernel
theorem dX6_goes_121 : decode cX6_goes 121 = .ok (.iconst (-1), 1) := by decide +kernel
theorem dX6_goes_122 : decode cX6_goes 122 = .ok (.if_icmp .ne 15, 3) := by decide +kernel
theorem dX6_goes_125 : decode cX6_goes 125 = .ok (.aload_n 0, 1) := by decide +kernel
theorem dX6_goes_126 : decode cX6_goes 126 = .ok (.iload_n 1, 1) := by decide +kernel
theorem dX6_goes_127 : decode cX6_goes 127 = .ok (.iload_n 2, 1) := by decide +kernel
theorem dX6_goes_128 : decode cX6_goes 128 = .ok (.iload_n 3, 1) := by decide +kernel
theorem dX6_goes_129 : decode cX6_goes 129 = .ok (.iload 4, 2) := by decide +kernel
theorem dX6_goes_131 : decode cX6_goes 131 = .ok (.invokevirtual 146, 3) := by decide +kernel
theorem dX6_goes_134 : decode cX6_goes 134 = .ok (.goto 5, 3) := by decide +kernel
theorem dX6_goes_137 : decode cX6_goes 137 = .ok (.iload 5, 2) := by decide +kernel
theorem dX6_goes_139 : decode cX6_goes 139 = .ok (.putfield 68, 3) := by decide +kernel
theorem dX6_goes_142 : decode cX6_goes 142 = .ok (.aload_n 0, 1) := by decide +kernel
theorem dX6_goes_143 : decode cX6_goes 143 = .ok (.dup, 1) := by decide +kernel
theorem dX6_goes_144 : decode cX6_goes 144 = .ok (.getfield 115, 3) := by decide +kernel
theorem dX6_goes_147 : decode cX6_goes 147 = .ok (.iconst 1, 1) := by decide +kernel
theorem dX6_goes_148 : decode cX6_goes 148 = .ok (.iadd, 1) := by decide +kernel
theorem dX6_goes_149 : decode cX6_goes 149 = .ok (.putfield 115, 3) := by decide +kernel
theorem dX6_goes_152 : decode cX6_goes 152 = .ok (.aload_n 0, 1) := by decide +kernel
theorem dX6_goes_153 : decode cX6_goes 153 = .ok (.aload_n 0, 1) := by decide +kernel
theorem dX6_goes_154 : decode cX6_goes 154 = .ok (.getfield 115, 3) := by decide +kernel
theorem dX6_goes_157 : decode cX6_goes 157 = .ok (.aload_n 0, 1) := by decide +kernel
theorem dX6_goes_158 : decode cX6_goes 158 = .ok (.getfield 112, 3) := by decide +kernel
theorem dX6_goes_161 : decode cX6_goes 161 = .ok (.if_icmp .ne 7, 3) := by decide +kernel
theorem dX6_goes_164 : decode cX6_goes 164 = .ok (.iconst 1, 1) := by decide +kernel
theorem dX6_goes_165 : decode cX6_goes 165 = .ok (.goto 4, 3) := by decide +kernel
theorem dX6_goes_168 : decode cX6_goes 168 = .ok (.iconst 0, 1) := by decide +kernel
theorem dX6_goes_169 : decode cX6_goes 169 = .ok (.putfield 122, 3) := by decide +kernel
theorem dX6_goes_172 : decode cX6_goes 172 = .ok (.aload_n 0, 1) := by decide +kernel
theorem dX6_goes_173 : decode cX6_goes 173 = .ok (.aload_n 0, 1) := by decide +kernel
theorem dX6_goes_174 : decode cX6_goes 174 = .ok (.getfield 122, 3) := by decide +kernel
theorem dX6_goes_177 : decode cX6_goes 177 = .ok (.ifCond .ne 7, 3) := by decide +kernel
theorem dX6_goes_180 : decode cX6_goes 180 = .ok (.iconst 1, 1) := by decide +kernel
theorem dX6_goes_181 : decode cX6_goes 181 = .ok (.goto 4, 3) := by decide +kernel
theorem dX6_goes_184 : decode cX6_goes 184 = .ok (.iconst 0, 1) := by decide +kernel
theorem dX6_goes_185 : decode cX6_goes 185 = .ok (.putfield 118, 3) := by decide +kernel
theorem dX6_goes_188 : decode cX6_goes 188 = .ok (.aload_n 0, 1) := by decide +kernel
theorem dX6_goes_189 : decode cX6_goes 189 = .ok (.getfield 68, 3) := by decide +kernel
theorem dX6_goes_192 : decode cX6_goes 192 = .ok (.ireturn, 1) := by decide +kernel
set_option maxRecDepth 20000 in
set_option maxRecDepth 20000 in
set_option maxRecDepth 20000 in
set_option maxRecDepth 20000 in
theorem dX6_step_0 : decode cX6_step 0 = .ok (.aload_n 0, 1) := by decide +kernel
theorem dX6_step_1 : decode cX6_step 1 = .ok (.aload_n 0, 1) := by decide +kernel
theorem dX6_step_2 : decode cX6_step 2 = .ok (.getfield 118, 3) := by decide +kernel
theorem dX6_step_5 : decode cX6_step 5 = .ok (.ifCond .eq 7, 3) := by decide +kernel
theorem dX6_step_8 : decode cX6_step 8 = .ok (.iconst 0, 1) := by decide +kernel
theorem dX6_step_9 : decode cX6_step 9 = .ok (.goto 4, 3) := by decide +kernel
theorem dX6_step_12 : decode cX6_step 12 = .ok (.iconst 1, 1) := by decide +kernel
theorem dX6_step_13 : decode cX6_step 13 = .ok (.invokevirtual 95, 3) := by decide +kernel
theorem dX6_step_16 : decode cX6_step 16 = .ok (.ifCond .eq 7, 3) := by decide +kernel
theorem dX6_step_19 : decode cX6_step 19 = .ok (.iconst 0, 1) := by decide +kernel
theorem dX6_step_20 : decode cX6_step 20 = .ok (.goto 7, 3) := by decide +kernel
theorem dX6_step_23 : decode cX6_step 23 = .ok (.aload_n 0, 1) := by decide +kernel
theorem dX6_step_24 : decode cX6_step 24 = .ok (.invokevirtual 149, 3) := by decide +kernel
theorem dX6_step_27 : decode cX6_step 27 = .ok (.ireturn, 1) := by decide +kernel
set_option maxRecDepth 20000 in
set_option maxRecDepth 20000 in
set_option maxRecDepth 20000 in
set_option maxRecDepth 20000 in
set_option maxRecDepth 20000 in
set_option maxRecDepth 20000 in
set_option maxRecDepth 20000 in
set_option maxRecDepth 20000 in
theorem dX6_build_0 : decode cX6_build 0 = .ok (.aload_n 0, 1) := by decide +kernel
theorem dX6_build_1 : decode cX6_build 1 = .ok (.iload_n 1, 1) := by decide +kernel
theorem dX6_build_2 : decode cX6_build 2 = .ok (.iconst 4, 1) := by decide +kernel
theorem dX6_build_3 : decode cX6_build 3 = .ok (.invokestatic 87, 3) := by decide +kernel
theorem dX6_build_6 : decode cX6_build 6 = .ok (.ifCond .ne 7, 3) := by decide +kernel
theorem dX6_build_9 : decode cX6_build 9 = .ok (.iconst 1, 1) := by decide +kernel
theorem dX6_build_10 : decode cX6_build 10 = .ok (.goto 25, 3) := by decide +kernel
theorem dX6_build_13 : decode cX6_build 13 = .ok (.aload_n 0, 1) := by decide +kernel
theorem dX6_build_14 : decode cX6_build 14 = .ok (.getfield 118, 3) := by decide +kernel
theorem dX6_build_17 : decode cX6_build 17 = .ok (.ifCond .ne 13, 3) := by decide +kernel
theorem dX6_build_20 : decode cX6_build 20 = .ok (.aload_n 0, 1) := by decide +kernel
theorem dX6_build_21 : decode cX6_build 21 = .ok (.getfield 102, 3) := by decide +kernel
theorem dX6_build_24 : decode cX6_build 24 = .ok (.sipush 400, 3) := by decide +kernel
theorem dX6_build_27 : decode cX6_build 27 = .ok (.if_icmp .lt 7, 3) := by decide +kernel
theorem dX6_build_30 : decode cX6_build 30 = .ok (.iconst 2, 1) := by decide +kernel
theorem dX6_build_31 : decode cX6_build 31 = .ok (.goto 4, 3) := by decide +kernel
theorem dX6_build_34 : decode cX6_build 34 = .ok (.iconst 0, 1) := by decide +kernel
theorem dX6_build_35 : decode cX6_build 35 = .ok (.invokevirtual 95, 3) := by decide +kernel
theorem dX6_build_38 : decode cX6_build 38 = .ok (.ifCond .eq 5, 3) := by decide +kernel
theorem dX6_build_41 : decode cX6_build 41 = .ok (.iconst 0, 1) := by decide +kernel
theorem dX6_build_42 : decode cX6_build 42 = .ok (.ireturn, 1) := by decide +kernel
theorem dX6_build_43 : decode cX6_build 43 = .ok (.aload_n 0, 1) := by decide +kernel
theorem dX6_build_44 : decode cX6_build 44 = .ok (.iload_n 1, 1) := by decide +kernel
theorem dX6_build_45 : decode cX6_build 45 = .ok (.invokevirtual 125, 3) := by decide +kernel
theorem dX6_build_48 : decode cX6_build 48 = .ok (.aload_n 0, 1) := by decide +kernel
theorem dX6_build_49 : decode cX6_build 49 = .ok (.getfield 68, 3) := by decide +kernel
theorem dX6_build_52 : decode cX6_build 52 = .ok (.istore_n 2, 1) := by decide +kernel
theorem dX6_build_53 : decode cX6_build 53 = .ok (.aload_n 0, 1) := by decide +kernel
theorem dX6_build_54 : decode cX6_build 54 = .ok (.getfield 118, 3) := by decide +kernel
theorem dX6_build_57 : decode cX6_build 57 = .ok (.ifCond .eq 11, 3) := by decide +kernel
theorem dX6_build_60 : decode cX6_build 60 = .ok (.aload_n 0, 1) := by decide +kernel
theorem dX6_build_61 : decode cX6_build 61 = .ok (.invokevirtual 149, 3) := by decide +kernel
theorem dX6_build_64 : decode cX6_build 64 = .ok (.istore_n 2, 1) := by decide +kernel
theorem dX6_build_65 : decode cX6_build 65 = .ok (.goto (-12), 3) := by decide +kernel
theorem dX6_build_68 : decode cX6_build 68 = .ok (.iload_n 2, 1) := by decide +kernel
theorem dX6_build_69 : decode cX6_build 69 = .ok (.ireturn, 1) := by decide +kernel
set_option maxRecDepth 20000 in
set_option maxRecDepth 20000 in
theorem dX6_stepsLeft_0 : decode cX6_stepsLeft 0 = .ok (.aload_n 0, 1) := by decide +kernel
theorem dX6_stepsLeft_1 : decode cX6_stepsLeft 1 = .ok (.aload_n 0, 1) := by decide +kernel
theorem dX6_stepsLeft_2 : decode cX6_stepsLeft 2 = .ok (.getfield 118, 3) := by decide +kernel
theorem dX6_stepsLeft_5 : decode cX6_stepsLeft 5 = .ok (.ifCond .eq 15, 3) := by decide +kernel
theorem dX6_stepsLeft_8 : decode cX6_stepsLeft 8 = .ok (.aload_n 0, 1) := by decide +kernel
theorem dX6_stepsLeft_9 : decode cX6_stepsLeft 9 = .ok (.getfield 112, 3) := by decide +kernel
theorem dX6_stepsLeft_12 : decode cX6_stepsLeft 12 = .ok (.aload_n 0, 1) := by decide +kernel
theorem dX6_stepsLeft_13 : decode cX6_stepsLeft 13 = .ok (.getfield 115, 3) := by decide +kernel
theorem dX6_stepsLeft_16 : decode cX6_stepsLeft 16 = .ok (.isub, 1) := by decide +kernel
theorem dX6_stepsLeft_17 : decode cX6_stepsLeft 17 = .ok (.goto 4, 3) := by decide +kernel
theorem dX6_stepsLeft_20 : decode cX6_stepsLeft 20 = .ok (.iconst 0, 1) := by decide +kernel
theorem dX6_stepsLeft_21 : decode cX6_stepsLeft 21 = .ok (.invokevirtual 153, 3) := by decide +kernel
theorem dX6_stepsLeft_24 : decode cX6_stepsLeft 24 = .ok (.ireturn, 1) := by decide +kernel
theorem dX6_result_0 : decode cX6_result 0 = .ok (.aload_n 0, 1) := by decide +kernel
theorem dX6_result_1 : decode cX6_result 1 = .ok (.getfield 122, 3) := by decide +kernel
theorem dX6_result_4 : decode cX6_result 4 = .ok (.ifCond .eq 22, 3) := by decide +kernel
theorem dX6_result_7 : decode cX6_result 7 = .ok (.aload_n 0, 1) := by decide +kernel
theorem dX6_result_8 : decode cX6_result 8 = .ok (.getfield 31, 3) := by decide +kernel
theorem dX6_result_11 : decode cX6_result 11 = .ok (.aload_n 0, 1) := by decide +kernel
theorem dX6_result_12 : decode cX6_result 12 = .ok (.getfield 68, 3) := by decide +kernel
theorem dX6_result_15 : decode cX6_result 15 = .ok (.baload, 1) := by decide +kernel
theorem dX6_result_16 : decode cX6_result 16 = .ok (.ifCond .ne 10, 3) := by decide +kernel
theorem dX6_result_19 : decode cX6_result 19 = .ok (.aload_n 0, 1) := by decide +kernel
theorem dX6_result_20 : decode cX6_result 20 = .ok (.getfield 68, 3) := by decide +kernel
theorem dX6_result_23 : decode cX6_result 23 = .ok (.goto 4, 3) := by decide +kernel
theorem dX6_result_26 : decode cX6_result 26 = .ok (.iconst (-1), 1) := by decide +kernel
theorem dX6_result_27 : decode cX6_result 27 = .ok (.ireturn, 1) := by decide +kernel
set_option maxRecDepth 20000 in
set_option maxRecDepth 20000 in
set_option maxRecDepth 20000 in
set_option maxRecDepth 20000 in
theorem dX6_built_0 : decode cX6_built 0 = .ok (.aload_n 0, 1) := by decide +kernel
theorem dX6_built_1 : decode cX6_built 1 = .ok (.aload_n 0, 1) := by decide +kernel
theorem dX6_built_2 : decode cX6_built 2 = .ok (.invokevirtual 156, 3) := by decide +kernel
theorem dX6_built_5 : decode cX6_built 5 = .ok (.invokevirtual 153, 3) := by decide +kernel
theorem dX6_built_8 : decode cX6_built 8 = .ok (.ireturn, 1) := by decide +kernel
set_option maxRecDepth 20000 in
set_option maxRecDepth 20000 in
theorem dX6_hits_0 : decode cX6_hits 0 = .ok (.aload_n 0, 1) := by decide +kernel
theorem dX6_hits_1 : decode cX6_hits 1 = .ok (.aload_n 0, 1) := by decide +kernel
theorem dX6_hits_2 : decode cX6_hits 2 = .ok (.getfield 140, 3) := by decide +kernel
theorem dX6_hits_5 : decode cX6_hits 5 = .ok (.invokevirtual 153, 3) := by decide +kernel
theorem dX6_hits_8 : decode cX6_hits 8 = .ok (.ireturn, 1) := by decide +kernel
set_option maxRecDepth 20000 in
set_option maxRecDepth 20000 in
theorem dX6_misses_0 : decode cX6_misses 0 = .ok (.aload_n 0, 1) := by decide +kernel
theorem dX6_misses_1 : decode cX6_misses 1 = .ok (.aload_n 0, 1) := by decide +kernel
theorem dX6_misses_2 : decode cX6_misses 2 = .ok (.getfield 143, 3) := by decide +kernel
theorem dX6_misses_5 : decode cX6_misses 5 = .ok (.invokevirtual 153, 3) := by decide +kernel
theorem dX6_misses_8 : decode cX6_misses 8 = .ok (.ireturn, 1) := by decide +kernel
theorem dX6_cleans_0 : decode cX6_cleans 0 = .ok (.iload_n 1, 1) := by decide +kernel
theorem dX6_cleans_1 : decode cX6_cleans 1 = .ok (.ifCond .ne 13, 3) := by decide +kernel
theorem dX6_cleans_4 : decode cX6_cleans 4 = .ok (.aload_n 0, 1) := by decide +kernel
theorem dX6_cleans_5 : decode cX6_cleans 5 = .ok (.getfield 7, 3) := by decide +kernel
theorem dX6_cleans_8 : decode cX6_cleans 8 = .ok (.iload_n 2, 1) := by decide +kernel
theorem dX6_cleans_9 : decode cX6_cleans 9 = .ok (.iaload, 1) := by decide +kernel
theorem dX6_cleans_10 : decode cX6_cleans 10 = .ok (.iconst (-1), 1) := by decide +kernel
theorem dX6_cleans_11 : decode cX6_cleans 11 = .ok (.if_icmp .eq 23, 3) := by decide +kernel
theorem dX6_cleans_14 : decode cX6_cleans 14 = .ok (.iload_n 1, 1) := by decide +kernel
theorem dX6_cleans_15 : decode cX6_cleans 15 = .ok (.iconst 2, 1) := by decide +kernel
theorem dX6_cleans_16 : decode cX6_cleans 16 = .ok (.if_icmp .eq 8, 3) := by decide +kernel
theorem dX6_cleans_19 : decode cX6_cleans 19 = .ok (.iload_n 1, 1) := by decide +kernel
theorem dX6_cleans_20 : decode cX6_cleans 20 = .ok (.iconst 3, 1) := by decide +kernel
theorem dX6_cleans_21 : decode cX6_cleans 21 = .ok (.if_icmp .ne 15, 3) := by decide +kernel
theorem dX6_cleans_24 : decode cX6_cleans 24 = .ok (.aload_n 0, 1) := by decide +kernel
theorem dX6_cleans_25 : decode cX6_cleans 25 = .ok (.getfield 72, 3) := by decide +kernel
theorem dX6_cleans_28 : decode cX6_cleans 28 = .ok (.iload_n 2, 1) := by decide +kernel
theorem dX6_cleans_29 : decode cX6_cleans 29 = .ok (.iaload, 1) := by decide +kernel
theorem dX6_cleans_30 : decode cX6_cleans 30 = .ok (.iconst (-1), 1) := by decide +kernel
theorem dX6_cleans_31 : decode cX6_cleans 31 = .ok (.if_icmp .ne 5, 3) := by decide +kernel
theorem dX6_cleans_34 : decode cX6_cleans 34 = .ok (.iconst 0, 1) := by decide +kernel
theorem dX6_cleans_35 : decode cX6_cleans 35 = .ok (.ireturn, 1) := by decide +kernel
theorem dX6_cleans_36 : decode cX6_cleans 36 = .ok (.iload_n 1, 1) := by decide +kernel
theorem dX6_cleans_37 : decode cX6_cleans 37 = .ok (.ifCond .ne 18, 3) := by decide +kernel
theorem dX6_cleans_40 : decode cX6_cleans 40 = .ok (.aload_n 0, 1) := by decide +kernel
theorem dX6_cleans_41 : decode cX6_cleans 41 = .ok (.getfield 72, 3) := by decide +kernel
theorem dX6_cleans_44 : decode cX6_cleans 44 = .ok (.iload_n 3, 1) := by decide +kernel
theorem dX6_cleans_45 : decode cX6_cleans 45 = .ok (.aload_n 0, 1) := by decide +kernel
theorem dX6_cleans_46 : decode cX6_cleans 46 = .ok (.getfield 7, 3) := by decide +kernel
theorem dX6_cleans_49 : decode cX6_cleans 49 = .ok (.iload_n 2, 1) := by decide +kernel
theorem dX6_cleans_50 : decode cX6_cleans 50 = .ok (.iaload, 1) := by decide +kernel
theorem dX6_cleans_51 : decode cX6_cleans 51 = .ok (.iastore, 1) := by decide +kernel
theorem dX6_cleans_52 : decode cX6_cleans 52 = .ok (.goto 109, 3) := by decide +kernel
theorem dX6_cleans_55 : decode cX6_cleans 55 = .ok (.iload_n 1, 1) := by decide +kernel
theorem dX6_cleans_56 : decode cX6_cleans 56 = .ok (.iconst 1, 1) := by decide +kernel
theorem dX6_cleans_57 : decode cX6_cleans 57 = .ok (.if_icmp .ne 48, 3) := by decide +kernel
theorem dX6_cleans_60 : decode cX6_cleans 60 = .ok (.aload_n 0, 1) := by decide +kernel
theorem dX6_cleans_61 : decode cX6_cleans 61 = .ok (.getfield 72, 3) := by decide +kernel
theorem dX6_cleans_64 : decode cX6_cleans 64 = .ok (.iload_n 2, 1) := by decide +kernel
theorem dX6_cleans_65 : decode cX6_cleans 65 = .ok (.bipush 31, 2) := by decide +kernel
theorem dX6_cleans_67 : decode cX6_cleans 67 = .ok (.aload_n 0, 1) := by decide +kernel
theorem dX6_cleans_68 : decode cX6_cleans 68 = .ok (.getfield 72, 3) := by decide +kernel
theorem dX6_cleans_71 : decode cX6_cleans 71 = .ok (.iload_n 2, 1) := by decide +kernel
theorem dX6_cleans_72 : decode cX6_cleans 72 = .ok (.iaload, 1) := by decide +kernel
theorem dX6_cleans_73 : decode cX6_cleans 73 = .ok (.iconst (-1), 1) := by decide +kernel
theorem dX6_cleans_74 : decode cX6_cleans 74 = .ok (.if_icmp .ne 7, 3) := by decide +kernel
theorem dX6_cleans_77 : decode cX6_cleans 77 = .ok (.iconst 0, 1) := by decide +kernel
theorem dX6_cleans_78 : decode cX6_cleans 78 = .ok (.goto 9, 3) := by decide +kernel
theorem dX6_cleans_81 : decode cX6_cleans 81 = .ok (.aload_n 0, 1) := by decide +kernel
theorem dX6_cleans_82 : decode cX6_cleans 82 = .ok (.getfield 72, 3) := by decide +kernel
theorem dX6_cleans_85 : decode cX6_cleans 85 = .ok (.iload_n 2, 1) := by decide +kernel
theorem dX6_cleans_86 : decode cX6_cleans 86 = .ok (.iaload, 1) := by decide +kernel
theorem dX6_cleans_87 : decode cX6_cleans 87 = .ok (.imul, 1) := by decide +kernel
theorem dX6_cleans_88 : decode cX6_cleans 88 = .ok (.aload_n 0, 1) := by decide +kernel
theorem dX6_cleans_89 : decode cX6_cleans 89 = .ok (.getfield 75, 3) := by decide +kernel
theorem dX6_cleans_92 : decode cX6_cleans 92 = .ok (.iload_n 3, 1) := by decide +kernel
theorem dX6_cleans_93 : decode cX6_cleans 93 = .ok (.iaload, 1) := by decide +kernel
theorem dX6_cleans_94 : decode cX6_cleans 94 = .ok (.iadd, 1) := by decide +kernel
theorem dX6_cleans_95 : decode cX6_cleans 95 = .ok (.iconst 1, 1) := by decide +kernel
theorem dX6_cleans_96 : decode cX6_cleans 96 = .ok (.iadd, 1) := by decide +kernel
theorem dX6_cleans_97 : decode cX6_cleans 97 = .ok (.sipush 10007, 3) := by decide +kernel
theorem dX6_cleans_100 : decode cX6_cleans 100 = .ok (.irem, 1) := by decide +kernel
theorem dX6_cleans_101 : decode cX6_cleans 101 = .ok (.iastore, 1) := by decide +kernel
theorem dX6_cleans_102 : decode cX6_cleans 102 = .ok (.goto 59, 3) := by decide +kernel
theorem dX6_cleans_105 : decode cX6_cleans 105 = .ok (.iload_n 1, 1) := by decide +kernel
theorem dX6_cleans_106 : decode cX6_cleans 106 = .ok (.iconst 4, 1) := by decide +kernel
theorem dX6_cleans_107 : decode cX6_cleans 107 = .ok (.if_icmp .ne 13, 3) := by decide +kernel
theorem dX6_cleans_110 : decode cX6_cleans 110 = .ok (.aload_n 0, 1) := by decide +kernel
theorem dX6_cleans_111 : decode cX6_cleans 111 = .ok (.getfield 75, 3) := by decide +kernel
theorem dX6_cleans_114 : decode cX6_cleans 114 = .ok (.iload_n 2, 1) := by decide +kernel
theorem dX6_cleans_115 : decode cX6_cleans 115 = .ok (.iload_n 3, 1) := by decide +kernel
theorem dX6_cleans_116 : decode cX6_cleans 116 = .ok (.iastore, 1) := by decide +kernel
theorem dX6_cleans_117 : decode cX6_cleans 117 = .ok (.goto 44, 3) := by decide +kernel
theorem dX6_cleans_120 : decode cX6_cleans 120 = .ok (.aload_n 0, 1) := by decide +kernel
theorem dX6_cleans_121 : decode cX6_cleans 121 = .ok (.getfield 72, 3) := by decide +kernel
theorem dX6_cleans_124 : decode cX6_cleans 124 = .ok (.iload_n 2, 1) := by decide +kernel
theorem dX6_cleans_125 : decode cX6_cleans 125 = .ok (.iaload, 1) := by decide +kernel
theorem dX6_cleans_126 : decode cX6_cleans 126 = .ok (.istore 4, 2) := by decide +kernel
theorem dX6_cleans_128 : decode cX6_cleans 128 = .ok (.aload_n 0, 1) := by decide +kernel
theorem dX6_cleans_129 : decode cX6_cleans 129 = .ok (.getfield 72, 3) := by decide +kernel
theorem dX6_cleans_132 : decode cX6_cleans 132 = .ok (.iload_n 2, 1) := by decide +kernel
theorem dX6_cleans_133 : decode cX6_cleans 133 = .ok (.iconst (-1), 1) := by decide +kernel
theorem dX6_cleans_134 : decode cX6_cleans 134 = .ok (.iastore, 1) := by decide +kernel
theorem dX6_cleans_135 : decode cX6_cleans 135 = .ok (.aload_n 0, 1) := by decide +kernel
theorem dX6_cleans_136 : decode cX6_cleans 136 = .ok (.getfield 72, 3) := by decide +kernel
theorem dX6_cleans_139 : decode cX6_cleans 139 = .ok (.iload_n 1, 1) := by decide +kernel
theorem dX6_cleans_140 : decode cX6_cleans 140 = .ok (.iconst 2, 1) := by decide +kernel
theorem dX6_cleans_141 : decode cX6_cleans 141 = .ok (.if_icmp .ne 7, 3) := by decide +kernel
theorem dX6_cleans_144 : decode cX6_cleans 144 = .ok (.iload_n 3, 1) := by decide +kernel
theorem dX6_cleans_145 : decode cX6_cleans 145 = .ok (.goto 4, 3) := by decide +kernel
theorem dX6_cleans_148 : decode cX6_cleans 148 = .ok (.iload_n 2, 1) := by decide +kernel
theorem dX6_cleans_149 : decode cX6_cleans 149 = .ok (.iload_n 1, 1) := by decide +kernel
theorem dX6_cleans_150 : decode cX6_cleans 150 = .ok (.iconst 2, 1) := by decide +kernel
theorem dX6_cleans_151 : decode cX6_cleans 151 = .ok (.if_icmp .ne 8, 3) := by decide +kernel
theorem dX6_cleans_154 : decode cX6_cleans 154 = .ok (.iload 4, 2) := by decide +kernel
theorem dX6_cleans_156 : decode cX6_cleans 156 = .ok (.goto 4, 3) := by decide +kernel
theorem dX6_cleans_159 : decode cX6_cleans 159 = .ok (.iconst (-1), 1) := by decide +kernel
theorem dX6_cleans_160 : decode cX6_cleans 160 = .ok (.iastore, 1) := by decide +kernel
theorem dX6_cleans_161 : decode cX6_cleans 161 = .ok (.iconst 1, 1) := by decide +kernel
theorem dX6_cleans_162 : decode cX6_cleans 162 = .ok (.ireturn, 1) := by decide +kernel
set_option maxRecDepth 20000 in
set_option maxRecDepth 20000 in
set_option maxRecDepth 20000 in
set_option maxRecDepth 20000 in
set_option maxRecDepth 20000 in
set_option maxRecDepth 20000 in
theorem dX6_cleanDigest_0 : decode cX6_cleanDigest 0 = .ok (.aload_n 0, 1) := by decide +kernel
theorem dX6_cleanDigest_1 : decode cX6_cleanDigest 1 = .ok (.iload_n 1, 1) := by decide +kernel
theorem dX6_cleanDigest_2 : decode cX6_cleanDigest 2 = .ok (.iconst 4, 1) := by decide +kernel
theorem dX6_cleanDigest_3 : decode cX6_cleanDigest 3 = .ok (.invokestatic 87, 3) := by decide +kernel
theorem dX6_cleanDigest_6 : decode cX6_cleanDigest 6 = .ok (.ifCond .eq 7, 3) := by decide +kernel
theorem dX6_cleanDigest_9 : decode cX6_cleanDigest 9 = .ok (.iconst 0, 1) := by decide +kernel
theorem dX6_cleanDigest_10 : decode cX6_cleanDigest 10 = .ok (.goto 4, 3) := by decide +kernel
theorem dX6_cleanDigest_13 : decode cX6_cleanDigest 13 = .ok (.iconst 1, 1) := by decide +kernel
theorem dX6_cleanDigest_14 : decode cX6_cleanDigest 14 = .ok (.invokevirtual 95, 3) := by decide +kernel
theorem dX6_cleanDigest_17 : decode cX6_cleanDigest 17 = .ok (.ifCond .eq 5, 3) := by decide +kernel
theorem dX6_cleanDigest_20 : decode cX6_cleanDigest 20 = .ok (.iconst 0, 1) := by decide +kernel
theorem dX6_cleanDigest_21 : decode cX6_cleanDigest 21 = .ok (.ireturn, 1) := by decide +kernel
theorem dX6_cleanDigest_22 : decode cX6_cleanDigest 22 = .ok (.iconst 0, 1) := by decide +kernel
theorem dX6_cleanDigest_23 : decode cX6_cleanDigest 23 = .ok (.istore_n 2, 1) := by decide +kernel
theorem dX6_cleanDigest_24 : decode cX6_cleanDigest 24 = .ok (.iload_n 2, 1) := by decide +kernel
theorem dX6_cleanDigest_25 : decode cX6_cleanDigest 25 = .ok (.bipush 12, 2) := by decide +kernel
theorem dX6_cleanDigest_27 : decode cX6_cleanDigest 27 = .ok (.if_icmp .ge 31, 3) := by decide +kernel
theorem dX6_cleanDigest_30 : decode cX6_cleanDigest 30 = .ok (.aload_n 0, 1) := by decide +kernel
theorem dX6_cleanDigest_31 : decode cX6_cleanDigest 31 = .ok (.getfield 72, 3) := by decide +kernel
theorem dX6_cleanDigest_34 : decode cX6_cleanDigest 34 = .ok (.iload_n 2, 1) := by decide +kernel
theorem dX6_cleanDigest_35 : decode cX6_cleanDigest 35 = .ok (.aload_n 0, 1) := by decide +kernel
theorem dX6_cleanDigest_36 : decode cX6_cleanDigest 36 = .ok (.getfield 13, 3) := by decide +kernel
theorem dX6_cleanDigest_39 : decode cX6_cleanDigest 39 = .ok (.bipush 12, 2) := by decide +kernel
theorem dX6_cleanDigest_41 : decode cX6_cleanDigest 41 = .ok (.aload_n 0, 1) := by decide +kernel
theorem dX6_cleanDigest_42 : decode cX6_cleanDigest 42 = .ok (.getfield 16, 3) := by decide +kernel
theorem dX6_cleanDigest_45 : decode cX6_cleanDigest 45 = .ok (.iload_n 1, 1) := by decide +kernel
theorem dX6_cleanDigest_46 : decode cX6_cleanDigest 46 = .ok (.iaload, 1) := by decide +kernel
theorem dX6_cleanDigest_47 : decode cX6_cleanDigest 47 = .ok (.imul, 1) := by decide +kernel
theorem dX6_cleanDigest_48 : decode cX6_cleanDigest 48 = .ok (.iload_n 2, 1) := by decide +kernel
theorem dX6_cleanDigest_49 : decode cX6_cleanDigest 49 = .ok (.iadd, 1) := by decide +kernel
theorem dX6_cleanDigest_50 : decode cX6_cleanDigest 50 = .ok (.iaload, 1) := by decide +kernel
theorem dX6_cleanDigest_51 : decode cX6_cleanDigest 51 = .ok (.iastore, 1) := by decide +kernel
theorem dX6_cleanDigest_52 : decode cX6_cleanDigest 52 = .ok (.iinc 2 1, 3) := by decide +kernel
theorem dX6_cleanDigest_55 : decode cX6_cleanDigest 55 = .ok (.goto (-31), 3) := by decide +kernel
theorem dX6_cleanDigest_58 : decode cX6_cleanDigest 58 = .ok (.iconst 0, 1) := by decide +kernel
theorem dX6_cleanDigest_59 : decode cX6_cleanDigest 59 = .ok (.istore_n 2, 1) := by decide +kernel
theorem dX6_cleanDigest_60 : decode cX6_cleanDigest 60 = .ok (.iload_n 2, 1) := by decide +kernel
theorem dX6_cleanDigest_61 : decode cX6_cleanDigest 61 = .ok (.iconst 4, 1) := by decide +kernel
theorem dX6_cleanDigest_62 : decode cX6_cleanDigest 62 = .ok (.if_icmp .ge 16, 3) := by decide +kernel
theorem dX6_cleanDigest_65 : decode cX6_cleanDigest 65 = .ok (.aload_n 0, 1) := by decide +kernel
theorem dX6_cleanDigest_66 : decode cX6_cleanDigest 66 = .ok (.getfield 75, 3) := by decide +kernel
theorem dX6_cleanDigest_69 : decode cX6_cleanDigest 69 = .ok (.iload_n 2, 1) := by decide +kernel
theorem dX6_cleanDigest_70 : decode cX6_cleanDigest 70 = .ok (.iconst 0, 1) := by decide +kernel
theorem dX6_cleanDigest_71 : decode cX6_cleanDigest 71 = .ok (.iastore, 1) := by decide +kernel
theorem dX6_cleanDigest_72 : decode cX6_cleanDigest 72 = .ok (.iinc 2 1, 3) := by decide +kernel
theorem dX6_cleanDigest_75 : decode cX6_cleanDigest 75 = .ok (.goto (-15), 3) := by decide +kernel
theorem dX6_cleanDigest_78 : decode cX6_cleanDigest 78 = .ok (.iconst 1, 1) := by decide +kernel
theorem dX6_cleanDigest_79 : decode cX6_cleanDigest 79 = .ok (.istore_n 2, 1) := by decide +kernel
theorem dX6_cleanDigest_80 : decode cX6_cleanDigest 80 = .ok (.bipush 10, 2) := by decide +kernel
theorem dX6_cleanDigest_82 : decode cX6_cleanDigest 82 = .ok (.iload_n 1, 1) := by decide +kernel
theorem dX6_cleanDigest_83 : decode cX6_cleanDigest 83 = .ok (.imul, 1) := by decide +kernel
theorem dX6_cleanDigest_84 : decode cX6_cleanDigest 84 = .ok (.istore_n 3, 1) := by decide +kernel
theorem dX6_cleanDigest_85 : decode cX6_cleanDigest 85 = .ok (.iload_n 3, 1) := by decide +kernel
theorem dX6_cleanDigest_86 : decode cX6_cleanDigest 86 = .ok (.bipush 10, 2) := by decide +kernel
theorem dX6_cleanDigest_88 : decode cX6_cleanDigest 88 = .ok (.iload_n 1, 1) := by decide +kernel
theorem dX6_cleanDigest_89 : decode cX6_cleanDigest 89 = .ok (.imul, 1) := by decide +kernel
theorem dX6_cleanDigest_90 : decode cX6_cleanDigest 90 = .ok (.aload_n 0, 1) := by decide +kernel
theorem dX6_cleanDigest_91 : decode cX6_cleanDigest 91 = .ok (.getfield 19, 3) := by decide +kernel
theorem dX6_cleanDigest_94 : decode cX6_cleanDigest 94 = .ok (.iload_n 1, 1) := by decide +kernel
theorem dX6_cleanDigest_95 : decode cX6_cleanDigest 95 = .ok (.iaload, 1) := by decide +kernel
theorem dX6_cleanDigest_96 : decode cX6_cleanDigest 96 = .ok (.iadd, 1) := by decide +kernel
theorem dX6_cleanDigest_97 : decode cX6_cleanDigest 97 = .ok (.if_icmp .ge 36, 3) := by decide +kernel
theorem dX6_cleanDigest_100 : decode cX6_cleanDigest 100 = .ok (.iload_n 2, 1) := by decide +kernel
theorem dX6_cleanDigest_101 : decode cX6_cleanDigest 101 = .ok (.ifCond .eq 32, 3) := by decide +kernel
theorem dX6_cleanDigest_104 : decode cX6_cleanDigest 104 = .ok (.aload_n 0, 1) := by decide +kernel
theorem dX6_cleanDigest_105 : decode cX6_cleanDigest 105 = .ok (.aload_n 0, 1) := by decide +kernel
theorem dX6_cleanDigest_106 : decode cX6_cleanDigest 106 = .ok (.getfield 22, 3) := by decide +kernel
theorem dX6_cleanDigest_109 : decode cX6_cleanDigest 109 = .ok (.iload_n 3, 1) := by decide +kernel
theorem dX6_cleanDigest_110 : decode cX6_cleanDigest 110 = .ok (.iaload, 1) := by decide +kernel
theorem dX6_cleanDigest_111 : decode cX6_cleanDigest 111 = .ok (.aload_n 0, 1) := by decide +kernel
theorem dX6_cleanDigest_112 : decode cX6_cleanDigest 112 = .ok (.getfield 25, 3) := by decide +kernel
theorem dX6_cleanDigest_115 : decode cX6_cleanDigest 115 = .ok (.iload_n 3, 1) := by decide +kernel
theorem dX6_cleanDigest_116 : decode cX6_cleanDigest 116 = .ok (.iaload, 1) := by decide +kernel
theorem dX6_cleanDigest_117 : decode cX6_cleanDigest 117 = .ok (.aload_n 0, 1) := by decide +kernel
theorem dX6_cleanDigest_118 : decode cX6_cleanDigest 118 = .ok (.getfield 28, 3) := by decide +kernel
theorem dX6_cleanDigest_121 : decode cX6_cleanDigest 121 = .ok (.iload_n 3, 1) := by decide +kernel
theorem dX6_cleanDigest_122 : decode cX6_cleanDigest 122 = .ok (.iaload, 1) := by decide +kernel
theorem dX6_cleanDigest_123 : decode cX6_cleanDigest 123 = .ok (.invokevirtual 159, 3) := by decide +kernel
theorem dX6_cleanDigest_126 : decode cX6_cleanDigest 126 = .ok (.istore_n 2, 1) := by decide +kernel
theorem dX6_cleanDigest_127 : decode cX6_cleanDigest 127 = .ok (.iinc 3 1, 3) := by decide +kernel
theorem dX6_cleanDigest_130 : decode cX6_cleanDigest 130 = .ok (.goto (-45), 3) := by decide +kernel
theorem dX6_cleanDigest_133 : decode cX6_cleanDigest 133 = .ok (.iconst 1, 1) := by decide +kernel
theorem dX6_cleanDigest_134 : decode cX6_cleanDigest 134 = .ok (.istore_n 3, 1) := by decide +kernel
theorem dX6_cleanDigest_135 : decode cX6_cleanDigest 135 = .ok (.iconst 0, 1) := by decide +kernel
theorem dX6_cleanDigest_136 : decode cX6_cleanDigest 136 = .ok (.istore 4, 2) := by decide +kernel
theorem dX6_cleanDigest_138 : decode cX6_cleanDigest 138 = .ok (.iload 4, 2) := by decide +kernel
theorem dX6_cleanDigest_140 : decode cX6_cleanDigest 140 = .ok (.bipush 12, 2) := by decide +kernel
theorem dX6_cleanDigest_142 : decode cX6_cleanDigest 142 = .ok (.if_icmp .ge 46, 3) := by decide +kernel
theorem dX6_cleanDigest_145 : decode cX6_cleanDigest 145 = .ok (.aload_n 0, 1) := by decide +kernel
theorem dX6_cleanDigest_146 : decode cX6_cleanDigest 146 = .ok (.getfield 72, 3) := by decide +kernel
theorem dX6_cleanDigest_149 : decode cX6_cleanDigest 149 = .ok (.iload 4, 2) := by decide +kernel
theorem dX6_cleanDigest_151 : decode cX6_cleanDigest 151 = .ok (.iaload, 1) := by decide +kernel
theorem dX6_cleanDigest_152 : decode cX6_cleanDigest 152 = .ok (.iconst (-1), 1) := by decide +kernel
theorem dX6_cleanDigest_153 : decode cX6_cleanDigest 153 = .ok (.if_icmp .ne 7, 3) := by decide +kernel
theorem dX6_cleanDigest_156 : decode cX6_cleanDigest 156 = .ok (.iload_n 3, 1) := by decide +kernel
theorem dX6_cleanDigest_157 : decode cX6_cleanDigest 157 = .ok (.goto 24, 3) := by decide +kernel
theorem dX6_cleanDigest_160 : decode cX6_cleanDigest 160 = .ok (.bipush 31, 2) := by decide +kernel
theorem dX6_cleanDigest_162 : decode cX6_cleanDigest 162 = .ok (.iload_n 3, 1) := by decide +kernel
theorem dX6_cleanDigest_163 : decode cX6_cleanDigest 163 = .ok (.imul, 1) := by decide +kernel
theorem dX6_cleanDigest_164 : decode cX6_cleanDigest 164 = .ok (.bipush 101, 2) := by decide +kernel
theorem dX6_cleanDigest_166 : decode cX6_cleanDigest 166 = .ok (.iload 4, 2) := by decide +kernel
theorem dX6_cleanDigest_168 : decode cX6_cleanDigest 168 = .ok (.imul, 1) := by decide +kernel
theorem dX6_cleanDigest_169 : decode cX6_cleanDigest 169 = .ok (.iadd, 1) := by decide +kernel
theorem dX6_cleanDigest_170 : decode cX6_cleanDigest 170 = .ok (.aload_n 0, 1) := by decide +kernel
theorem dX6_cleanDigest_171 : decode cX6_cleanDigest 171 = .ok (.getfield 72, 3) := by decide +kernel
theorem dX6_cleanDigest_174 : decode cX6_cleanDigest 174 = .ok (.iload 4, 2) := by decide +kernel
theorem dX6_cleanDigest_176 : decode cX6_cleanDigest 176 = .ok (.iaload, 1) := by decide +kernel
theorem dX6_cleanDigest_177 : decode cX6_cleanDigest 177 = .ok (.iadd, 1) := by decide +kernel
theorem dX6_cleanDigest_178 : decode cX6_cleanDigest 178 = .ok (.ldc 163, 2) := by decide +kernel
theorem dX6_cleanDigest_180 : decode cX6_cleanDigest 180 = .ok (.irem, 1) := by decide +kernel
theorem dX6_cleanDigest_181 : decode cX6_cleanDigest 181 = .ok (.istore_n 3, 1) := by decide +kernel
theorem dX6_cleanDigest_182 : decode cX6_cleanDigest 182 = .ok (.iinc 4 1, 3) := by decide +kernel
theorem dX6_cleanDigest_185 : decode cX6_cleanDigest 185 = .ok (.goto (-47), 3) := by decide +kernel
theorem dX6_cleanDigest_188 : decode cX6_cleanDigest 188 = .ok (.iload_n 2, 1) := by decide +kernel
theorem dX6_cleanDigest_189 : decode cX6_cleanDigest 189 = .ok (.ifCond .eq 7, 3) := by decide +kernel
theorem dX6_cleanDigest_192 : decode cX6_cleanDigest 192 = .ok (.iload_n 3, 1) := by decide +kernel
theorem dX6_cleanDigest_193 : decode cX6_cleanDigest 193 = .ok (.goto 4, 3) := by decide +kernel
theorem dX6_cleanDigest_196 : decode cX6_cleanDigest 196 = .ok (.iconst (-1), 1) := by decide +kernel
theorem dX6_cleanDigest_197 : decode cX6_cleanDigest 197 = .ok (.ireturn, 1) := by decide +kernel
set_option maxRecDepth 20000 in
set_option maxRecDepth 20000 in
set_option maxRecDepth 20000 in
set_option maxRecDepth 20000 in
set_option maxRecDepth 20000 in
set_option maxRecDepth 20000 in
theorem dX6_tag_0 : decode cX6_tag 0 = .ok (.aload_n 0, 1) := by decide +kernel
theorem dX6_tag_1 : decode cX6_tag 1 = .ok (.iload_n 1, 1) := by decide +kernel
theorem dX6_tag_2 : decode cX6_tag 2 = .ok (.iconst 5, 1) := by decide +kernel
theorem dX6_tag_3 : decode cX6_tag 3 = .ok (.invokestatic 87, 3) := by decide +kernel
theorem dX6_tag_6 : decode cX6_tag 6 = .ok (.ifCond .ne 7, 3) := by decide +kernel
theorem dX6_tag_9 : decode cX6_tag 9 = .ok (.iconst 1, 1) := by decide +kernel
theorem dX6_tag_10 : decode cX6_tag 10 = .ok (.goto 16, 3) := by decide +kernel
theorem dX6_tag_13 : decode cX6_tag 13 = .ok (.aload_n 0, 1) := by decide +kernel
theorem dX6_tag_14 : decode cX6_tag 14 = .ok (.invokevirtual 156, 3) := by decide +kernel
theorem dX6_tag_17 : decode cX6_tag 17 = .ok (.iconst (-1), 1) := by decide +kernel
theorem dX6_tag_18 : decode cX6_tag 18 = .ok (.if_icmp .ne 7, 3) := by decide +kernel
theorem dX6_tag_21 : decode cX6_tag 21 = .ok (.iconst 2, 1) := by decide +kernel
theorem dX6_tag_22 : decode cX6_tag 22 = .ok (.goto 4, 3) := by decide +kernel
theorem dX6_tag_25 : decode cX6_tag 25 = .ok (.iconst 0, 1) := by decide +kernel
theorem dX6_tag_26 : decode cX6_tag 26 = .ok (.invokevirtual 95, 3) := by decide +kernel
theorem dX6_tag_29 : decode cX6_tag 29 = .ok (.ifCond .eq 5, 3) := by decide +kernel
theorem dX6_tag_32 : decode cX6_tag 32 = .ok (.iconst 0, 1) := by decide +kernel
theorem dX6_tag_33 : decode cX6_tag 33 = .ok (.ireturn, 1) := by decide +kernel
theorem dX6_tag_34 : decode cX6_tag 34 = .ok (.aload_n 0, 1) := by decide +kernel
theorem dX6_tag_35 : decode cX6_tag 35 = .ok (.getfield 56, 3) := by decide +kernel
theorem dX6_tag_38 : decode cX6_tag 38 = .ok (.iload_n 1, 1) := by decide +kernel
theorem dX6_tag_39 : decode cX6_tag 39 = .ok (.iaload, 1) := by decide +kernel
theorem dX6_tag_40 : decode cX6_tag 40 = .ok (.istore_n 2, 1) := by decide +kernel
theorem dX6_tag_41 : decode cX6_tag 41 = .ok (.aload_n 0, 1) := by decide +kernel
theorem dX6_tag_42 : decode cX6_tag 42 = .ok (.getfield 56, 3) := by decide +kernel
theorem dX6_tag_45 : decode cX6_tag 45 = .ok (.iload_n 1, 1) := by decide +kernel
theorem dX6_tag_46 : decode cX6_tag 46 = .ok (.aload_n 0, 1) := by decide +kernel
theorem dX6_tag_47 : decode cX6_tag 47 = .ok (.getfield 68, 3) := by decide +kernel
theorem dX6_tag_50 : decode cX6_tag 50 = .ok (.iastore, 1) := by decide +kernel
theorem dX6_tag_51 : decode cX6_tag 51 = .ok (.iload_n 2, 1) := by decide +kernel
theorem dX6_tag_52 : decode cX6_tag 52 = .ok (.ireturn, 1) := by decide +kernel
set_option maxRecDepth 20000 in
set_option maxRecDepth 20000 in
set_option maxRecDepth 20000 in
set_option maxRecDepth 20000 in
theorem dX6_untag_0 : decode cX6_untag 0 = .ok (.aload_n 0, 1) := by decide +kernel
theorem dX6_untag_1 : decode cX6_untag 1 = .ok (.iload_n 1, 1) := by decide +kernel
theorem dX6_untag_2 : decode cX6_untag 2 = .ok (.iconst 5, 1) := by decide +kernel
theorem dX6_untag_3 : decode cX6_untag 3 = .ok (.invokestatic 87, 3) := by decide +kernel
theorem dX6_untag_6 : decode cX6_untag 6 = .ok (.ifCond .eq 7, 3) := by decide +kernel
theorem dX6_untag_9 : decode cX6_untag 9 = .ok (.iconst 0, 1) := by decide +kernel
theorem dX6_untag_10 : decode cX6_untag 10 = .ok (.goto 4, 3) := by decide +kernel
theorem dX6_untag_13 : decode cX6_untag 13 = .ok (.iconst 1, 1) := by decide +kernel
theorem dX6_untag_14 : decode cX6_untag 14 = .ok (.invokevirtual 95, 3) := by decide +kernel
theorem dX6_untag_17 : decode cX6_untag 17 = .ok (.ifCond .eq 5, 3) := by decide +kernel
theorem dX6_untag_20 : decode cX6_untag 20 = .ok (.iconst 0, 1) := by decide +kernel
theorem dX6_untag_21 : decode cX6_untag 21 = .ok (.ireturn, 1) := by decide +kernel
theorem dX6_untag_22 : decode cX6_untag 22 = .ok (.aload_n 0, 1) := by decide +kernel
theorem dX6_untag_23 : decode cX6_untag 23 = .ok (.getfield 56, 3) := by decide +kernel
theorem dX6_untag_26 : decode cX6_untag 26 = .ok (.iload_n 1, 1) := by decide +kernel
theorem dX6_untag_27 : decode cX6_untag 27 = .ok (.iaload, 1) := by decide +kernel
theorem dX6_untag_28 : decode cX6_untag 28 = .ok (.istore_n 2, 1) := by decide +kernel
theorem dX6_untag_29 : decode cX6_untag 29 = .ok (.aload_n 0, 1) := by decide +kernel
theorem dX6_untag_30 : decode cX6_untag 30 = .ok (.getfield 56, 3) := by decide +kernel
theorem dX6_untag_33 : decode cX6_untag 33 = .ok (.iload_n 1, 1) := by decide +kernel
theorem dX6_untag_34 : decode cX6_untag 34 = .ok (.iconst (-1), 1) := by decide +kernel
theorem dX6_untag_35 : decode cX6_untag 35 = .ok (.iastore, 1) := by decide +kernel
theorem dX6_untag_36 : decode cX6_untag 36 = .ok (.iload_n 2, 1) := by decide +kernel
theorem dX6_untag_37 : decode cX6_untag 37 = .ok (.ireturn, 1) := by decide +kernel
set_option maxRecDepth 20000 in
set_option maxRecDepth 20000 in
set_option maxRecDepth 20000 in
set_option maxRecDepth 20000 in
theorem dX6_tagged_0 : decode cX6_tagged 0 = .ok (.aload_n 0, 1) := by decide +kernel
theorem dX6_tagged_1 : decode cX6_tagged 1 = .ok (.iload_n 1, 1) := by decide +kernel
theorem dX6_tagged_2 : decode cX6_tagged 2 = .ok (.iconst 5, 1) := by decide +kernel
theorem dX6_tagged_3 : decode cX6_tagged 3 = .ok (.invokestatic 87, 3) := by decide +kernel
theorem dX6_tagged_6 : decode cX6_tagged 6 = .ok (.ifCond .eq 7, 3) := by decide +kernel
theorem dX6_tagged_9 : decode cX6_tagged 9 = .ok (.iconst 0, 1) := by decide +kernel
theorem dX6_tagged_10 : decode cX6_tagged 10 = .ok (.goto 4, 3) := by decide +kernel
theorem dX6_tagged_13 : decode cX6_tagged 13 = .ok (.iconst 1, 1) := by decide +kernel
theorem dX6_tagged_14 : decode cX6_tagged 14 = .ok (.invokevirtual 95, 3) := by decide +kernel
theorem dX6_tagged_17 : decode cX6_tagged 17 = .ok (.ifCond .eq 7, 3) := by decide +kernel
theorem dX6_tagged_20 : decode cX6_tagged 20 = .ok (.iconst 0, 1) := by decide +kernel
theorem dX6_tagged_21 : decode cX6_tagged 21 = .ok (.goto 9, 3) := by decide +kernel
theorem dX6_tagged_24 : decode cX6_tagged 24 = .ok (.aload_n 0, 1) := by decide +kernel
theorem dX6_tagged_25 : decode cX6_tagged 25 = .ok (.getfield 56, 3) := by decide +kernel
theorem dX6_tagged_28 : decode cX6_tagged 28 = .ok (.iload_n 1, 1) := by decide +kernel
theorem dX6_tagged_29 : decode cX6_tagged 29 = .ok (.iaload, 1) := by decide +kernel
theorem dX6_tagged_30 : decode cX6_tagged 30 = .ok (.ireturn, 1) := by decide +kernel
theorem dX6_deep_0 : decode cX6_deep 0 = .ok (.iconst 0, 1) := by decide +kernel
theorem dX6_deep_1 : decode cX6_deep 1 = .ok (.istore_n 2, 1) := by decide +kernel
theorem dX6_deep_2 : decode cX6_deep 2 = .ok (.iload_n 1, 1) := by decide +kernel
theorem dX6_deep_3 : decode cX6_deep 3 = .ok (.istore_n 3, 1) := by decide +kernel
theorem dX6_deep_4 : decode cX6_deep 4 = .ok (.iload_n 3, 1) := by decide +kernel
theorem dX6_deep_5 : decode cX6_deep 5 = .ok (.iconst (-1), 1) := by decide +kernel
theorem dX6_deep_6 : decode cX6_deep 6 = .ok (.if_icmp .eq 16, 3) := by decide +kernel
theorem dX6_deep_9 : decode cX6_deep 9 = .ok (.iinc 2 1, 3) := by decide +kernel
theorem dX6_deep_12 : decode cX6_deep 12 = .ok (.aload_n 0, 1) := by decide +kernel
theorem dX6_deep_13 : decode cX6_deep 13 = .ok (.getfield 35, 3) := by decide +kernel
theorem dX6_deep_16 : decode cX6_deep 16 = .ok (.iload_n 3, 1) := by decide +kernel
theorem dX6_deep_17 : decode cX6_deep 17 = .ok (.iaload, 1) := by decide +kernel
theorem dX6_deep_18 : decode cX6_deep 18 = .ok (.istore_n 3, 1) := by decide +kernel
theorem dX6_deep_19 : decode cX6_deep 19 = .ok (.goto (-15), 3) := by decide +kernel
theorem dX6_deep_22 : decode cX6_deep 22 = .ok (.iload_n 2, 1) := by decide +kernel
theorem dX6_deep_23 : decode cX6_deep 23 = .ok (.ireturn, 1) := by decide +kernel
set_option maxRecDepth 20000 in
set_option maxRecDepth 20000 in
set_option maxRecDepth 20000 in
set_option maxRecDepth 20000 in
set_option maxRecDepth 20000 in
set_option maxRecDepth 20000 in
set_option maxRecDepth 20000 in
set_option maxRecDepth 20000 in
set_option maxRecDepth 20000 in
set_option maxRecDepth 20000 in
theorem dX6_squash_0 : decode cX6_squash 0 = .ok (.iload_n 1, 1) := by decide +kernel
theorem dX6_squash_1 : decode cX6_squash 1 = .ok (.iconst 5, 1) := by decide +kernel
theorem dX6_squash_2 : decode cX6_squash 2 = .ok (.invokestatic 87, 3) := by decide +kernel
theorem dX6_squash_5 : decode cX6_squash 5 = .ok (.ifCond .eq 11, 3) := by decide +kernel
theorem dX6_squash_8 : decode cX6_squash 8 = .ok (.iload_n 2, 1) := by decide +kernel
theorem dX6_squash_9 : decode cX6_squash 9 = .ok (.ifCond .le 7, 3) := by decide +kernel
theorem dX6_squash_12 : decode cX6_squash 12 = .ok (.iconst 1, 1) := by decide +kernel
theorem dX6_squash_13 : decode cX6_squash 13 = .ok (.goto 4, 3) := by decide +kernel
theorem dX6_squash_16 : decode cX6_squash 16 = .ok (.iconst 0, 1) := by decide +kernel
theorem dX6_squash_17 : decode cX6_squash 17 = .ok (.istore_n 3, 1) := by decide +kernel
theorem dX6_squash_18 : decode cX6_squash 18 = .ok (.iload_n 3, 1) := by decide +kernel
theorem dX6_squash_19 : decode cX6_squash 19 = .ok (.ifCond .eq 12, 3) := by decide +kernel
theorem dX6_squash_22 : decode cX6_squash 22 = .ok (.aload_n 0, 1) := by decide +kernel
theorem dX6_squash_23 : decode cX6_squash 23 = .ok (.getfield 56, 3) := by decide +kernel
theorem dX6_squash_26 : decode cX6_squash 26 = .ok (.iload_n 1, 1) := by decide +kernel
theorem dX6_squash_27 : decode cX6_squash 27 = .ok (.iaload, 1) := by decide +kernel
theorem dX6_squash_28 : decode cX6_squash 28 = .ok (.goto 4, 3) := by decide +kernel
theorem dX6_squash_31 : decode cX6_squash 31 = .ok (.iconst (-1), 1) := by decide +kernel
theorem dX6_squash_32 : decode cX6_squash 32 = .ok (.istore 4, 2) := by decide +kernel
theorem dX6_squash_34 : decode cX6_squash 34 = .ok (.iload 4, 2) := by decide +kernel
theorem dX6_squash_36 : decode cX6_squash 36 = .ok (.iconst (-1), 1) := by decide +kernel
theorem dX6_squash_37 : decode cX6_squash 37 = .ok (.if_icmp .eq 17, 3) := by decide +kernel
theorem dX6_squash_40 : decode cX6_squash 40 = .ok (.iload_n 2, 1) := by decide +kernel
theorem dX6_squash_41 : decode cX6_squash 41 = .ok (.aload_n 0, 1) := by decide +kernel
theorem dX6_squash_42 : decode cX6_squash 42 = .ok (.iload 4, 2) := by decide +kernel
theorem dX6_squash_44 : decode cX6_squash 44 = .ok (.invokevirtual 164, 3) := by decide +kernel
theorem dX6_squash_47 : decode cX6_squash 47 = .ok (.if_icmp .lt 7, 3) := by decide +kernel
theorem dX6_squash_50 : decode cX6_squash 50 = .ok (.iconst 1, 1) := by decide +kernel
theorem dX6_squash_51 : decode cX6_squash 51 = .ok (.goto 4, 3) := by decide +kernel
theorem dX6_squash_54 : decode cX6_squash 54 = .ok (.iconst 0, 1) := by decide +kernel
theorem dX6_squash_55 : decode cX6_squash 55 = .ok (.istore 5, 2) := by decide +kernel
theorem dX6_squash_57 : decode cX6_squash 57 = .ok (.aload_n 0, 1) := by decide +kernel
theorem dX6_squash_58 : decode cX6_squash 58 = .ok (.iload_n 3, 1) := by decide +kernel
theorem dX6_squash_59 : decode cX6_squash 59 = .ok (.ifCond .eq 8, 3) := by decide +kernel
theorem dX6_squash_62 : decode cX6_squash 62 = .ok (.iload 5, 2) := by decide +kernel
theorem dX6_squash_64 : decode cX6_squash 64 = .ok (.ifCond .eq 7, 3) := by decide +kernel
theorem dX6_squash_67 : decode cX6_squash 67 = .ok (.iconst 1, 1) := by decide +kernel
theorem dX6_squash_68 : decode cX6_squash 68 = .ok (.goto 24, 3) := by decide +kernel
theorem dX6_squash_71 : decode cX6_squash 71 = .ok (.iload 4, 2) := by decide +kernel
theorem dX6_squash_73 : decode cX6_squash 73 = .ok (.iconst (-1), 1) := by decide +kernel
theorem dX6_squash_74 : decode cX6_squash 74 = .ok (.if_icmp .eq 13, 3) := by decide +kernel
theorem dX6_squash_77 : decode cX6_squash 77 = .ok (.aload_n 0, 1) := by decide +kernel
theorem dX6_squash_78 : decode cX6_squash 78 = .ok (.getfield 102, 3) := by decide +kernel
theorem dX6_squash_81 : decode cX6_squash 81 = .ok (.sipush 400, 3) := by decide +kernel
theorem dX6_squash_84 : decode cX6_squash 84 = .ok (.if_icmp .lt 7, 3) := by decide +kernel
theorem dX6_squash_87 : decode cX6_squash 87 = .ok (.iconst 2, 1) := by decide +kernel
theorem dX6_squash_88 : decode cX6_squash 88 = .ok (.goto 4, 3) := by decide +kernel
theorem dX6_squash_91 : decode cX6_squash 91 = .ok (.iconst 0, 1) := by decide +kernel
theorem dX6_squash_92 : decode cX6_squash 92 = .ok (.invokevirtual 95, 3) := by decide +kernel
theorem dX6_squash_95 : decode cX6_squash 95 = .ok (.ifCond .eq 5, 3) := by decide +kernel
theorem dX6_squash_98 : decode cX6_squash 98 = .ok (.iconst 0, 1) := by decide +kernel
theorem dX6_squash_99 : decode cX6_squash 99 = .ok (.ireturn, 1) := by decide +kernel
theorem dX6_squash_100 : decode cX6_squash 100 = .ok (.iload 4, 2) := by decide +kernel
theorem dX6_squash_102 : decode cX6_squash 102 = .ok (.istore 6, 2) := by decide +kernel
theorem dX6_squash_104 : decode cX6_squash 104 = .ok (.aload_n 0, 1) := by decide +kernel
theorem dX6_squash_105 : decode cX6_squash 105 = .ok (.iload 4, 2) := by decide +kernel
theorem dX6_squash_107 : decode cX6_squash 107 = .ok (.invokevirtual 164, 3) := by decide +kernel
theorem dX6_squash_110 : decode cX6_squash 110 = .ok (.istore 7, 2) := by decide +kernel
theorem dX6_squash_112 : decode cX6_squash 112 = .ok (.iload 7, 2) := by decide +kernel
theorem dX6_squash_114 : decode cX6_squash 114 = .ok (.iload_n 2, 1) := by decide +kernel
theorem dX6_squash_115 : decode cX6_squash 115 = .ok (.if_icmp .le 18, 3) := by decide +kernel
theorem dX6_squash_118 : decode cX6_squash 118 = .ok (.aload_n 0, 1) := by decide +kernel
theorem dX6_squash_119 : decode cX6_squash 119 = .ok (.getfield 35, 3) := by decide +kernel
theorem dX6_squash_122 : decode cX6_squash 122 = .ok (.iload 6, 2) := by decide +kernel
theorem dX6_squash_124 : decode cX6_squash 124 = .ok (.iaload, 1) := by decide +kernel
theorem dX6_squash_125 : decode cX6_squash 125 = .ok (.istore 6, 2) := by decide +kernel
theorem dX6_squash_127 : decode cX6_squash 127 = .ok (.iinc 7 (-1), 3) := by decide +kernel
theorem dX6_squash_130 : decode cX6_squash 130 = .ok (.goto (-18), 3) := by decide +kernel
theorem dX6_squash_133 : decode cX6_squash 133 = .ok (.aload_n 0, 1) := by decide +kernel
theorem dX6_squash_134 : decode cX6_squash 134 = .ok (.iload 6, 2) := by decide +kernel
theorem dX6_squash_136 : decode cX6_squash 136 = .ok (.invokevirtual 105, 3) := by decide +kernel
theorem dX6_squash_139 : decode cX6_squash 139 = .ok (.istore 7, 2) := by decide +kernel
theorem dX6_squash_141 : decode cX6_squash 141 = .ok (.iconst 0, 1) := by decide +kernel
theorem dX6_squash_142 : decode cX6_squash 142 = .ok (.istore 8, 2) := by decide +kernel
theorem dX6_squash_144 : decode cX6_squash 144 = .ok (.iload 8, 2) := by decide +kernel
theorem dX6_squash_146 : decode cX6_squash 146 = .ok (.bipush 12, 2) := by decide +kernel
theorem dX6_squash_148 : decode cX6_squash 148 = .ok (.if_icmp .ge 62, 3) := by decide +kernel
theorem dX6_squash_151 : decode cX6_squash 151 = .ok (.aload_n 0, 1) := by decide +kernel
theorem dX6_squash_152 : decode cX6_squash 152 = .ok (.iload 4, 2) := by decide +kernel
theorem dX6_squash_154 : decode cX6_squash 154 = .ok (.iload 8, 2) := by decide +kernel
theorem dX6_squash_156 : decode cX6_squash 156 = .ok (.invokevirtual 129, 3) := by decide +kernel
theorem dX6_squash_159 : decode cX6_squash 159 = .ok (.istore 9, 2) := by decide +kernel
theorem dX6_squash_161 : decode cX6_squash 161 = .ok (.aload_n 0, 1) := by decide +kernel
theorem dX6_squash_162 : decode cX6_squash 162 = .ok (.getfield 38, 3) := by decide +kernel
theorem dX6_squash_165 : decode cX6_squash 165 = .ok (.bipush 12, 2) := by decide +kernel
theorem dX6_squash_167 : decode cX6_squash 167 = .ok (.iload 7, 2) := by decide +kernel
theorem dX6_squash_169 : decode cX6_squash 169 = .ok (.imul, 1) := by decide +kernel
theorem dX6_squash_170 : decode cX6_squash 170 = .ok (.iload 8, 2) := by decide +kernel
theorem dX6_squash_172 : decode cX6_squash 172 = .ok (.iadd, 1) := by decide +kernel
theorem dX6_squash_173 : decode cX6_squash 173 = .ok (.iload 9, 2) := by decide +kernel
theorem dX6_squash_175 : decode cX6_squash 175 = .ok (.aload_n 0, 1) := by decide +kernel
theorem dX6_squash_176 : decode cX6_squash 176 = .ok (.iload 6, 2) := by decide +kernel
theorem dX6_squash_178 : decode cX6_squash 178 = .ok (.iload 8, 2) := by decide +kernel
theorem dX6_squash_180 : decode cX6_squash 180 = .ok (.invokevirtual 129, 3) := by decide +kernel
theorem dX6_squash_183 : decode cX6_squash 183 = .ok (.if_icmp .ne 7, 3) := by decide +kernel
theorem dX6_squash_186 : decode cX6_squash 186 = .ok (.iconst (-1), 1) := by decide +kernel
theorem dX6_squash_187 : decode cX6_squash 187 = .ok (.goto 16, 3) := by decide +kernel
theorem dX6_squash_190 : decode cX6_squash 190 = .ok (.iload 9, 2) := by decide +kernel
theorem dX6_squash_192 : decode cX6_squash 192 = .ok (.iconst (-1), 1) := by decide +kernel
theorem dX6_squash_193 : decode cX6_squash 193 = .ok (.if_icmp .ne 8, 3) := by decide +kernel
theorem dX6_squash_196 : decode cX6_squash 196 = .ok (.bipush (-2), 2) := by decide +kernel
theorem dX6_squash_198 : decode cX6_squash 198 = .ok (.goto 5, 3) := by decide +kernel
theorem dX6_squash_201 : decode cX6_squash 201 = .ok (.iload 9, 2) := by decide +kernel
theorem dX6_squash_203 : decode cX6_squash 203 = .ok (.iastore, 1) := by decide +kernel
theorem dX6_squash_204 : decode cX6_squash 204 = .ok (.iinc 8 1, 3) := by decide +kernel
theorem dX6_squash_207 : decode cX6_squash 207 = .ok (.goto (-63), 3) := by decide +kernel
theorem dX6_squash_210 : decode cX6_squash 210 = .ok (.iconst 0, 1) := by decide +kernel
theorem dX6_squash_211 : decode cX6_squash 211 = .ok (.istore 8, 2) := by decide +kernel
theorem dX6_squash_213 : decode cX6_squash 213 = .ok (.iload 8, 2) := by decide +kernel
theorem dX6_squash_215 : decode cX6_squash 215 = .ok (.iconst 4, 1) := by decide +kernel
theorem dX6_squash_216 : decode cX6_squash 216 = .ok (.if_icmp .ge 33, 3) := by decide +kernel
theorem dX6_squash_219 : decode cX6_squash 219 = .ok (.aload_n 0, 1) := by decide +kernel
theorem dX6_squash_220 : decode cX6_squash 220 = .ok (.getfield 41, 3) := by decide +kernel
theorem dX6_squash_223 : decode cX6_squash 223 = .ok (.iconst 4, 1) := by decide +kernel
theorem dX6_squash_224 : decode cX6_squash 224 = .ok (.iload 7, 2) := by decide +kernel
theorem dX6_squash_226 : decode cX6_squash 226 = .ok (.imul, 1) := by decide +kernel
theorem dX6_squash_227 : decode cX6_squash 227 = .ok (.iload 8, 2) := by decide +kernel
theorem dX6_squash_229 : decode cX6_squash 229 = .ok (.iadd, 1) := by decide +kernel
theorem dX6_squash_230 : decode cX6_squash 230 = .ok (.aload_n 0, 1) := by decide +kernel
theorem dX6_squash_231 : decode cX6_squash 231 = .ok (.getfield 41, 3) := by decide +kernel
theorem dX6_squash_234 : decode cX6_squash 234 = .ok (.iconst 4, 1) := by decide +kernel
theorem dX6_squash_235 : decode cX6_squash 235 = .ok (.iload 4, 2) := by decide +kernel
theorem dX6_squash_237 : decode cX6_squash 237 = .ok (.imul, 1) := by decide +kernel
theorem dX6_squash_238 : decode cX6_squash 238 = .ok (.iload 8, 2) := by decide +kernel
theorem dX6_squash_240 : decode cX6_squash 240 = .ok (.iadd, 1) := by decide +kernel
theorem dX6_squash_241 : decode cX6_squash 241 = .ok (.iaload, 1) := by decide +kernel
theorem dX6_squash_242 : decode cX6_squash 242 = .ok (.iastore, 1) := by decide +kernel
theorem dX6_squash_243 : decode cX6_squash 243 = .ok (.iinc 8 1, 3) := by decide +kernel
theorem dX6_squash_246 : decode cX6_squash 246 = .ok (.goto (-33), 3) := by decide +kernel
theorem dX6_squash_249 : decode cX6_squash 249 = .ok (.aload_n 0, 1) := by decide +kernel
theorem dX6_squash_250 : decode cX6_squash 250 = .ok (.getfield 56, 3) := by decide +kernel
theorem dX6_squash_253 : decode cX6_squash 253 = .ok (.iload_n 1, 1) := by decide +kernel
theorem dX6_squash_254 : decode cX6_squash 254 = .ok (.iload 7, 2) := by decide +kernel
theorem dX6_squash_256 : decode cX6_squash 256 = .ok (.iastore, 1) := by decide +kernel
theorem dX6_squash_257 : decode cX6_squash 257 = .ok (.iload 7, 2) := by decide +kernel
theorem dX6_squash_259 : decode cX6_squash 259 = .ok (.ireturn, 1) := by decide +kernel
set_option maxRecDepth 20000 in
set_option maxRecDepth 20000 in
set_option maxRecDepth 20000 in
set_option maxRecDepth 20000 in
set_option maxRecDepth 20000 in
set_option maxRecDepth 20000 in
set_option maxRecDepth 20000 in
set_option maxRecDepth 20000 in
set_option maxRecDepth 20000 in
set_option maxRecDepth 20000 in
set_option maxRecDepth 20000 in
set_option maxRecDepth 20000 in
theorem dX6_rebase_0 : decode cX6_rebase 0 = .ok (.iload_n 1, 1) := by decide +kernel
theorem dX6_rebase_1 : decode cX6_rebase 1 = .ok (.iconst 5, 1) := by decide +kernel
theorem dX6_rebase_2 : decode cX6_rebase 2 = .ok (.invokestatic 87, 3) := by decide +kernel
theorem dX6_rebase_5 : decode cX6_rebase 5 = .ok (.ifCond .eq 15, 3) := by decide +kernel
theorem dX6_rebase_8 : decode cX6_rebase 8 = .ok (.iload_n 2, 1) := by decide +kernel
theorem dX6_rebase_9 : decode cX6_rebase 9 = .ok (.iconst 3, 1) := by decide +kernel
theorem dX6_rebase_10 : decode cX6_rebase 10 = .ok (.invokestatic 87, 3) := by decide +kernel
theorem dX6_rebase_13 : decode cX6_rebase 13 = .ok (.ifCond .eq 7, 3) := by decide +kernel
theorem dX6_rebase_16 : decode cX6_rebase 16 = .ok (.iconst 1, 1) := by decide +kernel
theorem dX6_rebase_17 : decode cX6_rebase 17 = .ok (.goto 4, 3) := by decide +kernel
theorem dX6_rebase_20 : decode cX6_rebase 20 = .ok (.iconst 0, 1) := by decide +kernel
theorem dX6_rebase_21 : decode cX6_rebase 21 = .ok (.istore_n 3, 1) := by decide +kernel
theorem dX6_rebase_22 : decode cX6_rebase 22 = .ok (.aload_n 0, 1) := by decide +kernel
theorem dX6_rebase_23 : decode cX6_rebase 23 = .ok (.iload_n 3, 1) := by decide +kernel
theorem dX6_rebase_24 : decode cX6_rebase 24 = .ok (.ifCond .ne 7, 3) := by decide +kernel
theorem dX6_rebase_27 : decode cX6_rebase 27 = .ok (.iconst 1, 1) := by decide +kernel
theorem dX6_rebase_28 : decode cX6_rebase 28 = .ok (.goto 28, 3) := by decide +kernel
theorem dX6_rebase_31 : decode cX6_rebase 31 = .ok (.aload_n 0, 1) := by decide +kernel
theorem dX6_rebase_32 : decode cX6_rebase 32 = .ok (.getfield 56, 3) := by decide +kernel
theorem dX6_rebase_35 : decode cX6_rebase 35 = .ok (.iload_n 1, 1) := by decide +kernel
theorem dX6_rebase_36 : decode cX6_rebase 36 = .ok (.iaload, 1) := by decide +kernel
theorem dX6_rebase_37 : decode cX6_rebase 37 = .ok (.iconst (-1), 1) := by decide +kernel
theorem dX6_rebase_38 : decode cX6_rebase 38 = .ok (.if_icmp .eq 13, 3) := by decide +kernel
theorem dX6_rebase_41 : decode cX6_rebase 41 = .ok (.aload_n 0, 1) := by decide +kernel
theorem dX6_rebase_42 : decode cX6_rebase 42 = .ok (.getfield 102, 3) := by decide +kernel
theorem dX6_rebase_45 : decode cX6_rebase 45 = .ok (.sipush 400, 3) := by decide +kernel
theorem dX6_rebase_48 : decode cX6_rebase 48 = .ok (.if_icmp .lt 7, 3) := by decide +kernel
theorem dX6_rebase_51 : decode cX6_rebase 51 = .ok (.iconst 2, 1) := by decide +kernel
theorem dX6_rebase_52 : decode cX6_rebase 52 = .ok (.goto 4, 3) := by decide +kernel
theorem dX6_rebase_55 : decode cX6_rebase 55 = .ok (.iconst 0, 1) := by decide +kernel
theorem dX6_rebase_56 : decode cX6_rebase 56 = .ok (.invokevirtual 95, 3) := by decide +kernel
theorem dX6_rebase_59 : decode cX6_rebase 59 = .ok (.ifCond .eq 5, 3) := by decide +kernel
theorem dX6_rebase_62 : decode cX6_rebase 62 = .ok (.iconst 0, 1) := by decide +kernel
theorem dX6_rebase_63 : decode cX6_rebase 63 = .ok (.ireturn, 1) := by decide +kernel
theorem dX6_rebase_64 : decode cX6_rebase 64 = .ok (.aload_n 0, 1) := by decide +kernel
theorem dX6_rebase_65 : decode cX6_rebase 65 = .ok (.aload_n 0, 1) := by decide +kernel
theorem dX6_rebase_66 : decode cX6_rebase 66 = .ok (.getfield 56, 3) := by decide +kernel
theorem dX6_rebase_69 : decode cX6_rebase 69 = .ok (.iload_n 1, 1) := by decide +kernel
theorem dX6_rebase_70 : decode cX6_rebase 70 = .ok (.iaload, 1) := by decide +kernel
theorem dX6_rebase_71 : decode cX6_rebase 71 = .ok (.invokevirtual 164, 3) := by decide +kernel
theorem dX6_rebase_74 : decode cX6_rebase 74 = .ok (.istore 4, 2) := by decide +kernel
theorem dX6_rebase_76 : decode cX6_rebase 76 = .ok (.aload_n 0, 1) := by decide +kernel
theorem dX6_rebase_77 : decode cX6_rebase 77 = .ok (.getfield 56, 3) := by decide +kernel
theorem dX6_rebase_80 : decode cX6_rebase 80 = .ok (.iload_n 1, 1) := by decide +kernel
theorem dX6_rebase_81 : decode cX6_rebase 81 = .ok (.iaload, 1) := by decide +kernel
theorem dX6_rebase_82 : decode cX6_rebase 82 = .ok (.istore 5, 2) := by decide +kernel
theorem dX6_rebase_84 : decode cX6_rebase 84 = .ok (.iload 4, 2) := by decide +kernel
theorem dX6_rebase_86 : decode cX6_rebase 86 = .ok (.iconst 1, 1) := by decide +kernel
theorem dX6_rebase_87 : decode cX6_rebase 87 = .ok (.isub, 1) := by decide +kernel
theorem dX6_rebase_88 : decode cX6_rebase 88 = .ok (.istore 6, 2) := by decide +kernel
theorem dX6_rebase_90 : decode cX6_rebase 90 = .ok (.iload 6, 2) := by decide +kernel
theorem dX6_rebase_92 : decode cX6_rebase 92 = .ok (.ifCond .lt 27, 3) := by decide +kernel
theorem dX6_rebase_95 : decode cX6_rebase 95 = .ok (.aload_n 0, 1) := by decide +kernel
theorem dX6_rebase_96 : decode cX6_rebase 96 = .ok (.getfield 78, 3) := by decide +kernel
theorem dX6_rebase_99 : decode cX6_rebase 99 = .ok (.iload 6, 2) := by decide +kernel
theorem dX6_rebase_101 : decode cX6_rebase 101 = .ok (.iload 5, 2) := by decide +kernel
theorem dX6_rebase_103 : decode cX6_rebase 103 = .ok (.iastore, 1) := by decide +kernel
theorem dX6_rebase_104 : decode cX6_rebase 104 = .ok (.aload_n 0, 1) := by decide +kernel
theorem dX6_rebase_105 : decode cX6_rebase 105 = .ok (.getfield 35, 3) := by decide +kernel
theorem dX6_rebase_108 : decode cX6_rebase 108 = .ok (.iload 5, 2) := by decide +kernel
theorem dX6_rebase_110 : decode cX6_rebase 110 = .ok (.iaload, 1) := by decide +kernel
theorem dX6_rebase_111 : decode cX6_rebase 111 = .ok (.istore 5, 2) := by decide +kernel
theorem dX6_rebase_113 : decode cX6_rebase 113 = .ok (.iinc 6 (-1), 3) := by decide +kernel
theorem dX6_rebase_116 : decode cX6_rebase 116 = .ok (.goto (-26), 3) := by decide +kernel
theorem dX6_rebase_119 : decode cX6_rebase 119 = .ok (.aload_n 0, 1) := by decide +kernel
theorem dX6_rebase_120 : decode cX6_rebase 120 = .ok (.iload_n 2, 1) := by decide +kernel
theorem dX6_rebase_121 : decode cX6_rebase 121 = .ok (.invokevirtual 109, 3) := by decide +kernel
theorem dX6_rebase_124 : decode cX6_rebase 124 = .ok (.istore 6, 2) := by decide +kernel
theorem dX6_rebase_126 : decode cX6_rebase 126 = .ok (.iconst 1, 1) := by decide +kernel
theorem dX6_rebase_127 : decode cX6_rebase 127 = .ok (.istore 7, 2) := by decide +kernel
theorem dX6_rebase_129 : decode cX6_rebase 129 = .ok (.iload 7, 2) := by decide +kernel
theorem dX6_rebase_131 : decode cX6_rebase 131 = .ok (.iload 4, 2) := by decide +kernel
theorem dX6_rebase_133 : decode cX6_rebase 133 = .ok (.if_icmp .ge 139, 3) := by decide +kernel
theorem dX6_rebase_136 : decode cX6_rebase 136 = .ok (.aload_n 0, 1) := by decide +kernel
theorem dX6_rebase_137 : decode cX6_rebase 137 = .ok (.iload 6, 2) := by decide +kernel
theorem dX6_rebase_139 : decode cX6_rebase 139 = .ok (.invokevirtual 105, 3) := by decide +kernel
theorem dX6_rebase_142 : decode cX6_rebase 142 = .ok (.istore 8, 2) := by decide +kernel
theorem dX6_rebase_144 : decode cX6_rebase 144 = .ok (.iconst 0, 1) := by decide +kernel
theorem dX6_rebase_145 : decode cX6_rebase 145 = .ok (.istore 9, 2) := by decide +kernel
theorem dX6_rebase_147 : decode cX6_rebase 147 = .ok (.iload 9, 2) := by decide +kernel
theorem dX6_rebase_149 : decode cX6_rebase 149 = .ok (.bipush 12, 2) := by decide +kernel
theorem dX6_rebase_151 : decode cX6_rebase 151 = .ok (.if_icmp .ge 67, 3) := by decide +kernel
theorem dX6_rebase_154 : decode cX6_rebase 154 = .ok (.aload_n 0, 1) := by decide +kernel
theorem dX6_rebase_155 : decode cX6_rebase 155 = .ok (.getfield 38, 3) := by decide +kernel
theorem dX6_rebase_158 : decode cX6_rebase 158 = .ok (.bipush 12, 2) := by decide +kernel
theorem dX6_rebase_160 : decode cX6_rebase 160 = .ok (.aload_n 0, 1) := by decide +kernel
theorem dX6_rebase_161 : decode cX6_rebase 161 = .ok (.getfield 78, 3) := by decide +kernel
theorem dX6_rebase_164 : decode cX6_rebase 164 = .ok (.iload 7, 2) := by decide +kernel
theorem dX6_rebase_166 : decode cX6_rebase 166 = .ok (.iaload, 1) := by decide +kernel
theorem dX6_rebase_167 : decode cX6_rebase 167 = .ok (.imul, 1) := by decide +kernel
theorem dX6_rebase_168 : decode cX6_rebase 168 = .ok (.iload 9, 2) := by decide +kernel
theorem dX6_rebase_170 : decode cX6_rebase 170 = .ok (.iadd, 1) := by decide +kernel
theorem dX6_rebase_171 : decode cX6_rebase 171 = .ok (.iaload, 1) := by decide +kernel
theorem dX6_rebase_172 : decode cX6_rebase 172 = .ok (.istore 10, 2) := by decide +kernel
theorem dX6_rebase_174 : decode cX6_rebase 174 = .ok (.aload_n 0, 1) := by decide +kernel
theorem dX6_rebase_175 : decode cX6_rebase 175 = .ok (.getfield 38, 3) := by decide +kernel
theorem dX6_rebase_178 : decode cX6_rebase 178 = .ok (.bipush 12, 2) := by decide +kernel
theorem dX6_rebase_180 : decode cX6_rebase 180 = .ok (.iload 8, 2) := by decide +kernel
theorem dX6_rebase_182 : decode cX6_rebase 182 = .ok (.imul, 1) := by decide +kernel
theorem dX6_rebase_183 : decode cX6_rebase 183 = .ok (.iload 9, 2) := by decide +kernel
theorem dX6_rebase_185 : decode cX6_rebase 185 = .ok (.iadd, 1) := by decide +kernel
theorem dX6_rebase_186 : decode cX6_rebase 186 = .ok (.iload 10, 2) := by decide +kernel
theorem dX6_rebase_188 : decode cX6_rebase 188 = .ok (.bipush (-2), 2) := by decide +kernel
theorem dX6_rebase_190 : decode cX6_rebase 190 = .ok (.if_icmp .ne 19, 3) := by decide +kernel
theorem dX6_rebase_193 : decode cX6_rebase 193 = .ok (.aload_n 0, 1) := by decide +kernel
theorem dX6_rebase_194 : decode cX6_rebase 194 = .ok (.iload 6, 2) := by decide +kernel
theorem dX6_rebase_196 : decode cX6_rebase 196 = .ok (.iload 9, 2) := by decide +kernel
theorem dX6_rebase_198 : decode cX6_rebase 198 = .ok (.invokevirtual 129, 3) := by decide +kernel
theorem dX6_rebase_201 : decode cX6_rebase 201 = .ok (.iconst (-1), 1) := by decide +kernel
theorem dX6_rebase_202 : decode cX6_rebase 202 = .ok (.if_icmp .ne 7, 3) := by decide +kernel
theorem dX6_rebase_205 : decode cX6_rebase 205 = .ok (.iconst (-1), 1) := by decide +kernel
theorem dX6_rebase_206 : decode cX6_rebase 206 = .ok (.goto 5, 3) := by decide +kernel
theorem dX6_rebase_209 : decode cX6_rebase 209 = .ok (.iload 10, 2) := by decide +kernel
theorem dX6_rebase_211 : decode cX6_rebase 211 = .ok (.iastore, 1) := by decide +kernel
theorem dX6_rebase_212 : decode cX6_rebase 212 = .ok (.iinc 9 1, 3) := by decide +kernel
theorem dX6_rebase_215 : decode cX6_rebase 215 = .ok (.goto (-68), 3) := by decide +kernel
theorem dX6_rebase_218 : decode cX6_rebase 218 = .ok (.iconst 0, 1) := by decide +kernel
theorem dX6_rebase_219 : decode cX6_rebase 219 = .ok (.istore 9, 2) := by decide +kernel
theorem dX6_rebase_221 : decode cX6_rebase 221 = .ok (.iload 9, 2) := by decide +kernel
theorem dX6_rebase_223 : decode cX6_rebase 223 = .ok (.iconst 4, 1) := by decide +kernel
theorem dX6_rebase_224 : decode cX6_rebase 224 = .ok (.if_icmp .ge 38, 3) := by decide +kernel
theorem dX6_rebase_227 : decode cX6_rebase 227 = .ok (.aload_n 0, 1) := by decide +kernel
theorem dX6_rebase_228 : decode cX6_rebase 228 = .ok (.getfield 41, 3) := by decide +kernel
theorem dX6_rebase_231 : decode cX6_rebase 231 = .ok (.iconst 4, 1) := by decide +kernel
theorem dX6_rebase_232 : decode cX6_rebase 232 = .ok (.iload 8, 2) := by decide +kernel
theorem dX6_rebase_234 : decode cX6_rebase 234 = .ok (.imul, 1) := by decide +kernel
theorem dX6_rebase_235 : decode cX6_rebase 235 = .ok (.iload 9, 2) := by decide +kernel
theorem dX6_rebase_237 : decode cX6_rebase 237 = .ok (.iadd, 1) := by decide +kernel
theorem dX6_rebase_238 : decode cX6_rebase 238 = .ok (.aload_n 0, 1) := by decide +kernel
theorem dX6_rebase_239 : decode cX6_rebase 239 = .ok (.getfield 41, 3) := by decide +kernel
theorem dX6_rebase_242 : decode cX6_rebase 242 = .ok (.iconst 4, 1) := by decide +kernel
theorem dX6_rebase_243 : decode cX6_rebase 243 = .ok (.aload_n 0, 1) := by decide +kernel
theorem dX6_rebase_244 : decode cX6_rebase 244 = .ok (.getfield 78, 3) := by decide +kernel
theorem dX6_rebase_247 : decode cX6_rebase 247 = .ok (.iload 7, 2) := by decide +kernel
theorem dX6_rebase_249 : decode cX6_rebase 249 = .ok (.iaload, 1) := by decide +kernel
theorem dX6_rebase_250 : decode cX6_rebase 250 = .ok (.imul, 1) := by decide +kernel
theorem dX6_rebase_251 : decode cX6_rebase 251 = .ok (.iload 9, 2) := by decide +kernel
theorem dX6_rebase_253 : decode cX6_rebase 253 = .ok (.iadd, 1) := by decide +kernel
theorem dX6_rebase_254 : decode cX6_rebase 254 = .ok (.iaload, 1) := by decide +kernel
theorem dX6_rebase_255 : decode cX6_rebase 255 = .ok (.iastore, 1) := by decide +kernel
theorem dX6_rebase_256 : decode cX6_rebase 256 = .ok (.iinc 9 1, 3) := by decide +kernel
theorem dX6_rebase_259 : decode cX6_rebase 259 = .ok (.goto (-38), 3) := by decide +kernel
theorem dX6_rebase_262 : decode cX6_rebase 262 = .ok (.iload 8, 2) := by decide +kernel
theorem dX6_rebase_264 : decode cX6_rebase 264 = .ok (.istore 6, 2) := by decide +kernel
theorem dX6_rebase_266 : decode cX6_rebase 266 = .ok (.iinc 7 1, 3) := by decide +kernel
theorem dX6_rebase_269 : decode cX6_rebase 269 = .ok (.goto (-140), 3) := by decide +kernel
theorem dX6_rebase_272 : decode cX6_rebase 272 = .ok (.aload_n 0, 1) := by decide +kernel
theorem dX6_rebase_273 : decode cX6_rebase 273 = .ok (.getfield 56, 3) := by decide +kernel
theorem dX6_rebase_276 : decode cX6_rebase 276 = .ok (.iload_n 1, 1) := by decide +kernel
theorem dX6_rebase_277 : decode cX6_rebase 277 = .ok (.iload 6, 2) := by decide +kernel
theorem dX6_rebase_279 : decode cX6_rebase 279 = .ok (.iastore, 1) := by decide +kernel
theorem dX6_rebase_280 : decode cX6_rebase 280 = .ok (.iload 6, 2) := by decide +kernel
theorem dX6_rebase_282 : decode cX6_rebase 282 = .ok (.ireturn, 1) := by decide +kernel
set_option maxRecDepth 20000 in
set_option maxRecDepth 20000 in
theorem dX6_prune_0 : decode cX6_prune 0 = .ok (.aload_n 0, 1) := by decide +kernel
theorem dX6_prune_1 : decode cX6_prune 1 = .ok (.aload_n 0, 1) := by decide +kernel
theorem dX6_prune_2 : decode cX6_prune 2 = .ok (.getfield 118, 3) := by decide +kernel
theorem dX6_prune_5 : decode cX6_prune 5 = .ok (.ifCond .eq 7, 3) := by decide +kernel
theorem dX6_prune_8 : decode cX6_prune 8 = .ok (.iconst 1, 1) := by decide +kernel
theorem dX6_prune_9 : decode cX6_prune 9 = .ok (.goto 4, 3) := by decide +kernel
theorem dX6_prune_12 : decode cX6_prune 12 = .ok (.iconst 0, 1) := by decide +kernel
theorem dX6_prune_13 : decode cX6_prune 13 = .ok (.invokevirtual 95, 3) := by decide +kernel
theorem dX6_prune_16 : decode cX6_prune 16 = .ok (.ifCond .eq 5, 3) := by decide +kernel
theorem dX6_prune_19 : decode cX6_prune 19 = .ok (.iconst 0, 1) := by decide +kernel
theorem dX6_prune_20 : decode cX6_prune 20 = .ok (.ireturn, 1) := by decide +kernel
theorem dX6_prune_21 : decode cX6_prune 21 = .ok (.iconst 0, 1) := by decide +kernel
theorem dX6_prune_22 : decode cX6_prune 22 = .ok (.istore_n 1, 1) := by decide +kernel
theorem dX6_prune_23 : decode cX6_prune 23 = .ok (.iload_n 1, 1) := by decide +kernel
theorem dX6_prune_24 : decode cX6_prune 24 = .ok (.aload_n 0, 1) := by decide +kernel
theorem dX6_prune_25 : decode cX6_prune 25 = .ok (.getfield 102, 3) := by decide +kernel
theorem dX6_prune_28 : decode cX6_prune 28 = .ok (.if_icmp .ge 16, 3) := by decide +kernel
theorem dX6_prune_31 : decode cX6_prune 31 = .ok (.aload_n 0, 1) := by decide +kernel
theorem dX6_prune_32 : decode cX6_prune 32 = .ok (.getfield 81, 3) := by decide +kernel
theorem dX6_prune_35 : decode cX6_prune 35 = .ok (.iload_n 1, 1) := by decide +kernel
theorem dX6_prune_36 : decode cX6_prune 36 = .ok (.iconst 0, 1) := by decide +kernel
theorem dX6_prune_37 : decode cX6_prune 37 = .ok (.bastore, 1) := by decide +kernel
theorem dX6_prune_38 : decode cX6_prune 38 = .ok (.iinc 1 1, 3) := by decide +kernel
theorem dX6_prune_41 : decode cX6_prune 41 = .ok (.goto (-18), 3) := by decide +kernel
theorem dX6_prune_44 : decode cX6_prune 44 = .ok (.iconst 0, 1) := by decide +kernel
theorem dX6_prune_45 : decode cX6_prune 45 = .ok (.istore_n 1, 1) := by decide +kernel
theorem dX6_prune_46 : decode cX6_prune 46 = .ok (.iload_n 1, 1) := by decide +kernel
theorem dX6_prune_47 : decode cX6_prune 47 = .ok (.iconst 5, 1) := by decide +kernel
theorem dX6_prune_48 : decode cX6_prune 48 = .ok (.if_icmp .ge 38, 3) := by decide +kernel
theorem dX6_prune_51 : decode cX6_prune 51 = .ok (.aload_n 0, 1) := by decide +kernel
theorem dX6_prune_52 : decode cX6_prune 52 = .ok (.getfield 56, 3) := by decide +kernel
theorem dX6_prune_55 : decode cX6_prune 55 = .ok (.iload_n 1, 1) := by decide +kernel
theorem dX6_prune_56 : decode cX6_prune 56 = .ok (.iaload, 1) := by decide +kernel
theorem dX6_prune_57 : decode cX6_prune 57 = .ok (.istore_n 2, 1) := by decide +kernel
theorem dX6_prune_58 : decode cX6_prune 58 = .ok (.iload_n 2, 1) := by decide +kernel
theorem dX6_prune_59 : decode cX6_prune 59 = .ok (.iconst (-1), 1) := by decide +kernel
theorem dX6_prune_60 : decode cX6_prune 60 = .ok (.if_icmp .eq 20, 3) := by decide +kernel
theorem dX6_prune_63 : decode cX6_prune 63 = .ok (.aload_n 0, 1) := by decide +kernel
theorem dX6_prune_64 : decode cX6_prune 64 = .ok (.getfield 81, 3) := by decide +kernel
theorem dX6_prune_67 : decode cX6_prune 67 = .ok (.iload_n 2, 1) := by decide +kernel
theorem dX6_prune_68 : decode cX6_prune 68 = .ok (.iconst 1, 1) := by decide +kernel
theorem dX6_prune_69 : decode cX6_prune 69 = .ok (.bastore, 1) := by decide +kernel
theorem dX6_prune_70 : decode cX6_prune 70 = .ok (.aload_n 0, 1) := by decide +kernel
theorem dX6_prune_71 : decode cX6_prune 71 = .ok (.getfield 35, 3) := by decide +kernel
theorem dX6_prune_74 : decode cX6_prune 74 = .ok (.iload_n 2, 1) := by decide +kernel
theorem dX6_prune_75 : decode cX6_prune 75 = .ok (.iaload, 1) := by decide +kernel
theorem dX6_prune_76 : decode cX6_prune 76 = .ok (.istore_n 2, 1) := by decide +kernel
theorem dX6_prune_77 : decode cX6_prune 77 = .ok (.goto (-19), 3) := by decide +kernel
theorem dX6_prune_80 : decode cX6_prune 80 = .ok (.iinc 1 1, 3) := by decide +kernel
theorem dX6_prune_83 : decode cX6_prune 83 = .ok (.goto (-37), 3) := by decide +kernel
theorem dX6_prune_86 : decode cX6_prune 86 = .ok (.iconst 0, 1) := by decide +kernel
theorem dX6_prune_87 : decode cX6_prune 87 = .ok (.istore_n 1, 1) := by decide +kernel
theorem dX6_prune_88 : decode cX6_prune 88 = .ok (.iconst 0, 1) := by decide +kernel
theorem dX6_prune_89 : decode cX6_prune 89 = .ok (.istore_n 2, 1) := by decide +kernel
theorem dX6_prune_90 : decode cX6_prune 90 = .ok (.iload_n 2, 1) := by decide +kernel
theorem dX6_prune_91 : decode cX6_prune 91 = .ok (.aload_n 0, 1) := by decide +kernel
theorem dX6_prune_92 : decode cX6_prune 92 = .ok (.getfield 102, 3) := by decide +kernel
theorem dX6_prune_95 : decode cX6_prune 95 = .ok (.if_icmp .ge 55, 3) := by decide +kernel
theorem dX6_prune_98 : decode cX6_prune 98 = .ok (.iload_n 1, 1) := by decide +kernel
theorem dX6_prune_99 : decode cX6_prune 99 = .ok (.aload_n 0, 1) := by decide +kernel
theorem dX6_prune_100 : decode cX6_prune 100 = .ok (.getfield 81, 3) := by decide +kernel
theorem dX6_prune_103 : decode cX6_prune 103 = .ok (.iload_n 2, 1) := by decide +kernel
theorem dX6_prune_104 : decode cX6_prune 104 = .ok (.baload, 1) := by decide +kernel
theorem dX6_prune_105 : decode cX6_prune 105 = .ok (.ifCond .ne 12, 3) := by decide +kernel
theorem dX6_prune_108 : decode cX6_prune 108 = .ok (.aload_n 0, 1) := by decide +kernel
theorem dX6_prune_109 : decode cX6_prune 109 = .ok (.getfield 31, 3) := by decide +kernel
theorem dX6_prune_112 : decode cX6_prune 112 = .ok (.iload_n 2, 1) := by decide +kernel
theorem dX6_prune_113 : decode cX6_prune 113 = .ok (.baload, 1) := by decide +kernel
theorem dX6_prune_114 : decode cX6_prune 114 = .ok (.ifCond .eq 7, 3) := by decide +kernel
theorem dX6_prune_117 : decode cX6_prune 117 = .ok (.iconst 0, 1) := by decide +kernel
theorem dX6_prune_118 : decode cX6_prune 118 = .ok (.goto 4, 3) := by decide +kernel
theorem dX6_prune_121 : decode cX6_prune 121 = .ok (.iconst 1, 1) := by decide +kernel
theorem dX6_prune_122 : decode cX6_prune 122 = .ok (.iadd, 1) := by decide +kernel
theorem dX6_prune_123 : decode cX6_prune 123 = .ok (.istore_n 1, 1) := by decide +kernel
theorem dX6_prune_124 : decode cX6_prune 124 = .ok (.aload_n 0, 1) := by decide +kernel
theorem dX6_prune_125 : decode cX6_prune 125 = .ok (.getfield 31, 3) := by decide +kernel
theorem dX6_prune_128 : decode cX6_prune 128 = .ok (.iload_n 2, 1) := by decide +kernel
theorem dX6_prune_129 : decode cX6_prune 129 = .ok (.aload_n 0, 1) := by decide +kernel
theorem dX6_prune_130 : decode cX6_prune 130 = .ok (.getfield 81, 3) := by decide +kernel
theorem dX6_prune_133 : decode cX6_prune 133 = .ok (.iload_n 2, 1) := by decide +kernel
theorem dX6_prune_134 : decode cX6_prune 134 = .ok (.baload, 1) := by decide +kernel
theorem dX6_prune_135 : decode cX6_prune 135 = .ok (.ifCond .ne 7, 3) := by decide +kernel
theorem dX6_prune_138 : decode cX6_prune 138 = .ok (.iconst 1, 1) := by decide +kernel
theorem dX6_prune_139 : decode cX6_prune 139 = .ok (.goto 4, 3) := by decide +kernel
theorem dX6_prune_142 : decode cX6_prune 142 = .ok (.iconst 0, 1) := by decide +kernel
theorem dX6_prune_143 : decode cX6_prune 143 = .ok (.bastore, 1) := by decide +kernel
theorem dX6_prune_144 : decode cX6_prune 144 = .ok (.iinc 2 1, 3) := by decide +kernel
theorem dX6_prune_147 : decode cX6_prune 147 = .ok (.goto (-57), 3) := by decide +kernel
theorem dX6_prune_150 : decode cX6_prune 150 = .ok (.iload_n 1, 1) := by decide +kernel
theorem dX6_prune_151 : decode cX6_prune 151 = .ok (.ireturn, 1) := by decide +kernel
set_option maxRecDepth 20000 in
set_option maxRecDepth 20000 in
theorem dX6_layers_0 : decode cX6_layers 0 = .ok (.aload_n 0, 1) := by decide +kernel
theorem dX6_layers_1 : decode cX6_layers 1 = .ok (.aload_n 0, 1) := by decide +kernel
theorem dX6_layers_2 : decode cX6_layers 2 = .ok (.getfield 102, 3) := by decide +kernel
theorem dX6_layers_5 : decode cX6_layers 5 = .ok (.invokevirtual 153, 3) := by decide +kernel
theorem dX6_layers_8 : decode cX6_layers 8 = .ok (.ireturn, 1) := by decide +kernel
set_option maxRecDepth 20000 in
set_option maxRecDepth 20000 in
set_option maxRecDepth 20000 in
set_option maxRecDepth 20000 in
theorem dX6_parentOf_0 : decode cX6_parentOf 0 = .ok (.aload_n 0, 1) := by decide +kernel
theorem dX6_parentOf_1 : decode cX6_parentOf 1 = .ok (.aload_n 0, 1) := by decide +kernel
theorem dX6_parentOf_2 : decode cX6_parentOf 2 = .ok (.iload_n 1, 1) := by decide +kernel
theorem dX6_parentOf_3 : decode cX6_parentOf 3 = .ok (.invokevirtual 167, 3) := by decide +kernel
theorem dX6_parentOf_6 : decode cX6_parentOf 6 = .ok (.ifCond .eq 7, 3) := by decide +kernel
theorem dX6_parentOf_9 : decode cX6_parentOf 9 = .ok (.iconst 0, 1) := by decide +kernel
theorem dX6_parentOf_10 : decode cX6_parentOf 10 = .ok (.goto 4, 3) := by decide +kernel
theorem dX6_parentOf_13 : decode cX6_parentOf 13 = .ok (.iconst 1, 1) := by decide +kernel
theorem dX6_parentOf_14 : decode cX6_parentOf 14 = .ok (.invokevirtual 95, 3) := by decide +kernel
theorem dX6_parentOf_17 : decode cX6_parentOf 17 = .ok (.ifCond .eq 7, 3) := by decide +kernel
theorem dX6_parentOf_20 : decode cX6_parentOf 20 = .ok (.iconst 0, 1) := by decide +kernel
theorem dX6_parentOf_21 : decode cX6_parentOf 21 = .ok (.goto 9, 3) := by decide +kernel
theorem dX6_parentOf_24 : decode cX6_parentOf 24 = .ok (.aload_n 0, 1) := by decide +kernel
theorem dX6_parentOf_25 : decode cX6_parentOf 25 = .ok (.getfield 35, 3) := by decide +kernel
theorem dX6_parentOf_28 : decode cX6_parentOf 28 = .ok (.iload_n 1, 1) := by decide +kernel
theorem dX6_parentOf_29 : decode cX6_parentOf 29 = .ok (.iaload, 1) := by decide +kernel
theorem dX6_parentOf_30 : decode cX6_parentOf 30 = .ok (.ireturn, 1) := by decide +kernel
theorem dX6_size_0 : decode cX6_size 0 = .ok (.iconst 0, 1) := by decide +kernel
theorem dX6_size_1 : decode cX6_size 1 = .ok (.istore_n 2, 1) := by decide +kernel
theorem dX6_size_2 : decode cX6_size 2 = .ok (.iconst 0, 1) := by decide +kernel
theorem dX6_size_3 : decode cX6_size 3 = .ok (.istore_n 3, 1) := by decide +kernel
theorem dX6_size_4 : decode cX6_size 4 = .ok (.iload_n 3, 1) := by decide +kernel
theorem dX6_size_5 : decode cX6_size 5 = .ok (.bipush 12, 2) := by decide +kernel
theorem dX6_size_7 : decode cX6_size 7 = .ok (.if_icmp .ge 32, 3) := by decide +kernel
theorem dX6_size_10 : decode cX6_size 10 = .ok (.iload_n 2, 1) := by decide +kernel
theorem dX6_size_11 : decode cX6_size 11 = .ok (.aload_n 0, 1) := by decide +kernel
theorem dX6_size_12 : decode cX6_size 12 = .ok (.getfield 38, 3) := by decide +kernel
theorem dX6_size_15 : decode cX6_size 15 = .ok (.bipush 12, 2) := by decide +kernel
theorem dX6_size_17 : decode cX6_size 17 = .ok (.iload_n 1, 1) := by decide +kernel
theorem dX6_size_18 : decode cX6_size 18 = .ok (.imul, 1) := by decide +kernel
theorem dX6_size_19 : decode cX6_size 19 = .ok (.iload_n 3, 1) := by decide +kernel
theorem dX6_size_20 : decode cX6_size 20 = .ok (.iadd, 1) := by decide +kernel
theorem dX6_size_21 : decode cX6_size 21 = .ok (.iaload, 1) := by decide +kernel
theorem dX6_size_22 : decode cX6_size 22 = .ok (.iconst (-1), 1) := by decide +kernel
theorem dX6_size_23 : decode cX6_size 23 = .ok (.if_icmp .ne 7, 3) := by decide +kernel
theorem dX6_size_26 : decode cX6_size 26 = .ok (.iconst 0, 1) := by decide +kernel
theorem dX6_size_27 : decode cX6_size 27 = .ok (.goto 4, 3) := by decide +kernel
theorem dX6_size_30 : decode cX6_size 30 = .ok (.iconst 1, 1) := by decide +kernel
theorem dX6_size_31 : decode cX6_size 31 = .ok (.iadd, 1) := by decide +kernel
theorem dX6_size_32 : decode cX6_size 32 = .ok (.istore_n 2, 1) := by decide +kernel
theorem dX6_size_33 : decode cX6_size 33 = .ok (.iinc 3 1, 3) := by decide +kernel
theorem dX6_size_36 : decode cX6_size 36 = .ok (.goto (-32), 3) := by decide +kernel
theorem dX6_size_39 : decode cX6_size 39 = .ok (.iload_n 2, 1) := by decide +kernel
theorem dX6_size_40 : decode cX6_size 40 = .ok (.ireturn, 1) := by decide +kernel
set_option maxRecDepth 20000 in
set_option maxRecDepth 20000 in
set_option maxRecDepth 20000 in
set_option maxRecDepth 20000 in
set_option maxRecDepth 20000 in
set_option maxRecDepth 20000 in
theorem dX6_sizeOf_0 : decode cX6_sizeOf 0 = .ok (.aload_n 0, 1) := by decide +kernel
theorem dX6_sizeOf_1 : decode cX6_sizeOf 1 = .ok (.aload_n 0, 1) := by decide +kernel
theorem dX6_sizeOf_2 : decode cX6_sizeOf 2 = .ok (.iload_n 1, 1) := by decide +kernel
theorem dX6_sizeOf_3 : decode cX6_sizeOf 3 = .ok (.invokevirtual 167, 3) := by decide +kernel
theorem dX6_sizeOf_6 : decode cX6_sizeOf 6 = .ok (.ifCond .eq 7, 3) := by decide +kernel
theorem dX6_sizeOf_9 : decode cX6_sizeOf 9 = .ok (.iconst 0, 1) := by decide +kernel
theorem dX6_sizeOf_10 : decode cX6_sizeOf 10 = .ok (.goto 4, 3) := by decide +kernel
theorem dX6_sizeOf_13 : decode cX6_sizeOf 13 = .ok (.iconst 1, 1) := by decide +kernel
theorem dX6_sizeOf_14 : decode cX6_sizeOf 14 = .ok (.invokevirtual 95, 3) := by decide +kernel
theorem dX6_sizeOf_17 : decode cX6_sizeOf 17 = .ok (.ifCond .eq 7, 3) := by decide +kernel
theorem dX6_sizeOf_20 : decode cX6_sizeOf 20 = .ok (.iconst 0, 1) := by decide +kernel
theorem dX6_sizeOf_21 : decode cX6_sizeOf 21 = .ok (.goto 8, 3) := by decide +kernel
theorem dX6_sizeOf_24 : decode cX6_sizeOf 24 = .ok (.aload_n 0, 1) := by decide +kernel
theorem dX6_sizeOf_25 : decode cX6_sizeOf 25 = .ok (.iload_n 1, 1) := by decide +kernel
theorem dX6_sizeOf_26 : decode cX6_sizeOf 26 = .ok (.invokevirtual 170, 3) := by decide +kernel
theorem dX6_sizeOf_29 : decode cX6_sizeOf 29 = .ok (.ireturn, 1) := by decide +kernel
set_option maxRecDepth 20000 in
set_option maxRecDepth 20000 in
set_option maxRecDepth 20000 in
set_option maxRecDepth 20000 in
set_option maxRecDepth 20000 in
set_option maxRecDepth 20000 in
theorem dX6_heldAt_0 : decode cX6_heldAt 0 = .ok (.aload_n 0, 1) := by decide +kernel
theorem dX6_heldAt_1 : decode cX6_heldAt 1 = .ok (.aload_n 0, 1) := by decide +kernel
theorem dX6_heldAt_2 : decode cX6_heldAt 2 = .ok (.iload_n 1, 1) := by decide +kernel
theorem dX6_heldAt_3 : decode cX6_heldAt 3 = .ok (.invokevirtual 167, 3) := by decide +kernel
theorem dX6_heldAt_6 : decode cX6_heldAt 6 = .ok (.ifCond .eq 16, 3) := by decide +kernel
theorem dX6_heldAt_9 : decode cX6_heldAt 9 = .ok (.iload_n 2, 1) := by decide +kernel
theorem dX6_heldAt_10 : decode cX6_heldAt 10 = .ok (.bipush 12, 2) := by decide +kernel
theorem dX6_heldAt_12 : decode cX6_heldAt 12 = .ok (.invokestatic 87, 3) := by decide +kernel
theorem dX6_heldAt_15 : decode cX6_heldAt 15 = .ok (.ifCond .eq 7, 3) := by decide +kernel
theorem dX6_heldAt_18 : decode cX6_heldAt 18 = .ok (.iconst 0, 1) := by decide +kernel
theorem dX6_heldAt_19 : decode cX6_heldAt 19 = .ok (.goto 4, 3) := by decide +kernel
theorem dX6_heldAt_22 : decode cX6_heldAt 22 = .ok (.iconst 1, 1) := by decide +kernel
theorem dX6_heldAt_23 : decode cX6_heldAt 23 = .ok (.invokevirtual 95, 3) := by decide +kernel
theorem dX6_heldAt_26 : decode cX6_heldAt 26 = .ok (.ifCond .eq 7, 3) := by decide +kernel
theorem dX6_heldAt_29 : decode cX6_heldAt 29 = .ok (.iconst 0, 1) := by decide +kernel
theorem dX6_heldAt_30 : decode cX6_heldAt 30 = .ok (.goto 14, 3) := by decide +kernel
theorem dX6_heldAt_33 : decode cX6_heldAt 33 = .ok (.aload_n 0, 1) := by decide +kernel
theorem dX6_heldAt_34 : decode cX6_heldAt 34 = .ok (.getfield 38, 3) := by decide +kernel
theorem dX6_heldAt_37 : decode cX6_heldAt 37 = .ok (.bipush 12, 2) := by decide +kernel
theorem dX6_heldAt_39 : decode cX6_heldAt 39 = .ok (.iload_n 1, 1) := by decide +kernel
theorem dX6_heldAt_40 : decode cX6_heldAt 40 = .ok (.imul, 1) := by decide +kernel
theorem dX6_heldAt_41 : decode cX6_heldAt 41 = .ok (.iload_n 2, 1) := by decide +kernel
theorem dX6_heldAt_42 : decode cX6_heldAt 42 = .ok (.iadd, 1) := by decide +kernel
theorem dX6_heldAt_43 : decode cX6_heldAt 43 = .ok (.iaload, 1) := by decide +kernel
theorem dX6_heldAt_44 : decode cX6_heldAt 44 = .ok (.ireturn, 1) := by decide +kernel
set_option maxRecDepth 20000 in
set_option maxRecDepth 20000 in
set_option maxRecDepth 20000 in
set_option maxRecDepth 20000 in
set_option maxRecDepth 20000 in
set_option maxRecDepth 20000 in
set_option maxRecDepth 20000 in
set_option maxRecDepth 20000 in
theorem dX6_shownAt_0 : decode cX6_shownAt 0 = .ok (.aload_n 0, 1) := by decide +kernel
theorem dX6_shownAt_1 : decode cX6_shownAt 1 = .ok (.aload_n 0, 1) := by decide +kernel
theorem dX6_shownAt_2 : decode cX6_shownAt 2 = .ok (.iload_n 1, 1) := by decide +kernel
theorem dX6_shownAt_3 : decode cX6_shownAt 3 = .ok (.invokevirtual 167, 3) := by decide +kernel
theorem dX6_shownAt_6 : decode cX6_shownAt 6 = .ok (.ifCond .eq 16, 3) := by decide +kernel
theorem dX6_shownAt_9 : decode cX6_shownAt 9 = .ok (.iload_n 2, 1) := by decide +kernel
theorem dX6_shownAt_10 : decode cX6_shownAt 10 = .ok (.bipush 12, 2) := by decide +kernel
theorem dX6_shownAt_12 : decode cX6_shownAt 12 = .ok (.invokestatic 87, 3) := by decide +kernel
theorem dX6_shownAt_15 : decode cX6_shownAt 15 = .ok (.ifCond .eq 7, 3) := by decide +kernel
theorem dX6_shownAt_18 : decode cX6_shownAt 18 = .ok (.iconst 0, 1) := by decide +kernel
theorem dX6_shownAt_19 : decode cX6_shownAt 19 = .ok (.goto 4, 3) := by decide +kernel
theorem dX6_shownAt_22 : decode cX6_shownAt 22 = .ok (.iconst 1, 1) := by decide +kernel
theorem dX6_shownAt_23 : decode cX6_shownAt 23 = .ok (.invokevirtual 95, 3) := by decide +kernel
theorem dX6_shownAt_26 : decode cX6_shownAt 26 = .ok (.ifCond .eq 7, 3) := by decide +kernel
theorem dX6_shownAt_29 : decode cX6_shownAt 29 = .ok (.iconst 0, 1) := by decide +kernel
theorem dX6_shownAt_30 : decode cX6_shownAt 30 = .ok (.goto 9, 3) := by decide +kernel
theorem dX6_shownAt_33 : decode cX6_shownAt 33 = .ok (.aload_n 0, 1) := by decide +kernel
theorem dX6_shownAt_34 : decode cX6_shownAt 34 = .ok (.iload_n 1, 1) := by decide +kernel
theorem dX6_shownAt_35 : decode cX6_shownAt 35 = .ok (.iload_n 2, 1) := by decide +kernel
theorem dX6_shownAt_36 : decode cX6_shownAt 36 = .ok (.invokevirtual 129, 3) := by decide +kernel
theorem dX6_shownAt_39 : decode cX6_shownAt 39 = .ok (.ireturn, 1) := by decide +kernel
set_option maxRecDepth 20000 in
set_option maxRecDepth 20000 in
set_option maxRecDepth 20000 in
set_option maxRecDepth 20000 in
set_option maxRecDepth 20000 in
set_option maxRecDepth 20000 in
theorem dX6_variable_0 : decode cX6_variable 0 = .ok (.aload_n 0, 1) := by decide +kernel
theorem dX6_variable_1 : decode cX6_variable 1 = .ok (.aload_n 0, 1) := by decide +kernel
theorem dX6_variable_2 : decode cX6_variable 2 = .ok (.iload_n 1, 1) := by decide +kernel
theorem dX6_variable_3 : decode cX6_variable 3 = .ok (.invokevirtual 167, 3) := by decide +kernel
theorem dX6_variable_6 : decode cX6_variable 6 = .ok (.ifCond .eq 15, 3) := by decide +kernel
theorem dX6_variable_9 : decode cX6_variable 9 = .ok (.iload_n 2, 1) := by decide +kernel
theorem dX6_variable_10 : decode cX6_variable 10 = .ok (.iconst 4, 1) := by decide +kernel
theorem dX6_variable_11 : decode cX6_variable 11 = .ok (.invokestatic 87, 3) := by decide +kernel
theorem dX6_variable_14 : decode cX6_variable 14 = .ok (.ifCond .eq 7, 3) := by decide +kernel
theorem dX6_variable_17 : decode cX6_variable 17 = .ok (.iconst 0, 1) := by decide +kernel
theorem dX6_variable_18 : decode cX6_variable 18 = .ok (.goto 4, 3) := by decide +kernel
theorem dX6_variable_21 : decode cX6_variable 21 = .ok (.iconst 1, 1) := by decide +kernel
theorem dX6_variable_22 : decode cX6_variable 22 = .ok (.invokevirtual 95, 3) := by decide +kernel
theorem dX6_variable_25 : decode cX6_variable 25 = .ok (.ifCond .eq 7, 3) := by decide +kernel
theorem dX6_variable_28 : decode cX6_variable 28 = .ok (.iconst 0, 1) := by decide +kernel
theorem dX6_variable_29 : decode cX6_variable 29 = .ok (.goto 13, 3) := by decide +kernel
theorem dX6_variable_32 : decode cX6_variable 32 = .ok (.aload_n 0, 1) := by decide +kernel
theorem dX6_variable_33 : decode cX6_variable 33 = .ok (.getfield 41, 3) := by decide +kernel
theorem dX6_variable_36 : decode cX6_variable 36 = .ok (.iconst 4, 1) := by decide +kernel
theorem dX6_variable_37 : decode cX6_variable 37 = .ok (.iload_n 1, 1) := by decide +kernel
theorem dX6_variable_38 : decode cX6_variable 38 = .ok (.imul, 1) := by decide +kernel
theorem dX6_variable_39 : decode cX6_variable 39 = .ok (.iload_n 2, 1) := by decide +kernel
theorem dX6_variable_40 : decode cX6_variable 40 = .ok (.iadd, 1) := by decide +kernel
theorem dX6_variable_41 : decode cX6_variable 41 = .ok (.iaload, 1) := by decide +kernel
theorem dX6_variable_42 : decode cX6_variable 42 = .ok (.ireturn, 1) := by decide +kernel
set_option maxRecDepth 20000 in
set_option maxRecDepth 20000 in
set_option maxRecDepth 20000 in
set_option maxRecDepth 20000 in
set_option maxRecDepth 20000 in
set_option maxRecDepth 20000 in
theorem dX6_depth_0 : decode cX6_depth 0 = .ok (.aload_n 0, 1) := by decide +kernel
theorem dX6_depth_1 : decode cX6_depth 1 = .ok (.aload_n 0, 1) := by decide +kernel
theorem dX6_depth_2 : decode cX6_depth 2 = .ok (.iload_n 1, 1) := by decide +kernel
theorem dX6_depth_3 : decode cX6_depth 3 = .ok (.invokevirtual 167, 3) := by decide +kernel
theorem dX6_depth_6 : decode cX6_depth 6 = .ok (.ifCond .eq 7, 3) := by decide +kernel
theorem dX6_depth_9 : decode cX6_depth 9 = .ok (.iconst 0, 1) := by decide +kernel
theorem dX6_depth_10 : decode cX6_depth 10 = .ok (.goto 4, 3) := by decide +kernel
theorem dX6_depth_13 : decode cX6_depth 13 = .ok (.iconst 1, 1) := by decide +kernel
theorem dX6_depth_14 : decode cX6_depth 14 = .ok (.invokevirtual 95, 3) := by decide +kernel
theorem dX6_depth_17 : decode cX6_depth 17 = .ok (.ifCond .eq 7, 3) := by decide +kernel
theorem dX6_depth_20 : decode cX6_depth 20 = .ok (.iconst 0, 1) := by decide +kernel
theorem dX6_depth_21 : decode cX6_depth 21 = .ok (.goto 8, 3) := by decide +kernel
theorem dX6_depth_24 : decode cX6_depth 24 = .ok (.aload_n 0, 1) := by decide +kernel
theorem dX6_depth_25 : decode cX6_depth 25 = .ok (.iload_n 1, 1) := by decide +kernel
theorem dX6_depth_26 : decode cX6_depth 26 = .ok (.invokevirtual 164, 3) := by decide +kernel
theorem dX6_depth_29 : decode cX6_depth 29 = .ok (.ireturn, 1) := by decide +kernel
set_option maxRecDepth 20000 in
set_option maxRecDepth 20000 in
set_option maxRecDepth 20000 in
set_option maxRecDepth 20000 in
set_option maxRecDepth 20000 in
set_option maxRecDepth 20000 in
theorem dX6_imageSize_0 : decode cX6_imageSize 0 = .ok (.aload_n 0, 1) := by decide +kernel
theorem dX6_imageSize_1 : decode cX6_imageSize 1 = .ok (.aload_n 0, 1) := by decide +kernel
theorem dX6_imageSize_2 : decode cX6_imageSize 2 = .ok (.iload_n 1, 1) := by decide +kernel
theorem dX6_imageSize_3 : decode cX6_imageSize 3 = .ok (.invokevirtual 167, 3) := by decide +kernel
theorem dX6_imageSize_6 : decode cX6_imageSize 6 = .ok (.ifCond .eq 7, 3) := by decide +kernel
theorem dX6_imageSize_9 : decode cX6_imageSize 9 = .ok (.iconst 0, 1) := by decide +kernel
theorem dX6_imageSize_10 : decode cX6_imageSize 10 = .ok (.goto 4, 3) := by decide +kernel
theorem dX6_imageSize_13 : decode cX6_imageSize 13 = .ok (.iconst 1, 1) := by decide +kernel
theorem dX6_imageSize_14 : decode cX6_imageSize 14 = .ok (.invokevirtual 95, 3) := by decide +kernel
theorem dX6_imageSize_17 : decode cX6_imageSize 17 = .ok (.ifCond .eq 5, 3) := by decide +kernel
theorem dX6_imageSize_20 : decode cX6_imageSize 20 = .ok (.iconst 0, 1) := by decide +kernel
theorem dX6_imageSize_21 : decode cX6_imageSize 21 = .ok (.ireturn, 1) := by decide +kernel
theorem dX6_imageSize_22 : decode cX6_imageSize 22 = .ok (.iconst 0, 1) := by decide +kernel
theorem dX6_imageSize_23 : decode cX6_imageSize 23 = .ok (.istore_n 2, 1) := by decide +kernel
theorem dX6_imageSize_24 : decode cX6_imageSize 24 = .ok (.iload_n 1, 1) := by decide +kernel
theorem dX6_imageSize_25 : decode cX6_imageSize 25 = .ok (.istore_n 3, 1) := by decide +kernel
theorem dX6_imageSize_26 : decode cX6_imageSize 26 = .ok (.iload_n 3, 1) := by decide +kernel
theorem dX6_imageSize_27 : decode cX6_imageSize 27 = .ok (.iconst (-1), 1) := by decide +kernel
theorem dX6_imageSize_28 : decode cX6_imageSize 28 = .ok (.if_icmp .eq 21, 3) := by decide +kernel
theorem dX6_imageSize_31 : decode cX6_imageSize 31 = .ok (.iload_n 2, 1) := by decide +kernel
theorem dX6_imageSize_32 : decode cX6_imageSize 32 = .ok (.aload_n 0, 1) := by decide +kernel
theorem dX6_imageSize_33 : decode cX6_imageSize 33 = .ok (.iload_n 3, 1) := by decide +kernel
theorem dX6_imageSize_34 : decode cX6_imageSize 34 = .ok (.invokevirtual 170, 3) := by decide +kernel
theorem dX6_imageSize_37 : decode cX6_imageSize 37 = .ok (.iadd, 1) := by decide +kernel
theorem dX6_imageSize_38 : decode cX6_imageSize 38 = .ok (.istore_n 2, 1) := by decide +kernel
theorem dX6_imageSize_39 : decode cX6_imageSize 39 = .ok (.aload_n 0, 1) := by decide +kernel
theorem dX6_imageSize_40 : decode cX6_imageSize 40 = .ok (.getfield 35, 3) := by decide +kernel
theorem dX6_imageSize_43 : decode cX6_imageSize 43 = .ok (.iload_n 3, 1) := by decide +kernel
theorem dX6_imageSize_44 : decode cX6_imageSize 44 = .ok (.iaload, 1) := by decide +kernel
theorem dX6_imageSize_45 : decode cX6_imageSize 45 = .ok (.istore_n 3, 1) := by decide +kernel
theorem dX6_imageSize_46 : decode cX6_imageSize 46 = .ok (.goto (-20), 3) := by decide +kernel
theorem dX6_imageSize_49 : decode cX6_imageSize 49 = .ok (.iload_n 2, 1) := by decide +kernel
theorem dX6_imageSize_50 : decode cX6_imageSize 50 = .ok (.ireturn, 1) := by decide +kernel
set_option maxRecDepth 20000 in
set_option maxRecDepth 20000 in
set_option maxRecDepth 20000 in
set_option maxRecDepth 20000 in
set_option maxRecDepth 20000 in
set_option maxRecDepth 20000 in
theorem dX6_digest_0 : decode cX6_digest 0 = .ok (.aload_n 0, 1) := by decide +kernel
theorem dX6_digest_1 : decode cX6_digest 1 = .ok (.aload_n 0, 1) := by decide +kernel
theorem dX6_digest_2 : decode cX6_digest 2 = .ok (.iload_n 1, 1) := by decide +kernel
theorem dX6_digest_3 : decode cX6_digest 3 = .ok (.invokevirtual 167, 3) := by decide +kernel
theorem dX6_digest_6 : decode cX6_digest 6 = .ok (.ifCond .eq 7, 3) := by decide +kernel
theorem dX6_digest_9 : decode cX6_digest 9 = .ok (.iconst 0, 1) := by decide +kernel
theorem dX6_digest_10 : decode cX6_digest 10 = .ok (.goto 4, 3) := by decide +kernel
theorem dX6_digest_13 : decode cX6_digest 13 = .ok (.iconst 1, 1) := by decide +kernel
theorem dX6_digest_14 : decode cX6_digest 14 = .ok (.invokevirtual 95, 3) := by decide +kernel
theorem dX6_digest_17 : decode cX6_digest 17 = .ok (.ifCond .eq 5, 3) := by decide +kernel
theorem dX6_digest_20 : decode cX6_digest 20 = .ok (.iconst 0, 1) := by decide +kernel
theorem dX6_digest_21 : decode cX6_digest 21 = .ok (.ireturn, 1) := by decide +kernel
theorem dX6_digest_22 : decode cX6_digest 22 = .ok (.iconst 1, 1) := by decide +kernel
theorem dX6_digest_23 : decode cX6_digest 23 = .ok (.istore_n 2, 1) := by decide +kernel
theorem dX6_digest_24 : decode cX6_digest 24 = .ok (.iconst 0, 1) := by decide +kernel
theorem dX6_digest_25 : decode cX6_digest 25 = .ok (.istore_n 3, 1) := by decide +kernel
theorem dX6_digest_26 : decode cX6_digest 26 = .ok (.iload_n 3, 1) := by decide +kernel
theorem dX6_digest_27 : decode cX6_digest 27 = .ok (.bipush 12, 2) := by decide +kernel
theorem dX6_digest_29 : decode cX6_digest 29 = .ok (.if_icmp .ge 43, 3) := by decide +kernel
theorem dX6_digest_32 : decode cX6_digest 32 = .ok (.aload_n 0, 1) := by decide +kernel
theorem dX6_digest_33 : decode cX6_digest 33 = .ok (.iload_n 1, 1) := by decide +kernel
theorem dX6_digest_34 : decode cX6_digest 34 = .ok (.iload_n 3, 1) := by decide +kernel
theorem dX6_digest_35 : decode cX6_digest 35 = .ok (.invokevirtual 129, 3) := by decide +kernel
theorem dX6_digest_38 : decode cX6_digest 38 = .ok (.istore 4, 2) := by decide +kernel
theorem dX6_digest_40 : decode cX6_digest 40 = .ok (.iload 4, 2) := by decide +kernel
theorem dX6_digest_42 : decode cX6_digest 42 = .ok (.iconst (-1), 1) := by decide +kernel
theorem dX6_digest_43 : decode cX6_digest 43 = .ok (.if_icmp .ne 7, 3) := by decide +kernel
theorem dX6_digest_46 : decode cX6_digest 46 = .ok (.iload_n 2, 1) := by decide +kernel
theorem dX6_digest_47 : decode cX6_digest 47 = .ok (.goto 18, 3) := by decide +kernel
theorem dX6_digest_50 : decode cX6_digest 50 = .ok (.bipush 31, 2) := by decide +kernel
theorem dX6_digest_52 : decode cX6_digest 52 = .ok (.iload_n 2, 1) := by decide +kernel
theorem dX6_digest_53 : decode cX6_digest 53 = .ok (.imul, 1) := by decide +kernel
theorem dX6_digest_54 : decode cX6_digest 54 = .ok (.bipush 101, 2) := by decide +kernel
theorem dX6_digest_56 : decode cX6_digest 56 = .ok (.iload_n 3, 1) := by decide +kernel
theorem dX6_digest_57 : decode cX6_digest 57 = .ok (.imul, 1) := by decide +kernel
theorem dX6_digest_58 : decode cX6_digest 58 = .ok (.iadd, 1) := by decide +kernel
theorem dX6_digest_59 : decode cX6_digest 59 = .ok (.iload 4, 2) := by decide +kernel
theorem dX6_digest_61 : decode cX6_digest 61 = .ok (.iadd, 1) := by decide +kernel
theorem dX6_digest_62 : decode cX6_digest 62 = .ok (.ldc 163, 2) := by decide +kernel
theorem dX6_digest_64 : decode cX6_digest 64 = .ok (.irem, 1) := by decide +kernel
theorem dX6_digest_65 : decode cX6_digest 65 = .ok (.istore_n 2, 1) := by decide +kernel
theorem dX6_digest_66 : decode cX6_digest 66 = .ok (.iinc 3 1, 3) := by decide +kernel
theorem dX6_digest_69 : decode cX6_digest 69 = .ok (.goto (-43), 3) := by decide +kernel
theorem dX6_digest_72 : decode cX6_digest 72 = .ok (.iload_n 2, 1) := by decide +kernel
theorem dX6_digest_73 : decode cX6_digest 73 = .ok (.ireturn, 1) := by decide +kernel
theorem dJ7_fill_53178_0 : decode cJ7_fill_53178 0 = .ok (.iconst 0, 1) := by decide +kernel
theorem dJ7_fill_53178_1 : decode cJ7_fill_53178 1 = .ok (.istore_n 2, 1) := by decide +kernel
theorem dJ7_fill_53178_2 : decode cJ7_fill_53178 2 = .ok (.aload_n 0, 1) := by decide +kernel
theorem dJ7_fill_53178_3 : decode cJ7_fill_53178 3 = .ok (.arraylength, 1) := by decide +kernel
theorem dJ7_fill_53178_4 : decode cJ7_fill_53178 4 = .ok (.istore_n 3, 1) := by decide +kernel
theorem dJ7_fill_53178_5 : decode cJ7_fill_53178 5 = .ok (.iload_n 2, 1) := by decide +kernel
theorem dJ7_fill_53178_6 : decode cJ7_fill_53178 6 = .ok (.iload_n 3, 1) := by decide +kernel
theorem dJ7_fill_53178_7 : decode cJ7_fill_53178 7 = .ok (.if_icmp .ge 13, 3) := by decide +kernel
theorem dJ7_fill_53178_10 : decode cJ7_fill_53178 10 = .ok (.aload_n 0, 1) := by decide +kernel
theorem dJ7_fill_53178_11 : decode cJ7_fill_53178 11 = .ok (.iload_n 2, 1) := by decide +kernel
theorem dJ7_fill_53178_12 : decode cJ7_fill_53178 12 = .ok (.iload_n 1, 1) := by decide +kernel
theorem dJ7_fill_53178_13 : decode cJ7_fill_53178 13 = .ok (.iastore, 1) := by decide +kernel
theorem dJ7_fill_53178_14 : decode cJ7_fill_53178 14 = .ok (.iinc 2 1, 3) := by decide +kernel
theorem dJ7_fill_53178_17 : decode cJ7_fill_53178 17 = .ok (.goto (-12), 3) := by decide +kernel
theorem dJ7_fill_53178_20 : decode cJ7_fill_53178 20 = .ok (.return_, 1) := by decide +kernel
set_option maxRecDepth 20000 in
set_option maxRecDepth 20000 in
theorem dL_setFile_0 : decode cL_setFile 0 = .ok (.aload_n 3, 1) := by decide +kernel
theorem dL_setFile_1 : decode cL_setFile 1 = .ok (.iconst 0, 1) := by decide +kernel
theorem dL_setFile_2 : decode cL_setFile 2 = .ok (.aload_n 0, 1) := by decide +kernel
theorem dL_setFile_3 : decode cL_setFile 3 = .ok (.iload_n 1, 1) := by decide +kernel
theorem dL_setFile_4 : decode cL_setFile 4 = .ok (.iload_n 2, 1) := by decide +kernel
theorem dL_setFile_5 : decode cL_setFile 5 = .ok (.invokevirtual 7, 3) := by decide +kernel
theorem dL_setFile_8 : decode cL_setFile 8 = .ok (.i2l, 1) := by decide +kernel
theorem dL_setFile_9 : decode cL_setFile 9 = .ok (.lastore, 1) := by decide +kernel
theorem dL_setFile_10 : decode cL_setFile 10 = .ok (.goto 11, 3) := by decide +kernel
theorem dL_setFile_13 : decode cL_setFile 13 = .ok (.astore 4, 2) := by decide +kernel
theorem dL_setFile_15 : decode cL_setFile 15 = .ok (.iconst 1, 1) := by decide +kernel
theorem dL_setFile_16 : decode cL_setFile 16 = .ok (.ireturn, 1) := by decide +kernel
theorem dL_setFile_17 : decode cL_setFile 17 = .ok (.astore 4, 2) := by decide +kernel
theorem dL_setFile_19 : decode cL_setFile 19 = .ok (.iconst 2, 1) := by decide +kernel
theorem dL_setFile_20 : decode cL_setFile 20 = .ok (.ireturn, 1) := by decide +kernel
theorem dL_setFile_21 : decode cL_setFile 21 = .ok (.iconst 0, 1) := by decide +kernel
theorem dL_setFile_22 : decode cL_setFile 22 = .ok (.ireturn, 1) := by decide +kernel
set_option maxRecDepth 20000 in
set_option maxRecDepth 20000 in
theorem dL_setBase_0 : decode cL_setBase 0 = .ok (.aload 4, 2) := by decide +kernel
theorem dL_setBase_2 : decode cL_setBase 2 = .ok (.iconst 0, 1) := by decide +kernel
theorem dL_setBase_3 : decode cL_setBase 3 = .ok (.aload_n 0, 1) := by decide +kernel
theorem dL_setBase_4 : decode cL_setBase 4 = .ok (.iload_n 1, 1) := by decide +kernel
theorem dL_setBase_5 : decode cL_setBase 5 = .ok (.iload_n 2, 1) := by decide +kernel
theorem dL_setBase_6 : decode cL_setBase 6 = .ok (.iload_n 3, 1) := by decide +kernel
theorem dL_setBase_7 : decode cL_setBase 7 = .ok (.invokevirtual 17, 3) := by decide +kernel
theorem dL_setBase_10 : decode cL_setBase 10 = .ok (.i2l, 1) := by decide +kernel
theorem dL_setBase_11 : decode cL_setBase 11 = .ok (.lastore, 1) := by decide +kernel
theorem dL_setBase_12 : decode cL_setBase 12 = .ok (.goto 11, 3) := by decide +kernel
theorem dL_setBase_15 : decode cL_setBase 15 = .ok (.astore 5, 2) := by decide +kernel
theorem dL_setBase_17 : decode cL_setBase 17 = .ok (.iconst 1, 1) := by decide +kernel
theorem dL_setBase_18 : decode cL_setBase 18 = .ok (.ireturn, 1) := by decide +kernel
theorem dL_setBase_19 : decode cL_setBase 19 = .ok (.astore 5, 2) := by decide +kernel
theorem dL_setBase_21 : decode cL_setBase 21 = .ok (.iconst 2, 1) := by decide +kernel
theorem dL_setBase_22 : decode cL_setBase 22 = .ok (.ireturn, 1) := by decide +kernel
theorem dL_setBase_23 : decode cL_setBase 23 = .ok (.iconst 0, 1) := by decide +kernel
theorem dL_setBase_24 : decode cL_setBase 24 = .ok (.ireturn, 1) := by decide +kernel
set_option maxRecDepth 20000 in
set_option maxRecDepth 20000 in
theorem dL_reset_0 : decode cL_reset 0 = .ok (.aload_n 3, 1) := by decide +kernel
theorem dL_reset_1 : decode cL_reset 1 = .ok (.iconst 0, 1) := by decide +kernel
theorem dL_reset_2 : decode cL_reset 2 = .ok (.aload_n 0, 1) := by decide +kernel
theorem dL_reset_3 : decode cL_reset 3 = .ok (.iload_n 1, 1) := by decide +kernel
theorem dL_reset_4 : decode cL_reset 4 = .ok (.iload_n 2, 1) := by decide +kernel
theorem dL_reset_5 : decode cL_reset 5 = .ok (.invokevirtual 21, 3) := by decide +kernel
theorem dL_reset_8 : decode cL_reset 8 = .ok (.i2l, 1) := by decide +kernel
theorem dL_reset_9 : decode cL_reset 9 = .ok (.lastore, 1) := by decide +kernel
theorem dL_reset_10 : decode cL_reset 10 = .ok (.goto 7, 3) := by decide +kernel
theorem dL_reset_13 : decode cL_reset 13 = .ok (.astore 4, 2) := by decide +kernel
theorem dL_reset_15 : decode cL_reset 15 = .ok (.iconst 1, 1) := by decide +kernel
theorem dL_reset_16 : decode cL_reset 16 = .ok (.ireturn, 1) := by decide +kernel
theorem dL_reset_17 : decode cL_reset 17 = .ok (.iconst 0, 1) := by decide +kernel
theorem dL_reset_18 : decode cL_reset 18 = .ok (.ireturn, 1) := by decide +kernel
set_option maxRecDepth 20000 in
set_option maxRecDepth 20000 in
theorem dL_addCopy_0 : decode cL_addCopy 0 = .ok (.aload 4, 2) := by decide +kernel
theorem dL_addCopy_2 : decode cL_addCopy 2 = .ok (.iconst 0, 1) := by decide +kernel
theorem dL_addCopy_3 : decode cL_addCopy 3 = .ok (.aload_n 0, 1) := by decide +kernel
theorem dL_addCopy_4 : decode cL_addCopy 4 = .ok (.iload_n 1, 1) := by decide +kernel
theorem dL_addCopy_5 : decode cL_addCopy 5 = .ok (.iload_n 2, 1) := by decide +kernel
theorem dL_addCopy_6 : decode cL_addCopy 6 = .ok (.iload_n 3, 1) := by decide +kernel
theorem dL_addCopy_7 : decode cL_addCopy 7 = .ok (.invokevirtual 24, 3) := by decide +kernel
theorem dL_addCopy_10 : decode cL_addCopy 10 = .ok (.i2l, 1) := by decide +kernel
theorem dL_addCopy_11 : decode cL_addCopy 11 = .ok (.lastore, 1) := by decide +kernel
theorem dL_addCopy_12 : decode cL_addCopy 12 = .ok (.goto 11, 3) := by decide +kernel
theorem dL_addCopy_15 : decode cL_addCopy 15 = .ok (.astore 5, 2) := by decide +kernel
theorem dL_addCopy_17 : decode cL_addCopy 17 = .ok (.iconst 1, 1) := by decide +kernel
theorem dL_addCopy_18 : decode cL_addCopy 18 = .ok (.ireturn, 1) := by decide +kernel
theorem dL_addCopy_19 : decode cL_addCopy 19 = .ok (.astore 5, 2) := by decide +kernel
theorem dL_addCopy_21 : decode cL_addCopy 21 = .ok (.iconst 2, 1) := by decide +kernel
theorem dL_addCopy_22 : decode cL_addCopy 22 = .ok (.ireturn, 1) := by decide +kernel
theorem dL_addCopy_23 : decode cL_addCopy 23 = .ok (.iconst 0, 1) := by decide +kernel
theorem dL_addCopy_24 : decode cL_addCopy 24 = .ok (.ireturn, 1) := by decide +kernel
set_option maxRecDepth 20000 in
set_option maxRecDepth 20000 in
theorem dL_addRun_0 : decode cL_addRun 0 = .ok (.aload 4, 2) := by decide +kernel
theorem dL_addRun_2 : decode cL_addRun 2 = .ok (.iconst 0, 1) := by decide +kernel
theorem dL_addRun_3 : decode cL_addRun 3 = .ok (.aload_n 0, 1) := by decide +kernel
theorem dL_addRun_4 : decode cL_addRun 4 = .ok (.iload_n 1, 1) := by decide +kernel
theorem dL_addRun_5 : decode cL_addRun 5 = .ok (.iload_n 2, 1) := by decide +kernel
theorem dL_addRun_6 : decode cL_addRun 6 = .ok (.iload_n 3, 1) := by decide +kernel
theorem dL_addRun_7 : decode cL_addRun 7 = .ok (.invokevirtual 29, 3) := by decide +kernel
theorem dL_addRun_10 : decode cL_addRun 10 = .ok (.i2l, 1) := by decide +kernel
theorem dL_addRun_11 : decode cL_addRun 11 = .ok (.lastore, 1) := by decide +kernel
theorem dL_addRun_12 : decode cL_addRun 12 = .ok (.goto 11, 3) := by decide +kernel
theorem dL_addRun_15 : decode cL_addRun 15 = .ok (.astore 5, 2) := by decide +kernel
theorem dL_addRun_17 : decode cL_addRun 17 = .ok (.iconst 1, 1) := by decide +kernel
theorem dL_addRun_18 : decode cL_addRun 18 = .ok (.ireturn, 1) := by decide +kernel
theorem dL_addRun_19 : decode cL_addRun 19 = .ok (.astore 5, 2) := by decide +kernel
theorem dL_addRun_21 : decode cL_addRun 21 = .ok (.iconst 2, 1) := by decide +kernel
theorem dL_addRun_22 : decode cL_addRun 22 = .ok (.ireturn, 1) := by decide +kernel
theorem dL_addRun_23 : decode cL_addRun 23 = .ok (.iconst 0, 1) := by decide +kernel
theorem dL_addRun_24 : decode cL_addRun 24 = .ok (.ireturn, 1) := by decide +kernel
set_option maxRecDepth 20000 in
set_option maxRecDepth 20000 in
theorem dL_addMove_0 : decode cL_addMove 0 = .ok (.aload 4, 2) := by decide +kernel
theorem dL_addMove_2 : decode cL_addMove 2 = .ok (.iconst 0, 1) := by decide +kernel
theorem dL_addMove_3 : decode cL_addMove 3 = .ok (.aload_n 0, 1) := by decide +kernel
theorem dL_addMove_4 : decode cL_addMove 4 = .ok (.iload_n 1, 1) := by decide +kernel
theorem dL_addMove_5 : decode cL_addMove 5 = .ok (.iload_n 2, 1) := by decide +kernel
theorem dL_addMove_6 : decode cL_addMove 6 = .ok (.iload_n 3, 1) := by decide +kernel
theorem dL_addMove_7 : decode cL_addMove 7 = .ok (.invokevirtual 32, 3) := by decide +kernel
theorem dL_addMove_10 : decode cL_addMove 10 = .ok (.i2l, 1) := by decide +kernel
theorem dL_addMove_11 : decode cL_addMove 11 = .ok (.lastore, 1) := by decide +kernel
theorem dL_addMove_12 : decode cL_addMove 12 = .ok (.goto 15, 3) := by decide +kernel
theorem dL_addMove_15 : decode cL_addMove 15 = .ok (.astore 5, 2) := by decide +kernel
theorem dL_addMove_17 : decode cL_addMove 17 = .ok (.iconst 1, 1) := by decide +kernel
theorem dL_addMove_18 : decode cL_addMove 18 = .ok (.ireturn, 1) := by decide +kernel
theorem dL_addMove_19 : decode cL_addMove 19 = .ok (.astore 5, 2) := by decide +kernel
theorem dL_addMove_21 : decode cL_addMove 21 = .ok (.iconst 2, 1) := by decide +kernel
theorem dL_addMove_22 : decode cL_addMove 22 = .ok (.ireturn, 1) := by decide +kernel
theorem dL_addMove_23 : decode cL_addMove 23 = .ok (.astore 5, 2) := by decide +kernel
theorem dL_addMove_25 : decode cL_addMove 25 = .ok (.iconst 3, 1) := by decide +kernel
theorem dL_addMove_26 : decode cL_addMove 26 = .ok (.ireturn, 1) := by decide +kernel
theorem dL_addMove_27 : decode cL_addMove 27 = .ok (.iconst 0, 1) := by decide +kernel
theorem dL_addMove_28 : decode cL_addMove 28 = .ok (.ireturn, 1) := by decide +kernel
set_option maxRecDepth 20000 in
set_option maxRecDepth 20000 in
theorem dL_addRemove_0 : decode cL_addRemove 0 = .ok (.aload_n 3, 1) := by decide +kernel
theorem dL_addRemove_1 : decode cL_addRemove 1 = .ok (.iconst 0, 1) := by decide +kernel
theorem dL_addRemove_2 : decode cL_addRemove 2 = .ok (.aload_n 0, 1) := by decide +kernel
theorem dL_addRemove_3 : decode cL_addRemove 3 = .ok (.iload_n 1, 1) := by decide +kernel
theorem dL_addRemove_4 : decode cL_addRemove 4 = .ok (.iload_n 2, 1) := by decide +kernel
theorem dL_addRemove_5 : decode cL_addRemove 5 = .ok (.invokevirtual 35, 3) := by decide +kernel
theorem dL_addRemove_8 : decode cL_addRemove 8 = .ok (.i2l, 1) := by decide +kernel
theorem dL_addRemove_9 : decode cL_addRemove 9 = .ok (.lastore, 1) := by decide +kernel
theorem dL_addRemove_10 : decode cL_addRemove 10 = .ok (.goto 11, 3) := by decide +kernel
theorem dL_addRemove_13 : decode cL_addRemove 13 = .ok (.astore 4, 2) := by decide +kernel
theorem dL_addRemove_15 : decode cL_addRemove 15 = .ok (.iconst 1, 1) := by decide +kernel
theorem dL_addRemove_16 : decode cL_addRemove 16 = .ok (.ireturn, 1) := by decide +kernel
theorem dL_addRemove_17 : decode cL_addRemove 17 = .ok (.astore 4, 2) := by decide +kernel
theorem dL_addRemove_19 : decode cL_addRemove 19 = .ok (.iconst 2, 1) := by decide +kernel
theorem dL_addRemove_20 : decode cL_addRemove 20 = .ok (.ireturn, 1) := by decide +kernel
theorem dL_addRemove_21 : decode cL_addRemove 21 = .ok (.iconst 0, 1) := by decide +kernel
theorem dL_addRemove_22 : decode cL_addRemove 22 = .ok (.ireturn, 1) := by decide +kernel
set_option maxRecDepth 20000 in
set_option maxRecDepth 20000 in
theorem dL_addSet_0 : decode cL_addSet 0 = .ok (.aload 4, 2) := by decide +kernel
theorem dL_addSet_2 : decode cL_addSet 2 = .ok (.iconst 0, 1) := by decide +kernel
theorem dL_addSet_3 : decode cL_addSet 3 = .ok (.aload_n 0, 1) := by decide +kernel
theorem dL_addSet_4 : decode cL_addSet 4 = .ok (.iload_n 1, 1) := by decide +kernel
theorem dL_addSet_5 : decode cL_addSet 5 = .ok (.iload_n 2, 1) := by decide +kernel
theorem dL_addSet_6 : decode cL_addSet 6 = .ok (.iload_n 3, 1) := by decide +kernel
theorem dL_addSet_7 : decode cL_addSet 7 = .ok (.invokevirtual 38, 3) := by decide +kernel
theorem dL_addSet_10 : decode cL_addSet 10 = .ok (.i2l, 1) := by decide +kernel
theorem dL_addSet_11 : decode cL_addSet 11 = .ok (.lastore, 1) := by decide +kernel
theorem dL_addSet_12 : decode cL_addSet 12 = .ok (.goto 15, 3) := by decide +kernel
theorem dL_addSet_15 : decode cL_addSet 15 = .ok (.astore 5, 2) := by decide +kernel
theorem dL_addSet_17 : decode cL_addSet 17 = .ok (.iconst 1, 1) := by decide +kernel
theorem dL_addSet_18 : decode cL_addSet 18 = .ok (.ireturn, 1) := by decide +kernel
theorem dL_addSet_19 : decode cL_addSet 19 = .ok (.astore 5, 2) := by decide +kernel
theorem dL_addSet_21 : decode cL_addSet 21 = .ok (.iconst 2, 1) := by decide +kernel
theorem dL_addSet_22 : decode cL_addSet 22 = .ok (.ireturn, 1) := by decide +kernel
theorem dL_addSet_23 : decode cL_addSet 23 = .ok (.astore 5, 2) := by decide +kernel
theorem dL_addSet_25 : decode cL_addSet 25 = .ok (.iconst 3, 1) := by decide +kernel
theorem dL_addSet_26 : decode cL_addSet 26 = .ok (.ireturn, 1) := by decide +kernel
theorem dL_addSet_27 : decode cL_addSet 27 = .ok (.iconst 0, 1) := by decide +kernel
theorem dL_addSet_28 : decode cL_addSet 28 = .ok (.ireturn, 1) := by decide +kernel
set_option maxRecDepth 20000 in
set_option maxRecDepth 20000 in
theorem dL_drop_0 : decode cL_drop 0 = .ok (.aload_n 3, 1) := by decide +kernel
theorem dL_drop_1 : decode cL_drop 1 = .ok (.iconst 0, 1) := by decide +kernel
theorem dL_drop_2 : decode cL_drop 2 = .ok (.aload_n 0, 1) := by decide +kernel
theorem dL_drop_3 : decode cL_drop 3 = .ok (.iload_n 1, 1) := by decide +kernel
theorem dL_drop_4 : decode cL_drop 4 = .ok (.iload_n 2, 1) := by decide +kernel
theorem dL_drop_5 : decode cL_drop 5 = .ok (.invokevirtual 41, 3) := by decide +kernel
theorem dL_drop_8 : decode cL_drop 8 = .ok (.i2l, 1) := by decide +kernel
theorem dL_drop_9 : decode cL_drop 9 = .ok (.lastore, 1) := by decide +kernel
theorem dL_drop_10 : decode cL_drop 10 = .ok (.goto 7, 3) := by decide +kernel
theorem dL_drop_13 : decode cL_drop 13 = .ok (.astore 4, 2) := by decide +kernel
theorem dL_drop_15 : decode cL_drop 15 = .ok (.iconst 1, 1) := by decide +kernel
theorem dL_drop_16 : decode cL_drop 16 = .ok (.ireturn, 1) := by decide +kernel
theorem dL_drop_17 : decode cL_drop 17 = .ok (.iconst 0, 1) := by decide +kernel
theorem dL_drop_18 : decode cL_drop 18 = .ok (.ireturn, 1) := by decide +kernel
set_option maxRecDepth 20000 in
set_option maxRecDepth 20000 in
theorem dL_instructions_0 : decode cL_instructions 0 = .ok (.aload_n 2, 1) := by decide +kernel
theorem dL_instructions_1 : decode cL_instructions 1 = .ok (.iconst 0, 1) := by decide +kernel
theorem dL_instructions_2 : decode cL_instructions 2 = .ok (.aload_n 0, 1) := by decide +kernel
theorem dL_instructions_3 : decode cL_instructions 3 = .ok (.iload_n 1, 1) := by decide +kernel
theorem dL_instructions_4 : decode cL_instructions 4 = .ok (.invokevirtual 44, 3) := by decide +kernel
theorem dL_instructions_7 : decode cL_instructions 7 = .ok (.i2l, 1) := by decide +kernel
theorem dL_instructions_8 : decode cL_instructions 8 = .ok (.lastore, 1) := by decide +kernel
theorem dL_instructions_9 : decode cL_instructions 9 = .ok (.goto 6, 3) := by decide +kernel
theorem dL_instructions_12 : decode cL_instructions 12 = .ok (.astore_n 3, 1) := by decide +kernel
theorem dL_instructions_13 : decode cL_instructions 13 = .ok (.iconst 1, 1) := by decide +kernel
theorem dL_instructions_14 : decode cL_instructions 14 = .ok (.ireturn, 1) := by decide +kernel
theorem dL_instructions_15 : decode cL_instructions 15 = .ok (.iconst 0, 1) := by decide +kernel
theorem dL_instructions_16 : decode cL_instructions 16 = .ok (.ireturn, 1) := by decide +kernel
set_option maxRecDepth 20000 in
set_option maxRecDepth 20000 in
theorem dL_start_0 : decode cL_start 0 = .ok (.aload_n 2, 1) := by decide +kernel
theorem dL_start_1 : decode cL_start 1 = .ok (.iconst 0, 1) := by decide +kernel
theorem dL_start_2 : decode cL_start 2 = .ok (.aload_n 0, 1) := by decide +kernel
theorem dL_start_3 : decode cL_start 3 = .ok (.iload_n 1, 1) := by decide +kernel
theorem dL_start_4 : decode cL_start 4 = .ok (.invokevirtual 48, 3) := by decide +kernel
theorem dL_start_7 : decode cL_start 7 = .ok (.i2l, 1) := by decide +kernel
theorem dL_start_8 : decode cL_start 8 = .ok (.lastore, 1) := by decide +kernel
theorem dL_start_9 : decode cL_start 9 = .ok (.goto 9, 3) := by decide +kernel
theorem dL_start_12 : decode cL_start 12 = .ok (.astore_n 3, 1) := by decide +kernel
theorem dL_start_13 : decode cL_start 13 = .ok (.iconst 1, 1) := by decide +kernel
theorem dL_start_14 : decode cL_start 14 = .ok (.ireturn, 1) := by decide +kernel
theorem dL_start_15 : decode cL_start 15 = .ok (.astore_n 3, 1) := by decide +kernel
theorem dL_start_16 : decode cL_start 16 = .ok (.iconst 2, 1) := by decide +kernel
theorem dL_start_17 : decode cL_start 17 = .ok (.ireturn, 1) := by decide +kernel
theorem dL_start_18 : decode cL_start 18 = .ok (.iconst 0, 1) := by decide +kernel
theorem dL_start_19 : decode cL_start 19 = .ok (.ireturn, 1) := by decide +kernel
set_option maxRecDepth 20000 in
set_option maxRecDepth 20000 in
theorem dL_step_0 : decode cL_step 0 = .ok (.aload_n 1, 1) := by decide +kernel
theorem dL_step_1 : decode cL_step 1 = .ok (.iconst 0, 1) := by decide +kernel
theorem dL_step_2 : decode cL_step 2 = .ok (.aload_n 0, 1) := by decide +kernel
theorem dL_step_3 : decode cL_step 3 = .ok (.invokevirtual 51, 3) := by decide +kernel
theorem dL_step_6 : decode cL_step 6 = .ok (.i2l, 1) := by decide +kernel
theorem dL_step_7 : decode cL_step 7 = .ok (.lastore, 1) := by decide +kernel
theorem dL_step_8 : decode cL_step 8 = .ok (.goto 6, 3) := by decide +kernel
theorem dL_step_11 : decode cL_step 11 = .ok (.astore_n 2, 1) := by decide +kernel
theorem dL_step_12 : decode cL_step 12 = .ok (.iconst 1, 1) := by decide +kernel
theorem dL_step_13 : decode cL_step 13 = .ok (.ireturn, 1) := by decide +kernel
theorem dL_step_14 : decode cL_step 14 = .ok (.iconst 0, 1) := by decide +kernel
theorem dL_step_15 : decode cL_step 15 = .ok (.ireturn, 1) := by decide +kernel
set_option maxRecDepth 20000 in
set_option maxRecDepth 20000 in
theorem dL_build_0 : decode cL_build 0 = .ok (.aload_n 2, 1) := by decide +kernel
theorem dL_build_1 : decode cL_build 1 = .ok (.iconst 0, 1) := by decide +kernel
theorem dL_build_2 : decode cL_build 2 = .ok (.aload_n 0, 1) := by decide +kernel
theorem dL_build_3 : decode cL_build 3 = .ok (.iload_n 1, 1) := by decide +kernel
theorem dL_build_4 : decode cL_build 4 = .ok (.invokevirtual 55, 3) := by decide +kernel
theorem dL_build_7 : decode cL_build 7 = .ok (.i2l, 1) := by decide +kernel
theorem dL_build_8 : decode cL_build 8 = .ok (.lastore, 1) := by decide +kernel
theorem dL_build_9 : decode cL_build 9 = .ok (.goto 9, 3) := by decide +kernel
theorem dL_build_12 : decode cL_build 12 = .ok (.astore_n 3, 1) := by decide +kernel
theorem dL_build_13 : decode cL_build 13 = .ok (.iconst 1, 1) := by decide +kernel
theorem dL_build_14 : decode cL_build 14 = .ok (.ireturn, 1) := by decide +kernel
theorem dL_build_15 : decode cL_build 15 = .ok (.astore_n 3, 1) := by decide +kernel
theorem dL_build_16 : decode cL_build 16 = .ok (.iconst 2, 1) := by decide +kernel
theorem dL_build_17 : decode cL_build 17 = .ok (.ireturn, 1) := by decide +kernel
theorem dL_build_18 : decode cL_build 18 = .ok (.iconst 0, 1) := by decide +kernel
theorem dL_build_19 : decode cL_build 19 = .ok (.ireturn, 1) := by decide +kernel
set_option maxRecDepth 20000 in
set_option maxRecDepth 20000 in
theorem dL_cleanDigest_0 : decode cL_cleanDigest 0 = .ok (.aload_n 2, 1) := by decide +kernel
theorem dL_cleanDigest_1 : decode cL_cleanDigest 1 = .ok (.iconst 0, 1) := by decide +kernel
theorem dL_cleanDigest_2 : decode cL_cleanDigest 2 = .ok (.aload_n 0, 1) := by decide +kernel
theorem dL_cleanDigest_3 : decode cL_cleanDigest 3 = .ok (.iload_n 1, 1) := by decide +kernel
theorem dL_cleanDigest_4 : decode cL_cleanDigest 4 = .ok (.invokevirtual 58, 3) := by decide +kernel
theorem dL_cleanDigest_7 : decode cL_cleanDigest 7 = .ok (.i2l, 1) := by decide +kernel
theorem dL_cleanDigest_8 : decode cL_cleanDigest 8 = .ok (.lastore, 1) := by decide +kernel
theorem dL_cleanDigest_9 : decode cL_cleanDigest 9 = .ok (.goto 6, 3) := by decide +kernel
theorem dL_cleanDigest_12 : decode cL_cleanDigest 12 = .ok (.astore_n 3, 1) := by decide +kernel
theorem dL_cleanDigest_13 : decode cL_cleanDigest 13 = .ok (.iconst 1, 1) := by decide +kernel
theorem dL_cleanDigest_14 : decode cL_cleanDigest 14 = .ok (.ireturn, 1) := by decide +kernel
theorem dL_cleanDigest_15 : decode cL_cleanDigest 15 = .ok (.iconst 0, 1) := by decide +kernel
theorem dL_cleanDigest_16 : decode cL_cleanDigest 16 = .ok (.ireturn, 1) := by decide +kernel
set_option maxRecDepth 20000 in
set_option maxRecDepth 20000 in
theorem dL_tag_0 : decode cL_tag 0 = .ok (.aload_n 2, 1) := by decide +kernel
theorem dL_tag_1 : decode cL_tag 1 = .ok (.iconst 0, 1) := by decide +kernel
theorem dL_tag_2 : decode cL_tag 2 = .ok (.aload_n 0, 1) := by decide +kernel
theorem dL_tag_3 : decode cL_tag 3 = .ok (.iload_n 1, 1) := by decide +kernel
theorem dL_tag_4 : decode cL_tag 4 = .ok (.invokevirtual 61, 3) := by decide +kernel
theorem dL_tag_7 : decode cL_tag 7 = .ok (.i2l, 1) := by decide +kernel
theorem dL_tag_8 : decode cL_tag 8 = .ok (.lastore, 1) := by decide +kernel
theorem dL_tag_9 : decode cL_tag 9 = .ok (.goto 9, 3) := by decide +kernel
theorem dL_tag_12 : decode cL_tag 12 = .ok (.astore_n 3, 1) := by decide +kernel
theorem dL_tag_13 : decode cL_tag 13 = .ok (.iconst 1, 1) := by decide +kernel
theorem dL_tag_14 : decode cL_tag 14 = .ok (.ireturn, 1) := by decide +kernel
theorem dL_tag_15 : decode cL_tag 15 = .ok (.astore_n 3, 1) := by decide +kernel
theorem dL_tag_16 : decode cL_tag 16 = .ok (.iconst 2, 1) := by decide +kernel
theorem dL_tag_17 : decode cL_tag 17 = .ok (.ireturn, 1) := by decide +kernel
theorem dL_tag_18 : decode cL_tag 18 = .ok (.iconst 0, 1) := by decide +kernel
theorem dL_tag_19 : decode cL_tag 19 = .ok (.ireturn, 1) := by decide +kernel
set_option maxRecDepth 20000 in
set_option maxRecDepth 20000 in
theorem dL_untag_0 : decode cL_untag 0 = .ok (.aload_n 2, 1) := by decide +kernel
theorem dL_untag_1 : decode cL_untag 1 = .ok (.iconst 0, 1) := by decide +kernel
theorem dL_untag_2 : decode cL_untag 2 = .ok (.aload_n 0, 1) := by decide +kernel
theorem dL_untag_3 : decode cL_untag 3 = .ok (.iload_n 1, 1) := by decide +kernel
theorem dL_untag_4 : decode cL_untag 4 = .ok (.invokevirtual 64, 3) := by decide +kernel
theorem dL_untag_7 : decode cL_untag 7 = .ok (.i2l, 1) := by decide +kernel
theorem dL_untag_8 : decode cL_untag 8 = .ok (.lastore, 1) := by decide +kernel
theorem dL_untag_9 : decode cL_untag 9 = .ok (.goto 6, 3) := by decide +kernel
theorem dL_untag_12 : decode cL_untag 12 = .ok (.astore_n 3, 1) := by decide +kernel
theorem dL_untag_13 : decode cL_untag 13 = .ok (.iconst 1, 1) := by decide +kernel
theorem dL_untag_14 : decode cL_untag 14 = .ok (.ireturn, 1) := by decide +kernel
theorem dL_untag_15 : decode cL_untag 15 = .ok (.iconst 0, 1) := by decide +kernel
theorem dL_untag_16 : decode cL_untag 16 = .ok (.ireturn, 1) := by decide +kernel
set_option maxRecDepth 20000 in
set_option maxRecDepth 20000 in
theorem dL_tagged_0 : decode cL_tagged 0 = .ok (.aload_n 2, 1) := by decide +kernel
theorem dL_tagged_1 : decode cL_tagged 1 = .ok (.iconst 0, 1) := by decide +kernel
theorem dL_tagged_2 : decode cL_tagged 2 = .ok (.aload_n 0, 1) := by decide +kernel
theorem dL_tagged_3 : decode cL_tagged 3 = .ok (.iload_n 1, 1) := by decide +kernel
theorem dL_tagged_4 : decode cL_tagged 4 = .ok (.invokevirtual 67, 3) := by decide +kernel
theorem dL_tagged_7 : decode cL_tagged 7 = .ok (.i2l, 1) := by decide +kernel
theorem dL_tagged_8 : decode cL_tagged 8 = .ok (.lastore, 1) := by decide +kernel
theorem dL_tagged_9 : decode cL_tagged 9 = .ok (.goto 6, 3) := by decide +kernel
theorem dL_tagged_12 : decode cL_tagged 12 = .ok (.astore_n 3, 1) := by decide +kernel
theorem dL_tagged_13 : decode cL_tagged 13 = .ok (.iconst 1, 1) := by decide +kernel
theorem dL_tagged_14 : decode cL_tagged 14 = .ok (.ireturn, 1) := by decide +kernel
theorem dL_tagged_15 : decode cL_tagged 15 = .ok (.iconst 0, 1) := by decide +kernel
theorem dL_tagged_16 : decode cL_tagged 16 = .ok (.ireturn, 1) := by decide +kernel
set_option maxRecDepth 20000 in
set_option maxRecDepth 20000 in
theorem dL_squash_0 : decode cL_squash 0 = .ok (.aload_n 3, 1) := by decide +kernel
theorem dL_squash_1 : decode cL_squash 1 = .ok (.iconst 0, 1) := by decide +kernel
theorem dL_squash_2 : decode cL_squash 2 = .ok (.aload_n 0, 1) := by decide +kernel
theorem dL_squash_3 : decode cL_squash 3 = .ok (.iload_n 1, 1) := by decide +kernel
theorem dL_squash_4 : decode cL_squash 4 = .ok (.iload_n 2, 1) := by decide +kernel
theorem dL_squash_5 : decode cL_squash 5 = .ok (.invokevirtual 70, 3) := by decide +kernel
theorem dL_squash_8 : decode cL_squash 8 = .ok (.i2l, 1) := by decide +kernel
theorem dL_squash_9 : decode cL_squash 9 = .ok (.lastore, 1) := by decide +kernel
theorem dL_squash_10 : decode cL_squash 10 = .ok (.goto 11, 3) := by decide +kernel
theorem dL_squash_13 : decode cL_squash 13 = .ok (.astore 4, 2) := by decide +kernel
theorem dL_squash_15 : decode cL_squash 15 = .ok (.iconst 1, 1) := by decide +kernel
theorem dL_squash_16 : decode cL_squash 16 = .ok (.ireturn, 1) := by decide +kernel
theorem dL_squash_17 : decode cL_squash 17 = .ok (.astore 4, 2) := by decide +kernel
theorem dL_squash_19 : decode cL_squash 19 = .ok (.iconst 2, 1) := by decide +kernel
theorem dL_squash_20 : decode cL_squash 20 = .ok (.ireturn, 1) := by decide +kernel
theorem dL_squash_21 : decode cL_squash 21 = .ok (.iconst 0, 1) := by decide +kernel
theorem dL_squash_22 : decode cL_squash 22 = .ok (.ireturn, 1) := by decide +kernel
set_option maxRecDepth 20000 in
set_option maxRecDepth 20000 in
theorem dL_rebase_0 : decode cL_rebase 0 = .ok (.aload_n 3, 1) := by decide +kernel
theorem dL_rebase_1 : decode cL_rebase 1 = .ok (.iconst 0, 1) := by decide +kernel
theorem dL_rebase_2 : decode cL_rebase 2 = .ok (.aload_n 0, 1) := by decide +kernel
theorem dL_rebase_3 : decode cL_rebase 3 = .ok (.iload_n 1, 1) := by decide +kernel
theorem dL_rebase_4 : decode cL_rebase 4 = .ok (.iload_n 2, 1) := by decide +kernel
theorem dL_rebase_5 : decode cL_rebase 5 = .ok (.invokevirtual 73, 3) := by decide +kernel
theorem dL_rebase_8 : decode cL_rebase 8 = .ok (.i2l, 1) := by decide +kernel
theorem dL_rebase_9 : decode cL_rebase 9 = .ok (.lastore, 1) := by decide +kernel
theorem dL_rebase_10 : decode cL_rebase 10 = .ok (.goto 11, 3) := by decide +kernel
theorem dL_rebase_13 : decode cL_rebase 13 = .ok (.astore 4, 2) := by decide +kernel
theorem dL_rebase_15 : decode cL_rebase 15 = .ok (.iconst 1, 1) := by decide +kernel
theorem dL_rebase_16 : decode cL_rebase 16 = .ok (.ireturn, 1) := by decide +kernel
theorem dL_rebase_17 : decode cL_rebase 17 = .ok (.astore 4, 2) := by decide +kernel
theorem dL_rebase_19 : decode cL_rebase 19 = .ok (.iconst 2, 1) := by decide +kernel
theorem dL_rebase_20 : decode cL_rebase 20 = .ok (.ireturn, 1) := by decide +kernel
theorem dL_rebase_21 : decode cL_rebase 21 = .ok (.iconst 0, 1) := by decide +kernel
theorem dL_rebase_22 : decode cL_rebase 22 = .ok (.ireturn, 1) := by decide +kernel
set_option maxRecDepth 20000 in
set_option maxRecDepth 20000 in
theorem dL_prune_0 : decode cL_prune 0 = .ok (.aload_n 1, 1) := by decide +kernel
theorem dL_prune_1 : decode cL_prune 1 = .ok (.iconst 0, 1) := by decide +kernel
theorem dL_prune_2 : decode cL_prune 2 = .ok (.aload_n 0, 1) := by decide +kernel
theorem dL_prune_3 : decode cL_prune 3 = .ok (.invokevirtual 76, 3) := by decide +kernel
theorem dL_prune_6 : decode cL_prune 6 = .ok (.i2l, 1) := by decide +kernel
theorem dL_prune_7 : decode cL_prune 7 = .ok (.lastore, 1) := by decide +kernel
theorem dL_prune_8 : decode cL_prune 8 = .ok (.goto 6, 3) := by decide +kernel
theorem dL_prune_11 : decode cL_prune 11 = .ok (.astore_n 2, 1) := by decide +kernel
theorem dL_prune_12 : decode cL_prune 12 = .ok (.iconst 1, 1) := by decide +kernel
theorem dL_prune_13 : decode cL_prune 13 = .ok (.ireturn, 1) := by decide +kernel
theorem dL_prune_14 : decode cL_prune 14 = .ok (.iconst 0, 1) := by decide +kernel
theorem dL_prune_15 : decode cL_prune 15 = .ok (.ireturn, 1) := by decide +kernel
set_option maxRecDepth 20000 in
set_option maxRecDepth 20000 in
theorem dL_parentOf_0 : decode cL_parentOf 0 = .ok (.aload_n 2, 1) := by decide +kernel
theorem dL_parentOf_1 : decode cL_parentOf 1 = .ok (.iconst 0, 1) := by decide +kernel
theorem dL_parentOf_2 : decode cL_parentOf 2 = .ok (.aload_n 0, 1) := by decide +kernel
theorem dL_parentOf_3 : decode cL_parentOf 3 = .ok (.iload_n 1, 1) := by decide +kernel
theorem dL_parentOf_4 : decode cL_parentOf 4 = .ok (.invokevirtual 79, 3) := by decide +kernel
theorem dL_parentOf_7 : decode cL_parentOf 7 = .ok (.i2l, 1) := by decide +kernel
theorem dL_parentOf_8 : decode cL_parentOf 8 = .ok (.lastore, 1) := by decide +kernel
theorem dL_parentOf_9 : decode cL_parentOf 9 = .ok (.goto 6, 3) := by decide +kernel
theorem dL_parentOf_12 : decode cL_parentOf 12 = .ok (.astore_n 3, 1) := by decide +kernel
theorem dL_parentOf_13 : decode cL_parentOf 13 = .ok (.iconst 1, 1) := by decide +kernel
theorem dL_parentOf_14 : decode cL_parentOf 14 = .ok (.ireturn, 1) := by decide +kernel
theorem dL_parentOf_15 : decode cL_parentOf 15 = .ok (.iconst 0, 1) := by decide +kernel
theorem dL_parentOf_16 : decode cL_parentOf 16 = .ok (.ireturn, 1) := by decide +kernel
set_option maxRecDepth 20000 in
set_option maxRecDepth 20000 in
theorem dL_sizeOf_0 : decode cL_sizeOf 0 = .ok (.aload_n 2, 1) := by decide +kernel
theorem dL_sizeOf_1 : decode cL_sizeOf 1 = .ok (.iconst 0, 1) := by decide +kernel
theorem dL_sizeOf_2 : decode cL_sizeOf 2 = .ok (.aload_n 0, 1) := by decide +kernel
theorem dL_sizeOf_3 : decode cL_sizeOf 3 = .ok (.iload_n 1, 1) := by decide +kernel
theorem dL_sizeOf_4 : decode cL_sizeOf 4 = .ok (.invokevirtual 82, 3) := by decide +kernel
theorem dL_sizeOf_7 : decode cL_sizeOf 7 = .ok (.i2l, 1) := by decide +kernel
theorem dL_sizeOf_8 : decode cL_sizeOf 8 = .ok (.lastore, 1) := by decide +kernel
theorem dL_sizeOf_9 : decode cL_sizeOf 9 = .ok (.goto 6, 3) := by decide +kernel
theorem dL_sizeOf_12 : decode cL_sizeOf 12 = .ok (.astore_n 3, 1) := by decide +kernel
theorem dL_sizeOf_13 : decode cL_sizeOf 13 = .ok (.iconst 1, 1) := by decide +kernel
theorem dL_sizeOf_14 : decode cL_sizeOf 14 = .ok (.ireturn, 1) := by decide +kernel
theorem dL_sizeOf_15 : decode cL_sizeOf 15 = .ok (.iconst 0, 1) := by decide +kernel
theorem dL_sizeOf_16 : decode cL_sizeOf 16 = .ok (.ireturn, 1) := by decide +kernel
set_option maxRecDepth 20000 in
set_option maxRecDepth 20000 in
theorem dL_heldAt_0 : decode cL_heldAt 0 = .ok (.aload_n 3, 1) := by decide +kernel
theorem dL_heldAt_1 : decode cL_heldAt 1 = .ok (.iconst 0, 1) := by decide +kernel
theorem dL_heldAt_2 : decode cL_heldAt 2 = .ok (.aload_n 0, 1) := by decide +kernel
theorem dL_heldAt_3 : decode cL_heldAt 3 = .ok (.iload_n 1, 1) := by decide +kernel
theorem dL_heldAt_4 : decode cL_heldAt 4 = .ok (.iload_n 2, 1) := by decide +kernel
theorem dL_heldAt_5 : decode cL_heldAt 5 = .ok (.invokevirtual 85, 3) := by decide +kernel
theorem dL_heldAt_8 : decode cL_heldAt 8 = .ok (.i2l, 1) := by decide +kernel
theorem dL_heldAt_9 : decode cL_heldAt 9 = .ok (.lastore, 1) := by decide +kernel
theorem dL_heldAt_10 : decode cL_heldAt 10 = .ok (.goto 7, 3) := by decide +kernel
theorem dL_heldAt_13 : decode cL_heldAt 13 = .ok (.astore 4, 2) := by decide +kernel
theorem dL_heldAt_15 : decode cL_heldAt 15 = .ok (.iconst 1, 1) := by decide +kernel
theorem dL_heldAt_16 : decode cL_heldAt 16 = .ok (.ireturn, 1) := by decide +kernel
theorem dL_heldAt_17 : decode cL_heldAt 17 = .ok (.iconst 0, 1) := by decide +kernel
theorem dL_heldAt_18 : decode cL_heldAt 18 = .ok (.ireturn, 1) := by decide +kernel
set_option maxRecDepth 20000 in
set_option maxRecDepth 20000 in
theorem dL_shownAt_0 : decode cL_shownAt 0 = .ok (.aload_n 3, 1) := by decide +kernel
theorem dL_shownAt_1 : decode cL_shownAt 1 = .ok (.iconst 0, 1) := by decide +kernel
theorem dL_shownAt_2 : decode cL_shownAt 2 = .ok (.aload_n 0, 1) := by decide +kernel
theorem dL_shownAt_3 : decode cL_shownAt 3 = .ok (.iload_n 1, 1) := by decide +kernel
theorem dL_shownAt_4 : decode cL_shownAt 4 = .ok (.iload_n 2, 1) := by decide +kernel
theorem dL_shownAt_5 : decode cL_shownAt 5 = .ok (.invokevirtual 88, 3) := by decide +kernel
theorem dL_shownAt_8 : decode cL_shownAt 8 = .ok (.i2l, 1) := by decide +kernel
theorem dL_shownAt_9 : decode cL_shownAt 9 = .ok (.lastore, 1) := by decide +kernel
theorem dL_shownAt_10 : decode cL_shownAt 10 = .ok (.goto 7, 3) := by decide +kernel
theorem dL_shownAt_13 : decode cL_shownAt 13 = .ok (.astore 4, 2) := by decide +kernel
theorem dL_shownAt_15 : decode cL_shownAt 15 = .ok (.iconst 1, 1) := by decide +kernel
theorem dL_shownAt_16 : decode cL_shownAt 16 = .ok (.ireturn, 1) := by decide +kernel
theorem dL_shownAt_17 : decode cL_shownAt 17 = .ok (.iconst 0, 1) := by decide +kernel
theorem dL_shownAt_18 : decode cL_shownAt 18 = .ok (.ireturn, 1) := by decide +kernel
set_option maxRecDepth 20000 in
set_option maxRecDepth 20000 in
theorem dL_variable_0 : decode cL_variable 0 = .ok (.aload_n 3, 1) := by decide +kernel
theorem dL_variable_1 : decode cL_variable 1 = .ok (.iconst 0, 1) := by decide +kernel
theorem dL_variable_2 : decode cL_variable 2 = .ok (.aload_n 0, 1) := by decide +kernel
theorem dL_variable_3 : decode cL_variable 3 = .ok (.iload_n 1, 1) := by decide +kernel
theorem dL_variable_4 : decode cL_variable 4 = .ok (.iload_n 2, 1) := by decide +kernel
theorem dL_variable_5 : decode cL_variable 5 = .ok (.invokevirtual 91, 3) := by decide +kernel
theorem dL_variable_8 : decode cL_variable 8 = .ok (.i2l, 1) := by decide +kernel
theorem dL_variable_9 : decode cL_variable 9 = .ok (.lastore, 1) := by decide +kernel
theorem dL_variable_10 : decode cL_variable 10 = .ok (.goto 7, 3) := by decide +kernel
theorem dL_variable_13 : decode cL_variable 13 = .ok (.astore 4, 2) := by decide +kernel
theorem dL_variable_15 : decode cL_variable 15 = .ok (.iconst 1, 1) := by decide +kernel
theorem dL_variable_16 : decode cL_variable 16 = .ok (.ireturn, 1) := by decide +kernel
theorem dL_variable_17 : decode cL_variable 17 = .ok (.iconst 0, 1) := by decide +kernel
theorem dL_variable_18 : decode cL_variable 18 = .ok (.ireturn, 1) := by decide +kernel
set_option maxRecDepth 20000 in
set_option maxRecDepth 20000 in
theorem dL_depth_0 : decode cL_depth 0 = .ok (.aload_n 2, 1) := by decide +kernel
theorem dL_depth_1 : decode cL_depth 1 = .ok (.iconst 0, 1) := by decide +kernel
theorem dL_depth_2 : decode cL_depth 2 = .ok (.aload_n 0, 1) := by decide +kernel
theorem dL_depth_3 : decode cL_depth 3 = .ok (.iload_n 1, 1) := by decide +kernel
theorem dL_depth_4 : decode cL_depth 4 = .ok (.invokevirtual 94, 3) := by decide +kernel
theorem dL_depth_7 : decode cL_depth 7 = .ok (.i2l, 1) := by decide +kernel
theorem dL_depth_8 : decode cL_depth 8 = .ok (.lastore, 1) := by decide +kernel
theorem dL_depth_9 : decode cL_depth 9 = .ok (.goto 6, 3) := by decide +kernel
theorem dL_depth_12 : decode cL_depth 12 = .ok (.astore_n 3, 1) := by decide +kernel
theorem dL_depth_13 : decode cL_depth 13 = .ok (.iconst 1, 1) := by decide +kernel
theorem dL_depth_14 : decode cL_depth 14 = .ok (.ireturn, 1) := by decide +kernel
theorem dL_depth_15 : decode cL_depth 15 = .ok (.iconst 0, 1) := by decide +kernel
theorem dL_depth_16 : decode cL_depth 16 = .ok (.ireturn, 1) := by decide +kernel
set_option maxRecDepth 20000 in
set_option maxRecDepth 20000 in
theorem dL_imageSize_0 : decode cL_imageSize 0 = .ok (.aload_n 2, 1) := by decide +kernel
theorem dL_imageSize_1 : decode cL_imageSize 1 = .ok (.iconst 0, 1) := by decide +kernel
theorem dL_imageSize_2 : decode cL_imageSize 2 = .ok (.aload_n 0, 1) := by decide +kernel
theorem dL_imageSize_3 : decode cL_imageSize 3 = .ok (.iload_n 1, 1) := by decide +kernel
theorem dL_imageSize_4 : decode cL_imageSize 4 = .ok (.invokevirtual 97, 3) := by decide +kernel
theorem dL_imageSize_7 : decode cL_imageSize 7 = .ok (.i2l, 1) := by decide +kernel
theorem dL_imageSize_8 : decode cL_imageSize 8 = .ok (.lastore, 1) := by decide +kernel
theorem dL_imageSize_9 : decode cL_imageSize 9 = .ok (.goto 6, 3) := by decide +kernel
theorem dL_imageSize_12 : decode cL_imageSize 12 = .ok (.astore_n 3, 1) := by decide +kernel
theorem dL_imageSize_13 : decode cL_imageSize 13 = .ok (.iconst 1, 1) := by decide +kernel
theorem dL_imageSize_14 : decode cL_imageSize 14 = .ok (.ireturn, 1) := by decide +kernel
theorem dL_imageSize_15 : decode cL_imageSize 15 = .ok (.iconst 0, 1) := by decide +kernel
theorem dL_imageSize_16 : decode cL_imageSize 16 = .ok (.ireturn, 1) := by decide +kernel
set_option maxRecDepth 20000 in
set_option maxRecDepth 20000 in
theorem dL_digest_0 : decode cL_digest 0 = .ok (.aload_n 2, 1) := by decide +kernel
theorem dL_digest_1 : decode cL_digest 1 = .ok (.iconst 0, 1) := by decide +kernel
theorem dL_digest_2 : decode cL_digest 2 = .ok (.aload_n 0, 1) := by decide +kernel
theorem dL_digest_3 : decode cL_digest 3 = .ok (.iload_n 1, 1) := by decide +kernel
theorem dL_digest_4 : decode cL_digest 4 = .ok (.invokevirtual 100, 3) := by decide +kernel
theorem dL_digest_7 : decode cL_digest 7 = .ok (.i2l, 1) := by decide +kernel
theorem dL_digest_8 : decode cL_digest 8 = .ok (.lastore, 1) := by decide +kernel
theorem dL_digest_9 : decode cL_digest 9 = .ok (.goto 6, 3) := by decide +kernel
theorem dL_digest_12 : decode cL_digest 12 = .ok (.astore_n 3, 1) := by decide +kernel
theorem dL_digest_13 : decode cL_digest 13 = .ok (.iconst 1, 1) := by decide +kernel
theorem dL_digest_14 : decode cL_digest 14 = .ok (.ireturn, 1) := by decide +kernel
theorem dL_digest_15 : decode cL_digest 15 = .ok (.iconst 0, 1) := by decide +kernel
theorem dL_digest_16 : decode cL_digest 16 = .ok (.ireturn, 1) := by decide +kernel
set_option maxRecDepth 20000 in
set_option maxRecDepth 20000 in
set_option maxRecDepth 20000 in
set_option maxRecDepth 20000 in
set_option maxRecDepth 20000 in
set_option maxRecDepth 20000 in
set_option maxRecDepth 20000 in
set_option maxRecDepth 20000 in
set_option maxRecDepth 20000 in
set_option maxRecDepth 20000 in
set_option maxRecDepth 20000 in
set_option maxRecDepth 20000 in
set_option maxRecDepth 20000 in
set_option maxRecDepth 20000 in
set_option maxRecDepth 20000 in
set_option maxRecDepth 20000 in
set_option maxRecDepth 20000 in
set_option maxRecDepth 20000 in
set_option maxRecDepth 20000 in
set_option maxRecDepth 20000 in
set_option maxRecDepth 20000 in
set_option maxRecDepth 20000 in
set_option maxRecDepth 20000 in
set_option maxRecDepth 20000 in
set_option maxRecDepth 20000 in
set_option maxRecDepth 20000 in
set_option maxRecDepth 20000 in
set_option maxRecDepth 20000 in
set_option maxRecDepth 20000 in
set_option maxRecDepth 20000 in
set_option maxRecDepth 20000 in
set_option maxRecDepth 20000 in
set_option maxRecDepth 20000 in
set_option maxRecDepth 20000 in
set_option maxRecDepth 20000 in
set_option maxRecDepth 20000 in
set_option maxRecDepth 20000 in
set_option maxRecDepth 20000 in
set_option maxRecDepth 20000 in
set_option maxRecDepth 20000 in
set_option maxRecDepth 20000 in
set_option maxRecDepth 20000 in
set_option maxRecDepth 20000 in
set_option maxRecDepth 20000 in
set_option maxRecDepth 20000 in
set_option maxRecDepth 20000 in
set_option maxRecDepth 20000 in
set_option maxRecDepth 20000 in
set_option maxRecDepth 20000 in
set_option maxRecDepth 20000 in
set_option maxRecDepth 20000 in
set_option maxRecDepth 20000 in
set_option maxRecDepth 20000 in
set_option maxRecDepth 20000 in
set_option maxRecDepth 20000 in
set_option maxRecDepth 20000 in
set_option maxRecDepth 20000 in
set_option maxRecDepth 20000 in
set_option maxRecDepth 20000 in
set_option maxRecDepth 20000 in
set_option maxRecDepth 20000 in
set_option maxRecDepth 20000 in
set_option maxRecDepth 20000 in
set_option maxRecDepth 20000 in
set_option maxRecDepth 20000 in
set_option maxRecDepth 20000 in
set_option maxRecDepth 20000 in
set_option maxRecDepth 20000 in
set_option maxRecDepth 20000 in
set_option maxRecDepth 20000 in
set_option maxRecDepth 20000 in
set_option maxRecDepth 20000 in
set_option maxRecDepth 20000 in
set_option maxRecDepth 20000 in
set_option maxRecDepth 20000 in
set_option maxRecDepth 20000 in
set_option maxRecDepth 20000 in
set_option maxRecDepth 20000 in
set_option maxRecDepth 20000 in
set_option maxRecDepth 20000 in
set_option maxRecDepth 20000 in
set_option maxRecDepth 20000 in
set_option maxRecDepth 20000 in
set_option maxRecDepth 20000 in
set_option maxRecDepth 20000 in
set_option maxRecDepth 20000 in
set_option maxRecDepth 20000 in
set_option maxRecDepth 20000 in
set_option maxRecDepth 20000 in
set_option maxRecDepth 20000 in
set_option maxRecDepth 20000 in
set_option maxRecDepth 20000 in
set_option maxRecDepth 20000 in
set_option maxRecDepth 20000 in
set_option maxRecDepth 20000 in
set_option maxRecDepth 20000 in
set_option maxRecDepth 20000 in
set_option maxRecDepth 20000 in
set_option maxRecDepth 20000 in
set_option maxRecDepth 20000 in
set_option maxRecDepth 20000 in
set_option maxRecDepth 20000 in
set_option maxRecDepth 20000 in
set_option maxRecDepth 20000 in
set_option maxRecDepth 20000 in
set_option maxRecDepth 20000 in
set_option maxRecDepth 20000 in
set_option maxRecDepth 20000 in
set_option maxRecDepth 20000 in
set_option maxRecDepth 20000 in
set_option maxRecDepth 20000 in
set_option maxRecDepth 20000 in
set_option maxRecDepth 20000 in
set_option maxRecDepth 20000 in
set_option maxRecDepth 20000 in
set_option maxRecDepth 20000 in
set_option maxRecDepth 20000 in
set_option maxRecDepth 20000 in
set_option maxRecDepth 20000 in
set_option maxRecDepth 20000 in
set_option maxRecDepth 20000 in
set_option maxRecDepth 20000 in
set_option maxRecDepth 20000 in
set_option maxRecDepth 20000 in
set_option maxRecDepth 20000 in
set_option maxRecDepth 20000 in
set_option maxRecDepth 20000 in
set_option maxRecDepth 20000 in
set_option maxRecDepth 20000 in
set_option maxRecDepth 20000 in
set_option maxRecDepth 20000 in
set_option maxRecDepth 20000 in
set_option maxRecDepth 20000 in
set_option maxRecDepth 20000 in
set_option maxRecDepth 20000 in
set_option maxRecDepth 20000 in
set_option maxRecDepth 20000 in
set_option maxRecDepth 20000 in
theorem dL_law_0 : decode cL_law 0 = .ok (.new 8, 3) := by decide +kernel
theorem dL_law_3 : decode cL_law 3 = .ok (.dup, 1) := by decide +kernel
theorem dL_law_4 : decode cL_law 4 = .ok (.invokespecial 103, 3) := by decide +kernel
theorem dL_law_7 : decode cL_law 7 = .ok (.astore_n 1, 1) := by decide +kernel
theorem dL_law_8 : decode cL_law 8 = .ok (.new 104, 3) := by decide +kernel
theorem dL_law_11 : decode cL_law 11 = .ok (.dup, 1) := by decide +kernel
theorem dL_law_12 : decode cL_law 12 = .ok (.invokespecial 106, 3) := by decide +kernel
theorem dL_law_15 : decode cL_law 15 = .ok (.astore_n 2, 1) := by decide +kernel
theorem dL_law_16 : decode cL_law 16 = .ok (.iconst 1, 1) := by decide +kernel
theorem dL_law_17 : decode cL_law 17 = .ok (.newarray .long, 2) := by decide +kernel
theorem dL_law_19 : decode cL_law 19 = .ok (.astore_n 3, 1) := by decide +kernel
theorem dL_law_20 : decode cL_law 20 = .ok (.iconst 0, 1) := by decide +kernel
theorem dL_law_21 : decode cL_law 21 = .ok (.istore 4, 2) := by decide +kernel
theorem dL_law_23 : decode cL_law 23 = .ok (.iload 4, 2) := by decide +kernel
theorem dL_law_25 : decode cL_law 25 = .ok (.aload_n 0, 1) := by decide +kernel
theorem dL_law_26 : decode cL_law 26 = .ok (.arraylength, 1) := by decide +kernel
theorem dL_law_27 : decode cL_law 27 = .ok (.iconst 4, 1) := by decide +kernel
theorem dL_law_28 : decode cL_law 28 = .ok (.isub, 1) := by decide +kernel
theorem dL_law_29 : decode cL_law 29 = .ok (.if_icmp .gt 1998, 3) := by decide +kernel
theorem dL_law_32 : decode cL_law 32 = .ok (.aload_n 0, 1) := by decide +kernel
theorem dL_law_33 : decode cL_law 33 = .ok (.iload 4, 2) := by decide +kernel
theorem dL_law_35 : decode cL_law 35 = .ok (.iaload, 1) := by decide +kernel
theorem dL_law_36 : decode cL_law 36 = .ok (.bipush 63, 2) := by decide +kernel
theorem dL_law_38 : decode cL_law 38 = .ok (.iand, 1) := by decide +kernel
theorem dL_law_39 : decode cL_law 39 = .ok (.tableswitch 1982 0 32 #[145, 213, 293, 361, 441, 521, 601, 669, 749, 817, 873, 929, 973, 1029, 1042, 1055, 1068, 1081, 1137, 1193, 1249, 1305, 1373, 1441, 1485, 1498, 1554, 1610, 1678, 1746, 1814, 1870, 1926], 145) := by decide +kernel
theorem dL_law_184 : decode cL_law 184 = .ok (.aload_n 1, 1) := by decide +kernel
theorem dL_law_185 : decode cL_law 185 = .ok (.aload_n 0, 1) := by decide +kernel
theorem dL_law_186 : decode cL_law 186 = .ok (.iload 4, 2) := by decide +kernel
theorem dL_law_188 : decode cL_law 188 = .ok (.iconst 1, 1) := by decide +kernel
theorem dL_law_189 : decode cL_law 189 = .ok (.iadd, 1) := by decide +kernel
theorem dL_law_190 : decode cL_law 190 = .ok (.iaload, 1) := by decide +kernel
theorem dL_law_191 : decode cL_law 191 = .ok (.aload_n 0, 1) := by decide +kernel
theorem dL_law_192 : decode cL_law 192 = .ok (.iload 4, 2) := by decide +kernel
theorem dL_law_194 : decode cL_law 194 = .ok (.iconst 2, 1) := by decide +kernel
theorem dL_law_195 : decode cL_law 195 = .ok (.iadd, 1) := by decide +kernel
theorem dL_law_196 : decode cL_law 196 = .ok (.iaload, 1) := by decide +kernel
theorem dL_law_197 : decode cL_law 197 = .ok (.aload_n 3, 1) := by decide +kernel
theorem dL_law_198 : decode cL_law 198 = .ok (.invokestatic 107, 3) := by decide +kernel
theorem dL_law_201 : decode cL_law 201 = .ok (.istore 5, 2) := by decide +kernel
theorem dL_law_203 : decode cL_law 203 = .ok (.aload_n 2, 1) := by decide +kernel
theorem dL_law_204 : decode cL_law 204 = .ok (.aload_n 0, 1) := by decide +kernel
theorem dL_law_205 : decode cL_law 205 = .ok (.iload 4, 2) := by decide +kernel
theorem dL_law_207 : decode cL_law 207 = .ok (.iconst 1, 1) := by decide +kernel
theorem dL_law_208 : decode cL_law 208 = .ok (.iadd, 1) := by decide +kernel
theorem dL_law_209 : decode cL_law 209 = .ok (.iaload, 1) := by decide +kernel
theorem dL_law_210 : decode cL_law 210 = .ok (.aload_n 0, 1) := by decide +kernel
theorem dL_law_211 : decode cL_law 211 = .ok (.iload 4, 2) := by decide +kernel
theorem dL_law_213 : decode cL_law 213 = .ok (.iconst 2, 1) := by decide +kernel
theorem dL_law_214 : decode cL_law 214 = .ok (.iadd, 1) := by decide +kernel
theorem dL_law_215 : decode cL_law 215 = .ok (.iaload, 1) := by decide +kernel
theorem dL_law_216 : decode cL_law 216 = .ok (.invokevirtual 112, 3) := by decide +kernel
theorem dL_law_219 : decode cL_law 219 = .ok (.istore 6, 2) := by decide +kernel
theorem dL_law_221 : decode cL_law 221 = .ok (.aload_n 2, 1) := by decide +kernel
theorem dL_law_222 : decode cL_law 222 = .ok (.invokevirtual 113, 3) := by decide +kernel
theorem dL_law_225 : decode cL_law 225 = .ok (.iload 5, 2) := by decide +kernel
theorem dL_law_227 : decode cL_law 227 = .ok (.if_icmp .eq 5, 3) := by decide +kernel
theorem dL_law_230 : decode cL_law 230 = .ok (.iconst 0, 1) := by decide +kernel
theorem dL_law_231 : decode cL_law 231 = .ok (.ireturn, 1) := by decide +kernel
theorem dL_law_232 : decode cL_law 232 = .ok (.iload 5, 2) := by decide +kernel
theorem dL_law_234 : decode cL_law 234 = .ok (.ifCond .ne 15, 3) := by decide +kernel
theorem dL_law_237 : decode cL_law 237 = .ok (.aload_n 3, 1) := by decide +kernel
theorem dL_law_238 : decode cL_law 238 = .ok (.iconst 0, 1) := by decide +kernel
theorem dL_law_239 : decode cL_law 239 = .ok (.laload, 1) := by decide +kernel
theorem dL_law_240 : decode cL_law 240 = .ok (.iload 6, 2) := by decide +kernel
theorem dL_law_242 : decode cL_law 242 = .ok (.i2l, 1) := by decide +kernel
theorem dL_law_243 : decode cL_law 243 = .ok (.lcmp, 1) := by decide +kernel
theorem dL_law_244 : decode cL_law 244 = .ok (.ifCond .eq 5, 3) := by decide +kernel
theorem dL_law_247 : decode cL_law 247 = .ok (.iconst 0, 1) := by decide +kernel
theorem dL_law_248 : decode cL_law 248 = .ok (.ireturn, 1) := by decide +kernel
theorem dL_law_249 : decode cL_law 249 = .ok (.goto 1772, 3) := by decide +kernel
theorem dL_law_252 : decode cL_law 252 = .ok (.aload_n 1, 1) := by decide +kernel
theorem dL_law_253 : decode cL_law 253 = .ok (.aload_n 0, 1) := by decide +kernel
theorem dL_law_254 : decode cL_law 254 = .ok (.iload 4, 2) := by decide +kernel
theorem dL_law_256 : decode cL_law 256 = .ok (.iconst 1, 1) := by decide +kernel
theorem dL_law_257 : decode cL_law 257 = .ok (.iadd, 1) := by decide +kernel
theorem dL_law_258 : decode cL_law 258 = .ok (.iaload, 1) := by decide +kernel
theorem dL_law_259 : decode cL_law 259 = .ok (.aload_n 0, 1) := by decide +kernel
theorem dL_law_260 : decode cL_law 260 = .ok (.iload 4, 2) := by decide +kernel
theorem dL_law_262 : decode cL_law 262 = .ok (.iconst 2, 1) := by decide +kernel
theorem dL_law_263 : decode cL_law 263 = .ok (.iadd, 1) := by decide +kernel
theorem dL_law_264 : decode cL_law 264 = .ok (.iaload, 1) := by decide +kernel
theorem dL_law_265 : decode cL_law 265 = .ok (.aload_n 0, 1) := by decide +kernel
theorem dL_law_266 : decode cL_law 266 = .ok (.iload 4, 2) := by decide +kernel
theorem dL_law_268 : decode cL_law 268 = .ok (.iconst 3, 1) := by decide +kernel
theorem dL_law_269 : decode cL_law 269 = .ok (.iadd, 1) := by decide +kernel
theorem dL_law_270 : decode cL_law 270 = .ok (.iaload, 1) := by decide +kernel
theorem dL_law_271 : decode cL_law 271 = .ok (.aload_n 3, 1) := by decide +kernel
theorem dL_law_272 : decode cL_law 272 = .ok (.invokestatic 116, 3) := by decide +kernel
theorem dL_law_275 : decode cL_law 275 = .ok (.istore 5, 2) := by decide +kernel
theorem dL_law_277 : decode cL_law 277 = .ok (.aload_n 2, 1) := by decide +kernel
theorem dL_law_278 : decode cL_law 278 = .ok (.aload_n 0, 1) := by decide +kernel
theorem dL_law_279 : decode cL_law 279 = .ok (.iload 4, 2) := by decide +kernel
theorem dL_law_281 : decode cL_law 281 = .ok (.iconst 1, 1) := by decide +kernel
theorem dL_law_282 : decode cL_law 282 = .ok (.iadd, 1) := by decide +kernel
theorem dL_law_283 : decode cL_law 283 = .ok (.iaload, 1) := by decide +kernel
theorem dL_law_284 : decode cL_law 284 = .ok (.aload_n 0, 1) := by decide +kernel
theorem dL_law_285 : decode cL_law 285 = .ok (.iload 4, 2) := by decide +kernel
theorem dL_law_287 : decode cL_law 287 = .ok (.iconst 2, 1) := by decide +kernel
theorem dL_law_288 : decode cL_law 288 = .ok (.iadd, 1) := by decide +kernel
theorem dL_law_289 : decode cL_law 289 = .ok (.iaload, 1) := by decide +kernel
theorem dL_law_290 : decode cL_law 290 = .ok (.aload_n 0, 1) := by decide +kernel
theorem dL_law_291 : decode cL_law 291 = .ok (.iload 4, 2) := by decide +kernel
theorem dL_law_293 : decode cL_law 293 = .ok (.iconst 3, 1) := by decide +kernel
theorem dL_law_294 : decode cL_law 294 = .ok (.iadd, 1) := by decide +kernel
theorem dL_law_295 : decode cL_law 295 = .ok (.iaload, 1) := by decide +kernel
theorem dL_law_296 : decode cL_law 296 = .ok (.invokevirtual 119, 3) := by decide +kernel
theorem dL_law_299 : decode cL_law 299 = .ok (.istore 6, 2) := by decide +kernel
theorem dL_law_301 : decode cL_law 301 = .ok (.aload_n 2, 1) := by decide +kernel
theorem dL_law_302 : decode cL_law 302 = .ok (.invokevirtual 113, 3) := by decide +kernel
theorem dL_law_305 : decode cL_law 305 = .ok (.iload 5, 2) := by decide +kernel
theorem dL_law_307 : decode cL_law 307 = .ok (.if_icmp .eq 5, 3) := by decide +kernel
theorem dL_law_310 : decode cL_law 310 = .ok (.iconst 0, 1) := by decide +kernel
theorem dL_law_311 : decode cL_law 311 = .ok (.ireturn, 1) := by decide +kernel
theorem dL_law_312 : decode cL_law 312 = .ok (.iload 5, 2) := by decide +kernel
theorem dL_law_314 : decode cL_law 314 = .ok (.ifCond .ne 15, 3) := by decide +kernel
theorem dL_law_317 : decode cL_law 317 = .ok (.aload_n 3, 1) := by decide +kernel
theorem dL_law_318 : decode cL_law 318 = .ok (.iconst 0, 1) := by decide +kernel
theorem dL_law_319 : decode cL_law 319 = .ok (.laload, 1) := by decide +kernel
theorem dL_law_320 : decode cL_law 320 = .ok (.iload 6, 2) := by decide +kernel
theorem dL_law_322 : decode cL_law 322 = .ok (.i2l, 1) := by decide +kernel
theorem dL_law_323 : decode cL_law 323 = .ok (.lcmp, 1) := by decide +kernel
theorem dL_law_324 : decode cL_law 324 = .ok (.ifCond .eq 5, 3) := by decide +kernel
theorem dL_law_327 : decode cL_law 327 = .ok (.iconst 0, 1) := by decide +kernel
theorem dL_law_328 : decode cL_law 328 = .ok (.ireturn, 1) := by decide +kernel
theorem dL_law_329 : decode cL_law 329 = .ok (.goto 1692, 3) := by decide +kernel
theorem dL_law_332 : decode cL_law 332 = .ok (.aload_n 1, 1) := by decide +kernel
theorem dL_law_333 : decode cL_law 333 = .ok (.aload_n 0, 1) := by decide +kernel
theorem dL_law_334 : decode cL_law 334 = .ok (.iload 4, 2) := by decide +kernel
theorem dL_law_336 : decode cL_law 336 = .ok (.iconst 1, 1) := by decide +kernel
theorem dL_law_337 : decode cL_law 337 = .ok (.iadd, 1) := by decide +kernel
theorem dL_law_338 : decode cL_law 338 = .ok (.iaload, 1) := by decide +kernel
theorem dL_law_339 : decode cL_law 339 = .ok (.aload_n 0, 1) := by decide +kernel
theorem dL_law_340 : decode cL_law 340 = .ok (.iload 4, 2) := by decide +kernel
theorem dL_law_342 : decode cL_law 342 = .ok (.iconst 2, 1) := by decide +kernel
theorem dL_law_343 : decode cL_law 343 = .ok (.iadd, 1) := by decide +kernel
theorem dL_law_344 : decode cL_law 344 = .ok (.iaload, 1) := by decide +kernel
theorem dL_law_345 : decode cL_law 345 = .ok (.aload_n 3, 1) := by decide +kernel
theorem dL_law_346 : decode cL_law 346 = .ok (.invokestatic 120, 3) := by decide +kernel
theorem dL_law_349 : decode cL_law 349 = .ok (.istore 5, 2) := by decide +kernel
theorem dL_law_351 : decode cL_law 351 = .ok (.aload_n 2, 1) := by decide +kernel
theorem dL_law_352 : decode cL_law 352 = .ok (.aload_n 0, 1) := by decide +kernel
theorem dL_law_353 : decode cL_law 353 = .ok (.iload 4, 2) := by decide +kernel
theorem dL_law_355 : decode cL_law 355 = .ok (.iconst 1, 1) := by decide +kernel
theorem dL_law_356 : decode cL_law 356 = .ok (.iadd, 1) := by decide +kernel
theorem dL_law_357 : decode cL_law 357 = .ok (.iaload, 1) := by decide +kernel
theorem dL_law_358 : decode cL_law 358 = .ok (.aload_n 0, 1) := by decide +kernel
theorem dL_law_359 : decode cL_law 359 = .ok (.iload 4, 2) := by decide +kernel
theorem dL_law_361 : decode cL_law 361 = .ok (.iconst 2, 1) := by decide +kernel
theorem dL_law_362 : decode cL_law 362 = .ok (.iadd, 1) := by decide +kernel
theorem dL_law_363 : decode cL_law 363 = .ok (.iaload, 1) := by decide +kernel
theorem dL_law_364 : decode cL_law 364 = .ok (.invokevirtual 122, 3) := by decide +kernel
theorem dL_law_367 : decode cL_law 367 = .ok (.istore 6, 2) := by decide +kernel
theorem dL_law_369 : decode cL_law 369 = .ok (.aload_n 2, 1) := by decide +kernel
theorem dL_law_370 : decode cL_law 370 = .ok (.invokevirtual 113, 3) := by decide +kernel
theorem dL_law_373 : decode cL_law 373 = .ok (.iload 5, 2) := by decide +kernel
theorem dL_law_375 : decode cL_law 375 = .ok (.if_icmp .eq 5, 3) := by decide +kernel
theorem dL_law_378 : decode cL_law 378 = .ok (.iconst 0, 1) := by decide +kernel
theorem dL_law_379 : decode cL_law 379 = .ok (.ireturn, 1) := by decide +kernel
theorem dL_law_380 : decode cL_law 380 = .ok (.iload 5, 2) := by decide +kernel
theorem dL_law_382 : decode cL_law 382 = .ok (.ifCond .ne 15, 3) := by decide +kernel
theorem dL_law_385 : decode cL_law 385 = .ok (.aload_n 3, 1) := by decide +kernel
theorem dL_law_386 : decode cL_law 386 = .ok (.iconst 0, 1) := by decide +kernel
theorem dL_law_387 : decode cL_law 387 = .ok (.laload, 1) := by decide +kernel
theorem dL_law_388 : decode cL_law 388 = .ok (.iload 6, 2) := by decide +kernel
theorem dL_law_390 : decode cL_law 390 = .ok (.i2l, 1) := by decide +kernel
theorem dL_law_391 : decode cL_law 391 = .ok (.lcmp, 1) := by decide +kernel
theorem dL_law_392 : decode cL_law 392 = .ok (.ifCond .eq 5, 3) := by decide +kernel
theorem dL_law_395 : decode cL_law 395 = .ok (.iconst 0, 1) := by decide +kernel
theorem dL_law_396 : decode cL_law 396 = .ok (.ireturn, 1) := by decide +kernel
theorem dL_law_397 : decode cL_law 397 = .ok (.goto 1624, 3) := by decide +kernel
theorem dL_law_400 : decode cL_law 400 = .ok (.aload_n 1, 1) := by decide +kernel
theorem dL_law_401 : decode cL_law 401 = .ok (.aload_n 0, 1) := by decide +kernel
theorem dL_law_402 : decode cL_law 402 = .ok (.iload 4, 2) := by decide +kernel
theorem dL_law_404 : decode cL_law 404 = .ok (.iconst 1, 1) := by decide +kernel
theorem dL_law_405 : decode cL_law 405 = .ok (.iadd, 1) := by decide +kernel
theorem dL_law_406 : decode cL_law 406 = .ok (.iaload, 1) := by decide +kernel
theorem dL_law_407 : decode cL_law 407 = .ok (.aload_n 0, 1) := by decide +kernel
theorem dL_law_408 : decode cL_law 408 = .ok (.iload 4, 2) := by decide +kernel
theorem dL_law_410 : decode cL_law 410 = .ok (.iconst 2, 1) := by decide +kernel
theorem dL_law_411 : decode cL_law 411 = .ok (.iadd, 1) := by decide +kernel
theorem dL_law_412 : decode cL_law 412 = .ok (.iaload, 1) := by decide +kernel
theorem dL_law_413 : decode cL_law 413 = .ok (.aload_n 0, 1) := by decide +kernel
theorem dL_law_414 : decode cL_law 414 = .ok (.iload 4, 2) := by decide +kernel
theorem dL_law_416 : decode cL_law 416 = .ok (.iconst 3, 1) := by decide +kernel
theorem dL_law_417 : decode cL_law 417 = .ok (.iadd, 1) := by decide +kernel
theorem dL_law_418 : decode cL_law 418 = .ok (.iaload, 1) := by decide +kernel
theorem dL_law_419 : decode cL_law 419 = .ok (.aload_n 3, 1) := by decide +kernel
theorem dL_law_420 : decode cL_law 420 = .ok (.invokestatic 123, 3) := by decide +kernel
theorem dL_law_423 : decode cL_law 423 = .ok (.istore 5, 2) := by decide +kernel
theorem dL_law_425 : decode cL_law 425 = .ok (.aload_n 2, 1) := by decide +kernel
theorem dL_law_426 : decode cL_law 426 = .ok (.aload_n 0, 1) := by decide +kernel
theorem dL_law_427 : decode cL_law 427 = .ok (.iload 4, 2) := by decide +kernel
theorem dL_law_429 : decode cL_law 429 = .ok (.iconst 1, 1) := by decide +kernel
theorem dL_law_430 : decode cL_law 430 = .ok (.iadd, 1) := by decide +kernel
theorem dL_law_431 : decode cL_law 431 = .ok (.iaload, 1) := by decide +kernel
theorem dL_law_432 : decode cL_law 432 = .ok (.aload_n 0, 1) := by decide +kernel
theorem dL_law_433 : decode cL_law 433 = .ok (.iload 4, 2) := by decide +kernel
theorem dL_law_435 : decode cL_law 435 = .ok (.iconst 2, 1) := by decide +kernel
theorem dL_law_436 : decode cL_law 436 = .ok (.iadd, 1) := by decide +kernel
theorem dL_law_437 : decode cL_law 437 = .ok (.iaload, 1) := by decide +kernel
theorem dL_law_438 : decode cL_law 438 = .ok (.aload_n 0, 1) := by decide +kernel
theorem dL_law_439 : decode cL_law 439 = .ok (.iload 4, 2) := by decide +kernel
theorem dL_law_441 : decode cL_law 441 = .ok (.iconst 3, 1) := by decide +kernel
theorem dL_law_442 : decode cL_law 442 = .ok (.iadd, 1) := by decide +kernel
theorem dL_law_443 : decode cL_law 443 = .ok (.iaload, 1) := by decide +kernel
theorem dL_law_444 : decode cL_law 444 = .ok (.invokevirtual 125, 3) := by decide +kernel
theorem dL_law_447 : decode cL_law 447 = .ok (.istore 6, 2) := by decide +kernel
theorem dL_law_449 : decode cL_law 449 = .ok (.aload_n 2, 1) := by decide +kernel
theorem dL_law_450 : decode cL_law 450 = .ok (.invokevirtual 113, 3) := by decide +kernel
theorem dL_law_453 : decode cL_law 453 = .ok (.iload 5, 2) := by decide +kernel
theorem dL_law_455 : decode cL_law 455 = .ok (.if_icmp .eq 5, 3) := by decide +kernel
theorem dL_law_458 : decode cL_law 458 = .ok (.iconst 0, 1) := by decide +kernel
theorem dL_law_459 : decode cL_law 459 = .ok (.ireturn, 1) := by decide +kernel
theorem dL_law_460 : decode cL_law 460 = .ok (.iload 5, 2) := by decide +kernel
theorem dL_law_462 : decode cL_law 462 = .ok (.ifCond .ne 15, 3) := by decide +kernel
theorem dL_law_465 : decode cL_law 465 = .ok (.aload_n 3, 1) := by decide +kernel
theorem dL_law_466 : decode cL_law 466 = .ok (.iconst 0, 1) := by decide +kernel
theorem dL_law_467 : decode cL_law 467 = .ok (.laload, 1) := by decide +kernel
theorem dL_law_468 : decode cL_law 468 = .ok (.iload 6, 2) := by decide +kernel
theorem dL_law_470 : decode cL_law 470 = .ok (.i2l, 1) := by decide +kernel
theorem dL_law_471 : decode cL_law 471 = .ok (.lcmp, 1) := by decide +kernel
theorem dL_law_472 : decode cL_law 472 = .ok (.ifCond .eq 5, 3) := by decide +kernel
theorem dL_law_475 : decode cL_law 475 = .ok (.iconst 0, 1) := by decide +kernel
theorem dL_law_476 : decode cL_law 476 = .ok (.ireturn, 1) := by decide +kernel
theorem dL_law_477 : decode cL_law 477 = .ok (.goto 1544, 3) := by decide +kernel
theorem dL_law_480 : decode cL_law 480 = .ok (.aload_n 1, 1) := by decide +kernel
theorem dL_law_481 : decode cL_law 481 = .ok (.aload_n 0, 1) := by decide +kernel
theorem dL_law_482 : decode cL_law 482 = .ok (.iload 4, 2) := by decide +kernel
theorem dL_law_484 : decode cL_law 484 = .ok (.iconst 1, 1) := by decide +kernel
theorem dL_law_485 : decode cL_law 485 = .ok (.iadd, 1) := by decide +kernel
theorem dL_law_486 : decode cL_law 486 = .ok (.iaload, 1) := by decide +kernel
theorem dL_law_487 : decode cL_law 487 = .ok (.aload_n 0, 1) := by decide +kernel
theorem dL_law_488 : decode cL_law 488 = .ok (.iload 4, 2) := by decide +kernel
theorem dL_law_490 : decode cL_law 490 = .ok (.iconst 2, 1) := by decide +kernel
theorem dL_law_491 : decode cL_law 491 = .ok (.iadd, 1) := by decide +kernel
theorem dL_law_492 : decode cL_law 492 = .ok (.iaload, 1) := by decide +kernel
theorem dL_law_493 : decode cL_law 493 = .ok (.aload_n 0, 1) := by decide +kernel
theorem dL_law_494 : decode cL_law 494 = .ok (.iload 4, 2) := by decide +kernel
theorem dL_law_496 : decode cL_law 496 = .ok (.iconst 3, 1) := by decide +kernel
theorem dL_law_497 : decode cL_law 497 = .ok (.iadd, 1) := by decide +kernel
theorem dL_law_498 : decode cL_law 498 = .ok (.iaload, 1) := by decide +kernel
theorem dL_law_499 : decode cL_law 499 = .ok (.aload_n 3, 1) := by decide +kernel
theorem dL_law_500 : decode cL_law 500 = .ok (.invokestatic 126, 3) := by decide +kernel
theorem dL_law_503 : decode cL_law 503 = .ok (.istore 5, 2) := by decide +kernel
theorem dL_law_505 : decode cL_law 505 = .ok (.aload_n 2, 1) := by decide +kernel
theorem dL_law_506 : decode cL_law 506 = .ok (.aload_n 0, 1) := by decide +kernel
theorem dL_law_507 : decode cL_law 507 = .ok (.iload 4, 2) := by decide +kernel
theorem dL_law_509 : decode cL_law 509 = .ok (.iconst 1, 1) := by decide +kernel
theorem dL_law_510 : decode cL_law 510 = .ok (.iadd, 1) := by decide +kernel
theorem dL_law_511 : decode cL_law 511 = .ok (.iaload, 1) := by decide +kernel
theorem dL_law_512 : decode cL_law 512 = .ok (.aload_n 0, 1) := by decide +kernel
theorem dL_law_513 : decode cL_law 513 = .ok (.iload 4, 2) := by decide +kernel
theorem dL_law_515 : decode cL_law 515 = .ok (.iconst 2, 1) := by decide +kernel
theorem dL_law_516 : decode cL_law 516 = .ok (.iadd, 1) := by decide +kernel
theorem dL_law_517 : decode cL_law 517 = .ok (.iaload, 1) := by decide +kernel
theorem dL_law_518 : decode cL_law 518 = .ok (.aload_n 0, 1) := by decide +kernel
theorem dL_law_519 : decode cL_law 519 = .ok (.iload 4, 2) := by decide +kernel
theorem dL_law_521 : decode cL_law 521 = .ok (.iconst 3, 1) := by decide +kernel
theorem dL_law_522 : decode cL_law 522 = .ok (.iadd, 1) := by decide +kernel
theorem dL_law_523 : decode cL_law 523 = .ok (.iaload, 1) := by decide +kernel
theorem dL_law_524 : decode cL_law 524 = .ok (.invokevirtual 128, 3) := by decide +kernel
theorem dL_law_527 : decode cL_law 527 = .ok (.istore 6, 2) := by decide +kernel
theorem dL_law_529 : decode cL_law 529 = .ok (.aload_n 2, 1) := by decide +kernel
theorem dL_law_530 : decode cL_law 530 = .ok (.invokevirtual 113, 3) := by decide +kernel
theorem dL_law_533 : decode cL_law 533 = .ok (.iload 5, 2) := by decide +kernel
theorem dL_law_535 : decode cL_law 535 = .ok (.if_icmp .eq 5, 3) := by decide +kernel
theorem dL_law_538 : decode cL_law 538 = .ok (.iconst 0, 1) := by decide +kernel
theorem dL_law_539 : decode cL_law 539 = .ok (.ireturn, 1) := by decide +kernel
theorem dL_law_540 : decode cL_law 540 = .ok (.iload 5, 2) := by decide +kernel
theorem dL_law_542 : decode cL_law 542 = .ok (.ifCond .ne 15, 3) := by decide +kernel
theorem dL_law_545 : decode cL_law 545 = .ok (.aload_n 3, 1) := by decide +kernel
theorem dL_law_546 : decode cL_law 546 = .ok (.iconst 0, 1) := by decide +kernel
theorem dL_law_547 : decode cL_law 547 = .ok (.laload, 1) := by decide +kernel
theorem dL_law_548 : decode cL_law 548 = .ok (.iload 6, 2) := by decide +kernel
theorem dL_law_550 : decode cL_law 550 = .ok (.i2l, 1) := by decide +kernel
theorem dL_law_551 : decode cL_law 551 = .ok (.lcmp, 1) := by decide +kernel
theorem dL_law_552 : decode cL_law 552 = .ok (.ifCond .eq 5, 3) := by decide +kernel
theorem dL_law_555 : decode cL_law 555 = .ok (.iconst 0, 1) := by decide +kernel
theorem dL_law_556 : decode cL_law 556 = .ok (.ireturn, 1) := by decide +kernel
theorem dL_law_557 : decode cL_law 557 = .ok (.goto 1464, 3) := by decide +kernel
theorem dL_law_560 : decode cL_law 560 = .ok (.aload_n 1, 1) := by decide +kernel
theorem dL_law_561 : decode cL_law 561 = .ok (.aload_n 0, 1) := by decide +kernel
theorem dL_law_562 : decode cL_law 562 = .ok (.iload 4, 2) := by decide +kernel
theorem dL_law_564 : decode cL_law 564 = .ok (.iconst 1, 1) := by decide +kernel
theorem dL_law_565 : decode cL_law 565 = .ok (.iadd, 1) := by decide +kernel
theorem dL_law_566 : decode cL_law 566 = .ok (.iaload, 1) := by decide +kernel
theorem dL_law_567 : decode cL_law 567 = .ok (.aload_n 0, 1) := by decide +kernel
theorem dL_law_568 : decode cL_law 568 = .ok (.iload 4, 2) := by decide +kernel
theorem dL_law_570 : decode cL_law 570 = .ok (.iconst 2, 1) := by decide +kernel
theorem dL_law_571 : decode cL_law 571 = .ok (.iadd, 1) := by decide +kernel
theorem dL_law_572 : decode cL_law 572 = .ok (.iaload, 1) := by decide +kernel
theorem dL_law_573 : decode cL_law 573 = .ok (.aload_n 0, 1) := by decide +kernel
theorem dL_law_574 : decode cL_law 574 = .ok (.iload 4, 2) := by decide +kernel
theorem dL_law_576 : decode cL_law 576 = .ok (.iconst 3, 1) := by decide +kernel
theorem dL_law_577 : decode cL_law 577 = .ok (.iadd, 1) := by decide +kernel
theorem dL_law_578 : decode cL_law 578 = .ok (.iaload, 1) := by decide +kernel
theorem dL_law_579 : decode cL_law 579 = .ok (.aload_n 3, 1) := by decide +kernel
theorem dL_law_580 : decode cL_law 580 = .ok (.invokestatic 129, 3) := by decide +kernel
theorem dL_law_583 : decode cL_law 583 = .ok (.istore 5, 2) := by decide +kernel
theorem dL_law_585 : decode cL_law 585 = .ok (.aload_n 2, 1) := by decide +kernel
theorem dL_law_586 : decode cL_law 586 = .ok (.aload_n 0, 1) := by decide +kernel
theorem dL_law_587 : decode cL_law 587 = .ok (.iload 4, 2) := by decide +kernel
theorem dL_law_589 : decode cL_law 589 = .ok (.iconst 1, 1) := by decide +kernel
theorem dL_law_590 : decode cL_law 590 = .ok (.iadd, 1) := by decide +kernel
theorem dL_law_591 : decode cL_law 591 = .ok (.iaload, 1) := by decide +kernel
theorem dL_law_592 : decode cL_law 592 = .ok (.aload_n 0, 1) := by decide +kernel
theorem dL_law_593 : decode cL_law 593 = .ok (.iload 4, 2) := by decide +kernel
theorem dL_law_595 : decode cL_law 595 = .ok (.iconst 2, 1) := by decide +kernel
theorem dL_law_596 : decode cL_law 596 = .ok (.iadd, 1) := by decide +kernel
theorem dL_law_597 : decode cL_law 597 = .ok (.iaload, 1) := by decide +kernel
theorem dL_law_598 : decode cL_law 598 = .ok (.aload_n 0, 1) := by decide +kernel
theorem dL_law_599 : decode cL_law 599 = .ok (.iload 4, 2) := by decide +kernel
theorem dL_law_601 : decode cL_law 601 = .ok (.iconst 3, 1) := by decide +kernel
theorem dL_law_602 : decode cL_law 602 = .ok (.iadd, 1) := by decide +kernel
theorem dL_law_603 : decode cL_law 603 = .ok (.iaload, 1) := by decide +kernel
theorem dL_law_604 : decode cL_law 604 = .ok (.invokevirtual 131, 3) := by decide +kernel
theorem dL_law_607 : decode cL_law 607 = .ok (.istore 6, 2) := by decide +kernel
theorem dL_law_609 : decode cL_law 609 = .ok (.aload_n 2, 1) := by decide +kernel
theorem dL_law_610 : decode cL_law 610 = .ok (.invokevirtual 113, 3) := by decide +kernel
theorem dL_law_613 : decode cL_law 613 = .ok (.iload 5, 2) := by decide +kernel
theorem dL_law_615 : decode cL_law 615 = .ok (.if_icmp .eq 5, 3) := by decide +kernel
theorem dL_law_618 : decode cL_law 618 = .ok (.iconst 0, 1) := by decide +kernel
theorem dL_law_619 : decode cL_law 619 = .ok (.ireturn, 1) := by decide +kernel
theorem dL_law_620 : decode cL_law 620 = .ok (.iload 5, 2) := by decide +kernel
theorem dL_law_622 : decode cL_law 622 = .ok (.ifCond .ne 15, 3) := by decide +kernel
theorem dL_law_625 : decode cL_law 625 = .ok (.aload_n 3, 1) := by decide +kernel
theorem dL_law_626 : decode cL_law 626 = .ok (.iconst 0, 1) := by decide +kernel
theorem dL_law_627 : decode cL_law 627 = .ok (.laload, 1) := by decide +kernel
theorem dL_law_628 : decode cL_law 628 = .ok (.iload 6, 2) := by decide +kernel
theorem dL_law_630 : decode cL_law 630 = .ok (.i2l, 1) := by decide +kernel
theorem dL_law_631 : decode cL_law 631 = .ok (.lcmp, 1) := by decide +kernel
theorem dL_law_632 : decode cL_law 632 = .ok (.ifCond .eq 5, 3) := by decide +kernel
theorem dL_law_635 : decode cL_law 635 = .ok (.iconst 0, 1) := by decide +kernel
theorem dL_law_636 : decode cL_law 636 = .ok (.ireturn, 1) := by decide +kernel
theorem dL_law_637 : decode cL_law 637 = .ok (.goto 1384, 3) := by decide +kernel
theorem dL_law_640 : decode cL_law 640 = .ok (.aload_n 1, 1) := by decide +kernel
theorem dL_law_641 : decode cL_law 641 = .ok (.aload_n 0, 1) := by decide +kernel
theorem dL_law_642 : decode cL_law 642 = .ok (.iload 4, 2) := by decide +kernel
theorem dL_law_644 : decode cL_law 644 = .ok (.iconst 1, 1) := by decide +kernel
theorem dL_law_645 : decode cL_law 645 = .ok (.iadd, 1) := by decide +kernel
theorem dL_law_646 : decode cL_law 646 = .ok (.iaload, 1) := by decide +kernel
theorem dL_law_647 : decode cL_law 647 = .ok (.aload_n 0, 1) := by decide +kernel
theorem dL_law_648 : decode cL_law 648 = .ok (.iload 4, 2) := by decide +kernel
theorem dL_law_650 : decode cL_law 650 = .ok (.iconst 2, 1) := by decide +kernel
theorem dL_law_651 : decode cL_law 651 = .ok (.iadd, 1) := by decide +kernel
theorem dL_law_652 : decode cL_law 652 = .ok (.iaload, 1) := by decide +kernel
theorem dL_law_653 : decode cL_law 653 = .ok (.aload_n 3, 1) := by decide +kernel
theorem dL_law_654 : decode cL_law 654 = .ok (.invokestatic 132, 3) := by decide +kernel
theorem dL_law_657 : decode cL_law 657 = .ok (.istore 5, 2) := by decide +kernel
theorem dL_law_659 : decode cL_law 659 = .ok (.aload_n 2, 1) := by decide +kernel
theorem dL_law_660 : decode cL_law 660 = .ok (.aload_n 0, 1) := by decide +kernel
theorem dL_law_661 : decode cL_law 661 = .ok (.iload 4, 2) := by decide +kernel
theorem dL_law_663 : decode cL_law 663 = .ok (.iconst 1, 1) := by decide +kernel
theorem dL_law_664 : decode cL_law 664 = .ok (.iadd, 1) := by decide +kernel
theorem dL_law_665 : decode cL_law 665 = .ok (.iaload, 1) := by decide +kernel
theorem dL_law_666 : decode cL_law 666 = .ok (.aload_n 0, 1) := by decide +kernel
theorem dL_law_667 : decode cL_law 667 = .ok (.iload 4, 2) := by decide +kernel
theorem dL_law_669 : decode cL_law 669 = .ok (.iconst 2, 1) := by decide +kernel
theorem dL_law_670 : decode cL_law 670 = .ok (.iadd, 1) := by decide +kernel
theorem dL_law_671 : decode cL_law 671 = .ok (.iaload, 1) := by decide +kernel
theorem dL_law_672 : decode cL_law 672 = .ok (.invokevirtual 134, 3) := by decide +kernel
theorem dL_law_675 : decode cL_law 675 = .ok (.istore 6, 2) := by decide +kernel
theorem dL_law_677 : decode cL_law 677 = .ok (.aload_n 2, 1) := by decide +kernel
theorem dL_law_678 : decode cL_law 678 = .ok (.invokevirtual 113, 3) := by decide +kernel
theorem dL_law_681 : decode cL_law 681 = .ok (.iload 5, 2) := by decide +kernel
theorem dL_law_683 : decode cL_law 683 = .ok (.if_icmp .eq 5, 3) := by decide +kernel
theorem dL_law_686 : decode cL_law 686 = .ok (.iconst 0, 1) := by decide +kernel
theorem dL_law_687 : decode cL_law 687 = .ok (.ireturn, 1) := by decide +kernel
theorem dL_law_688 : decode cL_law 688 = .ok (.iload 5, 2) := by decide +kernel
theorem dL_law_690 : decode cL_law 690 = .ok (.ifCond .ne 15, 3) := by decide +kernel
theorem dL_law_693 : decode cL_law 693 = .ok (.aload_n 3, 1) := by decide +kernel
theorem dL_law_694 : decode cL_law 694 = .ok (.iconst 0, 1) := by decide +kernel
theorem dL_law_695 : decode cL_law 695 = .ok (.laload, 1) := by decide +kernel
theorem dL_law_696 : decode cL_law 696 = .ok (.iload 6, 2) := by decide +kernel
theorem dL_law_698 : decode cL_law 698 = .ok (.i2l, 1) := by decide +kernel
theorem dL_law_699 : decode cL_law 699 = .ok (.lcmp, 1) := by decide +kernel
theorem dL_law_700 : decode cL_law 700 = .ok (.ifCond .eq 5, 3) := by decide +kernel
theorem dL_law_703 : decode cL_law 703 = .ok (.iconst 0, 1) := by decide +kernel
theorem dL_law_704 : decode cL_law 704 = .ok (.ireturn, 1) := by decide +kernel
theorem dL_law_705 : decode cL_law 705 = .ok (.goto 1316, 3) := by decide +kernel
theorem dL_law_708 : decode cL_law 708 = .ok (.aload_n 1, 1) := by decide +kernel
theorem dL_law_709 : decode cL_law 709 = .ok (.aload_n 0, 1) := by decide +kernel
theorem dL_law_710 : decode cL_law 710 = .ok (.iload 4, 2) := by decide +kernel
theorem dL_law_712 : decode cL_law 712 = .ok (.iconst 1, 1) := by decide +kernel
theorem dL_law_713 : decode cL_law 713 = .ok (.iadd, 1) := by decide +kernel
theorem dL_law_714 : decode cL_law 714 = .ok (.iaload, 1) := by decide +kernel
theorem dL_law_715 : decode cL_law 715 = .ok (.aload_n 0, 1) := by decide +kernel
theorem dL_law_716 : decode cL_law 716 = .ok (.iload 4, 2) := by decide +kernel
theorem dL_law_718 : decode cL_law 718 = .ok (.iconst 2, 1) := by decide +kernel
theorem dL_law_719 : decode cL_law 719 = .ok (.iadd, 1) := by decide +kernel
theorem dL_law_720 : decode cL_law 720 = .ok (.iaload, 1) := by decide +kernel
theorem dL_law_721 : decode cL_law 721 = .ok (.aload_n 0, 1) := by decide +kernel
theorem dL_law_722 : decode cL_law 722 = .ok (.iload 4, 2) := by decide +kernel
theorem dL_law_724 : decode cL_law 724 = .ok (.iconst 3, 1) := by decide +kernel
theorem dL_law_725 : decode cL_law 725 = .ok (.iadd, 1) := by decide +kernel
theorem dL_law_726 : decode cL_law 726 = .ok (.iaload, 1) := by decide +kernel
theorem dL_law_727 : decode cL_law 727 = .ok (.aload_n 3, 1) := by decide +kernel
theorem dL_law_728 : decode cL_law 728 = .ok (.invokestatic 135, 3) := by decide +kernel
theorem dL_law_731 : decode cL_law 731 = .ok (.istore 5, 2) := by decide +kernel
theorem dL_law_733 : decode cL_law 733 = .ok (.aload_n 2, 1) := by decide +kernel
theorem dL_law_734 : decode cL_law 734 = .ok (.aload_n 0, 1) := by decide +kernel
theorem dL_law_735 : decode cL_law 735 = .ok (.iload 4, 2) := by decide +kernel
theorem dL_law_737 : decode cL_law 737 = .ok (.iconst 1, 1) := by decide +kernel
theorem dL_law_738 : decode cL_law 738 = .ok (.iadd, 1) := by decide +kernel
theorem dL_law_739 : decode cL_law 739 = .ok (.iaload, 1) := by decide +kernel
theorem dL_law_740 : decode cL_law 740 = .ok (.aload_n 0, 1) := by decide +kernel
theorem dL_law_741 : decode cL_law 741 = .ok (.iload 4, 2) := by decide +kernel
theorem dL_law_743 : decode cL_law 743 = .ok (.iconst 2, 1) := by decide +kernel
theorem dL_law_744 : decode cL_law 744 = .ok (.iadd, 1) := by decide +kernel
theorem dL_law_745 : decode cL_law 745 = .ok (.iaload, 1) := by decide +kernel
theorem dL_law_746 : decode cL_law 746 = .ok (.aload_n 0, 1) := by decide +kernel
theorem dL_law_747 : decode cL_law 747 = .ok (.iload 4, 2) := by decide +kernel
theorem dL_law_749 : decode cL_law 749 = .ok (.iconst 3, 1) := by decide +kernel
theorem dL_law_750 : decode cL_law 750 = .ok (.iadd, 1) := by decide +kernel
theorem dL_law_751 : decode cL_law 751 = .ok (.iaload, 1) := by decide +kernel
theorem dL_law_752 : decode cL_law 752 = .ok (.invokevirtual 137, 3) := by decide +kernel
theorem dL_law_755 : decode cL_law 755 = .ok (.istore 6, 2) := by decide +kernel
theorem dL_law_757 : decode cL_law 757 = .ok (.aload_n 2, 1) := by decide +kernel
theorem dL_law_758 : decode cL_law 758 = .ok (.invokevirtual 113, 3) := by decide +kernel
theorem dL_law_761 : decode cL_law 761 = .ok (.iload 5, 2) := by decide +kernel
theorem dL_law_763 : decode cL_law 763 = .ok (.if_icmp .eq 5, 3) := by decide +kernel
theorem dL_law_766 : decode cL_law 766 = .ok (.iconst 0, 1) := by decide +kernel
theorem dL_law_767 : decode cL_law 767 = .ok (.ireturn, 1) := by decide +kernel
theorem dL_law_768 : decode cL_law 768 = .ok (.iload 5, 2) := by decide +kernel
theorem dL_law_770 : decode cL_law 770 = .ok (.ifCond .ne 15, 3) := by decide +kernel
theorem dL_law_773 : decode cL_law 773 = .ok (.aload_n 3, 1) := by decide +kernel
theorem dL_law_774 : decode cL_law 774 = .ok (.iconst 0, 1) := by decide +kernel
theorem dL_law_775 : decode cL_law 775 = .ok (.laload, 1) := by decide +kernel
theorem dL_law_776 : decode cL_law 776 = .ok (.iload 6, 2) := by decide +kernel
theorem dL_law_778 : decode cL_law 778 = .ok (.i2l, 1) := by decide +kernel
theorem dL_law_779 : decode cL_law 779 = .ok (.lcmp, 1) := by decide +kernel
theorem dL_law_780 : decode cL_law 780 = .ok (.ifCond .eq 5, 3) := by decide +kernel
theorem dL_law_783 : decode cL_law 783 = .ok (.iconst 0, 1) := by decide +kernel
theorem dL_law_784 : decode cL_law 784 = .ok (.ireturn, 1) := by decide +kernel
theorem dL_law_785 : decode cL_law 785 = .ok (.goto 1236, 3) := by decide +kernel
theorem dL_law_788 : decode cL_law 788 = .ok (.aload_n 1, 1) := by decide +kernel
theorem dL_law_789 : decode cL_law 789 = .ok (.aload_n 0, 1) := by decide +kernel
theorem dL_law_790 : decode cL_law 790 = .ok (.iload 4, 2) := by decide +kernel
theorem dL_law_792 : decode cL_law 792 = .ok (.iconst 1, 1) := by decide +kernel
theorem dL_law_793 : decode cL_law 793 = .ok (.iadd, 1) := by decide +kernel
theorem dL_law_794 : decode cL_law 794 = .ok (.iaload, 1) := by decide +kernel
theorem dL_law_795 : decode cL_law 795 = .ok (.aload_n 0, 1) := by decide +kernel
theorem dL_law_796 : decode cL_law 796 = .ok (.iload 4, 2) := by decide +kernel
theorem dL_law_798 : decode cL_law 798 = .ok (.iconst 2, 1) := by decide +kernel
theorem dL_law_799 : decode cL_law 799 = .ok (.iadd, 1) := by decide +kernel
theorem dL_law_800 : decode cL_law 800 = .ok (.iaload, 1) := by decide +kernel
theorem dL_law_801 : decode cL_law 801 = .ok (.aload_n 3, 1) := by decide +kernel
theorem dL_law_802 : decode cL_law 802 = .ok (.invokestatic 138, 3) := by decide +kernel
theorem dL_law_805 : decode cL_law 805 = .ok (.istore 5, 2) := by decide +kernel
theorem dL_law_807 : decode cL_law 807 = .ok (.aload_n 2, 1) := by decide +kernel
theorem dL_law_808 : decode cL_law 808 = .ok (.aload_n 0, 1) := by decide +kernel
theorem dL_law_809 : decode cL_law 809 = .ok (.iload 4, 2) := by decide +kernel
theorem dL_law_811 : decode cL_law 811 = .ok (.iconst 1, 1) := by decide +kernel
theorem dL_law_812 : decode cL_law 812 = .ok (.iadd, 1) := by decide +kernel
theorem dL_law_813 : decode cL_law 813 = .ok (.iaload, 1) := by decide +kernel
theorem dL_law_814 : decode cL_law 814 = .ok (.aload_n 0, 1) := by decide +kernel
theorem dL_law_815 : decode cL_law 815 = .ok (.iload 4, 2) := by decide +kernel
theorem dL_law_817 : decode cL_law 817 = .ok (.iconst 2, 1) := by decide +kernel
theorem dL_law_818 : decode cL_law 818 = .ok (.iadd, 1) := by decide +kernel
theorem dL_law_819 : decode cL_law 819 = .ok (.iaload, 1) := by decide +kernel
theorem dL_law_820 : decode cL_law 820 = .ok (.invokevirtual 140, 3) := by decide +kernel
theorem dL_law_823 : decode cL_law 823 = .ok (.istore 6, 2) := by decide +kernel
theorem dL_law_825 : decode cL_law 825 = .ok (.aload_n 2, 1) := by decide +kernel
theorem dL_law_826 : decode cL_law 826 = .ok (.invokevirtual 113, 3) := by decide +kernel
theorem dL_law_829 : decode cL_law 829 = .ok (.iload 5, 2) := by decide +kernel
theorem dL_law_831 : decode cL_law 831 = .ok (.if_icmp .eq 5, 3) := by decide +kernel
theorem dL_law_834 : decode cL_law 834 = .ok (.iconst 0, 1) := by decide +kernel
theorem dL_law_835 : decode cL_law 835 = .ok (.ireturn, 1) := by decide +kernel
theorem dL_law_836 : decode cL_law 836 = .ok (.iload 5, 2) := by decide +kernel
theorem dL_law_838 : decode cL_law 838 = .ok (.ifCond .ne 15, 3) := by decide +kernel
theorem dL_law_841 : decode cL_law 841 = .ok (.aload_n 3, 1) := by decide +kernel
theorem dL_law_842 : decode cL_law 842 = .ok (.iconst 0, 1) := by decide +kernel
theorem dL_law_843 : decode cL_law 843 = .ok (.laload, 1) := by decide +kernel
theorem dL_law_844 : decode cL_law 844 = .ok (.iload 6, 2) := by decide +kernel
theorem dL_law_846 : decode cL_law 846 = .ok (.i2l, 1) := by decide +kernel
theorem dL_law_847 : decode cL_law 847 = .ok (.lcmp, 1) := by decide +kernel
theorem dL_law_848 : decode cL_law 848 = .ok (.ifCond .eq 5, 3) := by decide +kernel
theorem dL_law_851 : decode cL_law 851 = .ok (.iconst 0, 1) := by decide +kernel
theorem dL_law_852 : decode cL_law 852 = .ok (.ireturn, 1) := by decide +kernel
theorem dL_law_853 : decode cL_law 853 = .ok (.goto 1168, 3) := by decide +kernel
theorem dL_law_856 : decode cL_law 856 = .ok (.aload_n 1, 1) := by decide +kernel
theorem dL_law_857 : decode cL_law 857 = .ok (.aload_n 0, 1) := by decide +kernel
theorem dL_law_858 : decode cL_law 858 = .ok (.iload 4, 2) := by decide +kernel
theorem dL_law_860 : decode cL_law 860 = .ok (.iconst 1, 1) := by decide +kernel
theorem dL_law_861 : decode cL_law 861 = .ok (.iadd, 1) := by decide +kernel
theorem dL_law_862 : decode cL_law 862 = .ok (.iaload, 1) := by decide +kernel
theorem dL_law_863 : decode cL_law 863 = .ok (.aload_n 3, 1) := by decide +kernel
theorem dL_law_864 : decode cL_law 864 = .ok (.invokestatic 141, 3) := by decide +kernel
theorem dL_law_867 : decode cL_law 867 = .ok (.istore 5, 2) := by decide +kernel
theorem dL_law_869 : decode cL_law 869 = .ok (.aload_n 2, 1) := by decide +kernel
theorem dL_law_870 : decode cL_law 870 = .ok (.aload_n 0, 1) := by decide +kernel
theorem dL_law_871 : decode cL_law 871 = .ok (.iload 4, 2) := by decide +kernel
theorem dL_law_873 : decode cL_law 873 = .ok (.iconst 1, 1) := by decide +kernel
theorem dL_law_874 : decode cL_law 874 = .ok (.iadd, 1) := by decide +kernel
theorem dL_law_875 : decode cL_law 875 = .ok (.iaload, 1) := by decide +kernel
theorem dL_law_876 : decode cL_law 876 = .ok (.invokevirtual 144, 3) := by decide +kernel
theorem dL_law_879 : decode cL_law 879 = .ok (.istore 6, 2) := by decide +kernel
theorem dL_law_881 : decode cL_law 881 = .ok (.aload_n 2, 1) := by decide +kernel
theorem dL_law_882 : decode cL_law 882 = .ok (.invokevirtual 113, 3) := by decide +kernel
theorem dL_law_885 : decode cL_law 885 = .ok (.iload 5, 2) := by decide +kernel
theorem dL_law_887 : decode cL_law 887 = .ok (.if_icmp .eq 5, 3) := by decide +kernel
theorem dL_law_890 : decode cL_law 890 = .ok (.iconst 0, 1) := by decide +kernel
theorem dL_law_891 : decode cL_law 891 = .ok (.ireturn, 1) := by decide +kernel
theorem dL_law_892 : decode cL_law 892 = .ok (.iload 5, 2) := by decide +kernel
theorem dL_law_894 : decode cL_law 894 = .ok (.ifCond .ne 15, 3) := by decide +kernel
theorem dL_law_897 : decode cL_law 897 = .ok (.aload_n 3, 1) := by decide +kernel
theorem dL_law_898 : decode cL_law 898 = .ok (.iconst 0, 1) := by decide +kernel
theorem dL_law_899 : decode cL_law 899 = .ok (.laload, 1) := by decide +kernel
theorem dL_law_900 : decode cL_law 900 = .ok (.iload 6, 2) := by decide +kernel
theorem dL_law_902 : decode cL_law 902 = .ok (.i2l, 1) := by decide +kernel
theorem dL_law_903 : decode cL_law 903 = .ok (.lcmp, 1) := by decide +kernel
theorem dL_law_904 : decode cL_law 904 = .ok (.ifCond .eq 5, 3) := by decide +kernel
theorem dL_law_907 : decode cL_law 907 = .ok (.iconst 0, 1) := by decide +kernel
theorem dL_law_908 : decode cL_law 908 = .ok (.ireturn, 1) := by decide +kernel
theorem dL_law_909 : decode cL_law 909 = .ok (.goto 1112, 3) := by decide +kernel
theorem dL_law_912 : decode cL_law 912 = .ok (.aload_n 1, 1) := by decide +kernel
theorem dL_law_913 : decode cL_law 913 = .ok (.aload_n 0, 1) := by decide +kernel
theorem dL_law_914 : decode cL_law 914 = .ok (.iload 4, 2) := by decide +kernel
theorem dL_law_916 : decode cL_law 916 = .ok (.iconst 1, 1) := by decide +kernel
theorem dL_law_917 : decode cL_law 917 = .ok (.iadd, 1) := by decide +kernel
theorem dL_law_918 : decode cL_law 918 = .ok (.iaload, 1) := by decide +kernel
theorem dL_law_919 : decode cL_law 919 = .ok (.aload_n 3, 1) := by decide +kernel
theorem dL_law_920 : decode cL_law 920 = .ok (.invokestatic 145, 3) := by decide +kernel
theorem dL_law_923 : decode cL_law 923 = .ok (.istore 5, 2) := by decide +kernel
theorem dL_law_925 : decode cL_law 925 = .ok (.aload_n 2, 1) := by decide +kernel
theorem dL_law_926 : decode cL_law 926 = .ok (.aload_n 0, 1) := by decide +kernel
theorem dL_law_927 : decode cL_law 927 = .ok (.iload 4, 2) := by decide +kernel
theorem dL_law_929 : decode cL_law 929 = .ok (.iconst 1, 1) := by decide +kernel
theorem dL_law_930 : decode cL_law 930 = .ok (.iadd, 1) := by decide +kernel
theorem dL_law_931 : decode cL_law 931 = .ok (.iaload, 1) := by decide +kernel
theorem dL_law_932 : decode cL_law 932 = .ok (.invokevirtual 147, 3) := by decide +kernel
theorem dL_law_935 : decode cL_law 935 = .ok (.istore 6, 2) := by decide +kernel
theorem dL_law_937 : decode cL_law 937 = .ok (.aload_n 2, 1) := by decide +kernel
theorem dL_law_938 : decode cL_law 938 = .ok (.invokevirtual 113, 3) := by decide +kernel
theorem dL_law_941 : decode cL_law 941 = .ok (.iload 5, 2) := by decide +kernel
theorem dL_law_943 : decode cL_law 943 = .ok (.if_icmp .eq 5, 3) := by decide +kernel
theorem dL_law_946 : decode cL_law 946 = .ok (.iconst 0, 1) := by decide +kernel
theorem dL_law_947 : decode cL_law 947 = .ok (.ireturn, 1) := by decide +kernel
theorem dL_law_948 : decode cL_law 948 = .ok (.iload 5, 2) := by decide +kernel
theorem dL_law_950 : decode cL_law 950 = .ok (.ifCond .ne 15, 3) := by decide +kernel
theorem dL_law_953 : decode cL_law 953 = .ok (.aload_n 3, 1) := by decide +kernel
theorem dL_law_954 : decode cL_law 954 = .ok (.iconst 0, 1) := by decide +kernel
theorem dL_law_955 : decode cL_law 955 = .ok (.laload, 1) := by decide +kernel
theorem dL_law_956 : decode cL_law 956 = .ok (.iload 6, 2) := by decide +kernel
theorem dL_law_958 : decode cL_law 958 = .ok (.i2l, 1) := by decide +kernel
theorem dL_law_959 : decode cL_law 959 = .ok (.lcmp, 1) := by decide +kernel
theorem dL_law_960 : decode cL_law 960 = .ok (.ifCond .eq 5, 3) := by decide +kernel
theorem dL_law_963 : decode cL_law 963 = .ok (.iconst 0, 1) := by decide +kernel
theorem dL_law_964 : decode cL_law 964 = .ok (.ireturn, 1) := by decide +kernel
theorem dL_law_965 : decode cL_law 965 = .ok (.goto 1056, 3) := by decide +kernel
theorem dL_law_968 : decode cL_law 968 = .ok (.aload_n 1, 1) := by decide +kernel
theorem dL_law_969 : decode cL_law 969 = .ok (.aload_n 3, 1) := by decide +kernel
theorem dL_law_970 : decode cL_law 970 = .ok (.invokestatic 148, 3) := by decide +kernel
theorem dL_law_973 : decode cL_law 973 = .ok (.istore 5, 2) := by decide +kernel
theorem dL_law_975 : decode cL_law 975 = .ok (.aload_n 2, 1) := by decide +kernel
theorem dL_law_976 : decode cL_law 976 = .ok (.invokevirtual 151, 3) := by decide +kernel
theorem dL_law_979 : decode cL_law 979 = .ok (.istore 6, 2) := by decide +kernel
theorem dL_law_981 : decode cL_law 981 = .ok (.aload_n 2, 1) := by decide +kernel
theorem dL_law_982 : decode cL_law 982 = .ok (.invokevirtual 113, 3) := by decide +kernel
theorem dL_law_985 : decode cL_law 985 = .ok (.iload 5, 2) := by decide +kernel
theorem dL_law_987 : decode cL_law 987 = .ok (.if_icmp .eq 5, 3) := by decide +kernel
theorem dL_law_990 : decode cL_law 990 = .ok (.iconst 0, 1) := by decide +kernel
theorem dL_law_991 : decode cL_law 991 = .ok (.ireturn, 1) := by decide +kernel
theorem dL_law_992 : decode cL_law 992 = .ok (.iload 5, 2) := by decide +kernel
theorem dL_law_994 : decode cL_law 994 = .ok (.ifCond .ne 15, 3) := by decide +kernel
theorem dL_law_997 : decode cL_law 997 = .ok (.aload_n 3, 1) := by decide +kernel
theorem dL_law_998 : decode cL_law 998 = .ok (.iconst 0, 1) := by decide +kernel
theorem dL_law_999 : decode cL_law 999 = .ok (.laload, 1) := by decide +kernel
theorem dL_law_1000 : decode cL_law 1000 = .ok (.iload 6, 2) := by decide +kernel
theorem dL_law_1002 : decode cL_law 1002 = .ok (.i2l, 1) := by decide +kernel
theorem dL_law_1003 : decode cL_law 1003 = .ok (.lcmp, 1) := by decide +kernel
theorem dL_law_1004 : decode cL_law 1004 = .ok (.ifCond .eq 5, 3) := by decide +kernel
theorem dL_law_1007 : decode cL_law 1007 = .ok (.iconst 0, 1) := by decide +kernel
theorem dL_law_1008 : decode cL_law 1008 = .ok (.ireturn, 1) := by decide +kernel
theorem dL_law_1009 : decode cL_law 1009 = .ok (.goto 1012, 3) := by decide +kernel
theorem dL_law_1012 : decode cL_law 1012 = .ok (.aload_n 1, 1) := by decide +kernel
theorem dL_law_1013 : decode cL_law 1013 = .ok (.aload_n 0, 1) := by decide +kernel
theorem dL_law_1014 : decode cL_law 1014 = .ok (.iload 4, 2) := by decide +kernel
theorem dL_law_1016 : decode cL_law 1016 = .ok (.iconst 1, 1) := by decide +kernel
theorem dL_law_1017 : decode cL_law 1017 = .ok (.iadd, 1) := by decide +kernel
theorem dL_law_1018 : decode cL_law 1018 = .ok (.iaload, 1) := by decide +kernel
theorem dL_law_1019 : decode cL_law 1019 = .ok (.aload_n 3, 1) := by decide +kernel
theorem dL_law_1020 : decode cL_law 1020 = .ok (.invokestatic 152, 3) := by decide +kernel
theorem dL_law_1023 : decode cL_law 1023 = .ok (.istore 5, 2) := by decide +kernel
theorem dL_law_1025 : decode cL_law 1025 = .ok (.aload_n 2, 1) := by decide +kernel
theorem dL_law_1026 : decode cL_law 1026 = .ok (.aload_n 0, 1) := by decide +kernel
theorem dL_law_1027 : decode cL_law 1027 = .ok (.iload 4, 2) := by decide +kernel
theorem dL_law_1029 : decode cL_law 1029 = .ok (.iconst 1, 1) := by decide +kernel
theorem dL_law_1030 : decode cL_law 1030 = .ok (.iadd, 1) := by decide +kernel
theorem dL_law_1031 : decode cL_law 1031 = .ok (.iaload, 1) := by decide +kernel
theorem dL_law_1032 : decode cL_law 1032 = .ok (.invokevirtual 154, 3) := by decide +kernel
theorem dL_law_1035 : decode cL_law 1035 = .ok (.istore 6, 2) := by decide +kernel
theorem dL_law_1037 : decode cL_law 1037 = .ok (.aload_n 2, 1) := by decide +kernel
theorem dL_law_1038 : decode cL_law 1038 = .ok (.invokevirtual 113, 3) := by decide +kernel
theorem dL_law_1041 : decode cL_law 1041 = .ok (.iload 5, 2) := by decide +kernel
theorem dL_law_1043 : decode cL_law 1043 = .ok (.if_icmp .eq 5, 3) := by decide +kernel
theorem dL_law_1046 : decode cL_law 1046 = .ok (.iconst 0, 1) := by decide +kernel
theorem dL_law_1047 : decode cL_law 1047 = .ok (.ireturn, 1) := by decide +kernel
theorem dL_law_1048 : decode cL_law 1048 = .ok (.iload 5, 2) := by decide +kernel
theorem dL_law_1050 : decode cL_law 1050 = .ok (.ifCond .ne 15, 3) := by decide +kernel
theorem dL_law_1053 : decode cL_law 1053 = .ok (.aload_n 3, 1) := by decide +kernel
theorem dL_law_1054 : decode cL_law 1054 = .ok (.iconst 0, 1) := by decide +kernel
theorem dL_law_1055 : decode cL_law 1055 = .ok (.laload, 1) := by decide +kernel
theorem dL_law_1056 : decode cL_law 1056 = .ok (.iload 6, 2) := by decide +kernel
theorem dL_law_1058 : decode cL_law 1058 = .ok (.i2l, 1) := by decide +kernel
theorem dL_law_1059 : decode cL_law 1059 = .ok (.lcmp, 1) := by decide +kernel
theorem dL_law_1060 : decode cL_law 1060 = .ok (.ifCond .eq 5, 3) := by decide +kernel
theorem dL_law_1063 : decode cL_law 1063 = .ok (.iconst 0, 1) := by decide +kernel
theorem dL_law_1064 : decode cL_law 1064 = .ok (.ireturn, 1) := by decide +kernel
theorem dL_law_1065 : decode cL_law 1065 = .ok (.goto 956, 3) := by decide +kernel
theorem dL_law_1068 : decode cL_law 1068 = .ok (.aload_n 1, 1) := by decide +kernel
theorem dL_law_1069 : decode cL_law 1069 = .ok (.invokevirtual 155, 3) := by decide +kernel
theorem dL_law_1072 : decode cL_law 1072 = .ok (.aload_n 2, 1) := by decide +kernel
theorem dL_law_1073 : decode cL_law 1073 = .ok (.invokevirtual 158, 3) := by decide +kernel
theorem dL_law_1076 : decode cL_law 1076 = .ok (.if_icmp .eq 945, 3) := by decide +kernel
theorem dL_law_1079 : decode cL_law 1079 = .ok (.iconst 0, 1) := by decide +kernel
theorem dL_law_1080 : decode cL_law 1080 = .ok (.ireturn, 1) := by decide +kernel
theorem dL_law_1081 : decode cL_law 1081 = .ok (.aload_n 1, 1) := by decide +kernel
theorem dL_law_1082 : decode cL_law 1082 = .ok (.invokevirtual 159, 3) := by decide +kernel
theorem dL_law_1085 : decode cL_law 1085 = .ok (.aload_n 2, 1) := by decide +kernel
theorem dL_law_1086 : decode cL_law 1086 = .ok (.invokevirtual 162, 3) := by decide +kernel
theorem dL_law_1089 : decode cL_law 1089 = .ok (.if_icmp .eq 932, 3) := by decide +kernel
theorem dL_law_1092 : decode cL_law 1092 = .ok (.iconst 0, 1) := by decide +kernel
theorem dL_law_1093 : decode cL_law 1093 = .ok (.ireturn, 1) := by decide +kernel
theorem dL_law_1094 : decode cL_law 1094 = .ok (.aload_n 1, 1) := by decide +kernel
theorem dL_law_1095 : decode cL_law 1095 = .ok (.invokevirtual 163, 3) := by decide +kernel
theorem dL_law_1098 : decode cL_law 1098 = .ok (.aload_n 2, 1) := by decide +kernel
theorem dL_law_1099 : decode cL_law 1099 = .ok (.invokevirtual 166, 3) := by decide +kernel
theorem dL_law_1102 : decode cL_law 1102 = .ok (.if_icmp .eq 919, 3) := by decide +kernel
theorem dL_law_1105 : decode cL_law 1105 = .ok (.iconst 0, 1) := by decide +kernel
theorem dL_law_1106 : decode cL_law 1106 = .ok (.ireturn, 1) := by decide +kernel
theorem dL_law_1107 : decode cL_law 1107 = .ok (.aload_n 1, 1) := by decide +kernel
theorem dL_law_1108 : decode cL_law 1108 = .ok (.invokevirtual 167, 3) := by decide +kernel
theorem dL_law_1111 : decode cL_law 1111 = .ok (.aload_n 2, 1) := by decide +kernel
theorem dL_law_1112 : decode cL_law 1112 = .ok (.invokevirtual 170, 3) := by decide +kernel
theorem dL_law_1115 : decode cL_law 1115 = .ok (.if_icmp .eq 906, 3) := by decide +kernel
theorem dL_law_1118 : decode cL_law 1118 = .ok (.iconst 0, 1) := by decide +kernel
theorem dL_law_1119 : decode cL_law 1119 = .ok (.ireturn, 1) := by decide +kernel
theorem dL_law_1120 : decode cL_law 1120 = .ok (.aload_n 1, 1) := by decide +kernel
theorem dL_law_1121 : decode cL_law 1121 = .ok (.aload_n 0, 1) := by decide +kernel
theorem dL_law_1122 : decode cL_law 1122 = .ok (.iload 4, 2) := by decide +kernel
theorem dL_law_1124 : decode cL_law 1124 = .ok (.iconst 1, 1) := by decide +kernel
theorem dL_law_1125 : decode cL_law 1125 = .ok (.iadd, 1) := by decide +kernel
theorem dL_law_1126 : decode cL_law 1126 = .ok (.iaload, 1) := by decide +kernel
theorem dL_law_1127 : decode cL_law 1127 = .ok (.aload_n 3, 1) := by decide +kernel
theorem dL_law_1128 : decode cL_law 1128 = .ok (.invokestatic 171, 3) := by decide +kernel
theorem dL_law_1131 : decode cL_law 1131 = .ok (.istore 5, 2) := by decide +kernel
theorem dL_law_1133 : decode cL_law 1133 = .ok (.aload_n 2, 1) := by decide +kernel
theorem dL_law_1134 : decode cL_law 1134 = .ok (.aload_n 0, 1) := by decide +kernel
theorem dL_law_1135 : decode cL_law 1135 = .ok (.iload 4, 2) := by decide +kernel
theorem dL_law_1137 : decode cL_law 1137 = .ok (.iconst 1, 1) := by decide +kernel
theorem dL_law_1138 : decode cL_law 1138 = .ok (.iadd, 1) := by decide +kernel
theorem dL_law_1139 : decode cL_law 1139 = .ok (.iaload, 1) := by decide +kernel
theorem dL_law_1140 : decode cL_law 1140 = .ok (.invokevirtual 173, 3) := by decide +kernel
theorem dL_law_1143 : decode cL_law 1143 = .ok (.istore 6, 2) := by decide +kernel
theorem dL_law_1145 : decode cL_law 1145 = .ok (.aload_n 2, 1) := by decide +kernel
theorem dL_law_1146 : decode cL_law 1146 = .ok (.invokevirtual 113, 3) := by decide +kernel
theorem dL_law_1149 : decode cL_law 1149 = .ok (.iload 5, 2) := by decide +kernel
theorem dL_law_1151 : decode cL_law 1151 = .ok (.if_icmp .eq 5, 3) := by decide +kernel
theorem dL_law_1154 : decode cL_law 1154 = .ok (.iconst 0, 1) := by decide +kernel
theorem dL_law_1155 : decode cL_law 1155 = .ok (.ireturn, 1) := by decide +kernel
theorem dL_law_1156 : decode cL_law 1156 = .ok (.iload 5, 2) := by decide +kernel
theorem dL_law_1158 : decode cL_law 1158 = .ok (.ifCond .ne 15, 3) := by decide +kernel
theorem dL_law_1161 : decode cL_law 1161 = .ok (.aload_n 3, 1) := by decide +kernel
theorem dL_law_1162 : decode cL_law 1162 = .ok (.iconst 0, 1) := by decide +kernel
theorem dL_law_1163 : decode cL_law 1163 = .ok (.laload, 1) := by decide +kernel
theorem dL_law_1164 : decode cL_law 1164 = .ok (.iload 6, 2) := by decide +kernel
theorem dL_law_1166 : decode cL_law 1166 = .ok (.i2l, 1) := by decide +kernel
theorem dL_law_1167 : decode cL_law 1167 = .ok (.lcmp, 1) := by decide +kernel
theorem dL_law_1168 : decode cL_law 1168 = .ok (.ifCond .eq 5, 3) := by decide +kernel
theorem dL_law_1171 : decode cL_law 1171 = .ok (.iconst 0, 1) := by decide +kernel
theorem dL_law_1172 : decode cL_law 1172 = .ok (.ireturn, 1) := by decide +kernel
theorem dL_law_1173 : decode cL_law 1173 = .ok (.goto 848, 3) := by decide +kernel
theorem dL_law_1176 : decode cL_law 1176 = .ok (.aload_n 1, 1) := by decide +kernel
theorem dL_law_1177 : decode cL_law 1177 = .ok (.aload_n 0, 1) := by decide +kernel
theorem dL_law_1178 : decode cL_law 1178 = .ok (.iload 4, 2) := by decide +kernel
theorem dL_law_1180 : decode cL_law 1180 = .ok (.iconst 1, 1) := by decide +kernel
theorem dL_law_1181 : decode cL_law 1181 = .ok (.iadd, 1) := by decide +kernel
theorem dL_law_1182 : decode cL_law 1182 = .ok (.iaload, 1) := by decide +kernel
theorem dL_law_1183 : decode cL_law 1183 = .ok (.aload_n 3, 1) := by decide +kernel
theorem dL_law_1184 : decode cL_law 1184 = .ok (.invokestatic 174, 3) := by decide +kernel
theorem dL_law_1187 : decode cL_law 1187 = .ok (.istore 5, 2) := by decide +kernel
theorem dL_law_1189 : decode cL_law 1189 = .ok (.aload_n 2, 1) := by decide +kernel
theorem dL_law_1190 : decode cL_law 1190 = .ok (.aload_n 0, 1) := by decide +kernel
theorem dL_law_1191 : decode cL_law 1191 = .ok (.iload 4, 2) := by decide +kernel
theorem dL_law_1193 : decode cL_law 1193 = .ok (.iconst 1, 1) := by decide +kernel
theorem dL_law_1194 : decode cL_law 1194 = .ok (.iadd, 1) := by decide +kernel
theorem dL_law_1195 : decode cL_law 1195 = .ok (.iaload, 1) := by decide +kernel
theorem dL_law_1196 : decode cL_law 1196 = .ok (.invokevirtual 176, 3) := by decide +kernel
theorem dL_law_1199 : decode cL_law 1199 = .ok (.istore 6, 2) := by decide +kernel
theorem dL_law_1201 : decode cL_law 1201 = .ok (.aload_n 2, 1) := by decide +kernel
theorem dL_law_1202 : decode cL_law 1202 = .ok (.invokevirtual 113, 3) := by decide +kernel
theorem dL_law_1205 : decode cL_law 1205 = .ok (.iload 5, 2) := by decide +kernel
theorem dL_law_1207 : decode cL_law 1207 = .ok (.if_icmp .eq 5, 3) := by decide +kernel
theorem dL_law_1210 : decode cL_law 1210 = .ok (.iconst 0, 1) := by decide +kernel
theorem dL_law_1211 : decode cL_law 1211 = .ok (.ireturn, 1) := by decide +kernel
theorem dL_law_1212 : decode cL_law 1212 = .ok (.iload 5, 2) := by decide +kernel
theorem dL_law_1214 : decode cL_law 1214 = .ok (.ifCond .ne 15, 3) := by decide +kernel
theorem dL_law_1217 : decode cL_law 1217 = .ok (.aload_n 3, 1) := by decide +kernel
theorem dL_law_1218 : decode cL_law 1218 = .ok (.iconst 0, 1) := by decide +kernel
theorem dL_law_1219 : decode cL_law 1219 = .ok (.laload, 1) := by decide +kernel
theorem dL_law_1220 : decode cL_law 1220 = .ok (.iload 6, 2) := by decide +kernel
theorem dL_law_1222 : decode cL_law 1222 = .ok (.i2l, 1) := by decide +kernel
theorem dL_law_1223 : decode cL_law 1223 = .ok (.lcmp, 1) := by decide +kernel
theorem dL_law_1224 : decode cL_law 1224 = .ok (.ifCond .eq 5, 3) := by decide +kernel
theorem dL_law_1227 : decode cL_law 1227 = .ok (.iconst 0, 1) := by decide +kernel
theorem dL_law_1228 : decode cL_law 1228 = .ok (.ireturn, 1) := by decide +kernel
theorem dL_law_1229 : decode cL_law 1229 = .ok (.goto 792, 3) := by decide +kernel
theorem dL_law_1232 : decode cL_law 1232 = .ok (.aload_n 1, 1) := by decide +kernel
theorem dL_law_1233 : decode cL_law 1233 = .ok (.aload_n 0, 1) := by decide +kernel
theorem dL_law_1234 : decode cL_law 1234 = .ok (.iload 4, 2) := by decide +kernel
theorem dL_law_1236 : decode cL_law 1236 = .ok (.iconst 1, 1) := by decide +kernel
theorem dL_law_1237 : decode cL_law 1237 = .ok (.iadd, 1) := by decide +kernel
theorem dL_law_1238 : decode cL_law 1238 = .ok (.iaload, 1) := by decide +kernel
theorem dL_law_1239 : decode cL_law 1239 = .ok (.aload_n 3, 1) := by decide +kernel
theorem dL_law_1240 : decode cL_law 1240 = .ok (.invokestatic 177, 3) := by decide +kernel
theorem dL_law_1243 : decode cL_law 1243 = .ok (.istore 5, 2) := by decide +kernel
theorem dL_law_1245 : decode cL_law 1245 = .ok (.aload_n 2, 1) := by decide +kernel
theorem dL_law_1246 : decode cL_law 1246 = .ok (.aload_n 0, 1) := by decide +kernel
theorem dL_law_1247 : decode cL_law 1247 = .ok (.iload 4, 2) := by decide +kernel
theorem dL_law_1249 : decode cL_law 1249 = .ok (.iconst 1, 1) := by decide +kernel
theorem dL_law_1250 : decode cL_law 1250 = .ok (.iadd, 1) := by decide +kernel
theorem dL_law_1251 : decode cL_law 1251 = .ok (.iaload, 1) := by decide +kernel
theorem dL_law_1252 : decode cL_law 1252 = .ok (.invokevirtual 179, 3) := by decide +kernel
theorem dL_law_1255 : decode cL_law 1255 = .ok (.istore 6, 2) := by decide +kernel
theorem dL_law_1257 : decode cL_law 1257 = .ok (.aload_n 2, 1) := by decide +kernel
theorem dL_law_1258 : decode cL_law 1258 = .ok (.invokevirtual 113, 3) := by decide +kernel
theorem dL_law_1261 : decode cL_law 1261 = .ok (.iload 5, 2) := by decide +kernel
theorem dL_law_1263 : decode cL_law 1263 = .ok (.if_icmp .eq 5, 3) := by decide +kernel
theorem dL_law_1266 : decode cL_law 1266 = .ok (.iconst 0, 1) := by decide +kernel
theorem dL_law_1267 : decode cL_law 1267 = .ok (.ireturn, 1) := by decide +kernel
theorem dL_law_1268 : decode cL_law 1268 = .ok (.iload 5, 2) := by decide +kernel
theorem dL_law_1270 : decode cL_law 1270 = .ok (.ifCond .ne 15, 3) := by decide +kernel
theorem dL_law_1273 : decode cL_law 1273 = .ok (.aload_n 3, 1) := by decide +kernel
theorem dL_law_1274 : decode cL_law 1274 = .ok (.iconst 0, 1) := by decide +kernel
theorem dL_law_1275 : decode cL_law 1275 = .ok (.laload, 1) := by decide +kernel
theorem dL_law_1276 : decode cL_law 1276 = .ok (.iload 6, 2) := by decide +kernel
theorem dL_law_1278 : decode cL_law 1278 = .ok (.i2l, 1) := by decide +kernel
theorem dL_law_1279 : decode cL_law 1279 = .ok (.lcmp, 1) := by decide +kernel
theorem dL_law_1280 : decode cL_law 1280 = .ok (.ifCond .eq 5, 3) := by decide +kernel
theorem dL_law_1283 : decode cL_law 1283 = .ok (.iconst 0, 1) := by decide +kernel
theorem dL_law_1284 : decode cL_law 1284 = .ok (.ireturn, 1) := by decide +kernel
theorem dL_law_1285 : decode cL_law 1285 = .ok (.goto 736, 3) := by decide +kernel
theorem dL_law_1288 : decode cL_law 1288 = .ok (.aload_n 1, 1) := by decide +kernel
theorem dL_law_1289 : decode cL_law 1289 = .ok (.aload_n 0, 1) := by decide +kernel
theorem dL_law_1290 : decode cL_law 1290 = .ok (.iload 4, 2) := by decide +kernel
theorem dL_law_1292 : decode cL_law 1292 = .ok (.iconst 1, 1) := by decide +kernel
theorem dL_law_1293 : decode cL_law 1293 = .ok (.iadd, 1) := by decide +kernel
theorem dL_law_1294 : decode cL_law 1294 = .ok (.iaload, 1) := by decide +kernel
theorem dL_law_1295 : decode cL_law 1295 = .ok (.aload_n 3, 1) := by decide +kernel
theorem dL_law_1296 : decode cL_law 1296 = .ok (.invokestatic 180, 3) := by decide +kernel
theorem dL_law_1299 : decode cL_law 1299 = .ok (.istore 5, 2) := by decide +kernel
theorem dL_law_1301 : decode cL_law 1301 = .ok (.aload_n 2, 1) := by decide +kernel
theorem dL_law_1302 : decode cL_law 1302 = .ok (.aload_n 0, 1) := by decide +kernel
theorem dL_law_1303 : decode cL_law 1303 = .ok (.iload 4, 2) := by decide +kernel
theorem dL_law_1305 : decode cL_law 1305 = .ok (.iconst 1, 1) := by decide +kernel
theorem dL_law_1306 : decode cL_law 1306 = .ok (.iadd, 1) := by decide +kernel
theorem dL_law_1307 : decode cL_law 1307 = .ok (.iaload, 1) := by decide +kernel
theorem dL_law_1308 : decode cL_law 1308 = .ok (.invokevirtual 182, 3) := by decide +kernel
theorem dL_law_1311 : decode cL_law 1311 = .ok (.istore 6, 2) := by decide +kernel
theorem dL_law_1313 : decode cL_law 1313 = .ok (.aload_n 2, 1) := by decide +kernel
theorem dL_law_1314 : decode cL_law 1314 = .ok (.invokevirtual 113, 3) := by decide +kernel
theorem dL_law_1317 : decode cL_law 1317 = .ok (.iload 5, 2) := by decide +kernel
theorem dL_law_1319 : decode cL_law 1319 = .ok (.if_icmp .eq 5, 3) := by decide +kernel
theorem dL_law_1322 : decode cL_law 1322 = .ok (.iconst 0, 1) := by decide +kernel
theorem dL_law_1323 : decode cL_law 1323 = .ok (.ireturn, 1) := by decide +kernel
theorem dL_law_1324 : decode cL_law 1324 = .ok (.iload 5, 2) := by decide +kernel
theorem dL_law_1326 : decode cL_law 1326 = .ok (.ifCond .ne 15, 3) := by decide +kernel
theorem dL_law_1329 : decode cL_law 1329 = .ok (.aload_n 3, 1) := by decide +kernel
theorem dL_law_1330 : decode cL_law 1330 = .ok (.iconst 0, 1) := by decide +kernel
theorem dL_law_1331 : decode cL_law 1331 = .ok (.laload, 1) := by decide +kernel
theorem dL_law_1332 : decode cL_law 1332 = .ok (.iload 6, 2) := by decide +kernel
theorem dL_law_1334 : decode cL_law 1334 = .ok (.i2l, 1) := by decide +kernel
theorem dL_law_1335 : decode cL_law 1335 = .ok (.lcmp, 1) := by decide +kernel
theorem dL_law_1336 : decode cL_law 1336 = .ok (.ifCond .eq 5, 3) := by decide +kernel
theorem dL_law_1339 : decode cL_law 1339 = .ok (.iconst 0, 1) := by decide +kernel
theorem dL_law_1340 : decode cL_law 1340 = .ok (.ireturn, 1) := by decide +kernel
theorem dL_law_1341 : decode cL_law 1341 = .ok (.goto 680, 3) := by decide +kernel
theorem dL_law_1344 : decode cL_law 1344 = .ok (.aload_n 1, 1) := by decide +kernel
theorem dL_law_1345 : decode cL_law 1345 = .ok (.aload_n 0, 1) := by decide +kernel
theorem dL_law_1346 : decode cL_law 1346 = .ok (.iload 4, 2) := by decide +kernel
theorem dL_law_1348 : decode cL_law 1348 = .ok (.iconst 1, 1) := by decide +kernel
theorem dL_law_1349 : decode cL_law 1349 = .ok (.iadd, 1) := by decide +kernel
theorem dL_law_1350 : decode cL_law 1350 = .ok (.iaload, 1) := by decide +kernel
theorem dL_law_1351 : decode cL_law 1351 = .ok (.aload_n 0, 1) := by decide +kernel
theorem dL_law_1352 : decode cL_law 1352 = .ok (.iload 4, 2) := by decide +kernel
theorem dL_law_1354 : decode cL_law 1354 = .ok (.iconst 2, 1) := by decide +kernel
theorem dL_law_1355 : decode cL_law 1355 = .ok (.iadd, 1) := by decide +kernel
theorem dL_law_1356 : decode cL_law 1356 = .ok (.iaload, 1) := by decide +kernel
theorem dL_law_1357 : decode cL_law 1357 = .ok (.aload_n 3, 1) := by decide +kernel
theorem dL_law_1358 : decode cL_law 1358 = .ok (.invokestatic 183, 3) := by decide +kernel
theorem dL_law_1361 : decode cL_law 1361 = .ok (.istore 5, 2) := by decide +kernel
theorem dL_law_1363 : decode cL_law 1363 = .ok (.aload_n 2, 1) := by decide +kernel
theorem dL_law_1364 : decode cL_law 1364 = .ok (.aload_n 0, 1) := by decide +kernel
theorem dL_law_1365 : decode cL_law 1365 = .ok (.iload 4, 2) := by decide +kernel
theorem dL_law_1367 : decode cL_law 1367 = .ok (.iconst 1, 1) := by decide +kernel
theorem dL_law_1368 : decode cL_law 1368 = .ok (.iadd, 1) := by decide +kernel
theorem dL_law_1369 : decode cL_law 1369 = .ok (.iaload, 1) := by decide +kernel
theorem dL_law_1370 : decode cL_law 1370 = .ok (.aload_n 0, 1) := by decide +kernel
theorem dL_law_1371 : decode cL_law 1371 = .ok (.iload 4, 2) := by decide +kernel
theorem dL_law_1373 : decode cL_law 1373 = .ok (.iconst 2, 1) := by decide +kernel
theorem dL_law_1374 : decode cL_law 1374 = .ok (.iadd, 1) := by decide +kernel
theorem dL_law_1375 : decode cL_law 1375 = .ok (.iaload, 1) := by decide +kernel
theorem dL_law_1376 : decode cL_law 1376 = .ok (.invokevirtual 185, 3) := by decide +kernel
theorem dL_law_1379 : decode cL_law 1379 = .ok (.istore 6, 2) := by decide +kernel
theorem dL_law_1381 : decode cL_law 1381 = .ok (.aload_n 2, 1) := by decide +kernel
theorem dL_law_1382 : decode cL_law 1382 = .ok (.invokevirtual 113, 3) := by decide +kernel
theorem dL_law_1385 : decode cL_law 1385 = .ok (.iload 5, 2) := by decide +kernel
theorem dL_law_1387 : decode cL_law 1387 = .ok (.if_icmp .eq 5, 3) := by decide +kernel
theorem dL_law_1390 : decode cL_law 1390 = .ok (.iconst 0, 1) := by decide +kernel
theorem dL_law_1391 : decode cL_law 1391 = .ok (.ireturn, 1) := by decide +kernel
theorem dL_law_1392 : decode cL_law 1392 = .ok (.iload 5, 2) := by decide +kernel
theorem dL_law_1394 : decode cL_law 1394 = .ok (.ifCond .ne 15, 3) := by decide +kernel
theorem dL_law_1397 : decode cL_law 1397 = .ok (.aload_n 3, 1) := by decide +kernel
theorem dL_law_1398 : decode cL_law 1398 = .ok (.iconst 0, 1) := by decide +kernel
theorem dL_law_1399 : decode cL_law 1399 = .ok (.laload, 1) := by decide +kernel
theorem dL_law_1400 : decode cL_law 1400 = .ok (.iload 6, 2) := by decide +kernel
theorem dL_law_1402 : decode cL_law 1402 = .ok (.i2l, 1) := by decide +kernel
theorem dL_law_1403 : decode cL_law 1403 = .ok (.lcmp, 1) := by decide +kernel
theorem dL_law_1404 : decode cL_law 1404 = .ok (.ifCond .eq 5, 3) := by decide +kernel
theorem dL_law_1407 : decode cL_law 1407 = .ok (.iconst 0, 1) := by decide +kernel
theorem dL_law_1408 : decode cL_law 1408 = .ok (.ireturn, 1) := by decide +kernel
theorem dL_law_1409 : decode cL_law 1409 = .ok (.goto 612, 3) := by decide +kernel
theorem dL_law_1412 : decode cL_law 1412 = .ok (.aload_n 1, 1) := by decide +kernel
theorem dL_law_1413 : decode cL_law 1413 = .ok (.aload_n 0, 1) := by decide +kernel
theorem dL_law_1414 : decode cL_law 1414 = .ok (.iload 4, 2) := by decide +kernel
theorem dL_law_1416 : decode cL_law 1416 = .ok (.iconst 1, 1) := by decide +kernel
theorem dL_law_1417 : decode cL_law 1417 = .ok (.iadd, 1) := by decide +kernel
theorem dL_law_1418 : decode cL_law 1418 = .ok (.iaload, 1) := by decide +kernel
theorem dL_law_1419 : decode cL_law 1419 = .ok (.aload_n 0, 1) := by decide +kernel
theorem dL_law_1420 : decode cL_law 1420 = .ok (.iload 4, 2) := by decide +kernel
theorem dL_law_1422 : decode cL_law 1422 = .ok (.iconst 2, 1) := by decide +kernel
theorem dL_law_1423 : decode cL_law 1423 = .ok (.iadd, 1) := by decide +kernel
theorem dL_law_1424 : decode cL_law 1424 = .ok (.iaload, 1) := by decide +kernel
theorem dL_law_1425 : decode cL_law 1425 = .ok (.aload_n 3, 1) := by decide +kernel
theorem dL_law_1426 : decode cL_law 1426 = .ok (.invokestatic 186, 3) := by decide +kernel
theorem dL_law_1429 : decode cL_law 1429 = .ok (.istore 5, 2) := by decide +kernel
theorem dL_law_1431 : decode cL_law 1431 = .ok (.aload_n 2, 1) := by decide +kernel
theorem dL_law_1432 : decode cL_law 1432 = .ok (.aload_n 0, 1) := by decide +kernel
theorem dL_law_1433 : decode cL_law 1433 = .ok (.iload 4, 2) := by decide +kernel
theorem dL_law_1435 : decode cL_law 1435 = .ok (.iconst 1, 1) := by decide +kernel
theorem dL_law_1436 : decode cL_law 1436 = .ok (.iadd, 1) := by decide +kernel
theorem dL_law_1437 : decode cL_law 1437 = .ok (.iaload, 1) := by decide +kernel
theorem dL_law_1438 : decode cL_law 1438 = .ok (.aload_n 0, 1) := by decide +kernel
theorem dL_law_1439 : decode cL_law 1439 = .ok (.iload 4, 2) := by decide +kernel
theorem dL_law_1441 : decode cL_law 1441 = .ok (.iconst 2, 1) := by decide +kernel
theorem dL_law_1442 : decode cL_law 1442 = .ok (.iadd, 1) := by decide +kernel
theorem dL_law_1443 : decode cL_law 1443 = .ok (.iaload, 1) := by decide +kernel
theorem dL_law_1444 : decode cL_law 1444 = .ok (.invokevirtual 188, 3) := by decide +kernel
theorem dL_law_1447 : decode cL_law 1447 = .ok (.istore 6, 2) := by decide +kernel
theorem dL_law_1449 : decode cL_law 1449 = .ok (.aload_n 2, 1) := by decide +kernel
theorem dL_law_1450 : decode cL_law 1450 = .ok (.invokevirtual 113, 3) := by decide +kernel
theorem dL_law_1453 : decode cL_law 1453 = .ok (.iload 5, 2) := by decide +kernel
theorem dL_law_1455 : decode cL_law 1455 = .ok (.if_icmp .eq 5, 3) := by decide +kernel
theorem dL_law_1458 : decode cL_law 1458 = .ok (.iconst 0, 1) := by decide +kernel
theorem dL_law_1459 : decode cL_law 1459 = .ok (.ireturn, 1) := by decide +kernel
theorem dL_law_1460 : decode cL_law 1460 = .ok (.iload 5, 2) := by decide +kernel
theorem dL_law_1462 : decode cL_law 1462 = .ok (.ifCond .ne 15, 3) := by decide +kernel
theorem dL_law_1465 : decode cL_law 1465 = .ok (.aload_n 3, 1) := by decide +kernel
theorem dL_law_1466 : decode cL_law 1466 = .ok (.iconst 0, 1) := by decide +kernel
theorem dL_law_1467 : decode cL_law 1467 = .ok (.laload, 1) := by decide +kernel
theorem dL_law_1468 : decode cL_law 1468 = .ok (.iload 6, 2) := by decide +kernel
theorem dL_law_1470 : decode cL_law 1470 = .ok (.i2l, 1) := by decide +kernel
theorem dL_law_1471 : decode cL_law 1471 = .ok (.lcmp, 1) := by decide +kernel
theorem dL_law_1472 : decode cL_law 1472 = .ok (.ifCond .eq 5, 3) := by decide +kernel
theorem dL_law_1475 : decode cL_law 1475 = .ok (.iconst 0, 1) := by decide +kernel
theorem dL_law_1476 : decode cL_law 1476 = .ok (.ireturn, 1) := by decide +kernel
theorem dL_law_1477 : decode cL_law 1477 = .ok (.goto 544, 3) := by decide +kernel
theorem dL_law_1480 : decode cL_law 1480 = .ok (.aload_n 1, 1) := by decide +kernel
theorem dL_law_1481 : decode cL_law 1481 = .ok (.aload_n 3, 1) := by decide +kernel
theorem dL_law_1482 : decode cL_law 1482 = .ok (.invokestatic 189, 3) := by decide +kernel
theorem dL_law_1485 : decode cL_law 1485 = .ok (.istore 5, 2) := by decide +kernel
theorem dL_law_1487 : decode cL_law 1487 = .ok (.aload_n 2, 1) := by decide +kernel
theorem dL_law_1488 : decode cL_law 1488 = .ok (.invokevirtual 191, 3) := by decide +kernel
theorem dL_law_1491 : decode cL_law 1491 = .ok (.istore 6, 2) := by decide +kernel
theorem dL_law_1493 : decode cL_law 1493 = .ok (.aload_n 2, 1) := by decide +kernel
theorem dL_law_1494 : decode cL_law 1494 = .ok (.invokevirtual 113, 3) := by decide +kernel
theorem dL_law_1497 : decode cL_law 1497 = .ok (.iload 5, 2) := by decide +kernel
theorem dL_law_1499 : decode cL_law 1499 = .ok (.if_icmp .eq 5, 3) := by decide +kernel
theorem dL_law_1502 : decode cL_law 1502 = .ok (.iconst 0, 1) := by decide +kernel
theorem dL_law_1503 : decode cL_law 1503 = .ok (.ireturn, 1) := by decide +kernel
theorem dL_law_1504 : decode cL_law 1504 = .ok (.iload 5, 2) := by decide +kernel
theorem dL_law_1506 : decode cL_law 1506 = .ok (.ifCond .ne 15, 3) := by decide +kernel
theorem dL_law_1509 : decode cL_law 1509 = .ok (.aload_n 3, 1) := by decide +kernel
theorem dL_law_1510 : decode cL_law 1510 = .ok (.iconst 0, 1) := by decide +kernel
theorem dL_law_1511 : decode cL_law 1511 = .ok (.laload, 1) := by decide +kernel
theorem dL_law_1512 : decode cL_law 1512 = .ok (.iload 6, 2) := by decide +kernel
theorem dL_law_1514 : decode cL_law 1514 = .ok (.i2l, 1) := by decide +kernel
theorem dL_law_1515 : decode cL_law 1515 = .ok (.lcmp, 1) := by decide +kernel
theorem dL_law_1516 : decode cL_law 1516 = .ok (.ifCond .eq 5, 3) := by decide +kernel
theorem dL_law_1519 : decode cL_law 1519 = .ok (.iconst 0, 1) := by decide +kernel
theorem dL_law_1520 : decode cL_law 1520 = .ok (.ireturn, 1) := by decide +kernel
theorem dL_law_1521 : decode cL_law 1521 = .ok (.goto 500, 3) := by decide +kernel
theorem dL_law_1524 : decode cL_law 1524 = .ok (.aload_n 1, 1) := by decide +kernel
theorem dL_law_1525 : decode cL_law 1525 = .ok (.invokevirtual 192, 3) := by decide +kernel
theorem dL_law_1528 : decode cL_law 1528 = .ok (.aload_n 2, 1) := by decide +kernel
theorem dL_law_1529 : decode cL_law 1529 = .ok (.invokevirtual 195, 3) := by decide +kernel
theorem dL_law_1532 : decode cL_law 1532 = .ok (.if_icmp .eq 489, 3) := by decide +kernel
theorem dL_law_1535 : decode cL_law 1535 = .ok (.iconst 0, 1) := by decide +kernel
theorem dL_law_1536 : decode cL_law 1536 = .ok (.ireturn, 1) := by decide +kernel
theorem dL_law_1537 : decode cL_law 1537 = .ok (.aload_n 1, 1) := by decide +kernel
theorem dL_law_1538 : decode cL_law 1538 = .ok (.aload_n 0, 1) := by decide +kernel
theorem dL_law_1539 : decode cL_law 1539 = .ok (.iload 4, 2) := by decide +kernel
theorem dL_law_1541 : decode cL_law 1541 = .ok (.iconst 1, 1) := by decide +kernel
theorem dL_law_1542 : decode cL_law 1542 = .ok (.iadd, 1) := by decide +kernel
theorem dL_law_1543 : decode cL_law 1543 = .ok (.iaload, 1) := by decide +kernel
theorem dL_law_1544 : decode cL_law 1544 = .ok (.aload_n 3, 1) := by decide +kernel
theorem dL_law_1545 : decode cL_law 1545 = .ok (.invokestatic 196, 3) := by decide +kernel
theorem dL_law_1548 : decode cL_law 1548 = .ok (.istore 5, 2) := by decide +kernel
theorem dL_law_1550 : decode cL_law 1550 = .ok (.aload_n 2, 1) := by decide +kernel
theorem dL_law_1551 : decode cL_law 1551 = .ok (.aload_n 0, 1) := by decide +kernel
theorem dL_law_1552 : decode cL_law 1552 = .ok (.iload 4, 2) := by decide +kernel
theorem dL_law_1554 : decode cL_law 1554 = .ok (.iconst 1, 1) := by decide +kernel
theorem dL_law_1555 : decode cL_law 1555 = .ok (.iadd, 1) := by decide +kernel
theorem dL_law_1556 : decode cL_law 1556 = .ok (.iaload, 1) := by decide +kernel
theorem dL_law_1557 : decode cL_law 1557 = .ok (.invokevirtual 198, 3) := by decide +kernel
theorem dL_law_1560 : decode cL_law 1560 = .ok (.istore 6, 2) := by decide +kernel
theorem dL_law_1562 : decode cL_law 1562 = .ok (.aload_n 2, 1) := by decide +kernel
theorem dL_law_1563 : decode cL_law 1563 = .ok (.invokevirtual 113, 3) := by decide +kernel
theorem dL_law_1566 : decode cL_law 1566 = .ok (.iload 5, 2) := by decide +kernel
theorem dL_law_1568 : decode cL_law 1568 = .ok (.if_icmp .eq 5, 3) := by decide +kernel
theorem dL_law_1571 : decode cL_law 1571 = .ok (.iconst 0, 1) := by decide +kernel
theorem dL_law_1572 : decode cL_law 1572 = .ok (.ireturn, 1) := by decide +kernel
theorem dL_law_1573 : decode cL_law 1573 = .ok (.iload 5, 2) := by decide +kernel
theorem dL_law_1575 : decode cL_law 1575 = .ok (.ifCond .ne 15, 3) := by decide +kernel
theorem dL_law_1578 : decode cL_law 1578 = .ok (.aload_n 3, 1) := by decide +kernel
theorem dL_law_1579 : decode cL_law 1579 = .ok (.iconst 0, 1) := by decide +kernel
theorem dL_law_1580 : decode cL_law 1580 = .ok (.laload, 1) := by decide +kernel
theorem dL_law_1581 : decode cL_law 1581 = .ok (.iload 6, 2) := by decide +kernel
theorem dL_law_1583 : decode cL_law 1583 = .ok (.i2l, 1) := by decide +kernel
theorem dL_law_1584 : decode cL_law 1584 = .ok (.lcmp, 1) := by decide +kernel
theorem dL_law_1585 : decode cL_law 1585 = .ok (.ifCond .eq 5, 3) := by decide +kernel
theorem dL_law_1588 : decode cL_law 1588 = .ok (.iconst 0, 1) := by decide +kernel
theorem dL_law_1589 : decode cL_law 1589 = .ok (.ireturn, 1) := by decide +kernel
theorem dL_law_1590 : decode cL_law 1590 = .ok (.goto 431, 3) := by decide +kernel
theorem dL_law_1593 : decode cL_law 1593 = .ok (.aload_n 1, 1) := by decide +kernel
theorem dL_law_1594 : decode cL_law 1594 = .ok (.aload_n 0, 1) := by decide +kernel
theorem dL_law_1595 : decode cL_law 1595 = .ok (.iload 4, 2) := by decide +kernel
theorem dL_law_1597 : decode cL_law 1597 = .ok (.iconst 1, 1) := by decide +kernel
theorem dL_law_1598 : decode cL_law 1598 = .ok (.iadd, 1) := by decide +kernel
theorem dL_law_1599 : decode cL_law 1599 = .ok (.iaload, 1) := by decide +kernel
theorem dL_law_1600 : decode cL_law 1600 = .ok (.aload_n 3, 1) := by decide +kernel
theorem dL_law_1601 : decode cL_law 1601 = .ok (.invokestatic 199, 3) := by decide +kernel
theorem dL_law_1604 : decode cL_law 1604 = .ok (.istore 5, 2) := by decide +kernel
theorem dL_law_1606 : decode cL_law 1606 = .ok (.aload_n 2, 1) := by decide +kernel
theorem dL_law_1607 : decode cL_law 1607 = .ok (.aload_n 0, 1) := by decide +kernel
theorem dL_law_1608 : decode cL_law 1608 = .ok (.iload 4, 2) := by decide +kernel
theorem dL_law_1610 : decode cL_law 1610 = .ok (.iconst 1, 1) := by decide +kernel
theorem dL_law_1611 : decode cL_law 1611 = .ok (.iadd, 1) := by decide +kernel
theorem dL_law_1612 : decode cL_law 1612 = .ok (.iaload, 1) := by decide +kernel
theorem dL_law_1613 : decode cL_law 1613 = .ok (.invokevirtual 201, 3) := by decide +kernel
theorem dL_law_1616 : decode cL_law 1616 = .ok (.istore 6, 2) := by decide +kernel
theorem dL_law_1618 : decode cL_law 1618 = .ok (.aload_n 2, 1) := by decide +kernel
theorem dL_law_1619 : decode cL_law 1619 = .ok (.invokevirtual 113, 3) := by decide +kernel
theorem dL_law_1622 : decode cL_law 1622 = .ok (.iload 5, 2) := by decide +kernel
theorem dL_law_1624 : decode cL_law 1624 = .ok (.if_icmp .eq 5, 3) := by decide +kernel
theorem dL_law_1627 : decode cL_law 1627 = .ok (.iconst 0, 1) := by decide +kernel
theorem dL_law_1628 : decode cL_law 1628 = .ok (.ireturn, 1) := by decide +kernel
theorem dL_law_1629 : decode cL_law 1629 = .ok (.iload 5, 2) := by decide +kernel
theorem dL_law_1631 : decode cL_law 1631 = .ok (.ifCond .ne 15, 3) := by decide +kernel
theorem dL_law_1634 : decode cL_law 1634 = .ok (.aload_n 3, 1) := by decide +kernel
theorem dL_law_1635 : decode cL_law 1635 = .ok (.iconst 0, 1) := by decide +kernel
theorem dL_law_1636 : decode cL_law 1636 = .ok (.laload, 1) := by decide +kernel
theorem dL_law_1637 : decode cL_law 1637 = .ok (.iload 6, 2) := by decide +kernel
theorem dL_law_1639 : decode cL_law 1639 = .ok (.i2l, 1) := by decide +kernel
theorem dL_law_1640 : decode cL_law 1640 = .ok (.lcmp, 1) := by decide +kernel
theorem dL_law_1641 : decode cL_law 1641 = .ok (.ifCond .eq 5, 3) := by decide +kernel
theorem dL_law_1644 : decode cL_law 1644 = .ok (.iconst 0, 1) := by decide +kernel
theorem dL_law_1645 : decode cL_law 1645 = .ok (.ireturn, 1) := by decide +kernel
theorem dL_law_1646 : decode cL_law 1646 = .ok (.goto 375, 3) := by decide +kernel
theorem dL_law_1649 : decode cL_law 1649 = .ok (.aload_n 1, 1) := by decide +kernel
theorem dL_law_1650 : decode cL_law 1650 = .ok (.aload_n 0, 1) := by decide +kernel
theorem dL_law_1651 : decode cL_law 1651 = .ok (.iload 4, 2) := by decide +kernel
theorem dL_law_1653 : decode cL_law 1653 = .ok (.iconst 1, 1) := by decide +kernel
theorem dL_law_1654 : decode cL_law 1654 = .ok (.iadd, 1) := by decide +kernel
theorem dL_law_1655 : decode cL_law 1655 = .ok (.iaload, 1) := by decide +kernel
theorem dL_law_1656 : decode cL_law 1656 = .ok (.aload_n 0, 1) := by decide +kernel
theorem dL_law_1657 : decode cL_law 1657 = .ok (.iload 4, 2) := by decide +kernel
theorem dL_law_1659 : decode cL_law 1659 = .ok (.iconst 2, 1) := by decide +kernel
theorem dL_law_1660 : decode cL_law 1660 = .ok (.iadd, 1) := by decide +kernel
theorem dL_law_1661 : decode cL_law 1661 = .ok (.iaload, 1) := by decide +kernel
theorem dL_law_1662 : decode cL_law 1662 = .ok (.aload_n 3, 1) := by decide +kernel
theorem dL_law_1663 : decode cL_law 1663 = .ok (.invokestatic 202, 3) := by decide +kernel
theorem dL_law_1666 : decode cL_law 1666 = .ok (.istore 5, 2) := by decide +kernel
theorem dL_law_1668 : decode cL_law 1668 = .ok (.aload_n 2, 1) := by decide +kernel
theorem dL_law_1669 : decode cL_law 1669 = .ok (.aload_n 0, 1) := by decide +kernel
theorem dL_law_1670 : decode cL_law 1670 = .ok (.iload 4, 2) := by decide +kernel
theorem dL_law_1672 : decode cL_law 1672 = .ok (.iconst 1, 1) := by decide +kernel
theorem dL_law_1673 : decode cL_law 1673 = .ok (.iadd, 1) := by decide +kernel
theorem dL_law_1674 : decode cL_law 1674 = .ok (.iaload, 1) := by decide +kernel
theorem dL_law_1675 : decode cL_law 1675 = .ok (.aload_n 0, 1) := by decide +kernel
theorem dL_law_1676 : decode cL_law 1676 = .ok (.iload 4, 2) := by decide +kernel
theorem dL_law_1678 : decode cL_law 1678 = .ok (.iconst 2, 1) := by decide +kernel
theorem dL_law_1679 : decode cL_law 1679 = .ok (.iadd, 1) := by decide +kernel
theorem dL_law_1680 : decode cL_law 1680 = .ok (.iaload, 1) := by decide +kernel
theorem dL_law_1681 : decode cL_law 1681 = .ok (.invokevirtual 204, 3) := by decide +kernel
theorem dL_law_1684 : decode cL_law 1684 = .ok (.istore 6, 2) := by decide +kernel
theorem dL_law_1686 : decode cL_law 1686 = .ok (.aload_n 2, 1) := by decide +kernel
theorem dL_law_1687 : decode cL_law 1687 = .ok (.invokevirtual 113, 3) := by decide +kernel
theorem dL_law_1690 : decode cL_law 1690 = .ok (.iload 5, 2) := by decide +kernel
theorem dL_law_1692 : decode cL_law 1692 = .ok (.if_icmp .eq 5, 3) := by decide +kernel
theorem dL_law_1695 : decode cL_law 1695 = .ok (.iconst 0, 1) := by decide +kernel
theorem dL_law_1696 : decode cL_law 1696 = .ok (.ireturn, 1) := by decide +kernel
theorem dL_law_1697 : decode cL_law 1697 = .ok (.iload 5, 2) := by decide +kernel
theorem dL_law_1699 : decode cL_law 1699 = .ok (.ifCond .ne 15, 3) := by decide +kernel
theorem dL_law_1702 : decode cL_law 1702 = .ok (.aload_n 3, 1) := by decide +kernel
theorem dL_law_1703 : decode cL_law 1703 = .ok (.iconst 0, 1) := by decide +kernel
theorem dL_law_1704 : decode cL_law 1704 = .ok (.laload, 1) := by decide +kernel
theorem dL_law_1705 : decode cL_law 1705 = .ok (.iload 6, 2) := by decide +kernel
theorem dL_law_1707 : decode cL_law 1707 = .ok (.i2l, 1) := by decide +kernel
theorem dL_law_1708 : decode cL_law 1708 = .ok (.lcmp, 1) := by decide +kernel
theorem dL_law_1709 : decode cL_law 1709 = .ok (.ifCond .eq 5, 3) := by decide +kernel
theorem dL_law_1712 : decode cL_law 1712 = .ok (.iconst 0, 1) := by decide +kernel
theorem dL_law_1713 : decode cL_law 1713 = .ok (.ireturn, 1) := by decide +kernel
theorem dL_law_1714 : decode cL_law 1714 = .ok (.goto 307, 3) := by decide +kernel
theorem dL_law_1717 : decode cL_law 1717 = .ok (.aload_n 1, 1) := by decide +kernel
theorem dL_law_1718 : decode cL_law 1718 = .ok (.aload_n 0, 1) := by decide +kernel
theorem dL_law_1719 : decode cL_law 1719 = .ok (.iload 4, 2) := by decide +kernel
theorem dL_law_1721 : decode cL_law 1721 = .ok (.iconst 1, 1) := by decide +kernel
theorem dL_law_1722 : decode cL_law 1722 = .ok (.iadd, 1) := by decide +kernel
theorem dL_law_1723 : decode cL_law 1723 = .ok (.iaload, 1) := by decide +kernel
theorem dL_law_1724 : decode cL_law 1724 = .ok (.aload_n 0, 1) := by decide +kernel
theorem dL_law_1725 : decode cL_law 1725 = .ok (.iload 4, 2) := by decide +kernel
theorem dL_law_1727 : decode cL_law 1727 = .ok (.iconst 2, 1) := by decide +kernel
theorem dL_law_1728 : decode cL_law 1728 = .ok (.iadd, 1) := by decide +kernel
theorem dL_law_1729 : decode cL_law 1729 = .ok (.iaload, 1) := by decide +kernel
theorem dL_law_1730 : decode cL_law 1730 = .ok (.aload_n 3, 1) := by decide +kernel
theorem dL_law_1731 : decode cL_law 1731 = .ok (.invokestatic 205, 3) := by decide +kernel
theorem dL_law_1734 : decode cL_law 1734 = .ok (.istore 5, 2) := by decide +kernel
theorem dL_law_1736 : decode cL_law 1736 = .ok (.aload_n 2, 1) := by decide +kernel
theorem dL_law_1737 : decode cL_law 1737 = .ok (.aload_n 0, 1) := by decide +kernel
theorem dL_law_1738 : decode cL_law 1738 = .ok (.iload 4, 2) := by decide +kernel
theorem dL_law_1740 : decode cL_law 1740 = .ok (.iconst 1, 1) := by decide +kernel
theorem dL_law_1741 : decode cL_law 1741 = .ok (.iadd, 1) := by decide +kernel
theorem dL_law_1742 : decode cL_law 1742 = .ok (.iaload, 1) := by decide +kernel
theorem dL_law_1743 : decode cL_law 1743 = .ok (.aload_n 0, 1) := by decide +kernel
theorem dL_law_1744 : decode cL_law 1744 = .ok (.iload 4, 2) := by decide +kernel
theorem dL_law_1746 : decode cL_law 1746 = .ok (.iconst 2, 1) := by decide +kernel
theorem dL_law_1747 : decode cL_law 1747 = .ok (.iadd, 1) := by decide +kernel
theorem dL_law_1748 : decode cL_law 1748 = .ok (.iaload, 1) := by decide +kernel
theorem dL_law_1749 : decode cL_law 1749 = .ok (.invokevirtual 207, 3) := by decide +kernel
theorem dL_law_1752 : decode cL_law 1752 = .ok (.istore 6, 2) := by decide +kernel
theorem dL_law_1754 : decode cL_law 1754 = .ok (.aload_n 2, 1) := by decide +kernel
theorem dL_law_1755 : decode cL_law 1755 = .ok (.invokevirtual 113, 3) := by decide +kernel
theorem dL_law_1758 : decode cL_law 1758 = .ok (.iload 5, 2) := by decide +kernel
theorem dL_law_1760 : decode cL_law 1760 = .ok (.if_icmp .eq 5, 3) := by decide +kernel
theorem dL_law_1763 : decode cL_law 1763 = .ok (.iconst 0, 1) := by decide +kernel
theorem dL_law_1764 : decode cL_law 1764 = .ok (.ireturn, 1) := by decide +kernel
theorem dL_law_1765 : decode cL_law 1765 = .ok (.iload 5, 2) := by decide +kernel
theorem dL_law_1767 : decode cL_law 1767 = .ok (.ifCond .ne 15, 3) := by decide +kernel
theorem dL_law_1770 : decode cL_law 1770 = .ok (.aload_n 3, 1) := by decide +kernel
theorem dL_law_1771 : decode cL_law 1771 = .ok (.iconst 0, 1) := by decide +kernel
theorem dL_law_1772 : decode cL_law 1772 = .ok (.laload, 1) := by decide +kernel
theorem dL_law_1773 : decode cL_law 1773 = .ok (.iload 6, 2) := by decide +kernel
theorem dL_law_1775 : decode cL_law 1775 = .ok (.i2l, 1) := by decide +kernel
theorem dL_law_1776 : decode cL_law 1776 = .ok (.lcmp, 1) := by decide +kernel
theorem dL_law_1777 : decode cL_law 1777 = .ok (.ifCond .eq 5, 3) := by decide +kernel
theorem dL_law_1780 : decode cL_law 1780 = .ok (.iconst 0, 1) := by decide +kernel
theorem dL_law_1781 : decode cL_law 1781 = .ok (.ireturn, 1) := by decide +kernel
theorem dL_law_1782 : decode cL_law 1782 = .ok (.goto 239, 3) := by decide +kernel
theorem dL_law_1785 : decode cL_law 1785 = .ok (.aload_n 1, 1) := by decide +kernel
theorem dL_law_1786 : decode cL_law 1786 = .ok (.aload_n 0, 1) := by decide +kernel
theorem dL_law_1787 : decode cL_law 1787 = .ok (.iload 4, 2) := by decide +kernel
theorem dL_law_1789 : decode cL_law 1789 = .ok (.iconst 1, 1) := by decide +kernel
theorem dL_law_1790 : decode cL_law 1790 = .ok (.iadd, 1) := by decide +kernel
theorem dL_law_1791 : decode cL_law 1791 = .ok (.iaload, 1) := by decide +kernel
theorem dL_law_1792 : decode cL_law 1792 = .ok (.aload_n 0, 1) := by decide +kernel
theorem dL_law_1793 : decode cL_law 1793 = .ok (.iload 4, 2) := by decide +kernel
theorem dL_law_1795 : decode cL_law 1795 = .ok (.iconst 2, 1) := by decide +kernel
theorem dL_law_1796 : decode cL_law 1796 = .ok (.iadd, 1) := by decide +kernel
theorem dL_law_1797 : decode cL_law 1797 = .ok (.iaload, 1) := by decide +kernel
theorem dL_law_1798 : decode cL_law 1798 = .ok (.aload_n 3, 1) := by decide +kernel
theorem dL_law_1799 : decode cL_law 1799 = .ok (.invokestatic 208, 3) := by decide +kernel
theorem dL_law_1802 : decode cL_law 1802 = .ok (.istore 5, 2) := by decide +kernel
theorem dL_law_1804 : decode cL_law 1804 = .ok (.aload_n 2, 1) := by decide +kernel
theorem dL_law_1805 : decode cL_law 1805 = .ok (.aload_n 0, 1) := by decide +kernel
theorem dL_law_1806 : decode cL_law 1806 = .ok (.iload 4, 2) := by decide +kernel
theorem dL_law_1808 : decode cL_law 1808 = .ok (.iconst 1, 1) := by decide +kernel
theorem dL_law_1809 : decode cL_law 1809 = .ok (.iadd, 1) := by decide +kernel
theorem dL_law_1810 : decode cL_law 1810 = .ok (.iaload, 1) := by decide +kernel
theorem dL_law_1811 : decode cL_law 1811 = .ok (.aload_n 0, 1) := by decide +kernel
theorem dL_law_1812 : decode cL_law 1812 = .ok (.iload 4, 2) := by decide +kernel
theorem dL_law_1814 : decode cL_law 1814 = .ok (.iconst 2, 1) := by decide +kernel
theorem dL_law_1815 : decode cL_law 1815 = .ok (.iadd, 1) := by decide +kernel
theorem dL_law_1816 : decode cL_law 1816 = .ok (.iaload, 1) := by decide +kernel
theorem dL_law_1817 : decode cL_law 1817 = .ok (.invokevirtual 210, 3) := by decide +kernel
theorem dL_law_1820 : decode cL_law 1820 = .ok (.istore 6, 2) := by decide +kernel
theorem dL_law_1822 : decode cL_law 1822 = .ok (.aload_n 2, 1) := by decide +kernel
theorem dL_law_1823 : decode cL_law 1823 = .ok (.invokevirtual 113, 3) := by decide +kernel
theorem dL_law_1826 : decode cL_law 1826 = .ok (.iload 5, 2) := by decide +kernel
theorem dL_law_1828 : decode cL_law 1828 = .ok (.if_icmp .eq 5, 3) := by decide +kernel
theorem dL_law_1831 : decode cL_law 1831 = .ok (.iconst 0, 1) := by decide +kernel
theorem dL_law_1832 : decode cL_law 1832 = .ok (.ireturn, 1) := by decide +kernel
theorem dL_law_1833 : decode cL_law 1833 = .ok (.iload 5, 2) := by decide +kernel
theorem dL_law_1835 : decode cL_law 1835 = .ok (.ifCond .ne 15, 3) := by decide +kernel
theorem dL_law_1838 : decode cL_law 1838 = .ok (.aload_n 3, 1) := by decide +kernel
theorem dL_law_1839 : decode cL_law 1839 = .ok (.iconst 0, 1) := by decide +kernel
theorem dL_law_1840 : decode cL_law 1840 = .ok (.laload, 1) := by decide +kernel
theorem dL_law_1841 : decode cL_law 1841 = .ok (.iload 6, 2) := by decide +kernel
theorem dL_law_1843 : decode cL_law 1843 = .ok (.i2l, 1) := by decide +kernel
theorem dL_law_1844 : decode cL_law 1844 = .ok (.lcmp, 1) := by decide +kernel
theorem dL_law_1845 : decode cL_law 1845 = .ok (.ifCond .eq 5, 3) := by decide +kernel
theorem dL_law_1848 : decode cL_law 1848 = .ok (.iconst 0, 1) := by decide +kernel
theorem dL_law_1849 : decode cL_law 1849 = .ok (.ireturn, 1) := by decide +kernel
theorem dL_law_1850 : decode cL_law 1850 = .ok (.goto 171, 3) := by decide +kernel
theorem dL_law_1853 : decode cL_law 1853 = .ok (.aload_n 1, 1) := by decide +kernel
theorem dL_law_1854 : decode cL_law 1854 = .ok (.aload_n 0, 1) := by decide +kernel
theorem dL_law_1855 : decode cL_law 1855 = .ok (.iload 4, 2) := by decide +kernel
theorem dL_law_1857 : decode cL_law 1857 = .ok (.iconst 1, 1) := by decide +kernel
theorem dL_law_1858 : decode cL_law 1858 = .ok (.iadd, 1) := by decide +kernel
theorem dL_law_1859 : decode cL_law 1859 = .ok (.iaload, 1) := by decide +kernel
theorem dL_law_1860 : decode cL_law 1860 = .ok (.aload_n 3, 1) := by decide +kernel
theorem dL_law_1861 : decode cL_law 1861 = .ok (.invokestatic 211, 3) := by decide +kernel
theorem dL_law_1864 : decode cL_law 1864 = .ok (.istore 5, 2) := by decide +kernel
theorem dL_law_1866 : decode cL_law 1866 = .ok (.aload_n 2, 1) := by decide +kernel
theorem dL_law_1867 : decode cL_law 1867 = .ok (.aload_n 0, 1) := by decide +kernel
theorem dL_law_1868 : decode cL_law 1868 = .ok (.iload 4, 2) := by decide +kernel
theorem dL_law_1870 : decode cL_law 1870 = .ok (.iconst 1, 1) := by decide +kernel
theorem dL_law_1871 : decode cL_law 1871 = .ok (.iadd, 1) := by decide +kernel
theorem dL_law_1872 : decode cL_law 1872 = .ok (.iaload, 1) := by decide +kernel
theorem dL_law_1873 : decode cL_law 1873 = .ok (.invokevirtual 213, 3) := by decide +kernel
theorem dL_law_1876 : decode cL_law 1876 = .ok (.istore 6, 2) := by decide +kernel
theorem dL_law_1878 : decode cL_law 1878 = .ok (.aload_n 2, 1) := by decide +kernel
theorem dL_law_1879 : decode cL_law 1879 = .ok (.invokevirtual 113, 3) := by decide +kernel
theorem dL_law_1882 : decode cL_law 1882 = .ok (.iload 5, 2) := by decide +kernel
theorem dL_law_1884 : decode cL_law 1884 = .ok (.if_icmp .eq 5, 3) := by decide +kernel
theorem dL_law_1887 : decode cL_law 1887 = .ok (.iconst 0, 1) := by decide +kernel
theorem dL_law_1888 : decode cL_law 1888 = .ok (.ireturn, 1) := by decide +kernel
theorem dL_law_1889 : decode cL_law 1889 = .ok (.iload 5, 2) := by decide +kernel
theorem dL_law_1891 : decode cL_law 1891 = .ok (.ifCond .ne 15, 3) := by decide +kernel
theorem dL_law_1894 : decode cL_law 1894 = .ok (.aload_n 3, 1) := by decide +kernel
theorem dL_law_1895 : decode cL_law 1895 = .ok (.iconst 0, 1) := by decide +kernel
theorem dL_law_1896 : decode cL_law 1896 = .ok (.laload, 1) := by decide +kernel
theorem dL_law_1897 : decode cL_law 1897 = .ok (.iload 6, 2) := by decide +kernel
theorem dL_law_1899 : decode cL_law 1899 = .ok (.i2l, 1) := by decide +kernel
theorem dL_law_1900 : decode cL_law 1900 = .ok (.lcmp, 1) := by decide +kernel
theorem dL_law_1901 : decode cL_law 1901 = .ok (.ifCond .eq 5, 3) := by decide +kernel
theorem dL_law_1904 : decode cL_law 1904 = .ok (.iconst 0, 1) := by decide +kernel
theorem dL_law_1905 : decode cL_law 1905 = .ok (.ireturn, 1) := by decide +kernel
theorem dL_law_1906 : decode cL_law 1906 = .ok (.goto 115, 3) := by decide +kernel
theorem dL_law_1909 : decode cL_law 1909 = .ok (.aload_n 1, 1) := by decide +kernel
theorem dL_law_1910 : decode cL_law 1910 = .ok (.aload_n 0, 1) := by decide +kernel
theorem dL_law_1911 : decode cL_law 1911 = .ok (.iload 4, 2) := by decide +kernel
theorem dL_law_1913 : decode cL_law 1913 = .ok (.iconst 1, 1) := by decide +kernel
theorem dL_law_1914 : decode cL_law 1914 = .ok (.iadd, 1) := by decide +kernel
theorem dL_law_1915 : decode cL_law 1915 = .ok (.iaload, 1) := by decide +kernel
theorem dL_law_1916 : decode cL_law 1916 = .ok (.aload_n 3, 1) := by decide +kernel
theorem dL_law_1917 : decode cL_law 1917 = .ok (.invokestatic 214, 3) := by decide +kernel
theorem dL_law_1920 : decode cL_law 1920 = .ok (.istore 5, 2) := by decide +kernel
theorem dL_law_1922 : decode cL_law 1922 = .ok (.aload_n 2, 1) := by decide +kernel
theorem dL_law_1923 : decode cL_law 1923 = .ok (.aload_n 0, 1) := by decide +kernel
theorem dL_law_1924 : decode cL_law 1924 = .ok (.iload 4, 2) := by decide +kernel
theorem dL_law_1926 : decode cL_law 1926 = .ok (.iconst 1, 1) := by decide +kernel
theorem dL_law_1927 : decode cL_law 1927 = .ok (.iadd, 1) := by decide +kernel
theorem dL_law_1928 : decode cL_law 1928 = .ok (.iaload, 1) := by decide +kernel
theorem dL_law_1929 : decode cL_law 1929 = .ok (.invokevirtual 216, 3) := by decide +kernel
theorem dL_law_1932 : decode cL_law 1932 = .ok (.istore 6, 2) := by decide +kernel
theorem dL_law_1934 : decode cL_law 1934 = .ok (.aload_n 2, 1) := by decide +kernel
theorem dL_law_1935 : decode cL_law 1935 = .ok (.invokevirtual 113, 3) := by decide +kernel
theorem dL_law_1938 : decode cL_law 1938 = .ok (.iload 5, 2) := by decide +kernel
theorem dL_law_1940 : decode cL_law 1940 = .ok (.if_icmp .eq 5, 3) := by decide +kernel
theorem dL_law_1943 : decode cL_law 1943 = .ok (.iconst 0, 1) := by decide +kernel
theorem dL_law_1944 : decode cL_law 1944 = .ok (.ireturn, 1) := by decide +kernel
theorem dL_law_1945 : decode cL_law 1945 = .ok (.iload 5, 2) := by decide +kernel
theorem dL_law_1947 : decode cL_law 1947 = .ok (.ifCond .ne 15, 3) := by decide +kernel
theorem dL_law_1950 : decode cL_law 1950 = .ok (.aload_n 3, 1) := by decide +kernel
theorem dL_law_1951 : decode cL_law 1951 = .ok (.iconst 0, 1) := by decide +kernel
theorem dL_law_1952 : decode cL_law 1952 = .ok (.laload, 1) := by decide +kernel
theorem dL_law_1953 : decode cL_law 1953 = .ok (.iload 6, 2) := by decide +kernel
theorem dL_law_1955 : decode cL_law 1955 = .ok (.i2l, 1) := by decide +kernel
theorem dL_law_1956 : decode cL_law 1956 = .ok (.lcmp, 1) := by decide +kernel
theorem dL_law_1957 : decode cL_law 1957 = .ok (.ifCond .eq 5, 3) := by decide +kernel
theorem dL_law_1960 : decode cL_law 1960 = .ok (.iconst 0, 1) := by decide +kernel
theorem dL_law_1961 : decode cL_law 1961 = .ok (.ireturn, 1) := by decide +kernel
theorem dL_law_1962 : decode cL_law 1962 = .ok (.goto 59, 3) := by decide +kernel
theorem dL_law_1965 : decode cL_law 1965 = .ok (.aload_n 1, 1) := by decide +kernel
theorem dL_law_1966 : decode cL_law 1966 = .ok (.aload_n 0, 1) := by decide +kernel
theorem dL_law_1967 : decode cL_law 1967 = .ok (.iload 4, 2) := by decide +kernel
theorem dL_law_1969 : decode cL_law 1969 = .ok (.iconst 1, 1) := by decide +kernel
theorem dL_law_1970 : decode cL_law 1970 = .ok (.iadd, 1) := by decide +kernel
theorem dL_law_1971 : decode cL_law 1971 = .ok (.iaload, 1) := by decide +kernel
theorem dL_law_1972 : decode cL_law 1972 = .ok (.aload_n 3, 1) := by decide +kernel
theorem dL_law_1973 : decode cL_law 1973 = .ok (.invokestatic 217, 3) := by decide +kernel
theorem dL_law_1976 : decode cL_law 1976 = .ok (.istore 5, 2) := by decide +kernel
theorem dL_law_1978 : decode cL_law 1978 = .ok (.aload_n 2, 1) := by decide +kernel
theorem dL_law_1979 : decode cL_law 1979 = .ok (.aload_n 0, 1) := by decide +kernel
theorem dL_law_1980 : decode cL_law 1980 = .ok (.iload 4, 2) := by decide +kernel
theorem dL_law_1982 : decode cL_law 1982 = .ok (.iconst 1, 1) := by decide +kernel
theorem dL_law_1983 : decode cL_law 1983 = .ok (.iadd, 1) := by decide +kernel
theorem dL_law_1984 : decode cL_law 1984 = .ok (.iaload, 1) := by decide +kernel
theorem dL_law_1985 : decode cL_law 1985 = .ok (.invokevirtual 219, 3) := by decide +kernel
theorem dL_law_1988 : decode cL_law 1988 = .ok (.istore 6, 2) := by decide +kernel
theorem dL_law_1990 : decode cL_law 1990 = .ok (.aload_n 2, 1) := by decide +kernel
theorem dL_law_1991 : decode cL_law 1991 = .ok (.invokevirtual 113, 3) := by decide +kernel
theorem dL_law_1994 : decode cL_law 1994 = .ok (.iload 5, 2) := by decide +kernel
theorem dL_law_1996 : decode cL_law 1996 = .ok (.if_icmp .eq 5, 3) := by decide +kernel
theorem dL_law_1999 : decode cL_law 1999 = .ok (.iconst 0, 1) := by decide +kernel
theorem dL_law_2000 : decode cL_law 2000 = .ok (.ireturn, 1) := by decide +kernel
theorem dL_law_2001 : decode cL_law 2001 = .ok (.iload 5, 2) := by decide +kernel
theorem dL_law_2003 : decode cL_law 2003 = .ok (.ifCond .ne 15, 3) := by decide +kernel
theorem dL_law_2006 : decode cL_law 2006 = .ok (.aload_n 3, 1) := by decide +kernel
theorem dL_law_2007 : decode cL_law 2007 = .ok (.iconst 0, 1) := by decide +kernel
theorem dL_law_2008 : decode cL_law 2008 = .ok (.laload, 1) := by decide +kernel
theorem dL_law_2009 : decode cL_law 2009 = .ok (.iload 6, 2) := by decide +kernel
theorem dL_law_2011 : decode cL_law 2011 = .ok (.i2l, 1) := by decide +kernel
theorem dL_law_2012 : decode cL_law 2012 = .ok (.lcmp, 1) := by decide +kernel
theorem dL_law_2013 : decode cL_law 2013 = .ok (.ifCond .eq 5, 3) := by decide +kernel
theorem dL_law_2016 : decode cL_law 2016 = .ok (.iconst 0, 1) := by decide +kernel
theorem dL_law_2017 : decode cL_law 2017 = .ok (.ireturn, 1) := by decide +kernel
theorem dL_law_2018 : decode cL_law 2018 = .ok (.goto 3, 3) := by decide +kernel
theorem dL_law_2021 : decode cL_law 2021 = .ok (.iinc 4 4, 3) := by decide +kernel
theorem dL_law_2024 : decode cL_law 2024 = .ok (.goto (-2001), 3) := by decide +kernel
theorem dL_law_2027 : decode cL_law 2027 = .ok (.iconst 1, 1) := by decide +kernel
theorem dL_law_2028 : decode cL_law 2028 = .ok (.ireturn, 1) := by decide +kernel
abbrev vwCl : List vw_C := [(RX0, TX0, 3), (RX1, TX1, 3), (RX2, TX2, 8), (RX3, TX3, 3), (RX4, TX4, 2), (RX5, TX5, 8), (RX6, TX6, 32)]
end
section
/-! ===== the G layer: a world is a pool (L, f); a goal hides the heap, the written places and the slots ===== -/
abbrev gF : Type := Nat → va_E
def gTy (cy : Nat → ClassId) : List (ClassId × FieldType) := [(cy 0, .int), (cy 1, .boolean), (cy 2, .long), (cy 3, .array .int), (cy 4, .object RX3), (cy 5, .object RX2), (cy 6, .object RX1)]
/-- the start: classes, words, the JDK's statics, the texts -/
def gE (s0 : State) (D : va_G) (cy : Nat → ClassId) : Prop :=
  va_K D vwCl (gTy cy) s0 ∧ (∃ a0 : Array Value, ∀ w ∈ lw_tbl, w.before a0 s0 = true) ∧
  (vx_Zq Bundle.tN "UNASSIGNED_STACK" Bundle.steD (fun q => s0.heap.size ≤ q) s0 s0.heap ∧ vx_Zq Bundle.tN "SUPPRESSED_SENTINEL" Bundle.listD (fun q => s0.heap.size ≤ q) s0 s0.heap) ∧
  ∀ (o : String) (k : Nat) (tx : String), Cond.stringRef o k tx ∈ lw_tbl → ∃ a : Nat, vk_R o k tx a s0
/-- since the start: the machine's tables grew alone, the old heap is as it was, the pool is new -/
def gW (s0 : State) (L : List Nat) (U : State) : Prop := s0.WarmedH U.vm ∧ s0.heap.size ≤ U.heap.size ∧ (∀ a : Nat, a < s0.heap.size → U.heap[a]? = s0.heap[a]?) ∧ ∀ a ∈ L, s0.heap.size ≤ a
def gA (L : List Nat) (sz : Nat) : Nat → Prop := fun q => q ∈ L ∨ sz ≤ q
/-- the locals, as far as they are known -/
def gL (la : Array Slot) (nL : Nat) (ls : List (Option Value)) : Prop := la.size = nL ∧ lv_wf la ∧ ls.length = nL ∧ ∀ (i : Nat) (v : Value), ls[i]? = some (some v) → la[i]? = some (.val v) ∧ v.category = 1
def gl_l (ls : List (Option Value)) : List (Nat × Value) := (List.range ls.length).filterMap (fun i => (ls[i]?).bind (fun o => o.map (fun v => (i, v))))
theorem gl_mem {ls : List (Option Value)} {i : Nat} {v : Value} : (i, v) ∈ gl_l ls ↔ ls[i]? = some (some v) := by
  unfold gl_l
  rw [List.mem_filterMap]
  constructor
  · rintro ⟨j, hj, h⟩
    cases hz : ls[j]? with
    | none => rw [hz] at h; cases h
    | some o =>
      cases o with
      | none => rw [hz] at h; cases h
      | some w =>
        rw [hz] at h
        cases h
        exact hz
  · intro h
    refine ⟨i, List.mem_range.mpr (List.getElem?_eq_some_iff.mp h).1, ?_⟩
    rw [h]; rfl
theorem gL.has {la : Array Slot} {nL : Nat} {ls : List (Option Value)} (h : gL la nL ls) : lv_has la nL (gl_l ls) := ⟨h.1, h.2.1, fun q hq => (h.2.2.2 q.1 q.2 (gl_mem.mp hq)).1⟩
theorem gL.put {la lb : Array Slot} {nL i : Nat} {v : Value} {ls : List (Option Value)} (h : gL la nL ls) (hc : v.category = 1) (hb : lv_has lb nL ((i, v) :: (gl_l ls).filter (fun q => !(q.1 == i) && !(q.1 + 1 == i && q.2.category == 2)))) : gL lb nL (ls.set i (some v)) := by
  refine ⟨hb.1, hb.2.1, by rw [List.length_set]; exact h.2.2.1, fun j w hw => ?_⟩
  by_cases hj : j = i
  · subst hj
    have hl : j < ls.length := by
      have := (List.getElem?_eq_some_iff.mp hw).1
      rwa [List.length_set] at this
    rw [List.getElem?_set_self hl] at hw
    cases hw
    exact ⟨hb.2.2 (j, v) List.mem_cons_self, hc⟩
  · rw [List.getElem?_set_ne (Ne.symm hj)] at hw
    have h1 := h.2.2.2 j w hw
    refine ⟨hb.2.2 (j, w) (List.mem_cons_of_mem _ (List.mem_filter.mpr ⟨gl_mem.mpr hw, ?_⟩)), h1.2⟩
    simp [hj, h1.2]
theorem gL.weak {la : Array Slot} {nL : Nat} {ls ls' : List (Option Value)} (h : gL la nL ls) (hl : ls'.length = ls.length) (hw : ∀ (i : Nat) (v : Value), ls'[i]? = some (some v) → ls[i]? = some (some v)) : gL la nL ls' := ⟨h.1, h.2.1, hl.trans h.2.2.1, fun i v q => h.2.2.2 i v (hw i v q)⟩
def G (p : Program) (l : Launch) (e : Env) (R : Room) (s : State) (m : MethodId) (args : Array Value) (below : List Frame) (meth : Method) (c : Code) (Q : State → Prop) (D : va_G) (L0 : List Nat) (nL : Nat) (L : List Nat) (f : gF) (ce sl pc : Nat) (ls : List (Option Value)) (st : List Value) : Prop :=
  ∀ (H : Heap) (locs : List Loc) (la : Array Slot), va_P D vwCl (va_pl L f) H → va_D (gA L0 s.heap.size) (va_pl L f) → va_S (gA L0 s.heap.size) s.heap H locs → gL la nL ls → W p l e R s m args below meth c H locs ce sl Q (F0 m pc la st)
/-- what a method's body stands on -/
def gC (p : Program) (l : Launch) (e : Env) (R : Room) (s : State) (m : MethodId) (args : Array Value) (below : List Frame) (meth : Method) (c : Code) (s0 : State) (D : va_G) (cy : Nat → ClassId) (L0 : List Nat) (cc : ByteArray) (nL : Nat) (own : String) : Prop :=
  p.tables.exec = Jvm.exec ∧ c.code = cc ∧ c.maxLocals = nL ∧ s.vm.findClass own = some m.cls ∧ meth.locks = false ∧ gE s0 D cy ∧ gW s0 L0 s ∧ l.stackTraces = false
/-- a cell of the pool -/
def gH (L : List Nat) (f : gF) (a : Nat) (e : va_E) : Prop := a ∈ L ∧ f a = e
theorem gH.up {L : List Nat} {f : gF} {a : Nat} {e e1 : va_E} (h : gH L f a e) : gH L (va_up f a e1) a e1 := ⟨h.1, va_up_self _ _ _⟩
theorem gH.ne {L : List Nat} {f : gF} {a b : Nat} {e e1 : va_E} (h : gH L f b e) (hn : b ≠ a) : gH L (va_up f a e1) b e := ⟨h.1, (va_up_ne _ _ hn).trans h.2⟩
theorem gH.of {L L1 : List Nat} {f f1 : gF} {b : Nat} {e : va_E} (h : gH L f b e) (hL : b ∈ L1) (hf : f1 b = f b) : gH L1 f1 b e := ⟨hL, hf.trans h.2⟩
theorem gH.apart {L : List Nat} {f : gF} {a b : Nat} {e1 e2 : va_E} (h1 : gH L f a e1) (h2 : gH L f b e2) (hn : e1 ≠ e2) : a ≠ b := fun q => hn (by rw [← h1.2, ← h2.2, q])
theorem g_word {args a' : Array Value} {s U : State} {w : Cond} (hW : s.WarmedH U.vm) (hk : (w.onTables && w.keepsFace) = true) (h : w.before args s = true) : w.before a' U = true := by
  rw [Bool.and_eq_true] at hk
  exact va_tabs hk.1 (rfl : (s.setVm U.vm).vm = U.vm) (Cond.before_shiftedFace (State.Shifted.of_warmed hW) _ hk.2 h)
section GCORE
variable {p : Program} {l : Launch} {e : Env} {R : Room} {s : State} {m : MethodId} {args : Array Value} {below : List Frame} {meth : Method} {c : Code} {Q : State → Prop}
variable {s0 : State} {D : va_G} {cy : Nat → ClassId} {L0 : List Nat} {nL : Nat} {cc : ByteArray} {own : String} {L : List Nat} {f : gF} {ce sl pc n : Nat} {ls : List (Option Value)} {st : List Value}
theorem gC.wd (C : gC p l e R s m args below meth c s0 D cy L0 cc nL own) {w : Cond} (hw : w ∈ lw_tbl) (hk : (w.onTables && w.keepsFace) = true) (a' : Array Value) : w.before a' s = true := by
  obtain ⟨-, -, -, -, -, ⟨-, ⟨a0, h⟩, -⟩, ⟨hW, -⟩, -⟩ := C
  exact g_word hW hk (h w hw)
theorem gC.wa (C : gC p l e R s m args below meth c s0 D cy L0 cc nL own) {t : FieldType} (hw : Cond.arrayClass t ∈ lw_tbl) (a' : Array Value) : (Cond.arrayClass t).before a' s = true := by
  obtain ⟨-, -, -, -, -, ⟨-, ⟨a0, h⟩, -⟩, ⟨hW, -⟩, -⟩ := C
  exact word_at hW (Or.inr ⟨t, rfl⟩) (h _ hw)
theorem gC.nwM (C : gC p l e R s m args below meth c s0 D cy L0 cc nL own) {a : String} {i : Nat} {x : MethodName} {h : String} (hw : Cond.methodLinkNest a i x h ∈ lw_tbl) : va_Nw (.methodLinkNest a i x h) s := by
  obtain ⟨-, -, -, -, -, ⟨-, ⟨a0, h9⟩, -⟩, ⟨hW, -⟩, -⟩ := C
  exact va_Nw.warmM hW (va_Nw.of rfl (h9 _ hw))
theorem gC.nwF (C : gC p l e R s m args below meth c s0 D cy L0 cc nL own) {a : String} {i : Nat} {b n d h : String} (hw : Cond.fieldLinkNest a i b n d h ∈ lw_tbl) : va_Nw (.fieldLinkNest a i b n d h) s := by
  obtain ⟨-, -, -, -, -, ⟨-, ⟨a0, h9⟩, -⟩, ⟨hW, -⟩, -⟩ := C
  exact va_Nw.warmF hW (va_Nw.of rfl (h9 _ hw))
theorem gC.K (C : gC p l e R s m args below meth c s0 D cy L0 cc nL own) : va_K D vwCl (gTy cy) s := by
  obtain ⟨-, -, -, -, -, ⟨h, -⟩, ⟨hW, -⟩, -⟩ := C
  exact va_K.moved hW.alike h
theorem gC.new (C : gC p l e R s m args below meth c s0 D cy L0 cc nL own) : ∀ q, s.heap.size ≤ q → gA L0 s.heap.size q := fun _ h => Or.inr h
theorem gC.low (C : gC p l e R s m args below meth c s0 D cy L0 cc nL own) : ∀ q, gA L0 s.heap.size q → s0.heap.size ≤ q := by
  obtain ⟨-, -, -, -, -, -, ⟨-, h1, -, h2⟩, -⟩ := C
  intro q h
  rcases h with h | h
  · exact h2 q h
  · exact Nat.le_trans h1 h
theorem G.mono {ce' sl' : Nat} (h1 : ce ≤ ce') (h2 : sl ≤ sl') (k : G p l e R s m args below meth c Q D L0 nL L f ce' sl' pc ls (st)) : G p l e R s m args below meth c Q D L0 nL L f ce sl pc ls (st) := fun H locs la a b d e => W.widen h1 h2 (k H locs la a b d e)

theorem G.weak {ls' : List (Option Value)} (k : G p l e R s m args below meth c Q D L0 nL L f ce sl pc ls' (st)) (hl : ls'.length = ls.length) (hw : ∀ (i : Nat) (v : Value), ls'[i]? = some (some v) → ls[i]? = some (some v)) : G p l e R s m args below meth c Q D L0 nL L f ce sl pc ls (st) := fun H locs la a b d e => k H locs la a b d (e.weak hl hw)
theorem G.by {y : Int32} (k : ∀ x : Int32, x = y → G p l e R s m args below meth c Q D L0 nL L f ce sl pc ls (.int x :: st)) : G p l e R s m args below meth c Q D L0 nL L f ce sl pc ls (.int y :: st) := k y rfl

theorem g_iconst (C : gC p l e R s m args below meth c s0 D cy L0 cc nL own) {z : Int} {v : Int32} (d : decode cc pc = .ok (.iconst z, 1)) (hv : Int32.ofInt z = v) (hn : pc + 1 = n) (kk : G p l e R s m args below meth c Q D L0 nL L f ce sl n ls (.int v :: st)) : G p l e R s m args below meth c Q D L0 nL L f ce sl pc ls (st) := by
  intro H locs la hP hD hS hl
  subst hn
  exact lv_iconst C.1 C.2.1 d hv (kk H locs la hP hD hS hl)
theorem g_bipush (C : gC p l e R s m args below meth c s0 D cy L0 cc nL own) {z : Int} {v : Int32} (d : decode cc pc = .ok (.bipush z, 2)) (hv : (Int8.ofInt z).toInt32 = v) (hn : pc + 2 = n) (kk : G p l e R s m args below meth c Q D L0 nL L f ce sl n ls (.int v :: st)) : G p l e R s m args below meth c Q D L0 nL L f ce sl pc ls (st) := by
  intro H locs la hP hD hS hl
  subst hn
  exact lv_bipush C.1 C.2.1 d hv (kk H locs la hP hD hS hl)
theorem g_sipush (C : gC p l e R s m args below meth c s0 D cy L0 cc nL own) {z : Int} {v : Int32} (d : decode cc pc = .ok (.sipush z, 3)) (hv : (Int16.ofInt z).toInt32 = v) (hn : pc + 3 = n) (kk : G p l e R s m args below meth c Q D L0 nL L f ce sl n ls (.int v :: st)) : G p l e R s m args below meth c Q D L0 nL L f ce sl pc ls (st) := by
  intro H locs la hP hD hS hl
  subst hn
  exact lv_sipush C.1 C.2.1 d hv (kk H locs la hP hD hS hl)
theorem g_aconst_null (C : gC p l e R s m args below meth c s0 D cy L0 cc nL own)  (d : decode cc pc = .ok (.aconst_null, 1))  (hn : pc + 1 = n) (kk : G p l e R s m args below meth c Q D L0 nL L f ce sl n ls (.null :: st)) : G p l e R s m args below meth c Q D L0 nL L f ce sl pc ls (st) := by
  intro H locs la hP hD hS hl
  subst hn
  exact lv_null C.1 C.2.1 d (kk H locs la hP hD hS hl)
theorem g_iadd (C : gC p l e R s m args below meth c s0 D cy L0 cc nL own) {x y : Int32} (d : decode cc pc = .ok (.iadd, 1))  (hn : pc + 1 = n) (kk : G p l e R s m args below meth c Q D L0 nL L f ce sl n ls (.int (x + y) :: st)) : G p l e R s m args below meth c Q D L0 nL L f ce sl pc ls (.int y :: .int x :: st) := by
  intro H locs la hP hD hS hl
  subst hn
  exact lv_iadd C.1 C.2.1 d (kk H locs la hP hD hS hl)
theorem g_isub (C : gC p l e R s m args below meth c s0 D cy L0 cc nL own) {x y : Int32} (d : decode cc pc = .ok (.isub, 1))  (hn : pc + 1 = n) (kk : G p l e R s m args below meth c Q D L0 nL L f ce sl n ls (.int (x - y) :: st)) : G p l e R s m args below meth c Q D L0 nL L f ce sl pc ls (.int y :: .int x :: st) := by
  intro H locs la hP hD hS hl
  subst hn
  exact lv_isub C.1 C.2.1 d (kk H locs la hP hD hS hl)
theorem g_imul (C : gC p l e R s m args below meth c s0 D cy L0 cc nL own) {x y : Int32} (d : decode cc pc = .ok (.imul, 1))  (hn : pc + 1 = n) (kk : G p l e R s m args below meth c Q D L0 nL L f ce sl n ls (.int (x * y) :: st)) : G p l e R s m args below meth c Q D L0 nL L f ce sl pc ls (.int y :: .int x :: st) := by
  intro H locs la hP hD hS hl
  subst hn
  exact lv_imul C.1 C.2.1 d (kk H locs la hP hD hS hl)
theorem g_iand (C : gC p l e R s m args below meth c s0 D cy L0 cc nL own) {x y : Int32} (d : decode cc pc = .ok (.iand, 1))  (hn : pc + 1 = n) (kk : G p l e R s m args below meth c Q D L0 nL L f ce sl n ls (.int (x &&& y) :: st)) : G p l e R s m args below meth c Q D L0 nL L f ce sl pc ls (.int y :: .int x :: st) := by
  intro H locs la hP hD hS hl
  subst hn
  exact lv_iand C.1 C.2.1 d (kk H locs la hP hD hS hl)
theorem g_irem (C : gC p l e R s m args below meth c s0 D cy L0 cc nL own) {x y : Int32} (d : decode cc pc = .ok (.irem, 1)) (hne : ¬ y = 0) (hn : pc + 1 = n) (kk : G p l e R s m args below meth c Q D L0 nL L f ce sl n ls (.int (x - x / y * y) :: st)) : G p l e R s m args below meth c Q D L0 nL L f ce sl pc ls (.int y :: .int x :: st) := by
  intro H locs la hP hD hS hl
  subst hn
  exact lv_irem C.1 C.2.1 d hne (kk H locs la hP hD hS hl)
theorem g_dup (C : gC p l e R s m args below meth c s0 D cy L0 cc nL own) {v : Value} (d : decode cc pc = .ok (.dup, 1)) (hv : v.category = 1) (hn : pc + 1 = n) (kk : G p l e R s m args below meth c Q D L0 nL L f ce sl n ls (v :: v :: st)) : G p l e R s m args below meth c Q D L0 nL L f ce sl pc ls (v :: st) := by
  intro H locs la hP hD hS hl
  subst hn
  exact lv_dup C.1 C.2.1 d hv (kk H locs la hP hD hS hl)
theorem g_pop (C : gC p l e R s m args below meth c s0 D cy L0 cc nL own) {v : Value} (d : decode cc pc = .ok (.pop, 1)) (hv : v.category = 1) (hn : pc + 1 = n) (kk : G p l e R s m args below meth c Q D L0 nL L f ce sl n ls (st)) : G p l e R s m args below meth c Q D L0 nL L f ce sl pc ls (v :: st) := by
  intro H locs la hP hD hS hl
  subst hn
  exact lv_pop C.1 C.2.1 d hv (kk H locs la hP hD hS hl)
theorem g_dup2 (C : gC p l e R s m args below meth c s0 D cy L0 cc nL own) {v u : Value} (d : decode cc pc = .ok (.dup2, 1)) (hv : v.category = 1) (hu : u.category = 1) (hn : pc + 1 = n) (kk : G p l e R s m args below meth c Q D L0 nL L f ce sl n ls (v :: u :: v :: u :: st)) : G p l e R s m args below meth c Q D L0 nL L f ce sl pc ls (v :: u :: st) := by
  intro H locs la hP hD hS hl
  subst hn
  exact lv_dup2_11 C.1 C.2.1 d hv hu (kk H locs la hP hD hS hl)
theorem g_i2l (C : gC p l e R s m args below meth c s0 D cy L0 cc nL own) {x : Int32} (d : decode cc pc = .ok (.i2l, 1))  (hn : pc + 1 = n) (kk : G p l e R s m args below meth c Q D L0 nL L f ce sl n ls (.long x.toInt64 :: st)) : G p l e R s m args below meth c Q D L0 nL L f ce sl pc ls (.int x :: st) := by
  intro H locs la hP hD hS hl
  subst hn
  exact lv_i2l C.1 C.2.1 d rfl (kk H locs la hP hD hS hl)
theorem g_iload_n (C : gC p l e R s m args below meth c s0 D cy L0 cc nL own) {k : Fin 4} {x : Int32} (d : decode cc pc = .ok (.iload_n k, 1)) (h : ls[(k : Nat)]? = some (some (.int x))) (hn : pc + 1 = n) (kk : G p l e R s m args below meth c Q D L0 nL L f ce sl n ls (.int x :: st)) : G p l e R s m args below meth c Q D L0 nL L f ce sl pc ls (st) := by
  intro H locs la hP hD hS hl
  subst hn
  exact lv_iload_n C.1 C.2.1 d rfl (hl.2.2.2 _ _ h).1 (kk H locs la hP hD hS hl)
theorem g_iload (C : gC p l e R s m args below meth c s0 D cy L0 cc nL own) {k : Nat} {x : Int32} (d : decode cc pc = .ok (.iload k, 2)) (h : ls[(k : Nat)]? = some (some (.int x))) (hn : pc + 2 = n) (kk : G p l e R s m args below meth c Q D L0 nL L f ce sl n ls (.int x :: st)) : G p l e R s m args below meth c Q D L0 nL L f ce sl pc ls (st) := by
  intro H locs la hP hD hS hl
  subst hn
  exact lv_iload C.1 C.2.1 d (hl.2.2.2 _ _ h).1 (kk H locs la hP hD hS hl)
theorem g_aload_n (C : gC p l e R s m args below meth c s0 D cy L0 cc nL own) {k : Fin 4} {v : Value} (d : decode cc pc = .ok (.aload_n k, 1)) (h : ls[(k : Nat)]? = some (some v)) (hv : v = .null ∨ ∃ a, v = .ref a) (hn : pc + 1 = n) (kk : G p l e R s m args below meth c Q D L0 nL L f ce sl n ls (v :: st)) : G p l e R s m args below meth c Q D L0 nL L f ce sl pc ls (st) := by
  intro H locs la hP hD hS hl
  subst hn
  rcases hv with rfl | ⟨a, rfl⟩
  · exact lv_aload_nN C.1 C.2.1 d rfl (hl.2.2.2 _ _ h).1 (kk H locs la hP hD hS hl)
  · exact lv_aload_n C.1 C.2.1 d rfl (hl.2.2.2 _ _ h).1 (kk H locs la hP hD hS hl)
theorem g_aload (C : gC p l e R s m args below meth c s0 D cy L0 cc nL own) {k : Nat} {v : Value} (d : decode cc pc = .ok (.aload k, 2)) (h : ls[(k : Nat)]? = some (some v)) (hv : v = .null ∨ ∃ a, v = .ref a) (hn : pc + 2 = n) (kk : G p l e R s m args below meth c Q D L0 nL L f ce sl n ls (v :: st)) : G p l e R s m args below meth c Q D L0 nL L f ce sl pc ls (st) := by
  intro H locs la hP hD hS hl
  subst hn
  rcases hv with rfl | ⟨a, rfl⟩
  · exact lv_aloadN C.1 C.2.1 d (hl.2.2.2 _ _ h).1 (kk H locs la hP hD hS hl)
  · exact lv_aload C.1 C.2.1 d (hl.2.2.2 _ _ h).1 (kk H locs la hP hD hS hl)
theorem g_istore_n (C : gC p l e R s m args below meth c s0 D cy L0 cc nL own) {k : Fin 4} {x : Int32} {ls' : List (Option Value)} (d : decode cc pc = .ok (.istore_n k, 1)) (h : ls.set (k : Nat) (some (.int x)) = ls') (hk : (k : Nat) < nL) (hn : pc + 1 = n) (kk : G p l e R s m args below meth c Q D L0 nL L f ce sl n ls' (st)) : G p l e R s m args below meth c Q D L0 nL L f ce sl pc ls (.int x :: st) := by
  intro H locs la hP hD hS hl
  subst hn
  subst h
  exact lv_istore_n C.1 C.2.1 d rfl hl.has hk rfl (fun la1 h1 => kk H locs la1 hP hD hS (hl.put rfl h1))
theorem g_istore (C : gC p l e R s m args below meth c s0 D cy L0 cc nL own) {k : Nat} {x : Int32} {ls' : List (Option Value)} (d : decode cc pc = .ok (.istore k, 2)) (h : ls.set (k : Nat) (some (.int x)) = ls') (hk : (k : Nat) < nL) (hn : pc + 2 = n) (kk : G p l e R s m args below meth c Q D L0 nL L f ce sl n ls' (st)) : G p l e R s m args below meth c Q D L0 nL L f ce sl pc ls (.int x :: st) := by
  intro H locs la hP hD hS hl
  subst hn
  subst h
  exact lv_istore C.1 C.2.1 d hl.has hk rfl (fun la1 h1 => kk H locs la1 hP hD hS (hl.put rfl h1))
theorem g_astore_n (C : gC p l e R s m args below meth c s0 D cy L0 cc nL own) {k : Fin 4} {v : Value} {ls' : List (Option Value)} (d : decode cc pc = .ok (.astore_n k, 1)) (hv : v = .null ∨ ∃ a, v = .ref a) (h : ls.set (k : Nat) (some v) = ls') (hk : (k : Nat) < nL) (hn : pc + 1 = n) (kk : G p l e R s m args below meth c Q D L0 nL L f ce sl n ls' (st)) : G p l e R s m args below meth c Q D L0 nL L f ce sl pc ls (v :: st) := by
  intro H locs la hP hD hS hl
  subst hn
  subst h
  rcases hv with rfl | ⟨a, rfl⟩
  · exact lv_astore_nN C.1 C.2.1 d rfl hl.has hk rfl (fun la1 h1 => kk H locs la1 hP hD hS (hl.put rfl h1))
  · exact lv_astore_n C.1 C.2.1 d rfl hl.has hk rfl (fun la1 h1 => kk H locs la1 hP hD hS (hl.put rfl h1))
theorem g_astore (C : gC p l e R s m args below meth c s0 D cy L0 cc nL own) {k : Nat} {v : Value} {ls' : List (Option Value)} (d : decode cc pc = .ok (.astore k, 2)) (hv : v = .null ∨ ∃ a, v = .ref a) (h : ls.set (k : Nat) (some v) = ls') (hk : (k : Nat) < nL) (hn : pc + 2 = n) (kk : G p l e R s m args below meth c Q D L0 nL L f ce sl n ls' (st)) : G p l e R s m args below meth c Q D L0 nL L f ce sl pc ls (v :: st) := by
  intro H locs la hP hD hS hl
  subst hn
  subst h
  rcases hv with rfl | ⟨a, rfl⟩
  · exact lv_astoreN C.1 C.2.1 d hl.has hk rfl (fun la1 h1 => kk H locs la1 hP hD hS (hl.put rfl h1))
  · exact lv_astore C.1 C.2.1 d hl.has hk rfl (fun la1 h1 => kk H locs la1 hP hD hS (hl.put rfl h1))
theorem g_iinc (C : gC p l e R s m args below meth c s0 D cy L0 cc nL own) {k : Nat} {z : Int} {x v : Int32} {ls' : List (Option Value)} (d : decode cc pc = .ok (.iinc k z, 3)) (hx : ls[k]? = some (some (.int x))) (hv : x + Int32.ofInt z = v) (h : ls.set k (some (.int v)) = ls') (hk : k < nL) (hn : pc + 3 = n) (kk : G p l e R s m args below meth c Q D L0 nL L f ce sl n ls' (st)) : G p l e R s m args below meth c Q D L0 nL L f ce sl pc ls (st) := by
  intro H locs la hP hD hS hl
  subst hn
  subst h
  obtain ⟨j, hj⟩ := List.getElem?_of_mem (gl_mem.mpr hx)
  exact lv_iinc C.1 C.2.1 d hl.has hj hv hk rfl (fun la1 h1 => kk H locs la1 hP hD hS (hl.put rfl h1))
theorem g_if_eq (C : gC p l e R s m args below meth c s0 D cy L0 cc nL own) {x : Int32} {off : Int} {tgt : Nat} (d : decode cc pc = .ok (.ifCond .eq off, 3)) (ht : (pc : Int) + off = (tgt : Int)) (hn : pc + 3 = n) (kt : x = 0 → G p l e R s m args below meth c Q D L0 nL L f ce sl tgt ls (st)) (kf : ¬ x = 0 → G p l e R s m args below meth c Q D L0 nL L f ce sl n ls (st)) : G p l e R s m args below meth c Q D L0 nL L f ce sl pc ls (.int x :: st) := by
  intro H locs la hP hD hS hl
  subst hn
  exact lv_if_eq C.1 C.2.1 d ht (fun h => kt h H locs la hP hD hS hl) (fun h => kf h H locs la hP hD hS hl)
theorem g_if_ne (C : gC p l e R s m args below meth c s0 D cy L0 cc nL own) {x : Int32} {off : Int} {tgt : Nat} (d : decode cc pc = .ok (.ifCond .ne off, 3)) (ht : (pc : Int) + off = (tgt : Int)) (hn : pc + 3 = n) (kt : ¬ x = 0 → G p l e R s m args below meth c Q D L0 nL L f ce sl tgt ls (st)) (kf : x = 0 → G p l e R s m args below meth c Q D L0 nL L f ce sl n ls (st)) : G p l e R s m args below meth c Q D L0 nL L f ce sl pc ls (.int x :: st) := by
  intro H locs la hP hD hS hl
  subst hn
  exact lv_if_ne C.1 C.2.1 d ht (fun h => kt h H locs la hP hD hS hl) (fun h => kf h H locs la hP hD hS hl)
theorem g_if_lt (C : gC p l e R s m args below meth c s0 D cy L0 cc nL own) {x : Int32} {off : Int} {tgt : Nat} (d : decode cc pc = .ok (.ifCond .lt off, 3)) (ht : (pc : Int) + off = (tgt : Int)) (hn : pc + 3 = n) (kt : x < 0 → G p l e R s m args below meth c Q D L0 nL L f ce sl tgt ls (st)) (kf : ¬ x < 0 → G p l e R s m args below meth c Q D L0 nL L f ce sl n ls (st)) : G p l e R s m args below meth c Q D L0 nL L f ce sl pc ls (.int x :: st) := by
  intro H locs la hP hD hS hl
  subst hn
  exact lv_if_lt C.1 C.2.1 d ht (fun h => kt h H locs la hP hD hS hl) (fun h => kf h H locs la hP hD hS hl)
theorem g_if_ge (C : gC p l e R s m args below meth c s0 D cy L0 cc nL own) {x : Int32} {off : Int} {tgt : Nat} (d : decode cc pc = .ok (.ifCond .ge off, 3)) (ht : (pc : Int) + off = (tgt : Int)) (hn : pc + 3 = n) (kt : 0 ≤ x → G p l e R s m args below meth c Q D L0 nL L f ce sl tgt ls (st)) (kf : ¬ 0 ≤ x → G p l e R s m args below meth c Q D L0 nL L f ce sl n ls (st)) : G p l e R s m args below meth c Q D L0 nL L f ce sl pc ls (.int x :: st) := by
  intro H locs la hP hD hS hl
  subst hn
  exact lv_if_ge C.1 C.2.1 d ht (fun h => kt h H locs la hP hD hS hl) (fun h => kf h H locs la hP hD hS hl)
theorem g_if_gt (C : gC p l e R s m args below meth c s0 D cy L0 cc nL own) {x : Int32} {off : Int} {tgt : Nat} (d : decode cc pc = .ok (.ifCond .gt off, 3)) (ht : (pc : Int) + off = (tgt : Int)) (hn : pc + 3 = n) (kt : 0 < x → G p l e R s m args below meth c Q D L0 nL L f ce sl tgt ls (st)) (kf : ¬ 0 < x → G p l e R s m args below meth c Q D L0 nL L f ce sl n ls (st)) : G p l e R s m args below meth c Q D L0 nL L f ce sl pc ls (.int x :: st) := by
  intro H locs la hP hD hS hl
  subst hn
  exact lv_if_gt C.1 C.2.1 d ht (fun h => kt h H locs la hP hD hS hl) (fun h => kf h H locs la hP hD hS hl)
theorem g_if_le (C : gC p l e R s m args below meth c s0 D cy L0 cc nL own) {x : Int32} {off : Int} {tgt : Nat} (d : decode cc pc = .ok (.ifCond .le off, 3)) (ht : (pc : Int) + off = (tgt : Int)) (hn : pc + 3 = n) (kt : x ≤ 0 → G p l e R s m args below meth c Q D L0 nL L f ce sl tgt ls (st)) (kf : ¬ x ≤ 0 → G p l e R s m args below meth c Q D L0 nL L f ce sl n ls (st)) : G p l e R s m args below meth c Q D L0 nL L f ce sl pc ls (.int x :: st) := by
  intro H locs la hP hD hS hl
  subst hn
  exact lv_if_le C.1 C.2.1 d ht (fun h => kt h H locs la hP hD hS hl) (fun h => kf h H locs la hP hD hS hl)
theorem g_icmp_eq (C : gC p l e R s m args below meth c s0 D cy L0 cc nL own) {x y : Int32} {off : Int} {tgt : Nat} (d : decode cc pc = .ok (.if_icmp .eq off, 3)) (ht : (pc : Int) + off = (tgt : Int)) (hn : pc + 3 = n) (kt : x = y → G p l e R s m args below meth c Q D L0 nL L f ce sl tgt ls (st)) (kf : ¬ x = y → G p l e R s m args below meth c Q D L0 nL L f ce sl n ls (st)) : G p l e R s m args below meth c Q D L0 nL L f ce sl pc ls (.int y :: .int x :: st) := by
  intro H locs la hP hD hS hl
  subst hn
  exact lv_icmp_eq C.1 C.2.1 d ht (fun h => kt h H locs la hP hD hS hl) (fun h => kf h H locs la hP hD hS hl)
theorem g_icmp_ne (C : gC p l e R s m args below meth c s0 D cy L0 cc nL own) {x y : Int32} {off : Int} {tgt : Nat} (d : decode cc pc = .ok (.if_icmp .ne off, 3)) (ht : (pc : Int) + off = (tgt : Int)) (hn : pc + 3 = n) (kt : ¬ x = y → G p l e R s m args below meth c Q D L0 nL L f ce sl tgt ls (st)) (kf : x = y → G p l e R s m args below meth c Q D L0 nL L f ce sl n ls (st)) : G p l e R s m args below meth c Q D L0 nL L f ce sl pc ls (.int y :: .int x :: st) := by
  intro H locs la hP hD hS hl
  subst hn
  exact lv_icmp_ne C.1 C.2.1 d ht (fun h => kt h H locs la hP hD hS hl) (fun h => kf h H locs la hP hD hS hl)
theorem g_icmp_lt (C : gC p l e R s m args below meth c s0 D cy L0 cc nL own) {x y : Int32} {off : Int} {tgt : Nat} (d : decode cc pc = .ok (.if_icmp .lt off, 3)) (ht : (pc : Int) + off = (tgt : Int)) (hn : pc + 3 = n) (kt : x < y → G p l e R s m args below meth c Q D L0 nL L f ce sl tgt ls (st)) (kf : ¬ x < y → G p l e R s m args below meth c Q D L0 nL L f ce sl n ls (st)) : G p l e R s m args below meth c Q D L0 nL L f ce sl pc ls (.int y :: .int x :: st) := by
  intro H locs la hP hD hS hl
  subst hn
  exact lv_icmp_lt C.1 C.2.1 d ht (fun h => kt h H locs la hP hD hS hl) (fun h => kf h H locs la hP hD hS hl)
theorem g_icmp_ge (C : gC p l e R s m args below meth c s0 D cy L0 cc nL own) {x y : Int32} {off : Int} {tgt : Nat} (d : decode cc pc = .ok (.if_icmp .ge off, 3)) (ht : (pc : Int) + off = (tgt : Int)) (hn : pc + 3 = n) (kt : y ≤ x → G p l e R s m args below meth c Q D L0 nL L f ce sl tgt ls (st)) (kf : ¬ y ≤ x → G p l e R s m args below meth c Q D L0 nL L f ce sl n ls (st)) : G p l e R s m args below meth c Q D L0 nL L f ce sl pc ls (.int y :: .int x :: st) := by
  intro H locs la hP hD hS hl
  subst hn
  exact lv_icmp_ge C.1 C.2.1 d ht (fun h => kt h H locs la hP hD hS hl) (fun h => kf h H locs la hP hD hS hl)
theorem g_icmp_gt (C : gC p l e R s m args below meth c s0 D cy L0 cc nL own) {x y : Int32} {off : Int} {tgt : Nat} (d : decode cc pc = .ok (.if_icmp .gt off, 3)) (ht : (pc : Int) + off = (tgt : Int)) (hn : pc + 3 = n) (kt : y < x → G p l e R s m args below meth c Q D L0 nL L f ce sl tgt ls (st)) (kf : ¬ y < x → G p l e R s m args below meth c Q D L0 nL L f ce sl n ls (st)) : G p l e R s m args below meth c Q D L0 nL L f ce sl pc ls (.int y :: .int x :: st) := by
  intro H locs la hP hD hS hl
  subst hn
  exact lv_icmp_gt C.1 C.2.1 d ht (fun h => kt h H locs la hP hD hS hl) (fun h => kf h H locs la hP hD hS hl)
theorem g_icmp_le (C : gC p l e R s m args below meth c s0 D cy L0 cc nL own) {x y : Int32} {off : Int} {tgt : Nat} (d : decode cc pc = .ok (.if_icmp .le off, 3)) (ht : (pc : Int) + off = (tgt : Int)) (hn : pc + 3 = n) (kt : x ≤ y → G p l e R s m args below meth c Q D L0 nL L f ce sl tgt ls (st)) (kf : ¬ x ≤ y → G p l e R s m args below meth c Q D L0 nL L f ce sl n ls (st)) : G p l e R s m args below meth c Q D L0 nL L f ce sl pc ls (.int y :: .int x :: st) := by
  intro H locs la hP hD hS hl
  subst hn
  exact lv_icmp_le C.1 C.2.1 d ht (fun h => kt h H locs la hP hD hS hl) (fun h => kf h H locs la hP hD hS hl)
theorem g_goto (C : gC p l e R s m args below meth c s0 D cy L0 cc nL own) {off : Int} {tgt : Nat} (d : decode cc pc = .ok (.goto off, 3)) (ht : (pc : Int) + off = (tgt : Int)) (kk : G p l e R s m args below meth c Q D L0 nL L f ce sl tgt ls (st)) : G p l e R s m args below meth c Q D L0 nL L f ce sl pc ls (st) := by
  intro H locs la hP hD hS hl
  exact lv_goto C.1 C.2.1 d ht (kk H locs la hP hD hS hl)
theorem g_ifnull (C : gC p l e R s m args below meth c s0 D cy L0 cc nL own) {o : Option Nat} {off : Int} {tgt : Nat} (d : decode cc pc = .ok (.ifnull off, 3)) (ht : (pc : Int) + off = (tgt : Int)) (hn : pc + 3 = n) (kt : o = none → G p l e R s m args below meth c Q D L0 nL L f ce sl tgt ls (st)) (kf : ∀ a, o = some a → G p l e R s m args below meth c Q D L0 nL L f ce sl n ls (st)) : G p l e R s m args below meth c Q D L0 nL L f ce sl pc ls (va_rf o :: st) := by
  intro H locs la hP hD hS hl
  subst hn
  cases o with
  | none => exact lv_ifnullN C.1 C.2.1 d ht (kt rfl H locs la hP hD hS hl)
  | some a => exact lv_ifnull C.1 C.2.1 d (kf a rfl H locs la hP hD hS hl)
theorem g_ifnonnull (C : gC p l e R s m args below meth c s0 D cy L0 cc nL own) {o : Option Nat} {off : Int} {tgt : Nat} (d : decode cc pc = .ok (.ifnonnull off, 3)) (ht : (pc : Int) + off = (tgt : Int)) (hn : pc + 3 = n) (kt : ∀ a, o = some a → G p l e R s m args below meth c Q D L0 nL L f ce sl tgt ls (st)) (kf : o = none → G p l e R s m args below meth c Q D L0 nL L f ce sl n ls (st)) : G p l e R s m args below meth c Q D L0 nL L f ce sl pc ls (va_rf o :: st) := by
  intro H locs la hP hD hS hl
  subst hn
  cases o with
  | none => exact lv_ifnonnullN C.1 C.2.1 d (kf rfl H locs la hP hD hS hl)
  | some a => exact lv_ifnonnull C.1 C.2.1 d ht (kt a rfl H locs la hP hD hS hl)
theorem g_acmp_eq (C : gC p l e R s m args below meth c s0 D cy L0 cc nL own) {rx ry : Option Nat} {off : Int} {tgt : Nat} (d : decode cc pc = .ok (.if_acmp .eq off, 3)) (ht : (pc : Int) + off = (tgt : Int)) (hn : pc + 3 = n) (kt : rx = ry → G p l e R s m args below meth c Q D L0 nL L f ce sl tgt ls (st)) (kf : ¬ rx = ry → G p l e R s m args below meth c Q D L0 nL L f ce sl n ls (st)) : G p l e R s m args below meth c Q D L0 nL L f ce sl pc ls (va_rf ry :: va_rf rx :: st) := by
  intro H locs la hP hD hS hl
  subst hn
  exact lv_acmp_eq C.1 C.2.1 d ht (fun h => kt h H locs la hP hD hS hl) (fun h => kf h H locs la hP hD hS hl)
theorem g_acmp_ne (C : gC p l e R s m args below meth c s0 D cy L0 cc nL own) {rx ry : Option Nat} {off : Int} {tgt : Nat} (d : decode cc pc = .ok (.if_acmp .ne off, 3)) (ht : (pc : Int) + off = (tgt : Int)) (hn : pc + 3 = n) (kt : ¬ rx = ry → G p l e R s m args below meth c Q D L0 nL L f ce sl tgt ls (st)) (kf : rx = ry → G p l e R s m args below meth c Q D L0 nL L f ce sl n ls (st)) : G p l e R s m args below meth c Q D L0 nL L f ce sl pc ls (va_rf ry :: va_rf rx :: st) := by
  intro H locs la hP hD hS hl
  subst hn
  exact lv_acmp_ne C.1 C.2.1 d ht (fun h => kt h H locs la hP hD hS hl) (fun h => kf h H locs la hP hD hS hl)
theorem g_tableIn (C : gC p l e R s m args below meth c s0 D cy L0 cc nL own) {dflt lo hi : Int} {offs : Array Int} {len : Nat} {x : Int32} {off : Int} {tgt : Nat} (d : decode cc pc = .ok (.tableswitch dflt lo hi offs, len)) (h1 : ¬ x.toInt < lo) (h2 : ¬ hi < x.toInt) (ho : offs[(x.toInt - lo).toNat]? = some off) (ht : (pc : Int) + off = (tgt : Int)) (kk : G p l e R s m args below meth c Q D L0 nL L f ce sl tgt ls (st)) : G p l e R s m args below meth c Q D L0 nL L f ce sl pc ls (.int x :: st) := by
  intro H locs la hP hD hS hl
  exact lv_tableIn C.1 C.2.1 d h1 h2 ho ht (kk H locs la hP hD hS hl)
theorem g_tableOut (C : gC p l e R s m args below meth c s0 D cy L0 cc nL own) {dflt lo hi : Int} {offs : Array Int} {len : Nat} {x : Int32} {tgt : Nat} (d : decode cc pc = .ok (.tableswitch dflt lo hi offs, len)) (h : x.toInt < lo ∨ hi < x.toInt) (ht : (pc : Int) + dflt = (tgt : Int)) (kk : G p l e R s m args below meth c Q D L0 nL L f ce sl tgt ls (st)) : G p l e R s m args below meth c Q D L0 nL L f ce sl pc ls (.int x :: st) := by
  intro H locs la hP hD hS hl
  exact lv_tableOut C.1 C.2.1 d h ht (kk H locs la hP hD hS hl)
theorem g_ldc (C : gC p l e R s m args below meth c s0 D cy L0 cc nL own) {index : Nat} {v : Int32} (d : decode cc pc = .ok (.ldc index, 2)) (hw : Cond.constant own index v ∈ lw_tbl) (hn : pc + 2 = n) (kk : G p l e R s m args below meth c Q D L0 nL L f ce sl n ls (.int v :: st)) : G p l e R s m args below meth c Q D L0 nL L f ce sl pc ls (st) := by
  intro H locs la hP hD hS hl
  subst hn
  exact lv_ldc C.1 C.2.1 C.2.2.2.1 (C.wd hw rfl args) d (kk H locs la hP hD hS hl)
end GCORE
/-- the words of a read of field k of class ci -/
def gwF (own : String) (idx ci k : Nat) : Prop := ∃ (Cn : String) (T : u_T) (N : Nat), vwCl[ci]? = some (Cn, T, N) ∧ k < N ∧ (∀ w ∈ u_ws Cn T N, w ∈ lw_tbl ∧ (w.onTables && w.keepsFace) = true) ∧ (Cond.fieldLink own idx (T k).1 (T k).2.1 (T k).2.2.1 ∈ lw_tbl ∨ ∃ host : String, Cond.fieldLinkNest own idx (T k).1 (T k).2.1 (T k).2.2.1 host ∈ lw_tbl)
/-- .. and of a write -/
def gwP (own : String) (idx ci k : Nat) (fin : Bool) (ty : FieldType) : Prop := ∃ (Cn : String) (T : u_T) (N : Nat) (ty0 : Nat → FieldType), vwCl[ci]? = some (Cn, T, N) ∧ k < N ∧ (∀ w ∈ u_ws Cn T N, w ∈ lw_tbl ∧ (w.onTables && w.keepsFace) = true) ∧ (∀ k, k < N → parseFieldDescriptor (T k).2.2.1 = some (ty0 k)) ∧ (∀ a, a < N → ∀ b, b < N → a ≠ b → (T a).2.1 ≠ (T b).2.1) ∧ (T k).2.2.2 = fin ∧ parseFieldDescriptor (T k).2.2.1 = some ty ∧ (fin = true → (T k).1 = own) ∧ (Cond.fieldLink own idx (T k).1 (T k).2.1 (T k).2.2.1 ∈ lw_tbl ∨ (fin = false ∧ ∃ host : String, Cond.fieldLinkNest own idx (T k).1 (T k).2.1 (T k).2.2.1 host ∈ lw_tbl))
section GHEAP

variable {p : Program} {l : Launch} {e : Env} {R : Room} {s : State} {m : MethodId} {args : Array Value} {below : List Frame} {meth : Method} {c : Code} {Q : State → Prop}
variable {s0 : State} {D : va_G} {cy : Nat → ClassId} {L0 : List Nat} {nL : Nat} {cc : ByteArray} {own : String} {L : List Nat} {f : gF} {ce sl pc n : Nat} {ls : List (Option Value)} {st : List Value}
theorem gp_at {X : List Nat} {D9 : va_G} {H : Heap} {a : Nat} {e9 : va_E} (ha : gH L f a e9) : ∃ k : Nat, (va_pl L f)[k]? = some (a, e9) := by
  obtain ⟨k, hk⟩ := va_pl_get (X := []) (f := f) ha.1
  rw [ha.2] at hk
  exact ⟨k, hk⟩
theorem gp_set {A : Nat → Prop} {a k : Nat} {e0 e1 : va_E} (hD : va_D A (va_pl L f)) (ha : gH L f a e0) (hk : (va_pl L f)[k]? = some (a, e0)) : (va_pl L f).set k (a, e1) = va_pl L (va_up f a e1) :=
  va_pl_set (X := []) hD ha.1 (by rw [ha.2]; exact hk)
theorem gp_nL {H : Heap} (hP : va_P D vwCl (va_pl L f) H) {a : Nat} (h : H.size ≤ a) : a ∉ L := va_pl_fresh (X := []) hP h
theorem gp_new {A : Nat → Prop} {q : Nat} {e : va_E} (hD : va_D A (va_pl L f ++ [(q, e)])) : q ∉ L := va_pl_fresh2 (X := []) hD
theorem g_get (C : gC p l e R s m args below meth c s0 D cy L0 cc nL own) {idx ci k a : Nat} {fs : List Value} {v : Value} (d : decode cc pc = .ok (.getfield idx, 3)) (hw : gwF own idx ci k) (ha : gH L f a (.inr (ci, fs))) (hv : fs[k]? = some v) (hn : pc + 3 = n) (kk : G p l e R s m args below meth c Q D L0 nL L f ce sl n ls (v :: st)) : G p l e R s m args below meth c Q D L0 nL L f ce sl pc ls (.ref a :: st) := by
  intro H locs la hP hD hS hl
  subst hn
  obtain ⟨Cn, T, N, hc, hk, hin, hlk⟩ := hw
  obtain ⟨q0, hq⟩ := gp_at (X := []) (D9 := D) (H := H) ha
  have ht : ∀ w ∈ u_ws Cn T N, w.before args s = true := fun w h => C.wd (hin w h).1 (hin w h).2 args
  rcases hlk with hlk | ⟨host, hlk⟩
  · exact va_get (D := D) C.1 C.2.1 ht (fun w h => h) C.2.2.2.1 C.K hP q0 hq hc k hk (C.wd hlk rfl args) (fun _ h => h) hv d (kk H locs la hP hD hS hl)
  · exact va_getN (D := D) C.1 C.2.1 ht (fun w h => h) C.2.2.2.1 C.K hP q0 hq hc k hk (va_Nw.use rfl (C.nwF hlk)) (fun _ h => h) hv d (kk H locs la hP hD hS hl)
theorem g_put (C : gC p l e R s m args below meth c s0 D cy L0 cc nL own) {idx ci k a : Nat} {fs : List Value} {v : Value} {ty : FieldType} (d : decode cc pc = .ok (.putfield idx, 3)) (hw : gwP own idx ci k false ty) (ha : gH L f a (.inr (ci, fs))) (hv : narrow ty v = v ∧ fits ty v = true) (hl9 : k < fs.length) (hn : pc + 3 = n) (kk : G p l e R s m args below meth c Q D L0 nL L (va_up f a (.inr (ci, fs.set k v))) ce sl n ls (st)) : G p l e R s m args below meth c Q D L0 nL L f ce sl pc ls (v :: .ref a :: st) := by
  intro H locs la hP hD hS hl
  subst hn
  obtain ⟨Cn, T, N, ty0, hc, hk, hin, h1, h2, h3, h4, -, hlk⟩ := hw
  obtain ⟨q0, hq⟩ := gp_at (X := []) (D9 := D) (H := H) ha
  have ht : ∀ w ∈ u_ws Cn T N, w.before args s = true := fun w h => C.wd (hin w h).1 (hin w h).2 args
  rcases hlk with hlk | ⟨-, host, hlk⟩
  · refine va_put (D := D) C.1 C.2.1 ht (fun w h => h) ty0 h1 h2 C.2.2.2.1 C.K hP hD hS q0 hq hc k hk (C.wd hlk rfl args) (fun _ h => h) h3 h4 hv.1 hv.2 hl9 d (fun H1 locs1 hP1 hD1 hS1 => ?_)
    rw [gp_set hD ha hq] at hP1 hD1
    exact kk H1 locs1 la hP1 hD1 hS1 hl
  · refine va_putN (D := D) C.1 C.2.1 ht (fun w h => h) ty0 h1 h2 C.2.2.2.1 C.K hP hD hS q0 hq hc k hk (va_Nw.use rfl (C.nwF hlk)) (fun _ h => h) h3 h4 hv.1 hv.2 hl9 d (fun H1 locs1 hP1 hD1 hS1 => ?_)
    rw [gp_set hD ha hq] at hP1 hD1
    exact kk H1 locs1 la hP1 hD1 hS1 hl
theorem g_putF (C : gC p l e R s m args below meth c s0 D cy L0 cc nL own) {idx ci k a : Nat} {fs : List Value} {v : Value} {ty : FieldType} (d : decode cc pc = .ok (.putfield idx, 3)) (hw : gwP own idx ci k true ty) (hin9 : meth.name = "<init>") (ha : gH L f a (.inr (ci, fs))) (hv : narrow ty v = v ∧ fits ty v = true) (hl9 : k < fs.length) (hn : pc + 3 = n) (kk : G p l e R s m args below meth c Q D L0 nL L (va_up f a (.inr (ci, fs.set k v))) ce sl n ls (st)) : G p l e R s m args below meth c Q D L0 nL L f ce sl pc ls (v :: .ref a :: st) := by
  intro H locs la hP hD hS hl
  subst hn
  obtain ⟨Cn, T, N, ty0, hc, hk, hin, h1, h2, h3, h4, h5, hlk⟩ := hw
  obtain ⟨q0, hq⟩ := gp_at (X := []) (D9 := D) (H := H) ha
  have ht : ∀ w ∈ u_ws Cn T N, w.before args s = true := fun w h => C.wd (hin w h).1 (hin w h).2 args
  rcases hlk with hlk | ⟨h, -⟩
  · refine va_putF (D := D) C.1 C.2.1 ht (fun w h => h) ty0 h1 h2 C.2.2.2.1 C.K hP hD hS q0 hq hc k hk (C.wd hlk rfl args) (fun _ h => h) h3 hin9 (h5 rfl) h4 hv.1 hv.2 hl9 d (fun H1 locs1 hP1 hD1 hS1 => ?_)
    rw [gp_set hD ha hq] at hP1 hD1
    exact kk H1 locs1 la hP1 hD1 hS1 hl
  · cases h

theorem gj_clamp {j N : Nat} (hj : j < N) (hN : N < 2 ^ 31) : (nI j).toNatClampNeg = j := nI_clamp (Nat.lt_trans hj hN)
theorem g_iald (C : gC p l e R s m args below meth c s0 D cy L0 cc nL own) {a j N : Nat} {g : Nat → Int32} {i : Int32} (d : decode cc pc = .ok (.iaload, 1)) (ha : gH L f a (.inl (cy 0, N, .inl g))) (hi : i = nI j) (hj : j < N) (hN : N < 2 ^ 31) (hn : pc + 1 = n) (kk : G p l e R s m args below meth c Q D L0 nL L f ce sl n ls (.int (g j) :: st)) : G p l e R s m args below meth c Q D L0 nL L f ce sl pc ls (.int i :: .ref a :: st) := by
  intro H locs la hP hD hS hl
  subst hn
  subst hi
  obtain ⟨q0, hq⟩ := gp_at (X := []) (D9 := D) (H := H) ha
  refine va_iald C.1 C.2.1 C.K hP q0 0 hq rfl (vp_in_nI hj hN) d ?_
  rw [gj_clamp hj hN]
  exact kk H locs la hP hD hS hl
theorem g_zald (C : gC p l e R s m args below meth c s0 D cy L0 cc nL own) {a j N : Nat} {g : Nat → Int32} {i : Int32} (d : decode cc pc = .ok (.baload, 1)) (ha : gH L f a (.inl (cy 1, N, .inl g))) (hi : i = nI j) (hj : j < N) (hN : N < 2 ^ 31) (hn : pc + 1 = n) (kk : G p l e R s m args below meth c Q D L0 nL L f ce sl n ls (.int (g j) :: st)) : G p l e R s m args below meth c Q D L0 nL L f ce sl pc ls (.int i :: .ref a :: st) := by
  intro H locs la hP hD hS hl
  subst hn
  subst hi
  obtain ⟨q0, hq⟩ := gp_at (X := []) (D9 := D) (H := H) ha
  refine va_zald C.1 C.2.1 C.K hP q0 1 hq rfl (vp_in_nI hj hN) d ?_
  rw [gj_clamp hj hN]
  exact kk H locs la hP hD hS hl
theorem g_lald (C : gC p l e R s m args below meth c s0 D cy L0 cc nL own) {a j N : Nat} {g : Nat → Int64} {i : Int32} (d : decode cc pc = .ok (.laload, 1)) (ha : gH L f a (.inl (cy 2, N, .inr (.inl g)))) (hi : i = nI j) (hj : j < N) (hN : N < 2 ^ 31) (hn : pc + 1 = n) (kk : G p l e R s m args below meth c Q D L0 nL L f ce sl n ls (.long (g j) :: st)) : G p l e R s m args below meth c Q D L0 nL L f ce sl pc ls (.int i :: .ref a :: st) := by
  intro H locs la hP hD hS hl
  subst hn
  subst hi
  obtain ⟨q0, hq⟩ := gp_at (X := []) (D9 := D) (H := H) ha
  refine va_lald C.1 C.2.1 C.K hP q0 2 hq rfl (vp_in_nI hj hN) d ?_
  rw [gj_clamp hj hN]
  exact kk H locs la hP hD hS hl
theorem g_aald (C : gC p l e R s m args below meth c s0 D cy L0 cc nL own) {a j N t : Nat} {g : Nat → Option Nat} {i : Int32} {ty : FieldType} (d : decode cc pc = .ok (.aaload, 1)) (ht : (gTy cy)[t]? = some (cy t, ty)) (hty : ty.isReference = true) (ha : gH L f a (.inl (cy t, N, .inr (.inr (.inr (.inr g)))))) (hi : i = nI j) (hj : j < N) (hN : N < 2 ^ 31) (hn : pc + 1 = n) (kk : G p l e R s m args below meth c Q D L0 nL L f ce sl n ls (va_rf (g j) :: st)) : G p l e R s m args below meth c Q D L0 nL L f ce sl pc ls (.int i :: .ref a :: st) := by
  intro H locs la hP hD hS hl
  subst hn
  subst hi
  obtain ⟨q0, hq⟩ := gp_at (X := []) (D9 := D) (H := H) ha
  have hin := vp_in_nI hj hN
  have hlt : (nI j).toNatClampNeg < N := by rw [gj_clamp hj hN]; exact hj
  refine W.aald (v := va_rf (g j)) (ty := ty) C.1 C.2.1 (hP q0 _ hq) ((C.K.2 t _ ht).1 N (fun j => va_rf (g j))) hty (fun q => by cases q) (by show ¬ (nI j < 0 ∨ (arrV _ _ _).slots.size ≤ _); rw [arrV_size]; exact hin) (by show (arrV _ _ _).slots[_]? = _; rw [arrV_read _ _ hlt, gj_clamp hj hN]) rfl rfl d ?_
  exact kk H locs la hP hD hS hl
theorem g_iast (C : gC p l e R s m args below meth c s0 D cy L0 cc nL own) {a j N : Nat} {g : Nat → Int32} {i : Int32} {x : Int32} (d : decode cc pc = .ok (.iastore, 1)) (ha : gH L f a (.inl (cy 0, N, .inl g))) (hi : i = nI j) (hj : j < N) (hN : N < 2 ^ 31) (hn : pc + 1 = n) (kk : G p l e R s m args below meth c Q D L0 nL L (va_up f a (.inl (cy 0, N, .inl (upd g j x)))) ce sl n ls (st)) : G p l e R s m args below meth c Q D L0 nL L f ce sl pc ls (.int x :: .int i :: .ref a :: st) := by
  intro H locs la hP hD hS hl
  subst hn
  subst hi
  obtain ⟨q0, hq⟩ := gp_at (X := []) (D9 := D) (H := H) ha
  refine va_iast C.1 C.2.1 C.K hP hD hS q0 0 hq rfl (vp_in_nI hj hN) d (fun H1 locs1 hP1 hD1 hS1 => ?_)
  rw [gj_clamp hj hN] at hP1 hD1
  rw [gp_set hD ha hq] at hP1 hD1
  exact kk H1 locs1 la hP1 hD1 hS1 hl
theorem g_zast (C : gC p l e R s m args below meth c s0 D cy L0 cc nL own) {a j N : Nat} {g : Nat → Int32} {i : Int32} {x : Int32} (d : decode cc pc = .ok (.bastore, 1)) (ha : gH L f a (.inl (cy 1, N, .inl g))) (hi : i = nI j) (hj : j < N) (hN : N < 2 ^ 31) (hn : pc + 1 = n) (kk : G p l e R s m args below meth c Q D L0 nL L (va_up f a (.inl (cy 1, N, .inl (upd g j (vp_nar .boolean x))))) ce sl n ls (st)) : G p l e R s m args below meth c Q D L0 nL L f ce sl pc ls (.int x :: .int i :: .ref a :: st) := by
  intro H locs la hP hD hS hl
  subst hn
  subst hi
  obtain ⟨q0, hq⟩ := gp_at (X := []) (D9 := D) (H := H) ha
  refine va_zast C.1 C.2.1 C.K hP hD hS q0 1 hq rfl (vp_in_nI hj hN) d (fun H1 locs1 hP1 hD1 hS1 => ?_)
  rw [gj_clamp hj hN] at hP1 hD1
  rw [gp_set hD ha hq] at hP1 hD1
  exact kk H1 locs1 la hP1 hD1 hS1 hl
theorem g_last (C : gC p l e R s m args below meth c s0 D cy L0 cc nL own) {a j N : Nat} {g : Nat → Int64} {i : Int32} {x : Int64} (d : decode cc pc = .ok (.lastore, 1)) (ha : gH L f a (.inl (cy 2, N, .inr (.inl g)))) (hi : i = nI j) (hj : j < N) (hN : N < 2 ^ 31) (hn : pc + 1 = n) (kk : G p l e R s m args below meth c Q D L0 nL L (va_up f a (.inl (cy 2, N, .inr (.inl (vp_updL g j x))))) ce sl n ls (st)) : G p l e R s m args below meth c Q D L0 nL L f ce sl pc ls (.long x :: .int i :: .ref a :: st) := by
  intro H locs la hP hD hS hl
  subst hn
  subst hi
  obtain ⟨q0, hq⟩ := gp_at (X := []) (D9 := D) (H := H) ha
  refine va_last C.1 C.2.1 C.K hP hD hS q0 2 hq rfl (vp_in_nI hj hN) d (fun H1 locs1 hP1 hD1 hS1 => ?_)
  rw [gj_clamp hj hN] at hP1 hD1
  rw [gp_set hD ha hq] at hP1 hD1
  exact kk H1 locs1 la hP1 hD1 hS1 hl
theorem g_aast (C : gC p l e R s m args below meth c s0 D cy L0 cc nL own) {a j N t ci v : Nat} {g : Nat → Option Nat} {i : Int32} {r : vw_C} {vs : List Value} (d : decode cc pc = .ok (.aastore, 1)) (ht : (gTy cy)[t]? = some (cy t, .object r.1)) (hc : vwCl[ci]? = some r) (ha : gH L f a (.inl (cy t, N, .inr (.inr (.inr (.inr g)))))) (hv : gH L f v (.inr (ci, vs))) (hi : i = nI j) (hj : j < N) (hN : N < 2 ^ 31) (hn : pc + 1 = n) (kk : G p l e R s m args below meth c Q D L0 nL L (va_up f a (.inl (cy t, N, .inr (.inr (.inr (.inr (va_up g j (some v)))))))) ce sl n ls (st)) : G p l e R s m args below meth c Q D L0 nL L f ce sl pc ls (.ref v :: .int i :: .ref a :: st) := by
  intro H locs la hP hD hS hl
  subst hn
  subst hi
  obtain ⟨q0, hq⟩ := gp_at (X := []) (D9 := D) (H := H) ha
  obtain ⟨q1, hq1⟩ := gp_at (X := []) (D9 := D) (H := H) hv
  refine va_astq C.1 C.2.1 C.K hP hD hS q0 t q1 ci hq ht hq1 hc (vp_in_nI hj hN) d (fun H1 locs1 hP1 hD1 hS1 => ?_)
  rw [gj_clamp hj hN] at hP1 hD1
  rw [gp_set hD ha hq] at hP1 hD1
  exact kk H1 locs1 la hP1 hD1 hS1 hl
theorem g_aastN (C : gC p l e R s m args below meth c s0 D cy L0 cc nL own) {a j N t : Nat} {g : Nat → Option Nat} {i : Int32} {Cn : String} (d : decode cc pc = .ok (.aastore, 1)) (ht : (gTy cy)[t]? = some (cy t, .object Cn)) (ha : gH L f a (.inl (cy t, N, .inr (.inr (.inr (.inr g)))))) (hi : i = nI j) (hj : j < N) (hN : N < 2 ^ 31) (hn : pc + 1 = n) (kk : G p l e R s m args below meth c Q D L0 nL L (va_up f a (.inl (cy t, N, .inr (.inr (.inr (.inr (va_up g j none))))))) ce sl n ls (st)) : G p l e R s m args below meth c Q D L0 nL L f ce sl pc ls (.null :: .int i :: .ref a :: st) := by
  intro H locs la hP hD hS hl
  subst hn
  subst hi
  obtain ⟨q0, hq⟩ := gp_at (X := []) (D9 := D) (H := H) ha
  refine va_astqN C.1 C.2.1 C.K hP hD hS q0 t hq ht (vp_in_nI hj hN) d (fun H1 locs1 hP1 hD1 hS1 => ?_)
  rw [gj_clamp hj hN] at hP1 hD1
  rw [gp_set hD ha hq] at hP1 hD1
  exact kk H1 locs1 la hP1 hD1 hS1 hl
theorem g_alen (C : gC p l e R s m args below meth c s0 D cy L0 cc nL own) {a t : Nat} {x : vp_A} {ty : FieldType} {v : Int32} (d : decode cc pc = .ok (.arraylength, 1)) (ht : (gTy cy)[t]? = some (cy t, ty)) (ha : gH L f a (.inl (cy t, x))) (hv : Int32.ofNat x.1 = v) (hn : pc + 1 = n) (kk : G p l e R s m args below meth c Q D L0 nL L f ce sl n ls (.int v :: st)) : G p l e R s m args below meth c Q D L0 nL L f ce sl pc ls (.ref a :: st) := by
  intro H locs la hP hD hS hl
  subst hn
  obtain ⟨q0, hq⟩ := gp_at (X := []) (D9 := D) (H := H) ha
  exact va_alen C.1 C.2.1 C.K hP q0 t hq ht hv d (kk H locs la hP hD hS hl)
theorem g_new (C : gC p l e R s m args below meth c s0 D cy L0 cc nL own) {idx ci N : Nat} {Cn : String} {T : u_T} {fs : List Value} (ty : Nat → FieldType) (d : decode cc pc = .ok (.new idx, 3)) (hc : vwCl[ci]? = some (Cn, T, N)) (hin : ∀ w ∈ u_ws Cn T N, w ∈ lw_tbl ∧ (w.onTables && w.keepsFace) = true) (hty : ∀ k, k < N → parseFieldDescriptor (T k).2.2.1 = some (ty k)) (hfs : ∀ j, j < N → defaultValue (ty j) = vp_V fs j) (w1 : Cond.classLink own idx Cn ∈ lw_tbl) (w2 : Cond.instantiable Cn N ∈ lw_tbl) (w3 : Cond.initialized Cn ∈ lw_tbl) (hR : ce + 1 ≤ R.cells ∧ sl + N ≤ R.slots) (hn : pc + 3 = n)
    (kk : ∀ q : Nat, q ∉ L → G p l e R s m args below meth c Q D L0 nL (L ++ [q]) (va_up f q (.inr (ci, fs))) (ce + 1) (sl + N) n ls (.ref q :: st)) : G p l e R s m args below meth c Q D L0 nL L f ce sl pc ls (st) := by
  intro H locs la hP hD hS hl
  subst hn
  have ht : ∀ w ∈ u_ws Cn T N, w.before args s = true := fun w h => C.wd (hin w h).1 (hin w h).2 args
  refine va_new (D := D) C.1 C.2.1 ht (fun w h => h) ty hty C.2.2.2.1 (C.wd w1 rfl args) (C.wd w2 rfl args) (C.wd w3 rfl args) C.K hP hD hS C.new hc hfs hR.1 hR.2 d (fun q H1 hP1 hD1 hS1 => ?_)
  have hq := gp_new hD1
  rw [va_pl_push hq] at hP1 hD1
  exact kk q hq H1 locs la hP1 hD1 hS1 hl
theorem g_newi (C : gC p l e R s m args below meth c s0 D cy L0 cc nL own) {k : Int32} {N : Nat} (d : decode cc pc = .ok (.newarray .int, 2)) (hk : k = nI N) (hN : N < 2 ^ 20) (w1 : Cond.arrayClass .int ∈ lw_tbl) (hR : ce + 1 ≤ R.cells ∧ sl + N ≤ R.slots) (hn : pc + 2 = n)
    (kk : ∀ q : Nat, q ∉ L → G p l e R s m args below meth c Q D L0 nL (L ++ [q]) (va_up f q (.inl (cy 0, N, .inl (fun _ => 0)))) (ce + 1) (sl + N) n ls (.ref q :: st)) : G p l e R s m args below meth c Q D L0 nL L f ce sl pc ls (.int k :: st) := by
  intro H locs la hP hD hS hl
  subst hn
  subst hk
  have hc31 : N < 2 ^ 31 := Nat.lt_trans hN (by decide)
  refine va_newa (atype := .int) (ty := .int) (a0 := (N, .inl (fun _ => 0))) C.1 C.2.1 (C.wa w1 args) rfl C.K hP hD hS C.new (fun cA => rfl) (nI_pos hc31) (nI_clamp hc31) (by have : N < 1048576 := hN; show N * 4 ≤ 536870912; omega) hR.1 hR.2 d (fun q cA H1 hK1 hP1 hD1 hS1 => ?_)
  have hq := gp_new hD1
  have e1 : cA = cy 0 := by
    have h1 : s.vm.findClass ("[" ++ (FieldType.int).toString) = some cA := (hK1.2 7 (cA, .int) rfl).2
    have h2 : s.vm.findClass ("[" ++ (FieldType.int).toString) = some (cy 0) := (hK1.2 0 (cy 0, .int) rfl).2
    exact Option.some.inj (h1.symm.trans h2)
  subst e1
  rw [va_pl_push hq] at hP1 hD1
  exact kk q hq H1 locs la hP1 hD1 hS1 hl
theorem g_newz (C : gC p l e R s m args below meth c s0 D cy L0 cc nL own) {k : Int32} {N : Nat} (d : decode cc pc = .ok (.newarray .boolean, 2)) (hk : k = nI N) (hN : N < 2 ^ 20) (w1 : Cond.arrayClass .boolean ∈ lw_tbl) (hR : ce + 1 ≤ R.cells ∧ sl + N ≤ R.slots) (hn : pc + 2 = n)
    (kk : ∀ q : Nat, q ∉ L → G p l e R s m args below meth c Q D L0 nL (L ++ [q]) (va_up f q (.inl (cy 1, N, .inl (fun _ => 0)))) (ce + 1) (sl + N) n ls (.ref q :: st)) : G p l e R s m args below meth c Q D L0 nL L f ce sl pc ls (.int k :: st) := by
  intro H locs la hP hD hS hl
  subst hn
  subst hk
  have hc31 : N < 2 ^ 31 := Nat.lt_trans hN (by decide)
  refine va_newa (atype := .boolean) (ty := .boolean) (a0 := (N, .inl (fun _ => 0))) C.1 C.2.1 (C.wa w1 args) rfl C.K hP hD hS C.new (fun cA => rfl) (nI_pos hc31) (nI_clamp hc31) (by have : N < 1048576 := hN; show N * 1 ≤ 536870912; omega) hR.1 hR.2 d (fun q cA H1 hK1 hP1 hD1 hS1 => ?_)
  have hq := gp_new hD1
  have e1 : cA = cy 1 := by
    have h1 : s.vm.findClass ("[" ++ (FieldType.boolean).toString) = some cA := (hK1.2 7 (cA, .boolean) rfl).2
    have h2 : s.vm.findClass ("[" ++ (FieldType.boolean).toString) = some (cy 1) := (hK1.2 1 (cy 1, .boolean) rfl).2
    exact Option.some.inj (h1.symm.trans h2)
  subst e1
  rw [va_pl_push hq] at hP1 hD1
  exact kk q hq H1 locs la hP1 hD1 hS1 hl
theorem g_newl (C : gC p l e R s m args below meth c s0 D cy L0 cc nL own) {k : Int32} {N : Nat} (d : decode cc pc = .ok (.newarray .long, 2)) (hk : k = nI N) (hN : N < 2 ^ 20) (w1 : Cond.arrayClass .long ∈ lw_tbl) (hR : ce + 1 ≤ R.cells ∧ sl + N ≤ R.slots) (hn : pc + 2 = n)
    (kk : ∀ q : Nat, q ∉ L → G p l e R s m args below meth c Q D L0 nL (L ++ [q]) (va_up f q (.inl (cy 2, N, .inr (.inl (fun _ => 0))))) (ce + 1) (sl + N) n ls (.ref q :: st)) : G p l e R s m args below meth c Q D L0 nL L f ce sl pc ls (.int k :: st) := by
  intro H locs la hP hD hS hl
  subst hn
  subst hk
  have hc31 : N < 2 ^ 31 := Nat.lt_trans hN (by decide)
  refine va_newa (atype := .long) (ty := .long) (a0 := (N, .inr (.inl (fun _ => 0)))) C.1 C.2.1 (C.wa w1 args) rfl C.K hP hD hS C.new (fun cA => rfl) (nI_pos hc31) (nI_clamp hc31) (by have : N < 1048576 := hN; show N * 8 ≤ 536870912; omega) hR.1 hR.2 d (fun q cA H1 hK1 hP1 hD1 hS1 => ?_)
  have hq := gp_new hD1
  have e1 : cA = cy 2 := by
    have h1 : s.vm.findClass ("[" ++ (FieldType.long).toString) = some cA := (hK1.2 7 (cA, .long) rfl).2
    have h2 : s.vm.findClass ("[" ++ (FieldType.long).toString) = some (cy 2) := (hK1.2 2 (cy 2, .long) rfl).2
    exact Option.some.inj (h1.symm.trans h2)
  subst e1
  rw [va_pl_push hq] at hP1 hD1
  exact kk q hq H1 locs la hP1 hD1 hS1 hl
theorem g_newq (C : gC p l e R s m args below meth c s0 D cy L0 cc nL own) {k : Int32} {idx N t : Nat} {Cn : String} (d : decode cc pc = .ok (.anewarray idx, 3)) (ht : (gTy cy)[t]? = some (cy t, .object Cn)) (hk : k = nI N) (hN : N < 2 ^ 20) (w1 : Cond.classLink own idx Cn ∈ lw_tbl) (w2 : Cond.arrayOver (.object Cn) ∈ lw_tbl) (hR : ce + 1 ≤ R.cells ∧ sl + N ≤ R.slots) (hn : pc + 3 = n)
    (kk : ∀ q : Nat, q ∉ L → G p l e R s m args below meth c Q D L0 nL (L ++ [q]) (va_up f q (.inl (cy t, N, .inr (.inr (.inr (.inr (fun _ => none))))))) (ce + 1) (sl + N) n ls (.ref q :: st)) : G p l e R s m args below meth c Q D L0 nL L f ce sl pc ls (.int k :: st) := by
  intro H locs la hP hD hS hl
  subst hn
  subst hk
  have hc31 : N < 2 ^ 31 := Nat.lt_trans hN (by decide)
  have hov : va_AO Cn s := by
    obtain ⟨-, -, -, -, -, ⟨-, ⟨a0, h9⟩, -⟩, ⟨hW, -⟩, -⟩ := C
    have h8 : va_AO Cn s0 := (h9 _ w2 : (Cond.arrayOver (.object Cn)).before a0 s0 = true)
    exact va_AO.moved hW.alike h8
  refine va_newq (C := Cn) C.1 C.2.1 C.2.2.2.1 (C.wd w1 rfl args) hov C.K hP hD hS C.new (nI_pos hc31) (nI_clamp hc31) (by have : N < 1048576 := hN; omega) hR.1 hR.2 d (fun q cA H1 hK1 hP1 hD1 hS1 => ?_)
  have hq := gp_new hD1
  have e1 : cA = cy t := by
    obtain ⟨-, -, -, -, -, h1⟩ := (hK1.2 7 (cA, .object Cn) rfl).2
    obtain ⟨-, -, -, -, -, h2⟩ := (C.K.2 t _ ht).2
    exact Option.some.inj (h1.symm.trans h2)
  subst e1
  rw [va_pl_push hq] at hP1 hD1
  exact kk q hq H1 locs la hP1 hD1 hS1 hl
theorem g_objInit (C : gC p l e R s m args below meth c s0 D cy L0 cc nL own) {idx a : Nat} (d : decode cc pc = .ok (.invokespecial idx, 3)) (w1 : Cond.methodLink own idx Lib.objectInit ∈ lw_tbl) (w2 : Cond.instanceMethod Lib.objectInit ∈ lw_tbl) (w3 : Cond.code Lib.objectInit ⟨#[0xb1]⟩ 1 none ∈ lw_tbl) (hR : 1 ≤ R.frames ∧ (st.map fun v => v.category).sum + 12 ≤ R.locals) (hn : pc + 3 = n) (kk : G p l e R s m args below meth c Q D L0 nL L f ce sl n ls (st)) : G p l e R s m args below meth c Q D L0 nL L f ce sl pc ls (.ref a :: st) := by
  intro H locs la hP hD hS hl
  subst hn
  refine W.objInit C.1 C.2.1 C.2.2.2.1 (C.wd w1 rfl args) (C.wd w2 rfl args) (C.wd w3 rfl args) rfl (by rw [C.2.2.1]; exact hl.1) rfl d hR.1 (by show 2 * 0 + _ + 12 ≤ _; omega) ?_
  exact W.eq (g2 := F0 m (pc + 3) la st) rfl (kk H locs la hP hD hS hl)
end GHEAP
end
section
/-! ===== contracts over pools: gM returns, gX returns or throws ===== -/
def gRm (d mc ms : Nat) : Room := { frames := d, cells := mc, slots := ms, locals := 40 * d }
def gPc (s0 : State) (D : va_G) (av : List Value) (L : List Nat) (f : gF) (sz : Nat) : Array Value → State → Prop := va_Pc av (fun U => U.heap.size = sz ∧ va_P D vwCl (va_pl L f) U.heap ∧ va_D (fun _ => True) (va_pl L f) ∧ gW s0 L U)
def gQc (D : va_G) (L : List Nat) (sz : Nat) (Qr : Option Value → List Nat → gF → Prop) : Array Value → State → Outcome → State → Prop := fun _ st oc t => (∃ (v : Option Value) (L1 : List Nat) (f1 : gF), oc = .returned v ∧ Qr v L1 f1 ∧ va_P D vwCl (va_pl L1 f1) t.heap ∧ va_D (gA L sz) (va_pl L1 f1)) ∧ va_F (gA L sz) st t
def gM (l : Launch) (s0 : State) (D : va_G) (y : MethodName) (cc : ByteArray) (maxL : Nat) (ret : Option FieldType) (d mc ms : Nat) (av : List Value) (L : List Nat) (f : gF) (Qr : Option Value → List Nat → gF → Prop) : Prop :=
  ∀ sz : Nat, Met l y [.code y cc maxL ret] (gRm d mc ms) (gPc s0 D av L f sz) (gQc D L sz Qr) mc ms (gA L sz)
def gXc (D : va_G) (L : List Nat) (f : gF) (sz : Nat) (PX : String → Prop) : String → State → State → Prop := fun E st t => PX E ∧ va_P D vwCl (va_pl L f) t.heap ∧ va_D (gA L sz) (va_pl L f) ∧ va_F (gA L sz) st t
def gX (l : Launch) (s0 : State) (D : va_G) (y : MethodName) (cc : ByteArray) (maxL : Nat) (ret : Option FieldType) (d mc ms : Nat) (av : List Value) (L : List Nat) (f : gF) (Qr : Option Value → List Nat → gF → Prop) (PX : String → Prop) : Prop :=
  ∀ sz : Nat, vx_Met l y [.code y cc maxL ret] (gRm d mc ms) (gPc s0 D av L f sz) (gQc D L sz Qr) (gXc D L f sz PX) mc ms (gA L sz)
def gEn (av : List Value) (n : Nat) : List (Option Value) := av.map some ++ List.replicate (n - av.length) none
theorem g_argsM : ∀ (av : List Value) (i k : Nat) (v : Value), (∀ v ∈ av, v.category = 1) → av[k]? = some v → (i + k, v) ∈ lv_args i av
  | [], _, _, _, _, h => by cases h
  | u :: av, i, 0, v, _, h => by
    cases h
    exact List.mem_cons_self
  | u :: av, i, k + 1, v, hc, h => by
    have h1 := g_argsM av (i + 1) k v (fun w hw => hc w (List.mem_cons_of_mem _ hw)) h
    have hu : u.category = 1 := hc u List.mem_cons_self
    rw [show i + (k + 1) = i + 1 + k by omega]
    unfold lv_args
    rw [hu]
    exact List.mem_cons_of_mem _ h1
theorem g_slen : ∀ (av : List Value), (∀ v ∈ av, v.category = 1) → (lg_sl av).length = av.length
  | [], _ => rfl
  | u :: av, hc => by
    have h1 := g_slen av (fun w hw => hc w (List.mem_cons_of_mem _ hw))
    have hu : u.category = 1 := hc u List.mem_cons_self
    unfold lg_sl at h1 ⊢
    rw [List.flatMap_cons, List.length_append, h1, hu]
    simp [Nat.add_comm]
theorem gL.entry {av : List Value} {n : Nat} (hc : ∀ v ∈ av, v.category = 1) (hn : av.length ≤ n) : gL ((lg_sl av ++ List.replicate (n - (lg_sl av).length) Slot.unset).toArray) n (gEn av n) := by
  have h1 := lv_entry av (n := n) (by rw [g_slen av hc]; exact hn)
  refine ⟨h1.1, h1.2.1, by simp [gEn]; omega, fun i v hv => ?_⟩
  unfold gEn at hv
  by_cases hi : i < av.length
  · rw [List.getElem?_append_left (by rw [List.length_map]; exact hi), List.getElem?_map] at hv
    cases hz : av[i]? with
    | none => rw [hz] at hv; cases hv
    | some u =>
      rw [hz] at hv
      have hu : u = v := Option.some.inj (Option.some.inj hv)
      have h2 := g_argsM av 0 i u hc hz
      rw [Nat.zero_add] at h2
      rw [← hu]
      exact ⟨h1.2.2 (i, u) h2, hc u (List.mem_of_getElem? hz)⟩
  · rw [List.getElem?_append_right (by rw [List.length_map]; omega), List.getElem?_replicate] at hv
    split at hv <;> cases hv
theorem gM.of {own : String} {l : Launch} {s0 : State} {D : va_G} {cy : Nat → ClassId} {y : MethodName} {cc : ByteArray} {maxL : Nat} {ret : Option FieldType} {d mc ms : Nat} {av : List Value} {L : List Nat} {f : gF} {Qr : Option Value → List Nat → gF → Prop} (hE : gE s0 D cy) (hl : l.stackTraces = false) (hy : plainName y.cls = true) (hown : y.cls = own) (hav : (av.all fun v => v.category == 1) = true) (hlen : av.length ≤ maxL)
    (body : ∀ (p : Program) (e : Env) (s : State) (m : MethodId) (args : Array Value) (below : List Frame) (meth : Method) (c : Code), gC p l e (gRm d mc ms) s m args below meth c s0 D cy L cc maxL own → meth.sig.returnType = ret → meth.name = y.name →
      G p l e (gRm d mc ms) s m args below meth c (MQ below (gQc D L s.heap.size Qr) args s mc ms (gA L s.heap.size)) D L maxL L f 0 0 0 (gEn av maxL) []) : gM l s0 D y cc maxL ret d mc ms av L f Qr := by
  intro sz
  refine Met.ofW (cc := cc) (maxL := maxL) (ret := ret) hy rfl ?_
  intro p e s m args below meth c s₁ B hml hv
  obtain ⟨rfl, hsz, hP, hD, hW⟩ := hv
  subst hsz
  rw [lg_entry_eq]
  have hav : ∀ v ∈ av, v.category = 1 := fun v hv => by simpa using List.all_eq_true.mp hav v hv
  subst hown
  exact body p e s m _ below meth c ⟨B.exec, B.bytes, hml, findClass_of_methodNamed B.named, B.notSynchronized, hE, hW, hl⟩ B.returns (name_of_methodNamed B.named B.method).1 s.heap [] _ hP (hD.weaken (fun k q hk _ => Or.inl (by
    obtain ⟨a, ha, e⟩ := List.mem_map.mp (List.mem_of_getElem? hk)
    rw [← e]; exact ha))) va_S.rf (gL.entry hav hlen)
theorem gX.of {own : String} {l : Launch} {s0 : State} {D : va_G} {cy : Nat → ClassId} {y : MethodName} {cc : ByteArray} {maxL : Nat} {ret : Option FieldType} {d mc ms : Nat} {av : List Value} {L : List Nat} {f : gF} {Qr : Option Value → List Nat → gF → Prop} {PX : String → Prop} (hE : gE s0 D cy) (hl : l.stackTraces = false) (hy : plainName y.cls = true) (hown : y.cls = own) (hav : (av.all fun v => v.category == 1) = true) (hlen : av.length ≤ maxL)
    (body : ∀ (p : Program) (e : Env) (s : State) (m : MethodId) (args : Array Value) (below : List Frame) (meth : Method) (c : Code), gC p l e (gRm d mc ms) s m args below meth c s0 D cy L cc maxL own → meth.sig.returnType = ret → (∀ x ∈ c.exceptionTable.toList, False) →
      G p l e (gRm d mc ms) s m args below meth c (vx_MQ below (gQc D L s.heap.size Qr) (gXc D L f s.heap.size PX) args s mc ms (gA L s.heap.size)) D L maxL L f 0 0 0 (gEn av maxL) []) : gX l s0 D y cc maxL ret d mc ms av L f Qr PX := by
  intro sz
  refine vx_ofW (cc := cc) (maxL := maxL) (ret := ret) hy rfl ?_
  intro p e s m args below meth c s₁ B hml ht hv
  obtain ⟨rfl, hsz, hP, hD, hW⟩ := hv
  subst hsz
  rw [lg_entry_eq]
  have hav : ∀ v ∈ av, v.category = 1 := fun v hv => by simpa using List.all_eq_true.mp hav v hv
  subst hown
  exact body p e s m _ below meth c ⟨B.exec, B.bytes, hml, findClass_of_methodNamed B.named, B.notSynchronized, hE, hW, hl⟩ B.returns ht s.heap [] _ hP (hD.weaken (fun k q hk _ => Or.inl (by
    obtain ⟨a, ha, e⟩ := List.mem_map.mp (List.mem_of_getElem? hk)
    rw [← e]; exact ha))) va_S.rf (gL.entry hav hlen)
/-- the words of a call -/
def gwM (y : MethodName) (bytes : ByteArray) (maxL : Nat) (ret : Option FieldType) (n : Nat) : Prop := Cond.code y bytes maxL ret ∈ lw_tbl ∧ Cond.initialized y.cls ∈ lw_tbl ∧ (y.cls ≠ "java/lang/invoke/MethodHandle" ∧ y.cls ≠ "java/lang/invoke/VarHandle") ∧ (parseMethodDescriptor y.desc).map (fun d => d.parameters.length) = some n
def gwL (own : String) (idx : Nat) (y : MethodName) : Prop := Cond.methodLink own idx y ∈ lw_tbl ∨ ∃ host : String, Cond.methodLinkNest own idx y host ∈ lw_tbl
def gwV (y : MethodName) : Prop := Cond.instanceMethod y ∈ lw_tbl ∧ Cond.selects y.cls y y ∈ lw_tbl
def gwI (y : MethodName) : Prop := Cond.instanceMethod y ∈ lw_tbl ∧ y.name = "<init>"
def gwS (y : MethodName) : Prop := Cond.static y ∈ lw_tbl
section GCALL
variable {p : Program} {l : Launch} {e : Env} {R : Room} {s : State} {m : MethodId} {args : Array Value} {below : List Frame} {meth : Method} {c : Code} {Q : State → Prop}
variable {s0 : State} {D : va_G} {cy : Nat → ClassId} {L0 : List Nat} {nL : Nat} {cc : ByteArray} {own : String} {L : List Nat} {f : gF} {ce sl pc n : Nat} {ls : List (Option Value)} {st : List Value}
variable {y : MethodName} {bytes : ByteArray} {maxL idx d9 mc ms : Nat} {ret : Option FieldType} {As rest : List Value} {b : Nat} {Qr : Option Value → List Nat → gF → Prop}
theorem gA_sub {H : Heap} {L0 : List Nat} {z0 : Nat} (hD : va_D (gA L0 z0) (va_pl L f)) (hz : z0 ≤ H.size) : ∀ q, gA L H.size q → gA L0 z0 q := by
  intro q h
  rcases h with h | h
  · obtain ⟨k, hk⟩ := va_pl_get (X := []) (f := f) h
    exact hD.2 k _ hk
  · exact Or.inr (Nat.le_trans hz h)
theorem gPc_blind {av : List Value} {sz : Nat} : FrameBlind (gPc s0 D av L f sz) := fun a U g mk q => q
theorem gPc_at (C : gC p l e R s m args below meth c s0 D cy L0 cc nL own) {H : Heap} {locs : List Loc} (hP : va_P D vwCl (va_pl L f) H) (hD : va_D (gA L0 s.heap.size) (va_pl L f)) (hS : va_S (gA L0 s.heap.size) s.heap H locs) (av : List Value) : ∀ U : State, U.heap = H → s.WarmedH U.vm → gPc s0 D av L f H.size av.toArray U := by
  intro U hU hW
  have hl := C.low
  obtain ⟨-, -, -, -, -, -, ⟨w1, w2, w3, w4⟩, -⟩ := C
  refine ⟨rfl, by rw [hU], by rw [hU]; exact hP, hD.weaken (fun _ _ _ _ => trivial), State.WarmedH.trans w1 hW, by rw [hU]; exact Nat.le_trans w2 hS.1, fun a ha => ?_, fun a ha => ?_⟩
  · rw [hU, hS.2.1 a (Nat.lt_of_lt_of_le ha w2) (fun h => by have := hl a h; omega)]
    exact w3 a ha
  · obtain ⟨k, hk⟩ := va_pl_get (X := []) (f := f) ha
    exact hl a (hD.2 k _ hk)
theorem gB_of (C : gC p l e R s m args below meth c s0 D cy L0 cc nL own) (hm : gwM y bytes maxL ret n) (hl : Cond.methodLink own idx y ∈ lw_tbl) (hR : d9 + 1 ≤ R.frames ∧ 8 + (maxL + 11) + 40 * d9 ≤ R.locals) : CallB R s args own idx y bytes maxL ret [.code y bytes maxL ret] (gRm d9 mc ms) mc ms n := by
  obtain ⟨h1, h2, h3, h4⟩ := hm
  refine ⟨rfl, rfl, hR.1, hR.2, fun w hw a' U hW => ?_, List.mem_singleton.mpr rfl, C.wd h1 rfl args, C.wd h2 rfl args, h3, fun sig h => ?_, C.wd hl rfl args⟩
  · rw [List.mem_singleton.mp hw]
    exact g_word hW rfl (C.wd h1 rfl args)
  · rw [h] at h4
    exact (Option.some.inj h4).symm
theorem gN_of (C : gC p l e R s m args below meth c s0 D cy L0 cc nL own) {host : String} (hm : gwM y bytes maxL ret n) (hl : Cond.methodLinkNest own idx y host ∈ lw_tbl) (hR : d9 + 1 ≤ R.frames ∧ 8 + (maxL + 11) + 40 * d9 ≤ R.locals) : va_CN R s args own idx y host bytes maxL ret [.code y bytes maxL ret] (gRm d9 mc ms) mc ms n := by
  obtain ⟨h1, h2, h3, h4⟩ := hm
  refine ⟨⟨rfl, rfl, hR.1, hR.2, fun w hw a' U hW => ?_, List.mem_singleton.mpr rfl⟩, C.wd h1 rfl args, C.wd h2 rfl args, h3, fun sig h => ?_, va_Nw.use rfl (C.nwM hl)⟩
  · rw [List.mem_singleton.mp hw]
    exact g_word hW rfl (C.wd h1 rfl args)
  · rw [h] at h4
    exact (Option.some.inj h4).symm
theorem gS_join {H H1 : Heap} {locs Lc : List Loc} {L0 : List Nat} {z0 : Nat} {H0 : Heap} (hz0 : z0 = H0.size) (hD : va_D (gA L0 z0) (va_pl L f)) (hS : va_S (gA L0 z0) H0 H locs) (hz : H.size ≤ H1.size) (hk : ∀ q : Nat, q < H.size → ¬ gA L H.size q → H1[q]? = H[q]?) (hL : ∀ q ∈ Lc, gA L H.size q.base) : va_S (gA L0 z0) H0 H1 (locs ++ Lc) := by
  have hs := gA_sub (H := H) hD (by rw [hz0]; exact hS.1)
  refine ⟨Nat.le_trans hS.1 hz, fun q h1 h2 => ?_, fun q hq => ?_⟩
  · rw [hk q (Nat.lt_of_lt_of_le h1 hS.1) (fun h => h2 (hs q h))]
    exact hS.2.1 q h1 h2
  · rcases List.mem_append.mp hq with h | h
    · exact hS.2.2 q h
    · exact hs _ (hL q h)
theorem g_call {a9 : Array Value} (hr : ∀ (H : Heap) (locs : List Loc) (la : Array Slot), va_P D vwCl (va_pl L f) H → va_D (gA L0 s.heap.size) (va_pl L f) → va_S (gA L0 s.heap.size) s.heap H locs → gL la nL ls → va_Run p l e R s m args below meth c H locs ce sl mc ms (F0 m pc la st) rest (gQc D L H.size Qr a9) (gA L H.size)) (hn : pc + 3 = n)
    (kk : ∀ (v : Option Value) (L1 : List Nat) (f1 : gF), Qr v L1 f1 → G p l e R s m args below meth c Q D L0 nL L1 f1 (ce + mc) (sl + ms) n ls (v.toList ++ rest)) : G p l e R s m args below meth c Q D L0 nL L f ce sl pc ls (st) := by
  intro H locs la hP hD hS hl T hT X
  subst hn
  obtain ⟨v, st₀, t, T', Lc, h0, X', hL, e1, e2, ⟨⟨v', L1, f1, hv, hq, hP1, hD1⟩, hz, hk⟩, stp⟩ := hr H locs la hP hD hS hl T hT X
  cases hv
  rw [h0] at hz hk
  have hs := gA_sub (H := H) hD hS.1
  obtain ⟨t2, a1, b1⟩ := kk v L1 f1 hq T'.heap (locs ++ Lc) la (by rw [e1]; exact hP1) (hD1.weaken (fun k q _ h => hs _ h)) (gS_join rfl hD hS (by rw [e1]; exact hz) (fun q h1 h2 => by rw [e1]; exact hk q h1 h2) hL) hl T' rfl X'
  exact ⟨t2, stp t2 a1, b1⟩
theorem g_V (C : gC p l e R s m args below meth c s0 D cy L0 cc nL own) {ci N k9 : Nat} {fs : List Value} {T9 : u_T} (hM : gM l s0 D y bytes maxL ret d9 mc ms (.ref b :: As) L f Qr) (d : decode cc pc = .ok (.invokevirtual idx, 3)) (hm : gwM y bytes maxL ret k9) (hl9 : gwL own idx y) (hv : gwV y) (hb : gH L f b (.inr (ci, fs))) (hc : vwCl[ci]? = some (y.cls, T9, N)) (hk9 : As.length = k9) (hst : st = As.reverse ++ .ref b :: rest) (hrm : (rest.map fun v => v.category).sum ≤ 8) (hR : d9 + 1 ≤ R.frames ∧ 8 + (maxL + 11) + 40 * d9 ≤ R.locals) (hR2 : ce + mc ≤ R.cells ∧ sl + ms ≤ R.slots) (hn : pc + 3 = n)
    (kk : ∀ (v : Option Value) (L1 : List Nat) (f1 : gF), Qr v L1 f1 → G p l e R s m args below meth c Q D L0 nL L1 f1 (ce + mc) (sl + ms) n ls (v.toList ++ rest)) : G p l e R s m args below meth c Q D L0 nL L f ce sl pc ls (st) := by
  refine g_call (a9 := (Value.ref b :: As).toArray) (fun H locs la hP hD hS hl => ?_) hn kk
  subst hst
  obtain ⟨q0, hq⟩ := gp_at (X := []) (D9 := D) (H := H) hb
  rcases hl9 with h9 | ⟨host, h9⟩
  · exact va_runV (Ts := []) ⟨C.1, C.2.1, C.2.2.1, C.2.2.2.1, fun w h => by cases h⟩ (hM H.size) ⟨gB_of C hm h9 hR, C.wd hv.1 rfl args, C.wd hv.2 rfl args⟩ ⟨gPc_blind, va_recv C.K hP hc hq, gPc_at C hP hD hS _⟩ rfl hk9 hl.1 rfl (lv_room hrm) d hR2
  · exact va_runVN (Ts := []) ⟨C.1, C.2.1, C.2.2.1, C.2.2.2.1, fun w h => by cases h⟩ (hM H.size) ⟨gN_of C hm h9 hR, C.wd hv.1 rfl args, C.wd hv.2 rfl args⟩ ⟨gPc_blind, va_recv C.K hP hc hq, gPc_at C hP hD hS _⟩ rfl hk9 hl.1 rfl (lv_room hrm) d hR2
theorem g_S (C : gC p l e R s m args below meth c s0 D cy L0 cc nL own) {k9 : Nat} (hM : gM l s0 D y bytes maxL ret d9 mc ms As L f Qr) (d : decode cc pc = .ok (.invokestatic idx, 3)) (hm : gwM y bytes maxL ret k9) (hl9 : gwL own idx y) (hv : gwS y) (hk9 : As.length = k9) (hst : st = As.reverse ++ rest) (hrm : (rest.map fun v => v.category).sum ≤ 8) (hR : d9 + 1 ≤ R.frames ∧ 8 + (maxL + 11) + 40 * d9 ≤ R.locals) (hR2 : ce + mc ≤ R.cells ∧ sl + ms ≤ R.slots) (hn : pc + 3 = n)
    (kk : ∀ (v : Option Value) (L1 : List Nat) (f1 : gF), Qr v L1 f1 → G p l e R s m args below meth c Q D L0 nL L1 f1 (ce + mc) (sl + ms) n ls (v.toList ++ rest)) : G p l e R s m args below meth c Q D L0 nL L f ce sl pc ls (st) := by
  refine g_call (a9 := As.toArray) (fun H locs la hP hD hS hl => ?_) hn kk
  subst hst
  rcases hl9 with h9 | ⟨host, h9⟩
  · exact va_runS (Ts := []) ⟨C.1, C.2.1, C.2.2.1, C.2.2.2.1, fun w h => by cases h⟩ (hM H.size) ⟨gB_of C hm h9 hR, C.wd hv rfl args⟩ ⟨gPc_blind, gPc_at C hP hD hS _⟩ rfl hk9 hl.1 rfl (lv_room hrm) d hR2
  · exact va_runSN (Ts := []) ⟨C.1, C.2.1, C.2.2.1, C.2.2.2.1, fun w h => by cases h⟩ (hM H.size) ⟨gN_of C hm h9 hR, C.wd hv rfl args, trivial⟩ ⟨gPc_blind, gPc_at C hP hD hS _⟩ rfl hk9 hl.1 rfl (lv_room hrm) d hR2
theorem g_I (C : gC p l e R s m args below meth c s0 D cy L0 cc nL own) {k9 : Nat} (hM : gM l s0 D y bytes maxL none d9 mc ms (.ref b :: As) L f Qr) (d : decode cc pc = .ok (.invokespecial idx, 3)) (hm : gwM y bytes maxL none k9) (hl9 : gwL own idx y) (hv : gwI y) (hk9 : As.length = k9) (hst : st = As.reverse ++ .ref b :: rest) (hrm : (rest.map fun v => v.category).sum ≤ 8) (hR : d9 + 1 ≤ R.frames ∧ 8 + (maxL + 11) + 40 * d9 ≤ R.locals) (hR2 : ce + mc ≤ R.cells ∧ sl + ms ≤ R.slots) (hn : pc + 3 = n)
    (kk : ∀ (v : Option Value) (L1 : List Nat) (f1 : gF), Qr v L1 f1 → G p l e R s m args below meth c Q D L0 nL L1 f1 (ce + mc) (sl + ms) n ls (v.toList ++ rest)) : G p l e R s m args below meth c Q D L0 nL L f ce sl pc ls (st) := by
  refine g_call (a9 := (Value.ref b :: As).toArray) (fun H locs la hP hD hS hl => ?_) hn kk
  subst hst
  rcases hl9 with h9 | ⟨host, h9⟩
  · exact va_runI (Ts := []) ⟨C.1, C.2.1, C.2.2.1, C.2.2.2.1, fun w h => by cases h⟩ (hM H.size) ⟨gB_of C hm h9 hR, hv.2, C.wd hv.1 rfl args⟩ ⟨gPc_blind, gPc_at C hP hD hS _⟩ rfl hk9 hl.1 rfl (lv_room hrm) d hR2
  · exact va_runIN (Ts := []) ⟨C.1, C.2.1, C.2.2.1, C.2.2.2.1, fun w h => by cases h⟩ (hM H.size) ⟨gN_of C hm h9 hR, hv.2, C.wd hv.1 rfl args⟩ ⟨gPc_blind, gPc_at C hP hD hS _⟩ rfl hk9 hl.1 rfl (lv_room hrm) d hR2

theorem g_iret (C : gC p l e R s m args below meth c s0 D cy L0 cc nL own) {v : Int32} (hr : meth.sig.returnType = some .int) (d : decode cc pc = .ok (.ireturn, 1)) (hQ : Qr (some (.int v)) L f) (hc : ce ≤ mc ∧ sl ≤ ms) : G p l e R s m args below meth c (MQ below (gQc D L0 s.heap.size Qr) args s mc ms (gA L0 s.heap.size)) D L0 nL L f ce sl pc ls [.int v] := by
  intro H locs la hP hD hS hl
  refine W.widen hc.1 hc.2 ?_
  exact W.iret C.1 C.2.1 hr (fun t ht hW => ⟨⟨_, L, f, rfl, hQ, by rw [ht]; exact hP, hD⟩, hS.F ht⟩) hS.2.2 d C.2.2.2.2.1
theorem g_zret (C : gC p l e R s m args below meth c s0 D cy L0 cc nL own) {v : Int32} (hr : meth.sig.returnType = some .boolean) (hz : narrow .boolean (.int v) = .int v) (d : decode cc pc = .ok (.ireturn, 1)) (hQ : Qr (some (.int v)) L f) (hc : ce ≤ mc ∧ sl ≤ ms) : G p l e R s m args below meth c (MQ below (gQc D L0 s.heap.size Qr) args s mc ms (gA L0 s.heap.size)) D L0 nL L f ce sl pc ls [.int v] := by
  intro H locs la hP hD hS hl
  refine W.widen hc.1 hc.2 ?_
  exact W.zret C.1 C.2.1 hr hz (fun t ht hW => ⟨⟨_, L, f, rfl, hQ, by rw [ht]; exact hP, hD⟩, hS.F ht⟩) hS.2.2 d C.2.2.2.2.1
theorem g_vret (C : gC p l e R s m args below meth c s0 D cy L0 cc nL own) (hr : meth.sig.returnType = none) (d : decode cc pc = .ok (.return_, 1)) (hQ : Qr none L f) (hc : ce ≤ mc ∧ sl ≤ ms) : G p l e R s m args below meth c (MQ below (gQc D L0 s.heap.size Qr) args s mc ms (gA L0 s.heap.size)) D L0 nL L f ce sl pc ls [] := by
  intro H locs la hP hD hS hl
  refine W.widen hc.1 hc.2 ?_
  exact W.vret C.1 C.2.1 hr (fun t ht hW => ⟨⟨_, L, f, rfl, hQ, by rw [ht]; exact hP, hD⟩, hS.F ht⟩) hS.2.2 d C.2.2.2.2.1
theorem g_aret (C : gC p l e R s m args below meth c s0 D cy L0 cc nL own) {o : Option Nat} {rt : FieldType} (hr : meth.sig.returnType = some rt) (hrt : (∃ n, rt = .object n) ∨ ∃ t, rt = .array t) (d : decode cc pc = .ok (.areturn, 1)) (hQ : Qr (some (va_rf o)) L f) (hc : ce ≤ mc ∧ sl ≤ ms) : G p l e R s m args below meth c (MQ below (gQc D L0 s.heap.size Qr) args s mc ms (gA L0 s.heap.size)) D L0 nL L f ce sl pc ls [va_rf o] := by
  intro H locs la hP hD hS hl
  refine W.widen hc.1 hc.2 ?_
  exact W.aret C.1 C.2.1 hr hrt (va_rf_or o) (fun t ht hW => ⟨⟨_, L, f, rfl, hQ, by rw [ht]; exact hP, hD⟩, hS.F ht⟩) hS.2.2 d C.2.2.2.2.1
variable {f0 : gF} {PX PX9 : String → Prop} {mc9 ms9 : Nat}
theorem G.x (k : G p l e R s m args below meth c (MQ below (gQc D L0 s.heap.size Qr) args s mc ms (gA L0 s.heap.size)) D L0 nL L f ce sl pc ls st) : G p l e R s m args below meth c (vx_MQ below (gQc D L0 s.heap.size Qr) (gXc D L0 f0 s.heap.size PX) args s mc ms (gA L0 s.heap.size)) D L0 nL L f ce sl pc ls st := fun H locs la hP hD hS hl => vx_ret (k H locs la hP hD hS hl)
theorem g_callX {a9 : Array Value} {Qr9 : Option Value → List Nat → gF → Prop} (C : gC p l e R s m args below meth c s0 D cy L0 cc nL own) (hno : ∀ x ∈ c.exceptionTable.toList, False) (hr : ∀ (H : Heap) (locs : List Loc) (la : Array Slot), va_P D vwCl (va_pl L0 f0) H → va_D (gA L0 s.heap.size) (va_pl L0 f0) → va_S (gA L0 s.heap.size) s.heap H locs → gL la nL ls → vx_Run p l e R s m args below meth c H locs ce sl mc9 ms9 (F0 m pc la st) rest (gQc D L0 H.size Qr9 a9) (gXc D L0 f0 H.size PX9) (gA L0 H.size)) (hn : pc + 3 = n) (hpx : ∀ E, PX9 E → PX E) (hc : ce + mc9 ≤ mc ∧ sl + ms9 ≤ ms)
    (kk : ∀ (v : Option Value) (L1 : List Nat) (f1 : gF), Qr9 v L1 f1 → G p l e R s m args below meth c (vx_MQ below (gQc D L0 s.heap.size Qr) (gXc D L0 f0 s.heap.size PX) args s mc ms (gA L0 s.heap.size)) D L0 nL L1 f1 (ce + mc9) (sl + ms9) n ls (v.toList ++ rest)) : G p l e R s m args below meth c (vx_MQ below (gQc D L0 s.heap.size Qr) (gXc D L0 f0 s.heap.size PX) args s mc ms (gA L0 s.heap.size)) D L0 nL L0 f0 ce sl pc ls st := by
  intro H locs la hP hD hS hl T hT X
  subst hn
  have hs := gA_sub (H := H) hD hS.1
  rcases hr H locs la hP hD hS hl T hT X with ⟨v, st₀, t, T', Lc, h0, X', hL, e1, e2, ⟨⟨v', L1, f1, hv, hq, hP1, hD1⟩, hz, hk⟩, stp⟩ | ⟨q, st₀, t, T', Lc, E, ce9, h0, X', hL, e1, e2, ⟨hpe, hP1, hD1, hz, hk⟩, hce, hcv, hcl, stp⟩
  · cases hv
    rw [h0] at hz hk
    obtain ⟨t2, a1, b1⟩ := kk v L1 f1 hq T'.heap (locs ++ Lc) la (by rw [e1]; exact hP1) (hD1.weaken (fun k q _ h => hs _ h)) (gS_join rfl hD hS (by rw [e1]; exact hz) (fun q h1 h2 => by rw [e1]; exact hk q h1 h2) hL) hl T' rfl X'
    exact ⟨t2, stp t2 a1, b1⟩
  · rw [h0] at hz hk
    have hS1 : va_S (gA L0 s.heap.size) s.heap t.heap (locs ++ Lc) := gS_join rfl hD hS hz hk hL
    have hvx := vx_out (p := p) (l := l) (e := e) (R := R) (s := s) (m := m) (args := args) (below := below) (meth := meth) (c := c) (H := t.heap) (locs := locs ++ Lc) (cells := ce + mc9) (slots := sl + ms9) (Qc := gQc D L0 s.heap.size Qr) (XC := gXc D L0 f0 s.heap.size PX) (free := gA L0 s.heap.size) (ls := la) (rest := rest) (pc := pc) (E := E) (ce := ce9) (q := q) (mc := mc) (ms := ms)
      (fun x hx => (hno x hx).elim) C.2.2.2.2.1 hce hcv hcl (fun t9 ht9 _ => ⟨hpx E hpe, by rw [ht9]; exact hP1, hD1.weaken (fun k q _ h => hs _ h), hS1.F ht9⟩) hS1.2.2 hc.1 hc.2
    obtain ⟨t2, a1, b1⟩ := hvx T' e1 X'
    exact ⟨t2, stp.trans a1, b1⟩
theorem g_VX (C : gC p l e R s m args below meth c s0 D cy L0 cc nL own) {Qr9 : Option Value → List Nat → gF → Prop} {ci N k9 : Nat} {fs : List Value} {T9 : u_T} (hno : ∀ x ∈ c.exceptionTable.toList, False) (hM : gX l s0 D y bytes maxL ret d9 mc9 ms9 (.ref b :: As) L0 f0 Qr9 PX9) (d : decode cc pc = .ok (.invokevirtual idx, 3)) (hm : gwM y bytes maxL ret k9) (hl9 : Cond.methodLink own idx y ∈ lw_tbl) (hv : gwV y) (hb : gH L0 f0 b (.inr (ci, fs))) (hcl : vwCl[ci]? = some (y.cls, T9, N)) (hk9 : As.length = k9) (hst : st = As.reverse ++ .ref b :: rest) (hrm : (rest.map fun v => v.category).sum ≤ 8) (hR : d9 + 1 ≤ R.frames ∧ 8 + (maxL + 11) + 40 * d9 ≤ R.locals) (hR2 : ce + mc9 ≤ R.cells ∧ sl + ms9 ≤ R.slots) (hn : pc + 3 = n) (hpx : ∀ E, PX9 E → PX E) (hc : ce + mc9 ≤ mc ∧ sl + ms9 ≤ ms)
    (kk : ∀ (v : Option Value) (L1 : List Nat) (f1 : gF), Qr9 v L1 f1 → G p l e R s m args below meth c (vx_MQ below (gQc D L0 s.heap.size Qr) (gXc D L0 f0 s.heap.size PX) args s mc ms (gA L0 s.heap.size)) D L0 nL L1 f1 (ce + mc9) (sl + ms9) n ls (v.toList ++ rest)) : G p l e R s m args below meth c (vx_MQ below (gQc D L0 s.heap.size Qr) (gXc D L0 f0 s.heap.size PX) args s mc ms (gA L0 s.heap.size)) D L0 nL L0 f0 ce sl pc ls st := by
  refine g_callX (a9 := (Value.ref b :: As).toArray) C hno (fun H locs la hP hD hS hl => ?_) hn hpx hc kk
  subst hst
  obtain ⟨q0, hq⟩ := gp_at (X := []) (D9 := D) (H := H) hb
  exact vx_runV (Ts := []) ⟨C.1, C.2.1, C.2.2.1, C.2.2.2.1, fun w h => by cases h⟩ (hM H.size) ⟨gB_of C hm hl9 hR, C.wd hv.1 rfl args, C.wd hv.2 rfl args⟩ ⟨gPc_blind, va_recv C.K hP hcl hq, gPc_at C hP hD hS _⟩ rfl hk9 hl.1 rfl (lv_room hrm) d hR2
theorem g_SX (C : gC p l e R s m args below meth c s0 D cy L0 cc nL own) {Qr9 : Option Value → List Nat → gF → Prop} {k9 : Nat} (hno : ∀ x ∈ c.exceptionTable.toList, False) (hM : gX l s0 D y bytes maxL ret d9 mc9 ms9 As L0 f0 Qr9 PX9) (d : decode cc pc = .ok (.invokestatic idx, 3)) (hm : gwM y bytes maxL ret k9) (hl9 : Cond.methodLink own idx y ∈ lw_tbl) (hv : gwS y) (hk9 : As.length = k9) (hst : st = As.reverse ++ rest) (hrm : (rest.map fun v => v.category).sum ≤ 8) (hR : d9 + 1 ≤ R.frames ∧ 8 + (maxL + 11) + 40 * d9 ≤ R.locals) (hR2 : ce + mc9 ≤ R.cells ∧ sl + ms9 ≤ R.slots) (hn : pc + 3 = n) (hpx : ∀ E, PX9 E → PX E) (hc : ce + mc9 ≤ mc ∧ sl + ms9 ≤ ms)
    (kk : ∀ (v : Option Value) (L1 : List Nat) (f1 : gF), Qr9 v L1 f1 → G p l e R s m args below meth c (vx_MQ below (gQc D L0 s.heap.size Qr) (gXc D L0 f0 s.heap.size PX) args s mc ms (gA L0 s.heap.size)) D L0 nL L1 f1 (ce + mc9) (sl + ms9) n ls (v.toList ++ rest)) : G p l e R s m args below meth c (vx_MQ below (gQc D L0 s.heap.size Qr) (gXc D L0 f0 s.heap.size PX) args s mc ms (gA L0 s.heap.size)) D L0 nL L0 f0 ce sl pc ls st := by
  refine g_callX (a9 := As.toArray) C hno (fun H locs la hP hD hS hl => ?_) hn hpx hc kk
  subst hst
  exact vx_runS (Ts := []) ⟨C.1, C.2.1, C.2.2.1, C.2.2.2.1, fun w h => by cases h⟩ (hM H.size) ⟨gB_of C hm hl9 hR, C.wd hv rfl args⟩ ⟨gPc_blind, gPc_at C hP hD hS _⟩ rfl hk9 hl.1 rfl (lv_room hrm) d hR2
theorem gC.zq (C : gC p l e R s m args below meth c s0 D cy L0 cc nL own) : vx_Zq Bundle.tN "UNASSIGNED_STACK" Bundle.steD (gA L0 s.heap.size) s s.heap ∧ vx_Zq Bundle.tN "SUPPRESSED_SENTINEL" Bundle.listD (gA L0 s.heap.size) s s.heap := by
  have hl := C.low
  obtain ⟨-, -, -, -, -, ⟨-, -, ⟨z1, z2⟩, -⟩, ⟨w1, w2, w3, w4⟩, -⟩ := C
  have mv : ∀ {n d : String}, vx_Zq Bundle.tN n d (fun q => s0.heap.size ≤ q) s0 s0.heap → vx_Zq Bundle.tN n d (gA L0 s.heap.size) s s.heap := fun z => ((z.moved w1.alike).kept (fun a ha _ => w3 a ha)).narrow (fun q h => hl q h)
  exact ⟨mv z1, mv z2⟩
theorem g_throw (C : gC p l e R s m args below meth c s0 D cy L0 cc nL own) {ik is ic : Nat} {cls text : String} {names : List String} (hno : ∀ x ∈ c.exceptionTable.toList, False) (hcls : Bundle.fit cls = true) (hnames : ∀ n ∈ names, Bundle.fit n = true) (w1 : Cond.classLink own ik cls ∈ lw_tbl) (w2 : Cond.initialized cls ∈ lw_tbl) (w3 : Cond.stringRef own is text ∈ lw_tbl) (hat : ∀ w ∈ vx_atS own ic cls names, w ∈ lw_tbl ∧ (w.onTables && w.keepsFace) = true)
    (d0 : decode cc pc = .ok (.new ik, 3)) (d3 : decode cc (pc + 3) = .ok (.dup, 1)) (d4 : decode cc (pc + 4) = .ok (.ldc is, 2)) (d6 : decode cc (pc + 6) = .ok (.invokespecial ic, 3)) (d9 : decode cc (pc + 9) = .ok (.athrow, 1))
    (hR : names.length + 3 < R.frames ∧ (st.map fun v => v.category).sum + (13 * (names.length + 1) + 43) ≤ R.locals ∧ ce + 1 ≤ R.cells ∧ sl + 6 ≤ R.slots) (hpx : PX cls) (hc : ce + 1 ≤ mc ∧ sl + 6 ≤ ms) : G p l e R s m args below meth c (vx_MQ below (gQc D L0 s.heap.size Qr) (gXc D L0 f0 s.heap.size PX) args s mc ms (gA L0 s.heap.size)) D L0 nL L0 f0 ce sl pc ls st := by
  intro H locs la hP hD hS hl
  obtain ⟨sa, hsa⟩ : ∃ a : Nat, vk_R own is text a s := by
    obtain ⟨-, -, -, -, -, ⟨-, -, -, h4⟩, ⟨hW, -⟩, -⟩ := C
    obtain ⟨a, ha⟩ := h4 own is text w3
    exact ⟨a, ha.warm hW⟩
  have ot : ∀ w : Cond, (w.onTables && w.keepsFace) = true → vx_ot w = true := fun w h => by
    rw [Bool.and_eq_true] at h
    simp [vx_ot, h.1]
  refine vx_throwS C.1 C.2.1 C.2.2.2.2.2.2.2 C.2.2.2.1 hcls hnames (C.wd w1 rfl args) (C.wd w2 rfl args) hsa (fun w hw => C.wd (hat w hw).1 (hat w hw).2 args) (fun w hw => ?_) C.zq.1 C.zq.2 hS (by rw [C.2.2.1]; exact hl.1) d0 d3 d4 d6 d9 (fun x hx => (hno x hx).elim) hR.1 hR.2.1 hR.2.2.1 hR.2.2.2 C.2.2.2.2.1 (fun t hvm hz hk => ?_) hS.2.2 hc.1 hc.2
  · rcases List.mem_cons.mp hw with rfl | hw
    · exact ot _ rfl
    · rcases List.mem_cons.mp hw with rfl | hw
      · exact ot _ rfl
      · exact ot w (hat w hw).2
  · refine ⟨hpx, hP.kept (fun k q hq => hk q.1 (hP k q hq).lt), hD, Nat.le_trans hS.1 hz, fun q h1 h2 => ?_⟩
    rw [hk q (Nat.lt_of_lt_of_le h1 hS.1)]
    exact hS.2.1 q h1 h2
end GCALL
end
section
/-- an array of arrays can be made -/
def va_AOA (ty : FieldType) (U : State) : Prop := (Cond.arrayOver (.array ty)).before #[] U = true
theorem va_AOA.use {ty : FieldType} {A : Array Value} {U : State} (h : va_AOA ty U) : (Cond.arrayOver (.array ty)).before A U = true := h
/-! ===== BEGIN new T[n][m]: the outer array a place, the inner ones among the pooled ===== -/
/-- f, but v at every address of l -/
def vr_up {α : Type} (f : Nat → α) (l : List Nat) (v : α) : Nat → α := fun a => if a ∈ l then v else f a
theorem vr_up_in {α : Type} {f : Nat → α} {l : List Nat} {v : α} {a : Nat} (h : a ∈ l) : vr_up f l v a = v := if_pos h
theorem vr_up_ne {α : Type} {f : Nat → α} {l : List Nat} {v : α} {a : Nat} (h : a ∉ l) : vr_up f l v a = f a := if_neg h
theorem vr_rows {L l : List Nat} {f : Nat → va_E} {e : va_E} (h : ∀ a, a ∈ l → a ∉ L) : va_pl L f ++ l.map (fun a => (a, e)) = va_pl (L ++ l) (vr_up f l e) := by
  unfold va_pl
  rw [List.map_append]
  congr 1
  · apply List.map_congr_left
    intro a ha
    rw [vr_up_ne (fun q => h a q ha)]
  · apply List.map_congr_left
    intro a ha
    rw [vr_up_in ha]
theorem vr_lay {X rows : va_W} {x : Nat × va_E} {pl : va_W} {D : va_G} {cl : List vw_C} {H : Heap} (hP : va_P D cl (((X ++ pl) ++ [x]) ++ rows) H) : va_P D cl ((X ++ [x]) ++ (pl ++ rows)) H := by
  rw [List.append_assoc (X ++ pl)] at hP
  have h := va_P.swap hP
  rw [← List.append_assoc X] at h
  have h2 := va_P.swap h
  rw [List.append_assoc (X ++ [x])] at h2
  exact h2
theorem vr_layD {X rows : va_W} {x : Nat × va_E} {pl : va_W} {A : Nat → Prop} (hD : va_D A (((X ++ pl) ++ [x]) ++ rows)) : va_D A ((X ++ [x]) ++ (pl ++ rows)) := by
  rw [List.append_assoc (X ++ pl)] at hD
  have h := va_D.swap hD
  rw [← List.append_assoc X] at h
  have h2 := va_D.swap h
  rw [List.append_assoc (X ++ [x])] at h2
  exact h2
theorem vr_outer (c : ClassId) (N h0 : Nat) : ∀ i : Nat, Jvm.Free.Multi.outerC c N h0 i = arrV c N (fun j => va_rf (if j < i then some (h0 + 1 + j) else none))
  | 0 => by
    show ({ cls := c, slots := Array.replicate N .null, vm := .none } : Cell) = _
    rw [arrV_new]
    refine congrArg (arrV c N) (funext fun j => ?_)
    simp [va_rf]
  | i + 1 => by
    show (Jvm.Free.Multi.outerC c N h0 i).setSlot i (.ref (h0 + 1 + i)) = _
    rw [vr_outer c N h0 i, arrV_store]
    refine congrArg (arrV c N) (funext fun j => ?_)
    by_cases e : j = i
    · subst e
      simp [updV, va_rf]
    · by_cases h : j < i
      · simp [updV, e, h, Nat.lt_succ_of_lt h]
      · simp [updV, e, h, show ¬ j < i + 1 by omega]
section VGM
variable {p : Program} {l : Launch} {e : Env} {R : Room} {s : State} {m : MethodId} {args : Array Value} {below : List Frame} {meth : Method} {c : Code} {H : Heap} {locs : List Loc} {cells slots : Nat} {Q : State → Prop}
variable {cc : ByteArray} {pc : Nat} {ls : Array Slot} {rest : List Value} {D : va_G} {cl : List vw_C} {A : Nat → Prop} {a : Nat} {tys : List (ClassId × FieldType)} {ws : va_W} {H0 : Heap}
theorem va_mna {X : va_W} {L : List Nat} {f : Nat → va_E} {cc : ByteArray} (hexec : p.tables.exec = Jvm.exec) (hb : c.code = cc) {own : String} {index : Nat} {ty : FieldType} {cy : ClassId} (hown : s.vm.findClass own = some m.cls) (hclink : (Cond.classLink own index ("[" ++ (FieldType.array ty).toString)).before args s = true) (hover : va_AOA ty s) (harr : (Cond.arrayClass ty).before args s = true) (hcy : s.vm.findClass (FieldType.array ty).toString = some cy)
    (hK : va_K D cl tys s) (hP : va_P D cl (X ++ va_pl L f) H) (hD : va_D A (X ++ va_pl L f)) (hS : va_S A H0 H locs) (hA : ∀ q, H0.size ≤ q → A q) {n k : Int32} {N' K' : Nat} {z : vp_A} (hn : ¬ n < 0) (hk : ¬ k < 0) (hN : n.toNatClampNeg = N') (hM : k.toNatClampNeg = K')
    (hb1 : N' * 4 ≤ 536870912) (hb2 : K' * componentBytes ty ≤ 536870912) (hb3 : K' ≤ 536870912) (hdf : fits ty (defaultValue ty) = true) (hdd : (defaultValue ty).isDefault = true) (hcells : cells + (1 + N') ≤ R.cells) (hslots : slots + (N' + N' * K') ≤ R.slots) (hz : ∀ c : ClassId, Jvm.Free.Multi.innerC c K' (defaultValue ty) = vp_cell c z) (hdg : decode cc pc = .ok (.multianewarray index 2, 4))
    (kk : ∀ (q : Nat) (r : Nat → Nat) (cA : ClassId) (H1 : Heap), (∀ i j : Nat, i < N' → j < N' → r i = r j → i = j) → (∀ i : Nat, i < N' → r i ∉ L) → va_K D cl (tys ++ [(cA, .array ty)]) s →
      va_P D cl ((X ++ [(q, .inl (cA, N', .inr (.inr (.inr (.inr (fun i => if i < N' then some (r i) else none))))))]) ++ va_pl (L ++ (List.range N').map r) (vr_up f ((List.range N').map r) (.inl (cy, z)))) H1 → va_D A ((X ++ [(q, .inl (cA, N', .inr (.inr (.inr (.inr (fun i => if i < N' then some (r i) else none))))))]) ++ va_pl (L ++ (List.range N').map r) (vr_up f ((List.range N').map r) (.inl (cy, z)))) → va_S A H0 H1 locs →
      W p l e R s m args below meth c H1 locs (cells + 1 + N') (slots + N' + N' * K') Q (F0 m (pc + 4) ls (.ref q :: rest))) : W p l e R s m args below meth c H locs cells slots Q (F0 m pc ls (.int k :: .int n :: rest)) := by
  subst hN
  subst hM
  intro T hT Xs
  obtain ⟨vm₁, cA, comp, -, fA, fC, hO, -, X', step⟩ := Xs.multianewarray2F hexec hown hclink (va_AOA.use hover) harr (g := F0 m pc ls (.int k :: .int n :: rest)) rfl (by rw [hb]; exact hdg) rfl hn hk hb1 hb2 hb3 hdf hdd hcells hslots
  have ec : some cy = some comp := hcy.symm.trans fC
  cases ec
  generalize hF : Jvm.Free.Multi.fill (T.setVm vm₁) cA cy n.toNatClampNeg k.toNatClampNeg (defaultValue ty) n.toNatClampNeg = F at X' step
  have hTh : (T.setVm vm₁).heap = H := hT
  obtain ⟨f1, f2, -, -⟩ := Jvm.Free.Multi.fill_facts (T.setVm vm₁) cA cy n.toNatClampNeg k.toNatClampNeg (defaultValue ty) n.toNatClampNeg
  rw [hF, hTh] at f1 f2
  have hold : ∀ x : Nat, x < H.size → F.heap[x]? = H[x]? := fun x hx => by
    have := Jvm.Free.Multi.fill_old (T.setVm vm₁) cA cy n.toNatClampNeg k.toNatClampNeg (defaultValue ty) (a := x) (by rw [hTh]; exact hx) n.toNatClampNeg
    rw [hF, hTh] at this
    exact this
  have hrow : ∀ j : Nat, j < n.toNatClampNeg → F.heap[H.size + 1 + j]? = some (vp_cell cy z) := fun j hj => by
    have := Jvm.Free.Multi.fill_inner (T.setVm vm₁) cA cy n.toNatClampNeg k.toNatClampNeg (defaultValue ty) n.toNatClampNeg j hj
    rw [hF, hTh, hz] at this
    exact this
  have hout : Jvm.Free.Multi.outerC cA n.toNatClampNeg H.size n.toNatClampNeg = vp_cell cA (n.toNatClampNeg, .inr (.inr (.inr (.inr (fun i => if i < n.toNatClampNeg then some (H.size + 1 + i) else none))))) := by
    rw [vp_cell_q]
    exact vr_outer cA n.toNatClampNeg H.size n.toNatClampNeg
  rw [hout] at f2
  have hlt : ∀ a, a ∈ L → a < H.size := fun a ha => by
    obtain ⟨k9, hk9⟩ := va_pl_get (X := X) (f := f) ha
    exact (hP k9 _ hk9).lt
  have hnl : ∀ i : Nat, i < n.toNatClampNeg → H.size + 1 + i ∉ L := fun i _ h => by
    have := hlt _ h
    omega
  have hnm : ∀ a, a ∈ (List.range n.toNatClampNeg).map (fun i => H.size + 1 + i) → a ∉ L := fun a ha h => by
    obtain ⟨i, -, rfl⟩ := List.mem_map.mp ha
    have := hlt _ h
    omega
  have hP0 : va_P D cl (X ++ va_pl L f) F.heap := hP.kept (fun k9 x hx => hold x.1 ((hP k9 x hx).lt))
  have hP1 : va_P D cl ((X ++ va_pl L f) ++ [(H.size, .inl (cA, n.toNatClampNeg, .inr (.inr (.inr (.inr (fun i => if i < n.toNatClampNeg then some (H.size + 1 + i) else none))))))]) F.heap := hP0.app (fun k9 x hx => by
    have h0 : k9 < 1 := (List.getElem?_eq_some_iff.mp hx).1
    rw [show k9 = 0 by omega] at hx
    cases hx
    exact f2)
  have hP2 : va_P D cl (((X ++ va_pl L f) ++ [(H.size, .inl (cA, n.toNatClampNeg, .inr (.inr (.inr (.inr (fun i => if i < n.toNatClampNeg then some (H.size + 1 + i) else none))))))]) ++ ((List.range n.toNatClampNeg).map (fun i => H.size + 1 + i)).map (fun a => (a, .inl (cy, z)))) F.heap := hP1.app (fun k9 x hx => by
    obtain ⟨a, ha, rfl⟩ := List.mem_map.mp (List.mem_of_getElem? hx)
    obtain ⟨i, hi, rfl⟩ := List.mem_map.mp ha
    exact hrow i (List.mem_range.mp hi))
  have hD2 : va_D A (((X ++ va_pl L f) ++ [(H.size, .inl (cA, n.toNatClampNeg, .inr (.inr (.inr (.inr (fun i => if i < n.toNatClampNeg then some (H.size + 1 + i) else none))))))]) ++ ((List.range n.toNatClampNeg).map (fun i => H.size + 1 + i)).map (fun a => (a, .inl (cy, z)))) := by
    have hD1 := hD.push (e := .inl (cA, n.toNatClampNeg, .inr (.inr (.inr (.inr (fun i => if i < n.toNatClampNeg then some (H.size + 1 + i) else none)))))) hP rfl (hA _ hS.1)
    generalize hW1 : (X ++ va_pl L f) ++ [(H.size, .inl (cA, n.toNatClampNeg, .inr (.inr (.inr (.inr (fun i => if i < n.toNatClampNeg then some (H.size + 1 + i) else none))))))] = W1 at hD1 hP1 ⊢
    have hle : ∀ (k9 : Nat) (x : Nat × va_E), W1[k9]? = some x → x.1 ≤ H.size := fun k9 x hx => by
      rw [← hW1] at hx
      by_cases hl : k9 < (X ++ va_pl L f).length
      · rw [List.getElem?_append_left hl] at hx
        exact Nat.le_of_lt ((hP k9 x hx).lt)
      · rw [List.getElem?_append_right (by omega)] at hx
        have h0 : k9 - (X ++ va_pl L f).length < 1 := (List.getElem?_eq_some_iff.mp hx).1
        rw [show k9 - (X ++ va_pl L f).length = 0 by omega] at hx
        cases hx
        exact Nat.le_refl _
    have hr : ∀ (k9 : Nat) (x : Nat × va_E), (((List.range n.toNatClampNeg).map (fun i => H.size + 1 + i)).map (fun a => ((a, .inl (cy, z)) : Nat × va_E)))[k9]? = some x → x.1 = H.size + 1 + k9 := fun k9 x hx => by
      rw [List.getElem?_map, List.getElem?_map] at hx
      by_cases h9 : k9 < n.toNatClampNeg
      · rw [List.getElem?_range h9] at hx
        cases hx
        rfl
      · have hn0 : (List.range n.toNatClampNeg)[k9]? = none := List.getElem?_eq_none (by rw [List.length_range]; omega)
        rw [hn0] at hx
        cases hx
    refine ⟨fun i j x y hi hj hxy => ?_, fun k9 x hx => ?_⟩
    · by_cases h1 : i < W1.length <;> by_cases h2 : j < W1.length
      · rw [List.getElem?_append_left h1] at hi
        rw [List.getElem?_append_left h2] at hj
        exact hD1.1 i j x y hi hj hxy
      · rw [List.getElem?_append_left h1] at hi
        rw [List.getElem?_append_right (by omega)] at hj
        have := hle _ _ hi
        have := hr _ _ hj
        omega
      · rw [List.getElem?_append_right (by omega)] at hi
        rw [List.getElem?_append_left h2] at hj
        have := hle _ _ hj
        have := hr _ _ hi
        omega
      · rw [List.getElem?_append_right (by omega)] at hi hj
        have := hr _ _ hi
        have := hr _ _ hj
        omega
    · by_cases h1 : k9 < W1.length
      · rw [List.getElem?_append_left h1] at hx
        exact hD1.2 k9 x hx
      · rw [List.getElem?_append_right (by omega)] at hx
        have := hr _ _ hx
        exact hA _ (by have := hS.1; omega)
  have hAr : ArrOfT s cA (.array ty) := fun N9 z9 => by
    obtain ⟨-, k9, hk9, cm9, hkk9⟩ := (hO 0 0 0).1
    exact ⟨(fun q hq => by cases hq), k9, hk9, cm9, hkk9⟩
  have hK2 : va_K D cl (tys ++ [(cA, .array ty)]) s := ⟨hK.1, fun k9 x hx => by
    by_cases hl : k9 < tys.length
    · rw [List.getElem?_append_left hl] at hx
      exact hK.2 k9 x hx
    · rw [List.getElem?_append_right (by omega)] at hx
      have h0 : k9 - tys.length < 1 := (List.getElem?_eq_some_iff.mp hx).1
      rw [show k9 - tys.length = 0 by omega] at hx
      cases hx
      exact ⟨hAr, fA⟩⟩
  obtain ⟨t, a1, b1⟩ := kk H.size (fun i => H.size + 1 + i) cA F.heap (fun i j _ _ h => by have h9 : H.size + 1 + i = H.size + 1 + j := h; omega) hnl hK2 (by rw [← vr_rows hnm]; exact vr_lay hP2) (by rw [← vr_rows hnm]; exact vr_layD hD2) ⟨by rw [f1]; have := hS.1; omega, fun x h1 h2 => (hold x (Nat.lt_of_lt_of_le h1 hS.1)).trans (hS.2.1 x h1 h2), hS.2.2⟩ F rfl X'
  refine ⟨t, step t ?_, b1⟩
  have e : T.heap.size = H.size := by rw [hT]
  rw [e]
  exact a1
end VGM
/-! ===== END ===== -/
section GMULTI
variable {p : Program} {l : Launch} {e : Env} {R : Room} {s : State} {m : MethodId} {args : Array Value} {below : List Frame} {meth : Method} {c : Code} {Q : State → Prop}
variable {s0 : State} {D : va_G} {cy : Nat → ClassId} {L0 : List Nat} {nL : Nat} {cc : ByteArray} {own : String} {L : List Nat} {f : gF} {ce sl pc n : Nat} {ls : List (Option Value)} {st : List Value}
theorem gC.AOA (C : gC p l e R s m args below meth c s0 D cy L0 cc nL own) {t : FieldType} (w2 : Cond.arrayOver (.array t) ∈ lw_tbl) : va_AOA t s := by
  obtain ⟨-, -, -, -, -, ⟨-, ⟨a0, h9⟩, -⟩, ⟨hW, -⟩, -⟩ := C
  exact Jvm.Stand.arrayOver_alikeB hW.alike (h9 _ w2)
theorem g_mnew (C : gC p l e R s m args below meth c s0 D cy L0 cc nL own) {k1 k2 : Int32} {idx N K : Nat} (d : decode cc pc = .ok (.multianewarray idx 2, 4)) (h1 : k1 = nI N) (h2 : k2 = nI K) (hN : N < 2 ^ 10) (hK9 : K < 2 ^ 10) (w1 : Cond.classLink own idx ("[" ++ (FieldType.array .int).toString) ∈ lw_tbl) (w2 : Cond.arrayOver (.array .int) ∈ lw_tbl) (w3 : Cond.arrayClass .int ∈ lw_tbl) (hR : ce + (1 + N) ≤ R.cells ∧ sl + (N + N * K) ≤ R.slots) (hn : pc + 4 = n)
    (kk : ∀ (q : Nat) (r : Nat → Nat), q ∉ L → (∀ i j : Nat, i < N → j < N → r i = r j → i = j) → (∀ i : Nat, i < N → r i ∉ L ∧ r i ≠ q) → G p l e R s m args below meth c Q D L0 nL ((L ++ (List.range N).map r) ++ [q]) (va_up (vr_up f ((List.range N).map r) (.inl (cy 0, K, .inl (fun _ => 0)))) q (.inl (cy 3, N, .inr (.inr (.inr (.inr (fun i => if i < N then some (r i) else none))))))) (ce + 1 + N) (sl + N + N * K) n ls (.ref q :: st)) : G p l e R s m args below meth c Q D L0 nL L f ce sl pc ls (.int k2 :: .int k1 :: st) := by
  intro H locs la hP hD hS hl
  subst hn
  subst h1
  subst h2
  have b1 : N < 1024 := hN
  have b2 : K < 1024 := hK9
  have c1 : N < 2 ^ 31 := by omega
  have c2 : K < 2 ^ 31 := by omega
  have hcy : s.vm.findClass (FieldType.array .int).toString = some (cy 0) := (C.K.2 0 (cy 0, .int) rfl).2
  refine va_mna (X := []) (z := (K, .inl (fun _ => 0))) C.1 C.2.1 C.2.2.2.1 (C.wd w1 rfl args) (C.AOA w2) (C.wa w3 args) hcy C.K hP hD hS C.new (nI_pos c1) (nI_pos c2) (nI_clamp c1) (nI_clamp c2) (by omega) (by show K * 4 ≤ 536870912; omega) (by omega) rfl rfl hR.1 hR.2 (fun c => by show ({ cls := c, slots := Array.replicate K (.int 0), vm := .none } : Cell) = _; rw [arrV_new]; rfl) d (fun q r cA H1 hi hr hK1 hP1 hD1 hS1 => ?_)
  have e1 : cA = cy 3 := by
    have h1 : s.vm.findClass ("[" ++ (FieldType.array .int).toString) = some cA := (hK1.2 7 (cA, .array .int) rfl).2
    have h2 : s.vm.findClass ("[" ++ (FieldType.array .int).toString) = some (cy 3) := (hK1.2 3 (cy 3, .array .int) rfl).2
    exact Option.some.inj (h1.symm.trans h2)
  subst e1
  have hP2 := va_P.swap (a := []) (b := [(q, .inl (cy 3, N, .inr (.inr (.inr (.inr (fun i => if i < N then some (r i) else none))))))]) hP1
  have hD2 := va_D.swap (a := []) (b := [(q, .inl (cy 3, N, .inr (.inr (.inr (.inr (fun i => if i < N then some (r i) else none))))))]) hD1
  rw [List.nil_append] at hP2 hD2
  have hq := gp_new hD2
  rw [va_pl_push hq] at hP2 hD2
  exact kk q r (fun h => hq (List.mem_append_left _ h)) hi (fun i hi9 => ⟨hr i hi9, fun h => hq (List.mem_append_right _ (List.mem_map.mpr ⟨i, List.mem_range.mpr hi9, h⟩))⟩) H1 locs la hP2 hD2 hS1 hl
end GMULTI
end
section
set_option maxRecDepth 100000 in
theorem uX0 : ∀ w ∈ u_ws RX0 TX0 3, w ∈ lw_tbl ∧ (w.onTables && w.keepsFace) = true := by decide +kernel
set_option maxRecDepth 100000 in
theorem uX1 : ∀ w ∈ u_ws RX1 TX1 3, w ∈ lw_tbl ∧ (w.onTables && w.keepsFace) = true := by decide +kernel
set_option maxRecDepth 100000 in
theorem uX2 : ∀ w ∈ u_ws RX2 TX2 8, w ∈ lw_tbl ∧ (w.onTables && w.keepsFace) = true := by decide +kernel
set_option maxRecDepth 100000 in
theorem uX3 : ∀ w ∈ u_ws RX3 TX3 3, w ∈ lw_tbl ∧ (w.onTables && w.keepsFace) = true := by decide +kernel
set_option maxRecDepth 100000 in
theorem uX4 : ∀ w ∈ u_ws RX4 TX4 2, w ∈ lw_tbl ∧ (w.onTables && w.keepsFace) = true := by decide +kernel
set_option maxRecDepth 100000 in
theorem uX5 : ∀ w ∈ u_ws RX5 TX5 8, w ∈ lw_tbl ∧ (w.onTables && w.keepsFace) = true := by decide +kernel
set_option maxRecDepth 100000 in
theorem uX6 : ∀ w ∈ u_ws RX6 TX6 32, w ∈ lw_tbl ∧ (w.onTables && w.keepsFace) = true := by decide +kernel
theorem kF_X5_9 : gwF RX5 9 5 0 := ⟨RX5, TX5, 8, rfl, by decide, uX5, Or.inl (List.mem_of_getElem? (i := 151) (by decide +kernel))⟩
theorem kP_X5_9 : gwP RX5 9 5 0 true (tyX5 0) := ⟨RX5, TX5, 8, tyX5, rfl, by decide, uX5, tyX5_ok, nmX5, rfl, tyX5_ok 0 (by decide), fun h => (by exact rfl), Or.inl (List.mem_of_getElem? (i := 151) (by decide +kernel))⟩
theorem kF_X5_15 : gwF RX5 15 5 1 := ⟨RX5, TX5, 8, rfl, by decide, uX5, Or.inl (List.mem_of_getElem? (i := 152) (by decide +kernel))⟩
theorem kP_X5_15 : gwP RX5 15 5 1 true (tyX5 1) := ⟨RX5, TX5, 8, tyX5, rfl, by decide, uX5, tyX5_ok, nmX5, rfl, tyX5_ok 1 (by decide), fun h => (by exact rfl), Or.inl (List.mem_of_getElem? (i := 152) (by decide +kernel))⟩
theorem kF_X5_20 : gwF RX5 20 5 2 := ⟨RX5, TX5, 8, rfl, by decide, uX5, Or.inl (List.mem_of_getElem? (i := 153) (by decide +kernel))⟩
theorem kP_X5_20 : gwP RX5 20 5 2 true (tyX5 2) := ⟨RX5, TX5, 8, tyX5, rfl, by decide, uX5, tyX5_ok, nmX5, rfl, tyX5_ok 2 (by decide), fun h => (by exact rfl), Or.inl (List.mem_of_getElem? (i := 153) (by decide +kernel))⟩
theorem kF_X5_26 : gwF RX5 26 5 3 := ⟨RX5, TX5, 8, rfl, by decide, uX5, Or.inl (List.mem_of_getElem? (i := 154) (by decide +kernel))⟩
theorem kP_X5_26 : gwP RX5 26 5 3 true (tyX5 3) := ⟨RX5, TX5, 8, tyX5, rfl, by decide, uX5, tyX5_ok, nmX5, rfl, tyX5_ok 3 (by decide), fun h => (by exact rfl), Or.inl (List.mem_of_getElem? (i := 154) (by decide +kernel))⟩
theorem kF_X5_33 : gwF RX5 33 5 4 := ⟨RX5, TX5, 8, rfl, by decide, uX5, Or.inl (List.mem_of_getElem? (i := 155) (by decide +kernel))⟩
theorem kP_X5_33 : gwP RX5 33 5 4 true (tyX5 4) := ⟨RX5, TX5, 8, tyX5, rfl, by decide, uX5, tyX5_ok, nmX5, rfl, tyX5_ok 4 (by decide), fun h => (by exact rfl), Or.inl (List.mem_of_getElem? (i := 155) (by decide +kernel))⟩
theorem kF_X5_40 : gwF RX5 40 5 5 := ⟨RX5, TX5, 8, rfl, by decide, uX5, Or.inl (List.mem_of_getElem? (i := 156) (by decide +kernel))⟩
theorem kP_X5_40 : gwP RX5 40 5 5 true (tyX5 5) := ⟨RX5, TX5, 8, tyX5, rfl, by decide, uX5, tyX5_ok, nmX5, rfl, tyX5_ok 5 (by decide), fun h => (by exact rfl), Or.inl (List.mem_of_getElem? (i := 156) (by decide +kernel))⟩
theorem kF_X5_63 : gwF RX5 63 3 2 := ⟨RX3, TX3, 3, rfl, by decide, uX3, Or.inr ⟨"LayeredImages", (List.mem_of_getElem? (i := 128) (by decide +kernel))⟩⟩
theorem kP_X5_63 : gwP RX5 63 3 2 false (tyX3 2) := ⟨RX3, TX3, 3, tyX3, rfl, by decide, uX3, tyX3_ok, nmX3, rfl, tyX3_ok 2 (by decide), fun h => (by exact absurd h (by decide)), Or.inr ⟨rfl, "LayeredImages", (List.mem_of_getElem? (i := 128) (by decide +kernel))⟩⟩
theorem kF_X5_92 : gwF RX5 92 3 1 := ⟨RX3, TX3, 3, rfl, by decide, uX3, Or.inr ⟨"LayeredImages", (List.mem_of_getElem? (i := 125) (by decide +kernel))⟩⟩
theorem kP_X5_92 : gwP RX5 92 3 1 false (tyX3 1) := ⟨RX3, TX3, 3, tyX3, rfl, by decide, uX3, tyX3_ok, nmX3, rfl, tyX3_ok 1 (by decide), fun h => (by exact absurd h (by decide)), Or.inr ⟨rfl, "LayeredImages", (List.mem_of_getElem? (i := 125) (by decide +kernel))⟩⟩
theorem kF_X5_103 : gwF RX5 103 2 0 := ⟨RX2, TX2, 8, rfl, by decide, uX2, Or.inr ⟨"LayeredImages", (List.mem_of_getElem? (i := 484) (by decide +kernel))⟩⟩
theorem kF_X5_110 : gwF RX5 110 0 2 := ⟨RX0, TX0, 3, rfl, by decide, uX0, Or.inr ⟨"LayeredImages", (List.mem_of_getElem? (i := 139) (by decide +kernel))⟩⟩
theorem kP_X5_110 : gwP RX5 110 0 2 false (tyX0 2) := ⟨RX0, TX0, 3, tyX0, rfl, by decide, uX0, tyX0_ok, nmX0, rfl, tyX0_ok 2 (by decide), fun h => (by exact absurd h (by decide)), Or.inr ⟨rfl, "LayeredImages", (List.mem_of_getElem? (i := 139) (by decide +kernel))⟩⟩
theorem kF_X5_166 : gwF RX5 166 5 6 := ⟨RX5, TX5, 8, rfl, by decide, uX5, Or.inl (List.mem_of_getElem? (i := 157) (by decide +kernel))⟩
theorem kP_X5_166 : gwP RX5 166 5 6 false (tyX5 6) := ⟨RX5, TX5, 8, tyX5, rfl, by decide, uX5, tyX5_ok, nmX5, rfl, tyX5_ok 6 (by decide), fun h => (by exact absurd h (by decide)), Or.inl (List.mem_of_getElem? (i := 157) (by decide +kernel))⟩
theorem kF_X5_169 : gwF RX5 169 5 7 := ⟨RX5, TX5, 8, rfl, by decide, uX5, Or.inl (List.mem_of_getElem? (i := 158) (by decide +kernel))⟩
theorem kP_X5_169 : gwP RX5 169 5 7 false (tyX5 7) := ⟨RX5, TX5, 8, tyX5, rfl, by decide, uX5, tyX5_ok, nmX5, rfl, tyX5_ok 7 (by decide), fun h => (by exact absurd h (by decide)), Or.inl (List.mem_of_getElem? (i := 158) (by decide +kernel))⟩
theorem kF_X5_192 : gwF RX5 192 2 2 := ⟨RX2, TX2, 8, rfl, by decide, uX2, Or.inr ⟨"LayeredImages", (List.mem_of_getElem? (i := 489) (by decide +kernel))⟩⟩
theorem kF_X5_215 : gwF RX5 215 4 1 := ⟨RX4, TX4, 2, rfl, by decide, uX4, Or.inr ⟨"LayeredImages", (List.mem_of_getElem? (i := 102) (by decide +kernel))⟩⟩
theorem kP_X5_215 : gwP RX5 215 4 1 false (tyX4 1) := ⟨RX4, TX4, 2, tyX4, rfl, by decide, uX4, tyX4_ok, nmX4, rfl, tyX4_ok 1 (by decide), fun h => (by exact absurd h (by decide)), Or.inr ⟨rfl, "LayeredImages", (List.mem_of_getElem? (i := 102) (by decide +kernel))⟩⟩
theorem kF_X5_234 : gwF RX5 234 2 1 := ⟨RX2, TX2, 8, rfl, by decide, uX2, Or.inr ⟨"LayeredImages", (List.mem_of_getElem? (i := 487) (by decide +kernel))⟩⟩
theorem kF_X0_10 : gwF RX0 10 0 0 := ⟨RX0, TX0, 3, rfl, by decide, uX0, Or.inl (List.mem_of_getElem? (i := 136) (by decide +kernel))⟩
theorem kP_X0_10 : gwP RX0 10 0 0 true (tyX0 0) := ⟨RX0, TX0, 3, tyX0, rfl, by decide, uX0, tyX0_ok, nmX0, rfl, tyX0_ok 0 (by decide), fun h => (by exact rfl), Or.inl (List.mem_of_getElem? (i := 136) (by decide +kernel))⟩
theorem kF_X0_20 : gwF RX0 20 0 1 := ⟨RX0, TX0, 3, rfl, by decide, uX0, Or.inl (List.mem_of_getElem? (i := 137) (by decide +kernel))⟩
theorem kP_X0_20 : gwP RX0 20 0 1 false (tyX0 1) := ⟨RX0, TX0, 3, tyX0, rfl, by decide, uX0, tyX0_ok, nmX0, rfl, tyX0_ok 1 (by decide), fun h => (by exact absurd h (by decide)), Or.inl (List.mem_of_getElem? (i := 137) (by decide +kernel))⟩
theorem kF_X0_24 : gwF RX0 24 0 2 := ⟨RX0, TX0, 3, rfl, by decide, uX0, Or.inl (List.mem_of_getElem? (i := 138) (by decide +kernel))⟩
theorem kP_X0_24 : gwP RX0 24 0 2 false (tyX0 2) := ⟨RX0, TX0, 3, tyX0, rfl, by decide, uX0, tyX0_ok, nmX0, rfl, tyX0_ok 2 (by decide), fun h => (by exact absurd h (by decide)), Or.inl (List.mem_of_getElem? (i := 138) (by decide +kernel))⟩
theorem kF_X0_28 : gwF RX0 28 3 2 := ⟨RX3, TX3, 3, rfl, by decide, uX3, Or.inr ⟨"LayeredImages", (List.mem_of_getElem? (i := 126) (by decide +kernel))⟩⟩
theorem kP_X0_28 : gwP RX0 28 3 2 false (tyX3 2) := ⟨RX3, TX3, 3, tyX3, rfl, by decide, uX3, tyX3_ok, nmX3, rfl, tyX3_ok 2 (by decide), fun h => (by exact absurd h (by decide)), Or.inr ⟨rfl, "LayeredImages", (List.mem_of_getElem? (i := 126) (by decide +kernel))⟩⟩
theorem kF_X1_9 : gwF RX1 9 1 0 := ⟨RX1, TX1, 3, rfl, by decide, uX1, Or.inl (List.mem_of_getElem? (i := 371) (by decide +kernel))⟩
theorem kP_X1_9 : gwP RX1 9 1 0 true (tyX1 0) := ⟨RX1, TX1, 3, tyX1, rfl, by decide, uX1, tyX1_ok, nmX1, rfl, tyX1_ok 0 (by decide), fun h => (by exact rfl), Or.inl (List.mem_of_getElem? (i := 371) (by decide +kernel))⟩
theorem kF_X1_15 : gwF RX1 15 1 1 := ⟨RX1, TX1, 3, rfl, by decide, uX1, Or.inl (List.mem_of_getElem? (i := 372) (by decide +kernel))⟩
theorem kP_X1_15 : gwP RX1 15 1 1 true (tyX1 1) := ⟨RX1, TX1, 3, tyX1, rfl, by decide, uX1, tyX1_ok, nmX1, rfl, tyX1_ok 1 (by decide), fun h => (by exact rfl), Or.inl (List.mem_of_getElem? (i := 372) (by decide +kernel))⟩
theorem kF_X1_18 : gwF RX1 18 1 2 := ⟨RX1, TX1, 3, rfl, by decide, uX1, Or.inl (List.mem_of_getElem? (i := 373) (by decide +kernel))⟩
theorem kP_X1_18 : gwP RX1 18 1 2 true (tyX1 2) := ⟨RX1, TX1, 3, tyX1, rfl, by decide, uX1, tyX1_ok, nmX1, rfl, tyX1_ok 2 (by decide), fun h => (by exact rfl), Or.inl (List.mem_of_getElem? (i := 373) (by decide +kernel))⟩
theorem kF_X2_9 : gwF RX2 9 2 3 := ⟨RX2, TX2, 8, rfl, by decide, uX2, Or.inl (List.mem_of_getElem? (i := 490) (by decide +kernel))⟩
theorem kP_X2_9 : gwP RX2 9 2 3 true (tyX2 3) := ⟨RX2, TX2, 8, tyX2, rfl, by decide, uX2, tyX2_ok, nmX2, rfl, tyX2_ok 3 (by decide), fun h => (by exact rfl), Or.inl (List.mem_of_getElem? (i := 490) (by decide +kernel))⟩
theorem kF_X2_15 : gwF RX2 15 2 4 := ⟨RX2, TX2, 8, rfl, by decide, uX2, Or.inl (List.mem_of_getElem? (i := 491) (by decide +kernel))⟩
theorem kP_X2_15 : gwP RX2 15 2 4 true (tyX2 4) := ⟨RX2, TX2, 8, tyX2, rfl, by decide, uX2, tyX2_ok, nmX2, rfl, tyX2_ok 4 (by decide), fun h => (by exact rfl), Or.inl (List.mem_of_getElem? (i := 491) (by decide +kernel))⟩
theorem kF_X2_18 : gwF RX2 18 2 5 := ⟨RX2, TX2, 8, rfl, by decide, uX2, Or.inl (List.mem_of_getElem? (i := 492) (by decide +kernel))⟩
theorem kP_X2_18 : gwP RX2 18 2 5 true (tyX2 5) := ⟨RX2, TX2, 8, tyX2, rfl, by decide, uX2, tyX2_ok, nmX2, rfl, tyX2_ok 5 (by decide), fun h => (by exact rfl), Or.inl (List.mem_of_getElem? (i := 492) (by decide +kernel))⟩
theorem kF_X2_21 : gwF RX2 21 2 7 := ⟨RX2, TX2, 8, rfl, by decide, uX2, Or.inl (List.mem_of_getElem? (i := 494) (by decide +kernel))⟩
theorem kP_X2_21 : gwP RX2 21 2 7 false (tyX2 7) := ⟨RX2, TX2, 8, tyX2, rfl, by decide, uX2, tyX2_ok, nmX2, rfl, tyX2_ok 7 (by decide), fun h => (by exact absurd h (by decide)), Or.inl (List.mem_of_getElem? (i := 494) (by decide +kernel))⟩
theorem kF_X2_25 : gwF RX2 25 2 0 := ⟨RX2, TX2, 8, rfl, by decide, uX2, Or.inl (List.mem_of_getElem? (i := 482) (by decide +kernel))⟩
theorem kP_X2_25 : gwP RX2 25 2 0 true (tyX2 0) := ⟨RX2, TX2, 8, tyX2, rfl, by decide, uX2, tyX2_ok, nmX2, rfl, tyX2_ok 0 (by decide), fun h => (by exact rfl), Or.inl (List.mem_of_getElem? (i := 482) (by decide +kernel))⟩
theorem kF_X2_28 : gwF RX2 28 2 1 := ⟨RX2, TX2, 8, rfl, by decide, uX2, Or.inl (List.mem_of_getElem? (i := 485) (by decide +kernel))⟩
theorem kP_X2_28 : gwP RX2 28 2 1 true (tyX2 1) := ⟨RX2, TX2, 8, tyX2, rfl, by decide, uX2, tyX2_ok, nmX2, rfl, tyX2_ok 1 (by decide), fun h => (by exact rfl), Or.inl (List.mem_of_getElem? (i := 485) (by decide +kernel))⟩
theorem kF_X2_32 : gwF RX2 32 2 2 := ⟨RX2, TX2, 8, rfl, by decide, uX2, Or.inl (List.mem_of_getElem? (i := 488) (by decide +kernel))⟩
theorem kP_X2_32 : gwP RX2 32 2 2 true (tyX2 2) := ⟨RX2, TX2, 8, tyX2, rfl, by decide, uX2, tyX2_ok, nmX2, rfl, tyX2_ok 2 (by decide), fun h => (by exact rfl), Or.inl (List.mem_of_getElem? (i := 488) (by decide +kernel))⟩
theorem kF_X2_39 : gwF RX2 39 2 6 := ⟨RX2, TX2, 8, rfl, by decide, uX2, Or.inl (List.mem_of_getElem? (i := 493) (by decide +kernel))⟩
theorem kP_X2_39 : gwP RX2 39 2 6 false (tyX2 6) := ⟨RX2, TX2, 8, tyX2, rfl, by decide, uX2, tyX2_ok, nmX2, rfl, tyX2_ok 6 (by decide), fun h => (by exact absurd h (by decide)), Or.inl (List.mem_of_getElem? (i := 493) (by decide +kernel))⟩
theorem kF_X3_11 : gwF RX3 11 3 0 := ⟨RX3, TX3, 3, rfl, by decide, uX3, Or.inl (List.mem_of_getElem? (i := 123) (by decide +kernel))⟩
theorem kP_X3_11 : gwP RX3 11 3 0 true (tyX3 0) := ⟨RX3, TX3, 3, tyX3, rfl, by decide, uX3, tyX3_ok, nmX3, rfl, tyX3_ok 0 (by decide), fun h => (by exact rfl), Or.inl (List.mem_of_getElem? (i := 123) (by decide +kernel))⟩
theorem kF_X3_21 : gwF RX3 21 3 1 := ⟨RX3, TX3, 3, rfl, by decide, uX3, Or.inl (List.mem_of_getElem? (i := 124) (by decide +kernel))⟩
theorem kP_X3_21 : gwP RX3 21 3 1 false (tyX3 1) := ⟨RX3, TX3, 3, tyX3, rfl, by decide, uX3, tyX3_ok, nmX3, rfl, tyX3_ok 1 (by decide), fun h => (by exact absurd h (by decide)), Or.inl (List.mem_of_getElem? (i := 124) (by decide +kernel))⟩
theorem kF_X3_25 : gwF RX3 25 3 2 := ⟨RX3, TX3, 3, rfl, by decide, uX3, Or.inl (List.mem_of_getElem? (i := 127) (by decide +kernel))⟩
theorem kP_X3_25 : gwP RX3 25 3 2 false (tyX3 2) := ⟨RX3, TX3, 3, tyX3, rfl, by decide, uX3, tyX3_ok, nmX3, rfl, tyX3_ok 2 (by decide), fun h => (by exact absurd h (by decide)), Or.inl (List.mem_of_getElem? (i := 127) (by decide +kernel))⟩
theorem kF_X4_11 : gwF RX4 11 4 0 := ⟨RX4, TX4, 2, rfl, by decide, uX4, Or.inl (List.mem_of_getElem? (i := 100) (by decide +kernel))⟩
theorem kP_X4_11 : gwP RX4 11 4 0 true (tyX4 0) := ⟨RX4, TX4, 2, tyX4, rfl, by decide, uX4, tyX4_ok, nmX4, rfl, tyX4_ok 0 (by decide), fun h => (by exact rfl), Or.inl (List.mem_of_getElem? (i := 100) (by decide +kernel))⟩
theorem kF_X4_21 : gwF RX4 21 4 1 := ⟨RX4, TX4, 2, rfl, by decide, uX4, Or.inl (List.mem_of_getElem? (i := 101) (by decide +kernel))⟩
theorem kP_X4_21 : gwP RX4 21 4 1 false (tyX4 1) := ⟨RX4, TX4, 2, tyX4, rfl, by decide, uX4, tyX4_ok, nmX4, rfl, tyX4_ok 1 (by decide), fun h => (by exact absurd h (by decide)), Or.inl (List.mem_of_getElem? (i := 101) (by decide +kernel))⟩
theorem kF_X4_33 : gwF RX4 33 2 0 := ⟨RX2, TX2, 8, rfl, by decide, uX2, Or.inr ⟨"LayeredImages", (List.mem_of_getElem? (i := 483) (by decide +kernel))⟩⟩
theorem kF_X4_36 : gwF RX4 36 2 1 := ⟨RX2, TX2, 8, rfl, by decide, uX2, Or.inr ⟨"LayeredImages", (List.mem_of_getElem? (i := 486) (by decide +kernel))⟩⟩
theorem kF_X6_7 : gwF RX6 7 6 0 := ⟨RX6, TX6, 32, rfl, by decide, uX6, Or.inl (List.mem_of_getElem? (i := 791) (by decide +kernel))⟩
theorem kP_X6_7 : gwP RX6 7 6 0 true (tyX6 0) := ⟨RX6, TX6, 32, tyX6, rfl, by decide, uX6, tyX6_ok, nmX6, rfl, tyX6_ok 0 (by decide), fun h => (by exact rfl), Or.inl (List.mem_of_getElem? (i := 791) (by decide +kernel))⟩
theorem kF_X6_13 : gwF RX6 13 6 1 := ⟨RX6, TX6, 32, rfl, by decide, uX6, Or.inl (List.mem_of_getElem? (i := 792) (by decide +kernel))⟩
theorem kP_X6_13 : gwP RX6 13 6 1 true (tyX6 1) := ⟨RX6, TX6, 32, tyX6, rfl, by decide, uX6, tyX6_ok, nmX6, rfl, tyX6_ok 1 (by decide), fun h => (by exact rfl), Or.inl (List.mem_of_getElem? (i := 792) (by decide +kernel))⟩
theorem kF_X6_16 : gwF RX6 16 6 2 := ⟨RX6, TX6, 32, rfl, by decide, uX6, Or.inl (List.mem_of_getElem? (i := 793) (by decide +kernel))⟩
theorem kP_X6_16 : gwP RX6 16 6 2 true (tyX6 2) := ⟨RX6, TX6, 32, tyX6, rfl, by decide, uX6, tyX6_ok, nmX6, rfl, tyX6_ok 2 (by decide), fun h => (by exact rfl), Or.inl (List.mem_of_getElem? (i := 793) (by decide +kernel))⟩
theorem kF_X6_19 : gwF RX6 19 6 3 := ⟨RX6, TX6, 32, rfl, by decide, uX6, Or.inl (List.mem_of_getElem? (i := 794) (by decide +kernel))⟩
theorem kP_X6_19 : gwP RX6 19 6 3 true (tyX6 3) := ⟨RX6, TX6, 32, tyX6, rfl, by decide, uX6, tyX6_ok, nmX6, rfl, tyX6_ok 3 (by decide), fun h => (by exact rfl), Or.inl (List.mem_of_getElem? (i := 794) (by decide +kernel))⟩
theorem kF_X6_22 : gwF RX6 22 6 4 := ⟨RX6, TX6, 32, rfl, by decide, uX6, Or.inl (List.mem_of_getElem? (i := 795) (by decide +kernel))⟩
theorem kP_X6_22 : gwP RX6 22 6 4 true (tyX6 4) := ⟨RX6, TX6, 32, tyX6, rfl, by decide, uX6, tyX6_ok, nmX6, rfl, tyX6_ok 4 (by decide), fun h => (by exact rfl), Or.inl (List.mem_of_getElem? (i := 795) (by decide +kernel))⟩
theorem kF_X6_25 : gwF RX6 25 6 5 := ⟨RX6, TX6, 32, rfl, by decide, uX6, Or.inl (List.mem_of_getElem? (i := 796) (by decide +kernel))⟩
theorem kP_X6_25 : gwP RX6 25 6 5 true (tyX6 5) := ⟨RX6, TX6, 32, tyX6, rfl, by decide, uX6, tyX6_ok, nmX6, rfl, tyX6_ok 5 (by decide), fun h => (by exact rfl), Or.inl (List.mem_of_getElem? (i := 796) (by decide +kernel))⟩
theorem kF_X6_28 : gwF RX6 28 6 6 := ⟨RX6, TX6, 32, rfl, by decide, uX6, Or.inl (List.mem_of_getElem? (i := 797) (by decide +kernel))⟩
theorem kP_X6_28 : gwP RX6 28 6 6 true (tyX6 6) := ⟨RX6, TX6, 32, tyX6, rfl, by decide, uX6, tyX6_ok, nmX6, rfl, tyX6_ok 6 (by decide), fun h => (by exact rfl), Or.inl (List.mem_of_getElem? (i := 797) (by decide +kernel))⟩
theorem kF_X6_31 : gwF RX6 31 6 8 := ⟨RX6, TX6, 32, rfl, by decide, uX6, Or.inl (List.mem_of_getElem? (i := 799) (by decide +kernel))⟩
theorem kP_X6_31 : gwP RX6 31 6 8 true (tyX6 8) := ⟨RX6, TX6, 32, tyX6, rfl, by decide, uX6, tyX6_ok, nmX6, rfl, tyX6_ok 8 (by decide), fun h => (by exact rfl), Or.inl (List.mem_of_getElem? (i := 799) (by decide +kernel))⟩
theorem kF_X6_35 : gwF RX6 35 6 9 := ⟨RX6, TX6, 32, rfl, by decide, uX6, Or.inl (List.mem_of_getElem? (i := 800) (by decide +kernel))⟩
theorem kP_X6_35 : gwP RX6 35 6 9 true (tyX6 9) := ⟨RX6, TX6, 32, tyX6, rfl, by decide, uX6, tyX6_ok, nmX6, rfl, tyX6_ok 9 (by decide), fun h => (by exact rfl), Or.inl (List.mem_of_getElem? (i := 800) (by decide +kernel))⟩
theorem kF_X6_38 : gwF RX6 38 6 10 := ⟨RX6, TX6, 32, rfl, by decide, uX6, Or.inl (List.mem_of_getElem? (i := 801) (by decide +kernel))⟩
theorem kP_X6_38 : gwP RX6 38 6 10 true (tyX6 10) := ⟨RX6, TX6, 32, tyX6, rfl, by decide, uX6, tyX6_ok, nmX6, rfl, tyX6_ok 10 (by decide), fun h => (by exact rfl), Or.inl (List.mem_of_getElem? (i := 801) (by decide +kernel))⟩
theorem kF_X6_41 : gwF RX6 41 6 11 := ⟨RX6, TX6, 32, rfl, by decide, uX6, Or.inl (List.mem_of_getElem? (i := 802) (by decide +kernel))⟩
theorem kP_X6_41 : gwP RX6 41 6 11 true (tyX6 11) := ⟨RX6, TX6, 32, tyX6, rfl, by decide, uX6, tyX6_ok, nmX6, rfl, tyX6_ok 11 (by decide), fun h => (by exact rfl), Or.inl (List.mem_of_getElem? (i := 802) (by decide +kernel))⟩
theorem kF_X6_44 : gwF RX6 44 6 12 := ⟨RX6, TX6, 32, rfl, by decide, uX6, Or.inl (List.mem_of_getElem? (i := 803) (by decide +kernel))⟩
theorem kP_X6_44 : gwP RX6 44 6 12 true (tyX6 12) := ⟨RX6, TX6, 32, tyX6, rfl, by decide, uX6, tyX6_ok, nmX6, rfl, tyX6_ok 12 (by decide), fun h => (by exact rfl), Or.inl (List.mem_of_getElem? (i := 803) (by decide +kernel))⟩
theorem kF_X6_47 : gwF RX6 47 6 13 := ⟨RX6, TX6, 32, rfl, by decide, uX6, Or.inl (List.mem_of_getElem? (i := 804) (by decide +kernel))⟩
theorem kP_X6_47 : gwP RX6 47 6 13 true (tyX6 13) := ⟨RX6, TX6, 32, tyX6, rfl, by decide, uX6, tyX6_ok, nmX6, rfl, tyX6_ok 13 (by decide), fun h => (by exact rfl), Or.inl (List.mem_of_getElem? (i := 804) (by decide +kernel))⟩
theorem kF_X6_50 : gwF RX6 50 6 14 := ⟨RX6, TX6, 32, rfl, by decide, uX6, Or.inl (List.mem_of_getElem? (i := 805) (by decide +kernel))⟩
theorem kP_X6_50 : gwP RX6 50 6 14 true (tyX6 14) := ⟨RX6, TX6, 32, tyX6, rfl, by decide, uX6, tyX6_ok, nmX6, rfl, tyX6_ok 14 (by decide), fun h => (by exact rfl), Or.inl (List.mem_of_getElem? (i := 805) (by decide +kernel))⟩
theorem kF_X6_53 : gwF RX6 53 6 15 := ⟨RX6, TX6, 32, rfl, by decide, uX6, Or.inl (List.mem_of_getElem? (i := 806) (by decide +kernel))⟩
theorem kP_X6_53 : gwP RX6 53 6 15 true (tyX6 15) := ⟨RX6, TX6, 32, tyX6, rfl, by decide, uX6, tyX6_ok, nmX6, rfl, tyX6_ok 15 (by decide), fun h => (by exact rfl), Or.inl (List.mem_of_getElem? (i := 806) (by decide +kernel))⟩
theorem kF_X6_56 : gwF RX6 56 6 16 := ⟨RX6, TX6, 32, rfl, by decide, uX6, Or.inl (List.mem_of_getElem? (i := 807) (by decide +kernel))⟩
theorem kP_X6_56 : gwP RX6 56 6 16 true (tyX6 16) := ⟨RX6, TX6, 32, tyX6, rfl, by decide, uX6, tyX6_ok, nmX6, rfl, tyX6_ok 16 (by decide), fun h => (by exact rfl), Or.inl (List.mem_of_getElem? (i := 807) (by decide +kernel))⟩
theorem kF_X6_59 : gwF RX6 59 6 21 := ⟨RX6, TX6, 32, rfl, by decide, uX6, Or.inl (List.mem_of_getElem? (i := 812) (by decide +kernel))⟩
theorem kP_X6_59 : gwP RX6 59 6 21 true (tyX6 21) := ⟨RX6, TX6, 32, tyX6, rfl, by decide, uX6, tyX6_ok, nmX6, rfl, tyX6_ok 21 (by decide), fun h => (by exact rfl), Or.inl (List.mem_of_getElem? (i := 812) (by decide +kernel))⟩
theorem kF_X6_62 : gwF RX6 62 6 22 := ⟨RX6, TX6, 32, rfl, by decide, uX6, Or.inl (List.mem_of_getElem? (i := 813) (by decide +kernel))⟩
theorem kP_X6_62 : gwP RX6 62 6 22 true (tyX6 22) := ⟨RX6, TX6, 32, tyX6, rfl, by decide, uX6, tyX6_ok, nmX6, rfl, tyX6_ok 22 (by decide), fun h => (by exact rfl), Or.inl (List.mem_of_getElem? (i := 813) (by decide +kernel))⟩
theorem kF_X6_65 : gwF RX6 65 6 23 := ⟨RX6, TX6, 32, rfl, by decide, uX6, Or.inl (List.mem_of_getElem? (i := 814) (by decide +kernel))⟩
theorem kP_X6_65 : gwP RX6 65 6 23 true (tyX6 23) := ⟨RX6, TX6, 32, tyX6, rfl, by decide, uX6, tyX6_ok, nmX6, rfl, tyX6_ok 23 (by decide), fun h => (by exact rfl), Or.inl (List.mem_of_getElem? (i := 814) (by decide +kernel))⟩
theorem kF_X6_68 : gwF RX6 68 6 24 := ⟨RX6, TX6, 32, rfl, by decide, uX6, Or.inl (List.mem_of_getElem? (i := 815) (by decide +kernel))⟩
theorem kP_X6_68 : gwP RX6 68 6 24 false (tyX6 24) := ⟨RX6, TX6, 32, tyX6, rfl, by decide, uX6, tyX6_ok, nmX6, rfl, tyX6_ok 24 (by decide), fun h => (by exact absurd h (by decide)), Or.inl (List.mem_of_getElem? (i := 815) (by decide +kernel))⟩
theorem kF_X6_72 : gwF RX6 72 6 28 := ⟨RX6, TX6, 32, rfl, by decide, uX6, Or.inl (List.mem_of_getElem? (i := 819) (by decide +kernel))⟩
theorem kP_X6_72 : gwP RX6 72 6 28 true (tyX6 28) := ⟨RX6, TX6, 32, tyX6, rfl, by decide, uX6, tyX6_ok, nmX6, rfl, tyX6_ok 28 (by decide), fun h => (by exact rfl), Or.inl (List.mem_of_getElem? (i := 819) (by decide +kernel))⟩
theorem kF_X6_75 : gwF RX6 75 6 29 := ⟨RX6, TX6, 32, rfl, by decide, uX6, Or.inl (List.mem_of_getElem? (i := 820) (by decide +kernel))⟩
theorem kP_X6_75 : gwP RX6 75 6 29 true (tyX6 29) := ⟨RX6, TX6, 32, tyX6, rfl, by decide, uX6, tyX6_ok, nmX6, rfl, tyX6_ok 29 (by decide), fun h => (by exact rfl), Or.inl (List.mem_of_getElem? (i := 820) (by decide +kernel))⟩
theorem kF_X6_78 : gwF RX6 78 6 30 := ⟨RX6, TX6, 32, rfl, by decide, uX6, Or.inl (List.mem_of_getElem? (i := 821) (by decide +kernel))⟩
theorem kP_X6_78 : gwP RX6 78 6 30 true (tyX6 30) := ⟨RX6, TX6, 32, tyX6, rfl, by decide, uX6, tyX6_ok, nmX6, rfl, tyX6_ok 30 (by decide), fun h => (by exact rfl), Or.inl (List.mem_of_getElem? (i := 821) (by decide +kernel))⟩
theorem kF_X6_81 : gwF RX6 81 6 31 := ⟨RX6, TX6, 32, rfl, by decide, uX6, Or.inl (List.mem_of_getElem? (i := 822) (by decide +kernel))⟩
theorem kP_X6_81 : gwP RX6 81 6 31 true (tyX6 31) := ⟨RX6, TX6, 32, tyX6, rfl, by decide, uX6, tyX6_ok, nmX6, rfl, tyX6_ok 31 (by decide), fun h => (by exact rfl), Or.inl (List.mem_of_getElem? (i := 822) (by decide +kernel))⟩
theorem kF_X6_84 : gwF RX6 84 6 27 := ⟨RX6, TX6, 32, rfl, by decide, uX6, Or.inl (List.mem_of_getElem? (i := 818) (by decide +kernel))⟩
theorem kP_X6_84 : gwP RX6 84 6 27 false (tyX6 27) := ⟨RX6, TX6, 32, tyX6, rfl, by decide, uX6, tyX6_ok, nmX6, rfl, tyX6_ok 27 (by decide), fun h => (by exact absurd h (by decide)), Or.inl (List.mem_of_getElem? (i := 818) (by decide +kernel))⟩
theorem kF_X6_102 : gwF RX6 102 6 7 := ⟨RX6, TX6, 32, rfl, by decide, uX6, Or.inl (List.mem_of_getElem? (i := 798) (by decide +kernel))⟩
theorem kP_X6_102 : gwP RX6 102 6 7 false (tyX6 7) := ⟨RX6, TX6, 32, tyX6, rfl, by decide, uX6, tyX6_ok, nmX6, rfl, tyX6_ok 7 (by decide), fun h => (by exact absurd h (by decide)), Or.inl (List.mem_of_getElem? (i := 798) (by decide +kernel))⟩
theorem kF_X6_112 : gwF RX6 112 6 19 := ⟨RX6, TX6, 32, rfl, by decide, uX6, Or.inl (List.mem_of_getElem? (i := 810) (by decide +kernel))⟩
theorem kP_X6_112 : gwP RX6 112 6 19 false (tyX6 19) := ⟨RX6, TX6, 32, tyX6, rfl, by decide, uX6, tyX6_ok, nmX6, rfl, tyX6_ok 19 (by decide), fun h => (by exact absurd h (by decide)), Or.inl (List.mem_of_getElem? (i := 810) (by decide +kernel))⟩
theorem kF_X6_115 : gwF RX6 115 6 20 := ⟨RX6, TX6, 32, rfl, by decide, uX6, Or.inl (List.mem_of_getElem? (i := 811) (by decide +kernel))⟩
theorem kP_X6_115 : gwP RX6 115 6 20 false (tyX6 20) := ⟨RX6, TX6, 32, tyX6, rfl, by decide, uX6, tyX6_ok, nmX6, rfl, tyX6_ok 20 (by decide), fun h => (by exact absurd h (by decide)), Or.inl (List.mem_of_getElem? (i := 811) (by decide +kernel))⟩
theorem kF_X6_118 : gwF RX6 118 6 17 := ⟨RX6, TX6, 32, rfl, by decide, uX6, Or.inl (List.mem_of_getElem? (i := 808) (by decide +kernel))⟩
theorem kP_X6_118 : gwP RX6 118 6 17 false (tyX6 17) := ⟨RX6, TX6, 32, tyX6, rfl, by decide, uX6, tyX6_ok, nmX6, rfl, tyX6_ok 17 (by decide), fun h => (by exact absurd h (by decide)), Or.inl (List.mem_of_getElem? (i := 808) (by decide +kernel))⟩
theorem kF_X6_122 : gwF RX6 122 6 18 := ⟨RX6, TX6, 32, rfl, by decide, uX6, Or.inl (List.mem_of_getElem? (i := 809) (by decide +kernel))⟩
theorem kP_X6_122 : gwP RX6 122 6 18 false (tyX6 18) := ⟨RX6, TX6, 32, tyX6, rfl, by decide, uX6, tyX6_ok, nmX6, rfl, tyX6_ok 18 (by decide), fun h => (by exact absurd h (by decide)), Or.inl (List.mem_of_getElem? (i := 809) (by decide +kernel))⟩
theorem kF_X6_140 : gwF RX6 140 6 25 := ⟨RX6, TX6, 32, rfl, by decide, uX6, Or.inl (List.mem_of_getElem? (i := 816) (by decide +kernel))⟩
theorem kP_X6_140 : gwP RX6 140 6 25 false (tyX6 25) := ⟨RX6, TX6, 32, tyX6, rfl, by decide, uX6, tyX6_ok, nmX6, rfl, tyX6_ok 25 (by decide), fun h => (by exact absurd h (by decide)), Or.inl (List.mem_of_getElem? (i := 816) (by decide +kernel))⟩
theorem kF_X6_143 : gwF RX6 143 6 26 := ⟨RX6, TX6, 32, rfl, by decide, uX6, Or.inl (List.mem_of_getElem? (i := 817) (by decide +kernel))⟩
theorem kP_X6_143 : gwP RX6 143 6 26 false (tyX6 26) := ⟨RX6, TX6, 32, tyX6, rfl, by decide, uX6, tyX6_ok, nmX6, rfl, tyX6_ok 26 (by decide), fun h => (by exact absurd h (by decide)), Or.inl (List.mem_of_getElem? (i := 817) (by decide +kernel))⟩
theorem kM_J7_fill_53178 : gwM yJ7_fill_53178 cJ7_fill_53178 4 none 2 := ⟨(List.mem_of_getElem? (i := 149) (by decide +kernel)), (List.mem_of_getElem? (i := 69) (by decide +kernel)), ⟨by decide +kernel, by decide +kernel⟩, by decide +kernel⟩
theorem kS_J7_fill_53178 : gwS yJ7_fill_53178 := (List.mem_of_getElem? (i := 148) (by decide +kernel))
theorem kM_X0_advanceTo : gwM yX0_advanceTo cX0_advanceTo 2 none 1 := ⟨(List.mem_of_getElem? (i := 613) (by decide +kernel)), (List.mem_of_getElem? (i := 67) (by decide +kernel)), ⟨by decide +kernel, by decide +kernel⟩, by decide +kernel⟩
theorem kV_X0_advanceTo : gwV yX0_advanceTo := ⟨(List.mem_of_getElem? (i := 612) (by decide +kernel)), (List.mem_of_getElem? (i := 36) (by decide +kernel))⟩
theorem kM_X0_begin : gwM yX0_begin cX0_begin 3 none 2 := ⟨(List.mem_of_getElem? (i := 522) (by decide +kernel)), (List.mem_of_getElem? (i := 67) (by decide +kernel)), ⟨by decide +kernel, by decide +kernel⟩, by decide +kernel⟩
theorem kV_X0_begin : gwV yX0_begin := ⟨(List.mem_of_getElem? (i := 521) (by decide +kernel)), (List.mem_of_getElem? (i := 18) (by decide +kernel))⟩
theorem kM_X0_fail : gwM yX0_fail cX0_fail 1 none 0 := ⟨(List.mem_of_getElem? (i := 563) (by decide +kernel)), (List.mem_of_getElem? (i := 67) (by decide +kernel)), ⟨by decide +kernel, by decide +kernel⟩, by decide +kernel⟩
theorem kV_X0_fail : gwV yX0_fail := ⟨(List.mem_of_getElem? (i := 562) (by decide +kernel)), (List.mem_of_getElem? (i := 25) (by decide +kernel))⟩
theorem kM_X0_finished : gwM yX0_finished cX0_finished 1 (some (.object "LayeredImages$Layer")) 0 := ⟨(List.mem_of_getElem? (i := 191) (by decide +kernel)), (List.mem_of_getElem? (i := 67) (by decide +kernel)), ⟨by decide +kernel, by decide +kernel⟩, by decide +kernel⟩
theorem kV_X0_finished : gwV yX0_finished := ⟨(List.mem_of_getElem? (i := 190) (by decide +kernel)), (List.mem_of_getElem? (i := 1) (by decide +kernel))⟩
theorem kM_X0_forget : gwM yX0_forget cX0_forget 2 none 1 := ⟨(List.mem_of_getElem? (i := 713) (by decide +kernel)), (List.mem_of_getElem? (i := 67) (by decide +kernel)), ⟨by decide +kernel, by decide +kernel⟩, by decide +kernel⟩
theorem kV_X0_forget : gwV yX0_forget := ⟨(List.mem_of_getElem? (i := 712) (by decide +kernel)), (List.mem_of_getElem? (i := 44) (by decide +kernel))⟩
theorem kM_X0_goesOn : gwM yX0_goesOn cX0_goesOn 1 (some .boolean) 0 := ⟨(List.mem_of_getElem? (i := 195) (by decide +kernel)), (List.mem_of_getElem? (i := 67) (by decide +kernel)), ⟨by decide +kernel, by decide +kernel⟩, by decide +kernel⟩
theorem kV_X0_goesOn : gwV yX0_goesOn := ⟨(List.mem_of_getElem? (i := 194) (by decide +kernel)), (List.mem_of_getElem? (i := 2) (by decide +kernel))⟩
theorem kM_X0_init : gwM yX0_init cX0_init 1 none 0 := ⟨(List.mem_of_getElem? (i := 113) (by decide +kernel)), (List.mem_of_getElem? (i := 67) (by decide +kernel)), ⟨by decide +kernel, by decide +kernel⟩, by decide +kernel⟩
theorem kI_X0_init : gwI yX0_init := ⟨(List.mem_of_getElem? (i := 112) (by decide +kernel)), rfl⟩
theorem kM_X0_left : gwM yX0_left cX0_left 1 (some .int) 0 := ⟨(List.mem_of_getElem? (i := 183) (by decide +kernel)), (List.mem_of_getElem? (i := 67) (by decide +kernel)), ⟨by decide +kernel, by decide +kernel⟩, by decide +kernel⟩
theorem kV_X0_left : gwV yX0_left := ⟨(List.mem_of_getElem? (i := 182) (by decide +kernel)), (List.mem_of_getElem? (i := 0) (by decide +kernel))⟩
theorem kM_X0_upcoming : gwM yX0_upcoming cX0_upcoming 1 (some (.object "LayeredImages$Instruction")) 0 := ⟨(List.mem_of_getElem? (i := 543) (by decide +kernel)), (List.mem_of_getElem? (i := 67) (by decide +kernel)), ⟨by decide +kernel, by decide +kernel⟩, by decide +kernel⟩
theorem kV_X0_upcoming : gwV yX0_upcoming := ⟨(List.mem_of_getElem? (i := 542) (by decide +kernel)), (List.mem_of_getElem? (i := 21) (by decide +kernel))⟩
theorem kM_X1_carryOut : gwM yX1_carryOut cX1_carryOut 3 none 2 := ⟨(List.mem_of_getElem? (i := 594) (by decide +kernel)), (List.mem_of_getElem? (i := 77) (by decide +kernel)), ⟨by decide +kernel, by decide +kernel⟩, by decide +kernel⟩
theorem kV_X1_carryOut : gwV yX1_carryOut := ⟨(List.mem_of_getElem? (i := 593) (by decide +kernel)), (List.mem_of_getElem? (i := 32) (by decide +kernel))⟩
theorem kM_X1_failsOn : gwM yX1_failsOn cX1_failsOn 3 (some .boolean) 2 := ⟨(List.mem_of_getElem? (i := 554) (by decide +kernel)), (List.mem_of_getElem? (i := 77) (by decide +kernel)), ⟨by decide +kernel, by decide +kernel⟩, by decide +kernel⟩
theorem kV_X1_failsOn : gwV yX1_failsOn := ⟨(List.mem_of_getElem? (i := 553) (by decide +kernel)), (List.mem_of_getElem? (i := 23) (by decide +kernel))⟩
theorem kM_X1_init : gwM yX1_init cX1_init 4 none 3 := ⟨(List.mem_of_getElem? (i := 369) (by decide +kernel)), (List.mem_of_getElem? (i := 77) (by decide +kernel)), ⟨by decide +kernel, by decide +kernel⟩, by decide +kernel⟩
theorem kI_X1_init : gwI yX1_init := ⟨(List.mem_of_getElem? (i := 368) (by decide +kernel)), rfl⟩
theorem kM_X1_inputFrom : gwM yX1_inputFrom cX1_inputFrom 2 (some .int) 1 := ⟨(List.mem_of_getElem? (i := 549) (by decide +kernel)), (List.mem_of_getElem? (i := 77) (by decide +kernel)), ⟨by decide +kernel, by decide +kernel⟩, by decide +kernel⟩
theorem kV_X1_inputFrom : gwV yX1_inputFrom := ⟨(List.mem_of_getElem? (i := 548) (by decide +kernel)), (List.mem_of_getElem? (i := 22) (by decide +kernel))⟩
theorem kM_X1_isSameAs : gwM yX1_isSameAs cX1_isSameAs 2 (some .boolean) 1 := ⟨(List.mem_of_getElem? (i := 579) (by decide +kernel)), (List.mem_of_getElem? (i := 77) (by decide +kernel)), ⟨by decide +kernel, by decide +kernel⟩, by decide +kernel⟩
theorem kV_X1_isSameAs : gwV yX1_isSameAs := ⟨(List.mem_of_getElem? (i := 578) (by decide +kernel)), (List.mem_of_getElem? (i := 29) (by decide +kernel))⟩
theorem kM_X1_runOn : gwM yX1_runOn cX1_runOn 3 (some .int) 2 := ⟨(List.mem_of_getElem? (i := 605) (by decide +kernel)), (List.mem_of_getElem? (i := 77) (by decide +kernel)), ⟨by decide +kernel, by decide +kernel⟩, by decide +kernel⟩
theorem kS_X1_runOn : gwS yX1_runOn := (List.mem_of_getElem? (i := 604) (by decide +kernel))
theorem kM_X2_assign : gwM yX2_assign cX2_assign 3 none 2 := ⟨(List.mem_of_getElem? (i := 609) (by decide +kernel)), (List.mem_of_getElem? (i := 78) (by decide +kernel)), ⟨by decide +kernel, by decide +kernel⟩, by decide +kernel⟩
theorem kV_X2_assign : gwV yX2_assign := ⟨(List.mem_of_getElem? (i := 608) (by decide +kernel)), (List.mem_of_getElem? (i := 35) (by decide +kernel))⟩
theorem kM_X2_assignLike : gwM yX2_assignLike cX2_assignLike 3 none 1 := ⟨(List.mem_of_getElem? (i := 682) (by decide +kernel)), (List.mem_of_getElem? (i := 78) (by decide +kernel)), ⟨by decide +kernel, by decide +kernel⟩, by decide +kernel⟩
theorem kV_X2_assignLike : gwV yX2_assignLike := ⟨(List.mem_of_getElem? (i := 681) (by decide +kernel)), (List.mem_of_getElem? (i := 40) (by decide +kernel))⟩
theorem kM_X2_becomeMadeBy : gwM yX2_becomeMadeBy cX2_becomeMadeBy 3 none 2 := ⟨(List.mem_of_getElem? (i := 590) (by decide +kernel)), (List.mem_of_getElem? (i := 78) (by decide +kernel)), ⟨by decide +kernel, by decide +kernel⟩, by decide +kernel⟩
theorem kV_X2_becomeMadeBy : gwV yX2_becomeMadeBy := ⟨(List.mem_of_getElem? (i := 589) (by decide +kernel)), (List.mem_of_getElem? (i := 31) (by decide +kernel))⟩
theorem kM_X2_fingerprint : gwM yX2_fingerprint cX2_fingerprint 3 (some .int) 0 := ⟨(List.mem_of_getElem? (i := 637) (by decide +kernel)), (List.mem_of_getElem? (i := 78) (by decide +kernel)), ⟨by decide +kernel, by decide +kernel⟩, by decide +kernel⟩
theorem kV_X2_fingerprint : gwV yX2_fingerprint := ⟨(List.mem_of_getElem? (i := 636) (by decide +kernel)), (List.mem_of_getElem? (i := 37) (by decide +kernel))⟩
theorem kM_X2_hold : gwM yX2_hold cX2_hold 3 none 2 := ⟨(List.mem_of_getElem? (i := 598) (by decide +kernel)), (List.mem_of_getElem? (i := 78) (by decide +kernel)), ⟨by decide +kernel, by decide +kernel⟩, by decide +kernel⟩
theorem kV_X2_hold : gwV yX2_hold := ⟨(List.mem_of_getElem? (i := 597) (by decide +kernel)), (List.mem_of_getElem? (i := 33) (by decide +kernel))⟩
theorem kM_X2_holdLike : gwM yX2_holdLike cX2_holdLike 5 none 1 := ⟨(List.mem_of_getElem? (i := 693) (by decide +kernel)), (List.mem_of_getElem? (i := 78) (by decide +kernel)), ⟨by decide +kernel, by decide +kernel⟩, by decide +kernel⟩
theorem kV_X2_holdLike : gwV yX2_holdLike := ⟨(List.mem_of_getElem? (i := 692) (by decide +kernel)), (List.mem_of_getElem? (i := 41) (by decide +kernel))⟩
theorem kM_X2_holds : gwM yX2_holds cX2_holds 2 (some .int) 1 := ⟨(List.mem_of_getElem? (i := 747) (by decide +kernel)), (List.mem_of_getElem? (i := 78) (by decide +kernel)), ⟨by decide +kernel, by decide +kernel⟩, by decide +kernel⟩
theorem kV_X2_holds : gwV yX2_holds := ⟨(List.mem_of_getElem? (i := 746) (by decide +kernel)), (List.mem_of_getElem? (i := 47) (by decide +kernel))⟩
theorem kM_X2_init : gwM yX2_init cX2_init 5 none 2 := ⟨(List.mem_of_getElem? (i := 480) (by decide +kernel)), (List.mem_of_getElem? (i := 78) (by decide +kernel)), ⟨by decide +kernel, by decide +kernel⟩, by decide +kernel⟩
theorem kI_X2_init : gwI yX2_init := ⟨(List.mem_of_getElem? (i := 479) (by decide +kernel)), rfl⟩
theorem kM_X2_init_ : gwM yX2_init_ cX2_init_ 4 none 2 := ⟨(List.mem_of_getElem? (i := 586) (by decide +kernel)), (List.mem_of_getElem? (i := 78) (by decide +kernel)), ⟨by decide +kernel, by decide +kernel⟩, by decide +kernel⟩
theorem kI_X2_init_ : gwI yX2_init_ := ⟨(List.mem_of_getElem? (i := 585) (by decide +kernel)), rfl⟩
theorem kM_X2_isRootOf : gwM yX2_isRootOf cX2_isRootOf 3 (some .boolean) 1 := ⟨(List.mem_of_getElem? (i := 473) (by decide +kernel)), (List.mem_of_getElem? (i := 78) (by decide +kernel)), ⟨by decide +kernel, by decide +kernel⟩, by decide +kernel⟩
theorem kV_X2_isRootOf : gwV yX2_isRootOf := ⟨(List.mem_of_getElem? (i := 471) (by decide +kernel)), (List.mem_of_getElem? (i := 15) (by decide +kernel))⟩
theorem kM_X2_partAt : gwM yX2_partAt cX2_partAt 3 (some (.object "LayeredImages$Layer")) 1 := ⟨(List.mem_of_getElem? (i := 673) (by decide +kernel)), (List.mem_of_getElem? (i := 78) (by decide +kernel)), ⟨by decide +kernel, by decide +kernel⟩, by decide +kernel⟩
theorem kV_X2_partAt : gwV yX2_partAt := ⟨(List.mem_of_getElem? (i := 672) (by decide +kernel)), (List.mem_of_getElem? (i := 38) (by decide +kernel))⟩
theorem kM_X2_showLike : gwM yX2_showLike cX2_showLike 4 none 1 := ⟨(List.mem_of_getElem? (i := 677) (by decide +kernel)), (List.mem_of_getElem? (i := 78) (by decide +kernel)), ⟨by decide +kernel, by decide +kernel⟩, by decide +kernel⟩
theorem kV_X2_showLike : gwV yX2_showLike := ⟨(List.mem_of_getElem? (i := 676) (by decide +kernel)), (List.mem_of_getElem? (i := 39) (by decide +kernel))⟩
theorem kM_X2_shows : gwM yX2_shows cX2_shows 2 (some .int) 1 := ⟨(List.mem_of_getElem? (i := 558) (by decide +kernel)), (List.mem_of_getElem? (i := 78) (by decide +kernel)), ⟨by decide +kernel, by decide +kernel⟩, by decide +kernel⟩
theorem kV_X2_shows : gwV yX2_shows := ⟨(List.mem_of_getElem? (i := 557) (by decide +kernel)), (List.mem_of_getElem? (i := 24) (by decide +kernel))⟩
theorem kM_X2_size : gwM yX2_size cX2_size 3 (some .int) 0 := ⟨(List.mem_of_getElem? (i := 736) (by decide +kernel)), (List.mem_of_getElem? (i := 78) (by decide +kernel)), ⟨by decide +kernel, by decide +kernel⟩, by decide +kernel⟩
theorem kV_X2_size : gwV yX2_size := ⟨(List.mem_of_getElem? (i := 735) (by decide +kernel)), (List.mem_of_getElem? (i := 46) (by decide +kernel))⟩
theorem kM_X2_value : gwM yX2_value cX2_value 2 (some .int) 1 := ⟨(List.mem_of_getElem? (i := 602) (by decide +kernel)), (List.mem_of_getElem? (i := 78) (by decide +kernel)), ⟨by decide +kernel, by decide +kernel⟩, by decide +kernel⟩
theorem kV_X2_value : gwV yX2_value := ⟨(List.mem_of_getElem? (i := 601) (by decide +kernel)), (List.mem_of_getElem? (i := 34) (by decide +kernel))⟩
theorem kM_X2_wasMadeBy : gwM yX2_wasMadeBy cX2_wasMadeBy 3 (some .boolean) 2 := ⟨(List.mem_of_getElem? (i := 575) (by decide +kernel)), (List.mem_of_getElem? (i := 78) (by decide +kernel)), ⟨by decide +kernel, by decide +kernel⟩, by decide +kernel⟩
theorem kV_X2_wasMadeBy : gwV yX2_wasMadeBy := ⟨(List.mem_of_getElem? (i := 574) (by decide +kernel)), (List.mem_of_getElem? (i := 28) (by decide +kernel))⟩
theorem kM_X3_append : gwM yX3_append cX3_append 2 none 1 := ⟨(List.mem_of_getElem? (i := 384) (by decide +kernel)), (List.mem_of_getElem? (i := 68) (by decide +kernel)), ⟨by decide +kernel, by decide +kernel⟩, by decide +kernel⟩
theorem kV_X3_append : gwV yX3_append := ⟨(List.mem_of_getElem? (i := 383) (by decide +kernel)), (List.mem_of_getElem? (i := 7) (by decide +kernel))⟩
theorem kM_X3_at : gwM yX3_at cX3_at 2 (some (.object "LayeredImages$Instruction")) 1 := ⟨(List.mem_of_getElem? (i := 531) (by decide +kernel)), (List.mem_of_getElem? (i := 68) (by decide +kernel)), ⟨by decide +kernel, by decide +kernel⟩, by decide +kernel⟩
theorem kV_X3_at : gwV yX3_at := ⟨(List.mem_of_getElem? (i := 530) (by decide +kernel)), (List.mem_of_getElem? (i := 20) (by decide +kernel))⟩
theorem kM_X3_becomeLike : gwM yX3_becomeLike cX3_becomeLike 3 none 1 := ⟨(List.mem_of_getElem? (i := 526) (by decide +kernel)), (List.mem_of_getElem? (i := 68) (by decide +kernel)), ⟨by decide +kernel, by decide +kernel⟩, by decide +kernel⟩
theorem kV_X3_becomeLike : gwV yX3_becomeLike := ⟨(List.mem_of_getElem? (i := 525) (by decide +kernel)), (List.mem_of_getElem? (i := 19) (by decide +kernel))⟩
theorem kM_X3_clearOn : gwM yX3_clearOn cX3_clearOn 2 none 1 := ⟨(List.mem_of_getElem? (i := 336) (by decide +kernel)), (List.mem_of_getElem? (i := 68) (by decide +kernel)), ⟨by decide +kernel, by decide +kernel⟩, by decide +kernel⟩
theorem kV_X3_clearOn : gwV yX3_clearOn := ⟨(List.mem_of_getElem? (i := 335) (by decide +kernel)), (List.mem_of_getElem? (i := 5) (by decide +kernel))⟩
theorem kM_X3_init : gwM yX3_init cX3_init 1 none 0 := ⟨(List.mem_of_getElem? (i := 119) (by decide +kernel)), (List.mem_of_getElem? (i := 68) (by decide +kernel)), ⟨by decide +kernel, by decide +kernel⟩, by decide +kernel⟩
theorem kI_X3_init : gwI yX3_init := ⟨(List.mem_of_getElem? (i := 118) (by decide +kernel)), rfl⟩
theorem kM_X3_removeAt : gwM yX3_removeAt cX3_removeAt 3 none 1 := ⟨(List.mem_of_getElem? (i := 426) (by decide +kernel)), (List.mem_of_getElem? (i := 68) (by decide +kernel)), ⟨by decide +kernel, by decide +kernel⟩, by decide +kernel⟩
theorem kV_X3_removeAt : gwV yX3_removeAt := ⟨(List.mem_of_getElem? (i := 425) (by decide +kernel)), (List.mem_of_getElem? (i := 8) (by decide +kernel))⟩
theorem kM_X4_find : gwM yX4_find cX4_find 2 (some (.object "LayeredImages$Layer")) 1 := ⟨(List.mem_of_getElem? (i := 467) (by decide +kernel)), (List.mem_of_getElem? (i := 66) (by decide +kernel)), ⟨by decide +kernel, by decide +kernel⟩, by decide +kernel⟩
theorem kV_X4_find : gwV yX4_find := ⟨(List.mem_of_getElem? (i := 466) (by decide +kernel)), (List.mem_of_getElem? (i := 14) (by decide +kernel))⟩
theorem kM_X4_findMade : gwM yX4_findMade cX4_findMade 6 (some (.object "LayeredImages$Layer")) 3 := ⟨(List.mem_of_getElem? (i := 571) (by decide +kernel)), (List.mem_of_getElem? (i := 66) (by decide +kernel)), ⟨by decide +kernel, by decide +kernel⟩, by decide +kernel⟩
theorem kV_X4_findMade : gwV yX4_findMade := ⟨(List.mem_of_getElem? (i := 570) (by decide +kernel)), (List.mem_of_getElem? (i := 27) (by decide +kernel))⟩
theorem kM_X4_findRoot : gwM yX4_findRoot cX4_findRoot 4 (some (.object "LayeredImages$Layer")) 1 := ⟨(List.mem_of_getElem? (i := 463) (by decide +kernel)), (List.mem_of_getElem? (i := 66) (by decide +kernel)), ⟨by decide +kernel, by decide +kernel⟩, by decide +kernel⟩
theorem kV_X4_findRoot : gwV yX4_findRoot := ⟨(List.mem_of_getElem? (i := 462) (by decide +kernel)), (List.mem_of_getElem? (i := 13) (by decide +kernel))⟩
theorem kM_X4_init : gwM yX4_init cX4_init 1 none 0 := ⟨(List.mem_of_getElem? (i := 97) (by decide +kernel)), (List.mem_of_getElem? (i := 66) (by decide +kernel)), ⟨by decide +kernel, by decide +kernel⟩, by decide +kernel⟩
theorem kI_X4_init : gwI yX4_init := ⟨(List.mem_of_getElem? (i := 96) (by decide +kernel)), rfl⟩
theorem kM_X4_kept : gwM yX4_kept cX4_kept 2 (some (.object "LayeredImages$Layer")) 1 := ⟨(List.mem_of_getElem? (i := 515) (by decide +kernel)), (List.mem_of_getElem? (i := 66) (by decide +kernel)), ⟨by decide +kernel, by decide +kernel⟩, by decide +kernel⟩
theorem kV_X4_kept : gwV yX4_kept := ⟨(List.mem_of_getElem? (i := 514) (by decide +kernel)), (List.mem_of_getElem? (i := 17) (by decide +kernel))⟩
theorem kM_X4_newChild : gwM yX4_newChild cX4_newChild 2 (some (.object "LayeredImages$Layer")) 1 := ⟨(List.mem_of_getElem? (i := 583) (by decide +kernel)), (List.mem_of_getElem? (i := 66) (by decide +kernel)), ⟨by decide +kernel, by decide +kernel⟩, by decide +kernel⟩
theorem kV_X4_newChild : gwV yX4_newChild := ⟨(List.mem_of_getElem? (i := 582) (by decide +kernel)), (List.mem_of_getElem? (i := 30) (by decide +kernel))⟩
theorem kM_X4_newRoot : gwM yX4_newRoot cX4_newRoot 2 (some (.object "LayeredImages$Layer")) 1 := ⟨(List.mem_of_getElem? (i := 477) (by decide +kernel)), (List.mem_of_getElem? (i := 66) (by decide +kernel)), ⟨by decide +kernel, by decide +kernel⟩, by decide +kernel⟩
theorem kV_X4_newRoot : gwV yX4_newRoot := ⟨(List.mem_of_getElem? (i := 476) (by decide +kernel)), (List.mem_of_getElem? (i := 16) (by decide +kernel))⟩
theorem kM_X4_remove : gwM yX4_remove cX4_remove 2 none 1 := ⟨(List.mem_of_getElem? (i := 709) (by decide +kernel)), (List.mem_of_getElem? (i := 66) (by decide +kernel)), ⟨by decide +kernel, by decide +kernel⟩, by decide +kernel⟩
theorem kV_X4_remove : gwV yX4_remove := ⟨(List.mem_of_getElem? (i := 708) (by decide +kernel)), (List.mem_of_getElem? (i := 43) (by decide +kernel))⟩
theorem kM_X5_addCopy : gwM yX5_addCopy cX5_addCopy 4 (some .int) 3 := ⟨(List.mem_of_getElem? (i := 344) (by decide +kernel)), (List.mem_of_getElem? (i := 65) (by decide +kernel)), ⟨by decide +kernel, by decide +kernel⟩, by decide +kernel⟩
theorem kV_X5_addCopy : gwV yX5_addCopy := ⟨(List.mem_of_getElem? (i := 342) (by decide +kernel)), (List.mem_of_getElem? (i := 343) (by decide +kernel))⟩
theorem kM_X5_addInstruction : gwM yX5_addInstruction cX5_addInstruction 6 (some .int) 4 := ⟨(List.mem_of_getElem? (i := 348) (by decide +kernel)), (List.mem_of_getElem? (i := 65) (by decide +kernel)), ⟨by decide +kernel, by decide +kernel⟩, by decide +kernel⟩
theorem kV_X5_addInstruction : gwV yX5_addInstruction := ⟨(List.mem_of_getElem? (i := 347) (by decide +kernel)), (List.mem_of_getElem? (i := 6) (by decide +kernel))⟩
theorem kM_X5_addMove : gwM yX5_addMove cX5_addMove 4 (some .int) 3 := ⟨(List.mem_of_getElem? (i := 399) (by decide +kernel)), (List.mem_of_getElem? (i := 65) (by decide +kernel)), ⟨by decide +kernel, by decide +kernel⟩, by decide +kernel⟩
theorem kV_X5_addMove : gwV yX5_addMove := ⟨(List.mem_of_getElem? (i := 397) (by decide +kernel)), (List.mem_of_getElem? (i := 398) (by decide +kernel))⟩
theorem kM_X5_addRemove : gwM yX5_addRemove cX5_addRemove 3 (some .int) 2 := ⟨(List.mem_of_getElem? (i := 407) (by decide +kernel)), (List.mem_of_getElem? (i := 65) (by decide +kernel)), ⟨by decide +kernel, by decide +kernel⟩, by decide +kernel⟩
theorem kV_X5_addRemove : gwV yX5_addRemove := ⟨(List.mem_of_getElem? (i := 405) (by decide +kernel)), (List.mem_of_getElem? (i := 406) (by decide +kernel))⟩
theorem kM_X5_addRun : gwM yX5_addRun cX5_addRun 4 (some .int) 3 := ⟨(List.mem_of_getElem? (i := 392) (by decide +kernel)), (List.mem_of_getElem? (i := 65) (by decide +kernel)), ⟨by decide +kernel, by decide +kernel⟩, by decide +kernel⟩
theorem kV_X5_addRun : gwV yX5_addRun := ⟨(List.mem_of_getElem? (i := 390) (by decide +kernel)), (List.mem_of_getElem? (i := 391) (by decide +kernel))⟩
theorem kM_X5_addSet : gwM yX5_addSet cX5_addSet 4 (some .int) 3 := ⟨(List.mem_of_getElem? (i := 414) (by decide +kernel)), (List.mem_of_getElem? (i := 65) (by decide +kernel)), ⟨by decide +kernel, by decide +kernel⟩, by decide +kernel⟩
theorem kV_X5_addSet : gwV yX5_addSet := ⟨(List.mem_of_getElem? (i := 412) (by decide +kernel)), (List.mem_of_getElem? (i := 413) (by decide +kernel))⟩
theorem kM_X5_build : gwM yX5_build cX5_build 3 (some .int) 1 := ⟨(List.mem_of_getElem? (i := 620) (by decide +kernel)), (List.mem_of_getElem? (i := 65) (by decide +kernel)), ⟨by decide +kernel, by decide +kernel⟩, by decide +kernel⟩
theorem kV_X5_build : gwV yX5_build := ⟨(List.mem_of_getElem? (i := 618) (by decide +kernel)), (List.mem_of_getElem? (i := 619) (by decide +kernel))⟩
theorem kM_X5_built : gwM yX5_built cX5_built 1 (some .int) 0 := ⟨(List.mem_of_getElem? (i := 187) (by decide +kernel)), (List.mem_of_getElem? (i := 65) (by decide +kernel)), ⟨by decide +kernel, by decide +kernel⟩, by decide +kernel⟩
theorem kV_X5_built : gwV yX5_built := ⟨(List.mem_of_getElem? (i := 185) (by decide +kernel)), (List.mem_of_getElem? (i := 186) (by decide +kernel))⟩
theorem kM_X5_cleanDigest : gwM yX5_cleanDigest cX5_cleanDigest 7 (some .int) 1 := ⟨(List.mem_of_getElem? (i := 630) (by decide +kernel)), (List.mem_of_getElem? (i := 65) (by decide +kernel)), ⟨by decide +kernel, by decide +kernel⟩, by decide +kernel⟩
theorem kV_X5_cleanDigest : gwV yX5_cleanDigest := ⟨(List.mem_of_getElem? (i := 628) (by decide +kernel)), (List.mem_of_getElem? (i := 629) (by decide +kernel))⟩
theorem kM_X5_contentsOf : gwM yX5_contentsOf cX5_contentsOf 2 (some (.array .int)) 1 := ⟨(List.mem_of_getElem? (i := 459) (by decide +kernel)), (List.mem_of_getElem? (i := 65) (by decide +kernel)), ⟨by decide +kernel, by decide +kernel⟩, by decide +kernel⟩
theorem kV_X5_contentsOf : gwV yX5_contentsOf := ⟨(List.mem_of_getElem? (i := 458) (by decide +kernel)), (List.mem_of_getElem? (i := 12) (by decide +kernel))⟩
theorem kM_X5_depth : gwM yX5_depth cX5_depth 2 (some .int) 1 := ⟨(List.mem_of_getElem? (i := 770) (by decide +kernel)), (List.mem_of_getElem? (i := 65) (by decide +kernel)), ⟨by decide +kernel, by decide +kernel⟩, by decide +kernel⟩
theorem kV_X5_depth : gwV yX5_depth := ⟨(List.mem_of_getElem? (i := 768) (by decide +kernel)), (List.mem_of_getElem? (i := 769) (by decide +kernel))⟩
theorem kM_X5_digest : gwM yX5_digest cX5_digest 2 (some .int) 1 := ⟨(List.mem_of_getElem? (i := 784) (by decide +kernel)), (List.mem_of_getElem? (i := 65) (by decide +kernel)), ⟨by decide +kernel, by decide +kernel⟩, by decide +kernel⟩
theorem kV_X5_digest : gwV yX5_digest := ⟨(List.mem_of_getElem? (i := 782) (by decide +kernel)), (List.mem_of_getElem? (i := 783) (by decide +kernel))⟩
theorem kM_X5_drop : gwM yX5_drop cX5_drop 4 (some .int) 2 := ⟨(List.mem_of_getElem? (i := 422) (by decide +kernel)), (List.mem_of_getElem? (i := 65) (by decide +kernel)), ⟨by decide +kernel, by decide +kernel⟩, by decide +kernel⟩
theorem kV_X5_drop : gwV yX5_drop := ⟨(List.mem_of_getElem? (i := 420) (by decide +kernel)), (List.mem_of_getElem? (i := 421) (by decide +kernel))⟩
theorem kM_X5_heldAt : gwM yX5_heldAt cX5_heldAt 4 (some .int) 2 := ⟨(List.mem_of_getElem? (i := 743) (by decide +kernel)), (List.mem_of_getElem? (i := 65) (by decide +kernel)), ⟨by decide +kernel, by decide +kernel⟩, by decide +kernel⟩
theorem kV_X5_heldAt : gwV yX5_heldAt := ⟨(List.mem_of_getElem? (i := 741) (by decide +kernel)), (List.mem_of_getElem? (i := 742) (by decide +kernel))⟩
theorem kM_X5_hits : gwM yX5_hits cX5_hits 1 (some .int) 0 := ⟨(List.mem_of_getElem? (i := 203) (by decide +kernel)), (List.mem_of_getElem? (i := 65) (by decide +kernel)), ⟨by decide +kernel, by decide +kernel⟩, by decide +kernel⟩
theorem kV_X5_hits : gwV yX5_hits := ⟨(List.mem_of_getElem? (i := 201) (by decide +kernel)), (List.mem_of_getElem? (i := 202) (by decide +kernel))⟩
theorem kM_X5_imageSize : gwM yX5_imageSize cX5_imageSize 4 (some .int) 1 := ⟨(List.mem_of_getElem? (i := 777) (by decide +kernel)), (List.mem_of_getElem? (i := 65) (by decide +kernel)), ⟨by decide +kernel, by decide +kernel⟩, by decide +kernel⟩
theorem kV_X5_imageSize : gwV yX5_imageSize := ⟨(List.mem_of_getElem? (i := 775) (by decide +kernel)), (List.mem_of_getElem? (i := 776) (by decide +kernel))⟩
theorem kM_X5_init : gwM yX5_init cX5_init 2 none 0 := ⟨(List.mem_of_getElem? (i := 83) (by decide +kernel)), (List.mem_of_getElem? (i := 65) (by decide +kernel)), ⟨by decide +kernel, by decide +kernel⟩, by decide +kernel⟩
theorem kI_X5_init : gwI yX5_init := ⟨(List.mem_of_getElem? (i := 82) (by decide +kernel)), rfl⟩
theorem kM_X5_instructions : gwM yX5_instructions cX5_instructions 2 (some .int) 1 := ⟨(List.mem_of_getElem? (i := 433) (by decide +kernel)), (List.mem_of_getElem? (i := 65) (by decide +kernel)), ⟨by decide +kernel, by decide +kernel⟩, by decide +kernel⟩
theorem kV_X5_instructions : gwV yX5_instructions := ⟨(List.mem_of_getElem? (i := 431) (by decide +kernel)), (List.mem_of_getElem? (i := 432) (by decide +kernel))⟩
theorem kM_X5_isIn : gwM yX5_isIn cX5_isIn 2 (some .boolean) 2 := ⟨(List.mem_of_getElem? (i := 226) (by decide +kernel)), (List.mem_of_getElem? (i := 65) (by decide +kernel)), ⟨by decide +kernel, by decide +kernel⟩, by decide +kernel⟩
theorem kS_X5_isIn : gwS yX5_isIn := (List.mem_of_getElem? (i := 225) (by decide +kernel))
theorem kM_X5_isInTaggedImage : gwM yX5_isInTaggedImage cX5_isInTaggedImage 6 (some .boolean) 1 := ⟨(List.mem_of_getElem? (i := 705) (by decide +kernel)), (List.mem_of_getElem? (i := 65) (by decide +kernel)), ⟨by decide +kernel, by decide +kernel⟩, by decide +kernel⟩
theorem kV_X5_isInTaggedImage : gwV yX5_isInTaggedImage := ⟨(List.mem_of_getElem? (i := 704) (by decide +kernel)), (List.mem_of_getElem? (i := 42) (by decide +kernel))⟩
theorem kM_X5_layerAt : gwM yX5_layerAt cX5_layerAt 3 (some (.object "LayeredImages$Layer")) 1 := ⟨(List.mem_of_getElem? (i := 724) (by decide +kernel)), (List.mem_of_getElem? (i := 65) (by decide +kernel)), ⟨by decide +kernel, by decide +kernel⟩, by decide +kernel⟩
theorem kV_X5_layerAt : gwV yX5_layerAt := ⟨(List.mem_of_getElem? (i := 723) (by decide +kernel)), (List.mem_of_getElem? (i := 45) (by decide +kernel))⟩
theorem kM_X5_layerOfStep : gwM yX5_layerOfStep cX5_layerOfStep 6 (some (.object "LayeredImages$Layer")) 3 := ⟨(List.mem_of_getElem? (i := 567) (by decide +kernel)), (List.mem_of_getElem? (i := 65) (by decide +kernel)), ⟨by decide +kernel, by decide +kernel⟩, by decide +kernel⟩
theorem kV_X5_layerOfStep : gwV yX5_layerOfStep := ⟨(List.mem_of_getElem? (i := 566) (by decide +kernel)), (List.mem_of_getElem? (i := 26) (by decide +kernel))⟩
theorem kM_X5_layers : gwM yX5_layers cX5_layers 1 (some .int) 0 := ⟨(List.mem_of_getElem? (i := 211) (by decide +kernel)), (List.mem_of_getElem? (i := 65) (by decide +kernel)), ⟨by decide +kernel, by decide +kernel⟩, by decide +kernel⟩
theorem kV_X5_layers : gwV yX5_layers := ⟨(List.mem_of_getElem? (i := 209) (by decide +kernel)), (List.mem_of_getElem? (i := 210) (by decide +kernel))⟩
theorem kM_X5_misses : gwM yX5_misses cX5_misses 1 (some .int) 0 := ⟨(List.mem_of_getElem? (i := 207) (by decide +kernel)), (List.mem_of_getElem? (i := 65) (by decide +kernel)), ⟨by decide +kernel, by decide +kernel⟩, by decide +kernel⟩
theorem kV_X5_misses : gwV yX5_misses := ⟨(List.mem_of_getElem? (i := 205) (by decide +kernel)), (List.mem_of_getElem? (i := 206) (by decide +kernel))⟩
theorem kM_X5_numberOf : gwM yX5_numberOf cX5_numberOf 1 (some .int) 1 := ⟨(List.mem_of_getElem? (i := 199) (by decide +kernel)), (List.mem_of_getElem? (i := 65) (by decide +kernel)), ⟨by decide +kernel, by decide +kernel⟩, by decide +kernel⟩
theorem kS_X5_numberOf : gwS yX5_numberOf := (List.mem_of_getElem? (i := 198) (by decide +kernel))
theorem kM_X5_parentOf : gwM yX5_parentOf cX5_parentOf 2 (some .int) 1 := ⟨(List.mem_of_getElem? (i := 720) (by decide +kernel)), (List.mem_of_getElem? (i := 65) (by decide +kernel)), ⟨by decide +kernel, by decide +kernel⟩, by decide +kernel⟩
theorem kV_X5_parentOf : gwV yX5_parentOf := ⟨(List.mem_of_getElem? (i := 718) (by decide +kernel)), (List.mem_of_getElem? (i := 719) (by decide +kernel))⟩
theorem kM_X5_prune : gwM yX5_prune cX5_prune 4 (some .int) 0 := ⟨(List.mem_of_getElem? (i := 700) (by decide +kernel)), (List.mem_of_getElem? (i := 65) (by decide +kernel)), ⟨by decide +kernel, by decide +kernel⟩, by decide +kernel⟩
theorem kV_X5_prune : gwV yX5_prune := ⟨(List.mem_of_getElem? (i := 698) (by decide +kernel)), (List.mem_of_getElem? (i := 699) (by decide +kernel))⟩
theorem kM_X5_rebase : gwM yX5_rebase cX5_rebase 6 (some .int) 2 := ⟨(List.mem_of_getElem? (i := 689) (by decide +kernel)), (List.mem_of_getElem? (i := 65) (by decide +kernel)), ⟨by decide +kernel, by decide +kernel⟩, by decide +kernel⟩
theorem kV_X5_rebase : gwV yX5_rebase := ⟨(List.mem_of_getElem? (i := 687) (by decide +kernel)), (List.mem_of_getElem? (i := 688) (by decide +kernel))⟩
theorem kM_X5_recipeAt : gwM yX5_recipeAt cX5_recipeAt 3 (some (.object "LayeredImages$Recipe")) 1 := ⟨(List.mem_of_getElem? (i := 331) (by decide +kernel)), (List.mem_of_getElem? (i := 65) (by decide +kernel)), ⟨by decide +kernel, by decide +kernel⟩, by decide +kernel⟩
theorem kV_X5_recipeAt : gwV yX5_recipeAt := ⟨(List.mem_of_getElem? (i := 330) (by decide +kernel)), (List.mem_of_getElem? (i := 4) (by decide +kernel))⟩
theorem kM_X5_requireContent : gwM yX5_requireContent cX5_requireContent 1 none 1 := ⟨(List.mem_of_getElem? (i := 297) (by decide +kernel)), (List.mem_of_getElem? (i := 65) (by decide +kernel)), ⟨by decide +kernel, by decide +kernel⟩, by decide +kernel⟩
theorem kS_X5_requireContent : gwS yX5_requireContent := (List.mem_of_getElem? (i := 296) (by decide +kernel))
theorem kM_X5_requireIndex : gwM yX5_requireIndex cX5_requireIndex 2 none 2 := ⟨(List.mem_of_getElem? (i := 223) (by decide +kernel)), (List.mem_of_getElem? (i := 65) (by decide +kernel)), ⟨by decide +kernel, by decide +kernel⟩, by decide +kernel⟩
theorem kS_X5_requireIndex : gwS yX5_requireIndex := (List.mem_of_getElem? (i := 222) (by decide +kernel))
theorem kM_X5_requireNoBuild : gwM yX5_requireNoBuild cX5_requireNoBuild 1 none 0 := ⟨(List.mem_of_getElem? (i := 444) (by decide +kernel)), (List.mem_of_getElem? (i := 65) (by decide +kernel)), ⟨by decide +kernel, by decide +kernel⟩, by decide +kernel⟩
theorem kV_X5_requireNoBuild : gwV yX5_requireNoBuild := ⟨(List.mem_of_getElem? (i := 443) (by decide +kernel)), (List.mem_of_getElem? (i := 9) (by decide +kernel))⟩
theorem kM_X5_requireOpen : gwM yX5_requireOpen cX5_requireOpen 1 none 0 := ⟨(List.mem_of_getElem? (i := 450) (by decide +kernel)), (List.mem_of_getElem? (i := 65) (by decide +kernel)), ⟨by decide +kernel, by decide +kernel⟩, by decide +kernel⟩
theorem kV_X5_requireOpen : gwV yX5_requireOpen := ⟨(List.mem_of_getElem? (i := 449) (by decide +kernel)), (List.mem_of_getElem? (i := 10) (by decide +kernel))⟩
theorem kM_X5_reset : gwM yX5_reset cX5_reset 5 (some .int) 2 := ⟨(List.mem_of_getElem? (i := 327) (by decide +kernel)), (List.mem_of_getElem? (i := 65) (by decide +kernel)), ⟨by decide +kernel, by decide +kernel⟩, by decide +kernel⟩
theorem kV_X5_reset : gwV yX5_reset := ⟨(List.mem_of_getElem? (i := 325) (by decide +kernel)), (List.mem_of_getElem? (i := 326) (by decide +kernel))⟩
theorem kM_X5_rootFor : gwM yX5_rootFor cX5_rootFor 4 (some (.object "LayeredImages$Layer")) 1 := ⟨(List.mem_of_getElem? (i := 455) (by decide +kernel)), (List.mem_of_getElem? (i := 65) (by decide +kernel)), ⟨by decide +kernel, by decide +kernel⟩, by decide +kernel⟩
theorem kV_X5_rootFor : gwV yX5_rootFor := ⟨(List.mem_of_getElem? (i := 454) (by decide +kernel)), (List.mem_of_getElem? (i := 11) (by decide +kernel))⟩
theorem kM_X5_setBase : gwM yX5_setBase cX5_setBase 5 (some .int) 3 := ⟨(List.mem_of_getElem? (i := 320) (by decide +kernel)), (List.mem_of_getElem? (i := 65) (by decide +kernel)), ⟨by decide +kernel, by decide +kernel⟩, by decide +kernel⟩
theorem kV_X5_setBase : gwV yX5_setBase := ⟨(List.mem_of_getElem? (i := 318) (by decide +kernel)), (List.mem_of_getElem? (i := 319) (by decide +kernel))⟩
theorem kM_X5_setFile : gwM yX5_setFile cX5_setFile 4 (some .int) 2 := ⟨(List.mem_of_getElem? (i := 220) (by decide +kernel)), (List.mem_of_getElem? (i := 65) (by decide +kernel)), ⟨by decide +kernel, by decide +kernel⟩, by decide +kernel⟩
theorem kV_X5_setFile : gwV yX5_setFile := ⟨(List.mem_of_getElem? (i := 218) (by decide +kernel)), (List.mem_of_getElem? (i := 219) (by decide +kernel))⟩
theorem kM_X5_shownAt : gwM yX5_shownAt cX5_shownAt 4 (some .int) 2 := ⟨(List.mem_of_getElem? (i := 754) (by decide +kernel)), (List.mem_of_getElem? (i := 65) (by decide +kernel)), ⟨by decide +kernel, by decide +kernel⟩, by decide +kernel⟩
theorem kV_X5_shownAt : gwV yX5_shownAt := ⟨(List.mem_of_getElem? (i := 752) (by decide +kernel)), (List.mem_of_getElem? (i := 753) (by decide +kernel))⟩
theorem kM_X5_sizeOf : gwM yX5_sizeOf cX5_sizeOf 2 (some .int) 1 := ⟨(List.mem_of_getElem? (i := 732) (by decide +kernel)), (List.mem_of_getElem? (i := 65) (by decide +kernel)), ⟨by decide +kernel, by decide +kernel⟩, by decide +kernel⟩
theorem kV_X5_sizeOf : gwV yX5_sizeOf := ⟨(List.mem_of_getElem? (i := 730) (by decide +kernel)), (List.mem_of_getElem? (i := 731) (by decide +kernel))⟩
theorem kM_X5_squash : gwM yX5_squash cX5_squash 5 (some .int) 2 := ⟨(List.mem_of_getElem? (i := 667) (by decide +kernel)), (List.mem_of_getElem? (i := 65) (by decide +kernel)), ⟨by decide +kernel, by decide +kernel⟩, by decide +kernel⟩
theorem kV_X5_squash : gwV yX5_squash := ⟨(List.mem_of_getElem? (i := 665) (by decide +kernel)), (List.mem_of_getElem? (i := 666) (by decide +kernel))⟩
theorem kM_X5_start : gwM yX5_start cX5_start 4 (some .int) 1 := ⟨(List.mem_of_getElem? (i := 440) (by decide +kernel)), (List.mem_of_getElem? (i := 65) (by decide +kernel)), ⟨by decide +kernel, by decide +kernel⟩, by decide +kernel⟩
theorem kV_X5_start : gwV yX5_start := ⟨(List.mem_of_getElem? (i := 438) (by decide +kernel)), (List.mem_of_getElem? (i := 439) (by decide +kernel))⟩
theorem kM_X5_step : gwM yX5_step cX5_step 5 (some .int) 0 := ⟨(List.mem_of_getElem? (i := 539) (by decide +kernel)), (List.mem_of_getElem? (i := 65) (by decide +kernel)), ⟨by decide +kernel, by decide +kernel⟩, by decide +kernel⟩
theorem kV_X5_step : gwV yX5_step := ⟨(List.mem_of_getElem? (i := 537) (by decide +kernel)), (List.mem_of_getElem? (i := 538) (by decide +kernel))⟩
theorem kM_X5_stepsLeft : gwM yX5_stepsLeft cX5_stepsLeft 1 (some .int) 0 := ⟨(List.mem_of_getElem? (i := 179) (by decide +kernel)), (List.mem_of_getElem? (i := 65) (by decide +kernel)), ⟨by decide +kernel, by decide +kernel⟩, by decide +kernel⟩
theorem kV_X5_stepsLeft : gwV yX5_stepsLeft := ⟨(List.mem_of_getElem? (i := 177) (by decide +kernel)), (List.mem_of_getElem? (i := 178) (by decide +kernel))⟩
theorem kM_X5_tag : gwM yX5_tag cX5_tag 4 (some .int) 1 := ⟨(List.mem_of_getElem? (i := 645) (by decide +kernel)), (List.mem_of_getElem? (i := 65) (by decide +kernel)), ⟨by decide +kernel, by decide +kernel⟩, by decide +kernel⟩
theorem kV_X5_tag : gwV yX5_tag := ⟨(List.mem_of_getElem? (i := 643) (by decide +kernel)), (List.mem_of_getElem? (i := 644) (by decide +kernel))⟩
theorem kM_X5_tagged : gwM yX5_tagged cX5_tagged 2 (some .int) 1 := ⟨(List.mem_of_getElem? (i := 660) (by decide +kernel)), (List.mem_of_getElem? (i := 65) (by decide +kernel)), ⟨by decide +kernel, by decide +kernel⟩, by decide +kernel⟩
theorem kV_X5_tagged : gwV yX5_tagged := ⟨(List.mem_of_getElem? (i := 658) (by decide +kernel)), (List.mem_of_getElem? (i := 659) (by decide +kernel))⟩
theorem kM_X5_untag : gwM yX5_untag cX5_untag 3 (some .int) 1 := ⟨(List.mem_of_getElem? (i := 653) (by decide +kernel)), (List.mem_of_getElem? (i := 65) (by decide +kernel)), ⟨by decide +kernel, by decide +kernel⟩, by decide +kernel⟩
theorem kV_X5_untag : gwV yX5_untag := ⟨(List.mem_of_getElem? (i := 651) (by decide +kernel)), (List.mem_of_getElem? (i := 652) (by decide +kernel))⟩
theorem kM_X5_variable : gwM yX5_variable cX5_variable 4 (some .int) 2 := ⟨(List.mem_of_getElem? (i := 762) (by decide +kernel)), (List.mem_of_getElem? (i := 65) (by decide +kernel)), ⟨by decide +kernel, by decide +kernel⟩, by decide +kernel⟩
theorem kV_X5_variable : gwV yX5_variable := ⟨(List.mem_of_getElem? (i := 760) (by decide +kernel)), (List.mem_of_getElem? (i := 761) (by decide +kernel))⟩
theorem kM_X6_addCopy : gwM yX6_addCopy cX6_addCopy 5 (some .int) 3 := ⟨(List.mem_of_getElem? (i := 918) (by decide +kernel)), (List.mem_of_getElem? (i := 70) (by decide +kernel)), ⟨by decide +kernel, by decide +kernel⟩, by decide +kernel⟩
theorem kV_X6_addCopy : gwV yX6_addCopy := ⟨(List.mem_of_getElem? (i := 916) (by decide +kernel)), (List.mem_of_getElem? (i := 917) (by decide +kernel))⟩
theorem kM_X6_addMove : gwM yX6_addMove cX6_addMove 5 (some .int) 3 := ⟨(List.mem_of_getElem? (i := 930) (by decide +kernel)), (List.mem_of_getElem? (i := 70) (by decide +kernel)), ⟨by decide +kernel, by decide +kernel⟩, by decide +kernel⟩
theorem kV_X6_addMove : gwV yX6_addMove := ⟨(List.mem_of_getElem? (i := 928) (by decide +kernel)), (List.mem_of_getElem? (i := 929) (by decide +kernel))⟩
theorem kM_X6_addRemove : gwM yX6_addRemove cX6_addRemove 4 (some .int) 2 := ⟨(List.mem_of_getElem? (i := 934) (by decide +kernel)), (List.mem_of_getElem? (i := 70) (by decide +kernel)), ⟨by decide +kernel, by decide +kernel⟩, by decide +kernel⟩
theorem kV_X6_addRemove : gwV yX6_addRemove := ⟨(List.mem_of_getElem? (i := 932) (by decide +kernel)), (List.mem_of_getElem? (i := 933) (by decide +kernel))⟩
theorem kM_X6_addRun : gwM yX6_addRun cX6_addRun 5 (some .int) 3 := ⟨(List.mem_of_getElem? (i := 926) (by decide +kernel)), (List.mem_of_getElem? (i := 70) (by decide +kernel)), ⟨by decide +kernel, by decide +kernel⟩, by decide +kernel⟩
theorem kV_X6_addRun : gwV yX6_addRun := ⟨(List.mem_of_getElem? (i := 924) (by decide +kernel)), (List.mem_of_getElem? (i := 925) (by decide +kernel))⟩
theorem kM_X6_addSet : gwM yX6_addSet cX6_addSet 5 (some .int) 3 := ⟨(List.mem_of_getElem? (i := 938) (by decide +kernel)), (List.mem_of_getElem? (i := 70) (by decide +kernel)), ⟨by decide +kernel, by decide +kernel⟩, by decide +kernel⟩
theorem kV_X6_addSet : gwV yX6_addSet := ⟨(List.mem_of_getElem? (i := 936) (by decide +kernel)), (List.mem_of_getElem? (i := 937) (by decide +kernel))⟩
theorem kM_X6_adds : gwM yX6_adds cX6_adds 8 (some .int) 6 := ⟨(List.mem_of_getElem? (i := 922) (by decide +kernel)), (List.mem_of_getElem? (i := 70) (by decide +kernel)), ⟨by decide +kernel, by decide +kernel⟩, by decide +kernel⟩
theorem kV_X6_adds : gwV yX6_adds := ⟨(List.mem_of_getElem? (i := 921) (by decide +kernel)), (List.mem_of_getElem? (i := 49) (by decide +kernel))⟩
theorem kM_X6_begins : gwM yX6_begins cX6_begins 3 none 1 := ⟨(List.mem_of_getElem? (i := 954) (by decide +kernel)), (List.mem_of_getElem? (i := 70) (by decide +kernel)), ⟨by decide +kernel, by decide +kernel⟩, by decide +kernel⟩
theorem kV_X6_begins : gwV yX6_begins := ⟨(List.mem_of_getElem? (i := 953) (by decide +kernel)), (List.mem_of_getElem? (i := 50) (by decide +kernel))⟩
theorem kM_X6_build : gwM yX6_build cX6_build 3 (some .int) 1 := ⟨(List.mem_of_getElem? (i := 990) (by decide +kernel)), (List.mem_of_getElem? (i := 70) (by decide +kernel)), ⟨by decide +kernel, by decide +kernel⟩, by decide +kernel⟩
theorem kV_X6_build : gwV yX6_build := ⟨(List.mem_of_getElem? (i := 988) (by decide +kernel)), (List.mem_of_getElem? (i := 989) (by decide +kernel))⟩
theorem kM_X6_built : gwM yX6_built cX6_built 1 (some .int) 0 := ⟨(List.mem_of_getElem? (i := 1002) (by decide +kernel)), (List.mem_of_getElem? (i := 70) (by decide +kernel)), ⟨by decide +kernel, by decide +kernel⟩, by decide +kernel⟩
theorem kV_X6_built : gwV yX6_built := ⟨(List.mem_of_getElem? (i := 1000) (by decide +kernel)), (List.mem_of_getElem? (i := 1001) (by decide +kernel))⟩
theorem kM_X6_cached : gwM yX6_cached cX6_cached 8 (some .int) 4 := ⟨(List.mem_of_getElem? (i := 982) (by decide +kernel)), (List.mem_of_getElem? (i := 70) (by decide +kernel)), ⟨by decide +kernel, by decide +kernel⟩, by decide +kernel⟩
theorem kV_X6_cached : gwV yX6_cached := ⟨(List.mem_of_getElem? (i := 981) (by decide +kernel)), (List.mem_of_getElem? (i := 56) (by decide +kernel))⟩
theorem kM_X6_canStep : gwM yX6_canStep cX6_canStep 3 (some .boolean) 2 := ⟨(List.mem_of_getElem? (i := 974) (by decide +kernel)), (List.mem_of_getElem? (i := 70) (by decide +kernel)), ⟨by decide +kernel, by decide +kernel⟩, by decide +kernel⟩
theorem kV_X6_canStep : gwV yX6_canStep := ⟨(List.mem_of_getElem? (i := 973) (by decide +kernel)), (List.mem_of_getElem? (i := 54) (by decide +kernel))⟩
theorem kM_X6_cleanDigest : gwM yX6_cleanDigest cX6_cleanDigest 5 (some .int) 1 := ⟨(List.mem_of_getElem? (i := 1018) (by decide +kernel)), (List.mem_of_getElem? (i := 70) (by decide +kernel)), ⟨by decide +kernel, by decide +kernel⟩, by decide +kernel⟩
theorem kV_X6_cleanDigest : gwV yX6_cleanDigest := ⟨(List.mem_of_getElem? (i := 1016) (by decide +kernel)), (List.mem_of_getElem? (i := 1017) (by decide +kernel))⟩
theorem kM_X6_cleans : gwM yX6_cleans cX6_cleans 5 (some .boolean) 3 := ⟨(List.mem_of_getElem? (i := 1022) (by decide +kernel)), (List.mem_of_getElem? (i := 70) (by decide +kernel)), ⟨by decide +kernel, by decide +kernel⟩, by decide +kernel⟩
theorem kV_X6_cleans : gwV yX6_cleans := ⟨(List.mem_of_getElem? (i := 1021) (by decide +kernel)), (List.mem_of_getElem? (i := 60) (by decide +kernel))⟩
theorem kM_X6_deep : gwM yX6_deep cX6_deep 4 (some .int) 1 := ⟨(List.mem_of_getElem? (i := 1043) (by decide +kernel)), (List.mem_of_getElem? (i := 70) (by decide +kernel)), ⟨by decide +kernel, by decide +kernel⟩, by decide +kernel⟩
theorem kV_X6_deep : gwV yX6_deep := ⟨(List.mem_of_getElem? (i := 1042) (by decide +kernel)), (List.mem_of_getElem? (i := 61) (by decide +kernel))⟩
theorem kM_X6_depth : gwM yX6_depth cX6_depth 2 (some .int) 1 := ⟨(List.mem_of_getElem? (i := 1087) (by decide +kernel)), (List.mem_of_getElem? (i := 70) (by decide +kernel)), ⟨by decide +kernel, by decide +kernel⟩, by decide +kernel⟩
theorem kV_X6_depth : gwV yX6_depth := ⟨(List.mem_of_getElem? (i := 1085) (by decide +kernel)), (List.mem_of_getElem? (i := 1086) (by decide +kernel))⟩
theorem kM_X6_digest : gwM yX6_digest cX6_digest 5 (some .int) 1 := ⟨(List.mem_of_getElem? (i := 1095) (by decide +kernel)), (List.mem_of_getElem? (i := 70) (by decide +kernel)), ⟨by decide +kernel, by decide +kernel⟩, by decide +kernel⟩
theorem kV_X6_digest : gwV yX6_digest := ⟨(List.mem_of_getElem? (i := 1093) (by decide +kernel)), (List.mem_of_getElem? (i := 1094) (by decide +kernel))⟩
theorem kM_X6_drop : gwM yX6_drop cX6_drop 5 (some .int) 2 := ⟨(List.mem_of_getElem? (i := 942) (by decide +kernel)), (List.mem_of_getElem? (i := 70) (by decide +kernel)), ⟨by decide +kernel, by decide +kernel⟩, by decide +kernel⟩
theorem kV_X6_drop : gwV yX6_drop := ⟨(List.mem_of_getElem? (i := 940) (by decide +kernel)), (List.mem_of_getElem? (i := 941) (by decide +kernel))⟩
theorem kM_X6_fails : gwM yX6_fails cX6_fails 2 (some .boolean) 1 := ⟨(List.mem_of_getElem? (i := 906) (by decide +kernel)), (List.mem_of_getElem? (i := 70) (by decide +kernel)), ⟨by decide +kernel, by decide +kernel⟩, by decide +kernel⟩
theorem kV_X6_fails : gwV yX6_fails := ⟨(List.mem_of_getElem? (i := 905) (by decide +kernel)), (List.mem_of_getElem? (i := 48) (by decide +kernel))⟩
theorem kM_X6_goes : gwM yX6_goes cX6_goes 6 (some .int) 0 := ⟨(List.mem_of_getElem? (i := 970) (by decide +kernel)), (List.mem_of_getElem? (i := 70) (by decide +kernel)), ⟨by decide +kernel, by decide +kernel⟩, by decide +kernel⟩
theorem kV_X6_goes : gwV yX6_goes := ⟨(List.mem_of_getElem? (i := 969) (by decide +kernel)), (List.mem_of_getElem? (i := 53) (by decide +kernel))⟩
theorem kM_X6_heldAt : gwM yX6_heldAt cX6_heldAt 3 (some .int) 2 := ⟨(List.mem_of_getElem? (i := 1075) (by decide +kernel)), (List.mem_of_getElem? (i := 70) (by decide +kernel)), ⟨by decide +kernel, by decide +kernel⟩, by decide +kernel⟩
theorem kV_X6_heldAt : gwV yX6_heldAt := ⟨(List.mem_of_getElem? (i := 1073) (by decide +kernel)), (List.mem_of_getElem? (i := 1074) (by decide +kernel))⟩
theorem kM_X6_hits : gwM yX6_hits cX6_hits 1 (some .int) 0 := ⟨(List.mem_of_getElem? (i := 1010) (by decide +kernel)), (List.mem_of_getElem? (i := 70) (by decide +kernel)), ⟨by decide +kernel, by decide +kernel⟩, by decide +kernel⟩
theorem kV_X6_hits : gwV yX6_hits := ⟨(List.mem_of_getElem? (i := 1008) (by decide +kernel)), (List.mem_of_getElem? (i := 1009) (by decide +kernel))⟩
theorem kM_X6_imageSize : gwM yX6_imageSize cX6_imageSize 4 (some .int) 1 := ⟨(List.mem_of_getElem? (i := 1091) (by decide +kernel)), (List.mem_of_getElem? (i := 70) (by decide +kernel)), ⟨by decide +kernel, by decide +kernel⟩, by decide +kernel⟩
theorem kV_X6_imageSize : gwV yX6_imageSize := ⟨(List.mem_of_getElem? (i := 1089) (by decide +kernel)), (List.mem_of_getElem? (i := 1090) (by decide +kernel))⟩
theorem kM_X6_init : gwM yX6_init cX6_init 2 none 0 := ⟨(List.mem_of_getElem? (i := 789) (by decide +kernel)), (List.mem_of_getElem? (i := 70) (by decide +kernel)), ⟨by decide +kernel, by decide +kernel⟩, by decide +kernel⟩
theorem kI_X6_init : gwI yX6_init := ⟨(List.mem_of_getElem? (i := 788) (by decide +kernel)), rfl⟩
theorem kM_X6_instructions : gwM yX6_instructions cX6_instructions 2 (some .int) 1 := ⟨(List.mem_of_getElem? (i := 946) (by decide +kernel)), (List.mem_of_getElem? (i := 70) (by decide +kernel)), ⟨by decide +kernel, by decide +kernel⟩, by decide +kernel⟩
theorem kV_X6_instructions : gwV yX6_instructions := ⟨(List.mem_of_getElem? (i := 944) (by decide +kernel)), (List.mem_of_getElem? (i := 945) (by decide +kernel))⟩
theorem kM_X6_is : gwM yX6_is cX6_is 2 (some .boolean) 1 := ⟨(List.mem_of_getElem? (i := 1063) (by decide +kernel)), (List.mem_of_getElem? (i := 70) (by decide +kernel)), ⟨by decide +kernel, by decide +kernel⟩, by decide +kernel⟩
theorem kV_X6_is : gwV yX6_is := ⟨(List.mem_of_getElem? (i := 1062) (by decide +kernel)), (List.mem_of_getElem? (i := 62) (by decide +kernel))⟩
theorem kM_X6_isContent : gwM yX6_isContent cX6_isContent 1 (some .boolean) 1 := ⟨(List.mem_of_getElem? (i := 902) (by decide +kernel)), (List.mem_of_getElem? (i := 70) (by decide +kernel)), ⟨by decide +kernel, by decide +kernel⟩, by decide +kernel⟩
theorem kS_X6_isContent : gwS yX6_isContent := (List.mem_of_getElem? (i := 901) (by decide +kernel))
theorem kM_X6_isIn : gwM yX6_isIn cX6_isIn 2 (some .boolean) 2 := ⟨(List.mem_of_getElem? (i := 899) (by decide +kernel)), (List.mem_of_getElem? (i := 70) (by decide +kernel)), ⟨by decide +kernel, by decide +kernel⟩, by decide +kernel⟩
theorem kS_X6_isIn : gwS yX6_isIn := (List.mem_of_getElem? (i := 898) (by decide +kernel))
theorem kM_X6_layerFor : gwM yX6_layerFor cX6_layerFor 8 (some .int) 4 := ⟨(List.mem_of_getElem? (i := 986) (by decide +kernel)), (List.mem_of_getElem? (i := 70) (by decide +kernel)), ⟨by decide +kernel, by decide +kernel⟩, by decide +kernel⟩
theorem kV_X6_layerFor : gwV yX6_layerFor := ⟨(List.mem_of_getElem? (i := 985) (by decide +kernel)), (List.mem_of_getElem? (i := 57) (by decide +kernel))⟩
theorem kM_X6_layers : gwM yX6_layers cX6_layers 1 (some .int) 0 := ⟨(List.mem_of_getElem? (i := 1055) (by decide +kernel)), (List.mem_of_getElem? (i := 70) (by decide +kernel)), ⟨by decide +kernel, by decide +kernel⟩, by decide +kernel⟩
theorem kV_X6_layers : gwV yX6_layers := ⟨(List.mem_of_getElem? (i := 1053) (by decide +kernel)), (List.mem_of_getElem? (i := 1054) (by decide +kernel))⟩
theorem kM_X6_makes : gwM yX6_makes cX6_makes 3 (some .int) 1 := ⟨(List.mem_of_getElem? (i := 962) (by decide +kernel)), (List.mem_of_getElem? (i := 70) (by decide +kernel)), ⟨by decide +kernel, by decide +kernel⟩, by decide +kernel⟩
theorem kV_X6_makes : gwV yX6_makes := ⟨(List.mem_of_getElem? (i := 961) (by decide +kernel)), (List.mem_of_getElem? (i := 52) (by decide +kernel))⟩
theorem kM_X6_misses : gwM yX6_misses cX6_misses 1 (some .int) 0 := ⟨(List.mem_of_getElem? (i := 1014) (by decide +kernel)), (List.mem_of_getElem? (i := 70) (by decide +kernel)), ⟨by decide +kernel, by decide +kernel⟩, by decide +kernel⟩
theorem kV_X6_misses : gwV yX6_misses := ⟨(List.mem_of_getElem? (i := 1012) (by decide +kernel)), (List.mem_of_getElem? (i := 1013) (by decide +kernel))⟩
theorem kM_X6_parentOf : gwM yX6_parentOf cX6_parentOf 2 (some .int) 1 := ⟨(List.mem_of_getElem? (i := 1059) (by decide +kernel)), (List.mem_of_getElem? (i := 70) (by decide +kernel)), ⟨by decide +kernel, by decide +kernel⟩, by decide +kernel⟩
theorem kV_X6_parentOf : gwV yX6_parentOf := ⟨(List.mem_of_getElem? (i := 1057) (by decide +kernel)), (List.mem_of_getElem? (i := 1058) (by decide +kernel))⟩
theorem kM_X6_prune : gwM yX6_prune cX6_prune 3 (some .int) 0 := ⟨(List.mem_of_getElem? (i := 1051) (by decide +kernel)), (List.mem_of_getElem? (i := 70) (by decide +kernel)), ⟨by decide +kernel, by decide +kernel⟩, by decide +kernel⟩
theorem kV_X6_prune : gwV yX6_prune := ⟨(List.mem_of_getElem? (i := 1049) (by decide +kernel)), (List.mem_of_getElem? (i := 1050) (by decide +kernel))⟩
theorem kM_X6_rebase : gwM yX6_rebase cX6_rebase 11 (some .int) 2 := ⟨(List.mem_of_getElem? (i := 1047) (by decide +kernel)), (List.mem_of_getElem? (i := 70) (by decide +kernel)), ⟨by decide +kernel, by decide +kernel⟩, by decide +kernel⟩
theorem kV_X6_rebase : gwV yX6_rebase := ⟨(List.mem_of_getElem? (i := 1045) (by decide +kernel)), (List.mem_of_getElem? (i := 1046) (by decide +kernel))⟩
theorem kM_X6_reset : gwM yX6_reset cX6_reset 4 (some .int) 2 := ⟨(List.mem_of_getElem? (i := 914) (by decide +kernel)), (List.mem_of_getElem? (i := 70) (by decide +kernel)), ⟨by decide +kernel, by decide +kernel⟩, by decide +kernel⟩
theorem kV_X6_reset : gwV yX6_reset := ⟨(List.mem_of_getElem? (i := 912) (by decide +kernel)), (List.mem_of_getElem? (i := 913) (by decide +kernel))⟩
theorem kM_X6_result : gwM yX6_result cX6_result 1 (some .int) 0 := ⟨(List.mem_of_getElem? (i := 1006) (by decide +kernel)), (List.mem_of_getElem? (i := 70) (by decide +kernel)), ⟨by decide +kernel, by decide +kernel⟩, by decide +kernel⟩
theorem kV_X6_result : gwV yX6_result := ⟨(List.mem_of_getElem? (i := 1005) (by decide +kernel)), (List.mem_of_getElem? (i := 59) (by decide +kernel))⟩
theorem kM_X6_root : gwM yX6_root cX6_root 6 (some .int) 1 := ⟨(List.mem_of_getElem? (i := 958) (by decide +kernel)), (List.mem_of_getElem? (i := 70) (by decide +kernel)), ⟨by decide +kernel, by decide +kernel⟩, by decide +kernel⟩
theorem kV_X6_root : gwV yX6_root := ⟨(List.mem_of_getElem? (i := 957) (by decide +kernel)), (List.mem_of_getElem? (i := 51) (by decide +kernel))⟩
theorem kM_X6_setBase : gwM yX6_setBase cX6_setBase 5 (some .int) 3 := ⟨(List.mem_of_getElem? (i := 910) (by decide +kernel)), (List.mem_of_getElem? (i := 70) (by decide +kernel)), ⟨by decide +kernel, by decide +kernel⟩, by decide +kernel⟩
theorem kV_X6_setBase : gwV yX6_setBase := ⟨(List.mem_of_getElem? (i := 908) (by decide +kernel)), (List.mem_of_getElem? (i := 909) (by decide +kernel))⟩
theorem kM_X6_setFile : gwM yX6_setFile cX6_setFile 4 (some .int) 2 := ⟨(List.mem_of_getElem? (i := 896) (by decide +kernel)), (List.mem_of_getElem? (i := 70) (by decide +kernel)), ⟨by decide +kernel, by decide +kernel⟩, by decide +kernel⟩
theorem kV_X6_setFile : gwV yX6_setFile := ⟨(List.mem_of_getElem? (i := 894) (by decide +kernel)), (List.mem_of_getElem? (i := 895) (by decide +kernel))⟩
theorem kM_X6_shownAt : gwM yX6_shownAt cX6_shownAt 3 (some .int) 2 := ⟨(List.mem_of_getElem? (i := 1079) (by decide +kernel)), (List.mem_of_getElem? (i := 70) (by decide +kernel)), ⟨by decide +kernel, by decide +kernel⟩, by decide +kernel⟩
theorem kV_X6_shownAt : gwV yX6_shownAt := ⟨(List.mem_of_getElem? (i := 1077) (by decide +kernel)), (List.mem_of_getElem? (i := 1078) (by decide +kernel))⟩
theorem kM_X6_shows : gwM yX6_shows cX6_shows 4 (some .int) 2 := ⟨(List.mem_of_getElem? (i := 978) (by decide +kernel)), (List.mem_of_getElem? (i := 70) (by decide +kernel)), ⟨by decide +kernel, by decide +kernel⟩, by decide +kernel⟩
theorem kV_X6_shows : gwV yX6_shows := ⟨(List.mem_of_getElem? (i := 977) (by decide +kernel)), (List.mem_of_getElem? (i := 55) (by decide +kernel))⟩
theorem kM_X6_size : gwM yX6_size cX6_size 4 (some .int) 1 := ⟨(List.mem_of_getElem? (i := 1071) (by decide +kernel)), (List.mem_of_getElem? (i := 70) (by decide +kernel)), ⟨by decide +kernel, by decide +kernel⟩, by decide +kernel⟩
theorem kV_X6_size : gwV yX6_size := ⟨(List.mem_of_getElem? (i := 1070) (by decide +kernel)), (List.mem_of_getElem? (i := 63) (by decide +kernel))⟩
theorem kM_X6_sizeOf : gwM yX6_sizeOf cX6_sizeOf 2 (some .int) 1 := ⟨(List.mem_of_getElem? (i := 1067) (by decide +kernel)), (List.mem_of_getElem? (i := 70) (by decide +kernel)), ⟨by decide +kernel, by decide +kernel⟩, by decide +kernel⟩
theorem kV_X6_sizeOf : gwV yX6_sizeOf := ⟨(List.mem_of_getElem? (i := 1065) (by decide +kernel)), (List.mem_of_getElem? (i := 1066) (by decide +kernel))⟩
theorem kM_X6_squash : gwM yX6_squash cX6_squash 10 (some .int) 2 := ⟨(List.mem_of_getElem? (i := 1039) (by decide +kernel)), (List.mem_of_getElem? (i := 70) (by decide +kernel)), ⟨by decide +kernel, by decide +kernel⟩, by decide +kernel⟩
theorem kV_X6_squash : gwV yX6_squash := ⟨(List.mem_of_getElem? (i := 1037) (by decide +kernel)), (List.mem_of_getElem? (i := 1038) (by decide +kernel))⟩
theorem kM_X6_start : gwM yX6_start cX6_start 2 (some .int) 1 := ⟨(List.mem_of_getElem? (i := 950) (by decide +kernel)), (List.mem_of_getElem? (i := 70) (by decide +kernel)), ⟨by decide +kernel, by decide +kernel⟩, by decide +kernel⟩
theorem kV_X6_start : gwV yX6_start := ⟨(List.mem_of_getElem? (i := 948) (by decide +kernel)), (List.mem_of_getElem? (i := 949) (by decide +kernel))⟩
theorem kM_X6_step : gwM yX6_step cX6_step 1 (some .int) 0 := ⟨(List.mem_of_getElem? (i := 966) (by decide +kernel)), (List.mem_of_getElem? (i := 70) (by decide +kernel)), ⟨by decide +kernel, by decide +kernel⟩, by decide +kernel⟩
theorem kV_X6_step : gwV yX6_step := ⟨(List.mem_of_getElem? (i := 964) (by decide +kernel)), (List.mem_of_getElem? (i := 965) (by decide +kernel))⟩
theorem kM_X6_stepsLeft : gwM yX6_stepsLeft cX6_stepsLeft 1 (some .int) 0 := ⟨(List.mem_of_getElem? (i := 994) (by decide +kernel)), (List.mem_of_getElem? (i := 70) (by decide +kernel)), ⟨by decide +kernel, by decide +kernel⟩, by decide +kernel⟩
theorem kV_X6_stepsLeft : gwV yX6_stepsLeft := ⟨(List.mem_of_getElem? (i := 992) (by decide +kernel)), (List.mem_of_getElem? (i := 993) (by decide +kernel))⟩
theorem kM_X6_tag : gwM yX6_tag cX6_tag 3 (some .int) 1 := ⟨(List.mem_of_getElem? (i := 1027) (by decide +kernel)), (List.mem_of_getElem? (i := 70) (by decide +kernel)), ⟨by decide +kernel, by decide +kernel⟩, by decide +kernel⟩
theorem kV_X6_tag : gwV yX6_tag := ⟨(List.mem_of_getElem? (i := 1025) (by decide +kernel)), (List.mem_of_getElem? (i := 1026) (by decide +kernel))⟩
theorem kM_X6_tagged : gwM yX6_tagged cX6_tagged 2 (some .int) 1 := ⟨(List.mem_of_getElem? (i := 1035) (by decide +kernel)), (List.mem_of_getElem? (i := 70) (by decide +kernel)), ⟨by decide +kernel, by decide +kernel⟩, by decide +kernel⟩
theorem kV_X6_tagged : gwV yX6_tagged := ⟨(List.mem_of_getElem? (i := 1033) (by decide +kernel)), (List.mem_of_getElem? (i := 1034) (by decide +kernel))⟩
theorem kM_X6_tells : gwM yX6_tells cX6_tells 2 (some .int) 1 := ⟨(List.mem_of_getElem? (i := 998) (by decide +kernel)), (List.mem_of_getElem? (i := 70) (by decide +kernel)), ⟨by decide +kernel, by decide +kernel⟩, by decide +kernel⟩
theorem kV_X6_tells : gwV yX6_tells := ⟨(List.mem_of_getElem? (i := 997) (by decide +kernel)), (List.mem_of_getElem? (i := 58) (by decide +kernel))⟩
theorem kM_X6_thrown : gwM yX6_thrown cX6_thrown 1 (some .int) 0 := ⟨(List.mem_of_getElem? (i := 892) (by decide +kernel)), (List.mem_of_getElem? (i := 70) (by decide +kernel)), ⟨by decide +kernel, by decide +kernel⟩, by decide +kernel⟩
theorem kV_X6_thrown : gwV yX6_thrown := ⟨(List.mem_of_getElem? (i := 890) (by decide +kernel)), (List.mem_of_getElem? (i := 891) (by decide +kernel))⟩
theorem kM_X6_untag : gwM yX6_untag cX6_untag 3 (some .int) 1 := ⟨(List.mem_of_getElem? (i := 1031) (by decide +kernel)), (List.mem_of_getElem? (i := 70) (by decide +kernel)), ⟨by decide +kernel, by decide +kernel⟩, by decide +kernel⟩
theorem kV_X6_untag : gwV yX6_untag := ⟨(List.mem_of_getElem? (i := 1029) (by decide +kernel)), (List.mem_of_getElem? (i := 1030) (by decide +kernel))⟩
theorem kM_X6_variable : gwM yX6_variable cX6_variable 3 (some .int) 2 := ⟨(List.mem_of_getElem? (i := 1083) (by decide +kernel)), (List.mem_of_getElem? (i := 70) (by decide +kernel)), ⟨by decide +kernel, by decide +kernel⟩, by decide +kernel⟩
theorem kV_X6_variable : gwV yX6_variable := ⟨(List.mem_of_getElem? (i := 1081) (by decide +kernel)), (List.mem_of_getElem? (i := 1082) (by decide +kernel))⟩
theorem kL_X5_32 : gwL RX5 32 yX4_init := Or.inr ⟨"LayeredImages", (List.mem_of_getElem? (i := 95) (by decide +kernel))⟩
theorem kL_X5_39 : gwL RX5 39 yX0_init := Or.inr ⟨"LayeredImages", (List.mem_of_getElem? (i := 111) (by decide +kernel))⟩
theorem kW_X5_44 : Cond.methodLink RX5 44 yJ7_fill_53178 ∈ lw_tbl := (List.mem_of_getElem? (i := 147) (by decide +kernel))
theorem kL_X5_44 : gwL RX5 44 yJ7_fill_53178 := Or.inl kW_X5_44
theorem kL_X5_50 : gwL RX5 50 yX3_init := Or.inr ⟨"LayeredImages", (List.mem_of_getElem? (i := 150) (by decide +kernel))⟩
theorem kW_X5_51 : Cond.methodLink RX5 51 yX5_requireIndex ∈ lw_tbl := (List.mem_of_getElem? (i := 221) (by decide +kernel))
theorem kL_X5_51 : gwL RX5 51 yX5_requireIndex := Or.inl kW_X5_51
theorem kW_X5_55 : Cond.methodLink RX5 55 yX5_requireContent ∈ lw_tbl := (List.mem_of_getElem? (i := 295) (by decide +kernel))
theorem kL_X5_55 : gwL RX5 55 yX5_requireContent := Or.inl kW_X5_55
theorem kW_X5_59 : Cond.methodLink RX5 59 yX5_recipeAt ∈ lw_tbl := (List.mem_of_getElem? (i := 328) (by decide +kernel))
theorem kL_X5_59 : gwL RX5 59 yX5_recipeAt := Or.inl kW_X5_59
theorem kL_X5_67 : gwL RX5 67 yX3_clearOn := Or.inr ⟨"LayeredImages", (List.mem_of_getElem? (i := 333) (by decide +kernel))⟩
theorem kW_X5_70 : Cond.methodLink RX5 70 yX5_addInstruction ∈ lw_tbl := (List.mem_of_getElem? (i := 345) (by decide +kernel))
theorem kL_X5_70 : gwL RX5 70 yX5_addInstruction := Or.inl kW_X5_70
theorem kL_X5_83 : gwL RX5 83 yX3_removeAt := Or.inr ⟨"LayeredImages", (List.mem_of_getElem? (i := 423) (by decide +kernel))⟩
theorem kW_X5_86 : Cond.methodLink RX5 86 yX5_requireNoBuild ∈ lw_tbl := (List.mem_of_getElem? (i := 441) (by decide +kernel))
theorem kL_X5_86 : gwL RX5 86 yX5_requireNoBuild := Or.inl kW_X5_86
theorem kW_X5_89 : Cond.methodLink RX5 89 yX5_requireOpen ∈ lw_tbl := (List.mem_of_getElem? (i := 447) (by decide +kernel))
theorem kL_X5_89 : gwL RX5 89 yX5_requireOpen := Or.inl kW_X5_89
theorem kW_X5_95 : Cond.methodLink RX5 95 yX5_rootFor ∈ lw_tbl := (List.mem_of_getElem? (i := 452) (by decide +kernel))
theorem kL_X5_95 : gwL RX5 95 yX5_rootFor := Or.inl kW_X5_95
theorem kL_X5_99 : gwL RX5 99 yX0_begin := Or.inr ⟨"LayeredImages", (List.mem_of_getElem? (i := 519) (by decide +kernel))⟩
theorem kL_X5_106 : gwL RX5 106 yX0_upcoming := Or.inr ⟨"LayeredImages", (List.mem_of_getElem? (i := 540) (by decide +kernel))⟩
theorem kL_X5_119 : gwL RX5 119 yX1_inputFrom := Or.inr ⟨"LayeredImages", (List.mem_of_getElem? (i := 546) (by decide +kernel))⟩
theorem kL_X5_125 : gwL RX5 125 yX1_failsOn := Or.inr ⟨"LayeredImages", (List.mem_of_getElem? (i := 551) (by decide +kernel))⟩
theorem kL_X5_129 : gwL RX5 129 yX0_fail := Or.inr ⟨"LayeredImages", (List.mem_of_getElem? (i := 560) (by decide +kernel))⟩
theorem kW_X5_132 : Cond.methodLink RX5 132 yX5_layerOfStep ∈ lw_tbl := (List.mem_of_getElem? (i := 564) (by decide +kernel))
theorem kL_X5_132 : gwL RX5 132 yX5_layerOfStep := Or.inl kW_X5_132
theorem kL_X5_136 : gwL RX5 136 yX0_advanceTo := Or.inr ⟨"LayeredImages", (List.mem_of_getElem? (i := 610) (by decide +kernel))⟩
theorem kW_X5_140 : Cond.methodLink RX5 140 yX5_start ∈ lw_tbl := (List.mem_of_getElem? (i := 621) (by decide +kernel))
theorem kL_X5_140 : gwL RX5 140 yX5_start := Or.inl kW_X5_140
theorem kL_X5_144 : gwL RX5 144 yX0_goesOn := Or.inr ⟨"LayeredImages", (List.mem_of_getElem? (i := 445) (by decide +kernel))⟩
theorem kW_X5_148 : Cond.methodLink RX5 148 yX5_step ∈ lw_tbl := (List.mem_of_getElem? (i := 622) (by decide +kernel))
theorem kL_X5_148 : gwL RX5 148 yX5_step := Or.inl kW_X5_148
theorem kW_X5_152 : Cond.methodLink RX5 152 yX5_built ∈ lw_tbl := (List.mem_of_getElem? (i := 623) (by decide +kernel))
theorem kL_X5_152 : gwL RX5 152 yX5_built := Or.inl kW_X5_152
theorem kL_X5_155 : gwL RX5 155 yX0_left := Or.inr ⟨"LayeredImages", (List.mem_of_getElem? (i := 180) (by decide +kernel))⟩
theorem kL_X5_158 : gwL RX5 158 yX0_finished := Or.inr ⟨"LayeredImages", (List.mem_of_getElem? (i := 188) (by decide +kernel))⟩
theorem kW_X5_162 : Cond.methodLink RX5 162 yX5_numberOf ∈ lw_tbl := (List.mem_of_getElem? (i := 197) (by decide +kernel))
theorem kL_X5_162 : gwL RX5 162 yX5_numberOf := Or.inl kW_X5_162
theorem kW_X5_172 : Cond.methodLink RX5 172 yX5_contentsOf ∈ lw_tbl := (List.mem_of_getElem? (i := 456) (by decide +kernel))
theorem kL_X5_172 : gwL RX5 172 yX5_contentsOf := Or.inl kW_X5_172
theorem kL_X5_176 : gwL RX5 176 yX2_init := Or.inr ⟨"LayeredImages", (List.mem_of_getElem? (i := 631) (by decide +kernel))⟩
theorem kL_X5_179 : gwL RX5 179 yX3_at := Or.inr ⟨"LayeredImages", (List.mem_of_getElem? (i := 632) (by decide +kernel))⟩
theorem kL_X5_183 : gwL RX5 183 yX1_carryOut := Or.inr ⟨"LayeredImages", (List.mem_of_getElem? (i := 633) (by decide +kernel))⟩
theorem kL_X5_187 : gwL RX5 187 yX2_fingerprint := Or.inr ⟨"LayeredImages", (List.mem_of_getElem? (i := 634) (by decide +kernel))⟩
theorem kL_X5_202 : gwL RX5 202 yX2_partAt := Or.inr ⟨"LayeredImages", (List.mem_of_getElem? (i := 670) (by decide +kernel))⟩
theorem kL_X5_205 : gwL RX5 205 yX4_newChild := Or.inr ⟨"LayeredImages", (List.mem_of_getElem? (i := 580) (by decide +kernel))⟩
theorem kL_X5_209 : gwL RX5 209 yX2_showLike := Or.inr ⟨"LayeredImages", (List.mem_of_getElem? (i := 674) (by decide +kernel))⟩
theorem kL_X5_212 : gwL RX5 212 yX2_holdLike := Or.inr ⟨"LayeredImages", (List.mem_of_getElem? (i := 690) (by decide +kernel))⟩
theorem kL_X5_218 : gwL RX5 218 yX4_find := Or.inr ⟨"LayeredImages", (List.mem_of_getElem? (i := 701) (by decide +kernel))⟩
theorem kW_X5_221 : Cond.methodLink RX5 221 yX5_isInTaggedImage ∈ lw_tbl := (List.mem_of_getElem? (i := 702) (by decide +kernel))
theorem kL_X5_221 : gwL RX5 221 yX5_isInTaggedImage := Or.inl kW_X5_221
theorem kL_X5_225 : gwL RX5 225 yX4_remove := Or.inr ⟨"LayeredImages", (List.mem_of_getElem? (i := 706) (by decide +kernel))⟩
theorem kL_X5_228 : gwL RX5 228 yX0_forget := Or.inr ⟨"LayeredImages", (List.mem_of_getElem? (i := 710) (by decide +kernel))⟩
theorem kW_X5_231 : Cond.methodLink RX5 231 yX5_layerAt ∈ lw_tbl := (List.mem_of_getElem? (i := 721) (by decide +kernel))
theorem kL_X5_231 : gwL RX5 231 yX5_layerAt := Or.inl kW_X5_231
theorem kL_X5_237 : gwL RX5 237 yX2_size := Or.inr ⟨"LayeredImages", (List.mem_of_getElem? (i := 733) (by decide +kernel))⟩
theorem kL_X5_240 : gwL RX5 240 yX2_holds := Or.inr ⟨"LayeredImages", (List.mem_of_getElem? (i := 744) (by decide +kernel))⟩
theorem kL_X5_243 : gwL RX5 243 yX2_shows := Or.inr ⟨"LayeredImages", (List.mem_of_getElem? (i := 755) (by decide +kernel))⟩
theorem kL_X5_246 : gwL RX5 246 yX2_value := Or.inr ⟨"LayeredImages", (List.mem_of_getElem? (i := 763) (by decide +kernel))⟩
theorem kW_X5_249 : Cond.methodLink RX5 249 yX5_isIn ∈ lw_tbl := (List.mem_of_getElem? (i := 224) (by decide +kernel))
theorem kL_X5_249 : gwL RX5 249 yX5_isIn := Or.inl kW_X5_249
theorem kL_X5_267 : gwL RX5 267 yX1_init := Or.inr ⟨"LayeredImages", (List.mem_of_getElem? (i := 367) (by decide +kernel))⟩
theorem kL_X5_270 : gwL RX5 270 yX3_append := Or.inr ⟨"LayeredImages", (List.mem_of_getElem? (i := 381) (by decide +kernel))⟩
theorem kL_X5_274 : gwL RX5 274 yX4_findRoot := Or.inr ⟨"LayeredImages", (List.mem_of_getElem? (i := 460) (by decide +kernel))⟩
theorem kL_X5_278 : gwL RX5 278 yX4_newRoot := Or.inr ⟨"LayeredImages", (List.mem_of_getElem? (i := 474) (by decide +kernel))⟩
theorem kL_X5_281 : gwL RX5 281 yX4_findMade := Or.inr ⟨"LayeredImages", (List.mem_of_getElem? (i := 568) (by decide +kernel))⟩
theorem kL_X5_284 : gwL RX5 284 yX2_becomeMadeBy := Or.inr ⟨"LayeredImages", (List.mem_of_getElem? (i := 587) (by decide +kernel))⟩
theorem kL_X0_9 : gwL RX0 9 yX3_init := Or.inr ⟨"LayeredImages", (List.mem_of_getElem? (i := 117) (by decide +kernel))⟩
theorem kL_X0_16 : gwL RX0 16 yX3_becomeLike := Or.inr ⟨"LayeredImages", (List.mem_of_getElem? (i := 523) (by decide +kernel))⟩
theorem kW_X0_31 : Cond.methodLink RX0 31 yX0_left ∈ lw_tbl := (List.mem_of_getElem? (i := 196) (by decide +kernel))
theorem kL_X0_31 : gwL RX0 31 yX0_left := Or.inl kW_X0_31
theorem kW_X0_35 : Cond.methodLink RX0 35 yX0_goesOn ∈ lw_tbl := (List.mem_of_getElem? (i := 192) (by decide +kernel))
theorem kL_X0_35 : gwL RX0 35 yX0_goesOn := Or.inl kW_X0_35
theorem kL_X0_39 : gwL RX0 39 yX3_at := Or.inr ⟨"LayeredImages", (List.mem_of_getElem? (i := 544) (by decide +kernel))⟩
theorem kL_X1_21 : gwL RX1 21 yX5_isIn := Or.inr ⟨"LayeredImages", (List.mem_of_getElem? (i := 550) (by decide +kernel))⟩
theorem kL_X1_25 : gwL RX1 25 yX2_shows := Or.inr ⟨"LayeredImages", (List.mem_of_getElem? (i := 555) (by decide +kernel))⟩
theorem kL_X1_31 : gwL RX1 31 yX2_hold := Or.inr ⟨"LayeredImages", (List.mem_of_getElem? (i := 595) (by decide +kernel))⟩
theorem kL_X1_35 : gwL RX1 35 yX2_value := Or.inr ⟨"LayeredImages", (List.mem_of_getElem? (i := 599) (by decide +kernel))⟩
theorem kW_X1_38 : Cond.methodLink RX1 38 yX1_runOn ∈ lw_tbl := (List.mem_of_getElem? (i := 603) (by decide +kernel))
theorem kL_X1_38 : gwL RX1 38 yX1_runOn := Or.inl kW_X1_38
theorem kL_X1_42 : gwL RX1 42 yX2_assign := Or.inr ⟨"LayeredImages", (List.mem_of_getElem? (i := 606) (by decide +kernel))⟩
theorem kL_X2_35 : gwL RX2 35 yX5_isIn := Or.inr ⟨"LayeredImages", (List.mem_of_getElem? (i := 559) (by decide +kernel))⟩
theorem kL_X2_43 : gwL RX2 43 yX1_carryOut := Or.inr ⟨"LayeredImages", (List.mem_of_getElem? (i := 591) (by decide +kernel))⟩
theorem kL_X2_49 : gwL RX2 49 yX1_isSameAs := Or.inr ⟨"LayeredImages", (List.mem_of_getElem? (i := 576) (by decide +kernel))⟩
theorem kW_X2_53 : Cond.methodLink RX2 53 yX2_hold ∈ lw_tbl := (List.mem_of_getElem? (i := 678) (by decide +kernel))
theorem kL_X2_53 : gwL RX2 53 yX2_hold := Or.inl kW_X2_53
theorem kW_X2_57 : Cond.methodLink RX2 57 yX2_assignLike ∈ lw_tbl := (List.mem_of_getElem? (i := 679) (by decide +kernel))
theorem kL_X2_57 : gwL RX2 57 yX2_assignLike := Or.inl kW_X2_57
theorem kL_X3_17 : gwL RX3 17 yX5_isIn := Or.inr ⟨"LayeredImages", (List.mem_of_getElem? (i := 385) (by decide +kernel))⟩
theorem kW_X3_28 : Cond.methodLink RX3 28 yX3_clearOn ∈ lw_tbl := (List.mem_of_getElem? (i := 527) (by decide +kernel))
theorem kL_X3_28 : gwL RX3 28 yX3_clearOn := Or.inl kW_X3_28
theorem kW_X3_32 : Cond.methodLink RX3 32 yX3_at ∈ lw_tbl := (List.mem_of_getElem? (i := 528) (by decide +kernel))
theorem kL_X3_32 : gwL RX3 32 yX3_at := Or.inl kW_X3_32
theorem kW_X3_36 : Cond.methodLink RX3 36 yX3_append ∈ lw_tbl := (List.mem_of_getElem? (i := 532) (by decide +kernel))
theorem kL_X3_36 : gwL RX3 36 yX3_append := Or.inl kW_X3_36
theorem kL_X4_17 : gwL RX4 17 yX5_isIn := Or.inr ⟨"LayeredImages", (List.mem_of_getElem? (i := 468) (by decide +kernel))⟩
theorem kW_X4_25 : Cond.methodLink RX4 25 yX4_find ∈ lw_tbl := (List.mem_of_getElem? (i := 464) (by decide +kernel))
theorem kL_X4_25 : gwL RX4 25 yX4_find := Or.inl kW_X4_25
theorem kL_X4_29 : gwL RX4 29 yX2_isRootOf := Or.inr ⟨"LayeredImages", (List.mem_of_getElem? (i := 469) (by decide +kernel))⟩
theorem kL_X4_40 : gwL RX4 40 yX2_wasMadeBy := Or.inr ⟨"LayeredImages", (List.mem_of_getElem? (i := 572) (by decide +kernel))⟩
theorem kL_X4_44 : gwL RX4 44 yX2_init := Or.inr ⟨"LayeredImages", (List.mem_of_getElem? (i := 478) (by decide +kernel))⟩
theorem kW_X4_47 : Cond.methodLink RX4 47 yX4_kept ∈ lw_tbl := (List.mem_of_getElem? (i := 512) (by decide +kernel))
theorem kL_X4_47 : gwL RX4 47 yX4_kept := Or.inl kW_X4_47
theorem kL_X4_51 : gwL RX4 51 yX2_init_ := Or.inr ⟨"LayeredImages", (List.mem_of_getElem? (i := 584) (by decide +kernel))⟩
theorem kW_L_7 : Cond.methodLink RL 7 yX5_setFile ∈ lw_tbl := (List.mem_of_getElem? (i := 217) (by decide +kernel))
theorem kL_L_7 : gwL RL 7 yX5_setFile := Or.inl kW_L_7
theorem kW_L_17 : Cond.methodLink RL 17 yX5_setBase ∈ lw_tbl := (List.mem_of_getElem? (i := 317) (by decide +kernel))
theorem kL_L_17 : gwL RL 17 yX5_setBase := Or.inl kW_L_17
theorem kW_L_21 : Cond.methodLink RL 21 yX5_reset ∈ lw_tbl := (List.mem_of_getElem? (i := 324) (by decide +kernel))
theorem kL_L_21 : gwL RL 21 yX5_reset := Or.inl kW_L_21
theorem kW_L_24 : Cond.methodLink RL 24 yX5_addCopy ∈ lw_tbl := (List.mem_of_getElem? (i := 341) (by decide +kernel))
theorem kL_L_24 : gwL RL 24 yX5_addCopy := Or.inl kW_L_24
theorem kW_L_29 : Cond.methodLink RL 29 yX5_addRun ∈ lw_tbl := (List.mem_of_getElem? (i := 389) (by decide +kernel))
theorem kL_L_29 : gwL RL 29 yX5_addRun := Or.inl kW_L_29
theorem kW_L_32 : Cond.methodLink RL 32 yX5_addMove ∈ lw_tbl := (List.mem_of_getElem? (i := 396) (by decide +kernel))
theorem kL_L_32 : gwL RL 32 yX5_addMove := Or.inl kW_L_32
theorem kW_L_35 : Cond.methodLink RL 35 yX5_addRemove ∈ lw_tbl := (List.mem_of_getElem? (i := 404) (by decide +kernel))
theorem kL_L_35 : gwL RL 35 yX5_addRemove := Or.inl kW_L_35
theorem kW_L_38 : Cond.methodLink RL 38 yX5_addSet ∈ lw_tbl := (List.mem_of_getElem? (i := 411) (by decide +kernel))
theorem kL_L_38 : gwL RL 38 yX5_addSet := Or.inl kW_L_38
theorem kW_L_41 : Cond.methodLink RL 41 yX5_drop ∈ lw_tbl := (List.mem_of_getElem? (i := 419) (by decide +kernel))
theorem kL_L_41 : gwL RL 41 yX5_drop := Or.inl kW_L_41
theorem kW_L_44 : Cond.methodLink RL 44 yX5_instructions ∈ lw_tbl := (List.mem_of_getElem? (i := 430) (by decide +kernel))
theorem kL_L_44 : gwL RL 44 yX5_instructions := Or.inl kW_L_44
theorem kW_L_48 : Cond.methodLink RL 48 yX5_start ∈ lw_tbl := (List.mem_of_getElem? (i := 437) (by decide +kernel))
theorem kL_L_48 : gwL RL 48 yX5_start := Or.inl kW_L_48
theorem kW_L_51 : Cond.methodLink RL 51 yX5_step ∈ lw_tbl := (List.mem_of_getElem? (i := 536) (by decide +kernel))
theorem kL_L_51 : gwL RL 51 yX5_step := Or.inl kW_L_51
theorem kW_L_55 : Cond.methodLink RL 55 yX5_build ∈ lw_tbl := (List.mem_of_getElem? (i := 617) (by decide +kernel))
theorem kL_L_55 : gwL RL 55 yX5_build := Or.inl kW_L_55
theorem kW_L_58 : Cond.methodLink RL 58 yX5_cleanDigest ∈ lw_tbl := (List.mem_of_getElem? (i := 627) (by decide +kernel))
theorem kL_L_58 : gwL RL 58 yX5_cleanDigest := Or.inl kW_L_58
theorem kW_L_61 : Cond.methodLink RL 61 yX5_tag ∈ lw_tbl := (List.mem_of_getElem? (i := 642) (by decide +kernel))
theorem kL_L_61 : gwL RL 61 yX5_tag := Or.inl kW_L_61
theorem kW_L_64 : Cond.methodLink RL 64 yX5_untag ∈ lw_tbl := (List.mem_of_getElem? (i := 650) (by decide +kernel))
theorem kL_L_64 : gwL RL 64 yX5_untag := Or.inl kW_L_64
theorem kW_L_67 : Cond.methodLink RL 67 yX5_tagged ∈ lw_tbl := (List.mem_of_getElem? (i := 657) (by decide +kernel))
theorem kL_L_67 : gwL RL 67 yX5_tagged := Or.inl kW_L_67
theorem kW_L_70 : Cond.methodLink RL 70 yX5_squash ∈ lw_tbl := (List.mem_of_getElem? (i := 664) (by decide +kernel))
theorem kL_L_70 : gwL RL 70 yX5_squash := Or.inl kW_L_70
theorem kW_L_73 : Cond.methodLink RL 73 yX5_rebase ∈ lw_tbl := (List.mem_of_getElem? (i := 686) (by decide +kernel))
theorem kL_L_73 : gwL RL 73 yX5_rebase := Or.inl kW_L_73
theorem kW_L_76 : Cond.methodLink RL 76 yX5_prune ∈ lw_tbl := (List.mem_of_getElem? (i := 697) (by decide +kernel))
theorem kL_L_76 : gwL RL 76 yX5_prune := Or.inl kW_L_76
theorem kW_L_79 : Cond.methodLink RL 79 yX5_parentOf ∈ lw_tbl := (List.mem_of_getElem? (i := 717) (by decide +kernel))
theorem kL_L_79 : gwL RL 79 yX5_parentOf := Or.inl kW_L_79
theorem kW_L_82 : Cond.methodLink RL 82 yX5_sizeOf ∈ lw_tbl := (List.mem_of_getElem? (i := 729) (by decide +kernel))
theorem kL_L_82 : gwL RL 82 yX5_sizeOf := Or.inl kW_L_82
theorem kW_L_85 : Cond.methodLink RL 85 yX5_heldAt ∈ lw_tbl := (List.mem_of_getElem? (i := 740) (by decide +kernel))
theorem kL_L_85 : gwL RL 85 yX5_heldAt := Or.inl kW_L_85
theorem kW_L_88 : Cond.methodLink RL 88 yX5_shownAt ∈ lw_tbl := (List.mem_of_getElem? (i := 751) (by decide +kernel))
theorem kL_L_88 : gwL RL 88 yX5_shownAt := Or.inl kW_L_88
theorem kW_L_91 : Cond.methodLink RL 91 yX5_variable ∈ lw_tbl := (List.mem_of_getElem? (i := 759) (by decide +kernel))
theorem kL_L_91 : gwL RL 91 yX5_variable := Or.inl kW_L_91
theorem kW_L_94 : Cond.methodLink RL 94 yX5_depth ∈ lw_tbl := (List.mem_of_getElem? (i := 767) (by decide +kernel))
theorem kL_L_94 : gwL RL 94 yX5_depth := Or.inl kW_L_94
theorem kW_L_97 : Cond.methodLink RL 97 yX5_imageSize ∈ lw_tbl := (List.mem_of_getElem? (i := 774) (by decide +kernel))
theorem kL_L_97 : gwL RL 97 yX5_imageSize := Or.inl kW_L_97
theorem kW_L_100 : Cond.methodLink RL 100 yX5_digest ∈ lw_tbl := (List.mem_of_getElem? (i := 781) (by decide +kernel))
theorem kL_L_100 : gwL RL 100 yX5_digest := Or.inl kW_L_100
theorem kW_L_103 : Cond.methodLink RL 103 yX5_init ∈ lw_tbl := (List.mem_of_getElem? (i := 81) (by decide +kernel))
theorem kL_L_103 : gwL RL 103 yX5_init := Or.inl kW_L_103
theorem kW_L_106 : Cond.methodLink RL 106 yX6_init ∈ lw_tbl := (List.mem_of_getElem? (i := 787) (by decide +kernel))
theorem kL_L_106 : gwL RL 106 yX6_init := Or.inl kW_L_106
theorem kW_L_107 : Cond.methodLink RL 107 yL_setFile ∈ lw_tbl := (List.mem_of_getElem? (i := 212) (by decide +kernel))
theorem kL_L_107 : gwL RL 107 yL_setFile := Or.inl kW_L_107
theorem kW_L_112 : Cond.methodLink RL 112 yX6_setFile ∈ lw_tbl := (List.mem_of_getElem? (i := 893) (by decide +kernel))
theorem kL_L_112 : gwL RL 112 yX6_setFile := Or.inl kW_L_112
theorem kW_L_113 : Cond.methodLink RL 113 yX6_thrown ∈ lw_tbl := (List.mem_of_getElem? (i := 889) (by decide +kernel))
theorem kL_L_113 : gwL RL 113 yX6_thrown := Or.inl kW_L_113
theorem kW_L_116 : Cond.methodLink RL 116 yL_setBase ∈ lw_tbl := (List.mem_of_getElem? (i := 314) (by decide +kernel))
theorem kL_L_116 : gwL RL 116 yL_setBase := Or.inl kW_L_116
theorem kW_L_119 : Cond.methodLink RL 119 yX6_setBase ∈ lw_tbl := (List.mem_of_getElem? (i := 907) (by decide +kernel))
theorem kL_L_119 : gwL RL 119 yX6_setBase := Or.inl kW_L_119
theorem kW_L_120 : Cond.methodLink RL 120 yL_reset ∈ lw_tbl := (List.mem_of_getElem? (i := 321) (by decide +kernel))
theorem kL_L_120 : gwL RL 120 yL_reset := Or.inl kW_L_120
theorem kW_L_122 : Cond.methodLink RL 122 yX6_reset ∈ lw_tbl := (List.mem_of_getElem? (i := 911) (by decide +kernel))
theorem kL_L_122 : gwL RL 122 yX6_reset := Or.inl kW_L_122
theorem kW_L_123 : Cond.methodLink RL 123 yL_addCopy ∈ lw_tbl := (List.mem_of_getElem? (i := 337) (by decide +kernel))
theorem kL_L_123 : gwL RL 123 yL_addCopy := Or.inl kW_L_123
theorem kW_L_125 : Cond.methodLink RL 125 yX6_addCopy ∈ lw_tbl := (List.mem_of_getElem? (i := 915) (by decide +kernel))
theorem kL_L_125 : gwL RL 125 yX6_addCopy := Or.inl kW_L_125
theorem kW_L_126 : Cond.methodLink RL 126 yL_addRun ∈ lw_tbl := (List.mem_of_getElem? (i := 386) (by decide +kernel))
theorem kL_L_126 : gwL RL 126 yL_addRun := Or.inl kW_L_126
theorem kW_L_128 : Cond.methodLink RL 128 yX6_addRun ∈ lw_tbl := (List.mem_of_getElem? (i := 923) (by decide +kernel))
theorem kL_L_128 : gwL RL 128 yX6_addRun := Or.inl kW_L_128
theorem kW_L_129 : Cond.methodLink RL 129 yL_addMove ∈ lw_tbl := (List.mem_of_getElem? (i := 393) (by decide +kernel))
theorem kL_L_129 : gwL RL 129 yL_addMove := Or.inl kW_L_129
theorem kW_L_131 : Cond.methodLink RL 131 yX6_addMove ∈ lw_tbl := (List.mem_of_getElem? (i := 927) (by decide +kernel))
theorem kL_L_131 : gwL RL 131 yX6_addMove := Or.inl kW_L_131
theorem kW_L_132 : Cond.methodLink RL 132 yL_addRemove ∈ lw_tbl := (List.mem_of_getElem? (i := 401) (by decide +kernel))
theorem kL_L_132 : gwL RL 132 yL_addRemove := Or.inl kW_L_132
theorem kW_L_134 : Cond.methodLink RL 134 yX6_addRemove ∈ lw_tbl := (List.mem_of_getElem? (i := 931) (by decide +kernel))
theorem kL_L_134 : gwL RL 134 yX6_addRemove := Or.inl kW_L_134
theorem kW_L_135 : Cond.methodLink RL 135 yL_addSet ∈ lw_tbl := (List.mem_of_getElem? (i := 408) (by decide +kernel))
theorem kL_L_135 : gwL RL 135 yL_addSet := Or.inl kW_L_135
theorem kW_L_137 : Cond.methodLink RL 137 yX6_addSet ∈ lw_tbl := (List.mem_of_getElem? (i := 935) (by decide +kernel))
theorem kL_L_137 : gwL RL 137 yX6_addSet := Or.inl kW_L_137
theorem kW_L_138 : Cond.methodLink RL 138 yL_drop ∈ lw_tbl := (List.mem_of_getElem? (i := 416) (by decide +kernel))
theorem kL_L_138 : gwL RL 138 yL_drop := Or.inl kW_L_138
theorem kW_L_140 : Cond.methodLink RL 140 yX6_drop ∈ lw_tbl := (List.mem_of_getElem? (i := 939) (by decide +kernel))
theorem kL_L_140 : gwL RL 140 yX6_drop := Or.inl kW_L_140
theorem kW_L_141 : Cond.methodLink RL 141 yL_instructions ∈ lw_tbl := (List.mem_of_getElem? (i := 427) (by decide +kernel))
theorem kL_L_141 : gwL RL 141 yL_instructions := Or.inl kW_L_141
theorem kW_L_144 : Cond.methodLink RL 144 yX6_instructions ∈ lw_tbl := (List.mem_of_getElem? (i := 943) (by decide +kernel))
theorem kL_L_144 : gwL RL 144 yX6_instructions := Or.inl kW_L_144
theorem kW_L_145 : Cond.methodLink RL 145 yL_start ∈ lw_tbl := (List.mem_of_getElem? (i := 434) (by decide +kernel))
theorem kL_L_145 : gwL RL 145 yL_start := Or.inl kW_L_145
theorem kW_L_147 : Cond.methodLink RL 147 yX6_start ∈ lw_tbl := (List.mem_of_getElem? (i := 947) (by decide +kernel))
theorem kL_L_147 : gwL RL 147 yX6_start := Or.inl kW_L_147
theorem kW_L_148 : Cond.methodLink RL 148 yL_step ∈ lw_tbl := (List.mem_of_getElem? (i := 533) (by decide +kernel))
theorem kL_L_148 : gwL RL 148 yL_step := Or.inl kW_L_148
theorem kW_L_151 : Cond.methodLink RL 151 yX6_step ∈ lw_tbl := (List.mem_of_getElem? (i := 963) (by decide +kernel))
theorem kL_L_151 : gwL RL 151 yX6_step := Or.inl kW_L_151
theorem kW_L_152 : Cond.methodLink RL 152 yL_build ∈ lw_tbl := (List.mem_of_getElem? (i := 614) (by decide +kernel))
theorem kL_L_152 : gwL RL 152 yL_build := Or.inl kW_L_152
theorem kW_L_154 : Cond.methodLink RL 154 yX6_build ∈ lw_tbl := (List.mem_of_getElem? (i := 987) (by decide +kernel))
theorem kL_L_154 : gwL RL 154 yX6_build := Or.inl kW_L_154
theorem kW_L_155 : Cond.methodLink RL 155 yX5_stepsLeft ∈ lw_tbl := (List.mem_of_getElem? (i := 176) (by decide +kernel))
theorem kL_L_155 : gwL RL 155 yX5_stepsLeft := Or.inl kW_L_155
theorem kW_L_158 : Cond.methodLink RL 158 yX6_stepsLeft ∈ lw_tbl := (List.mem_of_getElem? (i := 991) (by decide +kernel))
theorem kL_L_158 : gwL RL 158 yX6_stepsLeft := Or.inl kW_L_158
theorem kW_L_159 : Cond.methodLink RL 159 yX5_built ∈ lw_tbl := (List.mem_of_getElem? (i := 184) (by decide +kernel))
theorem kL_L_159 : gwL RL 159 yX5_built := Or.inl kW_L_159
theorem kW_L_162 : Cond.methodLink RL 162 yX6_built ∈ lw_tbl := (List.mem_of_getElem? (i := 999) (by decide +kernel))
theorem kL_L_162 : gwL RL 162 yX6_built := Or.inl kW_L_162
theorem kW_L_163 : Cond.methodLink RL 163 yX5_hits ∈ lw_tbl := (List.mem_of_getElem? (i := 200) (by decide +kernel))
theorem kL_L_163 : gwL RL 163 yX5_hits := Or.inl kW_L_163
theorem kW_L_166 : Cond.methodLink RL 166 yX6_hits ∈ lw_tbl := (List.mem_of_getElem? (i := 1007) (by decide +kernel))
theorem kL_L_166 : gwL RL 166 yX6_hits := Or.inl kW_L_166
theorem kW_L_167 : Cond.methodLink RL 167 yX5_misses ∈ lw_tbl := (List.mem_of_getElem? (i := 204) (by decide +kernel))
theorem kL_L_167 : gwL RL 167 yX5_misses := Or.inl kW_L_167
theorem kW_L_170 : Cond.methodLink RL 170 yX6_misses ∈ lw_tbl := (List.mem_of_getElem? (i := 1011) (by decide +kernel))
theorem kL_L_170 : gwL RL 170 yX6_misses := Or.inl kW_L_170
theorem kW_L_171 : Cond.methodLink RL 171 yL_cleanDigest ∈ lw_tbl := (List.mem_of_getElem? (i := 624) (by decide +kernel))
theorem kL_L_171 : gwL RL 171 yL_cleanDigest := Or.inl kW_L_171
theorem kW_L_173 : Cond.methodLink RL 173 yX6_cleanDigest ∈ lw_tbl := (List.mem_of_getElem? (i := 1015) (by decide +kernel))
theorem kL_L_173 : gwL RL 173 yX6_cleanDigest := Or.inl kW_L_173
theorem kW_L_174 : Cond.methodLink RL 174 yL_tag ∈ lw_tbl := (List.mem_of_getElem? (i := 639) (by decide +kernel))
theorem kL_L_174 : gwL RL 174 yL_tag := Or.inl kW_L_174
theorem kW_L_176 : Cond.methodLink RL 176 yX6_tag ∈ lw_tbl := (List.mem_of_getElem? (i := 1024) (by decide +kernel))
theorem kL_L_176 : gwL RL 176 yX6_tag := Or.inl kW_L_176
theorem kW_L_177 : Cond.methodLink RL 177 yL_untag ∈ lw_tbl := (List.mem_of_getElem? (i := 647) (by decide +kernel))
theorem kL_L_177 : gwL RL 177 yL_untag := Or.inl kW_L_177
theorem kW_L_179 : Cond.methodLink RL 179 yX6_untag ∈ lw_tbl := (List.mem_of_getElem? (i := 1028) (by decide +kernel))
theorem kL_L_179 : gwL RL 179 yX6_untag := Or.inl kW_L_179
theorem kW_L_180 : Cond.methodLink RL 180 yL_tagged ∈ lw_tbl := (List.mem_of_getElem? (i := 654) (by decide +kernel))
theorem kL_L_180 : gwL RL 180 yL_tagged := Or.inl kW_L_180
theorem kW_L_182 : Cond.methodLink RL 182 yX6_tagged ∈ lw_tbl := (List.mem_of_getElem? (i := 1032) (by decide +kernel))
theorem kL_L_182 : gwL RL 182 yX6_tagged := Or.inl kW_L_182
theorem kW_L_183 : Cond.methodLink RL 183 yL_squash ∈ lw_tbl := (List.mem_of_getElem? (i := 661) (by decide +kernel))
theorem kL_L_183 : gwL RL 183 yL_squash := Or.inl kW_L_183
theorem kW_L_185 : Cond.methodLink RL 185 yX6_squash ∈ lw_tbl := (List.mem_of_getElem? (i := 1036) (by decide +kernel))
theorem kL_L_185 : gwL RL 185 yX6_squash := Or.inl kW_L_185
theorem kW_L_186 : Cond.methodLink RL 186 yL_rebase ∈ lw_tbl := (List.mem_of_getElem? (i := 683) (by decide +kernel))
theorem kL_L_186 : gwL RL 186 yL_rebase := Or.inl kW_L_186
theorem kW_L_188 : Cond.methodLink RL 188 yX6_rebase ∈ lw_tbl := (List.mem_of_getElem? (i := 1044) (by decide +kernel))
theorem kL_L_188 : gwL RL 188 yX6_rebase := Or.inl kW_L_188
theorem kW_L_189 : Cond.methodLink RL 189 yL_prune ∈ lw_tbl := (List.mem_of_getElem? (i := 694) (by decide +kernel))
theorem kL_L_189 : gwL RL 189 yL_prune := Or.inl kW_L_189
theorem kW_L_191 : Cond.methodLink RL 191 yX6_prune ∈ lw_tbl := (List.mem_of_getElem? (i := 1048) (by decide +kernel))
theorem kL_L_191 : gwL RL 191 yX6_prune := Or.inl kW_L_191
theorem kW_L_192 : Cond.methodLink RL 192 yX5_layers ∈ lw_tbl := (List.mem_of_getElem? (i := 208) (by decide +kernel))
theorem kL_L_192 : gwL RL 192 yX5_layers := Or.inl kW_L_192
theorem kW_L_195 : Cond.methodLink RL 195 yX6_layers ∈ lw_tbl := (List.mem_of_getElem? (i := 1052) (by decide +kernel))
theorem kL_L_195 : gwL RL 195 yX6_layers := Or.inl kW_L_195
theorem kW_L_196 : Cond.methodLink RL 196 yL_parentOf ∈ lw_tbl := (List.mem_of_getElem? (i := 714) (by decide +kernel))
theorem kL_L_196 : gwL RL 196 yL_parentOf := Or.inl kW_L_196
theorem kW_L_198 : Cond.methodLink RL 198 yX6_parentOf ∈ lw_tbl := (List.mem_of_getElem? (i := 1056) (by decide +kernel))
theorem kL_L_198 : gwL RL 198 yX6_parentOf := Or.inl kW_L_198
theorem kW_L_199 : Cond.methodLink RL 199 yL_sizeOf ∈ lw_tbl := (List.mem_of_getElem? (i := 726) (by decide +kernel))
theorem kL_L_199 : gwL RL 199 yL_sizeOf := Or.inl kW_L_199
theorem kW_L_201 : Cond.methodLink RL 201 yX6_sizeOf ∈ lw_tbl := (List.mem_of_getElem? (i := 1064) (by decide +kernel))
theorem kL_L_201 : gwL RL 201 yX6_sizeOf := Or.inl kW_L_201
theorem kW_L_202 : Cond.methodLink RL 202 yL_heldAt ∈ lw_tbl := (List.mem_of_getElem? (i := 737) (by decide +kernel))
theorem kL_L_202 : gwL RL 202 yL_heldAt := Or.inl kW_L_202
theorem kW_L_204 : Cond.methodLink RL 204 yX6_heldAt ∈ lw_tbl := (List.mem_of_getElem? (i := 1072) (by decide +kernel))
theorem kL_L_204 : gwL RL 204 yX6_heldAt := Or.inl kW_L_204
theorem kW_L_205 : Cond.methodLink RL 205 yL_shownAt ∈ lw_tbl := (List.mem_of_getElem? (i := 748) (by decide +kernel))
theorem kL_L_205 : gwL RL 205 yL_shownAt := Or.inl kW_L_205
theorem kW_L_207 : Cond.methodLink RL 207 yX6_shownAt ∈ lw_tbl := (List.mem_of_getElem? (i := 1076) (by decide +kernel))
theorem kL_L_207 : gwL RL 207 yX6_shownAt := Or.inl kW_L_207
theorem kW_L_208 : Cond.methodLink RL 208 yL_variable ∈ lw_tbl := (List.mem_of_getElem? (i := 756) (by decide +kernel))
theorem kL_L_208 : gwL RL 208 yL_variable := Or.inl kW_L_208
theorem kW_L_210 : Cond.methodLink RL 210 yX6_variable ∈ lw_tbl := (List.mem_of_getElem? (i := 1080) (by decide +kernel))
theorem kL_L_210 : gwL RL 210 yX6_variable := Or.inl kW_L_210
theorem kW_L_211 : Cond.methodLink RL 211 yL_depth ∈ lw_tbl := (List.mem_of_getElem? (i := 764) (by decide +kernel))
theorem kL_L_211 : gwL RL 211 yL_depth := Or.inl kW_L_211
theorem kW_L_213 : Cond.methodLink RL 213 yX6_depth ∈ lw_tbl := (List.mem_of_getElem? (i := 1084) (by decide +kernel))
theorem kL_L_213 : gwL RL 213 yX6_depth := Or.inl kW_L_213
theorem kW_L_214 : Cond.methodLink RL 214 yL_imageSize ∈ lw_tbl := (List.mem_of_getElem? (i := 771) (by decide +kernel))
theorem kL_L_214 : gwL RL 214 yL_imageSize := Or.inl kW_L_214
theorem kW_L_216 : Cond.methodLink RL 216 yX6_imageSize ∈ lw_tbl := (List.mem_of_getElem? (i := 1088) (by decide +kernel))
theorem kL_L_216 : gwL RL 216 yX6_imageSize := Or.inl kW_L_216
theorem kW_L_217 : Cond.methodLink RL 217 yL_digest ∈ lw_tbl := (List.mem_of_getElem? (i := 778) (by decide +kernel))
theorem kL_L_217 : gwL RL 217 yL_digest := Or.inl kW_L_217
theorem kW_L_219 : Cond.methodLink RL 219 yX6_digest ∈ lw_tbl := (List.mem_of_getElem? (i := 1092) (by decide +kernel))
theorem kL_L_219 : gwL RL 219 yX6_digest := Or.inl kW_L_219
theorem kW_X6_87 : Cond.methodLink RX6 87 yX6_isIn ∈ lw_tbl := (List.mem_of_getElem? (i := 897) (by decide +kernel))
theorem kL_X6_87 : gwL RX6 87 yX6_isIn := Or.inl kW_X6_87
theorem kW_X6_91 : Cond.methodLink RX6 91 yX6_isContent ∈ lw_tbl := (List.mem_of_getElem? (i := 900) (by decide +kernel))
theorem kL_X6_91 : gwL RX6 91 yX6_isContent := Or.inl kW_X6_91
theorem kW_X6_95 : Cond.methodLink RX6 95 yX6_fails ∈ lw_tbl := (List.mem_of_getElem? (i := 903) (by decide +kernel))
theorem kL_X6_95 : gwL RX6 95 yX6_fails := Or.inl kW_X6_95
theorem kW_X6_98 : Cond.methodLink RX6 98 yX6_adds ∈ lw_tbl := (List.mem_of_getElem? (i := 919) (by decide +kernel))
theorem kL_X6_98 : gwL RX6 98 yX6_adds := Or.inl kW_X6_98
theorem kW_X6_105 : Cond.methodLink RX6 105 yX6_makes ∈ lw_tbl := (List.mem_of_getElem? (i := 959) (by decide +kernel))
theorem kL_X6_105 : gwL RX6 105 yX6_makes := Or.inl kW_X6_105
theorem kW_X6_109 : Cond.methodLink RX6 109 yX6_root ∈ lw_tbl := (List.mem_of_getElem? (i := 955) (by decide +kernel))
theorem kL_X6_109 : gwL RX6 109 yX6_root := Or.inl kW_X6_109
theorem kW_X6_125 : Cond.methodLink RX6 125 yX6_begins ∈ lw_tbl := (List.mem_of_getElem? (i := 951) (by decide +kernel))
theorem kL_X6_125 : gwL RX6 125 yX6_begins := Or.inl kW_X6_125
theorem kW_X6_129 : Cond.methodLink RX6 129 yX6_shows ∈ lw_tbl := (List.mem_of_getElem? (i := 975) (by decide +kernel))
theorem kL_X6_129 : gwL RX6 129 yX6_shows := Or.inl kW_X6_129
theorem kW_X6_133 : Cond.methodLink RX6 133 yX6_canStep ∈ lw_tbl := (List.mem_of_getElem? (i := 971) (by decide +kernel))
theorem kL_X6_133 : gwL RX6 133 yX6_canStep := Or.inl kW_X6_133
theorem kW_X6_136 : Cond.methodLink RX6 136 yX6_cached ∈ lw_tbl := (List.mem_of_getElem? (i := 979) (by decide +kernel))
theorem kL_X6_136 : gwL RX6 136 yX6_cached := Or.inl kW_X6_136
theorem kW_X6_146 : Cond.methodLink RX6 146 yX6_layerFor ∈ lw_tbl := (List.mem_of_getElem? (i := 983) (by decide +kernel))
theorem kL_X6_146 : gwL RX6 146 yX6_layerFor := Or.inl kW_X6_146
theorem kW_X6_149 : Cond.methodLink RX6 149 yX6_goes ∈ lw_tbl := (List.mem_of_getElem? (i := 967) (by decide +kernel))
theorem kL_X6_149 : gwL RX6 149 yX6_goes := Or.inl kW_X6_149
theorem kW_X6_153 : Cond.methodLink RX6 153 yX6_tells ∈ lw_tbl := (List.mem_of_getElem? (i := 995) (by decide +kernel))
theorem kL_X6_153 : gwL RX6 153 yX6_tells := Or.inl kW_X6_153
theorem kW_X6_156 : Cond.methodLink RX6 156 yX6_result ∈ lw_tbl := (List.mem_of_getElem? (i := 1003) (by decide +kernel))
theorem kL_X6_156 : gwL RX6 156 yX6_result := Or.inl kW_X6_156
theorem kW_X6_159 : Cond.methodLink RX6 159 yX6_cleans ∈ lw_tbl := (List.mem_of_getElem? (i := 1019) (by decide +kernel))
theorem kL_X6_159 : gwL RX6 159 yX6_cleans := Or.inl kW_X6_159
theorem kW_X6_164 : Cond.methodLink RX6 164 yX6_deep ∈ lw_tbl := (List.mem_of_getElem? (i := 1040) (by decide +kernel))
theorem kL_X6_164 : gwL RX6 164 yX6_deep := Or.inl kW_X6_164
theorem kW_X6_167 : Cond.methodLink RX6 167 yX6_is ∈ lw_tbl := (List.mem_of_getElem? (i := 1060) (by decide +kernel))
theorem kL_X6_167 : gwL RX6 167 yX6_is := Or.inl kW_X6_167
theorem kW_X6_170 : Cond.methodLink RX6 170 yX6_size ∈ lw_tbl := (List.mem_of_getElem? (i := 1068) (by decide +kernel))
theorem kL_X6_170 : gwL RX6 170 yX6_size := Or.inl kW_X6_170
end
section
/-! ===== numbers, cuts and loops ===== -/
theorem gn_mul (a b : Nat) : nI a * nI b = nI (a * b) := (Int32.ofNat_mul a b).symm
theorem gn_sub {a b : Nat} (h : b ≤ a) : nI a - nI b = nI (a - b) := by
  have h1 : nI (a - b) + nI b = nI a := by rw [nI_add, Nat.sub_add_cancel h]
  rw [← h1]
  exact Int32.add_sub_cancel _ _
theorem gn_lt (a b : Int32) : a < b ↔ a.toInt < b.toInt := Int32.lt_iff_toInt_lt
theorem gn_le (a b : Int32) : a ≤ b ↔ a.toInt ≤ b.toInt := Int32.le_iff_toInt_le
theorem gn_eq (a b : Int32) : a = b ↔ a.toInt = b.toInt := Int32.toInt_inj.symm
/-- an index in range -/
def gin (x : Int32) (N : Nat) : Prop := ∃ j, j < N ∧ x = nI j
theorem gin_iff {x : Int32} {N : Nat} (hN : N < 2 ^ 31) : (0 ≤ x ∧ x < nI N) ↔ gin x N := by
  have e0 : (0 : Int32).toInt = 0 := by decide
  rw [gn_le, gn_lt, nI_toInt hN, e0]
  constructor
  · intro h
    exact vp_in_of (vp_in_iff.mpr h) hN
  · rintro ⟨j, hj, rfl⟩
    rw [nI_toInt (Nat.lt_trans hj hN)]
    omega
/-- contents that may be written -/
def gct (x : Int32) : Prop := x = -1 ∨ gin x 10000
theorem gct_iff {x : Int32} : (-1 ≤ x ∧ x ≤ nI 9999) ↔ gct x := by
  have e0 : (-1 : Int32).toInt = -1 := by decide
  have e9 : (nI 9999).toInt = 9999 := by decide
  rw [gn_le, gn_le, e0, e9]
  constructor
  · intro h
    by_cases h1 : x.toInt = -1
    · exact Or.inl ((gn_eq _ _).mpr (h1.trans e0.symm))
    · refine Or.inr ((gin_iff (by decide)).mp ?_)
      have e1 : (0 : Int32).toInt = 0 := by decide
      have e2 : (nI 10000).toInt = 10000 := by decide
      rw [gn_le, gn_lt, e1, e2]
      omega
  · rintro (rfl | ⟨j, hj, rfl⟩)
    · rw [e0]; omega
    · rw [nI_toInt (by omega)]; omega
theorem gn_inj {a b : Nat} (ha : a < 2 ^ 31) (hb : b < 2 ^ 31) (h : nI a = nI b) : a = b := (nI_eq ha hb).mp h
theorem gn_ne1 {a : Nat} (ha : a < 2 ^ 31) : nI a ≠ -1 := by
  intro h
  rw [gn_eq, nI_toInt ha] at h
  have e0 : (-1 : Int32).toInt = -1 := by decide
  rw [e0] at h
  omega
theorem gn_ne2 {a : Nat} (ha : a < 2 ^ 31) : nI a ≠ -2 := by
  intro h
  rw [gn_eq, nI_toInt ha] at h
  have e0 : (-2 : Int32).toInt = -2 := by decide
  rw [e0] at h
  omega
section GNUM
variable {p : Program} {l : Launch} {e : Env} {R : Room} {s : State} {m : MethodId} {args : Array Value} {below : List Frame} {meth : Method} {c : Code} {Q : State → Prop}
variable {s0 : State} {D : va_G} {cy : Nat → ClassId} {L0 : List Nat} {nL : Nat} {cc : ByteArray} {own : String} {L : List Nat} {f : gF} {ce sl pc n : Nat} {ls : List (Option Value)} {st : List Value}
theorem g_iaddN (C : gC p l e R s m args below meth c s0 D cy L0 cc nL own) {x y : Nat} (d : decode cc pc = .ok (.iadd, 1)) (hn : pc + 1 = n) (kk : G p l e R s m args below meth c Q D L0 nL L f ce sl n ls (.int (nI (x + y)) :: st)) : G p l e R s m args below meth c Q D L0 nL L f ce sl pc ls (.int (nI y) :: .int (nI x) :: st) := g_iadd C d hn (by rw [nI_add]; exact kk)
theorem g_imulN (C : gC p l e R s m args below meth c s0 D cy L0 cc nL own) {x y : Nat} (d : decode cc pc = .ok (.imul, 1)) (hn : pc + 1 = n) (kk : G p l e R s m args below meth c Q D L0 nL L f ce sl n ls (.int (nI (x * y)) :: st)) : G p l e R s m args below meth c Q D L0 nL L f ce sl pc ls (.int (nI y) :: .int (nI x) :: st) := g_imul C d hn (by rw [gn_mul]; exact kk)
theorem g_isubN (C : gC p l e R s m args below meth c s0 D cy L0 cc nL own) {x y : Nat} (d : decode cc pc = .ok (.isub, 1)) (hle : y ≤ x) (hn : pc + 1 = n) (kk : G p l e R s m args below meth c Q D L0 nL L f ce sl n ls (.int (nI (x - y)) :: st)) : G p l e R s m args below meth c Q D L0 nL L f ce sl pc ls (.int (nI y) :: .int (nI x) :: st) := g_isub C d hn (by rw [gn_sub hle]; exact kk)
theorem g_cut {α : Type} (P : α → Prop) (L1 : α → List Nat) (f1 : α → gF) (ce1 sl1 : α → Nat) (pc1 : Nat) (ls1 : α → List (Option Value)) (st1 : α → List Value) (kk : (∀ w, P w → G p l e R s m args below meth c Q D L0 nL (L1 w) (f1 w) (ce1 w) (sl1 w) pc1 (ls1 w) (st1 w)) → G p l e R s m args below meth c Q D L0 nL L f ce sl pc ls (st)) (J : ∀ w, P w → G p l e R s m args below meth c Q D L0 nL (L1 w) (f1 w) (ce1 w) (sl1 w) pc1 (ls1 w) (st1 w)) : G p l e R s m args below meth c Q D L0 nL L f ce sl pc ls (st) := kk J
theorem g_loop {α : Type} (P : α → Prop) (μ : α → Nat) (L1 : α → List Nat) (f1 : α → gF) (ce1 sl1 : α → Nat) (pc1 : Nat) (ls1 : α → List (Option Value)) (st1 : α → List Value)
    (step : ∀ w, P w → (∀ w', P w' → μ w' < μ w → G p l e R s m args below meth c Q D L0 nL (L1 w') (f1 w') (ce1 w') (sl1 w') pc1 (ls1 w') (st1 w')) → G p l e R s m args below meth c Q D L0 nL (L1 w) (f1 w) (ce1 w) (sl1 w) pc1 (ls1 w) (st1 w))
    (kk : (∀ w, P w → G p l e R s m args below meth c Q D L0 nL (L1 w) (f1 w) (ce1 w) (sl1 w) pc1 (ls1 w) (st1 w)) → G p l e R s m args below meth c Q D L0 nL L f ce sl pc ls (st)) : G p l e R s m args below meth c Q D L0 nL L f ce sl pc ls (st) := by
  refine kk ?_
  have h : ∀ (k : Nat) (w : α), μ w < k → P w → G p l e R s m args below meth c Q D L0 nL (L1 w) (f1 w) (ce1 w) (sl1 w) pc1 (ls1 w) (st1 w) := by
    intro k
    induction k with
    | zero => intro w hw; omega
    | succ k ih => exact fun w hw hP => step w hP (fun w' hP' hlt => ih w' (by omega) hP')
  exact fun w hP => h (μ w + 1) w (by omega) hP
end GNUM
end
section
/-! ===== the reference: its object and its arrays, by the places of the fields ===== -/
def mLen : Nat → Nat
  | 0 => 8
  | 1 => 36
  | 2 => 4
  | 3 => 4
  | 4 => 40
  | 5 => 40
  | 6 => 40
  | 8 => 420
  | 9 => 420
  | 10 => 5040
  | 11 => 1680
  | 12 => 420
  | 13 => 420
  | 14 => 420
  | 15 => 420
  | 16 => 5
  | 21 => 10
  | 22 => 10
  | 23 => 10
  | 28 => 12
  | 29 => 4
  | 30 => 16
  | 31 => 420
  | _ => 0
def mArr : Nat → Bool
  | 0 => true
  | 1 => true
  | 2 => true
  | 3 => true
  | 4 => true
  | 5 => true
  | 6 => true
  | 8 => true
  | 9 => true
  | 10 => true
  | 11 => true
  | 12 => true
  | 13 => true
  | 14 => true
  | 15 => true
  | 16 => true
  | 21 => true
  | 22 => true
  | 23 => true
  | 28 => true
  | 29 => true
  | 30 => true
  | 31 => true
  | _ => false
def mT : Nat → Nat
  | 8 => 1
  | 31 => 1
  | _ => 0
def mF (ad : Nat → Nat) (I : Nat → Int32) : List Value := [.ref (ad 0), .ref (ad 1), .ref (ad 2), .ref (ad 3), .ref (ad 4), .ref (ad 5), .ref (ad 6), .int (I 7), .ref (ad 8), .ref (ad 9), .ref (ad 10), .ref (ad 11), .ref (ad 12), .ref (ad 13), .ref (ad 14), .ref (ad 15), .ref (ad 16), .int (I 17), .int (I 18), .int (I 19), .int (I 20), .ref (ad 21), .ref (ad 22), .ref (ad 23), .int (I 24), .int (I 25), .int (I 26), .int (I 27), .ref (ad 28), .ref (ad 29), .ref (ad 30), .ref (ad 31)]
/-- array k holds A k, the number field k holds I k -/
def IsM (cy : Nat → ClassId) (mo : Nat) (ad : Nat → Nat) (A : Nat → Nat → Int32) (I : Nat → Int32) (L : List Nat) (f : gF) : Prop :=
  gH L f mo (.inr (6, mF ad I)) ∧ (∀ k, mArr k = true → gH L f (ad k) (.inl (cy (mT k), mLen k, .inl (A k)))) ∧ ∀ j k, mArr j = true → mArr k = true → ad j = ad k → j = k
def mU (A : Nat → Nat → Int32) (k j : Nat) (x : Int32) : Nat → Nat → Int32 := fun k1 j1 => if k1 = k ∧ j1 = j then x else A k1 j1
theorem mU_s {A : Nat → Nat → Int32} {k j : Nat} {x : Int32} : mU A k j x k j = x := by simp [mU]
theorem mU_k {A : Nat → Nat → Int32} {k j k1 j1 : Nat} {x : Int32} (h : k1 ≠ k) : mU A k j x k1 j1 = A k1 j1 := by simp [mU, h]
theorem mU_j {A : Nat → Nat → Int32} {k j k1 j1 : Nat} {x : Int32} (h : j1 ≠ j) : mU A k j x k1 j1 = A k1 j1 := by simp [mU, h]
theorem IsM.neo {cy : Nat → ClassId} {mo : Nat} {ad : Nat → Nat} {A : Nat → Nat → Int32} {I : Nat → Int32} {L : List Nat} {f : gF} (h : IsM cy mo ad A I L f) {k : Nat} (hk : mArr k = true) : ad k ≠ mo := gH.apart (h.2.1 k hk) h.1 (fun e => by cases e)
theorem IsM.arr {cy : Nat → ClassId} {mo : Nat} {ad : Nat → Nat} {A : Nat → Nat → Int32} {I : Nat → Int32} {L : List Nat} {f : gF} (h : IsM cy mo ad A I L f) {k j : Nat} {x : Int32} (hk : mArr k = true) : IsM cy mo ad (mU A k j x) I L (va_up f (ad k) (.inl (cy (mT k), mLen k, .inl (upd (A k) j x)))) := by
  refine ⟨h.1.ne (h.neo hk).symm, fun k1 h1 => ?_, h.2.2⟩
  by_cases e : k1 = k
  · subst e
    have e2 : mU A k1 j x k1 = upd (A k1) j x := by
      funext j1
      simp [mU, upd]
    rw [e2]
    exact (h.2.1 k1 h1).up
  · have e2 : mU A k j x k1 = A k1 := by
      funext j1
      simp [mU, e]
    rw [e2]
    exact (h.2.1 k1 h1).ne (fun q => e (h.2.2 k1 k h1 hk q))
theorem IsM.int {cy : Nat → ClassId} {mo : Nat} {ad : Nat → Nat} {A : Nat → Nat → Int32} {I : Nat → Int32} {L : List Nat} {f : gF} (h : IsM cy mo ad A I L f) {k : Nat} {x : Int32} (hs : (mF ad I).set k (.int x) = mF ad (va_up I k x)) : IsM cy mo ad A (va_up I k x) L (va_up f mo (.inr (6, (mF ad I).set k (.int x)))) := by
  refine ⟨?_, fun k1 h1 => (h.2.1 k1 h1).ne (h.neo h1), h.2.2⟩
  rw [hs]
  exact h.1.up
def bI (P : Prop) [Decidable P] : Int32 := if P then 1 else 0
theorem bI_t {P : Prop} [Decidable P] (h : P) : bI P = 1 := if_pos h
theorem bI_f {P : Prop} [Decidable P] (h : ¬ P) : bI P = 0 := if_neg h
theorem bI_0 {P : Prop} [Decidable P] : bI P = 0 ↔ ¬ P := by
  unfold bI
  by_cases h : P
  · simp [h]
  · simp [h]
theorem bI_n {P : Prop} [Decidable P] : narrow .boolean (.int (bI P)) = .int (bI P) := by
  unfold bI
  by_cases h : P
  · rw [if_pos h]; rfl
  · rw [if_neg h]; rfl
section GMOD
variable {p : Program} {l : Launch} {e : Env} {R : Room} {s : State} {m : MethodId} {args : Array Value} {below : List Frame} {meth : Method} {c : Code} {Q : State → Prop}
variable {s0 : State} {D : va_G} {cy : Nat → ClassId} {L0 : List Nat} {nL : Nat} {cc : ByteArray} {own : String} {L : List Nat} {f : gF} {ce sl pc n : Nat} {ls : List (Option Value)} {st : List Value}
variable {mo : Nat} {ad : Nat → Nat} {A : Nat → Nat → Int32} {I : Nat → Int32}

theorem m_get (C : gC p l e R s m args below meth c s0 D cy L0 cc nL own) (hM : IsM cy mo ad A I L f) {idx k : Nat} {v : Value} (d : decode cc pc = .ok (.getfield idx, 3)) (hw : gwF own idx 6 k) (hv : (mF ad I)[k]? = some v) (hn : pc + 3 = n) (kk : G p l e R s m args below meth c Q D L0 nL L f ce sl n ls (v :: st)) : G p l e R s m args below meth c Q D L0 nL L f ce sl pc ls (.ref mo :: st) := g_get C d hw hM.1 hv hn kk
theorem m_ald (C : gC p l e R s m args below meth c s0 D cy L0 cc nL own) (hM : IsM cy mo ad A I L f) {k j : Nat} {i : Int32} (d : decode cc pc = .ok (.iaload, 1)) (hk : mArr k = true) (hz : mT k = 0) (hi : i = nI j) (hj : j < mLen k) (hN : mLen k < 2 ^ 31) (hn : pc + 1 = n) (kk : G p l e R s m args below meth c Q D L0 nL L f ce sl n ls (.int (A k j) :: st)) : G p l e R s m args below meth c Q D L0 nL L f ce sl pc ls (.int i :: .ref (ad k) :: st) := by
  have h := hM.2.1 k hk
  rw [hz] at h
  exact g_iald C d h hi hj hN hn kk
theorem m_zld (C : gC p l e R s m args below meth c s0 D cy L0 cc nL own) (hM : IsM cy mo ad A I L f) {k j : Nat} {i : Int32} (d : decode cc pc = .ok (.baload, 1)) (hk : mArr k = true) (hz : mT k = 1) (hi : i = nI j) (hj : j < mLen k) (hN : mLen k < 2 ^ 31) (hn : pc + 1 = n) (kk : G p l e R s m args below meth c Q D L0 nL L f ce sl n ls (.int (A k j) :: st)) : G p l e R s m args below meth c Q D L0 nL L f ce sl pc ls (.int i :: .ref (ad k) :: st) := by
  have h := hM.2.1 k hk
  rw [hz] at h
  exact g_zald C d h hi hj hN hn kk
theorem m_ast (C : gC p l e R s m args below meth c s0 D cy L0 cc nL own) (hM : IsM cy mo ad A I L f) {k j : Nat} {i x : Int32} (d : decode cc pc = .ok (.iastore, 1)) (hk : mArr k = true) (hz : mT k = 0) (hi : i = nI j) (hj : j < mLen k) (hN : mLen k < 2 ^ 31) (hn : pc + 1 = n) (kk : ∀ f1 : gF, IsM cy mo ad (mU A k j x) I L f1 → G p l e R s m args below meth c Q D L0 nL L f1 ce sl n ls (st)) : G p l e R s m args below meth c Q D L0 nL L f ce sl pc ls (.int x :: .int i :: .ref (ad k) :: st) := by
  have h := hM.2.1 k hk
  have h2 := kk _ (hM.arr (j := j) (x := x) hk)
  rw [hz] at h h2
  exact g_iast C d h hi hj hN hn h2
theorem m_zst (C : gC p l e R s m args below meth c s0 D cy L0 cc nL own) (hM : IsM cy mo ad A I L f) {k j : Nat} {i x : Int32} (d : decode cc pc = .ok (.bastore, 1)) (hk : mArr k = true) (hz : mT k = 1) (hx : vp_nar .boolean x = x) (hi : i = nI j) (hj : j < mLen k) (hN : mLen k < 2 ^ 31) (hn : pc + 1 = n) (kk : ∀ f1 : gF, IsM cy mo ad (mU A k j x) I L f1 → G p l e R s m args below meth c Q D L0 nL L f1 ce sl n ls (st)) : G p l e R s m args below meth c Q D L0 nL L f ce sl pc ls (.int x :: .int i :: .ref (ad k) :: st) := by
  have h := hM.2.1 k hk
  have h2 := kk _ (hM.arr (j := j) (x := x) hk)
  rw [hz] at h h2
  refine g_zast C d h hi hj hN hn ?_
  rw [hx]
  exact h2
theorem m_put (C : gC p l e R s m args below meth c s0 D cy L0 cc nL own) (hM : IsM cy mo ad A I L f) {idx k : Nat} {x : Int32} {ty : FieldType} (d : decode cc pc = .ok (.putfield idx, 3)) (hw : gwP own idx 6 k false ty) (hv : narrow ty (.int x) = .int x ∧ fits ty (.int x) = true) (hl9 : k < 32) (hs : (mF ad I).set k (.int x) = mF ad (va_up I k x)) (hn : pc + 3 = n) (kk : ∀ f1 : gF, IsM cy mo ad A (va_up I k x) L f1 → G p l e R s m args below meth c Q D L0 nL L f1 ce sl n ls (st)) : G p l e R s m args below meth c Q D L0 nL L f ce sl pc ls (.int x :: .ref mo :: st) :=
  g_put C d hw hM.1 hv hl9 hn (kk _ (hM.int hs))
theorem G.sk {st' : List Value} (h : st = st') (k : G p l e R s m args below meth c Q D L0 nL L f ce sl pc ls (st')) : G p l e R s m args below meth c Q D L0 nL L f ce sl pc ls (st) := h ▸ k
end GMOD
end
section
/-! ===== the reference, I: codes, small methods ===== -/
def cd2 (P : Prop) (w : Nat) : Prop := (w = 1 ∧ ¬ P) ∨ (w = 0 ∧ P)
def cd3 (P1 P2 : Prop) (w : Nat) : Prop := (w = 1 ∧ ¬ P1) ∨ (w = 2 ∧ P1 ∧ ¬ P2) ∨ (w = 0 ∧ P1 ∧ P2)
def cd4 (P1 P2 P3 : Prop) (w : Nat) : Prop := (w = 1 ∧ ¬ P1) ∨ (w = 2 ∧ P1 ∧ ¬ P2) ∨ (w = 3 ∧ P1 ∧ P2 ∧ ¬ P3) ∨ (w = 0 ∧ P1 ∧ P2 ∧ P3)
theorem cd2_u {P : Prop} {a b : Nat} (h : cd2 P a) (h2 : cd2 P b) : a = b := by
  rcases h with ⟨rfl, h⟩ | ⟨rfl, h⟩ <;> rcases h2 with ⟨rfl, h2⟩ | ⟨rfl, h2⟩ <;> first | rfl | exact absurd h2 h | exact absurd h h2
theorem cd3_u {P1 P2 : Prop} {a b : Nat} (h : cd3 P1 P2 a) (h2 : cd3 P1 P2 b) : a = b := by
  rcases h with ⟨rfl, h⟩ | ⟨rfl, h, k⟩ | ⟨rfl, h, k⟩ <;> rcases h2 with ⟨rfl, h2⟩ | ⟨rfl, h2, k2⟩ | ⟨rfl, h2, k2⟩ <;> first | rfl | exact absurd h2 h | exact absurd h h2 | exact absurd k k2 | exact absurd k2 k
theorem cd4_u {P1 P2 P3 : Prop} {a b : Nat} (h : cd4 P1 P2 P3 a) (h2 : cd4 P1 P2 P3 b) : a = b := by
  rcases h with ⟨rfl, h⟩ | ⟨rfl, h, k⟩ | ⟨rfl, h, k, j⟩ | ⟨rfl, h, k, j⟩ <;> rcases h2 with ⟨rfl, h2⟩ | ⟨rfl, h2, k2⟩ | ⟨rfl, h2, k2, j2⟩ | ⟨rfl, h2, k2, j2⟩ <;> first | rfl | exact absurd h2 h | exact absurd h h2 | exact absurd k k2 | exact absurd k2 k | exact absurd j j2 | exact absurd j2 j
theorem cd_f {w : Nat} (h : bI (0 < nI w) = 0) (hw : w < 4) : w = 0 := by
  rcases (show w = 0 ∨ w = 1 ∨ w = 2 ∨ w = 3 by omega) with rfl | rfl | rfl | rfl
  · rfl
  all_goals exact absurd h (by decide)
theorem cd_t {w : Nat} (h : ¬ bI (0 < nI w) = 0) : w ≠ 0 := fun e => h (by subst e; decide)
theorem cd2_f {P : Prop} {w : Nat} (hc : cd2 P w) (h : bI (0 < nI w) = 0) : w = 0 ∧ P := by
  rcases hc with ⟨rfl, h1⟩ | ⟨rfl, h1⟩
  · exact absurd h (by decide)
  · exact ⟨rfl, h1⟩
theorem cd3_f {P1 P2 : Prop} {w : Nat} (hc : cd3 P1 P2 w) (h : bI (0 < nI w) = 0) : w = 0 ∧ P1 ∧ P2 := by
  rcases hc with ⟨rfl, h1⟩ | ⟨rfl, h1⟩ | ⟨rfl, h1⟩
  · exact absurd h (by decide)
  · exact absurd h (by decide)
  · exact ⟨rfl, h1⟩
theorem cd4_f {P1 P2 P3 : Prop} {w : Nat} (hc : cd4 P1 P2 P3 w) (h : bI (0 < nI w) = 0) : w = 0 ∧ P1 ∧ P2 ∧ P3 := by
  rcases hc with ⟨rfl, h1⟩ | ⟨rfl, h1⟩ | ⟨rfl, h1⟩ | ⟨rfl, h1⟩
  · exact absurd h (by decide)
  · exact absurd h (by decide)
  · exact absurd h (by decide)
  · exact ⟨rfl, h1⟩
theorem gin_t {x : Int32} {N : Nat} (h : ¬ bI (0 ≤ x ∧ x < nI N) = 0) (hN : N < 2 ^ 31) : gin x N := (gin_iff hN).mp (Classical.byContradiction fun q => h (bI_0.mpr q))
theorem gin_f {x : Int32} {N : Nat} (h : bI (0 ≤ x ∧ x < nI N) = 0) (hN : N < 2 ^ 31) : ¬ gin x N := fun q => bI_0.mp h ((gin_iff hN).mpr q)
theorem gct_t {x : Int32} (h : ¬ bI (-1 ≤ x ∧ x ≤ nI 9999) = 0) : gct x := gct_iff.mp (Classical.byContradiction fun q => h (bI_0.mpr q))
theorem gct_f {x : Int32} (h : bI (-1 ≤ x ∧ x ≤ nI 9999) = 0) : ¬ gct x := fun q => bI_0.mp h (gct_iff.mpr q)
/-- what a public method of the reference leaves: its answer, its arrays and numbers -/
def mQ (cy : Nat → ClassId) (mo : Nat) (ad : Nat → Nat) (L : List Nat) (Rl : Int32 → (Nat → Nat → Int32) → (Nat → Int32) → Prop) : Option Value → List Nat → gF → Prop := fun v L1 f1 => L = L1 ∧ ∃ (b : Int32) (A1 : Nat → Nat → Int32) (I1 : Nat → Int32), v = some (.int b) ∧ IsM cy mo ad A1 I1 L f1 ∧ Rl b A1 I1
theorem k6_isIn {l : Launch} {s0 : State} {D : va_G} {cy : Nat → ClassId} (hE : gE s0 D cy) (hl : l.stackTraces = false) {L : List Nat} {f : gF} (x y : Int32) : gM l s0 D yX6_isIn cX6_isIn 2 (some .boolean) 1 0 0 [.int x, .int y] L f (fun v L1 f1 => v = some (.int (bI (0 ≤ x ∧ x < y))) ∧ L = L1 ∧ f = f1) := by
  refine gM.of (own := RX6) hE hl (by decide +kernel) rfl rfl (Nat.le_of_ble_eq_true rfl) (fun p e s m args below meth c C hr hnm => ?_)
  refine G.weak (ls' := [some (.int x), some (.int y)]) ?_ rfl (fun _ _ h => h)
  refine g_iload_n (n := 1) C dX6_isIn_0 rfl rfl ?_
  refine g_if_lt (n := 4) (tgt := 13) C dX6_isIn_1 (by decide) rfl (fun h1 => ?_) (fun h1 => ?_)
  · refine g_iconst (n := 14) (v := nI 0) C dX6_isIn_13 rfl rfl ?_
    refine g_zret C hr rfl dX6_isIn_14 ?_ ⟨by decide, by decide⟩
    exact ⟨by simp only [gn_lt, gn_le, bI] at *; split <;> first | rfl | (exfalso; omega), rfl, rfl⟩
  · refine g_iload_n (n := 5) C dX6_isIn_4 rfl rfl ?_
    refine g_iload_n (n := 6) C dX6_isIn_5 rfl rfl ?_
    refine g_icmp_ge (n := 9) (tgt := 13) C dX6_isIn_6 (by decide) rfl (fun h6 => ?_) (fun h6 => ?_)
    · refine g_iconst (n := 14) (v := nI 0) C dX6_isIn_13 rfl rfl ?_
      refine g_zret C hr rfl dX6_isIn_14 ?_ ⟨by decide, by decide⟩
      exact ⟨by simp only [gn_lt, gn_le, bI] at *; split <;> first | rfl | (exfalso; omega), rfl, rfl⟩
    · refine g_iconst (n := 10) (v := nI 1) C dX6_isIn_9 rfl rfl ?_
      refine g_goto (tgt := 14) C dX6_isIn_10 (by decide) ?_
      refine g_zret C hr rfl dX6_isIn_14 ?_ ⟨by decide, by decide⟩
      exact ⟨by simp only [gn_lt, gn_le, bI] at *; split <;> first | rfl | (exfalso; omega), rfl, rfl⟩
theorem k6_isContent {l : Launch} {s0 : State} {D : va_G} {cy : Nat → ClassId} (hE : gE s0 D cy) (hl : l.stackTraces = false) {L : List Nat} {f : gF} (x : Int32) : gM l s0 D yX6_isContent cX6_isContent 1 (some .boolean) 1 0 0 [.int x] L f (fun v L1 f1 => v = some (.int (bI (-1 ≤ x ∧ x ≤ nI 9999))) ∧ L = L1 ∧ f = f1) := by
  refine gM.of (own := RX6) hE hl (by decide +kernel) rfl rfl (Nat.le_of_ble_eq_true rfl) (fun p e s m args below meth c C hr hnm => ?_)
  refine G.weak (ls' := [some (.int x)]) ?_ rfl (fun _ _ h => h)
  refine g_iload_n (n := 1) C dX6_isContent_0 rfl rfl ?_
  refine g_iconst (n := 2) (v := -1) C dX6_isContent_1 rfl rfl ?_
  refine g_icmp_lt (n := 5) (tgt := 16) C dX6_isContent_2 (by decide) rfl (fun h2 => ?_) (fun h2 => ?_)
  · refine g_iconst (n := 17) (v := nI 0) C dX6_isContent_16 rfl rfl ?_
    refine g_zret C hr rfl dX6_isContent_17 ?_ ⟨by decide, by decide⟩
    exact ⟨by simp only [gn_lt, gn_le, bI] at *; split <;> first | rfl | (exfalso; omega), rfl, rfl⟩
  · refine g_iload_n (n := 6) C dX6_isContent_5 rfl rfl ?_
    refine g_sipush (n := 9) (v := nI 9999) C dX6_isContent_6 rfl rfl ?_
    refine g_icmp_gt (n := 12) (tgt := 16) C dX6_isContent_9 (by decide) rfl (fun h9 => ?_) (fun h9 => ?_)
    · refine g_iconst (n := 17) (v := nI 0) C dX6_isContent_16 rfl rfl ?_
      refine g_zret C hr rfl dX6_isContent_17 ?_ ⟨by decide, by decide⟩
      exact ⟨by simp only [gn_lt, gn_le, bI] at *; split <;> first | rfl | (exfalso; omega), rfl, rfl⟩
    · refine g_iconst (n := 13) (v := nI 1) C dX6_isContent_12 rfl rfl ?_
      refine g_goto (tgt := 17) C dX6_isContent_13 (by decide) ?_
      refine g_zret C hr rfl dX6_isContent_17 ?_ ⟨by decide, by decide⟩
      exact ⟨by simp only [gn_lt, gn_le, bI] at *; split <;> first | rfl | (exfalso; omega), rfl, rfl⟩
theorem k6_fails {l : Launch} {s0 : State} {D : va_G} {cy : Nat → ClassId} (hE : gE s0 D cy) (hl : l.stackTraces = false) {mo : Nat} {ad : Nat → Nat} {A : Nat → Nat → Int32} {I : Nat → Int32} {L : List Nat} {f : gF} (hM : IsM cy mo ad A I L f) (w : Int32) : gM l s0 D yX6_fails cX6_fails 2 (some .boolean) 1 0 0 [.ref mo, .int w] L f (fun v L1 f1 => L = L1 ∧ IsM cy mo ad A (va_up I 27 w) L f1 ∧ v = some (.int (bI (0 < w)))) := by
  refine gM.of (own := RX6) hE hl (by decide +kernel) rfl rfl (Nat.le_of_ble_eq_true rfl) (fun p e s m args below meth c C hr hnm => ?_)
  refine G.weak (ls' := [some (.ref mo), some (.int w)]) ?_ rfl (fun _ _ h => h)
  refine g_aload_n (n := 1) C dX6_fails_0 rfl (Or.inr ⟨_, rfl⟩) rfl ?_
  refine g_iload_n (n := 2) C dX6_fails_1 rfl rfl ?_
  refine m_put (n := 5) C hM dX6_fails_2 kP_X6_84 ⟨rfl, rfl⟩ (by decide) rfl rfl (fun f hM => ?_)
  refine g_iload_n (n := 6) C dX6_fails_5 rfl rfl ?_
  refine g_if_le (n := 9) (tgt := 13) C dX6_fails_6 (by decide) rfl (fun h6 => ?_) (fun h6 => ?_)
  · refine g_iconst (n := 14) (v := nI 0) C dX6_fails_13 rfl rfl ?_
    refine g_zret C hr rfl dX6_fails_14 ?_ ⟨by decide, by decide⟩
    exact ⟨rfl, hM, by simp only [gn_lt, gn_le, bI] at *; split <;> first | rfl | (exfalso; omega)⟩
  · refine g_iconst (n := 10) (v := nI 1) C dX6_fails_9 rfl rfl ?_
    refine g_goto (tgt := 14) C dX6_fails_10 (by decide) ?_
    refine g_zret C hr rfl dX6_fails_14 ?_ ⟨by decide, by decide⟩
    exact ⟨rfl, hM, by simp only [gn_lt, gn_le, bI] at *; split <;> first | rfl | (exfalso; omega)⟩
theorem k6_tells {l : Launch} {s0 : State} {D : va_G} {cy : Nat → ClassId} (hE : gE s0 D cy) (hl : l.stackTraces = false) {mo : Nat} {ad : Nat → Nat} {A : Nat → Nat → Int32} {I : Nat → Int32} {L : List Nat} {f : gF} (hM : IsM cy mo ad A I L f) (w : Int32) : gM l s0 D yX6_tells cX6_tells 2 (some .int) 1 0 0 [.ref mo, .int w] L f (fun v L1 f1 => L = L1 ∧ IsM cy mo ad A (va_up I 27 (nI 0)) L f1 ∧ v = some (.int w)) := by
  refine gM.of (own := RX6) hE hl (by decide +kernel) rfl rfl (Nat.le_of_ble_eq_true rfl) (fun p e s m args below meth c C hr hnm => ?_)
  refine G.weak (ls' := [some (.ref mo), some (.int w)]) ?_ rfl (fun _ _ h => h)
  refine g_aload_n (n := 1) C dX6_tells_0 rfl (Or.inr ⟨_, rfl⟩) rfl ?_
  refine g_iconst (n := 2) (v := nI 0) C dX6_tells_1 rfl rfl ?_
  refine m_put (n := 5) C hM dX6_tells_2 kP_X6_84 ⟨rfl, rfl⟩ (by decide) rfl rfl (fun f hM => ?_)
  refine g_iload_n (n := 6) C dX6_tells_5 rfl rfl ?_
  refine g_iret C hr dX6_tells_6 ?_ ⟨by decide, by decide⟩
  exact ⟨rfl, hM, rfl⟩
theorem k6_thrown {l : Launch} {s0 : State} {D : va_G} {cy : Nat → ClassId} (hE : gE s0 D cy) (hl : l.stackTraces = false) {mo : Nat} {ad : Nat → Nat} {A : Nat → Nat → Int32} {I : Nat → Int32} {L : List Nat} {f : gF} (hM : IsM cy mo ad A I L f) : gM l s0 D yX6_thrown cX6_thrown 1 (some .int) 1 0 0 [.ref mo] L f (fun v L1 f1 => L = L1 ∧ f = f1 ∧ v = some (.int (I 27))) := by
  refine gM.of (own := RX6) hE hl (by decide +kernel) rfl rfl (Nat.le_of_ble_eq_true rfl) (fun p e s m args below meth c C hr hnm => ?_)
  refine G.weak (ls' := [some (.ref mo)]) ?_ rfl (fun _ _ h => h)
  refine g_aload_n (n := 1) C dX6_thrown_0 rfl (Or.inr ⟨_, rfl⟩) rfl ?_
  refine m_get (n := 4) C hM dX6_thrown_1 kF_X6_84 rfl rfl ?_
  refine g_iret C hr dX6_thrown_4 ?_ ⟨by decide, by decide⟩
  exact ⟨rfl, rfl, rfl⟩
theorem k6_setFile {l : Launch} {s0 : State} {D : va_G} {cy : Nat → ClassId} (hE : gE s0 D cy) (hl : l.stackTraces = false) {mo : Nat} {ad : Nat → Nat} {A : Nat → Nat → Int32} {I : Nat → Int32} {L : List Nat} {f : gF} (hM : IsM cy mo ad A I L f) (x y : Int32) : gM l s0 D yX6_setFile cX6_setFile 4 (some .int) 2 0 0 [.ref mo, .int x, .int y] L f (mQ cy mo ad L (fun b A1 I1 => ∃ w, cd3 (gin x 8) (gct y) w ∧ I1 = va_up I 27 (nI w) ∧ (w = 0 → ∃ j, j < 8 ∧ x = nI j ∧ b = A 0 j ∧ A1 = mU A 0 j y) ∧ (w ≠ 0 → A1 = A))) := by
  refine gM.of (own := RX6) hE hl (by decide +kernel) rfl rfl (Nat.le_of_ble_eq_true rfl) (fun p e s m args below meth c C hr hnm => ?_)
  refine G.weak (ls' := [some (.ref mo), some (.int x), some (.int y), none]) ?_ rfl (fun _ _ h => h)
  refine g_cut (α := Nat) (fun w => cd3 (gin x 8) (gct y) w) (fun _ => L) (fun _ => f) (fun _ => 0 + 0) (fun _ => 0 + 0) 26 (fun _ => [some (.ref mo), some (.int x), some (.int y), none]) (fun w => [.int (nI w), .ref mo]) (fun J => ?_) (fun w hw => ?_)
  · skip
    refine g_aload_n (n := 1) C dX6_setFile_0 rfl (Or.inr ⟨_, rfl⟩) rfl ?_
    refine g_iload_n (n := 2) C dX6_setFile_1 rfl rfl ?_
    refine g_bipush (n := 4) (v := nI 8) C dX6_setFile_2 rfl rfl ?_
    refine g_S (n := 7) (rest := [_]) C (k6_isIn hE hl (x) (nI 8)) dX6_setFile_4 kM_X6_isIn kL_X6_87 kS_X6_isIn rfl rfl (Nat.le_of_ble_eq_true rfl) ⟨by decide, by decide⟩ ⟨by decide, by decide⟩ rfl (fun v9 L9 f9 hq => ?_)
    obtain ⟨rfl, rfl, rfl⟩ := hq
    refine G.sk (st' := [_, _]) rfl ?_
    refine g_if_ne (n := 10) (tgt := 14) C dX6_setFile_7 (by decide) rfl (fun h7 => ?_) (fun h7 => ?_)
    · have h7 := gin_t h7 (by decide)
      refine g_iload_n (n := 15) C dX6_setFile_14 rfl rfl ?_
      refine g_S (n := 18) (rest := [_]) C (k6_isContent hE hl y) dX6_setFile_15 kM_X6_isContent kL_X6_91 kS_X6_isContent rfl rfl (Nat.le_of_ble_eq_true rfl) ⟨by decide, by decide⟩ ⟨by decide, by decide⟩ rfl (fun v9 L9 f9 hq => ?_)
      obtain ⟨rfl, rfl, rfl⟩ := hq
      refine G.sk (st' := [_, _]) rfl ?_
      refine g_if_eq (n := 21) (tgt := 25) C dX6_setFile_18 (by decide) rfl (fun h18 => ?_) (fun h18 => ?_)
      · have h18 := gct_f h18
        refine g_iconst (n := 26) (v := nI 2) C dX6_setFile_25 rfl rfl ?_
        exact J _ (by simp [cd3, h7, h18])
      · have h18 := gct_t h18
        refine g_iconst (n := 22) (v := nI 0) C dX6_setFile_21 rfl rfl ?_
        refine g_goto (tgt := 26) C dX6_setFile_22 (by decide) ?_
        exact J _ (by simp [cd3, h7, h18])
    · have h7 := gin_f h7 (by decide)
      refine g_iconst (n := 11) (v := nI 1) C dX6_setFile_10 rfl rfl ?_
      refine g_goto (tgt := 26) C dX6_setFile_11 (by decide) ?_
      exact J _ (by simp [cd3, h7])
  · skip
    refine g_V (n := 29) (rest := []) C (k6_fails hE hl hM _) dX6_setFile_26 kM_X6_fails kL_X6_95 kV_X6_fails hM.1 rfl rfl rfl (Nat.le_of_ble_eq_true rfl) ⟨by decide, by decide⟩ ⟨by decide, by decide⟩ rfl (fun v9 L9 f hq => ?_)
    obtain ⟨rfl, hM, rfl⟩ := hq
    refine G.sk (st' := [_]) rfl ?_
    refine g_if_eq (n := 32) (tgt := 34) C dX6_setFile_29 (by decide) rfl (fun h29 => ?_) (fun h29 => ?_)
    · obtain ⟨rfl, ⟨j, hj, rfl⟩, hy⟩ := cd3_f hw h29
      refine g_aload_n (n := 35) C dX6_setFile_34 rfl (Or.inr ⟨_, rfl⟩) rfl ?_
      refine m_get (n := 38) C hM dX6_setFile_35 kF_X6_7 rfl rfl ?_
      refine g_iload_n (n := 39) C dX6_setFile_38 rfl rfl ?_
      refine m_ald (n := 40) C hM dX6_setFile_39 rfl rfl rfl (by simp only [mLen]; omega) (by decide) rfl ?_
      refine g_istore_n (n := 41) (ls' := [_, _, _, _]) C dX6_setFile_40 rfl (by decide) rfl ?_
      refine g_aload_n (n := 42) C dX6_setFile_41 rfl (Or.inr ⟨_, rfl⟩) rfl ?_
      refine m_get (n := 45) C hM dX6_setFile_42 kF_X6_7 rfl rfl ?_
      refine g_iload_n (n := 46) C dX6_setFile_45 rfl rfl ?_
      refine g_iload_n (n := 47) C dX6_setFile_46 rfl rfl ?_
      refine m_ast (n := 48) C hM dX6_setFile_47 rfl rfl rfl (by simp only [mLen]; omega) (by decide) rfl (fun f hM => ?_)
      refine g_iload_n (n := 49) C dX6_setFile_48 rfl rfl ?_
      refine g_iret C hr dX6_setFile_49 ?_ ⟨by decide, by decide⟩
      exact ⟨rfl, _, _, _, rfl, hM, 0, hw, rfl, fun _ => ⟨j, hj, rfl, rfl, rfl⟩, fun h => absurd rfl h⟩
    · have hw0 := cd_t h29
      refine g_iconst (n := 33) (v := nI 0) C dX6_setFile_32 rfl rfl ?_
      refine g_iret C hr dX6_setFile_33 ?_ ⟨by decide, by decide⟩
      exact ⟨rfl, nI 0, A, _, rfl, hM, w, hw, rfl, fun h => absurd h hw0, fun _ => rfl⟩
end
section
theorem zz_end : True := trivial
end

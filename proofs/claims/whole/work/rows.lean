section
-- ===== PART A: goes FIRST, ahead of the names: the tables' words, and 'selects' of the private methods out of them =====
/-- a private method of a class that the tables say can be made, by its rows of tables_1 -/
def lw_okq (q : MethodName × Nat) : Prop := (q.1.cls ≠ "java/lang/invoke/MethodHandle" ∧ q.1.cls ≠ "java/lang/invoke/VarHandle") ∧ Cond.instantiable q.1.cls q.2 ∈ tables_1 ∧ Cond.privateMethod q.1 ∈ tables_1 ∧ Cond.instanceMethod q.1 ∈ tables_1
theorem lw_p0 : lw_okq (⟨"java/lang/Throwable", "fillInStackTrace", "(I)Ljava/lang/Throwable;"⟩, 6) := ⟨⟨by decide +kernel, by decide +kernel⟩, List.mem_of_getElem? (i := 250) (by decide +kernel), List.mem_of_getElem? (i := 248) (by decide +kernel), List.mem_of_getElem? (i := 249) (by decide +kernel)⟩
theorem lw_p1 : lw_okq (⟨"TensorForge", "requireRoom", "()V"⟩, 5) := ⟨⟨by decide +kernel, by decide +kernel⟩, List.mem_of_getElem? (i := 20) (by decide +kernel), List.mem_of_getElem? (i := 308) (by decide +kernel), List.mem_of_getElem? (i := 309) (by decide +kernel)⟩
theorem lw_p2 : lw_okq (⟨"TensorForge", "keep", "(LTensorForge$Node;)I"⟩, 5) := ⟨⟨by decide +kernel, by decide +kernel⟩, List.mem_of_getElem? (i := 20) (by decide +kernel), List.mem_of_getElem? (i := 421) (by decide +kernel), List.mem_of_getElem? (i := 422) (by decide +kernel)⟩
theorem lw_p3 : lw_okq (⟨"TensorForge", "requireNode", "(I)V"⟩, 5) := ⟨⟨by decide +kernel, by decide +kernel⟩, List.mem_of_getElem? (i := 20) (by decide +kernel), List.mem_of_getElem? (i := 437) (by decide +kernel), List.mem_of_getElem? (i := 438) (by decide +kernel)⟩
theorem lw_p4 : lw_okq (⟨"TensorForge", "weightedRatio", "(LTensorForge$Node;D)D"⟩, 5) := ⟨⟨by decide +kernel, by decide +kernel⟩, List.mem_of_getElem? (i := 20) (by decide +kernel), List.mem_of_getElem? (i := 460) (by decide +kernel), List.mem_of_getElem? (i := 461) (by decide +kernel)⟩
theorem lw_p5 : lw_okq (⟨"TensorForge$Graph", "makeSmaller", "()V"⟩, 9) := ⟨⟨by decide +kernel, by decide +kernel⟩, List.mem_of_getElem? (i := 28) (by decide +kernel), List.mem_of_getElem? (i := 570) (by decide +kernel), List.mem_of_getElem? (i := 571) (by decide +kernel)⟩
theorem lw_p6 : lw_okq (⟨"TensorForge$Graph", "changesNothing", "(LTensorForge$Node;)Z"⟩, 9) := ⟨⟨by decide +kernel, by decide +kernel⟩, List.mem_of_getElem? (i := 28) (by decide +kernel), List.mem_of_getElem? (i := 574) (by decide +kernel), List.mem_of_getElem? (i := 575) (by decide +kernel)⟩
theorem lw_p7 : lw_okq (⟨"TensorForge$Graph", "firstAlike", "(I)I"⟩, 9) := ⟨⟨by decide +kernel, by decide +kernel⟩, List.mem_of_getElem? (i := 28) (by decide +kernel), List.mem_of_getElem? (i := 583) (by decide +kernel), List.mem_of_getElem? (i := 584) (by decide +kernel)⟩
theorem lw_p8 : lw_okq (⟨"TensorForge$Graph", "alike", "(II)Z"⟩, 9) := ⟨⟨by decide +kernel, by decide +kernel⟩, List.mem_of_getElem? (i := 28) (by decide +kernel), List.mem_of_getElem? (i := 587) (by decide +kernel), List.mem_of_getElem? (i := 588) (by decide +kernel)⟩
theorem lw_p9 : lw_okq (⟨"TensorForge$Graph", "markNeeded", "(I)V"⟩, 9) := ⟨⟨by decide +kernel, by decide +kernel⟩, List.mem_of_getElem? (i := 28) (by decide +kernel), List.mem_of_getElem? (i := 596) (by decide +kernel), List.mem_of_getElem? (i := 597) (by decide +kernel)⟩
theorem lw_p10 : lw_okq (⟨"TensorForge$Graph", "need", "(I)V"⟩, 9) := ⟨⟨by decide +kernel, by decide +kernel⟩, List.mem_of_getElem? (i := 28) (by decide +kernel), List.mem_of_getElem? (i := 603) (by decide +kernel), List.mem_of_getElem? (i := 604) (by decide +kernel)⟩
theorem lw_p11 : lw_okq (⟨"TensorForge$Graph", "fuse", "(I)V"⟩, 9) := ⟨⟨by decide +kernel, by decide +kernel⟩, List.mem_of_getElem? (i := 28) (by decide +kernel), List.mem_of_getElem? (i := 607) (by decide +kernel), List.mem_of_getElem? (i := 608) (by decide +kernel)⟩
theorem lw_p12 : lw_okq (⟨"TensorForge$Graph", "feedsOneClamp", "(I)Z"⟩, 9) := ⟨⟨by decide +kernel, by decide +kernel⟩, List.mem_of_getElem? (i := 28) (by decide +kernel), List.mem_of_getElem? (i := 615) (by decide +kernel), List.mem_of_getElem? (i := 616) (by decide +kernel)⟩
theorem lw_p13 : lw_okq (⟨"TensorForge$Graph", "timesUsed", "(LTensorForge$Node;I)I"⟩, 9) := ⟨⟨by decide +kernel, by decide +kernel⟩, List.mem_of_getElem? (i := 28) (by decide +kernel), List.mem_of_getElem? (i := 619) (by decide +kernel), List.mem_of_getElem? (i := 620) (by decide +kernel)⟩
theorem lw_p14 : lw_okq (⟨"TensorForge$Graph", "countSteps", "()V"⟩, 9) := ⟨⟨by decide +kernel, by decide +kernel⟩, List.mem_of_getElem? (i := 28) (by decide +kernel), List.mem_of_getElem? (i := 623) (by decide +kernel), List.mem_of_getElem? (i := 624) (by decide +kernel)⟩
theorem lw_p15 : lw_okq (⟨"TensorForge$Graph", "findLives", "(I)V"⟩, 9) := ⟨⟨by decide +kernel, by decide +kernel⟩, List.mem_of_getElem? (i := 28) (by decide +kernel), List.mem_of_getElem? (i := 627) (by decide +kernel), List.mem_of_getElem? (i := 628) (by decide +kernel)⟩
def lw_privs_1 : List (MethodName × Nat) := [(⟨"java/lang/Throwable", "fillInStackTrace", "(I)Ljava/lang/Throwable;"⟩, 6), (⟨"TensorForge", "requireRoom", "()V"⟩, 5), (⟨"TensorForge", "keep", "(LTensorForge$Node;)I"⟩, 5), (⟨"TensorForge", "requireNode", "(I)V"⟩, 5), (⟨"TensorForge", "weightedRatio", "(LTensorForge$Node;D)D"⟩, 5), (⟨"TensorForge$Graph", "makeSmaller", "()V"⟩, 9), (⟨"TensorForge$Graph", "changesNothing", "(LTensorForge$Node;)Z"⟩, 9), (⟨"TensorForge$Graph", "firstAlike", "(I)I"⟩, 9), (⟨"TensorForge$Graph", "alike", "(II)Z"⟩, 9), (⟨"TensorForge$Graph", "markNeeded", "(I)V"⟩, 9), (⟨"TensorForge$Graph", "need", "(I)V"⟩, 9), (⟨"TensorForge$Graph", "fuse", "(I)V"⟩, 9), (⟨"TensorForge$Graph", "feedsOneClamp", "(I)Z"⟩, 9), (⟨"TensorForge$Graph", "timesUsed", "(LTensorForge$Node;I)I"⟩, 9), (⟨"TensorForge$Graph", "countSteps", "()V"⟩, 9), (⟨"TensorForge$Graph", "findLives", "(I)V"⟩, 9)]
theorem lw_r1 : ∀ q ∈ lw_privs_1, lw_okq q := List.forall_mem_cons.mpr ⟨lw_p0, List.forall_mem_cons.mpr ⟨lw_p1, List.forall_mem_cons.mpr ⟨lw_p2, List.forall_mem_cons.mpr ⟨lw_p3, List.forall_mem_cons.mpr ⟨lw_p4, List.forall_mem_cons.mpr ⟨lw_p5, List.forall_mem_cons.mpr ⟨lw_p6, List.forall_mem_cons.mpr ⟨lw_p7, List.forall_mem_cons.mpr ⟨lw_p8, List.forall_mem_cons.mpr ⟨lw_p9, List.forall_mem_cons.mpr ⟨lw_p10, List.forall_mem_cons.mpr ⟨lw_p11, List.forall_mem_cons.mpr ⟨lw_p12, List.forall_mem_cons.mpr ⟨lw_p13, List.forall_mem_cons.mpr ⟨lw_p14, List.forall_mem_cons.mpr ⟨lw_p15, fun _ h => absurd h List.not_mem_nil⟩⟩⟩⟩⟩⟩⟩⟩⟩⟩⟩⟩⟩⟩⟩⟩
theorem lw_p16 : lw_okq (⟨"TensorForge$Graph", "keepAlive", "(II)V"⟩, 9) := ⟨⟨by decide +kernel, by decide +kernel⟩, List.mem_of_getElem? (i := 28) (by decide +kernel), List.mem_of_getElem? (i := 635) (by decide +kernel), List.mem_of_getElem? (i := 636) (by decide +kernel)⟩
theorem lw_p17 : lw_okq (⟨"TensorForge$Graph", "givePlaces", "()V"⟩, 9) := ⟨⟨by decide +kernel, by decide +kernel⟩, List.mem_of_getElem? (i := 28) (by decide +kernel), List.mem_of_getElem? (i := 639) (by decide +kernel), List.mem_of_getElem? (i := 640) (by decide +kernel)⟩
theorem lw_p18 : lw_okq (⟨"TensorForge$Graph", "largestWithoutPlace", "()I"⟩, 9) := ⟨⟨by decide +kernel, by decide +kernel⟩, List.mem_of_getElem? (i := 28) (by decide +kernel), List.mem_of_getElem? (i := 643) (by decide +kernel), List.mem_of_getElem? (i := 644) (by decide +kernel)⟩
theorem lw_p19 : lw_okq (⟨"TensorForge$Graph", "leastFreePlace", "(I)I"⟩, 9) := ⟨⟨by decide +kernel, by decide +kernel⟩, List.mem_of_getElem? (i := 28) (by decide +kernel), List.mem_of_getElem? (i := 647) (by decide +kernel), List.mem_of_getElem? (i := 648) (by decide +kernel)⟩
theorem lw_p20 : lw_okq (⟨"TensorForge$Graph", "nodeInTheWay", "(II)I"⟩, 9) := ⟨⟨by decide +kernel, by decide +kernel⟩, List.mem_of_getElem? (i := 28) (by decide +kernel), List.mem_of_getElem? (i := 651) (by decide +kernel), List.mem_of_getElem? (i := 652) (by decide +kernel)⟩
theorem lw_p21 : lw_okq (⟨"TensorForge$Graph", "liveTogether", "(II)Z"⟩, 9) := ⟨⟨by decide +kernel, by decide +kernel⟩, List.mem_of_getElem? (i := 28) (by decide +kernel), List.mem_of_getElem? (i := 655) (by decide +kernel), List.mem_of_getElem? (i := 656) (by decide +kernel)⟩
theorem lw_p22 : lw_okq (⟨"TensorForge", "requireCompiled", "()V"⟩, 5) := ⟨⟨by decide +kernel, by decide +kernel⟩, List.mem_of_getElem? (i := 20) (by decide +kernel), List.mem_of_getElem? (i := 677) (by decide +kernel), List.mem_of_getElem? (i := 678) (by decide +kernel)⟩
theorem lw_p23 : lw_okq (⟨"TensorForge$Machine", "doStep", "(LTensorForge$Graph;I)V"⟩, 9) := ⟨⟨by decide +kernel, by decide +kernel⟩, List.mem_of_getElem? (i := 77) (by decide +kernel), List.mem_of_getElem? (i := 704) (by decide +kernel), List.mem_of_getElem? (i := 705) (by decide +kernel)⟩
theorem lw_p24 : lw_okq (⟨"TensorForge$Machine", "compute", "(LTensorForge$Graph;LTensorForge$Node;I)V"⟩, 9) := ⟨⟨by decide +kernel, by decide +kernel⟩, List.mem_of_getElem? (i := 77) (by decide +kernel), List.mem_of_getElem? (i := 709) (by decide +kernel), List.mem_of_getElem? (i := 710) (by decide +kernel)⟩
theorem lw_p25 : lw_okq (⟨"TensorForge$Machine", "connect", "(LTensorForge$Node;LTensorForge$Node;II)V"⟩, 9) := ⟨⟨by decide +kernel, by decide +kernel⟩, List.mem_of_getElem? (i := 77) (by decide +kernel), List.mem_of_getElem? (i := 720) (by decide +kernel), List.mem_of_getElem? (i := 721) (by decide +kernel)⟩
theorem lw_p26 : lw_okq (⟨"TensorForge$Machine", "bias", "(LTensorForge$Node;II)I"⟩, 9) := ⟨⟨by decide +kernel, by decide +kernel⟩, List.mem_of_getElem? (i := 77) (by decide +kernel), List.mem_of_getElem? (i := 733) (by decide +kernel), List.mem_of_getElem? (i := 734) (by decide +kernel)⟩
theorem lw_p27 : lw_okq (⟨"TensorForge$Machine", "addUp", "(LTensorForge$Node;III)V"⟩, 9) := ⟨⟨by decide +kernel, by decide +kernel⟩, List.mem_of_getElem? (i := 77) (by decide +kernel), List.mem_of_getElem? (i := 755) (by decide +kernel), List.mem_of_getElem? (i := 756) (by decide +kernel)⟩
theorem lw_p28 : lw_okq (⟨"TensorForge$Machine", "join", "(LTensorForge$Node;LTensorForge$Node;III)V"⟩, 9) := ⟨⟨by decide +kernel, by decide +kernel⟩, List.mem_of_getElem? (i := 77) (by decide +kernel), List.mem_of_getElem? (i := 759) (by decide +kernel), List.mem_of_getElem? (i := 760) (by decide +kernel)⟩
theorem lw_p29 : lw_okq (⟨"TensorForge$Machine", "hold", "(LTensorForge$Node;II)V"⟩, 9) := ⟨⟨by decide +kernel, by decide +kernel⟩, List.mem_of_getElem? (i := 77) (by decide +kernel), List.mem_of_getElem? (i := 763) (by decide +kernel), List.mem_of_getElem? (i := 764) (by decide +kernel)⟩
theorem lw_p30 : lw_okq (⟨"TensorForge$Machine", "changeScale", "(LTensorForge$Node;II)V"⟩, 9) := ⟨⟨by decide +kernel, by decide +kernel⟩, List.mem_of_getElem? (i := 77) (by decide +kernel), List.mem_of_getElem? (i := 769) (by decide +kernel), List.mem_of_getElem? (i := 770) (by decide +kernel)⟩
theorem lw_p31 : lw_okq (⟨"TensorForge$Machine", "slide", "(LTensorForge$Node;LTensorForge$Node;II)V"⟩, 9) := ⟨⟨by decide +kernel, by decide +kernel⟩, List.mem_of_getElem? (i := 77) (by decide +kernel), List.mem_of_getElem? (i := 773) (by decide +kernel), List.mem_of_getElem? (i := 774) (by decide +kernel)⟩
def lw_privs_2 : List (MethodName × Nat) := [(⟨"TensorForge$Graph", "keepAlive", "(II)V"⟩, 9), (⟨"TensorForge$Graph", "givePlaces", "()V"⟩, 9), (⟨"TensorForge$Graph", "largestWithoutPlace", "()I"⟩, 9), (⟨"TensorForge$Graph", "leastFreePlace", "(I)I"⟩, 9), (⟨"TensorForge$Graph", "nodeInTheWay", "(II)I"⟩, 9), (⟨"TensorForge$Graph", "liveTogether", "(II)Z"⟩, 9), (⟨"TensorForge", "requireCompiled", "()V"⟩, 5), (⟨"TensorForge$Machine", "doStep", "(LTensorForge$Graph;I)V"⟩, 9), (⟨"TensorForge$Machine", "compute", "(LTensorForge$Graph;LTensorForge$Node;I)V"⟩, 9), (⟨"TensorForge$Machine", "connect", "(LTensorForge$Node;LTensorForge$Node;II)V"⟩, 9), (⟨"TensorForge$Machine", "bias", "(LTensorForge$Node;II)I"⟩, 9), (⟨"TensorForge$Machine", "addUp", "(LTensorForge$Node;III)V"⟩, 9), (⟨"TensorForge$Machine", "join", "(LTensorForge$Node;LTensorForge$Node;III)V"⟩, 9), (⟨"TensorForge$Machine", "hold", "(LTensorForge$Node;II)V"⟩, 9), (⟨"TensorForge$Machine", "changeScale", "(LTensorForge$Node;II)V"⟩, 9), (⟨"TensorForge$Machine", "slide", "(LTensorForge$Node;LTensorForge$Node;II)V"⟩, 9)]
theorem lw_r2 : ∀ q ∈ lw_privs_2, lw_okq q := List.forall_mem_cons.mpr ⟨lw_p16, List.forall_mem_cons.mpr ⟨lw_p17, List.forall_mem_cons.mpr ⟨lw_p18, List.forall_mem_cons.mpr ⟨lw_p19, List.forall_mem_cons.mpr ⟨lw_p20, List.forall_mem_cons.mpr ⟨lw_p21, List.forall_mem_cons.mpr ⟨lw_p22, List.forall_mem_cons.mpr ⟨lw_p23, List.forall_mem_cons.mpr ⟨lw_p24, List.forall_mem_cons.mpr ⟨lw_p25, List.forall_mem_cons.mpr ⟨lw_p26, List.forall_mem_cons.mpr ⟨lw_p27, List.forall_mem_cons.mpr ⟨lw_p28, List.forall_mem_cons.mpr ⟨lw_p29, List.forall_mem_cons.mpr ⟨lw_p30, List.forall_mem_cons.mpr ⟨lw_p31, fun _ h => absurd h List.not_mem_nil⟩⟩⟩⟩⟩⟩⟩⟩⟩⟩⟩⟩⟩⟩⟩⟩
theorem lw_p32 : lw_okq (⟨"TensorForge$Window", "before", "(II)I"⟩, 12) := ⟨⟨by decide +kernel, by decide +kernel⟩, List.mem_of_getElem? (i := 83) (by decide +kernel), List.mem_of_getElem? (i := 781) (by decide +kernel), List.mem_of_getElem? (i := 782) (by decide +kernel)⟩
theorem lw_p33 : lw_okq (⟨"TensorForge$Machine", "ofWindow", "(LTensorForge$Node;LTensorForge$Node;II)I"⟩, 9) := ⟨⟨by decide +kernel, by decide +kernel⟩, List.mem_of_getElem? (i := 77) (by decide +kernel), List.mem_of_getElem? (i := 792) (by decide +kernel), List.mem_of_getElem? (i := 793) (by decide +kernel)⟩
theorem lw_p34 : lw_okq (⟨"TensorForge$Machine", "sumAllChannels", "(LTensorForge$Node;LTensorForge$Node;II)I"⟩, 9) := ⟨⟨by decide +kernel, by decide +kernel⟩, List.mem_of_getElem? (i := 77) (by decide +kernel), List.mem_of_getElem? (i := 796) (by decide +kernel), List.mem_of_getElem? (i := 797) (by decide +kernel)⟩
theorem lw_p35 : lw_okq (⟨"TensorForge$Machine", "sumOneChannel", "(LTensorForge$Node;LTensorForge$Node;II)I"⟩, 9) := ⟨⟨by decide +kernel, by decide +kernel⟩, List.mem_of_getElem? (i := 77) (by decide +kernel), List.mem_of_getElem? (i := 800) (by decide +kernel), List.mem_of_getElem? (i := 801) (by decide +kernel)⟩
theorem lw_p36 : lw_okq (⟨"TensorForge$Machine", "greatest", "(LTensorForge$Node;I)I"⟩, 9) := ⟨⟨by decide +kernel, by decide +kernel⟩, List.mem_of_getElem? (i := 77) (by decide +kernel), List.mem_of_getElem? (i := 804) (by decide +kernel), List.mem_of_getElem? (i := 805) (by decide +kernel)⟩
theorem lw_p37 : lw_okq (⟨"TensorForge$Machine", "average", "(LTensorForge$Node;I)I"⟩, 9) := ⟨⟨by decide +kernel, by decide +kernel⟩, List.mem_of_getElem? (i := 77) (by decide +kernel), List.mem_of_getElem? (i := 808) (by decide +kernel), List.mem_of_getElem? (i := 809) (by decide +kernel)⟩
theorem lw_p38 : lw_okq (⟨"TensorForge$Machine", "sumOfResult", "()I"⟩, 9) := ⟨⟨by decide +kernel, by decide +kernel⟩, List.mem_of_getElem? (i := 77) (by decide +kernel), List.mem_of_getElem? (i := 815) (by decide +kernel), List.mem_of_getElem? (i := 816) (by decide +kernel)⟩
theorem lw_p39 : lw_okq (⟨"TensorForge", "aboutPlanned", "(II)I"⟩, 5) := ⟨⟨by decide +kernel, by decide +kernel⟩, List.mem_of_getElem? (i := 20) (by decide +kernel), List.mem_of_getElem? (i := 863) (by decide +kernel), List.mem_of_getElem? (i := 864) (by decide +kernel)⟩
theorem lw_p40 : lw_okq (⟨"TensorForgeModel", "out", "(II)Z"⟩, 32) := ⟨⟨by decide +kernel, by decide +kernel⟩, List.mem_of_getElem? (i := 874) (by decide +kernel), List.mem_of_getElem? (i := 986) (by decide +kernel), List.mem_of_getElem? (i := 987) (by decide +kernel)⟩
theorem lw_p41 : lw_okq (⟨"TensorForgeModel", "fail", "(I)I"⟩, 32) := ⟨⟨by decide +kernel, by decide +kernel⟩, List.mem_of_getElem? (i := 874) (by decide +kernel), List.mem_of_getElem? (i := 990) (by decide +kernel), List.mem_of_getElem? (i := 991) (by decide +kernel)⟩
theorem lw_p42 : lw_okq (⟨"TensorForgeModel", "badScale", "(D)Z"⟩, 32) := ⟨⟨by decide +kernel, by decide +kernel⟩, List.mem_of_getElem? (i := 874) (by decide +kernel), List.mem_of_getElem? (i := 998) (by decide +kernel), List.mem_of_getElem? (i := 999) (by decide +kernel)⟩
theorem lw_p43 : lw_okq (⟨"TensorForgeModel", "make", "(IIIIIID)I"⟩, 32) := ⟨⟨by decide +kernel, by decide +kernel⟩, List.mem_of_getElem? (i := 874) (by decide +kernel), List.mem_of_getElem? (i := 1007) (by decide +kernel), List.mem_of_getElem? (i := 1008) (by decide +kernel)⟩
theorem lw_p44 : lw_okq (⟨"TensorForgeModel", "finish", "(IIII)I"⟩, 32) := ⟨⟨by decide +kernel, by decide +kernel⟩, List.mem_of_getElem? (i := 874) (by decide +kernel), List.mem_of_getElem? (i := 1011) (by decide +kernel), List.mem_of_getElem? (i := 1012) (by decide +kernel)⟩
theorem lw_p45 : lw_okq (⟨"TensorForgeModel", "side", "(I)I"⟩, 32) := ⟨⟨by decide +kernel, by decide +kernel⟩, List.mem_of_getElem? (i := 874) (by decide +kernel), List.mem_of_getElem? (i := 1019) (by decide +kernel), List.mem_of_getElem? (i := 1020) (by decide +kernel)⟩
theorem lw_p46 : lw_okq (⟨"TensorForgeModel", "narrow", "(II)Z"⟩, 32) := ⟨⟨by decide +kernel, by decide +kernel⟩, List.mem_of_getElem? (i := 874) (by decide +kernel), List.mem_of_getElem? (i := 1023) (by decide +kernel), List.mem_of_getElem? (i := 1024) (by decide +kernel)⟩
theorem lw_p47 : lw_okq (⟨"TensorForgeModel", "badRatio", "(D)Z"⟩, 32) := ⟨⟨by decide +kernel, by decide +kernel⟩, List.mem_of_getElem? (i := 874) (by decide +kernel), List.mem_of_getElem? (i := 1027) (by decide +kernel), List.mem_of_getElem? (i := 1028) (by decide +kernel)⟩
def lw_privs_3 : List (MethodName × Nat) := [(⟨"TensorForge$Window", "before", "(II)I"⟩, 12), (⟨"TensorForge$Machine", "ofWindow", "(LTensorForge$Node;LTensorForge$Node;II)I"⟩, 9), (⟨"TensorForge$Machine", "sumAllChannels", "(LTensorForge$Node;LTensorForge$Node;II)I"⟩, 9), (⟨"TensorForge$Machine", "sumOneChannel", "(LTensorForge$Node;LTensorForge$Node;II)I"⟩, 9), (⟨"TensorForge$Machine", "greatest", "(LTensorForge$Node;I)I"⟩, 9), (⟨"TensorForge$Machine", "average", "(LTensorForge$Node;I)I"⟩, 9), (⟨"TensorForge$Machine", "sumOfResult", "()I"⟩, 9), (⟨"TensorForge", "aboutPlanned", "(II)I"⟩, 5), (⟨"TensorForgeModel", "out", "(II)Z"⟩, 32), (⟨"TensorForgeModel", "fail", "(I)I"⟩, 32), (⟨"TensorForgeModel", "badScale", "(D)Z"⟩, 32), (⟨"TensorForgeModel", "make", "(IIIIIID)I"⟩, 32), (⟨"TensorForgeModel", "finish", "(IIII)I"⟩, 32), (⟨"TensorForgeModel", "side", "(I)I"⟩, 32), (⟨"TensorForgeModel", "narrow", "(II)Z"⟩, 32), (⟨"TensorForgeModel", "badRatio", "(D)Z"⟩, 32)]
theorem lw_r3 : ∀ q ∈ lw_privs_3, lw_okq q := List.forall_mem_cons.mpr ⟨lw_p32, List.forall_mem_cons.mpr ⟨lw_p33, List.forall_mem_cons.mpr ⟨lw_p34, List.forall_mem_cons.mpr ⟨lw_p35, List.forall_mem_cons.mpr ⟨lw_p36, List.forall_mem_cons.mpr ⟨lw_p37, List.forall_mem_cons.mpr ⟨lw_p38, List.forall_mem_cons.mpr ⟨lw_p39, List.forall_mem_cons.mpr ⟨lw_p40, List.forall_mem_cons.mpr ⟨lw_p41, List.forall_mem_cons.mpr ⟨lw_p42, List.forall_mem_cons.mpr ⟨lw_p43, List.forall_mem_cons.mpr ⟨lw_p44, List.forall_mem_cons.mpr ⟨lw_p45, List.forall_mem_cons.mpr ⟨lw_p46, List.forall_mem_cons.mpr ⟨lw_p47, fun _ h => absurd h List.not_mem_nil⟩⟩⟩⟩⟩⟩⟩⟩⟩⟩⟩⟩⟩⟩⟩⟩
theorem lw_p48 : lw_okq (⟨"TensorForgeModel", "places", "(II)I"⟩, 32) := ⟨⟨by decide +kernel, by decide +kernel⟩, List.mem_of_getElem? (i := 874) (by decide +kernel), List.mem_of_getElem? (i := 1033) (by decide +kernel), List.mem_of_getElem? (i := 1034) (by decide +kernel)⟩
theorem lw_p49 : lw_okq (⟨"TensorForgeModel", "stride", "(I)I"⟩, 32) := ⟨⟨by decide +kernel, by decide +kernel⟩, List.mem_of_getElem? (i := 874) (by decide +kernel), List.mem_of_getElem? (i := 1037) (by decide +kernel), List.mem_of_getElem? (i := 1038) (by decide +kernel)⟩
theorem lw_p50 : lw_okq (⟨"TensorForgeModel", "cells", "(I)I"⟩, 32) := ⟨⟨by decide +kernel, by decide +kernel⟩, List.mem_of_getElem? (i := 874) (by decide +kernel), List.mem_of_getElem? (i := 1045) (by decide +kernel), List.mem_of_getElem? (i := 1046) (by decide +kernel)⟩
theorem lw_p51 : lw_okq (⟨"TensorForgeModel", "sameSize", "(II)Z"⟩, 32) := ⟨⟨by decide +kernel, by decide +kernel⟩, List.mem_of_getElem? (i := 874) (by decide +kernel), List.mem_of_getElem? (i := 1053) (by decide +kernel), List.mem_of_getElem? (i := 1054) (by decide +kernel)⟩
theorem lw_p52 : lw_okq (⟨"TensorForgeModel", "findStands", "(I)V"⟩, 32) := ⟨⟨by decide +kernel, by decide +kernel⟩, List.mem_of_getElem? (i := 874) (by decide +kernel), List.mem_of_getElem? (i := 1085) (by decide +kernel), List.mem_of_getElem? (i := 1086) (by decide +kernel)⟩
theorem lw_p53 : lw_okq (⟨"TensorForgeModel", "standFor", "(I)I"⟩, 32) := ⟨⟨by decide +kernel, by decide +kernel⟩, List.mem_of_getElem? (i := 874) (by decide +kernel), List.mem_of_getElem? (i := 1089) (by decide +kernel), List.mem_of_getElem? (i := 1090) (by decide +kernel)⟩
theorem lw_p54 : lw_okq (⟨"TensorForgeModel", "alike", "(II)Z"⟩, 32) := ⟨⟨by decide +kernel, by decide +kernel⟩, List.mem_of_getElem? (i := 874) (by decide +kernel), List.mem_of_getElem? (i := 1093) (by decide +kernel), List.mem_of_getElem? (i := 1094) (by decide +kernel)⟩
theorem lw_p55 : lw_okq (⟨"TensorForgeModel", "findRoles", "()V"⟩, 32) := ⟨⟨by decide +kernel, by decide +kernel⟩, List.mem_of_getElem? (i := 874) (by decide +kernel), List.mem_of_getElem? (i := 1097) (by decide +kernel), List.mem_of_getElem? (i := 1098) (by decide +kernel)⟩
theorem lw_p56 : lw_okq (⟨"TensorForgeModel", "uses", "(I)I"⟩, 32) := ⟨⟨by decide +kernel, by decide +kernel⟩, List.mem_of_getElem? (i := 874) (by decide +kernel), List.mem_of_getElem? (i := 1101) (by decide +kernel), List.mem_of_getElem? (i := 1102) (by decide +kernel)⟩
theorem lw_p57 : lw_okq (⟨"TensorForgeModel", "findLives", "()V"⟩, 32) := ⟨⟨by decide +kernel, by decide +kernel⟩, List.mem_of_getElem? (i := 874) (by decide +kernel), List.mem_of_getElem? (i := 1105) (by decide +kernel), List.mem_of_getElem? (i := 1106) (by decide +kernel)⟩
theorem lw_p58 : lw_okq (⟨"TensorForgeModel", "hasInput", "(II)Z"⟩, 32) := ⟨⟨by decide +kernel, by decide +kernel⟩, List.mem_of_getElem? (i := 874) (by decide +kernel), List.mem_of_getElem? (i := 1109) (by decide +kernel), List.mem_of_getElem? (i := 1110) (by decide +kernel)⟩
theorem lw_p59 : lw_okq (⟨"TensorForgeModel", "plan", "()V"⟩, 32) := ⟨⟨by decide +kernel, by decide +kernel⟩, List.mem_of_getElem? (i := 874) (by decide +kernel), List.mem_of_getElem? (i := 1113) (by decide +kernel), List.mem_of_getElem? (i := 1114) (by decide +kernel)⟩
theorem lw_p60 : lw_okq (⟨"TensorForgeModel", "hits", "(III)Z"⟩, 32) := ⟨⟨by decide +kernel, by decide +kernel⟩, List.mem_of_getElem? (i := 874) (by decide +kernel), List.mem_of_getElem? (i := 1117) (by decide +kernel), List.mem_of_getElem? (i := 1118) (by decide +kernel)⟩
theorem lw_p61 : lw_okq (⟨"TensorForgeModel", "value", "(II)I"⟩, 32) := ⟨⟨by decide +kernel, by decide +kernel⟩, List.mem_of_getElem? (i := 874) (by decide +kernel), List.mem_of_getElem? (i := 1129) (by decide +kernel), List.mem_of_getElem? (i := 1130) (by decide +kernel)⟩
theorem lw_p62 : lw_okq (⟨"TensorForgeModel", "windowSum", "(IIIII)J"⟩, 32) := ⟨⟨by decide +kernel, by decide +kernel⟩, List.mem_of_getElem? (i := 874) (by decide +kernel), List.mem_of_getElem? (i := 1133) (by decide +kernel), List.mem_of_getElem? (i := 1134) (by decide +kernel)⟩
theorem lw_p63 : lw_okq (⟨"TensorForgeModel", "before", "(II)I"⟩, 32) := ⟨⟨by decide +kernel, by decide +kernel⟩, List.mem_of_getElem? (i := 874) (by decide +kernel), List.mem_of_getElem? (i := 1137) (by decide +kernel), List.mem_of_getElem? (i := 1138) (by decide +kernel)⟩
def lw_privs_4 : List (MethodName × Nat) := [(⟨"TensorForgeModel", "places", "(II)I"⟩, 32), (⟨"TensorForgeModel", "stride", "(I)I"⟩, 32), (⟨"TensorForgeModel", "cells", "(I)I"⟩, 32), (⟨"TensorForgeModel", "sameSize", "(II)Z"⟩, 32), (⟨"TensorForgeModel", "findStands", "(I)V"⟩, 32), (⟨"TensorForgeModel", "standFor", "(I)I"⟩, 32), (⟨"TensorForgeModel", "alike", "(II)Z"⟩, 32), (⟨"TensorForgeModel", "findRoles", "()V"⟩, 32), (⟨"TensorForgeModel", "uses", "(I)I"⟩, 32), (⟨"TensorForgeModel", "findLives", "()V"⟩, 32), (⟨"TensorForgeModel", "hasInput", "(II)Z"⟩, 32), (⟨"TensorForgeModel", "plan", "()V"⟩, 32), (⟨"TensorForgeModel", "hits", "(III)Z"⟩, 32), (⟨"TensorForgeModel", "value", "(II)I"⟩, 32), (⟨"TensorForgeModel", "windowSum", "(IIIII)J"⟩, 32), (⟨"TensorForgeModel", "before", "(II)I"⟩, 32)]
theorem lw_r4 : ∀ q ∈ lw_privs_4, lw_okq q := List.forall_mem_cons.mpr ⟨lw_p48, List.forall_mem_cons.mpr ⟨lw_p49, List.forall_mem_cons.mpr ⟨lw_p50, List.forall_mem_cons.mpr ⟨lw_p51, List.forall_mem_cons.mpr ⟨lw_p52, List.forall_mem_cons.mpr ⟨lw_p53, List.forall_mem_cons.mpr ⟨lw_p54, List.forall_mem_cons.mpr ⟨lw_p55, List.forall_mem_cons.mpr ⟨lw_p56, List.forall_mem_cons.mpr ⟨lw_p57, List.forall_mem_cons.mpr ⟨lw_p58, List.forall_mem_cons.mpr ⟨lw_p59, List.forall_mem_cons.mpr ⟨lw_p60, List.forall_mem_cons.mpr ⟨lw_p61, List.forall_mem_cons.mpr ⟨lw_p62, List.forall_mem_cons.mpr ⟨lw_p63, fun _ h => absurd h List.not_mem_nil⟩⟩⟩⟩⟩⟩⟩⟩⟩⟩⟩⟩⟩⟩⟩⟩
theorem lw_p64 : lw_okq (⟨"TensorForgeModel", "at", "(IIII)I"⟩, 32) := ⟨⟨by decide +kernel, by decide +kernel⟩, List.mem_of_getElem? (i := 874) (by decide +kernel), List.mem_of_getElem? (i := 1141) (by decide +kernel), List.mem_of_getElem? (i := 1142) (by decide +kernel)⟩
theorem lw_p65 : lw_okq (⟨"TensorForgeModel", "scaled", "(JD)J"⟩, 32) := ⟨⟨by decide +kernel, by decide +kernel⟩, List.mem_of_getElem? (i := 874) (by decide +kernel), List.mem_of_getElem? (i := 1146) (by decide +kernel), List.mem_of_getElem? (i := 1147) (by decide +kernel)⟩
theorem lw_p66 : lw_okq (⟨"TensorForgeModel", "halves", "(JJ)J"⟩, 32) := ⟨⟨by decide +kernel, by decide +kernel⟩, List.mem_of_getElem? (i := 874) (by decide +kernel), List.mem_of_getElem? (i := 1155) (by decide +kernel), List.mem_of_getElem? (i := 1156) (by decide +kernel)⟩
theorem lw_p67 : lw_okq (⟨"TensorForgeModel", "cut", "(J)I"⟩, 32) := ⟨⟨by decide +kernel, by decide +kernel⟩, List.mem_of_getElem? (i := 874) (by decide +kernel), List.mem_of_getElem? (i := 1160) (by decide +kernel), List.mem_of_getElem? (i := 1161) (by decide +kernel)⟩
theorem lw_p68 : lw_okq (⟨"TensorForgeModel", "denseSum", "(III)J"⟩, 32) := ⟨⟨by decide +kernel, by decide +kernel⟩, List.mem_of_getElem? (i := 874) (by decide +kernel), List.mem_of_getElem? (i := 1166) (by decide +kernel), List.mem_of_getElem? (i := 1167) (by decide +kernel)⟩
theorem lw_p69 : lw_okq (⟨"TensorForgeModel", "joined", "(IIIII)I"⟩, 32) := ⟨⟨by decide +kernel, by decide +kernel⟩, List.mem_of_getElem? (i := 874) (by decide +kernel), List.mem_of_getElem? (i := 1170) (by decide +kernel), List.mem_of_getElem? (i := 1171) (by decide +kernel)⟩
theorem lw_p70 : lw_okq (⟨"TensorForgeModel", "pooled", "(IIIII)I"⟩, 32) := ⟨⟨by decide +kernel, by decide +kernel⟩, List.mem_of_getElem? (i := 874) (by decide +kernel), List.mem_of_getElem? (i := 1174) (by decide +kernel), List.mem_of_getElem? (i := 1175) (by decide +kernel)⟩
def lw_privs_5 : List (MethodName × Nat) := [(⟨"TensorForgeModel", "at", "(IIII)I"⟩, 32), (⟨"TensorForgeModel", "scaled", "(JD)J"⟩, 32), (⟨"TensorForgeModel", "halves", "(JJ)J"⟩, 32), (⟨"TensorForgeModel", "cut", "(J)I"⟩, 32), (⟨"TensorForgeModel", "denseSum", "(III)J"⟩, 32), (⟨"TensorForgeModel", "joined", "(IIIII)I"⟩, 32), (⟨"TensorForgeModel", "pooled", "(IIIII)I"⟩, 32)]
theorem lw_r5 : ∀ q ∈ lw_privs_5, lw_okq q := List.forall_mem_cons.mpr ⟨lw_p64, List.forall_mem_cons.mpr ⟨lw_p65, List.forall_mem_cons.mpr ⟨lw_p66, List.forall_mem_cons.mpr ⟨lw_p67, List.forall_mem_cons.mpr ⟨lw_p68, List.forall_mem_cons.mpr ⟨lw_p69, List.forall_mem_cons.mpr ⟨lw_p70, fun _ h => absurd h List.not_mem_nil⟩⟩⟩⟩⟩⟩⟩
def lw_privs : List (MethodName × Nat) := lw_privs_1 ++ (lw_privs_2 ++ (lw_privs_3 ++ (lw_privs_4 ++ (lw_privs_5))))
def lw_tbl : List Cond := k2_sels lw_privs ++ tables_1
theorem lw_privs_ok : ∀ q ∈ lw_privs, lw_okq q := by
  show ∀ q ∈ lw_privs_1 ++ (lw_privs_2 ++ (lw_privs_3 ++ (lw_privs_4 ++ (lw_privs_5)))), lw_okq q
  exact List.forall_mem_append.mpr ⟨lw_r1, List.forall_mem_append.mpr ⟨lw_r2, List.forall_mem_append.mpr ⟨lw_r3, List.forall_mem_append.mpr ⟨lw_r4, lw_r5⟩⟩⟩⟩
end
section
/-! ===== BEGIN words of one list among another's, by their places ===== -/
theorem goodIn_r {big : List Cond} (ws : List Cond) (ps : List Nat) (hp : ws = ps.filterMap (fun i => big[i]?)) (h : ws.all goodWord = true) : GoodIn big ws := by
  intro w hw
  have h1 := List.all_eq_true.mp h w hw
  rw [hp] at hw
  obtain ⟨i, -, hi⟩ := List.mem_filterMap.mp hw
  have hm : w ∈ big := by first | exact List.mem_of_getElem? hi | exact List.getElem?_mem hi
  exact ⟨hm, good_of_word h1⟩
theorem goodIn_app {big a b : List Cond} (ha : GoodIn big a) (hb : GoodIn big b) : GoodIn big (a ++ b) := fun w h => (List.mem_append.mp h).elim (ha w) (hb w)
theorem goodIn_ca {big a b : List Cond} {c : Cond} (ha : GoodIn big (c :: a)) (hb : GoodIn big b) : GoodIn big (c :: (a ++ b)) := fun w h => (List.mem_cons.mp h).elim (fun e => ha w (List.mem_cons.mpr (Or.inl e))) (fun h => (List.mem_append.mp h).elim (fun h => ha w (List.mem_cons.mpr (Or.inr h))) (hb w))
theorem goodIn_sub {big ws : List Cond} (hm : ∀ w ∈ ws, w ∈ big) (h : ws.all goodWord = true) : GoodIn big ws := fun w hw => ⟨hm w hw, good_of_word (List.all_eq_true.mp h w hw)⟩
/-! ===== END ===== -/

/-! ===== BEGIN exceptions that leave a method, and their catching by the caller (launches without stack traces) ===== -/
section VXA
/-! The laws vx_back, vx_callV, vx_callS, vx_callSW, vx_throw0, vx_throwS follow proofs of the library, with one case more: JvmDerived/Free/Laws.lean (Back.of_free), Shelf42/LK1.lean (callV, callS), Shelf/KitTraced.lean (throwNew0V, throwNewS). -/
/-- where a method has thrown q: the class by its name, the cell, what was written, the world -/
def vx_T (XC : String → State → State → Prop) (st : State) (q : Addr) (t : State) (mc ms : Nat) (free : Addr → Prop) : Prop :=
  ∃ (E : String) (ce : Cell) (L : List Loc), XC E st t ∧ t.heap[q]? = some ce ∧ ce.vm = .none ∧ st.vm.findClass E = some ce.cls ∧ st.WarmedH t.vm ∧ st.sameButNew ({ t with vm := st.vm } : State) L mc ms ∧ ∀ z ∈ L, free z.base
def vx_Q (Qc : Array Value → State → Outcome → State → Prop) (XC : String → State → State → Prop) (mc ms : Nat) (free : Addr → Prop) : Array Value → State → Outcome → State → Prop := fun a st o t =>
  (Qc a st o t ∧ ∃ L, FrameEnd st o t L mc ms ∧ ∀ q ∈ L, free q.base) ∨ ∃ q, o = .threw q ∧ vx_T XC st q t mc ms free
/-- a callee that returns or throws -/
def vx_Met (l : Launch) (y : MethodName) (ws : List Cond) (rm : Room) (Pc : Array Value → State → Prop) (Qc : Array Value → State → Outcome → State → Prop) (XC : String → State → State → Prop) (mc ms : Nat) (free : Addr → Prop) : Prop :=
  MetFree l y (headSpec ws rm) Pc (fun _ _ _ _ _ => True) (vx_Q Qc XC mc ms free)
def vx_Post (XC : String → State → State → Prop) (mc ms : Nat) (free : Addr → Prop) : Pt → Array Value → Addr → Pt → Prop := fun A a q B =>
  ∃ (g : JFrame) (mk : MethodId) (t : State) (L : List Loc) (E : String) (ce : Cell), B.U.heap = t.heap ∧ B.U.vm = t.vm ∧ XC E (A.U.calling g mk a) t ∧ t.heap[q]? = some ce ∧ ce.vm = .none ∧ A.U.vm.findClass E = some ce.cls ∧ B.locs = A.locs ++ L ∧ (∀ z ∈ L, free z.base) ∧ B.cells = A.cells + mc ∧ B.slots = A.slots + ms
def vx_Back (l : Launch) (R : Room) (p : Program) (e : Env) (below : List Frame) (s : State) (sargs : Array Value) (y : MethodName) (len W9 : Nat)
    (Pre : Pt → Array Value → Prop) (Post : Pt → Array Value → Option Value → Pt → Prop) (PostX : Pt → Array Value → Addr → Pt → Prop) : Prop :=
  ∀ (m : MethodId) (meth : Method) (c : Code) (A : Pt) (g : JFrame) (ig : Instr) (mk : MethodId) (a : Array Value),
    Stand p l e R s m sargs below meth c A.U A.locs A.cells A.slots → g.method = m → g.locals.size = c.maxLocals → decode c.code g.pc = .ok (ig, len) →
    2 * g.monitorRoom + (g.stack.map fun v => v.category).sum ≤ W9 → A.U.methodNamed? y = some mk → Pre A a →
    (∃ (v : Option Value) (B : Pt), Stand p l e R s m sargs below meth c B.U B.locs B.cells B.slots ∧ Post A a v B ∧
      Steps p.tables e below (doInvoke e (A.U.setTop g) [] mk a).1 (B.U.setTop { g with pc := g.pc + len, stack := v.toList ++ g.stack })) ∨
    (∃ (q : Addr) (B : Pt), Stand p l e R s m sargs below meth c B.U B.locs B.cells B.slots ∧ PostX A a q B ∧
      Steps p.tables e below (doInvoke e (A.U.setTop g) [] mk a).1 ((B.U.setTop g).pushFrame (.throwing q)))
section Payer
variable {l : Launch} {R : Room} {p : Program} {e : Env} {below : List Frame} {s : State} {sargs : Array Value} {y : MethodName} {len W9 : Nat}
theorem vx_back {ws : List Cond} {rm : Room} {Pc : Array Value → State → Prop} {Qc : Array Value → State → Outcome → State → Prop} {XC : String → State → State → Prop} {mc ms : Nat} {free : Addr → Prop} {bytes : ByteArray} {maxL : Nat} {ret : Option FieldType}
    (hM : vx_Met l y ws rm Pc Qc XC mc ms free) (hblind : FrameBlind Pc) (hrc : rm.cells = mc) (hrs : rm.slots = ms)
    (hframes : rm.frames + 1 ≤ R.frames) (hlocals : W9 + (maxL + 11) + rm.locals ≤ R.locals)
    (hws : ∀ w ∈ ws, ∀ a' U, s.WarmedH U.vm → w.before a' U = true) (hcode : Cond.code y bytes maxL ret ∈ ws) (hinit : ∀ a' U, s.WarmedH U.vm → (Cond.initialized y.cls).before a' U = true) :
    vx_Back l R p e below s sargs y len W9 (PreOf R mc ms Pc) (PostOf Qc mc ms free) (vx_Post XC mc ms free) := by
  intro m meth c A g ig mk a X hg hsize hdg hW hn hp
  have h1 : (headSpec ws rm).pre.before a A.U = true := atoms_intro fun w hw => hws w hw _ _ X.warmed
  have h2 : (Cond.code y bytes maxL ret).before a A.U = true := hws _ hcode _ _ X.warmed
  have h3 : (Cond.initialized y.cls).before a A.U = true := hinit _ _ X.warmed
  have h4 : A.cells + (headSpec ws rm).room.cells ≤ R.cells := by rw [show (headSpec ws rm).room.cells = mc from hrc]; exact hp.1
  have h5 : A.slots + (headSpec ws rm).room.slots ≤ R.slots := by rw [show (headSpec ws rm).room.slots = ms from hrs]; exact hp.2.1
  have hPc : Pc a (A.U.calling g mk a) := hblind _ _ _ _ hp.2.2
  obtain ⟨U, Ls, c0, s0⟩ := A
  dsimp only [Pt.U, Pt.locs, Pt.cells, Pt.slots] at h1 h2 h3 h4 h5 X hn hPc ⊢
  obtain ⟨methY, cY, hmY, hcY, -, hlY, -, -, -, -⟩ := Cond.code_spec hn h2
  obtain ⟨kY, hkY, -⟩ := className_of_methodNamed hn
  have hinitY : kY.init = .initialized := Cond.initialized_spec (findClass_of_methodNamed hn) hkY h3
  have h : At U g.method c below := by rw [hg]; exact X.here
  have hlocals9 : W9 + (maxL + 11) + (headSpec ws rm).room.locals ≤ R.locals := hlocals
  have happ : (headSpec ws rm).appliesLoose y e.platform (U.calling g mk a) = true :=
    Spec.appliesLoose_calling (g := g) h hdg hn hkY hinitY
      (X.room_calling (g := g) (R' := (headSpec ws rm).room) hsize hmY hcY hframes (by rw [hlY]; omega) h4 h5) h1
  obtain ⟨mid, hmid⟩ := h.above
  have hfr : (U.setTop g).frames = (.java g :: mid) ++ below := by rw [State.frames_setTop' g h.top, hmid]; rfl
  obtain ⟨o, s₂, hsteps, -, hend, hq⟩ := Steps.callFree hM p X.admits X.cas X.clock (acts := []) hfr happ hPc trivial
  have hq' : vx_Q Qc XC mc ms free a (U.calling g mk a) o s₂ := hq
  rw [State.frames_setTop' g h.top] at hend
  obtain ⟨g₀, hg0⟩ := Option.isSome_iff_exists.mp h.top
  obtain ⟨r, hr⟩ := State.topJava?_eq_some.mp hg0
  have hr' : (({ U with heap := s₂.heap, slotsUsed := s₂.slotsUsed } : State).setVm s₂.vm).frames = .java g₀ :: r := hr
  rcases hq' with ⟨hqc, L, hfe, hL⟩ | ⟨q, rfl, E, ce, L, hx, hce, hcv, hcl, hW₂, hsm, hL⟩
  · obtain ⟨⟨v, rfl⟩, hW₂, e2, q2, q3, q4, q5, q6⟩ := id hfe
    have e3 : s₂ = ({ (U.calling g mk a).setFrames s₂.frames with heap := s₂.heap, slotsUsed := s₂.slotsUsed } : State).setVm s₂.vm := by
      have : s₂ = ({ s₂ with vm := (U.calling g mk a).vm } : State).setVm s₂.vm := rfl
      rw [e2] at this
      exact this
    obtain ⟨c₂, i₂, len₂, hc₂, hd₂, hf₂⟩ := hend
    have hW' : U.WarmedH s₂.vm := hW₂
    have hcc : c₂ = c := by
      have h1 : s₂.code? g.method = U.code? g.method := by
        rw [State.code?_eq, State.code?_eq, hW'.alike.method?]
      exact Option.some.inj (hc₂.symm.trans (h1.trans h.code))
    subst hcc
    have hlen : len₂ = len := by rw [hdg] at hd₂; cases hd₂; rfl
    subst hlen
    have hs₂ : s₂ = (({ U with heap := s₂.heap, slotsUsed := s₂.slotsUsed } : State).setVm s₂.vm).setTop { g with pc := g.pc + len₂, stack := v.toList ++ g.stack } := by
      refine e3.trans ?_
      rw [hf₂, State.calling_eq h.top, State.setFrames_setFrames, State.setTop_of_frames _ hr', hr]
      rfl
    have hsame : U.sameButNew ({ U with heap := s₂.heap, slotsUsed := s₂.slotsUsed } : State) L mc ms := by
      refine ⟨?_, q2, q3, q4, q5, q6⟩
      obtain ⟨t, ht, -⟩ := State.frames_cons hr
      show ({ U with heap := s₂.heap, slotsUsed := s₂.slotsUsed } : State) = { U.setFrames U.frames with heap := s₂.heap, slotsUsed := s₂.slotsUsed }
      rw [State.setFrames_self ht]
    subst hg
    refine Or.inl ⟨v, ⟨(({ U with heap := s₂.heap, slotsUsed := s₂.slotsUsed } : State).setVm s₂.vm), Ls ++ L, c0 + mc, s0 + ms⟩,
      ⟨X.admits, X.cas, X.clock, X.frames, X.room, X.hears, X.method, X.code, (X.here.setHeapUsed s₂.heap s₂.slotsUsed).setVm hW'.alike, X.tail, State.WarmedH.trans X.warmed hW', X.limits, X.bytes, X.same.trans (hsame.setVm s.vm)⟩,
      ⟨g, mk, s₂, L, rfl, rfl, hqc, rfl, hL, rfl, rfl⟩, ?_⟩
    show Steps p.tables e below _ ((({ U with heap := s₂.heap, slotsUsed := s₂.slotsUsed } : State).setVm s₂.vm).setTop { g with pc := g.pc + len₂, stack := v.toList ++ g.stack })
    rw [← hs₂]
    exact hsteps
  · obtain ⟨e2, q2, q3, q4, q5, q6⟩ := id hsm
    have e3 : s₂ = ({ (U.calling g mk a).setFrames s₂.frames with heap := s₂.heap, slotsUsed := s₂.slotsUsed } : State).setVm s₂.vm := by
      have : s₂ = ({ s₂ with vm := (U.calling g mk a).vm } : State).setVm s₂.vm := rfl
      rw [e2] at this
      exact this
    have hf₂ : s₂.frames = .throwing q :: .java g :: U.frames.tail := hend
    have hW' : U.WarmedH s₂.vm := hW₂
    have hs₂ : s₂ = ((({ U with heap := s₂.heap, slotsUsed := s₂.slotsUsed } : State).setVm s₂.vm).setTop g).pushFrame (.throwing q) := by
      refine e3.trans ?_
      rw [hf₂, State.calling_eq h.top, State.setFrames_setFrames, State.pushFrame, State.frames_setTop _ hr', State.setTop_of_frames _ hr', State.setFrames_setFrames, hr]
      rfl
    have hsame : U.sameButNew ({ U with heap := s₂.heap, slotsUsed := s₂.slotsUsed } : State) L mc ms := by
      refine ⟨?_, q2, q3, q4, q5, q6⟩
      obtain ⟨t, ht, -⟩ := State.frames_cons hr
      show ({ U with heap := s₂.heap, slotsUsed := s₂.slotsUsed } : State) = { U.setFrames U.frames with heap := s₂.heap, slotsUsed := s₂.slotsUsed }
      rw [State.setFrames_self ht]
    subst hg
    refine Or.inr ⟨q, ⟨(({ U with heap := s₂.heap, slotsUsed := s₂.slotsUsed } : State).setVm s₂.vm), Ls ++ L, c0 + mc, s0 + ms⟩,
      ⟨X.admits, X.cas, X.clock, X.frames, X.room, X.hears, X.method, X.code, (X.here.setHeapUsed s₂.heap s₂.slotsUsed).setVm hW'.alike, X.tail, State.WarmedH.trans X.warmed hW', X.limits, X.bytes, X.same.trans (hsame.setVm s.vm)⟩,
      ⟨g, mk, s₂, L, E, ce, rfl, rfl, hx, hce, hcv, hcl, rfl, hL, rfl, rfl⟩, ?_⟩
    show Steps p.tables e below _ (((({ U with heap := s₂.heap, slotsUsed := s₂.slotsUsed } : State).setVm s₂.vm).setTop g).pushFrame (.throwing q))
    rw [← hs₂]
    exact hsteps
end Payer
section Calls
variable {p : Program} {l : Launch} {e : Env} {R : Room} {s : State} {m : MethodId} {args : Array Value} {below : List Frame} {meth : Method} {c : Code} {T : State} {locs : List Loc} {cells slots : Nat}
theorem vx_callV (X : Stand p l e R s m args below meth c T locs cells slots) (hexec : p.tables.exec = Jvm.exec) {own C : String} {index : Nat} {y : MethodName} {bytes : ByteArray} {maxL : Nat} {ret : Option FieldType}
    (hown : s.vm.findClass own = some m.cls) (hlink : (Cond.methodLink own index y).before args s = true) (hinst : (Cond.instanceMethod y).before args s = true) (hsel : (Cond.selects C y y).before args s = true)
    (hcode : (Cond.code y bytes maxL ret).before args s = true) (hy : y.cls ≠ "java/lang/invoke/MethodHandle" ∧ y.cls ≠ "java/lang/invoke/VarHandle")
    {W9 : Nat} {Pre : Pt → Array Value → Prop} {Post : Pt → Array Value → Option Value → Pt → Prop} {PostX : Pt → Array Value → Addr → Pt → Prop} (hK : vx_Back l R p e below s args y 3 W9 Pre Post PostX)
    {b : Addr} {cellB : Cell} (hcell : T.heap[b]? = some cellB) (hobj : cellB.vm.isStatics = false) (hcls : s.vm.findClass C = some cellB.cls)
    {g : JFrame} (hg : g.method = m) (hsize : g.locals.size = c.maxLocals) {argsL rest : List Value} (hlen : ∀ sig, parseMethodDescriptor y.desc = some sig → argsL.length = sig.parameters.length)
    (hstack : g.stack = argsL.reverse ++ .ref b :: rest) (hW : 2 * g.monitorRoom + (rest.map fun v => v.category).sum ≤ W9) (hdg : decode c.code g.pc = .ok (.invokevirtual index, 3))
    (hpre : ∀ vm₁, s.WarmedH vm₁ → Pre ⟨T.setVm vm₁, locs, cells, slots⟩ (Value.ref b :: argsL).toArray) :
    (∃ (v : Option Value) (vm₁ : Vm) (B : Pt), s.WarmedH vm₁ ∧ Stand p l e R s m args below meth c B.U B.locs B.cells B.slots ∧ Post ⟨T.setVm vm₁, locs, cells, slots⟩ (Value.ref b :: argsL).toArray v B ∧
      ∀ target, Steps p.tables e below (B.U.setTop { g with pc := g.pc + 3, stack := v.toList ++ rest }) target → Steps p.tables e below (T.setTop g) target) ∨
    (∃ (q : Addr) (vm₁ : Vm) (B : Pt), s.WarmedH vm₁ ∧ Stand p l e R s m args below meth c B.U B.locs B.cells B.slots ∧ PostX ⟨T.setVm vm₁, locs, cells, slots⟩ (Value.ref b :: argsL).toArray q B ∧
      Steps p.tables e below (T.setTop g) ((B.U.setTop { g with stack := rest }).pushFrame (.throwing q))) := by
  obtain ⟨mk, methM, hnamed, hmethM, hstM, habM⟩ := Cond.instanceMethod_spec hinst
  obtain ⟨methM', cM, hmethM', -, -, -, -, -, -, hsigM⟩ := Cond.code_spec hnamed hcode
  cases hmethM.symm.trans hmethM'
  obtain ⟨c2, r2, m2, q1, q2, q3, q4, kP, hkP, hkPi⟩ := Cond.selects_spec hsel
  cases hcls.symm.trans q1
  cases (State.methodFound?_of_named hnamed hy).symm.trans q2
  cases hnamed.symm.trans q3
  have hselP : selectMethod e.platform s.vm cellB.cls mk = .method mk := by rw [Launch.admits_selectMethod X.admits]; exact q4
  obtain ⟨vm₁, X₁, hstep₁⟩ := X.invokevirtual hexec hown hlink hnamed hmethM hstM hkP hkPi hy (a := b) (cell := cellB) hcell
    (fun z h => by rw [h] at hobj; cases hobj) hselP hmethM habM hkP hkPi (g := g) hg (argsL := argsL) (rest := rest) (hlen _ hsigM) hstack hdg
  rcases hK m meth c ⟨T.setVm vm₁, locs, cells, slots⟩ { g with stack := rest } (.invokevirtual index) mk (Value.ref b :: argsL).toArray X₁ hg hsize hdg hW (X₁.named hnamed) (hpre vm₁ X₁.warmed) with ⟨v, B, X', hpost, hsteps⟩ | ⟨q, B, X', hpost, hsteps⟩
  · exact Or.inl ⟨v, vm₁, B, X₁.warmed, X', hpost, fun target h => hstep₁ _ fun acts => by rw [doInvoke_state]; exact hsteps.trans h⟩
  · exact Or.inr ⟨q, vm₁, B, X₁.warmed, X', hpost, hstep₁ _ fun acts => by rw [doInvoke_state]; exact hsteps⟩
theorem vx_callS (X : Stand p l e R s m args below meth c T locs cells slots) (hexec : p.tables.exec = Jvm.exec) {own : String} {index : Nat} {y : MethodName} {bytes : ByteArray} {maxL : Nat} {ret : Option FieldType}
    (hown : s.vm.findClass own = some m.cls) (hlink : (Cond.methodLink own index y).before args s = true) (hstat : (Cond.static y).before args s = true) (hinit : (Cond.initialized y.cls).before args s = true)
    (hcode : (Cond.code y bytes maxL ret).before args s = true) (hy : y.cls ≠ "java/lang/invoke/MethodHandle" ∧ y.cls ≠ "java/lang/invoke/VarHandle")
    {W9 : Nat} {Pre : Pt → Array Value → Prop} {Post : Pt → Array Value → Option Value → Pt → Prop} {PostX : Pt → Array Value → Addr → Pt → Prop} (hK : vx_Back l R p e below s args y 3 W9 Pre Post PostX)
    {g : JFrame} (hg : g.method = m) (hsize : g.locals.size = c.maxLocals) {argsL rest : List Value} (hlen : ∀ sig, parseMethodDescriptor y.desc = some sig → argsL.length = sig.parameters.length)
    (hstack : g.stack = argsL.reverse ++ rest) (hW : 2 * g.monitorRoom + (rest.map fun v => v.category).sum ≤ W9) (hdg : decode c.code g.pc = .ok (.invokestatic index, 3))
    (hpre : ∀ vm₁, s.WarmedH vm₁ → Pre ⟨T.setVm vm₁, locs, cells, slots⟩ argsL.toArray) :
    (∃ (v : Option Value) (vm₁ : Vm) (B : Pt), s.WarmedH vm₁ ∧ Stand p l e R s m args below meth c B.U B.locs B.cells B.slots ∧ Post ⟨T.setVm vm₁, locs, cells, slots⟩ argsL.toArray v B ∧
      ∀ target, Steps p.tables e below (B.U.setTop { g with pc := g.pc + 3, stack := v.toList ++ rest }) target → Steps p.tables e below (T.setTop g) target) ∨
    (∃ (q : Addr) (vm₁ : Vm) (B : Pt), s.WarmedH vm₁ ∧ Stand p l e R s m args below meth c B.U B.locs B.cells B.slots ∧ PostX ⟨T.setVm vm₁, locs, cells, slots⟩ argsL.toArray q B ∧
      Steps p.tables e below (T.setTop g) ((B.U.setTop { g with stack := rest }).pushFrame (.throwing q))) := by
  obtain ⟨mk, hnamed⟩ := Cond.code_named hcode
  obtain ⟨methM, cM, hmethM, -, -, -, -, -, -, hsigM⟩ := Cond.code_spec hnamed hcode
  have hstatic : methM.isStatic = true := Cond.static_spec hnamed hmethM hstat
  obtain ⟨kP, hkP, -⟩ := className_of_methodNamed hnamed
  have hinitP : kP.init = .initialized := Cond.initialized_spec (findClass_of_methodNamed hnamed) hkP hinit
  obtain ⟨vm₁, X₁, hstep₁⟩ := X.invokestatic hexec hown hlink hnamed hmethM hstatic hkP hinitP hy (g := g) hg (argsL := argsL) (rest := rest) (hlen _ hsigM) hstack hdg
  rcases hK m meth c ⟨T.setVm vm₁, locs, cells, slots⟩ { g with stack := rest } (.invokestatic index) mk argsL.toArray X₁ hg hsize hdg hW (X₁.named hnamed) (hpre vm₁ X₁.warmed) with ⟨v, B, X', hpost, hsteps⟩ | ⟨q, B, X', hpost, hsteps⟩
  · exact Or.inl ⟨v, vm₁, B, X₁.warmed, X', hpost, fun target h => hstep₁ _ fun acts => by rw [doInvoke_state]; exact hsteps.trans h⟩
  · exact Or.inr ⟨q, vm₁, B, X₁.warmed, X', hpost, hstep₁ _ fun acts => by rw [doInvoke_state]; exact hsteps⟩
end Calls
theorem vx_cls {s : State} {T : State} {vm₁ : Vm} {E : String} {k : ClassId} (hW : s.WarmedH vm₁) (h : (T.setVm vm₁).vm.findClass E = some k) : s.vm.findClass E = some k := by
  have h1 : vm₁.findClass E = some k := h
  rw [hW.alike.findClass] at h1
  exact h1
/-- the method's frame g, with q thrown over it -/
def vx_W (p : Program) (l : Launch) (e : Env) (R : Room) (s : State) (m : MethodId) (args : Array Value) (below : List Frame) (meth : Method) (c : Code) (H : Heap) (locs : List Loc) (cells slots : Nat) (Q : State → Prop) (g : JFrame) (q : Addr) : Prop :=
  ∀ T : State, T.heap = H → Stand p l e R s m args below meth c T locs cells slots → ∃ t, Steps p.tables e below ((T.setTop g).pushFrame (.throwing q)) t ∧ Q t
def vx_Run (p : Program) (l : Launch) (e : Env) (R : Room) (s : State) (m : MethodId) (args : Array Value) (below : List Frame) (meth : Method) (c : Code) (H : Heap) (locs : List Loc) (cells slots mc ms : Nat) (g : JFrame) (rest : List Value) (Qa : State → Outcome → State → Prop) (XC : String → State → State → Prop) (free : Addr → Prop) : Prop :=
  ∀ T : State, T.heap = H → Stand p l e R s m args below meth c T locs cells slots →
    (∃ (v : Option Value) (st₀ t T' : State) (L : List Loc), st₀.heap = H ∧ Stand p l e R s m args below meth c T' (locs ++ L) (cells + mc) (slots + ms) ∧ (∀ q ∈ L, free q.base) ∧ T'.heap = t.heap ∧ T'.vm = t.vm ∧ Qa st₀ (.returned v) t ∧
      Goes p e below T g T' { g with pc := g.pc + 3, stack := v.toList ++ rest }) ∨
    (∃ (q : Addr) (st₀ t T' : State) (L : List Loc) (E : String) (ce : Cell), st₀.heap = H ∧ Stand p l e R s m args below meth c T' (locs ++ L) (cells + mc) (slots + ms) ∧ (∀ z ∈ L, free z.base) ∧ T'.heap = t.heap ∧ T'.vm = t.vm ∧ XC E st₀ t ∧ t.heap[q]? = some ce ∧ ce.vm = .none ∧ s.vm.findClass E = some ce.cls ∧
      Steps p.tables e below (T.setTop g) ((T'.setTop { g with stack := rest }).pushFrame (.throwing q)))
def vx_X {S : Type} (px : S → Prop) (B : String → S → State → Prop) (A : Nat → Prop) : String → State → State → Prop := fun E st t => ∃ u : S, px u ∧ B E u t ∧ va_F A st t
section Runs
variable {p : Program} {l : Launch} {e : Env} {R : Room} {s : State} {m : MethodId} {args : Array Value} {below : List Frame} {meth : Method} {c : Code} {H : Heap} {locs : List Loc} {cells slots : Nat}
variable {y : MethodName} {bytes cc : ByteArray} {maxL nL mc ms n index : Nat} {ret : Option FieldType} {ws : List Cond} {rm : Room} {Pc : Array Value → State → Prop} {Qc : Array Value → State → Outcome → State → Prop} {XC : String → State → State → Prop} {free : Addr → Prop} {Ts : List Cond} {own C : String} {b : Addr} {As rest : List Value} {g : JFrame}
theorem vx_callBack (cb : CallB R s args own index y bytes maxL ret ws rm mc ms n) (hM : vx_Met l y ws rm Pc Qc XC mc ms free) (hbl : FrameBlind Pc) : vx_Back l R p e below s args y 3 8 (PreOf R mc ms Pc) (PostOf Qc mc ms free) (vx_Post XC mc ms free) := by
  obtain ⟨hrc, hrs, hfr, hlo, hws, hcw, -, hini, -⟩ := cb
  exact vx_back (bytes := bytes) (maxL := maxL) (ret := ret) hM hbl hrc hrs hfr hlo hws hcw (fun a' U hW => word_at hW (Or.inl (by first | rfl | simp [Cond.onTables, Cond.keeps, Cond.steady])) hini)
theorem vx_runV (S : CallFix p m c cc nL s args Ts own) (hM : vx_Met l y ws rm Pc Qc XC mc ms free) (cw : CallW R s args own C index y bytes maxL ret ws rm mc ms n) (hp : PreV s H C b Pc As)
    (hg : g.method = m) (hn : As.length = n) (hsize : g.locals.size = nL) (hstack : g.stack = As.reverse ++ .ref b :: rest) (hW : 2 * g.monitorRoom + (rest.map fun v => v.category).sum ≤ 8) (hdg : decode cc g.pc = .ok (.invokevirtual index, 3)) (hf : cells + mc ≤ R.cells ∧ slots + ms ≤ R.slots) :
    vx_Run p l e R s m args below meth c H locs cells slots mc ms g rest (Qc (Value.ref b :: As).toArray) XC free := by
  have hK : vx_Back l R p e below s args y 3 8 (PreOf R mc ms Pc) (PostOf Qc mc ms free) (vx_Post XC mc ms free) := vx_callBack cw.1 hM hp.1
  obtain ⟨⟨-, -, -, -, -, -, hcode, -, hy, hlen, hl⟩, hin, hse⟩ := cw
  obtain ⟨hx, hb, hml, ho, -⟩ := S
  obtain ⟨-, ⟨cellB, hcB, hoB, hclB⟩, hPc⟩ := hp
  intro T hT X
  rcases vx_callV X hx (C := C) (bytes := bytes) (maxL := maxL) (ret := ret) ho hl hin hse hcode hy hK (by rw [hT]; exact hcB) hoB hclB hg (hsize.trans hml.symm) (argsL := As) (rest := rest) (fun sig h => hn.trans (hlen sig h)) hstack hW (by rw [hb]; exact hdg)
    (fun vm₁ hW₁ => ⟨hf.1, hf.2, hPc (T.setVm vm₁) hT hW₁⟩) with ⟨v, vm₁, ⟨U', l2, c2, s2⟩, hW₁, X', ⟨g', mk, t, L, e1, e2, hq, h1, hL, h2, h3⟩, st⟩ | ⟨q, vm₁, ⟨U', l2, c2, s2⟩, hW₁, X', ⟨g', mk, t, L, E, ce, e1, e2, hq, hce, hcv, hcl, h1, hL, h2, h3⟩, st⟩
  · dsimp only [Pt.U, Pt.locs, Pt.cells, Pt.slots] at X' e1 e2 h1 h2 h3 st
    subst h1; subst h2; subst h3
    exact Or.inl ⟨v, (T.setVm vm₁).calling g' mk (Value.ref b :: As).toArray, t, U', L, hT, X', hL, e1, e2, hq, st⟩
  · dsimp only [Pt.U, Pt.locs, Pt.cells, Pt.slots] at X' e1 e2 h1 h2 h3 st hcl
    subst h1; subst h2; subst h3
    exact Or.inr ⟨q, (T.setVm vm₁).calling g' mk (Value.ref b :: As).toArray, t, U', L, E, ce, hT, X', hL, e1, e2, hq, hce, hcv, vx_cls hW₁ hcl, st⟩
theorem vx_runS (S : CallFix p m c cc nL s args Ts own) (hM : vx_Met l y ws rm Pc Qc XC mc ms free) (cw : CallB R s args own index y bytes maxL ret ws rm mc ms n ∧ (Cond.static y).before args s = true) (hp : PreS s H Pc As)
    (hg : g.method = m) (hn : As.length = n) (hsize : g.locals.size = nL) (hstack : g.stack = As.reverse ++ rest) (hW : 2 * g.monitorRoom + (rest.map fun v => v.category).sum ≤ 8) (hdg : decode cc g.pc = .ok (.invokestatic index, 3)) (hf : cells + mc ≤ R.cells ∧ slots + ms ≤ R.slots) :
    vx_Run p l e R s m args below meth c H locs cells slots mc ms g rest (Qc As.toArray) XC free := by
  have hK : vx_Back l R p e below s args y 3 8 (PreOf R mc ms Pc) (PostOf Qc mc ms free) (vx_Post XC mc ms free) := vx_callBack cw.1 hM hp.1
  obtain ⟨⟨-, -, -, -, -, -, hcode, hini, hy, hlen, hl⟩, hstt⟩ := cw
  obtain ⟨hx, hb, hml, ho, -⟩ := S
  intro T hT X
  rcases vx_callS X hx (bytes := bytes) (maxL := maxL) (ret := ret) ho hl hstt hini hcode hy hK hg (hsize.trans hml.symm) (argsL := As) (rest := rest) (fun sig h => hn.trans (hlen sig h)) hstack hW (by rw [hb]; exact hdg)
    (fun vm₁ hW₁ => ⟨hf.1, hf.2, hp.2 (T.setVm vm₁) hT hW₁⟩) with ⟨v, vm₁, ⟨U', l2, c2, s2⟩, hW₁, X', ⟨g', mk, t, L, e1, e2, hq, h1, hL, h2, h3⟩, st⟩ | ⟨q, vm₁, ⟨U', l2, c2, s2⟩, hW₁, X', ⟨g', mk, t, L, E, ce, e1, e2, hq, hce, hcv, hcl, h1, hL, h2, h3⟩, st⟩
  · dsimp only [Pt.U, Pt.locs, Pt.cells, Pt.slots] at X' e1 e2 h1 h2 h3 st
    subst h1; subst h2; subst h3
    exact Or.inl ⟨v, (T.setVm vm₁).calling g' mk As.toArray, t, U', L, hT, X', hL, e1, e2, hq, st⟩
  · dsimp only [Pt.U, Pt.locs, Pt.cells, Pt.slots] at X' e1 e2 h1 h2 h3 st hcl
    subst h1; subst h2; subst h3
    exact Or.inr ⟨q, (T.setVm vm₁).calling g' mk As.toArray, t, U', L, E, ce, hT, X', hL, e1, e2, hq, hce, hcv, vx_cls hW₁ hcl, st⟩
end Runs
section Rows
variable {p : Program} {l : Launch} {e : Env} {R : Room} {s : State} {m : MethodId} {args : Array Value} {below : List Frame} {meth : Method} {c : Code} {H : Heap} {locs : List Loc} {cells slots : Nat} {Q : State → Prop}
variable {mc ms : Nat} {free : Addr → Prop} {A0 A1 : Nat → Prop} {H0 : Heap} {a : Array Value} {pc : Nat} {ls : Array Slot} {st0 rest : List Value}
theorem vx_keep {st₀ t T' : State} {L : List Loc} (h0 : st₀.heap = H) (e1 : T'.heap = t.heap) (hS : va_S A0 H0 H locs) (hA : ∀ q, q < H.size → A1 q → A0 q) (hf : ∀ q, free q → A0 q) (hL : ∀ q ∈ L, free q.base) (hF : va_F A1 st₀ t) :
    H.size ≤ T'.heap.size ∧ (∀ q : Nat, q < H.size → ¬ A1 q → T'.heap[q]? = H[q]?) ∧ va_S A0 H0 T'.heap (locs ++ L) := by
  obtain ⟨hz, hk⟩ := hF
  rw [h0] at hz hk
  exact ⟨by rw [e1]; exact hz, fun q h1 h2 => by rw [e1]; exact hk q h1 h2,
    ⟨Nat.le_trans hS.1 (by rw [e1]; exact hz), fun q h1 h2 => by rw [e1, hk q (Nat.lt_of_lt_of_le h1 hS.1) (fun z => h2 (hA q (Nat.lt_of_lt_of_le h1 hS.1) z))]; exact hS.2.1 q h1 h2, fun q hq => by
      rcases List.mem_append.mp hq with h | h
      · exact hS.2.2 q h
      · exact hf _ (hL q h)⟩⟩
theorem vx_calli {S SX : Type} {post : Int32 → S → Prop} {px : SX → Prop} {B : S → State → Prop} {BX : String → SX → State → Prop} {AX : Nat → Prop} (hr : vx_Run p l e R s m args below meth c H locs cells slots mc ms (F0 m pc ls st0) rest (va_Qi post B A1 a) (vx_X px BX AX) free) (hS : va_S A0 H0 H locs) (hA : ∀ q, q < H.size → A1 q → A0 q) (hf : ∀ q, free q → A0 q) (hAX : ∀ q, q < H.size → AX q → A0 q)
    (kx : ∀ (E : String) (ce : Cell) (q9 : Addr) (u : SX) (t : State) (H1 : Heap) (locs1 : List Loc), t.heap = H1 → s.vm.Alike t.vm → px u → BX E u t → H.size ≤ H1.size → (∀ q : Nat, q < H.size → ¬ AX q → H1[q]? = H[q]?) → va_S A0 H0 H1 locs1 → H1[q9]? = some ce → ce.vm = .none → s.vm.findClass E = some ce.cls → vx_W p l e R s m args below meth c H1 locs1 (cells + mc) (slots + ms) Q (F0 m pc ls rest) q9)
    (kk : ∀ (r : Int32) (u : S) (t : State) (H1 : Heap) (locs1 : List Loc), t.heap = H1 → s.vm.Alike t.vm → post r u → B u t → H.size ≤ H1.size → (∀ q : Nat, q < H.size → ¬ A1 q → H1[q]? = H[q]?) → va_S A0 H0 H1 locs1 → W p l e R s m args below meth c H1 locs1 (cells + mc) (slots + ms) Q (F0 m (pc + 3) ls (.int r :: rest))) : W p l e R s m args below meth c H locs cells slots Q (F0 m pc ls st0) := by
  intro T hT X
  rcases hr T hT X with ⟨v, st₀, t, T', L, h0, X', hL, e1, e2, ⟨⟨r, u, hv, hp, hb⟩, hF⟩, st⟩ | ⟨q, st₀, t, T', L, E, ce, h0, X', hL, e1, e2, ⟨u, hp, hb, hF⟩, hce, hcv, hcl, st⟩
  · cases hv
    obtain ⟨k1, k2, k3⟩ := vx_keep h0 e1 hS hA hf hL hF
    obtain ⟨t2, a1, b1⟩ := kk r u t T'.heap (locs ++ L) e1.symm (by rw [← e2]; exact X'.warmed.alike) hp hb k1 k2 k3 T' rfl X'
    exact ⟨t2, st t2 a1, b1⟩
  · obtain ⟨k1, k2, k3⟩ := vx_keep h0 e1 hS hAX hf hL hF
    obtain ⟨t2, a1, b1⟩ := kx E ce q u t T'.heap (locs ++ L) e1.symm (by rw [← e2]; exact X'.warmed.alike) hp hb k1 k2 k3 (by rw [e1]; exact hce) hcv hcl T' rfl X'
    exact ⟨t2, st.trans a1, b1⟩
theorem vx_calll {S SX : Type} {post : Int64 → S → Prop} {px : SX → Prop} {B : S → State → Prop} {BX : String → SX → State → Prop} {AX : Nat → Prop} (hr : vx_Run p l e R s m args below meth c H locs cells slots mc ms (F0 m pc ls st0) rest (va_Ql post B A1 a) (vx_X px BX AX) free) (hS : va_S A0 H0 H locs) (hA : ∀ q, q < H.size → A1 q → A0 q) (hf : ∀ q, free q → A0 q) (hAX : ∀ q, q < H.size → AX q → A0 q)
    (kx : ∀ (E : String) (ce : Cell) (q9 : Addr) (u : SX) (t : State) (H1 : Heap) (locs1 : List Loc), t.heap = H1 → s.vm.Alike t.vm → px u → BX E u t → H.size ≤ H1.size → (∀ q : Nat, q < H.size → ¬ AX q → H1[q]? = H[q]?) → va_S A0 H0 H1 locs1 → H1[q9]? = some ce → ce.vm = .none → s.vm.findClass E = some ce.cls → vx_W p l e R s m args below meth c H1 locs1 (cells + mc) (slots + ms) Q (F0 m pc ls rest) q9)
    (kk : ∀ (r : Int64) (u : S) (t : State) (H1 : Heap) (locs1 : List Loc), t.heap = H1 → s.vm.Alike t.vm → post r u → B u t → H.size ≤ H1.size → (∀ q : Nat, q < H.size → ¬ A1 q → H1[q]? = H[q]?) → va_S A0 H0 H1 locs1 → W p l e R s m args below meth c H1 locs1 (cells + mc) (slots + ms) Q (F0 m (pc + 3) ls (.long r :: rest))) : W p l e R s m args below meth c H locs cells slots Q (F0 m pc ls st0) := by
  intro T hT X
  rcases hr T hT X with ⟨v, st₀, t, T', L, h0, X', hL, e1, e2, ⟨⟨r, u, hv, hp, hb⟩, hF⟩, st⟩ | ⟨q, st₀, t, T', L, E, ce, h0, X', hL, e1, e2, ⟨u, hp, hb, hF⟩, hce, hcv, hcl, st⟩
  · cases hv
    obtain ⟨k1, k2, k3⟩ := vx_keep h0 e1 hS hA hf hL hF
    obtain ⟨t2, a1, b1⟩ := kk r u t T'.heap (locs ++ L) e1.symm (by rw [← e2]; exact X'.warmed.alike) hp hb k1 k2 k3 T' rfl X'
    exact ⟨t2, st t2 a1, b1⟩
  · obtain ⟨k1, k2, k3⟩ := vx_keep h0 e1 hS hAX hf hL hF
    obtain ⟨t2, a1, b1⟩ := kx E ce q u t T'.heap (locs ++ L) e1.symm (by rw [← e2]; exact X'.warmed.alike) hp hb k1 k2 k3 (by rw [e1]; exact hce) hcv hcl T' rfl X'
    exact ⟨t2, st.trans a1, b1⟩
theorem vx_callf {S SX : Type} {post : UInt32 → S → Prop} {px : SX → Prop} {B : S → State → Prop} {BX : String → SX → State → Prop} {AX : Nat → Prop} (hr : vx_Run p l e R s m args below meth c H locs cells slots mc ms (F0 m pc ls st0) rest (va_Qf post B A1 a) (vx_X px BX AX) free) (hS : va_S A0 H0 H locs) (hA : ∀ q, q < H.size → A1 q → A0 q) (hf : ∀ q, free q → A0 q) (hAX : ∀ q, q < H.size → AX q → A0 q)
    (kx : ∀ (E : String) (ce : Cell) (q9 : Addr) (u : SX) (t : State) (H1 : Heap) (locs1 : List Loc), t.heap = H1 → s.vm.Alike t.vm → px u → BX E u t → H.size ≤ H1.size → (∀ q : Nat, q < H.size → ¬ AX q → H1[q]? = H[q]?) → va_S A0 H0 H1 locs1 → H1[q9]? = some ce → ce.vm = .none → s.vm.findClass E = some ce.cls → vx_W p l e R s m args below meth c H1 locs1 (cells + mc) (slots + ms) Q (F0 m pc ls rest) q9)
    (kk : ∀ (r : UInt32) (u : S) (t : State) (H1 : Heap) (locs1 : List Loc), t.heap = H1 → s.vm.Alike t.vm → post r u → B u t → H.size ≤ H1.size → (∀ q : Nat, q < H.size → ¬ A1 q → H1[q]? = H[q]?) → va_S A0 H0 H1 locs1 → W p l e R s m args below meth c H1 locs1 (cells + mc) (slots + ms) Q (F0 m (pc + 3) ls (.float r :: rest))) : W p l e R s m args below meth c H locs cells slots Q (F0 m pc ls st0) := by
  intro T hT X
  rcases hr T hT X with ⟨v, st₀, t, T', L, h0, X', hL, e1, e2, ⟨⟨r, u, hv, hp, hb⟩, hF⟩, st⟩ | ⟨q, st₀, t, T', L, E, ce, h0, X', hL, e1, e2, ⟨u, hp, hb, hF⟩, hce, hcv, hcl, st⟩
  · cases hv
    obtain ⟨k1, k2, k3⟩ := vx_keep h0 e1 hS hA hf hL hF
    obtain ⟨t2, a1, b1⟩ := kk r u t T'.heap (locs ++ L) e1.symm (by rw [← e2]; exact X'.warmed.alike) hp hb k1 k2 k3 T' rfl X'
    exact ⟨t2, st t2 a1, b1⟩
  · obtain ⟨k1, k2, k3⟩ := vx_keep h0 e1 hS hAX hf hL hF
    obtain ⟨t2, a1, b1⟩ := kx E ce q u t T'.heap (locs ++ L) e1.symm (by rw [← e2]; exact X'.warmed.alike) hp hb k1 k2 k3 (by rw [e1]; exact hce) hcv hcl T' rfl X'
    exact ⟨t2, st.trans a1, b1⟩
theorem vx_calld {S SX : Type} {post : UInt64 → S → Prop} {px : SX → Prop} {B : S → State → Prop} {BX : String → SX → State → Prop} {AX : Nat → Prop} (hr : vx_Run p l e R s m args below meth c H locs cells slots mc ms (F0 m pc ls st0) rest (va_Qd post B A1 a) (vx_X px BX AX) free) (hS : va_S A0 H0 H locs) (hA : ∀ q, q < H.size → A1 q → A0 q) (hf : ∀ q, free q → A0 q) (hAX : ∀ q, q < H.size → AX q → A0 q)
    (kx : ∀ (E : String) (ce : Cell) (q9 : Addr) (u : SX) (t : State) (H1 : Heap) (locs1 : List Loc), t.heap = H1 → s.vm.Alike t.vm → px u → BX E u t → H.size ≤ H1.size → (∀ q : Nat, q < H.size → ¬ AX q → H1[q]? = H[q]?) → va_S A0 H0 H1 locs1 → H1[q9]? = some ce → ce.vm = .none → s.vm.findClass E = some ce.cls → vx_W p l e R s m args below meth c H1 locs1 (cells + mc) (slots + ms) Q (F0 m pc ls rest) q9)
    (kk : ∀ (r : UInt64) (u : S) (t : State) (H1 : Heap) (locs1 : List Loc), t.heap = H1 → s.vm.Alike t.vm → post r u → B u t → H.size ≤ H1.size → (∀ q : Nat, q < H.size → ¬ A1 q → H1[q]? = H[q]?) → va_S A0 H0 H1 locs1 → W p l e R s m args below meth c H1 locs1 (cells + mc) (slots + ms) Q (F0 m (pc + 3) ls (.double r :: rest))) : W p l e R s m args below meth c H locs cells slots Q (F0 m pc ls st0) := by
  intro T hT X
  rcases hr T hT X with ⟨v, st₀, t, T', L, h0, X', hL, e1, e2, ⟨⟨r, u, hv, hp, hb⟩, hF⟩, st⟩ | ⟨q, st₀, t, T', L, E, ce, h0, X', hL, e1, e2, ⟨u, hp, hb, hF⟩, hce, hcv, hcl, st⟩
  · cases hv
    obtain ⟨k1, k2, k3⟩ := vx_keep h0 e1 hS hA hf hL hF
    obtain ⟨t2, a1, b1⟩ := kk r u t T'.heap (locs ++ L) e1.symm (by rw [← e2]; exact X'.warmed.alike) hp hb k1 k2 k3 T' rfl X'
    exact ⟨t2, st t2 a1, b1⟩
  · obtain ⟨k1, k2, k3⟩ := vx_keep h0 e1 hS hAX hf hL hF
    obtain ⟨t2, a1, b1⟩ := kx E ce q u t T'.heap (locs ++ L) e1.symm (by rw [← e2]; exact X'.warmed.alike) hp hb k1 k2 k3 (by rw [e1]; exact hce) hcv hcl T' rfl X'
    exact ⟨t2, st.trans a1, b1⟩
theorem vx_callv {S SX : Type} {post : S → Prop} {px : SX → Prop} {B : S → State → Prop} {BX : String → SX → State → Prop} {AX : Nat → Prop} (hr : vx_Run p l e R s m args below meth c H locs cells slots mc ms (F0 m pc ls st0) rest (va_Qv post B A1 a) (vx_X px BX AX) free) (hS : va_S A0 H0 H locs) (hA : ∀ q, q < H.size → A1 q → A0 q) (hf : ∀ q, free q → A0 q) (hAX : ∀ q, q < H.size → AX q → A0 q)
    (kx : ∀ (E : String) (ce : Cell) (q9 : Addr) (u : SX) (t : State) (H1 : Heap) (locs1 : List Loc), t.heap = H1 → s.vm.Alike t.vm → px u → BX E u t → H.size ≤ H1.size → (∀ q : Nat, q < H.size → ¬ AX q → H1[q]? = H[q]?) → va_S A0 H0 H1 locs1 → H1[q9]? = some ce → ce.vm = .none → s.vm.findClass E = some ce.cls → vx_W p l e R s m args below meth c H1 locs1 (cells + mc) (slots + ms) Q (F0 m pc ls rest) q9)
    (kk : ∀ (u : S) (t : State) (H1 : Heap) (locs1 : List Loc), t.heap = H1 → s.vm.Alike t.vm → post u → B u t → H.size ≤ H1.size → (∀ q : Nat, q < H.size → ¬ A1 q → H1[q]? = H[q]?) → va_S A0 H0 H1 locs1 → W p l e R s m args below meth c H1 locs1 (cells + mc) (slots + ms) Q (F0 m (pc + 3) ls (rest))) : W p l e R s m args below meth c H locs cells slots Q (F0 m pc ls st0) := by
  intro T hT X
  rcases hr T hT X with ⟨v, st₀, t, T', L, h0, X', hL, e1, e2, ⟨⟨u, hv, hp, hb⟩, hF⟩, st⟩ | ⟨q, st₀, t, T', L, E, ce, h0, X', hL, e1, e2, ⟨u, hp, hb, hF⟩, hce, hcv, hcl, st⟩
  · cases hv
    obtain ⟨k1, k2, k3⟩ := vx_keep h0 e1 hS hA hf hL hF
    obtain ⟨t2, a1, b1⟩ := kk u t T'.heap (locs ++ L) e1.symm (by rw [← e2]; exact X'.warmed.alike) hp hb k1 k2 k3 T' rfl X'
    exact ⟨t2, st t2 a1, b1⟩
  · obtain ⟨k1, k2, k3⟩ := vx_keep h0 e1 hS hAX hf hL hF
    obtain ⟨t2, a1, b1⟩ := kx E ce q u t T'.heap (locs ++ L) e1.symm (by rw [← e2]; exact X'.warmed.alike) hp hb k1 k2 k3 (by rw [e1]; exact hce) hcv hcl T' rfl X'
    exact ⟨t2, st.trans a1, b1⟩
/-- caught by the row x of this method's table; the rows ahead don't take it -/
theorem vx_catch {own name : String} {E : String} {ce : Cell} {q : Addr} (hown : s.vm.findClass own = some m.cls) (pre : List ExceptionTableEntry) (x : ExceptionTableEntry) (suf : List ExceptionTableEntry) (hsplit : c.exceptionTable.toList = pre ++ x :: suf)
    (hpass : ∀ z ∈ pre, covers z pc = false ∨ (z.catchType ≠ 0 ∧ ∃ nm : String, (Cond.classLink own z.catchType nm).before args s = true ∧ va_Nc E nm s)) (hx : covers x pc = true) (h0 : x.catchType ≠ 0)
    (hlink : (Cond.classLink own x.catchType name).before args s = true) (hcast : (Cond.castable E name).before args s = true) (hcell : H[q]? = some ce) (hv : ce.vm = .none) (hcl : s.vm.findClass E = some ce.cls)
    (kk : W p l e R s m args below meth c H locs cells slots Q (F0 m x.handlerPc ls [.ref q])) : vx_W p l e R s m args below meth c H locs cells slots Q (F0 m pc ls rest) q := by
  intro T hT X
  have hpl : e.platform.magicAccessors = ({} : Platform).magicAccessors := by rw [X.admits.platform]
  obtain ⟨c3, c4, hc3, hc4, hasg⟩ := Cond.castable_spec hcast
  cases Option.some.inj (hc3.symm.trans hcl)
  obtain ⟨c5, hc5, hcl5⟩ := Cond.classLink_spec hown hlink e.platform hpl
  cases Option.some.inj (hc4.symm.trans hc5)
  obtain ⟨vm', X', st⟩ := X.thenCaughtThrough q (g := F0 m pc ls rest) rfl (Steps.refl _) (by rw [hT]; exact hcell) (by rw [hv]; rfl) (by obtain ⟨k9, h9, -⟩ := Vm.findClass_spec hcl; exact ⟨k9, h9⟩) pre x suf hsplit
    (fun z hz => by
      rcases hpass z hz with h | ⟨hz0, nm, hl1, hn1⟩
      · exact Or.inl h
      · obtain ⟨c6, hc6, hcl6⟩ := Cond.classLink_spec hown hl1 e.platform hpl
        obtain ⟨a8, b8, h1, h2, h3⟩ := hn1
        cases Option.some.inj (h1.symm.trans hcl)
        cases Option.some.inj (h2.symm.trans hc6)
        exact Or.inr ⟨hz0, _, hcl6, h3⟩) hx (Or.inr ⟨h0, c4, hcl5, hasg⟩)
  obtain ⟨t, a1, b1⟩ := kk (T.setVm vm') hT X'
  exact ⟨t, st.trans a1, b1⟩
end Rows
section Ends
variable {p : Program} {l : Launch} {e : Env} {R : Room} {s : State} {m : MethodId} {args : Array Value} {below : List Frame} {meth : Method} {c : Code} {H : Heap} {locs : List Loc} {cells slots : Nat} {Q : State → Prop}
variable {mc ms : Nat} {free : Addr → Prop} {A0 A1 : Nat → Prop} {H0 : Heap} {a : Array Value} {ls : Array Slot} {st0 rest : List Value}
variable {Qc : Array Value → State → Outcome → State → Prop} {XC : String → State → State → Prop}
/-- what a body that may throw owes at its end -/
def vx_MQ (below : List Frame) (Qc : Array Value → State → Outcome → State → Prop) (XC : String → State → State → Prop) (a : Array Value) (s : State) (mc ms : Nat) (free : Addr → Prop) : State → Prop := fun t =>
  ∃ o, t.status = .running ∧ Ended t below o ∧ vx_Q Qc XC mc ms free a s o t
theorem vx_ret {g : JFrame} {mc ms : Nat} (k : W p l e R s m args below meth c H locs cells slots (MQ below Qc args s mc ms free) g) : W p l e R s m args below meth c H locs cells slots (vx_MQ below Qc XC args s mc ms free) g := by
  intro T hT X
  obtain ⟨t, a1, o, b1, b2, b3, b4⟩ := k T hT X
  exact ⟨t, a1, o, b1, b2, Or.inl ⟨b3, b4⟩⟩
/-- not caught here: it goes on to the caller -/
theorem vx_widen {g : JFrame} {q : Addr} {k n : Nat} (h1 : cells ≤ k) (h2 : slots ≤ n) (kk : vx_W p l e R s m args below meth c H locs k n Q g q) : vx_W p l e R s m args below meth c H locs cells slots Q g q := fun T hT X => kk T hT (stand_widen X h1 h2)
theorem vx_out {pc : Nat} {E : String} {ce : Cell} {q : Addr} {mc ms : Nat} (hout : ∀ x ∈ c.exceptionTable.toList, covers x pc = false) (hlocks : meth.locks = false) (hcell : H[q]? = some ce) (hv : ce.vm = .none) (hcl : s.vm.findClass E = some ce.cls)
    (hx : ∀ t : State, t.heap = H → s.vm.Alike t.vm → XC E s t) (hf : ∀ z ∈ locs, free z.base) (hc : cells ≤ mc) (hs : slots ≤ ms) :
    vx_W p l e R s m args below meth c H locs cells slots (vx_MQ below Qc XC args s mc ms free) (F0 m pc ls rest) q := by
  intro T hT X
  obtain ⟨st1, hrun, hend, hW, hsm⟩ := X.leaveThrown q (g := F0 m pc ls rest) rfl rfl rfl hout hlocks
  have hcell9 : (T.setFrames (.throwing q :: below)).heap[q]? = some ce := by
    show T.heap[q]? = some ce
    rw [hT]; exact hcell
  exact ⟨_, st1, .threw q, hrun, hend, Or.inr ⟨q, rfl, E, ce, locs, hx _ hT hW.alike, hcell9, hv, hcl, hW, hsm.mono hc hs, hf⟩⟩
theorem vx_frame {U : State} {k n : Nat} (h : s.sameButNew ({ U with vm := s.vm } : State) locs k n) : s.heap.size ≤ U.heap.size ∧ ∀ q : Nat, q < s.heap.size → (∀ z ∈ locs, z.base ≠ q) → U.heap[q]? = s.heap[q]? := by
  obtain ⟨-, h2, -, -, -, h6⟩ := h
  refine ⟨h2, fun q hq hz => ?_⟩
  obtain ⟨c9, e1, e2, e3, e4⟩ := h6 q _ (Array.getElem?_eq_getElem hq)
  have hs : c9.slots = (s.heap[q]).slots := Array.ext_getElem? fun i => e4 i fun hm => hz _ hm rfl
  have h9 : c9 = s.heap[q] := by
    rw [hs] at e2
    exact e2
  have e5 : U.heap[q]? = some c9 := e1
  rw [e5, h9, Array.getElem?_eq_getElem hq]
/-- the words of a throw but the four that speak of the heap -/
def vx_no (w : Cond) : Bool := decide (w ≠ .isRef (.static Bundle.tN "UNASSIGNED_STACK" Bundle.steD)) && decide (w ≠ .isRef (.static Bundle.tN "SUPPRESSED_SENTINEL" Bundle.listD)) && decide (w ≠ .laysStatic Bundle.tN "UNASSIGNED_STACK" Bundle.steD) && decide (w ≠ .laysStatic Bundle.tN "SUPPRESSED_SENTINEL" Bundle.listD)
def vx_at0 (own : String) (ic : Nat) (X : String) (names : List String) : List Cond := (Bundle.ownAtoms0 own ic X names).filter vx_no
def vx_atS (own : String) (ic : Nat) (X : String) (names : List String) : List Cond := (Bundle.ownAtoms own ic X names).filter vx_no
/-- a word that the tables alone decide, or a good one -/
def vx_ot (w : Cond) : Bool := w.onTables || goodWord w
theorem vx_ot_at {args a' : Array Value} {s U : State} {w : Cond} (hW : s.WarmedH U.vm) (hvm : s.vm = U.vm) (hg : vx_ot w = true) (h : w.before args s = true) : w.before a' U = true := by
  simp only [vx_ot, Bool.or_eq_true] at hg
  rcases hg with hg | hg
  · exact va_tabs hg hvm h
  · exact word_at hW (good_of_word hg) h
/-- a list's words: the good ones out of the method's own list, the others by premises of their own -/
theorem vx_hat {args : Array Value} {s : State} {L B : List Cond} (h1 : ∀ w ∈ L.filter goodWord, w.before args s = true) (h2 : ∀ w ∈ L.filter (fun w => !goodWord w), w ∈ B) (h3 : ∀ w ∈ B, w.before args s = true) : ∀ w ∈ L, w.before args s = true := by
  intro w hw
  by_cases g : goodWord w = true
  · exact h1 w (List.mem_filter.mpr ⟨hw, g⟩)
  · refine h3 w (h2 w (List.mem_filter.mpr ⟨hw, ?_⟩))
    show (!goodWord w) = true
    cases hgw : goodWord w
    · rfl
    · exact absurd hgw g
theorem vx_c {args : Array Value} {s : State} {w : Cond} {B : List Cond} (h : w.before args s = true) (t : ∀ w ∈ B, w.before args s = true) : ∀ w' ∈ w :: B, w'.before args s = true := fun w' h' => (List.mem_cons.mp h').elim (fun e => by rw [e]; exact h) (t w')
theorem vx_n {args : Array Value} {s : State} : ∀ w ∈ ([] : List Cond), w.before args s = true := fun _ h => nomatch h
theorem vx_own {args : Array Value} {s : State} {L : List Cond} (h1 : ∀ w ∈ L.filter vx_no, w.before args s = true)
    (hU : (Cond.isRef (.static Bundle.tN "UNASSIGNED_STACK" Bundle.steD)).before args s = true) (hN : (Cond.isRef (.static Bundle.tN "SUPPRESSED_SENTINEL" Bundle.listD)).before args s = true)
    (lU : (Cond.laysStatic Bundle.tN "UNASSIGNED_STACK" Bundle.steD).before args s = true) (lN : (Cond.laysStatic Bundle.tN "SUPPRESSED_SENTINEL" Bundle.listD).before args s = true) : ∀ w ∈ L, w.before args s = true := by
  intro w hw
  by_cases e1 : w = .isRef (.static Bundle.tN "UNASSIGNED_STACK" Bundle.steD)
  · rw [e1]; exact hU
  · by_cases e2 : w = .isRef (.static Bundle.tN "SUPPRESSED_SENTINEL" Bundle.listD)
    · rw [e2]; exact hN
    · by_cases e3 : w = .laysStatic Bundle.tN "UNASSIGNED_STACK" Bundle.steD
      · rw [e3]; exact lU
      · by_cases e4 : w = .laysStatic Bundle.tN "SUPPRESSED_SENTINEL" Bundle.listD
        · rw [e4]; exact lN
        · exact h1 w (List.mem_filter.mpr ⟨hw, by unfold vx_no; rw [decide_eq_true e1, decide_eq_true e2, decide_eq_true e3, decide_eq_true e4]; rfl⟩)
/-- where a static field lies, its class's statics cell in H -/
def vx_L (C n d : String) (A : Nat → Prop) (U : State) (H : Heap) : Prop := ∃ (c : ClassId) (k : Class) (i : Nat) (f : Field) (a : Nat) (cell : Cell), U.vm.findClass C = some c ∧ U.fieldFound? C n d = some (c, k, i, f) ∧ f.isStatic = true ∧ k.statics = some a ∧ H[a]? = some cell ∧ cell.vm.isStatics = true ∧ cell.cls = c ∧ f.slot < cell.slots.size ∧ k.staticTypes[f.slot]? = some f.type ∧ ¬ A a
theorem vx_L.moved {C n d : String} {A : Nat → Prop} {u U : State} {H : Heap} (hvm : u.vm.Alike U.vm) (h : vx_L C n d A u H) : vx_L C n d A U H := by
  obtain ⟨c, k, i, f, a, cell, h1, h2, h3, h4, h5, h6, h7, h8, h9, h10⟩ := h
  obtain ⟨k', hi', he⟩ := State.fieldFound?_setVm hvm h2
  exact ⟨c, k', i, f, a, cell, by rw [hvm.findClass]; exact h1, hi', h3, by rw [he]; exact h4, h5, h6, h7, h8, by rw [he]; exact h9, h10⟩
theorem vx_L.kept {C n d : String} {A : Nat → Prop} {U : State} {H H1 : Heap} (h : vx_L C n d A U H) (hq : ∀ a : Nat, a < H.size → ¬ A a → H1[a]? = H[a]?) : vx_L C n d A U H1 := by
  obtain ⟨c, k, i, f, a, cell, h1, h2, h3, h4, h5, h6, h7, h8, h9, h10⟩ := h
  exact ⟨c, k, i, f, a, cell, h1, h2, h3, h4, by rw [hq a (Array.getElem?_eq_some_iff.mp h5).1 h10]; exact h5, h6, h7, h8, h9, h10⟩
theorem vx_L.narrow {C n d : String} {A B : Nat → Prop} {U : State} {H : Heap} (h : vx_L C n d A U H) (hAB : ∀ q, B q → A q) : vx_L C n d B U H := by
  obtain ⟨c, k, i, f, a, cell, h1, h2, h3, h4, h5, h6, h7, h8, h9, h10⟩ := h
  exact ⟨c, k, i, f, a, cell, h1, h2, h3, h4, h5, h6, h7, h8, h9, fun z => h10 (hAB _ z)⟩
theorem vx_L.word {C n d : String} {A : Nat → Prop} {s : State} {args : Array Value} (h : vx_L C n d A s s.heap) : (Cond.laysStatic C n d).before args s = true := by
  obtain ⟨c, k, i, f, a, cell, h1, h2, h3, h4, h5, h6, h7, h8, h9, -⟩ := h
  show (Cond.laysStatic C n d).holds args s none s [] = true
  exact Cond.laysStatic_of h1 h2 h3 h4 h5 h6 h7 h8 h9
/-- .. and what it holds: null or some reference -/
def vx_Zq (C n d : String) (A : Nat → Prop) (U : State) (H : Heap) : Prop := va_Zq C n d A U H ∧ vx_L C n d A U H
theorem vx_Zq.moved {C n d : String} {A : Nat → Prop} {u U : State} {H : Heap} (hvm : u.vm.Alike U.vm) (h : vx_Zq C n d A u H) : vx_Zq C n d A U H := ⟨va_Zq.moved hvm h.1, vx_L.moved hvm h.2⟩
theorem vx_Zq.kept {C n d : String} {A : Nat → Prop} {U : State} {H H1 : Heap} (h : vx_Zq C n d A U H) (hq : ∀ a : Nat, a < H.size → ¬ A a → H1[a]? = H[a]?) : vx_Zq C n d A U H1 := ⟨va_Zq.kept h.1 hq, vx_L.kept h.2 hq⟩
theorem vx_Zq.narrow {C n d : String} {A B : Nat → Prop} {U : State} {H : Heap} (h : vx_Zq C n d A U H) (hAB : ∀ q, B q → A q) : vx_Zq C n d B U H := ⟨va_Zq.narrow h.1 hAB, vx_L.narrow h.2 hAB⟩
theorem vx_Zqof {args : Array Value} {s : State} {C n d : String} {A : Nat → Prop} (hl : (Cond.laysStatic C n d).before args s = true) (hini : (Cond.initialized C).before args s = true) (h : (Cond.isRef (.static C n d)).before args s = true) (hA : ∀ a : Nat, a < s.heap.size → ¬ A a) : vx_Zq C n d A s s.heap := by
  refine ⟨va_Zqof hl hini h hA, ?_⟩
  obtain ⟨c, k, i, f, a, cell, h1, h2, h3, h4, h5, h6, h7, h8, h9⟩ := Cond.laysStatic_spec hl
  exact ⟨c, k, i, f, a, cell, h1, h2, h3, h4, h5, h6, h7, h8, h9, hA a (Array.getElem?_eq_some_iff.mp h5).1⟩
theorem vx_isRef {C n d : String} {v : Value} {A : Nat → Prop} {s : State} {args : Array Value} (h : va_Z C n d v A s s.heap) (hv : v.isRef = true) : (Cond.isRef (.static C n d)).before args s = true := by
  obtain ⟨cf, kf, fi, f, a, cell, h1, h2, h3, h4, h5, h6, h7, -⟩ := h
  have he : (Term.static C n d).eval args s none [] s = some v := by
    simp [Term.eval, State.fieldNamed?, h1, h2, h4, h5, h6, h7]
  simp only [Cond.before, Cond.holds, Cond.value, he]
  cases v <;> simp_all [Value.isRef]
theorem vx_isRefq {C n d : String} {A : Nat → Prop} {s : State} {args : Array Value} (h : va_Zq C n d A s s.heap) : (Cond.isRef (.static C n d)).before args s = true := by
  rcases h with h | ⟨t, h⟩
  · exact vx_isRef h rfl
  · exact vx_isRef h rfl
/-- the same frame, seen from here: as if the method were called anew in this heap -/
theorem vx_rebase {T : State} (X : Stand p l e R s m args below meth c T locs cells slots) {R' : Room} (hf : R'.frames ≤ R.frames) (hl : R'.locals ≤ R.locals) (hc : cells + R'.cells ≤ R.cells) (hs : slots + R'.slots ≤ R.slots) :
    Stand p l e R' ((T.setVm s.vm).setFrames (.invoking m args :: below)) m args below meth c T [] 0 0 := by
  have htop : (T.setVm s.vm).topJava?.isSome := X.here.top
  have hF : ((T.setVm s.vm).setFrames (.invoking m args :: below)).frames = .invoking m args :: below := State.frames_setFrames _ (State.cur_lt_of_top htop)
  obtain ⟨g₀, hg0⟩ := Option.isSome_iff_exists.mp htop
  obtain ⟨r, hr⟩ := State.topJava?_eq_some.mp hg0
  have hl9 : e.platform.stackLimits (T.setVm s.vm).me = e.platform.stackLimits s.me := X.limits
  have hb9 : (T.setVm s.vm).me.stackBytes = s.me.stackBytes := X.bytes
  refine ⟨X.admits, X.cas, X.clock, hF, ?_, X.hears, X.method, X.code, X.here, X.tail, X.warmed, ?_, ?_, ?_⟩
  · have h := X.room
    have hU : ((T.setVm s.vm).setFrames (.invoking m args :: below)).localsInUse = s.localsInUse := by
      rw [State.localsInUse_invoking hF (meth := meth) (c := c) X.method X.code, State.localsInUse_invoking X.frames X.method X.code]
    simp only [State.hasRoom, Bool.and_eq_true, decide_eq_true_eq] at h ⊢
    obtain ⟨⟨⟨⟨h1, h2, h3, h4, h5, h6⟩, h7⟩, h8⟩, h9⟩ := h
    rw [X.frames, List.length_cons] at h2 h3
    have q1 := X.heapSize
    have q2 := X.used
    simp only [hF, hU, List.length_cons, State.stackLimits_setFrames, State.stackBytes_setFrames, hl9, hb9]
    refine ⟨⟨⟨⟨by omega, by omega, by omega, by omega, by omega, h6⟩, ?_⟩, ?_⟩, X.book⟩
    · show T.heap.size + R'.cells ≤ e.platform.maxCells
      omega
    · show T.slotsUsed + R'.slots ≤ e.platform.maxSlots
      omega
  · rw [State.stackLimits_setFrames]; rfl
  · rw [State.stackBytes_setFrames]; rfl
  · refine ⟨?_, Nat.le_refl _, Nat.le_refl _, ?_, ?_, fun a c9 h9 => ⟨c9, h9, rfl, rfl, fun _ _ => rfl⟩⟩
    · obtain ⟨t, ht, -⟩ := State.frames_cons hr
      show T.setVm s.vm = { ((T.setVm s.vm).setFrames (.invoking m args :: below)).setFrames (T.setVm s.vm).frames with heap := T.heap, slotsUsed := T.slotsUsed }
      rw [State.setFrames_setFrames, State.setFrames_self ht]
      rfl
    · show T.slotsUsed = T.slotsUsed + ((T.heap.toList.drop T.heap.size).map (·.slots.size)).sum
      rw [List.drop_eq_nil_of_le (Nat.le_of_eq Array.length_toList)]
      rfl
    · show ((T.heap.toList.drop T.heap.size).map (·.slots.size)).sum ≤ 0
      rw [List.drop_eq_nil_of_le (Nat.le_of_eq Array.length_toList)]
      exact Nat.le_refl _
/-- 'throw new E()': new; dup; invokespecial; athrow -/
theorem vx_throw0 {cc : ByteArray} {pc : Nat} (hexec : p.tables.exec = Jvm.exec) (hb : c.code = cc) (hl : l.stackTraces = false) {own cls : String} {names : List String} {ik ic mc ms : Nat} {A : Nat → Prop}
    (hown : s.vm.findClass own = some m.cls) (hcls : Bundle.fit cls = true) (hnames : ∀ n ∈ names, Bundle.fit n = true)
    (hk : (Cond.classLink own ik cls).before args s = true) (hini : (Cond.initialized cls).before args s = true) (hat : ∀ w ∈ vx_at0 own ic cls names, w.before args s = true)
    (hgood : ∀ w ∈ Cond.classLink own ik cls :: Cond.initialized cls :: vx_at0 own ic cls names, vx_ot w = true)
    (hU : vx_Zq Bundle.tN "UNASSIGNED_STACK" Bundle.steD A s s.heap) (hN : vx_Zq Bundle.tN "SUPPRESSED_SENTINEL" Bundle.listD A s s.heap) (hS : va_S A s.heap H locs) (hsize : ls.size = c.maxLocals)
    (d0 : decode cc pc = .ok (.new ik, 3)) (d3 : decode cc (pc + 3) = .ok (.dup, 1)) (d4 : decode cc (pc + 4) = .ok (.invokespecial ic, 3)) (d7 : decode cc (pc + 7) = .ok (.athrow, 1))
    (hout : ∀ x ∈ c.exceptionTable.toList, covers x (pc + 7) = false)
    (hRframes : names.length + 3 < R.frames) (hRlocals : (rest.map fun v => v.category).sum + (13 * (names.length + 1) + 42) ≤ R.locals) (hRcells : cells + 1 ≤ R.cells) (hRslots : slots + 6 ≤ R.slots) (hlocks : meth.locks = false)
    (hx : ∀ t : State, s.vm.Alike t.vm → H.size ≤ t.heap.size → (∀ q : Nat, q < H.size → t.heap[q]? = H[q]?) → XC cls s t)
    (hf : ∀ z ∈ locs, free z.base) (hc : cells + 1 ≤ mc) (hs : slots + 6 ≤ ms) :
    W p l e R s m args below meth c H locs cells slots (vx_MQ below Qc XC args s mc ms free) (F0 m pc ls rest) := by
  intro T hT X
  have htr : e.platform.stackTraces = false := (show e.platform.stackTraces = l.stackTraces by rw [X.admits.platform]).trans hl
  have Y := vx_rebase X (R' := { frames := R.frames, locals := R.locals, cells := 1, slots := 6 }) (Nat.le_refl _) (Nat.le_refl _) hRcells hRslots
  obtain ⟨s', hA⟩ : ∃ z, z = (T.setVm s.vm).setFrames (.invoking m args :: below) := ⟨_, rfl⟩
  rw [← hA] at Y
  have hvm : s'.vm = s.vm := by rw [hA]; rfl
  have hhp : s'.heap = H := by rw [hA]; exact hT
  have hW0 : s.WarmedH s'.vm := by rw [hvm]; exact State.WarmedH.refl s
  have hat' : ∀ w ∈ vx_at0 own ic cls names, w.before args s' = true := fun w hw => vx_ot_at hW0 hvm.symm (hgood w (List.mem_cons_of_mem _ (List.mem_cons_of_mem _ hw))) (hat w hw)
  have hk' : (Cond.classLink own ik cls).before args s' = true := vx_ot_at hW0 hvm.symm (hgood _ List.mem_cons_self) hk
  have hini' : (Cond.initialized cls).before args s' = true := vx_ot_at hW0 hvm.symm (hgood _ (List.mem_cons_of_mem _ List.mem_cons_self)) hini
  have hU' : vx_Zq Bundle.tN "UNASSIGNED_STACK" Bundle.steD A s' s'.heap := by rw [hhp]; exact vx_Zq.moved hW0.alike (hU.kept hS.2.1)
  have hN' : vx_Zq Bundle.tN "SUPPRESSED_SENTINEL" Bundle.listD A s' s'.heap := by rw [hhp]; exact vx_Zq.moved hW0.alike (hN.kept hS.2.1)
  have h : ∀ w ∈ Bundle.ownAtoms0 own ic cls names, w.before args s' = true := vx_own hat' (vx_isRefq hU'.1) (vx_isRefq hN'.1) hU'.2.word hN'.2.word
  have hown' : s'.vm.findClass own = some m.cls := by rw [hvm]; exact hown
  have hins : (Cond.instantiable cls 6).before args s' = true := h _ (by simp [Bundle.ownAtoms0])
  obtain ⟨vm₁, cX, kX, hfX, hkX, -, -, X₁, st1⟩ := Y.newCold hexec (own := own) (C := cls) (index := ik) (n := 6) hown' hk' hins hini'
    (g := F0 m pc ls rest) rfl (by rw [hb]; exact d0) (Nat.le_refl _) (Nat.le_refl _)
  generalize hT1 : (T.setVm vm₁).pushCell { cls := cX, slots := kX.instanceTypes.map defaultValue, vm := .none } = T1 at X₁ st1
  have hcat : (Value.ref T.heap.size).category = 1 := rfl
  have hcellA : T1.heap[T.heap.size]? = some (freshCell cX kX) := by rw [← hT1]; exact State.heap_pushCell_size _ _
  have d3' : decode c.code (pc + 3) = .ok (.dup, 1) := by rw [hb]; exact d3
  obtain ⟨U, hsteps, hrun, hend, hW, hsame, ce, hce, hO⟩ := X₁.ctorThrow0 hexec htr (own := own) (cls := cls) (names := names) (ic := ic) hown' hcls hnames h (fun x hx => nomatch hx) hfX hkX hcellA (by rw [hhp, hT]; exact Nat.le_refl _)
    (g := { method := m, pc := pc + 4, locals := ls, stack := .ref T.heap.size :: .ref T.heap.size :: rest, locked := none }) rfl hsize rfl rfl (rest := rest) rfl
    (by rw [hb]; exact d4) (by rw [hb]; exact d7) hout hRframes (by simp only [List.map_cons, List.sum_cons, hcat]; omega) hlocks
  obtain ⟨f1, f2⟩ := vx_frame hsame
  rw [hhp] at f1 f2
  have hWs : s.WarmedH U.vm := State.WarmedH.trans hW0 hW
  have hcl : s.vm.findClass cls = some ce.cls := by
    have h9 := hO.cls
    rw [hvm] at h9
    exact h9
  have hall : s.sameButNew ({ U with vm := s.vm } : State) locs mc ms := by
    subst hA
    obtain ⟨e1, e2⟩ := hsame
    rw [State.setFrames_setFrames] at e1
    have h2 : (T.setVm s.vm).sameButNew ({ U with vm := s.vm } : State) [] (0 + 1) (0 + 6) := ⟨e1, e2⟩
    have h3 := X.same.trans h2
    rw [List.append_nil] at h3
    exact h3.mono hc hs
  refine ⟨U, ?_, .threw T.heap.size, hrun, hend, Or.inr ⟨T.heap.size, rfl, cls, ce, locs, hx U hWs.alike f1 (fun q hq => f2 q hq (fun z hz => nomatch hz)), hce, hO.vm, hcl, hWs, hall, hf⟩⟩
  refine st1 _ ?_
  show Steps p.tables e below (T1.setTop { method := m, pc := pc + 3, locals := ls, stack := .ref T.heap.size :: rest, locked := none }) _
  jvm_step X₁.here [X₁.here.top, hexec, d3', Value.category]
  exact hsteps
/-- 'throw new E("text")': new; dup; ldc; invokespecial; athrow -/
theorem vx_throwS {cc : ByteArray} {pc : Nat} (hexec : p.tables.exec = Jvm.exec) (hb : c.code = cc) (hl : l.stackTraces = false) {own cls text : String} {names : List String} {ik is ic mc ms sa : Nat} {A : Nat → Prop}
    (hown : s.vm.findClass own = some m.cls) (hcls : Bundle.fit cls = true) (hnames : ∀ n ∈ names, Bundle.fit n = true)
    (hk : (Cond.classLink own ik cls).before args s = true) (hini : (Cond.initialized cls).before args s = true) (hstr : vk_R own is text sa s) (hat : ∀ w ∈ vx_atS own ic cls names, w.before args s = true)
    (hgood : ∀ w ∈ Cond.classLink own ik cls :: Cond.initialized cls :: vx_atS own ic cls names, vx_ot w = true)
    (hU : vx_Zq Bundle.tN "UNASSIGNED_STACK" Bundle.steD A s s.heap) (hN : vx_Zq Bundle.tN "SUPPRESSED_SENTINEL" Bundle.listD A s s.heap) (hS : va_S A s.heap H locs) (hsize : ls.size = c.maxLocals)
    (d0 : decode cc pc = .ok (.new ik, 3)) (d3 : decode cc (pc + 3) = .ok (.dup, 1)) (d4 : decode cc (pc + 4) = .ok (.ldc is, 2)) (d6 : decode cc (pc + 6) = .ok (.invokespecial ic, 3)) (d9 : decode cc (pc + 9) = .ok (.athrow, 1))
    (hout : ∀ x ∈ c.exceptionTable.toList, covers x (pc + 9) = false)
    (hRframes : names.length + 3 < R.frames) (hRlocals : (rest.map fun v => v.category).sum + (13 * (names.length + 1) + 43) ≤ R.locals) (hRcells : cells + 1 ≤ R.cells) (hRslots : slots + 6 ≤ R.slots) (hlocks : meth.locks = false)
    (hx : ∀ t : State, s.vm.Alike t.vm → H.size ≤ t.heap.size → (∀ q : Nat, q < H.size → t.heap[q]? = H[q]?) → XC cls s t)
    (hf : ∀ z ∈ locs, free z.base) (hc : cells + 1 ≤ mc) (hs : slots + 6 ≤ ms) :
    W p l e R s m args below meth c H locs cells slots (vx_MQ below Qc XC args s mc ms free) (F0 m pc ls rest) := by
  intro T hT X
  have htr : e.platform.stackTraces = false := (show e.platform.stackTraces = l.stackTraces by rw [X.admits.platform]).trans hl
  have Y := vx_rebase X (R' := { frames := R.frames, locals := R.locals, cells := 1, slots := 6 }) (Nat.le_refl _) (Nat.le_refl _) hRcells hRslots
  obtain ⟨s', hA⟩ : ∃ z, z = (T.setVm s.vm).setFrames (.invoking m args :: below) := ⟨_, rfl⟩
  rw [← hA] at Y
  have hvm : s'.vm = s.vm := by rw [hA]; rfl
  have hhp : s'.heap = H := by rw [hA]; exact hT
  have hW0 : s.WarmedH s'.vm := by rw [hvm]; exact State.WarmedH.refl s
  have hat' : ∀ w ∈ vx_atS own ic cls names, w.before args s' = true := fun w hw => vx_ot_at hW0 hvm.symm (hgood w (List.mem_cons_of_mem _ (List.mem_cons_of_mem _ hw))) (hat w hw)
  have hk' : (Cond.classLink own ik cls).before args s' = true := vx_ot_at hW0 hvm.symm (hgood _ List.mem_cons_self) hk
  have hini' : (Cond.initialized cls).before args s' = true := vx_ot_at hW0 hvm.symm (hgood _ (List.mem_cons_of_mem _ List.mem_cons_self)) hini
  have hU' : vx_Zq Bundle.tN "UNASSIGNED_STACK" Bundle.steD A s' s'.heap := by rw [hhp]; exact vx_Zq.moved hW0.alike (hU.kept hS.2.1)
  have hN' : vx_Zq Bundle.tN "SUPPRESSED_SENTINEL" Bundle.listD A s' s'.heap := by rw [hhp]; exact vx_Zq.moved hW0.alike (hN.kept hS.2.1)
  have h : ∀ w ∈ Bundle.ownAtoms own ic cls names, w.before args s' = true := vx_own hat' (vx_isRefq hU'.1) (vx_isRefq hN'.1) hU'.2.word hN'.2.word
  have hown' : s'.vm.findClass own = some m.cls := by rw [hvm]; exact hown
  have hins : (Cond.instantiable cls 6).before args s' = true := h _ (by simp [Bundle.ownAtoms])
  obtain ⟨vm₁, cX, kX, hfX, hkX, -, -, X₁, st1⟩ := Y.newCold hexec (own := own) (C := cls) (index := ik) (n := 6) hown' hk' hins hini'
    (g := F0 m pc ls rest) rfl (by rw [hb]; exact d0) (Nat.le_refl _) (Nat.le_refl _)
  generalize hT1 : (T.setVm vm₁).pushCell { cls := cX, slots := kX.instanceTypes.map defaultValue, vm := .none } = T1 at X₁ st1
  have hcat : (Value.ref T.heap.size).category = 1 := rfl
  have hcellA : T1.heap[T.heap.size]? = some (freshCell cX kX) := by rw [← hT1]; exact State.heap_pushCell_size _ _
  have d3' : decode c.code (pc + 3) = .ok (.dup, 1) := by rw [hb]; exact d3
  have d4' : decode c.code (pc + 4) = .ok (.ldc is, 2) := by rw [hb]; exact d4
  have hstr' : vk_R own is text sa s' := vk_R.warm hW0 hstr
  obtain ⟨U, hsteps, hrun, hend, hW, hsame, ce, hce, hO⟩ := X₁.ctorThrowS hexec htr (own := own) (cls := cls) (names := names) (ic := ic) hown' hcls hnames h (fun x hx => nomatch hx) hfX hkX hcellA (by rw [hhp, hT]; exact Nat.le_refl _) (msg := .ref sa) rfl
    (g := { method := m, pc := pc + 6, locals := ls, stack := .ref sa :: .ref T.heap.size :: .ref T.heap.size :: rest, locked := none }) rfl hsize rfl rfl (rest := rest) rfl
    (by rw [hb]; exact d6) (by rw [hb]; exact d9) hout hRframes (by simp only [List.map_cons, List.sum_cons, hcat]; omega) hlocks
  obtain ⟨f1, f2⟩ := vx_frame hsame
  rw [hhp] at f1 f2
  have hWs : s.WarmedH U.vm := State.WarmedH.trans hW0 hW
  have hcl : s.vm.findClass cls = some ce.cls := by
    have h9 := hO.cls
    rw [hvm] at h9
    exact h9
  have hall : s.sameButNew ({ U with vm := s.vm } : State) locs mc ms := by
    subst hA
    obtain ⟨e1, e2⟩ := hsame
    rw [State.setFrames_setFrames] at e1
    have h2 : (T.setVm s.vm).sameButNew ({ U with vm := s.vm } : State) [] (0 + 1) (0 + 6) := ⟨e1, e2⟩
    have h3 := X.same.trans h2
    rw [List.append_nil] at h3
    exact h3.mono hc hs
  refine ⟨U, ?_, .threw T.heap.size, hrun, hend, Or.inr ⟨T.heap.size, rfl, cls, ce, locs, hx U hWs.alike f1 (fun q hq => f2 q hq (fun z hz => nomatch hz)), hce, hO.vm, hcl, hWs, hall, hf⟩⟩
  refine st1 _ ?_
  show Steps p.tables e below (T1.setTop { method := m, pc := pc + 3, locals := ls, stack := .ref T.heap.size :: rest, locked := none }) _
  jvm_step X₁.here [X₁.here.top, hexec, d3', Value.category]
  exact X₁.ldcString hexec (own := own) (text := text) (index := is) (a := sa) hown' hstr'.1 hstr'.2
    (g := { method := m, pc := pc + 4, locals := ls, stack := .ref T.heap.size :: .ref T.heap.size :: rest, locked := none }) rfl d4' _ hsteps
/-- 'throw new E("text")', the text by a wide index -/
theorem vx_throwSW {cc : ByteArray} {pc : Nat} (hexec : p.tables.exec = Jvm.exec) (hb : c.code = cc) (hl : l.stackTraces = false) {own cls text : String} {names : List String} {ik is ic mc ms sa : Nat} {A : Nat → Prop}
    (hown : s.vm.findClass own = some m.cls) (hcls : Bundle.fit cls = true) (hnames : ∀ n ∈ names, Bundle.fit n = true)
    (hk : (Cond.classLink own ik cls).before args s = true) (hini : (Cond.initialized cls).before args s = true) (hstr : vk_R own is text sa s) (hat : ∀ w ∈ vx_atS own ic cls names, w.before args s = true)
    (hgood : ∀ w ∈ Cond.classLink own ik cls :: Cond.initialized cls :: vx_atS own ic cls names, vx_ot w = true)
    (hU : vx_Zq Bundle.tN "UNASSIGNED_STACK" Bundle.steD A s s.heap) (hN : vx_Zq Bundle.tN "SUPPRESSED_SENTINEL" Bundle.listD A s s.heap) (hS : va_S A s.heap H locs) (hsize : ls.size = c.maxLocals)
    (d0 : decode cc pc = .ok (.new ik, 3)) (d3 : decode cc (pc + 3) = .ok (.dup, 1)) (d4 : decode cc (pc + 4) = .ok (.ldc_w is, 3)) (d7 : decode cc (pc + 7) = .ok (.invokespecial ic, 3)) (d10 : decode cc (pc + 10) = .ok (.athrow, 1))
    (hout : ∀ x ∈ c.exceptionTable.toList, covers x (pc + 10) = false)
    (hRframes : names.length + 3 < R.frames) (hRlocals : (rest.map fun v => v.category).sum + (13 * (names.length + 1) + 43) ≤ R.locals) (hRcells : cells + 1 ≤ R.cells) (hRslots : slots + 6 ≤ R.slots) (hlocks : meth.locks = false)
    (hx : ∀ t : State, s.vm.Alike t.vm → H.size ≤ t.heap.size → (∀ q : Nat, q < H.size → t.heap[q]? = H[q]?) → XC cls s t)
    (hf : ∀ z ∈ locs, free z.base) (hc : cells + 1 ≤ mc) (hs : slots + 6 ≤ ms) :
    W p l e R s m args below meth c H locs cells slots (vx_MQ below Qc XC args s mc ms free) (F0 m pc ls rest) := by
  intro T hT X
  have htr : e.platform.stackTraces = false := (show e.platform.stackTraces = l.stackTraces by rw [X.admits.platform]).trans hl
  have Y := vx_rebase X (R' := { frames := R.frames, locals := R.locals, cells := 1, slots := 6 }) (Nat.le_refl _) (Nat.le_refl _) hRcells hRslots
  obtain ⟨s', hA⟩ : ∃ z, z = (T.setVm s.vm).setFrames (.invoking m args :: below) := ⟨_, rfl⟩
  rw [← hA] at Y
  have hvm : s'.vm = s.vm := by rw [hA]; rfl
  have hhp : s'.heap = H := by rw [hA]; exact hT
  have hW0 : s.WarmedH s'.vm := by rw [hvm]; exact State.WarmedH.refl s
  have hat' : ∀ w ∈ vx_atS own ic cls names, w.before args s' = true := fun w hw => vx_ot_at hW0 hvm.symm (hgood w (List.mem_cons_of_mem _ (List.mem_cons_of_mem _ hw))) (hat w hw)
  have hk' : (Cond.classLink own ik cls).before args s' = true := vx_ot_at hW0 hvm.symm (hgood _ List.mem_cons_self) hk
  have hini' : (Cond.initialized cls).before args s' = true := vx_ot_at hW0 hvm.symm (hgood _ (List.mem_cons_of_mem _ List.mem_cons_self)) hini
  have hU' : vx_Zq Bundle.tN "UNASSIGNED_STACK" Bundle.steD A s' s'.heap := by rw [hhp]; exact vx_Zq.moved hW0.alike (hU.kept hS.2.1)
  have hN' : vx_Zq Bundle.tN "SUPPRESSED_SENTINEL" Bundle.listD A s' s'.heap := by rw [hhp]; exact vx_Zq.moved hW0.alike (hN.kept hS.2.1)
  have h : ∀ w ∈ Bundle.ownAtoms own ic cls names, w.before args s' = true := vx_own hat' (vx_isRefq hU'.1) (vx_isRefq hN'.1) hU'.2.word hN'.2.word
  have hown' : s'.vm.findClass own = some m.cls := by rw [hvm]; exact hown
  have hins : (Cond.instantiable cls 6).before args s' = true := h _ (by simp [Bundle.ownAtoms])
  obtain ⟨vm₁, cX, kX, hfX, hkX, -, -, X₁, st1⟩ := Y.newCold hexec (own := own) (C := cls) (index := ik) (n := 6) hown' hk' hins hini'
    (g := F0 m pc ls rest) rfl (by rw [hb]; exact d0) (Nat.le_refl _) (Nat.le_refl _)
  generalize hT1 : (T.setVm vm₁).pushCell { cls := cX, slots := kX.instanceTypes.map defaultValue, vm := .none } = T1 at X₁ st1
  have hcat : (Value.ref T.heap.size).category = 1 := rfl
  have hcellA : T1.heap[T.heap.size]? = some (freshCell cX kX) := by rw [← hT1]; exact State.heap_pushCell_size _ _
  have d3' : decode c.code (pc + 3) = .ok (.dup, 1) := by rw [hb]; exact d3
  have d4' : decode c.code (pc + 4) = .ok (.ldc_w is, 3) := by rw [hb]; exact d4
  have hstr' : vk_R own is text sa s' := vk_R.warm hW0 hstr
  obtain ⟨U, hsteps, hrun, hend, hW, hsame, ce, hce, hO⟩ := X₁.ctorThrowS hexec htr (own := own) (cls := cls) (names := names) (ic := ic) hown' hcls hnames h (fun x hx => nomatch hx) hfX hkX hcellA (by rw [hhp, hT]; exact Nat.le_refl _) (msg := .ref sa) rfl
    (g := { method := m, pc := pc + 7, locals := ls, stack := .ref sa :: .ref T.heap.size :: .ref T.heap.size :: rest, locked := none }) rfl hsize rfl rfl (rest := rest) rfl
    (by rw [hb]; exact d7) (by rw [hb]; exact d10) hout hRframes (by simp only [List.map_cons, List.sum_cons, hcat]; omega) hlocks
  obtain ⟨f1, f2⟩ := vx_frame hsame
  rw [hhp] at f1 f2
  have hWs : s.WarmedH U.vm := State.WarmedH.trans hW0 hW
  have hcl : s.vm.findClass cls = some ce.cls := by
    have h9 := hO.cls
    rw [hvm] at h9
    exact h9
  have hall : s.sameButNew ({ U with vm := s.vm } : State) locs mc ms := by
    subst hA
    obtain ⟨e1, e2⟩ := hsame
    rw [State.setFrames_setFrames] at e1
    have h2 : (T.setVm s.vm).sameButNew ({ U with vm := s.vm } : State) [] (0 + 1) (0 + 6) := ⟨e1, e2⟩
    have h3 := X.same.trans h2
    rw [List.append_nil] at h3
    exact h3.mono hc hs
  refine ⟨U, ?_, .threw T.heap.size, hrun, hend, Or.inr ⟨T.heap.size, rfl, cls, ce, locs, hx U hWs.alike f1 (fun q hq => f2 q hq (fun z hz => nomatch hz)), hce, hO.vm, hcl, hWs, hall, hf⟩⟩
  refine st1 _ ?_
  show Steps p.tables e below (T1.setTop { method := m, pc := pc + 3, locals := ls, stack := .ref T.heap.size :: rest, locked := none }) _
  jvm_step X₁.here [X₁.here.top, hexec, d3', Value.category]
  exact X₁.ldcStringW hexec (own := own) (text := text) (index := is) (a := sa) hown' hstr'.1 hstr'.2
    (g := { method := m, pc := pc + 4, locals := ls, stack := .ref T.heap.size :: .ref T.heap.size :: rest, locked := none }) rfl d4' _ hsteps
end Ends
section Bodies
variable {l : Launch}
theorem vx_ofW {y : MethodName} {ws ws' : List Cond} {rm : Room} {Pc : Array Value → State → Prop} {Qc : Array Value → State → Outcome → State → Prop} {XC : String → State → State → Prop} {mc ms : Nat} {free : Addr → Prop} {cc : ByteArray} {maxL : Nat} {ret : Option FieldType}
    (hy : plainName y.cls = true) (hw : ws = Cond.code y cc maxL ret :: ws')
    (body : ∀ p e s m args below meth c s₁, BodyLoose p l y (headSpec ws rm) cc maxL ret e s m args below meth c s₁ → c.maxLocals = maxL → (∀ x ∈ c.exceptionTable.toList, False) → Pc args s →
      W p l e (headSpec ws rm).room s m args below meth c s.heap [] 0 0 (vx_MQ below Qc XC args s mc ms free) (entryFrame m args maxL)) : vx_Met l y ws rm Pc Qc XC mc ms free := by
  refine MetFree.of_bodyS (code := cc) (maxLocals := maxL) (ret := ret) hy ?_ ?_
  · intro args s m h hn
    obtain ⟨meth, c, h1, h2, h3, h4, h5, h6, -, -⟩ := Cond.code_spec hn (atoms_spec (ws := ws) h _ (by rw [hw]; exact List.mem_cons_self))
    exact ⟨meth, c, h1, h2, h3, h4, h5, h6⟩
  · intro p e s m args below meth c s₁ B hml hP _
    have hh0 : s₁.heap = s.heap := by rw [B.state]; rfl
    have ht : ∀ x ∈ c.exceptionTable.toList, False := by
      obtain ⟨meth9, c9, h1, h2, -, -, -, -, h7, -⟩ := Cond.code_spec B.named (atoms_spec (ws := ws) B.pre _ (by rw [hw]; exact List.mem_cons_self))
      cases Option.some.inj (h1.symm.trans B.method)
      cases Option.some.inj (h2.symm.trans (Stand.of_body B).code)
      intro x hx
      rw [Array.isEmpty_iff.mp h7] at hx
      cases hx
    obtain ⟨t, a1, o, b1, b2, b3⟩ := body p e s m args below meth c s₁ B hml ht hP s₁ hh0 (Stand.of_body B)
    exact ⟨t, o, a1, b1, b2, b3⟩
/-- the table of a body with handlers -/
theorem vx_table {p : Program} {x y : MethodName} {S : Spec} {cc bytes : ByteArray} {maxL maxL' : Nat} {ret ret' : Option FieldType} {e : Env} {s s₁ : State} {m : MethodId} {args : Array Value} {below : List Frame} {meth : Method} {c : Code} {hh : List (Nat × Nat × Nat × Nat)}
    (B : BodyLoose p l y S cc maxL ret e s m args below meth c s₁) (h : (Cond.codeWith y bytes maxL' ret' hh).before args s = true) : c.exceptionTable.toList = tableOf hh := by
  obtain ⟨m9, meth9, c9, hn9, h1, h2, -, -, h6, -⟩ := Cond.codeWith_spec h
  cases Option.some.inj (hn9.symm.trans B.named)
  cases Option.some.inj (h1.symm.trans B.method)
  cases Option.some.inj (h2.symm.trans (Stand.of_body B).code)
  rw [← h6, table_eq]
end Bodies
end VXA
/-! ===== END ===== -/
/-! ===== BEGIN a static call of a method with an exception table ===== -/
section VXS
variable {p : Program} {l : Launch} {e : Env} {R : Room} {s : State} {m : MethodId} {args : Array Value} {below : List Frame} {meth : Method} {c : Code} {T : State} {H : Heap} {locs : List Loc} {cells slots : Nat}
abbrev vx_CSW (R : Room) (s : State) (args : Array Value) (own : String) (index : Nat) (y : MethodName) (bytes : ByteArray) (maxL : Nat) (ret : Option FieldType) (hh : List (Nat × Nat × Nat × Nat)) (ws : List Cond) (rm : Room) (mc ms n : Nat) : Prop :=
  (rm.cells = mc ∧ rm.slots = ms ∧ rm.frames + 1 ≤ R.frames ∧ 8 + (maxL + 11) + rm.locals ≤ R.locals ∧ (∀ w ∈ ws, ∀ (a' : Array Value) (U : State), s.WarmedH U.vm → w.before a' U = true) ∧ Cond.codeWith y bytes maxL ret hh ∈ ws) ∧
  (Cond.codeWith y bytes maxL ret hh).before args s = true ∧ (Cond.initialized y.cls).before args s = true ∧ (y.cls ≠ "java/lang/invoke/MethodHandle" ∧ y.cls ≠ "java/lang/invoke/VarHandle") ∧
  (∀ sig, parseMethodDescriptor y.desc = some sig → n = sig.parameters.length) ∧ (Cond.methodLink own index y).before args s = true ∧ (Cond.static y).before args s = true
theorem vx_cwSW {own : String} {index maxL mc ms : Nat} {y : MethodName} {bytes : ByteArray} {ret : Option FieldType} {hh : List (Nat × Nat × Nat × Nat)} {Ts ws ws' : List Cond} {rm : Room} (n : Nat) (ht : ∀ w ∈ Ts, w.before args s = true) (hT : GoodIn Ts (va_wsS own index y ws)) (hw : ws = Cond.codeWith y bytes maxL ret hh :: ws') (hrc : rm.cells = mc) (hrs : rm.slots = ms)
    (hd : y.cls ≠ "java/lang/invoke/MethodHandle" ∧ y.cls ≠ "java/lang/invoke/VarHandle" ∧ (parseMethodDescriptor y.desc).map (fun d => d.parameters.length) = some n) (hR : rm.frames + 1 ≤ R.frames ∧ 8 + (maxL + 11) + rm.locals ≤ R.locals) :
    vx_CSW R s args own index y bytes maxL ret hh ws rm mc ms n := by
  have ok : ∀ w ∈ va_wsS own index y ws, w.before args s = true := fun w h => ht w (hT w h).1
  have hG : GoodIn Ts ws := fun w h => hT w (by unfold va_wsS; exact List.mem_append_right _ h)
  have hc : Cond.codeWith y bytes maxL ret hh ∈ ws := by rw [hw]; exact List.mem_cons_self
  refine ⟨⟨hrc, hrs, hR.1, hR.2, pay_in ht hG, hc⟩, ht _ (hG _ hc).1, ok _ (by simp [va_wsS]), ⟨hd.1, hd.2.1⟩, fun sig h => ?_, ok _ (by simp [va_wsS]), ok _ (by simp [va_wsS])⟩
  have h2 := hd.2.2
  rw [h] at h2
  exact (Option.some.inj h2).symm
theorem vx_callSW (X : Stand p l e R s m args below meth c T locs cells slots) (hexec : p.tables.exec = Jvm.exec) {own : String} {index : Nat} {y : MethodName} {bytes : ByteArray} {maxL : Nat} {ret : Option FieldType} {hh : List (Nat × Nat × Nat × Nat)}
    (hown : s.vm.findClass own = some m.cls) (hlink : (Cond.methodLink own index y).before args s = true) (hstat : (Cond.static y).before args s = true) (hinit : (Cond.initialized y.cls).before args s = true)
    (hcode : (Cond.codeWith y bytes maxL ret hh).before args s = true) (hy : y.cls ≠ "java/lang/invoke/MethodHandle" ∧ y.cls ≠ "java/lang/invoke/VarHandle")
    {W9 : Nat} {Pre : Pt → Array Value → Prop} {Post : Pt → Array Value → Option Value → Pt → Prop} (hK : Back l R p e below s args y 3 W9 Pre Post)
    {g : JFrame} (hg : g.method = m) (hsize : g.locals.size = c.maxLocals) {argsL rest : List Value} (hlen : ∀ sig, parseMethodDescriptor y.desc = some sig → argsL.length = sig.parameters.length)
    (hstack : g.stack = argsL.reverse ++ rest) (hW : 2 * g.monitorRoom + (rest.map fun v => v.category).sum ≤ W9) (hdg : decode c.code g.pc = .ok (.invokestatic index, 3))
    (hpre : ∀ vm₁, s.WarmedH vm₁ → Pre ⟨T.setVm vm₁, locs, cells, slots⟩ argsL.toArray) :
    ∃ (v : Option Value) (vm₁ : Vm) (B : Pt), s.WarmedH vm₁ ∧ Stand p l e R s m args below meth c B.U B.locs B.cells B.slots ∧ Post ⟨T.setVm vm₁, locs, cells, slots⟩ argsL.toArray v B ∧
      ∀ target, Steps p.tables e below (B.U.setTop { g with pc := g.pc + 3, stack := v.toList ++ rest }) target → Steps p.tables e below (T.setTop g) target := by
  obtain ⟨mk, methM, cM, hnamed, hmethM, -, -, -, -, -, -, hsigM⟩ := Cond.codeWith_spec hcode
  have hstatic : methM.isStatic = true := Cond.static_spec hnamed hmethM hstat
  obtain ⟨kP, hkP, -⟩ := className_of_methodNamed hnamed
  have hinitP : kP.init = .initialized := Cond.initialized_spec (findClass_of_methodNamed hnamed) hkP hinit
  obtain ⟨vm₁, X₁, hstep₁⟩ := X.invokestatic hexec hown hlink hnamed hmethM hstatic hkP hinitP hy (g := g) hg (argsL := argsL) (rest := rest) (hlen _ hsigM) hstack hdg
  obtain ⟨v, B, X', hpost, hsteps⟩ := hK m meth c ⟨T.setVm vm₁, locs, cells, slots⟩ { g with stack := rest } (.invokestatic index) mk argsL.toArray X₁ hg hsize hdg hW (X₁.named hnamed) (hpre vm₁ X₁.warmed)
  exact ⟨v, vm₁, B, X₁.warmed, X', hpost, fun target h => hstep₁ _ fun acts => by rw [doInvoke_state]; exact hsteps.trans h⟩
theorem vx_runSW {y : MethodName} {bytes cc : ByteArray} {maxL nL mc ms n index : Nat} {ret : Option FieldType} {hh : List (Nat × Nat × Nat × Nat)} {ws : List Cond} {rm : Room} {Pc : Array Value → State → Prop} {Qc : Array Value → State → Outcome → State → Prop} {free : Addr → Prop} {Ts : List Cond} {own : String} {As rest : List Value} {g : JFrame}
    (S : CallFix p m c cc nL s args Ts own) (hM : Met l y ws rm Pc Qc mc ms free) (cw : vx_CSW R s args own index y bytes maxL ret hh ws rm mc ms n) (hp : PreS s H Pc As)
    (hg : g.method = m) (hn : As.length = n) (hsize : g.locals.size = nL) (hstack : g.stack = As.reverse ++ rest) (hW : 2 * g.monitorRoom + (rest.map fun v => v.category).sum ≤ 8) (hdg : decode cc g.pc = .ok (.invokestatic index, 3)) (hf : cells + mc ≤ R.cells ∧ slots + ms ≤ R.slots) :
    va_Run p l e R s m args below meth c H locs cells slots mc ms g rest (Qc As.toArray) (free) := by
  obtain ⟨⟨hrc, hrs, hfr, hlo, hws, hcw⟩, hcode, hini, hy, hlen, hl, hstt⟩ := cw
  have hK : Back l R p e below s args y 3 8 (PreOf R mc ms Pc) (PostOf Qc mc ms free) := va_backW (hh := hh) (bytes := bytes) (maxL := maxL) (ret := ret) hM hp.1 hrc hrs hfr hlo hws hcw (fun a' U hW => word_at hW (Or.inl (by first | rfl | simp [Cond.onTables, Cond.keeps, Cond.steady])) hini)
  obtain ⟨hx, hb, hml, ho, -⟩ := S
  intro T hT X
  obtain ⟨v, vm₁, ⟨U', l2, c2, s2⟩, hW₁, X', ⟨g', mk, t, L, e1, e2, hq, h1, hL, h2, h3⟩, st⟩ := vx_callSW X hx (hh := hh) (bytes := bytes) (maxL := maxL) (ret := ret) ho hl hstt hini hcode hy hK hg (hsize.trans hml.symm) (argsL := As) (rest := rest) (fun sig h => hn.trans (hlen sig h)) hstack hW (by rw [hb]; exact hdg)
    (fun vm₁ hW₁ => ⟨hf.1, hf.2, hp.2 (T.setVm vm₁) hT hW₁⟩)
  dsimp only [Pt.U, Pt.locs, Pt.cells, Pt.slots] at X' e1 e2 h1 h2 h3 st
  subst h1; subst h2; subst h3
  exact ⟨v, (T.setVm vm₁).calling g' mk As.toArray, t, U', L, hT, X', hL, e1, e2, hq, st⟩
/-- not caught here, past rows that name other classes: it goes on to the caller -/
theorem vx_outP {p : Program} {l : Launch} {e : Env} {R : Room} {s : State} {m : MethodId} {args : Array Value} {below : List Frame} {meth : Method} {c : Code} {H : Heap} {locs : List Loc} {cells slots : Nat} {free : Addr → Prop} {ls : Array Slot} {rest : List Value} {Qc : Array Value → State → Outcome → State → Prop} {XC : String → State → State → Prop}
    {pc : Nat} {own E : String} {ce : Cell} {q : Addr} {mc ms : Nat} (hown : s.vm.findClass own = some m.cls) (hlocks : meth.locks = false)
    (hpass : ∀ z ∈ c.exceptionTable.toList, covers z pc = false ∨ (z.catchType ≠ 0 ∧ ∃ nm : String, (Cond.classLink own z.catchType nm).before args s = true ∧ va_Nc E nm s)) (hcell : H[q]? = some ce) (hv : ce.vm = .none) (hcl : s.vm.findClass E = some ce.cls)
    (hx : ∀ t : State, t.heap = H → s.vm.Alike t.vm → XC E s t) (hf : ∀ z ∈ locs, free z.base) (hc : cells ≤ mc) (hs : slots ≤ ms) :
    vx_W p l e R s m args below meth c H locs cells slots (vx_MQ below Qc XC args s mc ms free) (F0 m pc ls rest) q := by
  intro T hT X
  have hpl : e.platform.magicAccessors = ({} : Platform).magicAccessors := by rw [X.admits.platform]
  obtain ⟨vm', hW', X', st⟩ := X.outThrough hlocks q (g := F0 m pc ls rest) rfl rfl rfl (cell := ce) (by rw [hT]; exact hcell) (by rw [hv]; rfl)
    (by obtain ⟨k9, h9, -⟩ := Vm.findClass_spec hcl; exact ⟨k9, h9⟩) (fun z hz => by
      rcases hpass z hz with h | ⟨hz0, nm, hl1, hn1⟩
      · exact Or.inl h
      · obtain ⟨c6, hc6, hcl6⟩ := Cond.classLink_spec hown hl1 e.platform hpl
        obtain ⟨a8, b8, h1, h2, h3⟩ := hn1
        cases Option.some.inj (h1.symm.trans hcl)
        cases Option.some.inj (h2.symm.trans hc6)
        exact Or.inr ⟨hz0, _, hcl6, h3⟩)
  obtain ⟨g₀, hfr⟩ := X'.frames_eq
  have hcell9 : ((T.setVm vm').setFrames (.throwing q :: below)).heap[q]? = some ce := by
    show T.heap[q]? = some ce
    rw [hT]; exact hcell
  have hend : Ended ((T.setVm vm').setFrames (.throwing q :: below)) below (.threw q) := State.frames_setFrames _ (State.cur_lt_of_frames hfr)
  refine ⟨(T.setVm vm').setFrames (.throwing q :: below), ?_, .threw q, X'.here.running, hend, Or.inr ⟨q, rfl, E, ce, locs, hx _ hT (X'.ends _).1.alike, hcell9, hv, hcl, (X'.ends _).1, (X'.ends _).2.mono hc hs, hf⟩⟩
  rw [X.pushThrowing_eq]
  exact st
/-- a thing of a world lies in the heap -/
theorem vx_lt {D : va_G} {cl : List vw_C} {ws : va_W} {H1 : Heap} (h : va_P D cl ws H1) {k : Nat} {q : Nat × va_E} (hk : ws[k]? = some q) : q.1 < H1.size := (h k q hk).lt
end VXS
/-! ===== END ===== -/
/-! ===== BEGIN methods with a table of their own: called by a name, returning or throwing ===== -/
section VXH
/-! vx_backW, vx_callVX, vx_callSX, vx_callVW, vx_runVW, vx_runVX, vx_runSX, vx_ofWH follow the same proofs as their sisters above (Free/Laws.lean, Shelf42/LK1.lean); vx_outP calls Shelf42/NT130.lean (outThrough). -/
section
variable {l : Launch} {R : Room} {p : Program} {e : Env} {below : List Frame} {s : State} {sargs : Array Value} {y : MethodName} {len W9 : Nat}
theorem vx_backW {ws : List Cond} {rm : Room} {Pc : Array Value → State → Prop} {Qc : Array Value → State → Outcome → State → Prop} {XC : String → State → State → Prop} {mc ms : Nat} {free : Addr → Prop} {bytes : ByteArray} {maxL : Nat} {ret : Option FieldType} {hh : List (Nat × Nat × Nat × Nat)}
    (hM : vx_Met l y ws rm Pc Qc XC mc ms free) (hblind : FrameBlind Pc) (hrc : rm.cells = mc) (hrs : rm.slots = ms)
    (hframes : rm.frames + 1 ≤ R.frames) (hlocals : W9 + (maxL + 11) + rm.locals ≤ R.locals)
    (hws : ∀ w ∈ ws, ∀ a' U, s.WarmedH U.vm → w.before a' U = true) (hcode : Cond.codeWith y bytes maxL ret hh ∈ ws) (hinit : ∀ a' U, s.WarmedH U.vm → (Cond.initialized y.cls).before a' U = true) :
    vx_Back l R p e below s sargs y len W9 (PreOf R mc ms Pc) (PostOf Qc mc ms free) (vx_Post XC mc ms free) := by
  intro m meth c A g ig mk a X hg hsize hdg hW hn hp
  have h1 : (headSpec ws rm).pre.before a A.U = true := atoms_intro fun w hw => hws w hw _ _ X.warmed
  have h2 : (Cond.codeWith y bytes maxL ret hh).before a A.U = true := hws _ hcode _ _ X.warmed
  have h3 : (Cond.initialized y.cls).before a A.U = true := hinit _ _ X.warmed
  have h4 : A.cells + (headSpec ws rm).room.cells ≤ R.cells := by rw [show (headSpec ws rm).room.cells = mc from hrc]; exact hp.1
  have h5 : A.slots + (headSpec ws rm).room.slots ≤ R.slots := by rw [show (headSpec ws rm).room.slots = ms from hrs]; exact hp.2.1
  have hPc : Pc a (A.U.calling g mk a) := hblind _ _ _ _ hp.2.2
  obtain ⟨U, Ls, c0, s0⟩ := A
  dsimp only [Pt.U, Pt.locs, Pt.cells, Pt.slots] at h1 h2 h3 h4 h5 X hn hPc ⊢
  obtain ⟨m9, methY, cY, hn9, hmY, hcY, -, hlY, -⟩ := Cond.codeWith_spec h2
  cases Option.some.inj (hn9.symm.trans hn)
  obtain ⟨kY, hkY, -⟩ := className_of_methodNamed hn
  have hinitY : kY.init = .initialized := Cond.initialized_spec (findClass_of_methodNamed hn) hkY h3
  have h : At U g.method c below := by rw [hg]; exact X.here
  have hlocals9 : W9 + (maxL + 11) + (headSpec ws rm).room.locals ≤ R.locals := hlocals
  have happ : (headSpec ws rm).appliesLoose y e.platform (U.calling g mk a) = true :=
    Spec.appliesLoose_calling (g := g) h hdg hn hkY hinitY
      (X.room_calling (g := g) (R' := (headSpec ws rm).room) hsize hmY hcY hframes (by rw [hlY]; omega) h4 h5) h1
  obtain ⟨mid, hmid⟩ := h.above
  have hfr : (U.setTop g).frames = (.java g :: mid) ++ below := by rw [State.frames_setTop' g h.top, hmid]; rfl
  obtain ⟨o, s₂, hsteps, -, hend, hq⟩ := Steps.callFree hM p X.admits X.cas X.clock (acts := []) hfr happ hPc trivial
  have hq' : vx_Q Qc XC mc ms free a (U.calling g mk a) o s₂ := hq
  rw [State.frames_setTop' g h.top] at hend
  obtain ⟨g₀, hg0⟩ := Option.isSome_iff_exists.mp h.top
  obtain ⟨r, hr⟩ := State.topJava?_eq_some.mp hg0
  have hr' : (({ U with heap := s₂.heap, slotsUsed := s₂.slotsUsed } : State).setVm s₂.vm).frames = .java g₀ :: r := hr
  rcases hq' with ⟨hqc, L, hfe, hL⟩ | ⟨q, rfl, E, ce, L, hx, hce, hcv, hcl, hW₂, hsm, hL⟩
  · obtain ⟨⟨v, rfl⟩, hW₂, e2, q2, q3, q4, q5, q6⟩ := id hfe
    have e3 : s₂ = ({ (U.calling g mk a).setFrames s₂.frames with heap := s₂.heap, slotsUsed := s₂.slotsUsed } : State).setVm s₂.vm := by
      have : s₂ = ({ s₂ with vm := (U.calling g mk a).vm } : State).setVm s₂.vm := rfl
      rw [e2] at this
      exact this
    obtain ⟨c₂, i₂, len₂, hc₂, hd₂, hf₂⟩ := hend
    have hW' : U.WarmedH s₂.vm := hW₂
    have hcc : c₂ = c := by
      have h1 : s₂.code? g.method = U.code? g.method := by
        rw [State.code?_eq, State.code?_eq, hW'.alike.method?]
      exact Option.some.inj (hc₂.symm.trans (h1.trans h.code))
    subst hcc
    have hlen : len₂ = len := by rw [hdg] at hd₂; cases hd₂; rfl
    subst hlen
    have hs₂ : s₂ = (({ U with heap := s₂.heap, slotsUsed := s₂.slotsUsed } : State).setVm s₂.vm).setTop { g with pc := g.pc + len₂, stack := v.toList ++ g.stack } := by
      refine e3.trans ?_
      rw [hf₂, State.calling_eq h.top, State.setFrames_setFrames, State.setTop_of_frames _ hr', hr]
      rfl
    have hsame : U.sameButNew ({ U with heap := s₂.heap, slotsUsed := s₂.slotsUsed } : State) L mc ms := by
      refine ⟨?_, q2, q3, q4, q5, q6⟩
      obtain ⟨t, ht, -⟩ := State.frames_cons hr
      show ({ U with heap := s₂.heap, slotsUsed := s₂.slotsUsed } : State) = { U.setFrames U.frames with heap := s₂.heap, slotsUsed := s₂.slotsUsed }
      rw [State.setFrames_self ht]
    subst hg
    refine Or.inl ⟨v, ⟨(({ U with heap := s₂.heap, slotsUsed := s₂.slotsUsed } : State).setVm s₂.vm), Ls ++ L, c0 + mc, s0 + ms⟩,
      ⟨X.admits, X.cas, X.clock, X.frames, X.room, X.hears, X.method, X.code, (X.here.setHeapUsed s₂.heap s₂.slotsUsed).setVm hW'.alike, X.tail, State.WarmedH.trans X.warmed hW', X.limits, X.bytes, X.same.trans (hsame.setVm s.vm)⟩,
      ⟨g, mk, s₂, L, rfl, rfl, hqc, rfl, hL, rfl, rfl⟩, ?_⟩
    show Steps p.tables e below _ ((({ U with heap := s₂.heap, slotsUsed := s₂.slotsUsed } : State).setVm s₂.vm).setTop { g with pc := g.pc + len₂, stack := v.toList ++ g.stack })
    rw [← hs₂]
    exact hsteps
  · obtain ⟨e2, q2, q3, q4, q5, q6⟩ := id hsm
    have e3 : s₂ = ({ (U.calling g mk a).setFrames s₂.frames with heap := s₂.heap, slotsUsed := s₂.slotsUsed } : State).setVm s₂.vm := by
      have : s₂ = ({ s₂ with vm := (U.calling g mk a).vm } : State).setVm s₂.vm := rfl
      rw [e2] at this
      exact this
    have hf₂ : s₂.frames = .throwing q :: .java g :: U.frames.tail := hend
    have hW' : U.WarmedH s₂.vm := hW₂
    have hs₂ : s₂ = ((({ U with heap := s₂.heap, slotsUsed := s₂.slotsUsed } : State).setVm s₂.vm).setTop g).pushFrame (.throwing q) := by
      refine e3.trans ?_
      rw [hf₂, State.calling_eq h.top, State.setFrames_setFrames, State.pushFrame, State.frames_setTop _ hr', State.setTop_of_frames _ hr', State.setFrames_setFrames, hr]
      rfl
    have hsame : U.sameButNew ({ U with heap := s₂.heap, slotsUsed := s₂.slotsUsed } : State) L mc ms := by
      refine ⟨?_, q2, q3, q4, q5, q6⟩
      obtain ⟨t, ht, -⟩ := State.frames_cons hr
      show ({ U with heap := s₂.heap, slotsUsed := s₂.slotsUsed } : State) = { U.setFrames U.frames with heap := s₂.heap, slotsUsed := s₂.slotsUsed }
      rw [State.setFrames_self ht]
    subst hg
    refine Or.inr ⟨q, ⟨(({ U with heap := s₂.heap, slotsUsed := s₂.slotsUsed } : State).setVm s₂.vm), Ls ++ L, c0 + mc, s0 + ms⟩,
      ⟨X.admits, X.cas, X.clock, X.frames, X.room, X.hears, X.method, X.code, (X.here.setHeapUsed s₂.heap s₂.slotsUsed).setVm hW'.alike, X.tail, State.WarmedH.trans X.warmed hW', X.limits, X.bytes, X.same.trans (hsame.setVm s.vm)⟩,
      ⟨g, mk, s₂, L, E, ce, rfl, rfl, hx, hce, hcv, hcl, rfl, hL, rfl, rfl⟩, ?_⟩
    show Steps p.tables e below _ (((({ U with heap := s₂.heap, slotsUsed := s₂.slotsUsed } : State).setVm s₂.vm).setTop g).pushFrame (.throwing q))
    rw [← hs₂]
    exact hsteps
end
variable {p : Program} {l : Launch} {e : Env} {R : Room} {s : State} {m : MethodId} {args : Array Value} {below : List Frame} {meth : Method} {c : Code} {T : State} {H : Heap} {locs : List Loc} {cells slots : Nat}
theorem vx_callVX (X : Stand p l e R s m args below meth c T locs cells slots) (hexec : p.tables.exec = Jvm.exec) {own C : String} {index : Nat} {y : MethodName} {bytes : ByteArray} {maxL : Nat} {ret : Option FieldType} {hh : List (Nat × Nat × Nat × Nat)}
    (hown : s.vm.findClass own = some m.cls) (hlink : (Cond.methodLink own index y).before args s = true) (hinst : (Cond.instanceMethod y).before args s = true) (hsel : (Cond.selects C y y).before args s = true)
    (hcode : (Cond.codeWith y bytes maxL ret hh).before args s = true) (hy : y.cls ≠ "java/lang/invoke/MethodHandle" ∧ y.cls ≠ "java/lang/invoke/VarHandle")
    {W9 : Nat} {Pre : Pt → Array Value → Prop} {Post : Pt → Array Value → Option Value → Pt → Prop} {PostX : Pt → Array Value → Addr → Pt → Prop} (hK : vx_Back l R p e below s args y 3 W9 Pre Post PostX)
    {b : Addr} {cellB : Cell} (hcell : T.heap[b]? = some cellB) (hobj : cellB.vm.isStatics = false) (hcls : s.vm.findClass C = some cellB.cls)
    {g : JFrame} (hg : g.method = m) (hsize : g.locals.size = c.maxLocals) {argsL rest : List Value} (hlen : ∀ sig, parseMethodDescriptor y.desc = some sig → argsL.length = sig.parameters.length)
    (hstack : g.stack = argsL.reverse ++ .ref b :: rest) (hW : 2 * g.monitorRoom + (rest.map fun v => v.category).sum ≤ W9) (hdg : decode c.code g.pc = .ok (.invokevirtual index, 3))
    (hpre : ∀ vm₁, s.WarmedH vm₁ → Pre ⟨T.setVm vm₁, locs, cells, slots⟩ (Value.ref b :: argsL).toArray) :
    (∃ (v : Option Value) (vm₁ : Vm) (B : Pt), s.WarmedH vm₁ ∧ Stand p l e R s m args below meth c B.U B.locs B.cells B.slots ∧ Post ⟨T.setVm vm₁, locs, cells, slots⟩ (Value.ref b :: argsL).toArray v B ∧
      ∀ target, Steps p.tables e below (B.U.setTop { g with pc := g.pc + 3, stack := v.toList ++ rest }) target → Steps p.tables e below (T.setTop g) target) ∨
    (∃ (q : Addr) (vm₁ : Vm) (B : Pt), s.WarmedH vm₁ ∧ Stand p l e R s m args below meth c B.U B.locs B.cells B.slots ∧ PostX ⟨T.setVm vm₁, locs, cells, slots⟩ (Value.ref b :: argsL).toArray q B ∧
      Steps p.tables e below (T.setTop g) ((B.U.setTop { g with stack := rest }).pushFrame (.throwing q))) := by
  obtain ⟨mk, methM, hnamed, hmethM, hstM, habM⟩ := Cond.instanceMethod_spec hinst
  obtain ⟨m8, methM', cM, hn8, hmethM', -, -, -, -, -, -, hsigM⟩ := Cond.codeWith_spec hcode
  cases Option.some.inj (hn8.symm.trans hnamed)
  cases hmethM.symm.trans hmethM'
  obtain ⟨c2, r2, m2, q1, q2, q3, q4, kP, hkP, hkPi⟩ := Cond.selects_spec hsel
  cases hcls.symm.trans q1
  cases (State.methodFound?_of_named hnamed hy).symm.trans q2
  cases hnamed.symm.trans q3
  have hselP : selectMethod e.platform s.vm cellB.cls mk = .method mk := by rw [Launch.admits_selectMethod X.admits]; exact q4
  obtain ⟨vm₁, X₁, hstep₁⟩ := X.invokevirtual hexec hown hlink hnamed hmethM hstM hkP hkPi hy (a := b) (cell := cellB) hcell
    (fun z h => by rw [h] at hobj; cases hobj) hselP hmethM habM hkP hkPi (g := g) hg (argsL := argsL) (rest := rest) (hlen _ hsigM) hstack hdg
  rcases hK m meth c ⟨T.setVm vm₁, locs, cells, slots⟩ { g with stack := rest } (.invokevirtual index) mk (Value.ref b :: argsL).toArray X₁ hg hsize hdg hW (X₁.named hnamed) (hpre vm₁ X₁.warmed) with ⟨v, B, X', hpost, hsteps⟩ | ⟨q, B, X', hpost, hsteps⟩
  · exact Or.inl ⟨v, vm₁, B, X₁.warmed, X', hpost, fun target h => hstep₁ _ fun acts => by rw [doInvoke_state]; exact hsteps.trans h⟩
  · exact Or.inr ⟨q, vm₁, B, X₁.warmed, X', hpost, hstep₁ _ fun acts => by rw [doInvoke_state]; exact hsteps⟩
theorem vx_callSX (X : Stand p l e R s m args below meth c T locs cells slots) (hexec : p.tables.exec = Jvm.exec) {own : String} {index : Nat} {y : MethodName} {bytes : ByteArray} {maxL : Nat} {ret : Option FieldType} {hh : List (Nat × Nat × Nat × Nat)}
    (hown : s.vm.findClass own = some m.cls) (hlink : (Cond.methodLink own index y).before args s = true) (hstat : (Cond.static y).before args s = true) (hinit : (Cond.initialized y.cls).before args s = true)
    (hcode : (Cond.codeWith y bytes maxL ret hh).before args s = true) (hy : y.cls ≠ "java/lang/invoke/MethodHandle" ∧ y.cls ≠ "java/lang/invoke/VarHandle")
    {W9 : Nat} {Pre : Pt → Array Value → Prop} {Post : Pt → Array Value → Option Value → Pt → Prop} {PostX : Pt → Array Value → Addr → Pt → Prop} (hK : vx_Back l R p e below s args y 3 W9 Pre Post PostX)
    {g : JFrame} (hg : g.method = m) (hsize : g.locals.size = c.maxLocals) {argsL rest : List Value} (hlen : ∀ sig, parseMethodDescriptor y.desc = some sig → argsL.length = sig.parameters.length)
    (hstack : g.stack = argsL.reverse ++ rest) (hW : 2 * g.monitorRoom + (rest.map fun v => v.category).sum ≤ W9) (hdg : decode c.code g.pc = .ok (.invokestatic index, 3))
    (hpre : ∀ vm₁, s.WarmedH vm₁ → Pre ⟨T.setVm vm₁, locs, cells, slots⟩ argsL.toArray) :
    (∃ (v : Option Value) (vm₁ : Vm) (B : Pt), s.WarmedH vm₁ ∧ Stand p l e R s m args below meth c B.U B.locs B.cells B.slots ∧ Post ⟨T.setVm vm₁, locs, cells, slots⟩ argsL.toArray v B ∧
      ∀ target, Steps p.tables e below (B.U.setTop { g with pc := g.pc + 3, stack := v.toList ++ rest }) target → Steps p.tables e below (T.setTop g) target) ∨
    (∃ (q : Addr) (vm₁ : Vm) (B : Pt), s.WarmedH vm₁ ∧ Stand p l e R s m args below meth c B.U B.locs B.cells B.slots ∧ PostX ⟨T.setVm vm₁, locs, cells, slots⟩ argsL.toArray q B ∧
      Steps p.tables e below (T.setTop g) ((B.U.setTop { g with stack := rest }).pushFrame (.throwing q))) := by
  obtain ⟨mk, methM, cM, hnamed, hmethM, -, -, -, -, -, -, hsigM⟩ := Cond.codeWith_spec hcode
  have hstatic : methM.isStatic = true := Cond.static_spec hnamed hmethM hstat
  obtain ⟨kP, hkP, -⟩ := className_of_methodNamed hnamed
  have hinitP : kP.init = .initialized := Cond.initialized_spec (findClass_of_methodNamed hnamed) hkP hinit
  obtain ⟨vm₁, X₁, hstep₁⟩ := X.invokestatic hexec hown hlink hnamed hmethM hstatic hkP hinitP hy (g := g) hg (argsL := argsL) (rest := rest) (hlen _ hsigM) hstack hdg
  rcases hK m meth c ⟨T.setVm vm₁, locs, cells, slots⟩ { g with stack := rest } (.invokestatic index) mk argsL.toArray X₁ hg hsize hdg hW (X₁.named hnamed) (hpre vm₁ X₁.warmed) with ⟨v, B, X', hpost, hsteps⟩ | ⟨q, B, X', hpost, hsteps⟩
  · exact Or.inl ⟨v, vm₁, B, X₁.warmed, X', hpost, fun target h => hstep₁ _ fun acts => by rw [doInvoke_state]; exact hsteps.trans h⟩
  · exact Or.inr ⟨q, vm₁, B, X₁.warmed, X', hpost, hstep₁ _ fun acts => by rw [doInvoke_state]; exact hsteps⟩
theorem vx_callVW (X : Stand p l e R s m args below meth c T locs cells slots) (hexec : p.tables.exec = Jvm.exec) {own C : String} {index : Nat} {y : MethodName} {bytes : ByteArray} {maxL : Nat} {ret : Option FieldType} {hh : List (Nat × Nat × Nat × Nat)}
    (hown : s.vm.findClass own = some m.cls) (hlink : (Cond.methodLink own index y).before args s = true) (hinst : (Cond.instanceMethod y).before args s = true) (hsel : (Cond.selects C y y).before args s = true)
    (hcode : (Cond.codeWith y bytes maxL ret hh).before args s = true) (hy : y.cls ≠ "java/lang/invoke/MethodHandle" ∧ y.cls ≠ "java/lang/invoke/VarHandle")
    {W9 : Nat} {Pre : Pt → Array Value → Prop} {Post : Pt → Array Value → Option Value → Pt → Prop} (hK : Back l R p e below s args y 3 W9 Pre Post)
    {b : Addr} {cellB : Cell} (hcell : T.heap[b]? = some cellB) (hobj : cellB.vm.isStatics = false) (hcls : s.vm.findClass C = some cellB.cls)
    {g : JFrame} (hg : g.method = m) (hsize : g.locals.size = c.maxLocals) {argsL rest : List Value} (hlen : ∀ sig, parseMethodDescriptor y.desc = some sig → argsL.length = sig.parameters.length)
    (hstack : g.stack = argsL.reverse ++ .ref b :: rest) (hW : 2 * g.monitorRoom + (rest.map fun v => v.category).sum ≤ W9) (hdg : decode c.code g.pc = .ok (.invokevirtual index, 3))
    (hpre : ∀ vm₁, s.WarmedH vm₁ → Pre ⟨T.setVm vm₁, locs, cells, slots⟩ (Value.ref b :: argsL).toArray) :
    ∃ (v : Option Value) (vm₁ : Vm) (B : Pt), s.WarmedH vm₁ ∧ Stand p l e R s m args below meth c B.U B.locs B.cells B.slots ∧ Post ⟨T.setVm vm₁, locs, cells, slots⟩ (Value.ref b :: argsL).toArray v B ∧
      ∀ target, Steps p.tables e below (B.U.setTop { g with pc := g.pc + 3, stack := v.toList ++ rest }) target → Steps p.tables e below (T.setTop g) target := by
  obtain ⟨mk, methM, hnamed, hmethM, hstM, habM⟩ := Cond.instanceMethod_spec hinst
  obtain ⟨m8, methM', cM, hn8, hmethM', -, -, -, -, -, -, hsigM⟩ := Cond.codeWith_spec hcode
  cases Option.some.inj (hn8.symm.trans hnamed)
  cases hmethM.symm.trans hmethM'
  obtain ⟨c2, r2, m2, q1, q2, q3, q4, kP, hkP, hkPi⟩ := Cond.selects_spec hsel
  cases hcls.symm.trans q1
  cases (State.methodFound?_of_named hnamed hy).symm.trans q2
  cases hnamed.symm.trans q3
  have hselP : selectMethod e.platform s.vm cellB.cls mk = .method mk := by rw [Launch.admits_selectMethod X.admits]; exact q4
  obtain ⟨vm₁, X₁, hstep₁⟩ := X.invokevirtual hexec hown hlink hnamed hmethM hstM hkP hkPi hy (a := b) (cell := cellB) hcell
    (fun z h => by rw [h] at hobj; cases hobj) hselP hmethM habM hkP hkPi (g := g) hg (argsL := argsL) (rest := rest) (hlen _ hsigM) hstack hdg
  obtain ⟨v, B, X', hpost, hsteps⟩ := hK m meth c ⟨T.setVm vm₁, locs, cells, slots⟩ { g with stack := rest } (.invokevirtual index) mk (Value.ref b :: argsL).toArray X₁ hg hsize hdg hW (X₁.named hnamed) (hpre vm₁ X₁.warmed)
  exact ⟨v, vm₁, B, X₁.warmed, X', hpost, fun target h => hstep₁ _ fun acts => by rw [doInvoke_state]; exact hsteps.trans h⟩
abbrev vx_CVW (R : Room) (s : State) (args : Array Value) (own C : String) (index : Nat) (y : MethodName) (bytes : ByteArray) (maxL : Nat) (ret : Option FieldType) (hh : List (Nat × Nat × Nat × Nat)) (ws : List Cond) (rm : Room) (mc ms n : Nat) : Prop :=
  (rm.cells = mc ∧ rm.slots = ms ∧ rm.frames + 1 ≤ R.frames ∧ 8 + (maxL + 11) + rm.locals ≤ R.locals ∧ (∀ w ∈ ws, ∀ (a' : Array Value) (U : State), s.WarmedH U.vm → w.before a' U = true) ∧ Cond.codeWith y bytes maxL ret hh ∈ ws) ∧
  (Cond.codeWith y bytes maxL ret hh).before args s = true ∧ (Cond.initialized y.cls).before args s = true ∧ (y.cls ≠ "java/lang/invoke/MethodHandle" ∧ y.cls ≠ "java/lang/invoke/VarHandle") ∧
  (∀ sig, parseMethodDescriptor y.desc = some sig → n = sig.parameters.length) ∧ (Cond.methodLink own index y).before args s = true ∧ (Cond.instanceMethod y).before args s = true ∧ (Cond.selects C y y).before args s = true
theorem vx_cwVW {own C : String} {index maxL mc ms : Nat} {y : MethodName} {bytes : ByteArray} {ret : Option FieldType} {hh : List (Nat × Nat × Nat × Nat)} {Ts ws ws' : List Cond} {rm : Room} (n : Nat) (ht : ∀ w ∈ Ts, w.before args s = true) (hT : GoodIn Ts (wsV own index C y ws)) (hw : ws = Cond.codeWith y bytes maxL ret hh :: ws') (hrc : rm.cells = mc) (hrs : rm.slots = ms)
    (hd : y.cls = C ∧ y.cls ≠ "java/lang/invoke/MethodHandle" ∧ y.cls ≠ "java/lang/invoke/VarHandle" ∧ (parseMethodDescriptor y.desc).map (fun d => d.parameters.length) = some n) (hR : rm.frames + 1 ≤ R.frames ∧ 8 + (maxL + 11) + rm.locals ≤ R.locals) :
    vx_CVW R s args own C index y bytes maxL ret hh ws rm mc ms n := by
  obtain ⟨hC, hd⟩ := hd
  subst hC
  have ok : ∀ w ∈ wsV own index y.cls y ws, w.before args s = true := fun w h => ht w (hT w h).1
  have hG : GoodIn Ts ws := fun w h => hT w (by unfold wsV; exact List.mem_append_right _ h)
  have hc : Cond.codeWith y bytes maxL ret hh ∈ ws := by rw [hw]; exact List.mem_cons_self
  refine ⟨⟨hrc, hrs, hR.1, hR.2, pay_in ht hG, hc⟩, ht _ (hG _ hc).1, ok _ (by simp [wsV]), ⟨hd.1, hd.2.1⟩, fun sig h => ?_, ok _ (by simp [wsV]), ok _ (by simp [wsV]), ok _ (by simp [wsV])⟩
  have h2 := hd.2.2
  rw [h] at h2
  exact (Option.some.inj h2).symm
theorem vx_runVW {y : MethodName} {bytes cc : ByteArray} {maxL nL mc ms n index : Nat} {ret : Option FieldType} {hh : List (Nat × Nat × Nat × Nat)} {ws : List Cond} {rm : Room} {Pc : Array Value → State → Prop} {Qc : Array Value → State → Outcome → State → Prop} {free : Addr → Prop} {Ts : List Cond} {own C : String} {b : Addr} {As rest : List Value} {g : JFrame}
    (S : CallFix p m c cc nL s args Ts own) (hM : Met l y ws rm Pc Qc mc ms free) (cw : vx_CVW R s args own C index y bytes maxL ret hh ws rm mc ms n) (hp : PreV s H C b Pc As)
    (hg : g.method = m) (hn : As.length = n) (hsize : g.locals.size = nL) (hstack : g.stack = As.reverse ++ .ref b :: rest) (hW : 2 * g.monitorRoom + (rest.map fun v => v.category).sum ≤ 8) (hdg : decode cc g.pc = .ok (.invokevirtual index, 3)) (hf : cells + mc ≤ R.cells ∧ slots + ms ≤ R.slots) :
    va_Run p l e R s m args below meth c H locs cells slots mc ms g rest (Qc (Value.ref b :: As).toArray) free := by
  obtain ⟨⟨hrc, hrs, hfr, hlo, hws, hcw⟩, hcode, hini, hy, hlen, hl, hin, hse⟩ := cw
  have hK : Back l R p e below s args y 3 8 (PreOf R mc ms Pc) (PostOf Qc mc ms free) := va_backW (hh := hh) (bytes := bytes) (maxL := maxL) (ret := ret) hM hp.1 hrc hrs hfr hlo hws hcw (fun a' U hW => word_at hW (Or.inl (by first | rfl | simp [Cond.onTables, Cond.keeps, Cond.steady])) hini)
  obtain ⟨hx, hb, hml, ho, -⟩ := S
  obtain ⟨-, ⟨cellB, hcB, hoB, hclB⟩, hPc⟩ := hp
  intro T hT X
  obtain ⟨v, vm₁, ⟨U', l2, c2, s2⟩, hW₁, X', ⟨g', mk, t, L, e1, e2, hq, h1, hL, h2, h3⟩, st⟩ := vx_callVW X hx (C := C) (hh := hh) (bytes := bytes) (maxL := maxL) (ret := ret) ho hl hin hse hcode hy hK (by rw [hT]; exact hcB) hoB hclB hg (hsize.trans hml.symm) (argsL := As) (rest := rest) (fun sig h => hn.trans (hlen sig h)) hstack hW (by rw [hb]; exact hdg)
    (fun vm₁ hW₁ => ⟨hf.1, hf.2, hPc (T.setVm vm₁) hT hW₁⟩)
  dsimp only [Pt.U, Pt.locs, Pt.cells, Pt.slots] at X' e1 e2 h1 h2 h3 st
  subst h1; subst h2; subst h3
  exact ⟨v, (T.setVm vm₁).calling g' mk (Value.ref b :: As).toArray, t, U', L, hT, X', hL, e1, e2, hq, st⟩
section
variable {y : MethodName} {bytes cc : ByteArray} {maxL nL mc ms n index : Nat} {ret : Option FieldType} {ws : List Cond} {rm : Room} {Pc : Array Value → State → Prop} {Qc : Array Value → State → Outcome → State → Prop} {XC : String → State → State → Prop} {free : Addr → Prop} {Ts : List Cond} {own C : String} {b : Addr} {As rest : List Value} {g : JFrame}
theorem vx_runVX {hh : List (Nat × Nat × Nat × Nat)} (S : CallFix p m c cc nL s args Ts own) (hM : vx_Met l y ws rm Pc Qc XC mc ms free) (cw : vx_CVW R s args own C index y bytes maxL ret hh ws rm mc ms n) (hp : PreV s H C b Pc As)
    (hg : g.method = m) (hn : As.length = n) (hsize : g.locals.size = nL) (hstack : g.stack = As.reverse ++ .ref b :: rest) (hW : 2 * g.monitorRoom + (rest.map fun v => v.category).sum ≤ 8) (hdg : decode cc g.pc = .ok (.invokevirtual index, 3)) (hf : cells + mc ≤ R.cells ∧ slots + ms ≤ R.slots) :
    vx_Run p l e R s m args below meth c H locs cells slots mc ms g rest (Qc (Value.ref b :: As).toArray) XC free := by
  obtain ⟨⟨hrc, hrs, hfr, hlo, hws, hcw⟩, hcode, hini, hy, hlen, hl, hin, hse⟩ := cw
  have hK : vx_Back l R p e below s args y 3 8 (PreOf R mc ms Pc) (PostOf Qc mc ms free) (vx_Post XC mc ms free) := vx_backW (hh := hh) (bytes := bytes) (maxL := maxL) (ret := ret) hM hp.1 hrc hrs hfr hlo hws hcw (fun a' U hW => word_at hW (Or.inl (by first | rfl | simp [Cond.onTables, Cond.keeps, Cond.steady])) hini)
  obtain ⟨hx, hb, hml, ho, -⟩ := S
  obtain ⟨-, ⟨cellB, hcB, hoB, hclB⟩, hPc⟩ := hp
  intro T hT X
  rcases vx_callVX X hx (C := C) (hh := hh) (bytes := bytes) (maxL := maxL) (ret := ret) ho hl hin hse hcode hy hK (by rw [hT]; exact hcB) hoB hclB hg (hsize.trans hml.symm) (argsL := As) (rest := rest) (fun sig h => hn.trans (hlen sig h)) hstack hW (by rw [hb]; exact hdg)
    (fun vm₁ hW₁ => ⟨hf.1, hf.2, hPc (T.setVm vm₁) hT hW₁⟩) with ⟨v, vm₁, ⟨U', l2, c2, s2⟩, hW₁, X', ⟨g', mk, t, L, e1, e2, hq, h1, hL, h2, h3⟩, st⟩ | ⟨q, vm₁, ⟨U', l2, c2, s2⟩, hW₁, X', ⟨g', mk, t, L, E, ce, e1, e2, hq, hce, hcv, hcl, h1, hL, h2, h3⟩, st⟩
  · dsimp only [Pt.U, Pt.locs, Pt.cells, Pt.slots] at X' e1 e2 h1 h2 h3 st
    subst h1; subst h2; subst h3
    exact Or.inl ⟨v, (T.setVm vm₁).calling g' mk (Value.ref b :: As).toArray, t, U', L, hT, X', hL, e1, e2, hq, st⟩
  · dsimp only [Pt.U, Pt.locs, Pt.cells, Pt.slots] at X' e1 e2 h1 h2 h3 st hcl
    subst h1; subst h2; subst h3
    exact Or.inr ⟨q, (T.setVm vm₁).calling g' mk (Value.ref b :: As).toArray, t, U', L, E, ce, hT, X', hL, e1, e2, hq, hce, hcv, vx_cls hW₁ hcl, st⟩
theorem vx_runSX {hh : List (Nat × Nat × Nat × Nat)} (S : CallFix p m c cc nL s args Ts own) (hM : vx_Met l y ws rm Pc Qc XC mc ms free) (cw : vx_CSW R s args own index y bytes maxL ret hh ws rm mc ms n) (hp : PreS s H Pc As)
    (hg : g.method = m) (hn : As.length = n) (hsize : g.locals.size = nL) (hstack : g.stack = As.reverse ++ rest) (hW : 2 * g.monitorRoom + (rest.map fun v => v.category).sum ≤ 8) (hdg : decode cc g.pc = .ok (.invokestatic index, 3)) (hf : cells + mc ≤ R.cells ∧ slots + ms ≤ R.slots) :
    vx_Run p l e R s m args below meth c H locs cells slots mc ms g rest (Qc As.toArray) XC free := by
  obtain ⟨⟨hrc, hrs, hfr, hlo, hws, hcw⟩, hcode, hini, hy, hlen, hl, hstt⟩ := cw
  have hK : vx_Back l R p e below s args y 3 8 (PreOf R mc ms Pc) (PostOf Qc mc ms free) (vx_Post XC mc ms free) := vx_backW (hh := hh) (bytes := bytes) (maxL := maxL) (ret := ret) hM hp.1 hrc hrs hfr hlo hws hcw (fun a' U hW => word_at hW (Or.inl (by first | rfl | simp [Cond.onTables, Cond.keeps, Cond.steady])) hini)
  obtain ⟨hx, hb, hml, ho, -⟩ := S
  intro T hT X
  rcases vx_callSX X hx (hh := hh) (bytes := bytes) (maxL := maxL) (ret := ret) ho hl hstt hini hcode hy hK hg (hsize.trans hml.symm) (argsL := As) (rest := rest) (fun sig h => hn.trans (hlen sig h)) hstack hW (by rw [hb]; exact hdg)
    (fun vm₁ hW₁ => ⟨hf.1, hf.2, hp.2 (T.setVm vm₁) hT hW₁⟩) with ⟨v, vm₁, ⟨U', l2, c2, s2⟩, hW₁, X', ⟨g', mk, t, L, e1, e2, hq, h1, hL, h2, h3⟩, st⟩ | ⟨q, vm₁, ⟨U', l2, c2, s2⟩, hW₁, X', ⟨g', mk, t, L, E, ce, e1, e2, hq, hce, hcv, hcl, h1, hL, h2, h3⟩, st⟩
  · dsimp only [Pt.U, Pt.locs, Pt.cells, Pt.slots] at X' e1 e2 h1 h2 h3 st
    subst h1; subst h2; subst h3
    exact Or.inl ⟨v, (T.setVm vm₁).calling g' mk As.toArray, t, U', L, hT, X', hL, e1, e2, hq, st⟩
  · dsimp only [Pt.U, Pt.locs, Pt.cells, Pt.slots] at X' e1 e2 h1 h2 h3 st hcl
    subst h1; subst h2; subst h3
    exact Or.inr ⟨q, (T.setVm vm₁).calling g' mk As.toArray, t, U', L, E, ce, hT, X', hL, e1, e2, hq, hce, hcv, vx_cls hW₁ hcl, st⟩
end
end VXH
theorem vx_ofWH {l : Launch} {y : MethodName} {ws ws' : List Cond} {rm : Room} {Pc : Array Value → State → Prop} {Qc : Array Value → State → Outcome → State → Prop} {XC : String → State → State → Prop} {mc ms : Nat} {free : Addr → Prop} {cc : ByteArray} {maxL : Nat} {ret : Option FieldType} {hh : List (Nat × Nat × Nat × Nat)}
    (hy : plainName y.cls = true) (hw : ws = Cond.codeWith y cc maxL ret hh :: ws')
    (body : ∀ p e s m args below meth c s₁, BodyLoose p l y (headSpec ws rm) cc maxL ret e s m args below meth c s₁ → c.maxLocals = maxL → Pc args s →
      W p l e (headSpec ws rm).room s m args below meth c s.heap [] 0 0 (vx_MQ below Qc XC args s mc ms free) (entryFrame m args maxL)) : vx_Met l y ws rm Pc Qc XC mc ms free := by
  refine MetFree.of_bodyS (code := cc) (maxLocals := maxL) (ret := ret) hy ?_ ?_
  · intro args s m h hn
    obtain ⟨m9, meth, c, hn9, h1, h2, h3, h4, -, h5, h6, -⟩ := Cond.codeWith_spec (atoms_spec (ws := ws) h _ (by rw [hw]; exact List.mem_cons_self))
    cases hn.symm.trans hn9
    exact ⟨meth, c, h1, h2, h3, h4, h5, h6⟩
  · intro p e s m args below meth c s₁ B hml hP _
    have hh0 : s₁.heap = s.heap := by rw [B.state]; rfl
    obtain ⟨t, a1, o, b1, b2, b3⟩ := body p e s m args below meth c s₁ B hml hP s₁ hh0 (Stand.of_body B)
    exact ⟨t, o, a1, b1, b2, b3⟩
/-! ===== END ===== -/
end
section
/-! my own names, written by program out of the Statement: words by their places, classes, methods, links -/
def rk_tbl : List Cond := lw_tbl.filter goodWord
theorem rk_good (w : Cond) (h : w ∈ rk_tbl) : (w.onTables && w.keeps) = true ∨ ∃ ty, w = .arrayClass ty := good_of_word (List.mem_filter.mp h).2
theorem in_t1 {w : Cond} (i : Nat) (h : tables_1_1[i]? = some w) (g : goodWord w = true) : w ∈ rk_tbl := by
  have q := List.mem_of_getElem? h
  exact List.mem_filter.mpr ⟨List.mem_append_right _ (show w ∈ tables_1_1 ++ (tables_1_2 ++ (tables_1_3 ++ (tables_1_4 ++ tables_1_5))) from List.mem_append_left _ q), g⟩
theorem in_t2 {w : Cond} (i : Nat) (h : tables_1_2[i]? = some w) (g : goodWord w = true) : w ∈ rk_tbl := by
  have q := List.mem_of_getElem? h
  exact List.mem_filter.mpr ⟨List.mem_append_right _ (show w ∈ tables_1_1 ++ (tables_1_2 ++ (tables_1_3 ++ (tables_1_4 ++ tables_1_5))) from List.mem_append_right _ (List.mem_append_left _ q)), g⟩
theorem in_t3 {w : Cond} (i : Nat) (h : tables_1_3[i]? = some w) (g : goodWord w = true) : w ∈ rk_tbl := by
  have q := List.mem_of_getElem? h
  exact List.mem_filter.mpr ⟨List.mem_append_right _ (show w ∈ tables_1_1 ++ (tables_1_2 ++ (tables_1_3 ++ (tables_1_4 ++ tables_1_5))) from List.mem_append_right _ (List.mem_append_right _ (List.mem_append_left _ q))), g⟩
theorem in_t4 {w : Cond} (i : Nat) (h : tables_1_4[i]? = some w) (g : goodWord w = true) : w ∈ rk_tbl := by
  have q := List.mem_of_getElem? h
  exact List.mem_filter.mpr ⟨List.mem_append_right _ (show w ∈ tables_1_1 ++ (tables_1_2 ++ (tables_1_3 ++ (tables_1_4 ++ tables_1_5))) from List.mem_append_right _ (List.mem_append_right _ (List.mem_append_right _ (List.mem_append_left _ q)))), g⟩
theorem in_t5 {w : Cond} (i : Nat) (h : tables_1_5[i]? = some w) (g : goodWord w = true) : w ∈ rk_tbl := by
  have q := List.mem_of_getElem? h
  exact List.mem_filter.mpr ⟨List.mem_append_right _ (show w ∈ tables_1_1 ++ (tables_1_2 ++ (tables_1_3 ++ (tables_1_4 ++ tables_1_5))) from List.mem_append_right _ (List.mem_append_right _ (List.mem_append_right _ (List.mem_append_right _ q)))), g⟩
theorem in_tp {w : Cond} (i : Nat) (h : (k2_sels lw_privs)[i]? = some w) (g : goodWord w = true) : w ∈ rk_tbl := List.mem_filter.mpr ⟨List.mem_append_left _ (List.mem_of_getElem? h), g⟩
def ttG : u_T := fun k => match k with
  | 0 => ("TensorForge$Graph", "nodes", "[LTensorForge$Node;", true)
  | 1 => ("TensorForge$Graph", "standsFor", "[I", true)
  | 2 => ("TensorForge$Graph", "state", "[I", true)
  | 3 => ("TensorForge$Graph", "step", "[I", true)
  | 4 => ("TensorForge$Graph", "place", "[I", true)
  | 5 => ("TensorForge$Graph", "count", "I", false)
  | 6 => ("TensorForge$Graph", "steps", "I", false)
  | 7 => ("TensorForge$Graph", "peak", "I", false)
  | _ => ("TensorForge$Graph", "lastStep", "[I", true)
def tyG : Nat → FieldType := fun k => match k with
  | 0 => (.array (.object "TensorForge$Node"))
  | 1 => (.array .int)
  | 2 => (.array .int)
  | 3 => (.array .int)
  | 4 => (.array .int)
  | 5 => .int
  | 6 => .int
  | 7 => .int
  | _ => (.array .int)
def ttM : u_T := fun k => match k with
  | 0 => ("TensorForge$Machine", "weightCells", "[I", true)
  | 1 => ("TensorForge$Machine", "cells", "[I", true)
  | 2 => ("TensorForge$Machine", "arenaCells", "I", false)
  | 3 => ("TensorForge$Machine", "resultPlace", "I", false)
  | 4 => ("TensorForge$Machine", "resultCells", "I", false)
  | 5 => ("TensorForge$Machine", "resultScale", "D", false)
  | 6 => ("TensorForge$Machine", "window", "LTensorForge$Window;", true)
  | 7 => ("TensorForge$Machine", "scaler", "LTensorForge$Scaler;", true)
  | _ => ("TensorForge$Machine", "otherScaler", "LTensorForge$Scaler;", true)
def tyM : Nat → FieldType := fun k => match k with
  | 0 => (.array .int)
  | 1 => (.array .int)
  | 2 => .int
  | 3 => .int
  | 4 => .int
  | 5 => .double
  | 6 => (.object "TensorForge$Window")
  | 7 => (.object "TensorForge$Scaler")
  | _ => (.object "TensorForge$Scaler")
def ttN : u_T := fun k => match k with
  | 0 => ("TensorForge$Node", "kind", "I", true)
  | 1 => ("TensorForge$Node", "one", "I", true)
  | 2 => ("TensorForge$Node", "other", "I", true)
  | 3 => ("TensorForge$Node", "h", "I", true)
  | 4 => ("TensorForge$Node", "w", "I", true)
  | 5 => ("TensorForge$Node", "c", "I", true)
  | 6 => ("TensorForge$Node", "cells", "I", true)
  | 7 => ("TensorForge$Node", "scale", "D", true)
  | 8 => ("TensorForge$Node", "fed", "[I", true)
  | 9 => ("TensorForge$Node", "code", "I", false)
  | 10 => ("TensorForge$Node", "offset", "I", false)
  | 11 => ("TensorForge$Node", "weightScale", "D", false)
  | 12 => ("TensorForge$Node", "low", "I", false)
  | 13 => ("TensorForge$Node", "high", "I", false)
  | 14 => ("TensorForge$Node", "ratio", "D", false)
  | _ => ("TensorForge$Node", "otherRatio", "D", false)
def tyN : Nat → FieldType := fun k => match k with
  | 0 => .int
  | 1 => .int
  | 2 => .int
  | 3 => .int
  | 4 => .int
  | 5 => .int
  | 6 => .int
  | 7 => .double
  | 8 => (.array .int)
  | 9 => .int
  | 10 => .int
  | 11 => .double
  | 12 => .int
  | 13 => .int
  | 14 => .double
  | _ => .double
def ttS : u_T := fun k => match k with
  | 0 => ("TensorForge$Scaler", "multiplier", "J", false)
  | _ => ("TensorForge$Scaler", "shift", "I", false)
def tyS : Nat → FieldType := fun k => match k with
  | 0 => .long
  | _ => .int
def ttW : u_T := fun k => match k with
  | 0 => ("TensorForge$Window", "k", "I", false)
  | 1 => ("TensorForge$Window", "top", "I", false)
  | 2 => ("TensorForge$Window", "left", "I", false)
  | 3 => ("TensorForge$Window", "firstRow", "I", false)
  | 4 => ("TensorForge$Window", "endRow", "I", false)
  | 5 => ("TensorForge$Window", "firstColumn", "I", false)
  | 6 => ("TensorForge$Window", "endColumn", "I", false)
  | 7 => ("TensorForge$Window", "step", "I", false)
  | 8 => ("TensorForge$Window", "rows", "I", false)
  | 9 => ("TensorForge$Window", "columns", "I", false)
  | 10 => ("TensorForge$Window", "rowsBefore", "I", false)
  | _ => ("TensorForge$Window", "columnsBefore", "I", false)
def tyW : Nat → FieldType := fun k => match k with
  | 0 => .int
  | 1 => .int
  | 2 => .int
  | 3 => .int
  | 4 => .int
  | 5 => .int
  | 6 => .int
  | 7 => .int
  | 8 => .int
  | 9 => .int
  | 10 => .int
  | _ => .int
def ttT : u_T := fun k => match k with
  | 0 => ("TensorForge", "graph", "LTensorForge$Graph;", true)
  | 1 => ("TensorForge", "machine", "LTensorForge$Machine;", true)
  | 2 => ("TensorForge", "currentWeightScale", "D", false)
  | 3 => ("TensorForge", "outputNode", "I", false)
  | _ => ("TensorForge", "compiled", "Z", false)
def tyT : Nat → FieldType := fun k => match k with
  | 0 => (.object "TensorForge$Graph")
  | 1 => (.object "TensorForge$Machine")
  | 2 => .double
  | 3 => .int
  | _ => .boolean
def ttR : u_T := fun k => match k with
  | 0 => ("TensorForgeModel", "failed", "I", false)
  | 1 => ("TensorForgeModel", "weight", "[I", true)
  | 2 => ("TensorForgeModel", "weightScale", "D", false)
  | 3 => ("TensorForgeModel", "kind", "[I", true)
  | 4 => ("TensorForgeModel", "one", "[I", true)
  | 5 => ("TensorForgeModel", "two", "[I", true)
  | 6 => ("TensorForgeModel", "high", "[I", true)
  | 7 => ("TensorForgeModel", "wide", "[I", true)
  | 8 => ("TensorForgeModel", "deep", "[I", true)
  | 9 => ("TensorForgeModel", "scale", "[D", true)
  | 10 => ("TensorForgeModel", "nodeWeightScale", "[D", true)
  | 11 => ("TensorForgeModel", "code", "[I", true)
  | 12 => ("TensorForgeModel", "offset", "[I", true)
  | 13 => ("TensorForgeModel", "low", "[I", true)
  | 14 => ("TensorForgeModel", "top", "[I", true)
  | 15 => ("TensorForgeModel", "cell", "[I", true)
  | 16 => ("TensorForgeModel", "fed", "[I", true)
  | 17 => ("TensorForgeModel", "nodes", "I", false)
  | 18 => ("TensorForgeModel", "output", "I", false)
  | 19 => ("TensorForgeModel", "compiled", "Z", false)
  | 20 => ("TensorForgeModel", "stands", "[I", true)
  | 21 => ("TensorForgeModel", "role", "[I", true)
  | 22 => ("TensorForgeModel", "step", "[I", true)
  | 23 => ("TensorForgeModel", "last", "[I", true)
  | 24 => ("TensorForgeModel", "place", "[I", true)
  | 25 => ("TensorForgeModel", "steps", "I", false)
  | 26 => ("TensorForgeModel", "peak", "I", false)
  | 27 => ("TensorForgeModel", "arena", "[I", true)
  | 28 => ("TensorForgeModel", "arenaSize", "I", false)
  | 29 => ("TensorForgeModel", "shown", "[I", true)
  | 30 => ("TensorForgeModel", "shownSize", "I", false)
  | _ => ("TensorForgeModel", "shownScale", "D", false)
def tyR : Nat → FieldType := fun k => match k with
  | 0 => .int
  | 1 => (.array .int)
  | 2 => .double
  | 3 => (.array .int)
  | 4 => (.array .int)
  | 5 => (.array .int)
  | 6 => (.array .int)
  | 7 => (.array .int)
  | 8 => (.array .int)
  | 9 => (.array .double)
  | 10 => (.array .double)
  | 11 => (.array .int)
  | 12 => (.array .int)
  | 13 => (.array .int)
  | 14 => (.array .int)
  | 15 => (.array .int)
  | 16 => (.array .int)
  | 17 => .int
  | 18 => .int
  | 19 => .boolean
  | 20 => (.array .int)
  | 21 => (.array .int)
  | 22 => (.array .int)
  | 23 => (.array .int)
  | 24 => (.array .int)
  | 25 => .int
  | 26 => .int
  | 27 => (.array .int)
  | 28 => .int
  | 29 => (.array .int)
  | 30 => .int
  | _ => .double
abbrev vwCl : List vw_C := [("TensorForge$Graph", ttG, 9), ("TensorForge$Machine", ttM, 9), ("TensorForge$Node", ttN, 16), ("TensorForge$Scaler", ttS, 2), ("TensorForge$Window", ttW, 12), ("TensorForge", ttT, 5), ("TensorForgeModel", ttR, 32)]
def rk_ty : List FieldType := [.int, .long, .double, .object "TensorForge$Node"]
def rk_str : List (String × Nat × String) := [("TensorForge", 224, "an argument is out of range or does not go with the others"), ("TensorForge", 247, "all nodes are there"), ("TensorForge", 244, "a ratio is not good"), ("TensorForge", 146, "there is no output"), ("TensorForge", 249, "not compiled"), ("TensorForge", 171, "the arena is below the peak"), ("TensorForge", 253, "no such cell, step or place")]
def rk_sta : List (String × String × String) := [("java/lang/Throwable", "UNASSIGNED_STACK", "[Ljava/lang/StackTraceElement;"), ("java/lang/Throwable", "SUPPRESSED_SENTINEL", "Ljava/util/List;")]
def rk_exc : List String := ["java/lang/IllegalArgumentException", "java/lang/IllegalStateException", "java/lang/ArithmeticException", "java/lang/UnsupportedOperationException", "java/util/NoSuchElementException"]
def rk_ncp : List (String × String) := [("java/lang/IllegalArgumentException", "java/lang/IllegalStateException"), ("java/lang/IllegalArgumentException", "java/lang/ArithmeticException"), ("java/lang/IllegalArgumentException", "java/lang/UnsupportedOperationException"), ("java/lang/IllegalArgumentException", "java/util/NoSuchElementException"), ("java/lang/IllegalStateException", "java/lang/IllegalArgumentException"), ("java/lang/IllegalStateException", "java/lang/ArithmeticException"), ("java/lang/IllegalStateException", "java/lang/UnsupportedOperationException"), ("java/lang/IllegalStateException", "java/util/NoSuchElementException"), ("java/lang/ArithmeticException", "java/lang/IllegalArgumentException"), ("java/lang/ArithmeticException", "java/lang/IllegalStateException"), ("java/lang/ArithmeticException", "java/lang/UnsupportedOperationException"), ("java/lang/ArithmeticException", "java/util/NoSuchElementException"), ("java/lang/UnsupportedOperationException", "java/lang/IllegalArgumentException"), ("java/lang/UnsupportedOperationException", "java/lang/IllegalStateException"), ("java/lang/UnsupportedOperationException", "java/lang/ArithmeticException"), ("java/lang/UnsupportedOperationException", "java/util/NoSuchElementException"), ("java/util/NoSuchElementException", "java/lang/IllegalArgumentException"), ("java/util/NoSuchElementException", "java/lang/IllegalStateException"), ("java/util/NoSuchElementException", "java/lang/ArithmeticException"), ("java/util/NoSuchElementException", "java/lang/UnsupportedOperationException")]
def rk_nst : List Cond := [.methodLinkNest "TensorForge$Machine" 20 ⟨"TensorForge$Window", "<init>", "()V"⟩ "TensorForge", .methodLinkNest "TensorForge$Machine" 27 ⟨"TensorForge$Scaler", "<init>", "()V"⟩ "TensorForge", .castable "java/lang/IllegalArgumentException" "java/lang/IllegalArgumentException", .castable "java/lang/IllegalStateException" "java/lang/IllegalStateException", .castable "java/lang/ArithmeticException" "java/lang/ArithmeticException", .castable "java/lang/UnsupportedOperationException" "java/lang/UnsupportedOperationException", .castable "java/util/NoSuchElementException" "java/util/NoSuchElementException"]
def rk_nk : Cond → Bool
  | .methodLinkNest .. => true
  | .castable .. => true
  | _ => false
theorem rk_nst_k : ∀ w ∈ rk_nst, rk_nk w = true := by decide +kernel
theorem rk_nst_on (w : Cond) (h : w ∈ rk_nst) : w.onTables = true := by
  have k := rk_nst_k w h
  cases w <;> first | (cases k; done) | rfl
theorem rk_nst_warm (w : Cond) (h : w ∈ rk_nst) {s U : State} (hW : s.WarmedH U.vm) (hZ : va_Nw w s) : va_Nw w U := by
  have k := rk_nst_k w h
  cases w <;> first | (cases k; done) | exact va_Nw.warmM hW hZ | exact va_Nw.warmC hW hZ
end
section
/-! THE MACHINE IN MY OWN WORDS. A heap picture by addresses (rk_H); a method's body (rk_Run); a method (rk_Con); nothing of the machine's context in either. -/
abbrev rk_E : Type := (Nat × vp_A) ⊕ (Nat × List Value)
abbrev rk_H : Type := Nat → Option rk_E
/-- what a call answers: a value or none, or the name of the class that was thrown -/
abbrev rk_O : Type := Option Value ⊕ String
/-- the world's constants: where the new cells begin; the classes' numbers and slots; the array classes' numbers -/
abbrev rk_G : Type := Nat × va_G × (Nat → ClassId)
/-- a method: its name, bytes, locals, what it returns, its handlers with the names of what they catch -/
abbrev rk_M : Type := MethodName × ByteArray × Nat × Option FieldType × List (Nat × Nat × Nat × Nat × String)
abbrev rk_P : Type := rk_O → rk_H → Prop
def rk_hh (M : rk_M) : List (Nat × Nat × Nat × Nat) := M.2.2.2.2.map (fun q => (q.1, q.2.1, q.2.2.1, q.2.2.2.1))
def rk_wd (M : rk_M) : Cond := match M.2.2.2.2 with
  | [] => .code M.1 M.2.1 M.2.2.1 M.2.2.2.1
  | _ :: _ => .codeWith M.1 M.2.1 M.2.2.1 M.2.2.2.1 (rk_hh M)
def rk_at (G : rk_G) (a : Nat) (e : rk_E) (H : Heap) : Prop := match e with
  | .inl q => H[a]? = some (vp_cell (G.2.2 q.1) q.2)
  | .inr o => ∃ r : vw_C, vwCl[o.1]? = some r ∧ t_OB a (G.2.1.1 o.1) r.2.2 (G.2.1.2 o.1) H (vp_V o.2)
def rk_R (G : rk_G) (h : rk_H) (H : Heap) : Prop := ∀ (a : Nat) (e : rk_E), h a = some e → G.1 ≤ a ∧ rk_at G a e H
def rk_S (G : rk_G) (H0 H : Heap) : Prop := (G.1 ≤ H.size ∧ H0.size ≤ H.size) ∧ ∀ q : Nat, q < G.1 → H[q]? = H0[q]?
def rk_up (h : rk_H) (a : Nat) (e : rk_E) : rk_H := fun q => if q = a then some e else h q
theorem rk_up_s {h : rk_H} {a : Nat} {e : rk_E} : rk_up h a e a = some e := by unfold rk_up; rw [if_pos rfl]
theorem rk_up_n {h : rk_H} {a q : Nat} {e : rk_E} (hq : q ≠ a) : rk_up h a e q = h q := by unfold rk_up; rw [if_neg hq]
theorem rk_up_k {h : rk_H} {a q : Nat} {e : rk_E} {r : Option rk_E} (hq : q ≠ a) (h1 : h q = r) : rk_up h a e q = r := by rw [rk_up_n hq]; exact h1
theorem rk_ne {h : rk_H} {a b : Nat} {e : rk_E} (ha : h a = some e) (hb : h b = none) : a ≠ b := fun q => by rw [q, hb] at ha; cases ha
theorem rk_at.kept {G : rk_G} {a : Nat} {e : rk_E} {H H1 : Heap} (h : rk_at G a e H) (h1 : H1[a]? = H[a]?) : rk_at G a e H1 := by
  cases e with
  | inl q => show H1[a]? = _; rw [h1]; exact h
  | inr o =>
    obtain ⟨r, hr, ob⟩ := h
    exact ⟨r, hr, ob.kept h1⟩
theorem rk_at.lt {G : rk_G} {a : Nat} {e : rk_E} {H : Heap} (h : rk_at G a e H) : a < H.size := by
  cases e with
  | inl q => exact (Array.getElem?_eq_some_iff.mp (show H[a]? = some _ from h)).1
  | inr o =>
    obtain ⟨r, hr, cell, q1, -⟩ := h
    exact (Array.getElem?_eq_some_iff.mp q1).1
theorem rk_R.lt {G : rk_G} {h : rk_H} {H : Heap} (hR : rk_R G h H) {a : Nat} {e : rk_E} (he : h a = some e) : a < H.size := (hR a e he).2.lt
theorem rk_R.fresh {G : rk_G} {h : rk_H} {H : Heap} (hR : rk_R G h H) : h H.size = none := by
  cases hx : h H.size with
  | none => rfl
  | some e => exact absurd (hR.lt hx) (Nat.lt_irrefl _)
theorem rk_R.set {G : rk_G} {h : rk_H} {H H1 : Heap} (hR : rk_R G h H) {a : Nat} {e0 e : rk_E} (ha : h a = some e0) (h1 : rk_at G a e H1) (ho : ∀ q : Nat, q ≠ a → H1[q]? = H[q]?) : rk_R G (rk_up h a e) H1 := by
  intro q e' hq
  by_cases hqa : q = a
  · subst hqa
    rw [rk_up_s] at hq
    cases hq
    exact ⟨(hR _ _ ha).1, h1⟩
  · rw [rk_up_n hqa] at hq
    exact ⟨(hR q e' hq).1, (hR q e' hq).2.kept (ho q hqa)⟩
theorem rk_R.kept {G : rk_G} {h : rk_H} {H H1 : Heap} (hR : rk_R G h H) (ho : ∀ q : Nat, q < H.size → H1[q]? = H[q]?) : rk_R G h H1 := fun q e hq => ⟨(hR q e hq).1, (hR q e hq).2.kept (ho q (hR.lt hq))⟩
theorem rk_R.push {G : rk_G} {h : rk_H} {H H1 : Heap} (hR : rk_R G h H) (hB : G.1 ≤ H.size) {e : rk_E} (h1 : rk_at G H.size e H1) (ho : ∀ q : Nat, q < H.size → H1[q]? = H[q]?) : rk_R G (rk_up h H.size e) H1 := by
  intro q e' hq
  by_cases hqa : q = H.size
  · subst hqa
    rw [rk_up_s] at hq
    cases hq
    exact ⟨hB, h1⟩
  · rw [rk_up_n hqa] at hq
    exact ⟨(hR q e' hq).1, (hR q e' hq).2.kept (ho q (hR.lt hq))⟩
theorem rk_S.put {G : rk_G} {H0 H H1 : Heap} (h : rk_S G H0 H) (z : H1.size = H.size) {a : Nat} (ho : ∀ q : Nat, q ≠ a → H1[q]? = H[q]?) (ha : G.1 ≤ a) : rk_S G H0 H1 :=
  ⟨by rw [z]; exact h.1, fun q hq => by rw [ho q (fun e => by omega)]; exact h.2 q hq⟩
theorem rk_S.push {G : rk_G} {H0 H H1 : Heap} (h : rk_S G H0 H) (z : H1.size = H.size + 1) (ho : ∀ q : Nat, q < H.size → H1[q]? = H[q]?) : rk_S G H0 H1 :=
  ⟨by rw [z]; exact ⟨Nat.le_succ_of_le h.1.1, Nat.le_succ_of_le h.1.2⟩, fun q hq => by rw [ho q (Nat.lt_of_lt_of_le hq h.1.1)]; exact h.2 q hq⟩
theorem rk_S.trans {G : rk_G} {H0 H H1 : Heap} (h : rk_S G H0 H) (h1 : rk_S G H H1) : rk_S G H0 H1 :=
  ⟨⟨h1.1.1, Nat.le_trans h.1.2 h1.1.2⟩, fun q hq => by rw [h1.2 q hq]; exact h.2 q hq⟩
theorem rk_S.rf {G : rk_G} {H : Heap} (h : G.1 ≤ H.size) : rk_S G H H := ⟨⟨h, Nat.le_refl _⟩, fun _ _ => rfl⟩
/-- what is known of the tables, of the constant texts and of Throwable's statics, at a state -/
def rk_K (G : rk_G) (U : State) : Prop :=
  (∀ (c : Nat) (q : vw_C), vwCl[c]? = some q → u_Kn U q.1 q.2.1 q.2.2 (G.2.1.1 c) (G.2.1.2 c)) ∧
  (∀ (k : Nat) (ty : FieldType), rk_ty[k]? = some ty → ArrOfT U (G.2.2 k) ty ∧ va_RA U (G.2.2 k) ty) ∧
  (∀ q ∈ rk_str, ∃ a : Nat, vk_R q.1 q.2.1 q.2.2 a U) ∧
  (∀ q ∈ rk_sta, vx_Zq q.1 q.2.1 q.2.2 (fun x => G.1 ≤ x) U U.heap) ∧
  (∀ w ∈ rk_nst, va_Nw w U) ∧
  (∀ q ∈ rk_ncp, va_Nc q.1 q.2 U)
/-- the locals: what is known of each place -/
def rk_prs : Nat → List (Option Value) → List (Nat × Value)
  | _, [] => []
  | i, none :: t => rk_prs (i + 1) t
  | i, some v :: t => (i, v) :: rk_prs (i + 1) t
theorem rk_prs_in {lv : List (Option Value)} : ∀ {i j : Nat} {v : Value}, (j, v) ∈ rk_prs i lv ↔ ∃ k : Nat, j = i + k ∧ lv[k]? = some (some v) := by
  induction lv with
  | nil => intro i j v; simp [rk_prs]
  | cons o t ih =>
    intro i j v
    cases o with
    | none =>
      simp only [rk_prs]
      rw [ih]
      constructor
      · rintro ⟨k, rfl, hk⟩
        exact ⟨k + 1, by omega, by simpa using hk⟩
      · rintro ⟨k, rfl, hk⟩
        cases k with
        | zero => simp at hk
        | succ k => exact ⟨k, by omega, by simpa using hk⟩
    | some w =>
      simp only [rk_prs, List.mem_cons]
      rw [ih]
      constructor
      · rintro (h | ⟨k, rfl, hk⟩)
        · cases h
          exact ⟨0, by omega, by simp⟩
        · exact ⟨k + 1, by omega, by simpa using hk⟩
      · rintro ⟨k, rfl, hk⟩
        cases k with
        | zero =>
          left
          simp at hk
          simp [hk]
        | succ k => right; exact ⟨k, by omega, by simpa using hk⟩
theorem rk_prs_at {lv : List (Option Value)} {j : Nat} {v : Value} : (j, v) ∈ rk_prs 0 lv ↔ lv[j]? = some (some v) := by
  rw [rk_prs_in]
  constructor
  · rintro ⟨k, rfl, hk⟩; simpa using hk
  · intro h; exact ⟨j, by omega, h⟩
def rk_cut (lv : List (Option Value)) (i : Nat) : List (Option Value) := match i with
  | 0 => lv
  | j + 1 => match lv[j]? with
    | some (some w) => if w.category = 2 then lv.set j none else lv
    | _ => lv
def rk_st1 (lv : List (Option Value)) (i : Nat) (v : Value) : List (Option Value) := (rk_cut lv i).set i (some v)
def rk_st2 (lv : List (Option Value)) (i : Nat) (v : Value) : List (Option Value) := ((rk_cut lv i).set i (some v)).set (i + 1) none
theorem rk_cut_at {lv : List (Option Value)} {i j : Nat} {w : Value} (h : (rk_cut lv i)[j]? = some (some w)) : lv[j]? = some (some w) ∧ ¬ (j + 1 = i ∧ w.category = 2) := by
  unfold rk_cut at h
  cases i with
  | zero => exact ⟨h, by omega⟩
  | succ i =>
    dsimp only at h
    split at h
    · next w' hw' =>
      by_cases hc : w'.category = 2
      · rw [if_pos hc] at h
        rw [List.getElem?_set] at h
        by_cases hij : i = j
        · subst hij
          simp at h
        · rw [if_neg hij] at h
          exact ⟨h, by omega⟩
      · rw [if_neg hc] at h
        refine ⟨h, fun q => ?_⟩
        have hij : j = i := by omega
        subst hij
        rw [h] at hw'
        cases hw'
        exact hc q.2
    · next hne =>
      refine ⟨h, fun q => ?_⟩
      have hij : j = i := by omega
      subst hij
      exact hne w h
theorem rk_st1_at {lv : List (Option Value)} {i j : Nat} {v w : Value} (h : (rk_st1 lv i v)[j]? = some (some w)) : (j, w) ∈ (i, v) :: (rk_prs 0 lv).filter (fun q => !(q.1 == i) && !(q.1 + 1 == i && q.2.category == 2)) := by
  unfold rk_st1 at h
  rw [List.getElem?_set] at h
  by_cases hij : i = j
  · subst hij
    rw [if_pos rfl] at h
    split at h
    · cases h; exact List.mem_cons_self
    · cases h
  · rw [if_neg hij] at h
    obtain ⟨h1, h2⟩ := rk_cut_at h
    refine List.mem_cons_of_mem _ (List.mem_filter.mpr ⟨rk_prs_at.mpr h1, ?_⟩)
    simp only [Bool.and_eq_true, Bool.not_eq_true', beq_eq_false_iff_ne, ne_eq, Bool.and_eq_false_iff]
    refine ⟨fun q => hij q.symm, ?_⟩
    by_cases hz : j + 1 = i
    · right; exact fun q => h2 ⟨hz, q⟩
    · left; exact hz
theorem rk_st2_at {lv : List (Option Value)} {i j : Nat} {v w : Value} (h : (rk_st2 lv i v)[j]? = some (some w)) : (j, w) ∈ (i, v) :: (rk_prs 0 lv).filter (fun q => !(q.1 == i) && (!(q.1 == i + 1) && !(q.1 + 1 == i && q.2.category == 2))) := by
  unfold rk_st2 at h
  rw [List.getElem?_set] at h
  by_cases h3 : i + 1 = j
  · subst h3
    rw [if_pos rfl] at h
    split at h
    · cases h
    · cases h
  · rw [if_neg h3] at h
    rw [List.getElem?_set] at h
    by_cases hij : i = j
    · subst hij
      rw [if_pos rfl] at h
      split at h
      · cases h; exact List.mem_cons_self
      · cases h
    · rw [if_neg hij] at h
      obtain ⟨h1, h2⟩ := rk_cut_at h
      refine List.mem_cons_of_mem _ (List.mem_filter.mpr ⟨rk_prs_at.mpr h1, ?_⟩)
      simp only [Bool.and_eq_true, Bool.not_eq_true', beq_eq_false_iff_ne, ne_eq, Bool.and_eq_false_iff]
      refine ⟨fun q => hij q.symm, fun q => h3 q.symm, ?_⟩
      by_cases hz : j + 1 = i
      · right; exact fun q => h2 ⟨hz, q⟩
      · left; exact hz
def rk_L (ls : Array Slot) (nL : Nat) (lv : List (Option Value)) : Prop := lv_has ls nL (rk_prs 0 lv)
theorem rk_L.at {ls : Array Slot} {nL i : Nat} {lv : List (Option Value)} {v : Value} (h : rk_L ls nL lv) (hv : lv[i]? = some (some v)) : ls[i]? = some (.val v) := h.2.2 (i, v) (rk_prs_at.mpr hv)
theorem rk_L.of {ls : Array Slot} {nL : Nat} {lv : List (Option Value)} {l : List (Nat × Value)} (h : lv_has ls nL l) (hs : ∀ (j : Nat) (w : Value), lv[j]? = some (some w) → (j, w) ∈ l) : rk_L ls nL lv :=
  ⟨h.1, h.2.1, fun q hq => h.2.2 q (hs q.1 q.2 (rk_prs_at.mp hq))⟩
/-- fewer places -/
def rk_le : List (Option Value) → List (Option Value) → Prop
  | [], _ => True
  | none :: t, l => rk_le t l.tail
  | some v :: t, l => l.head? = some (some v) ∧ rk_le t l.tail
theorem rk_le_at {a : List (Option Value)} : ∀ {b : List (Option Value)}, rk_le a b → ∀ {j : Nat} {w : Value}, a[j]? = some (some w) → b[j]? = some (some w) := by
  induction a with
  | nil => intro b _ j w h; simp at h
  | cons o t ih =>
    intro b h j w hj
    cases o with
    | none =>
      cases j with
      | zero => simp at hj
      | succ j =>
        have := ih (b := b.tail) h (j := j) (w := w) (by simpa using hj)
        rw [List.getElem?_tail] at this
        exact this
    | some v =>
      cases j with
      | zero =>
        simp at hj
        subst hj
        rw [← List.head?_eq_getElem?]
        exact h.1
      | succ j =>
        have := ih (b := b.tail) h.2 (j := j) (w := w) (by simpa using hj)
        rw [List.getElem?_tail] at this
        exact this
/-- what came out, and where -/
def rk_out (r : rk_O) (o : Outcome) (t : State) : Prop := match r with
  | .inl v => o = .returned v
  | .inr C => ∃ (x : Addr) (cell : Cell), o = .threw x ∧ t.heap[x]? = some cell ∧ cell.vm = .none ∧ t.vm.findClass C = some cell.cls
/-- a method's bounds: frames and words above it, the cells and slots that it may make -/
abbrev rk_B : Type := Nat × Nat × Nat × Nat
/-- how far it is: the cells and slots made -/
abbrev rk_U : Type := Nat × Nat
def rk_end (P : rk_P) (G : rk_G) (s : State) (o : Outcome) (t : State) : Prop := (∃ (r : rk_O) (h : rk_H), rk_out r o t ∧ P r h ∧ rk_R G h t.heap) ∧ rk_S G s.heap t.heap
def rk_Q (P : rk_P) (G : rk_G) (B : rk_B) (s : State) (below : List Frame) : State → Prop := fun t =>
  ∃ o, t.status = .running ∧ Ended t below o ∧ rk_end P G s o t ∧ ∃ L : List Loc, (s.WarmedH t.vm ∧ s.sameButNew ({ t with vm := s.vm } : State) L B.2.2.1 B.2.2.2) ∧ ∀ q ∈ L, G.1 ≤ q.base
def rk_lok (l : Launch) : Prop := l.stackTraces = false
def rk_Cx (M : rk_M) (B : rk_B) (l : Launch) (p : Program) (e : Env) (R : Room) (s : State) (m : MethodId) (args : Array Value) (meth : Method) (c : Code) (G : rk_G) : Prop :=
  p.tables.exec = Jvm.exec ∧ c.code = M.2.1 ∧ c.maxLocals = M.2.2.1 ∧ meth.sig.returnType = M.2.2.2.1 ∧ meth.locks = false ∧ s.vm.findClass M.1.cls = some m.cls ∧ (∀ w ∈ rk_tbl, w.before args s = true) ∧ rk_K G s ∧
  c.exceptionTable.toList = tableOf (rk_hh M) ∧ B.1 ≤ R.frames ∧ B.2.1 ≤ R.locals ∧ B.2.2.1 ≤ R.cells ∧ B.2.2.2 ≤ R.slots ∧ meth.name = M.1.name ∧ rk_lok l
def rk_Run (M : rk_M) (B : rk_B) (P : rk_P) (pc : Nat) (lv : List (Option Value)) (st : List Value) (h : rk_H) (u : rk_U) : Prop :=
  ∀ (l : Launch) (p : Program) (e : Env) (R : Room) (s : State) (m : MethodId) (args : Array Value) (below : List Frame) (meth : Method) (c : Code) (G : rk_G) (H : Heap) (locs : List Loc) (ls : Array Slot),
    rk_Cx M B l p e R s m args meth c G → rk_R G h H → rk_S G s.heap H → (∀ q ∈ locs, G.1 ≤ q.base) → rk_L ls M.2.2.1 lv →
    W p l e R s m args below meth c H locs u.1 u.2 (rk_Q P G B s below) (F0 m pc ls st)
/-- A METHOD: from the arguments and the picture, within its bounds -/
def rk_Con (M : rk_M) (B : rk_B) (as : List Value) (h : rk_H) (P : rk_P) : Prop :=
  ∀ (l : Launch) (G : rk_G), rk_lok l → MetFree l M.1 (headSpec (rk_wd M :: rk_tbl) { frames := B.1, cells := B.2.2.1, slots := B.2.2.2, locals := B.2.1 })
    (fun a U => a = as.toArray ∧ G.1 ≤ U.heap.size ∧ rk_R G h U.heap ∧ rk_K G U) (fun _ _ _ _ _ => True)
    (fun _ st o t => rk_end P G st o t ∧ ∃ L : List Loc, (st.WarmedH t.vm ∧ st.sameButNew ({ t with vm := st.vm } : State) L B.2.2.1 B.2.2.2) ∧ ∀ q ∈ L, G.1 ≤ q.base)
theorem rk_Wmono {p : Program} {l : Launch} {e : Env} {R : Room} {s : State} {m : MethodId} {args : Array Value} {below : List Frame} {meth : Method} {c : Code} {H : Heap} {locs : List Loc} {cells slots : Nat} {Q Q' : State → Prop} {g : JFrame} (hq : ∀ t, Q t → Q' t) (w : W p l e R s m args below meth c H locs cells slots Q g) : W p l e R s m args below meth c H locs cells slots Q' g := by
  intro T hT X
  obtain ⟨t, a, b⟩ := w T hT X
  exact ⟨t, a, hq t b⟩
theorem rk_MQ {P : rk_P} {G : rk_G} {B : rk_B} {s : State} {below : List Frame} {args : Array Value} : ∀ t, MQ below (fun _ st o t => rk_end P G st o t) args s B.2.2.1 B.2.2.2 (fun q => G.1 ≤ q) t → rk_Q P G B s below t := by
  rintro t ⟨o, h1, h2, h3, L, ⟨-, h4, h5⟩, h6⟩
  exact ⟨o, h1, h2, h3, L, ⟨h4, h5⟩, h6⟩
/-- the state behind: what is known stays known -/
theorem rk_K.next {G : rk_G} {s U : State} (hK : rk_K G s) (hW : s.WarmedH U.vm) (hS : rk_S G s.heap U.heap) : rk_K G U := by
  obtain ⟨h1, h2, h3, h4, h5, h6⟩ := hK
  refine ⟨fun c q hq => u_Kn_moved hW.alike (h1 c q hq), fun k ty hk => ⟨?_, va_RA.moved hW.alike (h2 k ty hk).2⟩, fun q hq => ?_, fun q hq => ?_, fun w hw => ?_, fun q hq => va_Nc.moved hW.alike (h6 q hq)⟩
  · exact fun N z => State.isArrayOf_alike hW.alike ((h2 k ty hk).1 N z)
  · obtain ⟨a, ha⟩ := h3 q hq
    exact ⟨a, vk_R.warm hW ha⟩
  · exact (vx_Zq.moved hW.alike (h4 q hq)).kept (fun x _ hx => hS.2 x (Nat.not_le.mp hx))
  · exact rk_nst_warm w hw hW (h5 w hw)
theorem rk_cast {G : rk_G} {s : State} {args : Array Value} (E : String) (hE : E ∈ rk_exc) (hK : rk_K G s) : (Cond.castable E E).before args s = true := by
  have h : Cond.castable E E ∈ rk_nst := by
    have hall : ∀ E ∈ rk_exc, Cond.castable E E ∈ rk_nst := by decide +kernel
    exact hall E hE
  exact va_Nw.use rfl (hK.2.2.2.2.1 _ h)
theorem rk_ncst {G : rk_G} {s : State} (E : String) (hE : E ∈ rk_exc) (F : String) (hF : F ∈ rk_exc) (hne : E ≠ F) (hK : rk_K G s) : va_Nc E F s := by
  have hall : ∀ E ∈ rk_exc, ∀ F ∈ rk_exc, E ≠ F → (E, F) ∈ rk_ncp := by decide +kernel
  exact hK.2.2.2.2.2 (E, F) (hall E hE F hF hne)
theorem rk_Con.of {M : rk_M} {B : rk_B} {as : List Value} {h : rk_H} {P : rk_P} (lv : List (Option Value)) (hl : rk_prs 0 lv = lv_args 0 as) (hlen : (lg_sl as).length ≤ M.2.2.1) (hn : plainName M.1.cls = true) (r : rk_Run M B P 0 lv [] h (0, 0)) : rk_Con M B as h P := by
  intro l G hok
  have hspec : ∀ (args : Array Value) (s : State) (m : MethodId), (headSpec (rk_wd M :: rk_tbl) { frames := B.1, cells := B.2.2.1, slots := B.2.2.2, locals := B.2.1 }).pre.before args s = true → s.methodNamed? M.1 = some m →
      ∃ (meth : Method) (c : Code), s.vm.method? m = some meth ∧ meth.code = some c ∧ c.code = M.2.1 ∧ c.maxLocals = M.2.2.1 ∧ meth.sig.returnType = M.2.2.2.1 ∧ meth.locks = false ∧ c.exceptionTable.toList = tableOf (rk_hh M) := by
    intro args s m hp hm
    have hw := atoms_spec (ws := rk_wd M :: rk_tbl) hp _ List.mem_cons_self
    obtain ⟨y, bs, nL, rt, hh⟩ := M
    cases hh with
    | nil =>
      obtain ⟨meth, c, h1, h2, h3, h4, h5, h6, h7, -⟩ := Cond.code_spec hm (show (Cond.code y bs nL rt).before args s = true from hw)
      refine ⟨meth, c, h1, h2, h3, h4, h5, h6, ?_⟩
      have h0 : c.exceptionTable.size = 0 := by simpa [Array.isEmpty] using h7
      exact List.eq_nil_of_length_eq_zero (by simpa using h0)
    | cons q t =>
      obtain ⟨m', meth, c, h0, h1, h2, h3, h4, h5, h6, h7, -⟩ := Cond.codeWith_spec (show (Cond.codeWith y bs nL rt (rk_hh (y, bs, nL, rt, q :: t))).before args s = true from hw)
      cases hm.symm.trans h0
      exact ⟨meth, c, h1, h2, h3, h4, h6, h7, by rw [← h5, table_eq]⟩
  refine MetFree.of_bodyS (code := M.2.1) (maxLocals := M.2.2.1) (ret := M.2.2.2.1) hn ?_ ?_
  · intro args s m hp hm
    obtain ⟨meth, c, h1, h2, h3, h4, h5, h6, -⟩ := hspec args s m hp hm
    exact ⟨meth, c, h1, h2, h3, h4, h5, h6⟩
  · intro p e s m args below meth c s₁ Bd hml hP _
    obtain ⟨rfl, hB, hR, hK⟩ := hP
    have hh0 : s₁.heap = s.heap := by rw [Bd.state]; rfl
    have X := Stand.of_body Bd
    obtain ⟨meth', c', h1, h2, -, -, -, -, htab⟩ := hspec as.toArray s m Bd.pre Bd.named
    cases Bd.method.symm.trans h1
    cases X.code.symm.trans h2
    have hts0 := atoms_spec (ws := rk_wd M :: rk_tbl) Bd.pre
    have hlv := lv_entry as (n := M.2.2.1) hlen
    obtain ⟨t, a1, o, b1, b2, b3, b4⟩ := r l p e _ s m as.toArray below meth c G s.heap [] _
      ⟨Bd.exec, Bd.bytes, hml, Bd.returns, Bd.notSynchronized, findClass_of_methodNamed Bd.named, fun w hw => hts0 w (List.mem_cons_of_mem _ hw), hK, htab, Nat.le_refl _, Nat.le_refl _, Nat.le_refl _, Nat.le_refl _, (name_of_methodNamed Bd.named Bd.method).1, hok⟩
      hR (rk_S.rf hB) (fun q hq => absurd hq List.not_mem_nil) (show lv_has _ _ (rk_prs 0 lv) by rw [hl]; exact hlv) s₁ hh0 X
    refine ⟨t, o, ?_, b1, b2, b3, b4⟩
    rw [lg_entry_eq]
    exact a1
/-- a wider end -/
theorem rk_Con.mono {M : rk_M} {B : rk_B} {as : List Value} {h : rk_H} {P P' : rk_P} (c : rk_Con M B as h P) (hP : ∀ r h', P r h' → P' r h') : rk_Con M B as h P' := by
  intro l G hok p e ha hc hk s m args below hf happ hp hkk
  obtain ⟨n, o, h1, h2, h3, ⟨⟨⟨r, h', q1, q2, q3⟩, q4⟩, q5⟩⟩ := c l G hok p e ha hc hk s m args below hf happ hp hkk
  exact ⟨n, o, h1, h2, h3, ⟨⟨⟨r, h', q1, hP r h' q2, q3⟩, q4⟩, q5⟩⟩
section RKR
variable {M : rk_M} {B : rk_B} {P : rk_P} {pc : Nat} {lv : List (Option Value)} {st : List Value} {h : rk_H} {u : rk_U}
theorem rk_lv (lv' : List (Option Value)) (hs : rk_le lv' lv) (r : rk_Run M B P pc lv' st h u) : rk_Run M B P pc lv st h u := by
  intro l p e R s m args below meth c G H locs ls C hR hS hf hl
  exact r l p e R s m args below meth c G H locs ls C hR hS hf (rk_L.of hl (fun j w hw => rk_prs_at.mpr (rk_le_at hs hw)))
/-- counted higher -/
theorem rk_wide (u' : rk_U) (hk : u.1 ≤ u'.1) (hn : u.2 ≤ u'.2) (r : rk_Run M B P pc lv st h u') : rk_Run M B P pc lv st h u := by
  intro l p e R s m args below meth c G H locs ls C hR hS hf hl
  exact W.widen hk hn (r l p e R s m args below meth c G H locs ls C hR hS hf hl)
theorem rk_topi {x : Int32} (r : ∀ y : Int32, y = x → rk_Run M B P pc lv (.int y :: st) h u) : rk_Run M B P pc lv (.int x :: st) h u := r x rfl
theorem rk_topl {x : Int64} (r : ∀ y : Int64, y = x → rk_Run M B P pc lv (.long y :: st) h u) : rk_Run M B P pc lv (.long x :: st) h u := r x rfl
theorem rk_topd {x : UInt64} (r : ∀ y : UInt64, y = x → rk_Run M B P pc lv (.double y :: st) h u) : rk_Run M B P pc lv (.double x :: st) h u := r x rfl
/-- within the bounds -/
def rk_ok (u : rk_U) (B : rk_B) : Prop := u.1 ≤ B.2.2.1 ∧ u.2 ≤ B.2.2.2
theorem rk_fin {G : rk_G} {s t : State} {H : Heap} {v : Option Value} (hR : rk_R G h H) (hS : rk_S G s.heap H) (hP : P (.inl v) h) (ht : t.heap = H) : rk_end P G s (.returned v) t :=
  ⟨⟨.inl v, h, rfl, hP, by rw [ht]; exact hR⟩, by rw [ht]; exact hS⟩
-- ends
theorem rk_iret {v : Int32} (hret : M.2.2.2.1 = some .int) (hd : decode M.2.1 pc = .ok (.ireturn, 1)) (hu : rk_ok u B) (hP : P (.inl (some (.int v))) h) : rk_Run M B P pc lv [.int v] h u := by
  intro l p e R s m args below meth c G H locs ls C hR hS hf hl
  refine W.widen hu.1 hu.2 (rk_Wmono (rk_MQ (args := args)) ?_)
  exact W.iret C.1 C.2.1 (C.2.2.2.1.trans hret) (fun t ht _ => rk_fin hR hS hP ht) hf hd C.2.2.2.2.1
theorem rk_zret {v : Int32} {ty : FieldType} (hret : M.2.2.2.1 = some ty) (hnr : narrow ty (.int v) = .int v) (hd : decode M.2.1 pc = .ok (.ireturn, 1)) (hu : rk_ok u B) (hP : P (.inl (some (.int v))) h) : rk_Run M B P pc lv [.int v] h u := by
  intro l p e R s m args below meth c G H locs ls C hR hS hf hl
  refine W.widen hu.1 hu.2 (rk_Wmono (rk_MQ (args := args)) ?_)
  exact W.zret C.1 C.2.1 (C.2.2.2.1.trans hret) hnr (fun t ht _ => rk_fin hR hS hP ht) hf hd C.2.2.2.2.1
theorem rk_lret {v : Int64} (hret : M.2.2.2.1 = some .long) (hd : decode M.2.1 pc = .ok (.lreturn, 1)) (hu : rk_ok u B) (hP : P (.inl (some (.long v))) h) : rk_Run M B P pc lv [.long v] h u := by
  intro l p e R s m args below meth c G H locs ls C hR hS hf hl
  refine W.widen hu.1 hu.2 (rk_Wmono (rk_MQ (args := args)) ?_)
  exact W.lret C.1 C.2.1 (C.2.2.2.1.trans hret) (fun t ht _ => rk_fin hR hS hP ht) hf hd C.2.2.2.2.1
theorem rk_dret {v : UInt64} (hret : M.2.2.2.1 = some .double) (hd : decode M.2.1 pc = .ok (.dreturn, 1)) (hu : rk_ok u B) (hP : P (.inl (some (.double v))) h) : rk_Run M B P pc lv [.double v] h u := by
  intro l p e R s m args below meth c G H locs ls C hR hS hf hl
  refine W.widen hu.1 hu.2 (rk_Wmono (rk_MQ (args := args)) ?_)
  exact W.dret C.1 C.2.1 (C.2.2.2.1.trans hret) (fun t ht _ => rk_fin hR hS hP ht) hf hd C.2.2.2.2.1
theorem rk_aret {v : Value} {rt : FieldType} (hret : M.2.2.2.1 = some rt) (hrt : (∃ n, rt = .object n) ∨ ∃ t, rt = .array t) (hv : v = .null ∨ ∃ a, v = .ref a) (hd : decode M.2.1 pc = .ok (.areturn, 1)) (hu : rk_ok u B) (hP : P (.inl (some v)) h) : rk_Run M B P pc lv [v] h u := by
  intro l p e R s m args below meth c G H locs ls C hR hS hf hl
  refine W.widen hu.1 hu.2 (rk_Wmono (rk_MQ (args := args)) ?_)
  exact W.aret C.1 C.2.1 (C.2.2.2.1.trans hret) hrt hv (fun t ht _ => rk_fin hR hS hP ht) hf hd C.2.2.2.2.1
theorem rk_ret (hret : M.2.2.2.1 = none) (hd : decode M.2.1 pc = .ok (.return_, 1)) (hu : rk_ok u B) (hP : P (.inl none) h) : rk_Run M B P pc lv [] h u := by
  intro l p e R s m args below meth c G H locs ls C hR hS hf hl
  refine W.widen hu.1 hu.2 (rk_Wmono (rk_MQ (args := args)) ?_)
  exact W.vret C.1 C.2.1 (C.2.2.2.1.trans hret) (fun t ht _ => rk_fin hR hS hP ht) hf hd C.2.2.2.2.1
theorem rk_iconst {z : Int} {v : Int32} (hd : decode M.2.1 pc = .ok (.iconst z, 1)) (hv : Int32.ofInt z = v) (r : rk_Run M B P (pc + 1) lv (.int v :: st) h u) : rk_Run M B P pc lv st h u := by
  intro l p e R s m args below meth c G H locs ls C hR hS hf hl
  exact lv_iconst C.1 C.2.1 hd hv (r l p e R s m args below meth c G H locs ls C hR hS hf hl)
theorem rk_bipush {z : Int} {v : Int32} (hd : decode M.2.1 pc = .ok (.bipush z, 2)) (hv : (Int8.ofInt z).toInt32 = v) (r : rk_Run M B P (pc + 2) lv (.int v :: st) h u) : rk_Run M B P pc lv st h u := by
  intro l p e R s m args below meth c G H locs ls C hR hS hf hl
  exact lv_bipush C.1 C.2.1 hd hv (r l p e R s m args below meth c G H locs ls C hR hS hf hl)
theorem rk_sipush {z : Int} {v : Int32} (hd : decode M.2.1 pc = .ok (.sipush z, 3)) (hv : (Int16.ofInt z).toInt32 = v) (r : rk_Run M B P (pc + 3) lv (.int v :: st) h u) : rk_Run M B P pc lv st h u := by
  intro l p e R s m args below meth c G H locs ls C hR hS hf hl
  exact lv_sipush C.1 C.2.1 hd hv (r l p e R s m args below meth c G H locs ls C hR hS hf hl)
theorem rk_lconst {z : Fin 2} {v : Int64} (hd : decode M.2.1 pc = .ok (.lconst z, 1)) (hv : Int64.ofNat (z : Nat) = v) (r : rk_Run M B P (pc + 1) lv (.long v :: st) h u) : rk_Run M B P pc lv st h u := by
  intro l p e R s m args below meth c G H locs ls C hR hS hf hl
  exact lv_lconst C.1 C.2.1 hd hv (r l p e R s m args below meth c G H locs ls C hR hS hf hl)
theorem rk_iload_n {z : Fin 4} {x : Int32} (hd : decode M.2.1 pc = .ok (.iload_n z, 1)) (hx : lv[z.val]? = some (some (.int x))) (r : rk_Run M B P (pc + 1) lv (.int x :: st) h u) : rk_Run M B P pc lv st h u := by
  intro l p e R s m args below meth c G H locs ls C hR hS hf hl
  exact lv_iload_n C.1 C.2.1 hd rfl (hl.at hx) (r l p e R s m args below meth c G H locs ls C hR hS hf hl)
theorem rk_iload {z : Nat} {x : Int32} (hd : decode M.2.1 pc = .ok (.iload z, 2)) (hx : lv[z]? = some (some (.int x))) (r : rk_Run M B P (pc + 2) lv (.int x :: st) h u) : rk_Run M B P pc lv st h u := by
  intro l p e R s m args below meth c G H locs ls C hR hS hf hl
  exact lv_iload C.1 C.2.1 hd (hl.at hx) (r l p e R s m args below meth c G H locs ls C hR hS hf hl)
theorem rk_lload_n {z : Fin 4} {x : Int64} (hd : decode M.2.1 pc = .ok (.lload_n z, 1)) (hx : lv[z.val]? = some (some (.long x))) (r : rk_Run M B P (pc + 1) lv (.long x :: st) h u) : rk_Run M B P pc lv st h u := by
  intro l p e R s m args below meth c G H locs ls C hR hS hf hl
  exact lv_lload_n C.1 C.2.1 hd rfl (hl.at hx) (r l p e R s m args below meth c G H locs ls C hR hS hf hl)
theorem rk_lload {z : Nat} {x : Int64} (hd : decode M.2.1 pc = .ok (.lload z, 2)) (hx : lv[z]? = some (some (.long x))) (r : rk_Run M B P (pc + 2) lv (.long x :: st) h u) : rk_Run M B P pc lv st h u := by
  intro l p e R s m args below meth c G H locs ls C hR hS hf hl
  exact lv_lload C.1 C.2.1 hd (hl.at hx) (r l p e R s m args below meth c G H locs ls C hR hS hf hl)
theorem rk_dload_n {z : Fin 4} {x : UInt64} (hd : decode M.2.1 pc = .ok (.dload_n z, 1)) (hx : lv[z.val]? = some (some (.double x))) (r : rk_Run M B P (pc + 1) lv (.double x :: st) h u) : rk_Run M B P pc lv st h u := by
  intro l p e R s m args below meth c G H locs ls C hR hS hf hl
  exact lv_dload_n C.1 C.2.1 hd rfl (hl.at hx) (r l p e R s m args below meth c G H locs ls C hR hS hf hl)
theorem rk_dload {z : Nat} {x : UInt64} (hd : decode M.2.1 pc = .ok (.dload z, 2)) (hx : lv[z]? = some (some (.double x))) (r : rk_Run M B P (pc + 2) lv (.double x :: st) h u) : rk_Run M B P pc lv st h u := by
  intro l p e R s m args below meth c G H locs ls C hR hS hf hl
  exact lv_dload C.1 C.2.1 hd (hl.at hx) (r l p e R s m args below meth c G H locs ls C hR hS hf hl)
theorem rk_aload_n {z : Fin 4} {x : Nat} (hd : decode M.2.1 pc = .ok (.aload_n z, 1)) (hx : lv[z.val]? = some (some (.ref x))) (r : rk_Run M B P (pc + 1) lv (.ref x :: st) h u) : rk_Run M B P pc lv st h u := by
  intro l p e R s m args below meth c G H locs ls C hR hS hf hl
  exact lv_aload_n C.1 C.2.1 hd rfl (hl.at hx) (r l p e R s m args below meth c G H locs ls C hR hS hf hl)
theorem rk_aload {z : Nat} {x : Nat} (hd : decode M.2.1 pc = .ok (.aload z, 2)) (hx : lv[z]? = some (some (.ref x))) (r : rk_Run M B P (pc + 2) lv (.ref x :: st) h u) : rk_Run M B P pc lv st h u := by
  intro l p e R s m args below meth c G H locs ls C hR hS hf hl
  exact lv_aload C.1 C.2.1 hd (hl.at hx) (r l p e R s m args below meth c G H locs ls C hR hS hf hl)
theorem rk_istore_n {z : Fin 4} {x : Int32} (hd : decode M.2.1 pc = .ok (.istore_n z, 1)) (hb : z.val < M.2.2.1) (r : rk_Run M B P (pc + 1) (rk_st1 lv z.val (.int x)) st h u) : rk_Run M B P pc lv (.int x :: st) h u := by
  intro l p e R s m args below meth c G H locs ls C hR hS hf hl
  exact lv_istore_n C.1 C.2.1 hd rfl hl hb rfl (fun ls hl => r l p e R s m args below meth c G H locs ls C hR hS hf (rk_L.of hl (fun j w hw => rk_st1_at hw)))
theorem rk_istore {z : Nat} {x : Int32} (hd : decode M.2.1 pc = .ok (.istore z, 2)) (hb : z < M.2.2.1) (r : rk_Run M B P (pc + 2) (rk_st1 lv z (.int x)) st h u) : rk_Run M B P pc lv (.int x :: st) h u := by
  intro l p e R s m args below meth c G H locs ls C hR hS hf hl
  exact lv_istore C.1 C.2.1 hd hl hb rfl (fun ls hl => r l p e R s m args below meth c G H locs ls C hR hS hf (rk_L.of hl (fun j w hw => rk_st1_at hw)))
theorem rk_lstore_n {z : Fin 4} {x : Int64} (hd : decode M.2.1 pc = .ok (.lstore_n z, 1)) (hb : z.val + 1 < M.2.2.1) (r : rk_Run M B P (pc + 1) (rk_st2 lv z.val (.long x)) st h u) : rk_Run M B P pc lv (.long x :: st) h u := by
  intro l p e R s m args below meth c G H locs ls C hR hS hf hl
  exact lv_lstore_n C.1 C.2.1 hd rfl hl hb rfl (fun ls hl => r l p e R s m args below meth c G H locs ls C hR hS hf (rk_L.of hl (fun j w hw => rk_st2_at hw)))
theorem rk_lstore {z : Nat} {x : Int64} (hd : decode M.2.1 pc = .ok (.lstore z, 2)) (hb : z + 1 < M.2.2.1) (r : rk_Run M B P (pc + 2) (rk_st2 lv z (.long x)) st h u) : rk_Run M B P pc lv (.long x :: st) h u := by
  intro l p e R s m args below meth c G H locs ls C hR hS hf hl
  exact lv_lstore C.1 C.2.1 hd hl hb rfl (fun ls hl => r l p e R s m args below meth c G H locs ls C hR hS hf (rk_L.of hl (fun j w hw => rk_st2_at hw)))
theorem rk_dstore_n {z : Fin 4} {x : UInt64} (hd : decode M.2.1 pc = .ok (.dstore_n z, 1)) (hb : z.val + 1 < M.2.2.1) (r : rk_Run M B P (pc + 1) (rk_st2 lv z.val (.double x)) st h u) : rk_Run M B P pc lv (.double x :: st) h u := by
  intro l p e R s m args below meth c G H locs ls C hR hS hf hl
  exact lv_dstore_n C.1 C.2.1 hd rfl hl hb rfl (fun ls hl => r l p e R s m args below meth c G H locs ls C hR hS hf (rk_L.of hl (fun j w hw => rk_st2_at hw)))
theorem rk_dstore {z : Nat} {x : UInt64} (hd : decode M.2.1 pc = .ok (.dstore z, 2)) (hb : z + 1 < M.2.2.1) (r : rk_Run M B P (pc + 2) (rk_st2 lv z (.double x)) st h u) : rk_Run M B P pc lv (.double x :: st) h u := by
  intro l p e R s m args below meth c G H locs ls C hR hS hf hl
  exact lv_dstore C.1 C.2.1 hd hl hb rfl (fun ls hl => r l p e R s m args below meth c G H locs ls C hR hS hf (rk_L.of hl (fun j w hw => rk_st2_at hw)))
theorem rk_astore_n {z : Fin 4} {x : Nat} (hd : decode M.2.1 pc = .ok (.astore_n z, 1)) (hb : z.val < M.2.2.1) (r : rk_Run M B P (pc + 1) (rk_st1 lv z.val (.ref x)) st h u) : rk_Run M B P pc lv (.ref x :: st) h u := by
  intro l p e R s m args below meth c G H locs ls C hR hS hf hl
  exact lv_astore_n C.1 C.2.1 hd rfl hl hb rfl (fun ls hl => r l p e R s m args below meth c G H locs ls C hR hS hf (rk_L.of hl (fun j w hw => rk_st1_at hw)))
theorem rk_astore {z : Nat} {x : Nat} (hd : decode M.2.1 pc = .ok (.astore z, 2)) (hb : z < M.2.2.1) (r : rk_Run M B P (pc + 2) (rk_st1 lv z (.ref x)) st h u) : rk_Run M B P pc lv (.ref x :: st) h u := by
  intro l p e R s m args below meth c G H locs ls C hR hS hf hl
  exact lv_astore C.1 C.2.1 hd hl hb rfl (fun ls hl => r l p e R s m args below meth c G H locs ls C hR hS hf (rk_L.of hl (fun j w hw => rk_st1_at hw)))
theorem rk_iinc {i : Nat} {z : Int} {x v : Int32} (hd : decode M.2.1 pc = .ok (.iinc i z, 3)) (hx : lv[i]? = some (some (.int x))) (hv : x + Int32.ofInt z = v) (hb : i < M.2.2.1) (r : rk_Run M B P (pc + 3) (rk_st1 lv i (.int v)) st h u) : rk_Run M B P pc lv st h u := by
  intro l p e R s m args below meth c G H locs ls C hR hS hf hl
  obtain ⟨j, hj⟩ := List.getElem?_of_mem (rk_prs_at.mpr hx)
  exact lv_iinc C.1 C.2.1 hd hl hj hv hb rfl (fun ls hl => r l p e R s m args below meth c G H locs ls C hR hS hf (rk_L.of hl (fun j w hw => rk_st1_at hw)))
theorem rk_iadd {x y : Int32} (hd : decode M.2.1 pc = .ok (.iadd, 1)) (r : rk_Run M B P (pc + 1) lv (.int (x + y) :: st) h u) : rk_Run M B P pc lv (.int y :: .int x :: st) h u := by
  intro l p e R s m args below meth c G H locs ls C hR hS hf hl
  exact lv_iadd C.1 C.2.1 hd (r l p e R s m args below meth c G H locs ls C hR hS hf hl)
theorem rk_isub {x y : Int32} (hd : decode M.2.1 pc = .ok (.isub, 1)) (r : rk_Run M B P (pc + 1) lv (.int (x - y) :: st) h u) : rk_Run M B P pc lv (.int y :: .int x :: st) h u := by
  intro l p e R s m args below meth c G H locs ls C hR hS hf hl
  exact lv_isub C.1 C.2.1 hd (r l p e R s m args below meth c G H locs ls C hR hS hf hl)
theorem rk_imul {x y : Int32} (hd : decode M.2.1 pc = .ok (.imul, 1)) (r : rk_Run M B P (pc + 1) lv (.int (x * y) :: st) h u) : rk_Run M B P pc lv (.int y :: .int x :: st) h u := by
  intro l p e R s m args below meth c G H locs ls C hR hS hf hl
  exact lv_imul C.1 C.2.1 hd (r l p e R s m args below meth c G H locs ls C hR hS hf hl)
theorem rk_iand {x y : Int32} (hd : decode M.2.1 pc = .ok (.iand, 1)) (r : rk_Run M B P (pc + 1) lv (.int (x &&& y) :: st) h u) : rk_Run M B P pc lv (.int y :: .int x :: st) h u := by
  intro l p e R s m args below meth c G H locs ls C hR hS hf hl
  exact lv_iand C.1 C.2.1 hd (r l p e R s m args below meth c G H locs ls C hR hS hf hl)
theorem rk_ior {x y : Int32} (hd : decode M.2.1 pc = .ok (.ior, 1)) (r : rk_Run M B P (pc + 1) lv (.int (x ||| y) :: st) h u) : rk_Run M B P pc lv (.int y :: .int x :: st) h u := by
  intro l p e R s m args below meth c G H locs ls C hR hS hf hl
  exact lv_ior C.1 C.2.1 hd (r l p e R s m args below meth c G H locs ls C hR hS hf hl)
theorem rk_ixor {x y : Int32} (hd : decode M.2.1 pc = .ok (.ixor, 1)) (r : rk_Run M B P (pc + 1) lv (.int (x ^^^ y) :: st) h u) : rk_Run M B P pc lv (.int y :: .int x :: st) h u := by
  intro l p e R s m args below meth c G H locs ls C hR hS hf hl
  exact lv_ixor C.1 C.2.1 hd (r l p e R s m args below meth c G H locs ls C hR hS hf hl)
theorem rk_idiv {x y : Int32} (hd : decode M.2.1 pc = .ok (.idiv, 1)) (hne : ¬ y = 0) (r : rk_Run M B P (pc + 1) lv (.int (x / y) :: st) h u) : rk_Run M B P pc lv (.int y :: .int x :: st) h u := by
  intro l p e R s m args below meth c G H locs ls C hR hS hf hl
  exact lv_idiv C.1 C.2.1 hd hne (r l p e R s m args below meth c G H locs ls C hR hS hf hl)
theorem rk_irem {x y : Int32} (hd : decode M.2.1 pc = .ok (.irem, 1)) (hne : ¬ y = 0) (r : rk_Run M B P (pc + 1) lv (.int (x - x / y * y) :: st) h u) : rk_Run M B P pc lv (.int y :: .int x :: st) h u := by
  intro l p e R s m args below meth c G H locs ls C hR hS hf hl
  exact lv_irem C.1 C.2.1 hd hne (r l p e R s m args below meth c G H locs ls C hR hS hf hl)
theorem rk_ineg {x : Int32} (hd : decode M.2.1 pc = .ok (.ineg, 1)) (r : rk_Run M B P (pc + 1) lv (.int (-x) :: st) h u) : rk_Run M B P pc lv (.int x :: st) h u := by
  intro l p e R s m args below meth c G H locs ls C hR hS hf hl
  exact lv_ineg C.1 C.2.1 hd (r l p e R s m args below meth c G H locs ls C hR hS hf hl)
theorem rk_ladd {x y : Int64} (hd : decode M.2.1 pc = .ok (.ladd, 1)) (r : rk_Run M B P (pc + 1) lv (.long (x + y) :: st) h u) : rk_Run M B P pc lv (.long y :: .long x :: st) h u := by
  intro l p e R s m args below meth c G H locs ls C hR hS hf hl
  exact lv_ladd C.1 C.2.1 hd (r l p e R s m args below meth c G H locs ls C hR hS hf hl)
theorem rk_lsub {x y : Int64} (hd : decode M.2.1 pc = .ok (.lsub, 1)) (r : rk_Run M B P (pc + 1) lv (.long (x - y) :: st) h u) : rk_Run M B P pc lv (.long y :: .long x :: st) h u := by
  intro l p e R s m args below meth c G H locs ls C hR hS hf hl
  exact lv_lsub C.1 C.2.1 hd (r l p e R s m args below meth c G H locs ls C hR hS hf hl)
theorem rk_lmul {x y : Int64} (hd : decode M.2.1 pc = .ok (.lmul, 1)) (r : rk_Run M B P (pc + 1) lv (.long (x * y) :: st) h u) : rk_Run M B P pc lv (.long y :: .long x :: st) h u := by
  intro l p e R s m args below meth c G H locs ls C hR hS hf hl
  exact lv_lmul C.1 C.2.1 hd (r l p e R s m args below meth c G H locs ls C hR hS hf hl)
theorem rk_land {x y : Int64} (hd : decode M.2.1 pc = .ok (.land, 1)) (r : rk_Run M B P (pc + 1) lv (.long (x &&& y) :: st) h u) : rk_Run M B P pc lv (.long y :: .long x :: st) h u := by
  intro l p e R s m args below meth c G H locs ls C hR hS hf hl
  exact lv_land C.1 C.2.1 hd (r l p e R s m args below meth c G H locs ls C hR hS hf hl)
theorem rk_lor {x y : Int64} (hd : decode M.2.1 pc = .ok (.lor, 1)) (r : rk_Run M B P (pc + 1) lv (.long (x ||| y) :: st) h u) : rk_Run M B P pc lv (.long y :: .long x :: st) h u := by
  intro l p e R s m args below meth c G H locs ls C hR hS hf hl
  exact lv_lor C.1 C.2.1 hd (r l p e R s m args below meth c G H locs ls C hR hS hf hl)
theorem rk_lxor {x y : Int64} (hd : decode M.2.1 pc = .ok (.lxor, 1)) (r : rk_Run M B P (pc + 1) lv (.long (x ^^^ y) :: st) h u) : rk_Run M B P pc lv (.long y :: .long x :: st) h u := by
  intro l p e R s m args below meth c G H locs ls C hR hS hf hl
  exact lv_lxor C.1 C.2.1 hd (r l p e R s m args below meth c G H locs ls C hR hS hf hl)
theorem rk_ldiv {x y : Int64} (hd : decode M.2.1 pc = .ok (.ldiv, 1)) (hne : ¬ y = 0) (r : rk_Run M B P (pc + 1) lv (.long (x / y) :: st) h u) : rk_Run M B P pc lv (.long y :: .long x :: st) h u := by
  intro l p e R s m args below meth c G H locs ls C hR hS hf hl
  exact lv_ldiv C.1 C.2.1 hd hne (r l p e R s m args below meth c G H locs ls C hR hS hf hl)
theorem rk_lneg {x : Int64} (hd : decode M.2.1 pc = .ok (.lneg, 1)) (r : rk_Run M B P (pc + 1) lv (.long (-x) :: st) h u) : rk_Run M B P pc lv (.long x :: st) h u := by
  intro l p e R s m args below meth c G H locs ls C hR hS hf hl
  exact lv_lneg C.1 C.2.1 hd (r l p e R s m args below meth c G H locs ls C hR hS hf hl)
theorem rk_ishl {x y : Int32} (hd : decode M.2.1 pc = .ok (.ishl, 1)) (r : rk_Run M B P (pc + 1) lv (.int (x <<< (y &&& 31)) :: st) h u) : rk_Run M B P pc lv (.int y :: .int x :: st) h u := by
  intro l p e R s m args below meth c G H locs ls C hR hS hf hl
  exact lv_ishl C.1 C.2.1 hd (r l p e R s m args below meth c G H locs ls C hR hS hf hl)
theorem rk_ishr {x y : Int32} (hd : decode M.2.1 pc = .ok (.ishr, 1)) (r : rk_Run M B P (pc + 1) lv (.int (x >>> (y &&& 31)) :: st) h u) : rk_Run M B P pc lv (.int y :: .int x :: st) h u := by
  intro l p e R s m args below meth c G H locs ls C hR hS hf hl
  exact lv_ishr C.1 C.2.1 hd (r l p e R s m args below meth c G H locs ls C hR hS hf hl)
theorem rk_lshl {x : Int64} {y : Int32} (hd : decode M.2.1 pc = .ok (.lshl, 1)) (r : rk_Run M B P (pc + 1) lv (.long (x <<< (y.toInt64 &&& 63)) :: st) h u) : rk_Run M B P pc lv (.int y :: .long x :: st) h u := by
  intro l p e R s m args below meth c G H locs ls C hR hS hf hl
  exact lv_lshl C.1 C.2.1 hd rfl (r l p e R s m args below meth c G H locs ls C hR hS hf hl)
theorem rk_lshr {x : Int64} {y : Int32} (hd : decode M.2.1 pc = .ok (.lshr, 1)) (r : rk_Run M B P (pc + 1) lv (.long (x >>> (y.toInt64 &&& 63)) :: st) h u) : rk_Run M B P pc lv (.int y :: .long x :: st) h u := by
  intro l p e R s m args below meth c G H locs ls C hR hS hf hl
  exact lv_lshr C.1 C.2.1 hd rfl (r l p e R s m args below meth c G H locs ls C hR hS hf hl)
theorem rk_i2l {x : Int32} (hd : decode M.2.1 pc = .ok (.i2l, 1)) (r : rk_Run M B P (pc + 1) lv (.long x.toInt64 :: st) h u) : rk_Run M B P pc lv (.int x :: st) h u := by
  intro l p e R s m args below meth c G H locs ls C hR hS hf hl
  exact lv_i2l C.1 C.2.1 hd rfl (r l p e R s m args below meth c G H locs ls C hR hS hf hl)
theorem rk_l2i {x : Int64} (hd : decode M.2.1 pc = .ok (.l2i, 1)) (r : rk_Run M B P (pc + 1) lv (.int x.toInt32 :: st) h u) : rk_Run M B P pc lv (.long x :: st) h u := by
  intro l p e R s m args below meth c G H locs ls C hR hS hf hl
  exact lv_l2i C.1 C.2.1 hd rfl (r l p e R s m args below meth c G H locs ls C hR hS hf hl)
theorem rk_i2b {x : Int32} (hd : decode M.2.1 pc = .ok (.i2b, 1)) (r : rk_Run M B P (pc + 1) lv (.int x.toInt8.toInt32 :: st) h u) : rk_Run M B P pc lv (.int x :: st) h u := by
  intro l p e R s m args below meth c G H locs ls C hR hS hf hl
  exact lv_i2b C.1 C.2.1 hd rfl (r l p e R s m args below meth c G H locs ls C hR hS hf hl)
theorem rk_i2d {x : Int32} (hd : decode M.2.1 pc = .ok (.i2d, 1)) (r : rk_Run M B P (pc + 1) lv (.double (FP.i2d x) :: st) h u) : rk_Run M B P pc lv (.int x :: st) h u := by
  intro l p e R s m args below meth c G H locs ls C hR hS hf hl
  exact lv_i2d C.1 C.2.1 hd (r l p e R s m args below meth c G H locs ls C hR hS hf hl)
theorem rk_l2d {x : Int64} (hd : decode M.2.1 pc = .ok (.l2d, 1)) (r : rk_Run M B P (pc + 1) lv (.double (FP.l2d x) :: st) h u) : rk_Run M B P pc lv (.long x :: st) h u := by
  intro l p e R s m args below meth c G H locs ls C hR hS hf hl
  exact lv_l2d C.1 C.2.1 hd (r l p e R s m args below meth c G H locs ls C hR hS hf hl)
theorem rk_d2l {x : UInt64} (hd : decode M.2.1 pc = .ok (.d2l, 1)) (r : rk_Run M B P (pc + 1) lv (.long (FP.d2l x) :: st) h u) : rk_Run M B P pc lv (.double x :: st) h u := by
  intro l p e R s m args below meth c G H locs ls C hR hS hf hl
  exact lv_d2l C.1 C.2.1 hd (r l p e R s m args below meth c G H locs ls C hR hS hf hl)
theorem rk_d2i {x : UInt64} (hd : decode M.2.1 pc = .ok (.d2i, 1)) (r : rk_Run M B P (pc + 1) lv (.int (FP.d2i x) :: st) h u) : rk_Run M B P pc lv (.double x :: st) h u := by
  intro l p e R s m args below meth c G H locs ls C hR hS hf hl
  exact lv_d2i C.1 C.2.1 hd (r l p e R s m args below meth c G H locs ls C hR hS hf hl)
theorem rk_dadd {x y : UInt64} (hd : decode M.2.1 pc = .ok (.dadd, 1)) (hne : vf_n64 (FP.dadd x y)) (r : rk_Run M B P (pc + 1) lv (.double (FP.dadd x y) :: st) h u) : rk_Run M B P pc lv (.double y :: .double x :: st) h u := by
  intro l p e R s m args below meth c G H locs ls C hR hS hf hl
  exact lv_dadd C.1 C.2.1 hd hne (r l p e R s m args below meth c G H locs ls C hR hS hf hl)
theorem rk_dsub {x y : UInt64} (hd : decode M.2.1 pc = .ok (.dsub, 1)) (hne : vf_n64 (FP.dsub x y)) (r : rk_Run M B P (pc + 1) lv (.double (FP.dsub x y) :: st) h u) : rk_Run M B P pc lv (.double y :: .double x :: st) h u := by
  intro l p e R s m args below meth c G H locs ls C hR hS hf hl
  exact lv_dsub C.1 C.2.1 hd hne (r l p e R s m args below meth c G H locs ls C hR hS hf hl)
theorem rk_dmul {x y : UInt64} (hd : decode M.2.1 pc = .ok (.dmul, 1)) (hne : vf_n64 (FP.dmul x y)) (r : rk_Run M B P (pc + 1) lv (.double (FP.dmul x y) :: st) h u) : rk_Run M B P pc lv (.double y :: .double x :: st) h u := by
  intro l p e R s m args below meth c G H locs ls C hR hS hf hl
  exact lv_dmul C.1 C.2.1 hd hne (r l p e R s m args below meth c G H locs ls C hR hS hf hl)
theorem rk_ddiv {x y : UInt64} (hd : decode M.2.1 pc = .ok (.ddiv, 1)) (hne : vf_n64 (FP.ddiv x y)) (r : rk_Run M B P (pc + 1) lv (.double (FP.ddiv x y) :: st) h u) : rk_Run M B P pc lv (.double y :: .double x :: st) h u := by
  intro l p e R s m args below meth c G H locs ls C hR hS hf hl
  exact lv_ddiv C.1 C.2.1 hd hne (r l p e R s m args below meth c G H locs ls C hR hS hf hl)
theorem rk_dcmp {x y : UInt64} {op : CmpOp} (hd : decode M.2.1 pc = .ok (.dcmp op, 1)) (r : rk_Run M B P (pc + 1) lv (.int (Op.cmpValue (FP.dcmp x y) op) :: st) h u) : rk_Run M B P pc lv (.double y :: .double x :: st) h u := by
  intro l p e R s m args below meth c G H locs ls C hR hS hf hl
  exact lv_dcmp C.1 C.2.1 hd (r l p e R s m args below meth c G H locs ls C hR hS hf hl)
theorem rk_dconst0  (hd : decode M.2.1 pc = .ok (.dconst 0, 1)) (r : rk_Run M B P (pc + 1) lv (.double FP.dconst0 :: st) h u) : rk_Run M B P pc lv st h u := by
  intro l p e R s m args below meth c G H locs ls C hR hS hf hl
  exact lv_dconst0 C.1 C.2.1 hd (r l p e R s m args below meth c G H locs ls C hR hS hf hl)
theorem rk_dconst1  (hd : decode M.2.1 pc = .ok (.dconst 1, 1)) (r : rk_Run M B P (pc + 1) lv (.double FP.dconst1 :: st) h u) : rk_Run M B P pc lv st h u := by
  intro l p e R s m args below meth c G H locs ls C hR hS hf hl
  exact lv_dconst1 C.1 C.2.1 hd (r l p e R s m args below meth c G H locs ls C hR hS hf hl)
theorem rk_null  (hd : decode M.2.1 pc = .ok (.aconst_null, 1)) (r : rk_Run M B P (pc + 1) lv (.null :: st) h u) : rk_Run M B P pc lv st h u := by
  intro l p e R s m args below meth c G H locs ls C hR hS hf hl
  exact lv_null C.1 C.2.1 hd (r l p e R s m args below meth c G H locs ls C hR hS hf hl)
theorem rk_dup {va : Value} (hd : decode M.2.1 pc = .ok (.dup, 1)) (h1 : va.category = 1) (r : rk_Run M B P (pc + 1) lv (va :: va :: st) h u) : rk_Run M B P pc lv (va :: st) h u := by
  intro l p e R s m args below meth c G H locs ls C hR hS hf hl
  exact lv_dup C.1 C.2.1 hd h1 (r l p e R s m args below meth c G H locs ls C hR hS hf hl)
theorem rk_pop {va : Value} (hd : decode M.2.1 pc = .ok (.pop, 1)) (h1 : va.category = 1) (r : rk_Run M B P (pc + 1) lv st h u) : rk_Run M B P pc lv (va :: st) h u := by
  intro l p e R s m args below meth c G H locs ls C hR hS hf hl
  exact lv_pop C.1 C.2.1 hd h1 (r l p e R s m args below meth c G H locs ls C hR hS hf hl)
theorem rk_dup_x1 {va vb : Value} (hd : decode M.2.1 pc = .ok (.dup_x1, 1)) (h1 : va.category = 1) (h2 : vb.category = 1) (r : rk_Run M B P (pc + 1) lv (va :: vb :: va :: st) h u) : rk_Run M B P pc lv (va :: vb :: st) h u := by
  intro l p e R s m args below meth c G H locs ls C hR hS hf hl
  exact lv_dup_x1 C.1 C.2.1 hd h1 h2 (r l p e R s m args below meth c G H locs ls C hR hS hf hl)
theorem rk_dup_x2 {va vb vd : Value} (hd : decode M.2.1 pc = .ok (.dup_x2, 1)) (h1 : va.category = 1) (h2 : vb.category = 1) (h3 : vd.category = 1) (r : rk_Run M B P (pc + 1) lv (va :: vb :: vd :: va :: st) h u) : rk_Run M B P pc lv (va :: vb :: vd :: st) h u := by
  intro l p e R s m args below meth c G H locs ls C hR hS hf hl
  exact lv_dup_x2 C.1 C.2.1 hd h1 h2 h3 (r l p e R s m args below meth c G H locs ls C hR hS hf hl)
theorem rk_dup2 {va vb : Value} (hd : decode M.2.1 pc = .ok (.dup2, 1)) (h1 : va.category = 1) (h2 : vb.category = 1) (r : rk_Run M B P (pc + 1) lv (va :: vb :: va :: vb :: st) h u) : rk_Run M B P pc lv (va :: vb :: st) h u := by
  intro l p e R s m args below meth c G H locs ls C hR hS hf hl
  exact lv_dup2_11 C.1 C.2.1 hd h1 h2 (r l p e R s m args below meth c G H locs ls C hR hS hf hl)
theorem rk_dup2w {va : Value} (hd : decode M.2.1 pc = .ok (.dup2, 1)) (h1 : va.category = 2) (r : rk_Run M B P (pc + 1) lv (va :: va :: st) h u) : rk_Run M B P pc lv (va :: st) h u := by
  intro l p e R s m args below meth c G H locs ls C hR hS hf hl
  exact lv_dup2_2 C.1 C.2.1 hd h1 (r l p e R s m args below meth c G H locs ls C hR hS hf hl)
theorem rk_pop2w {va : Value} (hd : decode M.2.1 pc = .ok (.pop2, 1)) (h1 : va.category = 2) (r : rk_Run M B P (pc + 1) lv st h u) : rk_Run M B P pc lv (va :: st) h u := by
  intro l p e R s m args below meth c G H locs ls C hR hS hf hl
  exact lv_pop2_2 C.1 C.2.1 hd h1 (r l p e R s m args below meth c G H locs ls C hR hS hf hl)
theorem rk_lcmp {x y : Int64} (hd : decode M.2.1 pc = .ok (.lcmp, 1)) (r : rk_Run M B P (pc + 1) lv (.int (lg_cmp x y) :: st) h u) : rk_Run M B P pc lv (.long y :: .long x :: st) h u := by
  intro l p e R s m args below meth c G H locs ls C hR hS hf hl
  exact W.lcmp C.1 C.2.1 hd (r l p e R s m args below meth c G H locs ls C hR hS hf hl)
theorem rk_if_eq {x : Int32} {off : Int} (tgt : Nat) (hd : decode M.2.1 pc = .ok (.ifCond .eq off, 3)) (ht : (pc : Int) + off = (tgt : Int)) (rt : x = 0 → rk_Run M B P tgt lv st h u) (rf : ¬ (x = 0) → rk_Run M B P (pc + 3) lv st h u) : rk_Run M B P pc lv (.int x :: st) h u := by
  intro l p e R s m args below meth c G H locs ls C hR hS hf hl
  exact lv_if_eq C.1 C.2.1 hd ht (fun q => rt q l p e R s m args below meth c G H locs ls C hR hS hf hl) (fun q => rf q l p e R s m args below meth c G H locs ls C hR hS hf hl)
theorem rk_icmp_eq {x y : Int32} {off : Int} (tgt : Nat) (hd : decode M.2.1 pc = .ok (.if_icmp .eq off, 3)) (ht : (pc : Int) + off = (tgt : Int)) (rt : x = y → rk_Run M B P tgt lv st h u) (rf : ¬ (x = y) → rk_Run M B P (pc + 3) lv st h u) : rk_Run M B P pc lv (.int y :: .int x :: st) h u := by
  intro l p e R s m args below meth c G H locs ls C hR hS hf hl
  exact lv_icmp_eq C.1 C.2.1 hd ht (fun q => rt q l p e R s m args below meth c G H locs ls C hR hS hf hl) (fun q => rf q l p e R s m args below meth c G H locs ls C hR hS hf hl)
theorem rk_if_ne {x : Int32} {off : Int} (tgt : Nat) (hd : decode M.2.1 pc = .ok (.ifCond .ne off, 3)) (ht : (pc : Int) + off = (tgt : Int)) (rt : ¬ x = 0 → rk_Run M B P tgt lv st h u) (rf : x = 0 → rk_Run M B P (pc + 3) lv st h u) : rk_Run M B P pc lv (.int x :: st) h u := by
  intro l p e R s m args below meth c G H locs ls C hR hS hf hl
  exact lv_if_ne C.1 C.2.1 hd ht (fun q => rt q l p e R s m args below meth c G H locs ls C hR hS hf hl) (fun q => rf q l p e R s m args below meth c G H locs ls C hR hS hf hl)
theorem rk_icmp_ne {x y : Int32} {off : Int} (tgt : Nat) (hd : decode M.2.1 pc = .ok (.if_icmp .ne off, 3)) (ht : (pc : Int) + off = (tgt : Int)) (rt : ¬ x = y → rk_Run M B P tgt lv st h u) (rf : x = y → rk_Run M B P (pc + 3) lv st h u) : rk_Run M B P pc lv (.int y :: .int x :: st) h u := by
  intro l p e R s m args below meth c G H locs ls C hR hS hf hl
  exact lv_icmp_ne C.1 C.2.1 hd ht (fun q => rt q l p e R s m args below meth c G H locs ls C hR hS hf hl) (fun q => rf q l p e R s m args below meth c G H locs ls C hR hS hf hl)
theorem rk_if_lt {x : Int32} {off : Int} (tgt : Nat) (hd : decode M.2.1 pc = .ok (.ifCond .lt off, 3)) (ht : (pc : Int) + off = (tgt : Int)) (rt : x < 0 → rk_Run M B P tgt lv st h u) (rf : ¬ (x < 0) → rk_Run M B P (pc + 3) lv st h u) : rk_Run M B P pc lv (.int x :: st) h u := by
  intro l p e R s m args below meth c G H locs ls C hR hS hf hl
  exact lv_if_lt C.1 C.2.1 hd ht (fun q => rt q l p e R s m args below meth c G H locs ls C hR hS hf hl) (fun q => rf q l p e R s m args below meth c G H locs ls C hR hS hf hl)
theorem rk_icmp_lt {x y : Int32} {off : Int} (tgt : Nat) (hd : decode M.2.1 pc = .ok (.if_icmp .lt off, 3)) (ht : (pc : Int) + off = (tgt : Int)) (rt : x < y → rk_Run M B P tgt lv st h u) (rf : ¬ (x < y) → rk_Run M B P (pc + 3) lv st h u) : rk_Run M B P pc lv (.int y :: .int x :: st) h u := by
  intro l p e R s m args below meth c G H locs ls C hR hS hf hl
  exact lv_icmp_lt C.1 C.2.1 hd ht (fun q => rt q l p e R s m args below meth c G H locs ls C hR hS hf hl) (fun q => rf q l p e R s m args below meth c G H locs ls C hR hS hf hl)
theorem rk_if_ge {x : Int32} {off : Int} (tgt : Nat) (hd : decode M.2.1 pc = .ok (.ifCond .ge off, 3)) (ht : (pc : Int) + off = (tgt : Int)) (rt : 0 ≤ x → rk_Run M B P tgt lv st h u) (rf : ¬ (0 ≤ x) → rk_Run M B P (pc + 3) lv st h u) : rk_Run M B P pc lv (.int x :: st) h u := by
  intro l p e R s m args below meth c G H locs ls C hR hS hf hl
  exact lv_if_ge C.1 C.2.1 hd ht (fun q => rt q l p e R s m args below meth c G H locs ls C hR hS hf hl) (fun q => rf q l p e R s m args below meth c G H locs ls C hR hS hf hl)
theorem rk_icmp_ge {x y : Int32} {off : Int} (tgt : Nat) (hd : decode M.2.1 pc = .ok (.if_icmp .ge off, 3)) (ht : (pc : Int) + off = (tgt : Int)) (rt : y ≤ x → rk_Run M B P tgt lv st h u) (rf : ¬ (y ≤ x) → rk_Run M B P (pc + 3) lv st h u) : rk_Run M B P pc lv (.int y :: .int x :: st) h u := by
  intro l p e R s m args below meth c G H locs ls C hR hS hf hl
  exact lv_icmp_ge C.1 C.2.1 hd ht (fun q => rt q l p e R s m args below meth c G H locs ls C hR hS hf hl) (fun q => rf q l p e R s m args below meth c G H locs ls C hR hS hf hl)
theorem rk_if_gt {x : Int32} {off : Int} (tgt : Nat) (hd : decode M.2.1 pc = .ok (.ifCond .gt off, 3)) (ht : (pc : Int) + off = (tgt : Int)) (rt : 0 < x → rk_Run M B P tgt lv st h u) (rf : ¬ (0 < x) → rk_Run M B P (pc + 3) lv st h u) : rk_Run M B P pc lv (.int x :: st) h u := by
  intro l p e R s m args below meth c G H locs ls C hR hS hf hl
  exact lv_if_gt C.1 C.2.1 hd ht (fun q => rt q l p e R s m args below meth c G H locs ls C hR hS hf hl) (fun q => rf q l p e R s m args below meth c G H locs ls C hR hS hf hl)
theorem rk_icmp_gt {x y : Int32} {off : Int} (tgt : Nat) (hd : decode M.2.1 pc = .ok (.if_icmp .gt off, 3)) (ht : (pc : Int) + off = (tgt : Int)) (rt : y < x → rk_Run M B P tgt lv st h u) (rf : ¬ (y < x) → rk_Run M B P (pc + 3) lv st h u) : rk_Run M B P pc lv (.int y :: .int x :: st) h u := by
  intro l p e R s m args below meth c G H locs ls C hR hS hf hl
  exact lv_icmp_gt C.1 C.2.1 hd ht (fun q => rt q l p e R s m args below meth c G H locs ls C hR hS hf hl) (fun q => rf q l p e R s m args below meth c G H locs ls C hR hS hf hl)
theorem rk_if_le {x : Int32} {off : Int} (tgt : Nat) (hd : decode M.2.1 pc = .ok (.ifCond .le off, 3)) (ht : (pc : Int) + off = (tgt : Int)) (rt : x ≤ 0 → rk_Run M B P tgt lv st h u) (rf : ¬ (x ≤ 0) → rk_Run M B P (pc + 3) lv st h u) : rk_Run M B P pc lv (.int x :: st) h u := by
  intro l p e R s m args below meth c G H locs ls C hR hS hf hl
  exact lv_if_le C.1 C.2.1 hd ht (fun q => rt q l p e R s m args below meth c G H locs ls C hR hS hf hl) (fun q => rf q l p e R s m args below meth c G H locs ls C hR hS hf hl)
theorem rk_icmp_le {x y : Int32} {off : Int} (tgt : Nat) (hd : decode M.2.1 pc = .ok (.if_icmp .le off, 3)) (ht : (pc : Int) + off = (tgt : Int)) (rt : x ≤ y → rk_Run M B P tgt lv st h u) (rf : ¬ (x ≤ y) → rk_Run M B P (pc + 3) lv st h u) : rk_Run M B P pc lv (.int y :: .int x :: st) h u := by
  intro l p e R s m args below meth c G H locs ls C hR hS hf hl
  exact lv_icmp_le C.1 C.2.1 hd ht (fun q => rt q l p e R s m args below meth c G H locs ls C hR hS hf hl) (fun q => rf q l p e R s m args below meth c G H locs ls C hR hS hf hl)
theorem rk_goto {off : Int} (tgt : Nat) (hd : decode M.2.1 pc = .ok (.goto off, 3)) (ht : (pc : Int) + off = (tgt : Int)) (r : rk_Run M B P tgt lv st h u) : rk_Run M B P pc lv st h u := by
  intro l p e R s m args below meth c G H locs ls C hR hS hf hl
  exact lv_goto C.1 C.2.1 hd ht (r l p e R s m args below meth c G H locs ls C hR hS hf hl)
theorem rk_tableIn {dflt lo hi : Int} {offs : Array Int} {len : Nat} {x : Int32} {off : Int} (tgt : Nat) (hd : decode M.2.1 pc = .ok (.tableswitch dflt lo hi offs, len)) (h1 : ¬ x.toInt < lo) (h2 : ¬ hi < x.toInt) (ho : offs[(x.toInt - lo).toNat]? = some off) (ht : (pc : Int) + off = (tgt : Int)) (r : rk_Run M B P tgt lv st h u) : rk_Run M B P pc lv (.int x :: st) h u := by
  intro l p e R s m args below meth c G H locs ls C hR hS hf hl
  exact lv_tableIn C.1 C.2.1 hd h1 h2 ho ht (r l p e R s m args below meth c G H locs ls C hR hS hf hl)
theorem rk_tableOut {dflt lo hi : Int} {offs : Array Int} {len : Nat} {x : Int32} (tgt : Nat) (hd : decode M.2.1 pc = .ok (.tableswitch dflt lo hi offs, len)) (h1 : x.toInt < lo ∨ hi < x.toInt) (ht : (pc : Int) + dflt = (tgt : Int)) (r : rk_Run M B P tgt lv st h u) : rk_Run M B P pc lv (.int x :: st) h u := by
  intro l p e R s m args below meth c G H locs ls C hR hS hf hl
  exact lv_tableOut C.1 C.2.1 hd h1 ht (r l p e R s m args below meth c G H locs ls C hR hS hf hl)
theorem rk_lookup {dflt : Int} {ps : Array (Int × Int)} {len : Nat} {x : Int32} {off : Int} (tgt : Nat) (hd : decode M.2.1 pc = .ok (.lookupswitch dflt ps, len)) (hp : (ps.toList.zip (ps.toList.drop 1)).all (fun (a, next) => a.1 < next.1) = true) (ho : Op.lookupswitch.offset ps.toList dflt x.toInt = off) (ht : (pc : Int) + off = (tgt : Int)) (r : rk_Run M B P tgt lv st h u) : rk_Run M B P pc lv (.int x :: st) h u := by
  intro l p e R s m args below meth c G H locs ls C hR hS hf hl
  exact lv_lookup C.1 C.2.1 hd hp ho ht (r l p e R s m args below meth c G H locs ls C hR hS hf hl)
theorem rk_ifnonnull {x : Nat} {off : Int} (tgt : Nat) (hd : decode M.2.1 pc = .ok (.ifnonnull off, 3)) (ht : (pc : Int) + off = (tgt : Int)) (r : rk_Run M B P tgt lv st h u) : rk_Run M B P pc lv (.ref x :: st) h u := by
  intro l p e R s m args below meth c G H locs ls C hR hS hf hl
  exact lv_ifnonnull C.1 C.2.1 hd ht (r l p e R s m args below meth c G H locs ls C hR hS hf hl)
theorem rk_ifnull {x : Nat} {off : Int} (hd : decode M.2.1 pc = .ok (.ifnull off, 3)) (r : rk_Run M B P (pc + 3) lv st h u) : rk_Run M B P pc lv (.ref x :: st) h u := by
  intro l p e R s m args below meth c G H locs ls C hR hS hf hl
  exact lv_ifnull C.1 C.2.1 hd (r l p e R s m args below meth c G H locs ls C hR hS hf hl)
theorem rk_ldc {idx : Nat} {v : Int32} (hw : Cond.constant M.1.cls idx v ∈ rk_tbl) (hd : decode M.2.1 pc = .ok (.ldc idx, 2)) (r : rk_Run M B P (pc + 2) lv (.int v :: st) h u) : rk_Run M B P pc lv st h u := by
  intro l p e R s m args below meth c G H locs ls C hR hS hf hl
  exact lv_ldc C.1 C.2.1 C.2.2.2.2.2.1 (C.2.2.2.2.2.2.1 _ hw) hd (r l p e R s m args below meth c G H locs ls C hR hS hf hl)
theorem rk_ldc2 {idx : Nat} {v : Int64} (hw : Cond.constantLong M.1.cls idx v ∈ rk_tbl) (hd : decode M.2.1 pc = .ok (.ldc2_w idx, 3)) (r : rk_Run M B P (pc + 3) lv (.long v :: st) h u) : rk_Run M B P pc lv st h u := by
  intro l p e R s m args below meth c G H locs ls C hR hS hf hl
  exact lv_ldc2 C.1 C.2.1 C.2.2.2.2.2.1 (C.2.2.2.2.2.2.1 _ hw) hd (r l p e R s m args below meth c G H locs ls C hR hS hf hl)
theorem rk_ldc2d {idx : Nat} {v : UInt64} (hw : Cond.constantDouble M.1.cls idx v ∈ rk_tbl) (hd : decode M.2.1 pc = .ok (.ldc2_w idx, 3)) (r : rk_Run M B P (pc + 3) lv (.double v :: st) h u) : rk_Run M B P pc lv st h u := by
  intro l p e R s m args below meth c G H locs ls C hR hS hf hl
  exact lv_ldc2d C.1 C.2.1 C.2.2.2.2.2.1 (C.2.2.2.2.2.2.1 _ hw) hd (r l p e R s m args below meth c G H locs ls C hR hS hf hl)
theorem rk_Kva {G : rk_G} {s : State} (hK : rk_K G s) : va_K G.2.1 vwCl [] s := ⟨hK.1, fun k q hq => by simp at hq⟩
theorem rk_lc {G : rk_G} {locs : List Loc} {a i : Nat} (hf : ∀ q ∈ locs, G.1 ≤ q.base) (ha : G.1 ≤ a) : ∀ q ∈ locs ++ [(⟨a, i⟩ : Loc)], G.1 ≤ q.base := by
  intro q hq
  rcases List.mem_append.mp hq with h1 | h1
  · exact hf q h1
  · rw [List.mem_singleton] at h1
    subst h1
    exact ha
/-- a class of the list, with the types of its fields -/
def rk_cls (ci : Nat) (C : String) (T : u_T) (N : Nat) (ty0 : Nat → FieldType) : Prop := vwCl[ci]? = some (C, T, N) ∧ (∀ w ∈ u_ws C T N, w ∈ rk_tbl) ∧ (∀ k, k < N → parseFieldDescriptor (T k).2.2.1 = some (ty0 k)) ∧ (∀ a, a < N → ∀ b, b < N → a ≠ b → (T a).2.1 ≠ (T b).2.1)
def rk_fl (own : String) (idx ci kf : Nat) : Prop := ∃ (C : String) (T : u_T) (N : Nat) (ty0 : Nat → FieldType), rk_cls ci C T N ty0 ∧ kf < N ∧ Cond.fieldLink own idx (T kf).1 (T kf).2.1 (T kf).2.2.1 ∈ rk_tbl
def rk_pl (own : String) (idx ci kf : Nat) (ty : FieldType) : Prop := ∃ (C : String) (T : u_T) (N : Nat) (ty0 : Nat → FieldType), rk_cls ci C T N ty0 ∧ kf < N ∧ Cond.fieldLink own idx (T kf).1 (T kf).2.1 (T kf).2.2.1 ∈ rk_tbl ∧ (T kf).2.2.2 = false ∧ ty0 kf = ty
def rk_pF (own : String) (idx ci kf : Nat) (ty : FieldType) : Prop := ∃ (C : String) (T : u_T) (N : Nat) (ty0 : Nat → FieldType), rk_cls ci C T N ty0 ∧ kf < N ∧ Cond.fieldLink own idx (T kf).1 (T kf).2.1 (T kf).2.2.1 ∈ rk_tbl ∧ (T kf).2.2.2 = true ∧ (T kf).1 = own ∧ ty0 kf = ty
theorem rk_getf {idx ci kf a : Nat} {fs : List Value} {v : Value} (f : rk_fl M.1.cls idx ci kf) (hd : decode M.2.1 pc = .ok (.getfield idx, 3)) (he : h a = some (.inr (ci, fs))) (hv : fs[kf]? = some v) (r : rk_Run M B P (pc + 3) lv (v :: st) h u) : rk_Run M B P pc lv (.ref a :: st) h u := by
  intro l p e R s m args below meth c G H locs ls C hR hS hf hl
  obtain ⟨C0, T, N, ty0, ⟨hc, hin, -, -⟩, hk, hw⟩ := f
  have hts := C.2.2.2.2.2.2.1
  exact va_get (D := G.2.1) (cl := vwCl) (ws := [(a, .inr (ci, fs))]) C.1 C.2.1 hts hin C.2.2.2.2.2.1 (rk_Kva C.2.2.2.2.2.2.2.1) (fun j q hj => by
    cases j with
    | zero => cases hj; exact (hR a _ he).2
    | succ j => simp at hj) 0 rfl hc kf hk (hts _ hw) (fun _ h9 => h9) hv hd (r l p e R s m args below meth c G H locs ls C hR hS hf hl)
theorem rk_putf {idx ci kf a : Nat} {fs : List Value} {v : Value} {ty : FieldType} (f : rk_pl M.1.cls idx ci kf ty) (hd : decode M.2.1 pc = .ok (.putfield idx, 3)) (he : h a = some (.inr (ci, fs))) (hlen : kf < fs.length) (hnr : narrow ty v = v) (hfit : fits ty v = true) (r : rk_Run M B P (pc + 3) lv st (rk_up h a (.inr (ci, fs.set kf v))) u) : rk_Run M B P pc lv (v :: .ref a :: st) h u := by
  intro l p e R s m args below meth c G H locs ls C hR hS hf hl
  obtain ⟨C0, T, N, ty0, ⟨hc, hin, hty, hnm⟩, hk, hw, hfin, hte⟩ := f
  have hts := C.2.2.2.2.2.2.1
  have hK := rk_Kva C.2.2.2.2.2.2.2.1
  have hap := va_apart (own := M.1.cls) hts hin ty0 hty hnm hK hc
  obtain ⟨r0, h1, cell, q1, q2, q3, q4⟩ := (hR a _ he).2
  have hr : r0 = (C0, T, N) := Option.some.inj (h1.symm.trans hc)
  subst hr
  obtain ⟨hSl, hfc, kC, hkC, hkind⟩ := hK.1 ci _ hc
  obtain ⟨cf, kf', fi, f, hi, hsl⟩ := hSl kf hk
  have hlay := hts _ (hin _ (u_in_lay hk))
  unfold u_lay at hlay
  rw [if_neg (by rw [hfin]; decide)] at hlay
  have hst := (u_facts hfc hkC (u_lays hts hin hk) hi).1
  have h6 := u_store hfc hkC hkind hlay hi (hty kf hk) (by rw [hte]; exact hnr) (by rw [hte]; exact hfit)
  refine W.putK C.1 C.2.1 (f := f) ⟨C.2.2.2.2.2.1, hts _ hw, ⟨_, _, _, hi⟩, hst⟩ (by rw [q2]; exact h6) q1 q3 (by rw [hsl]; exact k2_hasslot (q4 kf hk)) rfl rfl hd fun H' e1 e2 e3 => ?_
  rw [hsl] at e1 ⊢
  exact r l p e R s m args below meth c G H' _ ls C (hR.set he ⟨_, hc, t_OB.to (V := updV (vp_V fs) kf v) ⟨_, e1, q2, q3, t_set q4 hap hk v⟩ (fun j _ => vp_updV_set hlen v j)⟩ e3) (hS.put e2 e3 (hR a _ he).1) (rk_lc hf (hR a _ he).1) hl
theorem rk_putF {idx ci kf a : Nat} {fs : List Value} {v : Value} {ty : FieldType} (f : rk_pF M.1.cls idx ci kf ty) (hini : M.1.name = "<init>") (hd : decode M.2.1 pc = .ok (.putfield idx, 3)) (he : h a = some (.inr (ci, fs))) (hlen : kf < fs.length) (hnr : narrow ty v = v) (hfit : fits ty v = true) (r : rk_Run M B P (pc + 3) lv st (rk_up h a (.inr (ci, fs.set kf v))) u) : rk_Run M B P pc lv (v :: .ref a :: st) h u := by
  intro l p e R s m args below meth c G H locs ls C hR hS hf hl
  obtain ⟨C0, T, N, ty0, ⟨hc, hin, hty, hnm⟩, hk, hw, hfin, hdecl, hte⟩ := f
  have hts := C.2.2.2.2.2.2.1
  have hK := rk_Kva C.2.2.2.2.2.2.2.1
  have hown := C.2.2.2.2.2.1
  have hin2 : meth.name = "<init>" := C.2.2.2.2.2.2.2.2.2.2.2.2.2.1.trans hini
  have hap := va_apart (own := M.1.cls) hts hin ty0 hty hnm hK hc
  obtain ⟨r0, h1, cell, q1, q2, q3, q4⟩ := (hR a _ he).2
  have hr : r0 = (C0, T, N) := Option.some.inj (h1.symm.trans hc)
  subst hr
  obtain ⟨hSl, hfc, kC, hkC, hkind⟩ := hK.1 ci _ hc
  obtain ⟨cf, kf', fi, f, hi, hsl⟩ := hSl kf hk
  have hlay := hts _ (hin _ (u_in_lay hk))
  unfold u_lay at hlay
  rw [if_pos hfin] at hlay
  have hst := (u_facts hfc hkC (u_lays hts hin hk) hi).1
  have hcf : m.cls = cf := by
    obtain ⟨_, _, c', _, _, _, -, -, hf', -, -, -, hown2, -⟩ := Cond.laysFinal_spec hlay
    have e1 : c' = cf := by have := hi.symm.trans hf'; simp at this; exact this.1.symm
    rw [hdecl] at hown2
    rw [← e1]; exact Option.some.inj (hown.symm.trans hown2)
  have h6 := u_fits hfc hkC hkind (Or.inr hlay) hi (hty kf hk) (by rw [hte]; exact hnr) (by rw [hte]; exact hfit)
  refine W.putFinK C.1 C.2.1 hown (hts _ hw) hi hst hcf hin2 (by rw [q2]; exact h6) q1 q3 (by rw [hsl]; exact k2_hasslot (q4 kf hk)) rfl rfl hd fun H' e1 e2 e3 => ?_
  rw [hsl] at e1 ⊢
  exact r l p e R s m args below meth c G H' _ ls C (hR.set he ⟨_, hc, t_OB.to (V := updV (vp_V fs) kf v) ⟨_, e1, q2, q3, t_set q4 hap hk v⟩ (fun j _ => vp_updV_set hlen v j)⟩ e3) (hS.put e2 e3 (hR a _ he).1) (rk_lc hf (hR a _ he).1) hl
theorem rk_new {idx ci N : Nat} {C0 : String} {T : u_T} {ty0 : Nat → FieldType} {fs : List Value} (kc : rk_cls ci C0 T N ty0) (hw1 : Cond.classLink M.1.cls idx C0 ∈ rk_tbl) (hw2 : Cond.instantiable C0 N ∈ rk_tbl) (hw3 : Cond.initialized C0 ∈ rk_tbl) (hfs : ∀ j, j < N → defaultValue (ty0 j) = vp_V fs j) (hd : decode M.2.1 pc = .ok (.new idx, 3)) (hk : u.1 + 1 ≤ B.2.2.1) (hn : u.2 + N ≤ B.2.2.2)
    (r : ∀ q : Nat, h q = none → rk_Run M B P (pc + 3) lv (.ref q :: st) (rk_up h q (.inr (ci, fs))) (u.1 + 1, u.2 + N)) : rk_Run M B P pc lv st h u := by
  intro l p e R s m args below meth c G H locs ls C hR hS hf hl
  obtain ⟨hc, hin, hty, hnm⟩ := kc
  have hts := C.2.2.2.2.2.2.1
  have hKn := C.2.2.2.2.2.2.2.1.1 ci _ hc
  have hcells := C.2.2.2.2.2.2.2.2.2.2.2.1
  have hslots := C.2.2.2.2.2.2.2.2.2.2.2.2.1
  refine W.newcK C.1 C.2.1 C.2.2.2.2.2.1 (hts _ hw1) (hts _ hw2) (hts _ hw3) rfl hd (Nat.le_trans hk hcells) (Nat.le_trans hn hslots) hKn.2.1 rfl fun H1 kC hkC e1 z1 o1 => ?_
  exact r H.size hR.fresh l p e R s m args below meth c G H1 locs ls C (hR.push hS.1.1 ⟨_, hc, (u_born ty0 hts hin hKn hkC e1 hty).to hfs⟩ o1) (hS.push z1 o1) hf hl
/-- the int array's kind is 0 in rk_ty -/
theorem rk_newi {N : Nat} {x : Int32} {at0 : ArrayType} (hat : newarray.typeOf at0 = .int) (hw : Cond.arrayClass .int ∈ rk_tbl) (hx : x = nI N) (hN : N < 100000) (hd : decode M.2.1 pc = .ok (.newarray at0, 2)) (hk : u.1 + 1 ≤ B.2.2.1) (hn : u.2 + N ≤ B.2.2.2)
    (r : ∀ q : Nat, h q = none → rk_Run M B P (pc + 2) lv (.ref q :: st) (rk_up h q (.inl (0, N, .inl (fun _ => 0)))) (u.1 + 1, u.2 + N)) : rk_Run M B P pc lv (.int x :: st) h u := by
  intro l p e R s m args below meth c G H locs ls C hR hS hf hl
  subst hx
  have hts := C.2.2.2.2.2.2.1
  have hcells := C.2.2.2.2.2.2.2.2.2.2.2.1
  have hslots := C.2.2.2.2.2.2.2.2.2.2.2.2.1
  refine va_newaK C.1 C.2.1 (atype := at0) (by rw [hat]; exact hts _ hw) rfl hd rfl (nI_pos (by omega)) (nI_clamp (by omega)) (by rw [hat]; show N * 4 ≤ _; omega) (Nat.le_trans hk hcells) (Nat.le_trans hn hslots) rfl fun H1 cA e1 z1 o1 _ hNm => ?_
  rw [hat] at e1 hNm
  have hcA : cA = G.2.2 0 := Option.some.inj (hNm.symm.trans (show s.vm.findClass ("[" ++ FieldType.int.toString) = some (G.2.2 0) from (C.2.2.2.2.2.2.2.1.2.1 0 .int rfl).2))
  subst hcA
  exact r H.size hR.fresh l p e R s m args below meth c G H1 locs ls C (hR.push hS.1.1 (show H1[H.size]? = some (vp_cell (G.2.2 0) (N, .inl (fun _ => 0))) from e1) o1) (hS.push z1 o1) hf hl
theorem rk_iald {a N : Nat} {f : Nat → Int32} {i : Int32} (hd : decode M.2.1 pc = .ok (.iaload, 1)) (he : h a = some (.inl (0, N, .inl f))) (hi : vp_in i N) (r : rk_Run M B P (pc + 1) lv (.int (f i.toNatClampNeg) :: st) h u) : rk_Run M B P pc lv (.int i :: .ref a :: st) h u := by
  intro l p e R s m args below meth c G H locs ls C hR hS hf hl
  have hlt : i.toNatClampNeg < N := Nat.not_le.mp fun q => hi (Or.inr q)
  exact W.iald (v := .int (f i.toNatClampNeg)) C.1 C.2.1 (show H[a]? = some (vp_cell (G.2.2 0) (N, .inl f)) from (hR a _ he).2) ((C.2.2.2.2.2.2.2.1.2.1 0 .int rfl).1 N (fun j => .int (f j))) (fun q => by cases q) (by show ¬ (i < 0 ∨ (arrV _ _ _).slots.size ≤ _); rw [arrV_size]; exact hi) (by show (arrV _ _ _).slots[_]? = _; rw [arrV_read _ _ hlt]) rfl rfl hd (r l p e R s m args below meth c G H locs ls C hR hS hf hl)
theorem rk_iast {a N : Nat} {f : Nat → Int32} {i x : Int32} (hd : decode M.2.1 pc = .ok (.iastore, 1)) (he : h a = some (.inl (0, N, .inl f))) (hi : vp_in i N) (r : rk_Run M B P (pc + 1) lv st (rk_up h a (.inl (0, N, .inl (upd f i.toNatClampNeg x)))) u) : rk_Run M B P pc lv (.int x :: .int i :: .ref a :: st) h u := by
  intro l p e R s m args below meth c G H locs ls C hR hS hf hl
  refine W.iast C.1 C.2.1 (show H[a]? = some (vp_cell (G.2.2 0) (N, .inl f)) from (hR a _ he).2) ((C.2.2.2.2.2.2.2.1.2.1 0 .int rfl).1 N (fun j => .int (f j))) (fun q => by cases q) (by show ¬ (i < 0 ∨ (arrV _ _ _).slots.size ≤ _); rw [arrV_size]; exact hi) rfl rfl hd fun H1 e1 z oq => ?_
  refine r l p e R s m args below meth c G H1 _ ls C (hR.set he ?_ oq) (hS.put z oq (hR a _ he).1) (rk_lc hf (hR a _ he).1) hl
  show H1[a]? = some (vp_cell _ _)
  rw [e1]
  rw [vp_cell_i, vp_cell_i, arrV_store]
  congr 2
  funext q
  by_cases hq : q = i.toNatClampNeg
  · subst hq
    simp [updV, upd]
  · simp [updV, upd, hq]
theorem rk_lald {a N : Nat} {f : Nat → Int64} {i : Int32} (hd : decode M.2.1 pc = .ok (.laload, 1)) (he : h a = some (.inl (1, N, .inr (.inl f)))) (hi : vp_in i N) (r : rk_Run M B P (pc + 1) lv (.long (f i.toNatClampNeg) :: st) h u) : rk_Run M B P pc lv (.int i :: .ref a :: st) h u := by
  intro l p e R s m args below meth c G H locs ls C hR hS hf hl
  have hlt : i.toNatClampNeg < N := Nat.not_le.mp fun q => hi (Or.inr q)
  exact W.lald (v := .long (f i.toNatClampNeg)) C.1 C.2.1 (show H[a]? = some (vp_cell (G.2.2 1) (N, .inr (.inl f))) from (hR a _ he).2) ((C.2.2.2.2.2.2.2.1.2.1 1 .long rfl).1 N (fun j => .long (f j))) (fun q => by cases q) (by show ¬ (i < 0 ∨ (arrV _ _ _).slots.size ≤ _); rw [arrV_size]; exact hi) (by show (arrV _ _ _).slots[_]? = _; rw [arrV_read _ _ hlt]) rfl rfl hd (r l p e R s m args below meth c G H locs ls C hR hS hf hl)
theorem rk_last {a N : Nat} {f : Nat → Int64} {i : Int32} {x : Int64} (hd : decode M.2.1 pc = .ok (.lastore, 1)) (he : h a = some (.inl (1, N, .inr (.inl f)))) (hi : vp_in i N) (r : rk_Run M B P (pc + 1) lv st (rk_up h a (.inl (1, N, .inr (.inl (va_up f i.toNatClampNeg x))))) u) : rk_Run M B P pc lv (.long x :: .int i :: .ref a :: st) h u := by
  intro l p e R s m args below meth c G H locs ls C hR hS hf hl
  refine W.last C.1 C.2.1 (show H[a]? = some (vp_cell (G.2.2 1) (N, .inr (.inl f))) from (hR a _ he).2) ((C.2.2.2.2.2.2.2.1.2.1 1 .long rfl).1 N (fun j => .long (f j))) (fun q => by cases q) (by show ¬ (i < 0 ∨ (arrV _ _ _).slots.size ≤ _); rw [arrV_size]; exact hi) rfl rfl hd fun H1 e1 z oq => ?_
  refine r l p e R s m args below meth c G H1 _ ls C (hR.set he ?_ oq) (hS.put z oq (hR a _ he).1) (rk_lc hf (hR a _ he).1) hl
  show H1[a]? = some (vp_cell _ _)
  rw [e1]
  rw [vp_cell_l, vp_cell_l, arrV_store]
  congr 2
  funext q
  by_cases hq : q = i.toNatClampNeg
  · subst hq
    simp [updV, va_up]
  · simp [updV, va_up, hq]
theorem rk_newl {N : Nat} {x : Int32} {at0 : ArrayType} (hat : newarray.typeOf at0 = .long) (hw : Cond.arrayClass .long ∈ rk_tbl) (hx : x = nI N) (hN : N < 100000) (hd : decode M.2.1 pc = .ok (.newarray at0, 2)) (hk : u.1 + 1 ≤ B.2.2.1) (hn : u.2 + N ≤ B.2.2.2)
    (r : ∀ q : Nat, h q = none → rk_Run M B P (pc + 2) lv (.ref q :: st) (rk_up h q (.inl (1, N, .inr (.inl (fun _ => 0))))) (u.1 + 1, u.2 + N)) : rk_Run M B P pc lv (.int x :: st) h u := by
  intro l p e R s m args below meth c G H locs ls C hR hS hf hl
  subst hx
  have hts := C.2.2.2.2.2.2.1
  have hcells := C.2.2.2.2.2.2.2.2.2.2.2.1
  have hslots := C.2.2.2.2.2.2.2.2.2.2.2.2.1
  refine va_newaK C.1 C.2.1 (atype := at0) (by rw [hat]; exact hts _ hw) rfl hd rfl (nI_pos (by omega)) (nI_clamp (by omega)) (by rw [hat]; show N * 8 ≤ _; omega) (Nat.le_trans hk hcells) (Nat.le_trans hn hslots) rfl fun H1 cA e1 z1 o1 _ hNm => ?_
  rw [hat] at e1 hNm
  have hcA : cA = G.2.2 1 := Option.some.inj (hNm.symm.trans (show s.vm.findClass ("[" ++ FieldType.long.toString) = some (G.2.2 1) from (C.2.2.2.2.2.2.2.1.2.1 1 .long rfl).2))
  subst hcA
  exact r H.size hR.fresh l p e R s m args below meth c G H1 locs ls C (hR.push hS.1.1 (show H1[H.size]? = some (vp_cell (G.2.2 1) (N, .inr (.inl (fun _ => 0)))) from e1) o1) (hS.push z1 o1) hf hl
theorem rk_dald {a N : Nat} {f : Nat → UInt64} {i : Int32} (hd : decode M.2.1 pc = .ok (.daload, 1)) (he : h a = some (.inl (2, N, .inr (.inr (.inr (.inl f)))))) (hi : vp_in i N) (r : rk_Run M B P (pc + 1) lv (.double (f i.toNatClampNeg) :: st) h u) : rk_Run M B P pc lv (.int i :: .ref a :: st) h u := by
  intro l p e R s m args below meth c G H locs ls C hR hS hf hl
  have hlt : i.toNatClampNeg < N := Nat.not_le.mp fun q => hi (Or.inr q)
  exact W.dald (v := .double (f i.toNatClampNeg)) C.1 C.2.1 (show H[a]? = some (vp_cell (G.2.2 2) (N, .inr (.inr (.inr (.inl f))))) from (hR a _ he).2) ((C.2.2.2.2.2.2.2.1.2.1 2 .double rfl).1 N (fun j => .double (f j))) (fun q => by cases q) (by show ¬ (i < 0 ∨ (arrV _ _ _).slots.size ≤ _); rw [arrV_size]; exact hi) (by show (arrV _ _ _).slots[_]? = _; rw [arrV_read _ _ hlt]) rfl rfl hd (r l p e R s m args below meth c G H locs ls C hR hS hf hl)
theorem rk_dast {a N : Nat} {f : Nat → UInt64} {i : Int32} {x : UInt64} (hd : decode M.2.1 pc = .ok (.dastore, 1)) (he : h a = some (.inl (2, N, .inr (.inr (.inr (.inl f)))))) (hi : vp_in i N) (r : rk_Run M B P (pc + 1) lv st (rk_up h a (.inl (2, N, .inr (.inr (.inr (.inl (va_up f i.toNatClampNeg x))))))) u) : rk_Run M B P pc lv (.double x :: .int i :: .ref a :: st) h u := by
  intro l p e R s m args below meth c G H locs ls C hR hS hf hl
  refine W.dast C.1 C.2.1 (show H[a]? = some (vp_cell (G.2.2 2) (N, .inr (.inr (.inr (.inl f))))) from (hR a _ he).2) ((C.2.2.2.2.2.2.2.1.2.1 2 .double rfl).1 N (fun j => .double (f j))) (fun q => by cases q) (by show ¬ (i < 0 ∨ (arrV _ _ _).slots.size ≤ _); rw [arrV_size]; exact hi) rfl rfl hd fun H1 e1 z oq => ?_
  refine r l p e R s m args below meth c G H1 _ ls C (hR.set he ?_ oq) (hS.put z oq (hR a _ he).1) (rk_lc hf (hR a _ he).1) hl
  show H1[a]? = some (vp_cell _ _)
  rw [e1]
  rw [vp_cell_d, vp_cell_d, arrV_store]
  congr 2
  funext q
  by_cases hq : q = i.toNatClampNeg
  · subst hq
    simp [updV, va_up]
  · simp [updV, va_up, hq]
theorem rk_newd {N : Nat} {x : Int32} {at0 : ArrayType} (hat : newarray.typeOf at0 = .double) (hw : Cond.arrayClass .double ∈ rk_tbl) (hx : x = nI N) (hN : N < 100000) (hd : decode M.2.1 pc = .ok (.newarray at0, 2)) (hk : u.1 + 1 ≤ B.2.2.1) (hn : u.2 + N ≤ B.2.2.2)
    (r : ∀ q : Nat, h q = none → rk_Run M B P (pc + 2) lv (.ref q :: st) (rk_up h q (.inl (2, N, .inr (.inr (.inr (.inl (fun _ => 0))))))) (u.1 + 1, u.2 + N)) : rk_Run M B P pc lv (.int x :: st) h u := by
  intro l p e R s m args below meth c G H locs ls C hR hS hf hl
  subst hx
  have hts := C.2.2.2.2.2.2.1
  have hcells := C.2.2.2.2.2.2.2.2.2.2.2.1
  have hslots := C.2.2.2.2.2.2.2.2.2.2.2.2.1
  refine va_newaK C.1 C.2.1 (atype := at0) (by rw [hat]; exact hts _ hw) rfl hd rfl (nI_pos (by omega)) (nI_clamp (by omega)) (by rw [hat]; show N * 8 ≤ _; omega) (Nat.le_trans hk hcells) (Nat.le_trans hn hslots) rfl fun H1 cA e1 z1 o1 _ hNm => ?_
  rw [hat] at e1 hNm
  have hcA : cA = G.2.2 2 := Option.some.inj (hNm.symm.trans (show s.vm.findClass ("[" ++ FieldType.double.toString) = some (G.2.2 2) from (C.2.2.2.2.2.2.2.1.2.1 2 .double rfl).2))
  subst hcA
  exact r H.size hR.fresh l p e R s m args below meth c G H1 locs ls C (hR.push hS.1.1 (show H1[H.size]? = some (vp_cell (G.2.2 2) (N, .inr (.inr (.inr (.inl (fun _ => 0)))))) from e1) o1) (hS.push z1 o1) hf hl
theorem rk_alen {a N kd : Nat} {x : (Nat → Int32) ⊕ (Nat → Int64) ⊕ (Nat → UInt32) ⊕ (Nat → UInt64) ⊕ (Nat → Option Nat)} (hkd : kd < rk_ty.length) (hd : decode M.2.1 pc = .ok (.arraylength, 1)) (he : h a = some (.inl (kd, N, x))) (r : rk_Run M B P (pc + 1) lv (.int (nI N) :: st) h u) : rk_Run M B P pc lv (.ref a :: st) h u := by
  intro l p e R s m args below meth c G H locs ls C hR hS hf hl
  have hk := C.2.2.2.2.2.2.2.1.2.1 kd rk_ty[kd] (List.getElem?_eq_getElem hkd)
  exact va_alen (D := G.2.1) (cl := vwCl) (ws := [(a, .inl (G.2.2 kd, N, x))]) (tys := [(G.2.2 kd, rk_ty[kd])]) C.1 C.2.1 ⟨C.2.2.2.2.2.2.2.1.1, fun j q hj => by
    cases j with
    | zero => cases hj; exact hk
    | succ j => simp at hj⟩ (fun j q hj => by
    cases j with
    | zero => cases hj; exact (hR a _ he).2
    | succ j => simp at hj) 0 0 rfl rfl rfl hd (r l p e R s m args below meth c G H locs ls C hR hS hf hl)
/-- references: the kinds of rk_ty from 1 on -/
theorem rk_aald {a N kd : Nat} {C0 : String} {f : Nat → Option Nat} {i : Int32} {v : Value} (hty : rk_ty[kd]? = some (.object C0)) (hd : decode M.2.1 pc = .ok (.aaload, 1)) (he : h a = some (.inl (kd, N, .inr (.inr (.inr (.inr f)))))) (hi : vp_in i N) (hv : va_rf (f i.toNatClampNeg) = v) (r : rk_Run M B P (pc + 1) lv (v :: st) h u) : rk_Run M B P pc lv (.int i :: .ref a :: st) h u := by
  intro l p e R s m args below meth c G H locs ls C hR hS hf hl
  subst hv
  have hlt : i.toNatClampNeg < N := Nat.not_le.mp fun q => hi (Or.inr q)
  exact W.aald (v := va_rf (f i.toNatClampNeg)) (ty := .object C0) C.1 C.2.1 (show H[a]? = some (vp_cell (G.2.2 kd) (N, .inr (.inr (.inr (.inr f))))) from (hR a _ he).2) ((C.2.2.2.2.2.2.2.1.2.1 kd _ hty).1 N (fun j => va_rf (f j))) rfl (fun q => by cases q) (by show ¬ (i < 0 ∨ (arrV _ _ _).slots.size ≤ _); rw [arrV_size]; exact hi) (by show (arrV _ _ _).slots[_]? = _; rw [arrV_read _ _ hlt]) rfl rfl hd (r l p e R s m args below meth c G H locs ls C hR hS hf hl)
theorem rk_aast {a N kd v ci : Nat} {rc : vw_C} {vs : List Value} {f : Nat → Option Nat} {i : Int32} (hty : rk_ty[kd]? = some (.object rc.1)) (hc : vwCl[ci]? = some rc) (hd : decode M.2.1 pc = .ok (.aastore, 1)) (he : h a = some (.inl (kd, N, .inr (.inr (.inr (.inr f)))))) (hv : h v = some (.inr (ci, vs))) (hi : vp_in i N) (r : rk_Run M B P (pc + 1) lv st (rk_up h a (.inl (kd, N, .inr (.inr (.inr (.inr (va_up f i.toNatClampNeg (some v)))))))) u) : rk_Run M B P pc lv (.ref v :: .int i :: .ref a :: st) h u := by
  intro l p e R s m args below meth c G H locs ls C hR hS hf hl
  have hlt : i.toNatClampNeg < N := Nat.not_le.mp fun q => hi (Or.inr q)
  have h0 : ¬ i < 0 := fun q => hi (Or.inl q)
  obtain ⟨r', hr', cellV, g1, g2, g3, -⟩ := (hR v _ hv).2
  have hcls := (C.2.2.2.2.2.2.2.1.1 ci rc hc).2
  obtain ⟨kA, comp, k1, k2, k3, -⟩ := (C.2.2.2.2.2.2.2.1.2.1 kd _ hty).2
  have hcomp : comp = G.2.1.1 ci := Option.some.inj (k3.symm.trans hcls.1)
  subst hcomp
  obtain ⟨kC, hkC, -⟩ := hcls.2
  refine W.aast C.1 C.2.1 (show H[a]? = some (vp_cell (G.2.2 kd) (N, .inr (.inr (.inr (.inr f))))) from (hR a _ he).2) (fun q h => by cases h) (fun h => by cases h) k1 k2 rfl hkC ⟨h0, by show _ < (arrV _ _ _).slots.size; rw [arrV_size]; exact hlt⟩ g1 (fun q h => by rw [g3] at h; cases h) (by rw [g2]; exact hkC) (by rw [g2]; exact va_assign hcls) rfl rfl hd fun H1 e1 z oq => ?_
  refine r l p e R s m args below meth c G H1 _ ls C (hR.set he ?_ oq) (hS.put z oq (hR a _ he).1) (rk_lc hf (hR a _ he).1) hl
  show H1[a]? = some (vp_cell _ _)
  rw [e1]
  rw [vp_cell_q, vp_cell_q, arrV_store]
  congr 2
  funext q
  by_cases hq : q = i.toNatClampNeg
  · subst hq
    simp [updV, va_up, va_rf]
  · simp [updV, va_up, hq]
theorem rk_newq {idx N kd : Nat} {C0 : String} {x : Int32} (hty : rk_ty[kd]? = some (.object C0)) (hw : Cond.classLink M.1.cls idx C0 ∈ rk_tbl) (hw2 : Cond.arrayOver (.object C0) ∈ rk_tbl) (hx : x = nI N) (hN : N < 100000) (hd : decode M.2.1 pc = .ok (.anewarray idx, 3)) (hk : u.1 + 1 ≤ B.2.2.1) (hn : u.2 + N ≤ B.2.2.2)
    (r : ∀ q : Nat, h q = none → rk_Run M B P (pc + 3) lv (.ref q :: st) (rk_up h q (.inl (kd, N, .inr (.inr (.inr (.inr (fun _ => none))))))) (u.1 + 1, u.2 + N)) : rk_Run M B P pc lv (.int x :: st) h u := by
  intro l p e R s m args below meth c G H locs ls C hR hS hf hl
  subst hx
  have hts := C.2.2.2.2.2.2.1
  have hcells := C.2.2.2.2.2.2.2.2.2.2.2.1
  have hslots := C.2.2.2.2.2.2.2.2.2.2.2.2.1
  have hcl : (nI N).toNatClampNeg = N := nI_clamp (by omega)
  refine W.anew C.1 C.2.1 C.2.2.2.2.2.1 (hts _ hw) (hts _ hw2) rfl hd rfl (nI_pos (by omega)) (by rw [hcl]; omega) (Nat.le_trans hk hcells) (by rw [hcl]; exact Nat.le_trans hn hslots) fun cA kA comp f1 f2 f3 f4 => ?_
  rw [hcl]
  obtain ⟨kA', comp', k1, k2, k3, k4⟩ := (C.2.2.2.2.2.2.2.1.2.1 kd _ hty).2
  have hcA : cA = G.2.2 kd := Option.some.inj (f1.symm.trans k4)
  subst hcA
  generalize hH1 : H.push ({ cls := G.2.2 kd, slots := Array.replicate N .null, vm := .none } : Cell) = H1
  have z1 : H1.size = H.size + 1 := by rw [← hH1, Array.size_push]
  have e1 : H1[H.size]? = some (arrV (G.2.2 kd) N (fun _ => .null)) := by rw [← hH1, Array.getElem?_push_size, ← arrV_new]
  have o1 : ∀ q : Nat, q < H.size → H1[q]? = H[q]? := fun q hq => by rw [← hH1, Array.getElem?_push, if_neg (Nat.ne_of_lt hq)]
  exact r H.size hR.fresh l p e R s m args below meth c G H1 locs ls C (hR.push hS.1.1 (show H1[H.size]? = some (vp_cell (G.2.2 kd) (N, .inr (.inr (.inr (.inr (fun _ => none)))))) from e1) o1) (hS.push z1 o1) hf hl
/-- Object's constructor -/
theorem rk_objI {idx a : Nat} (hw : Cond.methodLink M.1.cls idx objectInit ∈ rk_tbl) (hw2 : Cond.instanceMethod objectInit ∈ rk_tbl) (hw3 : Cond.code objectInit ⟨#[0xb1]⟩ 1 none ∈ rk_tbl) (hd : decode M.2.1 pc = .ok (.invokespecial idx, 3)) (hf1 : 1 ≤ B.1) (hst : (st.map fun v => v.category).sum + 15 ≤ B.2.1) (r : rk_Run M B P (pc + 3) lv st h u) : rk_Run M B P pc lv (.ref a :: st) h u := by
  intro l p e R s m args below meth c G H locs ls C hR hS hf hl
  have hts := C.2.2.2.2.2.2.1
  have h1 := C.2.2.2.2.2.2.2.2.2.1
  have h2 := C.2.2.2.2.2.2.2.2.2.2.1
  exact W.objInit C.1 C.2.1 C.2.2.2.2.2.1 (hts _ hw) (hts _ hw2) (hts _ hw3) rfl (by rw [C.2.2.1]; exact hl.1) rfl hd (by omega) (by show 2 * 0 + _ + 12 ≤ _; omega) (r l p e R s m args below meth c G H locs ls C hR hS hf hl)
/-- Math -/
theorem rk_mmax {idx : Nat} {x y : Int32} (hw : Cond.methodLink M.1.cls idx Lib.Math.max.name ∈ rk_tbl) (hw2 : Cond.static Lib.Math.max.name ∈ rk_tbl) (hw3 : Cond.initialized "java/lang/Math" ∈ rk_tbl) (hw4 : Cond.code Lib.Math.max.name Lib.Math.max.code 2 (some .int) ∈ rk_tbl) (hd : decode M.2.1 pc = .ok (.invokestatic idx, 3)) (hu : rk_ok u B) (hf1 : 1 ≤ B.1) (hst : (st.map fun v => v.category).sum + 15 ≤ B.2.1) (r : rk_Run M B P (pc + 3) lv (.int (if x < y then y else x) :: st) h u) : rk_Run M B P pc lv (.int y :: .int x :: st) h u := by
  intro l p e R s m args below meth c G H locs ls C hR hS hf hl
  have hts := C.2.2.2.2.2.2.1
  have h1 := C.2.2.2.2.2.2.2.2.2.1
  have h2 := C.2.2.2.2.2.2.2.2.2.2.1
  exact va_mmax C.1 C.2.1 (by rw [C.2.2.1]; exact hl.1.symm) C.2.2.2.2.2.1 (hts _ hw) (hts _ hw2) (hts _ hw3) (hts _ hw4) (by omega) (by omega) (Nat.le_trans hu.1 C.2.2.2.2.2.2.2.2.2.2.2.1) (Nat.le_trans hu.2 C.2.2.2.2.2.2.2.2.2.2.2.2.1) hd (r l p e R s m args below meth c G H locs ls C hR hS hf hl)
theorem rk_mmin {idx : Nat} {x y : Int32} (hw : Cond.methodLink M.1.cls idx Lib.Math.min.name ∈ rk_tbl) (hw2 : Cond.static Lib.Math.min.name ∈ rk_tbl) (hw3 : Cond.initialized "java/lang/Math" ∈ rk_tbl) (hw4 : Cond.code Lib.Math.min.name Lib.Math.min.code 2 (some .int) ∈ rk_tbl) (hd : decode M.2.1 pc = .ok (.invokestatic idx, 3)) (hu : rk_ok u B) (hf1 : 1 ≤ B.1) (hst : (st.map fun v => v.category).sum + 15 ≤ B.2.1) (r : rk_Run M B P (pc + 3) lv (.int (if y < x then y else x) :: st) h u) : rk_Run M B P pc lv (.int y :: .int x :: st) h u := by
  intro l p e R s m args below meth c G H locs ls C hR hS hf hl
  have hts := C.2.2.2.2.2.2.1
  have h1 := C.2.2.2.2.2.2.2.2.2.1
  have h2 := C.2.2.2.2.2.2.2.2.2.2.1
  exact va_mmin C.1 C.2.1 (by rw [C.2.2.1]; exact hl.1.symm) C.2.2.2.2.2.1 (hts _ hw) (hts _ hw2) (hts _ hw3) (hts _ hw4) (by omega) (by omega) (Nat.le_trans hu.1 C.2.2.2.2.2.2.2.2.2.2.2.1) (Nat.le_trans hu.2 C.2.2.2.2.2.2.2.2.2.2.2.2.1) hd (r l p e R s m args below meth c G H locs ls C hR hS hf hl)
end RKR
/-! CALLS -/
def rk_find : List (Nat × Nat × Nat × Nat × String) → Nat → String → Option Nat
  | [], _, _ => none
  | q :: t, pc, C => if q.1 ≤ pc ∧ pc < q.2.1 then (if q.2.2.2.2 = C then some q.2.2.1 else rk_find t pc C) else rk_find t pc C
/-- what goes on behind a call -/
def rk_nx (M : rk_M) (B : rk_B) (P : rk_P) (pc : Nat) (lv : List (Option Value)) (rest : List Value) (h : rk_H) (u : rk_U) (r : rk_O) : Prop := match r with
  | .inl v => rk_Run M B P (pc + 3) lv (v.toList ++ rest) h u
  | .inr C => match M.2.2.2.2 with
    | [] => P (.inr C) h ∧ rk_ok u B
    | hh => (∃ hp : Nat, rk_find hh pc C = some hp ∧ ∀ a : Nat, rk_Run M B P hp lv [.ref a] h u) ∧ C ∈ rk_exc ∧ ∀ q ∈ hh, q.2.2.2.1 ≠ 0 ∧ q.2.2.2.2 ∈ rk_exc ∧ Cond.classLink M.1.cls q.2.2.2.1 q.2.2.2.2 ∈ rk_tbl
theorem rk_wd_spec {N : rk_M} {args : Array Value} {s : State} (h : (rk_wd N).before args s = true) : ∃ (mk : MethodId) (meth : Method) (cd : Code), s.methodNamed? N.1 = some mk ∧ s.vm.method? mk = some meth ∧ meth.code = some cd ∧ cd.maxLocals = N.2.2.1 ∧ parseMethodDescriptor N.1.desc = some meth.sig := by
  obtain ⟨y, bs, nL, rt, hh⟩ := N
  cases hh with
  | nil =>
    have h' : (Cond.code y bs nL rt).before args s = true := h
    obtain ⟨mk, hn⟩ := Cond.code_named h'
    obtain ⟨meth, c, h1, h2, h3, h4, h5, h6, h7, h8⟩ := Cond.code_spec hn h'
    exact ⟨mk, meth, c, hn, h1, h2, h4, h8⟩
  | cons q t =>
    obtain ⟨m', meth, c, h0, h1, h2, h3, h4, h5, h6, h7, h8⟩ := Cond.codeWith_spec (show (Cond.codeWith y bs nL rt (rk_hh (y, bs, nL, rt, q :: t))).before args s = true from h)
    exact ⟨m', meth, c, h0, h1, h2, h4, h8⟩
/-- the call itself, from the state with its entry noted -/
theorem rk_go {p : Program} {l : Launch} {e : Env} {R : Room} {s : State} {m : MethodId} {args : Array Value} {below : List Frame} {meth : Method} {c : Code} {T : State} {locs : List Loc} {cells slots : Nat} {M N : rk_M} {B B' : rk_B} {G : rk_G} {As : List Value} {h : rk_H} {P' : rk_P}
    (X : Stand p l e R s m args below meth c T locs cells slots) (C : rk_Cx M B l p e R s m args meth c G) (con : rk_Con N B' As h P') (hw : rk_wd N ∈ rk_tbl) (hini : Cond.initialized N.1.cls ∈ rk_tbl)
    (hR : rk_R G h T.heap) (hS : rk_S G s.heap T.heap) {g : JFrame} (hg : g.method = m) (hsize : g.locals.size = c.maxLocals) {ig : Instr} (hdg : decode c.code g.pc = .ok (ig, 3)) (hmon : g.monitorRoom = 0) (hst : (g.stack.map fun v => v.category).sum + (N.2.2.1 + 11) + B'.2.1 ≤ B.2.1) (hdd : B'.1 + 1 ≤ B.1) (hk : cells + B'.2.2.1 ≤ B.2.2.1) (hn : slots + B'.2.2.2 ≤ B.2.2.2)
    {mk : MethodId} (hnm : s.methodNamed? N.1 = some mk) :
    ∃ (r : rk_O) (h' : rk_H) (o : Outcome) (t T' : State) (L : List Loc), Steps p.tables e below (doInvoke e (T.setTop g) [] mk As.toArray).1 t ∧ P' r h' ∧ rk_out r o t ∧ rk_R G h' T'.heap ∧ rk_S G s.heap T'.heap ∧ (∀ q ∈ L, G.1 ≤ q.base) ∧ T'.heap = t.heap ∧ T'.vm = t.vm ∧
      Stand p l e R s m args below meth c T' (locs ++ L) (cells + B'.2.2.1) (slots + B'.2.2.2) ∧
      (∀ v, o = .returned v → t = T'.setTop { g with pc := g.pc + 3, stack := v.toList ++ g.stack }) ∧ (∀ x, o = .threw x → t = (T'.setTop g).pushFrame (.throwing x)) := by
  have hts := C.2.2.2.2.2.2.1
  have hfr := C.2.2.2.2.2.2.2.2.2.1
  have hlo := C.2.2.2.2.2.2.2.2.2.2.1
  have hcl := C.2.2.2.2.2.2.2.2.2.2.2.1
  have hsl := C.2.2.2.2.2.2.2.2.2.2.2.2.1
  have hok := C.2.2.2.2.2.2.2.2.2.2.2.2.2.2
  have hwT : ∀ w ∈ rk_wd N :: rk_tbl, w.before As.toArray T = true := by
    intro w hw'
    have hin : w ∈ rk_tbl := by
      rcases List.mem_cons.mp hw' with rfl | q
      · exact hw
      · exact q
    exact word_at X.warmed (rk_good w hin) (hts w hin)
  obtain ⟨mkT, methT, cT, e1, e2, e3, e4, e5⟩ := rk_wd_spec (hwT _ List.mem_cons_self)
  have hnT : T.methodNamed? N.1 = some mk := X.named hnm
  cases hnT.symm.trans e1
  obtain ⟨kY, hkY, -⟩ := className_of_methodNamed hnT
  have hinitY : kY.init = .initialized := Cond.initialized_spec (findClass_of_methodNamed hnT) hkY (hwT _ (List.mem_cons_of_mem _ hini))
  have hAt : At T g.method c below := by rw [hg]; exact X.here
  have happ : (headSpec (rk_wd N :: rk_tbl) { frames := B'.1, cells := B'.2.2.1, slots := B'.2.2.2, locals := B'.2.1 }).appliesLoose N.1 e.platform (T.calling g mk As.toArray) = true :=
    Spec.appliesLoose_calling (g := g) hAt hdg hnT hkY hinitY
      (X.room_calling (g := g) (R' := { frames := B'.1, cells := B'.2.2.1, slots := B'.2.2.2, locals := B'.2.1 }) hsize e2 e3 (by dsimp only; omega) (by rw [e4, hmon]; dsimp only; omega) (by dsimp only; omega) (by dsimp only; omega)) (atoms_intro hwT)
  obtain ⟨mid, hmid⟩ := hAt.above
  have hfrm : (T.setTop g).frames = (.java g :: mid) ++ below := by rw [State.frames_setTop' g hAt.top, hmid]; rfl
  have hKT : rk_K G (T.calling g mk As.toArray) := C.2.2.2.2.2.2.2.1.next (U := T.calling g mk As.toArray) X.warmed hS
  obtain ⟨o, t, hsteps, -, hend, hq⟩ := Steps.callFree (con l G hok) p X.admits X.cas X.clock (acts := []) hfrm happ ⟨rfl, hS.1.1, hR, hKT⟩ trivial
  rw [State.frames_setTop' g hAt.top, X.tail] at hend
  obtain ⟨⟨⟨r, h', q1, q2, q3⟩, q4⟩, L, ⟨q5, q6⟩, q7⟩ := hq
  have hS' : rk_S G T.heap t.heap := q4
  cases o with
  | returned v =>
    obtain ⟨T', X', hWT, hsame, ht⟩ := X.outOf (g := g) (mk := mk) (a := As.toArray) hg hdg hend q5 q6
    have hh : T'.heap = t.heap := by rw [ht]; rfl
    have hv : T'.vm = t.vm := by rw [ht]; rfl
    exact ⟨r, h', _, t, T', L, hsteps, q2, q1, by rw [hh]; exact q3, by rw [hh]; exact hS.trans hS', q7, hh, hv, X', (fun w hw => by cases hw; exact ht), (fun x hx => by cases hx)⟩
  | threw x =>
    obtain ⟨T', X', hWT, hsame, ht⟩ := X.outOfThrown (g := g) (mk := mk) (a := As.toArray) hg hend q5 q6
    have hh : T'.heap = t.heap := by rw [ht]; rfl
    have hv : T'.vm = t.vm := by rw [ht]; rfl
    exact ⟨r, h', _, t, T', L, hsteps, q2, q1, by rw [hh]; exact q3, by rw [hh]; exact hS.trans hS', q7, hh, hv, X', (fun w hw => by cases hw), (fun y hy => by cases hy; exact ht)⟩
/-- caught: through vx_catch, the entries ahead of the one that takes it passed -/
theorem rk_caught {p : Program} {l : Launch} {e : Env} {R : Room} {s : State} {m : MethodId} {args : Array Value} {below : List Frame} {meth : Method} {c : Code} {H : Heap} {locs : List Loc} {cells slots : Nat} {Q : State → Prop} {ls : Array Slot} {rest : List Value} {pc : Nat} {G : rk_G} {own E : String} {ce : Cell} {q : Addr} {hp : Nat}
    (hh : List (Nat × Nat × Nat × Nat × String)) : ∀ (pre : List (Nat × Nat × Nat × Nat × String)), s.vm.findClass own = some m.cls → (∀ w ∈ rk_tbl, w.before args s = true) → rk_K G s → E ∈ rk_exc → c.exceptionTable.toList = tableOf ((pre ++ hh).map (fun q => (q.1, q.2.1, q.2.2.1, q.2.2.2.1))) →
    (∀ z ∈ pre, (¬ (z.1 ≤ pc ∧ pc < z.2.1) ∨ z.2.2.2.2 ≠ E) ∧ z.2.2.2.1 ≠ 0 ∧ z.2.2.2.2 ∈ rk_exc ∧ Cond.classLink own z.2.2.2.1 z.2.2.2.2 ∈ rk_tbl) →
    (∀ z ∈ hh, z.2.2.2.1 ≠ 0 ∧ z.2.2.2.2 ∈ rk_exc ∧ Cond.classLink own z.2.2.2.1 z.2.2.2.2 ∈ rk_tbl) → rk_find hh pc E = some hp → H[q]? = some ce → ce.vm = .none → s.vm.findClass E = some ce.cls →
    W p l e R s m args below meth c H locs cells slots Q (F0 m hp ls [.ref q]) → vx_W p l e R s m args below meth c H locs cells slots Q (F0 m pc ls rest) q := by
  induction hh with
  | nil => intro pre _ _ _ _ _ _ _ hf; cases hf
  | cons z t ih =>
    intro pre hown hts hK hexc htab hpre hhh hf hce hv hcl kk
    obtain ⟨g1, g2, g3⟩ := hhh z List.mem_cons_self
    unfold rk_find at hf
    by_cases hcov : z.1 ≤ pc ∧ pc < z.2.1
    · rw [if_pos hcov] at hf
      by_cases hn : z.2.2.2.2 = E
      · rw [if_pos hn] at hf
        cases hf
        refine vx_catch (own := own) (name := E) (E := E) (ce := ce) hown (tableOf (pre.map (fun q => (q.1, q.2.1, q.2.2.1, q.2.2.2.1)))) ⟨z.1, z.2.1, z.2.2.1, z.2.2.2.1⟩ (tableOf (t.map (fun q => (q.1, q.2.1, q.2.2.1, q.2.2.2.1)))) (by rw [htab]; simp [tableOf]) ?_ (by simp [covers, hcov]) g1 (by rw [← hn]; exact hts _ g3) (rk_cast E hexc hK) hce hv hcl kk
        intro y hy
        simp only [tableOf, List.map_map, List.mem_map] at hy
        obtain ⟨x, hx, rfl⟩ := hy
        obtain ⟨p1, p2, p3, p4⟩ := hpre x hx
        rcases p1 with p1 | p1
        · left
          simp only [Function.comp, covers, Bool.and_eq_false_iff, decide_eq_false_iff_not]
          by_cases h1 : x.1 ≤ pc
          · right; exact fun h2 => p1 ⟨h1, h2⟩
          · left; exact h1
        · right
          exact ⟨p2, x.2.2.2.2, hts _ p4, rk_ncst E hexc _ p3 (fun q => p1 q.symm) hK⟩
      · rw [if_neg hn] at hf
        exact ih (pre ++ [z]) hown hts hK hexc (by rw [htab]; simp) (fun y hy => by
          rcases List.mem_append.mp hy with h | h
          · exact hpre y h
          · rw [List.mem_singleton.mp h]; exact ⟨Or.inr hn, g1, g2, g3⟩) (fun y hy => hhh y (List.mem_cons_of_mem _ hy)) hf hce hv hcl kk
    · rw [if_neg hcov] at hf
      exact ih (pre ++ [z]) hown hts hK hexc (by rw [htab]; simp) (fun y hy => by
        rcases List.mem_append.mp hy with h | h
        · exact hpre y h
        · rw [List.mem_singleton.mp h]; exact ⟨Or.inl hcov, g1, g2, g3⟩) (fun y hy => hhh y (List.mem_cons_of_mem _ hy)) hf hce hv hcl kk
theorem rk_behind {p : Program} {l : Launch} {e : Env} {R : Room} {s : State} {m : MethodId} {args : Array Value} {below : List Frame} {meth : Method} {c : Code} {T : State} {locs : List Loc} {M N : rk_M} {B B' : rk_B} {P P' : rk_P} {G : rk_G} {As rest : List Value} {h : rk_H} {u : rk_U} {pc : Nat} {lv : List (Option Value)} {ls : Array Slot}
    (X : Stand p l e R s m args below meth c T locs u.1 u.2) (C : rk_Cx M B l p e R s m args meth c G) (con : rk_Con N B' As h P') (hw : rk_wd N ∈ rk_tbl) (hini : Cond.initialized N.1.cls ∈ rk_tbl)
    (hR : rk_R G h T.heap) (hS : rk_S G s.heap T.heap) (hf : ∀ q ∈ locs, G.1 ≤ q.base) (hl : rk_L ls M.2.2.1 lv) {ig : Instr} (hdg : decode c.code pc = .ok (ig, 3)) (hst : (rest.map fun v => v.category).sum + (N.2.2.1 + 11) + B'.2.1 ≤ B.2.1) (hdd : B'.1 + 1 ≤ B.1) (hk : u.1 + B'.2.2.1 ≤ B.2.2.1) (hn : u.2 + B'.2.2.2 ≤ B.2.2.2)
    {mk : MethodId} (hnm : s.methodNamed? N.1 = some mk) (nx : ∀ r h', P' r h' → rk_nx M B P pc lv rest h' (u.1 + B'.2.2.1, u.2 + B'.2.2.2) r) :
    ∃ t2, Steps p.tables e below (doInvoke e (T.setTop (F0 m pc ls rest)) [] mk As.toArray).1 t2 ∧ rk_Q P G B s below t2 := by
  obtain ⟨r, h', o, t, T', L, a1, a2, a3, a4, a5, a6, a8, a9, X', a10, a11⟩ := rk_go X C con hw hini hR hS (g := F0 m pc ls rest) rfl (by rw [C.2.2.1]; exact hl.1) hdg rfl hst hdd hk hn hnm
  have hnx := nx r h' a2
  have hf' : ∀ q ∈ locs ++ L, G.1 ≤ q.base := by
    intro q hq
    rcases List.mem_append.mp hq with h1 | h1
    · exact hf q h1
    · exact a6 q h1
  cases r with
  | inl v =>
    have ho : o = .returned v := a3
    have ht := a10 v ho
    obtain ⟨t2, b1, b2⟩ := hnx l p e R s m args below meth c G T'.heap (locs ++ L) ls C a4 a5 hf' hl T' rfl X'
    exact ⟨t2, a1.trans (by rw [ht]; exact b1), b2⟩
  | inr Cn =>
    obtain ⟨x, cell, ho, c1, c2, c3⟩ := a3
    have ht := a11 x ho
    have htab := C.2.2.2.2.2.2.2.2.1
    unfold rk_nx at hnx
    unfold rk_hh at htab
    cases hM : M.2.2.2.2 with
    | nil =>
      simp only [hM] at hnx
      rw [hM] at htab
      obtain ⟨n1, n2⟩ := hnx
      obtain ⟨l1, l2, l3, l4, l5⟩ := X'.leaveThrown x (g := F0 m pc ls rest) rfl rfl rfl (fun y hy => by rw [htab] at hy; cases hy) C.2.2.2.2.1
      exact ⟨_, a1.trans (by rw [ht]; exact l1), .threw x, l2, l3, ⟨⟨.inr Cn, h', ⟨x, cell, rfl, by show T'.heap[x]? = _; rw [a8]; exact c1, c2, by show T'.vm.findClass _ = _; rw [a9]; exact c3⟩, n1, a4⟩, a5⟩, locs ++ L, ⟨l4, l5.mono n2.1 n2.2⟩, hf'⟩
    | cons q0 qs =>
      simp only [hM] at hnx
      rw [hM] at htab
      obtain ⟨⟨hp, f1, f2⟩, f3, f4⟩ := hnx
      have w := rk_caught (q0 :: qs) [] (p := p) (l := l) (e := e) (R := R) (s := s) (m := m) (args := args) (below := below) (meth := meth) (c := c) (H := T'.heap) (locs := locs ++ L) (cells := u.1 + B'.2.2.1) (slots := u.2 + B'.2.2.2) (Q := rk_Q P G B s below) (ls := ls) (rest := rest) (own := M.1.cls) (E := Cn) (ce := cell) (q := x) (hp := hp) C.2.2.2.2.2.1 C.2.2.2.2.2.2.1 C.2.2.2.2.2.2.2.1 f3 (by rw [htab]; rfl) (fun z hz => by cases hz) f4 f1 (by rw [a8]; exact c1) c2 (by rw [← X'.warmed.alike.findClass, a9]; exact c3) (f2 x l p e R s m args below meth c G T'.heap (locs ++ L) ls C a4 a5 hf' hl)
      obtain ⟨t2, b1, b2⟩ := w T' rfl X'
      exact ⟨t2, a1.trans (by rw [ht]; exact b1), b2⟩
section RKC
variable {M : rk_M} {B : rk_B} {P : rk_P} {pc : Nat} {lv : List (Option Value)} {st : List Value} {h : rk_H} {u : rk_U}
/-- a call's words: the link, or the link between nest mates -/
def rk_lnk (own : String) (idx : Nat) (N : rk_M) : Prop := Cond.methodLink own idx N.1 ∈ rk_tbl ∨ ∃ host : String, Cond.methodLinkNest own idx N.1 host ∈ rk_nst
def rk_cd (N : rk_M) : Prop := rk_wd N ∈ rk_tbl ∧ Cond.initialized N.1.cls ∈ rk_tbl ∧ (N.1.cls ≠ "java/lang/invoke/MethodHandle" ∧ N.1.cls ≠ "java/lang/invoke/VarHandle")
def rk_cS (own : String) (idx : Nat) (N : rk_M) : Prop := rk_lnk own idx N ∧ rk_cd N ∧ Cond.static N.1 ∈ rk_tbl
def rk_cV (own : String) (idx : Nat) (N : rk_M) (ci : Nat) : Prop := rk_lnk own idx N ∧ rk_cd N ∧ Cond.instanceMethod N.1 ∈ rk_tbl ∧ ∃ (C : String) (T : u_T) (K : Nat), vwCl[ci]? = some (C, T, K) ∧ Cond.selects C N.1 N.1 ∈ rk_tbl
def rk_cI (own : String) (idx : Nat) (N : rk_M) : Prop := rk_lnk own idx N ∧ rk_cd N ∧ Cond.instanceMethod N.1 ∈ rk_tbl ∧ N.1.name = "<init>" ∧ N.2.2.2.1 = none ∧ N.2.2.2.2 = []
theorem rk_calls {idx : Nat} {B' : rk_B} {N : rk_M} {P' : rk_P} (As rest : List Value) (w : rk_cS M.1.cls idx N) (hd : decode M.2.1 pc = .ok (.invokestatic idx, 3)) (hs : st = As.reverse ++ rest) (hlen : (parseMethodDescriptor N.1.desc).map (fun q => q.parameters.length) = some As.length) (hst : (rest.map fun v => v.category).sum + (N.2.2.1 + 11) + B'.2.1 ≤ B.2.1) (hdd : B'.1 + 1 ≤ B.1) (hk : u.1 + B'.2.2.1 ≤ B.2.2.1) (hn : u.2 + B'.2.2.2 ≤ B.2.2.2)
    (con : rk_Con N B' As h P') (nx : ∀ r h', P' r h' → rk_nx M B P pc lv rest h' (u.1 + B'.2.2.1, u.2 + B'.2.2.2) r) : rk_Run M B P pc lv st h u := by
  intro l p e R s m args below meth c G H locs ls C hR hS hf hl T hT X
  subst hs
  obtain ⟨hlk, ⟨hw, hini, hy⟩, hstat⟩ := w
  have hts := C.2.2.2.2.2.2.1
  obtain ⟨mk, methM, cM, hnamed, hmethM, -, -, hsigM⟩ := rk_wd_spec (hts _ hw)
  have hstatic : methM.isStatic = true := Cond.static_spec hnamed hmethM (hts _ hstat)
  obtain ⟨kP, hkP, -⟩ := className_of_methodNamed hnamed
  have hinitP : kP.init = .initialized := Cond.initialized_spec (findClass_of_methodNamed hnamed) hkP (hts _ hini)
  have hln : As.length = methM.sig.parameters.length := by rw [hsigM] at hlen; exact (Option.some.inj hlen).symm
  have hdg : decode c.code (F0 m pc ls (As.reverse ++ rest)).pc = .ok (.invokestatic idx, 3) := by rw [C.2.1]; exact hd
  have hstep : ∃ vm₁, Stand p l e R s m args below meth c (T.setVm vm₁) locs u.1 u.2 ∧ ∀ target, (∀ acts, Steps p.tables e below (doInvoke e ((T.setVm vm₁).setTop (F0 m pc ls rest)) acts mk As.toArray).1 target) → Steps p.tables e below (T.setTop (F0 m pc ls (As.reverse ++ rest))) target := by
    rcases hlk with h1 | ⟨host, h1⟩
    · exact X.invokestatic C.1 C.2.2.2.2.2.1 (hts _ h1) hnamed hmethM hstatic hkP hinitP hy (g := F0 m pc ls (As.reverse ++ rest)) rfl (argsL := As) (rest := rest) hln rfl hdg
    · exact X.invokestaticNest C.1 C.2.2.2.2.2.1 (va_Nw.use rfl (C.2.2.2.2.2.2.2.1.2.2.2.2.1 _ h1)) hnamed hmethM hstatic hkP hinitP hy (g := F0 m pc ls (As.reverse ++ rest)) rfl (argsL := As) (rest := rest) hln rfl hdg
  obtain ⟨vm₁, X₁, hstep₁⟩ := hstep
  obtain ⟨t2, a1, b1⟩ := rk_behind (M := M) (P := P) (pc := pc) (lv := lv) (rest := rest) (ls := ls) X₁ C con hw hini (by show rk_R G h T.heap; rw [hT]; exact hR) (by show rk_S G s.heap T.heap; rw [hT]; exact hS) hf hl hdg hst hdd hk hn hnamed nx
  exact ⟨t2, hstep₁ t2 (fun acts => by rw [doInvoke_state]; exact a1), b1⟩
theorem rk_callv {idx ci b : Nat} {B' : rk_B} {fs : List Value} {N : rk_M} {P' : rk_P} (As rest : List Value) (w : rk_cV M.1.cls idx N ci) (hd : decode M.2.1 pc = .ok (.invokevirtual idx, 3)) (hs : st = As.reverse ++ .ref b :: rest) (hlen : (parseMethodDescriptor N.1.desc).map (fun q => q.parameters.length) = some As.length) (hst : (rest.map fun v => v.category).sum + (N.2.2.1 + 11) + B'.2.1 ≤ B.2.1) (hdd : B'.1 + 1 ≤ B.1) (hk : u.1 + B'.2.2.1 ≤ B.2.2.1) (hn : u.2 + B'.2.2.2 ≤ B.2.2.2) (he : h b = some (.inr (ci, fs)))
    (con : rk_Con N B' (.ref b :: As) h P') (nx : ∀ r h', P' r h' → rk_nx M B P pc lv rest h' (u.1 + B'.2.2.1, u.2 + B'.2.2.2) r) : rk_Run M B P pc lv st h u := by
  intro l p e R s m args below meth c G H locs ls C hR hS hf hl T hT X
  subst hs
  obtain ⟨hlk, ⟨hw, hini, hy⟩, hinst, C0, T0, K0, hc, hsel⟩ := w
  have hts := C.2.2.2.2.2.2.1
  obtain ⟨mk, methM, cM, hnamed, hmethM, -, -, hsigM⟩ := rk_wd_spec (hts _ hw)
  obtain ⟨mk', methM', hnamed', hmethM', hstM, habM⟩ := Cond.instanceMethod_spec (hts _ hinst)
  cases hnamed.symm.trans hnamed'
  cases hmethM.symm.trans hmethM'
  obtain ⟨r0, hr0, cellB, hcB, g2, g3, -⟩ := (hR b _ he).2
  have hcls : s.vm.findClass C0 = some cellB.cls := by
    have h1 := (C.2.2.2.2.2.2.2.1.1 ci _ hc).2.1
    rw [g2]; exact h1
  obtain ⟨c2, r2, m2, q1, q2, q3, q4, kP, hkP, hkPi⟩ := Cond.selects_spec (hts _ hsel)
  cases hcls.symm.trans q1
  cases (State.methodFound?_of_named hnamed hy).symm.trans q2
  cases hnamed.symm.trans q3
  have hselP : selectMethod e.platform s.vm cellB.cls mk = .method mk := by rw [Launch.admits_selectMethod X.admits]; exact q4
  have hln : As.length = methM.sig.parameters.length := by rw [hsigM] at hlen; exact (Option.some.inj hlen).symm
  have hdg : decode c.code (F0 m pc ls (As.reverse ++ .ref b :: rest)).pc = .ok (.invokevirtual idx, 3) := by rw [C.2.1]; exact hd
  have hcT : T.heap[b]? = some cellB := by rw [hT]; exact hcB
  have hob : ∀ z, cellB.vm ≠ .statics z := fun z q => by rw [g3] at q; cases q
  have hstep : ∃ vm₁, Stand p l e R s m args below meth c (T.setVm vm₁) locs u.1 u.2 ∧ ∀ target, (∀ acts, Steps p.tables e below (doInvoke e ((T.setVm vm₁).setTop (F0 m pc ls rest)) acts mk (Value.ref b :: As).toArray).1 target) → Steps p.tables e below (T.setTop (F0 m pc ls (As.reverse ++ .ref b :: rest))) target := by
    rcases hlk with h1 | ⟨host, h1⟩
    · exact X.invokevirtual C.1 C.2.2.2.2.2.1 (hts _ h1) hnamed hmethM hstM hkP hkPi hy (a := b) (cell := cellB) hcT hob hselP hmethM habM hkP hkPi (g := F0 m pc ls (As.reverse ++ .ref b :: rest)) rfl (argsL := As) (rest := rest) hln rfl hdg
    · exact X.invokevirtualNest C.1 C.2.2.2.2.2.1 (va_Nw.use rfl (C.2.2.2.2.2.2.2.1.2.2.2.2.1 _ h1)) hnamed hmethM hstM hkP hkPi hy (a := b) (cell := cellB) hcT hob hselP hmethM habM hkP hkPi (g := F0 m pc ls (As.reverse ++ .ref b :: rest)) rfl (argsL := As) (rest := rest) hln rfl hdg
  obtain ⟨vm₁, X₁, hstep₁⟩ := hstep
  obtain ⟨t2, a1, b1⟩ := rk_behind (M := M) (P := P) (pc := pc) (lv := lv) (rest := rest) (ls := ls) X₁ C con hw hini (by show rk_R G h T.heap; rw [hT]; exact hR) (by show rk_S G s.heap T.heap; rw [hT]; exact hS) hf hl hdg hst hdd hk hn hnamed nx
  exact ⟨t2, hstep₁ t2 (fun acts => by rw [doInvoke_state]; exact a1), b1⟩
theorem rk_calln {idx b : Nat} {B' : rk_B} {N : rk_M} {P' : rk_P} (As rest : List Value) (w : rk_cI M.1.cls idx N) (hd : decode M.2.1 pc = .ok (.invokespecial idx, 3)) (hs : st = As.reverse ++ .ref b :: rest) (hlen : (parseMethodDescriptor N.1.desc).map (fun q => q.parameters.length) = some As.length) (hst : (rest.map fun v => v.category).sum + (N.2.2.1 + 11) + B'.2.1 ≤ B.2.1) (hdd : B'.1 + 1 ≤ B.1) (hk : u.1 + B'.2.2.1 ≤ B.2.2.1) (hn : u.2 + B'.2.2.2 ≤ B.2.2.2)
    (con : rk_Con N B' (.ref b :: As) h P') (nx : ∀ r h', P' r h' → rk_nx M B P pc lv rest h' (u.1 + B'.2.2.1, u.2 + B'.2.2.2) r) : rk_Run M B P pc lv st h u := by
  intro l p e R s m args below meth c G H locs ls C hR hS hf hl T hT X
  subst hs
  obtain ⟨hlk, ⟨hw, hini, hy⟩, hinst, hy1, hrt, hhh⟩ := w
  have hts := C.2.2.2.2.2.2.1
  have hpl : e.platform.magicAccessors = ({} : Platform).magicAccessors := by rw [X.admits.platform]
  have hcode : (Cond.code N.1 N.2.1 N.2.2.1 none).before args s = true := by
    have hq := hts _ hw
    obtain ⟨y, bs, nL, rt, hh⟩ := N
    dsimp only at hrt hhh
    subst hrt; subst hhh
    exact hq
  have hlen' : ∀ sig, parseMethodDescriptor N.1.desc = some sig → As.length = sig.parameters.length := fun sig hq => by rw [hq] at hlen; exact (Option.some.inj hlen).symm
  have hdg : decode c.code (F0 m pc ls (As.reverse ++ .ref b :: rest)).pc = .ok (.invokespecial idx, 3) := by rw [C.2.1]; exact hd
  have hstep : ∃ mk vm₁, s.methodNamed? N.1 = some mk ∧ s.WarmedH vm₁ ∧ ∀ target, (∀ acts, Steps p.tables e below (doInvoke e ((T.setVm vm₁).setTop (F0 m pc ls rest)) acts mk (Value.ref b :: As).toArray).1 target) → Steps p.tables e below (T.setTop (F0 m pc ls (As.reverse ++ .ref b :: rest))) target := by
    rcases hlk with h1 | ⟨host, h1⟩
    · obtain ⟨mk, methM, cM, kP, vm₁, hnamed, -, -, -, -, -, -, -, hW₁, hs1⟩ := Steps.initColdArgs (e := e) X.here C.1 X.warmed hpl C.2.2.2.2.2.1 hy1 hy (hts _ h1) (hts _ hinst) hcode (f := F0 m pc ls (As.reverse ++ .ref b :: rest)) rfl hlen' rfl hdg
      exact ⟨mk, vm₁, hnamed, hW₁, hs1⟩
    · obtain ⟨mk, methM, cM, kP, vm₁, hnamed, -, -, -, -, -, -, -, hW₁, hs1⟩ := Steps.initColdArgsNest (e := e) X.here C.1 X.warmed hpl C.2.2.2.2.2.1 hy1 hy (va_Nw.use rfl (C.2.2.2.2.2.2.2.1.2.2.2.2.1 _ h1)) (hts _ hinst) hcode (f := F0 m pc ls (As.reverse ++ .ref b :: rest)) rfl hlen' rfl hdg
      exact ⟨mk, vm₁, hnamed, hW₁, hs1⟩
  obtain ⟨mk, vm₁, hnamed, hW₁, hstep₁⟩ := hstep
  have X₁ := X.noted hW₁
  obtain ⟨t2, a1, b1⟩ := rk_behind (M := M) (P := P) (pc := pc) (lv := lv) (rest := rest) (ls := ls) X₁ C con hw hini (by show rk_R G h T.heap; rw [hT]; exact hR) (by show rk_S G s.heap T.heap; rw [hT]; exact hS) hf hl hdg hst hdd hk hn hnamed nx
  exact ⟨t2, hstep₁ t2 (fun acts => by rw [doInvoke_state]; exact a1), b1⟩
/-- the words of 'throw new X(text)' -/
def rk_tw (own : String) (i1 i2 i3 : Nat) (X : String) : Prop :=
  Cond.classLink own i1 X ∈ rk_tbl ∧ Cond.initialized X ∈ rk_tbl ∧ (∃ tx : String, (own, i2, tx) ∈ rk_str) ∧ Bundle.fit X = true ∧
  (∀ w ∈ vx_atS own i3 X ["java/lang/RuntimeException", "java/lang/Exception"], w ∈ rk_tbl ∨ w ∈ rk_nst) ∧ (∀ w ∈ Cond.classLink own i1 X :: Cond.initialized X :: vx_atS own i3 X ["java/lang/RuntimeException", "java/lang/Exception"], vx_ot w = true)
theorem rk_throw {i1 i2 i3 : Nat} {X : String} (w : rk_tw M.1.cls i1 i2 i3 X) (hh : M.2.2.2.2 = []) (hd0 : decode M.2.1 pc = .ok (.new i1, 3)) (hd1 : decode M.2.1 (pc + 3) = .ok (.dup, 1)) (hd2 : decode M.2.1 (pc + 4) = .ok (.ldc i2, 2)) (hd3 : decode M.2.1 (pc + 6) = .ok (.invokespecial i3, 3)) (hd4 : decode M.2.1 (pc + 9) = .ok (.athrow, 1)) (hf6 : 6 ≤ B.1) (hst : (st.map fun v => v.category).sum + 82 ≤ B.2.1) (h1 : u.1 + 1 ≤ B.2.2.1) (h6 : u.2 + 6 ≤ B.2.2.2) (hP : P (.inr X) h) : rk_Run M B P pc lv st h u := by
  intro l p e R s m args below meth c G H locs ls C hR hS hf hl
  obtain ⟨w1, w3, ⟨tx, w4⟩, w5, w8, w9⟩ := w
  have hts := C.2.2.2.2.2.2.1
  have hK := C.2.2.2.2.2.2.2.1
  have hfr := C.2.2.2.2.2.2.2.2.2.1
  have hlo := C.2.2.2.2.2.2.2.2.2.2.1
  have hcl := C.2.2.2.2.2.2.2.2.2.2.2.1
  have hsl := C.2.2.2.2.2.2.2.2.2.2.2.2.1
  obtain ⟨ad, hstr⟩ := hK.2.2.1 _ w4
  have htab := C.2.2.2.2.2.2.2.2.1
  unfold rk_hh at htab
  rw [hh] at htab
  refine rk_Wmono (Q := vx_MQ below (fun _ _ _ _ => False) (fun E st t => E = X ∧ H.size ≤ t.heap.size ∧ ∀ q : Nat, q < H.size → t.heap[q]? = H[q]?) args s B.2.2.1 B.2.2.2 (fun q => G.1 ≤ q)) ?_ ?_
  · rintro t ⟨o, t1, t2, t3⟩
    rcases t3 with ⟨t3, -⟩ | ⟨q, rfl, E, ce, L, ⟨rfl, x1, x2⟩, y1, y2, y3, y4, y5, y6⟩
    · exact t3.elim
    · exact ⟨_, t1, t2, ⟨⟨.inr E, h, ⟨q, ce, rfl, y1, y2, by rw [y4.alike.findClass]; exact y3⟩, hP, hR.kept x2⟩, ⟨⟨Nat.le_trans hS.1.1 x1, Nat.le_trans hS.1.2 x1⟩, fun z hz => by rw [x2 z (Nat.lt_of_lt_of_le hz hS.1.1)]; exact hS.2 z hz⟩⟩, L, ⟨y4, y5⟩, y6⟩
  · exact vx_throwS (A := fun x => G.1 ≤ x) C.1 C.2.1 C.2.2.2.2.2.2.2.2.2.2.2.2.2.2 C.2.2.2.2.2.1 w5 (by decide) (hts _ w1) (hts _ w3) hstr (fun a ha => by
      rcases w8 a ha with q | q
      · exact hts a q
      · have hon : a.onTables = true := rk_nst_on a q
        exact va_Nw.use hon (hK.2.2.2.2.1 a q)) w9 (hK.2.2.2.1 ("java/lang/Throwable", "UNASSIGNED_STACK", "[Ljava/lang/StackTraceElement;") (by simp [rk_sta])) (hK.2.2.2.1 ("java/lang/Throwable", "SUPPRESSED_SENTINEL", "Ljava/util/List;") (by simp [rk_sta]))
      ⟨hS.1.2, fun q _ hq => hS.2 q (Nat.not_le.mp hq), hf⟩ (by rw [C.2.2.1]; exact hl.1) hd0 hd1 hd2 hd3 hd4 (fun y hy => by rw [htab] at hy; cases hy) (by show 2 + 3 < _; omega) (by show _ + (13 * (2 + 1) + 43) ≤ _; omega) (Nat.le_trans h1 hcl) (Nat.le_trans h6 hsl) C.2.2.2.2.1 (fun t _ g1 g2 => ⟨rfl, g1, g2⟩) hf h1 h6
end RKC
end

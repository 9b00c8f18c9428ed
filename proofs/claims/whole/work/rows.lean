section
-- ===== PART A: goes FIRST, ahead of the names: the tables' words, and 'selects' of the private methods out of them =====
/-- a private method of a class that the tables say can be made, by its rows of tables_1 -/
def lw_okq (q : MethodName × Nat) : Prop := (q.1.cls ≠ "java/lang/invoke/MethodHandle" ∧ q.1.cls ≠ "java/lang/invoke/VarHandle") ∧ Cond.instantiable q.1.cls q.2 ∈ tables_1 ∧ Cond.privateMethod q.1 ∈ tables_1 ∧ Cond.instanceMethod q.1 ∈ tables_1
theorem lw_p0 : lw_okq (⟨"java/lang/Throwable", "fillInStackTrace", "(I)Ljava/lang/Throwable;"⟩, 6) := ⟨⟨by decide +kernel, by decide +kernel⟩, List.mem_of_getElem? (i := 250) (by decide +kernel), List.mem_of_getElem? (i := 248) (by decide +kernel), List.mem_of_getElem? (i := 249) (by decide +kernel)⟩
theorem lw_p1 : lw_okq (⟨"TensorForge", "requireRoom", "()V"⟩, 5) := ⟨⟨by decide +kernel, by decide +kernel⟩, List.mem_of_getElem? (i := 20) (by decide +kernel), List.mem_of_getElem? (i := 308) (by decide +kernel), List.mem_of_getElem? (i := 309) (by decide +kernel)⟩
theorem lw_p2 : lw_okq (⟨"TensorForge", "keep", "(LTensorForge$Node;)I"⟩, 5) := ⟨⟨by decide +kernel, by decide +kernel⟩, List.mem_of_getElem? (i := 20) (by decide +kernel), List.mem_of_getElem? (i := 421) (by decide +kernel), List.mem_of_getElem? (i := 422) (by decide +kernel)⟩
theorem lw_p3 : lw_okq (⟨"TensorForge", "requireNode", "(I)V"⟩, 5) := ⟨⟨by decide +kernel, by decide +kernel⟩, List.mem_of_getElem? (i := 20) (by decide +kernel), List.mem_of_getElem? (i := 437) (by decide +kernel), List.mem_of_getElem? (i := 438) (by decide +kernel)⟩
theorem lw_p4 : lw_okq (⟨"TensorForge", "weightedRatio", "(LTensorForge$Node;D)D"⟩, 5) := ⟨⟨by decide +kernel, by decide +kernel⟩, List.mem_of_getElem? (i := 20) (by decide +kernel), List.mem_of_getElem? (i := 460) (by decide +kernel), List.mem_of_getElem? (i := 461) (by decide +kernel)⟩
theorem lw_p5 : lw_okq (⟨"TensorForge$Graph", "makeSmaller", "()V"⟩, 9) := ⟨⟨by decide +kernel, by decide +kernel⟩, List.mem_of_getElem? (i := 28) (by decide +kernel), List.mem_of_getElem? (i := 570) (by decide +kernel), List.mem_of_getElem? (i := 571) (by decide +kernel)⟩
theorem lw_p6 : lw_okq (⟨"TensorForge$Graph", "changesNothing", "(LTensorForge$Node;)Z"⟩, 9) := ⟨⟨by decide +kernel, by decide +kernel⟩, List.mem_of_getElem? (i := 28) (by decide +kernel), List.mem_of_getElem? (i := 574) (by decide +kernel), List.mem_of_getElem? (i := 575) (by decide +kernel)⟩
theorem lw_p7 : lw_okq (⟨"TensorForge$Graph", "firstAlike", "(I)I"⟩, 9) := ⟨⟨by decide +kernel, by decide +kernel⟩, List.mem_of_getElem? (i := 28) (by decide +kernel), List.mem_of_getElem? (i := 583) (by decide +kernel), List.mem_of_getElem? (i := 584) (by decide +kernel)⟩
theorem lw_p8 : lw_okq (⟨"TensorForge$Graph", "alike", "(II)Z"⟩, 9) := ⟨⟨by decide +kernel, by decide +kernel⟩, List.mem_of_getElem? (i := 28) (by decide +kernel), List.mem_of_getElem? (i := 587) (by decide +kernel), List.mem_of_getElem? (i := 588) (by decide +kernel)⟩
theorem lw_p9 : lw_okq (⟨"TensorForge$Graph", "markNeeded", "(I)V"⟩, 9) := ⟨⟨by decide +kernel, by decide +kernel⟩, List.mem_of_getElem? (i := 28) (by decide +kernel), List.mem_of_getElem? (i := 596) (by decide +kernel), List.mem_of_getElem? (i := 597) (by decide +kernel)⟩
theorem lw_p10 : lw_okq (⟨"TensorForge$Graph", "need", "(I)V"⟩, 9) := ⟨⟨by decide +kernel, by decide +kernel⟩, List.mem_of_getElem? (i := 28) (by decide +kernel), List.mem_of_getElem? (i := 603) (by decide +kernel), List.mem_of_getElem? (i := 604) (by decide +kernel)⟩
theorem lw_p11 : lw_okq (⟨"TensorForge$Graph", "fuse", "(I)V"⟩, 9) := ⟨⟨by decide +kernel, by decide +kernel⟩, List.mem_of_getElem? (i := 28) (by decide +kernel), List.mem_of_getElem? (i := 607) (by decide +kernel), List.mem_of_getElem? (i := 608) (by decide +kernel)⟩
theorem lw_p12 : lw_okq (⟨"TensorForge$Graph", "feedsOneClamp", "(I)Z"⟩, 9) := ⟨⟨by decide +kernel, by decide +kernel⟩, List.mem_of_getElem? (i := 28) (by decide +kernel), List.mem_of_getElem? (i := 615) (by decide +kernel), List.mem_of_getElem? (i := 616) (by decide +kernel)⟩
theorem lw_p13 : lw_okq (⟨"TensorForge$Graph", "timesUsed", "(LTensorForge$Node;I)I"⟩, 9) := ⟨⟨by decide +kernel, by decide +kernel⟩, List.mem_of_getElem? (i := 28) (by decide +kernel), List.mem_of_getElem? (i := 619) (by decide +kernel), List.mem_of_getElem? (i := 620) (by decide +kernel)⟩
theorem lw_p14 : lw_okq (⟨"TensorForge$Graph", "countSteps", "()V"⟩, 9) := ⟨⟨by decide +kernel, by decide +kernel⟩, List.mem_of_getElem? (i := 28) (by decide +kernel), List.mem_of_getElem? (i := 623) (by decide +kernel), List.mem_of_getElem? (i := 624) (by decide +kernel)⟩
theorem lw_p15 : lw_okq (⟨"TensorForge$Graph", "findLives", "(I)V"⟩, 9) := ⟨⟨by decide +kernel, by decide +kernel⟩, List.mem_of_getElem? (i := 28) (by decide +kernel), List.mem_of_getElem? (i := 627) (by decide +kernel), List.mem_of_getElem? (i := 628) (by decide +kernel)⟩
def lw_privs_1 : List (MethodName × Nat) := [(⟨"java/lang/Throwable", "fillInStackTrace", "(I)Ljava/lang/Throwable;"⟩, 6), (⟨"TensorForge", "requireRoom", "()V"⟩, 5), (⟨"TensorForge", "keep", "(LTensorForge$Node;)I"⟩, 5), (⟨"TensorForge", "requireNode", "(I)V"⟩, 5), (⟨"TensorForge", "weightedRatio", "(LTensorForge$Node;D)D"⟩, 5), (⟨"TensorForge$Graph", "makeSmaller", "()V"⟩, 9), (⟨"TensorForge$Graph", "changesNothing", "(LTensorForge$Node;)Z"⟩, 9), (⟨"TensorForge$Graph", "firstAlike", "(I)I"⟩, 9), (⟨"TensorForge$Graph", "alike", "(II)Z"⟩, 9), (⟨"TensorForge$Graph", "markNeeded", "(I)V"⟩, 9), (⟨"TensorForge$Graph", "need", "(I)V"⟩, 9), (⟨"TensorForge$Graph", "fuse", "(I)V"⟩, 9), (⟨"TensorForge$Graph", "feedsOneClamp", "(I)Z"⟩, 9), (⟨"TensorForge$Graph", "timesUsed", "(LTensorForge$Node;I)I"⟩, 9), (⟨"TensorForge$Graph", "countSteps", "()V"⟩, 9), (⟨"TensorForge$Graph", "findLives", "(I)V"⟩, 9)]
theorem lw_r1 : ∀ q ∈ lw_privs_1, lw_okq q := List.forall_mem_cons.mpr ⟨lw_p0, List.forall_mem_cons.mpr ⟨lw_p1, List.forall_mem_cons.mpr ⟨lw_p2, List.forall_mem_cons.mpr ⟨lw_p3, List.forall_mem_cons.mpr ⟨lw_p4, List.forall_mem_cons.mpr ⟨lw_p5, List.forall_mem_cons.mpr ⟨lw_p6, List.forall_mem_cons.mpr ⟨lw_p7, List.forall_mem_cons.mpr ⟨lw_p8, List.forall_mem_cons.mpr ⟨lw_p9, List.forall_mem_cons.mpr ⟨lw_p10, List.forall_mem_cons.mpr ⟨lw_p11, List.forall_mem_cons.mpr ⟨lw_p12, List.forall_mem_cons.mpr ⟨lw_p13, List.forall_mem_cons.mpr ⟨lw_p14, List.forall_mem_cons.mpr ⟨lw_p15, fun _ h => absurd h List.not_mem_nil⟩⟩⟩⟩⟩⟩⟩⟩⟩⟩⟩⟩⟩⟩⟩⟩
theorem lw_p16 : lw_okq (⟨"TensorForge$Graph", "keepAlive", "(II)V"⟩, 9) := ⟨⟨by decide +kernel, by decide +kernel⟩, List.mem_of_getElem? (i := 28) (by decide +kernel), List.mem_of_getElem? (i := 635) (by decide +kernel), List.mem_of_getElem? (i := 636) (by decide +kernel)⟩
theorem lw_p17 : lw_okq (⟨"TensorForge$Graph", "givePlaces", "()V"⟩, 9) := ⟨⟨by decide +kernel, by decide +kernel⟩, List.mem_of_getElem? (i := 28) (by decide +kernel), List.mem_of_getElem? (i := 639) (by decide +kernel), List.mem_of_getElem? (i := 640) (by decide +kernel)⟩
theorem lw_p18 : lw_okq (⟨"TensorForge$Graph", "largestWithoutPlace", "()I"⟩, 9) := ⟨⟨by decide +kernel, by decide +kernel⟩, List.mem_of_getElem? (i := 28) (by decide +kernel), List.mem_of_getElem? (i := 643) (by decide +kernel), List.mem_of_getElem? (i := 644) (by decide +kernel)⟩
theorem lw_p19 : lw_okq (⟨"TensorForge$Graph", "leastFreePlace", "(I)I"⟩, 9) := ⟨⟨by decide +kernel, by decide +kernel⟩, List.mem_of_getElem? (i := 28) (by decide +kernel), List.mem_of_getElem? (i := 647) (by decide +kernel), List.mem_of_getElem? (i := 648) (by decide +kernel)⟩
theorem lw_p20 : lw_okq (⟨"TensorForge$Graph", "nodeInTheWay", "(II)I"⟩, 9) := ⟨⟨by decide +kernel, by decide +kernel⟩, List.mem_of_getElem? (i := 28) (by decide +kernel), List.mem_of_getElem? (i := 651) (by decide +kernel), List.mem_of_getElem? (i := 652) (by decide +kernel)⟩
theorem lw_p21 : lw_okq (⟨"TensorForge$Graph", "liveTogether", "(II)Z"⟩, 9) := ⟨⟨by decide +kernel, by decide +kernel⟩, List.mem_of_getElem? (i := 28) (by decide +kernel), List.mem_of_getElem? (i := 655) (by decide +kernel), List.mem_of_getElem? (i := 656) (by decide +kernel)⟩
theorem lw_p22 : lw_okq (⟨"TensorForge", "requireCompiled", "()V"⟩, 5) := ⟨⟨by decide +kernel, by decide +kernel⟩, List.mem_of_getElem? (i := 20) (by decide +kernel), List.mem_of_getElem? (i := 677) (by decide +kernel), List.mem_of_getElem? (i := 678) (by decide +kernel)⟩
theorem lw_p23 : lw_okq (⟨"TensorForge$Machine", "doStep", "(LTensorForge$Graph;I)V"⟩, 9) := ⟨⟨by decide +kernel, by decide +kernel⟩, List.mem_of_getElem? (i := 77) (by decide +kernel), List.mem_of_getElem? (i := 704) (by decide +kernel), List.mem_of_getElem? (i := 705) (by decide +kernel)⟩
theorem lw_p24 : lw_okq (⟨"TensorForge$Machine", "compute", "(LTensorForge$Graph;LTensorForge$Node;I)V"⟩, 9) := ⟨⟨by decide +kernel, by decide +kernel⟩, List.mem_of_getElem? (i := 77) (by decide +kernel), List.mem_of_getElem? (i := 709) (by decide +kernel), List.mem_of_getElem? (i := 710) (by decide +kernel)⟩
theorem lw_p25 : lw_okq (⟨"TensorForge$Machine", "connect", "(LTensorForge$Node;LTensorForge$Node;II)V"⟩, 9) := ⟨⟨by decide +kernel, by decide +kernel⟩, List.mem_of_getElem? (i := 77) (by decide +kernel), List.mem_of_getElem? (i := 720) (by decide +kernel), List.mem_of_getElem? (i := 721) (by decide +kernel)⟩
theorem lw_p26 : lw_okq (⟨"TensorForge$Machine", "bias", "(LTensorForge$Node;II)I"⟩, 9) := ⟨⟨by decide +kernel, by decide +kernel⟩, List.mem_of_getElem? (i := 77) (by decide +kernel), List.mem_of_getElem? (i := 733) (by decide +kernel), List.mem_of_getElem? (i := 734) (by decide +kernel)⟩
theorem lw_p27 : lw_okq (⟨"TensorForge$Machine", "addUp", "(LTensorForge$Node;III)V"⟩, 9) := ⟨⟨by decide +kernel, by decide +kernel⟩, List.mem_of_getElem? (i := 77) (by decide +kernel), List.mem_of_getElem? (i := 755) (by decide +kernel), List.mem_of_getElem? (i := 756) (by decide +kernel)⟩
theorem lw_p28 : lw_okq (⟨"TensorForge$Machine", "join", "(LTensorForge$Node;LTensorForge$Node;III)V"⟩, 9) := ⟨⟨by decide +kernel, by decide +kernel⟩, List.mem_of_getElem? (i := 77) (by decide +kernel), List.mem_of_getElem? (i := 759) (by decide +kernel), List.mem_of_getElem? (i := 760) (by decide +kernel)⟩
theorem lw_p29 : lw_okq (⟨"TensorForge$Machine", "hold", "(LTensorForge$Node;II)V"⟩, 9) := ⟨⟨by decide +kernel, by decide +kernel⟩, List.mem_of_getElem? (i := 77) (by decide +kernel), List.mem_of_getElem? (i := 763) (by decide +kernel), List.mem_of_getElem? (i := 764) (by decide +kernel)⟩
theorem lw_p30 : lw_okq (⟨"TensorForge$Machine", "changeScale", "(LTensorForge$Node;II)V"⟩, 9) := ⟨⟨by decide +kernel, by decide +kernel⟩, List.mem_of_getElem? (i := 77) (by decide +kernel), List.mem_of_getElem? (i := 769) (by decide +kernel), List.mem_of_getElem? (i := 770) (by decide +kernel)⟩
theorem lw_p31 : lw_okq (⟨"TensorForge$Machine", "slide", "(LTensorForge$Node;LTensorForge$Node;II)V"⟩, 9) := ⟨⟨by decide +kernel, by decide +kernel⟩, List.mem_of_getElem? (i := 77) (by decide +kernel), List.mem_of_getElem? (i := 773) (by decide +kernel), List.mem_of_getElem? (i := 774) (by decide +kernel)⟩
def lw_privs_2 : List (MethodName × Nat) := [(⟨"TensorForge$Graph", "keepAlive", "(II)V"⟩, 9), (⟨"TensorForge$Graph", "givePlaces", "()V"⟩, 9), (⟨"TensorForge$Graph", "largestWithoutPlace", "()I"⟩, 9), (⟨"TensorForge$Graph", "leastFreePlace", "(I)I"⟩, 9), (⟨"TensorForge$Graph", "nodeInTheWay", "(II)I"⟩, 9), (⟨"TensorForge$Graph", "liveTogether", "(II)Z"⟩, 9), (⟨"TensorForge", "requireCompiled", "()V"⟩, 5), (⟨"TensorForge$Machine", "doStep", "(LTensorForge$Graph;I)V"⟩, 9), (⟨"TensorForge$Machine", "compute", "(LTensorForge$Graph;LTensorForge$Node;I)V"⟩, 9), (⟨"TensorForge$Machine", "connect", "(LTensorForge$Node;LTensorForge$Node;II)V"⟩, 9), (⟨"TensorForge$Machine", "bias", "(LTensorForge$Node;II)I"⟩, 9), (⟨"TensorForge$Machine", "addUp", "(LTensorForge$Node;III)V"⟩, 9), (⟨"TensorForge$Machine", "join", "(LTensorForge$Node;LTensorForge$Node;III)V"⟩, 9), (⟨"TensorForge$Machine", "hold", "(LTensorForge$Node;II)V"⟩, 9), (⟨"TensorForge$Machine", "changeScale", "(LTensorForge$Node;II)V"⟩, 9), (⟨"TensorForge$Machine", "slide", "(LTensorForge$Node;LTensorForge$Node;II)V"⟩, 9)]
theorem lw_r2 : ∀ q ∈ lw_privs_2, lw_okq q := List.forall_mem_cons.mpr ⟨lw_p16, List.forall_mem_cons.mpr ⟨lw_p17, List.forall_mem_cons.mpr ⟨lw_p18, List.forall_mem_cons.mpr ⟨lw_p19, List.forall_mem_cons.mpr ⟨lw_p20, List.forall_mem_cons.mpr ⟨lw_p21, List.forall_mem_cons.mpr ⟨lw_p22, List.forall_mem_cons.mpr ⟨lw_p23, List.forall_mem_cons.mpr ⟨lw_p24, List.forall_mem_cons.mpr ⟨lw_p25, List.forall_mem_cons.mpr ⟨lw_p26, List.forall_mem_cons.mpr ⟨lw_p27, List.forall_mem_cons.mpr ⟨lw_p28, List.forall_mem_cons.mpr ⟨lw_p29, List.forall_mem_cons.mpr ⟨lw_p30, List.forall_mem_cons.mpr ⟨lw_p31, fun _ h => absurd h List.not_mem_nil⟩⟩⟩⟩⟩⟩⟩⟩⟩⟩⟩⟩⟩⟩⟩⟩
theorem lw_p32 : lw_okq (⟨"TensorForge$Window", "before", "(II)I"⟩, 12) := ⟨⟨by decide +kernel, by decide +kernel⟩, List.mem_of_getElem? (i := 83) (by decide +kernel), List.mem_of_getElem? (i := 781) (by decide +kernel), List.mem_of_getElem? (i := 782) (by decide +kernel)⟩
theorem lw_p33 : lw_okq (⟨"TensorForge$Machine", "ofWindow", "(LTensorForge$Node;LTensorForge$Node;II)I"⟩, 9) := ⟨⟨by decide +kernel, by decide +kernel⟩, List.mem_of_getElem? (i := 77) (by decide +kernel), List.mem_of_getElem? (i := 792) (by decide +kernel), List.mem_of_getElem? (i := 793) (by decide +kernel)⟩
theorem lw_p34 : lw_okq (⟨"TensorForge$Machine", "sumAllChannels", "(LTensorForge$Node;LTensorForge$Node;II)I"⟩, 9) := ⟨⟨by decide +kernel, by decide +kernel⟩, List.mem_of_getElem? (i := 77) (by decide +kernel), List.mem_of_getElem? (i := 796) (by decide +kernel), List.mem_of_getElem? (i := 797) (by decide +kernel)⟩
theorem lw_p35 : lw_okq (⟨"TensorForge$Machine", "sumOneChannel", "(LTensorForge$Node;LTensorForge$Node;II)I"⟩, 9) := ⟨⟨by decide +kernel, by decide +kernel⟩, List.mem_of_getElem? (i := 77) (by decide +kernel), List.mem_of_getElem? (i := 800) (by decide +kernel), List.mem_of_getElem? (i := 801) (by decide +kernel)⟩
theorem lw_p36 : lw_okq (⟨"TensorForge$Machine", "greatest", "(LTensorForge$Node;I)I"⟩, 9) := ⟨⟨by decide +kernel, by decide +kernel⟩, List.mem_of_getElem? (i := 77) (by decide +kernel), List.mem_of_getElem? (i := 804) (by decide +kernel), List.mem_of_getElem? (i := 805) (by decide +kernel)⟩
theorem lw_p37 : lw_okq (⟨"TensorForge$Machine", "average", "(LTensorForge$Node;I)I"⟩, 9) := ⟨⟨by decide +kernel, by decide +kernel⟩, List.mem_of_getElem? (i := 77) (by decide +kernel), List.mem_of_getElem? (i := 808) (by decide +kernel), List.mem_of_getElem? (i := 809) (by decide +kernel)⟩
theorem lw_p38 : lw_okq (⟨"TensorForge$Machine", "sumOfResult", "()I"⟩, 9) := ⟨⟨by decide +kernel, by decide +kernel⟩, List.mem_of_getElem? (i := 77) (by decide +kernel), List.mem_of_getElem? (i := 815) (by decide +kernel), List.mem_of_getElem? (i := 816) (by decide +kernel)⟩
theorem lw_p39 : lw_okq (⟨"TensorForge", "aboutPlanned", "(II)I"⟩, 5) := ⟨⟨by decide +kernel, by decide +kernel⟩, List.mem_of_getElem? (i := 20) (by decide +kernel), List.mem_of_getElem? (i := 863) (by decide +kernel), List.mem_of_getElem? (i := 864) (by decide +kernel)⟩
theorem lw_p40 : lw_okq (⟨"TensorForgeModel", "out", "(II)Z"⟩, 32) := ⟨⟨by decide +kernel, by decide +kernel⟩, List.mem_of_getElem? (i := 874) (by decide +kernel), List.mem_of_getElem? (i := 986) (by decide +kernel), List.mem_of_getElem? (i := 987) (by decide +kernel)⟩
theorem lw_p41 : lw_okq (⟨"TensorForgeModel", "fail", "(I)I"⟩, 32) := ⟨⟨by decide +kernel, by decide +kernel⟩, List.mem_of_getElem? (i := 874) (by decide +kernel), List.mem_of_getElem? (i := 990) (by decide +kernel), List.mem_of_getElem? (i := 991) (by decide +kernel)⟩
theorem lw_p42 : lw_okq (⟨"TensorForgeModel", "badScale", "(D)Z"⟩, 32) := ⟨⟨by decide +kernel, by decide +kernel⟩, List.mem_of_getElem? (i := 874) (by decide +kernel), List.mem_of_getElem? (i := 998) (by decide +kernel), List.mem_of_getElem? (i := 999) (by decide +kernel)⟩
theorem lw_p43 : lw_okq (⟨"TensorForgeModel", "make", "(IIIIIID)I"⟩, 32) := ⟨⟨by decide +kernel, by decide +kernel⟩, List.mem_of_getElem? (i := 874) (by decide +kernel), List.mem_of_getElem? (i := 1007) (by decide +kernel), List.mem_of_getElem? (i := 1008) (by decide +kernel)⟩
theorem lw_p44 : lw_okq (⟨"TensorForgeModel", "finish", "(IIII)I"⟩, 32) := ⟨⟨by decide +kernel, by decide +kernel⟩, List.mem_of_getElem? (i := 874) (by decide +kernel), List.mem_of_getElem? (i := 1011) (by decide +kernel), List.mem_of_getElem? (i := 1012) (by decide +kernel)⟩
theorem lw_p45 : lw_okq (⟨"TensorForgeModel", "side", "(I)I"⟩, 32) := ⟨⟨by decide +kernel, by decide +kernel⟩, List.mem_of_getElem? (i := 874) (by decide +kernel), List.mem_of_getElem? (i := 1019) (by decide +kernel), List.mem_of_getElem? (i := 1020) (by decide +kernel)⟩
theorem lw_p46 : lw_okq (⟨"TensorForgeModel", "narrow", "(II)Z"⟩, 32) := ⟨⟨by decide +kernel, by decide +kernel⟩, List.mem_of_getElem? (i := 874) (by decide +kernel), List.mem_of_getElem? (i := 1023) (by decide +kernel), List.mem_of_getElem? (i := 1024) (by decide +kernel)⟩
theorem lw_p47 : lw_okq (⟨"TensorForgeModel", "badRatio", "(D)Z"⟩, 32) := ⟨⟨by decide +kernel, by decide +kernel⟩, List.mem_of_getElem? (i := 874) (by decide +kernel), List.mem_of_getElem? (i := 1027) (by decide +kernel), List.mem_of_getElem? (i := 1028) (by decide +kernel)⟩
def lw_privs_3 : List (MethodName × Nat) := [(⟨"TensorForge$Window", "before", "(II)I"⟩, 12), (⟨"TensorForge$Machine", "ofWindow", "(LTensorForge$Node;LTensorForge$Node;II)I"⟩, 9), (⟨"TensorForge$Machine", "sumAllChannels", "(LTensorForge$Node;LTensorForge$Node;II)I"⟩, 9), (⟨"TensorForge$Machine", "sumOneChannel", "(LTensorForge$Node;LTensorForge$Node;II)I"⟩, 9), (⟨"TensorForge$Machine", "greatest", "(LTensorForge$Node;I)I"⟩, 9), (⟨"TensorForge$Machine", "average", "(LTensorForge$Node;I)I"⟩, 9), (⟨"TensorForge$Machine", "sumOfResult", "()I"⟩, 9), (⟨"TensorForge", "aboutPlanned", "(II)I"⟩, 5), (⟨"TensorForgeModel", "out", "(II)Z"⟩, 32), (⟨"TensorForgeModel", "fail", "(I)I"⟩, 32), (⟨"TensorForgeModel", "badScale", "(D)Z"⟩, 32), (⟨"TensorForgeModel", "make", "(IIIIIID)I"⟩, 32), (⟨"TensorForgeModel", "finish", "(IIII)I"⟩, 32), (⟨"TensorForgeModel", "side", "(I)I"⟩, 32), (⟨"TensorForgeModel", "narrow", "(II)Z"⟩, 32), (⟨"TensorForgeModel", "badRatio", "(D)Z"⟩, 32)]
theorem lw_r3 : ∀ q ∈ lw_privs_3, lw_okq q := List.forall_mem_cons.mpr ⟨lw_p32, List.forall_mem_cons.mpr ⟨lw_p33, List.forall_mem_cons.mpr ⟨lw_p34, List.forall_mem_cons.mpr ⟨lw_p35, List.forall_mem_cons.mpr ⟨lw_p36, List.forall_mem_cons.mpr ⟨lw_p37, List.forall_mem_cons.mpr ⟨lw_p38, List.forall_mem_cons.mpr ⟨lw_p39, List.forall_mem_cons.mpr ⟨lw_p40, List.forall_mem_cons.mpr ⟨lw_p41, List.forall_mem_cons.mpr ⟨lw_p42, List.forall_mem_cons.mpr ⟨lw_p43, List.forall_mem_cons.mpr ⟨lw_p44, List.forall_mem_cons.mpr ⟨lw_p45, List.forall_mem_cons.mpr ⟨lw_p46, List.forall_mem_cons.mpr ⟨lw_p47, fun _ h => absurd h List.not_mem_nil⟩⟩⟩⟩⟩⟩⟩⟩⟩⟩⟩⟩⟩⟩⟩⟩
theorem lw_p48 : lw_okq (⟨"TensorForgeModel", "places", "(II)I"⟩, 32) := ⟨⟨by decide +kernel, by decide +kernel⟩, List.mem_of_getElem? (i := 874) (by decide +kernel), List.mem_of_getElem? (i := 1033) (by decide +kernel), List.mem_of_getElem? (i := 1034) (by decide +kernel)⟩
theorem lw_p49 : lw_okq (⟨"TensorForgeModel", "stride", "(I)I"⟩, 32) := ⟨⟨by decide +kernel, by decide +kernel⟩, List.mem_of_getElem? (i := 874) (by decide +kernel), List.mem_of_getElem? (i := 1037) (by decide +kernel), List.mem_of_getElem? (i := 1038) (by decide +kernel)⟩
theorem lw_p50 : lw_okq (⟨"TensorForgeModel", "cells", "(I)I"⟩, 32) := ⟨⟨by decide +kernel, by decide +kernel⟩, List.mem_of_getElem? (i := 874) (by decide +kernel), List.mem_of_getElem? (i := 1045) (by decide +kernel), List.mem_of_getElem? (i := 1046) (by decide +kernel)⟩
theorem lw_p51 : lw_okq (⟨"TensorForgeModel", "sameSize", "(II)Z"⟩, 32) := ⟨⟨by decide +kernel, by decide +kernel⟩, List.mem_of_getElem? (i := 874) (by decide +kernel), List.mem_of_getElem? (i := 1053) (by decide +kernel), List.mem_of_getElem? (i := 1054) (by decide +kernel)⟩
theorem lw_p52 : lw_okq (⟨"TensorForgeModel", "findStands", "(I)V"⟩, 32) := ⟨⟨by decide +kernel, by decide +kernel⟩, List.mem_of_getElem? (i := 874) (by decide +kernel), List.mem_of_getElem? (i := 1085) (by decide +kernel), List.mem_of_getElem? (i := 1086) (by decide +kernel)⟩
theorem lw_p53 : lw_okq (⟨"TensorForgeModel", "standFor", "(I)I"⟩, 32) := ⟨⟨by decide +kernel, by decide +kernel⟩, List.mem_of_getElem? (i := 874) (by decide +kernel), List.mem_of_getElem? (i := 1089) (by decide +kernel), List.mem_of_getElem? (i := 1090) (by decide +kernel)⟩
theorem lw_p54 : lw_okq (⟨"TensorForgeModel", "alike", "(II)Z"⟩, 32) := ⟨⟨by decide +kernel, by decide +kernel⟩, List.mem_of_getElem? (i := 874) (by decide +kernel), List.mem_of_getElem? (i := 1093) (by decide +kernel), List.mem_of_getElem? (i := 1094) (by decide +kernel)⟩
theorem lw_p55 : lw_okq (⟨"TensorForgeModel", "findRoles", "()V"⟩, 32) := ⟨⟨by decide +kernel, by decide +kernel⟩, List.mem_of_getElem? (i := 874) (by decide +kernel), List.mem_of_getElem? (i := 1097) (by decide +kernel), List.mem_of_getElem? (i := 1098) (by decide +kernel)⟩
theorem lw_p56 : lw_okq (⟨"TensorForgeModel", "uses", "(I)I"⟩, 32) := ⟨⟨by decide +kernel, by decide +kernel⟩, List.mem_of_getElem? (i := 874) (by decide +kernel), List.mem_of_getElem? (i := 1101) (by decide +kernel), List.mem_of_getElem? (i := 1102) (by decide +kernel)⟩
theorem lw_p57 : lw_okq (⟨"TensorForgeModel", "findLives", "()V"⟩, 32) := ⟨⟨by decide +kernel, by decide +kernel⟩, List.mem_of_getElem? (i := 874) (by decide +kernel), List.mem_of_getElem? (i := 1105) (by decide +kernel), List.mem_of_getElem? (i := 1106) (by decide +kernel)⟩
theorem lw_p58 : lw_okq (⟨"TensorForgeModel", "hasInput", "(II)Z"⟩, 32) := ⟨⟨by decide +kernel, by decide +kernel⟩, List.mem_of_getElem? (i := 874) (by decide +kernel), List.mem_of_getElem? (i := 1109) (by decide +kernel), List.mem_of_getElem? (i := 1110) (by decide +kernel)⟩
theorem lw_p59 : lw_okq (⟨"TensorForgeModel", "plan", "()V"⟩, 32) := ⟨⟨by decide +kernel, by decide +kernel⟩, List.mem_of_getElem? (i := 874) (by decide +kernel), List.mem_of_getElem? (i := 1113) (by decide +kernel), List.mem_of_getElem? (i := 1114) (by decide +kernel)⟩
theorem lw_p60 : lw_okq (⟨"TensorForgeModel", "hits", "(III)Z"⟩, 32) := ⟨⟨by decide +kernel, by decide +kernel⟩, List.mem_of_getElem? (i := 874) (by decide +kernel), List.mem_of_getElem? (i := 1117) (by decide +kernel), List.mem_of_getElem? (i := 1118) (by decide +kernel)⟩
theorem lw_p61 : lw_okq (⟨"TensorForgeModel", "value", "(II)I"⟩, 32) := ⟨⟨by decide +kernel, by decide +kernel⟩, List.mem_of_getElem? (i := 874) (by decide +kernel), List.mem_of_getElem? (i := 1129) (by decide +kernel), List.mem_of_getElem? (i := 1130) (by decide +kernel)⟩
theorem lw_p62 : lw_okq (⟨"TensorForgeModel", "windowSum", "(IIIII)J"⟩, 32) := ⟨⟨by decide +kernel, by decide +kernel⟩, List.mem_of_getElem? (i := 874) (by decide +kernel), List.mem_of_getElem? (i := 1133) (by decide +kernel), List.mem_of_getElem? (i := 1134) (by decide +kernel)⟩
theorem lw_p63 : lw_okq (⟨"TensorForgeModel", "before", "(II)I"⟩, 32) := ⟨⟨by decide +kernel, by decide +kernel⟩, List.mem_of_getElem? (i := 874) (by decide +kernel), List.mem_of_getElem? (i := 1137) (by decide +kernel), List.mem_of_getElem? (i := 1138) (by decide +kernel)⟩
def lw_privs_4 : List (MethodName × Nat) := [(⟨"TensorForgeModel", "places", "(II)I"⟩, 32), (⟨"TensorForgeModel", "stride", "(I)I"⟩, 32), (⟨"TensorForgeModel", "cells", "(I)I"⟩, 32), (⟨"TensorForgeModel", "sameSize", "(II)Z"⟩, 32), (⟨"TensorForgeModel", "findStands", "(I)V"⟩, 32), (⟨"TensorForgeModel", "standFor", "(I)I"⟩, 32), (⟨"TensorForgeModel", "alike", "(II)Z"⟩, 32), (⟨"TensorForgeModel", "findRoles", "()V"⟩, 32), (⟨"TensorForgeModel", "uses", "(I)I"⟩, 32), (⟨"TensorForgeModel", "findLives", "()V"⟩, 32), (⟨"TensorForgeModel", "hasInput", "(II)Z"⟩, 32), (⟨"TensorForgeModel", "plan", "()V"⟩, 32), (⟨"TensorForgeModel", "hits", "(III)Z"⟩, 32), (⟨"TensorForgeModel", "value", "(II)I"⟩, 32), (⟨"TensorForgeModel", "windowSum", "(IIIII)J"⟩, 32), (⟨"TensorForgeModel", "before", "(II)I"⟩, 32)]
theorem lw_r4 : ∀ q ∈ lw_privs_4, lw_okq q := List.forall_mem_cons.mpr ⟨lw_p48, List.forall_mem_cons.mpr ⟨lw_p49, List.forall_mem_cons.mpr ⟨lw_p50, List.forall_mem_cons.mpr ⟨lw_p51, List.forall_mem_cons.mpr ⟨lw_p52, List.forall_mem_cons.mpr ⟨lw_p53, List.forall_mem_cons.mpr ⟨lw_p54, List.forall_mem_cons.mpr ⟨lw_p55, List.forall_mem_cons.mpr ⟨lw_p56, List.forall_mem_cons.mpr ⟨lw_p57, List.forall_mem_cons.mpr ⟨lw_p58, List.forall_mem_cons.mpr ⟨lw_p59, List.forall_mem_cons.mpr ⟨lw_p60, List.forall_mem_cons.mpr ⟨lw_p61, List.forall_mem_cons.mpr ⟨lw_p62, List.forall_mem_cons.mpr ⟨lw_p63, fun _ h => absurd h List.not_mem_nil⟩⟩⟩⟩⟩⟩⟩⟩⟩⟩⟩⟩⟩⟩⟩⟩
theorem lw_p64 : lw_okq (⟨"TensorForgeModel", "at", "(IIII)I"⟩, 32) := ⟨⟨by decide +kernel, by decide +kernel⟩, List.mem_of_getElem? (i := 874) (by decide +kernel), List.mem_of_getElem? (i := 1141) (by decide +kernel), List.mem_of_getElem? (i := 1142) (by decide +kernel)⟩
theorem lw_p65 : lw_okq (⟨"TensorForgeModel", "scaled", "(JD)J"⟩, 32) := ⟨⟨by decide +kernel, by decide +kernel⟩, List.mem_of_getElem? (i := 874) (by decide +kernel), List.mem_of_getElem? (i := 1146) (by decide +kernel), List.mem_of_getElem? (i := 1147) (by decide +kernel)⟩
theorem lw_p66 : lw_okq (⟨"TensorForgeModel", "halves", "(JJ)J"⟩, 32) := ⟨⟨by decide +kernel, by decide +kernel⟩, List.mem_of_getElem? (i := 874) (by decide +kernel), List.mem_of_getElem? (i := 1155) (by decide +kernel), List.mem_of_getElem? (i := 1156) (by decide +kernel)⟩
theorem lw_p67 : lw_okq (⟨"TensorForgeModel", "cut", "(J)I"⟩, 32) := ⟨⟨by decide +kernel, by decide +kernel⟩, List.mem_of_getElem? (i := 874) (by decide +kernel), List.mem_of_getElem? (i := 1160) (by decide +kernel), List.mem_of_getElem? (i := 1161) (by decide +kernel)⟩
theorem lw_p68 : lw_okq (⟨"TensorForgeModel", "denseSum", "(III)J"⟩, 32) := ⟨⟨by decide +kernel, by decide +kernel⟩, List.mem_of_getElem? (i := 874) (by decide +kernel), List.mem_of_getElem? (i := 1166) (by decide +kernel), List.mem_of_getElem? (i := 1167) (by decide +kernel)⟩
theorem lw_p69 : lw_okq (⟨"TensorForgeModel", "joined", "(IIIII)I"⟩, 32) := ⟨⟨by decide +kernel, by decide +kernel⟩, List.mem_of_getElem? (i := 874) (by decide +kernel), List.mem_of_getElem? (i := 1170) (by decide +kernel), List.mem_of_getElem? (i := 1171) (by decide +kernel)⟩
theorem lw_p70 : lw_okq (⟨"TensorForgeModel", "pooled", "(IIIII)I"⟩, 32) := ⟨⟨by decide +kernel, by decide +kernel⟩, List.mem_of_getElem? (i := 874) (by decide +kernel), List.mem_of_getElem? (i := 1174) (by decide +kernel), List.mem_of_getElem? (i := 1175) (by decide +kernel)⟩
def lw_privs_5 : List (MethodName × Nat) := [(⟨"TensorForgeModel", "at", "(IIII)I"⟩, 32), (⟨"TensorForgeModel", "scaled", "(JD)J"⟩, 32), (⟨"TensorForgeModel", "halves", "(JJ)J"⟩, 32), (⟨"TensorForgeModel", "cut", "(J)I"⟩, 32), (⟨"TensorForgeModel", "denseSum", "(III)J"⟩, 32), (⟨"TensorForgeModel", "joined", "(IIIII)I"⟩, 32), (⟨"TensorForgeModel", "pooled", "(IIIII)I"⟩, 32)]
theorem lw_r5 : ∀ q ∈ lw_privs_5, lw_okq q := List.forall_mem_cons.mpr ⟨lw_p64, List.forall_mem_cons.mpr ⟨lw_p65, List.forall_mem_cons.mpr ⟨lw_p66, List.forall_mem_cons.mpr ⟨lw_p67, List.forall_mem_cons.mpr ⟨lw_p68, List.forall_mem_cons.mpr ⟨lw_p69, List.forall_mem_cons.mpr ⟨lw_p70, fun _ h => absurd h List.not_mem_nil⟩⟩⟩⟩⟩⟩⟩
def lw_privs : List (MethodName × Nat) := lw_privs_1 ++ (lw_privs_2 ++ (lw_privs_3 ++ (lw_privs_4 ++ (lw_privs_5))))
def lw_tbl : List Cond := k2_sels lw_privs ++ tables_1
theorem lw_privs_ok : ∀ q ∈ lw_privs, lw_okq q := by
  show ∀ q ∈ lw_privs_1 ++ (lw_privs_2 ++ (lw_privs_3 ++ (lw_privs_4 ++ (lw_privs_5)))), lw_okq q
  exact List.forall_mem_append.mpr ⟨lw_r1, List.forall_mem_append.mpr ⟨lw_r2, List.forall_mem_append.mpr ⟨lw_r3, List.forall_mem_append.mpr ⟨lw_r4, lw_r5⟩⟩⟩⟩
end
section
/-! ===== BEGIN words of one list among another's, by their places ===== -/
theorem goodIn_r {big : List Cond} (ws : List Cond) (ps : List Nat) (hp : ws = ps.filterMap (fun i => big[i]?)) (h : ws.all goodWord = true) : GoodIn big ws := by
  intro w hw
  have h1 := List.all_eq_true.mp h w hw
  rw [hp] at hw
  obtain ⟨i, -, hi⟩ := List.mem_filterMap.mp hw
  have hm : w ∈ big := by first | exact List.mem_of_getElem? hi | exact List.getElem?_mem hi
  exact ⟨hm, good_of_word h1⟩
theorem goodIn_app {big a b : List Cond} (ha : GoodIn big a) (hb : GoodIn big b) : GoodIn big (a ++ b) := fun w h => (List.mem_append.mp h).elim (ha w) (hb w)
theorem goodIn_ca {big a b : List Cond} {c : Cond} (ha : GoodIn big (c :: a)) (hb : GoodIn big b) : GoodIn big (c :: (a ++ b)) := fun w h => (List.mem_cons.mp h).elim (fun e => ha w (List.mem_cons.mpr (Or.inl e))) (fun h => (List.mem_append.mp h).elim (fun h => ha w (List.mem_cons.mpr (Or.inr h))) (hb w))
theorem goodIn_sub {big ws : List Cond} (hm : ∀ w ∈ ws, w ∈ big) (h : ws.all goodWord = true) : GoodIn big ws := fun w hw => ⟨hm w hw, good_of_word (List.all_eq_true.mp h w hw)⟩
/-! ===== END ===== -/

/-! ===== BEGIN exceptions that leave a method, and their catching by the caller (launches without stack traces) ===== -/
section VXA
/-! The laws vx_back, vx_callV, vx_callS, vx_callSW, vx_throw0, vx_throwS follow proofs of the library, with one case more: JvmDerived/Free/Laws.lean (Back.of_free), Shelf42/LK1.lean (callV, callS), Shelf/KitTraced.lean (throwNew0V, throwNewS). -/
/-- where a method has thrown q: the class by its name, the cell, what was written, the world -/
def vx_T (XC : String → State → State → Prop) (st : State) (q : Addr) (t : State) (mc ms : Nat) (free : Addr → Prop) : Prop :=
  ∃ (E : String) (ce : Cell) (L : List Loc), XC E st t ∧ t.heap[q]? = some ce ∧ ce.vm = .none ∧ st.vm.findClass E = some ce.cls ∧ st.WarmedH t.vm ∧ st.sameButNew ({ t with vm := st.vm } : State) L mc ms ∧ ∀ z ∈ L, free z.base
def vx_Q (Qc : Array Value → State → Outcome → State → Prop) (XC : String → State → State → Prop) (mc ms : Nat) (free : Addr → Prop) : Array Value → State → Outcome → State → Prop := fun a st o t =>
  (Qc a st o t ∧ ∃ L, FrameEnd st o t L mc ms ∧ ∀ q ∈ L, free q.base) ∨ ∃ q, o = .threw q ∧ vx_T XC st q t mc ms free
/-- a callee that returns or throws -/
def vx_Met (l : Launch) (y : MethodName) (ws : List Cond) (rm : Room) (Pc : Array Value → State → Prop) (Qc : Array Value → State → Outcome → State → Prop) (XC : String → State → State → Prop) (mc ms : Nat) (free : Addr → Prop) : Prop :=
  MetFree l y (headSpec ws rm) Pc (fun _ _ _ _ _ => True) (vx_Q Qc XC mc ms free)
def vx_Post (XC : String → State → State → Prop) (mc ms : Nat) (free : Addr → Prop) : Pt → Array Value → Addr → Pt → Prop := fun A a q B =>
  ∃ (g : JFrame) (mk : MethodId) (t : State) (L : List Loc) (E : String) (ce : Cell), B.U.heap = t.heap ∧ B.U.vm = t.vm ∧ XC E (A.U.calling g mk a) t ∧ t.heap[q]? = some ce ∧ ce.vm = .none ∧ A.U.vm.findClass E = some ce.cls ∧ B.locs = A.locs ++ L ∧ (∀ z ∈ L, free z.base) ∧ B.cells = A.cells + mc ∧ B.slots = A.slots + ms
def vx_Back (l : Launch) (R : Room) (p : Program) (e : Env) (below : List Frame) (s : State) (sargs : Array Value) (y : MethodName) (len W9 : Nat)
    (Pre : Pt → Array Value → Prop) (Post : Pt → Array Value → Option Value → Pt → Prop) (PostX : Pt → Array Value → Addr → Pt → Prop) : Prop :=
  ∀ (m : MethodId) (meth : Method) (c : Code) (A : Pt) (g : JFrame) (ig : Instr) (mk : MethodId) (a : Array Value),
    Stand p l e R s m sargs below meth c A.U A.locs A.cells A.slots → g.method = m → g.locals.size = c.maxLocals → decode c.code g.pc = .ok (ig, len) →
    2 * g.monitorRoom + (g.stack.map fun v => v.category).sum ≤ W9 → A.U.methodNamed? y = some mk → Pre A a →
    (∃ (v : Option Value) (B : Pt), Stand p l e R s m sargs below meth c B.U B.locs B.cells B.slots ∧ Post A a v B ∧
      Steps p.tables e below (doInvoke e (A.U.setTop g) [] mk a).1 (B.U.setTop { g with pc := g.pc + len, stack := v.toList ++ g.stack })) ∨
    (∃ (q : Addr) (B : Pt), Stand p l e R s m sargs below meth c B.U B.locs B.cells B.slots ∧ PostX A a q B ∧
      Steps p.tables e below (doInvoke e (A.U.setTop g) [] mk a).1 ((B.U.setTop g).pushFrame (.throwing q)))
section Payer
variable {l : Launch} {R : Room} {p : Program} {e : Env} {below : List Frame} {s : State} {sargs : Array Value} {y : MethodName} {len W9 : Nat}
theorem vx_back {ws : List Cond} {rm : Room} {Pc : Array Value → State → Prop} {Qc : Array Value → State → Outcome → State → Prop} {XC : String → State → State → Prop} {mc ms : Nat} {free : Addr → Prop} {bytes : ByteArray} {maxL : Nat} {ret : Option FieldType}
    (hM : vx_Met l y ws rm Pc Qc XC mc ms free) (hblind : FrameBlind Pc) (hrc : rm.cells = mc) (hrs : rm.slots = ms)
    (hframes : rm.frames + 1 ≤ R.frames) (hlocals : W9 + (maxL + 11) + rm.locals ≤ R.locals)
    (hws : ∀ w ∈ ws, ∀ a' U, s.WarmedH U.vm → w.before a' U = true) (hcode : Cond.code y bytes maxL ret ∈ ws) (hinit : ∀ a' U, s.WarmedH U.vm → (Cond.initialized y.cls).before a' U = true) :
    vx_Back l R p e below s sargs y len W9 (PreOf R mc ms Pc) (PostOf Qc mc ms free) (vx_Post XC mc ms free) := by
  intro m meth c A g ig mk a X hg hsize hdg hW hn hp
  have h1 : (headSpec ws rm).pre.before a A.U = true := atoms_intro fun w hw => hws w hw _ _ X.warmed
  have h2 : (Cond.code y bytes maxL ret).before a A.U = true := hws _ hcode _ _ X.warmed
  have h3 : (Cond.initialized y.cls).before a A.U = true := hinit _ _ X.warmed
  have h4 : A.cells + (headSpec ws rm).room.cells ≤ R.cells := by rw [show (headSpec ws rm).room.cells = mc from hrc]; exact hp.1
  have h5 : A.slots + (headSpec ws rm).room.slots ≤ R.slots := by rw [show (headSpec ws rm).room.slots = ms from hrs]; exact hp.2.1
  have hPc : Pc a (A.U.calling g mk a) := hblind _ _ _ _ hp.2.2
  obtain ⟨U, Ls, c0, s0⟩ := A
  dsimp only [Pt.U, Pt.locs, Pt.cells, Pt.slots] at h1 h2 h3 h4 h5 X hn hPc ⊢
  obtain ⟨methY, cY, hmY, hcY, -, hlY, -, -, -, -⟩ := Cond.code_spec hn h2
  obtain ⟨kY, hkY, -⟩ := className_of_methodNamed hn
  have hinitY : kY.init = .initialized := Cond.initialized_spec (findClass_of_methodNamed hn) hkY h3
  have h : At U g.method c below := by rw [hg]; exact X.here
  have hlocals9 : W9 + (maxL + 11) + (headSpec ws rm).room.locals ≤ R.locals := hlocals
  have happ : (headSpec ws rm).appliesLoose y e.platform (U.calling g mk a) = true :=
    Spec.appliesLoose_calling (g := g) h hdg hn hkY hinitY
      (X.room_calling (g := g) (R' := (headSpec ws rm).room) hsize hmY hcY hframes (by rw [hlY]; omega) h4 h5) h1
  obtain ⟨mid, hmid⟩ := h.above
  have hfr : (U.setTop g).frames = (.java g :: mid) ++ below := by rw [State.frames_setTop' g h.top, hmid]; rfl
  obtain ⟨o, s₂, hsteps, -, hend, hq⟩ := Steps.callFree hM p X.admits X.cas X.clock (acts := []) hfr happ hPc trivial
  have hq' : vx_Q Qc XC mc ms free a (U.calling g mk a) o s₂ := hq
  rw [State.frames_setTop' g h.top] at hend
  obtain ⟨g₀, hg0⟩ := Option.isSome_iff_exists.mp h.top
  obtain ⟨r, hr⟩ := State.topJava?_eq_some.mp hg0
  have hr' : (({ U with heap := s₂.heap, slotsUsed := s₂.slotsUsed } : State).setVm s₂.vm).frames = .java g₀ :: r := hr
  rcases hq' with ⟨hqc, L, hfe, hL⟩ | ⟨q, rfl, E, ce, L, hx, hce, hcv, hcl, hW₂, hsm, hL⟩
  · obtain ⟨⟨v, rfl⟩, hW₂, e2, q2, q3, q4, q5, q6⟩ := id hfe
    have e3 : s₂ = ({ (U.calling g mk a).setFrames s₂.frames with heap := s₂.heap, slotsUsed := s₂.slotsUsed } : State).setVm s₂.vm := by
      have : s₂ = ({ s₂ with vm := (U.calling g mk a).vm } : State).setVm s₂.vm := rfl
      rw [e2] at this
      exact this
    obtain ⟨c₂, i₂, len₂, hc₂, hd₂, hf₂⟩ := hend
    have hW' : U.WarmedH s₂.vm := hW₂
    have hcc : c₂ = c := by
      have h1 : s₂.code? g.method = U.code? g.method := by
        rw [State.code?_eq, State.code?_eq, hW'.alike.method?]
      exact Option.some.inj (hc₂.symm.trans (h1.trans h.code))
    subst hcc
    have hlen : len₂ = len := by rw [hdg] at hd₂; cases hd₂; rfl
    subst hlen
    have hs₂ : s₂ = (({ U with heap := s₂.heap, slotsUsed := s₂.slotsUsed } : State).setVm s₂.vm).setTop { g with pc := g.pc + len₂, stack := v.toList ++ g.stack } := by
      refine e3.trans ?_
      rw [hf₂, State.calling_eq h.top, State.setFrames_setFrames, State.setTop_of_frames _ hr', hr]
      rfl
    have hsame : U.sameButNew ({ U with heap := s₂.heap, slotsUsed := s₂.slotsUsed } : State) L mc ms := by
      refine ⟨?_, q2, q3, q4, q5, q6⟩
      obtain ⟨t, ht, -⟩ := State.frames_cons hr
      show ({ U with heap := s₂.heap, slotsUsed := s₂.slotsUsed } : State) = { U.setFrames U.frames with heap := s₂.heap, slotsUsed := s₂.slotsUsed }
      rw [State.setFrames_self ht]
    subst hg
    refine Or.inl ⟨v, ⟨(({ U with heap := s₂.heap, slotsUsed := s₂.slotsUsed } : State).setVm s₂.vm), Ls ++ L, c0 + mc, s0 + ms⟩,
      ⟨X.admits, X.cas, X.clock, X.frames, X.room, X.hears, X.method, X.code, (X.here.setHeapUsed s₂.heap s₂.slotsUsed).setVm hW'.alike, X.tail, State.WarmedH.trans X.warmed hW', X.limits, X.bytes, X.same.trans (hsame.setVm s.vm)⟩,
      ⟨g, mk, s₂, L, rfl, rfl, hqc, rfl, hL, rfl, rfl⟩, ?_⟩
    show Steps p.tables e below _ ((({ U with heap := s₂.heap, slotsUsed := s₂.slotsUsed } : State).setVm s₂.vm).setTop { g with pc := g.pc + len₂, stack := v.toList ++ g.stack })
    rw [← hs₂]
    exact hsteps
  · obtain ⟨e2, q2, q3, q4, q5, q6⟩ := id hsm
    have e3 : s₂ = ({ (U.calling g mk a).setFrames s₂.frames with heap := s₂.heap, slotsUsed := s₂.slotsUsed } : State).setVm s₂.vm := by
      have : s₂ = ({ s₂ with vm := (U.calling g mk a).vm } : State).setVm s₂.vm := rfl
      rw [e2] at this
      exact this
    have hf₂ : s₂.frames = .throwing q :: .java g :: U.frames.tail := hend
    have hW' : U.WarmedH s₂.vm := hW₂
    have hs₂ : s₂ = ((({ U with heap := s₂.heap, slotsUsed := s₂.slotsUsed } : State).setVm s₂.vm).setTop g).pushFrame (.throwing q) := by
      refine e3.trans ?_
      rw [hf₂, State.calling_eq h.top, State.setFrames_setFrames, State.pushFrame, State.frames_setTop _ hr', State.setTop_of_frames _ hr', State.setFrames_setFrames, hr]
      rfl
    have hsame : U.sameButNew ({ U with heap := s₂.heap, slotsUsed := s₂.slotsUsed } : State) L mc ms := by
      refine ⟨?_, q2, q3, q4, q5, q6⟩
      obtain ⟨t, ht, -⟩ := State.frames_cons hr
      show ({ U with heap := s₂.heap, slotsUsed := s₂.slotsUsed } : State) = { U.setFrames U.frames with heap := s₂.heap, slotsUsed := s₂.slotsUsed }
      rw [State.setFrames_self ht]
    subst hg
    refine Or.inr ⟨q, ⟨(({ U with heap := s₂.heap, slotsUsed := s₂.slotsUsed } : State).setVm s₂.vm), Ls ++ L, c0 + mc, s0 + ms⟩,
      ⟨X.admits, X.cas, X.clock, X.frames, X.room, X.hears, X.method, X.code, (X.here.setHeapUsed s₂.heap s₂.slotsUsed).setVm hW'.alike, X.tail, State.WarmedH.trans X.warmed hW', X.limits, X.bytes, X.same.trans (hsame.setVm s.vm)⟩,
      ⟨g, mk, s₂, L, E, ce, rfl, rfl, hx, hce, hcv, hcl, rfl, hL, rfl, rfl⟩, ?_⟩
    show Steps p.tables e below _ (((({ U with heap := s₂.heap, slotsUsed := s₂.slotsUsed } : State).setVm s₂.vm).setTop g).pushFrame (.throwing q))
    rw [← hs₂]
    exact hsteps
end Payer
section Calls
variable {p : Program} {l : Launch} {e : Env} {R : Room} {s : State} {m : MethodId} {args : Array Value} {below : List Frame} {meth : Method} {c : Code} {T : State} {locs : List Loc} {cells slots : Nat}
theorem vx_callV (X : Stand p l e R s m args below meth c T locs cells slots) (hexec : p.tables.exec = Jvm.exec) {own C : String} {index : Nat} {y : MethodName} {bytes : ByteArray} {maxL : Nat} {ret : Option FieldType}
    (hown : s.vm.findClass own = some m.cls) (hlink : (Cond.methodLink own index y).before args s = true) (hinst : (Cond.instanceMethod y).before args s = true) (hsel : (Cond.selects C y y).before args s = true)
    (hcode : (Cond.code y bytes maxL ret).before args s = true) (hy : y.cls ≠ "java/lang/invoke/MethodHandle" ∧ y.cls ≠ "java/lang/invoke/VarHandle")
    {W9 : Nat} {Pre : Pt → Array Value → Prop} {Post : Pt → Array Value → Option Value → Pt → Prop} {PostX : Pt → Array Value → Addr → Pt → Prop} (hK : vx_Back l R p e below s args y 3 W9 Pre Post PostX)
    {b : Addr} {cellB : Cell} (hcell : T.heap[b]? = some cellB) (hobj : cellB.vm.isStatics = false) (hcls : s.vm.findClass C = some cellB.cls)
    {g : JFrame} (hg : g.method = m) (hsize : g.locals.size = c.maxLocals) {argsL rest : List Value} (hlen : ∀ sig, parseMethodDescriptor y.desc = some sig → argsL.length = sig.parameters.length)
    (hstack : g.stack = argsL.reverse ++ .ref b :: rest) (hW : 2 * g.monitorRoom + (rest.map fun v => v.category).sum ≤ W9) (hdg : decode c.code g.pc = .ok (.invokevirtual index, 3))
    (hpre : ∀ vm₁, s.WarmedH vm₁ → Pre ⟨T.setVm vm₁, locs, cells, slots⟩ (Value.ref b :: argsL).toArray) :
    (∃ (v : Option Value) (vm₁ : Vm) (B : Pt), s.WarmedH vm₁ ∧ Stand p l e R s m args below meth c B.U B.locs B.cells B.slots ∧ Post ⟨T.setVm vm₁, locs, cells, slots⟩ (Value.ref b :: argsL).toArray v B ∧
      ∀ target, Steps p.tables e below (B.U.setTop { g with pc := g.pc + 3, stack := v.toList ++ rest }) target → Steps p.tables e below (T.setTop g) target) ∨
    (∃ (q : Addr) (vm₁ : Vm) (B : Pt), s.WarmedH vm₁ ∧ Stand p l e R s m args below meth c B.U B.locs B.cells B.slots ∧ PostX ⟨T.setVm vm₁, locs, cells, slots⟩ (Value.ref b :: argsL).toArray q B ∧
      Steps p.tables e below (T.setTop g) ((B.U.setTop { g with stack := rest }).pushFrame (.throwing q))) := by
  obtain ⟨mk, methM, hnamed, hmethM, hstM, habM⟩ := Cond.instanceMethod_spec hinst
  obtain ⟨methM', cM, hmethM', -, -, -, -, -, -, hsigM⟩ := Cond.code_spec hnamed hcode
  cases hmethM.symm.trans hmethM'
  obtain ⟨c2, r2, m2, q1, q2, q3, q4, kP, hkP, hkPi⟩ := Cond.selects_spec hsel
  cases hcls.symm.trans q1
  cases (State.methodFound?_of_named hnamed hy).symm.trans q2
  cases hnamed.symm.trans q3
  have hselP : selectMethod e.platform s.vm cellB.cls mk = .method mk := by rw [Launch.admits_selectMethod X.admits]; exact q4
  obtain ⟨vm₁, X₁, hstep₁⟩ := X.invokevirtual hexec hown hlink hnamed hmethM hstM hkP hkPi hy (a := b) (cell := cellB) hcell
    (fun z h => by rw [h] at hobj; cases hobj) hselP hmethM habM hkP hkPi (g := g) hg (argsL := argsL) (rest := rest) (hlen _ hsigM) hstack hdg
  rcases hK m meth c ⟨T.setVm vm₁, locs, cells, slots⟩ { g with stack := rest } (.invokevirtual index) mk (Value.ref b :: argsL).toArray X₁ hg hsize hdg hW (X₁.named hnamed) (hpre vm₁ X₁.warmed) with ⟨v, B, X', hpost, hsteps⟩ | ⟨q, B, X', hpost, hsteps⟩
  · exact Or.inl ⟨v, vm₁, B, X₁.warmed, X', hpost, fun target h => hstep₁ _ fun acts => by rw [doInvoke_state]; exact hsteps.trans h⟩
  · exact Or.inr ⟨q, vm₁, B, X₁.warmed, X', hpost, hstep₁ _ fun acts => by rw [doInvoke_state]; exact hsteps⟩
theorem vx_callS (X : Stand p l e R s m args below meth c T locs cells slots) (hexec : p.tables.exec = Jvm.exec) {own : String} {index : Nat} {y : MethodName} {bytes : ByteArray} {maxL : Nat} {ret : Option FieldType}
    (hown : s.vm.findClass own = some m.cls) (hlink : (Cond.methodLink own index y).before args s = true) (hstat : (Cond.static y).before args s = true) (hinit : (Cond.initialized y.cls).before args s = true)
    (hcode : (Cond.code y bytes maxL ret).before args s = true) (hy : y.cls ≠ "java/lang/invoke/MethodHandle" ∧ y.cls ≠ "java/lang/invoke/VarHandle")
    {W9 : Nat} {Pre : Pt → Array Value → Prop} {Post : Pt → Array Value → Option Value → Pt → Prop} {PostX : Pt → Array Value → Addr → Pt → Prop} (hK : vx_Back l R p e below s args y 3 W9 Pre Post PostX)
    {g : JFrame} (hg : g.method = m) (hsize : g.locals.size = c.maxLocals) {argsL rest : List Value} (hlen : ∀ sig, parseMethodDescriptor y.desc = some sig → argsL.length = sig.parameters.length)
    (hstack : g.stack = argsL.reverse ++ rest) (hW : 2 * g.monitorRoom + (rest.map fun v => v.category).sum ≤ W9) (hdg : decode c.code g.pc = .ok (.invokestatic index, 3))
    (hpre : ∀ vm₁, s.WarmedH vm₁ → Pre ⟨T.setVm vm₁, locs, cells, slots⟩ argsL.toArray) :
    (∃ (v : Option Value) (vm₁ : Vm) (B : Pt), s.WarmedH vm₁ ∧ Stand p l e R s m args below meth c B.U B.locs B.cells B.slots ∧ Post ⟨T.setVm vm₁, locs, cells, slots⟩ argsL.toArray v B ∧
      ∀ target, Steps p.tables e below (B.U.setTop { g with pc := g.pc + 3, stack := v.toList ++ rest }) target → Steps p.tables e below (T.setTop g) target) ∨
    (∃ (q : Addr) (vm₁ : Vm) (B : Pt), s.WarmedH vm₁ ∧ Stand p l e R s m args below meth c B.U B.locs B.cells B.slots ∧ PostX ⟨T.setVm vm₁, locs, cells, slots⟩ argsL.toArray q B ∧
      Steps p.tables e below (T.setTop g) ((B.U.setTop { g with stack := rest }).pushFrame (.throwing q))) := by
  obtain ⟨mk, hnamed⟩ := Cond.code_named hcode
  obtain ⟨methM, cM, hmethM, -, -, -, -, -, -, hsigM⟩ := Cond.code_spec hnamed hcode
  have hstatic : methM.isStatic = true := Cond.static_spec hnamed hmethM hstat
  obtain ⟨kP, hkP, -⟩ := className_of_methodNamed hnamed
  have hinitP : kP.init = .initialized := Cond.initialized_spec (findClass_of_methodNamed hnamed) hkP hinit
  obtain ⟨vm₁, X₁, hstep₁⟩ := X.invokestatic hexec hown hlink hnamed hmethM hstatic hkP hinitP hy (g := g) hg (argsL := argsL) (rest := rest) (hlen _ hsigM) hstack hdg
  rcases hK m meth c ⟨T.setVm vm₁, locs, cells, slots⟩ { g with stack := rest } (.invokestatic index) mk argsL.toArray X₁ hg hsize hdg hW (X₁.named hnamed) (hpre vm₁ X₁.warmed) with ⟨v, B, X', hpost, hsteps⟩ | ⟨q, B, X', hpost, hsteps⟩
  · exact Or.inl ⟨v, vm₁, B, X₁.warmed, X', hpost, fun target h => hstep₁ _ fun acts => by rw [doInvoke_state]; exact hsteps.trans h⟩
  · exact Or.inr ⟨q, vm₁, B, X₁.warmed, X', hpost, hstep₁ _ fun acts => by rw [doInvoke_state]; exact hsteps⟩
end Calls
theorem vx_cls {s : State} {T : State} {vm₁ : Vm} {E : String} {k : ClassId} (hW : s.WarmedH vm₁) (h : (T.setVm vm₁).vm.findClass E = some k) : s.vm.findClass E = some k := by
  have h1 : vm₁.findClass E = some k := h
  rw [hW.alike.findClass] at h1
  exact h1
/-- the method's frame g, with q thrown over it -/
def vx_W (p : Program) (l : Launch) (e : Env) (R : Room) (s : State) (m : MethodId) (args : Array Value) (below : List Frame) (meth : Method) (c : Code) (H : Heap) (locs : List Loc) (cells slots : Nat) (Q : State → Prop) (g : JFrame) (q : Addr) : Prop :=
  ∀ T : State, T.heap = H → Stand p l e R s m args below meth c T locs cells slots → ∃ t, Steps p.tables e below ((T.setTop g).pushFrame (.throwing q)) t ∧ Q t
def vx_Run (p : Program) (l : Launch) (e : Env) (R : Room) (s : State) (m : MethodId) (args : Array Value) (below : List Frame) (meth : Method) (c : Code) (H : Heap) (locs : List Loc) (cells slots mc ms : Nat) (g : JFrame) (rest : List Value) (Qa : State → Outcome → State → Prop) (XC : String → State → State → Prop) (free : Addr → Prop) : Prop :=
  ∀ T : State, T.heap = H → Stand p l e R s m args below meth c T locs cells slots →
    (∃ (v : Option Value) (st₀ t T' : State) (L : List Loc), st₀.heap = H ∧ Stand p l e R s m args below meth c T' (locs ++ L) (cells + mc) (slots + ms) ∧ (∀ q ∈ L, free q.base) ∧ T'.heap = t.heap ∧ T'.vm = t.vm ∧ Qa st₀ (.returned v) t ∧
      Goes p e below T g T' { g with pc := g.pc + 3, stack := v.toList ++ rest }) ∨
    (∃ (q : Addr) (st₀ t T' : State) (L : List Loc) (E : String) (ce : Cell), st₀.heap = H ∧ Stand p l e R s m args below meth c T' (locs ++ L) (cells + mc) (slots + ms) ∧ (∀ z ∈ L, free z.base) ∧ T'.heap = t.heap ∧ T'.vm = t.vm ∧ XC E st₀ t ∧ t.heap[q]? = some ce ∧ ce.vm = .none ∧ s.vm.findClass E = some ce.cls ∧
      Steps p.tables e below (T.setTop g) ((T'.setTop { g with stack := rest }).pushFrame (.throwing q)))
def vx_X {S : Type} (px : S → Prop) (B : String → S → State → Prop) (A : Nat → Prop) : String → State → State → Prop := fun E st t => ∃ u : S, px u ∧ B E u t ∧ va_F A st t
section Runs
variable {p : Program} {l : Launch} {e : Env} {R : Room} {s : State} {m : MethodId} {args : Array Value} {below : List Frame} {meth : Method} {c : Code} {H : Heap} {locs : List Loc} {cells slots : Nat}
variable {y : MethodName} {bytes cc : ByteArray} {maxL nL mc ms n index : Nat} {ret : Option FieldType} {ws : List Cond} {rm : Room} {Pc : Array Value → State → Prop} {Qc : Array Value → State → Outcome → State → Prop} {XC : String → State → State → Prop} {free : Addr → Prop} {Ts : List Cond} {own C : String} {b : Addr} {As rest : List Value} {g : JFrame}
theorem vx_callBack (cb : CallB R s args own index y bytes maxL ret ws rm mc ms n) (hM : vx_Met l y ws rm Pc Qc XC mc ms free) (hbl : FrameBlind Pc) : vx_Back l R p e below s args y 3 8 (PreOf R mc ms Pc) (PostOf Qc mc ms free) (vx_Post XC mc ms free) := by
  obtain ⟨hrc, hrs, hfr, hlo, hws, hcw, -, hini, -⟩ := cb
  exact vx_back (bytes := bytes) (maxL := maxL) (ret := ret) hM hbl hrc hrs hfr hlo hws hcw (fun a' U hW => word_at hW (Or.inl (by first | rfl | simp [Cond.onTables, Cond.keeps, Cond.steady])) hini)
theorem vx_runV (S : CallFix p m c cc nL s args Ts own) (hM : vx_Met l y ws rm Pc Qc XC mc ms free) (cw : CallW R s args own C index y bytes maxL ret ws rm mc ms n) (hp : PreV s H C b Pc As)
    (hg : g.method = m) (hn : As.length = n) (hsize : g.locals.size = nL) (hstack : g.stack = As.reverse ++ .ref b :: rest) (hW : 2 * g.monitorRoom + (rest.map fun v => v.category).sum ≤ 8) (hdg : decode cc g.pc = .ok (.invokevirtual index, 3)) (hf : cells + mc ≤ R.cells ∧ slots + ms ≤ R.slots) :
    vx_Run p l e R s m args below meth c H locs cells slots mc ms g rest (Qc (Value.ref b :: As).toArray) XC free := by
  have hK : vx_Back l R p e below s args y 3 8 (PreOf R mc ms Pc) (PostOf Qc mc ms free) (vx_Post XC mc ms free) := vx_callBack cw.1 hM hp.1
  obtain ⟨⟨-, -, -, -, -, -, hcode, -, hy, hlen, hl⟩, hin, hse⟩ := cw
  obtain ⟨hx, hb, hml, ho, -⟩ := S
  obtain ⟨-, ⟨cellB, hcB, hoB, hclB⟩, hPc⟩ := hp
  intro T hT X
  rcases vx_callV X hx (C := C) (bytes := bytes) (maxL := maxL) (ret := ret) ho hl hin hse hcode hy hK (by rw [hT]; exact hcB) hoB hclB hg (hsize.trans hml.symm) (argsL := As) (rest := rest) (fun sig h => hn.trans (hlen sig h)) hstack hW (by rw [hb]; exact hdg)
    (fun vm₁ hW₁ => ⟨hf.1, hf.2, hPc (T.setVm vm₁) hT hW₁⟩) with ⟨v, vm₁, ⟨U', l2, c2, s2⟩, hW₁, X', ⟨g', mk, t, L, e1, e2, hq, h1, hL, h2, h3⟩, st⟩ | ⟨q, vm₁, ⟨U', l2, c2, s2⟩, hW₁, X', ⟨g', mk, t, L, E, ce, e1, e2, hq, hce, hcv, hcl, h1, hL, h2, h3⟩, st⟩
  · dsimp only [Pt.U, Pt.locs, Pt.cells, Pt.slots] at X' e1 e2 h1 h2 h3 st
    subst h1; subst h2; subst h3
    exact Or.inl ⟨v, (T.setVm vm₁).calling g' mk (Value.ref b :: As).toArray, t, U', L, hT, X', hL, e1, e2, hq, st⟩
  · dsimp only [Pt.U, Pt.locs, Pt.cells, Pt.slots] at X' e1 e2 h1 h2 h3 st hcl
    subst h1; subst h2; subst h3
    exact Or.inr ⟨q, (T.setVm vm₁).calling g' mk (Value.ref b :: As).toArray, t, U', L, E, ce, hT, X', hL, e1, e2, hq, hce, hcv, vx_cls hW₁ hcl, st⟩
theorem vx_runS (S : CallFix p m c cc nL s args Ts own) (hM : vx_Met l y ws rm Pc Qc XC mc ms free) (cw : CallB R s args own index y bytes maxL ret ws rm mc ms n ∧ (Cond.static y).before args s = true) (hp : PreS s H Pc As)
    (hg : g.method = m) (hn : As.length = n) (hsize : g.locals.size = nL) (hstack : g.stack = As.reverse ++ rest) (hW : 2 * g.monitorRoom + (rest.map fun v => v.category).sum ≤ 8) (hdg : decode cc g.pc = .ok (.invokestatic index, 3)) (hf : cells + mc ≤ R.cells ∧ slots + ms ≤ R.slots) :
    vx_Run p l e R s m args below meth c H locs cells slots mc ms g rest (Qc As.toArray) XC free := by
  have hK : vx_Back l R p e below s args y 3 8 (PreOf R mc ms Pc) (PostOf Qc mc ms free) (vx_Post XC mc ms free) := vx_callBack cw.1 hM hp.1
  obtain ⟨⟨-, -, -, -, -, -, hcode, hini, hy, hlen, hl⟩, hstt⟩ := cw
  obtain ⟨hx, hb, hml, ho, -⟩ := S
  intro T hT X
  rcases vx_callS X hx (bytes := bytes) (maxL := maxL) (ret := ret) ho hl hstt hini hcode hy hK hg (hsize.trans hml.symm) (argsL := As) (rest := rest) (fun sig h => hn.trans (hlen sig h)) hstack hW (by rw [hb]; exact hdg)
    (fun vm₁ hW₁ => ⟨hf.1, hf.2, hp.2 (T.setVm vm₁) hT hW₁⟩) with ⟨v, vm₁, ⟨U', l2, c2, s2⟩, hW₁, X', ⟨g', mk, t, L, e1, e2, hq, h1, hL, h2, h3⟩, st⟩ | ⟨q, vm₁, ⟨U', l2, c2, s2⟩, hW₁, X', ⟨g', mk, t, L, E, ce, e1, e2, hq, hce, hcv, hcl, h1, hL, h2, h3⟩, st⟩
  · dsimp only [Pt.U, Pt.locs, Pt.cells, Pt.slots] at X' e1 e2 h1 h2 h3 st
    subst h1; subst h2; subst h3
    exact Or.inl ⟨v, (T.setVm vm₁).calling g' mk As.toArray, t, U', L, hT, X', hL, e1, e2, hq, st⟩
  · dsimp only [Pt.U, Pt.locs, Pt.cells, Pt.slots] at X' e1 e2 h1 h2 h3 st hcl
    subst h1; subst h2; subst h3
    exact Or.inr ⟨q, (T.setVm vm₁).calling g' mk As.toArray, t, U', L, E, ce, hT, X', hL, e1, e2, hq, hce, hcv, vx_cls hW₁ hcl, st⟩
end Runs
section Rows
variable {p : Program} {l : Launch} {e : Env} {R : Room} {s : State} {m : MethodId} {args : Array Value} {below : List Frame} {meth : Method} {c : Code} {H : Heap} {locs : List Loc} {cells slots : Nat} {Q : State → Prop}
variable {mc ms : Nat} {free : Addr → Prop} {A0 A1 : Nat → Prop} {H0 : Heap} {a : Array Value} {pc : Nat} {ls : Array Slot} {st0 rest : List Value}
theorem vx_keep {st₀ t T' : State} {L : List Loc} (h0 : st₀.heap = H) (e1 : T'.heap = t.heap) (hS : va_S A0 H0 H locs) (hA : ∀ q, q < H.size → A1 q → A0 q) (hf : ∀ q, free q → A0 q) (hL : ∀ q ∈ L, free q.base) (hF : va_F A1 st₀ t) :
    H.size ≤ T'.heap.size ∧ (∀ q : Nat, q < H.size → ¬ A1 q → T'.heap[q]? = H[q]?) ∧ va_S A0 H0 T'.heap (locs ++ L) := by
  obtain ⟨hz, hk⟩ := hF
  rw [h0] at hz hk
  exact ⟨by rw [e1]; exact hz, fun q h1 h2 => by rw [e1]; exact hk q h1 h2,
    ⟨Nat.le_trans hS.1 (by rw [e1]; exact hz), fun q h1 h2 => by rw [e1, hk q (Nat.lt_of_lt_of_le h1 hS.1) (fun z => h2 (hA q (Nat.lt_of_lt_of_le h1 hS.1) z))]; exact hS.2.1 q h1 h2, fun q hq => by
      rcases List.mem_append.mp hq with h | h
      · exact hS.2.2 q h
      · exact hf _ (hL q h)⟩⟩
theorem vx_calli {S SX : Type} {post : Int32 → S → Prop} {px : SX → Prop} {B : S → State → Prop} {BX : String → SX → State → Prop} {AX : Nat → Prop} (hr : vx_Run p l e R s m args below meth c H locs cells slots mc ms (F0 m pc ls st0) rest (va_Qi post B A1 a) (vx_X px BX AX) free) (hS : va_S A0 H0 H locs) (hA : ∀ q, q < H.size → A1 q → A0 q) (hf : ∀ q, free q → A0 q) (hAX : ∀ q, q < H.size → AX q → A0 q)
    (kx : ∀ (E : String) (ce : Cell) (q9 : Addr) (u : SX) (t : State) (H1 : Heap) (locs1 : List Loc), t.heap = H1 → s.vm.Alike t.vm → px u → BX E u t → H.size ≤ H1.size → (∀ q : Nat, q < H.size → ¬ AX q → H1[q]? = H[q]?) → va_S A0 H0 H1 locs1 → H1[q9]? = some ce → ce.vm = .none → s.vm.findClass E = some ce.cls → vx_W p l e R s m args below meth c H1 locs1 (cells + mc) (slots + ms) Q (F0 m pc ls rest) q9)
    (kk : ∀ (r : Int32) (u : S) (t : State) (H1 : Heap) (locs1 : List Loc), t.heap = H1 → s.vm.Alike t.vm → post r u → B u t → H.size ≤ H1.size → (∀ q : Nat, q < H.size → ¬ A1 q → H1[q]? = H[q]?) → va_S A0 H0 H1 locs1 → W p l e R s m args below meth c H1 locs1 (cells + mc) (slots + ms) Q (F0 m (pc + 3) ls (.int r :: rest))) : W p l e R s m args below meth c H locs cells slots Q (F0 m pc ls st0) := by
  intro T hT X
  rcases hr T hT X with ⟨v, st₀, t, T', L, h0, X', hL, e1, e2, ⟨⟨r, u, hv, hp, hb⟩, hF⟩, st⟩ | ⟨q, st₀, t, T', L, E, ce, h0, X', hL, e1, e2, ⟨u, hp, hb, hF⟩, hce, hcv, hcl, st⟩
  · cases hv
    obtain ⟨k1, k2, k3⟩ := vx_keep h0 e1 hS hA hf hL hF
    obtain ⟨t2, a1, b1⟩ := kk r u t T'.heap (locs ++ L) e1.symm (by rw [← e2]; exact X'.warmed.alike) hp hb k1 k2 k3 T' rfl X'
    exact ⟨t2, st t2 a1, b1⟩
  · obtain ⟨k1, k2, k3⟩ := vx_keep h0 e1 hS hAX hf hL hF
    obtain ⟨t2, a1, b1⟩ := kx E ce q u t T'.heap (locs ++ L) e1.symm (by rw [← e2]; exact X'.warmed.alike) hp hb k1 k2 k3 (by rw [e1]; exact hce) hcv hcl T' rfl X'
    exact ⟨t2, st.trans a1, b1⟩
theorem vx_calll {S SX : Type} {post : Int64 → S → Prop} {px : SX → Prop} {B : S → State → Prop} {BX : String → SX → State → Prop} {AX : Nat → Prop} (hr : vx_Run p l e R s m args below meth c H locs cells slots mc ms (F0 m pc ls st0) rest (va_Ql post B A1 a) (vx_X px BX AX) free) (hS : va_S A0 H0 H locs) (hA : ∀ q, q < H.size → A1 q → A0 q) (hf : ∀ q, free q → A0 q) (hAX : ∀ q, q < H.size → AX q → A0 q)
    (kx : ∀ (E : String) (ce : Cell) (q9 : Addr) (u : SX) (t : State) (H1 : Heap) (locs1 : List Loc), t.heap = H1 → s.vm.Alike t.vm → px u → BX E u t → H.size ≤ H1.size → (∀ q : Nat, q < H.size → ¬ AX q → H1[q]? = H[q]?) → va_S A0 H0 H1 locs1 → H1[q9]? = some ce → ce.vm = .none → s.vm.findClass E = some ce.cls → vx_W p l e R s m args below meth c H1 locs1 (cells + mc) (slots + ms) Q (F0 m pc ls rest) q9)
    (kk : ∀ (r : Int64) (u : S) (t : State) (H1 : Heap) (locs1 : List Loc), t.heap = H1 → s.vm.Alike t.vm → post r u → B u t → H.size ≤ H1.size → (∀ q : Nat, q < H.size → ¬ A1 q → H1[q]? = H[q]?) → va_S A0 H0 H1 locs1 → W p l e R s m args below meth c H1 locs1 (cells + mc) (slots + ms) Q (F0 m (pc + 3) ls (.long r :: rest))) : W p l e R s m args below meth c H locs cells slots Q (F0 m pc ls st0) := by
  intro T hT X
  rcases hr T hT X with ⟨v, st₀, t, T', L, h0, X', hL, e1, e2, ⟨⟨r, u, hv, hp, hb⟩, hF⟩, st⟩ | ⟨q, st₀, t, T', L, E, ce, h0, X', hL, e1, e2, ⟨u, hp, hb, hF⟩, hce, hcv, hcl, st⟩
  · cases hv
    obtain ⟨k1, k2, k3⟩ := vx_keep h0 e1 hS hA hf hL hF
    obtain ⟨t2, a1, b1⟩ := kk r u t T'.heap (locs ++ L) e1.symm (by rw [← e2]; exact X'.warmed.alike) hp hb k1 k2 k3 T' rfl X'
    exact ⟨t2, st t2 a1, b1⟩
  · obtain ⟨k1, k2, k3⟩ := vx_keep h0 e1 hS hAX hf hL hF
    obtain ⟨t2, a1, b1⟩ := kx E ce q u t T'.heap (locs ++ L) e1.symm (by rw [← e2]; exact X'.warmed.alike) hp hb k1 k2 k3 (by rw [e1]; exact hce) hcv hcl T' rfl X'
    exact ⟨t2, st.trans a1, b1⟩
theorem vx_callf {S SX : Type} {post : UInt32 → S → Prop} {px : SX → Prop} {B : S → State → Prop} {BX : String → SX → State → Prop} {AX : Nat → Prop} (hr : vx_Run p l e R s m args below meth c H locs cells slots mc ms (F0 m pc ls st0) rest (va_Qf post B A1 a) (vx_X px BX AX) free) (hS : va_S A0 H0 H locs) (hA : ∀ q, q < H.size → A1 q → A0 q) (hf : ∀ q, free q → A0 q) (hAX : ∀ q, q < H.size → AX q → A0 q)
    (kx : ∀ (E : String) (ce : Cell) (q9 : Addr) (u : SX) (t : State) (H1 : Heap) (locs1 : List Loc), t.heap = H1 → s.vm.Alike t.vm → px u → BX E u t → H.size ≤ H1.size → (∀ q : Nat, q < H.size → ¬ AX q → H1[q]? = H[q]?) → va_S A0 H0 H1 locs1 → H1[q9]? = some ce → ce.vm = .none → s.vm.findClass E = some ce.cls → vx_W p l e R s m args below meth c H1 locs1 (cells + mc) (slots + ms) Q (F0 m pc ls rest) q9)
    (kk : ∀ (r : UInt32) (u : S) (t : State) (H1 : Heap) (locs1 : List Loc), t.heap = H1 → s.vm.Alike t.vm → post r u → B u t → H.size ≤ H1.size → (∀ q : Nat, q < H.size → ¬ A1 q → H1[q]? = H[q]?) → va_S A0 H0 H1 locs1 → W p l e R s m args below meth c H1 locs1 (cells + mc) (slots + ms) Q (F0 m (pc + 3) ls (.float r :: rest))) : W p l e R s m args below meth c H locs cells slots Q (F0 m pc ls st0) := by
  intro T hT X
  rcases hr T hT X with ⟨v, st₀, t, T', L, h0, X', hL, e1, e2, ⟨⟨r, u, hv, hp, hb⟩, hF⟩, st⟩ | ⟨q, st₀, t, T', L, E, ce, h0, X', hL, e1, e2, ⟨u, hp, hb, hF⟩, hce, hcv, hcl, st⟩
  · cases hv
    obtain ⟨k1, k2, k3⟩ := vx_keep h0 e1 hS hA hf hL hF
    obtain ⟨t2, a1, b1⟩ := kk r u t T'.heap (locs ++ L) e1.symm (by rw [← e2]; exact X'.warmed.alike) hp hb k1 k2 k3 T' rfl X'
    exact ⟨t2, st t2 a1, b1⟩
  · obtain ⟨k1, k2, k3⟩ := vx_keep h0 e1 hS hAX hf hL hF
    obtain ⟨t2, a1, b1⟩ := kx E ce q u t T'.heap (locs ++ L) e1.symm (by rw [← e2]; exact X'.warmed.alike) hp hb k1 k2 k3 (by rw [e1]; exact hce) hcv hcl T' rfl X'
    exact ⟨t2, st.trans a1, b1⟩
theorem vx_calld {S SX : Type} {post : UInt64 → S → Prop} {px : SX → Prop} {B : S → State → Prop} {BX : String → SX → State → Prop} {AX : Nat → Prop} (hr : vx_Run p l e R s m args below meth c H locs cells slots mc ms (F0 m pc ls st0) rest (va_Qd post B A1 a) (vx_X px BX AX) free) (hS : va_S A0 H0 H locs) (hA : ∀ q, q < H.size → A1 q → A0 q) (hf : ∀ q, free q → A0 q) (hAX : ∀ q, q < H.size → AX q → A0 q)
    (kx : ∀ (E : String) (ce : Cell) (q9 : Addr) (u : SX) (t : State) (H1 : Heap) (locs1 : List Loc), t.heap = H1 → s.vm.Alike t.vm → px u → BX E u t → H.size ≤ H1.size → (∀ q : Nat, q < H.size → ¬ AX q → H1[q]? = H[q]?) → va_S A0 H0 H1 locs1 → H1[q9]? = some ce → ce.vm = .none → s.vm.findClass E = some ce.cls → vx_W p l e R s m args below meth c H1 locs1 (cells + mc) (slots + ms) Q (F0 m pc ls rest) q9)
    (kk : ∀ (r : UInt64) (u : S) (t : State) (H1 : Heap) (locs1 : List Loc), t.heap = H1 → s.vm.Alike t.vm → post r u → B u t → H.size ≤ H1.size → (∀ q : Nat, q < H.size → ¬ A1 q → H1[q]? = H[q]?) → va_S A0 H0 H1 locs1 → W p l e R s m args below meth c H1 locs1 (cells + mc) (slots + ms) Q (F0 m (pc + 3) ls (.double r :: rest))) : W p l e R s m args below meth c H locs cells slots Q (F0 m pc ls st0) := by
  intro T hT X
  rcases hr T hT X with ⟨v, st₀, t, T', L, h0, X', hL, e1, e2, ⟨⟨r, u, hv, hp, hb⟩, hF⟩, st⟩ | ⟨q, st₀, t, T', L, E, ce, h0, X', hL, e1, e2, ⟨u, hp, hb, hF⟩, hce, hcv, hcl, st⟩
  · cases hv
    obtain ⟨k1, k2, k3⟩ := vx_keep h0 e1 hS hA hf hL hF
    obtain ⟨t2, a1, b1⟩ := kk r u t T'.heap (locs ++ L) e1.symm (by rw [← e2]; exact X'.warmed.alike) hp hb k1 k2 k3 T' rfl X'
    exact ⟨t2, st t2 a1, b1⟩
  · obtain ⟨k1, k2, k3⟩ := vx_keep h0 e1 hS hAX hf hL hF
    obtain ⟨t2, a1, b1⟩ := kx E ce q u t T'.heap (locs ++ L) e1.symm (by rw [← e2]; exact X'.warmed.alike) hp hb k1 k2 k3 (by rw [e1]; exact hce) hcv hcl T' rfl X'
    exact ⟨t2, st.trans a1, b1⟩
theorem vx_callv {S SX : Type} {post : S → Prop} {px : SX → Prop} {B : S → State → Prop} {BX : String → SX → State → Prop} {AX : Nat → Prop} (hr : vx_Run p l e R s m args below meth c H locs cells slots mc ms (F0 m pc ls st0) rest (va_Qv post B A1 a) (vx_X px BX AX) free) (hS : va_S A0 H0 H locs) (hA : ∀ q, q < H.size → A1 q → A0 q) (hf : ∀ q, free q → A0 q) (hAX : ∀ q, q < H.size → AX q → A0 q)
    (kx : ∀ (E : String) (ce : Cell) (q9 : Addr) (u : SX) (t : State) (H1 : Heap) (locs1 : List Loc), t.heap = H1 → s.vm.Alike t.vm → px u → BX E u t → H.size ≤ H1.size → (∀ q : Nat, q < H.size → ¬ AX q → H1[q]? = H[q]?) → va_S A0 H0 H1 locs1 → H1[q9]? = some ce → ce.vm = .none → s.vm.findClass E = some ce.cls → vx_W p l e R s m args below meth c H1 locs1 (cells + mc) (slots + ms) Q (F0 m pc ls rest) q9)
    (kk : ∀ (u : S) (t : State) (H1 : Heap) (locs1 : List Loc), t.heap = H1 → s.vm.Alike t.vm → post u → B u t → H.size ≤ H1.size → (∀ q : Nat, q < H.size → ¬ A1 q → H1[q]? = H[q]?) → va_S A0 H0 H1 locs1 → W p l e R s m args below meth c H1 locs1 (cells + mc) (slots + ms) Q (F0 m (pc + 3) ls (rest))) : W p l e R s m args below meth c H locs cells slots Q (F0 m pc ls st0) := by
  intro T hT X
  rcases hr T hT X with ⟨v, st₀, t, T', L, h0, X', hL, e1, e2, ⟨⟨u, hv, hp, hb⟩, hF⟩, st⟩ | ⟨q, st₀, t, T', L, E, ce, h0, X', hL, e1, e2, ⟨u, hp, hb, hF⟩, hce, hcv, hcl, st⟩
  · cases hv
    obtain ⟨k1, k2, k3⟩ := vx_keep h0 e1 hS hA hf hL hF
    obtain ⟨t2, a1, b1⟩ := kk u t T'.heap (locs ++ L) e1.symm (by rw [← e2]; exact X'.warmed.alike) hp hb k1 k2 k3 T' rfl X'
    exact ⟨t2, st t2 a1, b1⟩
  · obtain ⟨k1, k2, k3⟩ := vx_keep h0 e1 hS hAX hf hL hF
    obtain ⟨t2, a1, b1⟩ := kx E ce q u t T'.heap (locs ++ L) e1.symm (by rw [← e2]; exact X'.warmed.alike) hp hb k1 k2 k3 (by rw [e1]; exact hce) hcv hcl T' rfl X'
    exact ⟨t2, st.trans a1, b1⟩
/-- caught by the row x of this method's table; the rows ahead don't take it -/
theorem vx_catch {own name : String} {E : String} {ce : Cell} {q : Addr} (hown : s.vm.findClass own = some m.cls) (pre : List ExceptionTableEntry) (x : ExceptionTableEntry) (suf : List ExceptionTableEntry) (hsplit : c.exceptionTable.toList = pre ++ x :: suf)
    (hpass : ∀ z ∈ pre, covers z pc = false ∨ (z.catchType ≠ 0 ∧ ∃ nm : String, (Cond.classLink own z.catchType nm).before args s = true ∧ va_Nc E nm s)) (hx : covers x pc = true) (h0 : x.catchType ≠ 0)
    (hlink : (Cond.classLink own x.catchType name).before args s = true) (hcast : (Cond.castable E name).before args s = true) (hcell : H[q]? = some ce) (hv : ce.vm = .none) (hcl : s.vm.findClass E = some ce.cls)
    (kk : W p l e R s m args below meth c H locs cells slots Q (F0 m x.handlerPc ls [.ref q])) : vx_W p l e R s m args below meth c H locs cells slots Q (F0 m pc ls rest) q := by
  intro T hT X
  have hpl : e.platform.magicAccessors = ({} : Platform).magicAccessors := by rw [X.admits.platform]
  obtain ⟨c3, c4, hc3, hc4, hasg⟩ := Cond.castable_spec hcast
  cases Option.some.inj (hc3.symm.trans hcl)
  obtain ⟨c5, hc5, hcl5⟩ := Cond.classLink_spec hown hlink e.platform hpl
  cases Option.some.inj (hc4.symm.trans hc5)
  obtain ⟨vm', X', st⟩ := X.thenCaughtThrough q (g := F0 m pc ls rest) rfl (Steps.refl _) (by rw [hT]; exact hcell) (by rw [hv]; rfl) (by obtain ⟨k9, h9, -⟩ := Vm.findClass_spec hcl; exact ⟨k9, h9⟩) pre x suf hsplit
    (fun z hz => by
      rcases hpass z hz with h | ⟨hz0, nm, hl1, hn1⟩
      · exact Or.inl h
      · obtain ⟨c6, hc6, hcl6⟩ := Cond.classLink_spec hown hl1 e.platform hpl
        obtain ⟨a8, b8, h1, h2, h3⟩ := hn1
        cases Option.some.inj (h1.symm.trans hcl)
        cases Option.some.inj (h2.symm.trans hc6)
        exact Or.inr ⟨hz0, _, hcl6, h3⟩) hx (Or.inr ⟨h0, c4, hcl5, hasg⟩)
  obtain ⟨t, a1, b1⟩ := kk (T.setVm vm') hT X'
  exact ⟨t, st.trans a1, b1⟩
end Rows
section Ends
variable {p : Program} {l : Launch} {e : Env} {R : Room} {s : State} {m : MethodId} {args : Array Value} {below : List Frame} {meth : Method} {c : Code} {H : Heap} {locs : List Loc} {cells slots : Nat} {Q : State → Prop}
variable {mc ms : Nat} {free : Addr → Prop} {A0 A1 : Nat → Prop} {H0 : Heap} {a : Array Value} {ls : Array Slot} {st0 rest : List Value}
variable {Qc : Array Value → State → Outcome → State → Prop} {XC : String → State → State → Prop}
/-- what a body that may throw owes at its end -/
def vx_MQ (below : List Frame) (Qc : Array Value → State → Outcome → State → Prop) (XC : String → State → State → Prop) (a : Array Value) (s : State) (mc ms : Nat) (free : Addr → Prop) : State → Prop := fun t =>
  ∃ o, t.status = .running ∧ Ended t below o ∧ vx_Q Qc XC mc ms free a s o t
theorem vx_ret {g : JFrame} {mc ms : Nat} (k : W p l e R s m args below meth c H locs cells slots (MQ below Qc args s mc ms free) g) : W p l e R s m args below meth c H locs cells slots (vx_MQ below Qc XC args s mc ms free) g := by
  intro T hT X
  obtain ⟨t, a1, o, b1, b2, b3, b4⟩ := k T hT X
  exact ⟨t, a1, o, b1, b2, Or.inl ⟨b3, b4⟩⟩
/-- not caught here: it goes on to the caller -/
theorem vx_widen {g : JFrame} {q : Addr} {k n : Nat} (h1 : cells ≤ k) (h2 : slots ≤ n) (kk : vx_W p l e R s m args below meth c H locs k n Q g q) : vx_W p l e R s m args below meth c H locs cells slots Q g q := fun T hT X => kk T hT (stand_widen X h1 h2)
theorem vx_out {pc : Nat} {E : String} {ce : Cell} {q : Addr} {mc ms : Nat} (hout : ∀ x ∈ c.exceptionTable.toList, covers x pc = false) (hlocks : meth.locks = false) (hcell : H[q]? = some ce) (hv : ce.vm = .none) (hcl : s.vm.findClass E = some ce.cls)
    (hx : ∀ t : State, t.heap = H → s.vm.Alike t.vm → XC E s t) (hf : ∀ z ∈ locs, free z.base) (hc : cells ≤ mc) (hs : slots ≤ ms) :
    vx_W p l e R s m args below meth c H locs cells slots (vx_MQ below Qc XC args s mc ms free) (F0 m pc ls rest) q := by
  intro T hT X
  obtain ⟨st1, hrun, hend, hW, hsm⟩ := X.leaveThrown q (g := F0 m pc ls rest) rfl rfl rfl hout hlocks
  have hcell9 : (T.setFrames (.throwing q :: below)).heap[q]? = some ce := by
    show T.heap[q]? = some ce
    rw [hT]; exact hcell
  exact ⟨_, st1, .threw q, hrun, hend, Or.inr ⟨q, rfl, E, ce, locs, hx _ hT hW.alike, hcell9, hv, hcl, hW, hsm.mono hc hs, hf⟩⟩
theorem vx_frame {U : State} {k n : Nat} (h : s.sameButNew ({ U with vm := s.vm } : State) locs k n) : s.heap.size ≤ U.heap.size ∧ ∀ q : Nat, q < s.heap.size → (∀ z ∈ locs, z.base ≠ q) → U.heap[q]? = s.heap[q]? := by
  obtain ⟨-, h2, -, -, -, h6⟩ := h
  refine ⟨h2, fun q hq hz => ?_⟩
  obtain ⟨c9, e1, e2, e3, e4⟩ := h6 q _ (Array.getElem?_eq_getElem hq)
  have hs : c9.slots = (s.heap[q]).slots := Array.ext_getElem? fun i => e4 i fun hm => hz _ hm rfl
  have h9 : c9 = s.heap[q] := by
    rw [hs] at e2
    exact e2
  have e5 : U.heap[q]? = some c9 := e1
  rw [e5, h9, Array.getElem?_eq_getElem hq]
/-- the words of a throw but the four that speak of the heap -/
def vx_no (w : Cond) : Bool := decide (w ≠ .isRef (.static Bundle.tN "UNASSIGNED_STACK" Bundle.steD)) && decide (w ≠ .isRef (.static Bundle.tN "SUPPRESSED_SENTINEL" Bundle.listD)) && decide (w ≠ .laysStatic Bundle.tN "UNASSIGNED_STACK" Bundle.steD) && decide (w ≠ .laysStatic Bundle.tN "SUPPRESSED_SENTINEL" Bundle.listD)
def vx_at0 (own : String) (ic : Nat) (X : String) (names : List String) : List Cond := (Bundle.ownAtoms0 own ic X names).filter vx_no
def vx_atS (own : String) (ic : Nat) (X : String) (names : List String) : List Cond := (Bundle.ownAtoms own ic X names).filter vx_no
/-- a word that the tables alone decide, or a good one -/
def vx_ot (w : Cond) : Bool := w.onTables || goodWord w
theorem vx_ot_at {args a' : Array Value} {s U : State} {w : Cond} (hW : s.WarmedH U.vm) (hvm : s.vm = U.vm) (hg : vx_ot w = true) (h : w.before args s = true) : w.before a' U = true := by
  simp only [vx_ot, Bool.or_eq_true] at hg
  rcases hg with hg | hg
  · exact va_tabs hg hvm h
  · exact word_at hW (good_of_word hg) h
/-- a list's words: the good ones out of the method's own list, the others by premises of their own -/
theorem vx_hat {args : Array Value} {s : State} {L B : List Cond} (h1 : ∀ w ∈ L.filter goodWord, w.before args s = true) (h2 : ∀ w ∈ L.filter (fun w => !goodWord w), w ∈ B) (h3 : ∀ w ∈ B, w.before args s = true) : ∀ w ∈ L, w.before args s = true := by
  intro w hw
  by_cases g : goodWord w = true
  · exact h1 w (List.mem_filter.mpr ⟨hw, g⟩)
  · refine h3 w (h2 w (List.mem_filter.mpr ⟨hw, ?_⟩))
    show (!goodWord w) = true
    cases hgw : goodWord w
    · rfl
    · exact absurd hgw g
theorem vx_c {args : Array Value} {s : State} {w : Cond} {B : List Cond} (h : w.before args s = true) (t : ∀ w ∈ B, w.before args s = true) : ∀ w' ∈ w :: B, w'.before args s = true := fun w' h' => (List.mem_cons.mp h').elim (fun e => by rw [e]; exact h) (t w')
theorem vx_n {args : Array Value} {s : State} : ∀ w ∈ ([] : List Cond), w.before args s = true := fun _ h => nomatch h
theorem vx_own {args : Array Value} {s : State} {L : List Cond} (h1 : ∀ w ∈ L.filter vx_no, w.before args s = true)
    (hU : (Cond.isRef (.static Bundle.tN "UNASSIGNED_STACK" Bundle.steD)).before args s = true) (hN : (Cond.isRef (.static Bundle.tN "SUPPRESSED_SENTINEL" Bundle.listD)).before args s = true)
    (lU : (Cond.laysStatic Bundle.tN "UNASSIGNED_STACK" Bundle.steD).before args s = true) (lN : (Cond.laysStatic Bundle.tN "SUPPRESSED_SENTINEL" Bundle.listD).before args s = true) : ∀ w ∈ L, w.before args s = true := by
  intro w hw
  by_cases e1 : w = .isRef (.static Bundle.tN "UNASSIGNED_STACK" Bundle.steD)
  · rw [e1]; exact hU
  · by_cases e2 : w = .isRef (.static Bundle.tN "SUPPRESSED_SENTINEL" Bundle.listD)
    · rw [e2]; exact hN
    · by_cases e3 : w = .laysStatic Bundle.tN "UNASSIGNED_STACK" Bundle.steD
      · rw [e3]; exact lU
      · by_cases e4 : w = .laysStatic Bundle.tN "SUPPRESSED_SENTINEL" Bundle.listD
        · rw [e4]; exact lN
        · exact h1 w (List.mem_filter.mpr ⟨hw, by unfold vx_no; rw [decide_eq_true e1, decide_eq_true e2, decide_eq_true e3, decide_eq_true e4]; rfl⟩)
/-- where a static field lies, its class's statics cell in H -/
def vx_L (C n d : String) (A : Nat → Prop) (U : State) (H : Heap) : Prop := ∃ (c : ClassId) (k : Class) (i : Nat) (f : Field) (a : Nat) (cell : Cell), U.vm.findClass C = some c ∧ U.fieldFound? C n d = some (c, k, i, f) ∧ f.isStatic = true ∧ k.statics = some a ∧ H[a]? = some cell ∧ cell.vm.isStatics = true ∧ cell.cls = c ∧ f.slot < cell.slots.size ∧ k.staticTypes[f.slot]? = some f.type ∧ ¬ A a
theorem vx_L.moved {C n d : String} {A : Nat → Prop} {u U : State} {H : Heap} (hvm : u.vm.Alike U.vm) (h : vx_L C n d A u H) : vx_L C n d A U H := by
  obtain ⟨c, k, i, f, a, cell, h1, h2, h3, h4, h5, h6, h7, h8, h9, h10⟩ := h
  obtain ⟨k', hi', he⟩ := State.fieldFound?_setVm hvm h2
  exact ⟨c, k', i, f, a, cell, by rw [hvm.findClass]; exact h1, hi', h3, by rw [he]; exact h4, h5, h6, h7, h8, by rw [he]; exact h9, h10⟩
theorem vx_L.kept {C n d : String} {A : Nat → Prop} {U : State} {H H1 : Heap} (h : vx_L C n d A U H) (hq : ∀ a : Nat, a < H.size → ¬ A a → H1[a]? = H[a]?) : vx_L C n d A U H1 := by
  obtain ⟨c, k, i, f, a, cell, h1, h2, h3, h4, h5, h6, h7, h8, h9, h10⟩ := h
  exact ⟨c, k, i, f, a, cell, h1, h2, h3, h4, by rw [hq a (Array.getElem?_eq_some_iff.mp h5).1 h10]; exact h5, h6, h7, h8, h9, h10⟩
theorem vx_L.narrow {C n d : String} {A B : Nat → Prop} {U : State} {H : Heap} (h : vx_L C n d A U H) (hAB : ∀ q, B q → A q) : vx_L C n d B U H := by
  obtain ⟨c, k, i, f, a, cell, h1, h2, h3, h4, h5, h6, h7, h8, h9, h10⟩ := h
  exact ⟨c, k, i, f, a, cell, h1, h2, h3, h4, h5, h6, h7, h8, h9, fun z => h10 (hAB _ z)⟩
theorem vx_L.word {C n d : String} {A : Nat → Prop} {s : State} {args : Array Value} (h : vx_L C n d A s s.heap) : (Cond.laysStatic C n d).before args s = true := by
  obtain ⟨c, k, i, f, a, cell, h1, h2, h3, h4, h5, h6, h7, h8, h9, -⟩ := h
  show (Cond.laysStatic C n d).holds args s none s [] = true
  exact Cond.laysStatic_of h1 h2 h3 h4 h5 h6 h7 h8 h9
/-- .. and what it holds: null or some reference -/
def vx_Zq (C n d : String) (A : Nat → Prop) (U : State) (H : Heap) : Prop := va_Zq C n d A U H ∧ vx_L C n d A U H
theorem vx_Zq.moved {C n d : String} {A : Nat → Prop} {u U : State} {H : Heap} (hvm : u.vm.Alike U.vm) (h : vx_Zq C n d A u H) : vx_Zq C n d A U H := ⟨va_Zq.moved hvm h.1, vx_L.moved hvm h.2⟩
theorem vx_Zq.kept {C n d : String} {A : Nat → Prop} {U : State} {H H1 : Heap} (h : vx_Zq C n d A U H) (hq : ∀ a : Nat, a < H.size → ¬ A a → H1[a]? = H[a]?) : vx_Zq C n d A U H1 := ⟨va_Zq.kept h.1 hq, vx_L.kept h.2 hq⟩
theorem vx_Zq.narrow {C n d : String} {A B : Nat → Prop} {U : State} {H : Heap} (h : vx_Zq C n d A U H) (hAB : ∀ q, B q → A q) : vx_Zq C n d B U H := ⟨va_Zq.narrow h.1 hAB, vx_L.narrow h.2 hAB⟩
theorem vx_Zqof {args : Array Value} {s : State} {C n d : String} {A : Nat → Prop} (hl : (Cond.laysStatic C n d).before args s = true) (hini : (Cond.initialized C).before args s = true) (h : (Cond.isRef (.static C n d)).before args s = true) (hA : ∀ a : Nat, a < s.heap.size → ¬ A a) : vx_Zq C n d A s s.heap := by
  refine ⟨va_Zqof hl hini h hA, ?_⟩
  obtain ⟨c, k, i, f, a, cell, h1, h2, h3, h4, h5, h6, h7, h8, h9⟩ := Cond.laysStatic_spec hl
  exact ⟨c, k, i, f, a, cell, h1, h2, h3, h4, h5, h6, h7, h8, h9, hA a (Array.getElem?_eq_some_iff.mp h5).1⟩
theorem vx_isRef {C n d : String} {v : Value} {A : Nat → Prop} {s : State} {args : Array Value} (h : va_Z C n d v A s s.heap) (hv : v.isRef = true) : (Cond.isRef (.static C n d)).before args s = true := by
  obtain ⟨cf, kf, fi, f, a, cell, h1, h2, h3, h4, h5, h6, h7, -⟩ := h
  have he : (Term.static C n d).eval args s none [] s = some v := by
    simp [Term.eval, State.fieldNamed?, h1, h2, h4, h5, h6, h7]
  simp only [Cond.before, Cond.holds, Cond.value, he]
  cases v <;> simp_all [Value.isRef]
theorem vx_isRefq {C n d : String} {A : Nat → Prop} {s : State} {args : Array Value} (h : va_Zq C n d A s s.heap) : (Cond.isRef (.static C n d)).before args s = true := by
  rcases h with h | ⟨t, h⟩
  · exact vx_isRef h rfl
  · exact vx_isRef h rfl
/-- the same frame, seen from here: as if the method were called anew in this heap -/
theorem vx_rebase {T : State} (X : Stand p l e R s m args below meth c T locs cells slots) {R' : Room} (hf : R'.frames ≤ R.frames) (hl : R'.locals ≤ R.locals) (hc : cells + R'.cells ≤ R.cells) (hs : slots + R'.slots ≤ R.slots) :
    Stand p l e R' ((T.setVm s.vm).setFrames (.invoking m args :: below)) m args below meth c T [] 0 0 := by
  have htop : (T.setVm s.vm).topJava?.isSome := X.here.top
  have hF : ((T.setVm s.vm).setFrames (.invoking m args :: below)).frames = .invoking m args :: below := State.frames_setFrames _ (State.cur_lt_of_top htop)
  obtain ⟨g₀, hg0⟩ := Option.isSome_iff_exists.mp htop
  obtain ⟨r, hr⟩ := State.topJava?_eq_some.mp hg0
  have hl9 : e.platform.stackLimits (T.setVm s.vm).me = e.platform.stackLimits s.me := X.limits
  have hb9 : (T.setVm s.vm).me.stackBytes = s.me.stackBytes := X.bytes
  refine ⟨X.admits, X.cas, X.clock, hF, ?_, X.hears, X.method, X.code, X.here, X.tail, X.warmed, ?_, ?_, ?_⟩
  · have h := X.room
    have hU : ((T.setVm s.vm).setFrames (.invoking m args :: below)).localsInUse = s.localsInUse := by
      rw [State.localsInUse_invoking hF (meth := meth) (c := c) X.method X.code, State.localsInUse_invoking X.frames X.method X.code]
    simp only [State.hasRoom, Bool.and_eq_true, decide_eq_true_eq] at h ⊢
    obtain ⟨⟨⟨⟨h1, h2, h3, h4, h5, h6⟩, h7⟩, h8⟩, h9⟩ := h
    rw [X.frames, List.length_cons] at h2 h3
    have q1 := X.heapSize
    have q2 := X.used
    simp only [hF, hU, List.length_cons, State.stackLimits_setFrames, State.stackBytes_setFrames, hl9, hb9]
    refine ⟨⟨⟨⟨by omega, by omega, by omega, by omega, by omega, h6⟩, ?_⟩, ?_⟩, X.book⟩
    · show T.heap.size + R'.cells ≤ e.platform.maxCells
      omega
    · show T.slotsUsed + R'.slots ≤ e.platform.maxSlots
      omega
  · rw [State.stackLimits_setFrames]; rfl
  · rw [State.stackBytes_setFrames]; rfl
  · refine ⟨?_, Nat.le_refl _, Nat.le_refl _, ?_, ?_, fun a c9 h9 => ⟨c9, h9, rfl, rfl, fun _ _ => rfl⟩⟩
    · obtain ⟨t, ht, -⟩ := State.frames_cons hr
      show T.setVm s.vm = { ((T.setVm s.vm).setFrames (.invoking m args :: below)).setFrames (T.setVm s.vm).frames with heap := T.heap, slotsUsed := T.slotsUsed }
      rw [State.setFrames_setFrames, State.setFrames_self ht]
      rfl
    · show T.slotsUsed = T.slotsUsed + ((T.heap.toList.drop T.heap.size).map (·.slots.size)).sum
      rw [List.drop_eq_nil_of_le (Nat.le_of_eq Array.length_toList)]
      rfl
    · show ((T.heap.toList.drop T.heap.size).map (·.slots.size)).sum ≤ 0
      rw [List.drop_eq_nil_of_le (Nat.le_of_eq Array.length_toList)]
      exact Nat.le_refl _
/-- 'throw new E()': new; dup; invokespecial; athrow -/
theorem vx_throw0 {cc : ByteArray} {pc : Nat} (hexec : p.tables.exec = Jvm.exec) (hb : c.code = cc) (hl : l.stackTraces = false) {own cls : String} {names : List String} {ik ic mc ms : Nat} {A : Nat → Prop}
    (hown : s.vm.findClass own = some m.cls) (hcls : Bundle.fit cls = true) (hnames : ∀ n ∈ names, Bundle.fit n = true)
    (hk : (Cond.classLink own ik cls).before args s = true) (hini : (Cond.initialized cls).before args s = true) (hat : ∀ w ∈ vx_at0 own ic cls names, w.before args s = true)
    (hgood : ∀ w ∈ Cond.classLink own ik cls :: Cond.initialized cls :: vx_at0 own ic cls names, vx_ot w = true)
    (hU : vx_Zq Bundle.tN "UNASSIGNED_STACK" Bundle.steD A s s.heap) (hN : vx_Zq Bundle.tN "SUPPRESSED_SENTINEL" Bundle.listD A s s.heap) (hS : va_S A s.heap H locs) (hsize : ls.size = c.maxLocals)
    (d0 : decode cc pc = .ok (.new ik, 3)) (d3 : decode cc (pc + 3) = .ok (.dup, 1)) (d4 : decode cc (pc + 4) = .ok (.invokespecial ic, 3)) (d7 : decode cc (pc + 7) = .ok (.athrow, 1))
    (hout : ∀ x ∈ c.exceptionTable.toList, covers x (pc + 7) = false)
    (hRframes : names.length + 3 < R.frames) (hRlocals : (rest.map fun v => v.category).sum + (13 * (names.length + 1) + 42) ≤ R.locals) (hRcells : cells + 1 ≤ R.cells) (hRslots : slots + 6 ≤ R.slots) (hlocks : meth.locks = false)
    (hx : ∀ t : State, s.vm.Alike t.vm → H.size ≤ t.heap.size → (∀ q : Nat, q < H.size → t.heap[q]? = H[q]?) → XC cls s t)
    (hf : ∀ z ∈ locs, free z.base) (hc : cells + 1 ≤ mc) (hs : slots + 6 ≤ ms) :
    W p l e R s m args below meth c H locs cells slots (vx_MQ below Qc XC args s mc ms free) (F0 m pc ls rest) := by
  intro T hT X
  have htr : e.platform.stackTraces = false := (show e.platform.stackTraces = l.stackTraces by rw [X.admits.platform]).trans hl
  have Y := vx_rebase X (R' := { frames := R.frames, locals := R.locals, cells := 1, slots := 6 }) (Nat.le_refl _) (Nat.le_refl _) hRcells hRslots
  obtain ⟨s', hA⟩ : ∃ z, z = (T.setVm s.vm).setFrames (.invoking m args :: below) := ⟨_, rfl⟩
  rw [← hA] at Y
  have hvm : s'.vm = s.vm := by rw [hA]; rfl
  have hhp : s'.heap = H := by rw [hA]; exact hT
  have hW0 : s.WarmedH s'.vm := by rw [hvm]; exact State.WarmedH.refl s
  have hat' : ∀ w ∈ vx_at0 own ic cls names, w.before args s' = true := fun w hw => vx_ot_at hW0 hvm.symm (hgood w (List.mem_cons_of_mem _ (List.mem_cons_of_mem _ hw))) (hat w hw)
  have hk' : (Cond.classLink own ik cls).before args s' = true := vx_ot_at hW0 hvm.symm (hgood _ List.mem_cons_self) hk
  have hini' : (Cond.initialized cls).before args s' = true := vx_ot_at hW0 hvm.symm (hgood _ (List.mem_cons_of_mem _ List.mem_cons_self)) hini
  have hU' : vx_Zq Bundle.tN "UNASSIGNED_STACK" Bundle.steD A s' s'.heap := by rw [hhp]; exact vx_Zq.moved hW0.alike (hU.kept hS.2.1)
  have hN' : vx_Zq Bundle.tN "SUPPRESSED_SENTINEL" Bundle.listD A s' s'.heap := by rw [hhp]; exact vx_Zq.moved hW0.alike (hN.kept hS.2.1)
  have h : ∀ w ∈ Bundle.ownAtoms0 own ic cls names, w.before args s' = true := vx_own hat' (vx_isRefq hU'.1) (vx_isRefq hN'.1) hU'.2.word hN'.2.word
  have hown' : s'.vm.findClass own = some m.cls := by rw [hvm]; exact hown
  have hins : (Cond.instantiable cls 6).before args s' = true := h _ (by simp [Bundle.ownAtoms0])
  obtain ⟨vm₁, cX, kX, hfX, hkX, -, -, X₁, st1⟩ := Y.newCold hexec (own := own) (C := cls) (index := ik) (n := 6) hown' hk' hins hini'
    (g := F0 m pc ls rest) rfl (by rw [hb]; exact d0) (Nat.le_refl _) (Nat.le_refl _)
  generalize hT1 : (T.setVm vm₁).pushCell { cls := cX, slots := kX.instanceTypes.map defaultValue, vm := .none } = T1 at X₁ st1
  have hcat : (Value.ref T.heap.size).category = 1 := rfl
  have hcellA : T1.heap[T.heap.size]? = some (freshCell cX kX) := by rw [← hT1]; exact State.heap_pushCell_size _ _
  have d3' : decode c.code (pc + 3) = .ok (.dup, 1) := by rw [hb]; exact d3
  obtain ⟨U, hsteps, hrun, hend, hW, hsame, ce, hce, hO⟩ := X₁.ctorThrow0 hexec htr (own := own) (cls := cls) (names := names) (ic := ic) hown' hcls hnames h (fun x hx => nomatch hx) hfX hkX hcellA (by rw [hhp, hT]; exact Nat.le_refl _)
    (g := { method := m, pc := pc + 4, locals := ls, stack := .ref T.heap.size :: .ref T.heap.size :: rest, locked := none }) rfl hsize rfl rfl (rest := rest) rfl
    (by rw [hb]; exact d4) (by rw [hb]; exact d7) hout hRframes (by simp only [List.map_cons, List.sum_cons, hcat]; omega) hlocks
  obtain ⟨f1, f2⟩ := vx_frame hsame
  rw [hhp] at f1 f2
  have hWs : s.WarmedH U.vm := State.WarmedH.trans hW0 hW
  have hcl : s.vm.findClass cls = some ce.cls := by
    have h9 := hO.cls
    rw [hvm] at h9
    exact h9
  have hall : s.sameButNew ({ U with vm := s.vm } : State) locs mc ms := by
    subst hA
    obtain ⟨e1, e2⟩ := hsame
    rw [State.setFrames_setFrames] at e1
    have h2 : (T.setVm s.vm).sameButNew ({ U with vm := s.vm } : State) [] (0 + 1) (0 + 6) := ⟨e1, e2⟩
    have h3 := X.same.trans h2
    rw [List.append_nil] at h3
    exact h3.mono hc hs
  refine ⟨U, ?_, .threw T.heap.size, hrun, hend, Or.inr ⟨T.heap.size, rfl, cls, ce, locs, hx U hWs.alike f1 (fun q hq => f2 q hq (fun z hz => nomatch hz)), hce, hO.vm, hcl, hWs, hall, hf⟩⟩
  refine st1 _ ?_
  show Steps p.tables e below (T1.setTop { method := m, pc := pc + 3, locals := ls, stack := .ref T.heap.size :: rest, locked := none }) _
  jvm_step X₁.here [X₁.here.top, hexec, d3', Value.category]
  exact hsteps
/-- 'throw new E("text")': new; dup; ldc; invokespecial; athrow -/
theorem vx_throwS {cc : ByteArray} {pc : Nat} (hexec : p.tables.exec = Jvm.exec) (hb : c.code = cc) (hl : l.stackTraces = false) {own cls text : String} {names : List String} {ik is ic mc ms sa : Nat} {A : Nat → Prop}
    (hown : s.vm.findClass own = some m.cls) (hcls : Bundle.fit cls = true) (hnames : ∀ n ∈ names, Bundle.fit n = true)
    (hk : (Cond.classLink own ik cls).before args s = true) (hini : (Cond.initialized cls).before args s = true) (hstr : vk_R own is text sa s) (hat : ∀ w ∈ vx_atS own ic cls names, w.before args s = true)
    (hgood : ∀ w ∈ Cond.classLink own ik cls :: Cond.initialized cls :: vx_atS own ic cls names, vx_ot w = true)
    (hU : vx_Zq Bundle.tN "UNASSIGNED_STACK" Bundle.steD A s s.heap) (hN : vx_Zq Bundle.tN "SUPPRESSED_SENTINEL" Bundle.listD A s s.heap) (hS : va_S A s.heap H locs) (hsize : ls.size = c.maxLocals)
    (d0 : decode cc pc = .ok (.new ik, 3)) (d3 : decode cc (pc + 3) = .ok (.dup, 1)) (d4 : decode cc (pc + 4) = .ok (.ldc is, 2)) (d6 : decode cc (pc + 6) = .ok (.invokespecial ic, 3)) (d9 : decode cc (pc + 9) = .ok (.athrow, 1))
    (hout : ∀ x ∈ c.exceptionTable.toList, covers x (pc + 9) = false)
    (hRframes : names.length + 3 < R.frames) (hRlocals : (rest.map fun v => v.category).sum + (13 * (names.length + 1) + 43) ≤ R.locals) (hRcells : cells + 1 ≤ R.cells) (hRslots : slots + 6 ≤ R.slots) (hlocks : meth.locks = false)
    (hx : ∀ t : State, s.vm.Alike t.vm → H.size ≤ t.heap.size → (∀ q : Nat, q < H.size → t.heap[q]? = H[q]?) → XC cls s t)
    (hf : ∀ z ∈ locs, free z.base) (hc : cells + 1 ≤ mc) (hs : slots + 6 ≤ ms) :
    W p l e R s m args below meth c H locs cells slots (vx_MQ below Qc XC args s mc ms free) (F0 m pc ls rest) := by
  intro T hT X
  have htr : e.platform.stackTraces = false := (show e.platform.stackTraces = l.stackTraces by rw [X.admits.platform]).trans hl
  have Y := vx_rebase X (R' := { frames := R.frames, locals := R.locals, cells := 1, slots := 6 }) (Nat.le_refl _) (Nat.le_refl _) hRcells hRslots
  obtain ⟨s', hA⟩ : ∃ z, z = (T.setVm s.vm).setFrames (.invoking m args :: below) := ⟨_, rfl⟩
  rw [← hA] at Y
  have hvm : s'.vm = s.vm := by rw [hA]; rfl
  have hhp : s'.heap = H := by rw [hA]; exact hT
  have hW0 : s.WarmedH s'.vm := by rw [hvm]; exact State.WarmedH.refl s
  have hat' : ∀ w ∈ vx_atS own ic cls names, w.before args s' = true := fun w hw => vx_ot_at hW0 hvm.symm (hgood w (List.mem_cons_of_mem _ (List.mem_cons_of_mem _ hw))) (hat w hw)
  have hk' : (Cond.classLink own ik cls).before args s' = true := vx_ot_at hW0 hvm.symm (hgood _ List.mem_cons_self) hk
  have hini' : (Cond.initialized cls).before args s' = true := vx_ot_at hW0 hvm.symm (hgood _ (List.mem_cons_of_mem _ List.mem_cons_self)) hini
  have hU' : vx_Zq Bundle.tN "UNASSIGNED_STACK" Bundle.steD A s' s'.heap := by rw [hhp]; exact vx_Zq.moved hW0.alike (hU.kept hS.2.1)
  have hN' : vx_Zq Bundle.tN "SUPPRESSED_SENTINEL" Bundle.listD A s' s'.heap := by rw [hhp]; exact vx_Zq.moved hW0.alike (hN.kept hS.2.1)
  have h : ∀ w ∈ Bundle.ownAtoms own ic cls names, w.before args s' = true := vx_own hat' (vx_isRefq hU'.1) (vx_isRefq hN'.1) hU'.2.word hN'.2.word
  have hown' : s'.vm.findClass own = some m.cls := by rw [hvm]; exact hown
  have hins : (Cond.instantiable cls 6).before args s' = true := h _ (by simp [Bundle.ownAtoms])
  obtain ⟨vm₁, cX, kX, hfX, hkX, -, -, X₁, st1⟩ := Y.newCold hexec (own := own) (C := cls) (index := ik) (n := 6) hown' hk' hins hini'
    (g := F0 m pc ls rest) rfl (by rw [hb]; exact d0) (Nat.le_refl _) (Nat.le_refl _)
  generalize hT1 : (T.setVm vm₁).pushCell { cls := cX, slots := kX.instanceTypes.map defaultValue, vm := .none } = T1 at X₁ st1
  have hcat : (Value.ref T.heap.size).category = 1 := rfl
  have hcellA : T1.heap[T.heap.size]? = some (freshCell cX kX) := by rw [← hT1]; exact State.heap_pushCell_size _ _
  have d3' : decode c.code (pc + 3) = .ok (.dup, 1) := by rw [hb]; exact d3
  have d4' : decode c.code (pc + 4) = .ok (.ldc is, 2) := by rw [hb]; exact d4
  have hstr' : vk_R own is text sa s' := vk_R.warm hW0 hstr
  obtain ⟨U, hsteps, hrun, hend, hW, hsame, ce, hce, hO⟩ := X₁.ctorThrowS hexec htr (own := own) (cls := cls) (names := names) (ic := ic) hown' hcls hnames h (fun x hx => nomatch hx) hfX hkX hcellA (by rw [hhp, hT]; exact Nat.le_refl _) (msg := .ref sa) rfl
    (g := { method := m, pc := pc + 6, locals := ls, stack := .ref sa :: .ref T.heap.size :: .ref T.heap.size :: rest, locked := none }) rfl hsize rfl rfl (rest := rest) rfl
    (by rw [hb]; exact d6) (by rw [hb]; exact d9) hout hRframes (by simp only [List.map_cons, List.sum_cons, hcat]; omega) hlocks
  obtain ⟨f1, f2⟩ := vx_frame hsame
  rw [hhp] at f1 f2
  have hWs : s.WarmedH U.vm := State.WarmedH.trans hW0 hW
  have hcl : s.vm.findClass cls = some ce.cls := by
    have h9 := hO.cls
    rw [hvm] at h9
    exact h9
  have hall : s.sameButNew ({ U with vm := s.vm } : State) locs mc ms := by
    subst hA
    obtain ⟨e1, e2⟩ := hsame
    rw [State.setFrames_setFrames] at e1
    have h2 : (T.setVm s.vm).sameButNew ({ U with vm := s.vm } : State) [] (0 + 1) (0 + 6) := ⟨e1, e2⟩
    have h3 := X.same.trans h2
    rw [List.append_nil] at h3
    exact h3.mono hc hs
  refine ⟨U, ?_, .threw T.heap.size, hrun, hend, Or.inr ⟨T.heap.size, rfl, cls, ce, locs, hx U hWs.alike f1 (fun q hq => f2 q hq (fun z hz => nomatch hz)), hce, hO.vm, hcl, hWs, hall, hf⟩⟩
  refine st1 _ ?_
  show Steps p.tables e below (T1.setTop { method := m, pc := pc + 3, locals := ls, stack := .ref T.heap.size :: rest, locked := none }) _
  jvm_step X₁.here [X₁.here.top, hexec, d3', Value.category]
  exact X₁.ldcString hexec (own := own) (text := text) (index := is) (a := sa) hown' hstr'.1 hstr'.2
    (g := { method := m, pc := pc + 4, locals := ls, stack := .ref T.heap.size :: .ref T.heap.size :: rest, locked := none }) rfl d4' _ hsteps
/-- 'throw new E("text")', the text by a wide index -/
theorem vx_throwSW {cc : ByteArray} {pc : Nat} (hexec : p.tables.exec = Jvm.exec) (hb : c.code = cc) (hl : l.stackTraces = false) {own cls text : String} {names : List String} {ik is ic mc ms sa : Nat} {A : Nat → Prop}
    (hown : s.vm.findClass own = some m.cls) (hcls : Bundle.fit cls = true) (hnames : ∀ n ∈ names, Bundle.fit n = true)
    (hk : (Cond.classLink own ik cls).before args s = true) (hini : (Cond.initialized cls).before args s = true) (hstr : vk_R own is text sa s) (hat : ∀ w ∈ vx_atS own ic cls names, w.before args s = true)
    (hgood : ∀ w ∈ Cond.classLink own ik cls :: Cond.initialized cls :: vx_atS own ic cls names, vx_ot w = true)
    (hU : vx_Zq Bundle.tN "UNASSIGNED_STACK" Bundle.steD A s s.heap) (hN : vx_Zq Bundle.tN "SUPPRESSED_SENTINEL" Bundle.listD A s s.heap) (hS : va_S A s.heap H locs) (hsize : ls.size = c.maxLocals)
    (d0 : decode cc pc = .ok (.new ik, 3)) (d3 : decode cc (pc + 3) = .ok (.dup, 1)) (d4 : decode cc (pc + 4) = .ok (.ldc_w is, 3)) (d7 : decode cc (pc + 7) = .ok (.invokespecial ic, 3)) (d10 : decode cc (pc + 10) = .ok (.athrow, 1))
    (hout : ∀ x ∈ c.exceptionTable.toList, covers x (pc + 10) = false)
    (hRframes : names.length + 3 < R.frames) (hRlocals : (rest.map fun v => v.category).sum + (13 * (names.length + 1) + 43) ≤ R.locals) (hRcells : cells + 1 ≤ R.cells) (hRslots : slots + 6 ≤ R.slots) (hlocks : meth.locks = false)
    (hx : ∀ t : State, s.vm.Alike t.vm → H.size ≤ t.heap.size → (∀ q : Nat, q < H.size → t.heap[q]? = H[q]?) → XC cls s t)
    (hf : ∀ z ∈ locs, free z.base) (hc : cells + 1 ≤ mc) (hs : slots + 6 ≤ ms) :
    W p l e R s m args below meth c H locs cells slots (vx_MQ below Qc XC args s mc ms free) (F0 m pc ls rest) := by
  intro T hT X
  have htr : e.platform.stackTraces = false := (show e.platform.stackTraces = l.stackTraces by rw [X.admits.platform]).trans hl
  have Y := vx_rebase X (R' := { frames := R.frames, locals := R.locals, cells := 1, slots := 6 }) (Nat.le_refl _) (Nat.le_refl _) hRcells hRslots
  obtain ⟨s', hA⟩ : ∃ z, z = (T.setVm s.vm).setFrames (.invoking m args :: below) := ⟨_, rfl⟩
  rw [← hA] at Y
  have hvm : s'.vm = s.vm := by rw [hA]; rfl
  have hhp : s'.heap = H := by rw [hA]; exact hT
  have hW0 : s.WarmedH s'.vm := by rw [hvm]; exact State.WarmedH.refl s
  have hat' : ∀ w ∈ vx_atS own ic cls names, w.before args s' = true := fun w hw => vx_ot_at hW0 hvm.symm (hgood w (List.mem_cons_of_mem _ (List.mem_cons_of_mem _ hw))) (hat w hw)
  have hk' : (Cond.classLink own ik cls).before args s' = true := vx_ot_at hW0 hvm.symm (hgood _ List.mem_cons_self) hk
  have hini' : (Cond.initialized cls).before args s' = true := vx_ot_at hW0 hvm.symm (hgood _ (List.mem_cons_of_mem _ List.mem_cons_self)) hini
  have hU' : vx_Zq Bundle.tN "UNASSIGNED_STACK" Bundle.steD A s' s'.heap := by rw [hhp]; exact vx_Zq.moved hW0.alike (hU.kept hS.2.1)
  have hN' : vx_Zq Bundle.tN "SUPPRESSED_SENTINEL" Bundle.listD A s' s'.heap := by rw [hhp]; exact vx_Zq.moved hW0.alike (hN.kept hS.2.1)
  have h : ∀ w ∈ Bundle.ownAtoms own ic cls names, w.before args s' = true := vx_own hat' (vx_isRefq hU'.1) (vx_isRefq hN'.1) hU'.2.word hN'.2.word
  have hown' : s'.vm.findClass own = some m.cls := by rw [hvm]; exact hown
  have hins : (Cond.instantiable cls 6).before args s' = true := h _ (by simp [Bundle.ownAtoms])
  obtain ⟨vm₁, cX, kX, hfX, hkX, -, -, X₁, st1⟩ := Y.newCold hexec (own := own) (C := cls) (index := ik) (n := 6) hown' hk' hins hini'
    (g := F0 m pc ls rest) rfl (by rw [hb]; exact d0) (Nat.le_refl _) (Nat.le_refl _)
  generalize hT1 : (T.setVm vm₁).pushCell { cls := cX, slots := kX.instanceTypes.map defaultValue, vm := .none } = T1 at X₁ st1
  have hcat : (Value.ref T.heap.size).category = 1 := rfl
  have hcellA : T1.heap[T.heap.size]? = some (freshCell cX kX) := by rw [← hT1]; exact State.heap_pushCell_size _ _
  have d3' : decode c.code (pc + 3) = .ok (.dup, 1) := by rw [hb]; exact d3
  have d4' : decode c.code (pc + 4) = .ok (.ldc_w is, 3) := by rw [hb]; exact d4
  have hstr' : vk_R own is text sa s' := vk_R.warm hW0 hstr
  obtain ⟨U, hsteps, hrun, hend, hW, hsame, ce, hce, hO⟩ := X₁.ctorThrowS hexec htr (own := own) (cls := cls) (names := names) (ic := ic) hown' hcls hnames h (fun x hx => nomatch hx) hfX hkX hcellA (by rw [hhp, hT]; exact Nat.le_refl _) (msg := .ref sa) rfl
    (g := { method := m, pc := pc + 7, locals := ls, stack := .ref sa :: .ref T.heap.size :: .ref T.heap.size :: rest, locked := none }) rfl hsize rfl rfl (rest := rest) rfl
    (by rw [hb]; exact d7) (by rw [hb]; exact d10) hout hRframes (by simp only [List.map_cons, List.sum_cons, hcat]; omega) hlocks
  obtain ⟨f1, f2⟩ := vx_frame hsame
  rw [hhp] at f1 f2
  have hWs : s.WarmedH U.vm := State.WarmedH.trans hW0 hW
  have hcl : s.vm.findClass cls = some ce.cls := by
    have h9 := hO.cls
    rw [hvm] at h9
    exact h9
  have hall : s.sameButNew ({ U with vm := s.vm } : State) locs mc ms := by
    subst hA
    obtain ⟨e1, e2⟩ := hsame
    rw [State.setFrames_setFrames] at e1
    have h2 : (T.setVm s.vm).sameButNew ({ U with vm := s.vm } : State) [] (0 + 1) (0 + 6) := ⟨e1, e2⟩
    have h3 := X.same.trans h2
    rw [List.append_nil] at h3
    exact h3.mono hc hs
  refine ⟨U, ?_, .threw T.heap.size, hrun, hend, Or.inr ⟨T.heap.size, rfl, cls, ce, locs, hx U hWs.alike f1 (fun q hq => f2 q hq (fun z hz => nomatch hz)), hce, hO.vm, hcl, hWs, hall, hf⟩⟩
  refine st1 _ ?_
  show Steps p.tables e below (T1.setTop { method := m, pc := pc + 3, locals := ls, stack := .ref T.heap.size :: rest, locked := none }) _
  jvm_step X₁.here [X₁.here.top, hexec, d3', Value.category]
  exact X₁.ldcStringW hexec (own := own) (text := text) (index := is) (a := sa) hown' hstr'.1 hstr'.2
    (g := { method := m, pc := pc + 4, locals := ls, stack := .ref T.heap.size :: .ref T.heap.size :: rest, locked := none }) rfl d4' _ hsteps
end Ends
section Bodies
variable {l : Launch}
theorem vx_ofW {y : MethodName} {ws ws' : List Cond} {rm : Room} {Pc : Array Value → State → Prop} {Qc : Array Value → State → Outcome → State → Prop} {XC : String → State → State → Prop} {mc ms : Nat} {free : Addr → Prop} {cc : ByteArray} {maxL : Nat} {ret : Option FieldType}
    (hy : plainName y.cls = true) (hw : ws = Cond.code y cc maxL ret :: ws')
    (body : ∀ p e s m args below meth c s₁, BodyLoose p l y (headSpec ws rm) cc maxL ret e s m args below meth c s₁ → c.maxLocals = maxL → (∀ x ∈ c.exceptionTable.toList, False) → Pc args s →
      W p l e (headSpec ws rm).room s m args below meth c s.heap [] 0 0 (vx_MQ below Qc XC args s mc ms free) (entryFrame m args maxL)) : vx_Met l y ws rm Pc Qc XC mc ms free := by
  refine MetFree.of_bodyS (code := cc) (maxLocals := maxL) (ret := ret) hy ?_ ?_
  · intro args s m h hn
    obtain ⟨meth, c, h1, h2, h3, h4, h5, h6, -, -⟩ := Cond.code_spec hn (atoms_spec (ws := ws) h _ (by rw [hw]; exact List.mem_cons_self))
    exact ⟨meth, c, h1, h2, h3, h4, h5, h6⟩
  · intro p e s m args below meth c s₁ B hml hP _
    have hh0 : s₁.heap = s.heap := by rw [B.state]; rfl
    have ht : ∀ x ∈ c.exceptionTable.toList, False := by
      obtain ⟨meth9, c9, h1, h2, -, -, -, -, h7, -⟩ := Cond.code_spec B.named (atoms_spec (ws := ws) B.pre _ (by rw [hw]; exact List.mem_cons_self))
      cases Option.some.inj (h1.symm.trans B.method)
      cases Option.some.inj (h2.symm.trans (Stand.of_body B).code)
      intro x hx
      rw [Array.isEmpty_iff.mp h7] at hx
      cases hx
    obtain ⟨t, a1, o, b1, b2, b3⟩ := body p e s m args below meth c s₁ B hml ht hP s₁ hh0 (Stand.of_body B)
    exact ⟨t, o, a1, b1, b2, b3⟩
/-- the table of a body with handlers -/
theorem vx_table {p : Program} {x y : MethodName} {S : Spec} {cc bytes : ByteArray} {maxL maxL' : Nat} {ret ret' : Option FieldType} {e : Env} {s s₁ : State} {m : MethodId} {args : Array Value} {below : List Frame} {meth : Method} {c : Code} {hh : List (Nat × Nat × Nat × Nat)}
    (B : BodyLoose p l y S cc maxL ret e s m args below meth c s₁) (h : (Cond.codeWith y bytes maxL' ret' hh).before args s = true) : c.exceptionTable.toList = tableOf hh := by
  obtain ⟨m9, meth9, c9, hn9, h1, h2, -, -, h6, -⟩ := Cond.codeWith_spec h
  cases Option.some.inj (hn9.symm.trans B.named)
  cases Option.some.inj (h1.symm.trans B.method)
  cases Option.some.inj (h2.symm.trans (Stand.of_body B).code)
  rw [← h6, table_eq]
end Bodies
end VXA
/-! ===== END ===== -/
/-! ===== BEGIN a static call of a method with an exception table ===== -/
section VXS
variable {p : Program} {l : Launch} {e : Env} {R : Room} {s : State} {m : MethodId} {args : Array Value} {below : List Frame} {meth : Method} {c : Code} {T : State} {H : Heap} {locs : List Loc} {cells slots : Nat}
abbrev vx_CSW (R : Room) (s : State) (args : Array Value) (own : String) (index : Nat) (y : MethodName) (bytes : ByteArray) (maxL : Nat) (ret : Option FieldType) (hh : List (Nat × Nat × Nat × Nat)) (ws : List Cond) (rm : Room) (mc ms n : Nat) : Prop :=
  (rm.cells = mc ∧ rm.slots = ms ∧ rm.frames + 1 ≤ R.frames ∧ 8 + (maxL + 11) + rm.locals ≤ R.locals ∧ (∀ w ∈ ws, ∀ (a' : Array Value) (U : State), s.WarmedH U.vm → w.before a' U = true) ∧ Cond.codeWith y bytes maxL ret hh ∈ ws) ∧
  (Cond.codeWith y bytes maxL ret hh).before args s = true ∧ (Cond.initialized y.cls).before args s = true ∧ (y.cls ≠ "java/lang/invoke/MethodHandle" ∧ y.cls ≠ "java/lang/invoke/VarHandle") ∧
  (∀ sig, parseMethodDescriptor y.desc = some sig → n = sig.parameters.length) ∧ (Cond.methodLink own index y).before args s = true ∧ (Cond.static y).before args s = true
theorem vx_cwSW {own : String} {index maxL mc ms : Nat} {y : MethodName} {bytes : ByteArray} {ret : Option FieldType} {hh : List (Nat × Nat × Nat × Nat)} {Ts ws ws' : List Cond} {rm : Room} (n : Nat) (ht : ∀ w ∈ Ts, w.before args s = true) (hT : GoodIn Ts (va_wsS own index y ws)) (hw : ws = Cond.codeWith y bytes maxL ret hh :: ws') (hrc : rm.cells = mc) (hrs : rm.slots = ms)
    (hd : y.cls ≠ "java/lang/invoke/MethodHandle" ∧ y.cls ≠ "java/lang/invoke/VarHandle" ∧ (parseMethodDescriptor y.desc).map (fun d => d.parameters.length) = some n) (hR : rm.frames + 1 ≤ R.frames ∧ 8 + (maxL + 11) + rm.locals ≤ R.locals) :
    vx_CSW R s args own index y bytes maxL ret hh ws rm mc ms n := by
  have ok : ∀ w ∈ va_wsS own index y ws, w.before args s = true := fun w h => ht w (hT w h).1
  have hG : GoodIn Ts ws := fun w h => hT w (by unfold va_wsS; exact List.mem_append_right _ h)
  have hc : Cond.codeWith y bytes maxL ret hh ∈ ws := by rw [hw]; exact List.mem_cons_self
  refine ⟨⟨hrc, hrs, hR.1, hR.2, pay_in ht hG, hc⟩, ht _ (hG _ hc).1, ok _ (by simp [va_wsS]), ⟨hd.1, hd.2.1⟩, fun sig h => ?_, ok _ (by simp [va_wsS]), ok _ (by simp [va_wsS])⟩
  have h2 := hd.2.2
  rw [h] at h2
  exact (Option.some.inj h2).symm
theorem vx_callSW (X : Stand p l e R s m args below meth c T locs cells slots) (hexec : p.tables.exec = Jvm.exec) {own : String} {index : Nat} {y : MethodName} {bytes : ByteArray} {maxL : Nat} {ret : Option FieldType} {hh : List (Nat × Nat × Nat × Nat)}
    (hown : s.vm.findClass own = some m.cls) (hlink : (Cond.methodLink own index y).before args s = true) (hstat : (Cond.static y).before args s = true) (hinit : (Cond.initialized y.cls).before args s = true)
    (hcode : (Cond.codeWith y bytes maxL ret hh).before args s = true) (hy : y.cls ≠ "java/lang/invoke/MethodHandle" ∧ y.cls ≠ "java/lang/invoke/VarHandle")
    {W9 : Nat} {Pre : Pt → Array Value → Prop} {Post : Pt → Array Value → Option Value → Pt → Prop} (hK : Back l R p e below s args y 3 W9 Pre Post)
    {g : JFrame} (hg : g.method = m) (hsize : g.locals.size = c.maxLocals) {argsL rest : List Value} (hlen : ∀ sig, parseMethodDescriptor y.desc = some sig → argsL.length = sig.parameters.length)
    (hstack : g.stack = argsL.reverse ++ rest) (hW : 2 * g.monitorRoom + (rest.map fun v => v.category).sum ≤ W9) (hdg : decode c.code g.pc = .ok (.invokestatic index, 3))
    (hpre : ∀ vm₁, s.WarmedH vm₁ → Pre ⟨T.setVm vm₁, locs, cells, slots⟩ argsL.toArray) :
    ∃ (v : Option Value) (vm₁ : Vm) (B : Pt), s.WarmedH vm₁ ∧ Stand p l e R s m args below meth c B.U B.locs B.cells B.slots ∧ Post ⟨T.setVm vm₁, locs, cells, slots⟩ argsL.toArray v B ∧
      ∀ target, Steps p.tables e below (B.U.setTop { g with pc := g.pc + 3, stack := v.toList ++ rest }) target → Steps p.tables e below (T.setTop g) target := by
  obtain ⟨mk, methM, cM, hnamed, hmethM, -, -, -, -, -, -, hsigM⟩ := Cond.codeWith_spec hcode
  have hstatic : methM.isStatic = true := Cond.static_spec hnamed hmethM hstat
  obtain ⟨kP, hkP, -⟩ := className_of_methodNamed hnamed
  have hinitP : kP.init = .initialized := Cond.initialized_spec (findClass_of_methodNamed hnamed) hkP hinit
  obtain ⟨vm₁, X₁, hstep₁⟩ := X.invokestatic hexec hown hlink hnamed hmethM hstatic hkP hinitP hy (g := g) hg (argsL := argsL) (rest := rest) (hlen _ hsigM) hstack hdg
  obtain ⟨v, B, X', hpost, hsteps⟩ := hK m meth c ⟨T.setVm vm₁, locs, cells, slots⟩ { g with stack := rest } (.invokestatic index) mk argsL.toArray X₁ hg hsize hdg hW (X₁.named hnamed) (hpre vm₁ X₁.warmed)
  exact ⟨v, vm₁, B, X₁.warmed, X', hpost, fun target h => hstep₁ _ fun acts => by rw [doInvoke_state]; exact hsteps.trans h⟩
theorem vx_runSW {y : MethodName} {bytes cc : ByteArray} {maxL nL mc ms n index : Nat} {ret : Option FieldType} {hh : List (Nat × Nat × Nat × Nat)} {ws : List Cond} {rm : Room} {Pc : Array Value → State → Prop} {Qc : Array Value → State → Outcome → State → Prop} {free : Addr → Prop} {Ts : List Cond} {own : String} {As rest : List Value} {g : JFrame}
    (S : CallFix p m c cc nL s args Ts own) (hM : Met l y ws rm Pc Qc mc ms free) (cw : vx_CSW R s args own index y bytes maxL ret hh ws rm mc ms n) (hp : PreS s H Pc As)
    (hg : g.method = m) (hn : As.length = n) (hsize : g.locals.size = nL) (hstack : g.stack = As.reverse ++ rest) (hW : 2 * g.monitorRoom + (rest.map fun v => v.category).sum ≤ 8) (hdg : decode cc g.pc = .ok (.invokestatic index, 3)) (hf : cells + mc ≤ R.cells ∧ slots + ms ≤ R.slots) :
    va_Run p l e R s m args below meth c H locs cells slots mc ms g rest (Qc As.toArray) (free) := by
  obtain ⟨⟨hrc, hrs, hfr, hlo, hws, hcw⟩, hcode, hini, hy, hlen, hl, hstt⟩ := cw
  have hK : Back l R p e below s args y 3 8 (PreOf R mc ms Pc) (PostOf Qc mc ms free) := va_backW (hh := hh) (bytes := bytes) (maxL := maxL) (ret := ret) hM hp.1 hrc hrs hfr hlo hws hcw (fun a' U hW => word_at hW (Or.inl (by first | rfl | simp [Cond.onTables, Cond.keeps, Cond.steady])) hini)
  obtain ⟨hx, hb, hml, ho, -⟩ := S
  intro T hT X
  obtain ⟨v, vm₁, ⟨U', l2, c2, s2⟩, hW₁, X', ⟨g', mk, t, L, e1, e2, hq, h1, hL, h2, h3⟩, st⟩ := vx_callSW X hx (hh := hh) (bytes := bytes) (maxL := maxL) (ret := ret) ho hl hstt hini hcode hy hK hg (hsize.trans hml.symm) (argsL := As) (rest := rest) (fun sig h => hn.trans (hlen sig h)) hstack hW (by rw [hb]; exact hdg)
    (fun vm₁ hW₁ => ⟨hf.1, hf.2, hp.2 (T.setVm vm₁) hT hW₁⟩)
  dsimp only [Pt.U, Pt.locs, Pt.cells, Pt.slots] at X' e1 e2 h1 h2 h3 st
  subst h1; subst h2; subst h3
  exact ⟨v, (T.setVm vm₁).calling g' mk As.toArray, t, U', L, hT, X', hL, e1, e2, hq, st⟩
/-- not caught here, past rows that name other classes: it goes on to the caller -/
theorem vx_outP {p : Program} {l : Launch} {e : Env} {R : Room} {s : State} {m : MethodId} {args : Array Value} {below : List Frame} {meth : Method} {c : Code} {H : Heap} {locs : List Loc} {cells slots : Nat} {free : Addr → Prop} {ls : Array Slot} {rest : List Value} {Qc : Array Value → State → Outcome → State → Prop} {XC : String → State → State → Prop}
    {pc : Nat} {own E : String} {ce : Cell} {q : Addr} {mc ms : Nat} (hown : s.vm.findClass own = some m.cls) (hlocks : meth.locks = false)
    (hpass : ∀ z ∈ c.exceptionTable.toList, covers z pc = false ∨ (z.catchType ≠ 0 ∧ ∃ nm : String, (Cond.classLink own z.catchType nm).before args s = true ∧ va_Nc E nm s)) (hcell : H[q]? = some ce) (hv : ce.vm = .none) (hcl : s.vm.findClass E = some ce.cls)
    (hx : ∀ t : State, t.heap = H → s.vm.Alike t.vm → XC E s t) (hf : ∀ z ∈ locs, free z.base) (hc : cells ≤ mc) (hs : slots ≤ ms) :
    vx_W p l e R s m args below meth c H locs cells slots (vx_MQ below Qc XC args s mc ms free) (F0 m pc ls rest) q := by
  intro T hT X
  have hpl : e.platform.magicAccessors = ({} : Platform).magicAccessors := by rw [X.admits.platform]
  obtain ⟨vm', hW', X', st⟩ := X.outThrough hlocks q (g := F0 m pc ls rest) rfl rfl rfl (cell := ce) (by rw [hT]; exact hcell) (by rw [hv]; rfl)
    (by obtain ⟨k9, h9, -⟩ := Vm.findClass_spec hcl; exact ⟨k9, h9⟩) (fun z hz => by
      rcases hpass z hz with h | ⟨hz0, nm, hl1, hn1⟩
      · exact Or.inl h
      · obtain ⟨c6, hc6, hcl6⟩ := Cond.classLink_spec hown hl1 e.platform hpl
        obtain ⟨a8, b8, h1, h2, h3⟩ := hn1
        cases Option.some.inj (h1.symm.trans hcl)
        cases Option.some.inj (h2.symm.trans hc6)
        exact Or.inr ⟨hz0, _, hcl6, h3⟩)
  obtain ⟨g₀, hfr⟩ := X'.frames_eq
  have hcell9 : ((T.setVm vm').setFrames (.throwing q :: below)).heap[q]? = some ce := by
    show T.heap[q]? = some ce
    rw [hT]; exact hcell
  have hend : Ended ((T.setVm vm').setFrames (.throwing q :: below)) below (.threw q) := State.frames_setFrames _ (State.cur_lt_of_frames hfr)
  refine ⟨(T.setVm vm').setFrames (.throwing q :: below), ?_, .threw q, X'.here.running, hend, Or.inr ⟨q, rfl, E, ce, locs, hx _ hT (X'.ends _).1.alike, hcell9, hv, hcl, (X'.ends _).1, (X'.ends _).2.mono hc hs, hf⟩⟩
  rw [X.pushThrowing_eq]
  exact st
/-- a thing of a world lies in the heap -/
theorem vx_lt {D : va_G} {cl : List vw_C} {ws : va_W} {H1 : Heap} (h : va_P D cl ws H1) {k : Nat} {q : Nat × va_E} (hk : ws[k]? = some q) : q.1 < H1.size := (h k q hk).lt
end VXS
/-! ===== END ===== -/
/-! ===== BEGIN methods with a table of their own: called by a name, returning or throwing ===== -/
section VXH
/-! vx_backW, vx_callVX, vx_callSX, vx_callVW, vx_runVW, vx_runVX, vx_runSX, vx_ofWH follow the same proofs as their sisters above (Free/Laws.lean, Shelf42/LK1.lean); vx_outP calls Shelf42/NT130.lean (outThrough). -/
section
variable {l : Launch} {R : Room} {p : Program} {e : Env} {below : List Frame} {s : State} {sargs : Array Value} {y : MethodName} {len W9 : Nat}
theorem vx_backW {ws : List Cond} {rm : Room} {Pc : Array Value → State → Prop} {Qc : Array Value → State → Outcome → State → Prop} {XC : String → State → State → Prop} {mc ms : Nat} {free : Addr → Prop} {bytes : ByteArray} {maxL : Nat} {ret : Option FieldType} {hh : List (Nat × Nat × Nat × Nat)}
    (hM : vx_Met l y ws rm Pc Qc XC mc ms free) (hblind : FrameBlind Pc) (hrc : rm.cells = mc) (hrs : rm.slots = ms)
    (hframes : rm.frames + 1 ≤ R.frames) (hlocals : W9 + (maxL + 11) + rm.locals ≤ R.locals)
    (hws : ∀ w ∈ ws, ∀ a' U, s.WarmedH U.vm → w.before a' U = true) (hcode : Cond.codeWith y bytes maxL ret hh ∈ ws) (hinit : ∀ a' U, s.WarmedH U.vm → (Cond.initialized y.cls).before a' U = true) :
    vx_Back l R p e below s sargs y len W9 (PreOf R mc ms Pc) (PostOf Qc mc ms free) (vx_Post XC mc ms free) := by
  intro m meth c A g ig mk a X hg hsize hdg hW hn hp
  have h1 : (headSpec ws rm).pre.before a A.U = true := atoms_intro fun w hw => hws w hw _ _ X.warmed
  have h2 : (Cond.codeWith y bytes maxL ret hh).before a A.U = true := hws _ hcode _ _ X.warmed
  have h3 : (Cond.initialized y.cls).before a A.U = true := hinit _ _ X.warmed
  have h4 : A.cells + (headSpec ws rm).room.cells ≤ R.cells := by rw [show (headSpec ws rm).room.cells = mc from hrc]; exact hp.1
  have h5 : A.slots + (headSpec ws rm).room.slots ≤ R.slots := by rw [show (headSpec ws rm).room.slots = ms from hrs]; exact hp.2.1
  have hPc : Pc a (A.U.calling g mk a) := hblind _ _ _ _ hp.2.2
  obtain ⟨U, Ls, c0, s0⟩ := A
  dsimp only [Pt.U, Pt.locs, Pt.cells, Pt.slots] at h1 h2 h3 h4 h5 X hn hPc ⊢
  obtain ⟨m9, methY, cY, hn9, hmY, hcY, -, hlY, -⟩ := Cond.codeWith_spec h2
  cases Option.some.inj (hn9.symm.trans hn)
  obtain ⟨kY, hkY, -⟩ := className_of_methodNamed hn
  have hinitY : kY.init = .initialized := Cond.initialized_spec (findClass_of_methodNamed hn) hkY h3
  have h : At U g.method c below := by rw [hg]; exact X.here
  have hlocals9 : W9 + (maxL + 11) + (headSpec ws rm).room.locals ≤ R.locals := hlocals
  have happ : (headSpec ws rm).appliesLoose y e.platform (U.calling g mk a) = true :=
    Spec.appliesLoose_calling (g := g) h hdg hn hkY hinitY
      (X.room_calling (g := g) (R' := (headSpec ws rm).room) hsize hmY hcY hframes (by rw [hlY]; omega) h4 h5) h1
  obtain ⟨mid, hmid⟩ := h.above
  have hfr : (U.setTop g).frames = (.java g :: mid) ++ below := by rw [State.frames_setTop' g h.top, hmid]; rfl
  obtain ⟨o, s₂, hsteps, -, hend, hq⟩ := Steps.callFree hM p X.admits X.cas X.clock (acts := []) hfr happ hPc trivial
  have hq' : vx_Q Qc XC mc ms free a (U.calling g mk a) o s₂ := hq
  rw [State.frames_setTop' g h.top] at hend
  obtain ⟨g₀, hg0⟩ := Option.isSome_iff_exists.mp h.top
  obtain ⟨r, hr⟩ := State.topJava?_eq_some.mp hg0
  have hr' : (({ U with heap := s₂.heap, slotsUsed := s₂.slotsUsed } : State).setVm s₂.vm).frames = .java g₀ :: r := hr
  rcases hq' with ⟨hqc, L, hfe, hL⟩ | ⟨q, rfl, E, ce, L, hx, hce, hcv, hcl, hW₂, hsm, hL⟩
  · obtain ⟨⟨v, rfl⟩, hW₂, e2, q2, q3, q4, q5, q6⟩ := id hfe
    have e3 : s₂ = ({ (U.calling g mk a).setFrames s₂.frames with heap := s₂.heap, slotsUsed := s₂.slotsUsed } : State).setVm s₂.vm := by
      have : s₂ = ({ s₂ with vm := (U.calling g mk a).vm } : State).setVm s₂.vm := rfl
      rw [e2] at this
      exact this
    obtain ⟨c₂, i₂, len₂, hc₂, hd₂, hf₂⟩ := hend
    have hW' : U.WarmedH s₂.vm := hW₂
    have hcc : c₂ = c := by
      have h1 : s₂.code? g.method = U.code? g.method := by
        rw [State.code?_eq, State.code?_eq, hW'.alike.method?]
      exact Option.some.inj (hc₂.symm.trans (h1.trans h.code))
    subst hcc
    have hlen : len₂ = len := by rw [hdg] at hd₂; cases hd₂; rfl
    subst hlen
    have hs₂ : s₂ = (({ U with heap := s₂.heap, slotsUsed := s₂.slotsUsed } : State).setVm s₂.vm).setTop { g with pc := g.pc + len₂, stack := v.toList ++ g.stack } := by
      refine e3.trans ?_
      rw [hf₂, State.calling_eq h.top, State.setFrames_setFrames, State.setTop_of_frames _ hr', hr]
      rfl
    have hsame : U.sameButNew ({ U with heap := s₂.heap, slotsUsed := s₂.slotsUsed } : State) L mc ms := by
      refine ⟨?_, q2, q3, q4, q5, q6⟩
      obtain ⟨t, ht, -⟩ := State.frames_cons hr
      show ({ U with heap := s₂.heap, slotsUsed := s₂.slotsUsed } : State) = { U.setFrames U.frames with heap := s₂.heap, slotsUsed := s₂.slotsUsed }
      rw [State.setFrames_self ht]
    subst hg
    refine Or.inl ⟨v, ⟨(({ U with heap := s₂.heap, slotsUsed := s₂.slotsUsed } : State).setVm s₂.vm), Ls ++ L, c0 + mc, s0 + ms⟩,
      ⟨X.admits, X.cas, X.clock, X.frames, X.room, X.hears, X.method, X.code, (X.here.setHeapUsed s₂.heap s₂.slotsUsed).setVm hW'.alike, X.tail, State.WarmedH.trans X.warmed hW', X.limits, X.bytes, X.same.trans (hsame.setVm s.vm)⟩,
      ⟨g, mk, s₂, L, rfl, rfl, hqc, rfl, hL, rfl, rfl⟩, ?_⟩
    show Steps p.tables e below _ ((({ U with heap := s₂.heap, slotsUsed := s₂.slotsUsed } : State).setVm s₂.vm).setTop { g with pc := g.pc + len₂, stack := v.toList ++ g.stack })
    rw [← hs₂]
    exact hsteps
  · obtain ⟨e2, q2, q3, q4, q5, q6⟩ := id hsm
    have e3 : s₂ = ({ (U.calling g mk a).setFrames s₂.frames with heap := s₂.heap, slotsUsed := s₂.slotsUsed } : State).setVm s₂.vm := by
      have : s₂ = ({ s₂ with vm := (U.calling g mk a).vm } : State).setVm s₂.vm := rfl
      rw [e2] at this
      exact this
    have hf₂ : s₂.frames = .throwing q :: .java g :: U.frames.tail := hend
    have hW' : U.WarmedH s₂.vm := hW₂
    have hs₂ : s₂ = ((({ U with heap := s₂.heap, slotsUsed := s₂.slotsUsed } : State).setVm s₂.vm).setTop g).pushFrame (.throwing q) := by
      refine e3.trans ?_
      rw [hf₂, State.calling_eq h.top, State.setFrames_setFrames, State.pushFrame, State.frames_setTop _ hr', State.setTop_of_frames _ hr', State.setFrames_setFrames, hr]
      rfl
    have hsame : U.sameButNew ({ U with heap := s₂.heap, slotsUsed := s₂.slotsUsed } : State) L mc ms := by
      refine ⟨?_, q2, q3, q4, q5, q6⟩
      obtain ⟨t, ht, -⟩ := State.frames_cons hr
      show ({ U with heap := s₂.heap, slotsUsed := s₂.slotsUsed } : State) = { U.setFrames U.frames with heap := s₂.heap, slotsUsed := s₂.slotsUsed }
      rw [State.setFrames_self ht]
    subst hg
    refine Or.inr ⟨q, ⟨(({ U with heap := s₂.heap, slotsUsed := s₂.slotsUsed } : State).setVm s₂.vm), Ls ++ L, c0 + mc, s0 + ms⟩,
      ⟨X.admits, X.cas, X.clock, X.frames, X.room, X.hears, X.method, X.code, (X.here.setHeapUsed s₂.heap s₂.slotsUsed).setVm hW'.alike, X.tail, State.WarmedH.trans X.warmed hW', X.limits, X.bytes, X.same.trans (hsame.setVm s.vm)⟩,
      ⟨g, mk, s₂, L, E, ce, rfl, rfl, hx, hce, hcv, hcl, rfl, hL, rfl, rfl⟩, ?_⟩
    show Steps p.tables e below _ (((({ U with heap := s₂.heap, slotsUsed := s₂.slotsUsed } : State).setVm s₂.vm).setTop g).pushFrame (.throwing q))
    rw [← hs₂]
    exact hsteps
end
variable {p : Program} {l : Launch} {e : Env} {R : Room} {s : State} {m : MethodId} {args : Array Value} {below : List Frame} {meth : Method} {c : Code} {T : State} {H : Heap} {locs : List Loc} {cells slots : Nat}
theorem vx_callVX (X : Stand p l e R s m args below meth c T locs cells slots) (hexec : p.tables.exec = Jvm.exec) {own C : String} {index : Nat} {y : MethodName} {bytes : ByteArray} {maxL : Nat} {ret : Option FieldType} {hh : List (Nat × Nat × Nat × Nat)}
    (hown : s.vm.findClass own = some m.cls) (hlink : (Cond.methodLink own index y).before args s = true) (hinst : (Cond.instanceMethod y).before args s = true) (hsel : (Cond.selects C y y).before args s = true)
    (hcode : (Cond.codeWith y bytes maxL ret hh).before args s = true) (hy : y.cls ≠ "java/lang/invoke/MethodHandle" ∧ y.cls ≠ "java/lang/invoke/VarHandle")
    {W9 : Nat} {Pre : Pt → Array Value → Prop} {Post : Pt → Array Value → Option Value → Pt → Prop} {PostX : Pt → Array Value → Addr → Pt → Prop} (hK : vx_Back l R p e below s args y 3 W9 Pre Post PostX)
    {b : Addr} {cellB : Cell} (hcell : T.heap[b]? = some cellB) (hobj : cellB.vm.isStatics = false) (hcls : s.vm.findClass C = some cellB.cls)
    {g : JFrame} (hg : g.method = m) (hsize : g.locals.size = c.maxLocals) {argsL rest : List Value} (hlen : ∀ sig, parseMethodDescriptor y.desc = some sig → argsL.length = sig.parameters.length)
    (hstack : g.stack = argsL.reverse ++ .ref b :: rest) (hW : 2 * g.monitorRoom + (rest.map fun v => v.category).sum ≤ W9) (hdg : decode c.code g.pc = .ok (.invokevirtual index, 3))
    (hpre : ∀ vm₁, s.WarmedH vm₁ → Pre ⟨T.setVm vm₁, locs, cells, slots⟩ (Value.ref b :: argsL).toArray) :
    (∃ (v : Option Value) (vm₁ : Vm) (B : Pt), s.WarmedH vm₁ ∧ Stand p l e R s m args below meth c B.U B.locs B.cells B.slots ∧ Post ⟨T.setVm vm₁, locs, cells, slots⟩ (Value.ref b :: argsL).toArray v B ∧
      ∀ target, Steps p.tables e below (B.U.setTop { g with pc := g.pc + 3, stack := v.toList ++ rest }) target → Steps p.tables e below (T.setTop g) target) ∨
    (∃ (q : Addr) (vm₁ : Vm) (B : Pt), s.WarmedH vm₁ ∧ Stand p l e R s m args below meth c B.U B.locs B.cells B.slots ∧ PostX ⟨T.setVm vm₁, locs, cells, slots⟩ (Value.ref b :: argsL).toArray q B ∧
      Steps p.tables e below (T.setTop g) ((B.U.setTop { g with stack := rest }).pushFrame (.throwing q))) := by
  obtain ⟨mk, methM, hnamed, hmethM, hstM, habM⟩ := Cond.instanceMethod_spec hinst
  obtain ⟨m8, methM', cM, hn8, hmethM', -, -, -, -, -, -, hsigM⟩ := Cond.codeWith_spec hcode
  cases Option.some.inj (hn8.symm.trans hnamed)
  cases hmethM.symm.trans hmethM'
  obtain ⟨c2, r2, m2, q1, q2, q3, q4, kP, hkP, hkPi⟩ := Cond.selects_spec hsel
  cases hcls.symm.trans q1
  cases (State.methodFound?_of_named hnamed hy).symm.trans q2
  cases hnamed.symm.trans q3
  have hselP : selectMethod e.platform s.vm cellB.cls mk = .method mk := by rw [Launch.admits_selectMethod X.admits]; exact q4
  obtain ⟨vm₁, X₁, hstep₁⟩ := X.invokevirtual hexec hown hlink hnamed hmethM hstM hkP hkPi hy (a := b) (cell := cellB) hcell
    (fun z h => by rw [h] at hobj; cases hobj) hselP hmethM habM hkP hkPi (g := g) hg (argsL := argsL) (rest := rest) (hlen _ hsigM) hstack hdg
  rcases hK m meth c ⟨T.setVm vm₁, locs, cells, slots⟩ { g with stack := rest } (.invokevirtual index) mk (Value.ref b :: argsL).toArray X₁ hg hsize hdg hW (X₁.named hnamed) (hpre vm₁ X₁.warmed) with ⟨v, B, X', hpost, hsteps⟩ | ⟨q, B, X', hpost, hsteps⟩
  · exact Or.inl ⟨v, vm₁, B, X₁.warmed, X', hpost, fun target h => hstep₁ _ fun acts => by rw [doInvoke_state]; exact hsteps.trans h⟩
  · exact Or.inr ⟨q, vm₁, B, X₁.warmed, X', hpost, hstep₁ _ fun acts => by rw [doInvoke_state]; exact hsteps⟩
theorem vx_callSX (X : Stand p l e R s m args below meth c T locs cells slots) (hexec : p.tables.exec = Jvm.exec) {own : String} {index : Nat} {y : MethodName} {bytes : ByteArray} {maxL : Nat} {ret : Option FieldType} {hh : List (Nat × Nat × Nat × Nat)}
    (hown : s.vm.findClass own = some m.cls) (hlink : (Cond.methodLink own index y).before args s = true) (hstat : (Cond.static y).before args s = true) (hinit : (Cond.initialized y.cls).before args s = true)
    (hcode : (Cond.codeWith y bytes maxL ret hh).before args s = true) (hy : y.cls ≠ "java/lang/invoke/MethodHandle" ∧ y.cls ≠ "java/lang/invoke/VarHandle")
    {W9 : Nat} {Pre : Pt → Array Value → Prop} {Post : Pt → Array Value → Option Value → Pt → Prop} {PostX : Pt → Array Value → Addr → Pt → Prop} (hK : vx_Back l R p e below s args y 3 W9 Pre Post PostX)
    {g : JFrame} (hg : g.method = m) (hsize : g.locals.size = c.maxLocals) {argsL rest : List Value} (hlen : ∀ sig, parseMethodDescriptor y.desc = some sig → argsL.length = sig.parameters.length)
    (hstack : g.stack = argsL.reverse ++ rest) (hW : 2 * g.monitorRoom + (rest.map fun v => v.category).sum ≤ W9) (hdg : decode c.code g.pc = .ok (.invokestatic index, 3))
    (hpre : ∀ vm₁, s.WarmedH vm₁ → Pre ⟨T.setVm vm₁, locs, cells, slots⟩ argsL.toArray) :
    (∃ (v : Option Value) (vm₁ : Vm) (B : Pt), s.WarmedH vm₁ ∧ Stand p l e R s m args below meth c B.U B.locs B.cells B.slots ∧ Post ⟨T.setVm vm₁, locs, cells, slots⟩ argsL.toArray v B ∧
      ∀ target, Steps p.tables e below (B.U.setTop { g with pc := g.pc + 3, stack := v.toList ++ rest }) target → Steps p.tables e below (T.setTop g) target) ∨
    (∃ (q : Addr) (vm₁ : Vm) (B : Pt), s.WarmedH vm₁ ∧ Stand p l e R s m args below meth c B.U B.locs B.cells B.slots ∧ PostX ⟨T.setVm vm₁, locs, cells, slots⟩ argsL.toArray q B ∧
      Steps p.tables e below (T.setTop g) ((B.U.setTop { g with stack := rest }).pushFrame (.throwing q))) := by
  obtain ⟨mk, methM, cM, hnamed, hmethM, -, -, -, -, -, -, hsigM⟩ := Cond.codeWith_spec hcode
  have hstatic : methM.isStatic = true := Cond.static_spec hnamed hmethM hstat
  obtain ⟨kP, hkP, -⟩ := className_of_methodNamed hnamed
  have hinitP : kP.init = .initialized := Cond.initialized_spec (findClass_of_methodNamed hnamed) hkP hinit
  obtain ⟨vm₁, X₁, hstep₁⟩ := X.invokestatic hexec hown hlink hnamed hmethM hstatic hkP hinitP hy (g := g) hg (argsL := argsL) (rest := rest) (hlen _ hsigM) hstack hdg
  rcases hK m meth c ⟨T.setVm vm₁, locs, cells, slots⟩ { g with stack := rest } (.invokestatic index) mk argsL.toArray X₁ hg hsize hdg hW (X₁.named hnamed) (hpre vm₁ X₁.warmed) with ⟨v, B, X', hpost, hsteps⟩ | ⟨q, B, X', hpost, hsteps⟩
  · exact Or.inl ⟨v, vm₁, B, X₁.warmed, X', hpost, fun target h => hstep₁ _ fun acts => by rw [doInvoke_state]; exact hsteps.trans h⟩
  · exact Or.inr ⟨q, vm₁, B, X₁.warmed, X', hpost, hstep₁ _ fun acts => by rw [doInvoke_state]; exact hsteps⟩
theorem vx_callVW (X : Stand p l e R s m args below meth c T locs cells slots) (hexec : p.tables.exec = Jvm.exec) {own C : String} {index : Nat} {y : MethodName} {bytes : ByteArray} {maxL : Nat} {ret : Option FieldType} {hh : List (Nat × Nat × Nat × Nat)}
    (hown : s.vm.findClass own = some m.cls) (hlink : (Cond.methodLink own index y).before args s = true) (hinst : (Cond.instanceMethod y).before args s = true) (hsel : (Cond.selects C y y).before args s = true)
    (hcode : (Cond.codeWith y bytes maxL ret hh).before args s = true) (hy : y.cls ≠ "java/lang/invoke/MethodHandle" ∧ y.cls ≠ "java/lang/invoke/VarHandle")
    {W9 : Nat} {Pre : Pt → Array Value → Prop} {Post : Pt → Array Value → Option Value → Pt → Prop} (hK : Back l R p e below s args y 3 W9 Pre Post)
    {b : Addr} {cellB : Cell} (hcell : T.heap[b]? = some cellB) (hobj : cellB.vm.isStatics = false) (hcls : s.vm.findClass C = some cellB.cls)
    {g : JFrame} (hg : g.method = m) (hsize : g.locals.size = c.maxLocals) {argsL rest : List Value} (hlen : ∀ sig, parseMethodDescriptor y.desc = some sig → argsL.length = sig.parameters.length)
    (hstack : g.stack = argsL.reverse ++ .ref b :: rest) (hW : 2 * g.monitorRoom + (rest.map fun v => v.category).sum ≤ W9) (hdg : decode c.code g.pc = .ok (.invokevirtual index, 3))
    (hpre : ∀ vm₁, s.WarmedH vm₁ → Pre ⟨T.setVm vm₁, locs, cells, slots⟩ (Value.ref b :: argsL).toArray) :
    ∃ (v : Option Value) (vm₁ : Vm) (B : Pt), s.WarmedH vm₁ ∧ Stand p l e R s m args below meth c B.U B.locs B.cells B.slots ∧ Post ⟨T.setVm vm₁, locs, cells, slots⟩ (Value.ref b :: argsL).toArray v B ∧
      ∀ target, Steps p.tables e below (B.U.setTop { g with pc := g.pc + 3, stack := v.toList ++ rest }) target → Steps p.tables e below (T.setTop g) target := by
  obtain ⟨mk, methM, hnamed, hmethM, hstM, habM⟩ := Cond.instanceMethod_spec hinst
  obtain ⟨m8, methM', cM, hn8, hmethM', -, -, -, -, -, -, hsigM⟩ := Cond.codeWith_spec hcode
  cases Option.some.inj (hn8.symm.trans hnamed)
  cases hmethM.symm.trans hmethM'
  obtain ⟨c2, r2, m2, q1, q2, q3, q4, kP, hkP, hkPi⟩ := Cond.selects_spec hsel
  cases hcls.symm.trans q1
  cases (State.methodFound?_of_named hnamed hy).symm.trans q2
  cases hnamed.symm.trans q3
  have hselP : selectMethod e.platform s.vm cellB.cls mk = .method mk := by rw [Launch.admits_selectMethod X.admits]; exact q4
  obtain ⟨vm₁, X₁, hstep₁⟩ := X.invokevirtual hexec hown hlink hnamed hmethM hstM hkP hkPi hy (a := b) (cell := cellB) hcell
    (fun z h => by rw [h] at hobj; cases hobj) hselP hmethM habM hkP hkPi (g := g) hg (argsL := argsL) (rest := rest) (hlen _ hsigM) hstack hdg
  obtain ⟨v, B, X', hpost, hsteps⟩ := hK m meth c ⟨T.setVm vm₁, locs, cells, slots⟩ { g with stack := rest } (.invokevirtual index) mk (Value.ref b :: argsL).toArray X₁ hg hsize hdg hW (X₁.named hnamed) (hpre vm₁ X₁.warmed)
  exact ⟨v, vm₁, B, X₁.warmed, X', hpost, fun target h => hstep₁ _ fun acts => by rw [doInvoke_state]; exact hsteps.trans h⟩
abbrev vx_CVW (R : Room) (s : State) (args : Array Value) (own C : String) (index : Nat) (y : MethodName) (bytes : ByteArray) (maxL : Nat) (ret : Option FieldType) (hh : List (Nat × Nat × Nat × Nat)) (ws : List Cond) (rm : Room) (mc ms n : Nat) : Prop :=
  (rm.cells = mc ∧ rm.slots = ms ∧ rm.frames + 1 ≤ R.frames ∧ 8 + (maxL + 11) + rm.locals ≤ R.locals ∧ (∀ w ∈ ws, ∀ (a' : Array Value) (U : State), s.WarmedH U.vm → w.before a' U = true) ∧ Cond.codeWith y bytes maxL ret hh ∈ ws) ∧
  (Cond.codeWith y bytes maxL ret hh).before args s = true ∧ (Cond.initialized y.cls).before args s = true ∧ (y.cls ≠ "java/lang/invoke/MethodHandle" ∧ y.cls ≠ "java/lang/invoke/VarHandle") ∧
  (∀ sig, parseMethodDescriptor y.desc = some sig → n = sig.parameters.length) ∧ (Cond.methodLink own index y).before args s = true ∧ (Cond.instanceMethod y).before args s = true ∧ (Cond.selects C y y).before args s = true
theorem vx_cwVW {own C : String} {index maxL mc ms : Nat} {y : MethodName} {bytes : ByteArray} {ret : Option FieldType} {hh : List (Nat × Nat × Nat × Nat)} {Ts ws ws' : List Cond} {rm : Room} (n : Nat) (ht : ∀ w ∈ Ts, w.before args s = true) (hT : GoodIn Ts (wsV own index C y ws)) (hw : ws = Cond.codeWith y bytes maxL ret hh :: ws') (hrc : rm.cells = mc) (hrs : rm.slots = ms)
    (hd : y.cls = C ∧ y.cls ≠ "java/lang/invoke/MethodHandle" ∧ y.cls ≠ "java/lang/invoke/VarHandle" ∧ (parseMethodDescriptor y.desc).map (fun d => d.parameters.length) = some n) (hR : rm.frames + 1 ≤ R.frames ∧ 8 + (maxL + 11) + rm.locals ≤ R.locals) :
    vx_CVW R s args own C index y bytes maxL ret hh ws rm mc ms n := by
  obtain ⟨hC, hd⟩ := hd
  subst hC
  have ok : ∀ w ∈ wsV own index y.cls y ws, w.before args s = true := fun w h => ht w (hT w h).1
  have hG : GoodIn Ts ws := fun w h => hT w (by unfold wsV; exact List.mem_append_right _ h)
  have hc : Cond.codeWith y bytes maxL ret hh ∈ ws := by rw [hw]; exact List.mem_cons_self
  refine ⟨⟨hrc, hrs, hR.1, hR.2, pay_in ht hG, hc⟩, ht _ (hG _ hc).1, ok _ (by simp [wsV]), ⟨hd.1, hd.2.1⟩, fun sig h => ?_, ok _ (by simp [wsV]), ok _ (by simp [wsV]), ok _ (by simp [wsV])⟩
  have h2 := hd.2.2
  rw [h] at h2
  exact (Option.some.inj h2).symm
theorem vx_runVW {y : MethodName} {bytes cc : ByteArray} {maxL nL mc ms n index : Nat} {ret : Option FieldType} {hh : List (Nat × Nat × Nat × Nat)} {ws : List Cond} {rm : Room} {Pc : Array Value → State → Prop} {Qc : Array Value → State → Outcome → State → Prop} {free : Addr → Prop} {Ts : List Cond} {own C : String} {b : Addr} {As rest : List Value} {g : JFrame}
    (S : CallFix p m c cc nL s args Ts own) (hM : Met l y ws rm Pc Qc mc ms free) (cw : vx_CVW R s args own C index y bytes maxL ret hh ws rm mc ms n) (hp : PreV s H C b Pc As)
    (hg : g.method = m) (hn : As.length = n) (hsize : g.locals.size = nL) (hstack : g.stack = As.reverse ++ .ref b :: rest) (hW : 2 * g.monitorRoom + (rest.map fun v => v.category).sum ≤ 8) (hdg : decode cc g.pc = .ok (.invokevirtual index, 3)) (hf : cells + mc ≤ R.cells ∧ slots + ms ≤ R.slots) :
    va_Run p l e R s m args below meth c H locs cells slots mc ms g rest (Qc (Value.ref b :: As).toArray) free := by
  obtain ⟨⟨hrc, hrs, hfr, hlo, hws, hcw⟩, hcode, hini, hy, hlen, hl, hin, hse⟩ := cw
  have hK : Back l R p e below s args y 3 8 (PreOf R mc ms Pc) (PostOf Qc mc ms free) := va_backW (hh := hh) (bytes := bytes) (maxL := maxL) (ret := ret) hM hp.1 hrc hrs hfr hlo hws hcw (fun a' U hW => word_at hW (Or.inl (by first | rfl | simp [Cond.onTables, Cond.keeps, Cond.steady])) hini)
  obtain ⟨hx, hb, hml, ho, -⟩ := S
  obtain ⟨-, ⟨cellB, hcB, hoB, hclB⟩, hPc⟩ := hp
  intro T hT X
  obtain ⟨v, vm₁, ⟨U', l2, c2, s2⟩, hW₁, X', ⟨g', mk, t, L, e1, e2, hq, h1, hL, h2, h3⟩, st⟩ := vx_callVW X hx (C := C) (hh := hh) (bytes := bytes) (maxL := maxL) (ret := ret) ho hl hin hse hcode hy hK (by rw [hT]; exact hcB) hoB hclB hg (hsize.trans hml.symm) (argsL := As) (rest := rest) (fun sig h => hn.trans (hlen sig h)) hstack hW (by rw [hb]; exact hdg)
    (fun vm₁ hW₁ => ⟨hf.1, hf.2, hPc (T.setVm vm₁) hT hW₁⟩)
  dsimp only [Pt.U, Pt.locs, Pt.cells, Pt.slots] at X' e1 e2 h1 h2 h3 st
  subst h1; subst h2; subst h3
  exact ⟨v, (T.setVm vm₁).calling g' mk (Value.ref b :: As).toArray, t, U', L, hT, X', hL, e1, e2, hq, st⟩
section
variable {y : MethodName} {bytes cc : ByteArray} {maxL nL mc ms n index : Nat} {ret : Option FieldType} {ws : List Cond} {rm : Room} {Pc : Array Value → State → Prop} {Qc : Array Value → State → Outcome → State → Prop} {XC : String → State → State → Prop} {free : Addr → Prop} {Ts : List Cond} {own C : String} {b : Addr} {As rest : List Value} {g : JFrame}
theorem vx_runVX {hh : List (Nat × Nat × Nat × Nat)} (S : CallFix p m c cc nL s args Ts own) (hM : vx_Met l y ws rm Pc Qc XC mc ms free) (cw : vx_CVW R s args own C index y bytes maxL ret hh ws rm mc ms n) (hp : PreV s H C b Pc As)
    (hg : g.method = m) (hn : As.length = n) (hsize : g.locals.size = nL) (hstack : g.stack = As.reverse ++ .ref b :: rest) (hW : 2 * g.monitorRoom + (rest.map fun v => v.category).sum ≤ 8) (hdg : decode cc g.pc = .ok (.invokevirtual index, 3)) (hf : cells + mc ≤ R.cells ∧ slots + ms ≤ R.slots) :
    vx_Run p l e R s m args below meth c H locs cells slots mc ms g rest (Qc (Value.ref b :: As).toArray) XC free := by
  obtain ⟨⟨hrc, hrs, hfr, hlo, hws, hcw⟩, hcode, hini, hy, hlen, hl, hin, hse⟩ := cw
  have hK : vx_Back l R p e below s args y 3 8 (PreOf R mc ms Pc) (PostOf Qc mc ms free) (vx_Post XC mc ms free) := vx_backW (hh := hh) (bytes := bytes) (maxL := maxL) (ret := ret) hM hp.1 hrc hrs hfr hlo hws hcw (fun a' U hW => word_at hW (Or.inl (by first | rfl | simp [Cond.onTables, Cond.keeps, Cond.steady])) hini)
  obtain ⟨hx, hb, hml, ho, -⟩ := S
  obtain ⟨-, ⟨cellB, hcB, hoB, hclB⟩, hPc⟩ := hp
  intro T hT X
  rcases vx_callVX X hx (C := C) (hh := hh) (bytes := bytes) (maxL := maxL) (ret := ret) ho hl hin hse hcode hy hK (by rw [hT]; exact hcB) hoB hclB hg (hsize.trans hml.symm) (argsL := As) (rest := rest) (fun sig h => hn.trans (hlen sig h)) hstack hW (by rw [hb]; exact hdg)
    (fun vm₁ hW₁ => ⟨hf.1, hf.2, hPc (T.setVm vm₁) hT hW₁⟩) with ⟨v, vm₁, ⟨U', l2, c2, s2⟩, hW₁, X', ⟨g', mk, t, L, e1, e2, hq, h1, hL, h2, h3⟩, st⟩ | ⟨q, vm₁, ⟨U', l2, c2, s2⟩, hW₁, X', ⟨g', mk, t, L, E, ce, e1, e2, hq, hce, hcv, hcl, h1, hL, h2, h3⟩, st⟩
  · dsimp only [Pt.U, Pt.locs, Pt.cells, Pt.slots] at X' e1 e2 h1 h2 h3 st
    subst h1; subst h2; subst h3
    exact Or.inl ⟨v, (T.setVm vm₁).calling g' mk (Value.ref b :: As).toArray, t, U', L, hT, X', hL, e1, e2, hq, st⟩
  · dsimp only [Pt.U, Pt.locs, Pt.cells, Pt.slots] at X' e1 e2 h1 h2 h3 st hcl
    subst h1; subst h2; subst h3
    exact Or.inr ⟨q, (T.setVm vm₁).calling g' mk (Value.ref b :: As).toArray, t, U', L, E, ce, hT, X', hL, e1, e2, hq, hce, hcv, vx_cls hW₁ hcl, st⟩
theorem vx_runSX {hh : List (Nat × Nat × Nat × Nat)} (S : CallFix p m c cc nL s args Ts own) (hM : vx_Met l y ws rm Pc Qc XC mc ms free) (cw : vx_CSW R s args own index y bytes maxL ret hh ws rm mc ms n) (hp : PreS s H Pc As)
    (hg : g.method = m) (hn : As.length = n) (hsize : g.locals.size = nL) (hstack : g.stack = As.reverse ++ rest) (hW : 2 * g.monitorRoom + (rest.map fun v => v.category).sum ≤ 8) (hdg : decode cc g.pc = .ok (.invokestatic index, 3)) (hf : cells + mc ≤ R.cells ∧ slots + ms ≤ R.slots) :
    vx_Run p l e R s m args below meth c H locs cells slots mc ms g rest (Qc As.toArray) XC free := by
  obtain ⟨⟨hrc, hrs, hfr, hlo, hws, hcw⟩, hcode, hini, hy, hlen, hl, hstt⟩ := cw
  have hK : vx_Back l R p e below s args y 3 8 (PreOf R mc ms Pc) (PostOf Qc mc ms free) (vx_Post XC mc ms free) := vx_backW (hh := hh) (bytes := bytes) (maxL := maxL) (ret := ret) hM hp.1 hrc hrs hfr hlo hws hcw (fun a' U hW => word_at hW (Or.inl (by first | rfl | simp [Cond.onTables, Cond.keeps, Cond.steady])) hini)
  obtain ⟨hx, hb, hml, ho, -⟩ := S
  intro T hT X
  rcases vx_callSX X hx (hh := hh) (bytes := bytes) (maxL := maxL) (ret := ret) ho hl hstt hini hcode hy hK hg (hsize.trans hml.symm) (argsL := As) (rest := rest) (fun sig h => hn.trans (hlen sig h)) hstack hW (by rw [hb]; exact hdg)
    (fun vm₁ hW₁ => ⟨hf.1, hf.2, hp.2 (T.setVm vm₁) hT hW₁⟩) with ⟨v, vm₁, ⟨U', l2, c2, s2⟩, hW₁, X', ⟨g', mk, t, L, e1, e2, hq, h1, hL, h2, h3⟩, st⟩ | ⟨q, vm₁, ⟨U', l2, c2, s2⟩, hW₁, X', ⟨g', mk, t, L, E, ce, e1, e2, hq, hce, hcv, hcl, h1, hL, h2, h3⟩, st⟩
  · dsimp only [Pt.U, Pt.locs, Pt.cells, Pt.slots] at X' e1 e2 h1 h2 h3 st
    subst h1; subst h2; subst h3
    exact Or.inl ⟨v, (T.setVm vm₁).calling g' mk As.toArray, t, U', L, hT, X', hL, e1, e2, hq, st⟩
  · dsimp only [Pt.U, Pt.locs, Pt.cells, Pt.slots] at X' e1 e2 h1 h2 h3 st hcl
    subst h1; subst h2; subst h3
    exact Or.inr ⟨q, (T.setVm vm₁).calling g' mk As.toArray, t, U', L, E, ce, hT, X', hL, e1, e2, hq, hce, hcv, vx_cls hW₁ hcl, st⟩
end
end VXH
theorem vx_ofWH {l : Launch} {y : MethodName} {ws ws' : List Cond} {rm : Room} {Pc : Array Value → State → Prop} {Qc : Array Value → State → Outcome → State → Prop} {XC : String → State → State → Prop} {mc ms : Nat} {free : Addr → Prop} {cc : ByteArray} {maxL : Nat} {ret : Option FieldType} {hh : List (Nat × Nat × Nat × Nat)}
    (hy : plainName y.cls = true) (hw : ws = Cond.codeWith y cc maxL ret hh :: ws')
    (body : ∀ p e s m args below meth c s₁, BodyLoose p l y (headSpec ws rm) cc maxL ret e s m args below meth c s₁ → c.maxLocals = maxL → Pc args s →
      W p l e (headSpec ws rm).room s m args below meth c s.heap [] 0 0 (vx_MQ below Qc XC args s mc ms free) (entryFrame m args maxL)) : vx_Met l y ws rm Pc Qc XC mc ms free := by
  refine MetFree.of_bodyS (code := cc) (maxLocals := maxL) (ret := ret) hy ?_ ?_
  · intro args s m h hn
    obtain ⟨m9, meth, c, hn9, h1, h2, h3, h4, -, h5, h6, -⟩ := Cond.codeWith_spec (atoms_spec (ws := ws) h _ (by rw [hw]; exact List.mem_cons_self))
    cases hn.symm.trans hn9
    exact ⟨meth, c, h1, h2, h3, h4, h5, h6⟩
  · intro p e s m args below meth c s₁ B hml hP _
    have hh0 : s₁.heap = s.heap := by rw [B.state]; rfl
    obtain ⟨t, a1, o, b1, b2, b3⟩ := body p e s m args below meth c s₁ B hml hP s₁ hh0 (Stand.of_body B)
    exact ⟨t, o, a1, b1, b2, b3⟩
/-! ===== END ===== -/
end
section
/-! my own names, written by program out of the Statement: words by their places, classes, methods, links -/
def rk_tbl : List Cond := lw_tbl.filter goodWord
theorem rk_good (w : Cond) (h : w ∈ rk_tbl) : (w.onTables && w.keeps) = true ∨ ∃ ty, w = .arrayClass ty := good_of_word (List.mem_filter.mp h).2
theorem in_t1 {w : Cond} (i : Nat) (h : tables_1_1[i]? = some w) (g : goodWord w = true) : w ∈ rk_tbl := by
  have q := List.mem_of_getElem? h
  exact List.mem_filter.mpr ⟨List.mem_append_right _ (show w ∈ tables_1_1 ++ (tables_1_2 ++ (tables_1_3 ++ (tables_1_4 ++ tables_1_5))) from List.mem_append_left _ q), g⟩
theorem in_t2 {w : Cond} (i : Nat) (h : tables_1_2[i]? = some w) (g : goodWord w = true) : w ∈ rk_tbl := by
  have q := List.mem_of_getElem? h
  exact List.mem_filter.mpr ⟨List.mem_append_right _ (show w ∈ tables_1_1 ++ (tables_1_2 ++ (tables_1_3 ++ (tables_1_4 ++ tables_1_5))) from List.mem_append_right _ (List.mem_append_left _ q)), g⟩
theorem in_t3 {w : Cond} (i : Nat) (h : tables_1_3[i]? = some w) (g : goodWord w = true) : w ∈ rk_tbl := by
  have q := List.mem_of_getElem? h
  exact List.mem_filter.mpr ⟨List.mem_append_right _ (show w ∈ tables_1_1 ++ (tables_1_2 ++ (tables_1_3 ++ (tables_1_4 ++ tables_1_5))) from List.mem_append_right _ (List.mem_append_right _ (List.mem_append_left _ q))), g⟩
theorem in_t4 {w : Cond} (i : Nat) (h : tables_1_4[i]? = some w) (g : goodWord w = true) : w ∈ rk_tbl := by
  have q := List.mem_of_getElem? h
  exact List.mem_filter.mpr ⟨List.mem_append_right _ (show w ∈ tables_1_1 ++ (tables_1_2 ++ (tables_1_3 ++ (tables_1_4 ++ tables_1_5))) from List.mem_append_right _ (List.mem_append_right _ (List.mem_append_right _ (List.mem_append_left _ q)))), g⟩
theorem in_t5 {w : Cond} (i : Nat) (h : tables_1_5[i]? = some w) (g : goodWord w = true) : w ∈ rk_tbl := by
  have q := List.mem_of_getElem? h
  exact List.mem_filter.mpr ⟨List.mem_append_right _ (show w ∈ tables_1_1 ++ (tables_1_2 ++ (tables_1_3 ++ (tables_1_4 ++ tables_1_5))) from List.mem_append_right _ (List.mem_append_right _ (List.mem_append_right _ (List.mem_append_right _ q)))), g⟩
theorem in_tp {w : Cond} (i : Nat) (h : (k2_sels lw_privs)[i]? = some w) (g : goodWord w = true) : w ∈ rk_tbl := List.mem_filter.mpr ⟨List.mem_append_left _ (List.mem_of_getElem? h), g⟩
def ttG : u_T := fun k => match k with
  | 0 => ("TensorForge$Graph", "nodes", "[LTensorForge$Node;", true)
  | 1 => ("TensorForge$Graph", "standsFor", "[I", true)
  | 2 => ("TensorForge$Graph", "state", "[I", true)
  | 3 => ("TensorForge$Graph", "step", "[I", true)
  | 4 => ("TensorForge$Graph", "place", "[I", true)
  | 5 => ("TensorForge$Graph", "count", "I", false)
  | 6 => ("TensorForge$Graph", "steps", "I", false)
  | 7 => ("TensorForge$Graph", "peak", "I", false)
  | _ => ("TensorForge$Graph", "lastStep", "[I", true)
def tyG : Nat → FieldType := fun k => match k with
  | 0 => (.array (.object "TensorForge$Node"))
  | 1 => (.array .int)
  | 2 => (.array .int)
  | 3 => (.array .int)
  | 4 => (.array .int)
  | 5 => .int
  | 6 => .int
  | 7 => .int
  | _ => (.array .int)
def ttM : u_T := fun k => match k with
  | 0 => ("TensorForge$Machine", "weightCells", "[I", true)
  | 1 => ("TensorForge$Machine", "cells", "[I", true)
  | 2 => ("TensorForge$Machine", "arenaCells", "I", false)
  | 3 => ("TensorForge$Machine", "resultPlace", "I", false)
  | 4 => ("TensorForge$Machine", "resultCells", "I", false)
  | 5 => ("TensorForge$Machine", "resultScale", "D", false)
  | 6 => ("TensorForge$Machine", "window", "LTensorForge$Window;", true)
  | 7 => ("TensorForge$Machine", "scaler", "LTensorForge$Scaler;", true)
  | _ => ("TensorForge$Machine", "otherScaler", "LTensorForge$Scaler;", true)
def tyM : Nat → FieldType := fun k => match k with
  | 0 => (.array .int)
  | 1 => (.array .int)
  | 2 => .int
  | 3 => .int
  | 4 => .int
  | 5 => .double
  | 6 => (.object "TensorForge$Window")
  | 7 => (.object "TensorForge$Scaler")
  | _ => (.object "TensorForge$Scaler")
def ttN : u_T := fun k => match k with
  | 0 => ("TensorForge$Node", "kind", "I", true)
  | 1 => ("TensorForge$Node", "one", "I", true)
  | 2 => ("TensorForge$Node", "other", "I", true)
  | 3 => ("TensorForge$Node", "h", "I", true)
  | 4 => ("TensorForge$Node", "w", "I", true)
  | 5 => ("TensorForge$Node", "c", "I", true)
  | 6 => ("TensorForge$Node", "cells", "I", true)
  | 7 => ("TensorForge$Node", "scale", "D", true)
  | 8 => ("TensorForge$Node", "fed", "[I", true)
  | 9 => ("TensorForge$Node", "code", "I", false)
  | 10 => ("TensorForge$Node", "offset", "I", false)
  | 11 => ("TensorForge$Node", "weightScale", "D", false)
  | 12 => ("TensorForge$Node", "low", "I", false)
  | 13 => ("TensorForge$Node", "high", "I", false)
  | 14 => ("TensorForge$Node", "ratio", "D", false)
  | _ => ("TensorForge$Node", "otherRatio", "D", false)
def tyN : Nat → FieldType := fun k => match k with
  | 0 => .int
  | 1 => .int
  | 2 => .int
  | 3 => .int
  | 4 => .int
  | 5 => .int
  | 6 => .int
  | 7 => .double
  | 8 => (.array .int)
  | 9 => .int
  | 10 => .int
  | 11 => .double
  | 12 => .int
  | 13 => .int
  | 14 => .double
  | _ => .double
def ttS : u_T := fun k => match k with
  | 0 => ("TensorForge$Scaler", "multiplier", "J", false)
  | _ => ("TensorForge$Scaler", "shift", "I", false)
def tyS : Nat → FieldType := fun k => match k with
  | 0 => .long
  | _ => .int
def ttW : u_T := fun k => match k with
  | 0 => ("TensorForge$Window", "k", "I", false)
  | 1 => ("TensorForge$Window", "top", "I", false)
  | 2 => ("TensorForge$Window", "left", "I", false)
  | 3 => ("TensorForge$Window", "firstRow", "I", false)
  | 4 => ("TensorForge$Window", "endRow", "I", false)
  | 5 => ("TensorForge$Window", "firstColumn", "I", false)
  | 6 => ("TensorForge$Window", "endColumn", "I", false)
  | 7 => ("TensorForge$Window", "step", "I", false)
  | 8 => ("TensorForge$Window", "rows", "I", false)
  | 9 => ("TensorForge$Window", "columns", "I", false)
  | 10 => ("TensorForge$Window", "rowsBefore", "I", false)
  | _ => ("TensorForge$Window", "columnsBefore", "I", false)
def tyW : Nat → FieldType := fun k => match k with
  | 0 => .int
  | 1 => .int
  | 2 => .int
  | 3 => .int
  | 4 => .int
  | 5 => .int
  | 6 => .int
  | 7 => .int
  | 8 => .int
  | 9 => .int
  | 10 => .int
  | _ => .int
def ttT : u_T := fun k => match k with
  | 0 => ("TensorForge", "graph", "LTensorForge$Graph;", true)
  | 1 => ("TensorForge", "machine", "LTensorForge$Machine;", true)
  | 2 => ("TensorForge", "currentWeightScale", "D", false)
  | 3 => ("TensorForge", "outputNode", "I", false)
  | _ => ("TensorForge", "compiled", "Z", false)
def tyT : Nat → FieldType := fun k => match k with
  | 0 => (.object "TensorForge$Graph")
  | 1 => (.object "TensorForge$Machine")
  | 2 => .double
  | 3 => .int
  | _ => .boolean
def ttR : u_T := fun k => match k with
  | 0 => ("TensorForgeModel", "failed", "I", false)
  | 1 => ("TensorForgeModel", "weight", "[I", true)
  | 2 => ("TensorForgeModel", "weightScale", "D", false)
  | 3 => ("TensorForgeModel", "kind", "[I", true)
  | 4 => ("TensorForgeModel", "one", "[I", true)
  | 5 => ("TensorForgeModel", "two", "[I", true)
  | 6 => ("TensorForgeModel", "high", "[I", true)
  | 7 => ("TensorForgeModel", "wide", "[I", true)
  | 8 => ("TensorForgeModel", "deep", "[I", true)
  | 9 => ("TensorForgeModel", "scale", "[D", true)
  | 10 => ("TensorForgeModel", "nodeWeightScale", "[D", true)
  | 11 => ("TensorForgeModel", "code", "[I", true)
  | 12 => ("TensorForgeModel", "offset", "[I", true)
  | 13 => ("TensorForgeModel", "low", "[I", true)
  | 14 => ("TensorForgeModel", "top", "[I", true)
  | 15 => ("TensorForgeModel", "cell", "[I", true)
  | 16 => ("TensorForgeModel", "fed", "[I", true)
  | 17 => ("TensorForgeModel", "nodes", "I", false)
  | 18 => ("TensorForgeModel", "output", "I", false)
  | 19 => ("TensorForgeModel", "compiled", "Z", false)
  | 20 => ("TensorForgeModel", "stands", "[I", true)
  | 21 => ("TensorForgeModel", "role", "[I", true)
  | 22 => ("TensorForgeModel", "step", "[I", true)
  | 23 => ("TensorForgeModel", "last", "[I", true)
  | 24 => ("TensorForgeModel", "place", "[I", true)
  | 25 => ("TensorForgeModel", "steps", "I", false)
  | 26 => ("TensorForgeModel", "peak", "I", false)
  | 27 => ("TensorForgeModel", "arena", "[I", true)
  | 28 => ("TensorForgeModel", "arenaSize", "I", false)
  | 29 => ("TensorForgeModel", "shown", "[I", true)
  | 30 => ("TensorForgeModel", "shownSize", "I", false)
  | _ => ("TensorForgeModel", "shownScale", "D", false)
def tyR : Nat → FieldType := fun k => match k with
  | 0 => .int
  | 1 => (.array .int)
  | 2 => .double
  | 3 => (.array .int)
  | 4 => (.array .int)
  | 5 => (.array .int)
  | 6 => (.array .int)
  | 7 => (.array .int)
  | 8 => (.array .int)
  | 9 => (.array .double)
  | 10 => (.array .double)
  | 11 => (.array .int)
  | 12 => (.array .int)
  | 13 => (.array .int)
  | 14 => (.array .int)
  | 15 => (.array .int)
  | 16 => (.array .int)
  | 17 => .int
  | 18 => .int
  | 19 => .boolean
  | 20 => (.array .int)
  | 21 => (.array .int)
  | 22 => (.array .int)
  | 23 => (.array .int)
  | 24 => (.array .int)
  | 25 => .int
  | 26 => .int
  | 27 => (.array .int)
  | 28 => .int
  | 29 => (.array .int)
  | 30 => .int
  | _ => .double
abbrev vwCl : List vw_C := [("TensorForge$Graph", ttG, 9), ("TensorForge$Machine", ttM, 9), ("TensorForge$Node", ttN, 16), ("TensorForge$Scaler", ttS, 2), ("TensorForge$Window", ttW, 12), ("TensorForge", ttT, 5), ("TensorForgeModel", ttR, 32)]
def rk_ty : List FieldType := [.int, .long, .double, .object "TensorForge$Node"]
def rk_str : List (String × Nat × String) := [("TensorForge", 224, "an argument is out of range or does not go with the others"), ("TensorForge", 247, "all nodes are there"), ("TensorForge", 244, "a ratio is not good"), ("TensorForge", 146, "there is no output"), ("TensorForge", 249, "not compiled"), ("TensorForge", 171, "the arena is below the peak"), ("TensorForge", 253, "no such cell, step or place")]
def rk_sta : List (String × String × String) := [("java/lang/Throwable", "UNASSIGNED_STACK", "[Ljava/lang/StackTraceElement;"), ("java/lang/Throwable", "SUPPRESSED_SENTINEL", "Ljava/util/List;")]
def rk_exc : List String := ["java/lang/IllegalArgumentException", "java/lang/IllegalStateException", "java/lang/ArithmeticException", "java/lang/UnsupportedOperationException", "java/util/NoSuchElementException"]
def rk_ncp : List (String × String) := [("java/lang/IllegalArgumentException", "java/lang/IllegalStateException"), ("java/lang/IllegalArgumentException", "java/lang/ArithmeticException"), ("java/lang/IllegalArgumentException", "java/lang/UnsupportedOperationException"), ("java/lang/IllegalArgumentException", "java/util/NoSuchElementException"), ("java/lang/IllegalStateException", "java/lang/IllegalArgumentException"), ("java/lang/IllegalStateException", "java/lang/ArithmeticException"), ("java/lang/IllegalStateException", "java/lang/UnsupportedOperationException"), ("java/lang/IllegalStateException", "java/util/NoSuchElementException"), ("java/lang/ArithmeticException", "java/lang/IllegalArgumentException"), ("java/lang/ArithmeticException", "java/lang/IllegalStateException"), ("java/lang/ArithmeticException", "java/lang/UnsupportedOperationException"), ("java/lang/ArithmeticException", "java/util/NoSuchElementException"), ("java/lang/UnsupportedOperationException", "java/lang/IllegalArgumentException"), ("java/lang/UnsupportedOperationException", "java/lang/IllegalStateException"), ("java/lang/UnsupportedOperationException", "java/lang/ArithmeticException"), ("java/lang/UnsupportedOperationException", "java/util/NoSuchElementException"), ("java/util/NoSuchElementException", "java/lang/IllegalArgumentException"), ("java/util/NoSuchElementException", "java/lang/IllegalStateException"), ("java/util/NoSuchElementException", "java/lang/ArithmeticException"), ("java/util/NoSuchElementException", "java/lang/UnsupportedOperationException")]
def rk_nst : List Cond := [.methodLinkNest "TensorForge$Machine" 20 ⟨"TensorForge$Window", "<init>", "()V"⟩ "TensorForge", .methodLinkNest "TensorForge$Machine" 27 ⟨"TensorForge$Scaler", "<init>", "()V"⟩ "TensorForge", .castable "java/lang/IllegalArgumentException" "java/lang/IllegalArgumentException", .castable "java/lang/IllegalStateException" "java/lang/IllegalStateException", .castable "java/lang/ArithmeticException" "java/lang/ArithmeticException", .castable "java/lang/UnsupportedOperationException" "java/lang/UnsupportedOperationException", .castable "java/util/NoSuchElementException" "java/util/NoSuchElementException", .declares ⟨"java/lang/RuntimeException", "<init>", "()V"⟩, .declares ⟨"java/lang/RuntimeException", "<init>", "(Ljava/lang/String;)V"⟩, .declares ⟨"java/lang/Exception", "<init>", "()V"⟩, .declares ⟨"java/lang/Exception", "<init>", "(Ljava/lang/String;)V"⟩, .declares ⟨"java/lang/Throwable", "<init>", "()V"⟩, .declares ⟨"java/lang/Throwable", "<init>", "(Ljava/lang/String;)V"⟩]
def rk_nk : Cond → Bool
  | .methodLinkNest .. => true
  | .castable .. => true
  | .declares .. => true
  | _ => false
theorem rk_nst_k : ∀ w ∈ rk_nst, rk_nk w = true := by decide +kernel
theorem rk_nst_on (w : Cond) (h : w ∈ rk_nst) : w.onTables = true := by
  have k := rk_nst_k w h
  cases w <;> first | (cases k; done) | rfl
theorem rk_nst_warm (w : Cond) (h : w ∈ rk_nst) {s U : State} (hW : s.WarmedH U.vm) (hZ : va_Nw w s) : va_Nw w U := by
  have k := rk_nst_k w h
  cases w <;> first | (cases k; done) | exact va_Nw.warmM hW hZ | exact va_Nw.warmC hW hZ | exact va_Nw.warmD hW hZ
end
section
/-! THE MACHINE IN MY OWN WORDS. A heap picture by addresses (rk_H); a method's body (rk_Run); a method (rk_Con); nothing of the machine's context in either. -/
abbrev rk_E : Type := (Nat × vp_A) ⊕ (Nat × List Value) ⊕ (Nat × (Nat → Int32))
/-- an object; an int array; the script, which nobody writes -/
abbrev oB (ci : Nat) (fs : List Value) : rk_E := .inr (.inl (ci, fs))
abbrev iA (n : Nat) (f : Nat → Int32) : rk_E := .inl (0, n, .inl f)
abbrev lA (n : Nat) (f : Nat → Int64) : rk_E := .inl (1, n, .inr (.inl f))
abbrev dA (n : Nat) (f : Nat → UInt64) : rk_E := .inl (2, n, .inr (.inr (.inr (.inl f))))
abbrev qA (n : Nat) (f : Nat → Option Nat) : rk_E := .inl (3, n, .inr (.inr (.inr (.inr f))))
abbrev sA (n : Nat) (f : Nat → Int32) : rk_E := .inr (.inr (n, f))
def rk_ro : rk_E → Bool
  | .inl _ => false
  | .inr (.inl _) => false
  | .inr (.inr _) => true
abbrev rk_H : Type := Nat → Option rk_E
/-- what a call answers: a value or none, or the name of the class that was thrown -/
abbrev rk_O : Type := Option Value ⊕ String
/-- the world's constants: where the new cells begin; the classes' numbers and slots; the array classes' numbers -/
abbrev rk_G : Type := Nat × va_G × (Nat → ClassId)
/-- a method: its name, bytes, locals, what it returns, its handlers with the names of what they catch -/
abbrev rk_M : Type := MethodName × ByteArray × Nat × Option FieldType × List (Nat × Nat × Nat × Nat × String)
abbrev rk_P : Type := rk_O → rk_H → Prop
def rk_hh (M : rk_M) : List (Nat × Nat × Nat × Nat) := M.2.2.2.2.map (fun q => (q.1, q.2.1, q.2.2.1, q.2.2.2.1))
def rk_wd (M : rk_M) : Cond := match M.2.2.2.2 with
  | [] => .code M.1 M.2.1 M.2.2.1 M.2.2.2.1
  | _ :: _ => .codeWith M.1 M.2.1 M.2.2.1 M.2.2.2.1 (rk_hh M)
def rk_at (G : rk_G) (a : Nat) (e : rk_E) (H : Heap) : Prop := match e with
  | .inl q => H[a]? = some (vp_cell (G.2.2 q.1) q.2)
  | .inr (.inl o) => ∃ r : vw_C, vwCl[o.1]? = some r ∧ t_OB a (G.2.1.1 o.1) r.2.2 (G.2.1.2 o.1) H (vp_V o.2)
  | .inr (.inr x) => ∃ cell : Cell, H[a]? = some cell ∧ cell.cls = G.2.2 0 ∧ (∀ k, cell.vm ≠ .statics k) ∧ cell.vm ≠ .unknown ∧ cell.slots.size = x.1 ∧ ∀ j : Nat, j < x.1 → cell.slots[j]? = some (.int (x.2 j))
def rk_R (G : rk_G) (h : rk_H) (H : Heap) : Prop := ∀ (a : Nat) (e : rk_E), h a = some e → (rk_ro e = true ∨ G.1 ≤ a) ∧ rk_at G a e H
theorem rk_R.wr {G : rk_G} {h : rk_H} {H : Heap} (hR : rk_R G h H) {a : Nat} {e : rk_E} (he : h a = some e) (hr : rk_ro e = false) : G.1 ≤ a := (hR a e he).1.resolve_left (fun q => by rw [hr] at q; cases q)
def rk_S (G : rk_G) (H0 H : Heap) : Prop := (G.1 ≤ H.size ∧ H0.size ≤ H.size) ∧ ∀ q : Nat, q < G.1 → H[q]? = H0[q]?
def rk_up (h : rk_H) (a : Nat) (e : rk_E) : rk_H := fun q => if q = a then some e else h q
theorem rk_up_s {h : rk_H} {a : Nat} {e : rk_E} : rk_up h a e a = some e := by unfold rk_up; rw [if_pos rfl]
theorem rk_up_n {h : rk_H} {a q : Nat} {e : rk_E} (hq : q ≠ a) : rk_up h a e q = h q := by unfold rk_up; rw [if_neg hq]
theorem rk_up_k {h : rk_H} {a q : Nat} {e : rk_E} {r : Option rk_E} (hq : q ≠ a) (h1 : h q = r) : rk_up h a e q = r := by rw [rk_up_n hq]; exact h1
theorem rk_ne {h : rk_H} {a b : Nat} {e : rk_E} (ha : h a = some e) (hb : h b = none) : a ≠ b := fun q => by rw [q, hb] at ha; cases ha
theorem rk_at.kept {G : rk_G} {a : Nat} {e : rk_E} {H H1 : Heap} (h : rk_at G a e H) (h1 : H1[a]? = H[a]?) : rk_at G a e H1 := by
  match e, h with
  | .inl q, h => show H1[a]? = _; rw [h1]; exact h
  | .inr (.inl o), ⟨r, hr, ob⟩ => exact ⟨r, hr, ob.kept h1⟩
  | .inr (.inr x), ⟨c0, hc, hr⟩ => exact ⟨c0, by rw [h1]; exact hc, hr⟩
theorem rk_at.lt {G : rk_G} {a : Nat} {e : rk_E} {H : Heap} (h : rk_at G a e H) : a < H.size := by
  match e, h with
  | .inl q, h => exact (Array.getElem?_eq_some_iff.mp (show H[a]? = some _ from h)).1
  | .inr (.inl o), ⟨r, hr, c0, q1, _⟩ => exact (Array.getElem?_eq_some_iff.mp q1).1
  | .inr (.inr x), ⟨c0, hc, hr⟩ => exact (Array.getElem?_eq_some_iff.mp hc).1
theorem rk_R.lt {G : rk_G} {h : rk_H} {H : Heap} (hR : rk_R G h H) {a : Nat} {e : rk_E} (he : h a = some e) : a < H.size := (hR a e he).2.lt
theorem rk_R.fresh {G : rk_G} {h : rk_H} {H : Heap} (hR : rk_R G h H) : h H.size = none := by
  cases hx : h H.size with
  | none => rfl
  | some e => exact absurd (hR.lt hx) (Nat.lt_irrefl _)
theorem rk_R.set {G : rk_G} {h : rk_H} {H H1 : Heap} (hR : rk_R G h H) {a : Nat} {e : rk_E} (hB : G.1 ≤ a) (h1 : rk_at G a e H1) (ho : ∀ q : Nat, q ≠ a → H1[q]? = H[q]?) : rk_R G (rk_up h a e) H1 := by
  intro q e' hq
  by_cases hqa : q = a
  · subst hqa
    rw [rk_up_s] at hq
    cases hq
    exact ⟨Or.inr hB, h1⟩
  · rw [rk_up_n hqa] at hq
    exact ⟨(hR q e' hq).1, (hR q e' hq).2.kept (ho q hqa)⟩
theorem rk_R.kept {G : rk_G} {h : rk_H} {H H1 : Heap} (hR : rk_R G h H) (ho : ∀ q : Nat, q < H.size → H1[q]? = H[q]?) : rk_R G h H1 := fun q e hq => ⟨(hR q e hq).1, (hR q e hq).2.kept (ho q (hR.lt hq))⟩
theorem rk_R.push {G : rk_G} {h : rk_H} {H H1 : Heap} (hR : rk_R G h H) (hB : G.1 ≤ H.size) {e : rk_E} (h1 : rk_at G H.size e H1) (ho : ∀ q : Nat, q < H.size → H1[q]? = H[q]?) : rk_R G (rk_up h H.size e) H1 := by
  intro q e' hq
  by_cases hqa : q = H.size
  · subst hqa
    rw [rk_up_s] at hq
    cases hq
    exact ⟨Or.inr hB, h1⟩
  · rw [rk_up_n hqa] at hq
    exact ⟨(hR q e' hq).1, (hR q e' hq).2.kept (ho q (hR.lt hq))⟩
theorem rk_S.put {G : rk_G} {H0 H H1 : Heap} (h : rk_S G H0 H) (z : H1.size = H.size) {a : Nat} (ho : ∀ q : Nat, q ≠ a → H1[q]? = H[q]?) (ha : G.1 ≤ a) : rk_S G H0 H1 :=
  ⟨by rw [z]; exact h.1, fun q hq => by rw [ho q (fun e => by omega)]; exact h.2 q hq⟩
theorem rk_S.push {G : rk_G} {H0 H H1 : Heap} (h : rk_S G H0 H) (z : H1.size = H.size + 1) (ho : ∀ q : Nat, q < H.size → H1[q]? = H[q]?) : rk_S G H0 H1 :=
  ⟨by rw [z]; exact ⟨Nat.le_succ_of_le h.1.1, Nat.le_succ_of_le h.1.2⟩, fun q hq => by rw [ho q (Nat.lt_of_lt_of_le hq h.1.1)]; exact h.2 q hq⟩
theorem rk_S.trans {G : rk_G} {H0 H H1 : Heap} (h : rk_S G H0 H) (h1 : rk_S G H H1) : rk_S G H0 H1 :=
  ⟨⟨h1.1.1, Nat.le_trans h.1.2 h1.1.2⟩, fun q hq => by rw [h1.2 q hq]; exact h.2 q hq⟩
theorem rk_S.rf {G : rk_G} {H : Heap} (h : G.1 ≤ H.size) : rk_S G H H := ⟨⟨h, Nat.le_refl _⟩, fun _ _ => rfl⟩
/-- what is known of the tables, of the constant texts and of Throwable's statics, at a state -/
def rk_K (G : rk_G) (U : State) : Prop :=
  (∀ (c : Nat) (q : vw_C), vwCl[c]? = some q → u_Kn U q.1 q.2.1 q.2.2 (G.2.1.1 c) (G.2.1.2 c)) ∧
  (∀ (k : Nat) (ty : FieldType), rk_ty[k]? = some ty → ArrOfT U (G.2.2 k) ty ∧ va_RA U (G.2.2 k) ty) ∧
  (∀ q ∈ rk_str, ∃ a : Nat, vk_R q.1 q.2.1 q.2.2 a U) ∧
  (∀ q ∈ rk_sta, vx_Zq q.1 q.2.1 q.2.2 (fun x => G.1 ≤ x) U U.heap) ∧
  (∀ w ∈ rk_nst, va_Nw w U) ∧
  (∀ q ∈ rk_ncp, va_Nc q.1 q.2 U) ∧ va_AO "TensorForge$Node" U
/-- the locals: what is known of each place -/
def rk_prs : Nat → List (Option Value) → List (Nat × Value)
  | _, [] => []
  | i, none :: t => rk_prs (i + 1) t
  | i, some v :: t => (i, v) :: rk_prs (i + 1) t
theorem rk_prs_in {lv : List (Option Value)} : ∀ {i j : Nat} {v : Value}, (j, v) ∈ rk_prs i lv ↔ ∃ k : Nat, j = i + k ∧ lv[k]? = some (some v) := by
  induction lv with
  | nil => intro i j v; simp [rk_prs]
  | cons o t ih =>
    intro i j v
    cases o with
    | none =>
      simp only [rk_prs]
      rw [ih]
      constructor
      · rintro ⟨k, rfl, hk⟩
        exact ⟨k + 1, by omega, by simpa using hk⟩
      · rintro ⟨k, rfl, hk⟩
        cases k with
        | zero => simp at hk
        | succ k => exact ⟨k, by omega, by simpa using hk⟩
    | some w =>
      simp only [rk_prs, List.mem_cons]
      rw [ih]
      constructor
      · rintro (h | ⟨k, rfl, hk⟩)
        · cases h
          exact ⟨0, by omega, by simp⟩
        · exact ⟨k + 1, by omega, by simpa using hk⟩
      · rintro ⟨k, rfl, hk⟩
        cases k with
        | zero =>
          left
          simp at hk
          simp [hk]
        | succ k => right; exact ⟨k, by omega, by simpa using hk⟩
theorem rk_prs_at {lv : List (Option Value)} {j : Nat} {v : Value} : (j, v) ∈ rk_prs 0 lv ↔ lv[j]? = some (some v) := by
  rw [rk_prs_in]
  constructor
  · rintro ⟨k, rfl, hk⟩; simpa using hk
  · intro h; exact ⟨j, by omega, h⟩
def rk_cut (lv : List (Option Value)) (i : Nat) : List (Option Value) := match i with
  | 0 => lv
  | j + 1 => match lv[j]? with
    | some (some w) => if w.category = 2 then lv.set j none else lv
    | _ => lv
def rk_st1 (lv : List (Option Value)) (i : Nat) (v : Value) : List (Option Value) := (rk_cut lv i).set i (some v)
def rk_st2 (lv : List (Option Value)) (i : Nat) (v : Value) : List (Option Value) := ((rk_cut lv i).set i (some v)).set (i + 1) none
theorem rk_cut_at {lv : List (Option Value)} {i j : Nat} {w : Value} (h : (rk_cut lv i)[j]? = some (some w)) : lv[j]? = some (some w) ∧ ¬ (j + 1 = i ∧ w.category = 2) := by
  unfold rk_cut at h
  cases i with
  | zero => exact ⟨h, by omega⟩
  | succ i =>
    dsimp only at h
    split at h
    · next w' hw' =>
      by_cases hc : w'.category = 2
      · rw [if_pos hc] at h
        rw [List.getElem?_set] at h
        by_cases hij : i = j
        · subst hij
          simp at h
        · rw [if_neg hij] at h
          exact ⟨h, by omega⟩
      · rw [if_neg hc] at h
        refine ⟨h, fun q => ?_⟩
        have hij : j = i := by omega
        subst hij
        rw [h] at hw'
        cases hw'
        exact hc q.2
    · next hne =>
      refine ⟨h, fun q => ?_⟩
      have hij : j = i := by omega
      subst hij
      exact hne w h
theorem rk_st1_at {lv : List (Option Value)} {i j : Nat} {v w : Value} (h : (rk_st1 lv i v)[j]? = some (some w)) : (j, w) ∈ (i, v) :: (rk_prs 0 lv).filter (fun q => !(q.1 == i) && !(q.1 + 1 == i && q.2.category == 2)) := by
  unfold rk_st1 at h
  rw [List.getElem?_set] at h
  by_cases hij : i = j
  · subst hij
    rw [if_pos rfl] at h
    split at h
    · cases h; exact List.mem_cons_self
    · cases h
  · rw [if_neg hij] at h
    obtain ⟨h1, h2⟩ := rk_cut_at h
    refine List.mem_cons_of_mem _ (List.mem_filter.mpr ⟨rk_prs_at.mpr h1, ?_⟩)
    simp only [Bool.and_eq_true, Bool.not_eq_true', beq_eq_false_iff_ne, ne_eq, Bool.and_eq_false_iff]
    refine ⟨fun q => hij q.symm, ?_⟩
    by_cases hz : j + 1 = i
    · right; exact fun q => h2 ⟨hz, q⟩
    · left; exact hz
theorem rk_st2_at {lv : List (Option Value)} {i j : Nat} {v w : Value} (h : (rk_st2 lv i v)[j]? = some (some w)) : (j, w) ∈ (i, v) :: (rk_prs 0 lv).filter (fun q => !(q.1 == i) && (!(q.1 == i + 1) && !(q.1 + 1 == i && q.2.category == 2))) := by
  unfold rk_st2 at h
  rw [List.getElem?_set] at h
  by_cases h3 : i + 1 = j
  · subst h3
    rw [if_pos rfl] at h
    split at h
    · cases h
    · cases h
  · rw [if_neg h3] at h
    rw [List.getElem?_set] at h
    by_cases hij : i = j
    · subst hij
      rw [if_pos rfl] at h
      split at h
      · cases h; exact List.mem_cons_self
      · cases h
    · rw [if_neg hij] at h
      obtain ⟨h1, h2⟩ := rk_cut_at h
      refine List.mem_cons_of_mem _ (List.mem_filter.mpr ⟨rk_prs_at.mpr h1, ?_⟩)
      simp only [Bool.and_eq_true, Bool.not_eq_true', beq_eq_false_iff_ne, ne_eq, Bool.and_eq_false_iff]
      refine ⟨fun q => hij q.symm, fun q => h3 q.symm, ?_⟩
      by_cases hz : j + 1 = i
      · right; exact fun q => h2 ⟨hz, q⟩
      · left; exact hz
def rk_L (ls : Array Slot) (nL : Nat) (lv : List (Option Value)) : Prop := lv_has ls nL (rk_prs 0 lv)
theorem rk_L.at {ls : Array Slot} {nL i : Nat} {lv : List (Option Value)} {v : Value} (h : rk_L ls nL lv) (hv : lv[i]? = some (some v)) : ls[i]? = some (.val v) := h.2.2 (i, v) (rk_prs_at.mpr hv)
theorem rk_L.of {ls : Array Slot} {nL : Nat} {lv : List (Option Value)} {l : List (Nat × Value)} (h : lv_has ls nL l) (hs : ∀ (j : Nat) (w : Value), lv[j]? = some (some w) → (j, w) ∈ l) : rk_L ls nL lv :=
  ⟨h.1, h.2.1, fun q hq => h.2.2 q (hs q.1 q.2 (rk_prs_at.mp hq))⟩
/-- fewer places -/
def rk_le : List (Option Value) → List (Option Value) → Prop
  | [], _ => True
  | none :: t, l => rk_le t l.tail
  | some v :: t, l => l.head? = some (some v) ∧ rk_le t l.tail
theorem rk_le_at {a : List (Option Value)} : ∀ {b : List (Option Value)}, rk_le a b → ∀ {j : Nat} {w : Value}, a[j]? = some (some w) → b[j]? = some (some w) := by
  induction a with
  | nil => intro b _ j w h; simp at h
  | cons o t ih =>
    intro b h j w hj
    cases o with
    | none =>
      cases j with
      | zero => simp at hj
      | succ j =>
        have := ih (b := b.tail) h (j := j) (w := w) (by simpa using hj)
        rw [List.getElem?_tail] at this
        exact this
    | some v =>
      cases j with
      | zero =>
        simp at hj
        subst hj
        rw [← List.head?_eq_getElem?]
        exact h.1
      | succ j =>
        have := ih (b := b.tail) h.2 (j := j) (w := w) (by simpa using hj)
        rw [List.getElem?_tail] at this
        exact this
/-- what came out, and where -/
def rk_out (r : rk_O) (o : Outcome) (t : State) : Prop := match r with
  | .inl v => o = .returned v
  | .inr C => ∃ (x : Addr) (cell : Cell), o = .threw x ∧ t.heap[x]? = some cell ∧ cell.vm = .none ∧ t.vm.findClass C = some cell.cls
/-- a method's bounds: frames and words above it, the cells and slots that it may make -/
abbrev rk_B : Type := Nat × Nat × Nat × Nat
/-- how far it is: the cells and slots made -/
abbrev rk_U : Type := Nat × Nat
def rk_end (P : rk_P) (G : rk_G) (s : State) (o : Outcome) (t : State) : Prop := (∃ (r : rk_O) (h : rk_H), rk_out r o t ∧ P r h ∧ rk_R G h t.heap) ∧ rk_S G s.heap t.heap
def rk_Q (P : rk_P) (G : rk_G) (B : rk_B) (s : State) (below : List Frame) : State → Prop := fun t =>
  ∃ o, t.status = .running ∧ Ended t below o ∧ rk_end P G s o t ∧ ∃ L : List Loc, (s.WarmedH t.vm ∧ s.sameButNew ({ t with vm := s.vm } : State) L B.2.2.1 B.2.2.2) ∧ ∀ q ∈ L, G.1 ≤ q.base
def rk_lok (l : Launch) : Prop := l.stackTraces = false
def rk_Cx (M : rk_M) (B : rk_B) (l : Launch) (p : Program) (e : Env) (R : Room) (s : State) (m : MethodId) (args : Array Value) (meth : Method) (c : Code) (G : rk_G) : Prop :=
  p.tables.exec = Jvm.exec ∧ c.code = M.2.1 ∧ c.maxLocals = M.2.2.1 ∧ meth.sig.returnType = M.2.2.2.1 ∧ meth.locks = false ∧ s.vm.findClass M.1.cls = some m.cls ∧ (∀ w ∈ rk_tbl, w.before args s = true) ∧ rk_K G s ∧
  c.exceptionTable.toList = tableOf (rk_hh M) ∧ B.1 ≤ R.frames ∧ B.2.1 ≤ R.locals ∧ B.2.2.1 ≤ R.cells ∧ B.2.2.2 ≤ R.slots ∧ meth.name = M.1.name ∧ rk_lok l
def rk_Run (M : rk_M) (B : rk_B) (P : rk_P) (pc : Nat) (lv : List (Option Value)) (st : List Value) (h : rk_H) (u : rk_U) : Prop :=
  ∀ (l : Launch) (p : Program) (e : Env) (R : Room) (s : State) (m : MethodId) (args : Array Value) (below : List Frame) (meth : Method) (c : Code) (G : rk_G) (H : Heap) (locs : List Loc) (ls : Array Slot),
    rk_Cx M B l p e R s m args meth c G → rk_R G h H → rk_S G s.heap H → (∀ q ∈ locs, G.1 ≤ q.base) → rk_L ls M.2.2.1 lv →
    W p l e R s m args below meth c H locs u.1 u.2 (rk_Q P G B s below) (F0 m pc ls st)
/-- A METHOD: from the arguments and the picture, within its bounds -/
def rk_Con (M : rk_M) (B : rk_B) (as : List Value) (h : rk_H) (P : rk_P) : Prop :=
  ∀ (l : Launch) (G : rk_G), rk_lok l → MetFree l M.1 (headSpec (rk_wd M :: rk_tbl) { frames := B.1, cells := B.2.2.1, slots := B.2.2.2, locals := B.2.1 })
    (fun a U => a = as.toArray ∧ G.1 ≤ U.heap.size ∧ rk_R G h U.heap ∧ rk_K G U) (fun _ _ _ _ _ => True)
    (fun _ st o t => rk_end P G st o t ∧ ∃ L : List Loc, (st.WarmedH t.vm ∧ st.sameButNew ({ t with vm := st.vm } : State) L B.2.2.1 B.2.2.2) ∧ ∀ q ∈ L, G.1 ≤ q.base)
theorem rk_Wmono {p : Program} {l : Launch} {e : Env} {R : Room} {s : State} {m : MethodId} {args : Array Value} {below : List Frame} {meth : Method} {c : Code} {H : Heap} {locs : List Loc} {cells slots : Nat} {Q Q' : State → Prop} {g : JFrame} (hq : ∀ t, Q t → Q' t) (w : W p l e R s m args below meth c H locs cells slots Q g) : W p l e R s m args below meth c H locs cells slots Q' g := by
  intro T hT X
  obtain ⟨t, a, b⟩ := w T hT X
  exact ⟨t, a, hq t b⟩
theorem rk_MQ {P : rk_P} {G : rk_G} {B : rk_B} {s : State} {below : List Frame} {args : Array Value} : ∀ t, MQ below (fun _ st o t => rk_end P G st o t) args s B.2.2.1 B.2.2.2 (fun q => G.1 ≤ q) t → rk_Q P G B s below t := by
  rintro t ⟨o, h1, h2, h3, L, ⟨-, h4, h5⟩, h6⟩
  exact ⟨o, h1, h2, h3, L, ⟨h4, h5⟩, h6⟩
/-- the state behind: what is known stays known -/
theorem rk_K.next {G : rk_G} {s U : State} (hK : rk_K G s) (hW : s.WarmedH U.vm) (hS : rk_S G s.heap U.heap) : rk_K G U := by
  obtain ⟨h1, h2, h3, h4, h5, h6, h7⟩ := hK
  refine ⟨fun c q hq => u_Kn_moved hW.alike (h1 c q hq), fun k ty hk => ⟨?_, va_RA.moved hW.alike (h2 k ty hk).2⟩, fun q hq => ?_, fun q hq => ?_, fun w hw => ?_, fun q hq => va_Nc.moved hW.alike (h6 q hq), va_AO.moved hW.alike h7⟩
  · exact fun N z => State.isArrayOf_alike hW.alike ((h2 k ty hk).1 N z)
  · obtain ⟨a, ha⟩ := h3 q hq
    exact ⟨a, vk_R.warm hW ha⟩
  · exact (vx_Zq.moved hW.alike (h4 q hq)).kept (fun x _ hx => hS.2 x (Nat.not_le.mp hx))
  · exact rk_nst_warm w hw hW (h5 w hw)
theorem rk_cast {G : rk_G} {s : State} {args : Array Value} (E : String) (hE : E ∈ rk_exc) (hK : rk_K G s) : (Cond.castable E E).before args s = true := by
  have h : Cond.castable E E ∈ rk_nst := by
    have hall : ∀ E ∈ rk_exc, Cond.castable E E ∈ rk_nst := by decide +kernel
    exact hall E hE
  exact va_Nw.use rfl (hK.2.2.2.2.1 _ h)
theorem rk_ncst {G : rk_G} {s : State} (E : String) (hE : E ∈ rk_exc) (F : String) (hF : F ∈ rk_exc) (hne : E ≠ F) (hK : rk_K G s) : va_Nc E F s := by
  have hall : ∀ E ∈ rk_exc, ∀ F ∈ rk_exc, E ≠ F → (E, F) ∈ rk_ncp := by decide +kernel
  exact hK.2.2.2.2.2.1 (E, F) (hall E hE F hF hne)
theorem rk_Con.of {M : rk_M} {B : rk_B} {as : List Value} {h : rk_H} {P : rk_P} (lv : List (Option Value)) (hl : rk_prs 0 lv = lv_args 0 as) (hlen : (lg_sl as).length ≤ M.2.2.1) (hn : plainName M.1.cls = true) (r : rk_Run M B P 0 lv [] h (0, 0)) : rk_Con M B as h P := by
  intro l G hok
  have hspec : ∀ (args : Array Value) (s : State) (m : MethodId), (headSpec (rk_wd M :: rk_tbl) { frames := B.1, cells := B.2.2.1, slots := B.2.2.2, locals := B.2.1 }).pre.before args s = true → s.methodNamed? M.1 = some m →
      ∃ (meth : Method) (c : Code), s.vm.method? m = some meth ∧ meth.code = some c ∧ c.code = M.2.1 ∧ c.maxLocals = M.2.2.1 ∧ meth.sig.returnType = M.2.2.2.1 ∧ meth.locks = false ∧ c.exceptionTable.toList = tableOf (rk_hh M) := by
    intro args s m hp hm
    have hw := atoms_spec (ws := rk_wd M :: rk_tbl) hp _ List.mem_cons_self
    obtain ⟨y, bs, nL, rt, hh⟩ := M
    cases hh with
    | nil =>
      obtain ⟨meth, c, h1, h2, h3, h4, h5, h6, h7, -⟩ := Cond.code_spec hm (show (Cond.code y bs nL rt).before args s = true from hw)
      refine ⟨meth, c, h1, h2, h3, h4, h5, h6, ?_⟩
      have h0 : c.exceptionTable.size = 0 := by simpa [Array.isEmpty] using h7
      exact List.eq_nil_of_length_eq_zero (by simpa using h0)
    | cons q t =>
      obtain ⟨m', meth, c, h0, h1, h2, h3, h4, h5, h6, h7, -⟩ := Cond.codeWith_spec (show (Cond.codeWith y bs nL rt (rk_hh (y, bs, nL, rt, q :: t))).before args s = true from hw)
      cases hm.symm.trans h0
      exact ⟨meth, c, h1, h2, h3, h4, h6, h7, by rw [← h5, table_eq]⟩
  refine MetFree.of_bodyS (code := M.2.1) (maxLocals := M.2.2.1) (ret := M.2.2.2.1) hn ?_ ?_
  · intro args s m hp hm
    obtain ⟨meth, c, h1, h2, h3, h4, h5, h6, -⟩ := hspec args s m hp hm
    exact ⟨meth, c, h1, h2, h3, h4, h5, h6⟩
  · intro p e s m args below meth c s₁ Bd hml hP _
    obtain ⟨rfl, hB, hR, hK⟩ := hP
    have hh0 : s₁.heap = s.heap := by rw [Bd.state]; rfl
    have X := Stand.of_body Bd
    obtain ⟨meth', c', h1, h2, -, -, -, -, htab⟩ := hspec as.toArray s m Bd.pre Bd.named
    cases Bd.method.symm.trans h1
    cases X.code.symm.trans h2
    have hts0 := atoms_spec (ws := rk_wd M :: rk_tbl) Bd.pre
    have hlv := lv_entry as (n := M.2.2.1) hlen
    obtain ⟨t, a1, o, b1, b2, b3, b4⟩ := r l p e _ s m as.toArray below meth c G s.heap [] _
      ⟨Bd.exec, Bd.bytes, hml, Bd.returns, Bd.notSynchronized, findClass_of_methodNamed Bd.named, fun w hw => hts0 w (List.mem_cons_of_mem _ hw), hK, htab, Nat.le_refl _, Nat.le_refl _, Nat.le_refl _, Nat.le_refl _, (name_of_methodNamed Bd.named Bd.method).1, hok⟩
      hR (rk_S.rf hB) (fun q hq => absurd hq List.not_mem_nil) (show lv_has _ _ (rk_prs 0 lv) by rw [hl]; exact hlv) s₁ hh0 X
    refine ⟨t, o, ?_, b1, b2, b3, b4⟩
    rw [lg_entry_eq]
    exact a1
/-- a wider end -/
theorem rk_Con.mono {M : rk_M} {B : rk_B} {as : List Value} {h : rk_H} {P P' : rk_P} (c : rk_Con M B as h P) (hP : ∀ r h', P r h' → P' r h') : rk_Con M B as h P' := by
  intro l G hok p e ha hc hk s m args below hf happ hp hkk
  obtain ⟨n, o, h1, h2, h3, ⟨⟨⟨r, h', q1, q2, q3⟩, q4⟩, q5⟩⟩ := c l G hok p e ha hc hk s m args below hf happ hp hkk
  exact ⟨n, o, h1, h2, h3, ⟨⟨⟨r, h', q1, hP r h' q2, q3⟩, q4⟩, q5⟩⟩
section RKR
variable {M : rk_M} {B : rk_B} {P : rk_P} {pc : Nat} {lv : List (Option Value)} {st : List Value} {h : rk_H} {u : rk_U}
theorem rk_lv (lv' : List (Option Value)) (hs : rk_le lv' lv) (r : rk_Run M B P pc lv' st h u) : rk_Run M B P pc lv st h u := by
  intro l p e R s m args below meth c G H locs ls C hR hS hf hl
  exact r l p e R s m args below meth c G H locs ls C hR hS hf (rk_L.of hl (fun j w hw => rk_prs_at.mpr (rk_le_at hs hw)))
/-- counted higher -/
theorem rk_wide (u' : rk_U) (hk : u.1 ≤ u'.1) (hn : u.2 ≤ u'.2) (r : rk_Run M B P pc lv st h u') : rk_Run M B P pc lv st h u := by
  intro l p e R s m args below meth c G H locs ls C hR hS hf hl
  exact W.widen hk hn (r l p e R s m args below meth c G H locs ls C hR hS hf hl)
theorem rk_topi {x : Int32} (r : ∀ y : Int32, y = x → rk_Run M B P pc lv (.int y :: st) h u) : rk_Run M B P pc lv (.int x :: st) h u := r x rfl
theorem rk_topl {x : Int64} (r : ∀ y : Int64, y = x → rk_Run M B P pc lv (.long y :: st) h u) : rk_Run M B P pc lv (.long x :: st) h u := r x rfl
theorem rk_topd {x : UInt64} (r : ∀ y : UInt64, y = x → rk_Run M B P pc lv (.double y :: st) h u) : rk_Run M B P pc lv (.double x :: st) h u := r x rfl
/-- within the bounds -/
def rk_ok (u : rk_U) (B : rk_B) : Prop := u.1 ≤ B.2.2.1 ∧ u.2 ≤ B.2.2.2
theorem rk_fin {G : rk_G} {s t : State} {H : Heap} {v : Option Value} (hR : rk_R G h H) (hS : rk_S G s.heap H) (hP : P (.inl v) h) (ht : t.heap = H) : rk_end P G s (.returned v) t :=
  ⟨⟨.inl v, h, rfl, hP, by rw [ht]; exact hR⟩, by rw [ht]; exact hS⟩
-- ends
theorem rk_iret {v : Int32} (hret : M.2.2.2.1 = some .int) (hd : decode M.2.1 pc = .ok (.ireturn, 1)) (hu : rk_ok u B) (hP : P (.inl (some (.int v))) h) : rk_Run M B P pc lv [.int v] h u := by
  intro l p e R s m args below meth c G H locs ls C hR hS hf hl
  refine W.widen hu.1 hu.2 (rk_Wmono (rk_MQ (args := args)) ?_)
  exact W.iret C.1 C.2.1 (C.2.2.2.1.trans hret) (fun t ht _ => rk_fin hR hS hP ht) hf hd C.2.2.2.2.1
theorem rk_zret {v : Int32} {ty : FieldType} (hret : M.2.2.2.1 = some ty) (hnr : narrow ty (.int v) = .int v) (hd : decode M.2.1 pc = .ok (.ireturn, 1)) (hu : rk_ok u B) (hP : P (.inl (some (.int v))) h) : rk_Run M B P pc lv [.int v] h u := by
  intro l p e R s m args below meth c G H locs ls C hR hS hf hl
  refine W.widen hu.1 hu.2 (rk_Wmono (rk_MQ (args := args)) ?_)
  exact W.zret C.1 C.2.1 (C.2.2.2.1.trans hret) hnr (fun t ht _ => rk_fin hR hS hP ht) hf hd C.2.2.2.2.1
theorem rk_lret {v : Int64} (hret : M.2.2.2.1 = some .long) (hd : decode M.2.1 pc = .ok (.lreturn, 1)) (hu : rk_ok u B) (hP : P (.inl (some (.long v))) h) : rk_Run M B P pc lv [.long v] h u := by
  intro l p e R s m args below meth c G H locs ls C hR hS hf hl
  refine W.widen hu.1 hu.2 (rk_Wmono (rk_MQ (args := args)) ?_)
  exact W.lret C.1 C.2.1 (C.2.2.2.1.trans hret) (fun t ht _ => rk_fin hR hS hP ht) hf hd C.2.2.2.2.1
theorem rk_dret {v : UInt64} (hret : M.2.2.2.1 = some .double) (hd : decode M.2.1 pc = .ok (.dreturn, 1)) (hu : rk_ok u B) (hP : P (.inl (some (.double v))) h) : rk_Run M B P pc lv [.double v] h u := by
  intro l p e R s m args below meth c G H locs ls C hR hS hf hl
  refine W.widen hu.1 hu.2 (rk_Wmono (rk_MQ (args := args)) ?_)
  exact W.dret C.1 C.2.1 (C.2.2.2.1.trans hret) (fun t ht _ => rk_fin hR hS hP ht) hf hd C.2.2.2.2.1
theorem rk_aret {v : Value} {rt : FieldType} (hret : M.2.2.2.1 = some rt) (hrt : (∃ n, rt = .object n) ∨ ∃ t, rt = .array t) (hv : v = .null ∨ ∃ a, v = .ref a) (hd : decode M.2.1 pc = .ok (.areturn, 1)) (hu : rk_ok u B) (hP : P (.inl (some v)) h) : rk_Run M B P pc lv [v] h u := by
  intro l p e R s m args below meth c G H locs ls C hR hS hf hl
  refine W.widen hu.1 hu.2 (rk_Wmono (rk_MQ (args := args)) ?_)
  exact W.aret C.1 C.2.1 (C.2.2.2.1.trans hret) hrt hv (fun t ht _ => rk_fin hR hS hP ht) hf hd C.2.2.2.2.1
theorem rk_ret (hret : M.2.2.2.1 = none) (hd : decode M.2.1 pc = .ok (.return_, 1)) (hu : rk_ok u B) (hP : P (.inl none) h) : rk_Run M B P pc lv [] h u := by
  intro l p e R s m args below meth c G H locs ls C hR hS hf hl
  refine W.widen hu.1 hu.2 (rk_Wmono (rk_MQ (args := args)) ?_)
  exact W.vret C.1 C.2.1 (C.2.2.2.1.trans hret) (fun t ht _ => rk_fin hR hS hP ht) hf hd C.2.2.2.2.1
theorem rk_iconst {z : Int} {v : Int32} (hd : decode M.2.1 pc = .ok (.iconst z, 1)) (hv : Int32.ofInt z = v) (r : rk_Run M B P (pc + 1) lv (.int v :: st) h u) : rk_Run M B P pc lv st h u := by
  intro l p e R s m args below meth c G H locs ls C hR hS hf hl
  exact lv_iconst C.1 C.2.1 hd hv (r l p e R s m args below meth c G H locs ls C hR hS hf hl)
theorem rk_bipush {z : Int} {v : Int32} (hd : decode M.2.1 pc = .ok (.bipush z, 2)) (hv : (Int8.ofInt z).toInt32 = v) (r : rk_Run M B P (pc + 2) lv (.int v :: st) h u) : rk_Run M B P pc lv st h u := by
  intro l p e R s m args below meth c G H locs ls C hR hS hf hl
  exact lv_bipush C.1 C.2.1 hd hv (r l p e R s m args below meth c G H locs ls C hR hS hf hl)
theorem rk_sipush {z : Int} {v : Int32} (hd : decode M.2.1 pc = .ok (.sipush z, 3)) (hv : (Int16.ofInt z).toInt32 = v) (r : rk_Run M B P (pc + 3) lv (.int v :: st) h u) : rk_Run M B P pc lv st h u := by
  intro l p e R s m args below meth c G H locs ls C hR hS hf hl
  exact lv_sipush C.1 C.2.1 hd hv (r l p e R s m args below meth c G H locs ls C hR hS hf hl)
theorem rk_lconst {z : Fin 2} {v : Int64} (hd : decode M.2.1 pc = .ok (.lconst z, 1)) (hv : Int64.ofNat (z : Nat) = v) (r : rk_Run M B P (pc + 1) lv (.long v :: st) h u) : rk_Run M B P pc lv st h u := by
  intro l p e R s m args below meth c G H locs ls C hR hS hf hl
  exact lv_lconst C.1 C.2.1 hd hv (r l p e R s m args below meth c G H locs ls C hR hS hf hl)
theorem rk_iload_n {z : Fin 4} {x : Int32} (hd : decode M.2.1 pc = .ok (.iload_n z, 1)) (hx : lv[z.val]? = some (some (.int x))) (r : rk_Run M B P (pc + 1) lv (.int x :: st) h u) : rk_Run M B P pc lv st h u := by
  intro l p e R s m args below meth c G H locs ls C hR hS hf hl
  exact lv_iload_n C.1 C.2.1 hd rfl (hl.at hx) (r l p e R s m args below meth c G H locs ls C hR hS hf hl)
theorem rk_iload {z : Nat} {x : Int32} (hd : decode M.2.1 pc = .ok (.iload z, 2)) (hx : lv[z]? = some (some (.int x))) (r : rk_Run M B P (pc + 2) lv (.int x :: st) h u) : rk_Run M B P pc lv st h u := by
  intro l p e R s m args below meth c G H locs ls C hR hS hf hl
  exact lv_iload C.1 C.2.1 hd (hl.at hx) (r l p e R s m args below meth c G H locs ls C hR hS hf hl)
theorem rk_lload_n {z : Fin 4} {x : Int64} (hd : decode M.2.1 pc = .ok (.lload_n z, 1)) (hx : lv[z.val]? = some (some (.long x))) (r : rk_Run M B P (pc + 1) lv (.long x :: st) h u) : rk_Run M B P pc lv st h u := by
  intro l p e R s m args below meth c G H locs ls C hR hS hf hl
  exact lv_lload_n C.1 C.2.1 hd rfl (hl.at hx) (r l p e R s m args below meth c G H locs ls C hR hS hf hl)
theorem rk_lload {z : Nat} {x : Int64} (hd : decode M.2.1 pc = .ok (.lload z, 2)) (hx : lv[z]? = some (some (.long x))) (r : rk_Run M B P (pc + 2) lv (.long x :: st) h u) : rk_Run M B P pc lv st h u := by
  intro l p e R s m args below meth c G H locs ls C hR hS hf hl
  exact lv_lload C.1 C.2.1 hd (hl.at hx) (r l p e R s m args below meth c G H locs ls C hR hS hf hl)
theorem rk_dload_n {z : Fin 4} {x : UInt64} (hd : decode M.2.1 pc = .ok (.dload_n z, 1)) (hx : lv[z.val]? = some (some (.double x))) (r : rk_Run M B P (pc + 1) lv (.double x :: st) h u) : rk_Run M B P pc lv st h u := by
  intro l p e R s m args below meth c G H locs ls C hR hS hf hl
  exact lv_dload_n C.1 C.2.1 hd rfl (hl.at hx) (r l p e R s m args below meth c G H locs ls C hR hS hf hl)
theorem rk_dload {z : Nat} {x : UInt64} (hd : decode M.2.1 pc = .ok (.dload z, 2)) (hx : lv[z]? = some (some (.double x))) (r : rk_Run M B P (pc + 2) lv (.double x :: st) h u) : rk_Run M B P pc lv st h u := by
  intro l p e R s m args below meth c G H locs ls C hR hS hf hl
  exact lv_dload C.1 C.2.1 hd (hl.at hx) (r l p e R s m args below meth c G H locs ls C hR hS hf hl)
theorem rk_aload_n {z : Fin 4} {x : Nat} (hd : decode M.2.1 pc = .ok (.aload_n z, 1)) (hx : lv[z.val]? = some (some (.ref x))) (r : rk_Run M B P (pc + 1) lv (.ref x :: st) h u) : rk_Run M B P pc lv st h u := by
  intro l p e R s m args below meth c G H locs ls C hR hS hf hl
  exact lv_aload_n C.1 C.2.1 hd rfl (hl.at hx) (r l p e R s m args below meth c G H locs ls C hR hS hf hl)
theorem rk_aload {z : Nat} {x : Nat} (hd : decode M.2.1 pc = .ok (.aload z, 2)) (hx : lv[z]? = some (some (.ref x))) (r : rk_Run M B P (pc + 2) lv (.ref x :: st) h u) : rk_Run M B P pc lv st h u := by
  intro l p e R s m args below meth c G H locs ls C hR hS hf hl
  exact lv_aload C.1 C.2.1 hd (hl.at hx) (r l p e R s m args below meth c G H locs ls C hR hS hf hl)
theorem rk_istore_n {z : Fin 4} {x : Int32} (hd : decode M.2.1 pc = .ok (.istore_n z, 1)) (hb : z.val < M.2.2.1) (r : rk_Run M B P (pc + 1) (rk_st1 lv z.val (.int x)) st h u) : rk_Run M B P pc lv (.int x :: st) h u := by
  intro l p e R s m args below meth c G H locs ls C hR hS hf hl
  exact lv_istore_n C.1 C.2.1 hd rfl hl hb rfl (fun ls hl => r l p e R s m args below meth c G H locs ls C hR hS hf (rk_L.of hl (fun j w hw => rk_st1_at hw)))
theorem rk_istore {z : Nat} {x : Int32} (hd : decode M.2.1 pc = .ok (.istore z, 2)) (hb : z < M.2.2.1) (r : rk_Run M B P (pc + 2) (rk_st1 lv z (.int x)) st h u) : rk_Run M B P pc lv (.int x :: st) h u := by
  intro l p e R s m args below meth c G H locs ls C hR hS hf hl
  exact lv_istore C.1 C.2.1 hd hl hb rfl (fun ls hl => r l p e R s m args below meth c G H locs ls C hR hS hf (rk_L.of hl (fun j w hw => rk_st1_at hw)))
theorem rk_lstore_n {z : Fin 4} {x : Int64} (hd : decode M.2.1 pc = .ok (.lstore_n z, 1)) (hb : z.val + 1 < M.2.2.1) (r : rk_Run M B P (pc + 1) (rk_st2 lv z.val (.long x)) st h u) : rk_Run M B P pc lv (.long x :: st) h u := by
  intro l p e R s m args below meth c G H locs ls C hR hS hf hl
  exact lv_lstore_n C.1 C.2.1 hd rfl hl hb rfl (fun ls hl => r l p e R s m args below meth c G H locs ls C hR hS hf (rk_L.of hl (fun j w hw => rk_st2_at hw)))
theorem rk_lstore {z : Nat} {x : Int64} (hd : decode M.2.1 pc = .ok (.lstore z, 2)) (hb : z + 1 < M.2.2.1) (r : rk_Run M B P (pc + 2) (rk_st2 lv z (.long x)) st h u) : rk_Run M B P pc lv (.long x :: st) h u := by
  intro l p e R s m args below meth c G H locs ls C hR hS hf hl
  exact lv_lstore C.1 C.2.1 hd hl hb rfl (fun ls hl => r l p e R s m args below meth c G H locs ls C hR hS hf (rk_L.of hl (fun j w hw => rk_st2_at hw)))
theorem rk_dstore_n {z : Fin 4} {x : UInt64} (hd : decode M.2.1 pc = .ok (.dstore_n z, 1)) (hb : z.val + 1 < M.2.2.1) (r : rk_Run M B P (pc + 1) (rk_st2 lv z.val (.double x)) st h u) : rk_Run M B P pc lv (.double x :: st) h u := by
  intro l p e R s m args below meth c G H locs ls C hR hS hf hl
  exact lv_dstore_n C.1 C.2.1 hd rfl hl hb rfl (fun ls hl => r l p e R s m args below meth c G H locs ls C hR hS hf (rk_L.of hl (fun j w hw => rk_st2_at hw)))
theorem rk_dstore {z : Nat} {x : UInt64} (hd : decode M.2.1 pc = .ok (.dstore z, 2)) (hb : z + 1 < M.2.2.1) (r : rk_Run M B P (pc + 2) (rk_st2 lv z (.double x)) st h u) : rk_Run M B P pc lv (.double x :: st) h u := by
  intro l p e R s m args below meth c G H locs ls C hR hS hf hl
  exact lv_dstore C.1 C.2.1 hd hl hb rfl (fun ls hl => r l p e R s m args below meth c G H locs ls C hR hS hf (rk_L.of hl (fun j w hw => rk_st2_at hw)))
theorem rk_astore_n {z : Fin 4} {x : Nat} (hd : decode M.2.1 pc = .ok (.astore_n z, 1)) (hb : z.val < M.2.2.1) (r : rk_Run M B P (pc + 1) (rk_st1 lv z.val (.ref x)) st h u) : rk_Run M B P pc lv (.ref x :: st) h u := by
  intro l p e R s m args below meth c G H locs ls C hR hS hf hl
  exact lv_astore_n C.1 C.2.1 hd rfl hl hb rfl (fun ls hl => r l p e R s m args below meth c G H locs ls C hR hS hf (rk_L.of hl (fun j w hw => rk_st1_at hw)))
theorem rk_astore {z : Nat} {x : Nat} (hd : decode M.2.1 pc = .ok (.astore z, 2)) (hb : z < M.2.2.1) (r : rk_Run M B P (pc + 2) (rk_st1 lv z (.ref x)) st h u) : rk_Run M B P pc lv (.ref x :: st) h u := by
  intro l p e R s m args below meth c G H locs ls C hR hS hf hl
  exact lv_astore C.1 C.2.1 hd hl hb rfl (fun ls hl => r l p e R s m args below meth c G H locs ls C hR hS hf (rk_L.of hl (fun j w hw => rk_st1_at hw)))
theorem rk_iinc {i : Nat} {z : Int} {x v : Int32} (hd : decode M.2.1 pc = .ok (.iinc i z, 3)) (hx : lv[i]? = some (some (.int x))) (hv : x + Int32.ofInt z = v) (hb : i < M.2.2.1) (r : rk_Run M B P (pc + 3) (rk_st1 lv i (.int v)) st h u) : rk_Run M B P pc lv st h u := by
  intro l p e R s m args below meth c G H locs ls C hR hS hf hl
  obtain ⟨j, hj⟩ := List.getElem?_of_mem (rk_prs_at.mpr hx)
  exact lv_iinc C.1 C.2.1 hd hl hj hv hb rfl (fun ls hl => r l p e R s m args below meth c G H locs ls C hR hS hf (rk_L.of hl (fun j w hw => rk_st1_at hw)))
theorem rk_iadd {x y : Int32} (hd : decode M.2.1 pc = .ok (.iadd, 1)) (r : rk_Run M B P (pc + 1) lv (.int (x + y) :: st) h u) : rk_Run M B P pc lv (.int y :: .int x :: st) h u := by
  intro l p e R s m args below meth c G H locs ls C hR hS hf hl
  exact lv_iadd C.1 C.2.1 hd (r l p e R s m args below meth c G H locs ls C hR hS hf hl)
theorem rk_isub {x y : Int32} (hd : decode M.2.1 pc = .ok (.isub, 1)) (r : rk_Run M B P (pc + 1) lv (.int (x - y) :: st) h u) : rk_Run M B P pc lv (.int y :: .int x :: st) h u := by
  intro l p e R s m args below meth c G H locs ls C hR hS hf hl
  exact lv_isub C.1 C.2.1 hd (r l p e R s m args below meth c G H locs ls C hR hS hf hl)
theorem rk_imul {x y : Int32} (hd : decode M.2.1 pc = .ok (.imul, 1)) (r : rk_Run M B P (pc + 1) lv (.int (x * y) :: st) h u) : rk_Run M B P pc lv (.int y :: .int x :: st) h u := by
  intro l p e R s m args below meth c G H locs ls C hR hS hf hl
  exact lv_imul C.1 C.2.1 hd (r l p e R s m args below meth c G H locs ls C hR hS hf hl)
theorem rk_iand {x y : Int32} (hd : decode M.2.1 pc = .ok (.iand, 1)) (r : rk_Run M B P (pc + 1) lv (.int (x &&& y) :: st) h u) : rk_Run M B P pc lv (.int y :: .int x :: st) h u := by
  intro l p e R s m args below meth c G H locs ls C hR hS hf hl
  exact lv_iand C.1 C.2.1 hd (r l p e R s m args below meth c G H locs ls C hR hS hf hl)
theorem rk_ior {x y : Int32} (hd : decode M.2.1 pc = .ok (.ior, 1)) (r : rk_Run M B P (pc + 1) lv (.int (x ||| y) :: st) h u) : rk_Run M B P pc lv (.int y :: .int x :: st) h u := by
  intro l p e R s m args below meth c G H locs ls C hR hS hf hl
  exact lv_ior C.1 C.2.1 hd (r l p e R s m args below meth c G H locs ls C hR hS hf hl)
theorem rk_ixor {x y : Int32} (hd : decode M.2.1 pc = .ok (.ixor, 1)) (r : rk_Run M B P (pc + 1) lv (.int (x ^^^ y) :: st) h u) : rk_Run M B P pc lv (.int y :: .int x :: st) h u := by
  intro l p e R s m args below meth c G H locs ls C hR hS hf hl
  exact lv_ixor C.1 C.2.1 hd (r l p e R s m args below meth c G H locs ls C hR hS hf hl)
theorem rk_idiv {x y : Int32} (hd : decode M.2.1 pc = .ok (.idiv, 1)) (hne : ¬ y = 0) (r : rk_Run M B P (pc + 1) lv (.int (x / y) :: st) h u) : rk_Run M B P pc lv (.int y :: .int x :: st) h u := by
  intro l p e R s m args below meth c G H locs ls C hR hS hf hl
  exact lv_idiv C.1 C.2.1 hd hne (r l p e R s m args below meth c G H locs ls C hR hS hf hl)
theorem rk_irem {x y : Int32} (hd : decode M.2.1 pc = .ok (.irem, 1)) (hne : ¬ y = 0) (r : rk_Run M B P (pc + 1) lv (.int (x - x / y * y) :: st) h u) : rk_Run M B P pc lv (.int y :: .int x :: st) h u := by
  intro l p e R s m args below meth c G H locs ls C hR hS hf hl
  exact lv_irem C.1 C.2.1 hd hne (r l p e R s m args below meth c G H locs ls C hR hS hf hl)
theorem rk_ineg {x : Int32} (hd : decode M.2.1 pc = .ok (.ineg, 1)) (r : rk_Run M B P (pc + 1) lv (.int (-x) :: st) h u) : rk_Run M B P pc lv (.int x :: st) h u := by
  intro l p e R s m args below meth c G H locs ls C hR hS hf hl
  exact lv_ineg C.1 C.2.1 hd (r l p e R s m args below meth c G H locs ls C hR hS hf hl)
theorem rk_ladd {x y : Int64} (hd : decode M.2.1 pc = .ok (.ladd, 1)) (r : rk_Run M B P (pc + 1) lv (.long (x + y) :: st) h u) : rk_Run M B P pc lv (.long y :: .long x :: st) h u := by
  intro l p e R s m args below meth c G H locs ls C hR hS hf hl
  exact lv_ladd C.1 C.2.1 hd (r l p e R s m args below meth c G H locs ls C hR hS hf hl)
theorem rk_lsub {x y : Int64} (hd : decode M.2.1 pc = .ok (.lsub, 1)) (r : rk_Run M B P (pc + 1) lv (.long (x - y) :: st) h u) : rk_Run M B P pc lv (.long y :: .long x :: st) h u := by
  intro l p e R s m args below meth c G H locs ls C hR hS hf hl
  exact lv_lsub C.1 C.2.1 hd (r l p e R s m args below meth c G H locs ls C hR hS hf hl)
theorem rk_lmul {x y : Int64} (hd : decode M.2.1 pc = .ok (.lmul, 1)) (r : rk_Run M B P (pc + 1) lv (.long (x * y) :: st) h u) : rk_Run M B P pc lv (.long y :: .long x :: st) h u := by
  intro l p e R s m args below meth c G H locs ls C hR hS hf hl
  exact lv_lmul C.1 C.2.1 hd (r l p e R s m args below meth c G H locs ls C hR hS hf hl)
theorem rk_land {x y : Int64} (hd : decode M.2.1 pc = .ok (.land, 1)) (r : rk_Run M B P (pc + 1) lv (.long (x &&& y) :: st) h u) : rk_Run M B P pc lv (.long y :: .long x :: st) h u := by
  intro l p e R s m args below meth c G H locs ls C hR hS hf hl
  exact lv_land C.1 C.2.1 hd (r l p e R s m args below meth c G H locs ls C hR hS hf hl)
theorem rk_lor {x y : Int64} (hd : decode M.2.1 pc = .ok (.lor, 1)) (r : rk_Run M B P (pc + 1) lv (.long (x ||| y) :: st) h u) : rk_Run M B P pc lv (.long y :: .long x :: st) h u := by
  intro l p e R s m args below meth c G H locs ls C hR hS hf hl
  exact lv_lor C.1 C.2.1 hd (r l p e R s m args below meth c G H locs ls C hR hS hf hl)
theorem rk_lxor {x y : Int64} (hd : decode M.2.1 pc = .ok (.lxor, 1)) (r : rk_Run M B P (pc + 1) lv (.long (x ^^^ y) :: st) h u) : rk_Run M B P pc lv (.long y :: .long x :: st) h u := by
  intro l p e R s m args below meth c G H locs ls C hR hS hf hl
  exact lv_lxor C.1 C.2.1 hd (r l p e R s m args below meth c G H locs ls C hR hS hf hl)
theorem rk_ldiv {x y : Int64} (hd : decode M.2.1 pc = .ok (.ldiv, 1)) (hne : ¬ y = 0) (r : rk_Run M B P (pc + 1) lv (.long (x / y) :: st) h u) : rk_Run M B P pc lv (.long y :: .long x :: st) h u := by
  intro l p e R s m args below meth c G H locs ls C hR hS hf hl
  exact lv_ldiv C.1 C.2.1 hd hne (r l p e R s m args below meth c G H locs ls C hR hS hf hl)
theorem rk_lneg {x : Int64} (hd : decode M.2.1 pc = .ok (.lneg, 1)) (r : rk_Run M B P (pc + 1) lv (.long (-x) :: st) h u) : rk_Run M B P pc lv (.long x :: st) h u := by
  intro l p e R s m args below meth c G H locs ls C hR hS hf hl
  exact lv_lneg C.1 C.2.1 hd (r l p e R s m args below meth c G H locs ls C hR hS hf hl)
theorem rk_ishl {x y : Int32} (hd : decode M.2.1 pc = .ok (.ishl, 1)) (r : rk_Run M B P (pc + 1) lv (.int (x <<< (y &&& 31)) :: st) h u) : rk_Run M B P pc lv (.int y :: .int x :: st) h u := by
  intro l p e R s m args below meth c G H locs ls C hR hS hf hl
  exact lv_ishl C.1 C.2.1 hd (r l p e R s m args below meth c G H locs ls C hR hS hf hl)
theorem rk_ishr {x y : Int32} (hd : decode M.2.1 pc = .ok (.ishr, 1)) (r : rk_Run M B P (pc + 1) lv (.int (x >>> (y &&& 31)) :: st) h u) : rk_Run M B P pc lv (.int y :: .int x :: st) h u := by
  intro l p e R s m args below meth c G H locs ls C hR hS hf hl
  exact lv_ishr C.1 C.2.1 hd (r l p e R s m args below meth c G H locs ls C hR hS hf hl)
theorem rk_lshl {x : Int64} {y : Int32} (hd : decode M.2.1 pc = .ok (.lshl, 1)) (r : rk_Run M B P (pc + 1) lv (.long (x <<< (y.toInt64 &&& 63)) :: st) h u) : rk_Run M B P pc lv (.int y :: .long x :: st) h u := by
  intro l p e R s m args below meth c G H locs ls C hR hS hf hl
  exact lv_lshl C.1 C.2.1 hd rfl (r l p e R s m args below meth c G H locs ls C hR hS hf hl)
theorem rk_lshr {x : Int64} {y : Int32} (hd : decode M.2.1 pc = .ok (.lshr, 1)) (r : rk_Run M B P (pc + 1) lv (.long (x >>> (y.toInt64 &&& 63)) :: st) h u) : rk_Run M B P pc lv (.int y :: .long x :: st) h u := by
  intro l p e R s m args below meth c G H locs ls C hR hS hf hl
  exact lv_lshr C.1 C.2.1 hd rfl (r l p e R s m args below meth c G H locs ls C hR hS hf hl)
theorem rk_i2l {x : Int32} (hd : decode M.2.1 pc = .ok (.i2l, 1)) (r : rk_Run M B P (pc + 1) lv (.long x.toInt64 :: st) h u) : rk_Run M B P pc lv (.int x :: st) h u := by
  intro l p e R s m args below meth c G H locs ls C hR hS hf hl
  exact lv_i2l C.1 C.2.1 hd rfl (r l p e R s m args below meth c G H locs ls C hR hS hf hl)
theorem rk_l2i {x : Int64} (hd : decode M.2.1 pc = .ok (.l2i, 1)) (r : rk_Run M B P (pc + 1) lv (.int x.toInt32 :: st) h u) : rk_Run M B P pc lv (.long x :: st) h u := by
  intro l p e R s m args below meth c G H locs ls C hR hS hf hl
  exact lv_l2i C.1 C.2.1 hd rfl (r l p e R s m args below meth c G H locs ls C hR hS hf hl)
theorem rk_i2b {x : Int32} (hd : decode M.2.1 pc = .ok (.i2b, 1)) (r : rk_Run M B P (pc + 1) lv (.int x.toInt8.toInt32 :: st) h u) : rk_Run M B P pc lv (.int x :: st) h u := by
  intro l p e R s m args below meth c G H locs ls C hR hS hf hl
  exact lv_i2b C.1 C.2.1 hd rfl (r l p e R s m args below meth c G H locs ls C hR hS hf hl)
theorem rk_i2d {x : Int32} (hd : decode M.2.1 pc = .ok (.i2d, 1)) (r : rk_Run M B P (pc + 1) lv (.double (FP.i2d x) :: st) h u) : rk_Run M B P pc lv (.int x :: st) h u := by
  intro l p e R s m args below meth c G H locs ls C hR hS hf hl
  exact lv_i2d C.1 C.2.1 hd (r l p e R s m args below meth c G H locs ls C hR hS hf hl)
theorem rk_l2d {x : Int64} (hd : decode M.2.1 pc = .ok (.l2d, 1)) (r : rk_Run M B P (pc + 1) lv (.double (FP.l2d x) :: st) h u) : rk_Run M B P pc lv (.long x :: st) h u := by
  intro l p e R s m args below meth c G H locs ls C hR hS hf hl
  exact lv_l2d C.1 C.2.1 hd (r l p e R s m args below meth c G H locs ls C hR hS hf hl)
theorem rk_d2l {x : UInt64} (hd : decode M.2.1 pc = .ok (.d2l, 1)) (r : rk_Run M B P (pc + 1) lv (.long (FP.d2l x) :: st) h u) : rk_Run M B P pc lv (.double x :: st) h u := by
  intro l p e R s m args below meth c G H locs ls C hR hS hf hl
  exact lv_d2l C.1 C.2.1 hd (r l p e R s m args below meth c G H locs ls C hR hS hf hl)
theorem rk_d2i {x : UInt64} (hd : decode M.2.1 pc = .ok (.d2i, 1)) (r : rk_Run M B P (pc + 1) lv (.int (FP.d2i x) :: st) h u) : rk_Run M B P pc lv (.double x :: st) h u := by
  intro l p e R s m args below meth c G H locs ls C hR hS hf hl
  exact lv_d2i C.1 C.2.1 hd (r l p e R s m args below meth c G H locs ls C hR hS hf hl)
theorem rk_dadd {x y : UInt64} (hd : decode M.2.1 pc = .ok (.dadd, 1)) (hne : vf_n64 (FP.dadd x y)) (r : rk_Run M B P (pc + 1) lv (.double (FP.dadd x y) :: st) h u) : rk_Run M B P pc lv (.double y :: .double x :: st) h u := by
  intro l p e R s m args below meth c G H locs ls C hR hS hf hl
  exact lv_dadd C.1 C.2.1 hd hne (r l p e R s m args below meth c G H locs ls C hR hS hf hl)
theorem rk_dsub {x y : UInt64} (hd : decode M.2.1 pc = .ok (.dsub, 1)) (hne : vf_n64 (FP.dsub x y)) (r : rk_Run M B P (pc + 1) lv (.double (FP.dsub x y) :: st) h u) : rk_Run M B P pc lv (.double y :: .double x :: st) h u := by
  intro l p e R s m args below meth c G H locs ls C hR hS hf hl
  exact lv_dsub C.1 C.2.1 hd hne (r l p e R s m args below meth c G H locs ls C hR hS hf hl)
theorem rk_dmul {x y : UInt64} (hd : decode M.2.1 pc = .ok (.dmul, 1)) (hne : vf_n64 (FP.dmul x y)) (r : rk_Run M B P (pc + 1) lv (.double (FP.dmul x y) :: st) h u) : rk_Run M B P pc lv (.double y :: .double x :: st) h u := by
  intro l p e R s m args below meth c G H locs ls C hR hS hf hl
  exact lv_dmul C.1 C.2.1 hd hne (r l p e R s m args below meth c G H locs ls C hR hS hf hl)
theorem rk_ddiv {x y : UInt64} (hd : decode M.2.1 pc = .ok (.ddiv, 1)) (hne : vf_n64 (FP.ddiv x y)) (r : rk_Run M B P (pc + 1) lv (.double (FP.ddiv x y) :: st) h u) : rk_Run M B P pc lv (.double y :: .double x :: st) h u := by
  intro l p e R s m args below meth c G H locs ls C hR hS hf hl
  exact lv_ddiv C.1 C.2.1 hd hne (r l p e R s m args below meth c G H locs ls C hR hS hf hl)
theorem rk_dcmp {x y : UInt64} {op : CmpOp} (hd : decode M.2.1 pc = .ok (.dcmp op, 1)) (r : rk_Run M B P (pc + 1) lv (.int (Op.cmpValue (FP.dcmp x y) op) :: st) h u) : rk_Run M B P pc lv (.double y :: .double x :: st) h u := by
  intro l p e R s m args below meth c G H locs ls C hR hS hf hl
  exact lv_dcmp C.1 C.2.1 hd (r l p e R s m args below meth c G H locs ls C hR hS hf hl)
theorem rk_dconst0  (hd : decode M.2.1 pc = .ok (.dconst 0, 1)) (r : rk_Run M B P (pc + 1) lv (.double FP.dconst0 :: st) h u) : rk_Run M B P pc lv st h u := by
  intro l p e R s m args below meth c G H locs ls C hR hS hf hl
  exact lv_dconst0 C.1 C.2.1 hd (r l p e R s m args below meth c G H locs ls C hR hS hf hl)
theorem rk_dconst1  (hd : decode M.2.1 pc = .ok (.dconst 1, 1)) (r : rk_Run M B P (pc + 1) lv (.double FP.dconst1 :: st) h u) : rk_Run M B P pc lv st h u := by
  intro l p e R s m args below meth c G H locs ls C hR hS hf hl
  exact lv_dconst1 C.1 C.2.1 hd (r l p e R s m args below meth c G H locs ls C hR hS hf hl)
theorem rk_null  (hd : decode M.2.1 pc = .ok (.aconst_null, 1)) (r : rk_Run M B P (pc + 1) lv (.null :: st) h u) : rk_Run M B P pc lv st h u := by
  intro l p e R s m args below meth c G H locs ls C hR hS hf hl
  exact lv_null C.1 C.2.1 hd (r l p e R s m args below meth c G H locs ls C hR hS hf hl)
theorem rk_dup {va : Value} (hd : decode M.2.1 pc = .ok (.dup, 1)) (h1 : va.category = 1) (r : rk_Run M B P (pc + 1) lv (va :: va :: st) h u) : rk_Run M B P pc lv (va :: st) h u := by
  intro l p e R s m args below meth c G H locs ls C hR hS hf hl
  exact lv_dup C.1 C.2.1 hd h1 (r l p e R s m args below meth c G H locs ls C hR hS hf hl)
theorem rk_pop {va : Value} (hd : decode M.2.1 pc = .ok (.pop, 1)) (h1 : va.category = 1) (r : rk_Run M B P (pc + 1) lv st h u) : rk_Run M B P pc lv (va :: st) h u := by
  intro l p e R s m args below meth c G H locs ls C hR hS hf hl
  exact lv_pop C.1 C.2.1 hd h1 (r l p e R s m args below meth c G H locs ls C hR hS hf hl)
theorem rk_dup_x1 {va vb : Value} (hd : decode M.2.1 pc = .ok (.dup_x1, 1)) (h1 : va.category = 1) (h2 : vb.category = 1) (r : rk_Run M B P (pc + 1) lv (va :: vb :: va :: st) h u) : rk_Run M B P pc lv (va :: vb :: st) h u := by
  intro l p e R s m args below meth c G H locs ls C hR hS hf hl
  exact lv_dup_x1 C.1 C.2.1 hd h1 h2 (r l p e R s m args below meth c G H locs ls C hR hS hf hl)
theorem rk_dup_x2 {va vb vd : Value} (hd : decode M.2.1 pc = .ok (.dup_x2, 1)) (h1 : va.category = 1) (h2 : vb.category = 1) (h3 : vd.category = 1) (r : rk_Run M B P (pc + 1) lv (va :: vb :: vd :: va :: st) h u) : rk_Run M B P pc lv (va :: vb :: vd :: st) h u := by
  intro l p e R s m args below meth c G H locs ls C hR hS hf hl
  exact lv_dup_x2 C.1 C.2.1 hd h1 h2 h3 (r l p e R s m args below meth c G H locs ls C hR hS hf hl)
theorem rk_dup2 {va vb : Value} (hd : decode M.2.1 pc = .ok (.dup2, 1)) (h1 : va.category = 1) (h2 : vb.category = 1) (r : rk_Run M B P (pc + 1) lv (va :: vb :: va :: vb :: st) h u) : rk_Run M B P pc lv (va :: vb :: st) h u := by
  intro l p e R s m args below meth c G H locs ls C hR hS hf hl
  exact lv_dup2_11 C.1 C.2.1 hd h1 h2 (r l p e R s m args below meth c G H locs ls C hR hS hf hl)
theorem rk_dup2w {va : Value} (hd : decode M.2.1 pc = .ok (.dup2, 1)) (h1 : va.category = 2) (r : rk_Run M B P (pc + 1) lv (va :: va :: st) h u) : rk_Run M B P pc lv (va :: st) h u := by
  intro l p e R s m args below meth c G H locs ls C hR hS hf hl
  exact lv_dup2_2 C.1 C.2.1 hd h1 (r l p e R s m args below meth c G H locs ls C hR hS hf hl)
theorem rk_pop2w {va : Value} (hd : decode M.2.1 pc = .ok (.pop2, 1)) (h1 : va.category = 2) (r : rk_Run M B P (pc + 1) lv st h u) : rk_Run M B P pc lv (va :: st) h u := by
  intro l p e R s m args below meth c G H locs ls C hR hS hf hl
  exact lv_pop2_2 C.1 C.2.1 hd h1 (r l p e R s m args below meth c G H locs ls C hR hS hf hl)
theorem rk_lcmp {x y : Int64} (hd : decode M.2.1 pc = .ok (.lcmp, 1)) (r : rk_Run M B P (pc + 1) lv (.int (lg_cmp x y) :: st) h u) : rk_Run M B P pc lv (.long y :: .long x :: st) h u := by
  intro l p e R s m args below meth c G H locs ls C hR hS hf hl
  exact W.lcmp C.1 C.2.1 hd (r l p e R s m args below meth c G H locs ls C hR hS hf hl)
theorem rk_if_eq {x : Int32} {off : Int} (tgt : Nat) (hd : decode M.2.1 pc = .ok (.ifCond .eq off, 3)) (ht : (pc : Int) + off = (tgt : Int)) (rt : x = 0 → rk_Run M B P tgt lv st h u) (rf : ¬ (x = 0) → rk_Run M B P (pc + 3) lv st h u) : rk_Run M B P pc lv (.int x :: st) h u := by
  intro l p e R s m args below meth c G H locs ls C hR hS hf hl
  exact lv_if_eq C.1 C.2.1 hd ht (fun q => rt q l p e R s m args below meth c G H locs ls C hR hS hf hl) (fun q => rf q l p e R s m args below meth c G H locs ls C hR hS hf hl)
theorem rk_icmp_eq {x y : Int32} {off : Int} (tgt : Nat) (hd : decode M.2.1 pc = .ok (.if_icmp .eq off, 3)) (ht : (pc : Int) + off = (tgt : Int)) (rt : x = y → rk_Run M B P tgt lv st h u) (rf : ¬ (x = y) → rk_Run M B P (pc + 3) lv st h u) : rk_Run M B P pc lv (.int y :: .int x :: st) h u := by
  intro l p e R s m args below meth c G H locs ls C hR hS hf hl
  exact lv_icmp_eq C.1 C.2.1 hd ht (fun q => rt q l p e R s m args below meth c G H locs ls C hR hS hf hl) (fun q => rf q l p e R s m args below meth c G H locs ls C hR hS hf hl)
theorem rk_if_ne {x : Int32} {off : Int} (tgt : Nat) (hd : decode M.2.1 pc = .ok (.ifCond .ne off, 3)) (ht : (pc : Int) + off = (tgt : Int)) (rt : ¬ x = 0 → rk_Run M B P tgt lv st h u) (rf : x = 0 → rk_Run M B P (pc + 3) lv st h u) : rk_Run M B P pc lv (.int x :: st) h u := by
  intro l p e R s m args below meth c G H locs ls C hR hS hf hl
  exact lv_if_ne C.1 C.2.1 hd ht (fun q => rt q l p e R s m args below meth c G H locs ls C hR hS hf hl) (fun q => rf q l p e R s m args below meth c G H locs ls C hR hS hf hl)
theorem rk_icmp_ne {x y : Int32} {off : Int} (tgt : Nat) (hd : decode M.2.1 pc = .ok (.if_icmp .ne off, 3)) (ht : (pc : Int) + off = (tgt : Int)) (rt : ¬ x = y → rk_Run M B P tgt lv st h u) (rf : x = y → rk_Run M B P (pc + 3) lv st h u) : rk_Run M B P pc lv (.int y :: .int x :: st) h u := by
  intro l p e R s m args below meth c G H locs ls C hR hS hf hl
  exact lv_icmp_ne C.1 C.2.1 hd ht (fun q => rt q l p e R s m args below meth c G H locs ls C hR hS hf hl) (fun q => rf q l p e R s m args below meth c G H locs ls C hR hS hf hl)
theorem rk_if_lt {x : Int32} {off : Int} (tgt : Nat) (hd : decode M.2.1 pc = .ok (.ifCond .lt off, 3)) (ht : (pc : Int) + off = (tgt : Int)) (rt : x < 0 → rk_Run M B P tgt lv st h u) (rf : ¬ (x < 0) → rk_Run M B P (pc + 3) lv st h u) : rk_Run M B P pc lv (.int x :: st) h u := by
  intro l p e R s m args below meth c G H locs ls C hR hS hf hl
  exact lv_if_lt C.1 C.2.1 hd ht (fun q => rt q l p e R s m args below meth c G H locs ls C hR hS hf hl) (fun q => rf q l p e R s m args below meth c G H locs ls C hR hS hf hl)
theorem rk_icmp_lt {x y : Int32} {off : Int} (tgt : Nat) (hd : decode M.2.1 pc = .ok (.if_icmp .lt off, 3)) (ht : (pc : Int) + off = (tgt : Int)) (rt : x < y → rk_Run M B P tgt lv st h u) (rf : ¬ (x < y) → rk_Run M B P (pc + 3) lv st h u) : rk_Run M B P pc lv (.int y :: .int x :: st) h u := by
  intro l p e R s m args below meth c G H locs ls C hR hS hf hl
  exact lv_icmp_lt C.1 C.2.1 hd ht (fun q => rt q l p e R s m args below meth c G H locs ls C hR hS hf hl) (fun q => rf q l p e R s m args below meth c G H locs ls C hR hS hf hl)
theorem rk_if_ge {x : Int32} {off : Int} (tgt : Nat) (hd : decode M.2.1 pc = .ok (.ifCond .ge off, 3)) (ht : (pc : Int) + off = (tgt : Int)) (rt : 0 ≤ x → rk_Run M B P tgt lv st h u) (rf : ¬ (0 ≤ x) → rk_Run M B P (pc + 3) lv st h u) : rk_Run M B P pc lv (.int x :: st) h u := by
  intro l p e R s m args below meth c G H locs ls C hR hS hf hl
  exact lv_if_ge C.1 C.2.1 hd ht (fun q => rt q l p e R s m args below meth c G H locs ls C hR hS hf hl) (fun q => rf q l p e R s m args below meth c G H locs ls C hR hS hf hl)
theorem rk_icmp_ge {x y : Int32} {off : Int} (tgt : Nat) (hd : decode M.2.1 pc = .ok (.if_icmp .ge off, 3)) (ht : (pc : Int) + off = (tgt : Int)) (rt : y ≤ x → rk_Run M B P tgt lv st h u) (rf : ¬ (y ≤ x) → rk_Run M B P (pc + 3) lv st h u) : rk_Run M B P pc lv (.int y :: .int x :: st) h u := by
  intro l p e R s m args below meth c G H locs ls C hR hS hf hl
  exact lv_icmp_ge C.1 C.2.1 hd ht (fun q => rt q l p e R s m args below meth c G H locs ls C hR hS hf hl) (fun q => rf q l p e R s m args below meth c G H locs ls C hR hS hf hl)
theorem rk_if_gt {x : Int32} {off : Int} (tgt : Nat) (hd : decode M.2.1 pc = .ok (.ifCond .gt off, 3)) (ht : (pc : Int) + off = (tgt : Int)) (rt : 0 < x → rk_Run M B P tgt lv st h u) (rf : ¬ (0 < x) → rk_Run M B P (pc + 3) lv st h u) : rk_Run M B P pc lv (.int x :: st) h u := by
  intro l p e R s m args below meth c G H locs ls C hR hS hf hl
  exact lv_if_gt C.1 C.2.1 hd ht (fun q => rt q l p e R s m args below meth c G H locs ls C hR hS hf hl) (fun q => rf q l p e R s m args below meth c G H locs ls C hR hS hf hl)
theorem rk_icmp_gt {x y : Int32} {off : Int} (tgt : Nat) (hd : decode M.2.1 pc = .ok (.if_icmp .gt off, 3)) (ht : (pc : Int) + off = (tgt : Int)) (rt : y < x → rk_Run M B P tgt lv st h u) (rf : ¬ (y < x) → rk_Run M B P (pc + 3) lv st h u) : rk_Run M B P pc lv (.int y :: .int x :: st) h u := by
  intro l p e R s m args below meth c G H locs ls C hR hS hf hl
  exact lv_icmp_gt C.1 C.2.1 hd ht (fun q => rt q l p e R s m args below meth c G H locs ls C hR hS hf hl) (fun q => rf q l p e R s m args below meth c G H locs ls C hR hS hf hl)
theorem rk_if_le {x : Int32} {off : Int} (tgt : Nat) (hd : decode M.2.1 pc = .ok (.ifCond .le off, 3)) (ht : (pc : Int) + off = (tgt : Int)) (rt : x ≤ 0 → rk_Run M B P tgt lv st h u) (rf : ¬ (x ≤ 0) → rk_Run M B P (pc + 3) lv st h u) : rk_Run M B P pc lv (.int x :: st) h u := by
  intro l p e R s m args below meth c G H locs ls C hR hS hf hl
  exact lv_if_le C.1 C.2.1 hd ht (fun q => rt q l p e R s m args below meth c G H locs ls C hR hS hf hl) (fun q => rf q l p e R s m args below meth c G H locs ls C hR hS hf hl)
theorem rk_icmp_le {x y : Int32} {off : Int} (tgt : Nat) (hd : decode M.2.1 pc = .ok (.if_icmp .le off, 3)) (ht : (pc : Int) + off = (tgt : Int)) (rt : x ≤ y → rk_Run M B P tgt lv st h u) (rf : ¬ (x ≤ y) → rk_Run M B P (pc + 3) lv st h u) : rk_Run M B P pc lv (.int y :: .int x :: st) h u := by
  intro l p e R s m args below meth c G H locs ls C hR hS hf hl
  exact lv_icmp_le C.1 C.2.1 hd ht (fun q => rt q l p e R s m args below meth c G H locs ls C hR hS hf hl) (fun q => rf q l p e R s m args below meth c G H locs ls C hR hS hf hl)
theorem rk_goto {off : Int} (tgt : Nat) (hd : decode M.2.1 pc = .ok (.goto off, 3)) (ht : (pc : Int) + off = (tgt : Int)) (r : rk_Run M B P tgt lv st h u) : rk_Run M B P pc lv st h u := by
  intro l p e R s m args below meth c G H locs ls C hR hS hf hl
  exact lv_goto C.1 C.2.1 hd ht (r l p e R s m args below meth c G H locs ls C hR hS hf hl)
theorem rk_tableIn {dflt lo hi : Int} {offs : Array Int} {len : Nat} {x : Int32} {off : Int} (tgt : Nat) (hd : decode M.2.1 pc = .ok (.tableswitch dflt lo hi offs, len)) (h1 : ¬ x.toInt < lo) (h2 : ¬ hi < x.toInt) (ho : offs[(x.toInt - lo).toNat]? = some off) (ht : (pc : Int) + off = (tgt : Int)) (r : rk_Run M B P tgt lv st h u) : rk_Run M B P pc lv (.int x :: st) h u := by
  intro l p e R s m args below meth c G H locs ls C hR hS hf hl
  exact lv_tableIn C.1 C.2.1 hd h1 h2 ho ht (r l p e R s m args below meth c G H locs ls C hR hS hf hl)
theorem rk_tableOut {dflt lo hi : Int} {offs : Array Int} {len : Nat} {x : Int32} (tgt : Nat) (hd : decode M.2.1 pc = .ok (.tableswitch dflt lo hi offs, len)) (h1 : x.toInt < lo ∨ hi < x.toInt) (ht : (pc : Int) + dflt = (tgt : Int)) (r : rk_Run M B P tgt lv st h u) : rk_Run M B P pc lv (.int x :: st) h u := by
  intro l p e R s m args below meth c G H locs ls C hR hS hf hl
  exact lv_tableOut C.1 C.2.1 hd h1 ht (r l p e R s m args below meth c G H locs ls C hR hS hf hl)
theorem rk_lookup {dflt : Int} {ps : Array (Int × Int)} {len : Nat} {x : Int32} {off : Int} (tgt : Nat) (hd : decode M.2.1 pc = .ok (.lookupswitch dflt ps, len)) (hp : (ps.toList.zip (ps.toList.drop 1)).all (fun (a, next) => a.1 < next.1) = true) (ho : Op.lookupswitch.offset ps.toList dflt x.toInt = off) (ht : (pc : Int) + off = (tgt : Int)) (r : rk_Run M B P tgt lv st h u) : rk_Run M B P pc lv (.int x :: st) h u := by
  intro l p e R s m args below meth c G H locs ls C hR hS hf hl
  exact lv_lookup C.1 C.2.1 hd hp ho ht (r l p e R s m args below meth c G H locs ls C hR hS hf hl)
theorem rk_ifnonnull {x : Nat} {off : Int} (tgt : Nat) (hd : decode M.2.1 pc = .ok (.ifnonnull off, 3)) (ht : (pc : Int) + off = (tgt : Int)) (r : rk_Run M B P tgt lv st h u) : rk_Run M B P pc lv (.ref x :: st) h u := by
  intro l p e R s m args below meth c G H locs ls C hR hS hf hl
  exact lv_ifnonnull C.1 C.2.1 hd ht (r l p e R s m args below meth c G H locs ls C hR hS hf hl)
theorem rk_ifnull {x : Nat} {off : Int} (hd : decode M.2.1 pc = .ok (.ifnull off, 3)) (r : rk_Run M B P (pc + 3) lv st h u) : rk_Run M B P pc lv (.ref x :: st) h u := by
  intro l p e R s m args below meth c G H locs ls C hR hS hf hl
  exact lv_ifnull C.1 C.2.1 hd (r l p e R s m args below meth c G H locs ls C hR hS hf hl)
theorem rk_ldc {idx : Nat} {v : Int32} (hw : Cond.constant M.1.cls idx v ∈ rk_tbl) (hd : decode M.2.1 pc = .ok (.ldc idx, 2)) (r : rk_Run M B P (pc + 2) lv (.int v :: st) h u) : rk_Run M B P pc lv st h u := by
  intro l p e R s m args below meth c G H locs ls C hR hS hf hl
  exact lv_ldc C.1 C.2.1 C.2.2.2.2.2.1 (C.2.2.2.2.2.2.1 _ hw) hd (r l p e R s m args below meth c G H locs ls C hR hS hf hl)
theorem rk_ldc2 {idx : Nat} {v : Int64} (hw : Cond.constantLong M.1.cls idx v ∈ rk_tbl) (hd : decode M.2.1 pc = .ok (.ldc2_w idx, 3)) (r : rk_Run M B P (pc + 3) lv (.long v :: st) h u) : rk_Run M B P pc lv st h u := by
  intro l p e R s m args below meth c G H locs ls C hR hS hf hl
  exact lv_ldc2 C.1 C.2.1 C.2.2.2.2.2.1 (C.2.2.2.2.2.2.1 _ hw) hd (r l p e R s m args below meth c G H locs ls C hR hS hf hl)
theorem rk_ldc2d {idx : Nat} {v : UInt64} (hw : Cond.constantDouble M.1.cls idx v ∈ rk_tbl) (hd : decode M.2.1 pc = .ok (.ldc2_w idx, 3)) (r : rk_Run M B P (pc + 3) lv (.double v :: st) h u) : rk_Run M B P pc lv st h u := by
  intro l p e R s m args below meth c G H locs ls C hR hS hf hl
  exact lv_ldc2d C.1 C.2.1 C.2.2.2.2.2.1 (C.2.2.2.2.2.2.1 _ hw) hd (r l p e R s m args below meth c G H locs ls C hR hS hf hl)
theorem rk_Kva {G : rk_G} {s : State} (hK : rk_K G s) : va_K G.2.1 vwCl [] s := ⟨hK.1, fun k q hq => by simp at hq⟩
theorem rk_lc {G : rk_G} {locs : List Loc} {a i : Nat} (hf : ∀ q ∈ locs, G.1 ≤ q.base) (ha : G.1 ≤ a) : ∀ q ∈ locs ++ [(⟨a, i⟩ : Loc)], G.1 ≤ q.base := by
  intro q hq
  rcases List.mem_append.mp hq with h1 | h1
  · exact hf q h1
  · rw [List.mem_singleton] at h1
    subst h1
    exact ha
/-- a class of the list, with the types of its fields -/
def rk_cls (ci : Nat) (C : String) (T : u_T) (N : Nat) (ty0 : Nat → FieldType) : Prop := vwCl[ci]? = some (C, T, N) ∧ (∀ w ∈ u_ws C T N, w ∈ rk_tbl) ∧ (∀ k, k < N → parseFieldDescriptor (T k).2.2.1 = some (ty0 k)) ∧ (∀ a, a < N → ∀ b, b < N → a ≠ b → (T a).2.1 ≠ (T b).2.1)
def rk_fl (own : String) (idx ci kf : Nat) : Prop := ∃ (C : String) (T : u_T) (N : Nat) (ty0 : Nat → FieldType), rk_cls ci C T N ty0 ∧ kf < N ∧ Cond.fieldLink own idx (T kf).1 (T kf).2.1 (T kf).2.2.1 ∈ rk_tbl
def rk_pl (own : String) (idx ci kf : Nat) (ty : FieldType) : Prop := ∃ (C : String) (T : u_T) (N : Nat) (ty0 : Nat → FieldType), rk_cls ci C T N ty0 ∧ kf < N ∧ Cond.fieldLink own idx (T kf).1 (T kf).2.1 (T kf).2.2.1 ∈ rk_tbl ∧ (T kf).2.2.2 = false ∧ ty0 kf = ty
def rk_pF (own : String) (idx ci kf : Nat) (ty : FieldType) : Prop := ∃ (C : String) (T : u_T) (N : Nat) (ty0 : Nat → FieldType), rk_cls ci C T N ty0 ∧ kf < N ∧ Cond.fieldLink own idx (T kf).1 (T kf).2.1 (T kf).2.2.1 ∈ rk_tbl ∧ (T kf).2.2.2 = true ∧ (T kf).1 = own ∧ ty0 kf = ty
theorem rk_getf {idx ci kf a : Nat} {fs : List Value} {v : Value} (f : rk_fl M.1.cls idx ci kf) (hd : decode M.2.1 pc = .ok (.getfield idx, 3)) (he : h a = some (oB ci fs)) (hv : fs[kf]? = some v) (r : rk_Run M B P (pc + 3) lv (v :: st) h u) : rk_Run M B P pc lv (.ref a :: st) h u := by
  intro l p e R s m args below meth c G H locs ls C hR hS hf hl
  obtain ⟨C0, T, N, ty0, ⟨hc, hin, -, -⟩, hk, hw⟩ := f
  have hts := C.2.2.2.2.2.2.1
  exact va_get (D := G.2.1) (cl := vwCl) (ws := [(a, .inr (ci, fs))]) C.1 C.2.1 hts hin C.2.2.2.2.2.1 (rk_Kva C.2.2.2.2.2.2.2.1) (fun j q hj => by
    cases j with
    | zero => cases hj; exact (hR a _ he).2
    | succ j => simp at hj) 0 rfl hc kf hk (hts _ hw) (fun _ h9 => h9) hv hd (r l p e R s m args below meth c G H locs ls C hR hS hf hl)
theorem rk_putf {idx ci kf a : Nat} {fs : List Value} {v : Value} {ty : FieldType} (f : rk_pl M.1.cls idx ci kf ty) (hd : decode M.2.1 pc = .ok (.putfield idx, 3)) (he : h a = some (oB ci fs)) (hlen : kf < fs.length) (hnr : narrow ty v = v) (hfit : fits ty v = true) (r : rk_Run M B P (pc + 3) lv st (rk_up h a (oB ci (fs.set kf v))) u) : rk_Run M B P pc lv (v :: .ref a :: st) h u := by
  intro l p e R s m args below meth c G H locs ls C hR hS hf hl
  obtain ⟨C0, T, N, ty0, ⟨hc, hin, hty, hnm⟩, hk, hw, hfin, hte⟩ := f
  have hts := C.2.2.2.2.2.2.1
  have hK := rk_Kva C.2.2.2.2.2.2.2.1
  have hap := va_apart (own := M.1.cls) hts hin ty0 hty hnm hK hc
  obtain ⟨r0, h1, cell, q1, q2, q3, q4⟩ := (hR a _ he).2
  have hr : r0 = (C0, T, N) := Option.some.inj (h1.symm.trans hc)
  subst hr
  obtain ⟨hSl, hfc, kC, hkC, hkind⟩ := hK.1 ci _ hc
  obtain ⟨cf, kf', fi, f, hi, hsl⟩ := hSl kf hk
  have hlay := hts _ (hin _ (u_in_lay hk))
  unfold u_lay at hlay
  rw [if_neg (by rw [hfin]; decide)] at hlay
  have hst := (u_facts hfc hkC (u_lays hts hin hk) hi).1
  have h6 := u_store hfc hkC hkind hlay hi (hty kf hk) (by rw [hte]; exact hnr) (by rw [hte]; exact hfit)
  refine W.putK C.1 C.2.1 (f := f) ⟨C.2.2.2.2.2.1, hts _ hw, ⟨_, _, _, hi⟩, hst⟩ (by rw [q2]; exact h6) q1 q3 (by rw [hsl]; exact k2_hasslot (q4 kf hk)) rfl rfl hd fun H' e1 e2 e3 => ?_
  rw [hsl] at e1 ⊢
  exact r l p e R s m args below meth c G H' _ ls C (hR.set (hR.wr he rfl) ⟨_, hc, t_OB.to (V := updV (vp_V fs) kf v) ⟨_, e1, q2, q3, t_set q4 hap hk v⟩ (fun j _ => vp_updV_set hlen v j)⟩ e3) (hS.put e2 e3 (hR.wr he rfl)) (rk_lc hf (hR.wr he rfl)) hl
theorem rk_putF {idx ci kf a : Nat} {fs : List Value} {v : Value} {ty : FieldType} (f : rk_pF M.1.cls idx ci kf ty) (hini : M.1.name = "<init>") (hd : decode M.2.1 pc = .ok (.putfield idx, 3)) (he : h a = some (oB ci fs)) (hlen : kf < fs.length) (hnr : narrow ty v = v) (hfit : fits ty v = true) (r : rk_Run M B P (pc + 3) lv st (rk_up h a (oB ci (fs.set kf v))) u) : rk_Run M B P pc lv (v :: .ref a :: st) h u := by
  intro l p e R s m args below meth c G H locs ls C hR hS hf hl
  obtain ⟨C0, T, N, ty0, ⟨hc, hin, hty, hnm⟩, hk, hw, hfin, hdecl, hte⟩ := f
  have hts := C.2.2.2.2.2.2.1
  have hK := rk_Kva C.2.2.2.2.2.2.2.1
  have hown := C.2.2.2.2.2.1
  have hin2 : meth.name = "<init>" := C.2.2.2.2.2.2.2.2.2.2.2.2.2.1.trans hini
  have hap := va_apart (own := M.1.cls) hts hin ty0 hty hnm hK hc
  obtain ⟨r0, h1, cell, q1, q2, q3, q4⟩ := (hR a _ he).2
  have hr : r0 = (C0, T, N) := Option.some.inj (h1.symm.trans hc)
  subst hr
  obtain ⟨hSl, hfc, kC, hkC, hkind⟩ := hK.1 ci _ hc
  obtain ⟨cf, kf', fi, f, hi, hsl⟩ := hSl kf hk
  have hlay := hts _ (hin _ (u_in_lay hk))
  unfold u_lay at hlay
  rw [if_pos hfin] at hlay
  have hst := (u_facts hfc hkC (u_lays hts hin hk) hi).1
  have hcf : m.cls = cf := by
    obtain ⟨_, _, c', _, _, _, -, -, hf', -, -, -, hown2, -⟩ := Cond.laysFinal_spec hlay
    have e1 : c' = cf := by have := hi.symm.trans hf'; simp at this; exact this.1.symm
    rw [hdecl] at hown2
    rw [← e1]; exact Option.some.inj (hown.symm.trans hown2)
  have h6 := u_fits hfc hkC hkind (Or.inr hlay) hi (hty kf hk) (by rw [hte]; exact hnr) (by rw [hte]; exact hfit)
  refine W.putFinK C.1 C.2.1 hown (hts _ hw) hi hst hcf hin2 (by rw [q2]; exact h6) q1 q3 (by rw [hsl]; exact k2_hasslot (q4 kf hk)) rfl rfl hd fun H' e1 e2 e3 => ?_
  rw [hsl] at e1 ⊢
  exact r l p e R s m args below meth c G H' _ ls C (hR.set (hR.wr he rfl) ⟨_, hc, t_OB.to (V := updV (vp_V fs) kf v) ⟨_, e1, q2, q3, t_set q4 hap hk v⟩ (fun j _ => vp_updV_set hlen v j)⟩ e3) (hS.put e2 e3 (hR.wr he rfl)) (rk_lc hf (hR.wr he rfl)) hl
theorem rk_new {idx ci N : Nat} {C0 : String} {T : u_T} {ty0 : Nat → FieldType} {fs : List Value} (kc : rk_cls ci C0 T N ty0) (hw1 : Cond.classLink M.1.cls idx C0 ∈ rk_tbl) (hw2 : Cond.instantiable C0 N ∈ rk_tbl) (hw3 : Cond.initialized C0 ∈ rk_tbl) (hfs : ∀ j, j < N → defaultValue (ty0 j) = vp_V fs j) (hd : decode M.2.1 pc = .ok (.new idx, 3)) (hk : u.1 + 1 ≤ B.2.2.1) (hn : u.2 + N ≤ B.2.2.2)
    (r : ∀ q : Nat, h q = none → rk_Run M B P (pc + 3) lv (.ref q :: st) (rk_up h q (oB ci fs)) (u.1 + 1, u.2 + N)) : rk_Run M B P pc lv st h u := by
  intro l p e R s m args below meth c G H locs ls C hR hS hf hl
  obtain ⟨hc, hin, hty, hnm⟩ := kc
  have hts := C.2.2.2.2.2.2.1
  have hKn := C.2.2.2.2.2.2.2.1.1 ci _ hc
  have hcells := C.2.2.2.2.2.2.2.2.2.2.2.1
  have hslots := C.2.2.2.2.2.2.2.2.2.2.2.2.1
  refine W.newcK C.1 C.2.1 C.2.2.2.2.2.1 (hts _ hw1) (hts _ hw2) (hts _ hw3) rfl hd (Nat.le_trans hk hcells) (Nat.le_trans hn hslots) hKn.2.1 rfl fun H1 kC hkC e1 z1 o1 => ?_
  exact r H.size hR.fresh l p e R s m args below meth c G H1 locs ls C (hR.push hS.1.1 ⟨_, hc, (u_born ty0 hts hin hKn hkC e1 hty).to hfs⟩ o1) (hS.push z1 o1) hf hl
/-- the int array's kind is 0 in rk_ty -/
theorem rk_newi {N : Nat} {x : Int32} {at0 : ArrayType} (hat : newarray.typeOf at0 = .int) (hw : Cond.arrayClass .int ∈ rk_tbl) (hx : x = nI N) (hN : N < 100000) (hd : decode M.2.1 pc = .ok (.newarray at0, 2)) (hk : u.1 + 1 ≤ B.2.2.1) (hn : u.2 + N ≤ B.2.2.2)
    (r : ∀ q : Nat, h q = none → rk_Run M B P (pc + 2) lv (.ref q :: st) (rk_up h q (.inl (0, N, .inl (fun _ => 0)))) (u.1 + 1, u.2 + N)) : rk_Run M B P pc lv (.int x :: st) h u := by
  intro l p e R s m args below meth c G H locs ls C hR hS hf hl
  subst hx
  have hts := C.2.2.2.2.2.2.1
  have hcells := C.2.2.2.2.2.2.2.2.2.2.2.1
  have hslots := C.2.2.2.2.2.2.2.2.2.2.2.2.1
  refine va_newaK C.1 C.2.1 (atype := at0) (by rw [hat]; exact hts _ hw) rfl hd rfl (nI_pos (by omega)) (nI_clamp (by omega)) (by rw [hat]; show N * 4 ≤ _; omega) (Nat.le_trans hk hcells) (Nat.le_trans hn hslots) rfl fun H1 cA e1 z1 o1 _ hNm => ?_
  rw [hat] at e1 hNm
  have hcA : cA = G.2.2 0 := Option.some.inj (hNm.symm.trans (show s.vm.findClass ("[" ++ FieldType.int.toString) = some (G.2.2 0) from (C.2.2.2.2.2.2.2.1.2.1 0 .int rfl).2))
  subst hcA
  exact r H.size hR.fresh l p e R s m args below meth c G H1 locs ls C (hR.push hS.1.1 (show H1[H.size]? = some (vp_cell (G.2.2 0) (N, .inl (fun _ => 0))) from e1) o1) (hS.push z1 o1) hf hl
theorem rk_iald {a N : Nat} {f : Nat → Int32} {i : Int32} (hd : decode M.2.1 pc = .ok (.iaload, 1)) (he : h a = some (.inl (0, N, .inl f))) (hi : vp_in i N) (r : rk_Run M B P (pc + 1) lv (.int (f i.toNatClampNeg) :: st) h u) : rk_Run M B P pc lv (.int i :: .ref a :: st) h u := by
  intro l p e R s m args below meth c G H locs ls C hR hS hf hl
  have hlt : i.toNatClampNeg < N := Nat.not_le.mp fun q => hi (Or.inr q)
  exact W.iald (v := .int (f i.toNatClampNeg)) C.1 C.2.1 (show H[a]? = some (vp_cell (G.2.2 0) (N, .inl f)) from (hR a _ he).2) ((C.2.2.2.2.2.2.2.1.2.1 0 .int rfl).1 N (fun j => .int (f j))) (fun q => by cases q) (by show ¬ (i < 0 ∨ (arrV _ _ _).slots.size ≤ _); rw [arrV_size]; exact hi) (by show (arrV _ _ _).slots[_]? = _; rw [arrV_read _ _ hlt]) rfl rfl hd (r l p e R s m args below meth c G H locs ls C hR hS hf hl)
theorem rk_iast {a N : Nat} {f : Nat → Int32} {i x : Int32} (hd : decode M.2.1 pc = .ok (.iastore, 1)) (he : h a = some (.inl (0, N, .inl f))) (hi : vp_in i N) (r : rk_Run M B P (pc + 1) lv st (rk_up h a (.inl (0, N, .inl (upd f i.toNatClampNeg x)))) u) : rk_Run M B P pc lv (.int x :: .int i :: .ref a :: st) h u := by
  intro l p e R s m args below meth c G H locs ls C hR hS hf hl
  refine W.iast C.1 C.2.1 (show H[a]? = some (vp_cell (G.2.2 0) (N, .inl f)) from (hR a _ he).2) ((C.2.2.2.2.2.2.2.1.2.1 0 .int rfl).1 N (fun j => .int (f j))) (fun q => by cases q) (by show ¬ (i < 0 ∨ (arrV _ _ _).slots.size ≤ _); rw [arrV_size]; exact hi) rfl rfl hd fun H1 e1 z oq => ?_
  refine r l p e R s m args below meth c G H1 _ ls C (hR.set (hR.wr he rfl) ?_ oq) (hS.put z oq (hR.wr he rfl)) (rk_lc hf (hR.wr he rfl)) hl
  show H1[a]? = some (vp_cell _ _)
  rw [e1]
  rw [vp_cell_i, vp_cell_i, arrV_store]
  congr 2
  funext q
  by_cases hq : q = i.toNatClampNeg
  · subst hq
    simp [updV, upd]
  · simp [updV, upd, hq]
theorem rk_lald {a N : Nat} {f : Nat → Int64} {i : Int32} (hd : decode M.2.1 pc = .ok (.laload, 1)) (he : h a = some (.inl (1, N, .inr (.inl f)))) (hi : vp_in i N) (r : rk_Run M B P (pc + 1) lv (.long (f i.toNatClampNeg) :: st) h u) : rk_Run M B P pc lv (.int i :: .ref a :: st) h u := by
  intro l p e R s m args below meth c G H locs ls C hR hS hf hl
  have hlt : i.toNatClampNeg < N := Nat.not_le.mp fun q => hi (Or.inr q)
  exact W.lald (v := .long (f i.toNatClampNeg)) C.1 C.2.1 (show H[a]? = some (vp_cell (G.2.2 1) (N, .inr (.inl f))) from (hR a _ he).2) ((C.2.2.2.2.2.2.2.1.2.1 1 .long rfl).1 N (fun j => .long (f j))) (fun q => by cases q) (by show ¬ (i < 0 ∨ (arrV _ _ _).slots.size ≤ _); rw [arrV_size]; exact hi) (by show (arrV _ _ _).slots[_]? = _; rw [arrV_read _ _ hlt]) rfl rfl hd (r l p e R s m args below meth c G H locs ls C hR hS hf hl)
theorem rk_last {a N : Nat} {f : Nat → Int64} {i : Int32} {x : Int64} (hd : decode M.2.1 pc = .ok (.lastore, 1)) (he : h a = some (.inl (1, N, .inr (.inl f)))) (hi : vp_in i N) (r : rk_Run M B P (pc + 1) lv st (rk_up h a (.inl (1, N, .inr (.inl (va_up f i.toNatClampNeg x))))) u) : rk_Run M B P pc lv (.long x :: .int i :: .ref a :: st) h u := by
  intro l p e R s m args below meth c G H locs ls C hR hS hf hl
  refine W.last C.1 C.2.1 (show H[a]? = some (vp_cell (G.2.2 1) (N, .inr (.inl f))) from (hR a _ he).2) ((C.2.2.2.2.2.2.2.1.2.1 1 .long rfl).1 N (fun j => .long (f j))) (fun q => by cases q) (by show ¬ (i < 0 ∨ (arrV _ _ _).slots.size ≤ _); rw [arrV_size]; exact hi) rfl rfl hd fun H1 e1 z oq => ?_
  refine r l p e R s m args below meth c G H1 _ ls C (hR.set (hR.wr he rfl) ?_ oq) (hS.put z oq (hR.wr he rfl)) (rk_lc hf (hR.wr he rfl)) hl
  show H1[a]? = some (vp_cell _ _)
  rw [e1]
  rw [vp_cell_l, vp_cell_l, arrV_store]
  congr 2
  funext q
  by_cases hq : q = i.toNatClampNeg
  · subst hq
    simp [updV, va_up]
  · simp [updV, va_up, hq]
theorem rk_newl {N : Nat} {x : Int32} {at0 : ArrayType} (hat : newarray.typeOf at0 = .long) (hw : Cond.arrayClass .long ∈ rk_tbl) (hx : x = nI N) (hN : N < 100000) (hd : decode M.2.1 pc = .ok (.newarray at0, 2)) (hk : u.1 + 1 ≤ B.2.2.1) (hn : u.2 + N ≤ B.2.2.2)
    (r : ∀ q : Nat, h q = none → rk_Run M B P (pc + 2) lv (.ref q :: st) (rk_up h q (.inl (1, N, .inr (.inl (fun _ => 0))))) (u.1 + 1, u.2 + N)) : rk_Run M B P pc lv (.int x :: st) h u := by
  intro l p e R s m args below meth c G H locs ls C hR hS hf hl
  subst hx
  have hts := C.2.2.2.2.2.2.1
  have hcells := C.2.2.2.2.2.2.2.2.2.2.2.1
  have hslots := C.2.2.2.2.2.2.2.2.2.2.2.2.1
  refine va_newaK C.1 C.2.1 (atype := at0) (by rw [hat]; exact hts _ hw) rfl hd rfl (nI_pos (by omega)) (nI_clamp (by omega)) (by rw [hat]; show N * 8 ≤ _; omega) (Nat.le_trans hk hcells) (Nat.le_trans hn hslots) rfl fun H1 cA e1 z1 o1 _ hNm => ?_
  rw [hat] at e1 hNm
  have hcA : cA = G.2.2 1 := Option.some.inj (hNm.symm.trans (show s.vm.findClass ("[" ++ FieldType.long.toString) = some (G.2.2 1) from (C.2.2.2.2.2.2.2.1.2.1 1 .long rfl).2))
  subst hcA
  exact r H.size hR.fresh l p e R s m args below meth c G H1 locs ls C (hR.push hS.1.1 (show H1[H.size]? = some (vp_cell (G.2.2 1) (N, .inr (.inl (fun _ => 0)))) from e1) o1) (hS.push z1 o1) hf hl
theorem rk_dald {a N : Nat} {f : Nat → UInt64} {i : Int32} (hd : decode M.2.1 pc = .ok (.daload, 1)) (he : h a = some (.inl (2, N, .inr (.inr (.inr (.inl f)))))) (hi : vp_in i N) (r : rk_Run M B P (pc + 1) lv (.double (f i.toNatClampNeg) :: st) h u) : rk_Run M B P pc lv (.int i :: .ref a :: st) h u := by
  intro l p e R s m args below meth c G H locs ls C hR hS hf hl
  have hlt : i.toNatClampNeg < N := Nat.not_le.mp fun q => hi (Or.inr q)
  exact W.dald (v := .double (f i.toNatClampNeg)) C.1 C.2.1 (show H[a]? = some (vp_cell (G.2.2 2) (N, .inr (.inr (.inr (.inl f))))) from (hR a _ he).2) ((C.2.2.2.2.2.2.2.1.2.1 2 .double rfl).1 N (fun j => .double (f j))) (fun q => by cases q) (by show ¬ (i < 0 ∨ (arrV _ _ _).slots.size ≤ _); rw [arrV_size]; exact hi) (by show (arrV _ _ _).slots[_]? = _; rw [arrV_read _ _ hlt]) rfl rfl hd (r l p e R s m args below meth c G H locs ls C hR hS hf hl)
theorem rk_dast {a N : Nat} {f : Nat → UInt64} {i : Int32} {x : UInt64} (hd : decode M.2.1 pc = .ok (.dastore, 1)) (he : h a = some (.inl (2, N, .inr (.inr (.inr (.inl f)))))) (hi : vp_in i N) (r : rk_Run M B P (pc + 1) lv st (rk_up h a (.inl (2, N, .inr (.inr (.inr (.inl (va_up f i.toNatClampNeg x))))))) u) : rk_Run M B P pc lv (.double x :: .int i :: .ref a :: st) h u := by
  intro l p e R s m args below meth c G H locs ls C hR hS hf hl
  refine W.dast C.1 C.2.1 (show H[a]? = some (vp_cell (G.2.2 2) (N, .inr (.inr (.inr (.inl f))))) from (hR a _ he).2) ((C.2.2.2.2.2.2.2.1.2.1 2 .double rfl).1 N (fun j => .double (f j))) (fun q => by cases q) (by show ¬ (i < 0 ∨ (arrV _ _ _).slots.size ≤ _); rw [arrV_size]; exact hi) rfl rfl hd fun H1 e1 z oq => ?_
  refine r l p e R s m args below meth c G H1 _ ls C (hR.set (hR.wr he rfl) ?_ oq) (hS.put z oq (hR.wr he rfl)) (rk_lc hf (hR.wr he rfl)) hl
  show H1[a]? = some (vp_cell _ _)
  rw [e1]
  rw [vp_cell_d, vp_cell_d, arrV_store]
  congr 2
  funext q
  by_cases hq : q = i.toNatClampNeg
  · subst hq
    simp [updV, va_up]
  · simp [updV, va_up, hq]
theorem rk_newd {N : Nat} {x : Int32} {at0 : ArrayType} (hat : newarray.typeOf at0 = .double) (hw : Cond.arrayClass .double ∈ rk_tbl) (hx : x = nI N) (hN : N < 100000) (hd : decode M.2.1 pc = .ok (.newarray at0, 2)) (hk : u.1 + 1 ≤ B.2.2.1) (hn : u.2 + N ≤ B.2.2.2)
    (r : ∀ q : Nat, h q = none → rk_Run M B P (pc + 2) lv (.ref q :: st) (rk_up h q (.inl (2, N, .inr (.inr (.inr (.inl (fun _ => 0))))))) (u.1 + 1, u.2 + N)) : rk_Run M B P pc lv (.int x :: st) h u := by
  intro l p e R s m args below meth c G H locs ls C hR hS hf hl
  subst hx
  have hts := C.2.2.2.2.2.2.1
  have hcells := C.2.2.2.2.2.2.2.2.2.2.2.1
  have hslots := C.2.2.2.2.2.2.2.2.2.2.2.2.1
  refine va_newaK C.1 C.2.1 (atype := at0) (by rw [hat]; exact hts _ hw) rfl hd rfl (nI_pos (by omega)) (nI_clamp (by omega)) (by rw [hat]; show N * 8 ≤ _; omega) (Nat.le_trans hk hcells) (Nat.le_trans hn hslots) rfl fun H1 cA e1 z1 o1 _ hNm => ?_
  rw [hat] at e1 hNm
  have hcA : cA = G.2.2 2 := Option.some.inj (hNm.symm.trans (show s.vm.findClass ("[" ++ FieldType.double.toString) = some (G.2.2 2) from (C.2.2.2.2.2.2.2.1.2.1 2 .double rfl).2))
  subst hcA
  exact r H.size hR.fresh l p e R s m args below meth c G H1 locs ls C (hR.push hS.1.1 (show H1[H.size]? = some (vp_cell (G.2.2 2) (N, .inr (.inr (.inr (.inl (fun _ => 0)))))) from e1) o1) (hS.push z1 o1) hf hl
theorem rk_sarr {G : rk_G} {s : State} {cell : Cell} (hK : rk_K G s) (h1 : cell.cls = G.2.2 0) (h2 : ∀ k, cell.vm ≠ .statics k) : s.isArrayOf cell .int := by
  obtain ⟨-, k, hk, comp, hkind⟩ := (hK.2.1 0 .int rfl).1 0 (fun _ => .null)
  exact ⟨h2, k, by rw [h1]; exact hk, comp, hkind⟩
theorem rk_sald {a N : Nat} {f : Nat → Int32} {i : Int32} (hd : decode M.2.1 pc = .ok (.iaload, 1)) (he : h a = some (sA N f)) (hi : vp_in i N) (r : rk_Run M B P (pc + 1) lv (.int (f i.toNatClampNeg) :: st) h u) : rk_Run M B P pc lv (.int i :: .ref a :: st) h u := by
  intro l p e R s m args below meth c G H locs ls C hR hS hf hl
  have hlt : i.toNatClampNeg < N := Nat.not_le.mp fun q => hi (Or.inr q)
  obtain ⟨cell, g1, g2, g3, g4, g5, g6⟩ := (hR a _ he).2
  exact W.iald (v := .int (f i.toNatClampNeg)) C.1 C.2.1 g1 (rk_sarr C.2.2.2.2.2.2.2.1 g2 g3) g4 (by rw [show cell.slots.size = N from g5]; exact hi) (g6 _ hlt) rfl rfl hd (r l p e R s m args below meth c G H locs ls C hR hS hf hl)
theorem rk_slen {a N : Nat} {f : Nat → Int32} (hd : decode M.2.1 pc = .ok (.arraylength, 1)) (he : h a = some (sA N f)) (r : rk_Run M B P (pc + 1) lv (.int (nI N) :: st) h u) : rk_Run M B P pc lv (.ref a :: st) h u := by
  intro l p e R s m args below meth c G H locs ls C hR hS hf hl
  obtain ⟨cell, g1, g2, g3, g4, g5, g6⟩ := (hR a _ he).2
  exact W.alen (n := nI N) C.1 C.2.1 g1 (rk_sarr C.2.2.2.2.2.2.2.1 g2 g3) (by rw [show cell.slots.size = N from g5]; rfl) rfl rfl hd (r l p e R s m args below meth c G H locs ls C hR hS hf hl)
theorem rk_alen {a N kd : Nat} {x : (Nat → Int32) ⊕ (Nat → Int64) ⊕ (Nat → UInt32) ⊕ (Nat → UInt64) ⊕ (Nat → Option Nat)} (hkd : kd < rk_ty.length) (hd : decode M.2.1 pc = .ok (.arraylength, 1)) (he : h a = some (.inl (kd, N, x))) (r : rk_Run M B P (pc + 1) lv (.int (nI N) :: st) h u) : rk_Run M B P pc lv (.ref a :: st) h u := by
  intro l p e R s m args below meth c G H locs ls C hR hS hf hl
  have hk := C.2.2.2.2.2.2.2.1.2.1 kd rk_ty[kd] (List.getElem?_eq_getElem hkd)
  exact va_alen (D := G.2.1) (cl := vwCl) (ws := [(a, .inl (G.2.2 kd, N, x))]) (tys := [(G.2.2 kd, rk_ty[kd])]) C.1 C.2.1 ⟨C.2.2.2.2.2.2.2.1.1, fun j q hj => by
    cases j with
    | zero => cases hj; exact hk
    | succ j => simp at hj⟩ (fun j q hj => by
    cases j with
    | zero => cases hj; exact (hR a _ he).2
    | succ j => simp at hj) 0 0 rfl rfl rfl hd (r l p e R s m args below meth c G H locs ls C hR hS hf hl)
/-- references: the kinds of rk_ty from 1 on -/
theorem rk_aald {a N kd : Nat} {C0 : String} {f : Nat → Option Nat} {i : Int32} {v : Value} (hty : rk_ty[kd]? = some (.object C0)) (hd : decode M.2.1 pc = .ok (.aaload, 1)) (he : h a = some (.inl (kd, N, .inr (.inr (.inr (.inr f)))))) (hi : vp_in i N) (hv : va_rf (f i.toNatClampNeg) = v) (r : rk_Run M B P (pc + 1) lv (v :: st) h u) : rk_Run M B P pc lv (.int i :: .ref a :: st) h u := by
  intro l p e R s m args below meth c G H locs ls C hR hS hf hl
  subst hv
  have hlt : i.toNatClampNeg < N := Nat.not_le.mp fun q => hi (Or.inr q)
  exact W.aald (v := va_rf (f i.toNatClampNeg)) (ty := .object C0) C.1 C.2.1 (show H[a]? = some (vp_cell (G.2.2 kd) (N, .inr (.inr (.inr (.inr f))))) from (hR a _ he).2) ((C.2.2.2.2.2.2.2.1.2.1 kd _ hty).1 N (fun j => va_rf (f j))) rfl (fun q => by cases q) (by show ¬ (i < 0 ∨ (arrV _ _ _).slots.size ≤ _); rw [arrV_size]; exact hi) (by show (arrV _ _ _).slots[_]? = _; rw [arrV_read _ _ hlt]) rfl rfl hd (r l p e R s m args below meth c G H locs ls C hR hS hf hl)
theorem rk_aast {a N kd v ci : Nat} {rc : vw_C} {vs : List Value} {f : Nat → Option Nat} {i : Int32} (hty : rk_ty[kd]? = some (.object rc.1)) (hc : vwCl[ci]? = some rc) (hd : decode M.2.1 pc = .ok (.aastore, 1)) (he : h a = some (.inl (kd, N, .inr (.inr (.inr (.inr f)))))) (hv : h v = some (oB ci vs)) (hi : vp_in i N) (r : rk_Run M B P (pc + 1) lv st (rk_up h a (.inl (kd, N, .inr (.inr (.inr (.inr (va_up f i.toNatClampNeg (some v)))))))) u) : rk_Run M B P pc lv (.ref v :: .int i :: .ref a :: st) h u := by
  intro l p e R s m args below meth c G H locs ls C hR hS hf hl
  have hlt : i.toNatClampNeg < N := Nat.not_le.mp fun q => hi (Or.inr q)
  have h0 : ¬ i < 0 := fun q => hi (Or.inl q)
  obtain ⟨r', hr', cellV, g1, g2, g3, -⟩ := (hR v _ hv).2
  have hcls := (C.2.2.2.2.2.2.2.1.1 ci rc hc).2
  obtain ⟨kA, comp, k1, k2, k3, -⟩ := (C.2.2.2.2.2.2.2.1.2.1 kd _ hty).2
  have hcomp : comp = G.2.1.1 ci := Option.some.inj (k3.symm.trans hcls.1)
  subst hcomp
  obtain ⟨kC, hkC, -⟩ := hcls.2
  refine W.aast C.1 C.2.1 (show H[a]? = some (vp_cell (G.2.2 kd) (N, .inr (.inr (.inr (.inr f))))) from (hR a _ he).2) (fun q h => by cases h) (fun h => by cases h) k1 k2 rfl hkC ⟨h0, by show _ < (arrV _ _ _).slots.size; rw [arrV_size]; exact hlt⟩ g1 (fun q h => by rw [g3] at h; cases h) (by rw [g2]; exact hkC) (by rw [g2]; exact va_assign hcls) rfl rfl hd fun H1 e1 z oq => ?_
  refine r l p e R s m args below meth c G H1 _ ls C (hR.set (hR.wr he rfl) ?_ oq) (hS.put z oq (hR.wr he rfl)) (rk_lc hf (hR.wr he rfl)) hl
  show H1[a]? = some (vp_cell _ _)
  rw [e1]
  rw [vp_cell_q, vp_cell_q, arrV_store]
  congr 2
  funext q
  by_cases hq : q = i.toNatClampNeg
  · subst hq
    simp [updV, va_up, va_rf]
  · simp [updV, va_up, hq]
theorem rk_newq {idx N : Nat} {x : Int32} (hw : Cond.classLink M.1.cls idx "TensorForge$Node" ∈ rk_tbl) (hx : x = nI N) (hN : N < 100000) (hd : decode M.2.1 pc = .ok (.anewarray idx, 3)) (hk : u.1 + 1 ≤ B.2.2.1) (hn : u.2 + N ≤ B.2.2.2)
    (r : ∀ q : Nat, h q = none → rk_Run M B P (pc + 3) lv (.ref q :: st) (rk_up h q (qA N (fun _ => none))) (u.1 + 1, u.2 + N)) : rk_Run M B P pc lv (.int x :: st) h u := by
  intro l p e R s m args below meth c G H locs ls C hR hS hf hl
  subst hx
  have hts := C.2.2.2.2.2.2.1
  have hcells := C.2.2.2.2.2.2.2.2.2.2.2.1
  have hslots := C.2.2.2.2.2.2.2.2.2.2.2.2.1
  have hcl : (nI N).toNatClampNeg = N := nI_clamp (by omega)
  refine W.anew C.1 C.2.1 C.2.2.2.2.2.1 (hts _ hw) (va_AO.use C.2.2.2.2.2.2.2.1.2.2.2.2.2.2) rfl hd rfl (nI_pos (by omega)) (by rw [hcl]; omega) (Nat.le_trans hk hcells) (by rw [hcl]; exact Nat.le_trans hn hslots) fun cA kA comp f1 f2 f3 f4 => ?_
  rw [hcl]
  obtain ⟨kA', comp', k1, k2, k3, k4⟩ := (C.2.2.2.2.2.2.2.1.2.1 3 _ rfl).2
  have hcA : cA = G.2.2 3 := Option.some.inj (f1.symm.trans k4)
  subst hcA
  generalize hH1 : H.push ({ cls := G.2.2 3, slots := Array.replicate N .null, vm := .none } : Cell) = H1
  have z1 : H1.size = H.size + 1 := by rw [← hH1, Array.size_push]
  have e1 : H1[H.size]? = some (arrV (G.2.2 3) N (fun _ => .null)) := by rw [← hH1, Array.getElem?_push_size, ← arrV_new]
  have o1 : ∀ q : Nat, q < H.size → H1[q]? = H[q]? := fun q hq => by rw [← hH1, Array.getElem?_push, if_neg (Nat.ne_of_lt hq)]
  exact r H.size hR.fresh l p e R s m args below meth c G H1 locs ls C (hR.push hS.1.1 (show H1[H.size]? = some (vp_cell (G.2.2 3) (N, .inr (.inr (.inr (.inr (fun _ => none)))))) from e1) o1) (hS.push z1 o1) hf hl
/-- Object's constructor -/
theorem rk_objI {idx a : Nat} (hw : Cond.methodLink M.1.cls idx objectInit ∈ rk_tbl) (hw2 : Cond.instanceMethod objectInit ∈ rk_tbl) (hw3 : Cond.code objectInit ⟨#[0xb1]⟩ 1 none ∈ rk_tbl) (hd : decode M.2.1 pc = .ok (.invokespecial idx, 3)) (hf1 : 1 ≤ B.1) (hst : (st.map fun v => v.category).sum + 15 ≤ B.2.1) (r : rk_Run M B P (pc + 3) lv st h u) : rk_Run M B P pc lv (.ref a :: st) h u := by
  intro l p e R s m args below meth c G H locs ls C hR hS hf hl
  have hts := C.2.2.2.2.2.2.1
  have h1 := C.2.2.2.2.2.2.2.2.2.1
  have h2 := C.2.2.2.2.2.2.2.2.2.2.1
  exact W.objInit C.1 C.2.1 C.2.2.2.2.2.1 (hts _ hw) (hts _ hw2) (hts _ hw3) rfl (by rw [C.2.2.1]; exact hl.1) rfl hd (by omega) (by show 2 * 0 + _ + 12 ≤ _; omega) (r l p e R s m args below meth c G H locs ls C hR hS hf hl)
/-- Math -/
theorem rk_mmax {idx : Nat} {x y : Int32} (hw : Cond.methodLink M.1.cls idx Lib.Math.max.name ∈ rk_tbl) (hw2 : Cond.static Lib.Math.max.name ∈ rk_tbl) (hw3 : Cond.initialized "java/lang/Math" ∈ rk_tbl) (hw4 : Cond.code Lib.Math.max.name Lib.Math.max.code 2 (some .int) ∈ rk_tbl) (hd : decode M.2.1 pc = .ok (.invokestatic idx, 3)) (hu : rk_ok u B) (hf1 : 1 ≤ B.1) (hst : (st.map fun v => v.category).sum + 15 ≤ B.2.1) (r : rk_Run M B P (pc + 3) lv (.int (if x < y then y else x) :: st) h u) : rk_Run M B P pc lv (.int y :: .int x :: st) h u := by
  intro l p e R s m args below meth c G H locs ls C hR hS hf hl
  have hts := C.2.2.2.2.2.2.1
  have h1 := C.2.2.2.2.2.2.2.2.2.1
  have h2 := C.2.2.2.2.2.2.2.2.2.2.1
  exact va_mmax C.1 C.2.1 (by rw [C.2.2.1]; exact hl.1.symm) C.2.2.2.2.2.1 (hts _ hw) (hts _ hw2) (hts _ hw3) (hts _ hw4) (by omega) (by omega) (Nat.le_trans hu.1 C.2.2.2.2.2.2.2.2.2.2.2.1) (Nat.le_trans hu.2 C.2.2.2.2.2.2.2.2.2.2.2.2.1) hd (r l p e R s m args below meth c G H locs ls C hR hS hf hl)
theorem rk_mmin {idx : Nat} {x y : Int32} (hw : Cond.methodLink M.1.cls idx Lib.Math.min.name ∈ rk_tbl) (hw2 : Cond.static Lib.Math.min.name ∈ rk_tbl) (hw3 : Cond.initialized "java/lang/Math" ∈ rk_tbl) (hw4 : Cond.code Lib.Math.min.name Lib.Math.min.code 2 (some .int) ∈ rk_tbl) (hd : decode M.2.1 pc = .ok (.invokestatic idx, 3)) (hu : rk_ok u B) (hf1 : 1 ≤ B.1) (hst : (st.map fun v => v.category).sum + 15 ≤ B.2.1) (r : rk_Run M B P (pc + 3) lv (.int (if y < x then y else x) :: st) h u) : rk_Run M B P pc lv (.int y :: .int x :: st) h u := by
  intro l p e R s m args below meth c G H locs ls C hR hS hf hl
  have hts := C.2.2.2.2.2.2.1
  have h1 := C.2.2.2.2.2.2.2.2.2.1
  have h2 := C.2.2.2.2.2.2.2.2.2.2.1
  exact va_mmin C.1 C.2.1 (by rw [C.2.2.1]; exact hl.1.symm) C.2.2.2.2.2.1 (hts _ hw) (hts _ hw2) (hts _ hw3) (hts _ hw4) (by omega) (by omega) (Nat.le_trans hu.1 C.2.2.2.2.2.2.2.2.2.2.2.1) (Nat.le_trans hu.2 C.2.2.2.2.2.2.2.2.2.2.2.2.1) hd (r l p e R s m args below meth c G H locs ls C hR hS hf hl)
end RKR
/-! CALLS -/
def rk_find : List (Nat × Nat × Nat × Nat × String) → Nat → String → Option Nat
  | [], _, _ => none
  | q :: t, pc, C => if q.1 ≤ pc ∧ pc < q.2.1 then (if q.2.2.2.2 = C then some q.2.2.1 else rk_find t pc C) else rk_find t pc C
/-- what goes on behind a call -/
def rk_nx (M : rk_M) (B : rk_B) (P : rk_P) (pc : Nat) (lv : List (Option Value)) (rest : List Value) (h : rk_H) (u : rk_U) (r : rk_O) : Prop := match r with
  | .inl v => rk_Run M B P (pc + 3) lv (v.toList ++ rest) h u
  | .inr C => match M.2.2.2.2 with
    | [] => P (.inr C) h ∧ rk_ok u B
    | hh => (∃ hp : Nat, rk_find hh pc C = some hp ∧ ∀ a : Nat, rk_Run M B P hp lv [.ref a] h u) ∧ C ∈ rk_exc ∧ ∀ q ∈ hh, q.2.2.2.1 ≠ 0 ∧ q.2.2.2.2 ∈ rk_exc ∧ Cond.classLink M.1.cls q.2.2.2.1 q.2.2.2.2 ∈ rk_tbl
theorem rk_wd_spec {N : rk_M} {args : Array Value} {s : State} (h : (rk_wd N).before args s = true) : ∃ (mk : MethodId) (meth : Method) (cd : Code), s.methodNamed? N.1 = some mk ∧ s.vm.method? mk = some meth ∧ meth.code = some cd ∧ cd.maxLocals = N.2.2.1 ∧ parseMethodDescriptor N.1.desc = some meth.sig := by
  obtain ⟨y, bs, nL, rt, hh⟩ := N
  cases hh with
  | nil =>
    have h' : (Cond.code y bs nL rt).before args s = true := h
    obtain ⟨mk, hn⟩ := Cond.code_named h'
    obtain ⟨meth, c, h1, h2, h3, h4, h5, h6, h7, h8⟩ := Cond.code_spec hn h'
    exact ⟨mk, meth, c, hn, h1, h2, h4, h8⟩
  | cons q t =>
    obtain ⟨m', meth, c, h0, h1, h2, h3, h4, h5, h6, h7, h8⟩ := Cond.codeWith_spec (show (Cond.codeWith y bs nL rt (rk_hh (y, bs, nL, rt, q :: t))).before args s = true from h)
    exact ⟨m', meth, c, h0, h1, h2, h4, h8⟩
/-- the call itself, from the state with its entry noted -/
theorem rk_go {p : Program} {l : Launch} {e : Env} {R : Room} {s : State} {m : MethodId} {args : Array Value} {below : List Frame} {meth : Method} {c : Code} {T : State} {locs : List Loc} {cells slots : Nat} {M N : rk_M} {B B' : rk_B} {G : rk_G} {As : List Value} {h : rk_H} {P' : rk_P}
    (X : Stand p l e R s m args below meth c T locs cells slots) (C : rk_Cx M B l p e R s m args meth c G) (con : rk_Con N B' As h P') (hw : rk_wd N ∈ rk_tbl) (hini : Cond.initialized N.1.cls ∈ rk_tbl)
    (hR : rk_R G h T.heap) (hS : rk_S G s.heap T.heap) {g : JFrame} (hg : g.method = m) (hsize : g.locals.size = c.maxLocals) {ig : Instr} (hdg : decode c.code g.pc = .ok (ig, 3)) (hmon : g.monitorRoom = 0) (hst : (g.stack.map fun v => v.category).sum + (N.2.2.1 + 11) + B'.2.1 ≤ B.2.1) (hdd : B'.1 + 1 ≤ B.1) (hk : cells + B'.2.2.1 ≤ B.2.2.1) (hn : slots + B'.2.2.2 ≤ B.2.2.2)
    {mk : MethodId} (hnm : s.methodNamed? N.1 = some mk) :
    ∃ (r : rk_O) (h' : rk_H) (o : Outcome) (t T' : State) (L : List Loc), Steps p.tables e below (doInvoke e (T.setTop g) [] mk As.toArray).1 t ∧ P' r h' ∧ rk_out r o t ∧ rk_R G h' T'.heap ∧ rk_S G s.heap T'.heap ∧ (∀ q ∈ L, G.1 ≤ q.base) ∧ T'.heap = t.heap ∧ T'.vm = t.vm ∧
      Stand p l e R s m args below meth c T' (locs ++ L) (cells + B'.2.2.1) (slots + B'.2.2.2) ∧
      (∀ v, o = .returned v → t = T'.setTop { g with pc := g.pc + 3, stack := v.toList ++ g.stack }) ∧ (∀ x, o = .threw x → t = (T'.setTop g).pushFrame (.throwing x)) := by
  have hts := C.2.2.2.2.2.2.1
  have hfr := C.2.2.2.2.2.2.2.2.2.1
  have hlo := C.2.2.2.2.2.2.2.2.2.2.1
  have hcl := C.2.2.2.2.2.2.2.2.2.2.2.1
  have hsl := C.2.2.2.2.2.2.2.2.2.2.2.2.1
  have hok := C.2.2.2.2.2.2.2.2.2.2.2.2.2.2
  have hwT : ∀ w ∈ rk_wd N :: rk_tbl, w.before As.toArray T = true := by
    intro w hw'
    have hin : w ∈ rk_tbl := by
      rcases List.mem_cons.mp hw' with rfl | q
      · exact hw
      · exact q
    exact word_at X.warmed (rk_good w hin) (hts w hin)
  obtain ⟨mkT, methT, cT, e1, e2, e3, e4, e5⟩ := rk_wd_spec (hwT _ List.mem_cons_self)
  have hnT : T.methodNamed? N.1 = some mk := X.named hnm
  cases hnT.symm.trans e1
  obtain ⟨kY, hkY, -⟩ := className_of_methodNamed hnT
  have hinitY : kY.init = .initialized := Cond.initialized_spec (findClass_of_methodNamed hnT) hkY (hwT _ (List.mem_cons_of_mem _ hini))
  have hAt : At T g.method c below := by rw [hg]; exact X.here
  have happ : (headSpec (rk_wd N :: rk_tbl) { frames := B'.1, cells := B'.2.2.1, slots := B'.2.2.2, locals := B'.2.1 }).appliesLoose N.1 e.platform (T.calling g mk As.toArray) = true :=
    Spec.appliesLoose_calling (g := g) hAt hdg hnT hkY hinitY
      (X.room_calling (g := g) (R' := { frames := B'.1, cells := B'.2.2.1, slots := B'.2.2.2, locals := B'.2.1 }) hsize e2 e3 (by dsimp only; omega) (by rw [e4, hmon]; dsimp only; omega) (by dsimp only; omega) (by dsimp only; omega)) (atoms_intro hwT)
  obtain ⟨mid, hmid⟩ := hAt.above
  have hfrm : (T.setTop g).frames = (.java g :: mid) ++ below := by rw [State.frames_setTop' g hAt.top, hmid]; rfl
  have hKT : rk_K G (T.calling g mk As.toArray) := C.2.2.2.2.2.2.2.1.next (U := T.calling g mk As.toArray) X.warmed hS
  obtain ⟨o, t, hsteps, -, hend, hq⟩ := Steps.callFree (con l G hok) p X.admits X.cas X.clock (acts := []) hfrm happ ⟨rfl, hS.1.1, hR, hKT⟩ trivial
  rw [State.frames_setTop' g hAt.top, X.tail] at hend
  obtain ⟨⟨⟨r, h', q1, q2, q3⟩, q4⟩, L, ⟨q5, q6⟩, q7⟩ := hq
  have hS' : rk_S G T.heap t.heap := q4
  cases o with
  | returned v =>
    obtain ⟨T', X', hWT, hsame, ht⟩ := X.outOf (g := g) (mk := mk) (a := As.toArray) hg hdg hend q5 q6
    have hh : T'.heap = t.heap := by rw [ht]; rfl
    have hv : T'.vm = t.vm := by rw [ht]; rfl
    exact ⟨r, h', _, t, T', L, hsteps, q2, q1, by rw [hh]; exact q3, by rw [hh]; exact hS.trans hS', q7, hh, hv, X', (fun w hw => by cases hw; exact ht), (fun x hx => by cases hx)⟩
  | threw x =>
    obtain ⟨T', X', hWT, hsame, ht⟩ := X.outOfThrown (g := g) (mk := mk) (a := As.toArray) hg hend q5 q6
    have hh : T'.heap = t.heap := by rw [ht]; rfl
    have hv : T'.vm = t.vm := by rw [ht]; rfl
    exact ⟨r, h', _, t, T', L, hsteps, q2, q1, by rw [hh]; exact q3, by rw [hh]; exact hS.trans hS', q7, hh, hv, X', (fun w hw => by cases hw), (fun y hy => by cases hy; exact ht)⟩
/-- caught: through vx_catch, the entries ahead of the one that takes it passed -/
theorem rk_caught {p : Program} {l : Launch} {e : Env} {R : Room} {s : State} {m : MethodId} {args : Array Value} {below : List Frame} {meth : Method} {c : Code} {H : Heap} {locs : List Loc} {cells slots : Nat} {Q : State → Prop} {ls : Array Slot} {rest : List Value} {pc : Nat} {G : rk_G} {own E : String} {ce : Cell} {q : Addr} {hp : Nat}
    (hh : List (Nat × Nat × Nat × Nat × String)) : ∀ (pre : List (Nat × Nat × Nat × Nat × String)), s.vm.findClass own = some m.cls → (∀ w ∈ rk_tbl, w.before args s = true) → rk_K G s → E ∈ rk_exc → c.exceptionTable.toList = tableOf ((pre ++ hh).map (fun q => (q.1, q.2.1, q.2.2.1, q.2.2.2.1))) →
    (∀ z ∈ pre, (¬ (z.1 ≤ pc ∧ pc < z.2.1) ∨ z.2.2.2.2 ≠ E) ∧ z.2.2.2.1 ≠ 0 ∧ z.2.2.2.2 ∈ rk_exc ∧ Cond.classLink own z.2.2.2.1 z.2.2.2.2 ∈ rk_tbl) →
    (∀ z ∈ hh, z.2.2.2.1 ≠ 0 ∧ z.2.2.2.2 ∈ rk_exc ∧ Cond.classLink own z.2.2.2.1 z.2.2.2.2 ∈ rk_tbl) → rk_find hh pc E = some hp → H[q]? = some ce → ce.vm = .none → s.vm.findClass E = some ce.cls →
    W p l e R s m args below meth c H locs cells slots Q (F0 m hp ls [.ref q]) → vx_W p l e R s m args below meth c H locs cells slots Q (F0 m pc ls rest) q := by
  induction hh with
  | nil => intro pre _ _ _ _ _ _ _ hf; cases hf
  | cons z t ih =>
    intro pre hown hts hK hexc htab hpre hhh hf hce hv hcl kk
    obtain ⟨g1, g2, g3⟩ := hhh z List.mem_cons_self
    unfold rk_find at hf
    by_cases hcov : z.1 ≤ pc ∧ pc < z.2.1
    · rw [if_pos hcov] at hf
      by_cases hn : z.2.2.2.2 = E
      · rw [if_pos hn] at hf
        cases hf
        refine vx_catch (own := own) (name := E) (E := E) (ce := ce) hown (tableOf (pre.map (fun q => (q.1, q.2.1, q.2.2.1, q.2.2.2.1)))) ⟨z.1, z.2.1, z.2.2.1, z.2.2.2.1⟩ (tableOf (t.map (fun q => (q.1, q.2.1, q.2.2.1, q.2.2.2.1)))) (by rw [htab]; simp [tableOf]) ?_ (by simp [covers, hcov]) g1 (by rw [← hn]; exact hts _ g3) (rk_cast E hexc hK) hce hv hcl kk
        intro y hy
        simp only [tableOf, List.map_map, List.mem_map] at hy
        obtain ⟨x, hx, rfl⟩ := hy
        obtain ⟨p1, p2, p3, p4⟩ := hpre x hx
        rcases p1 with p1 | p1
        · left
          simp only [Function.comp, covers, Bool.and_eq_false_iff, decide_eq_false_iff_not]
          by_cases h1 : x.1 ≤ pc
          · right; exact fun h2 => p1 ⟨h1, h2⟩
          · left; exact h1
        · right
          exact ⟨p2, x.2.2.2.2, hts _ p4, rk_ncst E hexc _ p3 (fun q => p1 q.symm) hK⟩
      · rw [if_neg hn] at hf
        exact ih (pre ++ [z]) hown hts hK hexc (by rw [htab]; simp) (fun y hy => by
          rcases List.mem_append.mp hy with h | h
          · exact hpre y h
          · rw [List.mem_singleton.mp h]; exact ⟨Or.inr hn, g1, g2, g3⟩) (fun y hy => hhh y (List.mem_cons_of_mem _ hy)) hf hce hv hcl kk
    · rw [if_neg hcov] at hf
      exact ih (pre ++ [z]) hown hts hK hexc (by rw [htab]; simp) (fun y hy => by
        rcases List.mem_append.mp hy with h | h
        · exact hpre y h
        · rw [List.mem_singleton.mp h]; exact ⟨Or.inl hcov, g1, g2, g3⟩) (fun y hy => hhh y (List.mem_cons_of_mem _ hy)) hf hce hv hcl kk
theorem rk_behind {p : Program} {l : Launch} {e : Env} {R : Room} {s : State} {m : MethodId} {args : Array Value} {below : List Frame} {meth : Method} {c : Code} {T : State} {locs : List Loc} {M N : rk_M} {B B' : rk_B} {P P' : rk_P} {G : rk_G} {As rest : List Value} {h : rk_H} {u : rk_U} {pc : Nat} {lv : List (Option Value)} {ls : Array Slot}
    (X : Stand p l e R s m args below meth c T locs u.1 u.2) (C : rk_Cx M B l p e R s m args meth c G) (con : rk_Con N B' As h P') (hw : rk_wd N ∈ rk_tbl) (hini : Cond.initialized N.1.cls ∈ rk_tbl)
    (hR : rk_R G h T.heap) (hS : rk_S G s.heap T.heap) (hf : ∀ q ∈ locs, G.1 ≤ q.base) (hl : rk_L ls M.2.2.1 lv) {ig : Instr} (hdg : decode c.code pc = .ok (ig, 3)) (hst : (rest.map fun v => v.category).sum + (N.2.2.1 + 11) + B'.2.1 ≤ B.2.1) (hdd : B'.1 + 1 ≤ B.1) (hk : u.1 + B'.2.2.1 ≤ B.2.2.1) (hn : u.2 + B'.2.2.2 ≤ B.2.2.2)
    {mk : MethodId} (hnm : s.methodNamed? N.1 = some mk) (nx : ∀ r h', P' r h' → rk_nx M B P pc lv rest h' (u.1 + B'.2.2.1, u.2 + B'.2.2.2) r) :
    ∃ t2, Steps p.tables e below (doInvoke e (T.setTop (F0 m pc ls rest)) [] mk As.toArray).1 t2 ∧ rk_Q P G B s below t2 := by
  obtain ⟨r, h', o, t, T', L, a1, a2, a3, a4, a5, a6, a8, a9, X', a10, a11⟩ := rk_go X C con hw hini hR hS (g := F0 m pc ls rest) rfl (by rw [C.2.2.1]; exact hl.1) hdg rfl hst hdd hk hn hnm
  have hnx := nx r h' a2
  have hf' : ∀ q ∈ locs ++ L, G.1 ≤ q.base := by
    intro q hq
    rcases List.mem_append.mp hq with h1 | h1
    · exact hf q h1
    · exact a6 q h1
  cases r with
  | inl v =>
    have ho : o = .returned v := a3
    have ht := a10 v ho
    obtain ⟨t2, b1, b2⟩ := hnx l p e R s m args below meth c G T'.heap (locs ++ L) ls C a4 a5 hf' hl T' rfl X'
    exact ⟨t2, a1.trans (by rw [ht]; exact b1), b2⟩
  | inr Cn =>
    obtain ⟨x, cell, ho, c1, c2, c3⟩ := a3
    have ht := a11 x ho
    have htab := C.2.2.2.2.2.2.2.2.1
    unfold rk_nx at hnx
    unfold rk_hh at htab
    cases hM : M.2.2.2.2 with
    | nil =>
      simp only [hM] at hnx
      rw [hM] at htab
      obtain ⟨n1, n2⟩ := hnx
      obtain ⟨l1, l2, l3, l4, l5⟩ := X'.leaveThrown x (g := F0 m pc ls rest) rfl rfl rfl (fun y hy => by rw [htab] at hy; cases hy) C.2.2.2.2.1
      exact ⟨_, a1.trans (by rw [ht]; exact l1), .threw x, l2, l3, ⟨⟨.inr Cn, h', ⟨x, cell, rfl, by show T'.heap[x]? = _; rw [a8]; exact c1, c2, by show T'.vm.findClass _ = _; rw [a9]; exact c3⟩, n1, a4⟩, a5⟩, locs ++ L, ⟨l4, l5.mono n2.1 n2.2⟩, hf'⟩
    | cons q0 qs =>
      simp only [hM] at hnx
      rw [hM] at htab
      obtain ⟨⟨hp, f1, f2⟩, f3, f4⟩ := hnx
      have w := rk_caught (q0 :: qs) [] (p := p) (l := l) (e := e) (R := R) (s := s) (m := m) (args := args) (below := below) (meth := meth) (c := c) (H := T'.heap) (locs := locs ++ L) (cells := u.1 + B'.2.2.1) (slots := u.2 + B'.2.2.2) (Q := rk_Q P G B s below) (ls := ls) (rest := rest) (own := M.1.cls) (E := Cn) (ce := cell) (q := x) (hp := hp) C.2.2.2.2.2.1 C.2.2.2.2.2.2.1 C.2.2.2.2.2.2.2.1 f3 (by rw [htab]; rfl) (fun z hz => by cases hz) f4 f1 (by rw [a8]; exact c1) c2 (by rw [← X'.warmed.alike.findClass, a9]; exact c3) (f2 x l p e R s m args below meth c G T'.heap (locs ++ L) ls C a4 a5 hf' hl)
      obtain ⟨t2, b1, b2⟩ := w T' rfl X'
      exact ⟨t2, a1.trans (by rw [ht]; exact b1), b2⟩
section RKC
variable {M : rk_M} {B : rk_B} {P : rk_P} {pc : Nat} {lv : List (Option Value)} {st : List Value} {h : rk_H} {u : rk_U}
/-- a call's words: the link, or the link between nest mates -/
def rk_lnk (own : String) (idx : Nat) (N : rk_M) : Prop := Cond.methodLink own idx N.1 ∈ rk_tbl ∨ ∃ host : String, Cond.methodLinkNest own idx N.1 host ∈ rk_nst
def rk_cd (N : rk_M) : Prop := rk_wd N ∈ rk_tbl ∧ Cond.initialized N.1.cls ∈ rk_tbl ∧ (N.1.cls ≠ "java/lang/invoke/MethodHandle" ∧ N.1.cls ≠ "java/lang/invoke/VarHandle")
def rk_cS (own : String) (idx : Nat) (N : rk_M) : Prop := rk_lnk own idx N ∧ rk_cd N ∧ Cond.static N.1 ∈ rk_tbl
def rk_cV (own : String) (idx : Nat) (N : rk_M) (ci : Nat) : Prop := rk_lnk own idx N ∧ rk_cd N ∧ Cond.instanceMethod N.1 ∈ rk_tbl ∧ ∃ (C : String) (T : u_T) (K : Nat), vwCl[ci]? = some (C, T, K) ∧ Cond.selects C N.1 N.1 ∈ rk_tbl
def rk_cI (own : String) (idx : Nat) (N : rk_M) : Prop := rk_lnk own idx N ∧ rk_cd N ∧ Cond.instanceMethod N.1 ∈ rk_tbl ∧ N.1.name = "<init>" ∧ N.2.2.2.1 = none ∧ N.2.2.2.2 = []
theorem rk_calls {idx : Nat} {B' : rk_B} {N : rk_M} {P' : rk_P} (As rest : List Value) (w : rk_cS M.1.cls idx N) (hd : decode M.2.1 pc = .ok (.invokestatic idx, 3)) (hs : st = As.reverse ++ rest) (hlen : (parseMethodDescriptor N.1.desc).map (fun q => q.parameters.length) = some As.length) (hst : (rest.map fun v => v.category).sum + (N.2.2.1 + 11) + B'.2.1 ≤ B.2.1) (hdd : B'.1 + 1 ≤ B.1) (hk : u.1 + B'.2.2.1 ≤ B.2.2.1) (hn : u.2 + B'.2.2.2 ≤ B.2.2.2)
    (con : rk_Con N B' As h P') (nx : ∀ r h', P' r h' → rk_nx M B P pc lv rest h' (u.1 + B'.2.2.1, u.2 + B'.2.2.2) r) : rk_Run M B P pc lv st h u := by
  intro l p e R s m args below meth c G H locs ls C hR hS hf hl T hT X
  subst hs
  obtain ⟨hlk, ⟨hw, hini, hy⟩, hstat⟩ := w
  have hts := C.2.2.2.2.2.2.1
  obtain ⟨mk, methM, cM, hnamed, hmethM, -, -, hsigM⟩ := rk_wd_spec (hts _ hw)
  have hstatic : methM.isStatic = true := Cond.static_spec hnamed hmethM (hts _ hstat)
  obtain ⟨kP, hkP, -⟩ := className_of_methodNamed hnamed
  have hinitP : kP.init = .initialized := Cond.initialized_spec (findClass_of_methodNamed hnamed) hkP (hts _ hini)
  have hln : As.length = methM.sig.parameters.length := by rw [hsigM] at hlen; exact (Option.some.inj hlen).symm
  have hdg : decode c.code (F0 m pc ls (As.reverse ++ rest)).pc = .ok (.invokestatic idx, 3) := by rw [C.2.1]; exact hd
  have hstep : ∃ vm₁, Stand p l e R s m args below meth c (T.setVm vm₁) locs u.1 u.2 ∧ ∀ target, (∀ acts, Steps p.tables e below (doInvoke e ((T.setVm vm₁).setTop (F0 m pc ls rest)) acts mk As.toArray).1 target) → Steps p.tables e below (T.setTop (F0 m pc ls (As.reverse ++ rest))) target := by
    rcases hlk with h1 | ⟨host, h1⟩
    · exact X.invokestatic C.1 C.2.2.2.2.2.1 (hts _ h1) hnamed hmethM hstatic hkP hinitP hy (g := F0 m pc ls (As.reverse ++ rest)) rfl (argsL := As) (rest := rest) hln rfl hdg
    · exact X.invokestaticNest C.1 C.2.2.2.2.2.1 (va_Nw.use rfl (C.2.2.2.2.2.2.2.1.2.2.2.2.1 _ h1)) hnamed hmethM hstatic hkP hinitP hy (g := F0 m pc ls (As.reverse ++ rest)) rfl (argsL := As) (rest := rest) hln rfl hdg
  obtain ⟨vm₁, X₁, hstep₁⟩ := hstep
  obtain ⟨t2, a1, b1⟩ := rk_behind (M := M) (P := P) (pc := pc) (lv := lv) (rest := rest) (ls := ls) X₁ C con hw hini (by show rk_R G h T.heap; rw [hT]; exact hR) (by show rk_S G s.heap T.heap; rw [hT]; exact hS) hf hl hdg hst hdd hk hn hnamed nx
  exact ⟨t2, hstep₁ t2 (fun acts => by rw [doInvoke_state]; exact a1), b1⟩
theorem rk_callv {idx ci b : Nat} {B' : rk_B} {fs : List Value} {N : rk_M} {P' : rk_P} (As rest : List Value) (w : rk_cV M.1.cls idx N ci) (hd : decode M.2.1 pc = .ok (.invokevirtual idx, 3)) (hs : st = As.reverse ++ .ref b :: rest) (hlen : (parseMethodDescriptor N.1.desc).map (fun q => q.parameters.length) = some As.length) (hst : (rest.map fun v => v.category).sum + (N.2.2.1 + 11) + B'.2.1 ≤ B.2.1) (hdd : B'.1 + 1 ≤ B.1) (hk : u.1 + B'.2.2.1 ≤ B.2.2.1) (hn : u.2 + B'.2.2.2 ≤ B.2.2.2) (he : h b = some (oB ci fs))
    (con : rk_Con N B' (.ref b :: As) h P') (nx : ∀ r h', P' r h' → rk_nx M B P pc lv rest h' (u.1 + B'.2.2.1, u.2 + B'.2.2.2) r) : rk_Run M B P pc lv st h u := by
  intro l p e R s m args below meth c G H locs ls C hR hS hf hl T hT X
  subst hs
  obtain ⟨hlk, ⟨hw, hini, hy⟩, hinst, C0, T0, K0, hc, hsel⟩ := w
  have hts := C.2.2.2.2.2.2.1
  obtain ⟨mk, methM, cM, hnamed, hmethM, -, -, hsigM⟩ := rk_wd_spec (hts _ hw)
  obtain ⟨mk', methM', hnamed', hmethM', hstM, habM⟩ := Cond.instanceMethod_spec (hts _ hinst)
  cases hnamed.symm.trans hnamed'
  cases hmethM.symm.trans hmethM'
  obtain ⟨r0, hr0, cellB, hcB, g2, g3, -⟩ := (hR b _ he).2
  have hcls : s.vm.findClass C0 = some cellB.cls := by
    have h1 := (C.2.2.2.2.2.2.2.1.1 ci _ hc).2.1
    rw [g2]; exact h1
  obtain ⟨c2, r2, m2, q1, q2, q3, q4, kP, hkP, hkPi⟩ := Cond.selects_spec (hts _ hsel)
  cases hcls.symm.trans q1
  cases (State.methodFound?_of_named hnamed hy).symm.trans q2
  cases hnamed.symm.trans q3
  have hselP : selectMethod e.platform s.vm cellB.cls mk = .method mk := by rw [Launch.admits_selectMethod X.admits]; exact q4
  have hln : As.length = methM.sig.parameters.length := by rw [hsigM] at hlen; exact (Option.some.inj hlen).symm
  have hdg : decode c.code (F0 m pc ls (As.reverse ++ .ref b :: rest)).pc = .ok (.invokevirtual idx, 3) := by rw [C.2.1]; exact hd
  have hcT : T.heap[b]? = some cellB := by rw [hT]; exact hcB
  have hob : ∀ z, cellB.vm ≠ .statics z := fun z q => by rw [g3] at q; cases q
  have hstep : ∃ vm₁, Stand p l e R s m args below meth c (T.setVm vm₁) locs u.1 u.2 ∧ ∀ target, (∀ acts, Steps p.tables e below (doInvoke e ((T.setVm vm₁).setTop (F0 m pc ls rest)) acts mk (Value.ref b :: As).toArray).1 target) → Steps p.tables e below (T.setTop (F0 m pc ls (As.reverse ++ .ref b :: rest))) target := by
    rcases hlk with h1 | ⟨host, h1⟩
    · exact X.invokevirtual C.1 C.2.2.2.2.2.1 (hts _ h1) hnamed hmethM hstM hkP hkPi hy (a := b) (cell := cellB) hcT hob hselP hmethM habM hkP hkPi (g := F0 m pc ls (As.reverse ++ .ref b :: rest)) rfl (argsL := As) (rest := rest) hln rfl hdg
    · exact X.invokevirtualNest C.1 C.2.2.2.2.2.1 (va_Nw.use rfl (C.2.2.2.2.2.2.2.1.2.2.2.2.1 _ h1)) hnamed hmethM hstM hkP hkPi hy (a := b) (cell := cellB) hcT hob hselP hmethM habM hkP hkPi (g := F0 m pc ls (As.reverse ++ .ref b :: rest)) rfl (argsL := As) (rest := rest) hln rfl hdg
  obtain ⟨vm₁, X₁, hstep₁⟩ := hstep
  obtain ⟨t2, a1, b1⟩ := rk_behind (M := M) (P := P) (pc := pc) (lv := lv) (rest := rest) (ls := ls) X₁ C con hw hini (by show rk_R G h T.heap; rw [hT]; exact hR) (by show rk_S G s.heap T.heap; rw [hT]; exact hS) hf hl hdg hst hdd hk hn hnamed nx
  exact ⟨t2, hstep₁ t2 (fun acts => by rw [doInvoke_state]; exact a1), b1⟩
theorem rk_calln {idx b : Nat} {B' : rk_B} {N : rk_M} {P' : rk_P} (As rest : List Value) (w : rk_cI M.1.cls idx N) (hd : decode M.2.1 pc = .ok (.invokespecial idx, 3)) (hs : st = As.reverse ++ .ref b :: rest) (hlen : (parseMethodDescriptor N.1.desc).map (fun q => q.parameters.length) = some As.length) (hst : (rest.map fun v => v.category).sum + (N.2.2.1 + 11) + B'.2.1 ≤ B.2.1) (hdd : B'.1 + 1 ≤ B.1) (hk : u.1 + B'.2.2.1 ≤ B.2.2.1) (hn : u.2 + B'.2.2.2 ≤ B.2.2.2)
    (con : rk_Con N B' (.ref b :: As) h P') (nx : ∀ r h', P' r h' → rk_nx M B P pc lv rest h' (u.1 + B'.2.2.1, u.2 + B'.2.2.2) r) : rk_Run M B P pc lv st h u := by
  intro l p e R s m args below meth c G H locs ls C hR hS hf hl T hT X
  subst hs
  obtain ⟨hlk, ⟨hw, hini, hy⟩, hinst, hy1, hrt, hhh⟩ := w
  have hts := C.2.2.2.2.2.2.1
  have hpl : e.platform.magicAccessors = ({} : Platform).magicAccessors := by rw [X.admits.platform]
  have hcode : (Cond.code N.1 N.2.1 N.2.2.1 none).before args s = true := by
    have hq := hts _ hw
    obtain ⟨y, bs, nL, rt, hh⟩ := N
    dsimp only at hrt hhh
    subst hrt; subst hhh
    exact hq
  have hlen' : ∀ sig, parseMethodDescriptor N.1.desc = some sig → As.length = sig.parameters.length := fun sig hq => by rw [hq] at hlen; exact (Option.some.inj hlen).symm
  have hdg : decode c.code (F0 m pc ls (As.reverse ++ .ref b :: rest)).pc = .ok (.invokespecial idx, 3) := by rw [C.2.1]; exact hd
  have hstep : ∃ mk vm₁, s.methodNamed? N.1 = some mk ∧ s.WarmedH vm₁ ∧ ∀ target, (∀ acts, Steps p.tables e below (doInvoke e ((T.setVm vm₁).setTop (F0 m pc ls rest)) acts mk (Value.ref b :: As).toArray).1 target) → Steps p.tables e below (T.setTop (F0 m pc ls (As.reverse ++ .ref b :: rest))) target := by
    rcases hlk with h1 | ⟨host, h1⟩
    · obtain ⟨mk, methM, cM, kP, vm₁, hnamed, -, -, -, -, -, -, -, hW₁, hs1⟩ := Steps.initColdArgs (e := e) X.here C.1 X.warmed hpl C.2.2.2.2.2.1 hy1 hy (hts _ h1) (hts _ hinst) hcode (f := F0 m pc ls (As.reverse ++ .ref b :: rest)) rfl hlen' rfl hdg
      exact ⟨mk, vm₁, hnamed, hW₁, hs1⟩
    · obtain ⟨mk, methM, cM, kP, vm₁, hnamed, -, -, -, -, -, -, -, hW₁, hs1⟩ := Steps.initColdArgsNest (e := e) X.here C.1 X.warmed hpl C.2.2.2.2.2.1 hy1 hy (va_Nw.use rfl (C.2.2.2.2.2.2.2.1.2.2.2.2.1 _ h1)) (hts _ hinst) hcode (f := F0 m pc ls (As.reverse ++ .ref b :: rest)) rfl hlen' rfl hdg
      exact ⟨mk, vm₁, hnamed, hW₁, hs1⟩
  obtain ⟨mk, vm₁, hnamed, hW₁, hstep₁⟩ := hstep
  have X₁ := X.noted hW₁
  obtain ⟨t2, a1, b1⟩ := rk_behind (M := M) (P := P) (pc := pc) (lv := lv) (rest := rest) (ls := ls) X₁ C con hw hini (by show rk_R G h T.heap; rw [hT]; exact hR) (by show rk_S G s.heap T.heap; rw [hT]; exact hS) hf hl hdg hst hdd hk hn hnamed nx
  exact ⟨t2, hstep₁ t2 (fun acts => by rw [doInvoke_state]; exact a1), b1⟩
/-- the words of 'throw new X(text)' -/
def rk_tw (own : String) (i1 i2 i3 : Nat) (X : String) : Prop :=
  Cond.classLink own i1 X ∈ rk_tbl ∧ Cond.initialized X ∈ rk_tbl ∧ (∃ tx : String, (own, i2, tx) ∈ rk_str) ∧ Bundle.fit X = true ∧
  (∀ w ∈ vx_atS own i3 X ["java/lang/RuntimeException", "java/lang/Exception"], w ∈ rk_tbl ∨ w ∈ rk_nst) ∧ (∀ w ∈ Cond.classLink own i1 X :: Cond.initialized X :: vx_atS own i3 X ["java/lang/RuntimeException", "java/lang/Exception"], vx_ot w = true)
theorem rk_throw {i1 i2 i3 : Nat} {X : String} (w : rk_tw M.1.cls i1 i2 i3 X) (hh : M.2.2.2.2 = []) (hd0 : decode M.2.1 pc = .ok (.new i1, 3)) (hd1 : decode M.2.1 (pc + 3) = .ok (.dup, 1)) (hd2 : decode M.2.1 (pc + 4) = .ok (.ldc i2, 2)) (hd3 : decode M.2.1 (pc + 6) = .ok (.invokespecial i3, 3)) (hd4 : decode M.2.1 (pc + 9) = .ok (.athrow, 1)) (hf6 : 6 ≤ B.1) (hst : (st.map fun v => v.category).sum + 82 ≤ B.2.1) (h1 : u.1 + 1 ≤ B.2.2.1) (h6 : u.2 + 6 ≤ B.2.2.2) (hP : P (.inr X) h) : rk_Run M B P pc lv st h u := by
  intro l p e R s m args below meth c G H locs ls C hR hS hf hl
  obtain ⟨w1, w3, ⟨tx, w4⟩, w5, w8, w9⟩ := w
  have hts := C.2.2.2.2.2.2.1
  have hK := C.2.2.2.2.2.2.2.1
  have hfr := C.2.2.2.2.2.2.2.2.2.1
  have hlo := C.2.2.2.2.2.2.2.2.2.2.1
  have hcl := C.2.2.2.2.2.2.2.2.2.2.2.1
  have hsl := C.2.2.2.2.2.2.2.2.2.2.2.2.1
  obtain ⟨ad, hstr⟩ := hK.2.2.1 _ w4
  have htab := C.2.2.2.2.2.2.2.2.1
  unfold rk_hh at htab
  rw [hh] at htab
  refine rk_Wmono (Q := vx_MQ below (fun _ _ _ _ => False) (fun E st t => E = X ∧ H.size ≤ t.heap.size ∧ ∀ q : Nat, q < H.size → t.heap[q]? = H[q]?) args s B.2.2.1 B.2.2.2 (fun q => G.1 ≤ q)) ?_ ?_
  · rintro t ⟨o, t1, t2, t3⟩
    rcases t3 with ⟨t3, -⟩ | ⟨q, rfl, E, ce, L, ⟨rfl, x1, x2⟩, y1, y2, y3, y4, y5, y6⟩
    · exact t3.elim
    · exact ⟨_, t1, t2, ⟨⟨.inr E, h, ⟨q, ce, rfl, y1, y2, by rw [y4.alike.findClass]; exact y3⟩, hP, hR.kept x2⟩, ⟨⟨Nat.le_trans hS.1.1 x1, Nat.le_trans hS.1.2 x1⟩, fun z hz => by rw [x2 z (Nat.lt_of_lt_of_le hz hS.1.1)]; exact hS.2 z hz⟩⟩, L, ⟨y4, y5⟩, y6⟩
  · exact vx_throwS (A := fun x => G.1 ≤ x) C.1 C.2.1 C.2.2.2.2.2.2.2.2.2.2.2.2.2.2 C.2.2.2.2.2.1 w5 (by decide) (hts _ w1) (hts _ w3) hstr (fun a ha => by
      rcases w8 a ha with q | q
      · exact hts a q
      · have hon : a.onTables = true := rk_nst_on a q
        exact va_Nw.use hon (hK.2.2.2.2.1 a q)) w9 (hK.2.2.2.1 ("java/lang/Throwable", "UNASSIGNED_STACK", "[Ljava/lang/StackTraceElement;") (by simp [rk_sta])) (hK.2.2.2.1 ("java/lang/Throwable", "SUPPRESSED_SENTINEL", "Ljava/util/List;") (by simp [rk_sta]))
      ⟨hS.1.2, fun q _ hq => hS.2 q (Nat.not_le.mp hq), hf⟩ (by rw [C.2.2.1]; exact hl.1) hd0 hd1 hd2 hd3 hd4 (fun y hy => by rw [htab] at hy; cases hy) (by show 2 + 3 < _; omega) (by show _ + (13 * (2 + 1) + 43) ≤ _; omega) (Nat.le_trans h1 hcl) (Nat.le_trans h6 hsl) C.2.2.2.2.1 (fun t _ g1 g2 => ⟨rfl, g1, g2⟩) hf h1 h6
end RKC
end
section
/-! methods, links, fields, constants: by program -/
theorem kG : rk_cls 0 "TensorForge$Graph" ttG 9 tyG := ⟨rfl, by decide +kernel, by decide +kernel, by decide +kernel⟩
theorem kM : rk_cls 1 "TensorForge$Machine" ttM 9 tyM := ⟨rfl, by decide +kernel, by decide +kernel, by decide +kernel⟩
theorem kN : rk_cls 2 "TensorForge$Node" ttN 16 tyN := ⟨rfl, by decide +kernel, by decide +kernel, by decide +kernel⟩
theorem kS : rk_cls 3 "TensorForge$Scaler" ttS 2 tyS := ⟨rfl, by decide +kernel, by decide +kernel, by decide +kernel⟩
theorem kW : rk_cls 4 "TensorForge$Window" ttW 12 tyW := ⟨rfl, by decide +kernel, by decide +kernel, by decide +kernel⟩
theorem kT : rk_cls 5 "TensorForge" ttT 5 tyT := ⟨rfl, by decide +kernel, by decide +kernel, by decide +kernel⟩
theorem kR : rk_cls 6 "TensorForgeModel" ttR 32 tyR := ⟨rfl, by decide +kernel, by decide +kernel, by decide +kernel⟩
abbrev mT_init : rk_M := (⟨"TensorForge", "<init>", "()V"⟩, prog_1_method_1_code, 1, none, [])
theorem wmT_init : rk_cd mT_init := ⟨(in_t1 23 rfl rfl), (in_t1 1 rfl rfl), ⟨by decide, by decide⟩⟩
abbrev mG_init : rk_M := (⟨"TensorForge$Graph", "<init>", "()V"⟩, prog_2_method_1_code, 1, none, [])
theorem wmG_init : rk_cd mG_init := ⟨(in_t1 31 rfl rfl), (in_t1 2 rfl rfl), ⟨by decide, by decide⟩⟩
abbrev mM_init : rk_M := (⟨"TensorForge$Machine", "<init>", "()V"⟩, prog_3_method_1_code, 1, none, [])
theorem wmM_init : rk_cd mM_init := ⟨(in_t1 80 rfl rfl), (in_t1 3 rfl rfl), ⟨by decide, by decide⟩⟩
abbrev mW_init : rk_M := (⟨"TensorForge$Window", "<init>", "()V"⟩, prog_6_method_1_code, 1, none, [])
theorem wmW_init : rk_cd mW_init := ⟨(in_t1 86 rfl rfl), (in_t1 4 rfl rfl), ⟨by decide, by decide⟩⟩
abbrev mS_init : rk_M := (⟨"TensorForge$Scaler", "<init>", "()V"⟩, prog_5_method_1_code, 1, none, [])
theorem wmS_init : rk_cd mS_init := ⟨(in_t1 136 rfl rfl), (in_t1 5 rfl rfl), ⟨by decide, by decide⟩⟩
abbrev mL_weights : rk_M := (⟨"TensorForgeLaw", "weights", "(LTensorForge;IJ[J)I"⟩, method_3_code, 6, (some .int), [(0, 11, 14, 13, "java/lang/IllegalArgumentException")])
theorem wmL_weights : rk_cd mL_weights := ⟨(in_t1 197 rfl rfl), (in_t1 0 rfl rfl), ⟨by decide, by decide⟩⟩
abbrev mT_weights : rk_M := (⟨"TensorForge", "weights", "(IJ)I"⟩, prog_1_method_2_code, 4, (some .int), [])
theorem wmT_weights : rk_cd mT_weights := ⟨(in_t1 202 rfl rfl), (in_t1 1 rfl rfl), ⟨by decide, by decide⟩⟩
abbrev mT_requireBetween : rk_M := (⟨"TensorForge", "requireBetween", "(III)V"⟩, prog_1_method_27_code, 3, none, [])
theorem wmT_requireBetween : rk_cd mT_requireBetween := ⟨(in_t1 205 rfl rfl), (in_t1 1 rfl rfl), ⟨by decide, by decide⟩⟩
abbrev mT_require : rk_M := (⟨"TensorForge", "require", "(Z)V"⟩, prog_1_method_26_code, 1, none, [])
theorem wmT_require : rk_cd mT_require := ⟨(in_t1 208 rfl rfl), (in_t1 1 rfl rfl), ⟨by decide, by decide⟩⟩
abbrev mT_spread : rk_M := (⟨"TensorForge", "spread", "(J[II)I"⟩, prog_1_method_25_code, 6, (some .int), [])
theorem wmT_spread : rk_cd mT_spread := ⟨(in_t2 41 rfl rfl), (in_t1 1 rfl rfl), ⟨by decide, by decide⟩⟩
abbrev mL_weightScale : rk_M := (⟨"TensorForgeLaw", "weightScale", "(LTensorForge;D)I"⟩, method_4_code, 4, (some .int), [(0, 5, 8, 13, "java/lang/IllegalArgumentException")])
theorem wmL_weightScale : rk_cd mL_weightScale := ⟨(in_t2 47 rfl rfl), (in_t1 0 rfl rfl), ⟨by decide, by decide⟩⟩
abbrev mT_weightScale : rk_M := (⟨"TensorForge", "weightScale", "(D)V"⟩, prog_1_method_3_code, 3, none, [])
theorem wmT_weightScale : rk_cd mT_weightScale := ⟨(in_t2 51 rfl rfl), (in_t1 1 rfl rfl), ⟨by decide, by decide⟩⟩
abbrev mT_requireScale : rk_M := (⟨"TensorForge", "requireScale", "(D)V"⟩, prog_1_method_30_code, 2, none, [])
theorem wmT_requireScale : rk_cd mT_requireScale := ⟨(in_t2 54 rfl rfl), (in_t1 1 rfl rfl), ⟨by decide, by decide⟩⟩
abbrev mL_input : rk_M := (⟨"TensorForgeLaw", "input", "(LTensorForge;IIID[J)I"⟩, method_5_code, 8, (some .int), [(0, 14, 17, 13, "java/lang/IllegalArgumentException"), (0, 14, 21, 23, "java/lang/IllegalStateException")])
theorem wmL_input : rk_cd mL_input := ⟨(in_t2 58 rfl rfl), (in_t1 0 rfl rfl), ⟨by decide, by decide⟩⟩
abbrev mT_input : rk_M := (⟨"TensorForge", "input", "(IIID)I"⟩, prog_1_method_4_code, 6, (some .int), [])
theorem wmT_input : rk_cd mT_input := ⟨(in_t2 63 rfl rfl), (in_t1 1 rfl rfl), ⟨by decide, by decide⟩⟩
abbrev mT_requireShape : rk_M := (⟨"TensorForge", "requireShape", "(III)V"⟩, prog_1_method_29_code, 3, none, [])
theorem wmT_requireShape : rk_cd mT_requireShape := ⟨(in_t2 66 rfl rfl), (in_t1 1 rfl rfl), ⟨by decide, by decide⟩⟩
abbrev mT_requireRoom : rk_M := (⟨"TensorForge", "requireRoom", "()V"⟩, prog_1_method_35_code, 1, none, [])
theorem wmT_requireRoom : rk_cd mT_requireRoom := ⟨(in_t2 70 rfl rfl), (in_t1 1 rfl rfl), ⟨by decide, by decide⟩⟩
abbrev mN_init : rk_M := (⟨"TensorForge$Node", "<init>", "(IIIIIID)V"⟩, prog_4_method_1_code, 9, none, [])
theorem wmN_init : rk_cd mN_init := ⟨(in_t2 91 rfl rfl), (in_t1 13 rfl rfl), ⟨by decide, by decide⟩⟩
abbrev mT_keep : rk_M := (⟨"TensorForge", "keep", "(LTensorForge$Node;)I"⟩, prog_1_method_23_code, 2, (some .int), [])
theorem wmT_keep : rk_cd mT_keep := ⟨(in_t2 183 rfl rfl), (in_t1 1 rfl rfl), ⟨by decide, by decide⟩⟩
abbrev mG_append : rk_M := (⟨"TensorForge$Graph", "append", "(LTensorForge$Node;)I"⟩, prog_2_method_2_code, 3, (some .int), [])
theorem wmG_append : rk_cd mG_append := ⟨(in_t2 187 rfl rfl), (in_t1 2 rfl rfl), ⟨by decide, by decide⟩⟩
abbrev mL_windows : rk_M := (⟨"TensorForgeLaw", "windows", "(LTensorForge;IIZID[J)I"⟩, method_6_code, 9, (some .int), [(0, 16, 19, 13, "java/lang/IllegalArgumentException"), (0, 16, 23, 29, "java/lang/ArithmeticException"), (0, 16, 27, 23, "java/lang/IllegalStateException")])
theorem wmL_windows : rk_cd mL_windows := ⟨(in_t2 190 rfl rfl), (in_t1 0 rfl rfl), ⟨by decide, by decide⟩⟩
abbrev mT_windows : rk_M := (⟨"TensorForge", "windows", "(IIZID)I"⟩, prog_1_method_5_code, 17, (some .int), [])
theorem wmT_windows : rk_cd mT_windows := ⟨(in_t2 195 rfl rfl), (in_t1 1 rfl rfl), ⟨by decide, by decide⟩⟩
abbrev mT_requireNode : rk_M := (⟨"TensorForge", "requireNode", "(I)V"⟩, prog_1_method_28_code, 2, none, [])
theorem wmT_requireNode : rk_cd mT_requireNode := ⟨(in_t2 199 rfl rfl), (in_t1 1 rfl rfl), ⟨by decide, by decide⟩⟩
abbrev mT_requireWindowsCode : rk_M := (⟨"TensorForge", "requireWindowsCode", "(IZ)V"⟩, prog_1_method_31_code, 4, none, [])
theorem wmT_requireWindowsCode : rk_cd mT_requireWindowsCode := ⟨(in_t2 202 rfl rfl), (in_t1 1 rfl rfl), ⟨by decide, by decide⟩⟩
abbrev mT_requireWindowFits : rk_M := (⟨"TensorForge", "requireWindowFits", "(LTensorForge$Node;I)V"⟩, prog_1_method_32_code, 2, none, [])
theorem wmT_requireWindowFits : rk_cd mT_requireWindowFits := ⟨(in_t2 205 rfl rfl), (in_t1 1 rfl rfl), ⟨by decide, by decide⟩⟩
abbrev mW_fits : rk_M := (⟨"TensorForge$Window", "fits", "(II)Z"⟩, prog_6_method_5_code, 2, (some .boolean), [])
theorem wmW_fits : rk_cd mW_fits := ⟨(in_t2 208 rfl rfl), (in_t1 4 rfl rfl), ⟨by decide, by decide⟩⟩
abbrev mW_isSame : rk_M := (⟨"TensorForge$Window", "isSame", "(I)Z"⟩, prog_6_method_4_code, 1, (some .boolean), [])
theorem wmW_isSame : rk_cd mW_isSame := ⟨(in_t2 211 rfl rfl), (in_t1 4 rfl rfl), ⟨by decide, by decide⟩⟩
abbrev mW_sizeOf : rk_M := (⟨"TensorForge$Window", "sizeOf", "(I)I"⟩, prog_6_method_2_code, 1, (some .int), [])
theorem wmW_sizeOf : rk_cd mW_sizeOf := ⟨(in_t2 214 rfl rfl), (in_t1 4 rfl rfl), ⟨by decide, by decide⟩⟩
abbrev mT_requireWeights : rk_M := (⟨"TensorForge", "requireWeights", "(III)V"⟩, prog_1_method_33_code, 4, none, [])
theorem wmT_requireWeights : rk_cd mT_requireWeights := ⟨(in_t2 218 rfl rfl), (in_t1 1 rfl rfl), ⟨by decide, by decide⟩⟩
abbrev mT_weightedRatio : rk_M := (⟨"TensorForge", "weightedRatio", "(LTensorForge$Node;D)D"⟩, prog_1_method_24_code, 4, (some .double), [])
theorem wmT_weightedRatio : rk_cd mT_weightedRatio := ⟨(in_t2 222 rfl rfl), (in_t1 1 rfl rfl), ⟨by decide, by decide⟩⟩
abbrev mT_requireGood : rk_M := (⟨"TensorForge", "requireGood", "(D)V"⟩, prog_1_method_34_code, 2, none, [])
theorem wmT_requireGood : rk_cd mT_requireGood := ⟨(in_t2 225 rfl rfl), (in_t1 1 rfl rfl), ⟨by decide, by decide⟩⟩
abbrev mS_isGood : rk_M := (⟨"TensorForge$Scaler", "isGood", "(D)Z"⟩, prog_5_method_2_code, 2, (some .boolean), [])
theorem wmS_isGood : rk_cd mS_isGood := ⟨(in_t2 228 rfl rfl), (in_t1 5 rfl rfl), ⟨by decide, by decide⟩⟩
abbrev mW_placesOf : rk_M := (⟨"TensorForge$Window", "placesOf", "(II)I"⟩, prog_6_method_6_code, 3, (some .int), [])
theorem wmW_placesOf : rk_cd mW_placesOf := ⟨(in_t3 9 rfl rfl), (in_t1 4 rfl rfl), ⟨by decide, by decide⟩⟩
abbrev mW_stepOf : rk_M := (⟨"TensorForge$Window", "stepOf", "(I)I"⟩, prog_6_method_3_code, 1, (some .int), [])
theorem wmW_stepOf : rk_cd mW_stepOf := ⟨(in_t3 12 rfl rfl), (in_t1 4 rfl rfl), ⟨by decide, by decide⟩⟩
abbrev mN_weigh : rk_M := (⟨"TensorForge$Node", "weigh", "(IDD)V"⟩, prog_4_method_2_code, 6, none, [])
theorem wmN_weigh : rk_cd mN_weigh := ⟨(in_t3 16 rfl rfl), (in_t1 13 rfl rfl), ⟨by decide, by decide⟩⟩
abbrev mL_dense : rk_M := (⟨"TensorForgeLaw", "dense", "(LTensorForge;IIID[J)I"⟩, method_7_code, 8, (some .int), [(0, 14, 17, 13, "java/lang/IllegalArgumentException"), (0, 14, 21, 29, "java/lang/ArithmeticException"), (0, 14, 25, 23, "java/lang/IllegalStateException")])
theorem wmL_dense : rk_cd mL_dense := ⟨(in_t3 19 rfl rfl), (in_t1 0 rfl rfl), ⟨by decide, by decide⟩⟩
abbrev mT_dense : rk_M := (⟨"TensorForge", "dense", "(IIID)I"⟩, prog_1_method_6_code, 10, (some .int), [])
theorem wmT_dense : rk_cd mT_dense := ⟨(in_t3 23 rfl rfl), (in_t1 1 rfl rfl), ⟨by decide, by decide⟩⟩
abbrev mL_add : rk_M := (⟨"TensorForgeLaw", "add", "(LTensorForge;IID[J)I"⟩, method_8_code, 7, (some .int), [(0, 12, 15, 13, "java/lang/IllegalArgumentException"), (0, 12, 19, 29, "java/lang/ArithmeticException"), (0, 12, 23, 23, "java/lang/IllegalStateException")])
theorem wmL_add : rk_cd mL_add := ⟨(in_t3 26 rfl rfl), (in_t1 0 rfl rfl), ⟨by decide, by decide⟩⟩
abbrev mT_add : rk_M := (⟨"TensorForge", "add", "(IID)I"⟩, prog_1_method_7_code, 12, (some .int), [])
theorem wmT_add : rk_cd mT_add := ⟨(in_t3 30 rfl rfl), (in_t1 1 rfl rfl), ⟨by decide, by decide⟩⟩
abbrev mN_hasShape : rk_M := (⟨"TensorForge$Node", "hasShape", "(III)Z"⟩, prog_4_method_3_code, 4, (some .boolean), [])
theorem wmN_hasShape : rk_cd mN_hasShape := ⟨(in_t3 34 rfl rfl), (in_t1 13 rfl rfl), ⟨by decide, by decide⟩⟩
abbrev mL_concat : rk_M := (⟨"TensorForgeLaw", "concat", "(LTensorForge;II[J)I"⟩, method_9_code, 5, (some .int), [(0, 10, 13, 13, "java/lang/IllegalArgumentException"), (0, 10, 17, 23, "java/lang/IllegalStateException")])
theorem wmL_concat : rk_cd mL_concat := ⟨(in_t3 37 rfl rfl), (in_t1 0 rfl rfl), ⟨by decide, by decide⟩⟩
abbrev mT_concat : rk_M := (⟨"TensorForge", "concat", "(II)I"⟩, prog_1_method_8_code, 6, (some .int), [])
theorem wmT_concat : rk_cd mT_concat := ⟨(in_t3 41 rfl rfl), (in_t1 1 rfl rfl), ⟨by decide, by decide⟩⟩
abbrev mL_reshape : rk_M := (⟨"TensorForgeLaw", "reshape", "(LTensorForge;IIII[J)I"⟩, method_10_code, 7, (some .int), [(0, 14, 17, 13, "java/lang/IllegalArgumentException"), (0, 14, 21, 23, "java/lang/IllegalStateException")])
theorem wmL_reshape : rk_cd mL_reshape := ⟨(in_t3 44 rfl rfl), (in_t1 0 rfl rfl), ⟨by decide, by decide⟩⟩
abbrev mT_reshape : rk_M := (⟨"TensorForge", "reshape", "(IIII)I"⟩, prog_1_method_9_code, 6, (some .int), [])
theorem wmT_reshape : rk_cd mT_reshape := ⟨(in_t3 48 rfl rfl), (in_t1 1 rfl rfl), ⟨by decide, by decide⟩⟩
abbrev mL_pool : rk_M := (⟨"TensorForgeLaw", "pool", "(LTensorForge;IIZ[J)I"⟩, method_11_code, 6, (some .int), [(0, 12, 15, 13, "java/lang/IllegalArgumentException"), (0, 12, 19, 23, "java/lang/IllegalStateException")])
theorem wmL_pool : rk_cd mL_pool := ⟨(in_t3 51 rfl rfl), (in_t1 0 rfl rfl), ⟨by decide, by decide⟩⟩
abbrev mT_pool : rk_M := (⟨"TensorForge", "pool", "(IIZ)I"⟩, prog_1_method_10_code, 8, (some .int), [])
theorem wmT_pool : rk_cd mT_pool := ⟨(in_t3 55 rfl rfl), (in_t1 1 rfl rfl), ⟨by decide, by decide⟩⟩
abbrev mL_clamp : rk_M := (⟨"TensorForgeLaw", "clamp", "(LTensorForge;III[J)I"⟩, method_12_code, 6, (some .int), [(0, 12, 15, 13, "java/lang/IllegalArgumentException"), (0, 12, 19, 23, "java/lang/IllegalStateException")])
theorem wmL_clamp : rk_cd mL_clamp := ⟨(in_t3 58 rfl rfl), (in_t1 0 rfl rfl), ⟨by decide, by decide⟩⟩
abbrev mT_clamp : rk_M := (⟨"TensorForge", "clamp", "(III)I"⟩, prog_1_method_11_code, 6, (some .int), [])
theorem wmT_clamp : rk_cd mT_clamp := ⟨(in_t3 62 rfl rfl), (in_t1 1 rfl rfl), ⟨by decide, by decide⟩⟩
abbrev mL_rescale : rk_M := (⟨"TensorForgeLaw", "rescale", "(LTensorForge;ID[J)I"⟩, method_13_code, 6, (some .int), [(0, 11, 14, 13, "java/lang/IllegalArgumentException"), (0, 11, 18, 29, "java/lang/ArithmeticException"), (0, 11, 22, 23, "java/lang/IllegalStateException")])
theorem wmL_rescale : rk_cd mL_rescale := ⟨(in_t3 65 rfl rfl), (in_t1 0 rfl rfl), ⟨by decide, by decide⟩⟩
abbrev mT_rescale : rk_M := (⟨"TensorForge", "rescale", "(ID)I"⟩, prog_1_method_12_code, 8, (some .int), [])
theorem wmT_rescale : rk_cd mT_rescale := ⟨(in_t3 69 rfl rfl), (in_t1 1 rfl rfl), ⟨by decide, by decide⟩⟩
abbrev mL_output : rk_M := (⟨"TensorForgeLaw", "output", "(LTensorForge;I[J)I"⟩, method_14_code, 4, (some .int), [(0, 9, 12, 13, "java/lang/IllegalArgumentException")])
theorem wmL_output : rk_cd mL_output := ⟨(in_t3 72 rfl rfl), (in_t1 0 rfl rfl), ⟨by decide, by decide⟩⟩
abbrev mT_output : rk_M := (⟨"TensorForge", "output", "(I)I"⟩, prog_1_method_13_code, 2, (some .int), [])
theorem wmT_output : rk_cd mT_output := ⟨(in_t3 76 rfl rfl), (in_t1 1 rfl rfl), ⟨by decide, by decide⟩⟩
abbrev mL_compile : rk_M := (⟨"TensorForgeLaw", "compile", "(LTensorForge;[J)I"⟩, method_15_code, 3, (some .int), [(0, 8, 11, 23, "java/lang/IllegalStateException")])
theorem wmL_compile : rk_cd mL_compile := ⟨(in_t3 79 rfl rfl), (in_t1 0 rfl rfl), ⟨by decide, by decide⟩⟩
abbrev mT_compile : rk_M := (⟨"TensorForge", "compile", "()I"⟩, prog_1_method_14_code, 1, (some .int), [])
theorem wmT_compile : rk_cd mT_compile := ⟨(in_t3 83 rfl rfl), (in_t1 1 rfl rfl), ⟨by decide, by decide⟩⟩
abbrev mG_plan : rk_M := (⟨"TensorForge$Graph", "plan", "(I)V"⟩, prog_2_method_3_code, 3, none, [])
theorem wmG_plan : rk_cd mG_plan := ⟨(in_t3 88 rfl rfl), (in_t1 2 rfl rfl), ⟨by decide, by decide⟩⟩
abbrev mG_makeSmaller : rk_M := (⟨"TensorForge$Graph", "makeSmaller", "()V"⟩, prog_2_method_7_code, 2, none, [])
theorem wmG_makeSmaller : rk_cd mG_makeSmaller := ⟨(in_t3 92 rfl rfl), (in_t1 2 rfl rfl), ⟨by decide, by decide⟩⟩
abbrev mG_changesNothing : rk_M := (⟨"TensorForge$Graph", "changesNothing", "(LTensorForge$Node;)Z"⟩, prog_2_method_8_code, 3, (some .boolean), [])
theorem wmG_changesNothing : rk_cd mG_changesNothing := ⟨(in_t3 96 rfl rfl), (in_t1 2 rfl rfl), ⟨by decide, by decide⟩⟩
abbrev mG_meant : rk_M := (⟨"TensorForge$Graph", "meant", "(I)I"⟩, prog_2_method_4_code, 2, (some .int), [])
theorem wmG_meant : rk_cd mG_meant := ⟨(in_t3 101 rfl rfl), (in_t1 2 rfl rfl), ⟨by decide, by decide⟩⟩
abbrev mG_firstAlike : rk_M := (⟨"TensorForge$Graph", "firstAlike", "(I)I"⟩, prog_2_method_9_code, 3, (some .int), [])
theorem wmG_firstAlike : rk_cd mG_firstAlike := ⟨(in_t3 105 rfl rfl), (in_t1 2 rfl rfl), ⟨by decide, by decide⟩⟩
abbrev mG_alike : rk_M := (⟨"TensorForge$Graph", "alike", "(II)Z"⟩, prog_2_method_10_code, 5, (some .boolean), [])
theorem wmG_alike : rk_cd mG_alike := ⟨(in_t3 109 rfl rfl), (in_t1 2 rfl rfl), ⟨by decide, by decide⟩⟩
abbrev mN_saysTheSame : rk_M := (⟨"TensorForge$Node", "saysTheSame", "(LTensorForge$Node;)Z"⟩, prog_4_method_5_code, 2, (some .boolean), [])
theorem wmN_saysTheSame : rk_cd mN_saysTheSame := ⟨(in_t3 113 rfl rfl), (in_t1 13 rfl rfl), ⟨by decide, by decide⟩⟩
abbrev mG_markNeeded : rk_M := (⟨"TensorForge$Graph", "markNeeded", "(I)V"⟩, prog_2_method_11_code, 3, none, [])
theorem wmG_markNeeded : rk_cd mG_markNeeded := ⟨(in_t3 118 rfl rfl), (in_t1 2 rfl rfl), ⟨by decide, by decide⟩⟩
abbrev mJ_fill : rk_M := (⟨"java/util/Arrays", "fill", "([II)V"⟩, prog_19_method_103_code, 4, none, [])
theorem wmJ_fill : rk_cd mJ_fill := ⟨(in_t3 121 rfl rfl), (in_t1 15 rfl rfl), ⟨by decide, by decide⟩⟩
abbrev mG_need : rk_M := (⟨"TensorForge$Graph", "need", "(I)V"⟩, prog_2_method_12_code, 2, none, [])
theorem wmG_need : rk_cd mG_need := ⟨(in_t3 125 rfl rfl), (in_t1 2 rfl rfl), ⟨by decide, by decide⟩⟩
abbrev mG_fuse : rk_M := (⟨"TensorForge$Graph", "fuse", "(I)V"⟩, prog_2_method_13_code, 3, none, [])
theorem wmG_fuse : rk_cd mG_fuse := ⟨(in_t3 129 rfl rfl), (in_t1 2 rfl rfl), ⟨by decide, by decide⟩⟩
abbrev mN_hasWeights : rk_M := (⟨"TensorForge$Node", "hasWeights", "()Z"⟩, prog_4_method_4_code, 1, (some .boolean), [])
theorem wmN_hasWeights : rk_cd mN_hasWeights := ⟨(in_t3 133 rfl rfl), (in_t1 13 rfl rfl), ⟨by decide, by decide⟩⟩
abbrev mG_feedsOneClamp : rk_M := (⟨"TensorForge$Graph", "feedsOneClamp", "(I)Z"⟩, prog_2_method_14_code, 6, (some .boolean), [])
theorem wmG_feedsOneClamp : rk_cd mG_feedsOneClamp := ⟨(in_t3 137 rfl rfl), (in_t1 2 rfl rfl), ⟨by decide, by decide⟩⟩
abbrev mG_timesUsed : rk_M := (⟨"TensorForge$Graph", "timesUsed", "(LTensorForge$Node;I)I"⟩, prog_2_method_15_code, 3, (some .int), [])
theorem wmG_timesUsed : rk_cd mG_timesUsed := ⟨(in_t3 141 rfl rfl), (in_t1 2 rfl rfl), ⟨by decide, by decide⟩⟩
abbrev mG_countSteps : rk_M := (⟨"TensorForge$Graph", "countSteps", "()V"⟩, prog_2_method_16_code, 2, none, [])
theorem wmG_countSteps : rk_cd mG_countSteps := ⟨(in_t3 145 rfl rfl), (in_t1 2 rfl rfl), ⟨by decide, by decide⟩⟩
abbrev mG_findLives : rk_M := (⟨"TensorForge$Graph", "findLives", "(I)V"⟩, prog_2_method_17_code, 5, none, [])
theorem wmG_findLives : rk_cd mG_findLives := ⟨(in_t3 149 rfl rfl), (in_t1 2 rfl rfl), ⟨by decide, by decide⟩⟩
abbrev mG_fusedInto : rk_M := (⟨"TensorForge$Graph", "fusedInto", "(I)I"⟩, prog_2_method_6_code, 3, (some .int), [])
theorem wmG_fusedInto : rk_cd mG_fusedInto := ⟨(in_t3 153 rfl rfl), (in_t1 2 rfl rfl), ⟨by decide, by decide⟩⟩
abbrev mG_keepAlive : rk_M := (⟨"TensorForge$Graph", "keepAlive", "(II)V"⟩, prog_2_method_18_code, 3, none, [])
theorem wmG_keepAlive : rk_cd mG_keepAlive := ⟨(in_t3 157 rfl rfl), (in_t1 2 rfl rfl), ⟨by decide, by decide⟩⟩
abbrev mG_givePlaces : rk_M := (⟨"TensorForge$Graph", "givePlaces", "()V"⟩, prog_2_method_19_code, 3, none, [])
theorem wmG_givePlaces : rk_cd mG_givePlaces := ⟨(in_t3 161 rfl rfl), (in_t1 2 rfl rfl), ⟨by decide, by decide⟩⟩
abbrev mG_largestWithoutPlace : rk_M := (⟨"TensorForge$Graph", "largestWithoutPlace", "()I"⟩, prog_2_method_20_code, 4, (some .int), [])
theorem wmG_largestWithoutPlace : rk_cd mG_largestWithoutPlace := ⟨(in_t3 165 rfl rfl), (in_t1 2 rfl rfl), ⟨by decide, by decide⟩⟩
abbrev mG_leastFreePlace : rk_M := (⟨"TensorForge$Graph", "leastFreePlace", "(I)I"⟩, prog_2_method_21_code, 5, (some .int), [])
theorem wmG_leastFreePlace : rk_cd mG_leastFreePlace := ⟨(in_t3 169 rfl rfl), (in_t1 2 rfl rfl), ⟨by decide, by decide⟩⟩
abbrev mG_nodeInTheWay : rk_M := (⟨"TensorForge$Graph", "nodeInTheWay", "(II)I"⟩, prog_2_method_22_code, 4, (some .int), [])
theorem wmG_nodeInTheWay : rk_cd mG_nodeInTheWay := ⟨(in_t3 173 rfl rfl), (in_t1 2 rfl rfl), ⟨by decide, by decide⟩⟩
abbrev mG_liveTogether : rk_M := (⟨"TensorForge$Graph", "liveTogether", "(II)Z"⟩, prog_2_method_23_code, 3, (some .boolean), [])
theorem wmG_liveTogether : rk_cd mG_liveTogether := ⟨(in_t3 177 rfl rfl), (in_t1 2 rfl rfl), ⟨by decide, by decide⟩⟩
abbrev mL_feed : rk_M := (⟨"TensorForgeLaw", "feed", "(LTensorForge;IIJ[J)I"⟩, method_16_code, 7, (some .int), [(0, 12, 15, 13, "java/lang/IllegalArgumentException")])
theorem wmL_feed : rk_cd mL_feed := ⟨(in_t3 183 rfl rfl), (in_t1 0 rfl rfl), ⟨by decide, by decide⟩⟩
abbrev mT_feed : rk_M := (⟨"TensorForge", "feed", "(IIJ)I"⟩, prog_1_method_15_code, 6, (some .int), [])
theorem wmT_feed : rk_cd mT_feed := ⟨(in_t3 187 rfl rfl), (in_t1 1 rfl rfl), ⟨by decide, by decide⟩⟩
abbrev mL_run : rk_M := (⟨"TensorForgeLaw", "run", "(LTensorForge;I[J)I"⟩, method_17_code, 4, (some .int), [(0, 9, 12, 13, "java/lang/IllegalArgumentException"), (0, 9, 15, 23, "java/lang/IllegalStateException"), (0, 9, 18, 73, "java/lang/UnsupportedOperationException")])
theorem wmL_run : rk_cd mL_run := ⟨(in_t3 190 rfl rfl), (in_t1 0 rfl rfl), ⟨by decide, by decide⟩⟩
abbrev mT_run : rk_M := (⟨"TensorForge", "run", "(I)I"⟩, prog_1_method_16_code, 2, (some .int), [])
theorem wmT_run : rk_cd mT_run := ⟨(in_t3 195 rfl rfl), (in_t1 1 rfl rfl), ⟨by decide, by decide⟩⟩
abbrev mT_requireCompiled : rk_M := (⟨"TensorForge", "requireCompiled", "()V"⟩, prog_1_method_36_code, 1, none, [])
theorem wmT_requireCompiled : rk_cd mT_requireCompiled := ⟨(in_t3 199 rfl rfl), (in_t1 1 rfl rfl), ⟨by decide, by decide⟩⟩
abbrev mM_perform : rk_M := (⟨"TensorForge$Machine", "perform", "(LTensorForge$Graph;I)I"⟩, prog_3_method_2_code, 5, (some .int), [])
theorem wmM_perform : rk_cd mM_perform := ⟨(in_t3 220 rfl rfl), (in_t1 3 rfl rfl), ⟨by decide, by decide⟩⟩
abbrev mM_doStep : rk_M := (⟨"TensorForge$Machine", "doStep", "(LTensorForge$Graph;I)V"⟩, prog_3_method_4_code, 5, none, [])
theorem wmM_doStep : rk_cd mM_doStep := ⟨(in_t3 226 rfl rfl), (in_t1 3 rfl rfl), ⟨by decide, by decide⟩⟩
abbrev mM_compute : rk_M := (⟨"TensorForge$Machine", "compute", "(LTensorForge$Graph;LTensorForge$Node;I)V"⟩, prog_3_method_5_code, 6, none, [])
theorem wmM_compute : rk_cd mM_compute := ⟨(in_t3 231 rfl rfl), (in_t1 3 rfl rfl), ⟨by decide, by decide⟩⟩
abbrev mG_placeMeant : rk_M := (⟨"TensorForge$Graph", "placeMeant", "(I)I"⟩, prog_2_method_5_code, 2, (some .int), [])
theorem wmG_placeMeant : rk_cd mG_placeMeant := ⟨(in_t3 238 rfl rfl), (in_t1 2 rfl rfl), ⟨by decide, by decide⟩⟩
abbrev mM_connect : rk_M := (⟨"TensorForge$Machine", "connect", "(LTensorForge$Node;LTensorForge$Node;II)V"⟩, prog_3_method_13_code, 9, none, [])
theorem wmM_connect : rk_cd mM_connect := ⟨(in_t4 2 rfl rfl), (in_t1 3 rfl rfl), ⟨by decide, by decide⟩⟩
abbrev mS_take : rk_M := (⟨"TensorForge$Scaler", "take", "(D)V"⟩, prog_5_method_3_code, 6, none, [])
theorem wmS_take : rk_cd mS_take := ⟨(in_t4 6 rfl rfl), (in_t1 5 rfl rfl), ⟨by decide, by decide⟩⟩
abbrev mM_bias : rk_M := (⟨"TensorForge$Machine", "bias", "(LTensorForge$Node;II)I"⟩, prog_3_method_10_code, 4, (some .int), [])
theorem wmM_bias : rk_cd mM_bias := ⟨(in_t4 15 rfl rfl), (in_t1 3 rfl rfl), ⟨by decide, by decide⟩⟩
abbrev mS_scaled : rk_M := (⟨"TensorForge$Scaler", "scaled", "(I)J"⟩, prog_5_method_4_code, 6, (some .long), [])
theorem wmS_scaled : rk_cd mS_scaled := ⟨(in_t4 19 rfl rfl), (in_t1 5 rfl rfl), ⟨by decide, by decide⟩⟩
abbrev mM_cut : rk_M := (⟨"TensorForge$Machine", "cut", "(J)I"⟩, prog_3_method_18_code, 2, (some .int), [])
theorem wmM_cut : rk_cd mM_cut := ⟨(in_t4 25 rfl rfl), (in_t1 3 rfl rfl), ⟨by decide, by decide⟩⟩
abbrev mM_addUp : rk_M := (⟨"TensorForge$Machine", "addUp", "(LTensorForge$Node;III)V"⟩, prog_3_method_14_code, 6, none, [])
theorem wmM_addUp : rk_cd mM_addUp := ⟨(in_t4 37 rfl rfl), (in_t1 3 rfl rfl), ⟨by decide, by decide⟩⟩
abbrev mM_join : rk_M := (⟨"TensorForge$Machine", "join", "(LTensorForge$Node;LTensorForge$Node;III)V"⟩, prog_3_method_15_code, 10, none, [])
theorem wmM_join : rk_cd mM_join := ⟨(in_t4 41 rfl rfl), (in_t1 3 rfl rfl), ⟨by decide, by decide⟩⟩
abbrev mM_hold : rk_M := (⟨"TensorForge$Machine", "hold", "(LTensorForge$Node;II)V"⟩, prog_3_method_16_code, 5, none, [])
theorem wmM_hold : rk_cd mM_hold := ⟨(in_t4 45 rfl rfl), (in_t1 3 rfl rfl), ⟨by decide, by decide⟩⟩
abbrev mM_changeScale : rk_M := (⟨"TensorForge$Machine", "changeScale", "(LTensorForge$Node;II)V"⟩, prog_3_method_17_code, 5, none, [])
theorem wmM_changeScale : rk_cd mM_changeScale := ⟨(in_t4 51 rfl rfl), (in_t1 3 rfl rfl), ⟨by decide, by decide⟩⟩
abbrev mM_slide : rk_M := (⟨"TensorForge$Machine", "slide", "(LTensorForge$Node;LTensorForge$Node;II)V"⟩, prog_3_method_6_code, 9, none, [])
theorem wmM_slide : rk_cd mM_slide := ⟨(in_t4 55 rfl rfl), (in_t1 3 rfl rfl), ⟨by decide, by decide⟩⟩
abbrev mW_lay : rk_M := (⟨"TensorForge$Window", "lay", "(LTensorForge$Node;LTensorForge$Node;)V"⟩, prog_6_method_7_code, 3, none, [])
theorem wmW_lay : rk_cd mW_lay := ⟨(in_t4 59 rfl rfl), (in_t1 4 rfl rfl), ⟨by decide, by decide⟩⟩
abbrev mW_before : rk_M := (⟨"TensorForge$Window", "before", "(II)I"⟩, prog_6_method_8_code, 4, (some .int), [])
theorem wmW_before : rk_cd mW_before := ⟨(in_t4 63 rfl rfl), (in_t1 4 rfl rfl), ⟨by decide, by decide⟩⟩
abbrev mW_move : rk_M := (⟨"TensorForge$Window", "move", "(II)V"⟩, prog_6_method_9_code, 3, none, [])
theorem wmW_move : rk_cd mW_move := ⟨(in_t4 69 rfl rfl), (in_t1 4 rfl rfl), ⟨by decide, by decide⟩⟩
abbrev mM_ofWindow : rk_M := (⟨"TensorForge$Machine", "ofWindow", "(LTensorForge$Node;LTensorForge$Node;II)I"⟩, prog_3_method_7_code, 7, (some .int), [])
theorem wmM_ofWindow : rk_cd mM_ofWindow := ⟨(in_t4 74 rfl rfl), (in_t1 3 rfl rfl), ⟨by decide, by decide⟩⟩
abbrev mM_sumAllChannels : rk_M := (⟨"TensorForge$Machine", "sumAllChannels", "(LTensorForge$Node;LTensorForge$Node;II)I"⟩, prog_3_method_8_code, 14, (some .int), [])
theorem wmM_sumAllChannels : rk_cd mM_sumAllChannels := ⟨(in_t4 78 rfl rfl), (in_t1 3 rfl rfl), ⟨by decide, by decide⟩⟩
abbrev mM_sumOneChannel : rk_M := (⟨"TensorForge$Machine", "sumOneChannel", "(LTensorForge$Node;LTensorForge$Node;II)I"⟩, prog_3_method_9_code, 11, (some .int), [])
theorem wmM_sumOneChannel : rk_cd mM_sumOneChannel := ⟨(in_t4 82 rfl rfl), (in_t1 3 rfl rfl), ⟨by decide, by decide⟩⟩
abbrev mM_greatest : rk_M := (⟨"TensorForge$Machine", "greatest", "(LTensorForge$Node;I)I"⟩, prog_3_method_11_code, 6, (some .int), [])
theorem wmM_greatest : rk_cd mM_greatest := ⟨(in_t4 86 rfl rfl), (in_t1 3 rfl rfl), ⟨by decide, by decide⟩⟩
abbrev mM_average : rk_M := (⟨"TensorForge$Machine", "average", "(LTensorForge$Node;I)I"⟩, prog_3_method_12_code, 7, (some .int), [])
theorem wmM_average : rk_cd mM_average := ⟨(in_t4 90 rfl rfl), (in_t1 3 rfl rfl), ⟨by decide, by decide⟩⟩
abbrev mM_sumOfResult : rk_M := (⟨"TensorForge$Machine", "sumOfResult", "()I"⟩, prog_3_method_3_code, 3, (some .int), [])
theorem wmM_sumOfResult : rk_cd mM_sumOfResult := ⟨(in_t4 97 rfl rfl), (in_t1 3 rfl rfl), ⟨by decide, by decide⟩⟩
abbrev mL_arena : rk_M := (⟨"TensorForgeLaw", "arena", "(LTensorForge;I[J)I"⟩, method_18_code, 4, (some .int), [(0, 9, 12, 78, "java/util/NoSuchElementException")])
theorem wmL_arena : rk_cd mL_arena := ⟨(in_t4 100 rfl rfl), (in_t1 0 rfl rfl), ⟨by decide, by decide⟩⟩
abbrev mT_arena : rk_M := (⟨"TensorForge", "arena", "(I)I"⟩, prog_1_method_17_code, 2, (some .int), [])
theorem wmT_arena : rk_cd mT_arena := ⟨(in_t4 105 rfl rfl), (in_t1 1 rfl rfl), ⟨by decide, by decide⟩⟩
abbrev mT_requirePresent : rk_M := (⟨"TensorForge", "requirePresent", "(Z)V"⟩, prog_1_method_37_code, 1, none, [])
theorem wmT_requirePresent : rk_cd mT_requirePresent := ⟨(in_t4 108 rfl rfl), (in_t1 1 rfl rfl), ⟨by decide, by decide⟩⟩
abbrev mL_result : rk_M := (⟨"TensorForgeLaw", "result", "(LTensorForge;I[D)I"⟩, method_19_code, 4, (some .int), [(0, 8, 11, 78, "java/util/NoSuchElementException")])
theorem wmL_result : rk_cd mL_result := ⟨(in_t4 127 rfl rfl), (in_t1 0 rfl rfl), ⟨by decide, by decide⟩⟩
abbrev mT_result : rk_M := (⟨"TensorForge", "result", "(I)D"⟩, prog_1_method_18_code, 2, (some .double), [])
theorem wmT_result : rk_cd mT_result := ⟨(in_t4 131 rfl rfl), (in_t1 1 rfl rfl), ⟨by decide, by decide⟩⟩
abbrev mL_about : rk_M := (⟨"TensorForgeLaw", "about", "(LTensorForge;II[J)I"⟩, method_20_code, 5, (some .int), [(0, 10, 13, 13, "java/lang/IllegalArgumentException"), (0, 10, 17, 23, "java/lang/IllegalStateException"), (0, 10, 21, 78, "java/util/NoSuchElementException")])
theorem wmL_about : rk_cd mL_about := ⟨(in_t4 134 rfl rfl), (in_t1 0 rfl rfl), ⟨by decide, by decide⟩⟩
abbrev mT_about : rk_M := (⟨"TensorForge", "about", "(II)I"⟩, prog_1_method_19_code, 3, (some .int), [])
theorem wmT_about : rk_cd mT_about := ⟨(in_t4 138 rfl rfl), (in_t1 1 rfl rfl), ⟨by decide, by decide⟩⟩
abbrev mT_aboutMade : rk_M := (⟨"TensorForge", "aboutMade", "(LTensorForge$Node;I)I"⟩, prog_1_method_21_code, 2, (some .int), [])
theorem wmT_aboutMade : rk_cd mT_aboutMade := ⟨(in_t4 141 rfl rfl), (in_t1 1 rfl rfl), ⟨by decide, by decide⟩⟩
abbrev mT_aboutPlanned : rk_M := (⟨"TensorForge", "aboutPlanned", "(II)I"⟩, prog_1_method_22_code, 4, (some .int), [])
theorem wmT_aboutPlanned : rk_cd mT_aboutPlanned := ⟨(in_t4 145 rfl rfl), (in_t1 1 rfl rfl), ⟨by decide, by decide⟩⟩
abbrev mL_peak : rk_M := (⟨"TensorForgeLaw", "peak", "(LTensorForge;[J)I"⟩, method_21_code, 3, (some .int), [(0, 8, 11, 23, "java/lang/IllegalStateException")])
theorem wmL_peak : rk_cd mL_peak := ⟨(in_t4 148 rfl rfl), (in_t1 0 rfl rfl), ⟨by decide, by decide⟩⟩
abbrev mT_peak : rk_M := (⟨"TensorForge", "peak", "()I"⟩, prog_1_method_20_code, 1, (some .int), [])
theorem wmT_peak : rk_cd mT_peak := ⟨(in_t4 152 rfl rfl), (in_t1 1 rfl rfl), ⟨by decide, by decide⟩⟩
abbrev mR_init : rk_M := (⟨"TensorForgeModel", "<init>", "()V"⟩, prog_8_method_1_code, 1, none, [])
theorem wmR_init : rk_cd mR_init := ⟨(in_t4 157 rfl rfl), (in_t1 6 rfl rfl), ⟨by decide, by decide⟩⟩
abbrev mR_thrown : rk_M := (⟨"TensorForgeModel", "thrown", "()I"⟩, prog_8_method_2_code, 1, (some .int), [])
theorem wmR_thrown : rk_cd mR_thrown := ⟨(in_t5 20 rfl rfl), (in_t1 6 rfl rfl), ⟨by decide, by decide⟩⟩
abbrev mR_weights : rk_M := (⟨"TensorForgeModel", "weights", "(IJ)I"⟩, prog_8_method_8_code, 6, (some .int), [])
theorem wmR_weights : rk_cd mR_weights := ⟨(in_t5 24 rfl rfl), (in_t1 6 rfl rfl), ⟨by decide, by decide⟩⟩
abbrev mR_out : rk_M := (⟨"TensorForgeModel", "out", "(II)Z"⟩, prog_8_method_4_code, 3, (some .boolean), [])
theorem wmR_out : rk_cd mR_out := ⟨(in_t5 28 rfl rfl), (in_t1 6 rfl rfl), ⟨by decide, by decide⟩⟩
abbrev mR_fail : rk_M := (⟨"TensorForgeModel", "fail", "(I)I"⟩, prog_8_method_3_code, 2, (some .int), [])
theorem wmR_fail : rk_cd mR_fail := ⟨(in_t5 32 rfl rfl), (in_t1 6 rfl rfl), ⟨by decide, by decide⟩⟩
abbrev mR_weightScale : rk_M := (⟨"TensorForgeModel", "weightScale", "(D)V"⟩, prog_8_method_9_code, 3, none, [])
theorem wmR_weightScale : rk_cd mR_weightScale := ⟨(in_t5 36 rfl rfl), (in_t1 6 rfl rfl), ⟨by decide, by decide⟩⟩
abbrev mR_badScale : rk_M := (⟨"TensorForgeModel", "badScale", "(D)Z"⟩, prog_8_method_6_code, 3, (some .boolean), [])
theorem wmR_badScale : rk_cd mR_badScale := ⟨(in_t5 40 rfl rfl), (in_t1 6 rfl rfl), ⟨by decide, by decide⟩⟩
abbrev mR_input : rk_M := (⟨"TensorForgeModel", "input", "(IIID)I"⟩, prog_8_method_12_code, 6, (some .int), [])
theorem wmR_input : rk_cd mR_input := ⟨(in_t5 45 rfl rfl), (in_t1 6 rfl rfl), ⟨by decide, by decide⟩⟩
abbrev mR_make : rk_M := (⟨"TensorForgeModel", "make", "(IIIIIID)I"⟩, prog_8_method_10_code, 10, (some .int), [])
theorem wmR_make : rk_cd mR_make := ⟨(in_t5 49 rfl rfl), (in_t1 6 rfl rfl), ⟨by decide, by decide⟩⟩
abbrev mR_finish : rk_M := (⟨"TensorForgeModel", "finish", "(IIII)I"⟩, prog_8_method_11_code, 6, (some .int), [])
theorem wmR_finish : rk_cd mR_finish := ⟨(in_t5 53 rfl rfl), (in_t1 6 rfl rfl), ⟨by decide, by decide⟩⟩
abbrev mR_windows : rk_M := (⟨"TensorForgeModel", "windows", "(IIZID)I"⟩, prog_8_method_18_code, 10, (some .int), [])
theorem wmR_windows : rk_cd mR_windows := ⟨(in_t5 57 rfl rfl), (in_t1 6 rfl rfl), ⟨by decide, by decide⟩⟩
abbrev mR_side : rk_M := (⟨"TensorForgeModel", "side", "(I)I"⟩, prog_8_method_13_code, 2, (some .int), [])
theorem wmR_side : rk_cd mR_side := ⟨(in_t5 61 rfl rfl), (in_t1 6 rfl rfl), ⟨by decide, by decide⟩⟩
abbrev mR_narrow : rk_M := (⟨"TensorForgeModel", "narrow", "(II)Z"⟩, prog_8_method_17_code, 3, (some .boolean), [])
theorem wmR_narrow : rk_cd mR_narrow := ⟨(in_t5 65 rfl rfl), (in_t1 6 rfl rfl), ⟨by decide, by decide⟩⟩
abbrev mR_badRatio : rk_M := (⟨"TensorForgeModel", "badRatio", "(D)Z"⟩, prog_8_method_7_code, 3, (some .boolean), [])
theorem wmR_badRatio : rk_cd mR_badRatio := ⟨(in_t5 69 rfl rfl), (in_t1 6 rfl rfl), ⟨by decide, by decide⟩⟩
abbrev mR_places : rk_M := (⟨"TensorForgeModel", "places", "(II)I"⟩, prog_8_method_15_code, 3, (some .int), [])
theorem wmR_places : rk_cd mR_places := ⟨(in_t5 75 rfl rfl), (in_t1 6 rfl rfl), ⟨by decide, by decide⟩⟩
abbrev mR_stride : rk_M := (⟨"TensorForgeModel", "stride", "(I)I"⟩, prog_8_method_14_code, 2, (some .int), [])
theorem wmR_stride : rk_cd mR_stride := ⟨(in_t5 79 rfl rfl), (in_t1 6 rfl rfl), ⟨by decide, by decide⟩⟩
abbrev mR_dense : rk_M := (⟨"TensorForgeModel", "dense", "(IIID)I"⟩, prog_8_method_19_code, 6, (some .int), [])
theorem wmR_dense : rk_cd mR_dense := ⟨(in_t5 83 rfl rfl), (in_t1 6 rfl rfl), ⟨by decide, by decide⟩⟩
abbrev mR_cells : rk_M := (⟨"TensorForgeModel", "cells", "(I)I"⟩, prog_8_method_5_code, 2, (some .int), [])
theorem wmR_cells : rk_cd mR_cells := ⟨(in_t5 87 rfl rfl), (in_t1 6 rfl rfl), ⟨by decide, by decide⟩⟩
abbrev mR_add : rk_M := (⟨"TensorForgeModel", "add", "(IID)I"⟩, prog_8_method_21_code, 5, (some .int), [])
theorem wmR_add : rk_cd mR_add := ⟨(in_t5 91 rfl rfl), (in_t1 6 rfl rfl), ⟨by decide, by decide⟩⟩
abbrev mR_sameSize : rk_M := (⟨"TensorForgeModel", "sameSize", "(II)Z"⟩, prog_8_method_20_code, 3, (some .boolean), [])
theorem wmR_sameSize : rk_cd mR_sameSize := ⟨(in_t5 95 rfl rfl), (in_t1 6 rfl rfl), ⟨by decide, by decide⟩⟩
abbrev mR_concat : rk_M := (⟨"TensorForgeModel", "concat", "(II)I"⟩, prog_8_method_22_code, 3, (some .int), [])
theorem wmR_concat : rk_cd mR_concat := ⟨(in_t5 99 rfl rfl), (in_t1 6 rfl rfl), ⟨by decide, by decide⟩⟩
abbrev mR_reshape : rk_M := (⟨"TensorForgeModel", "reshape", "(IIII)I"⟩, prog_8_method_23_code, 5, (some .int), [])
theorem wmR_reshape : rk_cd mR_reshape := ⟨(in_t5 103 rfl rfl), (in_t1 6 rfl rfl), ⟨by decide, by decide⟩⟩
abbrev mR_pool : rk_M := (⟨"TensorForgeModel", "pool", "(IIZ)I"⟩, prog_8_method_24_code, 4, (some .int), [])
theorem wmR_pool : rk_cd mR_pool := ⟨(in_t5 107 rfl rfl), (in_t1 6 rfl rfl), ⟨by decide, by decide⟩⟩
abbrev mR_clamp : rk_M := (⟨"TensorForgeModel", "clamp", "(III)I"⟩, prog_8_method_25_code, 4, (some .int), [])
theorem wmR_clamp : rk_cd mR_clamp := ⟨(in_t5 111 rfl rfl), (in_t1 6 rfl rfl), ⟨by decide, by decide⟩⟩
abbrev mR_rescale : rk_M := (⟨"TensorForgeModel", "rescale", "(ID)I"⟩, prog_8_method_26_code, 4, (some .int), [])
theorem wmR_rescale : rk_cd mR_rescale := ⟨(in_t5 115 rfl rfl), (in_t1 6 rfl rfl), ⟨by decide, by decide⟩⟩
abbrev mR_output : rk_M := (⟨"TensorForgeModel", "output", "(I)I"⟩, prog_8_method_27_code, 2, (some .int), [])
theorem wmR_output : rk_cd mR_output := ⟨(in_t5 119 rfl rfl), (in_t1 6 rfl rfl), ⟨by decide, by decide⟩⟩
abbrev mR_compile : rk_M := (⟨"TensorForgeModel", "compile", "()I"⟩, prog_8_method_37_code, 2, (some .int), [])
theorem wmR_compile : rk_cd mR_compile := ⟨(in_t5 123 rfl rfl), (in_t1 6 rfl rfl), ⟨by decide, by decide⟩⟩
abbrev mR_findStands : rk_M := (⟨"TensorForgeModel", "findStands", "(I)V"⟩, prog_8_method_30_code, 5, none, [])
theorem wmR_findStands : rk_cd mR_findStands := ⟨(in_t5 127 rfl rfl), (in_t1 6 rfl rfl), ⟨by decide, by decide⟩⟩
abbrev mR_standFor : rk_M := (⟨"TensorForgeModel", "standFor", "(I)I"⟩, prog_8_method_28_code, 2, (some .int), [])
theorem wmR_standFor : rk_cd mR_standFor := ⟨(in_t5 131 rfl rfl), (in_t1 6 rfl rfl), ⟨by decide, by decide⟩⟩
abbrev mR_alike : rk_M := (⟨"TensorForgeModel", "alike", "(II)Z"⟩, prog_8_method_29_code, 6, (some .boolean), [])
theorem wmR_alike : rk_cd mR_alike := ⟨(in_t5 135 rfl rfl), (in_t1 6 rfl rfl), ⟨by decide, by decide⟩⟩
abbrev mR_findRoles : rk_M := (⟨"TensorForgeModel", "findRoles", "()V"⟩, prog_8_method_32_code, 4, none, [])
theorem wmR_findRoles : rk_cd mR_findRoles := ⟨(in_t5 139 rfl rfl), (in_t1 6 rfl rfl), ⟨by decide, by decide⟩⟩
abbrev mR_uses : rk_M := (⟨"TensorForgeModel", "uses", "(I)I"⟩, prog_8_method_31_code, 4, (some .int), [])
theorem wmR_uses : rk_cd mR_uses := ⟨(in_t5 143 rfl rfl), (in_t1 6 rfl rfl), ⟨by decide, by decide⟩⟩
abbrev mR_findLives : rk_M := (⟨"TensorForgeModel", "findLives", "()V"⟩, prog_8_method_34_code, 3, none, [])
theorem wmR_findLives : rk_cd mR_findLives := ⟨(in_t5 147 rfl rfl), (in_t1 6 rfl rfl), ⟨by decide, by decide⟩⟩
abbrev mR_hasInput : rk_M := (⟨"TensorForgeModel", "hasInput", "(II)Z"⟩, prog_8_method_33_code, 4, (some .boolean), [])
theorem wmR_hasInput : rk_cd mR_hasInput := ⟨(in_t5 151 rfl rfl), (in_t1 6 rfl rfl), ⟨by decide, by decide⟩⟩
abbrev mR_plan : rk_M := (⟨"TensorForgeModel", "plan", "()V"⟩, prog_8_method_36_code, 6, none, [])
theorem wmR_plan : rk_cd mR_plan := ⟨(in_t5 155 rfl rfl), (in_t1 6 rfl rfl), ⟨by decide, by decide⟩⟩
abbrev mR_hits : rk_M := (⟨"TensorForgeModel", "hits", "(III)Z"⟩, prog_8_method_35_code, 5, (some .boolean), [])
theorem wmR_hits : rk_cd mR_hits := ⟨(in_t5 159 rfl rfl), (in_t1 6 rfl rfl), ⟨by decide, by decide⟩⟩
abbrev mR_feed : rk_M := (⟨"TensorForgeModel", "feed", "(IIJ)I"⟩, prog_8_method_38_code, 7, (some .int), [])
theorem wmR_feed : rk_cd mR_feed := ⟨(in_t5 163 rfl rfl), (in_t1 6 rfl rfl), ⟨by decide, by decide⟩⟩
abbrev mR_run : rk_M := (⟨"TensorForgeModel", "run", "(I)I"⟩, prog_8_method_48_code, 5, (some .int), [])
theorem wmR_run : rk_cd mR_run := ⟨(in_t5 167 rfl rfl), (in_t1 6 rfl rfl), ⟨by decide, by decide⟩⟩
abbrev mR_value : rk_M := (⟨"TensorForgeModel", "value", "(II)I"⟩, prog_8_method_47_code, 10, (some .int), [])
theorem wmR_value : rk_cd mR_value := ⟨(in_t5 171 rfl rfl), (in_t1 6 rfl rfl), ⟨by decide, by decide⟩⟩
abbrev mR_windowSum : rk_M := (⟨"TensorForgeModel", "windowSum", "(IIIII)J"⟩, prog_8_method_43_code, 14, (some .long), [])
theorem wmR_windowSum : rk_cd mR_windowSum := ⟨(in_t5 175 rfl rfl), (in_t1 6 rfl rfl), ⟨by decide, by decide⟩⟩
abbrev mR_before : rk_M := (⟨"TensorForgeModel", "before", "(II)I"⟩, prog_8_method_16_code, 4, (some .int), [])
theorem wmR_before : rk_cd mR_before := ⟨(in_t5 179 rfl rfl), (in_t1 6 rfl rfl), ⟨by decide, by decide⟩⟩
abbrev mR_at : rk_M := (⟨"TensorForgeModel", "at", "(IIII)I"⟩, prog_8_method_42_code, 5, (some .int), [])
theorem wmR_at : rk_cd mR_at := ⟨(in_t5 183 rfl rfl), (in_t1 6 rfl rfl), ⟨by decide, by decide⟩⟩
abbrev mR_scaled : rk_M := (⟨"TensorForgeModel", "scaled", "(JD)J"⟩, prog_8_method_40_code, 10, (some .long), [])
theorem wmR_scaled : rk_cd mR_scaled := ⟨(in_t5 188 rfl rfl), (in_t1 6 rfl rfl), ⟨by decide, by decide⟩⟩
abbrev mR_halves : rk_M := (⟨"TensorForgeModel", "halves", "(JJ)J"⟩, prog_8_method_39_code, 9, (some .long), [])
theorem wmR_halves : rk_cd mR_halves := ⟨(in_t5 197 rfl rfl), (in_t1 6 rfl rfl), ⟨by decide, by decide⟩⟩
abbrev mR_cut : rk_M := (⟨"TensorForgeModel", "cut", "(J)I"⟩, prog_8_method_41_code, 3, (some .int), [])
theorem wmR_cut : rk_cd mR_cut := ⟨(in_t5 202 rfl rfl), (in_t1 6 rfl rfl), ⟨by decide, by decide⟩⟩
abbrev mR_denseSum : rk_M := (⟨"TensorForgeModel", "denseSum", "(III)J"⟩, prog_8_method_45_code, 8, (some .long), [])
theorem wmR_denseSum : rk_cd mR_denseSum := ⟨(in_t5 208 rfl rfl), (in_t1 6 rfl rfl), ⟨by decide, by decide⟩⟩
abbrev mR_joined : rk_M := (⟨"TensorForgeModel", "joined", "(IIIII)I"⟩, prog_8_method_46_code, 6, (some .int), [])
theorem wmR_joined : rk_cd mR_joined := ⟨(in_t5 212 rfl rfl), (in_t1 6 rfl rfl), ⟨by decide, by decide⟩⟩
abbrev mR_pooled : rk_M := (⟨"TensorForgeModel", "pooled", "(IIIII)I"⟩, prog_8_method_44_code, 14, (some .int), [])
theorem wmR_pooled : rk_cd mR_pooled := ⟨(in_t5 216 rfl rfl), (in_t1 6 rfl rfl), ⟨by decide, by decide⟩⟩
abbrev mR_arena : rk_M := (⟨"TensorForgeModel", "arena", "(I)I"⟩, prog_8_method_49_code, 2, (some .int), [])
theorem wmR_arena : rk_cd mR_arena := ⟨(in_t5 220 rfl rfl), (in_t1 6 rfl rfl), ⟨by decide, by decide⟩⟩
abbrev mR_result : rk_M := (⟨"TensorForgeModel", "result", "(I)D"⟩, prog_8_method_50_code, 2, (some .double), [])
theorem wmR_result : rk_cd mR_result := ⟨(in_t5 224 rfl rfl), (in_t1 6 rfl rfl), ⟨by decide, by decide⟩⟩
abbrev mR_about : rk_M := (⟨"TensorForgeModel", "about", "(II)I"⟩, prog_8_method_51_code, 4, (some .int), [])
theorem wmR_about : rk_cd mR_about := ⟨(in_t5 228 rfl rfl), (in_t1 6 rfl rfl), ⟨by decide, by decide⟩⟩
abbrev mR_peak : rk_M := (⟨"TensorForgeModel", "peak", "()I"⟩, prog_8_method_52_code, 1, (some .int), [])
theorem wmR_peak : rk_cd mR_peak := ⟨(in_t5 232 rfl rfl), (in_t1 6 rfl rfl), ⟨by decide, by decide⟩⟩
theorem jT_3 : Cond.methodLink "TensorForge" 3 ⟨"java/lang/Object", "<init>", "()V"⟩ ∈ rk_tbl := (in_t1 24 rfl rfl)
theorem nT_9 : Cond.classLink "TensorForge" 9 "TensorForge$Graph" ∈ rk_tbl ∧ Cond.instantiable "TensorForge$Graph" 9 ∈ rk_tbl ∧ Cond.initialized "TensorForge$Graph" ∈ rk_tbl := ⟨(in_t1 27 rfl rfl), (in_t1 28 rfl rfl), (in_t1 2 rfl rfl)⟩
theorem cT_11 : rk_cI "TensorForge" 11 mG_init := ⟨Or.inl (in_t1 29 rfl rfl), wmG_init, (in_t1 30 rfl rfl), rfl, rfl, rfl⟩
theorem fT_12 : rk_fl "TensorForge" 12 5 0 := ⟨_, _, _, _, kT, by decide, (in_t1 179 rfl rfl)⟩
theorem pT_12 : rk_pF "TensorForge" 12 5 0 (.object "TensorForge$Graph") := ⟨_, _, _, _, kT, by decide, (in_t1 179 rfl rfl), rfl, rfl, rfl⟩
theorem nT_16 : Cond.classLink "TensorForge" 16 "TensorForge$Machine" ∈ rk_tbl ∧ Cond.instantiable "TensorForge$Machine" 9 ∈ rk_tbl ∧ Cond.initialized "TensorForge$Machine" ∈ rk_tbl := ⟨(in_t1 76 rfl rfl), (in_t1 77 rfl rfl), (in_t1 3 rfl rfl)⟩
theorem cT_18 : rk_cI "TensorForge" 18 mM_init := ⟨Or.inl (in_t1 78 rfl rfl), wmM_init, (in_t1 79 rfl rfl), rfl, rfl, rfl⟩
theorem fT_19 : rk_fl "TensorForge" 19 5 1 := ⟨_, _, _, _, kT, by decide, (in_t1 180 rfl rfl)⟩
theorem pT_19 : rk_pF "TensorForge" 19 5 1 (.object "TensorForge$Machine") := ⟨_, _, _, _, kT, by decide, (in_t1 180 rfl rfl), rfl, rfl, rfl⟩
theorem fT_23 : rk_fl "TensorForge" 23 5 2 := ⟨_, _, _, _, kT, by decide, (in_t1 181 rfl rfl)⟩
theorem pT_23 : rk_pl "TensorForge" 23 5 2 .double := ⟨_, _, _, _, kT, by decide, (in_t1 181 rfl rfl), rfl, rfl⟩
theorem fT_27 : rk_fl "TensorForge" 27 5 3 := ⟨_, _, _, _, kT, by decide, (in_t1 182 rfl rfl)⟩
theorem pT_27 : rk_pl "TensorForge" 27 5 3 .int := ⟨_, _, _, _, kT, by decide, (in_t1 182 rfl rfl), rfl, rfl⟩
theorem fT_31 : rk_fl "TensorForge" 31 5 4 := ⟨_, _, _, _, kT, by decide, (in_t1 183 rfl rfl)⟩
theorem pT_31 : rk_pl "TensorForge" 31 5 4 .boolean := ⟨_, _, _, _, kT, by decide, (in_t1 183 rfl rfl), rfl, rfl⟩
theorem cT_35 : rk_cS "TensorForge" 35 mT_requireBetween := ⟨Or.inl (in_t1 203 rfl rfl), wmT_requireBetween, (in_t1 204 rfl rfl)⟩
theorem fT_39 : rk_fl "TensorForge" 39 1 0 := ⟨_, _, _, _, kM, by decide, (in_t1 146 rfl rfl)⟩
theorem cT_43 : rk_cS "TensorForge" 43 mT_spread := ⟨Or.inl (in_t2 39 rfl rfl), wmT_spread, (in_t2 40 rfl rfl)⟩
theorem cT_47 : rk_cS "TensorForge" 47 mT_requireScale := ⟨Or.inl (in_t2 52 rfl rfl), wmT_requireScale, (in_t2 53 rfl rfl)⟩
theorem cT_51 : rk_cS "TensorForge" 51 mT_requireShape := ⟨Or.inl (in_t2 64 rfl rfl), wmT_requireShape, (in_t2 65 rfl rfl)⟩
theorem cT_54 : rk_cV "TensorForge" 54 mT_requireRoom 5 := ⟨Or.inl (in_t2 67 rfl rfl), wmT_requireRoom, (in_t2 69 rfl rfl), _, _, _, rfl, (in_tp 1 rfl rfl)⟩
theorem nT_57 : Cond.classLink "TensorForge" 57 "TensorForge$Node" ∈ rk_tbl ∧ Cond.instantiable "TensorForge$Node" 16 ∈ rk_tbl ∧ Cond.initialized "TensorForge$Node" ∈ rk_tbl := ⟨(in_t2 87 rfl rfl), (in_t2 88 rfl rfl), (in_t1 13 rfl rfl)⟩
theorem cT_59 : rk_cI "TensorForge" 59 mN_init := ⟨Or.inl (in_t2 89 rfl rfl), wmN_init, (in_t2 90 rfl rfl), rfl, rfl, rfl⟩
theorem cT_62 : rk_cV "TensorForge" 62 mT_keep 5 := ⟨Or.inl (in_t2 180 rfl rfl), wmT_keep, (in_t2 182 rfl rfl), _, _, _, rfl, (in_tp 2 rfl rfl)⟩
theorem cT_66 : rk_cV "TensorForge" 66 mT_requireNode 5 := ⟨Or.inl (in_t2 196 rfl rfl), wmT_requireNode, (in_t2 198 rfl rfl), _, _, _, rfl, (in_tp 3 rfl rfl)⟩
theorem cT_70 : rk_cS "TensorForge" 70 mT_requireWindowsCode := ⟨Or.inl (in_t2 200 rfl rfl), wmT_requireWindowsCode, (in_t2 201 rfl rfl)⟩
theorem fT_74 : rk_fl "TensorForge" 74 0 0 := ⟨_, _, _, _, kG, by decide, (in_t1 37 rfl rfl)⟩
theorem cT_78 : rk_cS "TensorForge" 78 mT_requireWindowFits := ⟨Or.inl (in_t2 203 rfl rfl), wmT_requireWindowFits, (in_t2 204 rfl rfl)⟩
theorem cT_82 : rk_cS "TensorForge" 82 mW_sizeOf := ⟨Or.inl (in_t2 215 rfl rfl), wmW_sizeOf, (in_t2 213 rfl rfl)⟩
theorem fT_88 : rk_fl "TensorForge" 88 2 5 := ⟨_, _, _, _, kN, by decide, (in_t2 114 rfl rfl)⟩
theorem cT_91 : rk_cS "TensorForge" 91 mT_requireWeights := ⟨Or.inl (in_t2 216 rfl rfl), wmT_requireWeights, (in_t2 217 rfl rfl)⟩
theorem cT_94 : rk_cV "TensorForge" 94 mT_weightedRatio 5 := ⟨Or.inl (in_t2 219 rfl rfl), wmT_weightedRatio, (in_t2 221 rfl rfl), _, _, _, rfl, (in_tp 4 rfl rfl)⟩
theorem cT_98 : rk_cS "TensorForge" 98 mT_requireGood := ⟨Or.inl (in_t2 223 rfl rfl), wmT_requireGood, (in_t2 224 rfl rfl)⟩
theorem fT_101 : rk_fl "TensorForge" 101 2 3 := ⟨_, _, _, _, kN, by decide, (in_t2 104 rfl rfl)⟩
theorem cT_104 : rk_cS "TensorForge" 104 mW_placesOf := ⟨Or.inl (in_t3 7 rfl rfl), wmW_placesOf, (in_t3 8 rfl rfl)⟩
theorem fT_108 : rk_fl "TensorForge" 108 2 4 := ⟨_, _, _, _, kN, by decide, (in_t2 109 rfl rfl)⟩
theorem pT_111 : rk_pl "TensorForge" 111 2 9 .int := ⟨_, _, _, _, kN, by decide, (in_t2 129 rfl rfl), rfl, rfl⟩
theorem cT_114 : rk_cV "TensorForge" 114 mN_weigh 2 := ⟨Or.inl (in_t3 13 rfl rfl), wmN_weigh, (in_t3 14 rfl rfl), _, _, _, rfl, (in_t3 15 rfl rfl)⟩
theorem fT_118 : rk_fl "TensorForge" 118 2 6 := ⟨_, _, _, _, kN, by decide, (in_t2 119 rfl rfl)⟩
theorem cT_121 : rk_cV "TensorForge" 121 mN_hasShape 2 := ⟨Or.inl (in_t3 31 rfl rfl), wmN_hasShape, (in_t3 32 rfl rfl), _, _, _, rfl, (in_t3 33 rfl rfl)⟩
theorem cT_125 : rk_cS "TensorForge" 125 mT_require := ⟨Or.inl (in_t1 206 rfl rfl), wmT_require, (in_t1 207 rfl rfl)⟩
theorem fT_129 : rk_fl "TensorForge" 129 2 7 := ⟨_, _, _, _, kN, by decide, (in_t2 123 rfl rfl)⟩
theorem pT_132 : rk_pl "TensorForge" 132 2 14 .double := ⟨_, _, _, _, kN, by decide, (in_t2 144 rfl rfl), rfl, rfl⟩
theorem pT_135 : rk_pl "TensorForge" 135 2 15 .double := ⟨_, _, _, _, kN, by decide, (in_t2 145 rfl rfl), rfl, rfl⟩
theorem pT_138 : rk_pl "TensorForge" 138 2 12 .int := ⟨_, _, _, _, kN, by decide, (in_t2 136 rfl rfl), rfl, rfl⟩
theorem pT_141 : rk_pl "TensorForge" 141 2 13 .int := ⟨_, _, _, _, kN, by decide, (in_t2 140 rfl rfl), rfl, rfl⟩
theorem cT_151 : rk_cV "TensorForge" 151 mG_plan 0 := ⟨Or.inl (in_t3 85 rfl rfl), wmG_plan, (in_t3 86 rfl rfl), _, _, _, rfl, (in_t3 87 rfl rfl)⟩
theorem fT_154 : rk_fl "TensorForge" 154 0 6 := ⟨_, _, _, _, kG, by decide, (in_t1 50 rfl rfl)⟩
theorem fT_157 : rk_fl "TensorForge" 157 2 0 := ⟨_, _, _, _, kN, by decide, (in_t2 96 rfl rfl)⟩
theorem fT_160 : rk_fl "TensorForge" 160 2 8 := ⟨_, _, _, _, kN, by decide, (in_t2 127 rfl rfl)⟩
theorem cT_163 : rk_cV "TensorForge" 163 mT_requireCompiled 5 := ⟨Or.inl (in_t3 196 rfl rfl), wmT_requireCompiled, (in_t3 198 rfl rfl), _, _, _, rfl, (in_tp 22 rfl rfl)⟩
theorem fT_166 : rk_fl "TensorForge" 166 0 7 := ⟨_, _, _, _, kG, by decide, (in_t1 53 rfl rfl)⟩
theorem cT_174 : rk_cV "TensorForge" 174 mM_perform 1 := ⟨Or.inl (in_t3 217 rfl rfl), wmM_perform, (in_t3 218 rfl rfl), _, _, _, rfl, (in_t3 219 rfl rfl)⟩
theorem fT_178 : rk_fl "TensorForge" 178 1 2 := ⟨_, _, _, _, kM, by decide, (in_t1 150 rfl rfl)⟩
theorem cT_181 : rk_cS "TensorForge" 181 mT_requirePresent := ⟨Or.inl (in_t4 106 rfl rfl), wmT_requirePresent, (in_t4 107 rfl rfl)⟩
theorem fT_184 : rk_fl "TensorForge" 184 1 1 := ⟨_, _, _, _, kM, by decide, (in_t1 148 rfl rfl)⟩
theorem fT_186 : rk_fl "TensorForge" 186 1 4 := ⟨_, _, _, _, kM, by decide, (in_t1 154 rfl rfl)⟩
theorem fT_189 : rk_fl "TensorForge" 189 1 3 := ⟨_, _, _, _, kM, by decide, (in_t1 152 rfl rfl)⟩
theorem fT_192 : rk_fl "TensorForge" 192 1 5 := ⟨_, _, _, _, kM, by decide, (in_t1 156 rfl rfl)⟩
theorem cT_195 : rk_cS "TensorForge" 195 mT_aboutMade := ⟨Or.inl (in_t4 139 rfl rfl), wmT_aboutMade, (in_t4 140 rfl rfl)⟩
theorem cT_199 : rk_cV "TensorForge" 199 mT_aboutPlanned 5 := ⟨Or.inl (in_t4 142 rfl rfl), wmT_aboutPlanned, (in_t4 144 rfl rfl), _, _, _, rfl, (in_tp 39 rfl rfl)⟩
theorem fT_202 : rk_fl "TensorForge" 202 0 1 := ⟨_, _, _, _, kG, by decide, (in_t1 39 rfl rfl)⟩
theorem fT_205 : rk_fl "TensorForge" 205 0 2 := ⟨_, _, _, _, kG, by decide, (in_t1 42 rfl rfl)⟩
theorem fT_208 : rk_fl "TensorForge" 208 0 3 := ⟨_, _, _, _, kG, by decide, (in_t1 44 rfl rfl)⟩
theorem fT_211 : rk_fl "TensorForge" 211 0 4 := ⟨_, _, _, _, kG, by decide, (in_t1 47 rfl rfl)⟩
theorem cT_214 : rk_cV "TensorForge" 214 mG_append 0 := ⟨Or.inl (in_t2 184 rfl rfl), wmG_append, (in_t2 185 rfl rfl), _, _, _, rfl, (in_t2 186 rfl rfl)⟩
theorem jT_217 : Cond.methodLink "TensorForge" 217 ⟨"java/lang/Math", "min", "(II)I"⟩ ∈ rk_tbl := (in_t2 42 rfl rfl)
theorem fT_227 : rk_fl "TensorForge" 227 0 5 := ⟨_, _, _, _, kG, by decide, (in_t1 49 rfl rfl)⟩
theorem qT_230 : Cond.constantDouble "TensorForge" 230 4696837146684686336 ∈ rk_tbl := (in_t2 55 rfl rfl)
theorem cT_232 : rk_cS "TensorForge" 232 mW_fits := ⟨Or.inl (in_t2 206 rfl rfl), wmW_fits, (in_t2 207 rfl rfl)⟩
theorem cT_236 : rk_cS "TensorForge" 236 mS_isGood := ⟨Or.inl (in_t2 226 rfl rfl), wmS_isGood, (in_t2 227 rfl rfl)⟩
theorem jG_3 : Cond.methodLink "TensorForge$Graph" 3 ⟨"java/lang/Object", "<init>", "()V"⟩ ∈ rk_tbl := (in_t1 32 rfl rfl)
theorem nG_9a : Cond.classLink "TensorForge$Graph" 9 "TensorForge$Node" ∈ rk_tbl := (in_t1 33 rfl rfl)
theorem fG_11 : rk_fl "TensorForge$Graph" 11 0 0 := ⟨_, _, _, _, kG, by decide, (in_t1 35 rfl rfl)⟩
theorem pG_11 : rk_pF "TensorForge$Graph" 11 0 0 (.array (.object "TensorForge$Node")) := ⟨_, _, _, _, kG, by decide, (in_t1 35 rfl rfl), rfl, rfl, rfl⟩
theorem fG_17 : rk_fl "TensorForge$Graph" 17 0 1 := ⟨_, _, _, _, kG, by decide, (in_t1 38 rfl rfl)⟩
theorem pG_17 : rk_pF "TensorForge$Graph" 17 0 1 (.array .int) := ⟨_, _, _, _, kG, by decide, (in_t1 38 rfl rfl), rfl, rfl, rfl⟩
theorem fG_21 : rk_fl "TensorForge$Graph" 21 0 2 := ⟨_, _, _, _, kG, by decide, (in_t1 40 rfl rfl)⟩
theorem pG_21 : rk_pF "TensorForge$Graph" 21 0 2 (.array .int) := ⟨_, _, _, _, kG, by decide, (in_t1 40 rfl rfl), rfl, rfl, rfl⟩
theorem fG_24 : rk_fl "TensorForge$Graph" 24 0 3 := ⟨_, _, _, _, kG, by decide, (in_t1 43 rfl rfl)⟩
theorem pG_24 : rk_pF "TensorForge$Graph" 24 0 3 (.array .int) := ⟨_, _, _, _, kG, by decide, (in_t1 43 rfl rfl), rfl, rfl, rfl⟩
theorem fG_27 : rk_fl "TensorForge$Graph" 27 0 4 := ⟨_, _, _, _, kG, by decide, (in_t1 45 rfl rfl)⟩
theorem pG_27 : rk_pF "TensorForge$Graph" 27 0 4 (.array .int) := ⟨_, _, _, _, kG, by decide, (in_t1 45 rfl rfl), rfl, rfl, rfl⟩
theorem fG_30 : rk_fl "TensorForge$Graph" 30 0 8 := ⟨_, _, _, _, kG, by decide, (in_t1 55 rfl rfl)⟩
theorem pG_30 : rk_pF "TensorForge$Graph" 30 0 8 (.array .int) := ⟨_, _, _, _, kG, by decide, (in_t1 55 rfl rfl), rfl, rfl, rfl⟩
theorem fG_33 : rk_fl "TensorForge$Graph" 33 0 5 := ⟨_, _, _, _, kG, by decide, (in_t1 48 rfl rfl)⟩
theorem pG_33 : rk_pl "TensorForge$Graph" 33 0 5 .int := ⟨_, _, _, _, kG, by decide, (in_t1 48 rfl rfl), rfl, rfl⟩
theorem cG_37 : rk_cV "TensorForge$Graph" 37 mG_makeSmaller 0 := ⟨Or.inl (in_t3 89 rfl rfl), wmG_makeSmaller, (in_t3 91 rfl rfl), _, _, _, rfl, (in_tp 5 rfl rfl)⟩
theorem cG_40 : rk_cV "TensorForge$Graph" 40 mG_markNeeded 0 := ⟨Or.inl (in_t3 115 rfl rfl), wmG_markNeeded, (in_t3 117 rfl rfl), _, _, _, rfl, (in_tp 9 rfl rfl)⟩
theorem cG_44 : rk_cV "TensorForge$Graph" 44 mG_fuse 0 := ⟨Or.inl (in_t3 126 rfl rfl), wmG_fuse, (in_t3 128 rfl rfl), _, _, _, rfl, (in_tp 11 rfl rfl)⟩
theorem cG_47 : rk_cV "TensorForge$Graph" 47 mG_countSteps 0 := ⟨Or.inl (in_t3 142 rfl rfl), wmG_countSteps, (in_t3 144 rfl rfl), _, _, _, rfl, (in_tp 14 rfl rfl)⟩
theorem cG_50 : rk_cV "TensorForge$Graph" 50 mG_findLives 0 := ⟨Or.inl (in_t3 146 rfl rfl), wmG_findLives, (in_t3 148 rfl rfl), _, _, _, rfl, (in_tp 15 rfl rfl)⟩
theorem cG_53 : rk_cV "TensorForge$Graph" 53 mG_givePlaces 0 := ⟨Or.inl (in_t3 158 rfl rfl), wmG_givePlaces, (in_t3 160 rfl rfl), _, _, _, rfl, (in_tp 17 rfl rfl)⟩
theorem fG_56 : rk_fl "TensorForge$Graph" 56 2 1 := ⟨_, _, _, _, kN, by decide, (in_t2 99 rfl rfl)⟩
theorem cG_59 : rk_cV "TensorForge$Graph" 59 mG_meant 0 := ⟨Or.inl (in_t3 98 rfl rfl), wmG_meant, (in_t3 99 rfl rfl), _, _, _, rfl, (in_t3 100 rfl rfl)⟩
theorem cG_63 : rk_cV "TensorForge$Graph" 63 mG_changesNothing 0 := ⟨Or.inl (in_t3 93 rfl rfl), wmG_changesNothing, (in_t3 95 rfl rfl), _, _, _, rfl, (in_tp 6 rfl rfl)⟩
theorem cG_67 : rk_cV "TensorForge$Graph" 67 mG_firstAlike 0 := ⟨Or.inl (in_t3 102 rfl rfl), wmG_firstAlike, (in_t3 104 rfl rfl), _, _, _, rfl, (in_tp 7 rfl rfl)⟩
theorem fG_70 : rk_fl "TensorForge$Graph" 70 2 0 := ⟨_, _, _, _, kN, by decide, (in_t2 95 rfl rfl)⟩
theorem fG_73 : rk_fl "TensorForge$Graph" 73 2 3 := ⟨_, _, _, _, kN, by decide, (in_t2 107 rfl rfl)⟩
theorem fG_76 : rk_fl "TensorForge$Graph" 76 2 4 := ⟨_, _, _, _, kN, by decide, (in_t2 112 rfl rfl)⟩
theorem fG_79 : rk_fl "TensorForge$Graph" 79 2 5 := ⟨_, _, _, _, kN, by decide, (in_t2 116 rfl rfl)⟩
theorem cG_82 : rk_cV "TensorForge$Graph" 82 mN_hasShape 2 := ⟨Or.inl (in_t3 97 rfl rfl), wmN_hasShape, (in_t3 32 rfl rfl), _, _, _, rfl, (in_t3 33 rfl rfl)⟩
theorem fG_86 : rk_fl "TensorForge$Graph" 86 2 12 := ⟨_, _, _, _, kN, by decide, (in_t2 135 rfl rfl)⟩
theorem fG_89 : rk_fl "TensorForge$Graph" 89 2 13 := ⟨_, _, _, _, kN, by decide, (in_t2 139 rfl rfl)⟩
theorem fG_92 : rk_fl "TensorForge$Graph" 92 2 7 := ⟨_, _, _, _, kN, by decide, (in_t2 124 rfl rfl)⟩
theorem cG_96 : rk_cV "TensorForge$Graph" 96 mG_alike 0 := ⟨Or.inl (in_t3 106 rfl rfl), wmG_alike, (in_t3 108 rfl rfl), _, _, _, rfl, (in_tp 8 rfl rfl)⟩
theorem cG_100 : rk_cV "TensorForge$Graph" 100 mN_saysTheSame 2 := ⟨Or.inl (in_t3 110 rfl rfl), wmN_saysTheSame, (in_t3 111 rfl rfl), _, _, _, rfl, (in_t3 112 rfl rfl)⟩
theorem fG_103 : rk_fl "TensorForge$Graph" 103 2 2 := ⟨_, _, _, _, kN, by decide, (in_t2 102 rfl rfl)⟩
theorem cG_106 : rk_cS "TensorForge$Graph" 106 mJ_fill := ⟨Or.inl (in_t3 119 rfl rfl), wmJ_fill, (in_t3 120 rfl rfl)⟩
theorem cG_112 : rk_cV "TensorForge$Graph" 112 mG_need 0 := ⟨Or.inl (in_t3 122 rfl rfl), wmG_need, (in_t3 124 rfl rfl), _, _, _, rfl, (in_tp 10 rfl rfl)⟩
theorem cG_115 : rk_cV "TensorForge$Graph" 115 mN_hasWeights 2 := ⟨Or.inl (in_t3 130 rfl rfl), wmN_hasWeights, (in_t3 131 rfl rfl), _, _, _, rfl, (in_t3 132 rfl rfl)⟩
theorem cG_119 : rk_cV "TensorForge$Graph" 119 mG_feedsOneClamp 0 := ⟨Or.inl (in_t3 134 rfl rfl), wmG_feedsOneClamp, (in_t3 136 rfl rfl), _, _, _, rfl, (in_tp 12 rfl rfl)⟩
theorem cG_123 : rk_cV "TensorForge$Graph" 123 mG_timesUsed 0 := ⟨Or.inl (in_t3 138 rfl rfl), wmG_timesUsed, (in_t3 140 rfl rfl), _, _, _, rfl, (in_tp 13 rfl rfl)⟩
theorem fG_127 : rk_fl "TensorForge$Graph" 127 0 6 := ⟨_, _, _, _, kG, by decide, (in_t1 51 rfl rfl)⟩
theorem pG_127 : rk_pl "TensorForge$Graph" 127 0 6 .int := ⟨_, _, _, _, kG, by decide, (in_t1 51 rfl rfl), rfl, rfl⟩
theorem cG_130 : rk_cV "TensorForge$Graph" 130 mG_fusedInto 0 := ⟨Or.inl (in_t3 150 rfl rfl), wmG_fusedInto, (in_t3 151 rfl rfl), _, _, _, rfl, (in_t3 152 rfl rfl)⟩
theorem cG_133 : rk_cV "TensorForge$Graph" 133 mG_keepAlive 0 := ⟨Or.inl (in_t3 154 rfl rfl), wmG_keepAlive, (in_t3 156 rfl rfl), _, _, _, rfl, (in_tp 16 rfl rfl)⟩
theorem fG_137 : rk_fl "TensorForge$Graph" 137 0 7 := ⟨_, _, _, _, kG, by decide, (in_t1 54 rfl rfl)⟩
theorem pG_137 : rk_pl "TensorForge$Graph" 137 0 7 .int := ⟨_, _, _, _, kG, by decide, (in_t1 54 rfl rfl), rfl, rfl⟩
theorem cG_140 : rk_cV "TensorForge$Graph" 140 mG_largestWithoutPlace 0 := ⟨Or.inl (in_t3 162 rfl rfl), wmG_largestWithoutPlace, (in_t3 164 rfl rfl), _, _, _, rfl, (in_tp 18 rfl rfl)⟩
theorem cG_144 : rk_cV "TensorForge$Graph" 144 mG_leastFreePlace 0 := ⟨Or.inl (in_t3 166 rfl rfl), wmG_leastFreePlace, (in_t3 168 rfl rfl), _, _, _, rfl, (in_tp 19 rfl rfl)⟩
theorem fG_147 : rk_fl "TensorForge$Graph" 147 2 6 := ⟨_, _, _, _, kN, by decide, (in_t2 120 rfl rfl)⟩
theorem jG_150 : Cond.methodLink "TensorForge$Graph" 150 ⟨"java/lang/Math", "max", "(II)I"⟩ ∈ rk_tbl := (in_t3 178 rfl rfl)
theorem cG_156 : rk_cV "TensorForge$Graph" 156 mG_nodeInTheWay 0 := ⟨Or.inl (in_t3 170 rfl rfl), wmG_nodeInTheWay, (in_t3 172 rfl rfl), _, _, _, rfl, (in_tp 20 rfl rfl)⟩
theorem cG_159 : rk_cV "TensorForge$Graph" 159 mG_liveTogether 0 := ⟨Or.inl (in_t3 174 rfl rfl), wmG_liveTogether, (in_t3 176 rfl rfl), _, _, _, rfl, (in_tp 21 rfl rfl)⟩
theorem jM_3 : Cond.methodLink "TensorForge$Machine" 3 ⟨"java/lang/Object", "<init>", "()V"⟩ ∈ rk_tbl := (in_t1 81 rfl rfl)
theorem fM_9 : rk_fl "TensorForge$Machine" 9 1 0 := ⟨_, _, _, _, kM, by decide, (in_t1 145 rfl rfl)⟩
theorem pM_9 : rk_pF "TensorForge$Machine" 9 1 0 (.array .int) := ⟨_, _, _, _, kM, by decide, (in_t1 145 rfl rfl), rfl, rfl, rfl⟩
theorem fM_15 : rk_fl "TensorForge$Machine" 15 1 1 := ⟨_, _, _, _, kM, by decide, (in_t1 147 rfl rfl)⟩
theorem pM_15 : rk_pF "TensorForge$Machine" 15 1 1 (.array .int) := ⟨_, _, _, _, kM, by decide, (in_t1 147 rfl rfl), rfl, rfl, rfl⟩
theorem nM_18 : Cond.classLink "TensorForge$Machine" 18 "TensorForge$Window" ∈ rk_tbl ∧ Cond.instantiable "TensorForge$Window" 12 ∈ rk_tbl ∧ Cond.initialized "TensorForge$Window" ∈ rk_tbl := ⟨(in_t1 82 rfl rfl), (in_t1 83 rfl rfl), (in_t1 4 rfl rfl)⟩
theorem cM_20 : rk_cI "TensorForge$Machine" 20 mW_init := ⟨Or.inr ⟨"TensorForge", List.mem_of_getElem? (i := 0) rfl⟩, wmW_init, (in_t1 85 rfl rfl), rfl, rfl, rfl⟩
theorem fM_21 : rk_fl "TensorForge$Machine" 21 1 6 := ⟨_, _, _, _, kM, by decide, (in_t1 157 rfl rfl)⟩
theorem pM_21 : rk_pF "TensorForge$Machine" 21 1 6 (.object "TensorForge$Window") := ⟨_, _, _, _, kM, by decide, (in_t1 157 rfl rfl), rfl, rfl, rfl⟩
theorem nM_25 : Cond.classLink "TensorForge$Machine" 25 "TensorForge$Scaler" ∈ rk_tbl ∧ Cond.instantiable "TensorForge$Scaler" 2 ∈ rk_tbl ∧ Cond.initialized "TensorForge$Scaler" ∈ rk_tbl := ⟨(in_t1 132 rfl rfl), (in_t1 133 rfl rfl), (in_t1 5 rfl rfl)⟩
theorem cM_27 : rk_cI "TensorForge$Machine" 27 mS_init := ⟨Or.inr ⟨"TensorForge", List.mem_of_getElem? (i := 1) rfl⟩, wmS_init, (in_t1 135 rfl rfl), rfl, rfl, rfl⟩
theorem fM_28 : rk_fl "TensorForge$Machine" 28 1 7 := ⟨_, _, _, _, kM, by decide, (in_t1 158 rfl rfl)⟩
theorem pM_28 : rk_pF "TensorForge$Machine" 28 1 7 (.object "TensorForge$Scaler") := ⟨_, _, _, _, kM, by decide, (in_t1 158 rfl rfl), rfl, rfl, rfl⟩
theorem fM_32 : rk_fl "TensorForge$Machine" 32 1 8 := ⟨_, _, _, _, kM, by decide, (in_t1 159 rfl rfl)⟩
theorem pM_32 : rk_pF "TensorForge$Machine" 32 1 8 (.object "TensorForge$Scaler") := ⟨_, _, _, _, kM, by decide, (in_t1 159 rfl rfl), rfl, rfl, rfl⟩
theorem cM_35 : rk_cS "TensorForge$Machine" 35 mJ_fill := ⟨Or.inl (in_t3 221 rfl rfl), wmJ_fill, (in_t3 120 rfl rfl)⟩
theorem cM_41 : rk_cV "TensorForge$Machine" 41 mG_meant 0 := ⟨Or.inl (in_t3 222 rfl rfl), wmG_meant, (in_t3 99 rfl rfl), _, _, _, rfl, (in_t3 100 rfl rfl)⟩
theorem fM_47 : rk_fl "TensorForge$Machine" 47 0 2 := ⟨_, _, _, _, kG, by decide, (in_t1 41 rfl rfl)⟩
theorem cM_50 : rk_cV "TensorForge$Machine" 50 mM_doStep 1 := ⟨Or.inl (in_t3 223 rfl rfl), wmM_doStep, (in_t3 225 rfl rfl), _, _, _, rfl, (in_tp 23 rfl rfl)⟩
theorem fM_54 : rk_fl "TensorForge$Machine" 54 0 7 := ⟨_, _, _, _, kG, by decide, (in_t1 52 rfl rfl)⟩
theorem pM_58 : rk_pl "TensorForge$Machine" 58 1 2 .int := ⟨_, _, _, _, kM, by decide, (in_t1 149 rfl rfl), rfl, rfl⟩
theorem fM_61 : rk_fl "TensorForge$Machine" 61 0 4 := ⟨_, _, _, _, kG, by decide, (in_t1 46 rfl rfl)⟩
theorem fM_64 : rk_fl "TensorForge$Machine" 64 1 3 := ⟨_, _, _, _, kM, by decide, (in_t1 151 rfl rfl)⟩
theorem pM_64 : rk_pl "TensorForge$Machine" 64 1 3 .int := ⟨_, _, _, _, kM, by decide, (in_t1 151 rfl rfl), rfl, rfl⟩
theorem fM_67 : rk_fl "TensorForge$Machine" 67 0 0 := ⟨_, _, _, _, kG, by decide, (in_t1 36 rfl rfl)⟩
theorem fM_71 : rk_fl "TensorForge$Machine" 71 2 6 := ⟨_, _, _, _, kN, by decide, (in_t2 118 rfl rfl)⟩
theorem fM_75 : rk_fl "TensorForge$Machine" 75 1 4 := ⟨_, _, _, _, kM, by decide, (in_t1 153 rfl rfl)⟩
theorem pM_75 : rk_pl "TensorForge$Machine" 75 1 4 .int := ⟨_, _, _, _, kM, by decide, (in_t1 153 rfl rfl), rfl, rfl⟩
theorem fM_78 : rk_fl "TensorForge$Machine" 78 2 7 := ⟨_, _, _, _, kN, by decide, (in_t2 122 rfl rfl)⟩
theorem pM_82 : rk_pl "TensorForge$Machine" 82 1 5 .double := ⟨_, _, _, _, kM, by decide, (in_t1 155 rfl rfl), rfl, rfl⟩
theorem cM_85 : rk_cV "TensorForge$Machine" 85 mM_sumOfResult 1 := ⟨Or.inl (in_t4 94 rfl rfl), wmM_sumOfResult, (in_t4 96 rfl rfl), _, _, _, rfl, (in_tp 38 rfl rfl)⟩
theorem cM_89 : rk_cV "TensorForge$Machine" 89 mG_fusedInto 0 := ⟨Or.inl (in_t3 227 rfl rfl), wmG_fusedInto, (in_t3 151 rfl rfl), _, _, _, rfl, (in_t3 152 rfl rfl)⟩
theorem cM_92 : rk_cV "TensorForge$Machine" 92 mM_compute 1 := ⟨Or.inl (in_t3 228 rfl rfl), wmM_compute, (in_t3 230 rfl rfl), _, _, _, rfl, (in_tp 24 rfl rfl)⟩
theorem cM_96 : rk_cV "TensorForge$Machine" 96 mM_hold 1 := ⟨Or.inl (in_t4 42 rfl rfl), wmM_hold, (in_t4 44 rfl rfl), _, _, _, rfl, (in_tp 29 rfl rfl)⟩
theorem fM_100 : rk_fl "TensorForge$Machine" 100 2 1 := ⟨_, _, _, _, kN, by decide, (in_t2 98 rfl rfl)⟩
theorem fM_103 : rk_fl "TensorForge$Machine" 103 2 8 := ⟨_, _, _, _, kN, by decide, (in_t2 126 rfl rfl)⟩
theorem jM_106 : Cond.methodLink "TensorForge$Machine" 106 ⟨"java/lang/System", "arraycopy", "(Ljava/lang/Object;ILjava/lang/Object;II)V"⟩ ∈ rk_tbl := (in_t3 232 rfl rfl)
theorem cM_112 : rk_cV "TensorForge$Machine" 112 mG_placeMeant 0 := ⟨Or.inl (in_t3 235 rfl rfl), wmG_placeMeant, (in_t3 236 rfl rfl), _, _, _, rfl, (in_t3 237 rfl rfl)⟩
theorem fM_115 : rk_fl "TensorForge$Machine" 115 2 0 := ⟨_, _, _, _, kN, by decide, (in_t2 94 rfl rfl)⟩
theorem cM_118 : rk_cV "TensorForge$Machine" 118 mM_connect 1 := ⟨Or.inl (in_t3 239 rfl rfl), wmM_connect, (in_t4 1 rfl rfl), _, _, _, rfl, (in_tp 25 rfl rfl)⟩
theorem fM_122 : rk_fl "TensorForge$Machine" 122 2 2 := ⟨_, _, _, _, kN, by decide, (in_t2 101 rfl rfl)⟩
theorem cM_125 : rk_cV "TensorForge$Machine" 125 mM_addUp 1 := ⟨Or.inl (in_t4 34 rfl rfl), wmM_addUp, (in_t4 36 rfl rfl), _, _, _, rfl, (in_tp 27 rfl rfl)⟩
theorem cM_129 : rk_cV "TensorForge$Machine" 129 mM_join 1 := ⟨Or.inl (in_t4 38 rfl rfl), wmM_join, (in_t4 40 rfl rfl), _, _, _, rfl, (in_tp 28 rfl rfl)⟩
theorem cM_133 : rk_cV "TensorForge$Machine" 133 mM_changeScale 1 := ⟨Or.inl (in_t4 48 rfl rfl), wmM_changeScale, (in_t4 50 rfl rfl), _, _, _, rfl, (in_tp 30 rfl rfl)⟩
theorem cM_136 : rk_cV "TensorForge$Machine" 136 mM_slide 1 := ⟨Or.inl (in_t4 52 rfl rfl), wmM_slide, (in_t4 54 rfl rfl), _, _, _, rfl, (in_tp 31 rfl rfl)⟩
theorem cM_139 : rk_cV "TensorForge$Machine" 139 mW_lay 4 := ⟨Or.inl (in_t4 56 rfl rfl), wmW_lay, (in_t4 57 rfl rfl), _, _, _, rfl, (in_t4 58 rfl rfl)⟩
theorem cM_143 : rk_cV "TensorForge$Machine" 143 mN_hasWeights 2 := ⟨Or.inl (in_t4 65 rfl rfl), wmN_hasWeights, (in_t3 131 rfl rfl), _, _, _, rfl, (in_t3 132 rfl rfl)⟩
theorem fM_147 : rk_fl "TensorForge$Machine" 147 2 14 := ⟨_, _, _, _, kN, by decide, (in_t2 143 rfl rfl)⟩
theorem cM_150 : rk_cV "TensorForge$Machine" 150 mS_take 3 := ⟨Or.inl (in_t4 3 rfl rfl), wmS_take, (in_t4 4 rfl rfl), _, _, _, rfl, (in_t4 5 rfl rfl)⟩
theorem fM_154 : rk_fl "TensorForge$Machine" 154 2 3 := ⟨_, _, _, _, kN, by decide, (in_t2 105 rfl rfl)⟩
theorem fM_157 : rk_fl "TensorForge$Machine" 157 2 4 := ⟨_, _, _, _, kN, by decide, (in_t2 110 rfl rfl)⟩
theorem cM_160 : rk_cV "TensorForge$Machine" 160 mW_move 4 := ⟨Or.inl (in_t4 66 rfl rfl), wmW_move, (in_t4 67 rfl rfl), _, _, _, rfl, (in_t4 68 rfl rfl)⟩
theorem fM_164 : rk_fl "TensorForge$Machine" 164 2 5 := ⟨_, _, _, _, kN, by decide, (in_t2 115 rfl rfl)⟩
theorem cM_167 : rk_cV "TensorForge$Machine" 167 mM_ofWindow 1 := ⟨Or.inl (in_t4 71 rfl rfl), wmM_ofWindow, (in_t4 73 rfl rfl), _, _, _, rfl, (in_tp 33 rfl rfl)⟩
theorem fM_171 : rk_fl "TensorForge$Machine" 171 4 0 := ⟨_, _, _, _, kW, by decide, (in_t1 88 rfl rfl)⟩
theorem cM_174 : rk_cV "TensorForge$Machine" 174 mM_bias 1 := ⟨Or.inl (in_t4 12 rfl rfl), wmM_bias, (in_t4 14 rfl rfl), _, _, _, rfl, (in_tp 26 rfl rfl)⟩
theorem cM_178 : rk_cV "TensorForge$Machine" 178 mM_sumAllChannels 1 := ⟨Or.inl (in_t4 75 rfl rfl), wmM_sumAllChannels, (in_t4 77 rfl rfl), _, _, _, rfl, (in_tp 34 rfl rfl)⟩
theorem cM_181 : rk_cV "TensorForge$Machine" 181 mS_scaled 3 := ⟨Or.inl (in_t4 16 rfl rfl), wmS_scaled, (in_t4 17 rfl rfl), _, _, _, rfl, (in_t4 18 rfl rfl)⟩
theorem cM_185 : rk_cS "TensorForge$Machine" 185 mM_cut := ⟨Or.inl (in_t4 23 rfl rfl), wmM_cut, (in_t4 24 rfl rfl)⟩
theorem cM_189 : rk_cV "TensorForge$Machine" 189 mM_sumOneChannel 1 := ⟨Or.inl (in_t4 79 rfl rfl), wmM_sumOneChannel, (in_t4 81 rfl rfl), _, _, _, rfl, (in_tp 35 rfl rfl)⟩
theorem cM_192 : rk_cV "TensorForge$Machine" 192 mM_greatest 1 := ⟨Or.inl (in_t4 83 rfl rfl), wmM_greatest, (in_t4 85 rfl rfl), _, _, _, rfl, (in_tp 36 rfl rfl)⟩
theorem cM_196 : rk_cV "TensorForge$Machine" 196 mM_average 1 := ⟨Or.inl (in_t4 87 rfl rfl), wmM_average, (in_t4 89 rfl rfl), _, _, _, rfl, (in_tp 37 rfl rfl)⟩
theorem fM_199 : rk_fl "TensorForge$Machine" 199 4 3 := ⟨_, _, _, _, kW, by decide, (in_t1 94 rfl rfl)⟩
theorem fM_202 : rk_fl "TensorForge$Machine" 202 4 4 := ⟨_, _, _, _, kW, by decide, (in_t1 96 rfl rfl)⟩
theorem fM_205 : rk_fl "TensorForge$Machine" 205 4 5 := ⟨_, _, _, _, kW, by decide, (in_t1 98 rfl rfl)⟩
theorem fM_208 : rk_fl "TensorForge$Machine" 208 4 6 := ⟨_, _, _, _, kW, by decide, (in_t1 100 rfl rfl)⟩
theorem fM_211 : rk_fl "TensorForge$Machine" 211 4 1 := ⟨_, _, _, _, kW, by decide, (in_t1 90 rfl rfl)⟩
theorem fM_214 : rk_fl "TensorForge$Machine" 214 4 2 := ⟨_, _, _, _, kW, by decide, (in_t1 92 rfl rfl)⟩
theorem fM_217 : rk_fl "TensorForge$Machine" 217 2 10 := ⟨_, _, _, _, kN, by decide, (in_t2 132 rfl rfl)⟩
theorem jM_220 : Cond.methodLink "TensorForge$Machine" 220 ⟨"java/lang/Math", "max", "(II)I"⟩ ∈ rk_tbl := (in_t4 47 rfl rfl)
theorem jM_226 : Cond.methodLink "TensorForge$Machine" 226 ⟨"java/lang/Math", "abs", "(I)I"⟩ ∈ rk_tbl := (in_t4 91 rfl rfl)
theorem fM_229 : rk_fl "TensorForge$Machine" 229 2 15 := ⟨_, _, _, _, kN, by decide, (in_t2 146 rfl rfl)⟩
theorem fM_232 : rk_fl "TensorForge$Machine" 232 2 12 := ⟨_, _, _, _, kN, by decide, (in_t2 137 rfl rfl)⟩
theorem fM_235 : rk_fl "TensorForge$Machine" 235 2 13 := ⟨_, _, _, _, kN, by decide, (in_t2 141 rfl rfl)⟩
theorem jM_238 : Cond.methodLink "TensorForge$Machine" 238 ⟨"java/lang/Math", "min", "(II)I"⟩ ∈ rk_tbl := (in_t4 46 rfl rfl)
theorem qM_241 : Cond.constantLong "TensorForge$Machine" 241 (-128) ∈ rk_tbl := (in_t4 26 rfl rfl)
theorem qM_243 : Cond.constantLong "TensorForge$Machine" 243 127 ∈ rk_tbl := (in_t4 27 rfl rfl)
theorem jM_245 : Cond.methodLink "TensorForge$Machine" 245 ⟨"java/lang/Math", "min", "(JJ)J"⟩ ∈ rk_tbl := (in_t4 28 rfl rfl)
theorem jM_248 : Cond.methodLink "TensorForge$Machine" 248 ⟨"java/lang/Math", "max", "(JJ)J"⟩ ∈ rk_tbl := (in_t4 31 rfl rfl)
theorem jN_3 : Cond.methodLink "TensorForge$Node" 3 ⟨"java/lang/Object", "<init>", "()V"⟩ ∈ rk_tbl := (in_t2 92 rfl rfl)
theorem fN_9 : rk_fl "TensorForge$Node" 9 2 0 := ⟨_, _, _, _, kN, by decide, (in_t2 93 rfl rfl)⟩
theorem pN_9 : rk_pF "TensorForge$Node" 9 2 0 .int := ⟨_, _, _, _, kN, by decide, (in_t2 93 rfl rfl), rfl, rfl, rfl⟩
theorem pN_15 : rk_pF "TensorForge$Node" 15 2 1 .int := ⟨_, _, _, _, kN, by decide, (in_t2 97 rfl rfl), rfl, rfl, rfl⟩
theorem pN_18 : rk_pF "TensorForge$Node" 18 2 2 .int := ⟨_, _, _, _, kN, by decide, (in_t2 100 rfl rfl), rfl, rfl, rfl⟩
theorem fN_21 : rk_fl "TensorForge$Node" 21 2 3 := ⟨_, _, _, _, kN, by decide, (in_t2 103 rfl rfl)⟩
theorem pN_21 : rk_pF "TensorForge$Node" 21 2 3 .int := ⟨_, _, _, _, kN, by decide, (in_t2 103 rfl rfl), rfl, rfl, rfl⟩
theorem fN_24 : rk_fl "TensorForge$Node" 24 2 4 := ⟨_, _, _, _, kN, by decide, (in_t2 108 rfl rfl)⟩
theorem pN_24 : rk_pF "TensorForge$Node" 24 2 4 .int := ⟨_, _, _, _, kN, by decide, (in_t2 108 rfl rfl), rfl, rfl, rfl⟩
theorem fN_27 : rk_fl "TensorForge$Node" 27 2 5 := ⟨_, _, _, _, kN, by decide, (in_t2 113 rfl rfl)⟩
theorem pN_27 : rk_pF "TensorForge$Node" 27 2 5 .int := ⟨_, _, _, _, kN, by decide, (in_t2 113 rfl rfl), rfl, rfl, rfl⟩
theorem fN_30 : rk_fl "TensorForge$Node" 30 2 7 := ⟨_, _, _, _, kN, by decide, (in_t2 121 rfl rfl)⟩
theorem pN_30 : rk_pF "TensorForge$Node" 30 2 7 .double := ⟨_, _, _, _, kN, by decide, (in_t2 121 rfl rfl), rfl, rfl, rfl⟩
theorem fN_34 : rk_fl "TensorForge$Node" 34 2 6 := ⟨_, _, _, _, kN, by decide, (in_t2 117 rfl rfl)⟩
theorem pN_34 : rk_pF "TensorForge$Node" 34 2 6 .int := ⟨_, _, _, _, kN, by decide, (in_t2 117 rfl rfl), rfl, rfl, rfl⟩
theorem pN_37 : rk_pF "TensorForge$Node" 37 2 8 (.array .int) := ⟨_, _, _, _, kN, by decide, (in_t2 125 rfl rfl), rfl, rfl, rfl⟩
theorem fN_41 : rk_fl "TensorForge$Node" 41 2 10 := ⟨_, _, _, _, kN, by decide, (in_t2 131 rfl rfl)⟩
theorem pN_41 : rk_pl "TensorForge$Node" 41 2 10 .int := ⟨_, _, _, _, kN, by decide, (in_t2 131 rfl rfl), rfl, rfl⟩
theorem fN_44 : rk_fl "TensorForge$Node" 44 2 11 := ⟨_, _, _, _, kN, by decide, (in_t2 133 rfl rfl)⟩
theorem pN_44 : rk_pl "TensorForge$Node" 44 2 11 .double := ⟨_, _, _, _, kN, by decide, (in_t2 133 rfl rfl), rfl, rfl⟩
theorem pN_47 : rk_pl "TensorForge$Node" 47 2 14 .double := ⟨_, _, _, _, kN, by decide, (in_t2 142 rfl rfl), rfl, rfl⟩
theorem cN_50 : rk_cV "TensorForge$Node" 50 mN_hasShape 2 := ⟨Or.inl (in_t3 114 rfl rfl), wmN_hasShape, (in_t3 32 rfl rfl), _, _, _, rfl, (in_t3 33 rfl rfl)⟩
theorem fN_54 : rk_fl "TensorForge$Node" 54 2 9 := ⟨_, _, _, _, kN, by decide, (in_t2 128 rfl rfl)⟩
theorem fN_57 : rk_fl "TensorForge$Node" 57 2 12 := ⟨_, _, _, _, kN, by decide, (in_t2 134 rfl rfl)⟩
theorem fN_60 : rk_fl "TensorForge$Node" 60 2 13 := ⟨_, _, _, _, kN, by decide, (in_t2 138 rfl rfl)⟩
theorem jS_1 : Cond.methodLink "TensorForge$Scaler" 1 ⟨"java/lang/Object", "<init>", "()V"⟩ ∈ rk_tbl := (in_t1 137 rfl rfl)
theorem qS_7 : Cond.constantDouble "TensorForge$Scaler" 7 4502148214488346440 ∈ rk_tbl := (in_t2 229 rfl rfl)
theorem qS_9 : Cond.constantDouble "TensorForge$Scaler" 9 4673975551164153856 ∈ rk_tbl := (in_t2 230 rfl rfl)
theorem qS_13 : Cond.constantDouble "TensorForge$Scaler" 13 4611686018427387904 ∈ rk_tbl := (in_t4 7 rfl rfl)
theorem qS_15 : Cond.constantDouble "TensorForge$Scaler" 15 4602678819172646912 ∈ rk_tbl := (in_t4 8 rfl rfl)
theorem qS_17 : Cond.constantDouble "TensorForge$Scaler" 17 4746794007248502784 ∈ rk_tbl := (in_t4 9 rfl rfl)
theorem fS_19 : rk_fl "TensorForge$Scaler" 19 3 0 := ⟨_, _, _, _, kS, by decide, (in_t1 138 rfl rfl)⟩
theorem pS_19 : rk_pl "TensorForge$Scaler" 19 3 0 .long := ⟨_, _, _, _, kS, by decide, (in_t1 138 rfl rfl), rfl, rfl⟩
theorem qS_23 : Cond.constantLong "TensorForge$Scaler" 23 2147483648 ∈ rk_tbl := (in_t4 10 rfl rfl)
theorem qS_25 : Cond.constantLong "TensorForge$Scaler" 25 1073741824 ∈ rk_tbl := (in_t4 11 rfl rfl)
theorem fS_27 : rk_fl "TensorForge$Scaler" 27 3 1 := ⟨_, _, _, _, kS, by decide, (in_t1 139 rfl rfl)⟩
theorem pS_27 : rk_pl "TensorForge$Scaler" 27 3 1 .int := ⟨_, _, _, _, kS, by decide, (in_t1 139 rfl rfl), rfl, rfl⟩
theorem jS_31 : Cond.methodLink "TensorForge$Scaler" 31 ⟨"java/lang/Math", "abs", "(J)J"⟩ ∈ rk_tbl := (in_t4 20 rfl rfl)
theorem jW_1 : Cond.methodLink "TensorForge$Window" 1 ⟨"java/lang/Object", "<init>", "()V"⟩ ∈ rk_tbl := (in_t1 87 rfl rfl)
theorem cW_7 : rk_cS "TensorForge$Window" 7 mW_isSame := ⟨Or.inl (in_t2 209 rfl rfl), wmW_isSame, (in_t2 210 rfl rfl)⟩
theorem cW_13 : rk_cS "TensorForge$Window" 13 mW_sizeOf := ⟨Or.inl (in_t2 212 rfl rfl), wmW_sizeOf, (in_t2 213 rfl rfl)⟩
theorem cW_17 : rk_cS "TensorForge$Window" 17 mW_stepOf := ⟨Or.inl (in_t3 10 rfl rfl), wmW_stepOf, (in_t3 11 rfl rfl)⟩
theorem fW_20 : rk_fl "TensorForge$Window" 20 2 9 := ⟨_, _, _, _, kN, by decide, (in_t2 130 rfl rfl)⟩
theorem fW_26 : rk_fl "TensorForge$Window" 26 4 0 := ⟨_, _, _, _, kW, by decide, (in_t1 89 rfl rfl)⟩
theorem pW_26 : rk_pl "TensorForge$Window" 26 4 0 .int := ⟨_, _, _, _, kW, by decide, (in_t1 89 rfl rfl), rfl, rfl⟩
theorem fW_29 : rk_fl "TensorForge$Window" 29 4 7 := ⟨_, _, _, _, kW, by decide, (in_t1 102 rfl rfl)⟩
theorem pW_29 : rk_pl "TensorForge$Window" 29 4 7 .int := ⟨_, _, _, _, kW, by decide, (in_t1 102 rfl rfl), rfl, rfl⟩
theorem fW_32 : rk_fl "TensorForge$Window" 32 2 3 := ⟨_, _, _, _, kN, by decide, (in_t2 106 rfl rfl)⟩
theorem fW_35 : rk_fl "TensorForge$Window" 35 4 8 := ⟨_, _, _, _, kW, by decide, (in_t1 103 rfl rfl)⟩
theorem pW_35 : rk_pl "TensorForge$Window" 35 4 8 .int := ⟨_, _, _, _, kW, by decide, (in_t1 103 rfl rfl), rfl, rfl⟩
theorem fW_38 : rk_fl "TensorForge$Window" 38 2 4 := ⟨_, _, _, _, kN, by decide, (in_t2 111 rfl rfl)⟩
theorem fW_41 : rk_fl "TensorForge$Window" 41 4 9 := ⟨_, _, _, _, kW, by decide, (in_t1 104 rfl rfl)⟩
theorem pW_41 : rk_pl "TensorForge$Window" 41 4 9 .int := ⟨_, _, _, _, kW, by decide, (in_t1 104 rfl rfl), rfl, rfl⟩
theorem cW_44 : rk_cV "TensorForge$Window" 44 mW_before 4 := ⟨Or.inl (in_t4 60 rfl rfl), wmW_before, (in_t4 62 rfl rfl), _, _, _, rfl, (in_tp 32 rfl rfl)⟩
theorem fW_48 : rk_fl "TensorForge$Window" 48 4 10 := ⟨_, _, _, _, kW, by decide, (in_t1 105 rfl rfl)⟩
theorem pW_48 : rk_pl "TensorForge$Window" 48 4 10 .int := ⟨_, _, _, _, kW, by decide, (in_t1 105 rfl rfl), rfl, rfl⟩
theorem fW_51 : rk_fl "TensorForge$Window" 51 4 11 := ⟨_, _, _, _, kW, by decide, (in_t1 106 rfl rfl)⟩
theorem pW_51 : rk_pl "TensorForge$Window" 51 4 11 .int := ⟨_, _, _, _, kW, by decide, (in_t1 106 rfl rfl), rfl, rfl⟩
theorem jW_54 : Cond.methodLink "TensorForge$Window" 54 ⟨"java/lang/Math", "max", "(II)I"⟩ ∈ rk_tbl := (in_t4 64 rfl rfl)
theorem fW_59 : rk_fl "TensorForge$Window" 59 4 1 := ⟨_, _, _, _, kW, by decide, (in_t1 91 rfl rfl)⟩
theorem pW_59 : rk_pl "TensorForge$Window" 59 4 1 .int := ⟨_, _, _, _, kW, by decide, (in_t1 91 rfl rfl), rfl, rfl⟩
theorem fW_62 : rk_fl "TensorForge$Window" 62 4 2 := ⟨_, _, _, _, kW, by decide, (in_t1 93 rfl rfl)⟩
theorem pW_62 : rk_pl "TensorForge$Window" 62 4 2 .int := ⟨_, _, _, _, kW, by decide, (in_t1 93 rfl rfl), rfl, rfl⟩
theorem pW_65 : rk_pl "TensorForge$Window" 65 4 3 .int := ⟨_, _, _, _, kW, by decide, (in_t1 95 rfl rfl), rfl, rfl⟩
theorem jW_68 : Cond.methodLink "TensorForge$Window" 68 ⟨"java/lang/Math", "min", "(II)I"⟩ ∈ rk_tbl := (in_t4 70 rfl rfl)
theorem pW_71 : rk_pl "TensorForge$Window" 71 4 4 .int := ⟨_, _, _, _, kW, by decide, (in_t1 97 rfl rfl), rfl, rfl⟩
theorem pW_74 : rk_pl "TensorForge$Window" 74 4 5 .int := ⟨_, _, _, _, kW, by decide, (in_t1 99 rfl rfl), rfl, rfl⟩
theorem pW_77 : rk_pl "TensorForge$Window" 77 4 6 .int := ⟨_, _, _, _, kW, by decide, (in_t1 101 rfl rfl), rfl, rfl⟩
theorem cL_7 : rk_cV "TensorForgeLaw" 7 mT_weights 5 := ⟨Or.inl (in_t1 199 rfl rfl), wmT_weights, (in_t1 200 rfl rfl), _, _, _, rfl, (in_t1 201 rfl rfl)⟩
theorem nL_8 : Cond.classLink "TensorForgeLaw" 8 "TensorForge" ∈ rk_tbl ∧ Cond.instantiable "TensorForge" 5 ∈ rk_tbl ∧ Cond.initialized "TensorForge" ∈ rk_tbl := ⟨(in_t1 19 rfl rfl), (in_t1 20 rfl rfl), (in_t1 1 rfl rfl)⟩
theorem cL_15 : rk_cV "TensorForgeLaw" 15 mT_weightScale 5 := ⟨Or.inl (in_t2 48 rfl rfl), wmT_weightScale, (in_t2 49 rfl rfl), _, _, _, rfl, (in_t2 50 rfl rfl)⟩
theorem cL_19 : rk_cV "TensorForgeLaw" 19 mT_input 5 := ⟨Or.inl (in_t2 60 rfl rfl), wmT_input, (in_t2 61 rfl rfl), _, _, _, rfl, (in_t2 62 rfl rfl)⟩
theorem cL_25 : rk_cV "TensorForgeLaw" 25 mT_windows 5 := ⟨Or.inl (in_t2 192 rfl rfl), wmT_windows, (in_t2 193 rfl rfl), _, _, _, rfl, (in_t2 194 rfl rfl)⟩
theorem cL_31 : rk_cV "TensorForgeLaw" 31 mT_dense 5 := ⟨Or.inl (in_t3 20 rfl rfl), wmT_dense, (in_t3 21 rfl rfl), _, _, _, rfl, (in_t3 22 rfl rfl)⟩
theorem cL_34 : rk_cV "TensorForgeLaw" 34 mT_add 5 := ⟨Or.inl (in_t3 27 rfl rfl), wmT_add, (in_t3 28 rfl rfl), _, _, _, rfl, (in_t3 29 rfl rfl)⟩
theorem cL_38 : rk_cV "TensorForgeLaw" 38 mT_concat 5 := ⟨Or.inl (in_t3 38 rfl rfl), wmT_concat, (in_t3 39 rfl rfl), _, _, _, rfl, (in_t3 40 rfl rfl)⟩
theorem cL_42 : rk_cV "TensorForgeLaw" 42 mT_reshape 5 := ⟨Or.inl (in_t3 45 rfl rfl), wmT_reshape, (in_t3 46 rfl rfl), _, _, _, rfl, (in_t3 47 rfl rfl)⟩
theorem cL_46 : rk_cV "TensorForgeLaw" 46 mT_pool 5 := ⟨Or.inl (in_t3 52 rfl rfl), wmT_pool, (in_t3 53 rfl rfl), _, _, _, rfl, (in_t3 54 rfl rfl)⟩
theorem cL_50 : rk_cV "TensorForgeLaw" 50 mT_clamp 5 := ⟨Or.inl (in_t3 59 rfl rfl), wmT_clamp, (in_t3 60 rfl rfl), _, _, _, rfl, (in_t3 61 rfl rfl)⟩
theorem cL_54 : rk_cV "TensorForgeLaw" 54 mT_rescale 5 := ⟨Or.inl (in_t3 66 rfl rfl), wmT_rescale, (in_t3 67 rfl rfl), _, _, _, rfl, (in_t3 68 rfl rfl)⟩
theorem cL_58 : rk_cV "TensorForgeLaw" 58 mT_output 5 := ⟨Or.inl (in_t3 73 rfl rfl), wmT_output, (in_t3 74 rfl rfl), _, _, _, rfl, (in_t3 75 rfl rfl)⟩
theorem cL_62 : rk_cV "TensorForgeLaw" 62 mT_compile 5 := ⟨Or.inl (in_t3 80 rfl rfl), wmT_compile, (in_t3 81 rfl rfl), _, _, _, rfl, (in_t3 82 rfl rfl)⟩
theorem cL_66 : rk_cV "TensorForgeLaw" 66 mT_feed 5 := ⟨Or.inl (in_t3 184 rfl rfl), wmT_feed, (in_t3 185 rfl rfl), _, _, _, rfl, (in_t3 186 rfl rfl)⟩
theorem cL_70 : rk_cV "TensorForgeLaw" 70 mT_run 5 := ⟨Or.inl (in_t3 192 rfl rfl), wmT_run, (in_t3 193 rfl rfl), _, _, _, rfl, (in_t3 194 rfl rfl)⟩
theorem cL_75 : rk_cV "TensorForgeLaw" 75 mT_arena 5 := ⟨Or.inl (in_t4 102 rfl rfl), wmT_arena, (in_t4 103 rfl rfl), _, _, _, rfl, (in_t4 104 rfl rfl)⟩
theorem cL_80 : rk_cV "TensorForgeLaw" 80 mT_result 5 := ⟨Or.inl (in_t4 128 rfl rfl), wmT_result, (in_t4 129 rfl rfl), _, _, _, rfl, (in_t4 130 rfl rfl)⟩
theorem cL_84 : rk_cV "TensorForgeLaw" 84 mT_about 5 := ⟨Or.inl (in_t4 135 rfl rfl), wmT_about, (in_t4 136 rfl rfl), _, _, _, rfl, (in_t4 137 rfl rfl)⟩
theorem cL_87 : rk_cV "TensorForgeLaw" 87 mT_peak 5 := ⟨Or.inl (in_t4 149 rfl rfl), wmT_peak, (in_t4 150 rfl rfl), _, _, _, rfl, (in_t4 151 rfl rfl)⟩
theorem cL_90 : rk_cI "TensorForgeLaw" 90 mT_init := ⟨Or.inl (in_t1 21 rfl rfl), wmT_init, (in_t1 22 rfl rfl), rfl, rfl, rfl⟩
theorem nL_91 : Cond.classLink "TensorForgeLaw" 91 "TensorForgeModel" ∈ rk_tbl ∧ Cond.instantiable "TensorForgeModel" 32 ∈ rk_tbl ∧ Cond.initialized "TensorForgeModel" ∈ rk_tbl := ⟨(in_t4 153 rfl rfl), (in_t4 154 rfl rfl), (in_t1 6 rfl rfl)⟩
theorem cL_93 : rk_cI "TensorForgeLaw" 93 mR_init := ⟨Or.inl (in_t4 155 rfl rfl), wmR_init, (in_t4 156 rfl rfl), rfl, rfl, rfl⟩
theorem qL_94 : Cond.constantLong "TensorForgeLaw" 94 4294967295 ∈ rk_tbl := (in_t5 233 rfl rfl)
theorem cL_96 : rk_cS "TensorForgeLaw" 96 mL_weights := ⟨Or.inl (in_t1 195 rfl rfl), wmL_weights, (in_t1 196 rfl rfl)⟩
theorem cL_101 : rk_cV "TensorForgeLaw" 101 mR_weights 6 := ⟨Or.inl (in_t5 21 rfl rfl), wmR_weights, (in_t5 22 rfl rfl), _, _, _, rfl, (in_t5 23 rfl rfl)⟩
theorem cL_102 : rk_cV "TensorForgeLaw" 102 mR_thrown 6 := ⟨Or.inl (in_t5 17 rfl rfl), wmR_thrown, (in_t5 18 rfl rfl), _, _, _, rfl, (in_t5 19 rfl rfl)⟩
theorem qL_105 : Cond.constantDouble "TensorForgeLaw" 105 4593671619917905920 ∈ rk_tbl := (in_t5 234 rfl rfl)
theorem cL_107 : rk_cS "TensorForgeLaw" 107 mL_weightScale := ⟨Or.inl (in_t2 45 rfl rfl), wmL_weightScale, (in_t2 46 rfl rfl)⟩
theorem cL_110 : rk_cV "TensorForgeLaw" 110 mR_weightScale 6 := ⟨Or.inl (in_t5 33 rfl rfl), wmR_weightScale, (in_t5 34 rfl rfl), _, _, _, rfl, (in_t5 35 rfl rfl)⟩
theorem cL_111 : rk_cS "TensorForgeLaw" 111 mL_input := ⟨Or.inl (in_t2 56 rfl rfl), wmL_input, (in_t2 57 rfl rfl)⟩
theorem cL_114 : rk_cV "TensorForgeLaw" 114 mR_input 6 := ⟨Or.inl (in_t5 42 rfl rfl), wmR_input, (in_t5 43 rfl rfl), _, _, _, rfl, (in_t5 44 rfl rfl)⟩
theorem cL_115 : rk_cS "TensorForgeLaw" 115 mL_windows := ⟨Or.inl (in_t2 188 rfl rfl), wmL_windows, (in_t2 189 rfl rfl)⟩
theorem cL_118 : rk_cV "TensorForgeLaw" 118 mR_windows 6 := ⟨Or.inl (in_t5 54 rfl rfl), wmR_windows, (in_t5 55 rfl rfl), _, _, _, rfl, (in_t5 56 rfl rfl)⟩
theorem cL_119 : rk_cS "TensorForgeLaw" 119 mL_dense := ⟨Or.inl (in_t3 17 rfl rfl), wmL_dense, (in_t3 18 rfl rfl)⟩
theorem cL_121 : rk_cV "TensorForgeLaw" 121 mR_dense 6 := ⟨Or.inl (in_t5 80 rfl rfl), wmR_dense, (in_t5 81 rfl rfl), _, _, _, rfl, (in_t5 82 rfl rfl)⟩
theorem cL_122 : rk_cS "TensorForgeLaw" 122 mL_add := ⟨Or.inl (in_t3 24 rfl rfl), wmL_add, (in_t3 25 rfl rfl)⟩
theorem cL_125 : rk_cV "TensorForgeLaw" 125 mR_add 6 := ⟨Or.inl (in_t5 88 rfl rfl), wmR_add, (in_t5 89 rfl rfl), _, _, _, rfl, (in_t5 90 rfl rfl)⟩
theorem cL_126 : rk_cS "TensorForgeLaw" 126 mL_concat := ⟨Or.inl (in_t3 35 rfl rfl), wmL_concat, (in_t3 36 rfl rfl)⟩
theorem cL_129 : rk_cV "TensorForgeLaw" 129 mR_concat 6 := ⟨Or.inl (in_t5 96 rfl rfl), wmR_concat, (in_t5 97 rfl rfl), _, _, _, rfl, (in_t5 98 rfl rfl)⟩
theorem cL_130 : rk_cS "TensorForgeLaw" 130 mL_reshape := ⟨Or.inl (in_t3 42 rfl rfl), wmL_reshape, (in_t3 43 rfl rfl)⟩
theorem cL_133 : rk_cV "TensorForgeLaw" 133 mR_reshape 6 := ⟨Or.inl (in_t5 100 rfl rfl), wmR_reshape, (in_t5 101 rfl rfl), _, _, _, rfl, (in_t5 102 rfl rfl)⟩
theorem cL_134 : rk_cS "TensorForgeLaw" 134 mL_pool := ⟨Or.inl (in_t3 49 rfl rfl), wmL_pool, (in_t3 50 rfl rfl)⟩
theorem cL_137 : rk_cV "TensorForgeLaw" 137 mR_pool 6 := ⟨Or.inl (in_t5 104 rfl rfl), wmR_pool, (in_t5 105 rfl rfl), _, _, _, rfl, (in_t5 106 rfl rfl)⟩
theorem cL_138 : rk_cS "TensorForgeLaw" 138 mL_clamp := ⟨Or.inl (in_t3 56 rfl rfl), wmL_clamp, (in_t3 57 rfl rfl)⟩
theorem cL_141 : rk_cV "TensorForgeLaw" 141 mR_clamp 6 := ⟨Or.inl (in_t5 108 rfl rfl), wmR_clamp, (in_t5 109 rfl rfl), _, _, _, rfl, (in_t5 110 rfl rfl)⟩
theorem cL_142 : rk_cS "TensorForgeLaw" 142 mL_rescale := ⟨Or.inl (in_t3 63 rfl rfl), wmL_rescale, (in_t3 64 rfl rfl)⟩
theorem cL_145 : rk_cV "TensorForgeLaw" 145 mR_rescale 6 := ⟨Or.inl (in_t5 112 rfl rfl), wmR_rescale, (in_t5 113 rfl rfl), _, _, _, rfl, (in_t5 114 rfl rfl)⟩
theorem cL_146 : rk_cS "TensorForgeLaw" 146 mL_output := ⟨Or.inl (in_t3 70 rfl rfl), wmL_output, (in_t3 71 rfl rfl)⟩
theorem cL_149 : rk_cV "TensorForgeLaw" 149 mR_output 6 := ⟨Or.inl (in_t5 116 rfl rfl), wmR_output, (in_t5 117 rfl rfl), _, _, _, rfl, (in_t5 118 rfl rfl)⟩
theorem cL_150 : rk_cS "TensorForgeLaw" 150 mL_compile := ⟨Or.inl (in_t3 77 rfl rfl), wmL_compile, (in_t3 78 rfl rfl)⟩
theorem cL_153 : rk_cV "TensorForgeLaw" 153 mR_compile 6 := ⟨Or.inl (in_t5 120 rfl rfl), wmR_compile, (in_t5 121 rfl rfl), _, _, _, rfl, (in_t5 122 rfl rfl)⟩
theorem cL_154 : rk_cS "TensorForgeLaw" 154 mL_feed := ⟨Or.inl (in_t3 181 rfl rfl), wmL_feed, (in_t3 182 rfl rfl)⟩
theorem cL_157 : rk_cV "TensorForgeLaw" 157 mR_feed 6 := ⟨Or.inl (in_t5 160 rfl rfl), wmR_feed, (in_t5 161 rfl rfl), _, _, _, rfl, (in_t5 162 rfl rfl)⟩
theorem cL_158 : rk_cS "TensorForgeLaw" 158 mL_run := ⟨Or.inl (in_t3 188 rfl rfl), wmL_run, (in_t3 189 rfl rfl)⟩
theorem cL_160 : rk_cV "TensorForgeLaw" 160 mR_run 6 := ⟨Or.inl (in_t5 164 rfl rfl), wmR_run, (in_t5 165 rfl rfl), _, _, _, rfl, (in_t5 166 rfl rfl)⟩
theorem cL_161 : rk_cS "TensorForgeLaw" 161 mL_arena := ⟨Or.inl (in_t4 98 rfl rfl), wmL_arena, (in_t4 99 rfl rfl)⟩
theorem cL_163 : rk_cV "TensorForgeLaw" 163 mR_arena 6 := ⟨Or.inl (in_t5 217 rfl rfl), wmR_arena, (in_t5 218 rfl rfl), _, _, _, rfl, (in_t5 219 rfl rfl)⟩
theorem cL_164 : rk_cS "TensorForgeLaw" 164 mL_result := ⟨Or.inl (in_t4 125 rfl rfl), wmL_result, (in_t4 126 rfl rfl)⟩
theorem cL_167 : rk_cV "TensorForgeLaw" 167 mR_result 6 := ⟨Or.inl (in_t5 221 rfl rfl), wmR_result, (in_t5 222 rfl rfl), _, _, _, rfl, (in_t5 223 rfl rfl)⟩
theorem cL_168 : rk_cS "TensorForgeLaw" 168 mL_about := ⟨Or.inl (in_t4 132 rfl rfl), wmL_about, (in_t4 133 rfl rfl)⟩
theorem cL_170 : rk_cV "TensorForgeLaw" 170 mR_about 6 := ⟨Or.inl (in_t5 225 rfl rfl), wmR_about, (in_t5 226 rfl rfl), _, _, _, rfl, (in_t5 227 rfl rfl)⟩
theorem cL_171 : rk_cS "TensorForgeLaw" 171 mL_peak := ⟨Or.inl (in_t4 146 rfl rfl), wmL_peak, (in_t4 147 rfl rfl)⟩
theorem cL_173 : rk_cV "TensorForgeLaw" 173 mR_peak 6 := ⟨Or.inl (in_t5 229 rfl rfl), wmR_peak, (in_t5 230 rfl rfl), _, _, _, rfl, (in_t5 231 rfl rfl)⟩
theorem jR_1 : Cond.methodLink "TensorForgeModel" 1 ⟨"java/lang/Object", "<init>", "()V"⟩ ∈ rk_tbl := (in_t4 158 rfl rfl)
theorem fR_7 : rk_fl "TensorForgeModel" 7 6 1 := ⟨_, _, _, _, kR, by decide, (in_t4 160 rfl rfl)⟩
theorem pR_7 : rk_pF "TensorForgeModel" 7 6 1 (.array .int) := ⟨_, _, _, _, kR, by decide, (in_t4 160 rfl rfl), rfl, rfl, rfl⟩
theorem fR_13 : rk_fl "TensorForgeModel" 13 6 2 := ⟨_, _, _, _, kR, by decide, (in_t4 161 rfl rfl)⟩
theorem pR_13 : rk_pl "TensorForgeModel" 13 6 2 .double := ⟨_, _, _, _, kR, by decide, (in_t4 161 rfl rfl), rfl, rfl⟩
theorem fR_17 : rk_fl "TensorForgeModel" 17 6 3 := ⟨_, _, _, _, kR, by decide, (in_t4 162 rfl rfl)⟩
theorem pR_17 : rk_pF "TensorForgeModel" 17 6 3 (.array .int) := ⟨_, _, _, _, kR, by decide, (in_t4 162 rfl rfl), rfl, rfl, rfl⟩
theorem fR_20 : rk_fl "TensorForgeModel" 20 6 4 := ⟨_, _, _, _, kR, by decide, (in_t4 163 rfl rfl)⟩
theorem pR_20 : rk_pF "TensorForgeModel" 20 6 4 (.array .int) := ⟨_, _, _, _, kR, by decide, (in_t4 163 rfl rfl), rfl, rfl, rfl⟩
theorem fR_23 : rk_fl "TensorForgeModel" 23 6 5 := ⟨_, _, _, _, kR, by decide, (in_t4 164 rfl rfl)⟩
theorem pR_23 : rk_pF "TensorForgeModel" 23 6 5 (.array .int) := ⟨_, _, _, _, kR, by decide, (in_t4 164 rfl rfl), rfl, rfl, rfl⟩
theorem fR_26 : rk_fl "TensorForgeModel" 26 6 6 := ⟨_, _, _, _, kR, by decide, (in_t4 165 rfl rfl)⟩
theorem pR_26 : rk_pF "TensorForgeModel" 26 6 6 (.array .int) := ⟨_, _, _, _, kR, by decide, (in_t4 165 rfl rfl), rfl, rfl, rfl⟩
theorem fR_29 : rk_fl "TensorForgeModel" 29 6 7 := ⟨_, _, _, _, kR, by decide, (in_t4 166 rfl rfl)⟩
theorem pR_29 : rk_pF "TensorForgeModel" 29 6 7 (.array .int) := ⟨_, _, _, _, kR, by decide, (in_t4 166 rfl rfl), rfl, rfl, rfl⟩
theorem fR_32 : rk_fl "TensorForgeModel" 32 6 8 := ⟨_, _, _, _, kR, by decide, (in_t4 167 rfl rfl)⟩
theorem pR_32 : rk_pF "TensorForgeModel" 32 6 8 (.array .int) := ⟨_, _, _, _, kR, by decide, (in_t4 167 rfl rfl), rfl, rfl, rfl⟩
theorem fR_35 : rk_fl "TensorForgeModel" 35 6 9 := ⟨_, _, _, _, kR, by decide, (in_t4 168 rfl rfl)⟩
theorem pR_35 : rk_pF "TensorForgeModel" 35 6 9 (.array .double) := ⟨_, _, _, _, kR, by decide, (in_t4 168 rfl rfl), rfl, rfl, rfl⟩
theorem fR_39 : rk_fl "TensorForgeModel" 39 6 10 := ⟨_, _, _, _, kR, by decide, (in_t4 169 rfl rfl)⟩
theorem pR_39 : rk_pF "TensorForgeModel" 39 6 10 (.array .double) := ⟨_, _, _, _, kR, by decide, (in_t4 169 rfl rfl), rfl, rfl, rfl⟩
theorem fR_42 : rk_fl "TensorForgeModel" 42 6 11 := ⟨_, _, _, _, kR, by decide, (in_t4 170 rfl rfl)⟩
theorem pR_42 : rk_pF "TensorForgeModel" 42 6 11 (.array .int) := ⟨_, _, _, _, kR, by decide, (in_t4 170 rfl rfl), rfl, rfl, rfl⟩
theorem fR_45 : rk_fl "TensorForgeModel" 45 6 12 := ⟨_, _, _, _, kR, by decide, (in_t4 171 rfl rfl)⟩
theorem pR_45 : rk_pF "TensorForgeModel" 45 6 12 (.array .int) := ⟨_, _, _, _, kR, by decide, (in_t4 171 rfl rfl), rfl, rfl, rfl⟩
theorem fR_48 : rk_fl "TensorForgeModel" 48 6 13 := ⟨_, _, _, _, kR, by decide, (in_t4 172 rfl rfl)⟩
theorem pR_48 : rk_pF "TensorForgeModel" 48 6 13 (.array .int) := ⟨_, _, _, _, kR, by decide, (in_t4 172 rfl rfl), rfl, rfl, rfl⟩
theorem fR_51 : rk_fl "TensorForgeModel" 51 6 14 := ⟨_, _, _, _, kR, by decide, (in_t4 173 rfl rfl)⟩
theorem pR_51 : rk_pF "TensorForgeModel" 51 6 14 (.array .int) := ⟨_, _, _, _, kR, by decide, (in_t4 173 rfl rfl), rfl, rfl, rfl⟩
theorem fR_54 : rk_fl "TensorForgeModel" 54 6 15 := ⟨_, _, _, _, kR, by decide, (in_t4 174 rfl rfl)⟩
theorem pR_54 : rk_pF "TensorForgeModel" 54 6 15 (.array .int) := ⟨_, _, _, _, kR, by decide, (in_t4 174 rfl rfl), rfl, rfl, rfl⟩
theorem fR_57 : rk_fl "TensorForgeModel" 57 6 16 := ⟨_, _, _, _, kR, by decide, (in_t4 175 rfl rfl)⟩
theorem pR_57 : rk_pF "TensorForgeModel" 57 6 16 (.array .int) := ⟨_, _, _, _, kR, by decide, (in_t4 175 rfl rfl), rfl, rfl, rfl⟩
theorem fR_60 : rk_fl "TensorForgeModel" 60 6 18 := ⟨_, _, _, _, kR, by decide, (in_t4 177 rfl rfl)⟩
theorem pR_60 : rk_pl "TensorForgeModel" 60 6 18 .int := ⟨_, _, _, _, kR, by decide, (in_t4 177 rfl rfl), rfl, rfl⟩
theorem fR_64 : rk_fl "TensorForgeModel" 64 6 20 := ⟨_, _, _, _, kR, by decide, (in_t4 179 rfl rfl)⟩
theorem pR_64 : rk_pF "TensorForgeModel" 64 6 20 (.array .int) := ⟨_, _, _, _, kR, by decide, (in_t4 179 rfl rfl), rfl, rfl, rfl⟩
theorem fR_67 : rk_fl "TensorForgeModel" 67 6 21 := ⟨_, _, _, _, kR, by decide, (in_t4 180 rfl rfl)⟩
theorem pR_67 : rk_pF "TensorForgeModel" 67 6 21 (.array .int) := ⟨_, _, _, _, kR, by decide, (in_t4 180 rfl rfl), rfl, rfl, rfl⟩
theorem fR_70 : rk_fl "TensorForgeModel" 70 6 22 := ⟨_, _, _, _, kR, by decide, (in_t4 181 rfl rfl)⟩
theorem pR_70 : rk_pF "TensorForgeModel" 70 6 22 (.array .int) := ⟨_, _, _, _, kR, by decide, (in_t4 181 rfl rfl), rfl, rfl, rfl⟩
theorem fR_73 : rk_fl "TensorForgeModel" 73 6 23 := ⟨_, _, _, _, kR, by decide, (in_t4 182 rfl rfl)⟩
theorem pR_73 : rk_pF "TensorForgeModel" 73 6 23 (.array .int) := ⟨_, _, _, _, kR, by decide, (in_t4 182 rfl rfl), rfl, rfl, rfl⟩
theorem fR_76 : rk_fl "TensorForgeModel" 76 6 24 := ⟨_, _, _, _, kR, by decide, (in_t4 183 rfl rfl)⟩
theorem pR_76 : rk_pF "TensorForgeModel" 76 6 24 (.array .int) := ⟨_, _, _, _, kR, by decide, (in_t4 183 rfl rfl), rfl, rfl, rfl⟩
theorem fR_79 : rk_fl "TensorForgeModel" 79 6 27 := ⟨_, _, _, _, kR, by decide, (in_t4 186 rfl rfl)⟩
theorem pR_79 : rk_pF "TensorForgeModel" 79 6 27 (.array .int) := ⟨_, _, _, _, kR, by decide, (in_t4 186 rfl rfl), rfl, rfl, rfl⟩
theorem fR_82 : rk_fl "TensorForgeModel" 82 6 29 := ⟨_, _, _, _, kR, by decide, (in_t4 188 rfl rfl)⟩
theorem pR_82 : rk_pF "TensorForgeModel" 82 6 29 (.array .int) := ⟨_, _, _, _, kR, by decide, (in_t4 188 rfl rfl), rfl, rfl, rfl⟩
theorem fR_85 : rk_fl "TensorForgeModel" 85 6 0 := ⟨_, _, _, _, kR, by decide, (in_t4 159 rfl rfl)⟩
theorem pR_85 : rk_pl "TensorForgeModel" 85 6 0 .int := ⟨_, _, _, _, kR, by decide, (in_t4 159 rfl rfl), rfl, rfl⟩
theorem qR_88 : Cond.constantDouble "TensorForgeModel" 88 4696837146684686336 ∈ rk_tbl := (in_t5 41 rfl rfl)
theorem qR_90 : Cond.constantDouble "TensorForgeModel" 90 4502148214488346440 ∈ rk_tbl := (in_t5 70 rfl rfl)
theorem qR_92 : Cond.constantDouble "TensorForgeModel" 92 4673975551164153856 ∈ rk_tbl := (in_t5 71 rfl rfl)
theorem cR_94 : rk_cV "TensorForgeModel" 94 mR_out 6 := ⟨Or.inl (in_t5 25 rfl rfl), wmR_out, (in_t5 27 rfl rfl), _, _, _, rfl, (in_tp 40 rfl rfl)⟩
theorem cR_98 : rk_cV "TensorForgeModel" 98 mR_fail 6 := ⟨Or.inl (in_t5 29 rfl rfl), wmR_fail, (in_t5 31 rfl rfl), _, _, _, rfl, (in_tp 41 rfl rfl)⟩
theorem cR_102 : rk_cV "TensorForgeModel" 102 mR_badScale 6 := ⟨Or.inl (in_t5 37 rfl rfl), wmR_badScale, (in_t5 39 rfl rfl), _, _, _, rfl, (in_tp 42 rfl rfl)⟩
theorem fR_106 : rk_fl "TensorForgeModel" 106 6 17 := ⟨_, _, _, _, kR, by decide, (in_t4 176 rfl rfl)⟩
theorem pR_106 : rk_pl "TensorForgeModel" 106 6 17 .int := ⟨_, _, _, _, kR, by decide, (in_t4 176 rfl rfl), rfl, rfl⟩
theorem fR_109 : rk_fl "TensorForgeModel" 109 6 19 := ⟨_, _, _, _, kR, by decide, (in_t4 178 rfl rfl)⟩
theorem pR_109 : rk_pl "TensorForgeModel" 109 6 19 .boolean := ⟨_, _, _, _, kR, by decide, (in_t4 178 rfl rfl), rfl, rfl⟩
theorem cR_113 : rk_cV "TensorForgeModel" 113 mR_make 6 := ⟨Or.inl (in_t5 46 rfl rfl), wmR_make, (in_t5 48 rfl rfl), _, _, _, rfl, (in_tp 43 rfl rfl)⟩
theorem cR_117 : rk_cV "TensorForgeModel" 117 mR_finish 6 := ⟨Or.inl (in_t5 50 rfl rfl), wmR_finish, (in_t5 52 rfl rfl), _, _, _, rfl, (in_tp 44 rfl rfl)⟩
theorem cR_121 : rk_cV "TensorForgeModel" 121 mR_stride 6 := ⟨Or.inl (in_t5 76 rfl rfl), wmR_stride, (in_t5 78 rfl rfl), _, _, _, rfl, (in_tp 49 rfl rfl)⟩
theorem cR_124 : rk_cV "TensorForgeModel" 124 mR_side 6 := ⟨Or.inl (in_t5 58 rfl rfl), wmR_side, (in_t5 60 rfl rfl), _, _, _, rfl, (in_tp 45 rfl rfl)⟩
theorem cR_127 : rk_cV "TensorForgeModel" 127 mR_places 6 := ⟨Or.inl (in_t5 72 rfl rfl), wmR_places, (in_t5 74 rfl rfl), _, _, _, rfl, (in_tp 48 rfl rfl)⟩
theorem cR_131 : rk_cV "TensorForgeModel" 131 mR_narrow 6 := ⟨Or.inl (in_t5 62 rfl rfl), wmR_narrow, (in_t5 64 rfl rfl), _, _, _, rfl, (in_tp 46 rfl rfl)⟩
theorem cR_134 : rk_cV "TensorForgeModel" 134 mR_badRatio 6 := ⟨Or.inl (in_t5 66 rfl rfl), wmR_badRatio, (in_t5 68 rfl rfl), _, _, _, rfl, (in_tp 47 rfl rfl)⟩
theorem cR_137 : rk_cV "TensorForgeModel" 137 mR_cells 6 := ⟨Or.inl (in_t5 84 rfl rfl), wmR_cells, (in_t5 86 rfl rfl), _, _, _, rfl, (in_tp 50 rfl rfl)⟩
theorem cR_140 : rk_cV "TensorForgeModel" 140 mR_sameSize 6 := ⟨Or.inl (in_t5 92 rfl rfl), wmR_sameSize, (in_t5 94 rfl rfl), _, _, _, rfl, (in_tp 51 rfl rfl)⟩
theorem cR_143 : rk_cV "TensorForgeModel" 143 mR_standFor 6 := ⟨Or.inl (in_t5 128 rfl rfl), wmR_standFor, (in_t5 130 rfl rfl), _, _, _, rfl, (in_tp 53 rfl rfl)⟩
theorem cR_146 : rk_cV "TensorForgeModel" 146 mR_alike 6 := ⟨Or.inl (in_t5 132 rfl rfl), wmR_alike, (in_t5 134 rfl rfl), _, _, _, rfl, (in_tp 54 rfl rfl)⟩
theorem cR_149 : rk_cV "TensorForgeModel" 149 mR_uses 6 := ⟨Or.inl (in_t5 140 rfl rfl), wmR_uses, (in_t5 142 rfl rfl), _, _, _, rfl, (in_tp 56 rfl rfl)⟩
theorem fR_152 : rk_fl "TensorForgeModel" 152 6 25 := ⟨_, _, _, _, kR, by decide, (in_t4 184 rfl rfl)⟩
theorem pR_152 : rk_pl "TensorForgeModel" 152 6 25 .int := ⟨_, _, _, _, kR, by decide, (in_t4 184 rfl rfl), rfl, rfl⟩
theorem cR_155 : rk_cV "TensorForgeModel" 155 mR_hasInput 6 := ⟨Or.inl (in_t5 148 rfl rfl), wmR_hasInput, (in_t5 150 rfl rfl), _, _, _, rfl, (in_tp 58 rfl rfl)⟩
theorem fR_158 : rk_fl "TensorForgeModel" 158 6 26 := ⟨_, _, _, _, kR, by decide, (in_t4 185 rfl rfl)⟩
theorem pR_158 : rk_pl "TensorForgeModel" 158 6 26 .int := ⟨_, _, _, _, kR, by decide, (in_t4 185 rfl rfl), rfl, rfl⟩
theorem cR_161 : rk_cV "TensorForgeModel" 161 mR_hits 6 := ⟨Or.inl (in_t5 156 rfl rfl), wmR_hits, (in_t5 158 rfl rfl), _, _, _, rfl, (in_tp 60 rfl rfl)⟩
theorem cR_165 : rk_cV "TensorForgeModel" 165 mR_findStands 6 := ⟨Or.inl (in_t5 124 rfl rfl), wmR_findStands, (in_t5 126 rfl rfl), _, _, _, rfl, (in_tp 52 rfl rfl)⟩
theorem cR_169 : rk_cV "TensorForgeModel" 169 mR_findRoles 6 := ⟨Or.inl (in_t5 136 rfl rfl), wmR_findRoles, (in_t5 138 rfl rfl), _, _, _, rfl, (in_tp 55 rfl rfl)⟩
theorem cR_172 : rk_cV "TensorForgeModel" 172 mR_findLives 6 := ⟨Or.inl (in_t5 144 rfl rfl), wmR_findLives, (in_t5 146 rfl rfl), _, _, _, rfl, (in_tp 57 rfl rfl)⟩
theorem cR_175 : rk_cV "TensorForgeModel" 175 mR_plan 6 := ⟨Or.inl (in_t5 152 rfl rfl), wmR_plan, (in_t5 154 rfl rfl), _, _, _, rfl, (in_tp 59 rfl rfl)⟩
theorem qR_178 : Cond.constantLong "TensorForgeModel" 178 2 ∈ rk_tbl := (in_t5 198 rfl rfl)
theorem qR_180 : Cond.constantDouble "TensorForgeModel" 180 4602678819172646912 ∈ rk_tbl := (in_t5 189 rfl rfl)
theorem qR_182 : Cond.constantDouble "TensorForgeModel" 182 4611686018427387904 ∈ rk_tbl := (in_t5 190 rfl rfl)
theorem qR_184 : Cond.constantDouble "TensorForgeModel" 184 4746794007248502784 ∈ rk_tbl := (in_t5 191 rfl rfl)
theorem qR_186 : Cond.constantLong "TensorForgeModel" 186 2147483648 ∈ rk_tbl := (in_t5 192 rfl rfl)
theorem qR_188 : Cond.constantLong "TensorForgeModel" 188 1073741824 ∈ rk_tbl := (in_t5 193 rfl rfl)
theorem cR_190 : rk_cV "TensorForgeModel" 190 mR_halves 6 := ⟨Or.inl (in_t5 194 rfl rfl), wmR_halves, (in_t5 196 rfl rfl), _, _, _, rfl, (in_tp 66 rfl rfl)⟩
theorem qR_194 : Cond.constantLong "TensorForgeModel" 194 (-128) ∈ rk_tbl := (in_t5 203 rfl rfl)
theorem qR_196 : Cond.constantLong "TensorForgeModel" 196 127 ∈ rk_tbl := (in_t5 204 rfl rfl)
theorem cR_198 : rk_cV "TensorForgeModel" 198 mR_before 6 := ⟨Or.inl (in_t5 176 rfl rfl), wmR_before, (in_t5 178 rfl rfl), _, _, _, rfl, (in_tp 63 rfl rfl)⟩
theorem cR_201 : rk_cV "TensorForgeModel" 201 mR_at 6 := ⟨Or.inl (in_t5 180 rfl rfl), wmR_at, (in_t5 182 rfl rfl), _, _, _, rfl, (in_tp 64 rfl rfl)⟩
theorem qR_204 : Cond.constantLong "TensorForgeModel" 204 16 ∈ rk_tbl := (in_t5 184 rfl rfl)
theorem cR_206 : rk_cV "TensorForgeModel" 206 mR_windowSum 6 := ⟨Or.inl (in_t5 172 rfl rfl), wmR_windowSum, (in_t5 174 rfl rfl), _, _, _, rfl, (in_tp 62 rfl rfl)⟩
theorem cR_210 : rk_cV "TensorForgeModel" 210 mR_scaled 6 := ⟨Or.inl (in_t5 185 rfl rfl), wmR_scaled, (in_t5 187 rfl rfl), _, _, _, rfl, (in_tp 65 rfl rfl)⟩
theorem cR_214 : rk_cV "TensorForgeModel" 214 mR_cut 6 := ⟨Or.inl (in_t5 199 rfl rfl), wmR_cut, (in_t5 201 rfl rfl), _, _, _, rfl, (in_tp 67 rfl rfl)⟩
theorem cR_218 : rk_cV "TensorForgeModel" 218 mR_denseSum 6 := ⟨Or.inl (in_t5 205 rfl rfl), wmR_denseSum, (in_t5 207 rfl rfl), _, _, _, rfl, (in_tp 68 rfl rfl)⟩
theorem cR_222 : rk_cV "TensorForgeModel" 222 mR_joined 6 := ⟨Or.inl (in_t5 209 rfl rfl), wmR_joined, (in_t5 211 rfl rfl), _, _, _, rfl, (in_tp 69 rfl rfl)⟩
theorem cR_226 : rk_cV "TensorForgeModel" 226 mR_pooled 6 := ⟨Or.inl (in_t5 213 rfl rfl), wmR_pooled, (in_t5 215 rfl rfl), _, _, _, rfl, (in_tp 70 rfl rfl)⟩
theorem cR_229 : rk_cV "TensorForgeModel" 229 mR_value 6 := ⟨Or.inl (in_t5 168 rfl rfl), wmR_value, (in_t5 170 rfl rfl), _, _, _, rfl, (in_tp 61 rfl rfl)⟩
theorem fR_232 : rk_fl "TensorForgeModel" 232 6 28 := ⟨_, _, _, _, kR, by decide, (in_t4 187 rfl rfl)⟩
theorem pR_232 : rk_pl "TensorForgeModel" 232 6 28 .int := ⟨_, _, _, _, kR, by decide, (in_t4 187 rfl rfl), rfl, rfl⟩
theorem fR_235 : rk_fl "TensorForgeModel" 235 6 30 := ⟨_, _, _, _, kR, by decide, (in_t4 189 rfl rfl)⟩
theorem pR_235 : rk_pl "TensorForgeModel" 235 6 30 .int := ⟨_, _, _, _, kR, by decide, (in_t4 189 rfl rfl), rfl, rfl⟩
theorem fR_238 : rk_fl "TensorForgeModel" 238 6 31 := ⟨_, _, _, _, kR, by decide, (in_t4 190 rfl rfl)⟩
theorem pR_238 : rk_pl "TensorForgeModel" 238 6 31 .double := ⟨_, _, _, _, kR, by decide, (in_t4 190 rfl rfl), rfl, rfl⟩
set_option maxRecDepth 20000 in
theorem tmT_require_4 : rk_tw "TensorForge" 222 224 226 "java/lang/IllegalArgumentException" := ⟨(in_t1 209 rfl rfl), (in_t1 10 rfl rfl), ⟨"an argument is out of range or does not go with the others", by decide +kernel⟩, by decide +kernel, by decide +kernel, by decide +kernel⟩
set_option maxRecDepth 20000 in
theorem tmT_requireRoom_12 : rk_tw "TensorForge" 144 247 148 "java/lang/IllegalStateException" := ⟨(in_t2 71 rfl rfl), (in_t1 12 rfl rfl), ⟨"all nodes are there", by decide +kernel⟩, by decide +kernel, by decide +kernel, by decide +kernel⟩
set_option maxRecDepth 20000 in
theorem tmT_requireGood_7 : rk_tw "TensorForge" 242 244 246 "java/lang/ArithmeticException" := ⟨(in_t2 231 rfl rfl), (in_t1 14 rfl rfl), ⟨"a ratio is not good", by decide +kernel⟩, by decide +kernel, by decide +kernel, by decide +kernel⟩
set_option maxRecDepth 20000 in
theorem tmT_compile_8 : rk_tw "TensorForge" 144 146 148 "java/lang/IllegalStateException" := ⟨(in_t2 71 rfl rfl), (in_t1 12 rfl rfl), ⟨"there is no output", by decide +kernel⟩, by decide +kernel, by decide +kernel, by decide +kernel⟩
set_option maxRecDepth 20000 in
theorem tmT_run_27 : rk_tw "TensorForge" 169 171 173 "java/lang/UnsupportedOperationException" := ⟨(in_t3 201 rfl rfl), (in_t1 16 rfl rfl), ⟨"the arena is below the peak", by decide +kernel⟩, by decide +kernel, by decide +kernel, by decide +kernel⟩
set_option maxRecDepth 20000 in
theorem tmT_requireCompiled_7 : rk_tw "TensorForge" 144 249 148 "java/lang/IllegalStateException" := ⟨(in_t2 71 rfl rfl), (in_t1 12 rfl rfl), ⟨"not compiled", by decide +kernel⟩, by decide +kernel, by decide +kernel, by decide +kernel⟩
-- JDK codes: [(('java/lang/Math', 'min', '(II)I'), 'prog_13_method_69_code', 2, '(Option.some Jvm.ClassFile.FieldType.int)'), (('java/lang/Math', 'max', '(II)I'), 'prog_13_method_65_code', 2, '(Option.some Jvm.ClassFile.FieldType.int)'), (('java/lang/Math', 'abs', '(J)J'), 'prog_13_method_61_code', 2, '(Option.some Jvm.ClassFile.FieldType.long)'), (('java/lang/Math', 'min', '(JJ)J'), 'prog_13_method_70_code', 4, '(Option.some Jvm.ClassFile.FieldType.long)'), (('java/lang/Math', 'max', '(JJ)J'), 'prog_13_method_66_code', 4, '(Option.some Jvm.ClassFile.FieldType.long)'), (('java/lang/Math', 'abs', '(I)I'), 'prog_13_method_59_code', 1, '(Option.some Jvm.ClassFile.FieldType.int)')]
end
section
theorem dT_init_0 : decode mT_init.2.1 0 = .ok (.aload_n 0, 1) := by decide +kernel
theorem dT_init_1 : decode mT_init.2.1 1 = .ok (.invokespecial 3, 3) := by decide +kernel
theorem dT_init_4 : decode mT_init.2.1 4 = .ok (.aload_n 0, 1) := by decide +kernel
theorem dT_init_5 : decode mT_init.2.1 5 = .ok (.new 9, 3) := by decide +kernel
theorem dT_init_8 : decode mT_init.2.1 8 = .ok (.dup, 1) := by decide +kernel
theorem dT_init_9 : decode mT_init.2.1 9 = .ok (.invokespecial 11, 3) := by decide +kernel
theorem dT_init_12 : decode mT_init.2.1 12 = .ok (.putfield 12, 3) := by decide +kernel
theorem dT_init_15 : decode mT_init.2.1 15 = .ok (.aload_n 0, 1) := by decide +kernel
theorem dT_init_16 : decode mT_init.2.1 16 = .ok (.new 16, 3) := by decide +kernel
theorem dT_init_19 : decode mT_init.2.1 19 = .ok (.dup, 1) := by decide +kernel
theorem dT_init_20 : decode mT_init.2.1 20 = .ok (.invokespecial 18, 3) := by decide +kernel
theorem dT_init_23 : decode mT_init.2.1 23 = .ok (.putfield 19, 3) := by decide +kernel
theorem dT_init_26 : decode mT_init.2.1 26 = .ok (.aload_n 0, 1) := by decide +kernel
theorem dT_init_27 : decode mT_init.2.1 27 = .ok (.dconst 1, 1) := by decide +kernel
theorem dT_init_28 : decode mT_init.2.1 28 = .ok (.putfield 23, 3) := by decide +kernel
theorem dT_init_31 : decode mT_init.2.1 31 = .ok (.aload_n 0, 1) := by decide +kernel
theorem dT_init_32 : decode mT_init.2.1 32 = .ok (.iconst (-1), 1) := by decide +kernel
theorem dT_init_33 : decode mT_init.2.1 33 = .ok (.putfield 27, 3) := by decide +kernel
theorem dT_init_36 : decode mT_init.2.1 36 = .ok (.aload_n 0, 1) := by decide +kernel
theorem dT_init_37 : decode mT_init.2.1 37 = .ok (.iconst 0, 1) := by decide +kernel
theorem dT_init_38 : decode mT_init.2.1 38 = .ok (.putfield 31, 3) := by decide +kernel
theorem dT_init_41 : decode mT_init.2.1 41 = .ok (.return_, 1) := by decide +kernel
theorem dG_init_0 : decode mG_init.2.1 0 = .ok (.aload_n 0, 1) := by decide +kernel
theorem dG_init_1 : decode mG_init.2.1 1 = .ok (.invokespecial 3, 3) := by decide +kernel
theorem dG_init_4 : decode mG_init.2.1 4 = .ok (.aload_n 0, 1) := by decide +kernel
theorem dG_init_5 : decode mG_init.2.1 5 = .ok (.bipush 14, 2) := by decide +kernel
theorem dG_init_7 : decode mG_init.2.1 7 = .ok (.anewarray 9, 3) := by decide +kernel
theorem dG_init_10 : decode mG_init.2.1 10 = .ok (.putfield 11, 3) := by decide +kernel
theorem dG_init_13 : decode mG_init.2.1 13 = .ok (.aload_n 0, 1) := by decide +kernel
theorem dG_init_14 : decode mG_init.2.1 14 = .ok (.bipush 14, 2) := by decide +kernel
theorem dG_init_16 : decode mG_init.2.1 16 = .ok (.newarray .int, 2) := by decide +kernel
theorem dG_init_18 : decode mG_init.2.1 18 = .ok (.putfield 17, 3) := by decide +kernel
theorem dG_init_21 : decode mG_init.2.1 21 = .ok (.aload_n 0, 1) := by decide +kernel
theorem dG_init_22 : decode mG_init.2.1 22 = .ok (.bipush 14, 2) := by decide +kernel
theorem dG_init_24 : decode mG_init.2.1 24 = .ok (.newarray .int, 2) := by decide +kernel
theorem dG_init_26 : decode mG_init.2.1 26 = .ok (.putfield 21, 3) := by decide +kernel
theorem dG_init_29 : decode mG_init.2.1 29 = .ok (.aload_n 0, 1) := by decide +kernel
theorem dG_init_30 : decode mG_init.2.1 30 = .ok (.bipush 14, 2) := by decide +kernel
theorem dG_init_32 : decode mG_init.2.1 32 = .ok (.newarray .int, 2) := by decide +kernel
theorem dG_init_34 : decode mG_init.2.1 34 = .ok (.putfield 24, 3) := by decide +kernel
theorem dG_init_37 : decode mG_init.2.1 37 = .ok (.aload_n 0, 1) := by decide +kernel
theorem dG_init_38 : decode mG_init.2.1 38 = .ok (.bipush 14, 2) := by decide +kernel
theorem dG_init_40 : decode mG_init.2.1 40 = .ok (.newarray .int, 2) := by decide +kernel
theorem dG_init_42 : decode mG_init.2.1 42 = .ok (.putfield 27, 3) := by decide +kernel
theorem dG_init_45 : decode mG_init.2.1 45 = .ok (.aload_n 0, 1) := by decide +kernel
theorem dG_init_46 : decode mG_init.2.1 46 = .ok (.bipush 14, 2) := by decide +kernel
theorem dG_init_48 : decode mG_init.2.1 48 = .ok (.newarray .int, 2) := by decide +kernel
theorem dG_init_50 : decode mG_init.2.1 50 = .ok (.putfield 30, 3) := by decide +kernel
theorem dG_init_53 : decode mG_init.2.1 53 = .ok (.return_, 1) := by decide +kernel
theorem dM_init_0 : decode mM_init.2.1 0 = .ok (.aload_n 0, 1) := by decide +kernel
theorem dM_init_1 : decode mM_init.2.1 1 = .ok (.invokespecial 3, 3) := by decide +kernel
theorem dM_init_4 : decode mM_init.2.1 4 = .ok (.aload_n 0, 1) := by decide +kernel
theorem dM_init_5 : decode mM_init.2.1 5 = .ok (.sipush 512, 3) := by decide +kernel
theorem dM_init_8 : decode mM_init.2.1 8 = .ok (.newarray .int, 2) := by decide +kernel
theorem dM_init_10 : decode mM_init.2.1 10 = .ok (.putfield 9, 3) := by decide +kernel
theorem dM_init_13 : decode mM_init.2.1 13 = .ok (.aload_n 0, 1) := by decide +kernel
theorem dM_init_14 : decode mM_init.2.1 14 = .ok (.sipush 1792, 3) := by decide +kernel
theorem dM_init_17 : decode mM_init.2.1 17 = .ok (.newarray .int, 2) := by decide +kernel
theorem dM_init_19 : decode mM_init.2.1 19 = .ok (.putfield 15, 3) := by decide +kernel
theorem dM_init_22 : decode mM_init.2.1 22 = .ok (.aload_n 0, 1) := by decide +kernel
theorem dM_init_23 : decode mM_init.2.1 23 = .ok (.new 18, 3) := by decide +kernel
theorem dM_init_26 : decode mM_init.2.1 26 = .ok (.dup, 1) := by decide +kernel
theorem dM_init_27 : decode mM_init.2.1 27 = .ok (.invokespecial 20, 3) := by decide +kernel
theorem dM_init_30 : decode mM_init.2.1 30 = .ok (.putfield 21, 3) := by decide +kernel
theorem dM_init_33 : decode mM_init.2.1 33 = .ok (.aload_n 0, 1) := by decide +kernel
theorem dM_init_34 : decode mM_init.2.1 34 = .ok (.new 25, 3) := by decide +kernel
theorem dM_init_37 : decode mM_init.2.1 37 = .ok (.dup, 1) := by decide +kernel
theorem dM_init_38 : decode mM_init.2.1 38 = .ok (.invokespecial 27, 3) := by decide +kernel
theorem dM_init_41 : decode mM_init.2.1 41 = .ok (.putfield 28, 3) := by decide +kernel
theorem dM_init_44 : decode mM_init.2.1 44 = .ok (.aload_n 0, 1) := by decide +kernel
theorem dM_init_45 : decode mM_init.2.1 45 = .ok (.new 25, 3) := by decide +kernel
theorem dM_init_48 : decode mM_init.2.1 48 = .ok (.dup, 1) := by decide +kernel
theorem dM_init_49 : decode mM_init.2.1 49 = .ok (.invokespecial 27, 3) := by decide +kernel
theorem dM_init_52 : decode mM_init.2.1 52 = .ok (.putfield 32, 3) := by decide +kernel
theorem dM_init_55 : decode mM_init.2.1 55 = .ok (.return_, 1) := by decide +kernel
theorem dW_init_0 : decode mW_init.2.1 0 = .ok (.aload_n 0, 1) := by decide +kernel
theorem dW_init_1 : decode mW_init.2.1 1 = .ok (.invokespecial 1, 3) := by decide +kernel
theorem dW_init_4 : decode mW_init.2.1 4 = .ok (.return_, 1) := by decide +kernel
theorem dS_init_0 : decode mS_init.2.1 0 = .ok (.aload_n 0, 1) := by decide +kernel
theorem dS_init_1 : decode mS_init.2.1 1 = .ok (.invokespecial 1, 3) := by decide +kernel
theorem dS_init_4 : decode mS_init.2.1 4 = .ok (.return_, 1) := by decide +kernel
theorem dL_weights_0 : decode mL_weights.2.1 0 = .ok (.aload 4, 2) := by decide +kernel
theorem dL_weights_2 : decode mL_weights.2.1 2 = .ok (.iconst 0, 1) := by decide +kernel
theorem dL_weights_3 : decode mL_weights.2.1 3 = .ok (.aload_n 0, 1) := by decide +kernel
theorem dL_weights_4 : decode mL_weights.2.1 4 = .ok (.iload_n 1, 1) := by decide +kernel
theorem dL_weights_5 : decode mL_weights.2.1 5 = .ok (.lload_n 2, 1) := by decide +kernel
theorem dL_weights_6 : decode mL_weights.2.1 6 = .ok (.invokevirtual 7, 3) := by decide +kernel
theorem dL_weights_9 : decode mL_weights.2.1 9 = .ok (.i2l, 1) := by decide +kernel
theorem dL_weights_10 : decode mL_weights.2.1 10 = .ok (.lastore, 1) := by decide +kernel
theorem dL_weights_11 : decode mL_weights.2.1 11 = .ok (.goto 7, 3) := by decide +kernel
theorem dL_weights_14 : decode mL_weights.2.1 14 = .ok (.astore 5, 2) := by decide +kernel
theorem dL_weights_16 : decode mL_weights.2.1 16 = .ok (.iconst 1, 1) := by decide +kernel
theorem dL_weights_17 : decode mL_weights.2.1 17 = .ok (.ireturn, 1) := by decide +kernel
theorem dL_weights_18 : decode mL_weights.2.1 18 = .ok (.iconst 0, 1) := by decide +kernel
theorem dL_weights_19 : decode mL_weights.2.1 19 = .ok (.ireturn, 1) := by decide +kernel
theorem dT_weights_0 : decode mT_weights.2.1 0 = .ok (.iload_n 1, 1) := by decide +kernel
theorem dT_weights_1 : decode mT_weights.2.1 1 = .ok (.iconst 0, 1) := by decide +kernel
theorem dT_weights_2 : decode mT_weights.2.1 2 = .ok (.sipush 511, 3) := by decide +kernel
theorem dT_weights_5 : decode mT_weights.2.1 5 = .ok (.invokestatic 35, 3) := by decide +kernel
theorem dT_weights_8 : decode mT_weights.2.1 8 = .ok (.lload_n 2, 1) := by decide +kernel
theorem dT_weights_9 : decode mT_weights.2.1 9 = .ok (.aload_n 0, 1) := by decide +kernel
theorem dT_weights_10 : decode mT_weights.2.1 10 = .ok (.getfield 19, 3) := by decide +kernel
theorem dT_weights_13 : decode mT_weights.2.1 13 = .ok (.getfield 39, 3) := by decide +kernel
theorem dT_weights_16 : decode mT_weights.2.1 16 = .ok (.iload_n 1, 1) := by decide +kernel
theorem dT_weights_17 : decode mT_weights.2.1 17 = .ok (.invokestatic 43, 3) := by decide +kernel
theorem dT_weights_20 : decode mT_weights.2.1 20 = .ok (.ireturn, 1) := by decide +kernel
theorem dT_requireBetween_0 : decode mT_requireBetween.2.1 0 = .ok (.iload_n 0, 1) := by decide +kernel
theorem dT_requireBetween_1 : decode mT_requireBetween.2.1 1 = .ok (.iload_n 1, 1) := by decide +kernel
theorem dT_requireBetween_2 : decode mT_requireBetween.2.1 2 = .ok (.if_icmp .lt 12, 3) := by decide +kernel
theorem dT_requireBetween_5 : decode mT_requireBetween.2.1 5 = .ok (.iload_n 0, 1) := by decide +kernel
theorem dT_requireBetween_6 : decode mT_requireBetween.2.1 6 = .ok (.iload_n 2, 1) := by decide +kernel
theorem dT_requireBetween_7 : decode mT_requireBetween.2.1 7 = .ok (.if_icmp .gt 7, 3) := by decide +kernel
theorem dT_requireBetween_10 : decode mT_requireBetween.2.1 10 = .ok (.iconst 1, 1) := by decide +kernel
theorem dT_requireBetween_11 : decode mT_requireBetween.2.1 11 = .ok (.goto 4, 3) := by decide +kernel
theorem dT_requireBetween_14 : decode mT_requireBetween.2.1 14 = .ok (.iconst 0, 1) := by decide +kernel
theorem dT_requireBetween_15 : decode mT_requireBetween.2.1 15 = .ok (.invokestatic 125, 3) := by decide +kernel
theorem dT_requireBetween_18 : decode mT_requireBetween.2.1 18 = .ok (.return_, 1) := by decide +kernel
theorem dT_require_0 : decode mT_require.2.1 0 = .ok (.iload_n 0, 1) := by decide +kernel
theorem dT_require_1 : decode mT_require.2.1 1 = .ok (.ifCond .ne 13, 3) := by decide +kernel
theorem dT_require_4 : decode mT_require.2.1 4 = .ok (.new 222, 3) := by decide +kernel
theorem dT_require_7 : decode mT_require.2.1 7 = .ok (.dup, 1) := by decide +kernel
theorem dT_require_8 : decode mT_require.2.1 8 = .ok (.ldc 224, 2) := by decide +kernel
theorem dT_require_10 : decode mT_require.2.1 10 = .ok (.invokespecial 226, 3) := by decide +kernel
theorem dT_require_13 : decode mT_require.2.1 13 = .ok (.athrow, 1) := by decide +kernel
theorem dT_require_14 : decode mT_require.2.1 14 = .ok (.return_, 1) := by decide +kernel
theorem dT_spread_0 : decode mT_spread.2.1 0 = .ok (.bipush 8, 2) := by decide +kernel
theorem dT_spread_2 : decode mT_spread.2.1 2 = .ok (.aload_n 2, 1) := by decide +kernel
theorem dT_spread_3 : decode mT_spread.2.1 3 = .ok (.arraylength, 1) := by decide +kernel
theorem dT_spread_4 : decode mT_spread.2.1 4 = .ok (.iload_n 3, 1) := by decide +kernel
theorem dT_spread_5 : decode mT_spread.2.1 5 = .ok (.isub, 1) := by decide +kernel
theorem dT_spread_6 : decode mT_spread.2.1 6 = .ok (.invokestatic 217, 3) := by decide +kernel
theorem dT_spread_9 : decode mT_spread.2.1 9 = .ok (.istore 4, 2) := by decide +kernel
theorem dT_spread_11 : decode mT_spread.2.1 11 = .ok (.iconst 0, 1) := by decide +kernel
theorem dT_spread_12 : decode mT_spread.2.1 12 = .ok (.istore 5, 2) := by decide +kernel
theorem dT_spread_14 : decode mT_spread.2.1 14 = .ok (.iload 5, 2) := by decide +kernel
theorem dT_spread_16 : decode mT_spread.2.1 16 = .ok (.iload 4, 2) := by decide +kernel
theorem dT_spread_18 : decode mT_spread.2.1 18 = .ok (.if_icmp .ge 27, 3) := by decide +kernel
theorem dT_spread_21 : decode mT_spread.2.1 21 = .ok (.aload_n 2, 1) := by decide +kernel
theorem dT_spread_22 : decode mT_spread.2.1 22 = .ok (.iload_n 3, 1) := by decide +kernel
theorem dT_spread_23 : decode mT_spread.2.1 23 = .ok (.iload 5, 2) := by decide +kernel
theorem dT_spread_25 : decode mT_spread.2.1 25 = .ok (.iadd, 1) := by decide +kernel
theorem dT_spread_26 : decode mT_spread.2.1 26 = .ok (.lload_n 0, 1) := by decide +kernel
theorem dT_spread_27 : decode mT_spread.2.1 27 = .ok (.bipush 8, 2) := by decide +kernel
theorem dT_spread_29 : decode mT_spread.2.1 29 = .ok (.bipush 7, 2) := by decide +kernel
theorem dT_spread_31 : decode mT_spread.2.1 31 = .ok (.iload 5, 2) := by decide +kernel
theorem dT_spread_33 : decode mT_spread.2.1 33 = .ok (.isub, 1) := by decide +kernel
theorem dT_spread_34 : decode mT_spread.2.1 34 = .ok (.imul, 1) := by decide +kernel
theorem dT_spread_35 : decode mT_spread.2.1 35 = .ok (.lshr, 1) := by decide +kernel
theorem dT_spread_36 : decode mT_spread.2.1 36 = .ok (.l2i, 1) := by decide +kernel
theorem dT_spread_37 : decode mT_spread.2.1 37 = .ok (.i2b, 1) := by decide +kernel
theorem dT_spread_38 : decode mT_spread.2.1 38 = .ok (.iastore, 1) := by decide +kernel
theorem dT_spread_39 : decode mT_spread.2.1 39 = .ok (.iinc 5 1, 3) := by decide +kernel
theorem dT_spread_42 : decode mT_spread.2.1 42 = .ok (.goto (-28), 3) := by decide +kernel
theorem dT_spread_45 : decode mT_spread.2.1 45 = .ok (.iload 4, 2) := by decide +kernel
theorem dT_spread_47 : decode mT_spread.2.1 47 = .ok (.ireturn, 1) := by decide +kernel
theorem dL_weightScale_0 : decode mL_weightScale.2.1 0 = .ok (.aload_n 0, 1) := by decide +kernel
theorem dL_weightScale_1 : decode mL_weightScale.2.1 1 = .ok (.dload_n 1, 1) := by decide +kernel
theorem dL_weightScale_2 : decode mL_weightScale.2.1 2 = .ok (.invokevirtual 15, 3) := by decide +kernel
theorem dL_weightScale_5 : decode mL_weightScale.2.1 5 = .ok (.goto 6, 3) := by decide +kernel
theorem dL_weightScale_8 : decode mL_weightScale.2.1 8 = .ok (.astore_n 3, 1) := by decide +kernel
theorem dL_weightScale_9 : decode mL_weightScale.2.1 9 = .ok (.iconst 1, 1) := by decide +kernel
theorem dL_weightScale_10 : decode mL_weightScale.2.1 10 = .ok (.ireturn, 1) := by decide +kernel
theorem dL_weightScale_11 : decode mL_weightScale.2.1 11 = .ok (.iconst 0, 1) := by decide +kernel
theorem dL_weightScale_12 : decode mL_weightScale.2.1 12 = .ok (.ireturn, 1) := by decide +kernel
theorem dT_weightScale_0 : decode mT_weightScale.2.1 0 = .ok (.dload_n 1, 1) := by decide +kernel
theorem dT_weightScale_1 : decode mT_weightScale.2.1 1 = .ok (.invokestatic 47, 3) := by decide +kernel
theorem dT_weightScale_4 : decode mT_weightScale.2.1 4 = .ok (.aload_n 0, 1) := by decide +kernel
theorem dT_weightScale_5 : decode mT_weightScale.2.1 5 = .ok (.dload_n 1, 1) := by decide +kernel
theorem dT_weightScale_6 : decode mT_weightScale.2.1 6 = .ok (.putfield 23, 3) := by decide +kernel
theorem dT_weightScale_9 : decode mT_weightScale.2.1 9 = .ok (.return_, 1) := by decide +kernel
theorem dT_requireScale_0 : decode mT_requireScale.2.1 0 = .ok (.dload_n 0, 1) := by decide +kernel
theorem dT_requireScale_1 : decode mT_requireScale.2.1 1 = .ok (.dconst 0, 1) := by decide +kernel
theorem dT_requireScale_2 : decode mT_requireScale.2.1 2 = .ok (.dcmp .l, 1) := by decide +kernel
theorem dT_requireScale_3 : decode mT_requireScale.2.1 3 = .ok (.ifCond .le 15, 3) := by decide +kernel
theorem dT_requireScale_6 : decode mT_requireScale.2.1 6 = .ok (.dload_n 0, 1) := by decide +kernel
theorem dT_requireScale_7 : decode mT_requireScale.2.1 7 = .ok (.ldc2_w 230, 3) := by decide +kernel
theorem dT_requireScale_10 : decode mT_requireScale.2.1 10 = .ok (.dcmp .g, 1) := by decide +kernel
theorem dT_requireScale_11 : decode mT_requireScale.2.1 11 = .ok (.ifCond .gt 7, 3) := by decide +kernel
theorem dT_requireScale_14 : decode mT_requireScale.2.1 14 = .ok (.iconst 1, 1) := by decide +kernel
theorem dT_requireScale_15 : decode mT_requireScale.2.1 15 = .ok (.goto 4, 3) := by decide +kernel
theorem dT_requireScale_18 : decode mT_requireScale.2.1 18 = .ok (.iconst 0, 1) := by decide +kernel
theorem dT_requireScale_19 : decode mT_requireScale.2.1 19 = .ok (.invokestatic 125, 3) := by decide +kernel
theorem dT_requireScale_22 : decode mT_requireScale.2.1 22 = .ok (.return_, 1) := by decide +kernel
theorem dL_input_0 : decode mL_input.2.1 0 = .ok (.aload 6, 2) := by decide +kernel
theorem dL_input_2 : decode mL_input.2.1 2 = .ok (.iconst 0, 1) := by decide +kernel
theorem dL_input_3 : decode mL_input.2.1 3 = .ok (.aload_n 0, 1) := by decide +kernel
theorem dL_input_4 : decode mL_input.2.1 4 = .ok (.iload_n 1, 1) := by decide +kernel
theorem dL_input_5 : decode mL_input.2.1 5 = .ok (.iload_n 2, 1) := by decide +kernel
theorem dL_input_6 : decode mL_input.2.1 6 = .ok (.iload_n 3, 1) := by decide +kernel
theorem dL_input_7 : decode mL_input.2.1 7 = .ok (.dload 4, 2) := by decide +kernel
theorem dL_input_9 : decode mL_input.2.1 9 = .ok (.invokevirtual 19, 3) := by decide +kernel
theorem dL_input_12 : decode mL_input.2.1 12 = .ok (.i2l, 1) := by decide +kernel
theorem dL_input_13 : decode mL_input.2.1 13 = .ok (.lastore, 1) := by decide +kernel
theorem dL_input_14 : decode mL_input.2.1 14 = .ok (.goto 11, 3) := by decide +kernel
theorem dL_input_17 : decode mL_input.2.1 17 = .ok (.astore 7, 2) := by decide +kernel
theorem dL_input_19 : decode mL_input.2.1 19 = .ok (.iconst 1, 1) := by decide +kernel
theorem dL_input_20 : decode mL_input.2.1 20 = .ok (.ireturn, 1) := by decide +kernel
theorem dL_input_21 : decode mL_input.2.1 21 = .ok (.astore 7, 2) := by decide +kernel
theorem dL_input_23 : decode mL_input.2.1 23 = .ok (.iconst 2, 1) := by decide +kernel
theorem dL_input_24 : decode mL_input.2.1 24 = .ok (.ireturn, 1) := by decide +kernel
theorem dL_input_25 : decode mL_input.2.1 25 = .ok (.iconst 0, 1) := by decide +kernel
theorem dL_input_26 : decode mL_input.2.1 26 = .ok (.ireturn, 1) := by decide +kernel
theorem dT_input_0 : decode mT_input.2.1 0 = .ok (.iload_n 1, 1) := by decide +kernel
theorem dT_input_1 : decode mT_input.2.1 1 = .ok (.iload_n 2, 1) := by decide +kernel
theorem dT_input_2 : decode mT_input.2.1 2 = .ok (.iload_n 3, 1) := by decide +kernel
theorem dT_input_3 : decode mT_input.2.1 3 = .ok (.invokestatic 51, 3) := by decide +kernel
theorem dT_input_6 : decode mT_input.2.1 6 = .ok (.dload 4, 2) := by decide +kernel
theorem dT_input_8 : decode mT_input.2.1 8 = .ok (.invokestatic 47, 3) := by decide +kernel
theorem dT_input_11 : decode mT_input.2.1 11 = .ok (.aload_n 0, 1) := by decide +kernel
theorem dT_input_12 : decode mT_input.2.1 12 = .ok (.invokevirtual 54, 3) := by decide +kernel
theorem dT_input_15 : decode mT_input.2.1 15 = .ok (.aload_n 0, 1) := by decide +kernel
theorem dT_input_16 : decode mT_input.2.1 16 = .ok (.new 57, 3) := by decide +kernel
theorem dT_input_19 : decode mT_input.2.1 19 = .ok (.dup, 1) := by decide +kernel
theorem dT_input_20 : decode mT_input.2.1 20 = .ok (.iconst 0, 1) := by decide +kernel
theorem dT_input_21 : decode mT_input.2.1 21 = .ok (.iconst (-1), 1) := by decide +kernel
theorem dT_input_22 : decode mT_input.2.1 22 = .ok (.iconst (-1), 1) := by decide +kernel
theorem dT_input_23 : decode mT_input.2.1 23 = .ok (.iload_n 1, 1) := by decide +kernel
theorem dT_input_24 : decode mT_input.2.1 24 = .ok (.iload_n 2, 1) := by decide +kernel
theorem dT_input_25 : decode mT_input.2.1 25 = .ok (.iload_n 3, 1) := by decide +kernel
theorem dT_input_26 : decode mT_input.2.1 26 = .ok (.dload 4, 2) := by decide +kernel
theorem dT_input_28 : decode mT_input.2.1 28 = .ok (.invokespecial 59, 3) := by decide +kernel
theorem dT_input_31 : decode mT_input.2.1 31 = .ok (.invokevirtual 62, 3) := by decide +kernel
theorem dT_input_34 : decode mT_input.2.1 34 = .ok (.ireturn, 1) := by decide +kernel
theorem dT_requireShape_0 : decode mT_requireShape.2.1 0 = .ok (.iload_n 0, 1) := by decide +kernel
theorem dT_requireShape_1 : decode mT_requireShape.2.1 1 = .ok (.iconst 1, 1) := by decide +kernel
theorem dT_requireShape_2 : decode mT_requireShape.2.1 2 = .ok (.iconst 4, 1) := by decide +kernel
theorem dT_requireShape_3 : decode mT_requireShape.2.1 3 = .ok (.invokestatic 35, 3) := by decide +kernel
theorem dT_requireShape_6 : decode mT_requireShape.2.1 6 = .ok (.iload_n 1, 1) := by decide +kernel
theorem dT_requireShape_7 : decode mT_requireShape.2.1 7 = .ok (.iconst 1, 1) := by decide +kernel
theorem dT_requireShape_8 : decode mT_requireShape.2.1 8 = .ok (.iconst 4, 1) := by decide +kernel
theorem dT_requireShape_9 : decode mT_requireShape.2.1 9 = .ok (.invokestatic 35, 3) := by decide +kernel
theorem dT_requireShape_12 : decode mT_requireShape.2.1 12 = .ok (.iload_n 2, 1) := by decide +kernel
theorem dT_requireShape_13 : decode mT_requireShape.2.1 13 = .ok (.iconst 1, 1) := by decide +kernel
theorem dT_requireShape_14 : decode mT_requireShape.2.1 14 = .ok (.bipush 8, 2) := by decide +kernel
theorem dT_requireShape_16 : decode mT_requireShape.2.1 16 = .ok (.invokestatic 35, 3) := by decide +kernel
theorem dT_requireShape_19 : decode mT_requireShape.2.1 19 = .ok (.return_, 1) := by decide +kernel
theorem dT_requireRoom_0 : decode mT_requireRoom.2.1 0 = .ok (.aload_n 0, 1) := by decide +kernel
theorem dT_requireRoom_1 : decode mT_requireRoom.2.1 1 = .ok (.getfield 12, 3) := by decide +kernel
theorem dT_requireRoom_4 : decode mT_requireRoom.2.1 4 = .ok (.getfield 227, 3) := by decide +kernel
theorem dT_requireRoom_7 : decode mT_requireRoom.2.1 7 = .ok (.bipush 14, 2) := by decide +kernel
theorem dT_requireRoom_9 : decode mT_requireRoom.2.1 9 = .ok (.if_icmp .lt 13, 3) := by decide +kernel
theorem dT_requireRoom_12 : decode mT_requireRoom.2.1 12 = .ok (.new 144, 3) := by decide +kernel
theorem dT_requireRoom_15 : decode mT_requireRoom.2.1 15 = .ok (.dup, 1) := by decide +kernel
theorem dT_requireRoom_16 : decode mT_requireRoom.2.1 16 = .ok (.ldc 247, 2) := by decide +kernel
theorem dT_requireRoom_18 : decode mT_requireRoom.2.1 18 = .ok (.invokespecial 148, 3) := by decide +kernel
theorem dT_requireRoom_21 : decode mT_requireRoom.2.1 21 = .ok (.athrow, 1) := by decide +kernel
theorem dT_requireRoom_22 : decode mT_requireRoom.2.1 22 = .ok (.return_, 1) := by decide +kernel
theorem dN_init_0 : decode mN_init.2.1 0 = .ok (.aload_n 0, 1) := by decide +kernel
theorem dN_init_1 : decode mN_init.2.1 1 = .ok (.invokespecial 3, 3) := by decide +kernel
theorem dN_init_4 : decode mN_init.2.1 4 = .ok (.aload_n 0, 1) := by decide +kernel
theorem dN_init_5 : decode mN_init.2.1 5 = .ok (.iload_n 1, 1) := by decide +kernel
theorem dN_init_6 : decode mN_init.2.1 6 = .ok (.putfield 9, 3) := by decide +kernel
theorem dN_init_9 : decode mN_init.2.1 9 = .ok (.aload_n 0, 1) := by decide +kernel
theorem dN_init_10 : decode mN_init.2.1 10 = .ok (.iload_n 2, 1) := by decide +kernel
theorem dN_init_11 : decode mN_init.2.1 11 = .ok (.putfield 15, 3) := by decide +kernel
theorem dN_init_14 : decode mN_init.2.1 14 = .ok (.aload_n 0, 1) := by decide +kernel
theorem dN_init_15 : decode mN_init.2.1 15 = .ok (.iload_n 3, 1) := by decide +kernel
theorem dN_init_16 : decode mN_init.2.1 16 = .ok (.putfield 18, 3) := by decide +kernel
theorem dN_init_19 : decode mN_init.2.1 19 = .ok (.aload_n 0, 1) := by decide +kernel
theorem dN_init_20 : decode mN_init.2.1 20 = .ok (.iload 4, 2) := by decide +kernel
theorem dN_init_22 : decode mN_init.2.1 22 = .ok (.putfield 21, 3) := by decide +kernel
theorem dN_init_25 : decode mN_init.2.1 25 = .ok (.aload_n 0, 1) := by decide +kernel
theorem dN_init_26 : decode mN_init.2.1 26 = .ok (.iload 5, 2) := by decide +kernel
theorem dN_init_28 : decode mN_init.2.1 28 = .ok (.putfield 24, 3) := by decide +kernel
theorem dN_init_31 : decode mN_init.2.1 31 = .ok (.aload_n 0, 1) := by decide +kernel
theorem dN_init_32 : decode mN_init.2.1 32 = .ok (.iload 6, 2) := by decide +kernel
theorem dN_init_34 : decode mN_init.2.1 34 = .ok (.putfield 27, 3) := by decide +kernel
theorem dN_init_37 : decode mN_init.2.1 37 = .ok (.aload_n 0, 1) := by decide +kernel
theorem dN_init_38 : decode mN_init.2.1 38 = .ok (.dload 7, 2) := by decide +kernel
theorem dN_init_40 : decode mN_init.2.1 40 = .ok (.putfield 30, 3) := by decide +kernel
theorem dN_init_43 : decode mN_init.2.1 43 = .ok (.aload_n 0, 1) := by decide +kernel
theorem dN_init_44 : decode mN_init.2.1 44 = .ok (.iload 4, 2) := by decide +kernel
theorem dN_init_46 : decode mN_init.2.1 46 = .ok (.iload 5, 2) := by decide +kernel
theorem dN_init_48 : decode mN_init.2.1 48 = .ok (.imul, 1) := by decide +kernel
theorem dN_init_49 : decode mN_init.2.1 49 = .ok (.iload 6, 2) := by decide +kernel
theorem dN_init_51 : decode mN_init.2.1 51 = .ok (.imul, 1) := by decide +kernel
theorem dN_init_52 : decode mN_init.2.1 52 = .ok (.putfield 34, 3) := by decide +kernel
theorem dN_init_55 : decode mN_init.2.1 55 = .ok (.aload_n 0, 1) := by decide +kernel
theorem dN_init_56 : decode mN_init.2.1 56 = .ok (.iload_n 1, 1) := by decide +kernel
theorem dN_init_57 : decode mN_init.2.1 57 = .ok (.ifCond .ne 10, 3) := by decide +kernel
theorem dN_init_60 : decode mN_init.2.1 60 = .ok (.aload_n 0, 1) := by decide +kernel
theorem dN_init_61 : decode mN_init.2.1 61 = .ok (.getfield 34, 3) := by decide +kernel
theorem dN_init_64 : decode mN_init.2.1 64 = .ok (.goto 4, 3) := by decide +kernel
theorem dN_init_67 : decode mN_init.2.1 67 = .ok (.iconst 0, 1) := by decide +kernel
theorem dN_init_68 : decode mN_init.2.1 68 = .ok (.newarray .int, 2) := by decide +kernel
theorem dN_init_70 : decode mN_init.2.1 70 = .ok (.putfield 37, 3) := by decide +kernel
theorem dN_init_73 : decode mN_init.2.1 73 = .ok (.return_, 1) := by decide +kernel
theorem dT_keep_0 : decode mT_keep.2.1 0 = .ok (.aload_n 0, 1) := by decide +kernel
theorem dT_keep_1 : decode mT_keep.2.1 1 = .ok (.iconst 0, 1) := by decide +kernel
theorem dT_keep_2 : decode mT_keep.2.1 2 = .ok (.putfield 31, 3) := by decide +kernel
theorem dT_keep_5 : decode mT_keep.2.1 5 = .ok (.aload_n 0, 1) := by decide +kernel
theorem dT_keep_6 : decode mT_keep.2.1 6 = .ok (.getfield 12, 3) := by decide +kernel
theorem dT_keep_9 : decode mT_keep.2.1 9 = .ok (.aload_n 1, 1) := by decide +kernel
theorem dT_keep_10 : decode mT_keep.2.1 10 = .ok (.invokevirtual 214, 3) := by decide +kernel
theorem dT_keep_13 : decode mT_keep.2.1 13 = .ok (.ireturn, 1) := by decide +kernel
theorem dG_append_0 : decode mG_append.2.1 0 = .ok (.aload_n 0, 1) := by decide +kernel
theorem dG_append_1 : decode mG_append.2.1 1 = .ok (.getfield 33, 3) := by decide +kernel
theorem dG_append_4 : decode mG_append.2.1 4 = .ok (.istore_n 2, 1) := by decide +kernel
theorem dG_append_5 : decode mG_append.2.1 5 = .ok (.aload_n 0, 1) := by decide +kernel
theorem dG_append_6 : decode mG_append.2.1 6 = .ok (.getfield 11, 3) := by decide +kernel
theorem dG_append_9 : decode mG_append.2.1 9 = .ok (.iload_n 2, 1) := by decide +kernel
theorem dG_append_10 : decode mG_append.2.1 10 = .ok (.aload_n 1, 1) := by decide +kernel
theorem dG_append_11 : decode mG_append.2.1 11 = .ok (.aastore, 1) := by decide +kernel
theorem dG_append_12 : decode mG_append.2.1 12 = .ok (.aload_n 0, 1) := by decide +kernel
theorem dG_append_13 : decode mG_append.2.1 13 = .ok (.dup, 1) := by decide +kernel
theorem dG_append_14 : decode mG_append.2.1 14 = .ok (.getfield 33, 3) := by decide +kernel
theorem dG_append_17 : decode mG_append.2.1 17 = .ok (.iconst 1, 1) := by decide +kernel
theorem dG_append_18 : decode mG_append.2.1 18 = .ok (.iadd, 1) := by decide +kernel
theorem dG_append_19 : decode mG_append.2.1 19 = .ok (.putfield 33, 3) := by decide +kernel
theorem dG_append_22 : decode mG_append.2.1 22 = .ok (.iload_n 2, 1) := by decide +kernel
theorem dG_append_23 : decode mG_append.2.1 23 = .ok (.ireturn, 1) := by decide +kernel
theorem dL_windows_0 : decode mL_windows.2.1 0 = .ok (.aload 7, 2) := by decide +kernel
theorem dL_windows_2 : decode mL_windows.2.1 2 = .ok (.iconst 0, 1) := by decide +kernel
theorem dL_windows_3 : decode mL_windows.2.1 3 = .ok (.aload_n 0, 1) := by decide +kernel
theorem dL_windows_4 : decode mL_windows.2.1 4 = .ok (.iload_n 1, 1) := by decide +kernel
theorem dL_windows_5 : decode mL_windows.2.1 5 = .ok (.iload_n 2, 1) := by decide +kernel
theorem dL_windows_6 : decode mL_windows.2.1 6 = .ok (.iload_n 3, 1) := by decide +kernel
theorem dL_windows_7 : decode mL_windows.2.1 7 = .ok (.iload 4, 2) := by decide +kernel
theorem dL_windows_9 : decode mL_windows.2.1 9 = .ok (.dload 5, 2) := by decide +kernel
theorem dL_windows_11 : decode mL_windows.2.1 11 = .ok (.invokevirtual 25, 3) := by decide +kernel
theorem dL_windows_14 : decode mL_windows.2.1 14 = .ok (.i2l, 1) := by decide +kernel
theorem dL_windows_15 : decode mL_windows.2.1 15 = .ok (.lastore, 1) := by decide +kernel
theorem dL_windows_16 : decode mL_windows.2.1 16 = .ok (.goto 15, 3) := by decide +kernel
theorem dL_windows_19 : decode mL_windows.2.1 19 = .ok (.astore 8, 2) := by decide +kernel
theorem dL_windows_21 : decode mL_windows.2.1 21 = .ok (.iconst 1, 1) := by decide +kernel
theorem dL_windows_22 : decode mL_windows.2.1 22 = .ok (.ireturn, 1) := by decide +kernel
theorem dL_windows_23 : decode mL_windows.2.1 23 = .ok (.astore 8, 2) := by decide +kernel
theorem dL_windows_25 : decode mL_windows.2.1 25 = .ok (.iconst 2, 1) := by decide +kernel
theorem dL_windows_26 : decode mL_windows.2.1 26 = .ok (.ireturn, 1) := by decide +kernel
theorem dL_windows_27 : decode mL_windows.2.1 27 = .ok (.astore 8, 2) := by decide +kernel
theorem dL_windows_29 : decode mL_windows.2.1 29 = .ok (.iconst 3, 1) := by decide +kernel
theorem dL_windows_30 : decode mL_windows.2.1 30 = .ok (.ireturn, 1) := by decide +kernel
theorem dL_windows_31 : decode mL_windows.2.1 31 = .ok (.iconst 0, 1) := by decide +kernel
theorem dL_windows_32 : decode mL_windows.2.1 32 = .ok (.ireturn, 1) := by decide +kernel
theorem dT_windows_0 : decode mT_windows.2.1 0 = .ok (.aload_n 0, 1) := by decide +kernel
theorem dT_windows_1 : decode mT_windows.2.1 1 = .ok (.iload_n 1, 1) := by decide +kernel
theorem dT_windows_2 : decode mT_windows.2.1 2 = .ok (.invokevirtual 66, 3) := by decide +kernel
theorem dT_windows_5 : decode mT_windows.2.1 5 = .ok (.iload_n 2, 1) := by decide +kernel
theorem dT_windows_6 : decode mT_windows.2.1 6 = .ok (.iload_n 3, 1) := by decide +kernel
theorem dT_windows_7 : decode mT_windows.2.1 7 = .ok (.invokestatic 70, 3) := by decide +kernel
theorem dT_windows_10 : decode mT_windows.2.1 10 = .ok (.dload 5, 2) := by decide +kernel
theorem dT_windows_12 : decode mT_windows.2.1 12 = .ok (.invokestatic 47, 3) := by decide +kernel
theorem dT_windows_15 : decode mT_windows.2.1 15 = .ok (.aload_n 0, 1) := by decide +kernel
theorem dT_windows_16 : decode mT_windows.2.1 16 = .ok (.getfield 12, 3) := by decide +kernel
theorem dT_windows_19 : decode mT_windows.2.1 19 = .ok (.getfield 74, 3) := by decide +kernel
theorem dT_windows_22 : decode mT_windows.2.1 22 = .ok (.iload_n 1, 1) := by decide +kernel
theorem dT_windows_23 : decode mT_windows.2.1 23 = .ok (.aaload, 1) := by decide +kernel
theorem dT_windows_24 : decode mT_windows.2.1 24 = .ok (.astore 7, 2) := by decide +kernel
theorem dT_windows_26 : decode mT_windows.2.1 26 = .ok (.iload_n 2, 1) := by decide +kernel
theorem dT_windows_27 : decode mT_windows.2.1 27 = .ok (.bipush 12, 2) := by decide +kernel
theorem dT_windows_29 : decode mT_windows.2.1 29 = .ok (.irem, 1) := by decide +kernel
theorem dT_windows_30 : decode mT_windows.2.1 30 = .ok (.istore 8, 2) := by decide +kernel
theorem dT_windows_32 : decode mT_windows.2.1 32 = .ok (.aload 7, 2) := by decide +kernel
theorem dT_windows_34 : decode mT_windows.2.1 34 = .ok (.iload 8, 2) := by decide +kernel
theorem dT_windows_36 : decode mT_windows.2.1 36 = .ok (.invokestatic 78, 3) := by decide +kernel
theorem dT_windows_39 : decode mT_windows.2.1 39 = .ok (.iload 8, 2) := by decide +kernel
theorem dT_windows_41 : decode mT_windows.2.1 41 = .ok (.invokestatic 82, 3) := by decide +kernel
theorem dT_windows_44 : decode mT_windows.2.1 44 = .ok (.istore 9, 2) := by decide +kernel
theorem dT_windows_46 : decode mT_windows.2.1 46 = .ok (.iload_n 3, 1) := by decide +kernel
theorem dT_windows_47 : decode mT_windows.2.1 47 = .ok (.ifCond .eq 11, 3) := by decide +kernel
theorem dT_windows_50 : decode mT_windows.2.1 50 = .ok (.aload 7, 2) := by decide +kernel
theorem dT_windows_52 : decode mT_windows.2.1 52 = .ok (.getfield 88, 3) := by decide +kernel
theorem dT_windows_55 : decode mT_windows.2.1 55 = .ok (.goto 7, 3) := by decide +kernel
theorem dT_windows_58 : decode mT_windows.2.1 58 = .ok (.iload_n 2, 1) := by decide +kernel
theorem dT_windows_59 : decode mT_windows.2.1 59 = .ok (.bipush 12, 2) := by decide +kernel
theorem dT_windows_61 : decode mT_windows.2.1 61 = .ok (.idiv, 1) := by decide +kernel
theorem dT_windows_62 : decode mT_windows.2.1 62 = .ok (.istore 10, 2) := by decide +kernel
theorem dT_windows_64 : decode mT_windows.2.1 64 = .ok (.iload 9, 2) := by decide +kernel
theorem dT_windows_66 : decode mT_windows.2.1 66 = .ok (.iload 9, 2) := by decide +kernel
theorem dT_windows_68 : decode mT_windows.2.1 68 = .ok (.imul, 1) := by decide +kernel
theorem dT_windows_69 : decode mT_windows.2.1 69 = .ok (.iload_n 3, 1) := by decide +kernel
theorem dT_windows_70 : decode mT_windows.2.1 70 = .ok (.ifCond .eq 7, 3) := by decide +kernel
theorem dT_windows_73 : decode mT_windows.2.1 73 = .ok (.iconst 1, 1) := by decide +kernel
theorem dT_windows_74 : decode mT_windows.2.1 74 = .ok (.goto 8, 3) := by decide +kernel
theorem dT_windows_77 : decode mT_windows.2.1 77 = .ok (.aload 7, 2) := by decide +kernel
theorem dT_windows_79 : decode mT_windows.2.1 79 = .ok (.getfield 88, 3) := by decide +kernel
theorem dT_windows_82 : decode mT_windows.2.1 82 = .ok (.imul, 1) := by decide +kernel
theorem dT_windows_83 : decode mT_windows.2.1 83 = .ok (.istore 11, 2) := by decide +kernel
theorem dT_windows_85 : decode mT_windows.2.1 85 = .ok (.iload 4, 2) := by decide +kernel
theorem dT_windows_87 : decode mT_windows.2.1 87 = .ok (.iload 10, 2) := by decide +kernel
theorem dT_windows_89 : decode mT_windows.2.1 89 = .ok (.iload 11, 2) := by decide +kernel
theorem dT_windows_91 : decode mT_windows.2.1 91 = .ok (.invokestatic 91, 3) := by decide +kernel
theorem dT_windows_94 : decode mT_windows.2.1 94 = .ok (.aload_n 0, 1) := by decide +kernel
theorem dT_windows_95 : decode mT_windows.2.1 95 = .ok (.aload 7, 2) := by decide +kernel
theorem dT_windows_97 : decode mT_windows.2.1 97 = .ok (.dload 5, 2) := by decide +kernel
theorem dT_windows_99 : decode mT_windows.2.1 99 = .ok (.invokevirtual 94, 3) := by decide +kernel
theorem dT_windows_102 : decode mT_windows.2.1 102 = .ok (.dstore 12, 2) := by decide +kernel
theorem dT_windows_104 : decode mT_windows.2.1 104 = .ok (.dload 12, 2) := by decide +kernel
theorem dT_windows_106 : decode mT_windows.2.1 106 = .ok (.invokestatic 98, 3) := by decide +kernel
theorem dT_windows_109 : decode mT_windows.2.1 109 = .ok (.aload_n 0, 1) := by decide +kernel
theorem dT_windows_110 : decode mT_windows.2.1 110 = .ok (.invokevirtual 54, 3) := by decide +kernel
theorem dT_windows_113 : decode mT_windows.2.1 113 = .ok (.iload 8, 2) := by decide +kernel
theorem dT_windows_115 : decode mT_windows.2.1 115 = .ok (.aload 7, 2) := by decide +kernel
theorem dT_windows_117 : decode mT_windows.2.1 117 = .ok (.getfield 101, 3) := by decide +kernel
theorem dT_windows_120 : decode mT_windows.2.1 120 = .ok (.invokestatic 104, 3) := by decide +kernel
theorem dT_windows_123 : decode mT_windows.2.1 123 = .ok (.istore 14, 2) := by decide +kernel
theorem dT_windows_125 : decode mT_windows.2.1 125 = .ok (.iload 8, 2) := by decide +kernel
theorem dT_windows_127 : decode mT_windows.2.1 127 = .ok (.aload 7, 2) := by decide +kernel
theorem dT_windows_129 : decode mT_windows.2.1 129 = .ok (.getfield 108, 3) := by decide +kernel
theorem dT_windows_132 : decode mT_windows.2.1 132 = .ok (.invokestatic 104, 3) := by decide +kernel
theorem dT_windows_135 : decode mT_windows.2.1 135 = .ok (.istore 15, 2) := by decide +kernel
theorem dT_windows_137 : decode mT_windows.2.1 137 = .ok (.new 57, 3) := by decide +kernel
theorem dT_windows_140 : decode mT_windows.2.1 140 = .ok (.dup, 1) := by decide +kernel
theorem dT_windows_141 : decode mT_windows.2.1 141 = .ok (.iload_n 3, 1) := by decide +kernel
theorem dT_windows_142 : decode mT_windows.2.1 142 = .ok (.ifCond .eq 7, 3) := by decide +kernel
theorem dT_windows_145 : decode mT_windows.2.1 145 = .ok (.iconst 2, 1) := by decide +kernel
theorem dT_windows_146 : decode mT_windows.2.1 146 = .ok (.goto 4, 3) := by decide +kernel
theorem dT_windows_149 : decode mT_windows.2.1 149 = .ok (.iconst 1, 1) := by decide +kernel
theorem dT_windows_150 : decode mT_windows.2.1 150 = .ok (.iload_n 1, 1) := by decide +kernel
theorem dT_windows_151 : decode mT_windows.2.1 151 = .ok (.iconst (-1), 1) := by decide +kernel
theorem dT_windows_152 : decode mT_windows.2.1 152 = .ok (.iload 14, 2) := by decide +kernel
theorem dT_windows_154 : decode mT_windows.2.1 154 = .ok (.iload 15, 2) := by decide +kernel
theorem dT_windows_156 : decode mT_windows.2.1 156 = .ok (.iload 10, 2) := by decide +kernel
theorem dT_windows_158 : decode mT_windows.2.1 158 = .ok (.dload 5, 2) := by decide +kernel
theorem dT_windows_160 : decode mT_windows.2.1 160 = .ok (.invokespecial 59, 3) := by decide +kernel
theorem dT_windows_163 : decode mT_windows.2.1 163 = .ok (.astore 16, 2) := by decide +kernel
theorem dT_windows_165 : decode mT_windows.2.1 165 = .ok (.aload 16, 2) := by decide +kernel
theorem dT_windows_167 : decode mT_windows.2.1 167 = .ok (.iload 8, 2) := by decide +kernel
theorem dT_windows_169 : decode mT_windows.2.1 169 = .ok (.putfield 111, 3) := by decide +kernel
theorem dT_windows_172 : decode mT_windows.2.1 172 = .ok (.aload 16, 2) := by decide +kernel
theorem dT_windows_174 : decode mT_windows.2.1 174 = .ok (.iload 4, 2) := by decide +kernel
theorem dT_windows_176 : decode mT_windows.2.1 176 = .ok (.aload_n 0, 1) := by decide +kernel
theorem dT_windows_177 : decode mT_windows.2.1 177 = .ok (.getfield 23, 3) := by decide +kernel
theorem dT_windows_180 : decode mT_windows.2.1 180 = .ok (.dload 12, 2) := by decide +kernel
theorem dT_windows_182 : decode mT_windows.2.1 182 = .ok (.invokevirtual 114, 3) := by decide +kernel
theorem dT_windows_185 : decode mT_windows.2.1 185 = .ok (.aload_n 0, 1) := by decide +kernel
theorem dT_windows_186 : decode mT_windows.2.1 186 = .ok (.aload 16, 2) := by decide +kernel
theorem dT_windows_188 : decode mT_windows.2.1 188 = .ok (.invokevirtual 62, 3) := by decide +kernel
theorem dT_windows_191 : decode mT_windows.2.1 191 = .ok (.ireturn, 1) := by decide +kernel
theorem dT_requireNode_0 : decode mT_requireNode.2.1 0 = .ok (.iload_n 1, 1) := by decide +kernel
theorem dT_requireNode_1 : decode mT_requireNode.2.1 1 = .ok (.iconst 0, 1) := by decide +kernel
theorem dT_requireNode_2 : decode mT_requireNode.2.1 2 = .ok (.aload_n 0, 1) := by decide +kernel
theorem dT_requireNode_3 : decode mT_requireNode.2.1 3 = .ok (.getfield 12, 3) := by decide +kernel
theorem dT_requireNode_6 : decode mT_requireNode.2.1 6 = .ok (.getfield 227, 3) := by decide +kernel
theorem dT_requireNode_9 : decode mT_requireNode.2.1 9 = .ok (.iconst 1, 1) := by decide +kernel
theorem dT_requireNode_10 : decode mT_requireNode.2.1 10 = .ok (.isub, 1) := by decide +kernel
theorem dT_requireNode_11 : decode mT_requireNode.2.1 11 = .ok (.invokestatic 35, 3) := by decide +kernel
theorem dT_requireNode_14 : decode mT_requireNode.2.1 14 = .ok (.return_, 1) := by decide +kernel
theorem dT_requireWindowsCode_0 : decode mT_requireWindowsCode.2.1 0 = .ok (.iload_n 1, 1) := by decide +kernel
theorem dT_requireWindowsCode_1 : decode mT_requireWindowsCode.2.1 1 = .ok (.ifCond .eq 7, 3) := by decide +kernel
theorem dT_requireWindowsCode_4 : decode mT_requireWindowsCode.2.1 4 = .ok (.iconst 0, 1) := by decide +kernel
theorem dT_requireWindowsCode_5 : decode mT_requireWindowsCode.2.1 5 = .ok (.goto 5, 3) := by decide +kernel
theorem dT_requireWindowsCode_8 : decode mT_requireWindowsCode.2.1 8 = .ok (.bipush 12, 2) := by decide +kernel
theorem dT_requireWindowsCode_10 : decode mT_requireWindowsCode.2.1 10 = .ok (.istore_n 2, 1) := by decide +kernel
theorem dT_requireWindowsCode_11 : decode mT_requireWindowsCode.2.1 11 = .ok (.iload_n 1, 1) := by decide +kernel
theorem dT_requireWindowsCode_12 : decode mT_requireWindowsCode.2.1 12 = .ok (.ifCond .eq 8, 3) := by decide +kernel
theorem dT_requireWindowsCode_15 : decode mT_requireWindowsCode.2.1 15 = .ok (.bipush 11, 2) := by decide +kernel
theorem dT_requireWindowsCode_17 : decode mT_requireWindowsCode.2.1 17 = .ok (.goto 5, 3) := by decide +kernel
theorem dT_requireWindowsCode_20 : decode mT_requireWindowsCode.2.1 20 = .ok (.bipush 107, 2) := by decide +kernel
theorem dT_requireWindowsCode_22 : decode mT_requireWindowsCode.2.1 22 = .ok (.istore_n 3, 1) := by decide +kernel
theorem dT_requireWindowsCode_23 : decode mT_requireWindowsCode.2.1 23 = .ok (.iload_n 0, 1) := by decide +kernel
theorem dT_requireWindowsCode_24 : decode mT_requireWindowsCode.2.1 24 = .ok (.iload_n 2, 1) := by decide +kernel
theorem dT_requireWindowsCode_25 : decode mT_requireWindowsCode.2.1 25 = .ok (.iload_n 3, 1) := by decide +kernel
theorem dT_requireWindowsCode_26 : decode mT_requireWindowsCode.2.1 26 = .ok (.invokestatic 35, 3) := by decide +kernel
theorem dT_requireWindowsCode_29 : decode mT_requireWindowsCode.2.1 29 = .ok (.return_, 1) := by decide +kernel
theorem dT_requireWindowFits_0 : decode mT_requireWindowFits.2.1 0 = .ok (.iload_n 1, 1) := by decide +kernel
theorem dT_requireWindowFits_1 : decode mT_requireWindowFits.2.1 1 = .ok (.aload_n 0, 1) := by decide +kernel
theorem dT_requireWindowFits_2 : decode mT_requireWindowFits.2.1 2 = .ok (.getfield 101, 3) := by decide +kernel
theorem dT_requireWindowFits_5 : decode mT_requireWindowFits.2.1 5 = .ok (.invokestatic 232, 3) := by decide +kernel
theorem dT_requireWindowFits_8 : decode mT_requireWindowFits.2.1 8 = .ok (.ifCond .eq 18, 3) := by decide +kernel
theorem dT_requireWindowFits_11 : decode mT_requireWindowFits.2.1 11 = .ok (.iload_n 1, 1) := by decide +kernel
theorem dT_requireWindowFits_12 : decode mT_requireWindowFits.2.1 12 = .ok (.aload_n 0, 1) := by decide +kernel
theorem dT_requireWindowFits_13 : decode mT_requireWindowFits.2.1 13 = .ok (.getfield 108, 3) := by decide +kernel
theorem dT_requireWindowFits_16 : decode mT_requireWindowFits.2.1 16 = .ok (.invokestatic 232, 3) := by decide +kernel
theorem dT_requireWindowFits_19 : decode mT_requireWindowFits.2.1 19 = .ok (.ifCond .eq 7, 3) := by decide +kernel
theorem dT_requireWindowFits_22 : decode mT_requireWindowFits.2.1 22 = .ok (.iconst 1, 1) := by decide +kernel
theorem dT_requireWindowFits_23 : decode mT_requireWindowFits.2.1 23 = .ok (.goto 4, 3) := by decide +kernel
theorem dT_requireWindowFits_26 : decode mT_requireWindowFits.2.1 26 = .ok (.iconst 0, 1) := by decide +kernel
theorem dT_requireWindowFits_27 : decode mT_requireWindowFits.2.1 27 = .ok (.invokestatic 125, 3) := by decide +kernel
theorem dT_requireWindowFits_30 : decode mT_requireWindowFits.2.1 30 = .ok (.return_, 1) := by decide +kernel
theorem dW_fits_0 : decode mW_fits.2.1 0 = .ok (.iload_n 0, 1) := by decide +kernel
theorem dW_fits_1 : decode mW_fits.2.1 1 = .ok (.invokestatic 7, 3) := by decide +kernel
theorem dW_fits_4 : decode mW_fits.2.1 4 = .ok (.ifCond .ne 11, 3) := by decide +kernel
theorem dW_fits_7 : decode mW_fits.2.1 7 = .ok (.iload_n 1, 1) := by decide +kernel
theorem dW_fits_8 : decode mW_fits.2.1 8 = .ok (.iload_n 0, 1) := by decide +kernel
theorem dW_fits_9 : decode mW_fits.2.1 9 = .ok (.invokestatic 13, 3) := by decide +kernel
theorem dW_fits_12 : decode mW_fits.2.1 12 = .ok (.if_icmp .lt 7, 3) := by decide +kernel
theorem dW_fits_15 : decode mW_fits.2.1 15 = .ok (.iconst 1, 1) := by decide +kernel
theorem dW_fits_16 : decode mW_fits.2.1 16 = .ok (.goto 4, 3) := by decide +kernel
theorem dW_fits_19 : decode mW_fits.2.1 19 = .ok (.iconst 0, 1) := by decide +kernel
theorem dW_fits_20 : decode mW_fits.2.1 20 = .ok (.ireturn, 1) := by decide +kernel
theorem dW_isSame_0 : decode mW_isSame.2.1 0 = .ok (.iload_n 0, 1) := by decide +kernel
theorem dW_isSame_1 : decode mW_isSame.2.1 1 = .ok (.bipush 6, 2) := by decide +kernel
theorem dW_isSame_3 : decode mW_isSame.2.1 3 = .ok (.if_icmp .lt 7, 3) := by decide +kernel
theorem dW_isSame_6 : decode mW_isSame.2.1 6 = .ok (.iconst 1, 1) := by decide +kernel
theorem dW_isSame_7 : decode mW_isSame.2.1 7 = .ok (.goto 4, 3) := by decide +kernel
theorem dW_isSame_10 : decode mW_isSame.2.1 10 = .ok (.iconst 0, 1) := by decide +kernel
theorem dW_isSame_11 : decode mW_isSame.2.1 11 = .ok (.ireturn, 1) := by decide +kernel
theorem dW_sizeOf_0 : decode mW_sizeOf.2.1 0 = .ok (.iconst 1, 1) := by decide +kernel
theorem dW_sizeOf_1 : decode mW_sizeOf.2.1 1 = .ok (.iload_n 0, 1) := by decide +kernel
theorem dW_sizeOf_2 : decode mW_sizeOf.2.1 2 = .ok (.iconst 3, 1) := by decide +kernel
theorem dW_sizeOf_3 : decode mW_sizeOf.2.1 3 = .ok (.irem, 1) := by decide +kernel
theorem dW_sizeOf_4 : decode mW_sizeOf.2.1 4 = .ok (.iadd, 1) := by decide +kernel
theorem dW_sizeOf_5 : decode mW_sizeOf.2.1 5 = .ok (.ireturn, 1) := by decide +kernel
theorem dT_requireWeights_0 : decode mT_requireWeights.2.1 0 = .ok (.iload_n 1, 1) := by decide +kernel
theorem dT_requireWeights_1 : decode mT_requireWeights.2.1 1 = .ok (.istore_n 3, 1) := by decide +kernel
theorem dT_requireWeights_2 : decode mT_requireWeights.2.1 2 = .ok (.iload_n 0, 1) := by decide +kernel
theorem dT_requireWeights_3 : decode mT_requireWeights.2.1 3 = .ok (.iconst 0, 1) := by decide +kernel
theorem dT_requireWeights_4 : decode mT_requireWeights.2.1 4 = .ok (.sipush 512, 3) := by decide +kernel
theorem dT_requireWeights_7 : decode mT_requireWeights.2.1 7 = .ok (.iload_n 1, 1) := by decide +kernel
theorem dT_requireWeights_8 : decode mT_requireWeights.2.1 8 = .ok (.iload_n 2, 1) := by decide +kernel
theorem dT_requireWeights_9 : decode mT_requireWeights.2.1 9 = .ok (.imul, 1) := by decide +kernel
theorem dT_requireWeights_10 : decode mT_requireWeights.2.1 10 = .ok (.isub, 1) := by decide +kernel
theorem dT_requireWeights_11 : decode mT_requireWeights.2.1 11 = .ok (.iload_n 3, 1) := by decide +kernel
theorem dT_requireWeights_12 : decode mT_requireWeights.2.1 12 = .ok (.isub, 1) := by decide +kernel
theorem dT_requireWeights_13 : decode mT_requireWeights.2.1 13 = .ok (.invokestatic 35, 3) := by decide +kernel
theorem dT_requireWeights_16 : decode mT_requireWeights.2.1 16 = .ok (.return_, 1) := by decide +kernel
theorem dT_weightedRatio_0 : decode mT_weightedRatio.2.1 0 = .ok (.aload_n 1, 1) := by decide +kernel
theorem dT_weightedRatio_1 : decode mT_weightedRatio.2.1 1 = .ok (.getfield 129, 3) := by decide +kernel
theorem dT_weightedRatio_4 : decode mT_weightedRatio.2.1 4 = .ok (.aload_n 0, 1) := by decide +kernel
theorem dT_weightedRatio_5 : decode mT_weightedRatio.2.1 5 = .ok (.getfield 23, 3) := by decide +kernel
theorem dT_weightedRatio_8 : decode mT_weightedRatio.2.1 8 = .ok (.dmul, 1) := by decide +kernel
theorem dT_weightedRatio_9 : decode mT_weightedRatio.2.1 9 = .ok (.dload_n 2, 1) := by decide +kernel
theorem dT_weightedRatio_10 : decode mT_weightedRatio.2.1 10 = .ok (.ddiv, 1) := by decide +kernel
theorem dT_weightedRatio_11 : decode mT_weightedRatio.2.1 11 = .ok (.dreturn, 1) := by decide +kernel
theorem dT_requireGood_0 : decode mT_requireGood.2.1 0 = .ok (.dload_n 0, 1) := by decide +kernel
theorem dT_requireGood_1 : decode mT_requireGood.2.1 1 = .ok (.invokestatic 236, 3) := by decide +kernel
theorem dT_requireGood_4 : decode mT_requireGood.2.1 4 = .ok (.ifCond .ne 13, 3) := by decide +kernel
theorem dT_requireGood_7 : decode mT_requireGood.2.1 7 = .ok (.new 242, 3) := by decide +kernel
theorem dT_requireGood_10 : decode mT_requireGood.2.1 10 = .ok (.dup, 1) := by decide +kernel
theorem dT_requireGood_11 : decode mT_requireGood.2.1 11 = .ok (.ldc 244, 2) := by decide +kernel
theorem dT_requireGood_13 : decode mT_requireGood.2.1 13 = .ok (.invokespecial 246, 3) := by decide +kernel
theorem dT_requireGood_16 : decode mT_requireGood.2.1 16 = .ok (.athrow, 1) := by decide +kernel
theorem dT_requireGood_17 : decode mT_requireGood.2.1 17 = .ok (.return_, 1) := by decide +kernel
theorem dS_isGood_0 : decode mS_isGood.2.1 0 = .ok (.dload_n 0, 1) := by decide +kernel
theorem dS_isGood_1 : decode mS_isGood.2.1 1 = .ok (.ldc2_w 7, 3) := by decide +kernel
theorem dS_isGood_4 : decode mS_isGood.2.1 4 = .ok (.dcmp .l, 1) := by decide +kernel
theorem dS_isGood_5 : decode mS_isGood.2.1 5 = .ok (.ifCond .le 15, 3) := by decide +kernel
theorem dS_isGood_8 : decode mS_isGood.2.1 8 = .ok (.dload_n 0, 1) := by decide +kernel
theorem dS_isGood_9 : decode mS_isGood.2.1 9 = .ok (.ldc2_w 9, 3) := by decide +kernel
theorem dS_isGood_12 : decode mS_isGood.2.1 12 = .ok (.dcmp .g, 1) := by decide +kernel
theorem dS_isGood_13 : decode mS_isGood.2.1 13 = .ok (.ifCond .ge 7, 3) := by decide +kernel
theorem dS_isGood_16 : decode mS_isGood.2.1 16 = .ok (.iconst 1, 1) := by decide +kernel
theorem dS_isGood_17 : decode mS_isGood.2.1 17 = .ok (.goto 4, 3) := by decide +kernel
theorem dS_isGood_20 : decode mS_isGood.2.1 20 = .ok (.iconst 0, 1) := by decide +kernel
theorem dS_isGood_21 : decode mS_isGood.2.1 21 = .ok (.ireturn, 1) := by decide +kernel
theorem dW_placesOf_0 : decode mW_placesOf.2.1 0 = .ok (.iload_n 0, 1) := by decide +kernel
theorem dW_placesOf_1 : decode mW_placesOf.2.1 1 = .ok (.invokestatic 7, 3) := by decide +kernel
theorem dW_placesOf_4 : decode mW_placesOf.2.1 4 = .ok (.ifCond .eq 9, 3) := by decide +kernel
theorem dW_placesOf_7 : decode mW_placesOf.2.1 7 = .ok (.iload_n 1, 1) := by decide +kernel
theorem dW_placesOf_8 : decode mW_placesOf.2.1 8 = .ok (.iconst 1, 1) := by decide +kernel
theorem dW_placesOf_9 : decode mW_placesOf.2.1 9 = .ok (.isub, 1) := by decide +kernel
theorem dW_placesOf_10 : decode mW_placesOf.2.1 10 = .ok (.goto 9, 3) := by decide +kernel
theorem dW_placesOf_13 : decode mW_placesOf.2.1 13 = .ok (.iload_n 1, 1) := by decide +kernel
theorem dW_placesOf_14 : decode mW_placesOf.2.1 14 = .ok (.iload_n 0, 1) := by decide +kernel
theorem dW_placesOf_15 : decode mW_placesOf.2.1 15 = .ok (.invokestatic 13, 3) := by decide +kernel
theorem dW_placesOf_18 : decode mW_placesOf.2.1 18 = .ok (.isub, 1) := by decide +kernel
theorem dW_placesOf_19 : decode mW_placesOf.2.1 19 = .ok (.istore_n 2, 1) := by decide +kernel
theorem dW_placesOf_20 : decode mW_placesOf.2.1 20 = .ok (.iconst 1, 1) := by decide +kernel
theorem dW_placesOf_21 : decode mW_placesOf.2.1 21 = .ok (.iload_n 0, 1) := by decide +kernel
theorem dW_placesOf_22 : decode mW_placesOf.2.1 22 = .ok (.invokestatic 17, 3) := by decide +kernel
theorem dW_placesOf_25 : decode mW_placesOf.2.1 25 = .ok (.iconst 2, 1) := by decide +kernel
theorem dW_placesOf_26 : decode mW_placesOf.2.1 26 = .ok (.if_icmp .ne 9, 3) := by decide +kernel
theorem dW_placesOf_29 : decode mW_placesOf.2.1 29 = .ok (.iload_n 2, 1) := by decide +kernel
theorem dW_placesOf_30 : decode mW_placesOf.2.1 30 = .ok (.iconst 2, 1) := by decide +kernel
theorem dW_placesOf_31 : decode mW_placesOf.2.1 31 = .ok (.idiv, 1) := by decide +kernel
theorem dW_placesOf_32 : decode mW_placesOf.2.1 32 = .ok (.goto 4, 3) := by decide +kernel
theorem dW_placesOf_35 : decode mW_placesOf.2.1 35 = .ok (.iload_n 2, 1) := by decide +kernel
theorem dW_placesOf_36 : decode mW_placesOf.2.1 36 = .ok (.iadd, 1) := by decide +kernel
theorem dW_placesOf_37 : decode mW_placesOf.2.1 37 = .ok (.ireturn, 1) := by decide +kernel
theorem dW_stepOf_0 : decode mW_stepOf.2.1 0 = .ok (.iconst 1, 1) := by decide +kernel
theorem dW_stepOf_1 : decode mW_stepOf.2.1 1 = .ok (.iload_n 0, 1) := by decide +kernel
theorem dW_stepOf_2 : decode mW_stepOf.2.1 2 = .ok (.iconst 3, 1) := by decide +kernel
theorem dW_stepOf_3 : decode mW_stepOf.2.1 3 = .ok (.idiv, 1) := by decide +kernel
theorem dW_stepOf_4 : decode mW_stepOf.2.1 4 = .ok (.iconst 2, 1) := by decide +kernel
theorem dW_stepOf_5 : decode mW_stepOf.2.1 5 = .ok (.irem, 1) := by decide +kernel
theorem dW_stepOf_6 : decode mW_stepOf.2.1 6 = .ok (.iadd, 1) := by decide +kernel
theorem dW_stepOf_7 : decode mW_stepOf.2.1 7 = .ok (.ireturn, 1) := by decide +kernel
theorem dN_weigh_0 : decode mN_weigh.2.1 0 = .ok (.aload_n 0, 1) := by decide +kernel
theorem dN_weigh_1 : decode mN_weigh.2.1 1 = .ok (.iload_n 1, 1) := by decide +kernel
theorem dN_weigh_2 : decode mN_weigh.2.1 2 = .ok (.putfield 41, 3) := by decide +kernel
theorem dN_weigh_5 : decode mN_weigh.2.1 5 = .ok (.aload_n 0, 1) := by decide +kernel
theorem dN_weigh_6 : decode mN_weigh.2.1 6 = .ok (.dload_n 2, 1) := by decide +kernel
theorem dN_weigh_7 : decode mN_weigh.2.1 7 = .ok (.putfield 44, 3) := by decide +kernel
theorem dN_weigh_10 : decode mN_weigh.2.1 10 = .ok (.aload_n 0, 1) := by decide +kernel
theorem dN_weigh_11 : decode mN_weigh.2.1 11 = .ok (.dload 4, 2) := by decide +kernel
theorem dN_weigh_13 : decode mN_weigh.2.1 13 = .ok (.putfield 47, 3) := by decide +kernel
theorem dN_weigh_16 : decode mN_weigh.2.1 16 = .ok (.return_, 1) := by decide +kernel
theorem dL_dense_0 : decode mL_dense.2.1 0 = .ok (.aload 6, 2) := by decide +kernel
theorem dL_dense_2 : decode mL_dense.2.1 2 = .ok (.iconst 0, 1) := by decide +kernel
theorem dL_dense_3 : decode mL_dense.2.1 3 = .ok (.aload_n 0, 1) := by decide +kernel
theorem dL_dense_4 : decode mL_dense.2.1 4 = .ok (.iload_n 1, 1) := by decide +kernel
theorem dL_dense_5 : decode mL_dense.2.1 5 = .ok (.iload_n 2, 1) := by decide +kernel
theorem dL_dense_6 : decode mL_dense.2.1 6 = .ok (.iload_n 3, 1) := by decide +kernel
theorem dL_dense_7 : decode mL_dense.2.1 7 = .ok (.dload 4, 2) := by decide +kernel
theorem dL_dense_9 : decode mL_dense.2.1 9 = .ok (.invokevirtual 31, 3) := by decide +kernel
theorem dL_dense_12 : decode mL_dense.2.1 12 = .ok (.i2l, 1) := by decide +kernel
theorem dL_dense_13 : decode mL_dense.2.1 13 = .ok (.lastore, 1) := by decide +kernel
theorem dL_dense_14 : decode mL_dense.2.1 14 = .ok (.goto 15, 3) := by decide +kernel
theorem dL_dense_17 : decode mL_dense.2.1 17 = .ok (.astore 7, 2) := by decide +kernel
theorem dL_dense_19 : decode mL_dense.2.1 19 = .ok (.iconst 1, 1) := by decide +kernel
theorem dL_dense_20 : decode mL_dense.2.1 20 = .ok (.ireturn, 1) := by decide +kernel
theorem dL_dense_21 : decode mL_dense.2.1 21 = .ok (.astore 7, 2) := by decide +kernel
theorem dL_dense_23 : decode mL_dense.2.1 23 = .ok (.iconst 2, 1) := by decide +kernel
theorem dL_dense_24 : decode mL_dense.2.1 24 = .ok (.ireturn, 1) := by decide +kernel
theorem dL_dense_25 : decode mL_dense.2.1 25 = .ok (.astore 7, 2) := by decide +kernel
theorem dL_dense_27 : decode mL_dense.2.1 27 = .ok (.iconst 3, 1) := by decide +kernel
theorem dL_dense_28 : decode mL_dense.2.1 28 = .ok (.ireturn, 1) := by decide +kernel
theorem dL_dense_29 : decode mL_dense.2.1 29 = .ok (.iconst 0, 1) := by decide +kernel
theorem dL_dense_30 : decode mL_dense.2.1 30 = .ok (.ireturn, 1) := by decide +kernel
theorem dT_dense_0 : decode mT_dense.2.1 0 = .ok (.aload_n 0, 1) := by decide +kernel
theorem dT_dense_1 : decode mT_dense.2.1 1 = .ok (.iload_n 1, 1) := by decide +kernel
theorem dT_dense_2 : decode mT_dense.2.1 2 = .ok (.invokevirtual 66, 3) := by decide +kernel
theorem dT_dense_5 : decode mT_dense.2.1 5 = .ok (.iload_n 2, 1) := by decide +kernel
theorem dT_dense_6 : decode mT_dense.2.1 6 = .ok (.iconst 1, 1) := by decide +kernel
theorem dT_dense_7 : decode mT_dense.2.1 7 = .ok (.bipush 8, 2) := by decide +kernel
theorem dT_dense_9 : decode mT_dense.2.1 9 = .ok (.invokestatic 35, 3) := by decide +kernel
theorem dT_dense_12 : decode mT_dense.2.1 12 = .ok (.dload 4, 2) := by decide +kernel
theorem dT_dense_14 : decode mT_dense.2.1 14 = .ok (.invokestatic 47, 3) := by decide +kernel
theorem dT_dense_17 : decode mT_dense.2.1 17 = .ok (.aload_n 0, 1) := by decide +kernel
theorem dT_dense_18 : decode mT_dense.2.1 18 = .ok (.getfield 12, 3) := by decide +kernel
theorem dT_dense_21 : decode mT_dense.2.1 21 = .ok (.getfield 74, 3) := by decide +kernel
theorem dT_dense_24 : decode mT_dense.2.1 24 = .ok (.iload_n 1, 1) := by decide +kernel
theorem dT_dense_25 : decode mT_dense.2.1 25 = .ok (.aaload, 1) := by decide +kernel
theorem dT_dense_26 : decode mT_dense.2.1 26 = .ok (.astore 6, 2) := by decide +kernel
theorem dT_dense_28 : decode mT_dense.2.1 28 = .ok (.iload_n 3, 1) := by decide +kernel
theorem dT_dense_29 : decode mT_dense.2.1 29 = .ok (.iload_n 2, 1) := by decide +kernel
theorem dT_dense_30 : decode mT_dense.2.1 30 = .ok (.aload 6, 2) := by decide +kernel
theorem dT_dense_32 : decode mT_dense.2.1 32 = .ok (.getfield 118, 3) := by decide +kernel
theorem dT_dense_35 : decode mT_dense.2.1 35 = .ok (.invokestatic 91, 3) := by decide +kernel
theorem dT_dense_38 : decode mT_dense.2.1 38 = .ok (.aload_n 0, 1) := by decide +kernel
theorem dT_dense_39 : decode mT_dense.2.1 39 = .ok (.aload 6, 2) := by decide +kernel
theorem dT_dense_41 : decode mT_dense.2.1 41 = .ok (.dload 4, 2) := by decide +kernel
theorem dT_dense_43 : decode mT_dense.2.1 43 = .ok (.invokevirtual 94, 3) := by decide +kernel
theorem dT_dense_46 : decode mT_dense.2.1 46 = .ok (.dstore 7, 2) := by decide +kernel
theorem dT_dense_48 : decode mT_dense.2.1 48 = .ok (.dload 7, 2) := by decide +kernel
theorem dT_dense_50 : decode mT_dense.2.1 50 = .ok (.invokestatic 98, 3) := by decide +kernel
theorem dT_dense_53 : decode mT_dense.2.1 53 = .ok (.aload_n 0, 1) := by decide +kernel
theorem dT_dense_54 : decode mT_dense.2.1 54 = .ok (.invokevirtual 54, 3) := by decide +kernel
theorem dT_dense_57 : decode mT_dense.2.1 57 = .ok (.new 57, 3) := by decide +kernel
theorem dT_dense_60 : decode mT_dense.2.1 60 = .ok (.dup, 1) := by decide +kernel
theorem dT_dense_61 : decode mT_dense.2.1 61 = .ok (.iconst 3, 1) := by decide +kernel
theorem dT_dense_62 : decode mT_dense.2.1 62 = .ok (.iload_n 1, 1) := by decide +kernel
theorem dT_dense_63 : decode mT_dense.2.1 63 = .ok (.iconst (-1), 1) := by decide +kernel
theorem dT_dense_64 : decode mT_dense.2.1 64 = .ok (.iconst 1, 1) := by decide +kernel
theorem dT_dense_65 : decode mT_dense.2.1 65 = .ok (.iconst 1, 1) := by decide +kernel
theorem dT_dense_66 : decode mT_dense.2.1 66 = .ok (.iload_n 2, 1) := by decide +kernel
theorem dT_dense_67 : decode mT_dense.2.1 67 = .ok (.dload 4, 2) := by decide +kernel
theorem dT_dense_69 : decode mT_dense.2.1 69 = .ok (.invokespecial 59, 3) := by decide +kernel
theorem dT_dense_72 : decode mT_dense.2.1 72 = .ok (.astore 9, 2) := by decide +kernel
theorem dT_dense_74 : decode mT_dense.2.1 74 = .ok (.aload 9, 2) := by decide +kernel
theorem dT_dense_76 : decode mT_dense.2.1 76 = .ok (.iload_n 3, 1) := by decide +kernel
theorem dT_dense_77 : decode mT_dense.2.1 77 = .ok (.aload_n 0, 1) := by decide +kernel
theorem dT_dense_78 : decode mT_dense.2.1 78 = .ok (.getfield 23, 3) := by decide +kernel
theorem dT_dense_81 : decode mT_dense.2.1 81 = .ok (.dload 7, 2) := by decide +kernel
theorem dT_dense_83 : decode mT_dense.2.1 83 = .ok (.invokevirtual 114, 3) := by decide +kernel
theorem dT_dense_86 : decode mT_dense.2.1 86 = .ok (.aload_n 0, 1) := by decide +kernel
theorem dT_dense_87 : decode mT_dense.2.1 87 = .ok (.aload 9, 2) := by decide +kernel
theorem dT_dense_89 : decode mT_dense.2.1 89 = .ok (.invokevirtual 62, 3) := by decide +kernel
theorem dT_dense_92 : decode mT_dense.2.1 92 = .ok (.ireturn, 1) := by decide +kernel
theorem dL_add_0 : decode mL_add.2.1 0 = .ok (.aload 5, 2) := by decide +kernel
theorem dL_add_2 : decode mL_add.2.1 2 = .ok (.iconst 0, 1) := by decide +kernel
theorem dL_add_3 : decode mL_add.2.1 3 = .ok (.aload_n 0, 1) := by decide +kernel
theorem dL_add_4 : decode mL_add.2.1 4 = .ok (.iload_n 1, 1) := by decide +kernel
theorem dL_add_5 : decode mL_add.2.1 5 = .ok (.iload_n 2, 1) := by decide +kernel
theorem dL_add_6 : decode mL_add.2.1 6 = .ok (.dload_n 3, 1) := by decide +kernel
theorem dL_add_7 : decode mL_add.2.1 7 = .ok (.invokevirtual 34, 3) := by decide +kernel
theorem dL_add_10 : decode mL_add.2.1 10 = .ok (.i2l, 1) := by decide +kernel
theorem dL_add_11 : decode mL_add.2.1 11 = .ok (.lastore, 1) := by decide +kernel
theorem dL_add_12 : decode mL_add.2.1 12 = .ok (.goto 15, 3) := by decide +kernel
theorem dL_add_15 : decode mL_add.2.1 15 = .ok (.astore 6, 2) := by decide +kernel
theorem dL_add_17 : decode mL_add.2.1 17 = .ok (.iconst 1, 1) := by decide +kernel
theorem dL_add_18 : decode mL_add.2.1 18 = .ok (.ireturn, 1) := by decide +kernel
theorem dL_add_19 : decode mL_add.2.1 19 = .ok (.astore 6, 2) := by decide +kernel
theorem dL_add_21 : decode mL_add.2.1 21 = .ok (.iconst 2, 1) := by decide +kernel
theorem dL_add_22 : decode mL_add.2.1 22 = .ok (.ireturn, 1) := by decide +kernel
theorem dL_add_23 : decode mL_add.2.1 23 = .ok (.astore 6, 2) := by decide +kernel
theorem dL_add_25 : decode mL_add.2.1 25 = .ok (.iconst 3, 1) := by decide +kernel
theorem dL_add_26 : decode mL_add.2.1 26 = .ok (.ireturn, 1) := by decide +kernel
theorem dL_add_27 : decode mL_add.2.1 27 = .ok (.iconst 0, 1) := by decide +kernel
theorem dL_add_28 : decode mL_add.2.1 28 = .ok (.ireturn, 1) := by decide +kernel
theorem dT_add_0 : decode mT_add.2.1 0 = .ok (.aload_n 0, 1) := by decide +kernel
theorem dT_add_1 : decode mT_add.2.1 1 = .ok (.iload_n 1, 1) := by decide +kernel
theorem dT_add_2 : decode mT_add.2.1 2 = .ok (.invokevirtual 66, 3) := by decide +kernel
theorem dT_add_5 : decode mT_add.2.1 5 = .ok (.aload_n 0, 1) := by decide +kernel
theorem dT_add_6 : decode mT_add.2.1 6 = .ok (.iload_n 2, 1) := by decide +kernel
theorem dT_add_7 : decode mT_add.2.1 7 = .ok (.invokevirtual 66, 3) := by decide +kernel
theorem dT_add_10 : decode mT_add.2.1 10 = .ok (.dload_n 3, 1) := by decide +kernel
theorem dT_add_11 : decode mT_add.2.1 11 = .ok (.invokestatic 47, 3) := by decide +kernel
theorem dT_add_14 : decode mT_add.2.1 14 = .ok (.aload_n 0, 1) := by decide +kernel
theorem dT_add_15 : decode mT_add.2.1 15 = .ok (.getfield 12, 3) := by decide +kernel
theorem dT_add_18 : decode mT_add.2.1 18 = .ok (.getfield 74, 3) := by decide +kernel
theorem dT_add_21 : decode mT_add.2.1 21 = .ok (.iload_n 1, 1) := by decide +kernel
theorem dT_add_22 : decode mT_add.2.1 22 = .ok (.aaload, 1) := by decide +kernel
theorem dT_add_23 : decode mT_add.2.1 23 = .ok (.astore 5, 2) := by decide +kernel
theorem dT_add_25 : decode mT_add.2.1 25 = .ok (.aload_n 0, 1) := by decide +kernel
theorem dT_add_26 : decode mT_add.2.1 26 = .ok (.getfield 12, 3) := by decide +kernel
theorem dT_add_29 : decode mT_add.2.1 29 = .ok (.getfield 74, 3) := by decide +kernel
theorem dT_add_32 : decode mT_add.2.1 32 = .ok (.iload_n 2, 1) := by decide +kernel
theorem dT_add_33 : decode mT_add.2.1 33 = .ok (.aaload, 1) := by decide +kernel
theorem dT_add_34 : decode mT_add.2.1 34 = .ok (.astore 6, 2) := by decide +kernel
theorem dT_add_36 : decode mT_add.2.1 36 = .ok (.aload 6, 2) := by decide +kernel
theorem dT_add_38 : decode mT_add.2.1 38 = .ok (.aload 5, 2) := by decide +kernel
theorem dT_add_40 : decode mT_add.2.1 40 = .ok (.getfield 101, 3) := by decide +kernel
theorem dT_add_43 : decode mT_add.2.1 43 = .ok (.aload 5, 2) := by decide +kernel
theorem dT_add_45 : decode mT_add.2.1 45 = .ok (.getfield 108, 3) := by decide +kernel
theorem dT_add_48 : decode mT_add.2.1 48 = .ok (.aload 5, 2) := by decide +kernel
theorem dT_add_50 : decode mT_add.2.1 50 = .ok (.getfield 88, 3) := by decide +kernel
theorem dT_add_53 : decode mT_add.2.1 53 = .ok (.invokevirtual 121, 3) := by decide +kernel
theorem dT_add_56 : decode mT_add.2.1 56 = .ok (.invokestatic 125, 3) := by decide +kernel
theorem dT_add_59 : decode mT_add.2.1 59 = .ok (.aload 5, 2) := by decide +kernel
theorem dT_add_61 : decode mT_add.2.1 61 = .ok (.getfield 129, 3) := by decide +kernel
theorem dT_add_64 : decode mT_add.2.1 64 = .ok (.dload_n 3, 1) := by decide +kernel
theorem dT_add_65 : decode mT_add.2.1 65 = .ok (.ddiv, 1) := by decide +kernel
theorem dT_add_66 : decode mT_add.2.1 66 = .ok (.dstore 7, 2) := by decide +kernel
theorem dT_add_68 : decode mT_add.2.1 68 = .ok (.aload 6, 2) := by decide +kernel
theorem dT_add_70 : decode mT_add.2.1 70 = .ok (.getfield 129, 3) := by decide +kernel
theorem dT_add_73 : decode mT_add.2.1 73 = .ok (.dload_n 3, 1) := by decide +kernel
theorem dT_add_74 : decode mT_add.2.1 74 = .ok (.ddiv, 1) := by decide +kernel
theorem dT_add_75 : decode mT_add.2.1 75 = .ok (.dstore 9, 2) := by decide +kernel
theorem dT_add_77 : decode mT_add.2.1 77 = .ok (.dload 7, 2) := by decide +kernel
theorem dT_add_79 : decode mT_add.2.1 79 = .ok (.invokestatic 98, 3) := by decide +kernel
theorem dT_add_82 : decode mT_add.2.1 82 = .ok (.dload 9, 2) := by decide +kernel
theorem dT_add_84 : decode mT_add.2.1 84 = .ok (.invokestatic 98, 3) := by decide +kernel
theorem dT_add_87 : decode mT_add.2.1 87 = .ok (.aload_n 0, 1) := by decide +kernel
theorem dT_add_88 : decode mT_add.2.1 88 = .ok (.invokevirtual 54, 3) := by decide +kernel
theorem dT_add_91 : decode mT_add.2.1 91 = .ok (.new 57, 3) := by decide +kernel
theorem dT_add_94 : decode mT_add.2.1 94 = .ok (.dup, 1) := by decide +kernel
theorem dT_add_95 : decode mT_add.2.1 95 = .ok (.iconst 4, 1) := by decide +kernel
theorem dT_add_96 : decode mT_add.2.1 96 = .ok (.iload_n 1, 1) := by decide +kernel
theorem dT_add_97 : decode mT_add.2.1 97 = .ok (.iload_n 2, 1) := by decide +kernel
theorem dT_add_98 : decode mT_add.2.1 98 = .ok (.aload 5, 2) := by decide +kernel
theorem dT_add_100 : decode mT_add.2.1 100 = .ok (.getfield 101, 3) := by decide +kernel
theorem dT_add_103 : decode mT_add.2.1 103 = .ok (.aload 5, 2) := by decide +kernel
theorem dT_add_105 : decode mT_add.2.1 105 = .ok (.getfield 108, 3) := by decide +kernel
theorem dT_add_108 : decode mT_add.2.1 108 = .ok (.aload 5, 2) := by decide +kernel
theorem dT_add_110 : decode mT_add.2.1 110 = .ok (.getfield 88, 3) := by decide +kernel
theorem dT_add_113 : decode mT_add.2.1 113 = .ok (.dload_n 3, 1) := by decide +kernel
theorem dT_add_114 : decode mT_add.2.1 114 = .ok (.invokespecial 59, 3) := by decide +kernel
theorem dT_add_117 : decode mT_add.2.1 117 = .ok (.astore 11, 2) := by decide +kernel
theorem dT_add_119 : decode mT_add.2.1 119 = .ok (.aload 11, 2) := by decide +kernel
theorem dT_add_121 : decode mT_add.2.1 121 = .ok (.dload 7, 2) := by decide +kernel
theorem dT_add_123 : decode mT_add.2.1 123 = .ok (.putfield 132, 3) := by decide +kernel
theorem dT_add_126 : decode mT_add.2.1 126 = .ok (.aload 11, 2) := by decide +kernel
theorem dT_add_128 : decode mT_add.2.1 128 = .ok (.dload 9, 2) := by decide +kernel
theorem dT_add_130 : decode mT_add.2.1 130 = .ok (.putfield 135, 3) := by decide +kernel
theorem dT_add_133 : decode mT_add.2.1 133 = .ok (.aload_n 0, 1) := by decide +kernel
theorem dT_add_134 : decode mT_add.2.1 134 = .ok (.aload 11, 2) := by decide +kernel
theorem dT_add_136 : decode mT_add.2.1 136 = .ok (.invokevirtual 62, 3) := by decide +kernel
theorem dT_add_139 : decode mT_add.2.1 139 = .ok (.ireturn, 1) := by decide +kernel
theorem dN_hasShape_0 : decode mN_hasShape.2.1 0 = .ok (.aload_n 0, 1) := by decide +kernel
theorem dN_hasShape_1 : decode mN_hasShape.2.1 1 = .ok (.getfield 21, 3) := by decide +kernel
theorem dN_hasShape_4 : decode mN_hasShape.2.1 4 = .ok (.iload_n 1, 1) := by decide +kernel
theorem dN_hasShape_5 : decode mN_hasShape.2.1 5 = .ok (.if_icmp .ne 23, 3) := by decide +kernel
theorem dN_hasShape_8 : decode mN_hasShape.2.1 8 = .ok (.aload_n 0, 1) := by decide +kernel
theorem dN_hasShape_9 : decode mN_hasShape.2.1 9 = .ok (.getfield 24, 3) := by decide +kernel
theorem dN_hasShape_12 : decode mN_hasShape.2.1 12 = .ok (.iload_n 2, 1) := by decide +kernel
theorem dN_hasShape_13 : decode mN_hasShape.2.1 13 = .ok (.if_icmp .ne 15, 3) := by decide +kernel
theorem dN_hasShape_16 : decode mN_hasShape.2.1 16 = .ok (.aload_n 0, 1) := by decide +kernel
theorem dN_hasShape_17 : decode mN_hasShape.2.1 17 = .ok (.getfield 27, 3) := by decide +kernel
theorem dN_hasShape_20 : decode mN_hasShape.2.1 20 = .ok (.iload_n 3, 1) := by decide +kernel
theorem dN_hasShape_21 : decode mN_hasShape.2.1 21 = .ok (.if_icmp .ne 7, 3) := by decide +kernel
theorem dN_hasShape_24 : decode mN_hasShape.2.1 24 = .ok (.iconst 1, 1) := by decide +kernel
theorem dN_hasShape_25 : decode mN_hasShape.2.1 25 = .ok (.goto 4, 3) := by decide +kernel
theorem dN_hasShape_28 : decode mN_hasShape.2.1 28 = .ok (.iconst 0, 1) := by decide +kernel
theorem dN_hasShape_29 : decode mN_hasShape.2.1 29 = .ok (.ireturn, 1) := by decide +kernel
theorem dL_concat_0 : decode mL_concat.2.1 0 = .ok (.aload_n 3, 1) := by decide +kernel
theorem dL_concat_1 : decode mL_concat.2.1 1 = .ok (.iconst 0, 1) := by decide +kernel
theorem dL_concat_2 : decode mL_concat.2.1 2 = .ok (.aload_n 0, 1) := by decide +kernel
theorem dL_concat_3 : decode mL_concat.2.1 3 = .ok (.iload_n 1, 1) := by decide +kernel
theorem dL_concat_4 : decode mL_concat.2.1 4 = .ok (.iload_n 2, 1) := by decide +kernel
theorem dL_concat_5 : decode mL_concat.2.1 5 = .ok (.invokevirtual 38, 3) := by decide +kernel
theorem dL_concat_8 : decode mL_concat.2.1 8 = .ok (.i2l, 1) := by decide +kernel
theorem dL_concat_9 : decode mL_concat.2.1 9 = .ok (.lastore, 1) := by decide +kernel
theorem dL_concat_10 : decode mL_concat.2.1 10 = .ok (.goto 11, 3) := by decide +kernel
theorem dL_concat_13 : decode mL_concat.2.1 13 = .ok (.astore 4, 2) := by decide +kernel
theorem dL_concat_15 : decode mL_concat.2.1 15 = .ok (.iconst 1, 1) := by decide +kernel
theorem dL_concat_16 : decode mL_concat.2.1 16 = .ok (.ireturn, 1) := by decide +kernel
theorem dL_concat_17 : decode mL_concat.2.1 17 = .ok (.astore 4, 2) := by decide +kernel
theorem dL_concat_19 : decode mL_concat.2.1 19 = .ok (.iconst 2, 1) := by decide +kernel
theorem dL_concat_20 : decode mL_concat.2.1 20 = .ok (.ireturn, 1) := by decide +kernel
theorem dL_concat_21 : decode mL_concat.2.1 21 = .ok (.iconst 0, 1) := by decide +kernel
theorem dL_concat_22 : decode mL_concat.2.1 22 = .ok (.ireturn, 1) := by decide +kernel
theorem dT_concat_0 : decode mT_concat.2.1 0 = .ok (.aload_n 0, 1) := by decide +kernel
theorem dT_concat_1 : decode mT_concat.2.1 1 = .ok (.iload_n 1, 1) := by decide +kernel
theorem dT_concat_2 : decode mT_concat.2.1 2 = .ok (.invokevirtual 66, 3) := by decide +kernel
theorem dT_concat_5 : decode mT_concat.2.1 5 = .ok (.aload_n 0, 1) := by decide +kernel
theorem dT_concat_6 : decode mT_concat.2.1 6 = .ok (.iload_n 2, 1) := by decide +kernel
theorem dT_concat_7 : decode mT_concat.2.1 7 = .ok (.invokevirtual 66, 3) := by decide +kernel
theorem dT_concat_10 : decode mT_concat.2.1 10 = .ok (.aload_n 0, 1) := by decide +kernel
theorem dT_concat_11 : decode mT_concat.2.1 11 = .ok (.getfield 12, 3) := by decide +kernel
theorem dT_concat_14 : decode mT_concat.2.1 14 = .ok (.getfield 74, 3) := by decide +kernel
theorem dT_concat_17 : decode mT_concat.2.1 17 = .ok (.iload_n 1, 1) := by decide +kernel
theorem dT_concat_18 : decode mT_concat.2.1 18 = .ok (.aaload, 1) := by decide +kernel
theorem dT_concat_19 : decode mT_concat.2.1 19 = .ok (.astore_n 3, 1) := by decide +kernel
theorem dT_concat_20 : decode mT_concat.2.1 20 = .ok (.aload_n 0, 1) := by decide +kernel
theorem dT_concat_21 : decode mT_concat.2.1 21 = .ok (.getfield 12, 3) := by decide +kernel
theorem dT_concat_24 : decode mT_concat.2.1 24 = .ok (.getfield 74, 3) := by decide +kernel
theorem dT_concat_27 : decode mT_concat.2.1 27 = .ok (.iload_n 2, 1) := by decide +kernel
theorem dT_concat_28 : decode mT_concat.2.1 28 = .ok (.aaload, 1) := by decide +kernel
theorem dT_concat_29 : decode mT_concat.2.1 29 = .ok (.astore 4, 2) := by decide +kernel
theorem dT_concat_31 : decode mT_concat.2.1 31 = .ok (.aload_n 3, 1) := by decide +kernel
theorem dT_concat_32 : decode mT_concat.2.1 32 = .ok (.getfield 101, 3) := by decide +kernel
theorem dT_concat_35 : decode mT_concat.2.1 35 = .ok (.aload 4, 2) := by decide +kernel
theorem dT_concat_37 : decode mT_concat.2.1 37 = .ok (.getfield 101, 3) := by decide +kernel
theorem dT_concat_40 : decode mT_concat.2.1 40 = .ok (.if_icmp .ne 32, 3) := by decide +kernel
theorem dT_concat_43 : decode mT_concat.2.1 43 = .ok (.aload_n 3, 1) := by decide +kernel
theorem dT_concat_44 : decode mT_concat.2.1 44 = .ok (.getfield 108, 3) := by decide +kernel
theorem dT_concat_47 : decode mT_concat.2.1 47 = .ok (.aload 4, 2) := by decide +kernel
theorem dT_concat_49 : decode mT_concat.2.1 49 = .ok (.getfield 108, 3) := by decide +kernel
theorem dT_concat_52 : decode mT_concat.2.1 52 = .ok (.if_icmp .ne 20, 3) := by decide +kernel
theorem dT_concat_55 : decode mT_concat.2.1 55 = .ok (.aload_n 3, 1) := by decide +kernel
theorem dT_concat_56 : decode mT_concat.2.1 56 = .ok (.getfield 129, 3) := by decide +kernel
theorem dT_concat_59 : decode mT_concat.2.1 59 = .ok (.aload 4, 2) := by decide +kernel
theorem dT_concat_61 : decode mT_concat.2.1 61 = .ok (.getfield 129, 3) := by decide +kernel
theorem dT_concat_64 : decode mT_concat.2.1 64 = .ok (.dcmp .l, 1) := by decide +kernel
theorem dT_concat_65 : decode mT_concat.2.1 65 = .ok (.ifCond .ne 7, 3) := by decide +kernel
theorem dT_concat_68 : decode mT_concat.2.1 68 = .ok (.iconst 1, 1) := by decide +kernel
theorem dT_concat_69 : decode mT_concat.2.1 69 = .ok (.goto 4, 3) := by decide +kernel
theorem dT_concat_72 : decode mT_concat.2.1 72 = .ok (.iconst 0, 1) := by decide +kernel
theorem dT_concat_73 : decode mT_concat.2.1 73 = .ok (.invokestatic 125, 3) := by decide +kernel
theorem dT_concat_76 : decode mT_concat.2.1 76 = .ok (.aload_n 3, 1) := by decide +kernel
theorem dT_concat_77 : decode mT_concat.2.1 77 = .ok (.getfield 88, 3) := by decide +kernel
theorem dT_concat_80 : decode mT_concat.2.1 80 = .ok (.aload 4, 2) := by decide +kernel
theorem dT_concat_82 : decode mT_concat.2.1 82 = .ok (.getfield 88, 3) := by decide +kernel
theorem dT_concat_85 : decode mT_concat.2.1 85 = .ok (.iadd, 1) := by decide +kernel
theorem dT_concat_86 : decode mT_concat.2.1 86 = .ok (.istore 5, 2) := by decide +kernel
theorem dT_concat_88 : decode mT_concat.2.1 88 = .ok (.iload 5, 2) := by decide +kernel
theorem dT_concat_90 : decode mT_concat.2.1 90 = .ok (.iconst 1, 1) := by decide +kernel
theorem dT_concat_91 : decode mT_concat.2.1 91 = .ok (.bipush 8, 2) := by decide +kernel
theorem dT_concat_93 : decode mT_concat.2.1 93 = .ok (.invokestatic 35, 3) := by decide +kernel
theorem dT_concat_96 : decode mT_concat.2.1 96 = .ok (.aload_n 0, 1) := by decide +kernel
theorem dT_concat_97 : decode mT_concat.2.1 97 = .ok (.invokevirtual 54, 3) := by decide +kernel
theorem dT_concat_100 : decode mT_concat.2.1 100 = .ok (.aload_n 0, 1) := by decide +kernel
theorem dT_concat_101 : decode mT_concat.2.1 101 = .ok (.new 57, 3) := by decide +kernel
theorem dT_concat_104 : decode mT_concat.2.1 104 = .ok (.dup, 1) := by decide +kernel
theorem dT_concat_105 : decode mT_concat.2.1 105 = .ok (.iconst 5, 1) := by decide +kernel
theorem dT_concat_106 : decode mT_concat.2.1 106 = .ok (.iload_n 1, 1) := by decide +kernel
theorem dT_concat_107 : decode mT_concat.2.1 107 = .ok (.iload_n 2, 1) := by decide +kernel
theorem dT_concat_108 : decode mT_concat.2.1 108 = .ok (.aload_n 3, 1) := by decide +kernel
theorem dT_concat_109 : decode mT_concat.2.1 109 = .ok (.getfield 101, 3) := by decide +kernel
theorem dT_concat_112 : decode mT_concat.2.1 112 = .ok (.aload_n 3, 1) := by decide +kernel
theorem dT_concat_113 : decode mT_concat.2.1 113 = .ok (.getfield 108, 3) := by decide +kernel
theorem dT_concat_116 : decode mT_concat.2.1 116 = .ok (.iload 5, 2) := by decide +kernel
theorem dT_concat_118 : decode mT_concat.2.1 118 = .ok (.aload_n 3, 1) := by decide +kernel
theorem dT_concat_119 : decode mT_concat.2.1 119 = .ok (.getfield 129, 3) := by decide +kernel
theorem dT_concat_122 : decode mT_concat.2.1 122 = .ok (.invokespecial 59, 3) := by decide +kernel
theorem dT_concat_125 : decode mT_concat.2.1 125 = .ok (.invokevirtual 62, 3) := by decide +kernel
theorem dT_concat_128 : decode mT_concat.2.1 128 = .ok (.ireturn, 1) := by decide +kernel
theorem dL_reshape_0 : decode mL_reshape.2.1 0 = .ok (.aload 5, 2) := by decide +kernel
theorem dL_reshape_2 : decode mL_reshape.2.1 2 = .ok (.iconst 0, 1) := by decide +kernel
theorem dL_reshape_3 : decode mL_reshape.2.1 3 = .ok (.aload_n 0, 1) := by decide +kernel
theorem dL_reshape_4 : decode mL_reshape.2.1 4 = .ok (.iload_n 1, 1) := by decide +kernel
theorem dL_reshape_5 : decode mL_reshape.2.1 5 = .ok (.iload_n 2, 1) := by decide +kernel
theorem dL_reshape_6 : decode mL_reshape.2.1 6 = .ok (.iload_n 3, 1) := by decide +kernel
theorem dL_reshape_7 : decode mL_reshape.2.1 7 = .ok (.iload 4, 2) := by decide +kernel
theorem dL_reshape_9 : decode mL_reshape.2.1 9 = .ok (.invokevirtual 42, 3) := by decide +kernel
theorem dL_reshape_12 : decode mL_reshape.2.1 12 = .ok (.i2l, 1) := by decide +kernel
theorem dL_reshape_13 : decode mL_reshape.2.1 13 = .ok (.lastore, 1) := by decide +kernel
theorem dL_reshape_14 : decode mL_reshape.2.1 14 = .ok (.goto 11, 3) := by decide +kernel
theorem dL_reshape_17 : decode mL_reshape.2.1 17 = .ok (.astore 6, 2) := by decide +kernel
theorem dL_reshape_19 : decode mL_reshape.2.1 19 = .ok (.iconst 1, 1) := by decide +kernel
theorem dL_reshape_20 : decode mL_reshape.2.1 20 = .ok (.ireturn, 1) := by decide +kernel
theorem dL_reshape_21 : decode mL_reshape.2.1 21 = .ok (.astore 6, 2) := by decide +kernel
theorem dL_reshape_23 : decode mL_reshape.2.1 23 = .ok (.iconst 2, 1) := by decide +kernel
theorem dL_reshape_24 : decode mL_reshape.2.1 24 = .ok (.ireturn, 1) := by decide +kernel
theorem dL_reshape_25 : decode mL_reshape.2.1 25 = .ok (.iconst 0, 1) := by decide +kernel
theorem dL_reshape_26 : decode mL_reshape.2.1 26 = .ok (.ireturn, 1) := by decide +kernel
theorem dT_reshape_0 : decode mT_reshape.2.1 0 = .ok (.aload_n 0, 1) := by decide +kernel
theorem dT_reshape_1 : decode mT_reshape.2.1 1 = .ok (.iload_n 1, 1) := by decide +kernel
theorem dT_reshape_2 : decode mT_reshape.2.1 2 = .ok (.invokevirtual 66, 3) := by decide +kernel
theorem dT_reshape_5 : decode mT_reshape.2.1 5 = .ok (.iload_n 2, 1) := by decide +kernel
theorem dT_reshape_6 : decode mT_reshape.2.1 6 = .ok (.iload_n 3, 1) := by decide +kernel
theorem dT_reshape_7 : decode mT_reshape.2.1 7 = .ok (.iload 4, 2) := by decide +kernel
theorem dT_reshape_9 : decode mT_reshape.2.1 9 = .ok (.invokestatic 51, 3) := by decide +kernel
theorem dT_reshape_12 : decode mT_reshape.2.1 12 = .ok (.aload_n 0, 1) := by decide +kernel
theorem dT_reshape_13 : decode mT_reshape.2.1 13 = .ok (.getfield 12, 3) := by decide +kernel
theorem dT_reshape_16 : decode mT_reshape.2.1 16 = .ok (.getfield 74, 3) := by decide +kernel
theorem dT_reshape_19 : decode mT_reshape.2.1 19 = .ok (.iload_n 1, 1) := by decide +kernel
theorem dT_reshape_20 : decode mT_reshape.2.1 20 = .ok (.aaload, 1) := by decide +kernel
theorem dT_reshape_21 : decode mT_reshape.2.1 21 = .ok (.astore 5, 2) := by decide +kernel
theorem dT_reshape_23 : decode mT_reshape.2.1 23 = .ok (.iload_n 2, 1) := by decide +kernel
theorem dT_reshape_24 : decode mT_reshape.2.1 24 = .ok (.iload_n 3, 1) := by decide +kernel
theorem dT_reshape_25 : decode mT_reshape.2.1 25 = .ok (.imul, 1) := by decide +kernel
theorem dT_reshape_26 : decode mT_reshape.2.1 26 = .ok (.iload 4, 2) := by decide +kernel
theorem dT_reshape_28 : decode mT_reshape.2.1 28 = .ok (.imul, 1) := by decide +kernel
theorem dT_reshape_29 : decode mT_reshape.2.1 29 = .ok (.aload 5, 2) := by decide +kernel
theorem dT_reshape_31 : decode mT_reshape.2.1 31 = .ok (.getfield 118, 3) := by decide +kernel
theorem dT_reshape_34 : decode mT_reshape.2.1 34 = .ok (.if_icmp .ne 7, 3) := by decide +kernel
theorem dT_reshape_37 : decode mT_reshape.2.1 37 = .ok (.iconst 1, 1) := by decide +kernel
theorem dT_reshape_38 : decode mT_reshape.2.1 38 = .ok (.goto 4, 3) := by decide +kernel
theorem dT_reshape_41 : decode mT_reshape.2.1 41 = .ok (.iconst 0, 1) := by decide +kernel
theorem dT_reshape_42 : decode mT_reshape.2.1 42 = .ok (.invokestatic 125, 3) := by decide +kernel
theorem dT_reshape_45 : decode mT_reshape.2.1 45 = .ok (.aload_n 0, 1) := by decide +kernel
theorem dT_reshape_46 : decode mT_reshape.2.1 46 = .ok (.invokevirtual 54, 3) := by decide +kernel
theorem dT_reshape_49 : decode mT_reshape.2.1 49 = .ok (.aload_n 0, 1) := by decide +kernel
theorem dT_reshape_50 : decode mT_reshape.2.1 50 = .ok (.new 57, 3) := by decide +kernel
theorem dT_reshape_53 : decode mT_reshape.2.1 53 = .ok (.dup, 1) := by decide +kernel
theorem dT_reshape_54 : decode mT_reshape.2.1 54 = .ok (.bipush 6, 2) := by decide +kernel
theorem dT_reshape_56 : decode mT_reshape.2.1 56 = .ok (.iload_n 1, 1) := by decide +kernel
theorem dT_reshape_57 : decode mT_reshape.2.1 57 = .ok (.iconst (-1), 1) := by decide +kernel
theorem dT_reshape_58 : decode mT_reshape.2.1 58 = .ok (.iload_n 2, 1) := by decide +kernel
theorem dT_reshape_59 : decode mT_reshape.2.1 59 = .ok (.iload_n 3, 1) := by decide +kernel
theorem dT_reshape_60 : decode mT_reshape.2.1 60 = .ok (.iload 4, 2) := by decide +kernel
theorem dT_reshape_62 : decode mT_reshape.2.1 62 = .ok (.aload 5, 2) := by decide +kernel
theorem dT_reshape_64 : decode mT_reshape.2.1 64 = .ok (.getfield 129, 3) := by decide +kernel
theorem dT_reshape_67 : decode mT_reshape.2.1 67 = .ok (.invokespecial 59, 3) := by decide +kernel
theorem dT_reshape_70 : decode mT_reshape.2.1 70 = .ok (.invokevirtual 62, 3) := by decide +kernel
theorem dT_reshape_73 : decode mT_reshape.2.1 73 = .ok (.ireturn, 1) := by decide +kernel
theorem dL_pool_0 : decode mL_pool.2.1 0 = .ok (.aload 4, 2) := by decide +kernel
theorem dL_pool_2 : decode mL_pool.2.1 2 = .ok (.iconst 0, 1) := by decide +kernel
theorem dL_pool_3 : decode mL_pool.2.1 3 = .ok (.aload_n 0, 1) := by decide +kernel
theorem dL_pool_4 : decode mL_pool.2.1 4 = .ok (.iload_n 1, 1) := by decide +kernel
theorem dL_pool_5 : decode mL_pool.2.1 5 = .ok (.iload_n 2, 1) := by decide +kernel
theorem dL_pool_6 : decode mL_pool.2.1 6 = .ok (.iload_n 3, 1) := by decide +kernel
theorem dL_pool_7 : decode mL_pool.2.1 7 = .ok (.invokevirtual 46, 3) := by decide +kernel
theorem dL_pool_10 : decode mL_pool.2.1 10 = .ok (.i2l, 1) := by decide +kernel
theorem dL_pool_11 : decode mL_pool.2.1 11 = .ok (.lastore, 1) := by decide +kernel
theorem dL_pool_12 : decode mL_pool.2.1 12 = .ok (.goto 11, 3) := by decide +kernel
theorem dL_pool_15 : decode mL_pool.2.1 15 = .ok (.astore 5, 2) := by decide +kernel
theorem dL_pool_17 : decode mL_pool.2.1 17 = .ok (.iconst 1, 1) := by decide +kernel
theorem dL_pool_18 : decode mL_pool.2.1 18 = .ok (.ireturn, 1) := by decide +kernel
theorem dL_pool_19 : decode mL_pool.2.1 19 = .ok (.astore 5, 2) := by decide +kernel
theorem dL_pool_21 : decode mL_pool.2.1 21 = .ok (.iconst 2, 1) := by decide +kernel
theorem dL_pool_22 : decode mL_pool.2.1 22 = .ok (.ireturn, 1) := by decide +kernel
theorem dL_pool_23 : decode mL_pool.2.1 23 = .ok (.iconst 0, 1) := by decide +kernel
theorem dL_pool_24 : decode mL_pool.2.1 24 = .ok (.ireturn, 1) := by decide +kernel
theorem dT_pool_0 : decode mT_pool.2.1 0 = .ok (.aload_n 0, 1) := by decide +kernel
theorem dT_pool_1 : decode mT_pool.2.1 1 = .ok (.iload_n 1, 1) := by decide +kernel
theorem dT_pool_2 : decode mT_pool.2.1 2 = .ok (.invokevirtual 66, 3) := by decide +kernel
theorem dT_pool_5 : decode mT_pool.2.1 5 = .ok (.iload_n 2, 1) := by decide +kernel
theorem dT_pool_6 : decode mT_pool.2.1 6 = .ok (.iconst 0, 1) := by decide +kernel
theorem dT_pool_7 : decode mT_pool.2.1 7 = .ok (.bipush 11, 2) := by decide +kernel
theorem dT_pool_9 : decode mT_pool.2.1 9 = .ok (.invokestatic 35, 3) := by decide +kernel
theorem dT_pool_12 : decode mT_pool.2.1 12 = .ok (.aload_n 0, 1) := by decide +kernel
theorem dT_pool_13 : decode mT_pool.2.1 13 = .ok (.getfield 12, 3) := by decide +kernel
theorem dT_pool_16 : decode mT_pool.2.1 16 = .ok (.getfield 74, 3) := by decide +kernel
theorem dT_pool_19 : decode mT_pool.2.1 19 = .ok (.iload_n 1, 1) := by decide +kernel
theorem dT_pool_20 : decode mT_pool.2.1 20 = .ok (.aaload, 1) := by decide +kernel
theorem dT_pool_21 : decode mT_pool.2.1 21 = .ok (.astore 4, 2) := by decide +kernel
theorem dT_pool_23 : decode mT_pool.2.1 23 = .ok (.aload 4, 2) := by decide +kernel
theorem dT_pool_25 : decode mT_pool.2.1 25 = .ok (.iload_n 2, 1) := by decide +kernel
theorem dT_pool_26 : decode mT_pool.2.1 26 = .ok (.invokestatic 78, 3) := by decide +kernel
theorem dT_pool_29 : decode mT_pool.2.1 29 = .ok (.aload_n 0, 1) := by decide +kernel
theorem dT_pool_30 : decode mT_pool.2.1 30 = .ok (.invokevirtual 54, 3) := by decide +kernel
theorem dT_pool_33 : decode mT_pool.2.1 33 = .ok (.iload_n 2, 1) := by decide +kernel
theorem dT_pool_34 : decode mT_pool.2.1 34 = .ok (.aload 4, 2) := by decide +kernel
theorem dT_pool_36 : decode mT_pool.2.1 36 = .ok (.getfield 101, 3) := by decide +kernel
theorem dT_pool_39 : decode mT_pool.2.1 39 = .ok (.invokestatic 104, 3) := by decide +kernel
theorem dT_pool_42 : decode mT_pool.2.1 42 = .ok (.istore 5, 2) := by decide +kernel
theorem dT_pool_44 : decode mT_pool.2.1 44 = .ok (.iload_n 2, 1) := by decide +kernel
theorem dT_pool_45 : decode mT_pool.2.1 45 = .ok (.aload 4, 2) := by decide +kernel
theorem dT_pool_47 : decode mT_pool.2.1 47 = .ok (.getfield 108, 3) := by decide +kernel
theorem dT_pool_50 : decode mT_pool.2.1 50 = .ok (.invokestatic 104, 3) := by decide +kernel
theorem dT_pool_53 : decode mT_pool.2.1 53 = .ok (.istore 6, 2) := by decide +kernel
theorem dT_pool_55 : decode mT_pool.2.1 55 = .ok (.new 57, 3) := by decide +kernel
theorem dT_pool_58 : decode mT_pool.2.1 58 = .ok (.dup, 1) := by decide +kernel
theorem dT_pool_59 : decode mT_pool.2.1 59 = .ok (.iload_n 3, 1) := by decide +kernel
theorem dT_pool_60 : decode mT_pool.2.1 60 = .ok (.ifCond .eq 8, 3) := by decide +kernel
theorem dT_pool_63 : decode mT_pool.2.1 63 = .ok (.bipush 8, 2) := by decide +kernel
theorem dT_pool_65 : decode mT_pool.2.1 65 = .ok (.goto 5, 3) := by decide +kernel
theorem dT_pool_68 : decode mT_pool.2.1 68 = .ok (.bipush 7, 2) := by decide +kernel
theorem dT_pool_70 : decode mT_pool.2.1 70 = .ok (.iload_n 1, 1) := by decide +kernel
theorem dT_pool_71 : decode mT_pool.2.1 71 = .ok (.iconst (-1), 1) := by decide +kernel
theorem dT_pool_72 : decode mT_pool.2.1 72 = .ok (.iload 5, 2) := by decide +kernel
theorem dT_pool_74 : decode mT_pool.2.1 74 = .ok (.iload 6, 2) := by decide +kernel
theorem dT_pool_76 : decode mT_pool.2.1 76 = .ok (.aload 4, 2) := by decide +kernel
theorem dT_pool_78 : decode mT_pool.2.1 78 = .ok (.getfield 88, 3) := by decide +kernel
theorem dT_pool_81 : decode mT_pool.2.1 81 = .ok (.aload 4, 2) := by decide +kernel
theorem dT_pool_83 : decode mT_pool.2.1 83 = .ok (.getfield 129, 3) := by decide +kernel
theorem dT_pool_86 : decode mT_pool.2.1 86 = .ok (.invokespecial 59, 3) := by decide +kernel
theorem dT_pool_89 : decode mT_pool.2.1 89 = .ok (.astore 7, 2) := by decide +kernel
theorem dT_pool_91 : decode mT_pool.2.1 91 = .ok (.aload 7, 2) := by decide +kernel
theorem dT_pool_93 : decode mT_pool.2.1 93 = .ok (.iload_n 2, 1) := by decide +kernel
theorem dT_pool_94 : decode mT_pool.2.1 94 = .ok (.putfield 111, 3) := by decide +kernel
theorem dT_pool_97 : decode mT_pool.2.1 97 = .ok (.aload_n 0, 1) := by decide +kernel
theorem dT_pool_98 : decode mT_pool.2.1 98 = .ok (.aload 7, 2) := by decide +kernel
theorem dT_pool_100 : decode mT_pool.2.1 100 = .ok (.invokevirtual 62, 3) := by decide +kernel
theorem dT_pool_103 : decode mT_pool.2.1 103 = .ok (.ireturn, 1) := by decide +kernel
theorem dL_clamp_0 : decode mL_clamp.2.1 0 = .ok (.aload 4, 2) := by decide +kernel
theorem dL_clamp_2 : decode mL_clamp.2.1 2 = .ok (.iconst 0, 1) := by decide +kernel
theorem dL_clamp_3 : decode mL_clamp.2.1 3 = .ok (.aload_n 0, 1) := by decide +kernel
theorem dL_clamp_4 : decode mL_clamp.2.1 4 = .ok (.iload_n 1, 1) := by decide +kernel
theorem dL_clamp_5 : decode mL_clamp.2.1 5 = .ok (.iload_n 2, 1) := by decide +kernel
theorem dL_clamp_6 : decode mL_clamp.2.1 6 = .ok (.iload_n 3, 1) := by decide +kernel
theorem dL_clamp_7 : decode mL_clamp.2.1 7 = .ok (.invokevirtual 50, 3) := by decide +kernel
theorem dL_clamp_10 : decode mL_clamp.2.1 10 = .ok (.i2l, 1) := by decide +kernel
theorem dL_clamp_11 : decode mL_clamp.2.1 11 = .ok (.lastore, 1) := by decide +kernel
theorem dL_clamp_12 : decode mL_clamp.2.1 12 = .ok (.goto 11, 3) := by decide +kernel
theorem dL_clamp_15 : decode mL_clamp.2.1 15 = .ok (.astore 5, 2) := by decide +kernel
theorem dL_clamp_17 : decode mL_clamp.2.1 17 = .ok (.iconst 1, 1) := by decide +kernel
theorem dL_clamp_18 : decode mL_clamp.2.1 18 = .ok (.ireturn, 1) := by decide +kernel
theorem dL_clamp_19 : decode mL_clamp.2.1 19 = .ok (.astore 5, 2) := by decide +kernel
theorem dL_clamp_21 : decode mL_clamp.2.1 21 = .ok (.iconst 2, 1) := by decide +kernel
theorem dL_clamp_22 : decode mL_clamp.2.1 22 = .ok (.ireturn, 1) := by decide +kernel
theorem dL_clamp_23 : decode mL_clamp.2.1 23 = .ok (.iconst 0, 1) := by decide +kernel
theorem dL_clamp_24 : decode mL_clamp.2.1 24 = .ok (.ireturn, 1) := by decide +kernel
theorem dT_clamp_0 : decode mT_clamp.2.1 0 = .ok (.aload_n 0, 1) := by decide +kernel
theorem dT_clamp_1 : decode mT_clamp.2.1 1 = .ok (.iload_n 1, 1) := by decide +kernel
theorem dT_clamp_2 : decode mT_clamp.2.1 2 = .ok (.invokevirtual 66, 3) := by decide +kernel
theorem dT_clamp_5 : decode mT_clamp.2.1 5 = .ok (.iload_n 3, 1) := by decide +kernel
theorem dT_clamp_6 : decode mT_clamp.2.1 6 = .ok (.bipush (-128), 2) := by decide +kernel
theorem dT_clamp_8 : decode mT_clamp.2.1 8 = .ok (.bipush 127, 2) := by decide +kernel
theorem dT_clamp_10 : decode mT_clamp.2.1 10 = .ok (.invokestatic 35, 3) := by decide +kernel
theorem dT_clamp_13 : decode mT_clamp.2.1 13 = .ok (.iload_n 2, 1) := by decide +kernel
theorem dT_clamp_14 : decode mT_clamp.2.1 14 = .ok (.bipush (-128), 2) := by decide +kernel
theorem dT_clamp_16 : decode mT_clamp.2.1 16 = .ok (.iload_n 3, 1) := by decide +kernel
theorem dT_clamp_17 : decode mT_clamp.2.1 17 = .ok (.invokestatic 35, 3) := by decide +kernel
theorem dT_clamp_20 : decode mT_clamp.2.1 20 = .ok (.aload_n 0, 1) := by decide +kernel
theorem dT_clamp_21 : decode mT_clamp.2.1 21 = .ok (.invokevirtual 54, 3) := by decide +kernel
theorem dT_clamp_24 : decode mT_clamp.2.1 24 = .ok (.aload_n 0, 1) := by decide +kernel
theorem dT_clamp_25 : decode mT_clamp.2.1 25 = .ok (.getfield 12, 3) := by decide +kernel
theorem dT_clamp_28 : decode mT_clamp.2.1 28 = .ok (.getfield 74, 3) := by decide +kernel
theorem dT_clamp_31 : decode mT_clamp.2.1 31 = .ok (.iload_n 1, 1) := by decide +kernel
theorem dT_clamp_32 : decode mT_clamp.2.1 32 = .ok (.aaload, 1) := by decide +kernel
theorem dT_clamp_33 : decode mT_clamp.2.1 33 = .ok (.astore 4, 2) := by decide +kernel
theorem dT_clamp_35 : decode mT_clamp.2.1 35 = .ok (.new 57, 3) := by decide +kernel
theorem dT_clamp_38 : decode mT_clamp.2.1 38 = .ok (.dup, 1) := by decide +kernel
theorem dT_clamp_39 : decode mT_clamp.2.1 39 = .ok (.bipush 9, 2) := by decide +kernel
theorem dT_clamp_41 : decode mT_clamp.2.1 41 = .ok (.iload_n 1, 1) := by decide +kernel
theorem dT_clamp_42 : decode mT_clamp.2.1 42 = .ok (.iconst (-1), 1) := by decide +kernel
theorem dT_clamp_43 : decode mT_clamp.2.1 43 = .ok (.aload 4, 2) := by decide +kernel
theorem dT_clamp_45 : decode mT_clamp.2.1 45 = .ok (.getfield 101, 3) := by decide +kernel
theorem dT_clamp_48 : decode mT_clamp.2.1 48 = .ok (.aload 4, 2) := by decide +kernel
theorem dT_clamp_50 : decode mT_clamp.2.1 50 = .ok (.getfield 108, 3) := by decide +kernel
theorem dT_clamp_53 : decode mT_clamp.2.1 53 = .ok (.aload 4, 2) := by decide +kernel
theorem dT_clamp_55 : decode mT_clamp.2.1 55 = .ok (.getfield 88, 3) := by decide +kernel
theorem dT_clamp_58 : decode mT_clamp.2.1 58 = .ok (.aload 4, 2) := by decide +kernel
theorem dT_clamp_60 : decode mT_clamp.2.1 60 = .ok (.getfield 129, 3) := by decide +kernel
theorem dT_clamp_63 : decode mT_clamp.2.1 63 = .ok (.invokespecial 59, 3) := by decide +kernel
theorem dT_clamp_66 : decode mT_clamp.2.1 66 = .ok (.astore 5, 2) := by decide +kernel
theorem dT_clamp_68 : decode mT_clamp.2.1 68 = .ok (.aload 5, 2) := by decide +kernel
theorem dT_clamp_70 : decode mT_clamp.2.1 70 = .ok (.iload_n 2, 1) := by decide +kernel
theorem dT_clamp_71 : decode mT_clamp.2.1 71 = .ok (.putfield 138, 3) := by decide +kernel
theorem dT_clamp_74 : decode mT_clamp.2.1 74 = .ok (.aload 5, 2) := by decide +kernel
theorem dT_clamp_76 : decode mT_clamp.2.1 76 = .ok (.iload_n 3, 1) := by decide +kernel
theorem dT_clamp_77 : decode mT_clamp.2.1 77 = .ok (.putfield 141, 3) := by decide +kernel
theorem dT_clamp_80 : decode mT_clamp.2.1 80 = .ok (.aload_n 0, 1) := by decide +kernel
theorem dT_clamp_81 : decode mT_clamp.2.1 81 = .ok (.aload 5, 2) := by decide +kernel
theorem dT_clamp_83 : decode mT_clamp.2.1 83 = .ok (.invokevirtual 62, 3) := by decide +kernel
theorem dT_clamp_86 : decode mT_clamp.2.1 86 = .ok (.ireturn, 1) := by decide +kernel
theorem dL_rescale_0 : decode mL_rescale.2.1 0 = .ok (.aload 4, 2) := by decide +kernel
theorem dL_rescale_2 : decode mL_rescale.2.1 2 = .ok (.iconst 0, 1) := by decide +kernel
theorem dL_rescale_3 : decode mL_rescale.2.1 3 = .ok (.aload_n 0, 1) := by decide +kernel
theorem dL_rescale_4 : decode mL_rescale.2.1 4 = .ok (.iload_n 1, 1) := by decide +kernel
theorem dL_rescale_5 : decode mL_rescale.2.1 5 = .ok (.dload_n 2, 1) := by decide +kernel
theorem dL_rescale_6 : decode mL_rescale.2.1 6 = .ok (.invokevirtual 54, 3) := by decide +kernel
theorem dL_rescale_9 : decode mL_rescale.2.1 9 = .ok (.i2l, 1) := by decide +kernel
theorem dL_rescale_10 : decode mL_rescale.2.1 10 = .ok (.lastore, 1) := by decide +kernel
theorem dL_rescale_11 : decode mL_rescale.2.1 11 = .ok (.goto 15, 3) := by decide +kernel
theorem dL_rescale_14 : decode mL_rescale.2.1 14 = .ok (.astore 5, 2) := by decide +kernel
theorem dL_rescale_16 : decode mL_rescale.2.1 16 = .ok (.iconst 1, 1) := by decide +kernel
theorem dL_rescale_17 : decode mL_rescale.2.1 17 = .ok (.ireturn, 1) := by decide +kernel
theorem dL_rescale_18 : decode mL_rescale.2.1 18 = .ok (.astore 5, 2) := by decide +kernel
theorem dL_rescale_20 : decode mL_rescale.2.1 20 = .ok (.iconst 2, 1) := by decide +kernel
theorem dL_rescale_21 : decode mL_rescale.2.1 21 = .ok (.ireturn, 1) := by decide +kernel
theorem dL_rescale_22 : decode mL_rescale.2.1 22 = .ok (.astore 5, 2) := by decide +kernel
theorem dL_rescale_24 : decode mL_rescale.2.1 24 = .ok (.iconst 3, 1) := by decide +kernel
theorem dL_rescale_25 : decode mL_rescale.2.1 25 = .ok (.ireturn, 1) := by decide +kernel
theorem dL_rescale_26 : decode mL_rescale.2.1 26 = .ok (.iconst 0, 1) := by decide +kernel
theorem dL_rescale_27 : decode mL_rescale.2.1 27 = .ok (.ireturn, 1) := by decide +kernel
theorem dT_rescale_0 : decode mT_rescale.2.1 0 = .ok (.aload_n 0, 1) := by decide +kernel
theorem dT_rescale_1 : decode mT_rescale.2.1 1 = .ok (.iload_n 1, 1) := by decide +kernel
theorem dT_rescale_2 : decode mT_rescale.2.1 2 = .ok (.invokevirtual 66, 3) := by decide +kernel
theorem dT_rescale_5 : decode mT_rescale.2.1 5 = .ok (.dload_n 2, 1) := by decide +kernel
theorem dT_rescale_6 : decode mT_rescale.2.1 6 = .ok (.invokestatic 47, 3) := by decide +kernel
theorem dT_rescale_9 : decode mT_rescale.2.1 9 = .ok (.aload_n 0, 1) := by decide +kernel
theorem dT_rescale_10 : decode mT_rescale.2.1 10 = .ok (.getfield 12, 3) := by decide +kernel
theorem dT_rescale_13 : decode mT_rescale.2.1 13 = .ok (.getfield 74, 3) := by decide +kernel
theorem dT_rescale_16 : decode mT_rescale.2.1 16 = .ok (.iload_n 1, 1) := by decide +kernel
theorem dT_rescale_17 : decode mT_rescale.2.1 17 = .ok (.aaload, 1) := by decide +kernel
theorem dT_rescale_18 : decode mT_rescale.2.1 18 = .ok (.astore 4, 2) := by decide +kernel
theorem dT_rescale_20 : decode mT_rescale.2.1 20 = .ok (.aload 4, 2) := by decide +kernel
theorem dT_rescale_22 : decode mT_rescale.2.1 22 = .ok (.getfield 129, 3) := by decide +kernel
theorem dT_rescale_25 : decode mT_rescale.2.1 25 = .ok (.dload_n 2, 1) := by decide +kernel
theorem dT_rescale_26 : decode mT_rescale.2.1 26 = .ok (.ddiv, 1) := by decide +kernel
theorem dT_rescale_27 : decode mT_rescale.2.1 27 = .ok (.dstore 5, 2) := by decide +kernel
theorem dT_rescale_29 : decode mT_rescale.2.1 29 = .ok (.dload 5, 2) := by decide +kernel
theorem dT_rescale_31 : decode mT_rescale.2.1 31 = .ok (.invokestatic 98, 3) := by decide +kernel
theorem dT_rescale_34 : decode mT_rescale.2.1 34 = .ok (.aload_n 0, 1) := by decide +kernel
theorem dT_rescale_35 : decode mT_rescale.2.1 35 = .ok (.invokevirtual 54, 3) := by decide +kernel
theorem dT_rescale_38 : decode mT_rescale.2.1 38 = .ok (.new 57, 3) := by decide +kernel
theorem dT_rescale_41 : decode mT_rescale.2.1 41 = .ok (.dup, 1) := by decide +kernel
theorem dT_rescale_42 : decode mT_rescale.2.1 42 = .ok (.bipush 10, 2) := by decide +kernel
theorem dT_rescale_44 : decode mT_rescale.2.1 44 = .ok (.iload_n 1, 1) := by decide +kernel
theorem dT_rescale_45 : decode mT_rescale.2.1 45 = .ok (.iconst (-1), 1) := by decide +kernel
theorem dT_rescale_46 : decode mT_rescale.2.1 46 = .ok (.aload 4, 2) := by decide +kernel
theorem dT_rescale_48 : decode mT_rescale.2.1 48 = .ok (.getfield 101, 3) := by decide +kernel
theorem dT_rescale_51 : decode mT_rescale.2.1 51 = .ok (.aload 4, 2) := by decide +kernel
theorem dT_rescale_53 : decode mT_rescale.2.1 53 = .ok (.getfield 108, 3) := by decide +kernel
theorem dT_rescale_56 : decode mT_rescale.2.1 56 = .ok (.aload 4, 2) := by decide +kernel
theorem dT_rescale_58 : decode mT_rescale.2.1 58 = .ok (.getfield 88, 3) := by decide +kernel
theorem dT_rescale_61 : decode mT_rescale.2.1 61 = .ok (.dload_n 2, 1) := by decide +kernel
theorem dT_rescale_62 : decode mT_rescale.2.1 62 = .ok (.invokespecial 59, 3) := by decide +kernel
theorem dT_rescale_65 : decode mT_rescale.2.1 65 = .ok (.astore 7, 2) := by decide +kernel
theorem dT_rescale_67 : decode mT_rescale.2.1 67 = .ok (.aload 7, 2) := by decide +kernel
theorem dT_rescale_69 : decode mT_rescale.2.1 69 = .ok (.dload 5, 2) := by decide +kernel
theorem dT_rescale_71 : decode mT_rescale.2.1 71 = .ok (.putfield 132, 3) := by decide +kernel
theorem dT_rescale_74 : decode mT_rescale.2.1 74 = .ok (.aload_n 0, 1) := by decide +kernel
theorem dT_rescale_75 : decode mT_rescale.2.1 75 = .ok (.aload 7, 2) := by decide +kernel
theorem dT_rescale_77 : decode mT_rescale.2.1 77 = .ok (.invokevirtual 62, 3) := by decide +kernel
theorem dT_rescale_80 : decode mT_rescale.2.1 80 = .ok (.ireturn, 1) := by decide +kernel
theorem dL_output_0 : decode mL_output.2.1 0 = .ok (.aload_n 2, 1) := by decide +kernel
theorem dL_output_1 : decode mL_output.2.1 1 = .ok (.iconst 0, 1) := by decide +kernel
theorem dL_output_2 : decode mL_output.2.1 2 = .ok (.aload_n 0, 1) := by decide +kernel
theorem dL_output_3 : decode mL_output.2.1 3 = .ok (.iload_n 1, 1) := by decide +kernel
theorem dL_output_4 : decode mL_output.2.1 4 = .ok (.invokevirtual 58, 3) := by decide +kernel
theorem dL_output_7 : decode mL_output.2.1 7 = .ok (.i2l, 1) := by decide +kernel
theorem dL_output_8 : decode mL_output.2.1 8 = .ok (.lastore, 1) := by decide +kernel
theorem dL_output_9 : decode mL_output.2.1 9 = .ok (.goto 6, 3) := by decide +kernel
theorem dL_output_12 : decode mL_output.2.1 12 = .ok (.astore_n 3, 1) := by decide +kernel
theorem dL_output_13 : decode mL_output.2.1 13 = .ok (.iconst 1, 1) := by decide +kernel
theorem dL_output_14 : decode mL_output.2.1 14 = .ok (.ireturn, 1) := by decide +kernel
theorem dL_output_15 : decode mL_output.2.1 15 = .ok (.iconst 0, 1) := by decide +kernel
theorem dL_output_16 : decode mL_output.2.1 16 = .ok (.ireturn, 1) := by decide +kernel
theorem dT_output_0 : decode mT_output.2.1 0 = .ok (.aload_n 0, 1) := by decide +kernel
theorem dT_output_1 : decode mT_output.2.1 1 = .ok (.iload_n 1, 1) := by decide +kernel
theorem dT_output_2 : decode mT_output.2.1 2 = .ok (.invokevirtual 66, 3) := by decide +kernel
theorem dT_output_5 : decode mT_output.2.1 5 = .ok (.aload_n 0, 1) := by decide +kernel
theorem dT_output_6 : decode mT_output.2.1 6 = .ok (.iload_n 1, 1) := by decide +kernel
theorem dT_output_7 : decode mT_output.2.1 7 = .ok (.putfield 27, 3) := by decide +kernel
theorem dT_output_10 : decode mT_output.2.1 10 = .ok (.aload_n 0, 1) := by decide +kernel
theorem dT_output_11 : decode mT_output.2.1 11 = .ok (.iconst 0, 1) := by decide +kernel
theorem dT_output_12 : decode mT_output.2.1 12 = .ok (.putfield 31, 3) := by decide +kernel
theorem dT_output_15 : decode mT_output.2.1 15 = .ok (.aload_n 0, 1) := by decide +kernel
theorem dT_output_16 : decode mT_output.2.1 16 = .ok (.getfield 12, 3) := by decide +kernel
theorem dT_output_19 : decode mT_output.2.1 19 = .ok (.getfield 74, 3) := by decide +kernel
theorem dT_output_22 : decode mT_output.2.1 22 = .ok (.iload_n 1, 1) := by decide +kernel
theorem dT_output_23 : decode mT_output.2.1 23 = .ok (.aaload, 1) := by decide +kernel
theorem dT_output_24 : decode mT_output.2.1 24 = .ok (.getfield 118, 3) := by decide +kernel
theorem dT_output_27 : decode mT_output.2.1 27 = .ok (.ireturn, 1) := by decide +kernel
theorem dL_compile_0 : decode mL_compile.2.1 0 = .ok (.aload_n 1, 1) := by decide +kernel
theorem dL_compile_1 : decode mL_compile.2.1 1 = .ok (.iconst 0, 1) := by decide +kernel
theorem dL_compile_2 : decode mL_compile.2.1 2 = .ok (.aload_n 0, 1) := by decide +kernel
theorem dL_compile_3 : decode mL_compile.2.1 3 = .ok (.invokevirtual 62, 3) := by decide +kernel
theorem dL_compile_6 : decode mL_compile.2.1 6 = .ok (.i2l, 1) := by decide +kernel
theorem dL_compile_7 : decode mL_compile.2.1 7 = .ok (.lastore, 1) := by decide +kernel
theorem dL_compile_8 : decode mL_compile.2.1 8 = .ok (.goto 6, 3) := by decide +kernel
theorem dL_compile_11 : decode mL_compile.2.1 11 = .ok (.astore_n 2, 1) := by decide +kernel
theorem dL_compile_12 : decode mL_compile.2.1 12 = .ok (.iconst 1, 1) := by decide +kernel
theorem dL_compile_13 : decode mL_compile.2.1 13 = .ok (.ireturn, 1) := by decide +kernel
theorem dL_compile_14 : decode mL_compile.2.1 14 = .ok (.iconst 0, 1) := by decide +kernel
theorem dL_compile_15 : decode mL_compile.2.1 15 = .ok (.ireturn, 1) := by decide +kernel
theorem dT_compile_0 : decode mT_compile.2.1 0 = .ok (.aload_n 0, 1) := by decide +kernel
theorem dT_compile_1 : decode mT_compile.2.1 1 = .ok (.getfield 27, 3) := by decide +kernel
theorem dT_compile_4 : decode mT_compile.2.1 4 = .ok (.iconst (-1), 1) := by decide +kernel
theorem dT_compile_5 : decode mT_compile.2.1 5 = .ok (.if_icmp .ne 13, 3) := by decide +kernel
theorem dT_compile_8 : decode mT_compile.2.1 8 = .ok (.new 144, 3) := by decide +kernel
theorem dT_compile_11 : decode mT_compile.2.1 11 = .ok (.dup, 1) := by decide +kernel
theorem dT_compile_12 : decode mT_compile.2.1 12 = .ok (.ldc 146, 2) := by decide +kernel
theorem dT_compile_14 : decode mT_compile.2.1 14 = .ok (.invokespecial 148, 3) := by decide +kernel
theorem dT_compile_17 : decode mT_compile.2.1 17 = .ok (.athrow, 1) := by decide +kernel
theorem dT_compile_18 : decode mT_compile.2.1 18 = .ok (.aload_n 0, 1) := by decide +kernel
theorem dT_compile_19 : decode mT_compile.2.1 19 = .ok (.getfield 12, 3) := by decide +kernel
theorem dT_compile_22 : decode mT_compile.2.1 22 = .ok (.aload_n 0, 1) := by decide +kernel
theorem dT_compile_23 : decode mT_compile.2.1 23 = .ok (.getfield 27, 3) := by decide +kernel
theorem dT_compile_26 : decode mT_compile.2.1 26 = .ok (.invokevirtual 151, 3) := by decide +kernel
theorem dT_compile_29 : decode mT_compile.2.1 29 = .ok (.aload_n 0, 1) := by decide +kernel
theorem dT_compile_30 : decode mT_compile.2.1 30 = .ok (.iconst 1, 1) := by decide +kernel
theorem dT_compile_31 : decode mT_compile.2.1 31 = .ok (.putfield 31, 3) := by decide +kernel
theorem dT_compile_34 : decode mT_compile.2.1 34 = .ok (.aload_n 0, 1) := by decide +kernel
theorem dT_compile_35 : decode mT_compile.2.1 35 = .ok (.getfield 12, 3) := by decide +kernel
theorem dT_compile_38 : decode mT_compile.2.1 38 = .ok (.getfield 154, 3) := by decide +kernel
theorem dT_compile_41 : decode mT_compile.2.1 41 = .ok (.ireturn, 1) := by decide +kernel
theorem dG_plan_0 : decode mG_plan.2.1 0 = .ok (.aload_n 0, 1) := by decide +kernel
theorem dG_plan_1 : decode mG_plan.2.1 1 = .ok (.invokevirtual 37, 3) := by decide +kernel
theorem dG_plan_4 : decode mG_plan.2.1 4 = .ok (.aload_n 0, 1) := by decide +kernel
theorem dG_plan_5 : decode mG_plan.2.1 5 = .ok (.getfield 17, 3) := by decide +kernel
theorem dG_plan_8 : decode mG_plan.2.1 8 = .ok (.iload_n 1, 1) := by decide +kernel
theorem dG_plan_9 : decode mG_plan.2.1 9 = .ok (.iaload, 1) := by decide +kernel
theorem dG_plan_10 : decode mG_plan.2.1 10 = .ok (.istore_n 2, 1) := by decide +kernel
theorem dG_plan_11 : decode mG_plan.2.1 11 = .ok (.aload_n 0, 1) := by decide +kernel
theorem dG_plan_12 : decode mG_plan.2.1 12 = .ok (.iload_n 2, 1) := by decide +kernel
theorem dG_plan_13 : decode mG_plan.2.1 13 = .ok (.invokevirtual 40, 3) := by decide +kernel
theorem dG_plan_16 : decode mG_plan.2.1 16 = .ok (.aload_n 0, 1) := by decide +kernel
theorem dG_plan_17 : decode mG_plan.2.1 17 = .ok (.iload_n 2, 1) := by decide +kernel
theorem dG_plan_18 : decode mG_plan.2.1 18 = .ok (.invokevirtual 44, 3) := by decide +kernel
theorem dG_plan_21 : decode mG_plan.2.1 21 = .ok (.aload_n 0, 1) := by decide +kernel
theorem dG_plan_22 : decode mG_plan.2.1 22 = .ok (.invokevirtual 47, 3) := by decide +kernel
theorem dG_plan_25 : decode mG_plan.2.1 25 = .ok (.aload_n 0, 1) := by decide +kernel
theorem dG_plan_26 : decode mG_plan.2.1 26 = .ok (.iload_n 2, 1) := by decide +kernel
theorem dG_plan_27 : decode mG_plan.2.1 27 = .ok (.invokevirtual 50, 3) := by decide +kernel
theorem dG_plan_30 : decode mG_plan.2.1 30 = .ok (.aload_n 0, 1) := by decide +kernel
theorem dG_plan_31 : decode mG_plan.2.1 31 = .ok (.invokevirtual 53, 3) := by decide +kernel
theorem dG_plan_34 : decode mG_plan.2.1 34 = .ok (.return_, 1) := by decide +kernel
theorem dG_makeSmaller_0 : decode mG_makeSmaller.2.1 0 = .ok (.iconst 0, 1) := by decide +kernel
theorem dG_makeSmaller_1 : decode mG_makeSmaller.2.1 1 = .ok (.istore_n 1, 1) := by decide +kernel
theorem dG_makeSmaller_2 : decode mG_makeSmaller.2.1 2 = .ok (.iload_n 1, 1) := by decide +kernel
theorem dG_makeSmaller_3 : decode mG_makeSmaller.2.1 3 = .ok (.aload_n 0, 1) := by decide +kernel
theorem dG_makeSmaller_4 : decode mG_makeSmaller.2.1 4 = .ok (.getfield 33, 3) := by decide +kernel
theorem dG_makeSmaller_7 : decode mG_makeSmaller.2.1 7 = .ok (.if_icmp .ge 49, 3) := by decide +kernel
theorem dG_makeSmaller_10 : decode mG_makeSmaller.2.1 10 = .ok (.aload_n 0, 1) := by decide +kernel
theorem dG_makeSmaller_11 : decode mG_makeSmaller.2.1 11 = .ok (.getfield 17, 3) := by decide +kernel
theorem dG_makeSmaller_14 : decode mG_makeSmaller.2.1 14 = .ok (.iload_n 1, 1) := by decide +kernel
theorem dG_makeSmaller_15 : decode mG_makeSmaller.2.1 15 = .ok (.aload_n 0, 1) := by decide +kernel
theorem dG_makeSmaller_16 : decode mG_makeSmaller.2.1 16 = .ok (.aload_n 0, 1) := by decide +kernel
theorem dG_makeSmaller_17 : decode mG_makeSmaller.2.1 17 = .ok (.getfield 11, 3) := by decide +kernel
theorem dG_makeSmaller_20 : decode mG_makeSmaller.2.1 20 = .ok (.iload_n 1, 1) := by decide +kernel
theorem dG_makeSmaller_21 : decode mG_makeSmaller.2.1 21 = .ok (.aaload, 1) := by decide +kernel
theorem dG_makeSmaller_22 : decode mG_makeSmaller.2.1 22 = .ok (.invokevirtual 63, 3) := by decide +kernel
theorem dG_makeSmaller_25 : decode mG_makeSmaller.2.1 25 = .ok (.ifCond .eq 19, 3) := by decide +kernel
theorem dG_makeSmaller_28 : decode mG_makeSmaller.2.1 28 = .ok (.aload_n 0, 1) := by decide +kernel
theorem dG_makeSmaller_29 : decode mG_makeSmaller.2.1 29 = .ok (.aload_n 0, 1) := by decide +kernel
theorem dG_makeSmaller_30 : decode mG_makeSmaller.2.1 30 = .ok (.getfield 11, 3) := by decide +kernel
theorem dG_makeSmaller_33 : decode mG_makeSmaller.2.1 33 = .ok (.iload_n 1, 1) := by decide +kernel
theorem dG_makeSmaller_34 : decode mG_makeSmaller.2.1 34 = .ok (.aaload, 1) := by decide +kernel
theorem dG_makeSmaller_35 : decode mG_makeSmaller.2.1 35 = .ok (.getfield 56, 3) := by decide +kernel
theorem dG_makeSmaller_38 : decode mG_makeSmaller.2.1 38 = .ok (.invokevirtual 59, 3) := by decide +kernel
theorem dG_makeSmaller_41 : decode mG_makeSmaller.2.1 41 = .ok (.goto 8, 3) := by decide +kernel
theorem dG_makeSmaller_44 : decode mG_makeSmaller.2.1 44 = .ok (.aload_n 0, 1) := by decide +kernel
theorem dG_makeSmaller_45 : decode mG_makeSmaller.2.1 45 = .ok (.iload_n 1, 1) := by decide +kernel
theorem dG_makeSmaller_46 : decode mG_makeSmaller.2.1 46 = .ok (.invokevirtual 67, 3) := by decide +kernel
theorem dG_makeSmaller_49 : decode mG_makeSmaller.2.1 49 = .ok (.iastore, 1) := by decide +kernel
theorem dG_makeSmaller_50 : decode mG_makeSmaller.2.1 50 = .ok (.iinc 1 1, 3) := by decide +kernel
theorem dG_makeSmaller_53 : decode mG_makeSmaller.2.1 53 = .ok (.goto (-51), 3) := by decide +kernel
theorem dG_makeSmaller_56 : decode mG_makeSmaller.2.1 56 = .ok (.return_, 1) := by decide +kernel
theorem dG_changesNothing_0 : decode mG_changesNothing.2.1 0 = .ok (.aload_n 1, 1) := by decide +kernel
theorem dG_changesNothing_1 : decode mG_changesNothing.2.1 1 = .ok (.getfield 56, 3) := by decide +kernel
theorem dG_changesNothing_4 : decode mG_changesNothing.2.1 4 = .ok (.iconst (-1), 1) := by decide +kernel
theorem dG_changesNothing_5 : decode mG_changesNothing.2.1 5 = .ok (.if_icmp .ne 5, 3) := by decide +kernel
theorem dG_changesNothing_8 : decode mG_changesNothing.2.1 8 = .ok (.iconst 0, 1) := by decide +kernel
theorem dG_changesNothing_9 : decode mG_changesNothing.2.1 9 = .ok (.ireturn, 1) := by decide +kernel
theorem dG_changesNothing_10 : decode mG_changesNothing.2.1 10 = .ok (.aload_n 0, 1) := by decide +kernel
theorem dG_changesNothing_11 : decode mG_changesNothing.2.1 11 = .ok (.getfield 11, 3) := by decide +kernel
theorem dG_changesNothing_14 : decode mG_changesNothing.2.1 14 = .ok (.aload_n 0, 1) := by decide +kernel
theorem dG_changesNothing_15 : decode mG_changesNothing.2.1 15 = .ok (.getfield 17, 3) := by decide +kernel
theorem dG_changesNothing_18 : decode mG_changesNothing.2.1 18 = .ok (.aload_n 1, 1) := by decide +kernel
theorem dG_changesNothing_19 : decode mG_changesNothing.2.1 19 = .ok (.getfield 56, 3) := by decide +kernel
theorem dG_changesNothing_22 : decode mG_changesNothing.2.1 22 = .ok (.iaload, 1) := by decide +kernel
theorem dG_changesNothing_23 : decode mG_changesNothing.2.1 23 = .ok (.aaload, 1) := by decide +kernel
theorem dG_changesNothing_24 : decode mG_changesNothing.2.1 24 = .ok (.astore_n 2, 1) := by decide +kernel
theorem dG_changesNothing_25 : decode mG_changesNothing.2.1 25 = .ok (.aload_n 1, 1) := by decide +kernel
theorem dG_changesNothing_26 : decode mG_changesNothing.2.1 26 = .ok (.getfield 70, 3) := by decide +kernel
theorem dG_changesNothing_29 : decode mG_changesNothing.2.1 29 = .ok (.tableswitch 94 6 10 #[35, 94, 94, 52, 76], 35) := by decide +kernel
theorem dG_changesNothing_64 : decode mG_changesNothing.2.1 64 = .ok (.aload_n 1, 1) := by decide +kernel
theorem dG_changesNothing_65 : decode mG_changesNothing.2.1 65 = .ok (.aload_n 2, 1) := by decide +kernel
theorem dG_changesNothing_66 : decode mG_changesNothing.2.1 66 = .ok (.getfield 73, 3) := by decide +kernel
theorem dG_changesNothing_69 : decode mG_changesNothing.2.1 69 = .ok (.aload_n 2, 1) := by decide +kernel
theorem dG_changesNothing_70 : decode mG_changesNothing.2.1 70 = .ok (.getfield 76, 3) := by decide +kernel
theorem dG_changesNothing_73 : decode mG_changesNothing.2.1 73 = .ok (.aload_n 2, 1) := by decide +kernel
theorem dG_changesNothing_74 : decode mG_changesNothing.2.1 74 = .ok (.getfield 79, 3) := by decide +kernel
theorem dG_changesNothing_77 : decode mG_changesNothing.2.1 77 = .ok (.invokevirtual 82, 3) := by decide +kernel
theorem dG_changesNothing_80 : decode mG_changesNothing.2.1 80 = .ok (.ireturn, 1) := by decide +kernel
theorem dG_changesNothing_81 : decode mG_changesNothing.2.1 81 = .ok (.aload_n 1, 1) := by decide +kernel
theorem dG_changesNothing_82 : decode mG_changesNothing.2.1 82 = .ok (.getfield 86, 3) := by decide +kernel
theorem dG_changesNothing_85 : decode mG_changesNothing.2.1 85 = .ok (.bipush (-128), 2) := by decide +kernel
theorem dG_changesNothing_87 : decode mG_changesNothing.2.1 87 = .ok (.if_icmp .ne 16, 3) := by decide +kernel
theorem dG_changesNothing_90 : decode mG_changesNothing.2.1 90 = .ok (.aload_n 1, 1) := by decide +kernel
theorem dG_changesNothing_91 : decode mG_changesNothing.2.1 91 = .ok (.getfield 89, 3) := by decide +kernel
theorem dG_changesNothing_94 : decode mG_changesNothing.2.1 94 = .ok (.bipush 127, 2) := by decide +kernel
theorem dG_changesNothing_96 : decode mG_changesNothing.2.1 96 = .ok (.if_icmp .ne 7, 3) := by decide +kernel
theorem dG_changesNothing_99 : decode mG_changesNothing.2.1 99 = .ok (.iconst 1, 1) := by decide +kernel
theorem dG_changesNothing_100 : decode mG_changesNothing.2.1 100 = .ok (.goto 4, 3) := by decide +kernel
theorem dG_changesNothing_103 : decode mG_changesNothing.2.1 103 = .ok (.iconst 0, 1) := by decide +kernel
theorem dG_changesNothing_104 : decode mG_changesNothing.2.1 104 = .ok (.ireturn, 1) := by decide +kernel
theorem dG_changesNothing_105 : decode mG_changesNothing.2.1 105 = .ok (.aload_n 1, 1) := by decide +kernel
theorem dG_changesNothing_106 : decode mG_changesNothing.2.1 106 = .ok (.getfield 92, 3) := by decide +kernel
theorem dG_changesNothing_109 : decode mG_changesNothing.2.1 109 = .ok (.aload_n 2, 1) := by decide +kernel
theorem dG_changesNothing_110 : decode mG_changesNothing.2.1 110 = .ok (.getfield 92, 3) := by decide +kernel
theorem dG_changesNothing_113 : decode mG_changesNothing.2.1 113 = .ok (.dcmp .l, 1) := by decide +kernel
theorem dG_changesNothing_114 : decode mG_changesNothing.2.1 114 = .ok (.ifCond .ne 7, 3) := by decide +kernel
theorem dG_changesNothing_117 : decode mG_changesNothing.2.1 117 = .ok (.iconst 1, 1) := by decide +kernel
theorem dG_changesNothing_118 : decode mG_changesNothing.2.1 118 = .ok (.goto 4, 3) := by decide +kernel
theorem dG_changesNothing_121 : decode mG_changesNothing.2.1 121 = .ok (.iconst 0, 1) := by decide +kernel
theorem dG_changesNothing_122 : decode mG_changesNothing.2.1 122 = .ok (.ireturn, 1) := by decide +kernel
theorem dG_changesNothing_123 : decode mG_changesNothing.2.1 123 = .ok (.iconst 0, 1) := by decide +kernel
theorem dG_changesNothing_124 : decode mG_changesNothing.2.1 124 = .ok (.ireturn, 1) := by decide +kernel
theorem dG_meant_0 : decode mG_meant.2.1 0 = .ok (.iload_n 1, 1) := by decide +kernel
theorem dG_meant_1 : decode mG_meant.2.1 1 = .ok (.iconst (-1), 1) := by decide +kernel
theorem dG_meant_2 : decode mG_meant.2.1 2 = .ok (.if_icmp .ne 7, 3) := by decide +kernel
theorem dG_meant_5 : decode mG_meant.2.1 5 = .ok (.iconst (-1), 1) := by decide +kernel
theorem dG_meant_6 : decode mG_meant.2.1 6 = .ok (.goto 9, 3) := by decide +kernel
theorem dG_meant_9 : decode mG_meant.2.1 9 = .ok (.aload_n 0, 1) := by decide +kernel
theorem dG_meant_10 : decode mG_meant.2.1 10 = .ok (.getfield 17, 3) := by decide +kernel
theorem dG_meant_13 : decode mG_meant.2.1 13 = .ok (.iload_n 1, 1) := by decide +kernel
theorem dG_meant_14 : decode mG_meant.2.1 14 = .ok (.iaload, 1) := by decide +kernel
theorem dG_meant_15 : decode mG_meant.2.1 15 = .ok (.ireturn, 1) := by decide +kernel
theorem dG_firstAlike_0 : decode mG_firstAlike.2.1 0 = .ok (.aload_n 0, 1) := by decide +kernel
theorem dG_firstAlike_1 : decode mG_firstAlike.2.1 1 = .ok (.getfield 11, 3) := by decide +kernel
theorem dG_firstAlike_4 : decode mG_firstAlike.2.1 4 = .ok (.iload_n 1, 1) := by decide +kernel
theorem dG_firstAlike_5 : decode mG_firstAlike.2.1 5 = .ok (.aaload, 1) := by decide +kernel
theorem dG_firstAlike_6 : decode mG_firstAlike.2.1 6 = .ok (.getfield 70, 3) := by decide +kernel
theorem dG_firstAlike_9 : decode mG_firstAlike.2.1 9 = .ok (.ifCond .ne 5, 3) := by decide +kernel
theorem dG_firstAlike_12 : decode mG_firstAlike.2.1 12 = .ok (.iload_n 1, 1) := by decide +kernel
theorem dG_firstAlike_13 : decode mG_firstAlike.2.1 13 = .ok (.ireturn, 1) := by decide +kernel
theorem dG_firstAlike_14 : decode mG_firstAlike.2.1 14 = .ok (.iconst 0, 1) := by decide +kernel
theorem dG_firstAlike_15 : decode mG_firstAlike.2.1 15 = .ok (.istore_n 2, 1) := by decide +kernel
theorem dG_firstAlike_16 : decode mG_firstAlike.2.1 16 = .ok (.iload_n 2, 1) := by decide +kernel
theorem dG_firstAlike_17 : decode mG_firstAlike.2.1 17 = .ok (.iload_n 1, 1) := by decide +kernel
theorem dG_firstAlike_18 : decode mG_firstAlike.2.1 18 = .ok (.if_icmp .ge 30, 3) := by decide +kernel
theorem dG_firstAlike_21 : decode mG_firstAlike.2.1 21 = .ok (.aload_n 0, 1) := by decide +kernel
theorem dG_firstAlike_22 : decode mG_firstAlike.2.1 22 = .ok (.getfield 17, 3) := by decide +kernel
theorem dG_firstAlike_25 : decode mG_firstAlike.2.1 25 = .ok (.iload_n 2, 1) := by decide +kernel
theorem dG_firstAlike_26 : decode mG_firstAlike.2.1 26 = .ok (.iaload, 1) := by decide +kernel
theorem dG_firstAlike_27 : decode mG_firstAlike.2.1 27 = .ok (.iload_n 2, 1) := by decide +kernel
theorem dG_firstAlike_28 : decode mG_firstAlike.2.1 28 = .ok (.if_icmp .ne 14, 3) := by decide +kernel
theorem dG_firstAlike_31 : decode mG_firstAlike.2.1 31 = .ok (.aload_n 0, 1) := by decide +kernel
theorem dG_firstAlike_32 : decode mG_firstAlike.2.1 32 = .ok (.iload_n 2, 1) := by decide +kernel
theorem dG_firstAlike_33 : decode mG_firstAlike.2.1 33 = .ok (.iload_n 1, 1) := by decide +kernel
theorem dG_firstAlike_34 : decode mG_firstAlike.2.1 34 = .ok (.invokevirtual 96, 3) := by decide +kernel
theorem dG_firstAlike_37 : decode mG_firstAlike.2.1 37 = .ok (.ifCond .eq 5, 3) := by decide +kernel
theorem dG_firstAlike_40 : decode mG_firstAlike.2.1 40 = .ok (.iload_n 2, 1) := by decide +kernel
theorem dG_firstAlike_41 : decode mG_firstAlike.2.1 41 = .ok (.ireturn, 1) := by decide +kernel
theorem dG_firstAlike_42 : decode mG_firstAlike.2.1 42 = .ok (.iinc 2 1, 3) := by decide +kernel
theorem dG_firstAlike_45 : decode mG_firstAlike.2.1 45 = .ok (.goto (-29), 3) := by decide +kernel
theorem dG_firstAlike_48 : decode mG_firstAlike.2.1 48 = .ok (.iload_n 1, 1) := by decide +kernel
theorem dG_firstAlike_49 : decode mG_firstAlike.2.1 49 = .ok (.ireturn, 1) := by decide +kernel
theorem dG_alike_0 : decode mG_alike.2.1 0 = .ok (.aload_n 0, 1) := by decide +kernel
theorem dG_alike_1 : decode mG_alike.2.1 1 = .ok (.getfield 11, 3) := by decide +kernel
theorem dG_alike_4 : decode mG_alike.2.1 4 = .ok (.iload_n 1, 1) := by decide +kernel
theorem dG_alike_5 : decode mG_alike.2.1 5 = .ok (.aaload, 1) := by decide +kernel
theorem dG_alike_6 : decode mG_alike.2.1 6 = .ok (.astore_n 3, 1) := by decide +kernel
theorem dG_alike_7 : decode mG_alike.2.1 7 = .ok (.aload_n 0, 1) := by decide +kernel
theorem dG_alike_8 : decode mG_alike.2.1 8 = .ok (.getfield 11, 3) := by decide +kernel
theorem dG_alike_11 : decode mG_alike.2.1 11 = .ok (.iload_n 2, 1) := by decide +kernel
theorem dG_alike_12 : decode mG_alike.2.1 12 = .ok (.aaload, 1) := by decide +kernel
theorem dG_alike_13 : decode mG_alike.2.1 13 = .ok (.astore 4, 2) := by decide +kernel
theorem dG_alike_15 : decode mG_alike.2.1 15 = .ok (.aload_n 3, 1) := by decide +kernel
theorem dG_alike_16 : decode mG_alike.2.1 16 = .ok (.aload 4, 2) := by decide +kernel
theorem dG_alike_18 : decode mG_alike.2.1 18 = .ok (.invokevirtual 100, 3) := by decide +kernel
theorem dG_alike_21 : decode mG_alike.2.1 21 = .ok (.ifCond .eq 47, 3) := by decide +kernel
theorem dG_alike_24 : decode mG_alike.2.1 24 = .ok (.aload_n 0, 1) := by decide +kernel
theorem dG_alike_25 : decode mG_alike.2.1 25 = .ok (.aload_n 3, 1) := by decide +kernel
theorem dG_alike_26 : decode mG_alike.2.1 26 = .ok (.getfield 56, 3) := by decide +kernel
theorem dG_alike_29 : decode mG_alike.2.1 29 = .ok (.invokevirtual 59, 3) := by decide +kernel
theorem dG_alike_32 : decode mG_alike.2.1 32 = .ok (.aload_n 0, 1) := by decide +kernel
theorem dG_alike_33 : decode mG_alike.2.1 33 = .ok (.aload 4, 2) := by decide +kernel
theorem dG_alike_35 : decode mG_alike.2.1 35 = .ok (.getfield 56, 3) := by decide +kernel
theorem dG_alike_38 : decode mG_alike.2.1 38 = .ok (.invokevirtual 59, 3) := by decide +kernel
theorem dG_alike_41 : decode mG_alike.2.1 41 = .ok (.if_icmp .ne 27, 3) := by decide +kernel
theorem dG_alike_44 : decode mG_alike.2.1 44 = .ok (.aload_n 0, 1) := by decide +kernel
theorem dG_alike_45 : decode mG_alike.2.1 45 = .ok (.aload_n 3, 1) := by decide +kernel
theorem dG_alike_46 : decode mG_alike.2.1 46 = .ok (.getfield 103, 3) := by decide +kernel
theorem dG_alike_49 : decode mG_alike.2.1 49 = .ok (.invokevirtual 59, 3) := by decide +kernel
theorem dG_alike_52 : decode mG_alike.2.1 52 = .ok (.aload_n 0, 1) := by decide +kernel
theorem dG_alike_53 : decode mG_alike.2.1 53 = .ok (.aload 4, 2) := by decide +kernel
theorem dG_alike_55 : decode mG_alike.2.1 55 = .ok (.getfield 103, 3) := by decide +kernel
theorem dG_alike_58 : decode mG_alike.2.1 58 = .ok (.invokevirtual 59, 3) := by decide +kernel
theorem dG_alike_61 : decode mG_alike.2.1 61 = .ok (.if_icmp .ne 7, 3) := by decide +kernel
theorem dG_alike_64 : decode mG_alike.2.1 64 = .ok (.iconst 1, 1) := by decide +kernel
theorem dG_alike_65 : decode mG_alike.2.1 65 = .ok (.goto 4, 3) := by decide +kernel
theorem dG_alike_68 : decode mG_alike.2.1 68 = .ok (.iconst 0, 1) := by decide +kernel
theorem dG_alike_69 : decode mG_alike.2.1 69 = .ok (.ireturn, 1) := by decide +kernel
theorem dN_saysTheSame_0 : decode mN_saysTheSame.2.1 0 = .ok (.aload_n 0, 1) := by decide +kernel
theorem dN_saysTheSame_1 : decode mN_saysTheSame.2.1 1 = .ok (.getfield 9, 3) := by decide +kernel
theorem dN_saysTheSame_4 : decode mN_saysTheSame.2.1 4 = .ok (.aload_n 1, 1) := by decide +kernel
theorem dN_saysTheSame_5 : decode mN_saysTheSame.2.1 5 = .ok (.getfield 9, 3) := by decide +kernel
theorem dN_saysTheSame_8 : decode mN_saysTheSame.2.1 8 = .ok (.if_icmp .ne 94, 3) := by decide +kernel
theorem dN_saysTheSame_11 : decode mN_saysTheSame.2.1 11 = .ok (.aload_n 0, 1) := by decide +kernel
theorem dN_saysTheSame_12 : decode mN_saysTheSame.2.1 12 = .ok (.aload_n 1, 1) := by decide +kernel
theorem dN_saysTheSame_13 : decode mN_saysTheSame.2.1 13 = .ok (.getfield 21, 3) := by decide +kernel
theorem dN_saysTheSame_16 : decode mN_saysTheSame.2.1 16 = .ok (.aload_n 1, 1) := by decide +kernel
theorem dN_saysTheSame_17 : decode mN_saysTheSame.2.1 17 = .ok (.getfield 24, 3) := by decide +kernel
theorem dN_saysTheSame_20 : decode mN_saysTheSame.2.1 20 = .ok (.aload_n 1, 1) := by decide +kernel
theorem dN_saysTheSame_21 : decode mN_saysTheSame.2.1 21 = .ok (.getfield 27, 3) := by decide +kernel
theorem dN_saysTheSame_24 : decode mN_saysTheSame.2.1 24 = .ok (.invokevirtual 50, 3) := by decide +kernel
theorem dN_saysTheSame_27 : decode mN_saysTheSame.2.1 27 = .ok (.ifCond .eq 75, 3) := by decide +kernel
theorem dN_saysTheSame_30 : decode mN_saysTheSame.2.1 30 = .ok (.aload_n 0, 1) := by decide +kernel
theorem dN_saysTheSame_31 : decode mN_saysTheSame.2.1 31 = .ok (.getfield 30, 3) := by decide +kernel
theorem dN_saysTheSame_34 : decode mN_saysTheSame.2.1 34 = .ok (.aload_n 1, 1) := by decide +kernel
theorem dN_saysTheSame_35 : decode mN_saysTheSame.2.1 35 = .ok (.getfield 30, 3) := by decide +kernel
theorem dN_saysTheSame_38 : decode mN_saysTheSame.2.1 38 = .ok (.dcmp .l, 1) := by decide +kernel
theorem dN_saysTheSame_39 : decode mN_saysTheSame.2.1 39 = .ok (.ifCond .ne 63, 3) := by decide +kernel
theorem dN_saysTheSame_42 : decode mN_saysTheSame.2.1 42 = .ok (.aload_n 0, 1) := by decide +kernel
theorem dN_saysTheSame_43 : decode mN_saysTheSame.2.1 43 = .ok (.getfield 54, 3) := by decide +kernel
theorem dN_saysTheSame_46 : decode mN_saysTheSame.2.1 46 = .ok (.aload_n 1, 1) := by decide +kernel
theorem dN_saysTheSame_47 : decode mN_saysTheSame.2.1 47 = .ok (.getfield 54, 3) := by decide +kernel
theorem dN_saysTheSame_50 : decode mN_saysTheSame.2.1 50 = .ok (.if_icmp .ne 52, 3) := by decide +kernel
theorem dN_saysTheSame_53 : decode mN_saysTheSame.2.1 53 = .ok (.aload_n 0, 1) := by decide +kernel
theorem dN_saysTheSame_54 : decode mN_saysTheSame.2.1 54 = .ok (.getfield 41, 3) := by decide +kernel
theorem dN_saysTheSame_57 : decode mN_saysTheSame.2.1 57 = .ok (.aload_n 1, 1) := by decide +kernel
theorem dN_saysTheSame_58 : decode mN_saysTheSame.2.1 58 = .ok (.getfield 41, 3) := by decide +kernel
theorem dN_saysTheSame_61 : decode mN_saysTheSame.2.1 61 = .ok (.if_icmp .ne 41, 3) := by decide +kernel
theorem dN_saysTheSame_64 : decode mN_saysTheSame.2.1 64 = .ok (.aload_n 0, 1) := by decide +kernel
theorem dN_saysTheSame_65 : decode mN_saysTheSame.2.1 65 = .ok (.getfield 44, 3) := by decide +kernel
theorem dN_saysTheSame_68 : decode mN_saysTheSame.2.1 68 = .ok (.aload_n 1, 1) := by decide +kernel
theorem dN_saysTheSame_69 : decode mN_saysTheSame.2.1 69 = .ok (.getfield 44, 3) := by decide +kernel
theorem dN_saysTheSame_72 : decode mN_saysTheSame.2.1 72 = .ok (.dcmp .l, 1) := by decide +kernel
theorem dN_saysTheSame_73 : decode mN_saysTheSame.2.1 73 = .ok (.ifCond .ne 29, 3) := by decide +kernel
theorem dN_saysTheSame_76 : decode mN_saysTheSame.2.1 76 = .ok (.aload_n 0, 1) := by decide +kernel
theorem dN_saysTheSame_77 : decode mN_saysTheSame.2.1 77 = .ok (.getfield 57, 3) := by decide +kernel
theorem dN_saysTheSame_80 : decode mN_saysTheSame.2.1 80 = .ok (.aload_n 1, 1) := by decide +kernel
theorem dN_saysTheSame_81 : decode mN_saysTheSame.2.1 81 = .ok (.getfield 57, 3) := by decide +kernel
theorem dN_saysTheSame_84 : decode mN_saysTheSame.2.1 84 = .ok (.if_icmp .ne 18, 3) := by decide +kernel
theorem dN_saysTheSame_87 : decode mN_saysTheSame.2.1 87 = .ok (.aload_n 0, 1) := by decide +kernel
theorem dN_saysTheSame_88 : decode mN_saysTheSame.2.1 88 = .ok (.getfield 60, 3) := by decide +kernel
theorem dN_saysTheSame_91 : decode mN_saysTheSame.2.1 91 = .ok (.aload_n 1, 1) := by decide +kernel
theorem dN_saysTheSame_92 : decode mN_saysTheSame.2.1 92 = .ok (.getfield 60, 3) := by decide +kernel
theorem dN_saysTheSame_95 : decode mN_saysTheSame.2.1 95 = .ok (.if_icmp .ne 7, 3) := by decide +kernel
theorem dN_saysTheSame_98 : decode mN_saysTheSame.2.1 98 = .ok (.iconst 1, 1) := by decide +kernel
theorem dN_saysTheSame_99 : decode mN_saysTheSame.2.1 99 = .ok (.goto 4, 3) := by decide +kernel
theorem dN_saysTheSame_102 : decode mN_saysTheSame.2.1 102 = .ok (.iconst 0, 1) := by decide +kernel
theorem dN_saysTheSame_103 : decode mN_saysTheSame.2.1 103 = .ok (.ireturn, 1) := by decide +kernel
theorem dG_markNeeded_0 : decode mG_markNeeded.2.1 0 = .ok (.aload_n 0, 1) := by decide +kernel
theorem dG_markNeeded_1 : decode mG_markNeeded.2.1 1 = .ok (.getfield 21, 3) := by decide +kernel
theorem dG_markNeeded_4 : decode mG_markNeeded.2.1 4 = .ok (.iconst 0, 1) := by decide +kernel
theorem dG_markNeeded_5 : decode mG_markNeeded.2.1 5 = .ok (.invokestatic 106, 3) := by decide +kernel
theorem dG_markNeeded_8 : decode mG_markNeeded.2.1 8 = .ok (.aload_n 0, 1) := by decide +kernel
theorem dG_markNeeded_9 : decode mG_markNeeded.2.1 9 = .ok (.getfield 21, 3) := by decide +kernel
theorem dG_markNeeded_12 : decode mG_markNeeded.2.1 12 = .ok (.iload_n 1, 1) := by decide +kernel
theorem dG_markNeeded_13 : decode mG_markNeeded.2.1 13 = .ok (.iconst 2, 1) := by decide +kernel
theorem dG_markNeeded_14 : decode mG_markNeeded.2.1 14 = .ok (.iastore, 1) := by decide +kernel
theorem dG_markNeeded_15 : decode mG_markNeeded.2.1 15 = .ok (.iload_n 1, 1) := by decide +kernel
theorem dG_markNeeded_16 : decode mG_markNeeded.2.1 16 = .ok (.istore_n 2, 1) := by decide +kernel
theorem dG_markNeeded_17 : decode mG_markNeeded.2.1 17 = .ok (.iload_n 2, 1) := by decide +kernel
theorem dG_markNeeded_18 : decode mG_markNeeded.2.1 18 = .ok (.ifCond .lt 45, 3) := by decide +kernel
theorem dG_markNeeded_21 : decode mG_markNeeded.2.1 21 = .ok (.aload_n 0, 1) := by decide +kernel
theorem dG_markNeeded_22 : decode mG_markNeeded.2.1 22 = .ok (.getfield 21, 3) := by decide +kernel
theorem dG_markNeeded_25 : decode mG_markNeeded.2.1 25 = .ok (.iload_n 2, 1) := by decide +kernel
theorem dG_markNeeded_26 : decode mG_markNeeded.2.1 26 = .ok (.iaload, 1) := by decide +kernel
theorem dG_markNeeded_27 : decode mG_markNeeded.2.1 27 = .ok (.iconst 2, 1) := by decide +kernel
theorem dG_markNeeded_28 : decode mG_markNeeded.2.1 28 = .ok (.if_icmp .ne 29, 3) := by decide +kernel
theorem dG_markNeeded_31 : decode mG_markNeeded.2.1 31 = .ok (.aload_n 0, 1) := by decide +kernel
theorem dG_markNeeded_32 : decode mG_markNeeded.2.1 32 = .ok (.aload_n 0, 1) := by decide +kernel
theorem dG_markNeeded_33 : decode mG_markNeeded.2.1 33 = .ok (.getfield 11, 3) := by decide +kernel
theorem dG_markNeeded_36 : decode mG_markNeeded.2.1 36 = .ok (.iload_n 2, 1) := by decide +kernel
theorem dG_markNeeded_37 : decode mG_markNeeded.2.1 37 = .ok (.aaload, 1) := by decide +kernel
theorem dG_markNeeded_38 : decode mG_markNeeded.2.1 38 = .ok (.getfield 56, 3) := by decide +kernel
theorem dG_markNeeded_41 : decode mG_markNeeded.2.1 41 = .ok (.invokevirtual 112, 3) := by decide +kernel
theorem dG_markNeeded_44 : decode mG_markNeeded.2.1 44 = .ok (.aload_n 0, 1) := by decide +kernel
theorem dG_markNeeded_45 : decode mG_markNeeded.2.1 45 = .ok (.aload_n 0, 1) := by decide +kernel
theorem dG_markNeeded_46 : decode mG_markNeeded.2.1 46 = .ok (.getfield 11, 3) := by decide +kernel
theorem dG_markNeeded_49 : decode mG_markNeeded.2.1 49 = .ok (.iload_n 2, 1) := by decide +kernel
theorem dG_markNeeded_50 : decode mG_markNeeded.2.1 50 = .ok (.aaload, 1) := by decide +kernel
theorem dG_markNeeded_51 : decode mG_markNeeded.2.1 51 = .ok (.getfield 103, 3) := by decide +kernel
theorem dG_markNeeded_54 : decode mG_markNeeded.2.1 54 = .ok (.invokevirtual 112, 3) := by decide +kernel
theorem dG_markNeeded_57 : decode mG_markNeeded.2.1 57 = .ok (.iinc 2 (-1), 3) := by decide +kernel
theorem dG_markNeeded_60 : decode mG_markNeeded.2.1 60 = .ok (.goto (-43), 3) := by decide +kernel
theorem dG_markNeeded_63 : decode mG_markNeeded.2.1 63 = .ok (.return_, 1) := by decide +kernel
theorem dJ_fill_0 : decode mJ_fill.2.1 0 = .ok (.iconst 0, 1) := by decide +kernel
theorem dJ_fill_1 : decode mJ_fill.2.1 1 = .ok (.istore_n 2, 1) := by decide +kernel
theorem dJ_fill_2 : decode mJ_fill.2.1 2 = .ok (.aload_n 0, 1) := by decide +kernel
theorem dJ_fill_3 : decode mJ_fill.2.1 3 = .ok (.arraylength, 1) := by decide +kernel
theorem dJ_fill_4 : decode mJ_fill.2.1 4 = .ok (.istore_n 3, 1) := by decide +kernel
theorem dJ_fill_5 : decode mJ_fill.2.1 5 = .ok (.iload_n 2, 1) := by decide +kernel
theorem dJ_fill_6 : decode mJ_fill.2.1 6 = .ok (.iload_n 3, 1) := by decide +kernel
theorem dJ_fill_7 : decode mJ_fill.2.1 7 = .ok (.if_icmp .ge 13, 3) := by decide +kernel
theorem dJ_fill_10 : decode mJ_fill.2.1 10 = .ok (.aload_n 0, 1) := by decide +kernel
theorem dJ_fill_11 : decode mJ_fill.2.1 11 = .ok (.iload_n 2, 1) := by decide +kernel
theorem dJ_fill_12 : decode mJ_fill.2.1 12 = .ok (.iload_n 1, 1) := by decide +kernel
theorem dJ_fill_13 : decode mJ_fill.2.1 13 = .ok (.iastore, 1) := by decide +kernel
theorem dJ_fill_14 : decode mJ_fill.2.1 14 = .ok (.iinc 2 1, 3) := by decide +kernel
theorem dJ_fill_17 : decode mJ_fill.2.1 17 = .ok (.goto (-12), 3) := by decide +kernel
theorem dJ_fill_20 : decode mJ_fill.2.1 20 = .ok (.return_, 1) := by decide +kernel
theorem dG_need_0 : decode mG_need.2.1 0 = .ok (.iload_n 1, 1) := by decide +kernel
theorem dG_need_1 : decode mG_need.2.1 1 = .ok (.iconst (-1), 1) := by decide +kernel
theorem dG_need_2 : decode mG_need.2.1 2 = .ok (.if_icmp .eq 15, 3) := by decide +kernel
theorem dG_need_5 : decode mG_need.2.1 5 = .ok (.aload_n 0, 1) := by decide +kernel
theorem dG_need_6 : decode mG_need.2.1 6 = .ok (.getfield 21, 3) := by decide +kernel
theorem dG_need_9 : decode mG_need.2.1 9 = .ok (.aload_n 0, 1) := by decide +kernel
theorem dG_need_10 : decode mG_need.2.1 10 = .ok (.getfield 17, 3) := by decide +kernel
theorem dG_need_13 : decode mG_need.2.1 13 = .ok (.iload_n 1, 1) := by decide +kernel
theorem dG_need_14 : decode mG_need.2.1 14 = .ok (.iaload, 1) := by decide +kernel
theorem dG_need_15 : decode mG_need.2.1 15 = .ok (.iconst 2, 1) := by decide +kernel
theorem dG_need_16 : decode mG_need.2.1 16 = .ok (.iastore, 1) := by decide +kernel
theorem dG_need_17 : decode mG_need.2.1 17 = .ok (.return_, 1) := by decide +kernel
theorem dG_fuse_0 : decode mG_fuse.2.1 0 = .ok (.iconst 0, 1) := by decide +kernel
theorem dG_fuse_1 : decode mG_fuse.2.1 1 = .ok (.istore_n 2, 1) := by decide +kernel
theorem dG_fuse_2 : decode mG_fuse.2.1 2 = .ok (.iload_n 2, 1) := by decide +kernel
theorem dG_fuse_3 : decode mG_fuse.2.1 3 = .ok (.aload_n 0, 1) := by decide +kernel
theorem dG_fuse_4 : decode mG_fuse.2.1 4 = .ok (.getfield 33, 3) := by decide +kernel
theorem dG_fuse_7 : decode mG_fuse.2.1 7 = .ok (.if_icmp .ge 51, 3) := by decide +kernel
theorem dG_fuse_10 : decode mG_fuse.2.1 10 = .ok (.aload_n 0, 1) := by decide +kernel
theorem dG_fuse_11 : decode mG_fuse.2.1 11 = .ok (.getfield 21, 3) := by decide +kernel
theorem dG_fuse_14 : decode mG_fuse.2.1 14 = .ok (.iload_n 2, 1) := by decide +kernel
theorem dG_fuse_15 : decode mG_fuse.2.1 15 = .ok (.iaload, 1) := by decide +kernel
theorem dG_fuse_16 : decode mG_fuse.2.1 16 = .ok (.iconst 2, 1) := by decide +kernel
theorem dG_fuse_17 : decode mG_fuse.2.1 17 = .ok (.if_icmp .ne 35, 3) := by decide +kernel
theorem dG_fuse_20 : decode mG_fuse.2.1 20 = .ok (.iload_n 2, 1) := by decide +kernel
theorem dG_fuse_21 : decode mG_fuse.2.1 21 = .ok (.iload_n 1, 1) := by decide +kernel
theorem dG_fuse_22 : decode mG_fuse.2.1 22 = .ok (.if_icmp .eq 30, 3) := by decide +kernel
theorem dG_fuse_25 : decode mG_fuse.2.1 25 = .ok (.aload_n 0, 1) := by decide +kernel
theorem dG_fuse_26 : decode mG_fuse.2.1 26 = .ok (.getfield 11, 3) := by decide +kernel
theorem dG_fuse_29 : decode mG_fuse.2.1 29 = .ok (.iload_n 2, 1) := by decide +kernel
theorem dG_fuse_30 : decode mG_fuse.2.1 30 = .ok (.aaload, 1) := by decide +kernel
theorem dG_fuse_31 : decode mG_fuse.2.1 31 = .ok (.invokevirtual 115, 3) := by decide +kernel
theorem dG_fuse_34 : decode mG_fuse.2.1 34 = .ok (.ifCond .eq 18, 3) := by decide +kernel
theorem dG_fuse_37 : decode mG_fuse.2.1 37 = .ok (.aload_n 0, 1) := by decide +kernel
theorem dG_fuse_38 : decode mG_fuse.2.1 38 = .ok (.iload_n 2, 1) := by decide +kernel
theorem dG_fuse_39 : decode mG_fuse.2.1 39 = .ok (.invokevirtual 119, 3) := by decide +kernel
theorem dG_fuse_42 : decode mG_fuse.2.1 42 = .ok (.ifCond .eq 10, 3) := by decide +kernel
theorem dG_fuse_45 : decode mG_fuse.2.1 45 = .ok (.aload_n 0, 1) := by decide +kernel
theorem dG_fuse_46 : decode mG_fuse.2.1 46 = .ok (.getfield 21, 3) := by decide +kernel
theorem dG_fuse_49 : decode mG_fuse.2.1 49 = .ok (.iload_n 2, 1) := by decide +kernel
theorem dG_fuse_50 : decode mG_fuse.2.1 50 = .ok (.iconst 1, 1) := by decide +kernel
theorem dG_fuse_51 : decode mG_fuse.2.1 51 = .ok (.iastore, 1) := by decide +kernel
theorem dG_fuse_52 : decode mG_fuse.2.1 52 = .ok (.iinc 2 1, 3) := by decide +kernel
theorem dG_fuse_55 : decode mG_fuse.2.1 55 = .ok (.goto (-53), 3) := by decide +kernel
theorem dG_fuse_58 : decode mG_fuse.2.1 58 = .ok (.return_, 1) := by decide +kernel
theorem dN_hasWeights_0 : decode mN_hasWeights.2.1 0 = .ok (.aload_n 0, 1) := by decide +kernel
theorem dN_hasWeights_1 : decode mN_hasWeights.2.1 1 = .ok (.getfield 9, 3) := by decide +kernel
theorem dN_hasWeights_4 : decode mN_hasWeights.2.1 4 = .ok (.iconst 1, 1) := by decide +kernel
theorem dN_hasWeights_5 : decode mN_hasWeights.2.1 5 = .ok (.if_icmp .eq 19, 3) := by decide +kernel
theorem dN_hasWeights_8 : decode mN_hasWeights.2.1 8 = .ok (.aload_n 0, 1) := by decide +kernel
theorem dN_hasWeights_9 : decode mN_hasWeights.2.1 9 = .ok (.getfield 9, 3) := by decide +kernel
theorem dN_hasWeights_12 : decode mN_hasWeights.2.1 12 = .ok (.iconst 2, 1) := by decide +kernel
theorem dN_hasWeights_13 : decode mN_hasWeights.2.1 13 = .ok (.if_icmp .eq 11, 3) := by decide +kernel
theorem dN_hasWeights_16 : decode mN_hasWeights.2.1 16 = .ok (.aload_n 0, 1) := by decide +kernel
theorem dN_hasWeights_17 : decode mN_hasWeights.2.1 17 = .ok (.getfield 9, 3) := by decide +kernel
theorem dN_hasWeights_20 : decode mN_hasWeights.2.1 20 = .ok (.iconst 3, 1) := by decide +kernel
theorem dN_hasWeights_21 : decode mN_hasWeights.2.1 21 = .ok (.if_icmp .ne 7, 3) := by decide +kernel
theorem dN_hasWeights_24 : decode mN_hasWeights.2.1 24 = .ok (.iconst 1, 1) := by decide +kernel
theorem dN_hasWeights_25 : decode mN_hasWeights.2.1 25 = .ok (.goto 4, 3) := by decide +kernel
theorem dN_hasWeights_28 : decode mN_hasWeights.2.1 28 = .ok (.iconst 0, 1) := by decide +kernel
theorem dN_hasWeights_29 : decode mN_hasWeights.2.1 29 = .ok (.ireturn, 1) := by decide +kernel
theorem dG_feedsOneClamp_0 : decode mG_feedsOneClamp.2.1 0 = .ok (.iconst 0, 1) := by decide +kernel
theorem dG_feedsOneClamp_1 : decode mG_feedsOneClamp.2.1 1 = .ok (.istore_n 2, 1) := by decide +kernel
theorem dG_feedsOneClamp_2 : decode mG_feedsOneClamp.2.1 2 = .ok (.iconst 0, 1) := by decide +kernel
theorem dG_feedsOneClamp_3 : decode mG_feedsOneClamp.2.1 3 = .ok (.istore_n 3, 1) := by decide +kernel
theorem dG_feedsOneClamp_4 : decode mG_feedsOneClamp.2.1 4 = .ok (.iload_n 1, 1) := by decide +kernel
theorem dG_feedsOneClamp_5 : decode mG_feedsOneClamp.2.1 5 = .ok (.iconst 1, 1) := by decide +kernel
theorem dG_feedsOneClamp_6 : decode mG_feedsOneClamp.2.1 6 = .ok (.iadd, 1) := by decide +kernel
theorem dG_feedsOneClamp_7 : decode mG_feedsOneClamp.2.1 7 = .ok (.istore 4, 2) := by decide +kernel
theorem dG_feedsOneClamp_9 : decode mG_feedsOneClamp.2.1 9 = .ok (.iload 4, 2) := by decide +kernel
theorem dG_feedsOneClamp_11 : decode mG_feedsOneClamp.2.1 11 = .ok (.aload_n 0, 1) := by decide +kernel
theorem dG_feedsOneClamp_12 : decode mG_feedsOneClamp.2.1 12 = .ok (.getfield 33, 3) := by decide +kernel
theorem dG_feedsOneClamp_15 : decode mG_feedsOneClamp.2.1 15 = .ok (.if_icmp .ge 62, 3) := by decide +kernel
theorem dG_feedsOneClamp_18 : decode mG_feedsOneClamp.2.1 18 = .ok (.aload_n 0, 1) := by decide +kernel
theorem dG_feedsOneClamp_19 : decode mG_feedsOneClamp.2.1 19 = .ok (.getfield 21, 3) := by decide +kernel
theorem dG_feedsOneClamp_22 : decode mG_feedsOneClamp.2.1 22 = .ok (.iload 4, 2) := by decide +kernel
theorem dG_feedsOneClamp_24 : decode mG_feedsOneClamp.2.1 24 = .ok (.iaload, 1) := by decide +kernel
theorem dG_feedsOneClamp_25 : decode mG_feedsOneClamp.2.1 25 = .ok (.ifCond .eq 46, 3) := by decide +kernel
theorem dG_feedsOneClamp_28 : decode mG_feedsOneClamp.2.1 28 = .ok (.aload_n 0, 1) := by decide +kernel
theorem dG_feedsOneClamp_29 : decode mG_feedsOneClamp.2.1 29 = .ok (.aload_n 0, 1) := by decide +kernel
theorem dG_feedsOneClamp_30 : decode mG_feedsOneClamp.2.1 30 = .ok (.getfield 11, 3) := by decide +kernel
theorem dG_feedsOneClamp_33 : decode mG_feedsOneClamp.2.1 33 = .ok (.iload 4, 2) := by decide +kernel
theorem dG_feedsOneClamp_35 : decode mG_feedsOneClamp.2.1 35 = .ok (.aaload, 1) := by decide +kernel
theorem dG_feedsOneClamp_36 : decode mG_feedsOneClamp.2.1 36 = .ok (.iload_n 1, 1) := by decide +kernel
theorem dG_feedsOneClamp_37 : decode mG_feedsOneClamp.2.1 37 = .ok (.invokevirtual 123, 3) := by decide +kernel
theorem dG_feedsOneClamp_40 : decode mG_feedsOneClamp.2.1 40 = .ok (.istore 5, 2) := by decide +kernel
theorem dG_feedsOneClamp_42 : decode mG_feedsOneClamp.2.1 42 = .ok (.iload_n 2, 1) := by decide +kernel
theorem dG_feedsOneClamp_43 : decode mG_feedsOneClamp.2.1 43 = .ok (.iload 5, 2) := by decide +kernel
theorem dG_feedsOneClamp_45 : decode mG_feedsOneClamp.2.1 45 = .ok (.iadd, 1) := by decide +kernel
theorem dG_feedsOneClamp_46 : decode mG_feedsOneClamp.2.1 46 = .ok (.istore_n 2, 1) := by decide +kernel
theorem dG_feedsOneClamp_47 : decode mG_feedsOneClamp.2.1 47 = .ok (.iload_n 3, 1) := by decide +kernel
theorem dG_feedsOneClamp_48 : decode mG_feedsOneClamp.2.1 48 = .ok (.aload_n 0, 1) := by decide +kernel
theorem dG_feedsOneClamp_49 : decode mG_feedsOneClamp.2.1 49 = .ok (.getfield 11, 3) := by decide +kernel
theorem dG_feedsOneClamp_52 : decode mG_feedsOneClamp.2.1 52 = .ok (.iload 4, 2) := by decide +kernel
theorem dG_feedsOneClamp_54 : decode mG_feedsOneClamp.2.1 54 = .ok (.aaload, 1) := by decide +kernel
theorem dG_feedsOneClamp_55 : decode mG_feedsOneClamp.2.1 55 = .ok (.getfield 70, 3) := by decide +kernel
theorem dG_feedsOneClamp_58 : decode mG_feedsOneClamp.2.1 58 = .ok (.bipush 9, 2) := by decide +kernel
theorem dG_feedsOneClamp_60 : decode mG_feedsOneClamp.2.1 60 = .ok (.if_icmp .ne 8, 3) := by decide +kernel
theorem dG_feedsOneClamp_63 : decode mG_feedsOneClamp.2.1 63 = .ok (.iload 5, 2) := by decide +kernel
theorem dG_feedsOneClamp_65 : decode mG_feedsOneClamp.2.1 65 = .ok (.goto 4, 3) := by decide +kernel
theorem dG_feedsOneClamp_68 : decode mG_feedsOneClamp.2.1 68 = .ok (.iconst 0, 1) := by decide +kernel
theorem dG_feedsOneClamp_69 : decode mG_feedsOneClamp.2.1 69 = .ok (.iadd, 1) := by decide +kernel
theorem dG_feedsOneClamp_70 : decode mG_feedsOneClamp.2.1 70 = .ok (.istore_n 3, 1) := by decide +kernel
theorem dG_feedsOneClamp_71 : decode mG_feedsOneClamp.2.1 71 = .ok (.iinc 4 1, 3) := by decide +kernel
theorem dG_feedsOneClamp_74 : decode mG_feedsOneClamp.2.1 74 = .ok (.goto (-65), 3) := by decide +kernel
theorem dG_feedsOneClamp_77 : decode mG_feedsOneClamp.2.1 77 = .ok (.iload_n 2, 1) := by decide +kernel
theorem dG_feedsOneClamp_78 : decode mG_feedsOneClamp.2.1 78 = .ok (.iconst 1, 1) := by decide +kernel
theorem dG_feedsOneClamp_79 : decode mG_feedsOneClamp.2.1 79 = .ok (.if_icmp .ne 12, 3) := by decide +kernel
theorem dG_feedsOneClamp_82 : decode mG_feedsOneClamp.2.1 82 = .ok (.iload_n 3, 1) := by decide +kernel
theorem dG_feedsOneClamp_83 : decode mG_feedsOneClamp.2.1 83 = .ok (.iconst 1, 1) := by decide +kernel
theorem dG_feedsOneClamp_84 : decode mG_feedsOneClamp.2.1 84 = .ok (.if_icmp .ne 7, 3) := by decide +kernel
theorem dG_feedsOneClamp_87 : decode mG_feedsOneClamp.2.1 87 = .ok (.iconst 1, 1) := by decide +kernel
theorem dG_feedsOneClamp_88 : decode mG_feedsOneClamp.2.1 88 = .ok (.goto 4, 3) := by decide +kernel
theorem dG_feedsOneClamp_91 : decode mG_feedsOneClamp.2.1 91 = .ok (.iconst 0, 1) := by decide +kernel
theorem dG_feedsOneClamp_92 : decode mG_feedsOneClamp.2.1 92 = .ok (.ireturn, 1) := by decide +kernel
theorem dG_timesUsed_0 : decode mG_timesUsed.2.1 0 = .ok (.aload_n 0, 1) := by decide +kernel
theorem dG_timesUsed_1 : decode mG_timesUsed.2.1 1 = .ok (.aload_n 1, 1) := by decide +kernel
theorem dG_timesUsed_2 : decode mG_timesUsed.2.1 2 = .ok (.getfield 56, 3) := by decide +kernel
theorem dG_timesUsed_5 : decode mG_timesUsed.2.1 5 = .ok (.invokevirtual 59, 3) := by decide +kernel
theorem dG_timesUsed_8 : decode mG_timesUsed.2.1 8 = .ok (.iload_n 2, 1) := by decide +kernel
theorem dG_timesUsed_9 : decode mG_timesUsed.2.1 9 = .ok (.if_icmp .ne 7, 3) := by decide +kernel
theorem dG_timesUsed_12 : decode mG_timesUsed.2.1 12 = .ok (.iconst 1, 1) := by decide +kernel
theorem dG_timesUsed_13 : decode mG_timesUsed.2.1 13 = .ok (.goto 4, 3) := by decide +kernel
theorem dG_timesUsed_16 : decode mG_timesUsed.2.1 16 = .ok (.iconst 0, 1) := by decide +kernel
theorem dG_timesUsed_17 : decode mG_timesUsed.2.1 17 = .ok (.aload_n 0, 1) := by decide +kernel
theorem dG_timesUsed_18 : decode mG_timesUsed.2.1 18 = .ok (.aload_n 1, 1) := by decide +kernel
theorem dG_timesUsed_19 : decode mG_timesUsed.2.1 19 = .ok (.getfield 103, 3) := by decide +kernel
theorem dG_timesUsed_22 : decode mG_timesUsed.2.1 22 = .ok (.invokevirtual 59, 3) := by decide +kernel
theorem dG_timesUsed_25 : decode mG_timesUsed.2.1 25 = .ok (.iload_n 2, 1) := by decide +kernel
theorem dG_timesUsed_26 : decode mG_timesUsed.2.1 26 = .ok (.if_icmp .ne 7, 3) := by decide +kernel
theorem dG_timesUsed_29 : decode mG_timesUsed.2.1 29 = .ok (.iconst 1, 1) := by decide +kernel
theorem dG_timesUsed_30 : decode mG_timesUsed.2.1 30 = .ok (.goto 4, 3) := by decide +kernel
theorem dG_timesUsed_33 : decode mG_timesUsed.2.1 33 = .ok (.iconst 0, 1) := by decide +kernel
theorem dG_timesUsed_34 : decode mG_timesUsed.2.1 34 = .ok (.iadd, 1) := by decide +kernel
theorem dG_timesUsed_35 : decode mG_timesUsed.2.1 35 = .ok (.ireturn, 1) := by decide +kernel
theorem dG_countSteps_0 : decode mG_countSteps.2.1 0 = .ok (.aload_n 0, 1) := by decide +kernel
theorem dG_countSteps_1 : decode mG_countSteps.2.1 1 = .ok (.iconst 0, 1) := by decide +kernel
theorem dG_countSteps_2 : decode mG_countSteps.2.1 2 = .ok (.putfield 127, 3) := by decide +kernel
theorem dG_countSteps_5 : decode mG_countSteps.2.1 5 = .ok (.iconst 0, 1) := by decide +kernel
theorem dG_countSteps_6 : decode mG_countSteps.2.1 6 = .ok (.istore_n 1, 1) := by decide +kernel
theorem dG_countSteps_7 : decode mG_countSteps.2.1 7 = .ok (.iload_n 1, 1) := by decide +kernel
theorem dG_countSteps_8 : decode mG_countSteps.2.1 8 = .ok (.aload_n 0, 1) := by decide +kernel
theorem dG_countSteps_9 : decode mG_countSteps.2.1 9 = .ok (.getfield 33, 3) := by decide +kernel
theorem dG_countSteps_12 : decode mG_countSteps.2.1 12 = .ok (.if_icmp .ge 39, 3) := by decide +kernel
theorem dG_countSteps_15 : decode mG_countSteps.2.1 15 = .ok (.aload_n 0, 1) := by decide +kernel
theorem dG_countSteps_16 : decode mG_countSteps.2.1 16 = .ok (.getfield 21, 3) := by decide +kernel
theorem dG_countSteps_19 : decode mG_countSteps.2.1 19 = .ok (.iload_n 1, 1) := by decide +kernel
theorem dG_countSteps_20 : decode mG_countSteps.2.1 20 = .ok (.iaload, 1) := by decide +kernel
theorem dG_countSteps_21 : decode mG_countSteps.2.1 21 = .ok (.iconst 2, 1) := by decide +kernel
theorem dG_countSteps_22 : decode mG_countSteps.2.1 22 = .ok (.if_icmp .ne 23, 3) := by decide +kernel
theorem dG_countSteps_25 : decode mG_countSteps.2.1 25 = .ok (.aload_n 0, 1) := by decide +kernel
theorem dG_countSteps_26 : decode mG_countSteps.2.1 26 = .ok (.getfield 24, 3) := by decide +kernel
theorem dG_countSteps_29 : decode mG_countSteps.2.1 29 = .ok (.iload_n 1, 1) := by decide +kernel
theorem dG_countSteps_30 : decode mG_countSteps.2.1 30 = .ok (.aload_n 0, 1) := by decide +kernel
theorem dG_countSteps_31 : decode mG_countSteps.2.1 31 = .ok (.getfield 127, 3) := by decide +kernel
theorem dG_countSteps_34 : decode mG_countSteps.2.1 34 = .ok (.iastore, 1) := by decide +kernel
theorem dG_countSteps_35 : decode mG_countSteps.2.1 35 = .ok (.aload_n 0, 1) := by decide +kernel
theorem dG_countSteps_36 : decode mG_countSteps.2.1 36 = .ok (.dup, 1) := by decide +kernel
theorem dG_countSteps_37 : decode mG_countSteps.2.1 37 = .ok (.getfield 127, 3) := by decide +kernel
theorem dG_countSteps_40 : decode mG_countSteps.2.1 40 = .ok (.iconst 1, 1) := by decide +kernel
theorem dG_countSteps_41 : decode mG_countSteps.2.1 41 = .ok (.iadd, 1) := by decide +kernel
theorem dG_countSteps_42 : decode mG_countSteps.2.1 42 = .ok (.putfield 127, 3) := by decide +kernel
theorem dG_countSteps_45 : decode mG_countSteps.2.1 45 = .ok (.iinc 1 1, 3) := by decide +kernel
theorem dG_countSteps_48 : decode mG_countSteps.2.1 48 = .ok (.goto (-41), 3) := by decide +kernel
theorem dG_countSteps_51 : decode mG_countSteps.2.1 51 = .ok (.return_, 1) := by decide +kernel
theorem dG_findLives_0 : decode mG_findLives.2.1 0 = .ok (.iconst 0, 1) := by decide +kernel
end
section
theorem dG_findLives_1 : decode mG_findLives.2.1 1 = .ok (.istore_n 2, 1) := by decide +kernel
theorem dG_findLives_2 : decode mG_findLives.2.1 2 = .ok (.iload_n 2, 1) := by decide +kernel
theorem dG_findLives_3 : decode mG_findLives.2.1 3 = .ok (.aload_n 0, 1) := by decide +kernel
theorem dG_findLives_4 : decode mG_findLives.2.1 4 = .ok (.getfield 33, 3) := by decide +kernel
theorem dG_findLives_7 : decode mG_findLives.2.1 7 = .ok (.if_icmp .ge 84, 3) := by decide +kernel
theorem dG_findLives_10 : decode mG_findLives.2.1 10 = .ok (.aload_n 0, 1) := by decide +kernel
theorem dG_findLives_11 : decode mG_findLives.2.1 11 = .ok (.getfield 21, 3) := by decide +kernel
theorem dG_findLives_14 : decode mG_findLives.2.1 14 = .ok (.iload_n 2, 1) := by decide +kernel
theorem dG_findLives_15 : decode mG_findLives.2.1 15 = .ok (.iaload, 1) := by decide +kernel
theorem dG_findLives_16 : decode mG_findLives.2.1 16 = .ok (.iconst 2, 1) := by decide +kernel
theorem dG_findLives_17 : decode mG_findLives.2.1 17 = .ok (.if_icmp .ne 68, 3) := by decide +kernel
theorem dG_findLives_20 : decode mG_findLives.2.1 20 = .ok (.aload_n 0, 1) := by decide +kernel
theorem dG_findLives_21 : decode mG_findLives.2.1 21 = .ok (.getfield 30, 3) := by decide +kernel
theorem dG_findLives_24 : decode mG_findLives.2.1 24 = .ok (.iload_n 2, 1) := by decide +kernel
theorem dG_findLives_25 : decode mG_findLives.2.1 25 = .ok (.aload_n 0, 1) := by decide +kernel
theorem dG_findLives_26 : decode mG_findLives.2.1 26 = .ok (.getfield 24, 3) := by decide +kernel
theorem dG_findLives_29 : decode mG_findLives.2.1 29 = .ok (.iload_n 2, 1) := by decide +kernel
theorem dG_findLives_30 : decode mG_findLives.2.1 30 = .ok (.iaload, 1) := by decide +kernel
theorem dG_findLives_31 : decode mG_findLives.2.1 31 = .ok (.iastore, 1) := by decide +kernel
theorem dG_findLives_32 : decode mG_findLives.2.1 32 = .ok (.aload_n 0, 1) := by decide +kernel
theorem dG_findLives_33 : decode mG_findLives.2.1 33 = .ok (.iload_n 2, 1) := by decide +kernel
theorem dG_findLives_34 : decode mG_findLives.2.1 34 = .ok (.invokevirtual 130, 3) := by decide +kernel
theorem dG_findLives_37 : decode mG_findLives.2.1 37 = .ok (.istore_n 3, 1) := by decide +kernel
theorem dG_findLives_38 : decode mG_findLives.2.1 38 = .ok (.aload_n 0, 1) := by decide +kernel
theorem dG_findLives_39 : decode mG_findLives.2.1 39 = .ok (.getfield 11, 3) := by decide +kernel
theorem dG_findLives_42 : decode mG_findLives.2.1 42 = .ok (.iload_n 3, 1) := by decide +kernel
theorem dG_findLives_43 : decode mG_findLives.2.1 43 = .ok (.iconst (-1), 1) := by decide +kernel
theorem dG_findLives_44 : decode mG_findLives.2.1 44 = .ok (.if_icmp .ne 7, 3) := by decide +kernel
theorem dG_findLives_47 : decode mG_findLives.2.1 47 = .ok (.iload_n 2, 1) := by decide +kernel
theorem dG_findLives_48 : decode mG_findLives.2.1 48 = .ok (.goto 4, 3) := by decide +kernel
theorem dG_findLives_51 : decode mG_findLives.2.1 51 = .ok (.iload_n 3, 1) := by decide +kernel
theorem dG_findLives_52 : decode mG_findLives.2.1 52 = .ok (.aaload, 1) := by decide +kernel
theorem dG_findLives_53 : decode mG_findLives.2.1 53 = .ok (.astore 4, 2) := by decide +kernel
theorem dG_findLives_55 : decode mG_findLives.2.1 55 = .ok (.aload_n 0, 1) := by decide +kernel
theorem dG_findLives_56 : decode mG_findLives.2.1 56 = .ok (.aload 4, 2) := by decide +kernel
theorem dG_findLives_58 : decode mG_findLives.2.1 58 = .ok (.getfield 56, 3) := by decide +kernel
theorem dG_findLives_61 : decode mG_findLives.2.1 61 = .ok (.aload_n 0, 1) := by decide +kernel
theorem dG_findLives_62 : decode mG_findLives.2.1 62 = .ok (.getfield 24, 3) := by decide +kernel
theorem dG_findLives_65 : decode mG_findLives.2.1 65 = .ok (.iload_n 2, 1) := by decide +kernel
theorem dG_findLives_66 : decode mG_findLives.2.1 66 = .ok (.iaload, 1) := by decide +kernel
theorem dG_findLives_67 : decode mG_findLives.2.1 67 = .ok (.invokevirtual 133, 3) := by decide +kernel
theorem dG_findLives_70 : decode mG_findLives.2.1 70 = .ok (.aload_n 0, 1) := by decide +kernel
theorem dG_findLives_71 : decode mG_findLives.2.1 71 = .ok (.aload 4, 2) := by decide +kernel
theorem dG_findLives_73 : decode mG_findLives.2.1 73 = .ok (.getfield 103, 3) := by decide +kernel
theorem dG_findLives_76 : decode mG_findLives.2.1 76 = .ok (.aload_n 0, 1) := by decide +kernel
theorem dG_findLives_77 : decode mG_findLives.2.1 77 = .ok (.getfield 24, 3) := by decide +kernel
theorem dG_findLives_80 : decode mG_findLives.2.1 80 = .ok (.iload_n 2, 1) := by decide +kernel
theorem dG_findLives_81 : decode mG_findLives.2.1 81 = .ok (.iaload, 1) := by decide +kernel
theorem dG_findLives_82 : decode mG_findLives.2.1 82 = .ok (.invokevirtual 133, 3) := by decide +kernel
theorem dG_findLives_85 : decode mG_findLives.2.1 85 = .ok (.iinc 2 1, 3) := by decide +kernel
theorem dG_findLives_88 : decode mG_findLives.2.1 88 = .ok (.goto (-86), 3) := by decide +kernel
theorem dG_findLives_91 : decode mG_findLives.2.1 91 = .ok (.aload_n 0, 1) := by decide +kernel
theorem dG_findLives_92 : decode mG_findLives.2.1 92 = .ok (.getfield 30, 3) := by decide +kernel
theorem dG_findLives_95 : decode mG_findLives.2.1 95 = .ok (.iload_n 1, 1) := by decide +kernel
theorem dG_findLives_96 : decode mG_findLives.2.1 96 = .ok (.aload_n 0, 1) := by decide +kernel
theorem dG_findLives_97 : decode mG_findLives.2.1 97 = .ok (.getfield 127, 3) := by decide +kernel
theorem dG_findLives_100 : decode mG_findLives.2.1 100 = .ok (.iconst 1, 1) := by decide +kernel
theorem dG_findLives_101 : decode mG_findLives.2.1 101 = .ok (.isub, 1) := by decide +kernel
theorem dG_findLives_102 : decode mG_findLives.2.1 102 = .ok (.iastore, 1) := by decide +kernel
theorem dG_findLives_103 : decode mG_findLives.2.1 103 = .ok (.return_, 1) := by decide +kernel
theorem dG_fusedInto_0 : decode mG_fusedInto.2.1 0 = .ok (.aload_n 0, 1) := by decide +kernel
theorem dG_fusedInto_1 : decode mG_fusedInto.2.1 1 = .ok (.aload_n 0, 1) := by decide +kernel
theorem dG_fusedInto_2 : decode mG_fusedInto.2.1 2 = .ok (.getfield 11, 3) := by decide +kernel
theorem dG_fusedInto_5 : decode mG_fusedInto.2.1 5 = .ok (.iload_n 1, 1) := by decide +kernel
theorem dG_fusedInto_6 : decode mG_fusedInto.2.1 6 = .ok (.aaload, 1) := by decide +kernel
theorem dG_fusedInto_7 : decode mG_fusedInto.2.1 7 = .ok (.getfield 56, 3) := by decide +kernel
theorem dG_fusedInto_10 : decode mG_fusedInto.2.1 10 = .ok (.invokevirtual 59, 3) := by decide +kernel
theorem dG_fusedInto_13 : decode mG_fusedInto.2.1 13 = .ok (.istore_n 2, 1) := by decide +kernel
theorem dG_fusedInto_14 : decode mG_fusedInto.2.1 14 = .ok (.iload_n 2, 1) := by decide +kernel
theorem dG_fusedInto_15 : decode mG_fusedInto.2.1 15 = .ok (.iconst (-1), 1) := by decide +kernel
theorem dG_fusedInto_16 : decode mG_fusedInto.2.1 16 = .ok (.if_icmp .eq 17, 3) := by decide +kernel
theorem dG_fusedInto_19 : decode mG_fusedInto.2.1 19 = .ok (.aload_n 0, 1) := by decide +kernel
theorem dG_fusedInto_20 : decode mG_fusedInto.2.1 20 = .ok (.getfield 21, 3) := by decide +kernel
theorem dG_fusedInto_23 : decode mG_fusedInto.2.1 23 = .ok (.iload_n 2, 1) := by decide +kernel
theorem dG_fusedInto_24 : decode mG_fusedInto.2.1 24 = .ok (.iaload, 1) := by decide +kernel
theorem dG_fusedInto_25 : decode mG_fusedInto.2.1 25 = .ok (.iconst 1, 1) := by decide +kernel
theorem dG_fusedInto_26 : decode mG_fusedInto.2.1 26 = .ok (.if_icmp .ne 7, 3) := by decide +kernel
theorem dG_fusedInto_29 : decode mG_fusedInto.2.1 29 = .ok (.iload_n 2, 1) := by decide +kernel
theorem dG_fusedInto_30 : decode mG_fusedInto.2.1 30 = .ok (.goto 4, 3) := by decide +kernel
theorem dG_fusedInto_33 : decode mG_fusedInto.2.1 33 = .ok (.iconst (-1), 1) := by decide +kernel
theorem dG_fusedInto_34 : decode mG_fusedInto.2.1 34 = .ok (.ireturn, 1) := by decide +kernel
theorem dG_keepAlive_0 : decode mG_keepAlive.2.1 0 = .ok (.iload_n 1, 1) := by decide +kernel
theorem dG_keepAlive_1 : decode mG_keepAlive.2.1 1 = .ok (.iconst (-1), 1) := by decide +kernel
theorem dG_keepAlive_2 : decode mG_keepAlive.2.1 2 = .ok (.if_icmp .eq 15, 3) := by decide +kernel
theorem dG_keepAlive_5 : decode mG_keepAlive.2.1 5 = .ok (.aload_n 0, 1) := by decide +kernel
theorem dG_keepAlive_6 : decode mG_keepAlive.2.1 6 = .ok (.getfield 30, 3) := by decide +kernel
theorem dG_keepAlive_9 : decode mG_keepAlive.2.1 9 = .ok (.aload_n 0, 1) := by decide +kernel
theorem dG_keepAlive_10 : decode mG_keepAlive.2.1 10 = .ok (.getfield 17, 3) := by decide +kernel
theorem dG_keepAlive_13 : decode mG_keepAlive.2.1 13 = .ok (.iload_n 1, 1) := by decide +kernel
theorem dG_keepAlive_14 : decode mG_keepAlive.2.1 14 = .ok (.iaload, 1) := by decide +kernel
theorem dG_keepAlive_15 : decode mG_keepAlive.2.1 15 = .ok (.iload_n 2, 1) := by decide +kernel
theorem dG_keepAlive_16 : decode mG_keepAlive.2.1 16 = .ok (.iastore, 1) := by decide +kernel
theorem dG_keepAlive_17 : decode mG_keepAlive.2.1 17 = .ok (.return_, 1) := by decide +kernel
theorem dG_givePlaces_0 : decode mG_givePlaces.2.1 0 = .ok (.aload_n 0, 1) := by decide +kernel
theorem dG_givePlaces_1 : decode mG_givePlaces.2.1 1 = .ok (.iconst 0, 1) := by decide +kernel
theorem dG_givePlaces_2 : decode mG_givePlaces.2.1 2 = .ok (.putfield 137, 3) := by decide +kernel
theorem dG_givePlaces_5 : decode mG_givePlaces.2.1 5 = .ok (.aload_n 0, 1) := by decide +kernel
theorem dG_givePlaces_6 : decode mG_givePlaces.2.1 6 = .ok (.getfield 27, 3) := by decide +kernel
theorem dG_givePlaces_9 : decode mG_givePlaces.2.1 9 = .ok (.iconst (-1), 1) := by decide +kernel
theorem dG_givePlaces_10 : decode mG_givePlaces.2.1 10 = .ok (.invokestatic 106, 3) := by decide +kernel
theorem dG_givePlaces_13 : decode mG_givePlaces.2.1 13 = .ok (.iconst 0, 1) := by decide +kernel
theorem dG_givePlaces_14 : decode mG_givePlaces.2.1 14 = .ok (.istore_n 1, 1) := by decide +kernel
theorem dG_givePlaces_15 : decode mG_givePlaces.2.1 15 = .ok (.iload_n 1, 1) := by decide +kernel
theorem dG_givePlaces_16 : decode mG_givePlaces.2.1 16 = .ok (.aload_n 0, 1) := by decide +kernel
theorem dG_givePlaces_17 : decode mG_givePlaces.2.1 17 = .ok (.getfield 127, 3) := by decide +kernel
theorem dG_givePlaces_20 : decode mG_givePlaces.2.1 20 = .ok (.if_icmp .ge 57, 3) := by decide +kernel
theorem dG_givePlaces_23 : decode mG_givePlaces.2.1 23 = .ok (.aload_n 0, 1) := by decide +kernel
theorem dG_givePlaces_24 : decode mG_givePlaces.2.1 24 = .ok (.invokevirtual 140, 3) := by decide +kernel
theorem dG_givePlaces_27 : decode mG_givePlaces.2.1 27 = .ok (.istore_n 2, 1) := by decide +kernel
theorem dG_givePlaces_28 : decode mG_givePlaces.2.1 28 = .ok (.iload_n 2, 1) := by decide +kernel
theorem dG_givePlaces_29 : decode mG_givePlaces.2.1 29 = .ok (.iconst (-1), 1) := by decide +kernel
theorem dG_givePlaces_30 : decode mG_givePlaces.2.1 30 = .ok (.if_icmp .eq 41, 3) := by decide +kernel
theorem dG_givePlaces_33 : decode mG_givePlaces.2.1 33 = .ok (.aload_n 0, 1) := by decide +kernel
theorem dG_givePlaces_34 : decode mG_givePlaces.2.1 34 = .ok (.getfield 27, 3) := by decide +kernel
theorem dG_givePlaces_37 : decode mG_givePlaces.2.1 37 = .ok (.iload_n 2, 1) := by decide +kernel
theorem dG_givePlaces_38 : decode mG_givePlaces.2.1 38 = .ok (.aload_n 0, 1) := by decide +kernel
theorem dG_givePlaces_39 : decode mG_givePlaces.2.1 39 = .ok (.iload_n 2, 1) := by decide +kernel
theorem dG_givePlaces_40 : decode mG_givePlaces.2.1 40 = .ok (.invokevirtual 144, 3) := by decide +kernel
theorem dG_givePlaces_43 : decode mG_givePlaces.2.1 43 = .ok (.iastore, 1) := by decide +kernel
theorem dG_givePlaces_44 : decode mG_givePlaces.2.1 44 = .ok (.aload_n 0, 1) := by decide +kernel
theorem dG_givePlaces_45 : decode mG_givePlaces.2.1 45 = .ok (.aload_n 0, 1) := by decide +kernel
theorem dG_givePlaces_46 : decode mG_givePlaces.2.1 46 = .ok (.getfield 137, 3) := by decide +kernel
theorem dG_givePlaces_49 : decode mG_givePlaces.2.1 49 = .ok (.aload_n 0, 1) := by decide +kernel
theorem dG_givePlaces_50 : decode mG_givePlaces.2.1 50 = .ok (.getfield 27, 3) := by decide +kernel
theorem dG_givePlaces_53 : decode mG_givePlaces.2.1 53 = .ok (.iload_n 2, 1) := by decide +kernel
theorem dG_givePlaces_54 : decode mG_givePlaces.2.1 54 = .ok (.iaload, 1) := by decide +kernel
theorem dG_givePlaces_55 : decode mG_givePlaces.2.1 55 = .ok (.aload_n 0, 1) := by decide +kernel
theorem dG_givePlaces_56 : decode mG_givePlaces.2.1 56 = .ok (.getfield 11, 3) := by decide +kernel
theorem dG_givePlaces_59 : decode mG_givePlaces.2.1 59 = .ok (.iload_n 2, 1) := by decide +kernel
theorem dG_givePlaces_60 : decode mG_givePlaces.2.1 60 = .ok (.aaload, 1) := by decide +kernel
theorem dG_givePlaces_61 : decode mG_givePlaces.2.1 61 = .ok (.getfield 147, 3) := by decide +kernel
theorem dG_givePlaces_64 : decode mG_givePlaces.2.1 64 = .ok (.iadd, 1) := by decide +kernel
theorem dG_givePlaces_65 : decode mG_givePlaces.2.1 65 = .ok (.invokestatic 150, 3) := by decide +kernel
theorem dG_givePlaces_68 : decode mG_givePlaces.2.1 68 = .ok (.putfield 137, 3) := by decide +kernel
theorem dG_givePlaces_71 : decode mG_givePlaces.2.1 71 = .ok (.iinc 1 1, 3) := by decide +kernel
theorem dG_givePlaces_74 : decode mG_givePlaces.2.1 74 = .ok (.goto (-59), 3) := by decide +kernel
theorem dG_givePlaces_77 : decode mG_givePlaces.2.1 77 = .ok (.return_, 1) := by decide +kernel
theorem dG_largestWithoutPlace_0 : decode mG_largestWithoutPlace.2.1 0 = .ok (.iconst (-1), 1) := by decide +kernel
theorem dG_largestWithoutPlace_1 : decode mG_largestWithoutPlace.2.1 1 = .ok (.istore_n 1, 1) := by decide +kernel
theorem dG_largestWithoutPlace_2 : decode mG_largestWithoutPlace.2.1 2 = .ok (.iconst 0, 1) := by decide +kernel
theorem dG_largestWithoutPlace_3 : decode mG_largestWithoutPlace.2.1 3 = .ok (.istore_n 2, 1) := by decide +kernel
theorem dG_largestWithoutPlace_4 : decode mG_largestWithoutPlace.2.1 4 = .ok (.iload_n 2, 1) := by decide +kernel
theorem dG_largestWithoutPlace_5 : decode mG_largestWithoutPlace.2.1 5 = .ok (.aload_n 0, 1) := by decide +kernel
theorem dG_largestWithoutPlace_6 : decode mG_largestWithoutPlace.2.1 6 = .ok (.getfield 33, 3) := by decide +kernel
theorem dG_largestWithoutPlace_9 : decode mG_largestWithoutPlace.2.1 9 = .ok (.if_icmp .ge 67, 3) := by decide +kernel
theorem dG_largestWithoutPlace_12 : decode mG_largestWithoutPlace.2.1 12 = .ok (.aload_n 0, 1) := by decide +kernel
theorem dG_largestWithoutPlace_13 : decode mG_largestWithoutPlace.2.1 13 = .ok (.getfield 21, 3) := by decide +kernel
theorem dG_largestWithoutPlace_16 : decode mG_largestWithoutPlace.2.1 16 = .ok (.iload_n 2, 1) := by decide +kernel
theorem dG_largestWithoutPlace_17 : decode mG_largestWithoutPlace.2.1 17 = .ok (.iaload, 1) := by decide +kernel
theorem dG_largestWithoutPlace_18 : decode mG_largestWithoutPlace.2.1 18 = .ok (.iconst 2, 1) := by decide +kernel
theorem dG_largestWithoutPlace_19 : decode mG_largestWithoutPlace.2.1 19 = .ok (.if_icmp .ne 17, 3) := by decide +kernel
theorem dG_largestWithoutPlace_22 : decode mG_largestWithoutPlace.2.1 22 = .ok (.aload_n 0, 1) := by decide +kernel
theorem dG_largestWithoutPlace_23 : decode mG_largestWithoutPlace.2.1 23 = .ok (.getfield 27, 3) := by decide +kernel
theorem dG_largestWithoutPlace_26 : decode mG_largestWithoutPlace.2.1 26 = .ok (.iload_n 2, 1) := by decide +kernel
theorem dG_largestWithoutPlace_27 : decode mG_largestWithoutPlace.2.1 27 = .ok (.iaload, 1) := by decide +kernel
theorem dG_largestWithoutPlace_28 : decode mG_largestWithoutPlace.2.1 28 = .ok (.iconst (-1), 1) := by decide +kernel
theorem dG_largestWithoutPlace_29 : decode mG_largestWithoutPlace.2.1 29 = .ok (.if_icmp .ne 7, 3) := by decide +kernel
theorem dG_largestWithoutPlace_32 : decode mG_largestWithoutPlace.2.1 32 = .ok (.iconst 1, 1) := by decide +kernel
theorem dG_largestWithoutPlace_33 : decode mG_largestWithoutPlace.2.1 33 = .ok (.goto 4, 3) := by decide +kernel
theorem dG_largestWithoutPlace_36 : decode mG_largestWithoutPlace.2.1 36 = .ok (.iconst 0, 1) := by decide +kernel
theorem dG_largestWithoutPlace_37 : decode mG_largestWithoutPlace.2.1 37 = .ok (.istore_n 3, 1) := by decide +kernel
theorem dG_largestWithoutPlace_38 : decode mG_largestWithoutPlace.2.1 38 = .ok (.iload_n 3, 1) := by decide +kernel
theorem dG_largestWithoutPlace_39 : decode mG_largestWithoutPlace.2.1 39 = .ok (.ifCond .eq 31, 3) := by decide +kernel
theorem dG_largestWithoutPlace_42 : decode mG_largestWithoutPlace.2.1 42 = .ok (.iload_n 1, 1) := by decide +kernel
theorem dG_largestWithoutPlace_43 : decode mG_largestWithoutPlace.2.1 43 = .ok (.iconst (-1), 1) := by decide +kernel
theorem dG_largestWithoutPlace_44 : decode mG_largestWithoutPlace.2.1 44 = .ok (.if_icmp .eq 24, 3) := by decide +kernel
theorem dG_largestWithoutPlace_47 : decode mG_largestWithoutPlace.2.1 47 = .ok (.aload_n 0, 1) := by decide +kernel
theorem dG_largestWithoutPlace_48 : decode mG_largestWithoutPlace.2.1 48 = .ok (.getfield 11, 3) := by decide +kernel
theorem dG_largestWithoutPlace_51 : decode mG_largestWithoutPlace.2.1 51 = .ok (.iload_n 2, 1) := by decide +kernel
theorem dG_largestWithoutPlace_52 : decode mG_largestWithoutPlace.2.1 52 = .ok (.aaload, 1) := by decide +kernel
theorem dG_largestWithoutPlace_53 : decode mG_largestWithoutPlace.2.1 53 = .ok (.getfield 147, 3) := by decide +kernel
theorem dG_largestWithoutPlace_56 : decode mG_largestWithoutPlace.2.1 56 = .ok (.aload_n 0, 1) := by decide +kernel
theorem dG_largestWithoutPlace_57 : decode mG_largestWithoutPlace.2.1 57 = .ok (.getfield 11, 3) := by decide +kernel
theorem dG_largestWithoutPlace_60 : decode mG_largestWithoutPlace.2.1 60 = .ok (.iload_n 1, 1) := by decide +kernel
theorem dG_largestWithoutPlace_61 : decode mG_largestWithoutPlace.2.1 61 = .ok (.aaload, 1) := by decide +kernel
theorem dG_largestWithoutPlace_62 : decode mG_largestWithoutPlace.2.1 62 = .ok (.getfield 147, 3) := by decide +kernel
theorem dG_largestWithoutPlace_65 : decode mG_largestWithoutPlace.2.1 65 = .ok (.if_icmp .le 5, 3) := by decide +kernel
theorem dG_largestWithoutPlace_68 : decode mG_largestWithoutPlace.2.1 68 = .ok (.iload_n 2, 1) := by decide +kernel
theorem dG_largestWithoutPlace_69 : decode mG_largestWithoutPlace.2.1 69 = .ok (.istore_n 1, 1) := by decide +kernel
theorem dG_largestWithoutPlace_70 : decode mG_largestWithoutPlace.2.1 70 = .ok (.iinc 2 1, 3) := by decide +kernel
theorem dG_largestWithoutPlace_73 : decode mG_largestWithoutPlace.2.1 73 = .ok (.goto (-69), 3) := by decide +kernel
theorem dG_largestWithoutPlace_76 : decode mG_largestWithoutPlace.2.1 76 = .ok (.iload_n 1, 1) := by decide +kernel
theorem dG_largestWithoutPlace_77 : decode mG_largestWithoutPlace.2.1 77 = .ok (.ireturn, 1) := by decide +kernel
theorem dG_leastFreePlace_0 : decode mG_leastFreePlace.2.1 0 = .ok (.iconst 0, 1) := by decide +kernel
theorem dG_leastFreePlace_1 : decode mG_leastFreePlace.2.1 1 = .ok (.istore_n 2, 1) := by decide +kernel
theorem dG_leastFreePlace_2 : decode mG_leastFreePlace.2.1 2 = .ok (.iconst 0, 1) := by decide +kernel
theorem dG_leastFreePlace_3 : decode mG_leastFreePlace.2.1 3 = .ok (.istore_n 3, 1) := by decide +kernel
theorem dG_leastFreePlace_4 : decode mG_leastFreePlace.2.1 4 = .ok (.iload_n 3, 1) := by decide +kernel
theorem dG_leastFreePlace_5 : decode mG_leastFreePlace.2.1 5 = .ok (.bipush 14, 2) := by decide +kernel
theorem dG_leastFreePlace_7 : decode mG_leastFreePlace.2.1 7 = .ok (.if_icmp .ge 44, 3) := by decide +kernel
theorem dG_leastFreePlace_10 : decode mG_leastFreePlace.2.1 10 = .ok (.aload_n 0, 1) := by decide +kernel
theorem dG_leastFreePlace_11 : decode mG_leastFreePlace.2.1 11 = .ok (.iload_n 1, 1) := by decide +kernel
theorem dG_leastFreePlace_12 : decode mG_leastFreePlace.2.1 12 = .ok (.iload_n 2, 1) := by decide +kernel
theorem dG_leastFreePlace_13 : decode mG_leastFreePlace.2.1 13 = .ok (.invokevirtual 156, 3) := by decide +kernel
theorem dG_leastFreePlace_16 : decode mG_leastFreePlace.2.1 16 = .ok (.istore 4, 2) := by decide +kernel
theorem dG_leastFreePlace_18 : decode mG_leastFreePlace.2.1 18 = .ok (.iload 4, 2) := by decide +kernel
theorem dG_leastFreePlace_20 : decode mG_leastFreePlace.2.1 20 = .ok (.iconst (-1), 1) := by decide +kernel
theorem dG_leastFreePlace_21 : decode mG_leastFreePlace.2.1 21 = .ok (.if_icmp .ne 5, 3) := by decide +kernel
theorem dG_leastFreePlace_24 : decode mG_leastFreePlace.2.1 24 = .ok (.iload_n 2, 1) := by decide +kernel
theorem dG_leastFreePlace_25 : decode mG_leastFreePlace.2.1 25 = .ok (.ireturn, 1) := by decide +kernel
theorem dG_leastFreePlace_26 : decode mG_leastFreePlace.2.1 26 = .ok (.aload_n 0, 1) := by decide +kernel
theorem dG_leastFreePlace_27 : decode mG_leastFreePlace.2.1 27 = .ok (.getfield 27, 3) := by decide +kernel
theorem dG_leastFreePlace_30 : decode mG_leastFreePlace.2.1 30 = .ok (.iload 4, 2) := by decide +kernel
theorem dG_leastFreePlace_32 : decode mG_leastFreePlace.2.1 32 = .ok (.iaload, 1) := by decide +kernel
theorem dG_leastFreePlace_33 : decode mG_leastFreePlace.2.1 33 = .ok (.aload_n 0, 1) := by decide +kernel
theorem dG_leastFreePlace_34 : decode mG_leastFreePlace.2.1 34 = .ok (.getfield 11, 3) := by decide +kernel
theorem dG_leastFreePlace_37 : decode mG_leastFreePlace.2.1 37 = .ok (.iload 4, 2) := by decide +kernel
theorem dG_leastFreePlace_39 : decode mG_leastFreePlace.2.1 39 = .ok (.aaload, 1) := by decide +kernel
theorem dG_leastFreePlace_40 : decode mG_leastFreePlace.2.1 40 = .ok (.getfield 147, 3) := by decide +kernel
theorem dG_leastFreePlace_43 : decode mG_leastFreePlace.2.1 43 = .ok (.iadd, 1) := by decide +kernel
theorem dG_leastFreePlace_44 : decode mG_leastFreePlace.2.1 44 = .ok (.istore_n 2, 1) := by decide +kernel
theorem dG_leastFreePlace_45 : decode mG_leastFreePlace.2.1 45 = .ok (.iinc 3 1, 3) := by decide +kernel
theorem dG_leastFreePlace_48 : decode mG_leastFreePlace.2.1 48 = .ok (.goto (-44), 3) := by decide +kernel
theorem dG_leastFreePlace_51 : decode mG_leastFreePlace.2.1 51 = .ok (.iload_n 2, 1) := by decide +kernel
theorem dG_leastFreePlace_52 : decode mG_leastFreePlace.2.1 52 = .ok (.ireturn, 1) := by decide +kernel
theorem dG_nodeInTheWay_0 : decode mG_nodeInTheWay.2.1 0 = .ok (.iconst 0, 1) := by decide +kernel
theorem dG_nodeInTheWay_1 : decode mG_nodeInTheWay.2.1 1 = .ok (.istore_n 3, 1) := by decide +kernel
theorem dG_nodeInTheWay_2 : decode mG_nodeInTheWay.2.1 2 = .ok (.iload_n 3, 1) := by decide +kernel
theorem dG_nodeInTheWay_3 : decode mG_nodeInTheWay.2.1 3 = .ok (.aload_n 0, 1) := by decide +kernel
theorem dG_nodeInTheWay_4 : decode mG_nodeInTheWay.2.1 4 = .ok (.getfield 33, 3) := by decide +kernel
theorem dG_nodeInTheWay_7 : decode mG_nodeInTheWay.2.1 7 = .ok (.if_icmp .ge 70, 3) := by decide +kernel
theorem dG_nodeInTheWay_10 : decode mG_nodeInTheWay.2.1 10 = .ok (.aload_n 0, 1) := by decide +kernel
theorem dG_nodeInTheWay_11 : decode mG_nodeInTheWay.2.1 11 = .ok (.getfield 27, 3) := by decide +kernel
theorem dG_nodeInTheWay_14 : decode mG_nodeInTheWay.2.1 14 = .ok (.iload_n 3, 1) := by decide +kernel
theorem dG_nodeInTheWay_15 : decode mG_nodeInTheWay.2.1 15 = .ok (.iaload, 1) := by decide +kernel
theorem dG_nodeInTheWay_16 : decode mG_nodeInTheWay.2.1 16 = .ok (.iconst (-1), 1) := by decide +kernel
theorem dG_nodeInTheWay_17 : decode mG_nodeInTheWay.2.1 17 = .ok (.if_icmp .eq 54, 3) := by decide +kernel
theorem dG_nodeInTheWay_20 : decode mG_nodeInTheWay.2.1 20 = .ok (.aload_n 0, 1) := by decide +kernel
theorem dG_nodeInTheWay_21 : decode mG_nodeInTheWay.2.1 21 = .ok (.iload_n 1, 1) := by decide +kernel
theorem dG_nodeInTheWay_22 : decode mG_nodeInTheWay.2.1 22 = .ok (.iload_n 3, 1) := by decide +kernel
theorem dG_nodeInTheWay_23 : decode mG_nodeInTheWay.2.1 23 = .ok (.invokevirtual 159, 3) := by decide +kernel
theorem dG_nodeInTheWay_26 : decode mG_nodeInTheWay.2.1 26 = .ok (.ifCond .eq 45, 3) := by decide +kernel
theorem dG_nodeInTheWay_29 : decode mG_nodeInTheWay.2.1 29 = .ok (.iload_n 2, 1) := by decide +kernel
theorem dG_nodeInTheWay_30 : decode mG_nodeInTheWay.2.1 30 = .ok (.aload_n 0, 1) := by decide +kernel
theorem dG_nodeInTheWay_31 : decode mG_nodeInTheWay.2.1 31 = .ok (.getfield 27, 3) := by decide +kernel
theorem dG_nodeInTheWay_34 : decode mG_nodeInTheWay.2.1 34 = .ok (.iload_n 3, 1) := by decide +kernel
theorem dG_nodeInTheWay_35 : decode mG_nodeInTheWay.2.1 35 = .ok (.iaload, 1) := by decide +kernel
theorem dG_nodeInTheWay_36 : decode mG_nodeInTheWay.2.1 36 = .ok (.aload_n 0, 1) := by decide +kernel
theorem dG_nodeInTheWay_37 : decode mG_nodeInTheWay.2.1 37 = .ok (.getfield 11, 3) := by decide +kernel
theorem dG_nodeInTheWay_40 : decode mG_nodeInTheWay.2.1 40 = .ok (.iload_n 3, 1) := by decide +kernel
theorem dG_nodeInTheWay_41 : decode mG_nodeInTheWay.2.1 41 = .ok (.aaload, 1) := by decide +kernel
theorem dG_nodeInTheWay_42 : decode mG_nodeInTheWay.2.1 42 = .ok (.getfield 147, 3) := by decide +kernel
theorem dG_nodeInTheWay_45 : decode mG_nodeInTheWay.2.1 45 = .ok (.iadd, 1) := by decide +kernel
theorem dG_nodeInTheWay_46 : decode mG_nodeInTheWay.2.1 46 = .ok (.if_icmp .ge 25, 3) := by decide +kernel
theorem dG_nodeInTheWay_49 : decode mG_nodeInTheWay.2.1 49 = .ok (.aload_n 0, 1) := by decide +kernel
theorem dG_nodeInTheWay_50 : decode mG_nodeInTheWay.2.1 50 = .ok (.getfield 27, 3) := by decide +kernel
theorem dG_nodeInTheWay_53 : decode mG_nodeInTheWay.2.1 53 = .ok (.iload_n 3, 1) := by decide +kernel
theorem dG_nodeInTheWay_54 : decode mG_nodeInTheWay.2.1 54 = .ok (.iaload, 1) := by decide +kernel
theorem dG_nodeInTheWay_55 : decode mG_nodeInTheWay.2.1 55 = .ok (.iload_n 2, 1) := by decide +kernel
theorem dG_nodeInTheWay_56 : decode mG_nodeInTheWay.2.1 56 = .ok (.aload_n 0, 1) := by decide +kernel
theorem dG_nodeInTheWay_57 : decode mG_nodeInTheWay.2.1 57 = .ok (.getfield 11, 3) := by decide +kernel
theorem dG_nodeInTheWay_60 : decode mG_nodeInTheWay.2.1 60 = .ok (.iload_n 1, 1) := by decide +kernel
theorem dG_nodeInTheWay_61 : decode mG_nodeInTheWay.2.1 61 = .ok (.aaload, 1) := by decide +kernel
theorem dG_nodeInTheWay_62 : decode mG_nodeInTheWay.2.1 62 = .ok (.getfield 147, 3) := by decide +kernel
theorem dG_nodeInTheWay_65 : decode mG_nodeInTheWay.2.1 65 = .ok (.iadd, 1) := by decide +kernel
theorem dG_nodeInTheWay_66 : decode mG_nodeInTheWay.2.1 66 = .ok (.if_icmp .ge 5, 3) := by decide +kernel
theorem dG_nodeInTheWay_69 : decode mG_nodeInTheWay.2.1 69 = .ok (.iload_n 3, 1) := by decide +kernel
theorem dG_nodeInTheWay_70 : decode mG_nodeInTheWay.2.1 70 = .ok (.ireturn, 1) := by decide +kernel
theorem dG_nodeInTheWay_71 : decode mG_nodeInTheWay.2.1 71 = .ok (.iinc 3 1, 3) := by decide +kernel
theorem dG_nodeInTheWay_74 : decode mG_nodeInTheWay.2.1 74 = .ok (.goto (-72), 3) := by decide +kernel
theorem dG_nodeInTheWay_77 : decode mG_nodeInTheWay.2.1 77 = .ok (.iconst (-1), 1) := by decide +kernel
theorem dG_nodeInTheWay_78 : decode mG_nodeInTheWay.2.1 78 = .ok (.ireturn, 1) := by decide +kernel
theorem dG_liveTogether_0 : decode mG_liveTogether.2.1 0 = .ok (.aload_n 0, 1) := by decide +kernel
theorem dG_liveTogether_1 : decode mG_liveTogether.2.1 1 = .ok (.getfield 24, 3) := by decide +kernel
theorem dG_liveTogether_4 : decode mG_liveTogether.2.1 4 = .ok (.iload_n 1, 1) := by decide +kernel
theorem dG_liveTogether_5 : decode mG_liveTogether.2.1 5 = .ok (.iaload, 1) := by decide +kernel
theorem dG_liveTogether_6 : decode mG_liveTogether.2.1 6 = .ok (.aload_n 0, 1) := by decide +kernel
theorem dG_liveTogether_7 : decode mG_liveTogether.2.1 7 = .ok (.getfield 30, 3) := by decide +kernel
theorem dG_liveTogether_10 : decode mG_liveTogether.2.1 10 = .ok (.iload_n 2, 1) := by decide +kernel
theorem dG_liveTogether_11 : decode mG_liveTogether.2.1 11 = .ok (.iaload, 1) := by decide +kernel
theorem dG_liveTogether_12 : decode mG_liveTogether.2.1 12 = .ok (.if_icmp .gt 22, 3) := by decide +kernel
theorem dG_liveTogether_15 : decode mG_liveTogether.2.1 15 = .ok (.aload_n 0, 1) := by decide +kernel
theorem dG_liveTogether_16 : decode mG_liveTogether.2.1 16 = .ok (.getfield 24, 3) := by decide +kernel
theorem dG_liveTogether_19 : decode mG_liveTogether.2.1 19 = .ok (.iload_n 2, 1) := by decide +kernel
theorem dG_liveTogether_20 : decode mG_liveTogether.2.1 20 = .ok (.iaload, 1) := by decide +kernel
theorem dG_liveTogether_21 : decode mG_liveTogether.2.1 21 = .ok (.aload_n 0, 1) := by decide +kernel
theorem dG_liveTogether_22 : decode mG_liveTogether.2.1 22 = .ok (.getfield 30, 3) := by decide +kernel
theorem dG_liveTogether_25 : decode mG_liveTogether.2.1 25 = .ok (.iload_n 1, 1) := by decide +kernel
theorem dG_liveTogether_26 : decode mG_liveTogether.2.1 26 = .ok (.iaload, 1) := by decide +kernel
theorem dG_liveTogether_27 : decode mG_liveTogether.2.1 27 = .ok (.if_icmp .gt 7, 3) := by decide +kernel
theorem dG_liveTogether_30 : decode mG_liveTogether.2.1 30 = .ok (.iconst 1, 1) := by decide +kernel
theorem dG_liveTogether_31 : decode mG_liveTogether.2.1 31 = .ok (.goto 4, 3) := by decide +kernel
theorem dG_liveTogether_34 : decode mG_liveTogether.2.1 34 = .ok (.iconst 0, 1) := by decide +kernel
theorem dG_liveTogether_35 : decode mG_liveTogether.2.1 35 = .ok (.ireturn, 1) := by decide +kernel
theorem dL_feed_0 : decode mL_feed.2.1 0 = .ok (.aload 5, 2) := by decide +kernel
theorem dL_feed_2 : decode mL_feed.2.1 2 = .ok (.iconst 0, 1) := by decide +kernel
theorem dL_feed_3 : decode mL_feed.2.1 3 = .ok (.aload_n 0, 1) := by decide +kernel
theorem dL_feed_4 : decode mL_feed.2.1 4 = .ok (.iload_n 1, 1) := by decide +kernel
theorem dL_feed_5 : decode mL_feed.2.1 5 = .ok (.iload_n 2, 1) := by decide +kernel
theorem dL_feed_6 : decode mL_feed.2.1 6 = .ok (.lload_n 3, 1) := by decide +kernel
theorem dL_feed_7 : decode mL_feed.2.1 7 = .ok (.invokevirtual 66, 3) := by decide +kernel
theorem dL_feed_10 : decode mL_feed.2.1 10 = .ok (.i2l, 1) := by decide +kernel
theorem dL_feed_11 : decode mL_feed.2.1 11 = .ok (.lastore, 1) := by decide +kernel
theorem dL_feed_12 : decode mL_feed.2.1 12 = .ok (.goto 7, 3) := by decide +kernel
theorem dL_feed_15 : decode mL_feed.2.1 15 = .ok (.astore 6, 2) := by decide +kernel
theorem dL_feed_17 : decode mL_feed.2.1 17 = .ok (.iconst 1, 1) := by decide +kernel
theorem dL_feed_18 : decode mL_feed.2.1 18 = .ok (.ireturn, 1) := by decide +kernel
theorem dL_feed_19 : decode mL_feed.2.1 19 = .ok (.iconst 0, 1) := by decide +kernel
theorem dL_feed_20 : decode mL_feed.2.1 20 = .ok (.ireturn, 1) := by decide +kernel
theorem dT_feed_0 : decode mT_feed.2.1 0 = .ok (.aload_n 0, 1) := by decide +kernel
theorem dT_feed_1 : decode mT_feed.2.1 1 = .ok (.iload_n 1, 1) := by decide +kernel
theorem dT_feed_2 : decode mT_feed.2.1 2 = .ok (.invokevirtual 66, 3) := by decide +kernel
theorem dT_feed_5 : decode mT_feed.2.1 5 = .ok (.aload_n 0, 1) := by decide +kernel
theorem dT_feed_6 : decode mT_feed.2.1 6 = .ok (.getfield 12, 3) := by decide +kernel
theorem dT_feed_9 : decode mT_feed.2.1 9 = .ok (.getfield 74, 3) := by decide +kernel
theorem dT_feed_12 : decode mT_feed.2.1 12 = .ok (.iload_n 1, 1) := by decide +kernel
theorem dT_feed_13 : decode mT_feed.2.1 13 = .ok (.aaload, 1) := by decide +kernel
theorem dT_feed_14 : decode mT_feed.2.1 14 = .ok (.astore 5, 2) := by decide +kernel
theorem dT_feed_16 : decode mT_feed.2.1 16 = .ok (.aload 5, 2) := by decide +kernel
theorem dT_feed_18 : decode mT_feed.2.1 18 = .ok (.getfield 157, 3) := by decide +kernel
theorem dT_feed_21 : decode mT_feed.2.1 21 = .ok (.ifCond .ne 7, 3) := by decide +kernel
theorem dT_feed_24 : decode mT_feed.2.1 24 = .ok (.iconst 1, 1) := by decide +kernel
theorem dT_feed_25 : decode mT_feed.2.1 25 = .ok (.goto 4, 3) := by decide +kernel
theorem dT_feed_28 : decode mT_feed.2.1 28 = .ok (.iconst 0, 1) := by decide +kernel
theorem dT_feed_29 : decode mT_feed.2.1 29 = .ok (.invokestatic 125, 3) := by decide +kernel
theorem dT_feed_32 : decode mT_feed.2.1 32 = .ok (.iload_n 2, 1) := by decide +kernel
theorem dT_feed_33 : decode mT_feed.2.1 33 = .ok (.iconst 0, 1) := by decide +kernel
theorem dT_feed_34 : decode mT_feed.2.1 34 = .ok (.aload 5, 2) := by decide +kernel
theorem dT_feed_36 : decode mT_feed.2.1 36 = .ok (.getfield 118, 3) := by decide +kernel
theorem dT_feed_39 : decode mT_feed.2.1 39 = .ok (.iconst 1, 1) := by decide +kernel
theorem dT_feed_40 : decode mT_feed.2.1 40 = .ok (.isub, 1) := by decide +kernel
theorem dT_feed_41 : decode mT_feed.2.1 41 = .ok (.invokestatic 35, 3) := by decide +kernel
theorem dT_feed_44 : decode mT_feed.2.1 44 = .ok (.lload_n 3, 1) := by decide +kernel
theorem dT_feed_45 : decode mT_feed.2.1 45 = .ok (.aload 5, 2) := by decide +kernel
theorem dT_feed_47 : decode mT_feed.2.1 47 = .ok (.getfield 160, 3) := by decide +kernel
theorem dT_feed_50 : decode mT_feed.2.1 50 = .ok (.iload_n 2, 1) := by decide +kernel
theorem dT_feed_51 : decode mT_feed.2.1 51 = .ok (.invokestatic 43, 3) := by decide +kernel
theorem dT_feed_54 : decode mT_feed.2.1 54 = .ok (.ireturn, 1) := by decide +kernel
theorem dL_run_0 : decode mL_run.2.1 0 = .ok (.aload_n 2, 1) := by decide +kernel
theorem dL_run_1 : decode mL_run.2.1 1 = .ok (.iconst 0, 1) := by decide +kernel
theorem dL_run_2 : decode mL_run.2.1 2 = .ok (.aload_n 0, 1) := by decide +kernel
theorem dL_run_3 : decode mL_run.2.1 3 = .ok (.iload_n 1, 1) := by decide +kernel
theorem dL_run_4 : decode mL_run.2.1 4 = .ok (.invokevirtual 70, 3) := by decide +kernel
theorem dL_run_7 : decode mL_run.2.1 7 = .ok (.i2l, 1) := by decide +kernel
theorem dL_run_8 : decode mL_run.2.1 8 = .ok (.lastore, 1) := by decide +kernel
theorem dL_run_9 : decode mL_run.2.1 9 = .ok (.goto 12, 3) := by decide +kernel
theorem dL_run_12 : decode mL_run.2.1 12 = .ok (.astore_n 3, 1) := by decide +kernel
theorem dL_run_13 : decode mL_run.2.1 13 = .ok (.iconst 1, 1) := by decide +kernel
theorem dL_run_14 : decode mL_run.2.1 14 = .ok (.ireturn, 1) := by decide +kernel
theorem dL_run_15 : decode mL_run.2.1 15 = .ok (.astore_n 3, 1) := by decide +kernel
theorem dL_run_16 : decode mL_run.2.1 16 = .ok (.iconst 2, 1) := by decide +kernel
theorem dL_run_17 : decode mL_run.2.1 17 = .ok (.ireturn, 1) := by decide +kernel
theorem dL_run_18 : decode mL_run.2.1 18 = .ok (.astore_n 3, 1) := by decide +kernel
theorem dL_run_19 : decode mL_run.2.1 19 = .ok (.iconst 3, 1) := by decide +kernel
theorem dL_run_20 : decode mL_run.2.1 20 = .ok (.ireturn, 1) := by decide +kernel
theorem dL_run_21 : decode mL_run.2.1 21 = .ok (.iconst 0, 1) := by decide +kernel
theorem dL_run_22 : decode mL_run.2.1 22 = .ok (.ireturn, 1) := by decide +kernel
theorem dT_run_0 : decode mT_run.2.1 0 = .ok (.iload_n 1, 1) := by decide +kernel
theorem dT_run_1 : decode mT_run.2.1 1 = .ok (.ifCond .lt 7, 3) := by decide +kernel
theorem dT_run_4 : decode mT_run.2.1 4 = .ok (.iconst 1, 1) := by decide +kernel
theorem dT_run_5 : decode mT_run.2.1 5 = .ok (.goto 4, 3) := by decide +kernel
theorem dT_run_8 : decode mT_run.2.1 8 = .ok (.iconst 0, 1) := by decide +kernel
theorem dT_run_9 : decode mT_run.2.1 9 = .ok (.invokestatic 125, 3) := by decide +kernel
theorem dT_run_12 : decode mT_run.2.1 12 = .ok (.aload_n 0, 1) := by decide +kernel
theorem dT_run_13 : decode mT_run.2.1 13 = .ok (.invokevirtual 163, 3) := by decide +kernel
theorem dT_run_16 : decode mT_run.2.1 16 = .ok (.iload_n 1, 1) := by decide +kernel
theorem dT_run_17 : decode mT_run.2.1 17 = .ok (.aload_n 0, 1) := by decide +kernel
theorem dT_run_18 : decode mT_run.2.1 18 = .ok (.getfield 12, 3) := by decide +kernel
theorem dT_run_21 : decode mT_run.2.1 21 = .ok (.getfield 166, 3) := by decide +kernel
theorem dT_run_24 : decode mT_run.2.1 24 = .ok (.if_icmp .ge 13, 3) := by decide +kernel
theorem dT_run_27 : decode mT_run.2.1 27 = .ok (.new 169, 3) := by decide +kernel
theorem dT_run_30 : decode mT_run.2.1 30 = .ok (.dup, 1) := by decide +kernel
theorem dT_run_31 : decode mT_run.2.1 31 = .ok (.ldc 171, 2) := by decide +kernel
theorem dT_run_33 : decode mT_run.2.1 33 = .ok (.invokespecial 173, 3) := by decide +kernel
theorem dT_run_36 : decode mT_run.2.1 36 = .ok (.athrow, 1) := by decide +kernel
theorem dT_run_37 : decode mT_run.2.1 37 = .ok (.aload_n 0, 1) := by decide +kernel
theorem dT_run_38 : decode mT_run.2.1 38 = .ok (.getfield 19, 3) := by decide +kernel
theorem dT_run_41 : decode mT_run.2.1 41 = .ok (.aload_n 0, 1) := by decide +kernel
theorem dT_run_42 : decode mT_run.2.1 42 = .ok (.getfield 12, 3) := by decide +kernel
theorem dT_run_45 : decode mT_run.2.1 45 = .ok (.aload_n 0, 1) := by decide +kernel
theorem dT_run_46 : decode mT_run.2.1 46 = .ok (.getfield 27, 3) := by decide +kernel
theorem dT_run_49 : decode mT_run.2.1 49 = .ok (.invokevirtual 174, 3) := by decide +kernel
theorem dT_run_52 : decode mT_run.2.1 52 = .ok (.ireturn, 1) := by decide +kernel
theorem dT_requireCompiled_0 : decode mT_requireCompiled.2.1 0 = .ok (.aload_n 0, 1) := by decide +kernel
theorem dT_requireCompiled_1 : decode mT_requireCompiled.2.1 1 = .ok (.getfield 31, 3) := by decide +kernel
theorem dT_requireCompiled_4 : decode mT_requireCompiled.2.1 4 = .ok (.ifCond .ne 13, 3) := by decide +kernel
theorem dT_requireCompiled_7 : decode mT_requireCompiled.2.1 7 = .ok (.new 144, 3) := by decide +kernel
theorem dT_requireCompiled_10 : decode mT_requireCompiled.2.1 10 = .ok (.dup, 1) := by decide +kernel
theorem dT_requireCompiled_11 : decode mT_requireCompiled.2.1 11 = .ok (.ldc 249, 2) := by decide +kernel
theorem dT_requireCompiled_13 : decode mT_requireCompiled.2.1 13 = .ok (.invokespecial 148, 3) := by decide +kernel
theorem dT_requireCompiled_16 : decode mT_requireCompiled.2.1 16 = .ok (.athrow, 1) := by decide +kernel
theorem dT_requireCompiled_17 : decode mT_requireCompiled.2.1 17 = .ok (.return_, 1) := by decide +kernel
theorem dM_perform_0 : decode mM_perform.2.1 0 = .ok (.aload_n 0, 1) := by decide +kernel
theorem dM_perform_1 : decode mM_perform.2.1 1 = .ok (.getfield 15, 3) := by decide +kernel
theorem dM_perform_4 : decode mM_perform.2.1 4 = .ok (.iconst 0, 1) := by decide +kernel
theorem dM_perform_5 : decode mM_perform.2.1 5 = .ok (.invokestatic 35, 3) := by decide +kernel
theorem dM_perform_8 : decode mM_perform.2.1 8 = .ok (.aload_n 1, 1) := by decide +kernel
theorem dM_perform_9 : decode mM_perform.2.1 9 = .ok (.iload_n 2, 1) := by decide +kernel
theorem dM_perform_10 : decode mM_perform.2.1 10 = .ok (.invokevirtual 41, 3) := by decide +kernel
theorem dM_perform_13 : decode mM_perform.2.1 13 = .ok (.istore_n 3, 1) := by decide +kernel
theorem dM_perform_14 : decode mM_perform.2.1 14 = .ok (.iconst 0, 1) := by decide +kernel
theorem dM_perform_15 : decode mM_perform.2.1 15 = .ok (.istore 4, 2) := by decide +kernel
theorem dM_perform_17 : decode mM_perform.2.1 17 = .ok (.iload 4, 2) := by decide +kernel
theorem dM_perform_19 : decode mM_perform.2.1 19 = .ok (.iload_n 3, 1) := by decide +kernel
theorem dM_perform_20 : decode mM_perform.2.1 20 = .ok (.if_icmp .gt 27, 3) := by decide +kernel
theorem dM_perform_23 : decode mM_perform.2.1 23 = .ok (.aload_n 1, 1) := by decide +kernel
theorem dM_perform_24 : decode mM_perform.2.1 24 = .ok (.getfield 47, 3) := by decide +kernel
theorem dM_perform_27 : decode mM_perform.2.1 27 = .ok (.iload 4, 2) := by decide +kernel
theorem dM_perform_29 : decode mM_perform.2.1 29 = .ok (.iaload, 1) := by decide +kernel
theorem dM_perform_30 : decode mM_perform.2.1 30 = .ok (.iconst 2, 1) := by decide +kernel
theorem dM_perform_31 : decode mM_perform.2.1 31 = .ok (.if_icmp .ne 10, 3) := by decide +kernel
theorem dM_perform_34 : decode mM_perform.2.1 34 = .ok (.aload_n 0, 1) := by decide +kernel
theorem dM_perform_35 : decode mM_perform.2.1 35 = .ok (.aload_n 1, 1) := by decide +kernel
theorem dM_perform_36 : decode mM_perform.2.1 36 = .ok (.iload 4, 2) := by decide +kernel
theorem dM_perform_38 : decode mM_perform.2.1 38 = .ok (.invokevirtual 50, 3) := by decide +kernel
theorem dM_perform_41 : decode mM_perform.2.1 41 = .ok (.iinc 4 1, 3) := by decide +kernel
theorem dM_perform_44 : decode mM_perform.2.1 44 = .ok (.goto (-27), 3) := by decide +kernel
theorem dM_perform_47 : decode mM_perform.2.1 47 = .ok (.aload_n 0, 1) := by decide +kernel
theorem dM_perform_48 : decode mM_perform.2.1 48 = .ok (.aload_n 1, 1) := by decide +kernel
theorem dM_perform_49 : decode mM_perform.2.1 49 = .ok (.getfield 54, 3) := by decide +kernel
theorem dM_perform_52 : decode mM_perform.2.1 52 = .ok (.putfield 58, 3) := by decide +kernel
theorem dM_perform_55 : decode mM_perform.2.1 55 = .ok (.aload_n 0, 1) := by decide +kernel
theorem dM_perform_56 : decode mM_perform.2.1 56 = .ok (.aload_n 1, 1) := by decide +kernel
theorem dM_perform_57 : decode mM_perform.2.1 57 = .ok (.getfield 61, 3) := by decide +kernel
theorem dM_perform_60 : decode mM_perform.2.1 60 = .ok (.iload_n 3, 1) := by decide +kernel
theorem dM_perform_61 : decode mM_perform.2.1 61 = .ok (.iaload, 1) := by decide +kernel
theorem dM_perform_62 : decode mM_perform.2.1 62 = .ok (.putfield 64, 3) := by decide +kernel
theorem dM_perform_65 : decode mM_perform.2.1 65 = .ok (.aload_n 0, 1) := by decide +kernel
theorem dM_perform_66 : decode mM_perform.2.1 66 = .ok (.aload_n 1, 1) := by decide +kernel
theorem dM_perform_67 : decode mM_perform.2.1 67 = .ok (.getfield 67, 3) := by decide +kernel
theorem dM_perform_70 : decode mM_perform.2.1 70 = .ok (.iload_n 3, 1) := by decide +kernel
theorem dM_perform_71 : decode mM_perform.2.1 71 = .ok (.aaload, 1) := by decide +kernel
theorem dM_perform_72 : decode mM_perform.2.1 72 = .ok (.getfield 71, 3) := by decide +kernel
theorem dM_perform_75 : decode mM_perform.2.1 75 = .ok (.putfield 75, 3) := by decide +kernel
theorem dM_perform_78 : decode mM_perform.2.1 78 = .ok (.aload_n 0, 1) := by decide +kernel
theorem dM_perform_79 : decode mM_perform.2.1 79 = .ok (.aload_n 1, 1) := by decide +kernel
theorem dM_perform_80 : decode mM_perform.2.1 80 = .ok (.getfield 67, 3) := by decide +kernel
theorem dM_perform_83 : decode mM_perform.2.1 83 = .ok (.iload_n 3, 1) := by decide +kernel
theorem dM_perform_84 : decode mM_perform.2.1 84 = .ok (.aaload, 1) := by decide +kernel
theorem dM_perform_85 : decode mM_perform.2.1 85 = .ok (.getfield 78, 3) := by decide +kernel
theorem dM_perform_88 : decode mM_perform.2.1 88 = .ok (.putfield 82, 3) := by decide +kernel
theorem dM_perform_91 : decode mM_perform.2.1 91 = .ok (.aload_n 0, 1) := by decide +kernel
theorem dM_perform_92 : decode mM_perform.2.1 92 = .ok (.invokevirtual 85, 3) := by decide +kernel
theorem dM_perform_95 : decode mM_perform.2.1 95 = .ok (.ireturn, 1) := by decide +kernel
theorem dM_doStep_0 : decode mM_doStep.2.1 0 = .ok (.aload_n 1, 1) := by decide +kernel
theorem dM_doStep_1 : decode mM_doStep.2.1 1 = .ok (.getfield 61, 3) := by decide +kernel
theorem dM_doStep_4 : decode mM_doStep.2.1 4 = .ok (.iload_n 2, 1) := by decide +kernel
theorem dM_doStep_5 : decode mM_doStep.2.1 5 = .ok (.iaload, 1) := by decide +kernel
theorem dM_doStep_6 : decode mM_doStep.2.1 6 = .ok (.istore_n 3, 1) := by decide +kernel
theorem dM_doStep_7 : decode mM_doStep.2.1 7 = .ok (.aload_n 1, 1) := by decide +kernel
theorem dM_doStep_8 : decode mM_doStep.2.1 8 = .ok (.iload_n 2, 1) := by decide +kernel
theorem dM_doStep_9 : decode mM_doStep.2.1 9 = .ok (.invokevirtual 89, 3) := by decide +kernel
theorem dM_doStep_12 : decode mM_doStep.2.1 12 = .ok (.istore 4, 2) := by decide +kernel
theorem dM_doStep_14 : decode mM_doStep.2.1 14 = .ok (.iload 4, 2) := by decide +kernel
theorem dM_doStep_16 : decode mM_doStep.2.1 16 = .ok (.iconst (-1), 1) := by decide +kernel
theorem dM_doStep_17 : decode mM_doStep.2.1 17 = .ok (.if_icmp .ne 18, 3) := by decide +kernel
theorem dM_doStep_20 : decode mM_doStep.2.1 20 = .ok (.aload_n 0, 1) := by decide +kernel
theorem dM_doStep_21 : decode mM_doStep.2.1 21 = .ok (.aload_n 1, 1) := by decide +kernel
theorem dM_doStep_22 : decode mM_doStep.2.1 22 = .ok (.aload_n 1, 1) := by decide +kernel
theorem dM_doStep_23 : decode mM_doStep.2.1 23 = .ok (.getfield 67, 3) := by decide +kernel
theorem dM_doStep_26 : decode mM_doStep.2.1 26 = .ok (.iload_n 2, 1) := by decide +kernel
theorem dM_doStep_27 : decode mM_doStep.2.1 27 = .ok (.aaload, 1) := by decide +kernel
theorem dM_doStep_28 : decode mM_doStep.2.1 28 = .ok (.iload_n 3, 1) := by decide +kernel
theorem dM_doStep_29 : decode mM_doStep.2.1 29 = .ok (.invokevirtual 92, 3) := by decide +kernel
theorem dM_doStep_32 : decode mM_doStep.2.1 32 = .ok (.goto 28, 3) := by decide +kernel
theorem dM_doStep_35 : decode mM_doStep.2.1 35 = .ok (.aload_n 0, 1) := by decide +kernel
theorem dM_doStep_36 : decode mM_doStep.2.1 36 = .ok (.aload_n 1, 1) := by decide +kernel
theorem dM_doStep_37 : decode mM_doStep.2.1 37 = .ok (.aload_n 1, 1) := by decide +kernel
theorem dM_doStep_38 : decode mM_doStep.2.1 38 = .ok (.getfield 67, 3) := by decide +kernel
theorem dM_doStep_41 : decode mM_doStep.2.1 41 = .ok (.iload 4, 2) := by decide +kernel
theorem dM_doStep_43 : decode mM_doStep.2.1 43 = .ok (.aaload, 1) := by decide +kernel
theorem dM_doStep_44 : decode mM_doStep.2.1 44 = .ok (.iload_n 3, 1) := by decide +kernel
theorem dM_doStep_45 : decode mM_doStep.2.1 45 = .ok (.invokevirtual 92, 3) := by decide +kernel
theorem dM_doStep_48 : decode mM_doStep.2.1 48 = .ok (.aload_n 0, 1) := by decide +kernel
theorem dM_doStep_49 : decode mM_doStep.2.1 49 = .ok (.aload_n 1, 1) := by decide +kernel
theorem dM_doStep_50 : decode mM_doStep.2.1 50 = .ok (.getfield 67, 3) := by decide +kernel
theorem dM_doStep_53 : decode mM_doStep.2.1 53 = .ok (.iload_n 2, 1) := by decide +kernel
theorem dM_doStep_54 : decode mM_doStep.2.1 54 = .ok (.aaload, 1) := by decide +kernel
theorem dM_doStep_55 : decode mM_doStep.2.1 55 = .ok (.iload_n 3, 1) := by decide +kernel
theorem dM_doStep_56 : decode mM_doStep.2.1 56 = .ok (.iload_n 3, 1) := by decide +kernel
theorem dM_doStep_57 : decode mM_doStep.2.1 57 = .ok (.invokevirtual 96, 3) := by decide +kernel
theorem dM_doStep_60 : decode mM_doStep.2.1 60 = .ok (.return_, 1) := by decide +kernel
theorem dM_compute_0 : decode mM_compute.2.1 0 = .ok (.aload_n 2, 1) := by decide +kernel
theorem dM_compute_1 : decode mM_compute.2.1 1 = .ok (.getfield 100, 3) := by decide +kernel
theorem dM_compute_4 : decode mM_compute.2.1 4 = .ok (.iconst (-1), 1) := by decide +kernel
theorem dM_compute_5 : decode mM_compute.2.1 5 = .ok (.if_icmp .ne 21, 3) := by decide +kernel
theorem dM_compute_8 : decode mM_compute.2.1 8 = .ok (.aload_n 2, 1) := by decide +kernel
theorem dM_compute_9 : decode mM_compute.2.1 9 = .ok (.getfield 103, 3) := by decide +kernel
theorem dM_compute_12 : decode mM_compute.2.1 12 = .ok (.iconst 0, 1) := by decide +kernel
theorem dM_compute_13 : decode mM_compute.2.1 13 = .ok (.aload_n 0, 1) := by decide +kernel
theorem dM_compute_14 : decode mM_compute.2.1 14 = .ok (.getfield 15, 3) := by decide +kernel
theorem dM_compute_17 : decode mM_compute.2.1 17 = .ok (.iload_n 3, 1) := by decide +kernel
theorem dM_compute_18 : decode mM_compute.2.1 18 = .ok (.aload_n 2, 1) := by decide +kernel
theorem dM_compute_19 : decode mM_compute.2.1 19 = .ok (.getfield 71, 3) := by decide +kernel
theorem dM_compute_22 : decode mM_compute.2.1 22 = .ok (.invokestatic 106, 3) := by decide +kernel
theorem dM_compute_25 : decode mM_compute.2.1 25 = .ok (.return_, 1) := by decide +kernel
theorem dM_compute_26 : decode mM_compute.2.1 26 = .ok (.aload_n 1, 1) := by decide +kernel
theorem dM_compute_27 : decode mM_compute.2.1 27 = .ok (.getfield 67, 3) := by decide +kernel
theorem dM_compute_30 : decode mM_compute.2.1 30 = .ok (.aload_n 2, 1) := by decide +kernel
theorem dM_compute_31 : decode mM_compute.2.1 31 = .ok (.getfield 100, 3) := by decide +kernel
theorem dM_compute_34 : decode mM_compute.2.1 34 = .ok (.aaload, 1) := by decide +kernel
theorem dM_compute_35 : decode mM_compute.2.1 35 = .ok (.astore 4, 2) := by decide +kernel
theorem dM_compute_37 : decode mM_compute.2.1 37 = .ok (.aload_n 1, 1) := by decide +kernel
theorem dM_compute_38 : decode mM_compute.2.1 38 = .ok (.aload_n 2, 1) := by decide +kernel
theorem dM_compute_39 : decode mM_compute.2.1 39 = .ok (.getfield 100, 3) := by decide +kernel
theorem dM_compute_42 : decode mM_compute.2.1 42 = .ok (.invokevirtual 112, 3) := by decide +kernel
theorem dM_compute_45 : decode mM_compute.2.1 45 = .ok (.istore 5, 2) := by decide +kernel
theorem dM_compute_47 : decode mM_compute.2.1 47 = .ok (.aload_n 2, 1) := by decide +kernel
theorem dM_compute_48 : decode mM_compute.2.1 48 = .ok (.getfield 115, 3) := by decide +kernel
theorem dM_compute_51 : decode mM_compute.2.1 51 = .ok (.tableswitch 141 3 10 #[45, 58, 77, 98, 141, 141, 119, 130], 45) := by decide +kernel
theorem dM_compute_96 : decode mM_compute.2.1 96 = .ok (.aload_n 0, 1) := by decide +kernel
theorem dM_compute_97 : decode mM_compute.2.1 97 = .ok (.aload_n 2, 1) := by decide +kernel
theorem dM_compute_98 : decode mM_compute.2.1 98 = .ok (.aload 4, 2) := by decide +kernel
theorem dM_compute_100 : decode mM_compute.2.1 100 = .ok (.iload 5, 2) := by decide +kernel
theorem dM_compute_102 : decode mM_compute.2.1 102 = .ok (.iload_n 3, 1) := by decide +kernel
theorem dM_compute_103 : decode mM_compute.2.1 103 = .ok (.invokevirtual 118, 3) := by decide +kernel
theorem dM_compute_106 : decode mM_compute.2.1 106 = .ok (.goto 96, 3) := by decide +kernel
theorem dM_compute_109 : decode mM_compute.2.1 109 = .ok (.aload_n 0, 1) := by decide +kernel
theorem dM_compute_110 : decode mM_compute.2.1 110 = .ok (.aload_n 2, 1) := by decide +kernel
theorem dM_compute_111 : decode mM_compute.2.1 111 = .ok (.iload 5, 2) := by decide +kernel
theorem dM_compute_113 : decode mM_compute.2.1 113 = .ok (.aload_n 1, 1) := by decide +kernel
theorem dM_compute_114 : decode mM_compute.2.1 114 = .ok (.aload_n 2, 1) := by decide +kernel
theorem dM_compute_115 : decode mM_compute.2.1 115 = .ok (.getfield 122, 3) := by decide +kernel
theorem dM_compute_118 : decode mM_compute.2.1 118 = .ok (.invokevirtual 112, 3) := by decide +kernel
theorem dM_compute_121 : decode mM_compute.2.1 121 = .ok (.iload_n 3, 1) := by decide +kernel
theorem dM_compute_122 : decode mM_compute.2.1 122 = .ok (.invokevirtual 125, 3) := by decide +kernel
theorem dM_compute_125 : decode mM_compute.2.1 125 = .ok (.goto 77, 3) := by decide +kernel
theorem dM_compute_128 : decode mM_compute.2.1 128 = .ok (.aload_n 0, 1) := by decide +kernel
theorem dM_compute_129 : decode mM_compute.2.1 129 = .ok (.aload_n 2, 1) := by decide +kernel
theorem dM_compute_130 : decode mM_compute.2.1 130 = .ok (.aload 4, 2) := by decide +kernel
theorem dM_compute_132 : decode mM_compute.2.1 132 = .ok (.iload 5, 2) := by decide +kernel
theorem dM_compute_134 : decode mM_compute.2.1 134 = .ok (.aload_n 1, 1) := by decide +kernel
theorem dM_compute_135 : decode mM_compute.2.1 135 = .ok (.aload_n 2, 1) := by decide +kernel
theorem dM_compute_136 : decode mM_compute.2.1 136 = .ok (.getfield 122, 3) := by decide +kernel
theorem dM_compute_139 : decode mM_compute.2.1 139 = .ok (.invokevirtual 112, 3) := by decide +kernel
theorem dM_compute_142 : decode mM_compute.2.1 142 = .ok (.iload_n 3, 1) := by decide +kernel
theorem dM_compute_143 : decode mM_compute.2.1 143 = .ok (.invokevirtual 129, 3) := by decide +kernel
theorem dM_compute_146 : decode mM_compute.2.1 146 = .ok (.goto 56, 3) := by decide +kernel
theorem dM_compute_149 : decode mM_compute.2.1 149 = .ok (.aload_n 0, 1) := by decide +kernel
theorem dM_compute_150 : decode mM_compute.2.1 150 = .ok (.getfield 15, 3) := by decide +kernel
theorem dM_compute_153 : decode mM_compute.2.1 153 = .ok (.iload 5, 2) := by decide +kernel
theorem dM_compute_155 : decode mM_compute.2.1 155 = .ok (.aload_n 0, 1) := by decide +kernel
theorem dM_compute_156 : decode mM_compute.2.1 156 = .ok (.getfield 15, 3) := by decide +kernel
theorem dM_compute_159 : decode mM_compute.2.1 159 = .ok (.iload_n 3, 1) := by decide +kernel
theorem dM_compute_160 : decode mM_compute.2.1 160 = .ok (.aload_n 2, 1) := by decide +kernel
theorem dM_compute_161 : decode mM_compute.2.1 161 = .ok (.getfield 71, 3) := by decide +kernel
theorem dM_compute_164 : decode mM_compute.2.1 164 = .ok (.invokestatic 106, 3) := by decide +kernel
theorem dM_compute_167 : decode mM_compute.2.1 167 = .ok (.goto 35, 3) := by decide +kernel
theorem dM_compute_170 : decode mM_compute.2.1 170 = .ok (.aload_n 0, 1) := by decide +kernel
theorem dM_compute_171 : decode mM_compute.2.1 171 = .ok (.aload_n 2, 1) := by decide +kernel
theorem dM_compute_172 : decode mM_compute.2.1 172 = .ok (.iload 5, 2) := by decide +kernel
theorem dM_compute_174 : decode mM_compute.2.1 174 = .ok (.iload_n 3, 1) := by decide +kernel
theorem dM_compute_175 : decode mM_compute.2.1 175 = .ok (.invokevirtual 96, 3) := by decide +kernel
theorem dM_compute_178 : decode mM_compute.2.1 178 = .ok (.goto 24, 3) := by decide +kernel
theorem dM_compute_181 : decode mM_compute.2.1 181 = .ok (.aload_n 0, 1) := by decide +kernel
theorem dM_compute_182 : decode mM_compute.2.1 182 = .ok (.aload_n 2, 1) := by decide +kernel
theorem dM_compute_183 : decode mM_compute.2.1 183 = .ok (.iload 5, 2) := by decide +kernel
theorem dM_compute_185 : decode mM_compute.2.1 185 = .ok (.iload_n 3, 1) := by decide +kernel
theorem dM_compute_186 : decode mM_compute.2.1 186 = .ok (.invokevirtual 133, 3) := by decide +kernel
theorem dM_compute_189 : decode mM_compute.2.1 189 = .ok (.goto 13, 3) := by decide +kernel
theorem dM_compute_192 : decode mM_compute.2.1 192 = .ok (.aload_n 0, 1) := by decide +kernel
theorem dM_compute_193 : decode mM_compute.2.1 193 = .ok (.aload_n 2, 1) := by decide +kernel
theorem dM_compute_194 : decode mM_compute.2.1 194 = .ok (.aload 4, 2) := by decide +kernel
theorem dM_compute_196 : decode mM_compute.2.1 196 = .ok (.iload 5, 2) := by decide +kernel
theorem dM_compute_198 : decode mM_compute.2.1 198 = .ok (.iload_n 3, 1) := by decide +kernel
theorem dM_compute_199 : decode mM_compute.2.1 199 = .ok (.invokevirtual 136, 3) := by decide +kernel
theorem dM_compute_202 : decode mM_compute.2.1 202 = .ok (.return_, 1) := by decide +kernel
theorem dG_placeMeant_0 : decode mG_placeMeant.2.1 0 = .ok (.aload_n 0, 1) := by decide +kernel
theorem dG_placeMeant_1 : decode mG_placeMeant.2.1 1 = .ok (.getfield 27, 3) := by decide +kernel
theorem dG_placeMeant_4 : decode mG_placeMeant.2.1 4 = .ok (.aload_n 0, 1) := by decide +kernel
theorem dG_placeMeant_5 : decode mG_placeMeant.2.1 5 = .ok (.getfield 17, 3) := by decide +kernel
theorem dG_placeMeant_8 : decode mG_placeMeant.2.1 8 = .ok (.iload_n 1, 1) := by decide +kernel
theorem dG_placeMeant_9 : decode mG_placeMeant.2.1 9 = .ok (.iaload, 1) := by decide +kernel
theorem dG_placeMeant_10 : decode mG_placeMeant.2.1 10 = .ok (.iaload, 1) := by decide +kernel
theorem dG_placeMeant_11 : decode mG_placeMeant.2.1 11 = .ok (.ireturn, 1) := by decide +kernel
theorem dM_connect_0 : decode mM_connect.2.1 0 = .ok (.aload_n 0, 1) := by decide +kernel
theorem dM_connect_1 : decode mM_connect.2.1 1 = .ok (.getfield 28, 3) := by decide +kernel
theorem dM_connect_4 : decode mM_connect.2.1 4 = .ok (.aload_n 1, 1) := by decide +kernel
theorem dM_connect_5 : decode mM_connect.2.1 5 = .ok (.getfield 147, 3) := by decide +kernel
theorem dM_connect_8 : decode mM_connect.2.1 8 = .ok (.invokevirtual 150, 3) := by decide +kernel
theorem dM_connect_11 : decode mM_connect.2.1 11 = .ok (.iconst 0, 1) := by decide +kernel
theorem dM_connect_12 : decode mM_connect.2.1 12 = .ok (.istore 5, 2) := by decide +kernel
theorem dM_connect_14 : decode mM_connect.2.1 14 = .ok (.iload 5, 2) := by decide +kernel
theorem dM_connect_16 : decode mM_connect.2.1 16 = .ok (.aload_n 1, 1) := by decide +kernel
theorem dM_connect_17 : decode mM_connect.2.1 17 = .ok (.getfield 164, 3) := by decide +kernel
theorem dM_connect_20 : decode mM_connect.2.1 20 = .ok (.if_icmp .ge 101, 3) := by decide +kernel
theorem dM_connect_23 : decode mM_connect.2.1 23 = .ok (.aload_n 0, 1) := by decide +kernel
theorem dM_connect_24 : decode mM_connect.2.1 24 = .ok (.aload_n 1, 1) := by decide +kernel
theorem dM_connect_25 : decode mM_connect.2.1 25 = .ok (.aload_n 2, 1) := by decide +kernel
theorem dM_connect_26 : decode mM_connect.2.1 26 = .ok (.getfield 71, 3) := by decide +kernel
theorem dM_connect_29 : decode mM_connect.2.1 29 = .ok (.iload 5, 2) := by decide +kernel
theorem dM_connect_31 : decode mM_connect.2.1 31 = .ok (.invokevirtual 174, 3) := by decide +kernel
theorem dM_connect_34 : decode mM_connect.2.1 34 = .ok (.istore 6, 2) := by decide +kernel
theorem dM_connect_36 : decode mM_connect.2.1 36 = .ok (.aload_n 1, 1) := by decide +kernel
theorem dM_connect_37 : decode mM_connect.2.1 37 = .ok (.getfield 217, 3) := by decide +kernel
theorem dM_connect_40 : decode mM_connect.2.1 40 = .ok (.iload 5, 2) := by decide +kernel
theorem dM_connect_42 : decode mM_connect.2.1 42 = .ok (.aload_n 2, 1) := by decide +kernel
theorem dM_connect_43 : decode mM_connect.2.1 43 = .ok (.getfield 71, 3) := by decide +kernel
theorem dM_connect_46 : decode mM_connect.2.1 46 = .ok (.imul, 1) := by decide +kernel
theorem dM_connect_47 : decode mM_connect.2.1 47 = .ok (.iadd, 1) := by decide +kernel
theorem dM_connect_48 : decode mM_connect.2.1 48 = .ok (.istore 7, 2) := by decide +kernel
theorem dM_connect_50 : decode mM_connect.2.1 50 = .ok (.iconst 0, 1) := by decide +kernel
theorem dM_connect_51 : decode mM_connect.2.1 51 = .ok (.istore 8, 2) := by decide +kernel
theorem dM_connect_53 : decode mM_connect.2.1 53 = .ok (.iload 8, 2) := by decide +kernel
theorem dM_connect_55 : decode mM_connect.2.1 55 = .ok (.aload_n 2, 1) := by decide +kernel
theorem dM_connect_56 : decode mM_connect.2.1 56 = .ok (.getfield 71, 3) := by decide +kernel
theorem dM_connect_59 : decode mM_connect.2.1 59 = .ok (.if_icmp .ge 34, 3) := by decide +kernel
theorem dM_connect_62 : decode mM_connect.2.1 62 = .ok (.iload 6, 2) := by decide +kernel
theorem dM_connect_64 : decode mM_connect.2.1 64 = .ok (.aload_n 0, 1) := by decide +kernel
theorem dM_connect_65 : decode mM_connect.2.1 65 = .ok (.getfield 15, 3) := by decide +kernel
theorem dM_connect_68 : decode mM_connect.2.1 68 = .ok (.iload_n 3, 1) := by decide +kernel
theorem dM_connect_69 : decode mM_connect.2.1 69 = .ok (.iload 8, 2) := by decide +kernel
theorem dM_connect_71 : decode mM_connect.2.1 71 = .ok (.iadd, 1) := by decide +kernel
theorem dM_connect_72 : decode mM_connect.2.1 72 = .ok (.iaload, 1) := by decide +kernel
theorem dM_connect_73 : decode mM_connect.2.1 73 = .ok (.aload_n 0, 1) := by decide +kernel
theorem dM_connect_74 : decode mM_connect.2.1 74 = .ok (.getfield 9, 3) := by decide +kernel
theorem dM_connect_77 : decode mM_connect.2.1 77 = .ok (.iload 7, 2) := by decide +kernel
theorem dM_connect_79 : decode mM_connect.2.1 79 = .ok (.iload 8, 2) := by decide +kernel
theorem dM_connect_81 : decode mM_connect.2.1 81 = .ok (.iadd, 1) := by decide +kernel
theorem dM_connect_82 : decode mM_connect.2.1 82 = .ok (.iaload, 1) := by decide +kernel
theorem dM_connect_83 : decode mM_connect.2.1 83 = .ok (.imul, 1) := by decide +kernel
theorem dM_connect_84 : decode mM_connect.2.1 84 = .ok (.iadd, 1) := by decide +kernel
theorem dM_connect_85 : decode mM_connect.2.1 85 = .ok (.istore 6, 2) := by decide +kernel
theorem dM_connect_87 : decode mM_connect.2.1 87 = .ok (.iinc 8 1, 3) := by decide +kernel
theorem dM_connect_90 : decode mM_connect.2.1 90 = .ok (.goto (-37), 3) := by decide +kernel
theorem dM_connect_93 : decode mM_connect.2.1 93 = .ok (.aload_n 0, 1) := by decide +kernel
theorem dM_connect_94 : decode mM_connect.2.1 94 = .ok (.getfield 15, 3) := by decide +kernel
theorem dM_connect_97 : decode mM_connect.2.1 97 = .ok (.iload 4, 2) := by decide +kernel
theorem dM_connect_99 : decode mM_connect.2.1 99 = .ok (.iload 5, 2) := by decide +kernel
theorem dM_connect_101 : decode mM_connect.2.1 101 = .ok (.iadd, 1) := by decide +kernel
theorem dM_connect_102 : decode mM_connect.2.1 102 = .ok (.aload_n 0, 1) := by decide +kernel
theorem dM_connect_103 : decode mM_connect.2.1 103 = .ok (.getfield 28, 3) := by decide +kernel
theorem dM_connect_106 : decode mM_connect.2.1 106 = .ok (.iload 6, 2) := by decide +kernel
theorem dM_connect_108 : decode mM_connect.2.1 108 = .ok (.invokevirtual 181, 3) := by decide +kernel
theorem dM_connect_111 : decode mM_connect.2.1 111 = .ok (.invokestatic 185, 3) := by decide +kernel
theorem dM_connect_114 : decode mM_connect.2.1 114 = .ok (.iastore, 1) := by decide +kernel
theorem dM_connect_115 : decode mM_connect.2.1 115 = .ok (.iinc 5 1, 3) := by decide +kernel
theorem dM_connect_118 : decode mM_connect.2.1 118 = .ok (.goto (-104), 3) := by decide +kernel
theorem dM_connect_121 : decode mM_connect.2.1 121 = .ok (.return_, 1) := by decide +kernel
theorem dS_take_0 : decode mS_take.2.1 0 = .ok (.dload_n 1, 1) := by decide +kernel
theorem dS_take_1 : decode mS_take.2.1 1 = .ok (.dstore_n 3, 1) := by decide +kernel
theorem dS_take_2 : decode mS_take.2.1 2 = .ok (.iconst 0, 1) := by decide +kernel
theorem dS_take_3 : decode mS_take.2.1 3 = .ok (.istore 5, 2) := by decide +kernel
theorem dS_take_5 : decode mS_take.2.1 5 = .ok (.dload_n 3, 1) := by decide +kernel
theorem dS_take_6 : decode mS_take.2.1 6 = .ok (.dconst 1, 1) := by decide +kernel
theorem dS_take_7 : decode mS_take.2.1 7 = .ok (.dcmp .l, 1) := by decide +kernel
theorem dS_take_8 : decode mS_take.2.1 8 = .ok (.ifCond .lt 22, 3) := by decide +kernel
theorem dS_take_11 : decode mS_take.2.1 11 = .ok (.iload 5, 2) := by decide +kernel
theorem dS_take_13 : decode mS_take.2.1 13 = .ok (.bipush 31, 2) := by decide +kernel
theorem dS_take_15 : decode mS_take.2.1 15 = .ok (.if_icmp .ge 15, 3) := by decide +kernel
theorem dS_take_18 : decode mS_take.2.1 18 = .ok (.dload_n 3, 1) := by decide +kernel
theorem dS_take_19 : decode mS_take.2.1 19 = .ok (.ldc2_w 13, 3) := by decide +kernel
theorem dS_take_22 : decode mS_take.2.1 22 = .ok (.ddiv, 1) := by decide +kernel
theorem dS_take_23 : decode mS_take.2.1 23 = .ok (.dstore_n 3, 1) := by decide +kernel
theorem dS_take_24 : decode mS_take.2.1 24 = .ok (.iinc 5 1, 3) := by decide +kernel
theorem dS_take_27 : decode mS_take.2.1 27 = .ok (.goto (-22), 3) := by decide +kernel
theorem dS_take_30 : decode mS_take.2.1 30 = .ok (.dload_n 3, 1) := by decide +kernel
theorem dS_take_31 : decode mS_take.2.1 31 = .ok (.ldc2_w 15, 3) := by decide +kernel
theorem dS_take_34 : decode mS_take.2.1 34 = .ok (.dcmp .g, 1) := by decide +kernel
theorem dS_take_35 : decode mS_take.2.1 35 = .ok (.ifCond .ge 22, 3) := by decide +kernel
theorem dS_take_38 : decode mS_take.2.1 38 = .ok (.iload 5, 2) := by decide +kernel
theorem dS_take_40 : decode mS_take.2.1 40 = .ok (.bipush (-31), 2) := by decide +kernel
theorem dS_take_42 : decode mS_take.2.1 42 = .ok (.if_icmp .le 15, 3) := by decide +kernel
theorem dS_take_45 : decode mS_take.2.1 45 = .ok (.dload_n 3, 1) := by decide +kernel
theorem dS_take_46 : decode mS_take.2.1 46 = .ok (.ldc2_w 13, 3) := by decide +kernel
theorem dS_take_49 : decode mS_take.2.1 49 = .ok (.dmul, 1) := by decide +kernel
theorem dS_take_50 : decode mS_take.2.1 50 = .ok (.dstore_n 3, 1) := by decide +kernel
theorem dS_take_51 : decode mS_take.2.1 51 = .ok (.iinc 5 (-1), 3) := by decide +kernel
theorem dS_take_54 : decode mS_take.2.1 54 = .ok (.goto (-24), 3) := by decide +kernel
theorem dS_take_57 : decode mS_take.2.1 57 = .ok (.aload_n 0, 1) := by decide +kernel
theorem dS_take_58 : decode mS_take.2.1 58 = .ok (.dload_n 3, 1) := by decide +kernel
theorem dS_take_59 : decode mS_take.2.1 59 = .ok (.ldc2_w 17, 3) := by decide +kernel
theorem dS_take_62 : decode mS_take.2.1 62 = .ok (.dmul, 1) := by decide +kernel
theorem dS_take_63 : decode mS_take.2.1 63 = .ok (.ldc2_w 15, 3) := by decide +kernel
theorem dS_take_66 : decode mS_take.2.1 66 = .ok (.dadd, 1) := by decide +kernel
theorem dS_take_67 : decode mS_take.2.1 67 = .ok (.d2l, 1) := by decide +kernel
theorem dS_take_68 : decode mS_take.2.1 68 = .ok (.putfield 19, 3) := by decide +kernel
theorem dS_take_71 : decode mS_take.2.1 71 = .ok (.aload_n 0, 1) := by decide +kernel
theorem dS_take_72 : decode mS_take.2.1 72 = .ok (.getfield 19, 3) := by decide +kernel
theorem dS_take_75 : decode mS_take.2.1 75 = .ok (.ldc2_w 23, 3) := by decide +kernel
theorem dS_take_78 : decode mS_take.2.1 78 = .ok (.lcmp, 1) := by decide +kernel
theorem dS_take_79 : decode mS_take.2.1 79 = .ok (.ifCond .ne 13, 3) := by decide +kernel
theorem dS_take_82 : decode mS_take.2.1 82 = .ok (.aload_n 0, 1) := by decide +kernel
theorem dS_take_83 : decode mS_take.2.1 83 = .ok (.ldc2_w 25, 3) := by decide +kernel
theorem dS_take_86 : decode mS_take.2.1 86 = .ok (.putfield 19, 3) := by decide +kernel
theorem dS_take_89 : decode mS_take.2.1 89 = .ok (.iinc 5 1, 3) := by decide +kernel
theorem dS_take_92 : decode mS_take.2.1 92 = .ok (.aload_n 0, 1) := by decide +kernel
theorem dS_take_93 : decode mS_take.2.1 93 = .ok (.bipush 31, 2) := by decide +kernel
theorem dS_take_95 : decode mS_take.2.1 95 = .ok (.iload 5, 2) := by decide +kernel
theorem dS_take_97 : decode mS_take.2.1 97 = .ok (.isub, 1) := by decide +kernel
theorem dS_take_98 : decode mS_take.2.1 98 = .ok (.putfield 27, 3) := by decide +kernel
theorem dS_take_101 : decode mS_take.2.1 101 = .ok (.return_, 1) := by decide +kernel
theorem dM_bias_0 : decode mM_bias.2.1 0 = .ok (.bipush 16, 2) := by decide +kernel
theorem dM_bias_2 : decode mM_bias.2.1 2 = .ok (.aload_n 0, 1) := by decide +kernel
theorem dM_bias_3 : decode mM_bias.2.1 3 = .ok (.getfield 9, 3) := by decide +kernel
theorem dM_bias_6 : decode mM_bias.2.1 6 = .ok (.aload_n 1, 1) := by decide +kernel
theorem dM_bias_7 : decode mM_bias.2.1 7 = .ok (.getfield 217, 3) := by decide +kernel
theorem dM_bias_10 : decode mM_bias.2.1 10 = .ok (.aload_n 1, 1) := by decide +kernel
theorem dM_bias_11 : decode mM_bias.2.1 11 = .ok (.getfield 164, 3) := by decide +kernel
theorem dM_bias_14 : decode mM_bias.2.1 14 = .ok (.iload_n 2, 1) := by decide +kernel
theorem dM_bias_15 : decode mM_bias.2.1 15 = .ok (.imul, 1) := by decide +kernel
theorem dM_bias_16 : decode mM_bias.2.1 16 = .ok (.iadd, 1) := by decide +kernel
theorem dM_bias_17 : decode mM_bias.2.1 17 = .ok (.iload_n 3, 1) := by decide +kernel
theorem dM_bias_18 : decode mM_bias.2.1 18 = .ok (.iadd, 1) := by decide +kernel
theorem dM_bias_19 : decode mM_bias.2.1 19 = .ok (.iaload, 1) := by decide +kernel
theorem dM_bias_20 : decode mM_bias.2.1 20 = .ok (.imul, 1) := by decide +kernel
theorem dM_bias_21 : decode mM_bias.2.1 21 = .ok (.ireturn, 1) := by decide +kernel
theorem dS_scaled_0 : decode mS_scaled.2.1 0 = .ok (.lconst 1, 1) := by decide +kernel
theorem dS_scaled_1 : decode mS_scaled.2.1 1 = .ok (.aload_n 0, 1) := by decide +kernel
theorem dS_scaled_2 : decode mS_scaled.2.1 2 = .ok (.getfield 27, 3) := by decide +kernel
theorem dS_scaled_5 : decode mS_scaled.2.1 5 = .ok (.iconst 1, 1) := by decide +kernel
theorem dS_scaled_6 : decode mS_scaled.2.1 6 = .ok (.isub, 1) := by decide +kernel
theorem dS_scaled_7 : decode mS_scaled.2.1 7 = .ok (.lshl, 1) := by decide +kernel
theorem dS_scaled_8 : decode mS_scaled.2.1 8 = .ok (.lstore_n 2, 1) := by decide +kernel
theorem dS_scaled_9 : decode mS_scaled.2.1 9 = .ok (.iload_n 1, 1) := by decide +kernel
theorem dS_scaled_10 : decode mS_scaled.2.1 10 = .ok (.i2l, 1) := by decide +kernel
theorem dS_scaled_11 : decode mS_scaled.2.1 11 = .ok (.invokestatic 31, 3) := by decide +kernel
theorem dS_scaled_14 : decode mS_scaled.2.1 14 = .ok (.aload_n 0, 1) := by decide +kernel
theorem dS_scaled_15 : decode mS_scaled.2.1 15 = .ok (.getfield 19, 3) := by decide +kernel
theorem dS_scaled_18 : decode mS_scaled.2.1 18 = .ok (.lmul, 1) := by decide +kernel
theorem dS_scaled_19 : decode mS_scaled.2.1 19 = .ok (.lload_n 2, 1) := by decide +kernel
theorem dS_scaled_20 : decode mS_scaled.2.1 20 = .ok (.ladd, 1) := by decide +kernel
theorem dS_scaled_21 : decode mS_scaled.2.1 21 = .ok (.aload_n 0, 1) := by decide +kernel
theorem dS_scaled_22 : decode mS_scaled.2.1 22 = .ok (.getfield 27, 3) := by decide +kernel
theorem dS_scaled_25 : decode mS_scaled.2.1 25 = .ok (.lshr, 1) := by decide +kernel
theorem dS_scaled_26 : decode mS_scaled.2.1 26 = .ok (.lstore 4, 2) := by decide +kernel
theorem dS_scaled_28 : decode mS_scaled.2.1 28 = .ok (.iload_n 1, 1) := by decide +kernel
theorem dS_scaled_29 : decode mS_scaled.2.1 29 = .ok (.ifCond .ge 9, 3) := by decide +kernel
theorem dS_scaled_32 : decode mS_scaled.2.1 32 = .ok (.lload 4, 2) := by decide +kernel
theorem dS_scaled_34 : decode mS_scaled.2.1 34 = .ok (.lneg, 1) := by decide +kernel
theorem dS_scaled_35 : decode mS_scaled.2.1 35 = .ok (.goto 5, 3) := by decide +kernel
theorem dS_scaled_38 : decode mS_scaled.2.1 38 = .ok (.lload 4, 2) := by decide +kernel
theorem dS_scaled_40 : decode mS_scaled.2.1 40 = .ok (.lreturn, 1) := by decide +kernel
theorem dM_cut_0 : decode mM_cut.2.1 0 = .ok (.ldc2_w 241, 3) := by decide +kernel
theorem dM_cut_3 : decode mM_cut.2.1 3 = .ok (.ldc2_w 243, 3) := by decide +kernel
theorem dM_cut_6 : decode mM_cut.2.1 6 = .ok (.lload_n 0, 1) := by decide +kernel
theorem dM_cut_7 : decode mM_cut.2.1 7 = .ok (.invokestatic 245, 3) := by decide +kernel
theorem dM_cut_10 : decode mM_cut.2.1 10 = .ok (.invokestatic 248, 3) := by decide +kernel
theorem dM_cut_13 : decode mM_cut.2.1 13 = .ok (.l2i, 1) := by decide +kernel
theorem dM_cut_14 : decode mM_cut.2.1 14 = .ok (.ireturn, 1) := by decide +kernel
theorem dM_addUp_0 : decode mM_addUp.2.1 0 = .ok (.aload_n 0, 1) := by decide +kernel
theorem dM_addUp_1 : decode mM_addUp.2.1 1 = .ok (.getfield 28, 3) := by decide +kernel
theorem dM_addUp_4 : decode mM_addUp.2.1 4 = .ok (.aload_n 1, 1) := by decide +kernel
theorem dM_addUp_5 : decode mM_addUp.2.1 5 = .ok (.getfield 147, 3) := by decide +kernel
theorem dM_addUp_8 : decode mM_addUp.2.1 8 = .ok (.invokevirtual 150, 3) := by decide +kernel
theorem dM_addUp_11 : decode mM_addUp.2.1 11 = .ok (.aload_n 0, 1) := by decide +kernel
theorem dM_addUp_12 : decode mM_addUp.2.1 12 = .ok (.getfield 32, 3) := by decide +kernel
theorem dM_addUp_15 : decode mM_addUp.2.1 15 = .ok (.aload_n 1, 1) := by decide +kernel
theorem dM_addUp_16 : decode mM_addUp.2.1 16 = .ok (.getfield 229, 3) := by decide +kernel
theorem dM_addUp_19 : decode mM_addUp.2.1 19 = .ok (.invokevirtual 150, 3) := by decide +kernel
theorem dM_addUp_22 : decode mM_addUp.2.1 22 = .ok (.iconst 0, 1) := by decide +kernel
theorem dM_addUp_23 : decode mM_addUp.2.1 23 = .ok (.istore 5, 2) := by decide +kernel
theorem dM_addUp_25 : decode mM_addUp.2.1 25 = .ok (.iload 5, 2) := by decide +kernel
theorem dM_addUp_27 : decode mM_addUp.2.1 27 = .ok (.aload_n 1, 1) := by decide +kernel
theorem dM_addUp_28 : decode mM_addUp.2.1 28 = .ok (.getfield 71, 3) := by decide +kernel
theorem dM_addUp_31 : decode mM_addUp.2.1 31 = .ok (.if_icmp .ge 55, 3) := by decide +kernel
theorem dM_addUp_34 : decode mM_addUp.2.1 34 = .ok (.aload_n 0, 1) := by decide +kernel
theorem dM_addUp_35 : decode mM_addUp.2.1 35 = .ok (.getfield 15, 3) := by decide +kernel
theorem dM_addUp_38 : decode mM_addUp.2.1 38 = .ok (.iload 4, 2) := by decide +kernel
theorem dM_addUp_40 : decode mM_addUp.2.1 40 = .ok (.iload 5, 2) := by decide +kernel
theorem dM_addUp_42 : decode mM_addUp.2.1 42 = .ok (.iadd, 1) := by decide +kernel
theorem dM_addUp_43 : decode mM_addUp.2.1 43 = .ok (.aload_n 0, 1) := by decide +kernel
theorem dM_addUp_44 : decode mM_addUp.2.1 44 = .ok (.getfield 28, 3) := by decide +kernel
theorem dM_addUp_47 : decode mM_addUp.2.1 47 = .ok (.aload_n 0, 1) := by decide +kernel
theorem dM_addUp_48 : decode mM_addUp.2.1 48 = .ok (.getfield 15, 3) := by decide +kernel
theorem dM_addUp_51 : decode mM_addUp.2.1 51 = .ok (.iload_n 2, 1) := by decide +kernel
theorem dM_addUp_52 : decode mM_addUp.2.1 52 = .ok (.iload 5, 2) := by decide +kernel
theorem dM_addUp_54 : decode mM_addUp.2.1 54 = .ok (.iadd, 1) := by decide +kernel
theorem dM_addUp_55 : decode mM_addUp.2.1 55 = .ok (.iaload, 1) := by decide +kernel
theorem dM_addUp_56 : decode mM_addUp.2.1 56 = .ok (.invokevirtual 181, 3) := by decide +kernel
theorem dM_addUp_59 : decode mM_addUp.2.1 59 = .ok (.aload_n 0, 1) := by decide +kernel
theorem dM_addUp_60 : decode mM_addUp.2.1 60 = .ok (.getfield 32, 3) := by decide +kernel
theorem dM_addUp_63 : decode mM_addUp.2.1 63 = .ok (.aload_n 0, 1) := by decide +kernel
theorem dM_addUp_64 : decode mM_addUp.2.1 64 = .ok (.getfield 15, 3) := by decide +kernel
theorem dM_addUp_67 : decode mM_addUp.2.1 67 = .ok (.iload_n 3, 1) := by decide +kernel
theorem dM_addUp_68 : decode mM_addUp.2.1 68 = .ok (.iload 5, 2) := by decide +kernel
theorem dM_addUp_70 : decode mM_addUp.2.1 70 = .ok (.iadd, 1) := by decide +kernel
theorem dM_addUp_71 : decode mM_addUp.2.1 71 = .ok (.iaload, 1) := by decide +kernel
theorem dM_addUp_72 : decode mM_addUp.2.1 72 = .ok (.invokevirtual 181, 3) := by decide +kernel
theorem dM_addUp_75 : decode mM_addUp.2.1 75 = .ok (.ladd, 1) := by decide +kernel
theorem dM_addUp_76 : decode mM_addUp.2.1 76 = .ok (.invokestatic 185, 3) := by decide +kernel
theorem dM_addUp_79 : decode mM_addUp.2.1 79 = .ok (.iastore, 1) := by decide +kernel
theorem dM_addUp_80 : decode mM_addUp.2.1 80 = .ok (.iinc 5 1, 3) := by decide +kernel
theorem dM_addUp_83 : decode mM_addUp.2.1 83 = .ok (.goto (-58), 3) := by decide +kernel
theorem dM_addUp_86 : decode mM_addUp.2.1 86 = .ok (.return_, 1) := by decide +kernel
theorem dM_join_0 : decode mM_join.2.1 0 = .ok (.aload_n 2, 1) := by decide +kernel
theorem dM_join_1 : decode mM_join.2.1 1 = .ok (.getfield 164, 3) := by decide +kernel
theorem dM_join_4 : decode mM_join.2.1 4 = .ok (.istore 6, 2) := by decide +kernel
theorem dM_join_6 : decode mM_join.2.1 6 = .ok (.aload_n 1, 1) := by decide +kernel
theorem dM_join_7 : decode mM_join.2.1 7 = .ok (.getfield 164, 3) := by decide +kernel
theorem dM_join_10 : decode mM_join.2.1 10 = .ok (.iload 6, 2) := by decide +kernel
theorem dM_join_12 : decode mM_join.2.1 12 = .ok (.isub, 1) := by decide +kernel
theorem dM_join_13 : decode mM_join.2.1 13 = .ok (.istore 7, 2) := by decide +kernel
theorem dM_join_15 : decode mM_join.2.1 15 = .ok (.iconst 0, 1) := by decide +kernel
theorem dM_join_16 : decode mM_join.2.1 16 = .ok (.istore 8, 2) := by decide +kernel
theorem dM_join_18 : decode mM_join.2.1 18 = .ok (.iload 8, 2) := by decide +kernel
theorem dM_join_20 : decode mM_join.2.1 20 = .ok (.aload_n 1, 1) := by decide +kernel
theorem dM_join_21 : decode mM_join.2.1 21 = .ok (.getfield 154, 3) := by decide +kernel
theorem dM_join_24 : decode mM_join.2.1 24 = .ok (.aload_n 1, 1) := by decide +kernel
theorem dM_join_25 : decode mM_join.2.1 25 = .ok (.getfield 157, 3) := by decide +kernel
theorem dM_join_28 : decode mM_join.2.1 28 = .ok (.imul, 1) := by decide +kernel
theorem dM_join_29 : decode mM_join.2.1 29 = .ok (.if_icmp .ge 69, 3) := by decide +kernel
theorem dM_join_32 : decode mM_join.2.1 32 = .ok (.iload 5, 2) := by decide +kernel
theorem dM_join_34 : decode mM_join.2.1 34 = .ok (.iload 8, 2) := by decide +kernel
theorem dM_join_36 : decode mM_join.2.1 36 = .ok (.aload_n 1, 1) := by decide +kernel
theorem dM_join_37 : decode mM_join.2.1 37 = .ok (.getfield 164, 3) := by decide +kernel
theorem dM_join_40 : decode mM_join.2.1 40 = .ok (.imul, 1) := by decide +kernel
theorem dM_join_41 : decode mM_join.2.1 41 = .ok (.iadd, 1) := by decide +kernel
theorem dM_join_42 : decode mM_join.2.1 42 = .ok (.istore 9, 2) := by decide +kernel
theorem dM_join_44 : decode mM_join.2.1 44 = .ok (.aload_n 0, 1) := by decide +kernel
theorem dM_join_45 : decode mM_join.2.1 45 = .ok (.getfield 15, 3) := by decide +kernel
theorem dM_join_48 : decode mM_join.2.1 48 = .ok (.iload_n 3, 1) := by decide +kernel
theorem dM_join_49 : decode mM_join.2.1 49 = .ok (.iload 8, 2) := by decide +kernel
theorem dM_join_51 : decode mM_join.2.1 51 = .ok (.iload 6, 2) := by decide +kernel
theorem dM_join_53 : decode mM_join.2.1 53 = .ok (.imul, 1) := by decide +kernel
theorem dM_join_54 : decode mM_join.2.1 54 = .ok (.iadd, 1) := by decide +kernel
theorem dM_join_55 : decode mM_join.2.1 55 = .ok (.aload_n 0, 1) := by decide +kernel
theorem dM_join_56 : decode mM_join.2.1 56 = .ok (.getfield 15, 3) := by decide +kernel
theorem dM_join_59 : decode mM_join.2.1 59 = .ok (.iload 9, 2) := by decide +kernel
theorem dM_join_61 : decode mM_join.2.1 61 = .ok (.iload 6, 2) := by decide +kernel
theorem dM_join_63 : decode mM_join.2.1 63 = .ok (.invokestatic 106, 3) := by decide +kernel
theorem dM_join_66 : decode mM_join.2.1 66 = .ok (.aload_n 0, 1) := by decide +kernel
theorem dM_join_67 : decode mM_join.2.1 67 = .ok (.getfield 15, 3) := by decide +kernel
theorem dM_join_70 : decode mM_join.2.1 70 = .ok (.iload 4, 2) := by decide +kernel
theorem dM_join_72 : decode mM_join.2.1 72 = .ok (.iload 8, 2) := by decide +kernel
theorem dM_join_74 : decode mM_join.2.1 74 = .ok (.iload 7, 2) := by decide +kernel
theorem dM_join_76 : decode mM_join.2.1 76 = .ok (.imul, 1) := by decide +kernel
theorem dM_join_77 : decode mM_join.2.1 77 = .ok (.iadd, 1) := by decide +kernel
theorem dM_join_78 : decode mM_join.2.1 78 = .ok (.aload_n 0, 1) := by decide +kernel
theorem dM_join_79 : decode mM_join.2.1 79 = .ok (.getfield 15, 3) := by decide +kernel
theorem dM_join_82 : decode mM_join.2.1 82 = .ok (.iload 9, 2) := by decide +kernel
theorem dM_join_84 : decode mM_join.2.1 84 = .ok (.iload 6, 2) := by decide +kernel
theorem dM_join_86 : decode mM_join.2.1 86 = .ok (.iadd, 1) := by decide +kernel
theorem dM_join_87 : decode mM_join.2.1 87 = .ok (.iload 7, 2) := by decide +kernel
theorem dM_join_89 : decode mM_join.2.1 89 = .ok (.invokestatic 106, 3) := by decide +kernel
theorem dM_join_92 : decode mM_join.2.1 92 = .ok (.iinc 8 1, 3) := by decide +kernel
theorem dM_join_95 : decode mM_join.2.1 95 = .ok (.goto (-77), 3) := by decide +kernel
theorem dM_join_98 : decode mM_join.2.1 98 = .ok (.return_, 1) := by decide +kernel
theorem dM_hold_0 : decode mM_hold.2.1 0 = .ok (.iconst 0, 1) := by decide +kernel
theorem dM_hold_1 : decode mM_hold.2.1 1 = .ok (.istore 4, 2) := by decide +kernel
theorem dM_hold_3 : decode mM_hold.2.1 3 = .ok (.iload 4, 2) := by decide +kernel
theorem dM_hold_5 : decode mM_hold.2.1 5 = .ok (.aload_n 1, 1) := by decide +kernel
theorem dM_hold_6 : decode mM_hold.2.1 6 = .ok (.getfield 71, 3) := by decide +kernel
theorem dM_hold_9 : decode mM_hold.2.1 9 = .ok (.if_icmp .ge 41, 3) := by decide +kernel
theorem dM_hold_12 : decode mM_hold.2.1 12 = .ok (.aload_n 0, 1) := by decide +kernel
theorem dM_hold_13 : decode mM_hold.2.1 13 = .ok (.getfield 15, 3) := by decide +kernel
theorem dM_hold_16 : decode mM_hold.2.1 16 = .ok (.iload_n 3, 1) := by decide +kernel
theorem dM_hold_17 : decode mM_hold.2.1 17 = .ok (.iload 4, 2) := by decide +kernel
theorem dM_hold_19 : decode mM_hold.2.1 19 = .ok (.iadd, 1) := by decide +kernel
theorem dM_hold_20 : decode mM_hold.2.1 20 = .ok (.aload_n 1, 1) := by decide +kernel
theorem dM_hold_21 : decode mM_hold.2.1 21 = .ok (.getfield 232, 3) := by decide +kernel
theorem dM_hold_24 : decode mM_hold.2.1 24 = .ok (.aload_n 1, 1) := by decide +kernel
theorem dM_hold_25 : decode mM_hold.2.1 25 = .ok (.getfield 235, 3) := by decide +kernel
theorem dM_hold_28 : decode mM_hold.2.1 28 = .ok (.aload_n 0, 1) := by decide +kernel
theorem dM_hold_29 : decode mM_hold.2.1 29 = .ok (.getfield 15, 3) := by decide +kernel
theorem dM_hold_32 : decode mM_hold.2.1 32 = .ok (.iload_n 2, 1) := by decide +kernel
theorem dM_hold_33 : decode mM_hold.2.1 33 = .ok (.iload 4, 2) := by decide +kernel
theorem dM_hold_35 : decode mM_hold.2.1 35 = .ok (.iadd, 1) := by decide +kernel
theorem dM_hold_36 : decode mM_hold.2.1 36 = .ok (.iaload, 1) := by decide +kernel
theorem dM_hold_37 : decode mM_hold.2.1 37 = .ok (.invokestatic 238, 3) := by decide +kernel
theorem dM_hold_40 : decode mM_hold.2.1 40 = .ok (.invokestatic 220, 3) := by decide +kernel
theorem dM_hold_43 : decode mM_hold.2.1 43 = .ok (.iastore, 1) := by decide +kernel
theorem dM_hold_44 : decode mM_hold.2.1 44 = .ok (.iinc 4 1, 3) := by decide +kernel
theorem dM_hold_47 : decode mM_hold.2.1 47 = .ok (.goto (-44), 3) := by decide +kernel
theorem dM_hold_50 : decode mM_hold.2.1 50 = .ok (.return_, 1) := by decide +kernel
theorem dM_changeScale_0 : decode mM_changeScale.2.1 0 = .ok (.aload_n 0, 1) := by decide +kernel
theorem dM_changeScale_1 : decode mM_changeScale.2.1 1 = .ok (.getfield 28, 3) := by decide +kernel
theorem dM_changeScale_4 : decode mM_changeScale.2.1 4 = .ok (.aload_n 1, 1) := by decide +kernel
theorem dM_changeScale_5 : decode mM_changeScale.2.1 5 = .ok (.getfield 147, 3) := by decide +kernel
theorem dM_changeScale_8 : decode mM_changeScale.2.1 8 = .ok (.invokevirtual 150, 3) := by decide +kernel
theorem dM_changeScale_11 : decode mM_changeScale.2.1 11 = .ok (.iconst 0, 1) := by decide +kernel
theorem dM_changeScale_12 : decode mM_changeScale.2.1 12 = .ok (.istore 4, 2) := by decide +kernel
theorem dM_changeScale_14 : decode mM_changeScale.2.1 14 = .ok (.iload 4, 2) := by decide +kernel
theorem dM_changeScale_16 : decode mM_changeScale.2.1 16 = .ok (.aload_n 1, 1) := by decide +kernel
theorem dM_changeScale_17 : decode mM_changeScale.2.1 17 = .ok (.getfield 71, 3) := by decide +kernel
theorem dM_changeScale_20 : decode mM_changeScale.2.1 20 = .ok (.if_icmp .ge 37, 3) := by decide +kernel
theorem dM_changeScale_23 : decode mM_changeScale.2.1 23 = .ok (.aload_n 0, 1) := by decide +kernel
theorem dM_changeScale_24 : decode mM_changeScale.2.1 24 = .ok (.getfield 15, 3) := by decide +kernel
theorem dM_changeScale_27 : decode mM_changeScale.2.1 27 = .ok (.iload_n 3, 1) := by decide +kernel
theorem dM_changeScale_28 : decode mM_changeScale.2.1 28 = .ok (.iload 4, 2) := by decide +kernel
theorem dM_changeScale_30 : decode mM_changeScale.2.1 30 = .ok (.iadd, 1) := by decide +kernel
theorem dM_changeScale_31 : decode mM_changeScale.2.1 31 = .ok (.aload_n 0, 1) := by decide +kernel
theorem dM_changeScale_32 : decode mM_changeScale.2.1 32 = .ok (.getfield 28, 3) := by decide +kernel
theorem dM_changeScale_35 : decode mM_changeScale.2.1 35 = .ok (.aload_n 0, 1) := by decide +kernel
theorem dM_changeScale_36 : decode mM_changeScale.2.1 36 = .ok (.getfield 15, 3) := by decide +kernel
theorem dM_changeScale_39 : decode mM_changeScale.2.1 39 = .ok (.iload_n 2, 1) := by decide +kernel
theorem dM_changeScale_40 : decode mM_changeScale.2.1 40 = .ok (.iload 4, 2) := by decide +kernel
theorem dM_changeScale_42 : decode mM_changeScale.2.1 42 = .ok (.iadd, 1) := by decide +kernel
theorem dM_changeScale_43 : decode mM_changeScale.2.1 43 = .ok (.iaload, 1) := by decide +kernel
theorem dM_changeScale_44 : decode mM_changeScale.2.1 44 = .ok (.invokevirtual 181, 3) := by decide +kernel
theorem dM_changeScale_47 : decode mM_changeScale.2.1 47 = .ok (.invokestatic 185, 3) := by decide +kernel
theorem dM_changeScale_50 : decode mM_changeScale.2.1 50 = .ok (.iastore, 1) := by decide +kernel
theorem dM_changeScale_51 : decode mM_changeScale.2.1 51 = .ok (.iinc 4 1, 3) := by decide +kernel
theorem dM_changeScale_54 : decode mM_changeScale.2.1 54 = .ok (.goto (-40), 3) := by decide +kernel
theorem dM_changeScale_57 : decode mM_changeScale.2.1 57 = .ok (.return_, 1) := by decide +kernel
theorem dM_slide_0 : decode mM_slide.2.1 0 = .ok (.aload_n 0, 1) := by decide +kernel
theorem dM_slide_1 : decode mM_slide.2.1 1 = .ok (.getfield 21, 3) := by decide +kernel
theorem dM_slide_4 : decode mM_slide.2.1 4 = .ok (.aload_n 1, 1) := by decide +kernel
theorem dM_slide_5 : decode mM_slide.2.1 5 = .ok (.aload_n 2, 1) := by decide +kernel
theorem dM_slide_6 : decode mM_slide.2.1 6 = .ok (.invokevirtual 139, 3) := by decide +kernel
theorem dM_slide_9 : decode mM_slide.2.1 9 = .ok (.aload_n 1, 1) := by decide +kernel
theorem dM_slide_10 : decode mM_slide.2.1 10 = .ok (.invokevirtual 143, 3) := by decide +kernel
theorem dM_slide_13 : decode mM_slide.2.1 13 = .ok (.ifCond .eq 14, 3) := by decide +kernel
theorem dM_slide_16 : decode mM_slide.2.1 16 = .ok (.aload_n 0, 1) := by decide +kernel
theorem dM_slide_17 : decode mM_slide.2.1 17 = .ok (.getfield 28, 3) := by decide +kernel
theorem dM_slide_20 : decode mM_slide.2.1 20 = .ok (.aload_n 1, 1) := by decide +kernel
theorem dM_slide_21 : decode mM_slide.2.1 21 = .ok (.getfield 147, 3) := by decide +kernel
theorem dM_slide_24 : decode mM_slide.2.1 24 = .ok (.invokevirtual 150, 3) := by decide +kernel
theorem dM_slide_27 : decode mM_slide.2.1 27 = .ok (.iload 4, 2) := by decide +kernel
theorem dM_slide_29 : decode mM_slide.2.1 29 = .ok (.istore 5, 2) := by decide +kernel
theorem dM_slide_31 : decode mM_slide.2.1 31 = .ok (.iconst 0, 1) := by decide +kernel
theorem dM_slide_32 : decode mM_slide.2.1 32 = .ok (.istore 6, 2) := by decide +kernel
theorem dM_slide_34 : decode mM_slide.2.1 34 = .ok (.iload 6, 2) := by decide +kernel
theorem dM_slide_36 : decode mM_slide.2.1 36 = .ok (.aload_n 1, 1) := by decide +kernel
theorem dM_slide_37 : decode mM_slide.2.1 37 = .ok (.getfield 154, 3) := by decide +kernel
theorem dM_slide_40 : decode mM_slide.2.1 40 = .ok (.if_icmp .ge 75, 3) := by decide +kernel
theorem dM_slide_43 : decode mM_slide.2.1 43 = .ok (.iconst 0, 1) := by decide +kernel
theorem dM_slide_44 : decode mM_slide.2.1 44 = .ok (.istore 7, 2) := by decide +kernel
theorem dM_slide_46 : decode mM_slide.2.1 46 = .ok (.iload 7, 2) := by decide +kernel
theorem dM_slide_48 : decode mM_slide.2.1 48 = .ok (.aload_n 1, 1) := by decide +kernel
theorem dM_slide_49 : decode mM_slide.2.1 49 = .ok (.getfield 157, 3) := by decide +kernel
theorem dM_slide_52 : decode mM_slide.2.1 52 = .ok (.if_icmp .ge 57, 3) := by decide +kernel
theorem dM_slide_55 : decode mM_slide.2.1 55 = .ok (.aload_n 0, 1) := by decide +kernel
theorem dM_slide_56 : decode mM_slide.2.1 56 = .ok (.getfield 21, 3) := by decide +kernel
theorem dM_slide_59 : decode mM_slide.2.1 59 = .ok (.iload 6, 2) := by decide +kernel
theorem dM_slide_61 : decode mM_slide.2.1 61 = .ok (.iload 7, 2) := by decide +kernel
theorem dM_slide_63 : decode mM_slide.2.1 63 = .ok (.invokevirtual 160, 3) := by decide +kernel
theorem dM_slide_66 : decode mM_slide.2.1 66 = .ok (.iconst 0, 1) := by decide +kernel
theorem dM_slide_67 : decode mM_slide.2.1 67 = .ok (.istore 8, 2) := by decide +kernel
theorem dM_slide_69 : decode mM_slide.2.1 69 = .ok (.iload 8, 2) := by decide +kernel
theorem dM_slide_71 : decode mM_slide.2.1 71 = .ok (.aload_n 1, 1) := by decide +kernel
theorem dM_slide_72 : decode mM_slide.2.1 72 = .ok (.getfield 164, 3) := by decide +kernel
theorem dM_slide_75 : decode mM_slide.2.1 75 = .ok (.if_icmp .ge 28, 3) := by decide +kernel
theorem dM_slide_78 : decode mM_slide.2.1 78 = .ok (.aload_n 0, 1) := by decide +kernel
theorem dM_slide_79 : decode mM_slide.2.1 79 = .ok (.getfield 15, 3) := by decide +kernel
theorem dM_slide_82 : decode mM_slide.2.1 82 = .ok (.iload 5, 2) := by decide +kernel
theorem dM_slide_84 : decode mM_slide.2.1 84 = .ok (.aload_n 0, 1) := by decide +kernel
theorem dM_slide_85 : decode mM_slide.2.1 85 = .ok (.aload_n 1, 1) := by decide +kernel
theorem dM_slide_86 : decode mM_slide.2.1 86 = .ok (.aload_n 2, 1) := by decide +kernel
theorem dM_slide_87 : decode mM_slide.2.1 87 = .ok (.iload_n 3, 1) := by decide +kernel
theorem dM_slide_88 : decode mM_slide.2.1 88 = .ok (.iload 8, 2) := by decide +kernel
theorem dM_slide_90 : decode mM_slide.2.1 90 = .ok (.invokevirtual 167, 3) := by decide +kernel
theorem dM_slide_93 : decode mM_slide.2.1 93 = .ok (.iastore, 1) := by decide +kernel
theorem dM_slide_94 : decode mM_slide.2.1 94 = .ok (.iinc 5 1, 3) := by decide +kernel
theorem dM_slide_97 : decode mM_slide.2.1 97 = .ok (.iinc 8 1, 3) := by decide +kernel
theorem dM_slide_100 : decode mM_slide.2.1 100 = .ok (.goto (-31), 3) := by decide +kernel
theorem dM_slide_103 : decode mM_slide.2.1 103 = .ok (.iinc 7 1, 3) := by decide +kernel
theorem dM_slide_106 : decode mM_slide.2.1 106 = .ok (.goto (-60), 3) := by decide +kernel
theorem dM_slide_109 : decode mM_slide.2.1 109 = .ok (.iinc 6 1, 3) := by decide +kernel
theorem dM_slide_112 : decode mM_slide.2.1 112 = .ok (.goto (-78), 3) := by decide +kernel
theorem dM_slide_115 : decode mM_slide.2.1 115 = .ok (.return_, 1) := by decide +kernel
theorem dW_lay_0 : decode mW_lay.2.1 0 = .ok (.aload_n 0, 1) := by decide +kernel
theorem dW_lay_1 : decode mW_lay.2.1 1 = .ok (.aload_n 1, 1) := by decide +kernel
theorem dW_lay_2 : decode mW_lay.2.1 2 = .ok (.getfield 20, 3) := by decide +kernel
theorem dW_lay_5 : decode mW_lay.2.1 5 = .ok (.invokestatic 13, 3) := by decide +kernel
theorem dW_lay_8 : decode mW_lay.2.1 8 = .ok (.putfield 26, 3) := by decide +kernel
theorem dW_lay_11 : decode mW_lay.2.1 11 = .ok (.aload_n 0, 1) := by decide +kernel
theorem dW_lay_12 : decode mW_lay.2.1 12 = .ok (.aload_n 1, 1) := by decide +kernel
theorem dW_lay_13 : decode mW_lay.2.1 13 = .ok (.getfield 20, 3) := by decide +kernel
theorem dW_lay_16 : decode mW_lay.2.1 16 = .ok (.invokestatic 17, 3) := by decide +kernel
theorem dW_lay_19 : decode mW_lay.2.1 19 = .ok (.putfield 29, 3) := by decide +kernel
theorem dW_lay_22 : decode mW_lay.2.1 22 = .ok (.aload_n 0, 1) := by decide +kernel
theorem dW_lay_23 : decode mW_lay.2.1 23 = .ok (.aload_n 2, 1) := by decide +kernel
theorem dW_lay_24 : decode mW_lay.2.1 24 = .ok (.getfield 32, 3) := by decide +kernel
theorem dW_lay_27 : decode mW_lay.2.1 27 = .ok (.putfield 35, 3) := by decide +kernel
theorem dW_lay_30 : decode mW_lay.2.1 30 = .ok (.aload_n 0, 1) := by decide +kernel
theorem dW_lay_31 : decode mW_lay.2.1 31 = .ok (.aload_n 2, 1) := by decide +kernel
theorem dW_lay_32 : decode mW_lay.2.1 32 = .ok (.getfield 38, 3) := by decide +kernel
theorem dW_lay_35 : decode mW_lay.2.1 35 = .ok (.putfield 41, 3) := by decide +kernel
theorem dW_lay_38 : decode mW_lay.2.1 38 = .ok (.aload_n 0, 1) := by decide +kernel
theorem dW_lay_39 : decode mW_lay.2.1 39 = .ok (.aload_n 0, 1) := by decide +kernel
theorem dW_lay_40 : decode mW_lay.2.1 40 = .ok (.aload_n 1, 1) := by decide +kernel
theorem dW_lay_41 : decode mW_lay.2.1 41 = .ok (.getfield 32, 3) := by decide +kernel
theorem dW_lay_44 : decode mW_lay.2.1 44 = .ok (.aload_n 2, 1) := by decide +kernel
theorem dW_lay_45 : decode mW_lay.2.1 45 = .ok (.getfield 32, 3) := by decide +kernel
theorem dW_lay_48 : decode mW_lay.2.1 48 = .ok (.invokevirtual 44, 3) := by decide +kernel
theorem dW_lay_51 : decode mW_lay.2.1 51 = .ok (.putfield 48, 3) := by decide +kernel
theorem dW_lay_54 : decode mW_lay.2.1 54 = .ok (.aload_n 0, 1) := by decide +kernel
theorem dW_lay_55 : decode mW_lay.2.1 55 = .ok (.aload_n 0, 1) := by decide +kernel
theorem dW_lay_56 : decode mW_lay.2.1 56 = .ok (.aload_n 1, 1) := by decide +kernel
theorem dW_lay_57 : decode mW_lay.2.1 57 = .ok (.getfield 38, 3) := by decide +kernel
theorem dW_lay_60 : decode mW_lay.2.1 60 = .ok (.aload_n 2, 1) := by decide +kernel
theorem dW_lay_61 : decode mW_lay.2.1 61 = .ok (.getfield 38, 3) := by decide +kernel
theorem dW_lay_64 : decode mW_lay.2.1 64 = .ok (.invokevirtual 44, 3) := by decide +kernel
theorem dW_lay_67 : decode mW_lay.2.1 67 = .ok (.putfield 51, 3) := by decide +kernel
theorem dW_lay_70 : decode mW_lay.2.1 70 = .ok (.return_, 1) := by decide +kernel
theorem dW_before_0 : decode mW_before.2.1 0 = .ok (.iload_n 1, 1) := by decide +kernel
theorem dW_before_1 : decode mW_before.2.1 1 = .ok (.iconst 1, 1) := by decide +kernel
theorem dW_before_2 : decode mW_before.2.1 2 = .ok (.isub, 1) := by decide +kernel
theorem dW_before_3 : decode mW_before.2.1 3 = .ok (.aload_n 0, 1) := by decide +kernel
theorem dW_before_4 : decode mW_before.2.1 4 = .ok (.getfield 29, 3) := by decide +kernel
theorem dW_before_7 : decode mW_before.2.1 7 = .ok (.imul, 1) := by decide +kernel
theorem dW_before_8 : decode mW_before.2.1 8 = .ok (.aload_n 0, 1) := by decide +kernel
theorem dW_before_9 : decode mW_before.2.1 9 = .ok (.getfield 26, 3) := by decide +kernel
theorem dW_before_12 : decode mW_before.2.1 12 = .ok (.iadd, 1) := by decide +kernel
theorem dW_before_13 : decode mW_before.2.1 13 = .ok (.iload_n 2, 1) := by decide +kernel
theorem dW_before_14 : decode mW_before.2.1 14 = .ok (.isub, 1) := by decide +kernel
theorem dW_before_15 : decode mW_before.2.1 15 = .ok (.istore_n 3, 1) := by decide +kernel
theorem dW_before_16 : decode mW_before.2.1 16 = .ok (.iload_n 3, 1) := by decide +kernel
theorem dW_before_17 : decode mW_before.2.1 17 = .ok (.iconst 0, 1) := by decide +kernel
theorem dW_before_18 : decode mW_before.2.1 18 = .ok (.invokestatic 54, 3) := by decide +kernel
theorem dW_before_21 : decode mW_before.2.1 21 = .ok (.iconst 2, 1) := by decide +kernel
theorem dW_before_22 : decode mW_before.2.1 22 = .ok (.idiv, 1) := by decide +kernel
theorem dW_before_23 : decode mW_before.2.1 23 = .ok (.ireturn, 1) := by decide +kernel
theorem dW_move_0 : decode mW_move.2.1 0 = .ok (.aload_n 0, 1) := by decide +kernel
theorem dW_move_1 : decode mW_move.2.1 1 = .ok (.iload_n 1, 1) := by decide +kernel
theorem dW_move_2 : decode mW_move.2.1 2 = .ok (.aload_n 0, 1) := by decide +kernel
theorem dW_move_3 : decode mW_move.2.1 3 = .ok (.getfield 29, 3) := by decide +kernel
theorem dW_move_6 : decode mW_move.2.1 6 = .ok (.imul, 1) := by decide +kernel
theorem dW_move_7 : decode mW_move.2.1 7 = .ok (.aload_n 0, 1) := by decide +kernel
theorem dW_move_8 : decode mW_move.2.1 8 = .ok (.getfield 48, 3) := by decide +kernel
theorem dW_move_11 : decode mW_move.2.1 11 = .ok (.isub, 1) := by decide +kernel
theorem dW_move_12 : decode mW_move.2.1 12 = .ok (.putfield 59, 3) := by decide +kernel
theorem dW_move_15 : decode mW_move.2.1 15 = .ok (.aload_n 0, 1) := by decide +kernel
theorem dW_move_16 : decode mW_move.2.1 16 = .ok (.iload_n 2, 1) := by decide +kernel
theorem dW_move_17 : decode mW_move.2.1 17 = .ok (.aload_n 0, 1) := by decide +kernel
theorem dW_move_18 : decode mW_move.2.1 18 = .ok (.getfield 29, 3) := by decide +kernel
theorem dW_move_21 : decode mW_move.2.1 21 = .ok (.imul, 1) := by decide +kernel
theorem dW_move_22 : decode mW_move.2.1 22 = .ok (.aload_n 0, 1) := by decide +kernel
theorem dW_move_23 : decode mW_move.2.1 23 = .ok (.getfield 51, 3) := by decide +kernel
theorem dW_move_26 : decode mW_move.2.1 26 = .ok (.isub, 1) := by decide +kernel
theorem dW_move_27 : decode mW_move.2.1 27 = .ok (.putfield 62, 3) := by decide +kernel
theorem dW_move_30 : decode mW_move.2.1 30 = .ok (.aload_n 0, 1) := by decide +kernel
theorem dW_move_31 : decode mW_move.2.1 31 = .ok (.aload_n 0, 1) := by decide +kernel
theorem dW_move_32 : decode mW_move.2.1 32 = .ok (.getfield 59, 3) := by decide +kernel
theorem dW_move_35 : decode mW_move.2.1 35 = .ok (.iconst 0, 1) := by decide +kernel
theorem dW_move_36 : decode mW_move.2.1 36 = .ok (.invokestatic 54, 3) := by decide +kernel
theorem dW_move_39 : decode mW_move.2.1 39 = .ok (.putfield 65, 3) := by decide +kernel
theorem dW_move_42 : decode mW_move.2.1 42 = .ok (.aload_n 0, 1) := by decide +kernel
theorem dW_move_43 : decode mW_move.2.1 43 = .ok (.aload_n 0, 1) := by decide +kernel
theorem dW_move_44 : decode mW_move.2.1 44 = .ok (.getfield 59, 3) := by decide +kernel
theorem dW_move_47 : decode mW_move.2.1 47 = .ok (.aload_n 0, 1) := by decide +kernel
theorem dW_move_48 : decode mW_move.2.1 48 = .ok (.getfield 26, 3) := by decide +kernel
theorem dW_move_51 : decode mW_move.2.1 51 = .ok (.iadd, 1) := by decide +kernel
theorem dW_move_52 : decode mW_move.2.1 52 = .ok (.aload_n 0, 1) := by decide +kernel
theorem dW_move_53 : decode mW_move.2.1 53 = .ok (.getfield 35, 3) := by decide +kernel
theorem dW_move_56 : decode mW_move.2.1 56 = .ok (.invokestatic 68, 3) := by decide +kernel
theorem dW_move_59 : decode mW_move.2.1 59 = .ok (.putfield 71, 3) := by decide +kernel
theorem dW_move_62 : decode mW_move.2.1 62 = .ok (.aload_n 0, 1) := by decide +kernel
theorem dW_move_63 : decode mW_move.2.1 63 = .ok (.aload_n 0, 1) := by decide +kernel
theorem dW_move_64 : decode mW_move.2.1 64 = .ok (.getfield 62, 3) := by decide +kernel
theorem dW_move_67 : decode mW_move.2.1 67 = .ok (.iconst 0, 1) := by decide +kernel
theorem dW_move_68 : decode mW_move.2.1 68 = .ok (.invokestatic 54, 3) := by decide +kernel
theorem dW_move_71 : decode mW_move.2.1 71 = .ok (.putfield 74, 3) := by decide +kernel
theorem dW_move_74 : decode mW_move.2.1 74 = .ok (.aload_n 0, 1) := by decide +kernel
theorem dW_move_75 : decode mW_move.2.1 75 = .ok (.aload_n 0, 1) := by decide +kernel
theorem dW_move_76 : decode mW_move.2.1 76 = .ok (.getfield 62, 3) := by decide +kernel
theorem dW_move_79 : decode mW_move.2.1 79 = .ok (.aload_n 0, 1) := by decide +kernel
theorem dW_move_80 : decode mW_move.2.1 80 = .ok (.getfield 26, 3) := by decide +kernel
theorem dW_move_83 : decode mW_move.2.1 83 = .ok (.iadd, 1) := by decide +kernel
theorem dW_move_84 : decode mW_move.2.1 84 = .ok (.aload_n 0, 1) := by decide +kernel
theorem dW_move_85 : decode mW_move.2.1 85 = .ok (.getfield 41, 3) := by decide +kernel
theorem dW_move_88 : decode mW_move.2.1 88 = .ok (.invokestatic 68, 3) := by decide +kernel
theorem dW_move_91 : decode mW_move.2.1 91 = .ok (.putfield 77, 3) := by decide +kernel
theorem dW_move_94 : decode mW_move.2.1 94 = .ok (.return_, 1) := by decide +kernel
theorem dM_ofWindow_0 : decode mM_ofWindow.2.1 0 = .ok (.aload_n 0, 1) := by decide +kernel
theorem dM_ofWindow_1 : decode mM_ofWindow.2.1 1 = .ok (.getfield 21, 3) := by decide +kernel
theorem dM_ofWindow_4 : decode mM_ofWindow.2.1 4 = .ok (.getfield 171, 3) := by decide +kernel
theorem dM_ofWindow_7 : decode mM_ofWindow.2.1 7 = .ok (.aload_n 0, 1) := by decide +kernel
theorem dM_ofWindow_8 : decode mM_ofWindow.2.1 8 = .ok (.getfield 21, 3) := by decide +kernel
theorem dM_ofWindow_11 : decode mM_ofWindow.2.1 11 = .ok (.getfield 171, 3) := by decide +kernel
theorem dM_ofWindow_14 : decode mM_ofWindow.2.1 14 = .ok (.imul, 1) := by decide +kernel
theorem dM_ofWindow_15 : decode mM_ofWindow.2.1 15 = .ok (.istore 5, 2) := by decide +kernel
theorem dM_ofWindow_17 : decode mM_ofWindow.2.1 17 = .ok (.aload_n 1, 1) := by decide +kernel
theorem dM_ofWindow_18 : decode mM_ofWindow.2.1 18 = .ok (.getfield 115, 3) := by decide +kernel
theorem dM_ofWindow_21 : decode mM_ofWindow.2.1 21 = .ok (.lookupswitch 118 #[(1, 35), (2, 74), (7, 108)], 35) := by decide +kernel
theorem dM_ofWindow_56 : decode mM_ofWindow.2.1 56 = .ok (.aload_n 0, 1) := by decide +kernel
theorem dM_ofWindow_57 : decode mM_ofWindow.2.1 57 = .ok (.aload_n 1, 1) := by decide +kernel
theorem dM_ofWindow_58 : decode mM_ofWindow.2.1 58 = .ok (.iload 5, 2) := by decide +kernel
theorem dM_ofWindow_60 : decode mM_ofWindow.2.1 60 = .ok (.aload_n 2, 1) := by decide +kernel
theorem dM_ofWindow_61 : decode mM_ofWindow.2.1 61 = .ok (.getfield 164, 3) := by decide +kernel
theorem dM_ofWindow_64 : decode mM_ofWindow.2.1 64 = .ok (.imul, 1) := by decide +kernel
theorem dM_ofWindow_65 : decode mM_ofWindow.2.1 65 = .ok (.iload 4, 2) := by decide +kernel
theorem dM_ofWindow_67 : decode mM_ofWindow.2.1 67 = .ok (.invokevirtual 174, 3) := by decide +kernel
theorem dM_ofWindow_70 : decode mM_ofWindow.2.1 70 = .ok (.aload_n 0, 1) := by decide +kernel
theorem dM_ofWindow_71 : decode mM_ofWindow.2.1 71 = .ok (.aload_n 1, 1) := by decide +kernel
theorem dM_ofWindow_72 : decode mM_ofWindow.2.1 72 = .ok (.aload_n 2, 1) := by decide +kernel
theorem dM_ofWindow_73 : decode mM_ofWindow.2.1 73 = .ok (.iload_n 3, 1) := by decide +kernel
theorem dM_ofWindow_74 : decode mM_ofWindow.2.1 74 = .ok (.iload 4, 2) := by decide +kernel
theorem dM_ofWindow_76 : decode mM_ofWindow.2.1 76 = .ok (.invokevirtual 178, 3) := by decide +kernel
theorem dM_ofWindow_79 : decode mM_ofWindow.2.1 79 = .ok (.iadd, 1) := by decide +kernel
theorem dM_ofWindow_80 : decode mM_ofWindow.2.1 80 = .ok (.istore 6, 2) := by decide +kernel
theorem dM_ofWindow_82 : decode mM_ofWindow.2.1 82 = .ok (.aload_n 0, 1) := by decide +kernel
theorem dM_ofWindow_83 : decode mM_ofWindow.2.1 83 = .ok (.getfield 28, 3) := by decide +kernel
theorem dM_ofWindow_86 : decode mM_ofWindow.2.1 86 = .ok (.iload 6, 2) := by decide +kernel
theorem dM_ofWindow_88 : decode mM_ofWindow.2.1 88 = .ok (.invokevirtual 181, 3) := by decide +kernel
theorem dM_ofWindow_91 : decode mM_ofWindow.2.1 91 = .ok (.invokestatic 185, 3) := by decide +kernel
theorem dM_ofWindow_94 : decode mM_ofWindow.2.1 94 = .ok (.ireturn, 1) := by decide +kernel
theorem dM_ofWindow_95 : decode mM_ofWindow.2.1 95 = .ok (.aload_n 0, 1) := by decide +kernel
theorem dM_ofWindow_96 : decode mM_ofWindow.2.1 96 = .ok (.aload_n 1, 1) := by decide +kernel
theorem dM_ofWindow_97 : decode mM_ofWindow.2.1 97 = .ok (.iload 5, 2) := by decide +kernel
theorem dM_ofWindow_99 : decode mM_ofWindow.2.1 99 = .ok (.iload 4, 2) := by decide +kernel
theorem dM_ofWindow_101 : decode mM_ofWindow.2.1 101 = .ok (.invokevirtual 174, 3) := by decide +kernel
theorem dM_ofWindow_104 : decode mM_ofWindow.2.1 104 = .ok (.aload_n 0, 1) := by decide +kernel
theorem dM_ofWindow_105 : decode mM_ofWindow.2.1 105 = .ok (.aload_n 1, 1) := by decide +kernel
theorem dM_ofWindow_106 : decode mM_ofWindow.2.1 106 = .ok (.aload_n 2, 1) := by decide +kernel
theorem dM_ofWindow_107 : decode mM_ofWindow.2.1 107 = .ok (.iload_n 3, 1) := by decide +kernel
theorem dM_ofWindow_108 : decode mM_ofWindow.2.1 108 = .ok (.iload 4, 2) := by decide +kernel
theorem dM_ofWindow_110 : decode mM_ofWindow.2.1 110 = .ok (.invokevirtual 189, 3) := by decide +kernel
theorem dM_ofWindow_113 : decode mM_ofWindow.2.1 113 = .ok (.iadd, 1) := by decide +kernel
theorem dM_ofWindow_114 : decode mM_ofWindow.2.1 114 = .ok (.istore 6, 2) := by decide +kernel
theorem dM_ofWindow_116 : decode mM_ofWindow.2.1 116 = .ok (.aload_n 0, 1) := by decide +kernel
theorem dM_ofWindow_117 : decode mM_ofWindow.2.1 117 = .ok (.getfield 28, 3) := by decide +kernel
theorem dM_ofWindow_120 : decode mM_ofWindow.2.1 120 = .ok (.iload 6, 2) := by decide +kernel
theorem dM_ofWindow_122 : decode mM_ofWindow.2.1 122 = .ok (.invokevirtual 181, 3) := by decide +kernel
theorem dM_ofWindow_125 : decode mM_ofWindow.2.1 125 = .ok (.invokestatic 185, 3) := by decide +kernel
theorem dM_ofWindow_128 : decode mM_ofWindow.2.1 128 = .ok (.ireturn, 1) := by decide +kernel
theorem dM_ofWindow_129 : decode mM_ofWindow.2.1 129 = .ok (.aload_n 0, 1) := by decide +kernel
theorem dM_ofWindow_130 : decode mM_ofWindow.2.1 130 = .ok (.aload_n 2, 1) := by decide +kernel
theorem dM_ofWindow_131 : decode mM_ofWindow.2.1 131 = .ok (.iload_n 3, 1) := by decide +kernel
theorem dM_ofWindow_132 : decode mM_ofWindow.2.1 132 = .ok (.iload 4, 2) := by decide +kernel
theorem dM_ofWindow_134 : decode mM_ofWindow.2.1 134 = .ok (.iadd, 1) := by decide +kernel
theorem dM_ofWindow_135 : decode mM_ofWindow.2.1 135 = .ok (.invokevirtual 192, 3) := by decide +kernel
theorem dM_ofWindow_138 : decode mM_ofWindow.2.1 138 = .ok (.ireturn, 1) := by decide +kernel
theorem dM_ofWindow_139 : decode mM_ofWindow.2.1 139 = .ok (.aload_n 0, 1) := by decide +kernel
theorem dM_ofWindow_140 : decode mM_ofWindow.2.1 140 = .ok (.aload_n 2, 1) := by decide +kernel
theorem dM_ofWindow_141 : decode mM_ofWindow.2.1 141 = .ok (.iload_n 3, 1) := by decide +kernel
theorem dM_ofWindow_142 : decode mM_ofWindow.2.1 142 = .ok (.iload 4, 2) := by decide +kernel
theorem dM_ofWindow_144 : decode mM_ofWindow.2.1 144 = .ok (.iadd, 1) := by decide +kernel
theorem dM_ofWindow_145 : decode mM_ofWindow.2.1 145 = .ok (.invokevirtual 196, 3) := by decide +kernel
theorem dM_ofWindow_148 : decode mM_ofWindow.2.1 148 = .ok (.ireturn, 1) := by decide +kernel
theorem dM_sumAllChannels_0 : decode mM_sumAllChannels.2.1 0 = .ok (.aload_n 0, 1) := by decide +kernel
theorem dM_sumAllChannels_1 : decode mM_sumAllChannels.2.1 1 = .ok (.getfield 21, 3) := by decide +kernel
theorem dM_sumAllChannels_4 : decode mM_sumAllChannels.2.1 4 = .ok (.getfield 171, 3) := by decide +kernel
theorem dM_sumAllChannels_7 : decode mM_sumAllChannels.2.1 7 = .ok (.istore 5, 2) := by decide +kernel
theorem dM_sumAllChannels_9 : decode mM_sumAllChannels.2.1 9 = .ok (.aload_n 2, 1) := by decide +kernel
theorem dM_sumAllChannels_10 : decode mM_sumAllChannels.2.1 10 = .ok (.getfield 164, 3) := by decide +kernel
theorem dM_sumAllChannels_13 : decode mM_sumAllChannels.2.1 13 = .ok (.istore 6, 2) := by decide +kernel
theorem dM_sumAllChannels_15 : decode mM_sumAllChannels.2.1 15 = .ok (.iconst 0, 1) := by decide +kernel
theorem dM_sumAllChannels_16 : decode mM_sumAllChannels.2.1 16 = .ok (.istore 7, 2) := by decide +kernel
theorem dM_sumAllChannels_18 : decode mM_sumAllChannels.2.1 18 = .ok (.aload_n 0, 1) := by decide +kernel
theorem dM_sumAllChannels_19 : decode mM_sumAllChannels.2.1 19 = .ok (.getfield 21, 3) := by decide +kernel
theorem dM_sumAllChannels_22 : decode mM_sumAllChannels.2.1 22 = .ok (.getfield 199, 3) := by decide +kernel
theorem dM_sumAllChannels_25 : decode mM_sumAllChannels.2.1 25 = .ok (.istore 8, 2) := by decide +kernel
theorem dM_sumAllChannels_27 : decode mM_sumAllChannels.2.1 27 = .ok (.iload 8, 2) := by decide +kernel
theorem dM_sumAllChannels_29 : decode mM_sumAllChannels.2.1 29 = .ok (.aload_n 0, 1) := by decide +kernel
theorem dM_sumAllChannels_30 : decode mM_sumAllChannels.2.1 30 = .ok (.getfield 21, 3) := by decide +kernel
theorem dM_sumAllChannels_33 : decode mM_sumAllChannels.2.1 33 = .ok (.getfield 202, 3) := by decide +kernel
theorem dM_sumAllChannels_36 : decode mM_sumAllChannels.2.1 36 = .ok (.if_icmp .ge 139, 3) := by decide +kernel
theorem dM_sumAllChannels_39 : decode mM_sumAllChannels.2.1 39 = .ok (.aload_n 0, 1) := by decide +kernel
theorem dM_sumAllChannels_40 : decode mM_sumAllChannels.2.1 40 = .ok (.getfield 21, 3) := by decide +kernel
theorem dM_sumAllChannels_43 : decode mM_sumAllChannels.2.1 43 = .ok (.getfield 205, 3) := by decide +kernel
theorem dM_sumAllChannels_46 : decode mM_sumAllChannels.2.1 46 = .ok (.istore 9, 2) := by decide +kernel
theorem dM_sumAllChannels_48 : decode mM_sumAllChannels.2.1 48 = .ok (.iload 9, 2) := by decide +kernel
theorem dM_sumAllChannels_50 : decode mM_sumAllChannels.2.1 50 = .ok (.aload_n 0, 1) := by decide +kernel
theorem dM_sumAllChannels_51 : decode mM_sumAllChannels.2.1 51 = .ok (.getfield 21, 3) := by decide +kernel
theorem dM_sumAllChannels_54 : decode mM_sumAllChannels.2.1 54 = .ok (.getfield 208, 3) := by decide +kernel
theorem dM_sumAllChannels_57 : decode mM_sumAllChannels.2.1 57 = .ok (.if_icmp .ge 112, 3) := by decide +kernel
theorem dM_sumAllChannels_60 : decode mM_sumAllChannels.2.1 60 = .ok (.iload_n 3, 1) := by decide +kernel
theorem dM_sumAllChannels_61 : decode mM_sumAllChannels.2.1 61 = .ok (.iload 8, 2) := by decide +kernel
theorem dM_sumAllChannels_63 : decode mM_sumAllChannels.2.1 63 = .ok (.aload_n 2, 1) := by decide +kernel
theorem dM_sumAllChannels_64 : decode mM_sumAllChannels.2.1 64 = .ok (.getfield 157, 3) := by decide +kernel
theorem dM_sumAllChannels_67 : decode mM_sumAllChannels.2.1 67 = .ok (.imul, 1) := by decide +kernel
theorem dM_sumAllChannels_68 : decode mM_sumAllChannels.2.1 68 = .ok (.iload 9, 2) := by decide +kernel
theorem dM_sumAllChannels_70 : decode mM_sumAllChannels.2.1 70 = .ok (.iadd, 1) := by decide +kernel
theorem dM_sumAllChannels_71 : decode mM_sumAllChannels.2.1 71 = .ok (.iload 6, 2) := by decide +kernel
theorem dM_sumAllChannels_73 : decode mM_sumAllChannels.2.1 73 = .ok (.imul, 1) := by decide +kernel
theorem dM_sumAllChannels_74 : decode mM_sumAllChannels.2.1 74 = .ok (.iadd, 1) := by decide +kernel
theorem dM_sumAllChannels_75 : decode mM_sumAllChannels.2.1 75 = .ok (.istore 10, 2) := by decide +kernel
theorem dM_sumAllChannels_77 : decode mM_sumAllChannels.2.1 77 = .ok (.iload 4, 2) := by decide +kernel
theorem dM_sumAllChannels_79 : decode mM_sumAllChannels.2.1 79 = .ok (.iload 5, 2) := by decide +kernel
theorem dM_sumAllChannels_81 : decode mM_sumAllChannels.2.1 81 = .ok (.imul, 1) := by decide +kernel
theorem dM_sumAllChannels_82 : decode mM_sumAllChannels.2.1 82 = .ok (.iload 8, 2) := by decide +kernel
theorem dM_sumAllChannels_84 : decode mM_sumAllChannels.2.1 84 = .ok (.iadd, 1) := by decide +kernel
theorem dM_sumAllChannels_85 : decode mM_sumAllChannels.2.1 85 = .ok (.aload_n 0, 1) := by decide +kernel
theorem dM_sumAllChannels_86 : decode mM_sumAllChannels.2.1 86 = .ok (.getfield 21, 3) := by decide +kernel
theorem dM_sumAllChannels_89 : decode mM_sumAllChannels.2.1 89 = .ok (.getfield 211, 3) := by decide +kernel
theorem dM_sumAllChannels_92 : decode mM_sumAllChannels.2.1 92 = .ok (.isub, 1) := by decide +kernel
theorem dM_sumAllChannels_93 : decode mM_sumAllChannels.2.1 93 = .ok (.iload 5, 2) := by decide +kernel
theorem dM_sumAllChannels_95 : decode mM_sumAllChannels.2.1 95 = .ok (.imul, 1) := by decide +kernel
theorem dM_sumAllChannels_96 : decode mM_sumAllChannels.2.1 96 = .ok (.iload 9, 2) := by decide +kernel
theorem dM_sumAllChannels_98 : decode mM_sumAllChannels.2.1 98 = .ok (.iadd, 1) := by decide +kernel
theorem dM_sumAllChannels_99 : decode mM_sumAllChannels.2.1 99 = .ok (.aload_n 0, 1) := by decide +kernel
theorem dM_sumAllChannels_100 : decode mM_sumAllChannels.2.1 100 = .ok (.getfield 21, 3) := by decide +kernel
theorem dM_sumAllChannels_103 : decode mM_sumAllChannels.2.1 103 = .ok (.getfield 214, 3) := by decide +kernel
theorem dM_sumAllChannels_106 : decode mM_sumAllChannels.2.1 106 = .ok (.isub, 1) := by decide +kernel
theorem dM_sumAllChannels_107 : decode mM_sumAllChannels.2.1 107 = .ok (.istore 11, 2) := by decide +kernel
theorem dM_sumAllChannels_109 : decode mM_sumAllChannels.2.1 109 = .ok (.aload_n 1, 1) := by decide +kernel
theorem dM_sumAllChannels_110 : decode mM_sumAllChannels.2.1 110 = .ok (.getfield 217, 3) := by decide +kernel
theorem dM_sumAllChannels_113 : decode mM_sumAllChannels.2.1 113 = .ok (.iload 11, 2) := by decide +kernel
theorem dM_sumAllChannels_115 : decode mM_sumAllChannels.2.1 115 = .ok (.iload 6, 2) := by decide +kernel
theorem dM_sumAllChannels_117 : decode mM_sumAllChannels.2.1 117 = .ok (.imul, 1) := by decide +kernel
theorem dM_sumAllChannels_118 : decode mM_sumAllChannels.2.1 118 = .ok (.iadd, 1) := by decide +kernel
theorem dM_sumAllChannels_119 : decode mM_sumAllChannels.2.1 119 = .ok (.istore 12, 2) := by decide +kernel
theorem dM_sumAllChannels_121 : decode mM_sumAllChannels.2.1 121 = .ok (.iconst 0, 1) := by decide +kernel
theorem dM_sumAllChannels_122 : decode mM_sumAllChannels.2.1 122 = .ok (.istore 13, 2) := by decide +kernel
theorem dM_sumAllChannels_124 : decode mM_sumAllChannels.2.1 124 = .ok (.iload 13, 2) := by decide +kernel
theorem dM_sumAllChannels_126 : decode mM_sumAllChannels.2.1 126 = .ok (.iload 6, 2) := by decide +kernel
theorem dM_sumAllChannels_128 : decode mM_sumAllChannels.2.1 128 = .ok (.if_icmp .ge 35, 3) := by decide +kernel
theorem dM_sumAllChannels_131 : decode mM_sumAllChannels.2.1 131 = .ok (.iload 7, 2) := by decide +kernel
theorem dM_sumAllChannels_133 : decode mM_sumAllChannels.2.1 133 = .ok (.aload_n 0, 1) := by decide +kernel
theorem dM_sumAllChannels_134 : decode mM_sumAllChannels.2.1 134 = .ok (.getfield 15, 3) := by decide +kernel
theorem dM_sumAllChannels_137 : decode mM_sumAllChannels.2.1 137 = .ok (.iload 10, 2) := by decide +kernel
theorem dM_sumAllChannels_139 : decode mM_sumAllChannels.2.1 139 = .ok (.iload 13, 2) := by decide +kernel
theorem dM_sumAllChannels_141 : decode mM_sumAllChannels.2.1 141 = .ok (.iadd, 1) := by decide +kernel
theorem dM_sumAllChannels_142 : decode mM_sumAllChannels.2.1 142 = .ok (.iaload, 1) := by decide +kernel
theorem dM_sumAllChannels_143 : decode mM_sumAllChannels.2.1 143 = .ok (.aload_n 0, 1) := by decide +kernel
theorem dM_sumAllChannels_144 : decode mM_sumAllChannels.2.1 144 = .ok (.getfield 9, 3) := by decide +kernel
theorem dM_sumAllChannels_147 : decode mM_sumAllChannels.2.1 147 = .ok (.iload 12, 2) := by decide +kernel
theorem dM_sumAllChannels_149 : decode mM_sumAllChannels.2.1 149 = .ok (.iload 13, 2) := by decide +kernel
theorem dM_sumAllChannels_151 : decode mM_sumAllChannels.2.1 151 = .ok (.iadd, 1) := by decide +kernel
theorem dM_sumAllChannels_152 : decode mM_sumAllChannels.2.1 152 = .ok (.iaload, 1) := by decide +kernel
theorem dM_sumAllChannels_153 : decode mM_sumAllChannels.2.1 153 = .ok (.imul, 1) := by decide +kernel
theorem dM_sumAllChannels_154 : decode mM_sumAllChannels.2.1 154 = .ok (.iadd, 1) := by decide +kernel
theorem dM_sumAllChannels_155 : decode mM_sumAllChannels.2.1 155 = .ok (.istore 7, 2) := by decide +kernel
theorem dM_sumAllChannels_157 : decode mM_sumAllChannels.2.1 157 = .ok (.iinc 13 1, 3) := by decide +kernel
theorem dM_sumAllChannels_160 : decode mM_sumAllChannels.2.1 160 = .ok (.goto (-36), 3) := by decide +kernel
theorem dM_sumAllChannels_163 : decode mM_sumAllChannels.2.1 163 = .ok (.iinc 9 1, 3) := by decide +kernel
theorem dM_sumAllChannels_166 : decode mM_sumAllChannels.2.1 166 = .ok (.goto (-118), 3) := by decide +kernel
theorem dM_sumAllChannels_169 : decode mM_sumAllChannels.2.1 169 = .ok (.iinc 8 1, 3) := by decide +kernel
theorem dM_sumAllChannels_172 : decode mM_sumAllChannels.2.1 172 = .ok (.goto (-145), 3) := by decide +kernel
theorem dM_sumAllChannels_175 : decode mM_sumAllChannels.2.1 175 = .ok (.iload 7, 2) := by decide +kernel
theorem dM_sumAllChannels_177 : decode mM_sumAllChannels.2.1 177 = .ok (.ireturn, 1) := by decide +kernel
theorem dM_sumOneChannel_0 : decode mM_sumOneChannel.2.1 0 = .ok (.aload_n 0, 1) := by decide +kernel
theorem dM_sumOneChannel_1 : decode mM_sumOneChannel.2.1 1 = .ok (.getfield 21, 3) := by decide +kernel
theorem dM_sumOneChannel_4 : decode mM_sumOneChannel.2.1 4 = .ok (.getfield 171, 3) := by decide +kernel
theorem dM_sumOneChannel_7 : decode mM_sumOneChannel.2.1 7 = .ok (.istore 5, 2) := by decide +kernel
theorem dM_sumOneChannel_9 : decode mM_sumOneChannel.2.1 9 = .ok (.iconst 0, 1) := by decide +kernel
theorem dM_sumOneChannel_10 : decode mM_sumOneChannel.2.1 10 = .ok (.istore 6, 2) := by decide +kernel
theorem dM_sumOneChannel_12 : decode mM_sumOneChannel.2.1 12 = .ok (.aload_n 0, 1) := by decide +kernel
theorem dM_sumOneChannel_13 : decode mM_sumOneChannel.2.1 13 = .ok (.getfield 21, 3) := by decide +kernel
theorem dM_sumOneChannel_16 : decode mM_sumOneChannel.2.1 16 = .ok (.getfield 199, 3) := by decide +kernel
theorem dM_sumOneChannel_19 : decode mM_sumOneChannel.2.1 19 = .ok (.istore 7, 2) := by decide +kernel
theorem dM_sumOneChannel_21 : decode mM_sumOneChannel.2.1 21 = .ok (.iload 7, 2) := by decide +kernel
theorem dM_sumOneChannel_23 : decode mM_sumOneChannel.2.1 23 = .ok (.aload_n 0, 1) := by decide +kernel
theorem dM_sumOneChannel_24 : decode mM_sumOneChannel.2.1 24 = .ok (.getfield 21, 3) := by decide +kernel
theorem dM_sumOneChannel_27 : decode mM_sumOneChannel.2.1 27 = .ok (.getfield 202, 3) := by decide +kernel
theorem dM_sumOneChannel_30 : decode mM_sumOneChannel.2.1 30 = .ok (.if_icmp .ge 115, 3) := by decide +kernel
theorem dM_sumOneChannel_33 : decode mM_sumOneChannel.2.1 33 = .ok (.aload_n 0, 1) := by decide +kernel
theorem dM_sumOneChannel_34 : decode mM_sumOneChannel.2.1 34 = .ok (.getfield 21, 3) := by decide +kernel
theorem dM_sumOneChannel_37 : decode mM_sumOneChannel.2.1 37 = .ok (.getfield 205, 3) := by decide +kernel
theorem dM_sumOneChannel_40 : decode mM_sumOneChannel.2.1 40 = .ok (.istore 8, 2) := by decide +kernel
theorem dM_sumOneChannel_42 : decode mM_sumOneChannel.2.1 42 = .ok (.iload 8, 2) := by decide +kernel
theorem dM_sumOneChannel_44 : decode mM_sumOneChannel.2.1 44 = .ok (.aload_n 0, 1) := by decide +kernel
theorem dM_sumOneChannel_45 : decode mM_sumOneChannel.2.1 45 = .ok (.getfield 21, 3) := by decide +kernel
theorem dM_sumOneChannel_48 : decode mM_sumOneChannel.2.1 48 = .ok (.getfield 208, 3) := by decide +kernel
theorem dM_sumOneChannel_51 : decode mM_sumOneChannel.2.1 51 = .ok (.if_icmp .ge 88, 3) := by decide +kernel
theorem dM_sumOneChannel_54 : decode mM_sumOneChannel.2.1 54 = .ok (.iload_n 3, 1) := by decide +kernel
theorem dM_sumOneChannel_55 : decode mM_sumOneChannel.2.1 55 = .ok (.iload 7, 2) := by decide +kernel
theorem dM_sumOneChannel_57 : decode mM_sumOneChannel.2.1 57 = .ok (.aload_n 2, 1) := by decide +kernel
theorem dM_sumOneChannel_58 : decode mM_sumOneChannel.2.1 58 = .ok (.getfield 157, 3) := by decide +kernel
theorem dM_sumOneChannel_61 : decode mM_sumOneChannel.2.1 61 = .ok (.imul, 1) := by decide +kernel
theorem dM_sumOneChannel_62 : decode mM_sumOneChannel.2.1 62 = .ok (.iload 8, 2) := by decide +kernel
theorem dM_sumOneChannel_64 : decode mM_sumOneChannel.2.1 64 = .ok (.iadd, 1) := by decide +kernel
theorem dM_sumOneChannel_65 : decode mM_sumOneChannel.2.1 65 = .ok (.aload_n 2, 1) := by decide +kernel
theorem dM_sumOneChannel_66 : decode mM_sumOneChannel.2.1 66 = .ok (.getfield 164, 3) := by decide +kernel
theorem dM_sumOneChannel_69 : decode mM_sumOneChannel.2.1 69 = .ok (.imul, 1) := by decide +kernel
theorem dM_sumOneChannel_70 : decode mM_sumOneChannel.2.1 70 = .ok (.iadd, 1) := by decide +kernel
theorem dM_sumOneChannel_71 : decode mM_sumOneChannel.2.1 71 = .ok (.iload 4, 2) := by decide +kernel
theorem dM_sumOneChannel_73 : decode mM_sumOneChannel.2.1 73 = .ok (.iadd, 1) := by decide +kernel
theorem dM_sumOneChannel_74 : decode mM_sumOneChannel.2.1 74 = .ok (.istore 9, 2) := by decide +kernel
theorem dM_sumOneChannel_76 : decode mM_sumOneChannel.2.1 76 = .ok (.iload 4, 2) := by decide +kernel
theorem dM_sumOneChannel_78 : decode mM_sumOneChannel.2.1 78 = .ok (.iload 5, 2) := by decide +kernel
theorem dM_sumOneChannel_80 : decode mM_sumOneChannel.2.1 80 = .ok (.imul, 1) := by decide +kernel
theorem dM_sumOneChannel_81 : decode mM_sumOneChannel.2.1 81 = .ok (.iload 7, 2) := by decide +kernel
theorem dM_sumOneChannel_83 : decode mM_sumOneChannel.2.1 83 = .ok (.iadd, 1) := by decide +kernel
theorem dM_sumOneChannel_84 : decode mM_sumOneChannel.2.1 84 = .ok (.aload_n 0, 1) := by decide +kernel
theorem dM_sumOneChannel_85 : decode mM_sumOneChannel.2.1 85 = .ok (.getfield 21, 3) := by decide +kernel
theorem dM_sumOneChannel_88 : decode mM_sumOneChannel.2.1 88 = .ok (.getfield 211, 3) := by decide +kernel
theorem dM_sumOneChannel_91 : decode mM_sumOneChannel.2.1 91 = .ok (.isub, 1) := by decide +kernel
theorem dM_sumOneChannel_92 : decode mM_sumOneChannel.2.1 92 = .ok (.iload 5, 2) := by decide +kernel
theorem dM_sumOneChannel_94 : decode mM_sumOneChannel.2.1 94 = .ok (.imul, 1) := by decide +kernel
theorem dM_sumOneChannel_95 : decode mM_sumOneChannel.2.1 95 = .ok (.iload 8, 2) := by decide +kernel
theorem dM_sumOneChannel_97 : decode mM_sumOneChannel.2.1 97 = .ok (.iadd, 1) := by decide +kernel
theorem dM_sumOneChannel_98 : decode mM_sumOneChannel.2.1 98 = .ok (.aload_n 0, 1) := by decide +kernel
theorem dM_sumOneChannel_99 : decode mM_sumOneChannel.2.1 99 = .ok (.getfield 21, 3) := by decide +kernel
theorem dM_sumOneChannel_102 : decode mM_sumOneChannel.2.1 102 = .ok (.getfield 214, 3) := by decide +kernel
theorem dM_sumOneChannel_105 : decode mM_sumOneChannel.2.1 105 = .ok (.isub, 1) := by decide +kernel
theorem dM_sumOneChannel_106 : decode mM_sumOneChannel.2.1 106 = .ok (.istore 10, 2) := by decide +kernel
theorem dM_sumOneChannel_108 : decode mM_sumOneChannel.2.1 108 = .ok (.iload 6, 2) := by decide +kernel
theorem dM_sumOneChannel_110 : decode mM_sumOneChannel.2.1 110 = .ok (.aload_n 0, 1) := by decide +kernel
theorem dM_sumOneChannel_111 : decode mM_sumOneChannel.2.1 111 = .ok (.getfield 15, 3) := by decide +kernel
theorem dM_sumOneChannel_114 : decode mM_sumOneChannel.2.1 114 = .ok (.iload 9, 2) := by decide +kernel
theorem dM_sumOneChannel_116 : decode mM_sumOneChannel.2.1 116 = .ok (.iaload, 1) := by decide +kernel
theorem dM_sumOneChannel_117 : decode mM_sumOneChannel.2.1 117 = .ok (.aload_n 0, 1) := by decide +kernel
theorem dM_sumOneChannel_118 : decode mM_sumOneChannel.2.1 118 = .ok (.getfield 9, 3) := by decide +kernel
theorem dM_sumOneChannel_121 : decode mM_sumOneChannel.2.1 121 = .ok (.aload_n 1, 1) := by decide +kernel
theorem dM_sumOneChannel_122 : decode mM_sumOneChannel.2.1 122 = .ok (.getfield 217, 3) := by decide +kernel
theorem dM_sumOneChannel_125 : decode mM_sumOneChannel.2.1 125 = .ok (.iload 10, 2) := by decide +kernel
theorem dM_sumOneChannel_127 : decode mM_sumOneChannel.2.1 127 = .ok (.iadd, 1) := by decide +kernel
theorem dM_sumOneChannel_128 : decode mM_sumOneChannel.2.1 128 = .ok (.iaload, 1) := by decide +kernel
theorem dM_sumOneChannel_129 : decode mM_sumOneChannel.2.1 129 = .ok (.imul, 1) := by decide +kernel
theorem dM_sumOneChannel_130 : decode mM_sumOneChannel.2.1 130 = .ok (.iadd, 1) := by decide +kernel
theorem dM_sumOneChannel_131 : decode mM_sumOneChannel.2.1 131 = .ok (.istore 6, 2) := by decide +kernel
theorem dM_sumOneChannel_133 : decode mM_sumOneChannel.2.1 133 = .ok (.iinc 8 1, 3) := by decide +kernel
theorem dM_sumOneChannel_136 : decode mM_sumOneChannel.2.1 136 = .ok (.goto (-94), 3) := by decide +kernel
theorem dM_sumOneChannel_139 : decode mM_sumOneChannel.2.1 139 = .ok (.iinc 7 1, 3) := by decide +kernel
theorem dM_sumOneChannel_142 : decode mM_sumOneChannel.2.1 142 = .ok (.goto (-121), 3) := by decide +kernel
theorem dM_sumOneChannel_145 : decode mM_sumOneChannel.2.1 145 = .ok (.iload 6, 2) := by decide +kernel
theorem dM_sumOneChannel_147 : decode mM_sumOneChannel.2.1 147 = .ok (.ireturn, 1) := by decide +kernel
theorem dM_greatest_0 : decode mM_greatest.2.1 0 = .ok (.bipush (-128), 2) := by decide +kernel
theorem dM_greatest_2 : decode mM_greatest.2.1 2 = .ok (.istore_n 3, 1) := by decide +kernel
theorem dM_greatest_3 : decode mM_greatest.2.1 3 = .ok (.aload_n 0, 1) := by decide +kernel
theorem dM_greatest_4 : decode mM_greatest.2.1 4 = .ok (.getfield 21, 3) := by decide +kernel
theorem dM_greatest_7 : decode mM_greatest.2.1 7 = .ok (.getfield 199, 3) := by decide +kernel
theorem dM_greatest_10 : decode mM_greatest.2.1 10 = .ok (.istore 4, 2) := by decide +kernel
theorem dM_greatest_12 : decode mM_greatest.2.1 12 = .ok (.iload 4, 2) := by decide +kernel
theorem dM_greatest_14 : decode mM_greatest.2.1 14 = .ok (.aload_n 0, 1) := by decide +kernel
theorem dM_greatest_15 : decode mM_greatest.2.1 15 = .ok (.getfield 21, 3) := by decide +kernel
theorem dM_greatest_18 : decode mM_greatest.2.1 18 = .ok (.getfield 202, 3) := by decide +kernel
theorem dM_greatest_21 : decode mM_greatest.2.1 21 = .ok (.if_icmp .ge 63, 3) := by decide +kernel
theorem dM_greatest_24 : decode mM_greatest.2.1 24 = .ok (.aload_n 0, 1) := by decide +kernel
theorem dM_greatest_25 : decode mM_greatest.2.1 25 = .ok (.getfield 21, 3) := by decide +kernel
theorem dM_greatest_28 : decode mM_greatest.2.1 28 = .ok (.getfield 205, 3) := by decide +kernel
theorem dM_greatest_31 : decode mM_greatest.2.1 31 = .ok (.istore 5, 2) := by decide +kernel
theorem dM_greatest_33 : decode mM_greatest.2.1 33 = .ok (.iload 5, 2) := by decide +kernel
theorem dM_greatest_35 : decode mM_greatest.2.1 35 = .ok (.aload_n 0, 1) := by decide +kernel
theorem dM_greatest_36 : decode mM_greatest.2.1 36 = .ok (.getfield 21, 3) := by decide +kernel
theorem dM_greatest_39 : decode mM_greatest.2.1 39 = .ok (.getfield 208, 3) := by decide +kernel
theorem dM_greatest_42 : decode mM_greatest.2.1 42 = .ok (.if_icmp .ge 36, 3) := by decide +kernel
theorem dM_greatest_45 : decode mM_greatest.2.1 45 = .ok (.iload_n 3, 1) := by decide +kernel
theorem dM_greatest_46 : decode mM_greatest.2.1 46 = .ok (.aload_n 0, 1) := by decide +kernel
theorem dM_greatest_47 : decode mM_greatest.2.1 47 = .ok (.getfield 15, 3) := by decide +kernel
theorem dM_greatest_50 : decode mM_greatest.2.1 50 = .ok (.iload_n 2, 1) := by decide +kernel
theorem dM_greatest_51 : decode mM_greatest.2.1 51 = .ok (.iload 4, 2) := by decide +kernel
theorem dM_greatest_53 : decode mM_greatest.2.1 53 = .ok (.aload_n 1, 1) := by decide +kernel
theorem dM_greatest_54 : decode mM_greatest.2.1 54 = .ok (.getfield 157, 3) := by decide +kernel
theorem dM_greatest_57 : decode mM_greatest.2.1 57 = .ok (.imul, 1) := by decide +kernel
theorem dM_greatest_58 : decode mM_greatest.2.1 58 = .ok (.iload 5, 2) := by decide +kernel
theorem dM_greatest_60 : decode mM_greatest.2.1 60 = .ok (.iadd, 1) := by decide +kernel
theorem dM_greatest_61 : decode mM_greatest.2.1 61 = .ok (.aload_n 1, 1) := by decide +kernel
theorem dM_greatest_62 : decode mM_greatest.2.1 62 = .ok (.getfield 164, 3) := by decide +kernel
theorem dM_greatest_65 : decode mM_greatest.2.1 65 = .ok (.imul, 1) := by decide +kernel
theorem dM_greatest_66 : decode mM_greatest.2.1 66 = .ok (.iadd, 1) := by decide +kernel
theorem dM_greatest_67 : decode mM_greatest.2.1 67 = .ok (.iaload, 1) := by decide +kernel
theorem dM_greatest_68 : decode mM_greatest.2.1 68 = .ok (.invokestatic 220, 3) := by decide +kernel
theorem dM_greatest_71 : decode mM_greatest.2.1 71 = .ok (.istore_n 3, 1) := by decide +kernel
theorem dM_greatest_72 : decode mM_greatest.2.1 72 = .ok (.iinc 5 1, 3) := by decide +kernel
theorem dM_greatest_75 : decode mM_greatest.2.1 75 = .ok (.goto (-42), 3) := by decide +kernel
theorem dM_greatest_78 : decode mM_greatest.2.1 78 = .ok (.iinc 4 1, 3) := by decide +kernel
theorem dM_greatest_81 : decode mM_greatest.2.1 81 = .ok (.goto (-69), 3) := by decide +kernel
theorem dM_greatest_84 : decode mM_greatest.2.1 84 = .ok (.iload_n 3, 1) := by decide +kernel
theorem dM_greatest_85 : decode mM_greatest.2.1 85 = .ok (.ireturn, 1) := by decide +kernel
theorem dM_average_0 : decode mM_average.2.1 0 = .ok (.iconst 0, 1) := by decide +kernel
theorem dM_average_1 : decode mM_average.2.1 1 = .ok (.istore_n 3, 1) := by decide +kernel
theorem dM_average_2 : decode mM_average.2.1 2 = .ok (.iconst 0, 1) := by decide +kernel
theorem dM_average_3 : decode mM_average.2.1 3 = .ok (.istore 4, 2) := by decide +kernel
theorem dM_average_5 : decode mM_average.2.1 5 = .ok (.aload_n 0, 1) := by decide +kernel
theorem dM_average_6 : decode mM_average.2.1 6 = .ok (.getfield 21, 3) := by decide +kernel
theorem dM_average_9 : decode mM_average.2.1 9 = .ok (.getfield 199, 3) := by decide +kernel
theorem dM_average_12 : decode mM_average.2.1 12 = .ok (.istore 5, 2) := by decide +kernel
theorem dM_average_14 : decode mM_average.2.1 14 = .ok (.iload 5, 2) := by decide +kernel
theorem dM_average_16 : decode mM_average.2.1 16 = .ok (.aload_n 0, 1) := by decide +kernel
theorem dM_average_17 : decode mM_average.2.1 17 = .ok (.getfield 21, 3) := by decide +kernel
theorem dM_average_20 : decode mM_average.2.1 20 = .ok (.getfield 202, 3) := by decide +kernel
theorem dM_average_23 : decode mM_average.2.1 23 = .ok (.if_icmp .ge 64, 3) := by decide +kernel
theorem dM_average_26 : decode mM_average.2.1 26 = .ok (.aload_n 0, 1) := by decide +kernel
theorem dM_average_27 : decode mM_average.2.1 27 = .ok (.getfield 21, 3) := by decide +kernel
theorem dM_average_30 : decode mM_average.2.1 30 = .ok (.getfield 205, 3) := by decide +kernel
theorem dM_average_33 : decode mM_average.2.1 33 = .ok (.istore 6, 2) := by decide +kernel
theorem dM_average_35 : decode mM_average.2.1 35 = .ok (.iload 6, 2) := by decide +kernel
theorem dM_average_37 : decode mM_average.2.1 37 = .ok (.aload_n 0, 1) := by decide +kernel
theorem dM_average_38 : decode mM_average.2.1 38 = .ok (.getfield 21, 3) := by decide +kernel
theorem dM_average_41 : decode mM_average.2.1 41 = .ok (.getfield 208, 3) := by decide +kernel
theorem dM_average_44 : decode mM_average.2.1 44 = .ok (.if_icmp .ge 37, 3) := by decide +kernel
theorem dM_average_47 : decode mM_average.2.1 47 = .ok (.iload_n 3, 1) := by decide +kernel
theorem dM_average_48 : decode mM_average.2.1 48 = .ok (.aload_n 0, 1) := by decide +kernel
theorem dM_average_49 : decode mM_average.2.1 49 = .ok (.getfield 15, 3) := by decide +kernel
theorem dM_average_52 : decode mM_average.2.1 52 = .ok (.iload_n 2, 1) := by decide +kernel
theorem dM_average_53 : decode mM_average.2.1 53 = .ok (.iload 5, 2) := by decide +kernel
theorem dM_average_55 : decode mM_average.2.1 55 = .ok (.aload_n 1, 1) := by decide +kernel
theorem dM_average_56 : decode mM_average.2.1 56 = .ok (.getfield 157, 3) := by decide +kernel
theorem dM_average_59 : decode mM_average.2.1 59 = .ok (.imul, 1) := by decide +kernel
theorem dM_average_60 : decode mM_average.2.1 60 = .ok (.iload 6, 2) := by decide +kernel
theorem dM_average_62 : decode mM_average.2.1 62 = .ok (.iadd, 1) := by decide +kernel
theorem dM_average_63 : decode mM_average.2.1 63 = .ok (.aload_n 1, 1) := by decide +kernel
theorem dM_average_64 : decode mM_average.2.1 64 = .ok (.getfield 164, 3) := by decide +kernel
theorem dM_average_67 : decode mM_average.2.1 67 = .ok (.imul, 1) := by decide +kernel
theorem dM_average_68 : decode mM_average.2.1 68 = .ok (.iadd, 1) := by decide +kernel
theorem dM_average_69 : decode mM_average.2.1 69 = .ok (.iaload, 1) := by decide +kernel
theorem dM_average_70 : decode mM_average.2.1 70 = .ok (.iadd, 1) := by decide +kernel
theorem dM_average_71 : decode mM_average.2.1 71 = .ok (.istore_n 3, 1) := by decide +kernel
theorem dM_average_72 : decode mM_average.2.1 72 = .ok (.iinc 4 1, 3) := by decide +kernel
theorem dM_average_75 : decode mM_average.2.1 75 = .ok (.iinc 6 1, 3) := by decide +kernel
theorem dM_average_78 : decode mM_average.2.1 78 = .ok (.goto (-43), 3) := by decide +kernel
theorem dM_average_81 : decode mM_average.2.1 81 = .ok (.iinc 5 1, 3) := by decide +kernel
theorem dM_average_84 : decode mM_average.2.1 84 = .ok (.goto (-70), 3) := by decide +kernel
theorem dM_average_87 : decode mM_average.2.1 87 = .ok (.iload 4, 2) := by decide +kernel
theorem dM_average_89 : decode mM_average.2.1 89 = .ok (.ifCond .ne 5, 3) := by decide +kernel
theorem dM_average_92 : decode mM_average.2.1 92 = .ok (.iconst 0, 1) := by decide +kernel
theorem dM_average_93 : decode mM_average.2.1 93 = .ok (.ireturn, 1) := by decide +kernel
theorem dM_average_94 : decode mM_average.2.1 94 = .ok (.iconst 2, 1) := by decide +kernel
theorem dM_average_95 : decode mM_average.2.1 95 = .ok (.iload_n 3, 1) := by decide +kernel
theorem dM_average_96 : decode mM_average.2.1 96 = .ok (.invokestatic 226, 3) := by decide +kernel
theorem dM_average_99 : decode mM_average.2.1 99 = .ok (.imul, 1) := by decide +kernel
theorem dM_average_100 : decode mM_average.2.1 100 = .ok (.iload 4, 2) := by decide +kernel
theorem dM_average_102 : decode mM_average.2.1 102 = .ok (.iadd, 1) := by decide +kernel
theorem dM_average_103 : decode mM_average.2.1 103 = .ok (.iconst 2, 1) := by decide +kernel
theorem dM_average_104 : decode mM_average.2.1 104 = .ok (.iload 4, 2) := by decide +kernel
theorem dM_average_106 : decode mM_average.2.1 106 = .ok (.imul, 1) := by decide +kernel
theorem dM_average_107 : decode mM_average.2.1 107 = .ok (.idiv, 1) := by decide +kernel
theorem dM_average_108 : decode mM_average.2.1 108 = .ok (.istore 5, 2) := by decide +kernel
theorem dM_average_110 : decode mM_average.2.1 110 = .ok (.iload_n 3, 1) := by decide +kernel
theorem dM_average_111 : decode mM_average.2.1 111 = .ok (.ifCond .ge 9, 3) := by decide +kernel
theorem dM_average_114 : decode mM_average.2.1 114 = .ok (.iload 5, 2) := by decide +kernel
theorem dM_average_116 : decode mM_average.2.1 116 = .ok (.ineg, 1) := by decide +kernel
theorem dM_average_117 : decode mM_average.2.1 117 = .ok (.goto 5, 3) := by decide +kernel
theorem dM_average_120 : decode mM_average.2.1 120 = .ok (.iload 5, 2) := by decide +kernel
theorem dM_average_122 : decode mM_average.2.1 122 = .ok (.ireturn, 1) := by decide +kernel
theorem dM_sumOfResult_0 : decode mM_sumOfResult.2.1 0 = .ok (.iconst 0, 1) := by decide +kernel
theorem dM_sumOfResult_1 : decode mM_sumOfResult.2.1 1 = .ok (.istore_n 1, 1) := by decide +kernel
theorem dM_sumOfResult_2 : decode mM_sumOfResult.2.1 2 = .ok (.iconst 0, 1) := by decide +kernel
theorem dM_sumOfResult_3 : decode mM_sumOfResult.2.1 3 = .ok (.istore_n 2, 1) := by decide +kernel
theorem dM_sumOfResult_4 : decode mM_sumOfResult.2.1 4 = .ok (.iload_n 2, 1) := by decide +kernel
theorem dM_sumOfResult_5 : decode mM_sumOfResult.2.1 5 = .ok (.aload_n 0, 1) := by decide +kernel
theorem dM_sumOfResult_6 : decode mM_sumOfResult.2.1 6 = .ok (.getfield 75, 3) := by decide +kernel
theorem dM_sumOfResult_9 : decode mM_sumOfResult.2.1 9 = .ok (.if_icmp .ge 23, 3) := by decide +kernel
theorem dM_sumOfResult_12 : decode mM_sumOfResult.2.1 12 = .ok (.iload_n 1, 1) := by decide +kernel
theorem dM_sumOfResult_13 : decode mM_sumOfResult.2.1 13 = .ok (.aload_n 0, 1) := by decide +kernel
theorem dM_sumOfResult_14 : decode mM_sumOfResult.2.1 14 = .ok (.getfield 15, 3) := by decide +kernel
theorem dM_sumOfResult_17 : decode mM_sumOfResult.2.1 17 = .ok (.aload_n 0, 1) := by decide +kernel
theorem dM_sumOfResult_18 : decode mM_sumOfResult.2.1 18 = .ok (.getfield 64, 3) := by decide +kernel
theorem dM_sumOfResult_21 : decode mM_sumOfResult.2.1 21 = .ok (.iload_n 2, 1) := by decide +kernel
theorem dM_sumOfResult_22 : decode mM_sumOfResult.2.1 22 = .ok (.iadd, 1) := by decide +kernel
theorem dM_sumOfResult_23 : decode mM_sumOfResult.2.1 23 = .ok (.iaload, 1) := by decide +kernel
theorem dM_sumOfResult_24 : decode mM_sumOfResult.2.1 24 = .ok (.iadd, 1) := by decide +kernel
theorem dM_sumOfResult_25 : decode mM_sumOfResult.2.1 25 = .ok (.istore_n 1, 1) := by decide +kernel
theorem dM_sumOfResult_26 : decode mM_sumOfResult.2.1 26 = .ok (.iinc 2 1, 3) := by decide +kernel
theorem dM_sumOfResult_29 : decode mM_sumOfResult.2.1 29 = .ok (.goto (-25), 3) := by decide +kernel
theorem dM_sumOfResult_32 : decode mM_sumOfResult.2.1 32 = .ok (.iload_n 1, 1) := by decide +kernel
theorem dM_sumOfResult_33 : decode mM_sumOfResult.2.1 33 = .ok (.ireturn, 1) := by decide +kernel
theorem dL_arena_0 : decode mL_arena.2.1 0 = .ok (.aload_n 2, 1) := by decide +kernel
theorem dL_arena_1 : decode mL_arena.2.1 1 = .ok (.iconst 0, 1) := by decide +kernel
theorem dL_arena_2 : decode mL_arena.2.1 2 = .ok (.aload_n 0, 1) := by decide +kernel
theorem dL_arena_3 : decode mL_arena.2.1 3 = .ok (.iload_n 1, 1) := by decide +kernel
theorem dL_arena_4 : decode mL_arena.2.1 4 = .ok (.invokevirtual 75, 3) := by decide +kernel
theorem dL_arena_7 : decode mL_arena.2.1 7 = .ok (.i2l, 1) := by decide +kernel
theorem dL_arena_8 : decode mL_arena.2.1 8 = .ok (.lastore, 1) := by decide +kernel
theorem dL_arena_9 : decode mL_arena.2.1 9 = .ok (.goto 6, 3) := by decide +kernel
theorem dL_arena_12 : decode mL_arena.2.1 12 = .ok (.astore_n 3, 1) := by decide +kernel
theorem dL_arena_13 : decode mL_arena.2.1 13 = .ok (.iconst 1, 1) := by decide +kernel
theorem dL_arena_14 : decode mL_arena.2.1 14 = .ok (.ireturn, 1) := by decide +kernel
theorem dL_arena_15 : decode mL_arena.2.1 15 = .ok (.iconst 0, 1) := by decide +kernel
theorem dL_arena_16 : decode mL_arena.2.1 16 = .ok (.ireturn, 1) := by decide +kernel
theorem dT_arena_0 : decode mT_arena.2.1 0 = .ok (.iload_n 1, 1) := by decide +kernel
theorem dT_arena_1 : decode mT_arena.2.1 1 = .ok (.ifCond .lt 18, 3) := by decide +kernel
theorem dT_arena_4 : decode mT_arena.2.1 4 = .ok (.iload_n 1, 1) := by decide +kernel
theorem dT_arena_5 : decode mT_arena.2.1 5 = .ok (.aload_n 0, 1) := by decide +kernel
theorem dT_arena_6 : decode mT_arena.2.1 6 = .ok (.getfield 19, 3) := by decide +kernel
theorem dT_arena_9 : decode mT_arena.2.1 9 = .ok (.getfield 178, 3) := by decide +kernel
theorem dT_arena_12 : decode mT_arena.2.1 12 = .ok (.if_icmp .ge 7, 3) := by decide +kernel
theorem dT_arena_15 : decode mT_arena.2.1 15 = .ok (.iconst 1, 1) := by decide +kernel
theorem dT_arena_16 : decode mT_arena.2.1 16 = .ok (.goto 4, 3) := by decide +kernel
theorem dT_arena_19 : decode mT_arena.2.1 19 = .ok (.iconst 0, 1) := by decide +kernel
theorem dT_arena_20 : decode mT_arena.2.1 20 = .ok (.invokestatic 181, 3) := by decide +kernel
theorem dT_arena_23 : decode mT_arena.2.1 23 = .ok (.aload_n 0, 1) := by decide +kernel
theorem dT_arena_24 : decode mT_arena.2.1 24 = .ok (.getfield 19, 3) := by decide +kernel
theorem dT_arena_27 : decode mT_arena.2.1 27 = .ok (.getfield 184, 3) := by decide +kernel
theorem dT_arena_30 : decode mT_arena.2.1 30 = .ok (.iload_n 1, 1) := by decide +kernel
theorem dT_arena_31 : decode mT_arena.2.1 31 = .ok (.iaload, 1) := by decide +kernel
theorem dT_arena_32 : decode mT_arena.2.1 32 = .ok (.ireturn, 1) := by decide +kernel
theorem dT_requirePresent_0 : decode mT_requirePresent.2.1 0 = .ok (.iload_n 0, 1) := by decide +kernel
theorem dT_requirePresent_1 : decode mT_requirePresent.2.1 1 = .ok (.ifCond .ne 13, 3) := by decide +kernel
theorem dT_requirePresent_4 : decode mT_requirePresent.2.1 4 = .ok (.new 251, 3) := by decide +kernel
theorem dT_requirePresent_7 : decode mT_requirePresent.2.1 7 = .ok (.dup, 1) := by decide +kernel
theorem dT_requirePresent_8 : decode mT_requirePresent.2.1 8 = .ok (.ldc 253, 2) := by decide +kernel
theorem dT_requirePresent_10 : decode mT_requirePresent.2.1 10 = .ok (.invokespecial 255, 3) := by decide +kernel
theorem dT_requirePresent_13 : decode mT_requirePresent.2.1 13 = .ok (.athrow, 1) := by decide +kernel
theorem dT_requirePresent_14 : decode mT_requirePresent.2.1 14 = .ok (.return_, 1) := by decide +kernel
theorem dL_result_0 : decode mL_result.2.1 0 = .ok (.aload_n 2, 1) := by decide +kernel
theorem dL_result_1 : decode mL_result.2.1 1 = .ok (.iconst 0, 1) := by decide +kernel
theorem dL_result_2 : decode mL_result.2.1 2 = .ok (.aload_n 0, 1) := by decide +kernel
theorem dL_result_3 : decode mL_result.2.1 3 = .ok (.iload_n 1, 1) := by decide +kernel
theorem dL_result_4 : decode mL_result.2.1 4 = .ok (.invokevirtual 80, 3) := by decide +kernel
theorem dL_result_7 : decode mL_result.2.1 7 = .ok (.dastore, 1) := by decide +kernel
theorem dL_result_8 : decode mL_result.2.1 8 = .ok (.goto 6, 3) := by decide +kernel
theorem dL_result_11 : decode mL_result.2.1 11 = .ok (.astore_n 3, 1) := by decide +kernel
theorem dL_result_12 : decode mL_result.2.1 12 = .ok (.iconst 1, 1) := by decide +kernel
theorem dL_result_13 : decode mL_result.2.1 13 = .ok (.ireturn, 1) := by decide +kernel
theorem dL_result_14 : decode mL_result.2.1 14 = .ok (.iconst 0, 1) := by decide +kernel
theorem dL_result_15 : decode mL_result.2.1 15 = .ok (.ireturn, 1) := by decide +kernel
theorem dT_result_0 : decode mT_result.2.1 0 = .ok (.iload_n 1, 1) := by decide +kernel
theorem dT_result_1 : decode mT_result.2.1 1 = .ok (.ifCond .lt 18, 3) := by decide +kernel
theorem dT_result_4 : decode mT_result.2.1 4 = .ok (.iload_n 1, 1) := by decide +kernel
theorem dT_result_5 : decode mT_result.2.1 5 = .ok (.aload_n 0, 1) := by decide +kernel
theorem dT_result_6 : decode mT_result.2.1 6 = .ok (.getfield 19, 3) := by decide +kernel
theorem dT_result_9 : decode mT_result.2.1 9 = .ok (.getfield 186, 3) := by decide +kernel
theorem dT_result_12 : decode mT_result.2.1 12 = .ok (.if_icmp .ge 7, 3) := by decide +kernel
theorem dT_result_15 : decode mT_result.2.1 15 = .ok (.iconst 1, 1) := by decide +kernel
theorem dT_result_16 : decode mT_result.2.1 16 = .ok (.goto 4, 3) := by decide +kernel
theorem dT_result_19 : decode mT_result.2.1 19 = .ok (.iconst 0, 1) := by decide +kernel
theorem dT_result_20 : decode mT_result.2.1 20 = .ok (.invokestatic 181, 3) := by decide +kernel
theorem dT_result_23 : decode mT_result.2.1 23 = .ok (.aload_n 0, 1) := by decide +kernel
theorem dT_result_24 : decode mT_result.2.1 24 = .ok (.getfield 19, 3) := by decide +kernel
theorem dT_result_27 : decode mT_result.2.1 27 = .ok (.getfield 184, 3) := by decide +kernel
theorem dT_result_30 : decode mT_result.2.1 30 = .ok (.aload_n 0, 1) := by decide +kernel
theorem dT_result_31 : decode mT_result.2.1 31 = .ok (.getfield 19, 3) := by decide +kernel
theorem dT_result_34 : decode mT_result.2.1 34 = .ok (.getfield 189, 3) := by decide +kernel
theorem dT_result_37 : decode mT_result.2.1 37 = .ok (.iload_n 1, 1) := by decide +kernel
theorem dT_result_38 : decode mT_result.2.1 38 = .ok (.iadd, 1) := by decide +kernel
theorem dT_result_39 : decode mT_result.2.1 39 = .ok (.iaload, 1) := by decide +kernel
theorem dT_result_40 : decode mT_result.2.1 40 = .ok (.i2d, 1) := by decide +kernel
theorem dT_result_41 : decode mT_result.2.1 41 = .ok (.aload_n 0, 1) := by decide +kernel
theorem dT_result_42 : decode mT_result.2.1 42 = .ok (.getfield 19, 3) := by decide +kernel
theorem dT_result_45 : decode mT_result.2.1 45 = .ok (.getfield 192, 3) := by decide +kernel
theorem dT_result_48 : decode mT_result.2.1 48 = .ok (.dmul, 1) := by decide +kernel
theorem dT_result_49 : decode mT_result.2.1 49 = .ok (.dreturn, 1) := by decide +kernel
theorem dL_about_0 : decode mL_about.2.1 0 = .ok (.aload_n 3, 1) := by decide +kernel
theorem dL_about_1 : decode mL_about.2.1 1 = .ok (.iconst 0, 1) := by decide +kernel
theorem dL_about_2 : decode mL_about.2.1 2 = .ok (.aload_n 0, 1) := by decide +kernel
theorem dL_about_3 : decode mL_about.2.1 3 = .ok (.iload_n 1, 1) := by decide +kernel
theorem dL_about_4 : decode mL_about.2.1 4 = .ok (.iload_n 2, 1) := by decide +kernel
theorem dL_about_5 : decode mL_about.2.1 5 = .ok (.invokevirtual 84, 3) := by decide +kernel
theorem dL_about_8 : decode mL_about.2.1 8 = .ok (.i2l, 1) := by decide +kernel
theorem dL_about_9 : decode mL_about.2.1 9 = .ok (.lastore, 1) := by decide +kernel
theorem dL_about_10 : decode mL_about.2.1 10 = .ok (.goto 15, 3) := by decide +kernel
theorem dL_about_13 : decode mL_about.2.1 13 = .ok (.astore 4, 2) := by decide +kernel
theorem dL_about_15 : decode mL_about.2.1 15 = .ok (.iconst 1, 1) := by decide +kernel
theorem dL_about_16 : decode mL_about.2.1 16 = .ok (.ireturn, 1) := by decide +kernel
theorem dL_about_17 : decode mL_about.2.1 17 = .ok (.astore 4, 2) := by decide +kernel
theorem dL_about_19 : decode mL_about.2.1 19 = .ok (.iconst 2, 1) := by decide +kernel
theorem dL_about_20 : decode mL_about.2.1 20 = .ok (.ireturn, 1) := by decide +kernel
theorem dL_about_21 : decode mL_about.2.1 21 = .ok (.astore 4, 2) := by decide +kernel
theorem dL_about_23 : decode mL_about.2.1 23 = .ok (.iconst 3, 1) := by decide +kernel
theorem dL_about_24 : decode mL_about.2.1 24 = .ok (.ireturn, 1) := by decide +kernel
theorem dL_about_25 : decode mL_about.2.1 25 = .ok (.iconst 0, 1) := by decide +kernel
theorem dL_about_26 : decode mL_about.2.1 26 = .ok (.ireturn, 1) := by decide +kernel
theorem dT_about_0 : decode mT_about.2.1 0 = .ok (.aload_n 0, 1) := by decide +kernel
theorem dT_about_1 : decode mT_about.2.1 1 = .ok (.iload_n 1, 1) := by decide +kernel
theorem dT_about_2 : decode mT_about.2.1 2 = .ok (.invokevirtual 66, 3) := by decide +kernel
theorem dT_about_5 : decode mT_about.2.1 5 = .ok (.iload_n 2, 1) := by decide +kernel
theorem dT_about_6 : decode mT_about.2.1 6 = .ok (.iconst 0, 1) := by decide +kernel
theorem dT_about_7 : decode mT_about.2.1 7 = .ok (.bipush 7, 2) := by decide +kernel
theorem dT_about_9 : decode mT_about.2.1 9 = .ok (.invokestatic 35, 3) := by decide +kernel
theorem dT_about_12 : decode mT_about.2.1 12 = .ok (.iload_n 2, 1) := by decide +kernel
theorem dT_about_13 : decode mT_about.2.1 13 = .ok (.iconst 4, 1) := by decide +kernel
theorem dT_about_14 : decode mT_about.2.1 14 = .ok (.if_icmp .ge 19, 3) := by decide +kernel
theorem dT_about_17 : decode mT_about.2.1 17 = .ok (.aload_n 0, 1) := by decide +kernel
theorem dT_about_18 : decode mT_about.2.1 18 = .ok (.getfield 12, 3) := by decide +kernel
theorem dT_about_21 : decode mT_about.2.1 21 = .ok (.getfield 74, 3) := by decide +kernel
theorem dT_about_24 : decode mT_about.2.1 24 = .ok (.iload_n 1, 1) := by decide +kernel
theorem dT_about_25 : decode mT_about.2.1 25 = .ok (.aaload, 1) := by decide +kernel
theorem dT_about_26 : decode mT_about.2.1 26 = .ok (.iload_n 2, 1) := by decide +kernel
theorem dT_about_27 : decode mT_about.2.1 27 = .ok (.invokestatic 195, 3) := by decide +kernel
theorem dT_about_30 : decode mT_about.2.1 30 = .ok (.goto 9, 3) := by decide +kernel
theorem dT_about_33 : decode mT_about.2.1 33 = .ok (.aload_n 0, 1) := by decide +kernel
theorem dT_about_34 : decode mT_about.2.1 34 = .ok (.iload_n 1, 1) := by decide +kernel
theorem dT_about_35 : decode mT_about.2.1 35 = .ok (.iload_n 2, 1) := by decide +kernel
theorem dT_about_36 : decode mT_about.2.1 36 = .ok (.invokevirtual 199, 3) := by decide +kernel
theorem dT_about_39 : decode mT_about.2.1 39 = .ok (.ireturn, 1) := by decide +kernel
theorem dT_aboutMade_0 : decode mT_aboutMade.2.1 0 = .ok (.iload_n 1, 1) := by decide +kernel
theorem dT_aboutMade_1 : decode mT_aboutMade.2.1 1 = .ok (.tableswitch 42 1 3 #[27, 32, 37], 27) := by decide +kernel
theorem dT_aboutMade_28 : decode mT_aboutMade.2.1 28 = .ok (.aload_n 0, 1) := by decide +kernel
theorem dT_aboutMade_29 : decode mT_aboutMade.2.1 29 = .ok (.getfield 101, 3) := by decide +kernel
theorem dT_aboutMade_32 : decode mT_aboutMade.2.1 32 = .ok (.ireturn, 1) := by decide +kernel
theorem dT_aboutMade_33 : decode mT_aboutMade.2.1 33 = .ok (.aload_n 0, 1) := by decide +kernel
theorem dT_aboutMade_34 : decode mT_aboutMade.2.1 34 = .ok (.getfield 108, 3) := by decide +kernel
theorem dT_aboutMade_37 : decode mT_aboutMade.2.1 37 = .ok (.ireturn, 1) := by decide +kernel
theorem dT_aboutMade_38 : decode mT_aboutMade.2.1 38 = .ok (.aload_n 0, 1) := by decide +kernel
theorem dT_aboutMade_39 : decode mT_aboutMade.2.1 39 = .ok (.getfield 88, 3) := by decide +kernel
theorem dT_aboutMade_42 : decode mT_aboutMade.2.1 42 = .ok (.ireturn, 1) := by decide +kernel
theorem dT_aboutMade_43 : decode mT_aboutMade.2.1 43 = .ok (.aload_n 0, 1) := by decide +kernel
theorem dT_aboutMade_44 : decode mT_aboutMade.2.1 44 = .ok (.getfield 157, 3) := by decide +kernel
theorem dT_aboutMade_47 : decode mT_aboutMade.2.1 47 = .ok (.ireturn, 1) := by decide +kernel
theorem dT_aboutPlanned_0 : decode mT_aboutPlanned.2.1 0 = .ok (.aload_n 0, 1) := by decide +kernel
theorem dT_aboutPlanned_1 : decode mT_aboutPlanned.2.1 1 = .ok (.invokevirtual 163, 3) := by decide +kernel
theorem dT_aboutPlanned_4 : decode mT_aboutPlanned.2.1 4 = .ok (.aload_n 0, 1) := by decide +kernel
theorem dT_aboutPlanned_5 : decode mT_aboutPlanned.2.1 5 = .ok (.getfield 12, 3) := by decide +kernel
theorem dT_aboutPlanned_8 : decode mT_aboutPlanned.2.1 8 = .ok (.getfield 202, 3) := by decide +kernel
theorem dT_aboutPlanned_11 : decode mT_aboutPlanned.2.1 11 = .ok (.iload_n 1, 1) := by decide +kernel
theorem dT_aboutPlanned_12 : decode mT_aboutPlanned.2.1 12 = .ok (.iaload, 1) := by decide +kernel
theorem dT_aboutPlanned_13 : decode mT_aboutPlanned.2.1 13 = .ok (.istore_n 3, 1) := by decide +kernel
theorem dT_aboutPlanned_14 : decode mT_aboutPlanned.2.1 14 = .ok (.iload_n 2, 1) := by decide +kernel
theorem dT_aboutPlanned_15 : decode mT_aboutPlanned.2.1 15 = .ok (.iconst 4, 1) := by decide +kernel
theorem dT_aboutPlanned_16 : decode mT_aboutPlanned.2.1 16 = .ok (.if_icmp .ne 5, 3) := by decide +kernel
theorem dT_aboutPlanned_19 : decode mT_aboutPlanned.2.1 19 = .ok (.iload_n 3, 1) := by decide +kernel
theorem dT_aboutPlanned_20 : decode mT_aboutPlanned.2.1 20 = .ok (.ireturn, 1) := by decide +kernel
theorem dT_aboutPlanned_21 : decode mT_aboutPlanned.2.1 21 = .ok (.iload_n 2, 1) := by decide +kernel
theorem dT_aboutPlanned_22 : decode mT_aboutPlanned.2.1 22 = .ok (.iconst 5, 1) := by decide +kernel
theorem dT_aboutPlanned_23 : decode mT_aboutPlanned.2.1 23 = .ok (.if_icmp .ne 13, 3) := by decide +kernel
theorem dT_aboutPlanned_26 : decode mT_aboutPlanned.2.1 26 = .ok (.aload_n 0, 1) := by decide +kernel
theorem dT_aboutPlanned_27 : decode mT_aboutPlanned.2.1 27 = .ok (.getfield 12, 3) := by decide +kernel
theorem dT_aboutPlanned_30 : decode mT_aboutPlanned.2.1 30 = .ok (.getfield 205, 3) := by decide +kernel
theorem dT_aboutPlanned_33 : decode mT_aboutPlanned.2.1 33 = .ok (.iload_n 3, 1) := by decide +kernel
theorem dT_aboutPlanned_34 : decode mT_aboutPlanned.2.1 34 = .ok (.iaload, 1) := by decide +kernel
theorem dT_aboutPlanned_35 : decode mT_aboutPlanned.2.1 35 = .ok (.ireturn, 1) := by decide +kernel
theorem dT_aboutPlanned_36 : decode mT_aboutPlanned.2.1 36 = .ok (.aload_n 0, 1) := by decide +kernel
theorem dT_aboutPlanned_37 : decode mT_aboutPlanned.2.1 37 = .ok (.getfield 12, 3) := by decide +kernel
theorem dT_aboutPlanned_40 : decode mT_aboutPlanned.2.1 40 = .ok (.getfield 205, 3) := by decide +kernel
theorem dT_aboutPlanned_43 : decode mT_aboutPlanned.2.1 43 = .ok (.iload_n 3, 1) := by decide +kernel
theorem dT_aboutPlanned_44 : decode mT_aboutPlanned.2.1 44 = .ok (.iaload, 1) := by decide +kernel
theorem dT_aboutPlanned_45 : decode mT_aboutPlanned.2.1 45 = .ok (.iconst 2, 1) := by decide +kernel
theorem dT_aboutPlanned_46 : decode mT_aboutPlanned.2.1 46 = .ok (.if_icmp .ne 7, 3) := by decide +kernel
theorem dT_aboutPlanned_49 : decode mT_aboutPlanned.2.1 49 = .ok (.iconst 1, 1) := by decide +kernel
theorem dT_aboutPlanned_50 : decode mT_aboutPlanned.2.1 50 = .ok (.goto 4, 3) := by decide +kernel
theorem dT_aboutPlanned_53 : decode mT_aboutPlanned.2.1 53 = .ok (.iconst 0, 1) := by decide +kernel
theorem dT_aboutPlanned_54 : decode mT_aboutPlanned.2.1 54 = .ok (.invokestatic 181, 3) := by decide +kernel
theorem dT_aboutPlanned_57 : decode mT_aboutPlanned.2.1 57 = .ok (.iload_n 2, 1) := by decide +kernel
theorem dT_aboutPlanned_58 : decode mT_aboutPlanned.2.1 58 = .ok (.bipush 6, 2) := by decide +kernel
theorem dT_aboutPlanned_60 : decode mT_aboutPlanned.2.1 60 = .ok (.if_icmp .ne 15, 3) := by decide +kernel
theorem dT_aboutPlanned_63 : decode mT_aboutPlanned.2.1 63 = .ok (.aload_n 0, 1) := by decide +kernel
theorem dT_aboutPlanned_64 : decode mT_aboutPlanned.2.1 64 = .ok (.getfield 12, 3) := by decide +kernel
theorem dT_aboutPlanned_67 : decode mT_aboutPlanned.2.1 67 = .ok (.getfield 208, 3) := by decide +kernel
theorem dT_aboutPlanned_70 : decode mT_aboutPlanned.2.1 70 = .ok (.iload_n 3, 1) := by decide +kernel
theorem dT_aboutPlanned_71 : decode mT_aboutPlanned.2.1 71 = .ok (.iaload, 1) := by decide +kernel
theorem dT_aboutPlanned_72 : decode mT_aboutPlanned.2.1 72 = .ok (.goto 12, 3) := by decide +kernel
theorem dT_aboutPlanned_75 : decode mT_aboutPlanned.2.1 75 = .ok (.aload_n 0, 1) := by decide +kernel
theorem dT_aboutPlanned_76 : decode mT_aboutPlanned.2.1 76 = .ok (.getfield 12, 3) := by decide +kernel
theorem dT_aboutPlanned_79 : decode mT_aboutPlanned.2.1 79 = .ok (.getfield 211, 3) := by decide +kernel
theorem dT_aboutPlanned_82 : decode mT_aboutPlanned.2.1 82 = .ok (.iload_n 3, 1) := by decide +kernel
theorem dT_aboutPlanned_83 : decode mT_aboutPlanned.2.1 83 = .ok (.iaload, 1) := by decide +kernel
theorem dT_aboutPlanned_84 : decode mT_aboutPlanned.2.1 84 = .ok (.ireturn, 1) := by decide +kernel
theorem dL_peak_0 : decode mL_peak.2.1 0 = .ok (.aload_n 1, 1) := by decide +kernel
theorem dL_peak_1 : decode mL_peak.2.1 1 = .ok (.iconst 0, 1) := by decide +kernel
theorem dL_peak_2 : decode mL_peak.2.1 2 = .ok (.aload_n 0, 1) := by decide +kernel
theorem dL_peak_3 : decode mL_peak.2.1 3 = .ok (.invokevirtual 87, 3) := by decide +kernel
theorem dL_peak_6 : decode mL_peak.2.1 6 = .ok (.i2l, 1) := by decide +kernel
theorem dL_peak_7 : decode mL_peak.2.1 7 = .ok (.lastore, 1) := by decide +kernel
theorem dL_peak_8 : decode mL_peak.2.1 8 = .ok (.goto 6, 3) := by decide +kernel
theorem dL_peak_11 : decode mL_peak.2.1 11 = .ok (.astore_n 2, 1) := by decide +kernel
end
section
theorem dL_peak_12 : decode mL_peak.2.1 12 = .ok (.iconst 1, 1) := by decide +kernel
theorem dL_peak_13 : decode mL_peak.2.1 13 = .ok (.ireturn, 1) := by decide +kernel
theorem dL_peak_14 : decode mL_peak.2.1 14 = .ok (.iconst 0, 1) := by decide +kernel
theorem dL_peak_15 : decode mL_peak.2.1 15 = .ok (.ireturn, 1) := by decide +kernel
theorem dT_peak_0 : decode mT_peak.2.1 0 = .ok (.aload_n 0, 1) := by decide +kernel
theorem dT_peak_1 : decode mT_peak.2.1 1 = .ok (.invokevirtual 163, 3) := by decide +kernel
theorem dT_peak_4 : decode mT_peak.2.1 4 = .ok (.aload_n 0, 1) := by decide +kernel
theorem dT_peak_5 : decode mT_peak.2.1 5 = .ok (.getfield 12, 3) := by decide +kernel
theorem dT_peak_8 : decode mT_peak.2.1 8 = .ok (.getfield 166, 3) := by decide +kernel
theorem dT_peak_11 : decode mT_peak.2.1 11 = .ok (.ireturn, 1) := by decide +kernel
theorem dR_init_0 : decode mR_init.2.1 0 = .ok (.aload_n 0, 1) := by decide +kernel
theorem dR_init_1 : decode mR_init.2.1 1 = .ok (.invokespecial 1, 3) := by decide +kernel
theorem dR_init_4 : decode mR_init.2.1 4 = .ok (.aload_n 0, 1) := by decide +kernel
theorem dR_init_5 : decode mR_init.2.1 5 = .ok (.sipush 512, 3) := by decide +kernel
theorem dR_init_8 : decode mR_init.2.1 8 = .ok (.newarray .int, 2) := by decide +kernel
theorem dR_init_10 : decode mR_init.2.1 10 = .ok (.putfield 7, 3) := by decide +kernel
theorem dR_init_13 : decode mR_init.2.1 13 = .ok (.aload_n 0, 1) := by decide +kernel
theorem dR_init_14 : decode mR_init.2.1 14 = .ok (.dconst 1, 1) := by decide +kernel
theorem dR_init_15 : decode mR_init.2.1 15 = .ok (.putfield 13, 3) := by decide +kernel
theorem dR_init_18 : decode mR_init.2.1 18 = .ok (.aload_n 0, 1) := by decide +kernel
theorem dR_init_19 : decode mR_init.2.1 19 = .ok (.bipush 14, 2) := by decide +kernel
theorem dR_init_21 : decode mR_init.2.1 21 = .ok (.newarray .int, 2) := by decide +kernel
theorem dR_init_23 : decode mR_init.2.1 23 = .ok (.putfield 17, 3) := by decide +kernel
theorem dR_init_26 : decode mR_init.2.1 26 = .ok (.aload_n 0, 1) := by decide +kernel
theorem dR_init_27 : decode mR_init.2.1 27 = .ok (.bipush 14, 2) := by decide +kernel
theorem dR_init_29 : decode mR_init.2.1 29 = .ok (.newarray .int, 2) := by decide +kernel
theorem dR_init_31 : decode mR_init.2.1 31 = .ok (.putfield 20, 3) := by decide +kernel
theorem dR_init_34 : decode mR_init.2.1 34 = .ok (.aload_n 0, 1) := by decide +kernel
theorem dR_init_35 : decode mR_init.2.1 35 = .ok (.bipush 14, 2) := by decide +kernel
theorem dR_init_37 : decode mR_init.2.1 37 = .ok (.newarray .int, 2) := by decide +kernel
theorem dR_init_39 : decode mR_init.2.1 39 = .ok (.putfield 23, 3) := by decide +kernel
theorem dR_init_42 : decode mR_init.2.1 42 = .ok (.aload_n 0, 1) := by decide +kernel
theorem dR_init_43 : decode mR_init.2.1 43 = .ok (.bipush 14, 2) := by decide +kernel
theorem dR_init_45 : decode mR_init.2.1 45 = .ok (.newarray .int, 2) := by decide +kernel
theorem dR_init_47 : decode mR_init.2.1 47 = .ok (.putfield 26, 3) := by decide +kernel
theorem dR_init_50 : decode mR_init.2.1 50 = .ok (.aload_n 0, 1) := by decide +kernel
theorem dR_init_51 : decode mR_init.2.1 51 = .ok (.bipush 14, 2) := by decide +kernel
theorem dR_init_53 : decode mR_init.2.1 53 = .ok (.newarray .int, 2) := by decide +kernel
theorem dR_init_55 : decode mR_init.2.1 55 = .ok (.putfield 29, 3) := by decide +kernel
theorem dR_init_58 : decode mR_init.2.1 58 = .ok (.aload_n 0, 1) := by decide +kernel
theorem dR_init_59 : decode mR_init.2.1 59 = .ok (.bipush 14, 2) := by decide +kernel
theorem dR_init_61 : decode mR_init.2.1 61 = .ok (.newarray .int, 2) := by decide +kernel
theorem dR_init_63 : decode mR_init.2.1 63 = .ok (.putfield 32, 3) := by decide +kernel
theorem dR_init_66 : decode mR_init.2.1 66 = .ok (.aload_n 0, 1) := by decide +kernel
theorem dR_init_67 : decode mR_init.2.1 67 = .ok (.bipush 14, 2) := by decide +kernel
theorem dR_init_69 : decode mR_init.2.1 69 = .ok (.newarray .double, 2) := by decide +kernel
theorem dR_init_71 : decode mR_init.2.1 71 = .ok (.putfield 35, 3) := by decide +kernel
theorem dR_init_74 : decode mR_init.2.1 74 = .ok (.aload_n 0, 1) := by decide +kernel
theorem dR_init_75 : decode mR_init.2.1 75 = .ok (.bipush 14, 2) := by decide +kernel
theorem dR_init_77 : decode mR_init.2.1 77 = .ok (.newarray .double, 2) := by decide +kernel
theorem dR_init_79 : decode mR_init.2.1 79 = .ok (.putfield 39, 3) := by decide +kernel
theorem dR_init_82 : decode mR_init.2.1 82 = .ok (.aload_n 0, 1) := by decide +kernel
theorem dR_init_83 : decode mR_init.2.1 83 = .ok (.bipush 14, 2) := by decide +kernel
theorem dR_init_85 : decode mR_init.2.1 85 = .ok (.newarray .int, 2) := by decide +kernel
theorem dR_init_87 : decode mR_init.2.1 87 = .ok (.putfield 42, 3) := by decide +kernel
theorem dR_init_90 : decode mR_init.2.1 90 = .ok (.aload_n 0, 1) := by decide +kernel
theorem dR_init_91 : decode mR_init.2.1 91 = .ok (.bipush 14, 2) := by decide +kernel
theorem dR_init_93 : decode mR_init.2.1 93 = .ok (.newarray .int, 2) := by decide +kernel
theorem dR_init_95 : decode mR_init.2.1 95 = .ok (.putfield 45, 3) := by decide +kernel
theorem dR_init_98 : decode mR_init.2.1 98 = .ok (.aload_n 0, 1) := by decide +kernel
theorem dR_init_99 : decode mR_init.2.1 99 = .ok (.bipush 14, 2) := by decide +kernel
theorem dR_init_101 : decode mR_init.2.1 101 = .ok (.newarray .int, 2) := by decide +kernel
theorem dR_init_103 : decode mR_init.2.1 103 = .ok (.putfield 48, 3) := by decide +kernel
theorem dR_init_106 : decode mR_init.2.1 106 = .ok (.aload_n 0, 1) := by decide +kernel
theorem dR_init_107 : decode mR_init.2.1 107 = .ok (.bipush 14, 2) := by decide +kernel
theorem dR_init_109 : decode mR_init.2.1 109 = .ok (.newarray .int, 2) := by decide +kernel
theorem dR_init_111 : decode mR_init.2.1 111 = .ok (.putfield 51, 3) := by decide +kernel
theorem dR_init_114 : decode mR_init.2.1 114 = .ok (.aload_n 0, 1) := by decide +kernel
theorem dR_init_115 : decode mR_init.2.1 115 = .ok (.sipush 1792, 3) := by decide +kernel
theorem dR_init_118 : decode mR_init.2.1 118 = .ok (.newarray .int, 2) := by decide +kernel
theorem dR_init_120 : decode mR_init.2.1 120 = .ok (.putfield 54, 3) := by decide +kernel
theorem dR_init_123 : decode mR_init.2.1 123 = .ok (.aload_n 0, 1) := by decide +kernel
theorem dR_init_124 : decode mR_init.2.1 124 = .ok (.sipush 1792, 3) := by decide +kernel
theorem dR_init_127 : decode mR_init.2.1 127 = .ok (.newarray .int, 2) := by decide +kernel
theorem dR_init_129 : decode mR_init.2.1 129 = .ok (.putfield 57, 3) := by decide +kernel
theorem dR_init_132 : decode mR_init.2.1 132 = .ok (.aload_n 0, 1) := by decide +kernel
theorem dR_init_133 : decode mR_init.2.1 133 = .ok (.iconst (-1), 1) := by decide +kernel
theorem dR_init_134 : decode mR_init.2.1 134 = .ok (.putfield 60, 3) := by decide +kernel
theorem dR_init_137 : decode mR_init.2.1 137 = .ok (.aload_n 0, 1) := by decide +kernel
theorem dR_init_138 : decode mR_init.2.1 138 = .ok (.bipush 14, 2) := by decide +kernel
theorem dR_init_140 : decode mR_init.2.1 140 = .ok (.newarray .int, 2) := by decide +kernel
theorem dR_init_142 : decode mR_init.2.1 142 = .ok (.putfield 64, 3) := by decide +kernel
theorem dR_init_145 : decode mR_init.2.1 145 = .ok (.aload_n 0, 1) := by decide +kernel
theorem dR_init_146 : decode mR_init.2.1 146 = .ok (.bipush 14, 2) := by decide +kernel
theorem dR_init_148 : decode mR_init.2.1 148 = .ok (.newarray .int, 2) := by decide +kernel
theorem dR_init_150 : decode mR_init.2.1 150 = .ok (.putfield 67, 3) := by decide +kernel
theorem dR_init_153 : decode mR_init.2.1 153 = .ok (.aload_n 0, 1) := by decide +kernel
theorem dR_init_154 : decode mR_init.2.1 154 = .ok (.bipush 14, 2) := by decide +kernel
theorem dR_init_156 : decode mR_init.2.1 156 = .ok (.newarray .int, 2) := by decide +kernel
theorem dR_init_158 : decode mR_init.2.1 158 = .ok (.putfield 70, 3) := by decide +kernel
theorem dR_init_161 : decode mR_init.2.1 161 = .ok (.aload_n 0, 1) := by decide +kernel
theorem dR_init_162 : decode mR_init.2.1 162 = .ok (.bipush 14, 2) := by decide +kernel
theorem dR_init_164 : decode mR_init.2.1 164 = .ok (.newarray .int, 2) := by decide +kernel
theorem dR_init_166 : decode mR_init.2.1 166 = .ok (.putfield 73, 3) := by decide +kernel
theorem dR_init_169 : decode mR_init.2.1 169 = .ok (.aload_n 0, 1) := by decide +kernel
theorem dR_init_170 : decode mR_init.2.1 170 = .ok (.bipush 14, 2) := by decide +kernel
theorem dR_init_172 : decode mR_init.2.1 172 = .ok (.newarray .int, 2) := by decide +kernel
theorem dR_init_174 : decode mR_init.2.1 174 = .ok (.putfield 76, 3) := by decide +kernel
theorem dR_init_177 : decode mR_init.2.1 177 = .ok (.aload_n 0, 1) := by decide +kernel
theorem dR_init_178 : decode mR_init.2.1 178 = .ok (.sipush 1792, 3) := by decide +kernel
theorem dR_init_181 : decode mR_init.2.1 181 = .ok (.newarray .int, 2) := by decide +kernel
theorem dR_init_183 : decode mR_init.2.1 183 = .ok (.putfield 79, 3) := by decide +kernel
theorem dR_init_186 : decode mR_init.2.1 186 = .ok (.aload_n 0, 1) := by decide +kernel
theorem dR_init_187 : decode mR_init.2.1 187 = .ok (.sipush 128, 3) := by decide +kernel
theorem dR_init_190 : decode mR_init.2.1 190 = .ok (.newarray .int, 2) := by decide +kernel
theorem dR_init_192 : decode mR_init.2.1 192 = .ok (.putfield 82, 3) := by decide +kernel
theorem dR_init_195 : decode mR_init.2.1 195 = .ok (.return_, 1) := by decide +kernel
theorem dR_thrown_0 : decode mR_thrown.2.1 0 = .ok (.aload_n 0, 1) := by decide +kernel
theorem dR_thrown_1 : decode mR_thrown.2.1 1 = .ok (.getfield 85, 3) := by decide +kernel
theorem dR_thrown_4 : decode mR_thrown.2.1 4 = .ok (.ireturn, 1) := by decide +kernel
theorem dR_weights_0 : decode mR_weights.2.1 0 = .ok (.aload_n 0, 1) := by decide +kernel
theorem dR_weights_1 : decode mR_weights.2.1 1 = .ok (.iconst 0, 1) := by decide +kernel
theorem dR_weights_2 : decode mR_weights.2.1 2 = .ok (.putfield 85, 3) := by decide +kernel
theorem dR_weights_5 : decode mR_weights.2.1 5 = .ok (.aload_n 0, 1) := by decide +kernel
theorem dR_weights_6 : decode mR_weights.2.1 6 = .ok (.iload_n 1, 1) := by decide +kernel
theorem dR_weights_7 : decode mR_weights.2.1 7 = .ok (.sipush 512, 3) := by decide +kernel
theorem dR_weights_10 : decode mR_weights.2.1 10 = .ok (.invokevirtual 94, 3) := by decide +kernel
theorem dR_weights_13 : decode mR_weights.2.1 13 = .ok (.ifCond .eq 9, 3) := by decide +kernel
theorem dR_weights_16 : decode mR_weights.2.1 16 = .ok (.aload_n 0, 1) := by decide +kernel
theorem dR_weights_17 : decode mR_weights.2.1 17 = .ok (.iconst 1, 1) := by decide +kernel
theorem dR_weights_18 : decode mR_weights.2.1 18 = .ok (.invokevirtual 98, 3) := by decide +kernel
theorem dR_weights_21 : decode mR_weights.2.1 21 = .ok (.ireturn, 1) := by decide +kernel
theorem dR_weights_22 : decode mR_weights.2.1 22 = .ok (.iconst 0, 1) := by decide +kernel
theorem dR_weights_23 : decode mR_weights.2.1 23 = .ok (.istore 4, 2) := by decide +kernel
theorem dR_weights_25 : decode mR_weights.2.1 25 = .ok (.iconst 0, 1) := by decide +kernel
theorem dR_weights_26 : decode mR_weights.2.1 26 = .ok (.istore 5, 2) := by decide +kernel
theorem dR_weights_28 : decode mR_weights.2.1 28 = .ok (.iload 5, 2) := by decide +kernel
theorem dR_weights_30 : decode mR_weights.2.1 30 = .ok (.bipush 8, 2) := by decide +kernel
theorem dR_weights_32 : decode mR_weights.2.1 32 = .ok (.if_icmp .ge 43, 3) := by decide +kernel
theorem dR_weights_35 : decode mR_weights.2.1 35 = .ok (.iload_n 1, 1) := by decide +kernel
theorem dR_weights_36 : decode mR_weights.2.1 36 = .ok (.iload 5, 2) := by decide +kernel
theorem dR_weights_38 : decode mR_weights.2.1 38 = .ok (.iadd, 1) := by decide +kernel
theorem dR_weights_39 : decode mR_weights.2.1 39 = .ok (.sipush 512, 3) := by decide +kernel
theorem dR_weights_42 : decode mR_weights.2.1 42 = .ok (.if_icmp .ge 33, 3) := by decide +kernel
theorem dR_weights_45 : decode mR_weights.2.1 45 = .ok (.aload_n 0, 1) := by decide +kernel
theorem dR_weights_46 : decode mR_weights.2.1 46 = .ok (.getfield 7, 3) := by decide +kernel
theorem dR_weights_49 : decode mR_weights.2.1 49 = .ok (.iload_n 1, 1) := by decide +kernel
theorem dR_weights_50 : decode mR_weights.2.1 50 = .ok (.iload 5, 2) := by decide +kernel
theorem dR_weights_52 : decode mR_weights.2.1 52 = .ok (.iadd, 1) := by decide +kernel
theorem dR_weights_53 : decode mR_weights.2.1 53 = .ok (.lload_n 2, 1) := by decide +kernel
theorem dR_weights_54 : decode mR_weights.2.1 54 = .ok (.bipush 56, 2) := by decide +kernel
theorem dR_weights_56 : decode mR_weights.2.1 56 = .ok (.bipush 8, 2) := by decide +kernel
theorem dR_weights_58 : decode mR_weights.2.1 58 = .ok (.iload 5, 2) := by decide +kernel
theorem dR_weights_60 : decode mR_weights.2.1 60 = .ok (.imul, 1) := by decide +kernel
theorem dR_weights_61 : decode mR_weights.2.1 61 = .ok (.isub, 1) := by decide +kernel
theorem dR_weights_62 : decode mR_weights.2.1 62 = .ok (.lshr, 1) := by decide +kernel
theorem dR_weights_63 : decode mR_weights.2.1 63 = .ok (.l2i, 1) := by decide +kernel
theorem dR_weights_64 : decode mR_weights.2.1 64 = .ok (.i2b, 1) := by decide +kernel
theorem dR_weights_65 : decode mR_weights.2.1 65 = .ok (.iastore, 1) := by decide +kernel
theorem dR_weights_66 : decode mR_weights.2.1 66 = .ok (.iinc 4 1, 3) := by decide +kernel
theorem dR_weights_69 : decode mR_weights.2.1 69 = .ok (.iinc 5 1, 3) := by decide +kernel
theorem dR_weights_72 : decode mR_weights.2.1 72 = .ok (.goto (-44), 3) := by decide +kernel
theorem dR_weights_75 : decode mR_weights.2.1 75 = .ok (.iload 4, 2) := by decide +kernel
theorem dR_weights_77 : decode mR_weights.2.1 77 = .ok (.ireturn, 1) := by decide +kernel
theorem dR_out_0 : decode mR_out.2.1 0 = .ok (.iload_n 1, 1) := by decide +kernel
theorem dR_out_1 : decode mR_out.2.1 1 = .ok (.ifCond .lt 8, 3) := by decide +kernel
theorem dR_out_4 : decode mR_out.2.1 4 = .ok (.iload_n 1, 1) := by decide +kernel
theorem dR_out_5 : decode mR_out.2.1 5 = .ok (.iload_n 2, 1) := by decide +kernel
theorem dR_out_6 : decode mR_out.2.1 6 = .ok (.if_icmp .lt 7, 3) := by decide +kernel
theorem dR_out_9 : decode mR_out.2.1 9 = .ok (.iconst 1, 1) := by decide +kernel
theorem dR_out_10 : decode mR_out.2.1 10 = .ok (.goto 4, 3) := by decide +kernel
theorem dR_out_13 : decode mR_out.2.1 13 = .ok (.iconst 0, 1) := by decide +kernel
theorem dR_out_14 : decode mR_out.2.1 14 = .ok (.ireturn, 1) := by decide +kernel
theorem dR_fail_0 : decode mR_fail.2.1 0 = .ok (.aload_n 0, 1) := by decide +kernel
theorem dR_fail_1 : decode mR_fail.2.1 1 = .ok (.iload_n 1, 1) := by decide +kernel
theorem dR_fail_2 : decode mR_fail.2.1 2 = .ok (.putfield 85, 3) := by decide +kernel
theorem dR_fail_5 : decode mR_fail.2.1 5 = .ok (.iconst 0, 1) := by decide +kernel
theorem dR_fail_6 : decode mR_fail.2.1 6 = .ok (.ireturn, 1) := by decide +kernel
theorem dR_weightScale_0 : decode mR_weightScale.2.1 0 = .ok (.aload_n 0, 1) := by decide +kernel
theorem dR_weightScale_1 : decode mR_weightScale.2.1 1 = .ok (.iconst 0, 1) := by decide +kernel
theorem dR_weightScale_2 : decode mR_weightScale.2.1 2 = .ok (.putfield 85, 3) := by decide +kernel
theorem dR_weightScale_5 : decode mR_weightScale.2.1 5 = .ok (.aload_n 0, 1) := by decide +kernel
theorem dR_weightScale_6 : decode mR_weightScale.2.1 6 = .ok (.dload_n 1, 1) := by decide +kernel
theorem dR_weightScale_7 : decode mR_weightScale.2.1 7 = .ok (.invokevirtual 102, 3) := by decide +kernel
theorem dR_weightScale_10 : decode mR_weightScale.2.1 10 = .ok (.ifCond .eq 11, 3) := by decide +kernel
theorem dR_weightScale_13 : decode mR_weightScale.2.1 13 = .ok (.aload_n 0, 1) := by decide +kernel
theorem dR_weightScale_14 : decode mR_weightScale.2.1 14 = .ok (.iconst 1, 1) := by decide +kernel
theorem dR_weightScale_15 : decode mR_weightScale.2.1 15 = .ok (.putfield 85, 3) := by decide +kernel
theorem dR_weightScale_18 : decode mR_weightScale.2.1 18 = .ok (.goto 8, 3) := by decide +kernel
theorem dR_weightScale_21 : decode mR_weightScale.2.1 21 = .ok (.aload_n 0, 1) := by decide +kernel
theorem dR_weightScale_22 : decode mR_weightScale.2.1 22 = .ok (.dload_n 1, 1) := by decide +kernel
theorem dR_weightScale_23 : decode mR_weightScale.2.1 23 = .ok (.putfield 13, 3) := by decide +kernel
theorem dR_weightScale_26 : decode mR_weightScale.2.1 26 = .ok (.return_, 1) := by decide +kernel
theorem dR_badScale_0 : decode mR_badScale.2.1 0 = .ok (.dload_n 1, 1) := by decide +kernel
theorem dR_badScale_1 : decode mR_badScale.2.1 1 = .ok (.dconst 0, 1) := by decide +kernel
theorem dR_badScale_2 : decode mR_badScale.2.1 2 = .ok (.dcmp .l, 1) := by decide +kernel
theorem dR_badScale_3 : decode mR_badScale.2.1 3 = .ok (.ifCond .le 11, 3) := by decide +kernel
theorem dR_badScale_6 : decode mR_badScale.2.1 6 = .ok (.dload_n 1, 1) := by decide +kernel
theorem dR_badScale_7 : decode mR_badScale.2.1 7 = .ok (.ldc2_w 88, 3) := by decide +kernel
theorem dR_badScale_10 : decode mR_badScale.2.1 10 = .ok (.dcmp .l, 1) := by decide +kernel
theorem dR_badScale_11 : decode mR_badScale.2.1 11 = .ok (.ifCond .le 7, 3) := by decide +kernel
theorem dR_badScale_14 : decode mR_badScale.2.1 14 = .ok (.iconst 1, 1) := by decide +kernel
theorem dR_badScale_15 : decode mR_badScale.2.1 15 = .ok (.goto 4, 3) := by decide +kernel
theorem dR_badScale_18 : decode mR_badScale.2.1 18 = .ok (.iconst 0, 1) := by decide +kernel
theorem dR_badScale_19 : decode mR_badScale.2.1 19 = .ok (.ireturn, 1) := by decide +kernel
theorem dR_input_0 : decode mR_input.2.1 0 = .ok (.aload_n 0, 1) := by decide +kernel
theorem dR_input_1 : decode mR_input.2.1 1 = .ok (.iconst 0, 1) := by decide +kernel
theorem dR_input_2 : decode mR_input.2.1 2 = .ok (.putfield 85, 3) := by decide +kernel
theorem dR_input_5 : decode mR_input.2.1 5 = .ok (.aload_n 0, 1) := by decide +kernel
theorem dR_input_6 : decode mR_input.2.1 6 = .ok (.iload_n 1, 1) := by decide +kernel
theorem dR_input_7 : decode mR_input.2.1 7 = .ok (.iconst 1, 1) := by decide +kernel
theorem dR_input_8 : decode mR_input.2.1 8 = .ok (.isub, 1) := by decide +kernel
theorem dR_input_9 : decode mR_input.2.1 9 = .ok (.iconst 4, 1) := by decide +kernel
theorem dR_input_10 : decode mR_input.2.1 10 = .ok (.invokevirtual 94, 3) := by decide +kernel
theorem dR_input_13 : decode mR_input.2.1 13 = .ok (.ifCond .ne 35, 3) := by decide +kernel
theorem dR_input_16 : decode mR_input.2.1 16 = .ok (.aload_n 0, 1) := by decide +kernel
theorem dR_input_17 : decode mR_input.2.1 17 = .ok (.iload_n 2, 1) := by decide +kernel
theorem dR_input_18 : decode mR_input.2.1 18 = .ok (.iconst 1, 1) := by decide +kernel
theorem dR_input_19 : decode mR_input.2.1 19 = .ok (.isub, 1) := by decide +kernel
theorem dR_input_20 : decode mR_input.2.1 20 = .ok (.iconst 4, 1) := by decide +kernel
theorem dR_input_21 : decode mR_input.2.1 21 = .ok (.invokevirtual 94, 3) := by decide +kernel
theorem dR_input_24 : decode mR_input.2.1 24 = .ok (.ifCond .ne 24, 3) := by decide +kernel
theorem dR_input_27 : decode mR_input.2.1 27 = .ok (.aload_n 0, 1) := by decide +kernel
theorem dR_input_28 : decode mR_input.2.1 28 = .ok (.iload_n 3, 1) := by decide +kernel
theorem dR_input_29 : decode mR_input.2.1 29 = .ok (.iconst 1, 1) := by decide +kernel
theorem dR_input_30 : decode mR_input.2.1 30 = .ok (.isub, 1) := by decide +kernel
theorem dR_input_31 : decode mR_input.2.1 31 = .ok (.bipush 8, 2) := by decide +kernel
theorem dR_input_33 : decode mR_input.2.1 33 = .ok (.invokevirtual 94, 3) := by decide +kernel
theorem dR_input_36 : decode mR_input.2.1 36 = .ok (.ifCond .ne 12, 3) := by decide +kernel
theorem dR_input_39 : decode mR_input.2.1 39 = .ok (.aload_n 0, 1) := by decide +kernel
theorem dR_input_40 : decode mR_input.2.1 40 = .ok (.dload 4, 2) := by decide +kernel
theorem dR_input_42 : decode mR_input.2.1 42 = .ok (.invokevirtual 102, 3) := by decide +kernel
theorem dR_input_45 : decode mR_input.2.1 45 = .ok (.ifCond .eq 9, 3) := by decide +kernel
theorem dR_input_48 : decode mR_input.2.1 48 = .ok (.aload_n 0, 1) := by decide +kernel
theorem dR_input_49 : decode mR_input.2.1 49 = .ok (.iconst 1, 1) := by decide +kernel
theorem dR_input_50 : decode mR_input.2.1 50 = .ok (.invokevirtual 98, 3) := by decide +kernel
theorem dR_input_53 : decode mR_input.2.1 53 = .ok (.ireturn, 1) := by decide +kernel
theorem dR_input_54 : decode mR_input.2.1 54 = .ok (.aload_n 0, 1) := by decide +kernel
theorem dR_input_55 : decode mR_input.2.1 55 = .ok (.getfield 106, 3) := by decide +kernel
theorem dR_input_58 : decode mR_input.2.1 58 = .ok (.bipush 14, 2) := by decide +kernel
theorem dR_input_60 : decode mR_input.2.1 60 = .ok (.if_icmp .ne 9, 3) := by decide +kernel
theorem dR_input_63 : decode mR_input.2.1 63 = .ok (.aload_n 0, 1) := by decide +kernel
theorem dR_input_64 : decode mR_input.2.1 64 = .ok (.iconst 2, 1) := by decide +kernel
theorem dR_input_65 : decode mR_input.2.1 65 = .ok (.invokevirtual 98, 3) := by decide +kernel
theorem dR_input_68 : decode mR_input.2.1 68 = .ok (.ireturn, 1) := by decide +kernel
theorem dR_input_69 : decode mR_input.2.1 69 = .ok (.aload_n 0, 1) := by decide +kernel
theorem dR_input_70 : decode mR_input.2.1 70 = .ok (.iconst 0, 1) := by decide +kernel
theorem dR_input_71 : decode mR_input.2.1 71 = .ok (.iconst (-1), 1) := by decide +kernel
theorem dR_input_72 : decode mR_input.2.1 72 = .ok (.iconst (-1), 1) := by decide +kernel
theorem dR_input_73 : decode mR_input.2.1 73 = .ok (.iload_n 1, 1) := by decide +kernel
theorem dR_input_74 : decode mR_input.2.1 74 = .ok (.iload_n 2, 1) := by decide +kernel
theorem dR_input_75 : decode mR_input.2.1 75 = .ok (.iload_n 3, 1) := by decide +kernel
theorem dR_input_76 : decode mR_input.2.1 76 = .ok (.dload 4, 2) := by decide +kernel
theorem dR_input_78 : decode mR_input.2.1 78 = .ok (.invokevirtual 113, 3) := by decide +kernel
theorem dR_input_81 : decode mR_input.2.1 81 = .ok (.pop, 1) := by decide +kernel
theorem dR_input_82 : decode mR_input.2.1 82 = .ok (.aload_n 0, 1) := by decide +kernel
theorem dR_input_83 : decode mR_input.2.1 83 = .ok (.iconst 0, 1) := by decide +kernel
theorem dR_input_84 : decode mR_input.2.1 84 = .ok (.iconst 0, 1) := by decide +kernel
theorem dR_input_85 : decode mR_input.2.1 85 = .ok (.iconst 0, 1) := by decide +kernel
theorem dR_input_86 : decode mR_input.2.1 86 = .ok (.iconst 0, 1) := by decide +kernel
theorem dR_input_87 : decode mR_input.2.1 87 = .ok (.invokevirtual 117, 3) := by decide +kernel
theorem dR_input_90 : decode mR_input.2.1 90 = .ok (.ireturn, 1) := by decide +kernel
theorem dR_make_0 : decode mR_make.2.1 0 = .ok (.aload_n 0, 1) := by decide +kernel
theorem dR_make_1 : decode mR_make.2.1 1 = .ok (.getfield 106, 3) := by decide +kernel
theorem dR_make_4 : decode mR_make.2.1 4 = .ok (.istore 9, 2) := by decide +kernel
theorem dR_make_6 : decode mR_make.2.1 6 = .ok (.aload_n 0, 1) := by decide +kernel
theorem dR_make_7 : decode mR_make.2.1 7 = .ok (.getfield 17, 3) := by decide +kernel
theorem dR_make_10 : decode mR_make.2.1 10 = .ok (.iload 9, 2) := by decide +kernel
theorem dR_make_12 : decode mR_make.2.1 12 = .ok (.iload_n 1, 1) := by decide +kernel
theorem dR_make_13 : decode mR_make.2.1 13 = .ok (.iastore, 1) := by decide +kernel
theorem dR_make_14 : decode mR_make.2.1 14 = .ok (.aload_n 0, 1) := by decide +kernel
theorem dR_make_15 : decode mR_make.2.1 15 = .ok (.getfield 20, 3) := by decide +kernel
theorem dR_make_18 : decode mR_make.2.1 18 = .ok (.iload 9, 2) := by decide +kernel
theorem dR_make_20 : decode mR_make.2.1 20 = .ok (.iload_n 2, 1) := by decide +kernel
theorem dR_make_21 : decode mR_make.2.1 21 = .ok (.iastore, 1) := by decide +kernel
theorem dR_make_22 : decode mR_make.2.1 22 = .ok (.aload_n 0, 1) := by decide +kernel
theorem dR_make_23 : decode mR_make.2.1 23 = .ok (.getfield 23, 3) := by decide +kernel
theorem dR_make_26 : decode mR_make.2.1 26 = .ok (.iload 9, 2) := by decide +kernel
theorem dR_make_28 : decode mR_make.2.1 28 = .ok (.iload_n 3, 1) := by decide +kernel
theorem dR_make_29 : decode mR_make.2.1 29 = .ok (.iastore, 1) := by decide +kernel
theorem dR_make_30 : decode mR_make.2.1 30 = .ok (.aload_n 0, 1) := by decide +kernel
theorem dR_make_31 : decode mR_make.2.1 31 = .ok (.getfield 26, 3) := by decide +kernel
theorem dR_make_34 : decode mR_make.2.1 34 = .ok (.iload 9, 2) := by decide +kernel
theorem dR_make_36 : decode mR_make.2.1 36 = .ok (.iload 4, 2) := by decide +kernel
theorem dR_make_38 : decode mR_make.2.1 38 = .ok (.iastore, 1) := by decide +kernel
theorem dR_make_39 : decode mR_make.2.1 39 = .ok (.aload_n 0, 1) := by decide +kernel
theorem dR_make_40 : decode mR_make.2.1 40 = .ok (.getfield 29, 3) := by decide +kernel
theorem dR_make_43 : decode mR_make.2.1 43 = .ok (.iload 9, 2) := by decide +kernel
theorem dR_make_45 : decode mR_make.2.1 45 = .ok (.iload 5, 2) := by decide +kernel
theorem dR_make_47 : decode mR_make.2.1 47 = .ok (.iastore, 1) := by decide +kernel
theorem dR_make_48 : decode mR_make.2.1 48 = .ok (.aload_n 0, 1) := by decide +kernel
theorem dR_make_49 : decode mR_make.2.1 49 = .ok (.getfield 32, 3) := by decide +kernel
theorem dR_make_52 : decode mR_make.2.1 52 = .ok (.iload 9, 2) := by decide +kernel
theorem dR_make_54 : decode mR_make.2.1 54 = .ok (.iload 6, 2) := by decide +kernel
theorem dR_make_56 : decode mR_make.2.1 56 = .ok (.iastore, 1) := by decide +kernel
theorem dR_make_57 : decode mR_make.2.1 57 = .ok (.aload_n 0, 1) := by decide +kernel
theorem dR_make_58 : decode mR_make.2.1 58 = .ok (.getfield 35, 3) := by decide +kernel
theorem dR_make_61 : decode mR_make.2.1 61 = .ok (.iload 9, 2) := by decide +kernel
theorem dR_make_63 : decode mR_make.2.1 63 = .ok (.dload 7, 2) := by decide +kernel
theorem dR_make_65 : decode mR_make.2.1 65 = .ok (.dastore, 1) := by decide +kernel
theorem dR_make_66 : decode mR_make.2.1 66 = .ok (.aload_n 0, 1) := by decide +kernel
theorem dR_make_67 : decode mR_make.2.1 67 = .ok (.getfield 39, 3) := by decide +kernel
theorem dR_make_70 : decode mR_make.2.1 70 = .ok (.iload 9, 2) := by decide +kernel
theorem dR_make_72 : decode mR_make.2.1 72 = .ok (.iload_n 1, 1) := by decide +kernel
theorem dR_make_73 : decode mR_make.2.1 73 = .ok (.iconst 1, 1) := by decide +kernel
theorem dR_make_74 : decode mR_make.2.1 74 = .ok (.if_icmp .lt 15, 3) := by decide +kernel
theorem dR_make_77 : decode mR_make.2.1 77 = .ok (.iload_n 1, 1) := by decide +kernel
theorem dR_make_78 : decode mR_make.2.1 78 = .ok (.iconst 3, 1) := by decide +kernel
theorem dR_make_79 : decode mR_make.2.1 79 = .ok (.if_icmp .gt 10, 3) := by decide +kernel
theorem dR_make_82 : decode mR_make.2.1 82 = .ok (.aload_n 0, 1) := by decide +kernel
theorem dR_make_83 : decode mR_make.2.1 83 = .ok (.getfield 13, 3) := by decide +kernel
theorem dR_make_86 : decode mR_make.2.1 86 = .ok (.goto 4, 3) := by decide +kernel
theorem dR_make_89 : decode mR_make.2.1 89 = .ok (.dconst 0, 1) := by decide +kernel
theorem dR_make_90 : decode mR_make.2.1 90 = .ok (.dastore, 1) := by decide +kernel
theorem dR_make_91 : decode mR_make.2.1 91 = .ok (.aload_n 0, 1) := by decide +kernel
theorem dR_make_92 : decode mR_make.2.1 92 = .ok (.getfield 42, 3) := by decide +kernel
theorem dR_make_95 : decode mR_make.2.1 95 = .ok (.iload 9, 2) := by decide +kernel
theorem dR_make_97 : decode mR_make.2.1 97 = .ok (.iconst 0, 1) := by decide +kernel
theorem dR_make_98 : decode mR_make.2.1 98 = .ok (.iastore, 1) := by decide +kernel
theorem dR_make_99 : decode mR_make.2.1 99 = .ok (.iload 9, 2) := by decide +kernel
theorem dR_make_101 : decode mR_make.2.1 101 = .ok (.ireturn, 1) := by decide +kernel
theorem dR_finish_0 : decode mR_finish.2.1 0 = .ok (.aload_n 0, 1) := by decide +kernel
theorem dR_finish_1 : decode mR_finish.2.1 1 = .ok (.getfield 42, 3) := by decide +kernel
theorem dR_finish_4 : decode mR_finish.2.1 4 = .ok (.aload_n 0, 1) := by decide +kernel
theorem dR_finish_5 : decode mR_finish.2.1 5 = .ok (.getfield 106, 3) := by decide +kernel
theorem dR_finish_8 : decode mR_finish.2.1 8 = .ok (.iload_n 1, 1) := by decide +kernel
theorem dR_finish_9 : decode mR_finish.2.1 9 = .ok (.iastore, 1) := by decide +kernel
theorem dR_finish_10 : decode mR_finish.2.1 10 = .ok (.aload_n 0, 1) := by decide +kernel
theorem dR_finish_11 : decode mR_finish.2.1 11 = .ok (.getfield 45, 3) := by decide +kernel
theorem dR_finish_14 : decode mR_finish.2.1 14 = .ok (.aload_n 0, 1) := by decide +kernel
theorem dR_finish_15 : decode mR_finish.2.1 15 = .ok (.getfield 106, 3) := by decide +kernel
theorem dR_finish_18 : decode mR_finish.2.1 18 = .ok (.iload_n 2, 1) := by decide +kernel
theorem dR_finish_19 : decode mR_finish.2.1 19 = .ok (.iastore, 1) := by decide +kernel
theorem dR_finish_20 : decode mR_finish.2.1 20 = .ok (.aload_n 0, 1) := by decide +kernel
theorem dR_finish_21 : decode mR_finish.2.1 21 = .ok (.getfield 48, 3) := by decide +kernel
theorem dR_finish_24 : decode mR_finish.2.1 24 = .ok (.aload_n 0, 1) := by decide +kernel
theorem dR_finish_25 : decode mR_finish.2.1 25 = .ok (.getfield 106, 3) := by decide +kernel
theorem dR_finish_28 : decode mR_finish.2.1 28 = .ok (.iload_n 3, 1) := by decide +kernel
theorem dR_finish_29 : decode mR_finish.2.1 29 = .ok (.iastore, 1) := by decide +kernel
theorem dR_finish_30 : decode mR_finish.2.1 30 = .ok (.aload_n 0, 1) := by decide +kernel
theorem dR_finish_31 : decode mR_finish.2.1 31 = .ok (.getfield 51, 3) := by decide +kernel
theorem dR_finish_34 : decode mR_finish.2.1 34 = .ok (.aload_n 0, 1) := by decide +kernel
theorem dR_finish_35 : decode mR_finish.2.1 35 = .ok (.getfield 106, 3) := by decide +kernel
theorem dR_finish_38 : decode mR_finish.2.1 38 = .ok (.iload 4, 2) := by decide +kernel
theorem dR_finish_40 : decode mR_finish.2.1 40 = .ok (.iastore, 1) := by decide +kernel
theorem dR_finish_41 : decode mR_finish.2.1 41 = .ok (.iconst 0, 1) := by decide +kernel
theorem dR_finish_42 : decode mR_finish.2.1 42 = .ok (.istore 5, 2) := by decide +kernel
theorem dR_finish_44 : decode mR_finish.2.1 44 = .ok (.iload 5, 2) := by decide +kernel
theorem dR_finish_46 : decode mR_finish.2.1 46 = .ok (.sipush 128, 3) := by decide +kernel
theorem dR_finish_49 : decode mR_finish.2.1 49 = .ok (.if_icmp .ge 26, 3) := by decide +kernel
theorem dR_finish_52 : decode mR_finish.2.1 52 = .ok (.aload_n 0, 1) := by decide +kernel
theorem dR_finish_53 : decode mR_finish.2.1 53 = .ok (.getfield 57, 3) := by decide +kernel
theorem dR_finish_56 : decode mR_finish.2.1 56 = .ok (.sipush 128, 3) := by decide +kernel
theorem dR_finish_59 : decode mR_finish.2.1 59 = .ok (.aload_n 0, 1) := by decide +kernel
theorem dR_finish_60 : decode mR_finish.2.1 60 = .ok (.getfield 106, 3) := by decide +kernel
theorem dR_finish_63 : decode mR_finish.2.1 63 = .ok (.imul, 1) := by decide +kernel
theorem dR_finish_64 : decode mR_finish.2.1 64 = .ok (.iload 5, 2) := by decide +kernel
theorem dR_finish_66 : decode mR_finish.2.1 66 = .ok (.iadd, 1) := by decide +kernel
theorem dR_finish_67 : decode mR_finish.2.1 67 = .ok (.iconst 0, 1) := by decide +kernel
theorem dR_finish_68 : decode mR_finish.2.1 68 = .ok (.iastore, 1) := by decide +kernel
theorem dR_finish_69 : decode mR_finish.2.1 69 = .ok (.iinc 5 1, 3) := by decide +kernel
theorem dR_finish_72 : decode mR_finish.2.1 72 = .ok (.goto (-28), 3) := by decide +kernel
theorem dR_finish_75 : decode mR_finish.2.1 75 = .ok (.aload_n 0, 1) := by decide +kernel
theorem dR_finish_76 : decode mR_finish.2.1 76 = .ok (.dup, 1) := by decide +kernel
theorem dR_finish_77 : decode mR_finish.2.1 77 = .ok (.getfield 106, 3) := by decide +kernel
theorem dR_finish_80 : decode mR_finish.2.1 80 = .ok (.iconst 1, 1) := by decide +kernel
theorem dR_finish_81 : decode mR_finish.2.1 81 = .ok (.iadd, 1) := by decide +kernel
theorem dR_finish_82 : decode mR_finish.2.1 82 = .ok (.putfield 106, 3) := by decide +kernel
theorem dR_finish_85 : decode mR_finish.2.1 85 = .ok (.aload_n 0, 1) := by decide +kernel
theorem dR_finish_86 : decode mR_finish.2.1 86 = .ok (.iconst 0, 1) := by decide +kernel
theorem dR_finish_87 : decode mR_finish.2.1 87 = .ok (.putfield 109, 3) := by decide +kernel
theorem dR_finish_90 : decode mR_finish.2.1 90 = .ok (.aload_n 0, 1) := by decide +kernel
theorem dR_finish_91 : decode mR_finish.2.1 91 = .ok (.getfield 106, 3) := by decide +kernel
theorem dR_finish_94 : decode mR_finish.2.1 94 = .ok (.iconst 1, 1) := by decide +kernel
theorem dR_finish_95 : decode mR_finish.2.1 95 = .ok (.isub, 1) := by decide +kernel
theorem dR_finish_96 : decode mR_finish.2.1 96 = .ok (.ireturn, 1) := by decide +kernel
theorem dR_windows_0 : decode mR_windows.2.1 0 = .ok (.aload_n 0, 1) := by decide +kernel
theorem dR_windows_1 : decode mR_windows.2.1 1 = .ok (.iconst 0, 1) := by decide +kernel
theorem dR_windows_2 : decode mR_windows.2.1 2 = .ok (.putfield 85, 3) := by decide +kernel
theorem dR_windows_5 : decode mR_windows.2.1 5 = .ok (.aload_n 0, 1) := by decide +kernel
theorem dR_windows_6 : decode mR_windows.2.1 6 = .ok (.iload_n 1, 1) := by decide +kernel
theorem dR_windows_7 : decode mR_windows.2.1 7 = .ok (.aload_n 0, 1) := by decide +kernel
theorem dR_windows_8 : decode mR_windows.2.1 8 = .ok (.getfield 106, 3) := by decide +kernel
theorem dR_windows_11 : decode mR_windows.2.1 11 = .ok (.invokevirtual 94, 3) := by decide +kernel
theorem dR_windows_14 : decode mR_windows.2.1 14 = .ok (.ifCond .ne 41, 3) := by decide +kernel
theorem dR_windows_17 : decode mR_windows.2.1 17 = .ok (.aload_n 0, 1) := by decide +kernel
theorem dR_windows_18 : decode mR_windows.2.1 18 = .ok (.dload 5, 2) := by decide +kernel
theorem dR_windows_20 : decode mR_windows.2.1 20 = .ok (.invokevirtual 102, 3) := by decide +kernel
theorem dR_windows_23 : decode mR_windows.2.1 23 = .ok (.ifCond .ne 32, 3) := by decide +kernel
theorem dR_windows_26 : decode mR_windows.2.1 26 = .ok (.iload_n 2, 1) := by decide +kernel
theorem dR_windows_27 : decode mR_windows.2.1 27 = .ok (.ifCond .lt 28, 3) := by decide +kernel
theorem dR_windows_30 : decode mR_windows.2.1 30 = .ok (.iload_n 2, 1) := by decide +kernel
theorem dR_windows_31 : decode mR_windows.2.1 31 = .ok (.iload_n 3, 1) := by decide +kernel
theorem dR_windows_32 : decode mR_windows.2.1 32 = .ok (.ifCond .eq 8, 3) := by decide +kernel
theorem dR_windows_35 : decode mR_windows.2.1 35 = .ok (.bipush 12, 2) := by decide +kernel
theorem dR_windows_37 : decode mR_windows.2.1 37 = .ok (.goto 5, 3) := by decide +kernel
theorem dR_windows_40 : decode mR_windows.2.1 40 = .ok (.bipush 108, 2) := by decide +kernel
theorem dR_windows_42 : decode mR_windows.2.1 42 = .ok (.if_icmp .ge 13, 3) := by decide +kernel
theorem dR_windows_45 : decode mR_windows.2.1 45 = .ok (.iload_n 3, 1) := by decide +kernel
theorem dR_windows_46 : decode mR_windows.2.1 46 = .ok (.ifCond .ne 15, 3) := by decide +kernel
theorem dR_windows_49 : decode mR_windows.2.1 49 = .ok (.iload_n 2, 1) := by decide +kernel
theorem dR_windows_50 : decode mR_windows.2.1 50 = .ok (.bipush 12, 2) := by decide +kernel
theorem dR_windows_52 : decode mR_windows.2.1 52 = .ok (.if_icmp .ge 9, 3) := by decide +kernel
theorem dR_windows_55 : decode mR_windows.2.1 55 = .ok (.aload_n 0, 1) := by decide +kernel
theorem dR_windows_56 : decode mR_windows.2.1 56 = .ok (.iconst 1, 1) := by decide +kernel
theorem dR_windows_57 : decode mR_windows.2.1 57 = .ok (.invokevirtual 98, 3) := by decide +kernel
theorem dR_windows_60 : decode mR_windows.2.1 60 = .ok (.ireturn, 1) := by decide +kernel
theorem dR_windows_61 : decode mR_windows.2.1 61 = .ok (.iload_n 2, 1) := by decide +kernel
theorem dR_windows_62 : decode mR_windows.2.1 62 = .ok (.bipush 12, 2) := by decide +kernel
theorem dR_windows_64 : decode mR_windows.2.1 64 = .ok (.irem, 1) := by decide +kernel
theorem dR_windows_65 : decode mR_windows.2.1 65 = .ok (.istore 7, 2) := by decide +kernel
theorem dR_windows_67 : decode mR_windows.2.1 67 = .ok (.iload_n 3, 1) := by decide +kernel
theorem dR_windows_68 : decode mR_windows.2.1 68 = .ok (.ifCond .eq 12, 3) := by decide +kernel
theorem dR_windows_71 : decode mR_windows.2.1 71 = .ok (.aload_n 0, 1) := by decide +kernel
theorem dR_windows_72 : decode mR_windows.2.1 72 = .ok (.getfield 32, 3) := by decide +kernel
theorem dR_windows_75 : decode mR_windows.2.1 75 = .ok (.iload_n 1, 1) := by decide +kernel
theorem dR_windows_76 : decode mR_windows.2.1 76 = .ok (.iaload, 1) := by decide +kernel
theorem dR_windows_77 : decode mR_windows.2.1 77 = .ok (.goto 7, 3) := by decide +kernel
theorem dR_windows_80 : decode mR_windows.2.1 80 = .ok (.iload_n 2, 1) := by decide +kernel
theorem dR_windows_81 : decode mR_windows.2.1 81 = .ok (.bipush 12, 2) := by decide +kernel
theorem dR_windows_83 : decode mR_windows.2.1 83 = .ok (.idiv, 1) := by decide +kernel
theorem dR_windows_84 : decode mR_windows.2.1 84 = .ok (.istore 8, 2) := by decide +kernel
theorem dR_windows_86 : decode mR_windows.2.1 86 = .ok (.iload_n 3, 1) := by decide +kernel
theorem dR_windows_87 : decode mR_windows.2.1 87 = .ok (.ifCond .eq 25, 3) := by decide +kernel
theorem dR_windows_90 : decode mR_windows.2.1 90 = .ok (.iload 8, 2) := by decide +kernel
theorem dR_windows_92 : decode mR_windows.2.1 92 = .ok (.aload_n 0, 1) := by decide +kernel
theorem dR_windows_93 : decode mR_windows.2.1 93 = .ok (.iload 7, 2) := by decide +kernel
theorem dR_windows_95 : decode mR_windows.2.1 95 = .ok (.invokevirtual 124, 3) := by decide +kernel
theorem dR_windows_98 : decode mR_windows.2.1 98 = .ok (.imul, 1) := by decide +kernel
theorem dR_windows_99 : decode mR_windows.2.1 99 = .ok (.aload_n 0, 1) := by decide +kernel
theorem dR_windows_100 : decode mR_windows.2.1 100 = .ok (.iload 7, 2) := by decide +kernel
theorem dR_windows_102 : decode mR_windows.2.1 102 = .ok (.invokevirtual 124, 3) := by decide +kernel
theorem dR_windows_105 : decode mR_windows.2.1 105 = .ok (.imul, 1) := by decide +kernel
theorem dR_windows_106 : decode mR_windows.2.1 106 = .ok (.iload 8, 2) := by decide +kernel
theorem dR_windows_108 : decode mR_windows.2.1 108 = .ok (.iadd, 1) := by decide +kernel
theorem dR_windows_109 : decode mR_windows.2.1 109 = .ok (.goto 29, 3) := by decide +kernel
theorem dR_windows_112 : decode mR_windows.2.1 112 = .ok (.iload 8, 2) := by decide +kernel
theorem dR_windows_114 : decode mR_windows.2.1 114 = .ok (.aload_n 0, 1) := by decide +kernel
theorem dR_windows_115 : decode mR_windows.2.1 115 = .ok (.iload 7, 2) := by decide +kernel
theorem dR_windows_117 : decode mR_windows.2.1 117 = .ok (.invokevirtual 124, 3) := by decide +kernel
theorem dR_windows_120 : decode mR_windows.2.1 120 = .ok (.imul, 1) := by decide +kernel
theorem dR_windows_121 : decode mR_windows.2.1 121 = .ok (.aload_n 0, 1) := by decide +kernel
theorem dR_windows_122 : decode mR_windows.2.1 122 = .ok (.iload 7, 2) := by decide +kernel
theorem dR_windows_124 : decode mR_windows.2.1 124 = .ok (.invokevirtual 124, 3) := by decide +kernel
theorem dR_windows_127 : decode mR_windows.2.1 127 = .ok (.imul, 1) := by decide +kernel
theorem dR_windows_128 : decode mR_windows.2.1 128 = .ok (.aload_n 0, 1) := by decide +kernel
theorem dR_windows_129 : decode mR_windows.2.1 129 = .ok (.getfield 32, 3) := by decide +kernel
theorem dR_windows_132 : decode mR_windows.2.1 132 = .ok (.iload_n 1, 1) := by decide +kernel
theorem dR_windows_133 : decode mR_windows.2.1 133 = .ok (.iaload, 1) := by decide +kernel
theorem dR_windows_134 : decode mR_windows.2.1 134 = .ok (.imul, 1) := by decide +kernel
theorem dR_windows_135 : decode mR_windows.2.1 135 = .ok (.iload 8, 2) := by decide +kernel
theorem dR_windows_137 : decode mR_windows.2.1 137 = .ok (.iadd, 1) := by decide +kernel
theorem dR_windows_138 : decode mR_windows.2.1 138 = .ok (.istore 9, 2) := by decide +kernel
theorem dR_windows_140 : decode mR_windows.2.1 140 = .ok (.aload_n 0, 1) := by decide +kernel
theorem dR_windows_141 : decode mR_windows.2.1 141 = .ok (.iload_n 1, 1) := by decide +kernel
theorem dR_windows_142 : decode mR_windows.2.1 142 = .ok (.iload 7, 2) := by decide +kernel
theorem dR_windows_144 : decode mR_windows.2.1 144 = .ok (.invokevirtual 131, 3) := by decide +kernel
theorem dR_windows_147 : decode mR_windows.2.1 147 = .ok (.ifCond .ne 19, 3) := by decide +kernel
theorem dR_windows_150 : decode mR_windows.2.1 150 = .ok (.iload 4, 2) := by decide +kernel
theorem dR_windows_152 : decode mR_windows.2.1 152 = .ok (.ifCond .lt 14, 3) := by decide +kernel
theorem dR_windows_155 : decode mR_windows.2.1 155 = .ok (.iload 4, 2) := by decide +kernel
theorem dR_windows_157 : decode mR_windows.2.1 157 = .ok (.sipush 512, 3) := by decide +kernel
theorem dR_windows_160 : decode mR_windows.2.1 160 = .ok (.iload 9, 2) := by decide +kernel
theorem dR_windows_162 : decode mR_windows.2.1 162 = .ok (.isub, 1) := by decide +kernel
theorem dR_windows_163 : decode mR_windows.2.1 163 = .ok (.if_icmp .le 9, 3) := by decide +kernel
theorem dR_windows_166 : decode mR_windows.2.1 166 = .ok (.aload_n 0, 1) := by decide +kernel
theorem dR_windows_167 : decode mR_windows.2.1 167 = .ok (.iconst 1, 1) := by decide +kernel
theorem dR_windows_168 : decode mR_windows.2.1 168 = .ok (.invokevirtual 98, 3) := by decide +kernel
theorem dR_windows_171 : decode mR_windows.2.1 171 = .ok (.ireturn, 1) := by decide +kernel
theorem dR_windows_172 : decode mR_windows.2.1 172 = .ok (.aload_n 0, 1) := by decide +kernel
theorem dR_windows_173 : decode mR_windows.2.1 173 = .ok (.aload_n 0, 1) := by decide +kernel
theorem dR_windows_174 : decode mR_windows.2.1 174 = .ok (.getfield 35, 3) := by decide +kernel
theorem dR_windows_177 : decode mR_windows.2.1 177 = .ok (.iload_n 1, 1) := by decide +kernel
theorem dR_windows_178 : decode mR_windows.2.1 178 = .ok (.daload, 1) := by decide +kernel
theorem dR_windows_179 : decode mR_windows.2.1 179 = .ok (.aload_n 0, 1) := by decide +kernel
theorem dR_windows_180 : decode mR_windows.2.1 180 = .ok (.getfield 13, 3) := by decide +kernel
theorem dR_windows_183 : decode mR_windows.2.1 183 = .ok (.dmul, 1) := by decide +kernel
theorem dR_windows_184 : decode mR_windows.2.1 184 = .ok (.dload 5, 2) := by decide +kernel
theorem dR_windows_186 : decode mR_windows.2.1 186 = .ok (.ddiv, 1) := by decide +kernel
theorem dR_windows_187 : decode mR_windows.2.1 187 = .ok (.invokevirtual 134, 3) := by decide +kernel
theorem dR_windows_190 : decode mR_windows.2.1 190 = .ok (.ifCond .eq 9, 3) := by decide +kernel
theorem dR_windows_193 : decode mR_windows.2.1 193 = .ok (.aload_n 0, 1) := by decide +kernel
theorem dR_windows_194 : decode mR_windows.2.1 194 = .ok (.iconst 2, 1) := by decide +kernel
theorem dR_windows_195 : decode mR_windows.2.1 195 = .ok (.invokevirtual 98, 3) := by decide +kernel
theorem dR_windows_198 : decode mR_windows.2.1 198 = .ok (.ireturn, 1) := by decide +kernel
theorem dR_windows_199 : decode mR_windows.2.1 199 = .ok (.aload_n 0, 1) := by decide +kernel
theorem dR_windows_200 : decode mR_windows.2.1 200 = .ok (.getfield 106, 3) := by decide +kernel
theorem dR_windows_203 : decode mR_windows.2.1 203 = .ok (.bipush 14, 2) := by decide +kernel
theorem dR_windows_205 : decode mR_windows.2.1 205 = .ok (.if_icmp .ne 9, 3) := by decide +kernel
theorem dR_windows_208 : decode mR_windows.2.1 208 = .ok (.aload_n 0, 1) := by decide +kernel
theorem dR_windows_209 : decode mR_windows.2.1 209 = .ok (.iconst 3, 1) := by decide +kernel
theorem dR_windows_210 : decode mR_windows.2.1 210 = .ok (.invokevirtual 98, 3) := by decide +kernel
theorem dR_windows_213 : decode mR_windows.2.1 213 = .ok (.ireturn, 1) := by decide +kernel
theorem dR_windows_214 : decode mR_windows.2.1 214 = .ok (.aload_n 0, 1) := by decide +kernel
theorem dR_windows_215 : decode mR_windows.2.1 215 = .ok (.iload_n 3, 1) := by decide +kernel
theorem dR_windows_216 : decode mR_windows.2.1 216 = .ok (.ifCond .eq 7, 3) := by decide +kernel
theorem dR_windows_219 : decode mR_windows.2.1 219 = .ok (.iconst 2, 1) := by decide +kernel
theorem dR_windows_220 : decode mR_windows.2.1 220 = .ok (.goto 4, 3) := by decide +kernel
theorem dR_windows_223 : decode mR_windows.2.1 223 = .ok (.iconst 1, 1) := by decide +kernel
theorem dR_windows_224 : decode mR_windows.2.1 224 = .ok (.iload_n 1, 1) := by decide +kernel
theorem dR_windows_225 : decode mR_windows.2.1 225 = .ok (.iconst (-1), 1) := by decide +kernel
theorem dR_windows_226 : decode mR_windows.2.1 226 = .ok (.aload_n 0, 1) := by decide +kernel
theorem dR_windows_227 : decode mR_windows.2.1 227 = .ok (.aload_n 0, 1) := by decide +kernel
theorem dR_windows_228 : decode mR_windows.2.1 228 = .ok (.getfield 26, 3) := by decide +kernel
theorem dR_windows_231 : decode mR_windows.2.1 231 = .ok (.iload_n 1, 1) := by decide +kernel
theorem dR_windows_232 : decode mR_windows.2.1 232 = .ok (.iaload, 1) := by decide +kernel
theorem dR_windows_233 : decode mR_windows.2.1 233 = .ok (.iload 7, 2) := by decide +kernel
theorem dR_windows_235 : decode mR_windows.2.1 235 = .ok (.invokevirtual 127, 3) := by decide +kernel
theorem dR_windows_238 : decode mR_windows.2.1 238 = .ok (.aload_n 0, 1) := by decide +kernel
theorem dR_windows_239 : decode mR_windows.2.1 239 = .ok (.aload_n 0, 1) := by decide +kernel
theorem dR_windows_240 : decode mR_windows.2.1 240 = .ok (.getfield 29, 3) := by decide +kernel
theorem dR_windows_243 : decode mR_windows.2.1 243 = .ok (.iload_n 1, 1) := by decide +kernel
theorem dR_windows_244 : decode mR_windows.2.1 244 = .ok (.iaload, 1) := by decide +kernel
theorem dR_windows_245 : decode mR_windows.2.1 245 = .ok (.iload 7, 2) := by decide +kernel
theorem dR_windows_247 : decode mR_windows.2.1 247 = .ok (.invokevirtual 127, 3) := by decide +kernel
theorem dR_windows_250 : decode mR_windows.2.1 250 = .ok (.iload 8, 2) := by decide +kernel
theorem dR_windows_252 : decode mR_windows.2.1 252 = .ok (.dload 5, 2) := by decide +kernel
theorem dR_windows_254 : decode mR_windows.2.1 254 = .ok (.invokevirtual 113, 3) := by decide +kernel
theorem dR_windows_257 : decode mR_windows.2.1 257 = .ok (.pop, 1) := by decide +kernel
theorem dR_windows_258 : decode mR_windows.2.1 258 = .ok (.aload_n 0, 1) := by decide +kernel
theorem dR_windows_259 : decode mR_windows.2.1 259 = .ok (.iload 7, 2) := by decide +kernel
theorem dR_windows_261 : decode mR_windows.2.1 261 = .ok (.iload 4, 2) := by decide +kernel
theorem dR_windows_263 : decode mR_windows.2.1 263 = .ok (.iconst 0, 1) := by decide +kernel
theorem dR_windows_264 : decode mR_windows.2.1 264 = .ok (.iconst 0, 1) := by decide +kernel
theorem dR_windows_265 : decode mR_windows.2.1 265 = .ok (.invokevirtual 117, 3) := by decide +kernel
theorem dR_windows_268 : decode mR_windows.2.1 268 = .ok (.ireturn, 1) := by decide +kernel
theorem dR_side_0 : decode mR_side.2.1 0 = .ok (.iconst 1, 1) := by decide +kernel
theorem dR_side_1 : decode mR_side.2.1 1 = .ok (.iload_n 1, 1) := by decide +kernel
theorem dR_side_2 : decode mR_side.2.1 2 = .ok (.iconst 3, 1) := by decide +kernel
theorem dR_side_3 : decode mR_side.2.1 3 = .ok (.irem, 1) := by decide +kernel
theorem dR_side_4 : decode mR_side.2.1 4 = .ok (.iadd, 1) := by decide +kernel
theorem dR_side_5 : decode mR_side.2.1 5 = .ok (.ireturn, 1) := by decide +kernel
theorem dR_narrow_0 : decode mR_narrow.2.1 0 = .ok (.iload_n 2, 1) := by decide +kernel
theorem dR_narrow_1 : decode mR_narrow.2.1 1 = .ok (.bipush 6, 2) := by decide +kernel
theorem dR_narrow_3 : decode mR_narrow.2.1 3 = .ok (.if_icmp .ge 35, 3) := by decide +kernel
theorem dR_narrow_6 : decode mR_narrow.2.1 6 = .ok (.aload_n 0, 1) := by decide +kernel
theorem dR_narrow_7 : decode mR_narrow.2.1 7 = .ok (.getfield 26, 3) := by decide +kernel
theorem dR_narrow_10 : decode mR_narrow.2.1 10 = .ok (.iload_n 1, 1) := by decide +kernel
theorem dR_narrow_11 : decode mR_narrow.2.1 11 = .ok (.iaload, 1) := by decide +kernel
theorem dR_narrow_12 : decode mR_narrow.2.1 12 = .ok (.aload_n 0, 1) := by decide +kernel
theorem dR_narrow_13 : decode mR_narrow.2.1 13 = .ok (.iload_n 2, 1) := by decide +kernel
theorem dR_narrow_14 : decode mR_narrow.2.1 14 = .ok (.invokevirtual 124, 3) := by decide +kernel
theorem dR_narrow_17 : decode mR_narrow.2.1 17 = .ok (.if_icmp .lt 17, 3) := by decide +kernel
theorem dR_narrow_20 : decode mR_narrow.2.1 20 = .ok (.aload_n 0, 1) := by decide +kernel
theorem dR_narrow_21 : decode mR_narrow.2.1 21 = .ok (.getfield 29, 3) := by decide +kernel
theorem dR_narrow_24 : decode mR_narrow.2.1 24 = .ok (.iload_n 1, 1) := by decide +kernel
theorem dR_narrow_25 : decode mR_narrow.2.1 25 = .ok (.iaload, 1) := by decide +kernel
theorem dR_narrow_26 : decode mR_narrow.2.1 26 = .ok (.aload_n 0, 1) := by decide +kernel
theorem dR_narrow_27 : decode mR_narrow.2.1 27 = .ok (.iload_n 2, 1) := by decide +kernel
theorem dR_narrow_28 : decode mR_narrow.2.1 28 = .ok (.invokevirtual 124, 3) := by decide +kernel
theorem dR_narrow_31 : decode mR_narrow.2.1 31 = .ok (.if_icmp .ge 7, 3) := by decide +kernel
theorem dR_narrow_34 : decode mR_narrow.2.1 34 = .ok (.iconst 1, 1) := by decide +kernel
theorem dR_narrow_35 : decode mR_narrow.2.1 35 = .ok (.goto 4, 3) := by decide +kernel
theorem dR_narrow_38 : decode mR_narrow.2.1 38 = .ok (.iconst 0, 1) := by decide +kernel
theorem dR_narrow_39 : decode mR_narrow.2.1 39 = .ok (.ireturn, 1) := by decide +kernel
theorem dR_badRatio_0 : decode mR_badRatio.2.1 0 = .ok (.dload_n 1, 1) := by decide +kernel
theorem dR_badRatio_1 : decode mR_badRatio.2.1 1 = .ok (.ldc2_w 90, 3) := by decide +kernel
theorem dR_badRatio_4 : decode mR_badRatio.2.1 4 = .ok (.dcmp .l, 1) := by decide +kernel
theorem dR_badRatio_5 : decode mR_badRatio.2.1 5 = .ok (.ifCond .le 11, 3) := by decide +kernel
theorem dR_badRatio_8 : decode mR_badRatio.2.1 8 = .ok (.dload_n 1, 1) := by decide +kernel
theorem dR_badRatio_9 : decode mR_badRatio.2.1 9 = .ok (.ldc2_w 92, 3) := by decide +kernel
theorem dR_badRatio_12 : decode mR_badRatio.2.1 12 = .ok (.dcmp .g, 1) := by decide +kernel
theorem dR_badRatio_13 : decode mR_badRatio.2.1 13 = .ok (.ifCond .lt 7, 3) := by decide +kernel
theorem dR_badRatio_16 : decode mR_badRatio.2.1 16 = .ok (.iconst 1, 1) := by decide +kernel
theorem dR_badRatio_17 : decode mR_badRatio.2.1 17 = .ok (.goto 4, 3) := by decide +kernel
theorem dR_badRatio_20 : decode mR_badRatio.2.1 20 = .ok (.iconst 0, 1) := by decide +kernel
theorem dR_badRatio_21 : decode mR_badRatio.2.1 21 = .ok (.ireturn, 1) := by decide +kernel
theorem dR_places_0 : decode mR_places.2.1 0 = .ok (.iload_n 2, 1) := by decide +kernel
theorem dR_places_1 : decode mR_places.2.1 1 = .ok (.bipush 6, 2) := by decide +kernel
theorem dR_places_3 : decode mR_places.2.1 3 = .ok (.if_icmp .lt 21, 3) := by decide +kernel
theorem dR_places_6 : decode mR_places.2.1 6 = .ok (.iload_n 1, 1) := by decide +kernel
theorem dR_places_7 : decode mR_places.2.1 7 = .ok (.aload_n 0, 1) := by decide +kernel
theorem dR_places_8 : decode mR_places.2.1 8 = .ok (.iload_n 2, 1) := by decide +kernel
theorem dR_places_9 : decode mR_places.2.1 9 = .ok (.invokevirtual 121, 3) := by decide +kernel
theorem dR_places_12 : decode mR_places.2.1 12 = .ok (.iadd, 1) := by decide +kernel
theorem dR_places_13 : decode mR_places.2.1 13 = .ok (.iconst 1, 1) := by decide +kernel
theorem dR_places_14 : decode mR_places.2.1 14 = .ok (.isub, 1) := by decide +kernel
theorem dR_places_15 : decode mR_places.2.1 15 = .ok (.aload_n 0, 1) := by decide +kernel
theorem dR_places_16 : decode mR_places.2.1 16 = .ok (.iload_n 2, 1) := by decide +kernel
theorem dR_places_17 : decode mR_places.2.1 17 = .ok (.invokevirtual 121, 3) := by decide +kernel
theorem dR_places_20 : decode mR_places.2.1 20 = .ok (.idiv, 1) := by decide +kernel
theorem dR_places_21 : decode mR_places.2.1 21 = .ok (.goto 18, 3) := by decide +kernel
theorem dR_places_24 : decode mR_places.2.1 24 = .ok (.iload_n 1, 1) := by decide +kernel
theorem dR_places_25 : decode mR_places.2.1 25 = .ok (.aload_n 0, 1) := by decide +kernel
theorem dR_places_26 : decode mR_places.2.1 26 = .ok (.iload_n 2, 1) := by decide +kernel
theorem dR_places_27 : decode mR_places.2.1 27 = .ok (.invokevirtual 124, 3) := by decide +kernel
theorem dR_places_30 : decode mR_places.2.1 30 = .ok (.isub, 1) := by decide +kernel
theorem dR_places_31 : decode mR_places.2.1 31 = .ok (.aload_n 0, 1) := by decide +kernel
theorem dR_places_32 : decode mR_places.2.1 32 = .ok (.iload_n 2, 1) := by decide +kernel
theorem dR_places_33 : decode mR_places.2.1 33 = .ok (.invokevirtual 121, 3) := by decide +kernel
theorem dR_places_36 : decode mR_places.2.1 36 = .ok (.idiv, 1) := by decide +kernel
theorem dR_places_37 : decode mR_places.2.1 37 = .ok (.iconst 1, 1) := by decide +kernel
theorem dR_places_38 : decode mR_places.2.1 38 = .ok (.iadd, 1) := by decide +kernel
theorem dR_places_39 : decode mR_places.2.1 39 = .ok (.ireturn, 1) := by decide +kernel
theorem dR_stride_0 : decode mR_stride.2.1 0 = .ok (.iconst 1, 1) := by decide +kernel
theorem dR_stride_1 : decode mR_stride.2.1 1 = .ok (.iload_n 1, 1) := by decide +kernel
theorem dR_stride_2 : decode mR_stride.2.1 2 = .ok (.iconst 3, 1) := by decide +kernel
theorem dR_stride_3 : decode mR_stride.2.1 3 = .ok (.idiv, 1) := by decide +kernel
theorem dR_stride_4 : decode mR_stride.2.1 4 = .ok (.iconst 2, 1) := by decide +kernel
theorem dR_stride_5 : decode mR_stride.2.1 5 = .ok (.irem, 1) := by decide +kernel
theorem dR_stride_6 : decode mR_stride.2.1 6 = .ok (.iadd, 1) := by decide +kernel
theorem dR_stride_7 : decode mR_stride.2.1 7 = .ok (.ireturn, 1) := by decide +kernel
theorem dR_dense_0 : decode mR_dense.2.1 0 = .ok (.aload_n 0, 1) := by decide +kernel
theorem dR_dense_1 : decode mR_dense.2.1 1 = .ok (.iconst 0, 1) := by decide +kernel
theorem dR_dense_2 : decode mR_dense.2.1 2 = .ok (.putfield 85, 3) := by decide +kernel
theorem dR_dense_5 : decode mR_dense.2.1 5 = .ok (.aload_n 0, 1) := by decide +kernel
theorem dR_dense_6 : decode mR_dense.2.1 6 = .ok (.iload_n 1, 1) := by decide +kernel
theorem dR_dense_7 : decode mR_dense.2.1 7 = .ok (.aload_n 0, 1) := by decide +kernel
theorem dR_dense_8 : decode mR_dense.2.1 8 = .ok (.getfield 106, 3) := by decide +kernel
theorem dR_dense_11 : decode mR_dense.2.1 11 = .ok (.invokevirtual 94, 3) := by decide +kernel
theorem dR_dense_14 : decode mR_dense.2.1 14 = .ok (.ifCond .ne 24, 3) := by decide +kernel
theorem dR_dense_17 : decode mR_dense.2.1 17 = .ok (.aload_n 0, 1) := by decide +kernel
theorem dR_dense_18 : decode mR_dense.2.1 18 = .ok (.dload 4, 2) := by decide +kernel
theorem dR_dense_20 : decode mR_dense.2.1 20 = .ok (.invokevirtual 102, 3) := by decide +kernel
theorem dR_dense_23 : decode mR_dense.2.1 23 = .ok (.ifCond .ne 15, 3) := by decide +kernel
theorem dR_dense_26 : decode mR_dense.2.1 26 = .ok (.aload_n 0, 1) := by decide +kernel
theorem dR_dense_27 : decode mR_dense.2.1 27 = .ok (.iload_n 2, 1) := by decide +kernel
theorem dR_dense_28 : decode mR_dense.2.1 28 = .ok (.iconst 1, 1) := by decide +kernel
theorem dR_dense_29 : decode mR_dense.2.1 29 = .ok (.isub, 1) := by decide +kernel
theorem dR_dense_30 : decode mR_dense.2.1 30 = .ok (.bipush 8, 2) := by decide +kernel
theorem dR_dense_32 : decode mR_dense.2.1 32 = .ok (.invokevirtual 94, 3) := by decide +kernel
theorem dR_dense_35 : decode mR_dense.2.1 35 = .ok (.ifCond .eq 9, 3) := by decide +kernel
theorem dR_dense_38 : decode mR_dense.2.1 38 = .ok (.aload_n 0, 1) := by decide +kernel
theorem dR_dense_39 : decode mR_dense.2.1 39 = .ok (.iconst 1, 1) := by decide +kernel
theorem dR_dense_40 : decode mR_dense.2.1 40 = .ok (.invokevirtual 98, 3) := by decide +kernel
theorem dR_dense_43 : decode mR_dense.2.1 43 = .ok (.ireturn, 1) := by decide +kernel
theorem dR_dense_44 : decode mR_dense.2.1 44 = .ok (.iload_n 3, 1) := by decide +kernel
theorem dR_dense_45 : decode mR_dense.2.1 45 = .ok (.ifCond .lt 20, 3) := by decide +kernel
theorem dR_dense_48 : decode mR_dense.2.1 48 = .ok (.iload_n 3, 1) := by decide +kernel
theorem dR_dense_49 : decode mR_dense.2.1 49 = .ok (.sipush 512, 3) := by decide +kernel
theorem dR_dense_52 : decode mR_dense.2.1 52 = .ok (.iload_n 2, 1) := by decide +kernel
theorem dR_dense_53 : decode mR_dense.2.1 53 = .ok (.aload_n 0, 1) := by decide +kernel
theorem dR_dense_54 : decode mR_dense.2.1 54 = .ok (.iload_n 1, 1) := by decide +kernel
theorem dR_dense_55 : decode mR_dense.2.1 55 = .ok (.invokevirtual 137, 3) := by decide +kernel
theorem dR_dense_58 : decode mR_dense.2.1 58 = .ok (.imul, 1) := by decide +kernel
theorem dR_dense_59 : decode mR_dense.2.1 59 = .ok (.isub, 1) := by decide +kernel
theorem dR_dense_60 : decode mR_dense.2.1 60 = .ok (.iload_n 2, 1) := by decide +kernel
theorem dR_dense_61 : decode mR_dense.2.1 61 = .ok (.isub, 1) := by decide +kernel
theorem dR_dense_62 : decode mR_dense.2.1 62 = .ok (.if_icmp .le 9, 3) := by decide +kernel
theorem dR_dense_65 : decode mR_dense.2.1 65 = .ok (.aload_n 0, 1) := by decide +kernel
theorem dR_dense_66 : decode mR_dense.2.1 66 = .ok (.iconst 1, 1) := by decide +kernel
theorem dR_dense_67 : decode mR_dense.2.1 67 = .ok (.invokevirtual 98, 3) := by decide +kernel
theorem dR_dense_70 : decode mR_dense.2.1 70 = .ok (.ireturn, 1) := by decide +kernel
theorem dR_dense_71 : decode mR_dense.2.1 71 = .ok (.aload_n 0, 1) := by decide +kernel
theorem dR_dense_72 : decode mR_dense.2.1 72 = .ok (.aload_n 0, 1) := by decide +kernel
theorem dR_dense_73 : decode mR_dense.2.1 73 = .ok (.getfield 35, 3) := by decide +kernel
theorem dR_dense_76 : decode mR_dense.2.1 76 = .ok (.iload_n 1, 1) := by decide +kernel
theorem dR_dense_77 : decode mR_dense.2.1 77 = .ok (.daload, 1) := by decide +kernel
theorem dR_dense_78 : decode mR_dense.2.1 78 = .ok (.aload_n 0, 1) := by decide +kernel
theorem dR_dense_79 : decode mR_dense.2.1 79 = .ok (.getfield 13, 3) := by decide +kernel
theorem dR_dense_82 : decode mR_dense.2.1 82 = .ok (.dmul, 1) := by decide +kernel
theorem dR_dense_83 : decode mR_dense.2.1 83 = .ok (.dload 4, 2) := by decide +kernel
theorem dR_dense_85 : decode mR_dense.2.1 85 = .ok (.ddiv, 1) := by decide +kernel
theorem dR_dense_86 : decode mR_dense.2.1 86 = .ok (.invokevirtual 134, 3) := by decide +kernel
theorem dR_dense_89 : decode mR_dense.2.1 89 = .ok (.ifCond .eq 9, 3) := by decide +kernel
theorem dR_dense_92 : decode mR_dense.2.1 92 = .ok (.aload_n 0, 1) := by decide +kernel
theorem dR_dense_93 : decode mR_dense.2.1 93 = .ok (.iconst 2, 1) := by decide +kernel
theorem dR_dense_94 : decode mR_dense.2.1 94 = .ok (.invokevirtual 98, 3) := by decide +kernel
theorem dR_dense_97 : decode mR_dense.2.1 97 = .ok (.ireturn, 1) := by decide +kernel
theorem dR_dense_98 : decode mR_dense.2.1 98 = .ok (.aload_n 0, 1) := by decide +kernel
theorem dR_dense_99 : decode mR_dense.2.1 99 = .ok (.getfield 106, 3) := by decide +kernel
theorem dR_dense_102 : decode mR_dense.2.1 102 = .ok (.bipush 14, 2) := by decide +kernel
theorem dR_dense_104 : decode mR_dense.2.1 104 = .ok (.if_icmp .ne 9, 3) := by decide +kernel
theorem dR_dense_107 : decode mR_dense.2.1 107 = .ok (.aload_n 0, 1) := by decide +kernel
theorem dR_dense_108 : decode mR_dense.2.1 108 = .ok (.iconst 3, 1) := by decide +kernel
theorem dR_dense_109 : decode mR_dense.2.1 109 = .ok (.invokevirtual 98, 3) := by decide +kernel
theorem dR_dense_112 : decode mR_dense.2.1 112 = .ok (.ireturn, 1) := by decide +kernel
theorem dR_dense_113 : decode mR_dense.2.1 113 = .ok (.aload_n 0, 1) := by decide +kernel
theorem dR_dense_114 : decode mR_dense.2.1 114 = .ok (.iconst 3, 1) := by decide +kernel
theorem dR_dense_115 : decode mR_dense.2.1 115 = .ok (.iload_n 1, 1) := by decide +kernel
theorem dR_dense_116 : decode mR_dense.2.1 116 = .ok (.iconst (-1), 1) := by decide +kernel
theorem dR_dense_117 : decode mR_dense.2.1 117 = .ok (.iconst 1, 1) := by decide +kernel
theorem dR_dense_118 : decode mR_dense.2.1 118 = .ok (.iconst 1, 1) := by decide +kernel
theorem dR_dense_119 : decode mR_dense.2.1 119 = .ok (.iload_n 2, 1) := by decide +kernel
theorem dR_dense_120 : decode mR_dense.2.1 120 = .ok (.dload 4, 2) := by decide +kernel
theorem dR_dense_122 : decode mR_dense.2.1 122 = .ok (.invokevirtual 113, 3) := by decide +kernel
theorem dR_dense_125 : decode mR_dense.2.1 125 = .ok (.pop, 1) := by decide +kernel
theorem dR_dense_126 : decode mR_dense.2.1 126 = .ok (.aload_n 0, 1) := by decide +kernel
theorem dR_dense_127 : decode mR_dense.2.1 127 = .ok (.iconst 0, 1) := by decide +kernel
theorem dR_dense_128 : decode mR_dense.2.1 128 = .ok (.iload_n 3, 1) := by decide +kernel
theorem dR_dense_129 : decode mR_dense.2.1 129 = .ok (.iconst 0, 1) := by decide +kernel
theorem dR_dense_130 : decode mR_dense.2.1 130 = .ok (.iconst 0, 1) := by decide +kernel
theorem dR_dense_131 : decode mR_dense.2.1 131 = .ok (.invokevirtual 117, 3) := by decide +kernel
theorem dR_dense_134 : decode mR_dense.2.1 134 = .ok (.ireturn, 1) := by decide +kernel
theorem dR_cells_0 : decode mR_cells.2.1 0 = .ok (.aload_n 0, 1) := by decide +kernel
theorem dR_cells_1 : decode mR_cells.2.1 1 = .ok (.getfield 26, 3) := by decide +kernel
theorem dR_cells_4 : decode mR_cells.2.1 4 = .ok (.iload_n 1, 1) := by decide +kernel
theorem dR_cells_5 : decode mR_cells.2.1 5 = .ok (.iaload, 1) := by decide +kernel
theorem dR_cells_6 : decode mR_cells.2.1 6 = .ok (.aload_n 0, 1) := by decide +kernel
theorem dR_cells_7 : decode mR_cells.2.1 7 = .ok (.getfield 29, 3) := by decide +kernel
theorem dR_cells_10 : decode mR_cells.2.1 10 = .ok (.iload_n 1, 1) := by decide +kernel
theorem dR_cells_11 : decode mR_cells.2.1 11 = .ok (.iaload, 1) := by decide +kernel
theorem dR_cells_12 : decode mR_cells.2.1 12 = .ok (.imul, 1) := by decide +kernel
theorem dR_cells_13 : decode mR_cells.2.1 13 = .ok (.aload_n 0, 1) := by decide +kernel
theorem dR_cells_14 : decode mR_cells.2.1 14 = .ok (.getfield 32, 3) := by decide +kernel
theorem dR_cells_17 : decode mR_cells.2.1 17 = .ok (.iload_n 1, 1) := by decide +kernel
theorem dR_cells_18 : decode mR_cells.2.1 18 = .ok (.iaload, 1) := by decide +kernel
theorem dR_cells_19 : decode mR_cells.2.1 19 = .ok (.imul, 1) := by decide +kernel
theorem dR_cells_20 : decode mR_cells.2.1 20 = .ok (.ireturn, 1) := by decide +kernel
theorem dR_add_0 : decode mR_add.2.1 0 = .ok (.aload_n 0, 1) := by decide +kernel
theorem dR_add_1 : decode mR_add.2.1 1 = .ok (.iconst 0, 1) := by decide +kernel
theorem dR_add_2 : decode mR_add.2.1 2 = .ok (.putfield 85, 3) := by decide +kernel
theorem dR_add_5 : decode mR_add.2.1 5 = .ok (.aload_n 0, 1) := by decide +kernel
theorem dR_add_6 : decode mR_add.2.1 6 = .ok (.iload_n 1, 1) := by decide +kernel
theorem dR_add_7 : decode mR_add.2.1 7 = .ok (.aload_n 0, 1) := by decide +kernel
theorem dR_add_8 : decode mR_add.2.1 8 = .ok (.getfield 106, 3) := by decide +kernel
theorem dR_add_11 : decode mR_add.2.1 11 = .ok (.invokevirtual 94, 3) := by decide +kernel
theorem dR_add_14 : decode mR_add.2.1 14 = .ok (.ifCond .ne 23, 3) := by decide +kernel
theorem dR_add_17 : decode mR_add.2.1 17 = .ok (.aload_n 0, 1) := by decide +kernel
theorem dR_add_18 : decode mR_add.2.1 18 = .ok (.iload_n 2, 1) := by decide +kernel
theorem dR_add_19 : decode mR_add.2.1 19 = .ok (.aload_n 0, 1) := by decide +kernel
theorem dR_add_20 : decode mR_add.2.1 20 = .ok (.getfield 106, 3) := by decide +kernel
theorem dR_add_23 : decode mR_add.2.1 23 = .ok (.invokevirtual 94, 3) := by decide +kernel
theorem dR_add_26 : decode mR_add.2.1 26 = .ok (.ifCond .ne 11, 3) := by decide +kernel
theorem dR_add_29 : decode mR_add.2.1 29 = .ok (.aload_n 0, 1) := by decide +kernel
theorem dR_add_30 : decode mR_add.2.1 30 = .ok (.dload_n 3, 1) := by decide +kernel
theorem dR_add_31 : decode mR_add.2.1 31 = .ok (.invokevirtual 102, 3) := by decide +kernel
theorem dR_add_34 : decode mR_add.2.1 34 = .ok (.ifCond .eq 9, 3) := by decide +kernel
theorem dR_add_37 : decode mR_add.2.1 37 = .ok (.aload_n 0, 1) := by decide +kernel
theorem dR_add_38 : decode mR_add.2.1 38 = .ok (.iconst 1, 1) := by decide +kernel
theorem dR_add_39 : decode mR_add.2.1 39 = .ok (.invokevirtual 98, 3) := by decide +kernel
theorem dR_add_42 : decode mR_add.2.1 42 = .ok (.ireturn, 1) := by decide +kernel
theorem dR_add_43 : decode mR_add.2.1 43 = .ok (.aload_n 0, 1) := by decide +kernel
theorem dR_add_44 : decode mR_add.2.1 44 = .ok (.iload_n 1, 1) := by decide +kernel
theorem dR_add_45 : decode mR_add.2.1 45 = .ok (.iload_n 2, 1) := by decide +kernel
theorem dR_add_46 : decode mR_add.2.1 46 = .ok (.invokevirtual 140, 3) := by decide +kernel
theorem dR_add_49 : decode mR_add.2.1 49 = .ok (.ifCond .eq 18, 3) := by decide +kernel
theorem dR_add_52 : decode mR_add.2.1 52 = .ok (.aload_n 0, 1) := by decide +kernel
theorem dR_add_53 : decode mR_add.2.1 53 = .ok (.getfield 32, 3) := by decide +kernel
theorem dR_add_56 : decode mR_add.2.1 56 = .ok (.iload_n 1, 1) := by decide +kernel
theorem dR_add_57 : decode mR_add.2.1 57 = .ok (.iaload, 1) := by decide +kernel
theorem dR_add_58 : decode mR_add.2.1 58 = .ok (.aload_n 0, 1) := by decide +kernel
theorem dR_add_59 : decode mR_add.2.1 59 = .ok (.getfield 32, 3) := by decide +kernel
theorem dR_add_62 : decode mR_add.2.1 62 = .ok (.iload_n 2, 1) := by decide +kernel
theorem dR_add_63 : decode mR_add.2.1 63 = .ok (.iaload, 1) := by decide +kernel
theorem dR_add_64 : decode mR_add.2.1 64 = .ok (.if_icmp .eq 9, 3) := by decide +kernel
theorem dR_add_67 : decode mR_add.2.1 67 = .ok (.aload_n 0, 1) := by decide +kernel
theorem dR_add_68 : decode mR_add.2.1 68 = .ok (.iconst 1, 1) := by decide +kernel
theorem dR_add_69 : decode mR_add.2.1 69 = .ok (.invokevirtual 98, 3) := by decide +kernel
theorem dR_add_72 : decode mR_add.2.1 72 = .ok (.ireturn, 1) := by decide +kernel
theorem dR_add_73 : decode mR_add.2.1 73 = .ok (.aload_n 0, 1) := by decide +kernel
theorem dR_add_74 : decode mR_add.2.1 74 = .ok (.aload_n 0, 1) := by decide +kernel
theorem dR_add_75 : decode mR_add.2.1 75 = .ok (.getfield 35, 3) := by decide +kernel
theorem dR_add_78 : decode mR_add.2.1 78 = .ok (.iload_n 1, 1) := by decide +kernel
theorem dR_add_79 : decode mR_add.2.1 79 = .ok (.daload, 1) := by decide +kernel
theorem dR_add_80 : decode mR_add.2.1 80 = .ok (.dload_n 3, 1) := by decide +kernel
theorem dR_add_81 : decode mR_add.2.1 81 = .ok (.ddiv, 1) := by decide +kernel
theorem dR_add_82 : decode mR_add.2.1 82 = .ok (.invokevirtual 134, 3) := by decide +kernel
theorem dR_add_85 : decode mR_add.2.1 85 = .ok (.ifCond .ne 18, 3) := by decide +kernel
theorem dR_add_88 : decode mR_add.2.1 88 = .ok (.aload_n 0, 1) := by decide +kernel
theorem dR_add_89 : decode mR_add.2.1 89 = .ok (.aload_n 0, 1) := by decide +kernel
theorem dR_add_90 : decode mR_add.2.1 90 = .ok (.getfield 35, 3) := by decide +kernel
theorem dR_add_93 : decode mR_add.2.1 93 = .ok (.iload_n 2, 1) := by decide +kernel
theorem dR_add_94 : decode mR_add.2.1 94 = .ok (.daload, 1) := by decide +kernel
theorem dR_add_95 : decode mR_add.2.1 95 = .ok (.dload_n 3, 1) := by decide +kernel
theorem dR_add_96 : decode mR_add.2.1 96 = .ok (.ddiv, 1) := by decide +kernel
theorem dR_add_97 : decode mR_add.2.1 97 = .ok (.invokevirtual 134, 3) := by decide +kernel
theorem dR_add_100 : decode mR_add.2.1 100 = .ok (.ifCond .eq 9, 3) := by decide +kernel
theorem dR_add_103 : decode mR_add.2.1 103 = .ok (.aload_n 0, 1) := by decide +kernel
theorem dR_add_104 : decode mR_add.2.1 104 = .ok (.iconst 2, 1) := by decide +kernel
theorem dR_add_105 : decode mR_add.2.1 105 = .ok (.invokevirtual 98, 3) := by decide +kernel
theorem dR_add_108 : decode mR_add.2.1 108 = .ok (.ireturn, 1) := by decide +kernel
theorem dR_add_109 : decode mR_add.2.1 109 = .ok (.aload_n 0, 1) := by decide +kernel
theorem dR_add_110 : decode mR_add.2.1 110 = .ok (.getfield 106, 3) := by decide +kernel
theorem dR_add_113 : decode mR_add.2.1 113 = .ok (.bipush 14, 2) := by decide +kernel
theorem dR_add_115 : decode mR_add.2.1 115 = .ok (.if_icmp .ne 9, 3) := by decide +kernel
theorem dR_add_118 : decode mR_add.2.1 118 = .ok (.aload_n 0, 1) := by decide +kernel
theorem dR_add_119 : decode mR_add.2.1 119 = .ok (.iconst 3, 1) := by decide +kernel
theorem dR_add_120 : decode mR_add.2.1 120 = .ok (.invokevirtual 98, 3) := by decide +kernel
theorem dR_add_123 : decode mR_add.2.1 123 = .ok (.ireturn, 1) := by decide +kernel
theorem dR_add_124 : decode mR_add.2.1 124 = .ok (.aload_n 0, 1) := by decide +kernel
theorem dR_add_125 : decode mR_add.2.1 125 = .ok (.iconst 4, 1) := by decide +kernel
theorem dR_add_126 : decode mR_add.2.1 126 = .ok (.iload_n 1, 1) := by decide +kernel
theorem dR_add_127 : decode mR_add.2.1 127 = .ok (.iload_n 2, 1) := by decide +kernel
theorem dR_add_128 : decode mR_add.2.1 128 = .ok (.aload_n 0, 1) := by decide +kernel
theorem dR_add_129 : decode mR_add.2.1 129 = .ok (.getfield 26, 3) := by decide +kernel
theorem dR_add_132 : decode mR_add.2.1 132 = .ok (.iload_n 1, 1) := by decide +kernel
theorem dR_add_133 : decode mR_add.2.1 133 = .ok (.iaload, 1) := by decide +kernel
theorem dR_add_134 : decode mR_add.2.1 134 = .ok (.aload_n 0, 1) := by decide +kernel
theorem dR_add_135 : decode mR_add.2.1 135 = .ok (.getfield 29, 3) := by decide +kernel
theorem dR_add_138 : decode mR_add.2.1 138 = .ok (.iload_n 1, 1) := by decide +kernel
theorem dR_add_139 : decode mR_add.2.1 139 = .ok (.iaload, 1) := by decide +kernel
theorem dR_add_140 : decode mR_add.2.1 140 = .ok (.aload_n 0, 1) := by decide +kernel
theorem dR_add_141 : decode mR_add.2.1 141 = .ok (.getfield 32, 3) := by decide +kernel
theorem dR_add_144 : decode mR_add.2.1 144 = .ok (.iload_n 1, 1) := by decide +kernel
theorem dR_add_145 : decode mR_add.2.1 145 = .ok (.iaload, 1) := by decide +kernel
theorem dR_add_146 : decode mR_add.2.1 146 = .ok (.dload_n 3, 1) := by decide +kernel
theorem dR_add_147 : decode mR_add.2.1 147 = .ok (.invokevirtual 113, 3) := by decide +kernel
theorem dR_add_150 : decode mR_add.2.1 150 = .ok (.pop, 1) := by decide +kernel
theorem dR_add_151 : decode mR_add.2.1 151 = .ok (.aload_n 0, 1) := by decide +kernel
theorem dR_add_152 : decode mR_add.2.1 152 = .ok (.iconst 0, 1) := by decide +kernel
theorem dR_add_153 : decode mR_add.2.1 153 = .ok (.iconst 0, 1) := by decide +kernel
theorem dR_add_154 : decode mR_add.2.1 154 = .ok (.iconst 0, 1) := by decide +kernel
theorem dR_add_155 : decode mR_add.2.1 155 = .ok (.iconst 0, 1) := by decide +kernel
theorem dR_add_156 : decode mR_add.2.1 156 = .ok (.invokevirtual 117, 3) := by decide +kernel
theorem dR_add_159 : decode mR_add.2.1 159 = .ok (.ireturn, 1) := by decide +kernel
theorem dR_sameSize_0 : decode mR_sameSize.2.1 0 = .ok (.aload_n 0, 1) := by decide +kernel
theorem dR_sameSize_1 : decode mR_sameSize.2.1 1 = .ok (.getfield 26, 3) := by decide +kernel
theorem dR_sameSize_4 : decode mR_sameSize.2.1 4 = .ok (.iload_n 1, 1) := by decide +kernel
theorem dR_sameSize_5 : decode mR_sameSize.2.1 5 = .ok (.iaload, 1) := by decide +kernel
theorem dR_sameSize_6 : decode mR_sameSize.2.1 6 = .ok (.aload_n 0, 1) := by decide +kernel
theorem dR_sameSize_7 : decode mR_sameSize.2.1 7 = .ok (.getfield 26, 3) := by decide +kernel
theorem dR_sameSize_10 : decode mR_sameSize.2.1 10 = .ok (.iload_n 2, 1) := by decide +kernel
theorem dR_sameSize_11 : decode mR_sameSize.2.1 11 = .ok (.iaload, 1) := by decide +kernel
theorem dR_sameSize_12 : decode mR_sameSize.2.1 12 = .ok (.if_icmp .ne 22, 3) := by decide +kernel
theorem dR_sameSize_15 : decode mR_sameSize.2.1 15 = .ok (.aload_n 0, 1) := by decide +kernel
theorem dR_sameSize_16 : decode mR_sameSize.2.1 16 = .ok (.getfield 29, 3) := by decide +kernel
theorem dR_sameSize_19 : decode mR_sameSize.2.1 19 = .ok (.iload_n 1, 1) := by decide +kernel
theorem dR_sameSize_20 : decode mR_sameSize.2.1 20 = .ok (.iaload, 1) := by decide +kernel
theorem dR_sameSize_21 : decode mR_sameSize.2.1 21 = .ok (.aload_n 0, 1) := by decide +kernel
theorem dR_sameSize_22 : decode mR_sameSize.2.1 22 = .ok (.getfield 29, 3) := by decide +kernel
theorem dR_sameSize_25 : decode mR_sameSize.2.1 25 = .ok (.iload_n 2, 1) := by decide +kernel
theorem dR_sameSize_26 : decode mR_sameSize.2.1 26 = .ok (.iaload, 1) := by decide +kernel
theorem dR_sameSize_27 : decode mR_sameSize.2.1 27 = .ok (.if_icmp .ne 7, 3) := by decide +kernel
theorem dR_sameSize_30 : decode mR_sameSize.2.1 30 = .ok (.iconst 1, 1) := by decide +kernel
theorem dR_sameSize_31 : decode mR_sameSize.2.1 31 = .ok (.goto 4, 3) := by decide +kernel
theorem dR_sameSize_34 : decode mR_sameSize.2.1 34 = .ok (.iconst 0, 1) := by decide +kernel
theorem dR_sameSize_35 : decode mR_sameSize.2.1 35 = .ok (.ireturn, 1) := by decide +kernel
theorem dR_concat_0 : decode mR_concat.2.1 0 = .ok (.aload_n 0, 1) := by decide +kernel
theorem dR_concat_1 : decode mR_concat.2.1 1 = .ok (.iconst 0, 1) := by decide +kernel
theorem dR_concat_2 : decode mR_concat.2.1 2 = .ok (.putfield 85, 3) := by decide +kernel
theorem dR_concat_5 : decode mR_concat.2.1 5 = .ok (.aload_n 0, 1) := by decide +kernel
theorem dR_concat_6 : decode mR_concat.2.1 6 = .ok (.iload_n 1, 1) := by decide +kernel
theorem dR_concat_7 : decode mR_concat.2.1 7 = .ok (.aload_n 0, 1) := by decide +kernel
theorem dR_concat_8 : decode mR_concat.2.1 8 = .ok (.getfield 106, 3) := by decide +kernel
theorem dR_concat_11 : decode mR_concat.2.1 11 = .ok (.invokevirtual 94, 3) := by decide +kernel
theorem dR_concat_14 : decode mR_concat.2.1 14 = .ok (.ifCond .ne 15, 3) := by decide +kernel
theorem dR_concat_17 : decode mR_concat.2.1 17 = .ok (.aload_n 0, 1) := by decide +kernel
theorem dR_concat_18 : decode mR_concat.2.1 18 = .ok (.iload_n 2, 1) := by decide +kernel
theorem dR_concat_19 : decode mR_concat.2.1 19 = .ok (.aload_n 0, 1) := by decide +kernel
theorem dR_concat_20 : decode mR_concat.2.1 20 = .ok (.getfield 106, 3) := by decide +kernel
theorem dR_concat_23 : decode mR_concat.2.1 23 = .ok (.invokevirtual 94, 3) := by decide +kernel
theorem dR_concat_26 : decode mR_concat.2.1 26 = .ok (.ifCond .eq 9, 3) := by decide +kernel
theorem dR_concat_29 : decode mR_concat.2.1 29 = .ok (.aload_n 0, 1) := by decide +kernel
theorem dR_concat_30 : decode mR_concat.2.1 30 = .ok (.iconst 1, 1) := by decide +kernel
theorem dR_concat_31 : decode mR_concat.2.1 31 = .ok (.invokevirtual 98, 3) := by decide +kernel
theorem dR_concat_34 : decode mR_concat.2.1 34 = .ok (.ireturn, 1) := by decide +kernel
theorem dR_concat_35 : decode mR_concat.2.1 35 = .ok (.aload_n 0, 1) := by decide +kernel
theorem dR_concat_36 : decode mR_concat.2.1 36 = .ok (.iload_n 1, 1) := by decide +kernel
theorem dR_concat_37 : decode mR_concat.2.1 37 = .ok (.iload_n 2, 1) := by decide +kernel
theorem dR_concat_38 : decode mR_concat.2.1 38 = .ok (.invokevirtual 140, 3) := by decide +kernel
theorem dR_concat_41 : decode mR_concat.2.1 41 = .ok (.ifCond .eq 37, 3) := by decide +kernel
theorem dR_concat_44 : decode mR_concat.2.1 44 = .ok (.aload_n 0, 1) := by decide +kernel
theorem dR_concat_45 : decode mR_concat.2.1 45 = .ok (.getfield 35, 3) := by decide +kernel
theorem dR_concat_48 : decode mR_concat.2.1 48 = .ok (.iload_n 1, 1) := by decide +kernel
theorem dR_concat_49 : decode mR_concat.2.1 49 = .ok (.daload, 1) := by decide +kernel
theorem dR_concat_50 : decode mR_concat.2.1 50 = .ok (.aload_n 0, 1) := by decide +kernel
theorem dR_concat_51 : decode mR_concat.2.1 51 = .ok (.getfield 35, 3) := by decide +kernel
theorem dR_concat_54 : decode mR_concat.2.1 54 = .ok (.iload_n 2, 1) := by decide +kernel
theorem dR_concat_55 : decode mR_concat.2.1 55 = .ok (.daload, 1) := by decide +kernel
theorem dR_concat_56 : decode mR_concat.2.1 56 = .ok (.dcmp .l, 1) := by decide +kernel
theorem dR_concat_57 : decode mR_concat.2.1 57 = .ok (.ifCond .ne 21, 3) := by decide +kernel
theorem dR_concat_60 : decode mR_concat.2.1 60 = .ok (.aload_n 0, 1) := by decide +kernel
theorem dR_concat_61 : decode mR_concat.2.1 61 = .ok (.getfield 32, 3) := by decide +kernel
theorem dR_concat_64 : decode mR_concat.2.1 64 = .ok (.iload_n 1, 1) := by decide +kernel
theorem dR_concat_65 : decode mR_concat.2.1 65 = .ok (.iaload, 1) := by decide +kernel
theorem dR_concat_66 : decode mR_concat.2.1 66 = .ok (.aload_n 0, 1) := by decide +kernel
theorem dR_concat_67 : decode mR_concat.2.1 67 = .ok (.getfield 32, 3) := by decide +kernel
theorem dR_concat_70 : decode mR_concat.2.1 70 = .ok (.iload_n 2, 1) := by decide +kernel
theorem dR_concat_71 : decode mR_concat.2.1 71 = .ok (.iaload, 1) := by decide +kernel
theorem dR_concat_72 : decode mR_concat.2.1 72 = .ok (.iadd, 1) := by decide +kernel
theorem dR_concat_73 : decode mR_concat.2.1 73 = .ok (.bipush 8, 2) := by decide +kernel
theorem dR_concat_75 : decode mR_concat.2.1 75 = .ok (.if_icmp .le 9, 3) := by decide +kernel
theorem dR_concat_78 : decode mR_concat.2.1 78 = .ok (.aload_n 0, 1) := by decide +kernel
theorem dR_concat_79 : decode mR_concat.2.1 79 = .ok (.iconst 1, 1) := by decide +kernel
theorem dR_concat_80 : decode mR_concat.2.1 80 = .ok (.invokevirtual 98, 3) := by decide +kernel
theorem dR_concat_83 : decode mR_concat.2.1 83 = .ok (.ireturn, 1) := by decide +kernel
theorem dR_concat_84 : decode mR_concat.2.1 84 = .ok (.aload_n 0, 1) := by decide +kernel
theorem dR_concat_85 : decode mR_concat.2.1 85 = .ok (.getfield 106, 3) := by decide +kernel
theorem dR_concat_88 : decode mR_concat.2.1 88 = .ok (.bipush 14, 2) := by decide +kernel
theorem dR_concat_90 : decode mR_concat.2.1 90 = .ok (.if_icmp .ne 9, 3) := by decide +kernel
theorem dR_concat_93 : decode mR_concat.2.1 93 = .ok (.aload_n 0, 1) := by decide +kernel
theorem dR_concat_94 : decode mR_concat.2.1 94 = .ok (.iconst 2, 1) := by decide +kernel
theorem dR_concat_95 : decode mR_concat.2.1 95 = .ok (.invokevirtual 98, 3) := by decide +kernel
theorem dR_concat_98 : decode mR_concat.2.1 98 = .ok (.ireturn, 1) := by decide +kernel
theorem dR_concat_99 : decode mR_concat.2.1 99 = .ok (.aload_n 0, 1) := by decide +kernel
theorem dR_concat_100 : decode mR_concat.2.1 100 = .ok (.iconst 5, 1) := by decide +kernel
theorem dR_concat_101 : decode mR_concat.2.1 101 = .ok (.iload_n 1, 1) := by decide +kernel
theorem dR_concat_102 : decode mR_concat.2.1 102 = .ok (.iload_n 2, 1) := by decide +kernel
theorem dR_concat_103 : decode mR_concat.2.1 103 = .ok (.aload_n 0, 1) := by decide +kernel
theorem dR_concat_104 : decode mR_concat.2.1 104 = .ok (.getfield 26, 3) := by decide +kernel
theorem dR_concat_107 : decode mR_concat.2.1 107 = .ok (.iload_n 1, 1) := by decide +kernel
theorem dR_concat_108 : decode mR_concat.2.1 108 = .ok (.iaload, 1) := by decide +kernel
theorem dR_concat_109 : decode mR_concat.2.1 109 = .ok (.aload_n 0, 1) := by decide +kernel
theorem dR_concat_110 : decode mR_concat.2.1 110 = .ok (.getfield 29, 3) := by decide +kernel
theorem dR_concat_113 : decode mR_concat.2.1 113 = .ok (.iload_n 1, 1) := by decide +kernel
theorem dR_concat_114 : decode mR_concat.2.1 114 = .ok (.iaload, 1) := by decide +kernel
theorem dR_concat_115 : decode mR_concat.2.1 115 = .ok (.aload_n 0, 1) := by decide +kernel
theorem dR_concat_116 : decode mR_concat.2.1 116 = .ok (.getfield 32, 3) := by decide +kernel
theorem dR_concat_119 : decode mR_concat.2.1 119 = .ok (.iload_n 1, 1) := by decide +kernel
theorem dR_concat_120 : decode mR_concat.2.1 120 = .ok (.iaload, 1) := by decide +kernel
theorem dR_concat_121 : decode mR_concat.2.1 121 = .ok (.aload_n 0, 1) := by decide +kernel
theorem dR_concat_122 : decode mR_concat.2.1 122 = .ok (.getfield 32, 3) := by decide +kernel
theorem dR_concat_125 : decode mR_concat.2.1 125 = .ok (.iload_n 2, 1) := by decide +kernel
theorem dR_concat_126 : decode mR_concat.2.1 126 = .ok (.iaload, 1) := by decide +kernel
theorem dR_concat_127 : decode mR_concat.2.1 127 = .ok (.iadd, 1) := by decide +kernel
theorem dR_concat_128 : decode mR_concat.2.1 128 = .ok (.aload_n 0, 1) := by decide +kernel
theorem dR_concat_129 : decode mR_concat.2.1 129 = .ok (.getfield 35, 3) := by decide +kernel
theorem dR_concat_132 : decode mR_concat.2.1 132 = .ok (.iload_n 1, 1) := by decide +kernel
theorem dR_concat_133 : decode mR_concat.2.1 133 = .ok (.daload, 1) := by decide +kernel
theorem dR_concat_134 : decode mR_concat.2.1 134 = .ok (.invokevirtual 113, 3) := by decide +kernel
theorem dR_concat_137 : decode mR_concat.2.1 137 = .ok (.pop, 1) := by decide +kernel
theorem dR_concat_138 : decode mR_concat.2.1 138 = .ok (.aload_n 0, 1) := by decide +kernel
theorem dR_concat_139 : decode mR_concat.2.1 139 = .ok (.iconst 0, 1) := by decide +kernel
theorem dR_concat_140 : decode mR_concat.2.1 140 = .ok (.iconst 0, 1) := by decide +kernel
theorem dR_concat_141 : decode mR_concat.2.1 141 = .ok (.iconst 0, 1) := by decide +kernel
theorem dR_concat_142 : decode mR_concat.2.1 142 = .ok (.iconst 0, 1) := by decide +kernel
theorem dR_concat_143 : decode mR_concat.2.1 143 = .ok (.invokevirtual 117, 3) := by decide +kernel
theorem dR_concat_146 : decode mR_concat.2.1 146 = .ok (.ireturn, 1) := by decide +kernel
theorem dR_reshape_0 : decode mR_reshape.2.1 0 = .ok (.aload_n 0, 1) := by decide +kernel
theorem dR_reshape_1 : decode mR_reshape.2.1 1 = .ok (.iconst 0, 1) := by decide +kernel
theorem dR_reshape_2 : decode mR_reshape.2.1 2 = .ok (.putfield 85, 3) := by decide +kernel
theorem dR_reshape_5 : decode mR_reshape.2.1 5 = .ok (.aload_n 0, 1) := by decide +kernel
theorem dR_reshape_6 : decode mR_reshape.2.1 6 = .ok (.iload_n 1, 1) := by decide +kernel
theorem dR_reshape_7 : decode mR_reshape.2.1 7 = .ok (.aload_n 0, 1) := by decide +kernel
theorem dR_reshape_8 : decode mR_reshape.2.1 8 = .ok (.getfield 106, 3) := by decide +kernel
theorem dR_reshape_11 : decode mR_reshape.2.1 11 = .ok (.invokevirtual 94, 3) := by decide +kernel
theorem dR_reshape_14 : decode mR_reshape.2.1 14 = .ok (.ifCond .ne 52, 3) := by decide +kernel
theorem dR_reshape_17 : decode mR_reshape.2.1 17 = .ok (.aload_n 0, 1) := by decide +kernel
theorem dR_reshape_18 : decode mR_reshape.2.1 18 = .ok (.iload_n 2, 1) := by decide +kernel
theorem dR_reshape_19 : decode mR_reshape.2.1 19 = .ok (.iconst 1, 1) := by decide +kernel
theorem dR_reshape_20 : decode mR_reshape.2.1 20 = .ok (.isub, 1) := by decide +kernel
theorem dR_reshape_21 : decode mR_reshape.2.1 21 = .ok (.iconst 4, 1) := by decide +kernel
theorem dR_reshape_22 : decode mR_reshape.2.1 22 = .ok (.invokevirtual 94, 3) := by decide +kernel
theorem dR_reshape_25 : decode mR_reshape.2.1 25 = .ok (.ifCond .ne 41, 3) := by decide +kernel
theorem dR_reshape_28 : decode mR_reshape.2.1 28 = .ok (.aload_n 0, 1) := by decide +kernel
theorem dR_reshape_29 : decode mR_reshape.2.1 29 = .ok (.iload_n 3, 1) := by decide +kernel
theorem dR_reshape_30 : decode mR_reshape.2.1 30 = .ok (.iconst 1, 1) := by decide +kernel
theorem dR_reshape_31 : decode mR_reshape.2.1 31 = .ok (.isub, 1) := by decide +kernel
theorem dR_reshape_32 : decode mR_reshape.2.1 32 = .ok (.iconst 4, 1) := by decide +kernel
theorem dR_reshape_33 : decode mR_reshape.2.1 33 = .ok (.invokevirtual 94, 3) := by decide +kernel
theorem dR_reshape_36 : decode mR_reshape.2.1 36 = .ok (.ifCond .ne 30, 3) := by decide +kernel
theorem dR_reshape_39 : decode mR_reshape.2.1 39 = .ok (.aload_n 0, 1) := by decide +kernel
theorem dR_reshape_40 : decode mR_reshape.2.1 40 = .ok (.iload 4, 2) := by decide +kernel
theorem dR_reshape_42 : decode mR_reshape.2.1 42 = .ok (.iconst 1, 1) := by decide +kernel
theorem dR_reshape_43 : decode mR_reshape.2.1 43 = .ok (.isub, 1) := by decide +kernel
theorem dR_reshape_44 : decode mR_reshape.2.1 44 = .ok (.bipush 8, 2) := by decide +kernel
theorem dR_reshape_46 : decode mR_reshape.2.1 46 = .ok (.invokevirtual 94, 3) := by decide +kernel
theorem dR_reshape_49 : decode mR_reshape.2.1 49 = .ok (.ifCond .ne 17, 3) := by decide +kernel
theorem dR_reshape_52 : decode mR_reshape.2.1 52 = .ok (.iload_n 2, 1) := by decide +kernel
theorem dR_reshape_53 : decode mR_reshape.2.1 53 = .ok (.iload_n 3, 1) := by decide +kernel
theorem dR_reshape_54 : decode mR_reshape.2.1 54 = .ok (.imul, 1) := by decide +kernel
theorem dR_reshape_55 : decode mR_reshape.2.1 55 = .ok (.iload 4, 2) := by decide +kernel
theorem dR_reshape_57 : decode mR_reshape.2.1 57 = .ok (.imul, 1) := by decide +kernel
theorem dR_reshape_58 : decode mR_reshape.2.1 58 = .ok (.aload_n 0, 1) := by decide +kernel
theorem dR_reshape_59 : decode mR_reshape.2.1 59 = .ok (.iload_n 1, 1) := by decide +kernel
theorem dR_reshape_60 : decode mR_reshape.2.1 60 = .ok (.invokevirtual 137, 3) := by decide +kernel
theorem dR_reshape_63 : decode mR_reshape.2.1 63 = .ok (.if_icmp .eq 9, 3) := by decide +kernel
theorem dR_reshape_66 : decode mR_reshape.2.1 66 = .ok (.aload_n 0, 1) := by decide +kernel
theorem dR_reshape_67 : decode mR_reshape.2.1 67 = .ok (.iconst 1, 1) := by decide +kernel
theorem dR_reshape_68 : decode mR_reshape.2.1 68 = .ok (.invokevirtual 98, 3) := by decide +kernel
theorem dR_reshape_71 : decode mR_reshape.2.1 71 = .ok (.ireturn, 1) := by decide +kernel
theorem dR_reshape_72 : decode mR_reshape.2.1 72 = .ok (.aload_n 0, 1) := by decide +kernel
theorem dR_reshape_73 : decode mR_reshape.2.1 73 = .ok (.getfield 106, 3) := by decide +kernel
theorem dR_reshape_76 : decode mR_reshape.2.1 76 = .ok (.bipush 14, 2) := by decide +kernel
theorem dR_reshape_78 : decode mR_reshape.2.1 78 = .ok (.if_icmp .ne 9, 3) := by decide +kernel
theorem dR_reshape_81 : decode mR_reshape.2.1 81 = .ok (.aload_n 0, 1) := by decide +kernel
theorem dR_reshape_82 : decode mR_reshape.2.1 82 = .ok (.iconst 2, 1) := by decide +kernel
theorem dR_reshape_83 : decode mR_reshape.2.1 83 = .ok (.invokevirtual 98, 3) := by decide +kernel
theorem dR_reshape_86 : decode mR_reshape.2.1 86 = .ok (.ireturn, 1) := by decide +kernel
theorem dR_reshape_87 : decode mR_reshape.2.1 87 = .ok (.aload_n 0, 1) := by decide +kernel
theorem dR_reshape_88 : decode mR_reshape.2.1 88 = .ok (.bipush 6, 2) := by decide +kernel
theorem dR_reshape_90 : decode mR_reshape.2.1 90 = .ok (.iload_n 1, 1) := by decide +kernel
theorem dR_reshape_91 : decode mR_reshape.2.1 91 = .ok (.iconst (-1), 1) := by decide +kernel
theorem dR_reshape_92 : decode mR_reshape.2.1 92 = .ok (.iload_n 2, 1) := by decide +kernel
theorem dR_reshape_93 : decode mR_reshape.2.1 93 = .ok (.iload_n 3, 1) := by decide +kernel
theorem dR_reshape_94 : decode mR_reshape.2.1 94 = .ok (.iload 4, 2) := by decide +kernel
theorem dR_reshape_96 : decode mR_reshape.2.1 96 = .ok (.aload_n 0, 1) := by decide +kernel
theorem dR_reshape_97 : decode mR_reshape.2.1 97 = .ok (.getfield 35, 3) := by decide +kernel
theorem dR_reshape_100 : decode mR_reshape.2.1 100 = .ok (.iload_n 1, 1) := by decide +kernel
theorem dR_reshape_101 : decode mR_reshape.2.1 101 = .ok (.daload, 1) := by decide +kernel
theorem dR_reshape_102 : decode mR_reshape.2.1 102 = .ok (.invokevirtual 113, 3) := by decide +kernel
theorem dR_reshape_105 : decode mR_reshape.2.1 105 = .ok (.pop, 1) := by decide +kernel
theorem dR_reshape_106 : decode mR_reshape.2.1 106 = .ok (.aload_n 0, 1) := by decide +kernel
theorem dR_reshape_107 : decode mR_reshape.2.1 107 = .ok (.iconst 0, 1) := by decide +kernel
theorem dR_reshape_108 : decode mR_reshape.2.1 108 = .ok (.iconst 0, 1) := by decide +kernel
theorem dR_reshape_109 : decode mR_reshape.2.1 109 = .ok (.iconst 0, 1) := by decide +kernel
theorem dR_reshape_110 : decode mR_reshape.2.1 110 = .ok (.iconst 0, 1) := by decide +kernel
theorem dR_reshape_111 : decode mR_reshape.2.1 111 = .ok (.invokevirtual 117, 3) := by decide +kernel
theorem dR_reshape_114 : decode mR_reshape.2.1 114 = .ok (.ireturn, 1) := by decide +kernel
theorem dR_pool_0 : decode mR_pool.2.1 0 = .ok (.aload_n 0, 1) := by decide +kernel
theorem dR_pool_1 : decode mR_pool.2.1 1 = .ok (.iconst 0, 1) := by decide +kernel
theorem dR_pool_2 : decode mR_pool.2.1 2 = .ok (.putfield 85, 3) := by decide +kernel
theorem dR_pool_5 : decode mR_pool.2.1 5 = .ok (.aload_n 0, 1) := by decide +kernel
theorem dR_pool_6 : decode mR_pool.2.1 6 = .ok (.iload_n 1, 1) := by decide +kernel
theorem dR_pool_7 : decode mR_pool.2.1 7 = .ok (.aload_n 0, 1) := by decide +kernel
theorem dR_pool_8 : decode mR_pool.2.1 8 = .ok (.getfield 106, 3) := by decide +kernel
theorem dR_pool_11 : decode mR_pool.2.1 11 = .ok (.invokevirtual 94, 3) := by decide +kernel
theorem dR_pool_14 : decode mR_pool.2.1 14 = .ok (.ifCond .ne 22, 3) := by decide +kernel
theorem dR_pool_17 : decode mR_pool.2.1 17 = .ok (.aload_n 0, 1) := by decide +kernel
theorem dR_pool_18 : decode mR_pool.2.1 18 = .ok (.iload_n 2, 1) := by decide +kernel
theorem dR_pool_19 : decode mR_pool.2.1 19 = .ok (.bipush 12, 2) := by decide +kernel
theorem dR_pool_21 : decode mR_pool.2.1 21 = .ok (.invokevirtual 94, 3) := by decide +kernel
theorem dR_pool_24 : decode mR_pool.2.1 24 = .ok (.ifCond .ne 12, 3) := by decide +kernel
theorem dR_pool_27 : decode mR_pool.2.1 27 = .ok (.aload_n 0, 1) := by decide +kernel
theorem dR_pool_28 : decode mR_pool.2.1 28 = .ok (.iload_n 1, 1) := by decide +kernel
theorem dR_pool_29 : decode mR_pool.2.1 29 = .ok (.iload_n 2, 1) := by decide +kernel
theorem dR_pool_30 : decode mR_pool.2.1 30 = .ok (.invokevirtual 131, 3) := by decide +kernel
theorem dR_pool_33 : decode mR_pool.2.1 33 = .ok (.ifCond .eq 9, 3) := by decide +kernel
theorem dR_pool_36 : decode mR_pool.2.1 36 = .ok (.aload_n 0, 1) := by decide +kernel
theorem dR_pool_37 : decode mR_pool.2.1 37 = .ok (.iconst 1, 1) := by decide +kernel
theorem dR_pool_38 : decode mR_pool.2.1 38 = .ok (.invokevirtual 98, 3) := by decide +kernel
theorem dR_pool_41 : decode mR_pool.2.1 41 = .ok (.ireturn, 1) := by decide +kernel
theorem dR_pool_42 : decode mR_pool.2.1 42 = .ok (.aload_n 0, 1) := by decide +kernel
theorem dR_pool_43 : decode mR_pool.2.1 43 = .ok (.getfield 106, 3) := by decide +kernel
theorem dR_pool_46 : decode mR_pool.2.1 46 = .ok (.bipush 14, 2) := by decide +kernel
theorem dR_pool_48 : decode mR_pool.2.1 48 = .ok (.if_icmp .ne 9, 3) := by decide +kernel
theorem dR_pool_51 : decode mR_pool.2.1 51 = .ok (.aload_n 0, 1) := by decide +kernel
theorem dR_pool_52 : decode mR_pool.2.1 52 = .ok (.iconst 2, 1) := by decide +kernel
theorem dR_pool_53 : decode mR_pool.2.1 53 = .ok (.invokevirtual 98, 3) := by decide +kernel
theorem dR_pool_56 : decode mR_pool.2.1 56 = .ok (.ireturn, 1) := by decide +kernel
theorem dR_pool_57 : decode mR_pool.2.1 57 = .ok (.aload_n 0, 1) := by decide +kernel
theorem dR_pool_58 : decode mR_pool.2.1 58 = .ok (.iload_n 3, 1) := by decide +kernel
theorem dR_pool_59 : decode mR_pool.2.1 59 = .ok (.ifCond .eq 8, 3) := by decide +kernel
theorem dR_pool_62 : decode mR_pool.2.1 62 = .ok (.bipush 8, 2) := by decide +kernel
theorem dR_pool_64 : decode mR_pool.2.1 64 = .ok (.goto 5, 3) := by decide +kernel
theorem dR_pool_67 : decode mR_pool.2.1 67 = .ok (.bipush 7, 2) := by decide +kernel
theorem dR_pool_69 : decode mR_pool.2.1 69 = .ok (.iload_n 1, 1) := by decide +kernel
theorem dR_pool_70 : decode mR_pool.2.1 70 = .ok (.iconst (-1), 1) := by decide +kernel
theorem dR_pool_71 : decode mR_pool.2.1 71 = .ok (.aload_n 0, 1) := by decide +kernel
theorem dR_pool_72 : decode mR_pool.2.1 72 = .ok (.aload_n 0, 1) := by decide +kernel
theorem dR_pool_73 : decode mR_pool.2.1 73 = .ok (.getfield 26, 3) := by decide +kernel
theorem dR_pool_76 : decode mR_pool.2.1 76 = .ok (.iload_n 1, 1) := by decide +kernel
theorem dR_pool_77 : decode mR_pool.2.1 77 = .ok (.iaload, 1) := by decide +kernel
theorem dR_pool_78 : decode mR_pool.2.1 78 = .ok (.iload_n 2, 1) := by decide +kernel
theorem dR_pool_79 : decode mR_pool.2.1 79 = .ok (.invokevirtual 127, 3) := by decide +kernel
theorem dR_pool_82 : decode mR_pool.2.1 82 = .ok (.aload_n 0, 1) := by decide +kernel
theorem dR_pool_83 : decode mR_pool.2.1 83 = .ok (.aload_n 0, 1) := by decide +kernel
theorem dR_pool_84 : decode mR_pool.2.1 84 = .ok (.getfield 29, 3) := by decide +kernel
theorem dR_pool_87 : decode mR_pool.2.1 87 = .ok (.iload_n 1, 1) := by decide +kernel
theorem dR_pool_88 : decode mR_pool.2.1 88 = .ok (.iaload, 1) := by decide +kernel
theorem dR_pool_89 : decode mR_pool.2.1 89 = .ok (.iload_n 2, 1) := by decide +kernel
theorem dR_pool_90 : decode mR_pool.2.1 90 = .ok (.invokevirtual 127, 3) := by decide +kernel
theorem dR_pool_93 : decode mR_pool.2.1 93 = .ok (.aload_n 0, 1) := by decide +kernel
theorem dR_pool_94 : decode mR_pool.2.1 94 = .ok (.getfield 32, 3) := by decide +kernel
theorem dR_pool_97 : decode mR_pool.2.1 97 = .ok (.iload_n 1, 1) := by decide +kernel
theorem dR_pool_98 : decode mR_pool.2.1 98 = .ok (.iaload, 1) := by decide +kernel
theorem dR_pool_99 : decode mR_pool.2.1 99 = .ok (.aload_n 0, 1) := by decide +kernel
theorem dR_pool_100 : decode mR_pool.2.1 100 = .ok (.getfield 35, 3) := by decide +kernel
theorem dR_pool_103 : decode mR_pool.2.1 103 = .ok (.iload_n 1, 1) := by decide +kernel
theorem dR_pool_104 : decode mR_pool.2.1 104 = .ok (.daload, 1) := by decide +kernel
theorem dR_pool_105 : decode mR_pool.2.1 105 = .ok (.invokevirtual 113, 3) := by decide +kernel
theorem dR_pool_108 : decode mR_pool.2.1 108 = .ok (.pop, 1) := by decide +kernel
theorem dR_pool_109 : decode mR_pool.2.1 109 = .ok (.aload_n 0, 1) := by decide +kernel
theorem dR_pool_110 : decode mR_pool.2.1 110 = .ok (.iload_n 2, 1) := by decide +kernel
theorem dR_pool_111 : decode mR_pool.2.1 111 = .ok (.iconst 0, 1) := by decide +kernel
theorem dR_pool_112 : decode mR_pool.2.1 112 = .ok (.iconst 0, 1) := by decide +kernel
theorem dR_pool_113 : decode mR_pool.2.1 113 = .ok (.iconst 0, 1) := by decide +kernel
theorem dR_pool_114 : decode mR_pool.2.1 114 = .ok (.invokevirtual 117, 3) := by decide +kernel
theorem dR_pool_117 : decode mR_pool.2.1 117 = .ok (.ireturn, 1) := by decide +kernel
theorem dR_clamp_0 : decode mR_clamp.2.1 0 = .ok (.aload_n 0, 1) := by decide +kernel
theorem dR_clamp_1 : decode mR_clamp.2.1 1 = .ok (.iconst 0, 1) := by decide +kernel
theorem dR_clamp_2 : decode mR_clamp.2.1 2 = .ok (.putfield 85, 3) := by decide +kernel
theorem dR_clamp_5 : decode mR_clamp.2.1 5 = .ok (.aload_n 0, 1) := by decide +kernel
theorem dR_clamp_6 : decode mR_clamp.2.1 6 = .ok (.iload_n 1, 1) := by decide +kernel
theorem dR_clamp_7 : decode mR_clamp.2.1 7 = .ok (.aload_n 0, 1) := by decide +kernel
theorem dR_clamp_8 : decode mR_clamp.2.1 8 = .ok (.getfield 106, 3) := by decide +kernel
theorem dR_clamp_11 : decode mR_clamp.2.1 11 = .ok (.invokevirtual 94, 3) := by decide +kernel
theorem dR_clamp_14 : decode mR_clamp.2.1 14 = .ok (.ifCond .ne 20, 3) := by decide +kernel
theorem dR_clamp_17 : decode mR_clamp.2.1 17 = .ok (.iload_n 2, 1) := by decide +kernel
theorem dR_clamp_18 : decode mR_clamp.2.1 18 = .ok (.bipush (-128), 2) := by decide +kernel
theorem dR_clamp_20 : decode mR_clamp.2.1 20 = .ok (.if_icmp .lt 14, 3) := by decide +kernel
theorem dR_clamp_23 : decode mR_clamp.2.1 23 = .ok (.iload_n 3, 1) := by decide +kernel
theorem dR_clamp_24 : decode mR_clamp.2.1 24 = .ok (.iload_n 2, 1) := by decide +kernel
theorem dR_clamp_25 : decode mR_clamp.2.1 25 = .ok (.if_icmp .lt 9, 3) := by decide +kernel
theorem dR_clamp_28 : decode mR_clamp.2.1 28 = .ok (.iload_n 3, 1) := by decide +kernel
theorem dR_clamp_29 : decode mR_clamp.2.1 29 = .ok (.bipush 127, 2) := by decide +kernel
theorem dR_clamp_31 : decode mR_clamp.2.1 31 = .ok (.if_icmp .le 9, 3) := by decide +kernel
theorem dR_clamp_34 : decode mR_clamp.2.1 34 = .ok (.aload_n 0, 1) := by decide +kernel
theorem dR_clamp_35 : decode mR_clamp.2.1 35 = .ok (.iconst 1, 1) := by decide +kernel
theorem dR_clamp_36 : decode mR_clamp.2.1 36 = .ok (.invokevirtual 98, 3) := by decide +kernel
theorem dR_clamp_39 : decode mR_clamp.2.1 39 = .ok (.ireturn, 1) := by decide +kernel
theorem dR_clamp_40 : decode mR_clamp.2.1 40 = .ok (.aload_n 0, 1) := by decide +kernel
theorem dR_clamp_41 : decode mR_clamp.2.1 41 = .ok (.getfield 106, 3) := by decide +kernel
theorem dR_clamp_44 : decode mR_clamp.2.1 44 = .ok (.bipush 14, 2) := by decide +kernel
theorem dR_clamp_46 : decode mR_clamp.2.1 46 = .ok (.if_icmp .ne 9, 3) := by decide +kernel
theorem dR_clamp_49 : decode mR_clamp.2.1 49 = .ok (.aload_n 0, 1) := by decide +kernel
theorem dR_clamp_50 : decode mR_clamp.2.1 50 = .ok (.iconst 2, 1) := by decide +kernel
theorem dR_clamp_51 : decode mR_clamp.2.1 51 = .ok (.invokevirtual 98, 3) := by decide +kernel
theorem dR_clamp_54 : decode mR_clamp.2.1 54 = .ok (.ireturn, 1) := by decide +kernel
theorem dR_clamp_55 : decode mR_clamp.2.1 55 = .ok (.aload_n 0, 1) := by decide +kernel
theorem dR_clamp_56 : decode mR_clamp.2.1 56 = .ok (.bipush 9, 2) := by decide +kernel
theorem dR_clamp_58 : decode mR_clamp.2.1 58 = .ok (.iload_n 1, 1) := by decide +kernel
theorem dR_clamp_59 : decode mR_clamp.2.1 59 = .ok (.iconst (-1), 1) := by decide +kernel
theorem dR_clamp_60 : decode mR_clamp.2.1 60 = .ok (.aload_n 0, 1) := by decide +kernel
theorem dR_clamp_61 : decode mR_clamp.2.1 61 = .ok (.getfield 26, 3) := by decide +kernel
theorem dR_clamp_64 : decode mR_clamp.2.1 64 = .ok (.iload_n 1, 1) := by decide +kernel
theorem dR_clamp_65 : decode mR_clamp.2.1 65 = .ok (.iaload, 1) := by decide +kernel
theorem dR_clamp_66 : decode mR_clamp.2.1 66 = .ok (.aload_n 0, 1) := by decide +kernel
theorem dR_clamp_67 : decode mR_clamp.2.1 67 = .ok (.getfield 29, 3) := by decide +kernel
theorem dR_clamp_70 : decode mR_clamp.2.1 70 = .ok (.iload_n 1, 1) := by decide +kernel
theorem dR_clamp_71 : decode mR_clamp.2.1 71 = .ok (.iaload, 1) := by decide +kernel
theorem dR_clamp_72 : decode mR_clamp.2.1 72 = .ok (.aload_n 0, 1) := by decide +kernel
theorem dR_clamp_73 : decode mR_clamp.2.1 73 = .ok (.getfield 32, 3) := by decide +kernel
theorem dR_clamp_76 : decode mR_clamp.2.1 76 = .ok (.iload_n 1, 1) := by decide +kernel
theorem dR_clamp_77 : decode mR_clamp.2.1 77 = .ok (.iaload, 1) := by decide +kernel
theorem dR_clamp_78 : decode mR_clamp.2.1 78 = .ok (.aload_n 0, 1) := by decide +kernel
theorem dR_clamp_79 : decode mR_clamp.2.1 79 = .ok (.getfield 35, 3) := by decide +kernel
theorem dR_clamp_82 : decode mR_clamp.2.1 82 = .ok (.iload_n 1, 1) := by decide +kernel
theorem dR_clamp_83 : decode mR_clamp.2.1 83 = .ok (.daload, 1) := by decide +kernel
theorem dR_clamp_84 : decode mR_clamp.2.1 84 = .ok (.invokevirtual 113, 3) := by decide +kernel
theorem dR_clamp_87 : decode mR_clamp.2.1 87 = .ok (.pop, 1) := by decide +kernel
theorem dR_clamp_88 : decode mR_clamp.2.1 88 = .ok (.aload_n 0, 1) := by decide +kernel
theorem dR_clamp_89 : decode mR_clamp.2.1 89 = .ok (.iconst 0, 1) := by decide +kernel
theorem dR_clamp_90 : decode mR_clamp.2.1 90 = .ok (.iconst 0, 1) := by decide +kernel
theorem dR_clamp_91 : decode mR_clamp.2.1 91 = .ok (.iload_n 2, 1) := by decide +kernel
theorem dR_clamp_92 : decode mR_clamp.2.1 92 = .ok (.iload_n 3, 1) := by decide +kernel
theorem dR_clamp_93 : decode mR_clamp.2.1 93 = .ok (.invokevirtual 117, 3) := by decide +kernel
theorem dR_clamp_96 : decode mR_clamp.2.1 96 = .ok (.ireturn, 1) := by decide +kernel
theorem dR_rescale_0 : decode mR_rescale.2.1 0 = .ok (.aload_n 0, 1) := by decide +kernel
theorem dR_rescale_1 : decode mR_rescale.2.1 1 = .ok (.iconst 0, 1) := by decide +kernel
theorem dR_rescale_2 : decode mR_rescale.2.1 2 = .ok (.putfield 85, 3) := by decide +kernel
theorem dR_rescale_5 : decode mR_rescale.2.1 5 = .ok (.aload_n 0, 1) := by decide +kernel
theorem dR_rescale_6 : decode mR_rescale.2.1 6 = .ok (.iload_n 1, 1) := by decide +kernel
theorem dR_rescale_7 : decode mR_rescale.2.1 7 = .ok (.aload_n 0, 1) := by decide +kernel
theorem dR_rescale_8 : decode mR_rescale.2.1 8 = .ok (.getfield 106, 3) := by decide +kernel
theorem dR_rescale_11 : decode mR_rescale.2.1 11 = .ok (.invokevirtual 94, 3) := by decide +kernel
theorem dR_rescale_14 : decode mR_rescale.2.1 14 = .ok (.ifCond .ne 11, 3) := by decide +kernel
theorem dR_rescale_17 : decode mR_rescale.2.1 17 = .ok (.aload_n 0, 1) := by decide +kernel
theorem dR_rescale_18 : decode mR_rescale.2.1 18 = .ok (.dload_n 2, 1) := by decide +kernel
theorem dR_rescale_19 : decode mR_rescale.2.1 19 = .ok (.invokevirtual 102, 3) := by decide +kernel
theorem dR_rescale_22 : decode mR_rescale.2.1 22 = .ok (.ifCond .eq 9, 3) := by decide +kernel
theorem dR_rescale_25 : decode mR_rescale.2.1 25 = .ok (.aload_n 0, 1) := by decide +kernel
theorem dR_rescale_26 : decode mR_rescale.2.1 26 = .ok (.iconst 1, 1) := by decide +kernel
theorem dR_rescale_27 : decode mR_rescale.2.1 27 = .ok (.invokevirtual 98, 3) := by decide +kernel
theorem dR_rescale_30 : decode mR_rescale.2.1 30 = .ok (.ireturn, 1) := by decide +kernel
theorem dR_rescale_31 : decode mR_rescale.2.1 31 = .ok (.aload_n 0, 1) := by decide +kernel
theorem dR_rescale_32 : decode mR_rescale.2.1 32 = .ok (.aload_n 0, 1) := by decide +kernel
theorem dR_rescale_33 : decode mR_rescale.2.1 33 = .ok (.getfield 35, 3) := by decide +kernel
theorem dR_rescale_36 : decode mR_rescale.2.1 36 = .ok (.iload_n 1, 1) := by decide +kernel
theorem dR_rescale_37 : decode mR_rescale.2.1 37 = .ok (.daload, 1) := by decide +kernel
theorem dR_rescale_38 : decode mR_rescale.2.1 38 = .ok (.dload_n 2, 1) := by decide +kernel
theorem dR_rescale_39 : decode mR_rescale.2.1 39 = .ok (.ddiv, 1) := by decide +kernel
theorem dR_rescale_40 : decode mR_rescale.2.1 40 = .ok (.invokevirtual 134, 3) := by decide +kernel
theorem dR_rescale_43 : decode mR_rescale.2.1 43 = .ok (.ifCond .eq 9, 3) := by decide +kernel
theorem dR_rescale_46 : decode mR_rescale.2.1 46 = .ok (.aload_n 0, 1) := by decide +kernel
theorem dR_rescale_47 : decode mR_rescale.2.1 47 = .ok (.iconst 2, 1) := by decide +kernel
theorem dR_rescale_48 : decode mR_rescale.2.1 48 = .ok (.invokevirtual 98, 3) := by decide +kernel
theorem dR_rescale_51 : decode mR_rescale.2.1 51 = .ok (.ireturn, 1) := by decide +kernel
theorem dR_rescale_52 : decode mR_rescale.2.1 52 = .ok (.aload_n 0, 1) := by decide +kernel
theorem dR_rescale_53 : decode mR_rescale.2.1 53 = .ok (.getfield 106, 3) := by decide +kernel
theorem dR_rescale_56 : decode mR_rescale.2.1 56 = .ok (.bipush 14, 2) := by decide +kernel
theorem dR_rescale_58 : decode mR_rescale.2.1 58 = .ok (.if_icmp .ne 9, 3) := by decide +kernel
theorem dR_rescale_61 : decode mR_rescale.2.1 61 = .ok (.aload_n 0, 1) := by decide +kernel
theorem dR_rescale_62 : decode mR_rescale.2.1 62 = .ok (.iconst 3, 1) := by decide +kernel
theorem dR_rescale_63 : decode mR_rescale.2.1 63 = .ok (.invokevirtual 98, 3) := by decide +kernel
theorem dR_rescale_66 : decode mR_rescale.2.1 66 = .ok (.ireturn, 1) := by decide +kernel
theorem dR_rescale_67 : decode mR_rescale.2.1 67 = .ok (.aload_n 0, 1) := by decide +kernel
theorem dR_rescale_68 : decode mR_rescale.2.1 68 = .ok (.bipush 10, 2) := by decide +kernel
theorem dR_rescale_70 : decode mR_rescale.2.1 70 = .ok (.iload_n 1, 1) := by decide +kernel
theorem dR_rescale_71 : decode mR_rescale.2.1 71 = .ok (.iconst (-1), 1) := by decide +kernel
theorem dR_rescale_72 : decode mR_rescale.2.1 72 = .ok (.aload_n 0, 1) := by decide +kernel
theorem dR_rescale_73 : decode mR_rescale.2.1 73 = .ok (.getfield 26, 3) := by decide +kernel
theorem dR_rescale_76 : decode mR_rescale.2.1 76 = .ok (.iload_n 1, 1) := by decide +kernel
theorem dR_rescale_77 : decode mR_rescale.2.1 77 = .ok (.iaload, 1) := by decide +kernel
theorem dR_rescale_78 : decode mR_rescale.2.1 78 = .ok (.aload_n 0, 1) := by decide +kernel
theorem dR_rescale_79 : decode mR_rescale.2.1 79 = .ok (.getfield 29, 3) := by decide +kernel
theorem dR_rescale_82 : decode mR_rescale.2.1 82 = .ok (.iload_n 1, 1) := by decide +kernel
theorem dR_rescale_83 : decode mR_rescale.2.1 83 = .ok (.iaload, 1) := by decide +kernel
theorem dR_rescale_84 : decode mR_rescale.2.1 84 = .ok (.aload_n 0, 1) := by decide +kernel
theorem dR_rescale_85 : decode mR_rescale.2.1 85 = .ok (.getfield 32, 3) := by decide +kernel
theorem dR_rescale_88 : decode mR_rescale.2.1 88 = .ok (.iload_n 1, 1) := by decide +kernel
theorem dR_rescale_89 : decode mR_rescale.2.1 89 = .ok (.iaload, 1) := by decide +kernel
theorem dR_rescale_90 : decode mR_rescale.2.1 90 = .ok (.dload_n 2, 1) := by decide +kernel
theorem dR_rescale_91 : decode mR_rescale.2.1 91 = .ok (.invokevirtual 113, 3) := by decide +kernel
theorem dR_rescale_94 : decode mR_rescale.2.1 94 = .ok (.pop, 1) := by decide +kernel
theorem dR_rescale_95 : decode mR_rescale.2.1 95 = .ok (.aload_n 0, 1) := by decide +kernel
theorem dR_rescale_96 : decode mR_rescale.2.1 96 = .ok (.iconst 0, 1) := by decide +kernel
theorem dR_rescale_97 : decode mR_rescale.2.1 97 = .ok (.iconst 0, 1) := by decide +kernel
theorem dR_rescale_98 : decode mR_rescale.2.1 98 = .ok (.iconst 0, 1) := by decide +kernel
theorem dR_rescale_99 : decode mR_rescale.2.1 99 = .ok (.iconst 0, 1) := by decide +kernel
theorem dR_rescale_100 : decode mR_rescale.2.1 100 = .ok (.invokevirtual 117, 3) := by decide +kernel
theorem dR_rescale_103 : decode mR_rescale.2.1 103 = .ok (.ireturn, 1) := by decide +kernel
theorem dR_output_0 : decode mR_output.2.1 0 = .ok (.aload_n 0, 1) := by decide +kernel
theorem dR_output_1 : decode mR_output.2.1 1 = .ok (.iconst 0, 1) := by decide +kernel
theorem dR_output_2 : decode mR_output.2.1 2 = .ok (.putfield 85, 3) := by decide +kernel
theorem dR_output_5 : decode mR_output.2.1 5 = .ok (.aload_n 0, 1) := by decide +kernel
theorem dR_output_6 : decode mR_output.2.1 6 = .ok (.iload_n 1, 1) := by decide +kernel
theorem dR_output_7 : decode mR_output.2.1 7 = .ok (.aload_n 0, 1) := by decide +kernel
theorem dR_output_8 : decode mR_output.2.1 8 = .ok (.getfield 106, 3) := by decide +kernel
theorem dR_output_11 : decode mR_output.2.1 11 = .ok (.invokevirtual 94, 3) := by decide +kernel
theorem dR_output_14 : decode mR_output.2.1 14 = .ok (.ifCond .eq 9, 3) := by decide +kernel
theorem dR_output_17 : decode mR_output.2.1 17 = .ok (.aload_n 0, 1) := by decide +kernel
theorem dR_output_18 : decode mR_output.2.1 18 = .ok (.iconst 1, 1) := by decide +kernel
theorem dR_output_19 : decode mR_output.2.1 19 = .ok (.invokevirtual 98, 3) := by decide +kernel
theorem dR_output_22 : decode mR_output.2.1 22 = .ok (.ireturn, 1) := by decide +kernel
theorem dR_output_23 : decode mR_output.2.1 23 = .ok (.aload_n 0, 1) := by decide +kernel
theorem dR_output_24 : decode mR_output.2.1 24 = .ok (.iload_n 1, 1) := by decide +kernel
theorem dR_output_25 : decode mR_output.2.1 25 = .ok (.putfield 60, 3) := by decide +kernel
theorem dR_output_28 : decode mR_output.2.1 28 = .ok (.aload_n 0, 1) := by decide +kernel
theorem dR_output_29 : decode mR_output.2.1 29 = .ok (.iconst 0, 1) := by decide +kernel
theorem dR_output_30 : decode mR_output.2.1 30 = .ok (.putfield 109, 3) := by decide +kernel
theorem dR_output_33 : decode mR_output.2.1 33 = .ok (.aload_n 0, 1) := by decide +kernel
theorem dR_output_34 : decode mR_output.2.1 34 = .ok (.iload_n 1, 1) := by decide +kernel
theorem dR_output_35 : decode mR_output.2.1 35 = .ok (.invokevirtual 137, 3) := by decide +kernel
theorem dR_output_38 : decode mR_output.2.1 38 = .ok (.ireturn, 1) := by decide +kernel
theorem dR_compile_0 : decode mR_compile.2.1 0 = .ok (.aload_n 0, 1) := by decide +kernel
theorem dR_compile_1 : decode mR_compile.2.1 1 = .ok (.iconst 0, 1) := by decide +kernel
theorem dR_compile_2 : decode mR_compile.2.1 2 = .ok (.putfield 85, 3) := by decide +kernel
theorem dR_compile_5 : decode mR_compile.2.1 5 = .ok (.aload_n 0, 1) := by decide +kernel
theorem dR_compile_6 : decode mR_compile.2.1 6 = .ok (.getfield 60, 3) := by decide +kernel
theorem dR_compile_9 : decode mR_compile.2.1 9 = .ok (.ifCond .ge 9, 3) := by decide +kernel
theorem dR_compile_12 : decode mR_compile.2.1 12 = .ok (.aload_n 0, 1) := by decide +kernel
theorem dR_compile_13 : decode mR_compile.2.1 13 = .ok (.iconst 1, 1) := by decide +kernel
theorem dR_compile_14 : decode mR_compile.2.1 14 = .ok (.invokevirtual 98, 3) := by decide +kernel
theorem dR_compile_17 : decode mR_compile.2.1 17 = .ok (.ireturn, 1) := by decide +kernel
theorem dR_compile_18 : decode mR_compile.2.1 18 = .ok (.iconst 0, 1) := by decide +kernel
theorem dR_compile_19 : decode mR_compile.2.1 19 = .ok (.istore_n 1, 1) := by decide +kernel
theorem dR_compile_20 : decode mR_compile.2.1 20 = .ok (.iload_n 1, 1) := by decide +kernel
theorem dR_compile_21 : decode mR_compile.2.1 21 = .ok (.aload_n 0, 1) := by decide +kernel
theorem dR_compile_22 : decode mR_compile.2.1 22 = .ok (.getfield 106, 3) := by decide +kernel
theorem dR_compile_25 : decode mR_compile.2.1 25 = .ok (.if_icmp .ge 14, 3) := by decide +kernel
theorem dR_compile_28 : decode mR_compile.2.1 28 = .ok (.aload_n 0, 1) := by decide +kernel
theorem dR_compile_29 : decode mR_compile.2.1 29 = .ok (.iload_n 1, 1) := by decide +kernel
theorem dR_compile_30 : decode mR_compile.2.1 30 = .ok (.invokevirtual 165, 3) := by decide +kernel
theorem dR_compile_33 : decode mR_compile.2.1 33 = .ok (.iinc 1 1, 3) := by decide +kernel
theorem dR_compile_36 : decode mR_compile.2.1 36 = .ok (.goto (-16), 3) := by decide +kernel
theorem dR_compile_39 : decode mR_compile.2.1 39 = .ok (.aload_n 0, 1) := by decide +kernel
theorem dR_compile_40 : decode mR_compile.2.1 40 = .ok (.invokevirtual 169, 3) := by decide +kernel
theorem dR_compile_43 : decode mR_compile.2.1 43 = .ok (.aload_n 0, 1) := by decide +kernel
theorem dR_compile_44 : decode mR_compile.2.1 44 = .ok (.invokevirtual 172, 3) := by decide +kernel
theorem dR_compile_47 : decode mR_compile.2.1 47 = .ok (.aload_n 0, 1) := by decide +kernel
theorem dR_compile_48 : decode mR_compile.2.1 48 = .ok (.invokevirtual 175, 3) := by decide +kernel
theorem dR_compile_51 : decode mR_compile.2.1 51 = .ok (.aload_n 0, 1) := by decide +kernel
theorem dR_compile_52 : decode mR_compile.2.1 52 = .ok (.iconst 1, 1) := by decide +kernel
theorem dR_compile_53 : decode mR_compile.2.1 53 = .ok (.putfield 109, 3) := by decide +kernel
theorem dR_compile_56 : decode mR_compile.2.1 56 = .ok (.aload_n 0, 1) := by decide +kernel
theorem dR_compile_57 : decode mR_compile.2.1 57 = .ok (.getfield 152, 3) := by decide +kernel
theorem dR_compile_60 : decode mR_compile.2.1 60 = .ok (.ireturn, 1) := by decide +kernel
theorem dR_findStands_0 : decode mR_findStands.2.1 0 = .ok (.aload_n 0, 1) := by decide +kernel
theorem dR_findStands_1 : decode mR_findStands.2.1 1 = .ok (.aload_n 0, 1) := by decide +kernel
theorem dR_findStands_2 : decode mR_findStands.2.1 2 = .ok (.getfield 20, 3) := by decide +kernel
theorem dR_findStands_5 : decode mR_findStands.2.1 5 = .ok (.iload_n 1, 1) := by decide +kernel
theorem dR_findStands_6 : decode mR_findStands.2.1 6 = .ok (.iaload, 1) := by decide +kernel
theorem dR_findStands_7 : decode mR_findStands.2.1 7 = .ok (.invokevirtual 143, 3) := by decide +kernel
theorem dR_findStands_10 : decode mR_findStands.2.1 10 = .ok (.istore_n 2, 1) := by decide +kernel
theorem dR_findStands_11 : decode mR_findStands.2.1 11 = .ok (.aload_n 0, 1) := by decide +kernel
theorem dR_findStands_12 : decode mR_findStands.2.1 12 = .ok (.getfield 64, 3) := by decide +kernel
theorem dR_findStands_15 : decode mR_findStands.2.1 15 = .ok (.iload_n 1, 1) := by decide +kernel
theorem dR_findStands_16 : decode mR_findStands.2.1 16 = .ok (.iload_n 1, 1) := by decide +kernel
theorem dR_findStands_17 : decode mR_findStands.2.1 17 = .ok (.iastore, 1) := by decide +kernel
theorem dR_findStands_18 : decode mR_findStands.2.1 18 = .ok (.aload_n 0, 1) := by decide +kernel
theorem dR_findStands_19 : decode mR_findStands.2.1 19 = .ok (.getfield 17, 3) := by decide +kernel
theorem dR_findStands_22 : decode mR_findStands.2.1 22 = .ok (.iload_n 1, 1) := by decide +kernel
theorem dR_findStands_23 : decode mR_findStands.2.1 23 = .ok (.iaload, 1) := by decide +kernel
theorem dR_findStands_24 : decode mR_findStands.2.1 24 = .ok (.bipush 6, 2) := by decide +kernel
theorem dR_findStands_26 : decode mR_findStands.2.1 26 = .ok (.if_icmp .ne 31, 3) := by decide +kernel
theorem dR_findStands_29 : decode mR_findStands.2.1 29 = .ok (.aload_n 0, 1) := by decide +kernel
theorem dR_findStands_30 : decode mR_findStands.2.1 30 = .ok (.iload_n 1, 1) := by decide +kernel
theorem dR_findStands_31 : decode mR_findStands.2.1 31 = .ok (.iload_n 2, 1) := by decide +kernel
theorem dR_findStands_32 : decode mR_findStands.2.1 32 = .ok (.invokevirtual 140, 3) := by decide +kernel
theorem dR_findStands_35 : decode mR_findStands.2.1 35 = .ok (.ifCond .eq 22, 3) := by decide +kernel
theorem dR_findStands_38 : decode mR_findStands.2.1 38 = .ok (.aload_n 0, 1) := by decide +kernel
theorem dR_findStands_39 : decode mR_findStands.2.1 39 = .ok (.getfield 32, 3) := by decide +kernel
theorem dR_findStands_42 : decode mR_findStands.2.1 42 = .ok (.iload_n 1, 1) := by decide +kernel
theorem dR_findStands_43 : decode mR_findStands.2.1 43 = .ok (.iaload, 1) := by decide +kernel
theorem dR_findStands_44 : decode mR_findStands.2.1 44 = .ok (.aload_n 0, 1) := by decide +kernel
theorem dR_findStands_45 : decode mR_findStands.2.1 45 = .ok (.getfield 32, 3) := by decide +kernel
theorem dR_findStands_48 : decode mR_findStands.2.1 48 = .ok (.iload_n 2, 1) := by decide +kernel
theorem dR_findStands_49 : decode mR_findStands.2.1 49 = .ok (.iaload, 1) := by decide +kernel
theorem dR_findStands_50 : decode mR_findStands.2.1 50 = .ok (.if_icmp .ne 7, 3) := by decide +kernel
theorem dR_findStands_53 : decode mR_findStands.2.1 53 = .ok (.iconst 1, 1) := by decide +kernel
theorem dR_findStands_54 : decode mR_findStands.2.1 54 = .ok (.goto 4, 3) := by decide +kernel
theorem dR_findStands_57 : decode mR_findStands.2.1 57 = .ok (.iconst 0, 1) := by decide +kernel
theorem dR_findStands_58 : decode mR_findStands.2.1 58 = .ok (.istore_n 3, 1) := by decide +kernel
theorem dR_findStands_59 : decode mR_findStands.2.1 59 = .ok (.iload_n 3, 1) := by decide +kernel
theorem dR_findStands_60 : decode mR_findStands.2.1 60 = .ok (.aload_n 0, 1) := by decide +kernel
theorem dR_findStands_61 : decode mR_findStands.2.1 61 = .ok (.getfield 17, 3) := by decide +kernel
theorem dR_findStands_64 : decode mR_findStands.2.1 64 = .ok (.iload_n 1, 1) := by decide +kernel
theorem dR_findStands_65 : decode mR_findStands.2.1 65 = .ok (.iaload, 1) := by decide +kernel
theorem dR_findStands_66 : decode mR_findStands.2.1 66 = .ok (.bipush 9, 2) := by decide +kernel
theorem dR_findStands_68 : decode mR_findStands.2.1 68 = .ok (.if_icmp .ne 29, 3) := by decide +kernel
theorem dR_findStands_71 : decode mR_findStands.2.1 71 = .ok (.aload_n 0, 1) := by decide +kernel
theorem dR_findStands_72 : decode mR_findStands.2.1 72 = .ok (.getfield 48, 3) := by decide +kernel
theorem dR_findStands_75 : decode mR_findStands.2.1 75 = .ok (.iload_n 1, 1) := by decide +kernel
theorem dR_findStands_76 : decode mR_findStands.2.1 76 = .ok (.iaload, 1) := by decide +kernel
theorem dR_findStands_77 : decode mR_findStands.2.1 77 = .ok (.bipush (-128), 2) := by decide +kernel
theorem dR_findStands_79 : decode mR_findStands.2.1 79 = .ok (.if_icmp .ne 18, 3) := by decide +kernel
theorem dR_findStands_82 : decode mR_findStands.2.1 82 = .ok (.aload_n 0, 1) := by decide +kernel
theorem dR_findStands_83 : decode mR_findStands.2.1 83 = .ok (.getfield 51, 3) := by decide +kernel
theorem dR_findStands_86 : decode mR_findStands.2.1 86 = .ok (.iload_n 1, 1) := by decide +kernel
theorem dR_findStands_87 : decode mR_findStands.2.1 87 = .ok (.iaload, 1) := by decide +kernel
theorem dR_findStands_88 : decode mR_findStands.2.1 88 = .ok (.bipush 127, 2) := by decide +kernel
theorem dR_findStands_90 : decode mR_findStands.2.1 90 = .ok (.if_icmp .ne 7, 3) := by decide +kernel
theorem dR_findStands_93 : decode mR_findStands.2.1 93 = .ok (.iconst 1, 1) := by decide +kernel
theorem dR_findStands_94 : decode mR_findStands.2.1 94 = .ok (.goto 4, 3) := by decide +kernel
theorem dR_findStands_97 : decode mR_findStands.2.1 97 = .ok (.iconst 0, 1) := by decide +kernel
theorem dR_findStands_98 : decode mR_findStands.2.1 98 = .ok (.ior, 1) := by decide +kernel
theorem dR_findStands_99 : decode mR_findStands.2.1 99 = .ok (.istore_n 3, 1) := by decide +kernel
theorem dR_findStands_100 : decode mR_findStands.2.1 100 = .ok (.iload_n 3, 1) := by decide +kernel
theorem dR_findStands_101 : decode mR_findStands.2.1 101 = .ok (.aload_n 0, 1) := by decide +kernel
theorem dR_findStands_102 : decode mR_findStands.2.1 102 = .ok (.getfield 17, 3) := by decide +kernel
theorem dR_findStands_105 : decode mR_findStands.2.1 105 = .ok (.iload_n 1, 1) := by decide +kernel
theorem dR_findStands_106 : decode mR_findStands.2.1 106 = .ok (.iaload, 1) := by decide +kernel
theorem dR_findStands_107 : decode mR_findStands.2.1 107 = .ok (.bipush 10, 2) := by decide +kernel
theorem dR_findStands_109 : decode mR_findStands.2.1 109 = .ok (.if_icmp .ne 23, 3) := by decide +kernel
theorem dR_findStands_112 : decode mR_findStands.2.1 112 = .ok (.aload_n 0, 1) := by decide +kernel
theorem dR_findStands_113 : decode mR_findStands.2.1 113 = .ok (.getfield 35, 3) := by decide +kernel
theorem dR_findStands_116 : decode mR_findStands.2.1 116 = .ok (.iload_n 1, 1) := by decide +kernel
theorem dR_findStands_117 : decode mR_findStands.2.1 117 = .ok (.daload, 1) := by decide +kernel
theorem dR_findStands_118 : decode mR_findStands.2.1 118 = .ok (.aload_n 0, 1) := by decide +kernel
theorem dR_findStands_119 : decode mR_findStands.2.1 119 = .ok (.getfield 35, 3) := by decide +kernel
theorem dR_findStands_122 : decode mR_findStands.2.1 122 = .ok (.iload_n 2, 1) := by decide +kernel
theorem dR_findStands_123 : decode mR_findStands.2.1 123 = .ok (.daload, 1) := by decide +kernel
theorem dR_findStands_124 : decode mR_findStands.2.1 124 = .ok (.dcmp .l, 1) := by decide +kernel
theorem dR_findStands_125 : decode mR_findStands.2.1 125 = .ok (.ifCond .ne 7, 3) := by decide +kernel
theorem dR_findStands_128 : decode mR_findStands.2.1 128 = .ok (.iconst 1, 1) := by decide +kernel
theorem dR_findStands_129 : decode mR_findStands.2.1 129 = .ok (.goto 4, 3) := by decide +kernel
theorem dR_findStands_132 : decode mR_findStands.2.1 132 = .ok (.iconst 0, 1) := by decide +kernel
theorem dR_findStands_133 : decode mR_findStands.2.1 133 = .ok (.ior, 1) := by decide +kernel
theorem dR_findStands_134 : decode mR_findStands.2.1 134 = .ok (.istore_n 3, 1) := by decide +kernel
theorem dR_findStands_135 : decode mR_findStands.2.1 135 = .ok (.iload_n 3, 1) := by decide +kernel
theorem dR_findStands_136 : decode mR_findStands.2.1 136 = .ok (.ifCond .eq 11, 3) := by decide +kernel
theorem dR_findStands_139 : decode mR_findStands.2.1 139 = .ok (.aload_n 0, 1) := by decide +kernel
theorem dR_findStands_140 : decode mR_findStands.2.1 140 = .ok (.getfield 64, 3) := by decide +kernel
theorem dR_findStands_143 : decode mR_findStands.2.1 143 = .ok (.iload_n 1, 1) := by decide +kernel
theorem dR_findStands_144 : decode mR_findStands.2.1 144 = .ok (.iload_n 2, 1) := by decide +kernel
theorem dR_findStands_145 : decode mR_findStands.2.1 145 = .ok (.iastore, 1) := by decide +kernel
theorem dR_findStands_146 : decode mR_findStands.2.1 146 = .ok (.return_, 1) := by decide +kernel
theorem dR_findStands_147 : decode mR_findStands.2.1 147 = .ok (.iconst 0, 1) := by decide +kernel
theorem dR_findStands_148 : decode mR_findStands.2.1 148 = .ok (.istore 4, 2) := by decide +kernel
theorem dR_findStands_150 : decode mR_findStands.2.1 150 = .ok (.iload 4, 2) := by decide +kernel
theorem dR_findStands_152 : decode mR_findStands.2.1 152 = .ok (.iload_n 1, 1) := by decide +kernel
theorem dR_findStands_153 : decode mR_findStands.2.1 153 = .ok (.if_icmp .ge 49, 3) := by decide +kernel
theorem dR_findStands_156 : decode mR_findStands.2.1 156 = .ok (.aload_n 0, 1) := by decide +kernel
theorem dR_findStands_157 : decode mR_findStands.2.1 157 = .ok (.getfield 17, 3) := by decide +kernel
theorem dR_findStands_160 : decode mR_findStands.2.1 160 = .ok (.iload_n 1, 1) := by decide +kernel
theorem dR_findStands_161 : decode mR_findStands.2.1 161 = .ok (.iaload, 1) := by decide +kernel
theorem dR_findStands_162 : decode mR_findStands.2.1 162 = .ok (.ifCond .eq 40, 3) := by decide +kernel
theorem dR_findStands_165 : decode mR_findStands.2.1 165 = .ok (.aload_n 0, 1) := by decide +kernel
theorem dR_findStands_166 : decode mR_findStands.2.1 166 = .ok (.getfield 64, 3) := by decide +kernel
theorem dR_findStands_169 : decode mR_findStands.2.1 169 = .ok (.iload 4, 2) := by decide +kernel
theorem dR_findStands_171 : decode mR_findStands.2.1 171 = .ok (.iaload, 1) := by decide +kernel
theorem dR_findStands_172 : decode mR_findStands.2.1 172 = .ok (.iload 4, 2) := by decide +kernel
theorem dR_findStands_174 : decode mR_findStands.2.1 174 = .ok (.if_icmp .ne 22, 3) := by decide +kernel
theorem dR_findStands_177 : decode mR_findStands.2.1 177 = .ok (.aload_n 0, 1) := by decide +kernel
theorem dR_findStands_178 : decode mR_findStands.2.1 178 = .ok (.iload_n 1, 1) := by decide +kernel
theorem dR_findStands_179 : decode mR_findStands.2.1 179 = .ok (.iload 4, 2) := by decide +kernel
theorem dR_findStands_181 : decode mR_findStands.2.1 181 = .ok (.invokevirtual 146, 3) := by decide +kernel
theorem dR_findStands_184 : decode mR_findStands.2.1 184 = .ok (.ifCond .eq 12, 3) := by decide +kernel
theorem dR_findStands_187 : decode mR_findStands.2.1 187 = .ok (.aload_n 0, 1) := by decide +kernel
theorem dR_findStands_188 : decode mR_findStands.2.1 188 = .ok (.getfield 64, 3) := by decide +kernel
theorem dR_findStands_191 : decode mR_findStands.2.1 191 = .ok (.iload_n 1, 1) := by decide +kernel
theorem dR_findStands_192 : decode mR_findStands.2.1 192 = .ok (.iload 4, 2) := by decide +kernel
theorem dR_findStands_194 : decode mR_findStands.2.1 194 = .ok (.iastore, 1) := by decide +kernel
theorem dR_findStands_195 : decode mR_findStands.2.1 195 = .ok (.return_, 1) := by decide +kernel
theorem dR_findStands_196 : decode mR_findStands.2.1 196 = .ok (.iinc 4 1, 3) := by decide +kernel
theorem dR_findStands_199 : decode mR_findStands.2.1 199 = .ok (.goto (-49), 3) := by decide +kernel
theorem dR_findStands_202 : decode mR_findStands.2.1 202 = .ok (.return_, 1) := by decide +kernel
theorem dR_standFor_0 : decode mR_standFor.2.1 0 = .ok (.iload_n 1, 1) := by decide +kernel
theorem dR_standFor_1 : decode mR_standFor.2.1 1 = .ok (.ifCond .ge 7, 3) := by decide +kernel
theorem dR_standFor_4 : decode mR_standFor.2.1 4 = .ok (.iconst (-1), 1) := by decide +kernel
theorem dR_standFor_5 : decode mR_standFor.2.1 5 = .ok (.goto 9, 3) := by decide +kernel
theorem dR_standFor_8 : decode mR_standFor.2.1 8 = .ok (.aload_n 0, 1) := by decide +kernel
theorem dR_standFor_9 : decode mR_standFor.2.1 9 = .ok (.getfield 64, 3) := by decide +kernel
theorem dR_standFor_12 : decode mR_standFor.2.1 12 = .ok (.iload_n 1, 1) := by decide +kernel
theorem dR_standFor_13 : decode mR_standFor.2.1 13 = .ok (.iaload, 1) := by decide +kernel
theorem dR_standFor_14 : decode mR_standFor.2.1 14 = .ok (.ireturn, 1) := by decide +kernel
theorem dR_alike_0 : decode mR_alike.2.1 0 = .ok (.aload_n 0, 1) := by decide +kernel
theorem dR_alike_1 : decode mR_alike.2.1 1 = .ok (.aload_n 0, 1) := by decide +kernel
theorem dR_alike_2 : decode mR_alike.2.1 2 = .ok (.getfield 20, 3) := by decide +kernel
theorem dR_alike_5 : decode mR_alike.2.1 5 = .ok (.iload_n 1, 1) := by decide +kernel
theorem dR_alike_6 : decode mR_alike.2.1 6 = .ok (.iaload, 1) := by decide +kernel
theorem dR_alike_7 : decode mR_alike.2.1 7 = .ok (.invokevirtual 143, 3) := by decide +kernel
theorem dR_alike_10 : decode mR_alike.2.1 10 = .ok (.aload_n 0, 1) := by decide +kernel
theorem dR_alike_11 : decode mR_alike.2.1 11 = .ok (.aload_n 0, 1) := by decide +kernel
theorem dR_alike_12 : decode mR_alike.2.1 12 = .ok (.getfield 20, 3) := by decide +kernel
theorem dR_alike_15 : decode mR_alike.2.1 15 = .ok (.iload_n 2, 1) := by decide +kernel
theorem dR_alike_16 : decode mR_alike.2.1 16 = .ok (.iaload, 1) := by decide +kernel
theorem dR_alike_17 : decode mR_alike.2.1 17 = .ok (.invokevirtual 143, 3) := by decide +kernel
theorem dR_alike_20 : decode mR_alike.2.1 20 = .ok (.if_icmp .ne 30, 3) := by decide +kernel
theorem dR_alike_23 : decode mR_alike.2.1 23 = .ok (.aload_n 0, 1) := by decide +kernel
theorem dR_alike_24 : decode mR_alike.2.1 24 = .ok (.aload_n 0, 1) := by decide +kernel
theorem dR_alike_25 : decode mR_alike.2.1 25 = .ok (.getfield 23, 3) := by decide +kernel
theorem dR_alike_28 : decode mR_alike.2.1 28 = .ok (.iload_n 1, 1) := by decide +kernel
theorem dR_alike_29 : decode mR_alike.2.1 29 = .ok (.iaload, 1) := by decide +kernel
theorem dR_alike_30 : decode mR_alike.2.1 30 = .ok (.invokevirtual 143, 3) := by decide +kernel
theorem dR_alike_33 : decode mR_alike.2.1 33 = .ok (.aload_n 0, 1) := by decide +kernel
theorem dR_alike_34 : decode mR_alike.2.1 34 = .ok (.aload_n 0, 1) := by decide +kernel
theorem dR_alike_35 : decode mR_alike.2.1 35 = .ok (.getfield 23, 3) := by decide +kernel
theorem dR_alike_38 : decode mR_alike.2.1 38 = .ok (.iload_n 2, 1) := by decide +kernel
theorem dR_alike_39 : decode mR_alike.2.1 39 = .ok (.iaload, 1) := by decide +kernel
theorem dR_alike_40 : decode mR_alike.2.1 40 = .ok (.invokevirtual 143, 3) := by decide +kernel
theorem dR_alike_43 : decode mR_alike.2.1 43 = .ok (.if_icmp .ne 7, 3) := by decide +kernel
theorem dR_alike_46 : decode mR_alike.2.1 46 = .ok (.iconst 1, 1) := by decide +kernel
theorem dR_alike_47 : decode mR_alike.2.1 47 = .ok (.goto 4, 3) := by decide +kernel
theorem dR_alike_50 : decode mR_alike.2.1 50 = .ok (.iconst 0, 1) := by decide +kernel
theorem dR_alike_51 : decode mR_alike.2.1 51 = .ok (.istore_n 3, 1) := by decide +kernel
theorem dR_alike_52 : decode mR_alike.2.1 52 = .ok (.aload_n 0, 1) := by decide +kernel
theorem dR_alike_53 : decode mR_alike.2.1 53 = .ok (.iload_n 1, 1) := by decide +kernel
theorem dR_alike_54 : decode mR_alike.2.1 54 = .ok (.iload_n 2, 1) := by decide +kernel
theorem dR_alike_55 : decode mR_alike.2.1 55 = .ok (.invokevirtual 140, 3) := by decide +kernel
theorem dR_alike_58 : decode mR_alike.2.1 58 = .ok (.ifCond .eq 38, 3) := by decide +kernel
theorem dR_alike_61 : decode mR_alike.2.1 61 = .ok (.aload_n 0, 1) := by decide +kernel
theorem dR_alike_62 : decode mR_alike.2.1 62 = .ok (.getfield 32, 3) := by decide +kernel
theorem dR_alike_65 : decode mR_alike.2.1 65 = .ok (.iload_n 1, 1) := by decide +kernel
theorem dR_alike_66 : decode mR_alike.2.1 66 = .ok (.iaload, 1) := by decide +kernel
theorem dR_alike_67 : decode mR_alike.2.1 67 = .ok (.aload_n 0, 1) := by decide +kernel
theorem dR_alike_68 : decode mR_alike.2.1 68 = .ok (.getfield 32, 3) := by decide +kernel
theorem dR_alike_71 : decode mR_alike.2.1 71 = .ok (.iload_n 2, 1) := by decide +kernel
theorem dR_alike_72 : decode mR_alike.2.1 72 = .ok (.iaload, 1) := by decide +kernel
theorem dR_alike_73 : decode mR_alike.2.1 73 = .ok (.if_icmp .ne 23, 3) := by decide +kernel
theorem dR_alike_76 : decode mR_alike.2.1 76 = .ok (.aload_n 0, 1) := by decide +kernel
theorem dR_alike_77 : decode mR_alike.2.1 77 = .ok (.getfield 35, 3) := by decide +kernel
theorem dR_alike_80 : decode mR_alike.2.1 80 = .ok (.iload_n 1, 1) := by decide +kernel
theorem dR_alike_81 : decode mR_alike.2.1 81 = .ok (.daload, 1) := by decide +kernel
theorem dR_alike_82 : decode mR_alike.2.1 82 = .ok (.aload_n 0, 1) := by decide +kernel
theorem dR_alike_83 : decode mR_alike.2.1 83 = .ok (.getfield 35, 3) := by decide +kernel
theorem dR_alike_86 : decode mR_alike.2.1 86 = .ok (.iload_n 2, 1) := by decide +kernel
theorem dR_alike_87 : decode mR_alike.2.1 87 = .ok (.daload, 1) := by decide +kernel
theorem dR_alike_88 : decode mR_alike.2.1 88 = .ok (.dcmp .l, 1) := by decide +kernel
theorem dR_alike_89 : decode mR_alike.2.1 89 = .ok (.ifCond .ne 7, 3) := by decide +kernel
theorem dR_alike_92 : decode mR_alike.2.1 92 = .ok (.iconst 1, 1) := by decide +kernel
theorem dR_alike_93 : decode mR_alike.2.1 93 = .ok (.goto 4, 3) := by decide +kernel
theorem dR_alike_96 : decode mR_alike.2.1 96 = .ok (.iconst 0, 1) := by decide +kernel
theorem dR_alike_97 : decode mR_alike.2.1 97 = .ok (.istore 4, 2) := by decide +kernel
theorem dR_alike_99 : decode mR_alike.2.1 99 = .ok (.aload_n 0, 1) := by decide +kernel
theorem dR_alike_100 : decode mR_alike.2.1 100 = .ok (.getfield 42, 3) := by decide +kernel
theorem dR_alike_103 : decode mR_alike.2.1 103 = .ok (.iload_n 1, 1) := by decide +kernel
theorem dR_alike_104 : decode mR_alike.2.1 104 = .ok (.iaload, 1) := by decide +kernel
theorem dR_alike_105 : decode mR_alike.2.1 105 = .ok (.aload_n 0, 1) := by decide +kernel
theorem dR_alike_106 : decode mR_alike.2.1 106 = .ok (.getfield 42, 3) := by decide +kernel
theorem dR_alike_109 : decode mR_alike.2.1 109 = .ok (.iload_n 2, 1) := by decide +kernel
theorem dR_alike_110 : decode mR_alike.2.1 110 = .ok (.iaload, 1) := by decide +kernel
theorem dR_alike_111 : decode mR_alike.2.1 111 = .ok (.if_icmp .ne 52, 3) := by decide +kernel
theorem dR_alike_114 : decode mR_alike.2.1 114 = .ok (.aload_n 0, 1) := by decide +kernel
theorem dR_alike_115 : decode mR_alike.2.1 115 = .ok (.getfield 45, 3) := by decide +kernel
theorem dR_alike_118 : decode mR_alike.2.1 118 = .ok (.iload_n 1, 1) := by decide +kernel
theorem dR_alike_119 : decode mR_alike.2.1 119 = .ok (.iaload, 1) := by decide +kernel
theorem dR_alike_120 : decode mR_alike.2.1 120 = .ok (.aload_n 0, 1) := by decide +kernel
theorem dR_alike_121 : decode mR_alike.2.1 121 = .ok (.getfield 45, 3) := by decide +kernel
theorem dR_alike_124 : decode mR_alike.2.1 124 = .ok (.iload_n 2, 1) := by decide +kernel
theorem dR_alike_125 : decode mR_alike.2.1 125 = .ok (.iaload, 1) := by decide +kernel
theorem dR_alike_126 : decode mR_alike.2.1 126 = .ok (.if_icmp .ne 37, 3) := by decide +kernel
theorem dR_alike_129 : decode mR_alike.2.1 129 = .ok (.aload_n 0, 1) := by decide +kernel
theorem dR_alike_130 : decode mR_alike.2.1 130 = .ok (.getfield 48, 3) := by decide +kernel
theorem dR_alike_133 : decode mR_alike.2.1 133 = .ok (.iload_n 1, 1) := by decide +kernel
theorem dR_alike_134 : decode mR_alike.2.1 134 = .ok (.iaload, 1) := by decide +kernel
theorem dR_alike_135 : decode mR_alike.2.1 135 = .ok (.aload_n 0, 1) := by decide +kernel
theorem dR_alike_136 : decode mR_alike.2.1 136 = .ok (.getfield 48, 3) := by decide +kernel
theorem dR_alike_139 : decode mR_alike.2.1 139 = .ok (.iload_n 2, 1) := by decide +kernel
theorem dR_alike_140 : decode mR_alike.2.1 140 = .ok (.iaload, 1) := by decide +kernel
theorem dR_alike_141 : decode mR_alike.2.1 141 = .ok (.if_icmp .ne 22, 3) := by decide +kernel
theorem dR_alike_144 : decode mR_alike.2.1 144 = .ok (.aload_n 0, 1) := by decide +kernel
theorem dR_alike_145 : decode mR_alike.2.1 145 = .ok (.getfield 51, 3) := by decide +kernel
theorem dR_alike_148 : decode mR_alike.2.1 148 = .ok (.iload_n 1, 1) := by decide +kernel
theorem dR_alike_149 : decode mR_alike.2.1 149 = .ok (.iaload, 1) := by decide +kernel
theorem dR_alike_150 : decode mR_alike.2.1 150 = .ok (.aload_n 0, 1) := by decide +kernel
theorem dR_alike_151 : decode mR_alike.2.1 151 = .ok (.getfield 51, 3) := by decide +kernel
theorem dR_alike_154 : decode mR_alike.2.1 154 = .ok (.iload_n 2, 1) := by decide +kernel
theorem dR_alike_155 : decode mR_alike.2.1 155 = .ok (.iaload, 1) := by decide +kernel
theorem dR_alike_156 : decode mR_alike.2.1 156 = .ok (.if_icmp .ne 7, 3) := by decide +kernel
theorem dR_alike_159 : decode mR_alike.2.1 159 = .ok (.iconst 1, 1) := by decide +kernel
theorem dR_alike_160 : decode mR_alike.2.1 160 = .ok (.goto 4, 3) := by decide +kernel
theorem dR_alike_163 : decode mR_alike.2.1 163 = .ok (.iconst 0, 1) := by decide +kernel
theorem dR_alike_164 : decode mR_alike.2.1 164 = .ok (.istore 5, 2) := by decide +kernel
theorem dR_alike_166 : decode mR_alike.2.1 166 = .ok (.aload_n 0, 1) := by decide +kernel
theorem dR_alike_167 : decode mR_alike.2.1 167 = .ok (.getfield 17, 3) := by decide +kernel
theorem dR_alike_170 : decode mR_alike.2.1 170 = .ok (.iload_n 1, 1) := by decide +kernel
theorem dR_alike_171 : decode mR_alike.2.1 171 = .ok (.iaload, 1) := by decide +kernel
theorem dR_alike_172 : decode mR_alike.2.1 172 = .ok (.aload_n 0, 1) := by decide +kernel
theorem dR_alike_173 : decode mR_alike.2.1 173 = .ok (.getfield 17, 3) := by decide +kernel
theorem dR_alike_176 : decode mR_alike.2.1 176 = .ok (.iload_n 2, 1) := by decide +kernel
theorem dR_alike_177 : decode mR_alike.2.1 177 = .ok (.iaload, 1) := by decide +kernel
theorem dR_alike_178 : decode mR_alike.2.1 178 = .ok (.if_icmp .ne 37, 3) := by decide +kernel
theorem dR_alike_181 : decode mR_alike.2.1 181 = .ok (.iload_n 3, 1) := by decide +kernel
theorem dR_alike_182 : decode mR_alike.2.1 182 = .ok (.ifCond .eq 33, 3) := by decide +kernel
theorem dR_alike_185 : decode mR_alike.2.1 185 = .ok (.iload 4, 2) := by decide +kernel
theorem dR_alike_187 : decode mR_alike.2.1 187 = .ok (.ifCond .eq 28, 3) := by decide +kernel
theorem dR_alike_190 : decode mR_alike.2.1 190 = .ok (.iload 5, 2) := by decide +kernel
theorem dR_alike_192 : decode mR_alike.2.1 192 = .ok (.ifCond .eq 23, 3) := by decide +kernel
theorem dR_alike_195 : decode mR_alike.2.1 195 = .ok (.aload_n 0, 1) := by decide +kernel
theorem dR_alike_196 : decode mR_alike.2.1 196 = .ok (.getfield 39, 3) := by decide +kernel
theorem dR_alike_199 : decode mR_alike.2.1 199 = .ok (.iload_n 1, 1) := by decide +kernel
theorem dR_alike_200 : decode mR_alike.2.1 200 = .ok (.daload, 1) := by decide +kernel
theorem dR_alike_201 : decode mR_alike.2.1 201 = .ok (.aload_n 0, 1) := by decide +kernel
theorem dR_alike_202 : decode mR_alike.2.1 202 = .ok (.getfield 39, 3) := by decide +kernel
theorem dR_alike_205 : decode mR_alike.2.1 205 = .ok (.iload_n 2, 1) := by decide +kernel
theorem dR_alike_206 : decode mR_alike.2.1 206 = .ok (.daload, 1) := by decide +kernel
theorem dR_alike_207 : decode mR_alike.2.1 207 = .ok (.dcmp .l, 1) := by decide +kernel
theorem dR_alike_208 : decode mR_alike.2.1 208 = .ok (.ifCond .ne 7, 3) := by decide +kernel
theorem dR_alike_211 : decode mR_alike.2.1 211 = .ok (.iconst 1, 1) := by decide +kernel
theorem dR_alike_212 : decode mR_alike.2.1 212 = .ok (.goto 4, 3) := by decide +kernel
theorem dR_alike_215 : decode mR_alike.2.1 215 = .ok (.iconst 0, 1) := by decide +kernel
theorem dR_alike_216 : decode mR_alike.2.1 216 = .ok (.ireturn, 1) := by decide +kernel
theorem dR_findRoles_0 : decode mR_findRoles.2.1 0 = .ok (.aload_n 0, 1) := by decide +kernel
theorem dR_findRoles_1 : decode mR_findRoles.2.1 1 = .ok (.getfield 64, 3) := by decide +kernel
theorem dR_findRoles_4 : decode mR_findRoles.2.1 4 = .ok (.aload_n 0, 1) := by decide +kernel
theorem dR_findRoles_5 : decode mR_findRoles.2.1 5 = .ok (.getfield 60, 3) := by decide +kernel
theorem dR_findRoles_8 : decode mR_findRoles.2.1 8 = .ok (.iaload, 1) := by decide +kernel
theorem dR_findRoles_9 : decode mR_findRoles.2.1 9 = .ok (.istore_n 1, 1) := by decide +kernel
theorem dR_findRoles_10 : decode mR_findRoles.2.1 10 = .ok (.iconst 0, 1) := by decide +kernel
theorem dR_findRoles_11 : decode mR_findRoles.2.1 11 = .ok (.istore_n 2, 1) := by decide +kernel
theorem dR_findRoles_12 : decode mR_findRoles.2.1 12 = .ok (.iload_n 2, 1) := by decide +kernel
theorem dR_findRoles_13 : decode mR_findRoles.2.1 13 = .ok (.aload_n 0, 1) := by decide +kernel
theorem dR_findRoles_14 : decode mR_findRoles.2.1 14 = .ok (.getfield 106, 3) := by decide +kernel
theorem dR_findRoles_17 : decode mR_findRoles.2.1 17 = .ok (.if_icmp .ge 16, 3) := by decide +kernel
theorem dR_findRoles_20 : decode mR_findRoles.2.1 20 = .ok (.aload_n 0, 1) := by decide +kernel
theorem dR_findRoles_21 : decode mR_findRoles.2.1 21 = .ok (.getfield 67, 3) := by decide +kernel
theorem dR_findRoles_24 : decode mR_findRoles.2.1 24 = .ok (.iload_n 2, 1) := by decide +kernel
theorem dR_findRoles_25 : decode mR_findRoles.2.1 25 = .ok (.iconst 0, 1) := by decide +kernel
theorem dR_findRoles_26 : decode mR_findRoles.2.1 26 = .ok (.iastore, 1) := by decide +kernel
theorem dR_findRoles_27 : decode mR_findRoles.2.1 27 = .ok (.iinc 2 1, 3) := by decide +kernel
theorem dR_findRoles_30 : decode mR_findRoles.2.1 30 = .ok (.goto (-18), 3) := by decide +kernel
theorem dR_findRoles_33 : decode mR_findRoles.2.1 33 = .ok (.aload_n 0, 1) := by decide +kernel
theorem dR_findRoles_34 : decode mR_findRoles.2.1 34 = .ok (.getfield 67, 3) := by decide +kernel
theorem dR_findRoles_37 : decode mR_findRoles.2.1 37 = .ok (.iload_n 1, 1) := by decide +kernel
theorem dR_findRoles_38 : decode mR_findRoles.2.1 38 = .ok (.iconst 2, 1) := by decide +kernel
theorem dR_findRoles_39 : decode mR_findRoles.2.1 39 = .ok (.iastore, 1) := by decide +kernel
theorem dR_findRoles_40 : decode mR_findRoles.2.1 40 = .ok (.aload_n 0, 1) := by decide +kernel
theorem dR_findRoles_41 : decode mR_findRoles.2.1 41 = .ok (.getfield 106, 3) := by decide +kernel
theorem dR_findRoles_44 : decode mR_findRoles.2.1 44 = .ok (.iconst 1, 1) := by decide +kernel
theorem dR_findRoles_45 : decode mR_findRoles.2.1 45 = .ok (.isub, 1) := by decide +kernel
theorem dR_findRoles_46 : decode mR_findRoles.2.1 46 = .ok (.istore_n 2, 1) := by decide +kernel
theorem dR_findRoles_47 : decode mR_findRoles.2.1 47 = .ok (.iload_n 2, 1) := by decide +kernel
theorem dR_findRoles_48 : decode mR_findRoles.2.1 48 = .ok (.ifCond .lt 71, 3) := by decide +kernel
theorem dR_findRoles_51 : decode mR_findRoles.2.1 51 = .ok (.aload_n 0, 1) := by decide +kernel
theorem dR_findRoles_52 : decode mR_findRoles.2.1 52 = .ok (.getfield 67, 3) := by decide +kernel
theorem dR_findRoles_55 : decode mR_findRoles.2.1 55 = .ok (.iload_n 2, 1) := by decide +kernel
theorem dR_findRoles_56 : decode mR_findRoles.2.1 56 = .ok (.iaload, 1) := by decide +kernel
theorem dR_findRoles_57 : decode mR_findRoles.2.1 57 = .ok (.ifCond .ne 6, 3) := by decide +kernel
theorem dR_findRoles_60 : decode mR_findRoles.2.1 60 = .ok (.goto 53, 3) := by decide +kernel
theorem dR_findRoles_63 : decode mR_findRoles.2.1 63 = .ok (.aload_n 0, 1) := by decide +kernel
theorem dR_findRoles_64 : decode mR_findRoles.2.1 64 = .ok (.getfield 20, 3) := by decide +kernel
theorem dR_findRoles_67 : decode mR_findRoles.2.1 67 = .ok (.iload_n 2, 1) := by decide +kernel
theorem dR_findRoles_68 : decode mR_findRoles.2.1 68 = .ok (.iaload, 1) := by decide +kernel
theorem dR_findRoles_69 : decode mR_findRoles.2.1 69 = .ok (.ifCond .lt 19, 3) := by decide +kernel
theorem dR_findRoles_72 : decode mR_findRoles.2.1 72 = .ok (.aload_n 0, 1) := by decide +kernel
theorem dR_findRoles_73 : decode mR_findRoles.2.1 73 = .ok (.getfield 67, 3) := by decide +kernel
theorem dR_findRoles_76 : decode mR_findRoles.2.1 76 = .ok (.aload_n 0, 1) := by decide +kernel
theorem dR_findRoles_77 : decode mR_findRoles.2.1 77 = .ok (.aload_n 0, 1) := by decide +kernel
theorem dR_findRoles_78 : decode mR_findRoles.2.1 78 = .ok (.getfield 20, 3) := by decide +kernel
theorem dR_findRoles_81 : decode mR_findRoles.2.1 81 = .ok (.iload_n 2, 1) := by decide +kernel
theorem dR_findRoles_82 : decode mR_findRoles.2.1 82 = .ok (.iaload, 1) := by decide +kernel
theorem dR_findRoles_83 : decode mR_findRoles.2.1 83 = .ok (.invokevirtual 143, 3) := by decide +kernel
theorem dR_findRoles_86 : decode mR_findRoles.2.1 86 = .ok (.iconst 2, 1) := by decide +kernel
theorem dR_findRoles_87 : decode mR_findRoles.2.1 87 = .ok (.iastore, 1) := by decide +kernel
theorem dR_findRoles_88 : decode mR_findRoles.2.1 88 = .ok (.aload_n 0, 1) := by decide +kernel
theorem dR_findRoles_89 : decode mR_findRoles.2.1 89 = .ok (.getfield 23, 3) := by decide +kernel
theorem dR_findRoles_92 : decode mR_findRoles.2.1 92 = .ok (.iload_n 2, 1) := by decide +kernel
theorem dR_findRoles_93 : decode mR_findRoles.2.1 93 = .ok (.iaload, 1) := by decide +kernel
theorem dR_findRoles_94 : decode mR_findRoles.2.1 94 = .ok (.ifCond .lt 19, 3) := by decide +kernel
theorem dR_findRoles_97 : decode mR_findRoles.2.1 97 = .ok (.aload_n 0, 1) := by decide +kernel
theorem dR_findRoles_98 : decode mR_findRoles.2.1 98 = .ok (.getfield 67, 3) := by decide +kernel
theorem dR_findRoles_101 : decode mR_findRoles.2.1 101 = .ok (.aload_n 0, 1) := by decide +kernel
theorem dR_findRoles_102 : decode mR_findRoles.2.1 102 = .ok (.aload_n 0, 1) := by decide +kernel
theorem dR_findRoles_103 : decode mR_findRoles.2.1 103 = .ok (.getfield 23, 3) := by decide +kernel
theorem dR_findRoles_106 : decode mR_findRoles.2.1 106 = .ok (.iload_n 2, 1) := by decide +kernel
theorem dR_findRoles_107 : decode mR_findRoles.2.1 107 = .ok (.iaload, 1) := by decide +kernel
theorem dR_findRoles_108 : decode mR_findRoles.2.1 108 = .ok (.invokevirtual 143, 3) := by decide +kernel
theorem dR_findRoles_111 : decode mR_findRoles.2.1 111 = .ok (.iconst 2, 1) := by decide +kernel
theorem dR_findRoles_112 : decode mR_findRoles.2.1 112 = .ok (.iastore, 1) := by decide +kernel
theorem dR_findRoles_113 : decode mR_findRoles.2.1 113 = .ok (.iinc 2 (-1), 3) := by decide +kernel
theorem dR_findRoles_116 : decode mR_findRoles.2.1 116 = .ok (.goto (-69), 3) := by decide +kernel
theorem dR_findRoles_119 : decode mR_findRoles.2.1 119 = .ok (.iconst 0, 1) := by decide +kernel
theorem dR_findRoles_120 : decode mR_findRoles.2.1 120 = .ok (.istore_n 2, 1) := by decide +kernel
theorem dR_findRoles_121 : decode mR_findRoles.2.1 121 = .ok (.iload_n 2, 1) := by decide +kernel
theorem dR_findRoles_122 : decode mR_findRoles.2.1 122 = .ok (.aload_n 0, 1) := by decide +kernel
theorem dR_findRoles_123 : decode mR_findRoles.2.1 123 = .ok (.getfield 106, 3) := by decide +kernel
theorem dR_findRoles_126 : decode mR_findRoles.2.1 126 = .ok (.if_icmp .ge 112, 3) := by decide +kernel
theorem dR_findRoles_129 : decode mR_findRoles.2.1 129 = .ok (.aload_n 0, 1) := by decide +kernel
theorem dR_findRoles_130 : decode mR_findRoles.2.1 130 = .ok (.getfield 67, 3) := by decide +kernel
theorem dR_findRoles_133 : decode mR_findRoles.2.1 133 = .ok (.iload_n 2, 1) := by decide +kernel
theorem dR_findRoles_134 : decode mR_findRoles.2.1 134 = .ok (.iaload, 1) := by decide +kernel
theorem dR_findRoles_135 : decode mR_findRoles.2.1 135 = .ok (.ifCond .eq 97, 3) := by decide +kernel
theorem dR_findRoles_138 : decode mR_findRoles.2.1 138 = .ok (.aload_n 0, 1) := by decide +kernel
theorem dR_findRoles_139 : decode mR_findRoles.2.1 139 = .ok (.getfield 17, 3) := by decide +kernel
theorem dR_findRoles_142 : decode mR_findRoles.2.1 142 = .ok (.iload_n 2, 1) := by decide +kernel
theorem dR_findRoles_143 : decode mR_findRoles.2.1 143 = .ok (.iaload, 1) := by decide +kernel
theorem dR_findRoles_144 : decode mR_findRoles.2.1 144 = .ok (.iconst 1, 1) := by decide +kernel
theorem dR_findRoles_145 : decode mR_findRoles.2.1 145 = .ok (.if_icmp .lt 87, 3) := by decide +kernel
theorem dR_findRoles_148 : decode mR_findRoles.2.1 148 = .ok (.aload_n 0, 1) := by decide +kernel
theorem dR_findRoles_149 : decode mR_findRoles.2.1 149 = .ok (.getfield 17, 3) := by decide +kernel
theorem dR_findRoles_152 : decode mR_findRoles.2.1 152 = .ok (.iload_n 2, 1) := by decide +kernel
theorem dR_findRoles_153 : decode mR_findRoles.2.1 153 = .ok (.iaload, 1) := by decide +kernel
theorem dR_findRoles_154 : decode mR_findRoles.2.1 154 = .ok (.iconst 3, 1) := by decide +kernel
theorem dR_findRoles_155 : decode mR_findRoles.2.1 155 = .ok (.if_icmp .gt 77, 3) := by decide +kernel
theorem dR_findRoles_158 : decode mR_findRoles.2.1 158 = .ok (.iload_n 2, 1) := by decide +kernel
theorem dR_findRoles_159 : decode mR_findRoles.2.1 159 = .ok (.iload_n 1, 1) := by decide +kernel
theorem dR_findRoles_160 : decode mR_findRoles.2.1 160 = .ok (.if_icmp .eq 72, 3) := by decide +kernel
theorem dR_findRoles_163 : decode mR_findRoles.2.1 163 = .ok (.aload_n 0, 1) := by decide +kernel
theorem dR_findRoles_164 : decode mR_findRoles.2.1 164 = .ok (.iload_n 2, 1) := by decide +kernel
theorem dR_findRoles_165 : decode mR_findRoles.2.1 165 = .ok (.invokevirtual 149, 3) := by decide +kernel
theorem dR_findRoles_168 : decode mR_findRoles.2.1 168 = .ok (.iconst 1, 1) := by decide +kernel
theorem dR_findRoles_169 : decode mR_findRoles.2.1 169 = .ok (.if_icmp .eq 6, 3) := by decide +kernel
theorem dR_findRoles_172 : decode mR_findRoles.2.1 172 = .ok (.goto 60, 3) := by decide +kernel
theorem dR_findRoles_175 : decode mR_findRoles.2.1 175 = .ok (.iconst 0, 1) := by decide +kernel
theorem dR_findRoles_176 : decode mR_findRoles.2.1 176 = .ok (.istore_n 3, 1) := by decide +kernel
theorem dR_findRoles_177 : decode mR_findRoles.2.1 177 = .ok (.iload_n 3, 1) := by decide +kernel
theorem dR_findRoles_178 : decode mR_findRoles.2.1 178 = .ok (.aload_n 0, 1) := by decide +kernel
theorem dR_findRoles_179 : decode mR_findRoles.2.1 179 = .ok (.getfield 106, 3) := by decide +kernel
theorem dR_findRoles_182 : decode mR_findRoles.2.1 182 = .ok (.if_icmp .ge 50, 3) := by decide +kernel
theorem dR_findRoles_185 : decode mR_findRoles.2.1 185 = .ok (.aload_n 0, 1) := by decide +kernel
theorem dR_findRoles_186 : decode mR_findRoles.2.1 186 = .ok (.getfield 67, 3) := by decide +kernel
theorem dR_findRoles_189 : decode mR_findRoles.2.1 189 = .ok (.iload_n 3, 1) := by decide +kernel
theorem dR_findRoles_190 : decode mR_findRoles.2.1 190 = .ok (.iaload, 1) := by decide +kernel
theorem dR_findRoles_191 : decode mR_findRoles.2.1 191 = .ok (.ifCond .le 35, 3) := by decide +kernel
theorem dR_findRoles_194 : decode mR_findRoles.2.1 194 = .ok (.aload_n 0, 1) := by decide +kernel
theorem dR_findRoles_195 : decode mR_findRoles.2.1 195 = .ok (.getfield 17, 3) := by decide +kernel
theorem dR_findRoles_198 : decode mR_findRoles.2.1 198 = .ok (.iload_n 3, 1) := by decide +kernel
theorem dR_findRoles_199 : decode mR_findRoles.2.1 199 = .ok (.iaload, 1) := by decide +kernel
theorem dR_findRoles_200 : decode mR_findRoles.2.1 200 = .ok (.bipush 9, 2) := by decide +kernel
theorem dR_findRoles_202 : decode mR_findRoles.2.1 202 = .ok (.if_icmp .ne 24, 3) := by decide +kernel
theorem dR_findRoles_205 : decode mR_findRoles.2.1 205 = .ok (.aload_n 0, 1) := by decide +kernel
theorem dR_findRoles_206 : decode mR_findRoles.2.1 206 = .ok (.aload_n 0, 1) := by decide +kernel
theorem dR_findRoles_207 : decode mR_findRoles.2.1 207 = .ok (.getfield 20, 3) := by decide +kernel
theorem dR_findRoles_210 : decode mR_findRoles.2.1 210 = .ok (.iload_n 3, 1) := by decide +kernel
theorem dR_findRoles_211 : decode mR_findRoles.2.1 211 = .ok (.iaload, 1) := by decide +kernel
theorem dR_findRoles_212 : decode mR_findRoles.2.1 212 = .ok (.invokevirtual 143, 3) := by decide +kernel
theorem dR_findRoles_215 : decode mR_findRoles.2.1 215 = .ok (.iload_n 2, 1) := by decide +kernel
end
section
theorem dR_findRoles_216 : decode mR_findRoles.2.1 216 = .ok (.if_icmp .ne 10, 3) := by decide +kernel
theorem dR_findRoles_219 : decode mR_findRoles.2.1 219 = .ok (.aload_n 0, 1) := by decide +kernel
theorem dR_findRoles_220 : decode mR_findRoles.2.1 220 = .ok (.getfield 67, 3) := by decide +kernel
theorem dR_findRoles_223 : decode mR_findRoles.2.1 223 = .ok (.iload_n 2, 1) := by decide +kernel
theorem dR_findRoles_224 : decode mR_findRoles.2.1 224 = .ok (.iconst 1, 1) := by decide +kernel
theorem dR_findRoles_225 : decode mR_findRoles.2.1 225 = .ok (.iastore, 1) := by decide +kernel
theorem dR_findRoles_226 : decode mR_findRoles.2.1 226 = .ok (.iinc 3 1, 3) := by decide +kernel
theorem dR_findRoles_229 : decode mR_findRoles.2.1 229 = .ok (.goto (-52), 3) := by decide +kernel
theorem dR_findRoles_232 : decode mR_findRoles.2.1 232 = .ok (.iinc 2 1, 3) := by decide +kernel
theorem dR_findRoles_235 : decode mR_findRoles.2.1 235 = .ok (.goto (-114), 3) := by decide +kernel
theorem dR_findRoles_238 : decode mR_findRoles.2.1 238 = .ok (.return_, 1) := by decide +kernel
theorem dR_uses_0 : decode mR_uses.2.1 0 = .ok (.iconst 0, 1) := by decide +kernel
theorem dR_uses_1 : decode mR_uses.2.1 1 = .ok (.istore_n 2, 1) := by decide +kernel
theorem dR_uses_2 : decode mR_uses.2.1 2 = .ok (.iconst 0, 1) := by decide +kernel
theorem dR_uses_3 : decode mR_uses.2.1 3 = .ok (.istore_n 3, 1) := by decide +kernel
theorem dR_uses_4 : decode mR_uses.2.1 4 = .ok (.iload_n 3, 1) := by decide +kernel
theorem dR_uses_5 : decode mR_uses.2.1 5 = .ok (.aload_n 0, 1) := by decide +kernel
theorem dR_uses_6 : decode mR_uses.2.1 6 = .ok (.getfield 106, 3) := by decide +kernel
theorem dR_uses_9 : decode mR_uses.2.1 9 = .ok (.if_icmp .ge 65, 3) := by decide +kernel
theorem dR_uses_12 : decode mR_uses.2.1 12 = .ok (.aload_n 0, 1) := by decide +kernel
theorem dR_uses_13 : decode mR_uses.2.1 13 = .ok (.getfield 67, 3) := by decide +kernel
theorem dR_uses_16 : decode mR_uses.2.1 16 = .ok (.iload_n 3, 1) := by decide +kernel
theorem dR_uses_17 : decode mR_uses.2.1 17 = .ok (.iaload, 1) := by decide +kernel
theorem dR_uses_18 : decode mR_uses.2.1 18 = .ok (.ifCond .ne 6, 3) := by decide +kernel
theorem dR_uses_21 : decode mR_uses.2.1 21 = .ok (.goto 47, 3) := by decide +kernel
theorem dR_uses_24 : decode mR_uses.2.1 24 = .ok (.iload_n 2, 1) := by decide +kernel
theorem dR_uses_25 : decode mR_uses.2.1 25 = .ok (.aload_n 0, 1) := by decide +kernel
theorem dR_uses_26 : decode mR_uses.2.1 26 = .ok (.aload_n 0, 1) := by decide +kernel
theorem dR_uses_27 : decode mR_uses.2.1 27 = .ok (.getfield 20, 3) := by decide +kernel
theorem dR_uses_30 : decode mR_uses.2.1 30 = .ok (.iload_n 3, 1) := by decide +kernel
theorem dR_uses_31 : decode mR_uses.2.1 31 = .ok (.iaload, 1) := by decide +kernel
theorem dR_uses_32 : decode mR_uses.2.1 32 = .ok (.invokevirtual 143, 3) := by decide +kernel
theorem dR_uses_35 : decode mR_uses.2.1 35 = .ok (.iload_n 1, 1) := by decide +kernel
theorem dR_uses_36 : decode mR_uses.2.1 36 = .ok (.if_icmp .ne 7, 3) := by decide +kernel
theorem dR_uses_39 : decode mR_uses.2.1 39 = .ok (.iconst 1, 1) := by decide +kernel
theorem dR_uses_40 : decode mR_uses.2.1 40 = .ok (.goto 4, 3) := by decide +kernel
theorem dR_uses_43 : decode mR_uses.2.1 43 = .ok (.iconst 0, 1) := by decide +kernel
theorem dR_uses_44 : decode mR_uses.2.1 44 = .ok (.iadd, 1) := by decide +kernel
theorem dR_uses_45 : decode mR_uses.2.1 45 = .ok (.istore_n 2, 1) := by decide +kernel
theorem dR_uses_46 : decode mR_uses.2.1 46 = .ok (.iload_n 2, 1) := by decide +kernel
theorem dR_uses_47 : decode mR_uses.2.1 47 = .ok (.aload_n 0, 1) := by decide +kernel
theorem dR_uses_48 : decode mR_uses.2.1 48 = .ok (.aload_n 0, 1) := by decide +kernel
theorem dR_uses_49 : decode mR_uses.2.1 49 = .ok (.getfield 23, 3) := by decide +kernel
theorem dR_uses_52 : decode mR_uses.2.1 52 = .ok (.iload_n 3, 1) := by decide +kernel
theorem dR_uses_53 : decode mR_uses.2.1 53 = .ok (.iaload, 1) := by decide +kernel
theorem dR_uses_54 : decode mR_uses.2.1 54 = .ok (.invokevirtual 143, 3) := by decide +kernel
theorem dR_uses_57 : decode mR_uses.2.1 57 = .ok (.iload_n 1, 1) := by decide +kernel
theorem dR_uses_58 : decode mR_uses.2.1 58 = .ok (.if_icmp .ne 7, 3) := by decide +kernel
theorem dR_uses_61 : decode mR_uses.2.1 61 = .ok (.iconst 1, 1) := by decide +kernel
theorem dR_uses_62 : decode mR_uses.2.1 62 = .ok (.goto 4, 3) := by decide +kernel
theorem dR_uses_65 : decode mR_uses.2.1 65 = .ok (.iconst 0, 1) := by decide +kernel
theorem dR_uses_66 : decode mR_uses.2.1 66 = .ok (.iadd, 1) := by decide +kernel
theorem dR_uses_67 : decode mR_uses.2.1 67 = .ok (.istore_n 2, 1) := by decide +kernel
theorem dR_uses_68 : decode mR_uses.2.1 68 = .ok (.iinc 3 1, 3) := by decide +kernel
theorem dR_uses_71 : decode mR_uses.2.1 71 = .ok (.goto (-67), 3) := by decide +kernel
theorem dR_uses_74 : decode mR_uses.2.1 74 = .ok (.iload_n 2, 1) := by decide +kernel
theorem dR_uses_75 : decode mR_uses.2.1 75 = .ok (.ireturn, 1) := by decide +kernel
theorem dR_findLives_0 : decode mR_findLives.2.1 0 = .ok (.aload_n 0, 1) := by decide +kernel
theorem dR_findLives_1 : decode mR_findLives.2.1 1 = .ok (.iconst 0, 1) := by decide +kernel
theorem dR_findLives_2 : decode mR_findLives.2.1 2 = .ok (.putfield 152, 3) := by decide +kernel
theorem dR_findLives_5 : decode mR_findLives.2.1 5 = .ok (.iconst 0, 1) := by decide +kernel
theorem dR_findLives_6 : decode mR_findLives.2.1 6 = .ok (.istore_n 1, 1) := by decide +kernel
theorem dR_findLives_7 : decode mR_findLives.2.1 7 = .ok (.iload_n 1, 1) := by decide +kernel
theorem dR_findLives_8 : decode mR_findLives.2.1 8 = .ok (.aload_n 0, 1) := by decide +kernel
theorem dR_findLives_9 : decode mR_findLives.2.1 9 = .ok (.getfield 106, 3) := by decide +kernel
theorem dR_findLives_12 : decode mR_findLives.2.1 12 = .ok (.if_icmp .ge 39, 3) := by decide +kernel
theorem dR_findLives_15 : decode mR_findLives.2.1 15 = .ok (.aload_n 0, 1) := by decide +kernel
theorem dR_findLives_16 : decode mR_findLives.2.1 16 = .ok (.getfield 67, 3) := by decide +kernel
theorem dR_findLives_19 : decode mR_findLives.2.1 19 = .ok (.iload_n 1, 1) := by decide +kernel
theorem dR_findLives_20 : decode mR_findLives.2.1 20 = .ok (.iaload, 1) := by decide +kernel
theorem dR_findLives_21 : decode mR_findLives.2.1 21 = .ok (.iconst 2, 1) := by decide +kernel
theorem dR_findLives_22 : decode mR_findLives.2.1 22 = .ok (.if_icmp .ne 23, 3) := by decide +kernel
theorem dR_findLives_25 : decode mR_findLives.2.1 25 = .ok (.aload_n 0, 1) := by decide +kernel
theorem dR_findLives_26 : decode mR_findLives.2.1 26 = .ok (.getfield 70, 3) := by decide +kernel
theorem dR_findLives_29 : decode mR_findLives.2.1 29 = .ok (.iload_n 1, 1) := by decide +kernel
theorem dR_findLives_30 : decode mR_findLives.2.1 30 = .ok (.aload_n 0, 1) := by decide +kernel
theorem dR_findLives_31 : decode mR_findLives.2.1 31 = .ok (.getfield 152, 3) := by decide +kernel
theorem dR_findLives_34 : decode mR_findLives.2.1 34 = .ok (.iastore, 1) := by decide +kernel
theorem dR_findLives_35 : decode mR_findLives.2.1 35 = .ok (.aload_n 0, 1) := by decide +kernel
theorem dR_findLives_36 : decode mR_findLives.2.1 36 = .ok (.dup, 1) := by decide +kernel
theorem dR_findLives_37 : decode mR_findLives.2.1 37 = .ok (.getfield 152, 3) := by decide +kernel
theorem dR_findLives_40 : decode mR_findLives.2.1 40 = .ok (.iconst 1, 1) := by decide +kernel
theorem dR_findLives_41 : decode mR_findLives.2.1 41 = .ok (.iadd, 1) := by decide +kernel
theorem dR_findLives_42 : decode mR_findLives.2.1 42 = .ok (.putfield 152, 3) := by decide +kernel
theorem dR_findLives_45 : decode mR_findLives.2.1 45 = .ok (.iinc 1 1, 3) := by decide +kernel
theorem dR_findLives_48 : decode mR_findLives.2.1 48 = .ok (.goto (-41), 3) := by decide +kernel
theorem dR_findLives_51 : decode mR_findLives.2.1 51 = .ok (.iconst 0, 1) := by decide +kernel
theorem dR_findLives_52 : decode mR_findLives.2.1 52 = .ok (.istore_n 1, 1) := by decide +kernel
theorem dR_findLives_53 : decode mR_findLives.2.1 53 = .ok (.iload_n 1, 1) := by decide +kernel
theorem dR_findLives_54 : decode mR_findLives.2.1 54 = .ok (.aload_n 0, 1) := by decide +kernel
theorem dR_findLives_55 : decode mR_findLives.2.1 55 = .ok (.getfield 106, 3) := by decide +kernel
theorem dR_findLives_58 : decode mR_findLives.2.1 58 = .ok (.if_icmp .ge 93, 3) := by decide +kernel
theorem dR_findLives_61 : decode mR_findLives.2.1 61 = .ok (.aload_n 0, 1) := by decide +kernel
theorem dR_findLives_62 : decode mR_findLives.2.1 62 = .ok (.getfield 73, 3) := by decide +kernel
theorem dR_findLives_65 : decode mR_findLives.2.1 65 = .ok (.iload_n 1, 1) := by decide +kernel
theorem dR_findLives_66 : decode mR_findLives.2.1 66 = .ok (.aload_n 0, 1) := by decide +kernel
theorem dR_findLives_67 : decode mR_findLives.2.1 67 = .ok (.getfield 70, 3) := by decide +kernel
theorem dR_findLives_70 : decode mR_findLives.2.1 70 = .ok (.iload_n 1, 1) := by decide +kernel
theorem dR_findLives_71 : decode mR_findLives.2.1 71 = .ok (.iaload, 1) := by decide +kernel
theorem dR_findLives_72 : decode mR_findLives.2.1 72 = .ok (.iastore, 1) := by decide +kernel
theorem dR_findLives_73 : decode mR_findLives.2.1 73 = .ok (.iconst 0, 1) := by decide +kernel
theorem dR_findLives_74 : decode mR_findLives.2.1 74 = .ok (.istore_n 2, 1) := by decide +kernel
theorem dR_findLives_75 : decode mR_findLives.2.1 75 = .ok (.iload_n 2, 1) := by decide +kernel
theorem dR_findLives_76 : decode mR_findLives.2.1 76 = .ok (.aload_n 0, 1) := by decide +kernel
theorem dR_findLives_77 : decode mR_findLives.2.1 77 = .ok (.getfield 106, 3) := by decide +kernel
theorem dR_findLives_80 : decode mR_findLives.2.1 80 = .ok (.if_icmp .ge 65, 3) := by decide +kernel
theorem dR_findLives_83 : decode mR_findLives.2.1 83 = .ok (.aload_n 0, 1) := by decide +kernel
theorem dR_findLives_84 : decode mR_findLives.2.1 84 = .ok (.getfield 67, 3) := by decide +kernel
theorem dR_findLives_87 : decode mR_findLives.2.1 87 = .ok (.iload_n 2, 1) := by decide +kernel
theorem dR_findLives_88 : decode mR_findLives.2.1 88 = .ok (.iaload, 1) := by decide +kernel
theorem dR_findLives_89 : decode mR_findLives.2.1 89 = .ok (.iconst 2, 1) := by decide +kernel
theorem dR_findLives_90 : decode mR_findLives.2.1 90 = .ok (.if_icmp .ne 49, 3) := by decide +kernel
theorem dR_findLives_93 : decode mR_findLives.2.1 93 = .ok (.aload_n 0, 1) := by decide +kernel
theorem dR_findLives_94 : decode mR_findLives.2.1 94 = .ok (.getfield 67, 3) := by decide +kernel
theorem dR_findLives_97 : decode mR_findLives.2.1 97 = .ok (.iload_n 1, 1) := by decide +kernel
theorem dR_findLives_98 : decode mR_findLives.2.1 98 = .ok (.iaload, 1) := by decide +kernel
theorem dR_findLives_99 : decode mR_findLives.2.1 99 = .ok (.iconst 2, 1) := by decide +kernel
theorem dR_findLives_100 : decode mR_findLives.2.1 100 = .ok (.if_icmp .ne 39, 3) := by decide +kernel
theorem dR_findLives_103 : decode mR_findLives.2.1 103 = .ok (.aload_n 0, 1) := by decide +kernel
theorem dR_findLives_104 : decode mR_findLives.2.1 104 = .ok (.iload_n 2, 1) := by decide +kernel
theorem dR_findLives_105 : decode mR_findLives.2.1 105 = .ok (.iload_n 1, 1) := by decide +kernel
theorem dR_findLives_106 : decode mR_findLives.2.1 106 = .ok (.invokevirtual 155, 3) := by decide +kernel
theorem dR_findLives_109 : decode mR_findLives.2.1 109 = .ok (.ifCond .eq 30, 3) := by decide +kernel
theorem dR_findLives_112 : decode mR_findLives.2.1 112 = .ok (.aload_n 0, 1) := by decide +kernel
theorem dR_findLives_113 : decode mR_findLives.2.1 113 = .ok (.getfield 70, 3) := by decide +kernel
theorem dR_findLives_116 : decode mR_findLives.2.1 116 = .ok (.iload_n 2, 1) := by decide +kernel
theorem dR_findLives_117 : decode mR_findLives.2.1 117 = .ok (.iaload, 1) := by decide +kernel
theorem dR_findLives_118 : decode mR_findLives.2.1 118 = .ok (.aload_n 0, 1) := by decide +kernel
theorem dR_findLives_119 : decode mR_findLives.2.1 119 = .ok (.getfield 73, 3) := by decide +kernel
theorem dR_findLives_122 : decode mR_findLives.2.1 122 = .ok (.iload_n 1, 1) := by decide +kernel
theorem dR_findLives_123 : decode mR_findLives.2.1 123 = .ok (.iaload, 1) := by decide +kernel
theorem dR_findLives_124 : decode mR_findLives.2.1 124 = .ok (.if_icmp .le 15, 3) := by decide +kernel
theorem dR_findLives_127 : decode mR_findLives.2.1 127 = .ok (.aload_n 0, 1) := by decide +kernel
theorem dR_findLives_128 : decode mR_findLives.2.1 128 = .ok (.getfield 73, 3) := by decide +kernel
theorem dR_findLives_131 : decode mR_findLives.2.1 131 = .ok (.iload_n 1, 1) := by decide +kernel
theorem dR_findLives_132 : decode mR_findLives.2.1 132 = .ok (.aload_n 0, 1) := by decide +kernel
theorem dR_findLives_133 : decode mR_findLives.2.1 133 = .ok (.getfield 70, 3) := by decide +kernel
theorem dR_findLives_136 : decode mR_findLives.2.1 136 = .ok (.iload_n 2, 1) := by decide +kernel
theorem dR_findLives_137 : decode mR_findLives.2.1 137 = .ok (.iaload, 1) := by decide +kernel
theorem dR_findLives_138 : decode mR_findLives.2.1 138 = .ok (.iastore, 1) := by decide +kernel
theorem dR_findLives_139 : decode mR_findLives.2.1 139 = .ok (.iinc 2 1, 3) := by decide +kernel
theorem dR_findLives_142 : decode mR_findLives.2.1 142 = .ok (.goto (-67), 3) := by decide +kernel
theorem dR_findLives_145 : decode mR_findLives.2.1 145 = .ok (.iinc 1 1, 3) := by decide +kernel
theorem dR_findLives_148 : decode mR_findLives.2.1 148 = .ok (.goto (-95), 3) := by decide +kernel
theorem dR_findLives_151 : decode mR_findLives.2.1 151 = .ok (.aload_n 0, 1) := by decide +kernel
theorem dR_findLives_152 : decode mR_findLives.2.1 152 = .ok (.getfield 73, 3) := by decide +kernel
theorem dR_findLives_155 : decode mR_findLives.2.1 155 = .ok (.aload_n 0, 1) := by decide +kernel
theorem dR_findLives_156 : decode mR_findLives.2.1 156 = .ok (.getfield 64, 3) := by decide +kernel
theorem dR_findLives_159 : decode mR_findLives.2.1 159 = .ok (.aload_n 0, 1) := by decide +kernel
theorem dR_findLives_160 : decode mR_findLives.2.1 160 = .ok (.getfield 60, 3) := by decide +kernel
theorem dR_findLives_163 : decode mR_findLives.2.1 163 = .ok (.iaload, 1) := by decide +kernel
theorem dR_findLives_164 : decode mR_findLives.2.1 164 = .ok (.aload_n 0, 1) := by decide +kernel
theorem dR_findLives_165 : decode mR_findLives.2.1 165 = .ok (.getfield 152, 3) := by decide +kernel
theorem dR_findLives_168 : decode mR_findLives.2.1 168 = .ok (.iastore, 1) := by decide +kernel
theorem dR_findLives_169 : decode mR_findLives.2.1 169 = .ok (.return_, 1) := by decide +kernel
theorem dR_hasInput_0 : decode mR_hasInput.2.1 0 = .ok (.aload_n 0, 1) := by decide +kernel
theorem dR_hasInput_1 : decode mR_hasInput.2.1 1 = .ok (.aload_n 0, 1) := by decide +kernel
theorem dR_hasInput_2 : decode mR_hasInput.2.1 2 = .ok (.getfield 20, 3) := by decide +kernel
theorem dR_hasInput_5 : decode mR_hasInput.2.1 5 = .ok (.iload_n 1, 1) := by decide +kernel
theorem dR_hasInput_6 : decode mR_hasInput.2.1 6 = .ok (.iaload, 1) := by decide +kernel
theorem dR_hasInput_7 : decode mR_hasInput.2.1 7 = .ok (.invokevirtual 143, 3) := by decide +kernel
theorem dR_hasInput_10 : decode mR_hasInput.2.1 10 = .ok (.istore_n 3, 1) := by decide +kernel
theorem dR_hasInput_11 : decode mR_hasInput.2.1 11 = .ok (.iload_n 3, 1) := by decide +kernel
theorem dR_hasInput_12 : decode mR_hasInput.2.1 12 = .ok (.iload_n 2, 1) := by decide +kernel
theorem dR_hasInput_13 : decode mR_hasInput.2.1 13 = .ok (.if_icmp .eq 17, 3) := by decide +kernel
theorem dR_hasInput_16 : decode mR_hasInput.2.1 16 = .ok (.aload_n 0, 1) := by decide +kernel
theorem dR_hasInput_17 : decode mR_hasInput.2.1 17 = .ok (.aload_n 0, 1) := by decide +kernel
theorem dR_hasInput_18 : decode mR_hasInput.2.1 18 = .ok (.getfield 23, 3) := by decide +kernel
theorem dR_hasInput_21 : decode mR_hasInput.2.1 21 = .ok (.iload_n 1, 1) := by decide +kernel
theorem dR_hasInput_22 : decode mR_hasInput.2.1 22 = .ok (.iaload, 1) := by decide +kernel
theorem dR_hasInput_23 : decode mR_hasInput.2.1 23 = .ok (.invokevirtual 143, 3) := by decide +kernel
theorem dR_hasInput_26 : decode mR_hasInput.2.1 26 = .ok (.iload_n 2, 1) := by decide +kernel
theorem dR_hasInput_27 : decode mR_hasInput.2.1 27 = .ok (.if_icmp .ne 5, 3) := by decide +kernel
theorem dR_hasInput_30 : decode mR_hasInput.2.1 30 = .ok (.iconst 1, 1) := by decide +kernel
theorem dR_hasInput_31 : decode mR_hasInput.2.1 31 = .ok (.ireturn, 1) := by decide +kernel
theorem dR_hasInput_32 : decode mR_hasInput.2.1 32 = .ok (.iload_n 3, 1) := by decide +kernel
theorem dR_hasInput_33 : decode mR_hasInput.2.1 33 = .ok (.ifCond .lt 31, 3) := by decide +kernel
theorem dR_hasInput_36 : decode mR_hasInput.2.1 36 = .ok (.aload_n 0, 1) := by decide +kernel
theorem dR_hasInput_37 : decode mR_hasInput.2.1 37 = .ok (.getfield 67, 3) := by decide +kernel
theorem dR_hasInput_40 : decode mR_hasInput.2.1 40 = .ok (.iload_n 3, 1) := by decide +kernel
theorem dR_hasInput_41 : decode mR_hasInput.2.1 41 = .ok (.iaload, 1) := by decide +kernel
theorem dR_hasInput_42 : decode mR_hasInput.2.1 42 = .ok (.iconst 1, 1) := by decide +kernel
theorem dR_hasInput_43 : decode mR_hasInput.2.1 43 = .ok (.if_icmp .ne 21, 3) := by decide +kernel
theorem dR_hasInput_46 : decode mR_hasInput.2.1 46 = .ok (.aload_n 0, 1) := by decide +kernel
theorem dR_hasInput_47 : decode mR_hasInput.2.1 47 = .ok (.aload_n 0, 1) := by decide +kernel
theorem dR_hasInput_48 : decode mR_hasInput.2.1 48 = .ok (.getfield 20, 3) := by decide +kernel
theorem dR_hasInput_51 : decode mR_hasInput.2.1 51 = .ok (.iload_n 3, 1) := by decide +kernel
theorem dR_hasInput_52 : decode mR_hasInput.2.1 52 = .ok (.iaload, 1) := by decide +kernel
theorem dR_hasInput_53 : decode mR_hasInput.2.1 53 = .ok (.invokevirtual 143, 3) := by decide +kernel
theorem dR_hasInput_56 : decode mR_hasInput.2.1 56 = .ok (.iload_n 2, 1) := by decide +kernel
theorem dR_hasInput_57 : decode mR_hasInput.2.1 57 = .ok (.if_icmp .ne 7, 3) := by decide +kernel
theorem dR_hasInput_60 : decode mR_hasInput.2.1 60 = .ok (.iconst 1, 1) := by decide +kernel
theorem dR_hasInput_61 : decode mR_hasInput.2.1 61 = .ok (.goto 4, 3) := by decide +kernel
theorem dR_hasInput_64 : decode mR_hasInput.2.1 64 = .ok (.iconst 0, 1) := by decide +kernel
theorem dR_hasInput_65 : decode mR_hasInput.2.1 65 = .ok (.ireturn, 1) := by decide +kernel
theorem dR_plan_0 : decode mR_plan.2.1 0 = .ok (.aload_n 0, 1) := by decide +kernel
theorem dR_plan_1 : decode mR_plan.2.1 1 = .ok (.iconst 0, 1) := by decide +kernel
theorem dR_plan_2 : decode mR_plan.2.1 2 = .ok (.putfield 158, 3) := by decide +kernel
theorem dR_plan_5 : decode mR_plan.2.1 5 = .ok (.iconst 0, 1) := by decide +kernel
theorem dR_plan_6 : decode mR_plan.2.1 6 = .ok (.istore_n 1, 1) := by decide +kernel
theorem dR_plan_7 : decode mR_plan.2.1 7 = .ok (.iload_n 1, 1) := by decide +kernel
theorem dR_plan_8 : decode mR_plan.2.1 8 = .ok (.aload_n 0, 1) := by decide +kernel
theorem dR_plan_9 : decode mR_plan.2.1 9 = .ok (.getfield 106, 3) := by decide +kernel
theorem dR_plan_12 : decode mR_plan.2.1 12 = .ok (.if_icmp .ge 16, 3) := by decide +kernel
theorem dR_plan_15 : decode mR_plan.2.1 15 = .ok (.aload_n 0, 1) := by decide +kernel
theorem dR_plan_16 : decode mR_plan.2.1 16 = .ok (.getfield 76, 3) := by decide +kernel
theorem dR_plan_19 : decode mR_plan.2.1 19 = .ok (.iload_n 1, 1) := by decide +kernel
theorem dR_plan_20 : decode mR_plan.2.1 20 = .ok (.iconst (-1), 1) := by decide +kernel
theorem dR_plan_21 : decode mR_plan.2.1 21 = .ok (.iastore, 1) := by decide +kernel
theorem dR_plan_22 : decode mR_plan.2.1 22 = .ok (.iinc 1 1, 3) := by decide +kernel
theorem dR_plan_25 : decode mR_plan.2.1 25 = .ok (.goto (-18), 3) := by decide +kernel
theorem dR_plan_28 : decode mR_plan.2.1 28 = .ok (.iconst 0, 1) := by decide +kernel
theorem dR_plan_29 : decode mR_plan.2.1 29 = .ok (.istore_n 1, 1) := by decide +kernel
theorem dR_plan_30 : decode mR_plan.2.1 30 = .ok (.iload_n 1, 1) := by decide +kernel
theorem dR_plan_31 : decode mR_plan.2.1 31 = .ok (.aload_n 0, 1) := by decide +kernel
theorem dR_plan_32 : decode mR_plan.2.1 32 = .ok (.getfield 152, 3) := by decide +kernel
theorem dR_plan_35 : decode mR_plan.2.1 35 = .ok (.if_icmp .ge 164, 3) := by decide +kernel
theorem dR_plan_38 : decode mR_plan.2.1 38 = .ok (.iconst (-1), 1) := by decide +kernel
theorem dR_plan_39 : decode mR_plan.2.1 39 = .ok (.istore_n 2, 1) := by decide +kernel
theorem dR_plan_40 : decode mR_plan.2.1 40 = .ok (.iconst 0, 1) := by decide +kernel
theorem dR_plan_41 : decode mR_plan.2.1 41 = .ok (.istore_n 3, 1) := by decide +kernel
theorem dR_plan_42 : decode mR_plan.2.1 42 = .ok (.iload_n 3, 1) := by decide +kernel
theorem dR_plan_43 : decode mR_plan.2.1 43 = .ok (.aload_n 0, 1) := by decide +kernel
theorem dR_plan_44 : decode mR_plan.2.1 44 = .ok (.getfield 106, 3) := by decide +kernel
theorem dR_plan_47 : decode mR_plan.2.1 47 = .ok (.if_icmp .ge 47, 3) := by decide +kernel
theorem dR_plan_50 : decode mR_plan.2.1 50 = .ok (.aload_n 0, 1) := by decide +kernel
theorem dR_plan_51 : decode mR_plan.2.1 51 = .ok (.getfield 67, 3) := by decide +kernel
theorem dR_plan_54 : decode mR_plan.2.1 54 = .ok (.iload_n 3, 1) := by decide +kernel
theorem dR_plan_55 : decode mR_plan.2.1 55 = .ok (.iaload, 1) := by decide +kernel
theorem dR_plan_56 : decode mR_plan.2.1 56 = .ok (.iconst 2, 1) := by decide +kernel
theorem dR_plan_57 : decode mR_plan.2.1 57 = .ok (.if_icmp .ne 31, 3) := by decide +kernel
theorem dR_plan_60 : decode mR_plan.2.1 60 = .ok (.aload_n 0, 1) := by decide +kernel
theorem dR_plan_61 : decode mR_plan.2.1 61 = .ok (.getfield 76, 3) := by decide +kernel
theorem dR_plan_64 : decode mR_plan.2.1 64 = .ok (.iload_n 3, 1) := by decide +kernel
theorem dR_plan_65 : decode mR_plan.2.1 65 = .ok (.iaload, 1) := by decide +kernel
theorem dR_plan_66 : decode mR_plan.2.1 66 = .ok (.ifCond .ge 22, 3) := by decide +kernel
theorem dR_plan_69 : decode mR_plan.2.1 69 = .ok (.iload_n 2, 1) := by decide +kernel
theorem dR_plan_70 : decode mR_plan.2.1 70 = .ok (.ifCond .lt 16, 3) := by decide +kernel
theorem dR_plan_73 : decode mR_plan.2.1 73 = .ok (.aload_n 0, 1) := by decide +kernel
theorem dR_plan_74 : decode mR_plan.2.1 74 = .ok (.iload_n 3, 1) := by decide +kernel
theorem dR_plan_75 : decode mR_plan.2.1 75 = .ok (.invokevirtual 137, 3) := by decide +kernel
theorem dR_plan_78 : decode mR_plan.2.1 78 = .ok (.aload_n 0, 1) := by decide +kernel
theorem dR_plan_79 : decode mR_plan.2.1 79 = .ok (.iload_n 2, 1) := by decide +kernel
theorem dR_plan_80 : decode mR_plan.2.1 80 = .ok (.invokevirtual 137, 3) := by decide +kernel
theorem dR_plan_83 : decode mR_plan.2.1 83 = .ok (.if_icmp .le 5, 3) := by decide +kernel
theorem dR_plan_86 : decode mR_plan.2.1 86 = .ok (.iload_n 3, 1) := by decide +kernel
theorem dR_plan_87 : decode mR_plan.2.1 87 = .ok (.istore_n 2, 1) := by decide +kernel
theorem dR_plan_88 : decode mR_plan.2.1 88 = .ok (.iinc 3 1, 3) := by decide +kernel
theorem dR_plan_91 : decode mR_plan.2.1 91 = .ok (.goto (-49), 3) := by decide +kernel
theorem dR_plan_94 : decode mR_plan.2.1 94 = .ok (.iconst 0, 1) := by decide +kernel
theorem dR_plan_95 : decode mR_plan.2.1 95 = .ok (.istore_n 3, 1) := by decide +kernel
theorem dR_plan_96 : decode mR_plan.2.1 96 = .ok (.iconst 1, 1) := by decide +kernel
theorem dR_plan_97 : decode mR_plan.2.1 97 = .ok (.istore 4, 2) := by decide +kernel
theorem dR_plan_99 : decode mR_plan.2.1 99 = .ok (.iload 4, 2) := by decide +kernel
theorem dR_plan_101 : decode mR_plan.2.1 101 = .ok (.ifCond .eq 60, 3) := by decide +kernel
theorem dR_plan_104 : decode mR_plan.2.1 104 = .ok (.iconst 0, 1) := by decide +kernel
theorem dR_plan_105 : decode mR_plan.2.1 105 = .ok (.istore 4, 2) := by decide +kernel
theorem dR_plan_107 : decode mR_plan.2.1 107 = .ok (.iconst 0, 1) := by decide +kernel
theorem dR_plan_108 : decode mR_plan.2.1 108 = .ok (.istore 5, 2) := by decide +kernel
theorem dR_plan_110 : decode mR_plan.2.1 110 = .ok (.iload 5, 2) := by decide +kernel
theorem dR_plan_112 : decode mR_plan.2.1 112 = .ok (.aload_n 0, 1) := by decide +kernel
theorem dR_plan_113 : decode mR_plan.2.1 113 = .ok (.getfield 106, 3) := by decide +kernel
theorem dR_plan_116 : decode mR_plan.2.1 116 = .ok (.if_icmp .ge 42, 3) := by decide +kernel
theorem dR_plan_119 : decode mR_plan.2.1 119 = .ok (.iload 5, 2) := by decide +kernel
theorem dR_plan_121 : decode mR_plan.2.1 121 = .ok (.iload_n 2, 1) := by decide +kernel
theorem dR_plan_122 : decode mR_plan.2.1 122 = .ok (.if_icmp .eq 30, 3) := by decide +kernel
theorem dR_plan_125 : decode mR_plan.2.1 125 = .ok (.aload_n 0, 1) := by decide +kernel
theorem dR_plan_126 : decode mR_plan.2.1 126 = .ok (.getfield 76, 3) := by decide +kernel
theorem dR_plan_129 : decode mR_plan.2.1 129 = .ok (.iload 5, 2) := by decide +kernel
theorem dR_plan_131 : decode mR_plan.2.1 131 = .ok (.iaload, 1) := by decide +kernel
theorem dR_plan_132 : decode mR_plan.2.1 132 = .ok (.ifCond .lt 20, 3) := by decide +kernel
theorem dR_plan_135 : decode mR_plan.2.1 135 = .ok (.aload_n 0, 1) := by decide +kernel
theorem dR_plan_136 : decode mR_plan.2.1 136 = .ok (.iload_n 2, 1) := by decide +kernel
theorem dR_plan_137 : decode mR_plan.2.1 137 = .ok (.iload_n 3, 1) := by decide +kernel
theorem dR_plan_138 : decode mR_plan.2.1 138 = .ok (.iload 5, 2) := by decide +kernel
theorem dR_plan_140 : decode mR_plan.2.1 140 = .ok (.invokevirtual 161, 3) := by decide +kernel
theorem dR_plan_143 : decode mR_plan.2.1 143 = .ok (.ifCond .eq 9, 3) := by decide +kernel
theorem dR_plan_146 : decode mR_plan.2.1 146 = .ok (.iinc 3 1, 3) := by decide +kernel
theorem dR_plan_149 : decode mR_plan.2.1 149 = .ok (.iconst 1, 1) := by decide +kernel
theorem dR_plan_150 : decode mR_plan.2.1 150 = .ok (.istore 4, 2) := by decide +kernel
theorem dR_plan_152 : decode mR_plan.2.1 152 = .ok (.iinc 5 1, 3) := by decide +kernel
theorem dR_plan_155 : decode mR_plan.2.1 155 = .ok (.goto (-45), 3) := by decide +kernel
theorem dR_plan_158 : decode mR_plan.2.1 158 = .ok (.goto (-59), 3) := by decide +kernel
theorem dR_plan_161 : decode mR_plan.2.1 161 = .ok (.aload_n 0, 1) := by decide +kernel
theorem dR_plan_162 : decode mR_plan.2.1 162 = .ok (.getfield 76, 3) := by decide +kernel
theorem dR_plan_165 : decode mR_plan.2.1 165 = .ok (.iload_n 2, 1) := by decide +kernel
theorem dR_plan_166 : decode mR_plan.2.1 166 = .ok (.iload_n 3, 1) := by decide +kernel
theorem dR_plan_167 : decode mR_plan.2.1 167 = .ok (.iastore, 1) := by decide +kernel
theorem dR_plan_168 : decode mR_plan.2.1 168 = .ok (.iload_n 3, 1) := by decide +kernel
theorem dR_plan_169 : decode mR_plan.2.1 169 = .ok (.aload_n 0, 1) := by decide +kernel
theorem dR_plan_170 : decode mR_plan.2.1 170 = .ok (.iload_n 2, 1) := by decide +kernel
theorem dR_plan_171 : decode mR_plan.2.1 171 = .ok (.invokevirtual 137, 3) := by decide +kernel
theorem dR_plan_174 : decode mR_plan.2.1 174 = .ok (.iadd, 1) := by decide +kernel
theorem dR_plan_175 : decode mR_plan.2.1 175 = .ok (.aload_n 0, 1) := by decide +kernel
theorem dR_plan_176 : decode mR_plan.2.1 176 = .ok (.getfield 158, 3) := by decide +kernel
theorem dR_plan_179 : decode mR_plan.2.1 179 = .ok (.if_icmp .le 14, 3) := by decide +kernel
theorem dR_plan_182 : decode mR_plan.2.1 182 = .ok (.aload_n 0, 1) := by decide +kernel
theorem dR_plan_183 : decode mR_plan.2.1 183 = .ok (.iload_n 3, 1) := by decide +kernel
theorem dR_plan_184 : decode mR_plan.2.1 184 = .ok (.aload_n 0, 1) := by decide +kernel
theorem dR_plan_185 : decode mR_plan.2.1 185 = .ok (.iload_n 2, 1) := by decide +kernel
theorem dR_plan_186 : decode mR_plan.2.1 186 = .ok (.invokevirtual 137, 3) := by decide +kernel
theorem dR_plan_189 : decode mR_plan.2.1 189 = .ok (.iadd, 1) := by decide +kernel
theorem dR_plan_190 : decode mR_plan.2.1 190 = .ok (.putfield 158, 3) := by decide +kernel
theorem dR_plan_193 : decode mR_plan.2.1 193 = .ok (.iinc 1 1, 3) := by decide +kernel
theorem dR_plan_196 : decode mR_plan.2.1 196 = .ok (.goto (-166), 3) := by decide +kernel
theorem dR_plan_199 : decode mR_plan.2.1 199 = .ok (.return_, 1) := by decide +kernel
theorem dR_hits_0 : decode mR_hits.2.1 0 = .ok (.aload_n 0, 1) := by decide +kernel
theorem dR_hits_1 : decode mR_hits.2.1 1 = .ok (.getfield 70, 3) := by decide +kernel
theorem dR_hits_4 : decode mR_hits.2.1 4 = .ok (.iload_n 1, 1) := by decide +kernel
theorem dR_hits_5 : decode mR_hits.2.1 5 = .ok (.iaload, 1) := by decide +kernel
theorem dR_hits_6 : decode mR_hits.2.1 6 = .ok (.aload_n 0, 1) := by decide +kernel
theorem dR_hits_7 : decode mR_hits.2.1 7 = .ok (.getfield 73, 3) := by decide +kernel
theorem dR_hits_10 : decode mR_hits.2.1 10 = .ok (.iload_n 3, 1) := by decide +kernel
theorem dR_hits_11 : decode mR_hits.2.1 11 = .ok (.iaload, 1) := by decide +kernel
theorem dR_hits_12 : decode mR_hits.2.1 12 = .ok (.if_icmp .gt 22, 3) := by decide +kernel
theorem dR_hits_15 : decode mR_hits.2.1 15 = .ok (.aload_n 0, 1) := by decide +kernel
theorem dR_hits_16 : decode mR_hits.2.1 16 = .ok (.getfield 70, 3) := by decide +kernel
theorem dR_hits_19 : decode mR_hits.2.1 19 = .ok (.iload_n 3, 1) := by decide +kernel
theorem dR_hits_20 : decode mR_hits.2.1 20 = .ok (.iaload, 1) := by decide +kernel
theorem dR_hits_21 : decode mR_hits.2.1 21 = .ok (.aload_n 0, 1) := by decide +kernel
theorem dR_hits_22 : decode mR_hits.2.1 22 = .ok (.getfield 73, 3) := by decide +kernel
theorem dR_hits_25 : decode mR_hits.2.1 25 = .ok (.iload_n 1, 1) := by decide +kernel
theorem dR_hits_26 : decode mR_hits.2.1 26 = .ok (.iaload, 1) := by decide +kernel
theorem dR_hits_27 : decode mR_hits.2.1 27 = .ok (.if_icmp .gt 7, 3) := by decide +kernel
theorem dR_hits_30 : decode mR_hits.2.1 30 = .ok (.iconst 1, 1) := by decide +kernel
theorem dR_hits_31 : decode mR_hits.2.1 31 = .ok (.goto 4, 3) := by decide +kernel
theorem dR_hits_34 : decode mR_hits.2.1 34 = .ok (.iconst 0, 1) := by decide +kernel
theorem dR_hits_35 : decode mR_hits.2.1 35 = .ok (.istore 4, 2) := by decide +kernel
theorem dR_hits_37 : decode mR_hits.2.1 37 = .ok (.iload 4, 2) := by decide +kernel
theorem dR_hits_39 : decode mR_hits.2.1 39 = .ok (.ifCond .eq 39, 3) := by decide +kernel
theorem dR_hits_42 : decode mR_hits.2.1 42 = .ok (.iload_n 2, 1) := by decide +kernel
theorem dR_hits_43 : decode mR_hits.2.1 43 = .ok (.aload_n 0, 1) := by decide +kernel
theorem dR_hits_44 : decode mR_hits.2.1 44 = .ok (.getfield 76, 3) := by decide +kernel
theorem dR_hits_47 : decode mR_hits.2.1 47 = .ok (.iload_n 3, 1) := by decide +kernel
theorem dR_hits_48 : decode mR_hits.2.1 48 = .ok (.iaload, 1) := by decide +kernel
theorem dR_hits_49 : decode mR_hits.2.1 49 = .ok (.aload_n 0, 1) := by decide +kernel
theorem dR_hits_50 : decode mR_hits.2.1 50 = .ok (.iload_n 3, 1) := by decide +kernel
theorem dR_hits_51 : decode mR_hits.2.1 51 = .ok (.invokevirtual 137, 3) := by decide +kernel
theorem dR_hits_54 : decode mR_hits.2.1 54 = .ok (.iadd, 1) := by decide +kernel
theorem dR_hits_55 : decode mR_hits.2.1 55 = .ok (.if_icmp .ge 23, 3) := by decide +kernel
theorem dR_hits_58 : decode mR_hits.2.1 58 = .ok (.aload_n 0, 1) := by decide +kernel
theorem dR_hits_59 : decode mR_hits.2.1 59 = .ok (.getfield 76, 3) := by decide +kernel
theorem dR_hits_62 : decode mR_hits.2.1 62 = .ok (.iload_n 3, 1) := by decide +kernel
theorem dR_hits_63 : decode mR_hits.2.1 63 = .ok (.iaload, 1) := by decide +kernel
theorem dR_hits_64 : decode mR_hits.2.1 64 = .ok (.iload_n 2, 1) := by decide +kernel
theorem dR_hits_65 : decode mR_hits.2.1 65 = .ok (.aload_n 0, 1) := by decide +kernel
theorem dR_hits_66 : decode mR_hits.2.1 66 = .ok (.iload_n 1, 1) := by decide +kernel
theorem dR_hits_67 : decode mR_hits.2.1 67 = .ok (.invokevirtual 137, 3) := by decide +kernel
theorem dR_hits_70 : decode mR_hits.2.1 70 = .ok (.iadd, 1) := by decide +kernel
theorem dR_hits_71 : decode mR_hits.2.1 71 = .ok (.if_icmp .ge 7, 3) := by decide +kernel
theorem dR_hits_74 : decode mR_hits.2.1 74 = .ok (.iconst 1, 1) := by decide +kernel
theorem dR_hits_75 : decode mR_hits.2.1 75 = .ok (.goto 4, 3) := by decide +kernel
theorem dR_hits_78 : decode mR_hits.2.1 78 = .ok (.iconst 0, 1) := by decide +kernel
theorem dR_hits_79 : decode mR_hits.2.1 79 = .ok (.ireturn, 1) := by decide +kernel
theorem dR_feed_0 : decode mR_feed.2.1 0 = .ok (.aload_n 0, 1) := by decide +kernel
theorem dR_feed_1 : decode mR_feed.2.1 1 = .ok (.iconst 0, 1) := by decide +kernel
theorem dR_feed_2 : decode mR_feed.2.1 2 = .ok (.putfield 85, 3) := by decide +kernel
theorem dR_feed_5 : decode mR_feed.2.1 5 = .ok (.aload_n 0, 1) := by decide +kernel
theorem dR_feed_6 : decode mR_feed.2.1 6 = .ok (.iload_n 1, 1) := by decide +kernel
theorem dR_feed_7 : decode mR_feed.2.1 7 = .ok (.aload_n 0, 1) := by decide +kernel
theorem dR_feed_8 : decode mR_feed.2.1 8 = .ok (.getfield 106, 3) := by decide +kernel
theorem dR_feed_11 : decode mR_feed.2.1 11 = .ok (.invokevirtual 94, 3) := by decide +kernel
theorem dR_feed_14 : decode mR_feed.2.1 14 = .ok (.ifCond .ne 25, 3) := by decide +kernel
theorem dR_feed_17 : decode mR_feed.2.1 17 = .ok (.aload_n 0, 1) := by decide +kernel
theorem dR_feed_18 : decode mR_feed.2.1 18 = .ok (.getfield 17, 3) := by decide +kernel
theorem dR_feed_21 : decode mR_feed.2.1 21 = .ok (.iload_n 1, 1) := by decide +kernel
theorem dR_feed_22 : decode mR_feed.2.1 22 = .ok (.iaload, 1) := by decide +kernel
theorem dR_feed_23 : decode mR_feed.2.1 23 = .ok (.ifCond .ne 16, 3) := by decide +kernel
theorem dR_feed_26 : decode mR_feed.2.1 26 = .ok (.aload_n 0, 1) := by decide +kernel
theorem dR_feed_27 : decode mR_feed.2.1 27 = .ok (.iload_n 2, 1) := by decide +kernel
theorem dR_feed_28 : decode mR_feed.2.1 28 = .ok (.aload_n 0, 1) := by decide +kernel
theorem dR_feed_29 : decode mR_feed.2.1 29 = .ok (.iload_n 1, 1) := by decide +kernel
theorem dR_feed_30 : decode mR_feed.2.1 30 = .ok (.invokevirtual 137, 3) := by decide +kernel
theorem dR_feed_33 : decode mR_feed.2.1 33 = .ok (.invokevirtual 94, 3) := by decide +kernel
theorem dR_feed_36 : decode mR_feed.2.1 36 = .ok (.ifCond .eq 9, 3) := by decide +kernel
theorem dR_feed_39 : decode mR_feed.2.1 39 = .ok (.aload_n 0, 1) := by decide +kernel
theorem dR_feed_40 : decode mR_feed.2.1 40 = .ok (.iconst 1, 1) := by decide +kernel
theorem dR_feed_41 : decode mR_feed.2.1 41 = .ok (.invokevirtual 98, 3) := by decide +kernel
theorem dR_feed_44 : decode mR_feed.2.1 44 = .ok (.ireturn, 1) := by decide +kernel
theorem dR_feed_45 : decode mR_feed.2.1 45 = .ok (.iconst 0, 1) := by decide +kernel
theorem dR_feed_46 : decode mR_feed.2.1 46 = .ok (.istore 5, 2) := by decide +kernel
theorem dR_feed_48 : decode mR_feed.2.1 48 = .ok (.iconst 0, 1) := by decide +kernel
theorem dR_feed_49 : decode mR_feed.2.1 49 = .ok (.istore 6, 2) := by decide +kernel
theorem dR_feed_51 : decode mR_feed.2.1 51 = .ok (.iload 6, 2) := by decide +kernel
theorem dR_feed_53 : decode mR_feed.2.1 53 = .ok (.bipush 8, 2) := by decide +kernel
theorem dR_feed_55 : decode mR_feed.2.1 55 = .ok (.if_icmp .ge 51, 3) := by decide +kernel
theorem dR_feed_58 : decode mR_feed.2.1 58 = .ok (.iload_n 2, 1) := by decide +kernel
theorem dR_feed_59 : decode mR_feed.2.1 59 = .ok (.iload 6, 2) := by decide +kernel
theorem dR_feed_61 : decode mR_feed.2.1 61 = .ok (.iadd, 1) := by decide +kernel
theorem dR_feed_62 : decode mR_feed.2.1 62 = .ok (.aload_n 0, 1) := by decide +kernel
theorem dR_feed_63 : decode mR_feed.2.1 63 = .ok (.iload_n 1, 1) := by decide +kernel
theorem dR_feed_64 : decode mR_feed.2.1 64 = .ok (.invokevirtual 137, 3) := by decide +kernel
theorem dR_feed_67 : decode mR_feed.2.1 67 = .ok (.if_icmp .ge 39, 3) := by decide +kernel
theorem dR_feed_70 : decode mR_feed.2.1 70 = .ok (.aload_n 0, 1) := by decide +kernel
theorem dR_feed_71 : decode mR_feed.2.1 71 = .ok (.getfield 57, 3) := by decide +kernel
theorem dR_feed_74 : decode mR_feed.2.1 74 = .ok (.sipush 128, 3) := by decide +kernel
theorem dR_feed_77 : decode mR_feed.2.1 77 = .ok (.iload_n 1, 1) := by decide +kernel
theorem dR_feed_78 : decode mR_feed.2.1 78 = .ok (.imul, 1) := by decide +kernel
theorem dR_feed_79 : decode mR_feed.2.1 79 = .ok (.iload_n 2, 1) := by decide +kernel
theorem dR_feed_80 : decode mR_feed.2.1 80 = .ok (.iadd, 1) := by decide +kernel
theorem dR_feed_81 : decode mR_feed.2.1 81 = .ok (.iload 6, 2) := by decide +kernel
theorem dR_feed_83 : decode mR_feed.2.1 83 = .ok (.iadd, 1) := by decide +kernel
theorem dR_feed_84 : decode mR_feed.2.1 84 = .ok (.lload_n 3, 1) := by decide +kernel
theorem dR_feed_85 : decode mR_feed.2.1 85 = .ok (.bipush 56, 2) := by decide +kernel
theorem dR_feed_87 : decode mR_feed.2.1 87 = .ok (.bipush 8, 2) := by decide +kernel
theorem dR_feed_89 : decode mR_feed.2.1 89 = .ok (.iload 6, 2) := by decide +kernel
theorem dR_feed_91 : decode mR_feed.2.1 91 = .ok (.imul, 1) := by decide +kernel
theorem dR_feed_92 : decode mR_feed.2.1 92 = .ok (.isub, 1) := by decide +kernel
theorem dR_feed_93 : decode mR_feed.2.1 93 = .ok (.lshr, 1) := by decide +kernel
theorem dR_feed_94 : decode mR_feed.2.1 94 = .ok (.l2i, 1) := by decide +kernel
theorem dR_feed_95 : decode mR_feed.2.1 95 = .ok (.i2b, 1) := by decide +kernel
theorem dR_feed_96 : decode mR_feed.2.1 96 = .ok (.iastore, 1) := by decide +kernel
theorem dR_feed_97 : decode mR_feed.2.1 97 = .ok (.iinc 5 1, 3) := by decide +kernel
theorem dR_feed_100 : decode mR_feed.2.1 100 = .ok (.iinc 6 1, 3) := by decide +kernel
theorem dR_feed_103 : decode mR_feed.2.1 103 = .ok (.goto (-52), 3) := by decide +kernel
theorem dR_feed_106 : decode mR_feed.2.1 106 = .ok (.iload 5, 2) := by decide +kernel
theorem dR_feed_108 : decode mR_feed.2.1 108 = .ok (.ireturn, 1) := by decide +kernel
theorem dR_run_0 : decode mR_run.2.1 0 = .ok (.aload_n 0, 1) := by decide +kernel
theorem dR_run_1 : decode mR_run.2.1 1 = .ok (.iconst 0, 1) := by decide +kernel
theorem dR_run_2 : decode mR_run.2.1 2 = .ok (.putfield 85, 3) := by decide +kernel
theorem dR_run_5 : decode mR_run.2.1 5 = .ok (.iload_n 1, 1) := by decide +kernel
theorem dR_run_6 : decode mR_run.2.1 6 = .ok (.ifCond .ge 9, 3) := by decide +kernel
theorem dR_run_9 : decode mR_run.2.1 9 = .ok (.aload_n 0, 1) := by decide +kernel
theorem dR_run_10 : decode mR_run.2.1 10 = .ok (.iconst 1, 1) := by decide +kernel
theorem dR_run_11 : decode mR_run.2.1 11 = .ok (.invokevirtual 98, 3) := by decide +kernel
theorem dR_run_14 : decode mR_run.2.1 14 = .ok (.ireturn, 1) := by decide +kernel
theorem dR_run_15 : decode mR_run.2.1 15 = .ok (.aload_n 0, 1) := by decide +kernel
theorem dR_run_16 : decode mR_run.2.1 16 = .ok (.getfield 109, 3) := by decide +kernel
theorem dR_run_19 : decode mR_run.2.1 19 = .ok (.ifCond .ne 9, 3) := by decide +kernel
theorem dR_run_22 : decode mR_run.2.1 22 = .ok (.aload_n 0, 1) := by decide +kernel
theorem dR_run_23 : decode mR_run.2.1 23 = .ok (.iconst 2, 1) := by decide +kernel
theorem dR_run_24 : decode mR_run.2.1 24 = .ok (.invokevirtual 98, 3) := by decide +kernel
theorem dR_run_27 : decode mR_run.2.1 27 = .ok (.ireturn, 1) := by decide +kernel
theorem dR_run_28 : decode mR_run.2.1 28 = .ok (.iload_n 1, 1) := by decide +kernel
theorem dR_run_29 : decode mR_run.2.1 29 = .ok (.aload_n 0, 1) := by decide +kernel
theorem dR_run_30 : decode mR_run.2.1 30 = .ok (.getfield 158, 3) := by decide +kernel
theorem dR_run_33 : decode mR_run.2.1 33 = .ok (.if_icmp .ge 9, 3) := by decide +kernel
theorem dR_run_36 : decode mR_run.2.1 36 = .ok (.aload_n 0, 1) := by decide +kernel
theorem dR_run_37 : decode mR_run.2.1 37 = .ok (.iconst 3, 1) := by decide +kernel
theorem dR_run_38 : decode mR_run.2.1 38 = .ok (.invokevirtual 98, 3) := by decide +kernel
theorem dR_run_41 : decode mR_run.2.1 41 = .ok (.ireturn, 1) := by decide +kernel
theorem dR_run_42 : decode mR_run.2.1 42 = .ok (.iconst 0, 1) := by decide +kernel
theorem dR_run_43 : decode mR_run.2.1 43 = .ok (.istore_n 2, 1) := by decide +kernel
theorem dR_run_44 : decode mR_run.2.1 44 = .ok (.iload_n 2, 1) := by decide +kernel
theorem dR_run_45 : decode mR_run.2.1 45 = .ok (.aload_n 0, 1) := by decide +kernel
theorem dR_run_46 : decode mR_run.2.1 46 = .ok (.getfield 158, 3) := by decide +kernel
theorem dR_run_49 : decode mR_run.2.1 49 = .ok (.if_icmp .ge 16, 3) := by decide +kernel
theorem dR_run_52 : decode mR_run.2.1 52 = .ok (.aload_n 0, 1) := by decide +kernel
theorem dR_run_53 : decode mR_run.2.1 53 = .ok (.getfield 79, 3) := by decide +kernel
theorem dR_run_56 : decode mR_run.2.1 56 = .ok (.iload_n 2, 1) := by decide +kernel
theorem dR_run_57 : decode mR_run.2.1 57 = .ok (.iconst 0, 1) := by decide +kernel
theorem dR_run_58 : decode mR_run.2.1 58 = .ok (.iastore, 1) := by decide +kernel
theorem dR_run_59 : decode mR_run.2.1 59 = .ok (.iinc 2 1, 3) := by decide +kernel
theorem dR_run_62 : decode mR_run.2.1 62 = .ok (.goto (-18), 3) := by decide +kernel
theorem dR_run_65 : decode mR_run.2.1 65 = .ok (.iconst 0, 1) := by decide +kernel
theorem dR_run_66 : decode mR_run.2.1 66 = .ok (.istore_n 2, 1) := by decide +kernel
theorem dR_run_67 : decode mR_run.2.1 67 = .ok (.iload_n 2, 1) := by decide +kernel
theorem dR_run_68 : decode mR_run.2.1 68 = .ok (.aload_n 0, 1) := by decide +kernel
theorem dR_run_69 : decode mR_run.2.1 69 = .ok (.getfield 106, 3) := by decide +kernel
theorem dR_run_72 : decode mR_run.2.1 72 = .ok (.if_icmp .ge 88, 3) := by decide +kernel
theorem dR_run_75 : decode mR_run.2.1 75 = .ok (.iconst 0, 1) := by decide +kernel
theorem dR_run_76 : decode mR_run.2.1 76 = .ok (.istore_n 3, 1) := by decide +kernel
theorem dR_run_77 : decode mR_run.2.1 77 = .ok (.aload_n 0, 1) := by decide +kernel
theorem dR_run_78 : decode mR_run.2.1 78 = .ok (.getfield 67, 3) := by decide +kernel
theorem dR_run_81 : decode mR_run.2.1 81 = .ok (.iload_n 2, 1) := by decide +kernel
theorem dR_run_82 : decode mR_run.2.1 82 = .ok (.iaload, 1) := by decide +kernel
theorem dR_run_83 : decode mR_run.2.1 83 = .ok (.ifCond .le 71, 3) := by decide +kernel
theorem dR_run_86 : decode mR_run.2.1 86 = .ok (.iload_n 3, 1) := by decide +kernel
theorem dR_run_87 : decode mR_run.2.1 87 = .ok (.aload_n 0, 1) := by decide +kernel
theorem dR_run_88 : decode mR_run.2.1 88 = .ok (.iload_n 2, 1) := by decide +kernel
theorem dR_run_89 : decode mR_run.2.1 89 = .ok (.invokevirtual 137, 3) := by decide +kernel
theorem dR_run_92 : decode mR_run.2.1 92 = .ok (.if_icmp .ge 62, 3) := by decide +kernel
theorem dR_run_95 : decode mR_run.2.1 95 = .ok (.aload_n 0, 1) := by decide +kernel
theorem dR_run_96 : decode mR_run.2.1 96 = .ok (.getfield 54, 3) := by decide +kernel
theorem dR_run_99 : decode mR_run.2.1 99 = .ok (.sipush 128, 3) := by decide +kernel
theorem dR_run_102 : decode mR_run.2.1 102 = .ok (.iload_n 2, 1) := by decide +kernel
theorem dR_run_103 : decode mR_run.2.1 103 = .ok (.imul, 1) := by decide +kernel
theorem dR_run_104 : decode mR_run.2.1 104 = .ok (.iload_n 3, 1) := by decide +kernel
theorem dR_run_105 : decode mR_run.2.1 105 = .ok (.iadd, 1) := by decide +kernel
theorem dR_run_106 : decode mR_run.2.1 106 = .ok (.aload_n 0, 1) := by decide +kernel
theorem dR_run_107 : decode mR_run.2.1 107 = .ok (.iload_n 2, 1) := by decide +kernel
theorem dR_run_108 : decode mR_run.2.1 108 = .ok (.iload_n 3, 1) := by decide +kernel
theorem dR_run_109 : decode mR_run.2.1 109 = .ok (.invokevirtual 229, 3) := by decide +kernel
theorem dR_run_112 : decode mR_run.2.1 112 = .ok (.iastore, 1) := by decide +kernel
theorem dR_run_113 : decode mR_run.2.1 113 = .ok (.aload_n 0, 1) := by decide +kernel
theorem dR_run_114 : decode mR_run.2.1 114 = .ok (.getfield 67, 3) := by decide +kernel
theorem dR_run_117 : decode mR_run.2.1 117 = .ok (.iload_n 2, 1) := by decide +kernel
theorem dR_run_118 : decode mR_run.2.1 118 = .ok (.iaload, 1) := by decide +kernel
theorem dR_run_119 : decode mR_run.2.1 119 = .ok (.iconst 2, 1) := by decide +kernel
theorem dR_run_120 : decode mR_run.2.1 120 = .ok (.if_icmp .ne 28, 3) := by decide +kernel
theorem dR_run_123 : decode mR_run.2.1 123 = .ok (.aload_n 0, 1) := by decide +kernel
theorem dR_run_124 : decode mR_run.2.1 124 = .ok (.getfield 79, 3) := by decide +kernel
theorem dR_run_127 : decode mR_run.2.1 127 = .ok (.aload_n 0, 1) := by decide +kernel
theorem dR_run_128 : decode mR_run.2.1 128 = .ok (.getfield 76, 3) := by decide +kernel
theorem dR_run_131 : decode mR_run.2.1 131 = .ok (.iload_n 2, 1) := by decide +kernel
theorem dR_run_132 : decode mR_run.2.1 132 = .ok (.iaload, 1) := by decide +kernel
theorem dR_run_133 : decode mR_run.2.1 133 = .ok (.iload_n 3, 1) := by decide +kernel
theorem dR_run_134 : decode mR_run.2.1 134 = .ok (.iadd, 1) := by decide +kernel
theorem dR_run_135 : decode mR_run.2.1 135 = .ok (.aload_n 0, 1) := by decide +kernel
theorem dR_run_136 : decode mR_run.2.1 136 = .ok (.getfield 54, 3) := by decide +kernel
theorem dR_run_139 : decode mR_run.2.1 139 = .ok (.sipush 128, 3) := by decide +kernel
theorem dR_run_142 : decode mR_run.2.1 142 = .ok (.iload_n 2, 1) := by decide +kernel
theorem dR_run_143 : decode mR_run.2.1 143 = .ok (.imul, 1) := by decide +kernel
theorem dR_run_144 : decode mR_run.2.1 144 = .ok (.iload_n 3, 1) := by decide +kernel
theorem dR_run_145 : decode mR_run.2.1 145 = .ok (.iadd, 1) := by decide +kernel
theorem dR_run_146 : decode mR_run.2.1 146 = .ok (.iaload, 1) := by decide +kernel
theorem dR_run_147 : decode mR_run.2.1 147 = .ok (.iastore, 1) := by decide +kernel
theorem dR_run_148 : decode mR_run.2.1 148 = .ok (.iinc 3 1, 3) := by decide +kernel
theorem dR_run_151 : decode mR_run.2.1 151 = .ok (.goto (-74), 3) := by decide +kernel
theorem dR_run_154 : decode mR_run.2.1 154 = .ok (.iinc 2 1, 3) := by decide +kernel
theorem dR_run_157 : decode mR_run.2.1 157 = .ok (.goto (-90), 3) := by decide +kernel
theorem dR_run_160 : decode mR_run.2.1 160 = .ok (.aload_n 0, 1) := by decide +kernel
theorem dR_run_161 : decode mR_run.2.1 161 = .ok (.getfield 64, 3) := by decide +kernel
theorem dR_run_164 : decode mR_run.2.1 164 = .ok (.aload_n 0, 1) := by decide +kernel
theorem dR_run_165 : decode mR_run.2.1 165 = .ok (.getfield 60, 3) := by decide +kernel
theorem dR_run_168 : decode mR_run.2.1 168 = .ok (.iaload, 1) := by decide +kernel
theorem dR_run_169 : decode mR_run.2.1 169 = .ok (.istore_n 2, 1) := by decide +kernel
theorem dR_run_170 : decode mR_run.2.1 170 = .ok (.iconst 0, 1) := by decide +kernel
theorem dR_run_171 : decode mR_run.2.1 171 = .ok (.istore_n 3, 1) := by decide +kernel
theorem dR_run_172 : decode mR_run.2.1 172 = .ok (.aload_n 0, 1) := by decide +kernel
theorem dR_run_173 : decode mR_run.2.1 173 = .ok (.aload_n 0, 1) := by decide +kernel
theorem dR_run_174 : decode mR_run.2.1 174 = .ok (.getfield 158, 3) := by decide +kernel
theorem dR_run_177 : decode mR_run.2.1 177 = .ok (.putfield 232, 3) := by decide +kernel
theorem dR_run_180 : decode mR_run.2.1 180 = .ok (.aload_n 0, 1) := by decide +kernel
theorem dR_run_181 : decode mR_run.2.1 181 = .ok (.aload_n 0, 1) := by decide +kernel
theorem dR_run_182 : decode mR_run.2.1 182 = .ok (.aload_n 0, 1) := by decide +kernel
theorem dR_run_183 : decode mR_run.2.1 183 = .ok (.getfield 60, 3) := by decide +kernel
theorem dR_run_186 : decode mR_run.2.1 186 = .ok (.invokevirtual 137, 3) := by decide +kernel
theorem dR_run_189 : decode mR_run.2.1 189 = .ok (.putfield 235, 3) := by decide +kernel
theorem dR_run_192 : decode mR_run.2.1 192 = .ok (.aload_n 0, 1) := by decide +kernel
theorem dR_run_193 : decode mR_run.2.1 193 = .ok (.aload_n 0, 1) := by decide +kernel
theorem dR_run_194 : decode mR_run.2.1 194 = .ok (.getfield 35, 3) := by decide +kernel
theorem dR_run_197 : decode mR_run.2.1 197 = .ok (.aload_n 0, 1) := by decide +kernel
theorem dR_run_198 : decode mR_run.2.1 198 = .ok (.getfield 60, 3) := by decide +kernel
theorem dR_run_201 : decode mR_run.2.1 201 = .ok (.daload, 1) := by decide +kernel
theorem dR_run_202 : decode mR_run.2.1 202 = .ok (.putfield 238, 3) := by decide +kernel
theorem dR_run_205 : decode mR_run.2.1 205 = .ok (.iconst 0, 1) := by decide +kernel
theorem dR_run_206 : decode mR_run.2.1 206 = .ok (.istore 4, 2) := by decide +kernel
theorem dR_run_208 : decode mR_run.2.1 208 = .ok (.iload 4, 2) := by decide +kernel
theorem dR_run_210 : decode mR_run.2.1 210 = .ok (.aload_n 0, 1) := by decide +kernel
theorem dR_run_211 : decode mR_run.2.1 211 = .ok (.iload_n 2, 1) := by decide +kernel
theorem dR_run_212 : decode mR_run.2.1 212 = .ok (.invokevirtual 137, 3) := by decide +kernel
theorem dR_run_215 : decode mR_run.2.1 215 = .ok (.if_icmp .ge 39, 3) := by decide +kernel
theorem dR_run_218 : decode mR_run.2.1 218 = .ok (.aload_n 0, 1) := by decide +kernel
theorem dR_run_219 : decode mR_run.2.1 219 = .ok (.getfield 82, 3) := by decide +kernel
theorem dR_run_222 : decode mR_run.2.1 222 = .ok (.iload 4, 2) := by decide +kernel
theorem dR_run_224 : decode mR_run.2.1 224 = .ok (.aload_n 0, 1) := by decide +kernel
theorem dR_run_225 : decode mR_run.2.1 225 = .ok (.getfield 54, 3) := by decide +kernel
theorem dR_run_228 : decode mR_run.2.1 228 = .ok (.sipush 128, 3) := by decide +kernel
theorem dR_run_231 : decode mR_run.2.1 231 = .ok (.iload_n 2, 1) := by decide +kernel
theorem dR_run_232 : decode mR_run.2.1 232 = .ok (.imul, 1) := by decide +kernel
theorem dR_run_233 : decode mR_run.2.1 233 = .ok (.iload 4, 2) := by decide +kernel
theorem dR_run_235 : decode mR_run.2.1 235 = .ok (.iadd, 1) := by decide +kernel
theorem dR_run_236 : decode mR_run.2.1 236 = .ok (.iaload, 1) := by decide +kernel
theorem dR_run_237 : decode mR_run.2.1 237 = .ok (.iastore, 1) := by decide +kernel
theorem dR_run_238 : decode mR_run.2.1 238 = .ok (.iload_n 3, 1) := by decide +kernel
theorem dR_run_239 : decode mR_run.2.1 239 = .ok (.aload_n 0, 1) := by decide +kernel
theorem dR_run_240 : decode mR_run.2.1 240 = .ok (.getfield 82, 3) := by decide +kernel
theorem dR_run_243 : decode mR_run.2.1 243 = .ok (.iload 4, 2) := by decide +kernel
theorem dR_run_245 : decode mR_run.2.1 245 = .ok (.iaload, 1) := by decide +kernel
theorem dR_run_246 : decode mR_run.2.1 246 = .ok (.iadd, 1) := by decide +kernel
theorem dR_run_247 : decode mR_run.2.1 247 = .ok (.istore_n 3, 1) := by decide +kernel
theorem dR_run_248 : decode mR_run.2.1 248 = .ok (.iinc 4 1, 3) := by decide +kernel
theorem dR_run_251 : decode mR_run.2.1 251 = .ok (.goto (-43), 3) := by decide +kernel
theorem dR_run_254 : decode mR_run.2.1 254 = .ok (.iload_n 3, 1) := by decide +kernel
theorem dR_run_255 : decode mR_run.2.1 255 = .ok (.ireturn, 1) := by decide +kernel
theorem dR_value_0 : decode mR_value.2.1 0 = .ok (.aload_n 0, 1) := by decide +kernel
theorem dR_value_1 : decode mR_value.2.1 1 = .ok (.aload_n 0, 1) := by decide +kernel
theorem dR_value_2 : decode mR_value.2.1 2 = .ok (.getfield 20, 3) := by decide +kernel
theorem dR_value_5 : decode mR_value.2.1 5 = .ok (.iload_n 1, 1) := by decide +kernel
theorem dR_value_6 : decode mR_value.2.1 6 = .ok (.iaload, 1) := by decide +kernel
theorem dR_value_7 : decode mR_value.2.1 7 = .ok (.invokevirtual 143, 3) := by decide +kernel
theorem dR_value_10 : decode mR_value.2.1 10 = .ok (.istore_n 3, 1) := by decide +kernel
theorem dR_value_11 : decode mR_value.2.1 11 = .ok (.aload_n 0, 1) := by decide +kernel
theorem dR_value_12 : decode mR_value.2.1 12 = .ok (.aload_n 0, 1) := by decide +kernel
theorem dR_value_13 : decode mR_value.2.1 13 = .ok (.getfield 23, 3) := by decide +kernel
theorem dR_value_16 : decode mR_value.2.1 16 = .ok (.iload_n 1, 1) := by decide +kernel
theorem dR_value_17 : decode mR_value.2.1 17 = .ok (.iaload, 1) := by decide +kernel
theorem dR_value_18 : decode mR_value.2.1 18 = .ok (.invokevirtual 143, 3) := by decide +kernel
theorem dR_value_21 : decode mR_value.2.1 21 = .ok (.istore 4, 2) := by decide +kernel
theorem dR_value_23 : decode mR_value.2.1 23 = .ok (.iload_n 2, 1) := by decide +kernel
theorem dR_value_24 : decode mR_value.2.1 24 = .ok (.aload_n 0, 1) := by decide +kernel
theorem dR_value_25 : decode mR_value.2.1 25 = .ok (.getfield 32, 3) := by decide +kernel
theorem dR_value_28 : decode mR_value.2.1 28 = .ok (.iload_n 1, 1) := by decide +kernel
theorem dR_value_29 : decode mR_value.2.1 29 = .ok (.iaload, 1) := by decide +kernel
theorem dR_value_30 : decode mR_value.2.1 30 = .ok (.irem, 1) := by decide +kernel
theorem dR_value_31 : decode mR_value.2.1 31 = .ok (.istore 5, 2) := by decide +kernel
theorem dR_value_33 : decode mR_value.2.1 33 = .ok (.iload_n 2, 1) := by decide +kernel
theorem dR_value_34 : decode mR_value.2.1 34 = .ok (.aload_n 0, 1) := by decide +kernel
theorem dR_value_35 : decode mR_value.2.1 35 = .ok (.getfield 32, 3) := by decide +kernel
theorem dR_value_38 : decode mR_value.2.1 38 = .ok (.iload_n 1, 1) := by decide +kernel
theorem dR_value_39 : decode mR_value.2.1 39 = .ok (.iaload, 1) := by decide +kernel
theorem dR_value_40 : decode mR_value.2.1 40 = .ok (.idiv, 1) := by decide +kernel
theorem dR_value_41 : decode mR_value.2.1 41 = .ok (.aload_n 0, 1) := by decide +kernel
theorem dR_value_42 : decode mR_value.2.1 42 = .ok (.getfield 29, 3) := by decide +kernel
theorem dR_value_45 : decode mR_value.2.1 45 = .ok (.iload_n 1, 1) := by decide +kernel
theorem dR_value_46 : decode mR_value.2.1 46 = .ok (.iaload, 1) := by decide +kernel
theorem dR_value_47 : decode mR_value.2.1 47 = .ok (.irem, 1) := by decide +kernel
theorem dR_value_48 : decode mR_value.2.1 48 = .ok (.istore 6, 2) := by decide +kernel
theorem dR_value_50 : decode mR_value.2.1 50 = .ok (.iload_n 2, 1) := by decide +kernel
theorem dR_value_51 : decode mR_value.2.1 51 = .ok (.aload_n 0, 1) := by decide +kernel
theorem dR_value_52 : decode mR_value.2.1 52 = .ok (.getfield 32, 3) := by decide +kernel
theorem dR_value_55 : decode mR_value.2.1 55 = .ok (.iload_n 1, 1) := by decide +kernel
theorem dR_value_56 : decode mR_value.2.1 56 = .ok (.iaload, 1) := by decide +kernel
theorem dR_value_57 : decode mR_value.2.1 57 = .ok (.idiv, 1) := by decide +kernel
theorem dR_value_58 : decode mR_value.2.1 58 = .ok (.aload_n 0, 1) := by decide +kernel
theorem dR_value_59 : decode mR_value.2.1 59 = .ok (.getfield 29, 3) := by decide +kernel
theorem dR_value_62 : decode mR_value.2.1 62 = .ok (.iload_n 1, 1) := by decide +kernel
theorem dR_value_63 : decode mR_value.2.1 63 = .ok (.iaload, 1) := by decide +kernel
theorem dR_value_64 : decode mR_value.2.1 64 = .ok (.idiv, 1) := by decide +kernel
theorem dR_value_65 : decode mR_value.2.1 65 = .ok (.istore 7, 2) := by decide +kernel
theorem dR_value_67 : decode mR_value.2.1 67 = .ok (.aload_n 0, 1) := by decide +kernel
theorem dR_value_68 : decode mR_value.2.1 68 = .ok (.getfield 17, 3) := by decide +kernel
theorem dR_value_71 : decode mR_value.2.1 71 = .ok (.iload_n 1, 1) := by decide +kernel
theorem dR_value_72 : decode mR_value.2.1 72 = .ok (.iaload, 1) := by decide +kernel
theorem dR_value_73 : decode mR_value.2.1 73 = .ok (.iconst 1, 1) := by decide +kernel
theorem dR_value_74 : decode mR_value.2.1 74 = .ok (.if_icmp .lt 36, 3) := by decide +kernel
theorem dR_value_77 : decode mR_value.2.1 77 = .ok (.aload_n 0, 1) := by decide +kernel
theorem dR_value_78 : decode mR_value.2.1 78 = .ok (.getfield 17, 3) := by decide +kernel
theorem dR_value_81 : decode mR_value.2.1 81 = .ok (.iload_n 1, 1) := by decide +kernel
theorem dR_value_82 : decode mR_value.2.1 82 = .ok (.iaload, 1) := by decide +kernel
theorem dR_value_83 : decode mR_value.2.1 83 = .ok (.iconst 3, 1) := by decide +kernel
theorem dR_value_84 : decode mR_value.2.1 84 = .ok (.if_icmp .gt 26, 3) := by decide +kernel
theorem dR_value_87 : decode mR_value.2.1 87 = .ok (.aload_n 0, 1) := by decide +kernel
theorem dR_value_88 : decode mR_value.2.1 88 = .ok (.getfield 35, 3) := by decide +kernel
theorem dR_value_91 : decode mR_value.2.1 91 = .ok (.iload_n 3, 1) := by decide +kernel
theorem dR_value_92 : decode mR_value.2.1 92 = .ok (.daload, 1) := by decide +kernel
theorem dR_value_93 : decode mR_value.2.1 93 = .ok (.aload_n 0, 1) := by decide +kernel
theorem dR_value_94 : decode mR_value.2.1 94 = .ok (.getfield 39, 3) := by decide +kernel
theorem dR_value_97 : decode mR_value.2.1 97 = .ok (.iload_n 1, 1) := by decide +kernel
theorem dR_value_98 : decode mR_value.2.1 98 = .ok (.daload, 1) := by decide +kernel
theorem dR_value_99 : decode mR_value.2.1 99 = .ok (.dmul, 1) := by decide +kernel
theorem dR_value_100 : decode mR_value.2.1 100 = .ok (.aload_n 0, 1) := by decide +kernel
theorem dR_value_101 : decode mR_value.2.1 101 = .ok (.getfield 35, 3) := by decide +kernel
theorem dR_value_104 : decode mR_value.2.1 104 = .ok (.iload_n 1, 1) := by decide +kernel
theorem dR_value_105 : decode mR_value.2.1 105 = .ok (.daload, 1) := by decide +kernel
theorem dR_value_106 : decode mR_value.2.1 106 = .ok (.ddiv, 1) := by decide +kernel
theorem dR_value_107 : decode mR_value.2.1 107 = .ok (.goto 4, 3) := by decide +kernel
theorem dR_value_110 : decode mR_value.2.1 110 = .ok (.dconst 0, 1) := by decide +kernel
theorem dR_value_111 : decode mR_value.2.1 111 = .ok (.dstore 8, 2) := by decide +kernel
theorem dR_value_113 : decode mR_value.2.1 113 = .ok (.aload_n 0, 1) := by decide +kernel
theorem dR_value_114 : decode mR_value.2.1 114 = .ok (.getfield 17, 3) := by decide +kernel
theorem dR_value_117 : decode mR_value.2.1 117 = .ok (.iload_n 1, 1) := by decide +kernel
theorem dR_value_118 : decode mR_value.2.1 118 = .ok (.iaload, 1) := by decide +kernel
theorem dR_value_119 : decode mR_value.2.1 119 = .ok (.tableswitch 289 0 9 #[53, 66, 66, 89, 108, 176, 190, 203, 203, 216], 53) := by decide +kernel
theorem dR_value_172 : decode mR_value.2.1 172 = .ok (.aload_n 0, 1) := by decide +kernel
theorem dR_value_173 : decode mR_value.2.1 173 = .ok (.getfield 57, 3) := by decide +kernel
theorem dR_value_176 : decode mR_value.2.1 176 = .ok (.sipush 128, 3) := by decide +kernel
theorem dR_value_179 : decode mR_value.2.1 179 = .ok (.iload_n 1, 1) := by decide +kernel
theorem dR_value_180 : decode mR_value.2.1 180 = .ok (.imul, 1) := by decide +kernel
theorem dR_value_181 : decode mR_value.2.1 181 = .ok (.iload_n 2, 1) := by decide +kernel
theorem dR_value_182 : decode mR_value.2.1 182 = .ok (.iadd, 1) := by decide +kernel
theorem dR_value_183 : decode mR_value.2.1 183 = .ok (.iaload, 1) := by decide +kernel
theorem dR_value_184 : decode mR_value.2.1 184 = .ok (.ireturn, 1) := by decide +kernel
theorem dR_value_185 : decode mR_value.2.1 185 = .ok (.aload_n 0, 1) := by decide +kernel
theorem dR_value_186 : decode mR_value.2.1 186 = .ok (.aload_n 0, 1) := by decide +kernel
theorem dR_value_187 : decode mR_value.2.1 187 = .ok (.aload_n 0, 1) := by decide +kernel
theorem dR_value_188 : decode mR_value.2.1 188 = .ok (.iload_n 1, 1) := by decide +kernel
theorem dR_value_189 : decode mR_value.2.1 189 = .ok (.iload_n 3, 1) := by decide +kernel
theorem dR_value_190 : decode mR_value.2.1 190 = .ok (.iload 7, 2) := by decide +kernel
theorem dR_value_192 : decode mR_value.2.1 192 = .ok (.iload 6, 2) := by decide +kernel
theorem dR_value_194 : decode mR_value.2.1 194 = .ok (.iload 5, 2) := by decide +kernel
theorem dR_value_196 : decode mR_value.2.1 196 = .ok (.invokevirtual 206, 3) := by decide +kernel
theorem dR_value_199 : decode mR_value.2.1 199 = .ok (.dload 8, 2) := by decide +kernel
theorem dR_value_201 : decode mR_value.2.1 201 = .ok (.invokevirtual 210, 3) := by decide +kernel
theorem dR_value_204 : decode mR_value.2.1 204 = .ok (.invokevirtual 214, 3) := by decide +kernel
theorem dR_value_207 : decode mR_value.2.1 207 = .ok (.ireturn, 1) := by decide +kernel
theorem dR_value_208 : decode mR_value.2.1 208 = .ok (.aload_n 0, 1) := by decide +kernel
theorem dR_value_209 : decode mR_value.2.1 209 = .ok (.aload_n 0, 1) := by decide +kernel
theorem dR_value_210 : decode mR_value.2.1 210 = .ok (.aload_n 0, 1) := by decide +kernel
theorem dR_value_211 : decode mR_value.2.1 211 = .ok (.iload_n 1, 1) := by decide +kernel
theorem dR_value_212 : decode mR_value.2.1 212 = .ok (.iload_n 3, 1) := by decide +kernel
theorem dR_value_213 : decode mR_value.2.1 213 = .ok (.iload 5, 2) := by decide +kernel
theorem dR_value_215 : decode mR_value.2.1 215 = .ok (.invokevirtual 218, 3) := by decide +kernel
theorem dR_value_218 : decode mR_value.2.1 218 = .ok (.dload 8, 2) := by decide +kernel
theorem dR_value_220 : decode mR_value.2.1 220 = .ok (.invokevirtual 210, 3) := by decide +kernel
theorem dR_value_223 : decode mR_value.2.1 223 = .ok (.invokevirtual 214, 3) := by decide +kernel
theorem dR_value_226 : decode mR_value.2.1 226 = .ok (.ireturn, 1) := by decide +kernel
theorem dR_value_227 : decode mR_value.2.1 227 = .ok (.aload_n 0, 1) := by decide +kernel
theorem dR_value_228 : decode mR_value.2.1 228 = .ok (.aload_n 0, 1) := by decide +kernel
theorem dR_value_229 : decode mR_value.2.1 229 = .ok (.aload_n 0, 1) := by decide +kernel
theorem dR_value_230 : decode mR_value.2.1 230 = .ok (.getfield 54, 3) := by decide +kernel
theorem dR_value_233 : decode mR_value.2.1 233 = .ok (.sipush 128, 3) := by decide +kernel
theorem dR_value_236 : decode mR_value.2.1 236 = .ok (.iload_n 3, 1) := by decide +kernel
theorem dR_value_237 : decode mR_value.2.1 237 = .ok (.imul, 1) := by decide +kernel
theorem dR_value_238 : decode mR_value.2.1 238 = .ok (.iload_n 2, 1) := by decide +kernel
theorem dR_value_239 : decode mR_value.2.1 239 = .ok (.iadd, 1) := by decide +kernel
theorem dR_value_240 : decode mR_value.2.1 240 = .ok (.iaload, 1) := by decide +kernel
theorem dR_value_241 : decode mR_value.2.1 241 = .ok (.i2l, 1) := by decide +kernel
theorem dR_value_242 : decode mR_value.2.1 242 = .ok (.aload_n 0, 1) := by decide +kernel
theorem dR_value_243 : decode mR_value.2.1 243 = .ok (.getfield 35, 3) := by decide +kernel
theorem dR_value_246 : decode mR_value.2.1 246 = .ok (.iload_n 3, 1) := by decide +kernel
theorem dR_value_247 : decode mR_value.2.1 247 = .ok (.daload, 1) := by decide +kernel
theorem dR_value_248 : decode mR_value.2.1 248 = .ok (.aload_n 0, 1) := by decide +kernel
theorem dR_value_249 : decode mR_value.2.1 249 = .ok (.getfield 35, 3) := by decide +kernel
theorem dR_value_252 : decode mR_value.2.1 252 = .ok (.iload_n 1, 1) := by decide +kernel
theorem dR_value_253 : decode mR_value.2.1 253 = .ok (.daload, 1) := by decide +kernel
theorem dR_value_254 : decode mR_value.2.1 254 = .ok (.ddiv, 1) := by decide +kernel
theorem dR_value_255 : decode mR_value.2.1 255 = .ok (.invokevirtual 210, 3) := by decide +kernel
theorem dR_value_258 : decode mR_value.2.1 258 = .ok (.aload_n 0, 1) := by decide +kernel
theorem dR_value_259 : decode mR_value.2.1 259 = .ok (.aload_n 0, 1) := by decide +kernel
theorem dR_value_260 : decode mR_value.2.1 260 = .ok (.getfield 54, 3) := by decide +kernel
theorem dR_value_263 : decode mR_value.2.1 263 = .ok (.sipush 128, 3) := by decide +kernel
theorem dR_value_266 : decode mR_value.2.1 266 = .ok (.iload 4, 2) := by decide +kernel
theorem dR_value_268 : decode mR_value.2.1 268 = .ok (.imul, 1) := by decide +kernel
theorem dR_value_269 : decode mR_value.2.1 269 = .ok (.iload_n 2, 1) := by decide +kernel
theorem dR_value_270 : decode mR_value.2.1 270 = .ok (.iadd, 1) := by decide +kernel
theorem dR_value_271 : decode mR_value.2.1 271 = .ok (.iaload, 1) := by decide +kernel
theorem dR_value_272 : decode mR_value.2.1 272 = .ok (.i2l, 1) := by decide +kernel
theorem dR_value_273 : decode mR_value.2.1 273 = .ok (.aload_n 0, 1) := by decide +kernel
theorem dR_value_274 : decode mR_value.2.1 274 = .ok (.getfield 35, 3) := by decide +kernel
theorem dR_value_277 : decode mR_value.2.1 277 = .ok (.iload 4, 2) := by decide +kernel
theorem dR_value_279 : decode mR_value.2.1 279 = .ok (.daload, 1) := by decide +kernel
theorem dR_value_280 : decode mR_value.2.1 280 = .ok (.aload_n 0, 1) := by decide +kernel
theorem dR_value_281 : decode mR_value.2.1 281 = .ok (.getfield 35, 3) := by decide +kernel
theorem dR_value_284 : decode mR_value.2.1 284 = .ok (.iload_n 1, 1) := by decide +kernel
theorem dR_value_285 : decode mR_value.2.1 285 = .ok (.daload, 1) := by decide +kernel
theorem dR_value_286 : decode mR_value.2.1 286 = .ok (.ddiv, 1) := by decide +kernel
theorem dR_value_287 : decode mR_value.2.1 287 = .ok (.invokevirtual 210, 3) := by decide +kernel
theorem dR_value_290 : decode mR_value.2.1 290 = .ok (.ladd, 1) := by decide +kernel
theorem dR_value_291 : decode mR_value.2.1 291 = .ok (.invokevirtual 214, 3) := by decide +kernel
theorem dR_value_294 : decode mR_value.2.1 294 = .ok (.ireturn, 1) := by decide +kernel
theorem dR_value_295 : decode mR_value.2.1 295 = .ok (.aload_n 0, 1) := by decide +kernel
theorem dR_value_296 : decode mR_value.2.1 296 = .ok (.iload_n 3, 1) := by decide +kernel
theorem dR_value_297 : decode mR_value.2.1 297 = .ok (.iload 4, 2) := by decide +kernel
theorem dR_value_299 : decode mR_value.2.1 299 = .ok (.iload 7, 2) := by decide +kernel
theorem dR_value_301 : decode mR_value.2.1 301 = .ok (.iload 6, 2) := by decide +kernel
theorem dR_value_303 : decode mR_value.2.1 303 = .ok (.iload 5, 2) := by decide +kernel
theorem dR_value_305 : decode mR_value.2.1 305 = .ok (.invokevirtual 222, 3) := by decide +kernel
theorem dR_value_308 : decode mR_value.2.1 308 = .ok (.ireturn, 1) := by decide +kernel
theorem dR_value_309 : decode mR_value.2.1 309 = .ok (.aload_n 0, 1) := by decide +kernel
theorem dR_value_310 : decode mR_value.2.1 310 = .ok (.getfield 54, 3) := by decide +kernel
theorem dR_value_313 : decode mR_value.2.1 313 = .ok (.sipush 128, 3) := by decide +kernel
theorem dR_value_316 : decode mR_value.2.1 316 = .ok (.iload_n 3, 1) := by decide +kernel
theorem dR_value_317 : decode mR_value.2.1 317 = .ok (.imul, 1) := by decide +kernel
theorem dR_value_318 : decode mR_value.2.1 318 = .ok (.iload_n 2, 1) := by decide +kernel
theorem dR_value_319 : decode mR_value.2.1 319 = .ok (.iadd, 1) := by decide +kernel
theorem dR_value_320 : decode mR_value.2.1 320 = .ok (.iaload, 1) := by decide +kernel
theorem dR_value_321 : decode mR_value.2.1 321 = .ok (.ireturn, 1) := by decide +kernel
theorem dR_value_322 : decode mR_value.2.1 322 = .ok (.aload_n 0, 1) := by decide +kernel
theorem dR_value_323 : decode mR_value.2.1 323 = .ok (.iload_n 1, 1) := by decide +kernel
theorem dR_value_324 : decode mR_value.2.1 324 = .ok (.iload_n 3, 1) := by decide +kernel
theorem dR_value_325 : decode mR_value.2.1 325 = .ok (.iload 7, 2) := by decide +kernel
theorem dR_value_327 : decode mR_value.2.1 327 = .ok (.iload 6, 2) := by decide +kernel
theorem dR_value_329 : decode mR_value.2.1 329 = .ok (.iload 5, 2) := by decide +kernel
theorem dR_value_331 : decode mR_value.2.1 331 = .ok (.invokevirtual 226, 3) := by decide +kernel
theorem dR_value_334 : decode mR_value.2.1 334 = .ok (.ireturn, 1) := by decide +kernel
theorem dR_value_335 : decode mR_value.2.1 335 = .ok (.aload_n 0, 1) := by decide +kernel
theorem dR_value_336 : decode mR_value.2.1 336 = .ok (.getfield 54, 3) := by decide +kernel
theorem dR_value_339 : decode mR_value.2.1 339 = .ok (.sipush 128, 3) := by decide +kernel
theorem dR_value_342 : decode mR_value.2.1 342 = .ok (.iload_n 3, 1) := by decide +kernel
theorem dR_value_343 : decode mR_value.2.1 343 = .ok (.imul, 1) := by decide +kernel
theorem dR_value_344 : decode mR_value.2.1 344 = .ok (.iload_n 2, 1) := by decide +kernel
theorem dR_value_345 : decode mR_value.2.1 345 = .ok (.iadd, 1) := by decide +kernel
theorem dR_value_346 : decode mR_value.2.1 346 = .ok (.iaload, 1) := by decide +kernel
theorem dR_value_347 : decode mR_value.2.1 347 = .ok (.aload_n 0, 1) := by decide +kernel
theorem dR_value_348 : decode mR_value.2.1 348 = .ok (.getfield 48, 3) := by decide +kernel
theorem dR_value_351 : decode mR_value.2.1 351 = .ok (.iload_n 1, 1) := by decide +kernel
theorem dR_value_352 : decode mR_value.2.1 352 = .ok (.iaload, 1) := by decide +kernel
theorem dR_value_353 : decode mR_value.2.1 353 = .ok (.if_icmp .ge 12, 3) := by decide +kernel
theorem dR_value_356 : decode mR_value.2.1 356 = .ok (.aload_n 0, 1) := by decide +kernel
theorem dR_value_357 : decode mR_value.2.1 357 = .ok (.getfield 48, 3) := by decide +kernel
theorem dR_value_360 : decode mR_value.2.1 360 = .ok (.iload_n 1, 1) := by decide +kernel
theorem dR_value_361 : decode mR_value.2.1 361 = .ok (.iaload, 1) := by decide +kernel
theorem dR_value_362 : decode mR_value.2.1 362 = .ok (.goto 45, 3) := by decide +kernel
theorem dR_value_365 : decode mR_value.2.1 365 = .ok (.aload_n 0, 1) := by decide +kernel
theorem dR_value_366 : decode mR_value.2.1 366 = .ok (.getfield 54, 3) := by decide +kernel
theorem dR_value_369 : decode mR_value.2.1 369 = .ok (.sipush 128, 3) := by decide +kernel
theorem dR_value_372 : decode mR_value.2.1 372 = .ok (.iload_n 3, 1) := by decide +kernel
theorem dR_value_373 : decode mR_value.2.1 373 = .ok (.imul, 1) := by decide +kernel
theorem dR_value_374 : decode mR_value.2.1 374 = .ok (.iload_n 2, 1) := by decide +kernel
theorem dR_value_375 : decode mR_value.2.1 375 = .ok (.iadd, 1) := by decide +kernel
theorem dR_value_376 : decode mR_value.2.1 376 = .ok (.iaload, 1) := by decide +kernel
theorem dR_value_377 : decode mR_value.2.1 377 = .ok (.aload_n 0, 1) := by decide +kernel
theorem dR_value_378 : decode mR_value.2.1 378 = .ok (.getfield 51, 3) := by decide +kernel
theorem dR_value_381 : decode mR_value.2.1 381 = .ok (.iload_n 1, 1) := by decide +kernel
theorem dR_value_382 : decode mR_value.2.1 382 = .ok (.iaload, 1) := by decide +kernel
theorem dR_value_383 : decode mR_value.2.1 383 = .ok (.if_icmp .le 12, 3) := by decide +kernel
theorem dR_value_386 : decode mR_value.2.1 386 = .ok (.aload_n 0, 1) := by decide +kernel
theorem dR_value_387 : decode mR_value.2.1 387 = .ok (.getfield 51, 3) := by decide +kernel
theorem dR_value_390 : decode mR_value.2.1 390 = .ok (.iload_n 1, 1) := by decide +kernel
theorem dR_value_391 : decode mR_value.2.1 391 = .ok (.iaload, 1) := by decide +kernel
theorem dR_value_392 : decode mR_value.2.1 392 = .ok (.goto 15, 3) := by decide +kernel
theorem dR_value_395 : decode mR_value.2.1 395 = .ok (.aload_n 0, 1) := by decide +kernel
theorem dR_value_396 : decode mR_value.2.1 396 = .ok (.getfield 54, 3) := by decide +kernel
theorem dR_value_399 : decode mR_value.2.1 399 = .ok (.sipush 128, 3) := by decide +kernel
theorem dR_value_402 : decode mR_value.2.1 402 = .ok (.iload_n 3, 1) := by decide +kernel
theorem dR_value_403 : decode mR_value.2.1 403 = .ok (.imul, 1) := by decide +kernel
theorem dR_value_404 : decode mR_value.2.1 404 = .ok (.iload_n 2, 1) := by decide +kernel
theorem dR_value_405 : decode mR_value.2.1 405 = .ok (.iadd, 1) := by decide +kernel
theorem dR_value_406 : decode mR_value.2.1 406 = .ok (.iaload, 1) := by decide +kernel
theorem dR_value_407 : decode mR_value.2.1 407 = .ok (.ireturn, 1) := by decide +kernel
theorem dR_value_408 : decode mR_value.2.1 408 = .ok (.aload_n 0, 1) := by decide +kernel
theorem dR_value_409 : decode mR_value.2.1 409 = .ok (.aload_n 0, 1) := by decide +kernel
theorem dR_value_410 : decode mR_value.2.1 410 = .ok (.aload_n 0, 1) := by decide +kernel
theorem dR_value_411 : decode mR_value.2.1 411 = .ok (.getfield 54, 3) := by decide +kernel
theorem dR_value_414 : decode mR_value.2.1 414 = .ok (.sipush 128, 3) := by decide +kernel
theorem dR_value_417 : decode mR_value.2.1 417 = .ok (.iload_n 3, 1) := by decide +kernel
theorem dR_value_418 : decode mR_value.2.1 418 = .ok (.imul, 1) := by decide +kernel
theorem dR_value_419 : decode mR_value.2.1 419 = .ok (.iload_n 2, 1) := by decide +kernel
theorem dR_value_420 : decode mR_value.2.1 420 = .ok (.iadd, 1) := by decide +kernel
theorem dR_value_421 : decode mR_value.2.1 421 = .ok (.iaload, 1) := by decide +kernel
theorem dR_value_422 : decode mR_value.2.1 422 = .ok (.i2l, 1) := by decide +kernel
theorem dR_value_423 : decode mR_value.2.1 423 = .ok (.aload_n 0, 1) := by decide +kernel
theorem dR_value_424 : decode mR_value.2.1 424 = .ok (.getfield 35, 3) := by decide +kernel
theorem dR_value_427 : decode mR_value.2.1 427 = .ok (.iload_n 3, 1) := by decide +kernel
theorem dR_value_428 : decode mR_value.2.1 428 = .ok (.daload, 1) := by decide +kernel
theorem dR_value_429 : decode mR_value.2.1 429 = .ok (.aload_n 0, 1) := by decide +kernel
theorem dR_value_430 : decode mR_value.2.1 430 = .ok (.getfield 35, 3) := by decide +kernel
theorem dR_value_433 : decode mR_value.2.1 433 = .ok (.iload_n 1, 1) := by decide +kernel
theorem dR_value_434 : decode mR_value.2.1 434 = .ok (.daload, 1) := by decide +kernel
theorem dR_value_435 : decode mR_value.2.1 435 = .ok (.ddiv, 1) := by decide +kernel
theorem dR_value_436 : decode mR_value.2.1 436 = .ok (.invokevirtual 210, 3) := by decide +kernel
theorem dR_value_439 : decode mR_value.2.1 439 = .ok (.invokevirtual 214, 3) := by decide +kernel
theorem dR_value_442 : decode mR_value.2.1 442 = .ok (.ireturn, 1) := by decide +kernel
theorem dR_windowSum_0 : decode mR_windowSum.2.1 0 = .ok (.aload_n 0, 1) := by decide +kernel
theorem dR_windowSum_1 : decode mR_windowSum.2.1 1 = .ok (.aload_n 0, 1) := by decide +kernel
theorem dR_windowSum_2 : decode mR_windowSum.2.1 2 = .ok (.getfield 42, 3) := by decide +kernel
theorem dR_windowSum_5 : decode mR_windowSum.2.1 5 = .ok (.iload_n 1, 1) := by decide +kernel
theorem dR_windowSum_6 : decode mR_windowSum.2.1 6 = .ok (.iaload, 1) := by decide +kernel
theorem dR_windowSum_7 : decode mR_windowSum.2.1 7 = .ok (.invokevirtual 124, 3) := by decide +kernel
theorem dR_windowSum_10 : decode mR_windowSum.2.1 10 = .ok (.istore 6, 2) := by decide +kernel
theorem dR_windowSum_12 : decode mR_windowSum.2.1 12 = .ok (.aload_n 0, 1) := by decide +kernel
theorem dR_windowSum_13 : decode mR_windowSum.2.1 13 = .ok (.getfield 17, 3) := by decide +kernel
theorem dR_windowSum_16 : decode mR_windowSum.2.1 16 = .ok (.iload_n 1, 1) := by decide +kernel
theorem dR_windowSum_17 : decode mR_windowSum.2.1 17 = .ok (.iaload, 1) := by decide +kernel
theorem dR_windowSum_18 : decode mR_windowSum.2.1 18 = .ok (.iconst 2, 1) := by decide +kernel
theorem dR_windowSum_19 : decode mR_windowSum.2.1 19 = .ok (.if_icmp .ne 7, 3) := by decide +kernel
theorem dR_windowSum_22 : decode mR_windowSum.2.1 22 = .ok (.iconst 1, 1) := by decide +kernel
theorem dR_windowSum_23 : decode mR_windowSum.2.1 23 = .ok (.goto 4, 3) := by decide +kernel
theorem dR_windowSum_26 : decode mR_windowSum.2.1 26 = .ok (.iconst 0, 1) := by decide +kernel
theorem dR_windowSum_27 : decode mR_windowSum.2.1 27 = .ok (.istore 7, 2) := by decide +kernel
theorem dR_windowSum_29 : decode mR_windowSum.2.1 29 = .ok (.lconst 0, 1) := by decide +kernel
theorem dR_windowSum_30 : decode mR_windowSum.2.1 30 = .ok (.lstore 8, 2) := by decide +kernel
theorem dR_windowSum_32 : decode mR_windowSum.2.1 32 = .ok (.iconst 0, 1) := by decide +kernel
theorem dR_windowSum_33 : decode mR_windowSum.2.1 33 = .ok (.istore 10, 2) := by decide +kernel
theorem dR_windowSum_35 : decode mR_windowSum.2.1 35 = .ok (.iload 10, 2) := by decide +kernel
theorem dR_windowSum_37 : decode mR_windowSum.2.1 37 = .ok (.iload 6, 2) := by decide +kernel
theorem dR_windowSum_39 : decode mR_windowSum.2.1 39 = .ok (.iload 6, 2) := by decide +kernel
theorem dR_windowSum_41 : decode mR_windowSum.2.1 41 = .ok (.imul, 1) := by decide +kernel
theorem dR_windowSum_42 : decode mR_windowSum.2.1 42 = .ok (.if_icmp .ge 239, 3) := by decide +kernel
theorem dR_windowSum_45 : decode mR_windowSum.2.1 45 = .ok (.iload_n 3, 1) := by decide +kernel
theorem dR_windowSum_46 : decode mR_windowSum.2.1 46 = .ok (.aload_n 0, 1) := by decide +kernel
theorem dR_windowSum_47 : decode mR_windowSum.2.1 47 = .ok (.aload_n 0, 1) := by decide +kernel
theorem dR_windowSum_48 : decode mR_windowSum.2.1 48 = .ok (.getfield 42, 3) := by decide +kernel
theorem dR_windowSum_51 : decode mR_windowSum.2.1 51 = .ok (.iload_n 1, 1) := by decide +kernel
theorem dR_windowSum_52 : decode mR_windowSum.2.1 52 = .ok (.iaload, 1) := by decide +kernel
theorem dR_windowSum_53 : decode mR_windowSum.2.1 53 = .ok (.invokevirtual 121, 3) := by decide +kernel
theorem dR_windowSum_56 : decode mR_windowSum.2.1 56 = .ok (.imul, 1) := by decide +kernel
theorem dR_windowSum_57 : decode mR_windowSum.2.1 57 = .ok (.aload_n 0, 1) := by decide +kernel
theorem dR_windowSum_58 : decode mR_windowSum.2.1 58 = .ok (.aload_n 0, 1) := by decide +kernel
theorem dR_windowSum_59 : decode mR_windowSum.2.1 59 = .ok (.getfield 26, 3) := by decide +kernel
theorem dR_windowSum_62 : decode mR_windowSum.2.1 62 = .ok (.iload_n 2, 1) := by decide +kernel
theorem dR_windowSum_63 : decode mR_windowSum.2.1 63 = .ok (.iaload, 1) := by decide +kernel
theorem dR_windowSum_64 : decode mR_windowSum.2.1 64 = .ok (.aload_n 0, 1) := by decide +kernel
theorem dR_windowSum_65 : decode mR_windowSum.2.1 65 = .ok (.getfield 42, 3) := by decide +kernel
theorem dR_windowSum_68 : decode mR_windowSum.2.1 68 = .ok (.iload_n 1, 1) := by decide +kernel
theorem dR_windowSum_69 : decode mR_windowSum.2.1 69 = .ok (.iaload, 1) := by decide +kernel
theorem dR_windowSum_70 : decode mR_windowSum.2.1 70 = .ok (.invokevirtual 198, 3) := by decide +kernel
theorem dR_windowSum_73 : decode mR_windowSum.2.1 73 = .ok (.isub, 1) := by decide +kernel
theorem dR_windowSum_74 : decode mR_windowSum.2.1 74 = .ok (.iload 10, 2) := by decide +kernel
theorem dR_windowSum_76 : decode mR_windowSum.2.1 76 = .ok (.iload 6, 2) := by decide +kernel
theorem dR_windowSum_78 : decode mR_windowSum.2.1 78 = .ok (.idiv, 1) := by decide +kernel
theorem dR_windowSum_79 : decode mR_windowSum.2.1 79 = .ok (.iadd, 1) := by decide +kernel
theorem dR_windowSum_80 : decode mR_windowSum.2.1 80 = .ok (.istore 11, 2) := by decide +kernel
theorem dR_windowSum_82 : decode mR_windowSum.2.1 82 = .ok (.iload 4, 2) := by decide +kernel
theorem dR_windowSum_84 : decode mR_windowSum.2.1 84 = .ok (.aload_n 0, 1) := by decide +kernel
theorem dR_windowSum_85 : decode mR_windowSum.2.1 85 = .ok (.aload_n 0, 1) := by decide +kernel
theorem dR_windowSum_86 : decode mR_windowSum.2.1 86 = .ok (.getfield 42, 3) := by decide +kernel
theorem dR_windowSum_89 : decode mR_windowSum.2.1 89 = .ok (.iload_n 1, 1) := by decide +kernel
theorem dR_windowSum_90 : decode mR_windowSum.2.1 90 = .ok (.iaload, 1) := by decide +kernel
theorem dR_windowSum_91 : decode mR_windowSum.2.1 91 = .ok (.invokevirtual 121, 3) := by decide +kernel
theorem dR_windowSum_94 : decode mR_windowSum.2.1 94 = .ok (.imul, 1) := by decide +kernel
theorem dR_windowSum_95 : decode mR_windowSum.2.1 95 = .ok (.aload_n 0, 1) := by decide +kernel
theorem dR_windowSum_96 : decode mR_windowSum.2.1 96 = .ok (.aload_n 0, 1) := by decide +kernel
theorem dR_windowSum_97 : decode mR_windowSum.2.1 97 = .ok (.getfield 29, 3) := by decide +kernel
theorem dR_windowSum_100 : decode mR_windowSum.2.1 100 = .ok (.iload_n 2, 1) := by decide +kernel
theorem dR_windowSum_101 : decode mR_windowSum.2.1 101 = .ok (.iaload, 1) := by decide +kernel
theorem dR_windowSum_102 : decode mR_windowSum.2.1 102 = .ok (.aload_n 0, 1) := by decide +kernel
theorem dR_windowSum_103 : decode mR_windowSum.2.1 103 = .ok (.getfield 42, 3) := by decide +kernel
theorem dR_windowSum_106 : decode mR_windowSum.2.1 106 = .ok (.iload_n 1, 1) := by decide +kernel
theorem dR_windowSum_107 : decode mR_windowSum.2.1 107 = .ok (.iaload, 1) := by decide +kernel
theorem dR_windowSum_108 : decode mR_windowSum.2.1 108 = .ok (.invokevirtual 198, 3) := by decide +kernel
theorem dR_windowSum_111 : decode mR_windowSum.2.1 111 = .ok (.isub, 1) := by decide +kernel
theorem dR_windowSum_112 : decode mR_windowSum.2.1 112 = .ok (.iload 10, 2) := by decide +kernel
theorem dR_windowSum_114 : decode mR_windowSum.2.1 114 = .ok (.iload 6, 2) := by decide +kernel
theorem dR_windowSum_116 : decode mR_windowSum.2.1 116 = .ok (.irem, 1) := by decide +kernel
theorem dR_windowSum_117 : decode mR_windowSum.2.1 117 = .ok (.iadd, 1) := by decide +kernel
theorem dR_windowSum_118 : decode mR_windowSum.2.1 118 = .ok (.istore 12, 2) := by decide +kernel
theorem dR_windowSum_120 : decode mR_windowSum.2.1 120 = .ok (.aload_n 0, 1) := by decide +kernel
theorem dR_windowSum_121 : decode mR_windowSum.2.1 121 = .ok (.iload 11, 2) := by decide +kernel
theorem dR_windowSum_123 : decode mR_windowSum.2.1 123 = .ok (.aload_n 0, 1) := by decide +kernel
theorem dR_windowSum_124 : decode mR_windowSum.2.1 124 = .ok (.getfield 26, 3) := by decide +kernel
theorem dR_windowSum_127 : decode mR_windowSum.2.1 127 = .ok (.iload_n 2, 1) := by decide +kernel
theorem dR_windowSum_128 : decode mR_windowSum.2.1 128 = .ok (.iaload, 1) := by decide +kernel
theorem dR_windowSum_129 : decode mR_windowSum.2.1 129 = .ok (.invokevirtual 94, 3) := by decide +kernel
theorem dR_windowSum_132 : decode mR_windowSum.2.1 132 = .ok (.ifCond .ne 143, 3) := by decide +kernel
theorem dR_windowSum_135 : decode mR_windowSum.2.1 135 = .ok (.aload_n 0, 1) := by decide +kernel
theorem dR_windowSum_136 : decode mR_windowSum.2.1 136 = .ok (.iload 12, 2) := by decide +kernel
theorem dR_windowSum_138 : decode mR_windowSum.2.1 138 = .ok (.aload_n 0, 1) := by decide +kernel
theorem dR_windowSum_139 : decode mR_windowSum.2.1 139 = .ok (.getfield 29, 3) := by decide +kernel
theorem dR_windowSum_142 : decode mR_windowSum.2.1 142 = .ok (.iload_n 2, 1) := by decide +kernel
theorem dR_windowSum_143 : decode mR_windowSum.2.1 143 = .ok (.iaload, 1) := by decide +kernel
theorem dR_windowSum_144 : decode mR_windowSum.2.1 144 = .ok (.invokevirtual 94, 3) := by decide +kernel
theorem dR_windowSum_147 : decode mR_windowSum.2.1 147 = .ok (.ifCond .eq 6, 3) := by decide +kernel
theorem dR_windowSum_150 : decode mR_windowSum.2.1 150 = .ok (.goto 125, 3) := by decide +kernel
theorem dR_windowSum_153 : decode mR_windowSum.2.1 153 = .ok (.iload 7, 2) := by decide +kernel
theorem dR_windowSum_155 : decode mR_windowSum.2.1 155 = .ok (.ifCond .eq 44, 3) := by decide +kernel
theorem dR_windowSum_158 : decode mR_windowSum.2.1 158 = .ok (.lload 8, 2) := by decide +kernel
theorem dR_windowSum_160 : decode mR_windowSum.2.1 160 = .ok (.aload_n 0, 1) := by decide +kernel
theorem dR_windowSum_161 : decode mR_windowSum.2.1 161 = .ok (.iload_n 2, 1) := by decide +kernel
theorem dR_windowSum_162 : decode mR_windowSum.2.1 162 = .ok (.iload 11, 2) := by decide +kernel
theorem dR_windowSum_164 : decode mR_windowSum.2.1 164 = .ok (.iload 12, 2) := by decide +kernel
theorem dR_windowSum_166 : decode mR_windowSum.2.1 166 = .ok (.iload 5, 2) := by decide +kernel
theorem dR_windowSum_168 : decode mR_windowSum.2.1 168 = .ok (.invokevirtual 201, 3) := by decide +kernel
theorem dR_windowSum_171 : decode mR_windowSum.2.1 171 = .ok (.aload_n 0, 1) := by decide +kernel
theorem dR_windowSum_172 : decode mR_windowSum.2.1 172 = .ok (.getfield 7, 3) := by decide +kernel
theorem dR_windowSum_175 : decode mR_windowSum.2.1 175 = .ok (.aload_n 0, 1) := by decide +kernel
theorem dR_windowSum_176 : decode mR_windowSum.2.1 176 = .ok (.getfield 45, 3) := by decide +kernel
theorem dR_windowSum_179 : decode mR_windowSum.2.1 179 = .ok (.iload_n 1, 1) := by decide +kernel
theorem dR_windowSum_180 : decode mR_windowSum.2.1 180 = .ok (.iaload, 1) := by decide +kernel
theorem dR_windowSum_181 : decode mR_windowSum.2.1 181 = .ok (.iload 5, 2) := by decide +kernel
theorem dR_windowSum_183 : decode mR_windowSum.2.1 183 = .ok (.iload 6, 2) := by decide +kernel
theorem dR_windowSum_185 : decode mR_windowSum.2.1 185 = .ok (.imul, 1) := by decide +kernel
theorem dR_windowSum_186 : decode mR_windowSum.2.1 186 = .ok (.iload 6, 2) := by decide +kernel
theorem dR_windowSum_188 : decode mR_windowSum.2.1 188 = .ok (.imul, 1) := by decide +kernel
theorem dR_windowSum_189 : decode mR_windowSum.2.1 189 = .ok (.iadd, 1) := by decide +kernel
theorem dR_windowSum_190 : decode mR_windowSum.2.1 190 = .ok (.iload 10, 2) := by decide +kernel
theorem dR_windowSum_192 : decode mR_windowSum.2.1 192 = .ok (.iadd, 1) := by decide +kernel
theorem dR_windowSum_193 : decode mR_windowSum.2.1 193 = .ok (.iaload, 1) := by decide +kernel
theorem dR_windowSum_194 : decode mR_windowSum.2.1 194 = .ok (.imul, 1) := by decide +kernel
theorem dR_windowSum_195 : decode mR_windowSum.2.1 195 = .ok (.i2l, 1) := by decide +kernel
theorem dR_windowSum_196 : decode mR_windowSum.2.1 196 = .ok (.ladd, 1) := by decide +kernel
theorem dR_windowSum_197 : decode mR_windowSum.2.1 197 = .ok (.lstore 8, 2) := by decide +kernel
theorem dR_windowSum_199 : decode mR_windowSum.2.1 199 = .ok (.iconst 0, 1) := by decide +kernel
theorem dR_windowSum_200 : decode mR_windowSum.2.1 200 = .ok (.istore 13, 2) := by decide +kernel
theorem dR_windowSum_202 : decode mR_windowSum.2.1 202 = .ok (.iload 7, 2) := by decide +kernel
theorem dR_windowSum_204 : decode mR_windowSum.2.1 204 = .ok (.ifCond .ne 71, 3) := by decide +kernel
theorem dR_windowSum_207 : decode mR_windowSum.2.1 207 = .ok (.iload 13, 2) := by decide +kernel
theorem dR_windowSum_209 : decode mR_windowSum.2.1 209 = .ok (.aload_n 0, 1) := by decide +kernel
theorem dR_windowSum_210 : decode mR_windowSum.2.1 210 = .ok (.getfield 32, 3) := by decide +kernel
theorem dR_windowSum_213 : decode mR_windowSum.2.1 213 = .ok (.iload_n 2, 1) := by decide +kernel
theorem dR_windowSum_214 : decode mR_windowSum.2.1 214 = .ok (.iaload, 1) := by decide +kernel
theorem dR_windowSum_215 : decode mR_windowSum.2.1 215 = .ok (.if_icmp .ge 60, 3) := by decide +kernel
theorem dR_windowSum_218 : decode mR_windowSum.2.1 218 = .ok (.lload 8, 2) := by decide +kernel
theorem dR_windowSum_220 : decode mR_windowSum.2.1 220 = .ok (.aload_n 0, 1) := by decide +kernel
theorem dR_windowSum_221 : decode mR_windowSum.2.1 221 = .ok (.iload_n 2, 1) := by decide +kernel
theorem dR_windowSum_222 : decode mR_windowSum.2.1 222 = .ok (.iload 11, 2) := by decide +kernel
theorem dR_windowSum_224 : decode mR_windowSum.2.1 224 = .ok (.iload 12, 2) := by decide +kernel
theorem dR_windowSum_226 : decode mR_windowSum.2.1 226 = .ok (.iload 13, 2) := by decide +kernel
theorem dR_windowSum_228 : decode mR_windowSum.2.1 228 = .ok (.invokevirtual 201, 3) := by decide +kernel
theorem dR_windowSum_231 : decode mR_windowSum.2.1 231 = .ok (.aload_n 0, 1) := by decide +kernel
theorem dR_windowSum_232 : decode mR_windowSum.2.1 232 = .ok (.getfield 7, 3) := by decide +kernel
theorem dR_windowSum_235 : decode mR_windowSum.2.1 235 = .ok (.aload_n 0, 1) := by decide +kernel
theorem dR_windowSum_236 : decode mR_windowSum.2.1 236 = .ok (.getfield 45, 3) := by decide +kernel
theorem dR_windowSum_239 : decode mR_windowSum.2.1 239 = .ok (.iload_n 1, 1) := by decide +kernel
theorem dR_windowSum_240 : decode mR_windowSum.2.1 240 = .ok (.iaload, 1) := by decide +kernel
theorem dR_windowSum_241 : decode mR_windowSum.2.1 241 = .ok (.iload 5, 2) := by decide +kernel
theorem dR_windowSum_243 : decode mR_windowSum.2.1 243 = .ok (.iload 6, 2) := by decide +kernel
theorem dR_windowSum_245 : decode mR_windowSum.2.1 245 = .ok (.imul, 1) := by decide +kernel
theorem dR_windowSum_246 : decode mR_windowSum.2.1 246 = .ok (.iload 6, 2) := by decide +kernel
theorem dR_windowSum_248 : decode mR_windowSum.2.1 248 = .ok (.imul, 1) := by decide +kernel
theorem dR_windowSum_249 : decode mR_windowSum.2.1 249 = .ok (.iload 10, 2) := by decide +kernel
theorem dR_windowSum_251 : decode mR_windowSum.2.1 251 = .ok (.iadd, 1) := by decide +kernel
theorem dR_windowSum_252 : decode mR_windowSum.2.1 252 = .ok (.aload_n 0, 1) := by decide +kernel
theorem dR_windowSum_253 : decode mR_windowSum.2.1 253 = .ok (.getfield 32, 3) := by decide +kernel
theorem dR_windowSum_256 : decode mR_windowSum.2.1 256 = .ok (.iload_n 2, 1) := by decide +kernel
theorem dR_windowSum_257 : decode mR_windowSum.2.1 257 = .ok (.iaload, 1) := by decide +kernel
theorem dR_windowSum_258 : decode mR_windowSum.2.1 258 = .ok (.imul, 1) := by decide +kernel
theorem dR_windowSum_259 : decode mR_windowSum.2.1 259 = .ok (.iadd, 1) := by decide +kernel
theorem dR_windowSum_260 : decode mR_windowSum.2.1 260 = .ok (.iload 13, 2) := by decide +kernel
theorem dR_windowSum_262 : decode mR_windowSum.2.1 262 = .ok (.iadd, 1) := by decide +kernel
theorem dR_windowSum_263 : decode mR_windowSum.2.1 263 = .ok (.iaload, 1) := by decide +kernel
theorem dR_windowSum_264 : decode mR_windowSum.2.1 264 = .ok (.imul, 1) := by decide +kernel
theorem dR_windowSum_265 : decode mR_windowSum.2.1 265 = .ok (.i2l, 1) := by decide +kernel
theorem dR_windowSum_266 : decode mR_windowSum.2.1 266 = .ok (.ladd, 1) := by decide +kernel
theorem dR_windowSum_267 : decode mR_windowSum.2.1 267 = .ok (.lstore 8, 2) := by decide +kernel
theorem dR_windowSum_269 : decode mR_windowSum.2.1 269 = .ok (.iinc 13 1, 3) := by decide +kernel
theorem dR_windowSum_272 : decode mR_windowSum.2.1 272 = .ok (.goto (-70), 3) := by decide +kernel
theorem dR_windowSum_275 : decode mR_windowSum.2.1 275 = .ok (.iinc 10 1, 3) := by decide +kernel
theorem dR_windowSum_278 : decode mR_windowSum.2.1 278 = .ok (.goto (-243), 3) := by decide +kernel
theorem dR_windowSum_281 : decode mR_windowSum.2.1 281 = .ok (.aload_n 0, 1) := by decide +kernel
theorem dR_windowSum_282 : decode mR_windowSum.2.1 282 = .ok (.getfield 45, 3) := by decide +kernel
theorem dR_windowSum_285 : decode mR_windowSum.2.1 285 = .ok (.iload_n 1, 1) := by decide +kernel
theorem dR_windowSum_286 : decode mR_windowSum.2.1 286 = .ok (.iaload, 1) := by decide +kernel
theorem dR_windowSum_287 : decode mR_windowSum.2.1 287 = .ok (.iload 7, 2) := by decide +kernel
theorem dR_windowSum_289 : decode mR_windowSum.2.1 289 = .ok (.ifCond .eq 18, 3) := by decide +kernel
theorem dR_windowSum_292 : decode mR_windowSum.2.1 292 = .ok (.aload_n 0, 1) := by decide +kernel
theorem dR_windowSum_293 : decode mR_windowSum.2.1 293 = .ok (.getfield 32, 3) := by decide +kernel
theorem dR_windowSum_296 : decode mR_windowSum.2.1 296 = .ok (.iload_n 1, 1) := by decide +kernel
theorem dR_windowSum_297 : decode mR_windowSum.2.1 297 = .ok (.iaload, 1) := by decide +kernel
theorem dR_windowSum_298 : decode mR_windowSum.2.1 298 = .ok (.iload 6, 2) := by decide +kernel
theorem dR_windowSum_300 : decode mR_windowSum.2.1 300 = .ok (.imul, 1) := by decide +kernel
theorem dR_windowSum_301 : decode mR_windowSum.2.1 301 = .ok (.iload 6, 2) := by decide +kernel
theorem dR_windowSum_303 : decode mR_windowSum.2.1 303 = .ok (.imul, 1) := by decide +kernel
theorem dR_windowSum_304 : decode mR_windowSum.2.1 304 = .ok (.goto 22, 3) := by decide +kernel
theorem dR_windowSum_307 : decode mR_windowSum.2.1 307 = .ok (.aload_n 0, 1) := by decide +kernel
theorem dR_windowSum_308 : decode mR_windowSum.2.1 308 = .ok (.getfield 32, 3) := by decide +kernel
theorem dR_windowSum_311 : decode mR_windowSum.2.1 311 = .ok (.iload_n 1, 1) := by decide +kernel
theorem dR_windowSum_312 : decode mR_windowSum.2.1 312 = .ok (.iaload, 1) := by decide +kernel
theorem dR_windowSum_313 : decode mR_windowSum.2.1 313 = .ok (.iload 6, 2) := by decide +kernel
theorem dR_windowSum_315 : decode mR_windowSum.2.1 315 = .ok (.imul, 1) := by decide +kernel
theorem dR_windowSum_316 : decode mR_windowSum.2.1 316 = .ok (.iload 6, 2) := by decide +kernel
theorem dR_windowSum_318 : decode mR_windowSum.2.1 318 = .ok (.imul, 1) := by decide +kernel
theorem dR_windowSum_319 : decode mR_windowSum.2.1 319 = .ok (.aload_n 0, 1) := by decide +kernel
theorem dR_windowSum_320 : decode mR_windowSum.2.1 320 = .ok (.getfield 32, 3) := by decide +kernel
theorem dR_windowSum_323 : decode mR_windowSum.2.1 323 = .ok (.iload_n 2, 1) := by decide +kernel
theorem dR_windowSum_324 : decode mR_windowSum.2.1 324 = .ok (.iaload, 1) := by decide +kernel
theorem dR_windowSum_325 : decode mR_windowSum.2.1 325 = .ok (.imul, 1) := by decide +kernel
theorem dR_windowSum_326 : decode mR_windowSum.2.1 326 = .ok (.iadd, 1) := by decide +kernel
theorem dR_windowSum_327 : decode mR_windowSum.2.1 327 = .ok (.iload 5, 2) := by decide +kernel
theorem dR_windowSum_329 : decode mR_windowSum.2.1 329 = .ok (.iadd, 1) := by decide +kernel
theorem dR_windowSum_330 : decode mR_windowSum.2.1 330 = .ok (.istore 10, 2) := by decide +kernel
theorem dR_windowSum_332 : decode mR_windowSum.2.1 332 = .ok (.lload 8, 2) := by decide +kernel
theorem dR_windowSum_334 : decode mR_windowSum.2.1 334 = .ok (.ldc2_w 204, 3) := by decide +kernel
theorem dR_windowSum_337 : decode mR_windowSum.2.1 337 = .ok (.aload_n 0, 1) := by decide +kernel
theorem dR_windowSum_338 : decode mR_windowSum.2.1 338 = .ok (.getfield 7, 3) := by decide +kernel
theorem dR_windowSum_341 : decode mR_windowSum.2.1 341 = .ok (.iload 10, 2) := by decide +kernel
theorem dR_windowSum_343 : decode mR_windowSum.2.1 343 = .ok (.iaload, 1) := by decide +kernel
theorem dR_windowSum_344 : decode mR_windowSum.2.1 344 = .ok (.i2l, 1) := by decide +kernel
theorem dR_windowSum_345 : decode mR_windowSum.2.1 345 = .ok (.lmul, 1) := by decide +kernel
theorem dR_windowSum_346 : decode mR_windowSum.2.1 346 = .ok (.ladd, 1) := by decide +kernel
theorem dR_windowSum_347 : decode mR_windowSum.2.1 347 = .ok (.lreturn, 1) := by decide +kernel
theorem dR_before_0 : decode mR_before.2.1 0 = .ok (.iload_n 2, 1) := by decide +kernel
theorem dR_before_1 : decode mR_before.2.1 1 = .ok (.bipush 6, 2) := by decide +kernel
theorem dR_before_3 : decode mR_before.2.1 3 = .ok (.if_icmp .ge 5, 3) := by decide +kernel
theorem dR_before_6 : decode mR_before.2.1 6 = .ok (.iconst 0, 1) := by decide +kernel
theorem dR_before_7 : decode mR_before.2.1 7 = .ok (.ireturn, 1) := by decide +kernel
theorem dR_before_8 : decode mR_before.2.1 8 = .ok (.aload_n 0, 1) := by decide +kernel
theorem dR_before_9 : decode mR_before.2.1 9 = .ok (.iload_n 1, 1) := by decide +kernel
theorem dR_before_10 : decode mR_before.2.1 10 = .ok (.iload_n 2, 1) := by decide +kernel
theorem dR_before_11 : decode mR_before.2.1 11 = .ok (.invokevirtual 127, 3) := by decide +kernel
theorem dR_before_14 : decode mR_before.2.1 14 = .ok (.iconst 1, 1) := by decide +kernel
theorem dR_before_15 : decode mR_before.2.1 15 = .ok (.isub, 1) := by decide +kernel
theorem dR_before_16 : decode mR_before.2.1 16 = .ok (.aload_n 0, 1) := by decide +kernel
theorem dR_before_17 : decode mR_before.2.1 17 = .ok (.iload_n 2, 1) := by decide +kernel
theorem dR_before_18 : decode mR_before.2.1 18 = .ok (.invokevirtual 121, 3) := by decide +kernel
theorem dR_before_21 : decode mR_before.2.1 21 = .ok (.imul, 1) := by decide +kernel
theorem dR_before_22 : decode mR_before.2.1 22 = .ok (.aload_n 0, 1) := by decide +kernel
theorem dR_before_23 : decode mR_before.2.1 23 = .ok (.iload_n 2, 1) := by decide +kernel
theorem dR_before_24 : decode mR_before.2.1 24 = .ok (.invokevirtual 124, 3) := by decide +kernel
theorem dR_before_27 : decode mR_before.2.1 27 = .ok (.iadd, 1) := by decide +kernel
theorem dR_before_28 : decode mR_before.2.1 28 = .ok (.iload_n 1, 1) := by decide +kernel
theorem dR_before_29 : decode mR_before.2.1 29 = .ok (.isub, 1) := by decide +kernel
theorem dR_before_30 : decode mR_before.2.1 30 = .ok (.istore_n 3, 1) := by decide +kernel
theorem dR_before_31 : decode mR_before.2.1 31 = .ok (.iload_n 3, 1) := by decide +kernel
theorem dR_before_32 : decode mR_before.2.1 32 = .ok (.ifCond .ge 7, 3) := by decide +kernel
theorem dR_before_35 : decode mR_before.2.1 35 = .ok (.iconst 0, 1) := by decide +kernel
theorem dR_before_36 : decode mR_before.2.1 36 = .ok (.goto 6, 3) := by decide +kernel
theorem dR_before_39 : decode mR_before.2.1 39 = .ok (.iload_n 3, 1) := by decide +kernel
theorem dR_before_40 : decode mR_before.2.1 40 = .ok (.iconst 2, 1) := by decide +kernel
theorem dR_before_41 : decode mR_before.2.1 41 = .ok (.idiv, 1) := by decide +kernel
theorem dR_before_42 : decode mR_before.2.1 42 = .ok (.ireturn, 1) := by decide +kernel
theorem dR_at_0 : decode mR_at.2.1 0 = .ok (.aload_n 0, 1) := by decide +kernel
theorem dR_at_1 : decode mR_at.2.1 1 = .ok (.getfield 54, 3) := by decide +kernel
theorem dR_at_4 : decode mR_at.2.1 4 = .ok (.sipush 128, 3) := by decide +kernel
theorem dR_at_7 : decode mR_at.2.1 7 = .ok (.iload_n 1, 1) := by decide +kernel
theorem dR_at_8 : decode mR_at.2.1 8 = .ok (.imul, 1) := by decide +kernel
theorem dR_at_9 : decode mR_at.2.1 9 = .ok (.iload_n 2, 1) := by decide +kernel
theorem dR_at_10 : decode mR_at.2.1 10 = .ok (.aload_n 0, 1) := by decide +kernel
theorem dR_at_11 : decode mR_at.2.1 11 = .ok (.getfield 29, 3) := by decide +kernel
theorem dR_at_14 : decode mR_at.2.1 14 = .ok (.iload_n 1, 1) := by decide +kernel
theorem dR_at_15 : decode mR_at.2.1 15 = .ok (.iaload, 1) := by decide +kernel
theorem dR_at_16 : decode mR_at.2.1 16 = .ok (.imul, 1) := by decide +kernel
theorem dR_at_17 : decode mR_at.2.1 17 = .ok (.iload_n 3, 1) := by decide +kernel
theorem dR_at_18 : decode mR_at.2.1 18 = .ok (.iadd, 1) := by decide +kernel
theorem dR_at_19 : decode mR_at.2.1 19 = .ok (.aload_n 0, 1) := by decide +kernel
theorem dR_at_20 : decode mR_at.2.1 20 = .ok (.getfield 32, 3) := by decide +kernel
theorem dR_at_23 : decode mR_at.2.1 23 = .ok (.iload_n 1, 1) := by decide +kernel
theorem dR_at_24 : decode mR_at.2.1 24 = .ok (.iaload, 1) := by decide +kernel
theorem dR_at_25 : decode mR_at.2.1 25 = .ok (.imul, 1) := by decide +kernel
theorem dR_at_26 : decode mR_at.2.1 26 = .ok (.iadd, 1) := by decide +kernel
theorem dR_at_27 : decode mR_at.2.1 27 = .ok (.iload 4, 2) := by decide +kernel
theorem dR_at_29 : decode mR_at.2.1 29 = .ok (.iadd, 1) := by decide +kernel
theorem dR_at_30 : decode mR_at.2.1 30 = .ok (.iaload, 1) := by decide +kernel
theorem dR_at_31 : decode mR_at.2.1 31 = .ok (.ireturn, 1) := by decide +kernel
theorem dR_scaled_0 : decode mR_scaled.2.1 0 = .ok (.dload_n 3, 1) := by decide +kernel
theorem dR_scaled_1 : decode mR_scaled.2.1 1 = .ok (.dstore 5, 2) := by decide +kernel
theorem dR_scaled_3 : decode mR_scaled.2.1 3 = .ok (.iconst 0, 1) := by decide +kernel
theorem dR_scaled_4 : decode mR_scaled.2.1 4 = .ok (.istore 7, 2) := by decide +kernel
theorem dR_scaled_6 : decode mR_scaled.2.1 6 = .ok (.dload 5, 2) := by decide +kernel
theorem dR_scaled_8 : decode mR_scaled.2.1 8 = .ok (.dconst 1, 1) := by decide +kernel
theorem dR_scaled_9 : decode mR_scaled.2.1 9 = .ok (.dcmp .l, 1) := by decide +kernel
theorem dR_scaled_10 : decode mR_scaled.2.1 10 = .ok (.ifCond .lt 17, 3) := by decide +kernel
theorem dR_scaled_13 : decode mR_scaled.2.1 13 = .ok (.dload 5, 2) := by decide +kernel
theorem dR_scaled_15 : decode mR_scaled.2.1 15 = .ok (.ldc2_w 180, 3) := by decide +kernel
theorem dR_scaled_18 : decode mR_scaled.2.1 18 = .ok (.dmul, 1) := by decide +kernel
theorem dR_scaled_19 : decode mR_scaled.2.1 19 = .ok (.dstore 5, 2) := by decide +kernel
theorem dR_scaled_21 : decode mR_scaled.2.1 21 = .ok (.iinc 7 1, 3) := by decide +kernel
theorem dR_scaled_24 : decode mR_scaled.2.1 24 = .ok (.goto (-18), 3) := by decide +kernel
theorem dR_scaled_27 : decode mR_scaled.2.1 27 = .ok (.dload 5, 2) := by decide +kernel
theorem dR_scaled_29 : decode mR_scaled.2.1 29 = .ok (.ldc2_w 180, 3) := by decide +kernel
theorem dR_scaled_32 : decode mR_scaled.2.1 32 = .ok (.dcmp .g, 1) := by decide +kernel
theorem dR_scaled_33 : decode mR_scaled.2.1 33 = .ok (.ifCond .ge 17, 3) := by decide +kernel
theorem dR_scaled_36 : decode mR_scaled.2.1 36 = .ok (.dload 5, 2) := by decide +kernel
theorem dR_scaled_38 : decode mR_scaled.2.1 38 = .ok (.ldc2_w 182, 3) := by decide +kernel
theorem dR_scaled_41 : decode mR_scaled.2.1 41 = .ok (.dmul, 1) := by decide +kernel
theorem dR_scaled_42 : decode mR_scaled.2.1 42 = .ok (.dstore 5, 2) := by decide +kernel
theorem dR_scaled_44 : decode mR_scaled.2.1 44 = .ok (.iinc 7 (-1), 3) := by decide +kernel
theorem dR_scaled_47 : decode mR_scaled.2.1 47 = .ok (.goto (-20), 3) := by decide +kernel
theorem dR_scaled_50 : decode mR_scaled.2.1 50 = .ok (.dload 5, 2) := by decide +kernel
theorem dR_scaled_52 : decode mR_scaled.2.1 52 = .ok (.ldc2_w 184, 3) := by decide +kernel
theorem dR_scaled_55 : decode mR_scaled.2.1 55 = .ok (.dmul, 1) := by decide +kernel
theorem dR_scaled_56 : decode mR_scaled.2.1 56 = .ok (.ldc2_w 180, 3) := by decide +kernel
theorem dR_scaled_59 : decode mR_scaled.2.1 59 = .ok (.dadd, 1) := by decide +kernel
theorem dR_scaled_60 : decode mR_scaled.2.1 60 = .ok (.d2l, 1) := by decide +kernel
theorem dR_scaled_61 : decode mR_scaled.2.1 61 = .ok (.lstore 8, 2) := by decide +kernel
theorem dR_scaled_63 : decode mR_scaled.2.1 63 = .ok (.lload 8, 2) := by decide +kernel
theorem dR_scaled_65 : decode mR_scaled.2.1 65 = .ok (.ldc2_w 186, 3) := by decide +kernel
theorem dR_scaled_68 : decode mR_scaled.2.1 68 = .ok (.lcmp, 1) := by decide +kernel
theorem dR_scaled_69 : decode mR_scaled.2.1 69 = .ok (.ifCond .ne 11, 3) := by decide +kernel
theorem dR_scaled_72 : decode mR_scaled.2.1 72 = .ok (.ldc2_w 188, 3) := by decide +kernel
theorem dR_scaled_75 : decode mR_scaled.2.1 75 = .ok (.lstore 8, 2) := by decide +kernel
theorem dR_scaled_77 : decode mR_scaled.2.1 77 = .ok (.iinc 7 1, 3) := by decide +kernel
theorem dR_scaled_80 : decode mR_scaled.2.1 80 = .ok (.aload_n 0, 1) := by decide +kernel
theorem dR_scaled_81 : decode mR_scaled.2.1 81 = .ok (.lload_n 1, 1) := by decide +kernel
theorem dR_scaled_82 : decode mR_scaled.2.1 82 = .ok (.lload 8, 2) := by decide +kernel
theorem dR_scaled_84 : decode mR_scaled.2.1 84 = .ok (.lmul, 1) := by decide +kernel
theorem dR_scaled_85 : decode mR_scaled.2.1 85 = .ok (.lconst 1, 1) := by decide +kernel
theorem dR_scaled_86 : decode mR_scaled.2.1 86 = .ok (.bipush 31, 2) := by decide +kernel
theorem dR_scaled_88 : decode mR_scaled.2.1 88 = .ok (.iload 7, 2) := by decide +kernel
theorem dR_scaled_90 : decode mR_scaled.2.1 90 = .ok (.isub, 1) := by decide +kernel
theorem dR_scaled_91 : decode mR_scaled.2.1 91 = .ok (.lshl, 1) := by decide +kernel
theorem dR_scaled_92 : decode mR_scaled.2.1 92 = .ok (.invokevirtual 190, 3) := by decide +kernel
theorem dR_scaled_95 : decode mR_scaled.2.1 95 = .ok (.lreturn, 1) := by decide +kernel
theorem dR_halves_0 : decode mR_halves.2.1 0 = .ok (.lload_n 1, 1) := by decide +kernel
theorem dR_halves_1 : decode mR_halves.2.1 1 = .ok (.lconst 0, 1) := by decide +kernel
theorem dR_halves_2 : decode mR_halves.2.1 2 = .ok (.lcmp, 1) := by decide +kernel
theorem dR_halves_3 : decode mR_halves.2.1 3 = .ok (.ifCond .ge 8, 3) := by decide +kernel
theorem dR_halves_6 : decode mR_halves.2.1 6 = .ok (.lload_n 1, 1) := by decide +kernel
theorem dR_halves_7 : decode mR_halves.2.1 7 = .ok (.lneg, 1) := by decide +kernel
theorem dR_halves_8 : decode mR_halves.2.1 8 = .ok (.goto 4, 3) := by decide +kernel
theorem dR_halves_11 : decode mR_halves.2.1 11 = .ok (.lload_n 1, 1) := by decide +kernel
theorem dR_halves_12 : decode mR_halves.2.1 12 = .ok (.lstore 5, 2) := by decide +kernel
theorem dR_halves_14 : decode mR_halves.2.1 14 = .ok (.lload 5, 2) := by decide +kernel
theorem dR_halves_16 : decode mR_halves.2.1 16 = .ok (.lload_n 3, 1) := by decide +kernel
theorem dR_halves_17 : decode mR_halves.2.1 17 = .ok (.ldc2_w 178, 3) := by decide +kernel
theorem dR_halves_20 : decode mR_halves.2.1 20 = .ok (.ldiv, 1) := by decide +kernel
theorem dR_halves_21 : decode mR_halves.2.1 21 = .ok (.ladd, 1) := by decide +kernel
theorem dR_halves_22 : decode mR_halves.2.1 22 = .ok (.lload_n 3, 1) := by decide +kernel
theorem dR_halves_23 : decode mR_halves.2.1 23 = .ok (.ldiv, 1) := by decide +kernel
theorem dR_halves_24 : decode mR_halves.2.1 24 = .ok (.lstore 7, 2) := by decide +kernel
theorem dR_halves_26 : decode mR_halves.2.1 26 = .ok (.lload_n 1, 1) := by decide +kernel
theorem dR_halves_27 : decode mR_halves.2.1 27 = .ok (.lconst 0, 1) := by decide +kernel
theorem dR_halves_28 : decode mR_halves.2.1 28 = .ok (.lcmp, 1) := by decide +kernel
theorem dR_halves_29 : decode mR_halves.2.1 29 = .ok (.ifCond .ge 9, 3) := by decide +kernel
theorem dR_halves_32 : decode mR_halves.2.1 32 = .ok (.lload 7, 2) := by decide +kernel
theorem dR_halves_34 : decode mR_halves.2.1 34 = .ok (.lneg, 1) := by decide +kernel
theorem dR_halves_35 : decode mR_halves.2.1 35 = .ok (.goto 5, 3) := by decide +kernel
theorem dR_halves_38 : decode mR_halves.2.1 38 = .ok (.lload 7, 2) := by decide +kernel
theorem dR_halves_40 : decode mR_halves.2.1 40 = .ok (.lreturn, 1) := by decide +kernel
theorem dR_cut_0 : decode mR_cut.2.1 0 = .ok (.lload_n 1, 1) := by decide +kernel
theorem dR_cut_1 : decode mR_cut.2.1 1 = .ok (.ldc2_w 194, 3) := by decide +kernel
theorem dR_cut_4 : decode mR_cut.2.1 4 = .ok (.lcmp, 1) := by decide +kernel
theorem dR_cut_5 : decode mR_cut.2.1 5 = .ok (.ifCond .ge 8, 3) := by decide +kernel
theorem dR_cut_8 : decode mR_cut.2.1 8 = .ok (.bipush (-128), 2) := by decide +kernel
theorem dR_cut_10 : decode mR_cut.2.1 10 = .ok (.goto 18, 3) := by decide +kernel
theorem dR_cut_13 : decode mR_cut.2.1 13 = .ok (.lload_n 1, 1) := by decide +kernel
theorem dR_cut_14 : decode mR_cut.2.1 14 = .ok (.ldc2_w 196, 3) := by decide +kernel
theorem dR_cut_17 : decode mR_cut.2.1 17 = .ok (.lcmp, 1) := by decide +kernel
theorem dR_cut_18 : decode mR_cut.2.1 18 = .ok (.ifCond .le 8, 3) := by decide +kernel
theorem dR_cut_21 : decode mR_cut.2.1 21 = .ok (.bipush 127, 2) := by decide +kernel
theorem dR_cut_23 : decode mR_cut.2.1 23 = .ok (.goto 5, 3) := by decide +kernel
theorem dR_cut_26 : decode mR_cut.2.1 26 = .ok (.lload_n 1, 1) := by decide +kernel
theorem dR_cut_27 : decode mR_cut.2.1 27 = .ok (.l2i, 1) := by decide +kernel
theorem dR_cut_28 : decode mR_cut.2.1 28 = .ok (.ireturn, 1) := by decide +kernel
theorem dR_denseSum_0 : decode mR_denseSum.2.1 0 = .ok (.lconst 0, 1) := by decide +kernel
theorem dR_denseSum_1 : decode mR_denseSum.2.1 1 = .ok (.lstore 4, 2) := by decide +kernel
theorem dR_denseSum_3 : decode mR_denseSum.2.1 3 = .ok (.aload_n 0, 1) := by decide +kernel
theorem dR_denseSum_4 : decode mR_denseSum.2.1 4 = .ok (.iload_n 2, 1) := by decide +kernel
theorem dR_denseSum_5 : decode mR_denseSum.2.1 5 = .ok (.invokevirtual 137, 3) := by decide +kernel
theorem dR_denseSum_8 : decode mR_denseSum.2.1 8 = .ok (.istore 6, 2) := by decide +kernel
theorem dR_denseSum_10 : decode mR_denseSum.2.1 10 = .ok (.iconst 0, 1) := by decide +kernel
theorem dR_denseSum_11 : decode mR_denseSum.2.1 11 = .ok (.istore 7, 2) := by decide +kernel
theorem dR_denseSum_13 : decode mR_denseSum.2.1 13 = .ok (.iload 7, 2) := by decide +kernel
theorem dR_denseSum_15 : decode mR_denseSum.2.1 15 = .ok (.iload 6, 2) := by decide +kernel
theorem dR_denseSum_17 : decode mR_denseSum.2.1 17 = .ok (.if_icmp .ge 48, 3) := by decide +kernel
theorem dR_denseSum_20 : decode mR_denseSum.2.1 20 = .ok (.lload 4, 2) := by decide +kernel
theorem dR_denseSum_22 : decode mR_denseSum.2.1 22 = .ok (.aload_n 0, 1) := by decide +kernel
theorem dR_denseSum_23 : decode mR_denseSum.2.1 23 = .ok (.getfield 54, 3) := by decide +kernel
theorem dR_denseSum_26 : decode mR_denseSum.2.1 26 = .ok (.sipush 128, 3) := by decide +kernel
theorem dR_denseSum_29 : decode mR_denseSum.2.1 29 = .ok (.iload_n 2, 1) := by decide +kernel
theorem dR_denseSum_30 : decode mR_denseSum.2.1 30 = .ok (.imul, 1) := by decide +kernel
theorem dR_denseSum_31 : decode mR_denseSum.2.1 31 = .ok (.iload 7, 2) := by decide +kernel
theorem dR_denseSum_33 : decode mR_denseSum.2.1 33 = .ok (.iadd, 1) := by decide +kernel
theorem dR_denseSum_34 : decode mR_denseSum.2.1 34 = .ok (.iaload, 1) := by decide +kernel
theorem dR_denseSum_35 : decode mR_denseSum.2.1 35 = .ok (.aload_n 0, 1) := by decide +kernel
theorem dR_denseSum_36 : decode mR_denseSum.2.1 36 = .ok (.getfield 7, 3) := by decide +kernel
theorem dR_denseSum_39 : decode mR_denseSum.2.1 39 = .ok (.aload_n 0, 1) := by decide +kernel
theorem dR_denseSum_40 : decode mR_denseSum.2.1 40 = .ok (.getfield 45, 3) := by decide +kernel
theorem dR_denseSum_43 : decode mR_denseSum.2.1 43 = .ok (.iload_n 1, 1) := by decide +kernel
theorem dR_denseSum_44 : decode mR_denseSum.2.1 44 = .ok (.iaload, 1) := by decide +kernel
theorem dR_denseSum_45 : decode mR_denseSum.2.1 45 = .ok (.iload_n 3, 1) := by decide +kernel
theorem dR_denseSum_46 : decode mR_denseSum.2.1 46 = .ok (.iload 6, 2) := by decide +kernel
theorem dR_denseSum_48 : decode mR_denseSum.2.1 48 = .ok (.imul, 1) := by decide +kernel
theorem dR_denseSum_49 : decode mR_denseSum.2.1 49 = .ok (.iadd, 1) := by decide +kernel
theorem dR_denseSum_50 : decode mR_denseSum.2.1 50 = .ok (.iload 7, 2) := by decide +kernel
theorem dR_denseSum_52 : decode mR_denseSum.2.1 52 = .ok (.iadd, 1) := by decide +kernel
theorem dR_denseSum_53 : decode mR_denseSum.2.1 53 = .ok (.iaload, 1) := by decide +kernel
theorem dR_denseSum_54 : decode mR_denseSum.2.1 54 = .ok (.imul, 1) := by decide +kernel
theorem dR_denseSum_55 : decode mR_denseSum.2.1 55 = .ok (.i2l, 1) := by decide +kernel
theorem dR_denseSum_56 : decode mR_denseSum.2.1 56 = .ok (.ladd, 1) := by decide +kernel
theorem dR_denseSum_57 : decode mR_denseSum.2.1 57 = .ok (.lstore 4, 2) := by decide +kernel
theorem dR_denseSum_59 : decode mR_denseSum.2.1 59 = .ok (.iinc 7 1, 3) := by decide +kernel
theorem dR_denseSum_62 : decode mR_denseSum.2.1 62 = .ok (.goto (-49), 3) := by decide +kernel
theorem dR_denseSum_65 : decode mR_denseSum.2.1 65 = .ok (.lload 4, 2) := by decide +kernel
theorem dR_denseSum_67 : decode mR_denseSum.2.1 67 = .ok (.ldc2_w 204, 3) := by decide +kernel
theorem dR_denseSum_70 : decode mR_denseSum.2.1 70 = .ok (.aload_n 0, 1) := by decide +kernel
theorem dR_denseSum_71 : decode mR_denseSum.2.1 71 = .ok (.getfield 7, 3) := by decide +kernel
theorem dR_denseSum_74 : decode mR_denseSum.2.1 74 = .ok (.aload_n 0, 1) := by decide +kernel
theorem dR_denseSum_75 : decode mR_denseSum.2.1 75 = .ok (.getfield 45, 3) := by decide +kernel
theorem dR_denseSum_78 : decode mR_denseSum.2.1 78 = .ok (.iload_n 1, 1) := by decide +kernel
theorem dR_denseSum_79 : decode mR_denseSum.2.1 79 = .ok (.iaload, 1) := by decide +kernel
theorem dR_denseSum_80 : decode mR_denseSum.2.1 80 = .ok (.aload_n 0, 1) := by decide +kernel
theorem dR_denseSum_81 : decode mR_denseSum.2.1 81 = .ok (.getfield 32, 3) := by decide +kernel
theorem dR_denseSum_84 : decode mR_denseSum.2.1 84 = .ok (.iload_n 1, 1) := by decide +kernel
theorem dR_denseSum_85 : decode mR_denseSum.2.1 85 = .ok (.iaload, 1) := by decide +kernel
theorem dR_denseSum_86 : decode mR_denseSum.2.1 86 = .ok (.iload 6, 2) := by decide +kernel
theorem dR_denseSum_88 : decode mR_denseSum.2.1 88 = .ok (.imul, 1) := by decide +kernel
theorem dR_denseSum_89 : decode mR_denseSum.2.1 89 = .ok (.iadd, 1) := by decide +kernel
theorem dR_denseSum_90 : decode mR_denseSum.2.1 90 = .ok (.iload_n 3, 1) := by decide +kernel
theorem dR_denseSum_91 : decode mR_denseSum.2.1 91 = .ok (.iadd, 1) := by decide +kernel
theorem dR_denseSum_92 : decode mR_denseSum.2.1 92 = .ok (.iaload, 1) := by decide +kernel
theorem dR_denseSum_93 : decode mR_denseSum.2.1 93 = .ok (.i2l, 1) := by decide +kernel
theorem dR_denseSum_94 : decode mR_denseSum.2.1 94 = .ok (.lmul, 1) := by decide +kernel
theorem dR_denseSum_95 : decode mR_denseSum.2.1 95 = .ok (.ladd, 1) := by decide +kernel
theorem dR_denseSum_96 : decode mR_denseSum.2.1 96 = .ok (.lreturn, 1) := by decide +kernel
theorem dR_joined_0 : decode mR_joined.2.1 0 = .ok (.iload 5, 2) := by decide +kernel
theorem dR_joined_2 : decode mR_joined.2.1 2 = .ok (.aload_n 0, 1) := by decide +kernel
theorem dR_joined_3 : decode mR_joined.2.1 3 = .ok (.getfield 32, 3) := by decide +kernel
theorem dR_joined_6 : decode mR_joined.2.1 6 = .ok (.iload_n 1, 1) := by decide +kernel
theorem dR_joined_7 : decode mR_joined.2.1 7 = .ok (.iaload, 1) := by decide +kernel
theorem dR_joined_8 : decode mR_joined.2.1 8 = .ok (.if_icmp .ge 16, 3) := by decide +kernel
theorem dR_joined_11 : decode mR_joined.2.1 11 = .ok (.aload_n 0, 1) := by decide +kernel
theorem dR_joined_12 : decode mR_joined.2.1 12 = .ok (.iload_n 1, 1) := by decide +kernel
theorem dR_joined_13 : decode mR_joined.2.1 13 = .ok (.iload_n 3, 1) := by decide +kernel
theorem dR_joined_14 : decode mR_joined.2.1 14 = .ok (.iload 4, 2) := by decide +kernel
theorem dR_joined_16 : decode mR_joined.2.1 16 = .ok (.iload 5, 2) := by decide +kernel
theorem dR_joined_18 : decode mR_joined.2.1 18 = .ok (.invokevirtual 201, 3) := by decide +kernel
theorem dR_joined_21 : decode mR_joined.2.1 21 = .ok (.goto 20, 3) := by decide +kernel
theorem dR_joined_24 : decode mR_joined.2.1 24 = .ok (.aload_n 0, 1) := by decide +kernel
theorem dR_joined_25 : decode mR_joined.2.1 25 = .ok (.iload_n 2, 1) := by decide +kernel
theorem dR_joined_26 : decode mR_joined.2.1 26 = .ok (.iload_n 3, 1) := by decide +kernel
theorem dR_joined_27 : decode mR_joined.2.1 27 = .ok (.iload 4, 2) := by decide +kernel
theorem dR_joined_29 : decode mR_joined.2.1 29 = .ok (.iload 5, 2) := by decide +kernel
theorem dR_joined_31 : decode mR_joined.2.1 31 = .ok (.aload_n 0, 1) := by decide +kernel
theorem dR_joined_32 : decode mR_joined.2.1 32 = .ok (.getfield 32, 3) := by decide +kernel
theorem dR_joined_35 : decode mR_joined.2.1 35 = .ok (.iload_n 1, 1) := by decide +kernel
theorem dR_joined_36 : decode mR_joined.2.1 36 = .ok (.iaload, 1) := by decide +kernel
theorem dR_joined_37 : decode mR_joined.2.1 37 = .ok (.isub, 1) := by decide +kernel
theorem dR_joined_38 : decode mR_joined.2.1 38 = .ok (.invokevirtual 201, 3) := by decide +kernel
theorem dR_joined_41 : decode mR_joined.2.1 41 = .ok (.ireturn, 1) := by decide +kernel
theorem dR_pooled_0 : decode mR_pooled.2.1 0 = .ok (.aload_n 0, 1) := by decide +kernel
theorem dR_pooled_1 : decode mR_pooled.2.1 1 = .ok (.aload_n 0, 1) := by decide +kernel
theorem dR_pooled_2 : decode mR_pooled.2.1 2 = .ok (.getfield 42, 3) := by decide +kernel
theorem dR_pooled_5 : decode mR_pooled.2.1 5 = .ok (.iload_n 1, 1) := by decide +kernel
theorem dR_pooled_6 : decode mR_pooled.2.1 6 = .ok (.iaload, 1) := by decide +kernel
theorem dR_pooled_7 : decode mR_pooled.2.1 7 = .ok (.invokevirtual 124, 3) := by decide +kernel
theorem dR_pooled_10 : decode mR_pooled.2.1 10 = .ok (.istore 6, 2) := by decide +kernel
theorem dR_pooled_12 : decode mR_pooled.2.1 12 = .ok (.sipush (-129), 3) := by decide +kernel
theorem dR_pooled_15 : decode mR_pooled.2.1 15 = .ok (.istore 7, 2) := by decide +kernel
theorem dR_pooled_17 : decode mR_pooled.2.1 17 = .ok (.iconst 0, 1) := by decide +kernel
theorem dR_pooled_18 : decode mR_pooled.2.1 18 = .ok (.istore 8, 2) := by decide +kernel
theorem dR_pooled_20 : decode mR_pooled.2.1 20 = .ok (.iconst 0, 1) := by decide +kernel
theorem dR_pooled_21 : decode mR_pooled.2.1 21 = .ok (.istore 9, 2) := by decide +kernel
theorem dR_pooled_23 : decode mR_pooled.2.1 23 = .ok (.iconst 0, 1) := by decide +kernel
theorem dR_pooled_24 : decode mR_pooled.2.1 24 = .ok (.istore 10, 2) := by decide +kernel
theorem dR_pooled_26 : decode mR_pooled.2.1 26 = .ok (.iload 10, 2) := by decide +kernel
theorem dR_pooled_28 : decode mR_pooled.2.1 28 = .ok (.iload 6, 2) := by decide +kernel
theorem dR_pooled_30 : decode mR_pooled.2.1 30 = .ok (.iload 6, 2) := by decide +kernel
theorem dR_pooled_32 : decode mR_pooled.2.1 32 = .ok (.imul, 1) := by decide +kernel
theorem dR_pooled_33 : decode mR_pooled.2.1 33 = .ok (.if_icmp .ge 156, 3) := by decide +kernel
theorem dR_pooled_36 : decode mR_pooled.2.1 36 = .ok (.iload_n 3, 1) := by decide +kernel
theorem dR_pooled_37 : decode mR_pooled.2.1 37 = .ok (.aload_n 0, 1) := by decide +kernel
theorem dR_pooled_38 : decode mR_pooled.2.1 38 = .ok (.aload_n 0, 1) := by decide +kernel
theorem dR_pooled_39 : decode mR_pooled.2.1 39 = .ok (.getfield 42, 3) := by decide +kernel
theorem dR_pooled_42 : decode mR_pooled.2.1 42 = .ok (.iload_n 1, 1) := by decide +kernel
theorem dR_pooled_43 : decode mR_pooled.2.1 43 = .ok (.iaload, 1) := by decide +kernel
theorem dR_pooled_44 : decode mR_pooled.2.1 44 = .ok (.invokevirtual 121, 3) := by decide +kernel
theorem dR_pooled_47 : decode mR_pooled.2.1 47 = .ok (.imul, 1) := by decide +kernel
theorem dR_pooled_48 : decode mR_pooled.2.1 48 = .ok (.aload_n 0, 1) := by decide +kernel
theorem dR_pooled_49 : decode mR_pooled.2.1 49 = .ok (.aload_n 0, 1) := by decide +kernel
theorem dR_pooled_50 : decode mR_pooled.2.1 50 = .ok (.getfield 26, 3) := by decide +kernel
theorem dR_pooled_53 : decode mR_pooled.2.1 53 = .ok (.iload_n 2, 1) := by decide +kernel
theorem dR_pooled_54 : decode mR_pooled.2.1 54 = .ok (.iaload, 1) := by decide +kernel
theorem dR_pooled_55 : decode mR_pooled.2.1 55 = .ok (.aload_n 0, 1) := by decide +kernel
theorem dR_pooled_56 : decode mR_pooled.2.1 56 = .ok (.getfield 42, 3) := by decide +kernel
theorem dR_pooled_59 : decode mR_pooled.2.1 59 = .ok (.iload_n 1, 1) := by decide +kernel
theorem dR_pooled_60 : decode mR_pooled.2.1 60 = .ok (.iaload, 1) := by decide +kernel
theorem dR_pooled_61 : decode mR_pooled.2.1 61 = .ok (.invokevirtual 198, 3) := by decide +kernel
theorem dR_pooled_64 : decode mR_pooled.2.1 64 = .ok (.isub, 1) := by decide +kernel
theorem dR_pooled_65 : decode mR_pooled.2.1 65 = .ok (.iload 10, 2) := by decide +kernel
theorem dR_pooled_67 : decode mR_pooled.2.1 67 = .ok (.iload 6, 2) := by decide +kernel
theorem dR_pooled_69 : decode mR_pooled.2.1 69 = .ok (.idiv, 1) := by decide +kernel
theorem dR_pooled_70 : decode mR_pooled.2.1 70 = .ok (.iadd, 1) := by decide +kernel
theorem dR_pooled_71 : decode mR_pooled.2.1 71 = .ok (.istore 11, 2) := by decide +kernel
theorem dR_pooled_73 : decode mR_pooled.2.1 73 = .ok (.iload 4, 2) := by decide +kernel
theorem dR_pooled_75 : decode mR_pooled.2.1 75 = .ok (.aload_n 0, 1) := by decide +kernel
theorem dR_pooled_76 : decode mR_pooled.2.1 76 = .ok (.aload_n 0, 1) := by decide +kernel
theorem dR_pooled_77 : decode mR_pooled.2.1 77 = .ok (.getfield 42, 3) := by decide +kernel
theorem dR_pooled_80 : decode mR_pooled.2.1 80 = .ok (.iload_n 1, 1) := by decide +kernel
theorem dR_pooled_81 : decode mR_pooled.2.1 81 = .ok (.iaload, 1) := by decide +kernel
theorem dR_pooled_82 : decode mR_pooled.2.1 82 = .ok (.invokevirtual 121, 3) := by decide +kernel
theorem dR_pooled_85 : decode mR_pooled.2.1 85 = .ok (.imul, 1) := by decide +kernel
theorem dR_pooled_86 : decode mR_pooled.2.1 86 = .ok (.aload_n 0, 1) := by decide +kernel
theorem dR_pooled_87 : decode mR_pooled.2.1 87 = .ok (.aload_n 0, 1) := by decide +kernel
theorem dR_pooled_88 : decode mR_pooled.2.1 88 = .ok (.getfield 29, 3) := by decide +kernel
theorem dR_pooled_91 : decode mR_pooled.2.1 91 = .ok (.iload_n 2, 1) := by decide +kernel
theorem dR_pooled_92 : decode mR_pooled.2.1 92 = .ok (.iaload, 1) := by decide +kernel
theorem dR_pooled_93 : decode mR_pooled.2.1 93 = .ok (.aload_n 0, 1) := by decide +kernel
theorem dR_pooled_94 : decode mR_pooled.2.1 94 = .ok (.getfield 42, 3) := by decide +kernel
theorem dR_pooled_97 : decode mR_pooled.2.1 97 = .ok (.iload_n 1, 1) := by decide +kernel
theorem dR_pooled_98 : decode mR_pooled.2.1 98 = .ok (.iaload, 1) := by decide +kernel
theorem dR_pooled_99 : decode mR_pooled.2.1 99 = .ok (.invokevirtual 198, 3) := by decide +kernel
theorem dR_pooled_102 : decode mR_pooled.2.1 102 = .ok (.isub, 1) := by decide +kernel
theorem dR_pooled_103 : decode mR_pooled.2.1 103 = .ok (.iload 10, 2) := by decide +kernel
theorem dR_pooled_105 : decode mR_pooled.2.1 105 = .ok (.iload 6, 2) := by decide +kernel
theorem dR_pooled_107 : decode mR_pooled.2.1 107 = .ok (.irem, 1) := by decide +kernel
theorem dR_pooled_108 : decode mR_pooled.2.1 108 = .ok (.iadd, 1) := by decide +kernel
theorem dR_pooled_109 : decode mR_pooled.2.1 109 = .ok (.istore 12, 2) := by decide +kernel
theorem dR_pooled_111 : decode mR_pooled.2.1 111 = .ok (.aload_n 0, 1) := by decide +kernel
theorem dR_pooled_112 : decode mR_pooled.2.1 112 = .ok (.iload 11, 2) := by decide +kernel
theorem dR_pooled_114 : decode mR_pooled.2.1 114 = .ok (.aload_n 0, 1) := by decide +kernel
theorem dR_pooled_115 : decode mR_pooled.2.1 115 = .ok (.getfield 26, 3) := by decide +kernel
theorem dR_pooled_118 : decode mR_pooled.2.1 118 = .ok (.iload_n 2, 1) := by decide +kernel
theorem dR_pooled_119 : decode mR_pooled.2.1 119 = .ok (.iaload, 1) := by decide +kernel
theorem dR_pooled_120 : decode mR_pooled.2.1 120 = .ok (.invokevirtual 94, 3) := by decide +kernel
theorem dR_pooled_123 : decode mR_pooled.2.1 123 = .ok (.ifCond .ne 60, 3) := by decide +kernel
theorem dR_pooled_126 : decode mR_pooled.2.1 126 = .ok (.aload_n 0, 1) := by decide +kernel
theorem dR_pooled_127 : decode mR_pooled.2.1 127 = .ok (.iload 12, 2) := by decide +kernel
theorem dR_pooled_129 : decode mR_pooled.2.1 129 = .ok (.aload_n 0, 1) := by decide +kernel
theorem dR_pooled_130 : decode mR_pooled.2.1 130 = .ok (.getfield 29, 3) := by decide +kernel
theorem dR_pooled_133 : decode mR_pooled.2.1 133 = .ok (.iload_n 2, 1) := by decide +kernel
theorem dR_pooled_134 : decode mR_pooled.2.1 134 = .ok (.iaload, 1) := by decide +kernel
theorem dR_pooled_135 : decode mR_pooled.2.1 135 = .ok (.invokevirtual 94, 3) := by decide +kernel
theorem dR_pooled_138 : decode mR_pooled.2.1 138 = .ok (.ifCond .eq 6, 3) := by decide +kernel
theorem dR_pooled_141 : decode mR_pooled.2.1 141 = .ok (.goto 42, 3) := by decide +kernel
theorem dR_pooled_144 : decode mR_pooled.2.1 144 = .ok (.aload_n 0, 1) := by decide +kernel
theorem dR_pooled_145 : decode mR_pooled.2.1 145 = .ok (.iload_n 2, 1) := by decide +kernel
theorem dR_pooled_146 : decode mR_pooled.2.1 146 = .ok (.iload 11, 2) := by decide +kernel
theorem dR_pooled_148 : decode mR_pooled.2.1 148 = .ok (.iload 12, 2) := by decide +kernel
theorem dR_pooled_150 : decode mR_pooled.2.1 150 = .ok (.iload 5, 2) := by decide +kernel
theorem dR_pooled_152 : decode mR_pooled.2.1 152 = .ok (.invokevirtual 201, 3) := by decide +kernel
theorem dR_pooled_155 : decode mR_pooled.2.1 155 = .ok (.istore 13, 2) := by decide +kernel
theorem dR_pooled_157 : decode mR_pooled.2.1 157 = .ok (.iload 13, 2) := by decide +kernel
theorem dR_pooled_159 : decode mR_pooled.2.1 159 = .ok (.iload 7, 2) := by decide +kernel
theorem dR_pooled_161 : decode mR_pooled.2.1 161 = .ok (.if_icmp .le 8, 3) := by decide +kernel
theorem dR_pooled_164 : decode mR_pooled.2.1 164 = .ok (.iload 13, 2) := by decide +kernel
theorem dR_pooled_166 : decode mR_pooled.2.1 166 = .ok (.goto 5, 3) := by decide +kernel
theorem dR_pooled_169 : decode mR_pooled.2.1 169 = .ok (.iload 7, 2) := by decide +kernel
theorem dR_pooled_171 : decode mR_pooled.2.1 171 = .ok (.istore 7, 2) := by decide +kernel
theorem dR_pooled_173 : decode mR_pooled.2.1 173 = .ok (.iload 8, 2) := by decide +kernel
theorem dR_pooled_175 : decode mR_pooled.2.1 175 = .ok (.iload 13, 2) := by decide +kernel
theorem dR_pooled_177 : decode mR_pooled.2.1 177 = .ok (.iadd, 1) := by decide +kernel
theorem dR_pooled_178 : decode mR_pooled.2.1 178 = .ok (.istore 8, 2) := by decide +kernel
theorem dR_pooled_180 : decode mR_pooled.2.1 180 = .ok (.iinc 9 1, 3) := by decide +kernel
theorem dR_pooled_183 : decode mR_pooled.2.1 183 = .ok (.iinc 10 1, 3) := by decide +kernel
theorem dR_pooled_186 : decode mR_pooled.2.1 186 = .ok (.goto (-160), 3) := by decide +kernel
theorem dR_pooled_189 : decode mR_pooled.2.1 189 = .ok (.aload_n 0, 1) := by decide +kernel
theorem dR_pooled_190 : decode mR_pooled.2.1 190 = .ok (.getfield 17, 3) := by decide +kernel
theorem dR_pooled_193 : decode mR_pooled.2.1 193 = .ok (.iload_n 1, 1) := by decide +kernel
theorem dR_pooled_194 : decode mR_pooled.2.1 194 = .ok (.iaload, 1) := by decide +kernel
theorem dR_pooled_195 : decode mR_pooled.2.1 195 = .ok (.bipush 7, 2) := by decide +kernel
theorem dR_pooled_197 : decode mR_pooled.2.1 197 = .ok (.if_icmp .ne 8, 3) := by decide +kernel
theorem dR_pooled_200 : decode mR_pooled.2.1 200 = .ok (.iload 7, 2) := by decide +kernel
theorem dR_pooled_202 : decode mR_pooled.2.1 202 = .ok (.goto 22, 3) := by decide +kernel
theorem dR_pooled_205 : decode mR_pooled.2.1 205 = .ok (.aload_n 0, 1) := by decide +kernel
theorem dR_pooled_206 : decode mR_pooled.2.1 206 = .ok (.ldc2_w 178, 3) := by decide +kernel
theorem dR_pooled_209 : decode mR_pooled.2.1 209 = .ok (.iload 8, 2) := by decide +kernel
theorem dR_pooled_211 : decode mR_pooled.2.1 211 = .ok (.i2l, 1) := by decide +kernel
theorem dR_pooled_212 : decode mR_pooled.2.1 212 = .ok (.lmul, 1) := by decide +kernel
theorem dR_pooled_213 : decode mR_pooled.2.1 213 = .ok (.ldc2_w 178, 3) := by decide +kernel
theorem dR_pooled_216 : decode mR_pooled.2.1 216 = .ok (.iload 9, 2) := by decide +kernel
theorem dR_pooled_218 : decode mR_pooled.2.1 218 = .ok (.i2l, 1) := by decide +kernel
theorem dR_pooled_219 : decode mR_pooled.2.1 219 = .ok (.lmul, 1) := by decide +kernel
theorem dR_pooled_220 : decode mR_pooled.2.1 220 = .ok (.invokevirtual 190, 3) := by decide +kernel
theorem dR_pooled_223 : decode mR_pooled.2.1 223 = .ok (.l2i, 1) := by decide +kernel
theorem dR_pooled_224 : decode mR_pooled.2.1 224 = .ok (.ireturn, 1) := by decide +kernel
theorem dR_arena_0 : decode mR_arena.2.1 0 = .ok (.aload_n 0, 1) := by decide +kernel
theorem dR_arena_1 : decode mR_arena.2.1 1 = .ok (.iconst 0, 1) := by decide +kernel
theorem dR_arena_2 : decode mR_arena.2.1 2 = .ok (.putfield 85, 3) := by decide +kernel
theorem dR_arena_5 : decode mR_arena.2.1 5 = .ok (.aload_n 0, 1) := by decide +kernel
theorem dR_arena_6 : decode mR_arena.2.1 6 = .ok (.iload_n 1, 1) := by decide +kernel
theorem dR_arena_7 : decode mR_arena.2.1 7 = .ok (.aload_n 0, 1) := by decide +kernel
theorem dR_arena_8 : decode mR_arena.2.1 8 = .ok (.getfield 232, 3) := by decide +kernel
theorem dR_arena_11 : decode mR_arena.2.1 11 = .ok (.invokevirtual 94, 3) := by decide +kernel
theorem dR_arena_14 : decode mR_arena.2.1 14 = .ok (.ifCond .eq 11, 3) := by decide +kernel
theorem dR_arena_17 : decode mR_arena.2.1 17 = .ok (.aload_n 0, 1) := by decide +kernel
theorem dR_arena_18 : decode mR_arena.2.1 18 = .ok (.iconst 1, 1) := by decide +kernel
theorem dR_arena_19 : decode mR_arena.2.1 19 = .ok (.invokevirtual 98, 3) := by decide +kernel
theorem dR_arena_22 : decode mR_arena.2.1 22 = .ok (.goto 9, 3) := by decide +kernel
theorem dR_arena_25 : decode mR_arena.2.1 25 = .ok (.aload_n 0, 1) := by decide +kernel
theorem dR_arena_26 : decode mR_arena.2.1 26 = .ok (.getfield 79, 3) := by decide +kernel
theorem dR_arena_29 : decode mR_arena.2.1 29 = .ok (.iload_n 1, 1) := by decide +kernel
theorem dR_arena_30 : decode mR_arena.2.1 30 = .ok (.iaload, 1) := by decide +kernel
theorem dR_arena_31 : decode mR_arena.2.1 31 = .ok (.ireturn, 1) := by decide +kernel
theorem dR_result_0 : decode mR_result.2.1 0 = .ok (.aload_n 0, 1) := by decide +kernel
theorem dR_result_1 : decode mR_result.2.1 1 = .ok (.iconst 0, 1) := by decide +kernel
theorem dR_result_2 : decode mR_result.2.1 2 = .ok (.putfield 85, 3) := by decide +kernel
theorem dR_result_5 : decode mR_result.2.1 5 = .ok (.aload_n 0, 1) := by decide +kernel
theorem dR_result_6 : decode mR_result.2.1 6 = .ok (.iload_n 1, 1) := by decide +kernel
theorem dR_result_7 : decode mR_result.2.1 7 = .ok (.aload_n 0, 1) := by decide +kernel
theorem dR_result_8 : decode mR_result.2.1 8 = .ok (.getfield 235, 3) := by decide +kernel
theorem dR_result_11 : decode mR_result.2.1 11 = .ok (.invokevirtual 94, 3) := by decide +kernel
theorem dR_result_14 : decode mR_result.2.1 14 = .ok (.ifCond .eq 10, 3) := by decide +kernel
theorem dR_result_17 : decode mR_result.2.1 17 = .ok (.aload_n 0, 1) := by decide +kernel
theorem dR_result_18 : decode mR_result.2.1 18 = .ok (.iconst 1, 1) := by decide +kernel
theorem dR_result_19 : decode mR_result.2.1 19 = .ok (.invokevirtual 98, 3) := by decide +kernel
theorem dR_result_22 : decode mR_result.2.1 22 = .ok (.i2d, 1) := by decide +kernel
theorem dR_result_23 : decode mR_result.2.1 23 = .ok (.dreturn, 1) := by decide +kernel
theorem dR_result_24 : decode mR_result.2.1 24 = .ok (.aload_n 0, 1) := by decide +kernel
theorem dR_result_25 : decode mR_result.2.1 25 = .ok (.getfield 82, 3) := by decide +kernel
theorem dR_result_28 : decode mR_result.2.1 28 = .ok (.iload_n 1, 1) := by decide +kernel
theorem dR_result_29 : decode mR_result.2.1 29 = .ok (.iaload, 1) := by decide +kernel
theorem dR_result_30 : decode mR_result.2.1 30 = .ok (.i2d, 1) := by decide +kernel
theorem dR_result_31 : decode mR_result.2.1 31 = .ok (.aload_n 0, 1) := by decide +kernel
theorem dR_result_32 : decode mR_result.2.1 32 = .ok (.getfield 238, 3) := by decide +kernel
theorem dR_result_35 : decode mR_result.2.1 35 = .ok (.dmul, 1) := by decide +kernel
theorem dR_result_36 : decode mR_result.2.1 36 = .ok (.dreturn, 1) := by decide +kernel
theorem dR_about_0 : decode mR_about.2.1 0 = .ok (.aload_n 0, 1) := by decide +kernel
theorem dR_about_1 : decode mR_about.2.1 1 = .ok (.iconst 0, 1) := by decide +kernel
theorem dR_about_2 : decode mR_about.2.1 2 = .ok (.putfield 85, 3) := by decide +kernel
theorem dR_about_5 : decode mR_about.2.1 5 = .ok (.aload_n 0, 1) := by decide +kernel
theorem dR_about_6 : decode mR_about.2.1 6 = .ok (.iload_n 1, 1) := by decide +kernel
theorem dR_about_7 : decode mR_about.2.1 7 = .ok (.aload_n 0, 1) := by decide +kernel
theorem dR_about_8 : decode mR_about.2.1 8 = .ok (.getfield 106, 3) := by decide +kernel
theorem dR_about_11 : decode mR_about.2.1 11 = .ok (.invokevirtual 94, 3) := by decide +kernel
theorem dR_about_14 : decode mR_about.2.1 14 = .ok (.ifCond .ne 13, 3) := by decide +kernel
theorem dR_about_17 : decode mR_about.2.1 17 = .ok (.aload_n 0, 1) := by decide +kernel
theorem dR_about_18 : decode mR_about.2.1 18 = .ok (.iload_n 2, 1) := by decide +kernel
theorem dR_about_19 : decode mR_about.2.1 19 = .ok (.bipush 8, 2) := by decide +kernel
theorem dR_about_21 : decode mR_about.2.1 21 = .ok (.invokevirtual 94, 3) := by decide +kernel
theorem dR_about_24 : decode mR_about.2.1 24 = .ok (.ifCond .eq 9, 3) := by decide +kernel
theorem dR_about_27 : decode mR_about.2.1 27 = .ok (.aload_n 0, 1) := by decide +kernel
theorem dR_about_28 : decode mR_about.2.1 28 = .ok (.iconst 1, 1) := by decide +kernel
theorem dR_about_29 : decode mR_about.2.1 29 = .ok (.invokevirtual 98, 3) := by decide +kernel
theorem dR_about_32 : decode mR_about.2.1 32 = .ok (.ireturn, 1) := by decide +kernel
theorem dR_about_33 : decode mR_about.2.1 33 = .ok (.iload_n 2, 1) := by decide +kernel
theorem dR_about_34 : decode mR_about.2.1 34 = .ok (.ifCond .ne 10, 3) := by decide +kernel
theorem dR_about_37 : decode mR_about.2.1 37 = .ok (.aload_n 0, 1) := by decide +kernel
theorem dR_about_38 : decode mR_about.2.1 38 = .ok (.getfield 17, 3) := by decide +kernel
theorem dR_about_41 : decode mR_about.2.1 41 = .ok (.iload_n 1, 1) := by decide +kernel
theorem dR_about_42 : decode mR_about.2.1 42 = .ok (.iaload, 1) := by decide +kernel
theorem dR_about_43 : decode mR_about.2.1 43 = .ok (.ireturn, 1) := by decide +kernel
theorem dR_about_44 : decode mR_about.2.1 44 = .ok (.iload_n 2, 1) := by decide +kernel
theorem dR_about_45 : decode mR_about.2.1 45 = .ok (.iconst 4, 1) := by decide +kernel
theorem dR_about_46 : decode mR_about.2.1 46 = .ok (.if_icmp .ge 38, 3) := by decide +kernel
theorem dR_about_49 : decode mR_about.2.1 49 = .ok (.iload_n 2, 1) := by decide +kernel
theorem dR_about_50 : decode mR_about.2.1 50 = .ok (.iconst 1, 1) := by decide +kernel
theorem dR_about_51 : decode mR_about.2.1 51 = .ok (.if_icmp .ne 12, 3) := by decide +kernel
theorem dR_about_54 : decode mR_about.2.1 54 = .ok (.aload_n 0, 1) := by decide +kernel
theorem dR_about_55 : decode mR_about.2.1 55 = .ok (.getfield 26, 3) := by decide +kernel
theorem dR_about_58 : decode mR_about.2.1 58 = .ok (.iload_n 1, 1) := by decide +kernel
theorem dR_about_59 : decode mR_about.2.1 59 = .ok (.iaload, 1) := by decide +kernel
theorem dR_about_60 : decode mR_about.2.1 60 = .ok (.goto 23, 3) := by decide +kernel
theorem dR_about_63 : decode mR_about.2.1 63 = .ok (.iload_n 2, 1) := by decide +kernel
theorem dR_about_64 : decode mR_about.2.1 64 = .ok (.iconst 2, 1) := by decide +kernel
theorem dR_about_65 : decode mR_about.2.1 65 = .ok (.if_icmp .ne 12, 3) := by decide +kernel
theorem dR_about_68 : decode mR_about.2.1 68 = .ok (.aload_n 0, 1) := by decide +kernel
theorem dR_about_69 : decode mR_about.2.1 69 = .ok (.getfield 29, 3) := by decide +kernel
theorem dR_about_72 : decode mR_about.2.1 72 = .ok (.iload_n 1, 1) := by decide +kernel
theorem dR_about_73 : decode mR_about.2.1 73 = .ok (.iaload, 1) := by decide +kernel
theorem dR_about_74 : decode mR_about.2.1 74 = .ok (.goto 9, 3) := by decide +kernel
theorem dR_about_77 : decode mR_about.2.1 77 = .ok (.aload_n 0, 1) := by decide +kernel
theorem dR_about_78 : decode mR_about.2.1 78 = .ok (.getfield 32, 3) := by decide +kernel
theorem dR_about_81 : decode mR_about.2.1 81 = .ok (.iload_n 1, 1) := by decide +kernel
theorem dR_about_82 : decode mR_about.2.1 82 = .ok (.iaload, 1) := by decide +kernel
theorem dR_about_83 : decode mR_about.2.1 83 = .ok (.ireturn, 1) := by decide +kernel
theorem dR_about_84 : decode mR_about.2.1 84 = .ok (.aload_n 0, 1) := by decide +kernel
theorem dR_about_85 : decode mR_about.2.1 85 = .ok (.getfield 109, 3) := by decide +kernel
theorem dR_about_88 : decode mR_about.2.1 88 = .ok (.ifCond .ne 9, 3) := by decide +kernel
theorem dR_about_91 : decode mR_about.2.1 91 = .ok (.aload_n 0, 1) := by decide +kernel
theorem dR_about_92 : decode mR_about.2.1 92 = .ok (.iconst 2, 1) := by decide +kernel
theorem dR_about_93 : decode mR_about.2.1 93 = .ok (.invokevirtual 98, 3) := by decide +kernel
theorem dR_about_96 : decode mR_about.2.1 96 = .ok (.ireturn, 1) := by decide +kernel
theorem dR_about_97 : decode mR_about.2.1 97 = .ok (.aload_n 0, 1) := by decide +kernel
theorem dR_about_98 : decode mR_about.2.1 98 = .ok (.getfield 64, 3) := by decide +kernel
theorem dR_about_101 : decode mR_about.2.1 101 = .ok (.iload_n 1, 1) := by decide +kernel
theorem dR_about_102 : decode mR_about.2.1 102 = .ok (.iaload, 1) := by decide +kernel
theorem dR_about_103 : decode mR_about.2.1 103 = .ok (.istore_n 3, 1) := by decide +kernel
theorem dR_about_104 : decode mR_about.2.1 104 = .ok (.iload_n 2, 1) := by decide +kernel
theorem dR_about_105 : decode mR_about.2.1 105 = .ok (.iconst 4, 1) := by decide +kernel
theorem dR_about_106 : decode mR_about.2.1 106 = .ok (.if_icmp .ne 5, 3) := by decide +kernel
theorem dR_about_109 : decode mR_about.2.1 109 = .ok (.iload_n 3, 1) := by decide +kernel
theorem dR_about_110 : decode mR_about.2.1 110 = .ok (.ireturn, 1) := by decide +kernel
theorem dR_about_111 : decode mR_about.2.1 111 = .ok (.iload_n 2, 1) := by decide +kernel
theorem dR_about_112 : decode mR_about.2.1 112 = .ok (.iconst 5, 1) := by decide +kernel
theorem dR_about_113 : decode mR_about.2.1 113 = .ok (.if_icmp .ne 10, 3) := by decide +kernel
theorem dR_about_116 : decode mR_about.2.1 116 = .ok (.aload_n 0, 1) := by decide +kernel
theorem dR_about_117 : decode mR_about.2.1 117 = .ok (.getfield 67, 3) := by decide +kernel
theorem dR_about_120 : decode mR_about.2.1 120 = .ok (.iload_n 3, 1) := by decide +kernel
theorem dR_about_121 : decode mR_about.2.1 121 = .ok (.iaload, 1) := by decide +kernel
theorem dR_about_122 : decode mR_about.2.1 122 = .ok (.ireturn, 1) := by decide +kernel
theorem dR_about_123 : decode mR_about.2.1 123 = .ok (.aload_n 0, 1) := by decide +kernel
theorem dR_about_124 : decode mR_about.2.1 124 = .ok (.getfield 67, 3) := by decide +kernel
theorem dR_about_127 : decode mR_about.2.1 127 = .ok (.iload_n 3, 1) := by decide +kernel
theorem dR_about_128 : decode mR_about.2.1 128 = .ok (.iaload, 1) := by decide +kernel
theorem dR_about_129 : decode mR_about.2.1 129 = .ok (.iconst 2, 1) := by decide +kernel
theorem dR_about_130 : decode mR_about.2.1 130 = .ok (.if_icmp .eq 9, 3) := by decide +kernel
theorem dR_about_133 : decode mR_about.2.1 133 = .ok (.aload_n 0, 1) := by decide +kernel
theorem dR_about_134 : decode mR_about.2.1 134 = .ok (.iconst 3, 1) := by decide +kernel
theorem dR_about_135 : decode mR_about.2.1 135 = .ok (.invokevirtual 98, 3) := by decide +kernel
theorem dR_about_138 : decode mR_about.2.1 138 = .ok (.ireturn, 1) := by decide +kernel
theorem dR_about_139 : decode mR_about.2.1 139 = .ok (.iload_n 2, 1) := by decide +kernel
theorem dR_about_140 : decode mR_about.2.1 140 = .ok (.bipush 6, 2) := by decide +kernel
theorem dR_about_142 : decode mR_about.2.1 142 = .ok (.if_icmp .ne 12, 3) := by decide +kernel
theorem dR_about_145 : decode mR_about.2.1 145 = .ok (.aload_n 0, 1) := by decide +kernel
theorem dR_about_146 : decode mR_about.2.1 146 = .ok (.getfield 70, 3) := by decide +kernel
theorem dR_about_149 : decode mR_about.2.1 149 = .ok (.iload_n 3, 1) := by decide +kernel
theorem dR_about_150 : decode mR_about.2.1 150 = .ok (.iaload, 1) := by decide +kernel
theorem dR_about_151 : decode mR_about.2.1 151 = .ok (.goto 9, 3) := by decide +kernel
theorem dR_about_154 : decode mR_about.2.1 154 = .ok (.aload_n 0, 1) := by decide +kernel
theorem dR_about_155 : decode mR_about.2.1 155 = .ok (.getfield 76, 3) := by decide +kernel
theorem dR_about_158 : decode mR_about.2.1 158 = .ok (.iload_n 3, 1) := by decide +kernel
theorem dR_about_159 : decode mR_about.2.1 159 = .ok (.iaload, 1) := by decide +kernel
theorem dR_about_160 : decode mR_about.2.1 160 = .ok (.ireturn, 1) := by decide +kernel
theorem dR_peak_0 : decode mR_peak.2.1 0 = .ok (.aload_n 0, 1) := by decide +kernel
theorem dR_peak_1 : decode mR_peak.2.1 1 = .ok (.iconst 0, 1) := by decide +kernel
theorem dR_peak_2 : decode mR_peak.2.1 2 = .ok (.putfield 85, 3) := by decide +kernel
theorem dR_peak_5 : decode mR_peak.2.1 5 = .ok (.aload_n 0, 1) := by decide +kernel
theorem dR_peak_6 : decode mR_peak.2.1 6 = .ok (.getfield 109, 3) := by decide +kernel
theorem dR_peak_9 : decode mR_peak.2.1 9 = .ok (.ifCond .eq 10, 3) := by decide +kernel
theorem dR_peak_12 : decode mR_peak.2.1 12 = .ok (.aload_n 0, 1) := by decide +kernel
theorem dR_peak_13 : decode mR_peak.2.1 13 = .ok (.getfield 158, 3) := by decide +kernel
theorem dR_peak_16 : decode mR_peak.2.1 16 = .ok (.goto 8, 3) := by decide +kernel
theorem dR_peak_19 : decode mR_peak.2.1 19 = .ok (.aload_n 0, 1) := by decide +kernel
theorem dR_peak_20 : decode mR_peak.2.1 20 = .ok (.iconst 1, 1) := by decide +kernel
theorem dR_peak_21 : decode mR_peak.2.1 21 = .ok (.invokevirtual 98, 3) := by decide +kernel
theorem dR_peak_24 : decode mR_peak.2.1 24 = .ok (.ireturn, 1) := by decide +kernel
end
section
theorem lT_init : (parseMethodDescriptor mT_init.1.desc).map (fun q => q.parameters.length) = some 0 := by decide +kernel
theorem lG_init : (parseMethodDescriptor mG_init.1.desc).map (fun q => q.parameters.length) = some 0 := by decide +kernel
theorem lM_init : (parseMethodDescriptor mM_init.1.desc).map (fun q => q.parameters.length) = some 0 := by decide +kernel
theorem lW_init : (parseMethodDescriptor mW_init.1.desc).map (fun q => q.parameters.length) = some 0 := by decide +kernel
theorem lS_init : (parseMethodDescriptor mS_init.1.desc).map (fun q => q.parameters.length) = some 0 := by decide +kernel
theorem lL_weights : (parseMethodDescriptor mL_weights.1.desc).map (fun q => q.parameters.length) = some 4 := by decide +kernel
theorem lT_weights : (parseMethodDescriptor mT_weights.1.desc).map (fun q => q.parameters.length) = some 2 := by decide +kernel
theorem lT_requireBetween : (parseMethodDescriptor mT_requireBetween.1.desc).map (fun q => q.parameters.length) = some 3 := by decide +kernel
theorem lT_require : (parseMethodDescriptor mT_require.1.desc).map (fun q => q.parameters.length) = some 1 := by decide +kernel
theorem lT_spread : (parseMethodDescriptor mT_spread.1.desc).map (fun q => q.parameters.length) = some 3 := by decide +kernel
theorem lL_weightScale : (parseMethodDescriptor mL_weightScale.1.desc).map (fun q => q.parameters.length) = some 2 := by decide +kernel
theorem lT_weightScale : (parseMethodDescriptor mT_weightScale.1.desc).map (fun q => q.parameters.length) = some 1 := by decide +kernel
theorem lT_requireScale : (parseMethodDescriptor mT_requireScale.1.desc).map (fun q => q.parameters.length) = some 1 := by decide +kernel
theorem lL_input : (parseMethodDescriptor mL_input.1.desc).map (fun q => q.parameters.length) = some 6 := by decide +kernel
theorem lT_input : (parseMethodDescriptor mT_input.1.desc).map (fun q => q.parameters.length) = some 4 := by decide +kernel
theorem lT_requireShape : (parseMethodDescriptor mT_requireShape.1.desc).map (fun q => q.parameters.length) = some 3 := by decide +kernel
theorem lT_requireRoom : (parseMethodDescriptor mT_requireRoom.1.desc).map (fun q => q.parameters.length) = some 0 := by decide +kernel
theorem lN_init : (parseMethodDescriptor mN_init.1.desc).map (fun q => q.parameters.length) = some 7 := by decide +kernel
theorem lT_keep : (parseMethodDescriptor mT_keep.1.desc).map (fun q => q.parameters.length) = some 1 := by decide +kernel
theorem lG_append : (parseMethodDescriptor mG_append.1.desc).map (fun q => q.parameters.length) = some 1 := by decide +kernel
theorem lL_windows : (parseMethodDescriptor mL_windows.1.desc).map (fun q => q.parameters.length) = some 7 := by decide +kernel
theorem lT_windows : (parseMethodDescriptor mT_windows.1.desc).map (fun q => q.parameters.length) = some 5 := by decide +kernel
theorem lT_requireNode : (parseMethodDescriptor mT_requireNode.1.desc).map (fun q => q.parameters.length) = some 1 := by decide +kernel
theorem lT_requireWindowsCode : (parseMethodDescriptor mT_requireWindowsCode.1.desc).map (fun q => q.parameters.length) = some 2 := by decide +kernel
theorem lT_requireWindowFits : (parseMethodDescriptor mT_requireWindowFits.1.desc).map (fun q => q.parameters.length) = some 2 := by decide +kernel
theorem lW_fits : (parseMethodDescriptor mW_fits.1.desc).map (fun q => q.parameters.length) = some 2 := by decide +kernel
theorem lW_isSame : (parseMethodDescriptor mW_isSame.1.desc).map (fun q => q.parameters.length) = some 1 := by decide +kernel
theorem lW_sizeOf : (parseMethodDescriptor mW_sizeOf.1.desc).map (fun q => q.parameters.length) = some 1 := by decide +kernel
theorem lT_requireWeights : (parseMethodDescriptor mT_requireWeights.1.desc).map (fun q => q.parameters.length) = some 3 := by decide +kernel
theorem lT_weightedRatio : (parseMethodDescriptor mT_weightedRatio.1.desc).map (fun q => q.parameters.length) = some 2 := by decide +kernel
theorem lT_requireGood : (parseMethodDescriptor mT_requireGood.1.desc).map (fun q => q.parameters.length) = some 1 := by decide +kernel
theorem lS_isGood : (parseMethodDescriptor mS_isGood.1.desc).map (fun q => q.parameters.length) = some 1 := by decide +kernel
theorem lW_placesOf : (parseMethodDescriptor mW_placesOf.1.desc).map (fun q => q.parameters.length) = some 2 := by decide +kernel
theorem lW_stepOf : (parseMethodDescriptor mW_stepOf.1.desc).map (fun q => q.parameters.length) = some 1 := by decide +kernel
theorem lN_weigh : (parseMethodDescriptor mN_weigh.1.desc).map (fun q => q.parameters.length) = some 3 := by decide +kernel
theorem lL_dense : (parseMethodDescriptor mL_dense.1.desc).map (fun q => q.parameters.length) = some 6 := by decide +kernel
theorem lT_dense : (parseMethodDescriptor mT_dense.1.desc).map (fun q => q.parameters.length) = some 4 := by decide +kernel
theorem lL_add : (parseMethodDescriptor mL_add.1.desc).map (fun q => q.parameters.length) = some 5 := by decide +kernel
theorem lT_add : (parseMethodDescriptor mT_add.1.desc).map (fun q => q.parameters.length) = some 3 := by decide +kernel
theorem lN_hasShape : (parseMethodDescriptor mN_hasShape.1.desc).map (fun q => q.parameters.length) = some 3 := by decide +kernel
theorem lL_concat : (parseMethodDescriptor mL_concat.1.desc).map (fun q => q.parameters.length) = some 4 := by decide +kernel
theorem lT_concat : (parseMethodDescriptor mT_concat.1.desc).map (fun q => q.parameters.length) = some 2 := by decide +kernel
theorem lL_reshape : (parseMethodDescriptor mL_reshape.1.desc).map (fun q => q.parameters.length) = some 6 := by decide +kernel
theorem lT_reshape : (parseMethodDescriptor mT_reshape.1.desc).map (fun q => q.parameters.length) = some 4 := by decide +kernel
theorem lL_pool : (parseMethodDescriptor mL_pool.1.desc).map (fun q => q.parameters.length) = some 5 := by decide +kernel
theorem lT_pool : (parseMethodDescriptor mT_pool.1.desc).map (fun q => q.parameters.length) = some 3 := by decide +kernel
theorem lL_clamp : (parseMethodDescriptor mL_clamp.1.desc).map (fun q => q.parameters.length) = some 5 := by decide +kernel
theorem lT_clamp : (parseMethodDescriptor mT_clamp.1.desc).map (fun q => q.parameters.length) = some 3 := by decide +kernel
theorem lL_rescale : (parseMethodDescriptor mL_rescale.1.desc).map (fun q => q.parameters.length) = some 4 := by decide +kernel
theorem lT_rescale : (parseMethodDescriptor mT_rescale.1.desc).map (fun q => q.parameters.length) = some 2 := by decide +kernel
theorem lL_output : (parseMethodDescriptor mL_output.1.desc).map (fun q => q.parameters.length) = some 3 := by decide +kernel
theorem lT_output : (parseMethodDescriptor mT_output.1.desc).map (fun q => q.parameters.length) = some 1 := by decide +kernel
theorem lL_compile : (parseMethodDescriptor mL_compile.1.desc).map (fun q => q.parameters.length) = some 2 := by decide +kernel
theorem lT_compile : (parseMethodDescriptor mT_compile.1.desc).map (fun q => q.parameters.length) = some 0 := by decide +kernel
theorem lG_plan : (parseMethodDescriptor mG_plan.1.desc).map (fun q => q.parameters.length) = some 1 := by decide +kernel
theorem lG_makeSmaller : (parseMethodDescriptor mG_makeSmaller.1.desc).map (fun q => q.parameters.length) = some 0 := by decide +kernel
theorem lG_changesNothing : (parseMethodDescriptor mG_changesNothing.1.desc).map (fun q => q.parameters.length) = some 1 := by decide +kernel
theorem lG_meant : (parseMethodDescriptor mG_meant.1.desc).map (fun q => q.parameters.length) = some 1 := by decide +kernel
theorem lG_firstAlike : (parseMethodDescriptor mG_firstAlike.1.desc).map (fun q => q.parameters.length) = some 1 := by decide +kernel
theorem lG_alike : (parseMethodDescriptor mG_alike.1.desc).map (fun q => q.parameters.length) = some 2 := by decide +kernel
theorem lN_saysTheSame : (parseMethodDescriptor mN_saysTheSame.1.desc).map (fun q => q.parameters.length) = some 1 := by decide +kernel
theorem lG_markNeeded : (parseMethodDescriptor mG_markNeeded.1.desc).map (fun q => q.parameters.length) = some 1 := by decide +kernel
theorem lJ_fill : (parseMethodDescriptor mJ_fill.1.desc).map (fun q => q.parameters.length) = some 2 := by decide +kernel
theorem lG_need : (parseMethodDescriptor mG_need.1.desc).map (fun q => q.parameters.length) = some 1 := by decide +kernel
theorem lG_fuse : (parseMethodDescriptor mG_fuse.1.desc).map (fun q => q.parameters.length) = some 1 := by decide +kernel
theorem lN_hasWeights : (parseMethodDescriptor mN_hasWeights.1.desc).map (fun q => q.parameters.length) = some 0 := by decide +kernel
theorem lG_feedsOneClamp : (parseMethodDescriptor mG_feedsOneClamp.1.desc).map (fun q => q.parameters.length) = some 1 := by decide +kernel
theorem lG_timesUsed : (parseMethodDescriptor mG_timesUsed.1.desc).map (fun q => q.parameters.length) = some 2 := by decide +kernel
theorem lG_countSteps : (parseMethodDescriptor mG_countSteps.1.desc).map (fun q => q.parameters.length) = some 0 := by decide +kernel
theorem lG_findLives : (parseMethodDescriptor mG_findLives.1.desc).map (fun q => q.parameters.length) = some 1 := by decide +kernel
theorem lG_fusedInto : (parseMethodDescriptor mG_fusedInto.1.desc).map (fun q => q.parameters.length) = some 1 := by decide +kernel
theorem lG_keepAlive : (parseMethodDescriptor mG_keepAlive.1.desc).map (fun q => q.parameters.length) = some 2 := by decide +kernel
theorem lG_givePlaces : (parseMethodDescriptor mG_givePlaces.1.desc).map (fun q => q.parameters.length) = some 0 := by decide +kernel
theorem lG_largestWithoutPlace : (parseMethodDescriptor mG_largestWithoutPlace.1.desc).map (fun q => q.parameters.length) = some 0 := by decide +kernel
theorem lG_leastFreePlace : (parseMethodDescriptor mG_leastFreePlace.1.desc).map (fun q => q.parameters.length) = some 1 := by decide +kernel
theorem lG_nodeInTheWay : (parseMethodDescriptor mG_nodeInTheWay.1.desc).map (fun q => q.parameters.length) = some 2 := by decide +kernel
theorem lG_liveTogether : (parseMethodDescriptor mG_liveTogether.1.desc).map (fun q => q.parameters.length) = some 2 := by decide +kernel
theorem lL_feed : (parseMethodDescriptor mL_feed.1.desc).map (fun q => q.parameters.length) = some 5 := by decide +kernel
theorem lT_feed : (parseMethodDescriptor mT_feed.1.desc).map (fun q => q.parameters.length) = some 3 := by decide +kernel
theorem lL_run : (parseMethodDescriptor mL_run.1.desc).map (fun q => q.parameters.length) = some 3 := by decide +kernel
theorem lT_run : (parseMethodDescriptor mT_run.1.desc).map (fun q => q.parameters.length) = some 1 := by decide +kernel
theorem lT_requireCompiled : (parseMethodDescriptor mT_requireCompiled.1.desc).map (fun q => q.parameters.length) = some 0 := by decide +kernel
theorem lM_perform : (parseMethodDescriptor mM_perform.1.desc).map (fun q => q.parameters.length) = some 2 := by decide +kernel
theorem lM_doStep : (parseMethodDescriptor mM_doStep.1.desc).map (fun q => q.parameters.length) = some 2 := by decide +kernel
theorem lM_compute : (parseMethodDescriptor mM_compute.1.desc).map (fun q => q.parameters.length) = some 3 := by decide +kernel
theorem lG_placeMeant : (parseMethodDescriptor mG_placeMeant.1.desc).map (fun q => q.parameters.length) = some 1 := by decide +kernel
theorem lM_connect : (parseMethodDescriptor mM_connect.1.desc).map (fun q => q.parameters.length) = some 4 := by decide +kernel
theorem lS_take : (parseMethodDescriptor mS_take.1.desc).map (fun q => q.parameters.length) = some 1 := by decide +kernel
theorem lM_bias : (parseMethodDescriptor mM_bias.1.desc).map (fun q => q.parameters.length) = some 3 := by decide +kernel
theorem lS_scaled : (parseMethodDescriptor mS_scaled.1.desc).map (fun q => q.parameters.length) = some 1 := by decide +kernel
theorem lM_cut : (parseMethodDescriptor mM_cut.1.desc).map (fun q => q.parameters.length) = some 1 := by decide +kernel
theorem lM_addUp : (parseMethodDescriptor mM_addUp.1.desc).map (fun q => q.parameters.length) = some 4 := by decide +kernel
theorem lM_join : (parseMethodDescriptor mM_join.1.desc).map (fun q => q.parameters.length) = some 5 := by decide +kernel
theorem lM_hold : (parseMethodDescriptor mM_hold.1.desc).map (fun q => q.parameters.length) = some 3 := by decide +kernel
theorem lM_changeScale : (parseMethodDescriptor mM_changeScale.1.desc).map (fun q => q.parameters.length) = some 3 := by decide +kernel
theorem lM_slide : (parseMethodDescriptor mM_slide.1.desc).map (fun q => q.parameters.length) = some 4 := by decide +kernel
theorem lW_lay : (parseMethodDescriptor mW_lay.1.desc).map (fun q => q.parameters.length) = some 2 := by decide +kernel
theorem lW_before : (parseMethodDescriptor mW_before.1.desc).map (fun q => q.parameters.length) = some 2 := by decide +kernel
theorem lW_move : (parseMethodDescriptor mW_move.1.desc).map (fun q => q.parameters.length) = some 2 := by decide +kernel
theorem lM_ofWindow : (parseMethodDescriptor mM_ofWindow.1.desc).map (fun q => q.parameters.length) = some 4 := by decide +kernel
theorem lM_sumAllChannels : (parseMethodDescriptor mM_sumAllChannels.1.desc).map (fun q => q.parameters.length) = some 4 := by decide +kernel
theorem lM_sumOneChannel : (parseMethodDescriptor mM_sumOneChannel.1.desc).map (fun q => q.parameters.length) = some 4 := by decide +kernel
theorem lM_greatest : (parseMethodDescriptor mM_greatest.1.desc).map (fun q => q.parameters.length) = some 2 := by decide +kernel
theorem lM_average : (parseMethodDescriptor mM_average.1.desc).map (fun q => q.parameters.length) = some 2 := by decide +kernel
theorem lM_sumOfResult : (parseMethodDescriptor mM_sumOfResult.1.desc).map (fun q => q.parameters.length) = some 0 := by decide +kernel
theorem lL_arena : (parseMethodDescriptor mL_arena.1.desc).map (fun q => q.parameters.length) = some 3 := by decide +kernel
theorem lT_arena : (parseMethodDescriptor mT_arena.1.desc).map (fun q => q.parameters.length) = some 1 := by decide +kernel
theorem lT_requirePresent : (parseMethodDescriptor mT_requirePresent.1.desc).map (fun q => q.parameters.length) = some 1 := by decide +kernel
theorem lL_result : (parseMethodDescriptor mL_result.1.desc).map (fun q => q.parameters.length) = some 3 := by decide +kernel
theorem lT_result : (parseMethodDescriptor mT_result.1.desc).map (fun q => q.parameters.length) = some 1 := by decide +kernel
theorem lL_about : (parseMethodDescriptor mL_about.1.desc).map (fun q => q.parameters.length) = some 4 := by decide +kernel
theorem lT_about : (parseMethodDescriptor mT_about.1.desc).map (fun q => q.parameters.length) = some 2 := by decide +kernel
theorem lT_aboutMade : (parseMethodDescriptor mT_aboutMade.1.desc).map (fun q => q.parameters.length) = some 2 := by decide +kernel
theorem lT_aboutPlanned : (parseMethodDescriptor mT_aboutPlanned.1.desc).map (fun q => q.parameters.length) = some 2 := by decide +kernel
theorem lL_peak : (parseMethodDescriptor mL_peak.1.desc).map (fun q => q.parameters.length) = some 2 := by decide +kernel
theorem lT_peak : (parseMethodDescriptor mT_peak.1.desc).map (fun q => q.parameters.length) = some 0 := by decide +kernel
theorem lR_init : (parseMethodDescriptor mR_init.1.desc).map (fun q => q.parameters.length) = some 0 := by decide +kernel
theorem lR_thrown : (parseMethodDescriptor mR_thrown.1.desc).map (fun q => q.parameters.length) = some 0 := by decide +kernel
theorem lR_weights : (parseMethodDescriptor mR_weights.1.desc).map (fun q => q.parameters.length) = some 2 := by decide +kernel
theorem lR_out : (parseMethodDescriptor mR_out.1.desc).map (fun q => q.parameters.length) = some 2 := by decide +kernel
theorem lR_fail : (parseMethodDescriptor mR_fail.1.desc).map (fun q => q.parameters.length) = some 1 := by decide +kernel
theorem lR_weightScale : (parseMethodDescriptor mR_weightScale.1.desc).map (fun q => q.parameters.length) = some 1 := by decide +kernel
theorem lR_badScale : (parseMethodDescriptor mR_badScale.1.desc).map (fun q => q.parameters.length) = some 1 := by decide +kernel
theorem lR_input : (parseMethodDescriptor mR_input.1.desc).map (fun q => q.parameters.length) = some 4 := by decide +kernel
theorem lR_make : (parseMethodDescriptor mR_make.1.desc).map (fun q => q.parameters.length) = some 7 := by decide +kernel
theorem lR_finish : (parseMethodDescriptor mR_finish.1.desc).map (fun q => q.parameters.length) = some 4 := by decide +kernel
theorem lR_windows : (parseMethodDescriptor mR_windows.1.desc).map (fun q => q.parameters.length) = some 5 := by decide +kernel
theorem lR_side : (parseMethodDescriptor mR_side.1.desc).map (fun q => q.parameters.length) = some 1 := by decide +kernel
theorem lR_narrow : (parseMethodDescriptor mR_narrow.1.desc).map (fun q => q.parameters.length) = some 2 := by decide +kernel
theorem lR_badRatio : (parseMethodDescriptor mR_badRatio.1.desc).map (fun q => q.parameters.length) = some 1 := by decide +kernel
theorem lR_places : (parseMethodDescriptor mR_places.1.desc).map (fun q => q.parameters.length) = some 2 := by decide +kernel
theorem lR_stride : (parseMethodDescriptor mR_stride.1.desc).map (fun q => q.parameters.length) = some 1 := by decide +kernel
theorem lR_dense : (parseMethodDescriptor mR_dense.1.desc).map (fun q => q.parameters.length) = some 4 := by decide +kernel
theorem lR_cells : (parseMethodDescriptor mR_cells.1.desc).map (fun q => q.parameters.length) = some 1 := by decide +kernel
theorem lR_add : (parseMethodDescriptor mR_add.1.desc).map (fun q => q.parameters.length) = some 3 := by decide +kernel
theorem lR_sameSize : (parseMethodDescriptor mR_sameSize.1.desc).map (fun q => q.parameters.length) = some 2 := by decide +kernel
theorem lR_concat : (parseMethodDescriptor mR_concat.1.desc).map (fun q => q.parameters.length) = some 2 := by decide +kernel
theorem lR_reshape : (parseMethodDescriptor mR_reshape.1.desc).map (fun q => q.parameters.length) = some 4 := by decide +kernel
theorem lR_pool : (parseMethodDescriptor mR_pool.1.desc).map (fun q => q.parameters.length) = some 3 := by decide +kernel
theorem lR_clamp : (parseMethodDescriptor mR_clamp.1.desc).map (fun q => q.parameters.length) = some 3 := by decide +kernel
theorem lR_rescale : (parseMethodDescriptor mR_rescale.1.desc).map (fun q => q.parameters.length) = some 2 := by decide +kernel
theorem lR_output : (parseMethodDescriptor mR_output.1.desc).map (fun q => q.parameters.length) = some 1 := by decide +kernel
theorem lR_compile : (parseMethodDescriptor mR_compile.1.desc).map (fun q => q.parameters.length) = some 0 := by decide +kernel
theorem lR_findStands : (parseMethodDescriptor mR_findStands.1.desc).map (fun q => q.parameters.length) = some 1 := by decide +kernel
theorem lR_standFor : (parseMethodDescriptor mR_standFor.1.desc).map (fun q => q.parameters.length) = some 1 := by decide +kernel
theorem lR_alike : (parseMethodDescriptor mR_alike.1.desc).map (fun q => q.parameters.length) = some 2 := by decide +kernel
theorem lR_findRoles : (parseMethodDescriptor mR_findRoles.1.desc).map (fun q => q.parameters.length) = some 0 := by decide +kernel
theorem lR_uses : (parseMethodDescriptor mR_uses.1.desc).map (fun q => q.parameters.length) = some 1 := by decide +kernel
theorem lR_findLives : (parseMethodDescriptor mR_findLives.1.desc).map (fun q => q.parameters.length) = some 0 := by decide +kernel
theorem lR_hasInput : (parseMethodDescriptor mR_hasInput.1.desc).map (fun q => q.parameters.length) = some 2 := by decide +kernel
theorem lR_plan : (parseMethodDescriptor mR_plan.1.desc).map (fun q => q.parameters.length) = some 0 := by decide +kernel
theorem lR_hits : (parseMethodDescriptor mR_hits.1.desc).map (fun q => q.parameters.length) = some 3 := by decide +kernel
theorem lR_feed : (parseMethodDescriptor mR_feed.1.desc).map (fun q => q.parameters.length) = some 3 := by decide +kernel
theorem lR_run : (parseMethodDescriptor mR_run.1.desc).map (fun q => q.parameters.length) = some 1 := by decide +kernel
theorem lR_value : (parseMethodDescriptor mR_value.1.desc).map (fun q => q.parameters.length) = some 2 := by decide +kernel
theorem lR_windowSum : (parseMethodDescriptor mR_windowSum.1.desc).map (fun q => q.parameters.length) = some 5 := by decide +kernel
theorem lR_before : (parseMethodDescriptor mR_before.1.desc).map (fun q => q.parameters.length) = some 2 := by decide +kernel
theorem lR_at : (parseMethodDescriptor mR_at.1.desc).map (fun q => q.parameters.length) = some 4 := by decide +kernel
theorem lR_scaled : (parseMethodDescriptor mR_scaled.1.desc).map (fun q => q.parameters.length) = some 2 := by decide +kernel
theorem lR_halves : (parseMethodDescriptor mR_halves.1.desc).map (fun q => q.parameters.length) = some 2 := by decide +kernel
theorem lR_cut : (parseMethodDescriptor mR_cut.1.desc).map (fun q => q.parameters.length) = some 1 := by decide +kernel
theorem lR_denseSum : (parseMethodDescriptor mR_denseSum.1.desc).map (fun q => q.parameters.length) = some 3 := by decide +kernel
theorem lR_joined : (parseMethodDescriptor mR_joined.1.desc).map (fun q => q.parameters.length) = some 5 := by decide +kernel
theorem lR_pooled : (parseMethodDescriptor mR_pooled.1.desc).map (fun q => q.parameters.length) = some 5 := by decide +kernel
theorem lR_arena : (parseMethodDescriptor mR_arena.1.desc).map (fun q => q.parameters.length) = some 1 := by decide +kernel
theorem lR_result : (parseMethodDescriptor mR_result.1.desc).map (fun q => q.parameters.length) = some 1 := by decide +kernel
theorem lR_about : (parseMethodDescriptor mR_about.1.desc).map (fun q => q.parameters.length) = some 2 := by decide +kernel
theorem lR_peak : (parseMethodDescriptor mR_peak.1.desc).map (fun q => q.parameters.length) = some 0 := by decide +kernel
theorem w_arr_int : Cond.arrayClass .int ∈ rk_tbl := (in_t1 75 rfl rfl)
theorem w_arr_long : Cond.arrayClass .long ∈ rk_tbl := (in_t5 235 rfl rfl)
theorem w_arr_double : Cond.arrayClass .double ∈ rk_tbl := (in_t5 16 rfl rfl)
theorem w_obj : Cond.instanceMethod objectInit ∈ rk_tbl ∧ Cond.code objectInit ⟨#[0xb1]⟩ 1 none ∈ rk_tbl := ⟨(in_t1 25 rfl rfl), (in_t1 26 rfl rfl)⟩
theorem w_jmax : Cond.static Lib.Math.max.name ∈ rk_tbl ∧ Cond.initialized "java/lang/Math" ∈ rk_tbl ∧ Cond.code Lib.Math.max.name Lib.Math.max.code 2 (some .int) ∈ rk_tbl := ⟨(in_t3 179 rfl rfl), (in_t1 11 rfl rfl), (in_t3 180 rfl rfl)⟩
theorem w_jmin : Cond.static Lib.Math.min.name ∈ rk_tbl ∧ Cond.initialized "java/lang/Math" ∈ rk_tbl ∧ Cond.code Lib.Math.min.name Lib.Math.min.code 2 (some .int) ∈ rk_tbl := ⟨(in_t2 43 rfl rfl), (in_t1 11 rfl rfl), (in_t2 44 rfl rfl)⟩
theorem w_jabs : Cond.static Lib.Math.abs.name ∈ rk_tbl ∧ Cond.initialized "java/lang/Math" ∈ rk_tbl ∧ Cond.code Lib.Math.abs.name Lib.Math.abs.code 1 (some .int) ∈ rk_tbl := ⟨(in_t4 92 rfl rfl), (in_t1 11 rfl rfl), (in_t4 93 rfl rfl)⟩
theorem w_jabsl : Cond.static Lib.MathLoose.abs_long.x ∈ rk_tbl ∧ Cond.initialized "java/lang/Math" ∈ rk_tbl ∧ Cond.code Lib.MathLoose.abs_long.x Lib.MathLoose.abs_long.code 2 (some .long) ∈ rk_tbl := ⟨(in_t4 21 rfl rfl), (in_t1 11 rfl rfl), (in_t4 22 rfl rfl)⟩
theorem w_jmaxl : Cond.static Lib.MathLoose.max_long.x ∈ rk_tbl ∧ Cond.initialized "java/lang/Math" ∈ rk_tbl ∧ Cond.code Lib.MathLoose.max_long.x Lib.MathLoose.max_long.code 4 (some .long) ∈ rk_tbl := ⟨(in_t4 32 rfl rfl), (in_t1 11 rfl rfl), (in_t4 33 rfl rfl)⟩
theorem w_jminl : Cond.static Lib.MathLoose.min_long.x ∈ rk_tbl ∧ Cond.initialized "java/lang/Math" ∈ rk_tbl ∧ Cond.code Lib.MathLoose.min_long.x Lib.MathLoose.min_long.code 4 (some .long) ∈ rk_tbl := ⟨(in_t4 29 rfl rfl), (in_t1 11 rfl rfl), (in_t4 30 rfl rfl)⟩
theorem w_acp : Cond.native arraycopyName ∈ rk_tbl ∧ Cond.static arraycopyName ∈ rk_tbl ∧ Cond.initialized "java/lang/System" ∈ rk_tbl := ⟨(in_t3 234 rfl rfl), (in_t3 233 rfl rfl), (in_t1 17 rfl rfl)⟩
/-- deterministic ends -/
def rk_Rv (v : Value) (h2 : rk_H) : rk_P := fun r h' => r = .inl (some v) ∧ h' = h2
def rk_R0 (h2 : rk_H) : rk_P := fun r h' => r = .inl none ∧ h' = h2
def rk_Th (C : String) (h2 : rk_H) : rk_P := fun r h' => r = .inr C ∧ h' = h2
section RKD
variable {M N : rk_M} {B B' : rk_B} {P P' : rk_P} {pc idx ci b : Nat} {lv : List (Option Value)} {st As rest fs : List Value} {h h2 : rk_H} {u : rk_U} {v : Value} {C : String}
theorem rk_nxv {k : rk_U} (r : rk_Run M B P (pc + 3) lv (v :: rest) h k) : rk_nx M B P pc lv rest h k (.inl (some v)) := r
theorem rk_nx0 {k : rk_U} (r : rk_Run M B P (pc + 3) lv rest h k) : rk_nx M B P pc lv rest h k (.inl none) := r
theorem rk_nxT {k : rk_U} (hh : M.2.2.2.2 = []) (hP : P (.inr C) h) (hu : rk_ok k B) : rk_nx M B P pc lv rest h k (.inr C) := by
  unfold rk_nx
  simp only [hh]
  exact ⟨hP, hu⟩
theorem rk_csV (con : rk_Con N B' As h (rk_Rv v h2)) (w : rk_cS M.1.cls idx N) (hd : decode M.2.1 pc = .ok (.invokestatic idx, 3)) (hs : st = As.reverse ++ rest) (hlen : (parseMethodDescriptor N.1.desc).map (fun q => q.parameters.length) = some As.length) (hst : (rest.map fun v => v.category).sum + (N.2.2.1 + 11) + B'.2.1 ≤ B.2.1) (hdd : B'.1 + 1 ≤ B.1) (hk : u.1 + B'.2.2.1 ≤ B.2.2.1) (hn : u.2 + B'.2.2.2 ≤ B.2.2.2) (r : rk_Run M B P (pc + 3) lv (v :: rest) h2 (u.1 + B'.2.2.1, u.2 + B'.2.2.2)) : rk_Run M B P pc lv st h u :=
  rk_calls As rest w hd hs hlen hst hdd hk hn con (fun r' h' q => by obtain ⟨rfl, rfl⟩ := q; exact rk_nxv r)
theorem rk_cs0 (con : rk_Con N B' As h (rk_R0 h2)) (w : rk_cS M.1.cls idx N) (hd : decode M.2.1 pc = .ok (.invokestatic idx, 3)) (hs : st = As.reverse ++ rest) (hlen : (parseMethodDescriptor N.1.desc).map (fun q => q.parameters.length) = some As.length) (hst : (rest.map fun v => v.category).sum + (N.2.2.1 + 11) + B'.2.1 ≤ B.2.1) (hdd : B'.1 + 1 ≤ B.1) (hk : u.1 + B'.2.2.1 ≤ B.2.2.1) (hn : u.2 + B'.2.2.2 ≤ B.2.2.2) (r : rk_Run M B P (pc + 3) lv rest h2 (u.1 + B'.2.2.1, u.2 + B'.2.2.2)) : rk_Run M B P pc lv st h u :=
  rk_calls As rest w hd hs hlen hst hdd hk hn con (fun r' h' q => by obtain ⟨rfl, rfl⟩ := q; exact rk_nx0 r)
theorem rk_csT (con : rk_Con N B' As h (rk_Th C h2)) (w : rk_cS M.1.cls idx N) (hd : decode M.2.1 pc = .ok (.invokestatic idx, 3)) (hs : st = As.reverse ++ rest) (hlen : (parseMethodDescriptor N.1.desc).map (fun q => q.parameters.length) = some As.length) (hst : (rest.map fun v => v.category).sum + (N.2.2.1 + 11) + B'.2.1 ≤ B.2.1) (hdd : B'.1 + 1 ≤ B.1) (hk : u.1 + B'.2.2.1 ≤ B.2.2.1) (hn : u.2 + B'.2.2.2 ≤ B.2.2.2) (hh : M.2.2.2.2 = []) (hP : P (.inr C) h2) (hu : rk_ok (u.1 + B'.2.2.1, u.2 + B'.2.2.2) B) : rk_Run M B P pc lv st h u :=
  rk_calls As rest w hd hs hlen hst hdd hk hn con (fun r' h' q => by obtain ⟨rfl, rfl⟩ := q; exact rk_nxT hh hP hu)
theorem rk_csG (con : rk_Con N B' As h P') (w : rk_cS M.1.cls idx N) (hd : decode M.2.1 pc = .ok (.invokestatic idx, 3)) (hs : st = As.reverse ++ rest) (hlen : (parseMethodDescriptor N.1.desc).map (fun q => q.parameters.length) = some As.length) (hst : (rest.map fun v => v.category).sum + (N.2.2.1 + 11) + B'.2.1 ≤ B.2.1) (hdd : B'.1 + 1 ≤ B.1) (hk : u.1 + B'.2.2.1 ≤ B.2.2.1) (hn : u.2 + B'.2.2.2 ≤ B.2.2.2) (nx : ∀ r h', P' r h' → rk_nx M B P pc lv rest h' (u.1 + B'.2.2.1, u.2 + B'.2.2.2) r) : rk_Run M B P pc lv st h u :=
  rk_calls As rest w hd hs hlen hst hdd hk hn con nx
theorem rk_cvV (con : rk_Con N B' (.ref b :: As) h (rk_Rv v h2)) (w : rk_cV M.1.cls idx N ci) (hd : decode M.2.1 pc = .ok (.invokevirtual idx, 3)) (hs : st = As.reverse ++ .ref b :: rest) (hlen : (parseMethodDescriptor N.1.desc).map (fun q => q.parameters.length) = some As.length) (hst : (rest.map fun v => v.category).sum + (N.2.2.1 + 11) + B'.2.1 ≤ B.2.1) (hdd : B'.1 + 1 ≤ B.1) (hk : u.1 + B'.2.2.1 ≤ B.2.2.1) (hn : u.2 + B'.2.2.2 ≤ B.2.2.2) (he : h b = some (oB ci fs)) (r : rk_Run M B P (pc + 3) lv (v :: rest) h2 (u.1 + B'.2.2.1, u.2 + B'.2.2.2)) : rk_Run M B P pc lv st h u :=
  rk_callv As rest w hd hs hlen hst hdd hk hn he con (fun r' h' q => by obtain ⟨rfl, rfl⟩ := q; exact rk_nxv r)
theorem rk_cv0 (con : rk_Con N B' (.ref b :: As) h (rk_R0 h2)) (w : rk_cV M.1.cls idx N ci) (hd : decode M.2.1 pc = .ok (.invokevirtual idx, 3)) (hs : st = As.reverse ++ .ref b :: rest) (hlen : (parseMethodDescriptor N.1.desc).map (fun q => q.parameters.length) = some As.length) (hst : (rest.map fun v => v.category).sum + (N.2.2.1 + 11) + B'.2.1 ≤ B.2.1) (hdd : B'.1 + 1 ≤ B.1) (hk : u.1 + B'.2.2.1 ≤ B.2.2.1) (hn : u.2 + B'.2.2.2 ≤ B.2.2.2) (he : h b = some (oB ci fs)) (r : rk_Run M B P (pc + 3) lv rest h2 (u.1 + B'.2.2.1, u.2 + B'.2.2.2)) : rk_Run M B P pc lv st h u :=
  rk_callv As rest w hd hs hlen hst hdd hk hn he con (fun r' h' q => by obtain ⟨rfl, rfl⟩ := q; exact rk_nx0 r)
theorem rk_cvT (con : rk_Con N B' (.ref b :: As) h (rk_Th C h2)) (w : rk_cV M.1.cls idx N ci) (hd : decode M.2.1 pc = .ok (.invokevirtual idx, 3)) (hs : st = As.reverse ++ .ref b :: rest) (hlen : (parseMethodDescriptor N.1.desc).map (fun q => q.parameters.length) = some As.length) (hst : (rest.map fun v => v.category).sum + (N.2.2.1 + 11) + B'.2.1 ≤ B.2.1) (hdd : B'.1 + 1 ≤ B.1) (hk : u.1 + B'.2.2.1 ≤ B.2.2.1) (hn : u.2 + B'.2.2.2 ≤ B.2.2.2) (he : h b = some (oB ci fs)) (hh : M.2.2.2.2 = []) (hP : P (.inr C) h2) (hu : rk_ok (u.1 + B'.2.2.1, u.2 + B'.2.2.2) B) : rk_Run M B P pc lv st h u :=
  rk_callv As rest w hd hs hlen hst hdd hk hn he con (fun r' h' q => by obtain ⟨rfl, rfl⟩ := q; exact rk_nxT hh hP hu)
theorem rk_cvG (con : rk_Con N B' (.ref b :: As) h P') (w : rk_cV M.1.cls idx N ci) (hd : decode M.2.1 pc = .ok (.invokevirtual idx, 3)) (hs : st = As.reverse ++ .ref b :: rest) (hlen : (parseMethodDescriptor N.1.desc).map (fun q => q.parameters.length) = some As.length) (hst : (rest.map fun v => v.category).sum + (N.2.2.1 + 11) + B'.2.1 ≤ B.2.1) (hdd : B'.1 + 1 ≤ B.1) (hk : u.1 + B'.2.2.1 ≤ B.2.2.1) (hn : u.2 + B'.2.2.2 ≤ B.2.2.2) (he : h b = some (oB ci fs)) (nx : ∀ r h', P' r h' → rk_nx M B P pc lv rest h' (u.1 + B'.2.2.1, u.2 + B'.2.2.2) r) : rk_Run M B P pc lv st h u :=
  rk_callv As rest w hd hs hlen hst hdd hk hn he con nx
theorem rk_cnV (con : rk_Con N B' (.ref b :: As) h (rk_Rv v h2)) (w : rk_cI M.1.cls idx N) (hd : decode M.2.1 pc = .ok (.invokespecial idx, 3)) (hs : st = As.reverse ++ .ref b :: rest) (hlen : (parseMethodDescriptor N.1.desc).map (fun q => q.parameters.length) = some As.length) (hst : (rest.map fun v => v.category).sum + (N.2.2.1 + 11) + B'.2.1 ≤ B.2.1) (hdd : B'.1 + 1 ≤ B.1) (hk : u.1 + B'.2.2.1 ≤ B.2.2.1) (hn : u.2 + B'.2.2.2 ≤ B.2.2.2) (r : rk_Run M B P (pc + 3) lv (v :: rest) h2 (u.1 + B'.2.2.1, u.2 + B'.2.2.2)) : rk_Run M B P pc lv st h u :=
  rk_calln As rest w hd hs hlen hst hdd hk hn con (fun r' h' q => by obtain ⟨rfl, rfl⟩ := q; exact rk_nxv r)
theorem rk_cn0 (con : rk_Con N B' (.ref b :: As) h (rk_R0 h2)) (w : rk_cI M.1.cls idx N) (hd : decode M.2.1 pc = .ok (.invokespecial idx, 3)) (hs : st = As.reverse ++ .ref b :: rest) (hlen : (parseMethodDescriptor N.1.desc).map (fun q => q.parameters.length) = some As.length) (hst : (rest.map fun v => v.category).sum + (N.2.2.1 + 11) + B'.2.1 ≤ B.2.1) (hdd : B'.1 + 1 ≤ B.1) (hk : u.1 + B'.2.2.1 ≤ B.2.2.1) (hn : u.2 + B'.2.2.2 ≤ B.2.2.2) (r : rk_Run M B P (pc + 3) lv rest h2 (u.1 + B'.2.2.1, u.2 + B'.2.2.2)) : rk_Run M B P pc lv st h u :=
  rk_calln As rest w hd hs hlen hst hdd hk hn con (fun r' h' q => by obtain ⟨rfl, rfl⟩ := q; exact rk_nx0 r)
theorem rk_cnT (con : rk_Con N B' (.ref b :: As) h (rk_Th C h2)) (w : rk_cI M.1.cls idx N) (hd : decode M.2.1 pc = .ok (.invokespecial idx, 3)) (hs : st = As.reverse ++ .ref b :: rest) (hlen : (parseMethodDescriptor N.1.desc).map (fun q => q.parameters.length) = some As.length) (hst : (rest.map fun v => v.category).sum + (N.2.2.1 + 11) + B'.2.1 ≤ B.2.1) (hdd : B'.1 + 1 ≤ B.1) (hk : u.1 + B'.2.2.1 ≤ B.2.2.1) (hn : u.2 + B'.2.2.2 ≤ B.2.2.2) (hh : M.2.2.2.2 = []) (hP : P (.inr C) h2) (hu : rk_ok (u.1 + B'.2.2.1, u.2 + B'.2.2.2) B) : rk_Run M B P pc lv st h u :=
  rk_calln As rest w hd hs hlen hst hdd hk hn con (fun r' h' q => by obtain ⟨rfl, rfl⟩ := q; exact rk_nxT hh hP hu)
theorem rk_cnG (con : rk_Con N B' (.ref b :: As) h P') (w : rk_cI M.1.cls idx N) (hd : decode M.2.1 pc = .ok (.invokespecial idx, 3)) (hs : st = As.reverse ++ .ref b :: rest) (hlen : (parseMethodDescriptor N.1.desc).map (fun q => q.parameters.length) = some As.length) (hst : (rest.map fun v => v.category).sum + (N.2.2.1 + 11) + B'.2.1 ≤ B.2.1) (hdd : B'.1 + 1 ≤ B.1) (hk : u.1 + B'.2.2.1 ≤ B.2.2.1) (hn : u.2 + B'.2.2.2 ≤ B.2.2.2) (nx : ∀ r h', P' r h' → rk_nx M B P pc lv rest h' (u.1 + B'.2.2.1, u.2 + B'.2.2.2) r) : rk_Run M B P pc lv st h u :=
  rk_calln As rest w hd hs hlen hst hdd hk hn con nx
theorem rk_jmax {x y : Int32} (hw : Cond.methodLink M.1.cls idx Lib.Math.max.name ∈ rk_tbl) (hd : decode M.2.1 pc = .ok (.invokestatic idx, 3)) (hu : rk_ok u B) (hf1 : 1 ≤ B.1) (hst : (st.map fun v => v.category).sum + 15 ≤ B.2.1) (r : rk_Run M B P (pc + 3) lv (.int (if x < y then y else x) :: st) h u) : rk_Run M B P pc lv (.int y :: .int x :: st) h u :=
  rk_mmax hw w_jmax.1 w_jmax.2.1 w_jmax.2.2 hd hu hf1 hst r
theorem rk_jmin {x y : Int32} (hw : Cond.methodLink M.1.cls idx Lib.Math.min.name ∈ rk_tbl) (hd : decode M.2.1 pc = .ok (.invokestatic idx, 3)) (hu : rk_ok u B) (hf1 : 1 ≤ B.1) (hst : (st.map fun v => v.category).sum + 15 ≤ B.2.1) (r : rk_Run M B P (pc + 3) lv (.int (if y < x then y else x) :: st) h u) : rk_Run M B P pc lv (.int y :: .int x :: st) h u :=
  rk_mmin hw w_jmin.1 w_jmin.2.1 w_jmin.2.2 hd hu hf1 hst r
theorem rk_jabs {x : Int32} (hw : Cond.methodLink M.1.cls idx Lib.Math.abs.name ∈ rk_tbl) (hd : decode M.2.1 pc = .ok (.invokestatic idx, 3)) (hu : rk_ok u B) (hf1 : 1 ≤ B.1) (hst : (st.map fun v => v.category).sum + 15 ≤ B.2.1) (r : rk_Run M B P (pc + 3) lv (.int (if 0 ≤ x then x else 0 - x) :: st) h u) : rk_Run M B P pc lv (.int x :: st) h u := by
  intro l p e R s m args below meth c G H locs ls C hR hS hf hl
  have hts := C.2.2.2.2.2.2.1
  have h1 := C.2.2.2.2.2.2.2.2.2.1
  have h2 := C.2.2.2.2.2.2.2.2.2.2.1
  exact va_mabs C.1 C.2.1 (by rw [C.2.2.1]; exact hl.1.symm) C.2.2.2.2.2.1 (hts _ hw) (hts _ w_jabs.1) (hts _ w_jabs.2.1) (hts _ w_jabs.2.2) (by omega) (by omega) (Nat.le_trans hu.1 C.2.2.2.2.2.2.2.2.2.2.2.1) (Nat.le_trans hu.2 C.2.2.2.2.2.2.2.2.2.2.2.2.1) hd (r l p e R s m args below meth c G H locs ls C hR hS hf hl)
theorem rk_jabsl {x : Int64} (hw : Cond.methodLink M.1.cls idx Lib.MathLoose.abs_long.x ∈ rk_tbl) (hd : decode M.2.1 pc = .ok (.invokestatic idx, 3)) (hu : rk_ok u B) (hf1 : 1 ≤ B.1) (hst : (st.map fun v => v.category).sum + 15 ≤ B.2.1) (r : rk_Run M B P (pc + 3) lv (.long (if 0 < x then x else -x) :: st) h u) : rk_Run M B P pc lv (.long x :: st) h u := by
  intro l p e R s m args below meth c G H locs ls C hR hS hf hl
  have hts := C.2.2.2.2.2.2.1
  have h1 := C.2.2.2.2.2.2.2.2.2.1
  have h2 := C.2.2.2.2.2.2.2.2.2.2.1
  exact va_mabs_long C.1 C.2.1 (by rw [C.2.2.1]; exact hl.1.symm) C.2.2.2.2.2.1 (hts _ hw) (hts _ w_jabsl.1) (hts _ w_jabsl.2.1) (hts _ w_jabsl.2.2) (by omega) (by omega) (Nat.le_trans hu.1 C.2.2.2.2.2.2.2.2.2.2.2.1) (Nat.le_trans hu.2 C.2.2.2.2.2.2.2.2.2.2.2.2.1) hd (r l p e R s m args below meth c G H locs ls C hR hS hf hl)
theorem rk_jmaxl {x y : Int64} (hw : Cond.methodLink M.1.cls idx Lib.MathLoose.max_long.x ∈ rk_tbl) (hd : decode M.2.1 pc = .ok (.invokestatic idx, 3)) (hu : rk_ok u B) (hf1 : 1 ≤ B.1) (hst : (st.map fun v => v.category).sum + 15 ≤ B.2.1) (r : rk_Run M B P (pc + 3) lv (.long (if y < x then x else y) :: st) h u) : rk_Run M B P pc lv (.long y :: .long x :: st) h u := by
  intro l p e R s m args below meth c G H locs ls C hR hS hf hl
  have hts := C.2.2.2.2.2.2.1
  have h1 := C.2.2.2.2.2.2.2.2.2.1
  have h2 := C.2.2.2.2.2.2.2.2.2.2.1
  exact va_mmax_long C.1 C.2.1 (by rw [C.2.2.1]; exact hl.1.symm) C.2.2.2.2.2.1 (hts _ hw) (hts _ w_jmaxl.1) (hts _ w_jmaxl.2.1) (hts _ w_jmaxl.2.2) (by omega) (by omega) (Nat.le_trans hu.1 C.2.2.2.2.2.2.2.2.2.2.2.1) (Nat.le_trans hu.2 C.2.2.2.2.2.2.2.2.2.2.2.2.1) hd (r l p e R s m args below meth c G H locs ls C hR hS hf hl)
theorem rk_jminl {x y : Int64} (hw : Cond.methodLink M.1.cls idx Lib.MathLoose.min_long.x ∈ rk_tbl) (hd : decode M.2.1 pc = .ok (.invokestatic idx, 3)) (hu : rk_ok u B) (hf1 : 1 ≤ B.1) (hst : (st.map fun v => v.category).sum + 15 ≤ B.2.1) (r : rk_Run M B P (pc + 3) lv (.long (if y < x then y else x) :: st) h u) : rk_Run M B P pc lv (.long y :: .long x :: st) h u := by
  intro l p e R s m args below meth c G H locs ls C hR hS hf hl
  have hts := C.2.2.2.2.2.2.1
  have h1 := C.2.2.2.2.2.2.2.2.2.1
  have h2 := C.2.2.2.2.2.2.2.2.2.2.1
  exact va_mmin_long C.1 C.2.1 (by rw [C.2.2.1]; exact hl.1.symm) C.2.2.2.2.2.1 (hts _ hw) (hts _ w_jminl.1) (hts _ w_jminl.2.1) (hts _ w_jminl.2.2) (by omega) (by omega) (Nat.le_trans hu.1 C.2.2.2.2.2.2.2.2.2.2.2.1) (Nat.le_trans hu.2 C.2.2.2.2.2.2.2.2.2.2.2.2.1) hd (r l p e R s m args below meth c G H locs ls C hR hS hf hl)
theorem rk_acp {a0 a n0 n1 : Nat} {f g : Nat → Int32} {sp dp n : Int32} (hw : Cond.methodLink M.1.cls idx arraycopyName ∈ rk_tbl) (hd : decode M.2.1 pc = .ok (.invokestatic idx, 3)) (he0 : h a0 = some (.inl (0, n0, .inl f))) (he1 : h a = some (.inl (0, n1, .inl g))) (h1 : ¬ sp < 0) (h2 : ¬ dp < 0) (h3 : ¬ n < 0) (h4 : sp.toNatClampNeg + n.toNatClampNeg ≤ n0) (h5 : dp.toNatClampNeg + n.toNatClampNeg ≤ n1) (hf1 : 1 ≤ B.1) (hst : (st.map fun v => v.category).sum + 18 ≤ B.2.1)
    (r : rk_Run M B P (pc + 3) lv st (rk_up h a (.inl (0, n1, .inl (va_cpy f g sp.toNatClampNeg dp.toNatClampNeg n.toNatClampNeg)))) u) : rk_Run M B P pc lv (.int n :: .int dp :: .ref a :: .int sp :: .ref a0 :: st) h u := by
  intro l p e R s m args below meth c G H locs ls C hR hS hf hl
  have hts := C.2.2.2.2.2.2.1
  have k1 := C.2.2.2.2.2.2.2.2.2.1
  have k2 := C.2.2.2.2.2.2.2.2.2.2.1
  have hK := C.2.2.2.2.2.2.2.1.2.1 0 .int rfl
  have nn : ∀ z : Int32, ¬ z < 0 → z.toInt = (z.toNatClampNeg : Int) := by
    intro z hz
    have hz0 : (0 : Int) ≤ z.toInt := by
      have := Int32.not_lt.mp hz
      simpa using Int32.le_iff_toInt_le.mp this
    show z.toInt = ((z.toInt.toNat : Nat) : Int)
    omega
  intro T hT X
  have hc0 : H[a0]? = some (vp_cell (G.2.2 0) (n0, .inl f)) := (hR a0 _ he0).2
  have hc1 : H[a]? = some (vp_cell (G.2.2 0) (n1, .inl g)) := (hR a _ he1).2
  obtain ⟨-, c0, hk0, cm0, hkk0⟩ := hK.1 n0 (fun j => .int (f j))
  obtain ⟨-, c1, hk1, cm1, hkk1⟩ := hK.1 n1 (fun j => .int (g j))
  obtain ⟨vm', X', step⟩ := X.arraycopy C.1 C.2.2.2.2.2.1 (hts _ hw) (hts _ w_acp.1) (hts _ w_acp.2.1) (hts _ w_acp.2.2) (src := a0) (dst := a) (cs := vp_cell (G.2.2 0) (n0, .inl f)) (cd := vp_cell (G.2.2 0) (n1, .inl g)) (srcPos := sp) (destPos := dp) (n := n) (by rw [hT]; exact hc0) (by rw [hT]; exact hc1)
    (fun _ h => by cases h) (fun _ h => by cases h) (fun h => by cases h) (fun h => by cases h) hk0 hk1 hkk0 hkk1 (by simp [refKind]) h1 h2 h3
    (by rw [nn sp h1, nn n h3]; show ¬ _ > ((arrV _ n0 (fun j => .int (f j))).slots.size : Int); rw [arrV_size]; omega)
    (by rw [nn dp h2, nn n h3]; show ¬ _ > ((arrV _ n1 (fun j => .int (g j))).slots.size : Int); rw [arrV_size]; omega)
    (fun vm₁ _ i hi => by
      have e : (vp_cell (G.2.2 0) (n0, .inl f)).slots.getD (sp.toNatClampNeg + i) .null = .int (f (sp.toNatClampNeg + i)) := by
        show (arrV _ n0 (fun j => .int (f j))).slots.getD _ _ = _
        rw [Array.getD_eq_getD_getElem?, arrV_read _ _ (by omega)]
        rfl
      refine ⟨?_, ?_⟩
      · rw [e]
        rfl
      · rw [e]
        exact trivial)
    (g := F0 m pc ls (.int n :: .int dp :: .ref a :: .int sp :: .ref a0 :: st)) rfl (by rw [C.2.2.1]; exact hl.1) (rest := st) rfl (by rw [C.2.1]; exact hd) (by omega) (by show 2 * 0 + _ + 18 ≤ _; omega)
  have e1 : copied (vp_cell (G.2.2 0) (n0, .inl f)) (vp_cell (G.2.2 0) (n1, .inl g)) sp dp n = vp_cell (G.2.2 0) (n1, .inl (va_cpy f g sp.toNatClampNeg dp.toNatClampNeg n.toNatClampNeg)) := va_copied (fun z => .int z) _ _ f g h4
  rw [e1] at X' step
  have hlt : a < H.size := (Array.getElem?_eq_some_iff.mp hc1).1
  have oq : ∀ q : Nat, q ≠ a → (H.setIfInBounds a (vp_cell (G.2.2 0) (n1, .inl (va_cpy f g sp.toNatClampNeg dp.toNatClampNeg n.toNatClampNeg))))[q]? = H[q]? := fun q hq => by simp [Array.getElem?_setIfInBounds, Ne.symm hq]
  have hheap : ((T.setVm vm').setCell a (vp_cell (G.2.2 0) (n1, .inl (va_cpy f g sp.toNatClampNeg dp.toNatClampNeg n.toNatClampNeg)))).heap = H.setIfInBounds a (vp_cell (G.2.2 0) (n1, .inl (va_cpy f g sp.toNatClampNeg dp.toNatClampNeg n.toNatClampNeg))) := by rw [← hT]; rfl
  obtain ⟨t, a1, b1⟩ := r l p e R s m args below meth c G _ _ ls C (hR.set (hR.wr he1 rfl) (show (H.setIfInBounds a _)[a]? = some _ by simp [Array.getElem?_setIfInBounds, hlt]) oq) (hS.put (by simp) oq (hR.wr he1 rfl)) (fun q hq => by
      rcases List.mem_append.mp hq with h | h
      · exact hf q h
      · obtain ⟨z, -, hz⟩ := List.mem_map.mp h
        rw [← hz]
        exact (hR.wr he1 rfl)) hl _ hheap X'
  exact ⟨t, step t a1, b1⟩
end RKD
theorem rk_up_up {h : rk_H} {a : Nat} {e e' : rk_E} : rk_up (rk_up h a e) a e' = rk_up h a e' := by
  funext q
  unfold rk_up
  by_cases hq : q = a
  · rw [if_pos hq, if_pos hq]
  · rw [if_neg hq, if_neg hq, if_neg hq]
theorem rk_up_sw {h : rk_H} {a b : Nat} {e e' : rk_E} (hab : a ≠ b) : rk_up (rk_up h a e) b e' = rk_up (rk_up h b e') a e := by
  funext q
  unfold rk_up
  by_cases hq : q = b
  · subst hq
    rw [if_pos rfl, if_neg (fun z => hab z.symm), if_pos rfl]
  · rw [if_neg hq, if_neg hq]
theorem rk_up_id {h : rk_H} {a : Nat} {e : rk_E} (ha : h a = some e) : rk_up h a e = h := by
  funext q
  unfold rk_up
  by_cases hq : q = a
  · rw [if_pos hq, hq, ha]
  · rw [if_neg hq]
end
section
/-! Window, Scaler, Node: the leaves -/
def b2i (b : Bool) : Int32 := if b = true then 1 else 0
def i_mod (a b : Int32) : Int32 := a - a / b * b
def w_size (c : Int32) : Int32 := 1 + i_mod c 3
def w_step (c : Int32) : Int32 := 1 + i_mod (c / 3) 2
def w_same (c : Int32) : Bool := decide (6 ≤ c)
theorem c_W_sizeOf (c : Int32) (h : rk_H) : rk_Con mW_sizeOf (0, 0, 0, 0) [.int c] h (rk_Rv (.int (w_size c)) h) := by
  refine rk_Con.of [some (.int c)] rfl (Nat.le_of_ble_eq_true rfl) (by decide +kernel) ?_
  refine rk_iconst (v := 1) dW_sizeOf_0 (by decide) ?_
  refine rk_iload_n dW_sizeOf_1 rfl ?_
  refine rk_iconst (v := 3) dW_sizeOf_2 (by decide) ?_
  refine rk_irem dW_sizeOf_3 (by decide) ?_
  refine rk_iadd dW_sizeOf_4 ?_
  exact rk_iret rfl dW_sizeOf_5 ⟨(Nat.le_of_ble_eq_true rfl), (Nat.le_of_ble_eq_true rfl)⟩ (⟨rfl, rfl⟩)
theorem c_W_stepOf (c : Int32) (h : rk_H) : rk_Con mW_stepOf (0, 0, 0, 0) [.int c] h (rk_Rv (.int (w_step c)) h) := by
  refine rk_Con.of [some (.int c)] rfl (Nat.le_of_ble_eq_true rfl) (by decide +kernel) ?_
  refine rk_iconst (v := 1) dW_stepOf_0 (by decide) ?_
  refine rk_iload_n dW_stepOf_1 rfl ?_
  refine rk_iconst (v := 3) dW_stepOf_2 (by decide) ?_
  refine rk_idiv dW_stepOf_3 (by decide) ?_
  refine rk_iconst (v := 2) dW_stepOf_4 (by decide) ?_
  refine rk_irem dW_stepOf_5 (by decide) ?_
  refine rk_iadd dW_stepOf_6 ?_
  exact rk_iret rfl dW_stepOf_7 ⟨(Nat.le_of_ble_eq_true rfl), (Nat.le_of_ble_eq_true rfl)⟩ (⟨rfl, rfl⟩)
theorem c_W_isSame (c : Int32) (h : rk_H) : rk_Con mW_isSame (0, 0, 0, 0) [.int c] h (rk_Rv (.int (b2i (w_same c))) h) := by
  refine rk_Con.of [some (.int c)] rfl (Nat.le_of_ble_eq_true rfl) (by decide +kernel) ?_
  refine rk_iload_n dW_isSame_0 rfl ?_
  refine rk_bipush (v := 6) dW_isSame_1 (by decide) ?_
  refine rk_icmp_lt 10 dW_isSame_3 (by decide) (fun q_3 => ?_) (fun q_3 => ?_)
  · refine rk_iconst (v := 0) dW_isSame_10 (by decide) ?_
    exact rk_zret rfl rfl dW_isSame_11 ⟨(Nat.le_of_ble_eq_true rfl), (Nat.le_of_ble_eq_true rfl)⟩ (by simp_all [rk_Rv, b2i, w_same])
  · refine rk_iconst (v := 1) dW_isSame_6 (by decide) ?_
    refine rk_goto 11 dW_isSame_7 (by decide) ?_
    exact rk_zret rfl rfl dW_isSame_11 ⟨(Nat.le_of_ble_eq_true rfl), (Nat.le_of_ble_eq_true rfl)⟩ (by simp_all [rk_Rv, b2i, w_same])
end

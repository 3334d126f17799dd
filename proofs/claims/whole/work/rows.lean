section
-- ===== PART A: goes FIRST, ahead of the names: the tables' words, and 'selects' of the private methods out of them =====
/-- a private method of a class that the tables say can be made, by its rows of tables_1 -/
def lw_okq (q : MethodName × Nat) : Prop := (q.1.cls ≠ "java/lang/invoke/MethodHandle" ∧ q.1.cls ≠ "java/lang/invoke/VarHandle") ∧ Cond.instantiable q.1.cls q.2 ∈ tables_1 ∧ Cond.privateMethod q.1 ∈ tables_1 ∧ Cond.instanceMethod q.1 ∈ tables_1
theorem lw_p0 : lw_okq (⟨"SpanKeeper$Tape", "readSum", "(I)I"⟩, 9) := ⟨⟨by decide +kernel, by decide +kernel⟩, List.mem_of_getElem? (i := 69) (by decide +kernel), List.mem_of_getElem? (i := 246) (by decide +kernel), List.mem_of_getElem? (i := 247) (by decide +kernel)⟩
theorem lw_p1 : lw_okq (⟨"SpanKeeper$Tape", "readProduct", "(I)I"⟩, 9) := ⟨⟨by decide +kernel, by decide +kernel⟩, List.mem_of_getElem? (i := 69) (by decide +kernel), List.mem_of_getElem? (i := 250) (by decide +kernel), List.mem_of_getElem? (i := 251) (by decide +kernel)⟩
theorem lw_p2 : lw_okq (⟨"SpanKeeper$Tape", "readFactor", "(I)I"⟩, 9) := ⟨⟨by decide +kernel, by decide +kernel⟩, List.mem_of_getElem? (i := 69) (by decide +kernel), List.mem_of_getElem? (i := 254) (by decide +kernel), List.mem_of_getElem? (i := 255) (by decide +kernel)⟩
theorem lw_p3 : lw_okq (⟨"SpanKeeper$Tape", "here", "()I"⟩, 9) := ⟨⟨by decide +kernel, by decide +kernel⟩, List.mem_of_getElem? (i := 69) (by decide +kernel), List.mem_of_getElem? (i := 258) (by decide +kernel), List.mem_of_getElem? (i := 259) (by decide +kernel)⟩
theorem lw_p4 : lw_okq (⟨"SpanKeeper$Tape", "add", "(III)I"⟩, 9) := ⟨⟨by decide +kernel, by decide +kernel⟩, List.mem_of_getElem? (i := 69) (by decide +kernel), List.mem_of_getElem? (i := 262) (by decide +kernel), List.mem_of_getElem? (i := 263) (by decide +kernel)⟩
theorem lw_p5 : lw_okq (⟨"SpanKeeper$Tape", "readNumber", "()I"⟩, 9) := ⟨⟨by decide +kernel, by decide +kernel⟩, List.mem_of_getElem? (i := 69) (by decide +kernel), List.mem_of_getElem? (i := 269) (by decide +kernel), List.mem_of_getElem? (i := 270) (by decide +kernel)⟩
theorem lw_p6 : lw_okq (⟨"SpanKeeper$Tape", "join", "(IIII)I"⟩, 9) := ⟨⟨by decide +kernel, by decide +kernel⟩, List.mem_of_getElem? (i := 69) (by decide +kernel), List.mem_of_getElem? (i := 273) (by decide +kernel), List.mem_of_getElem? (i := 274) (by decide +kernel)⟩
theorem lw_p7 : lw_okq (⟨"SpanKeeper", "formulaOf", "(I)LSpanKeeper$Formula;"⟩, 9) := ⟨⟨by decide +kernel, by decide +kernel⟩, List.mem_of_getElem? (i := 12) (by decide +kernel), List.mem_of_getElem? (i := 373) (by decide +kernel), List.mem_of_getElem? (i := 374) (by decide +kernel)⟩
theorem lw_p8 : lw_okq (⟨"SpanKeeper", "carryAsItIs", "(LSpanKeeper$Formula;)V"⟩, 9) := ⟨⟨by decide +kernel, by decide +kernel⟩, List.mem_of_getElem? (i := 12) (by decide +kernel), List.mem_of_getElem? (i := 390) (by decide +kernel), List.mem_of_getElem? (i := 391) (by decide +kernel)⟩
theorem lw_p9 : lw_okq (⟨"SpanKeeper$Thought", "carryPart", "(LSpanKeeper$Formula;I)V"⟩, 10) := ⟨⟨by decide +kernel, by decide +kernel⟩, List.mem_of_getElem? (i := 111) (by decide +kernel), List.mem_of_getElem? (i := 408) (by decide +kernel), List.mem_of_getElem? (i := 409) (by decide +kernel)⟩
theorem lw_p10 : lw_okq (⟨"SpanKeeper", "keepWay", "(LSpanKeeper$Formula;)V"⟩, 9) := ⟨⟨by decide +kernel, by decide +kernel⟩, List.mem_of_getElem? (i := 12) (by decide +kernel), List.mem_of_getElem? (i := 450) (by decide +kernel), List.mem_of_getElem? (i := 451) (by decide +kernel)⟩
theorem lw_p11 : lw_okq (⟨"SpanKeeper$Thought", "worthOfPart", "(LSpanKeeper$Formula;I)J"⟩, 10) := ⟨⟨by decide +kernel, by decide +kernel⟩, List.mem_of_getElem? (i := 111) (by decide +kernel), List.mem_of_getElem? (i := 482) (by decide +kernel), List.mem_of_getElem? (i := 483) (by decide +kernel)⟩
theorem lw_p12 : lw_okq (⟨"SpanKeeper", "worthAtCorner", "(LSpanKeeper$Formula;I)J"⟩, 9) := ⟨⟨by decide +kernel, by decide +kernel⟩, List.mem_of_getElem? (i := 12) (by decide +kernel), List.mem_of_getElem? (i := 490) (by decide +kernel), List.mem_of_getElem? (i := 491) (by decide +kernel)⟩
theorem lw_p13 : lw_okq (⟨"SpanKeeper$Thought", "changePart", "(LSpanKeeper$Formula;II)V"⟩, 10) := ⟨⟨by decide +kernel, by decide +kernel⟩, List.mem_of_getElem? (i := 111) (by decide +kernel), List.mem_of_getElem? (i := 504) (by decide +kernel), List.mem_of_getElem? (i := 505) (by decide +kernel)⟩
theorem lw_p14 : lw_okq (⟨"SpanKeeper", "carrySplit", "(LSpanKeeper$Formula;II)V"⟩, 9) := ⟨⟨by decide +kernel, by decide +kernel⟩, List.mem_of_getElem? (i := 12) (by decide +kernel), List.mem_of_getElem? (i := 517) (by decide +kernel), List.mem_of_getElem? (i := 518) (by decide +kernel)⟩
theorem lw_p15 : lw_okq (⟨"SpanKeeper", "widthWithHalf", "(LSpanKeeper$Formula;I)J"⟩, 9) := ⟨⟨by decide +kernel, by decide +kernel⟩, List.mem_of_getElem? (i := 12) (by decide +kernel), List.mem_of_getElem? (i := 543) (by decide +kernel), List.mem_of_getElem? (i := 544) (by decide +kernel)⟩
def lw_privs_1 : List (MethodName × Nat) := [(⟨"SpanKeeper$Tape", "readSum", "(I)I"⟩, 9), (⟨"SpanKeeper$Tape", "readProduct", "(I)I"⟩, 9), (⟨"SpanKeeper$Tape", "readFactor", "(I)I"⟩, 9), (⟨"SpanKeeper$Tape", "here", "()I"⟩, 9), (⟨"SpanKeeper$Tape", "add", "(III)I"⟩, 9), (⟨"SpanKeeper$Tape", "readNumber", "()I"⟩, 9), (⟨"SpanKeeper$Tape", "join", "(IIII)I"⟩, 9), (⟨"SpanKeeper", "formulaOf", "(I)LSpanKeeper$Formula;"⟩, 9), (⟨"SpanKeeper", "carryAsItIs", "(LSpanKeeper$Formula;)V"⟩, 9), (⟨"SpanKeeper$Thought", "carryPart", "(LSpanKeeper$Formula;I)V"⟩, 10), (⟨"SpanKeeper", "keepWay", "(LSpanKeeper$Formula;)V"⟩, 9), (⟨"SpanKeeper$Thought", "worthOfPart", "(LSpanKeeper$Formula;I)J"⟩, 10), (⟨"SpanKeeper", "worthAtCorner", "(LSpanKeeper$Formula;I)J"⟩, 9), (⟨"SpanKeeper$Thought", "changePart", "(LSpanKeeper$Formula;II)V"⟩, 10), (⟨"SpanKeeper", "carrySplit", "(LSpanKeeper$Formula;II)V"⟩, 9), (⟨"SpanKeeper", "widthWithHalf", "(LSpanKeeper$Formula;I)J"⟩, 9)]
theorem lw_r1 : ∀ q ∈ lw_privs_1, lw_okq q := List.forall_mem_cons.mpr ⟨lw_p0, List.forall_mem_cons.mpr ⟨lw_p1, List.forall_mem_cons.mpr ⟨lw_p2, List.forall_mem_cons.mpr ⟨lw_p3, List.forall_mem_cons.mpr ⟨lw_p4, List.forall_mem_cons.mpr ⟨lw_p5, List.forall_mem_cons.mpr ⟨lw_p6, List.forall_mem_cons.mpr ⟨lw_p7, List.forall_mem_cons.mpr ⟨lw_p8, List.forall_mem_cons.mpr ⟨lw_p9, List.forall_mem_cons.mpr ⟨lw_p10, List.forall_mem_cons.mpr ⟨lw_p11, List.forall_mem_cons.mpr ⟨lw_p12, List.forall_mem_cons.mpr ⟨lw_p13, List.forall_mem_cons.mpr ⟨lw_p14, List.forall_mem_cons.mpr ⟨lw_p15, fun _ h => absurd h List.not_mem_nil⟩⟩⟩⟩⟩⟩⟩⟩⟩⟩⟩⟩⟩⟩⟩⟩
theorem lw_p16 : lw_okq (⟨"SpanKeeper", "formulasOver", "()I"⟩, 9) := ⟨⟨by decide +kernel, by decide +kernel⟩, List.mem_of_getElem? (i := 12) (by decide +kernel), List.mem_of_getElem? (i := 616) (by decide +kernel), List.mem_of_getElem? (i := 617) (by decide +kernel)⟩
theorem lw_p17 : lw_okq (⟨"SpanKeeper", "sourcesWithSpan", "()I"⟩, 9) := ⟨⟨by decide +kernel, by decide +kernel⟩, List.mem_of_getElem? (i := 12) (by decide +kernel), List.mem_of_getElem? (i := 620) (by decide +kernel), List.mem_of_getElem? (i := 621) (by decide +kernel)⟩
theorem lw_p18 : lw_okq (⟨"SpanKeeperModel", "valueOf", "(I)I"⟩, 42) := ⟨⟨by decide +kernel, by decide +kernel⟩, List.mem_of_getElem? (i := 624) (by decide +kernel), List.mem_of_getElem? (i := 777) (by decide +kernel), List.mem_of_getElem? (i := 778) (by decide +kernel)⟩
theorem lw_p19 : lw_okq (⟨"SpanKeeperModel", "spanOf", "(I)I"⟩, 42) := ⟨⟨by decide +kernel, by decide +kernel⟩, List.mem_of_getElem? (i := 624) (by decide +kernel), List.mem_of_getElem? (i := 781) (by decide +kernel), List.mem_of_getElem? (i := 782) (by decide +kernel)⟩
theorem lw_p20 : lw_okq (⟨"SpanKeeperModel", "sums", "()I"⟩, 42) := ⟨⟨by decide +kernel, by decide +kernel⟩, List.mem_of_getElem? (i := 624) (by decide +kernel), List.mem_of_getElem? (i := 794) (by decide +kernel), List.mem_of_getElem? (i := 795) (by decide +kernel)⟩
theorem lw_p21 : lw_okq (⟨"SpanKeeperModel", "products", "()I"⟩, 42) := ⟨⟨by decide +kernel, by decide +kernel⟩, List.mem_of_getElem? (i := 624) (by decide +kernel), List.mem_of_getElem? (i := 798) (by decide +kernel), List.mem_of_getElem? (i := 799) (by decide +kernel)⟩
theorem lw_p22 : lw_okq (⟨"SpanKeeperModel", "factor", "()I"⟩, 42) := ⟨⟨by decide +kernel, by decide +kernel⟩, List.mem_of_getElem? (i := 624) (by decide +kernel), List.mem_of_getElem? (i := 802) (by decide +kernel), List.mem_of_getElem? (i := 803) (by decide +kernel)⟩
theorem lw_p23 : lw_okq (⟨"SpanKeeperModel", "next", "()I"⟩, 42) := ⟨⟨by decide +kernel, by decide +kernel⟩, List.mem_of_getElem? (i := 624) (by decide +kernel), List.mem_of_getElem? (i := 806) (by decide +kernel), List.mem_of_getElem? (i := 807) (by decide +kernel)⟩
theorem lw_p24 : lw_okq (⟨"SpanKeeperModel", "opened", "()I"⟩, 42) := ⟨⟨by decide +kernel, by decide +kernel⟩, List.mem_of_getElem? (i := 624) (by decide +kernel), List.mem_of_getElem? (i := 810) (by decide +kernel), List.mem_of_getElem? (i := 811) (by decide +kernel)⟩
theorem lw_p25 : lw_okq (⟨"SpanKeeperModel", "wrong", "()I"⟩, 42) := ⟨⟨by decide +kernel, by decide +kernel⟩, List.mem_of_getElem? (i := 624) (by decide +kernel), List.mem_of_getElem? (i := 814) (by decide +kernel), List.mem_of_getElem? (i := 815) (by decide +kernel)⟩
theorem lw_p26 : lw_okq (⟨"SpanKeeperModel", "comes", "(IIII)I"⟩, 42) := ⟨⟨by decide +kernel, by decide +kernel⟩, List.mem_of_getElem? (i := 624) (by decide +kernel), List.mem_of_getElem? (i := 818) (by decide +kernel), List.mem_of_getElem? (i := 819) (by decide +kernel)⟩
theorem lw_p27 : lw_okq (⟨"SpanKeeperModel", "isFormula", "(I)Z"⟩, 42) := ⟨⟨by decide +kernel, by decide +kernel⟩, List.mem_of_getElem? (i := 624) (by decide +kernel), List.mem_of_getElem? (i := 833) (by decide +kernel), List.mem_of_getElem? (i := 834) (by decide +kernel)⟩
theorem lw_p28 : lw_okq (⟨"SpanKeeperModel", "likeOf", "(IZ)I"⟩, 42) := ⟨⟨by decide +kernel, by decide +kernel⟩, List.mem_of_getElem? (i := 624) (by decide +kernel), List.mem_of_getElem? (i := 837) (by decide +kernel), List.mem_of_getElem? (i := 838) (by decide +kernel)⟩
theorem lw_p29 : lw_okq (⟨"SpanKeeperModel", "areAlike", "(IIII)Z"⟩, 42) := ⟨⟨by decide +kernel, by decide +kernel⟩, List.mem_of_getElem? (i := 624) (by decide +kernel), List.mem_of_getElem? (i := 841) (by decide +kernel), List.mem_of_getElem? (i := 842) (by decide +kernel)⟩
theorem lw_p30 : lw_okq (⟨"SpanKeeperModel", "lettersOf", "(I)I"⟩, 42) := ⟨⟨by decide +kernel, by decide +kernel⟩, List.mem_of_getElem? (i := 624) (by decide +kernel), List.mem_of_getElem? (i := 846) (by decide +kernel), List.mem_of_getElem? (i := 847) (by decide +kernel)⟩
theorem lw_p31 : lw_okq (⟨"SpanKeeperModel", "rootOf", "(I)I"⟩, 42) := ⟨⟨by decide +kernel, by decide +kernel⟩, List.mem_of_getElem? (i := 624) (by decide +kernel), List.mem_of_getElem? (i := 850) (by decide +kernel), List.mem_of_getElem? (i := 851) (by decide +kernel)⟩
def lw_privs_2 : List (MethodName × Nat) := [(⟨"SpanKeeper", "formulasOver", "()I"⟩, 9), (⟨"SpanKeeper", "sourcesWithSpan", "()I"⟩, 9), (⟨"SpanKeeperModel", "valueOf", "(I)I"⟩, 42), (⟨"SpanKeeperModel", "spanOf", "(I)I"⟩, 42), (⟨"SpanKeeperModel", "sums", "()I"⟩, 42), (⟨"SpanKeeperModel", "products", "()I"⟩, 42), (⟨"SpanKeeperModel", "factor", "()I"⟩, 42), (⟨"SpanKeeperModel", "next", "()I"⟩, 42), (⟨"SpanKeeperModel", "opened", "()I"⟩, 42), (⟨"SpanKeeperModel", "wrong", "()I"⟩, 42), (⟨"SpanKeeperModel", "comes", "(IIII)I"⟩, 42), (⟨"SpanKeeperModel", "isFormula", "(I)Z"⟩, 42), (⟨"SpanKeeperModel", "likeOf", "(IZ)I"⟩, 42), (⟨"SpanKeeperModel", "areAlike", "(IIII)Z"⟩, 42), (⟨"SpanKeeperModel", "lettersOf", "(I)I"⟩, 42), (⟨"SpanKeeperModel", "rootOf", "(I)I"⟩, 42)]
theorem lw_r2 : ∀ q ∈ lw_privs_2, lw_okq q := List.forall_mem_cons.mpr ⟨lw_p16, List.forall_mem_cons.mpr ⟨lw_p17, List.forall_mem_cons.mpr ⟨lw_p18, List.forall_mem_cons.mpr ⟨lw_p19, List.forall_mem_cons.mpr ⟨lw_p20, List.forall_mem_cons.mpr ⟨lw_p21, List.forall_mem_cons.mpr ⟨lw_p22, List.forall_mem_cons.mpr ⟨lw_p23, List.forall_mem_cons.mpr ⟨lw_p24, List.forall_mem_cons.mpr ⟨lw_p25, List.forall_mem_cons.mpr ⟨lw_p26, List.forall_mem_cons.mpr ⟨lw_p27, List.forall_mem_cons.mpr ⟨lw_p28, List.forall_mem_cons.mpr ⟨lw_p29, List.forall_mem_cons.mpr ⟨lw_p30, List.forall_mem_cons.mpr ⟨lw_p31, fun _ h => absurd h List.not_mem_nil⟩⟩⟩⟩⟩⟩⟩⟩⟩⟩⟩⟩⟩⟩⟩⟩
theorem lw_p32 : lw_okq (⟨"SpanKeeperModel", "depthOf", "(II)I"⟩, 42) := ⟨⟨by decide +kernel, by decide +kernel⟩, List.mem_of_getElem? (i := 624) (by decide +kernel), List.mem_of_getElem? (i := 854) (by decide +kernel), List.mem_of_getElem? (i := 855) (by decide +kernel)⟩
theorem lw_p33 : lw_okq (⟨"SpanKeeperModel", "spansNow", "(I)Z"⟩, 42) := ⟨⟨by decide +kernel, by decide +kernel⟩, List.mem_of_getElem? (i := 624) (by decide +kernel), List.mem_of_getElem? (i := 867) (by decide +kernel), List.mem_of_getElem? (i := 868) (by decide +kernel)⟩
theorem lw_p34 : lw_okq (⟨"SpanKeeperModel", "laysBox", "()V"⟩, 42) := ⟨⟨by decide +kernel, by decide +kernel⟩, List.mem_of_getElem? (i := 624) (by decide +kernel), List.mem_of_getElem? (i := 871) (by decide +kernel), List.mem_of_getElem? (i := 872) (by decide +kernel)⟩
theorem lw_p35 : lw_okq (⟨"SpanKeeperModel", "lays", "(III)V"⟩, 42) := ⟨⟨by decide +kernel, by decide +kernel⟩, List.mem_of_getElem? (i := 624) (by decide +kernel), List.mem_of_getElem? (i := 875) (by decide +kernel), List.mem_of_getElem? (i := 876) (by decide +kernel)⟩
theorem lw_p36 : lw_okq (⟨"SpanKeeperModel", "spans", "(I)Z"⟩, 42) := ⟨⟨by decide +kernel, by decide +kernel⟩, List.mem_of_getElem? (i := 624) (by decide +kernel), List.mem_of_getElem? (i := 879) (by decide +kernel), List.mem_of_getElem? (i := 880) (by decide +kernel)⟩
theorem lw_p37 : lw_okq (⟨"SpanKeeperModel", "joins", "(IIII)V"⟩, 42) := ⟨⟨by decide +kernel, by decide +kernel⟩, List.mem_of_getElem? (i := 624) (by decide +kernel), List.mem_of_getElem? (i := 883) (by decide +kernel), List.mem_of_getElem? (i := 884) (by decide +kernel)⟩
theorem lw_p38 : lw_okq (⟨"SpanKeeperModel", "less", "(JJ)J"⟩, 42) := ⟨⟨by decide +kernel, by decide +kernel⟩, List.mem_of_getElem? (i := 624) (by decide +kernel), List.mem_of_getElem? (i := 887) (by decide +kernel), List.mem_of_getElem? (i := 888) (by decide +kernel)⟩
theorem lw_p39 : lw_okq (⟨"SpanKeeperModel", "sum", "(JJ)J"⟩, 42) := ⟨⟨by decide +kernel, by decide +kernel⟩, List.mem_of_getElem? (i := 624) (by decide +kernel), List.mem_of_getElem? (i := 891) (by decide +kernel), List.mem_of_getElem? (i := 892) (by decide +kernel)⟩
theorem lw_p40 : lw_okq (⟨"SpanKeeperModel", "products", "(JJJJ)V"⟩, 42) := ⟨⟨by decide +kernel, by decide +kernel⟩, List.mem_of_getElem? (i := 624) (by decide +kernel), List.mem_of_getElem? (i := 895) (by decide +kernel), List.mem_of_getElem? (i := 896) (by decide +kernel)⟩
theorem lw_p41 : lw_okq (⟨"SpanKeeperModel", "product", "(JJ)J"⟩, 42) := ⟨⟨by decide +kernel, by decide +kernel⟩, List.mem_of_getElem? (i := 624) (by decide +kernel), List.mem_of_getElem? (i := 899) (by decide +kernel), List.mem_of_getElem? (i := 900) (by decide +kernel)⟩
theorem lw_p42 : lw_okq (⟨"SpanKeeperModel", "goesWay", "(I)V"⟩, 42) := ⟨⟨by decide +kernel, by decide +kernel⟩, List.mem_of_getElem? (i := 624) (by decide +kernel), List.mem_of_getElem? (i := 906) (by decide +kernel), List.mem_of_getElem? (i := 907) (by decide +kernel)⟩
theorem lw_p43 : lw_okq (⟨"SpanKeeperModel", "lowOf", "(I)J"⟩, 42) := ⟨⟨by decide +kernel, by decide +kernel⟩, List.mem_of_getElem? (i := 624) (by decide +kernel), List.mem_of_getElem? (i := 911) (by decide +kernel), List.mem_of_getElem? (i := 912) (by decide +kernel)⟩
theorem lw_p44 : lw_okq (⟨"SpanKeeperModel", "highOf", "(I)J"⟩, 42) := ⟨⟨by decide +kernel, by decide +kernel⟩, List.mem_of_getElem? (i := 624) (by decide +kernel), List.mem_of_getElem? (i := 915) (by decide +kernel), List.mem_of_getElem? (i := 916) (by decide +kernel)⟩
theorem lw_p45 : lw_okq (⟨"SpanKeeperModel", "widthNow", "(I)J"⟩, 42) := ⟨⟨by decide +kernel, by decide +kernel⟩, List.mem_of_getElem? (i := 624) (by decide +kernel), List.mem_of_getElem? (i := 919) (by decide +kernel), List.mem_of_getElem? (i := 920) (by decide +kernel)⟩
theorem lw_p46 : lw_okq (⟨"SpanKeeperModel", "widthBy", "(I)J"⟩, 42) := ⟨⟨by decide +kernel, by decide +kernel⟩, List.mem_of_getElem? (i := 624) (by decide +kernel), List.mem_of_getElem? (i := 923) (by decide +kernel), List.mem_of_getElem? (i := 924) (by decide +kernel)⟩
theorem lw_p47 : lw_okq (⟨"SpanKeeperModel", "laysPoint", "(II)V"⟩, 42) := ⟨⟨by decide +kernel, by decide +kernel⟩, List.mem_of_getElem? (i := 624) (by decide +kernel), List.mem_of_getElem? (i := 935) (by decide +kernel), List.mem_of_getElem? (i := 936) (by decide +kernel)⟩
def lw_privs_3 : List (MethodName × Nat) := [(⟨"SpanKeeperModel", "depthOf", "(II)I"⟩, 42), (⟨"SpanKeeperModel", "spansNow", "(I)Z"⟩, 42), (⟨"SpanKeeperModel", "laysBox", "()V"⟩, 42), (⟨"SpanKeeperModel", "lays", "(III)V"⟩, 42), (⟨"SpanKeeperModel", "spans", "(I)Z"⟩, 42), (⟨"SpanKeeperModel", "joins", "(IIII)V"⟩, 42), (⟨"SpanKeeperModel", "less", "(JJ)J"⟩, 42), (⟨"SpanKeeperModel", "sum", "(JJ)J"⟩, 42), (⟨"SpanKeeperModel", "products", "(JJJJ)V"⟩, 42), (⟨"SpanKeeperModel", "product", "(JJ)J"⟩, 42), (⟨"SpanKeeperModel", "goesWay", "(I)V"⟩, 42), (⟨"SpanKeeperModel", "lowOf", "(I)J"⟩, 42), (⟨"SpanKeeperModel", "highOf", "(I)J"⟩, 42), (⟨"SpanKeeperModel", "widthNow", "(I)J"⟩, 42), (⟨"SpanKeeperModel", "widthBy", "(I)J"⟩, 42), (⟨"SpanKeeperModel", "laysPoint", "(II)V"⟩, 42)]
theorem lw_r3 : ∀ q ∈ lw_privs_3, lw_okq q := List.forall_mem_cons.mpr ⟨lw_p32, List.forall_mem_cons.mpr ⟨lw_p33, List.forall_mem_cons.mpr ⟨lw_p34, List.forall_mem_cons.mpr ⟨lw_p35, List.forall_mem_cons.mpr ⟨lw_p36, List.forall_mem_cons.mpr ⟨lw_p37, List.forall_mem_cons.mpr ⟨lw_p38, List.forall_mem_cons.mpr ⟨lw_p39, List.forall_mem_cons.mpr ⟨lw_p40, List.forall_mem_cons.mpr ⟨lw_p41, List.forall_mem_cons.mpr ⟨lw_p42, List.forall_mem_cons.mpr ⟨lw_p43, List.forall_mem_cons.mpr ⟨lw_p44, List.forall_mem_cons.mpr ⟨lw_p45, List.forall_mem_cons.mpr ⟨lw_p46, List.forall_mem_cons.mpr ⟨lw_p47, fun _ h => absurd h List.not_mem_nil⟩⟩⟩⟩⟩⟩⟩⟩⟩⟩⟩⟩⟩⟩⟩⟩
theorem lw_p48 : lw_okq (⟨"SpanKeeperModel", "changeOf", "(II)I"⟩, 42) := ⟨⟨by decide +kernel, by decide +kernel⟩, List.mem_of_getElem? (i := 624) (by decide +kernel), List.mem_of_getElem? (i := 947) (by decide +kernel), List.mem_of_getElem? (i := 948) (by decide +kernel)⟩
theorem lw_p49 : lw_okq (⟨"SpanKeeperModel", "changes", "(IIII)V"⟩, 42) := ⟨⟨by decide +kernel, by decide +kernel⟩, List.mem_of_getElem? (i := 624) (by decide +kernel), List.mem_of_getElem? (i := 951) (by decide +kernel), List.mem_of_getElem? (i := 952) (by decide +kernel)⟩
theorem lw_p50 : lw_okq (⟨"SpanKeeperModel", "splits", "(III)V"⟩, 42) := ⟨⟨by decide +kernel, by decide +kernel⟩, List.mem_of_getElem? (i := 624) (by decide +kernel), List.mem_of_getElem? (i := 964) (by decide +kernel), List.mem_of_getElem? (i := 965) (by decide +kernel)⟩
theorem lw_p51 : lw_okq (⟨"SpanKeeperModel", "overMany", "()I"⟩, 42) := ⟨⟨by decide +kernel, by decide +kernel⟩, List.mem_of_getElem? (i := 624) (by decide +kernel), List.mem_of_getElem? (i := 1040) (by decide +kernel), List.mem_of_getElem? (i := 1041) (by decide +kernel)⟩
theorem lw_p52 : lw_okq (⟨"SpanKeeperModel", "spannedMany", "()I"⟩, 42) := ⟨⟨by decide +kernel, by decide +kernel⟩, List.mem_of_getElem? (i := 624) (by decide +kernel), List.mem_of_getElem? (i := 1044) (by decide +kernel), List.mem_of_getElem? (i := 1045) (by decide +kernel)⟩
def lw_privs_4 : List (MethodName × Nat) := [(⟨"SpanKeeperModel", "changeOf", "(II)I"⟩, 42), (⟨"SpanKeeperModel", "changes", "(IIII)V"⟩, 42), (⟨"SpanKeeperModel", "splits", "(III)V"⟩, 42), (⟨"SpanKeeperModel", "overMany", "()I"⟩, 42), (⟨"SpanKeeperModel", "spannedMany", "()I"⟩, 42)]
theorem lw_r4 : ∀ q ∈ lw_privs_4, lw_okq q := List.forall_mem_cons.mpr ⟨lw_p48, List.forall_mem_cons.mpr ⟨lw_p49, List.forall_mem_cons.mpr ⟨lw_p50, List.forall_mem_cons.mpr ⟨lw_p51, List.forall_mem_cons.mpr ⟨lw_p52, fun _ h => absurd h List.not_mem_nil⟩⟩⟩⟩⟩
def lw_privs : List (MethodName × Nat) := lw_privs_1 ++ (lw_privs_2 ++ (lw_privs_3 ++ (lw_privs_4)))
def lw_tbl : List Cond := k2_sels lw_privs ++ tables_1
theorem lw_privs_ok : ∀ q ∈ lw_privs, lw_okq q := by
  show ∀ q ∈ lw_privs_1 ++ (lw_privs_2 ++ (lw_privs_3 ++ (lw_privs_4))), lw_okq q
  exact List.forall_mem_append.mpr ⟨lw_r1, List.forall_mem_append.mpr ⟨lw_r2, List.forall_mem_append.mpr ⟨lw_r3, lw_r4⟩⟩⟩
end
section
def RX0 : String := "SpanKeeper$Formula"
def TX0 : u_T := fun k => match k with
  | 0 => ("SpanKeeper$Formula", "size", "I", true)
  | 1 => ("SpanKeeper$Formula", "kind", "[I", true)
  | 2 => ("SpanKeeper$Formula", "place", "[I", true)
  | 3 => ("SpanKeeper$Formula", "first", "[I", true)
  | 4 => ("SpanKeeper$Formula", "second", "[I", true)
  | 5 => ("SpanKeeper$Formula", "worth", "[I", true)
  | 6 => ("SpanKeeper$Formula", "sources", "I", true)
  | 7 => ("SpanKeeper$Formula", "depth", "I", true)
  | 8 => ("SpanKeeper$Formula", "unlike", "I", true)
  | _ => ("SpanKeeper$Formula", "mostAlike", "I", true)
def tyX0 : Nat → FieldType := fun k => match k with
  | 0 => .int
  | 1 => .array .int
  | 2 => .array .int
  | 3 => .array .int
  | 4 => .array .int
  | 5 => .array .int
  | 6 => .int
  | 7 => .int
  | 8 => .int
  | _ => .int
theorem nmX0 : ∀ a, a < 10 → ∀ b, b < 10 → a ≠ b → (TX0 a).2.1 ≠ (TX0 b).2.1 := by decide +kernel
theorem tyX0_ok : ∀ k, k < 10 → parseFieldDescriptor (TX0 k).2.2.1 = some (tyX0 k) := by decide +kernel
abbrev cX0_init : ByteArray := prog_2_method_1_code
def yX0_init : MethodName := ⟨RX0, "<init>", "(LSpanKeeper$Tape;)V"⟩
abbrev cX0_hasSource : ByteArray := prog_2_method_2_code
def yX0_hasSource : MethodName := ⟨RX0, "hasSource", "(I)Z"⟩
abbrev cX0_isMade : ByteArray := prog_2_method_3_code
def yX0_isMade : MethodName := ⟨RX0, "isMade", "(I)Z"⟩
abbrev cX0_isLike : ByteArray := prog_2_method_4_code
def yX0_isLike : MethodName := ⟨RX0, "isLike", "(LSpanKeeper$Formula;)Z"⟩
abbrev cX0_sourcesIn : ByteArray := prog_2_method_5_code
def yX0_sourcesIn : MethodName := ⟨RX0, "sourcesIn", "(LSpanKeeper$Tape;)I"⟩
abbrev cX0_depthOf : ByteArray := prog_2_method_6_code
def yX0_depthOf : MethodName := ⟨RX0, "depthOf", "(LSpanKeeper$Tape;)I"⟩
abbrev cX0_likenessIn : ByteArray := prog_2_method_7_code
def yX0_likenessIn : MethodName := ⟨RX0, "likenessIn", "(LSpanKeeper$Tape;)[I"⟩
abbrev cX0_areAlike : ByteArray := prog_2_method_8_code
def yX0_areAlike : MethodName := ⟨RX0, "areAlike", "(LSpanKeeper$Tape;[III)Z"⟩
abbrev cX0_unlikeIn : ByteArray := prog_2_method_9_code
def yX0_unlikeIn : MethodName := ⟨RX0, "unlikeIn", "([I)I"⟩
abbrev cX0_mostAlikeIn : ByteArray := prog_2_method_10_code
def yX0_mostAlikeIn : MethodName := ⟨RX0, "mostAlikeIn", "([I)I"⟩
def RX1 : String := "SpanKeeper$SpanRow"
def TX1 : u_T := fun k => match k with
  | 0 => ("SpanKeeper$SpanRow", "low", "[J", true)
  | 1 => ("SpanKeeper$SpanRow", "high", "[J", true)
  | _ => ("SpanKeeper$SpanRow", "over", "[Z", true)
def tyX1 : Nat → FieldType := fun k => match k with
  | 0 => .array .long
  | 1 => .array .long
  | _ => .array .boolean
theorem nmX1 : ∀ a, a < 3 → ∀ b, b < 3 → a ≠ b → (TX1 a).2.1 ≠ (TX1 b).2.1 := by decide +kernel
theorem tyX1_ok : ∀ k, k < 3 → parseFieldDescriptor (TX1 k).2.2.1 = some (tyX1 k) := by decide +kernel
abbrev cX1_init : ByteArray := prog_3_method_1_code
def yX1_init : MethodName := ⟨RX1, "<init>", "(I)V"⟩
abbrev cX1_fromTo : ByteArray := prog_3_method_2_code
def yX1_fromTo : MethodName := ⟨RX1, "fromTo", "(IJJ)V"⟩
abbrev cX1_less : ByteArray := prog_3_method_3_code
def yX1_less : MethodName := ⟨RX1, "less", "(ILSpanKeeper$SpanRow;I)V"⟩
abbrev cX1_sum : ByteArray := prog_3_method_4_code
def yX1_sum : MethodName := ⟨RX1, "sum", "(ILSpanKeeper$SpanRow;ILSpanKeeper$SpanRow;I)V"⟩
abbrev cX1_difference : ByteArray := prog_3_method_5_code
def yX1_difference : MethodName := ⟨RX1, "difference", "(ILSpanKeeper$SpanRow;ILSpanKeeper$SpanRow;I)V"⟩
abbrev cX1_product : ByteArray := prog_3_method_6_code
def yX1_product : MethodName := ⟨RX1, "product", "(ILSpanKeeper$SpanRow;ILSpanKeeper$SpanRow;I)V"⟩
abbrev cX1_sumFits : ByteArray := prog_3_method_7_code
def yX1_sumFits : MethodName := ⟨RX1, "sumFits", "(JJ)Z"⟩
abbrev cX1_differenceFits : ByteArray := prog_3_method_8_code
def yX1_differenceFits : MethodName := ⟨RX1, "differenceFits", "(JJ)Z"⟩
abbrev cX1_productFits : ByteArray := prog_3_method_9_code
def yX1_productFits : MethodName := ⟨RX1, "productFits", "(JJ)Z"⟩
def RX2 : String := "SpanKeeper$State"
def TX2 : u_T := fun k => match k with
  | 0 => ("SpanKeeper$State", "value", "[I", true)
  | 1 => ("SpanKeeper$State", "span", "[I", true)
  | 2 => ("SpanKeeper$State", "cost", "[I", true)
  | 3 => ("SpanKeeper$State", "formulas", "[LSpanKeeper$Formula;", true)
  | 4 => ("SpanKeeper$State", "formulaCount", "I", false)
  | 5 => ("SpanKeeper$State", "planSource", "[I", true)
  | 6 => ("SpanKeeper$State", "planWhat", "[I", true)
  | 7 => ("SpanKeeper$State", "planV", "[I", true)
  | _ => ("SpanKeeper$State", "planCount", "I", false)
def tyX2 : Nat → FieldType := fun k => match k with
  | 0 => .array .int
  | 1 => .array .int
  | 2 => .array .int
  | 3 => .array (.object "SpanKeeper$Formula")
  | 4 => .int
  | 5 => .array .int
  | 6 => .array .int
  | 7 => .array .int
  | _ => .int
theorem nmX2 : ∀ a, a < 9 → ∀ b, b < 9 → a ≠ b → (TX2 a).2.1 ≠ (TX2 b).2.1 := by decide +kernel
theorem tyX2_ok : ∀ k, k < 9 → parseFieldDescriptor (TX2 k).2.2.1 = some (tyX2 k) := by decide +kernel
abbrev cX2_init : ByteArray := prog_4_method_1_code
def yX2_init : MethodName := ⟨RX2, "<init>", "()V"⟩
abbrev cX2_rowOf : ByteArray := prog_4_method_2_code
def yX2_rowOf : MethodName := ⟨RX2, "rowOf", "(I)[I"⟩
abbrev cX2_lowOf : ByteArray := prog_4_method_3_code
def yX2_lowOf : MethodName := ⟨RX2, "lowOf", "(I)I"⟩
abbrev cX2_highOf : ByteArray := prog_4_method_4_code
def yX2_highOf : MethodName := ⟨RX2, "highOf", "(I)I"⟩
abbrev cX2_costOf : ByteArray := prog_4_method_5_code
def yX2_costOf : MethodName := ⟨RX2, "costOf", "(I)I"⟩
abbrev cX2_spanBehind : ByteArray := prog_4_method_6_code
def yX2_spanBehind : MethodName := ⟨RX2, "spanBehind", "(II)I"⟩
abbrev cX2_becomeLike : ByteArray := prog_4_method_7_code
def yX2_becomeLike : MethodName := ⟨RX2, "becomeLike", "(LSpanKeeper$State;)V"⟩
def RX3 : String := "SpanKeeper$Tape"
def TX3 : u_T := fun k => match k with
  | 0 => ("SpanKeeper$Tape", "bytes", "[I", true)
  | 1 => ("SpanKeeper$Tape", "length", "I", false)
  | 2 => ("SpanKeeper$Tape", "at", "I", false)
  | 3 => ("SpanKeeper$Tape", "kind", "[I", true)
  | 4 => ("SpanKeeper$Tape", "place", "[I", true)
  | 5 => ("SpanKeeper$Tape", "first", "[I", true)
  | 6 => ("SpanKeeper$Tape", "second", "[I", true)
  | 7 => ("SpanKeeper$Tape", "worth", "[I", true)
  | _ => ("SpanKeeper$Tape", "size", "I", false)
def tyX3 : Nat → FieldType := fun k => match k with
  | 0 => .array .int
  | 1 => .int
  | 2 => .int
  | 3 => .array .int
  | 4 => .array .int
  | 5 => .array .int
  | 6 => .array .int
  | 7 => .array .int
  | _ => .int
theorem nmX3 : ∀ a, a < 9 → ∀ b, b < 9 → a ≠ b → (TX3 a).2.1 ≠ (TX3 b).2.1 := by decide +kernel
theorem tyX3_ok : ∀ k, k < 9 → parseFieldDescriptor (TX3 k).2.2.1 = some (tyX3 k) := by decide +kernel
abbrev cX3_init : ByteArray := prog_5_method_1_code
def yX3_init : MethodName := ⟨RX3, "<init>", "()V"⟩
abbrev cX3_append : ByteArray := prog_5_method_2_code
def yX3_append : MethodName := ⟨RX3, "append", "(I)Z"⟩
abbrev cX3_readFormula : ByteArray := prog_5_method_3_code
def yX3_readFormula : MethodName := ⟨RX3, "readFormula", "()LSpanKeeper$Formula;"⟩
abbrev cX3_here : ByteArray := prog_5_method_4_code
def yX3_here : MethodName := ⟨RX3, "here", "()I"⟩
abbrev cX3_readSum : ByteArray := prog_5_method_5_code
def yX3_readSum : MethodName := ⟨RX3, "readSum", "(I)I"⟩
abbrev cX3_readProduct : ByteArray := prog_5_method_6_code
def yX3_readProduct : MethodName := ⟨RX3, "readProduct", "(I)I"⟩
abbrev cX3_readFactor : ByteArray := prog_5_method_7_code
def yX3_readFactor : MethodName := ⟨RX3, "readFactor", "(I)I"⟩
abbrev cX3_readNumber : ByteArray := prog_5_method_8_code
def yX3_readNumber : MethodName := ⟨RX3, "readNumber", "()I"⟩
abbrev cX3_isFigure : ByteArray := prog_5_method_9_code
def yX3_isFigure : MethodName := ⟨RX3, "isFigure", "(I)Z"⟩
abbrev cX3_join : ByteArray := prog_5_method_10_code
def yX3_join : MethodName := ⟨RX3, "join", "(IIII)I"⟩
abbrev cX3_add : ByteArray := prog_5_method_11_code
def yX3_add : MethodName := ⟨RX3, "add", "(III)I"⟩
def RX4 : String := "SpanKeeper$Thought"
def TX4 : u_T := fun k => match k with
  | 0 => ("SpanKeeper$Thought", "from", "[I", true)
  | 1 => ("SpanKeeper$Thought", "to", "[I", true)
  | 2 => ("SpanKeeper$Thought", "over", "Z", false)
  | 3 => ("SpanKeeper$Thought", "low", "J", false)
  | 4 => ("SpanKeeper$Thought", "high", "J", false)
  | 5 => ("SpanKeeper$Thought", "at", "[I", true)
  | 6 => ("SpanKeeper$Thought", "spans", "LSpanKeeper$SpanRow;", true)
  | 7 => ("SpanKeeper$Thought", "changes", "LSpanKeeper$SpanRow;", true)
  | 8 => ("SpanKeeper$Thought", "shares", "LSpanKeeper$SpanRow;", true)
  | _ => ("SpanKeeper$Thought", "worths", "[J", true)
def tyX4 : Nat → FieldType := fun k => match k with
  | 0 => .array .int
  | 1 => .array .int
  | 2 => .boolean
  | 3 => .long
  | 4 => .long
  | 5 => .array .int
  | 6 => .object "SpanKeeper$SpanRow"
  | 7 => .object "SpanKeeper$SpanRow"
  | 8 => .object "SpanKeeper$SpanRow"
  | _ => .array .long
theorem nmX4 : ∀ a, a < 10 → ∀ b, b < 10 → a ≠ b → (TX4 a).2.1 ≠ (TX4 b).2.1 := by decide +kernel
theorem tyX4_ok : ∀ k, k < 10 → parseFieldDescriptor (TX4 k).2.2.1 = some (tyX4 k) := by decide +kernel
abbrev cX4_init : ByteArray := prog_6_method_1_code
def yX4_init : MethodName := ⟨RX4, "<init>", "()V"⟩
abbrev cX4_standAs : ByteArray := prog_6_method_2_code
def yX4_standAs : MethodName := ⟨RX4, "standAs", "(LSpanKeeper$State;)V"⟩
abbrev cX4_stand : ByteArray := prog_6_method_3_code
def yX4_stand : MethodName := ⟨RX4, "stand", "(III)V"⟩
abbrev cX4_carry : ByteArray := prog_6_method_4_code
def yX4_carry : MethodName := ⟨RX4, "carry", "(LSpanKeeper$Formula;)V"⟩
abbrev cX4_carryPart : ByteArray := prog_6_method_5_code
def yX4_carryPart : MethodName := ⟨RX4, "carryPart", "(LSpanKeeper$Formula;I)V"⟩
abbrev cX4_hasWidth : ByteArray := prog_6_method_6_code
def yX4_hasWidth : MethodName := ⟨RX4, "hasWidth", "()Z"⟩
abbrev cX4_told : ByteArray := prog_6_method_7_code
def yX4_told : MethodName := ⟨RX4, "told", "(I)J"⟩
abbrev cX4_firstOverOf : ByteArray := prog_6_method_8_code
def yX4_firstOverOf : MethodName := ⟨RX4, "firstOverOf", "(LSpanKeeper$Formula;I)I"⟩
abbrev cX4_changeBy : ByteArray := prog_6_method_9_code
def yX4_changeBy : MethodName := ⟨RX4, "changeBy", "(LSpanKeeper$Formula;I)I"⟩
abbrev cX4_changePart : ByteArray := prog_6_method_10_code
def yX4_changePart : MethodName := ⟨RX4, "changePart", "(LSpanKeeper$Formula;II)V"⟩
abbrev cX4_worthOf : ByteArray := prog_6_method_11_code
def yX4_worthOf : MethodName := ⟨RX4, "worthOf", "(LSpanKeeper$Formula;)J"⟩
abbrev cX4_worthOfPart : ByteArray := prog_6_method_12_code
def yX4_worthOfPart : MethodName := ⟨RX4, "worthOfPart", "(LSpanKeeper$Formula;I)J"⟩
abbrev cX4_drawBy : ByteArray := prog_6_method_13_code
def yX4_drawBy : MethodName := ⟨RX4, "drawBy", "(ILSpanKeeper$State;)V"⟩
def RX5 : String := "SpanKeeper"
def TX5 : u_T := fun k => match k with
  | 0 => ("SpanKeeper", "now", "LSpanKeeper$State;", true)
  | 1 => ("SpanKeeper", "taken", "LSpanKeeper$State;", true)
  | 2 => ("SpanKeeper", "imageTaken", "Z", false)
  | 3 => ("SpanKeeper", "tape", "LSpanKeeper$Tape;", true)
  | 4 => ("SpanKeeper", "thought", "LSpanKeeper$Thought;", true)
  | 5 => ("SpanKeeper", "rows", "[[J", true)
  | 6 => ("SpanKeeper", "rowLength", "[I", true)
  | 7 => ("SpanKeeper", "wayPlace", "[I", true)
  | _ => ("SpanKeeper", "wayLength", "I", false)
def tyX5 : Nat → FieldType := fun k => match k with
  | 0 => .object "SpanKeeper$State"
  | 1 => .object "SpanKeeper$State"
  | 2 => .boolean
  | 3 => .object "SpanKeeper$Tape"
  | 4 => .object "SpanKeeper$Thought"
  | 5 => .array (.array .long)
  | 6 => .array .int
  | 7 => .array .int
  | _ => .int
theorem nmX5 : ∀ a, a < 9 → ∀ b, b < 9 → a ≠ b → (TX5 a).2.1 ≠ (TX5 b).2.1 := by decide +kernel
theorem tyX5_ok : ∀ k, k < 9 → parseFieldDescriptor (TX5 k).2.2.1 = some (tyX5 k) := by decide +kernel
abbrev cX5_init : ByteArray := prog_1_method_1_code
def yX5_init : MethodName := ⟨RX5, "<init>", "()V"⟩
abbrev cX5_set : ByteArray := prog_1_method_2_code
def yX5_set : MethodName := ⟨RX5, "set", "(III)I"⟩
abbrev cX5_of : ByteArray := prog_1_method_3_code
def yX5_of : MethodName := ⟨RX5, "of", "(II)I"⟩
abbrev cX5_feed : ByteArray := prog_1_method_4_code
def yX5_feed : MethodName := ⟨RX5, "feed", "(I)I"⟩
abbrev cX5_formula : ByteArray := prog_1_method_5_code
def yX5_formula : MethodName := ⟨RX5, "formula", "()I"⟩
abbrev cX5_drop : ByteArray := prog_1_method_6_code
def yX5_drop : MethodName := ⟨RX5, "drop", "()I"⟩
abbrev cX5_parts : ByteArray := prog_1_method_7_code
def yX5_parts : MethodName := ⟨RX5, "parts", "(II)I"⟩
abbrev cX5_alike : ByteArray := prog_1_method_8_code
def yX5_alike : MethodName := ⟨RX5, "alike", "(II)I"⟩
abbrev cX5_span : ByteArray := prog_1_method_9_code
def yX5_span : MethodName := ⟨RX5, "span", "(II)J"⟩
abbrev cX5_way : ByteArray := prog_1_method_10_code
def yX5_way : MethodName := ⟨RX5, "way", "(I)I"⟩
abbrev cX5_exact : ByteArray := prog_1_method_11_code
def yX5_exact : MethodName := ⟨RX5, "exact", "(I)J"⟩
abbrev cX5_corner : ByteArray := prog_1_method_12_code
def yX5_corner : MethodName := ⟨RX5, "corner", "(II)J"⟩
abbrev cX5_rises : ByteArray := prog_1_method_13_code
def yX5_rises : MethodName := ⟨RX5, "rises", "(II)I"⟩
abbrev cX5_tight : ByteArray := prog_1_method_14_code
def yX5_tight : MethodName := ⟨RX5, "tight", "(II)J"⟩
abbrev cX5_split : ByteArray := prog_1_method_15_code
def yX5_split : MethodName := ⟨RX5, "split", "(IIII)J"⟩
abbrev cX5_best : ByteArray := prog_1_method_16_code
def yX5_best : MethodName := ⟨RX5, "best", "(II)J"⟩
abbrev cX5_widest : ByteArray := prog_1_method_17_code
def yX5_widest : MethodName := ⟨RX5, "widest", "(I)I"⟩
abbrev cX5_again : ByteArray := prog_1_method_18_code
def yX5_again : MethodName := ⟨RX5, "again", "(IJI)I"⟩
abbrev cX5_fits : ByteArray := prog_1_method_19_code
def yX5_fits : MethodName := ⟨RX5, "fits", "(IIJI)I"⟩
abbrev cX5_odds : ByteArray := prog_1_method_20_code
def yX5_odds : MethodName := ⟨RX5, "odds", "(IIIJJI)J"⟩
abbrev cX5_plan : ByteArray := prog_1_method_21_code
def yX5_plan : MethodName := ⟨RX5, "plan", "(III)I"⟩
abbrev cX5_ends : ByteArray := prog_1_method_22_code
def yX5_ends : MethodName := ⟨RX5, "ends", "(I)J"⟩
abbrev cX5_judge : ByteArray := prog_1_method_23_code
def yX5_judge : MethodName := ⟨RX5, "judge", "(I)I"⟩
abbrev cX5_list : ByteArray := prog_1_method_24_code
def yX5_list : MethodName := ⟨RX5, "list", "(II)I"⟩
abbrev cX5_put : ByteArray := prog_1_method_25_code
def yX5_put : MethodName := ⟨RX5, "put", "(IIJ)I"⟩
abbrev cX5_get : ByteArray := prog_1_method_26_code
def yX5_get : MethodName := ⟨RX5, "get", "(II)J"⟩
abbrev cX5_image : ByteArray := prog_1_method_27_code
def yX5_image : MethodName := ⟨RX5, "image", "()I"⟩
abbrev cX5_undo : ByteArray := prog_1_method_28_code
def yX5_undo : MethodName := ⟨RX5, "undo", "()I"⟩
abbrev cX5_count : ByteArray := prog_1_method_29_code
def yX5_count : MethodName := ⟨RX5, "count", "(I)I"⟩
abbrev cX5_isSource : ByteArray := prog_1_method_30_code
def yX5_isSource : MethodName := ⟨RX5, "isSource", "(I)Z"⟩
abbrev cX5_isList : ByteArray := prog_1_method_31_code
def yX5_isList : MethodName := ⟨RX5, "isList", "(I)Z"⟩
abbrev cX5_mayBecome : ByteArray := prog_1_method_32_code
def yX5_mayBecome : MethodName := ⟨RX5, "mayBecome", "(II)Z"⟩
abbrev cX5_formulaOf : ByteArray := prog_1_method_33_code
def yX5_formulaOf : MethodName := ⟨RX5, "formulaOf", "(I)LSpanKeeper$Formula;"⟩
abbrev cX5_carryAsItIs : ByteArray := prog_1_method_34_code
def yX5_carryAsItIs : MethodName := ⟨RX5, "carryAsItIs", "(LSpanKeeper$Formula;)V"⟩
abbrev cX5_keepWay : ByteArray := prog_1_method_35_code
def yX5_keepWay : MethodName := ⟨RX5, "keepWay", "(LSpanKeeper$Formula;)V"⟩
abbrev cX5_worthAtCorner : ByteArray := prog_1_method_36_code
def yX5_worthAtCorner : MethodName := ⟨RX5, "worthAtCorner", "(LSpanKeeper$Formula;I)J"⟩
abbrev cX5_carrySplit : ByteArray := prog_1_method_37_code
def yX5_carrySplit : MethodName := ⟨RX5, "carrySplit", "(LSpanKeeper$Formula;II)V"⟩
abbrev cX5_widthWithHalf : ByteArray := prog_1_method_38_code
def yX5_widthWithHalf : MethodName := ⟨RX5, "widthWithHalf", "(LSpanKeeper$Formula;I)J"⟩
abbrev cX5_greatestCommon : ByteArray := prog_1_method_39_code
def yX5_greatestCommon : MethodName := ⟨RX5, "greatestCommon", "(II)I"⟩
abbrev cX5_formulasOver : ByteArray := prog_1_method_40_code
def yX5_formulasOver : MethodName := ⟨RX5, "formulasOver", "()I"⟩
abbrev cX5_sourcesWithSpan : ByteArray := prog_1_method_41_code
def yX5_sourcesWithSpan : MethodName := ⟨RX5, "sourcesWithSpan", "()I"⟩
def RX6 : String := "SpanKeeperModel"
def TX6 : u_T := fun k => match k with
  | 0 => ("SpanKeeperModel", "sources", "[I", true)
  | 1 => ("SpanKeeperModel", "keptSources", "[I", true)
  | 2 => ("SpanKeeperModel", "kinds", "[I", true)
  | 3 => ("SpanKeeperModel", "firsts", "[I", true)
  | 4 => ("SpanKeeperModel", "seconds", "[I", true)
  | 5 => ("SpanKeeperModel", "places", "[I", true)
  | 6 => ("SpanKeeperModel", "sizes", "[I", true)
  | 7 => ("SpanKeeperModel", "many", "I", false)
  | 8 => ("SpanKeeperModel", "keptKinds", "[I", true)
  | 9 => ("SpanKeeperModel", "keptFirsts", "[I", true)
  | 10 => ("SpanKeeperModel", "keptSeconds", "[I", true)
  | 11 => ("SpanKeeperModel", "keptPlaces", "[I", true)
  | 12 => ("SpanKeeperModel", "keptSizes", "[I", true)
  | 13 => ("SpanKeeperModel", "keptMany", "I", false)
  | 14 => ("SpanKeeperModel", "hasImage", "Z", false)
  | 15 => ("SpanKeeperModel", "tape", "[I", true)
  | 16 => ("SpanKeeperModel", "taped", "I", false)
  | 17 => ("SpanKeeperModel", "here", "I", false)
  | 18 => ("SpanKeeperModel", "open", "I", false)
  | 19 => ("SpanKeeperModel", "isWell", "Z", false)
  | 20 => ("SpanKeeperModel", "isTooGreat", "Z", false)
  | 21 => ("SpanKeeperModel", "lows", "[I", true)
  | 22 => ("SpanKeeperModel", "highs", "[I", true)
  | 23 => ("SpanKeeperModel", "low", "[J", true)
  | 24 => ("SpanKeeperModel", "high", "[J", true)
  | 25 => ("SpanKeeperModel", "isOver", "[Z", true)
  | 26 => ("SpanKeeperModel", "least", "J", false)
  | 27 => ("SpanKeeperModel", "greatest", "J", false)
  | 28 => ("SpanKeeperModel", "way", "[I", true)
  | 29 => ("SpanKeeperModel", "ways", "I", false)
  | 30 => ("SpanKeeperModel", "falls", "[J", true)
  | 31 => ("SpanKeeperModel", "climbs", "[J", true)
  | 32 => ("SpanKeeperModel", "changed", "[I", true)
  | 33 => ("SpanKeeperModel", "splitLow", "J", false)
  | 34 => ("SpanKeeperModel", "splitHigh", "J", false)
  | 35 => ("SpanKeeperModel", "plan", "[I", true)
  | 36 => ("SpanKeeperModel", "planMany", "I", false)
  | 37 => ("SpanKeeperModel", "keptPlan", "[I", true)
  | 38 => ("SpanKeeperModel", "keptPlanMany", "I", false)
  | 39 => ("SpanKeeperModel", "aside", "[I", true)
  | 40 => ("SpanKeeperModel", "rowMany", "[I", true)
  | _ => ("SpanKeeperModel", "items", "[J", true)
def tyX6 : Nat → FieldType := fun k => match k with
  | 0 => .array .int
  | 1 => .array .int
  | 2 => .array .int
  | 3 => .array .int
  | 4 => .array .int
  | 5 => .array .int
  | 6 => .array .int
  | 7 => .int
  | 8 => .array .int
  | 9 => .array .int
  | 10 => .array .int
  | 11 => .array .int
  | 12 => .array .int
  | 13 => .int
  | 14 => .boolean
  | 15 => .array .int
  | 16 => .int
  | 17 => .int
  | 18 => .int
  | 19 => .boolean
  | 20 => .boolean
  | 21 => .array .int
  | 22 => .array .int
  | 23 => .array .long
  | 24 => .array .long
  | 25 => .array .boolean
  | 26 => .long
  | 27 => .long
  | 28 => .array .int
  | 29 => .int
  | 30 => .array .long
  | 31 => .array .long
  | 32 => .array .int
  | 33 => .long
  | 34 => .long
  | 35 => .array .int
  | 36 => .int
  | 37 => .array .int
  | 38 => .int
  | 39 => .array .int
  | 40 => .array .int
  | _ => .array .long
theorem nmX6 : ∀ a, a < 42 → ∀ b, b < 42 → a ≠ b → (TX6 a).2.1 ≠ (TX6 b).2.1 := by decide +kernel
theorem tyX6_ok : ∀ k, k < 42 → parseFieldDescriptor (TX6 k).2.2.1 = some (tyX6 k) := by decide +kernel
abbrev cX6_isIn : ByteArray := prog_8_method_1_code
def yX6_isIn : MethodName := ⟨RX6, "isIn", "(JJJ)Z"⟩
abbrev cX6_init : ByteArray := prog_8_method_2_code
def yX6_init : MethodName := ⟨RX6, "<init>", "()V"⟩
abbrev cX6_isSource : ByteArray := prog_8_method_3_code
def yX6_isSource : MethodName := ⟨RX6, "isSource", "(I)Z"⟩
abbrev cX6_valueOf : ByteArray := prog_8_method_4_code
def yX6_valueOf : MethodName := ⟨RX6, "valueOf", "(I)I"⟩
abbrev cX6_spanOf : ByteArray := prog_8_method_5_code
def yX6_spanOf : MethodName := ⟨RX6, "spanOf", "(I)I"⟩
abbrev cX6_set : ByteArray := prog_8_method_6_code
def yX6_set : MethodName := ⟨RX6, "set", "(III)I"⟩
abbrev cX6_of : ByteArray := prog_8_method_7_code
def yX6_of : MethodName := ⟨RX6, "of", "(II)I"⟩
abbrev cX6_isFormula : ByteArray := prog_8_method_8_code
def yX6_isFormula : MethodName := ⟨RX6, "isFormula", "(I)Z"⟩
abbrev cX6_at : ByteArray := prog_8_method_9_code
def yX6_at : MethodName := ⟨RX6, "at", "(II)I"⟩
abbrev cX6_rootOf : ByteArray := prog_8_method_10_code
def yX6_rootOf : MethodName := ⟨RX6, "rootOf", "(I)I"⟩
abbrev cX6_feed : ByteArray := prog_8_method_11_code
def yX6_feed : MethodName := ⟨RX6, "feed", "(I)I"⟩
abbrev cX6_next : ByteArray := prog_8_method_12_code
def yX6_next : MethodName := ⟨RX6, "next", "()I"⟩
abbrev cX6_comes : ByteArray := prog_8_method_13_code
def yX6_comes : MethodName := ⟨RX6, "comes", "(IIII)I"⟩
abbrev cX6_wrong : ByteArray := prog_8_method_14_code
def yX6_wrong : MethodName := ⟨RX6, "wrong", "()I"⟩
abbrev cX6_opened : ByteArray := prog_8_method_15_code
def yX6_opened : MethodName := ⟨RX6, "opened", "()I"⟩
abbrev cX6_factor : ByteArray := prog_8_method_16_code
def yX6_factor : MethodName := ⟨RX6, "factor", "()I"⟩
abbrev cX6_products : ByteArray := prog_8_method_17_code
def yX6_products : MethodName := ⟨RX6, "products", "()I"⟩
abbrev cX6_sums : ByteArray := prog_8_method_18_code
def yX6_sums : MethodName := ⟨RX6, "sums", "()I"⟩
abbrev cX6_formula : ByteArray := prog_8_method_19_code
def yX6_formula : MethodName := ⟨RX6, "formula", "()I"⟩
abbrev cX6_drop : ByteArray := prog_8_method_20_code
def yX6_drop : MethodName := ⟨RX6, "drop", "()I"⟩
abbrev cX6_areAlike : ByteArray := prog_8_method_21_code
def yX6_areAlike : MethodName := ⟨RX6, "areAlike", "(IIII)Z"⟩
abbrev cX6_depthOf : ByteArray := prog_8_method_22_code
def yX6_depthOf : MethodName := ⟨RX6, "depthOf", "(II)I"⟩
abbrev cX6_likeOf : ByteArray := prog_8_method_23_code
def yX6_likeOf : MethodName := ⟨RX6, "likeOf", "(IZ)I"⟩
abbrev cX6_lettersOf : ByteArray := prog_8_method_24_code
def yX6_lettersOf : MethodName := ⟨RX6, "lettersOf", "(I)I"⟩
abbrev cX6_parts : ByteArray := prog_8_method_25_code
def yX6_parts : MethodName := ⟨RX6, "parts", "(II)I"⟩
abbrev cX6_alike : ByteArray := prog_8_method_26_code
def yX6_alike : MethodName := ⟨RX6, "alike", "(II)I"⟩
abbrev cX6_sum : ByteArray := prog_8_method_27_code
def yX6_sum : MethodName := ⟨RX6, "sum", "(JJ)J"⟩
abbrev cX6_less : ByteArray := prog_8_method_28_code
def yX6_less : MethodName := ⟨RX6, "less", "(JJ)J"⟩
abbrev cX6_product : ByteArray := prog_8_method_29_code
def yX6_product : MethodName := ⟨RX6, "product", "(JJ)J"⟩
abbrev cX6_lays : ByteArray := prog_8_method_30_code
def yX6_lays : MethodName := ⟨RX6, "lays", "(III)V"⟩
abbrev cX6_laysBox : ByteArray := prog_8_method_31_code
def yX6_laysBox : MethodName := ⟨RX6, "laysBox", "()V"⟩
abbrev cX6_products_ : ByteArray := prog_8_method_32_code
def yX6_products_ : MethodName := ⟨RX6, "products", "(JJJJ)V"⟩
abbrev cX6_joins : ByteArray := prog_8_method_33_code
def yX6_joins : MethodName := ⟨RX6, "joins", "(IIII)V"⟩
abbrev cX6_spans : ByteArray := prog_8_method_34_code
def yX6_spans : MethodName := ⟨RX6, "spans", "(I)Z"⟩
abbrev cX6_spansNow : ByteArray := prog_8_method_35_code
def yX6_spansNow : MethodName := ⟨RX6, "spansNow", "(I)Z"⟩
abbrev cX6_lowOf : ByteArray := prog_8_method_36_code
def yX6_lowOf : MethodName := ⟨RX6, "lowOf", "(I)J"⟩
abbrev cX6_highOf : ByteArray := prog_8_method_37_code
def yX6_highOf : MethodName := ⟨RX6, "highOf", "(I)J"⟩
abbrev cX6_widthBy : ByteArray := prog_8_method_38_code
def yX6_widthBy : MethodName := ⟨RX6, "widthBy", "(I)J"⟩
abbrev cX6_widthNow : ByteArray := prog_8_method_39_code
def yX6_widthNow : MethodName := ⟨RX6, "widthNow", "(I)J"⟩
abbrev cX6_goesWay : ByteArray := prog_8_method_40_code
def yX6_goesWay : MethodName := ⟨RX6, "goesWay", "(I)V"⟩
abbrev cX6_span : ByteArray := prog_8_method_41_code
def yX6_span : MethodName := ⟨RX6, "span", "(II)J"⟩
abbrev cX6_way : ByteArray := prog_8_method_42_code
def yX6_way : MethodName := ⟨RX6, "way", "(I)I"⟩
abbrev cX6_laysPoint : ByteArray := prog_8_method_43_code
def yX6_laysPoint : MethodName := ⟨RX6, "laysPoint", "(II)V"⟩
abbrev cX6_exact : ByteArray := prog_8_method_44_code
def yX6_exact : MethodName := ⟨RX6, "exact", "(I)J"⟩
abbrev cX6_corner : ByteArray := prog_8_method_45_code
def yX6_corner : MethodName := ⟨RX6, "corner", "(II)J"⟩
abbrev cX6_changes : ByteArray := prog_8_method_46_code
def yX6_changes : MethodName := ⟨RX6, "changes", "(IIII)V"⟩
abbrev cX6_changeOf : ByteArray := prog_8_method_47_code
def yX6_changeOf : MethodName := ⟨RX6, "changeOf", "(II)I"⟩
abbrev cX6_rises : ByteArray := prog_8_method_48_code
def yX6_rises : MethodName := ⟨RX6, "rises", "(II)I"⟩
abbrev cX6_tight : ByteArray := prog_8_method_49_code
def yX6_tight : MethodName := ⟨RX6, "tight", "(II)J"⟩
abbrev cX6_splits : ByteArray := prog_8_method_50_code
def yX6_splits : MethodName := ⟨RX6, "splits", "(III)V"⟩
abbrev cX6_split : ByteArray := prog_8_method_51_code
def yX6_split : MethodName := ⟨RX6, "split", "(IIII)J"⟩
abbrev cX6_best : ByteArray := prog_8_method_52_code
def yX6_best : MethodName := ⟨RX6, "best", "(II)J"⟩
abbrev cX6_widest : ByteArray := prog_8_method_53_code
def yX6_widest : MethodName := ⟨RX6, "widest", "(I)I"⟩
abbrev cX6_again : ByteArray := prog_8_method_54_code
def yX6_again : MethodName := ⟨RX6, "again", "(IJI)I"⟩
abbrev cX6_fits : ByteArray := prog_8_method_55_code
def yX6_fits : MethodName := ⟨RX6, "fits", "(IIJI)I"⟩
abbrev cX6_lowest : ByteArray := prog_8_method_56_code
def yX6_lowest : MethodName := ⟨RX6, "lowest", "(JJI)J"⟩
abbrev cX6_odds : ByteArray := prog_8_method_57_code
def yX6_odds : MethodName := ⟨RX6, "odds", "(IIIJJI)J"⟩
abbrev cX6_plan : ByteArray := prog_8_method_58_code
def yX6_plan : MethodName := ⟨RX6, "plan", "(III)I"⟩
abbrev cX6_ends : ByteArray := prog_8_method_59_code
def yX6_ends : MethodName := ⟨RX6, "ends", "(I)J"⟩
abbrev cX6_isList : ByteArray := prog_8_method_60_code
def yX6_isList : MethodName := ⟨RX6, "isList", "(I)Z"⟩
abbrev cX6_judge : ByteArray := prog_8_method_61_code
def yX6_judge : MethodName := ⟨RX6, "judge", "(I)I"⟩
abbrev cX6_list : ByteArray := prog_8_method_62_code
def yX6_list : MethodName := ⟨RX6, "list", "(II)I"⟩
abbrev cX6_put : ByteArray := prog_8_method_63_code
def yX6_put : MethodName := ⟨RX6, "put", "(IIJ)I"⟩
abbrev cX6_get : ByteArray := prog_8_method_64_code
def yX6_get : MethodName := ⟨RX6, "get", "(II)J"⟩
abbrev cX6_copies : ByteArray := prog_8_method_65_code
def yX6_copies : MethodName := ⟨RX6, "copies", "([I[II)V"⟩
abbrev cX6_image : ByteArray := prog_8_method_66_code
def yX6_image : MethodName := ⟨RX6, "image", "()I"⟩
abbrev cX6_undo : ByteArray := prog_8_method_67_code
def yX6_undo : MethodName := ⟨RX6, "undo", "()I"⟩
abbrev cX6_overMany : ByteArray := prog_8_method_68_code
def yX6_overMany : MethodName := ⟨RX6, "overMany", "()I"⟩
abbrev cX6_spannedMany : ByteArray := prog_8_method_69_code
def yX6_spannedMany : MethodName := ⟨RX6, "spannedMany", "()I"⟩
abbrev cX6_count : ByteArray := prog_8_method_70_code
def yX6_count : MethodName := ⟨RX6, "count", "(I)I"⟩
def RJx8e188 : String := "java/lang/Cloneable"
def TJx8e188 : u_T := fun k => match k with
  | _ => ("", "", "", false)
def tyJx8e188 : Nat → FieldType := fun k => match k with
  | _ => .int
theorem nmJx8e188 : ∀ a, a < 0 → ∀ b, b < 0 → a ≠ b → (TJx8e188 a).2.1 ≠ (TJx8e188 b).2.1 := by decide +kernel
theorem tyJx8e188_ok : ∀ k, k < 0 → parseFieldDescriptor (TJx8e188 k).2.2.1 = some (tyJx8e188 k) := by decide +kernel
def RJ9 : String := "java/lang/Math"
def TJ9 : u_T := fun k => match k with
  | _ => ("", "", "", false)
def tyJ9 : Nat → FieldType := fun k => match k with
  | _ => .int
theorem nmJ9 : ∀ a, a < 0 → ∀ b, b < 0 → a ≠ b → (TJ9 a).2.1 ≠ (TJ9 b).2.1 := by decide +kernel
theorem tyJ9_ok : ∀ k, k < 0 → parseFieldDescriptor (TJ9 k).2.2.1 = some (tyJ9 k) := by decide +kernel
abbrev cJ9_max_7cf53 : ByteArray := prog_10_method_65_code
def yJ9_max_7cf53 : MethodName := ⟨RJ9, "max", "(II)I"⟩
abbrev cJ9_max_f86c9 : ByteArray := prog_10_method_66_code
def yJ9_max_f86c9 : MethodName := ⟨RJ9, "max", "(JJ)J"⟩
abbrev cJ9_min_7cf53 : ByteArray := prog_10_method_69_code
def yJ9_min_7cf53 : MethodName := ⟨RJ9, "min", "(II)I"⟩
abbrev cJ9_min_f86c9 : ByteArray := prog_10_method_70_code
def yJ9_min_f86c9 : MethodName := ⟨RJ9, "min", "(JJ)J"⟩
def RJ10 : String := "java/lang/System"
def TJ10 : u_T := fun k => match k with
  | _ => ("", "", "", false)
def tyJ10 : Nat → FieldType := fun k => match k with
  | _ => .int
theorem nmJ10 : ∀ a, a < 0 → ∀ b, b < 0 → a ≠ b → (TJ10 a).2.1 ≠ (TJ10 b).2.1 := by decide +kernel
theorem tyJ10_ok : ∀ k, k < 0 → parseFieldDescriptor (TJ10 k).2.2.1 = some (tyJ10 k) := by decide +kernel
def RJ7 : String := "java/util/Arrays"
def TJ7 : u_T := fun k => match k with
  | _ => ("", "", "", false)
def tyJ7 : Nat → FieldType := fun k => match k with
  | _ => .int
theorem nmJ7 : ∀ a, a < 0 → ∀ b, b < 0 → a ≠ b → (TJ7 a).2.1 ≠ (TJ7 b).2.1 := by decide +kernel
theorem tyJ7_ok : ∀ k, k < 0 → parseFieldDescriptor (TJ7 k).2.2.1 = some (tyJ7 k) := by decide +kernel
abbrev cJ7_fill_d0a16 : ByteArray := prog_12_method_101_code
def yJ7_fill_d0a16 : MethodName := ⟨RJ7, "fill", "([JJ)V"⟩
abbrev cJ7_fill_53178 : ByteArray := prog_12_method_103_code
def yJ7_fill_53178 : MethodName := ⟨RJ7, "fill", "([II)V"⟩
abbrev cJ7_copyOf_59c91 : ByteArray := prog_12_method_123_code
def yJ7_copyOf_59c91 : MethodName := ⟨RJ7, "copyOf", "([II)[I"⟩
def RL : String := "SpanKeeperLaw"
abbrev cL_law : ByteArray := code
def yL_law : MethodName := ⟨RL, "law", "([I)Z"⟩
end
section
/-- the tables' words that stay as they are, whatever is run -/
def lw_g : List Cond := lw_tbl.filter goodWord
theorem gw {w : Cond} (i : Nat) (h : lw_tbl[i]? = some w) (hg : goodWord w = true) : w ∈ lw_g := List.mem_filter.mpr ⟨List.mem_of_getElem? h, hg⟩
theorem lw_g_tbl {w : Cond} (h : w ∈ lw_g) : w ∈ lw_tbl := (List.mem_filter.mp h).1
/-- .. and those that want a lemma each for it -/
def lw_bad : List Cond := [.methodLinkNest "SpanKeeper" 27 ⟨"SpanKeeper$Tape", "<init>", "()V"⟩ "SpanKeeper", .methodLinkNest "SpanKeeper" 34 ⟨"SpanKeeper$Thought", "<init>", "()V"⟩ "SpanKeeper", .castable "[I" "java/lang/Cloneable", .arrayOver (.object "SpanKeeper$Formula"), .arrayOver (.array .long)]
def hBad (U : State) : Prop := ∀ w ∈ lw_bad, va_Nw w U
abbrev HS : Type := Nat × (Nat → Nat) × (Nat → Nat) × (Nat → Nat → Int32) × (Nat → Nat → Int64) × (Nat → Nat → Option Nat)
abbrev hN (σ : HS) : Nat := σ.1
def hty (σ : HS) (j : Nat) : Nat := σ.2.1 j
def hlen (σ : HS) (j : Nat) : Nat := σ.2.2.1 j
def hA (σ : HS) (j k : Nat) : Int32 := σ.2.2.2.1 j k
def hB (σ : HS) (j k : Nat) : Int64 := σ.2.2.2.2.1 j k
def hR (σ : HS) (j k : Nat) : Option Nat := σ.2.2.2.2.2 j k
def up2 {α : Type} (f : Nat → Nat → α) (j k : Nat) (v : α) : Nat → Nat → α := fun a b => if a = j ∧ b = k then v else f a b
def upr {α : Type} (f : Nat → Nat → α) (j : Nat) (g : Nat → α) : Nat → Nat → α := fun a => if a = j then g else f a
def sA (σ : HS) (j k : Nat) (v : Int32) : HS := (σ.1, σ.2.1, σ.2.2.1, up2 σ.2.2.2.1 j k v, σ.2.2.2.2.1, σ.2.2.2.2.2)
def sB (σ : HS) (j k : Nat) (v : Int64) : HS := (σ.1, σ.2.1, σ.2.2.1, σ.2.2.2.1, up2 σ.2.2.2.2.1 j k v, σ.2.2.2.2.2)
def sR (σ : HS) (j k : Nat) (v : Option Nat) : HS := (σ.1, σ.2.1, σ.2.2.1, σ.2.2.2.1, σ.2.2.2.2.1, up2 σ.2.2.2.2.2 j k v)
def rA (σ : HS) (j : Nat) (g : Nat → Int32) : HS := (σ.1, σ.2.1, σ.2.2.1, upr σ.2.2.2.1 j g, σ.2.2.2.2.1, σ.2.2.2.2.2)
/-- a new cell, of kind t, of n places, all of them 0 -/
def nw (σ : HS) (t n : Nat) : HS := (σ.1 + 1, va_up σ.2.1 σ.1 t, va_up σ.2.2.1 σ.1 n, upr σ.2.2.2.1 σ.1 (fun _ => 0), upr σ.2.2.2.2.1 σ.1 (fun _ => 0), upr σ.2.2.2.2.2 σ.1 (fun _ => none))
/-- a new row of ints with these values -/
def nwc (σ : HS) (t n : Nat) (g : Nat → Int32) : HS := (σ.1 + 1, va_up σ.2.1 σ.1 t, va_up σ.2.2.1 σ.1 n, upr σ.2.2.2.1 σ.1 g, upr σ.2.2.2.2.1 σ.1 (fun _ => 0), upr σ.2.2.2.2.2 σ.1 (fun _ => none))
abbrev isO (σ : HS) (t j : Nat) : Prop := j < hN σ ∧ hty σ j = t
abbrev inb (i : Int32) (n : Nat) : Prop := ¬ (i < 0 ∨ n ≤ i.toNatClampNeg)
abbrev bit (v : Int32) : Prop := v = 0 ∨ v = 1
def lt {α β : Type} (a : α) (f : α → β) : β := f a
def chk {α : Type} (c : Prop) [Decidable c] (x : Option α) : Option α := if c then x else none
def bd {α β : Type} (x : Option α) (f : α → Option β) : Option β := match x with | none => none | some a => f a
def bc {α β γ : Type} (x : Option (α × β)) (f : α → β → Option γ) : Option γ := match x with | none => none | some a => f a.1 a.2
def oc {α β : Type} (o : Option α) (a : β) (f : α → β) : β := match o with | none => a | some i => f i
theorem lt_of {α β : Type} {a : α} {f : α → β} {r : β} (h : lt a f = r) (x : α) (e : x = a) : f x = r := by subst e; exact h
theorem chk_of {α : Type} {c : Prop} {i : Decidable c} {x : Option α} {y : α} (h : @chk α c i x = some y) : c ∧ x = some y := by
  unfold chk at h
  by_cases hc : c
  · rw [if_pos hc] at h; exact ⟨hc, h⟩
  · rw [if_neg hc] at h; cases h
theorem bd_of {α β : Type} {x : Option α} {f : α → Option β} {y : β} (h : bd x f = some y) : ∃ a, x = some a ∧ f a = some y := by
  cases x with
  | none => cases h
  | some a => exact ⟨a, rfl, h⟩
theorem bc_of {α β γ : Type} {x : Option (α × β)} {f : α → β → Option γ} {y : γ} (h : bc x f = some y) : ∃ a b, x = some (a, b) ∧ f a b = some y := by
  cases x with
  | none => cases h
  | some a => exact ⟨a.1, a.2, rfl, h⟩
theorem br_y {α : Type} {c : Prop} {i : Decidable c} {a b : α} {r : α} (h : (@ite α c i a b) = r) (hc : c) : a = r := by rw [if_pos hc] at h; exact h
theorem br_n {α : Type} {c : Prop} {i : Decidable c} {a b : α} {r : α} (h : (@ite α c i a b) = r) (hc : ¬ c) : b = r := by rw [if_neg hc] at h; exact h
theorem rt_of {α β : Type} {a a' : α} {b b' : β} (h : (some (a, b) : Option (α × β)) = some (a', b')) : a' = a ∧ b' = b := by cases h; exact ⟨rfl, rfl⟩
/-- kinds of the fields of a class: 0 an int or a boolean, 1 a long, 2 a reference -/
def fk : Nat → List Nat
  | 0 => [0, 2, 2, 2, 2, 2, 0, 0, 0, 0]
  | 1 => [2, 2, 2]
  | 2 => [2, 2, 2, 2, 0, 2, 2, 2, 0]
  | 3 => [2, 0, 0, 2, 2, 2, 2, 2, 0]
  | 4 => [2, 2, 0, 1, 1, 2, 2, 2, 2, 2]
  | 5 => [2, 2, 0, 2, 2, 2, 2, 2, 0]
  | 6 => [2, 2, 2, 2, 2, 2, 2, 0, 2, 2, 2, 2, 2, 0, 0, 2, 0, 0, 0, 0, 0, 2, 2, 2, 2, 2, 1, 1, 2, 0, 2, 2, 2, 1, 1, 2, 0, 2, 0, 2, 2, 2]
  | _ => []
abbrev classes : List vw_C := [(RX0, TX0, 10), (RX1, TX1, 3), (RX2, TX2, 9), (RX3, TX3, 9), (RX4, TX4, 10), (RX5, TX5, 9), (RX6, TX6, 42)]
def htys (cs : Nat → ClassId) : List (ClassId × FieldType) := [(cs 0, .int), (cs 1, .boolean), (cs 2, .long), (cs 3, .object RX0), (cs 4, .array .long)]
def hF (q : Nat → Nat) (σ : HS) (j : Nat) (fs : List Nat) : List Value := fs.mapIdx (fun k f => if f = 0 then .int (hA σ j k) else if f = 1 then .long (hB σ j k) else va_rf ((hR σ j k).map q))
def hE (cs : Nat → ClassId) (q : Nat → Nat) (σ : HS) (j : Nat) : va_E :=
  if hty σ j < 10 then .inr (hty σ j, hF q σ j (fk (hty σ j)))
  else .inl (cs (hty σ j - 10), hlen σ j, if hty σ j < 12 then .inl (hA σ j) else if hty σ j = 12 then .inr (.inl (hB σ j)) else .inr (.inr (.inr (.inr (fun k => (hR σ j k).map q)))))
def hWl (cs : Nat → ClassId) (q : Nat → Nat) (σ : HS) : va_W := (List.range (hN σ)).map fun j => (q j, hE cs q σ j)
theorem hW_get {cs : Nat → ClassId} {q : Nat → Nat} {σ : HS} {j : Nat} (h : j < hN σ) : (hWl cs q σ)[j]? = some (q j, hE cs q σ j) := by
  unfold hWl
  rw [List.getElem?_map, List.getElem?_range h]
  rfl
theorem hW_mem {cs : Nat → ClassId} {q : Nat → Nat} {σ : HS} {k : Nat} {x : Nat × va_E} (h : (hWl cs q σ)[k]? = some x) : k < hN σ ∧ x = (q k, hE cs q σ k) := by
  by_cases hk : k < hN σ
  · rw [hW_get hk] at h; exact ⟨hk, (Option.some.inj h).symm⟩
  · have : (hWl cs q σ)[k]? = none := List.getElem?_eq_none (by unfold hWl; rw [List.length_map, List.length_range]; omega)
    rw [this] at h; cases h
theorem hW_set {cs : Nat → ClassId} {q : Nat → Nat} {σ σ' : HS} {j : Nat} {x : va_E} (hn : hN σ' = hN σ) (he : hE cs q σ' j = x) (ho : ∀ i, i ≠ j → hE cs q σ' i = hE cs q σ i) : (hWl cs q σ).set j (q j, x) = hWl cs q σ' := by
  apply List.ext_getElem?
  intro i
  rw [List.getElem?_set]
  by_cases hi : i < hN σ
  · rw [hW_get (σ := σ') (by rw [hn]; exact hi)]
    by_cases e : j = i
    · subst e
      rw [if_pos rfl, if_pos (by unfold hWl; rw [List.length_map, List.length_range]; exact hi), he]
    · rw [if_neg e, hW_get hi, ho i (fun z => e z.symm)]
  · have h1 : (hWl cs q σ)[i]? = none := List.getElem?_eq_none (by unfold hWl; rw [List.length_map, List.length_range]; omega)
    have h2 : (hWl cs q σ')[i]? = none := List.getElem?_eq_none (by unfold hWl; rw [List.length_map, List.length_range, hn]; omega)
    rw [h2]
    by_cases e : j = i
    · subst e
      rw [if_pos rfl, if_neg (by unfold hWl; rw [List.length_map, List.length_range]; exact hi)]
    · rw [if_neg e, h1]
theorem hE_o {cs : Nat → ClassId} {q : Nat → Nat} {σ : HS} {j t : Nat} (h : hty σ j = t) (h10 : t < 10) : hE cs q σ j = .inr (t, hF q σ j (fk t)) := by
  subst h; unfold hE; rw [if_pos h10]
theorem hE_i {cs : Nat → ClassId} {q : Nat → Nat} {σ : HS} {j : Nat} (h : hty σ j = 10) : hE cs q σ j = .inl (cs 0, hlen σ j, .inl (hA σ j)) := by
  unfold hE; rw [h]; rfl
theorem hE_z {cs : Nat → ClassId} {q : Nat → Nat} {σ : HS} {j : Nat} (h : hty σ j = 11) : hE cs q σ j = .inl (cs 1, hlen σ j, .inl (hA σ j)) := by
  unfold hE; rw [h]; rfl
theorem hE_l {cs : Nat → ClassId} {q : Nat → Nat} {σ : HS} {j : Nat} (h : hty σ j = 12) : hE cs q σ j = .inl (cs 2, hlen σ j, .inr (.inl (hB σ j))) := by
  unfold hE; rw [h]; rfl
theorem hE_q {cs : Nat → ClassId} {q : Nat → Nat} {σ : HS} {j : Nat} (h : hty σ j = 13) : hE cs q σ j = .inl (cs 3, hlen σ j, .inr (.inr (.inr (.inr (fun k => (hR σ j k).map q))))) := by
  unfold hE; rw [h]; rfl
theorem hE_r {cs : Nat → ClassId} {q : Nat → Nat} {σ : HS} {j : Nat} (h : hty σ j = 14) : hE cs q σ j = .inl (cs 4, hlen σ j, .inr (.inr (.inr (.inr (fun k => (hR σ j k).map q))))) := by
  unfold hE; rw [h]; rfl
theorem up2_s {α : Type} (f : Nat → Nat → α) (j k : Nat) (v : α) : up2 f j k v j k = v := if_pos ⟨rfl, rfl⟩
theorem up2_row {α : Type} (f : Nat → Nat → α) (j k : Nat) (v : α) : up2 f j k v j = fun b => if b = k then v else f j b := by
  funext b; unfold up2; by_cases h : b = k <;> simp [h]
theorem up2_ne {α : Type} {f : Nat → Nat → α} {j k i : Nat} {v : α} (h : i ≠ j) : up2 f j k v i = f i := by
  funext b; unfold up2; rw [if_neg (fun z => h z.1)]
theorem upr_s {α : Type} {f : Nat → Nat → α} {j : Nat} {g : Nat → α} : upr f j g j = g := if_pos rfl
theorem upr_ne {α : Type} {f : Nat → Nat → α} {j i : Nat} {g : Nat → α} (h : i ≠ j) : upr f j g i = f i := if_neg h
theorem hE_cong {cs : Nat → ClassId} {q : Nat → Nat} {σ σ' : HS} {i : Nat} (h1 : hty σ' i = hty σ i) (h2 : hlen σ' i = hlen σ i) (h3 : hA σ' i = hA σ i) (h4 : hB σ' i = hB σ i) (h5 : hR σ' i = hR σ i) : hE cs q σ' i = hE cs q σ i := by
  unfold hE hF; rw [h1, h2, h3, h4, h5]
theorem hF_len {q : Nat → Nat} {σ : HS} {j : Nat} {fs : List Nat} : (hF q σ j fs).length = fs.length := List.length_mapIdx
theorem hF_get {q : Nat → Nat} {σ : HS} {j k f : Nat} {fs : List Nat} (h : fs[k]? = some f) : (hF q σ j fs)[k]? = some (if f = 0 then .int (hA σ j k) else if f = 1 then .long (hB σ j k) else va_rf ((hR σ j k).map q)) := by
  unfold hF; rw [List.getElem?_mapIdx, h]; rfl
theorem hF_set {q : Nat → Nat} {σ σ' : HS} {j k f : Nat} {fs : List Nat} {v : Value} (h : fs[k]? = some f) (hv : (if f = 0 then Value.int (hA σ' j k) else if f = 1 then .long (hB σ' j k) else va_rf ((hR σ' j k).map q)) = v)
    (ho : ∀ i, i ≠ k → hA σ' j i = hA σ j i ∧ hB σ' j i = hB σ j i ∧ hR σ' j i = hR σ j i) : (hF q σ j fs).set k v = hF q σ' j fs := by
  apply List.ext_getElem?
  intro i
  rw [List.getElem?_set]
  have hk : k < fs.length := (List.getElem?_eq_some_iff.mp h).1
  by_cases e : k = i
  · subst e
    rw [if_pos rfl, if_pos (by rw [hF_len]; exact hk), hF_get h, hv]
  · rw [if_neg e]
    obtain ⟨a, b, d⟩ := ho i (fun z => e z.symm)
    unfold hF
    rw [List.getElem?_mapIdx, List.getElem?_mapIdx, a, b, d]
theorem va_rf_some (a : Nat) : va_rf (some a) = .ref a := rfl
/-- references lead to cells that there are -/
def hOK (σ : HS) : Prop := ∀ j k i, hR σ j k = some i → i < hN σ
def hPre (D : va_G) (cs : Nat → ClassId) (q : Nat → Nat) (σ : HS) (sz : Nat) (U : State) : Prop := U.heap.size = sz ∧ hBad U ∧ hOK σ ∧ va_P D classes (hWl cs q σ) U.heap ∧ va_K D classes (htys cs) U ∧ va_D (fun _ => True) (hWl cs q σ)
def hPost (D : va_G) (cs : Nat → ClassId) (q : Nat → Nat) (σ : HS) (A : Nat → Prop) (t : State) : Prop := hOK σ ∧ va_P D classes (hWl cs q σ) t.heap ∧ va_K D classes (htys cs) t ∧ va_D A (hWl cs q σ)
def hQ (D : va_G) (cs : Nat → ClassId) (K : (Nat → Nat) → Prop) (rv : (Nat → Nat) → Option Value) (σ0 : HS) (A : Nat → Prop) : Array Value → State → Outcome → State → Prop := fun _ st o t => (∃ q' : Nat → Nat, o = .returned (rv q') ∧ K q' ∧ hPost D cs q' σ0 A t) ∧ va_F A st t
/-- a method's contract: from the heap σ it comes to the heap σ0, and answers rv -/
def MT (l : Launch) (y : MethodName) (ws : List Cond) (rm : Room) (D : va_G) (cs : Nat → ClassId) (q : Nat → Nat) (σ σ0 : HS) (av : List Value) (K : (Nat → Nat) → Prop) (rv : (Nat → Nat) → Option Value) (mc ms : Nat) : Prop :=
  ∀ sz : Nat, Met l y ws rm (va_Pc av (hPre D cs q σ sz)) (hQ D cs K rv σ0 (va_A (hWl cs q σ) sz)) mc ms (va_A (hWl cs q σ) sz)
/-- from a callee's start: what the machine needs of a method's body -/
def Cx (p : Program) (s : State) (m : MethodId) (args : Array Value) (c : Code) (cc : ByteArray) (nL : Nat) (own : String) (D : va_G) (cs : Nat → ClassId) (A : Nat → Prop) (H0 : Heap) : Prop :=
  p.tables.exec = Jvm.exec ∧ c.code = cc ∧ c.maxLocals = nL ∧ s.vm.findClass own = some m.cls ∧ (∀ w ∈ lw_g, w.before args s = true) ∧ va_K D classes (htys cs) s ∧ (∀ q, H0.size ≤ q → A q) ∧ hBad s
def J (p : Program) (l : Launch) (e : Env) (R : Room) (s : State) (m : MethodId) (args : Array Value) (below : List Frame) (meth : Method) (c : Code) (nL : Nat) (D : va_G) (cs : Nat → ClassId) (A : Nat → Prop) (H0 : Heap) (cells slots : Nat) (Q : State → Prop) (q : Nat → Nat) (σ : HS) (lv : List (Nat × Value)) (pc : Nat) (st : List Value) : Prop :=
  ∀ (H : Heap) (locs : List Loc) (ls : Array Slot), hOK σ → va_P D classes (hWl cs q σ) H → va_D A (hWl cs q σ) → va_S A H0 H locs → lv_has ls nL lv → W p l e R s m args below meth c H locs cells slots Q (F0 m pc ls st)
section HR
variable {p : Program} {l : Launch} {e : Env} {R : Room} {s : State} {m : MethodId} {args : Array Value} {below : List Frame} {meth : Method} {c : Code} {nL : Nat} {D : va_G} {cs : Nat → ClassId} {A : Nat → Prop} {H0 : Heap} {cells slots : Nat} {Q : State → Prop} {q : Nat → Nat} {σ : HS} {lv : List (Nat × Value)} {pc : Nat} {st : List Value} {cc : ByteArray} {own : String}
theorem j_iconst (X : Cx p s m args c cc nL own D cs A H0) {n : Int} {v : Int32} (hd : decode cc pc = .ok (.iconst n, 1)) (hv : Int32.ofInt n = v) (k : J p l e R s m args below meth c nL D cs A H0 cells slots Q q σ lv (pc + 1) (.int v :: st)) : J p l e R s m args below meth c nL D cs A H0 cells slots Q q σ lv pc (st) := fun H locs ls hO hP hD hS hl => lv_iconst X.1 X.2.1 hd hv (k H locs ls hO hP hD hS hl)
theorem j_bipush (X : Cx p s m args c cc nL own D cs A H0) {n : Int} {v : Int32} (hd : decode cc pc = .ok (.bipush n, 2)) (hv : (Int8.ofInt n).toInt32 = v) (k : J p l e R s m args below meth c nL D cs A H0 cells slots Q q σ lv (pc + 2) (.int v :: st)) : J p l e R s m args below meth c nL D cs A H0 cells slots Q q σ lv pc (st) := fun H locs ls hO hP hD hS hl => lv_bipush X.1 X.2.1 hd hv (k H locs ls hO hP hD hS hl)
theorem j_sipush (X : Cx p s m args c cc nL own D cs A H0) {n : Int} {v : Int32} (hd : decode cc pc = .ok (.sipush n, 3)) (hv : (Int16.ofInt n).toInt32 = v) (k : J p l e R s m args below meth c nL D cs A H0 cells slots Q q σ lv (pc + 3) (.int v :: st)) : J p l e R s m args below meth c nL D cs A H0 cells slots Q q σ lv pc (st) := fun H locs ls hO hP hD hS hl => lv_sipush X.1 X.2.1 hd hv (k H locs ls hO hP hD hS hl)
theorem j_lconst (X : Cx p s m args c cc nL own D cs A H0) {n : Fin 2} {v : Int64} (hd : decode cc pc = .ok (.lconst n, 1)) (hv : Int64.ofNat (n : Nat) = v) (k : J p l e R s m args below meth c nL D cs A H0 cells slots Q q σ lv (pc + 1) (.long v :: st)) : J p l e R s m args below meth c nL D cs A H0 cells slots Q q σ lv pc (st) := fun H locs ls hO hP hD hS hl => lv_lconst X.1 X.2.1 hd hv (k H locs ls hO hP hD hS hl)
theorem j_iload_n (X : Cx p s m args c cc nL own D cs A H0) {kk : Fin 4} {i : Nat} {x : Int32} (hd : decode cc pc = .ok (.iload_n kk, 1)) (ix : Nat) (hi : (kk : Nat) = i) (hx : lv[ix]? = some (i, .int x)) (k : J p l e R s m args below meth c nL D cs A H0 cells slots Q q σ lv (pc + 1) (.int x :: st)) : J p l e R s m args below meth c nL D cs A H0 cells slots Q q σ lv pc st := fun H locs ls hO hP hD hS hl => lv_iload_n X.1 X.2.1 hd hi (lv_at hl ix hx) (k H locs ls hO hP hD hS hl)
theorem j_iload (X : Cx p s m args c cc nL own D cs A H0) {i : Nat} {x : Int32} (hd : decode cc pc = .ok (.iload i, 2)) (ix : Nat) (hx : lv[ix]? = some (i, .int x)) (k : J p l e R s m args below meth c nL D cs A H0 cells slots Q q σ lv (pc + 2) (.int x :: st)) : J p l e R s m args below meth c nL D cs A H0 cells slots Q q σ lv pc st := fun H locs ls hO hP hD hS hl => lv_iload X.1 X.2.1 hd (lv_at hl ix hx) (k H locs ls hO hP hD hS hl)
theorem j_lload_n (X : Cx p s m args c cc nL own D cs A H0) {kk : Fin 4} {i : Nat} {x : Int64} (hd : decode cc pc = .ok (.lload_n kk, 1)) (ix : Nat) (hi : (kk : Nat) = i) (hx : lv[ix]? = some (i, .long x)) (k : J p l e R s m args below meth c nL D cs A H0 cells slots Q q σ lv (pc + 1) (.long x :: st)) : J p l e R s m args below meth c nL D cs A H0 cells slots Q q σ lv pc st := fun H locs ls hO hP hD hS hl => lv_lload_n X.1 X.2.1 hd hi (lv_at hl ix hx) (k H locs ls hO hP hD hS hl)
theorem j_lload (X : Cx p s m args c cc nL own D cs A H0) {i : Nat} {x : Int64} (hd : decode cc pc = .ok (.lload i, 2)) (ix : Nat) (hx : lv[ix]? = some (i, .long x)) (k : J p l e R s m args below meth c nL D cs A H0 cells slots Q q σ lv (pc + 2) (.long x :: st)) : J p l e R s m args below meth c nL D cs A H0 cells slots Q q σ lv pc st := fun H locs ls hO hP hD hS hl => lv_lload X.1 X.2.1 hd (lv_at hl ix hx) (k H locs ls hO hP hD hS hl)
theorem j_aload_n (X : Cx p s m args c cc nL own D cs A H0) {kk : Fin 4} {i : Nat} {x : Nat} (hd : decode cc pc = .ok (.aload_n kk, 1)) (ix : Nat) (hi : (kk : Nat) = i) (hx : lv[ix]? = some (i, .ref x)) (k : J p l e R s m args below meth c nL D cs A H0 cells slots Q q σ lv (pc + 1) (.ref x :: st)) : J p l e R s m args below meth c nL D cs A H0 cells slots Q q σ lv pc st := fun H locs ls hO hP hD hS hl => lv_aload_n X.1 X.2.1 hd hi (lv_at hl ix hx) (k H locs ls hO hP hD hS hl)
theorem j_aload (X : Cx p s m args c cc nL own D cs A H0) {i : Nat} {x : Nat} (hd : decode cc pc = .ok (.aload i, 2)) (ix : Nat) (hx : lv[ix]? = some (i, .ref x)) (k : J p l e R s m args below meth c nL D cs A H0 cells slots Q q σ lv (pc + 2) (.ref x :: st)) : J p l e R s m args below meth c nL D cs A H0 cells slots Q q σ lv pc st := fun H locs ls hO hP hD hS hl => lv_aload X.1 X.2.1 hd (lv_at hl ix hx) (k H locs ls hO hP hD hS hl)
theorem j_istore_n (X : Cx p s m args c cc nL own D cs A H0) {kk : Fin 4} {i : Nat} {x : Int32} {lv' : List (Nat × Value)} (hd : decode cc pc = .ok (.istore_n kk, 1)) (hi : (kk : Nat) = i) (hn : i < nL) (hv : (i, Value.int x) :: lv.filter (fun q => !(q.1 == i) && !(q.1 + 1 == i && q.2.category == 2)) = lv') (k : J p l e R s m args below meth c nL D cs A H0 cells slots Q q σ lv' (pc + 1) st) : J p l e R s m args below meth c nL D cs A H0 cells slots Q q σ lv pc (.int x :: st) := fun H locs ls hO hP hD hS hl => lv_istore_n X.1 X.2.1 hd hi hl hn hv (fun ls' hl' => k H locs ls' hO hP hD hS hl')
theorem j_istore (X : Cx p s m args c cc nL own D cs A H0) {i : Nat} {x : Int32} {lv' : List (Nat × Value)} (hd : decode cc pc = .ok (.istore i, 2)) (hn : i < nL) (hv : (i, Value.int x) :: lv.filter (fun q => !(q.1 == i) && !(q.1 + 1 == i && q.2.category == 2)) = lv') (k : J p l e R s m args below meth c nL D cs A H0 cells slots Q q σ lv' (pc + 2) st) : J p l e R s m args below meth c nL D cs A H0 cells slots Q q σ lv pc (.int x :: st) := fun H locs ls hO hP hD hS hl => lv_istore X.1 X.2.1 hd hl hn hv (fun ls' hl' => k H locs ls' hO hP hD hS hl')
theorem j_lstore_n (X : Cx p s m args c cc nL own D cs A H0) {kk : Fin 4} {i : Nat} {x : Int64} {lv' : List (Nat × Value)} (hd : decode cc pc = .ok (.lstore_n kk, 1)) (hi : (kk : Nat) = i) (hn : i + 1 < nL) (hv : (i, Value.long x) :: lv.filter (fun q => !(q.1 == i) && (!(q.1 == i + 1) && !(q.1 + 1 == i && q.2.category == 2))) = lv') (k : J p l e R s m args below meth c nL D cs A H0 cells slots Q q σ lv' (pc + 1) st) : J p l e R s m args below meth c nL D cs A H0 cells slots Q q σ lv pc (.long x :: st) := fun H locs ls hO hP hD hS hl => lv_lstore_n X.1 X.2.1 hd hi hl hn hv (fun ls' hl' => k H locs ls' hO hP hD hS hl')
theorem j_lstore (X : Cx p s m args c cc nL own D cs A H0) {i : Nat} {x : Int64} {lv' : List (Nat × Value)} (hd : decode cc pc = .ok (.lstore i, 2)) (hn : i + 1 < nL) (hv : (i, Value.long x) :: lv.filter (fun q => !(q.1 == i) && (!(q.1 == i + 1) && !(q.1 + 1 == i && q.2.category == 2))) = lv') (k : J p l e R s m args below meth c nL D cs A H0 cells slots Q q σ lv' (pc + 2) st) : J p l e R s m args below meth c nL D cs A H0 cells slots Q q σ lv pc (.long x :: st) := fun H locs ls hO hP hD hS hl => lv_lstore X.1 X.2.1 hd hl hn hv (fun ls' hl' => k H locs ls' hO hP hD hS hl')
theorem j_astore_n (X : Cx p s m args c cc nL own D cs A H0) {kk : Fin 4} {i : Nat} {x : Nat} {lv' : List (Nat × Value)} (hd : decode cc pc = .ok (.astore_n kk, 1)) (hi : (kk : Nat) = i) (hn : i < nL) (hv : (i, Value.ref x) :: lv.filter (fun q => !(q.1 == i) && !(q.1 + 1 == i && q.2.category == 2)) = lv') (k : J p l e R s m args below meth c nL D cs A H0 cells slots Q q σ lv' (pc + 1) st) : J p l e R s m args below meth c nL D cs A H0 cells slots Q q σ lv pc (.ref x :: st) := fun H locs ls hO hP hD hS hl => lv_astore_n X.1 X.2.1 hd hi hl hn hv (fun ls' hl' => k H locs ls' hO hP hD hS hl')
theorem j_astore (X : Cx p s m args c cc nL own D cs A H0) {i : Nat} {x : Nat} {lv' : List (Nat × Value)} (hd : decode cc pc = .ok (.astore i, 2)) (hn : i < nL) (hv : (i, Value.ref x) :: lv.filter (fun q => !(q.1 == i) && !(q.1 + 1 == i && q.2.category == 2)) = lv') (k : J p l e R s m args below meth c nL D cs A H0 cells slots Q q σ lv' (pc + 2) st) : J p l e R s m args below meth c nL D cs A H0 cells slots Q q σ lv pc (.ref x :: st) := fun H locs ls hO hP hD hS hl => lv_astore X.1 X.2.1 hd hl hn hv (fun ls' hl' => k H locs ls' hO hP hD hS hl')
theorem j_iinc (X : Cx p s m args c cc nL own D cs A H0) {i : Nat} {n : Int} {x v : Int32} {lv' : List (Nat × Value)} (hd : decode cc pc = .ok (.iinc i n, 3)) (ix : Nat) (hx : lv[ix]? = some (i, .int x)) (hv0 : x + Int32.ofInt n = v) (hn : i < nL) (hv : (i, Value.int v) :: lv.filter (fun q => !(q.1 == i) && !(q.1 + 1 == i && q.2.category == 2)) = lv') (k : J p l e R s m args below meth c nL D cs A H0 cells slots Q q σ lv' (pc + 3) st) : J p l e R s m args below meth c nL D cs A H0 cells slots Q q σ lv pc st := fun H locs ls hO hP hD hS hl => lv_iinc X.1 X.2.1 hd hl hx hv0 hn hv (fun ls' hl' => k H locs ls' hO hP hD hS hl')
theorem j_aload_nq (X : Cx p s m args c cc nL own D cs A H0) {kk : Fin 4} {i : Nat} {x : Option Nat} (hd : decode cc pc = .ok (.aload_n kk, 1)) (ix : Nat) (hi : (kk : Nat) = i) (hx : lv[ix]? = some (i, va_rf x)) (k : J p l e R s m args below meth c nL D cs A H0 cells slots Q q σ lv (pc + 1) (va_rf x :: st)) : J p l e R s m args below meth c nL D cs A H0 cells slots Q q σ lv pc st := fun H locs ls hO hP hD hS hl => by
  cases x with
  | none => exact lv_aload_nN X.1 X.2.1 hd hi (lv_at hl ix hx) (k H locs ls hO hP hD hS hl)
  | some a => exact lv_aload_n X.1 X.2.1 hd hi (lv_at hl ix hx) (k H locs ls hO hP hD hS hl)
theorem j_aloadq (X : Cx p s m args c cc nL own D cs A H0) {i : Nat} {x : Option Nat} (hd : decode cc pc = .ok (.aload i, 2)) (ix : Nat) (hx : lv[ix]? = some (i, va_rf x)) (k : J p l e R s m args below meth c nL D cs A H0 cells slots Q q σ lv (pc + 2) (va_rf x :: st)) : J p l e R s m args below meth c nL D cs A H0 cells slots Q q σ lv pc st := fun H locs ls hO hP hD hS hl => by
  cases x with
  | none => exact lv_aloadN X.1 X.2.1 hd (lv_at hl ix hx) (k H locs ls hO hP hD hS hl)
  | some a => exact lv_aload X.1 X.2.1 hd (lv_at hl ix hx) (k H locs ls hO hP hD hS hl)
theorem j_astore_nq (X : Cx p s m args c cc nL own D cs A H0) {kk : Fin 4} {i : Nat} {x : Option Nat} {lv' : List (Nat × Value)} (hd : decode cc pc = .ok (.astore_n kk, 1)) (hi : (kk : Nat) = i) (hn : i < nL) (hv : (i, va_rf x) :: lv.filter (fun q => !(q.1 == i) && !(q.1 + 1 == i && q.2.category == 2)) = lv') (k : J p l e R s m args below meth c nL D cs A H0 cells slots Q q σ lv' (pc + 1) st) : J p l e R s m args below meth c nL D cs A H0 cells slots Q q σ lv pc (va_rf x :: st) := fun H locs ls hO hP hD hS hl => by
  cases x with
  | none => exact lv_astore_nN X.1 X.2.1 hd hi hl hn hv (fun ls' hl' => k H locs ls' hO hP hD hS hl')
  | some a => exact lv_astore_n X.1 X.2.1 hd hi hl hn hv (fun ls' hl' => k H locs ls' hO hP hD hS hl')
theorem j_astoreq (X : Cx p s m args c cc nL own D cs A H0) {i : Nat} {x : Option Nat} {lv' : List (Nat × Value)} (hd : decode cc pc = .ok (.astore i, 2)) (hn : i < nL) (hv : (i, va_rf x) :: lv.filter (fun q => !(q.1 == i) && !(q.1 + 1 == i && q.2.category == 2)) = lv') (k : J p l e R s m args below meth c nL D cs A H0 cells slots Q q σ lv' (pc + 2) st) : J p l e R s m args below meth c nL D cs A H0 cells slots Q q σ lv pc (va_rf x :: st) := fun H locs ls hO hP hD hS hl => by
  cases x with
  | none => exact lv_astoreN X.1 X.2.1 hd hl hn hv (fun ls' hl' => k H locs ls' hO hP hD hS hl')
  | some a => exact lv_astore X.1 X.2.1 hd hl hn hv (fun ls' hl' => k H locs ls' hO hP hD hS hl')
theorem j_iadd (X : Cx p s m args c cc nL own D cs A H0) {x y : Int32} (hd : decode cc pc = .ok (.iadd, 1))  (k : J p l e R s m args below meth c nL D cs A H0 cells slots Q q σ lv (pc + 1) (.int (x + y) :: st)) : J p l e R s m args below meth c nL D cs A H0 cells slots Q q σ lv pc (.int y :: .int x :: st) := fun H locs ls hO hP hD hS hl => lv_iadd X.1 X.2.1 hd  (k H locs ls hO hP hD hS hl)
theorem j_isub (X : Cx p s m args c cc nL own D cs A H0) {x y : Int32} (hd : decode cc pc = .ok (.isub, 1))  (k : J p l e R s m args below meth c nL D cs A H0 cells slots Q q σ lv (pc + 1) (.int (x - y) :: st)) : J p l e R s m args below meth c nL D cs A H0 cells slots Q q σ lv pc (.int y :: .int x :: st) := fun H locs ls hO hP hD hS hl => lv_isub X.1 X.2.1 hd  (k H locs ls hO hP hD hS hl)
theorem j_imul (X : Cx p s m args c cc nL own D cs A H0) {x y : Int32} (hd : decode cc pc = .ok (.imul, 1))  (k : J p l e R s m args below meth c nL D cs A H0 cells slots Q q σ lv (pc + 1) (.int (x * y) :: st)) : J p l e R s m args below meth c nL D cs A H0 cells slots Q q σ lv pc (.int y :: .int x :: st) := fun H locs ls hO hP hD hS hl => lv_imul X.1 X.2.1 hd  (k H locs ls hO hP hD hS hl)
theorem j_iand (X : Cx p s m args c cc nL own D cs A H0) {x y : Int32} (hd : decode cc pc = .ok (.iand, 1))  (k : J p l e R s m args below meth c nL D cs A H0 cells slots Q q σ lv (pc + 1) (.int (x &&& y) :: st)) : J p l e R s m args below meth c nL D cs A H0 cells slots Q q σ lv pc (.int y :: .int x :: st) := fun H locs ls hO hP hD hS hl => lv_iand X.1 X.2.1 hd  (k H locs ls hO hP hD hS hl)
theorem j_ior (X : Cx p s m args c cc nL own D cs A H0) {x y : Int32} (hd : decode cc pc = .ok (.ior, 1))  (k : J p l e R s m args below meth c nL D cs A H0 cells slots Q q σ lv (pc + 1) (.int (x ||| y) :: st)) : J p l e R s m args below meth c nL D cs A H0 cells slots Q q σ lv pc (.int y :: .int x :: st) := fun H locs ls hO hP hD hS hl => lv_ior X.1 X.2.1 hd  (k H locs ls hO hP hD hS hl)
theorem j_ixor (X : Cx p s m args c cc nL own D cs A H0) {x y : Int32} (hd : decode cc pc = .ok (.ixor, 1))  (k : J p l e R s m args below meth c nL D cs A H0 cells slots Q q σ lv (pc + 1) (.int (x ^^^ y) :: st)) : J p l e R s m args below meth c nL D cs A H0 cells slots Q q σ lv pc (.int y :: .int x :: st) := fun H locs ls hO hP hD hS hl => lv_ixor X.1 X.2.1 hd  (k H locs ls hO hP hD hS hl)
theorem j_ishl (X : Cx p s m args c cc nL own D cs A H0) {x y : Int32} (hd : decode cc pc = .ok (.ishl, 1))  (k : J p l e R s m args below meth c nL D cs A H0 cells slots Q q σ lv (pc + 1) (.int (x <<< (y &&& 31)) :: st)) : J p l e R s m args below meth c nL D cs A H0 cells slots Q q σ lv pc (.int y :: .int x :: st) := fun H locs ls hO hP hD hS hl => lv_ishl X.1 X.2.1 hd  (k H locs ls hO hP hD hS hl)
theorem j_ishr (X : Cx p s m args c cc nL own D cs A H0) {x y : Int32} (hd : decode cc pc = .ok (.ishr, 1))  (k : J p l e R s m args below meth c nL D cs A H0 cells slots Q q σ lv (pc + 1) (.int (x >>> (y &&& 31)) :: st)) : J p l e R s m args below meth c nL D cs A H0 cells slots Q q σ lv pc (.int y :: .int x :: st) := fun H locs ls hO hP hD hS hl => lv_ishr X.1 X.2.1 hd  (k H locs ls hO hP hD hS hl)
theorem j_idiv (X : Cx p s m args c cc nL own D cs A H0) {x y : Int32} (hd : decode cc pc = .ok (.idiv, 1)) (hne : ¬ y = 0) (k : J p l e R s m args below meth c nL D cs A H0 cells slots Q q σ lv (pc + 1) (.int (x / y) :: st)) : J p l e R s m args below meth c nL D cs A H0 cells slots Q q σ lv pc (.int y :: .int x :: st) := fun H locs ls hO hP hD hS hl => lv_idiv X.1 X.2.1 hd hne (k H locs ls hO hP hD hS hl)
theorem j_irem (X : Cx p s m args c cc nL own D cs A H0) {x y : Int32} (hd : decode cc pc = .ok (.irem, 1)) (hne : ¬ y = 0) (k : J p l e R s m args below meth c nL D cs A H0 cells slots Q q σ lv (pc + 1) (.int (x - x / y * y) :: st)) : J p l e R s m args below meth c nL D cs A H0 cells slots Q q σ lv pc (.int y :: .int x :: st) := fun H locs ls hO hP hD hS hl => lv_irem X.1 X.2.1 hd hne (k H locs ls hO hP hD hS hl)
theorem j_ladd (X : Cx p s m args c cc nL own D cs A H0) {x y : Int64} (hd : decode cc pc = .ok (.ladd, 1))  (k : J p l e R s m args below meth c nL D cs A H0 cells slots Q q σ lv (pc + 1) (.long (x + y) :: st)) : J p l e R s m args below meth c nL D cs A H0 cells slots Q q σ lv pc (.long y :: .long x :: st) := fun H locs ls hO hP hD hS hl => lv_ladd X.1 X.2.1 hd  (k H locs ls hO hP hD hS hl)
theorem j_lsub (X : Cx p s m args c cc nL own D cs A H0) {x y : Int64} (hd : decode cc pc = .ok (.lsub, 1))  (k : J p l e R s m args below meth c nL D cs A H0 cells slots Q q σ lv (pc + 1) (.long (x - y) :: st)) : J p l e R s m args below meth c nL D cs A H0 cells slots Q q σ lv pc (.long y :: .long x :: st) := fun H locs ls hO hP hD hS hl => lv_lsub X.1 X.2.1 hd  (k H locs ls hO hP hD hS hl)
theorem j_lmul (X : Cx p s m args c cc nL own D cs A H0) {x y : Int64} (hd : decode cc pc = .ok (.lmul, 1))  (k : J p l e R s m args below meth c nL D cs A H0 cells slots Q q σ lv (pc + 1) (.long (x * y) :: st)) : J p l e R s m args below meth c nL D cs A H0 cells slots Q q σ lv pc (.long y :: .long x :: st) := fun H locs ls hO hP hD hS hl => lv_lmul X.1 X.2.1 hd  (k H locs ls hO hP hD hS hl)
theorem j_land (X : Cx p s m args c cc nL own D cs A H0) {x y : Int64} (hd : decode cc pc = .ok (.land, 1))  (k : J p l e R s m args below meth c nL D cs A H0 cells slots Q q σ lv (pc + 1) (.long (x &&& y) :: st)) : J p l e R s m args below meth c nL D cs A H0 cells slots Q q σ lv pc (.long y :: .long x :: st) := fun H locs ls hO hP hD hS hl => lv_land X.1 X.2.1 hd  (k H locs ls hO hP hD hS hl)
theorem j_lor (X : Cx p s m args c cc nL own D cs A H0) {x y : Int64} (hd : decode cc pc = .ok (.lor, 1))  (k : J p l e R s m args below meth c nL D cs A H0 cells slots Q q σ lv (pc + 1) (.long (x ||| y) :: st)) : J p l e R s m args below meth c nL D cs A H0 cells slots Q q σ lv pc (.long y :: .long x :: st) := fun H locs ls hO hP hD hS hl => lv_lor X.1 X.2.1 hd  (k H locs ls hO hP hD hS hl)
theorem j_ldiv (X : Cx p s m args c cc nL own D cs A H0) {x y : Int64} (hd : decode cc pc = .ok (.ldiv, 1)) (hne : ¬ y = 0) (k : J p l e R s m args below meth c nL D cs A H0 cells slots Q q σ lv (pc + 1) (.long (x / y) :: st)) : J p l e R s m args below meth c nL D cs A H0 cells slots Q q σ lv pc (.long y :: .long x :: st) := fun H locs ls hO hP hD hS hl => lv_ldiv X.1 X.2.1 hd hne (k H locs ls hO hP hD hS hl)
theorem j_lrem (X : Cx p s m args c cc nL own D cs A H0) {x y : Int64} (hd : decode cc pc = .ok (.lrem, 1)) (hne : ¬ y = 0) (k : J p l e R s m args below meth c nL D cs A H0 cells slots Q q σ lv (pc + 1) (.long (x - x / y * y) :: st)) : J p l e R s m args below meth c nL D cs A H0 cells slots Q q σ lv pc (.long y :: .long x :: st) := fun H locs ls hO hP hD hS hl => lv_lrem X.1 X.2.1 hd hne (k H locs ls hO hP hD hS hl)
theorem j_ineg (X : Cx p s m args c cc nL own D cs A H0) {x : Int32} (hd : decode cc pc = .ok (.ineg, 1))  (k : J p l e R s m args below meth c nL D cs A H0 cells slots Q q σ lv (pc + 1) (.int (-x) :: st)) : J p l e R s m args below meth c nL D cs A H0 cells slots Q q σ lv pc (.int x :: st) := fun H locs ls hO hP hD hS hl => lv_ineg X.1 X.2.1 hd  (k H locs ls hO hP hD hS hl)
theorem j_lneg (X : Cx p s m args c cc nL own D cs A H0) {x : Int64} (hd : decode cc pc = .ok (.lneg, 1))  (k : J p l e R s m args below meth c nL D cs A H0 cells slots Q q σ lv (pc + 1) (.long (-x) :: st)) : J p l e R s m args below meth c nL D cs A H0 cells slots Q q σ lv pc (.long x :: st) := fun H locs ls hO hP hD hS hl => lv_lneg X.1 X.2.1 hd  (k H locs ls hO hP hD hS hl)
theorem j_i2l (X : Cx p s m args c cc nL own D cs A H0) {x : Int32} (hd : decode cc pc = .ok (.i2l, 1))  (k : J p l e R s m args below meth c nL D cs A H0 cells slots Q q σ lv (pc + 1) (.long x.toInt64 :: st)) : J p l e R s m args below meth c nL D cs A H0 cells slots Q q σ lv pc (.int x :: st) := fun H locs ls hO hP hD hS hl => lv_i2l X.1 X.2.1 hd rfl (k H locs ls hO hP hD hS hl)
theorem j_l2i (X : Cx p s m args c cc nL own D cs A H0) {x : Int64} (hd : decode cc pc = .ok (.l2i, 1))  (k : J p l e R s m args below meth c nL D cs A H0 cells slots Q q σ lv (pc + 1) (.int x.toInt32 :: st)) : J p l e R s m args below meth c nL D cs A H0 cells slots Q q σ lv pc (.long x :: st) := fun H locs ls hO hP hD hS hl => lv_l2i X.1 X.2.1 hd rfl (k H locs ls hO hP hD hS hl)
theorem j_lshl (X : Cx p s m args c cc nL own D cs A H0) {x : Int64} {y : Int32} (hd : decode cc pc = .ok (.lshl, 1))  (k : J p l e R s m args below meth c nL D cs A H0 cells slots Q q σ lv (pc + 1) (.long (x <<< (y.toInt64 &&& 63)) :: st)) : J p l e R s m args below meth c nL D cs A H0 cells slots Q q σ lv pc (.int y :: .long x :: st) := fun H locs ls hO hP hD hS hl => lv_lshl X.1 X.2.1 hd rfl (k H locs ls hO hP hD hS hl)
theorem j_lcmp (X : Cx p s m args c cc nL own D cs A H0) {x y : Int64} (hd : decode cc pc = .ok (.lcmp, 1))  (k : J p l e R s m args below meth c nL D cs A H0 cells slots Q q σ lv (pc + 1) (.int (lg_cmp x y) :: st)) : J p l e R s m args below meth c nL D cs A H0 cells slots Q q σ lv pc (.long y :: .long x :: st) := fun H locs ls hO hP hD hS hl => W.lcmp X.1 X.2.1 hd  (k H locs ls hO hP hD hS hl)
theorem j_dup (X : Cx p s m args c cc nL own D cs A H0) {va : Value} (hd : decode cc pc = .ok (.dup, 1)) (hva : va.category = 1) (k : J p l e R s m args below meth c nL D cs A H0 cells slots Q q σ lv (pc + 1) (va :: va :: st)) : J p l e R s m args below meth c nL D cs A H0 cells slots Q q σ lv pc (va :: st) := fun H locs ls hO hP hD hS hl => lv_dup X.1 X.2.1 hd hva (k H locs ls hO hP hD hS hl)
theorem j_dup2 (X : Cx p s m args c cc nL own D cs A H0) {va vb : Value} (hd : decode cc pc = .ok (.dup2, 1)) (hva : va.category = 1) (hvb : vb.category = 1) (k : J p l e R s m args below meth c nL D cs A H0 cells slots Q q σ lv (pc + 1) (va :: vb :: va :: vb :: st)) : J p l e R s m args below meth c nL D cs A H0 cells slots Q q σ lv pc (va :: vb :: st) := fun H locs ls hO hP hD hS hl => lv_dup2_11 X.1 X.2.1 hd hva hvb (k H locs ls hO hP hD hS hl)
theorem j_pop (X : Cx p s m args c cc nL own D cs A H0) {va : Value} (hd : decode cc pc = .ok (.pop, 1)) (hva : va.category = 1) (k : J p l e R s m args below meth c nL D cs A H0 cells slots Q q σ lv (pc + 1) (st)) : J p l e R s m args below meth c nL D cs A H0 cells slots Q q σ lv pc (va :: st) := fun H locs ls hO hP hD hS hl => lv_pop X.1 X.2.1 hd hva (k H locs ls hO hP hD hS hl)
theorem j_pop2 (X : Cx p s m args c cc nL own D cs A H0) {va : Value} (hd : decode cc pc = .ok (.pop2, 1)) (hva : va.category = 2) (k : J p l e R s m args below meth c nL D cs A H0 cells slots Q q σ lv (pc + 1) (st)) : J p l e R s m args below meth c nL D cs A H0 cells slots Q q σ lv pc (va :: st) := fun H locs ls hO hP hD hS hl => lv_pop2_2 X.1 X.2.1 hd hva (k H locs ls hO hP hD hS hl)
theorem j_null (X : Cx p s m args c cc nL own D cs A H0)  (hd : decode cc pc = .ok (.aconst_null, 1))  (k : J p l e R s m args below meth c nL D cs A H0 cells slots Q q σ lv (pc + 1) (.null :: st)) : J p l e R s m args below meth c nL D cs A H0 cells slots Q q σ lv pc (st) := fun H locs ls hO hP hD hS hl => lv_null X.1 X.2.1 hd  (k H locs ls hO hP hD hS hl)
theorem j_goto (X : Cx p s m args c cc nL own D cs A H0) {off : Int} {tgt : Nat} (hd : decode cc pc = .ok (.goto off, 3)) (ht : (pc : Int) + off = (tgt : Int)) (k : J p l e R s m args below meth c nL D cs A H0 cells slots Q q σ lv tgt st) : J p l e R s m args below meth c nL D cs A H0 cells slots Q q σ lv pc st := fun H locs ls hO hP hD hS hl => lv_goto X.1 X.2.1 hd ht (k H locs ls hO hP hD hS hl)
theorem j_if_eq (X : Cx p s m args c cc nL own D cs A H0) {x : Int32} {off : Int} {tgt : Nat} (hd : decode cc pc = .ok (.ifCond .eq off, 3)) (ht : (pc : Int) + off = (tgt : Int)) (kt : x = 0 → J p l e R s m args below meth c nL D cs A H0 cells slots Q q σ lv tgt st) (kf : ¬ x = 0 → J p l e R s m args below meth c nL D cs A H0 cells slots Q q σ lv (pc + 3) st) : J p l e R s m args below meth c nL D cs A H0 cells slots Q q σ lv pc (.int x :: st) := fun H locs ls hO hP hD hS hl => lv_if_eq X.1 X.2.1 hd ht (fun z => kt z H locs ls hO hP hD hS hl) (fun z => kf z H locs ls hO hP hD hS hl)
theorem j_icmp_eq (X : Cx p s m args c cc nL own D cs A H0) {x y : Int32} {off : Int} {tgt : Nat} (hd : decode cc pc = .ok (.if_icmp .eq off, 3)) (ht : (pc : Int) + off = (tgt : Int)) (kt : x = y → J p l e R s m args below meth c nL D cs A H0 cells slots Q q σ lv tgt st) (kf : ¬ x = y → J p l e R s m args below meth c nL D cs A H0 cells slots Q q σ lv (pc + 3) st) : J p l e R s m args below meth c nL D cs A H0 cells slots Q q σ lv pc (.int y :: .int x :: st) := fun H locs ls hO hP hD hS hl => lv_icmp_eq X.1 X.2.1 hd ht (fun z => kt z H locs ls hO hP hD hS hl) (fun z => kf z H locs ls hO hP hD hS hl)
theorem j_if_ne (X : Cx p s m args c cc nL own D cs A H0) {x : Int32} {off : Int} {tgt : Nat} (hd : decode cc pc = .ok (.ifCond .ne off, 3)) (ht : (pc : Int) + off = (tgt : Int)) (kt : ¬ x = 0 → J p l e R s m args below meth c nL D cs A H0 cells slots Q q σ lv tgt st) (kf : x = 0 → J p l e R s m args below meth c nL D cs A H0 cells slots Q q σ lv (pc + 3) st) : J p l e R s m args below meth c nL D cs A H0 cells slots Q q σ lv pc (.int x :: st) := fun H locs ls hO hP hD hS hl => lv_if_ne X.1 X.2.1 hd ht (fun z => kt z H locs ls hO hP hD hS hl) (fun z => kf z H locs ls hO hP hD hS hl)
theorem j_icmp_ne (X : Cx p s m args c cc nL own D cs A H0) {x y : Int32} {off : Int} {tgt : Nat} (hd : decode cc pc = .ok (.if_icmp .ne off, 3)) (ht : (pc : Int) + off = (tgt : Int)) (kt : ¬ x = y → J p l e R s m args below meth c nL D cs A H0 cells slots Q q σ lv tgt st) (kf : x = y → J p l e R s m args below meth c nL D cs A H0 cells slots Q q σ lv (pc + 3) st) : J p l e R s m args below meth c nL D cs A H0 cells slots Q q σ lv pc (.int y :: .int x :: st) := fun H locs ls hO hP hD hS hl => lv_icmp_ne X.1 X.2.1 hd ht (fun z => kt z H locs ls hO hP hD hS hl) (fun z => kf z H locs ls hO hP hD hS hl)
theorem j_if_lt (X : Cx p s m args c cc nL own D cs A H0) {x : Int32} {off : Int} {tgt : Nat} (hd : decode cc pc = .ok (.ifCond .lt off, 3)) (ht : (pc : Int) + off = (tgt : Int)) (kt : x < 0 → J p l e R s m args below meth c nL D cs A H0 cells slots Q q σ lv tgt st) (kf : ¬ x < 0 → J p l e R s m args below meth c nL D cs A H0 cells slots Q q σ lv (pc + 3) st) : J p l e R s m args below meth c nL D cs A H0 cells slots Q q σ lv pc (.int x :: st) := fun H locs ls hO hP hD hS hl => lv_if_lt X.1 X.2.1 hd ht (fun z => kt z H locs ls hO hP hD hS hl) (fun z => kf z H locs ls hO hP hD hS hl)
theorem j_icmp_lt (X : Cx p s m args c cc nL own D cs A H0) {x y : Int32} {off : Int} {tgt : Nat} (hd : decode cc pc = .ok (.if_icmp .lt off, 3)) (ht : (pc : Int) + off = (tgt : Int)) (kt : x < y → J p l e R s m args below meth c nL D cs A H0 cells slots Q q σ lv tgt st) (kf : ¬ x < y → J p l e R s m args below meth c nL D cs A H0 cells slots Q q σ lv (pc + 3) st) : J p l e R s m args below meth c nL D cs A H0 cells slots Q q σ lv pc (.int y :: .int x :: st) := fun H locs ls hO hP hD hS hl => lv_icmp_lt X.1 X.2.1 hd ht (fun z => kt z H locs ls hO hP hD hS hl) (fun z => kf z H locs ls hO hP hD hS hl)
theorem j_if_ge (X : Cx p s m args c cc nL own D cs A H0) {x : Int32} {off : Int} {tgt : Nat} (hd : decode cc pc = .ok (.ifCond .ge off, 3)) (ht : (pc : Int) + off = (tgt : Int)) (kt : 0 ≤ x → J p l e R s m args below meth c nL D cs A H0 cells slots Q q σ lv tgt st) (kf : ¬ 0 ≤ x → J p l e R s m args below meth c nL D cs A H0 cells slots Q q σ lv (pc + 3) st) : J p l e R s m args below meth c nL D cs A H0 cells slots Q q σ lv pc (.int x :: st) := fun H locs ls hO hP hD hS hl => lv_if_ge X.1 X.2.1 hd ht (fun z => kt z H locs ls hO hP hD hS hl) (fun z => kf z H locs ls hO hP hD hS hl)
theorem j_icmp_ge (X : Cx p s m args c cc nL own D cs A H0) {x y : Int32} {off : Int} {tgt : Nat} (hd : decode cc pc = .ok (.if_icmp .ge off, 3)) (ht : (pc : Int) + off = (tgt : Int)) (kt : y ≤ x → J p l e R s m args below meth c nL D cs A H0 cells slots Q q σ lv tgt st) (kf : ¬ y ≤ x → J p l e R s m args below meth c nL D cs A H0 cells slots Q q σ lv (pc + 3) st) : J p l e R s m args below meth c nL D cs A H0 cells slots Q q σ lv pc (.int y :: .int x :: st) := fun H locs ls hO hP hD hS hl => lv_icmp_ge X.1 X.2.1 hd ht (fun z => kt z H locs ls hO hP hD hS hl) (fun z => kf z H locs ls hO hP hD hS hl)
theorem j_if_gt (X : Cx p s m args c cc nL own D cs A H0) {x : Int32} {off : Int} {tgt : Nat} (hd : decode cc pc = .ok (.ifCond .gt off, 3)) (ht : (pc : Int) + off = (tgt : Int)) (kt : 0 < x → J p l e R s m args below meth c nL D cs A H0 cells slots Q q σ lv tgt st) (kf : ¬ 0 < x → J p l e R s m args below meth c nL D cs A H0 cells slots Q q σ lv (pc + 3) st) : J p l e R s m args below meth c nL D cs A H0 cells slots Q q σ lv pc (.int x :: st) := fun H locs ls hO hP hD hS hl => lv_if_gt X.1 X.2.1 hd ht (fun z => kt z H locs ls hO hP hD hS hl) (fun z => kf z H locs ls hO hP hD hS hl)
theorem j_icmp_gt (X : Cx p s m args c cc nL own D cs A H0) {x y : Int32} {off : Int} {tgt : Nat} (hd : decode cc pc = .ok (.if_icmp .gt off, 3)) (ht : (pc : Int) + off = (tgt : Int)) (kt : y < x → J p l e R s m args below meth c nL D cs A H0 cells slots Q q σ lv tgt st) (kf : ¬ y < x → J p l e R s m args below meth c nL D cs A H0 cells slots Q q σ lv (pc + 3) st) : J p l e R s m args below meth c nL D cs A H0 cells slots Q q σ lv pc (.int y :: .int x :: st) := fun H locs ls hO hP hD hS hl => lv_icmp_gt X.1 X.2.1 hd ht (fun z => kt z H locs ls hO hP hD hS hl) (fun z => kf z H locs ls hO hP hD hS hl)
theorem j_if_le (X : Cx p s m args c cc nL own D cs A H0) {x : Int32} {off : Int} {tgt : Nat} (hd : decode cc pc = .ok (.ifCond .le off, 3)) (ht : (pc : Int) + off = (tgt : Int)) (kt : x ≤ 0 → J p l e R s m args below meth c nL D cs A H0 cells slots Q q σ lv tgt st) (kf : ¬ x ≤ 0 → J p l e R s m args below meth c nL D cs A H0 cells slots Q q σ lv (pc + 3) st) : J p l e R s m args below meth c nL D cs A H0 cells slots Q q σ lv pc (.int x :: st) := fun H locs ls hO hP hD hS hl => lv_if_le X.1 X.2.1 hd ht (fun z => kt z H locs ls hO hP hD hS hl) (fun z => kf z H locs ls hO hP hD hS hl)
theorem j_icmp_le (X : Cx p s m args c cc nL own D cs A H0) {x y : Int32} {off : Int} {tgt : Nat} (hd : decode cc pc = .ok (.if_icmp .le off, 3)) (ht : (pc : Int) + off = (tgt : Int)) (kt : x ≤ y → J p l e R s m args below meth c nL D cs A H0 cells slots Q q σ lv tgt st) (kf : ¬ x ≤ y → J p l e R s m args below meth c nL D cs A H0 cells slots Q q σ lv (pc + 3) st) : J p l e R s m args below meth c nL D cs A H0 cells slots Q q σ lv pc (.int y :: .int x :: st) := fun H locs ls hO hP hD hS hl => lv_icmp_le X.1 X.2.1 hd ht (fun z => kt z H locs ls hO hP hD hS hl) (fun z => kf z H locs ls hO hP hD hS hl)
theorem j_ifnull (X : Cx p s m args c cc nL own D cs A H0) {o : Option Nat} {off : Int} {tgt : Nat} (hd : decode cc pc = .ok (.ifnull off, 3)) (ht : (pc : Int) + off = (tgt : Int)) (k1 : o = none → J p l e R s m args below meth c nL D cs A H0 cells slots Q q σ lv tgt st) (k2 : ∀ i, o = some i → J p l e R s m args below meth c nL D cs A H0 cells slots Q q σ lv (pc + 3) st) : J p l e R s m args below meth c nL D cs A H0 cells slots Q q σ lv pc (va_rf (o.map q) :: st) := fun H locs ls hO hP hD hS hl => by
  cases o with
  | none => exact lv_ifnullN X.1 X.2.1 hd ht (k1 rfl H locs ls hO hP hD hS hl)
  | some i => exact lv_ifnull X.1 X.2.1 hd (k2 i rfl H locs ls hO hP hD hS hl)
theorem j_ifnonnull (X : Cx p s m args c cc nL own D cs A H0) {o : Option Nat} {off : Int} {tgt : Nat} (hd : decode cc pc = .ok (.ifnonnull off, 3)) (ht : (pc : Int) + off = (tgt : Int)) (k1 : o = none → J p l e R s m args below meth c nL D cs A H0 cells slots Q q σ lv (pc + 3) st) (k2 : ∀ i, o = some i → J p l e R s m args below meth c nL D cs A H0 cells slots Q q σ lv tgt st) : J p l e R s m args below meth c nL D cs A H0 cells slots Q q σ lv pc (va_rf (o.map q) :: st) := fun H locs ls hO hP hD hS hl => by
  cases o with
  | none => exact lv_ifnonnullN X.1 X.2.1 hd (k1 rfl H locs ls hO hP hD hS hl)
  | some i => exact lv_ifnonnull X.1 X.2.1 hd ht (k2 i rfl H locs ls hO hP hD hS hl)
theorem j_nmi {x : Int32} (k : ∀ y : Int32, y = x → J p l e R s m args below meth c nL D cs A H0 cells slots Q q σ lv pc (.int y :: st)) : J p l e R s m args below meth c nL D cs A H0 cells slots Q q σ lv pc (.int x :: st) := k x rfl
theorem j_nml {x : Int64} (k : ∀ y : Int64, y = x → J p l e R s m args below meth c nL D cs A H0 cells slots Q q σ lv pc (.long y :: st)) : J p l e R s m args below meth c nL D cs A H0 cells slots Q q σ lv pc (.long x :: st) := k x rfl
theorem j_ldc (X : Cx p s m args c cc nL own D cs A H0) {i : Nat} {v : Int32} (hw : Cond.constant own i v ∈ lw_g) (hd : decode cc pc = .ok (.ldc i, 2)) (k : J p l e R s m args below meth c nL D cs A H0 cells slots Q q σ lv (pc + 2) (.int v :: st)) : J p l e R s m args below meth c nL D cs A H0 cells slots Q q σ lv pc st := fun H locs ls hO hP hD hS hl => lv_ldc X.1 X.2.1 X.2.2.2.1 (X.2.2.2.2.1 _ hw) hd (k H locs ls hO hP hD hS hl)
theorem j_ldcw (X : Cx p s m args c cc nL own D cs A H0) {i : Nat} {v : Int32} (hw : Cond.constant own i v ∈ lw_g) (hd : decode cc pc = .ok (.ldc_w i, 3)) (k : J p l e R s m args below meth c nL D cs A H0 cells slots Q q σ lv (pc + 3) (.int v :: st)) : J p l e R s m args below meth c nL D cs A H0 cells slots Q q σ lv pc st := fun H locs ls hO hP hD hS hl => lv_ldcw X.1 X.2.1 X.2.2.2.1 (X.2.2.2.2.1 _ hw) hd (k H locs ls hO hP hD hS hl)
theorem j_ldc2 (X : Cx p s m args c cc nL own D cs A H0) {i : Nat} {v : Int64} (hw : Cond.constantLong own i v ∈ lw_g) (hd : decode cc pc = .ok (.ldc2_w i, 3)) (k : J p l e R s m args below meth c nL D cs A H0 cells slots Q q σ lv (pc + 3) (.long v :: st)) : J p l e R s m args below meth c nL D cs A H0 cells slots Q q σ lv pc st := fun H locs ls hO hP hD hS hl => lv_ldc2 X.1 X.2.1 X.2.2.2.1 (X.2.2.2.2.1 _ hw) hd (k H locs ls hO hP hD hS hl)
theorem j_tabOut (X : Cx p s m args c cc nL own D cs A H0) {dflt lo hi : Int} {offs : Array Int} {len : Nat} {x : Int32} {tgt : Nat} (hd : decode cc pc = .ok (.tableswitch dflt lo hi offs, len)) (h : x.toInt < lo ∨ hi < x.toInt) (ht : (pc : Int) + dflt = (tgt : Int)) (k : J p l e R s m args below meth c nL D cs A H0 cells slots Q q σ lv tgt st) : J p l e R s m args below meth c nL D cs A H0 cells slots Q q σ lv pc (.int x :: st) := fun H locs ls hO hP hD hS hl => lv_tableOut X.1 X.2.1 hd h ht (k H locs ls hO hP hD hS hl)
theorem j_tabIn (X : Cx p s m args c cc nL own D cs A H0) {dflt lo hi : Int} {offs : Array Int} {len : Nat} {x v : Int32} {off : Int} {tgt : Nat} (hd : decode cc pc = .ok (.tableswitch dflt lo hi offs, len)) (hx : x = v) (h1 : ¬ v.toInt < lo) (h2 : ¬ hi < v.toInt) (ho : offs[(v.toInt - lo).toNat]? = some off) (ht : (pc : Int) + off = (tgt : Int)) (k : J p l e R s m args below meth c nL D cs A H0 cells slots Q q σ lv tgt st) : J p l e R s m args below meth c nL D cs A H0 cells slots Q q σ lv pc (.int x :: st) := fun H locs ls hO hP hD hS hl => by
  subst hx
  exact lv_tableIn X.1 X.2.1 hd h1 h2 ho ht (k H locs ls hO hP hD hS hl)
theorem j_lookup (X : Cx p s m args c cc nL own D cs A H0) {dflt : Int} {ps : Array (Int × Int)} {len : Nat} {x : Int32} {off : Int} {tgt : Nat} (hd : decode cc pc = .ok (.lookupswitch dflt ps, len)) (hp : (ps.toList.zip (ps.toList.drop 1)).all (fun (a, next) => a.1 < next.1) = true) (ho : Op.lookupswitch.offset ps.toList dflt x.toInt = off) (ht : (pc : Int) + off = (tgt : Int)) (k : J p l e R s m args below meth c nL D cs A H0 cells slots Q q σ lv tgt st) : J p l e R s m args below meth c nL D cs A H0 cells slots Q q σ lv pc (.int x :: st) := fun H locs ls hO hP hD hS hl => lv_lookup X.1 X.2.1 hd hp ho ht (k H locs ls hO hP hD hS hl)
/-- a field: read in class own by entry 'index' of its pool, place k of class t, of kind d -/
def FD (own : String) (index t k d : Nat) : Prop := ∃ (C : String) (T : u_T) (N : Nat), classes[t]? = some (C, T, N) ∧ k < N ∧ (fk t)[k]? = some d ∧ t < 10 ∧ (∀ w ∈ u_ws C T N, w ∈ lw_g) ∧ Cond.fieldLink own index C (T k).2.1 (T k).2.2.1 ∈ lw_g ∧ (T k).1 = C
/-- .. and written, of type ty, final or not -/
def FP (own : String) (index t k d : Nat) (ty : FieldType) (fin : Bool) : Prop := ∃ (C : String) (T : u_T) (N : Nat) (ty0 : Nat → FieldType), classes[t]? = some (C, T, N) ∧ k < N ∧ (fk t)[k]? = some d ∧ t < 10 ∧ (∀ w ∈ u_ws C T N, w ∈ lw_g) ∧ Cond.fieldLink own index C (T k).2.1 (T k).2.2.1 ∈ lw_g ∧ (T k).1 = C ∧ (∀ k, k < N → parseFieldDescriptor (T k).2.2.1 = some (ty0 k)) ∧ (∀ a, a < N → ∀ b, b < N → a ≠ b → (T a).2.1 ≠ (T b).2.1) ∧ (T k).2.2.2 = fin ∧ parseFieldDescriptor (T k).2.2.1 = some ty ∧ k < (fk t).length
theorem j_geti (X : Cx p s m args c cc nL own D cs A H0) {index t k j : Nat} (F : FD own index t k 0) (h : isO σ t j) (hd : decode cc pc = .ok (.getfield index, 3)) (kk : ∀ v : Int32, v = hA σ j k → J p l e R s m args below meth c nL D cs A H0 cells slots Q q σ lv (pc + 3) (.int v :: st)) : J p l e R s m args below meth c nL D cs A H0 cells slots Q q σ lv pc (.ref (q j) :: st) := fun H locs ls hO hP hD hS hl => by
  obtain ⟨C, T, N, hc, hk, hf, h10, hin, hlk, hT⟩ := F
  exact va_get X.1 X.2.1 X.2.2.2.2.1 hin X.2.2.2.1 X.2.2.2.2.2.1 hP j (by rw [hW_get h.1, hE_o h.2 h10]) hc k hk (X.2.2.2.2.1 _ hlk) (fun x hx => by rw [hT] at hx; exact hx) (v := .int (hA σ j k)) (by rw [hF_get hf]; rfl) hd (kk _ rfl H locs ls hO hP hD hS hl)
theorem j_getl (X : Cx p s m args c cc nL own D cs A H0) {index t k j : Nat} (F : FD own index t k 1) (h : isO σ t j) (hd : decode cc pc = .ok (.getfield index, 3)) (kk : ∀ v : Int64, v = hB σ j k → J p l e R s m args below meth c nL D cs A H0 cells slots Q q σ lv (pc + 3) (.long v :: st)) : J p l e R s m args below meth c nL D cs A H0 cells slots Q q σ lv pc (.ref (q j) :: st) := fun H locs ls hO hP hD hS hl => by
  obtain ⟨C, T, N, hc, hk, hf, h10, hin, hlk, hT⟩ := F
  exact va_get X.1 X.2.1 X.2.2.2.2.1 hin X.2.2.2.1 X.2.2.2.2.2.1 hP j (by rw [hW_get h.1, hE_o h.2 h10]) hc k hk (X.2.2.2.2.1 _ hlk) (fun x hx => by rw [hT] at hx; exact hx) (v := .long (hB σ j k)) (by rw [hF_get hf]; rfl) hd (kk _ rfl H locs ls hO hP hD hS hl)
theorem j_getr (X : Cx p s m args c cc nL own D cs A H0) {index t k j i : Nat} (F : FD own index t k 2) (h : isO σ t j) (hi : hR σ j k = some i) (hd : decode cc pc = .ok (.getfield index, 3)) (kk : J p l e R s m args below meth c nL D cs A H0 cells slots Q q σ lv (pc + 3) (.ref (q i) :: st)) : J p l e R s m args below meth c nL D cs A H0 cells slots Q q σ lv pc (.ref (q j) :: st) := fun H locs ls hO hP hD hS hl => by
  obtain ⟨C, T, N, hc, hk, hf, h10, hin, hlk, hT⟩ := F
  exact va_get X.1 X.2.1 X.2.2.2.2.1 hin X.2.2.2.1 X.2.2.2.2.2.1 hP j (by rw [hW_get h.1, hE_o h.2 h10]) hc k hk (X.2.2.2.2.1 _ hlk) (fun x hx => by rw [hT] at hx; exact hx) (v := .ref (q i)) (by rw [hF_get hf, hi]; rfl) hd (kk H locs ls hO hP hD hS hl)
theorem hE_sA {cs : Nat → ClassId} {q : Nat → Nat} {σ : HS} {j k : Nat} {v : Int32} : ∀ i, i ≠ j → hE cs q (sA σ j k v) i = hE cs q σ i := fun i h => hE_cong rfl rfl (up2_ne h) rfl rfl
theorem hE_sB {cs : Nat → ClassId} {q : Nat → Nat} {σ : HS} {j k : Nat} {v : Int64} : ∀ i, i ≠ j → hE cs q (sB σ j k v) i = hE cs q σ i := fun i h => hE_cong rfl rfl rfl (up2_ne h) rfl
theorem hE_sR {cs : Nat → ClassId} {q : Nat → Nat} {σ : HS} {j k : Nat} {v : Option Nat} : ∀ i, i ≠ j → hE cs q (sR σ j k v) i = hE cs q σ i := fun i h => hE_cong rfl rfl rfl rfl (up2_ne h)
theorem hE_rA {cs : Nat → ClassId} {q : Nat → Nat} {σ : HS} {j : Nat} {g : Nat → Int32} : ∀ i, i ≠ j → hE cs q (rA σ j g) i = hE cs q σ i := fun i h => hE_cong rfl rfl (upr_ne h) rfl rfl
theorem hOK_sR {σ : HS} {j k : Nat} {o : Option Nat} (h : hOK σ) (ho : ∀ i, o = some i → i < hN σ) : hOK (sR σ j k o) := by
  intro a b i hi
  by_cases z : a = j ∧ b = k
  · have h0 : hR (sR σ j k o) a b = o := if_pos z
    exact ho i (h0.symm.trans hi)
  · have h0 : hR (sR σ j k o) a b = hR σ a b := if_neg z
    exact h a b i (h0.symm.trans hi)
theorem up2_k {α : Type} {f : Nat → Nat → α} {j k i : Nat} {v : α} (h : i ≠ k) : up2 f j k v j i = f j i := if_neg (fun z => h z.2)
theorem j_puti (X : Cx p s m args c cc nL own D cs A H0) {index t k j : Nat} {v : Int32} (F : FP own index t k 0 .int false) (h : isO σ t j)  (hd : decode cc pc = .ok (.putfield index, 3)) (kk : ∀ σ' : HS, σ' = sA σ j k v → J p l e R s m args below meth c nL D cs A H0 cells slots Q q σ' lv (pc + 3) st) : J p l e R s m args below meth c nL D cs A H0 cells slots Q q σ lv pc (Value.int v :: .ref (q j) :: st) := fun H locs ls hO hP hD hS hl => by
  obtain ⟨C, T, N, ty0, hc, hk, hf, h10, hin, hlk, hT, hty0, hnm, hfin, hd0, hlen⟩ := F
  refine va_put X.1 X.2.1 X.2.2.2.2.1 hin ty0 hty0 hnm X.2.2.2.1 X.2.2.2.2.2.1 hP hD hS j (by rw [hW_get h.1, hE_o h.2 h10]) hc k hk (X.2.2.2.2.1 _ hlk) (fun x hx => by rw [hT] at hx; exact hx) hfin  hd0 rfl rfl (by rw [hF_len]; exact hlen) hd (fun H1 locs1 hP1 hD1 hS1 => ?_)
  have e0 : (hWl cs q σ).set j (q j, .inr (t, (hF q σ j (fk t)).set k (Value.int v))) = hWl cs q (sA σ j k v) := hW_set rfl ((hE_o (σ := sA σ j k v) h.2 h10).trans (congrArg (fun z => (Sum.inr (t, z) : va_E)) (hF_set (σ := σ) (σ' := sA σ j k v) hf (by rw [if_pos rfl]; exact congrArg Value.int (up2_s _ _ _ _)) (fun i hi => ⟨up2_k hi, rfl, rfl⟩)).symm)) hE_sA
  rw [e0] at hP1 hD1
  exact kk _ rfl H1 locs1 ls hO hP1 hD1 hS1 hl
theorem j_putz (X : Cx p s m args c cc nL own D cs A H0) {index t k j : Nat} {v : Int32} (F : FP own index t k 0 .boolean false) (h : isO σ t j) (hb : bit v) (hd : decode cc pc = .ok (.putfield index, 3)) (kk : ∀ σ' : HS, σ' = sA σ j k v → J p l e R s m args below meth c nL D cs A H0 cells slots Q q σ' lv (pc + 3) st) : J p l e R s m args below meth c nL D cs A H0 cells slots Q q σ lv pc (Value.int v :: .ref (q j) :: st) := fun H locs ls hO hP hD hS hl => by
  obtain ⟨C, T, N, ty0, hc, hk, hf, h10, hin, hlk, hT, hty0, hnm, hfin, hd0, hlen⟩ := F
  refine va_put X.1 X.2.1 X.2.2.2.2.1 hin ty0 hty0 hnm X.2.2.2.1 X.2.2.2.2.2.1 hP hD hS j (by rw [hW_get h.1, hE_o h.2 h10]) hc k hk (X.2.2.2.2.1 _ hlk) (fun x hx => by rw [hT] at hx; exact hx) hfin  hd0 (by rcases hb with rfl | rfl <;> rfl) (by rcases hb with rfl | rfl <;> rfl) (by rw [hF_len]; exact hlen) hd (fun H1 locs1 hP1 hD1 hS1 => ?_)
  have e0 : (hWl cs q σ).set j (q j, .inr (t, (hF q σ j (fk t)).set k (Value.int v))) = hWl cs q (sA σ j k v) := hW_set rfl ((hE_o (σ := sA σ j k v) h.2 h10).trans (congrArg (fun z => (Sum.inr (t, z) : va_E)) (hF_set (σ := σ) (σ' := sA σ j k v) hf (by rw [if_pos rfl]; exact congrArg Value.int (up2_s _ _ _ _)) (fun i hi => ⟨up2_k hi, rfl, rfl⟩)).symm)) hE_sA
  rw [e0] at hP1 hD1
  exact kk _ rfl H1 locs1 ls hO hP1 hD1 hS1 hl
theorem j_putl (X : Cx p s m args c cc nL own D cs A H0) {index t k j : Nat} {v : Int64} (F : FP own index t k 1 .long false) (h : isO σ t j)  (hd : decode cc pc = .ok (.putfield index, 3)) (kk : ∀ σ' : HS, σ' = sB σ j k v → J p l e R s m args below meth c nL D cs A H0 cells slots Q q σ' lv (pc + 3) st) : J p l e R s m args below meth c nL D cs A H0 cells slots Q q σ lv pc (Value.long v :: .ref (q j) :: st) := fun H locs ls hO hP hD hS hl => by
  obtain ⟨C, T, N, ty0, hc, hk, hf, h10, hin, hlk, hT, hty0, hnm, hfin, hd0, hlen⟩ := F
  refine va_put X.1 X.2.1 X.2.2.2.2.1 hin ty0 hty0 hnm X.2.2.2.1 X.2.2.2.2.2.1 hP hD hS j (by rw [hW_get h.1, hE_o h.2 h10]) hc k hk (X.2.2.2.2.1 _ hlk) (fun x hx => by rw [hT] at hx; exact hx) hfin  hd0 rfl rfl (by rw [hF_len]; exact hlen) hd (fun H1 locs1 hP1 hD1 hS1 => ?_)
  have e0 : (hWl cs q σ).set j (q j, .inr (t, (hF q σ j (fk t)).set k (Value.long v))) = hWl cs q (sB σ j k v) := hW_set rfl ((hE_o (σ := sB σ j k v) h.2 h10).trans (congrArg (fun z => (Sum.inr (t, z) : va_E)) (hF_set (σ := σ) (σ' := sB σ j k v) hf (by rw [if_neg (by decide), if_pos rfl]; exact congrArg Value.long (up2_s _ _ _ _)) (fun i hi => ⟨rfl, up2_k hi, rfl⟩)).symm)) hE_sB
  rw [e0] at hP1 hD1
  exact kk _ rfl H1 locs1 ls hO hP1 hD1 hS1 hl
theorem j_putiF (X : Cx p s m args c cc nL own D cs A H0) {index t k j : Nat} {v : Int32} (F : FP own index t k 0 .int true) (h : isO σ t j) (hin2 : meth.name = "<init>") (hown : (classes.getD t (RX0, TX0, 0)).1 = own) (hd : decode cc pc = .ok (.putfield index, 3)) (kk : ∀ σ' : HS, σ' = sA σ j k v → J p l e R s m args below meth c nL D cs A H0 cells slots Q q σ' lv (pc + 3) st) : J p l e R s m args below meth c nL D cs A H0 cells slots Q q σ lv pc (Value.int v :: .ref (q j) :: st) := fun H locs ls hO hP hD hS hl => by
  obtain ⟨C, T, N, ty0, hc, hk, hf, h10, hin, hlk, hT, hty0, hnm, hfin, hd0, hlen⟩ := F
  refine va_putF X.1 X.2.1 X.2.2.2.2.1 hin ty0 hty0 hnm X.2.2.2.1 X.2.2.2.2.2.1 hP hD hS j (by rw [hW_get h.1, hE_o h.2 h10]) hc k hk (X.2.2.2.2.1 _ hlk) (fun x hx => by rw [hT] at hx; exact hx) hfin hin2 (by rw [hT, ← hown, List.getD_eq_getElem?_getD, hc]; rfl) hd0 rfl rfl (by rw [hF_len]; exact hlen) hd (fun H1 locs1 hP1 hD1 hS1 => ?_)
  have e0 : (hWl cs q σ).set j (q j, .inr (t, (hF q σ j (fk t)).set k (Value.int v))) = hWl cs q (sA σ j k v) := hW_set rfl ((hE_o (σ := sA σ j k v) h.2 h10).trans (congrArg (fun z => (Sum.inr (t, z) : va_E)) (hF_set (σ := σ) (σ' := sA σ j k v) hf (by rw [if_pos rfl]; exact congrArg Value.int (up2_s _ _ _ _)) (fun i hi => ⟨up2_k hi, rfl, rfl⟩)).symm)) hE_sA
  rw [e0] at hP1 hD1
  exact kk _ rfl H1 locs1 ls hO hP1 hD1 hS1 hl
theorem j_putrF (X : Cx p s m args c cc nL own D cs A H0) {index t k j : Nat} {i : Nat} {ty : FieldType} (F : FP own index t k 2 ty true) (h : isO σ t j) (hiN : i < hN σ) (hty : ty.isReference = true) (hin2 : meth.name = "<init>") (hown : (classes.getD t (RX0, TX0, 0)).1 = own) (hd : decode cc pc = .ok (.putfield index, 3)) (kk : ∀ σ' : HS, σ' = sR σ j k (some i) → J p l e R s m args below meth c nL D cs A H0 cells slots Q q σ' lv (pc + 3) st) : J p l e R s m args below meth c nL D cs A H0 cells slots Q q σ lv pc (Value.ref (q i) :: .ref (q j) :: st) := fun H locs ls hO hP hD hS hl => by
  obtain ⟨C, T, N, ty0, hc, hk, hf, h10, hin, hlk, hT, hty0, hnm, hfin, hd0, hlen⟩ := F
  refine va_putF X.1 X.2.1 X.2.2.2.2.1 hin ty0 hty0 hnm X.2.2.2.1 X.2.2.2.2.2.1 hP hD hS j (by rw [hW_get h.1, hE_o h.2 h10]) hc k hk (X.2.2.2.2.1 _ hlk) (fun x hx => by rw [hT] at hx; exact hx) hfin hin2 (by rw [hT, ← hown, List.getD_eq_getElem?_getD, hc]; rfl) hd0 (by cases ty <;> first | rfl | cases hty) (by cases ty <;> first | rfl | cases hty) (by rw [hF_len]; exact hlen) hd (fun H1 locs1 hP1 hD1 hS1 => ?_)
  have e0 : (hWl cs q σ).set j (q j, .inr (t, (hF q σ j (fk t)).set k (Value.ref (q i)))) = hWl cs q (sR σ j k (some i)) := hW_set rfl ((hE_o (σ := sR σ j k (some i)) h.2 h10).trans (congrArg (fun z => (Sum.inr (t, z) : va_E)) (hF_set (σ := σ) (σ' := sR σ j k (some i)) hf (by rw [if_neg (by decide), if_neg (by decide)]; exact congrArg (fun z => va_rf (Option.map q z)) (up2_s _ _ _ _)) (fun i hi => ⟨rfl, rfl, up2_k hi⟩)).symm)) hE_sR
  rw [e0] at hP1 hD1
  exact kk _ rfl H1 locs1 ls (hOK_sR hO (fun z hz => by cases hz; exact hiN)) hP1 hD1 hS1 hl
theorem j_iald (X : Cx p s m args c cc nL own D cs A H0) {j : Nat} {i : Int32} (h : isO σ 10 j ∧ inb i (hlen σ j)) (hd : decode cc pc = .ok (.iaload, 1)) (kk : ∀ v : Int32, v = hA σ j i.toNatClampNeg → J p l e R s m args below meth c nL D cs A H0 cells slots Q q σ lv (pc + 1) (.int v :: st)) : J p l e R s m args below meth c nL D cs A H0 cells slots Q q σ lv pc (.int i :: .ref (q j) :: st) := fun H locs ls hO hP hD hS hl =>
  va_iald X.1 X.2.1 X.2.2.2.2.2.1 hP j 0 (by rw [hW_get h.1.1, hE_i h.1.2]) rfl h.2 hd (kk _ rfl H locs ls hO hP hD hS hl)
theorem j_zald (X : Cx p s m args c cc nL own D cs A H0) {j : Nat} {i : Int32} (h : isO σ 11 j ∧ inb i (hlen σ j)) (hd : decode cc pc = .ok (.baload, 1)) (kk : ∀ v : Int32, v = hA σ j i.toNatClampNeg → J p l e R s m args below meth c nL D cs A H0 cells slots Q q σ lv (pc + 1) (.int v :: st)) : J p l e R s m args below meth c nL D cs A H0 cells slots Q q σ lv pc (.int i :: .ref (q j) :: st) := fun H locs ls hO hP hD hS hl =>
  va_zald X.1 X.2.1 X.2.2.2.2.2.1 hP j 1 (by rw [hW_get h.1.1, hE_z h.1.2]) rfl h.2 hd (kk _ rfl H locs ls hO hP hD hS hl)
theorem j_lald (X : Cx p s m args c cc nL own D cs A H0) {j : Nat} {i : Int32} (h : isO σ 12 j ∧ inb i (hlen σ j)) (hd : decode cc pc = .ok (.laload, 1)) (kk : ∀ v : Int64, v = hB σ j i.toNatClampNeg → J p l e R s m args below meth c nL D cs A H0 cells slots Q q σ lv (pc + 1) (.long v :: st)) : J p l e R s m args below meth c nL D cs A H0 cells slots Q q σ lv pc (.int i :: .ref (q j) :: st) := fun H locs ls hO hP hD hS hl =>
  va_lald X.1 X.2.1 X.2.2.2.2.2.1 hP j 2 (by rw [hW_get h.1.1, hE_l h.1.2]) rfl h.2 hd (kk _ rfl H locs ls hO hP hD hS hl)
theorem upd_row (f : Nat → Nat → Int32) (j k : Nat) (v : Int32) : upd (f j) k v = up2 f j k v j := by rw [up2_row]; rfl
theorem updL_row (f : Nat → Nat → Int64) (j k : Nat) (v : Int64) : vp_updL (f j) k v = up2 f j k v j := by rw [up2_row]; rfl
theorem j_iast (X : Cx p s m args c cc nL own D cs A H0) {j : Nat} {i : Int32} {v : Int32} (h : isO σ 10 j ∧ inb i (hlen σ j))  (hd : decode cc pc = .ok (.iastore, 1)) (kk : ∀ σ' : HS, σ' = sA σ j i.toNatClampNeg v → J p l e R s m args below meth c nL D cs A H0 cells slots Q q σ' lv (pc + 1) st) : J p l e R s m args below meth c nL D cs A H0 cells slots Q q σ lv pc (.int v :: .int i :: .ref (q j) :: st) := fun H locs ls hO hP hD hS hl => by
  refine va_iast X.1 X.2.1 X.2.2.2.2.2.1 hP hD hS j 0 (by rw [hW_get h.1.1, hE_i h.1.2]) rfl h.2 hd (fun H1 locs1 hP1 hD1 hS1 => ?_)
  have e0 : (hWl cs q σ).set j (q j, .inl (cs 0, hlen σ j, .inl (upd (hA σ j) i.toNatClampNeg v))) = hWl cs q (sA σ j i.toNatClampNeg v) := hW_set rfl (by rw [hE_i (σ := sA σ j i.toNatClampNeg v) h.1.2]; exact congrArg (fun z => (Sum.inl (cs 0, hlen σ j, .inl z) : va_E)) (upd_row σ.2.2.2.1 j i.toNatClampNeg v).symm) hE_sA
  rw [e0] at hP1 hD1
  exact kk _ rfl H1 locs1 ls hO hP1 hD1 hS1 hl
theorem j_zast (X : Cx p s m args c cc nL own D cs A H0) {j : Nat} {i : Int32} {v : Int32} (h : isO σ 11 j ∧ inb i (hlen σ j)) (hb : bit v) (hd : decode cc pc = .ok (.bastore, 1)) (kk : ∀ σ' : HS, σ' = sA σ j i.toNatClampNeg v → J p l e R s m args below meth c nL D cs A H0 cells slots Q q σ' lv (pc + 1) st) : J p l e R s m args below meth c nL D cs A H0 cells slots Q q σ lv pc (.int v :: .int i :: .ref (q j) :: st) := fun H locs ls hO hP hD hS hl => by
  have hvn : vp_nar .boolean v = v := by rcases hb with rfl | rfl <;> rfl
  refine va_zast X.1 X.2.1 X.2.2.2.2.2.1 hP hD hS j 1 (by rw [hW_get h.1.1, hE_z h.1.2]) rfl h.2 hd (fun H1 locs1 hP1 hD1 hS1 => ?_)
  rw [hvn] at hP1 hD1
  have e0 : (hWl cs q σ).set j (q j, .inl (cs 1, hlen σ j, .inl (upd (hA σ j) i.toNatClampNeg v))) = hWl cs q (sA σ j i.toNatClampNeg v) := hW_set rfl (by rw [hE_z (σ := sA σ j i.toNatClampNeg v) h.1.2]; exact congrArg (fun z => (Sum.inl (cs 1, hlen σ j, .inl z) : va_E)) (upd_row σ.2.2.2.1 j i.toNatClampNeg v).symm) hE_sA
  rw [e0] at hP1 hD1
  exact kk _ rfl H1 locs1 ls hO hP1 hD1 hS1 hl
theorem j_last (X : Cx p s m args c cc nL own D cs A H0) {j : Nat} {i : Int32} {v : Int64} (h : isO σ 12 j ∧ inb i (hlen σ j))  (hd : decode cc pc = .ok (.lastore, 1)) (kk : ∀ σ' : HS, σ' = sB σ j i.toNatClampNeg v → J p l e R s m args below meth c nL D cs A H0 cells slots Q q σ' lv (pc + 1) st) : J p l e R s m args below meth c nL D cs A H0 cells slots Q q σ lv pc (.long v :: .int i :: .ref (q j) :: st) := fun H locs ls hO hP hD hS hl => by
  refine va_last X.1 X.2.1 X.2.2.2.2.2.1 hP hD hS j 2 (by rw [hW_get h.1.1, hE_l h.1.2]) rfl h.2 hd (fun H1 locs1 hP1 hD1 hS1 => ?_)
  have e0 : (hWl cs q σ).set j (q j, .inl (cs 2, hlen σ j, .inr (.inl (vp_updL (hB σ j) i.toNatClampNeg v)))) = hWl cs q (sB σ j i.toNatClampNeg v) := hW_set rfl (by rw [hE_l (σ := sB σ j i.toNatClampNeg v) h.1.2]; exact congrArg (fun z => (Sum.inl (cs 2, hlen σ j, .inr (.inl z)) : va_E)) (updL_row σ.2.2.2.2.1 j i.toNatClampNeg v).symm) hE_sB
  rw [e0] at hP1 hD1
  exact kk _ rfl H1 locs1 ls hO hP1 hD1 hS1 hl
theorem j_alen (X : Cx p s m args c cc nL own D cs A H0) {j t : Nat} (ht : t = 10 ∨ t = 12) (h : isO σ t j) (hd : decode cc pc = .ok (.arraylength, 1)) (kk : ∀ v : Int32, v = Int32.ofNat (hlen σ j) → J p l e R s m args below meth c nL D cs A H0 cells slots Q q σ lv (pc + 1) (.int v :: st)) : J p l e R s m args below meth c nL D cs A H0 cells slots Q q σ lv pc (.ref (q j) :: st) := fun H locs ls hO hP hD hS hl => by
  rcases ht with rfl | rfl
  · exact va_alen X.1 X.2.1 X.2.2.2.2.2.1 hP j 0 (by rw [hW_get h.1, hE_i h.2]) rfl (v := Int32.ofNat (hlen σ j)) rfl hd (kk _ rfl H locs ls hO hP hD hS hl)
  · exact va_alen X.1 X.2.1 X.2.2.2.2.2.1 hP j 2 (by rw [hW_get h.1, hE_l h.2]) rfl (v := Int32.ofNat (hlen σ j)) rfl hd (kk _ rfl H locs ls hO hP hD hS hl)
theorem j_aald (X : Cx p s m args c cc nL own D cs A H0) {j : Nat} {i : Int32} (h : isO σ 13 j ∧ inb i (hlen σ j)) (hd : decode cc pc = .ok (.aaload, 1)) (kk : ∀ o : Option Nat, o = hR σ j i.toNatClampNeg → J p l e R s m args below meth c nL D cs A H0 cells slots Q q σ lv (pc + 1) (va_rf (o.map q) :: st)) : J p l e R s m args below meth c nL D cs A H0 cells slots Q q σ lv pc (.int i :: .ref (q j) :: st) := fun H locs ls hO hP hD hS hl =>
  va_aldq X.1 X.2.1 X.2.2.2.2.2.1 hP j 3 (by rw [hW_get h.1.1, hE_q h.1.2]) rfl h.2 hd (kk _ rfl H locs ls hO hP hD hS hl)
theorem j_aaldR (X : Cx p s m args c cc nL own D cs A H0) {j : Nat} {i : Int32} (h : isO σ 14 j ∧ inb i (hlen σ j)) (hd : decode cc pc = .ok (.aaload, 1)) (kk : ∀ o : Option Nat, o = hR σ j i.toNatClampNeg → J p l e R s m args below meth c nL D cs A H0 cells slots Q q σ lv (pc + 1) (va_rf (o.map q) :: st)) : J p l e R s m args below meth c nL D cs A H0 cells slots Q q σ lv pc (.int i :: .ref (q j) :: st) := fun H locs ls hO hP hD hS hl => by
  have hlt : i.toNatClampNeg < hlen σ j := Nat.not_le.mp fun z => h.2 (Or.inr z)
  have ha : (hWl cs q σ)[j]? = some (q j, .inl (cs 4, hlen σ j, .inr (.inr (.inr (.inr (fun k => (hR σ j k).map q)))))) := by rw [hW_get h.1.1, hE_r h.1.2]
  exact W.aald (v := va_rf ((hR σ j i.toNatClampNeg).map q)) (ty := .array .long) X.1 X.2.1 (hP j _ ha) ((X.2.2.2.2.2.1.2 4 (cs 4, .array .long) rfl).1 (hlen σ j) (fun k => va_rf ((hR σ j k).map q))) rfl (fun z => by cases z) (by show ¬ (i < 0 ∨ (arrV _ _ _).slots.size ≤ _); rw [arrV_size]; exact h.2) (by show (arrV _ _ _).slots[_]? = _; rw [arrV_read _ _ hlt]) rfl rfl hd (kk _ rfl H locs ls hO hP hD hS hl)
end HR
end
section
theorem tst1 : Cond.methodLink "SpanKeeper" 5 ⟨"java/lang/Object", "<init>", "()V"⟩ ∈ lw_g := gw 69 rfl rfl
set_option maxRecDepth 100000 in
theorem tst2 : Cond.code yX6_count cX6_count 2 (some .int) ∈ lw_g := gw 1091 rfl rfl
theorem tst3 : Cond.constantLong "SpanKeeperModel" 306 (3 : Int64) ∈ lw_g := gw 1064 (by decide +kernel) rfl
theorem gG : GoodIn lw_g lw_g := fun w hw => ⟨hw, good_of_word (List.mem_filter.mp hw).2⟩
theorem gGc {y : MethodName} {bytes : ByteArray} {maxL : Nat} {ret : Option FieldType} (h : Cond.code y bytes maxL ret ∈ lw_g) : GoodIn lw_g (Cond.code y bytes maxL ret :: lw_g) := fun w hw => by
  rcases List.mem_cons.mp hw with e | e
  · rw [e]; exact gG _ h
  · exact gG w e
/-- what a call needs to know of a method -/
def MK (y : MethodName) (bytes : ByteArray) (maxL : Nat) (ret : Option FieldType) (n : Nat) : Prop := Cond.code y bytes maxL ret ∈ lw_g ∧ Cond.initialized y.cls ∈ lw_g ∧ (y.cls ≠ "java/lang/invoke/MethodHandle" ∧ y.cls ≠ "java/lang/invoke/VarHandle" ∧ (parseMethodDescriptor y.desc).map (fun d => d.parameters.length) = some n)
def MV (y : MethodName) : Prop := Cond.instanceMethod y ∈ lw_g ∧ Cond.selects y.cls y y ∈ lw_g
theorem va_AOA_moved {t : FieldType} {u U : State} (hvm : u.vm.Alike U.vm) (h : va_Nw (.arrayOver (.array t)) u) : va_Nw (.arrayOver (.array t)) U := by
  obtain ⟨comp, c, k, h1, h2, h3, h4, h5⟩ := arrayOverA_spec (args := #[]) (first := u) (o := none) (idx := []) h
  obtain ⟨k', hk', he⟩ := hvm.2.2 _ _ h3
  have f1 : U.vm.findClass (FieldType.array t).toString = some comp := by rw [hvm.findClass]; exact h1
  have hi : (U.vm.classes.findIdx? fun x => match x.kind with | .array component _ => component == comp | _ => false) = some c := by
    rw [hvm.findIdx?_eq _ (fun _ => rfl)]; exact h2
  have hkind : k'.kind = .array comp (.array t) := by rw [he]; exact h4
  have f2 : U.vm.findClass ("[" ++ (FieldType.array t).toString) = some c := by rw [hvm.findClass]; exact h5
  unfold va_Nw Cond.before Cond.holds
  simp only [Cond.value]
  rw [f1, Option.bind_some]
  refine (congrArg (fun o : Option Nat => (o.bind (fun c => (U.vm.classes[c]?).map fun (k : Class) => match k.kind with | .array _ ty => decide (ty = FieldType.array t) && decide (U.vm.findClass ("[" ++ (FieldType.array t).toString) = some c) | _ => false) == some true)) hi).trans ?_
  simp [hk', hkind, f2]
theorem hBad_warm {s U : State} (hW : s.WarmedH U.vm) (h : hBad s) : hBad U := by
  intro w hw
  simp only [lw_bad, List.mem_cons, List.mem_nil_iff, or_false] at hw
  rcases hw with e | e | e | e | e
  · rw [e]; exact va_Nw.warmM hW (h _ (by rw [← e]; simp [lw_bad, e]))
  · rw [e]; exact va_Nw.warmM hW (h _ (by rw [← e]; simp [lw_bad, e]))
  · rw [e]; exact va_Nw.warmC hW (h _ (by rw [← e]; simp [lw_bad, e]))
  · rw [e]; exact va_AO.moved hW.alike (h _ (by rw [← e]; simp [lw_bad, e]))
  · rw [e]; exact va_AOA_moved hW.alike (h _ (by rw [← e]; simp [lw_bad, e]))
theorem hBad_vm {s U : State} (hv : s.vm = U.vm) (h : hBad s) : hBad U := by
  have hal : s.vm.Alike U.vm := by rw [hv]; exact Vm.Alike.refl _
  intro w hw
  simp only [lw_bad, List.mem_cons, List.mem_nil_iff, or_false] at hw
  rcases hw with e | e | e | e | e
  · rw [e]; exact va_tabs rfl hv (h _ (by rw [← e]; simp [lw_bad, e]))
  · rw [e]; exact va_tabs rfl hv (h _ (by rw [← e]; simp [lw_bad, e]))
  · rw [e]; exact va_tabs rfl hv (h _ (by rw [← e]; simp [lw_bad, e]))
  · rw [e]; exact va_AO.moved hal (h _ (by rw [← e]; simp [lw_bad, e]))
  · rw [e]; exact va_AOA_moved hal (h _ (by rw [← e]; simp [lw_bad, e]))
theorem hPre_blind {D : va_G} {cs : Nat → ClassId} {q : Nat → Nat} {σ : HS} {sz : Nat} {av : List Value} : FrameBlind (va_Pc av (hPre D cs q σ sz)) := fun a U g mk z => by
  obtain ⟨q0, q1, qB, qO, qP, qK, qD⟩ := z
  exact ⟨q0, q1, hBad_vm (s := U) (U := U.calling g mk a) rfl qB, qO, qP, va_K.moved (u := U) (U := U.calling g mk a) (Vm.Alike.refl U.vm) qK, qD⟩
section HCC
variable {p : Program} {l : Launch} {e : Env} {R : Room} {s : State} {m : MethodId} {args : Array Value} {below : List Frame} {meth : Method} {c : Code} {nL : Nat} {D : va_G} {cs : Nat → ClassId} {A : Nat → Prop} {H0 : Heap} {cells slots : Nat} {Q : State → Prop} {q : Nat → Nat} {σ : HS} {lv : List (Nat × Value)} {pc : Nat} {st : List Value} {cc : ByteArray} {own : String}
theorem callB_w (hts : ∀ w ∈ lw_g, w.before args s = true) {y : MethodName} {bytes : ByteArray} {maxL n index mc ms : Nat} {ret : Option FieldType} {rm : Room} (M : MK y bytes maxL ret n) (hlk : Cond.methodLink own index y ∈ lw_g) (hrm : rm.cells = mc ∧ rm.slots = ms) (hR : rm.frames + 1 ≤ R.frames ∧ 8 + (maxL + 11) + rm.locals ≤ R.locals) :
    CallB R s args own index y bytes maxL ret (Cond.code y bytes maxL ret :: lw_g) rm mc ms n :=
  callB_of n hts (gGc M.1) rfl hrm.1 hrm.2 (hts _ M.2.1) (hts _ hlk) M.2.2 hR
theorem j_run (X : Cx p s m args c cc nL own D cs A H0) {mc ms : Nat} {K : (Nat → Nat) → Prop} {rv : (Nat → Nat) → Option Value} {σ0 : HS} {a : Array Value} {rest st0 : List Value} {st' : (Nat → Nat) → List Value} {H : Heap} {locs : List Loc} {ls : Array Slot} (hD : va_D A (hWl cs q σ)) (hS : va_S A H0 H locs) (hl : lv_has ls nL lv)
    (hr : va_Run p l e R s m args below meth c H locs cells slots mc ms (F0 m pc ls st0) rest (hQ D cs K rv σ0 (va_A (hWl cs q σ) H.size) a) (va_A (hWl cs q σ) H.size)) (hst' : ∀ q' : Nat → Nat, (rv q').toList ++ rest = st' q')
    (kk : ∀ q' : Nat → Nat, K q' → J p l e R s m args below meth c nL D cs A H0 (cells + mc) (slots + ms) Q q' σ0 lv (pc + 3) (st' q')) : W p l e R s m args below meth c H locs cells slots Q (F0 m pc ls st0) := by
  intro T hT Xs
  obtain ⟨v, st₀, t, T', L, h0, X', hL, e1, e2, ⟨⟨q', hv, hK, hO1, hP1, hK1, hD1⟩, hz, hk⟩, stp⟩ := hr T hT Xs
  cases hv
  have hA : ∀ x : Nat, va_A (hWl cs q σ) H.size x → A x := fun x hx => by
    rcases hx with ⟨k, e, h⟩ | h
    · exact hD.2 k _ h
    · exact X.2.2.2.2.2.2.1 x (Nat.le_trans hS.1 h)
  rw [h0] at hz hk
  have k1 := kk q' hK T'.heap (locs ++ L) ls hO1 (by rw [e1]; exact hP1) (hD1.weaken (fun k x _ h => hA _ h)) ⟨Nat.le_trans hS.1 (by rw [e1]; exact hz), fun x h1 h2 => by rw [e1, hk x (Nat.lt_of_lt_of_le h1 hS.1) (fun z => h2 (hA x z))]; exact hS.2.1 x h1 h2, fun x hx => by
      rcases List.mem_append.mp hx with h | h
      · exact hS.2.2 x h
      · exact hA _ (hL x h)⟩ hl
  rw [← hst' q'] at k1
  obtain ⟨t2, a1, b1⟩ := k1 T' rfl X'
  exact ⟨t2, stp t2 a1, b1⟩
theorem j_callV (X : Cx p s m args c cc nL own D cs A H0) {y : MethodName} {bytes : ByteArray} {maxL n index t j mc ms : Nat} {ret : Option FieldType} {rm : Room} {As rest : List Value} {K : (Nat → Nat) → Prop} {rv : (Nat → Nat) → Option Value} {σ0 : HS} (hM : MT l y (Cond.code y bytes maxL ret :: lw_g) rm D cs q σ σ0 (.ref (q j) :: As) K rv mc ms) (M : MK y bytes maxL ret n) (M2 : MV y) (hlk : Cond.methodLink own index y ∈ lw_g) (h : isO σ t j) (hc : (classes[t]?).map (fun r => r.1) = some y.cls) (h10 : t < 10) (hrm : rm.cells = mc ∧ rm.slots = ms) (hR : rm.frames + 1 ≤ R.frames ∧ 8 + (maxL + 11) + rm.locals ≤ R.locals) (hn : As.length = n) (hcat : (rest.map fun v => v.category).sum ≤ 8) (hcs : cells + mc ≤ R.cells ∧ slots + ms ≤ R.slots) (hd : decode cc pc = .ok (.invokevirtual index, 3)) (hst : st = As.reverse ++ .ref (q j) :: rest) (st' : (Nat → Nat) → List Value) (hst' : ∀ q' : Nat → Nat, (rv q').toList ++ rest = st' q') (kk : ∀ q' : Nat → Nat, K q' → J p l e R s m args below meth c nL D cs A H0 (cells + mc) (slots + ms) Q q' σ0 lv (pc + 3) (st' q')) : J p l e R s m args below meth c nL D cs A H0 cells slots Q q σ lv pc st := fun H locs ls hO hP hD hS hl => by
  subst hst
  obtain ⟨r, hr1, hr2⟩ : ∃ r : vw_C, classes[t]? = some r ∧ r.1 = y.cls := by
    cases hz : classes[t]? with
    | none => rw [hz] at hc; cases hc
    | some r => rw [hz] at hc; exact ⟨r, rfl, Option.some.inj hc⟩
  have hrecv := va_recv X.2.2.2.2.2.1 hP hr1 (q0 := j) (a := q j) (fs := hF q σ j (fk t)) (by rw [hW_get h.1, hE_o h.2 h10])
  rw [hr2] at hrecv
  have cw : CallW R s args own y.cls index y bytes maxL ret (Cond.code y bytes maxL ret :: lw_g) rm mc ms n := ⟨callB_w X.2.2.2.2.1 M hlk hrm hR, X.2.2.2.2.1 _ M2.1, X.2.2.2.2.1 _ M2.2⟩
  exact j_run X hD hS hl (va_runV (As := As) (rest := rest) ⟨X.1, X.2.1, X.2.2.1, X.2.2.2.1, X.2.2.2.2.1⟩ (hM H.size) cw ⟨hPre_blind, hrecv, fun U hU hW => ⟨rfl, by rw [hU], hBad_warm hW X.2.2.2.2.2.2.2, hO, by rw [hU]; exact hP, va_K.moved hW.alike X.2.2.2.2.2.1, hD.weaken (fun _ _ _ _ => trivial)⟩⟩ rfl hn hl.1 rfl (lv_room hcat) hd hcs) hst' kk
theorem j_callS (X : Cx p s m args c cc nL own D cs A H0) {y : MethodName} {bytes : ByteArray} {maxL n index mc ms : Nat} {ret : Option FieldType} {rm : Room} {As rest : List Value} {K : (Nat → Nat) → Prop} {rv : (Nat → Nat) → Option Value} {σ0 : HS} (hM : MT l y (Cond.code y bytes maxL ret :: lw_g) rm D cs q σ σ0 As K rv mc ms) (M : MK y bytes maxL ret n) (M2 : Cond.static y ∈ lw_g) (hlk : Cond.methodLink own index y ∈ lw_g) (hrm : rm.cells = mc ∧ rm.slots = ms) (hR : rm.frames + 1 ≤ R.frames ∧ 8 + (maxL + 11) + rm.locals ≤ R.locals) (hn : As.length = n) (hcat : (rest.map fun v => v.category).sum ≤ 8) (hcs : cells + mc ≤ R.cells ∧ slots + ms ≤ R.slots) (hd : decode cc pc = .ok (.invokestatic index, 3)) (hst : st = As.reverse ++ rest) (st' : (Nat → Nat) → List Value) (hst' : ∀ q' : Nat → Nat, (rv q').toList ++ rest = st' q') (kk : ∀ q' : Nat → Nat, K q' → J p l e R s m args below meth c nL D cs A H0 (cells + mc) (slots + ms) Q q' σ0 lv (pc + 3) (st' q')) : J p l e R s m args below meth c nL D cs A H0 cells slots Q q σ lv pc st := fun H locs ls hO hP hD hS hl => by
  subst hst
  exact j_run X hD hS hl (va_runS (As := As) (rest := rest) ⟨X.1, X.2.1, X.2.2.1, X.2.2.2.1, X.2.2.2.2.1⟩ (hM H.size) ⟨callB_w X.2.2.2.2.1 M hlk hrm hR, X.2.2.2.2.1 _ M2⟩ ⟨hPre_blind, fun U hU hW => ⟨rfl, by rw [hU], hBad_warm hW X.2.2.2.2.2.2.2, hO, by rw [hU]; exact hP, va_K.moved hW.alike X.2.2.2.2.2.1, hD.weaken (fun _ _ _ _ => trivial)⟩⟩ rfl hn hl.1 rfl (lv_room hcat) hd hcs) hst' kk
theorem j_callI (X : Cx p s m args c cc nL own D cs A H0) {y : MethodName} {bytes : ByteArray} {maxL n index j mc ms : Nat} {rm : Room} {As rest : List Value} {K : (Nat → Nat) → Prop} {rv : (Nat → Nat) → Option Value} {σ0 : HS} (hM : MT l y (Cond.code y bytes maxL none :: lw_g) rm D cs q σ σ0 (.ref (q j) :: As) K rv mc ms) (M : MK y bytes maxL none n) (M2 : y.name = "<init>" ∧ Cond.instanceMethod y ∈ lw_g) (hlk : Cond.methodLink own index y ∈ lw_g) (hrm : rm.cells = mc ∧ rm.slots = ms) (hR : rm.frames + 1 ≤ R.frames ∧ 8 + (maxL + 11) + rm.locals ≤ R.locals) (hn : As.length = n) (hcat : (rest.map fun v => v.category).sum ≤ 8) (hcs : cells + mc ≤ R.cells ∧ slots + ms ≤ R.slots) (hd : decode cc pc = .ok (.invokespecial index, 3)) (hst : st = As.reverse ++ .ref (q j) :: rest) (st' : (Nat → Nat) → List Value) (hst' : ∀ q' : Nat → Nat, (rv q').toList ++ rest = st' q') (kk : ∀ q' : Nat → Nat, K q' → J p l e R s m args below meth c nL D cs A H0 (cells + mc) (slots + ms) Q q' σ0 lv (pc + 3) (st' q')) : J p l e R s m args below meth c nL D cs A H0 cells slots Q q σ lv pc st := fun H locs ls hO hP hD hS hl => by
  subst hst
  exact j_run X hD hS hl (va_runI (As := As) (rest := rest) ⟨X.1, X.2.1, X.2.2.1, X.2.2.2.1, X.2.2.2.2.1⟩ (hM H.size) ⟨callB_w X.2.2.2.2.1 M hlk hrm hR, M2.1, X.2.2.2.2.1 _ M2.2⟩ ⟨hPre_blind, fun U hU hW => ⟨rfl, by rw [hU], hBad_warm hW X.2.2.2.2.2.2.2, hO, by rw [hU]; exact hP, va_K.moved hW.alike X.2.2.2.2.2.1, hD.weaken (fun _ _ _ _ => trivial)⟩⟩ rfl hn hl.1 rfl (lv_room hcat) hd hcs) hst' kk
theorem j_callIN (X : Cx p s m args c cc nL own D cs A H0) {y : MethodName} {bytes : ByteArray} {maxL n index j mc ms : Nat} {rm : Room} {As rest : List Value} {K : (Nat → Nat) → Prop} {rv : (Nat → Nat) → Option Value} {σ0 : HS} {host : String} (hM : MT l y (Cond.code y bytes maxL none :: lw_g) rm D cs q σ σ0 (.ref (q j) :: As) K rv mc ms) (M : MK y bytes maxL none n) (M2 : y.name = "<init>" ∧ Cond.instanceMethod y ∈ lw_g) (hlk : Cond.methodLinkNest own index y host ∈ lw_g) (hrm : rm.cells = mc ∧ rm.slots = ms) (hR : rm.frames + 1 ≤ R.frames ∧ 8 + (maxL + 11) + rm.locals ≤ R.locals) (hn : As.length = n) (hcat : (rest.map fun v => v.category).sum ≤ 8) (hcs : cells + mc ≤ R.cells ∧ slots + ms ≤ R.slots) (hd : decode cc pc = .ok (.invokespecial index, 3)) (hst : st = As.reverse ++ .ref (q j) :: rest) (st' : (Nat → Nat) → List Value) (hst' : ∀ q' : Nat → Nat, (rv q').toList ++ rest = st' q') (kk : ∀ q' : Nat → Nat, K q' → J p l e R s m args below meth c nL D cs A H0 (cells + mc) (slots + ms) Q q' σ0 lv (pc + 3) (st' q')) : J p l e R s m args below meth c nL D cs A H0 cells slots Q q σ lv pc st := fun H locs ls hO hP hD hS hl => by
  subst hst
  have hts := X.2.2.2.2.1
  have cw : va_CN R s args own index y host bytes maxL none (Cond.code y bytes maxL none :: lw_g) rm mc ms n := ⟨⟨hrm.1, hrm.2, hR.1, hR.2, pay_in hts (gGc M.1), List.mem_cons_self⟩, hts _ M.1, hts _ M.2.1, ⟨M.2.2.1, M.2.2.2.1⟩, fun sig h => by
    have h2 := M.2.2.2.2
    rw [h] at h2
    exact (Option.some.inj h2).symm, hts _ hlk⟩
  exact j_run X hD hS hl (va_runIN (As := As) (rest := rest) ⟨X.1, X.2.1, X.2.2.1, X.2.2.2.1, X.2.2.2.2.1⟩ (hM H.size) ⟨cw, M2.1, hts _ M2.2⟩ ⟨hPre_blind, fun U hU hW => ⟨rfl, by rw [hU], hBad_warm hW X.2.2.2.2.2.2.2, hO, by rw [hU]; exact hP, va_K.moved hW.alike X.2.2.2.2.2.1, hD.weaken (fun _ _ _ _ => trivial)⟩⟩ rfl hn hl.1 rfl (lv_room hcat) hd hcs) hst' kk
theorem j_callV0 (X : Cx p s m args c cc nL own D cs A H0) {y : MethodName} {bytes : ByteArray} {maxL n index t j : Nat} {ret : Option FieldType} {rm : Room} (As rest : List Value) {rv : (Nat → Nat) → Option Value} {σ0 : HS} (hM : MT l y (Cond.code y bytes maxL ret :: lw_g) rm D cs q σ σ0 (.ref (q j) :: As) (fun z => z = q) rv 0 0) (M : MK y bytes maxL ret n) (M2 : MV y) (hlk : Cond.methodLink own index y ∈ lw_g) (h : isO σ t j) (hc : (classes[t]?).map (fun r => r.1) = some y.cls) (h10 : t < 10) (hrm : rm.cells = 0 ∧ rm.slots = 0) (hR : rm.frames + 1 ≤ R.frames ∧ 8 + (maxL + 11) + rm.locals ≤ R.locals) (hn : As.length = n) (hcat : (rest.map fun v => v.category).sum ≤ 8) (hcs : cells ≤ R.cells ∧ slots ≤ R.slots) (hd : decode cc pc = .ok (.invokevirtual index, 3)) (hst : st = As.reverse ++ .ref (q j) :: rest) {st' : List Value} (hst' : (rv q).toList ++ rest = st') (kk : J p l e R s m args below meth c nL D cs A H0 cells slots Q q σ0 lv (pc + 3) st') : J p l e R s m args below meth c nL D cs A H0 cells slots Q q σ lv pc st :=
  j_callV X hM M M2 hlk h hc h10 hrm hR hn hcat hcs hd hst (fun q' => (rv q').toList ++ rest) (fun _ => rfl) (fun q' hq => by subst hq; rw [hst']; exact kk)
theorem j_callS0 (X : Cx p s m args c cc nL own D cs A H0) {y : MethodName} {bytes : ByteArray} {maxL n index : Nat} {ret : Option FieldType} {rm : Room} (As rest : List Value) {rv : (Nat → Nat) → Option Value} {σ0 : HS} (hM : MT l y (Cond.code y bytes maxL ret :: lw_g) rm D cs q σ σ0 As (fun z => z = q) rv 0 0) (M : MK y bytes maxL ret n) (M2 : Cond.static y ∈ lw_g) (hlk : Cond.methodLink own index y ∈ lw_g)  (hrm : rm.cells = 0 ∧ rm.slots = 0) (hR : rm.frames + 1 ≤ R.frames ∧ 8 + (maxL + 11) + rm.locals ≤ R.locals) (hn : As.length = n) (hcat : (rest.map fun v => v.category).sum ≤ 8) (hcs : cells ≤ R.cells ∧ slots ≤ R.slots) (hd : decode cc pc = .ok (.invokestatic index, 3)) (hst : st = As.reverse ++ rest) {st' : List Value} (hst' : (rv q).toList ++ rest = st') (kk : J p l e R s m args below meth c nL D cs A H0 cells slots Q q σ0 lv (pc + 3) st') : J p l e R s m args below meth c nL D cs A H0 cells slots Q q σ lv pc st :=
  j_callS X hM M M2 hlk  hrm hR hn hcat hcs hd hst (fun q' => (rv q').toList ++ rest) (fun _ => rfl) (fun q' hq => by subst hq; rw [hst']; exact kk)
theorem j_reti (X : Cx p s m args c cc nL own D cs A s.heap) {K : (Nat → Nat) → Prop} {rv : (Nat → Nat) → Option Value} {σ0 : HS} {mc ms : Nat} {v : Int32} (hr : meth.sig.returnType = some .int) (hlk : meth.locks = false) (hc : cells ≤ mc) (hs : slots ≤ ms) (hK : K q) (e0 : σ = σ0) (e1 : rv q = some (.int v))  (hd : decode cc pc = .ok (.ireturn, 1)) : J p l e R s m args below meth c nL D cs A s.heap cells slots (MQ below (hQ D cs K rv σ0 A) args s mc ms A) q σ lv pc [.int v] := fun H locs ls hO hP hD hS hl => by
  subst e0
  have hx := X.1
  refine W.widen hc hs ?_
  exact W.iret hx X.2.1 hr  (fun t ht hW => ⟨⟨q, by rw [e1], hK, hO, by rw [ht]; exact hP, va_K.moved hW.alike X.2.2.2.2.2.1, hD⟩, hS.F ht⟩) hS.2.2 hd hlk
theorem j_retz (X : Cx p s m args c cc nL own D cs A s.heap) {K : (Nat → Nat) → Prop} {rv : (Nat → Nat) → Option Value} {σ0 : HS} {mc ms : Nat} {v : Int32} (hr : meth.sig.returnType = some .boolean) (hlk : meth.locks = false) (hc : cells ≤ mc) (hs : slots ≤ ms) (hK : K q) (e0 : σ = σ0) (e1 : rv q = some (.int v)) (hb : bit v) (hd : decode cc pc = .ok (.ireturn, 1)) : J p l e R s m args below meth c nL D cs A s.heap cells slots (MQ below (hQ D cs K rv σ0 A) args s mc ms A) q σ lv pc [.int v] := fun H locs ls hO hP hD hS hl => by
  subst e0
  have hx := X.1
  refine W.widen hc hs ?_
  exact W.zret hx X.2.1 hr (by rcases hb with rfl | rfl <;> rfl) (fun t ht hW => ⟨⟨q, by rw [e1], hK, hO, by rw [ht]; exact hP, va_K.moved hW.alike X.2.2.2.2.2.1, hD⟩, hS.F ht⟩) hS.2.2 hd hlk
theorem j_retl (X : Cx p s m args c cc nL own D cs A s.heap) {K : (Nat → Nat) → Prop} {rv : (Nat → Nat) → Option Value} {σ0 : HS} {mc ms : Nat} {v : Int64} (hr : meth.sig.returnType = some .long) (hlk : meth.locks = false) (hc : cells ≤ mc) (hs : slots ≤ ms) (hK : K q) (e0 : σ = σ0) (e1 : rv q = some (.long v))  (hd : decode cc pc = .ok (.lreturn, 1)) : J p l e R s m args below meth c nL D cs A s.heap cells slots (MQ below (hQ D cs K rv σ0 A) args s mc ms A) q σ lv pc [.long v] := fun H locs ls hO hP hD hS hl => by
  subst e0
  have hx := X.1
  refine W.widen hc hs ?_
  exact W.lret hx X.2.1 hr  (fun t ht hW => ⟨⟨q, by rw [e1], hK, hO, by rw [ht]; exact hP, va_K.moved hW.alike X.2.2.2.2.2.1, hD⟩, hS.F ht⟩) hS.2.2 hd hlk
theorem j_retv (X : Cx p s m args c cc nL own D cs A s.heap) {K : (Nat → Nat) → Prop} {rv : (Nat → Nat) → Option Value} {σ0 : HS} {mc ms : Nat} (hr : meth.sig.returnType = none) (hlk : meth.locks = false) (hc : cells ≤ mc) (hs : slots ≤ ms) (hK : K q) (e0 : σ = σ0) (e1 : rv q = none) (hd : decode cc pc = .ok (.return_, 1)) : J p l e R s m args below meth c nL D cs A s.heap cells slots (MQ below (hQ D cs K rv σ0 A) args s mc ms A) q σ lv pc [] := fun H locs ls hO hP hD hS hl => by
  subst e0
  have hx := X.1
  refine W.widen hc hs ?_
  exact W.vret hx X.2.1 hr (fun t ht hW => ⟨⟨q, by rw [e1], hK, hO, by rw [ht]; exact hP, va_K.moved hW.alike X.2.2.2.2.2.1, hD⟩, hS.F ht⟩) hS.2.2 hd hlk
theorem j_reta (X : Cx p s m args c cc nL own D cs A s.heap) {K : (Nat → Nat) → Prop} {rv : (Nat → Nat) → Option Value} {σ0 : HS} {mc ms : Nat} {o : Option Nat} {rt : FieldType} (hr : meth.sig.returnType = some rt) (hrt : rt.isReference = true) (hlk : meth.locks = false) (hc : cells ≤ mc) (hs : slots ≤ ms) (hK : K q) (e0 : σ = σ0) (e1 : rv q = some (va_rf o)) (hd : decode cc pc = .ok (.areturn, 1)) : J p l e R s m args below meth c nL D cs A s.heap cells slots (MQ below (hQ D cs K rv σ0 A) args s mc ms A) q σ lv pc [va_rf o] := fun H locs ls hO hP hD hS hl => by
  subst e0
  have hx := X.1
  refine W.widen hc hs ?_
  refine W.aret hx X.2.1 hr (by cases rt <;> first | exact Or.inl ⟨_, rfl⟩ | exact Or.inr ⟨_, rfl⟩ | cases hrt) (by cases o with | none => exact Or.inl rfl | some a => exact Or.inr ⟨a, rfl⟩) (fun t ht hW => ⟨⟨q, by rw [e1], hK, hO, by rw [ht]; exact hP, va_K.moved hW.alike X.2.2.2.2.2.1, hD⟩, hS.F ht⟩) hS.2.2 hd hlk
theorem MT_of {y : MethodName} {maxL : Nat} {ret : Option FieldType} {rm : Room} {av : List Value} {K : (Nat → Nat) → Prop} {rv : (Nat → Nat) → Option Value} {mc ms : Nat} {σ0 : HS} (hy : plainName y.cls = true) (hlen : (lg_sl av).length ≤ maxL) {lv0 : List (Nat × Value)} (hlv : lv_args 0 av = lv0)
    (body : ∀ (p : Program) (e : Env) (s : State) (m : MethodId) (args : Array Value) (below : List Frame) (meth : Method) (c : Code) (A : Nat → Prop), Cx p s m args c cc maxL y.cls D cs A s.heap → meth.sig.returnType = ret → meth.locks = false → (y.name = "<init>" → meth.name = "<init>") →
      J p l e rm s m args below meth c maxL D cs A s.heap 0 0 (MQ below (hQ D cs K rv σ0 A) args s mc ms A) q σ lv0 0 []) : MT l y (Cond.code y cc maxL ret :: lw_g) rm D cs q σ σ0 av K rv mc ms := by
  intro sz
  refine Met.ofW (cc := cc) (maxL := maxL) (ret := ret) hy rfl ?_
  intro p e s m args below meth c s₁ B hml hv
  obtain ⟨rfl, hsz, hBd, hO, hP, hK, hD0⟩ := hv
  subst hsz
  have hts : ∀ w ∈ lw_g, w.before av.toArray s = true := fun w hw => atoms_spec (ws := Cond.code y cc maxL ret :: lw_g) B.pre w (List.mem_cons_of_mem _ hw)
  have hl := lv_entry av hlen
  rw [hlv] at hl
  rw [lg_entry_eq]
  exact body p e s m av.toArray below meth c (va_A (hWl cs q σ) s.heap.size) ⟨B.exec, B.bytes, hml, findClass_of_methodNamed B.named, hts, hK, fun x h => Or.inr h, hBd⟩ B.returns B.notSynchronized (fun hn => (name_of_methodNamed B.named B.method).1.trans hn) s.heap [] _ hO hP hD0.self va_S.rf hl
end HCC
end

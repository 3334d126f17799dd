section
-- ===== PART A: goes FIRST, ahead of the names: the tables' words, and 'selects' of the private methods out of them =====
/-- a private method of a class that the tables say can be made, by its rows of tables_1 -/
def lw_okq (q : MethodName × Nat) : Prop := (q.1.cls ≠ "java/lang/invoke/MethodHandle" ∧ q.1.cls ≠ "java/lang/invoke/VarHandle") ∧ Cond.instantiable q.1.cls q.2 ∈ tables_1 ∧ Cond.privateMethod q.1 ∈ tables_1 ∧ Cond.instanceMethod q.1 ∈ tables_1
theorem lw_p0 : lw_okq (⟨"SpanKeeper$Tape", "readSum", "(I)I"⟩, 9) := ⟨⟨by decide +kernel, by decide +kernel⟩, List.mem_of_getElem? (i := 69) (by decide +kernel), List.mem_of_getElem? (i := 246) (by decide +kernel), List.mem_of_getElem? (i := 247) (by decide +kernel)⟩
theorem lw_p1 : lw_okq (⟨"SpanKeeper$Tape", "readProduct", "(I)I"⟩, 9) := ⟨⟨by decide +kernel, by decide +kernel⟩, List.mem_of_getElem? (i := 69) (by decide +kernel), List.mem_of_getElem? (i := 250) (by decide +kernel), List.mem_of_getElem? (i := 251) (by decide +kernel)⟩
theorem lw_p2 : lw_okq (⟨"SpanKeeper$Tape", "readFactor", "(I)I"⟩, 9) := ⟨⟨by decide +kernel, by decide +kernel⟩, List.mem_of_getElem? (i := 69) (by decide +kernel), List.mem_of_getElem? (i := 254) (by decide +kernel), List.mem_of_getElem? (i := 255) (by decide +kernel)⟩
theorem lw_p3 : lw_okq (⟨"SpanKeeper$Tape", "here", "()I"⟩, 9) := ⟨⟨by decide +kernel, by decide +kernel⟩, List.mem_of_getElem? (i := 69) (by decide +kernel), List.mem_of_getElem? (i := 258) (by decide +kernel), List.mem_of_getElem? (i := 259) (by decide +kernel)⟩
theorem lw_p4 : lw_okq (⟨"SpanKeeper$Tape", "add", "(III)I"⟩, 9) := ⟨⟨by decide +kernel, by decide +kernel⟩, List.mem_of_getElem? (i := 69) (by decide +kernel), List.mem_of_getElem? (i := 262) (by decide +kernel), List.mem_of_getElem? (i := 263) (by decide +kernel)⟩
theorem lw_p5 : lw_okq (⟨"SpanKeeper$Tape", "readNumber", "()I"⟩, 9) := ⟨⟨by decide +kernel, by decide +kernel⟩, List.mem_of_getElem? (i := 69) (by decide +kernel), List.mem_of_getElem? (i := 269) (by decide +kernel), List.mem_of_getElem? (i := 270) (by decide +kernel)⟩
theorem lw_p6 : lw_okq (⟨"SpanKeeper$Tape", "join", "(IIII)I"⟩, 9) := ⟨⟨by decide +kernel, by decide +kernel⟩, List.mem_of_getElem? (i := 69) (by decide +kernel), List.mem_of_getElem? (i := 273) (by decide +kernel), List.mem_of_getElem? (i := 274) (by decide +kernel)⟩
theorem lw_p7 : lw_okq (⟨"SpanKeeper", "formulaOf", "(I)LSpanKeeper$Formula;"⟩, 9) := ⟨⟨by decide +kernel, by decide +kernel⟩, List.mem_of_getElem? (i := 12) (by decide +kernel), List.mem_of_getElem? (i := 373) (by decide +kernel), List.mem_of_getElem? (i := 374) (by decide +kernel)⟩
theorem lw_p8 : lw_okq (⟨"SpanKeeper", "carryAsItIs", "(LSpanKeeper$Formula;)V"⟩, 9) := ⟨⟨by decide +kernel, by decide +kernel⟩, List.mem_of_getElem? (i := 12) (by decide +kernel), List.mem_of_getElem? (i := 390) (by decide +kernel), List.mem_of_getElem? (i := 391) (by decide +kernel)⟩
theorem lw_p9 : lw_okq (⟨"SpanKeeper$Thought", "carryPart", "(LSpanKeeper$Formula;I)V"⟩, 10) := ⟨⟨by decide +kernel, by decide +kernel⟩, List.mem_of_getElem? (i := 111) (by decide +kernel), List.mem_of_getElem? (i := 408) (by decide +kernel), List.mem_of_getElem? (i := 409) (by decide +kernel)⟩
theorem lw_p10 : lw_okq (⟨"SpanKeeper", "keepWay", "(LSpanKeeper$Formula;)V"⟩, 9) := ⟨⟨by decide +kernel, by decide +kernel⟩, List.mem_of_getElem? (i := 12) (by decide +kernel), List.mem_of_getElem? (i := 450) (by decide +kernel), List.mem_of_getElem? (i := 451) (by decide +kernel)⟩
theorem lw_p11 : lw_okq (⟨"SpanKeeper$Thought", "worthOfPart", "(LSpanKeeper$Formula;I)J"⟩, 10) := ⟨⟨by decide +kernel, by decide +kernel⟩, List.mem_of_getElem? (i := 111) (by decide +kernel), List.mem_of_getElem? (i := 482) (by decide +kernel), List.mem_of_getElem? (i := 483) (by decide +kernel)⟩
theorem lw_p12 : lw_okq (⟨"SpanKeeper", "worthAtCorner", "(LSpanKeeper$Formula;I)J"⟩, 9) := ⟨⟨by decide +kernel, by decide +kernel⟩, List.mem_of_getElem? (i := 12) (by decide +kernel), List.mem_of_getElem? (i := 490) (by decide +kernel), List.mem_of_getElem? (i := 491) (by decide +kernel)⟩
theorem lw_p13 : lw_okq (⟨"SpanKeeper$Thought", "changePart", "(LSpanKeeper$Formula;II)V"⟩, 10) := ⟨⟨by decide +kernel, by decide +kernel⟩, List.mem_of_getElem? (i := 111) (by decide +kernel), List.mem_of_getElem? (i := 504) (by decide +kernel), List.mem_of_getElem? (i := 505) (by decide +kernel)⟩
theorem lw_p14 : lw_okq (⟨"SpanKeeper", "carrySplit", "(LSpanKeeper$Formula;II)V"⟩, 9) := ⟨⟨by decide +kernel, by decide +kernel⟩, List.mem_of_getElem? (i := 12) (by decide +kernel), List.mem_of_getElem? (i := 517) (by decide +kernel), List.mem_of_getElem? (i := 518) (by decide +kernel)⟩
theorem lw_p15 : lw_okq (⟨"SpanKeeper", "widthWithHalf", "(LSpanKeeper$Formula;I)J"⟩, 9) := ⟨⟨by decide +kernel, by decide +kernel⟩, List.mem_of_getElem? (i := 12) (by decide +kernel), List.mem_of_getElem? (i := 543) (by decide +kernel), List.mem_of_getElem? (i := 544) (by decide +kernel)⟩
def lw_privs_1 : List (MethodName × Nat) := [(⟨"SpanKeeper$Tape", "readSum", "(I)I"⟩, 9), (⟨"SpanKeeper$Tape", "readProduct", "(I)I"⟩, 9), (⟨"SpanKeeper$Tape", "readFactor", "(I)I"⟩, 9), (⟨"SpanKeeper$Tape", "here", "()I"⟩, 9), (⟨"SpanKeeper$Tape", "add", "(III)I"⟩, 9), (⟨"SpanKeeper$Tape", "readNumber", "()I"⟩, 9), (⟨"SpanKeeper$Tape", "join", "(IIII)I"⟩, 9), (⟨"SpanKeeper", "formulaOf", "(I)LSpanKeeper$Formula;"⟩, 9), (⟨"SpanKeeper", "carryAsItIs", "(LSpanKeeper$Formula;)V"⟩, 9), (⟨"SpanKeeper$Thought", "carryPart", "(LSpanKeeper$Formula;I)V"⟩, 10), (⟨"SpanKeeper", "keepWay", "(LSpanKeeper$Formula;)V"⟩, 9), (⟨"SpanKeeper$Thought", "worthOfPart", "(LSpanKeeper$Formula;I)J"⟩, 10), (⟨"SpanKeeper", "worthAtCorner", "(LSpanKeeper$Formula;I)J"⟩, 9), (⟨"SpanKeeper$Thought", "changePart", "(LSpanKeeper$Formula;II)V"⟩, 10), (⟨"SpanKeeper", "carrySplit", "(LSpanKeeper$Formula;II)V"⟩, 9), (⟨"SpanKeeper", "widthWithHalf", "(LSpanKeeper$Formula;I)J"⟩, 9)]
theorem lw_r1 : ∀ q ∈ lw_privs_1, lw_okq q := List.forall_mem_cons.mpr ⟨lw_p0, List.forall_mem_cons.mpr ⟨lw_p1, List.forall_mem_cons.mpr ⟨lw_p2, List.forall_mem_cons.mpr ⟨lw_p3, List.forall_mem_cons.mpr ⟨lw_p4, List.forall_mem_cons.mpr ⟨lw_p5, List.forall_mem_cons.mpr ⟨lw_p6, List.forall_mem_cons.mpr ⟨lw_p7, List.forall_mem_cons.mpr ⟨lw_p8, List.forall_mem_cons.mpr ⟨lw_p9, List.forall_mem_cons.mpr ⟨lw_p10, List.forall_mem_cons.mpr ⟨lw_p11, List.forall_mem_cons.mpr ⟨lw_p12, List.forall_mem_cons.mpr ⟨lw_p13, List.forall_mem_cons.mpr ⟨lw_p14, List.forall_mem_cons.mpr ⟨lw_p15, fun _ h => absurd h List.not_mem_nil⟩⟩⟩⟩⟩⟩⟩⟩⟩⟩⟩⟩⟩⟩⟩⟩
theorem lw_p16 : lw_okq (⟨"SpanKeeper", "formulasOver", "()I"⟩, 9) := ⟨⟨by decide +kernel, by decide +kernel⟩, List.mem_of_getElem? (i := 12) (by decide +kernel), List.mem_of_getElem? (i := 616) (by decide +kernel), List.mem_of_getElem? (i := 617) (by decide +kernel)⟩
theorem lw_p17 : lw_okq (⟨"SpanKeeper", "sourcesWithSpan", "()I"⟩, 9) := ⟨⟨by decide +kernel, by decide +kernel⟩, List.mem_of_getElem? (i := 12) (by decide +kernel), List.mem_of_getElem? (i := 620) (by decide +kernel), List.mem_of_getElem? (i := 621) (by decide +kernel)⟩
theorem lw_p18 : lw_okq (⟨"SpanKeeperModel", "valueOf", "(I)I"⟩, 42) := ⟨⟨by decide +kernel, by decide +kernel⟩, List.mem_of_getElem? (i := 624) (by decide +kernel), List.mem_of_getElem? (i := 777) (by decide +kernel), List.mem_of_getElem? (i := 778) (by decide +kernel)⟩
theorem lw_p19 : lw_okq (⟨"SpanKeeperModel", "spanOf", "(I)I"⟩, 42) := ⟨⟨by decide +kernel, by decide +kernel⟩, List.mem_of_getElem? (i := 624) (by decide +kernel), List.mem_of_getElem? (i := 781) (by decide +kernel), List.mem_of_getElem? (i := 782) (by decide +kernel)⟩
theorem lw_p20 : lw_okq (⟨"SpanKeeperModel", "sums", "()I"⟩, 42) := ⟨⟨by decide +kernel, by decide +kernel⟩, List.mem_of_getElem? (i := 624) (by decide +kernel), List.mem_of_getElem? (i := 794) (by decide +kernel), List.mem_of_getElem? (i := 795) (by decide +kernel)⟩
theorem lw_p21 : lw_okq (⟨"SpanKeeperModel", "products", "()I"⟩, 42) := ⟨⟨by decide +kernel, by decide +kernel⟩, List.mem_of_getElem? (i := 624) (by decide +kernel), List.mem_of_getElem? (i := 798) (by decide +kernel), List.mem_of_getElem? (i := 799) (by decide +kernel)⟩
theorem lw_p22 : lw_okq (⟨"SpanKeeperModel", "factor", "()I"⟩, 42) := ⟨⟨by decide +kernel, by decide +kernel⟩, List.mem_of_getElem? (i := 624) (by decide +kernel), List.mem_of_getElem? (i := 802) (by decide +kernel), List.mem_of_getElem? (i := 803) (by decide +kernel)⟩
theorem lw_p23 : lw_okq (⟨"SpanKeeperModel", "next", "()I"⟩, 42) := ⟨⟨by decide +kernel, by decide +kernel⟩, List.mem_of_getElem? (i := 624) (by decide +kernel), List.mem_of_getElem? (i := 806) (by decide +kernel), List.mem_of_getElem? (i := 807) (by decide +kernel)⟩
theorem lw_p24 : lw_okq (⟨"SpanKeeperModel", "opened", "()I"⟩, 42) := ⟨⟨by decide +kernel, by decide +kernel⟩, List.mem_of_getElem? (i := 624) (by decide +kernel), List.mem_of_getElem? (i := 810) (by decide +kernel), List.mem_of_getElem? (i := 811) (by decide +kernel)⟩
theorem lw_p25 : lw_okq (⟨"SpanKeeperModel", "wrong", "()I"⟩, 42) := ⟨⟨by decide +kernel, by decide +kernel⟩, List.mem_of_getElem? (i := 624) (by decide +kernel), List.mem_of_getElem? (i := 814) (by decide +kernel), List.mem_of_getElem? (i := 815) (by decide +kernel)⟩
theorem lw_p26 : lw_okq (⟨"SpanKeeperModel", "comes", "(IIII)I"⟩, 42) := ⟨⟨by decide +kernel, by decide +kernel⟩, List.mem_of_getElem? (i := 624) (by decide +kernel), List.mem_of_getElem? (i := 818) (by decide +kernel), List.mem_of_getElem? (i := 819) (by decide +kernel)⟩
theorem lw_p27 : lw_okq (⟨"SpanKeeperModel", "isFormula", "(I)Z"⟩, 42) := ⟨⟨by decide +kernel, by decide +kernel⟩, List.mem_of_getElem? (i := 624) (by decide +kernel), List.mem_of_getElem? (i := 833) (by decide +kernel), List.mem_of_getElem? (i := 834) (by decide +kernel)⟩
theorem lw_p28 : lw_okq (⟨"SpanKeeperModel", "likeOf", "(IZ)I"⟩, 42) := ⟨⟨by decide +kernel, by decide +kernel⟩, List.mem_of_getElem? (i := 624) (by decide +kernel), List.mem_of_getElem? (i := 837) (by decide +kernel), List.mem_of_getElem? (i := 838) (by decide +kernel)⟩
theorem lw_p29 : lw_okq (⟨"SpanKeeperModel", "areAlike", "(IIII)Z"⟩, 42) := ⟨⟨by decide +kernel, by decide +kernel⟩, List.mem_of_getElem? (i := 624) (by decide +kernel), List.mem_of_getElem? (i := 841) (by decide +kernel), List.mem_of_getElem? (i := 842) (by decide +kernel)⟩
theorem lw_p30 : lw_okq (⟨"SpanKeeperModel", "lettersOf", "(I)I"⟩, 42) := ⟨⟨by decide +kernel, by decide +kernel⟩, List.mem_of_getElem? (i := 624) (by decide +kernel), List.mem_of_getElem? (i := 846) (by decide +kernel), List.mem_of_getElem? (i := 847) (by decide +kernel)⟩
theorem lw_p31 : lw_okq (⟨"SpanKeeperModel", "rootOf", "(I)I"⟩, 42) := ⟨⟨by decide +kernel, by decide +kernel⟩, List.mem_of_getElem? (i := 624) (by decide +kernel), List.mem_of_getElem? (i := 850) (by decide +kernel), List.mem_of_getElem? (i := 851) (by decide +kernel)⟩
def lw_privs_2 : List (MethodName × Nat) := [(⟨"SpanKeeper", "formulasOver", "()I"⟩, 9), (⟨"SpanKeeper", "sourcesWithSpan", "()I"⟩, 9), (⟨"SpanKeeperModel", "valueOf", "(I)I"⟩, 42), (⟨"SpanKeeperModel", "spanOf", "(I)I"⟩, 42), (⟨"SpanKeeperModel", "sums", "()I"⟩, 42), (⟨"SpanKeeperModel", "products", "()I"⟩, 42), (⟨"SpanKeeperModel", "factor", "()I"⟩, 42), (⟨"SpanKeeperModel", "next", "()I"⟩, 42), (⟨"SpanKeeperModel", "opened", "()I"⟩, 42), (⟨"SpanKeeperModel", "wrong", "()I"⟩, 42), (⟨"SpanKeeperModel", "comes", "(IIII)I"⟩, 42), (⟨"SpanKeeperModel", "isFormula", "(I)Z"⟩, 42), (⟨"SpanKeeperModel", "likeOf", "(IZ)I"⟩, 42), (⟨"SpanKeeperModel", "areAlike", "(IIII)Z"⟩, 42), (⟨"SpanKeeperModel", "lettersOf", "(I)I"⟩, 42), (⟨"SpanKeeperModel", "rootOf", "(I)I"⟩, 42)]
theorem lw_r2 : ∀ q ∈ lw_privs_2, lw_okq q := List.forall_mem_cons.mpr ⟨lw_p16, List.forall_mem_cons.mpr ⟨lw_p17, List.forall_mem_cons.mpr ⟨lw_p18, List.forall_mem_cons.mpr ⟨lw_p19, List.forall_mem_cons.mpr ⟨lw_p20, List.forall_mem_cons.mpr ⟨lw_p21, List.forall_mem_cons.mpr ⟨lw_p22, List.forall_mem_cons.mpr ⟨lw_p23, List.forall_mem_cons.mpr ⟨lw_p24, List.forall_mem_cons.mpr ⟨lw_p25, List.forall_mem_cons.mpr ⟨lw_p26, List.forall_mem_cons.mpr ⟨lw_p27, List.forall_mem_cons.mpr ⟨lw_p28, List.forall_mem_cons.mpr ⟨lw_p29, List.forall_mem_cons.mpr ⟨lw_p30, List.forall_mem_cons.mpr ⟨lw_p31, fun _ h => absurd h List.not_mem_nil⟩⟩⟩⟩⟩⟩⟩⟩⟩⟩⟩⟩⟩⟩⟩⟩
theorem lw_p32 : lw_okq (⟨"SpanKeeperModel", "depthOf", "(II)I"⟩, 42) := ⟨⟨by decide +kernel, by decide +kernel⟩, List.mem_of_getElem? (i := 624) (by decide +kernel), List.mem_of_getElem? (i := 854) (by decide +kernel), List.mem_of_getElem? (i := 855) (by decide +kernel)⟩
theorem lw_p33 : lw_okq (⟨"SpanKeeperModel", "spansNow", "(I)Z"⟩, 42) := ⟨⟨by decide +kernel, by decide +kernel⟩, List.mem_of_getElem? (i := 624) (by decide +kernel), List.mem_of_getElem? (i := 867) (by decide +kernel), List.mem_of_getElem? (i := 868) (by decide +kernel)⟩
theorem lw_p34 : lw_okq (⟨"SpanKeeperModel", "laysBox", "()V"⟩, 42) := ⟨⟨by decide +kernel, by decide +kernel⟩, List.mem_of_getElem? (i := 624) (by decide +kernel), List.mem_of_getElem? (i := 871) (by decide +kernel), List.mem_of_getElem? (i := 872) (by decide +kernel)⟩
theorem lw_p35 : lw_okq (⟨"SpanKeeperModel", "lays", "(III)V"⟩, 42) := ⟨⟨by decide +kernel, by decide +kernel⟩, List.mem_of_getElem? (i := 624) (by decide +kernel), List.mem_of_getElem? (i := 875) (by decide +kernel), List.mem_of_getElem? (i := 876) (by decide +kernel)⟩
theorem lw_p36 : lw_okq (⟨"SpanKeeperModel", "spans", "(I)Z"⟩, 42) := ⟨⟨by decide +kernel, by decide +kernel⟩, List.mem_of_getElem? (i := 624) (by decide +kernel), List.mem_of_getElem? (i := 879) (by decide +kernel), List.mem_of_getElem? (i := 880) (by decide +kernel)⟩
theorem lw_p37 : lw_okq (⟨"SpanKeeperModel", "joins", "(IIII)V"⟩, 42) := ⟨⟨by decide +kernel, by decide +kernel⟩, List.mem_of_getElem? (i := 624) (by decide +kernel), List.mem_of_getElem? (i := 883) (by decide +kernel), List.mem_of_getElem? (i := 884) (by decide +kernel)⟩
theorem lw_p38 : lw_okq (⟨"SpanKeeperModel", "less", "(JJ)J"⟩, 42) := ⟨⟨by decide +kernel, by decide +kernel⟩, List.mem_of_getElem? (i := 624) (by decide +kernel), List.mem_of_getElem? (i := 887) (by decide +kernel), List.mem_of_getElem? (i := 888) (by decide +kernel)⟩
theorem lw_p39 : lw_okq (⟨"SpanKeeperModel", "sum", "(JJ)J"⟩, 42) := ⟨⟨by decide +kernel, by decide +kernel⟩, List.mem_of_getElem? (i := 624) (by decide +kernel), List.mem_of_getElem? (i := 891) (by decide +kernel), List.mem_of_getElem? (i := 892) (by decide +kernel)⟩
theorem lw_p40 : lw_okq (⟨"SpanKeeperModel", "products", "(JJJJ)V"⟩, 42) := ⟨⟨by decide +kernel, by decide +kernel⟩, List.mem_of_getElem? (i := 624) (by decide +kernel), List.mem_of_getElem? (i := 895) (by decide +kernel), List.mem_of_getElem? (i := 896) (by decide +kernel)⟩
theorem lw_p41 : lw_okq (⟨"SpanKeeperModel", "product", "(JJ)J"⟩, 42) := ⟨⟨by decide +kernel, by decide +kernel⟩, List.mem_of_getElem? (i := 624) (by decide +kernel), List.mem_of_getElem? (i := 899) (by decide +kernel), List.mem_of_getElem? (i := 900) (by decide +kernel)⟩
theorem lw_p42 : lw_okq (⟨"SpanKeeperModel", "goesWay", "(I)V"⟩, 42) := ⟨⟨by decide +kernel, by decide +kernel⟩, List.mem_of_getElem? (i := 624) (by decide +kernel), List.mem_of_getElem? (i := 906) (by decide +kernel), List.mem_of_getElem? (i := 907) (by decide +kernel)⟩
theorem lw_p43 : lw_okq (⟨"SpanKeeperModel", "lowOf", "(I)J"⟩, 42) := ⟨⟨by decide +kernel, by decide +kernel⟩, List.mem_of_getElem? (i := 624) (by decide +kernel), List.mem_of_getElem? (i := 911) (by decide +kernel), List.mem_of_getElem? (i := 912) (by decide +kernel)⟩
theorem lw_p44 : lw_okq (⟨"SpanKeeperModel", "highOf", "(I)J"⟩, 42) := ⟨⟨by decide +kernel, by decide +kernel⟩, List.mem_of_getElem? (i := 624) (by decide +kernel), List.mem_of_getElem? (i := 915) (by decide +kernel), List.mem_of_getElem? (i := 916) (by decide +kernel)⟩
theorem lw_p45 : lw_okq (⟨"SpanKeeperModel", "widthNow", "(I)J"⟩, 42) := ⟨⟨by decide +kernel, by decide +kernel⟩, List.mem_of_getElem? (i := 624) (by decide +kernel), List.mem_of_getElem? (i := 919) (by decide +kernel), List.mem_of_getElem? (i := 920) (by decide +kernel)⟩
theorem lw_p46 : lw_okq (⟨"SpanKeeperModel", "widthBy", "(I)J"⟩, 42) := ⟨⟨by decide +kernel, by decide +kernel⟩, List.mem_of_getElem? (i := 624) (by decide +kernel), List.mem_of_getElem? (i := 923) (by decide +kernel), List.mem_of_getElem? (i := 924) (by decide +kernel)⟩
theorem lw_p47 : lw_okq (⟨"SpanKeeperModel", "laysPoint", "(II)V"⟩, 42) := ⟨⟨by decide +kernel, by decide +kernel⟩, List.mem_of_getElem? (i := 624) (by decide +kernel), List.mem_of_getElem? (i := 935) (by decide +kernel), List.mem_of_getElem? (i := 936) (by decide +kernel)⟩
def lw_privs_3 : List (MethodName × Nat) := [(⟨"SpanKeeperModel", "depthOf", "(II)I"⟩, 42), (⟨"SpanKeeperModel", "spansNow", "(I)Z"⟩, 42), (⟨"SpanKeeperModel", "laysBox", "()V"⟩, 42), (⟨"SpanKeeperModel", "lays", "(III)V"⟩, 42), (⟨"SpanKeeperModel", "spans", "(I)Z"⟩, 42), (⟨"SpanKeeperModel", "joins", "(IIII)V"⟩, 42), (⟨"SpanKeeperModel", "less", "(JJ)J"⟩, 42), (⟨"SpanKeeperModel", "sum", "(JJ)J"⟩, 42), (⟨"SpanKeeperModel", "products", "(JJJJ)V"⟩, 42), (⟨"SpanKeeperModel", "product", "(JJ)J"⟩, 42), (⟨"SpanKeeperModel", "goesWay", "(I)V"⟩, 42), (⟨"SpanKeeperModel", "lowOf", "(I)J"⟩, 42), (⟨"SpanKeeperModel", "highOf", "(I)J"⟩, 42), (⟨"SpanKeeperModel", "widthNow", "(I)J"⟩, 42), (⟨"SpanKeeperModel", "widthBy", "(I)J"⟩, 42), (⟨"SpanKeeperModel", "laysPoint", "(II)V"⟩, 42)]
theorem lw_r3 : ∀ q ∈ lw_privs_3, lw_okq q := List.forall_mem_cons.mpr ⟨lw_p32, List.forall_mem_cons.mpr ⟨lw_p33, List.forall_mem_cons.mpr ⟨lw_p34, List.forall_mem_cons.mpr ⟨lw_p35, List.forall_mem_cons.mpr ⟨lw_p36, List.forall_mem_cons.mpr ⟨lw_p37, List.forall_mem_cons.mpr ⟨lw_p38, List.forall_mem_cons.mpr ⟨lw_p39, List.forall_mem_cons.mpr ⟨lw_p40, List.forall_mem_cons.mpr ⟨lw_p41, List.forall_mem_cons.mpr ⟨lw_p42, List.forall_mem_cons.mpr ⟨lw_p43, List.forall_mem_cons.mpr ⟨lw_p44, List.forall_mem_cons.mpr ⟨lw_p45, List.forall_mem_cons.mpr ⟨lw_p46, List.forall_mem_cons.mpr ⟨lw_p47, fun _ h => absurd h List.not_mem_nil⟩⟩⟩⟩⟩⟩⟩⟩⟩⟩⟩⟩⟩⟩⟩⟩
theorem lw_p48 : lw_okq (⟨"SpanKeeperModel", "changeOf", "(II)I"⟩, 42) := ⟨⟨by decide +kernel, by decide +kernel⟩, List.mem_of_getElem? (i := 624) (by decide +kernel), List.mem_of_getElem? (i := 947) (by decide +kernel), List.mem_of_getElem? (i := 948) (by decide +kernel)⟩
theorem lw_p49 : lw_okq (⟨"SpanKeeperModel", "changes", "(IIII)V"⟩, 42) := ⟨⟨by decide +kernel, by decide +kernel⟩, List.mem_of_getElem? (i := 624) (by decide +kernel), List.mem_of_getElem? (i := 951) (by decide +kernel), List.mem_of_getElem? (i := 952) (by decide +kernel)⟩
theorem lw_p50 : lw_okq (⟨"SpanKeeperModel", "splits", "(III)V"⟩, 42) := ⟨⟨by decide +kernel, by decide +kernel⟩, List.mem_of_getElem? (i := 624) (by decide +kernel), List.mem_of_getElem? (i := 964) (by decide +kernel), List.mem_of_getElem? (i := 965) (by decide +kernel)⟩
theorem lw_p51 : lw_okq (⟨"SpanKeeperModel", "overMany", "()I"⟩, 42) := ⟨⟨by decide +kernel, by decide +kernel⟩, List.mem_of_getElem? (i := 624) (by decide +kernel), List.mem_of_getElem? (i := 1040) (by decide +kernel), List.mem_of_getElem? (i := 1041) (by decide +kernel)⟩
theorem lw_p52 : lw_okq (⟨"SpanKeeperModel", "spannedMany", "()I"⟩, 42) := ⟨⟨by decide +kernel, by decide +kernel⟩, List.mem_of_getElem? (i := 624) (by decide +kernel), List.mem_of_getElem? (i := 1044) (by decide +kernel), List.mem_of_getElem? (i := 1045) (by decide +kernel)⟩
def lw_privs_4 : List (MethodName × Nat) := [(⟨"SpanKeeperModel", "changeOf", "(II)I"⟩, 42), (⟨"SpanKeeperModel", "changes", "(IIII)V"⟩, 42), (⟨"SpanKeeperModel", "splits", "(III)V"⟩, 42), (⟨"SpanKeeperModel", "overMany", "()I"⟩, 42), (⟨"SpanKeeperModel", "spannedMany", "()I"⟩, 42)]
theorem lw_r4 : ∀ q ∈ lw_privs_4, lw_okq q := List.forall_mem_cons.mpr ⟨lw_p48, List.forall_mem_cons.mpr ⟨lw_p49, List.forall_mem_cons.mpr ⟨lw_p50, List.forall_mem_cons.mpr ⟨lw_p51, List.forall_mem_cons.mpr ⟨lw_p52, fun _ h => absurd h List.not_mem_nil⟩⟩⟩⟩⟩
def lw_privs : List (MethodName × Nat) := lw_privs_1 ++ (lw_privs_2 ++ (lw_privs_3 ++ (lw_privs_4)))
def lw_tbl : List Cond := k2_sels lw_privs ++ tables_1
theorem lw_privs_ok : ∀ q ∈ lw_privs, lw_okq q := by
  show ∀ q ∈ lw_privs_1 ++ (lw_privs_2 ++ (lw_privs_3 ++ (lw_privs_4))), lw_okq q
  exact List.forall_mem_append.mpr ⟨lw_r1, List.forall_mem_append.mpr ⟨lw_r2, List.forall_mem_append.mpr ⟨lw_r3, lw_r4⟩⟩⟩
end
section
def RX0 : String := "SpanKeeper$Formula"
def TX0 : u_T := fun k => match k with
  | 0 => ("SpanKeeper$Formula", "size", "I", true)
  | 1 => ("SpanKeeper$Formula", "kind", "[I", true)
  | 2 => ("SpanKeeper$Formula", "place", "[I", true)
  | 3 => ("SpanKeeper$Formula", "first", "[I", true)
  | 4 => ("SpanKeeper$Formula", "second", "[I", true)
  | 5 => ("SpanKeeper$Formula", "worth", "[I", true)
  | 6 => ("SpanKeeper$Formula", "sources", "I", true)
  | 7 => ("SpanKeeper$Formula", "depth", "I", true)
  | 8 => ("SpanKeeper$Formula", "unlike", "I", true)
  | _ => ("SpanKeeper$Formula", "mostAlike", "I", true)
def tyX0 : Nat → FieldType := fun k => match k with
  | 0 => .int
  | 1 => .array .int
  | 2 => .array .int
  | 3 => .array .int
  | 4 => .array .int
  | 5 => .array .int
  | 6 => .int
  | 7 => .int
  | 8 => .int
  | _ => .int
theorem nmX0 : ∀ a, a < 10 → ∀ b, b < 10 → a ≠ b → (TX0 a).2.1 ≠ (TX0 b).2.1 := by decide +kernel
theorem tyX0_ok : ∀ k, k < 10 → parseFieldDescriptor (TX0 k).2.2.1 = some (tyX0 k) := by decide +kernel
abbrev cX0_init : ByteArray := prog_2_method_1_code
def yX0_init : MethodName := ⟨RX0, "<init>", "(LSpanKeeper$Tape;)V"⟩
abbrev cX0_hasSource : ByteArray := prog_2_method_2_code
def yX0_hasSource : MethodName := ⟨RX0, "hasSource", "(I)Z"⟩
abbrev cX0_isMade : ByteArray := prog_2_method_3_code
def yX0_isMade : MethodName := ⟨RX0, "isMade", "(I)Z"⟩
abbrev cX0_isLike : ByteArray := prog_2_method_4_code
def yX0_isLike : MethodName := ⟨RX0, "isLike", "(LSpanKeeper$Formula;)Z"⟩
abbrev cX0_sourcesIn : ByteArray := prog_2_method_5_code
def yX0_sourcesIn : MethodName := ⟨RX0, "sourcesIn", "(LSpanKeeper$Tape;)I"⟩
abbrev cX0_depthOf : ByteArray := prog_2_method_6_code
def yX0_depthOf : MethodName := ⟨RX0, "depthOf", "(LSpanKeeper$Tape;)I"⟩
abbrev cX0_likenessIn : ByteArray := prog_2_method_7_code
def yX0_likenessIn : MethodName := ⟨RX0, "likenessIn", "(LSpanKeeper$Tape;)[I"⟩
abbrev cX0_areAlike : ByteArray := prog_2_method_8_code
def yX0_areAlike : MethodName := ⟨RX0, "areAlike", "(LSpanKeeper$Tape;[III)Z"⟩
abbrev cX0_unlikeIn : ByteArray := prog_2_method_9_code
def yX0_unlikeIn : MethodName := ⟨RX0, "unlikeIn", "([I)I"⟩
abbrev cX0_mostAlikeIn : ByteArray := prog_2_method_10_code
def yX0_mostAlikeIn : MethodName := ⟨RX0, "mostAlikeIn", "([I)I"⟩
def RX1 : String := "SpanKeeper$SpanRow"
def TX1 : u_T := fun k => match k with
  | 0 => ("SpanKeeper$SpanRow", "low", "[J", true)
  | 1 => ("SpanKeeper$SpanRow", "high", "[J", true)
  | _ => ("SpanKeeper$SpanRow", "over", "[Z", true)
def tyX1 : Nat → FieldType := fun k => match k with
  | 0 => .array .long
  | 1 => .array .long
  | _ => .array .boolean
theorem nmX1 : ∀ a, a < 3 → ∀ b, b < 3 → a ≠ b → (TX1 a).2.1 ≠ (TX1 b).2.1 := by decide +kernel
theorem tyX1_ok : ∀ k, k < 3 → parseFieldDescriptor (TX1 k).2.2.1 = some (tyX1 k) := by decide +kernel
abbrev cX1_init : ByteArray := prog_3_method_1_code
def yX1_init : MethodName := ⟨RX1, "<init>", "(I)V"⟩
abbrev cX1_fromTo : ByteArray := prog_3_method_2_code
def yX1_fromTo : MethodName := ⟨RX1, "fromTo", "(IJJ)V"⟩
abbrev cX1_less : ByteArray := prog_3_method_3_code
def yX1_less : MethodName := ⟨RX1, "less", "(ILSpanKeeper$SpanRow;I)V"⟩
abbrev cX1_sum : ByteArray := prog_3_method_4_code
def yX1_sum : MethodName := ⟨RX1, "sum", "(ILSpanKeeper$SpanRow;ILSpanKeeper$SpanRow;I)V"⟩
abbrev cX1_difference : ByteArray := prog_3_method_5_code
def yX1_difference : MethodName := ⟨RX1, "difference", "(ILSpanKeeper$SpanRow;ILSpanKeeper$SpanRow;I)V"⟩
abbrev cX1_product : ByteArray := prog_3_method_6_code
def yX1_product : MethodName := ⟨RX1, "product", "(ILSpanKeeper$SpanRow;ILSpanKeeper$SpanRow;I)V"⟩
abbrev cX1_sumFits : ByteArray := prog_3_method_7_code
def yX1_sumFits : MethodName := ⟨RX1, "sumFits", "(JJ)Z"⟩
abbrev cX1_differenceFits : ByteArray := prog_3_method_8_code
def yX1_differenceFits : MethodName := ⟨RX1, "differenceFits", "(JJ)Z"⟩
abbrev cX1_productFits : ByteArray := prog_3_method_9_code
def yX1_productFits : MethodName := ⟨RX1, "productFits", "(JJ)Z"⟩
def RX2 : String := "SpanKeeper$State"
def TX2 : u_T := fun k => match k with
  | 0 => ("SpanKeeper$State", "value", "[I", true)
  | 1 => ("SpanKeeper$State", "span", "[I", true)
  | 2 => ("SpanKeeper$State", "cost", "[I", true)
  | 3 => ("SpanKeeper$State", "formulas", "[LSpanKeeper$Formula;", true)
  | 4 => ("SpanKeeper$State", "formulaCount", "I", false)
  | 5 => ("SpanKeeper$State", "planSource", "[I", true)
  | 6 => ("SpanKeeper$State", "planWhat", "[I", true)
  | 7 => ("SpanKeeper$State", "planV", "[I", true)
  | _ => ("SpanKeeper$State", "planCount", "I", false)
def tyX2 : Nat → FieldType := fun k => match k with
  | 0 => .array .int
  | 1 => .array .int
  | 2 => .array .int
  | 3 => .array (.object "SpanKeeper$Formula")
  | 4 => .int
  | 5 => .array .int
  | 6 => .array .int
  | 7 => .array .int
  | _ => .int
theorem nmX2 : ∀ a, a < 9 → ∀ b, b < 9 → a ≠ b → (TX2 a).2.1 ≠ (TX2 b).2.1 := by decide +kernel
theorem tyX2_ok : ∀ k, k < 9 → parseFieldDescriptor (TX2 k).2.2.1 = some (tyX2 k) := by decide +kernel
abbrev cX2_init : ByteArray := prog_4_method_1_code
def yX2_init : MethodName := ⟨RX2, "<init>", "()V"⟩
abbrev cX2_rowOf : ByteArray := prog_4_method_2_code
def yX2_rowOf : MethodName := ⟨RX2, "rowOf", "(I)[I"⟩
abbrev cX2_lowOf : ByteArray := prog_4_method_3_code
def yX2_lowOf : MethodName := ⟨RX2, "lowOf", "(I)I"⟩
abbrev cX2_highOf : ByteArray := prog_4_method_4_code
def yX2_highOf : MethodName := ⟨RX2, "highOf", "(I)I"⟩
abbrev cX2_costOf : ByteArray := prog_4_method_5_code
def yX2_costOf : MethodName := ⟨RX2, "costOf", "(I)I"⟩
abbrev cX2_spanBehind : ByteArray := prog_4_method_6_code
def yX2_spanBehind : MethodName := ⟨RX2, "spanBehind", "(II)I"⟩
abbrev cX2_becomeLike : ByteArray := prog_4_method_7_code
def yX2_becomeLike : MethodName := ⟨RX2, "becomeLike", "(LSpanKeeper$State;)V"⟩
def RX3 : String := "SpanKeeper$Tape"
def TX3 : u_T := fun k => match k with
  | 0 => ("SpanKeeper$Tape", "bytes", "[I", true)
  | 1 => ("SpanKeeper$Tape", "length", "I", false)
  | 2 => ("SpanKeeper$Tape", "at", "I", false)
  | 3 => ("SpanKeeper$Tape", "kind", "[I", true)
  | 4 => ("SpanKeeper$Tape", "place", "[I", true)
  | 5 => ("SpanKeeper$Tape", "first", "[I", true)
  | 6 => ("SpanKeeper$Tape", "second", "[I", true)
  | 7 => ("SpanKeeper$Tape", "worth", "[I", true)
  | _ => ("SpanKeeper$Tape", "size", "I", false)
def tyX3 : Nat → FieldType := fun k => match k with
  | 0 => .array .int
  | 1 => .int
  | 2 => .int
  | 3 => .array .int
  | 4 => .array .int
  | 5 => .array .int
  | 6 => .array .int
  | 7 => .array .int
  | _ => .int
theorem nmX3 : ∀ a, a < 9 → ∀ b, b < 9 → a ≠ b → (TX3 a).2.1 ≠ (TX3 b).2.1 := by decide +kernel
theorem tyX3_ok : ∀ k, k < 9 → parseFieldDescriptor (TX3 k).2.2.1 = some (tyX3 k) := by decide +kernel
abbrev cX3_init : ByteArray := prog_5_method_1_code
def yX3_init : MethodName := ⟨RX3, "<init>", "()V"⟩
abbrev cX3_append : ByteArray := prog_5_method_2_code
def yX3_append : MethodName := ⟨RX3, "append", "(I)Z"⟩
abbrev cX3_readFormula : ByteArray := prog_5_method_3_code
def yX3_readFormula : MethodName := ⟨RX3, "readFormula", "()LSpanKeeper$Formula;"⟩
abbrev cX3_here : ByteArray := prog_5_method_4_code
def yX3_here : MethodName := ⟨RX3, "here", "()I"⟩
abbrev cX3_readSum : ByteArray := prog_5_method_5_code
def yX3_readSum : MethodName := ⟨RX3, "readSum", "(I)I"⟩
abbrev cX3_readProduct : ByteArray := prog_5_method_6_code
def yX3_readProduct : MethodName := ⟨RX3, "readProduct", "(I)I"⟩
abbrev cX3_readFactor : ByteArray := prog_5_method_7_code
def yX3_readFactor : MethodName := ⟨RX3, "readFactor", "(I)I"⟩
abbrev cX3_readNumber : ByteArray := prog_5_method_8_code
def yX3_readNumber : MethodName := ⟨RX3, "readNumber", "()I"⟩
abbrev cX3_isFigure : ByteArray := prog_5_method_9_code
def yX3_isFigure : MethodName := ⟨RX3, "isFigure", "(I)Z"⟩
abbrev cX3_join : ByteArray := prog_5_method_10_code
def yX3_join : MethodName := ⟨RX3, "join", "(IIII)I"⟩
abbrev cX3_add : ByteArray := prog_5_method_11_code
def yX3_add : MethodName := ⟨RX3, "add", "(III)I"⟩
def RX4 : String := "SpanKeeper$Thought"
def TX4 : u_T := fun k => match k with
  | 0 => ("SpanKeeper$Thought", "from", "[I", true)
  | 1 => ("SpanKeeper$Thought", "to", "[I", true)
  | 2 => ("SpanKeeper$Thought", "over", "Z", false)
  | 3 => ("SpanKeeper$Thought", "low", "J", false)
  | 4 => ("SpanKeeper$Thought", "high", "J", false)
  | 5 => ("SpanKeeper$Thought", "at", "[I", true)
  | 6 => ("SpanKeeper$Thought", "spans", "LSpanKeeper$SpanRow;", true)
  | 7 => ("SpanKeeper$Thought", "changes", "LSpanKeeper$SpanRow;", true)
  | 8 => ("SpanKeeper$Thought", "shares", "LSpanKeeper$SpanRow;", true)
  | _ => ("SpanKeeper$Thought", "worths", "[J", true)
def tyX4 : Nat → FieldType := fun k => match k with
  | 0 => .array .int
  | 1 => .array .int
  | 2 => .boolean
  | 3 => .long
  | 4 => .long
  | 5 => .array .int
  | 6 => .object "SpanKeeper$SpanRow"
  | 7 => .object "SpanKeeper$SpanRow"
  | 8 => .object "SpanKeeper$SpanRow"
  | _ => .array .long
theorem nmX4 : ∀ a, a < 10 → ∀ b, b < 10 → a ≠ b → (TX4 a).2.1 ≠ (TX4 b).2.1 := by decide +kernel
theorem tyX4_ok : ∀ k, k < 10 → parseFieldDescriptor (TX4 k).2.2.1 = some (tyX4 k) := by decide +kernel
abbrev cX4_init : ByteArray := prog_6_method_1_code
def yX4_init : MethodName := ⟨RX4, "<init>", "()V"⟩
abbrev cX4_standAs : ByteArray := prog_6_method_2_code
def yX4_standAs : MethodName := ⟨RX4, "standAs", "(LSpanKeeper$State;)V"⟩
abbrev cX4_stand : ByteArray := prog_6_method_3_code
def yX4_stand : MethodName := ⟨RX4, "stand", "(III)V"⟩
abbrev cX4_carry : ByteArray := prog_6_method_4_code
def yX4_carry : MethodName := ⟨RX4, "carry", "(LSpanKeeper$Formula;)V"⟩
abbrev cX4_carryPart : ByteArray := prog_6_method_5_code
def yX4_carryPart : MethodName := ⟨RX4, "carryPart", "(LSpanKeeper$Formula;I)V"⟩
abbrev cX4_hasWidth : ByteArray := prog_6_method_6_code
def yX4_hasWidth : MethodName := ⟨RX4, "hasWidth", "()Z"⟩
abbrev cX4_told : ByteArray := prog_6_method_7_code
def yX4_told : MethodName := ⟨RX4, "told", "(I)J"⟩
abbrev cX4_firstOverOf : ByteArray := prog_6_method_8_code
def yX4_firstOverOf : MethodName := ⟨RX4, "firstOverOf", "(LSpanKeeper$Formula;I)I"⟩
abbrev cX4_changeBy : ByteArray := prog_6_method_9_code
def yX4_changeBy : MethodName := ⟨RX4, "changeBy", "(LSpanKeeper$Formula;I)I"⟩
abbrev cX4_changePart : ByteArray := prog_6_method_10_code
def yX4_changePart : MethodName := ⟨RX4, "changePart", "(LSpanKeeper$Formula;II)V"⟩
abbrev cX4_worthOf : ByteArray := prog_6_method_11_code
def yX4_worthOf : MethodName := ⟨RX4, "worthOf", "(LSpanKeeper$Formula;)J"⟩
abbrev cX4_worthOfPart : ByteArray := prog_6_method_12_code
def yX4_worthOfPart : MethodName := ⟨RX4, "worthOfPart", "(LSpanKeeper$Formula;I)J"⟩
abbrev cX4_drawBy : ByteArray := prog_6_method_13_code
def yX4_drawBy : MethodName := ⟨RX4, "drawBy", "(ILSpanKeeper$State;)V"⟩
def RX5 : String := "SpanKeeper"
def TX5 : u_T := fun k => match k with
  | 0 => ("SpanKeeper", "now", "LSpanKeeper$State;", true)
  | 1 => ("SpanKeeper", "taken", "LSpanKeeper$State;", true)
  | 2 => ("SpanKeeper", "imageTaken", "Z", false)
  | 3 => ("SpanKeeper", "tape", "LSpanKeeper$Tape;", true)
  | 4 => ("SpanKeeper", "thought", "LSpanKeeper$Thought;", true)
  | 5 => ("SpanKeeper", "rows", "[[J", true)
  | 6 => ("SpanKeeper", "rowLength", "[I", true)
  | 7 => ("SpanKeeper", "wayPlace", "[I", true)
  | _ => ("SpanKeeper", "wayLength", "I", false)
def tyX5 : Nat → FieldType := fun k => match k with
  | 0 => .object "SpanKeeper$State"
  | 1 => .object "SpanKeeper$State"
  | 2 => .boolean
  | 3 => .object "SpanKeeper$Tape"
  | 4 => .object "SpanKeeper$Thought"
  | 5 => .array (.array .long)
  | 6 => .array .int
  | 7 => .array .int
  | _ => .int
theorem nmX5 : ∀ a, a < 9 → ∀ b, b < 9 → a ≠ b → (TX5 a).2.1 ≠ (TX5 b).2.1 := by decide +kernel
theorem tyX5_ok : ∀ k, k < 9 → parseFieldDescriptor (TX5 k).2.2.1 = some (tyX5 k) := by decide +kernel
abbrev cX5_init : ByteArray := prog_1_method_1_code
def yX5_init : MethodName := ⟨RX5, "<init>", "()V"⟩
abbrev cX5_set : ByteArray := prog_1_method_2_code
def yX5_set : MethodName := ⟨RX5, "set", "(III)I"⟩
abbrev cX5_of : ByteArray := prog_1_method_3_code
def yX5_of : MethodName := ⟨RX5, "of", "(II)I"⟩
abbrev cX5_feed : ByteArray := prog_1_method_4_code
def yX5_feed : MethodName := ⟨RX5, "feed", "(I)I"⟩
abbrev cX5_formula : ByteArray := prog_1_method_5_code
def yX5_formula : MethodName := ⟨RX5, "formula", "()I"⟩
abbrev cX5_drop : ByteArray := prog_1_method_6_code
def yX5_drop : MethodName := ⟨RX5, "drop", "()I"⟩
abbrev cX5_parts : ByteArray := prog_1_method_7_code
def yX5_parts : MethodName := ⟨RX5, "parts", "(II)I"⟩
abbrev cX5_alike : ByteArray := prog_1_method_8_code
def yX5_alike : MethodName := ⟨RX5, "alike", "(II)I"⟩
abbrev cX5_span : ByteArray := prog_1_method_9_code
def yX5_span : MethodName := ⟨RX5, "span", "(II)J"⟩
abbrev cX5_way : ByteArray := prog_1_method_10_code
def yX5_way : MethodName := ⟨RX5, "way", "(I)I"⟩
abbrev cX5_exact : ByteArray := prog_1_method_11_code
def yX5_exact : MethodName := ⟨RX5, "exact", "(I)J"⟩
abbrev cX5_corner : ByteArray := prog_1_method_12_code
def yX5_corner : MethodName := ⟨RX5, "corner", "(II)J"⟩
abbrev cX5_rises : ByteArray := prog_1_method_13_code
def yX5_rises : MethodName := ⟨RX5, "rises", "(II)I"⟩
abbrev cX5_tight : ByteArray := prog_1_method_14_code
def yX5_tight : MethodName := ⟨RX5, "tight", "(II)J"⟩
abbrev cX5_split : ByteArray := prog_1_method_15_code
def yX5_split : MethodName := ⟨RX5, "split", "(IIII)J"⟩
abbrev cX5_best : ByteArray := prog_1_method_16_code
def yX5_best : MethodName := ⟨RX5, "best", "(II)J"⟩
abbrev cX5_widest : ByteArray := prog_1_method_17_code
def yX5_widest : MethodName := ⟨RX5, "widest", "(I)I"⟩
abbrev cX5_again : ByteArray := prog_1_method_18_code
def yX5_again : MethodName := ⟨RX5, "again", "(IJI)I"⟩
abbrev cX5_fits : ByteArray := prog_1_method_19_code
def yX5_fits : MethodName := ⟨RX5, "fits", "(IIJI)I"⟩
abbrev cX5_odds : ByteArray := prog_1_method_20_code
def yX5_odds : MethodName := ⟨RX5, "odds", "(IIIJJI)J"⟩
abbrev cX5_plan : ByteArray := prog_1_method_21_code
def yX5_plan : MethodName := ⟨RX5, "plan", "(III)I"⟩
abbrev cX5_ends : ByteArray := prog_1_method_22_code
def yX5_ends : MethodName := ⟨RX5, "ends", "(I)J"⟩
abbrev cX5_judge : ByteArray := prog_1_method_23_code
def yX5_judge : MethodName := ⟨RX5, "judge", "(I)I"⟩
abbrev cX5_list : ByteArray := prog_1_method_24_code
def yX5_list : MethodName := ⟨RX5, "list", "(II)I"⟩
abbrev cX5_put : ByteArray := prog_1_method_25_code
def yX5_put : MethodName := ⟨RX5, "put", "(IIJ)I"⟩
abbrev cX5_get : ByteArray := prog_1_method_26_code
def yX5_get : MethodName := ⟨RX5, "get", "(II)J"⟩
abbrev cX5_image : ByteArray := prog_1_method_27_code
def yX5_image : MethodName := ⟨RX5, "image", "()I"⟩
abbrev cX5_undo : ByteArray := prog_1_method_28_code
def yX5_undo : MethodName := ⟨RX5, "undo", "()I"⟩
abbrev cX5_count : ByteArray := prog_1_method_29_code
def yX5_count : MethodName := ⟨RX5, "count", "(I)I"⟩
abbrev cX5_isSource : ByteArray := prog_1_method_30_code
def yX5_isSource : MethodName := ⟨RX5, "isSource", "(I)Z"⟩
abbrev cX5_isList : ByteArray := prog_1_method_31_code
def yX5_isList : MethodName := ⟨RX5, "isList", "(I)Z"⟩
abbrev cX5_mayBecome : ByteArray := prog_1_method_32_code
def yX5_mayBecome : MethodName := ⟨RX5, "mayBecome", "(II)Z"⟩
abbrev cX5_formulaOf : ByteArray := prog_1_method_33_code
def yX5_formulaOf : MethodName := ⟨RX5, "formulaOf", "(I)LSpanKeeper$Formula;"⟩
abbrev cX5_carryAsItIs : ByteArray := prog_1_method_34_code
def yX5_carryAsItIs : MethodName := ⟨RX5, "carryAsItIs", "(LSpanKeeper$Formula;)V"⟩
abbrev cX5_keepWay : ByteArray := prog_1_method_35_code
def yX5_keepWay : MethodName := ⟨RX5, "keepWay", "(LSpanKeeper$Formula;)V"⟩
abbrev cX5_worthAtCorner : ByteArray := prog_1_method_36_code
def yX5_worthAtCorner : MethodName := ⟨RX5, "worthAtCorner", "(LSpanKeeper$Formula;I)J"⟩
abbrev cX5_carrySplit : ByteArray := prog_1_method_37_code
def yX5_carrySplit : MethodName := ⟨RX5, "carrySplit", "(LSpanKeeper$Formula;II)V"⟩
abbrev cX5_widthWithHalf : ByteArray := prog_1_method_38_code
def yX5_widthWithHalf : MethodName := ⟨RX5, "widthWithHalf", "(LSpanKeeper$Formula;I)J"⟩
abbrev cX5_greatestCommon : ByteArray := prog_1_method_39_code
def yX5_greatestCommon : MethodName := ⟨RX5, "greatestCommon", "(II)I"⟩
abbrev cX5_formulasOver : ByteArray := prog_1_method_40_code
def yX5_formulasOver : MethodName := ⟨RX5, "formulasOver", "()I"⟩
abbrev cX5_sourcesWithSpan : ByteArray := prog_1_method_41_code
def yX5_sourcesWithSpan : MethodName := ⟨RX5, "sourcesWithSpan", "()I"⟩
def RX6 : String := "SpanKeeperModel"
def TX6 : u_T := fun k => match k with
  | 0 => ("SpanKeeperModel", "sources", "[I", true)
  | 1 => ("SpanKeeperModel", "keptSources", "[I", true)
  | 2 => ("SpanKeeperModel", "kinds", "[I", true)
  | 3 => ("SpanKeeperModel", "firsts", "[I", true)
  | 4 => ("SpanKeeperModel", "seconds", "[I", true)
  | 5 => ("SpanKeeperModel", "places", "[I", true)
  | 6 => ("SpanKeeperModel", "sizes", "[I", true)
  | 7 => ("SpanKeeperModel", "many", "I", false)
  | 8 => ("SpanKeeperModel", "keptKinds", "[I", true)
  | 9 => ("SpanKeeperModel", "keptFirsts", "[I", true)
  | 10 => ("SpanKeeperModel", "keptSeconds", "[I", true)
  | 11 => ("SpanKeeperModel", "keptPlaces", "[I", true)
  | 12 => ("SpanKeeperModel", "keptSizes", "[I", true)
  | 13 => ("SpanKeeperModel", "keptMany", "I", false)
  | 14 => ("SpanKeeperModel", "hasImage", "Z", false)
  | 15 => ("SpanKeeperModel", "tape", "[I", true)
  | 16 => ("SpanKeeperModel", "taped", "I", false)
  | 17 => ("SpanKeeperModel", "here", "I", false)
  | 18 => ("SpanKeeperModel", "open", "I", false)
  | 19 => ("SpanKeeperModel", "isWell", "Z", false)
  | 20 => ("SpanKeeperModel", "isTooGreat", "Z", false)
  | 21 => ("SpanKeeperModel", "lows", "[I", true)
  | 22 => ("SpanKeeperModel", "highs", "[I", true)
  | 23 => ("SpanKeeperModel", "low", "[J", true)
  | 24 => ("SpanKeeperModel", "high", "[J", true)
  | 25 => ("SpanKeeperModel", "isOver", "[Z", true)
  | 26 => ("SpanKeeperModel", "least", "J", false)
  | 27 => ("SpanKeeperModel", "greatest", "J", false)
  | 28 => ("SpanKeeperModel", "way", "[I", true)
  | 29 => ("SpanKeeperModel", "ways", "I", false)
  | 30 => ("SpanKeeperModel", "falls", "[J", true)
  | 31 => ("SpanKeeperModel", "climbs", "[J", true)
  | 32 => ("SpanKeeperModel", "changed", "[I", true)
  | 33 => ("SpanKeeperModel", "splitLow", "J", false)
  | 34 => ("SpanKeeperModel", "splitHigh", "J", false)
  | 35 => ("SpanKeeperModel", "plan", "[I", true)
  | 36 => ("SpanKeeperModel", "planMany", "I", false)
  | 37 => ("SpanKeeperModel", "keptPlan", "[I", true)
  | 38 => ("SpanKeeperModel", "keptPlanMany", "I", false)
  | 39 => ("SpanKeeperModel", "aside", "[I", true)
  | 40 => ("SpanKeeperModel", "rowMany", "[I", true)
  | _ => ("SpanKeeperModel", "items", "[J", true)
def tyX6 : Nat → FieldType := fun k => match k with
  | 0 => .array .int
  | 1 => .array .int
  | 2 => .array .int
  | 3 => .array .int
  | 4 => .array .int
  | 5 => .array .int
  | 6 => .array .int
  | 7 => .int
  | 8 => .array .int
  | 9 => .array .int
  | 10 => .array .int
  | 11 => .array .int
  | 12 => .array .int
  | 13 => .int
  | 14 => .boolean
  | 15 => .array .int
  | 16 => .int
  | 17 => .int
  | 18 => .int
  | 19 => .boolean
  | 20 => .boolean
  | 21 => .array .int
  | 22 => .array .int
  | 23 => .array .long
  | 24 => .array .long
  | 25 => .array .boolean
  | 26 => .long
  | 27 => .long
  | 28 => .array .int
  | 29 => .int
  | 30 => .array .long
  | 31 => .array .long
  | 32 => .array .int
  | 33 => .long
  | 34 => .long
  | 35 => .array .int
  | 36 => .int
  | 37 => .array .int
  | 38 => .int
  | 39 => .array .int
  | 40 => .array .int
  | _ => .array .long
theorem nmX6 : ∀ a, a < 42 → ∀ b, b < 42 → a ≠ b → (TX6 a).2.1 ≠ (TX6 b).2.1 := by decide +kernel
theorem tyX6_ok : ∀ k, k < 42 → parseFieldDescriptor (TX6 k).2.2.1 = some (tyX6 k) := by decide +kernel
abbrev cX6_isIn : ByteArray := prog_8_method_1_code
def yX6_isIn : MethodName := ⟨RX6, "isIn", "(JJJ)Z"⟩
abbrev cX6_init : ByteArray := prog_8_method_2_code
def yX6_init : MethodName := ⟨RX6, "<init>", "()V"⟩
abbrev cX6_isSource : ByteArray := prog_8_method_3_code
def yX6_isSource : MethodName := ⟨RX6, "isSource", "(I)Z"⟩
abbrev cX6_valueOf : ByteArray := prog_8_method_4_code
def yX6_valueOf : MethodName := ⟨RX6, "valueOf", "(I)I"⟩
abbrev cX6_spanOf : ByteArray := prog_8_method_5_code
def yX6_spanOf : MethodName := ⟨RX6, "spanOf", "(I)I"⟩
abbrev cX6_set : ByteArray := prog_8_method_6_code
def yX6_set : MethodName := ⟨RX6, "set", "(III)I"⟩
abbrev cX6_of : ByteArray := prog_8_method_7_code
def yX6_of : MethodName := ⟨RX6, "of", "(II)I"⟩
abbrev cX6_isFormula : ByteArray := prog_8_method_8_code
def yX6_isFormula : MethodName := ⟨RX6, "isFormula", "(I)Z"⟩
abbrev cX6_at : ByteArray := prog_8_method_9_code
def yX6_at : MethodName := ⟨RX6, "at", "(II)I"⟩
abbrev cX6_rootOf : ByteArray := prog_8_method_10_code
def yX6_rootOf : MethodName := ⟨RX6, "rootOf", "(I)I"⟩
abbrev cX6_feed : ByteArray := prog_8_method_11_code
def yX6_feed : MethodName := ⟨RX6, "feed", "(I)I"⟩
abbrev cX6_next : ByteArray := prog_8_method_12_code
def yX6_next : MethodName := ⟨RX6, "next", "()I"⟩
abbrev cX6_comes : ByteArray := prog_8_method_13_code
def yX6_comes : MethodName := ⟨RX6, "comes", "(IIII)I"⟩
abbrev cX6_wrong : ByteArray := prog_8_method_14_code
def yX6_wrong : MethodName := ⟨RX6, "wrong", "()I"⟩
abbrev cX6_opened : ByteArray := prog_8_method_15_code
def yX6_opened : MethodName := ⟨RX6, "opened", "()I"⟩
abbrev cX6_factor : ByteArray := prog_8_method_16_code
def yX6_factor : MethodName := ⟨RX6, "factor", "()I"⟩
abbrev cX6_products : ByteArray := prog_8_method_17_code
def yX6_products : MethodName := ⟨RX6, "products", "()I"⟩
abbrev cX6_sums : ByteArray := prog_8_method_18_code
def yX6_sums : MethodName := ⟨RX6, "sums", "()I"⟩
abbrev cX6_formula : ByteArray := prog_8_method_19_code
def yX6_formula : MethodName := ⟨RX6, "formula", "()I"⟩
abbrev cX6_drop : ByteArray := prog_8_method_20_code
def yX6_drop : MethodName := ⟨RX6, "drop", "()I"⟩
abbrev cX6_areAlike : ByteArray := prog_8_method_21_code
def yX6_areAlike : MethodName := ⟨RX6, "areAlike", "(IIII)Z"⟩
abbrev cX6_depthOf : ByteArray := prog_8_method_22_code
def yX6_depthOf : MethodName := ⟨RX6, "depthOf", "(II)I"⟩
abbrev cX6_likeOf : ByteArray := prog_8_method_23_code
def yX6_likeOf : MethodName := ⟨RX6, "likeOf", "(IZ)I"⟩
abbrev cX6_lettersOf : ByteArray := prog_8_method_24_code
def yX6_lettersOf : MethodName := ⟨RX6, "lettersOf", "(I)I"⟩
abbrev cX6_parts : ByteArray := prog_8_method_25_code
def yX6_parts : MethodName := ⟨RX6, "parts", "(II)I"⟩
abbrev cX6_alike : ByteArray := prog_8_method_26_code
def yX6_alike : MethodName := ⟨RX6, "alike", "(II)I"⟩
abbrev cX6_sum : ByteArray := prog_8_method_27_code
def yX6_sum : MethodName := ⟨RX6, "sum", "(JJ)J"⟩
abbrev cX6_less : ByteArray := prog_8_method_28_code
def yX6_less : MethodName := ⟨RX6, "less", "(JJ)J"⟩
abbrev cX6_product : ByteArray := prog_8_method_29_code
def yX6_product : MethodName := ⟨RX6, "product", "(JJ)J"⟩
abbrev cX6_lays : ByteArray := prog_8_method_30_code
def yX6_lays : MethodName := ⟨RX6, "lays", "(III)V"⟩
abbrev cX6_laysBox : ByteArray := prog_8_method_31_code
def yX6_laysBox : MethodName := ⟨RX6, "laysBox", "()V"⟩
abbrev cX6_products_ : ByteArray := prog_8_method_32_code
def yX6_products_ : MethodName := ⟨RX6, "products", "(JJJJ)V"⟩
abbrev cX6_joins : ByteArray := prog_8_method_33_code
def yX6_joins : MethodName := ⟨RX6, "joins", "(IIII)V"⟩
abbrev cX6_spans : ByteArray := prog_8_method_34_code
def yX6_spans : MethodName := ⟨RX6, "spans", "(I)Z"⟩
abbrev cX6_spansNow : ByteArray := prog_8_method_35_code
def yX6_spansNow : MethodName := ⟨RX6, "spansNow", "(I)Z"⟩
abbrev cX6_lowOf : ByteArray := prog_8_method_36_code
def yX6_lowOf : MethodName := ⟨RX6, "lowOf", "(I)J"⟩
abbrev cX6_highOf : ByteArray := prog_8_method_37_code
def yX6_highOf : MethodName := ⟨RX6, "highOf", "(I)J"⟩
abbrev cX6_widthBy : ByteArray := prog_8_method_38_code
def yX6_widthBy : MethodName := ⟨RX6, "widthBy", "(I)J"⟩
abbrev cX6_widthNow : ByteArray := prog_8_method_39_code
def yX6_widthNow : MethodName := ⟨RX6, "widthNow", "(I)J"⟩
abbrev cX6_goesWay : ByteArray := prog_8_method_40_code
def yX6_goesWay : MethodName := ⟨RX6, "goesWay", "(I)V"⟩
abbrev cX6_span : ByteArray := prog_8_method_41_code
def yX6_span : MethodName := ⟨RX6, "span", "(II)J"⟩
abbrev cX6_way : ByteArray := prog_8_method_42_code
def yX6_way : MethodName := ⟨RX6, "way", "(I)I"⟩
abbrev cX6_laysPoint : ByteArray := prog_8_method_43_code
def yX6_laysPoint : MethodName := ⟨RX6, "laysPoint", "(II)V"⟩
abbrev cX6_exact : ByteArray := prog_8_method_44_code
def yX6_exact : MethodName := ⟨RX6, "exact", "(I)J"⟩
abbrev cX6_corner : ByteArray := prog_8_method_45_code
def yX6_corner : MethodName := ⟨RX6, "corner", "(II)J"⟩
abbrev cX6_changes : ByteArray := prog_8_method_46_code
def yX6_changes : MethodName := ⟨RX6, "changes", "(IIII)V"⟩
abbrev cX6_changeOf : ByteArray := prog_8_method_47_code
def yX6_changeOf : MethodName := ⟨RX6, "changeOf", "(II)I"⟩
abbrev cX6_rises : ByteArray := prog_8_method_48_code
def yX6_rises : MethodName := ⟨RX6, "rises", "(II)I"⟩
abbrev cX6_tight : ByteArray := prog_8_method_49_code
def yX6_tight : MethodName := ⟨RX6, "tight", "(II)J"⟩
abbrev cX6_splits : ByteArray := prog_8_method_50_code
def yX6_splits : MethodName := ⟨RX6, "splits", "(III)V"⟩
abbrev cX6_split : ByteArray := prog_8_method_51_code
def yX6_split : MethodName := ⟨RX6, "split", "(IIII)J"⟩
abbrev cX6_best : ByteArray := prog_8_method_52_code
def yX6_best : MethodName := ⟨RX6, "best", "(II)J"⟩
abbrev cX6_widest : ByteArray := prog_8_method_53_code
def yX6_widest : MethodName := ⟨RX6, "widest", "(I)I"⟩
abbrev cX6_again : ByteArray := prog_8_method_54_code
def yX6_again : MethodName := ⟨RX6, "again", "(IJI)I"⟩
abbrev cX6_fits : ByteArray := prog_8_method_55_code
def yX6_fits : MethodName := ⟨RX6, "fits", "(IIJI)I"⟩
abbrev cX6_lowest : ByteArray := prog_8_method_56_code
def yX6_lowest : MethodName := ⟨RX6, "lowest", "(JJI)J"⟩
abbrev cX6_odds : ByteArray := prog_8_method_57_code
def yX6_odds : MethodName := ⟨RX6, "odds", "(IIIJJI)J"⟩
abbrev cX6_plan : ByteArray := prog_8_method_58_code
def yX6_plan : MethodName := ⟨RX6, "plan", "(III)I"⟩
abbrev cX6_ends : ByteArray := prog_8_method_59_code
def yX6_ends : MethodName := ⟨RX6, "ends", "(I)J"⟩
abbrev cX6_isList : ByteArray := prog_8_method_60_code
def yX6_isList : MethodName := ⟨RX6, "isList", "(I)Z"⟩
abbrev cX6_judge : ByteArray := prog_8_method_61_code
def yX6_judge : MethodName := ⟨RX6, "judge", "(I)I"⟩
abbrev cX6_list : ByteArray := prog_8_method_62_code
def yX6_list : MethodName := ⟨RX6, "list", "(II)I"⟩
abbrev cX6_put : ByteArray := prog_8_method_63_code
def yX6_put : MethodName := ⟨RX6, "put", "(IIJ)I"⟩
abbrev cX6_get : ByteArray := prog_8_method_64_code
def yX6_get : MethodName := ⟨RX6, "get", "(II)J"⟩
abbrev cX6_copies : ByteArray := prog_8_method_65_code
def yX6_copies : MethodName := ⟨RX6, "copies", "([I[II)V"⟩
abbrev cX6_image : ByteArray := prog_8_method_66_code
def yX6_image : MethodName := ⟨RX6, "image", "()I"⟩
abbrev cX6_undo : ByteArray := prog_8_method_67_code
def yX6_undo : MethodName := ⟨RX6, "undo", "()I"⟩
abbrev cX6_overMany : ByteArray := prog_8_method_68_code
def yX6_overMany : MethodName := ⟨RX6, "overMany", "()I"⟩
abbrev cX6_spannedMany : ByteArray := prog_8_method_69_code
def yX6_spannedMany : MethodName := ⟨RX6, "spannedMany", "()I"⟩
abbrev cX6_count : ByteArray := prog_8_method_70_code
def yX6_count : MethodName := ⟨RX6, "count", "(I)I"⟩
def RJx8e188 : String := "java/lang/Cloneable"
def TJx8e188 : u_T := fun k => match k with
  | _ => ("", "", "", false)
def tyJx8e188 : Nat → FieldType := fun k => match k with
  | _ => .int
theorem nmJx8e188 : ∀ a, a < 0 → ∀ b, b < 0 → a ≠ b → (TJx8e188 a).2.1 ≠ (TJx8e188 b).2.1 := by decide +kernel
theorem tyJx8e188_ok : ∀ k, k < 0 → parseFieldDescriptor (TJx8e188 k).2.2.1 = some (tyJx8e188 k) := by decide +kernel
def RJ9 : String := "java/lang/Math"
def TJ9 : u_T := fun k => match k with
  | _ => ("", "", "", false)
def tyJ9 : Nat → FieldType := fun k => match k with
  | _ => .int
theorem nmJ9 : ∀ a, a < 0 → ∀ b, b < 0 → a ≠ b → (TJ9 a).2.1 ≠ (TJ9 b).2.1 := by decide +kernel
theorem tyJ9_ok : ∀ k, k < 0 → parseFieldDescriptor (TJ9 k).2.2.1 = some (tyJ9 k) := by decide +kernel
abbrev cJ9_max_7cf53 : ByteArray := prog_10_method_65_code
def yJ9_max_7cf53 : MethodName := ⟨RJ9, "max", "(II)I"⟩
abbrev cJ9_max_f86c9 : ByteArray := prog_10_method_66_code
def yJ9_max_f86c9 : MethodName := ⟨RJ9, "max", "(JJ)J"⟩
abbrev cJ9_min_7cf53 : ByteArray := prog_10_method_69_code
def yJ9_min_7cf53 : MethodName := ⟨RJ9, "min", "(II)I"⟩
abbrev cJ9_min_f86c9 : ByteArray := prog_10_method_70_code
def yJ9_min_f86c9 : MethodName := ⟨RJ9, "min", "(JJ)J"⟩
def RJ10 : String := "java/lang/System"
def TJ10 : u_T := fun k => match k with
  | _ => ("", "", "", false)
def tyJ10 : Nat → FieldType := fun k => match k with
  | _ => .int
theorem nmJ10 : ∀ a, a < 0 → ∀ b, b < 0 → a ≠ b → (TJ10 a).2.1 ≠ (TJ10 b).2.1 := by decide +kernel
theorem tyJ10_ok : ∀ k, k < 0 → parseFieldDescriptor (TJ10 k).2.2.1 = some (tyJ10 k) := by decide +kernel
def RJ7 : String := "java/util/Arrays"
def TJ7 : u_T := fun k => match k with
  | _ => ("", "", "", false)
def tyJ7 : Nat → FieldType := fun k => match k with
  | _ => .int
theorem nmJ7 : ∀ a, a < 0 → ∀ b, b < 0 → a ≠ b → (TJ7 a).2.1 ≠ (TJ7 b).2.1 := by decide +kernel
theorem tyJ7_ok : ∀ k, k < 0 → parseFieldDescriptor (TJ7 k).2.2.1 = some (tyJ7 k) := by decide +kernel
abbrev cJ7_fill_d0a16 : ByteArray := prog_12_method_101_code
def yJ7_fill_d0a16 : MethodName := ⟨RJ7, "fill", "([JJ)V"⟩
abbrev cJ7_fill_53178 : ByteArray := prog_12_method_103_code
def yJ7_fill_53178 : MethodName := ⟨RJ7, "fill", "([II)V"⟩
abbrev cJ7_copyOf_59c91 : ByteArray := prog_12_method_123_code
def yJ7_copyOf_59c91 : MethodName := ⟨RJ7, "copyOf", "([II)[I"⟩
def RL : String := "SpanKeeperLaw"
abbrev cL_law : ByteArray := code
def yL_law : MethodName := ⟨RL, "law", "([I)Z"⟩
end
section
/-- the tables' words that stay as they are, whatever is run -/
def lw_g : List Cond := lw_tbl.filter goodWord
theorem gw {w : Cond} (i : Nat) (h : lw_tbl[i]? = some w) (hg : goodWord w = true) : w ∈ lw_g := List.mem_filter.mpr ⟨List.mem_of_getElem? h, hg⟩
theorem lw_g_tbl {w : Cond} (h : w ∈ lw_g) : w ∈ lw_tbl := (List.mem_filter.mp h).1
/-- .. and those that want a lemma each for it -/
def lw_bad : List Cond := [.methodLinkNest "SpanKeeper" 27 ⟨"SpanKeeper$Tape", "<init>", "()V"⟩ "SpanKeeper", .methodLinkNest "SpanKeeper" 34 ⟨"SpanKeeper$Thought", "<init>", "()V"⟩ "SpanKeeper", .castable "[I" "java/lang/Cloneable", .arrayOver (.object "SpanKeeper$Formula"), .arrayOver (.array .long)]
def hBad (U : State) : Prop := ∀ w ∈ lw_bad, va_Nw w U
abbrev HS : Type := Nat × (Nat → Nat) × (Nat → Nat) × (Nat → Nat → Int32) × (Nat → Nat → Int64) × (Nat → Nat → Option Nat)
abbrev hN (σ : HS) : Nat := σ.1
def hty (σ : HS) (j : Nat) : Nat := σ.2.1 j
def hlen (σ : HS) (j : Nat) : Nat := σ.2.2.1 j
def hA (σ : HS) (j k : Nat) : Int32 := σ.2.2.2.1 j k
def hB (σ : HS) (j k : Nat) : Int64 := σ.2.2.2.2.1 j k
def hR (σ : HS) (j k : Nat) : Option Nat := σ.2.2.2.2.2 j k
def up2 {α : Type} (f : Nat → Nat → α) (j k : Nat) (v : α) : Nat → Nat → α := fun a b => if a = j ∧ b = k then v else f a b
def upr {α : Type} (f : Nat → Nat → α) (j : Nat) (g : Nat → α) : Nat → Nat → α := fun a => if a = j then g else f a
def sA (σ : HS) (j k : Nat) (v : Int32) : HS := (σ.1, σ.2.1, σ.2.2.1, up2 σ.2.2.2.1 j k v, σ.2.2.2.2.1, σ.2.2.2.2.2)
def sB (σ : HS) (j k : Nat) (v : Int64) : HS := (σ.1, σ.2.1, σ.2.2.1, σ.2.2.2.1, up2 σ.2.2.2.2.1 j k v, σ.2.2.2.2.2)
def sR (σ : HS) (j k : Nat) (v : Option Nat) : HS := (σ.1, σ.2.1, σ.2.2.1, σ.2.2.2.1, σ.2.2.2.2.1, up2 σ.2.2.2.2.2 j k v)
def rA (σ : HS) (j : Nat) (g : Nat → Int32) : HS := (σ.1, σ.2.1, σ.2.2.1, upr σ.2.2.2.1 j g, σ.2.2.2.2.1, σ.2.2.2.2.2)
/-- a new cell, of kind t, of n places, all of them 0 -/
def nw (σ : HS) (t n : Nat) : HS := (σ.1 + 1, va_up σ.2.1 σ.1 t, va_up σ.2.2.1 σ.1 n, upr σ.2.2.2.1 σ.1 (fun _ => 0), upr σ.2.2.2.2.1 σ.1 (fun _ => 0), upr σ.2.2.2.2.2 σ.1 (fun _ => none))
/-- a new row of ints with these values -/
def nwc (σ : HS) (t n : Nat) (g : Nat → Int32) : HS := (σ.1 + 1, va_up σ.2.1 σ.1 t, va_up σ.2.2.1 σ.1 n, upr σ.2.2.2.1 σ.1 g, upr σ.2.2.2.2.1 σ.1 (fun _ => 0), upr σ.2.2.2.2.2 σ.1 (fun _ => none))
abbrev isO (σ : HS) (t j : Nat) : Prop := j < hN σ ∧ hty σ j = t
abbrev inb (i : Int32) (n : Nat) : Prop := ¬ (i < 0 ∨ n ≤ i.toNatClampNeg)
abbrev bit (v : Int32) : Prop := v = 0 ∨ v = 1
def lt {α β : Type} (a : α) (f : α → β) : β := f a
def chk {α : Type} (c : Prop) [Decidable c] (x : Option α) : Option α := if c then x else none
def bd {α β : Type} (x : Option α) (f : α → Option β) : Option β := match x with | none => none | some a => f a
def bc {α β γ : Type} (x : Option (α × β)) (f : α → β → Option γ) : Option γ := match x with | none => none | some a => f a.1 a.2
def oc {α β : Type} (o : Option α) (a : β) (f : α → β) : β := match o with | none => a | some i => f i
theorem lt_of {α β : Type} {a : α} {f : α → β} {r : β} (h : lt a f = r) (x : α) (e : x = a) : f x = r := by subst e; exact h
theorem chk_of {α : Type} {c : Prop} {i : Decidable c} {x : Option α} {y : α} (h : @chk α c i x = some y) : c ∧ x = some y := by
  unfold chk at h
  by_cases hc : c
  · rw [if_pos hc] at h; exact ⟨hc, h⟩
  · rw [if_neg hc] at h; cases h
theorem bd_of {α β : Type} {x : Option α} {f : α → Option β} {y : β} (h : bd x f = some y) : ∃ a, x = some a ∧ f a = some y := by
  cases x with
  | none => cases h
  | some a => exact ⟨a, rfl, h⟩
theorem bc_of {α β γ : Type} {x : Option (α × β)} {f : α → β → Option γ} {y : γ} (h : bc x f = some y) : ∃ a b, x = some (a, b) ∧ f a b = some y := by
  cases x with
  | none => cases h
  | some a => exact ⟨a.1, a.2, rfl, h⟩
theorem br_y {α : Type} {c : Prop} {i : Decidable c} {a b : α} {r : α} (h : (@ite α c i a b) = r) (hc : c) : a = r := by rw [if_pos hc] at h; exact h
theorem br_n {α : Type} {c : Prop} {i : Decidable c} {a b : α} {r : α} (h : (@ite α c i a b) = r) (hc : ¬ c) : b = r := by rw [if_neg hc] at h; exact h
theorem rt_of {α β : Type} {a a' : α} {b b' : β} (h : (some (a, b) : Option (α × β)) = some (a', b')) : a' = a ∧ b' = b := by cases h; exact ⟨rfl, rfl⟩
/-- kinds of the fields of a class: 0 an int or a boolean, 1 a long, 2 a reference -/
def fk : Nat → List Nat
  | 0 => [0, 2, 2, 2, 2, 2, 0, 0, 0, 0]
  | 1 => [2, 2, 2]
  | 2 => [2, 2, 2, 2, 0, 2, 2, 2, 0]
  | 3 => [2, 0, 0, 2, 2, 2, 2, 2, 0]
  | 4 => [2, 2, 0, 1, 1, 2, 2, 2, 2, 2]
  | 5 => [2, 2, 0, 2, 2, 2, 2, 2, 0]
  | 6 => [2, 2, 2, 2, 2, 2, 2, 0, 2, 2, 2, 2, 2, 0, 0, 2, 0, 0, 0, 0, 0, 2, 2, 2, 2, 2, 1, 1, 2, 0, 2, 2, 2, 1, 1, 2, 0, 2, 0, 2, 2, 2]
  | _ => []
abbrev classes : List vw_C := [(RX0, TX0, 10), (RX1, TX1, 3), (RX2, TX2, 9), (RX3, TX3, 9), (RX4, TX4, 10), (RX5, TX5, 9), (RX6, TX6, 42)]
def htys (cs : Nat → ClassId) : List (ClassId × FieldType) := [(cs 0, .int), (cs 1, .boolean), (cs 2, .long), (cs 3, .object RX0), (cs 4, .array .long)]
def hF (q : Nat → Nat) (σ : HS) (j : Nat) (fs : List Nat) : List Value := fs.mapIdx (fun k f => if f = 0 then .int (hA σ j k) else if f = 1 then .long (hB σ j k) else va_rf ((hR σ j k).map q))
def hE (cs : Nat → ClassId) (q : Nat → Nat) (σ : HS) (j : Nat) : va_E :=
  if hty σ j < 10 then .inr (hty σ j, hF q σ j (fk (hty σ j)))
  else .inl (cs (hty σ j - 10), hlen σ j, if hty σ j < 12 then .inl (hA σ j) else if hty σ j = 12 then .inr (.inl (hB σ j)) else .inr (.inr (.inr (.inr (fun k => (hR σ j k).map q)))))
def hWl (cs : Nat → ClassId) (q : Nat → Nat) (σ : HS) : va_W := (List.range (hN σ)).map fun j => (q j, hE cs q σ j)
theorem hW_get {cs : Nat → ClassId} {q : Nat → Nat} {σ : HS} {j : Nat} (h : j < hN σ) : (hWl cs q σ)[j]? = some (q j, hE cs q σ j) := by
  unfold hWl
  rw [List.getElem?_map, List.getElem?_range h]
  rfl
theorem hW_mem {cs : Nat → ClassId} {q : Nat → Nat} {σ : HS} {k : Nat} {x : Nat × va_E} (h : (hWl cs q σ)[k]? = some x) : k < hN σ ∧ x = (q k, hE cs q σ k) := by
  by_cases hk : k < hN σ
  · rw [hW_get hk] at h; exact ⟨hk, (Option.some.inj h).symm⟩
  · have : (hWl cs q σ)[k]? = none := List.getElem?_eq_none (by unfold hWl; rw [List.length_map, List.length_range]; omega)
    rw [this] at h; cases h
theorem hW_set {cs : Nat → ClassId} {q : Nat → Nat} {σ σ' : HS} {j : Nat} {x : va_E} (hn : hN σ' = hN σ) (he : hE cs q σ' j = x) (ho : ∀ i, i ≠ j → hE cs q σ' i = hE cs q σ i) : (hWl cs q σ).set j (q j, x) = hWl cs q σ' := by
  apply List.ext_getElem?
  intro i
  rw [List.getElem?_set]
  by_cases hi : i < hN σ
  · rw [hW_get (σ := σ') (by rw [hn]; exact hi)]
    by_cases e : j = i
    · subst e
      rw [if_pos rfl, if_pos (by unfold hWl; rw [List.length_map, List.length_range]; exact hi), he]
    · rw [if_neg e, hW_get hi, ho i (fun z => e z.symm)]
  · have h1 : (hWl cs q σ)[i]? = none := List.getElem?_eq_none (by unfold hWl; rw [List.length_map, List.length_range]; omega)
    have h2 : (hWl cs q σ')[i]? = none := List.getElem?_eq_none (by unfold hWl; rw [List.length_map, List.length_range, hn]; omega)
    rw [h2]
    by_cases e : j = i
    · subst e
      rw [if_pos rfl, if_neg (by unfold hWl; rw [List.length_map, List.length_range]; exact hi)]
    · rw [if_neg e, h1]
theorem hE_o {cs : Nat → ClassId} {q : Nat → Nat} {σ : HS} {j t : Nat} (h : hty σ j = t) (h10 : t < 10) : hE cs q σ j = .inr (t, hF q σ j (fk t)) := by
  subst h; unfold hE; rw [if_pos h10]
theorem hE_i {cs : Nat → ClassId} {q : Nat → Nat} {σ : HS} {j : Nat} (h : hty σ j = 10) : hE cs q σ j = .inl (cs 0, hlen σ j, .inl (hA σ j)) := by
  unfold hE; rw [h]; rfl
theorem hE_z {cs : Nat → ClassId} {q : Nat → Nat} {σ : HS} {j : Nat} (h : hty σ j = 11) : hE cs q σ j = .inl (cs 1, hlen σ j, .inl (hA σ j)) := by
  unfold hE; rw [h]; rfl
theorem hE_l {cs : Nat → ClassId} {q : Nat → Nat} {σ : HS} {j : Nat} (h : hty σ j = 12) : hE cs q σ j = .inl (cs 2, hlen σ j, .inr (.inl (hB σ j))) := by
  unfold hE; rw [h]; rfl
theorem hE_q {cs : Nat → ClassId} {q : Nat → Nat} {σ : HS} {j : Nat} (h : hty σ j = 13) : hE cs q σ j = .inl (cs 3, hlen σ j, .inr (.inr (.inr (.inr (fun k => (hR σ j k).map q))))) := by
  unfold hE; rw [h]; rfl
theorem hE_r {cs : Nat → ClassId} {q : Nat → Nat} {σ : HS} {j : Nat} (h : hty σ j = 14) : hE cs q σ j = .inl (cs 4, hlen σ j, .inr (.inr (.inr (.inr (fun k => (hR σ j k).map q))))) := by
  unfold hE; rw [h]; rfl
theorem up2_s {α : Type} (f : Nat → Nat → α) (j k : Nat) (v : α) : up2 f j k v j k = v := if_pos ⟨rfl, rfl⟩
theorem up2_row {α : Type} (f : Nat → Nat → α) (j k : Nat) (v : α) : up2 f j k v j = fun b => if b = k then v else f j b := by
  funext b; unfold up2; by_cases h : b = k <;> simp [h]
theorem up2_ne {α : Type} {f : Nat → Nat → α} {j k i : Nat} {v : α} (h : i ≠ j) : up2 f j k v i = f i := by
  funext b; unfold up2; rw [if_neg (fun z => h z.1)]
theorem upr_s {α : Type} {f : Nat → Nat → α} {j : Nat} {g : Nat → α} : upr f j g j = g := if_pos rfl
theorem upr_ne {α : Type} {f : Nat → Nat → α} {j i : Nat} {g : Nat → α} (h : i ≠ j) : upr f j g i = f i := if_neg h
theorem hE_cong {cs : Nat → ClassId} {q : Nat → Nat} {σ σ' : HS} {i : Nat} (h1 : hty σ' i = hty σ i) (h2 : hlen σ' i = hlen σ i) (h3 : hA σ' i = hA σ i) (h4 : hB σ' i = hB σ i) (h5 : hR σ' i = hR σ i) : hE cs q σ' i = hE cs q σ i := by
  unfold hE hF; rw [h1, h2, h3, h4, h5]
theorem hF_len {q : Nat → Nat} {σ : HS} {j : Nat} {fs : List Nat} : (hF q σ j fs).length = fs.length := List.length_mapIdx
theorem hF_get {q : Nat → Nat} {σ : HS} {j k f : Nat} {fs : List Nat} (h : fs[k]? = some f) : (hF q σ j fs)[k]? = some (if f = 0 then .int (hA σ j k) else if f = 1 then .long (hB σ j k) else va_rf ((hR σ j k).map q)) := by
  unfold hF; rw [List.getElem?_mapIdx, h]; rfl
theorem hF_set {q : Nat → Nat} {σ σ' : HS} {j k f : Nat} {fs : List Nat} {v : Value} (h : fs[k]? = some f) (hv : (if f = 0 then Value.int (hA σ' j k) else if f = 1 then .long (hB σ' j k) else va_rf ((hR σ' j k).map q)) = v)
    (ho : ∀ i, i ≠ k → hA σ' j i = hA σ j i ∧ hB σ' j i = hB σ j i ∧ hR σ' j i = hR σ j i) : (hF q σ j fs).set k v = hF q σ' j fs := by
  apply List.ext_getElem?
  intro i
  rw [List.getElem?_set]
  have hk : k < fs.length := (List.getElem?_eq_some_iff.mp h).1
  by_cases e : k = i
  · subst e
    rw [if_pos rfl, if_pos (by rw [hF_len]; exact hk), hF_get h, hv]
  · rw [if_neg e]
    obtain ⟨a, b, d⟩ := ho i (fun z => e z.symm)
    unfold hF
    rw [List.getElem?_mapIdx, List.getElem?_mapIdx, a, b, d]
theorem va_rf_some (a : Nat) : va_rf (some a) = .ref a := rfl
/-- references lead to cells that there are -/
def hOK (σ : HS) : Prop := ∀ j k i, hR σ j k = some i → i < hN σ
def hPre (D : va_G) (cs : Nat → ClassId) (q : Nat → Nat) (σ : HS) (sz : Nat) (U : State) : Prop := U.heap.size = sz ∧ hBad U ∧ hOK σ ∧ va_P D classes (hWl cs q σ) U.heap ∧ va_K D classes (htys cs) U ∧ va_D (fun _ => True) (hWl cs q σ)
def hPost (D : va_G) (cs : Nat → ClassId) (q : Nat → Nat) (σ : HS) (A : Nat → Prop) (t : State) : Prop := hOK σ ∧ va_P D classes (hWl cs q σ) t.heap ∧ va_K D classes (htys cs) t ∧ va_D A (hWl cs q σ)
def hQ (D : va_G) (cs : Nat → ClassId) (K : (Nat → Nat) → Prop) (rv : (Nat → Nat) → Option Value) (σ0 : HS) (A : Nat → Prop) : Array Value → State → Outcome → State → Prop := fun _ st o t => (∃ q' : Nat → Nat, o = .returned (rv q') ∧ K q' ∧ hPost D cs q' σ0 A t) ∧ va_F A st t
/-- a method's contract: from the heap σ it comes to the heap σ0, and answers rv -/
def MT (l : Launch) (y : MethodName) (ws : List Cond) (rm : Room) (D : va_G) (cs : Nat → ClassId) (q : Nat → Nat) (σ σ0 : HS) (av : List Value) (K : (Nat → Nat) → Prop) (rv : (Nat → Nat) → Option Value) (mc ms : Nat) : Prop :=
  ∀ sz : Nat, Met l y ws rm (va_Pc av (hPre D cs q σ sz)) (hQ D cs K rv σ0 (va_A (hWl cs q σ) sz)) mc ms (va_A (hWl cs q σ) sz)
/-- from a callee's start: what the machine needs of a method's body -/
def Cx (p : Program) (s : State) (m : MethodId) (args : Array Value) (c : Code) (cc : ByteArray) (nL : Nat) (own : String) (D : va_G) (cs : Nat → ClassId) (A : Nat → Prop) (H0 : Heap) : Prop :=
  p.tables.exec = Jvm.exec ∧ c.code = cc ∧ c.maxLocals = nL ∧ s.vm.findClass own = some m.cls ∧ (∀ w ∈ lw_g, w.before args s = true) ∧ va_K D classes (htys cs) s ∧ (∀ q, H0.size ≤ q → A q) ∧ hBad s
def J (p : Program) (l : Launch) (e : Env) (R : Room) (s : State) (m : MethodId) (args : Array Value) (below : List Frame) (meth : Method) (c : Code) (nL : Nat) (D : va_G) (cs : Nat → ClassId) (A : Nat → Prop) (H0 : Heap) (cells slots : Nat) (Q : State → Prop) (q : Nat → Nat) (σ : HS) (lv : List (Nat × Value)) (pc : Nat) (st : List Value) : Prop :=
  ∀ (H : Heap) (locs : List Loc) (ls : Array Slot), hOK σ → va_P D classes (hWl cs q σ) H → va_D A (hWl cs q σ) → va_S A H0 H locs → lv_has ls nL lv → W p l e R s m args below meth c H locs cells slots Q (F0 m pc ls st)
section HR
variable {p : Program} {l : Launch} {e : Env} {R : Room} {s : State} {m : MethodId} {args : Array Value} {below : List Frame} {meth : Method} {c : Code} {nL : Nat} {D : va_G} {cs : Nat → ClassId} {A : Nat → Prop} {H0 : Heap} {cells slots : Nat} {Q : State → Prop} {q : Nat → Nat} {σ : HS} {lv : List (Nat × Value)} {pc : Nat} {st : List Value} {cc : ByteArray} {own : String}
theorem j_iconst (X : Cx p s m args c cc nL own D cs A H0) {n : Int} {v : Int32} (hd : decode cc pc = .ok (.iconst n, 1)) (hv : Int32.ofInt n = v) (k : J p l e R s m args below meth c nL D cs A H0 cells slots Q q σ lv (pc + 1) (.int v :: st)) : J p l e R s m args below meth c nL D cs A H0 cells slots Q q σ lv pc (st) := fun H locs ls hO hP hD hS hl => lv_iconst X.1 X.2.1 hd hv (k H locs ls hO hP hD hS hl)
theorem j_bipush (X : Cx p s m args c cc nL own D cs A H0) {n : Int} {v : Int32} (hd : decode cc pc = .ok (.bipush n, 2)) (hv : (Int8.ofInt n).toInt32 = v) (k : J p l e R s m args below meth c nL D cs A H0 cells slots Q q σ lv (pc + 2) (.int v :: st)) : J p l e R s m args below meth c nL D cs A H0 cells slots Q q σ lv pc (st) := fun H locs ls hO hP hD hS hl => lv_bipush X.1 X.2.1 hd hv (k H locs ls hO hP hD hS hl)
theorem j_sipush (X : Cx p s m args c cc nL own D cs A H0) {n : Int} {v : Int32} (hd : decode cc pc = .ok (.sipush n, 3)) (hv : (Int16.ofInt n).toInt32 = v) (k : J p l e R s m args below meth c nL D cs A H0 cells slots Q q σ lv (pc + 3) (.int v :: st)) : J p l e R s m args below meth c nL D cs A H0 cells slots Q q σ lv pc (st) := fun H locs ls hO hP hD hS hl => lv_sipush X.1 X.2.1 hd hv (k H locs ls hO hP hD hS hl)
theorem j_lconst (X : Cx p s m args c cc nL own D cs A H0) {n : Fin 2} {v : Int64} (hd : decode cc pc = .ok (.lconst n, 1)) (hv : Int64.ofNat (n : Nat) = v) (k : J p l e R s m args below meth c nL D cs A H0 cells slots Q q σ lv (pc + 1) (.long v :: st)) : J p l e R s m args below meth c nL D cs A H0 cells slots Q q σ lv pc (st) := fun H locs ls hO hP hD hS hl => lv_lconst X.1 X.2.1 hd hv (k H locs ls hO hP hD hS hl)
theorem j_iload_n (X : Cx p s m args c cc nL own D cs A H0) {kk : Fin 4} {i : Nat} {x : Int32} (hd : decode cc pc = .ok (.iload_n kk, 1)) (ix : Nat) (hi : (kk : Nat) = i) (hx : lv[ix]? = some (i, .int x)) (k : J p l e R s m args below meth c nL D cs A H0 cells slots Q q σ lv (pc + 1) (.int x :: st)) : J p l e R s m args below meth c nL D cs A H0 cells slots Q q σ lv pc st := fun H locs ls hO hP hD hS hl => lv_iload_n X.1 X.2.1 hd hi (lv_at hl ix hx) (k H locs ls hO hP hD hS hl)
theorem j_iload (X : Cx p s m args c cc nL own D cs A H0) {i : Nat} {x : Int32} (hd : decode cc pc = .ok (.iload i, 2)) (ix : Nat) (hx : lv[ix]? = some (i, .int x)) (k : J p l e R s m args below meth c nL D cs A H0 cells slots Q q σ lv (pc + 2) (.int x :: st)) : J p l e R s m args below meth c nL D cs A H0 cells slots Q q σ lv pc st := fun H locs ls hO hP hD hS hl => lv_iload X.1 X.2.1 hd (lv_at hl ix hx) (k H locs ls hO hP hD hS hl)
theorem j_lload_n (X : Cx p s m args c cc nL own D cs A H0) {kk : Fin 4} {i : Nat} {x : Int64} (hd : decode cc pc = .ok (.lload_n kk, 1)) (ix : Nat) (hi : (kk : Nat) = i) (hx : lv[ix]? = some (i, .long x)) (k : J p l e R s m args below meth c nL D cs A H0 cells slots Q q σ lv (pc + 1) (.long x :: st)) : J p l e R s m args below meth c nL D cs A H0 cells slots Q q σ lv pc st := fun H locs ls hO hP hD hS hl => lv_lload_n X.1 X.2.1 hd hi (lv_at hl ix hx) (k H locs ls hO hP hD hS hl)
theorem j_lload (X : Cx p s m args c cc nL own D cs A H0) {i : Nat} {x : Int64} (hd : decode cc pc = .ok (.lload i, 2)) (ix : Nat) (hx : lv[ix]? = some (i, .long x)) (k : J p l e R s m args below meth c nL D cs A H0 cells slots Q q σ lv (pc + 2) (.long x :: st)) : J p l e R s m args below meth c nL D cs A H0 cells slots Q q σ lv pc st := fun H locs ls hO hP hD hS hl => lv_lload X.1 X.2.1 hd (lv_at hl ix hx) (k H locs ls hO hP hD hS hl)
theorem j_aload_n (X : Cx p s m args c cc nL own D cs A H0) {kk : Fin 4} {i : Nat} {x : Nat} (hd : decode cc pc = .ok (.aload_n kk, 1)) (ix : Nat) (hi : (kk : Nat) = i) (hx : lv[ix]? = some (i, .ref x)) (k : J p l e R s m args below meth c nL D cs A H0 cells slots Q q σ lv (pc + 1) (.ref x :: st)) : J p l e R s m args below meth c nL D cs A H0 cells slots Q q σ lv pc st := fun H locs ls hO hP hD hS hl => lv_aload_n X.1 X.2.1 hd hi (lv_at hl ix hx) (k H locs ls hO hP hD hS hl)
theorem j_aload (X : Cx p s m args c cc nL own D cs A H0) {i : Nat} {x : Nat} (hd : decode cc pc = .ok (.aload i, 2)) (ix : Nat) (hx : lv[ix]? = some (i, .ref x)) (k : J p l e R s m args below meth c nL D cs A H0 cells slots Q q σ lv (pc + 2) (.ref x :: st)) : J p l e R s m args below meth c nL D cs A H0 cells slots Q q σ lv pc st := fun H locs ls hO hP hD hS hl => lv_aload X.1 X.2.1 hd (lv_at hl ix hx) (k H locs ls hO hP hD hS hl)
theorem j_istore_n (X : Cx p s m args c cc nL own D cs A H0) {kk : Fin 4} {i : Nat} {x : Int32} {lv' : List (Nat × Value)} (hd : decode cc pc = .ok (.istore_n kk, 1)) (hi : (kk : Nat) = i) (hn : i < nL) (hv : (i, Value.int x) :: lv.filter (fun q => !(q.1 == i) && !(q.1 + 1 == i && q.2.category == 2)) = lv') (k : J p l e R s m args below meth c nL D cs A H0 cells slots Q q σ lv' (pc + 1) st) : J p l e R s m args below meth c nL D cs A H0 cells slots Q q σ lv pc (.int x :: st) := fun H locs ls hO hP hD hS hl => lv_istore_n X.1 X.2.1 hd hi hl hn hv (fun ls' hl' => k H locs ls' hO hP hD hS hl')
theorem j_istore (X : Cx p s m args c cc nL own D cs A H0) {i : Nat} {x : Int32} {lv' : List (Nat × Value)} (hd : decode cc pc = .ok (.istore i, 2)) (hn : i < nL) (hv : (i, Value.int x) :: lv.filter (fun q => !(q.1 == i) && !(q.1 + 1 == i && q.2.category == 2)) = lv') (k : J p l e R s m args below meth c nL D cs A H0 cells slots Q q σ lv' (pc + 2) st) : J p l e R s m args below meth c nL D cs A H0 cells slots Q q σ lv pc (.int x :: st) := fun H locs ls hO hP hD hS hl => lv_istore X.1 X.2.1 hd hl hn hv (fun ls' hl' => k H locs ls' hO hP hD hS hl')
theorem j_lstore_n (X : Cx p s m args c cc nL own D cs A H0) {kk : Fin 4} {i : Nat} {x : Int64} {lv' : List (Nat × Value)} (hd : decode cc pc = .ok (.lstore_n kk, 1)) (hi : (kk : Nat) = i) (hn : i + 1 < nL) (hv : (i, Value.long x) :: lv.filter (fun q => !(q.1 == i) && (!(q.1 == i + 1) && !(q.1 + 1 == i && q.2.category == 2))) = lv') (k : J p l e R s m args below meth c nL D cs A H0 cells slots Q q σ lv' (pc + 1) st) : J p l e R s m args below meth c nL D cs A H0 cells slots Q q σ lv pc (.long x :: st) := fun H locs ls hO hP hD hS hl => lv_lstore_n X.1 X.2.1 hd hi hl hn hv (fun ls' hl' => k H locs ls' hO hP hD hS hl')
theorem j_lstore (X : Cx p s m args c cc nL own D cs A H0) {i : Nat} {x : Int64} {lv' : List (Nat × Value)} (hd : decode cc pc = .ok (.lstore i, 2)) (hn : i + 1 < nL) (hv : (i, Value.long x) :: lv.filter (fun q => !(q.1 == i) && (!(q.1 == i + 1) && !(q.1 + 1 == i && q.2.category == 2))) = lv') (k : J p l e R s m args below meth c nL D cs A H0 cells slots Q q σ lv' (pc + 2) st) : J p l e R s m args below meth c nL D cs A H0 cells slots Q q σ lv pc (.long x :: st) := fun H locs ls hO hP hD hS hl => lv_lstore X.1 X.2.1 hd hl hn hv (fun ls' hl' => k H locs ls' hO hP hD hS hl')
theorem j_astore_n (X : Cx p s m args c cc nL own D cs A H0) {kk : Fin 4} {i : Nat} {x : Nat} {lv' : List (Nat × Value)} (hd : decode cc pc = .ok (.astore_n kk, 1)) (hi : (kk : Nat) = i) (hn : i < nL) (hv : (i, Value.ref x) :: lv.filter (fun q => !(q.1 == i) && !(q.1 + 1 == i && q.2.category == 2)) = lv') (k : J p l e R s m args below meth c nL D cs A H0 cells slots Q q σ lv' (pc + 1) st) : J p l e R s m args below meth c nL D cs A H0 cells slots Q q σ lv pc (.ref x :: st) := fun H locs ls hO hP hD hS hl => lv_astore_n X.1 X.2.1 hd hi hl hn hv (fun ls' hl' => k H locs ls' hO hP hD hS hl')
theorem j_astore (X : Cx p s m args c cc nL own D cs A H0) {i : Nat} {x : Nat} {lv' : List (Nat × Value)} (hd : decode cc pc = .ok (.astore i, 2)) (hn : i < nL) (hv : (i, Value.ref x) :: lv.filter (fun q => !(q.1 == i) && !(q.1 + 1 == i && q.2.category == 2)) = lv') (k : J p l e R s m args below meth c nL D cs A H0 cells slots Q q σ lv' (pc + 2) st) : J p l e R s m args below meth c nL D cs A H0 cells slots Q q σ lv pc (.ref x :: st) := fun H locs ls hO hP hD hS hl => lv_astore X.1 X.2.1 hd hl hn hv (fun ls' hl' => k H locs ls' hO hP hD hS hl')
theorem j_iinc (X : Cx p s m args c cc nL own D cs A H0) {i : Nat} {n : Int} {x v : Int32} {lv' : List (Nat × Value)} (hd : decode cc pc = .ok (.iinc i n, 3)) (ix : Nat) (hx : lv[ix]? = some (i, .int x)) (hv0 : x + Int32.ofInt n = v) (hn : i < nL) (hv : (i, Value.int v) :: lv.filter (fun q => !(q.1 == i) && !(q.1 + 1 == i && q.2.category == 2)) = lv') (k : J p l e R s m args below meth c nL D cs A H0 cells slots Q q σ lv' (pc + 3) st) : J p l e R s m args below meth c nL D cs A H0 cells slots Q q σ lv pc st := fun H locs ls hO hP hD hS hl => lv_iinc X.1 X.2.1 hd hl hx hv0 hn hv (fun ls' hl' => k H locs ls' hO hP hD hS hl')
theorem j_aload_nq (X : Cx p s m args c cc nL own D cs A H0) {kk : Fin 4} {i : Nat} {x : Option Nat} (hd : decode cc pc = .ok (.aload_n kk, 1)) (ix : Nat) (hi : (kk : Nat) = i) (hx : lv[ix]? = some (i, va_rf x)) (k : J p l e R s m args below meth c nL D cs A H0 cells slots Q q σ lv (pc + 1) (va_rf x :: st)) : J p l e R s m args below meth c nL D cs A H0 cells slots Q q σ lv pc st := fun H locs ls hO hP hD hS hl => by
  cases x with
  | none => exact lv_aload_nN X.1 X.2.1 hd hi (lv_at hl ix hx) (k H locs ls hO hP hD hS hl)
  | some a => exact lv_aload_n X.1 X.2.1 hd hi (lv_at hl ix hx) (k H locs ls hO hP hD hS hl)
theorem j_aloadq (X : Cx p s m args c cc nL own D cs A H0) {i : Nat} {x : Option Nat} (hd : decode cc pc = .ok (.aload i, 2)) (ix : Nat) (hx : lv[ix]? = some (i, va_rf x)) (k : J p l e R s m args below meth c nL D cs A H0 cells slots Q q σ lv (pc + 2) (va_rf x :: st)) : J p l e R s m args below meth c nL D cs A H0 cells slots Q q σ lv pc st := fun H locs ls hO hP hD hS hl => by
  cases x with
  | none => exact lv_aloadN X.1 X.2.1 hd (lv_at hl ix hx) (k H locs ls hO hP hD hS hl)
  | some a => exact lv_aload X.1 X.2.1 hd (lv_at hl ix hx) (k H locs ls hO hP hD hS hl)
theorem j_astore_nq (X : Cx p s m args c cc nL own D cs A H0) {kk : Fin 4} {i : Nat} {x : Option Nat} {lv' : List (Nat × Value)} (hd : decode cc pc = .ok (.astore_n kk, 1)) (hi : (kk : Nat) = i) (hn : i < nL) (hv : (i, va_rf x) :: lv.filter (fun q => !(q.1 == i) && !(q.1 + 1 == i && q.2.category == 2)) = lv') (k : J p l e R s m args below meth c nL D cs A H0 cells slots Q q σ lv' (pc + 1) st) : J p l e R s m args below meth c nL D cs A H0 cells slots Q q σ lv pc (va_rf x :: st) := fun H locs ls hO hP hD hS hl => by
  cases x with
  | none => exact lv_astore_nN X.1 X.2.1 hd hi hl hn hv (fun ls' hl' => k H locs ls' hO hP hD hS hl')
  | some a => exact lv_astore_n X.1 X.2.1 hd hi hl hn hv (fun ls' hl' => k H locs ls' hO hP hD hS hl')
theorem j_astoreq (X : Cx p s m args c cc nL own D cs A H0) {i : Nat} {x : Option Nat} {lv' : List (Nat × Value)} (hd : decode cc pc = .ok (.astore i, 2)) (hn : i < nL) (hv : (i, va_rf x) :: lv.filter (fun q => !(q.1 == i) && !(q.1 + 1 == i && q.2.category == 2)) = lv') (k : J p l e R s m args below meth c nL D cs A H0 cells slots Q q σ lv' (pc + 2) st) : J p l e R s m args below meth c nL D cs A H0 cells slots Q q σ lv pc (va_rf x :: st) := fun H locs ls hO hP hD hS hl => by
  cases x with
  | none => exact lv_astoreN X.1 X.2.1 hd hl hn hv (fun ls' hl' => k H locs ls' hO hP hD hS hl')
  | some a => exact lv_astore X.1 X.2.1 hd hl hn hv (fun ls' hl' => k H locs ls' hO hP hD hS hl')
theorem j_iadd (X : Cx p s m args c cc nL own D cs A H0) {x y : Int32} (hd : decode cc pc = .ok (.iadd, 1))  (k : J p l e R s m args below meth c nL D cs A H0 cells slots Q q σ lv (pc + 1) (.int (x + y) :: st)) : J p l e R s m args below meth c nL D cs A H0 cells slots Q q σ lv pc (.int y :: .int x :: st) := fun H locs ls hO hP hD hS hl => lv_iadd X.1 X.2.1 hd  (k H locs ls hO hP hD hS hl)
theorem j_isub (X : Cx p s m args c cc nL own D cs A H0) {x y : Int32} (hd : decode cc pc = .ok (.isub, 1))  (k : J p l e R s m args below meth c nL D cs A H0 cells slots Q q σ lv (pc + 1) (.int (x - y) :: st)) : J p l e R s m args below meth c nL D cs A H0 cells slots Q q σ lv pc (.int y :: .int x :: st) := fun H locs ls hO hP hD hS hl => lv_isub X.1 X.2.1 hd  (k H locs ls hO hP hD hS hl)
theorem j_imul (X : Cx p s m args c cc nL own D cs A H0) {x y : Int32} (hd : decode cc pc = .ok (.imul, 1))  (k : J p l e R s m args below meth c nL D cs A H0 cells slots Q q σ lv (pc + 1) (.int (x * y) :: st)) : J p l e R s m args below meth c nL D cs A H0 cells slots Q q σ lv pc (.int y :: .int x :: st) := fun H locs ls hO hP hD hS hl => lv_imul X.1 X.2.1 hd  (k H locs ls hO hP hD hS hl)
theorem j_iand (X : Cx p s m args c cc nL own D cs A H0) {x y : Int32} (hd : decode cc pc = .ok (.iand, 1))  (k : J p l e R s m args below meth c nL D cs A H0 cells slots Q q σ lv (pc + 1) (.int (x &&& y) :: st)) : J p l e R s m args below meth c nL D cs A H0 cells slots Q q σ lv pc (.int y :: .int x :: st) := fun H locs ls hO hP hD hS hl => lv_iand X.1 X.2.1 hd  (k H locs ls hO hP hD hS hl)
theorem j_ior (X : Cx p s m args c cc nL own D cs A H0) {x y : Int32} (hd : decode cc pc = .ok (.ior, 1))  (k : J p l e R s m args below meth c nL D cs A H0 cells slots Q q σ lv (pc + 1) (.int (x ||| y) :: st)) : J p l e R s m args below meth c nL D cs A H0 cells slots Q q σ lv pc (.int y :: .int x :: st) := fun H locs ls hO hP hD hS hl => lv_ior X.1 X.2.1 hd  (k H locs ls hO hP hD hS hl)
theorem j_ixor (X : Cx p s m args c cc nL own D cs A H0) {x y : Int32} (hd : decode cc pc = .ok (.ixor, 1))  (k : J p l e R s m args below meth c nL D cs A H0 cells slots Q q σ lv (pc + 1) (.int (x ^^^ y) :: st)) : J p l e R s m args below meth c nL D cs A H0 cells slots Q q σ lv pc (.int y :: .int x :: st) := fun H locs ls hO hP hD hS hl => lv_ixor X.1 X.2.1 hd  (k H locs ls hO hP hD hS hl)
theorem j_ishl (X : Cx p s m args c cc nL own D cs A H0) {x y : Int32} (hd : decode cc pc = .ok (.ishl, 1))  (k : J p l e R s m args below meth c nL D cs A H0 cells slots Q q σ lv (pc + 1) (.int (x <<< (y &&& 31)) :: st)) : J p l e R s m args below meth c nL D cs A H0 cells slots Q q σ lv pc (.int y :: .int x :: st) := fun H locs ls hO hP hD hS hl => lv_ishl X.1 X.2.1 hd  (k H locs ls hO hP hD hS hl)
theorem j_ishr (X : Cx p s m args c cc nL own D cs A H0) {x y : Int32} (hd : decode cc pc = .ok (.ishr, 1))  (k : J p l e R s m args below meth c nL D cs A H0 cells slots Q q σ lv (pc + 1) (.int (x >>> (y &&& 31)) :: st)) : J p l e R s m args below meth c nL D cs A H0 cells slots Q q σ lv pc (.int y :: .int x :: st) := fun H locs ls hO hP hD hS hl => lv_ishr X.1 X.2.1 hd  (k H locs ls hO hP hD hS hl)
theorem j_idiv (X : Cx p s m args c cc nL own D cs A H0) {x y : Int32} (hd : decode cc pc = .ok (.idiv, 1)) (hne : ¬ y = 0) (k : J p l e R s m args below meth c nL D cs A H0 cells slots Q q σ lv (pc + 1) (.int (x / y) :: st)) : J p l e R s m args below meth c nL D cs A H0 cells slots Q q σ lv pc (.int y :: .int x :: st) := fun H locs ls hO hP hD hS hl => lv_idiv X.1 X.2.1 hd hne (k H locs ls hO hP hD hS hl)
theorem j_irem (X : Cx p s m args c cc nL own D cs A H0) {x y : Int32} (hd : decode cc pc = .ok (.irem, 1)) (hne : ¬ y = 0) (k : J p l e R s m args below meth c nL D cs A H0 cells slots Q q σ lv (pc + 1) (.int (x - x / y * y) :: st)) : J p l e R s m args below meth c nL D cs A H0 cells slots Q q σ lv pc (.int y :: .int x :: st) := fun H locs ls hO hP hD hS hl => lv_irem X.1 X.2.1 hd hne (k H locs ls hO hP hD hS hl)
theorem j_ladd (X : Cx p s m args c cc nL own D cs A H0) {x y : Int64} (hd : decode cc pc = .ok (.ladd, 1))  (k : J p l e R s m args below meth c nL D cs A H0 cells slots Q q σ lv (pc + 1) (.long (x + y) :: st)) : J p l e R s m args below meth c nL D cs A H0 cells slots Q q σ lv pc (.long y :: .long x :: st) := fun H locs ls hO hP hD hS hl => lv_ladd X.1 X.2.1 hd  (k H locs ls hO hP hD hS hl)
theorem j_lsub (X : Cx p s m args c cc nL own D cs A H0) {x y : Int64} (hd : decode cc pc = .ok (.lsub, 1))  (k : J p l e R s m args below meth c nL D cs A H0 cells slots Q q σ lv (pc + 1) (.long (x - y) :: st)) : J p l e R s m args below meth c nL D cs A H0 cells slots Q q σ lv pc (.long y :: .long x :: st) := fun H locs ls hO hP hD hS hl => lv_lsub X.1 X.2.1 hd  (k H locs ls hO hP hD hS hl)
theorem j_lmul (X : Cx p s m args c cc nL own D cs A H0) {x y : Int64} (hd : decode cc pc = .ok (.lmul, 1))  (k : J p l e R s m args below meth c nL D cs A H0 cells slots Q q σ lv (pc + 1) (.long (x * y) :: st)) : J p l e R s m args below meth c nL D cs A H0 cells slots Q q σ lv pc (.long y :: .long x :: st) := fun H locs ls hO hP hD hS hl => lv_lmul X.1 X.2.1 hd  (k H locs ls hO hP hD hS hl)
theorem j_land (X : Cx p s m args c cc nL own D cs A H0) {x y : Int64} (hd : decode cc pc = .ok (.land, 1))  (k : J p l e R s m args below meth c nL D cs A H0 cells slots Q q σ lv (pc + 1) (.long (x &&& y) :: st)) : J p l e R s m args below meth c nL D cs A H0 cells slots Q q σ lv pc (.long y :: .long x :: st) := fun H locs ls hO hP hD hS hl => lv_land X.1 X.2.1 hd  (k H locs ls hO hP hD hS hl)
theorem j_lor (X : Cx p s m args c cc nL own D cs A H0) {x y : Int64} (hd : decode cc pc = .ok (.lor, 1))  (k : J p l e R s m args below meth c nL D cs A H0 cells slots Q q σ lv (pc + 1) (.long (x ||| y) :: st)) : J p l e R s m args below meth c nL D cs A H0 cells slots Q q σ lv pc (.long y :: .long x :: st) := fun H locs ls hO hP hD hS hl => lv_lor X.1 X.2.1 hd  (k H locs ls hO hP hD hS hl)
theorem j_ldiv (X : Cx p s m args c cc nL own D cs A H0) {x y : Int64} (hd : decode cc pc = .ok (.ldiv, 1)) (hne : ¬ y = 0) (k : J p l e R s m args below meth c nL D cs A H0 cells slots Q q σ lv (pc + 1) (.long (x / y) :: st)) : J p l e R s m args below meth c nL D cs A H0 cells slots Q q σ lv pc (.long y :: .long x :: st) := fun H locs ls hO hP hD hS hl => lv_ldiv X.1 X.2.1 hd hne (k H locs ls hO hP hD hS hl)
theorem j_lrem (X : Cx p s m args c cc nL own D cs A H0) {x y : Int64} (hd : decode cc pc = .ok (.lrem, 1)) (hne : ¬ y = 0) (k : J p l e R s m args below meth c nL D cs A H0 cells slots Q q σ lv (pc + 1) (.long (x - x / y * y) :: st)) : J p l e R s m args below meth c nL D cs A H0 cells slots Q q σ lv pc (.long y :: .long x :: st) := fun H locs ls hO hP hD hS hl => lv_lrem X.1 X.2.1 hd hne (k H locs ls hO hP hD hS hl)
theorem j_ineg (X : Cx p s m args c cc nL own D cs A H0) {x : Int32} (hd : decode cc pc = .ok (.ineg, 1))  (k : J p l e R s m args below meth c nL D cs A H0 cells slots Q q σ lv (pc + 1) (.int (-x) :: st)) : J p l e R s m args below meth c nL D cs A H0 cells slots Q q σ lv pc (.int x :: st) := fun H locs ls hO hP hD hS hl => lv_ineg X.1 X.2.1 hd  (k H locs ls hO hP hD hS hl)
theorem j_lneg (X : Cx p s m args c cc nL own D cs A H0) {x : Int64} (hd : decode cc pc = .ok (.lneg, 1))  (k : J p l e R s m args below meth c nL D cs A H0 cells slots Q q σ lv (pc + 1) (.long (-x) :: st)) : J p l e R s m args below meth c nL D cs A H0 cells slots Q q σ lv pc (.long x :: st) := fun H locs ls hO hP hD hS hl => lv_lneg X.1 X.2.1 hd  (k H locs ls hO hP hD hS hl)
theorem j_i2l (X : Cx p s m args c cc nL own D cs A H0) {x : Int32} (hd : decode cc pc = .ok (.i2l, 1))  (k : J p l e R s m args below meth c nL D cs A H0 cells slots Q q σ lv (pc + 1) (.long x.toInt64 :: st)) : J p l e R s m args below meth c nL D cs A H0 cells slots Q q σ lv pc (.int x :: st) := fun H locs ls hO hP hD hS hl => lv_i2l X.1 X.2.1 hd rfl (k H locs ls hO hP hD hS hl)
theorem j_l2i (X : Cx p s m args c cc nL own D cs A H0) {x : Int64} (hd : decode cc pc = .ok (.l2i, 1))  (k : J p l e R s m args below meth c nL D cs A H0 cells slots Q q σ lv (pc + 1) (.int x.toInt32 :: st)) : J p l e R s m args below meth c nL D cs A H0 cells slots Q q σ lv pc (.long x :: st) := fun H locs ls hO hP hD hS hl => lv_l2i X.1 X.2.1 hd rfl (k H locs ls hO hP hD hS hl)
theorem j_lshl (X : Cx p s m args c cc nL own D cs A H0) {x : Int64} {y : Int32} (hd : decode cc pc = .ok (.lshl, 1))  (k : J p l e R s m args below meth c nL D cs A H0 cells slots Q q σ lv (pc + 1) (.long (x <<< (y.toInt64 &&& 63)) :: st)) : J p l e R s m args below meth c nL D cs A H0 cells slots Q q σ lv pc (.int y :: .long x :: st) := fun H locs ls hO hP hD hS hl => lv_lshl X.1 X.2.1 hd rfl (k H locs ls hO hP hD hS hl)
theorem j_lcmp (X : Cx p s m args c cc nL own D cs A H0) {x y : Int64} (hd : decode cc pc = .ok (.lcmp, 1))  (k : J p l e R s m args below meth c nL D cs A H0 cells slots Q q σ lv (pc + 1) (.int (lg_cmp x y) :: st)) : J p l e R s m args below meth c nL D cs A H0 cells slots Q q σ lv pc (.long y :: .long x :: st) := fun H locs ls hO hP hD hS hl => W.lcmp X.1 X.2.1 hd  (k H locs ls hO hP hD hS hl)
theorem j_dup (X : Cx p s m args c cc nL own D cs A H0) {va : Value} (hd : decode cc pc = .ok (.dup, 1)) (hva : va.category = 1) (k : J p l e R s m args below meth c nL D cs A H0 cells slots Q q σ lv (pc + 1) (va :: va :: st)) : J p l e R s m args below meth c nL D cs A H0 cells slots Q q σ lv pc (va :: st) := fun H locs ls hO hP hD hS hl => lv_dup X.1 X.2.1 hd hva (k H locs ls hO hP hD hS hl)
theorem j_dup2 (X : Cx p s m args c cc nL own D cs A H0) {va vb : Value} (hd : decode cc pc = .ok (.dup2, 1)) (hva : va.category = 1) (hvb : vb.category = 1) (k : J p l e R s m args below meth c nL D cs A H0 cells slots Q q σ lv (pc + 1) (va :: vb :: va :: vb :: st)) : J p l e R s m args below meth c nL D cs A H0 cells slots Q q σ lv pc (va :: vb :: st) := fun H locs ls hO hP hD hS hl => lv_dup2_11 X.1 X.2.1 hd hva hvb (k H locs ls hO hP hD hS hl)
theorem j_pop (X : Cx p s m args c cc nL own D cs A H0) {va : Value} (hd : decode cc pc = .ok (.pop, 1)) (hva : va.category = 1) (k : J p l e R s m args below meth c nL D cs A H0 cells slots Q q σ lv (pc + 1) (st)) : J p l e R s m args below meth c nL D cs A H0 cells slots Q q σ lv pc (va :: st) := fun H locs ls hO hP hD hS hl => lv_pop X.1 X.2.1 hd hva (k H locs ls hO hP hD hS hl)
theorem j_pop2 (X : Cx p s m args c cc nL own D cs A H0) {va : Value} (hd : decode cc pc = .ok (.pop2, 1)) (hva : va.category = 2) (k : J p l e R s m args below meth c nL D cs A H0 cells slots Q q σ lv (pc + 1) (st)) : J p l e R s m args below meth c nL D cs A H0 cells slots Q q σ lv pc (va :: st) := fun H locs ls hO hP hD hS hl => lv_pop2_2 X.1 X.2.1 hd hva (k H locs ls hO hP hD hS hl)
theorem j_null (X : Cx p s m args c cc nL own D cs A H0)  (hd : decode cc pc = .ok (.aconst_null, 1))  (k : J p l e R s m args below meth c nL D cs A H0 cells slots Q q σ lv (pc + 1) (.null :: st)) : J p l e R s m args below meth c nL D cs A H0 cells slots Q q σ lv pc (st) := fun H locs ls hO hP hD hS hl => lv_null X.1 X.2.1 hd  (k H locs ls hO hP hD hS hl)
theorem j_goto (X : Cx p s m args c cc nL own D cs A H0) {off : Int} {tgt : Nat} (hd : decode cc pc = .ok (.goto off, 3)) (ht : (pc : Int) + off = (tgt : Int)) (k : J p l e R s m args below meth c nL D cs A H0 cells slots Q q σ lv tgt st) : J p l e R s m args below meth c nL D cs A H0 cells slots Q q σ lv pc st := fun H locs ls hO hP hD hS hl => lv_goto X.1 X.2.1 hd ht (k H locs ls hO hP hD hS hl)
theorem j_if_eq (X : Cx p s m args c cc nL own D cs A H0) {x : Int32} {off : Int} {tgt : Nat} (hd : decode cc pc = .ok (.ifCond .eq off, 3)) (ht : (pc : Int) + off = (tgt : Int)) (kt : x = 0 → J p l e R s m args below meth c nL D cs A H0 cells slots Q q σ lv tgt st) (kf : ¬ x = 0 → J p l e R s m args below meth c nL D cs A H0 cells slots Q q σ lv (pc + 3) st) : J p l e R s m args below meth c nL D cs A H0 cells slots Q q σ lv pc (.int x :: st) := fun H locs ls hO hP hD hS hl => lv_if_eq X.1 X.2.1 hd ht (fun z => kt z H locs ls hO hP hD hS hl) (fun z => kf z H locs ls hO hP hD hS hl)
theorem j_icmp_eq (X : Cx p s m args c cc nL own D cs A H0) {x y : Int32} {off : Int} {tgt : Nat} (hd : decode cc pc = .ok (.if_icmp .eq off, 3)) (ht : (pc : Int) + off = (tgt : Int)) (kt : x = y → J p l e R s m args below meth c nL D cs A H0 cells slots Q q σ lv tgt st) (kf : ¬ x = y → J p l e R s m args below meth c nL D cs A H0 cells slots Q q σ lv (pc + 3) st) : J p l e R s m args below meth c nL D cs A H0 cells slots Q q σ lv pc (.int y :: .int x :: st) := fun H locs ls hO hP hD hS hl => lv_icmp_eq X.1 X.2.1 hd ht (fun z => kt z H locs ls hO hP hD hS hl) (fun z => kf z H locs ls hO hP hD hS hl)
theorem j_if_ne (X : Cx p s m args c cc nL own D cs A H0) {x : Int32} {off : Int} {tgt : Nat} (hd : decode cc pc = .ok (.ifCond .ne off, 3)) (ht : (pc : Int) + off = (tgt : Int)) (kt : ¬ x = 0 → J p l e R s m args below meth c nL D cs A H0 cells slots Q q σ lv tgt st) (kf : x = 0 → J p l e R s m args below meth c nL D cs A H0 cells slots Q q σ lv (pc + 3) st) : J p l e R s m args below meth c nL D cs A H0 cells slots Q q σ lv pc (.int x :: st) := fun H locs ls hO hP hD hS hl => lv_if_ne X.1 X.2.1 hd ht (fun z => kt z H locs ls hO hP hD hS hl) (fun z => kf z H locs ls hO hP hD hS hl)
theorem j_icmp_ne (X : Cx p s m args c cc nL own D cs A H0) {x y : Int32} {off : Int} {tgt : Nat} (hd : decode cc pc = .ok (.if_icmp .ne off, 3)) (ht : (pc : Int) + off = (tgt : Int)) (kt : ¬ x = y → J p l e R s m args below meth c nL D cs A H0 cells slots Q q σ lv tgt st) (kf : x = y → J p l e R s m args below meth c nL D cs A H0 cells slots Q q σ lv (pc + 3) st) : J p l e R s m args below meth c nL D cs A H0 cells slots Q q σ lv pc (.int y :: .int x :: st) := fun H locs ls hO hP hD hS hl => lv_icmp_ne X.1 X.2.1 hd ht (fun z => kt z H locs ls hO hP hD hS hl) (fun z => kf z H locs ls hO hP hD hS hl)
theorem j_if_lt (X : Cx p s m args c cc nL own D cs A H0) {x : Int32} {off : Int} {tgt : Nat} (hd : decode cc pc = .ok (.ifCond .lt off, 3)) (ht : (pc : Int) + off = (tgt : Int)) (kt : x < 0 → J p l e R s m args below meth c nL D cs A H0 cells slots Q q σ lv tgt st) (kf : ¬ x < 0 → J p l e R s m args below meth c nL D cs A H0 cells slots Q q σ lv (pc + 3) st) : J p l e R s m args below meth c nL D cs A H0 cells slots Q q σ lv pc (.int x :: st) := fun H locs ls hO hP hD hS hl => lv_if_lt X.1 X.2.1 hd ht (fun z => kt z H locs ls hO hP hD hS hl) (fun z => kf z H locs ls hO hP hD hS hl)
theorem j_icmp_lt (X : Cx p s m args c cc nL own D cs A H0) {x y : Int32} {off : Int} {tgt : Nat} (hd : decode cc pc = .ok (.if_icmp .lt off, 3)) (ht : (pc : Int) + off = (tgt : Int)) (kt : x < y → J p l e R s m args below meth c nL D cs A H0 cells slots Q q σ lv tgt st) (kf : ¬ x < y → J p l e R s m args below meth c nL D cs A H0 cells slots Q q σ lv (pc + 3) st) : J p l e R s m args below meth c nL D cs A H0 cells slots Q q σ lv pc (.int y :: .int x :: st) := fun H locs ls hO hP hD hS hl => lv_icmp_lt X.1 X.2.1 hd ht (fun z => kt z H locs ls hO hP hD hS hl) (fun z => kf z H locs ls hO hP hD hS hl)
theorem j_if_ge (X : Cx p s m args c cc nL own D cs A H0) {x : Int32} {off : Int} {tgt : Nat} (hd : decode cc pc = .ok (.ifCond .ge off, 3)) (ht : (pc : Int) + off = (tgt : Int)) (kt : 0 ≤ x → J p l e R s m args below meth c nL D cs A H0 cells slots Q q σ lv tgt st) (kf : ¬ 0 ≤ x → J p l e R s m args below meth c nL D cs A H0 cells slots Q q σ lv (pc + 3) st) : J p l e R s m args below meth c nL D cs A H0 cells slots Q q σ lv pc (.int x :: st) := fun H locs ls hO hP hD hS hl => lv_if_ge X.1 X.2.1 hd ht (fun z => kt z H locs ls hO hP hD hS hl) (fun z => kf z H locs ls hO hP hD hS hl)
theorem j_icmp_ge (X : Cx p s m args c cc nL own D cs A H0) {x y : Int32} {off : Int} {tgt : Nat} (hd : decode cc pc = .ok (.if_icmp .ge off, 3)) (ht : (pc : Int) + off = (tgt : Int)) (kt : y ≤ x → J p l e R s m args below meth c nL D cs A H0 cells slots Q q σ lv tgt st) (kf : ¬ y ≤ x → J p l e R s m args below meth c nL D cs A H0 cells slots Q q σ lv (pc + 3) st) : J p l e R s m args below meth c nL D cs A H0 cells slots Q q σ lv pc (.int y :: .int x :: st) := fun H locs ls hO hP hD hS hl => lv_icmp_ge X.1 X.2.1 hd ht (fun z => kt z H locs ls hO hP hD hS hl) (fun z => kf z H locs ls hO hP hD hS hl)
theorem j_if_gt (X : Cx p s m args c cc nL own D cs A H0) {x : Int32} {off : Int} {tgt : Nat} (hd : decode cc pc = .ok (.ifCond .gt off, 3)) (ht : (pc : Int) + off = (tgt : Int)) (kt : 0 < x → J p l e R s m args below meth c nL D cs A H0 cells slots Q q σ lv tgt st) (kf : ¬ 0 < x → J p l e R s m args below meth c nL D cs A H0 cells slots Q q σ lv (pc + 3) st) : J p l e R s m args below meth c nL D cs A H0 cells slots Q q σ lv pc (.int x :: st) := fun H locs ls hO hP hD hS hl => lv_if_gt X.1 X.2.1 hd ht (fun z => kt z H locs ls hO hP hD hS hl) (fun z => kf z H locs ls hO hP hD hS hl)
theorem j_icmp_gt (X : Cx p s m args c cc nL own D cs A H0) {x y : Int32} {off : Int} {tgt : Nat} (hd : decode cc pc = .ok (.if_icmp .gt off, 3)) (ht : (pc : Int) + off = (tgt : Int)) (kt : y < x → J p l e R s m args below meth c nL D cs A H0 cells slots Q q σ lv tgt st) (kf : ¬ y < x → J p l e R s m args below meth c nL D cs A H0 cells slots Q q σ lv (pc + 3) st) : J p l e R s m args below meth c nL D cs A H0 cells slots Q q σ lv pc (.int y :: .int x :: st) := fun H locs ls hO hP hD hS hl => lv_icmp_gt X.1 X.2.1 hd ht (fun z => kt z H locs ls hO hP hD hS hl) (fun z => kf z H locs ls hO hP hD hS hl)
theorem j_if_le (X : Cx p s m args c cc nL own D cs A H0) {x : Int32} {off : Int} {tgt : Nat} (hd : decode cc pc = .ok (.ifCond .le off, 3)) (ht : (pc : Int) + off = (tgt : Int)) (kt : x ≤ 0 → J p l e R s m args below meth c nL D cs A H0 cells slots Q q σ lv tgt st) (kf : ¬ x ≤ 0 → J p l e R s m args below meth c nL D cs A H0 cells slots Q q σ lv (pc + 3) st) : J p l e R s m args below meth c nL D cs A H0 cells slots Q q σ lv pc (.int x :: st) := fun H locs ls hO hP hD hS hl => lv_if_le X.1 X.2.1 hd ht (fun z => kt z H locs ls hO hP hD hS hl) (fun z => kf z H locs ls hO hP hD hS hl)
theorem j_icmp_le (X : Cx p s m args c cc nL own D cs A H0) {x y : Int32} {off : Int} {tgt : Nat} (hd : decode cc pc = .ok (.if_icmp .le off, 3)) (ht : (pc : Int) + off = (tgt : Int)) (kt : x ≤ y → J p l e R s m args below meth c nL D cs A H0 cells slots Q q σ lv tgt st) (kf : ¬ x ≤ y → J p l e R s m args below meth c nL D cs A H0 cells slots Q q σ lv (pc + 3) st) : J p l e R s m args below meth c nL D cs A H0 cells slots Q q σ lv pc (.int y :: .int x :: st) := fun H locs ls hO hP hD hS hl => lv_icmp_le X.1 X.2.1 hd ht (fun z => kt z H locs ls hO hP hD hS hl) (fun z => kf z H locs ls hO hP hD hS hl)
theorem j_ifnull (X : Cx p s m args c cc nL own D cs A H0) {o : Option Nat} {off : Int} {tgt : Nat} (hd : decode cc pc = .ok (.ifnull off, 3)) (ht : (pc : Int) + off = (tgt : Int)) (k1 : o = none → J p l e R s m args below meth c nL D cs A H0 cells slots Q q σ lv tgt st) (k2 : ∀ i, o = some i → J p l e R s m args below meth c nL D cs A H0 cells slots Q q σ lv (pc + 3) st) : J p l e R s m args below meth c nL D cs A H0 cells slots Q q σ lv pc (va_rf (o.map q) :: st) := fun H locs ls hO hP hD hS hl => by
  cases o with
  | none => exact lv_ifnullN X.1 X.2.1 hd ht (k1 rfl H locs ls hO hP hD hS hl)
  | some i => exact lv_ifnull X.1 X.2.1 hd (k2 i rfl H locs ls hO hP hD hS hl)
theorem j_ifnonnull (X : Cx p s m args c cc nL own D cs A H0) {o : Option Nat} {off : Int} {tgt : Nat} (hd : decode cc pc = .ok (.ifnonnull off, 3)) (ht : (pc : Int) + off = (tgt : Int)) (k1 : o = none → J p l e R s m args below meth c nL D cs A H0 cells slots Q q σ lv (pc + 3) st) (k2 : ∀ i, o = some i → J p l e R s m args below meth c nL D cs A H0 cells slots Q q σ lv tgt st) : J p l e R s m args below meth c nL D cs A H0 cells slots Q q σ lv pc (va_rf (o.map q) :: st) := fun H locs ls hO hP hD hS hl => by
  cases o with
  | none => exact lv_ifnonnullN X.1 X.2.1 hd (k1 rfl H locs ls hO hP hD hS hl)
  | some i => exact lv_ifnonnull X.1 X.2.1 hd ht (k2 i rfl H locs ls hO hP hD hS hl)
theorem j_nmi {x : Int32} (k : ∀ y : Int32, y = x → J p l e R s m args below meth c nL D cs A H0 cells slots Q q σ lv pc (.int y :: st)) : J p l e R s m args below meth c nL D cs A H0 cells slots Q q σ lv pc (.int x :: st) := k x rfl
theorem j_nml {x : Int64} (k : ∀ y : Int64, y = x → J p l e R s m args below meth c nL D cs A H0 cells slots Q q σ lv pc (.long y :: st)) : J p l e R s m args below meth c nL D cs A H0 cells slots Q q σ lv pc (.long x :: st) := k x rfl
theorem j_ldc (X : Cx p s m args c cc nL own D cs A H0) {i : Nat} {v : Int32} (hw : Cond.constant own i v ∈ lw_g) (hd : decode cc pc = .ok (.ldc i, 2)) (k : J p l e R s m args below meth c nL D cs A H0 cells slots Q q σ lv (pc + 2) (.int v :: st)) : J p l e R s m args below meth c nL D cs A H0 cells slots Q q σ lv pc st := fun H locs ls hO hP hD hS hl => lv_ldc X.1 X.2.1 X.2.2.2.1 (X.2.2.2.2.1 _ hw) hd (k H locs ls hO hP hD hS hl)
theorem j_ldcw (X : Cx p s m args c cc nL own D cs A H0) {i : Nat} {v : Int32} (hw : Cond.constant own i v ∈ lw_g) (hd : decode cc pc = .ok (.ldc_w i, 3)) (k : J p l e R s m args below meth c nL D cs A H0 cells slots Q q σ lv (pc + 3) (.int v :: st)) : J p l e R s m args below meth c nL D cs A H0 cells slots Q q σ lv pc st := fun H locs ls hO hP hD hS hl => lv_ldcw X.1 X.2.1 X.2.2.2.1 (X.2.2.2.2.1 _ hw) hd (k H locs ls hO hP hD hS hl)
theorem j_ldc2 (X : Cx p s m args c cc nL own D cs A H0) {i : Nat} {v : Int64} (hw : Cond.constantLong own i v ∈ lw_g) (hd : decode cc pc = .ok (.ldc2_w i, 3)) (k : J p l e R s m args below meth c nL D cs A H0 cells slots Q q σ lv (pc + 3) (.long v :: st)) : J p l e R s m args below meth c nL D cs A H0 cells slots Q q σ lv pc st := fun H locs ls hO hP hD hS hl => lv_ldc2 X.1 X.2.1 X.2.2.2.1 (X.2.2.2.2.1 _ hw) hd (k H locs ls hO hP hD hS hl)
theorem j_tabOut (X : Cx p s m args c cc nL own D cs A H0) {dflt lo hi : Int} {offs : Array Int} {len : Nat} {x : Int32} {tgt : Nat} (hd : decode cc pc = .ok (.tableswitch dflt lo hi offs, len)) (h : x.toInt < lo ∨ hi < x.toInt) (ht : (pc : Int) + dflt = (tgt : Int)) (k : J p l e R s m args below meth c nL D cs A H0 cells slots Q q σ lv tgt st) : J p l e R s m args below meth c nL D cs A H0 cells slots Q q σ lv pc (.int x :: st) := fun H locs ls hO hP hD hS hl => lv_tableOut X.1 X.2.1 hd h ht (k H locs ls hO hP hD hS hl)
theorem j_tabIn (X : Cx p s m args c cc nL own D cs A H0) {dflt lo hi : Int} {offs : Array Int} {len : Nat} {x v : Int32} {off : Int} {tgt : Nat} (hd : decode cc pc = .ok (.tableswitch dflt lo hi offs, len)) (hx : x = v) (h1 : ¬ v.toInt < lo) (h2 : ¬ hi < v.toInt) (ho : offs[(v.toInt - lo).toNat]? = some off) (ht : (pc : Int) + off = (tgt : Int)) (k : J p l e R s m args below meth c nL D cs A H0 cells slots Q q σ lv tgt st) : J p l e R s m args below meth c nL D cs A H0 cells slots Q q σ lv pc (.int x :: st) := fun H locs ls hO hP hD hS hl => by
  subst hx
  exact lv_tableIn X.1 X.2.1 hd h1 h2 ho ht (k H locs ls hO hP hD hS hl)
theorem j_lookup (X : Cx p s m args c cc nL own D cs A H0) {dflt : Int} {ps : Array (Int × Int)} {len : Nat} {x : Int32} {off : Int} {tgt : Nat} (hd : decode cc pc = .ok (.lookupswitch dflt ps, len)) (hp : (ps.toList.zip (ps.toList.drop 1)).all (fun (a, next) => a.1 < next.1) = true) (ho : Op.lookupswitch.offset ps.toList dflt x.toInt = off) (ht : (pc : Int) + off = (tgt : Int)) (k : J p l e R s m args below meth c nL D cs A H0 cells slots Q q σ lv tgt st) : J p l e R s m args below meth c nL D cs A H0 cells slots Q q σ lv pc (.int x :: st) := fun H locs ls hO hP hD hS hl => lv_lookup X.1 X.2.1 hd hp ho ht (k H locs ls hO hP hD hS hl)
/-- a field: read in class own by entry 'index' of its pool, place k of class t, of kind d -/
def FD (own : String) (index t k d : Nat) : Prop := ∃ (C : String) (T : u_T) (N : Nat), classes[t]? = some (C, T, N) ∧ k < N ∧ (fk t)[k]? = some d ∧ t < 10 ∧ (∀ w ∈ u_ws C T N, w ∈ lw_g) ∧ Cond.fieldLink own index C (T k).2.1 (T k).2.2.1 ∈ lw_g ∧ (T k).1 = C
/-- .. and written, of type ty, final or not -/
def FP (own : String) (index t k d : Nat) (ty : FieldType) (fin : Bool) : Prop := ∃ (C : String) (T : u_T) (N : Nat) (ty0 : Nat → FieldType), classes[t]? = some (C, T, N) ∧ k < N ∧ (fk t)[k]? = some d ∧ t < 10 ∧ (∀ w ∈ u_ws C T N, w ∈ lw_g) ∧ Cond.fieldLink own index C (T k).2.1 (T k).2.2.1 ∈ lw_g ∧ (T k).1 = C ∧ (∀ k, k < N → parseFieldDescriptor (T k).2.2.1 = some (ty0 k)) ∧ (∀ a, a < N → ∀ b, b < N → a ≠ b → (T a).2.1 ≠ (T b).2.1) ∧ (T k).2.2.2 = fin ∧ parseFieldDescriptor (T k).2.2.1 = some ty ∧ k < (fk t).length
theorem j_geti (X : Cx p s m args c cc nL own D cs A H0) {index t k j : Nat} (F : FD own index t k 0) (h : isO σ t j) (hd : decode cc pc = .ok (.getfield index, 3)) (kk : ∀ v : Int32, v = hA σ j k → J p l e R s m args below meth c nL D cs A H0 cells slots Q q σ lv (pc + 3) (.int v :: st)) : J p l e R s m args below meth c nL D cs A H0 cells slots Q q σ lv pc (.ref (q j) :: st) := fun H locs ls hO hP hD hS hl => by
  obtain ⟨C, T, N, hc, hk, hf, h10, hin, hlk, hT⟩ := F
  exact va_get X.1 X.2.1 X.2.2.2.2.1 hin X.2.2.2.1 X.2.2.2.2.2.1 hP j (by rw [hW_get h.1, hE_o h.2 h10]) hc k hk (X.2.2.2.2.1 _ hlk) (fun x hx => by rw [hT] at hx; exact hx) (v := .int (hA σ j k)) (by rw [hF_get hf]; rfl) hd (kk _ rfl H locs ls hO hP hD hS hl)
theorem j_getl (X : Cx p s m args c cc nL own D cs A H0) {index t k j : Nat} (F : FD own index t k 1) (h : isO σ t j) (hd : decode cc pc = .ok (.getfield index, 3)) (kk : ∀ v : Int64, v = hB σ j k → J p l e R s m args below meth c nL D cs A H0 cells slots Q q σ lv (pc + 3) (.long v :: st)) : J p l e R s m args below meth c nL D cs A H0 cells slots Q q σ lv pc (.ref (q j) :: st) := fun H locs ls hO hP hD hS hl => by
  obtain ⟨C, T, N, hc, hk, hf, h10, hin, hlk, hT⟩ := F
  exact va_get X.1 X.2.1 X.2.2.2.2.1 hin X.2.2.2.1 X.2.2.2.2.2.1 hP j (by rw [hW_get h.1, hE_o h.2 h10]) hc k hk (X.2.2.2.2.1 _ hlk) (fun x hx => by rw [hT] at hx; exact hx) (v := .long (hB σ j k)) (by rw [hF_get hf]; rfl) hd (kk _ rfl H locs ls hO hP hD hS hl)
theorem j_getr (X : Cx p s m args c cc nL own D cs A H0) {index t k j i : Nat} (F : FD own index t k 2) (h : isO σ t j) (hi : hR σ j k = some i) (hd : decode cc pc = .ok (.getfield index, 3)) (kk : J p l e R s m args below meth c nL D cs A H0 cells slots Q q σ lv (pc + 3) (.ref (q i) :: st)) : J p l e R s m args below meth c nL D cs A H0 cells slots Q q σ lv pc (.ref (q j) :: st) := fun H locs ls hO hP hD hS hl => by
  obtain ⟨C, T, N, hc, hk, hf, h10, hin, hlk, hT⟩ := F
  exact va_get X.1 X.2.1 X.2.2.2.2.1 hin X.2.2.2.1 X.2.2.2.2.2.1 hP j (by rw [hW_get h.1, hE_o h.2 h10]) hc k hk (X.2.2.2.2.1 _ hlk) (fun x hx => by rw [hT] at hx; exact hx) (v := .ref (q i)) (by rw [hF_get hf, hi]; rfl) hd (kk H locs ls hO hP hD hS hl)
theorem hE_sA {cs : Nat → ClassId} {q : Nat → Nat} {σ : HS} {j k : Nat} {v : Int32} : ∀ i, i ≠ j → hE cs q (sA σ j k v) i = hE cs q σ i := fun i h => hE_cong rfl rfl (up2_ne h) rfl rfl
theorem hE_sB {cs : Nat → ClassId} {q : Nat → Nat} {σ : HS} {j k : Nat} {v : Int64} : ∀ i, i ≠ j → hE cs q (sB σ j k v) i = hE cs q σ i := fun i h => hE_cong rfl rfl rfl (up2_ne h) rfl
theorem hE_sR {cs : Nat → ClassId} {q : Nat → Nat} {σ : HS} {j k : Nat} {v : Option Nat} : ∀ i, i ≠ j → hE cs q (sR σ j k v) i = hE cs q σ i := fun i h => hE_cong rfl rfl rfl rfl (up2_ne h)
theorem hE_rA {cs : Nat → ClassId} {q : Nat → Nat} {σ : HS} {j : Nat} {g : Nat → Int32} : ∀ i, i ≠ j → hE cs q (rA σ j g) i = hE cs q σ i := fun i h => hE_cong rfl rfl (upr_ne h) rfl rfl
theorem hOK_sR {σ : HS} {j k : Nat} {o : Option Nat} (h : hOK σ) (ho : ∀ i, o = some i → i < hN σ) : hOK (sR σ j k o) := by
  intro a b i hi
  by_cases z : a = j ∧ b = k
  · have h0 : hR (sR σ j k o) a b = o := if_pos z
    exact ho i (h0.symm.trans hi)
  · have h0 : hR (sR σ j k o) a b = hR σ a b := if_neg z
    exact h a b i (h0.symm.trans hi)
theorem up2_k {α : Type} {f : Nat → Nat → α} {j k i : Nat} {v : α} (h : i ≠ k) : up2 f j k v j i = f j i := if_neg (fun z => h z.2)
theorem j_puti (X : Cx p s m args c cc nL own D cs A H0) {index t k j : Nat} {v : Int32} (F : FP own index t k 0 .int false) (h : isO σ t j)  (hd : decode cc pc = .ok (.putfield index, 3)) (kk : ∀ σ' : HS, σ' = sA σ j k v → J p l e R s m args below meth c nL D cs A H0 cells slots Q q σ' lv (pc + 3) st) : J p l e R s m args below meth c nL D cs A H0 cells slots Q q σ lv pc (Value.int v :: .ref (q j) :: st) := fun H locs ls hO hP hD hS hl => by
  obtain ⟨C, T, N, ty0, hc, hk, hf, h10, hin, hlk, hT, hty0, hnm, hfin, hd0, hlen⟩ := F
  refine va_put X.1 X.2.1 X.2.2.2.2.1 hin ty0 hty0 hnm X.2.2.2.1 X.2.2.2.2.2.1 hP hD hS j (by rw [hW_get h.1, hE_o h.2 h10]) hc k hk (X.2.2.2.2.1 _ hlk) (fun x hx => by rw [hT] at hx; exact hx) hfin  hd0 rfl rfl (by rw [hF_len]; exact hlen) hd (fun H1 locs1 hP1 hD1 hS1 => ?_)
  have e0 : (hWl cs q σ).set j (q j, .inr (t, (hF q σ j (fk t)).set k (Value.int v))) = hWl cs q (sA σ j k v) := hW_set rfl ((hE_o (σ := sA σ j k v) h.2 h10).trans (congrArg (fun z => (Sum.inr (t, z) : va_E)) (hF_set (σ := σ) (σ' := sA σ j k v) hf (by rw [if_pos rfl]; exact congrArg Value.int (up2_s _ _ _ _)) (fun i hi => ⟨up2_k hi, rfl, rfl⟩)).symm)) hE_sA
  rw [e0] at hP1 hD1
  exact kk _ rfl H1 locs1 ls hO hP1 hD1 hS1 hl
theorem j_putz (X : Cx p s m args c cc nL own D cs A H0) {index t k j : Nat} {v : Int32} (F : FP own index t k 0 .boolean false) (h : isO σ t j) (hb : bit v) (hd : decode cc pc = .ok (.putfield index, 3)) (kk : ∀ σ' : HS, σ' = sA σ j k v → J p l e R s m args below meth c nL D cs A H0 cells slots Q q σ' lv (pc + 3) st) : J p l e R s m args below meth c nL D cs A H0 cells slots Q q σ lv pc (Value.int v :: .ref (q j) :: st) := fun H locs ls hO hP hD hS hl => by
  obtain ⟨C, T, N, ty0, hc, hk, hf, h10, hin, hlk, hT, hty0, hnm, hfin, hd0, hlen⟩ := F
  refine va_put X.1 X.2.1 X.2.2.2.2.1 hin ty0 hty0 hnm X.2.2.2.1 X.2.2.2.2.2.1 hP hD hS j (by rw [hW_get h.1, hE_o h.2 h10]) hc k hk (X.2.2.2.2.1 _ hlk) (fun x hx => by rw [hT] at hx; exact hx) hfin  hd0 (by rcases hb with rfl | rfl <;> rfl) (by rcases hb with rfl | rfl <;> rfl) (by rw [hF_len]; exact hlen) hd (fun H1 locs1 hP1 hD1 hS1 => ?_)
  have e0 : (hWl cs q σ).set j (q j, .inr (t, (hF q σ j (fk t)).set k (Value.int v))) = hWl cs q (sA σ j k v) := hW_set rfl ((hE_o (σ := sA σ j k v) h.2 h10).trans (congrArg (fun z => (Sum.inr (t, z) : va_E)) (hF_set (σ := σ) (σ' := sA σ j k v) hf (by rw [if_pos rfl]; exact congrArg Value.int (up2_s _ _ _ _)) (fun i hi => ⟨up2_k hi, rfl, rfl⟩)).symm)) hE_sA
  rw [e0] at hP1 hD1
  exact kk _ rfl H1 locs1 ls hO hP1 hD1 hS1 hl
theorem j_putl (X : Cx p s m args c cc nL own D cs A H0) {index t k j : Nat} {v : Int64} (F : FP own index t k 1 .long false) (h : isO σ t j)  (hd : decode cc pc = .ok (.putfield index, 3)) (kk : ∀ σ' : HS, σ' = sB σ j k v → J p l e R s m args below meth c nL D cs A H0 cells slots Q q σ' lv (pc + 3) st) : J p l e R s m args below meth c nL D cs A H0 cells slots Q q σ lv pc (Value.long v :: .ref (q j) :: st) := fun H locs ls hO hP hD hS hl => by
  obtain ⟨C, T, N, ty0, hc, hk, hf, h10, hin, hlk, hT, hty0, hnm, hfin, hd0, hlen⟩ := F
  refine va_put X.1 X.2.1 X.2.2.2.2.1 hin ty0 hty0 hnm X.2.2.2.1 X.2.2.2.2.2.1 hP hD hS j (by rw [hW_get h.1, hE_o h.2 h10]) hc k hk (X.2.2.2.2.1 _ hlk) (fun x hx => by rw [hT] at hx; exact hx) hfin  hd0 rfl rfl (by rw [hF_len]; exact hlen) hd (fun H1 locs1 hP1 hD1 hS1 => ?_)
  have e0 : (hWl cs q σ).set j (q j, .inr (t, (hF q σ j (fk t)).set k (Value.long v))) = hWl cs q (sB σ j k v) := hW_set rfl ((hE_o (σ := sB σ j k v) h.2 h10).trans (congrArg (fun z => (Sum.inr (t, z) : va_E)) (hF_set (σ := σ) (σ' := sB σ j k v) hf (by rw [if_neg (by decide), if_pos rfl]; exact congrArg Value.long (up2_s _ _ _ _)) (fun i hi => ⟨rfl, up2_k hi, rfl⟩)).symm)) hE_sB
  rw [e0] at hP1 hD1
  exact kk _ rfl H1 locs1 ls hO hP1 hD1 hS1 hl
theorem j_putiF (X : Cx p s m args c cc nL own D cs A H0) {index t k j : Nat} {v : Int32} (F : FP own index t k 0 .int true) (h : isO σ t j) (hin2 : meth.name = "<init>") (hown : (classes.getD t (RX0, TX0, 0)).1 = own) (hd : decode cc pc = .ok (.putfield index, 3)) (kk : ∀ σ' : HS, σ' = sA σ j k v → J p l e R s m args below meth c nL D cs A H0 cells slots Q q σ' lv (pc + 3) st) : J p l e R s m args below meth c nL D cs A H0 cells slots Q q σ lv pc (Value.int v :: .ref (q j) :: st) := fun H locs ls hO hP hD hS hl => by
  obtain ⟨C, T, N, ty0, hc, hk, hf, h10, hin, hlk, hT, hty0, hnm, hfin, hd0, hlen⟩ := F
  refine va_putF X.1 X.2.1 X.2.2.2.2.1 hin ty0 hty0 hnm X.2.2.2.1 X.2.2.2.2.2.1 hP hD hS j (by rw [hW_get h.1, hE_o h.2 h10]) hc k hk (X.2.2.2.2.1 _ hlk) (fun x hx => by rw [hT] at hx; exact hx) hfin hin2 (by rw [hT, ← hown, List.getD_eq_getElem?_getD, hc]; rfl) hd0 rfl rfl (by rw [hF_len]; exact hlen) hd (fun H1 locs1 hP1 hD1 hS1 => ?_)
  have e0 : (hWl cs q σ).set j (q j, .inr (t, (hF q σ j (fk t)).set k (Value.int v))) = hWl cs q (sA σ j k v) := hW_set rfl ((hE_o (σ := sA σ j k v) h.2 h10).trans (congrArg (fun z => (Sum.inr (t, z) : va_E)) (hF_set (σ := σ) (σ' := sA σ j k v) hf (by rw [if_pos rfl]; exact congrArg Value.int (up2_s _ _ _ _)) (fun i hi => ⟨up2_k hi, rfl, rfl⟩)).symm)) hE_sA
  rw [e0] at hP1 hD1
  exact kk _ rfl H1 locs1 ls hO hP1 hD1 hS1 hl
theorem j_putrF (X : Cx p s m args c cc nL own D cs A H0) {index t k j : Nat} {i : Nat} {ty : FieldType} (F : FP own index t k 2 ty true) (h : isO σ t j) (hiN : i < hN σ) (hty : ty.isReference = true) (hin2 : meth.name = "<init>") (hown : (classes.getD t (RX0, TX0, 0)).1 = own) (hd : decode cc pc = .ok (.putfield index, 3)) (kk : ∀ σ' : HS, σ' = sR σ j k (some i) → J p l e R s m args below meth c nL D cs A H0 cells slots Q q σ' lv (pc + 3) st) : J p l e R s m args below meth c nL D cs A H0 cells slots Q q σ lv pc (Value.ref (q i) :: .ref (q j) :: st) := fun H locs ls hO hP hD hS hl => by
  obtain ⟨C, T, N, ty0, hc, hk, hf, h10, hin, hlk, hT, hty0, hnm, hfin, hd0, hlen⟩ := F
  refine va_putF X.1 X.2.1 X.2.2.2.2.1 hin ty0 hty0 hnm X.2.2.2.1 X.2.2.2.2.2.1 hP hD hS j (by rw [hW_get h.1, hE_o h.2 h10]) hc k hk (X.2.2.2.2.1 _ hlk) (fun x hx => by rw [hT] at hx; exact hx) hfin hin2 (by rw [hT, ← hown, List.getD_eq_getElem?_getD, hc]; rfl) hd0 (by cases ty <;> first | rfl | cases hty) (by cases ty <;> first | rfl | cases hty) (by rw [hF_len]; exact hlen) hd (fun H1 locs1 hP1 hD1 hS1 => ?_)
  have e0 : (hWl cs q σ).set j (q j, .inr (t, (hF q σ j (fk t)).set k (Value.ref (q i)))) = hWl cs q (sR σ j k (some i)) := hW_set rfl ((hE_o (σ := sR σ j k (some i)) h.2 h10).trans (congrArg (fun z => (Sum.inr (t, z) : va_E)) (hF_set (σ := σ) (σ' := sR σ j k (some i)) hf (by rw [if_neg (by decide), if_neg (by decide)]; exact congrArg (fun z => va_rf (Option.map q z)) (up2_s _ _ _ _)) (fun i hi => ⟨rfl, rfl, up2_k hi⟩)).symm)) hE_sR
  rw [e0] at hP1 hD1
  exact kk _ rfl H1 locs1 ls (hOK_sR hO (fun z hz => by cases hz; exact hiN)) hP1 hD1 hS1 hl
theorem j_iald (X : Cx p s m args c cc nL own D cs A H0) {j : Nat} {i : Int32} (h : isO σ 10 j ∧ inb i (hlen σ j)) (hd : decode cc pc = .ok (.iaload, 1)) (kk : ∀ v : Int32, v = hA σ j i.toNatClampNeg → J p l e R s m args below meth c nL D cs A H0 cells slots Q q σ lv (pc + 1) (.int v :: st)) : J p l e R s m args below meth c nL D cs A H0 cells slots Q q σ lv pc (.int i :: .ref (q j) :: st) := fun H locs ls hO hP hD hS hl =>
  va_iald X.1 X.2.1 X.2.2.2.2.2.1 hP j 0 (by rw [hW_get h.1.1, hE_i h.1.2]) rfl h.2 hd (kk _ rfl H locs ls hO hP hD hS hl)
theorem j_zald (X : Cx p s m args c cc nL own D cs A H0) {j : Nat} {i : Int32} (h : isO σ 11 j ∧ inb i (hlen σ j)) (hd : decode cc pc = .ok (.baload, 1)) (kk : ∀ v : Int32, v = hA σ j i.toNatClampNeg → J p l e R s m args below meth c nL D cs A H0 cells slots Q q σ lv (pc + 1) (.int v :: st)) : J p l e R s m args below meth c nL D cs A H0 cells slots Q q σ lv pc (.int i :: .ref (q j) :: st) := fun H locs ls hO hP hD hS hl =>
  va_zald X.1 X.2.1 X.2.2.2.2.2.1 hP j 1 (by rw [hW_get h.1.1, hE_z h.1.2]) rfl h.2 hd (kk _ rfl H locs ls hO hP hD hS hl)
theorem j_lald (X : Cx p s m args c cc nL own D cs A H0) {j : Nat} {i : Int32} (h : isO σ 12 j ∧ inb i (hlen σ j)) (hd : decode cc pc = .ok (.laload, 1)) (kk : ∀ v : Int64, v = hB σ j i.toNatClampNeg → J p l e R s m args below meth c nL D cs A H0 cells slots Q q σ lv (pc + 1) (.long v :: st)) : J p l e R s m args below meth c nL D cs A H0 cells slots Q q σ lv pc (.int i :: .ref (q j) :: st) := fun H locs ls hO hP hD hS hl =>
  va_lald X.1 X.2.1 X.2.2.2.2.2.1 hP j 2 (by rw [hW_get h.1.1, hE_l h.1.2]) rfl h.2 hd (kk _ rfl H locs ls hO hP hD hS hl)
theorem upd_row (f : Nat → Nat → Int32) (j k : Nat) (v : Int32) : upd (f j) k v = up2 f j k v j := by rw [up2_row]; rfl
theorem updL_row (f : Nat → Nat → Int64) (j k : Nat) (v : Int64) : vp_updL (f j) k v = up2 f j k v j := by rw [up2_row]; rfl
theorem j_iast (X : Cx p s m args c cc nL own D cs A H0) {j : Nat} {i : Int32} {v : Int32} (h : isO σ 10 j ∧ inb i (hlen σ j))  (hd : decode cc pc = .ok (.iastore, 1)) (kk : ∀ σ' : HS, σ' = sA σ j i.toNatClampNeg v → J p l e R s m args below meth c nL D cs A H0 cells slots Q q σ' lv (pc + 1) st) : J p l e R s m args below meth c nL D cs A H0 cells slots Q q σ lv pc (.int v :: .int i :: .ref (q j) :: st) := fun H locs ls hO hP hD hS hl => by
  refine va_iast X.1 X.2.1 X.2.2.2.2.2.1 hP hD hS j 0 (by rw [hW_get h.1.1, hE_i h.1.2]) rfl h.2 hd (fun H1 locs1 hP1 hD1 hS1 => ?_)
  have e0 : (hWl cs q σ).set j (q j, .inl (cs 0, hlen σ j, .inl (upd (hA σ j) i.toNatClampNeg v))) = hWl cs q (sA σ j i.toNatClampNeg v) := hW_set rfl (by rw [hE_i (σ := sA σ j i.toNatClampNeg v) h.1.2]; exact congrArg (fun z => (Sum.inl (cs 0, hlen σ j, .inl z) : va_E)) (upd_row σ.2.2.2.1 j i.toNatClampNeg v).symm) hE_sA
  rw [e0] at hP1 hD1
  exact kk _ rfl H1 locs1 ls hO hP1 hD1 hS1 hl
theorem j_zast (X : Cx p s m args c cc nL own D cs A H0) {j : Nat} {i : Int32} {v : Int32} (h : isO σ 11 j ∧ inb i (hlen σ j)) (hb : bit v) (hd : decode cc pc = .ok (.bastore, 1)) (kk : ∀ σ' : HS, σ' = sA σ j i.toNatClampNeg v → J p l e R s m args below meth c nL D cs A H0 cells slots Q q σ' lv (pc + 1) st) : J p l e R s m args below meth c nL D cs A H0 cells slots Q q σ lv pc (.int v :: .int i :: .ref (q j) :: st) := fun H locs ls hO hP hD hS hl => by
  have hvn : vp_nar .boolean v = v := by rcases hb with rfl | rfl <;> rfl
  refine va_zast X.1 X.2.1 X.2.2.2.2.2.1 hP hD hS j 1 (by rw [hW_get h.1.1, hE_z h.1.2]) rfl h.2 hd (fun H1 locs1 hP1 hD1 hS1 => ?_)
  rw [hvn] at hP1 hD1
  have e0 : (hWl cs q σ).set j (q j, .inl (cs 1, hlen σ j, .inl (upd (hA σ j) i.toNatClampNeg v))) = hWl cs q (sA σ j i.toNatClampNeg v) := hW_set rfl (by rw [hE_z (σ := sA σ j i.toNatClampNeg v) h.1.2]; exact congrArg (fun z => (Sum.inl (cs 1, hlen σ j, .inl z) : va_E)) (upd_row σ.2.2.2.1 j i.toNatClampNeg v).symm) hE_sA
  rw [e0] at hP1 hD1
  exact kk _ rfl H1 locs1 ls hO hP1 hD1 hS1 hl
theorem j_last (X : Cx p s m args c cc nL own D cs A H0) {j : Nat} {i : Int32} {v : Int64} (h : isO σ 12 j ∧ inb i (hlen σ j))  (hd : decode cc pc = .ok (.lastore, 1)) (kk : ∀ σ' : HS, σ' = sB σ j i.toNatClampNeg v → J p l e R s m args below meth c nL D cs A H0 cells slots Q q σ' lv (pc + 1) st) : J p l e R s m args below meth c nL D cs A H0 cells slots Q q σ lv pc (.long v :: .int i :: .ref (q j) :: st) := fun H locs ls hO hP hD hS hl => by
  refine va_last X.1 X.2.1 X.2.2.2.2.2.1 hP hD hS j 2 (by rw [hW_get h.1.1, hE_l h.1.2]) rfl h.2 hd (fun H1 locs1 hP1 hD1 hS1 => ?_)
  have e0 : (hWl cs q σ).set j (q j, .inl (cs 2, hlen σ j, .inr (.inl (vp_updL (hB σ j) i.toNatClampNeg v)))) = hWl cs q (sB σ j i.toNatClampNeg v) := hW_set rfl (by rw [hE_l (σ := sB σ j i.toNatClampNeg v) h.1.2]; exact congrArg (fun z => (Sum.inl (cs 2, hlen σ j, .inr (.inl z)) : va_E)) (updL_row σ.2.2.2.2.1 j i.toNatClampNeg v).symm) hE_sB
  rw [e0] at hP1 hD1
  exact kk _ rfl H1 locs1 ls hO hP1 hD1 hS1 hl
theorem j_alen (X : Cx p s m args c cc nL own D cs A H0) {j t : Nat} (ht : t = 10 ∨ t = 12) (h : isO σ t j) (hd : decode cc pc = .ok (.arraylength, 1)) (kk : ∀ v : Int32, v = Int32.ofNat (hlen σ j) → J p l e R s m args below meth c nL D cs A H0 cells slots Q q σ lv (pc + 1) (.int v :: st)) : J p l e R s m args below meth c nL D cs A H0 cells slots Q q σ lv pc (.ref (q j) :: st) := fun H locs ls hO hP hD hS hl => by
  rcases ht with rfl | rfl
  · exact va_alen X.1 X.2.1 X.2.2.2.2.2.1 hP j 0 (by rw [hW_get h.1, hE_i h.2]) rfl (v := Int32.ofNat (hlen σ j)) rfl hd (kk _ rfl H locs ls hO hP hD hS hl)
  · exact va_alen X.1 X.2.1 X.2.2.2.2.2.1 hP j 2 (by rw [hW_get h.1, hE_l h.2]) rfl (v := Int32.ofNat (hlen σ j)) rfl hd (kk _ rfl H locs ls hO hP hD hS hl)
theorem j_aald (X : Cx p s m args c cc nL own D cs A H0) {j : Nat} {i : Int32} (h : isO σ 13 j ∧ inb i (hlen σ j)) (hd : decode cc pc = .ok (.aaload, 1)) (kk : ∀ o : Option Nat, o = hR σ j i.toNatClampNeg → J p l e R s m args below meth c nL D cs A H0 cells slots Q q σ lv (pc + 1) (va_rf (o.map q) :: st)) : J p l e R s m args below meth c nL D cs A H0 cells slots Q q σ lv pc (.int i :: .ref (q j) :: st) := fun H locs ls hO hP hD hS hl =>
  va_aldq X.1 X.2.1 X.2.2.2.2.2.1 hP j 3 (by rw [hW_get h.1.1, hE_q h.1.2]) rfl h.2 hd (kk _ rfl H locs ls hO hP hD hS hl)
theorem j_aaldR (X : Cx p s m args c cc nL own D cs A H0) {j : Nat} {i : Int32} (h : isO σ 14 j ∧ inb i (hlen σ j)) (hd : decode cc pc = .ok (.aaload, 1)) (kk : ∀ o : Option Nat, o = hR σ j i.toNatClampNeg → J p l e R s m args below meth c nL D cs A H0 cells slots Q q σ lv (pc + 1) (va_rf (o.map q) :: st)) : J p l e R s m args below meth c nL D cs A H0 cells slots Q q σ lv pc (.int i :: .ref (q j) :: st) := fun H locs ls hO hP hD hS hl => by
  have hlt : i.toNatClampNeg < hlen σ j := Nat.not_le.mp fun z => h.2 (Or.inr z)
  have ha : (hWl cs q σ)[j]? = some (q j, .inl (cs 4, hlen σ j, .inr (.inr (.inr (.inr (fun k => (hR σ j k).map q)))))) := by rw [hW_get h.1.1, hE_r h.1.2]
  exact W.aald (v := va_rf ((hR σ j i.toNatClampNeg).map q)) (ty := .array .long) X.1 X.2.1 (hP j _ ha) ((X.2.2.2.2.2.1.2 4 (cs 4, .array .long) rfl).1 (hlen σ j) (fun k => va_rf ((hR σ j k).map q))) rfl (fun z => by cases z) (by show ¬ (i < 0 ∨ (arrV _ _ _).slots.size ≤ _); rw [arrV_size]; exact h.2) (by show (arrV _ _ _).slots[_]? = _; rw [arrV_read _ _ hlt]) rfl rfl hd (kk _ rfl H locs ls hO hP hD hS hl)
end HR
end
section
theorem tst1 : Cond.methodLink "SpanKeeper" 5 ⟨"java/lang/Object", "<init>", "()V"⟩ ∈ lw_g := gw 69 rfl rfl
set_option maxRecDepth 100000 in
theorem tst2 : Cond.code yX6_count cX6_count 2 (some .int) ∈ lw_g := gw 1091 rfl rfl
theorem tst3 : Cond.constantLong "SpanKeeperModel" 306 (3 : Int64) ∈ lw_g := gw 1064 (by decide +kernel) rfl
theorem gG : GoodIn lw_g lw_g := fun w hw => ⟨hw, good_of_word (List.mem_filter.mp hw).2⟩
theorem gGc {y : MethodName} {bytes : ByteArray} {maxL : Nat} {ret : Option FieldType} (h : Cond.code y bytes maxL ret ∈ lw_g) : GoodIn lw_g (Cond.code y bytes maxL ret :: lw_g) := fun w hw => by
  rcases List.mem_cons.mp hw with e | e
  · rw [e]; exact gG _ h
  · exact gG w e
/-- what a call needs to know of a method -/
def MK (y : MethodName) (bytes : ByteArray) (maxL : Nat) (ret : Option FieldType) (n : Nat) : Prop := Cond.code y bytes maxL ret ∈ lw_g ∧ Cond.initialized y.cls ∈ lw_g ∧ (y.cls ≠ "java/lang/invoke/MethodHandle" ∧ y.cls ≠ "java/lang/invoke/VarHandle" ∧ (parseMethodDescriptor y.desc).map (fun d => d.parameters.length) = some n)
def MV (y : MethodName) : Prop := Cond.instanceMethod y ∈ lw_g ∧ Cond.selects y.cls y y ∈ lw_g
theorem va_AOA_moved {t : FieldType} {u U : State} (hvm : u.vm.Alike U.vm) (h : va_Nw (.arrayOver (.array t)) u) : va_Nw (.arrayOver (.array t)) U := by
  obtain ⟨comp, c, k, h1, h2, h3, h4, h5⟩ := arrayOverA_spec (args := #[]) (first := u) (o := none) (idx := []) h
  obtain ⟨k', hk', he⟩ := hvm.2.2 _ _ h3
  have f1 : U.vm.findClass (FieldType.array t).toString = some comp := by rw [hvm.findClass]; exact h1
  have hi : (U.vm.classes.findIdx? fun x => match x.kind with | .array component _ => component == comp | _ => false) = some c := by
    rw [hvm.findIdx?_eq _ (fun _ => rfl)]; exact h2
  have hkind : k'.kind = .array comp (.array t) := by rw [he]; exact h4
  have f2 : U.vm.findClass ("[" ++ (FieldType.array t).toString) = some c := by rw [hvm.findClass]; exact h5
  unfold va_Nw Cond.before Cond.holds
  simp only [Cond.value]
  rw [f1, Option.bind_some]
  refine (congrArg (fun o : Option Nat => (o.bind (fun c => (U.vm.classes[c]?).map fun (k : Class) => match k.kind with | .array _ ty => decide (ty = FieldType.array t) && decide (U.vm.findClass ("[" ++ (FieldType.array t).toString) = some c) | _ => false) == some true)) hi).trans ?_
  simp [hk', hkind, f2]
theorem hBad_warm {s U : State} (hW : s.WarmedH U.vm) (h : hBad s) : hBad U := by
  intro w hw
  simp only [lw_bad, List.mem_cons, List.mem_nil_iff, or_false] at hw
  rcases hw with e | e | e | e | e
  · rw [e]; exact va_Nw.warmM hW (h _ (by rw [← e]; simp [lw_bad, e]))
  · rw [e]; exact va_Nw.warmM hW (h _ (by rw [← e]; simp [lw_bad, e]))
  · rw [e]; exact va_Nw.warmC hW (h _ (by rw [← e]; simp [lw_bad, e]))
  · rw [e]; exact va_AO.moved hW.alike (h _ (by rw [← e]; simp [lw_bad, e]))
  · rw [e]; exact va_AOA_moved hW.alike (h _ (by rw [← e]; simp [lw_bad, e]))
theorem hBad_vm {s U : State} (hv : s.vm = U.vm) (h : hBad s) : hBad U := by
  have hal : s.vm.Alike U.vm := by rw [hv]; exact Vm.Alike.refl _
  intro w hw
  simp only [lw_bad, List.mem_cons, List.mem_nil_iff, or_false] at hw
  rcases hw with e | e | e | e | e
  · rw [e]; exact va_tabs rfl hv (h _ (by rw [← e]; simp [lw_bad, e]))
  · rw [e]; exact va_tabs rfl hv (h _ (by rw [← e]; simp [lw_bad, e]))
  · rw [e]; exact va_tabs rfl hv (h _ (by rw [← e]; simp [lw_bad, e]))
  · rw [e]; exact va_AO.moved hal (h _ (by rw [← e]; simp [lw_bad, e]))
  · rw [e]; exact va_AOA_moved hal (h _ (by rw [← e]; simp [lw_bad, e]))
theorem hPre_blind {D : va_G} {cs : Nat → ClassId} {q : Nat → Nat} {σ : HS} {sz : Nat} {av : List Value} : FrameBlind (va_Pc av (hPre D cs q σ sz)) := fun a U g mk z => by
  obtain ⟨q0, q1, qB, qO, qP, qK, qD⟩ := z
  exact ⟨q0, q1, hBad_vm (s := U) (U := U.calling g mk a) rfl qB, qO, qP, va_K.moved (u := U) (U := U.calling g mk a) (Vm.Alike.refl U.vm) qK, qD⟩
section HCC
variable {p : Program} {l : Launch} {e : Env} {R : Room} {s : State} {m : MethodId} {args : Array Value} {below : List Frame} {meth : Method} {c : Code} {nL : Nat} {D : va_G} {cs : Nat → ClassId} {A : Nat → Prop} {H0 : Heap} {cells slots : Nat} {Q : State → Prop} {q : Nat → Nat} {σ : HS} {lv : List (Nat × Value)} {pc : Nat} {st : List Value} {cc : ByteArray} {own : String}
theorem callB_w (hts : ∀ w ∈ lw_g, w.before args s = true) {y : MethodName} {bytes : ByteArray} {maxL n index mc ms : Nat} {ret : Option FieldType} {rm : Room} (M : MK y bytes maxL ret n) (hlk : Cond.methodLink own index y ∈ lw_g) (hrm : rm.cells = mc ∧ rm.slots = ms) (hR : rm.frames + 1 ≤ R.frames ∧ 8 + (maxL + 11) + rm.locals ≤ R.locals) :
    CallB R s args own index y bytes maxL ret (Cond.code y bytes maxL ret :: lw_g) rm mc ms n :=
  callB_of n hts (gGc M.1) rfl hrm.1 hrm.2 (hts _ M.2.1) (hts _ hlk) M.2.2 hR
theorem j_run (X : Cx p s m args c cc nL own D cs A H0) {mc ms : Nat} {K : (Nat → Nat) → Prop} {rv : (Nat → Nat) → Option Value} {σ0 : HS} {a : Array Value} {rest st0 : List Value} {st' : (Nat → Nat) → List Value} {H : Heap} {locs : List Loc} {ls : Array Slot} (hD : va_D A (hWl cs q σ)) (hS : va_S A H0 H locs) (hl : lv_has ls nL lv)
    (hr : va_Run p l e R s m args below meth c H locs cells slots mc ms (F0 m pc ls st0) rest (hQ D cs K rv σ0 (va_A (hWl cs q σ) H.size) a) (va_A (hWl cs q σ) H.size)) (hst' : ∀ q' : Nat → Nat, (rv q').toList ++ rest = st' q')
    (kk : ∀ q' : Nat → Nat, K q' → J p l e R s m args below meth c nL D cs A H0 (cells + mc) (slots + ms) Q q' σ0 lv (pc + 3) (st' q')) : W p l e R s m args below meth c H locs cells slots Q (F0 m pc ls st0) := by
  intro T hT Xs
  obtain ⟨v, st₀, t, T', L, h0, X', hL, e1, e2, ⟨⟨q', hv, hK, hO1, hP1, hK1, hD1⟩, hz, hk⟩, stp⟩ := hr T hT Xs
  cases hv
  have hA : ∀ x : Nat, va_A (hWl cs q σ) H.size x → A x := fun x hx => by
    rcases hx with ⟨k, e, h⟩ | h
    · exact hD.2 k _ h
    · exact X.2.2.2.2.2.2.1 x (Nat.le_trans hS.1 h)
  rw [h0] at hz hk
  have k1 := kk q' hK T'.heap (locs ++ L) ls hO1 (by rw [e1]; exact hP1) (hD1.weaken (fun k x _ h => hA _ h)) ⟨Nat.le_trans hS.1 (by rw [e1]; exact hz), fun x h1 h2 => by rw [e1, hk x (Nat.lt_of_lt_of_le h1 hS.1) (fun z => h2 (hA x z))]; exact hS.2.1 x h1 h2, fun x hx => by
      rcases List.mem_append.mp hx with h | h
      · exact hS.2.2 x h
      · exact hA _ (hL x h)⟩ hl
  rw [← hst' q'] at k1
  obtain ⟨t2, a1, b1⟩ := k1 T' rfl X'
  exact ⟨t2, stp t2 a1, b1⟩
theorem j_callV (X : Cx p s m args c cc nL own D cs A H0) {y : MethodName} {bytes : ByteArray} {maxL n index t j mc ms : Nat} {ret : Option FieldType} {rm : Room} {As rest : List Value} {K : (Nat → Nat) → Prop} {rv : (Nat → Nat) → Option Value} {σ0 : HS} (hM : MT l y (Cond.code y bytes maxL ret :: lw_g) rm D cs q σ σ0 (.ref (q j) :: As) K rv mc ms) (M : MK y bytes maxL ret n) (M2 : MV y) (hlk : Cond.methodLink own index y ∈ lw_g) (h : isO σ t j) (hc : (classes[t]?).map (fun r => r.1) = some y.cls) (h10 : t < 10) (hrm : rm.cells = mc ∧ rm.slots = ms) (hR : rm.frames + 1 ≤ R.frames ∧ 8 + (maxL + 11) + rm.locals ≤ R.locals) (hn : As.length = n) (hcat : (rest.map fun v => v.category).sum ≤ 8) (hcs : cells + mc ≤ R.cells ∧ slots + ms ≤ R.slots) (hd : decode cc pc = .ok (.invokevirtual index, 3)) (hst : st = As.reverse ++ .ref (q j) :: rest) (st' : (Nat → Nat) → List Value) (hst' : ∀ q' : Nat → Nat, (rv q').toList ++ rest = st' q') (kk : ∀ q' : Nat → Nat, K q' → J p l e R s m args below meth c nL D cs A H0 (cells + mc) (slots + ms) Q q' σ0 lv (pc + 3) (st' q')) : J p l e R s m args below meth c nL D cs A H0 cells slots Q q σ lv pc st := fun H locs ls hO hP hD hS hl => by
  subst hst
  obtain ⟨r, hr1, hr2⟩ : ∃ r : vw_C, classes[t]? = some r ∧ r.1 = y.cls := by
    cases hz : classes[t]? with
    | none => rw [hz] at hc; cases hc
    | some r => rw [hz] at hc; exact ⟨r, rfl, Option.some.inj hc⟩
  have hrecv := va_recv X.2.2.2.2.2.1 hP hr1 (q0 := j) (a := q j) (fs := hF q σ j (fk t)) (by rw [hW_get h.1, hE_o h.2 h10])
  rw [hr2] at hrecv
  have cw : CallW R s args own y.cls index y bytes maxL ret (Cond.code y bytes maxL ret :: lw_g) rm mc ms n := ⟨callB_w X.2.2.2.2.1 M hlk hrm hR, X.2.2.2.2.1 _ M2.1, X.2.2.2.2.1 _ M2.2⟩
  exact j_run X hD hS hl (va_runV (As := As) (rest := rest) ⟨X.1, X.2.1, X.2.2.1, X.2.2.2.1, X.2.2.2.2.1⟩ (hM H.size) cw ⟨hPre_blind, hrecv, fun U hU hW => ⟨rfl, by rw [hU], hBad_warm hW X.2.2.2.2.2.2.2, hO, by rw [hU]; exact hP, va_K.moved hW.alike X.2.2.2.2.2.1, hD.weaken (fun _ _ _ _ => trivial)⟩⟩ rfl hn hl.1 rfl (lv_room hcat) hd hcs) hst' kk
theorem j_callS (X : Cx p s m args c cc nL own D cs A H0) {y : MethodName} {bytes : ByteArray} {maxL n index mc ms : Nat} {ret : Option FieldType} {rm : Room} {As rest : List Value} {K : (Nat → Nat) → Prop} {rv : (Nat → Nat) → Option Value} {σ0 : HS} (hM : MT l y (Cond.code y bytes maxL ret :: lw_g) rm D cs q σ σ0 As K rv mc ms) (M : MK y bytes maxL ret n) (M2 : Cond.static y ∈ lw_g) (hlk : Cond.methodLink own index y ∈ lw_g) (hrm : rm.cells = mc ∧ rm.slots = ms) (hR : rm.frames + 1 ≤ R.frames ∧ 8 + (maxL + 11) + rm.locals ≤ R.locals) (hn : As.length = n) (hcat : (rest.map fun v => v.category).sum ≤ 8) (hcs : cells + mc ≤ R.cells ∧ slots + ms ≤ R.slots) (hd : decode cc pc = .ok (.invokestatic index, 3)) (hst : st = As.reverse ++ rest) (st' : (Nat → Nat) → List Value) (hst' : ∀ q' : Nat → Nat, (rv q').toList ++ rest = st' q') (kk : ∀ q' : Nat → Nat, K q' → J p l e R s m args below meth c nL D cs A H0 (cells + mc) (slots + ms) Q q' σ0 lv (pc + 3) (st' q')) : J p l e R s m args below meth c nL D cs A H0 cells slots Q q σ lv pc st := fun H locs ls hO hP hD hS hl => by
  subst hst
  exact j_run X hD hS hl (va_runS (As := As) (rest := rest) ⟨X.1, X.2.1, X.2.2.1, X.2.2.2.1, X.2.2.2.2.1⟩ (hM H.size) ⟨callB_w X.2.2.2.2.1 M hlk hrm hR, X.2.2.2.2.1 _ M2⟩ ⟨hPre_blind, fun U hU hW => ⟨rfl, by rw [hU], hBad_warm hW X.2.2.2.2.2.2.2, hO, by rw [hU]; exact hP, va_K.moved hW.alike X.2.2.2.2.2.1, hD.weaken (fun _ _ _ _ => trivial)⟩⟩ rfl hn hl.1 rfl (lv_room hcat) hd hcs) hst' kk
theorem j_callI (X : Cx p s m args c cc nL own D cs A H0) {y : MethodName} {bytes : ByteArray} {maxL n index j mc ms : Nat} {rm : Room} {As rest : List Value} {K : (Nat → Nat) → Prop} {rv : (Nat → Nat) → Option Value} {σ0 : HS} (hM : MT l y (Cond.code y bytes maxL none :: lw_g) rm D cs q σ σ0 (.ref (q j) :: As) K rv mc ms) (M : MK y bytes maxL none n) (M2 : y.name = "<init>" ∧ Cond.instanceMethod y ∈ lw_g) (hlk : Cond.methodLink own index y ∈ lw_g) (hrm : rm.cells = mc ∧ rm.slots = ms) (hR : rm.frames + 1 ≤ R.frames ∧ 8 + (maxL + 11) + rm.locals ≤ R.locals) (hn : As.length = n) (hcat : (rest.map fun v => v.category).sum ≤ 8) (hcs : cells + mc ≤ R.cells ∧ slots + ms ≤ R.slots) (hd : decode cc pc = .ok (.invokespecial index, 3)) (hst : st = As.reverse ++ .ref (q j) :: rest) (st' : (Nat → Nat) → List Value) (hst' : ∀ q' : Nat → Nat, (rv q').toList ++ rest = st' q') (kk : ∀ q' : Nat → Nat, K q' → J p l e R s m args below meth c nL D cs A H0 (cells + mc) (slots + ms) Q q' σ0 lv (pc + 3) (st' q')) : J p l e R s m args below meth c nL D cs A H0 cells slots Q q σ lv pc st := fun H locs ls hO hP hD hS hl => by
  subst hst
  exact j_run X hD hS hl (va_runI (As := As) (rest := rest) ⟨X.1, X.2.1, X.2.2.1, X.2.2.2.1, X.2.2.2.2.1⟩ (hM H.size) ⟨callB_w X.2.2.2.2.1 M hlk hrm hR, M2.1, X.2.2.2.2.1 _ M2.2⟩ ⟨hPre_blind, fun U hU hW => ⟨rfl, by rw [hU], hBad_warm hW X.2.2.2.2.2.2.2, hO, by rw [hU]; exact hP, va_K.moved hW.alike X.2.2.2.2.2.1, hD.weaken (fun _ _ _ _ => trivial)⟩⟩ rfl hn hl.1 rfl (lv_room hcat) hd hcs) hst' kk
theorem j_callIN (X : Cx p s m args c cc nL own D cs A H0) {y : MethodName} {bytes : ByteArray} {maxL n index j mc ms : Nat} {rm : Room} {As rest : List Value} {K : (Nat → Nat) → Prop} {rv : (Nat → Nat) → Option Value} {σ0 : HS} {host : String} (hM : MT l y (Cond.code y bytes maxL none :: lw_g) rm D cs q σ σ0 (.ref (q j) :: As) K rv mc ms) (M : MK y bytes maxL none n) (M2 : y.name = "<init>" ∧ Cond.instanceMethod y ∈ lw_g) (hlk : Cond.methodLinkNest own index y host ∈ lw_g) (hrm : rm.cells = mc ∧ rm.slots = ms) (hR : rm.frames + 1 ≤ R.frames ∧ 8 + (maxL + 11) + rm.locals ≤ R.locals) (hn : As.length = n) (hcat : (rest.map fun v => v.category).sum ≤ 8) (hcs : cells + mc ≤ R.cells ∧ slots + ms ≤ R.slots) (hd : decode cc pc = .ok (.invokespecial index, 3)) (hst : st = As.reverse ++ .ref (q j) :: rest) (st' : (Nat → Nat) → List Value) (hst' : ∀ q' : Nat → Nat, (rv q').toList ++ rest = st' q') (kk : ∀ q' : Nat → Nat, K q' → J p l e R s m args below meth c nL D cs A H0 (cells + mc) (slots + ms) Q q' σ0 lv (pc + 3) (st' q')) : J p l e R s m args below meth c nL D cs A H0 cells slots Q q σ lv pc st := fun H locs ls hO hP hD hS hl => by
  subst hst
  have hts := X.2.2.2.2.1
  have cw : va_CN R s args own index y host bytes maxL none (Cond.code y bytes maxL none :: lw_g) rm mc ms n := ⟨⟨hrm.1, hrm.2, hR.1, hR.2, pay_in hts (gGc M.1), List.mem_cons_self⟩, hts _ M.1, hts _ M.2.1, ⟨M.2.2.1, M.2.2.2.1⟩, fun sig h => by
    have h2 := M.2.2.2.2
    rw [h] at h2
    exact (Option.some.inj h2).symm, hts _ hlk⟩
  exact j_run X hD hS hl (va_runIN (As := As) (rest := rest) ⟨X.1, X.2.1, X.2.2.1, X.2.2.2.1, X.2.2.2.2.1⟩ (hM H.size) ⟨cw, M2.1, hts _ M2.2⟩ ⟨hPre_blind, fun U hU hW => ⟨rfl, by rw [hU], hBad_warm hW X.2.2.2.2.2.2.2, hO, by rw [hU]; exact hP, va_K.moved hW.alike X.2.2.2.2.2.1, hD.weaken (fun _ _ _ _ => trivial)⟩⟩ rfl hn hl.1 rfl (lv_room hcat) hd hcs) hst' kk
theorem j_callV0 (X : Cx p s m args c cc nL own D cs A H0) {y : MethodName} {bytes : ByteArray} {maxL n index t j : Nat} {ret : Option FieldType} {rm : Room} (As rest : List Value) {rv : (Nat → Nat) → Option Value} {σ0 : HS} (hM : MT l y (Cond.code y bytes maxL ret :: lw_g) rm D cs q σ σ0 (.ref (q j) :: As) (fun z => z = q) rv 0 0) (M : MK y bytes maxL ret n) (M2 : MV y) (hlk : Cond.methodLink own index y ∈ lw_g) (h : isO σ t j) (hc : (classes[t]?).map (fun r => r.1) = some y.cls) (h10 : t < 10) (hrm : rm.cells = 0 ∧ rm.slots = 0) (hR : rm.frames + 1 ≤ R.frames ∧ 8 + (maxL + 11) + rm.locals ≤ R.locals) (hn : As.length = n) (hcat : (rest.map fun v => v.category).sum ≤ 8) (hcs : cells ≤ R.cells ∧ slots ≤ R.slots) (hd : decode cc pc = .ok (.invokevirtual index, 3)) (hst : st = As.reverse ++ .ref (q j) :: rest) {st' : List Value} (hst' : (rv q).toList ++ rest = st') (kk : J p l e R s m args below meth c nL D cs A H0 cells slots Q q σ0 lv (pc + 3) st') : J p l e R s m args below meth c nL D cs A H0 cells slots Q q σ lv pc st :=
  j_callV X hM M M2 hlk h hc h10 hrm hR hn hcat hcs hd hst (fun q' => (rv q').toList ++ rest) (fun _ => rfl) (fun q' hq => by subst hq; rw [hst']; exact kk)
theorem j_callS0 (X : Cx p s m args c cc nL own D cs A H0) {y : MethodName} {bytes : ByteArray} {maxL n index : Nat} {ret : Option FieldType} {rm : Room} (As rest : List Value) {rv : (Nat → Nat) → Option Value} {σ0 : HS} (hM : MT l y (Cond.code y bytes maxL ret :: lw_g) rm D cs q σ σ0 As (fun z => z = q) rv 0 0) (M : MK y bytes maxL ret n) (M2 : Cond.static y ∈ lw_g) (hlk : Cond.methodLink own index y ∈ lw_g)  (hrm : rm.cells = 0 ∧ rm.slots = 0) (hR : rm.frames + 1 ≤ R.frames ∧ 8 + (maxL + 11) + rm.locals ≤ R.locals) (hn : As.length = n) (hcat : (rest.map fun v => v.category).sum ≤ 8) (hcs : cells ≤ R.cells ∧ slots ≤ R.slots) (hd : decode cc pc = .ok (.invokestatic index, 3)) (hst : st = As.reverse ++ rest) {st' : List Value} (hst' : (rv q).toList ++ rest = st') (kk : J p l e R s m args below meth c nL D cs A H0 cells slots Q q σ0 lv (pc + 3) st') : J p l e R s m args below meth c nL D cs A H0 cells slots Q q σ lv pc st :=
  j_callS X hM M M2 hlk  hrm hR hn hcat hcs hd hst (fun q' => (rv q').toList ++ rest) (fun _ => rfl) (fun q' hq => by subst hq; rw [hst']; exact kk)
theorem j_reti (X : Cx p s m args c cc nL own D cs A s.heap) {K : (Nat → Nat) → Prop} {rv : (Nat → Nat) → Option Value} {σ0 : HS} {mc ms : Nat} {v : Int32} (hr : meth.sig.returnType = some .int) (hlk : meth.locks = false) (hc : cells ≤ mc) (hs : slots ≤ ms) (hK : K q) (e0 : σ = σ0) (e1 : rv q = some (.int v))  (hd : decode cc pc = .ok (.ireturn, 1)) : J p l e R s m args below meth c nL D cs A s.heap cells slots (MQ below (hQ D cs K rv σ0 A) args s mc ms A) q σ lv pc [.int v] := fun H locs ls hO hP hD hS hl => by
  subst e0
  have hx := X.1
  refine W.widen hc hs ?_
  exact W.iret hx X.2.1 hr  (fun t ht hW => ⟨⟨q, by rw [e1], hK, hO, by rw [ht]; exact hP, va_K.moved hW.alike X.2.2.2.2.2.1, hD⟩, hS.F ht⟩) hS.2.2 hd hlk
theorem j_retz (X : Cx p s m args c cc nL own D cs A s.heap) {K : (Nat → Nat) → Prop} {rv : (Nat → Nat) → Option Value} {σ0 : HS} {mc ms : Nat} {v : Int32} (hr : meth.sig.returnType = some .boolean) (hlk : meth.locks = false) (hc : cells ≤ mc) (hs : slots ≤ ms) (hK : K q) (e0 : σ = σ0) (e1 : rv q = some (.int v)) (hb : bit v) (hd : decode cc pc = .ok (.ireturn, 1)) : J p l e R s m args below meth c nL D cs A s.heap cells slots (MQ below (hQ D cs K rv σ0 A) args s mc ms A) q σ lv pc [.int v] := fun H locs ls hO hP hD hS hl => by
  subst e0
  have hx := X.1
  refine W.widen hc hs ?_
  exact W.zret hx X.2.1 hr (by rcases hb with rfl | rfl <;> rfl) (fun t ht hW => ⟨⟨q, by rw [e1], hK, hO, by rw [ht]; exact hP, va_K.moved hW.alike X.2.2.2.2.2.1, hD⟩, hS.F ht⟩) hS.2.2 hd hlk
theorem j_retl (X : Cx p s m args c cc nL own D cs A s.heap) {K : (Nat → Nat) → Prop} {rv : (Nat → Nat) → Option Value} {σ0 : HS} {mc ms : Nat} {v : Int64} (hr : meth.sig.returnType = some .long) (hlk : meth.locks = false) (hc : cells ≤ mc) (hs : slots ≤ ms) (hK : K q) (e0 : σ = σ0) (e1 : rv q = some (.long v))  (hd : decode cc pc = .ok (.lreturn, 1)) : J p l e R s m args below meth c nL D cs A s.heap cells slots (MQ below (hQ D cs K rv σ0 A) args s mc ms A) q σ lv pc [.long v] := fun H locs ls hO hP hD hS hl => by
  subst e0
  have hx := X.1
  refine W.widen hc hs ?_
  exact W.lret hx X.2.1 hr  (fun t ht hW => ⟨⟨q, by rw [e1], hK, hO, by rw [ht]; exact hP, va_K.moved hW.alike X.2.2.2.2.2.1, hD⟩, hS.F ht⟩) hS.2.2 hd hlk
theorem j_retv (X : Cx p s m args c cc nL own D cs A s.heap) {K : (Nat → Nat) → Prop} {rv : (Nat → Nat) → Option Value} {σ0 : HS} {mc ms : Nat} (hr : meth.sig.returnType = none) (hlk : meth.locks = false) (hc : cells ≤ mc) (hs : slots ≤ ms) (hK : K q) (e0 : σ = σ0) (e1 : rv q = none) (hd : decode cc pc = .ok (.return_, 1)) : J p l e R s m args below meth c nL D cs A s.heap cells slots (MQ below (hQ D cs K rv σ0 A) args s mc ms A) q σ lv pc [] := fun H locs ls hO hP hD hS hl => by
  subst e0
  have hx := X.1
  refine W.widen hc hs ?_
  exact W.vret hx X.2.1 hr (fun t ht hW => ⟨⟨q, by rw [e1], hK, hO, by rw [ht]; exact hP, va_K.moved hW.alike X.2.2.2.2.2.1, hD⟩, hS.F ht⟩) hS.2.2 hd hlk
theorem j_reta (X : Cx p s m args c cc nL own D cs A s.heap) {K : (Nat → Nat) → Prop} {rv : (Nat → Nat) → Option Value} {σ0 : HS} {mc ms : Nat} {o : Option Nat} {rt : FieldType} (hr : meth.sig.returnType = some rt) (hrt : rt.isReference = true) (hlk : meth.locks = false) (hc : cells ≤ mc) (hs : slots ≤ ms) (hK : K q) (e0 : σ = σ0) (e1 : rv q = some (va_rf o)) (hd : decode cc pc = .ok (.areturn, 1)) : J p l e R s m args below meth c nL D cs A s.heap cells slots (MQ below (hQ D cs K rv σ0 A) args s mc ms A) q σ lv pc [va_rf o] := fun H locs ls hO hP hD hS hl => by
  subst e0
  have hx := X.1
  refine W.widen hc hs ?_
  refine W.aret hx X.2.1 hr (by cases rt <;> first | exact Or.inl ⟨_, rfl⟩ | exact Or.inr ⟨_, rfl⟩ | cases hrt) (by cases o with | none => exact Or.inl rfl | some a => exact Or.inr ⟨a, rfl⟩) (fun t ht hW => ⟨⟨q, by rw [e1], hK, hO, by rw [ht]; exact hP, va_K.moved hW.alike X.2.2.2.2.2.1, hD⟩, hS.F ht⟩) hS.2.2 hd hlk
theorem MT_of {y : MethodName} {maxL : Nat} {ret : Option FieldType} {rm : Room} {av : List Value} {K : (Nat → Nat) → Prop} {rv : (Nat → Nat) → Option Value} {mc ms : Nat} {σ0 : HS} (hy : plainName y.cls = true) (hlen : (lg_sl av).length ≤ maxL) {lv0 : List (Nat × Value)} (hlv : lv_args 0 av = lv0)
    (body : ∀ (p : Program) (e : Env) (s : State) (m : MethodId) (args : Array Value) (below : List Frame) (meth : Method) (c : Code) (A : Nat → Prop), Cx p s m args c cc maxL y.cls D cs A s.heap → meth.sig.returnType = ret → meth.locks = false → (y.name = "<init>" → meth.name = "<init>") →
      J p l e rm s m args below meth c maxL D cs A s.heap 0 0 (MQ below (hQ D cs K rv σ0 A) args s mc ms A) q σ lv0 0 []) : MT l y (Cond.code y cc maxL ret :: lw_g) rm D cs q σ σ0 av K rv mc ms := by
  intro sz
  refine Met.ofW (cc := cc) (maxL := maxL) (ret := ret) hy rfl ?_
  intro p e s m args below meth c s₁ B hml hv
  obtain ⟨rfl, hsz, hBd, hO, hP, hK, hD0⟩ := hv
  subst hsz
  have hts : ∀ w ∈ lw_g, w.before av.toArray s = true := fun w hw => atoms_spec (ws := Cond.code y cc maxL ret :: lw_g) B.pre w (List.mem_cons_of_mem _ hw)
  have hl := lv_entry av hlen
  rw [hlv] at hl
  rw [lg_entry_eq]
  exact body p e s m av.toArray below meth c (va_A (hWl cs q σ) s.heap.size) ⟨B.exec, B.bytes, hml, findClass_of_methodNamed B.named, hts, hK, fun x h => Or.inr h, hBd⟩ B.returns B.notSynchronized (fun hn => (name_of_methodNamed B.named B.method).1.trans hn) s.heap [] _ hO hP hD0.self va_S.rf hl
end HCC
end
section
def okF (σ : HS) (o : Option Nat) : Bool := match o with | none => true | some v => decide (v < hN σ) && decide (hty σ v = 0)
theorem hE_obj_cs {q q' : Nat → Nat} {cs : Nat → ClassId} {σ : HS} {i : Nat} (h : ∀ k z, hR σ i k = some z → q' z = q z) : hE cs q' σ i = hE cs q σ i := by
  have e : ∀ k, Option.map q' (hR σ i k) = Option.map q (hR σ i k) := fun k => by
    cases hz : hR σ i k with
    | none => rfl
    | some z => exact congrArg some (h k z hz)
  unfold hE hF
  simp only [e]
/-- a new cell behind the others -/
theorem hW_push {cs : Nat → ClassId} {q : Nat → Nat} {σ σ' : HS} {a : Nat} {x : va_E} (hO : hOK σ) (hn : hN σ' = hN σ + 1) (ht : ∀ i, i < hN σ → hE cs (va_up q (hN σ) a) σ' i = hE cs (va_up q (hN σ) a) σ i) (hx : hE cs (va_up q (hN σ) a) σ' (hN σ) = x) : hWl cs q σ ++ [(a, x)] = hWl cs (va_up q (hN σ) a) σ' := by
  unfold hWl
  rw [hn, List.range_succ, List.map_append]
  congr 1
  · apply List.map_congr_left
    intro i hi
    have hi := List.mem_range.mp hi
    rw [ht i hi, hE_obj_cs (q := q) (q' := va_up q (hN σ) a) (fun k z hz => if_neg (Nat.ne_of_lt (hO i k z hz)))]
    exact congrArg (fun z => (z, hE cs q σ i)) (if_neg (Nat.ne_of_lt hi)).symm
  · show [(a, x)] = [(va_up q (hN σ) a (hN σ), hE cs (va_up q (hN σ) a) σ' (hN σ))]
    rw [hx]
    exact congrArg (fun z => [(z, x)]) (if_pos rfl).symm
theorem upr_o {α : Type} {f : Nat → Nat → α} {j i : Nat} {g : Nat → α} (h : i < j) : upr f j g i = f i := if_neg (Nat.ne_of_lt h)
theorem vau_o {α : Type} {f : Nat → α} {j i : Nat} {g : α} (h : i < j) : va_up f j g i = f i := if_neg (Nat.ne_of_lt h)
theorem hE_nw {cs : Nat → ClassId} {q : Nat → Nat} {σ : HS} {t n i : Nat} (h : i < hN σ) : hE cs q (nw σ t n) i = hE cs q σ i := hE_cong (vau_o h) (vau_o h) (upr_o h) (upr_o h) (upr_o h)
theorem hE_nwc {cs : Nat → ClassId} {q : Nat → Nat} {σ : HS} {t n i : Nat} {g : Nat → Int32} (h : i < hN σ) : hE cs q (nwc σ t n g) i = hE cs q σ i := hE_cong (vau_o h) (vau_o h) (upr_o h) (upr_o h) (upr_o h)
theorem nw_ty (σ : HS) (t n : Nat) : hty (nw σ t n) (hN σ) = t := if_pos rfl
theorem nw_len (σ : HS) (t n : Nat) : hlen (nw σ t n) (hN σ) = n := if_pos rfl
theorem nw_A (σ : HS) (t n : Nat) : hA (nw σ t n) (hN σ) = fun _ => 0 := if_pos rfl
theorem nw_B (σ : HS) (t n : Nat) : hB (nw σ t n) (hN σ) = fun _ => 0 := if_pos rfl
theorem nw_R (σ : HS) (t n : Nat) : hR (nw σ t n) (hN σ) = fun _ => none := if_pos rfl
theorem nwc_ty (σ : HS) (t n : Nat) (g : Nat → Int32) : hty (nwc σ t n g) (hN σ) = t := if_pos rfl
theorem nwc_len (σ : HS) (t n : Nat) (g : Nat → Int32) : hlen (nwc σ t n g) (hN σ) = n := if_pos rfl
theorem nwc_A (σ : HS) (t n : Nat) (g : Nat → Int32) : hA (nwc σ t n g) (hN σ) = g := if_pos rfl
theorem hOK_nw {σ : HS} {t n : Nat} (h : hOK σ) : hOK (nw σ t n) := by
  intro a b i hi
  by_cases z : a = hN σ
  · subst z; rw [nw_R] at hi; cases hi
  · have h0 : hR (nw σ t n) a b = hR σ a b := congrFun (upr_ne (f := σ.2.2.2.2.2) z) b
    exact Nat.lt_succ_of_lt (h a b i (h0.symm.trans hi))
theorem hOK_nwc {σ : HS} {t n : Nat} {g : Nat → Int32} (h : hOK σ) : hOK (nwc σ t n g) := hOK_nw (σ := σ) (t := t) (n := n) h
section HM
theorem w_math : Cond.initialized "java/lang/Math" ∈ lw_g := gw 62 (by decide +kernel) rfl
theorem w_sys : Cond.initialized "java/lang/System" ∈ lw_g := gw 63 (by decide +kernel) rfl
theorem w_acn : Cond.native arraycopyName ∈ lw_g := gw 350 (by decide +kernel) rfl
theorem w_acs : Cond.static arraycopyName ∈ lw_g := gw 349 (by decide +kernel) rfl
variable {p : Program} {l : Launch} {e : Env} {R : Room} {s : State} {m : MethodId} {args : Array Value} {below : List Frame} {meth : Method} {c : Code} {nL : Nat} {D : va_G} {cs : Nat → ClassId} {A : Nat → Prop} {H0 : Heap} {cells slots : Nat} {Q : State → Prop} {q : Nat → Nat} {σ : HS} {lv : List (Nat × Value)} {pc : Nat} {st : List Value} {cc : ByteArray} {own : String}
theorem j_lvsub (is : List Nat) {lv' : List (Nat × Value)} (h : lv_pick lv is = lv') (k : J p l e R s m args below meth c nL D cs A H0 cells slots Q q σ lv' pc st) : J p l e R s m args below meth c nL D cs A H0 cells slots Q q σ lv pc st := fun H locs ls hO hP hD hS hl => k H locs ls hO hP hD hS (lv_sub hl is h)
theorem w_oi1 : Cond.instanceMethod objectInit ∈ lw_g := gw 70 (by decide +kernel) rfl
set_option maxRecDepth 100000 in
theorem w_oi2 : Cond.code objectInit ⟨#[0xb1]⟩ 1 none ∈ lw_g := gw 71 rfl rfl
theorem j_objInit (X : Cx p s m args c cc nL own D cs A H0) {index a : Nat} (hlk : Cond.methodLink own index objectInit ∈ lw_g) (hfr : 1 ≤ R.frames) (hlo : (st.map fun v => v.category).sum + 12 ≤ R.locals) (hd : decode cc pc = .ok (.invokespecial index, 3)) (k : J p l e R s m args below meth c nL D cs A H0 cells slots Q q σ lv (pc + 3) st) : J p l e R s m args below meth c nL D cs A H0 cells slots Q q σ lv pc (.ref a :: st) := fun H locs ls hO hP hD hS hl =>
  W.objInit X.1 X.2.1 X.2.2.2.1 (X.2.2.2.2.1 _ hlk) (X.2.2.2.2.1 _ w_oi1) (X.2.2.2.2.1 _ w_oi2) rfl (hl.1.trans X.2.2.1.symm) rfl hd hfr (by show 2 * 0 + _ + 12 ≤ _; omega) (k H locs ls hO hP hD hS hl)
theorem w_smax : Cond.static Lib.Math.max.name ∈ lw_g := gw 361 (by decide +kernel) rfl
set_option maxRecDepth 100000 in
theorem w_cmax : Cond.code Lib.Math.max.name Lib.Math.max.code 2 (some .int) ∈ lw_g := gw 362 rfl rfl
theorem j_mmax (X : Cx p s m args c cc nL own D cs A H0) {index : Nat} {x y : Int32} (hlk : Cond.methodLink own index Lib.Math.max.name ∈ lw_g) (hfr : 1 ≤ R.frames) (hlo : (st.map fun v => v.category).sum + 13 ≤ R.locals) (hc : cells ≤ R.cells) (hs : slots ≤ R.slots) (hd : decode cc pc = .ok (.invokestatic index, 3)) (kk : ∀ v : Int32, v = (if x < y then y else x) → J p l e R s m args below meth c nL D cs A H0 cells slots Q q σ lv (pc + 3) (.int v :: st)) : J p l e R s m args below meth c nL D cs A H0 cells slots Q q σ lv pc (.int y :: .int x :: st) := fun H locs ls hO hP hD hS hl =>
  va_mmax X.1 X.2.1 (X.2.2.1.trans hl.1.symm) X.2.2.2.1 (X.2.2.2.2.1 _ hlk) (X.2.2.2.2.1 _ w_smax) (X.2.2.2.2.1 _ w_math) (X.2.2.2.2.1 _ w_cmax) hfr hlo hc hs hd (kk _ rfl H locs ls hO hP hD hS hl)
theorem w_smin : Cond.static Lib.Math.min.name ∈ lw_g := gw 346 (by decide +kernel) rfl
set_option maxRecDepth 100000 in
theorem w_cmin : Cond.code Lib.Math.min.name Lib.Math.min.code 2 (some .int) ∈ lw_g := gw 347 rfl rfl
theorem j_mmin (X : Cx p s m args c cc nL own D cs A H0) {index : Nat} {x y : Int32} (hlk : Cond.methodLink own index Lib.Math.min.name ∈ lw_g) (hfr : 1 ≤ R.frames) (hlo : (st.map fun v => v.category).sum + 13 ≤ R.locals) (hc : cells ≤ R.cells) (hs : slots ≤ R.slots) (hd : decode cc pc = .ok (.invokestatic index, 3)) (kk : ∀ v : Int32, v = (if y < x then y else x) → J p l e R s m args below meth c nL D cs A H0 cells slots Q q σ lv (pc + 3) (.int v :: st)) : J p l e R s m args below meth c nL D cs A H0 cells slots Q q σ lv pc (.int y :: .int x :: st) := fun H locs ls hO hP hD hS hl =>
  va_mmin X.1 X.2.1 (X.2.2.1.trans hl.1.symm) X.2.2.2.1 (X.2.2.2.2.1 _ hlk) (X.2.2.2.2.1 _ w_smin) (X.2.2.2.2.1 _ w_math) (X.2.2.2.2.1 _ w_cmin) hfr hlo hc hs hd (kk _ rfl H locs ls hO hP hD hS hl)
theorem w_smax_long : Cond.static Lib.MathLoose.max_long.x ∈ lw_g := gw 500 (by decide +kernel) rfl
set_option maxRecDepth 100000 in
theorem w_cmax_long : Cond.code Lib.MathLoose.max_long.x Lib.MathLoose.max_long.code 4 (some .long) ∈ lw_g := gw 501 rfl rfl
theorem j_mmax_long (X : Cx p s m args c cc nL own D cs A H0) {index : Nat} {x y : Int64} (hlk : Cond.methodLink own index Lib.MathLoose.max_long.x ∈ lw_g) (hfr : 1 ≤ R.frames) (hlo : (st.map fun v => v.category).sum + 15 ≤ R.locals) (hc : cells ≤ R.cells) (hs : slots ≤ R.slots) (hd : decode cc pc = .ok (.invokestatic index, 3)) (kk : ∀ v : Int64, v = (if y < x then x else y) → J p l e R s m args below meth c nL D cs A H0 cells slots Q q σ lv (pc + 3) (.long v :: st)) : J p l e R s m args below meth c nL D cs A H0 cells slots Q q σ lv pc (.long y :: .long x :: st) := fun H locs ls hO hP hD hS hl =>
  va_mmax_long X.1 X.2.1 (X.2.2.1.trans hl.1.symm) X.2.2.2.1 (X.2.2.2.2.1 _ hlk) (X.2.2.2.2.1 _ w_smax_long) (X.2.2.2.2.1 _ w_math) (X.2.2.2.2.1 _ w_cmax_long) hfr hlo hc hs hd (kk _ rfl H locs ls hO hP hD hS hl)
theorem w_smin_long : Cond.static Lib.MathLoose.min_long.x ∈ lw_g := gw 497 (by decide +kernel) rfl
set_option maxRecDepth 100000 in
theorem w_cmin_long : Cond.code Lib.MathLoose.min_long.x Lib.MathLoose.min_long.code 4 (some .long) ∈ lw_g := gw 498 rfl rfl
theorem j_mmin_long (X : Cx p s m args c cc nL own D cs A H0) {index : Nat} {x y : Int64} (hlk : Cond.methodLink own index Lib.MathLoose.min_long.x ∈ lw_g) (hfr : 1 ≤ R.frames) (hlo : (st.map fun v => v.category).sum + 15 ≤ R.locals) (hc : cells ≤ R.cells) (hs : slots ≤ R.slots) (hd : decode cc pc = .ok (.invokestatic index, 3)) (kk : ∀ v : Int64, v = (if y < x then y else x) → J p l e R s m args below meth c nL D cs A H0 cells slots Q q σ lv (pc + 3) (.long v :: st)) : J p l e R s m args below meth c nL D cs A H0 cells slots Q q σ lv pc (.long y :: .long x :: st) := fun H locs ls hO hP hD hS hl =>
  va_mmin_long X.1 X.2.1 (X.2.2.1.trans hl.1.symm) X.2.2.2.1 (X.2.2.2.2.1 _ hlk) (X.2.2.2.2.1 _ w_smin_long) (X.2.2.2.2.1 _ w_math) (X.2.2.2.2.1 _ w_cmin_long) hfr hlo hc hs hd (kk _ rfl H locs ls hO hP hD hS hl)
theorem j_copy (X : Cx p s m args c cc nL own D cs A H0) {index src dst : Nat} {sp dp n : Int32} (h : (isO σ 10 src ∧ isO σ 10 dst) ∧ ((¬ sp < 0 ∧ ¬ dp < 0 ∧ ¬ n < 0) ∧ (sp.toNatClampNeg + n.toNatClampNeg ≤ hlen σ src ∧ dp.toNatClampNeg + n.toNatClampNeg ≤ hlen σ dst))) (hlk : Cond.methodLink own index arraycopyName ∈ lw_g) (hfr : 1 ≤ R.frames) (hlo : (st.map fun v => v.category).sum + (nativeFrameWords "java/lang/System" "arraycopy" 5 + 11) ≤ R.locals) (hd : decode cc pc = .ok (.invokestatic index, 3)) (kk : ∀ σ' : HS, σ' = rA σ dst (va_cpy (hA σ src) (hA σ dst) sp.toNatClampNeg dp.toNatClampNeg n.toNatClampNeg) → J p l e R s m args below meth c nL D cs A H0 cells slots Q q σ' lv (pc + 3) st) : J p l e R s m args below meth c nL D cs A H0 cells slots Q q σ lv pc (.int n :: .int dp :: .ref (q dst) :: .int sp :: .ref (q src) :: st) := fun H locs ls hO hP hD hS hl => by
  obtain ⟨⟨h1, h2⟩, ⟨h3, h4, h5⟩, h6, h7⟩ := h
  refine va_copyi X.1 X.2.1 (X.2.2.1.trans hl.1.symm) X.2.2.2.1 (X.2.2.2.2.1 _ hlk) (X.2.2.2.2.1 _ w_acn) (X.2.2.2.2.1 _ w_acs) (X.2.2.2.2.1 _ w_sys) X.2.2.2.2.2.1 hP hD hS src dst 0 0 (by rw [hW_get h1.1, hE_i h1.2]) (by rw [hW_get h2.1, hE_i h2.2]) rfl rfl rfl h3 h4 h5 h6 h7 (fun _ _ => rfl) hfr hlo hd (fun H1 locs1 hP1 hD1 hS1 => ?_)
  have e0 : (hWl cs q σ).set dst (q dst, .inl (cs 0, hlen σ dst, .inl (va_cpy (hA σ src) (hA σ dst) sp.toNatClampNeg dp.toNatClampNeg n.toNatClampNeg))) = hWl cs q (rA σ dst (va_cpy (hA σ src) (hA σ dst) sp.toNatClampNeg dp.toNatClampNeg n.toNatClampNeg)) := hW_set rfl (by rw [hE_i (σ := rA σ dst _) h2.2]; exact congrArg (fun z => (Sum.inl (cs 0, hlen σ dst, .inl z) : va_E)) upr_s) hE_rA
  rw [e0] at hP1 hD1
  exact kk _ rfl H1 locs1 ls hO hP1 hD1 hS1 hl
theorem j_aast (X : Cx p s m args c cc nL own D cs A H0) {j : Nat} {i : Int32} {o : Option Nat} (h : isO σ 13 j ∧ inb i (hlen σ j)) (hv : okF σ o = true) (hd : decode cc pc = .ok (.aastore, 1)) (kk : ∀ σ' : HS, σ' = sR σ j i.toNatClampNeg o → J p l e R s m args below meth c nL D cs A H0 cells slots Q q σ' lv (pc + 1) st) : J p l e R s m args below meth c nL D cs A H0 cells slots Q q σ lv pc (va_rf (Option.map q o) :: .int i :: .ref (q j) :: st) := fun H locs ls hO hP hD hS hl => by
  have ha : (hWl cs q σ)[j]? = some (q j, .inl (cs 3, hlen σ j, .inr (.inr (.inr (.inr (fun k => (hR σ j k).map q)))))) := by rw [hW_get h.1.1, hE_q h.1.2]
  have e0 : (hWl cs q σ).set j (q j, .inl (cs 3, hlen σ j, .inr (.inr (.inr (.inr (va_up (fun k => (hR σ j k).map q) i.toNatClampNeg (Option.map q o))))))) = hWl cs q (sR σ j i.toNatClampNeg o) := hW_set rfl (by
    rw [hE_q (σ := sR σ j i.toNatClampNeg o) h.1.2]
    refine congrArg (fun z => (Sum.inl (cs 3, hlen σ j, .inr (.inr (.inr (.inr z)))) : va_E)) (funext fun k => ?_)
    show Option.map q (up2 σ.2.2.2.2.2 j i.toNatClampNeg o j k) = _
    rw [up2_row]
    unfold va_up
    dsimp only
    by_cases hk : k = i.toNatClampNeg
    · rw [if_pos hk, if_pos hk]
    · rw [if_neg hk, if_neg hk]; rfl) hE_sR
  cases o with
  | some v =>
    have hv2 : v < hN σ ∧ hty σ v = 0 := by simpa [okF] using hv
    refine va_astq X.1 X.2.1 X.2.2.2.2.2.1 hP hD hS j 3 v 0 (r := (RX0, TX0, 10)) ha rfl (by rw [hW_get hv2.1, hE_o hv2.2 (by decide)]) rfl h.2 hd (fun H1 locs1 hP1 hD1 hS1 => ?_)
    have hP1' : va_P D classes ((hWl cs q σ).set j (q j, .inl (cs 3, hlen σ j, .inr (.inr (.inr (.inr (va_up (fun k => (hR σ j k).map q) i.toNatClampNeg (Option.map q (some v))))))))) H1 := hP1
    have hD1' : va_D A ((hWl cs q σ).set j (q j, .inl (cs 3, hlen σ j, .inr (.inr (.inr (.inr (va_up (fun k => (hR σ j k).map q) i.toNatClampNeg (Option.map q (some v))))))))) := hD1
    rw [e0] at hP1' hD1'
    exact kk _ rfl H1 locs1 ls (hOK_sR hO (fun z hz => by cases hz; exact hv2.1)) hP1' hD1' hS1 hl
  | none =>
    refine va_WaastN X.1 X.2.1 (hP j _ ha) ((X.2.2.2.2.2.1.2 3 (cs 3, .object RX0) rfl).1 (hlen σ j) (fun k => va_rf ((hR σ j k).map q))) (fun z => by cases z) (by show ¬ (i < 0 ∨ (arrV _ _ _).slots.size ≤ _); rw [arrV_size]; exact h.2) rfl rfl hd (fun H1 e1 z oq => ?_)
    have hP1 : va_P D classes ((hWl cs q σ).set j (q j, .inl (cs 3, hlen σ j, .inr (.inr (.inr (.inr (va_up (fun k => (hR σ j k).map q) i.toNatClampNeg (Option.map q none)))))))) H1 := hP.set hD ha (by
      show H1[q j]? = some (vp_cell _ _)
      rw [e1, vp_cell_q, vp_cell_q, arrV_store]
      congr 2
      funext k
      by_cases hk : k = i.toNatClampNeg
      · subst hk; simp [updV, va_up, va_rf]
      · simp [updV, va_up, hk]) oq
    have hD1 := hD.set (e := .inl (cs 3, hlen σ j, .inr (.inr (.inr (.inr (va_up (fun k => (hR σ j k).map q) i.toNatClampNeg (Option.map q none))))))) ha
    rw [e0] at hP1 hD1
    exact kk _ rfl H1 _ ls (hOK_sR hO (fun z hz => by cases hz)) hP1 hD1 (hS.put z oq (hD.2 j _ ha)) hl
end HM
end
section
def lp_J7_fill_53178_5_b  (K5 : Nat → Int32 → Int32 → Int32 → HS → Option (Unit × HS)) (x0 : Nat) (x1 : Int32) (x2 : Int32) (x3 : Int32) (τ : HS) : Option (Unit × HS) :=
  (if x3 ≤ x2 then
  some ((), τ)
  else
  chk (isO τ 10 x0 ∧ inb x2 (hlen τ x0)) (lt (sA τ x0 x2.toNatClampNeg x1) fun σ12 =>
  lt (x2 + (1 : Int32)) fun v14 =>
  K5 x0 x1 v14 x3 σ12))
def lp_J7_fill_53178_5  : Nat → Nat → Int32 → Int32 → Int32 → HS → Option (Unit × HS)
  | 0 => fun _ _ _ _ _ => none
  | n + 1 => lp_J7_fill_53178_5_b  (lp_J7_fill_53178_5  n)
def f_J7_fill_53178 (a0 : Nat) (a1 : Int32) (σ : HS) : Option (Unit × HS) :=
  lt ((0 : Int32)) fun v1 =>
  chk (isO σ 10 a0) (lt (Int32.ofNat (hlen σ a0)) fun v5 =>
  lp_J7_fill_53178_5  1000 a0 a1 v1 v5 σ)
def lp_J7_fill_d0a16_6_b  (K6 : Nat → Int64 → Int32 → Int32 → HS → Option (Unit × HS)) (x0 : Nat) (x1 : Int64) (x3 : Int32) (x4 : Int32) (τ : HS) : Option (Unit × HS) :=
  (if x4 ≤ x3 then
  some ((), τ)
  else
  chk (isO τ 12 x0 ∧ inb x3 (hlen τ x0)) (lt (sB τ x0 x3.toNatClampNeg x1) fun σ12 =>
  lt (x3 + (1 : Int32)) fun v14 =>
  K6 x0 x1 v14 x4 σ12))
def lp_J7_fill_d0a16_6  : Nat → Nat → Int64 → Int32 → Int32 → HS → Option (Unit × HS)
  | 0 => fun _ _ _ _ _ => none
  | n + 1 => lp_J7_fill_d0a16_6_b  (lp_J7_fill_d0a16_6  n)
def f_J7_fill_d0a16 (a0 : Nat) (a1 : Int64) (σ : HS) : Option (Unit × HS) :=
  lt ((0 : Int32)) fun v1 =>
  chk (isO σ 12 a0) (lt (Int32.ofNat (hlen σ a0)) fun v5 =>
  lp_J7_fill_d0a16_6  1000 a0 a1 v1 v5 σ)
def f_X1_differenceFits (a0 : Int64) (a2 : Int64) (σ : HS) : Option (Int32 × HS) :=
  (if (lg_cmp a2 (0 : Int64)) < 0 then
  (if 0 < (lg_cmp a0 ((9223372036854775807 : Int64) + a2)) then
  some ((0 : Int32), σ)
  else
  some ((1 : Int32), σ))
  else
  (if (lg_cmp a0 ((-9223372036854775808 : Int64) + a2)) < 0 then
  some ((0 : Int32), σ)
  else
  some ((1 : Int32), σ)))
def f_X1_difference (a0 : Nat) (a1 : Int32) (a2 : Nat) (a3 : Int32) (a4 : Nat) (a5 : Int32) (σ : HS) : Option (Unit × HS) :=
  chk (isO σ 1 a0) (bd (hR σ a0 2) fun i3 =>
  chk (isO σ 1 a2) (bd (hR σ a2 2) fun i8 =>
  chk (isO σ 11 i8 ∧ inb a3 (hlen σ i8)) (lt (hA σ i8 a3.toNatClampNeg) fun v13 =>
  (if v13 = 0 then
  chk (isO σ 1 a4) (bd (hR σ a4 2) fun i76 =>
  chk (isO σ 11 i76 ∧ inb a5 (hlen σ i76)) (lt (hA σ i76 a5.toNatClampNeg) fun v81 =>
  (if v81 = 0 then
  bd (hR σ a2 0) fun i141 =>
  chk (isO σ 12 i141 ∧ inb a3 (hlen σ i141)) (lt (hB σ i141 a3.toNatClampNeg) fun v146 =>
  bd (hR σ a4 1) fun i148 =>
  chk (isO σ 12 i148 ∧ inb a5 (hlen σ i148)) (lt (hB σ i148 a5.toNatClampNeg) fun v153 =>
  bc (f_X1_differenceFits v146 v153 σ) fun r155 σ156 =>
  (if r155 = 0 then
  chk (isO σ156 11 i3 ∧ inb a1 (hlen σ156 i3)) (lt (sA σ156 i3 a1.toNatClampNeg (1 : Int32)) fun σ164 =>
  chk (isO σ164 1 a0) (bd (hR σ164 a0 0) fun i168 =>
  chk (isO σ164 1 a2) (bd (hR σ164 a2 0) fun i173 =>
  chk (isO σ164 12 i173 ∧ inb a3 (hlen σ164 i173)) (lt (hB σ164 i173 a3.toNatClampNeg) fun v178 =>
  chk (isO σ164 1 a4) (bd (hR σ164 a4 1) fun i182 =>
  chk (isO σ164 12 i182 ∧ inb a5 (hlen σ164 i182)) (lt (hB σ164 i182 a5.toNatClampNeg) fun v187 =>
  chk (isO σ164 12 i168 ∧ inb a1 (hlen σ164 i168)) (lt (sB σ164 i168 a1.toNatClampNeg (v178 - v187)) fun σ191 =>
  bd (hR σ191 a0 1) fun i196 =>
  bd (hR σ191 a2 1) fun i199 =>
  chk (isO σ191 12 i199 ∧ inb a3 (hlen σ191 i199)) (lt (hB σ191 i199 a3.toNatClampNeg) fun v204 =>
  bd (hR σ191 a4 0) fun i206 =>
  chk (isO σ191 12 i206 ∧ inb a5 (hlen σ191 i206)) (lt (hB σ191 i206 a5.toNatClampNeg) fun v211 =>
  chk (isO σ191 12 i196 ∧ inb a1 (hlen σ191 i196)) (lt (sB σ191 i196 a1.toNatClampNeg (v204 - v211)) fun σ215 =>
  some ((), σ215)))))))))))
  else
  chk (isO σ156 1 a2) (bd (hR σ156 a2 1) fun i222 =>
  chk (isO σ156 12 i222 ∧ inb a3 (hlen σ156 i222)) (lt (hB σ156 i222 a3.toNatClampNeg) fun v227 =>
  chk (isO σ156 1 a4) (bd (hR σ156 a4 0) fun i231 =>
  chk (isO σ156 12 i231 ∧ inb a5 (hlen σ156 i231)) (lt (hB σ156 i231 a5.toNatClampNeg) fun v236 =>
  bc (f_X1_differenceFits v227 v236 σ156) fun r238 σ239 =>
  (if r238 = 0 then
  chk (isO σ239 11 i3 ∧ inb a1 (hlen σ239 i3)) (lt (sA σ239 i3 a1.toNatClampNeg (1 : Int32)) fun σ305 =>
  chk (isO σ305 1 a0) (bd (hR σ305 a0 0) fun i309 =>
  chk (isO σ305 1 a2) (bd (hR σ305 a2 0) fun i314 =>
  chk (isO σ305 12 i314 ∧ inb a3 (hlen σ305 i314)) (lt (hB σ305 i314 a3.toNatClampNeg) fun v319 =>
  chk (isO σ305 1 a4) (bd (hR σ305 a4 1) fun i323 =>
  chk (isO σ305 12 i323 ∧ inb a5 (hlen σ305 i323)) (lt (hB σ305 i323 a5.toNatClampNeg) fun v328 =>
  chk (isO σ305 12 i309 ∧ inb a1 (hlen σ305 i309)) (lt (sB σ305 i309 a1.toNatClampNeg (v319 - v328)) fun σ332 =>
  bd (hR σ332 a0 1) fun i337 =>
  bd (hR σ332 a2 1) fun i340 =>
  chk (isO σ332 12 i340 ∧ inb a3 (hlen σ332 i340)) (lt (hB σ332 i340 a3.toNatClampNeg) fun v345 =>
  bd (hR σ332 a4 0) fun i347 =>
  chk (isO σ332 12 i347 ∧ inb a5 (hlen σ332 i347)) (lt (hB σ332 i347 a5.toNatClampNeg) fun v352 =>
  chk (isO σ332 12 i337 ∧ inb a1 (hlen σ332 i337)) (lt (sB σ332 i337 a1.toNatClampNeg (v345 - v352)) fun σ356 =>
  some ((), σ356)))))))))))
  else
  chk (isO σ239 11 i3 ∧ inb a1 (hlen σ239 i3)) (lt (sA σ239 i3 a1.toNatClampNeg (0 : Int32)) fun σ247 =>
  chk (isO σ247 1 a0) (bd (hR σ247 a0 0) fun i251 =>
  chk (isO σ247 1 a2) (bd (hR σ247 a2 0) fun i256 =>
  chk (isO σ247 12 i256 ∧ inb a3 (hlen σ247 i256)) (lt (hB σ247 i256 a3.toNatClampNeg) fun v261 =>
  chk (isO σ247 1 a4) (bd (hR σ247 a4 1) fun i265 =>
  chk (isO σ247 12 i265 ∧ inb a5 (hlen σ247 i265)) (lt (hB σ247 i265 a5.toNatClampNeg) fun v270 =>
  chk (isO σ247 12 i251 ∧ inb a1 (hlen σ247 i251)) (lt (sB σ247 i251 a1.toNatClampNeg (v261 - v270)) fun σ274 =>
  bd (hR σ274 a0 1) fun i279 =>
  bd (hR σ274 a2 1) fun i282 =>
  chk (isO σ274 12 i282 ∧ inb a3 (hlen σ274 i282)) (lt (hB σ274 i282 a3.toNatClampNeg) fun v287 =>
  bd (hR σ274 a4 0) fun i289 =>
  chk (isO σ274 12 i289 ∧ inb a5 (hlen σ274 i289)) (lt (hB σ274 i289 a5.toNatClampNeg) fun v294 =>
  chk (isO σ274 12 i279 ∧ inb a1 (hlen σ274 i279)) (lt (sB σ274 i279 a1.toNatClampNeg (v287 - v294)) fun σ298 =>
  some ((), σ298)))))))))))))))))))
  else
  chk (isO σ 11 i3 ∧ inb a1 (hlen σ i3)) (lt (sA σ i3 a1.toNatClampNeg (1 : Int32)) fun σ88 =>
  bd (hR σ88 a0 0) fun i93 =>
  bd (hR σ88 a2 0) fun i96 =>
  chk (isO σ88 12 i96 ∧ inb a3 (hlen σ88 i96)) (lt (hB σ88 i96 a3.toNatClampNeg) fun v101 =>
  bd (hR σ88 a4 1) fun i103 =>
  chk (isO σ88 12 i103 ∧ inb a5 (hlen σ88 i103)) (lt (hB σ88 i103 a5.toNatClampNeg) fun v108 =>
  chk (isO σ88 12 i93 ∧ inb a1 (hlen σ88 i93)) (lt (sB σ88 i93 a1.toNatClampNeg (v101 - v108)) fun σ112 =>
  bd (hR σ112 a0 1) fun i117 =>
  bd (hR σ112 a2 1) fun i120 =>
  chk (isO σ112 12 i120 ∧ inb a3 (hlen σ112 i120)) (lt (hB σ112 i120 a3.toNatClampNeg) fun v125 =>
  bd (hR σ112 a4 0) fun i127 =>
  chk (isO σ112 12 i127 ∧ inb a5 (hlen σ112 i127)) (lt (hB σ112 i127 a5.toNatClampNeg) fun v132 =>
  chk (isO σ112 12 i117 ∧ inb a1 (hlen σ112 i117)) (lt (sB σ112 i117 a1.toNatClampNeg (v125 - v132)) fun σ136 =>
  some ((), σ136)))))))))))
  else
  chk (isO σ 11 i3 ∧ inb a1 (hlen σ i3)) (lt (sA σ i3 a1.toNatClampNeg (1 : Int32)) fun σ20 =>
  bd (hR σ20 a0 0) fun i24 =>
  bd (hR σ20 a2 0) fun i27 =>
  chk (isO σ20 12 i27 ∧ inb a3 (hlen σ20 i27)) (lt (hB σ20 i27 a3.toNatClampNeg) fun v32 =>
  chk (isO σ20 1 a4) (bd (hR σ20 a4 1) fun i36 =>
  chk (isO σ20 12 i36 ∧ inb a5 (hlen σ20 i36)) (lt (hB σ20 i36 a5.toNatClampNeg) fun v41 =>
  chk (isO σ20 12 i24 ∧ inb a1 (hlen σ20 i24)) (lt (sB σ20 i24 a1.toNatClampNeg (v32 - v41)) fun σ45 =>
  bd (hR σ45 a0 1) fun i50 =>
  bd (hR σ45 a2 1) fun i53 =>
  chk (isO σ45 12 i53 ∧ inb a3 (hlen σ45 i53)) (lt (hB σ45 i53 a3.toNatClampNeg) fun v58 =>
  bd (hR σ45 a4 0) fun i60 =>
  chk (isO σ45 12 i60 ∧ inb a5 (hlen σ45 i60)) (lt (hB σ45 i60 a5.toNatClampNeg) fun v65 =>
  chk (isO σ45 12 i50 ∧ inb a1 (hlen σ45 i50)) (lt (sB σ45 i50 a1.toNatClampNeg (v58 - v65)) fun σ69 =>
  some ((), σ69)))))))))))))
def f_X1_fromTo (a0 : Nat) (a1 : Int32) (a2 : Int64) (a4 : Int64) (σ : HS) : Option (Unit × HS) :=
  chk (isO σ 1 a0) (bd (hR σ a0 0) fun i3 =>
  chk (isO σ 12 i3 ∧ inb a1 (hlen σ i3)) (lt (sB σ i3 a1.toNatClampNeg a2) fun σ8 =>
  bd (hR σ8 a0 1) fun i11 =>
  chk (isO σ8 12 i11 ∧ inb a1 (hlen σ8 i11)) (lt (sB σ8 i11 a1.toNatClampNeg a4) fun σ16 =>
  bd (hR σ16 a0 2) fun i19 =>
  chk (isO σ16 11 i19 ∧ inb a1 (hlen σ16 i19)) (lt (sA σ16 i19 a1.toNatClampNeg (0 : Int32)) fun σ24 =>
  some ((), σ24)))))
def f_X1_less (a0 : Nat) (a1 : Int32) (a2 : Nat) (a3 : Int32) (σ : HS) : Option (Unit × HS) :=
  chk (isO σ 1 a0) (bd (hR σ a0 2) fun i3 =>
  chk (isO σ 1 a2) (bd (hR σ a2 2) fun i8 =>
  chk (isO σ 11 i8 ∧ inb a3 (hlen σ i8)) (lt (hA σ i8 a3.toNatClampNeg) fun v13 =>
  (if v13 = 0 then
  bd (hR σ a2 0) fun i58 =>
  chk (isO σ 12 i58 ∧ inb a3 (hlen σ i58)) (lt (hB σ i58 a3.toNatClampNeg) fun v63 =>
  (if (lg_cmp v63 (-9223372036854775808 : Int64)) = 0 then
  chk (isO σ 11 i3 ∧ inb a1 (hlen σ i3)) (lt (sA σ i3 a1.toNatClampNeg (1 : Int32)) fun σ110 =>
  bd (hR σ110 a2 1) fun i114 =>
  chk (isO σ110 12 i114 ∧ inb a3 (hlen σ110 i114)) (lt (hB σ110 i114 a3.toNatClampNeg) fun v119 =>
  lt ((-v119)) fun v121 =>
  bd (hR σ110 a0 1) fun i123 =>
  bd (hR σ110 a2 0) fun i126 =>
  chk (isO σ110 12 i126 ∧ inb a3 (hlen σ110 i126)) (lt (hB σ110 i126 a3.toNatClampNeg) fun v131 =>
  chk (isO σ110 12 i123 ∧ inb a1 (hlen σ110 i123)) (lt (sB σ110 i123 a1.toNatClampNeg (-v131)) fun σ135 =>
  bd (hR σ135 a0 0) fun i139 =>
  chk (isO σ135 12 i139 ∧ inb a1 (hlen σ135 i139)) (lt (sB σ135 i139 a1.toNatClampNeg v121) fun σ144 =>
  some ((), σ144))))))
  else
  chk (isO σ 11 i3 ∧ inb a1 (hlen σ i3)) (lt (sA σ i3 a1.toNatClampNeg (0 : Int32)) fun σ70 =>
  bd (hR σ70 a2 1) fun i74 =>
  chk (isO σ70 12 i74 ∧ inb a3 (hlen σ70 i74)) (lt (hB σ70 i74 a3.toNatClampNeg) fun v79 =>
  lt ((-v79)) fun v81 =>
  bd (hR σ70 a0 1) fun i83 =>
  bd (hR σ70 a2 0) fun i86 =>
  chk (isO σ70 12 i86 ∧ inb a3 (hlen σ70 i86)) (lt (hB σ70 i86 a3.toNatClampNeg) fun v91 =>
  chk (isO σ70 12 i83 ∧ inb a1 (hlen σ70 i83)) (lt (sB σ70 i83 a1.toNatClampNeg (-v91)) fun σ95 =>
  bd (hR σ95 a0 0) fun i99 =>
  chk (isO σ95 12 i99 ∧ inb a1 (hlen σ95 i99)) (lt (sB σ95 i99 a1.toNatClampNeg v81) fun σ104 =>
  some ((), σ104))))))))
  else
  chk (isO σ 11 i3 ∧ inb a1 (hlen σ i3)) (lt (sA σ i3 a1.toNatClampNeg (1 : Int32)) fun σ20 =>
  bd (hR σ20 a2 1) fun i24 =>
  chk (isO σ20 12 i24 ∧ inb a3 (hlen σ20 i24)) (lt (hB σ20 i24 a3.toNatClampNeg) fun v29 =>
  lt ((-v29)) fun v31 =>
  bd (hR σ20 a0 1) fun i33 =>
  bd (hR σ20 a2 0) fun i36 =>
  chk (isO σ20 12 i36 ∧ inb a3 (hlen σ20 i36)) (lt (hB σ20 i36 a3.toNatClampNeg) fun v41 =>
  chk (isO σ20 12 i33 ∧ inb a1 (hlen σ20 i33)) (lt (sB σ20 i33 a1.toNatClampNeg (-v41)) fun σ45 =>
  bd (hR σ45 a0 0) fun i49 =>
  chk (isO σ45 12 i49 ∧ inb a1 (hlen σ45 i49)) (lt (sB σ45 i49 a1.toNatClampNeg v31) fun σ54 =>
  some ((), σ54))))))))))
def f_X1_productFits (a0 : Int64) (a2 : Int64) (σ : HS) : Option (Int32 × HS) :=
  (if (lg_cmp a0 ((a0).toInt32).toInt64) = 0 then
  (if (lg_cmp a2 ((a2).toInt32).toInt64) = 0 then
  lt ((1 : Int32)) fun v45 =>
  (if v45 = 0 then
  (if (lg_cmp a0 (0 : Int64)) = 0 then
  some ((1 : Int32), σ)
  else
  (if (lg_cmp a0 (-1 : Int64)) = 0 then
  (if (lg_cmp a2 (-9223372036854775808 : Int64)) = 0 then
  some ((0 : Int32), σ)
  else
  some ((1 : Int32), σ))
  else
  chk (¬ a0 = 0) ((if (lg_cmp ((a0 * a2) / a0) a2) = 0 then
  some ((1 : Int32), σ)
  else
  some ((0 : Int32), σ)))))
  else
  some ((1 : Int32), σ))
  else
  lt ((0 : Int32)) fun v26 =>
  (if v26 = 0 then
  (if (lg_cmp a0 (0 : Int64)) = 0 then
  some ((1 : Int32), σ)
  else
  (if (lg_cmp a0 (-1 : Int64)) = 0 then
  (if (lg_cmp a2 (-9223372036854775808 : Int64)) = 0 then
  some ((0 : Int32), σ)
  else
  some ((1 : Int32), σ))
  else
  chk (¬ a0 = 0) ((if (lg_cmp ((a0 * a2) / a0) a2) = 0 then
  some ((1 : Int32), σ)
  else
  some ((0 : Int32), σ)))))
  else
  some ((1 : Int32), σ)))
  else
  lt ((0 : Int32)) fun v4 =>
  (if v4 = 0 then
  (if (lg_cmp a0 (0 : Int64)) = 0 then
  some ((1 : Int32), σ)
  else
  (if (lg_cmp a0 (-1 : Int64)) = 0 then
  (if (lg_cmp a2 (-9223372036854775808 : Int64)) = 0 then
  some ((0 : Int32), σ)
  else
  some ((1 : Int32), σ))
  else
  chk (¬ a0 = 0) ((if (lg_cmp ((a0 * a2) / a0) a2) = 0 then
  some ((1 : Int32), σ)
  else
  some ((0 : Int32), σ)))))
  else
  some ((1 : Int32), σ)))
def f_X1_product (a0 : Nat) (a1 : Int32) (a2 : Nat) (a3 : Int32) (a4 : Nat) (a5 : Int32) (σ : HS) : Option (Unit × HS) :=
  chk (isO σ 1 a2) (bd (hR σ a2 0) fun i3 =>
  chk (isO σ 12 i3 ∧ inb a3 (hlen σ i3)) (lt (hB σ i3 a3.toNatClampNeg) fun v8 =>
  bd (hR σ a2 1) fun i10 =>
  chk (isO σ 12 i10 ∧ inb a3 (hlen σ i10)) (lt (hB σ i10 a3.toNatClampNeg) fun v15 =>
  chk (isO σ 1 a4) (bd (hR σ a4 0) fun i19 =>
  chk (isO σ 12 i19 ∧ inb a5 (hlen σ i19)) (lt (hB σ i19 a5.toNatClampNeg) fun v24 =>
  bd (hR σ a4 1) fun i26 =>
  chk (isO σ 12 i26 ∧ inb a5 (hlen σ i26)) (lt (hB σ i26 a5.toNatClampNeg) fun v31 =>
  chk (isO σ 1 a0) (bd (hR σ a0 2) fun i35 =>
  bd (hR σ a2 2) fun i38 =>
  chk (isO σ 11 i38 ∧ inb a3 (hlen σ i38)) (lt (hA σ i38 a3.toNatClampNeg) fun v43 =>
  (if v43 = 0 then
  bd (hR σ a4 2) fun i87 =>
  chk (isO σ 11 i87 ∧ inb a5 (hlen σ i87)) (lt (hA σ i87 a5.toNatClampNeg) fun v92 =>
  (if v92 = 0 then
  bc (f_X1_productFits v8 v24 σ) fun r136 σ137 =>
  (if r136 = 0 then
  chk (isO σ137 11 i35 ∧ inb a1 (hlen σ137 i35)) (lt (sA σ137 i35 a1.toNatClampNeg (1 : Int32)) fun σ145 =>
  chk (isO σ145 1 a0) (bd (hR σ145 a0 0) fun i149 =>
  lt (if (v8 * v31) < (v8 * v24) then (v8 * v31) else (v8 * v24)) fun v152 =>
  lt (if (v15 * v31) < (v15 * v24) then (v15 * v31) else (v15 * v24)) fun v154 =>
  lt (if v154 < v152 then v154 else v152) fun v156 =>
  chk (isO σ145 12 i149 ∧ inb a1 (hlen σ145 i149)) (lt (sB σ145 i149 a1.toNatClampNeg v156) fun σ160 =>
  bd (hR σ160 a0 1) fun i163 =>
  lt (if (v8 * v31) < (v8 * v24) then (v8 * v24) else (v8 * v31)) fun v166 =>
  lt (if (v15 * v31) < (v15 * v24) then (v15 * v24) else (v15 * v31)) fun v168 =>
  lt (if v168 < v166 then v166 else v168) fun v170 =>
  chk (isO σ160 12 i163 ∧ inb a1 (hlen σ160 i163)) (lt (sB σ160 i163 a1.toNatClampNeg v170) fun σ174 =>
  some ((), σ174)))))
  else
  bc (f_X1_productFits v8 v31 σ137) fun r177 σ178 =>
  (if r177 = 0 then
  chk (isO σ178 11 i35 ∧ inb a1 (hlen σ178 i35)) (lt (sA σ178 i35 a1.toNatClampNeg (1 : Int32)) fun σ186 =>
  chk (isO σ186 1 a0) (bd (hR σ186 a0 0) fun i190 =>
  lt (if (v8 * v31) < (v8 * v24) then (v8 * v31) else (v8 * v24)) fun v193 =>
  lt (if (v15 * v31) < (v15 * v24) then (v15 * v31) else (v15 * v24)) fun v195 =>
  lt (if v195 < v193 then v195 else v193) fun v197 =>
  chk (isO σ186 12 i190 ∧ inb a1 (hlen σ186 i190)) (lt (sB σ186 i190 a1.toNatClampNeg v197) fun σ201 =>
  bd (hR σ201 a0 1) fun i204 =>
  lt (if (v8 * v31) < (v8 * v24) then (v8 * v24) else (v8 * v31)) fun v207 =>
  lt (if (v15 * v31) < (v15 * v24) then (v15 * v24) else (v15 * v31)) fun v209 =>
  lt (if v209 < v207 then v207 else v209) fun v211 =>
  chk (isO σ201 12 i204 ∧ inb a1 (hlen σ201 i204)) (lt (sB σ201 i204 a1.toNatClampNeg v211) fun σ215 =>
  some ((), σ215)))))
  else
  bc (f_X1_productFits v15 v24 σ178) fun r218 σ219 =>
  (if r218 = 0 then
  chk (isO σ219 11 i35 ∧ inb a1 (hlen σ219 i35)) (lt (sA σ219 i35 a1.toNatClampNeg (1 : Int32)) fun σ227 =>
  chk (isO σ227 1 a0) (bd (hR σ227 a0 0) fun i231 =>
  lt (if (v8 * v31) < (v8 * v24) then (v8 * v31) else (v8 * v24)) fun v234 =>
  lt (if (v15 * v31) < (v15 * v24) then (v15 * v31) else (v15 * v24)) fun v236 =>
  lt (if v236 < v234 then v236 else v234) fun v238 =>
  chk (isO σ227 12 i231 ∧ inb a1 (hlen σ227 i231)) (lt (sB σ227 i231 a1.toNatClampNeg v238) fun σ242 =>
  bd (hR σ242 a0 1) fun i245 =>
  lt (if (v8 * v31) < (v8 * v24) then (v8 * v24) else (v8 * v31)) fun v248 =>
  lt (if (v15 * v31) < (v15 * v24) then (v15 * v24) else (v15 * v31)) fun v250 =>
  lt (if v250 < v248 then v248 else v250) fun v252 =>
  chk (isO σ242 12 i245 ∧ inb a1 (hlen σ242 i245)) (lt (sB σ242 i245 a1.toNatClampNeg v252) fun σ256 =>
  some ((), σ256)))))
  else
  bc (f_X1_productFits v15 v31 σ219) fun r259 σ260 =>
  (if r259 = 0 then
  chk (isO σ260 11 i35 ∧ inb a1 (hlen σ260 i35)) (lt (sA σ260 i35 a1.toNatClampNeg (1 : Int32)) fun σ302 =>
  chk (isO σ302 1 a0) (bd (hR σ302 a0 0) fun i306 =>
  lt (if (v8 * v31) < (v8 * v24) then (v8 * v31) else (v8 * v24)) fun v309 =>
  lt (if (v15 * v31) < (v15 * v24) then (v15 * v31) else (v15 * v24)) fun v311 =>
  lt (if v311 < v309 then v311 else v309) fun v313 =>
  chk (isO σ302 12 i306 ∧ inb a1 (hlen σ302 i306)) (lt (sB σ302 i306 a1.toNatClampNeg v313) fun σ317 =>
  bd (hR σ317 a0 1) fun i320 =>
  lt (if (v8 * v31) < (v8 * v24) then (v8 * v24) else (v8 * v31)) fun v323 =>
  lt (if (v15 * v31) < (v15 * v24) then (v15 * v24) else (v15 * v31)) fun v325 =>
  lt (if v325 < v323 then v323 else v325) fun v327 =>
  chk (isO σ317 12 i320 ∧ inb a1 (hlen σ317 i320)) (lt (sB σ317 i320 a1.toNatClampNeg v327) fun σ331 =>
  some ((), σ331)))))
  else
  chk (isO σ260 11 i35 ∧ inb a1 (hlen σ260 i35)) (lt (sA σ260 i35 a1.toNatClampNeg (0 : Int32)) fun σ268 =>
  chk (isO σ268 1 a0) (bd (hR σ268 a0 0) fun i272 =>
  lt (if (v8 * v31) < (v8 * v24) then (v8 * v31) else (v8 * v24)) fun v275 =>
  lt (if (v15 * v31) < (v15 * v24) then (v15 * v31) else (v15 * v24)) fun v277 =>
  lt (if v277 < v275 then v277 else v275) fun v279 =>
  chk (isO σ268 12 i272 ∧ inb a1 (hlen σ268 i272)) (lt (sB σ268 i272 a1.toNatClampNeg v279) fun σ283 =>
  bd (hR σ283 a0 1) fun i286 =>
  lt (if (v8 * v31) < (v8 * v24) then (v8 * v24) else (v8 * v31)) fun v289 =>
  lt (if (v15 * v31) < (v15 * v24) then (v15 * v24) else (v15 * v31)) fun v291 =>
  lt (if v291 < v289 then v289 else v291) fun v293 =>
  chk (isO σ283 12 i286 ∧ inb a1 (hlen σ283 i286)) (lt (sB σ283 i286 a1.toNatClampNeg v293) fun σ297 =>
  some ((), σ297)))))))))
  else
  chk (isO σ 11 i35 ∧ inb a1 (hlen σ i35)) (lt (sA σ i35 a1.toNatClampNeg (1 : Int32)) fun σ99 =>
  bd (hR σ99 a0 0) fun i104 =>
  lt (if (v8 * v31) < (v8 * v24) then (v8 * v31) else (v8 * v24)) fun v107 =>
  lt (if (v15 * v31) < (v15 * v24) then (v15 * v31) else (v15 * v24)) fun v109 =>
  lt (if v109 < v107 then v109 else v107) fun v111 =>
  chk (isO σ99 12 i104 ∧ inb a1 (hlen σ99 i104)) (lt (sB σ99 i104 a1.toNatClampNeg v111) fun σ115 =>
  bd (hR σ115 a0 1) fun i120 =>
  lt (if (v8 * v31) < (v8 * v24) then (v8 * v24) else (v8 * v31)) fun v123 =>
  lt (if (v15 * v31) < (v15 * v24) then (v15 * v24) else (v15 * v31)) fun v125 =>
  lt (if v125 < v123 then v123 else v125) fun v127 =>
  chk (isO σ115 12 i120 ∧ inb a1 (hlen σ115 i120)) (lt (sB σ115 i120 a1.toNatClampNeg v127) fun σ131 =>
  some ((), σ131))))))
  else
  chk (isO σ 11 i35 ∧ inb a1 (hlen σ i35)) (lt (sA σ i35 a1.toNatClampNeg (1 : Int32)) fun σ50 =>
  bd (hR σ50 a0 0) fun i55 =>
  lt (if (v8 * v31) < (v8 * v24) then (v8 * v31) else (v8 * v24)) fun v58 =>
  lt (if (v15 * v31) < (v15 * v24) then (v15 * v31) else (v15 * v24)) fun v60 =>
  lt (if v60 < v58 then v60 else v58) fun v62 =>
  chk (isO σ50 12 i55 ∧ inb a1 (hlen σ50 i55)) (lt (sB σ50 i55 a1.toNatClampNeg v62) fun σ66 =>
  bd (hR σ66 a0 1) fun i71 =>
  lt (if (v8 * v31) < (v8 * v24) then (v8 * v24) else (v8 * v31)) fun v74 =>
  lt (if (v15 * v31) < (v15 * v24) then (v15 * v24) else (v15 * v31)) fun v76 =>
  lt (if v76 < v74 then v74 else v76) fun v78 =>
  chk (isO σ66 12 i71 ∧ inb a1 (hlen σ66 i71)) (lt (sB σ66 i71 a1.toNatClampNeg v78) fun σ82 =>
  some ((), σ82)))))))))))))
def f_X1_sumFits (a0 : Int64) (a2 : Int64) (σ : HS) : Option (Int32 × HS) :=
  (if (lg_cmp a2 (0 : Int64)) < 0 then
  (if (lg_cmp a0 ((-9223372036854775808 : Int64) - a2)) < 0 then
  some ((0 : Int32), σ)
  else
  some ((1 : Int32), σ))
  else
  (if 0 < (lg_cmp a0 ((9223372036854775807 : Int64) - a2)) then
  some ((0 : Int32), σ)
  else
  some ((1 : Int32), σ)))
def f_X1_sum (a0 : Nat) (a1 : Int32) (a2 : Nat) (a3 : Int32) (a4 : Nat) (a5 : Int32) (σ : HS) : Option (Unit × HS) :=
  chk (isO σ 1 a0) (bd (hR σ a0 2) fun i3 =>
  chk (isO σ 1 a2) (bd (hR σ a2 2) fun i8 =>
  chk (isO σ 11 i8 ∧ inb a3 (hlen σ i8)) (lt (hA σ i8 a3.toNatClampNeg) fun v13 =>
  (if v13 = 0 then
  chk (isO σ 1 a4) (bd (hR σ a4 2) fun i76 =>
  chk (isO σ 11 i76 ∧ inb a5 (hlen σ i76)) (lt (hA σ i76 a5.toNatClampNeg) fun v81 =>
  (if v81 = 0 then
  bd (hR σ a2 0) fun i141 =>
  chk (isO σ 12 i141 ∧ inb a3 (hlen σ i141)) (lt (hB σ i141 a3.toNatClampNeg) fun v146 =>
  bd (hR σ a4 0) fun i148 =>
  chk (isO σ 12 i148 ∧ inb a5 (hlen σ i148)) (lt (hB σ i148 a5.toNatClampNeg) fun v153 =>
  bc (f_X1_sumFits v146 v153 σ) fun r155 σ156 =>
  (if r155 = 0 then
  chk (isO σ156 11 i3 ∧ inb a1 (hlen σ156 i3)) (lt (sA σ156 i3 a1.toNatClampNeg (1 : Int32)) fun σ164 =>
  chk (isO σ164 1 a0) (bd (hR σ164 a0 0) fun i168 =>
  chk (isO σ164 1 a2) (bd (hR σ164 a2 0) fun i173 =>
  chk (isO σ164 12 i173 ∧ inb a3 (hlen σ164 i173)) (lt (hB σ164 i173 a3.toNatClampNeg) fun v178 =>
  chk (isO σ164 1 a4) (bd (hR σ164 a4 0) fun i182 =>
  chk (isO σ164 12 i182 ∧ inb a5 (hlen σ164 i182)) (lt (hB σ164 i182 a5.toNatClampNeg) fun v187 =>
  chk (isO σ164 12 i168 ∧ inb a1 (hlen σ164 i168)) (lt (sB σ164 i168 a1.toNatClampNeg (v178 + v187)) fun σ191 =>
  bd (hR σ191 a0 1) fun i196 =>
  bd (hR σ191 a2 1) fun i199 =>
  chk (isO σ191 12 i199 ∧ inb a3 (hlen σ191 i199)) (lt (hB σ191 i199 a3.toNatClampNeg) fun v204 =>
  bd (hR σ191 a4 1) fun i206 =>
  chk (isO σ191 12 i206 ∧ inb a5 (hlen σ191 i206)) (lt (hB σ191 i206 a5.toNatClampNeg) fun v211 =>
  chk (isO σ191 12 i196 ∧ inb a1 (hlen σ191 i196)) (lt (sB σ191 i196 a1.toNatClampNeg (v204 + v211)) fun σ215 =>
  some ((), σ215)))))))))))
  else
  chk (isO σ156 1 a2) (bd (hR σ156 a2 1) fun i222 =>
  chk (isO σ156 12 i222 ∧ inb a3 (hlen σ156 i222)) (lt (hB σ156 i222 a3.toNatClampNeg) fun v227 =>
  chk (isO σ156 1 a4) (bd (hR σ156 a4 1) fun i231 =>
  chk (isO σ156 12 i231 ∧ inb a5 (hlen σ156 i231)) (lt (hB σ156 i231 a5.toNatClampNeg) fun v236 =>
  bc (f_X1_sumFits v227 v236 σ156) fun r238 σ239 =>
  (if r238 = 0 then
  chk (isO σ239 11 i3 ∧ inb a1 (hlen σ239 i3)) (lt (sA σ239 i3 a1.toNatClampNeg (1 : Int32)) fun σ305 =>
  chk (isO σ305 1 a0) (bd (hR σ305 a0 0) fun i309 =>
  chk (isO σ305 1 a2) (bd (hR σ305 a2 0) fun i314 =>
  chk (isO σ305 12 i314 ∧ inb a3 (hlen σ305 i314)) (lt (hB σ305 i314 a3.toNatClampNeg) fun v319 =>
  chk (isO σ305 1 a4) (bd (hR σ305 a4 0) fun i323 =>
  chk (isO σ305 12 i323 ∧ inb a5 (hlen σ305 i323)) (lt (hB σ305 i323 a5.toNatClampNeg) fun v328 =>
  chk (isO σ305 12 i309 ∧ inb a1 (hlen σ305 i309)) (lt (sB σ305 i309 a1.toNatClampNeg (v319 + v328)) fun σ332 =>
  bd (hR σ332 a0 1) fun i337 =>
  bd (hR σ332 a2 1) fun i340 =>
  chk (isO σ332 12 i340 ∧ inb a3 (hlen σ332 i340)) (lt (hB σ332 i340 a3.toNatClampNeg) fun v345 =>
  bd (hR σ332 a4 1) fun i347 =>
  chk (isO σ332 12 i347 ∧ inb a5 (hlen σ332 i347)) (lt (hB σ332 i347 a5.toNatClampNeg) fun v352 =>
  chk (isO σ332 12 i337 ∧ inb a1 (hlen σ332 i337)) (lt (sB σ332 i337 a1.toNatClampNeg (v345 + v352)) fun σ356 =>
  some ((), σ356)))))))))))
  else
  chk (isO σ239 11 i3 ∧ inb a1 (hlen σ239 i3)) (lt (sA σ239 i3 a1.toNatClampNeg (0 : Int32)) fun σ247 =>
  chk (isO σ247 1 a0) (bd (hR σ247 a0 0) fun i251 =>
  chk (isO σ247 1 a2) (bd (hR σ247 a2 0) fun i256 =>
  chk (isO σ247 12 i256 ∧ inb a3 (hlen σ247 i256)) (lt (hB σ247 i256 a3.toNatClampNeg) fun v261 =>
  chk (isO σ247 1 a4) (bd (hR σ247 a4 0) fun i265 =>
  chk (isO σ247 12 i265 ∧ inb a5 (hlen σ247 i265)) (lt (hB σ247 i265 a5.toNatClampNeg) fun v270 =>
  chk (isO σ247 12 i251 ∧ inb a1 (hlen σ247 i251)) (lt (sB σ247 i251 a1.toNatClampNeg (v261 + v270)) fun σ274 =>
  bd (hR σ274 a0 1) fun i279 =>
  bd (hR σ274 a2 1) fun i282 =>
  chk (isO σ274 12 i282 ∧ inb a3 (hlen σ274 i282)) (lt (hB σ274 i282 a3.toNatClampNeg) fun v287 =>
  bd (hR σ274 a4 1) fun i289 =>
  chk (isO σ274 12 i289 ∧ inb a5 (hlen σ274 i289)) (lt (hB σ274 i289 a5.toNatClampNeg) fun v294 =>
  chk (isO σ274 12 i279 ∧ inb a1 (hlen σ274 i279)) (lt (sB σ274 i279 a1.toNatClampNeg (v287 + v294)) fun σ298 =>
  some ((), σ298)))))))))))))))))))
  else
  chk (isO σ 11 i3 ∧ inb a1 (hlen σ i3)) (lt (sA σ i3 a1.toNatClampNeg (1 : Int32)) fun σ88 =>
  bd (hR σ88 a0 0) fun i93 =>
  bd (hR σ88 a2 0) fun i96 =>
  chk (isO σ88 12 i96 ∧ inb a3 (hlen σ88 i96)) (lt (hB σ88 i96 a3.toNatClampNeg) fun v101 =>
  bd (hR σ88 a4 0) fun i103 =>
  chk (isO σ88 12 i103 ∧ inb a5 (hlen σ88 i103)) (lt (hB σ88 i103 a5.toNatClampNeg) fun v108 =>
  chk (isO σ88 12 i93 ∧ inb a1 (hlen σ88 i93)) (lt (sB σ88 i93 a1.toNatClampNeg (v101 + v108)) fun σ112 =>
  bd (hR σ112 a0 1) fun i117 =>
  bd (hR σ112 a2 1) fun i120 =>
  chk (isO σ112 12 i120 ∧ inb a3 (hlen σ112 i120)) (lt (hB σ112 i120 a3.toNatClampNeg) fun v125 =>
  bd (hR σ112 a4 1) fun i127 =>
  chk (isO σ112 12 i127 ∧ inb a5 (hlen σ112 i127)) (lt (hB σ112 i127 a5.toNatClampNeg) fun v132 =>
  chk (isO σ112 12 i117 ∧ inb a1 (hlen σ112 i117)) (lt (sB σ112 i117 a1.toNatClampNeg (v125 + v132)) fun σ136 =>
  some ((), σ136)))))))))))
  else
  chk (isO σ 11 i3 ∧ inb a1 (hlen σ i3)) (lt (sA σ i3 a1.toNatClampNeg (1 : Int32)) fun σ20 =>
  bd (hR σ20 a0 0) fun i24 =>
  bd (hR σ20 a2 0) fun i27 =>
  chk (isO σ20 12 i27 ∧ inb a3 (hlen σ20 i27)) (lt (hB σ20 i27 a3.toNatClampNeg) fun v32 =>
  chk (isO σ20 1 a4) (bd (hR σ20 a4 0) fun i36 =>
  chk (isO σ20 12 i36 ∧ inb a5 (hlen σ20 i36)) (lt (hB σ20 i36 a5.toNatClampNeg) fun v41 =>
  chk (isO σ20 12 i24 ∧ inb a1 (hlen σ20 i24)) (lt (sB σ20 i24 a1.toNatClampNeg (v32 + v41)) fun σ45 =>
  bd (hR σ45 a0 1) fun i50 =>
  bd (hR σ45 a2 1) fun i53 =>
  chk (isO σ45 12 i53 ∧ inb a3 (hlen σ45 i53)) (lt (hB σ45 i53 a3.toNatClampNeg) fun v58 =>
  bd (hR σ45 a4 1) fun i60 =>
  chk (isO σ45 12 i60 ∧ inb a5 (hlen σ45 i60)) (lt (hB σ45 i60 a5.toNatClampNeg) fun v65 =>
  chk (isO σ45 12 i50 ∧ inb a1 (hlen σ45 i50)) (lt (sB σ45 i50 a1.toNatClampNeg (v58 + v65)) fun σ69 =>
  some ((), σ69)))))))))))))
def lp_X2_becomeLike_47_b  (K47 : Nat → Nat → Int32 → HS → Option (Unit × HS)) (x0 : Nat) (x1 : Nat) (x2 : Int32) (τ : HS) : Option (Unit × HS) :=
  (if (6 : Int32) ≤ x2 then
  chk (isO τ 2 x1) (lt (hA τ x1 4) fun v48 =>
  chk (isO τ 2 x0) (lt (sA τ x0 4 v48) fun σ52 =>
  bd (hR σ52 x1 5) fun i56 =>
  bd (hR σ52 x0 5) fun i59 =>
  chk ((isO σ52 10 i56 ∧ isO σ52 10 i59) ∧ ((¬ (0 : Int32) < 0 ∧ ¬ (0 : Int32) < 0 ∧ ¬ (8 : Int32) < 0) ∧ (((0 : Int32)).toNatClampNeg + ((8 : Int32)).toNatClampNeg ≤ hlen σ52 i56 ∧ ((0 : Int32)).toNatClampNeg + ((8 : Int32)).toNatClampNeg ≤ hlen σ52 i59))) (lt (rA σ52 i59 (va_cpy (hA σ52 i56) (hA σ52 i59) ((0 : Int32)).toNatClampNeg ((0 : Int32)).toNatClampNeg ((8 : Int32)).toNatClampNeg)) fun σ64 =>
  bd (hR σ64 x1 6) fun i68 =>
  bd (hR σ64 x0 6) fun i71 =>
  chk ((isO σ64 10 i68 ∧ isO σ64 10 i71) ∧ ((¬ (0 : Int32) < 0 ∧ ¬ (0 : Int32) < 0 ∧ ¬ (8 : Int32) < 0) ∧ (((0 : Int32)).toNatClampNeg + ((8 : Int32)).toNatClampNeg ≤ hlen σ64 i68 ∧ ((0 : Int32)).toNatClampNeg + ((8 : Int32)).toNatClampNeg ≤ hlen σ64 i71))) (lt (rA σ64 i71 (va_cpy (hA σ64 i68) (hA σ64 i71) ((0 : Int32)).toNatClampNeg ((0 : Int32)).toNatClampNeg ((8 : Int32)).toNatClampNeg)) fun σ76 =>
  bd (hR σ76 x1 7) fun i80 =>
  bd (hR σ76 x0 7) fun i83 =>
  chk ((isO σ76 10 i80 ∧ isO σ76 10 i83) ∧ ((¬ (0 : Int32) < 0 ∧ ¬ (0 : Int32) < 0 ∧ ¬ (8 : Int32) < 0) ∧ (((0 : Int32)).toNatClampNeg + ((8 : Int32)).toNatClampNeg ≤ hlen σ76 i80 ∧ ((0 : Int32)).toNatClampNeg + ((8 : Int32)).toNatClampNeg ≤ hlen σ76 i83))) (lt (rA σ76 i83 (va_cpy (hA σ76 i80) (hA σ76 i83) ((0 : Int32)).toNatClampNeg ((0 : Int32)).toNatClampNeg ((8 : Int32)).toNatClampNeg)) fun σ88 =>
  lt (hA σ88 x1 8) fun v92 =>
  lt (sA σ88 x0 8 v92) fun σ94 =>
  some ((), σ94))))))
  else
  chk (isO τ 2 x0) (bd (hR τ x0 3) fun i100 =>
  chk (isO τ 2 x1) (bd (hR τ x1 3) fun i105 =>
  chk (isO τ 13 i105 ∧ inb x2 (hlen τ i105)) (lt (hR τ i105 x2.toNatClampNeg) fun o110 =>
  chk (isO τ 13 i100 ∧ inb x2 (hlen τ i100)) (chk (okF τ o110 = true) (lt (sR τ i100 x2.toNatClampNeg o110) fun σ116 =>
  lt (x2 + (1 : Int32)) fun v120 =>
  K47 x0 x1 v120 σ116))))))
def lp_X2_becomeLike_47  : Nat → Nat → Nat → Int32 → HS → Option (Unit × HS)
  | 0 => fun _ _ _ _ => none
  | n + 1 => lp_X2_becomeLike_47_b  (lp_X2_becomeLike_47  n)
def f_X2_becomeLike (a0 : Nat) (a1 : Nat) (σ : HS) : Option (Unit × HS) :=
  chk (isO σ 2 a1) (bd (hR σ a1 0) fun i3 =>
  chk (isO σ 2 a0) (bd (hR σ a0 0) fun i8 =>
  chk ((isO σ 10 i3 ∧ isO σ 10 i8) ∧ ((¬ (0 : Int32) < 0 ∧ ¬ (0 : Int32) < 0 ∧ ¬ (6 : Int32) < 0) ∧ (((0 : Int32)).toNatClampNeg + ((6 : Int32)).toNatClampNeg ≤ hlen σ i3 ∧ ((0 : Int32)).toNatClampNeg + ((6 : Int32)).toNatClampNeg ≤ hlen σ i8))) (lt (rA σ i8 (va_cpy (hA σ i3) (hA σ i8) ((0 : Int32)).toNatClampNeg ((0 : Int32)).toNatClampNeg ((6 : Int32)).toNatClampNeg)) fun σ13 =>
  bd (hR σ13 a1 1) fun i17 =>
  bd (hR σ13 a0 1) fun i20 =>
  chk ((isO σ13 10 i17 ∧ isO σ13 10 i20) ∧ ((¬ (0 : Int32) < 0 ∧ ¬ (0 : Int32) < 0 ∧ ¬ (6 : Int32) < 0) ∧ (((0 : Int32)).toNatClampNeg + ((6 : Int32)).toNatClampNeg ≤ hlen σ13 i17 ∧ ((0 : Int32)).toNatClampNeg + ((6 : Int32)).toNatClampNeg ≤ hlen σ13 i20))) (lt (rA σ13 i20 (va_cpy (hA σ13 i17) (hA σ13 i20) ((0 : Int32)).toNatClampNeg ((0 : Int32)).toNatClampNeg ((6 : Int32)).toNatClampNeg)) fun σ25 =>
  bd (hR σ25 a1 2) fun i29 =>
  bd (hR σ25 a0 2) fun i32 =>
  chk ((isO σ25 10 i29 ∧ isO σ25 10 i32) ∧ ((¬ (0 : Int32) < 0 ∧ ¬ (0 : Int32) < 0 ∧ ¬ (6 : Int32) < 0) ∧ (((0 : Int32)).toNatClampNeg + ((6 : Int32)).toNatClampNeg ≤ hlen σ25 i29 ∧ ((0 : Int32)).toNatClampNeg + ((6 : Int32)).toNatClampNeg ≤ hlen σ25 i32))) (lt (rA σ25 i32 (va_cpy (hA σ25 i29) (hA σ25 i32) ((0 : Int32)).toNatClampNeg ((0 : Int32)).toNatClampNeg ((6 : Int32)).toNatClampNeg)) fun σ37 =>
  lt ((0 : Int32)) fun v41 =>
  lp_X2_becomeLike_47  1000 a0 a1 v41 σ37)))))
def lp_X2_costOf_4_b  (K4 : Nat → Int32 → Int32 → Int32 → HS → Option (Int32 × HS)) (x0 : Nat) (x1 : Int32) (x2 : Int32) (x3 : Int32) (τ : HS) : Option (Int32 × HS) :=
  (if (6 : Int32) ≤ x3 then
  some (x2, τ)
  else
  (if ((x1 >>> (x3 &&& 31)) &&& (1 : Int32)) = (1 : Int32) then
  chk (isO τ 2 x0) (bd (hR τ x0 2) fun i17 =>
  chk (isO τ 10 i17 ∧ inb x3 (hlen τ i17)) (lt (hA τ i17 x3.toNatClampNeg) fun v22 =>
  lt ((x2 + v22)) fun v24 =>
  lt (x3 + (1 : Int32)) fun v26 =>
  K4 x0 x1 v24 v26 τ))
  else
  lt ((x2 + (0 : Int32))) fun v11 =>
  lt (x3 + (1 : Int32)) fun v13 =>
  K4 x0 x1 v11 v13 τ))
def lp_X2_costOf_4  : Nat → Nat → Int32 → Int32 → Int32 → HS → Option (Int32 × HS)
  | 0 => fun _ _ _ _ _ => none
  | n + 1 => lp_X2_costOf_4_b  (lp_X2_costOf_4  n)
def f_X2_costOf (a0 : Nat) (a1 : Int32) (σ : HS) : Option (Int32 × HS) :=
  lt ((0 : Int32)) fun v1 =>
  lt ((0 : Int32)) fun v3 =>
  lp_X2_costOf_4  1000 a0 a1 v1 v3 σ
def f_X2_highOf (a0 : Nat) (a1 : Int32) (σ : HS) : Option (Int32 × HS) :=
  chk (isO σ 2 a0) (bd (hR σ a0 0) fun i3 =>
  chk (isO σ 10 i3 ∧ inb a1 (hlen σ i3)) (lt (hA σ i3 a1.toNatClampNeg) fun v8 =>
  bd (hR σ a0 1) fun i10 =>
  chk (isO σ 10 i10 ∧ inb a1 (hlen σ i10)) (lt (hA σ i10 a1.toNatClampNeg) fun v15 =>
  some ((v8 + v15), σ))))
def f_X2_lowOf (a0 : Nat) (a1 : Int32) (σ : HS) : Option (Int32 × HS) :=
  chk (isO σ 2 a0) (bd (hR σ a0 0) fun i3 =>
  chk (isO σ 10 i3 ∧ inb a1 (hlen σ i3)) (lt (hA σ i3 a1.toNatClampNeg) fun v8 =>
  bd (hR σ a0 1) fun i10 =>
  chk (isO σ 10 i10 ∧ inb a1 (hlen σ i10)) (lt (hA σ i10 a1.toNatClampNeg) fun v15 =>
  some ((v8 - v15), σ))))
def f_X2_rowOf (a0 : Nat) (a1 : Int32) (σ : HS) : Option ((Option Nat) × HS) :=
  (if a1 = 0 then
  chk (isO σ 2 a0) (bd (hR σ a0 0) fun i19 =>
  some ((some i19), σ))
  else
  (if a1 = (1 : Int32) then
  chk (isO σ 2 a0) (bd (hR σ a0 1) fun i14 =>
  some ((some i14), σ))
  else
  chk (isO σ 2 a0) (bd (hR σ a0 2) fun i9 =>
  some ((some i9), σ))))
def f_X2_spanBehind (a0 : Nat) (a1 : Int32) (a2 : Int32) (σ : HS) : Option (Int32 × HS) :=
  chk (isO σ 2 a0) (bd (hR σ a0 6) fun i3 =>
  chk (isO σ 10 i3 ∧ inb a1 (hlen σ i3)) (lt (hA σ i3 a1.toNatClampNeg) fun v8 =>
  (if v8 = (1 : Int32) then
  bd (hR σ a0 7) fun i13 =>
  chk (isO σ 10 i13 ∧ inb a1 (hlen σ i13)) (lt (hA σ i13 a1.toNatClampNeg) fun v18 =>
  some (v18, σ))
  else if v8 = (2 : Int32) then
  bd (hR σ a0 7) fun i23 =>
  chk (isO σ 10 i23 ∧ inb a1 (hlen σ i23)) (lt (hA σ i23 a1.toNatClampNeg) fun v28 =>
  some ((a2 >>> (v28 &&& 31)), σ))
  else some (a2, σ))))
def f_X3_add (a0 : Nat) (a1 : Int32) (a2 : Int32) (a3 : Int32) (σ : HS) : Option (Int32 × HS) :=
  chk (isO σ 3 a0) (lt (hA σ a0 8) fun v3 =>
  (if v3 < (60 : Int32) then
  lt (hA σ a0 8) fun v8 =>
  lt (hA σ a0 8) fun v10 =>
  lt (sA σ a0 8 (v10 + (1 : Int32))) fun σ12 =>
  bd (hR σ12 a0 3) fun i15 =>
  chk (isO σ12 10 i15 ∧ inb v8 (hlen σ12 i15)) (lt (sA σ12 i15 v8.toNatClampNeg a1) fun σ20 =>
  bd (hR σ20 a0 4) fun i23 =>
  chk (isO σ20 10 i23 ∧ inb v8 (hlen σ20 i23)) (lt (sA σ20 i23 v8.toNatClampNeg a2) fun σ28 =>
  bd (hR σ28 a0 7) fun i31 =>
  chk (isO σ28 10 i31 ∧ inb v8 (hlen σ28 i31)) (lt (sA σ28 i31 v8.toNatClampNeg a3) fun σ36 =>
  bd (hR σ36 a0 5) fun i39 =>
  chk (isO σ36 10 i39 ∧ inb v8 (hlen σ36 i39)) (lt (sA σ36 i39 v8.toNatClampNeg v8) fun σ44 =>
  bd (hR σ44 a0 6) fun i47 =>
  chk (isO σ44 10 i47 ∧ inb v8 (hlen σ44 i47)) (lt (sA σ44 i47 v8.toNatClampNeg v8) fun σ52 =>
  some (v8, σ52))))))
  else
  some ((-1 : Int32), σ)))
def f_X3_append (a0 : Nat) (a1 : Int32) (σ : HS) : Option (Int32 × HS) :=
  chk (isO σ 3 a0) (lt (hA σ a0 1) fun v3 =>
  (if v3 < (60 : Int32) then
  bd (hR σ a0 0) fun i8 =>
  lt (hA σ a0 1) fun v11 =>
  chk (isO σ 10 i8 ∧ inb v11 (hlen σ i8)) (lt (sA σ i8 v11.toNatClampNeg a1) fun σ15 =>
  lt (hA σ15 a0 1) fun v18 =>
  lt (sA σ15 a0 1 (v18 + (1 : Int32))) fun σ20 =>
  some ((1 : Int32), σ20))
  else
  some ((0 : Int32), σ)))
def f_X3_here (a0 : Nat) (σ : HS) : Option (Int32 × HS) :=
  chk (isO σ 3 a0) (lt (hA σ a0 2) fun v3 =>
  (if v3 < 0 then
  some ((0 : Int32), σ)
  else
  lt (hA σ a0 2) fun v8 =>
  lt (hA σ a0 1) fun v10 =>
  (if v10 ≤ v8 then
  some ((0 : Int32), σ)
  else
  bd (hR σ a0 0) fun i15 =>
  lt (hA σ a0 2) fun v18 =>
  chk (isO σ 10 i15 ∧ inb v18 (hlen σ i15)) (lt (hA σ i15 v18.toNatClampNeg) fun v22 =>
  some (v22, σ)))))
def f_X3_isFigure (a0 : Int32) (σ : HS) : Option (Int32 × HS) :=
  (if a0 < (48 : Int32) then
  some ((0 : Int32), σ)
  else
  (if (57 : Int32) < a0 then
  some ((0 : Int32), σ)
  else
  some ((1 : Int32), σ)))
def f_X3_join (a0 : Nat) (a1 : Int32) (a2 : Int32) (a3 : Int32) (a4 : Int32) (σ : HS) : Option (Int32 × HS) :=
  (if a3 = (-1 : Int32) then
  some ((-1 : Int32), σ)
  else
  (if a4 = (-1 : Int32) then
  some ((-1 : Int32), σ)
  else
  chk (isO σ 3 a0) (bc (f_X3_add a0 a1 a2 (0 : Int32) σ) fun r9 σ10 =>
  (if r9 = (-1 : Int32) then
  some (r9, σ10)
  else
  chk (isO σ10 3 a0) (bd (hR σ10 a0 5) fun i18 =>
  chk (isO σ10 10 i18 ∧ inb r9 (hlen σ10 i18)) (lt (sA σ10 i18 r9.toNatClampNeg a3) fun σ23 =>
  bd (hR σ23 a0 6) fun i26 =>
  chk (isO σ23 10 i26 ∧ inb r9 (hlen σ23 i26)) (lt (sA σ23 i26 r9.toNatClampNeg a4) fun σ31 =>
  some (r9, σ31))))))))
def lp_X3_readNumber_9_b  (K9 : Nat → Int32 → Int32 → Int32 → HS → Option (Int32 × HS)) (x0 : Nat) (x1 : Int32) (x2 : Int32) (x3 : Int32) (τ : HS) : Option (Int32 × HS) :=
  (if (4 : Int32) ≤ x3 then
  chk (isO τ 3 x0) (bc (f_X3_add x0 (1 : Int32) x1 x2 τ) fun r14 σ15 =>
  some (r14, σ15))
  else
  chk (isO τ 3 x0) (bc (f_X3_here x0 τ) fun r20 σ21 =>
  bc (f_X3_isFigure r20 σ21) fun r24 σ25 =>
  (if r24 = 0 then
  chk (isO σ25 3 x0) (bc (f_X3_add x0 (1 : Int32) x1 x2 σ25) fun r33 σ34 =>
  some (r33, σ34))
  else
  chk (isO σ25 3 x0) (bc (f_X3_here x0 σ25) fun r39 σ40 =>
  lt ((((x2 * (10 : Int32)) + r39) - (48 : Int32))) fun v43 =>
  chk (isO σ40 3 x0) (lt (hA σ40 x0 2) fun v47 =>
  lt (sA σ40 x0 2 (v47 + (1 : Int32))) fun σ49 =>
  lt (x3 + (1 : Int32)) fun v52 =>
  K9 x0 x1 v43 v52 σ49)))))
def lp_X3_readNumber_9  : Nat → Nat → Int32 → Int32 → Int32 → HS → Option (Int32 × HS)
  | 0 => fun _ _ _ _ _ => none
  | n + 1 => lp_X3_readNumber_9_b  (lp_X3_readNumber_9  n)
def f_X3_readNumber (a0 : Nat) (σ : HS) : Option (Int32 × HS) :=
  chk (isO σ 3 a0) (lt (hA σ a0 2) fun v3 =>
  lt ((0 : Int32)) fun v5 =>
  lt ((0 : Int32)) fun v7 =>
  lp_X3_readNumber_9  1000 a0 v3 v5 v7 σ)
def lp_X3_readSum_8_b (F : Nat → Nat → Int32 → HS → Option (Int32 × HS))  (K8 : Nat → Int32 → Int32 → Int32 → HS → Option (Int32 × HS)) (x0 : Nat) (x1 : Int32) (x2 : Int32) (x3 : Int32) (τ : HS) : Option (Int32 × HS) :=
  (if (60 : Int32) ≤ x3 then
  some (x2, τ)
  else
  chk (isO τ 3 x0) (bc (f_X3_here x0 τ) fun r14 σ15 =>
  (if x2 = (-1 : Int32) then
  some (x2, σ15)
  else
  (if r14 = (43 : Int32) then
  chk (isO σ15 3 x0) (lt (hA σ15 x0 2) fun v26 =>
  lt (hA σ15 x0 2) fun v28 =>
  lt (sA σ15 x0 2 (v28 + (1 : Int32))) fun σ30 =>
  bc (F 1 x0 x1 σ30) fun r33 σ34 =>
  (if r14 = (43 : Int32) then
  chk (isO σ34 3 x0) (bc (f_X3_join x0 (3 : Int32) v26 x2 r33 σ34) fun r50 σ51 =>
  lt (x3 + (1 : Int32)) fun v54 =>
  K8 x0 x1 r50 v54 σ51)
  else
  chk (isO σ34 3 x0) (bc (f_X3_join x0 (4 : Int32) v26 x2 r33 σ34) fun r42 σ43 =>
  lt (x3 + (1 : Int32)) fun v46 =>
  K8 x0 x1 r42 v46 σ43)))
  else
  (if r14 = (45 : Int32) then
  chk (isO σ15 3 x0) (lt (hA σ15 x0 2) fun v61 =>
  lt (hA σ15 x0 2) fun v63 =>
  lt (sA σ15 x0 2 (v63 + (1 : Int32))) fun σ65 =>
  bc (F 1 x0 x1 σ65) fun r68 σ69 =>
  (if r14 = (43 : Int32) then
  chk (isO σ69 3 x0) (bc (f_X3_join x0 (3 : Int32) v61 x2 r68 σ69) fun r85 σ86 =>
  lt (x3 + (1 : Int32)) fun v89 =>
  K8 x0 x1 r85 v89 σ86)
  else
  chk (isO σ69 3 x0) (bc (f_X3_join x0 (4 : Int32) v61 x2 r68 σ69) fun r77 σ78 =>
  lt (x3 + (1 : Int32)) fun v81 =>
  K8 x0 x1 r77 v81 σ78)))
  else
  some (x2, σ15))))))
def lp_X3_readSum_8 (F : Nat → Nat → Int32 → HS → Option (Int32 × HS))  : Nat → Nat → Int32 → Int32 → Int32 → HS → Option (Int32 × HS)
  | 0 => fun _ _ _ _ _ => none
  | n + 1 => lp_X3_readSum_8_b F  (lp_X3_readSum_8 F  n)
def b_X3_readSum (F : Nat → Nat → Int32 → HS → Option (Int32 × HS)) (a0 : Nat) (a1 : Int32) (σ : HS) : Option (Int32 × HS) :=
  chk (isO σ 3 a0) (bc (F 1 a0 a1 σ) fun r3 σ4 =>
  lt ((0 : Int32)) fun v7 =>
  lp_X3_readSum_8 F  1000 a0 a1 r3 v7 σ4)
def lp_X3_readProduct_8_b (F : Nat → Nat → Int32 → HS → Option (Int32 × HS))  (K8 : Nat → Int32 → Int32 → Int32 → HS → Option (Int32 × HS)) (x0 : Nat) (x1 : Int32) (x2 : Int32) (x3 : Int32) (τ : HS) : Option (Int32 × HS) :=
  (if (60 : Int32) ≤ x3 then
  some (x2, τ)
  else
  (if x2 = (-1 : Int32) then
  some (x2, τ)
  else
  chk (isO τ 3 x0) (bc (f_X3_here x0 τ) fun r17 σ18 =>
  (if r17 = (42 : Int32) then
  chk (isO σ18 3 x0) (lt (hA σ18 x0 2) fun v26 =>
  lt (hA σ18 x0 2) fun v28 =>
  lt (sA σ18 x0 2 (v28 + (1 : Int32))) fun σ30 =>
  bc (F 2 x0 x1 σ30) fun r33 σ34 =>
  chk (isO σ34 3 x0) (bc (f_X3_join x0 (5 : Int32) v26 x2 r33 σ34) fun r39 σ40 =>
  lt (x3 + (1 : Int32)) fun v43 =>
  K8 x0 x1 r39 v43 σ40))
  else
  some (x2, σ18)))))
def lp_X3_readProduct_8 (F : Nat → Nat → Int32 → HS → Option (Int32 × HS))  : Nat → Nat → Int32 → Int32 → Int32 → HS → Option (Int32 × HS)
  | 0 => fun _ _ _ _ _ => none
  | n + 1 => lp_X3_readProduct_8_b F  (lp_X3_readProduct_8 F  n)
def b_X3_readProduct (F : Nat → Nat → Int32 → HS → Option (Int32 × HS)) (a0 : Nat) (a1 : Int32) (σ : HS) : Option (Int32 × HS) :=
  chk (isO σ 3 a0) (bc (F 2 a0 a1 σ) fun r3 σ4 =>
  lt ((0 : Int32)) fun v7 =>
  lp_X3_readProduct_8 F  1000 a0 a1 r3 v7 σ4)
def b_X3_readFactor (F : Nat → Nat → Int32 → HS → Option (Int32 × HS)) (a0 : Nat) (a1 : Int32) (σ : HS) : Option (Int32 × HS) :=
  chk (isO σ 3 a0) (bc (f_X3_here a0 σ) fun r3 σ4 =>
  (if r3 < (97 : Int32) then
  bc (f_X3_isFigure r3 σ4) fun r10 σ11 =>
  (if r10 = 0 then
  (if (6 : Int32) ≤ a1 then
  some ((-1 : Int32), σ11)
  else
  (if r3 = (45 : Int32) then
  chk (isO σ11 3 a0) (lt (hA σ11 a0 2) fun v25 =>
  lt (hA σ11 a0 2) fun v27 =>
  lt (sA σ11 a0 2 (v27 + (1 : Int32))) fun σ29 =>
  (if r3 = (45 : Int32) then
  bc (F 2 a0 (a1 + (1 : Int32)) σ29) fun r58 σ59 =>
  chk (isO σ59 3 a0) (bc (f_X3_join a0 (2 : Int32) v25 r58 r58 σ59) fun r64 σ65 =>
  some (r64, σ65))
  else
  bc (F 0 a0 (a1 + (1 : Int32)) σ29) fun r35 σ36 =>
  (if r35 = (-1 : Int32) then
  some ((-1 : Int32), σ36)
  else
  chk (isO σ36 3 a0) (bc (f_X3_here a0 σ36) fun r44 σ45 =>
  (if r44 = (41 : Int32) then
  chk (isO σ45 3 a0) (lt (hA σ45 a0 2) fun v53 =>
  lt (sA σ45 a0 2 (v53 + (1 : Int32))) fun σ55 =>
  some (r35, σ55))
  else
  some ((-1 : Int32), σ45))))))
  else
  (if r3 = (40 : Int32) then
  chk (isO σ11 3 a0) (lt (hA σ11 a0 2) fun v73 =>
  lt (hA σ11 a0 2) fun v75 =>
  lt (sA σ11 a0 2 (v75 + (1 : Int32))) fun σ77 =>
  (if r3 = (45 : Int32) then
  bc (F 2 a0 (a1 + (1 : Int32)) σ77) fun r106 σ107 =>
  chk (isO σ107 3 a0) (bc (f_X3_join a0 (2 : Int32) v73 r106 r106 σ107) fun r112 σ113 =>
  some (r112, σ113))
  else
  bc (F 0 a0 (a1 + (1 : Int32)) σ77) fun r83 σ84 =>
  (if r83 = (-1 : Int32) then
  some ((-1 : Int32), σ84)
  else
  chk (isO σ84 3 a0) (bc (f_X3_here a0 σ84) fun r92 σ93 =>
  (if r92 = (41 : Int32) then
  chk (isO σ93 3 a0) (lt (hA σ93 a0 2) fun v101 =>
  lt (sA σ93 a0 2 (v101 + (1 : Int32))) fun σ103 =>
  some (r83, σ103))
  else
  some ((-1 : Int32), σ93))))))
  else
  some ((-1 : Int32), σ11))))
  else
  chk (isO σ11 3 a0) (bc (f_X3_readNumber a0 σ11) fun r118 σ119 =>
  some (r118, σ119)))
  else
  (if (102 : Int32) < r3 then
  bc (f_X3_isFigure r3 σ4) fun r125 σ126 =>
  (if r125 = 0 then
  (if (6 : Int32) ≤ a1 then
  some ((-1 : Int32), σ126)
  else
  (if r3 = (45 : Int32) then
  chk (isO σ126 3 a0) (lt (hA σ126 a0 2) fun v140 =>
  lt (hA σ126 a0 2) fun v142 =>
  lt (sA σ126 a0 2 (v142 + (1 : Int32))) fun σ144 =>
  (if r3 = (45 : Int32) then
  bc (F 2 a0 (a1 + (1 : Int32)) σ144) fun r173 σ174 =>
  chk (isO σ174 3 a0) (bc (f_X3_join a0 (2 : Int32) v140 r173 r173 σ174) fun r179 σ180 =>
  some (r179, σ180))
  else
  bc (F 0 a0 (a1 + (1 : Int32)) σ144) fun r150 σ151 =>
  (if r150 = (-1 : Int32) then
  some ((-1 : Int32), σ151)
  else
  chk (isO σ151 3 a0) (bc (f_X3_here a0 σ151) fun r159 σ160 =>
  (if r159 = (41 : Int32) then
  chk (isO σ160 3 a0) (lt (hA σ160 a0 2) fun v168 =>
  lt (sA σ160 a0 2 (v168 + (1 : Int32))) fun σ170 =>
  some (r150, σ170))
  else
  some ((-1 : Int32), σ160))))))
  else
  (if r3 = (40 : Int32) then
  chk (isO σ126 3 a0) (lt (hA σ126 a0 2) fun v188 =>
  lt (hA σ126 a0 2) fun v190 =>
  lt (sA σ126 a0 2 (v190 + (1 : Int32))) fun σ192 =>
  (if r3 = (45 : Int32) then
  bc (F 2 a0 (a1 + (1 : Int32)) σ192) fun r221 σ222 =>
  chk (isO σ222 3 a0) (bc (f_X3_join a0 (2 : Int32) v188 r221 r221 σ222) fun r227 σ228 =>
  some (r227, σ228))
  else
  bc (F 0 a0 (a1 + (1 : Int32)) σ192) fun r198 σ199 =>
  (if r198 = (-1 : Int32) then
  some ((-1 : Int32), σ199)
  else
  chk (isO σ199 3 a0) (bc (f_X3_here a0 σ199) fun r207 σ208 =>
  (if r207 = (41 : Int32) then
  chk (isO σ208 3 a0) (lt (hA σ208 a0 2) fun v216 =>
  lt (sA σ208 a0 2 (v216 + (1 : Int32))) fun σ218 =>
  some (r198, σ218))
  else
  some ((-1 : Int32), σ208))))))
  else
  some ((-1 : Int32), σ126))))
  else
  chk (isO σ126 3 a0) (bc (f_X3_readNumber a0 σ126) fun r233 σ234 =>
  some (r233, σ234)))
  else
  chk (isO σ4 3 a0) (lt (hA σ4 a0 2) fun v239 =>
  lt (sA σ4 a0 2 (v239 + (1 : Int32))) fun σ241 =>
  lt (hA σ241 a0 2) fun v244 =>
  bc (f_X3_add a0 (0 : Int32) (v244 - (1 : Int32)) (r3 - (97 : Int32)) σ241) fun r246 σ247 =>
  some (r246, σ247)))))
def g_XP : Nat → Nat → Nat → Int32 → HS → Option (Int32 × HS)
  | 0 => fun _ _ _ _ => none
  | n + 1 => fun t a0 a1 σ => if t = 0 then b_X3_readSum (g_XP n) a0 a1 σ else if t = 1 then b_X3_readProduct (g_XP n) a0 a1 σ else if t = 2 then b_X3_readFactor (g_XP n) a0 a1 σ else none
def f_X3_readSum (a0 : Nat) (a1 : Int32) (σ : HS) : Option (Int32 × HS) := g_XP 40 0 a0 a1 σ
def f_X3_readProduct (a0 : Nat) (a1 : Int32) (σ : HS) : Option (Int32 × HS) := g_XP 40 1 a0 a1 σ
def f_X3_readFactor (a0 : Nat) (a1 : Int32) (σ : HS) : Option (Int32 × HS) := g_XP 40 2 a0 a1 σ
def f_X4_carryPart (a0 : Nat) (a1 : Nat) (a2 : Int32) (σ : HS) : Option (Unit × HS) :=
  chk (isO σ 0 a1) (bd (hR σ a1 3) fun i3 =>
  chk (isO σ 10 i3 ∧ inb a2 (hlen σ i3)) (lt (hA σ i3 a2.toNatClampNeg) fun v8 =>
  bd (hR σ a1 4) fun i10 =>
  chk (isO σ 10 i10 ∧ inb a2 (hlen σ i10)) (lt (hA σ i10 a2.toNatClampNeg) fun v15 =>
  bd (hR σ a1 5) fun i17 =>
  chk (isO σ 10 i17 ∧ inb a2 (hlen σ i17)) (lt (hA σ i17 a2.toNatClampNeg) fun v22 =>
  bd (hR σ a1 1) fun i24 =>
  chk (isO σ 10 i24 ∧ inb a2 (hlen σ i24)) (lt (hA σ i24 a2.toNatClampNeg) fun v29 =>
  (if v29 = (0 : Int32) then
  chk (isO σ 4 a0) (bd (hR σ a0 6) fun i36 =>
  bd (hR σ a0 0) fun i39 =>
  chk (isO σ 10 i39 ∧ inb v22 (hlen σ i39)) (lt (hA σ i39 v22.toNatClampNeg) fun v44 =>
  bd (hR σ a0 1) fun i46 =>
  chk (isO σ 10 i46 ∧ inb v22 (hlen σ i46)) (lt (hA σ i46 v22.toNatClampNeg) fun v51 =>
  chk (isO σ 1 i36) (bc (f_X1_fromTo i36 a2 (v44).toInt64 (v51).toInt64 σ) fun r55 σ56 =>
  some ((), σ56)))))
  else if v29 = (1 : Int32) then
  chk (isO σ 4 a0) (bd (hR σ a0 6) fun i64 =>
  chk (isO σ 1 i64) (bc (f_X1_fromTo i64 a2 (v22).toInt64 (v22).toInt64 σ) fun r69 σ70 =>
  some ((), σ70)))
  else if v29 = (2 : Int32) then
  chk (isO σ 4 a0) (bd (hR σ a0 6) fun i78 =>
  chk (isO σ 1 i78) (bc (f_X1_less i78 a2 i78 v8 σ) fun r86 σ87 =>
  some ((), σ87)))
  else if v29 = (3 : Int32) then
  chk (isO σ 4 a0) (bd (hR σ a0 6) fun i95 =>
  chk (isO σ 1 i95) (bc (f_X1_sum i95 a2 i95 v8 i95 v15 σ) fun r106 σ107 =>
  some ((), σ107)))
  else if v29 = (4 : Int32) then
  chk (isO σ 4 a0) (bd (hR σ a0 6) fun i115 =>
  chk (isO σ 1 i115) (bc (f_X1_difference i115 a2 i115 v8 i115 v15 σ) fun r126 σ127 =>
  some ((), σ127)))
  else chk (isO σ 4 a0) (bd (hR σ a0 6) fun i132 =>
  chk (isO σ 1 i132) (bc (f_X1_product i132 a2 i132 v8 i132 v15 σ) fun r143 σ144 =>
  some ((), σ144)))))))))
def lp_X4_carry_2_b  (K2 : Nat → Nat → Int32 → HS → Option (Unit × HS)) (x0 : Nat) (x1 : Nat) (x2 : Int32) (τ : HS) : Option (Unit × HS) :=
  chk (isO τ 0 x1) (lt (hA τ x1 0) fun v5 =>
  (if v5 ≤ x2 then
  lt (hA τ x1 0) fun v10 =>
  lt ((v10 - (1 : Int32))) fun v12 =>
  chk (isO τ 4 x0) (bd (hR τ x0 6) fun i16 =>
  chk (isO τ 1 i16) (bd (hR τ i16 2) fun i21 =>
  chk (isO τ 11 i21 ∧ inb v12 (hlen τ i21)) (lt (hA τ i21 v12.toNatClampNeg) fun v26 =>
  chk (bit v26) (lt (sA τ x0 2 v26) fun σ28 =>
  bd (hR σ28 x0 6) fun i35 =>
  chk (isO σ28 1 i35) (bd (hR σ28 i35 0) fun i40 =>
  chk (isO σ28 12 i40 ∧ inb v12 (hlen σ28 i40)) (lt (hB σ28 i40 v12.toNatClampNeg) fun v45 =>
  lt (sB σ28 x0 3 v45) fun σ47 =>
  bd (hR σ47 x0 6) fun i53 =>
  chk (isO σ47 1 i53) (bd (hR σ47 i53 1) fun i58 =>
  chk (isO σ47 12 i58 ∧ inb v12 (hlen σ47 i58)) (lt (hB σ47 i58 v12.toNatClampNeg) fun v63 =>
  lt (sB σ47 x0 4 v63) fun σ65 =>
  some ((), σ65)))))))))
  else
  chk (isO τ 4 x0) (bc (f_X4_carryPart x0 x1 x2 τ) fun r74 σ75 =>
  lt (x2 + (1 : Int32)) fun v78 =>
  K2 x0 x1 v78 σ75)))
def lp_X4_carry_2  : Nat → Nat → Nat → Int32 → HS → Option (Unit × HS)
  | 0 => fun _ _ _ _ => none
  | n + 1 => lp_X4_carry_2_b  (lp_X4_carry_2  n)
def f_X4_carry (a0 : Nat) (a1 : Nat) (σ : HS) : Option (Unit × HS) :=
  lt ((0 : Int32)) fun v1 =>
  lp_X4_carry_2  1000 a0 a1 v1 σ
def f_X4_changePart (a0 : Nat) (a1 : Nat) (a2 : Int32) (a3 : Int32) (σ : HS) : Option (Unit × HS) :=
  chk (isO σ 0 a1) (bd (hR σ a1 3) fun i3 =>
  chk (isO σ 10 i3 ∧ inb a2 (hlen σ i3)) (lt (hA σ i3 a2.toNatClampNeg) fun v8 =>
  bd (hR σ a1 4) fun i10 =>
  chk (isO σ 10 i10 ∧ inb a2 (hlen σ i10)) (lt (hA σ i10 a2.toNatClampNeg) fun v15 =>
  bd (hR σ a1 1) fun i17 =>
  chk (isO σ 10 i17 ∧ inb a2 (hlen σ i17)) (lt (hA σ i17 a2.toNatClampNeg) fun v22 =>
  (if v22 = (0 : Int32) then
  bd (hR σ a1 5) fun i27 =>
  chk (isO σ 10 i27 ∧ inb a2 (hlen σ i27)) (lt (hA σ i27 a2.toNatClampNeg) fun v32 =>
  (if v32 = a3 then
  lt ((1 : Int32)) fun v50 =>
  chk (isO σ 4 a0) (bd (hR σ a0 7) fun i54 =>
  chk (isO σ 1 i54) (bc (f_X1_fromTo i54 a2 (v50).toInt64 (v50).toInt64 σ) fun r59 σ60 =>
  some ((), σ60)))
  else
  lt ((0 : Int32)) fun v37 =>
  chk (isO σ 4 a0) (bd (hR σ a0 7) fun i41 =>
  chk (isO σ 1 i41) (bc (f_X1_fromTo i41 a2 (v37).toInt64 (v37).toInt64 σ) fun r46 σ47 =>
  some ((), σ47)))))
  else if v22 = (1 : Int32) then
  chk (isO σ 4 a0) (bd (hR σ a0 7) fun i68 =>
  chk (isO σ 1 i68) (bc (f_X1_fromTo i68 a2 (0 : Int64) (0 : Int64) σ) fun r73 σ74 =>
  some ((), σ74)))
  else if v22 = (2 : Int32) then
  chk (isO σ 4 a0) (bd (hR σ a0 7) fun i82 =>
  chk (isO σ 1 i82) (bc (f_X1_less i82 a2 i82 v8 σ) fun r90 σ91 =>
  some ((), σ91)))
  else if v22 = (3 : Int32) then
  chk (isO σ 4 a0) (bd (hR σ a0 7) fun i99 =>
  chk (isO σ 1 i99) (bc (f_X1_sum i99 a2 i99 v8 i99 v15 σ) fun r110 σ111 =>
  some ((), σ111)))
  else if v22 = (4 : Int32) then
  chk (isO σ 4 a0) (bd (hR σ a0 7) fun i119 =>
  chk (isO σ 1 i119) (bc (f_X1_difference i119 a2 i119 v8 i119 v15 σ) fun r130 σ131 =>
  some ((), σ131)))
  else chk (isO σ 4 a0) (bd (hR σ a0 8) fun i136 =>
  bd (hR σ a0 7) fun i139 =>
  bd (hR σ a0 6) fun i142 =>
  chk (isO σ 1 i136) (bc (f_X1_product i136 (0 : Int32) i139 v8 i142 v15 σ) fun r147 σ148 =>
  chk (isO σ148 4 a0) (bd (hR σ148 a0 8) fun i153 =>
  bd (hR σ148 a0 6) fun i156 =>
  bd (hR σ148 a0 7) fun i159 =>
  chk (isO σ148 1 i153) (bc (f_X1_product i153 (1 : Int32) i156 v8 i159 v15 σ148) fun r164 σ165 =>
  chk (isO σ165 4 a0) (bd (hR σ165 a0 7) fun i170 =>
  bd (hR σ165 a0 8) fun i173 =>
  chk (isO σ165 1 i170) (bc (f_X1_sum i170 a2 i173 (0 : Int32) i173 (1 : Int32) σ165) fun r181 σ182 =>
  some ((), σ182))))))))))))
def lp_X4_changeBy_2_b  (K2 : Nat → Nat → Int32 → Int32 → HS → Option (Int32 × HS)) (x0 : Nat) (x1 : Nat) (x2 : Int32) (x3 : Int32) (τ : HS) : Option (Int32 × HS) :=
  chk (isO τ 0 x1) (lt (hA τ x1 0) fun v5 =>
  (if v5 ≤ x3 then
  lt (hA τ x1 0) fun v10 =>
  lt ((v10 - (1 : Int32))) fun v12 =>
  chk (isO τ 4 x0) (bd (hR τ x0 7) fun i16 =>
  chk (isO τ 1 i16) (bd (hR τ i16 2) fun i21 =>
  chk (isO τ 11 i21 ∧ inb v12 (hlen τ i21)) (lt (hA τ i21 v12.toNatClampNeg) fun v26 =>
  (if v26 = 0 then
  bd (hR τ i16 0) fun i34 =>
  chk (isO τ 12 i34 ∧ inb v12 (hlen τ i34)) (lt (hB τ i34 v12.toNatClampNeg) fun v39 =>
  (if (lg_cmp v39 (0 : Int64)) = 0 then
  bd (hR τ i16 1) fun i73 =>
  chk (isO τ 12 i73 ∧ inb v12 (hlen τ i73)) (lt (hB τ i73 v12.toNatClampNeg) fun v78 =>
  (if (lg_cmp v78 (0 : Int64)) = 0 then
  some ((0 : Int32), τ)
  else
  chk (isO τ 12 i34 ∧ inb v12 (hlen τ i34)) (lt (hB τ i34 v12.toNatClampNeg) fun v91 =>
  (if (lg_cmp v91 (0 : Int64)) < 0 then
  chk (isO τ 12 i73 ∧ inb v12 (hlen τ i73)) (lt (hB τ i73 v12.toNatClampNeg) fun v104 =>
  (if 0 < (lg_cmp v104 (0 : Int64)) then
  some ((3 : Int32), τ)
  else
  some ((2 : Int32), τ)))
  else
  some ((1 : Int32), τ)))))
  else
  chk (isO τ 12 i34 ∧ inb v12 (hlen τ i34)) (lt (hB τ i34 v12.toNatClampNeg) fun v52 =>
  (if (lg_cmp v52 (0 : Int64)) < 0 then
  bd (hR τ i16 1) fun i60 =>
  chk (isO τ 12 i60 ∧ inb v12 (hlen τ i60)) (lt (hB τ i60 v12.toNatClampNeg) fun v65 =>
  (if 0 < (lg_cmp v65 (0 : Int64)) then
  some ((3 : Int32), τ)
  else
  some ((2 : Int32), τ)))
  else
  some ((1 : Int32), τ)))))
  else
  some ((3 : Int32), τ)))))
  else
  chk (isO τ 4 x0) (bc (f_X4_changePart x0 x1 x3 x2 τ) fun r111 σ112 =>
  lt (x3 + (1 : Int32)) fun v115 =>
  K2 x0 x1 x2 v115 σ112)))
def lp_X4_changeBy_2  : Nat → Nat → Nat → Int32 → Int32 → HS → Option (Int32 × HS)
  | 0 => fun _ _ _ _ _ => none
  | n + 1 => lp_X4_changeBy_2_b  (lp_X4_changeBy_2  n)
def f_X4_changeBy (a0 : Nat) (a1 : Nat) (a2 : Int32) (σ : HS) : Option (Int32 × HS) :=
  lt ((0 : Int32)) fun v1 =>
  lp_X4_changeBy_2  1000 a0 a1 a2 v1 σ
def lp_X4_drawBy_5_b  (K5 : Nat → Int32 → Nat → Int32 → Int32 → HS → Option (Unit × HS)) (x0 : Nat) (x1 : Int32) (x2 : Nat) (x3 : Int32) (x4 : Int32) (τ : HS) : Option (Unit × HS) :=
  (if (6 : Int32) ≤ x4 then
  some ((), τ)
  else
  lt (((x3 * (1103515245 : Int32)) + (12345 : Int32))) fun v6 =>
  chk (isO τ 2 x2) (bd (hR τ x2 1) fun i10 =>
  chk (isO τ 10 i10 ∧ inb x4 (hlen τ i10)) (lt (hA τ i10 x4.toNatClampNeg) fun v15 =>
  lt ((((2 : Int32) * v15) + (1 : Int32))) fun v17 =>
  chk (isO τ 4 x0) (bd (hR τ x0 5) fun i21 =>
  bc (f_X2_lowOf x2 x4 τ) fun r24 σ25 =>
  chk (¬ v17 = 0) (chk (isO σ25 10 i21 ∧ inb x4 (hlen σ25 i21)) (lt (sA σ25 i21 x4.toNatClampNeg (r24 + (((v6 &&& (2147483647 : Int32)) / (65536 : Int32)) - ((v6 &&& (2147483647 : Int32)) / (65536 : Int32)) / v17 * v17))) fun σ32 =>
  lt (x4 + (1 : Int32)) fun v34 =>
  K5 x0 x1 x2 v6 v34 σ32))))))
def lp_X4_drawBy_5  : Nat → Nat → Int32 → Nat → Int32 → Int32 → HS → Option (Unit × HS)
  | 0 => fun _ _ _ _ _ _ => none
  | n + 1 => lp_X4_drawBy_5_b  (lp_X4_drawBy_5  n)
def f_X4_drawBy (a0 : Nat) (a1 : Int32) (a2 : Nat) (σ : HS) : Option (Unit × HS) :=
  lt ((0 : Int32)) fun v1 =>
  lp_X4_drawBy_5  1000 a0 a1 a2 a1 v1 σ
def f_X0_isMade (a0 : Int32) (σ : HS) : Option (Int32 × HS) :=
  (if a0 ≤ (1 : Int32) then
  some ((0 : Int32), σ)
  else
  some ((1 : Int32), σ))
def f_X4_firstOverOf (a0 : Nat) (a1 : Nat) (a2 : Int32) (σ : HS) : Option (Int32 × HS) :=
  chk (isO σ 0 a1) (bd (hR σ a1 1) fun i3 =>
  chk (isO σ 10 i3 ∧ inb a2 (hlen σ i3)) (lt (hA σ i3 a2.toNatClampNeg) fun v8 =>
  bc (f_X0_isMade v8 σ) fun r10 σ11 =>
  (if r10 = 0 then
  some ((-1 : Int32), σ11)
  else
  chk (isO σ11 4 a0) (bd (hR σ11 a0 6) fun i19 =>
  chk (isO σ11 1 i19) (bd (hR σ11 i19 2) fun i24 =>
  chk (isO σ11 0 a1) (bd (hR σ11 a1 3) fun i29 =>
  chk (isO σ11 10 i29 ∧ inb a2 (hlen σ11 i29)) (lt (hA σ11 i29 a2.toNatClampNeg) fun v34 =>
  chk (isO σ11 11 i24 ∧ inb v34 (hlen σ11 i24)) (lt (hA σ11 i24 v34.toNatClampNeg) fun v38 =>
  (if v38 = 0 then
  bd (hR σ11 a1 4) fun i49 =>
  chk (isO σ11 10 i49 ∧ inb a2 (hlen σ11 i49)) (lt (hA σ11 i49 a2.toNatClampNeg) fun v54 =>
  chk (isO σ11 11 i24 ∧ inb v54 (hlen σ11 i24)) (lt (hA σ11 i24 v54.toNatClampNeg) fun v58 =>
  (if v58 = 0 then
  some ((-1 : Int32), σ11)
  else
  chk (isO σ11 10 i49 ∧ inb a2 (hlen σ11 i49)) (lt (hA σ11 i49 a2.toNatClampNeg) fun v68 =>
  some (v68, σ11)))))
  else
  chk (isO σ11 10 i29 ∧ inb a2 (hlen σ11 i29)) (lt (hA σ11 i29 a2.toNatClampNeg) fun v75 =>
  some (v75, σ11)))))))))))
def f_X4_hasWidth (a0 : Nat) (σ : HS) : Option (Int32 × HS) :=
  chk (isO σ 4 a0) (lt (hA σ a0 2) fun v3 =>
  (if v3 = 0 then
  lt (hB σ a0 4) fun v8 =>
  lt (hB σ a0 3) fun v10 =>
  bc (f_X1_differenceFits v8 v10 σ) fun r12 σ13 =>
  (if r12 = 0 then
  some ((0 : Int32), σ13)
  else
  some ((1 : Int32), σ13))
  else
  some ((0 : Int32), σ)))
def f_X4_stand (a0 : Nat) (a1 : Int32) (a2 : Int32) (a3 : Int32) (σ : HS) : Option (Unit × HS) :=
  chk (isO σ 4 a0) (bd (hR σ a0 0) fun i3 =>
  chk (isO σ 10 i3 ∧ inb a1 (hlen σ i3)) (lt (sA σ i3 a1.toNatClampNeg a2) fun σ8 =>
  bd (hR σ8 a0 1) fun i11 =>
  chk (isO σ8 10 i11 ∧ inb a1 (hlen σ8 i11)) (lt (sA σ8 i11 a1.toNatClampNeg a3) fun σ16 =>
  some ((), σ16))))
def lp_X4_standAs_2_b  (K2 : Nat → Nat → Int32 → HS → Option (Unit × HS)) (x0 : Nat) (x1 : Nat) (x2 : Int32) (τ : HS) : Option (Unit × HS) :=
  (if (6 : Int32) ≤ x2 then
  some ((), τ)
  else
  chk (isO τ 2 x1) (bc (f_X2_lowOf x1 x2 τ) fun r8 σ9 =>
  chk (isO σ9 2 x1) (bc (f_X2_highOf x1 x2 σ9) fun r14 σ15 =>
  chk (isO σ15 4 x0) (bc (f_X4_stand x0 x2 r8 r14 σ15) fun r20 σ21 =>
  lt (x2 + (1 : Int32)) fun v24 =>
  K2 x0 x1 v24 σ21))))
def lp_X4_standAs_2  : Nat → Nat → Nat → Int32 → HS → Option (Unit × HS)
  | 0 => fun _ _ _ _ => none
  | n + 1 => lp_X4_standAs_2_b  (lp_X4_standAs_2  n)
def f_X4_standAs (a0 : Nat) (a1 : Nat) (σ : HS) : Option (Unit × HS) :=
  lt ((0 : Int32)) fun v1 =>
  lp_X4_standAs_2  1000 a0 a1 v1 σ
def f_X4_told (a0 : Nat) (a1 : Int32) (σ : HS) : Option (Int64 × HS) :=
  chk (isO σ 4 a0) (lt (hA σ a0 2) fun v3 =>
  (if v3 = 0 then
  (if a1 = (2 : Int32) then
  bc (f_X4_hasWidth a0 σ) fun r25 σ26 =>
  (if r25 = 0 then
  some ((-9223372036854775807 : Int64), σ26)
  else
  (if a1 = 0 then
  chk (isO σ26 4 a0) (lt (hB σ26 a0 3) fun v50 =>
  some (v50, σ26))
  else
  (if a1 = (1 : Int32) then
  chk (isO σ26 4 a0) (lt (hB σ26 a0 4) fun v46 =>
  some (v46, σ26))
  else
  chk (isO σ26 4 a0) (lt (hB σ26 a0 4) fun v40 =>
  lt (hB σ26 a0 3) fun v42 =>
  some ((v40 - v42), σ26)))))
  else
  (if a1 = 0 then
  lt (hB σ a0 3) fun v23 =>
  some (v23, σ)
  else
  (if a1 = (1 : Int32) then
  lt (hB σ a0 4) fun v21 =>
  some (v21, σ)
  else
  lt (hB σ a0 4) fun v17 =>
  lt (hB σ a0 3) fun v19 =>
  some ((v17 - v19), σ))))
  else
  some ((-9223372036854775807 : Int64), σ)))
def f_X4_worthOfPart (a0 : Nat) (a1 : Nat) (a2 : Int32) (σ : HS) : Option (Int64 × HS) :=
  chk (isO σ 0 a1) (bd (hR σ a1 3) fun i3 =>
  chk (isO σ 10 i3 ∧ inb a2 (hlen σ i3)) (lt (hA σ i3 a2.toNatClampNeg) fun v8 =>
  bd (hR σ a1 4) fun i10 =>
  chk (isO σ 10 i10 ∧ inb a2 (hlen σ i10)) (lt (hA σ i10 a2.toNatClampNeg) fun v15 =>
  bd (hR σ a1 1) fun i17 =>
  chk (isO σ 10 i17 ∧ inb a2 (hlen σ i17)) (lt (hA σ i17 a2.toNatClampNeg) fun v22 =>
  (if v22 = (0 : Int32) then
  chk (isO σ 4 a0) (bd (hR σ a0 5) fun i29 =>
  bd (hR σ a1 5) fun i32 =>
  chk (isO σ 10 i32 ∧ inb a2 (hlen σ i32)) (lt (hA σ i32 a2.toNatClampNeg) fun v37 =>
  chk (isO σ 10 i29 ∧ inb v37 (hlen σ i29)) (lt (hA σ i29 v37.toNatClampNeg) fun v41 =>
  some ((v41).toInt64, σ))))
  else if v22 = (1 : Int32) then
  bd (hR σ a1 5) fun i46 =>
  chk (isO σ 10 i46 ∧ inb a2 (hlen σ i46)) (lt (hA σ i46 a2.toNatClampNeg) fun v51 =>
  some ((v51).toInt64, σ))
  else if v22 = (2 : Int32) then
  chk (isO σ 4 a0) (bd (hR σ a0 9) fun i58 =>
  chk (isO σ 12 i58 ∧ inb v8 (hlen σ i58)) (lt (hB σ i58 v8.toNatClampNeg) fun v63 =>
  some ((-v63), σ)))
  else if v22 = (3 : Int32) then
  chk (isO σ 4 a0) (bd (hR σ a0 9) fun i70 =>
  chk (isO σ 12 i70 ∧ inb v8 (hlen σ i70)) (lt (hB σ i70 v8.toNatClampNeg) fun v75 =>
  chk (isO σ 12 i70 ∧ inb v15 (hlen σ i70)) (lt (hB σ i70 v15.toNatClampNeg) fun v82 =>
  some ((v75 + v82), σ))))
  else if v22 = (4 : Int32) then
  chk (isO σ 4 a0) (bd (hR σ a0 9) fun i89 =>
  chk (isO σ 12 i89 ∧ inb v8 (hlen σ i89)) (lt (hB σ i89 v8.toNatClampNeg) fun v94 =>
  chk (isO σ 12 i89 ∧ inb v15 (hlen σ i89)) (lt (hB σ i89 v15.toNatClampNeg) fun v101 =>
  some ((v94 - v101), σ))))
  else chk (isO σ 4 a0) (bd (hR σ a0 9) fun i105 =>
  chk (isO σ 12 i105 ∧ inb v8 (hlen σ i105)) (lt (hB σ i105 v8.toNatClampNeg) fun v110 =>
  chk (isO σ 12 i105 ∧ inb v15 (hlen σ i105)) (lt (hB σ i105 v15.toNatClampNeg) fun v117 =>
  some ((v110 * v117), σ)))))))))
def lp_X4_worthOf_2_b  (K2 : Nat → Nat → Int32 → HS → Option (Int64 × HS)) (x0 : Nat) (x1 : Nat) (x2 : Int32) (τ : HS) : Option (Int64 × HS) :=
  chk (isO τ 0 x1) (lt (hA τ x1 0) fun v5 =>
  (if v5 ≤ x2 then
  chk (isO τ 4 x0) (bd (hR τ x0 9) fun i12 =>
  lt (hA τ x1 0) fun v15 =>
  chk (isO τ 12 i12 ∧ inb (v15 - (1 : Int32)) (hlen τ i12)) (lt (hB τ i12 ((v15 - (1 : Int32))).toNatClampNeg) fun v19 =>
  some (v19, τ)))
  else
  chk (isO τ 4 x0) (bd (hR τ x0 9) fun i23 =>
  bc (f_X4_worthOfPart x0 x1 x2 τ) fun r26 σ27 =>
  chk (isO σ27 12 i23 ∧ inb x2 (hlen σ27 i23)) (lt (sB σ27 i23 x2.toNatClampNeg r26) fun σ32 =>
  lt (x2 + (1 : Int32)) fun v34 =>
  K2 x0 x1 v34 σ32))))
def lp_X4_worthOf_2  : Nat → Nat → Nat → Int32 → HS → Option (Int64 × HS)
  | 0 => fun _ _ _ _ => none
  | n + 1 => lp_X4_worthOf_2_b  (lp_X4_worthOf_2  n)
def f_X4_worthOf (a0 : Nat) (a1 : Nat) (σ : HS) : Option (Int64 × HS) :=
  lt ((0 : Int32)) fun v1 =>
  lp_X4_worthOf_2  1000 a0 a1 v1 σ
def f_X0_areAlike (a0 : Nat) (a1 : Nat) (a2 : Int32) (a3 : Int32) (σ : HS) : Option (Int32 × HS) :=
  chk (isO σ 3 a0) (bd (hR σ a0 3) fun i3 =>
  chk (isO σ 10 i3 ∧ inb a2 (hlen σ i3)) (lt (hA σ i3 a2.toNatClampNeg) fun v8 =>
  chk (isO σ 10 i3 ∧ inb a3 (hlen σ i3)) (lt (hA σ i3 a3.toNatClampNeg) fun v15 =>
  (if v8 = v15 then
  bd (hR σ a0 7) fun i20 =>
  chk (isO σ 10 i20 ∧ inb a2 (hlen σ i20)) (lt (hA σ i20 a2.toNatClampNeg) fun v25 =>
  chk (isO σ 10 i20 ∧ inb a3 (hlen σ i20)) (lt (hA σ i20 a3.toNatClampNeg) fun v32 =>
  (if v25 = v32 then
  chk (isO σ 10 i3 ∧ inb a2 (hlen σ i3)) (lt (hA σ i3 a2.toNatClampNeg) fun v42 =>
  bc (f_X0_isMade v42 σ) fun r44 σ45 =>
  (if r44 = 0 then
  some ((1 : Int32), σ45)
  else
  chk (isO σ45 3 a0) (bd (hR σ45 a0 5) fun i53 =>
  chk (isO σ45 10 i53 ∧ inb a2 (hlen σ45 i53)) (lt (hA σ45 i53 a2.toNatClampNeg) fun v58 =>
  chk (isO σ45 10 a1 ∧ inb v58 (hlen σ45 a1)) (lt (hA σ45 a1 v58.toNatClampNeg) fun v62 =>
  chk (isO σ45 10 i53 ∧ inb a3 (hlen σ45 i53)) (lt (hA σ45 i53 a3.toNatClampNeg) fun v69 =>
  chk (isO σ45 10 a1 ∧ inb v69 (hlen σ45 a1)) (lt (hA σ45 a1 v69.toNatClampNeg) fun v73 =>
  (if v62 = v73 then
  bd (hR σ45 a0 6) fun i78 =>
  chk (isO σ45 10 i78 ∧ inb a2 (hlen σ45 i78)) (lt (hA σ45 i78 a2.toNatClampNeg) fun v83 =>
  chk (isO σ45 10 a1 ∧ inb v83 (hlen σ45 a1)) (lt (hA σ45 a1 v83.toNatClampNeg) fun v87 =>
  chk (isO σ45 10 i78 ∧ inb a3 (hlen σ45 i78)) (lt (hA σ45 i78 a3.toNatClampNeg) fun v94 =>
  chk (isO σ45 10 a1 ∧ inb v94 (hlen σ45 a1)) (lt (hA σ45 a1 v94.toNatClampNeg) fun v98 =>
  (if v87 = v98 then
  some ((1 : Int32), σ45)
  else
  some ((0 : Int32), σ45))))))
  else
  some ((0 : Int32), σ45)))))))))
  else
  some ((0 : Int32), σ))))
  else
  some ((0 : Int32), σ)))))
def f_X0_hasSource (a0 : Nat) (a1 : Int32) (σ : HS) : Option (Int32 × HS) :=
  chk (isO σ 0 a0) (lt (hA σ a0 6) fun v3 =>
  (if ((v3 >>> (a1 &&& 31)) &&& (1 : Int32)) = (1 : Int32) then
  some ((1 : Int32), σ)
  else
  some ((0 : Int32), σ)))
def lp_X0_isLike_15_b  (K15 : Nat → Nat → Int32 → HS → Option (Int32 × HS)) (x0 : Nat) (x1 : Nat) (x2 : Int32) (τ : HS) : Option (Int32 × HS) :=
  chk (isO τ 0 x0) (lt (hA τ x0 0) fun v16 =>
  (if v16 ≤ x2 then
  some ((1 : Int32), τ)
  else
  bd (hR τ x0 1) fun i21 =>
  chk (isO τ 10 i21 ∧ inb x2 (hlen τ i21)) (lt (hA τ i21 x2.toNatClampNeg) fun v26 =>
  chk (isO τ 0 x1) (bd (hR τ x1 1) fun i30 =>
  chk (isO τ 10 i30 ∧ inb x2 (hlen τ i30)) (lt (hA τ i30 x2.toNatClampNeg) fun v35 =>
  (if v26 = v35 then
  bd (hR τ x0 5) fun i40 =>
  chk (isO τ 10 i40 ∧ inb x2 (hlen τ i40)) (lt (hA τ i40 x2.toNatClampNeg) fun v45 =>
  bd (hR τ x1 5) fun i47 =>
  chk (isO τ 10 i47 ∧ inb x2 (hlen τ i47)) (lt (hA τ i47 x2.toNatClampNeg) fun v52 =>
  (if v45 = v52 then
  lt (x2 + (1 : Int32)) fun v57 =>
  K15 x0 x1 v57 τ
  else
  some ((0 : Int32), τ))))
  else
  some ((0 : Int32), τ)))))))
def lp_X0_isLike_15  : Nat → Nat → Nat → Int32 → HS → Option (Int32 × HS)
  | 0 => fun _ _ _ _ => none
  | n + 1 => lp_X0_isLike_15_b  (lp_X0_isLike_15  n)
def f_X0_isLike (a0 : Nat) (a1 : Nat) (σ : HS) : Option (Int32 × HS) :=
  chk (isO σ 0 a0) (lt (hA σ a0 0) fun v3 =>
  chk (isO σ 0 a1) (lt (hA σ a1 0) fun v7 =>
  (if v3 = v7 then
  lt ((0 : Int32)) fun v12 =>
  lp_X0_isLike_15  1000 a0 a1 v12 σ
  else
  some ((0 : Int32), σ))))
def lp_X0_sourcesIn_4_b  (K4 : Nat → Int32 → Int32 → HS → Option (Int32 × HS)) (x0 : Nat) (x1 : Int32) (x2 : Int32) (τ : HS) : Option (Int32 × HS) :=
  chk (isO τ 3 x0) (lt (hA τ x0 8) fun v7 =>
  (if v7 ≤ x2 then
  some (x1, τ)
  else
  bd (hR τ x0 3) fun i12 =>
  chk (isO τ 10 i12 ∧ inb x2 (hlen τ i12)) (lt (hA τ i12 x2.toNatClampNeg) fun v17 =>
  (if v17 = 0 then
  bd (hR τ x0 7) fun i24 =>
  chk (isO τ 10 i24 ∧ inb x2 (hlen τ i24)) (lt (hA τ i24 x2.toNatClampNeg) fun v29 =>
  lt ((x1 ||| ((1 : Int32) <<< (v29 &&& 31)))) fun v31 =>
  lt (x2 + (1 : Int32)) fun v33 =>
  K4 x0 v31 v33 τ)
  else
  lt (x2 + (1 : Int32)) fun v22 =>
  K4 x0 x1 v22 τ))))
def lp_X0_sourcesIn_4  : Nat → Nat → Int32 → Int32 → HS → Option (Int32 × HS)
  | 0 => fun _ _ _ _ => none
  | n + 1 => lp_X0_sourcesIn_4_b  (lp_X0_sourcesIn_4  n)
def f_X0_sourcesIn (a0 : Nat) (σ : HS) : Option (Int32 × HS) :=
  lt ((0 : Int32)) fun v1 =>
  lt ((0 : Int32)) fun v3 =>
  lp_X0_sourcesIn_4  1000 a0 v1 v3 σ
def lp_X0_unlikeIn_4_b  (K4 : Nat → Int32 → Int32 → HS → Option (Int32 × HS)) (x0 : Nat) (x1 : Int32) (x2 : Int32) (τ : HS) : Option (Int32 × HS) :=
  chk (isO τ 10 x0) (lt (Int32.ofNat (hlen τ x0)) fun v7 =>
  (if v7 ≤ x2 then
  some (x1, τ)
  else
  chk (isO τ 10 x0 ∧ inb x2 (hlen τ x0)) (lt (hA τ x0 x2.toNatClampNeg) fun v14 =>
  (if v14 = x2 then
  lt ((x1 + (1 : Int32))) fun v23 =>
  lt (x2 + (1 : Int32)) fun v25 =>
  K4 x0 v23 v25 τ
  else
  lt ((x1 + (0 : Int32))) fun v19 =>
  lt (x2 + (1 : Int32)) fun v21 =>
  K4 x0 v19 v21 τ))))
def lp_X0_unlikeIn_4  : Nat → Nat → Int32 → Int32 → HS → Option (Int32 × HS)
  | 0 => fun _ _ _ _ => none
  | n + 1 => lp_X0_unlikeIn_4_b  (lp_X0_unlikeIn_4  n)
def f_X0_unlikeIn (a0 : Nat) (σ : HS) : Option (Int32 × HS) :=
  lt ((0 : Int32)) fun v1 =>
  lt ((0 : Int32)) fun v3 =>
  lp_X0_unlikeIn_4  1000 a0 v1 v3 σ
def f_X5_formulaOf (a0 : Nat) (a1 : Int32) (σ : HS) : Option ((Option Nat) × HS) :=
  (if a1 < 0 then
  some (none, σ)
  else
  chk (isO σ 5 a0) (bd (hR σ a0 0) fun i6 =>
  chk (isO σ 2 i6) (lt (hA σ i6 4) fun v11 =>
  (if a1 < v11 then
  bd (hR σ i6 3) fun i19 =>
  chk (isO σ 13 i19 ∧ inb a1 (hlen σ i19)) (lt (hR σ i19 a1.toNatClampNeg) fun o24 =>
  some (o24, σ))
  else
  some (none, σ)))))
def f_X5_carryAsItIs (a0 : Nat) (a1 : Nat) (σ : HS) : Option (Unit × HS) :=
  chk (isO σ 5 a0) (bd (hR σ a0 4) fun i3 =>
  bd (hR σ a0 0) fun i6 =>
  chk (isO σ 4 i3) (bc (f_X4_standAs i3 i6 σ) fun r11 σ12 =>
  chk (isO σ12 5 a0) (bd (hR σ12 a0 4) fun i17 =>
  chk (isO σ12 4 i17) (bc (f_X4_carry i17 a1 σ12) fun r22 σ23 =>
  some ((), σ23)))))
def lp_X5_widthWithHalf_2_b  (K2 : Nat → Nat → Int32 → Int32 → HS → Option (Int64 × HS)) (x0 : Nat) (x1 : Nat) (x2 : Int32) (x3 : Int32) (τ : HS) : Option (Int64 × HS) :=
  (if (6 : Int32) ≤ x3 then
  chk (isO τ 5 x0) (bd (hR τ x0 4) fun i8 =>
  chk (isO τ 4 i8) (bc (f_X4_carry i8 x1 τ) fun r13 σ14 =>
  chk (isO σ14 5 x0) (bd (hR σ14 x0 4) fun i19 =>
  chk (isO σ14 4 i19) (lt (hB σ14 i19 4) fun v24 =>
  lt (hB σ14 i19 3) fun v29 =>
  some ((v24 - v29), σ14)))))
  else
  (if ((x2 >>> (x3 &&& 31)) &&& (1 : Int32)) = (1 : Int32) then
  lt ((1 : Int32)) fun v131 =>
  (if v131 = 0 then
  chk (isO τ 5 x0) (bd (hR τ x0 0) fun i138 =>
  chk (isO τ 2 i138) (bd (hR τ i138 1) fun i143 =>
  chk (isO τ 10 i143 ∧ inb x3 (hlen τ i143)) (lt (hA τ i143 x3.toNatClampNeg) fun v148 =>
  bd (hR τ x0 4) fun i150 =>
  bd (hR τ i138 0) fun i156 =>
  chk (isO τ 10 i156 ∧ inb x3 (hlen τ i156)) (lt (hA τ i156 x3.toNatClampNeg) fun v161 =>
  chk (isO τ 10 i156 ∧ inb x3 (hlen τ i156)) (lt (hA τ i156 x3.toNatClampNeg) fun v171 =>
  chk (isO τ 4 i150) (bc (f_X4_stand i150 x3 (v161 - v148) (v171 + v148) τ) fun r175 σ176 =>
  lt (x3 + (1 : Int32)) fun v179 =>
  K2 x0 x1 x2 v179 σ176))))))
  else
  chk (isO τ 5 x0) (bd (hR τ x0 0) fun i183 =>
  chk (isO τ 2 i183) (bd (hR τ i183 1) fun i188 =>
  chk (isO τ 10 i188 ∧ inb x3 (hlen τ i188)) (lt (hA τ i188 x3.toNatClampNeg) fun v193 =>
  lt ((v193 / (2 : Int32))) fun v195 =>
  bd (hR τ x0 4) fun i197 =>
  bd (hR τ i183 0) fun i203 =>
  chk (isO τ 10 i203 ∧ inb x3 (hlen τ i203)) (lt (hA τ i203 x3.toNatClampNeg) fun v208 =>
  chk (isO τ 10 i203 ∧ inb x3 (hlen τ i203)) (lt (hA τ i203 x3.toNatClampNeg) fun v218 =>
  chk (isO τ 4 i197) (bc (f_X4_stand i197 x3 (v208 - v195) (v218 + v195) τ) fun r222 σ223 =>
  lt (x3 + (1 : Int32)) fun v226 =>
  K2 x0 x1 x2 v226 σ223)))))))
  else
  lt ((0 : Int32)) fun v34 =>
  (if v34 = 0 then
  chk (isO τ 5 x0) (bd (hR τ x0 0) fun i41 =>
  chk (isO τ 2 i41) (bd (hR τ i41 1) fun i46 =>
  chk (isO τ 10 i46 ∧ inb x3 (hlen τ i46)) (lt (hA τ i46 x3.toNatClampNeg) fun v51 =>
  bd (hR τ x0 4) fun i53 =>
  bd (hR τ i41 0) fun i59 =>
  chk (isO τ 10 i59 ∧ inb x3 (hlen τ i59)) (lt (hA τ i59 x3.toNatClampNeg) fun v64 =>
  chk (isO τ 10 i59 ∧ inb x3 (hlen τ i59)) (lt (hA τ i59 x3.toNatClampNeg) fun v74 =>
  chk (isO τ 4 i53) (bc (f_X4_stand i53 x3 (v64 - v51) (v74 + v51) τ) fun r78 σ79 =>
  lt (x3 + (1 : Int32)) fun v82 =>
  K2 x0 x1 x2 v82 σ79))))))
  else
  chk (isO τ 5 x0) (bd (hR τ x0 0) fun i86 =>
  chk (isO τ 2 i86) (bd (hR τ i86 1) fun i91 =>
  chk (isO τ 10 i91 ∧ inb x3 (hlen τ i91)) (lt (hA τ i91 x3.toNatClampNeg) fun v96 =>
  lt ((v96 / (2 : Int32))) fun v98 =>
  bd (hR τ x0 4) fun i100 =>
  bd (hR τ i86 0) fun i106 =>
  chk (isO τ 10 i106 ∧ inb x3 (hlen τ i106)) (lt (hA τ i106 x3.toNatClampNeg) fun v111 =>
  chk (isO τ 10 i106 ∧ inb x3 (hlen τ i106)) (lt (hA τ i106 x3.toNatClampNeg) fun v121 =>
  chk (isO τ 4 i100) (bc (f_X4_stand i100 x3 (v111 - v98) (v121 + v98) τ) fun r125 σ126 =>
  lt (x3 + (1 : Int32)) fun v129 =>
  K2 x0 x1 x2 v129 σ126)))))))))
def lp_X5_widthWithHalf_2  : Nat → Nat → Nat → Int32 → Int32 → HS → Option (Int64 × HS)
  | 0 => fun _ _ _ _ _ => none
  | n + 1 => lp_X5_widthWithHalf_2_b  (lp_X5_widthWithHalf_2  n)
def f_X5_widthWithHalf (a0 : Nat) (a1 : Nat) (a2 : Int32) (σ : HS) : Option (Int64 × HS) :=
  lt ((0 : Int32)) fun v1 =>
  lp_X5_widthWithHalf_2  1000 a0 a1 a2 v1 σ
def lp_X5_again_54_b  (K54 : Nat → Int32 → Int64 → Int32 → Nat → Int32 → Int32 → Int32 → HS → Option (Int32 × HS)) (x0 : Nat) (x1 : Int32) (x2 : Int64) (x4 : Int32) (x5 : Nat) (x6 : Int32) (x7 : Int32) (x8 : Int32) (τ : HS) : Option (Int32 × HS) :=
  (if (64 : Int32) ≤ x8 then
  (if x6 = (-5 : Int32) then
  some (x6, τ)
  else
  (if x4 = 0 then
  some (x6, τ)
  else
  some (x7, τ)))
  else
  chk (isO τ 5 x0) (bd (hR τ x0 0) fun i53 =>
  chk (isO τ 2 i53) (bc (f_X2_costOf i53 x8 τ) fun r58 σ59 =>
  (if x6 = (-5 : Int32) then
  chk (isO σ59 5 x0) (bc (f_X5_widthWithHalf x0 x5 x8 σ59) fun r67 σ68 =>
  (if 0 < (lg_cmp r67 x2) then
  lt (x8 + (1 : Int32)) fun v74 =>
  K54 x0 x1 x2 x4 x5 x6 x7 v74 σ68
  else
  lt (x8 + (1 : Int32)) fun v76 =>
  K54 x0 x1 x2 x4 x5 x8 r58 v76 σ68))
  else
  (if x7 ≤ r58 then
  lt (x8 + (1 : Int32)) fun v81 =>
  K54 x0 x1 x2 x4 x5 x6 x7 v81 σ59
  else
  chk (isO σ59 5 x0) (bc (f_X5_widthWithHalf x0 x5 x8 σ59) fun r85 σ86 =>
  (if 0 < (lg_cmp r85 x2) then
  lt (x8 + (1 : Int32)) fun v92 =>
  K54 x0 x1 x2 x4 x5 x6 x7 v92 σ86
  else
  lt (x8 + (1 : Int32)) fun v94 =>
  K54 x0 x1 x2 x4 x5 x8 r58 v94 σ86)))))))
def lp_X5_again_54  : Nat → Nat → Int32 → Int64 → Int32 → Nat → Int32 → Int32 → Int32 → HS → Option (Int32 × HS)
  | 0 => fun _ _ _ _ _ _ _ _ _ => none
  | n + 1 => lp_X5_again_54_b  (lp_X5_again_54  n)
def f_X5_again (a0 : Nat) (a1 : Int32) (a2 : Int64) (a4 : Int32) (σ : HS) : Option (Int32 × HS) :=
  chk (isO σ 5 a0) (bc (f_X5_formulaOf a0 a1 σ) fun r3 σ4 =>
  (oc r3
  (some ((-1 : Int32), σ4))
  (fun i7 =>
  (if a4 < 0 then
  some ((-1 : Int32), σ4)
  else
  (if a4 ≤ (1 : Int32) then
  chk (isO σ4 5 a0) (bc (f_X5_carryAsItIs a0 i7 σ4) fun r18 σ19 =>
  chk (isO σ19 5 a0) (bd (hR σ19 a0 4) fun i24 =>
  chk (isO σ19 4 i24) (bc (f_X4_hasWidth i24 σ19) fun r29 σ30 =>
  (if r29 = 0 then
  some ((-6 : Int32), σ30)
  else
  lt ((-5 : Int32)) fun v36 =>
  lt ((0 : Int32)) fun v38 =>
  lt ((0 : Int32)) fun v40 =>
  lp_X5_again_54  1000 a0 a1 a2 a4 i7 v36 v38 v40 σ30))))
  else
  some ((-1 : Int32), σ4))))))
def f_X5_alike (a0 : Nat) (a1 : Int32) (a2 : Int32) (σ : HS) : Option (Int32 × HS) :=
  chk (isO σ 5 a0) (bc (f_X5_formulaOf a0 a1 σ) fun r3 σ4 =>
  chk (isO σ4 5 a0) (bc (f_X5_formulaOf a0 a2 σ4) fun r9 σ10 =>
  (oc r3
  (some ((-1 : Int32), σ10))
  (fun i13 =>
  (oc r9
  (some ((-1 : Int32), σ10))
  (fun i16 =>
  chk (isO σ10 0 i13) (bc (f_X0_isLike i13 i16 σ10) fun r21 σ22 =>
  (if r21 = 0 then
  some ((0 : Int32), σ22)
  else
  some ((1 : Int32), σ22)))))))))
def f_X5_carrySplit (a0 : Nat) (a1 : Nat) (a2 : Int32) (a3 : Int32) (σ : HS) : Option (Unit × HS) :=
  chk (isO σ 5 a0) (bd (hR σ a0 4) fun i3 =>
  bd (hR σ a0 0) fun i6 =>
  chk (isO σ 2 i6) (bc (f_X2_lowOf i6 a2 σ) fun r11 σ12 =>
  chk (isO σ12 4 i3) (bc (f_X4_stand i3 a2 r11 a3 σ12) fun r17 σ18 =>
  chk (isO σ18 5 a0) (bd (hR σ18 a0 4) fun i23 =>
  chk (isO σ18 4 i23) (bc (f_X4_carry i23 a1 σ18) fun r28 σ29 =>
  chk (isO σ29 5 a0) (bd (hR σ29 a0 4) fun i34 =>
  chk (isO σ29 4 i34) (lt (hB σ29 i34 3) fun v39 =>
  lt (hB σ29 i34 4) fun v44 =>
  bd (hR σ29 a0 0) fun i49 =>
  chk (isO σ29 2 i49) (bc (f_X2_highOf i49 a2 σ29) fun r54 σ55 =>
  chk (isO σ55 4 i34) (bc (f_X4_stand i34 a2 a3 r54 σ55) fun r60 σ61 =>
  chk (isO σ61 5 a0) (bd (hR σ61 a0 4) fun i66 =>
  chk (isO σ61 4 i66) (bc (f_X4_carry i66 a1 σ61) fun r71 σ72 =>
  chk (isO σ72 5 a0) (bd (hR σ72 a0 4) fun i77 =>
  chk (isO σ72 4 i77) (lt (hB σ72 i77 3) fun v85 =>
  lt (if v85 < v39 then v85 else v39) fun v87 =>
  lt (sB σ72 i77 3 v87) fun σ89 =>
  bd (hR σ89 a0 4) fun i93 =>
  chk (isO σ89 4 i93) (lt (hB σ89 i93 4) fun v101 =>
  lt (if v101 < v44 then v44 else v101) fun v103 =>
  lt (sB σ89 i93 4 v103) fun σ105 =>
  bd (hR σ105 a0 4) fun i110 =>
  bd (hR σ105 a0 0) fun i113 =>
  chk (isO σ105 2 i113) (bc (f_X2_lowOf i113 a2 σ105) fun r118 σ119 =>
  chk (isO σ119 5 a0) (bd (hR σ119 a0 0) fun i124 =>
  chk (isO σ119 2 i124) (bc (f_X2_highOf i124 a2 σ119) fun r129 σ130 =>
  chk (isO σ130 4 i110) (bc (f_X4_stand i110 a2 r118 r129 σ130) fun r135 σ136 =>
  some ((), σ136)))))))))))))))))))
def lp_X5_best_102_b (K72 : Nat → Int32 → Int32 → Nat → Int64 → Int64 → Int32 → Int32 → Int32 → HS → Option (Int64 × HS)) (K102 : Nat → Int32 → Int32 → Nat → Int64 → Int64 → Int32 → Int32 → Int32 → Int32 → HS → Option (Int64 × HS)) (x0 : Nat) (x1 : Int32) (x2 : Int32) (x3 : Nat) (x4 : Int64) (x6 : Int64) (x8 : Int32) (x9 : Int32) (x10 : Int32) (x11 : Int32) (τ : HS) : Option (Int64 × HS) :=
  chk (isO τ 5 x0) (bd (hR τ x0 0) fun i92 =>
  chk (isO τ 2 i92) (bc (f_X2_highOf i92 x10 τ) fun r97 σ98 =>
  (if r97 < x11 then
  lt (x10 + (1 : Int32)) fun v104 =>
  K72 x0 x1 x2 x3 x4 x6 x8 x9 v104 σ98
  else
  chk (isO σ98 5 x0) (bc (f_X5_carrySplit x0 x3 x10 x11 σ98) fun r108 σ109 =>
  chk (isO σ109 5 x0) (bd (hR σ109 x0 4) fun i114 =>
  chk (isO σ109 4 i114) (lt (hB σ109 i114 4) fun v119 =>
  lt (hB σ109 i114 3) fun v124 =>
  lt ((v119 - v124)) fun v126 =>
  (if 0 ≤ (lg_cmp v126 x6) then
  lt (x11 + (1 : Int32)) fun v131 =>
  K102 x0 x1 x2 x3 x4 x6 x8 x9 x10 v131 σ109
  else
  lt (x11 + (1 : Int32)) fun v133 =>
  K102 x0 x1 x2 x3 x4 v126 x10 x11 x10 v133 σ109)))))))
def lp_X5_best_102 (K72 : Nat → Int32 → Int32 → Nat → Int64 → Int64 → Int32 → Int32 → Int32 → HS → Option (Int64 × HS)) : Nat → Nat → Int32 → Int32 → Nat → Int64 → Int64 → Int32 → Int32 → Int32 → Int32 → HS → Option (Int64 × HS)
  | 0 => fun _ _ _ _ _ _ _ _ _ _ _ => none
  | n + 1 => lp_X5_best_102_b K72 (lp_X5_best_102 K72 n)
def lp_X5_best_72_b  (K72 : Nat → Int32 → Int32 → Nat → Int64 → Int64 → Int32 → Int32 → Int32 → HS → Option (Int64 × HS)) (x0 : Nat) (x1 : Int32) (x2 : Int32) (x3 : Nat) (x4 : Int64) (x6 : Int64) (x8 : Int32) (x9 : Int32) (x10 : Int32) (τ : HS) : Option (Int64 × HS) :=
  (if (6 : Int32) ≤ x10 then
  (if x8 = (-1 : Int32) then
  some ((-1000 : Int64), τ)
  else
  (if x2 = 0 then
  some ((x8).toInt64, τ)
  else
  (if x2 = (1 : Int32) then
  some ((x9).toInt64, τ)
  else
  some ((x4 - x6), τ))))
  else
  chk (isO τ 0 x3) (bc (f_X0_hasSource x3 x10 τ) fun r72 σ73 =>
  (if r72 = 0 then
  lt (x10 + (1 : Int32)) fun v135 =>
  K72 x0 x1 x2 x3 x4 x6 x8 x9 v135 σ73
  else
  chk (isO σ73 5 x0) (bd (hR σ73 x0 0) fun i81 =>
  chk (isO σ73 2 i81) (bc (f_X2_lowOf i81 x10 σ73) fun r86 σ87 =>
  lp_X5_best_102 (K72) 1000 x0 x1 x2 x3 x4 x6 x8 x9 x10 r86 σ87)))))
def lp_X5_best_72  : Nat → Nat → Int32 → Int32 → Nat → Int64 → Int64 → Int32 → Int32 → Int32 → HS → Option (Int64 × HS)
  | 0 => fun _ _ _ _ _ _ _ _ _ _ => none
  | n + 1 => lp_X5_best_72_b  (lp_X5_best_72  n)
def f_X5_best (a0 : Nat) (a1 : Int32) (a2 : Int32) (σ : HS) : Option (Int64 × HS) :=
  chk (isO σ 5 a0) (bc (f_X5_formulaOf a0 a1 σ) fun r3 σ4 =>
  (oc r3
  (some ((-9223372036854775808 : Int64), σ4))
  (fun i7 =>
  (if a2 < 0 then
  some ((-9223372036854775808 : Int64), σ4)
  else
  (if a2 ≤ (2 : Int32) then
  chk (isO σ4 5 a0) (bc (f_X5_carryAsItIs a0 i7 σ4) fun r18 σ19 =>
  chk (isO σ19 5 a0) (bd (hR σ19 a0 4) fun i24 =>
  chk (isO σ19 4 i24) (bc (f_X4_hasWidth i24 σ19) fun r29 σ30 =>
  (if r29 = 0 then
  some ((-9223372036854775807 : Int64), σ30)
  else
  chk (isO σ30 5 a0) (bd (hR σ30 a0 4) fun i38 =>
  chk (isO σ30 4 i38) (lt (hB σ30 i38 4) fun v43 =>
  lt (hB σ30 i38 3) fun v48 =>
  lt ((v43 - v48)) fun v50 =>
  lt ((-1 : Int32)) fun v52 =>
  lt ((0 : Int32)) fun v54 =>
  lt ((0 : Int32)) fun v56 =>
  lp_X5_best_72  1000 a0 a1 a2 i7 v50 v50 v52 v54 v56 σ30))))))
  else
  some ((-9223372036854775808 : Int64), σ4))))))
def lp_X5_worthAtCorner_2_b  (K2 : Nat → Nat → Int32 → Int32 → HS → Option (Int64 × HS)) (x0 : Nat) (x1 : Nat) (x2 : Int32) (x3 : Int32) (τ : HS) : Option (Int64 × HS) :=
  (if (6 : Int32) ≤ x3 then
  chk (isO τ 5 x0) (bd (hR τ x0 4) fun i8 =>
  chk (isO τ 4 i8) (bc (f_X4_worthOf i8 x1 τ) fun r13 σ14 =>
  some (r13, σ14)))
  else
  (if ((x2 >>> (x3 &&& 31)) &&& (1 : Int32)) = (1 : Int32) then
  lt ((1 : Int32)) fun v65 =>
  chk (isO τ 5 x0) (bd (hR τ x0 4) fun i69 =>
  chk (isO τ 4 i69) (bd (hR τ i69 5) fun i74 =>
  (if v65 = 0 then
  bd (hR τ x0 0) fun i80 =>
  chk (isO τ 2 i80) (bc (f_X2_lowOf i80 x3 τ) fun r85 σ86 =>
  chk (isO σ86 10 i74 ∧ inb x3 (hlen σ86 i74)) (lt (sA σ86 i74 x3.toNatClampNeg r85) fun σ91 =>
  lt (x3 + (1 : Int32)) fun v93 =>
  K2 x0 x1 x2 v93 σ91))
  else
  bd (hR τ x0 0) fun i95 =>
  chk (isO τ 2 i95) (bc (f_X2_highOf i95 x3 τ) fun r100 σ101 =>
  chk (isO σ101 10 i74 ∧ inb x3 (hlen σ101 i74)) (lt (sA σ101 i74 x3.toNatClampNeg r100) fun σ106 =>
  lt (x3 + (1 : Int32)) fun v108 =>
  K2 x0 x1 x2 v108 σ106)))))
  else
  lt ((0 : Int32)) fun v20 =>
  chk (isO τ 5 x0) (bd (hR τ x0 4) fun i24 =>
  chk (isO τ 4 i24) (bd (hR τ i24 5) fun i29 =>
  (if v20 = 0 then
  bd (hR τ x0 0) fun i35 =>
  chk (isO τ 2 i35) (bc (f_X2_lowOf i35 x3 τ) fun r40 σ41 =>
  chk (isO σ41 10 i29 ∧ inb x3 (hlen σ41 i29)) (lt (sA σ41 i29 x3.toNatClampNeg r40) fun σ46 =>
  lt (x3 + (1 : Int32)) fun v48 =>
  K2 x0 x1 x2 v48 σ46))
  else
  bd (hR τ x0 0) fun i50 =>
  chk (isO τ 2 i50) (bc (f_X2_highOf i50 x3 τ) fun r55 σ56 =>
  chk (isO σ56 10 i29 ∧ inb x3 (hlen σ56 i29)) (lt (sA σ56 i29 x3.toNatClampNeg r55) fun σ61 =>
  lt (x3 + (1 : Int32)) fun v63 =>
  K2 x0 x1 x2 v63 σ61)))))))
def lp_X5_worthAtCorner_2  : Nat → Nat → Nat → Int32 → Int32 → HS → Option (Int64 × HS)
  | 0 => fun _ _ _ _ _ => none
  | n + 1 => lp_X5_worthAtCorner_2_b  (lp_X5_worthAtCorner_2  n)
def f_X5_worthAtCorner (a0 : Nat) (a1 : Nat) (a2 : Int32) (σ : HS) : Option (Int64 × HS) :=
  lt ((0 : Int32)) fun v1 =>
  lp_X5_worthAtCorner_2  1000 a0 a1 a2 v1 σ
def lp_X5_corner_53_b  (K53 : Nat → Int32 → Int32 → Nat → Int64 → Int32 → HS → Option (Int64 × HS)) (x0 : Nat) (x1 : Int32) (x2 : Int32) (x3 : Nat) (x4 : Int64) (x6 : Int32) (τ : HS) : Option (Int64 × HS) :=
  (if (64 : Int32) ≤ x6 then
  some (x4, τ)
  else
  chk (isO τ 0 x3) (lt (hA τ x3 6) fun v45 =>
  (if (x6 &&& (v45 ^^^ (-1 : Int32))) = 0 then
  chk (isO τ 5 x0) (bc (f_X5_worthAtCorner x0 x3 x6 τ) fun r54 σ55 =>
  (if x2 = 0 then
  lt (if r54 < x4 then r54 else x4) fun v65 =>
  lt (x6 + (1 : Int32)) fun v67 =>
  K53 x0 x1 x2 x3 v65 v67 σ55
  else
  lt (if r54 < x4 then x4 else r54) fun v61 =>
  lt (x6 + (1 : Int32)) fun v63 =>
  K53 x0 x1 x2 x3 v61 v63 σ55))
  else
  lt (x6 + (1 : Int32)) fun v50 =>
  K53 x0 x1 x2 x3 x4 v50 τ)))
def lp_X5_corner_53  : Nat → Nat → Int32 → Int32 → Nat → Int64 → Int32 → HS → Option (Int64 × HS)
  | 0 => fun _ _ _ _ _ _ _ => none
  | n + 1 => lp_X5_corner_53_b  (lp_X5_corner_53  n)
def f_X5_corner (a0 : Nat) (a1 : Int32) (a2 : Int32) (σ : HS) : Option (Int64 × HS) :=
  chk (isO σ 5 a0) (bc (f_X5_formulaOf a0 a1 σ) fun r3 σ4 =>
  (oc r3
  (some ((-9223372036854775808 : Int64), σ4))
  (fun i7 =>
  (if a2 < 0 then
  some ((-9223372036854775808 : Int64), σ4)
  else
  (if a2 ≤ (1 : Int32) then
  chk (isO σ4 5 a0) (bc (f_X5_carryAsItIs a0 i7 σ4) fun r18 σ19 =>
  chk (isO σ19 5 a0) (bd (hR σ19 a0 4) fun i24 =>
  chk (isO σ19 4 i24) (lt (hA σ19 i24 2) fun v29 =>
  (if v29 = 0 then
  bc (f_X5_worthAtCorner a0 i7 (0 : Int32) σ19) fun r34 σ35 =>
  lt ((1 : Int32)) fun v38 =>
  lp_X5_corner_53  1000 a0 a1 a2 i7 r34 v38 σ35
  else
  some ((-9223372036854775807 : Int64), σ19)))))
  else
  some ((-9223372036854775808 : Int64), σ4))))))
def lp_X5_formulasOver_4_b  (K4 : Nat → Int32 → Int32 → HS → Option (Int32 × HS)) (x0 : Nat) (x1 : Int32) (x2 : Int32) (τ : HS) : Option (Int32 × HS) :=
  chk (isO τ 5 x0) (bd (hR τ x0 0) fun i7 =>
  chk (isO τ 2 i7) (lt (hA τ i7 4) fun v12 =>
  (if v12 ≤ x2 then
  some (x1, τ)
  else
  bc (f_X5_formulaOf x0 x2 τ) fun r17 σ18 =>
  (oc r17
  (lt (x2 + (1 : Int32)) fun v24 =>
  K4 x0 x1 v24 σ18)
  (fun i21 =>
  chk (isO σ18 5 x0) (bc (f_X5_carryAsItIs x0 i21 σ18) fun r28 σ29 =>
  chk (isO σ29 5 x0) (bd (hR σ29 x0 4) fun i34 =>
  chk (isO σ29 4 i34) (lt (hA σ29 i34 2) fun v39 =>
  (if v39 = 0 then
  lt ((x1 + (0 : Int32))) fun v44 =>
  lt (x2 + (1 : Int32)) fun v46 =>
  K4 x0 v44 v46 σ29
  else
  lt ((x1 + (1 : Int32))) fun v48 =>
  lt (x2 + (1 : Int32)) fun v50 =>
  K4 x0 v48 v50 σ29)))))))))
def lp_X5_formulasOver_4  : Nat → Nat → Int32 → Int32 → HS → Option (Int32 × HS)
  | 0 => fun _ _ _ _ => none
  | n + 1 => lp_X5_formulasOver_4_b  (lp_X5_formulasOver_4  n)
def f_X5_formulasOver (a0 : Nat) (σ : HS) : Option (Int32 × HS) :=
  lt ((0 : Int32)) fun v1 =>
  lt ((0 : Int32)) fun v3 =>
  lp_X5_formulasOver_4  1000 a0 v1 v3 σ
def lp_X5_sourcesWithSpan_4_b  (K4 : Nat → Int32 → Int32 → HS → Option (Int32 × HS)) (x0 : Nat) (x1 : Int32) (x2 : Int32) (τ : HS) : Option (Int32 × HS) :=
  (if (6 : Int32) ≤ x2 then
  some (x1, τ)
  else
  chk (isO τ 5 x0) (bd (hR τ x0 0) fun i10 =>
  chk (isO τ 2 i10) (bd (hR τ i10 1) fun i15 =>
  chk (isO τ 10 i15 ∧ inb x2 (hlen τ i15)) (lt (hA τ i15 x2.toNatClampNeg) fun v20 =>
  (if v20 ≤ 0 then
  lt ((x1 + (0 : Int32))) fun v25 =>
  lt (x2 + (1 : Int32)) fun v27 =>
  K4 x0 v25 v27 τ
  else
  lt ((x1 + (1 : Int32))) fun v29 =>
  lt (x2 + (1 : Int32)) fun v31 =>
  K4 x0 v29 v31 τ)))))
def lp_X5_sourcesWithSpan_4  : Nat → Nat → Int32 → Int32 → HS → Option (Int32 × HS)
  | 0 => fun _ _ _ _ => none
  | n + 1 => lp_X5_sourcesWithSpan_4_b  (lp_X5_sourcesWithSpan_4  n)
def f_X5_sourcesWithSpan (a0 : Nat) (σ : HS) : Option (Int32 × HS) :=
  lt ((0 : Int32)) fun v1 =>
  lt ((0 : Int32)) fun v3 =>
  lp_X5_sourcesWithSpan_4  1000 a0 v1 v3 σ
def f_X5_count (a0 : Nat) (a1 : Int32) (σ : HS) : Option (Int32 × HS) :=
  (if a1 = (0 : Int32) then
  chk (isO σ 5 a0) (bd (hR σ a0 0) fun i6 =>
  chk (isO σ 2 i6) (lt (hA σ i6 4) fun v11 =>
  some (v11, σ)))
  else if a1 = (1 : Int32) then
  chk (isO σ 5 a0) (bd (hR σ a0 3) fun i18 =>
  chk (isO σ 3 i18) (lt (hA σ i18 1) fun v23 =>
  some (v23, σ)))
  else if a1 = (2 : Int32) then
  chk (isO σ 5 a0) (bd (hR σ a0 0) fun i30 =>
  chk (isO σ 2 i30) (lt (hA σ i30 8) fun v35 =>
  some (v35, σ)))
  else if a1 = (3 : Int32) then
  chk (isO σ 5 a0) (bc (f_X5_formulasOver a0 σ) fun r42 σ43 =>
  some (r42, σ43))
  else if a1 = (4 : Int32) then
  chk (isO σ 5 a0) (bc (f_X5_sourcesWithSpan a0 σ) fun r51 σ52 =>
  some (r51, σ52))
  else some ((-2 : Int32), σ))
def f_X5_drop (a0 : Nat) (σ : HS) : Option (Int32 × HS) :=
  chk (isO σ 5 a0) (bd (hR σ a0 0) fun i3 =>
  chk (isO σ 2 i3) (lt (hA σ i3 4) fun v8 =>
  (if 0 < v8 then
  lt (hA σ i3 4) fun v16 =>
  lt (sA σ i3 4 (v16 - (1 : Int32))) fun σ18 =>
  bd (hR σ18 a0 0) fun i22 =>
  chk (isO σ18 2 i22) (bd (hR σ18 i22 3) fun i27 =>
  lt (hA σ18 i22 4) fun v33 =>
  chk (isO σ18 13 i27 ∧ inb v33 (hlen σ18 i27)) (chk (okF σ18 none = true) (lt (sR σ18 i27 v33.toNatClampNeg none) fun σ39 =>
  bd (hR σ39 a0 0) fun i44 =>
  chk (isO σ39 2 i44) (lt (hA σ39 i44 4) fun v49 =>
  some (v49, σ39)))))
  else
  some ((-3 : Int32), σ))))
def lp_X5_ends_47_b (K16 : Nat → Int32 → Nat → Int32 → HS → Option (Int64 × HS)) (K47 : Nat → Int32 → Nat → Int32 → Int32 → Int32 → Int32 → HS → Option (Int64 × HS)) (x0 : Nat) (x1 : Int32) (x2 : Nat) (x3 : Int32) (x4 : Int32) (x5 : Int32) (x6 : Int32) (τ : HS) : Option (Int64 × HS) :=
  chk (isO τ 5 x0) (bd (hR τ x0 0) fun i65 =>
  chk (isO τ 2 i65) (lt (hA τ i65 8) fun v70 =>
  (if v70 ≤ x6 then
  bd (hR τ x0 4) fun i75 =>
  chk (isO τ 4 i75) (bc (f_X4_stand i75 x3 (x4 - x5) (x4 + x5) τ) fun r80 σ81 =>
  lt (x3 + (1 : Int32)) fun v84 =>
  K16 x0 x1 x2 v84 σ81)
  else
  bd (hR τ i65 5) fun i89 =>
  chk (isO τ 10 i89 ∧ inb x6 (hlen τ i89)) (lt (hA τ i89 x6.toNatClampNeg) fun v94 =>
  (if v94 = x3 then
  bd (hR τ i65 6) fun i104 =>
  chk (isO τ 10 i104 ∧ inb x6 (hlen τ i104)) (lt (hA τ i104 x6.toNatClampNeg) fun v109 =>
  (if v109 = 0 then
  bd (hR τ i65 7) fun i126 =>
  chk (isO τ 10 i126 ∧ inb x6 (hlen τ i126)) (lt (hA τ i126 x6.toNatClampNeg) fun v131 =>
  bc (f_X2_spanBehind i65 x6 x5 τ) fun r136 σ137 =>
  lt (x6 + (1 : Int32)) fun v140 =>
  K47 x0 x1 x2 x3 v131 r136 v140 σ137)
  else
  bc (f_X2_spanBehind i65 x6 x5 τ) fun r117 σ118 =>
  lt (x6 + (1 : Int32)) fun v121 =>
  K47 x0 x1 x2 x3 x4 r117 v121 σ118))
  else
  lt (x6 + (1 : Int32)) fun v99 =>
  K47 x0 x1 x2 x3 x4 x5 v99 τ)))))
def lp_X5_ends_47 (K16 : Nat → Int32 → Nat → Int32 → HS → Option (Int64 × HS)) : Nat → Nat → Int32 → Nat → Int32 → Int32 → Int32 → Int32 → HS → Option (Int64 × HS)
  | 0 => fun _ _ _ _ _ _ _ _ => none
  | n + 1 => lp_X5_ends_47_b K16 (lp_X5_ends_47 K16 n)
def lp_X5_ends_16_b  (K16 : Nat → Int32 → Nat → Int32 → HS → Option (Int64 × HS)) (x0 : Nat) (x1 : Int32) (x2 : Nat) (x3 : Int32) (τ : HS) : Option (Int64 × HS) :=
  (if (6 : Int32) ≤ x3 then
  chk (isO τ 5 x0) (bd (hR τ x0 4) fun i17 =>
  chk (isO τ 4 i17) (bc (f_X4_carry i17 x2 τ) fun r22 σ23 =>
  chk (isO σ23 5 x0) (bd (hR σ23 x0 4) fun i28 =>
  chk (isO σ23 4 i28) (bc (f_X4_told i28 (2 : Int32) σ23) fun r33 σ34 =>
  some (r33, σ34)))))
  else
  chk (isO τ 5 x0) (bd (hR τ x0 0) fun i39 =>
  chk (isO τ 2 i39) (bd (hR τ i39 0) fun i44 =>
  chk (isO τ 10 i44 ∧ inb x3 (hlen τ i44)) (lt (hA τ i44 x3.toNatClampNeg) fun v49 =>
  bd (hR τ i39 1) fun i54 =>
  chk (isO τ 10 i54 ∧ inb x3 (hlen τ i54)) (lt (hA τ i54 x3.toNatClampNeg) fun v59 =>
  lt ((0 : Int32)) fun v61 =>
  lp_X5_ends_47 (K16) 1000 x0 x1 x2 x3 v49 v59 v61 τ)))))
def lp_X5_ends_16  : Nat → Nat → Int32 → Nat → Int32 → HS → Option (Int64 × HS)
  | 0 => fun _ _ _ _ _ => none
  | n + 1 => lp_X5_ends_16_b  (lp_X5_ends_16  n)
def f_X5_ends (a0 : Nat) (a1 : Int32) (σ : HS) : Option (Int64 × HS) :=
  chk (isO σ 5 a0) (bc (f_X5_formulaOf a0 a1 σ) fun r3 σ4 =>
  (oc r3
  (some ((-9223372036854775808 : Int64), σ4))
  (fun i7 =>
  lt ((0 : Int32)) fun v10 =>
  lp_X5_ends_16  1000 a0 a1 i7 v10 σ4)))
def lp_X5_exact_35_b  (K35 : Nat → Int32 → Nat → Int32 → HS → Option (Int64 × HS)) (x0 : Nat) (x1 : Int32) (x2 : Nat) (x3 : Int32) (τ : HS) : Option (Int64 × HS) :=
  (if (6 : Int32) ≤ x3 then
  chk (isO τ 5 x0) (bd (hR τ x0 4) fun i35 =>
  chk (isO τ 4 i35) (bc (f_X4_worthOf i35 x2 τ) fun r40 σ41 =>
  some (r40, σ41)))
  else
  chk (isO τ 5 x0) (bd (hR τ x0 4) fun i46 =>
  chk (isO τ 4 i46) (bd (hR τ i46 5) fun i51 =>
  bd (hR τ x0 0) fun i54 =>
  chk (isO τ 2 i54) (bd (hR τ i54 0) fun i59 =>
  chk (isO τ 10 i59 ∧ inb x3 (hlen τ i59)) (lt (hA τ i59 x3.toNatClampNeg) fun v64 =>
  chk (isO τ 10 i51 ∧ inb x3 (hlen τ i51)) (lt (sA τ i51 x3.toNatClampNeg v64) fun σ68 =>
  lt (x3 + (1 : Int32)) fun v73 =>
  K35 x0 x1 x2 v73 σ68))))))
def lp_X5_exact_35  : Nat → Nat → Int32 → Nat → Int32 → HS → Option (Int64 × HS)
  | 0 => fun _ _ _ _ _ => none
  | n + 1 => lp_X5_exact_35_b  (lp_X5_exact_35  n)
def f_X5_exact (a0 : Nat) (a1 : Int32) (σ : HS) : Option (Int64 × HS) :=
  chk (isO σ 5 a0) (bc (f_X5_formulaOf a0 a1 σ) fun r3 σ4 =>
  (oc r3
  (some ((-9223372036854775808 : Int64), σ4))
  (fun i7 =>
  chk (isO σ4 5 a0) (bc (f_X5_carryAsItIs a0 i7 σ4) fun r12 σ13 =>
  chk (isO σ13 5 a0) (bd (hR σ13 a0 4) fun i18 =>
  chk (isO σ13 4 i18) (lt (hA σ13 i18 2) fun v23 =>
  (if v23 = 0 then
  lt ((0 : Int32)) fun v28 =>
  lp_X5_exact_35  1000 a0 a1 i7 v28 σ13
  else
  some ((-9223372036854775807 : Int64), σ13))))))))
def f_X5_feed (a0 : Nat) (a1 : Int32) (σ : HS) : Option (Int32 × HS) :=
  (if a1 < (1 : Int32) then
  some ((-2 : Int32), σ)
  else
  (if a1 ≤ (127 : Int32) then
  chk (isO σ 5 a0) (bd (hR σ a0 3) fun i9 =>
  chk (isO σ 3 i9) (bc (f_X3_append i9 a1 σ) fun r14 σ15 =>
  (if r14 = 0 then
  some ((-4 : Int32), σ15)
  else
  chk (isO σ15 5 a0) (bd (hR σ15 a0 3) fun i23 =>
  chk (isO σ15 3 i23) (lt (hA σ15 i23 1) fun v28 =>
  some (v28, σ15))))))
  else
  some ((-2 : Int32), σ)))
def f_X5_isSource (a0 : Int32) (σ : HS) : Option (Int32 × HS) :=
  (if a0 < 0 then
  some ((0 : Int32), σ)
  else
  (if (6 : Int32) ≤ a0 then
  some ((0 : Int32), σ)
  else
  some ((1 : Int32), σ)))
def lp_X5_fits_55_b  (K55 : Nat → Int32 → Int32 → Int64 → Int32 → Nat → Int32 → Int32 → Int32 → HS → Option (Int32 × HS)) (x0 : Nat) (x1 : Int32) (x2 : Int32) (x3 : Int64) (x5 : Int32) (x6 : Nat) (x7 : Int32) (x8 : Int32) (x9 : Int32) (τ : HS) : Option (Int32 × HS) :=
  (if (99 : Int32) < x9 then
  (if x5 = 0 then
  some (x7, τ)
  else
  some (x8, τ))
  else
  chk (isO τ 5 x0) (bd (hR τ x0 4) fun i51 =>
  bd (hR τ x0 0) fun i54 =>
  chk (isO τ 2 i54) (bd (hR τ i54 1) fun i59 =>
  chk (isO τ 10 i59 ∧ inb x2 (hlen τ i59)) (lt (hA τ i59 x2.toNatClampNeg) fun v64 =>
  chk (isO τ 10 i59 ∧ inb x2 (hlen τ i59)) (lt (hA τ i59 x2.toNatClampNeg) fun v74 =>
  chk (isO τ 4 i51) (bc (f_X4_stand i51 x2 (x9 - v64) (x9 + v74) τ) fun r78 σ79 =>
  chk (isO σ79 5 x0) (bd (hR σ79 x0 4) fun i84 =>
  chk (isO σ79 4 i84) (bc (f_X4_carry i84 x6 σ79) fun r89 σ90 =>
  chk (isO σ90 5 x0) (bd (hR σ90 x0 4) fun i95 =>
  chk (isO σ90 4 i95) (lt (hA σ90 i95 2) fun v100 =>
  (if v100 = 0 then
  lt (hB σ90 i95 3) fun v110 =>
  (if 0 < (lg_cmp v110 x3) then
  lt (x9 + (1 : Int32)) fun v115 =>
  K55 x0 x1 x2 x3 x5 x6 x7 x8 v115 σ90
  else
  lt (hB σ90 i95 4) fun v120 =>
  (if 0 < (lg_cmp x3 v120) then
  lt (x9 + (1 : Int32)) fun v125 =>
  K55 x0 x1 x2 x3 x5 x6 x7 x8 v125 σ90
  else
  (if x7 = 0 then
  lt (x7 + (1 : Int32)) fun v134 =>
  lt (x9 + (1 : Int32)) fun v136 =>
  K55 x0 x1 x2 x3 x5 x6 v134 x9 v136 σ90
  else
  lt (x7 + (1 : Int32)) fun v130 =>
  lt (x9 + (1 : Int32)) fun v132 =>
  K55 x0 x1 x2 x3 x5 x6 v130 x8 v132 σ90)))
  else
  lt (x9 + (1 : Int32)) fun v105 =>
  K55 x0 x1 x2 x3 x5 x6 x7 x8 v105 σ90)))))))))))
def lp_X5_fits_55  : Nat → Nat → Int32 → Int32 → Int64 → Int32 → Nat → Int32 → Int32 → Int32 → HS → Option (Int32 × HS)
  | 0 => fun _ _ _ _ _ _ _ _ _ _ => none
  | n + 1 => lp_X5_fits_55_b  (lp_X5_fits_55  n)
def f_X5_fits (a0 : Nat) (a1 : Int32) (a2 : Int32) (a3 : Int64) (a5 : Int32) (σ : HS) : Option (Int32 × HS) :=
  chk (isO σ 5 a0) (bc (f_X5_formulaOf a0 a1 σ) fun r3 σ4 =>
  (oc r3
  (some ((-1 : Int32), σ4))
  (fun i7 =>
  bc (f_X5_isSource a2 σ4) fun r10 σ11 =>
  (if r10 = 0 then
  some ((-1 : Int32), σ11)
  else
  (if a5 < 0 then
  some ((-1 : Int32), σ11)
  else
  (if a5 ≤ (1 : Int32) then
  lt ((0 : Int32)) fun v23 =>
  lt ((-1000 : Int32)) fun v25 =>
  chk (isO σ11 5 a0) (bd (hR σ11 a0 4) fun i29 =>
  bd (hR σ11 a0 0) fun i32 =>
  chk (isO σ11 4 i29) (bc (f_X4_standAs i29 i32 σ11) fun r37 σ38 =>
  lt ((-99 : Int32)) fun v41 =>
  lp_X5_fits_55  1000 a0 a1 a2 a3 a5 i7 v23 v25 v41 σ38))
  else
  some ((-1 : Int32), σ11)))))))
def f_X5_isList (a0 : Int32) (σ : HS) : Option (Int32 × HS) :=
  (if a0 < 0 then
  some ((0 : Int32), σ)
  else
  (if (4 : Int32) ≤ a0 then
  some ((0 : Int32), σ)
  else
  some ((1 : Int32), σ)))
def f_X5_get (a0 : Nat) (a1 : Int32) (a2 : Int32) (σ : HS) : Option (Int64 × HS) :=
  bc (f_X5_isList a1 σ) fun r1 σ2 =>
  (if r1 = 0 then
  some ((-9223372036854775808 : Int64), σ2)
  else
  (if a2 < 0 then
  some ((-9223372036854775808 : Int64), σ2)
  else
  chk (isO σ2 5 a0) (bd (hR σ2 a0 6) fun i13 =>
  chk (isO σ2 10 i13 ∧ inb a1 (hlen σ2 i13)) (lt (hA σ2 i13 a1.toNatClampNeg) fun v18 =>
  (if a2 < v18 then
  bd (hR σ2 a0 5) fun i23 =>
  chk (isO σ2 14 i23 ∧ inb a1 (hlen σ2 i23)) (lt (hR σ2 i23 a1.toNatClampNeg) fun o28 =>
  bd o28 fun i30 =>
  chk (isO σ2 12 i30 ∧ inb a2 (hlen σ2 i30)) (lt (hB σ2 i30 a2.toNatClampNeg) fun v35 =>
  some (v35, σ2)))
  else
  some ((-9223372036854775808 : Int64), σ2))))))
def lp_X5_greatestCommon_2_b  (K2 : Int32 → Int32 → Int32 → HS → Option (Int32 × HS)) (x0 : Int32) (x1 : Int32) (x2 : Int32) (τ : HS) : Option (Int32 × HS) :=
  (if x2 ≤ (1 : Int32) then
  some ((1 : Int32), τ)
  else
  chk (¬ x2 = 0) ((if (x0 - x0 / x2 * x2) = 0 then
  chk (¬ x2 = 0) ((if (x1 - x1 / x2 * x2) = 0 then
  some (x2, τ)
  else
  lt (x2 + (-1 : Int32)) fun v16 =>
  K2 x0 x1 v16 τ))
  else
  lt (x2 + (-1 : Int32)) fun v9 =>
  K2 x0 x1 v9 τ)))
def lp_X5_greatestCommon_2  : Nat → Int32 → Int32 → Int32 → HS → Option (Int32 × HS)
  | 0 => fun _ _ _ _ => none
  | n + 1 => lp_X5_greatestCommon_2_b  (lp_X5_greatestCommon_2  n)
def f_X5_greatestCommon (a0 : Int32) (a1 : Int32) (σ : HS) : Option (Int32 × HS) :=
  lp_X5_greatestCommon_2  1000 a0 a1 a1 σ
def f_X5_image (a0 : Nat) (σ : HS) : Option (Int32 × HS) :=
  chk (isO σ 5 a0) (bd (hR σ a0 1) fun i3 =>
  bd (hR σ a0 0) fun i6 =>
  chk (isO σ 2 i3) (bc (f_X2_becomeLike i3 i6 σ) fun r11 σ12 =>
  chk (isO σ12 5 a0) (lt (sA σ12 a0 2 (1 : Int32)) fun σ17 =>
  bd (hR σ17 a0 0) fun i20 =>
  chk (isO σ17 2 i20) (lt (hA σ17 i20 4) fun v25 =>
  some (v25, σ17)))))
def lp_X5_judge_25_b  (K25 : Nat → Int32 → Int32 → HS → Option (Int32 × HS)) (x0 : Nat) (x1 : Int32) (x2 : Int32) (τ : HS) : Option (Int32 × HS) :=
  chk (isO τ 5 x0) (bd (hR τ x0 6) fun i24 =>
  chk (isO τ 10 i24 ∧ inb x1 (hlen τ i24)) (lt (hA τ i24 x1.toNatClampNeg) fun v29 =>
  (if v29 ≤ x2 then
  some ((-5 : Int32), τ)
  else
  bc (f_X5_formulaOf x0 x2 τ) fun r34 σ35 =>
  (oc r34
  (some (x2, σ35))
  (fun i38 =>
  chk (isO σ35 5 x0) (bc (f_X5_carryAsItIs x0 i38 σ35) fun r43 σ44 =>
  chk (isO σ44 5 x0) (bd (hR σ44 x0 4) fun i49 =>
  chk (isO σ44 4 i49) (bc (f_X4_hasWidth i49 σ44) fun r54 σ55 =>
  (if r54 = 0 then
  some (x2, σ55)
  else
  chk (isO σ55 5 x0) (bd (hR σ55 x0 4) fun i63 =>
  chk (isO σ55 4 i63) (lt (hB σ55 i63 4) fun v68 =>
  lt (hB σ55 i63 3) fun v73 =>
  bd (hR σ55 x0 5) fun i75 =>
  chk (isO σ55 14 i75 ∧ inb x1 (hlen σ55 i75)) (lt (hR σ55 i75 x1.toNatClampNeg) fun o80 =>
  bd o80 fun i82 =>
  chk (isO σ55 12 i82 ∧ inb x2 (hlen σ55 i82)) (lt (hB σ55 i82 x2.toNatClampNeg) fun v87 =>
  (if (lg_cmp (v68 - v73) v87) = 0 then
  lt (x2 + (1 : Int32)) fun v92 =>
  K25 x0 x1 v92 σ55
  else
  some (x2, σ55)))))))))))))))
def lp_X5_judge_25  : Nat → Nat → Int32 → Int32 → HS → Option (Int32 × HS)
  | 0 => fun _ _ _ _ => none
  | n + 1 => lp_X5_judge_25_b  (lp_X5_judge_25  n)
def f_X5_judge (a0 : Nat) (a1 : Int32) (σ : HS) : Option (Int32 × HS) :=
  bc (f_X5_isList a1 σ) fun r1 σ2 =>
  (if r1 = 0 then
  some ((-1 : Int32), σ2)
  else
  chk (isO σ2 5 a0) (bd (hR σ2 a0 6) fun i10 =>
  chk (isO σ2 10 i10 ∧ inb a1 (hlen σ2 i10)) (lt (hA σ2 i10 a1.toNatClampNeg) fun v15 =>
  (if v15 = (-11 : Int32) then
  some ((-11 : Int32), σ2)
  else
  lt ((0 : Int32)) fun v20 =>
  lp_X5_judge_25  1000 a0 a1 v20 σ2))))
def lp_X5_keepWay_12_b  (K12 : Nat → Nat → Int32 → HS → Option (Unit × HS)) (x0 : Nat) (x1 : Nat) (x2 : Int32) (τ : HS) : Option (Unit × HS) :=
  (if x2 < 0 then
  some ((), τ)
  else
  chk (isO τ 5 x0) (lt (hA τ x0 8) fun v17 =>
  (if (60 : Int32) ≤ v17 then
  some ((), τ)
  else
  bd (hR τ x0 7) fun i22 =>
  lt (hA τ x0 8) fun v25 =>
  chk (isO τ 0 x1) (bd (hR τ x1 2) fun i29 =>
  chk (isO τ 10 i29 ∧ inb x2 (hlen τ i29)) (lt (hA τ i29 x2.toNatClampNeg) fun v34 =>
  chk (isO τ 10 i22 ∧ inb v25 (hlen τ i22)) (lt (sA τ i22 v25.toNatClampNeg v34) fun σ38 =>
  lt (hA σ38 x0 8) fun v42 =>
  lt (sA σ38 x0 8 (v42 + (1 : Int32))) fun σ44 =>
  bd (hR σ44 x0 4) fun i48 =>
  chk (isO σ44 4 i48) (bc (f_X4_firstOverOf i48 x1 x2 σ44) fun r53 σ54 =>
  K12 x0 x1 r53 σ54)))))))
def lp_X5_keepWay_12  : Nat → Nat → Nat → Int32 → HS → Option (Unit × HS)
  | 0 => fun _ _ _ _ => none
  | n + 1 => lp_X5_keepWay_12_b  (lp_X5_keepWay_12  n)
def f_X5_keepWay (a0 : Nat) (a1 : Nat) (σ : HS) : Option (Unit × HS) :=
  chk (isO σ 5 a0) (lt (sA σ a0 8 (0 : Int32)) fun σ3 =>
  chk (isO σ3 0 a1) (lt (hA σ3 a1 0) fun v8 =>
  lt ((v8 - (1 : Int32))) fun v10 =>
  lp_X5_keepWay_12  1000 a0 a1 v10 σ3))
def f_X5_list (a0 : Nat) (a1 : Int32) (a2 : Int32) (σ : HS) : Option (Int32 × HS) :=
  bc (f_X5_isList a1 σ) fun r1 σ2 =>
  (if r1 = 0 then
  some ((-1 : Int32), σ2)
  else
  (if a2 ≤ (8 : Int32) then
  (if 0 ≤ a2 then
  chk (isO σ2 5 a0) (bd (hR σ2 a0 5) fun i16 =>
  chk (isO σ2 14 i16 ∧ inb a1 (hlen σ2 i16)) (lt (hR σ2 i16 a1.toNatClampNeg) fun o21 =>
  bd o21 fun i23 =>
  bc (f_J7_fill_d0a16 i23 (0 : Int64) σ2) fun r26 σ27 =>
  chk (isO σ27 5 a0) (bd (hR σ27 a0 6) fun i32 =>
  chk (isO σ27 10 i32 ∧ inb a1 (hlen σ27 i32)) (lt (sA σ27 i32 a1.toNatClampNeg a2) fun σ37 =>
  some ((1 : Int32), σ37)))))
  else
  some ((-14 : Int32), σ2))
  else
  some ((-2 : Int32), σ2)))
def f_X5_mayBecome (a0 : Int32) (a1 : Int32) (σ : HS) : Option (Int32 × HS) :=
  (if a0 = (0 : Int32) then
  (if a1 < (-99 : Int32) then
  some ((0 : Int32), σ)
  else
  (if (99 : Int32) < a1 then
  some ((0 : Int32), σ)
  else
  some ((1 : Int32), σ)))
  else if a0 = (1 : Int32) then
  (if a1 < 0 then
  some ((0 : Int32), σ)
  else
  (if (20 : Int32) < a1 then
  some ((0 : Int32), σ)
  else
  some ((1 : Int32), σ)))
  else (if a1 < 0 then
  some ((0 : Int32), σ)
  else
  (if (99 : Int32) < a1 then
  some ((0 : Int32), σ)
  else
  some ((1 : Int32), σ))))
def lp_X5_odds_64_b  (K64 : Nat → Int32 → Int32 → Int32 → Int64 → Int64 → Int32 → Nat → Int32 → Int32 → HS → Option (Int64 × HS)) (x0 : Nat) (x1 : Int32) (x2 : Int32) (x3 : Int32) (x4 : Int64) (x6 : Int64) (x8 : Int32) (x9 : Nat) (x10 : Int32) (x11 : Int32) (τ : HS) : Option (Int64 × HS) :=
  (if x3 ≤ x11 then
  bc (f_X5_greatestCommon x10 x3 τ) fun r47 σ48 =>
  (if x8 = 0 then
  chk (¬ r47 = 0) (some (((x10 / r47)).toInt64, σ48))
  else
  chk (¬ r47 = 0) (some (((x3 / r47)).toInt64, σ48)))
  else
  chk (isO τ 5 x0) (bd (hR τ x0 4) fun i60 =>
  bd (hR τ x0 0) fun i63 =>
  chk (isO τ 4 i60) (bc (f_X4_drawBy i60 (x2 + x11) i63 τ) fun r68 σ69 =>
  chk (isO σ69 5 x0) (bd (hR σ69 x0 4) fun i74 =>
  chk (isO σ69 4 i74) (bc (f_X4_worthOf i74 x9 σ69) fun r79 σ80 =>
  (if 0 < (lg_cmp x4 r79) then
  lt (x11 + (1 : Int32)) fun v86 =>
  K64 x0 x1 x2 x3 x4 x6 x8 x9 x10 v86 σ80
  else
  (if 0 < (lg_cmp r79 x6) then
  lt (x11 + (1 : Int32)) fun v91 =>
  K64 x0 x1 x2 x3 x4 x6 x8 x9 x10 v91 σ80
  else
  lt (x10 + (1 : Int32)) fun v93 =>
  lt (x11 + (1 : Int32)) fun v95 =>
  K64 x0 x1 x2 x3 x4 x6 x8 x9 v93 v95 σ80)))))))
def lp_X5_odds_64  : Nat → Nat → Int32 → Int32 → Int32 → Int64 → Int64 → Int32 → Nat → Int32 → Int32 → HS → Option (Int64 × HS)
  | 0 => fun _ _ _ _ _ _ _ _ _ _ _ => none
  | n + 1 => lp_X5_odds_64_b  (lp_X5_odds_64  n)
def f_X5_odds (a0 : Nat) (a1 : Int32) (a2 : Int32) (a3 : Int32) (a4 : Int64) (a6 : Int64) (a8 : Int32) (σ : HS) : Option (Int64 × HS) :=
  chk (isO σ 5 a0) (bc (f_X5_formulaOf a0 a1 σ) fun r3 σ4 =>
  (oc r3
  (some ((-9223372036854775808 : Int64), σ4))
  (fun i7 =>
  (if a3 < (1 : Int32) then
  some ((-9223372036854775808 : Int64), σ4)
  else
  (if (30 : Int32) < a3 then
  some ((-9223372036854775808 : Int64), σ4)
  else
  (if a8 < 0 then
  some ((-9223372036854775808 : Int64), σ4)
  else
  (if a8 ≤ (1 : Int32) then
  chk (isO σ4 5 a0) (bc (f_X5_carryAsItIs a0 i7 σ4) fun r24 σ25 =>
  chk (isO σ25 5 a0) (bd (hR σ25 a0 4) fun i30 =>
  chk (isO σ25 4 i30) (lt (hA σ25 i30 2) fun v35 =>
  (if v35 = 0 then
  lt ((0 : Int32)) fun v40 =>
  lt ((0 : Int32)) fun v42 =>
  lp_X5_odds_64  1000 a0 a1 a2 a3 a4 a6 a8 i7 v40 v42 σ25
  else
  some ((-9223372036854775807 : Int64), σ25)))))
  else
  some ((-9223372036854775808 : Int64), σ4))))))))
def f_X5_of (a0 : Nat) (a1 : Int32) (a2 : Int32) (σ : HS) : Option (Int32 × HS) :=
  bc (f_X5_isSource a1 σ) fun r1 σ2 =>
  (if r1 = 0 then
  some ((-1000 : Int32), σ2)
  else
  (if a2 = (0 : Int32) then
  chk (isO σ2 5 a0) (bd (hR σ2 a0 0) fun i13 =>
  chk (isO σ2 2 i13) (bc (f_X2_rowOf i13 a2 σ2) fun r18 σ19 =>
  bd r18 fun i22 =>
  chk (isO σ19 10 i22 ∧ inb a1 (hlen σ19 i22)) (lt (hA σ19 i22 a1.toNatClampNeg) fun v27 =>
  some (v27, σ19))))
  else if a2 = (1 : Int32) then
  chk (isO σ2 5 a0) (bd (hR σ2 a0 0) fun i34 =>
  chk (isO σ2 2 i34) (bc (f_X2_rowOf i34 a2 σ2) fun r39 σ40 =>
  bd r39 fun i43 =>
  chk (isO σ40 10 i43 ∧ inb a1 (hlen σ40 i43)) (lt (hA σ40 i43 a1.toNatClampNeg) fun v48 =>
  some (v48, σ40))))
  else if a2 = (2 : Int32) then
  chk (isO σ2 5 a0) (bd (hR σ2 a0 0) fun i55 =>
  chk (isO σ2 2 i55) (bc (f_X2_rowOf i55 a2 σ2) fun r60 σ61 =>
  bd r60 fun i64 =>
  chk (isO σ61 10 i64 ∧ inb a1 (hlen σ61 i64)) (lt (hA σ61 i64 a1.toNatClampNeg) fun v69 =>
  some (v69, σ61))))
  else if a2 = (3 : Int32) then
  chk (isO σ2 5 a0) (bd (hR σ2 a0 0) fun i76 =>
  chk (isO σ2 2 i76) (bc (f_X2_lowOf i76 a1 σ2) fun r81 σ82 =>
  some (r81, σ82)))
  else if a2 = (4 : Int32) then
  chk (isO σ2 5 a0) (bd (hR σ2 a0 0) fun i90 =>
  chk (isO σ2 2 i90) (bc (f_X2_highOf i90 a1 σ2) fun r95 σ96 =>
  some (r95, σ96)))
  else some ((-1000 : Int32), σ2)))
def f_X5_parts (a0 : Nat) (a1 : Int32) (a2 : Int32) (σ : HS) : Option (Int32 × HS) :=
  chk (isO σ 5 a0) (bc (f_X5_formulaOf a0 a1 σ) fun r3 σ4 =>
  (oc r3
  (some ((-1 : Int32), σ4))
  (fun i7 =>
  (if a2 = (0 : Int32) then
  chk (isO σ4 0 i7) (lt (hA σ4 i7 0) fun v15 =>
  some (v15, σ4))
  else if a2 = (1 : Int32) then
  chk (isO σ4 0 i7) (lt (hA σ4 i7 8) fun v22 =>
  some (v22, σ4))
  else if a2 = (2 : Int32) then
  chk (isO σ4 0 i7) (lt (hA σ4 i7 9) fun v29 =>
  some (v29, σ4))
  else if a2 = (3 : Int32) then
  chk (isO σ4 0 i7) (lt (hA σ4 i7 6) fun v36 =>
  some (v36, σ4))
  else if a2 = (4 : Int32) then
  chk (isO σ4 0 i7) (lt (hA σ4 i7 7) fun v43 =>
  some (v43, σ4))
  else some ((-1 : Int32), σ4)))))
def f_X5_plan (a0 : Nat) (a1 : Int32) (a2 : Int32) (a3 : Int32) (σ : HS) : Option (Int32 × HS) :=
  (if a1 = (-1 : Int32) then
  chk (isO σ 5 a0) (bd (hR σ a0 0) fun i414 =>
  chk (isO σ 2 i414) (lt (sA σ i414 8 (0 : Int32)) fun σ419 =>
  some ((0 : Int32), σ419)))
  else
  bc (f_X5_isSource a1 σ) fun r4 σ5 =>
  (if r4 = 0 then
  some ((-1 : Int32), σ5)
  else
  (if a2 < 0 then
  some ((-1 : Int32), σ5)
  else
  (if a2 ≤ (2 : Int32) then
  (if a2 = (2 : Int32) then
  (if a3 < 0 then
  lt ((0 : Int32)) fun v121 =>
  (if v121 = 0 then
  some ((-2 : Int32), σ5)
  else
  chk (isO σ5 5 a0) (bd (hR σ5 a0 0) fun i128 =>
  chk (isO σ5 2 i128) (lt (hA σ5 i128 8) fun v133 =>
  (if v133 < (8 : Int32) then
  bd (hR σ5 i128 5) fun i141 =>
  lt (hA σ5 i128 8) fun v147 =>
  chk (isO σ5 10 i141 ∧ inb v147 (hlen σ5 i141)) (lt (sA σ5 i141 v147.toNatClampNeg a1) fun σ151 =>
  bd (hR σ151 a0 0) fun i155 =>
  chk (isO σ151 2 i155) (bd (hR σ151 i155 6) fun i160 =>
  lt (hA σ151 i155 8) fun v166 =>
  chk (isO σ151 10 i160 ∧ inb v166 (hlen σ151 i160)) (lt (sA σ151 i160 v166.toNatClampNeg a2) fun σ170 =>
  bd (hR σ170 a0 0) fun i175 =>
  chk (isO σ170 2 i175) (bd (hR σ170 i175 7) fun i180 =>
  lt (hA σ170 i175 8) fun v186 =>
  chk (isO σ170 10 i180 ∧ inb v186 (hlen σ170 i180)) (lt (sA σ170 i180 v186.toNatClampNeg a3) fun σ190 =>
  bd (hR σ190 a0 0) fun i196 =>
  chk (isO σ190 2 i196) (lt (hA σ190 i196 8) fun v201 =>
  lt (sA σ190 i196 8 (v201 + (1 : Int32))) fun σ203 =>
  bd (hR σ203 a0 0) fun i210 =>
  chk (isO σ203 2 i210) (lt (hA σ203 i210 8) fun v215 =>
  some (v215, σ203))))))))
  else
  some ((-4 : Int32), σ5)))))
  else
  (if (4 : Int32) < a3 then
  lt ((0 : Int32)) fun v220 =>
  (if v220 = 0 then
  some ((-2 : Int32), σ5)
  else
  chk (isO σ5 5 a0) (bd (hR σ5 a0 0) fun i227 =>
  chk (isO σ5 2 i227) (lt (hA σ5 i227 8) fun v232 =>
  (if v232 < (8 : Int32) then
  bd (hR σ5 i227 5) fun i240 =>
  lt (hA σ5 i227 8) fun v246 =>
  chk (isO σ5 10 i240 ∧ inb v246 (hlen σ5 i240)) (lt (sA σ5 i240 v246.toNatClampNeg a1) fun σ250 =>
  bd (hR σ250 a0 0) fun i254 =>
  chk (isO σ250 2 i254) (bd (hR σ250 i254 6) fun i259 =>
  lt (hA σ250 i254 8) fun v265 =>
  chk (isO σ250 10 i259 ∧ inb v265 (hlen σ250 i259)) (lt (sA σ250 i259 v265.toNatClampNeg a2) fun σ269 =>
  bd (hR σ269 a0 0) fun i274 =>
  chk (isO σ269 2 i274) (bd (hR σ269 i274 7) fun i279 =>
  lt (hA σ269 i274 8) fun v285 =>
  chk (isO σ269 10 i279 ∧ inb v285 (hlen σ269 i279)) (lt (sA σ269 i279 v285.toNatClampNeg a3) fun σ289 =>
  bd (hR σ289 a0 0) fun i295 =>
  chk (isO σ289 2 i295) (lt (hA σ289 i295 8) fun v300 =>
  lt (sA σ289 i295 8 (v300 + (1 : Int32))) fun σ302 =>
  bd (hR σ302 a0 0) fun i309 =>
  chk (isO σ302 2 i309) (lt (hA σ302 i309 8) fun v314 =>
  some (v314, σ302))))))))
  else
  some ((-4 : Int32), σ5)))))
  else
  lt ((1 : Int32)) fun v316 =>
  (if v316 = 0 then
  some ((-2 : Int32), σ5)
  else
  chk (isO σ5 5 a0) (bd (hR σ5 a0 0) fun i323 =>
  chk (isO σ5 2 i323) (lt (hA σ5 i323 8) fun v328 =>
  (if v328 < (8 : Int32) then
  bd (hR σ5 i323 5) fun i336 =>
  lt (hA σ5 i323 8) fun v342 =>
  chk (isO σ5 10 i336 ∧ inb v342 (hlen σ5 i336)) (lt (sA σ5 i336 v342.toNatClampNeg a1) fun σ346 =>
  bd (hR σ346 a0 0) fun i350 =>
  chk (isO σ346 2 i350) (bd (hR σ346 i350 6) fun i355 =>
  lt (hA σ346 i350 8) fun v361 =>
  chk (isO σ346 10 i355 ∧ inb v361 (hlen σ346 i355)) (lt (sA σ346 i355 v361.toNatClampNeg a2) fun σ365 =>
  bd (hR σ365 a0 0) fun i370 =>
  chk (isO σ365 2 i370) (bd (hR σ365 i370 7) fun i375 =>
  lt (hA σ365 i370 8) fun v381 =>
  chk (isO σ365 10 i375 ∧ inb v381 (hlen σ365 i375)) (lt (sA σ365 i375 v381.toNatClampNeg a3) fun σ385 =>
  bd (hR σ385 a0 0) fun i391 =>
  chk (isO σ385 2 i391) (lt (hA σ385 i391 8) fun v396 =>
  lt (sA σ385 i391 8 (v396 + (1 : Int32))) fun σ398 =>
  bd (hR σ398 a0 0) fun i405 =>
  chk (isO σ398 2 i405) (lt (hA σ398 i405 8) fun v410 =>
  some (v410, σ398))))))))
  else
  some ((-4 : Int32), σ5)))))))
  else
  bc (f_X5_mayBecome a2 a3 σ5) fun r20 σ21 =>
  (if r20 = 0 then
  some ((-2 : Int32), σ21)
  else
  chk (isO σ21 5 a0) (bd (hR σ21 a0 0) fun i29 =>
  chk (isO σ21 2 i29) (lt (hA σ21 i29 8) fun v34 =>
  (if v34 < (8 : Int32) then
  bd (hR σ21 i29 5) fun i42 =>
  lt (hA σ21 i29 8) fun v48 =>
  chk (isO σ21 10 i42 ∧ inb v48 (hlen σ21 i42)) (lt (sA σ21 i42 v48.toNatClampNeg a1) fun σ52 =>
  bd (hR σ52 a0 0) fun i56 =>
  chk (isO σ52 2 i56) (bd (hR σ52 i56 6) fun i61 =>
  lt (hA σ52 i56 8) fun v67 =>
  chk (isO σ52 10 i61 ∧ inb v67 (hlen σ52 i61)) (lt (sA σ52 i61 v67.toNatClampNeg a2) fun σ71 =>
  bd (hR σ71 a0 0) fun i76 =>
  chk (isO σ71 2 i76) (bd (hR σ71 i76 7) fun i81 =>
  lt (hA σ71 i76 8) fun v87 =>
  chk (isO σ71 10 i81 ∧ inb v87 (hlen σ71 i81)) (lt (sA σ71 i81 v87.toNatClampNeg a3) fun σ91 =>
  bd (hR σ91 a0 0) fun i97 =>
  chk (isO σ91 2 i97) (lt (hA σ91 i97 8) fun v102 =>
  lt (sA σ91 i97 8 (v102 + (1 : Int32))) fun σ104 =>
  bd (hR σ104 a0 0) fun i111 =>
  chk (isO σ104 2 i111) (lt (hA σ104 i111 8) fun v116 =>
  some (v116, σ104))))))))
  else
  some ((-4 : Int32), σ21))))))
  else
  some ((-1 : Int32), σ5)))))
def f_X5_put (a0 : Nat) (a1 : Int32) (a2 : Int32) (a3 : Int64) (σ : HS) : Option (Int32 × HS) :=
  bc (f_X5_isList a1 σ) fun r1 σ2 =>
  (if r1 = 0 then
  some ((-1 : Int32), σ2)
  else
  chk (isO σ2 5 a0) (bd (hR σ2 a0 6) fun i10 =>
  chk (isO σ2 10 i10 ∧ inb a1 (hlen σ2 i10)) (lt (hA σ2 i10 a1.toNatClampNeg) fun v15 =>
  (if v15 = (-11 : Int32) then
  some ((-11 : Int32), σ2)
  else
  (if a2 < 0 then
  some ((-13 : Int32), σ2)
  else
  chk (isO σ2 10 i10 ∧ inb a1 (hlen σ2 i10)) (lt (hA σ2 i10 a1.toNatClampNeg) fun v28 =>
  (if a2 < v28 then
  bd (hR σ2 a0 5) fun i33 =>
  chk (isO σ2 14 i33 ∧ inb a1 (hlen σ2 i33)) (lt (hR σ2 i33 a1.toNatClampNeg) fun o38 =>
  bd o38 fun i40 =>
  chk (isO σ2 12 i40 ∧ inb a2 (hlen σ2 i40)) (lt (sB σ2 i40 a2.toNatClampNeg a3) fun σ45 =>
  some ((1 : Int32), σ45)))
  else
  some ((-13 : Int32), σ2))))))))
def f_X5_rises (a0 : Nat) (a1 : Int32) (a2 : Int32) (σ : HS) : Option (Int32 × HS) :=
  chk (isO σ 5 a0) (bc (f_X5_formulaOf a0 a1 σ) fun r3 σ4 =>
  (oc r3
  (some ((-1 : Int32), σ4))
  (fun i7 =>
  bc (f_X5_isSource a2 σ4) fun r10 σ11 =>
  (if r10 = 0 then
  some ((-1 : Int32), σ11)
  else
  chk (isO σ11 5 a0) (bc (f_X5_carryAsItIs a0 i7 σ11) fun r19 σ20 =>
  chk (isO σ20 5 a0) (bd (hR σ20 a0 4) fun i25 =>
  chk (isO σ20 4 i25) (lt (hA σ20 i25 2) fun v30 =>
  (if v30 = 0 then
  bc (f_X4_changeBy i25 i7 a2 σ20) fun r38 σ39 =>
  some (r38, σ39)
  else
  some ((-6 : Int32), σ20)))))))))
def f_X5_set (a0 : Nat) (a1 : Int32) (a2 : Int32) (a3 : Int32) (σ : HS) : Option (Int32 × HS) :=
  bc (f_X5_isSource a1 σ) fun r1 σ2 =>
  (if r1 = 0 then
  some ((-1000 : Int32), σ2)
  else
  (if a2 < 0 then
  some ((-1000 : Int32), σ2)
  else
  (if a2 ≤ (2 : Int32) then
  bc (f_X5_mayBecome a2 a3 σ2) fun r14 σ15 =>
  (if r14 = 0 then
  some ((-1001 : Int32), σ15)
  else
  chk (isO σ15 5 a0) (bd (hR σ15 a0 0) fun i23 =>
  chk (isO σ15 2 i23) (bc (f_X2_rowOf i23 a2 σ15) fun r28 σ29 =>
  bd r28 fun i32 =>
  chk (isO σ29 10 i32 ∧ inb a1 (hlen σ29 i32)) (lt (hA σ29 i32 a1.toNatClampNeg) fun v37 =>
  chk (isO σ29 10 i32 ∧ inb a1 (hlen σ29 i32)) (lt (sA σ29 i32 a1.toNatClampNeg a3) fun σ41 =>
  some (v37, σ41))))))
  else
  some ((-1000 : Int32), σ2))))
def f_X5_span (a0 : Nat) (a1 : Int32) (a2 : Int32) (σ : HS) : Option (Int64 × HS) :=
  chk (isO σ 5 a0) (bc (f_X5_formulaOf a0 a1 σ) fun r3 σ4 =>
  (oc r3
  (some ((-9223372036854775808 : Int64), σ4))
  (fun i7 =>
  (if a2 < 0 then
  some ((-9223372036854775808 : Int64), σ4)
  else
  (if a2 ≤ (2 : Int32) then
  chk (isO σ4 5 a0) (bc (f_X5_carryAsItIs a0 i7 σ4) fun r18 σ19 =>
  chk (isO σ19 5 a0) (bd (hR σ19 a0 4) fun i24 =>
  chk (isO σ19 4 i24) (lt (hA σ19 i24 2) fun v29 =>
  (if v29 = 0 then
  bc (f_X4_told i24 a2 σ19) fun r37 σ38 =>
  some (r37, σ38)
  else
  bc (f_X5_keepWay a0 i7 σ19) fun r41 σ42 =>
  chk (isO σ42 5 a0) (bd (hR σ42 a0 4) fun i47 =>
  chk (isO σ42 4 i47) (bc (f_X4_told i47 a2 σ42) fun r52 σ53 =>
  some (r52, σ53)))))))
  else
  some ((-9223372036854775808 : Int64), σ4))))))
def f_X5_split (a0 : Nat) (a1 : Int32) (a2 : Int32) (a3 : Int32) (a4 : Int32) (σ : HS) : Option (Int64 × HS) :=
  chk (isO σ 5 a0) (bc (f_X5_formulaOf a0 a1 σ) fun r3 σ4 =>
  (oc r3
  (some ((-9223372036854775808 : Int64), σ4))
  (fun i7 =>
  bc (f_X5_isSource a2 σ4) fun r10 σ11 =>
  (if r10 = 0 then
  some ((-9223372036854775808 : Int64), σ11)
  else
  (if a4 < 0 then
  some ((-9223372036854775808 : Int64), σ11)
  else
  (if a4 ≤ (2 : Int32) then
  chk (isO σ11 5 a0) (bd (hR σ11 a0 0) fun i25 =>
  chk (isO σ11 2 i25) (bc (f_X2_lowOf i25 a2 σ11) fun r30 σ31 =>
  (if a3 < r30 then
  some ((-9223372036854775808 : Int64), σ31)
  else
  chk (isO σ31 5 a0) (bd (hR σ31 a0 0) fun i39 =>
  chk (isO σ31 2 i39) (bc (f_X2_highOf i39 a2 σ31) fun r44 σ45 =>
  (if a3 ≤ r44 then
  chk (isO σ45 5 a0) (bc (f_X5_carryAsItIs a0 i7 σ45) fun r53 σ54 =>
  chk (isO σ54 5 a0) (bd (hR σ54 a0 4) fun i59 =>
  chk (isO σ54 4 i59) (lt (hA σ54 i59 2) fun v64 =>
  (if v64 = 0 then
  bc (f_X5_carrySplit a0 i7 a2 a3 σ54) fun r69 σ70 =>
  chk (isO σ70 5 a0) (bd (hR σ70 a0 4) fun i75 =>
  chk (isO σ70 4 i75) (bc (f_X4_told i75 a4 σ70) fun r80 σ81 =>
  some (r80, σ81)))
  else
  some ((-9223372036854775807 : Int64), σ54)))))
  else
  some ((-9223372036854775808 : Int64), σ45)))))))
  else
  some ((-9223372036854775808 : Int64), σ11)))))))
def lp_X5_tight_67_b  (K67 : Nat → Int32 → Int32 → Nat → Int32 → Int32 → Int32 → HS → Option (Int64 × HS)) (x0 : Nat) (x1 : Int32) (x2 : Int32) (x3 : Nat) (x4 : Int32) (x5 : Int32) (x6 : Int32) (τ : HS) : Option (Int64 × HS) :=
  (if (6 : Int32) ≤ x6 then
  chk (isO τ 5 x0) (bd (hR τ x0 4) fun i51 =>
  chk (isO τ 4 i51) (bc (f_X4_carry i51 x3 τ) fun r56 σ57 =>
  chk (isO σ57 5 x0) (bd (hR σ57 x0 4) fun i62 =>
  chk (isO σ57 4 i62) (bc (f_X4_told i62 x2 σ57) fun r67 σ68 =>
  some (r67, σ68)))))
  else
  chk (isO τ 5 x0) (bd (hR τ x0 4) fun i73 =>
  chk (isO τ 4 i73) (bc (f_X4_changeBy i73 x3 x6 τ) fun r78 σ79 =>
  (if r78 = x4 then
  chk (isO σ79 5 x0) (bd (hR σ79 x0 4) fun i125 =>
  bd (hR σ79 x0 0) fun i128 =>
  chk (isO σ79 2 i128) (bc (f_X2_lowOf i128 x6 σ79) fun r133 σ134 =>
  chk (isO σ134 5 x0) (bd (hR σ134 x0 0) fun i139 =>
  chk (isO σ134 2 i139) (bc (f_X2_lowOf i139 x6 σ134) fun r144 σ145 =>
  chk (isO σ145 4 i125) (bc (f_X4_stand i125 x6 r133 r144 σ145) fun r150 σ151 =>
  lt (x6 + (1 : Int32)) fun v154 =>
  K67 x0 x1 x2 x3 x4 x5 v154 σ151)))))
  else
  (if r78 = x5 then
  chk (isO σ79 5 x0) (bd (hR σ79 x0 4) fun i92 =>
  bd (hR σ79 x0 0) fun i95 =>
  chk (isO σ79 2 i95) (bc (f_X2_highOf i95 x6 σ79) fun r100 σ101 =>
  chk (isO σ101 5 x0) (bd (hR σ101 x0 0) fun i106 =>
  chk (isO σ101 2 i106) (bc (f_X2_highOf i106 x6 σ101) fun r111 σ112 =>
  chk (isO σ112 4 i92) (bc (f_X4_stand i92 x6 r100 r111 σ112) fun r117 σ118 =>
  lt (x6 + (1 : Int32)) fun v121 =>
  K67 x0 x1 x2 x3 x4 x5 v121 σ118)))))
  else
  lt (x6 + (1 : Int32)) fun v88 =>
  K67 x0 x1 x2 x3 x4 x5 v88 σ79)))))
def lp_X5_tight_67  : Nat → Nat → Int32 → Int32 → Nat → Int32 → Int32 → Int32 → HS → Option (Int64 × HS)
  | 0 => fun _ _ _ _ _ _ _ _ => none
  | n + 1 => lp_X5_tight_67_b  (lp_X5_tight_67  n)
def f_X5_tight (a0 : Nat) (a1 : Int32) (a2 : Int32) (σ : HS) : Option (Int64 × HS) :=
  chk (isO σ 5 a0) (bc (f_X5_formulaOf a0 a1 σ) fun r3 σ4 =>
  (oc r3
  (some ((-9223372036854775808 : Int64), σ4))
  (fun i7 =>
  (if a2 < 0 then
  some ((-9223372036854775808 : Int64), σ4)
  else
  (if a2 ≤ (1 : Int32) then
  chk (isO σ4 5 a0) (bc (f_X5_carryAsItIs a0 i7 σ4) fun r18 σ19 =>
  chk (isO σ19 5 a0) (bd (hR σ19 a0 4) fun i24 =>
  chk (isO σ19 4 i24) (lt (hA σ19 i24 2) fun v29 =>
  (if v29 = 0 then
  (if a2 = 0 then
  lt ((1 : Int32)) fun v160 =>
  (if a2 = 0 then
  lt ((2 : Int32)) fun v169 =>
  lt ((0 : Int32)) fun v171 =>
  lp_X5_tight_67  1000 a0 a1 a2 i7 v160 v169 v171 σ19
  else
  lt ((1 : Int32)) fun v165 =>
  lt ((0 : Int32)) fun v167 =>
  lp_X5_tight_67  1000 a0 a1 a2 i7 v160 v165 v167 σ19)
  else
  lt ((2 : Int32)) fun v37 =>
  (if a2 = 0 then
  lt ((2 : Int32)) fun v156 =>
  lt ((0 : Int32)) fun v158 =>
  lp_X5_tight_67  1000 a0 a1 a2 i7 v37 v156 v158 σ19
  else
  lt ((1 : Int32)) fun v42 =>
  lt ((0 : Int32)) fun v44 =>
  lp_X5_tight_67  1000 a0 a1 a2 i7 v37 v42 v44 σ19))
  else
  some ((-9223372036854775807 : Int64), σ19)))))
  else
  some ((-9223372036854775808 : Int64), σ4))))))
def f_X5_undo (a0 : Nat) (σ : HS) : Option (Int32 × HS) :=
  chk (isO σ 5 a0) (lt (hA σ a0 2) fun v3 =>
  (if v3 = 0 then
  some ((-3 : Int32), σ)
  else
  bd (hR σ a0 0) fun i8 =>
  bd (hR σ a0 1) fun i11 =>
  chk (isO σ 2 i8) (bc (f_X2_becomeLike i8 i11 σ) fun r16 σ17 =>
  chk (isO σ17 5 a0) (bd (hR σ17 a0 0) fun i22 =>
  chk (isO σ17 2 i22) (lt (hA σ17 i22 4) fun v27 =>
  some (v27, σ17))))))
def f_X5_way (a0 : Nat) (a1 : Int32) (σ : HS) : Option (Int32 × HS) :=
  (if a1 = (-1 : Int32) then
  chk (isO σ 5 a0) (lt (hA σ a0 8) fun v25 =>
  some (v25, σ))
  else
  (if a1 < 0 then
  some ((-1 : Int32), σ)
  else
  chk (isO σ 5 a0) (lt (hA σ a0 8) fun v9 =>
  (if a1 < v9 then
  bd (hR σ a0 7) fun i14 =>
  lt (hA σ a0 8) fun v17 =>
  chk (isO σ 10 i14 ∧ inb ((v17 - (1 : Int32)) - a1) (hlen σ i14)) (lt (hA σ i14 (((v17 - (1 : Int32)) - a1)).toNatClampNeg) fun v21 =>
  some (v21, σ))
  else
  some ((-1 : Int32), σ)))))
def lp_X5_widest_39_b  (K39 : Nat → Int32 → Nat → Int32 → Int64 → Int32 → HS → Option (Int32 × HS)) (x0 : Nat) (x1 : Int32) (x2 : Nat) (x3 : Int32) (x4 : Int64) (x6 : Int32) (τ : HS) : Option (Int32 × HS) :=
  (if (6 : Int32) ≤ x6 then
  some (x3, τ)
  else
  chk (isO τ 5 x0) (bd (hR τ x0 0) fun i41 =>
  chk (isO τ 2 i41) (bd (hR τ i41 1) fun i46 =>
  chk (isO τ 10 i46 ∧ inb x6 (hlen τ i46)) (lt (hA τ i46 x6.toNatClampNeg) fun v51 =>
  (if v51 = 0 then
  lt (x6 + (1 : Int32)) fun v140 =>
  K39 x0 x1 x2 x3 x4 v140 τ
  else
  bd (hR τ x0 4) fun i56 =>
  chk (isO τ 4 i56) (bc (f_X4_standAs i56 i41 τ) fun r64 σ65 =>
  chk (isO σ65 5 x0) (bd (hR σ65 x0 4) fun i70 =>
  bd (hR σ65 x0 0) fun i73 =>
  chk (isO σ65 2 i73) (bd (hR σ65 i73 0) fun i78 =>
  chk (isO σ65 10 i78 ∧ inb x6 (hlen σ65 i78)) (lt (hA σ65 i78 x6.toNatClampNeg) fun v83 =>
  chk (isO σ65 10 i78 ∧ inb x6 (hlen σ65 i78)) (lt (hA σ65 i78 x6.toNatClampNeg) fun v93 =>
  chk (isO σ65 4 i70) (bc (f_X4_stand i70 x6 v83 v93 σ65) fun r97 σ98 =>
  chk (isO σ98 5 x0) (bd (hR σ98 x0 4) fun i103 =>
  chk (isO σ98 4 i103) (bc (f_X4_carry i103 x2 σ98) fun r108 σ109 =>
  chk (isO σ109 5 x0) (bd (hR σ109 x0 4) fun i114 =>
  chk (isO σ109 4 i114) (lt (hB σ109 i114 4) fun v119 =>
  lt (hB σ109 i114 3) fun v124 =>
  lt ((v119 - v124)) fun v126 =>
  (if x3 = (-5 : Int32) then
  lt (x6 + (1 : Int32)) fun v131 =>
  K39 x0 x1 x2 x6 v126 v131 σ109
  else
  (if 0 ≤ (lg_cmp v126 x4) then
  lt (x6 + (1 : Int32)) fun v136 =>
  K39 x0 x1 x2 x3 x4 v136 σ109
  else
  lt (x6 + (1 : Int32)) fun v138 =>
  K39 x0 x1 x2 x6 v126 v138 σ109)))))))))))))))))
def lp_X5_widest_39  : Nat → Nat → Int32 → Nat → Int32 → Int64 → Int32 → HS → Option (Int32 × HS)
  | 0 => fun _ _ _ _ _ _ _ => none
  | n + 1 => lp_X5_widest_39_b  (lp_X5_widest_39  n)
def f_X5_widest (a0 : Nat) (a1 : Int32) (σ : HS) : Option (Int32 × HS) :=
  chk (isO σ 5 a0) (bc (f_X5_formulaOf a0 a1 σ) fun r3 σ4 =>
  (oc r3
  (some ((-1 : Int32), σ4))
  (fun i7 =>
  chk (isO σ4 5 a0) (bc (f_X5_carryAsItIs a0 i7 σ4) fun r12 σ13 =>
  chk (isO σ13 5 a0) (bd (hR σ13 a0 4) fun i18 =>
  chk (isO σ13 4 i18) (bc (f_X4_hasWidth i18 σ13) fun r23 σ24 =>
  (if r23 = 0 then
  some ((-6 : Int32), σ24)
  else
  lt ((-5 : Int32)) fun v30 =>
  lt ((0 : Int64)) fun v32 =>
  lt ((0 : Int32)) fun v34 =>
  lp_X5_widest_39  1000 a0 a1 i7 v30 v32 v34 σ24)))))))
def f_X6_isIn (a0 : Int64) (a2 : Int64) (a4 : Int64) (σ : HS) : Option (Int32 × HS) :=
  (if (lg_cmp a0 a2) < 0 then
  some ((0 : Int32), σ)
  else
  (if 0 < (lg_cmp a0 a4) then
  some ((0 : Int32), σ)
  else
  some ((1 : Int32), σ)))
def f_X6_isFormula (a0 : Nat) (a1 : Int32) (σ : HS) : Option (Int32 × HS) :=
  chk (isO σ 6 a0) (lt (hA σ a0 7) fun v3 =>
  bc (f_X6_isIn (a1).toInt64 (0 : Int64) ((v3 - (1 : Int32))).toInt64 σ) fun r5 σ6 =>
  chk (bit r5) (some (r5, σ6)))
def f_X6_valueOf (a0 : Nat) (a1 : Int32) (σ : HS) : Option (Int32 × HS) :=
  chk (isO σ 6 a0) (bd (hR σ a0 0) fun i3 =>
  chk (isO σ 10 i3 ∧ inb ((3 : Int32) * a1) (hlen σ i3)) (lt (hA σ i3 (((3 : Int32) * a1)).toNatClampNeg) fun v8 =>
  some (v8, σ)))
def f_X6_spanOf (a0 : Nat) (a1 : Int32) (σ : HS) : Option (Int32 × HS) :=
  chk (isO σ 6 a0) (bd (hR σ a0 0) fun i3 =>
  chk (isO σ 10 i3 ∧ inb (((3 : Int32) * a1) + (1 : Int32)) (hlen σ i3)) (lt (hA σ i3 ((((3 : Int32) * a1) + (1 : Int32))).toNatClampNeg) fun v8 =>
  some (v8, σ)))
def f_X6_lays (a0 : Nat) (a1 : Int32) (a2 : Int32) (a3 : Int32) (σ : HS) : Option (Unit × HS) :=
  chk (isO σ 6 a0) (bd (hR σ a0 21) fun i3 =>
  chk (isO σ 10 i3 ∧ inb a1 (hlen σ i3)) (lt (sA σ i3 a1.toNatClampNeg a2) fun σ8 =>
  bd (hR σ8 a0 22) fun i11 =>
  chk (isO σ8 10 i11 ∧ inb a1 (hlen σ8 i11)) (lt (sA σ8 i11 a1.toNatClampNeg a3) fun σ16 =>
  some ((), σ16))))
def lp_X6_laysBox_2_b  (K2 : Nat → Int32 → HS → Option (Unit × HS)) (x0 : Nat) (x1 : Int32) (τ : HS) : Option (Unit × HS) :=
  (if (6 : Int32) ≤ x1 then
  some ((), τ)
  else
  chk (isO τ 6 x0) (bc (f_X6_valueOf x0 x1 τ) fun r8 σ9 =>
  chk (isO σ9 6 x0) (bc (f_X6_spanOf x0 x1 σ9) fun r14 σ15 =>
  chk (isO σ15 6 x0) (bc (f_X6_valueOf x0 x1 σ15) fun r20 σ21 =>
  chk (isO σ21 6 x0) (bc (f_X6_spanOf x0 x1 σ21) fun r26 σ27 =>
  chk (isO σ27 6 x0) (bc (f_X6_lays x0 x1 (r8 - r14) (r20 + r26) σ27) fun r32 σ33 =>
  lt (x1 + (1 : Int32)) fun v36 =>
  K2 x0 v36 σ33))))))
def lp_X6_laysBox_2  : Nat → Nat → Int32 → HS → Option (Unit × HS)
  | 0 => fun _ _ _ => none
  | n + 1 => lp_X6_laysBox_2_b  (lp_X6_laysBox_2  n)
def f_X6_laysBox (a0 : Nat) (σ : HS) : Option (Unit × HS) :=
  lt ((0 : Int32)) fun v1 =>
  lp_X6_laysBox_2  1000 a0 v1 σ
def f_X6_at (a0 : Int32) (a1 : Int32) (σ : HS) : Option (Int32 × HS) :=
  some ((((60 : Int32) * a0) + a1), σ)
def f_X6_less (a0 : Nat) (a1 : Int64) (a3 : Int64) (σ : HS) : Option (Int64 × HS) :=
  lt ((a1 - a3)) fun v1 =>
  chk (isO σ 6 a0) (lt (hA σ a0 20) fun v5 =>
  (if (lg_cmp a1 (0 : Int64)) < 0 then
  (if 0 ≤ (lg_cmp a1 (0 : Int64)) then
  chk (bit (v5 ||| (0 : Int32))) (lt (sA σ a0 20 (v5 ||| (0 : Int32))) fun σ13 =>
  some (v1, σ13))
  else
  (if (lg_cmp a3 (0 : Int64)) < 0 then
  chk (bit (v5 ||| (0 : Int32))) (lt (sA σ a0 20 (v5 ||| (0 : Int32))) fun σ21 =>
  some (v1, σ21))
  else
  (if (lg_cmp v1 (0 : Int64)) < 0 then
  chk (bit (v5 ||| (0 : Int32))) (lt (sA σ a0 20 (v5 ||| (0 : Int32))) fun σ29 =>
  some (v1, σ29))
  else
  chk (bit (v5 ||| (1 : Int32))) (lt (sA σ a0 20 (v5 ||| (1 : Int32))) fun σ34 =>
  some (v1, σ34)))))
  else
  (if 0 ≤ (lg_cmp a3 (0 : Int64)) then
  (if 0 ≤ (lg_cmp a1 (0 : Int64)) then
  chk (bit (v5 ||| (0 : Int32))) (lt (sA σ a0 20 (v5 ||| (0 : Int32))) fun σ45 =>
  some (v1, σ45))
  else
  (if (lg_cmp a3 (0 : Int64)) < 0 then
  chk (bit (v5 ||| (0 : Int32))) (lt (sA σ a0 20 (v5 ||| (0 : Int32))) fun σ53 =>
  some (v1, σ53))
  else
  (if (lg_cmp v1 (0 : Int64)) < 0 then
  chk (bit (v5 ||| (0 : Int32))) (lt (sA σ a0 20 (v5 ||| (0 : Int32))) fun σ61 =>
  some (v1, σ61))
  else
  chk (bit (v5 ||| (1 : Int32))) (lt (sA σ a0 20 (v5 ||| (1 : Int32))) fun σ66 =>
  some (v1, σ66)))))
  else
  (if (lg_cmp v1 (0 : Int64)) < 0 then
  chk (bit (v5 ||| (1 : Int32))) (lt (sA σ a0 20 (v5 ||| (1 : Int32))) fun σ74 =>
  some (v1, σ74))
  else
  (if 0 ≤ (lg_cmp a1 (0 : Int64)) then
  chk (bit (v5 ||| (0 : Int32))) (lt (sA σ a0 20 (v5 ||| (0 : Int32))) fun σ82 =>
  some (v1, σ82))
  else
  (if (lg_cmp a3 (0 : Int64)) < 0 then
  chk (bit (v5 ||| (0 : Int32))) (lt (sA σ a0 20 (v5 ||| (0 : Int32))) fun σ90 =>
  some (v1, σ90))
  else
  (if (lg_cmp v1 (0 : Int64)) < 0 then
  chk (bit (v5 ||| (0 : Int32))) (lt (sA σ a0 20 (v5 ||| (0 : Int32))) fun σ98 =>
  some (v1, σ98))
  else
  chk (bit (v5 ||| (1 : Int32))) (lt (sA σ a0 20 (v5 ||| (1 : Int32))) fun σ103 =>
  some (v1, σ103)))))))))
def f_X6_sum (a0 : Nat) (a1 : Int64) (a3 : Int64) (σ : HS) : Option (Int64 × HS) :=
  lt ((a1 + a3)) fun v1 =>
  chk (isO σ 6 a0) (lt (hA σ a0 20) fun v5 =>
  (if (lg_cmp a1 (0 : Int64)) < 0 then
  (if 0 ≤ (lg_cmp a1 (0 : Int64)) then
  chk (bit (v5 ||| (0 : Int32))) (lt (sA σ a0 20 (v5 ||| (0 : Int32))) fun σ13 =>
  some (v1, σ13))
  else
  (if 0 ≤ (lg_cmp a3 (0 : Int64)) then
  chk (bit (v5 ||| (0 : Int32))) (lt (sA σ a0 20 (v5 ||| (0 : Int32))) fun σ21 =>
  some (v1, σ21))
  else
  (if (lg_cmp v1 (0 : Int64)) < 0 then
  chk (bit (v5 ||| (0 : Int32))) (lt (sA σ a0 20 (v5 ||| (0 : Int32))) fun σ29 =>
  some (v1, σ29))
  else
  chk (bit (v5 ||| (1 : Int32))) (lt (sA σ a0 20 (v5 ||| (1 : Int32))) fun σ34 =>
  some (v1, σ34)))))
  else
  (if (lg_cmp a3 (0 : Int64)) < 0 then
  (if 0 ≤ (lg_cmp a1 (0 : Int64)) then
  chk (bit (v5 ||| (0 : Int32))) (lt (sA σ a0 20 (v5 ||| (0 : Int32))) fun σ45 =>
  some (v1, σ45))
  else
  (if 0 ≤ (lg_cmp a3 (0 : Int64)) then
  chk (bit (v5 ||| (0 : Int32))) (lt (sA σ a0 20 (v5 ||| (0 : Int32))) fun σ53 =>
  some (v1, σ53))
  else
  (if (lg_cmp v1 (0 : Int64)) < 0 then
  chk (bit (v5 ||| (0 : Int32))) (lt (sA σ a0 20 (v5 ||| (0 : Int32))) fun σ61 =>
  some (v1, σ61))
  else
  chk (bit (v5 ||| (1 : Int32))) (lt (sA σ a0 20 (v5 ||| (1 : Int32))) fun σ66 =>
  some (v1, σ66)))))
  else
  (if (lg_cmp v1 (0 : Int64)) < 0 then
  chk (bit (v5 ||| (1 : Int32))) (lt (sA σ a0 20 (v5 ||| (1 : Int32))) fun σ74 =>
  some (v1, σ74))
  else
  (if 0 ≤ (lg_cmp a1 (0 : Int64)) then
  chk (bit (v5 ||| (0 : Int32))) (lt (sA σ a0 20 (v5 ||| (0 : Int32))) fun σ82 =>
  some (v1, σ82))
  else
  (if 0 ≤ (lg_cmp a3 (0 : Int64)) then
  chk (bit (v5 ||| (0 : Int32))) (lt (sA σ a0 20 (v5 ||| (0 : Int32))) fun σ90 =>
  some (v1, σ90))
  else
  (if (lg_cmp v1 (0 : Int64)) < 0 then
  chk (bit (v5 ||| (0 : Int32))) (lt (sA σ a0 20 (v5 ||| (0 : Int32))) fun σ98 =>
  some (v1, σ98))
  else
  chk (bit (v5 ||| (1 : Int32))) (lt (sA σ a0 20 (v5 ||| (1 : Int32))) fun σ103 =>
  some (v1, σ103)))))))))
def f_X6_product (a0 : Nat) (a1 : Int64) (a3 : Int64) (σ : HS) : Option (Int64 × HS) :=
  lt ((a1 * a3)) fun v1 =>
  chk (isO σ 6 a0) (lt (hA σ a0 20) fun v5 =>
  (if (lg_cmp a1 (0 : Int64)) = 0 then
  chk (bit (v5 ||| (0 : Int32))) (lt (sA σ a0 20 (v5 ||| (0 : Int32))) fun σ10 =>
  some (v1, σ10))
  else
  chk (¬ a1 = 0) ((if (lg_cmp (v1 / a1) a3) = 0 then
  (if (lg_cmp a1 (-1 : Int64)) = 0 then
  (if (lg_cmp a3 (-9223372036854775808 : Int64)) = 0 then
  chk (bit (v5 ||| (1 : Int32))) (lt (sA σ a0 20 (v5 ||| (1 : Int32))) fun σ41 =>
  some (v1, σ41))
  else
  chk (bit (v5 ||| (0 : Int32))) (lt (sA σ a0 20 (v5 ||| (0 : Int32))) fun σ36 =>
  some (v1, σ36)))
  else
  chk (bit (v5 ||| (0 : Int32))) (lt (sA σ a0 20 (v5 ||| (0 : Int32))) fun σ28 =>
  some (v1, σ28)))
  else
  chk (bit (v5 ||| (1 : Int32))) (lt (sA σ a0 20 (v5 ||| (1 : Int32))) fun σ20 =>
  some (v1, σ20))))))
def f_X6_products_ (a0 : Nat) (a1 : Int64) (a3 : Int64) (a5 : Int64) (a7 : Int64) (σ : HS) : Option (Unit × HS) :=
  chk (isO σ 6 a0) (bc (f_X6_product a0 a1 a5 σ) fun r3 σ4 =>
  chk (isO σ4 6 a0) (bc (f_X6_product a0 a1 a7 σ4) fun r9 σ10 =>
  chk (isO σ10 6 a0) (bc (f_X6_product a0 a3 a5 σ10) fun r15 σ16 =>
  chk (isO σ16 6 a0) (bc (f_X6_product a0 a3 a7 σ16) fun r21 σ22 =>
  lt (if r9 < r3 then r9 else r3) fun v25 =>
  lt (if r21 < r15 then r21 else r15) fun v27 =>
  lt (if v27 < v25 then v27 else v25) fun v29 =>
  chk (isO σ22 6 a0) (lt (sB σ22 a0 26 v29) fun σ33 =>
  lt (if r9 < r3 then r3 else r9) fun v36 =>
  lt (if r21 < r15 then r15 else r21) fun v38 =>
  lt (if v38 < v36 then v36 else v38) fun v40 =>
  lt (sB σ33 a0 27 v40) fun σ42 =>
  some ((), σ42))))))
def f_X6_joins (a0 : Nat) (a1 : Int32) (a2 : Int32) (a3 : Int32) (a4 : Int32) (σ : HS) : Option (Unit × HS) :=
  (if a1 = (2 : Int32) then
  chk (isO σ 6 a0) (bd (hR σ a0 23) fun i6 =>
  bd (hR σ a0 24) fun i9 =>
  chk (isO σ 12 i9 ∧ inb a3 (hlen σ i9)) (lt (hB σ i9 a3.toNatClampNeg) fun v14 =>
  bc (f_X6_less a0 (0 : Int64) v14 σ) fun r16 σ17 =>
  chk (isO σ17 12 i6 ∧ inb a2 (hlen σ17 i6)) (lt (sB σ17 i6 a2.toNatClampNeg r16) fun σ22 =>
  chk (isO σ22 6 a0) (bd (hR σ22 a0 24) fun i26 =>
  bd (hR σ22 a0 23) fun i29 =>
  chk (isO σ22 12 i29 ∧ inb a3 (hlen σ22 i29)) (lt (hB σ22 i29 a3.toNatClampNeg) fun v34 =>
  bc (f_X6_less a0 (0 : Int64) v34 σ22) fun r36 σ37 =>
  chk (isO σ37 12 i26 ∧ inb a2 (hlen σ37 i26)) (lt (sB σ37 i26 a2.toNatClampNeg r36) fun σ42 =>
  some ((), σ42)))))))
  else if a1 = (3 : Int32) then
  chk (isO σ 6 a0) (bd (hR σ a0 23) fun i49 =>
  chk (isO σ 12 i49 ∧ inb a3 (hlen σ i49)) (lt (hB σ i49 a3.toNatClampNeg) fun v57 =>
  chk (isO σ 12 i49 ∧ inb a4 (hlen σ i49)) (lt (hB σ i49 a4.toNatClampNeg) fun v64 =>
  bc (f_X6_sum a0 v57 v64 σ) fun r66 σ67 =>
  chk (isO σ67 12 i49 ∧ inb a2 (hlen σ67 i49)) (lt (sB σ67 i49 a2.toNatClampNeg r66) fun σ72 =>
  chk (isO σ72 6 a0) (bd (hR σ72 a0 24) fun i76 =>
  chk (isO σ72 12 i76 ∧ inb a3 (hlen σ72 i76)) (lt (hB σ72 i76 a3.toNatClampNeg) fun v84 =>
  chk (isO σ72 12 i76 ∧ inb a4 (hlen σ72 i76)) (lt (hB σ72 i76 a4.toNatClampNeg) fun v91 =>
  bc (f_X6_sum a0 v84 v91 σ72) fun r93 σ94 =>
  chk (isO σ94 12 i76 ∧ inb a2 (hlen σ94 i76)) (lt (sB σ94 i76 a2.toNatClampNeg r93) fun σ99 =>
  some ((), σ99)))))))))
  else if a1 = (4 : Int32) then
  chk (isO σ 6 a0) (bd (hR σ a0 23) fun i106 =>
  chk (isO σ 12 i106 ∧ inb a3 (hlen σ i106)) (lt (hB σ i106 a3.toNatClampNeg) fun v114 =>
  bd (hR σ a0 24) fun i116 =>
  chk (isO σ 12 i116 ∧ inb a4 (hlen σ i116)) (lt (hB σ i116 a4.toNatClampNeg) fun v121 =>
  bc (f_X6_less a0 v114 v121 σ) fun r123 σ124 =>
  chk (isO σ124 12 i106 ∧ inb a2 (hlen σ124 i106)) (lt (sB σ124 i106 a2.toNatClampNeg r123) fun σ129 =>
  chk (isO σ129 6 a0) (bd (hR σ129 a0 24) fun i133 =>
  chk (isO σ129 12 i133 ∧ inb a3 (hlen σ129 i133)) (lt (hB σ129 i133 a3.toNatClampNeg) fun v141 =>
  bd (hR σ129 a0 23) fun i143 =>
  chk (isO σ129 12 i143 ∧ inb a4 (hlen σ129 i143)) (lt (hB σ129 i143 a4.toNatClampNeg) fun v148 =>
  bc (f_X6_less a0 v141 v148 σ129) fun r150 σ151 =>
  chk (isO σ151 12 i133 ∧ inb a2 (hlen σ151 i133)) (lt (sB σ151 i133 a2.toNatClampNeg r150) fun σ156 =>
  some ((), σ156)))))))))
  else chk (isO σ 6 a0) (bd (hR σ a0 23) fun i160 =>
  chk (isO σ 12 i160 ∧ inb a3 (hlen σ i160)) (lt (hB σ i160 a3.toNatClampNeg) fun v165 =>
  bd (hR σ a0 24) fun i167 =>
  chk (isO σ 12 i167 ∧ inb a3 (hlen σ i167)) (lt (hB σ i167 a3.toNatClampNeg) fun v172 =>
  chk (isO σ 12 i160 ∧ inb a4 (hlen σ i160)) (lt (hB σ i160 a4.toNatClampNeg) fun v179 =>
  chk (isO σ 12 i167 ∧ inb a4 (hlen σ i167)) (lt (hB σ i167 a4.toNatClampNeg) fun v186 =>
  bc (f_X6_products_ a0 v165 v172 v179 v186 σ) fun r188 σ189 =>
  chk (isO σ189 6 a0) (bd (hR σ189 a0 23) fun i194 =>
  lt (hB σ189 a0 26) fun v197 =>
  chk (isO σ189 12 i194 ∧ inb a2 (hlen σ189 i194)) (lt (sB σ189 i194 a2.toNatClampNeg v197) fun σ201 =>
  bd (hR σ201 a0 24) fun i204 =>
  lt (hB σ201 a0 27) fun v207 =>
  chk (isO σ201 12 i204 ∧ inb a2 (hlen σ201 i204)) (lt (sB σ201 i204 a2.toNatClampNeg v207) fun σ211 =>
  some ((), σ211))))))))))
def f_X6_rootOf (a0 : Nat) (a1 : Int32) (σ : HS) : Option (Int32 × HS) :=
  chk (isO σ 6 a0) (bd (hR σ a0 6) fun i3 =>
  chk (isO σ 10 i3 ∧ inb a1 (hlen σ i3)) (lt (hA σ i3 a1.toNatClampNeg) fun v8 =>
  some ((v8 - (1 : Int32)), σ)))
def lp_X6_spans_2_b  (K2 : Nat → Int32 → Int32 → HS → Option (Int32 × HS)) (x0 : Nat) (x1 : Int32) (x2 : Int32) (τ : HS) : Option (Int32 × HS) :=
  chk (isO τ 6 x0) (bd (hR τ x0 6) fun i5 =>
  chk (isO τ 10 i5 ∧ inb x1 (hlen τ i5)) (lt (hA τ i5 x1.toNatClampNeg) fun v10 =>
  (if v10 ≤ x2 then
  bd (hR τ x0 25) fun i15 =>
  bc (f_X6_rootOf x0 x1 τ) fun r18 σ19 =>
  chk (isO σ19 11 i15 ∧ inb r18 (hlen σ19 i15)) (lt (hA σ19 i15 r18.toNatClampNeg) fun v24 =>
  (if v24 = 0 then
  some ((1 : Int32), σ19)
  else
  some ((0 : Int32), σ19)))
  else
  bc (f_X6_at x1 x2 τ) fun r29 σ30 =>
  chk (isO σ30 6 x0) (lt (sA σ30 x0 20 (0 : Int32)) fun σ35 =>
  bd (hR σ35 x0 2) fun i38 =>
  chk (isO σ35 10 i38 ∧ inb r29 (hlen σ35 i38)) (lt (hA σ35 i38 r29.toNatClampNeg) fun v43 =>
  (if v43 = 0 then
  bd (hR σ35 x0 23) fun i251 =>
  bd (hR σ35 x0 21) fun i254 =>
  bd (hR σ35 x0 3) fun i257 =>
  chk (isO σ35 10 i257 ∧ inb r29 (hlen σ35 i257)) (lt (hA σ35 i257 r29.toNatClampNeg) fun v262 =>
  chk (isO σ35 10 i254 ∧ inb v262 (hlen σ35 i254)) (lt (hA σ35 i254 v262.toNatClampNeg) fun v266 =>
  chk (isO σ35 12 i251 ∧ inb x2 (hlen σ35 i251)) (lt (sB σ35 i251 x2.toNatClampNeg (v266).toInt64) fun σ270 =>
  bd (hR σ270 x0 24) fun i273 =>
  bd (hR σ270 x0 22) fun i276 =>
  bd (hR σ270 x0 3) fun i279 =>
  chk (isO σ270 10 i279 ∧ inb r29 (hlen σ270 i279)) (lt (hA σ270 i279 r29.toNatClampNeg) fun v284 =>
  chk (isO σ270 10 i276 ∧ inb v284 (hlen σ270 i276)) (lt (hA σ270 i276 v284.toNatClampNeg) fun v288 =>
  chk (isO σ270 12 i273 ∧ inb x2 (hlen σ270 i273)) (lt (sB σ270 i273 x2.toNatClampNeg (v288).toInt64) fun σ292 =>
  bd (hR σ292 x0 25) fun i295 =>
  lt (hA σ292 x0 20) fun v298 =>
  chk (isO σ292 11 i295 ∧ inb x2 (hlen σ292 i295)) (chk (bit v298) (lt (sA σ292 i295 x2.toNatClampNeg v298) fun σ304 =>
  lt (x2 + (1 : Int32)) fun v307 =>
  K2 x0 x1 v307 σ304))))))))
  else
  chk (isO σ35 10 i38 ∧ inb r29 (hlen σ35 i38)) (lt (hA σ35 i38 r29.toNatClampNeg) fun v53 =>
  (if v53 = (1 : Int32) then
  bd (hR σ35 x0 23) fun i207 =>
  bd (hR σ35 x0 3) fun i210 =>
  chk (isO σ35 10 i210 ∧ inb r29 (hlen σ35 i210)) (lt (hA σ35 i210 r29.toNatClampNeg) fun v215 =>
  chk (isO σ35 12 i207 ∧ inb x2 (hlen σ35 i207)) (lt (sB σ35 i207 x2.toNatClampNeg (v215).toInt64) fun σ219 =>
  bd (hR σ219 x0 24) fun i222 =>
  bd (hR σ219 x0 3) fun i225 =>
  chk (isO σ219 10 i225 ∧ inb r29 (hlen σ219 i225)) (lt (hA σ219 i225 r29.toNatClampNeg) fun v230 =>
  chk (isO σ219 12 i222 ∧ inb x2 (hlen σ219 i222)) (lt (sB σ219 i222 x2.toNatClampNeg (v230).toInt64) fun σ234 =>
  bd (hR σ234 x0 25) fun i237 =>
  lt (hA σ234 x0 20) fun v240 =>
  chk (isO σ234 11 i237 ∧ inb x2 (hlen σ234 i237)) (chk (bit v240) (lt (sA σ234 i237 x2.toNatClampNeg v240) fun σ246 =>
  lt (x2 + (1 : Int32)) fun v249 =>
  K2 x0 x1 v249 σ246))))))
  else
  chk (isO σ35 10 i38 ∧ inb r29 (hlen σ35 i38)) (lt (hA σ35 i38 r29.toNatClampNeg) fun v63 =>
  bd (hR σ35 x0 3) fun i65 =>
  chk (isO σ35 10 i65 ∧ inb r29 (hlen σ35 i65)) (lt (hA σ35 i65 r29.toNatClampNeg) fun v70 =>
  bd (hR σ35 x0 4) fun i72 =>
  chk (isO σ35 10 i72 ∧ inb r29 (hlen σ35 i72)) (lt (hA σ35 i72 r29.toNatClampNeg) fun v77 =>
  bc (f_X6_joins x0 v63 x2 v70 v77 σ35) fun r79 σ80 =>
  chk (isO σ80 6 x0) (lt (hA σ80 x0 20) fun v85 =>
  bd (hR σ80 x0 25) fun i87 =>
  bd (hR σ80 x0 3) fun i90 =>
  chk (isO σ80 10 i90 ∧ inb r29 (hlen σ80 i90)) (lt (hA σ80 i90 r29.toNatClampNeg) fun v95 =>
  chk (isO σ80 11 i87 ∧ inb v95 (hlen σ80 i87)) (lt (hA σ80 i87 v95.toNatClampNeg) fun v99 =>
  (if v99 = 0 then
  bd (hR σ80 x0 2) fun i123 =>
  chk (isO σ80 10 i123 ∧ inb r29 (hlen σ80 i123)) (lt (hA σ80 i123 r29.toNatClampNeg) fun v128 =>
  (if v128 = (2 : Int32) then
  chk (bit (v85 ||| (0 : Int32))) (lt (sA σ80 x0 20 (v85 ||| (0 : Int32))) fun σ133 =>
  bd (hR σ133 x0 25) fun i138 =>
  lt (hA σ133 x0 20) fun v141 =>
  chk (isO σ133 11 i138 ∧ inb x2 (hlen σ133 i138)) (chk (bit v141) (lt (sA σ133 i138 x2.toNatClampNeg v141) fun σ147 =>
  lt (x2 + (1 : Int32)) fun v150 =>
  K2 x0 x1 v150 σ147)))
  else
  bd (hR σ80 x0 4) fun i155 =>
  chk (isO σ80 10 i155 ∧ inb r29 (hlen σ80 i155)) (lt (hA σ80 i155 r29.toNatClampNeg) fun v160 =>
  chk (isO σ80 11 i87 ∧ inb v160 (hlen σ80 i87)) (lt (hA σ80 i87 v160.toNatClampNeg) fun v164 =>
  (if v164 = 0 then
  chk (bit (v85 ||| (0 : Int32))) (lt (sA σ80 x0 20 (v85 ||| (0 : Int32))) fun σ169 =>
  bd (hR σ169 x0 25) fun i174 =>
  lt (hA σ169 x0 20) fun v177 =>
  chk (isO σ169 11 i174 ∧ inb x2 (hlen σ169 i174)) (chk (bit v177) (lt (sA σ169 i174 x2.toNatClampNeg v177) fun σ183 =>
  lt (x2 + (1 : Int32)) fun v186 =>
  K2 x0 x1 v186 σ183)))
  else
  chk (bit (v85 ||| (1 : Int32))) (lt (sA σ80 x0 20 (v85 ||| (1 : Int32))) fun σ188 =>
  bd (hR σ188 x0 25) fun i193 =>
  lt (hA σ188 x0 20) fun v196 =>
  chk (isO σ188 11 i193 ∧ inb x2 (hlen σ188 i193)) (chk (bit v196) (lt (sA σ188 i193 x2.toNatClampNeg v196) fun σ202 =>
  lt (x2 + (1 : Int32)) fun v205 =>
  K2 x0 x1 v205 σ202))))))))
  else
  chk (bit (v85 ||| (1 : Int32))) (lt (sA σ80 x0 20 (v85 ||| (1 : Int32))) fun σ104 =>
  bd (hR σ104 x0 25) fun i109 =>
  lt (hA σ104 x0 20) fun v112 =>
  chk (isO σ104 11 i109 ∧ inb x2 (hlen σ104 i109)) (chk (bit v112) (lt (sA σ104 i109 x2.toNatClampNeg v112) fun σ118 =>
  lt (x2 + (1 : Int32)) fun v121 =>
  K2 x0 x1 v121 σ118))))))))))))))))))
def lp_X6_spans_2  : Nat → Nat → Int32 → Int32 → HS → Option (Int32 × HS)
  | 0 => fun _ _ _ _ => none
  | n + 1 => lp_X6_spans_2_b  (lp_X6_spans_2  n)
def f_X6_spans (a0 : Nat) (a1 : Int32) (σ : HS) : Option (Int32 × HS) :=
  lt ((0 : Int32)) fun v1 =>
  lp_X6_spans_2  1000 a0 a1 v1 σ
def f_X6_highOf (a0 : Nat) (a1 : Int32) (σ : HS) : Option (Int64 × HS) :=
  chk (isO σ 6 a0) (bd (hR σ a0 24) fun i3 =>
  bc (f_X6_rootOf a0 a1 σ) fun r6 σ7 =>
  chk (isO σ7 12 i3 ∧ inb r6 (hlen σ7 i3)) (lt (hB σ7 i3 r6.toNatClampNeg) fun v12 =>
  some (v12, σ7)))
def f_X6_lowOf (a0 : Nat) (a1 : Int32) (σ : HS) : Option (Int64 × HS) :=
  chk (isO σ 6 a0) (bd (hR σ a0 23) fun i3 =>
  bc (f_X6_rootOf a0 a1 σ) fun r6 σ7 =>
  chk (isO σ7 12 i3 ∧ inb r6 (hlen σ7 i3)) (lt (hB σ7 i3 r6.toNatClampNeg) fun v12 =>
  some (v12, σ7)))
def f_X6_widthBy (a0 : Nat) (a1 : Int32) (σ : HS) : Option (Int64 × HS) :=
  chk (isO σ 6 a0) (bc (f_X6_spans a0 a1 σ) fun r3 σ4 =>
  (if r3 = 0 then
  some ((-9223372036854775807 : Int64), σ4)
  else
  chk (isO σ4 6 a0) (lt (sA σ4 a0 20 (0 : Int32)) fun σ12 =>
  bc (f_X6_highOf a0 a1 σ12) fun r15 σ16 =>
  chk (isO σ16 6 a0) (bc (f_X6_lowOf a0 a1 σ16) fun r21 σ22 =>
  chk (isO σ22 6 a0) (bc (f_X6_less a0 r15 r21 σ22) fun r27 σ28 =>
  chk (isO σ28 6 a0) (lt (hA σ28 a0 20) fun v33 =>
  (if v33 = 0 then
  some (r27, σ28)
  else
  some ((-9223372036854775807 : Int64), σ28))))))))
def f_X6_widthNow (a0 : Nat) (a1 : Int32) (σ : HS) : Option (Int64 × HS) :=
  chk (isO σ 6 a0) (bc (f_X6_laysBox a0 σ) fun r3 σ4 =>
  chk (isO σ4 6 a0) (bc (f_X6_widthBy a0 a1 σ4) fun r9 σ10 =>
  some (r9, σ10)))
def lp_X6_again_63_b (K46 : Nat → Int32 → Int64 → Int32 → Int32 → Int32 → Int32 → HS → Option (Int32 × HS)) (K63 : Nat → Int32 → Int64 → Int32 → Int32 → Int32 → Int32 → Int32 → Int32 → HS → Option (Int32 × HS)) (x0 : Nat) (x1 : Int32) (x2 : Int64) (x4 : Int32) (x5 : Int32) (x6 : Int32) (x7 : Int32) (x8 : Int32) (x9 : Int32) (τ : HS) : Option (Int32 × HS) :=
  (if (6 : Int32) ≤ x9 then
  chk (isO τ 6 x0) (bc (f_X6_widthBy x0 x1 τ) fun r56 σ57 =>
  (if 0 < (lg_cmp r56 x2) then
  lt (x7 + (1 : Int32)) fun v63 =>
  K46 x0 x1 x2 x4 x5 x6 v63 σ57
  else
  (if x5 = (-5 : Int32) then
  lt (x7 + (1 : Int32)) fun v68 =>
  K46 x0 x1 x2 x4 x7 x8 v68 σ57
  else
  (if x6 ≤ x8 then
  lt (x7 + (1 : Int32)) fun v73 =>
  K46 x0 x1 x2 x4 x5 x6 v73 σ57
  else
  lt (x7 + (1 : Int32)) fun v75 =>
  K46 x0 x1 x2 x4 x7 x8 v75 σ57))))
  else
  (if ((x7 >>> (x9 &&& 31)) &&& (1 : Int32)) = (1 : Int32) then
  chk (isO τ 6 x0) (bd (hR τ x0 0) fun i84 =>
  chk (isO τ 10 i84 ∧ inb (((3 : Int32) * x9) + (2 : Int32)) (hlen τ i84)) (lt (hA τ i84 ((((3 : Int32) * x9) + (2 : Int32))).toNatClampNeg) fun v89 =>
  lt ((x8 + v89)) fun v91 =>
  bc (f_X6_valueOf x0 x9 τ) fun r93 σ94 =>
  chk (isO σ94 6 x0) (bc (f_X6_spanOf x0 x9 σ94) fun r99 σ100 =>
  chk (isO σ100 6 x0) (bc (f_X6_valueOf x0 x9 σ100) fun r105 σ106 =>
  chk (isO σ106 6 x0) (bc (f_X6_spanOf x0 x9 σ106) fun r111 σ112 =>
  chk (isO σ112 6 x0) (bc (f_X6_lays x0 x9 (r93 - (r99 / (2 : Int32))) (r105 + (r111 / (2 : Int32))) σ112) fun r117 σ118 =>
  lt (x9 + (1 : Int32)) fun v121 =>
  K63 x0 x1 x2 x4 x5 x6 x7 v91 v121 σ118))))))
  else
  lt (x9 + (1 : Int32)) fun v80 =>
  K63 x0 x1 x2 x4 x5 x6 x7 x8 v80 τ))
def lp_X6_again_63 (K46 : Nat → Int32 → Int64 → Int32 → Int32 → Int32 → Int32 → HS → Option (Int32 × HS)) : Nat → Nat → Int32 → Int64 → Int32 → Int32 → Int32 → Int32 → Int32 → Int32 → HS → Option (Int32 × HS)
  | 0 => fun _ _ _ _ _ _ _ _ _ _ => none
  | n + 1 => lp_X6_again_63_b K46 (lp_X6_again_63 K46 n)
def lp_X6_again_46_b  (K46 : Nat → Int32 → Int64 → Int32 → Int32 → Int32 → Int32 → HS → Option (Int32 × HS)) (x0 : Nat) (x1 : Int32) (x2 : Int64) (x4 : Int32) (x5 : Int32) (x6 : Int32) (x7 : Int32) (τ : HS) : Option (Int32 × HS) :=
  (if (64 : Int32) ≤ x7 then
  (if x5 = (-5 : Int32) then
  some (x5, τ)
  else
  (if x4 = 0 then
  some (x5, τ)
  else
  some (x6, τ)))
  else
  lt ((0 : Int32)) fun v41 =>
  chk (isO τ 6 x0) (bc (f_X6_laysBox x0 τ) fun r45 σ46 =>
  lt ((0 : Int32)) fun v49 =>
  lp_X6_again_63 (K46) 1000 x0 x1 x2 x4 x5 x6 x7 v41 v49 σ46))
def lp_X6_again_46  : Nat → Nat → Int32 → Int64 → Int32 → Int32 → Int32 → Int32 → HS → Option (Int32 × HS)
  | 0 => fun _ _ _ _ _ _ _ _ => none
  | n + 1 => lp_X6_again_46_b  (lp_X6_again_46  n)
def f_X6_again (a0 : Nat) (a1 : Int32) (a2 : Int64) (a4 : Int32) (σ : HS) : Option (Int32 × HS) :=
  chk (isO σ 6 a0) (bc (f_X6_isFormula a0 a1 σ) fun r3 σ4 =>
  (if r3 = 0 then
  some ((-1 : Int32), σ4)
  else
  bc (f_X6_isIn (a4).toInt64 (0 : Int64) (1 : Int64) σ4) fun r10 σ11 =>
  (if r10 = 0 then
  some ((-1 : Int32), σ11)
  else
  chk (isO σ11 6 a0) (bc (f_X6_widthNow a0 a1 σ11) fun r19 σ20 =>
  (if (lg_cmp r19 (-9223372036854775807 : Int64)) = 0 then
  some ((-6 : Int32), σ20)
  else
  lt ((-5 : Int32)) fun v26 =>
  lt ((0 : Int32)) fun v28 =>
  lt ((0 : Int32)) fun v30 =>
  lp_X6_again_46  1000 a0 a1 a2 a4 v26 v28 v30 σ20)))))
def b_X6_areAlike (F : Nat → Nat → Int32 → Int32 → Int32 → Int32 → HS → Option (Int32 × HS)) (a0 : Nat) (a1 : Int32) (a2 : Int32) (a3 : Int32) (a4 : Int32) (σ : HS) : Option (Int32 × HS) :=
  bc (f_X6_at a1 a2 σ) fun r1 σ2 =>
  bc (f_X6_at a3 a4 σ2) fun r5 σ6 =>
  chk (isO σ6 6 a0) (bd (hR σ6 a0 2) fun i11 =>
  chk (isO σ6 10 i11 ∧ inb r1 (hlen σ6 i11)) (lt (hA σ6 i11 r1.toNatClampNeg) fun v16 =>
  chk (isO σ6 10 i11 ∧ inb r5 (hlen σ6 i11)) (lt (hA σ6 i11 r5.toNatClampNeg) fun v23 =>
  (if v16 = v23 then
  chk (isO σ6 10 i11 ∧ inb r1 (hlen σ6 i11)) (lt (hA σ6 i11 r1.toNatClampNeg) fun v33 =>
  (if (1 : Int32) < v33 then
  bd (hR σ6 a0 3) fun i38 =>
  chk (isO σ6 10 i38 ∧ inb r1 (hlen σ6 i38)) (lt (hA σ6 i38 r1.toNatClampNeg) fun v43 =>
  chk (isO σ6 10 i38 ∧ inb r5 (hlen σ6 i38)) (lt (hA σ6 i38 r5.toNatClampNeg) fun v50 =>
  bc (F 0 a0 a1 v43 a3 v50 σ6) fun r52 σ53 =>
  (if r52 = 0 then
  some ((0 : Int32), σ53)
  else
  chk (isO σ53 6 a0) (bd (hR σ53 a0 2) fun i61 =>
  chk (isO σ53 10 i61 ∧ inb r1 (hlen σ53 i61)) (lt (hA σ53 i61 r1.toNatClampNeg) fun v66 =>
  (if v66 = (2 : Int32) then
  some ((1 : Int32), σ53)
  else
  bd (hR σ53 a0 4) fun i71 =>
  chk (isO σ53 10 i71 ∧ inb r1 (hlen σ53 i71)) (lt (hA σ53 i71 r1.toNatClampNeg) fun v76 =>
  chk (isO σ53 10 i71 ∧ inb r5 (hlen σ53 i71)) (lt (hA σ53 i71 r5.toNatClampNeg) fun v83 =>
  bc (F 0 a0 a1 v76 a3 v83 σ53) fun r85 σ86 =>
  (if r85 = 0 then
  some ((0 : Int32), σ86)
  else
  some ((1 : Int32), σ86))))))))))
  else
  bd (hR σ6 a0 3) fun i92 =>
  chk (isO σ6 10 i92 ∧ inb r1 (hlen σ6 i92)) (lt (hA σ6 i92 r1.toNatClampNeg) fun v97 =>
  chk (isO σ6 10 i92 ∧ inb r5 (hlen σ6 i92)) (lt (hA σ6 i92 r5.toNatClampNeg) fun v104 =>
  (if v97 = v104 then
  some ((1 : Int32), σ6)
  else
  some ((0 : Int32), σ6))))))
  else
  some ((0 : Int32), σ6)))))
def g_MA : Nat → Nat → Nat → Int32 → Int32 → Int32 → Int32 → HS → Option (Int32 × HS)
  | 0 => fun _ _ _ _ _ _ _ => none
  | n + 1 => fun t a0 a1 a2 a3 a4 σ => if t = 0 then b_X6_areAlike (g_MA n) a0 a1 a2 a3 a4 σ else none
def f_X6_areAlike (a0 : Nat) (a1 : Int32) (a2 : Int32) (a3 : Int32) (a4 : Int32) (σ : HS) : Option (Int32 × HS) := g_MA 64 0 a0 a1 a2 a3 a4 σ
def f_X6_alike (a0 : Nat) (a1 : Int32) (a2 : Int32) (σ : HS) : Option (Int32 × HS) :=
  chk (isO σ 6 a0) (bc (f_X6_isFormula a0 a1 σ) fun r3 σ4 =>
  (if r3 = 0 then
  some ((-1 : Int32), σ4)
  else
  chk (isO σ4 6 a0) (bc (f_X6_isFormula a0 a2 σ4) fun r12 σ13 =>
  (if r12 = 0 then
  some ((-1 : Int32), σ13)
  else
  chk (isO σ13 6 a0) (bc (f_X6_rootOf a0 a1 σ13) fun r21 σ22 =>
  chk (isO σ22 6 a0) (bc (f_X6_rootOf a0 a2 σ22) fun r27 σ28 =>
  chk (isO σ28 6 a0) (bc (f_X6_areAlike a0 a1 r21 a2 r27 σ28) fun r33 σ34 =>
  (if r33 = 0 then
  some ((0 : Int32), σ34)
  else
  some ((1 : Int32), σ34)))))))))
def f_X6_isSource (a0 : Int32) (σ : HS) : Option (Int32 × HS) :=
  bc (f_X6_isIn (a0).toInt64 (0 : Int64) (5 : Int64) σ) fun r1 σ2 =>
  chk (bit r1) (some (r1, σ2))
def f_X6_of (a0 : Nat) (a1 : Int32) (a2 : Int32) (σ : HS) : Option (Int32 × HS) :=
  bc (f_X6_isSource a1 σ) fun r1 σ2 =>
  (if r1 = 0 then
  some ((-1000 : Int32), σ2)
  else
  bc (f_X6_isIn (a2).toInt64 (0 : Int64) (4 : Int64) σ2) fun r8 σ9 =>
  (if r8 = 0 then
  some ((-1000 : Int32), σ9)
  else
  (if (3 : Int32) ≤ a2 then
  (if a2 = (3 : Int32) then
  chk (isO σ9 6 a0) (bc (f_X6_valueOf a0 a1 σ9) fun r35 σ36 =>
  chk (isO σ36 6 a0) (bc (f_X6_spanOf a0 a1 σ36) fun r41 σ42 =>
  some ((r35 - r41), σ42)))
  else
  chk (isO σ9 6 a0) (bc (f_X6_valueOf a0 a1 σ9) fun r23 σ24 =>
  chk (isO σ24 6 a0) (bc (f_X6_spanOf a0 a1 σ24) fun r29 σ30 =>
  some ((r23 + r29), σ30))))
  else
  chk (isO σ9 6 a0) (bd (hR σ9 a0 0) fun i47 =>
  chk (isO σ9 10 i47 ∧ inb (((3 : Int32) * a1) + a2) (hlen σ9 i47)) (lt (hA σ9 i47 ((((3 : Int32) * a1) + a2)).toNatClampNeg) fun v52 =>
  some (v52, σ9))))))
def f_X6_splits (a0 : Nat) (a1 : Int32) (a2 : Int32) (a3 : Int32) (σ : HS) : Option (Unit × HS) :=
  chk (isO σ 6 a0) (bc (f_X6_laysBox a0 σ) fun r3 σ4 =>
  chk (isO σ4 6 a0) (bd (hR σ4 a0 22) fun i9 =>
  chk (isO σ4 10 i9 ∧ inb a2 (hlen σ4 i9)) (lt (hA σ4 i9 a2.toNatClampNeg) fun v14 =>
  chk (isO σ4 10 i9 ∧ inb a2 (hlen σ4 i9)) (lt (sA σ4 i9 a2.toNatClampNeg a3) fun σ21 =>
  bc (f_X6_spans a0 a1 σ21) fun r24 σ25 =>
  chk (isO σ25 6 a0) (bc (f_X6_lowOf a0 a1 σ25) fun r30 σ31 =>
  chk (isO σ31 6 a0) (lt (sB σ31 a0 33 r30) fun σ36 =>
  bc (f_X6_highOf a0 a1 σ36) fun r39 σ40 =>
  chk (isO σ40 6 a0) (lt (sB σ40 a0 34 r39) fun σ45 =>
  bc (f_X6_lays a0 a2 a3 v14 σ45) fun r48 σ49 =>
  chk (isO σ49 6 a0) (bc (f_X6_spans a0 a1 σ49) fun r54 σ55 =>
  chk (isO σ55 6 a0) (lt (hB σ55 a0 33) fun v60 =>
  bc (f_X6_lowOf a0 a1 σ55) fun r62 σ63 =>
  lt (if r62 < v60 then r62 else v60) fun v66 =>
  chk (isO σ63 6 a0) (lt (sB σ63 a0 33 v66) fun σ70 =>
  lt (hB σ70 a0 34) fun v73 =>
  bc (f_X6_highOf a0 a1 σ70) fun r75 σ76 =>
  lt (if r75 < v73 then v73 else r75) fun v79 =>
  chk (isO σ76 6 a0) (lt (sB σ76 a0 34 v79) fun σ83 =>
  some ((), σ83))))))))))))
def lp_X6_best_70_b (K54 : Nat → Int32 → Int32 → Int64 → Int64 → Int32 → Int32 → Int32 → HS → Option (Int64 × HS)) (K70 : Nat → Int32 → Int32 → Int64 → Int64 → Int32 → Int32 → Int32 → Int32 → HS → Option (Int64 × HS)) (x0 : Nat) (x1 : Int32) (x2 : Int32) (x3 : Int64) (x5 : Int64) (x7 : Int32) (x8 : Int32) (x9 : Int32) (x10 : Int32) (τ : HS) : Option (Int64 × HS) :=
  chk (isO τ 6 x0) (bc (f_X6_of x0 x9 (4 : Int32) τ) fun r52 σ53 =>
  (if r52 < x10 then
  lt (x9 + (1 : Int32)) fun v59 =>
  K54 x0 x1 x2 x3 x5 x7 x8 v59 σ53
  else
  chk (isO σ53 6 x0) (bc (f_X6_splits x0 x1 x9 x10 σ53) fun r63 σ64 =>
  chk (isO σ64 6 x0) (lt (hB σ64 x0 34) fun v69 =>
  lt (hB σ64 x0 33) fun v71 =>
  (if 0 ≤ (lg_cmp (v69 - v71) x5) then
  lt (x10 + (1 : Int32)) fun v76 =>
  K70 x0 x1 x2 x3 x5 x7 x8 x9 v76 σ64
  else
  lt (hB σ64 x0 34) fun v78 =>
  lt (hB σ64 x0 33) fun v80 =>
  lt ((v78 - v80)) fun v82 =>
  lt (x10 + (1 : Int32)) fun v84 =>
  K70 x0 x1 x2 x3 v82 x9 x10 x9 v84 σ64)))))
def lp_X6_best_70 (K54 : Nat → Int32 → Int32 → Int64 → Int64 → Int32 → Int32 → Int32 → HS → Option (Int64 × HS)) : Nat → Nat → Int32 → Int32 → Int64 → Int64 → Int32 → Int32 → Int32 → Int32 → HS → Option (Int64 × HS)
  | 0 => fun _ _ _ _ _ _ _ _ _ _ => none
  | n + 1 => lp_X6_best_70_b K54 (lp_X6_best_70 K54 n)
def lp_X6_best_54_b  (K54 : Nat → Int32 → Int32 → Int64 → Int64 → Int32 → Int32 → Int32 → HS → Option (Int64 × HS)) (x0 : Nat) (x1 : Int32) (x2 : Int32) (x3 : Int64) (x5 : Int64) (x7 : Int32) (x8 : Int32) (x9 : Int32) (τ : HS) : Option (Int64 × HS) :=
  (if (6 : Int32) ≤ x9 then
  (if x7 = (-1 : Int32) then
  some ((-1000 : Int64), τ)
  else
  (if x2 = 0 then
  some ((x7).toInt64, τ)
  else
  (if x2 = (1 : Int32) then
  some ((x8).toInt64, τ)
  else
  some ((x3 - x5), τ))))
  else
  chk (isO τ 6 x0) (bc (f_X6_of x0 x9 (3 : Int32) τ) fun r46 σ47 =>
  lp_X6_best_70 (K54) 1000 x0 x1 x2 x3 x5 x7 x8 x9 r46 σ47))
def lp_X6_best_54  : Nat → Nat → Int32 → Int32 → Int64 → Int64 → Int32 → Int32 → Int32 → HS → Option (Int64 × HS)
  | 0 => fun _ _ _ _ _ _ _ _ _ => none
  | n + 1 => lp_X6_best_54_b  (lp_X6_best_54  n)
def f_X6_best (a0 : Nat) (a1 : Int32) (a2 : Int32) (σ : HS) : Option (Int64 × HS) :=
  chk (isO σ 6 a0) (bc (f_X6_isFormula a0 a1 σ) fun r3 σ4 =>
  (if r3 = 0 then
  some ((-9223372036854775808 : Int64), σ4)
  else
  bc (f_X6_isIn (a2).toInt64 (0 : Int64) (2 : Int64) σ4) fun r10 σ11 =>
  (if r10 = 0 then
  some ((-9223372036854775808 : Int64), σ11)
  else
  chk (isO σ11 6 a0) (bc (f_X6_widthNow a0 a1 σ11) fun r19 σ20 =>
  (if (lg_cmp r19 (-9223372036854775807 : Int64)) = 0 then
  some ((-9223372036854775807 : Int64), σ20)
  else
  lt ((-1 : Int32)) fun v26 =>
  lt ((0 : Int32)) fun v28 =>
  lt ((0 : Int32)) fun v30 =>
  lp_X6_best_54  1000 a0 a1 a2 r19 r19 v26 v28 v30 σ20)))))
def f_X6_spansNow (a0 : Nat) (a1 : Int32) (σ : HS) : Option (Int32 × HS) :=
  chk (isO σ 6 a0) (bc (f_X6_laysBox a0 σ) fun r3 σ4 =>
  chk (isO σ4 6 a0) (bc (f_X6_spans a0 a1 σ4) fun r9 σ10 =>
  chk (bit r9) (some (r9, σ10))))
def f_X6_changes (a0 : Nat) (a1 : Int32) (a2 : Int32) (a3 : Int32) (a4 : Int32) (σ : HS) : Option (Unit × HS) :=
  (if a1 = (2 : Int32) then
  chk (isO σ 6 a0) (bd (hR σ a0 30) fun i6 =>
  bd (hR σ a0 31) fun i9 =>
  chk (isO σ 12 i9 ∧ inb a3 (hlen σ i9)) (lt (hB σ i9 a3.toNatClampNeg) fun v14 =>
  bc (f_X6_less a0 (0 : Int64) v14 σ) fun r16 σ17 =>
  chk (isO σ17 12 i6 ∧ inb a2 (hlen σ17 i6)) (lt (sB σ17 i6 a2.toNatClampNeg r16) fun σ22 =>
  chk (isO σ22 6 a0) (bd (hR σ22 a0 31) fun i26 =>
  bd (hR σ22 a0 30) fun i29 =>
  chk (isO σ22 12 i29 ∧ inb a3 (hlen σ22 i29)) (lt (hB σ22 i29 a3.toNatClampNeg) fun v34 =>
  bc (f_X6_less a0 (0 : Int64) v34 σ22) fun r36 σ37 =>
  chk (isO σ37 12 i26 ∧ inb a2 (hlen σ37 i26)) (lt (sB σ37 i26 a2.toNatClampNeg r36) fun σ42 =>
  some ((), σ42)))))))
  else if a1 = (3 : Int32) then
  chk (isO σ 6 a0) (bd (hR σ a0 30) fun i49 =>
  chk (isO σ 12 i49 ∧ inb a3 (hlen σ i49)) (lt (hB σ i49 a3.toNatClampNeg) fun v57 =>
  chk (isO σ 12 i49 ∧ inb a4 (hlen σ i49)) (lt (hB σ i49 a4.toNatClampNeg) fun v64 =>
  bc (f_X6_sum a0 v57 v64 σ) fun r66 σ67 =>
  chk (isO σ67 12 i49 ∧ inb a2 (hlen σ67 i49)) (lt (sB σ67 i49 a2.toNatClampNeg r66) fun σ72 =>
  chk (isO σ72 6 a0) (bd (hR σ72 a0 31) fun i76 =>
  chk (isO σ72 12 i76 ∧ inb a3 (hlen σ72 i76)) (lt (hB σ72 i76 a3.toNatClampNeg) fun v84 =>
  chk (isO σ72 12 i76 ∧ inb a4 (hlen σ72 i76)) (lt (hB σ72 i76 a4.toNatClampNeg) fun v91 =>
  bc (f_X6_sum a0 v84 v91 σ72) fun r93 σ94 =>
  chk (isO σ94 12 i76 ∧ inb a2 (hlen σ94 i76)) (lt (sB σ94 i76 a2.toNatClampNeg r93) fun σ99 =>
  some ((), σ99)))))))))
  else if a1 = (4 : Int32) then
  chk (isO σ 6 a0) (bd (hR σ a0 30) fun i106 =>
  chk (isO σ 12 i106 ∧ inb a3 (hlen σ i106)) (lt (hB σ i106 a3.toNatClampNeg) fun v114 =>
  bd (hR σ a0 31) fun i116 =>
  chk (isO σ 12 i116 ∧ inb a4 (hlen σ i116)) (lt (hB σ i116 a4.toNatClampNeg) fun v121 =>
  bc (f_X6_less a0 v114 v121 σ) fun r123 σ124 =>
  chk (isO σ124 12 i106 ∧ inb a2 (hlen σ124 i106)) (lt (sB σ124 i106 a2.toNatClampNeg r123) fun σ129 =>
  chk (isO σ129 6 a0) (bd (hR σ129 a0 31) fun i133 =>
  chk (isO σ129 12 i133 ∧ inb a3 (hlen σ129 i133)) (lt (hB σ129 i133 a3.toNatClampNeg) fun v141 =>
  bd (hR σ129 a0 30) fun i143 =>
  chk (isO σ129 12 i143 ∧ inb a4 (hlen σ129 i143)) (lt (hB σ129 i143 a4.toNatClampNeg) fun v148 =>
  bc (f_X6_less a0 v141 v148 σ129) fun r150 σ151 =>
  chk (isO σ151 12 i133 ∧ inb a2 (hlen σ151 i133)) (lt (sB σ151 i133 a2.toNatClampNeg r150) fun σ156 =>
  some ((), σ156)))))))))
  else chk (isO σ 6 a0) (bd (hR σ a0 30) fun i160 =>
  chk (isO σ 12 i160 ∧ inb a3 (hlen σ i160)) (lt (hB σ i160 a3.toNatClampNeg) fun v165 =>
  bd (hR σ a0 31) fun i167 =>
  chk (isO σ 12 i167 ∧ inb a3 (hlen σ i167)) (lt (hB σ i167 a3.toNatClampNeg) fun v172 =>
  bd (hR σ a0 23) fun i174 =>
  chk (isO σ 12 i174 ∧ inb a4 (hlen σ i174)) (lt (hB σ i174 a4.toNatClampNeg) fun v179 =>
  bd (hR σ a0 24) fun i181 =>
  chk (isO σ 12 i181 ∧ inb a4 (hlen σ i181)) (lt (hB σ i181 a4.toNatClampNeg) fun v186 =>
  bc (f_X6_products_ a0 v165 v172 v179 v186 σ) fun r188 σ189 =>
  chk (isO σ189 6 a0) (lt (hB σ189 a0 26) fun v194 =>
  lt (hB σ189 a0 27) fun v196 =>
  bd (hR σ189 a0 23) fun i198 =>
  chk (isO σ189 12 i198 ∧ inb a3 (hlen σ189 i198)) (lt (hB σ189 i198 a3.toNatClampNeg) fun v203 =>
  bd (hR σ189 a0 24) fun i205 =>
  chk (isO σ189 12 i205 ∧ inb a3 (hlen σ189 i205)) (lt (hB σ189 i205 a3.toNatClampNeg) fun v210 =>
  bd (hR σ189 a0 30) fun i212 =>
  chk (isO σ189 12 i212 ∧ inb a4 (hlen σ189 i212)) (lt (hB σ189 i212 a4.toNatClampNeg) fun v217 =>
  bd (hR σ189 a0 31) fun i219 =>
  chk (isO σ189 12 i219 ∧ inb a4 (hlen σ189 i219)) (lt (hB σ189 i219 a4.toNatClampNeg) fun v224 =>
  bc (f_X6_products_ a0 v203 v210 v217 v224 σ189) fun r226 σ227 =>
  chk (isO σ227 6 a0) (bd (hR σ227 a0 30) fun i232 =>
  lt (hB σ227 a0 26) fun v235 =>
  bc (f_X6_sum a0 v194 v235 σ227) fun r237 σ238 =>
  chk (isO σ238 12 i232 ∧ inb a2 (hlen σ238 i232)) (lt (sB σ238 i232 a2.toNatClampNeg r237) fun σ243 =>
  chk (isO σ243 6 a0) (bd (hR σ243 a0 31) fun i247 =>
  lt (hB σ243 a0 27) fun v250 =>
  bc (f_X6_sum a0 v196 v250 σ243) fun r252 σ253 =>
  chk (isO σ253 12 i247 ∧ inb a2 (hlen σ253 i247)) (lt (sB σ253 i247 a2.toNatClampNeg r252) fun σ258 =>
  some ((), σ258))))))))))))))))
def lp_X6_changeOf_12_b  (K12 : Nat → Int32 → Int32 → Int32 → Int32 → Int32 → HS → Option (Int32 × HS)) (x0 : Nat) (x1 : Int32) (x2 : Int32) (x3 : Int32) (x4 : Int32) (x5 : Int32) (τ : HS) : Option (Int32 × HS) :=
  chk (isO τ 6 x0) (bd (hR τ x0 6) fun i13 =>
  chk (isO τ 10 i13 ∧ inb x1 (hlen τ i13)) (lt (hA τ i13 x1.toNatClampNeg) fun v18 =>
  (if v18 ≤ x5 then
  bd (hR τ x0 30) fun i23 =>
  bc (f_X6_rootOf x0 x1 τ) fun r26 σ27 =>
  chk (isO σ27 12 i23 ∧ inb r26 (hlen σ27 i23)) (lt (hB σ27 i23 r26.toNatClampNeg) fun v32 =>
  chk (isO σ27 6 x0) (bd (hR σ27 x0 31) fun i36 =>
  bc (f_X6_rootOf x0 x1 σ27) fun r39 σ40 =>
  chk (isO σ40 12 i36 ∧ inb r39 (hlen σ40 i36)) (lt (hB σ40 i36 r39.toNatClampNeg) fun v45 =>
  (if x4 = 0 then
  (if (lg_cmp v32 (0 : Int64)) = 0 then
  (if (lg_cmp v45 (0 : Int64)) = 0 then
  some ((0 : Int32), σ40)
  else
  (if (lg_cmp v32 (0 : Int64)) < 0 then
  (if 0 < (lg_cmp v45 (0 : Int64)) then
  some ((3 : Int32), σ40)
  else
  some ((2 : Int32), σ40))
  else
  some ((1 : Int32), σ40)))
  else
  (if (lg_cmp v32 (0 : Int64)) < 0 then
  (if 0 < (lg_cmp v45 (0 : Int64)) then
  some ((3 : Int32), σ40)
  else
  some ((2 : Int32), σ40))
  else
  some ((1 : Int32), σ40)))
  else
  some ((3 : Int32), σ40)))))
  else
  bc (f_X6_at x1 x5 τ) fun r68 σ69 =>
  chk (isO σ69 6 x0) (lt (sA σ69 x0 20 (0 : Int32)) fun σ74 =>
  bd (hR σ74 x0 2) fun i77 =>
  chk (isO σ74 10 i77 ∧ inb r68 (hlen σ74 i77)) (lt (hA σ74 i77 r68.toNatClampNeg) fun v82 =>
  (if (1 : Int32) < v82 then
  chk (isO σ74 10 i77 ∧ inb r68 (hlen σ74 i77)) (lt (hA σ74 i77 r68.toNatClampNeg) fun v92 =>
  bd (hR σ74 x0 3) fun i94 =>
  chk (isO σ74 10 i94 ∧ inb r68 (hlen σ74 i94)) (lt (hA σ74 i94 r68.toNatClampNeg) fun v99 =>
  bd (hR σ74 x0 4) fun i101 =>
  chk (isO σ74 10 i101 ∧ inb r68 (hlen σ74 i101)) (lt (hA σ74 i101 r68.toNatClampNeg) fun v106 =>
  bc (f_X6_changes x0 v92 x5 v99 v106 σ74) fun r108 σ109 =>
  chk (isO σ109 6 x0) (lt (hA σ109 x0 20) fun v114 =>
  lt ((x4 ||| v114)) fun v116 =>
  lt (x5 + (1 : Int32)) fun v118 =>
  K12 x0 x1 x2 x3 v116 v118 σ109))))
  else
  chk (isO σ74 10 i77 ∧ inb r68 (hlen σ74 i77)) (lt (hA σ74 i77 r68.toNatClampNeg) fun v125 =>
  (if v125 = 0 then
  bd (hR σ74 x0 3) fun i154 =>
  chk (isO σ74 10 i154 ∧ inb r68 (hlen σ74 i154)) (lt (hA σ74 i154 r68.toNatClampNeg) fun v159 =>
  (if v159 = x2 then
  lt ((1 : Int64)) fun v188 =>
  bd (hR σ74 x0 30) fun i190 =>
  chk (isO σ74 12 i190 ∧ inb x5 (hlen σ74 i190)) (lt (sB σ74 i190 x5.toNatClampNeg v188) fun σ195 =>
  bd (hR σ195 x0 31) fun i198 =>
  chk (isO σ195 12 i198 ∧ inb x5 (hlen σ195 i198)) (lt (sB σ195 i198 x5.toNatClampNeg v188) fun σ203 =>
  lt (hA σ203 x0 20) fun v206 =>
  lt ((x4 ||| v206)) fun v208 =>
  lt (x5 + (1 : Int32)) fun v210 =>
  K12 x0 x1 x2 x3 v208 v210 σ203))
  else
  lt ((0 : Int64)) fun v164 =>
  bd (hR σ74 x0 30) fun i166 =>
  chk (isO σ74 12 i166 ∧ inb x5 (hlen σ74 i166)) (lt (sB σ74 i166 x5.toNatClampNeg v164) fun σ171 =>
  bd (hR σ171 x0 31) fun i174 =>
  chk (isO σ171 12 i174 ∧ inb x5 (hlen σ171 i174)) (lt (sB σ171 i174 x5.toNatClampNeg v164) fun σ179 =>
  lt (hA σ179 x0 20) fun v182 =>
  lt ((x4 ||| v182)) fun v184 =>
  lt (x5 + (1 : Int32)) fun v186 =>
  K12 x0 x1 x2 x3 v184 v186 σ179))))
  else
  lt ((0 : Int64)) fun v130 =>
  bd (hR σ74 x0 30) fun i132 =>
  chk (isO σ74 12 i132 ∧ inb x5 (hlen σ74 i132)) (lt (sB σ74 i132 x5.toNatClampNeg v130) fun σ137 =>
  bd (hR σ137 x0 31) fun i140 =>
  chk (isO σ137 12 i140 ∧ inb x5 (hlen σ137 i140)) (lt (sB σ137 i140 x5.toNatClampNeg v130) fun σ145 =>
  lt (hA σ145 x0 20) fun v148 =>
  lt ((x4 ||| v148)) fun v150 =>
  lt (x5 + (1 : Int32)) fun v152 =>
  K12 x0 x1 x2 x3 v150 v152 σ145))))))))))
def lp_X6_changeOf_12  : Nat → Nat → Int32 → Int32 → Int32 → Int32 → Int32 → HS → Option (Int32 × HS)
  | 0 => fun _ _ _ _ _ _ _ => none
  | n + 1 => lp_X6_changeOf_12_b  (lp_X6_changeOf_12  n)
def f_X6_changeOf (a0 : Nat) (a1 : Int32) (a2 : Int32) (σ : HS) : Option (Int32 × HS) :=
  chk (isO σ 6 a0) (bc (f_X6_spansNow a0 a1 σ) fun r3 σ4 =>
  lt ((0 : Int32)) fun v7 =>
  lt ((0 : Int32)) fun v9 =>
  lp_X6_changeOf_12  1000 a0 a1 a2 r3 v7 v9 σ4)
def f_X6_comes (a0 : Nat) (a1 : Int32) (a2 : Int32) (a3 : Int32) (a4 : Int32) (σ : HS) : Option (Int32 × HS) :=
  chk (isO σ 6 a0) (bd (hR σ a0 6) fun i3 =>
  lt (hA σ a0 7) fun v6 =>
  chk (isO σ 10 i3 ∧ inb v6 (hlen σ i3)) (lt (hA σ i3 v6.toNatClampNeg) fun v10 =>
  bd (hR σ a0 2) fun i12 =>
  lt (hA σ a0 7) fun v15 =>
  bc (f_X6_at v15 v10 σ) fun r17 σ18 =>
  chk (isO σ18 10 i12 ∧ inb r17 (hlen σ18 i12)) (lt (sA σ18 i12 r17.toNatClampNeg a1) fun σ23 =>
  chk (isO σ23 6 a0) (bd (hR σ23 a0 3) fun i27 =>
  lt (hA σ23 a0 7) fun v30 =>
  bc (f_X6_at v30 v10 σ23) fun r32 σ33 =>
  chk (isO σ33 10 i27 ∧ inb r32 (hlen σ33 i27)) (lt (sA σ33 i27 r32.toNatClampNeg a2) fun σ38 =>
  chk (isO σ38 6 a0) (bd (hR σ38 a0 4) fun i42 =>
  lt (hA σ38 a0 7) fun v45 =>
  bc (f_X6_at v45 v10 σ38) fun r47 σ48 =>
  chk (isO σ48 10 i42 ∧ inb r47 (hlen σ48 i42)) (lt (sA σ48 i42 r47.toNatClampNeg a3) fun σ53 =>
  chk (isO σ53 6 a0) (bd (hR σ53 a0 5) fun i57 =>
  lt (hA σ53 a0 7) fun v60 =>
  bc (f_X6_at v60 v10 σ53) fun r62 σ63 =>
  chk (isO σ63 10 i57 ∧ inb r62 (hlen σ63 i57)) (lt (sA σ63 i57 r62.toNatClampNeg a4) fun σ68 =>
  chk (isO σ68 6 a0) (bd (hR σ68 a0 6) fun i72 =>
  lt (hA σ68 a0 7) fun v75 =>
  chk (isO σ68 10 i72 ∧ inb v75 (hlen σ68 i72)) (lt (hA σ68 i72 v75.toNatClampNeg) fun v79 =>
  chk (isO σ68 10 i72 ∧ inb v75 (hlen σ68 i72)) (lt (sA σ68 i72 v75.toNatClampNeg (v79 + (1 : Int32))) fun σ83 =>
  some (v10, σ83)))))))))))))
def f_X6_copies (a0 : Nat) (a1 : Nat) (a2 : Int32) (σ : HS) : Option (Unit × HS) :=
  chk ((isO σ 10 a0 ∧ isO σ 10 a1) ∧ ((¬ (0 : Int32) < 0 ∧ ¬ (0 : Int32) < 0 ∧ ¬ a2 < 0) ∧ (((0 : Int32)).toNatClampNeg + a2.toNatClampNeg ≤ hlen σ a0 ∧ ((0 : Int32)).toNatClampNeg + a2.toNatClampNeg ≤ hlen σ a1))) (lt (rA σ a1 (va_cpy (hA σ a0) (hA σ a1) ((0 : Int32)).toNatClampNeg ((0 : Int32)).toNatClampNeg a2.toNatClampNeg)) fun σ3 =>
  some ((), σ3))
def f_X6_laysPoint (a0 : Nat) (a1 : Int32) (a2 : Int32) (σ : HS) : Option (Unit × HS) :=
  chk (isO σ 6 a0) (bc (f_X6_lays a0 a1 a2 a2 σ) fun r3 σ4 =>
  some ((), σ4))
def lp_X6_corner_49_b (K39 : Nat → Int32 → Int32 → Int64 → Int32 → HS → Option (Int64 × HS)) (K49 : Nat → Int32 → Int32 → Int64 → Int32 → Int32 → HS → Option (Int64 × HS)) (x0 : Nat) (x1 : Int32) (x2 : Int32) (x3 : Int64) (x5 : Int32) (x6 : Int32) (τ : HS) : Option (Int64 × HS) :=
  (if (6 : Int32) ≤ x6 then
  chk (isO τ 6 x0) (bc (f_X6_spans x0 x1 τ) fun r40 σ41 =>
  chk (isO σ41 6 x0) (bc (f_X6_lowOf x0 x1 σ41) fun r46 σ47 =>
  (if x5 = 0 then
  lt (x5 + (1 : Int32)) fun v64 =>
  K39 x0 x1 x2 r46 v64 σ47
  else
  (if x2 = 0 then
  lt (if r46 < x3 then r46 else x3) fun v60 =>
  lt (x5 + (1 : Int32)) fun v62 =>
  K39 x0 x1 x2 v60 v62 σ47
  else
  lt (if r46 < x3 then x3 else r46) fun v56 =>
  lt (x5 + (1 : Int32)) fun v58 =>
  K39 x0 x1 x2 v56 v58 σ47))))
  else
  (if ((x5 >>> (x6 &&& 31)) &&& (1 : Int32)) = 0 then
  chk (isO τ 6 x0) (bc (f_X6_valueOf x0 x6 τ) fun r91 σ92 =>
  chk (isO σ92 6 x0) (bc (f_X6_spanOf x0 x6 σ92) fun r97 σ98 =>
  chk (isO σ98 6 x0) (bc (f_X6_laysPoint x0 x6 (r91 - r97) σ98) fun r103 σ104 =>
  lt (x6 + (1 : Int32)) fun v107 =>
  K49 x0 x1 x2 x3 x5 v107 σ104)))
  else
  chk (isO τ 6 x0) (bc (f_X6_valueOf x0 x6 τ) fun r71 σ72 =>
  chk (isO σ72 6 x0) (bc (f_X6_spanOf x0 x6 σ72) fun r77 σ78 =>
  chk (isO σ78 6 x0) (bc (f_X6_laysPoint x0 x6 (r71 + r77) σ78) fun r83 σ84 =>
  lt (x6 + (1 : Int32)) fun v87 =>
  K49 x0 x1 x2 x3 x5 v87 σ84)))))
def lp_X6_corner_49 (K39 : Nat → Int32 → Int32 → Int64 → Int32 → HS → Option (Int64 × HS)) : Nat → Nat → Int32 → Int32 → Int64 → Int32 → Int32 → HS → Option (Int64 × HS)
  | 0 => fun _ _ _ _ _ _ _ => none
  | n + 1 => lp_X6_corner_49_b K39 (lp_X6_corner_49 K39 n)
def lp_X6_corner_39_b  (K39 : Nat → Int32 → Int32 → Int64 → Int32 → HS → Option (Int64 × HS)) (x0 : Nat) (x1 : Int32) (x2 : Int32) (x3 : Int64) (x5 : Int32) (τ : HS) : Option (Int64 × HS) :=
  (if (64 : Int32) ≤ x5 then
  some (x3, τ)
  else
  lt ((0 : Int32)) fun v33 =>
  lp_X6_corner_49 (K39) 1000 x0 x1 x2 x3 x5 v33 τ)
def lp_X6_corner_39  : Nat → Nat → Int32 → Int32 → Int64 → Int32 → HS → Option (Int64 × HS)
  | 0 => fun _ _ _ _ _ _ => none
  | n + 1 => lp_X6_corner_39_b  (lp_X6_corner_39  n)
def f_X6_corner (a0 : Nat) (a1 : Int32) (a2 : Int32) (σ : HS) : Option (Int64 × HS) :=
  chk (isO σ 6 a0) (bc (f_X6_isFormula a0 a1 σ) fun r3 σ4 =>
  (if r3 = 0 then
  some ((-9223372036854775808 : Int64), σ4)
  else
  bc (f_X6_isIn (a2).toInt64 (0 : Int64) (1 : Int64) σ4) fun r10 σ11 =>
  (if r10 = 0 then
  some ((-9223372036854775808 : Int64), σ11)
  else
  chk (isO σ11 6 a0) (bc (f_X6_spansNow a0 a1 σ11) fun r19 σ20 =>
  (if r19 = 0 then
  some ((-9223372036854775807 : Int64), σ20)
  else
  lt ((0 : Int64)) fun v26 =>
  lt ((0 : Int32)) fun v28 =>
  lp_X6_corner_39  1000 a0 a1 a2 v26 v28 σ20)))))
def lp_X6_overMany_4_b  (K4 : Nat → Int32 → Int32 → HS → Option (Int32 × HS)) (x0 : Nat) (x1 : Int32) (x2 : Int32) (τ : HS) : Option (Int32 × HS) :=
  chk (isO τ 6 x0) (lt (hA τ x0 7) fun v7 =>
  (if v7 ≤ x2 then
  some (x1, τ)
  else
  bc (f_X6_spansNow x0 x2 τ) fun r12 σ13 =>
  (if r12 = 0 then
  lt ((x1 + (1 : Int32))) fun v19 =>
  lt (x2 + (1 : Int32)) fun v21 =>
  K4 x0 v19 v21 σ13
  else
  lt ((x1 + (0 : Int32))) fun v23 =>
  lt (x2 + (1 : Int32)) fun v25 =>
  K4 x0 v23 v25 σ13)))
def lp_X6_overMany_4  : Nat → Nat → Int32 → Int32 → HS → Option (Int32 × HS)
  | 0 => fun _ _ _ _ => none
  | n + 1 => lp_X6_overMany_4_b  (lp_X6_overMany_4  n)
def f_X6_overMany (a0 : Nat) (σ : HS) : Option (Int32 × HS) :=
  lt ((0 : Int32)) fun v1 =>
  lt ((0 : Int32)) fun v3 =>
  lp_X6_overMany_4  1000 a0 v1 v3 σ
def lp_X6_spannedMany_4_b  (K4 : Nat → Int32 → Int32 → HS → Option (Int32 × HS)) (x0 : Nat) (x1 : Int32) (x2 : Int32) (τ : HS) : Option (Int32 × HS) :=
  (if (6 : Int32) ≤ x2 then
  some (x1, τ)
  else
  chk (isO τ 6 x0) (bc (f_X6_spanOf x0 x2 τ) fun r10 σ11 =>
  (if r10 ≤ 0 then
  lt ((x1 + (0 : Int32))) fun v17 =>
  lt (x2 + (1 : Int32)) fun v19 =>
  K4 x0 v17 v19 σ11
  else
  lt ((x1 + (1 : Int32))) fun v21 =>
  lt (x2 + (1 : Int32)) fun v23 =>
  K4 x0 v21 v23 σ11)))
def lp_X6_spannedMany_4  : Nat → Nat → Int32 → Int32 → HS → Option (Int32 × HS)
  | 0 => fun _ _ _ _ => none
  | n + 1 => lp_X6_spannedMany_4_b  (lp_X6_spannedMany_4  n)
def f_X6_spannedMany (a0 : Nat) (σ : HS) : Option (Int32 × HS) :=
  lt ((0 : Int32)) fun v1 =>
  lt ((0 : Int32)) fun v3 =>
  lp_X6_spannedMany_4  1000 a0 v1 v3 σ
def f_X6_count (a0 : Nat) (a1 : Int32) (σ : HS) : Option (Int32 × HS) :=
  (if a1 = (0 : Int32) then
  chk (isO σ 6 a0) (lt (hA σ a0 7) fun v6 =>
  some (v6, σ))
  else if a1 = (1 : Int32) then
  chk (isO σ 6 a0) (lt (hA σ a0 16) fun v13 =>
  some (v13, σ))
  else if a1 = (2 : Int32) then
  chk (isO σ 6 a0) (lt (hA σ a0 36) fun v20 =>
  some (v20, σ))
  else if a1 = (3 : Int32) then
  chk (isO σ 6 a0) (bc (f_X6_overMany a0 σ) fun r27 σ28 =>
  some (r27, σ28))
  else if a1 = (4 : Int32) then
  chk (isO σ 6 a0) (bc (f_X6_spannedMany a0 σ) fun r36 σ37 =>
  some (r36, σ37))
  else some ((-2 : Int32), σ))
def b_X6_depthOf (F : Nat → Nat → Int32 → Int32 → HS → Option (Int32 × HS)) (a0 : Nat) (a1 : Int32) (a2 : Int32) (σ : HS) : Option (Int32 × HS) :=
  bc (f_X6_at a1 a2 σ) fun r1 σ2 =>
  chk (isO σ2 6 a0) (bd (hR σ2 a0 2) fun i7 =>
  chk (isO σ2 10 i7 ∧ inb r1 (hlen σ2 i7)) (lt (hA σ2 i7 r1.toNatClampNeg) fun v12 =>
  (if (1 : Int32) < v12 then
  bd (hR σ2 a0 3) fun i17 =>
  chk (isO σ2 10 i17 ∧ inb r1 (hlen σ2 i17)) (lt (hA σ2 i17 r1.toNatClampNeg) fun v22 =>
  bc (F 0 a0 a1 v22 σ2) fun r24 σ25 =>
  chk (isO σ25 6 a0) (bd (hR σ25 a0 2) fun i30 =>
  chk (isO σ25 10 i30 ∧ inb r1 (hlen σ25 i30)) (lt (hA σ25 i30 r1.toNatClampNeg) fun v35 =>
  (if v35 = (2 : Int32) then
  some (((1 : Int32) + r24), σ25)
  else
  bd (hR σ25 a0 4) fun i40 =>
  chk (isO σ25 10 i40 ∧ inb r1 (hlen σ25 i40)) (lt (hA σ25 i40 r1.toNatClampNeg) fun v45 =>
  bc (F 0 a0 a1 v45 σ25) fun r47 σ48 =>
  lt (if r24 < r47 then r47 else r24) fun v51 =>
  some (((1 : Int32) + v51), σ48))))))
  else
  some ((0 : Int32), σ2))))
def g_MD : Nat → Nat → Nat → Int32 → Int32 → HS → Option (Int32 × HS)
  | 0 => fun _ _ _ _ _ => none
  | n + 1 => fun t a0 a1 a2 σ => if t = 0 then b_X6_depthOf (g_MD n) a0 a1 a2 σ else none
def f_X6_depthOf (a0 : Nat) (a1 : Int32) (a2 : Int32) (σ : HS) : Option (Int32 × HS) := g_MD 64 0 a0 a1 a2 σ
def f_X6_drop (a0 : Nat) (σ : HS) : Option (Int32 × HS) :=
  chk (isO σ 6 a0) (lt (hA σ a0 7) fun v3 =>
  (if v3 = 0 then
  some ((-3 : Int32), σ)
  else
  lt (hA σ a0 7) fun v8 =>
  lt (sA σ a0 7 (v8 - (1 : Int32))) fun σ10 =>
  lt (hA σ10 a0 7) fun v13 =>
  some (v13, σ10)))
def lp_X6_ends_29_b  (K29 : Nat → Int32 → Int32 → HS → Option (Int64 × HS)) (x0 : Nat) (x1 : Int32) (x2 : Int32) (τ : HS) : Option (Int64 × HS) :=
  chk (isO τ 6 x0) (lt (hA τ x0 36) fun v27 =>
  (if v27 ≤ x2 then
  bc (f_X6_widthNow x0 x1 τ) fun r32 σ33 =>
  chk (isO σ33 6 x0) (bd (hR σ33 x0 39) fun i38 =>
  bd (hR σ33 x0 0) fun i41 =>
  chk ((isO σ33 10 i38 ∧ isO σ33 10 i41) ∧ ((¬ (0 : Int32) < 0 ∧ ¬ (0 : Int32) < 0 ∧ ¬ (18 : Int32) < 0) ∧ (((0 : Int32)).toNatClampNeg + ((18 : Int32)).toNatClampNeg ≤ hlen σ33 i38 ∧ ((0 : Int32)).toNatClampNeg + ((18 : Int32)).toNatClampNeg ≤ hlen σ33 i41))) (lt (rA σ33 i41 (va_cpy (hA σ33 i38) (hA σ33 i41) ((0 : Int32)).toNatClampNeg ((0 : Int32)).toNatClampNeg ((18 : Int32)).toNatClampNeg)) fun σ46 =>
  some (r32, σ46)))
  else
  bd (hR τ x0 35) fun i49 =>
  chk (isO τ 10 i49 ∧ inb ((3 : Int32) * x2) (hlen τ i49)) (lt (hA τ i49 (((3 : Int32) * x2)).toNatClampNeg) fun v54 =>
  lt (((3 : Int32) * v54)) fun v56 =>
  chk (isO τ 10 i49 ∧ inb (((3 : Int32) * x2) + (2 : Int32)) (hlen τ i49)) (lt (hA τ i49 ((((3 : Int32) * x2) + (2 : Int32))).toNatClampNeg) fun v63 =>
  chk (isO τ 10 i49 ∧ inb (((3 : Int32) * x2) + (1 : Int32)) (hlen τ i49)) (lt (hA τ i49 ((((3 : Int32) * x2) + (1 : Int32))).toNatClampNeg) fun v70 =>
  (if (2 : Int32) ≤ v70 then
  bd (hR τ x0 0) fun i75 =>
  chk (isO τ 10 i75 ∧ inb (v56 + (1 : Int32)) (hlen τ i75)) (lt (hA τ i75 ((v56 + (1 : Int32))).toNatClampNeg) fun v80 =>
  chk (isO τ 10 i75 ∧ inb (v56 + (1 : Int32)) (hlen τ i75)) (lt (sA τ i75 ((v56 + (1 : Int32))).toNatClampNeg (v80 >>> (v63 &&& 31))) fun σ84 =>
  lt (x2 + (1 : Int32)) fun v87 =>
  K29 x0 x1 v87 σ84))
  else
  bd (hR τ x0 0) fun i89 =>
  chk (isO τ 10 i49 ∧ inb (((3 : Int32) * x2) + (1 : Int32)) (hlen τ i49)) (lt (hA τ i49 ((((3 : Int32) * x2) + (1 : Int32))).toNatClampNeg) fun v97 =>
  chk (isO τ 10 i89 ∧ inb (v56 + v97) (hlen τ i89)) (lt (sA τ i89 ((v56 + v97)).toNatClampNeg v63) fun σ101 =>
  lt (x2 + (1 : Int32)) fun v104 =>
  K29 x0 x1 v104 σ101))))))))
def lp_X6_ends_29  : Nat → Nat → Int32 → Int32 → HS → Option (Int64 × HS)
  | 0 => fun _ _ _ _ => none
  | n + 1 => lp_X6_ends_29_b  (lp_X6_ends_29  n)
def f_X6_ends (a0 : Nat) (a1 : Int32) (σ : HS) : Option (Int64 × HS) :=
  chk (isO σ 6 a0) (bc (f_X6_isFormula a0 a1 σ) fun r3 σ4 =>
  (if r3 = 0 then
  some ((-9223372036854775808 : Int64), σ4)
  else
  chk (isO σ4 6 a0) (bd (hR σ4 a0 0) fun i12 =>
  bd (hR σ4 a0 39) fun i15 =>
  chk ((isO σ4 10 i12 ∧ isO σ4 10 i15) ∧ ((¬ (0 : Int32) < 0 ∧ ¬ (0 : Int32) < 0 ∧ ¬ (18 : Int32) < 0) ∧ (((0 : Int32)).toNatClampNeg + ((18 : Int32)).toNatClampNeg ≤ hlen σ4 i12 ∧ ((0 : Int32)).toNatClampNeg + ((18 : Int32)).toNatClampNeg ≤ hlen σ4 i15))) (lt (rA σ4 i15 (va_cpy (hA σ4 i12) (hA σ4 i15) ((0 : Int32)).toNatClampNeg ((0 : Int32)).toNatClampNeg ((18 : Int32)).toNatClampNeg)) fun σ20 =>
  lt ((0 : Int32)) fun v23 =>
  lp_X6_ends_29  1000 a0 a1 v23 σ20))))
def lp_X6_exact_26_b  (K26 : Nat → Int32 → Int32 → HS → Option (Int64 × HS)) (x0 : Nat) (x1 : Int32) (x2 : Int32) (τ : HS) : Option (Int64 × HS) :=
  (if (6 : Int32) ≤ x2 then
  chk (isO τ 6 x0) (bc (f_X6_spans x0 x1 τ) fun r26 σ27 =>
  chk (isO σ27 6 x0) (bc (f_X6_lowOf x0 x1 σ27) fun r32 σ33 =>
  some (r32, σ33)))
  else
  chk (isO τ 6 x0) (bc (f_X6_valueOf x0 x2 τ) fun r38 σ39 =>
  chk (isO σ39 6 x0) (bc (f_X6_laysPoint x0 x2 r38 σ39) fun r44 σ45 =>
  lt (x2 + (1 : Int32)) fun v48 =>
  K26 x0 x1 v48 σ45)))
def lp_X6_exact_26  : Nat → Nat → Int32 → Int32 → HS → Option (Int64 × HS)
  | 0 => fun _ _ _ _ => none
  | n + 1 => lp_X6_exact_26_b  (lp_X6_exact_26  n)
def f_X6_exact (a0 : Nat) (a1 : Int32) (σ : HS) : Option (Int64 × HS) :=
  chk (isO σ 6 a0) (bc (f_X6_isFormula a0 a1 σ) fun r3 σ4 =>
  (if r3 = 0 then
  some ((-9223372036854775808 : Int64), σ4)
  else
  chk (isO σ4 6 a0) (bc (f_X6_spansNow a0 a1 σ4) fun r12 σ13 =>
  (if r12 = 0 then
  some ((-9223372036854775807 : Int64), σ13)
  else
  lt ((0 : Int32)) fun v19 =>
  lp_X6_exact_26  1000 a0 a1 v19 σ13))))
def f_X6_next (a0 : Nat) (σ : HS) : Option (Int32 × HS) :=
  chk (isO σ 6 a0) (lt (hA σ a0 17) fun v3 =>
  lt (hA σ a0 16) fun v5 =>
  (if v5 ≤ v3 then
  some ((0 : Int32), σ)
  else
  bd (hR σ a0 15) fun i10 =>
  lt (hA σ a0 17) fun v13 =>
  chk (isO σ 10 i10 ∧ inb v13 (hlen σ i10)) (lt (hA σ i10 v13.toNatClampNeg) fun v17 =>
  some (v17, σ))))
def f_X6_wrong (a0 : Nat) (σ : HS) : Option (Int32 × HS) :=
  chk (isO σ 6 a0) (lt (sA σ a0 19 (0 : Int32)) fun σ3 =>
  some ((0 : Int32), σ3))
def lp_X6_sums_5_b (F : Nat → Nat → HS → Option (Int32 × HS))  (K5 : Nat → Int32 → HS → Option (Int32 × HS)) (x0 : Nat) (x1 : Int32) (τ : HS) : Option (Int32 × HS) :=
  chk (isO τ 6 x0) (lt (hA τ x0 19) fun v9 =>
  (if v9 = 0 then
  some (x1, τ)
  else
  bc (f_X6_next x0 τ) fun r14 σ15 =>
  (if r14 = (43 : Int32) then
  chk (isO σ15 6 x0) (lt (hA σ15 x0 17) fun v23 =>
  bc (f_X6_next x0 σ15) fun r25 σ26 =>
  (if r25 = (43 : Int32) then
  lt ((3 : Int32)) fun v56 =>
  chk (isO σ26 6 x0) (lt (hA σ26 x0 17) fun v60 =>
  lt (sA σ26 x0 17 (v60 + (1 : Int32))) fun σ62 =>
  bc (F 1 x0 σ62) fun r65 σ66 =>
  chk (isO σ66 6 x0) (lt (hA σ66 x0 19) fun v71 =>
  (if v71 = 0 then
  K5 x0 x1 σ66
  else
  bc (f_X6_comes x0 v56 x1 r65 v23 σ66) fun r76 σ77 =>
  K5 x0 r76 σ77)))
  else
  lt ((4 : Int32)) fun v32 =>
  chk (isO σ26 6 x0) (lt (hA σ26 x0 17) fun v36 =>
  lt (sA σ26 x0 17 (v36 + (1 : Int32))) fun σ38 =>
  bc (F 1 x0 σ38) fun r41 σ42 =>
  chk (isO σ42 6 x0) (lt (hA σ42 x0 19) fun v47 =>
  (if v47 = 0 then
  K5 x0 x1 σ42
  else
  bc (f_X6_comes x0 v32 x1 r41 v23 σ42) fun r52 σ53 =>
  K5 x0 r52 σ53)))))
  else
  chk (isO σ15 6 x0) (bc (f_X6_next x0 σ15) fun r82 σ83 =>
  (if r82 = (45 : Int32) then
  chk (isO σ83 6 x0) (lt (hA σ83 x0 17) fun v91 =>
  bc (f_X6_next x0 σ83) fun r93 σ94 =>
  (if r93 = (43 : Int32) then
  lt ((3 : Int32)) fun v124 =>
  chk (isO σ94 6 x0) (lt (hA σ94 x0 17) fun v128 =>
  lt (sA σ94 x0 17 (v128 + (1 : Int32))) fun σ130 =>
  bc (F 1 x0 σ130) fun r133 σ134 =>
  chk (isO σ134 6 x0) (lt (hA σ134 x0 19) fun v139 =>
  (if v139 = 0 then
  K5 x0 x1 σ134
  else
  bc (f_X6_comes x0 v124 x1 r133 v91 σ134) fun r144 σ145 =>
  K5 x0 r144 σ145)))
  else
  lt ((4 : Int32)) fun v100 =>
  chk (isO σ94 6 x0) (lt (hA σ94 x0 17) fun v104 =>
  lt (sA σ94 x0 17 (v104 + (1 : Int32))) fun σ106 =>
  bc (F 1 x0 σ106) fun r109 σ110 =>
  chk (isO σ110 6 x0) (lt (hA σ110 x0 19) fun v115 =>
  (if v115 = 0 then
  K5 x0 x1 σ110
  else
  bc (f_X6_comes x0 v100 x1 r109 v91 σ110) fun r120 σ121 =>
  K5 x0 r120 σ121)))))
  else
  some (x1, σ83))))))
def lp_X6_sums_5 (F : Nat → Nat → HS → Option (Int32 × HS))  : Nat → Nat → Int32 → HS → Option (Int32 × HS)
  | 0 => fun _ _ _ => none
  | n + 1 => lp_X6_sums_5_b F  (lp_X6_sums_5 F  n)
def b_X6_sums (F : Nat → Nat → HS → Option (Int32 × HS)) (a0 : Nat) (σ : HS) : Option (Int32 × HS) :=
  chk (isO σ 6 a0) (bc (F 1 a0 σ) fun r3 σ4 =>
  lp_X6_sums_5 F  1000 a0 r3 σ4)
def lp_X6_products_5_b (F : Nat → Nat → HS → Option (Int32 × HS))  (K5 : Nat → Int32 → HS → Option (Int32 × HS)) (x0 : Nat) (x1 : Int32) (τ : HS) : Option (Int32 × HS) :=
  chk (isO τ 6 x0) (lt (hA τ x0 19) fun v9 =>
  (if v9 = 0 then
  some (x1, τ)
  else
  bc (f_X6_next x0 τ) fun r14 σ15 =>
  (if r14 = (42 : Int32) then
  chk (isO σ15 6 x0) (lt (hA σ15 x0 17) fun v23 =>
  lt (hA σ15 x0 17) fun v25 =>
  lt (sA σ15 x0 17 (v25 + (1 : Int32))) fun σ27 =>
  bc (F 2 x0 σ27) fun r30 σ31 =>
  chk (isO σ31 6 x0) (lt (hA σ31 x0 19) fun v36 =>
  (if v36 = 0 then
  K5 x0 x1 σ31
  else
  bc (f_X6_comes x0 (5 : Int32) x1 r30 v23 σ31) fun r41 σ42 =>
  K5 x0 r41 σ42)))
  else
  some (x1, σ15))))
def lp_X6_products_5 (F : Nat → Nat → HS → Option (Int32 × HS))  : Nat → Nat → Int32 → HS → Option (Int32 × HS)
  | 0 => fun _ _ _ => none
  | n + 1 => lp_X6_products_5_b F  (lp_X6_products_5 F  n)
def b_X6_products (F : Nat → Nat → HS → Option (Int32 × HS)) (a0 : Nat) (σ : HS) : Option (Int32 × HS) :=
  chk (isO σ 6 a0) (bc (F 2 a0 σ) fun r3 σ4 =>
  lp_X6_products_5 F  1000 a0 r3 σ4)
def lp_X6_factor_85_b (F : Nat → Nat → HS → Option (Int32 × HS))  (K85 : Nat → Int32 → Int32 → Int32 → HS → Option (Int32 × HS)) (x0 : Nat) (x1 : Int32) (x2 : Int32) (x3 : Int32) (τ : HS) : Option (Int32 × HS) :=
  chk (isO τ 6 x0) (lt (hA τ x0 17) fun v42 =>
  (if (4 : Int32) ≤ (v42 - x2) then
  bc (f_X6_comes x0 (1 : Int32) x3 (0 : Int32) x2 τ) fun r47 σ48 =>
  some (r47, σ48)
  else
  bc (f_X6_next x0 τ) fun r51 σ52 =>
  (if r51 < (48 : Int32) then
  chk (isO σ52 6 x0) (bc (f_X6_comes x0 (1 : Int32) x3 (0 : Int32) x2 σ52) fun r60 σ61 =>
  some (r60, σ61))
  else
  chk (isO σ52 6 x0) (bc (f_X6_next x0 σ52) fun r66 σ67 =>
  (if (57 : Int32) < r66 then
  chk (isO σ67 6 x0) (bc (f_X6_comes x0 (1 : Int32) x3 (0 : Int32) x2 σ67) fun r75 σ76 =>
  some (r75, σ76))
  else
  chk (isO σ67 6 x0) (bc (f_X6_next x0 σ67) fun r81 σ82 =>
  lt (((((10 : Int32) * x3) + r81) - (48 : Int32))) fun v85 =>
  chk (isO σ82 6 x0) (lt (hA σ82 x0 17) fun v89 =>
  lt (sA σ82 x0 17 (v89 + (1 : Int32))) fun σ91 =>
  K85 x0 x1 x2 v85 σ91)))))))
def lp_X6_factor_85 (F : Nat → Nat → HS → Option (Int32 × HS))  : Nat → Nat → Int32 → Int32 → Int32 → HS → Option (Int32 × HS)
  | 0 => fun _ _ _ _ _ => none
  | n + 1 => lp_X6_factor_85_b F  (lp_X6_factor_85 F  n)
def b_X6_factor (F : Nat → Nat → HS → Option (Int32 × HS)) (a0 : Nat) (σ : HS) : Option (Int32 × HS) :=
  chk (isO σ 6 a0) (bc (f_X6_next a0 σ) fun r3 σ4 =>
  (if r3 = (40 : Int32) then
  chk (isO σ4 6 a0) (bc (F 3 a0 σ4) fun r12 σ13 =>
  some (r12, σ13))
  else
  (if r3 = (45 : Int32) then
  chk (isO σ4 6 a0) (bc (F 3 a0 σ4) fun r142 σ143 =>
  some (r142, σ143))
  else
  (if r3 < (97 : Int32) then
  (if r3 < (48 : Int32) then
  chk (isO σ4 6 a0) (bc (f_X6_wrong a0 σ4) fun r27 σ28 =>
  some (r27, σ28))
  else
  (if r3 ≤ (57 : Int32) then
  chk (isO σ4 6 a0) (lt (hA σ4 a0 17) fun v36 =>
  lt ((0 : Int32)) fun v38 =>
  lp_X6_factor_85 F  1000 a0 r3 v36 v38 σ4)
  else
  chk (isO σ4 6 a0) (bc (f_X6_wrong a0 σ4) fun r96 σ97 =>
  some (r96, σ97))))
  else
  (if (102 : Int32) < r3 then
  (if r3 < (48 : Int32) then
  chk (isO σ4 6 a0) (bc (f_X6_wrong a0 σ4) fun r108 σ109 =>
  some (r108, σ109))
  else
  (if r3 ≤ (57 : Int32) then
  chk (isO σ4 6 a0) (lt (hA σ4 a0 17) fun v117 =>
  lt ((0 : Int32)) fun v119 =>
  lp_X6_factor_85 F  1000 a0 r3 v117 v119 σ4)
  else
  chk (isO σ4 6 a0) (bc (f_X6_wrong a0 σ4) fun r123 σ124 =>
  some (r123, σ124))))
  else
  chk (isO σ4 6 a0) (lt (hA σ4 a0 17) fun v129 =>
  lt (sA σ4 a0 17 (v129 + (1 : Int32))) fun σ131 =>
  lt (hA σ131 a0 17) fun v134 =>
  bc (f_X6_comes a0 (0 : Int32) (r3 - (97 : Int32)) (0 : Int32) (v134 - (1 : Int32)) σ131) fun r136 σ137 =>
  some (r136, σ137)))))))
def b_X6_opened (F : Nat → Nat → HS → Option (Int32 × HS)) (a0 : Nat) (σ : HS) : Option (Int32 × HS) :=
  chk (isO σ 6 a0) (lt (hA σ a0 17) fun v3 =>
  bc (f_X6_next a0 σ) fun r5 σ6 =>
  (if r5 = (45 : Int32) then
  lt ((1 : Int32)) fun v124 =>
  chk (isO σ6 6 a0) (lt (hA σ6 a0 18) fun v128 =>
  (if v128 = (6 : Int32) then
  bc (f_X6_wrong a0 σ6) fun r232 σ233 =>
  some (r232, σ233)
  else
  lt (hA σ6 a0 18) fun v133 =>
  lt (sA σ6 a0 18 (v133 + (1 : Int32))) fun σ135 =>
  lt (hA σ135 a0 17) fun v138 =>
  lt (sA σ135 a0 17 (v138 + (1 : Int32))) fun σ140 =>
  (if v124 = 0 then
  bc (F 0 a0 σ140) fun r146 σ147 =>
  chk (isO σ147 6 a0) (lt (hA σ147 a0 19) fun v152 =>
  (if v152 = 0 then
  some (r146, σ147)
  else
  lt (hA σ147 a0 18) fun v157 =>
  lt (sA σ147 a0 18 (v157 - (1 : Int32))) fun σ159 =>
  (if v124 = 0 then
  bc (f_X6_next a0 σ159) fun r165 σ166 =>
  (if r165 = (41 : Int32) then
  chk (isO σ166 6 a0) (lt (hA σ166 a0 17) fun v174 =>
  lt (sA σ166 a0 17 (v174 + (1 : Int32))) fun σ176 =>
  some (r146, σ176))
  else
  chk (isO σ166 6 a0) (bc (f_X6_wrong a0 σ166) fun r181 σ182 =>
  some (r181, σ182)))
  else
  bc (f_X6_comes a0 (2 : Int32) r146 (0 : Int32) v3 σ159) fun r185 σ186 =>
  some (r185, σ186))))
  else
  bc (F 2 a0 σ140) fun r189 σ190 =>
  chk (isO σ190 6 a0) (lt (hA σ190 a0 19) fun v195 =>
  (if v195 = 0 then
  some (r189, σ190)
  else
  lt (hA σ190 a0 18) fun v200 =>
  lt (sA σ190 a0 18 (v200 - (1 : Int32))) fun σ202 =>
  (if v124 = 0 then
  bc (f_X6_next a0 σ202) fun r208 σ209 =>
  (if r208 = (41 : Int32) then
  chk (isO σ209 6 a0) (lt (hA σ209 a0 17) fun v217 =>
  lt (sA σ209 a0 17 (v217 + (1 : Int32))) fun σ219 =>
  some (r189, σ219))
  else
  chk (isO σ209 6 a0) (bc (f_X6_wrong a0 σ209) fun r224 σ225 =>
  some (r224, σ225)))
  else
  bc (f_X6_comes a0 (2 : Int32) r189 (0 : Int32) v3 σ202) fun r228 σ229 =>
  some (r228, σ229)))))))
  else
  lt ((0 : Int32)) fun v12 =>
  chk (isO σ6 6 a0) (lt (hA σ6 a0 18) fun v16 =>
  (if v16 = (6 : Int32) then
  bc (f_X6_wrong a0 σ6) fun r120 σ121 =>
  some (r120, σ121)
  else
  lt (hA σ6 a0 18) fun v21 =>
  lt (sA σ6 a0 18 (v21 + (1 : Int32))) fun σ23 =>
  lt (hA σ23 a0 17) fun v26 =>
  lt (sA σ23 a0 17 (v26 + (1 : Int32))) fun σ28 =>
  (if v12 = 0 then
  bc (F 0 a0 σ28) fun r34 σ35 =>
  chk (isO σ35 6 a0) (lt (hA σ35 a0 19) fun v40 =>
  (if v40 = 0 then
  some (r34, σ35)
  else
  lt (hA σ35 a0 18) fun v45 =>
  lt (sA σ35 a0 18 (v45 - (1 : Int32))) fun σ47 =>
  (if v12 = 0 then
  bc (f_X6_next a0 σ47) fun r53 σ54 =>
  (if r53 = (41 : Int32) then
  chk (isO σ54 6 a0) (lt (hA σ54 a0 17) fun v62 =>
  lt (sA σ54 a0 17 (v62 + (1 : Int32))) fun σ64 =>
  some (r34, σ64))
  else
  chk (isO σ54 6 a0) (bc (f_X6_wrong a0 σ54) fun r69 σ70 =>
  some (r69, σ70)))
  else
  bc (f_X6_comes a0 (2 : Int32) r34 (0 : Int32) v3 σ47) fun r73 σ74 =>
  some (r73, σ74))))
  else
  bc (F 2 a0 σ28) fun r77 σ78 =>
  chk (isO σ78 6 a0) (lt (hA σ78 a0 19) fun v83 =>
  (if v83 = 0 then
  some (r77, σ78)
  else
  lt (hA σ78 a0 18) fun v88 =>
  lt (sA σ78 a0 18 (v88 - (1 : Int32))) fun σ90 =>
  (if v12 = 0 then
  bc (f_X6_next a0 σ90) fun r96 σ97 =>
  (if r96 = (41 : Int32) then
  chk (isO σ97 6 a0) (lt (hA σ97 a0 17) fun v105 =>
  lt (sA σ97 a0 17 (v105 + (1 : Int32))) fun σ107 =>
  some (r77, σ107))
  else
  chk (isO σ97 6 a0) (bc (f_X6_wrong a0 σ97) fun r112 σ113 =>
  some (r112, σ113)))
  else
  bc (f_X6_comes a0 (2 : Int32) r77 (0 : Int32) v3 σ90) fun r116 σ117 =>
  some (r116, σ117)))))))))
def g_MP : Nat → Nat → Nat → HS → Option (Int32 × HS)
  | 0 => fun _ _ _ => none
  | n + 1 => fun t a0 σ => if t = 0 then b_X6_sums (g_MP n) a0 σ else if t = 1 then b_X6_products (g_MP n) a0 σ else if t = 2 then b_X6_factor (g_MP n) a0 σ else if t = 3 then b_X6_opened (g_MP n) a0 σ else none
def f_X6_sums (a0 : Nat) (σ : HS) : Option (Int32 × HS) := g_MP 60 0 a0 σ
def f_X6_products (a0 : Nat) (σ : HS) : Option (Int32 × HS) := g_MP 60 1 a0 σ
def f_X6_factor (a0 : Nat) (σ : HS) : Option (Int32 × HS) := g_MP 60 2 a0 σ
def f_X6_opened (a0 : Nat) (σ : HS) : Option (Int32 × HS) := g_MP 60 3 a0 σ
def f_X6_feed (a0 : Nat) (a1 : Int32) (σ : HS) : Option (Int32 × HS) :=
  bc (f_X6_isIn (a1).toInt64 (1 : Int64) (127 : Int64) σ) fun r1 σ2 =>
  (if r1 = 0 then
  some ((-2 : Int32), σ2)
  else
  chk (isO σ2 6 a0) (lt (hA σ2 a0 16) fun v10 =>
  (if v10 = (60 : Int32) then
  some ((-4 : Int32), σ2)
  else
  bd (hR σ2 a0 15) fun i15 =>
  lt (hA σ2 a0 16) fun v18 =>
  chk (isO σ2 10 i15 ∧ inb v18 (hlen σ2 i15)) (lt (sA σ2 i15 v18.toNatClampNeg a1) fun σ22 =>
  lt (hA σ22 a0 16) fun v25 =>
  lt (sA σ22 a0 16 (v25 + (1 : Int32))) fun σ27 =>
  lt (hA σ27 a0 16) fun v30 =>
  some (v30, σ27)))))
def lp_X6_fits_40_b  (K40 : Nat → Int32 → Int32 → Int64 → Int32 → Int32 → Int32 → Int32 → HS → Option (Int32 × HS)) (x0 : Nat) (x1 : Int32) (x2 : Int32) (x3 : Int64) (x5 : Int32) (x6 : Int32) (x7 : Int32) (x8 : Int32) (τ : HS) : Option (Int32 × HS) :=
  (if x8 < (-99 : Int32) then
  (if x5 = 0 then
  some (x6, τ)
  else
  some (x7, τ))
  else
  chk (isO τ 6 x0) (bc (f_X6_laysBox x0 τ) fun r38 σ39 =>
  chk (isO σ39 6 x0) (bc (f_X6_spanOf x0 x2 σ39) fun r44 σ45 =>
  chk (isO σ45 6 x0) (bc (f_X6_spanOf x0 x2 σ45) fun r50 σ51 =>
  chk (isO σ51 6 x0) (bc (f_X6_lays x0 x2 (x8 - r44) (x8 + r50) σ51) fun r56 σ57 =>
  chk (isO σ57 6 x0) (bc (f_X6_spans x0 x1 σ57) fun r62 σ63 =>
  (if r62 = 0 then
  lt (x8 + (-1 : Int32)) fun v69 =>
  K40 x0 x1 x2 x3 x5 x6 x7 v69 σ63
  else
  chk (isO σ63 6 x0) (bc (f_X6_lowOf x0 x1 σ63) fun r73 σ74 =>
  chk (isO σ74 6 x0) (bc (f_X6_highOf x0 x1 σ74) fun r79 σ80 =>
  bc (f_X6_isIn x3 r73 r79 σ80) fun r83 σ84 =>
  (if r83 = 0 then
  lt (x8 + (-1 : Int32)) fun v90 =>
  K40 x0 x1 x2 x3 x5 x6 x7 v90 σ84
  else
  lt (x6 + (1 : Int32)) fun v92 =>
  lt (x8 + (-1 : Int32)) fun v94 =>
  K40 x0 x1 x2 x3 x5 v92 x8 v94 σ84))))))))))
def lp_X6_fits_40  : Nat → Nat → Int32 → Int32 → Int64 → Int32 → Int32 → Int32 → Int32 → HS → Option (Int32 × HS)
  | 0 => fun _ _ _ _ _ _ _ _ _ => none
  | n + 1 => lp_X6_fits_40_b  (lp_X6_fits_40  n)
def f_X6_fits (a0 : Nat) (a1 : Int32) (a2 : Int32) (a3 : Int64) (a5 : Int32) (σ : HS) : Option (Int32 × HS) :=
  chk (isO σ 6 a0) (bc (f_X6_isFormula a0 a1 σ) fun r3 σ4 =>
  (if r3 = 0 then
  some ((-1 : Int32), σ4)
  else
  bc (f_X6_isSource a2 σ4) fun r10 σ11 =>
  (if r10 = 0 then
  some ((-1 : Int32), σ11)
  else
  bc (f_X6_isIn (a5).toInt64 (0 : Int64) (1 : Int64) σ11) fun r17 σ18 =>
  (if r17 = 0 then
  some ((-1 : Int32), σ18)
  else
  lt ((0 : Int32)) fun v24 =>
  lt ((-1000 : Int32)) fun v26 =>
  lt ((99 : Int32)) fun v28 =>
  lp_X6_fits_40  1000 a0 a1 a2 a3 a5 v24 v26 v28 σ18))))
def f_X6_formula (a0 : Nat) (σ : HS) : Option (Int32 × HS) :=
  chk (isO σ 6 a0) (lt (sA σ a0 17 (0 : Int32)) fun σ3 =>
  lt (sA σ3 a0 18 (0 : Int32)) fun σ6 =>
  lt (sA σ6 a0 19 (1 : Int32)) fun σ9 =>
  bd (hR σ9 a0 6) fun i12 =>
  lt (hA σ9 a0 7) fun v15 =>
  chk (isO σ9 10 i12 ∧ inb v15 (hlen σ9 i12)) (lt (sA σ9 i12 v15.toNatClampNeg (0 : Int32)) fun σ19 =>
  bc (f_X6_sums a0 σ19) fun r22 σ23 =>
  chk (isO σ23 6 a0) (lt (hA σ23 a0 19) fun v28 =>
  (if v28 = 0 then
  lt ((0 : Int32)) fun v33 =>
  lt (sA σ23 a0 16 (0 : Int32)) fun σ35 =>
  (if v33 = 0 then
  lt (hA σ35 a0 17) fun v53 =>
  some (((-100 : Int32) - v53), σ35)
  else
  lt (hA σ35 a0 7) fun v41 =>
  (if v41 = (6 : Int32) then
  some ((-4 : Int32), σ35)
  else
  lt (hA σ35 a0 7) fun v46 =>
  lt (sA σ35 a0 7 (v46 + (1 : Int32))) fun σ48 =>
  lt (hA σ48 a0 7) fun v51 =>
  some ((v51 - (1 : Int32)), σ48)))
  else
  lt (hA σ23 a0 17) fun v55 =>
  lt (hA σ23 a0 16) fun v57 =>
  (if v55 = v57 then
  lt ((1 : Int32)) fun v84 =>
  lt (sA σ23 a0 16 (0 : Int32)) fun σ86 =>
  (if v84 = 0 then
  lt (hA σ86 a0 17) fun v104 =>
  some (((-100 : Int32) - v104), σ86)
  else
  lt (hA σ86 a0 7) fun v92 =>
  (if v92 = (6 : Int32) then
  some ((-4 : Int32), σ86)
  else
  lt (hA σ86 a0 7) fun v97 =>
  lt (sA σ86 a0 7 (v97 + (1 : Int32))) fun σ99 =>
  lt (hA σ99 a0 7) fun v102 =>
  some ((v102 - (1 : Int32)), σ99)))
  else
  lt ((0 : Int32)) fun v62 =>
  lt (sA σ23 a0 16 (0 : Int32)) fun σ64 =>
  (if v62 = 0 then
  lt (hA σ64 a0 17) fun v82 =>
  some (((-100 : Int32) - v82), σ64)
  else
  lt (hA σ64 a0 7) fun v70 =>
  (if v70 = (6 : Int32) then
  some ((-4 : Int32), σ64)
  else
  lt (hA σ64 a0 7) fun v75 =>
  lt (sA σ64 a0 7 (v75 + (1 : Int32))) fun σ77 =>
  lt (hA σ77 a0 7) fun v80 =>
  some ((v80 - (1 : Int32)), σ77))))))))
def f_X6_isList (a0 : Int32) (σ : HS) : Option (Int32 × HS) :=
  bc (f_X6_isIn (a0).toInt64 (0 : Int64) (3 : Int64) σ) fun r1 σ2 =>
  chk (bit r1) (some (r1, σ2))
def f_X6_get (a0 : Nat) (a1 : Int32) (a2 : Int32) (σ : HS) : Option (Int64 × HS) :=
  bc (f_X6_isList a1 σ) fun r1 σ2 =>
  (if r1 = 0 then
  some ((-9223372036854775808 : Int64), σ2)
  else
  chk (isO σ2 6 a0) (bd (hR σ2 a0 40) fun i10 =>
  chk (isO σ2 10 i10 ∧ inb a1 (hlen σ2 i10)) (lt (hA σ2 i10 a1.toNatClampNeg) fun v15 =>
  bc (f_X6_isIn (a2).toInt64 (0 : Int64) ((v15 - (1 : Int32))).toInt64 σ2) fun r17 σ18 =>
  (if r17 = 0 then
  some ((-9223372036854775808 : Int64), σ18)
  else
  chk (isO σ18 6 a0) (bd (hR σ18 a0 41) fun i26 =>
  chk (isO σ18 12 i26 ∧ inb (((8 : Int32) * a1) + a2) (hlen σ18 i26)) (lt (hB σ18 i26 ((((8 : Int32) * a1) + a2)).toNatClampNeg) fun v31 =>
  some (v31, σ18)))))))
def lp_X6_goesWay_23_b (K8 : Nat → Int32 → Int32 → Int32 → HS → Option (Unit × HS)) (K23 : Nat → Int32 → Int32 → Int32 → Int32 → Int32 → HS → Option (Unit × HS)) (x0 : Nat) (x1 : Int32) (x2 : Int32) (x3 : Int32) (x4 : Int32) (x5 : Int32) (τ : HS) : Option (Unit × HS) :=
  (if x5 ≤ 0 then
  chk (isO τ 6 x0) (bd (hR τ x0 28) fun i26 =>
  bd (hR τ x0 5) fun i29 =>
  chk (isO τ 10 i29 ∧ inb x4 (hlen τ i29)) (lt (hA τ i29 x4.toNatClampNeg) fun v34 =>
  chk (isO τ 10 i26 ∧ inb (0 : Int32) (hlen τ i26)) (lt (sA τ i26 ((0 : Int32)).toNatClampNeg v34) fun σ38 =>
  lt (x2 + (1 : Int32)) fun v41 =>
  bd (hR σ38 x0 25) fun i43 =>
  bd (hR σ38 x0 3) fun i46 =>
  chk (isO σ38 10 i46 ∧ inb x4 (hlen σ38 i46)) (lt (hA σ38 i46 x4.toNatClampNeg) fun v51 =>
  chk (isO σ38 11 i43 ∧ inb v51 (hlen σ38 i43)) (lt (hA σ38 i43 v51.toNatClampNeg) fun v55 =>
  (if v55 = 0 then
  bd (hR σ38 x0 2) fun i60 =>
  chk (isO σ38 10 i60 ∧ inb x4 (hlen σ38 i60)) (lt (hA σ38 i60 x4.toNatClampNeg) fun v65 =>
  (if v65 ≤ (2 : Int32) then
  lt ((-1 : Int32)) fun v70 =>
  K8 x0 x1 v41 v70 σ38
  else
  bd (hR σ38 x0 4) fun i75 =>
  chk (isO σ38 10 i75 ∧ inb x4 (hlen σ38 i75)) (lt (hA σ38 i75 x4.toNatClampNeg) fun v80 =>
  chk (isO σ38 11 i43 ∧ inb v80 (hlen σ38 i43)) (lt (hA σ38 i43 v80.toNatClampNeg) fun v84 =>
  (if v84 = 0 then
  lt ((-1 : Int32)) fun v89 =>
  K8 x0 x1 v41 v89 σ38
  else
  chk (isO σ38 10 i75 ∧ inb x4 (hlen σ38 i75)) (lt (hA σ38 i75 x4.toNatClampNeg) fun v96 =>
  K8 x0 x1 v41 v96 σ38))))))
  else
  bd (hR σ38 x0 2) fun i98 =>
  chk (isO σ38 10 i98 ∧ inb x4 (hlen σ38 i98)) (lt (hA σ38 i98 x4.toNatClampNeg) fun v103 =>
  (if v103 ≤ (1 : Int32) then
  chk (isO σ38 10 i98 ∧ inb x4 (hlen σ38 i98)) (lt (hA σ38 i98 x4.toNatClampNeg) fun v113 =>
  (if v113 ≤ (2 : Int32) then
  lt ((-1 : Int32)) fun v118 =>
  K8 x0 x1 v41 v118 σ38
  else
  bd (hR σ38 x0 4) fun i123 =>
  chk (isO σ38 10 i123 ∧ inb x4 (hlen σ38 i123)) (lt (hA σ38 i123 x4.toNatClampNeg) fun v128 =>
  chk (isO σ38 11 i43 ∧ inb v128 (hlen σ38 i43)) (lt (hA σ38 i43 v128.toNatClampNeg) fun v132 =>
  (if v132 = 0 then
  lt ((-1 : Int32)) fun v137 =>
  K8 x0 x1 v41 v137 σ38
  else
  chk (isO σ38 10 i123 ∧ inb x4 (hlen σ38 i123)) (lt (hA σ38 i123 x4.toNatClampNeg) fun v144 =>
  K8 x0 x1 v41 v144 σ38))))))
  else
  chk (isO σ38 10 i46 ∧ inb x4 (hlen σ38 i46)) (lt (hA σ38 i46 x4.toNatClampNeg) fun v151 =>
  K8 x0 x1 v41 v151 σ38)))))))))
  else
  chk (isO τ 6 x0) (bd (hR τ x0 28) fun i155 =>
  chk (isO τ 10 i155 ∧ inb (x5 - (1 : Int32)) (hlen τ i155)) (lt (hA τ i155 ((x5 - (1 : Int32))).toNatClampNeg) fun v163 =>
  chk (isO τ 10 i155 ∧ inb x5 (hlen τ i155)) (lt (sA τ i155 x5.toNatClampNeg v163) fun σ167 =>
  lt (x5 + (-1 : Int32)) fun v170 =>
  K23 x0 x1 x2 x3 x4 v170 σ167))))
def lp_X6_goesWay_23 (K8 : Nat → Int32 → Int32 → Int32 → HS → Option (Unit × HS)) : Nat → Nat → Int32 → Int32 → Int32 → Int32 → Int32 → HS → Option (Unit × HS)
  | 0 => fun _ _ _ _ _ _ _ => none
  | n + 1 => lp_X6_goesWay_23_b K8 (lp_X6_goesWay_23 K8 n)
def lp_X6_goesWay_8_b  (K8 : Nat → Int32 → Int32 → Int32 → HS → Option (Unit × HS)) (x0 : Nat) (x1 : Int32) (x2 : Int32) (x3 : Int32) (τ : HS) : Option (Unit × HS) :=
  (if x3 = (-1 : Int32) then
  chk (isO τ 6 x0) (lt (sA τ x0 29 x2) fun σ14 =>
  some ((), σ14))
  else
  bc (f_X6_at x1 x3 τ) fun r17 σ18 =>
  lp_X6_goesWay_23 (K8) 1000 x0 x1 x2 x3 r17 x2 σ18)
def lp_X6_goesWay_8  : Nat → Nat → Int32 → Int32 → Int32 → HS → Option (Unit × HS)
  | 0 => fun _ _ _ _ _ => none
  | n + 1 => lp_X6_goesWay_8_b  (lp_X6_goesWay_8  n)
def f_X6_goesWay (a0 : Nat) (a1 : Int32) (σ : HS) : Option (Unit × HS) :=
  lt ((0 : Int32)) fun v1 =>
  chk (isO σ 6 a0) (bc (f_X6_rootOf a0 a1 σ) fun r5 σ6 =>
  lp_X6_goesWay_8  1000 a0 a1 v1 r5 σ6)
def f_X6_image (a0 : Nat) (σ : HS) : Option (Int32 × HS) :=
  chk (isO σ 6 a0) (bd (hR σ a0 0) fun i3 =>
  bd (hR σ a0 1) fun i6 =>
  bc (f_X6_copies i3 i6 (18 : Int32) σ) fun r9 σ10 =>
  chk (isO σ10 6 a0) (bd (hR σ10 a0 2) fun i15 =>
  bd (hR σ10 a0 8) fun i18 =>
  bc (f_X6_copies i15 i18 (360 : Int32) σ10) fun r21 σ22 =>
  chk (isO σ22 6 a0) (bd (hR σ22 a0 3) fun i27 =>
  bd (hR σ22 a0 9) fun i30 =>
  bc (f_X6_copies i27 i30 (360 : Int32) σ22) fun r33 σ34 =>
  chk (isO σ34 6 a0) (bd (hR σ34 a0 4) fun i39 =>
  bd (hR σ34 a0 10) fun i42 =>
  bc (f_X6_copies i39 i42 (360 : Int32) σ34) fun r45 σ46 =>
  chk (isO σ46 6 a0) (bd (hR σ46 a0 5) fun i51 =>
  bd (hR σ46 a0 11) fun i54 =>
  bc (f_X6_copies i51 i54 (360 : Int32) σ46) fun r57 σ58 =>
  chk (isO σ58 6 a0) (bd (hR σ58 a0 6) fun i63 =>
  bd (hR σ58 a0 12) fun i66 =>
  bc (f_X6_copies i63 i66 (6 : Int32) σ58) fun r69 σ70 =>
  chk (isO σ70 6 a0) (bd (hR σ70 a0 35) fun i75 =>
  bd (hR σ70 a0 37) fun i78 =>
  bc (f_X6_copies i75 i78 (24 : Int32) σ70) fun r81 σ82 =>
  chk (isO σ82 6 a0) (lt (hA σ82 a0 7) fun v87 =>
  lt (sA σ82 a0 13 v87) fun σ89 =>
  lt (hA σ89 a0 36) fun v92 =>
  lt (sA σ89 a0 38 v92) fun σ94 =>
  lt (sA σ94 a0 14 (1 : Int32)) fun σ97 =>
  lt (hA σ97 a0 7) fun v100 =>
  some (v100, σ97)))))))))
def lp_X6_judge_24_b  (K24 : Nat → Int32 → Int32 → HS → Option (Int32 × HS)) (x0 : Nat) (x1 : Int32) (x2 : Int32) (τ : HS) : Option (Int32 × HS) :=
  chk (isO τ 6 x0) (bd (hR τ x0 40) fun i24 =>
  chk (isO τ 10 i24 ∧ inb x1 (hlen τ i24)) (lt (hA τ i24 x1.toNatClampNeg) fun v29 =>
  (if v29 ≤ x2 then
  some ((-5 : Int32), τ)
  else
  lt (hA τ x0 7) fun v34 =>
  (if x2 < v34 then
  bc (f_X6_widthNow x0 x2 τ) fun r39 σ40 =>
  (if (lg_cmp r39 (-9223372036854775807 : Int64)) = 0 then
  some (x2, σ40)
  else
  chk (isO σ40 6 x0) (bd (hR σ40 x0 41) fun i48 =>
  chk (isO σ40 12 i48 ∧ inb (((8 : Int32) * x1) + x2) (hlen σ40 i48)) (lt (hB σ40 i48 ((((8 : Int32) * x1) + x2)).toNatClampNeg) fun v53 =>
  (if (lg_cmp r39 v53) = 0 then
  lt (x2 + (1 : Int32)) fun v58 =>
  K24 x0 x1 v58 σ40
  else
  some (x2, σ40)))))
  else
  some (x2, τ)))))
def lp_X6_judge_24  : Nat → Nat → Int32 → Int32 → HS → Option (Int32 × HS)
  | 0 => fun _ _ _ _ => none
  | n + 1 => lp_X6_judge_24_b  (lp_X6_judge_24  n)
def f_X6_judge (a0 : Nat) (a1 : Int32) (σ : HS) : Option (Int32 × HS) :=
  bc (f_X6_isList a1 σ) fun r1 σ2 =>
  (if r1 = 0 then
  some ((-1 : Int32), σ2)
  else
  chk (isO σ2 6 a0) (bd (hR σ2 a0 40) fun i10 =>
  chk (isO σ2 10 i10 ∧ inb a1 (hlen σ2 i10)) (lt (hA σ2 i10 a1.toNatClampNeg) fun v15 =>
  (if v15 = (-1 : Int32) then
  some ((-11 : Int32), σ2)
  else
  lt ((0 : Int32)) fun v20 =>
  lp_X6_judge_24  1000 a0 a1 v20 σ2))))
def lp_X6_lettersOf_4_b  (K4 : Nat → Int32 → Int32 → Int32 → HS → Option (Int32 × HS)) (x0 : Nat) (x1 : Int32) (x2 : Int32) (x3 : Int32) (τ : HS) : Option (Int32 × HS) :=
  chk (isO τ 6 x0) (bd (hR τ x0 6) fun i7 =>
  chk (isO τ 10 i7 ∧ inb x1 (hlen τ i7)) (lt (hA τ i7 x1.toNatClampNeg) fun v12 =>
  (if v12 ≤ x3 then
  some (x2, τ)
  else
  bd (hR τ x0 2) fun i17 =>
  bc (f_X6_at x1 x3 τ) fun r20 σ21 =>
  chk (isO σ21 10 i17 ∧ inb r20 (hlen σ21 i17)) (lt (hA σ21 i17 r20.toNatClampNeg) fun v26 =>
  (if v26 = 0 then
  chk (isO σ21 6 x0) (bd (hR σ21 x0 3) fun i37 =>
  bc (f_X6_at x1 x3 σ21) fun r40 σ41 =>
  chk (isO σ41 10 i37 ∧ inb r40 (hlen σ41 i37)) (lt (hA σ41 i37 r40.toNatClampNeg) fun v46 =>
  lt ((x2 ||| ((1 : Int32) <<< (v46 &&& 31)))) fun v48 =>
  lt (x3 + (1 : Int32)) fun v50 =>
  K4 x0 x1 v48 v50 σ41))
  else
  lt ((x2 ||| (0 : Int32))) fun v31 =>
  lt (x3 + (1 : Int32)) fun v33 =>
  K4 x0 x1 v31 v33 σ21)))))
def lp_X6_lettersOf_4  : Nat → Nat → Int32 → Int32 → Int32 → HS → Option (Int32 × HS)
  | 0 => fun _ _ _ _ _ => none
  | n + 1 => lp_X6_lettersOf_4_b  (lp_X6_lettersOf_4  n)
def f_X6_lettersOf (a0 : Nat) (a1 : Int32) (σ : HS) : Option (Int32 × HS) :=
  lt ((0 : Int32)) fun v1 =>
  lt ((0 : Int32)) fun v3 =>
  lp_X6_lettersOf_4  1000 a0 a1 v1 v3 σ
def lp_X6_likeOf_28_b (K8 : Nat → Int32 → Int32 → Int32 → Int32 → Int32 → HS → Option (Int32 × HS)) (K28 : Nat → Int32 → Int32 → Int32 → Int32 → Int32 → Int32 → Int32 → Int32 → HS → Option (Int32 × HS)) (x0 : Nat) (x1 : Int32) (x2 : Int32) (x3 : Int32) (x4 : Int32) (x5 : Int32) (x6 : Int32) (x7 : Int32) (x8 : Int32) (τ : HS) : Option (Int32 × HS) :=
  chk (isO τ 6 x0) (bd (hR τ x0 6) fun i30 =>
  chk (isO τ 10 i30 ∧ inb x1 (hlen τ i30)) (lt (hA τ i30 x1.toNatClampNeg) fun v35 =>
  (if v35 ≤ x8 then
  (if x7 = 0 then
  lt ((x3 + (0 : Int32))) fun v43 =>
  lt (if x4 < x6 then x6 else x4) fun v45 =>
  lt (x5 + (1 : Int32)) fun v47 =>
  K8 x0 x1 x2 v43 v45 v47 τ
  else
  lt ((x3 + (1 : Int32))) fun v49 =>
  lt (if x4 < x6 then x6 else x4) fun v51 =>
  lt (x5 + (1 : Int32)) fun v53 =>
  K8 x0 x1 x2 v49 v51 v53 τ)
  else
  bc (f_X6_areAlike x0 x1 x5 x1 x8 τ) fun r55 σ56 =>
  (if r55 = 0 then
  lt ((x6 + (0 : Int32))) fun v62 =>
  (if x7 = 0 then
  lt ((0 : Int32)) fun v67 =>
  lt (x8 + (1 : Int32)) fun v69 =>
  K28 x0 x1 x2 x3 x4 x5 v62 v67 v69 σ56
  else
  (if r55 = 0 then
  lt ((1 : Int32)) fun v74 =>
  lt (x8 + (1 : Int32)) fun v76 =>
  K28 x0 x1 x2 x3 x4 x5 v62 v74 v76 σ56
  else
  (if x8 < x5 then
  lt ((0 : Int32)) fun v81 =>
  lt (x8 + (1 : Int32)) fun v83 =>
  K28 x0 x1 x2 x3 x4 x5 v62 v81 v83 σ56
  else
  lt ((1 : Int32)) fun v85 =>
  lt (x8 + (1 : Int32)) fun v87 =>
  K28 x0 x1 x2 x3 x4 x5 v62 v85 v87 σ56)))
  else
  lt ((x6 + (1 : Int32))) fun v89 =>
  (if x7 = 0 then
  lt ((0 : Int32)) fun v94 =>
  lt (x8 + (1 : Int32)) fun v96 =>
  K28 x0 x1 x2 x3 x4 x5 v89 v94 v96 σ56
  else
  (if r55 = 0 then
  lt ((1 : Int32)) fun v101 =>
  lt (x8 + (1 : Int32)) fun v103 =>
  K28 x0 x1 x2 x3 x4 x5 v89 v101 v103 σ56
  else
  (if x8 < x5 then
  lt ((0 : Int32)) fun v108 =>
  lt (x8 + (1 : Int32)) fun v110 =>
  K28 x0 x1 x2 x3 x4 x5 v89 v108 v110 σ56
  else
  lt ((1 : Int32)) fun v112 =>
  lt (x8 + (1 : Int32)) fun v114 =>
  K28 x0 x1 x2 x3 x4 x5 v89 v112 v114 σ56)))))))
def lp_X6_likeOf_28 (K8 : Nat → Int32 → Int32 → Int32 → Int32 → Int32 → HS → Option (Int32 × HS)) : Nat → Nat → Int32 → Int32 → Int32 → Int32 → Int32 → Int32 → Int32 → Int32 → HS → Option (Int32 × HS)
  | 0 => fun _ _ _ _ _ _ _ _ _ _ => none
  | n + 1 => lp_X6_likeOf_28_b K8 (lp_X6_likeOf_28 K8 n)
def lp_X6_likeOf_8_b  (K8 : Nat → Int32 → Int32 → Int32 → Int32 → Int32 → HS → Option (Int32 × HS)) (x0 : Nat) (x1 : Int32) (x2 : Int32) (x3 : Int32) (x4 : Int32) (x5 : Int32) (τ : HS) : Option (Int32 × HS) :=
  chk (isO τ 6 x0) (bd (hR τ x0 6) fun i9 =>
  chk (isO τ 10 i9 ∧ inb x1 (hlen τ i9)) (lt (hA τ i9 x1.toNatClampNeg) fun v14 =>
  (if v14 ≤ x5 then
  (if x2 = 0 then
  some (x3, τ)
  else
  some (x4, τ))
  else
  lt ((0 : Int32)) fun v22 =>
  lt ((1 : Int32)) fun v24 =>
  lt ((0 : Int32)) fun v26 =>
  lp_X6_likeOf_28 (K8) 1000 x0 x1 x2 x3 x4 x5 v22 v24 v26 τ)))
def lp_X6_likeOf_8  : Nat → Nat → Int32 → Int32 → Int32 → Int32 → Int32 → HS → Option (Int32 × HS)
  | 0 => fun _ _ _ _ _ _ _ => none
  | n + 1 => lp_X6_likeOf_8_b  (lp_X6_likeOf_8  n)
def f_X6_likeOf (a0 : Nat) (a1 : Int32) (a2 : Int32) (σ : HS) : Option (Int32 × HS) :=
  lt ((0 : Int32)) fun v1 =>
  lt ((0 : Int32)) fun v3 =>
  lt ((0 : Int32)) fun v5 =>
  lp_X6_likeOf_8  1000 a0 a1 a2 v1 v3 v5 σ
def lp_X6_list_34_b  (K34 : Nat → Int32 → Int32 → Int32 → HS → Option (Int32 × HS)) (x0 : Nat) (x1 : Int32) (x2 : Int32) (x3 : Int32) (τ : HS) : Option (Int32 × HS) :=
  (if (8 : Int32) ≤ x3 then
  some ((1 : Int32), τ)
  else
  chk (isO τ 6 x0) (bd (hR τ x0 41) fun i31 =>
  chk (isO τ 12 i31 ∧ inb (((8 : Int32) * x1) + x3) (hlen τ i31)) (lt (sB τ i31 ((((8 : Int32) * x1) + x3)).toNatClampNeg (0 : Int64)) fun σ36 =>
  lt (x3 + (1 : Int32)) fun v39 =>
  K34 x0 x1 x2 v39 σ36)))
def lp_X6_list_34  : Nat → Nat → Int32 → Int32 → Int32 → HS → Option (Int32 × HS)
  | 0 => fun _ _ _ _ _ => none
  | n + 1 => lp_X6_list_34_b  (lp_X6_list_34  n)
def f_X6_list (a0 : Nat) (a1 : Int32) (a2 : Int32) (σ : HS) : Option (Int32 × HS) :=
  bc (f_X6_isList a1 σ) fun r1 σ2 =>
  (if r1 = 0 then
  some ((-1 : Int32), σ2)
  else
  (if a2 ≤ (8 : Int32) then
  (if 0 ≤ a2 then
  chk (isO σ2 6 a0) (bd (hR σ2 a0 40) fun i16 =>
  chk (isO σ2 10 i16 ∧ inb a1 (hlen σ2 i16)) (lt (sA σ2 i16 a1.toNatClampNeg a2) fun σ21 =>
  lt ((0 : Int32)) fun v24 =>
  lp_X6_list_34  1000 a0 a1 a2 v24 σ21))
  else
  some ((-14 : Int32), σ2))
  else
  some ((-2 : Int32), σ2)))
def lp_X6_lowest_6_b  (K6 : Int64 → Int64 → Int32 → Int64 → Int64 → HS → Option (Int64 × HS)) (x0 : Int64) (x2 : Int64) (x4 : Int32) (x5 : Int64) (x7 : Int64) (τ : HS) : Option (Int64 × HS) :=
  (if (lg_cmp x7 (0 : Int64)) = 0 then
  (if x4 = 0 then
  chk (¬ x5 = 0) (some ((x0 / x5), τ))
  else
  chk (¬ x5 = 0) (some ((x2 / x5), τ)))
  else
  chk (¬ x7 = 0) (lt ((x5 - x5 / x7 * x7)) fun v13 =>
  K6 x0 x2 x4 x7 v13 τ))
def lp_X6_lowest_6  : Nat → Int64 → Int64 → Int32 → Int64 → Int64 → HS → Option (Int64 × HS)
  | 0 => fun _ _ _ _ _ _ => none
  | n + 1 => lp_X6_lowest_6_b  (lp_X6_lowest_6  n)
def f_X6_lowest (a0 : Int64) (a2 : Int64) (a4 : Int32) (σ : HS) : Option (Int64 × HS) :=
  lp_X6_lowest_6  1000 a0 a2 a4 a0 a2 σ
def lp_X6_odds_68_b (K53 : Nat → Int32 → Int32 → Int32 → Int64 → Int64 → Int32 → Int32 → Int32 → HS → Option (Int64 × HS)) (K68 : Nat → Int32 → Int32 → Int32 → Int64 → Int64 → Int32 → Int32 → Int32 → Int32 → Int32 → HS → Option (Int64 × HS)) (x0 : Nat) (x1 : Int32) (x2 : Int32) (x3 : Int32) (x4 : Int64) (x6 : Int64) (x8 : Int32) (x9 : Int32) (x10 : Int32) (x11 : Int32) (x12 : Int32) (τ : HS) : Option (Int64 × HS) :=
  (if (6 : Int32) ≤ x12 then
  chk (isO τ 6 x0) (bc (f_X6_spans x0 x1 τ) fun r53 σ54 =>
  chk (isO σ54 6 x0) (bc (f_X6_lowOf x0 x1 σ54) fun r59 σ60 =>
  bc (f_X6_isIn r59 x4 x6 σ60) fun r63 σ64 =>
  (if r63 = 0 then
  lt ((x9 + (0 : Int32))) fun v70 =>
  lt (x10 + (1 : Int32)) fun v72 =>
  K53 x0 x1 x2 x3 x4 x6 x8 v70 v72 σ64
  else
  lt ((x9 + (1 : Int32))) fun v74 =>
  lt (x10 + (1 : Int32)) fun v76 =>
  K53 x0 x1 x2 x3 x4 x6 x8 v74 v76 σ64)))
  else
  lt (((x11 * (1103515245 : Int32)) + (12345 : Int32))) fun v78 =>
  chk (isO τ 6 x0) (bc (f_X6_valueOf x0 x12 τ) fun r82 σ83 =>
  chk (isO σ83 6 x0) (bc (f_X6_spanOf x0 x12 σ83) fun r88 σ89 =>
  chk (isO σ89 6 x0) (bc (f_X6_spanOf x0 x12 σ89) fun r94 σ95 =>
  chk (¬ (((2 : Int32) * r94) + (1 : Int32)) = 0) (chk (isO σ95 6 x0) (bc (f_X6_laysPoint x0 x12 ((r82 - r88) + (((v78 &&& (2147483647 : Int32)) / (65536 : Int32)) - ((v78 &&& (2147483647 : Int32)) / (65536 : Int32)) / (((2 : Int32) * r94) + (1 : Int32)) * (((2 : Int32) * r94) + (1 : Int32)))) σ95) fun r102 σ103 =>
  lt (x12 + (1 : Int32)) fun v106 =>
  K68 x0 x1 x2 x3 x4 x6 x8 x9 x10 v78 v106 σ103))))))
def lp_X6_odds_68 (K53 : Nat → Int32 → Int32 → Int32 → Int64 → Int64 → Int32 → Int32 → Int32 → HS → Option (Int64 × HS)) : Nat → Nat → Int32 → Int32 → Int32 → Int64 → Int64 → Int32 → Int32 → Int32 → Int32 → Int32 → HS → Option (Int64 × HS)
  | 0 => fun _ _ _ _ _ _ _ _ _ _ _ _ => none
  | n + 1 => lp_X6_odds_68_b K53 (lp_X6_odds_68 K53 n)
def lp_X6_odds_53_b  (K53 : Nat → Int32 → Int32 → Int32 → Int64 → Int64 → Int32 → Int32 → Int32 → HS → Option (Int64 × HS)) (x0 : Nat) (x1 : Int32) (x2 : Int32) (x3 : Int32) (x4 : Int64) (x6 : Int64) (x8 : Int32) (x9 : Int32) (x10 : Int32) (τ : HS) : Option (Int64 × HS) :=
  (if x3 ≤ x10 then
  bc (f_X6_lowest (x9).toInt64 (x3).toInt64 x8 τ) fun r40 σ41 =>
  some (r40, σ41)
  else
  lt ((x2 + x10)) fun v44 =>
  lt ((0 : Int32)) fun v46 =>
  lp_X6_odds_68 (K53) 1000 x0 x1 x2 x3 x4 x6 x8 x9 x10 v44 v46 τ)
def lp_X6_odds_53  : Nat → Nat → Int32 → Int32 → Int32 → Int64 → Int64 → Int32 → Int32 → Int32 → HS → Option (Int64 × HS)
  | 0 => fun _ _ _ _ _ _ _ _ _ _ => none
  | n + 1 => lp_X6_odds_53_b  (lp_X6_odds_53  n)
def f_X6_odds (a0 : Nat) (a1 : Int32) (a2 : Int32) (a3 : Int32) (a4 : Int64) (a6 : Int64) (a8 : Int32) (σ : HS) : Option (Int64 × HS) :=
  chk (isO σ 6 a0) (bc (f_X6_isFormula a0 a1 σ) fun r3 σ4 =>
  (if r3 = 0 then
  some ((-9223372036854775808 : Int64), σ4)
  else
  bc (f_X6_isIn (a3).toInt64 (1 : Int64) (30 : Int64) σ4) fun r10 σ11 =>
  (if r10 = 0 then
  some ((-9223372036854775808 : Int64), σ11)
  else
  bc (f_X6_isIn (a8).toInt64 (0 : Int64) (1 : Int64) σ11) fun r17 σ18 =>
  (if r17 = 0 then
  some ((-9223372036854775808 : Int64), σ18)
  else
  chk (isO σ18 6 a0) (bc (f_X6_spansNow a0 a1 σ18) fun r26 σ27 =>
  (if r26 = 0 then
  some ((-9223372036854775807 : Int64), σ27)
  else
  lt ((0 : Int32)) fun v33 =>
  lt ((0 : Int32)) fun v35 =>
  lp_X6_odds_53  1000 a0 a1 a2 a3 a4 a6 a8 v33 v35 σ27))))))
def f_X6_parts (a0 : Nat) (a1 : Int32) (a2 : Int32) (σ : HS) : Option (Int32 × HS) :=
  chk (isO σ 6 a0) (bc (f_X6_isFormula a0 a1 σ) fun r3 σ4 =>
  (if r3 = 0 then
  some ((-1 : Int32), σ4)
  else
  (if a2 = (0 : Int32) then
  chk (isO σ4 6 a0) (bd (hR σ4 a0 6) fun i15 =>
  chk (isO σ4 10 i15 ∧ inb a1 (hlen σ4 i15)) (lt (hA σ4 i15 a1.toNatClampNeg) fun v20 =>
  some (v20, σ4)))
  else if a2 = (1 : Int32) then
  (if a2 = (2 : Int32) then
  chk (isO σ4 6 a0) (bc (f_X6_likeOf a0 a1 (1 : Int32) σ4) fun r36 σ37 =>
  some (r36, σ37))
  else
  chk (isO σ4 6 a0) (bc (f_X6_likeOf a0 a1 (0 : Int32) σ4) fun r30 σ31 =>
  some (r30, σ31)))
  else if a2 = (2 : Int32) then
  (if a2 = (2 : Int32) then
  chk (isO σ4 6 a0) (bc (f_X6_likeOf a0 a1 (1 : Int32) σ4) fun r54 σ55 =>
  some (r54, σ55))
  else
  chk (isO σ4 6 a0) (bc (f_X6_likeOf a0 a1 (0 : Int32) σ4) fun r48 σ49 =>
  some (r48, σ49)))
  else if a2 = (3 : Int32) then
  chk (isO σ4 6 a0) (bc (f_X6_lettersOf a0 a1 σ4) fun r63 σ64 =>
  some (r63, σ64))
  else if a2 = (4 : Int32) then
  chk (isO σ4 6 a0) (bc (f_X6_rootOf a0 a1 σ4) fun r72 σ73 =>
  chk (isO σ73 6 a0) (bc (f_X6_depthOf a0 a1 r72 σ73) fun r78 σ79 =>
  some (r78, σ79)))
  else some ((-1 : Int32), σ4))))
def f_X6_plan (a0 : Nat) (a1 : Int32) (a2 : Int32) (a3 : Int32) (σ : HS) : Option (Int32 × HS) :=
  (if a1 = (-1 : Int32) then
  chk (isO σ 6 a0) (lt (sA σ a0 36 (0 : Int32)) fun σ179 =>
  some ((0 : Int32), σ179))
  else
  bc (f_X6_isSource a1 σ) fun r4 σ5 =>
  (if r4 = 0 then
  some ((-1 : Int32), σ5)
  else
  bc (f_X6_isIn (a2).toInt64 (0 : Int64) (2 : Int64) σ5) fun r11 σ12 =>
  (if r11 = 0 then
  some ((-1 : Int32), σ12)
  else
  (if a2 = 0 then
  bc (f_X6_isIn (a3).toInt64 (-99 : Int64) (99 : Int64) σ12) fun r126 σ127 =>
  (if r126 = 0 then
  some ((-2 : Int32), σ127)
  else
  chk (isO σ127 6 a0) (lt (hA σ127 a0 36) fun v135 =>
  (if v135 = (8 : Int32) then
  some ((-4 : Int32), σ127)
  else
  bd (hR σ127 a0 35) fun i140 =>
  lt (hA σ127 a0 36) fun v143 =>
  chk (isO σ127 10 i140 ∧ inb ((3 : Int32) * v143) (hlen σ127 i140)) (lt (sA σ127 i140 (((3 : Int32) * v143)).toNatClampNeg a1) fun σ147 =>
  bd (hR σ147 a0 35) fun i150 =>
  lt (hA σ147 a0 36) fun v153 =>
  chk (isO σ147 10 i150 ∧ inb (((3 : Int32) * v153) + (1 : Int32)) (hlen σ147 i150)) (lt (sA σ147 i150 ((((3 : Int32) * v153) + (1 : Int32))).toNatClampNeg a2) fun σ157 =>
  bd (hR σ157 a0 35) fun i160 =>
  lt (hA σ157 a0 36) fun v163 =>
  chk (isO σ157 10 i160 ∧ inb (((3 : Int32) * v163) + (2 : Int32)) (hlen σ157 i160)) (lt (sA σ157 i160 ((((3 : Int32) * v163) + (2 : Int32))).toNatClampNeg a3) fun σ167 =>
  lt (hA σ167 a0 36) fun v170 =>
  lt (sA σ167 a0 36 (v170 + (1 : Int32))) fun σ172 =>
  lt (hA σ172 a0 36) fun v175 =>
  some (v175, σ172)))))))
  else
  (if a2 = (1 : Int32) then
  bc (f_X6_isIn (a3).toInt64 (0 : Int64) (20 : Int64) σ12) fun r75 σ76 =>
  (if r75 = 0 then
  some ((-2 : Int32), σ76)
  else
  chk (isO σ76 6 a0) (lt (hA σ76 a0 36) fun v84 =>
  (if v84 = (8 : Int32) then
  some ((-4 : Int32), σ76)
  else
  bd (hR σ76 a0 35) fun i89 =>
  lt (hA σ76 a0 36) fun v92 =>
  chk (isO σ76 10 i89 ∧ inb ((3 : Int32) * v92) (hlen σ76 i89)) (lt (sA σ76 i89 (((3 : Int32) * v92)).toNatClampNeg a1) fun σ96 =>
  bd (hR σ96 a0 35) fun i99 =>
  lt (hA σ96 a0 36) fun v102 =>
  chk (isO σ96 10 i99 ∧ inb (((3 : Int32) * v102) + (1 : Int32)) (hlen σ96 i99)) (lt (sA σ96 i99 ((((3 : Int32) * v102) + (1 : Int32))).toNatClampNeg a2) fun σ106 =>
  bd (hR σ106 a0 35) fun i109 =>
  lt (hA σ106 a0 36) fun v112 =>
  chk (isO σ106 10 i109 ∧ inb (((3 : Int32) * v112) + (2 : Int32)) (hlen σ106 i109)) (lt (sA σ106 i109 ((((3 : Int32) * v112) + (2 : Int32))).toNatClampNeg a3) fun σ116 =>
  lt (hA σ116 a0 36) fun v119 =>
  lt (sA σ116 a0 36 (v119 + (1 : Int32))) fun σ121 =>
  lt (hA σ121 a0 36) fun v124 =>
  some (v124, σ121)))))))
  else
  bc (f_X6_isIn (a3).toInt64 (0 : Int64) (4 : Int64) σ12) fun r24 σ25 =>
  (if r24 = 0 then
  some ((-2 : Int32), σ25)
  else
  chk (isO σ25 6 a0) (lt (hA σ25 a0 36) fun v33 =>
  (if v33 = (8 : Int32) then
  some ((-4 : Int32), σ25)
  else
  bd (hR σ25 a0 35) fun i38 =>
  lt (hA σ25 a0 36) fun v41 =>
  chk (isO σ25 10 i38 ∧ inb ((3 : Int32) * v41) (hlen σ25 i38)) (lt (sA σ25 i38 (((3 : Int32) * v41)).toNatClampNeg a1) fun σ45 =>
  bd (hR σ45 a0 35) fun i48 =>
  lt (hA σ45 a0 36) fun v51 =>
  chk (isO σ45 10 i48 ∧ inb (((3 : Int32) * v51) + (1 : Int32)) (hlen σ45 i48)) (lt (sA σ45 i48 ((((3 : Int32) * v51) + (1 : Int32))).toNatClampNeg a2) fun σ55 =>
  bd (hR σ55 a0 35) fun i58 =>
  lt (hA σ55 a0 36) fun v61 =>
  chk (isO σ55 10 i58 ∧ inb (((3 : Int32) * v61) + (2 : Int32)) (hlen σ55 i58)) (lt (sA σ55 i58 ((((3 : Int32) * v61) + (2 : Int32))).toNatClampNeg a3) fun σ65 =>
  lt (hA σ65 a0 36) fun v68 =>
  lt (sA σ65 a0 36 (v68 + (1 : Int32))) fun σ70 =>
  lt (hA σ70 a0 36) fun v73 =>
  some (v73, σ70))))))))))))
def f_X6_put (a0 : Nat) (a1 : Int32) (a2 : Int32) (a3 : Int64) (σ : HS) : Option (Int32 × HS) :=
  bc (f_X6_isList a1 σ) fun r1 σ2 =>
  (if r1 = 0 then
  some ((-1 : Int32), σ2)
  else
  chk (isO σ2 6 a0) (bd (hR σ2 a0 40) fun i10 =>
  chk (isO σ2 10 i10 ∧ inb a1 (hlen σ2 i10)) (lt (hA σ2 i10 a1.toNatClampNeg) fun v15 =>
  (if v15 = (-1 : Int32) then
  some ((-11 : Int32), σ2)
  else
  chk (isO σ2 10 i10 ∧ inb a1 (hlen σ2 i10)) (lt (hA σ2 i10 a1.toNatClampNeg) fun v25 =>
  bc (f_X6_isIn (a2).toInt64 (0 : Int64) ((v25 - (1 : Int32))).toInt64 σ2) fun r27 σ28 =>
  (if r27 = 0 then
  some ((-13 : Int32), σ28)
  else
  chk (isO σ28 6 a0) (bd (hR σ28 a0 41) fun i36 =>
  chk (isO σ28 12 i36 ∧ inb (((8 : Int32) * a1) + a2) (hlen σ28 i36)) (lt (sB σ28 i36 ((((8 : Int32) * a1) + a2)).toNatClampNeg a3) fun σ41 =>
  some ((1 : Int32), σ41)))))))))
def f_X6_rises (a0 : Nat) (a1 : Int32) (a2 : Int32) (σ : HS) : Option (Int32 × HS) :=
  chk (isO σ 6 a0) (bc (f_X6_isFormula a0 a1 σ) fun r3 σ4 =>
  (if r3 = 0 then
  some ((-1 : Int32), σ4)
  else
  bc (f_X6_isSource a2 σ4) fun r10 σ11 =>
  (if r10 = 0 then
  some ((-1 : Int32), σ11)
  else
  chk (isO σ11 6 a0) (bc (f_X6_spansNow a0 a1 σ11) fun r19 σ20 =>
  (if r19 = 0 then
  some ((-6 : Int32), σ20)
  else
  chk (isO σ20 6 a0) (bc (f_X6_changeOf a0 a1 a2 σ20) fun r28 σ29 =>
  some (r28, σ29)))))))
def f_X6_set (a0 : Nat) (a1 : Int32) (a2 : Int32) (a3 : Int32) (σ : HS) : Option (Int32 × HS) :=
  bc (f_X6_isSource a1 σ) fun r1 σ2 =>
  (if r1 = 0 then
  some ((-1000 : Int32), σ2)
  else
  bc (f_X6_isIn (a2).toInt64 (0 : Int64) (2 : Int64) σ2) fun r8 σ9 =>
  (if r8 = 0 then
  some ((-1000 : Int32), σ9)
  else
  (if a2 = 0 then
  bc (f_X6_isIn (a3).toInt64 (-99 : Int64) (99 : Int64) σ9) fun r69 σ70 =>
  (if r69 = 0 then
  some ((-1001 : Int32), σ70)
  else
  chk (isO σ70 6 a0) (bd (hR σ70 a0 0) fun i78 =>
  chk (isO σ70 10 i78 ∧ inb (((3 : Int32) * a1) + a2) (hlen σ70 i78)) (lt (hA σ70 i78 ((((3 : Int32) * a1) + a2)).toNatClampNeg) fun v83 =>
  chk (isO σ70 10 i78 ∧ inb (((3 : Int32) * a1) + a2) (hlen σ70 i78)) (lt (sA σ70 i78 ((((3 : Int32) * a1) + a2)).toNatClampNeg a3) fun σ90 =>
  some (v83, σ90)))))
  else
  (if a2 = (1 : Int32) then
  bc (f_X6_isIn (a3).toInt64 (0 : Int64) (20 : Int64) σ9) fun r45 σ46 =>
  (if r45 = 0 then
  some ((-1001 : Int32), σ46)
  else
  chk (isO σ46 6 a0) (bd (hR σ46 a0 0) fun i54 =>
  chk (isO σ46 10 i54 ∧ inb (((3 : Int32) * a1) + a2) (hlen σ46 i54)) (lt (hA σ46 i54 ((((3 : Int32) * a1) + a2)).toNatClampNeg) fun v59 =>
  chk (isO σ46 10 i54 ∧ inb (((3 : Int32) * a1) + a2) (hlen σ46 i54)) (lt (sA σ46 i54 ((((3 : Int32) * a1) + a2)).toNatClampNeg a3) fun σ66 =>
  some (v59, σ66)))))
  else
  bc (f_X6_isIn (a3).toInt64 (0 : Int64) (99 : Int64) σ9) fun r21 σ22 =>
  (if r21 = 0 then
  some ((-1001 : Int32), σ22)
  else
  chk (isO σ22 6 a0) (bd (hR σ22 a0 0) fun i30 =>
  chk (isO σ22 10 i30 ∧ inb (((3 : Int32) * a1) + a2) (hlen σ22 i30)) (lt (hA σ22 i30 ((((3 : Int32) * a1) + a2)).toNatClampNeg) fun v35 =>
  chk (isO σ22 10 i30 ∧ inb (((3 : Int32) * a1) + a2) (hlen σ22 i30)) (lt (sA σ22 i30 ((((3 : Int32) * a1) + a2)).toNatClampNeg a3) fun σ42 =>
  some (v35, σ42)))))))))
def f_X6_span (a0 : Nat) (a1 : Int32) (a2 : Int32) (σ : HS) : Option (Int64 × HS) :=
  chk (isO σ 6 a0) (bc (f_X6_isFormula a0 a1 σ) fun r3 σ4 =>
  (if r3 = 0 then
  some ((-9223372036854775808 : Int64), σ4)
  else
  bc (f_X6_isIn (a2).toInt64 (0 : Int64) (2 : Int64) σ4) fun r10 σ11 =>
  (if r10 = 0 then
  some ((-9223372036854775808 : Int64), σ11)
  else
  chk (isO σ11 6 a0) (bc (f_X6_spansNow a0 a1 σ11) fun r19 σ20 =>
  (if r19 = 0 then
  chk (isO σ20 6 a0) (bc (f_X6_goesWay a0 a1 σ20) fun r52 σ53 =>
  some ((-9223372036854775807 : Int64), σ53))
  else
  (if a2 = 0 then
  chk (isO σ20 6 a0) (bc (f_X6_lowOf a0 a1 σ20) fun r46 σ47 =>
  some (r46, σ47))
  else
  (if a2 = (1 : Int32) then
  chk (isO σ20 6 a0) (bc (f_X6_highOf a0 a1 σ20) fun r40 σ41 =>
  some (r40, σ41))
  else
  chk (isO σ20 6 a0) (bc (f_X6_widthNow a0 a1 σ20) fun r34 σ35 =>
  some (r34, σ35)))))))))
def f_X6_split (a0 : Nat) (a1 : Int32) (a2 : Int32) (a3 : Int32) (a4 : Int32) (σ : HS) : Option (Int64 × HS) :=
  chk (isO σ 6 a0) (bc (f_X6_isFormula a0 a1 σ) fun r3 σ4 =>
  (if r3 = 0 then
  some ((-9223372036854775808 : Int64), σ4)
  else
  bc (f_X6_isSource a2 σ4) fun r10 σ11 =>
  (if r10 = 0 then
  some ((-9223372036854775808 : Int64), σ11)
  else
  chk (isO σ11 6 a0) (bc (f_X6_of a0 a2 (3 : Int32) σ11) fun r19 σ20 =>
  chk (isO σ20 6 a0) (bc (f_X6_of a0 a2 (4 : Int32) σ20) fun r25 σ26 =>
  bc (f_X6_isIn (a3).toInt64 (r19).toInt64 (r25).toInt64 σ26) fun r29 σ30 =>
  (if r29 = 0 then
  some ((-9223372036854775808 : Int64), σ30)
  else
  bc (f_X6_isIn (a4).toInt64 (0 : Int64) (2 : Int64) σ30) fun r36 σ37 =>
  (if r36 = 0 then
  some ((-9223372036854775808 : Int64), σ37)
  else
  chk (isO σ37 6 a0) (bc (f_X6_spansNow a0 a1 σ37) fun r45 σ46 =>
  (if r45 = 0 then
  some ((-9223372036854775807 : Int64), σ46)
  else
  chk (isO σ46 6 a0) (bc (f_X6_splits a0 a1 a2 a3 σ46) fun r54 σ55 =>
  chk (isO σ55 6 a0) (lt (sA σ55 a0 20 (0 : Int32)) fun σ60 =>
  lt (hB σ60 a0 34) fun v63 =>
  lt (hB σ60 a0 33) fun v65 =>
  bc (f_X6_less a0 v63 v65 σ60) fun r67 σ68 =>
  (if a4 = 0 then
  chk (isO σ68 6 a0) (lt (hB σ68 a0 33) fun v90 =>
  some (v90, σ68))
  else
  (if a4 = (1 : Int32) then
  chk (isO σ68 6 a0) (lt (hB σ68 a0 34) fun v86 =>
  some (v86, σ68))
  else
  chk (isO σ68 6 a0) (lt (hA σ68 a0 20) fun v79 =>
  (if v79 = 0 then
  some (r67, σ68)
  else
  some ((-9223372036854775807 : Int64), σ68))))))))))))))))
def lp_X6_tight_66_b (K36 : Nat → Int32 → Int32 → Int32 → HS → Option (Int64 × HS)) (K66 : Nat → Int32 → Int32 → Int32 → HS → Option (Int64 × HS)) (x0 : Nat) (x1 : Int32) (x2 : Int32) (x3 : Int32) (τ : HS) : Option (Int64 × HS) :=
  (if (6 : Int32) ≤ x3 then
  chk (isO τ 6 x0) (bc (f_X6_spans x0 x1 τ) fun r44 σ45 =>
  (if x2 = 0 then
  chk (isO σ45 6 x0) (bc (f_X6_lowOf x0 x1 σ45) fun r59 σ60 =>
  some (r59, σ60))
  else
  chk (isO σ45 6 x0) (bc (f_X6_highOf x0 x1 σ45) fun r53 σ54 =>
  some (r53, σ54))))
  else
  chk (isO τ 6 x0) (bd (hR τ x0 32) fun i65 =>
  chk (isO τ 10 i65 ∧ inb x3 (hlen τ i65)) (lt (hA τ i65 x3.toNatClampNeg) fun v70 =>
  (if v70 = (1 : Int32) then
  chk (isO τ 10 i65 ∧ inb x3 (hlen τ i65)) (lt (hA τ i65 x3.toNatClampNeg) fun v80 =>
  (if v80 = (1 : Int32) then
  (if x2 = 0 then
  (if (1 : Int32) = (1 : Int32) then
  bd (hR τ x0 21) fun i194 =>
  chk (isO τ 10 i194 ∧ inb x3 (hlen τ i194)) (lt (hA τ i194 x3.toNatClampNeg) fun v199 =>
  bc (f_X6_laysPoint x0 x3 v199 τ) fun r201 σ202 =>
  lt (x3 + (1 : Int32)) fun v205 =>
  K66 x0 x1 x2 v205 σ202)
  else
  bd (hR τ x0 22) fun i181 =>
  chk (isO τ 10 i181 ∧ inb x3 (hlen τ i181)) (lt (hA τ i181 x3.toNatClampNeg) fun v186 =>
  bc (f_X6_laysPoint x0 x3 v186 τ) fun r188 σ189 =>
  lt (x3 + (1 : Int32)) fun v192 =>
  K66 x0 x1 x2 v192 σ189))
  else
  (if (1 : Int32) = (0 : Int32) then
  bd (hR τ x0 21) fun i165 =>
  chk (isO τ 10 i165 ∧ inb x3 (hlen τ i165)) (lt (hA τ i165 x3.toNatClampNeg) fun v170 =>
  bc (f_X6_laysPoint x0 x3 v170 τ) fun r172 σ173 =>
  lt (x3 + (1 : Int32)) fun v176 =>
  K66 x0 x1 x2 v176 σ173)
  else
  bd (hR τ x0 22) fun i152 =>
  chk (isO τ 10 i152 ∧ inb x3 (hlen τ i152)) (lt (hA τ i152 x3.toNatClampNeg) fun v157 =>
  bc (f_X6_laysPoint x0 x3 v157 τ) fun r159 σ160 =>
  lt (x3 + (1 : Int32)) fun v163 =>
  K66 x0 x1 x2 v163 σ160)))
  else
  (if x2 = 0 then
  (if (0 : Int32) = (1 : Int32) then
  bd (hR τ x0 21) fun i133 =>
  chk (isO τ 10 i133 ∧ inb x3 (hlen τ i133)) (lt (hA τ i133 x3.toNatClampNeg) fun v138 =>
  bc (f_X6_laysPoint x0 x3 v138 τ) fun r140 σ141 =>
  lt (x3 + (1 : Int32)) fun v144 =>
  K66 x0 x1 x2 v144 σ141)
  else
  bd (hR τ x0 22) fun i120 =>
  chk (isO τ 10 i120 ∧ inb x3 (hlen τ i120)) (lt (hA τ i120 x3.toNatClampNeg) fun v125 =>
  bc (f_X6_laysPoint x0 x3 v125 τ) fun r127 σ128 =>
  lt (x3 + (1 : Int32)) fun v131 =>
  K66 x0 x1 x2 v131 σ128))
  else
  (if (0 : Int32) = (0 : Int32) then
  bd (hR τ x0 21) fun i104 =>
  chk (isO τ 10 i104 ∧ inb x3 (hlen τ i104)) (lt (hA τ i104 x3.toNatClampNeg) fun v109 =>
  bc (f_X6_laysPoint x0 x3 v109 τ) fun r111 σ112 =>
  lt (x3 + (1 : Int32)) fun v115 =>
  K66 x0 x1 x2 v115 σ112)
  else
  bd (hR τ x0 22) fun i91 =>
  chk (isO τ 10 i91 ∧ inb x3 (hlen τ i91)) (lt (hA τ i91 x3.toNatClampNeg) fun v96 =>
  bc (f_X6_laysPoint x0 x3 v96 τ) fun r98 σ99 =>
  lt (x3 + (1 : Int32)) fun v102 =>
  K66 x0 x1 x2 v102 σ99)))))
  else
  chk (isO τ 10 i65 ∧ inb x3 (hlen τ i65)) (lt (hA τ i65 x3.toNatClampNeg) fun v212 =>
  (if v212 = (2 : Int32) then
  chk (isO τ 10 i65 ∧ inb x3 (hlen τ i65)) (lt (hA τ i65 x3.toNatClampNeg) fun v224 =>
  (if v224 = (1 : Int32) then
  (if x2 = 0 then
  (if (1 : Int32) = (1 : Int32) then
  bd (hR τ x0 21) fun i338 =>
  chk (isO τ 10 i338 ∧ inb x3 (hlen τ i338)) (lt (hA τ i338 x3.toNatClampNeg) fun v343 =>
  bc (f_X6_laysPoint x0 x3 v343 τ) fun r345 σ346 =>
  lt (x3 + (1 : Int32)) fun v349 =>
  K66 x0 x1 x2 v349 σ346)
  else
  bd (hR τ x0 22) fun i325 =>
  chk (isO τ 10 i325 ∧ inb x3 (hlen τ i325)) (lt (hA τ i325 x3.toNatClampNeg) fun v330 =>
  bc (f_X6_laysPoint x0 x3 v330 τ) fun r332 σ333 =>
  lt (x3 + (1 : Int32)) fun v336 =>
  K66 x0 x1 x2 v336 σ333))
  else
  (if (1 : Int32) = (0 : Int32) then
  bd (hR τ x0 21) fun i309 =>
  chk (isO τ 10 i309 ∧ inb x3 (hlen τ i309)) (lt (hA τ i309 x3.toNatClampNeg) fun v314 =>
  bc (f_X6_laysPoint x0 x3 v314 τ) fun r316 σ317 =>
  lt (x3 + (1 : Int32)) fun v320 =>
  K66 x0 x1 x2 v320 σ317)
  else
  bd (hR τ x0 22) fun i296 =>
  chk (isO τ 10 i296 ∧ inb x3 (hlen τ i296)) (lt (hA τ i296 x3.toNatClampNeg) fun v301 =>
  bc (f_X6_laysPoint x0 x3 v301 τ) fun r303 σ304 =>
  lt (x3 + (1 : Int32)) fun v307 =>
  K66 x0 x1 x2 v307 σ304)))
  else
  (if x2 = 0 then
  (if (0 : Int32) = (1 : Int32) then
  bd (hR τ x0 21) fun i277 =>
  chk (isO τ 10 i277 ∧ inb x3 (hlen τ i277)) (lt (hA τ i277 x3.toNatClampNeg) fun v282 =>
  bc (f_X6_laysPoint x0 x3 v282 τ) fun r284 σ285 =>
  lt (x3 + (1 : Int32)) fun v288 =>
  K66 x0 x1 x2 v288 σ285)
  else
  bd (hR τ x0 22) fun i264 =>
  chk (isO τ 10 i264 ∧ inb x3 (hlen τ i264)) (lt (hA τ i264 x3.toNatClampNeg) fun v269 =>
  bc (f_X6_laysPoint x0 x3 v269 τ) fun r271 σ272 =>
  lt (x3 + (1 : Int32)) fun v275 =>
  K66 x0 x1 x2 v275 σ272))
  else
  (if (0 : Int32) = (0 : Int32) then
  bd (hR τ x0 21) fun i248 =>
  chk (isO τ 10 i248 ∧ inb x3 (hlen τ i248)) (lt (hA τ i248 x3.toNatClampNeg) fun v253 =>
  bc (f_X6_laysPoint x0 x3 v253 τ) fun r255 σ256 =>
  lt (x3 + (1 : Int32)) fun v259 =>
  K66 x0 x1 x2 v259 σ256)
  else
  bd (hR τ x0 22) fun i235 =>
  chk (isO τ 10 i235 ∧ inb x3 (hlen τ i235)) (lt (hA τ i235 x3.toNatClampNeg) fun v240 =>
  bc (f_X6_laysPoint x0 x3 v240 τ) fun r242 σ243 =>
  lt (x3 + (1 : Int32)) fun v246 =>
  K66 x0 x1 x2 v246 σ243)))))
  else
  lt (x3 + (1 : Int32)) fun v217 =>
  K66 x0 x1 x2 v217 τ))))))
def lp_X6_tight_66 (K36 : Nat → Int32 → Int32 → Int32 → HS → Option (Int64 × HS)) : Nat → Nat → Int32 → Int32 → Int32 → HS → Option (Int64 × HS)
  | 0 => fun _ _ _ _ _ => none
  | n + 1 => lp_X6_tight_66_b K36 (lp_X6_tight_66 K36 n)
def lp_X6_tight_36_b  (K36 : Nat → Int32 → Int32 → Int32 → HS → Option (Int64 × HS)) (x0 : Nat) (x1 : Int32) (x2 : Int32) (x3 : Int32) (τ : HS) : Option (Int64 × HS) :=
  (if (6 : Int32) ≤ x3 then
  chk (isO τ 6 x0) (bc (f_X6_laysBox x0 τ) fun r33 σ34 =>
  lt ((0 : Int32)) fun v37 =>
  lp_X6_tight_66 (K36) 1000 x0 x1 x2 v37 σ34)
  else
  chk (isO τ 6 x0) (bd (hR τ x0 32) fun i353 =>
  bc (f_X6_changeOf x0 x1 x3 τ) fun r356 σ357 =>
  chk (isO σ357 10 i353 ∧ inb x3 (hlen σ357 i353)) (lt (sA σ357 i353 x3.toNatClampNeg r356) fun σ362 =>
  lt (x3 + (1 : Int32)) fun v364 =>
  K36 x0 x1 x2 v364 σ362)))
def lp_X6_tight_36  : Nat → Nat → Int32 → Int32 → Int32 → HS → Option (Int64 × HS)
  | 0 => fun _ _ _ _ _ => none
  | n + 1 => lp_X6_tight_36_b  (lp_X6_tight_36  n)
def f_X6_tight (a0 : Nat) (a1 : Int32) (a2 : Int32) (σ : HS) : Option (Int64 × HS) :=
  chk (isO σ 6 a0) (bc (f_X6_isFormula a0 a1 σ) fun r3 σ4 =>
  (if r3 = 0 then
  some ((-9223372036854775808 : Int64), σ4)
  else
  bc (f_X6_isIn (a2).toInt64 (0 : Int64) (1 : Int64) σ4) fun r10 σ11 =>
  (if r10 = 0 then
  some ((-9223372036854775808 : Int64), σ11)
  else
  chk (isO σ11 6 a0) (bc (f_X6_spansNow a0 a1 σ11) fun r19 σ20 =>
  (if r19 = 0 then
  some ((-9223372036854775807 : Int64), σ20)
  else
  lt ((0 : Int32)) fun v26 =>
  lp_X6_tight_36  1000 a0 a1 a2 v26 σ20)))))
def f_X6_undo (a0 : Nat) (σ : HS) : Option (Int32 × HS) :=
  chk (isO σ 6 a0) (lt (hA σ a0 14) fun v3 =>
  (if v3 = 0 then
  some ((-3 : Int32), σ)
  else
  bd (hR σ a0 1) fun i8 =>
  bd (hR σ a0 0) fun i11 =>
  bc (f_X6_copies i8 i11 (18 : Int32) σ) fun r14 σ15 =>
  chk (isO σ15 6 a0) (bd (hR σ15 a0 8) fun i20 =>
  bd (hR σ15 a0 2) fun i23 =>
  bc (f_X6_copies i20 i23 (360 : Int32) σ15) fun r26 σ27 =>
  chk (isO σ27 6 a0) (bd (hR σ27 a0 9) fun i32 =>
  bd (hR σ27 a0 3) fun i35 =>
  bc (f_X6_copies i32 i35 (360 : Int32) σ27) fun r38 σ39 =>
  chk (isO σ39 6 a0) (bd (hR σ39 a0 10) fun i44 =>
  bd (hR σ39 a0 4) fun i47 =>
  bc (f_X6_copies i44 i47 (360 : Int32) σ39) fun r50 σ51 =>
  chk (isO σ51 6 a0) (bd (hR σ51 a0 11) fun i56 =>
  bd (hR σ51 a0 5) fun i59 =>
  bc (f_X6_copies i56 i59 (360 : Int32) σ51) fun r62 σ63 =>
  chk (isO σ63 6 a0) (bd (hR σ63 a0 12) fun i68 =>
  bd (hR σ63 a0 6) fun i71 =>
  bc (f_X6_copies i68 i71 (6 : Int32) σ63) fun r74 σ75 =>
  chk (isO σ75 6 a0) (bd (hR σ75 a0 37) fun i80 =>
  bd (hR σ75 a0 35) fun i83 =>
  bc (f_X6_copies i80 i83 (24 : Int32) σ75) fun r86 σ87 =>
  chk (isO σ87 6 a0) (lt (hA σ87 a0 13) fun v92 =>
  lt (sA σ87 a0 7 v92) fun σ94 =>
  lt (hA σ94 a0 38) fun v97 =>
  lt (sA σ94 a0 36 v97) fun σ99 =>
  lt (hA σ99 a0 7) fun v102 =>
  some (v102, σ99))))))))))
def f_X6_way (a0 : Nat) (a1 : Int32) (σ : HS) : Option (Int32 × HS) :=
  (if a1 = (-1 : Int32) then
  chk (isO σ 6 a0) (lt (hA σ a0 29) fun v26 =>
  some (v26, σ))
  else
  chk (isO σ 6 a0) (lt (hA σ a0 29) fun v6 =>
  bc (f_X6_isIn (a1).toInt64 (0 : Int64) ((v6 - (1 : Int32))).toInt64 σ) fun r8 σ9 =>
  (if r8 = 0 then
  some ((-1 : Int32), σ9)
  else
  chk (isO σ9 6 a0) (bd (hR σ9 a0 28) fun i17 =>
  chk (isO σ9 10 i17 ∧ inb a1 (hlen σ9 i17)) (lt (hA σ9 i17 a1.toNatClampNeg) fun v22 =>
  some (v22, σ9))))))
def lp_X6_widest_33_b  (K33 : Nat → Int32 → Int32 → Int64 → Int32 → HS → Option (Int32 × HS)) (x0 : Nat) (x1 : Int32) (x2 : Int32) (x3 : Int64) (x5 : Int32) (τ : HS) : Option (Int32 × HS) :=
  (if (6 : Int32) ≤ x5 then
  some (x2, τ)
  else
  chk (isO τ 6 x0) (bc (f_X6_spanOf x0 x5 τ) fun r30 σ31 =>
  (if r30 = 0 then
  lt (x5 + (1 : Int32)) fun v73 =>
  K33 x0 x1 x2 x3 v73 σ31
  else
  chk (isO σ31 6 x0) (bc (f_X6_laysBox x0 σ31) fun r39 σ40 =>
  chk (isO σ40 6 x0) (bc (f_X6_valueOf x0 x5 σ40) fun r45 σ46 =>
  chk (isO σ46 6 x0) (bc (f_X6_laysPoint x0 x5 r45 σ46) fun r51 σ52 =>
  chk (isO σ52 6 x0) (bc (f_X6_widthBy x0 x1 σ52) fun r57 σ58 =>
  (if x2 = (-5 : Int32) then
  lt (x5 + (1 : Int32)) fun v64 =>
  K33 x0 x1 x5 r57 v64 σ58
  else
  (if 0 ≤ (lg_cmp r57 x3) then
  lt (x5 + (1 : Int32)) fun v69 =>
  K33 x0 x1 x2 x3 v69 σ58
  else
  lt (x5 + (1 : Int32)) fun v71 =>
  K33 x0 x1 x5 r57 v71 σ58)))))))))
def lp_X6_widest_33  : Nat → Nat → Int32 → Int32 → Int64 → Int32 → HS → Option (Int32 × HS)
  | 0 => fun _ _ _ _ _ _ => none
  | n + 1 => lp_X6_widest_33_b  (lp_X6_widest_33  n)
def f_X6_widest (a0 : Nat) (a1 : Int32) (σ : HS) : Option (Int32 × HS) :=
  chk (isO σ 6 a0) (bc (f_X6_isFormula a0 a1 σ) fun r3 σ4 =>
  (if r3 = 0 then
  some ((-1 : Int32), σ4)
  else
  chk (isO σ4 6 a0) (bc (f_X6_widthNow a0 a1 σ4) fun r12 σ13 =>
  (if (lg_cmp r12 (-9223372036854775807 : Int64)) = 0 then
  some ((-6 : Int32), σ13)
  else
  lt ((-5 : Int32)) fun v19 =>
  lt ((0 : Int64)) fun v21 =>
  lt ((0 : Int32)) fun v23 =>
  lp_X6_widest_33  1000 a0 a1 v19 v21 v23 σ13))))
end
section
def nwM (σ : HS) : HS := sR (sR (sR (sR (nw (nw (nw (nw (nw σ 14 4) 12 8) 12 8) 12 8) 12 8) (hN σ) 0 (some (hN σ + 1))) (hN σ) 1 (some (hN σ + 2))) (hN σ) 2 (some (hN σ + 3))) (hN σ) 3 (some (hN σ + 4))
def f_J7_copyOf_59c91 (a0 : Nat) (a1 : Int32) (σ : HS) : Option ((Option Nat) × HS) :=
  chk (isO σ 10 a0) (lt (Int32.ofNat (hlen σ a0)) fun v3 =>
  (if a1 = v3 then
  chk (isO σ 10 a0 ∧ hlen σ a0 ≤ 60) (lt (hN σ) fun n31 =>
  lt (nwc σ 10 (hlen σ a0) (hA σ a0)) fun σ30 =>
  some ((some n31), σ30))
  else
  chk (¬ a1 < 0 ∧ a1.toNatClampNeg ≤ 60) (lt (hN σ) fun n12 =>
  lt (nw σ 10 a1.toNatClampNeg) fun σ11 =>
  lt (Int32.ofNat (hlen σ11 a0)) fun v16 =>
  lt (if a1 < v16 then a1 else v16) fun v18 =>
  chk ((isO σ11 10 a0 ∧ isO σ11 10 n12) ∧ ((¬ (0 : Int32) < 0 ∧ ¬ (0 : Int32) < 0 ∧ ¬ v18 < 0) ∧ (((0 : Int32)).toNatClampNeg + v18.toNatClampNeg ≤ hlen σ11 a0 ∧ ((0 : Int32)).toNatClampNeg + v18.toNatClampNeg ≤ hlen σ11 n12))) (lt (rA σ11 n12 (va_cpy (hA σ11 a0) (hA σ11 n12) ((0 : Int32)).toNatClampNeg ((0 : Int32)).toNatClampNeg v18.toNatClampNeg)) fun σ22 =>
  some ((some n12), σ22)))))
def lp_X0_depthOf_11_b  (K11 : Nat → Nat → Int32 → Int32 → HS → Option (Int32 × HS)) (x0 : Nat) (x1 : Nat) (x2 : Int32) (x3 : Int32) (τ : HS) : Option (Int32 × HS) :=
  chk (isO τ 3 x0) (lt (hA τ x0 8) fun v19 =>
  (if v19 ≤ x3 then
  some (x2, τ)
  else
  bd (hR τ x0 3) fun i24 =>
  chk (isO τ 10 i24 ∧ inb x3 (hlen τ i24)) (lt (hA τ i24 x3.toNatClampNeg) fun v29 =>
  bc (f_X0_isMade v29 τ) fun r31 σ32 =>
  chk (hN τ ≤ hN σ32) ((if r31 = 0 then
  chk (isO σ32 10 x1 ∧ inb x3 (hlen σ32 x1)) (lt (hA σ32 x1 x3.toNatClampNeg) fun v42 =>
  lt (if x2 < v42 then v42 else x2) fun v44 =>
  lt (x3 + (1 : Int32)) fun v46 =>
  K11 x0 x1 v44 v46 σ32)
  else
  chk (isO σ32 3 x0) (bd (hR σ32 x0 5) fun i50 =>
  chk (isO σ32 10 i50 ∧ inb x3 (hlen σ32 i50)) (lt (hA σ32 i50 x3.toNatClampNeg) fun v55 =>
  chk (isO σ32 10 x1 ∧ inb v55 (hlen σ32 x1)) (lt (hA σ32 x1 v55.toNatClampNeg) fun v59 =>
  bd (hR σ32 x0 6) fun i61 =>
  chk (isO σ32 10 i61 ∧ inb x3 (hlen σ32 i61)) (lt (hA σ32 i61 x3.toNatClampNeg) fun v66 =>
  chk (isO σ32 10 x1 ∧ inb v66 (hlen σ32 x1)) (lt (hA σ32 x1 v66.toNatClampNeg) fun v70 =>
  lt (if v59 < v70 then v70 else v59) fun v72 =>
  chk (isO σ32 10 x1 ∧ inb x3 (hlen σ32 x1)) (lt (sA σ32 x1 x3.toNatClampNeg ((1 : Int32) + v72)) fun σ76 =>
  chk (isO σ76 10 x1 ∧ inb x3 (hlen σ76 x1)) (lt (hA σ76 x1 x3.toNatClampNeg) fun v82 =>
  lt (if x2 < v82 then v82 else x2) fun v84 =>
  lt (x3 + (1 : Int32)) fun v86 =>
  K11 x0 x1 v84 v86 σ76))))))))))))
def lp_X0_depthOf_11  : Nat → Nat → Nat → Int32 → Int32 → HS → Option (Int32 × HS)
  | 0 => fun _ _ _ _ _ => none
  | n + 1 => lp_X0_depthOf_11_b  (lp_X0_depthOf_11  n)
def f_X0_depthOf (a0 : Nat) (σ : HS) : Option (Int32 × HS) :=
  chk (isO σ 3 a0) (lt (hA σ a0 8) fun v3 =>
  chk (¬ v3 < 0 ∧ v3.toNatClampNeg ≤ 60) (lt (hN σ) fun n9 =>
  lt (nw σ 10 v3.toNatClampNeg) fun σ8 =>
  lt ((0 : Int32)) fun v13 =>
  lt ((0 : Int32)) fun v15 =>
  lp_X0_depthOf_11  1000 a0 n9 v13 v15 σ8))
def lp_X0_likenessIn_19_b (K9 : Nat → Nat → Int32 → HS → Option ((Option Nat) × HS)) (K19 : Nat → Nat → Int32 → Int32 → HS → Option ((Option Nat) × HS)) (x0 : Nat) (x1 : Nat) (x2 : Int32) (x3 : Int32) (τ : HS) : Option ((Option Nat) × HS) :=
  (if x2 ≤ x3 then
  chk (isO τ 10 x1 ∧ inb x2 (hlen τ x1)) (lt (sA τ x1 x2.toNatClampNeg x3) fun σ29 =>
  lt (x2 + (1 : Int32)) fun v32 =>
  K9 x0 x1 v32 σ29)
  else
  bc (f_X0_areAlike x0 x1 x3 x2 τ) fun r34 σ35 =>
  chk (hN τ ≤ hN σ35) ((if r34 = 0 then
  lt (x3 + (1 : Int32)) fun v50 =>
  K19 x0 x1 x2 v50 σ35
  else
  chk (isO σ35 10 x1 ∧ inb x2 (hlen σ35 x1)) (lt (sA σ35 x1 x2.toNatClampNeg x3) fun σ45 =>
  lt (x2 + (1 : Int32)) fun v48 =>
  K9 x0 x1 v48 σ45))))
def lp_X0_likenessIn_19 (K9 : Nat → Nat → Int32 → HS → Option ((Option Nat) × HS)) : Nat → Nat → Nat → Int32 → Int32 → HS → Option ((Option Nat) × HS)
  | 0 => fun _ _ _ _ _ => none
  | n + 1 => lp_X0_likenessIn_19_b K9 (lp_X0_likenessIn_19 K9 n)
def lp_X0_likenessIn_9_b  (K9 : Nat → Nat → Int32 → HS → Option ((Option Nat) × HS)) (x0 : Nat) (x1 : Nat) (x2 : Int32) (τ : HS) : Option ((Option Nat) × HS) :=
  chk (isO τ 3 x0) (lt (hA τ x0 8) fun v17 =>
  (if v17 ≤ x2 then
  some ((some x1), τ)
  else
  lt ((0 : Int32)) fun v22 =>
  lp_X0_likenessIn_19 (K9) 1000 x0 x1 x2 v22 τ))
def lp_X0_likenessIn_9  : Nat → Nat → Nat → Int32 → HS → Option ((Option Nat) × HS)
  | 0 => fun _ _ _ _ => none
  | n + 1 => lp_X0_likenessIn_9_b  (lp_X0_likenessIn_9  n)
def f_X0_likenessIn (a0 : Nat) (σ : HS) : Option ((Option Nat) × HS) :=
  chk (isO σ 3 a0) (lt (hA σ a0 8) fun v3 =>
  chk (¬ v3 < 0 ∧ v3.toNatClampNeg ≤ 60) (lt (hN σ) fun n9 =>
  lt (nw σ 10 v3.toNatClampNeg) fun σ8 =>
  lt ((0 : Int32)) fun v13 =>
  lp_X0_likenessIn_9  1000 a0 n9 v13 σ8))
def lp_X0_mostAlikeIn_16_b  (K16 : Nat → Nat → Int32 → Nat → Int32 → Int32 → HS → Option (Int32 × HS)) (x0 : Nat) (x1 : Nat) (x2 : Int32) (x3 : Nat) (x4 : Int32) (x5 : Int32) (τ : HS) : Option (Int32 × HS) :=
  (if x4 ≤ x5 then
  some (x2, τ)
  else
  chk (isO τ 10 x3 ∧ inb x5 (hlen τ x3)) (lt (hA τ x3 x5.toNatClampNeg) fun v24 =>
  chk (isO τ 10 x1 ∧ inb v24 (hlen τ x1)) (lt (hA τ x1 v24.toNatClampNeg) fun v28 =>
  chk (isO τ 10 x1 ∧ inb v24 (hlen τ x1)) (lt (sA τ x1 v24.toNatClampNeg (v28 + (1 : Int32))) fun σ32 =>
  chk (isO σ32 10 x1 ∧ inb v24 (hlen σ32 x1)) (lt (hA σ32 x1 v24.toNatClampNeg) fun v37 =>
  lt (if x2 < v37 then v37 else x2) fun v39 =>
  lt (x5 + (1 : Int32)) fun v41 =>
  K16 x0 x1 v39 x3 x4 v41 σ32)))))
def lp_X0_mostAlikeIn_16  : Nat → Nat → Nat → Int32 → Nat → Int32 → Int32 → HS → Option (Int32 × HS)
  | 0 => fun _ _ _ _ _ _ _ => none
  | n + 1 => lp_X0_mostAlikeIn_16_b  (lp_X0_mostAlikeIn_16  n)
def f_X0_mostAlikeIn (a0 : Nat) (σ : HS) : Option (Int32 × HS) :=
  chk (isO σ 10 a0) (lt (Int32.ofNat (hlen σ a0)) fun v3 =>
  chk (¬ v3 < 0 ∧ v3.toNatClampNeg ≤ 60) (lt (hN σ) fun n9 =>
  lt (nw σ 10 v3.toNatClampNeg) fun σ8 =>
  lt ((0 : Int32)) fun v13 =>
  lt (Int32.ofNat (hlen σ8 a0)) fun v15 =>
  lt ((0 : Int32)) fun v17 =>
  lp_X0_mostAlikeIn_16  1000 a0 n9 v13 a0 v15 v17 σ8))
def f_X0_init (a0 : Nat) (a1 : Nat) (σ : HS) : Option (Unit × HS) :=
  chk (isO σ 3 a1) (lt (hA σ a1 8) fun v3 =>
  chk (isO σ 0 a0) (lt (sA σ a0 0 v3) fun σ7 =>
  bd (hR σ7 a1 3) fun i12 =>
  lt (hA σ7 a0 0) fun v15 =>
  bc (f_J7_copyOf_59c91 i12 v15 σ7) fun r17 σ18 =>
  bd r17 fun i23 =>
  chk (isO σ18 0 a0) (chk (i23 < hN σ18) (lt (sR σ18 a0 1 (some i23)) fun σ28 =>
  chk (isO σ28 3 a1) (bd (hR σ28 a1 4) fun i36 =>
  lt (hA σ28 a0 0) fun v39 =>
  bc (f_J7_copyOf_59c91 i36 v39 σ28) fun r41 σ42 =>
  bd r41 fun i47 =>
  chk (isO σ42 0 a0) (chk (i47 < hN σ42) (lt (sR σ42 a0 2 (some i47)) fun σ52 =>
  chk (isO σ52 3 a1) (bd (hR σ52 a1 5) fun i60 =>
  lt (hA σ52 a0 0) fun v63 =>
  bc (f_J7_copyOf_59c91 i60 v63 σ52) fun r65 σ66 =>
  bd r65 fun i71 =>
  chk (isO σ66 0 a0) (chk (i71 < hN σ66) (lt (sR σ66 a0 3 (some i71)) fun σ76 =>
  chk (isO σ76 3 a1) (bd (hR σ76 a1 6) fun i84 =>
  lt (hA σ76 a0 0) fun v87 =>
  bc (f_J7_copyOf_59c91 i84 v87 σ76) fun r89 σ90 =>
  bd r89 fun i95 =>
  chk (isO σ90 0 a0) (chk (i95 < hN σ90) (lt (sR σ90 a0 4 (some i95)) fun σ100 =>
  chk (isO σ100 3 a1) (bd (hR σ100 a1 7) fun i108 =>
  lt (hA σ100 a0 0) fun v111 =>
  bc (f_J7_copyOf_59c91 i108 v111 σ100) fun r113 σ114 =>
  bd r113 fun i119 =>
  chk (isO σ114 0 a0) (chk (i119 < hN σ114) (lt (sR σ114 a0 5 (some i119)) fun σ124 =>
  bc (f_X0_sourcesIn a1 σ124) fun r130 σ131 =>
  chk (hN σ124 ≤ hN σ131) (chk (isO σ131 0 a0) (lt (sA σ131 a0 6 r130) fun σ138 =>
  chk (a1 < hN σ138) (bc (f_X0_depthOf a1 σ138) fun r142 σ143 =>
  chk (isO σ143 0 a0) (lt (sA σ143 a0 7 r142) fun σ152 =>
  chk (a1 < hN σ152) (bc (f_X0_likenessIn a1 σ152) fun r156 σ157 =>
  bd r156 fun i164 =>
  bc (f_X0_unlikeIn i164 σ157) fun r167 σ168 =>
  chk (hN σ157 ≤ hN σ168) (chk (isO σ168 0 a0) (lt (sA σ168 a0 8 r167) fun σ175 =>
  chk (i164 < hN σ175) (chk (a1 < hN σ175) (bc (f_X0_mostAlikeIn i164 σ175) fun r179 σ180 =>
  chk (isO σ180 0 a0) (lt (sA σ180 a0 9 r179) fun σ191 =>
  some ((), σ191)))))))))))))))))))))))))))
def f_X3_readFormula (a0 : Nat) (σ : HS) : Option ((Option Nat) × HS) :=
  chk (isO σ 3 a0) (lt (sA σ a0 2 (0 : Int32)) fun σ3 =>
  lt (sA σ3 a0 8 (0 : Int32)) fun σ7 =>
  bc (f_X3_readSum a0 (0 : Int32) σ7) fun r11 σ12 =>
  chk (hN σ7 ≤ hN σ12) ((if r11 = (-1 : Int32) then
  some (none, σ12)
  else
  chk (isO σ12 3 a0) (lt (hA σ12 a0 2) fun v22 =>
  lt (hA σ12 a0 1) fun v24 =>
  (if v24 ≤ v22 then
  lt (hN σ12) fun n31 =>
  lt (nw σ12 0 0) fun σ30 =>
  bc (f_X0_init n31 a0 σ30) fun r35 σ36 =>
  some ((some n31), σ36)
  else
  some (none, σ12))))))
def f_X5_formula (a0 : Nat) (σ : HS) : Option (Int32 × HS) :=
  chk (isO σ 5 a0) (bd (hR σ a0 3) fun i3 =>
  chk (isO σ 3 i3) (bc (f_X3_readFormula i3 σ) fun r8 σ9 =>
  chk (isO σ9 5 a0) (bd (hR σ9 a0 3) fun i16 =>
  chk (isO σ9 3 i16) (lt (sA σ9 i16 1 (0 : Int32)) fun σ21 =>
  (oc r8
  (bd (hR σ21 a0 3) fun i29 =>
  chk (isO σ21 3 i29) (lt (hA σ21 i29 2) fun v34 =>
  some (((-100 : Int32) - v34), σ21)))
  (fun i26 =>
  bd (hR σ21 a0 0) fun i36 =>
  chk (isO σ21 2 i36) (lt (hA σ21 i36 4) fun v41 =>
  (if v41 < (6 : Int32) then
  chk (isO σ21 2 i36) (lt (hA σ21 i36 4) fun v51 =>
  chk (isO σ21 2 i36) (bd (hR σ21 i36 3) fun i58 =>
  chk (isO σ21 13 i58 ∧ inb v51 (hlen σ21 i58)) (chk (okF σ21 (some i26) = true) (lt (sR σ21 i58 v51.toNatClampNeg (some i26)) fun σ65 =>
  bd (hR σ65 a0 0) fun i69 =>
  chk (isO σ65 2 i69) (lt (hA σ65 i69 4) fun v74 =>
  lt (sA σ65 i69 4 (v74 + (1 : Int32))) fun σ76 =>
  some (v51, σ76))))))
  else
  some ((-4 : Int32), σ21)))))))))
def f_X1_init (a0 : Nat) (a1 : Int32) (σ : HS) : Option (Unit × HS) :=
  chk (¬ a1 < 0 ∧ a1.toNatClampNeg ≤ 60) (chk (a0 < hN σ) (lt (hN σ) fun n7 =>
  lt (nw σ 12 a1.toNatClampNeg) fun σ6 =>
  chk (isO σ6 1 a0) (chk (n7 < hN σ6) (lt (sR σ6 a0 0 (some n7)) fun σ12 =>
  chk (¬ a1 < 0 ∧ a1.toNatClampNeg ≤ 60) (lt (hN σ12) fun n23 =>
  lt (nw σ12 12 a1.toNatClampNeg) fun σ22 =>
  chk (n23 < hN σ22) (lt (sR σ22 a0 1 (some n23)) fun σ27 =>
  chk (¬ a1 < 0 ∧ a1.toNatClampNeg ≤ 60) (lt (hN σ27) fun n38 =>
  lt (nw σ27 11 a1.toNatClampNeg) fun σ37 =>
  chk (n38 < hN σ37) (lt (sR σ37 a0 2 (some n38)) fun σ42 =>
  some ((), σ42)))))))))
def f_X2_init (a0 : Nat) (σ : HS) : Option (Unit × HS) :=
  chk (a0 < hN σ) (lt (hN σ) fun n5 =>
  lt (nw σ 10 ((6 : Int32)).toNatClampNeg) fun σ4 =>
  chk (isO σ4 2 a0) (chk (n5 < hN σ4) (lt (sR σ4 a0 0 (some n5)) fun σ10 =>
  lt (hN σ10) fun n19 =>
  lt (nw σ10 10 ((6 : Int32)).toNatClampNeg) fun σ18 =>
  chk (n19 < hN σ18) (lt (sR σ18 a0 1 (some n19)) fun σ23 =>
  lt (hN σ23) fun n32 =>
  lt (nw σ23 10 ((6 : Int32)).toNatClampNeg) fun σ31 =>
  chk (n32 < hN σ31) (lt (sR σ31 a0 2 (some n32)) fun σ36 =>
  lt (hN σ36) fun n45 =>
  lt (nw σ36 13 ((6 : Int32)).toNatClampNeg) fun σ44 =>
  chk (n45 < hN σ44) (lt (sR σ44 a0 3 (some n45)) fun σ49 =>
  lt (sA σ49 a0 4 (0 : Int32)) fun σ56 =>
  lt (hN σ56) fun n62 =>
  lt (nw σ56 10 ((8 : Int32)).toNatClampNeg) fun σ61 =>
  chk (n62 < hN σ61) (lt (sR σ61 a0 5 (some n62)) fun σ66 =>
  lt (hN σ66) fun n75 =>
  lt (nw σ66 10 ((8 : Int32)).toNatClampNeg) fun σ74 =>
  chk (n75 < hN σ74) (lt (sR σ74 a0 6 (some n75)) fun σ79 =>
  lt (hN σ79) fun n88 =>
  lt (nw σ79 10 ((8 : Int32)).toNatClampNeg) fun σ87 =>
  chk (n88 < hN σ87) (lt (sR σ87 a0 7 (some n88)) fun σ92 =>
  lt (sA σ92 a0 8 (0 : Int32)) fun σ99 =>
  bd (hR σ99 a0 2) fun i103 =>
  bc (f_J7_fill_53178 i103 (1 : Int32) σ99) fun r106 σ107 =>
  chk (hN σ99 ≤ hN σ107) (some ((), σ107)))))))))))
def f_X3_init (a0 : Nat) (σ : HS) : Option (Unit × HS) :=
  chk (a0 < hN σ) (lt (hN σ) fun n5 =>
  lt (nw σ 10 ((60 : Int32)).toNatClampNeg) fun σ4 =>
  chk (isO σ4 3 a0) (chk (n5 < hN σ4) (lt (sR σ4 a0 0 (some n5)) fun σ10 =>
  lt (sA σ10 a0 1 (0 : Int32)) fun σ17 =>
  lt (sA σ17 a0 2 (0 : Int32)) fun σ21 =>
  lt (hN σ21) fun n27 =>
  lt (nw σ21 10 ((60 : Int32)).toNatClampNeg) fun σ26 =>
  chk (n27 < hN σ26) (lt (sR σ26 a0 3 (some n27)) fun σ31 =>
  lt (hN σ31) fun n40 =>
  lt (nw σ31 10 ((60 : Int32)).toNatClampNeg) fun σ39 =>
  chk (n40 < hN σ39) (lt (sR σ39 a0 4 (some n40)) fun σ44 =>
  lt (hN σ44) fun n53 =>
  lt (nw σ44 10 ((60 : Int32)).toNatClampNeg) fun σ52 =>
  chk (n53 < hN σ52) (lt (sR σ52 a0 5 (some n53)) fun σ57 =>
  lt (hN σ57) fun n66 =>
  lt (nw σ57 10 ((60 : Int32)).toNatClampNeg) fun σ65 =>
  chk (n66 < hN σ65) (lt (sR σ65 a0 6 (some n66)) fun σ70 =>
  lt (hN σ70) fun n79 =>
  lt (nw σ70 10 ((60 : Int32)).toNatClampNeg) fun σ78 =>
  chk (n79 < hN σ78) (lt (sR σ78 a0 7 (some n79)) fun σ83 =>
  lt (sA σ83 a0 8 (0 : Int32)) fun σ90 =>
  some ((), σ90)))))))))
def f_X4_init (a0 : Nat) (σ : HS) : Option (Unit × HS) :=
  chk (a0 < hN σ) (lt (hN σ) fun n5 =>
  lt (nw σ 10 ((6 : Int32)).toNatClampNeg) fun σ4 =>
  chk (isO σ4 4 a0) (chk (n5 < hN σ4) (lt (sR σ4 a0 0 (some n5)) fun σ10 =>
  lt (hN σ10) fun n19 =>
  lt (nw σ10 10 ((6 : Int32)).toNatClampNeg) fun σ18 =>
  chk (n19 < hN σ18) (lt (sR σ18 a0 1 (some n19)) fun σ23 =>
  lt (sA σ23 a0 2 (0 : Int32)) fun σ30 =>
  lt (sB σ30 a0 3 (0 : Int64)) fun σ34 =>
  lt (sB σ34 a0 4 (0 : Int64)) fun σ38 =>
  lt (hN σ38) fun n44 =>
  lt (nw σ38 10 ((6 : Int32)).toNatClampNeg) fun σ43 =>
  chk (n44 < hN σ43) (lt (sR σ43 a0 5 (some n44)) fun σ48 =>
  lt (hN σ48) fun n57 =>
  lt (nw σ48 1 0) fun σ56 =>
  bc (f_X1_init n57 (60 : Int32) σ56) fun r61 σ62 =>
  chk (isO σ62 4 a0) (chk (n57 < hN σ62) (lt (sR σ62 a0 6 (some n57)) fun σ69 =>
  lt (hN σ69) fun n77 =>
  lt (nw σ69 1 0) fun σ76 =>
  bc (f_X1_init n77 (60 : Int32) σ76) fun r81 σ82 =>
  chk (isO σ82 4 a0) (chk (n77 < hN σ82) (lt (sR σ82 a0 7 (some n77)) fun σ89 =>
  lt (hN σ89) fun n97 =>
  lt (nw σ89 1 0) fun σ96 =>
  bc (f_X1_init n97 (2 : Int32) σ96) fun r101 σ102 =>
  chk (isO σ102 4 a0) (chk (n97 < hN σ102) (lt (sR σ102 a0 8 (some n97)) fun σ109 =>
  lt (hN σ109) fun n117 =>
  lt (nw σ109 12 ((60 : Int32)).toNatClampNeg) fun σ116 =>
  chk (n117 < hN σ116) (lt (sR σ116 a0 9 (some n117)) fun σ121 =>
  some ((), σ121)))))))))))))
def lp_X6_init_245_b  (K245 : Nat → Int32 → HS → Option (Unit × HS)) (x0 : Nat) (x1 : Int32) (τ : HS) : Option (Unit × HS) :=
  (if (6 : Int32) ≤ x1 then
  some ((), τ)
  else
  chk (isO τ 6 x0) (bd (hR τ x0 0) fun i390 =>
  chk (isO τ 10 i390 ∧ inb (((3 : Int32) * x1) + (2 : Int32)) (hlen τ i390)) (lt (sA τ i390 ((((3 : Int32) * x1) + (2 : Int32))).toNatClampNeg (1 : Int32)) fun σ395 =>
  lt (x1 + (1 : Int32)) fun v399 =>
  K245 x0 v399 σ395)))
def lp_X6_init_245  : Nat → Nat → Int32 → HS → Option (Unit × HS)
  | 0 => fun _ _ _ => none
  | n + 1 => lp_X6_init_245_b  (lp_X6_init_245  n)
def f_X6_init (a0 : Nat) (σ : HS) : Option (Unit × HS) :=
  chk (a0 < hN σ) (lt (hN σ) fun n5 =>
  lt (nw σ 10 ((18 : Int32)).toNatClampNeg) fun σ4 =>
  chk (isO σ4 6 a0) (chk (n5 < hN σ4) (lt (sR σ4 a0 0 (some n5)) fun σ10 =>
  lt (hN σ10) fun n19 =>
  lt (nw σ10 10 ((18 : Int32)).toNatClampNeg) fun σ18 =>
  chk (n19 < hN σ18) (lt (sR σ18 a0 1 (some n19)) fun σ23 =>
  lt (hN σ23) fun n32 =>
  lt (nw σ23 10 ((420 : Int32)).toNatClampNeg) fun σ31 =>
  chk (n32 < hN σ31) (lt (sR σ31 a0 2 (some n32)) fun σ36 =>
  lt (hN σ36) fun n45 =>
  lt (nw σ36 10 ((420 : Int32)).toNatClampNeg) fun σ44 =>
  chk (n45 < hN σ44) (lt (sR σ44 a0 3 (some n45)) fun σ49 =>
  lt (hN σ49) fun n58 =>
  lt (nw σ49 10 ((420 : Int32)).toNatClampNeg) fun σ57 =>
  chk (n58 < hN σ57) (lt (sR σ57 a0 4 (some n58)) fun σ62 =>
  lt (hN σ62) fun n71 =>
  lt (nw σ62 10 ((420 : Int32)).toNatClampNeg) fun σ70 =>
  chk (n71 < hN σ70) (lt (sR σ70 a0 5 (some n71)) fun σ75 =>
  lt (hN σ75) fun n84 =>
  lt (nw σ75 10 ((7 : Int32)).toNatClampNeg) fun σ83 =>
  chk (n84 < hN σ83) (lt (sR σ83 a0 6 (some n84)) fun σ88 =>
  lt (hN σ88) fun n97 =>
  lt (nw σ88 10 ((360 : Int32)).toNatClampNeg) fun σ96 =>
  chk (n97 < hN σ96) (lt (sR σ96 a0 8 (some n97)) fun σ101 =>
  lt (hN σ101) fun n110 =>
  lt (nw σ101 10 ((360 : Int32)).toNatClampNeg) fun σ109 =>
  chk (n110 < hN σ109) (lt (sR σ109 a0 9 (some n110)) fun σ114 =>
  lt (hN σ114) fun n123 =>
  lt (nw σ114 10 ((360 : Int32)).toNatClampNeg) fun σ122 =>
  chk (n123 < hN σ122) (lt (sR σ122 a0 10 (some n123)) fun σ127 =>
  lt (hN σ127) fun n136 =>
  lt (nw σ127 10 ((360 : Int32)).toNatClampNeg) fun σ135 =>
  chk (n136 < hN σ135) (lt (sR σ135 a0 11 (some n136)) fun σ140 =>
  lt (hN σ140) fun n149 =>
  lt (nw σ140 10 ((6 : Int32)).toNatClampNeg) fun σ148 =>
  chk (n149 < hN σ148) (lt (sR σ148 a0 12 (some n149)) fun σ153 =>
  lt (hN σ153) fun n162 =>
  lt (nw σ153 10 ((60 : Int32)).toNatClampNeg) fun σ161 =>
  chk (n162 < hN σ161) (lt (sR σ161 a0 15 (some n162)) fun σ166 =>
  lt (hN σ166) fun n175 =>
  lt (nw σ166 10 ((6 : Int32)).toNatClampNeg) fun σ174 =>
  chk (n175 < hN σ174) (lt (sR σ174 a0 21 (some n175)) fun σ179 =>
  lt (hN σ179) fun n188 =>
  lt (nw σ179 10 ((6 : Int32)).toNatClampNeg) fun σ187 =>
  chk (n188 < hN σ187) (lt (sR σ187 a0 22 (some n188)) fun σ192 =>
  lt (hN σ192) fun n201 =>
  lt (nw σ192 12 ((60 : Int32)).toNatClampNeg) fun σ200 =>
  chk (n201 < hN σ200) (lt (sR σ200 a0 23 (some n201)) fun σ205 =>
  lt (hN σ205) fun n214 =>
  lt (nw σ205 12 ((60 : Int32)).toNatClampNeg) fun σ213 =>
  chk (n214 < hN σ213) (lt (sR σ213 a0 24 (some n214)) fun σ218 =>
  lt (hN σ218) fun n227 =>
  lt (nw σ218 11 ((60 : Int32)).toNatClampNeg) fun σ226 =>
  chk (n227 < hN σ226) (lt (sR σ226 a0 25 (some n227)) fun σ231 =>
  lt (hN σ231) fun n240 =>
  lt (nw σ231 10 ((60 : Int32)).toNatClampNeg) fun σ239 =>
  chk (n240 < hN σ239) (lt (sR σ239 a0 28 (some n240)) fun σ244 =>
  lt (hN σ244) fun n253 =>
  lt (nw σ244 12 ((60 : Int32)).toNatClampNeg) fun σ252 =>
  chk (n253 < hN σ252) (lt (sR σ252 a0 30 (some n253)) fun σ257 =>
  lt (hN σ257) fun n266 =>
  lt (nw σ257 12 ((60 : Int32)).toNatClampNeg) fun σ265 =>
  chk (n266 < hN σ265) (lt (sR σ265 a0 31 (some n266)) fun σ270 =>
  lt (hN σ270) fun n279 =>
  lt (nw σ270 10 ((6 : Int32)).toNatClampNeg) fun σ278 =>
  chk (n279 < hN σ278) (lt (sR σ278 a0 32 (some n279)) fun σ283 =>
  lt (hN σ283) fun n292 =>
  lt (nw σ283 10 ((24 : Int32)).toNatClampNeg) fun σ291 =>
  chk (n292 < hN σ291) (lt (sR σ291 a0 35 (some n292)) fun σ296 =>
  lt (hN σ296) fun n305 =>
  lt (nw σ296 10 ((24 : Int32)).toNatClampNeg) fun σ304 =>
  chk (n305 < hN σ304) (lt (sR σ304 a0 37 (some n305)) fun σ309 =>
  lt (hN σ309) fun n318 =>
  lt (nw σ309 10 ((18 : Int32)).toNatClampNeg) fun σ317 =>
  chk (n318 < hN σ317) (lt (sR σ317 a0 39 (some n318)) fun σ322 =>
  lt (hN σ322) fun n331 =>
  lt (nw σ322 10 ((4 : Int32)).toNatClampNeg) fun σ330 =>
  chk (isO σ330 10 n331 ∧ inb (0 : Int32) (hlen σ330 n331)) (lt (sA σ330 n331 ((0 : Int32)).toNatClampNeg (-1 : Int32)) fun σ337 =>
  chk (isO σ337 10 n331 ∧ inb (1 : Int32) (hlen σ337 n331)) (lt (sA σ337 n331 ((1 : Int32)).toNatClampNeg (-1 : Int32)) fun σ344 =>
  chk (isO σ344 10 n331 ∧ inb (2 : Int32) (hlen σ344 n331)) (lt (sA σ344 n331 ((2 : Int32)).toNatClampNeg (-1 : Int32)) fun σ351 =>
  chk (isO σ351 10 n331 ∧ inb (3 : Int32) (hlen σ351 n331)) (lt (sA σ351 n331 ((3 : Int32)).toNatClampNeg (-1 : Int32)) fun σ358 =>
  chk (n331 < hN σ358) (lt (sR σ358 a0 40 (some n331)) fun σ363 =>
  lt (hN σ363) fun n372 =>
  lt (nw σ363 12 ((32 : Int32)).toNatClampNeg) fun σ371 =>
  chk (n372 < hN σ371) (lt (sR σ371 a0 41 (some n372)) fun σ376 =>
  lt ((0 : Int32)) fun v383 =>
  lp_X6_init_245  1000 a0 v383 σ376)))))))))))))))))))))))))))))))))
def f_X5_init (a0 : Nat) (σ : HS) : Option (Unit × HS) :=
  chk (a0 < hN σ) (lt (hN σ) fun n5 =>
  lt (nw σ 2 0) fun σ4 =>
  chk (a0 < hN σ4) (bc (f_X2_init n5 σ4) fun r8 σ9 =>
  chk (isO σ9 5 a0) (chk (n5 < hN σ9) (lt (sR σ9 a0 0 (some n5)) fun σ18 =>
  lt (hN σ18) fun n26 =>
  lt (nw σ18 2 0) fun σ25 =>
  bc (f_X2_init n26 σ25) fun r30 σ31 =>
  chk (isO σ31 5 a0) (chk (n26 < hN σ31) (lt (sR σ31 a0 1 (some n26)) fun σ38 =>
  lt (sA σ38 a0 2 (0 : Int32)) fun σ44 =>
  lt (hN σ44) fun n50 =>
  lt (nw σ44 3 0) fun σ49 =>
  bc (f_X3_init n50 σ49) fun r54 σ55 =>
  chk (isO σ55 5 a0) (chk (n50 < hN σ55) (lt (sR σ55 a0 3 (some n50)) fun σ62 =>
  lt (hN σ62) fun n70 =>
  lt (nw σ62 4 0) fun σ69 =>
  bc (f_X4_init n70 σ69) fun r74 σ75 =>
  chk (isO σ75 5 a0) (chk (n70 < hN σ75) (lt (sR σ75 a0 4 (some n70)) fun σ82 =>
  lt (hN σ82) fun n90 =>
  lt (nwM σ82) fun σ89 =>
  chk (n90 < hN σ89) (lt (sR σ89 a0 5 (some n90)) fun σ94 =>
  lt (hN σ94) fun n103 =>
  lt (nw σ94 10 ((4 : Int32)).toNatClampNeg) fun σ102 =>
  chk (n103 < hN σ102) (lt (sR σ102 a0 6 (some n103)) fun σ107 =>
  lt (hN σ107) fun n116 =>
  lt (nw σ107 10 ((60 : Int32)).toNatClampNeg) fun σ115 =>
  chk (n116 < hN σ115) (lt (sR σ115 a0 7 (some n116)) fun σ120 =>
  lt (sA σ120 a0 8 (0 : Int32)) fun σ127 =>
  bd (hR σ127 a0 6) fun i131 =>
  bc (f_J7_fill_53178 i131 (-11 : Int32) σ127) fun r134 σ135 =>
  chk (hN σ127 ≤ hN σ135) (some ((), σ135)))))))))))))))
end
section
def lp_L_law_18_b (L : Nat) (xs : Nat → Int32) (K18 : Nat → Nat → Int32 → HS → Option (Int32 × HS)) (x1 : Nat) (x2 : Nat) (x3 : Int32) (τ : HS) : Option (Int32 × HS) :=
  lt (Int32.ofNat L) fun v29 =>
  (if (v29 - (9 : Int32)) < x3 then
  some ((1 : Int32), τ)
  else
  chk (inb x3 L) (lt (xs x3.toNatClampNeg) fun v36 =>
  lt ((v36 &&& (31 : Int32))) fun v38 =>
  (if v38 = (0 : Int32) then
  chk (inb (x3 + (1 : Int32)) L) (lt (xs ((x3 + (1 : Int32))).toNatClampNeg) fun v45 =>
  chk (inb (x3 + (2 : Int32)) L) (lt (xs ((x3 + (2 : Int32))).toNatClampNeg) fun v49 =>
  chk (inb (x3 + (3 : Int32)) L) (lt (xs ((x3 + (3 : Int32))).toNatClampNeg) fun v53 =>
  chk (isO τ 5 x1) (bc (f_X5_set x1 v45 v49 v53 τ) fun r57 σ58 =>
  chk (hN τ ≤ hN σ58) (chk (inb (x3 + (1 : Int32)) L) (lt (xs ((x3 + (1 : Int32))).toNatClampNeg) fun v65 =>
  chk (inb (x3 + (2 : Int32)) L) (lt (xs ((x3 + (2 : Int32))).toNatClampNeg) fun v69 =>
  chk (inb (x3 + (3 : Int32)) L) (lt (xs ((x3 + (3 : Int32))).toNatClampNeg) fun v73 =>
  chk (isO σ58 6 x2) (bc (f_X6_set x2 v65 v69 v73 σ58) fun r77 σ78 =>
  chk (hN σ58 ≤ hN σ78) ((if r57 = r77 then
  lt (x3 + (9 : Int32)) fun v86 =>
  K18 x1 x2 v86 σ78
  else
  some ((0 : Int32), σ78))))))))))))
  else if v38 = (1 : Int32) then
  chk (inb (x3 + (1 : Int32)) L) (lt (xs ((x3 + (1 : Int32))).toNatClampNeg) fun v93 =>
  chk (inb (x3 + (2 : Int32)) L) (lt (xs ((x3 + (2 : Int32))).toNatClampNeg) fun v97 =>
  chk (isO τ 5 x1) (bc (f_X5_of x1 v93 v97 τ) fun r101 σ102 =>
  chk (hN τ ≤ hN σ102) (chk (inb (x3 + (1 : Int32)) L) (lt (xs ((x3 + (1 : Int32))).toNatClampNeg) fun v109 =>
  chk (inb (x3 + (2 : Int32)) L) (lt (xs ((x3 + (2 : Int32))).toNatClampNeg) fun v113 =>
  chk (isO σ102 6 x2) (bc (f_X6_of x2 v109 v113 σ102) fun r117 σ118 =>
  chk (hN σ102 ≤ hN σ118) ((if r101 = r117 then
  lt (x3 + (9 : Int32)) fun v126 =>
  K18 x1 x2 v126 σ118
  else
  some ((0 : Int32), σ118))))))))))
  else if v38 = (2 : Int32) then
  chk (inb (x3 + (1 : Int32)) L) (lt (xs ((x3 + (1 : Int32))).toNatClampNeg) fun v133 =>
  chk (isO τ 5 x1) (bc (f_X5_feed x1 v133 τ) fun r137 σ138 =>
  chk (hN τ ≤ hN σ138) (chk (inb (x3 + (1 : Int32)) L) (lt (xs ((x3 + (1 : Int32))).toNatClampNeg) fun v145 =>
  chk (isO σ138 6 x2) (bc (f_X6_feed x2 v145 σ138) fun r149 σ150 =>
  chk (hN σ138 ≤ hN σ150) ((if r137 = r149 then
  lt (x3 + (9 : Int32)) fun v158 =>
  K18 x1 x2 v158 σ150
  else
  some ((0 : Int32), σ150))))))))
  else if v38 = (3 : Int32) then
  chk (isO τ 5 x1) (chk (x2 < hN τ) (bc (f_X5_formula x1 τ) fun r165 σ166 =>
  chk (isO σ166 6 x2) (bc (f_X6_formula x2 σ166) fun r175 σ176 =>
  chk (hN σ166 ≤ hN σ176) ((if r165 = r175 then
  lt (x3 + (9 : Int32)) fun v184 =>
  K18 x1 x2 v184 σ176
  else
  some ((0 : Int32), σ176))))))
  else if v38 = (4 : Int32) then
  chk (isO τ 5 x1) (bc (f_X5_drop x1 τ) fun r191 σ192 =>
  chk (hN τ ≤ hN σ192) (chk (isO σ192 6 x2) (bc (f_X6_drop x2 σ192) fun r199 σ200 =>
  chk (hN σ192 ≤ hN σ200) ((if r191 = r199 then
  lt (x3 + (9 : Int32)) fun v208 =>
  K18 x1 x2 v208 σ200
  else
  some ((0 : Int32), σ200))))))
  else if v38 = (5 : Int32) then
  chk (inb (x3 + (1 : Int32)) L) (lt (xs ((x3 + (1 : Int32))).toNatClampNeg) fun v215 =>
  chk (inb (x3 + (2 : Int32)) L) (lt (xs ((x3 + (2 : Int32))).toNatClampNeg) fun v219 =>
  chk (isO τ 5 x1) (bc (f_X5_parts x1 v215 v219 τ) fun r223 σ224 =>
  chk (hN τ ≤ hN σ224) (chk (inb (x3 + (1 : Int32)) L) (lt (xs ((x3 + (1 : Int32))).toNatClampNeg) fun v231 =>
  chk (inb (x3 + (2 : Int32)) L) (lt (xs ((x3 + (2 : Int32))).toNatClampNeg) fun v235 =>
  chk (isO σ224 6 x2) (bc (f_X6_parts x2 v231 v235 σ224) fun r239 σ240 =>
  chk (hN σ224 ≤ hN σ240) ((if r223 = r239 then
  lt (x3 + (9 : Int32)) fun v248 =>
  K18 x1 x2 v248 σ240
  else
  some ((0 : Int32), σ240))))))))))
  else if v38 = (6 : Int32) then
  chk (inb (x3 + (1 : Int32)) L) (lt (xs ((x3 + (1 : Int32))).toNatClampNeg) fun v255 =>
  chk (inb (x3 + (2 : Int32)) L) (lt (xs ((x3 + (2 : Int32))).toNatClampNeg) fun v259 =>
  chk (isO τ 5 x1) (bc (f_X5_alike x1 v255 v259 τ) fun r263 σ264 =>
  chk (hN τ ≤ hN σ264) (chk (inb (x3 + (1 : Int32)) L) (lt (xs ((x3 + (1 : Int32))).toNatClampNeg) fun v271 =>
  chk (inb (x3 + (2 : Int32)) L) (lt (xs ((x3 + (2 : Int32))).toNatClampNeg) fun v275 =>
  chk (isO σ264 6 x2) (bc (f_X6_alike x2 v271 v275 σ264) fun r279 σ280 =>
  chk (hN σ264 ≤ hN σ280) ((if r263 = r279 then
  lt (x3 + (9 : Int32)) fun v288 =>
  K18 x1 x2 v288 σ280
  else
  some ((0 : Int32), σ280))))))))))
  else if v38 = (7 : Int32) then
  chk (inb (x3 + (1 : Int32)) L) (lt (xs ((x3 + (1 : Int32))).toNatClampNeg) fun v295 =>
  chk (inb (x3 + (2 : Int32)) L) (lt (xs ((x3 + (2 : Int32))).toNatClampNeg) fun v299 =>
  chk (isO τ 5 x1) (bc (f_X5_span x1 v295 v299 τ) fun r303 σ304 =>
  chk (hN τ ≤ hN σ304) (chk (inb (x3 + (1 : Int32)) L) (lt (xs ((x3 + (1 : Int32))).toNatClampNeg) fun v311 =>
  chk (inb (x3 + (2 : Int32)) L) (lt (xs ((x3 + (2 : Int32))).toNatClampNeg) fun v315 =>
  chk (isO σ304 6 x2) (bc (f_X6_span x2 v311 v315 σ304) fun r319 σ320 =>
  chk (hN σ304 ≤ hN σ320) ((if (lg_cmp r303 r319) = 0 then
  lt (x3 + (9 : Int32)) fun v328 =>
  K18 x1 x2 v328 σ320
  else
  some ((0 : Int32), σ320))))))))))
  else if v38 = (8 : Int32) then
  chk (inb (x3 + (1 : Int32)) L) (lt (xs ((x3 + (1 : Int32))).toNatClampNeg) fun v335 =>
  chk (isO τ 5 x1) (bc (f_X5_way x1 v335 τ) fun r339 σ340 =>
  chk (hN τ ≤ hN σ340) (chk (inb (x3 + (1 : Int32)) L) (lt (xs ((x3 + (1 : Int32))).toNatClampNeg) fun v347 =>
  chk (isO σ340 6 x2) (bc (f_X6_way x2 v347 σ340) fun r351 σ352 =>
  chk (hN σ340 ≤ hN σ352) ((if r339 = r351 then
  lt (x3 + (9 : Int32)) fun v360 =>
  K18 x1 x2 v360 σ352
  else
  some ((0 : Int32), σ352))))))))
  else if v38 = (9 : Int32) then
  chk (inb (x3 + (1 : Int32)) L) (lt (xs ((x3 + (1 : Int32))).toNatClampNeg) fun v367 =>
  chk (isO τ 5 x1) (bc (f_X5_exact x1 v367 τ) fun r371 σ372 =>
  chk (hN τ ≤ hN σ372) (chk (inb (x3 + (1 : Int32)) L) (lt (xs ((x3 + (1 : Int32))).toNatClampNeg) fun v379 =>
  chk (isO σ372 6 x2) (bc (f_X6_exact x2 v379 σ372) fun r383 σ384 =>
  chk (hN σ372 ≤ hN σ384) ((if (lg_cmp r371 r383) = 0 then
  lt (x3 + (9 : Int32)) fun v392 =>
  K18 x1 x2 v392 σ384
  else
  some ((0 : Int32), σ384))))))))
  else if v38 = (10 : Int32) then
  chk (inb (x3 + (1 : Int32)) L) (lt (xs ((x3 + (1 : Int32))).toNatClampNeg) fun v399 =>
  chk (inb (x3 + (2 : Int32)) L) (lt (xs ((x3 + (2 : Int32))).toNatClampNeg) fun v403 =>
  chk (isO τ 5 x1) (bc (f_X5_corner x1 v399 v403 τ) fun r407 σ408 =>
  chk (hN τ ≤ hN σ408) (chk (inb (x3 + (1 : Int32)) L) (lt (xs ((x3 + (1 : Int32))).toNatClampNeg) fun v415 =>
  chk (inb (x3 + (2 : Int32)) L) (lt (xs ((x3 + (2 : Int32))).toNatClampNeg) fun v419 =>
  chk (isO σ408 6 x2) (bc (f_X6_corner x2 v415 v419 σ408) fun r423 σ424 =>
  chk (hN σ408 ≤ hN σ424) ((if (lg_cmp r407 r423) = 0 then
  lt (x3 + (9 : Int32)) fun v432 =>
  K18 x1 x2 v432 σ424
  else
  some ((0 : Int32), σ424))))))))))
  else if v38 = (11 : Int32) then
  chk (inb (x3 + (1 : Int32)) L) (lt (xs ((x3 + (1 : Int32))).toNatClampNeg) fun v439 =>
  chk (inb (x3 + (2 : Int32)) L) (lt (xs ((x3 + (2 : Int32))).toNatClampNeg) fun v443 =>
  chk (isO τ 5 x1) (bc (f_X5_rises x1 v439 v443 τ) fun r447 σ448 =>
  chk (hN τ ≤ hN σ448) (chk (inb (x3 + (1 : Int32)) L) (lt (xs ((x3 + (1 : Int32))).toNatClampNeg) fun v455 =>
  chk (inb (x3 + (2 : Int32)) L) (lt (xs ((x3 + (2 : Int32))).toNatClampNeg) fun v459 =>
  chk (isO σ448 6 x2) (bc (f_X6_rises x2 v455 v459 σ448) fun r463 σ464 =>
  chk (hN σ448 ≤ hN σ464) ((if r447 = r463 then
  lt (x3 + (9 : Int32)) fun v472 =>
  K18 x1 x2 v472 σ464
  else
  some ((0 : Int32), σ464))))))))))
  else if v38 = (12 : Int32) then
  chk (inb (x3 + (1 : Int32)) L) (lt (xs ((x3 + (1 : Int32))).toNatClampNeg) fun v479 =>
  chk (inb (x3 + (2 : Int32)) L) (lt (xs ((x3 + (2 : Int32))).toNatClampNeg) fun v483 =>
  chk (isO τ 5 x1) (bc (f_X5_tight x1 v479 v483 τ) fun r487 σ488 =>
  chk (hN τ ≤ hN σ488) (chk (inb (x3 + (1 : Int32)) L) (lt (xs ((x3 + (1 : Int32))).toNatClampNeg) fun v495 =>
  chk (inb (x3 + (2 : Int32)) L) (lt (xs ((x3 + (2 : Int32))).toNatClampNeg) fun v499 =>
  chk (isO σ488 6 x2) (bc (f_X6_tight x2 v495 v499 σ488) fun r503 σ504 =>
  chk (hN σ488 ≤ hN σ504) ((if (lg_cmp r487 r503) = 0 then
  lt (x3 + (9 : Int32)) fun v512 =>
  K18 x1 x2 v512 σ504
  else
  some ((0 : Int32), σ504))))))))))
  else if v38 = (13 : Int32) then
  chk (inb (x3 + (1 : Int32)) L) (lt (xs ((x3 + (1 : Int32))).toNatClampNeg) fun v519 =>
  chk (inb (x3 + (2 : Int32)) L) (lt (xs ((x3 + (2 : Int32))).toNatClampNeg) fun v523 =>
  chk (inb (x3 + (3 : Int32)) L) (lt (xs ((x3 + (3 : Int32))).toNatClampNeg) fun v527 =>
  chk (inb (x3 + (4 : Int32)) L) (lt (xs ((x3 + (4 : Int32))).toNatClampNeg) fun v531 =>
  chk (isO τ 5 x1) (bc (f_X5_split x1 v519 v523 v527 v531 τ) fun r535 σ536 =>
  chk (hN τ ≤ hN σ536) (chk (inb (x3 + (1 : Int32)) L) (lt (xs ((x3 + (1 : Int32))).toNatClampNeg) fun v543 =>
  chk (inb (x3 + (2 : Int32)) L) (lt (xs ((x3 + (2 : Int32))).toNatClampNeg) fun v547 =>
  chk (inb (x3 + (3 : Int32)) L) (lt (xs ((x3 + (3 : Int32))).toNatClampNeg) fun v551 =>
  chk (inb (x3 + (4 : Int32)) L) (lt (xs ((x3 + (4 : Int32))).toNatClampNeg) fun v555 =>
  chk (isO σ536 6 x2) (bc (f_X6_split x2 v543 v547 v551 v555 σ536) fun r559 σ560 =>
  chk (hN σ536 ≤ hN σ560) ((if (lg_cmp r535 r559) = 0 then
  lt (x3 + (9 : Int32)) fun v568 =>
  K18 x1 x2 v568 σ560
  else
  some ((0 : Int32), σ560))))))))))))))
  else if v38 = (14 : Int32) then
  chk (inb (x3 + (1 : Int32)) L) (lt (xs ((x3 + (1 : Int32))).toNatClampNeg) fun v575 =>
  chk (inb (x3 + (2 : Int32)) L) (lt (xs ((x3 + (2 : Int32))).toNatClampNeg) fun v579 =>
  chk (isO τ 5 x1) (bc (f_X5_best x1 v575 v579 τ) fun r583 σ584 =>
  chk (hN τ ≤ hN σ584) (chk (inb (x3 + (1 : Int32)) L) (lt (xs ((x3 + (1 : Int32))).toNatClampNeg) fun v591 =>
  chk (inb (x3 + (2 : Int32)) L) (lt (xs ((x3 + (2 : Int32))).toNatClampNeg) fun v595 =>
  chk (isO σ584 6 x2) (bc (f_X6_best x2 v591 v595 σ584) fun r599 σ600 =>
  chk (hN σ584 ≤ hN σ600) ((if (lg_cmp r583 r599) = 0 then
  lt (x3 + (9 : Int32)) fun v608 =>
  K18 x1 x2 v608 σ600
  else
  some ((0 : Int32), σ600))))))))))
  else if v38 = (15 : Int32) then
  chk (inb (x3 + (1 : Int32)) L) (lt (xs ((x3 + (1 : Int32))).toNatClampNeg) fun v615 =>
  chk (isO τ 5 x1) (bc (f_X5_widest x1 v615 τ) fun r619 σ620 =>
  chk (hN τ ≤ hN σ620) (chk (inb (x3 + (1 : Int32)) L) (lt (xs ((x3 + (1 : Int32))).toNatClampNeg) fun v627 =>
  chk (isO σ620 6 x2) (bc (f_X6_widest x2 v627 σ620) fun r631 σ632 =>
  chk (hN σ620 ≤ hN σ632) ((if r619 = r631 then
  lt (x3 + (9 : Int32)) fun v640 =>
  K18 x1 x2 v640 σ632
  else
  some ((0 : Int32), σ632))))))))
  else if v38 = (16 : Int32) then
  chk (inb (x3 + (1 : Int32)) L) (lt (xs ((x3 + (1 : Int32))).toNatClampNeg) fun v647 =>
  chk (inb (x3 + (2 : Int32)) L) (lt (xs ((x3 + (2 : Int32))).toNatClampNeg) fun v651 =>
  chk (inb (x3 + (3 : Int32)) L) (lt (xs ((x3 + (3 : Int32))).toNatClampNeg) fun v655 =>
  chk (inb (x3 + (4 : Int32)) L) (lt (xs ((x3 + (4 : Int32))).toNatClampNeg) fun v659 =>
  chk (isO τ 5 x1) (bc (f_X5_again x1 v647 (((v651).toInt64 <<< (((32 : Int32)).toInt64 &&& 63)) ||| ((v655).toInt64 &&& (4294967295 : Int64))) v659 τ) fun r663 σ664 =>
  chk (hN τ ≤ hN σ664) (chk (inb (x3 + (1 : Int32)) L) (lt (xs ((x3 + (1 : Int32))).toNatClampNeg) fun v671 =>
  chk (inb (x3 + (2 : Int32)) L) (lt (xs ((x3 + (2 : Int32))).toNatClampNeg) fun v675 =>
  chk (inb (x3 + (3 : Int32)) L) (lt (xs ((x3 + (3 : Int32))).toNatClampNeg) fun v679 =>
  chk (inb (x3 + (4 : Int32)) L) (lt (xs ((x3 + (4 : Int32))).toNatClampNeg) fun v683 =>
  chk (isO σ664 6 x2) (bc (f_X6_again x2 v671 (((v675).toInt64 <<< (((32 : Int32)).toInt64 &&& 63)) ||| ((v679).toInt64 &&& (4294967295 : Int64))) v683 σ664) fun r687 σ688 =>
  chk (hN σ664 ≤ hN σ688) ((if r663 = r687 then
  lt (x3 + (9 : Int32)) fun v696 =>
  K18 x1 x2 v696 σ688
  else
  some ((0 : Int32), σ688))))))))))))))
  else if v38 = (17 : Int32) then
  chk (inb (x3 + (1 : Int32)) L) (lt (xs ((x3 + (1 : Int32))).toNatClampNeg) fun v703 =>
  chk (inb (x3 + (2 : Int32)) L) (lt (xs ((x3 + (2 : Int32))).toNatClampNeg) fun v707 =>
  chk (inb (x3 + (3 : Int32)) L) (lt (xs ((x3 + (3 : Int32))).toNatClampNeg) fun v711 =>
  chk (inb (x3 + (4 : Int32)) L) (lt (xs ((x3 + (4 : Int32))).toNatClampNeg) fun v715 =>
  chk (inb (x3 + (5 : Int32)) L) (lt (xs ((x3 + (5 : Int32))).toNatClampNeg) fun v719 =>
  chk (isO τ 5 x1) (bc (f_X5_fits x1 v703 v707 (((v711).toInt64 <<< (((32 : Int32)).toInt64 &&& 63)) ||| ((v715).toInt64 &&& (4294967295 : Int64))) v719 τ) fun r723 σ724 =>
  chk (hN τ ≤ hN σ724) (chk (inb (x3 + (1 : Int32)) L) (lt (xs ((x3 + (1 : Int32))).toNatClampNeg) fun v731 =>
  chk (inb (x3 + (2 : Int32)) L) (lt (xs ((x3 + (2 : Int32))).toNatClampNeg) fun v735 =>
  chk (inb (x3 + (3 : Int32)) L) (lt (xs ((x3 + (3 : Int32))).toNatClampNeg) fun v739 =>
  chk (inb (x3 + (4 : Int32)) L) (lt (xs ((x3 + (4 : Int32))).toNatClampNeg) fun v743 =>
  chk (inb (x3 + (5 : Int32)) L) (lt (xs ((x3 + (5 : Int32))).toNatClampNeg) fun v747 =>
  chk (isO σ724 6 x2) (bc (f_X6_fits x2 v731 v735 (((v739).toInt64 <<< (((32 : Int32)).toInt64 &&& 63)) ||| ((v743).toInt64 &&& (4294967295 : Int64))) v747 σ724) fun r751 σ752 =>
  chk (hN σ724 ≤ hN σ752) ((if r723 = r751 then
  lt (x3 + (9 : Int32)) fun v760 =>
  K18 x1 x2 v760 σ752
  else
  some ((0 : Int32), σ752))))))))))))))))
  else if v38 = (18 : Int32) then
  chk (inb (x3 + (1 : Int32)) L) (lt (xs ((x3 + (1 : Int32))).toNatClampNeg) fun v767 =>
  chk (inb (x3 + (2 : Int32)) L) (lt (xs ((x3 + (2 : Int32))).toNatClampNeg) fun v771 =>
  chk (inb (x3 + (3 : Int32)) L) (lt (xs ((x3 + (3 : Int32))).toNatClampNeg) fun v775 =>
  chk (inb (x3 + (4 : Int32)) L) (lt (xs ((x3 + (4 : Int32))).toNatClampNeg) fun v779 =>
  chk (inb (x3 + (5 : Int32)) L) (lt (xs ((x3 + (5 : Int32))).toNatClampNeg) fun v783 =>
  chk (inb (x3 + (6 : Int32)) L) (lt (xs ((x3 + (6 : Int32))).toNatClampNeg) fun v787 =>
  chk (inb (x3 + (7 : Int32)) L) (lt (xs ((x3 + (7 : Int32))).toNatClampNeg) fun v791 =>
  chk (inb (x3 + (8 : Int32)) L) (lt (xs ((x3 + (8 : Int32))).toNatClampNeg) fun v795 =>
  chk (isO τ 5 x1) (bc (f_X5_odds x1 v767 v771 v775 (((v779).toInt64 <<< (((32 : Int32)).toInt64 &&& 63)) ||| ((v783).toInt64 &&& (4294967295 : Int64))) (((v787).toInt64 <<< (((32 : Int32)).toInt64 &&& 63)) ||| ((v791).toInt64 &&& (4294967295 : Int64))) v795 τ) fun r799 σ800 =>
  chk (hN τ ≤ hN σ800) (chk (inb (x3 + (1 : Int32)) L) (lt (xs ((x3 + (1 : Int32))).toNatClampNeg) fun v807 =>
  chk (inb (x3 + (2 : Int32)) L) (lt (xs ((x3 + (2 : Int32))).toNatClampNeg) fun v811 =>
  chk (inb (x3 + (3 : Int32)) L) (lt (xs ((x3 + (3 : Int32))).toNatClampNeg) fun v815 =>
  chk (inb (x3 + (4 : Int32)) L) (lt (xs ((x3 + (4 : Int32))).toNatClampNeg) fun v819 =>
  chk (inb (x3 + (5 : Int32)) L) (lt (xs ((x3 + (5 : Int32))).toNatClampNeg) fun v823 =>
  chk (inb (x3 + (6 : Int32)) L) (lt (xs ((x3 + (6 : Int32))).toNatClampNeg) fun v827 =>
  chk (inb (x3 + (7 : Int32)) L) (lt (xs ((x3 + (7 : Int32))).toNatClampNeg) fun v831 =>
  chk (inb (x3 + (8 : Int32)) L) (lt (xs ((x3 + (8 : Int32))).toNatClampNeg) fun v835 =>
  chk (isO σ800 6 x2) (bc (f_X6_odds x2 v807 v811 v815 (((v819).toInt64 <<< (((32 : Int32)).toInt64 &&& 63)) ||| ((v823).toInt64 &&& (4294967295 : Int64))) (((v827).toInt64 <<< (((32 : Int32)).toInt64 &&& 63)) ||| ((v831).toInt64 &&& (4294967295 : Int64))) v835 σ800) fun r839 σ840 =>
  chk (hN σ800 ≤ hN σ840) ((if (lg_cmp r799 r839) = 0 then
  lt (x3 + (9 : Int32)) fun v848 =>
  K18 x1 x2 v848 σ840
  else
  some ((0 : Int32), σ840))))))))))))))))))))))
  else if v38 = (19 : Int32) then
  chk (inb (x3 + (1 : Int32)) L) (lt (xs ((x3 + (1 : Int32))).toNatClampNeg) fun v855 =>
  chk (inb (x3 + (2 : Int32)) L) (lt (xs ((x3 + (2 : Int32))).toNatClampNeg) fun v859 =>
  chk (inb (x3 + (3 : Int32)) L) (lt (xs ((x3 + (3 : Int32))).toNatClampNeg) fun v863 =>
  chk (isO τ 5 x1) (bc (f_X5_plan x1 v855 v859 v863 τ) fun r867 σ868 =>
  chk (hN τ ≤ hN σ868) (chk (inb (x3 + (1 : Int32)) L) (lt (xs ((x3 + (1 : Int32))).toNatClampNeg) fun v875 =>
  chk (inb (x3 + (2 : Int32)) L) (lt (xs ((x3 + (2 : Int32))).toNatClampNeg) fun v879 =>
  chk (inb (x3 + (3 : Int32)) L) (lt (xs ((x3 + (3 : Int32))).toNatClampNeg) fun v883 =>
  chk (isO σ868 6 x2) (bc (f_X6_plan x2 v875 v879 v883 σ868) fun r887 σ888 =>
  chk (hN σ868 ≤ hN σ888) ((if r867 = r887 then
  lt (x3 + (9 : Int32)) fun v896 =>
  K18 x1 x2 v896 σ888
  else
  some ((0 : Int32), σ888))))))))))))
  else if v38 = (20 : Int32) then
  chk (inb (x3 + (1 : Int32)) L) (lt (xs ((x3 + (1 : Int32))).toNatClampNeg) fun v903 =>
  chk (isO τ 5 x1) (bc (f_X5_ends x1 v903 τ) fun r907 σ908 =>
  chk (hN τ ≤ hN σ908) (chk (inb (x3 + (1 : Int32)) L) (lt (xs ((x3 + (1 : Int32))).toNatClampNeg) fun v915 =>
  chk (isO σ908 6 x2) (bc (f_X6_ends x2 v915 σ908) fun r919 σ920 =>
  chk (hN σ908 ≤ hN σ920) ((if (lg_cmp r907 r919) = 0 then
  lt (x3 + (9 : Int32)) fun v928 =>
  K18 x1 x2 v928 σ920
  else
  some ((0 : Int32), σ920))))))))
  else if v38 = (21 : Int32) then
  chk (inb (x3 + (1 : Int32)) L) (lt (xs ((x3 + (1 : Int32))).toNatClampNeg) fun v935 =>
  chk (isO τ 5 x1) (bc (f_X5_judge x1 v935 τ) fun r939 σ940 =>
  chk (hN τ ≤ hN σ940) (chk (inb (x3 + (1 : Int32)) L) (lt (xs ((x3 + (1 : Int32))).toNatClampNeg) fun v947 =>
  chk (isO σ940 6 x2) (bc (f_X6_judge x2 v947 σ940) fun r951 σ952 =>
  chk (hN σ940 ≤ hN σ952) ((if r939 = r951 then
  lt (x3 + (9 : Int32)) fun v960 =>
  K18 x1 x2 v960 σ952
  else
  some ((0 : Int32), σ952))))))))
  else if v38 = (22 : Int32) then
  chk (inb (x3 + (1 : Int32)) L) (lt (xs ((x3 + (1 : Int32))).toNatClampNeg) fun v967 =>
  chk (inb (x3 + (2 : Int32)) L) (lt (xs ((x3 + (2 : Int32))).toNatClampNeg) fun v971 =>
  chk (isO τ 5 x1) (bc (f_X5_list x1 v967 v971 τ) fun r975 σ976 =>
  chk (hN τ ≤ hN σ976) (chk (inb (x3 + (1 : Int32)) L) (lt (xs ((x3 + (1 : Int32))).toNatClampNeg) fun v983 =>
  chk (inb (x3 + (2 : Int32)) L) (lt (xs ((x3 + (2 : Int32))).toNatClampNeg) fun v987 =>
  chk (isO σ976 6 x2) (bc (f_X6_list x2 v983 v987 σ976) fun r991 σ992 =>
  chk (hN σ976 ≤ hN σ992) ((if r975 = r991 then
  lt (x3 + (9 : Int32)) fun v1000 =>
  K18 x1 x2 v1000 σ992
  else
  some ((0 : Int32), σ992))))))))))
  else if v38 = (23 : Int32) then
  chk (inb (x3 + (1 : Int32)) L) (lt (xs ((x3 + (1 : Int32))).toNatClampNeg) fun v1007 =>
  chk (inb (x3 + (2 : Int32)) L) (lt (xs ((x3 + (2 : Int32))).toNatClampNeg) fun v1011 =>
  chk (inb (x3 + (3 : Int32)) L) (lt (xs ((x3 + (3 : Int32))).toNatClampNeg) fun v1015 =>
  chk (inb (x3 + (4 : Int32)) L) (lt (xs ((x3 + (4 : Int32))).toNatClampNeg) fun v1019 =>
  chk (isO τ 5 x1) (bc (f_X5_put x1 v1007 v1011 (((v1015).toInt64 <<< (((32 : Int32)).toInt64 &&& 63)) ||| ((v1019).toInt64 &&& (4294967295 : Int64))) τ) fun r1023 σ1024 =>
  chk (hN τ ≤ hN σ1024) (chk (inb (x3 + (1 : Int32)) L) (lt (xs ((x3 + (1 : Int32))).toNatClampNeg) fun v1031 =>
  chk (inb (x3 + (2 : Int32)) L) (lt (xs ((x3 + (2 : Int32))).toNatClampNeg) fun v1035 =>
  chk (inb (x3 + (3 : Int32)) L) (lt (xs ((x3 + (3 : Int32))).toNatClampNeg) fun v1039 =>
  chk (inb (x3 + (4 : Int32)) L) (lt (xs ((x3 + (4 : Int32))).toNatClampNeg) fun v1043 =>
  chk (isO σ1024 6 x2) (bc (f_X6_put x2 v1031 v1035 (((v1039).toInt64 <<< (((32 : Int32)).toInt64 &&& 63)) ||| ((v1043).toInt64 &&& (4294967295 : Int64))) σ1024) fun r1047 σ1048 =>
  chk (hN σ1024 ≤ hN σ1048) ((if r1023 = r1047 then
  lt (x3 + (9 : Int32)) fun v1056 =>
  K18 x1 x2 v1056 σ1048
  else
  some ((0 : Int32), σ1048))))))))))))))
  else if v38 = (24 : Int32) then
  chk (inb (x3 + (1 : Int32)) L) (lt (xs ((x3 + (1 : Int32))).toNatClampNeg) fun v1063 =>
  chk (inb (x3 + (2 : Int32)) L) (lt (xs ((x3 + (2 : Int32))).toNatClampNeg) fun v1067 =>
  chk (isO τ 5 x1) (bc (f_X5_get x1 v1063 v1067 τ) fun r1071 σ1072 =>
  chk (hN τ ≤ hN σ1072) (chk (inb (x3 + (1 : Int32)) L) (lt (xs ((x3 + (1 : Int32))).toNatClampNeg) fun v1079 =>
  chk (inb (x3 + (2 : Int32)) L) (lt (xs ((x3 + (2 : Int32))).toNatClampNeg) fun v1083 =>
  chk (isO σ1072 6 x2) (bc (f_X6_get x2 v1079 v1083 σ1072) fun r1087 σ1088 =>
  chk (hN σ1072 ≤ hN σ1088) ((if (lg_cmp r1071 r1087) = 0 then
  lt (x3 + (9 : Int32)) fun v1096 =>
  K18 x1 x2 v1096 σ1088
  else
  some ((0 : Int32), σ1088))))))))))
  else if v38 = (25 : Int32) then
  chk (isO τ 5 x1) (bc (f_X5_image x1 τ) fun r1103 σ1104 =>
  chk (hN τ ≤ hN σ1104) (chk (isO σ1104 6 x2) (bc (f_X6_image x2 σ1104) fun r1111 σ1112 =>
  chk (hN σ1104 ≤ hN σ1112) ((if r1103 = r1111 then
  lt (x3 + (9 : Int32)) fun v1120 =>
  K18 x1 x2 v1120 σ1112
  else
  some ((0 : Int32), σ1112))))))
  else if v38 = (26 : Int32) then
  chk (isO τ 5 x1) (bc (f_X5_undo x1 τ) fun r1127 σ1128 =>
  chk (hN τ ≤ hN σ1128) (chk (isO σ1128 6 x2) (bc (f_X6_undo x2 σ1128) fun r1135 σ1136 =>
  chk (hN σ1128 ≤ hN σ1136) ((if r1127 = r1135 then
  lt (x3 + (9 : Int32)) fun v1144 =>
  K18 x1 x2 v1144 σ1136
  else
  some ((0 : Int32), σ1136))))))
  else if v38 = (27 : Int32) then
  chk (inb (x3 + (1 : Int32)) L) (lt (xs ((x3 + (1 : Int32))).toNatClampNeg) fun v1151 =>
  chk (isO τ 5 x1) (bc (f_X5_count x1 v1151 τ) fun r1155 σ1156 =>
  chk (hN τ ≤ hN σ1156) (chk (inb (x3 + (1 : Int32)) L) (lt (xs ((x3 + (1 : Int32))).toNatClampNeg) fun v1163 =>
  chk (isO σ1156 6 x2) (bc (f_X6_count x2 v1163 σ1156) fun r1167 σ1168 =>
  chk (hN σ1156 ≤ hN σ1168) ((if r1155 = r1167 then
  lt (x3 + (9 : Int32)) fun v1176 =>
  K18 x1 x2 v1176 σ1168
  else
  some ((0 : Int32), σ1168))))))))
  else lt (x3 + (9 : Int32)) fun v1178 =>
  K18 x1 x2 v1178 τ)))
def lp_L_law_18 (L : Nat) (xs : Nat → Int32) : Nat → Nat → Nat → Int32 → HS → Option (Int32 × HS)
  | 0 => fun _ _ _ _ => none
  | n + 1 => lp_L_law_18_b L xs (lp_L_law_18 L xs n)
def f_L_law (L : Nat) (xs : Nat → Int32) (σ : HS) : Option (Int32 × HS) :=
  lt (hN σ) fun n3 =>
  lt (nw σ 5 0) fun σ2 =>
  bc (f_X5_init n3 σ2) fun r6 σ7 =>
  chk (n3 < hN σ7) (lt (hN σ7) fun n16 =>
  lt (nw σ7 6 0) fun σ15 =>
  chk (n3 < hN σ15) (bc (f_X6_init n16 σ15) fun r19 σ20 =>
  lt ((0 : Int32)) fun v27 =>
  lp_L_law_18 L xs 1000 n3 n16 v27 σ20))
end
section
def tyT (j : Nat) : Nat := [5, 2, 10, 10, 10, 13, 10, 10, 10, 2, 10, 10, 10, 13, 10, 10, 10, 3, 10, 10, 10, 10, 10, 10, 4, 10, 10, 10, 1, 12, 12, 11, 1, 12, 12, 11, 1, 12, 12, 11, 12, 14, 12, 12, 12, 12, 10, 10, 6, 10, 10, 10, 10, 10, 10, 10, 10, 10, 10, 10, 10, 10, 10, 10, 12, 12, 11, 10, 12, 12, 10, 10, 10, 10, 10, 12].getD j 0
def lnT (j : Nat) : Nat := [0, 0, 6, 6, 6, 6, 8, 8, 8, 0, 6, 6, 6, 6, 8, 8, 8, 0, 60, 60, 60, 60, 60, 60, 0, 6, 6, 6, 0, 60, 60, 60, 0, 60, 60, 60, 0, 2, 2, 2, 60, 4, 8, 8, 8, 8, 4, 60, 0, 18, 18, 420, 420, 420, 420, 7, 360, 360, 360, 360, 6, 60, 6, 6, 60, 60, 60, 60, 60, 60, 6, 24, 24, 18, 4, 32].getD j 0
def refT : Nat → List (Option Nat)
  | 0 => [some 1, some 9, none, some 17, some 24, some 41, some 46, some 47]
  | 1 => [some 2, some 3, some 4, some 5, none, some 6, some 7, some 8]
  | 9 => [some 10, some 11, some 12, some 13, none, some 14, some 15, some 16]
  | 17 => [some 18, none, none, some 19, some 20, some 21, some 22, some 23]
  | 24 => [some 25, some 26, none, none, none, some 27, some 28, some 32, some 36, some 40]
  | 28 => [some 29, some 30, some 31]
  | 32 => [some 33, some 34, some 35]
  | 36 => [some 37, some 38, some 39]
  | 41 => [some 42, some 43, some 44, some 45]
  | 48 => [some 49, some 50, some 51, some 52, some 53, some 54, some 55, none, some 56, some 57, some 58, some 59, some 60, none, none, some 61, none, none, none, none, none, some 62, some 63, some 64, some 65, some 66, none, none, some 67, none, some 68, some 69, some 70, none, none, some 71, none, some 72, none, some 73, some 74, some 75]
  | _ => []
/-- the cells of the two objects are as they were made (what they hold apart) -/
def Typ (σ : HS) : Prop := 76 ≤ hN σ ∧ ∀ j, j < 76 → hty σ j = tyT j ∧ hlen σ j = lnT j ∧ ∀ k, k < 42 → ∀ i, (refT j)[k]? = some (some i) → hR σ j k = some i
theorem Typ.o {σ : HS} (h : Typ σ) (j t : Nat) (hj : j < 76) (ht : tyT j = t) : isO σ t j := ⟨Nat.lt_of_lt_of_le hj h.1, (h.2 j hj).1.trans ht⟩
theorem Typ.l {σ : HS} (h : Typ σ) (j n : Nat) (hj : j < 76) (ht : lnT j = n) : hlen σ j = n := (h.2 j hj).2.1.trans ht
theorem Typ.r {σ : HS} (h : Typ σ) (j k i : Nat) (hj : j < 76) (hk : k < 42) (ht : (refT j)[k]? = some (some i)) : hR σ j k = some i := (h.2 j hj).2.2 k hk i ht
theorem Typ.cong {σ σ' : HS} (h : Typ σ) (h1 : hN σ ≤ hN σ') (h2 : ∀ j, j < 76 → hty σ' j = hty σ j ∧ hlen σ' j = hlen σ j ∧ (j ≠ 5 → j ≠ 13 → hR σ' j = hR σ j)) : Typ σ' := by
  refine ⟨Nat.le_trans h.1 h1, fun j hj => ?_⟩
  obtain ⟨a, b, c⟩ := h2 j hj
  refine ⟨a.trans (h.2 j hj).1, b.trans (h.2 j hj).2.1, fun k hk i hi => ?_⟩
  by_cases e5 : j = 5
  · subst e5; exact absurd hi (by unfold refT; simp)
  by_cases e13 : j = 13
  · subst e13; exact absurd hi (by unfold refT; simp)
  rw [c e5 e13]
  exact (h.2 j hj).2.2 k hk i hi
theorem o0 {σ : HS} (h : Typ σ) : isO σ 5 0 := h.o 0 5 (by decide) rfl
theorem r0_0 {σ : HS} (h : Typ σ) : hR σ 0 0 = some 1 := h.r 0 0 1 (by decide) (by decide) rfl
theorem r0_1 {σ : HS} (h : Typ σ) : hR σ 0 1 = some 9 := h.r 0 1 9 (by decide) (by decide) rfl
theorem r0_3 {σ : HS} (h : Typ σ) : hR σ 0 3 = some 17 := h.r 0 3 17 (by decide) (by decide) rfl
theorem r0_4 {σ : HS} (h : Typ σ) : hR σ 0 4 = some 24 := h.r 0 4 24 (by decide) (by decide) rfl
theorem r0_5 {σ : HS} (h : Typ σ) : hR σ 0 5 = some 41 := h.r 0 5 41 (by decide) (by decide) rfl
theorem r0_6 {σ : HS} (h : Typ σ) : hR σ 0 6 = some 46 := h.r 0 6 46 (by decide) (by decide) rfl
theorem r0_7 {σ : HS} (h : Typ σ) : hR σ 0 7 = some 47 := h.r 0 7 47 (by decide) (by decide) rfl
theorem o1 {σ : HS} (h : Typ σ) : isO σ 2 1 := h.o 1 2 (by decide) rfl
theorem r1_0 {σ : HS} (h : Typ σ) : hR σ 1 0 = some 2 := h.r 1 0 2 (by decide) (by decide) rfl
theorem r1_1 {σ : HS} (h : Typ σ) : hR σ 1 1 = some 3 := h.r 1 1 3 (by decide) (by decide) rfl
theorem r1_2 {σ : HS} (h : Typ σ) : hR σ 1 2 = some 4 := h.r 1 2 4 (by decide) (by decide) rfl
theorem r1_3 {σ : HS} (h : Typ σ) : hR σ 1 3 = some 5 := h.r 1 3 5 (by decide) (by decide) rfl
theorem r1_5 {σ : HS} (h : Typ σ) : hR σ 1 5 = some 6 := h.r 1 5 6 (by decide) (by decide) rfl
theorem r1_6 {σ : HS} (h : Typ σ) : hR σ 1 6 = some 7 := h.r 1 6 7 (by decide) (by decide) rfl
theorem r1_7 {σ : HS} (h : Typ σ) : hR σ 1 7 = some 8 := h.r 1 7 8 (by decide) (by decide) rfl
theorem o2 {σ : HS} (h : Typ σ) : isO σ 10 2 := h.o 2 10 (by decide) rfl
theorem l2 {σ : HS} (h : Typ σ) : hlen σ 2 = 6 := h.l 2 6 (by decide) rfl
theorem o3 {σ : HS} (h : Typ σ) : isO σ 10 3 := h.o 3 10 (by decide) rfl
theorem l3 {σ : HS} (h : Typ σ) : hlen σ 3 = 6 := h.l 3 6 (by decide) rfl
theorem o4 {σ : HS} (h : Typ σ) : isO σ 10 4 := h.o 4 10 (by decide) rfl
theorem l4 {σ : HS} (h : Typ σ) : hlen σ 4 = 6 := h.l 4 6 (by decide) rfl
theorem o5 {σ : HS} (h : Typ σ) : isO σ 13 5 := h.o 5 13 (by decide) rfl
theorem l5 {σ : HS} (h : Typ σ) : hlen σ 5 = 6 := h.l 5 6 (by decide) rfl
theorem o6 {σ : HS} (h : Typ σ) : isO σ 10 6 := h.o 6 10 (by decide) rfl
theorem l6 {σ : HS} (h : Typ σ) : hlen σ 6 = 8 := h.l 6 8 (by decide) rfl
theorem o7 {σ : HS} (h : Typ σ) : isO σ 10 7 := h.o 7 10 (by decide) rfl
theorem l7 {σ : HS} (h : Typ σ) : hlen σ 7 = 8 := h.l 7 8 (by decide) rfl
theorem o8 {σ : HS} (h : Typ σ) : isO σ 10 8 := h.o 8 10 (by decide) rfl
theorem l8 {σ : HS} (h : Typ σ) : hlen σ 8 = 8 := h.l 8 8 (by decide) rfl
theorem o9 {σ : HS} (h : Typ σ) : isO σ 2 9 := h.o 9 2 (by decide) rfl
theorem r9_0 {σ : HS} (h : Typ σ) : hR σ 9 0 = some 10 := h.r 9 0 10 (by decide) (by decide) rfl
theorem r9_1 {σ : HS} (h : Typ σ) : hR σ 9 1 = some 11 := h.r 9 1 11 (by decide) (by decide) rfl
theorem r9_2 {σ : HS} (h : Typ σ) : hR σ 9 2 = some 12 := h.r 9 2 12 (by decide) (by decide) rfl
theorem r9_3 {σ : HS} (h : Typ σ) : hR σ 9 3 = some 13 := h.r 9 3 13 (by decide) (by decide) rfl
theorem r9_5 {σ : HS} (h : Typ σ) : hR σ 9 5 = some 14 := h.r 9 5 14 (by decide) (by decide) rfl
theorem r9_6 {σ : HS} (h : Typ σ) : hR σ 9 6 = some 15 := h.r 9 6 15 (by decide) (by decide) rfl
theorem r9_7 {σ : HS} (h : Typ σ) : hR σ 9 7 = some 16 := h.r 9 7 16 (by decide) (by decide) rfl
theorem o10 {σ : HS} (h : Typ σ) : isO σ 10 10 := h.o 10 10 (by decide) rfl
theorem l10 {σ : HS} (h : Typ σ) : hlen σ 10 = 6 := h.l 10 6 (by decide) rfl
theorem o11 {σ : HS} (h : Typ σ) : isO σ 10 11 := h.o 11 10 (by decide) rfl
theorem l11 {σ : HS} (h : Typ σ) : hlen σ 11 = 6 := h.l 11 6 (by decide) rfl
theorem o12 {σ : HS} (h : Typ σ) : isO σ 10 12 := h.o 12 10 (by decide) rfl
theorem l12 {σ : HS} (h : Typ σ) : hlen σ 12 = 6 := h.l 12 6 (by decide) rfl
theorem o13 {σ : HS} (h : Typ σ) : isO σ 13 13 := h.o 13 13 (by decide) rfl
theorem l13 {σ : HS} (h : Typ σ) : hlen σ 13 = 6 := h.l 13 6 (by decide) rfl
theorem o14 {σ : HS} (h : Typ σ) : isO σ 10 14 := h.o 14 10 (by decide) rfl
theorem l14 {σ : HS} (h : Typ σ) : hlen σ 14 = 8 := h.l 14 8 (by decide) rfl
theorem o15 {σ : HS} (h : Typ σ) : isO σ 10 15 := h.o 15 10 (by decide) rfl
theorem l15 {σ : HS} (h : Typ σ) : hlen σ 15 = 8 := h.l 15 8 (by decide) rfl
theorem o16 {σ : HS} (h : Typ σ) : isO σ 10 16 := h.o 16 10 (by decide) rfl
theorem l16 {σ : HS} (h : Typ σ) : hlen σ 16 = 8 := h.l 16 8 (by decide) rfl
theorem o17 {σ : HS} (h : Typ σ) : isO σ 3 17 := h.o 17 3 (by decide) rfl
theorem r17_0 {σ : HS} (h : Typ σ) : hR σ 17 0 = some 18 := h.r 17 0 18 (by decide) (by decide) rfl
theorem r17_3 {σ : HS} (h : Typ σ) : hR σ 17 3 = some 19 := h.r 17 3 19 (by decide) (by decide) rfl
theorem r17_4 {σ : HS} (h : Typ σ) : hR σ 17 4 = some 20 := h.r 17 4 20 (by decide) (by decide) rfl
theorem r17_5 {σ : HS} (h : Typ σ) : hR σ 17 5 = some 21 := h.r 17 5 21 (by decide) (by decide) rfl
theorem r17_6 {σ : HS} (h : Typ σ) : hR σ 17 6 = some 22 := h.r 17 6 22 (by decide) (by decide) rfl
theorem r17_7 {σ : HS} (h : Typ σ) : hR σ 17 7 = some 23 := h.r 17 7 23 (by decide) (by decide) rfl
theorem o18 {σ : HS} (h : Typ σ) : isO σ 10 18 := h.o 18 10 (by decide) rfl
theorem l18 {σ : HS} (h : Typ σ) : hlen σ 18 = 60 := h.l 18 60 (by decide) rfl
theorem o19 {σ : HS} (h : Typ σ) : isO σ 10 19 := h.o 19 10 (by decide) rfl
theorem l19 {σ : HS} (h : Typ σ) : hlen σ 19 = 60 := h.l 19 60 (by decide) rfl
theorem o20 {σ : HS} (h : Typ σ) : isO σ 10 20 := h.o 20 10 (by decide) rfl
theorem l20 {σ : HS} (h : Typ σ) : hlen σ 20 = 60 := h.l 20 60 (by decide) rfl
theorem o21 {σ : HS} (h : Typ σ) : isO σ 10 21 := h.o 21 10 (by decide) rfl
theorem l21 {σ : HS} (h : Typ σ) : hlen σ 21 = 60 := h.l 21 60 (by decide) rfl
theorem o22 {σ : HS} (h : Typ σ) : isO σ 10 22 := h.o 22 10 (by decide) rfl
theorem l22 {σ : HS} (h : Typ σ) : hlen σ 22 = 60 := h.l 22 60 (by decide) rfl
theorem o23 {σ : HS} (h : Typ σ) : isO σ 10 23 := h.o 23 10 (by decide) rfl
theorem l23 {σ : HS} (h : Typ σ) : hlen σ 23 = 60 := h.l 23 60 (by decide) rfl
theorem o24 {σ : HS} (h : Typ σ) : isO σ 4 24 := h.o 24 4 (by decide) rfl
theorem r24_0 {σ : HS} (h : Typ σ) : hR σ 24 0 = some 25 := h.r 24 0 25 (by decide) (by decide) rfl
theorem r24_1 {σ : HS} (h : Typ σ) : hR σ 24 1 = some 26 := h.r 24 1 26 (by decide) (by decide) rfl
theorem r24_5 {σ : HS} (h : Typ σ) : hR σ 24 5 = some 27 := h.r 24 5 27 (by decide) (by decide) rfl
theorem r24_6 {σ : HS} (h : Typ σ) : hR σ 24 6 = some 28 := h.r 24 6 28 (by decide) (by decide) rfl
theorem r24_7 {σ : HS} (h : Typ σ) : hR σ 24 7 = some 32 := h.r 24 7 32 (by decide) (by decide) rfl
theorem r24_8 {σ : HS} (h : Typ σ) : hR σ 24 8 = some 36 := h.r 24 8 36 (by decide) (by decide) rfl
theorem r24_9 {σ : HS} (h : Typ σ) : hR σ 24 9 = some 40 := h.r 24 9 40 (by decide) (by decide) rfl
theorem o25 {σ : HS} (h : Typ σ) : isO σ 10 25 := h.o 25 10 (by decide) rfl
theorem l25 {σ : HS} (h : Typ σ) : hlen σ 25 = 6 := h.l 25 6 (by decide) rfl
theorem o26 {σ : HS} (h : Typ σ) : isO σ 10 26 := h.o 26 10 (by decide) rfl
theorem l26 {σ : HS} (h : Typ σ) : hlen σ 26 = 6 := h.l 26 6 (by decide) rfl
theorem o27 {σ : HS} (h : Typ σ) : isO σ 10 27 := h.o 27 10 (by decide) rfl
theorem l27 {σ : HS} (h : Typ σ) : hlen σ 27 = 6 := h.l 27 6 (by decide) rfl
theorem o28 {σ : HS} (h : Typ σ) : isO σ 1 28 := h.o 28 1 (by decide) rfl
theorem r28_0 {σ : HS} (h : Typ σ) : hR σ 28 0 = some 29 := h.r 28 0 29 (by decide) (by decide) rfl
theorem r28_1 {σ : HS} (h : Typ σ) : hR σ 28 1 = some 30 := h.r 28 1 30 (by decide) (by decide) rfl
theorem r28_2 {σ : HS} (h : Typ σ) : hR σ 28 2 = some 31 := h.r 28 2 31 (by decide) (by decide) rfl
theorem o29 {σ : HS} (h : Typ σ) : isO σ 12 29 := h.o 29 12 (by decide) rfl
theorem l29 {σ : HS} (h : Typ σ) : hlen σ 29 = 60 := h.l 29 60 (by decide) rfl
theorem o30 {σ : HS} (h : Typ σ) : isO σ 12 30 := h.o 30 12 (by decide) rfl
theorem l30 {σ : HS} (h : Typ σ) : hlen σ 30 = 60 := h.l 30 60 (by decide) rfl
theorem o31 {σ : HS} (h : Typ σ) : isO σ 11 31 := h.o 31 11 (by decide) rfl
theorem l31 {σ : HS} (h : Typ σ) : hlen σ 31 = 60 := h.l 31 60 (by decide) rfl
theorem o32 {σ : HS} (h : Typ σ) : isO σ 1 32 := h.o 32 1 (by decide) rfl
theorem r32_0 {σ : HS} (h : Typ σ) : hR σ 32 0 = some 33 := h.r 32 0 33 (by decide) (by decide) rfl
theorem r32_1 {σ : HS} (h : Typ σ) : hR σ 32 1 = some 34 := h.r 32 1 34 (by decide) (by decide) rfl
theorem r32_2 {σ : HS} (h : Typ σ) : hR σ 32 2 = some 35 := h.r 32 2 35 (by decide) (by decide) rfl
theorem o33 {σ : HS} (h : Typ σ) : isO σ 12 33 := h.o 33 12 (by decide) rfl
theorem l33 {σ : HS} (h : Typ σ) : hlen σ 33 = 60 := h.l 33 60 (by decide) rfl
theorem o34 {σ : HS} (h : Typ σ) : isO σ 12 34 := h.o 34 12 (by decide) rfl
theorem l34 {σ : HS} (h : Typ σ) : hlen σ 34 = 60 := h.l 34 60 (by decide) rfl
theorem o35 {σ : HS} (h : Typ σ) : isO σ 11 35 := h.o 35 11 (by decide) rfl
theorem l35 {σ : HS} (h : Typ σ) : hlen σ 35 = 60 := h.l 35 60 (by decide) rfl
theorem o36 {σ : HS} (h : Typ σ) : isO σ 1 36 := h.o 36 1 (by decide) rfl
theorem r36_0 {σ : HS} (h : Typ σ) : hR σ 36 0 = some 37 := h.r 36 0 37 (by decide) (by decide) rfl
theorem r36_1 {σ : HS} (h : Typ σ) : hR σ 36 1 = some 38 := h.r 36 1 38 (by decide) (by decide) rfl
theorem r36_2 {σ : HS} (h : Typ σ) : hR σ 36 2 = some 39 := h.r 36 2 39 (by decide) (by decide) rfl
theorem o37 {σ : HS} (h : Typ σ) : isO σ 12 37 := h.o 37 12 (by decide) rfl
theorem l37 {σ : HS} (h : Typ σ) : hlen σ 37 = 2 := h.l 37 2 (by decide) rfl
theorem o38 {σ : HS} (h : Typ σ) : isO σ 12 38 := h.o 38 12 (by decide) rfl
theorem l38 {σ : HS} (h : Typ σ) : hlen σ 38 = 2 := h.l 38 2 (by decide) rfl
theorem o39 {σ : HS} (h : Typ σ) : isO σ 11 39 := h.o 39 11 (by decide) rfl
theorem l39 {σ : HS} (h : Typ σ) : hlen σ 39 = 2 := h.l 39 2 (by decide) rfl
theorem o40 {σ : HS} (h : Typ σ) : isO σ 12 40 := h.o 40 12 (by decide) rfl
theorem l40 {σ : HS} (h : Typ σ) : hlen σ 40 = 60 := h.l 40 60 (by decide) rfl
theorem o41 {σ : HS} (h : Typ σ) : isO σ 14 41 := h.o 41 14 (by decide) rfl
theorem l41 {σ : HS} (h : Typ σ) : hlen σ 41 = 4 := h.l 41 4 (by decide) rfl
theorem r41_0 {σ : HS} (h : Typ σ) : hR σ 41 0 = some 42 := h.r 41 0 42 (by decide) (by decide) rfl
theorem r41_1 {σ : HS} (h : Typ σ) : hR σ 41 1 = some 43 := h.r 41 1 43 (by decide) (by decide) rfl
theorem r41_2 {σ : HS} (h : Typ σ) : hR σ 41 2 = some 44 := h.r 41 2 44 (by decide) (by decide) rfl
theorem r41_3 {σ : HS} (h : Typ σ) : hR σ 41 3 = some 45 := h.r 41 3 45 (by decide) (by decide) rfl
theorem o42 {σ : HS} (h : Typ σ) : isO σ 12 42 := h.o 42 12 (by decide) rfl
theorem l42 {σ : HS} (h : Typ σ) : hlen σ 42 = 8 := h.l 42 8 (by decide) rfl
theorem o43 {σ : HS} (h : Typ σ) : isO σ 12 43 := h.o 43 12 (by decide) rfl
theorem l43 {σ : HS} (h : Typ σ) : hlen σ 43 = 8 := h.l 43 8 (by decide) rfl
theorem o44 {σ : HS} (h : Typ σ) : isO σ 12 44 := h.o 44 12 (by decide) rfl
theorem l44 {σ : HS} (h : Typ σ) : hlen σ 44 = 8 := h.l 44 8 (by decide) rfl
theorem o45 {σ : HS} (h : Typ σ) : isO σ 12 45 := h.o 45 12 (by decide) rfl
theorem l45 {σ : HS} (h : Typ σ) : hlen σ 45 = 8 := h.l 45 8 (by decide) rfl
theorem o46 {σ : HS} (h : Typ σ) : isO σ 10 46 := h.o 46 10 (by decide) rfl
theorem l46 {σ : HS} (h : Typ σ) : hlen σ 46 = 4 := h.l 46 4 (by decide) rfl
theorem o47 {σ : HS} (h : Typ σ) : isO σ 10 47 := h.o 47 10 (by decide) rfl
theorem l47 {σ : HS} (h : Typ σ) : hlen σ 47 = 60 := h.l 47 60 (by decide) rfl
theorem o48 {σ : HS} (h : Typ σ) : isO σ 6 48 := h.o 48 6 (by decide) rfl
theorem r48_0 {σ : HS} (h : Typ σ) : hR σ 48 0 = some 49 := h.r 48 0 49 (by decide) (by decide) rfl
theorem r48_1 {σ : HS} (h : Typ σ) : hR σ 48 1 = some 50 := h.r 48 1 50 (by decide) (by decide) rfl
theorem r48_2 {σ : HS} (h : Typ σ) : hR σ 48 2 = some 51 := h.r 48 2 51 (by decide) (by decide) rfl
theorem r48_3 {σ : HS} (h : Typ σ) : hR σ 48 3 = some 52 := h.r 48 3 52 (by decide) (by decide) rfl
theorem r48_4 {σ : HS} (h : Typ σ) : hR σ 48 4 = some 53 := h.r 48 4 53 (by decide) (by decide) rfl
theorem r48_5 {σ : HS} (h : Typ σ) : hR σ 48 5 = some 54 := h.r 48 5 54 (by decide) (by decide) rfl
theorem r48_6 {σ : HS} (h : Typ σ) : hR σ 48 6 = some 55 := h.r 48 6 55 (by decide) (by decide) rfl
theorem r48_8 {σ : HS} (h : Typ σ) : hR σ 48 8 = some 56 := h.r 48 8 56 (by decide) (by decide) rfl
theorem r48_9 {σ : HS} (h : Typ σ) : hR σ 48 9 = some 57 := h.r 48 9 57 (by decide) (by decide) rfl
theorem r48_10 {σ : HS} (h : Typ σ) : hR σ 48 10 = some 58 := h.r 48 10 58 (by decide) (by decide) rfl
theorem r48_11 {σ : HS} (h : Typ σ) : hR σ 48 11 = some 59 := h.r 48 11 59 (by decide) (by decide) rfl
theorem r48_12 {σ : HS} (h : Typ σ) : hR σ 48 12 = some 60 := h.r 48 12 60 (by decide) (by decide) rfl
theorem r48_15 {σ : HS} (h : Typ σ) : hR σ 48 15 = some 61 := h.r 48 15 61 (by decide) (by decide) rfl
theorem r48_21 {σ : HS} (h : Typ σ) : hR σ 48 21 = some 62 := h.r 48 21 62 (by decide) (by decide) rfl
theorem r48_22 {σ : HS} (h : Typ σ) : hR σ 48 22 = some 63 := h.r 48 22 63 (by decide) (by decide) rfl
theorem r48_23 {σ : HS} (h : Typ σ) : hR σ 48 23 = some 64 := h.r 48 23 64 (by decide) (by decide) rfl
theorem r48_24 {σ : HS} (h : Typ σ) : hR σ 48 24 = some 65 := h.r 48 24 65 (by decide) (by decide) rfl
theorem r48_25 {σ : HS} (h : Typ σ) : hR σ 48 25 = some 66 := h.r 48 25 66 (by decide) (by decide) rfl
theorem r48_28 {σ : HS} (h : Typ σ) : hR σ 48 28 = some 67 := h.r 48 28 67 (by decide) (by decide) rfl
theorem r48_30 {σ : HS} (h : Typ σ) : hR σ 48 30 = some 68 := h.r 48 30 68 (by decide) (by decide) rfl
theorem r48_31 {σ : HS} (h : Typ σ) : hR σ 48 31 = some 69 := h.r 48 31 69 (by decide) (by decide) rfl
theorem r48_32 {σ : HS} (h : Typ σ) : hR σ 48 32 = some 70 := h.r 48 32 70 (by decide) (by decide) rfl
theorem r48_35 {σ : HS} (h : Typ σ) : hR σ 48 35 = some 71 := h.r 48 35 71 (by decide) (by decide) rfl
theorem r48_37 {σ : HS} (h : Typ σ) : hR σ 48 37 = some 72 := h.r 48 37 72 (by decide) (by decide) rfl
theorem r48_39 {σ : HS} (h : Typ σ) : hR σ 48 39 = some 73 := h.r 48 39 73 (by decide) (by decide) rfl
theorem r48_40 {σ : HS} (h : Typ σ) : hR σ 48 40 = some 74 := h.r 48 40 74 (by decide) (by decide) rfl
theorem r48_41 {σ : HS} (h : Typ σ) : hR σ 48 41 = some 75 := h.r 48 41 75 (by decide) (by decide) rfl
theorem o49 {σ : HS} (h : Typ σ) : isO σ 10 49 := h.o 49 10 (by decide) rfl
theorem l49 {σ : HS} (h : Typ σ) : hlen σ 49 = 18 := h.l 49 18 (by decide) rfl
theorem o50 {σ : HS} (h : Typ σ) : isO σ 10 50 := h.o 50 10 (by decide) rfl
theorem l50 {σ : HS} (h : Typ σ) : hlen σ 50 = 18 := h.l 50 18 (by decide) rfl
theorem o51 {σ : HS} (h : Typ σ) : isO σ 10 51 := h.o 51 10 (by decide) rfl
theorem l51 {σ : HS} (h : Typ σ) : hlen σ 51 = 420 := h.l 51 420 (by decide) rfl
theorem o52 {σ : HS} (h : Typ σ) : isO σ 10 52 := h.o 52 10 (by decide) rfl
theorem l52 {σ : HS} (h : Typ σ) : hlen σ 52 = 420 := h.l 52 420 (by decide) rfl
theorem o53 {σ : HS} (h : Typ σ) : isO σ 10 53 := h.o 53 10 (by decide) rfl
theorem l53 {σ : HS} (h : Typ σ) : hlen σ 53 = 420 := h.l 53 420 (by decide) rfl
theorem o54 {σ : HS} (h : Typ σ) : isO σ 10 54 := h.o 54 10 (by decide) rfl
theorem l54 {σ : HS} (h : Typ σ) : hlen σ 54 = 420 := h.l 54 420 (by decide) rfl
theorem o55 {σ : HS} (h : Typ σ) : isO σ 10 55 := h.o 55 10 (by decide) rfl
theorem l55 {σ : HS} (h : Typ σ) : hlen σ 55 = 7 := h.l 55 7 (by decide) rfl
theorem o56 {σ : HS} (h : Typ σ) : isO σ 10 56 := h.o 56 10 (by decide) rfl
theorem l56 {σ : HS} (h : Typ σ) : hlen σ 56 = 360 := h.l 56 360 (by decide) rfl
theorem o57 {σ : HS} (h : Typ σ) : isO σ 10 57 := h.o 57 10 (by decide) rfl
theorem l57 {σ : HS} (h : Typ σ) : hlen σ 57 = 360 := h.l 57 360 (by decide) rfl
theorem o58 {σ : HS} (h : Typ σ) : isO σ 10 58 := h.o 58 10 (by decide) rfl
theorem l58 {σ : HS} (h : Typ σ) : hlen σ 58 = 360 := h.l 58 360 (by decide) rfl
theorem o59 {σ : HS} (h : Typ σ) : isO σ 10 59 := h.o 59 10 (by decide) rfl
theorem l59 {σ : HS} (h : Typ σ) : hlen σ 59 = 360 := h.l 59 360 (by decide) rfl
theorem o60 {σ : HS} (h : Typ σ) : isO σ 10 60 := h.o 60 10 (by decide) rfl
theorem l60 {σ : HS} (h : Typ σ) : hlen σ 60 = 6 := h.l 60 6 (by decide) rfl
theorem o61 {σ : HS} (h : Typ σ) : isO σ 10 61 := h.o 61 10 (by decide) rfl
theorem l61 {σ : HS} (h : Typ σ) : hlen σ 61 = 60 := h.l 61 60 (by decide) rfl
theorem o62 {σ : HS} (h : Typ σ) : isO σ 10 62 := h.o 62 10 (by decide) rfl
theorem l62 {σ : HS} (h : Typ σ) : hlen σ 62 = 6 := h.l 62 6 (by decide) rfl
theorem o63 {σ : HS} (h : Typ σ) : isO σ 10 63 := h.o 63 10 (by decide) rfl
theorem l63 {σ : HS} (h : Typ σ) : hlen σ 63 = 6 := h.l 63 6 (by decide) rfl
theorem o64 {σ : HS} (h : Typ σ) : isO σ 12 64 := h.o 64 12 (by decide) rfl
theorem l64 {σ : HS} (h : Typ σ) : hlen σ 64 = 60 := h.l 64 60 (by decide) rfl
theorem o65 {σ : HS} (h : Typ σ) : isO σ 12 65 := h.o 65 12 (by decide) rfl
theorem l65 {σ : HS} (h : Typ σ) : hlen σ 65 = 60 := h.l 65 60 (by decide) rfl
theorem o66 {σ : HS} (h : Typ σ) : isO σ 11 66 := h.o 66 11 (by decide) rfl
theorem l66 {σ : HS} (h : Typ σ) : hlen σ 66 = 60 := h.l 66 60 (by decide) rfl
theorem o67 {σ : HS} (h : Typ σ) : isO σ 10 67 := h.o 67 10 (by decide) rfl
theorem l67 {σ : HS} (h : Typ σ) : hlen σ 67 = 60 := h.l 67 60 (by decide) rfl
theorem o68 {σ : HS} (h : Typ σ) : isO σ 12 68 := h.o 68 12 (by decide) rfl
theorem l68 {σ : HS} (h : Typ σ) : hlen σ 68 = 60 := h.l 68 60 (by decide) rfl
theorem o69 {σ : HS} (h : Typ σ) : isO σ 12 69 := h.o 69 12 (by decide) rfl
theorem l69 {σ : HS} (h : Typ σ) : hlen σ 69 = 60 := h.l 69 60 (by decide) rfl
theorem o70 {σ : HS} (h : Typ σ) : isO σ 10 70 := h.o 70 10 (by decide) rfl
theorem l70 {σ : HS} (h : Typ σ) : hlen σ 70 = 6 := h.l 70 6 (by decide) rfl
theorem o71 {σ : HS} (h : Typ σ) : isO σ 10 71 := h.o 71 10 (by decide) rfl
theorem l71 {σ : HS} (h : Typ σ) : hlen σ 71 = 24 := h.l 71 24 (by decide) rfl
theorem o72 {σ : HS} (h : Typ σ) : isO σ 10 72 := h.o 72 10 (by decide) rfl
theorem l72 {σ : HS} (h : Typ σ) : hlen σ 72 = 24 := h.l 72 24 (by decide) rfl
theorem o73 {σ : HS} (h : Typ σ) : isO σ 10 73 := h.o 73 10 (by decide) rfl
theorem l73 {σ : HS} (h : Typ σ) : hlen σ 73 = 18 := h.l 73 18 (by decide) rfl
theorem o74 {σ : HS} (h : Typ σ) : isO σ 10 74 := h.o 74 10 (by decide) rfl
theorem l74 {σ : HS} (h : Typ σ) : hlen σ 74 = 4 := h.l 74 4 (by decide) rfl
theorem o75 {σ : HS} (h : Typ σ) : isO σ 12 75 := h.o 75 12 (by decide) rfl
theorem l75 {σ : HS} (h : Typ σ) : hlen σ 75 = 32 := h.l 75 32 (by decide) rfl
theorem chk_p {α : Type} {c : Prop} {i : Decidable c} {x : Option α} (h : c) : @chk α c i x = x := if_pos h
theorem lt_p {α β : Type} (a : α) (f : α → β) : lt a f = f a := rfl
theorem bd_p {α β : Type} (a : α) (f : α → Option β) : bd (some a) f = f a := rfl
theorem bc_p {α β γ : Type} (a : α) (b : β) (f : α → β → Option γ) : bc (some (a, b)) f = f a b := rfl
theorem oc_n {α β : Type} (a : β) (f : α → β) : oc none a f = a := rfl
theorem oc_s {α β : Type} (i : α) (a : β) (f : α → β) : oc (some i) a f = f i := rfl
theorem hA_sA (σ : HS) (j k : Nat) (v : Int32) (a b : Nat) : hA (sA σ j k v) a b = if a = j ∧ b = k then v else hA σ a b := rfl
theorem hA_sB (σ : HS) (j k : Nat) (v : Int64) (a b : Nat) : hA (sB σ j k v) a b = hA σ a b := rfl
theorem hA_sR (σ : HS) (j k : Nat) (v : Option Nat) (a b : Nat) : hA (sR σ j k v) a b = hA σ a b := rfl
theorem hB_sB (σ : HS) (j k : Nat) (v : Int64) (a b : Nat) : hB (sB σ j k v) a b = if a = j ∧ b = k then v else hB σ a b := rfl
theorem hB_sA (σ : HS) (j k : Nat) (v : Int32) (a b : Nat) : hB (sA σ j k v) a b = hB σ a b := rfl
theorem hB_sR (σ : HS) (j k : Nat) (v : Option Nat) (a b : Nat) : hB (sR σ j k v) a b = hB σ a b := rfl
theorem hR_sA (σ : HS) (j k : Nat) (v : Int32) (a b : Nat) : hR (sA σ j k v) a b = hR σ a b := rfl
theorem hR_sB (σ : HS) (j k : Nat) (v : Int64) (a b : Nat) : hR (sB σ j k v) a b = hR σ a b := rfl
theorem hR_sR (σ : HS) (j k : Nat) (v : Option Nat) (a b : Nat) : hR (sR σ j k v) a b = if a = j ∧ b = k then v else hR σ a b := rfl
theorem hA_rA (σ : HS) (j : Nat) (g : Nat → Int32) (a b : Nat) : hA (rA σ j g) a b = if a = j then g b else hA σ a b := by unfold hA rA upr; dsimp only; split <;> rfl
theorem hB_rA (σ : HS) (j : Nat) (g : Nat → Int32) (a b : Nat) : hB (rA σ j g) a b = hB σ a b := rfl
theorem hR_rA (σ : HS) (j : Nat) (g : Nat → Int32) (a b : Nat) : hR (rA σ j g) a b = hR σ a b := rfl
theorem Typ_sA {σ : HS} {j k : Nat} {v : Int32} (h : Typ σ) : Typ (sA σ j k v) := h
theorem Typ_sB {σ : HS} {j k : Nat} {v : Int64} (h : Typ σ) : Typ (sB σ j k v) := h
theorem Typ_rA {σ : HS} {j : Nat} {g : Nat → Int32} (h : Typ σ) : Typ (rA σ j g) := h
theorem hlen_sA (σ : HS) (j k : Nat) (v : Int32) (a : Nat) : hlen (sA σ j k v) a = hlen σ a := rfl
theorem hlen_sB (σ : HS) (j k : Nat) (v : Int64) (a : Nat) : hlen (sB σ j k v) a = hlen σ a := rfl
theorem hlen_rA (σ : HS) (j : Nat) (g : Nat → Int32) (a : Nat) : hlen (rA σ j g) a = hlen σ a := rfl
theorem isO_sA {σ : HS} {j k : Nat} {v : Int32} {t a : Nat} (h : isO σ t a) : isO (sA σ j k v) t a := h
theorem isO_sB {σ : HS} {j k : Nat} {v : Int64} {t a : Nat} (h : isO σ t a) : isO (sB σ j k v) t a := h
theorem isO_rA {σ : HS} {j : Nat} {g : Nat → Int32} {t a : Nat} (h : isO σ t a) : isO (rA σ j g) t a := h
theorem cl {i : Nat} (h : i < 2147483648) : (nI i).toNatClampNeg = i := nI_clamp h
theorem inb_i {i n : Nat} (h : i < n) (hn : n < 2147483648) : inb (nI i) n := nI_in h hn
/-- nothing but the rows of S has changed -/
def Fr (S : List Nat) (σ σ' : HS) : Prop := hN σ' = hN σ ∧ σ'.2.1 = σ.2.1 ∧ σ'.2.2.1 = σ.2.2.1 ∧ σ'.2.2.2.2.2 = σ.2.2.2.2.2 ∧ ∀ j, j ∉ S → hA σ' j = hA σ j ∧ hB σ' j = hB σ j
theorem Fr.rf {S : List Nat} {σ : HS} : Fr S σ σ := ⟨rfl, rfl, rfl, rfl, fun _ _ => ⟨rfl, rfl⟩⟩
theorem Fr.ty {S : List Nat} {σ σ' : HS} (h : Fr S σ σ') (j : Nat) : hty σ' j = hty σ j := congrFun h.2.1 j
theorem Fr.len {S : List Nat} {σ σ' : HS} (h : Fr S σ σ') (j : Nat) : hlen σ' j = hlen σ j := congrFun h.2.2.1 j
theorem Fr.R {S : List Nat} {σ σ' : HS} (h : Fr S σ σ') (j k : Nat) : hR σ' j k = hR σ j k := congrFun (congrFun h.2.2.2.1 j) k
theorem Fr.Rr {S : List Nat} {σ σ' : HS} (h : Fr S σ σ') (j : Nat) : hR σ' j = hR σ j := congrFun h.2.2.2.1 j
theorem Fr.A {S : List Nat} {σ σ' : HS} (h : Fr S σ σ') {j : Nat} (hj : j ∉ S) (k : Nat) : hA σ' j k = hA σ j k := congrFun (h.2.2.2.2 j hj).1 k
theorem Fr.B {S : List Nat} {σ σ' : HS} (h : Fr S σ σ') {j : Nat} (hj : j ∉ S) (k : Nat) : hB σ' j k = hB σ j k := congrFun (h.2.2.2.2 j hj).2 k
theorem Fr.typ {S : List Nat} {σ σ' : HS} (h : Fr S σ σ') (ht : Typ σ) : Typ σ' := ht.cong (Nat.le_of_eq h.1.symm) (fun j _ => ⟨h.ty j, h.len j, fun _ _ => h.Rr j⟩)
theorem Fr.isO {S : List Nat} {σ σ' : HS} (h : Fr S σ σ') {t j : Nat} (ht : isO σ t j) : isO σ' t j := ⟨by rw [h.1]; exact ht.1, (h.ty j).trans ht.2⟩
theorem Fr.tr {S T : List Nat} {σ σ' σ'' : HS} (h : Fr S σ σ') (h2 : Fr T σ' σ'') : Fr (S ++ T) σ σ'' := ⟨h2.1.trans h.1, h2.2.1.trans h.2.1, h2.2.2.1.trans h.2.2.1, h2.2.2.2.1.trans h.2.2.2.1, fun j hj => by
  rw [List.mem_append] at hj
  obtain ⟨a, b⟩ := h.2.2.2.2 j (fun z => hj (Or.inl z))
  obtain ⟨c, d⟩ := h2.2.2.2.2 j (fun z => hj (Or.inr z))
  exact ⟨c.trans a, d.trans b⟩⟩
theorem Fr.mono {S T : List Nat} {σ σ' : HS} (h : Fr S σ σ') (hs : ∀ j, j ∈ S → j ∈ T) : Fr T σ σ' := ⟨h.1, h.2.1, h.2.2.1, h.2.2.2.1, fun j hj => h.2.2.2.2 j (fun z => hj (hs j z))⟩
theorem Fr_sA {S : List Nat} {σ : HS} {j k : Nat} {v : Int32} (h : j ∈ S) : Fr S σ (sA σ j k v) := ⟨rfl, rfl, rfl, rfl, fun i hi => ⟨up2_ne (fun e => hi (by rw [e]; exact h)), rfl⟩⟩
theorem Fr_sB {S : List Nat} {σ : HS} {j k : Nat} {v : Int64} (h : j ∈ S) : Fr S σ (sB σ j k v) := ⟨rfl, rfl, rfl, rfl, fun i hi => ⟨rfl, up2_ne (fun e => hi (by rw [e]; exact h))⟩⟩
theorem Fr_rA {S : List Nat} {σ : HS} {j : Nat} {g : Nat → Int32} (h : j ∈ S) : Fr S σ (rA σ j g) := ⟨rfl, rfl, rfl, rfl, fun i hi => ⟨upr_ne (fun e => hi (by rw [e]; exact h)), rfl⟩⟩
theorem Fr.seq {S : List Nat} {σ σ' σ'' : HS} (h : Fr S σ σ') (h2 : Fr S σ' σ'') : Fr S σ σ'' := (h.tr h2).mono (fun j hj => by rcases List.mem_append.mp hj with z | z <;> exact z)
end
section
/-! spans of a formula's parts, over the whole numbers -/
abbrev FM : Type := Nat × (Nat → Nat) × (Nat → Nat) × (Nat → Nat) × (Nat → Nat)
def mN (Φ : FM) : Nat := Φ.1
def mK (Φ : FM) (i : Nat) : Nat := Φ.2.1 i
def mU (Φ : FM) (i : Nat) : Nat := Φ.2.2.1 i
def mV (Φ : FM) (i : Nat) : Nat := Φ.2.2.2.1 i
def mP (Φ : FM) (i : Nat) : Nat := Φ.2.2.2.2 i
abbrev inR (x : Int) : Prop := -9223372036854775808 ≤ x ∧ x < 9223372036854775808
def mn4 (a b c d : Int) : Int := min (min (a * c) (a * d)) (min (b * c) (b * d))
def mx4 (a b c d : Int) : Int := max (max (a * c) (a * d)) (max (b * c) (b * d))
def rg (x y : Int) : Option (Int × Int) := if inR x ∧ inR y then some (x, y) else none
def sp1 (x : Option (Int × Int)) : Option (Int × Int) := match x with
  | none => none
  | some p => rg (-p.2) (-p.1)
def pr4 (a b c d : Int) : Option (Int × Int) := if inR (a * c) ∧ inR (a * d) ∧ inR (b * c) ∧ inR (b * d) then some (mn4 a b c d, mx4 a b c d) else none
def sp2 (k : Nat) (x y : Option (Int × Int)) : Option (Int × Int) := match x with
  | none => none
  | some p => match y with
    | none => none
    | some r => if k = 3 then rg (p.1 + r.1) (p.2 + r.2) else if k = 4 then rg (p.1 - r.2) (p.2 - r.1) else pr4 p.1 p.2 r.1 r.2
def SPI (Φ : FM) (lo hi : Nat → Int) : Nat → Nat → Option (Int × Int)
  | 0, _ => none
  | n + 1, i => if mK Φ i = 0 then some (lo (mU Φ i), hi (mU Φ i)) else if mK Φ i = 1 then some ((mU Φ i : Int), (mU Φ i : Int))
    else if mK Φ i = 2 then sp1 (SPI Φ lo hi n (mU Φ i)) else sp2 (mK Φ i) (SPI Φ lo hi n (mU Φ i)) (SPI Φ lo hi n (mV Φ i))
theorem mulI {a x b y : Int} (h1 : a ≤ x) (h2 : x ≤ b) : min (a * y) (b * y) ≤ x * y ∧ x * y ≤ max (a * y) (b * y) := by
  rcases Int.le_total 0 y with h | h
  · have p1 := Int.mul_le_mul_of_nonneg_right h1 h
    have p2 := Int.mul_le_mul_of_nonneg_right h2 h
    omega
  · have p1 := Int.mul_le_mul_of_nonpos_right h1 h
    have p2 := Int.mul_le_mul_of_nonpos_right h2 h
    omega
theorem mul4 {a b c d x y : Int} (h1 : a ≤ x) (h2 : x ≤ b) (h3 : c ≤ y) (h4 : y ≤ d) : mn4 a b c d ≤ x * y ∧ x * y ≤ mx4 a b c d := by
  have p0 := mulI (y := y) h1 h2
  have p1 := mulI (y := a) h3 h4
  have p2 := mulI (y := b) h3 h4
  rw [Int.mul_comm c a, Int.mul_comm d a, Int.mul_comm y a] at p1
  rw [Int.mul_comm c b, Int.mul_comm d b, Int.mul_comm y b] at p2
  unfold mn4 mx4
  generalize x * y = xy at *
  generalize a * c = ac at *
  generalize a * d = ad at *
  generalize b * c = bc at *
  generalize b * d = bd at *
  generalize a * y = ay at *
  generalize b * y = by_ at *
  omega
theorem mn4_le (a b c d : Int) : mn4 a b c d ≤ mx4 a b c d := by unfold mn4 mx4; omega
theorem mn4_4 (a b c d : Int) : mn4 a b c d ≤ a * c ∧ mn4 a b c d ≤ a * d ∧ mn4 a b c d ≤ b * c ∧ mn4 a b c d ≤ b * d := by
  unfold mn4
  generalize a * c = ac
  generalize a * d = ad
  generalize b * c = bc
  generalize b * d = bd
  omega
theorem mx4_4 (a b c d : Int) : a * c ≤ mx4 a b c d ∧ a * d ≤ mx4 a b c d ∧ b * c ≤ mx4 a b c d ∧ b * d ≤ mx4 a b c d := by
  unfold mx4
  generalize a * c = ac
  generalize a * d = ad
  generalize b * c = bc
  generalize b * d = bd
  omega
theorem mn4_any {a b c d z : Int} (h1 : z ≤ a * c) (h2 : z ≤ a * d) (h3 : z ≤ b * c) (h4 : z ≤ b * d) : z ≤ mn4 a b c d := by
  unfold mn4
  generalize a * c = ac at *
  generalize a * d = ad at *
  generalize b * c = bc at *
  generalize b * d = bd at *
  omega
theorem mx4_any {a b c d z : Int} (h1 : a * c ≤ z) (h2 : a * d ≤ z) (h3 : b * c ≤ z) (h4 : b * d ≤ z) : mx4 a b c d ≤ z := by
  unfold mx4
  generalize a * c = ac at *
  generalize a * d = ad at *
  generalize b * c = bc at *
  generalize b * d = bd at *
  omega
theorem pr4_some {a b c d : Int} {p : Int × Int} (h : pr4 a b c d = some p) : (inR (a * c) ∧ inR (a * d) ∧ inR (b * c) ∧ inR (b * d)) ∧ p = (mn4 a b c d, mx4 a b c d) := by
  unfold pr4 at h
  split at h
  · rename_i hc; exact ⟨hc, (Option.some.inj h).symm⟩
  · cases h
theorem rg_some {x y : Int} {p : Int × Int} (h : rg x y = some p) : inR x ∧ inR y ∧ p = (x, y) := by
  unfold rg at h
  split at h
  · rename_i hc; exact ⟨hc.1, hc.2, (Option.some.inj h).symm⟩
  · cases h
theorem rg_of {x y : Int} (hx : inR x) (hy : inR y) : rg x y = some (x, y) := if_pos ⟨hx, hy⟩
theorem mn4_one {a b c d : Int} (P : Int → Prop) (h1 : P (a * c)) (h2 : P (a * d)) (h3 : P (b * c)) (h4 : P (b * d)) : P (mn4 a b c d) := by
  unfold mn4
  rcases Int.le_total (a * c) (a * d) with p | p <;> rcases Int.le_total (b * c) (b * d) with r | r
  all_goals first | rw [Int.min_eq_left p] | rw [Int.min_eq_right p]
  all_goals first | rw [Int.min_eq_left r] | rw [Int.min_eq_right r]
  · rcases Int.le_total (a * c) (b * c) with t | t <;> first | (rw [Int.min_eq_left t]; assumption) | (rw [Int.min_eq_right t]; assumption)
  · rcases Int.le_total (a * c) (b * d) with t | t <;> first | (rw [Int.min_eq_left t]; assumption) | (rw [Int.min_eq_right t]; assumption)
  · rcases Int.le_total (a * d) (b * c) with t | t <;> first | (rw [Int.min_eq_left t]; assumption) | (rw [Int.min_eq_right t]; assumption)
  · rcases Int.le_total (a * d) (b * d) with t | t <;> first | (rw [Int.min_eq_left t]; assumption) | (rw [Int.min_eq_right t]; assumption)
theorem mx4_one {a b c d : Int} (P : Int → Prop) (h1 : P (a * c)) (h2 : P (a * d)) (h3 : P (b * c)) (h4 : P (b * d)) : P (mx4 a b c d) := by
  unfold mx4
  rcases Int.le_total (a * c) (a * d) with p | p <;> rcases Int.le_total (b * c) (b * d) with r | r
  all_goals first | rw [Int.max_eq_right p] | rw [Int.max_eq_left p]
  all_goals first | rw [Int.max_eq_right r] | rw [Int.max_eq_left r]
  · rcases Int.le_total (a * d) (b * d) with t | t <;> first | (rw [Int.max_eq_right t]; assumption) | (rw [Int.max_eq_left t]; assumption)
  · rcases Int.le_total (a * d) (b * c) with t | t <;> first | (rw [Int.max_eq_right t]; assumption) | (rw [Int.max_eq_left t]; assumption)
  · rcases Int.le_total (a * c) (b * d) with t | t <;> first | (rw [Int.max_eq_right t]; assumption) | (rw [Int.max_eq_left t]; assumption)
  · rcases Int.le_total (a * c) (b * c) with t | t <;> first | (rw [Int.max_eq_right t]; assumption) | (rw [Int.max_eq_left t]; assumption)
/-- narrower spans: what was no span that is over stays so, and is narrower -/
def Nar (x y : Option (Int × Int)) : Prop := ∀ a b, x = some (a, b) → ∃ a' b', y = some (a', b') ∧ a ≤ a' ∧ a' ≤ b' ∧ b' ≤ b
theorem Nar_sp1 {x y : Option (Int × Int)} (h : Nar x y) : Nar (sp1 x) (sp1 y) := by
  intro a b hab
  cases x with
  | none => cases hab
  | some p =>
    obtain ⟨u, v, hy, h1, h2, h3⟩ := h p.1 p.2 rfl
    obtain ⟨g1, g2, g3⟩ := rg_some (show rg (-p.2) (-p.1) = some (a, b) from hab)
    cases g3
    subst hy
    exact ⟨-v, -u, rg_of (by omega) (by omega), by omega, by omega, by omega⟩
theorem Nar_sp2 {k : Nat} {x y z w : Option (Int × Int)} (h : Nar x y) (h' : Nar z w) : Nar (sp2 k x z) (sp2 k y w) := by
  intro a b hab
  cases x with
  | none => cases hab
  | some p =>
    cases z with
    | none => cases hab
    | some r =>
      obtain ⟨u, v, hy, h1, h2, h3⟩ := h p.1 p.2 rfl
      obtain ⟨u2, v2, hw, i1, i2, i3⟩ := h' r.1 r.2 rfl
      subst hy; subst hw
      unfold sp2 at hab ⊢
      dsimp only at hab ⊢
      by_cases k3 : k = 3
      · rw [if_pos k3] at hab ⊢
        obtain ⟨g1, g2, g3⟩ := rg_some hab
        cases g3
        exact ⟨_, _, rg_of (by omega) (by omega), by omega, by omega, by omega⟩
      rw [if_neg k3] at hab ⊢
      by_cases k4 : k = 4
      · rw [if_pos k4] at hab ⊢
        obtain ⟨g1, g2, g3⟩ := rg_some hab
        cases g3
        exact ⟨_, _, rg_of (by omega) (by omega), by omega, by omega, by omega⟩
      rw [if_neg k4] at hab ⊢
      obtain ⟨⟨g1, g2, g3, g4⟩, g5⟩ := pr4_some hab
      cases g5
      have b1 := mul4 (a := p.1) (b := p.2) (c := r.1) (d := r.2) (x := u) (y := u2) (by omega) (by omega) (by omega) (by omega)
      have b2 := mul4 (a := p.1) (b := p.2) (c := r.1) (d := r.2) (x := u) (y := v2) (by omega) (by omega) (by omega) (by omega)
      have b3 := mul4 (a := p.1) (b := p.2) (c := r.1) (d := r.2) (x := v) (y := u2) (by omega) (by omega) (by omega) (by omega)
      have b4 := mul4 (a := p.1) (b := p.2) (c := r.1) (d := r.2) (x := v) (y := v2) (by omega) (by omega) (by omega) (by omega)
      have m1 : inR (mn4 p.1 p.2 r.1 r.2) := mn4_one inR g1 g2 g3 g4
      have m2 : inR (mx4 p.1 p.2 r.1 r.2) := mx4_one inR g1 g2 g3 g4
      exact ⟨_, _, if_pos ⟨⟨by omega, by omega⟩, ⟨by omega, by omega⟩, ⟨by omega, by omega⟩, ⟨by omega, by omega⟩⟩, mn4_any b1.1 b2.1 b3.1 b4.1, mn4_le _ _ _ _, mx4_any b1.2 b2.2 b3.2 b4.2⟩
theorem SPI_nar (Φ : FM) {lo hi lo' hi' : Nat → Int} (h : ∀ s, lo s ≤ lo' s ∧ lo' s ≤ hi' s ∧ hi' s ≤ hi s) : ∀ n i, Nar (SPI Φ lo hi n i) (SPI Φ lo' hi' n i) := by
  intro n
  induction n with
  | zero => intro i a b hab; cases hab
  | succ n ih =>
    intro i
    unfold SPI
    by_cases k0 : mK Φ i = 0
    · rw [if_pos k0, if_pos k0]
      intro a b hab
      cases hab
      exact ⟨_, _, rfl, (h _).1, (h _).2.1, (h _).2.2⟩
    rw [if_neg k0, if_neg k0]
    by_cases k1 : mK Φ i = 1
    · rw [if_pos k1, if_pos k1]
      intro a b hab
      cases hab
      exact ⟨_, _, rfl, Int.le_refl _, Int.le_refl _, Int.le_refl _⟩
    rw [if_neg k1, if_neg k1]
    by_cases k2 : mK Φ i = 2
    · rw [if_pos k2, if_pos k2]; exact Nar_sp1 (ih _)
    rw [if_neg k2, if_neg k2]
    exact Nar_sp2 (ih _) (ih _)
theorem SPI_le (Φ : FM) {lo hi : Nat → Int} (h : ∀ s, lo s ≤ hi s) {n i : Nat} {a b : Int} (e : SPI Φ lo hi n i = some (a, b)) : a ≤ b := by
  obtain ⟨a', b', e2, h1, h2, h3⟩ := SPI_nar Φ (lo := lo) (hi := hi) (lo' := lo) (hi' := hi) (fun s => ⟨Int.le_refl _, h s, Int.le_refl _⟩) n i a b e
  omega
/-- a point's span is a point -/
theorem SPI_pt (Φ : FM) {v : Nat → Int} {n i : Nat} {a b : Int} (e : SPI Φ v v n i = some (a, b)) : a = b := by
  induction n generalizing i a b with
  | zero => cases e
  | succ n ih =>
    unfold SPI at e
    by_cases k0 : mK Φ i = 0
    · rw [if_pos k0] at e; cases e; rfl
    rw [if_neg k0] at e
    by_cases k1 : mK Φ i = 1
    · rw [if_pos k1] at e; cases e; rfl
    rw [if_neg k1] at e
    by_cases k2 : mK Φ i = 2
    · rw [if_pos k2] at e
      cases hx : SPI Φ v v n (mU Φ i) with
      | none => rw [hx] at e; cases e
      | some p =>
        rw [hx] at e
        have := ih (a := p.1) (b := p.2) hx
        obtain ⟨_, _, g3⟩ := rg_some (show rg (-p.2) (-p.1) = some (a, b) from e)
        cases g3; omega
    rw [if_neg k2] at e
    cases hx : SPI Φ v v n (mU Φ i) with
    | none => rw [hx] at e; cases e
    | some p =>
      cases hy : SPI Φ v v n (mV Φ i) with
      | none => rw [hx, hy] at e; cases e
      | some r =>
        rw [hx, hy] at e
        have e1 := ih (a := p.1) (b := p.2) hx
        have e2 := ih (a := r.1) (b := r.2) hy
        unfold sp2 at e
        dsimp only at e
        by_cases k3 : mK Φ i = 3
        · rw [if_pos k3] at e; obtain ⟨_, _, g3⟩ := rg_some e; cases g3; omega
        rw [if_neg k3] at e
        by_cases k4 : mK Φ i = 4
        · rw [if_pos k4] at e; obtain ⟨_, _, g3⟩ := rg_some e; cases g3; omega
        rw [if_neg k4] at e
        obtain ⟨_, g5⟩ := pr4_some e
        cases g5
        unfold mn4 mx4
        rw [e1, e2]
        omega
def wfR (Φ : FM) : Prop := ∀ i, i < mN Φ → mK Φ i ≤ 5 ∧ (mK Φ i = 0 → mU Φ i < 6) ∧ (mK Φ i = 1 → mU Φ i ≤ 9999) ∧ (2 ≤ mK Φ i → mU Φ i < i) ∧ (3 ≤ mK Φ i → mV Φ i < i) ∧ (mK Φ i ≤ 2 → mV Φ i = 0) ∧ mP Φ i < 60
def WF (Φ : FM) : Prop := 1 ≤ mN Φ ∧ mN Φ ≤ 60 ∧ wfR Φ
/-- enough fuel: the depth of the numbers of parts -/
theorem SPI_fuel (Φ : FM) (hw : wfR Φ) {lo hi : Nat → Int} : ∀ n m i, i < mN Φ → i < n → i < m → SPI Φ lo hi n i = SPI Φ lo hi m i := by
  intro n
  induction n with
  | zero => intro m i _ h; omega
  | succ n ih =>
    intro m i hi h1 h2
    cases m with
    | zero => omega
    | succ m =>
      obtain ⟨w1, w2, w3, w4, w5, w6, w7⟩ := hw i hi
      unfold SPI
      by_cases k0 : mK Φ i = 0
      · rw [if_pos k0, if_pos k0]
      rw [if_neg k0, if_neg k0]
      by_cases k1 : mK Φ i = 1
      · rw [if_pos k1, if_pos k1]
      rw [if_neg k1, if_neg k1]
      have hu := w4 (by omega)
      rw [ih m (mU Φ i) (by omega) (by omega) (by omega)]
      by_cases k2 : mK Φ i = 2
      · rw [if_pos k2, if_pos k2]
      rw [if_neg k2, if_neg k2]
      have hv := w5 (by omega)
      rw [ih m (mV Φ i) (by omega) (by omega) (by omega)]
def SP (Φ : FM) (lo hi : Nat → Int) (i : Nat) : Option (Int × Int) := SPI Φ lo hi (i + 1) i
theorem SP_0 {Φ : FM} {lo hi : Nat → Int} {i : Nat} (k : mK Φ i = 0) : SP Φ lo hi i = some (lo (mU Φ i), hi (mU Φ i)) := if_pos k
theorem SP_1 {Φ : FM} {lo hi : Nat → Int} {i : Nat} (k : mK Φ i = 1) : SP Φ lo hi i = some ((mU Φ i : Int), (mU Φ i : Int)) := by
  unfold SP SPI; rw [if_neg (by omega), if_pos k]
theorem SP_2 {Φ : FM} {lo hi : Nat → Int} {i : Nat} (hw : wfR Φ) (hi' : i < mN Φ) (k : mK Φ i = 2) : SP Φ lo hi i = sp1 (SP Φ lo hi (mU Φ i)) := by
  have hu := (hw i hi').2.2.2.1 (by omega)
  have e := SPI_fuel Φ hw (lo := lo) (hi := hi) i (mU Φ i + 1) (mU Φ i) (by omega) (by omega) (by omega)
  show SPI Φ lo hi (i + 1) i = _
  unfold SPI; rw [if_neg (by omega), if_neg (by omega), if_pos k, e]; rfl
theorem SP_3 {Φ : FM} {lo hi : Nat → Int} {i : Nat} (hw : wfR Φ) (hi' : i < mN Φ) (k : 3 ≤ mK Φ i) : SP Φ lo hi i = sp2 (mK Φ i) (SP Φ lo hi (mU Φ i)) (SP Φ lo hi (mV Φ i)) := by
  have hu := (hw i hi').2.2.2.1 (by omega)
  have hv := (hw i hi').2.2.2.2.1 (by omega)
  have e := SPI_fuel Φ hw (lo := lo) (hi := hi) i (mU Φ i + 1) (mU Φ i) (by omega) (by omega) (by omega)
  have e2 := SPI_fuel Φ hw (lo := lo) (hi := hi) i (mV Φ i + 1) (mV Φ i) (by omega) (by omega) (by omega)
  show SPI Φ lo hi (i + 1) i = _
  unfold SPI; rw [if_neg (by omega), if_neg (by omega), if_neg (by omega), e, e2]; rfl
end
section
/-! longs, and what fits in them -/
theorem bm {x : Int} (h : inR x) : x.bmod (2 ^ 64) = x := Int.bmod_eq_of_le_mul_two (by omega) (by omega)
theorem bmE (x : Int) : ∃ k : Int, x.bmod (2 ^ 64) = x - 18446744073709551616 * k ∧ inR (x.bmod (2 ^ 64)) := by
  refine ⟨x.bdiv (2 ^ 64), ?_, ?_⟩
  · rw [Int.bmod_eq_self_sub_mul_bdiv]; rfl
  · have h1 := Int.le_bmod (x := x) (m := 2 ^ 64) (by decide)
    have h2 := Int.bmod_lt (x := x) (m := 2 ^ 64) (by decide)
    omega
theorem tR (a : Int64) : inR a.toInt := by
  have h1 := Int64.le_toInt a
  have h2 := Int64.toInt_lt a
  omega
theorem l_add {a b : Int64} (h : inR (a.toInt + b.toInt)) : (a + b).toInt = a.toInt + b.toInt := by rw [Int64.toInt_add, bm h]
theorem l_sub {a b : Int64} (h : inR (a.toInt - b.toInt)) : (a - b).toInt = a.toInt - b.toInt := by rw [Int64.toInt_sub, bm h]
theorem l_mul {a b : Int64} (h : inR (a.toInt * b.toInt)) : (a * b).toInt = a.toInt * b.toInt := by rw [Int64.toInt_mul, bm h]
theorem l_neg {a : Int64} (h : inR (-a.toInt)) : (-a).toInt = -a.toInt := by rw [Int64.toInt_neg, bm h]
theorem l_lt {a b : Int64} : a < b ↔ a.toInt < b.toInt := Int64.lt_iff_toInt_lt
theorem l_le {a b : Int64} : a ≤ b ↔ a.toInt ≤ b.toInt := Int64.le_iff_toInt_le
theorem l_eq {a b : Int64} : a = b ↔ a.toInt = b.toInt := Int64.toInt_inj.symm
theorem l_min (a b : Int64) : (if b < a then b else a).toInt = min a.toInt b.toInt := by
  by_cases h : b < a
  · rw [if_pos h]; have := l_lt.mp h; omega
  · rw [if_neg h]; have := mt l_lt.mpr h; omega
theorem l_max (a b : Int64) : (if b < a then a else b).toInt = max a.toInt b.toInt := by
  by_cases h : b < a
  · rw [if_pos h]; have := l_lt.mp h; omega
  · rw [if_neg h]; have := mt l_lt.mpr h; omega
theorem zc_lt (x y : Int64) : lg_cmp x y < 0 ↔ x.toInt < y.toInt := by
  have h := lg_cmp_ge x y
  rw [l_le] at h
  rw [← Int32.not_le, h]
  omega
theorem zc_le0 (x y : Int64) : lg_cmp x y ≤ 0 ↔ x.toInt ≤ y.toInt := by
  unfold lg_cmp
  simp only [gt_iff_lt, Int64.lt_iff_toInt_lt, ← Int64.toInt_inj]
  repeat' split
  all_goals first | (simp; omega) | (constructor <;> intro h <;> first | omega | (exact absurd h (by decide)) | decide)
theorem zc_gt (x y : Int64) : 0 < lg_cmp x y ↔ y.toInt < x.toInt := by
  rw [← Int32.not_le, zc_le0]; omega
theorem zc_ge (x y : Int64) : 0 ≤ lg_cmp x y ↔ y.toInt ≤ x.toInt := by rw [lg_cmp_ge, l_le]
theorem zc_eq (x y : Int64) : lg_cmp x y = 0 ↔ x = y := by
  constructor
  · intro h
    have h1 : lg_cmp x y ≤ 0 := by rw [h]; decide
    have h2 : 0 ≤ lg_cmp x y := by rw [h]; decide
    rw [zc_le0] at h1
    rw [zc_ge] at h2
    exact Int64.toInt_inj.mp (by omega)
  · intro h; subst h; unfold lg_cmp; simp
theorem tdivE (w a : Int) : ∃ r : Int, w = a * w.tdiv a + r ∧ (a ≠ 0 → -(a.natAbs : Int) < r ∧ r < a.natAbs) := by
  refine ⟨w.tmod a, (Int.mul_tdiv_add_tmod w a).symm, fun h => ?_⟩
  have h1 := Int.natAbs_tmod w a
  have h2 : w.natAbs % a.natAbs < a.natAbs := Nat.mod_lt _ (by omega)
  omega
/-- a product fits, if it comes back by a division -/
theorem mul_fit {a b : Int64} (h0 : a ≠ 0) (h1 : a ≠ -1) : ((a * b) / a = b) ↔ inR (a.toInt * b.toInt) := by
  have hm : a.toInt ≠ 0 := fun e => h0 (Int64.toInt_inj.mp (by rw [e]; rfl))
  rw [l_eq, Int64.toInt_div_of_ne_right _ _ h1, Int64.toInt_mul]
  have ha := tR a
  obtain ⟨k, e1, e2⟩ := bmE (a.toInt * b.toInt)
  constructor
  · intro h
    obtain ⟨r, hr, hb⟩ := tdivE ((a.toInt * b.toInt).bmod (2 ^ 64)) a.toInt
    rw [h] at hr
    have hb := hb hm
    have : k = 0 := by omega
    rw [this] at e1
    rw [← show (a.toInt * b.toInt).bmod (2 ^ 64) = a.toInt * b.toInt by omega]
    exact e2
  · intro h
    rw [bm h]
    exact Int.mul_tdiv_cancel_left _ hm
end
section
/-! rows of spans in the class: SpanRow's methods -/
theorem cl1000 {i : Nat} (h : i < 1000) : (nI i).toNatClampNeg = i := nI_clamp (by omega)
theorem inb1000 {i n : Nat} (h : i < n) (hn : i < 1000) : inb (nI i) n := by
  have e1 := nI_clamp (n := i) (by omega)
  have e2 := nI_toInt (n := i) (by omega)
  intro z
  rcases z with z | z
  · rw [Int32.lt_iff_toInt_lt, e2] at z
    have : (0 : Int32).toInt = 0 := rfl
    omega
  · rw [e1] at z; omega
theorem sumFits_ok (a b : Int64) (σ : HS) : f_X1_sumFits a b σ = some (if inR (a.toInt + b.toInt) then 1 else 0, σ) := by
  have ha := tR a
  have hb := tR b
  unfold f_X1_sumFits
  simp only [zc_lt, zc_gt]
  have z0 : (0 : Int64).toInt = 0 := rfl
  by_cases h : b.toInt < 0
  · have e : ((-9223372036854775808 : Int64) - b).toInt = -9223372036854775808 - b.toInt := l_sub (by
      have : (-9223372036854775808 : Int64).toInt = -9223372036854775808 := rfl
      omega)
    rw [if_pos (by omega), e]
    by_cases h2 : a.toInt < -9223372036854775808 - b.toInt
    · rw [if_pos h2, if_neg (by omega)]
    · rw [if_neg h2, if_pos (by omega)]
  · have e : ((9223372036854775807 : Int64) - b).toInt = 9223372036854775807 - b.toInt := l_sub (by
      have : (9223372036854775807 : Int64).toInt = 9223372036854775807 := rfl
      omega)
    rw [if_neg (by omega), e]
    by_cases h2 : 9223372036854775807 - b.toInt < a.toInt
    · rw [if_pos h2, if_neg (by omega)]
    · rw [if_neg h2, if_pos (by omega)]
theorem differenceFits_ok (a b : Int64) (σ : HS) : f_X1_differenceFits a b σ = some (if inR (a.toInt - b.toInt) then 1 else 0, σ) := by
  have ha := tR a
  have hb := tR b
  unfold f_X1_differenceFits
  simp only [zc_lt, zc_gt]
  have z0 : (0 : Int64).toInt = 0 := rfl
  by_cases h : b.toInt < 0
  · have e : ((9223372036854775807 : Int64) + b).toInt = 9223372036854775807 + b.toInt := l_add (by
      have : (9223372036854775807 : Int64).toInt = 9223372036854775807 := rfl
      omega)
    rw [if_pos (by omega), e]
    by_cases h2 : 9223372036854775807 + b.toInt < a.toInt
    · rw [if_pos h2, if_neg (by omega)]
    · rw [if_neg h2, if_pos (by omega)]
  · have e : ((-9223372036854775808 : Int64) + b).toInt = -9223372036854775808 + b.toInt := l_add (by
      have : (-9223372036854775808 : Int64).toInt = -9223372036854775808 := rfl
      omega)
    rw [if_neg (by omega), e]
    by_cases h2 : a.toInt < -9223372036854775808 + b.toInt
    · rw [if_pos h2, if_neg (by omega)]
    · rw [if_neg h2, if_pos (by omega)]
theorem small32 {a : Int64} (h : a = a.toInt32.toInt64) : -2147483648 ≤ a.toInt ∧ a.toInt < 2147483648 := by
  have e : a.toInt = a.toInt32.toInt := by
    have h2 := congrArg Int64.toInt h
    rw [Int32.toInt_toInt64] at h2
    exact h2
  have h1 := Int32.le_toInt a.toInt32
  have h2 := Int32.toInt_lt a.toInt32
  omega
theorem small_mul {a b : Int} (h1 : -2147483648 ≤ a) (h2 : a < 2147483648) (h3 : -2147483648 ≤ b) (h4 : b < 2147483648) : inR (a * b) := by
  have h := mul4 (a := -2147483648) (b := 2147483648) (c := -2147483648) (d := 2147483648) (x := a) (y := b) h1 (by omega) h3 (by omega)
  have e1 : mn4 (-2147483648) 2147483648 (-2147483648) 2147483648 = -4611686018427387904 := by decide
  have e2 : mx4 (-2147483648) 2147483648 (-2147483648) 2147483648 = 4611686018427387904 := by decide
  omega
theorem mul_neg1 {a b : Int64} (h : a = -1) : a.toInt * b.toInt = -b.toInt := by
  subst h
  have : (-1 : Int64).toInt = -1 := rfl
  rw [this]; omega
theorem productFits_ok (a b : Int64) (σ : HS) : f_X1_productFits a b σ = some (if inR (a.toInt * b.toInt) then 1 else 0, σ) := by
  have ha := tR a
  have hb := tR b
  have key : ∀ (h0 : ¬ (a = a.toInt32.toInt64 ∧ b = b.toInt32.toInt64)), (if a = 0 then some ((1 : Int32), σ) else if a = -1 then (if b = -9223372036854775808 then some ((0 : Int32), σ) else some ((1 : Int32), σ)) else (chk (¬ a = 0) (if a * b / a = b then some ((1 : Int32), σ) else some ((0 : Int32), σ)))) = some (if inR (a.toInt * b.toInt) then (1 : Int32) else 0, σ) := by
    intro _
    by_cases e0 : a = 0
    · rw [if_pos e0, if_pos (by subst e0; rw [show (0 : Int64).toInt = 0 from rfl]; omega)]
    rw [if_neg e0]
    by_cases e1 : a = -1
    · rw [if_pos e1, mul_neg1 e1]
      by_cases e2 : b = -9223372036854775808
      · rw [if_pos e2, if_neg (by subst e2; rw [show (-9223372036854775808 : Int64).toInt = -9223372036854775808 from rfl]; omega)]
      · have : b.toInt ≠ -9223372036854775808 := fun z => e2 (Int64.toInt_inj.mp z)
        rw [if_neg e2, if_pos (by omega)]
    rw [if_neg e1, chk_p e0]
    have h := mul_fit (b := b) e0 e1
    by_cases e2 : a * b / a = b
    · rw [if_pos e2, if_pos (h.mp e2)]
    · rw [if_neg e2, if_neg (fun z => e2 (h.mpr z))]
  unfold f_X1_productFits
  simp only [zc_eq, lt_p]
  by_cases s1 : a = a.toInt32.toInt64
  · by_cases s2 : b = b.toInt32.toInt64
    · rw [if_pos s1, if_pos s2]
      have h1 := small32 s1
      have h2 := small32 s2
      rw [if_pos (small_mul h1.1 h1.2 h2.1 h2.2)]
      rfl
    · rw [if_pos s1, if_neg s2]
      have := key (fun z => s2 z.2)
      simpa using this
  · rw [if_neg s1]
    have := key (fun z => s1 z.1)
    simpa using this
/-- a SpanRow of n places at the cells t .. t + 3 -/
def SR (σ : HS) (t n : Nat) : Prop := isO σ 1 t ∧ hR σ t 0 = some (t + 1) ∧ hR σ t 1 = some (t + 2) ∧ hR σ t 2 = some (t + 3) ∧ isO σ 12 (t + 1) ∧ isO σ 12 (t + 2) ∧ isO σ 11 (t + 3) ∧ hlen σ (t + 1) = n ∧ hlen σ (t + 2) = n ∧ hlen σ (t + 3) = n
theorem SR28 {σ : HS} (h : Typ σ) : SR σ 28 60 := ⟨o28 h, r28_0 h, r28_1 h, r28_2 h, o29 h, o30 h, o31 h, l29 h, l30 h, l31 h⟩
theorem SR32 {σ : HS} (h : Typ σ) : SR σ 32 60 := ⟨o32 h, r32_0 h, r32_1 h, r32_2 h, o33 h, o34 h, o35 h, l33 h, l34 h, l35 h⟩
theorem SR36 {σ : HS} (h : Typ σ) : SR σ 36 2 := ⟨o36 h, r36_0 h, r36_1 h, r36_2 h, o37 h, o38 h, o39 h, l37 h, l38 h, l39 h⟩
/-- what a place of it tells -/
def Rep (σ : HS) (t i : Nat) (x : Option (Int × Int)) : Prop := match x with
  | none => hA σ (t + 3) i = 1
  | some p => hA σ (t + 3) i = 0 ∧ (hB σ (t + 1) i).toInt = p.1 ∧ (hB σ (t + 2) i).toInt = p.2 ∧ p.1 ≤ p.2
def st3 (σ : HS) (t i : Nat) (o : Int32) (lo hi : Int64) : HS := sB (sB (sA σ (t + 3) i o) (t + 1) i lo) (t + 2) i hi
def Apart (t i o a : Nat) : Prop := (o = t ∧ a ≠ i) ∨ o + 3 ≤ t ∨ t + 3 ≤ o
theorem st3_A (σ : HS) (t i : Nat) (o : Int32) (lo hi : Int64) (a b : Nat) : hA (st3 σ t i o lo hi) a b = if a = t + 3 ∧ b = i then o else hA σ a b := rfl
theorem st3_B (σ : HS) (t i : Nat) (o : Int32) (lo hi : Int64) (a b : Nat) : hB (st3 σ t i o lo hi) a b = if a = t + 2 ∧ b = i then hi else if a = t + 1 ∧ b = i then lo else hB σ a b := rfl
theorem st3_fr {σ : HS} {t i : Nat} {o : Int32} {lo hi : Int64} : Fr [t + 1, t + 2, t + 3] σ (st3 σ t i o lo hi) :=
  ((Fr_sA (by simp)).seq (Fr_sB (by simp))).seq (Fr_sB (by simp))
theorem st3_rep_none {σ : HS} {t i : Nat} {lo hi : Int64} : Rep (st3 σ t i 1 lo hi) t i none := by
  show hA _ _ _ = 1
  rw [st3_A, if_pos ⟨rfl, rfl⟩]
theorem st3_rep_some {σ : HS} {t i : Nat} {lo hi : Int64} {p : Int × Int} (h1 : lo.toInt = p.1) (h2 : hi.toInt = p.2) (h3 : p.1 ≤ p.2) : Rep (st3 σ t i 0 lo hi) t i (some p) := by
  refine ⟨?_, ?_, ?_, h3⟩
  · rw [st3_A, if_pos ⟨rfl, rfl⟩]
  · rw [st3_B, if_neg (by omega), if_pos ⟨rfl, rfl⟩]; exact h1
  · rw [st3_B, if_pos ⟨rfl, rfl⟩]; exact h2
end
section
theorem isO_sA' (σ : HS) (j k : Nat) (v : Int32) (t a : Nat) : isO (sA σ j k v) t a = isO σ t a := rfl
theorem isO_sB' (σ : HS) (j k : Nat) (v : Int64) (t a : Nat) : isO (sB σ j k v) t a = isO σ t a := rfl
theorem ife1 {c : Prop} [Decidable c] : ((if c then (1 : Int32) else 0) = 0) = ¬ c := by
  by_cases h : c <;> simp [h]
theorem SR.e {σ : HS} {t n : Nat} (h : SR σ t n) : (isO σ 1 t) = True ∧ (isO σ 12 (t + 1)) = True ∧ (isO σ 12 (t + 2)) = True ∧ (isO σ 11 (t + 3)) = True ∧ hR σ t 0 = some (t + 1) ∧ hR σ t 1 = some (t + 2) ∧ hR σ t 2 = some (t + 3) ∧ hlen σ (t + 1) = n ∧ hlen σ (t + 2) = n ∧ hlen σ (t + 3) = n := by
  obtain ⟨h1, h2, h3, h4, h5, h6, h7, h8, h9, h10⟩ := h
  exact ⟨eq_true h1, eq_true h5, eq_true h6, eq_true h7, h2, h3, h4, h8, h9, h10⟩
theorem fromTo_ok {σ : HS} {t n i : Nat} {a b : Int64} (hs : SR σ t n) (hi : i < n) (hi2 : i < 1000) : f_X1_fromTo t (nI i) a b σ = some ((), st3 σ t i 0 a b) := by
  obtain ⟨s1, s2, s3, s4, s5, s6, s7, s8, s9, s10⟩ := hs.e
  have ib := eq_true (inb1000 hi hi2)
  have ci := cl1000 hi2
  unfold f_X1_fromTo
  simp only [chk_p, lt_p, bd_p, bc_p, isO_sA', isO_sB', hlen_sA, hlen_sB, hR_sA, hR_sB, hA_sA, hA_sB, hB_sA, hB_sB, and_self, and_true, true_and, s1, s2, s3, s4, s5, s6, s7, s8, s9, s10, ib, ci]
  rfl
theorem sum_e {σ : HS} {t n o no w nw i a b : Nat} (hs : SR σ t n) (ho : SR σ o no) (hw : SR σ w nw) (hi : i < n) (ha : a < no) (hb : b < nw) (hi2 : i < 1000) (ha2 : a < 1000) (hb2 : b < 1000) (p1 : Apart t i o a) (p2 : Apart t i w b) : f_X1_sum t (nI i) o (nI a) w (nI b) σ = some ((), st3 σ t i (if hA σ (o + 3) a = 0 ∧ hA σ (w + 3) b = 0 ∧ inR ((hB σ (o + 1) a).toInt + (hB σ (w + 1) b).toInt) ∧ inR ((hB σ (o + 2) a).toInt + (hB σ (w + 2) b).toInt) then 0 else 1) (hB σ (o + 1) a + hB σ (w + 1) b) (hB σ (o + 2) a + hB σ (w + 2) b)) := by
  obtain ⟨s1, s2, s3, s4, s5, s6, s7, s8, s9, s10⟩ := hs.e
  obtain ⟨q1, q2, q3, q4, q5, q6, q7, q8, q9, q10⟩ := ho.e
  obtain ⟨v1, v2, v3, v4, v5, v6, v7, v8, v9, v10⟩ := hw.e
  have ib := eq_true (inb1000 hi hi2)
  have ia := eq_true (inb1000 ha ha2)
  have iw := eq_true (inb1000 hb hb2)
  have ci := cl1000 hi2
  have ca := cl1000 ha2
  have cb := cl1000 hb2
  have n1 : ¬ (o + 2 = t + 1 ∧ a = i) := by unfold Apart at p1; omega
  have n2 : ¬ (w + 2 = t + 1 ∧ b = i) := by unfold Apart at p2; omega
  unfold f_X1_sum
  by_cases c1 : hA σ (o + 3) a = 0
  · by_cases c2 : hA σ (w + 3) b = 0
    · by_cases c3 : inR ((hB σ (o + 1) a).toInt + (hB σ (w + 1) b).toInt)
      · have c3 := eq_true c3
        by_cases c4 : inR ((hB σ (o + 2) a).toInt + (hB σ (w + 2) b).toInt)
        · have c4 := eq_true c4
          simp only [chk_p, lt_p, bd_p, bc_p, isO_sA', isO_sB', hlen_sA, hlen_sB, hR_sA, hR_sB, hA_sA, hA_sB, hB_sA, hB_sB, and_self, and_true, true_and, sumFits_ok, ife1, s1, s2, s3, s4, s5, s6, s7, s8, s9, s10, q1, q2, q3, q4, q5, q6, q7, q8, q9, q10, v1, v2, v3, v4, v5, v6, v7, v8, v9, v10, ib, ia, iw, ci, ca, cb, if_neg n1, if_neg n2, c1, c2, c3, c4, not_true, if_true, if_false]
          rfl
        · have c4 := eq_false c4
          simp only [chk_p, lt_p, bd_p, bc_p, isO_sA', isO_sB', hlen_sA, hlen_sB, hR_sA, hR_sB, hA_sA, hA_sB, hB_sA, hB_sB, and_self, and_true, true_and, sumFits_ok, ife1, s1, s2, s3, s4, s5, s6, s7, s8, s9, s10, q1, q2, q3, q4, q5, q6, q7, q8, q9, q10, v1, v2, v3, v4, v5, v6, v7, v8, v9, v10, ib, ia, iw, ci, ca, cb, if_neg n1, if_neg n2, c1, c2, c3, c4, not_true, not_false_iff, and_false, if_true, if_false]
          rfl
      · have c3 := eq_false c3
        simp only [chk_p, lt_p, bd_p, bc_p, isO_sA', isO_sB', hlen_sA, hlen_sB, hR_sA, hR_sB, hA_sA, hA_sB, hB_sA, hB_sB, and_self, and_true, true_and, sumFits_ok, ife1, s1, s2, s3, s4, s5, s6, s7, s8, s9, s10, q1, q2, q3, q4, q5, q6, q7, q8, q9, q10, v1, v2, v3, v4, v5, v6, v7, v8, v9, v10, ib, ia, iw, ci, ca, cb, if_neg n1, if_neg n2, c1, c2, c3, not_true, not_false_iff, and_false, false_and, if_true, if_false]
        rfl
    · simp only [chk_p, lt_p, bd_p, bc_p, isO_sA', isO_sB', hlen_sA, hlen_sB, hR_sA, hR_sB, hA_sA, hA_sB, hB_sA, hB_sB, and_self, and_true, true_and, s1, s2, s3, s4, s5, s6, s7, s8, s9, s10, q1, q2, q3, q4, q5, q6, q7, q8, q9, q10, v1, v2, v3, v4, v5, v6, v7, v8, v9, v10, ib, ia, iw, ci, ca, cb, if_neg n1, if_neg n2, c1, c2, not_true, not_false_iff, and_false, false_and, if_true, if_false]
      rfl
  · simp only [chk_p, lt_p, bd_p, bc_p, isO_sA', isO_sB', hlen_sA, hlen_sB, hR_sA, hR_sB, hA_sA, hA_sB, hB_sA, hB_sB, and_self, and_true, true_and, s1, s2, s3, s4, s5, s6, s7, s8, s9, s10, q1, q2, q3, q4, q5, q6, q7, q8, q9, q10, v1, v2, v3, v4, v5, v6, v7, v8, v9, v10, ib, ia, iw, ci, ca, cb, if_neg n1, if_neg n2, c1, not_true, not_false_iff, and_false, false_and, if_true, if_false]
    rfl
theorem sum_ok {σ : HS} {t n o no w nw i a b : Nat} (hs : SR σ t n) (ho : SR σ o no) (hw : SR σ w nw) (hi : i < n) (ha : a < no) (hb : b < nw) (hi2 : i < 1000) (ha2 : a < 1000) (hb2 : b < 1000) (p1 : Apart t i o a) (p2 : Apart t i w b) {x y : Option (Int × Int)} (rx : Rep σ o a x) (ry : Rep σ w b y) : ∃ u lo hi, f_X1_sum t (nI i) o (nI a) w (nI b) σ = some ((), st3 σ t i u lo hi) ∧ Rep (st3 σ t i u lo hi) t i (sp2 3 x y) := by
  refine ⟨_, _, _, sum_e hs ho hw hi ha hb hi2 ha2 hb2 p1 p2, ?_⟩
  cases x with
  | none =>
    have h1 : hA σ (o + 3) a = 1 := rx
    rw [if_neg (by rw [h1]; intro z; exact absurd z.1 (by decide))]
    exact st3_rep_none
  | some p =>
    cases y with
    | none =>
      have h1 : hA σ (w + 3) b = 1 := ry
      rw [if_neg (by rw [h1]; intro z; exact absurd z.2.1 (by decide))]
      exact st3_rep_none
    | some r =>
      obtain ⟨a1, a2, a3, a4⟩ := rx
      obtain ⟨b1, b2, b3, b4⟩ := ry
      show Rep _ t i (rg (p.1 + r.1) (p.2 + r.2))
      by_cases g : inR ((p.1 + r.1)) ∧ inR ((p.2 + r.2))
      · rw [rg_of g.1 g.2, if_pos ⟨a1, b1, by rw [a2, b2]; exact g.1, by rw [a3, b3]; exact g.2⟩]
        refine st3_rep_some ?_ ?_ ?_
        · rw [l_add (by rw [a2, b2]; exact g.1), a2, b2]
        · rw [l_add (by rw [a3, b3]; exact g.2), a3, b3]
        · show p.1 + r.1 ≤ p.2 + r.2
          omega
      · rw [if_neg (by rw [a2, a3, b2, b3]; exact fun z => g z.2.2)]
        unfold rg
        rw [if_neg g]
        exact st3_rep_none
theorem difference_e {σ : HS} {t n o no w nw i a b : Nat} (hs : SR σ t n) (ho : SR σ o no) (hw : SR σ w nw) (hi : i < n) (ha : a < no) (hb : b < nw) (hi2 : i < 1000) (ha2 : a < 1000) (hb2 : b < 1000) (p1 : Apart t i o a) (p2 : Apart t i w b) : f_X1_difference t (nI i) o (nI a) w (nI b) σ = some ((), st3 σ t i (if hA σ (o + 3) a = 0 ∧ hA σ (w + 3) b = 0 ∧ inR ((hB σ (o + 1) a).toInt - (hB σ (w + 2) b).toInt) ∧ inR ((hB σ (o + 2) a).toInt - (hB σ (w + 1) b).toInt) then 0 else 1) (hB σ (o + 1) a - hB σ (w + 2) b) (hB σ (o + 2) a - hB σ (w + 1) b)) := by
  obtain ⟨s1, s2, s3, s4, s5, s6, s7, s8, s9, s10⟩ := hs.e
  obtain ⟨q1, q2, q3, q4, q5, q6, q7, q8, q9, q10⟩ := ho.e
  obtain ⟨v1, v2, v3, v4, v5, v6, v7, v8, v9, v10⟩ := hw.e
  have ib := eq_true (inb1000 hi hi2)
  have ia := eq_true (inb1000 ha ha2)
  have iw := eq_true (inb1000 hb hb2)
  have ci := cl1000 hi2
  have ca := cl1000 ha2
  have cb := cl1000 hb2
  have n1 : ¬ (o + 2 = t + 1 ∧ a = i) := by unfold Apart at p1; omega
  have n2 : ¬ (w + 1 = t + 1 ∧ b = i) := by unfold Apart at p2; omega
  unfold f_X1_difference
  by_cases c1 : hA σ (o + 3) a = 0
  · by_cases c2 : hA σ (w + 3) b = 0
    · by_cases c3 : inR ((hB σ (o + 1) a).toInt - (hB σ (w + 2) b).toInt)
      · have c3 := eq_true c3
        by_cases c4 : inR ((hB σ (o + 2) a).toInt - (hB σ (w + 1) b).toInt)
        · have c4 := eq_true c4
          simp only [chk_p, lt_p, bd_p, bc_p, isO_sA', isO_sB', hlen_sA, hlen_sB, hR_sA, hR_sB, hA_sA, hA_sB, hB_sA, hB_sB, and_self, and_true, true_and, differenceFits_ok, ife1, s1, s2, s3, s4, s5, s6, s7, s8, s9, s10, q1, q2, q3, q4, q5, q6, q7, q8, q9, q10, v1, v2, v3, v4, v5, v6, v7, v8, v9, v10, ib, ia, iw, ci, ca, cb, if_neg n1, if_neg n2, c1, c2, c3, c4, not_true, if_true, if_false]
          rfl
        · have c4 := eq_false c4
          simp only [chk_p, lt_p, bd_p, bc_p, isO_sA', isO_sB', hlen_sA, hlen_sB, hR_sA, hR_sB, hA_sA, hA_sB, hB_sA, hB_sB, and_self, and_true, true_and, differenceFits_ok, ife1, s1, s2, s3, s4, s5, s6, s7, s8, s9, s10, q1, q2, q3, q4, q5, q6, q7, q8, q9, q10, v1, v2, v3, v4, v5, v6, v7, v8, v9, v10, ib, ia, iw, ci, ca, cb, if_neg n1, if_neg n2, c1, c2, c3, c4, not_true, not_false_iff, and_false, if_true, if_false]
          rfl
      · have c3 := eq_false c3
        simp only [chk_p, lt_p, bd_p, bc_p, isO_sA', isO_sB', hlen_sA, hlen_sB, hR_sA, hR_sB, hA_sA, hA_sB, hB_sA, hB_sB, and_self, and_true, true_and, differenceFits_ok, ife1, s1, s2, s3, s4, s5, s6, s7, s8, s9, s10, q1, q2, q3, q4, q5, q6, q7, q8, q9, q10, v1, v2, v3, v4, v5, v6, v7, v8, v9, v10, ib, ia, iw, ci, ca, cb, if_neg n1, if_neg n2, c1, c2, c3, not_true, not_false_iff, and_false, false_and, if_true, if_false]
        rfl
    · simp only [chk_p, lt_p, bd_p, bc_p, isO_sA', isO_sB', hlen_sA, hlen_sB, hR_sA, hR_sB, hA_sA, hA_sB, hB_sA, hB_sB, and_self, and_true, true_and, s1, s2, s3, s4, s5, s6, s7, s8, s9, s10, q1, q2, q3, q4, q5, q6, q7, q8, q9, q10, v1, v2, v3, v4, v5, v6, v7, v8, v9, v10, ib, ia, iw, ci, ca, cb, if_neg n1, if_neg n2, c1, c2, not_true, not_false_iff, and_false, false_and, if_true, if_false]
      rfl
  · simp only [chk_p, lt_p, bd_p, bc_p, isO_sA', isO_sB', hlen_sA, hlen_sB, hR_sA, hR_sB, hA_sA, hA_sB, hB_sA, hB_sB, and_self, and_true, true_and, s1, s2, s3, s4, s5, s6, s7, s8, s9, s10, q1, q2, q3, q4, q5, q6, q7, q8, q9, q10, v1, v2, v3, v4, v5, v6, v7, v8, v9, v10, ib, ia, iw, ci, ca, cb, if_neg n1, if_neg n2, c1, not_true, not_false_iff, and_false, false_and, if_true, if_false]
    rfl
theorem difference_ok {σ : HS} {t n o no w nw i a b : Nat} (hs : SR σ t n) (ho : SR σ o no) (hw : SR σ w nw) (hi : i < n) (ha : a < no) (hb : b < nw) (hi2 : i < 1000) (ha2 : a < 1000) (hb2 : b < 1000) (p1 : Apart t i o a) (p2 : Apart t i w b) {x y : Option (Int × Int)} (rx : Rep σ o a x) (ry : Rep σ w b y) : ∃ u lo hi, f_X1_difference t (nI i) o (nI a) w (nI b) σ = some ((), st3 σ t i u lo hi) ∧ Rep (st3 σ t i u lo hi) t i (sp2 4 x y) := by
  refine ⟨_, _, _, difference_e hs ho hw hi ha hb hi2 ha2 hb2 p1 p2, ?_⟩
  cases x with
  | none =>
    have h1 : hA σ (o + 3) a = 1 := rx
    rw [if_neg (by rw [h1]; intro z; exact absurd z.1 (by decide))]
    exact st3_rep_none
  | some p =>
    cases y with
    | none =>
      have h1 : hA σ (w + 3) b = 1 := ry
      rw [if_neg (by rw [h1]; intro z; exact absurd z.2.1 (by decide))]
      exact st3_rep_none
    | some r =>
      obtain ⟨a1, a2, a3, a4⟩ := rx
      obtain ⟨b1, b2, b3, b4⟩ := ry
      show Rep _ t i (rg (p.1 - r.2) (p.2 - r.1))
      by_cases g : inR ((p.1 - r.2)) ∧ inR ((p.2 - r.1))
      · rw [rg_of g.1 g.2, if_pos ⟨a1, b1, by rw [a2, b3]; exact g.1, by rw [a3, b2]; exact g.2⟩]
        refine st3_rep_some ?_ ?_ ?_
        · rw [l_sub (by rw [a2, b3]; exact g.1), a2, b3]
        · rw [l_sub (by rw [a3, b2]; exact g.2), a3, b2]
        · show p.1 - r.2 ≤ p.2 - r.1
          omega
      · rw [if_neg (by rw [a2, a3, b2, b3]; exact fun z => g z.2.2)]
        unfold rg
        rw [if_neg g]
        exact st3_rep_none
end
section
/-! Thought's methods: sources in thought, a formula carried -/
theorem le6 {i : Nat} (h : i < 1000) : ((6 : Int32) ≤ nI i) = (6 ≤ i) := propext (nI_leI (a := 6) (by omega) (by omega))
theorem nI_s (i : Nat) : nI i + (1 : Int32) = nI (i + 1) := nI_1 i
theorem lowOf_ok {σ : HS} (h : Typ σ) {s : Nat} (hs : s < 6) : f_X2_lowOf 1 (nI s) σ = some (hA σ 2 s - hA σ 3 s, σ) := by
  have i1 := eq_true (inb1000 (i := s) (n := 6) hs (by omega))
  have c1 := cl1000 (i := s) (by omega)
  have e1 := eq_true (o1 h)
  have e2 := eq_true (o2 h)
  have e3 := eq_true (o3 h)
  simp only [f_X2_lowOf, chk_p, bd_p, lt_p, e1, e2, e3, l2 h, l3 h, r1_0 h, r1_1 h, i1, c1, and_self]
theorem highOf_ok {σ : HS} (h : Typ σ) {s : Nat} (hs : s < 6) : f_X2_highOf 1 (nI s) σ = some (hA σ 2 s + hA σ 3 s, σ) := by
  have i1 := eq_true (inb1000 (i := s) (n := 6) hs (by omega))
  have c1 := cl1000 (i := s) (by omega)
  have e1 := eq_true (o1 h)
  have e2 := eq_true (o2 h)
  have e3 := eq_true (o3 h)
  simp only [f_X2_highOf, chk_p, bd_p, lt_p, e1, e2, e3, l2 h, l3 h, r1_0 h, r1_1 h, i1, c1, and_self]
theorem stand_ok {σ : HS} (h : Typ σ) {s : Nat} (hs : s < 6) (a b : Int32) : f_X4_stand 24 (nI s) a b σ = some ((), sA (sA σ 25 s a) 26 s b) := by
  have i1 := eq_true (inb1000 (i := s) (n := 6) hs (by omega))
  have c1 := cl1000 (i := s) (by omega)
  have e1 := eq_true (o24 h)
  have e2 := eq_true (o25 h)
  have e3 := eq_true (o26 h)
  simp only [f_X4_stand, chk_p, bd_p, lt_p, isO_sA', hR_sA, hlen_sA, e1, e2, e3, l25 h, l26 h, r24_0 h, r24_1 h, i1, c1, and_self]
end
section
def lmn (x y : Int64) : Int64 := if y < x then y else x
def lmx (x y : Int64) : Int64 := if y < x then x else y
theorem lmn_i (x y : Int64) : (lmn x y).toInt = min x.toInt y.toInt := l_min x y
theorem lmx_i (x y : Int64) : (lmx x y).toInt = max x.toInt y.toInt := l_max x y
theorem product_e {σ : HS} {t n o no w nw i a b : Nat} (hs : SR σ t n) (ho : SR σ o no) (hw : SR σ w nw) (hi : i < n) (ha : a < no) (hb : b < nw) (hi2 : i < 1000) (ha2 : a < 1000) (hb2 : b < 1000) : f_X1_product t (nI i) o (nI a) w (nI b) σ = some ((), st3 σ t i (if hA σ (o + 3) a = 0 ∧ hA σ (w + 3) b = 0 ∧ inR ((hB σ (o + 1) a).toInt * (hB σ (w + 1) b).toInt) ∧ inR ((hB σ (o + 1) a).toInt * (hB σ (w + 2) b).toInt) ∧ inR ((hB σ (o + 2) a).toInt * (hB σ (w + 1) b).toInt) ∧ inR ((hB σ (o + 2) a).toInt * (hB σ (w + 2) b).toInt) then 0 else 1)
    (lmn (lmn (hB σ (o + 1) a * hB σ (w + 1) b) (hB σ (o + 1) a * hB σ (w + 2) b)) (lmn (hB σ (o + 2) a * hB σ (w + 1) b) (hB σ (o + 2) a * hB σ (w + 2) b))) (lmx (lmx (hB σ (o + 1) a * hB σ (w + 1) b) (hB σ (o + 1) a * hB σ (w + 2) b)) (lmx (hB σ (o + 2) a * hB σ (w + 1) b) (hB σ (o + 2) a * hB σ (w + 2) b)))) := by
  obtain ⟨s1, s2, s3, s4, s5, s6, s7, s8, s9, s10⟩ := hs.e
  obtain ⟨q1, q2, q3, q4, q5, q6, q7, q8, q9, q10⟩ := ho.e
  obtain ⟨v1, v2, v3, v4, v5, v6, v7, v8, v9, v10⟩ := hw.e
  have ib := eq_true (inb1000 hi hi2)
  have ia := eq_true (inb1000 ha ha2)
  have iw := eq_true (inb1000 hb hb2)
  have ci := cl1000 hi2
  have ca := cl1000 ha2
  have cb := cl1000 hb2
  unfold f_X1_product
  by_cases c0 : hA σ (o + 3) a = 0
  · have c0 := c0
    by_cases c1 : hA σ (w + 3) b = 0
    · have c1 := c1
      by_cases c2 : inR ((hB σ (o + 1) a).toInt * (hB σ (w + 1) b).toInt)
      · have c2 := eq_true c2
        by_cases c3 : inR ((hB σ (o + 1) a).toInt * (hB σ (w + 2) b).toInt)
        · have c3 := eq_true c3
          by_cases c4 : inR ((hB σ (o + 2) a).toInt * (hB σ (w + 1) b).toInt)
          · have c4 := eq_true c4
            by_cases c5 : inR ((hB σ (o + 2) a).toInt * (hB σ (w + 2) b).toInt)
            · have c5 := eq_true c5
              simp only [chk_p, lt_p, bd_p, bc_p, isO_sA', isO_sB', hlen_sA, hlen_sB, hR_sA, hR_sB, hA_sA, hA_sB, hB_sA, hB_sB, and_self, and_true, true_and, productFits_ok, ife1, s1, s2, s3, s4, s5, s6, s7, s8, s9, s10, q1, q2, q3, q4, q5, q6, q7, q8, q9, q10, v1, v2, v3, v4, v5, v6, v7, v8, v9, v10, ib, ia, iw, ci, ca, cb, c0, c1, c2, c3, c4, c5, not_true, not_false_iff, if_true, if_false]
              rfl
            · have c5 := eq_false c5
              simp only [chk_p, lt_p, bd_p, bc_p, isO_sA', isO_sB', hlen_sA, hlen_sB, hR_sA, hR_sB, hA_sA, hA_sB, hB_sA, hB_sB, and_self, and_true, true_and, productFits_ok, ife1, s1, s2, s3, s4, s5, s6, s7, s8, s9, s10, q1, q2, q3, q4, q5, q6, q7, q8, q9, q10, v1, v2, v3, v4, v5, v6, v7, v8, v9, v10, ib, ia, iw, ci, ca, cb, c0, c1, c2, c3, c4, c5, not_true, not_false_iff, and_false, false_and, if_true, if_false]
              rfl
          · have c4 := eq_false c4
            simp only [chk_p, lt_p, bd_p, bc_p, isO_sA', isO_sB', hlen_sA, hlen_sB, hR_sA, hR_sB, hA_sA, hA_sB, hB_sA, hB_sB, and_self, and_true, true_and, productFits_ok, ife1, s1, s2, s3, s4, s5, s6, s7, s8, s9, s10, q1, q2, q3, q4, q5, q6, q7, q8, q9, q10, v1, v2, v3, v4, v5, v6, v7, v8, v9, v10, ib, ia, iw, ci, ca, cb, c0, c1, c2, c3, c4, not_true, not_false_iff, and_false, false_and, if_true, if_false]
            rfl
        · have c3 := eq_false c3
          simp only [chk_p, lt_p, bd_p, bc_p, isO_sA', isO_sB', hlen_sA, hlen_sB, hR_sA, hR_sB, hA_sA, hA_sB, hB_sA, hB_sB, and_self, and_true, true_and, productFits_ok, ife1, s1, s2, s3, s4, s5, s6, s7, s8, s9, s10, q1, q2, q3, q4, q5, q6, q7, q8, q9, q10, v1, v2, v3, v4, v5, v6, v7, v8, v9, v10, ib, ia, iw, ci, ca, cb, c0, c1, c2, c3, not_true, not_false_iff, and_false, false_and, if_true, if_false]
          rfl
      · have c2 := eq_false c2
        simp only [chk_p, lt_p, bd_p, bc_p, isO_sA', isO_sB', hlen_sA, hlen_sB, hR_sA, hR_sB, hA_sA, hA_sB, hB_sA, hB_sB, and_self, and_true, true_and, productFits_ok, ife1, s1, s2, s3, s4, s5, s6, s7, s8, s9, s10, q1, q2, q3, q4, q5, q6, q7, q8, q9, q10, v1, v2, v3, v4, v5, v6, v7, v8, v9, v10, ib, ia, iw, ci, ca, cb, c0, c1, c2, not_true, not_false_iff, and_false, false_and, if_true, if_false]
        rfl
    · have c1 := c1
      simp only [chk_p, lt_p, bd_p, bc_p, isO_sA', isO_sB', hlen_sA, hlen_sB, hR_sA, hR_sB, hA_sA, hA_sB, hB_sA, hB_sB, and_self, and_true, true_and, productFits_ok, ife1, s1, s2, s3, s4, s5, s6, s7, s8, s9, s10, q1, q2, q3, q4, q5, q6, q7, q8, q9, q10, v1, v2, v3, v4, v5, v6, v7, v8, v9, v10, ib, ia, iw, ci, ca, cb, c0, c1, not_true, not_false_iff, and_false, false_and, if_true, if_false]
      rfl
  · have c0 := c0
    simp only [chk_p, lt_p, bd_p, bc_p, isO_sA', isO_sB', hlen_sA, hlen_sB, hR_sA, hR_sB, hA_sA, hA_sB, hB_sA, hB_sB, and_self, and_true, true_and, productFits_ok, ife1, s1, s2, s3, s4, s5, s6, s7, s8, s9, s10, q1, q2, q3, q4, q5, q6, q7, q8, q9, q10, v1, v2, v3, v4, v5, v6, v7, v8, v9, v10, ib, ia, iw, ci, ca, cb, c0, not_true, not_false_iff, and_false, false_and, if_true, if_false]
    rfl
theorem product_ok {σ : HS} {t n o no w nw i a b : Nat} (hs : SR σ t n) (ho : SR σ o no) (hw : SR σ w nw) (hi : i < n) (ha : a < no) (hb : b < nw) (hi2 : i < 1000) (ha2 : a < 1000) (hb2 : b < 1000) {x y : Option (Int × Int)} (rx : Rep σ o a x) (ry : Rep σ w b y) {k : Nat} (hk : 5 ≤ k) : ∃ u lo hi, f_X1_product t (nI i) o (nI a) w (nI b) σ = some ((), st3 σ t i u lo hi) ∧ Rep (st3 σ t i u lo hi) t i (sp2 k x y) := by
  refine ⟨_, _, _, product_e hs ho hw hi ha hb hi2 ha2 hb2, ?_⟩
  cases x with
  | none =>
    have h1 : hA σ (o + 3) a = 1 := rx
    rw [if_neg (by rw [h1]; intro z; exact absurd z.1 (by decide))]
    exact st3_rep_none
  | some p =>
    cases y with
    | none =>
      have h1 : hA σ (w + 3) b = 1 := ry
      rw [if_neg (by rw [h1]; intro z; exact absurd z.2.1 (by decide))]
      exact st3_rep_none
    | some r =>
      obtain ⟨a1, a2, a3, a4⟩ := rx
      obtain ⟨b1, b2, b3, b4⟩ := ry
      have es : sp2 k (some p) (some r) = pr4 p.1 p.2 r.1 r.2 := by
        show (if k = 3 then _ else if k = 4 then _ else _) = _
        rw [if_neg (by omega), if_neg (by omega)]
      rw [es, a1, b1, a2, a3, b2, b3]
      by_cases g : inR (p.1 * r.1) ∧ inR (p.1 * r.2) ∧ inR (p.2 * r.1) ∧ inR (p.2 * r.2)
      · rw [if_pos ⟨rfl, rfl, g⟩]
        have e4 : pr4 p.1 p.2 r.1 r.2 = some (mn4 p.1 p.2 r.1 r.2, mx4 p.1 p.2 r.1 r.2) := if_pos g
        rw [e4]
        have m1 := l_mul (a := hB σ (o + 1) a) (b := hB σ (w + 1) b) (by rw [a2, b2]; exact g.1)
        have m2 := l_mul (a := hB σ (o + 1) a) (b := hB σ (w + 2) b) (by rw [a2, b3]; exact g.2.1)
        have m3 := l_mul (a := hB σ (o + 2) a) (b := hB σ (w + 1) b) (by rw [a3, b2]; exact g.2.2.1)
        have m4 := l_mul (a := hB σ (o + 2) a) (b := hB σ (w + 2) b) (by rw [a3, b3]; exact g.2.2.2)
        rw [a2, b2] at m1
        rw [a2, b3] at m2
        rw [a3, b2] at m3
        rw [a3, b3] at m4
        refine st3_rep_some ?_ ?_ (mn4_le _ _ _ _)
        · rw [lmn_i, lmn_i, lmn_i, m1, m2, m3, m4]; rfl
        · rw [lmx_i, lmx_i, lmx_i, m1, m2, m3, m4]; rfl
      · rw [if_neg (fun z => g z.2.2)]
        unfold pr4
        rw [if_neg g]
        exact st3_rep_none
theorem st3_swap (σ : HS) (t i : Nat) (u : Int32) (lo hi : Int64) : sB (sB (sA σ (t + 3) i u) (t + 2) i hi) (t + 1) i lo = st3 σ t i u lo hi := by
  unfold st3 sB sA
  refine congrArg (fun z => ((σ.1, σ.2.1, σ.2.2.1, up2 σ.2.2.2.1 (t + 3) i u, z, σ.2.2.2.2.2) : HS)) (funext fun x => funext fun y => ?_)
  unfold up2
  dsimp only
  by_cases h1 : x = t + 1 ∧ y = i
  · rw [if_pos h1, if_neg (by omega), if_pos h1]
  · rw [if_neg h1]
    by_cases h2 : x = t + 2 ∧ y = i
    · rw [if_pos h2, if_pos h2]
    · rw [if_neg h2, if_neg h2, if_neg h1]
theorem less_e {σ : HS} {t n o no i a : Nat} (hs : SR σ t n) (ho : SR σ o no) (hi : i < n) (ha : a < no) (hi2 : i < 1000) (ha2 : a < 1000) : f_X1_less t (nI i) o (nI a) σ = some ((), st3 σ t i (if hA σ (o + 3) a = 0 ∧ ¬ hB σ (o + 1) a = -9223372036854775808 then 0 else 1) (-hB σ (o + 2) a) (-hB σ (o + 1) a)) := by
  obtain ⟨s1, s2, s3, s4, s5, s6, s7, s8, s9, s10⟩ := hs.e
  obtain ⟨q1, q2, q3, q4, q5, q6, q7, q8, q9, q10⟩ := ho.e
  have ib := eq_true (inb1000 hi hi2)
  have ia := eq_true (inb1000 ha ha2)
  have ci := cl1000 hi2
  have ca := cl1000 ha2
  unfold f_X1_less
  by_cases c1 : hA σ (o + 3) a = 0
  · by_cases c2 : hB σ (o + 1) a = -9223372036854775808
    · simp only [chk_p, lt_p, bd_p, bc_p, isO_sA', isO_sB', hlen_sA, hlen_sB, hR_sA, hR_sB, hA_sA, hA_sB, hB_sA, hB_sB, and_self, and_true, true_and, zc_eq, s1, s2, s3, s4, s5, s6, s7, s8, s9, s10, q1, q2, q3, q4, q5, q6, q7, q8, q9, q10, ib, ia, ci, ca, c1, c2, not_true, not_false_iff, and_false, if_true, if_false]
      exact congrArg (fun z => some ((), z)) (st3_swap _ _ _ _ _ _)
    · simp only [chk_p, lt_p, bd_p, bc_p, isO_sA', isO_sB', hlen_sA, hlen_sB, hR_sA, hR_sB, hA_sA, hA_sB, hB_sA, hB_sB, and_self, and_true, true_and, zc_eq, s1, s2, s3, s4, s5, s6, s7, s8, s9, s10, q1, q2, q3, q4, q5, q6, q7, q8, q9, q10, ib, ia, ci, ca, c1, c2, not_true, not_false_iff, and_self, if_true, if_false]
      exact congrArg (fun z => some ((), z)) (st3_swap _ _ _ _ _ _)
  · simp only [chk_p, lt_p, bd_p, bc_p, isO_sA', isO_sB', hlen_sA, hlen_sB, hR_sA, hR_sB, hA_sA, hA_sB, hB_sA, hB_sB, and_self, and_true, true_and, zc_eq, s1, s2, s3, s4, s5, s6, s7, s8, s9, s10, q1, q2, q3, q4, q5, q6, q7, q8, q9, q10, ib, ia, ci, ca, c1, not_true, not_false_iff, and_false, false_and, if_true, if_false]
    exact congrArg (fun z => some ((), z)) (st3_swap _ _ _ _ _ _)
theorem less_ok {σ : HS} {t n o no i a : Nat} (hs : SR σ t n) (ho : SR σ o no) (hi : i < n) (ha : a < no) (hi2 : i < 1000) (ha2 : a < 1000) {x : Option (Int × Int)} (rx : Rep σ o a x) : ∃ u lo hi, f_X1_less t (nI i) o (nI a) σ = some ((), st3 σ t i u lo hi) ∧ Rep (st3 σ t i u lo hi) t i (sp1 x) := by
  refine ⟨_, _, _, less_e hs ho hi ha hi2 ha2, ?_⟩
  cases x with
  | none =>
    have h1 : hA σ (o + 3) a = 1 := rx
    rw [if_neg (by rw [h1]; intro z; exact absurd z.1 (by decide))]
    exact st3_rep_none
  | some p =>
    obtain ⟨a1, a2, a3, a4⟩ := rx
    have t1 := tR (hB σ (o + 1) a)
    have t2 := tR (hB σ (o + 2) a)
    rw [a2] at t1
    rw [a3] at t2
    show Rep _ t i (rg (-p.2) (-p.1))
    by_cases g : hB σ (o + 1) a = -9223372036854775808
    · rw [if_neg (fun z => z.2 g)]
      have e : p.1 = -9223372036854775808 := by rw [← a2, g]; rfl
      unfold rg
      rw [if_neg (by omega)]
      exact st3_rep_none
    · rw [if_pos ⟨a1, g⟩]
      have e : p.1 ≠ -9223372036854775808 := fun z => g (Int64.toInt_inj.mp (by rw [a2, z]; rfl))
      rw [rg_of (by omega) (by omega)]
      refine st3_rep_some ?_ ?_ ?_
      · rw [l_neg (by rw [a3]; omega), a3]
      · rw [l_neg (by rw [a2]; omega), a2]
      · show -p.2 ≤ -p.1
        omega
end
section
/-- a formula's cells: the object at φ, its five rows behind it -/
def FT (σ : HS) (φ n : Nat) : Prop := 76 ≤ φ ∧ isO σ 0 φ ∧ (hR σ φ 1 = some (φ + 1) ∧ isO σ 10 (φ + 1) ∧ hlen σ (φ + 1) = n) ∧ (hR σ φ 2 = some (φ + 2) ∧ isO σ 10 (φ + 2) ∧ hlen σ (φ + 2) = n) ∧ (hR σ φ 3 = some (φ + 3) ∧ isO σ 10 (φ + 3) ∧ hlen σ (φ + 3) = n) ∧ (hR σ φ 4 = some (φ + 4) ∧ isO σ 10 (φ + 4) ∧ hlen σ (φ + 4) = n) ∧ (hR σ φ 5 = some (φ + 5) ∧ isO σ 10 (φ + 5) ∧ hlen σ (φ + 5) = n)
def XF (σ : HS) (φ : Nat) (Φ : FM) : Prop := FT σ φ (mN Φ) ∧ hA σ φ 0 = nI (mN Φ) ∧ ∀ i, i < mN Φ → hA σ (φ + 1) i = nI (mK Φ i) ∧ hA σ (φ + 2) i = nI (mP Φ i) ∧ hA σ (φ + 3) i = nI (if mK Φ i ≤ 1 then i else mU Φ i) ∧ hA σ (φ + 4) i = nI (if mK Φ i ≤ 1 then i else if mK Φ i = 2 then mU Φ i else mV Φ i) ∧ hA σ (φ + 5) i = nI (if mK Φ i ≤ 1 then mU Φ i else 0)
def lows (S : List Nat) : Bool := S.all (fun j => decide (j < 76))
theorem lows_ne {S : List Nat} (h : lows S = true) {j : Nat} (hj : 76 ≤ j) : j ∉ S := fun z => by
  have := List.all_eq_true.mp h j z
  simp at this
  omega
theorem FT.fr {S : List Nat} {σ σ' : HS} {φ n : Nat} (h : FT σ φ n) (hf : Fr S σ σ') : FT σ' φ n := by
  obtain ⟨h0, h1, ⟨a1, a2, a3⟩, ⟨b1, b2, b3⟩, ⟨c1, c2, c3⟩, ⟨d1, d2, d3⟩, ⟨e1, e2, e3⟩⟩ := h
  exact ⟨h0, hf.isO h1, ⟨(hf.R _ _).trans a1, hf.isO a2, (hf.len _).trans a3⟩, ⟨(hf.R _ _).trans b1, hf.isO b2, (hf.len _).trans b3⟩, ⟨(hf.R _ _).trans c1, hf.isO c2, (hf.len _).trans c3⟩, ⟨(hf.R _ _).trans d1, hf.isO d2, (hf.len _).trans d3⟩, ⟨(hf.R _ _).trans e1, hf.isO e2, (hf.len _).trans e3⟩⟩
theorem XF.fr {S : List Nat} {σ σ' : HS} {φ : Nat} {Φ : FM} (h : XF σ φ Φ) (hf : Fr S σ σ') (hS : lows S = true) : XF σ' φ Φ := by
  obtain ⟨ft, hn, hc⟩ := h
  have h0 := ft.1
  refine ⟨ft.fr hf, (hf.A (lows_ne hS h0) 0).trans hn, fun i hi => ?_⟩
  obtain ⟨c1, c2, c3, c4, c5⟩ := hc i hi
  exact ⟨(hf.A (lows_ne hS (by omega)) i).trans c1, (hf.A (lows_ne hS (by omega)) i).trans c2, (hf.A (lows_ne hS (by omega)) i).trans c3, (hf.A (lows_ne hS (by omega)) i).trans c4, (hf.A (lows_ne hS (by omega)) i).trans c5⟩
/-- the box that the sources stand in, in thought -/
def Bx (σ : HS) (L H : Nat → Int) : Prop := (∀ s, L s ≤ H s) ∧ ∀ s, s < 6 → (hA σ 25 s).toInt = L s ∧ (hA σ 26 s).toInt = H s
theorem nI_big {n : Nat} (h : n < 2147483648) : (nI n).toInt = n := nI_toInt h
theorem rep_keep {σ σ' : HS} {t i j : Nat} {u : Int32} {lo hi : Int64} {x : Option (Int × Int)} (e : σ' = st3 σ t i u lo hi) (hj : j ≠ i) (h : Rep σ t j x) : Rep σ' t j x := by
  subst e
  cases x with
  | none => show hA _ _ _ = 1; rw [st3_A, if_neg (fun z => hj z.2)]; exact h
  | some p =>
    obtain ⟨a1, a2, a3, a4⟩ := h
    refine ⟨?_, ?_, ?_, a4⟩
    · rw [st3_A, if_neg (fun z => hj z.2)]; exact a1
    · rw [st3_B, if_neg (fun z => hj z.2), if_neg (fun z => hj z.2)]; exact a2
    · rw [st3_B, if_neg (fun z => hj z.2), if_neg (fun z => hj z.2)]; exact a3
theorem carryPart_ok {σ : HS} (h : Typ σ) {φ : Nat} {Φ : FM} (hx : XF σ φ Φ) (hw : WF Φ) {L H : Nat → Int} (hb : Bx σ L H) {i : Nat} (hi : i < mN Φ) (ih : ∀ j, j < i → Rep σ 28 j (SP Φ L H j)) :
    ∃ u lo hi, f_X4_carryPart 24 φ (nI i) σ = some ((), st3 σ 28 i u lo hi) ∧ Rep (st3 σ 28 i u lo hi) 28 i (SP Φ L H i) := by
  obtain ⟨ft, hn, hc⟩ := hx
  obtain ⟨c1, c2, c3, c4, c5⟩ := hc i hi
  obtain ⟨w0, w60, wr⟩ := hw
  obtain ⟨k5, ku0, ku1, ku, kv, kv0, kp⟩ := wr i hi
  obtain ⟨f0, f1, ⟨a1, a2, a3⟩, -, ⟨d1, d2, d3⟩, ⟨e1, e2, e3⟩, ⟨g1, g2, g3⟩⟩ := ft
  have ib := eq_true (inb1000 (i := i) hi (by omega))
  have ci := cl1000 (i := i) (by omega)
  have q1 := eq_true f1
  have q2 := eq_true a2
  have q3 := eq_true d2
  have q4 := eq_true e2
  have q5 := eq_true g2
  have t24 := eq_true (o24 h)
  have t28 := eq_true (o28 h)
  have sr := SR28 h
  unfold f_X4_carryPart
  simp only [chk_p, bd_p, lt_p, q1, q2, q3, q4, q5, a1, a3, d1, d3, e1, e3, g1, g3, ib, ci, c1, c3, c4, c5, and_self]
  have h6 : mK Φ i = 0 ∨ mK Φ i = 1 ∨ mK Φ i = 2 ∨ mK Φ i = 3 ∨ mK Φ i = 4 ∨ mK Φ i = 5 := by omega
  rcases h6 with k | k | k | k | k | k
  · have hu := ku0 k
    have iu := eq_true (inb1000 (i := mU Φ i) hu (by omega))
    have cu := cl1000 (i := mU Φ i) (by omega)
    have t25 := eq_true (o25 h)
    have t26 := eq_true (o26 h)
    rw [k, SP_0 k]
    rw [if_pos (show nI 0 = 0 from rfl)]
    simp only [Nat.zero_le, if_true, chk_p, bd_p, bc_p, lt_p, t24, t25, t26, t28, l25 h, l26 h, r24_0 h, r24_1 h, r24_6 h, iu, cu, and_self, fromTo_ok sr (show i < 60 by omega) (by omega)]
    refine ⟨_, _, _, rfl, st3_rep_some ?_ ?_ (hb.1 _)⟩
    · rw [Int32.toInt_toInt64]; exact (hb.2 _ hu).1
    · rw [Int32.toInt_toInt64]; exact (hb.2 _ hu).2
  · have hu := ku1 k
    rw [k, SP_1 k]
    rw [if_neg (by decide), if_pos (show nI 1 = 1 from rfl)]
    simp only [Nat.le_refl, if_true, chk_p, bd_p, bc_p, lt_p, t24, t28, r24_6 h, fromTo_ok sr (show i < 60 by omega) (by omega)]
    refine ⟨_, _, _, rfl, st3_rep_some ?_ ?_ (Int.le_refl _)⟩
    · rw [Int32.toInt_toInt64]; exact nI_big (by omega)
    · rw [Int32.toInt_toInt64]; exact nI_big (by omega)
  · have hu := ku (by omega)
    obtain ⟨u, lo, hi', ef, er⟩ := less_ok sr sr (show i < 60 by omega) (show mU Φ i < 60 by omega) (by omega) (by omega) (ih _ hu)
    rw [k, SP_2 wr hi k]
    rw [if_neg (by decide), if_neg (by decide), if_pos (show nI 2 = 2 from rfl)]
    simp only [show ¬ (2 ≤ 1) by decide, if_false, chk_p, bd_p, bc_p, lt_p, t24, t28, r24_6 h, ef]
    exact ⟨_, _, _, rfl, er⟩
  · have hu := ku (by omega)
    have hv := kv (by omega)
    obtain ⟨u, lo, hi', ef, er⟩ := sum_ok sr sr sr (show i < 60 by omega) (show mU Φ i < 60 by omega) (show mV Φ i < 60 by omega) (by omega) (by omega) (by omega) (Or.inl ⟨rfl, by omega⟩) (Or.inl ⟨rfl, by omega⟩) (ih _ hu) (ih _ hv)
    rw [SP_3 wr hi (by omega), k]
    rw [if_neg (by decide), if_neg (by decide), if_neg (by decide), if_pos (show nI 3 = 3 from rfl)]
    simp only [show ¬ (3 ≤ 1) by decide, show ¬ (3 = 2) by decide, if_false, chk_p, bd_p, bc_p, lt_p, t24, t28, r24_6 h, ef]
    exact ⟨_, _, _, rfl, er⟩
  · have hu := ku (by omega)
    have hv := kv (by omega)
    obtain ⟨u, lo, hi', ef, er⟩ := difference_ok sr sr sr (show i < 60 by omega) (show mU Φ i < 60 by omega) (show mV Φ i < 60 by omega) (by omega) (by omega) (by omega) (Or.inl ⟨rfl, by omega⟩) (Or.inl ⟨rfl, by omega⟩) (ih _ hu) (ih _ hv)
    rw [SP_3 wr hi (by omega), k]
    rw [if_neg (by decide), if_neg (by decide), if_neg (by decide), if_neg (by decide), if_pos (show nI 4 = 4 from rfl)]
    simp only [show ¬ (4 ≤ 1) by decide, show ¬ (4 = 2) by decide, if_false, chk_p, bd_p, bc_p, lt_p, t24, t28, r24_6 h, ef]
    exact ⟨_, _, _, rfl, er⟩
  · have hu := ku (by omega)
    have hv := kv (by omega)
    obtain ⟨u, lo, hi', ef, er⟩ := product_ok sr sr sr (show i < 60 by omega) (show mU Φ i < 60 by omega) (show mV Φ i < 60 by omega) (by omega) (by omega) (by omega) (ih _ hu) (ih _ hv) (k := 5) (by omega)
    rw [SP_3 wr hi (by omega), k]
    rw [if_neg (by decide), if_neg (by decide), if_neg (by decide), if_neg (by decide), if_neg (by decide)]
    simp only [show ¬ (5 ≤ 1) by decide, show ¬ (5 = 2) by decide, if_false, chk_p, bd_p, bc_p, lt_p, t24, t28, r24_6 h, ef]
    exact ⟨_, _, _, rfl, er⟩
end
section
def Th (σ : HS) (x : Option (Int × Int)) : Prop := match x with
  | none => hA σ 24 2 = 1
  | some p => hA σ 24 2 = 0 ∧ (hB σ 24 3).toInt = p.1 ∧ (hB σ 24 4).toInt = p.2 ∧ p.1 ≤ p.2
theorem Bx.fr {S : List Nat} {σ σ' : HS} {L H : Nat → Int} (h : Bx σ L H) (hf : Fr S σ σ') (h1 : 25 ∉ S) (h2 : 26 ∉ S) : Bx σ' L H := ⟨h.1, fun s hs => by
  rw [hf.A h1, hf.A h2]; exact h.2 s hs⟩
theorem rep_bit {σ : HS} {t i : Nat} {x : Option (Int × Int)} (h : Rep σ t i x) : bit (hA σ (t + 3) i) := by
  cases x with
  | none => exact Or.inr h
  | some p => exact Or.inl h.1
theorem carry_lp {φ : Nat} {Φ : FM} (hw : WF Φ) {L H : Nat → Int} : ∀ (d i : Nat) (σ : HS), Typ σ → XF σ φ Φ → Bx σ L H → i + d = mN Φ → (∀ j, j < i → Rep σ 28 j (SP Φ L H j)) → ∀ nf, d < nf →
    ∃ σ', lp_X4_carry_2 nf 24 φ (nI i) σ = some ((), σ') ∧ Fr [24, 29, 30, 31] σ σ' ∧ (∀ j, j < mN Φ → Rep σ' 28 j (SP Φ L H j)) ∧ Th σ' (SP Φ L H (mN Φ - 1)) := by
  intro d
  induction d with
  | zero =>
    intro i σ h hx hb he hr nf hnf
    obtain ⟨nf, rfl⟩ : ∃ k, nf = k + 1 := ⟨nf - 1, by omega⟩
    obtain ⟨w1, w2, wr⟩ := hw
    obtain ⟨m, hm⟩ : ∃ m, mN Φ = m + 1 := ⟨mN Φ - 1, by omega⟩
    have hi : i = m + 1 := by omega
    subst hi
    have hroot := hr m (by omega)
    have hbit := rep_bit hroot
    obtain ⟨ft, hn, hc⟩ := hx
    have q0 := eq_true ft.2.1
    have t24 := eq_true (o24 h)
    have t28 := eq_true (o28 h)
    have t29 := eq_true (o29 h)
    have t30 := eq_true (o30 h)
    have t31 := eq_true (o31 h)
    have im := eq_true (inb1000 (i := m) (n := 60) (by omega) (by omega))
    have cm := cl1000 (i := m) (by omega)
    have le := eq_true (show nI (m + 1) ≤ nI (m + 1) from Int32.le_refl _)
    have bt : (hA σ 31 m = 0 ∨ hA σ 31 m = 1) = True := eq_true hbit
    refine ⟨sB (sB (sA σ 24 2 (hA σ 31 m)) 24 3 (hB σ 29 m)) 24 4 (hB σ 30 m), ?_, ?_, ?_, ?_⟩
    · show lp_X4_carry_2_b (lp_X4_carry_2 nf) 24 φ (nI (m + 1)) σ = _
      unfold lp_X4_carry_2_b
      rw [hm] at hn
      simp only [chk_p, bd_p, bc_p, lt_p, isO_sA', isO_sB', hlen_sA, hlen_sB, hR_sA, hR_sB, q0, hn, le, if_true, nI_pred, t24, t28, t29, t30, t31, r24_6 h, r28_0 h, r28_1 h, r28_2 h, l29 h, l30 h, l31 h, im, cm, bt, and_self, hB_sA, hB_sB, show ¬ (29 = 24) by decide, show ¬ (30 = 24) by decide, false_and, if_false]
    · exact ((Fr_sA (by simp)).seq (Fr_sB (by simp))).seq (Fr_sB (by simp))
    · intro j hj
      have hj2 := hr j (by omega)
      cases hx : SP Φ L H j with
      | none => rw [hx] at hj2; exact hj2
      | some p => rw [hx] at hj2; exact hj2
    · rw [hm]
      show Th _ (SP Φ L H m)
      cases hx : SP Φ L H m with
      | none =>
        rw [hx] at hroot
        show hA _ _ _ = 1
        simp only [hA_sB, hA_sA, and_self, if_true]
        exact hroot
      | some p =>
        rw [hx] at hroot
        obtain ⟨a1, a2, a3, a4⟩ := hroot
        refine ⟨?_, ?_, ?_, a4⟩
        · simp only [hA_sB, hA_sA, and_self, if_true]; exact a1
        · simp only [hB_sB, and_self, if_true, show ¬ (3 = 4) by decide, and_false, if_false]; exact a2
        · simp only [hB_sB, and_self, if_true]; exact a3
  | succ d ihd =>
    intro i σ h hx hb he hr nf hnf
    obtain ⟨nf, rfl⟩ : ∃ k, nf = k + 1 := ⟨nf - 1, by omega⟩
    obtain ⟨u, lo, hi', ef, er⟩ := carryPart_ok h hx hw hb (i := i) (by omega) hr
    have fr : Fr [29, 30, 31] σ (st3 σ 28 i u lo hi') := st3_fr
    obtain ⟨σ', e1, e2, e3, e4⟩ := ihd (i + 1) (st3 σ 28 i u lo hi') (fr.typ h) (hx.fr fr (by decide)) (hb.fr fr (by decide) (by decide)) (by omega) (fun j hj => by
      by_cases e : j = i
      · subst e; exact er
      · exact rep_keep rfl e (hr j (by omega))) nf (by omega)
    refine ⟨σ', ?_, (fr.mono (by simp)).seq e2, e3, e4⟩
    show lp_X4_carry_2_b (lp_X4_carry_2 nf) 24 φ (nI i) σ = _
    unfold lp_X4_carry_2_b
    obtain ⟨ft, hn, hc⟩ := hx
    have hw2 := hw.2.1
    have q0 := eq_true ft.2.1
    have t24 := eq_true (o24 h)
    have le := eq_false (show ¬ nI (mN Φ) ≤ nI i by rw [nI_leI (by omega) (by omega)]; omega)
    simp only [chk_p, bd_p, bc_p, lt_p, q0, hn, le, if_false, t24, ef, nI_s, e1]
theorem carry_ok {φ : Nat} {Φ : FM} (hw : WF Φ) {L H : Nat → Int} {σ : HS} (h : Typ σ) (hx : XF σ φ Φ) (hb : Bx σ L H) :
    ∃ σ', f_X4_carry 24 φ σ = some ((), σ') ∧ Fr [24, 29, 30, 31] σ σ' ∧ (∀ j, j < mN Φ → Rep σ' 28 j (SP Φ L H j)) ∧ Th σ' (SP Φ L H (mN Φ - 1)) := by
  have hw2 := hw.2.1
  obtain ⟨σ', e1, e2⟩ := carry_lp hw (mN Φ) 0 σ h hx hb (by omega) (fun j hj => by omega) 1000 (by omega)
  exact ⟨σ', e1, e2⟩
theorem standAs_lp : ∀ (d i : Nat) (σ : HS), Typ σ → i + d = 6 → ∀ nf, d < nf → ∃ σ', lp_X4_standAs_2 nf 24 1 (nI i) σ = some ((), σ') ∧ Fr [25, 26] σ σ' ∧ (∀ s, s < i → hA σ' 25 s = hA σ 25 s ∧ hA σ' 26 s = hA σ 26 s) ∧ ∀ s, i ≤ s → s < 6 → hA σ' 25 s = hA σ 2 s - hA σ 3 s ∧ hA σ' 26 s = hA σ 2 s + hA σ 3 s := by
  intro d
  induction d with
  | zero =>
    intro i σ h he nf hnf
    obtain ⟨nf, rfl⟩ : ∃ k, nf = k + 1 := ⟨nf - 1, by omega⟩
    have hi : i = 6 := by omega
    subst hi
    refine ⟨σ, ?_, Fr.rf, fun s _ => ⟨rfl, rfl⟩, fun s h1 h2 => by omega⟩
    show lp_X4_standAs_2_b (lp_X4_standAs_2 nf) 24 1 (nI 6) σ = _
    unfold lp_X4_standAs_2_b
    exact if_pos (by decide)
  | succ d ih =>
    intro i σ h he nf hnf
    obtain ⟨nf, rfl⟩ : ∃ k, nf = k + 1 := ⟨nf - 1, by omega⟩
    have fr : Fr [25, 26] σ (sA (sA σ 25 i (hA σ 2 i - hA σ 3 i)) 26 i (hA σ 2 i + hA σ 3 i)) := (Fr_sA (by simp)).seq (Fr_sA (by simp))
    obtain ⟨σ', e1, e2, e3, e4⟩ := ih (i + 1) _ (fr.typ h) (by omega) nf (by omega)
    refine ⟨σ', ?_, fr.seq e2, ?_, ?_⟩
    · show lp_X4_standAs_2_b (lp_X4_standAs_2 nf) 24 1 (nI i) σ = _
      unfold lp_X4_standAs_2_b
      have t1 := eq_true (o1 h)
      have t24 := eq_true (o24 h)
      have le := eq_false (show ¬ (6 : Int32) ≤ nI i by rw [le6 (by omega)]; omega)
      simp only [le, if_false, chk_p, bc_p, lt_p, t1, t24, lowOf_ok h (show i < 6 by omega), highOf_ok h (show i < 6 by omega), stand_ok h (show i < 6 by omega), nI_s, e1]
    · intro s hs
      obtain ⟨a, b⟩ := e3 s (by omega)
      rw [a, b]
      simp only [hA_sA, show ¬ s = i by omega, and_false, if_false, and_self]
    · intro s h1 h2
      by_cases e : s = i
      · subst e
        obtain ⟨a, b⟩ := e3 s (by omega)
        rw [a, b]
        simp only [hA_sA, and_self, if_true, show ¬ (25 = 26) by decide, false_and, if_false]
      · obtain ⟨a, b⟩ := e4 s (by omega) h2
        rw [a, b]
        simp only [hA_sA, show ¬ (2 = 26) by decide, show ¬ (2 = 25) by decide, show ¬ (3 = 26) by decide, show ¬ (3 = 25) by decide, false_and, if_false, and_self]
theorem standAs_ok {σ : HS} (h : Typ σ) : ∃ σ', f_X4_standAs 24 1 σ = some ((), σ') ∧ Fr [25, 26] σ σ' ∧ ∀ s, s < 6 → hA σ' 25 s = hA σ 2 s - hA σ 3 s ∧ hA σ' 26 s = hA σ 2 s + hA σ 3 s := by
  obtain ⟨σ', e1, e2, e3, e4⟩ := standAs_lp 6 0 σ h (by omega) 1000 (by omega)
  exact ⟨σ', e1, e2, fun s hs => e4 s (by omega) hs⟩
/-- what the sources hold -/
def Vals (σ : HS) : Prop := ∀ s, s < 6 → -99 ≤ (hA σ 2 s).toInt ∧ (hA σ 2 s).toInt ≤ 99 ∧ 0 ≤ (hA σ 3 s).toInt ∧ (hA σ 3 s).toInt ≤ 20 ∧ 0 ≤ (hA σ 4 s).toInt ∧ (hA σ 4 s).toInt ≤ 99
def bL (σ : HS) (s : Nat) : Int := if s < 6 then (hA σ 2 s).toInt - (hA σ 3 s).toInt else 0
def bH (σ : HS) (s : Nat) : Int := if s < 6 then (hA σ 2 s).toInt + (hA σ 3 s).toInt else 0
theorem i_sub {a b : Int32} (h1 : -1000000 ≤ a.toInt) (h2 : a.toInt ≤ 1000000) (h3 : -1000000 ≤ b.toInt) (h4 : b.toInt ≤ 1000000) : (a - b).toInt = a.toInt - b.toInt := by
  rw [Int32.toInt_sub, Int.bmod_eq_of_le_mul_two (by omega) (by omega)]
theorem i_add {a b : Int32} (h1 : -1000000 ≤ a.toInt) (h2 : a.toInt ≤ 1000000) (h3 : -1000000 ≤ b.toInt) (h4 : b.toInt ≤ 1000000) : (a + b).toInt = a.toInt + b.toInt := by
  rw [Int32.toInt_add, Int.bmod_eq_of_le_mul_two (by omega) (by omega)]
theorem bLH {σ : HS} (hv : Vals σ) (s : Nat) : bL σ s ≤ bH σ s := by
  unfold bL bH
  by_cases h : s < 6
  · rw [if_pos h, if_pos h]; have := hv s h; omega
  · rw [if_neg h, if_neg h]; exact Int.le_refl _
theorem Bx_now {σ σ' : HS} (hv : Vals σ) (e : ∀ s, s < 6 → hA σ' 25 s = hA σ 2 s - hA σ 3 s ∧ hA σ' 26 s = hA σ 2 s + hA σ 3 s) : Bx σ' (bL σ) (bH σ) := ⟨bLH hv, fun s hs => by
  obtain ⟨a, b⟩ := e s hs
  obtain ⟨v1, v2, v3, v4, -, -⟩ := hv s hs
  rw [a, b, i_sub (by omega) (by omega) (by omega) (by omega), i_add (by omega) (by omega) (by omega) (by omega)]
  unfold bL bH
  rw [if_pos hs, if_pos hs]
  exact ⟨rfl, rfl⟩⟩
theorem cai_ok {φ : Nat} {Φ : FM} (hw : WF Φ) {σ : HS} (h : Typ σ) (hx : XF σ φ Φ) (hv : Vals σ) :
    ∃ σ', f_X5_carryAsItIs 0 φ σ = some ((), σ') ∧ Fr [24, 25, 26, 29, 30, 31] σ σ' ∧ (∀ j, j < mN Φ → Rep σ' 28 j (SP Φ (bL σ) (bH σ) j)) ∧ Th σ' (SP Φ (bL σ) (bH σ) (mN Φ - 1)) ∧ Bx σ' (bL σ) (bH σ) := by
  obtain ⟨σ1, e1, f1, b1⟩ := standAs_ok h
  have hb := Bx_now hv b1
  obtain ⟨σ2, e2, f2, r2, t2⟩ := carry_ok hw (f1.typ h) (hx.fr f1 (by decide)) hb
  refine ⟨σ2, ?_, (f1.mono (by simp)).seq (f2.mono (by simp)), r2, t2, hb.fr f2 (by decide) (by decide)⟩
  unfold f_X5_carryAsItIs
  have h1 := f1.typ h
  have p0 := eq_true (o0 h)
  have p1 := eq_true (o1 h)
  have p24 := eq_true (o24 h)
  have s0 := eq_true (o0 h1)
  have s24 := eq_true (o24 h1)
  simp only [chk_p, bd_p, bc_p, lt_p, p0, p1, p24, s0, s24, r0_4 h, r0_0 h, r0_4 h1, r0_0 h1, e1, e2]
end
section
/-! the layout, as rows to rewrite with -/
theorem O0 {σ : HS} (h : Typ σ) : isO σ 5 0 = True := eq_true (o0 h)
theorem O1 {σ : HS} (h : Typ σ) : isO σ 2 1 = True := eq_true (o1 h)
theorem O2 {σ : HS} (h : Typ σ) : isO σ 10 2 = True := eq_true (o2 h)
theorem O3 {σ : HS} (h : Typ σ) : isO σ 10 3 = True := eq_true (o3 h)
theorem O4 {σ : HS} (h : Typ σ) : isO σ 10 4 = True := eq_true (o4 h)
theorem O5 {σ : HS} (h : Typ σ) : isO σ 13 5 = True := eq_true (o5 h)
theorem O6 {σ : HS} (h : Typ σ) : isO σ 10 6 = True := eq_true (o6 h)
theorem O7 {σ : HS} (h : Typ σ) : isO σ 10 7 = True := eq_true (o7 h)
theorem O8 {σ : HS} (h : Typ σ) : isO σ 10 8 = True := eq_true (o8 h)
theorem O9 {σ : HS} (h : Typ σ) : isO σ 2 9 = True := eq_true (o9 h)
theorem O10 {σ : HS} (h : Typ σ) : isO σ 10 10 = True := eq_true (o10 h)
theorem O11 {σ : HS} (h : Typ σ) : isO σ 10 11 = True := eq_true (o11 h)
theorem O12 {σ : HS} (h : Typ σ) : isO σ 10 12 = True := eq_true (o12 h)
theorem O13 {σ : HS} (h : Typ σ) : isO σ 13 13 = True := eq_true (o13 h)
theorem O14 {σ : HS} (h : Typ σ) : isO σ 10 14 = True := eq_true (o14 h)
theorem O15 {σ : HS} (h : Typ σ) : isO σ 10 15 = True := eq_true (o15 h)
theorem O16 {σ : HS} (h : Typ σ) : isO σ 10 16 = True := eq_true (o16 h)
theorem O17 {σ : HS} (h : Typ σ) : isO σ 3 17 = True := eq_true (o17 h)
theorem O18 {σ : HS} (h : Typ σ) : isO σ 10 18 = True := eq_true (o18 h)
theorem O19 {σ : HS} (h : Typ σ) : isO σ 10 19 = True := eq_true (o19 h)
theorem O20 {σ : HS} (h : Typ σ) : isO σ 10 20 = True := eq_true (o20 h)
theorem O21 {σ : HS} (h : Typ σ) : isO σ 10 21 = True := eq_true (o21 h)
theorem O22 {σ : HS} (h : Typ σ) : isO σ 10 22 = True := eq_true (o22 h)
theorem O23 {σ : HS} (h : Typ σ) : isO σ 10 23 = True := eq_true (o23 h)
theorem O24 {σ : HS} (h : Typ σ) : isO σ 4 24 = True := eq_true (o24 h)
theorem O25 {σ : HS} (h : Typ σ) : isO σ 10 25 = True := eq_true (o25 h)
theorem O26 {σ : HS} (h : Typ σ) : isO σ 10 26 = True := eq_true (o26 h)
theorem O27 {σ : HS} (h : Typ σ) : isO σ 10 27 = True := eq_true (o27 h)
theorem O28 {σ : HS} (h : Typ σ) : isO σ 1 28 = True := eq_true (o28 h)
theorem O29 {σ : HS} (h : Typ σ) : isO σ 12 29 = True := eq_true (o29 h)
theorem O30 {σ : HS} (h : Typ σ) : isO σ 12 30 = True := eq_true (o30 h)
theorem O31 {σ : HS} (h : Typ σ) : isO σ 11 31 = True := eq_true (o31 h)
theorem O32 {σ : HS} (h : Typ σ) : isO σ 1 32 = True := eq_true (o32 h)
theorem O33 {σ : HS} (h : Typ σ) : isO σ 12 33 = True := eq_true (o33 h)
theorem O34 {σ : HS} (h : Typ σ) : isO σ 12 34 = True := eq_true (o34 h)
theorem O35 {σ : HS} (h : Typ σ) : isO σ 11 35 = True := eq_true (o35 h)
theorem O36 {σ : HS} (h : Typ σ) : isO σ 1 36 = True := eq_true (o36 h)
theorem O37 {σ : HS} (h : Typ σ) : isO σ 12 37 = True := eq_true (o37 h)
theorem O38 {σ : HS} (h : Typ σ) : isO σ 12 38 = True := eq_true (o38 h)
theorem O39 {σ : HS} (h : Typ σ) : isO σ 11 39 = True := eq_true (o39 h)
theorem O40 {σ : HS} (h : Typ σ) : isO σ 12 40 = True := eq_true (o40 h)
theorem O41 {σ : HS} (h : Typ σ) : isO σ 14 41 = True := eq_true (o41 h)
theorem O42 {σ : HS} (h : Typ σ) : isO σ 12 42 = True := eq_true (o42 h)
theorem O43 {σ : HS} (h : Typ σ) : isO σ 12 43 = True := eq_true (o43 h)
theorem O44 {σ : HS} (h : Typ σ) : isO σ 12 44 = True := eq_true (o44 h)
theorem O45 {σ : HS} (h : Typ σ) : isO σ 12 45 = True := eq_true (o45 h)
theorem O46 {σ : HS} (h : Typ σ) : isO σ 10 46 = True := eq_true (o46 h)
theorem O47 {σ : HS} (h : Typ σ) : isO σ 10 47 = True := eq_true (o47 h)
theorem O48 {σ : HS} (h : Typ σ) : isO σ 6 48 = True := eq_true (o48 h)
theorem O49 {σ : HS} (h : Typ σ) : isO σ 10 49 = True := eq_true (o49 h)
theorem O50 {σ : HS} (h : Typ σ) : isO σ 10 50 = True := eq_true (o50 h)
theorem O51 {σ : HS} (h : Typ σ) : isO σ 10 51 = True := eq_true (o51 h)
theorem O52 {σ : HS} (h : Typ σ) : isO σ 10 52 = True := eq_true (o52 h)
theorem O53 {σ : HS} (h : Typ σ) : isO σ 10 53 = True := eq_true (o53 h)
theorem O54 {σ : HS} (h : Typ σ) : isO σ 10 54 = True := eq_true (o54 h)
theorem O55 {σ : HS} (h : Typ σ) : isO σ 10 55 = True := eq_true (o55 h)
theorem O56 {σ : HS} (h : Typ σ) : isO σ 10 56 = True := eq_true (o56 h)
theorem O57 {σ : HS} (h : Typ σ) : isO σ 10 57 = True := eq_true (o57 h)
theorem O58 {σ : HS} (h : Typ σ) : isO σ 10 58 = True := eq_true (o58 h)
theorem O59 {σ : HS} (h : Typ σ) : isO σ 10 59 = True := eq_true (o59 h)
theorem O60 {σ : HS} (h : Typ σ) : isO σ 10 60 = True := eq_true (o60 h)
theorem O61 {σ : HS} (h : Typ σ) : isO σ 10 61 = True := eq_true (o61 h)
theorem O62 {σ : HS} (h : Typ σ) : isO σ 10 62 = True := eq_true (o62 h)
theorem O63 {σ : HS} (h : Typ σ) : isO σ 10 63 = True := eq_true (o63 h)
theorem O64 {σ : HS} (h : Typ σ) : isO σ 12 64 = True := eq_true (o64 h)
theorem O65 {σ : HS} (h : Typ σ) : isO σ 12 65 = True := eq_true (o65 h)
theorem O66 {σ : HS} (h : Typ σ) : isO σ 11 66 = True := eq_true (o66 h)
theorem O67 {σ : HS} (h : Typ σ) : isO σ 10 67 = True := eq_true (o67 h)
theorem O68 {σ : HS} (h : Typ σ) : isO σ 12 68 = True := eq_true (o68 h)
theorem O69 {σ : HS} (h : Typ σ) : isO σ 12 69 = True := eq_true (o69 h)
theorem O70 {σ : HS} (h : Typ σ) : isO σ 10 70 = True := eq_true (o70 h)
theorem O71 {σ : HS} (h : Typ σ) : isO σ 10 71 = True := eq_true (o71 h)
theorem O72 {σ : HS} (h : Typ σ) : isO σ 10 72 = True := eq_true (o72 h)
theorem O73 {σ : HS} (h : Typ σ) : isO σ 10 73 = True := eq_true (o73 h)
theorem O74 {σ : HS} (h : Typ σ) : isO σ 10 74 = True := eq_true (o74 h)
theorem O75 {σ : HS} (h : Typ σ) : isO σ 12 75 = True := eq_true (o75 h)
theorem Typ_sA' (σ : HS) (j k : Nat) (v : Int32) : Typ (sA σ j k v) = Typ σ := rfl
theorem Typ_sB' (σ : HS) (j k : Nat) (v : Int64) : Typ (sB σ j k v) = Typ σ := rfl
theorem Typ_rA' (σ : HS) (j : Nat) (g : Nat → Int32) : Typ (rA σ j g) = Typ σ := rfl
theorem isO_rA' (σ : HS) (j : Nat) (g : Nat → Int32) (t a : Nat) : isO (rA σ j g) t a = isO σ t a := rfl
theorem up2_up2 {α : Type} (f : Nat → Nat → α) (j k : Nat) (v w : α) : up2 (up2 f j k v) j k w = up2 f j k w := by
  funext a b; unfold up2; by_cases h : a = j ∧ b = k
  · rw [if_pos h, if_pos h]
  · rw [if_neg h, if_neg h, if_neg h]
theorem sA_sA (σ : HS) (j k : Nat) (v w : Int32) : sA (sA σ j k v) j k w = sA σ j k w := by unfold sA; dsimp only; rw [up2_up2]
theorem inbE {i n : Nat} (h : i < n) (hn : i < 1000) : inb (nI i) n = True := eq_true (inb1000 h hn)
theorem beq0 : ((0 : Int32) = 1) = False := eq_false (by decide)
theorem beq1 : ((1 : Int32) = 0) = False := eq_false (by decide)
/-- a row of the reference's object kept, but for what it scribbles -/
def Mf (S : List Nat) (σ σ' : HS) : Prop := Fr (48 :: S) σ σ' ∧ (∀ k, (k < 17 ∨ 20 < k) → hA σ' 48 k = hA σ 48 k) ∧ ∀ k, 28 ≤ k → hB σ' 48 k = hB σ 48 k
theorem Mf.rf {S : List Nat} {σ : HS} : Mf S σ σ := ⟨Fr.rf, fun _ _ => rfl, fun _ _ => rfl⟩
theorem Mf.seq {S : List Nat} {σ σ' σ'' : HS} (h : Mf S σ σ') (h2 : Mf S σ' σ'') : Mf S σ σ'' := ⟨h.1.seq h2.1, fun k hk => (h2.2.1 k hk).trans (h.2.1 k hk), fun k hk => (h2.2.2 k hk).trans (h.2.2 k hk)⟩
theorem Mf.mono {S T : List Nat} {σ σ' : HS} (h : Mf S σ σ') (hs : ∀ j, j ∈ S → j ∈ T) : Mf T σ σ' := ⟨h.1.mono (fun j hj => by
  rcases List.mem_cons.mp hj with z | z
  · rw [z]; exact List.mem_cons_self
  · exact List.mem_cons_of_mem _ (hs j z)), h.2⟩
theorem Mf.typ {S : List Nat} {σ σ' : HS} (h : Mf S σ σ') (ht : Typ σ) : Typ σ' := h.1.typ ht
theorem Mf_sA {S : List Nat} {σ : HS} {j k : Nat} {v : Int32} (h : j ∈ S) (h2 : j ≠ 48) : Mf S σ (sA σ j k v) := ⟨Fr_sA (List.mem_cons_of_mem _ h), fun i _ => by rw [hA_sA, if_neg (fun z => h2 z.1.symm)], fun i _ => rfl⟩
theorem Mf_sB {S : List Nat} {σ : HS} {j k : Nat} {v : Int64} (h : j ∈ S) (h2 : j ≠ 48) : Mf S σ (sB σ j k v) := ⟨Fr_sB (List.mem_cons_of_mem _ h), fun i _ => rfl, fun i _ => by rw [hB_sB, if_neg (fun z => h2 z.1.symm)]⟩
theorem Mf_s {S : List Nat} {σ : HS} {k : Nat} {v : Int32} (h : 17 ≤ k) (h2 : k ≤ 20) : Mf S σ (sA σ 48 k v) := ⟨Fr_sA List.mem_cons_self, fun i hi => by rw [hA_sA, if_neg (by omega)], fun i _ => rfl⟩
theorem Mf_l {S : List Nat} {σ : HS} {k : Nat} {v : Int64} (h : k < 28) : Mf S σ (sB σ 48 k v) := ⟨Fr_sB List.mem_cons_self, fun i hi => rfl, fun i hi => by rw [hB_sB, if_neg (by omega)]⟩
theorem Mf.A {S : List Nat} {σ σ' : HS} (h : Mf S σ σ') {j : Nat} (hj : j ∉ 48 :: S) (k : Nat) : hA σ' j k = hA σ j k := h.1.A hj k
theorem Mf.B {S : List Nat} {σ σ' : HS} (h : Mf S σ σ') {j : Nat} (hj : j ∉ 48 :: S) (k : Nat) : hB σ' j k = hB σ j k := h.1.B hj k
end
section
/-! the reference's longs: sum, less, product, with the flag for what is too great -/
theorem or0 (v : Int32) : v ||| (0 : Int32) = v := Int32.or_zero
theorem or1 {v : Int32} (h : bit v) : v ||| (1 : Int32) = 1 := by rcases h with z | z <;> rw [z] <;> decide
theorem bitE {v : Int32} (h : bit v) : bit v = True := eq_true h
theorem bit0 : bit (0 : Int32) = True := eq_true (Or.inl rfl)
theorem bit1 : bit (1 : Int32) = True := eq_true (Or.inr rfl)
def fl (c : Prop) [Decidable c] (v : Int32) : Int32 := if c then v else 1
theorem fl_bit {c : Prop} [Decidable c] {v : Int32} (h : bit v) : bit (fl c v) := by
  unfold fl; by_cases hc : c
  · rw [if_pos hc]; exact h
  · rw [if_neg hc]; exact Or.inr rfl
theorem fl_0 {c : Prop} [Decidable c] {v : Int32} : fl c v = 0 ↔ c ∧ v = 0 := by
  unfold fl; by_cases hc : c
  · rw [if_pos hc]; exact ⟨fun h => ⟨hc, h⟩, fun h => h.2⟩
  · rw [if_neg hc]; exact ⟨fun h => absurd h (by decide), fun h => absurd h.1 hc⟩
theorem z_lt0 (x : Int64) : (lg_cmp x 0 < 0) = (x.toInt < 0) := propext (zc_lt x 0)
theorem z_ge0 (x : Int64) : (0 ≤ lg_cmp x 0) = (¬ x.toInt < 0) := propext ((zc_ge x 0).trans Int.not_lt.symm)
theorem z_eq (x y : Int64) : (lg_cmp x y = 0) = (x = y) := propext (zc_eq x y)
theorem m_sum {σ : HS} (h : Typ σ) (hb : bit (hA σ 48 20)) (a b : Int64) : f_X6_sum 48 a b σ = some (a + b, sA σ 48 20 (fl (inR (a.toInt + b.toInt)) (hA σ 48 20))) := by
  have ra := tR a
  have rb := tR b
  obtain ⟨k, e1, e2⟩ := bmE (a.toInt + b.toInt)
  rw [← Int64.toInt_add] at e1 e2
  unfold f_X6_sum fl
  by_cases p : a.toInt < 0 <;> by_cases q : b.toInt < 0 <;> by_cases r : (a + b).toInt < 0
  all_goals
    simp only [chk_p, lt_p, bd_p, bc_p, oc_n, oc_s, and_self, and_true, true_and, if_true, if_false, isO_sA', isO_sB', isO_rA', hlen_sA, hlen_sB, hlen_rA, hR_sA, hR_sB, hR_rA, Typ_sA', Typ_sB', Typ_rA', O48, h, or0, or1 hb, bitE hb, bit1, z_lt0, z_ge0, p, q, r, not_true, not_false_iff, if_false]
    first
    | rw [if_pos (by omega)]
    | rw [if_neg (by omega)]
theorem m_less {σ : HS} (h : Typ σ) (hb : bit (hA σ 48 20)) (a b : Int64) : f_X6_less 48 a b σ = some (a - b, sA σ 48 20 (fl (inR (a.toInt - b.toInt)) (hA σ 48 20))) := by
  have ra := tR a
  have rb := tR b
  obtain ⟨k, e1, e2⟩ := bmE (a.toInt - b.toInt)
  rw [← Int64.toInt_sub] at e1 e2
  unfold f_X6_less fl
  by_cases p : a.toInt < 0 <;> by_cases q : b.toInt < 0 <;> by_cases r : (a - b).toInt < 0
  all_goals
    simp only [chk_p, lt_p, bd_p, bc_p, oc_n, oc_s, and_self, and_true, true_and, if_true, if_false, isO_sA', isO_sB', isO_rA', hlen_sA, hlen_sB, hlen_rA, hR_sA, hR_sB, hR_rA, Typ_sA', Typ_sB', Typ_rA', O48, h, or0, or1 hb, bitE hb, bit1, z_lt0, z_ge0, p, q, r, not_true, not_false_iff, if_false]
    first
    | rw [if_pos (by omega)]
    | rw [if_neg (by omega)]
theorem div_neg1 (b : Int64) : (-1 * b) / (-1 : Int64) = b := by
  apply Int64.toInt_inj.mp
  have hb := tR b
  have e : ((-1 : Int64)).toInt = -1 := rfl
  rw [Int64.toInt_div, Int64.toInt_mul, e]
  by_cases h : b.toInt = -9223372036854775808
  · rw [h]; decide
  · rw [bm (x := -1 * b.toInt) (by omega)]
    have : (-1 * b.toInt).tdiv (-1) = b.toInt := by
      rw [show -1 * b.toInt = -b.toInt by omega, Int.tdiv_neg, Int.tdiv_one]; omega
    rw [this, bm hb]
theorem m_product {σ : HS} (h : Typ σ) (hb : bit (hA σ 48 20)) (a b : Int64) : f_X6_product 48 a b σ = some (a * b, sA σ 48 20 (fl (inR (a.toInt * b.toInt)) (hA σ 48 20))) := by
  have rb := tR b
  unfold f_X6_product fl
  by_cases p : a = 0
  · simp only [chk_p, lt_p, bd_p, bc_p, oc_n, oc_s, and_self, and_true, true_and, if_true, if_false, isO_sA', isO_sB', isO_rA', hlen_sA, hlen_sB, hlen_rA, hR_sA, hR_sB, hR_rA, Typ_sA', Typ_sB', Typ_rA', O48, h, or0, bitE hb, z_eq, p]
    rw [if_pos (by rw [show (0 : Int64).toInt = 0 from rfl]; omega)]
  by_cases q : a = -1
  · have e : (-1 * b / (-1) = b) = True := eq_true (div_neg1 b)
    have e2 : ((-1 : Int64) = 0) = False := eq_false (by decide)
    have e3 : ((-1 : Int64).toInt * b.toInt) = -b.toInt := mul_neg1 rfl
    by_cases r : b = -9223372036854775808
    · simp only [chk_p, lt_p, bd_p, bc_p, oc_n, oc_s, and_self, and_true, true_and, if_true, if_false, isO_sA', isO_sB', isO_rA', hlen_sA, hlen_sB, hlen_rA, hR_sA, hR_sB, hR_rA, Typ_sA', Typ_sB', Typ_rA', O48, h, or0, or1 hb, bitE hb, bit1, z_eq, q, e, e2, e3, not_false_iff, if_false, r, eq_true (show ((-1 : Int64) * (-9223372036854775808) / (-1) = -9223372036854775808) by decide)]
      rw [if_neg (by subst q; subst r; decide)]
    · have : b.toInt ≠ -9223372036854775808 := fun z => r (Int64.toInt_inj.mp z)
      simp only [chk_p, lt_p, bd_p, bc_p, oc_n, oc_s, and_self, and_true, true_and, if_true, if_false, isO_sA', isO_sB', isO_rA', hlen_sA, hlen_sB, hlen_rA, hR_sA, hR_sB, hR_rA, Typ_sA', Typ_sB', Typ_rA', O48, h, or0, or1 hb, bitE hb, bit1, z_eq, q, e, e2, e3, not_false_iff, if_false, r]
      rw [if_pos (by omega)]
  have mf := mul_fit (b := b) p q
  by_cases r : a * b / a = b
  · simp only [chk_p, lt_p, bd_p, bc_p, oc_n, oc_s, and_self, and_true, true_and, if_true, if_false, isO_sA', isO_sB', isO_rA', hlen_sA, hlen_sB, hlen_rA, hR_sA, hR_sB, hR_rA, Typ_sA', Typ_sB', Typ_rA', O48, h, or0, or1 hb, bitE hb, bit1, z_eq, p, q, r, not_false_iff, if_false]
    rw [if_pos (mf.mp r)]
  · simp only [chk_p, lt_p, bd_p, bc_p, oc_n, oc_s, and_self, and_true, true_and, if_true, if_false, isO_sA', isO_sB', isO_rA', hlen_sA, hlen_sB, hlen_rA, hR_sA, hR_sB, hR_rA, Typ_sA', Typ_sB', Typ_rA', O48, h, or0, or1 hb, bitE hb, bit1, z_eq, p, q, r, not_false_iff, if_false]
    rw [if_neg (fun z => r (mf.mpr z))]
def gMin (a b c d : Int64) : Int64 := lmn (lmn (a * c) (a * d)) (lmn (b * c) (b * d))
def gMax (a b c d : Int64) : Int64 := lmx (lmx (a * c) (a * d)) (lmx (b * c) (b * d))
abbrev fit4 (a b c d : Int64) : Prop := ((inR (a.toInt * c.toInt) ∧ inR (a.toInt * d.toInt)) ∧ inR (b.toInt * c.toInt)) ∧ inR (b.toInt * d.toInt)
theorem fl_fl {c d : Prop} [Decidable c] [Decidable d] (v : Int32) : fl c (fl d v) = fl (d ∧ c) v := by
  unfold fl; by_cases h1 : c <;> by_cases h2 : d <;> simp [h1, h2]
theorem m_products {σ : HS} (h : Typ σ) (hb : bit (hA σ 48 20)) (a b c d : Int64) : f_X6_products_ 48 a b c d σ = some ((), sB (sB (sA σ 48 20 (fl (fit4 a b c d) (hA σ 48 20))) 48 26 (gMin a b c d)) 48 27 (gMax a b c d)) := by
  have e1 := m_product h hb a c
  have e2 := m_product (σ := sA σ 48 20 (fl (inR (a.toInt * c.toInt)) (hA σ 48 20))) h (by rw [hA_sA, if_pos ⟨rfl, rfl⟩]; exact fl_bit hb) a d
  rw [hA_sA, if_pos ⟨rfl, rfl⟩, sA_sA, fl_fl] at e2
  have e3 := m_product (σ := sA σ 48 20 (fl (inR (a.toInt * c.toInt) ∧ inR (a.toInt * d.toInt)) (hA σ 48 20))) h (by rw [hA_sA, if_pos ⟨rfl, rfl⟩]; exact fl_bit hb) b c
  rw [hA_sA, if_pos ⟨rfl, rfl⟩, sA_sA, fl_fl] at e3
  have e4 := m_product (σ := sA σ 48 20 (fl ((inR (a.toInt * c.toInt) ∧ inR (a.toInt * d.toInt)) ∧ inR (b.toInt * c.toInt)) (hA σ 48 20))) h (by rw [hA_sA, if_pos ⟨rfl, rfl⟩]; exact fl_bit hb) b d
  rw [hA_sA, if_pos ⟨rfl, rfl⟩, sA_sA, fl_fl] at e4
  unfold f_X6_products_
  simp only [chk_p, lt_p, bd_p, bc_p, oc_n, oc_s, and_self, and_true, true_and, if_true, if_false, isO_sA', isO_sB', isO_rA', hlen_sA, hlen_sB, hlen_rA, hR_sA, hR_sB, hR_rA, Typ_sA', Typ_sB', Typ_rA', O48, h, e1, e2, e3, e4]
  rfl
end
section
/-! the reference's joins and changes -/
theorem sA_sB_c (σ : HS) (j k a b : Nat) (v : Int64) (w : Int32) : sA (sB σ j k v) a b w = sB (sA σ a b w) j k v := rfl
theorem mj_2 {σ : HS} (h : Typ σ) (hb : bit (hA σ 48 20)) {i a : Nat} (vb : Int32) (hi : i < 60) (ha : a < i) : f_X6_joins 48 2 (nI i) (nI a) vb σ = some ((), sB (sB (sA σ 48 20 (fl (inR ((0 : Int64).toInt - (hB σ 65 a).toInt) ∧ inR ((0 : Int64).toInt - (hB σ 64 a).toInt)) (hA σ 48 20))) 64 i (0 - hB σ 65 a)) 65 i (0 - hB σ 64 a)) := by
  have e1 := m_less h hb 0 (hB σ 65 a)
  have e2 : f_X6_less 48 0 (hB σ 64 a) (sB (sA σ 48 20 (fl (inR ((0 : Int64).toInt - (hB σ 65 a).toInt)) (hA σ 48 20))) 64 i (0 - hB σ 65 a)) = some (_, sA (sB (sA σ 48 20 (fl (inR ((0 : Int64).toInt - (hB σ 65 a).toInt)) (hA σ 48 20))) 64 i (0 - hB σ 65 a)) 48 20 (fl _ (fl (inR ((0 : Int64).toInt - (hB σ 65 a).toInt)) (hA σ 48 20)))) := m_less (σ := sB (sA σ 48 20 (fl (inR ((0 : Int64).toInt - (hB σ 65 a).toInt)) (hA σ 48 20))) 64 i (0 - hB σ 65 a)) h (fl_bit hb) 0 (hB σ 64 a)
  have ie := inbE (i := i) (n := 60) hi (by omega)
  have ae := inbE (i := a) (n := 60) (by omega) (by omega)
  have ci := cl1000 (i := i) (by omega)
  have ca := cl1000 (i := a) (by omega)
  have ne := eq_false (show ¬ a = i by omega)
  unfold f_X6_joins
  simp only [chk_p, lt_p, bd_p, bc_p, oc_n, oc_s, and_self, and_true, true_and, if_true, if_false, isO_sA', isO_sB', isO_rA', hlen_sA, hlen_sB, hlen_rA, hR_sA, hR_sB, hR_rA, Typ_sA', Typ_sB', Typ_rA', O48, r48_0, r48_1, r48_2, r48_3, r48_4, r48_5, r48_6, r48_8, r48_9, r48_10, r48_11, r48_12, r48_15, r48_21, r48_22, r48_23, r48_24, r48_25, r48_28, r48_30, r48_31, r48_32, r48_35, r48_37, r48_39, r48_40, r48_41, O64, l64, O65, l65, h, e1, e2, ie, ae, ci, ca, hB_sB, hB_sA, ne, and_false, if_false]
  simp only [sA_sB_c, sA_sA, fl_fl]
theorem mj_3 {σ : HS} (h : Typ σ) (hb : bit (hA σ 48 20)) {i a b : Nat} (hi : i < 60) (ha : a < i) (hb' : b < i) : f_X6_joins 48 3 (nI i) (nI a) (nI b) σ = some ((), sB (sB (sA σ 48 20 (fl (inR ((hB σ 64 a).toInt + (hB σ 64 b).toInt) ∧ inR ((hB σ 65 a).toInt + (hB σ 65 b).toInt)) (hA σ 48 20))) 64 i (hB σ 64 a + hB σ 64 b)) 65 i (hB σ 65 a + hB σ 65 b)) := by
  have e1 := m_sum h hb (hB σ 64 a) (hB σ 64 b)
  have e2 : f_X6_sum 48 (hB σ 65 a) (hB σ 65 b) (sB (sA σ 48 20 (fl (inR ((hB σ 64 a).toInt + (hB σ 64 b).toInt)) (hA σ 48 20))) 64 i (hB σ 64 a + hB σ 64 b)) = some (_, sA (sB (sA σ 48 20 (fl (inR ((hB σ 64 a).toInt + (hB σ 64 b).toInt)) (hA σ 48 20))) 64 i (hB σ 64 a + hB σ 64 b)) 48 20 (fl _ (fl (inR ((hB σ 64 a).toInt + (hB σ 64 b).toInt)) (hA σ 48 20)))) := m_sum (σ := sB (sA σ 48 20 (fl (inR ((hB σ 64 a).toInt + (hB σ 64 b).toInt)) (hA σ 48 20))) 64 i (hB σ 64 a + hB σ 64 b)) h (fl_bit hb) (hB σ 65 a) (hB σ 65 b)
  have ie := inbE (i := i) (n := 60) hi (by omega)
  have ae := inbE (i := a) (n := 60) (by omega) (by omega)
  have be := inbE (i := b) (n := 60) (by omega) (by omega)
  have ci := cl1000 (i := i) (by omega)
  have ca := cl1000 (i := a) (by omega)
  have cb := cl1000 (i := b) (by omega)
  unfold f_X6_joins
  rw [if_neg (by decide), if_pos rfl]
  simp only [chk_p, lt_p, bd_p, bc_p, oc_n, oc_s, and_self, and_true, true_and, if_true, if_false, isO_sA', isO_sB', isO_rA', hlen_sA, hlen_sB, hlen_rA, hR_sA, hR_sB, hR_rA, Typ_sA', Typ_sB', Typ_rA', O48, r48_0, r48_1, r48_2, r48_3, r48_4, r48_5, r48_6, r48_8, r48_9, r48_10, r48_11, r48_12, r48_15, r48_21, r48_22, r48_23, r48_24, r48_25, r48_28, r48_30, r48_31, r48_32, r48_35, r48_37, r48_39, r48_40, r48_41, O64, l64, O65, l65, h, e1, e2, ie, ae, be, ci, ca, cb, hB_sB, hB_sA, show ¬ (65 = 64) by decide, false_and, if_false]
  simp only [sA_sB_c, sA_sA, fl_fl]
theorem mj_4 {σ : HS} (h : Typ σ) (hb : bit (hA σ 48 20)) {i a b : Nat} (hi : i < 60) (ha : a < i) (hb' : b < i) : f_X6_joins 48 4 (nI i) (nI a) (nI b) σ = some ((), sB (sB (sA σ 48 20 (fl (inR ((hB σ 64 a).toInt - (hB σ 65 b).toInt) ∧ inR ((hB σ 65 a).toInt - (hB σ 64 b).toInt)) (hA σ 48 20))) 64 i (hB σ 64 a - hB σ 65 b)) 65 i (hB σ 65 a - hB σ 64 b)) := by
  have e1 := m_less h hb (hB σ 64 a) (hB σ 65 b)
  have e2 : f_X6_less 48 (hB σ 65 a) (hB σ 64 b) (sB (sA σ 48 20 (fl (inR ((hB σ 64 a).toInt - (hB σ 65 b).toInt)) (hA σ 48 20))) 64 i (hB σ 64 a - hB σ 65 b)) = some (_, sA (sB (sA σ 48 20 (fl (inR ((hB σ 64 a).toInt - (hB σ 65 b).toInt)) (hA σ 48 20))) 64 i (hB σ 64 a - hB σ 65 b)) 48 20 (fl _ (fl (inR ((hB σ 64 a).toInt - (hB σ 65 b).toInt)) (hA σ 48 20)))) := m_less (σ := sB (sA σ 48 20 (fl (inR ((hB σ 64 a).toInt - (hB σ 65 b).toInt)) (hA σ 48 20))) 64 i (hB σ 64 a - hB σ 65 b)) h (fl_bit hb) (hB σ 65 a) (hB σ 64 b)
  have ie := inbE (i := i) (n := 60) hi (by omega)
  have ae := inbE (i := a) (n := 60) (by omega) (by omega)
  have be := inbE (i := b) (n := 60) (by omega) (by omega)
  have ci := cl1000 (i := i) (by omega)
  have ca := cl1000 (i := a) (by omega)
  have cb := cl1000 (i := b) (by omega)
  have ne := eq_false (show ¬ b = i by omega)
  unfold f_X6_joins
  rw [if_neg (by decide), if_neg (by decide), if_pos rfl]
  simp only [chk_p, lt_p, bd_p, bc_p, oc_n, oc_s, and_self, and_true, true_and, if_true, if_false, isO_sA', isO_sB', isO_rA', hlen_sA, hlen_sB, hlen_rA, hR_sA, hR_sB, hR_rA, Typ_sA', Typ_sB', Typ_rA', O48, r48_0, r48_1, r48_2, r48_3, r48_4, r48_5, r48_6, r48_8, r48_9, r48_10, r48_11, r48_12, r48_15, r48_21, r48_22, r48_23, r48_24, r48_25, r48_28, r48_30, r48_31, r48_32, r48_35, r48_37, r48_39, r48_40, r48_41, O64, l64, O65, l65, h, e1, e2, ie, ae, be, ci, ca, cb, hB_sB, hB_sA, show ¬ (65 = 64) by decide, ne, and_false, false_and, if_false]
  simp only [sA_sB_c, sA_sA, fl_fl]
theorem mc_2 {σ : HS} (h : Typ σ) (hb : bit (hA σ 48 20)) {i a : Nat} (vb : Int32) (hi : i < 60) (ha : a < i) : f_X6_changes 48 2 (nI i) (nI a) vb σ = some ((), sB (sB (sA σ 48 20 (fl (inR ((0 : Int64).toInt - (hB σ 69 a).toInt) ∧ inR ((0 : Int64).toInt - (hB σ 68 a).toInt)) (hA σ 48 20))) 68 i (0 - hB σ 69 a)) 69 i (0 - hB σ 68 a)) := by
  have e1 := m_less h hb 0 (hB σ 69 a)
  have e2 : f_X6_less 48 0 (hB σ 68 a) (sB (sA σ 48 20 (fl (inR ((0 : Int64).toInt - (hB σ 69 a).toInt)) (hA σ 48 20))) 68 i (0 - hB σ 69 a)) = some (_, sA (sB (sA σ 48 20 (fl (inR ((0 : Int64).toInt - (hB σ 69 a).toInt)) (hA σ 48 20))) 68 i (0 - hB σ 69 a)) 48 20 (fl _ (fl (inR ((0 : Int64).toInt - (hB σ 69 a).toInt)) (hA σ 48 20)))) := m_less (σ := sB (sA σ 48 20 (fl (inR ((0 : Int64).toInt - (hB σ 69 a).toInt)) (hA σ 48 20))) 68 i (0 - hB σ 69 a)) h (fl_bit hb) 0 (hB σ 68 a)
  have ie := inbE (i := i) (n := 60) hi (by omega)
  have ae := inbE (i := a) (n := 60) (by omega) (by omega)
  have ci := cl1000 (i := i) (by omega)
  have ca := cl1000 (i := a) (by omega)
  have ne := eq_false (show ¬ a = i by omega)
  unfold f_X6_changes
  simp only [chk_p, lt_p, bd_p, bc_p, oc_n, oc_s, and_self, and_true, true_and, if_true, if_false, isO_sA', isO_sB', isO_rA', hlen_sA, hlen_sB, hlen_rA, hR_sA, hR_sB, hR_rA, Typ_sA', Typ_sB', Typ_rA', O48, r48_0, r48_1, r48_2, r48_3, r48_4, r48_5, r48_6, r48_8, r48_9, r48_10, r48_11, r48_12, r48_15, r48_21, r48_22, r48_23, r48_24, r48_25, r48_28, r48_30, r48_31, r48_32, r48_35, r48_37, r48_39, r48_40, r48_41, O68, l68, O69, l69, h, e1, e2, ie, ae, ci, ca, hB_sB, hB_sA, ne, and_false, if_false]
  simp only [sA_sB_c, sA_sA, fl_fl]
theorem mc_3 {σ : HS} (h : Typ σ) (hb : bit (hA σ 48 20)) {i a b : Nat} (hi : i < 60) (ha : a < i) (hb' : b < i) : f_X6_changes 48 3 (nI i) (nI a) (nI b) σ = some ((), sB (sB (sA σ 48 20 (fl (inR ((hB σ 68 a).toInt + (hB σ 68 b).toInt) ∧ inR ((hB σ 69 a).toInt + (hB σ 69 b).toInt)) (hA σ 48 20))) 68 i (hB σ 68 a + hB σ 68 b)) 69 i (hB σ 69 a + hB σ 69 b)) := by
  have e1 := m_sum h hb (hB σ 68 a) (hB σ 68 b)
  have e2 : f_X6_sum 48 (hB σ 69 a) (hB σ 69 b) (sB (sA σ 48 20 (fl (inR ((hB σ 68 a).toInt + (hB σ 68 b).toInt)) (hA σ 48 20))) 68 i (hB σ 68 a + hB σ 68 b)) = some (_, sA (sB (sA σ 48 20 (fl (inR ((hB σ 68 a).toInt + (hB σ 68 b).toInt)) (hA σ 48 20))) 68 i (hB σ 68 a + hB σ 68 b)) 48 20 (fl _ (fl (inR ((hB σ 68 a).toInt + (hB σ 68 b).toInt)) (hA σ 48 20)))) := m_sum (σ := sB (sA σ 48 20 (fl (inR ((hB σ 68 a).toInt + (hB σ 68 b).toInt)) (hA σ 48 20))) 68 i (hB σ 68 a + hB σ 68 b)) h (fl_bit hb) (hB σ 69 a) (hB σ 69 b)
  have ie := inbE (i := i) (n := 60) hi (by omega)
  have ae := inbE (i := a) (n := 60) (by omega) (by omega)
  have be := inbE (i := b) (n := 60) (by omega) (by omega)
  have ci := cl1000 (i := i) (by omega)
  have ca := cl1000 (i := a) (by omega)
  have cb := cl1000 (i := b) (by omega)
  unfold f_X6_changes
  rw [if_neg (by decide), if_pos rfl]
  simp only [chk_p, lt_p, bd_p, bc_p, oc_n, oc_s, and_self, and_true, true_and, if_true, if_false, isO_sA', isO_sB', isO_rA', hlen_sA, hlen_sB, hlen_rA, hR_sA, hR_sB, hR_rA, Typ_sA', Typ_sB', Typ_rA', O48, r48_0, r48_1, r48_2, r48_3, r48_4, r48_5, r48_6, r48_8, r48_9, r48_10, r48_11, r48_12, r48_15, r48_21, r48_22, r48_23, r48_24, r48_25, r48_28, r48_30, r48_31, r48_32, r48_35, r48_37, r48_39, r48_40, r48_41, O68, l68, O69, l69, h, e1, e2, ie, ae, be, ci, ca, cb, hB_sB, hB_sA, show ¬ (69 = 68) by decide, false_and, if_false]
  simp only [sA_sB_c, sA_sA, fl_fl]
theorem mc_4 {σ : HS} (h : Typ σ) (hb : bit (hA σ 48 20)) {i a b : Nat} (hi : i < 60) (ha : a < i) (hb' : b < i) : f_X6_changes 48 4 (nI i) (nI a) (nI b) σ = some ((), sB (sB (sA σ 48 20 (fl (inR ((hB σ 68 a).toInt - (hB σ 69 b).toInt) ∧ inR ((hB σ 69 a).toInt - (hB σ 68 b).toInt)) (hA σ 48 20))) 68 i (hB σ 68 a - hB σ 69 b)) 69 i (hB σ 69 a - hB σ 68 b)) := by
  have e1 := m_less h hb (hB σ 68 a) (hB σ 69 b)
  have e2 : f_X6_less 48 (hB σ 69 a) (hB σ 68 b) (sB (sA σ 48 20 (fl (inR ((hB σ 68 a).toInt - (hB σ 69 b).toInt)) (hA σ 48 20))) 68 i (hB σ 68 a - hB σ 69 b)) = some (_, sA (sB (sA σ 48 20 (fl (inR ((hB σ 68 a).toInt - (hB σ 69 b).toInt)) (hA σ 48 20))) 68 i (hB σ 68 a - hB σ 69 b)) 48 20 (fl _ (fl (inR ((hB σ 68 a).toInt - (hB σ 69 b).toInt)) (hA σ 48 20)))) := m_less (σ := sB (sA σ 48 20 (fl (inR ((hB σ 68 a).toInt - (hB σ 69 b).toInt)) (hA σ 48 20))) 68 i (hB σ 68 a - hB σ 69 b)) h (fl_bit hb) (hB σ 69 a) (hB σ 68 b)
  have ie := inbE (i := i) (n := 60) hi (by omega)
  have ae := inbE (i := a) (n := 60) (by omega) (by omega)
  have be := inbE (i := b) (n := 60) (by omega) (by omega)
  have ci := cl1000 (i := i) (by omega)
  have ca := cl1000 (i := a) (by omega)
  have cb := cl1000 (i := b) (by omega)
  have ne := eq_false (show ¬ b = i by omega)
  unfold f_X6_changes
  rw [if_neg (by decide), if_neg (by decide), if_pos rfl]
  simp only [chk_p, lt_p, bd_p, bc_p, oc_n, oc_s, and_self, and_true, true_and, if_true, if_false, isO_sA', isO_sB', isO_rA', hlen_sA, hlen_sB, hlen_rA, hR_sA, hR_sB, hR_rA, Typ_sA', Typ_sB', Typ_rA', O48, r48_0, r48_1, r48_2, r48_3, r48_4, r48_5, r48_6, r48_8, r48_9, r48_10, r48_11, r48_12, r48_15, r48_21, r48_22, r48_23, r48_24, r48_25, r48_28, r48_30, r48_31, r48_32, r48_35, r48_37, r48_39, r48_40, r48_41, O68, l68, O69, l69, h, e1, e2, ie, ae, be, ci, ca, cb, hB_sB, hB_sA, show ¬ (69 = 68) by decide, ne, and_false, false_and, if_false]
  simp only [sA_sB_c, sA_sA, fl_fl]
theorem hA_f (σ : HS) (v : Int32) : hA (sA σ 48 20 v) 48 20 = v := by rw [hA_sA, if_pos ⟨rfl, rfl⟩]
theorem m_products' {σ : HS} (h : Typ σ) (hb : bit (hA σ 48 20)) (a b c d : Int64) : ∃ v l g, v = fl (fit4 a b c d) (hA σ 48 20) ∧ l = gMin a b c d ∧ g = gMax a b c d ∧ f_X6_products_ 48 a b c d σ = some ((), sB (sB (sA σ 48 20 v) 48 26 l) 48 27 g) := ⟨_, _, _, rfl, rfl, rfl, m_products h hb a b c d⟩
theorem m_sum' {σ : HS} (h : Typ σ) (hb : bit (hA σ 48 20)) (a b : Int64) : ∃ v, v = fl (inR (a.toInt + b.toInt)) (hA σ 48 20) ∧ f_X6_sum 48 a b σ = some (a + b, sA σ 48 20 v) := ⟨_, rfl, m_sum h hb a b⟩
theorem mj_5 {σ : HS} (h : Typ σ) (hb : bit (hA σ 48 20)) {i a b : Nat} (hi : i < 60) (ha : a < i) (hb' : b < i) : ∃ v l g, v = fl (fit4 (hB σ 64 a) (hB σ 65 a) (hB σ 64 b) (hB σ 65 b)) (hA σ 48 20) ∧ l = gMin (hB σ 64 a) (hB σ 65 a) (hB σ 64 b) (hB σ 65 b) ∧ g = gMax (hB σ 64 a) (hB σ 65 a) (hB σ 64 b) (hB σ 65 b) ∧ f_X6_joins 48 5 (nI i) (nI a) (nI b) σ = some ((), sB (sB (sB (sB (sA σ 48 20 v) 48 26 l) 48 27 g) 64 i l) 65 i g) := by
  obtain ⟨v, l, g, ev, el, eg, e1⟩ := m_products' h hb (hB σ 64 a) (hB σ 65 a) (hB σ 64 b) (hB σ 65 b)
  refine ⟨v, l, g, ev, el, eg, ?_⟩
  have ie := inbE (i := i) (n := 60) hi (by omega)
  have ae := inbE (i := a) (n := 60) (by omega) (by omega)
  have be := inbE (i := b) (n := 60) (by omega) (by omega)
  have ci := cl1000 (i := i) (by omega)
  have ca := cl1000 (i := a) (by omega)
  have cb := cl1000 (i := b) (by omega)
  unfold f_X6_joins
  rw [if_neg (by decide), if_neg (by decide), if_neg (by decide)]
  simp only [chk_p, lt_p, bd_p, bc_p, oc_n, oc_s, and_self, and_true, true_and, if_true, if_false, isO_sA', isO_sB', isO_rA', hlen_sA, hlen_sB, hlen_rA, hR_sA, hR_sB, hR_rA, Typ_sA', Typ_sB', Typ_rA', O48, r48_0, r48_1, r48_2, r48_3, r48_4, r48_5, r48_6, r48_8, r48_9, r48_10, r48_11, r48_12, r48_15, r48_21, r48_22, r48_23, r48_24, r48_25, r48_28, r48_30, r48_31, r48_32, r48_35, r48_37, r48_39, r48_40, r48_41, O64, l64, O65, l65, h, e1, ie, ae, be, ci, ca, cb, hB_sB, hB_sA, show ¬ (27 = 26) by decide, show ¬ (26 = 27) by decide, show ¬ (48 = 64) by decide, and_false, false_and, if_false]
theorem mc_5 {σ : HS} (h : Typ σ) (hb : bit (hA σ 48 20)) {i a b : Nat} (hi : i < 60) (ha : a < i) (hb' : b < i) :
    ∃ (v v1 v2 v3 : Int32) (l1 g1 l2 g2 : Int64), l1 = gMin (hB σ 68 a) (hB σ 69 a) (hB σ 64 b) (hB σ 65 b) ∧ g1 = gMax (hB σ 68 a) (hB σ 69 a) (hB σ 64 b) (hB σ 65 b) ∧ l2 = gMin (hB σ 64 a) (hB σ 65 a) (hB σ 68 b) (hB σ 69 b) ∧ g2 = gMax (hB σ 64 a) (hB σ 65 a) (hB σ 68 b) (hB σ 69 b) ∧
    v1 = fl (fit4 (hB σ 68 a) (hB σ 69 a) (hB σ 64 b) (hB σ 65 b)) (hA σ 48 20) ∧ v2 = fl (fit4 (hB σ 64 a) (hB σ 65 a) (hB σ 68 b) (hB σ 69 b)) v1 ∧ v3 = fl (inR (l1.toInt + l2.toInt)) v2 ∧ v = fl (inR (g1.toInt + g2.toInt)) v3 ∧
    f_X6_changes 48 5 (nI i) (nI a) (nI b) σ = some ((), sB (sB (sB (sB (sB (sB (sA σ 48 20 v) 48 26 l1) 48 27 g1) 48 26 l2) 48 27 g2) 68 i (l1 + l2)) 69 i (g1 + g2)) := by
  obtain ⟨v1, l1, g1, ev1, el1, eg1, e1⟩ := m_products' h hb (hB σ 68 a) (hB σ 69 a) (hB σ 64 b) (hB σ 65 b)
  have b1 : bit v1 := by rw [ev1]; exact fl_bit hb
  obtain ⟨v2, l2, g2, ev2, el2, eg2, e2⟩ := m_products' (σ := sB (sB (sA σ 48 20 v1) 48 26 l1) 48 27 g1) h (by rw [hA_sB, hA_sB, hA_f]; exact b1) (hB σ 64 a) (hB σ 65 a) (hB σ 68 b) (hB σ 69 b)
  rw [hA_sB, hA_sB, hA_f] at ev2
  rw [sA_sB_c, sA_sB_c, sA_sA] at e2
  have b2 : bit v2 := by rw [ev2]; exact fl_bit b1
  obtain ⟨v3, ev3, e3⟩ := m_sum' (σ := sB (sB (sB (sB (sA σ 48 20 v2) 48 26 l1) 48 27 g1) 48 26 l2) 48 27 g2) h (by rw [hA_sB, hA_sB, hA_sB, hA_sB, hA_f]; exact b2) l1 l2
  rw [hA_sB, hA_sB, hA_sB, hA_sB, hA_f] at ev3
  rw [sA_sB_c, sA_sB_c, sA_sB_c, sA_sB_c, sA_sA] at e3
  have b3 : bit v3 := by rw [ev3]; exact fl_bit b2
  obtain ⟨v, ev, e4⟩ := m_sum' (σ := sB (sB (sB (sB (sB (sA σ 48 20 v3) 48 26 l1) 48 27 g1) 48 26 l2) 48 27 g2) 68 i (l1 + l2)) h (by rw [hA_sB, hA_sB, hA_sB, hA_sB, hA_sB, hA_f]; exact b3) g1 g2
  rw [hA_sB, hA_sB, hA_sB, hA_sB, hA_sB, hA_f] at ev
  rw [sA_sB_c, sA_sB_c, sA_sB_c, sA_sB_c, sA_sB_c, sA_sA] at e4
  refine ⟨v, v1, v2, v3, l1, g1, l2, g2, el1, eg1, el2, eg2, ev1, ev2, ev3, ev, ?_⟩
  have ie := inbE (i := i) (n := 60) hi (by omega)
  have ae := inbE (i := a) (n := 60) (by omega) (by omega)
  have be := inbE (i := b) (n := 60) (by omega) (by omega)
  have ci := cl1000 (i := i) (by omega)
  have ca := cl1000 (i := a) (by omega)
  have cb := cl1000 (i := b) (by omega)
  unfold f_X6_changes
  rw [if_neg (by decide), if_neg (by decide), if_neg (by decide)]
  simp only [chk_p, lt_p, bd_p, bc_p, oc_n, oc_s, and_self, and_true, true_and, if_true, if_false, isO_sA', isO_sB', isO_rA', hlen_sA, hlen_sB, hlen_rA, hR_sA, hR_sB, hR_rA, Typ_sA', Typ_sB', Typ_rA', O48, r48_0, r48_1, r48_2, r48_3, r48_4, r48_5, r48_6, r48_8, r48_9, r48_10, r48_11, r48_12, r48_15, r48_21, r48_22, r48_23, r48_24, r48_25, r48_28, r48_30, r48_31, r48_32, r48_35, r48_37, r48_39, r48_40, r48_41, O64, l64, O65, l65, O68, l68, O69, l69, h, e1, e2, e3, e4, ie, ae, be, ci, ca, cb, hB_sB, hB_sA, show ¬ (27 = 26) by decide, show ¬ (26 = 27) by decide, show ¬ (48 = 64) by decide, show ¬ (64 = 48) by decide, show ¬ (65 = 48) by decide, show ¬ (68 = 48) by decide, show ¬ (69 = 48) by decide, show ¬ (48 = 68) by decide, and_false, false_and, if_false]
end
section
/-! the reference's spans -/
def VB (σ : HS) (P Q a : Nat) (p : Int × Int) : Prop := (hB σ P a).toInt = p.1 ∧ (hB σ Q a).toInt = p.2 ∧ p.1 ≤ p.2
def RJ (σ σ' : HS) (P Q i : Nat) (x : Option (Int × Int)) : Prop := match x with
  | none => hA σ' 48 20 = 1
  | some p => hA σ' 48 20 = hA σ 48 20 ∧ VB σ' P Q i p
theorem fl_t {c : Prop} [Decidable c] {v : Int32} (h : c) : fl c v = v := if_pos h
theorem fl_f {c : Prop} [Decidable c] {v : Int32} (h : ¬ c) : fl c v = 1 := if_neg h
theorem z64 : (0 : Int64).toInt = 0 := rfl
theorem gMM {a b c d : Int64} {p r : Int × Int} (h : fit4 a b c d) (h1 : a.toInt = p.1) (h2 : b.toInt = p.2) (h3 : c.toInt = r.1) (h4 : d.toInt = r.2) : (gMin a b c d).toInt = mn4 p.1 p.2 r.1 r.2 ∧ (gMax a b c d).toInt = mx4 p.1 p.2 r.1 r.2 := by
  obtain ⟨⟨⟨g1, g2⟩, g3⟩, g4⟩ := h
  unfold gMin gMax mn4 mx4
  rw [lmn_i, lmn_i, lmn_i, lmx_i, lmx_i, lmx_i, l_mul g1, l_mul g2, l_mul g3, l_mul g4, h1, h2, h3, h4]
  exact ⟨rfl, rfl⟩
/-- two places of longs written, the flag set to v -/
theorem jfin (P Q : Nat) (h48 : P ≠ 48) (h48' : Q ≠ 48) (hpq : P ≠ Q) (σ : HS) (i : Nat) (v : Int32) (lo hi : Int64) :
    Mf [P, Q] σ (sB (sB (sA σ 48 20 v) P i lo) Q i hi) ∧ hA (sB (sB (sA σ 48 20 v) P i lo) Q i hi) 48 20 = v ∧ (∀ j, j ≠ i → hB (sB (sB (sA σ 48 20 v) P i lo) Q i hi) P j = hB σ P j ∧ hB (sB (sB (sA σ 48 20 v) P i lo) Q i hi) Q j = hB σ Q j) ∧ hB (sB (sB (sA σ 48 20 v) P i lo) Q i hi) P i = lo ∧ hB (sB (sB (sA σ 48 20 v) P i lo) Q i hi) Q i = hi := by
  refine ⟨((Mf_s (by decide) (by decide)).seq (Mf_sB (by simp) h48)).seq (Mf_sB (by simp) h48'), ?_, fun j hj => ⟨?_, ?_⟩, ?_, ?_⟩
  · rw [hA_sB, hA_sB, hA_f]
  · simp only [hB_sB, hB_sA, hj, and_false, if_false]
  · simp only [hB_sB, hB_sA, hj, and_false, if_false]
  · simp only [hB_sB, hB_sA, hpq, and_self, false_and, if_false, if_true]
  · simp only [hB_sB, hB_sA, and_self, if_true]
theorem jfin2 (P Q : Nat) (h48 : P ≠ 48) (h48' : Q ≠ 48) (hpq : P ≠ Q) (σ : HS) (i : Nat) (v : Int32) (l g lo hi : Int64) :
    Mf [P, Q] σ (sB (sB (sB (sB (sA σ 48 20 v) 48 26 l) 48 27 g) P i lo) Q i hi) ∧ hA (sB (sB (sB (sB (sA σ 48 20 v) 48 26 l) 48 27 g) P i lo) Q i hi) 48 20 = v ∧ (∀ j, j ≠ i → hB (sB (sB (sB (sB (sA σ 48 20 v) 48 26 l) 48 27 g) P i lo) Q i hi) P j = hB σ P j ∧ hB (sB (sB (sB (sB (sA σ 48 20 v) 48 26 l) 48 27 g) P i lo) Q i hi) Q j = hB σ Q j) ∧ hB (sB (sB (sB (sB (sA σ 48 20 v) 48 26 l) 48 27 g) P i lo) Q i hi) P i = lo ∧ hB (sB (sB (sB (sB (sA σ 48 20 v) 48 26 l) 48 27 g) P i lo) Q i hi) Q i = hi := by
  refine ⟨((((Mf_s (by decide) (by decide)).seq (Mf_l (by decide))).seq (Mf_l (by decide))).seq (Mf_sB (by simp) h48)).seq (Mf_sB (by simp) h48'), ?_, fun j hj => ⟨?_, ?_⟩, ?_, ?_⟩
  · rw [hA_sB, hA_sB, hA_sB, hA_sB, hA_f]
  · simp only [hB_sB, hB_sA, hj, h48, and_false, false_and, if_false]
  · simp only [hB_sB, hB_sA, hj, h48', and_false, false_and, if_false]
  · simp only [hB_sB, hB_sA, hpq, and_self, false_and, if_false, if_true]
  · simp only [hB_sB, hB_sA, and_self, if_true]
theorem val_2 {lo hi : Int64} {p : Int × Int} (h1 : lo.toInt = p.1) (h2 : hi.toInt = p.2) (h3 : p.1 ≤ p.2) {σ σ' : HS} {P Q i : Nat} {v : Int32} (e1 : hA σ' 48 20 = fl (inR ((0 : Int64).toInt - hi.toInt) ∧ inR ((0 : Int64).toInt - lo.toInt)) v) (e2 : hB σ' P i = 0 - hi) (e3 : hB σ' Q i = 0 - lo) (ev : hA σ 48 20 = v) : RJ σ σ' P Q i (sp1 (some p)) := by
  show RJ σ σ' P Q i (rg (-p.2) (-p.1))
  rw [z64, h1, h2] at e1
  by_cases g : inR (0 - p.2) ∧ inR (0 - p.1)
  · rw [rg_of (by omega) (by omega)]
    rw [fl_t g] at e1
    refine ⟨by rw [e1, ev], ?_, ?_, by show -p.2 ≤ -p.1; omega⟩
    · rw [e2, l_sub (by rw [z64, h2]; exact g.1), z64, h2]; show 0 - p.2 = -p.2; omega
    · rw [e3, l_sub (by rw [z64, h1]; exact g.2), z64, h1]; show 0 - p.1 = -p.1; omega
  · rw [fl_f g] at e1
    rw [show rg (-p.2) (-p.1) = none from if_neg (fun z => g (by omega))]
    exact e1
theorem val_3 {al ah bl bh : Int64} {p r : Int × Int} (h1 : al.toInt = p.1) (h2 : ah.toInt = p.2) (h3 : p.1 ≤ p.2) (h1' : bl.toInt = r.1) (h2' : bh.toInt = r.2) (h3' : r.1 ≤ r.2) {σ σ' : HS} {P Q i : Nat} {v : Int32} (e1 : hA σ' 48 20 = fl (inR (al.toInt + bl.toInt) ∧ inR (ah.toInt + bh.toInt)) v) (e2 : hB σ' P i = al + bl) (e3 : hB σ' Q i = ah + bh) (ev : hA σ 48 20 = v) : RJ σ σ' P Q i (sp2 3 (some p) (some r)) := by
  show RJ σ σ' P Q i (rg (p.1 + r.1) (p.2 + r.2))
  rw [h1, h2, h1', h2'] at e1
  by_cases g : inR (p.1 + r.1) ∧ inR (p.2 + r.2)
  · rw [rg_of g.1 g.2]
    rw [fl_t g] at e1
    refine ⟨by rw [e1, ev], ?_, ?_, by show p.1 + r.1 ≤ p.2 + r.2; omega⟩
    · rw [e2, l_add (by rw [h1, h1']; exact g.1), h1, h1']
    · rw [e3, l_add (by rw [h2, h2']; exact g.2), h2, h2']
  · rw [fl_f g] at e1
    rw [show rg (p.1 + r.1) (p.2 + r.2) = none from if_neg g]
    exact e1
theorem val_4 {al ah bl bh : Int64} {p r : Int × Int} (h1 : al.toInt = p.1) (h2 : ah.toInt = p.2) (h3 : p.1 ≤ p.2) (h1' : bl.toInt = r.1) (h2' : bh.toInt = r.2) (h3' : r.1 ≤ r.2) {σ σ' : HS} {P Q i : Nat} {v : Int32} (e1 : hA σ' 48 20 = fl (inR (al.toInt - bh.toInt) ∧ inR (ah.toInt - bl.toInt)) v) (e2 : hB σ' P i = al - bh) (e3 : hB σ' Q i = ah - bl) (ev : hA σ 48 20 = v) : RJ σ σ' P Q i (sp2 4 (some p) (some r)) := by
  show RJ σ σ' P Q i (rg (p.1 - r.2) (p.2 - r.1))
  rw [h1, h2, h1', h2'] at e1
  by_cases g : inR (p.1 - r.2) ∧ inR (p.2 - r.1)
  · rw [rg_of g.1 g.2]
    rw [fl_t g] at e1
    refine ⟨by rw [e1, ev], ?_, ?_, by show p.1 - r.2 ≤ p.2 - r.1; omega⟩
    · rw [e2, l_sub (by rw [h1, h2']; exact g.1), h1, h2']
    · rw [e3, l_sub (by rw [h2, h1']; exact g.2), h2, h1']
  · rw [fl_f g] at e1
    rw [show rg (p.1 - r.2) (p.2 - r.1) = none from if_neg g]
    exact e1
theorem joins_ok {σ : HS} (h : Typ σ) (hb : bit (hA σ 48 20)) {k i a b : Nat} (hk : 2 ≤ k) (hk5 : k ≤ 5) (hi : i < 60) (ha : a < i) (hb' : 3 ≤ k → b < i) :
    ∃ σ', f_X6_joins 48 (nI k) (nI i) (nI a) (nI b) σ = some ((), σ') ∧ Mf [64, 65] σ σ' ∧ bit (hA σ' 48 20) ∧ (∀ j, j ≠ i → hB σ' 64 j = hB σ 64 j ∧ hB σ' 65 j = hB σ 65 j) ∧ ∀ p, VB σ 64 65 a p → ∀ r, (3 ≤ k → VB σ 64 65 b r) → RJ σ σ' 64 65 i (if k = 2 then sp1 (some p) else sp2 k (some p) (some r)) := by
  have hk' : k = 2 ∨ k = 3 ∨ k = 4 ∨ k = 5 := by omega
  rcases hk' with k2 | k2 | k2 | k2
  · subst k2
    obtain ⟨j1, j2, j3, j4, j5⟩ := jfin 64 65 (by decide) (by decide) (by decide) σ i (fl (inR ((0 : Int64).toInt - (hB σ 65 a).toInt) ∧ inR ((0 : Int64).toInt - (hB σ 64 a).toInt)) (hA σ 48 20)) (0 - hB σ 65 a) (0 - hB σ 64 a)
    refine ⟨_, mj_2 h hb (nI b) hi ha, j1, by rw [j2]; exact fl_bit hb, j3, fun p hp r hr => ?_⟩
    rw [if_pos rfl]
    exact val_2 hp.1 hp.2.1 hp.2.2 j2 j4 j5 rfl
  · subst k2
    obtain ⟨j1, j2, j3, j4, j5⟩ := jfin 64 65 (by decide) (by decide) (by decide) σ i (fl (inR ((hB σ 64 a).toInt + (hB σ 64 b).toInt) ∧ inR ((hB σ 65 a).toInt + (hB σ 65 b).toInt)) (hA σ 48 20)) (hB σ 64 a + hB σ 64 b) (hB σ 65 a + hB σ 65 b)
    refine ⟨_, mj_3 h hb hi ha (hb' (by omega)), j1, by rw [j2]; exact fl_bit hb, j3, fun p hp r hr => ?_⟩
    rw [if_neg (by decide)]
    have hr := hr (by omega)
    exact val_3 hp.1 hp.2.1 hp.2.2 hr.1 hr.2.1 hr.2.2 j2 j4 j5 rfl
  · subst k2
    obtain ⟨j1, j2, j3, j4, j5⟩ := jfin 64 65 (by decide) (by decide) (by decide) σ i (fl (inR ((hB σ 64 a).toInt - (hB σ 65 b).toInt) ∧ inR ((hB σ 65 a).toInt - (hB σ 64 b).toInt)) (hA σ 48 20)) (hB σ 64 a - hB σ 65 b) (hB σ 65 a - hB σ 64 b)
    refine ⟨_, mj_4 h hb hi ha (hb' (by omega)), j1, by rw [j2]; exact fl_bit hb, j3, fun p hp r hr => ?_⟩
    rw [if_neg (by decide)]
    have hr := hr (by omega)
    exact val_4 hp.1 hp.2.1 hp.2.2 hr.1 hr.2.1 hr.2.2 j2 j4 j5 rfl
  · subst k2
    obtain ⟨v, l, g, ev, el, eg, ef⟩ := mj_5 h hb hi ha (hb' (by omega))
    obtain ⟨j1, j2, j3, j4, j5⟩ := jfin2 64 65 (by decide) (by decide) (by decide) σ i v l g l g
    refine ⟨_, ef, j1, by rw [j2, ev]; exact fl_bit hb, j3, fun p hp r hr => ?_⟩
    rw [if_neg (by decide)]
    have hr := hr (by omega)
    show RJ _ _ 64 65 i (pr4 p.1 p.2 r.1 r.2)
    by_cases g0 : fit4 (hB σ 64 a) (hB σ 65 a) (hB σ 64 b) (hB σ 65 b)
    · obtain ⟨m1, m2⟩ := gMM g0 hp.1 hp.2.1 hr.1 hr.2.1
      rw [fl_t g0] at ev
      obtain ⟨⟨⟨g1, g2⟩, g3⟩, g4⟩ := g0
      rw [hp.1, hr.1] at g1
      rw [hp.1, hr.2.1] at g2
      rw [hp.2.1, hr.1] at g3
      rw [hp.2.1, hr.2.1] at g4
      rw [show pr4 p.1 p.2 r.1 r.2 = some (mn4 p.1 p.2 r.1 r.2, mx4 p.1 p.2 r.1 r.2) from if_pos ⟨g1, g2, g3, g4⟩]
      exact ⟨by rw [j2, ev], by rw [j4, el]; exact m1, by rw [j5, eg]; exact m2, mn4_le _ _ _ _⟩
    · rw [fl_f g0] at ev
      rw [show pr4 p.1 p.2 r.1 r.2 = none from if_neg (fun z => g0 ⟨⟨⟨by rw [hp.1, hr.1]; exact z.1, by rw [hp.1, hr.2.1]; exact z.2.1⟩, by rw [hp.2.1, hr.1]; exact z.2.2.1⟩, by rw [hp.2.1, hr.2.1]; exact z.2.2.2⟩)]
      exact j2.trans ev
end
section
/-- the reference's rows of a formula -/
def MF (σ : HS) (f : Nat) (Φ : FM) : Prop := hA σ 55 f = nI (mN Φ) ∧ ∀ i, i < mN Φ → hA σ 51 (60 * f + i) = nI (mK Φ i) ∧ hA σ 52 (60 * f + i) = nI (mU Φ i) ∧ hA σ 53 (60 * f + i) = nI (mV Φ i) ∧ hA σ 54 (60 * f + i) = nI (mP Φ i)
def BxM (σ : HS) (L H : Nat → Int) : Prop := (∀ s, L s ≤ H s) ∧ ∀ s, s < 6 → (hA σ 62 s).toInt = L s ∧ (hA σ 63 s).toInt = H s
theorem MF.mf {S : List Nat} {σ σ' : HS} {f : Nat} {Φ : FM} (h : MF σ f Φ) (hf : Mf S σ σ') (h1 : 51 ∉ S) (h2 : 52 ∉ S) (h3 : 53 ∉ S) (h4 : 54 ∉ S) (h5 : 55 ∉ S) : MF σ' f Φ := by
  have g : ∀ j, j ∉ S → j ≠ 48 → ∀ k, hA σ' j k = hA σ j k := fun j hj h48 k => hf.A (fun z => by
    rcases List.mem_cons.mp z with z | z
    · exact h48 z
    · exact hj z) k
  refine ⟨(g 55 h5 (by decide) _).trans h.1, fun i hi => ?_⟩
  obtain ⟨a, b, c, d⟩ := h.2 i hi
  exact ⟨(g 51 h1 (by decide) _).trans a, (g 52 h2 (by decide) _).trans b, (g 53 h3 (by decide) _).trans c, (g 54 h4 (by decide) _).trans d⟩
theorem BxM.mf {S : List Nat} {σ σ' : HS} {L H : Nat → Int} (h : BxM σ L H) (hf : Mf S σ σ') (h1 : 62 ∉ 48 :: S) (h2 : 63 ∉ 48 :: S) : BxM σ' L H := ⟨h.1, fun s hs => by rw [hf.A h1, hf.A h2]; exact h.2 s hs⟩
theorem nI_mul60 (f : Nat) : (60 : Int32) * nI f = nI (60 * f) := by
  show Int32.ofNat 60 * Int32.ofNat f = Int32.ofNat (60 * f)
  rw [Int32.ofNat_mul]
theorem nI_plus (a b : Nat) : nI a + nI b = nI (a + b) := by
  show Int32.ofNat a + Int32.ofNat b = Int32.ofNat (a + b)
  rw [Int32.ofNat_add]
theorem at_ok (f i : Nat) (σ : HS) : f_X6_at (nI f) (nI i) σ = some (nI (60 * f + i), σ) := by
  unfold f_X6_at; rw [nI_mul60, nI_plus]
theorem rep63 {σ σ' : HS} {j : Nat} {x : Option (Int × Int)} (h : Rep σ 63 j x) (e1 : hB σ' 64 j = hB σ 64 j) (e2 : hB σ' 65 j = hB σ 65 j) (e3 : hA σ' 66 j = hA σ 66 j) : Rep σ' 63 j x := by
  cases x with
  | none => exact e3.trans h
  | some p =>
    obtain ⟨a1, a2, a3, a4⟩ := h
    exact ⟨e3.trans a1, (congrArg Int64.toInt e1).trans a2, (congrArg Int64.toInt e2).trans a3, a4⟩
theorem nle {a b : Nat} (h : b < a) (ha : a < 1000) : (nI a ≤ nI b) = False := eq_false (by rw [nI_leI (by omega) (by omega)]; omega)
theorem nE {a b : Nat} (h : a < 1000) (hb : b < 1000) : (nI a = nI b) = (a = b) := propext ⟨fun z => by have := congrArg Int32.toInt z; rw [nI_toInt (by omega), nI_toInt (by omega)] at this; omega, fun z => by rw [z]⟩
/-- a place of the reference's spans written -/
theorem fin3 (σ : HS) (i : Nat) (v u : Int32) (lo hi : Int64) : Mf [64, 65, 66] σ (sA (sB (sB (sA σ 48 20 v) 64 i lo) 65 i hi) 66 i u) ∧ hA (sA (sB (sB (sA σ 48 20 v) 64 i lo) 65 i hi) 66 i u) 66 i = u ∧ hB (sA (sB (sB (sA σ 48 20 v) 64 i lo) 65 i hi) 66 i u) 64 i = lo ∧ hB (sA (sB (sB (sA σ 48 20 v) 64 i lo) 65 i hi) 66 i u) 65 i = hi ∧ ∀ j x, j ≠ i → Rep σ 63 j x → Rep (sA (sB (sB (sA σ 48 20 v) 64 i lo) 65 i hi) 66 i u) 63 j x := by
  refine ⟨(((Mf_s (by decide) (by decide)).seq (Mf_sB (by simp) (by decide))).seq (Mf_sB (by simp) (by decide))).seq (Mf_sA (by simp) (by decide)), ?_, ?_, ?_, fun j x nj hr => rep63 hr ?_ ?_ ?_⟩
  · simp only [hA_sA, hA_sB, hA_rA, hB_sA, hB_sB, hB_rA, and_self, if_true]
  · simp only [hA_sA, hA_sB, hA_rA, hB_sA, hB_sB, hB_rA, and_self, if_true, show ¬ (64 = 65) by decide, false_and, if_false]
  · simp only [hA_sA, hA_sB, hA_rA, hB_sA, hB_sB, hB_rA, and_self, if_true]
  · simp only [hA_sA, hA_sB, hA_rA, hB_sA, hB_sB, hB_rA, nj, and_false, if_false]
  · simp only [hA_sA, hA_sB, hA_rA, hB_sA, hB_sB, hB_rA, nj, and_false, if_false]
  · simp only [hA_sA, hA_sB, hA_rA, hB_sA, hB_sB, hB_rA, nj, and_false, if_false, show ¬ (66 = 48) by decide, false_and]
theorem mspan_0 (K : Nat → Int32 → Int32 → HS → Option (Int32 × HS)) {σ : HS} (h : Typ σ) {f : Nat} {Φ : FM} (hf6 : f < 7) (hm : MF σ f Φ) (hw : WF Φ) {L H : Nat → Int} (hb : BxM σ L H) {i : Nat} (hi : i < mN Φ) (k : mK Φ i = 0) (ih : ∀ j, j < i → Rep σ 63 j (SP Φ L H j)) :
    ∃ σ', lp_X6_spans_2_b K 48 (nI f) (nI i) σ = K 48 (nI f) (nI (i + 1)) σ' ∧ Mf [64, 65, 66] σ σ' ∧ Rep σ' 63 i (SP Φ L H i) ∧ ∀ j, j < i → Rep σ' 63 j (SP Φ L H j) := by
  obtain ⟨w0, w60, wr⟩ := hw
  obtain ⟨k5, ku0, ku1, ku, kv, kv0, kp⟩ := wr i hi
  obtain ⟨hn, hc⟩ := hm
  obtain ⟨c1, c2, c3, c4⟩ := hc i hi
  have fe := inbE (i := f) (n := 7) hf6 (by omega)
  have cf := cl1000 (i := f) (by omega)
  have pe := inbE (i := 60 * f + i) (n := 420) (by omega) (by omega)
  have cp := cl1000 (i := 60 * f + i) (by omega)
  have ie := inbE (i := i) (n := 60) (by omega) (by omega)
  have ci := cl1000 (i := i) (by omega)
  have ngt := nle hi (by omega)
  unfold lp_X6_spans_2_b
  have hu := ku0 k
  have ue := inbE (i := mU Φ i) (n := 6) hu (by omega)
  have cu := cl1000 (i := mU Φ i) (by omega)
  rw [k] at c1
  have g1 : (hA σ 51 (60 * f + i) = 0) = True := eq_true c1
  simp only [chk_p, lt_p, bd_p, bc_p, oc_n, oc_s, and_self, and_true, true_and, if_true, if_false, isO_sA', isO_sB', isO_rA', hlen_sA, hlen_sB, hlen_rA, hR_sA, hR_sB, hR_rA, Typ_sA', Typ_sB', Typ_rA', O48, r48_0, r48_1, r48_2, r48_3, r48_4, r48_5, r48_6, r48_8, r48_9, r48_10, r48_11, r48_12, r48_15, r48_21, r48_22, r48_23, r48_24, r48_25, r48_28, r48_30, r48_31, r48_32, r48_35, r48_37, r48_39, r48_40, r48_41, O51, l51, O52, l52, O55, l55, O62, l62, O63, l63, O64, l64, O65, l65, O66, l66, h, at_ok, hA_sA, hA_sB, hn, fe, cf, pe, cp, ie, ci, ngt, g1, c2, ue, cu, bit0, show ¬ (51 = 48) by decide, show ¬ (52 = 48) by decide, show ¬ (55 = 48) by decide, show ¬ (62 = 48) by decide, show ¬ (63 = 48) by decide, false_and, if_false, nI_s]
  obtain ⟨q1, q2, q3, q4, q5⟩ := fin3 σ i 0 0 (hA σ 62 (mU Φ i)).toInt64 (hA σ 63 (mU Φ i)).toInt64
  refine ⟨_, rfl, q1, ?_, fun j hj => q5 j _ (by omega) (ih j hj)⟩
  rw [SP_0 k]
  exact ⟨q2, by rw [q3, Int32.toInt_toInt64]; exact (hb.2 _ hu).1, by rw [q4, Int32.toInt_toInt64]; exact (hb.2 _ hu).2, hb.1 _⟩
theorem mspan_1 (K : Nat → Int32 → Int32 → HS → Option (Int32 × HS)) {σ : HS} (h : Typ σ) {f : Nat} {Φ : FM} (hf6 : f < 7) (hm : MF σ f Φ) (hw : WF Φ) {L H : Nat → Int} (hb : BxM σ L H) {i : Nat} (hi : i < mN Φ) (k : mK Φ i = 1) (ih : ∀ j, j < i → Rep σ 63 j (SP Φ L H j)) :
    ∃ σ', lp_X6_spans_2_b K 48 (nI f) (nI i) σ = K 48 (nI f) (nI (i + 1)) σ' ∧ Mf [64, 65, 66] σ σ' ∧ Rep σ' 63 i (SP Φ L H i) ∧ ∀ j, j < i → Rep σ' 63 j (SP Φ L H j) := by
  obtain ⟨w0, w60, wr⟩ := hw
  obtain ⟨k5, ku0, ku1, ku, kv, kv0, kp⟩ := wr i hi
  obtain ⟨hn, hc⟩ := hm
  obtain ⟨c1, c2, c3, c4⟩ := hc i hi
  have fe := inbE (i := f) (n := 7) hf6 (by omega)
  have cf := cl1000 (i := f) (by omega)
  have pe := inbE (i := 60 * f + i) (n := 420) (by omega) (by omega)
  have cp := cl1000 (i := 60 * f + i) (by omega)
  have ie := inbE (i := i) (n := 60) (by omega) (by omega)
  have ci := cl1000 (i := i) (by omega)
  have ngt := nle hi (by omega)
  unfold lp_X6_spans_2_b
  have hu := ku1 k
  rw [k] at c1
  have g1 : (hA σ 51 (60 * f + i) = 0) = False := by rw [c1]; exact eq_false (by decide)
  have g2 : (hA σ 51 (60 * f + i) = 1) = True := eq_true c1
  simp only [chk_p, lt_p, bd_p, bc_p, oc_n, oc_s, and_self, and_true, true_and, if_true, if_false, isO_sA', isO_sB', isO_rA', hlen_sA, hlen_sB, hlen_rA, hR_sA, hR_sB, hR_rA, Typ_sA', Typ_sB', Typ_rA', O48, r48_0, r48_1, r48_2, r48_3, r48_4, r48_5, r48_6, r48_8, r48_9, r48_10, r48_11, r48_12, r48_15, r48_21, r48_22, r48_23, r48_24, r48_25, r48_28, r48_30, r48_31, r48_32, r48_35, r48_37, r48_39, r48_40, r48_41, O51, l51, O52, l52, O55, l55, O62, l62, O63, l63, O64, l64, O65, l65, O66, l66, h, at_ok, hA_sA, hA_sB, hn, fe, cf, pe, cp, ie, ci, ngt, g1, g2, c2, bit0, show ¬ (51 = 48) by decide, show ¬ (52 = 48) by decide, show ¬ (55 = 48) by decide, false_and, if_false, nI_s]
  obtain ⟨q1, q2, q3, q4, q5⟩ := fin3 σ i 0 0 (nI (mU Φ i)).toInt64 (nI (mU Φ i)).toInt64
  refine ⟨_, rfl, q1, ?_, fun j hj => q5 j _ (by omega) (ih j hj)⟩
  rw [SP_1 k]
  exact ⟨q2, by rw [q3, Int32.toInt_toInt64]; exact nI_big (by omega), by rw [q4, Int32.toInt_toInt64]; exact nI_big (by omega), Int.le_refl _⟩
theorem mspan_2 (K : Nat → Int32 → Int32 → HS → Option (Int32 × HS)) {σ : HS} (h : Typ σ) {f : Nat} {Φ : FM} (hf6 : f < 7) (hm : MF σ f Φ) (hw : WF Φ) {L H : Nat → Int} (hb : BxM σ L H) {i : Nat} (hi : i < mN Φ) (k : 2 ≤ mK Φ i) (ih : ∀ j, j < i → Rep σ 63 j (SP Φ L H j)) :
    ∃ σ', lp_X6_spans_2_b K 48 (nI f) (nI i) σ = K 48 (nI f) (nI (i + 1)) σ' ∧ Mf [64, 65, 66] σ σ' ∧ Rep σ' 63 i (SP Φ L H i) ∧ ∀ j, j < i → Rep σ' 63 j (SP Φ L H j) := by
  obtain ⟨w0, w60, wr⟩ := hw
  obtain ⟨k5, ku0, ku1, ku, kv, kv0, kp⟩ := wr i hi
  obtain ⟨hn, hc⟩ := hm
  obtain ⟨c1, c2, c3, c4⟩ := hc i hi
  have fe := inbE (i := f) (n := 7) hf6 (by omega)
  have cf := cl1000 (i := f) (by omega)
  have pe := inbE (i := 60 * f + i) (n := 420) (by omega) (by omega)
  have cp := cl1000 (i := 60 * f + i) (by omega)
  have ie := inbE (i := i) (n := 60) (by omega) (by omega)
  have ci := cl1000 (i := i) (by omega)
  have ngt := nle hi (by omega)
  unfold lp_X6_spans_2_b
  have hu := ku k
  have ue := inbE (i := mU Φ i) (n := 60) (by omega) (by omega)
  have cu := cl1000 (i := mU Φ i) (by omega)
  have g1 : (nI (mK Φ i) = 0) = False := by exact eq_false (fun z => by have := (nE (a := mK Φ i) (b := 0) (by omega) (by omega)).mp z; omega)
  have g2 : (nI (mK Φ i) = 1) = False := by exact eq_false (fun z => by have := (nE (a := mK Φ i) (b := 1) (by omega) (by omega)).mp z; omega)
  obtain ⟨σ1, j1, j2, j3, j4, j5⟩ := joins_ok (σ := sA σ 48 20 0) (k := mK Φ i) (i := i) (a := mU Φ i) (b := mV Φ i) h (by rw [hA_f]; exact Or.inl rfl) k k5 (by omega) hu kv
  have h1 : Typ σ1 := j2.typ h
  have f1 : Mf [64, 65, 66] σ σ1 := (Mf_s (by decide) (by decide)).seq (j2.mono (by simp))
  have d1 : hA σ1 51 (60 * f + i) = nI (mK Φ i) := (f1.A (by decide) _).trans c1
  have d2 : hA σ1 52 (60 * f + i) = nI (mU Φ i) := (f1.A (by decide) _).trans c2
  have d3 : hA σ1 53 (60 * f + i) = nI (mV Φ i) := (f1.A (by decide) _).trans c3
  have s66 : ∀ j, hA σ1 66 j = hA σ 66 j := fun j => (j2.A (by decide) j).trans (by rw [hA_sA, if_neg (fun z => absurd z.1 (by decide))])
  have fin : ∀ v : Int32, v = (match SP Φ L H i with | none => 1 | some _ => 0) → (∀ p, SP Φ L H i = some p → VB σ1 64 65 i p) → Rep (sA (sA σ1 48 20 v) 66 i v) 63 i (SP Φ L H i) ∧ ∀ j, j < i → Rep (sA (sA σ1 48 20 v) 66 i v) 63 j (SP Φ L H j) := by
    intro v hv hp
    constructor
    · cases hx : SP Φ L H i with
      | none =>
        rw [hx] at hv
        show hA _ 66 i = 1
        rw [hA_sA, if_pos ⟨rfl, rfl⟩]; exact hv
      | some p =>
        rw [hx] at hv
        obtain ⟨q1, q2, q3⟩ := hp p hx
        exact ⟨by rw [hA_sA, if_pos ⟨rfl, rfl⟩]; exact hv, q1, q2, q3⟩
    · intro j hj
      have nj : ¬ j = i := by omega
      exact rep63 (ih j hj) (j4 j nj).1 (j4 j nj).2 (by simp only [hA_sA, hA_sB, hA_rA, hB_sA, hB_sB, hB_rA, nj, and_false, if_false, show ¬ (66 = 48) by decide, false_and]; exact s66 j)
  have ff : ∀ v : Int32, Mf [64, 65, 66] σ (sA (sA σ1 48 20 v) 66 i v) := fun v => (f1.seq (Mf_s (by decide) (by decide))).seq (Mf_sA (by simp) (by decide))
  simp only [chk_p, lt_p, bd_p, bc_p, oc_n, oc_s, and_self, and_true, true_and, if_true, if_false, isO_sA', isO_sB', isO_rA', hlen_sA, hlen_sB, hlen_rA, hR_sA, hR_sB, hR_rA, Typ_sA', Typ_sB', Typ_rA', O48, r48_0, r48_1, r48_2, r48_3, r48_4, r48_5, r48_6, r48_8, r48_9, r48_10, r48_11, r48_12, r48_15, r48_21, r48_22, r48_23, r48_24, r48_25, r48_28, r48_30, r48_31, r48_32, r48_35, r48_37, r48_39, r48_40, r48_41, O51, l51, O52, l52, O53, l53, O55, l55, O64, l64, O65, l65, O66, l66, h, h1, at_ok, hA_sA, hA_sB, hn, fe, cf, pe, cp, ie, ci, ngt, g1, g2, c1, c2, c3, d1, d2, d3, ue, cu, show ¬ (51 = 48) by decide, show ¬ (52 = 48) by decide, show ¬ (53 = 48) by decide, show ¬ (55 = 48) by decide, false_and, if_false, nI_s, j1, s66]
  have ru := ih _ hu
  have spU : ∀ p, SP Φ L H (mU Φ i) = some p → VB σ 64 65 (mU Φ i) p := fun p hp => by rw [hp] at ru; exact ru.2
  by_cases o1 : hA σ 66 (mU Φ i) = 0
  · have hxU : ∃ p, SP Φ L H (mU Φ i) = some p := by
      cases hx : SP Φ L H (mU Φ i) with
      | none => rw [hx] at ru; exact absurd (o1.symm.trans ru) (by decide)
      | some p => exact ⟨p, rfl⟩
    obtain ⟨p, hp⟩ := hxU
    by_cases k2 : mK Φ i = 2
    · have e2 : (nI (mK Φ i) = 2) = True := by rw [k2]; exact eq_true rfl
      have rj := j5 p (spU p hp) (0, 0) (fun z => by omega)
      rw [if_pos k2, show sp1 (some p) = SP Φ L H i by rw [SP_2 wr hi k2, hp]] at rj
      have hv : hA σ1 48 20 = (match SP Φ L H i with | none => 1 | some _ => 0) := by
        cases hx : SP Φ L H i with
        | none => rw [hx] at rj; exact rj
        | some q => rw [hx] at rj; exact rj.1.trans (hA_f _ _)
      obtain ⟨q1, q2⟩ := fin (hA σ1 48 20) hv (fun q hq => by rw [hq] at rj; exact rj.2)
      refine ⟨sA (sA σ1 48 20 (hA σ1 48 20)) 66 i (hA σ1 48 20), ?_, ff _, q1, q2⟩
      simp only [o1, e2, or0, bitE j3, chk_p, lt_p, bd_p, bc_p, oc_n, oc_s, and_self, and_true, true_and, if_true, if_false, isO_sA', isO_sB', isO_rA', hlen_sA, hlen_sB, hlen_rA, hR_sA, hR_sB, hR_rA, Typ_sA', Typ_sB', Typ_rA', h1, hA_sA, O48, r48_0, r48_1, r48_2, r48_3, r48_4, r48_5, r48_6, r48_8, r48_9, r48_10, r48_11, r48_12, r48_15, r48_21, r48_22, r48_23, r48_24, r48_25, r48_28, r48_30, r48_31, r48_32, r48_35, r48_37, r48_39, r48_40, r48_41, O66, l66, ie, ci, nI_s]
    · have e2 : (nI (mK Φ i) = 2) = False := eq_false (fun z => k2 ((nE (a := mK Φ i) (b := 2) (by omega) (by omega)).mp z))
      have hv' := kv (by omega)
      have ve := inbE (i := mV Φ i) (n := 60) (by omega) (by omega)
      have cv := cl1000 (i := mV Φ i) (by omega)
      have rv := ih _ hv'
      by_cases o2 : hA σ 66 (mV Φ i) = 0
      · have hxV : ∃ p, SP Φ L H (mV Φ i) = some p := by
          cases hx : SP Φ L H (mV Φ i) with
          | none => rw [hx] at rv; exact absurd (o2.symm.trans rv) (by decide)
          | some p => exact ⟨p, rfl⟩
        obtain ⟨r, hr⟩ := hxV
        have rj := j5 p (spU p hp) r (fun z => by rw [hr] at rv; exact rv.2)
        rw [if_neg k2, show sp2 (mK Φ i) (some p) (some r) = SP Φ L H i by rw [SP_3 wr hi (by omega), hp, hr]] at rj
        have hv : hA σ1 48 20 = (match SP Φ L H i with | none => 1 | some _ => 0) := by
          cases hx : SP Φ L H i with
          | none => rw [hx] at rj; exact rj
          | some q => rw [hx] at rj; exact rj.1.trans (hA_f _ _)
        obtain ⟨q1, q2⟩ := fin (hA σ1 48 20) hv (fun q hq => by rw [hq] at rj; exact rj.2)
        refine ⟨sA (sA σ1 48 20 (hA σ1 48 20)) 66 i (hA σ1 48 20), ?_, ff _, q1, q2⟩
        simp only [o1, o2, e2, or0, bitE j3, chk_p, lt_p, bd_p, bc_p, oc_n, oc_s, and_self, and_true, true_and, if_true, if_false, isO_sA', isO_sB', isO_rA', hlen_sA, hlen_sB, hlen_rA, hR_sA, hR_sB, hR_rA, Typ_sA', Typ_sB', Typ_rA', h1, hA_sA, O48, r48_0, r48_1, r48_2, r48_3, r48_4, r48_5, r48_6, r48_8, r48_9, r48_10, r48_11, r48_12, r48_15, r48_21, r48_22, r48_23, r48_24, r48_25, r48_28, r48_30, r48_31, r48_32, r48_35, r48_37, r48_39, r48_40, r48_41, O53, l53, O66, l66, ie, ci, ve, cv, nI_s, if_false, pe, cp, d3, s66]
      · have hx : SP Φ L H i = none := by
          rw [SP_3 wr hi (by omega)]
          cases hx : SP Φ L H (mV Φ i) with
          | none => rw [hp]; rfl
          | some p => rw [hx] at rv; exact absurd rv.1 o2
        obtain ⟨q1, q2⟩ := fin 1 (by rw [hx]) (fun q hq => by rw [hx] at hq; cases hq)
        refine ⟨sA (sA σ1 48 20 1) 66 i 1, ?_, ff _, q1, q2⟩
        simp only [o1, o2, e2, or1 j3, bit1, chk_p, lt_p, bd_p, bc_p, oc_n, oc_s, and_self, and_true, true_and, if_true, if_false, isO_sA', isO_sB', isO_rA', hlen_sA, hlen_sB, hlen_rA, hR_sA, hR_sB, hR_rA, Typ_sA', Typ_sB', Typ_rA', h1, hA_sA, O48, r48_0, r48_1, r48_2, r48_3, r48_4, r48_5, r48_6, r48_8, r48_9, r48_10, r48_11, r48_12, r48_15, r48_21, r48_22, r48_23, r48_24, r48_25, r48_28, r48_30, r48_31, r48_32, r48_35, r48_37, r48_39, r48_40, r48_41, O53, l53, O66, l66, ie, ci, ve, cv, nI_s, if_false, pe, cp, d3, s66]
  · have hx : SP Φ L H i = none := by
      have hU : SP Φ L H (mU Φ i) = none := by
        cases hx : SP Φ L H (mU Φ i) with
        | none => rfl
        | some p => rw [hx] at ru; exact absurd ru.1 o1
      by_cases k2 : mK Φ i = 2
      · rw [SP_2 wr hi k2, hU]; rfl
      · rw [SP_3 wr hi (by omega), hU]; rfl
    obtain ⟨q1, q2⟩ := fin 1 (by rw [hx]) (fun q hq => by rw [hx] at hq; cases hq)
    refine ⟨sA (sA σ1 48 20 1) 66 i 1, ?_, ff _, q1, q2⟩
    simp only [o1, or1 j3, bit1, chk_p, lt_p, bd_p, bc_p, oc_n, oc_s, and_self, and_true, true_and, if_true, if_false, isO_sA', isO_sB', isO_rA', hlen_sA, hlen_sB, hlen_rA, hR_sA, hR_sB, hR_rA, Typ_sA', Typ_sB', Typ_rA', h1, hA_sA, O48, r48_0, r48_1, r48_2, r48_3, r48_4, r48_5, r48_6, r48_8, r48_9, r48_10, r48_11, r48_12, r48_15, r48_21, r48_22, r48_23, r48_24, r48_25, r48_28, r48_30, r48_31, r48_32, r48_35, r48_37, r48_39, r48_40, r48_41, O53, l53, O66, l66, ie, ci, nI_s, if_false]
theorem mspan_part (K : Nat → Int32 → Int32 → HS → Option (Int32 × HS)) {σ : HS} (h : Typ σ) {f : Nat} {Φ : FM} (hf6 : f < 7) (hm : MF σ f Φ) (hw : WF Φ) {L H : Nat → Int} (hb : BxM σ L H) {i : Nat} (hi : i < mN Φ) (ih : ∀ j, j < i → Rep σ 63 j (SP Φ L H j)) :
    ∃ σ', lp_X6_spans_2_b K 48 (nI f) (nI i) σ = K 48 (nI f) (nI (i + 1)) σ' ∧ Mf [64, 65, 66] σ σ' ∧ Rep σ' 63 i (SP Φ L H i) ∧ ∀ j, j < i → Rep σ' 63 j (SP Φ L H j) := by
  have h6 : mK Φ i = 0 ∨ mK Φ i = 1 ∨ 2 ≤ mK Φ i := by omega
  rcases h6 with k | k | k
  · exact mspan_0 K h hf6 hm hw hb hi k ih
  · exact mspan_1 K h hf6 hm hw hb hi k ih
  · exact mspan_2 K h hf6 hm hw hb hi k ih
end
section
def rc (x : Option (Int × Int)) : Int32 := match x with | none => 0 | some _ => 1
theorem rootOf_ok {σ : HS} (h : Typ σ) {f : Nat} {Φ : FM} (hf6 : f < 7) (hn : hA σ 55 f = nI (mN Φ)) (hw : WF Φ) : f_X6_rootOf 48 (nI f) σ = some (nI (mN Φ - 1), σ) := by
  have fe := inbE (i := f) (n := 7) hf6 (by omega)
  have cf := cl1000 (i := f) (by omega)
  have w1 := hw.1
  obtain ⟨m, hm⟩ : ∃ m, mN Φ = m + 1 := ⟨mN Φ - 1, by omega⟩
  unfold f_X6_rootOf
  rw [hm] at hn ⊢
  simp only [chk_p, lt_p, bd_p, bc_p, oc_n, oc_s, and_self, and_true, true_and, if_true, if_false, isO_sA', isO_sB', isO_rA', hlen_sA, hlen_sB, hlen_rA, hR_sA, hR_sB, hR_rA, Typ_sA', Typ_sB', Typ_rA', O48, r48_0, r48_1, r48_2, r48_3, r48_4, r48_5, r48_6, r48_8, r48_9, r48_10, r48_11, r48_12, r48_15, r48_21, r48_22, r48_23, r48_24, r48_25, r48_28, r48_30, r48_31, r48_32, r48_35, r48_37, r48_39, r48_40, r48_41, O55, l55, h, fe, cf, hn, nI_pred, Nat.add_sub_cancel]
theorem spans_lp {f : Nat} {Φ : FM} (hf6 : f < 7) (hw : WF Φ) {L H : Nat → Int} : ∀ (d i : Nat) (σ : HS), Typ σ → MF σ f Φ → BxM σ L H → i + d = mN Φ → (∀ j, j < i → Rep σ 63 j (SP Φ L H j)) → ∀ nf, d < nf →
    ∃ σ', lp_X6_spans_2 nf 48 (nI f) (nI i) σ = some (rc (SP Φ L H (mN Φ - 1)), σ') ∧ Mf [64, 65, 66] σ σ' ∧ ∀ j, j < mN Φ → Rep σ' 63 j (SP Φ L H j) := by
  intro d
  induction d with
  | zero =>
    intro i σ h hm hb he hr nf hnf
    obtain ⟨nf, rfl⟩ : ∃ k, nf = k + 1 := ⟨nf - 1, by omega⟩
    have hi : i = mN Φ := by omega
    subst hi
    have fe := inbE (i := f) (n := 7) hf6 (by omega)
    have cf := cl1000 (i := f) (by omega)
    have w1 := hw.1
    have w2 := hw.2.1
    have me := inbE (i := mN Φ - 1) (n := 60) (by omega) (by omega)
    have cm := cl1000 (i := mN Φ - 1) (by omega)
    have le : (nI (mN Φ) ≤ nI (mN Φ)) = True := eq_true (Int32.le_refl _)
    have rt := hr (mN Φ - 1) (by omega)
    have ro := rootOf_ok h hf6 hm.1 hw
    refine ⟨σ, ?_, Mf.rf, hr⟩
    show lp_X6_spans_2_b (lp_X6_spans_2 nf) 48 (nI f) (nI (mN Φ)) σ = _
    unfold lp_X6_spans_2_b
    cases hx : SP Φ L H (mN Φ - 1) with
    | none =>
      rw [hx] at rt
      have e : (hA σ 66 (mN Φ - 1) = 0) = False := by rw [show hA σ 66 (mN Φ - 1) = 1 from rt]; exact beq1
      simp only [chk_p, lt_p, bd_p, bc_p, oc_n, oc_s, and_self, and_true, true_and, if_true, if_false, isO_sA', isO_sB', isO_rA', hlen_sA, hlen_sB, hlen_rA, hR_sA, hR_sB, hR_rA, Typ_sA', Typ_sB', Typ_rA', O48, r48_0, r48_1, r48_2, r48_3, r48_4, r48_5, r48_6, r48_8, r48_9, r48_10, r48_11, r48_12, r48_15, r48_21, r48_22, r48_23, r48_24, r48_25, r48_28, r48_30, r48_31, r48_32, r48_35, r48_37, r48_39, r48_40, r48_41, O55, l55, O66, l66, h, fe, cf, hm.1, le, ro, me, cm, e, if_false, rc]
    | some p =>
      rw [hx] at rt
      have e : (hA σ 66 (mN Φ - 1) = 0) = True := eq_true rt.1
      simp only [chk_p, lt_p, bd_p, bc_p, oc_n, oc_s, and_self, and_true, true_and, if_true, if_false, isO_sA', isO_sB', isO_rA', hlen_sA, hlen_sB, hlen_rA, hR_sA, hR_sB, hR_rA, Typ_sA', Typ_sB', Typ_rA', O48, r48_0, r48_1, r48_2, r48_3, r48_4, r48_5, r48_6, r48_8, r48_9, r48_10, r48_11, r48_12, r48_15, r48_21, r48_22, r48_23, r48_24, r48_25, r48_28, r48_30, r48_31, r48_32, r48_35, r48_37, r48_39, r48_40, r48_41, O55, l55, O66, l66, h, fe, cf, hm.1, le, ro, me, cm, e, rc]
  | succ d ihd =>
    intro i σ h hm hb he hr nf hnf
    obtain ⟨nf, rfl⟩ : ∃ k, nf = k + 1 := ⟨nf - 1, by omega⟩
    obtain ⟨σ1, e1, f1, r1, r2⟩ := mspan_part (lp_X6_spans_2 nf) h hf6 hm hw hb (i := i) (by omega) hr
    obtain ⟨σ2, e2, f2, r3⟩ := ihd (i + 1) σ1 (f1.typ h) (hm.mf f1 (by decide) (by decide) (by decide) (by decide) (by decide)) (hb.mf f1 (by decide) (by decide)) (by omega) (fun j hj => by
      by_cases e : j = i
      · rw [e]; exact r1
      · exact r2 j (by omega)) nf (by omega)
    exact ⟨σ2, e1.trans e2, f1.seq f2, r3⟩
theorem spans_ok {f : Nat} {Φ : FM} (hf6 : f < 7) (hw : WF Φ) {L H : Nat → Int} {σ : HS} (h : Typ σ) (hm : MF σ f Φ) (hb : BxM σ L H) :
    ∃ σ', f_X6_spans 48 (nI f) σ = some (rc (SP Φ L H (mN Φ - 1)), σ') ∧ Mf [64, 65, 66] σ σ' ∧ ∀ j, j < mN Φ → Rep σ' 63 j (SP Φ L H j) := by
  have hw2 := hw.2.1
  obtain ⟨σ', e1, e2⟩ := spans_lp hf6 hw (mN Φ) 0 σ h hm hb (by omega) (fun j hj => by omega) 1000 (by omega)
  exact ⟨σ', e1, e2⟩
theorem mLow_ok {σ : HS} (h : Typ σ) {f : Nat} {Φ : FM} (hf6 : f < 7) (hn : hA σ 55 f = nI (mN Φ)) (hw : WF Φ) : f_X6_lowOf 48 (nI f) σ = some (hB σ 64 (mN Φ - 1), σ) := by
  have w1 := hw.1
  have w2 := hw.2.1
  have me := inbE (i := mN Φ - 1) (n := 60) (by omega) (by omega)
  have cm := cl1000 (i := mN Φ - 1) (by omega)
  have ro := rootOf_ok h hf6 hn hw
  unfold f_X6_lowOf
  simp only [chk_p, lt_p, bd_p, bc_p, oc_n, oc_s, and_self, and_true, true_and, if_true, if_false, isO_sA', isO_sB', isO_rA', hlen_sA, hlen_sB, hlen_rA, hR_sA, hR_sB, hR_rA, Typ_sA', Typ_sB', Typ_rA', O48, r48_0, r48_1, r48_2, r48_3, r48_4, r48_5, r48_6, r48_8, r48_9, r48_10, r48_11, r48_12, r48_15, r48_21, r48_22, r48_23, r48_24, r48_25, r48_28, r48_30, r48_31, r48_32, r48_35, r48_37, r48_39, r48_40, r48_41, O64, l64, h, ro, me, cm]
theorem mHigh_ok {σ : HS} (h : Typ σ) {f : Nat} {Φ : FM} (hf6 : f < 7) (hn : hA σ 55 f = nI (mN Φ)) (hw : WF Φ) : f_X6_highOf 48 (nI f) σ = some (hB σ 65 (mN Φ - 1), σ) := by
  have w1 := hw.1
  have w2 := hw.2.1
  have me := inbE (i := mN Φ - 1) (n := 60) (by omega) (by omega)
  have cm := cl1000 (i := mN Φ - 1) (by omega)
  have ro := rootOf_ok h hf6 hn hw
  unfold f_X6_highOf
  simp only [chk_p, lt_p, bd_p, bc_p, oc_n, oc_s, and_self, and_true, true_and, if_true, if_false, isO_sA', isO_sB', isO_rA', hlen_sA, hlen_sB, hlen_rA, hR_sA, hR_sB, hR_rA, Typ_sA', Typ_sB', Typ_rA', O48, r48_0, r48_1, r48_2, r48_3, r48_4, r48_5, r48_6, r48_8, r48_9, r48_10, r48_11, r48_12, r48_15, r48_21, r48_22, r48_23, r48_24, r48_25, r48_28, r48_30, r48_31, r48_32, r48_35, r48_37, r48_39, r48_40, r48_41, O65, l65, h, ro, me, cm]
theorem nI_mul3 (s : Nat) : (3 : Int32) * nI s = nI (3 * s) := by
  show Int32.ofNat 3 * Int32.ofNat s = Int32.ofNat (3 * s)
  rw [Int32.ofNat_mul]
theorem valueOf_ok {σ : HS} (h : Typ σ) {s : Nat} (hs : s < 6) : f_X6_valueOf 48 (nI s) σ = some (hA σ 49 (3 * s), σ) := by
  have ie := inbE (i := 3 * s) (n := 18) (by omega) (by omega)
  have ci := cl1000 (i := 3 * s) (by omega)
  unfold f_X6_valueOf
  simp only [chk_p, lt_p, bd_p, bc_p, oc_n, oc_s, and_self, and_true, true_and, if_true, if_false, isO_sA', isO_sB', isO_rA', hlen_sA, hlen_sB, hlen_rA, hR_sA, hR_sB, hR_rA, Typ_sA', Typ_sB', Typ_rA', O48, r48_0, r48_1, r48_2, r48_3, r48_4, r48_5, r48_6, r48_8, r48_9, r48_10, r48_11, r48_12, r48_15, r48_21, r48_22, r48_23, r48_24, r48_25, r48_28, r48_30, r48_31, r48_32, r48_35, r48_37, r48_39, r48_40, r48_41, O49, l49, h, nI_mul3, ie, ci]
theorem spanOf_ok {σ : HS} (h : Typ σ) {s : Nat} (hs : s < 6) : f_X6_spanOf 48 (nI s) σ = some (hA σ 49 (3 * s + 1), σ) := by
  have ie := inbE (i := 3 * s + 1) (n := 18) (by omega) (by omega)
  have ci := cl1000 (i := 3 * s + 1) (by omega)
  unfold f_X6_spanOf
  simp only [chk_p, lt_p, bd_p, bc_p, oc_n, oc_s, and_self, and_true, true_and, if_true, if_false, isO_sA', isO_sB', isO_rA', hlen_sA, hlen_sB, hlen_rA, hR_sA, hR_sB, hR_rA, Typ_sA', Typ_sB', Typ_rA', O48, r48_0, r48_1, r48_2, r48_3, r48_4, r48_5, r48_6, r48_8, r48_9, r48_10, r48_11, r48_12, r48_15, r48_21, r48_22, r48_23, r48_24, r48_25, r48_28, r48_30, r48_31, r48_32, r48_35, r48_37, r48_39, r48_40, r48_41, O49, l49, h, nI_mul3, nI_s, ie, ci]
theorem lays_ok {σ : HS} (h : Typ σ) {s : Nat} (hs : s < 6) (a b : Int32) : f_X6_lays 48 (nI s) a b σ = some ((), sA (sA σ 62 s a) 63 s b) := by
  have ie := inbE (i := s) (n := 6) (by omega) (by omega)
  have ci := cl1000 (i := s) (by omega)
  unfold f_X6_lays
  simp only [chk_p, lt_p, bd_p, bc_p, oc_n, oc_s, and_self, and_true, true_and, if_true, if_false, isO_sA', isO_sB', isO_rA', hlen_sA, hlen_sB, hlen_rA, hR_sA, hR_sB, hR_rA, Typ_sA', Typ_sB', Typ_rA', O48, r48_0, r48_1, r48_2, r48_3, r48_4, r48_5, r48_6, r48_8, r48_9, r48_10, r48_11, r48_12, r48_15, r48_21, r48_22, r48_23, r48_24, r48_25, r48_28, r48_30, r48_31, r48_32, r48_35, r48_37, r48_39, r48_40, r48_41, O62, l62, O63, l63, h, ie, ci]
theorem laysBox_lp : ∀ (d i : Nat) (σ : HS), Typ σ → i + d = 6 → ∀ nf, d < nf → ∃ σ', lp_X6_laysBox_2 nf 48 (nI i) σ = some ((), σ') ∧ Mf [62, 63] σ σ' ∧ (∀ s, s < i → hA σ' 62 s = hA σ 62 s ∧ hA σ' 63 s = hA σ 63 s) ∧ ∀ s, i ≤ s → s < 6 → hA σ' 62 s = hA σ 49 (3 * s) - hA σ 49 (3 * s + 1) ∧ hA σ' 63 s = hA σ 49 (3 * s) + hA σ 49 (3 * s + 1) := by
  intro d
  induction d with
  | zero =>
    intro i σ h he nf hnf
    obtain ⟨nf, rfl⟩ : ∃ k, nf = k + 1 := ⟨nf - 1, by omega⟩
    have hi : i = 6 := by omega
    subst hi
    refine ⟨σ, ?_, Mf.rf, fun s _ => ⟨rfl, rfl⟩, fun s h1 h2 => by omega⟩
    show lp_X6_laysBox_2_b (lp_X6_laysBox_2 nf) 48 (nI 6) σ = _
    unfold lp_X6_laysBox_2_b
    exact if_pos (by decide)
  | succ d ih =>
    intro i σ h he nf hnf
    obtain ⟨nf, rfl⟩ : ∃ k, nf = k + 1 := ⟨nf - 1, by omega⟩
    have fr : Mf [62, 63] σ (sA (sA σ 62 i (hA σ 49 (3 * i) - hA σ 49 (3 * i + 1))) 63 i (hA σ 49 (3 * i) + hA σ 49 (3 * i + 1))) := (Mf_sA (by simp) (by decide)).seq (Mf_sA (by simp) (by decide))
    obtain ⟨σ', e1, e2, e3, e4⟩ := ih (i + 1) _ (fr.typ h) (by omega) nf (by omega)
    refine ⟨σ', ?_, fr.seq e2, ?_, ?_⟩
    · show lp_X6_laysBox_2_b (lp_X6_laysBox_2 nf) 48 (nI i) σ = _
      unfold lp_X6_laysBox_2_b
      have le := eq_false (show ¬ (6 : Int32) ≤ nI i by rw [le6 (by omega)]; omega)
      simp only [chk_p, lt_p, bd_p, bc_p, oc_n, oc_s, and_self, and_true, true_and, if_true, if_false, isO_sA', isO_sB', isO_rA', hlen_sA, hlen_sB, hlen_rA, hR_sA, hR_sB, hR_rA, Typ_sA', Typ_sB', Typ_rA', O48, r48_0, r48_1, r48_2, r48_3, r48_4, r48_5, r48_6, r48_8, r48_9, r48_10, r48_11, r48_12, r48_15, r48_21, r48_22, r48_23, r48_24, r48_25, r48_28, r48_30, r48_31, r48_32, r48_35, r48_37, r48_39, r48_40, r48_41, h, le, if_false, valueOf_ok h (show i < 6 by omega), spanOf_ok h (show i < 6 by omega), lays_ok h (show i < 6 by omega), nI_s, e1]
    · intro s hs
      obtain ⟨a, b⟩ := e3 s (by omega)
      rw [a, b]
      simp only [hA_sA, show ¬ s = i by omega, and_false, if_false, and_self]
    · intro s h1 h2
      by_cases e : s = i
      · subst e
        obtain ⟨a, b⟩ := e3 s (by omega)
        rw [a, b]
        simp only [hA_sA, and_self, if_true, show ¬ (62 = 63) by decide, false_and, if_false]
      · obtain ⟨a, b⟩ := e4 s (by omega) h2
        rw [a, b]
        simp only [hA_sA, show ¬ (49 = 63) by decide, show ¬ (49 = 62) by decide, false_and, if_false, and_self]
theorem laysBox_ok {σ : HS} (h : Typ σ) : ∃ σ', f_X6_laysBox 48 σ = some ((), σ') ∧ Mf [62, 63] σ σ' ∧ ∀ s, s < 6 → hA σ' 62 s = hA σ 49 (3 * s) - hA σ 49 (3 * s + 1) ∧ hA σ' 63 s = hA σ 49 (3 * s) + hA σ 49 (3 * s + 1) := by
  obtain ⟨σ', e1, e2, e3, e4⟩ := laysBox_lp 6 0 σ h (by omega) 1000 (by omega)
  exact ⟨σ', e1, e2, fun s hs => e4 s (by omega) hs⟩
/-- the sources in the reference, as in the class -/
def SrcM (σ : HS) : Prop := ∀ s, s < 6 → hA σ 49 (3 * s) = hA σ 2 s ∧ hA σ 49 (3 * s + 1) = hA σ 3 s ∧ hA σ 49 (3 * s + 2) = hA σ 4 s
theorem BxM_now {σ σ' : HS} (hv : Vals σ) (hs : SrcM σ) (e : ∀ s, s < 6 → hA σ' 62 s = hA σ 49 (3 * s) - hA σ 49 (3 * s + 1) ∧ hA σ' 63 s = hA σ 49 (3 * s) + hA σ 49 (3 * s + 1)) : BxM σ' (bL σ) (bH σ) := ⟨bLH hv, fun s h6 => by
  obtain ⟨a, b⟩ := e s h6
  obtain ⟨g1, g2, -⟩ := hs s h6
  obtain ⟨v1, v2, v3, v4, -, -⟩ := hv s h6
  rw [a, b, g1, g2, i_sub (by omega) (by omega) (by omega) (by omega), i_add (by omega) (by omega) (by omega) (by omega)]
  unfold bL bH
  rw [if_pos h6, if_pos h6]
  exact ⟨rfl, rfl⟩⟩
theorem rc_bit (x : Option (Int × Int)) : bit (rc x) := by cases x with | none => exact Or.inl rfl | some _ => exact Or.inr rfl
theorem rc_0 (x : Option (Int × Int)) : (rc x = 0) = (x = none) := by cases x with | none => simp [rc] | some _ => simp [rc]
theorem spansNow_ok {f : Nat} {Φ : FM} (hf6 : f < 7) (hw : WF Φ) {σ : HS} (h : Typ σ) (hm : MF σ f Φ) (hv : Vals σ) (hs : SrcM σ) :
    ∃ σ', f_X6_spansNow 48 (nI f) σ = some (rc (SP Φ (bL σ) (bH σ) (mN Φ - 1)), σ') ∧ Mf [62, 63, 64, 65, 66] σ σ' ∧ (∀ j, j < mN Φ → Rep σ' 63 j (SP Φ (bL σ) (bH σ) j)) ∧ BxM σ' (bL σ) (bH σ) := by
  obtain ⟨σ1, e1, f1, b1⟩ := laysBox_ok h
  have hb := BxM_now hv hs b1
  obtain ⟨σ2, e2, f2, r2⟩ := spans_ok hf6 hw (f1.typ h) (hm.mf f1 (by decide) (by decide) (by decide) (by decide) (by decide)) hb
  refine ⟨σ2, ?_, (f1.mono (by simp)).seq (f2.mono (by simp)), r2, hb.mf f2 (by decide) (by decide)⟩
  have h1 := f1.typ h
  unfold f_X6_spansNow
  simp only [chk_p, lt_p, bd_p, bc_p, oc_n, oc_s, and_self, and_true, true_and, if_true, if_false, isO_sA', isO_sB', isO_rA', hlen_sA, hlen_sB, hlen_rA, hR_sA, hR_sB, hR_rA, Typ_sA', Typ_sB', Typ_rA', O48, r48_0, r48_1, r48_2, r48_3, r48_4, r48_5, r48_6, r48_8, r48_9, r48_10, r48_11, r48_12, r48_15, r48_21, r48_22, r48_23, r48_24, r48_25, r48_28, r48_30, r48_31, r48_32, r48_35, r48_37, r48_39, r48_40, r48_41, h, h1, e1, e2, bitE (rc_bit _)]
/-- how wide: none, if it is over or too wide -/
def WD (x : Option (Int × Int)) : Option Int := match x with
  | none => none
  | some p => if inR (p.2 - p.1) then some (p.2 - p.1) else none
def oW (x : Option Int) : Int64 := match x with | none => -9223372036854775807 | some w => Int64.ofInt w
theorem ofI {x : Int} (h : inR x) : (Int64.ofInt x).toInt = x := by rw [Int64.toInt_ofInt, bm h]
theorem ofI_eq {a : Int64} {x : Int} (h : a.toInt = x) : Int64.ofInt x = a := by rw [← h, Int64.ofInt_toInt]
theorem widthBy_ok {f : Nat} {Φ : FM} (hf6 : f < 7) (hw : WF Φ) {L H : Nat → Int} {σ : HS} (h : Typ σ) (hm : MF σ f Φ) (hb : BxM σ L H) :
    ∃ σ', f_X6_widthBy 48 (nI f) σ = some (oW (WD (SP Φ L H (mN Φ - 1))), σ') ∧ Mf [64, 65, 66] σ σ' := by
  have w1 := hw.1
  obtain ⟨σ1, e1, f1, r1⟩ := spans_ok hf6 hw h hm hb
  have h1 := f1.typ h
  have hm1 := hm.mf f1 (by decide) (by decide) (by decide) (by decide) (by decide)
  have rt := r1 (mN Φ - 1) (by omega)
  unfold f_X6_widthBy
  cases hx : SP Φ L H (mN Φ - 1) with
  | none =>
    rw [hx] at e1
    refine ⟨σ1, ?_, f1⟩
    simp only [chk_p, lt_p, bd_p, bc_p, oc_n, oc_s, and_self, and_true, true_and, if_true, if_false, isO_sA', isO_sB', isO_rA', hlen_sA, hlen_sB, hlen_rA, hR_sA, hR_sB, hR_rA, Typ_sA', Typ_sB', Typ_rA', O48, r48_0, r48_1, r48_2, r48_3, r48_4, r48_5, r48_6, r48_8, r48_9, r48_10, r48_11, r48_12, r48_15, r48_21, r48_22, r48_23, r48_24, r48_25, r48_28, r48_30, r48_31, r48_32, r48_35, r48_37, r48_39, r48_40, r48_41, h, e1, rc, WD, oW]
  | some p =>
    rw [hx] at e1 rt
    obtain ⟨a1, a2, a3, a4⟩ := rt
    have el := mLow_ok (σ := sA σ1 48 20 0) h1 hf6 (by rw [hA_sA, if_neg (fun z => absurd z.1 (by decide))]; exact hm1.1) hw
    have eh := mHigh_ok (σ := sA σ1 48 20 0) h1 hf6 (by rw [hA_sA, if_neg (fun z => absurd z.1 (by decide))]; exact hm1.1) hw
    have es := m_less (σ := sA σ1 48 20 0) h1 (by rw [hA_f]; exact Or.inl rfl) (hB (sA σ1 48 20 0) 65 (mN Φ - 1)) (hB (sA σ1 48 20 0) 64 (mN Φ - 1))
    rw [hA_f] at es
    rw [sA_sA] at es
    obtain ⟨v, hv⟩ : ∃ v, v = fl (inR ((hB (sA σ1 48 20 0) 65 (mN Φ - 1)).toInt - (hB (sA σ1 48 20 0) 64 (mN Φ - 1)).toInt)) 0 := ⟨_, rfl⟩
    rw [← hv] at es
    obtain ⟨w, hw'⟩ : ∃ w, w = hB (sA σ1 48 20 0) 65 (mN Φ - 1) - hB (sA σ1 48 20 0) 64 (mN Φ - 1) := ⟨_, rfl⟩
    rw [← hw'] at es
    rw [show hB (sA σ1 48 20 0) 65 (mN Φ - 1) = hB σ1 65 (mN Φ - 1) from rfl, show hB (sA σ1 48 20 0) 64 (mN Φ - 1) = hB σ1 64 (mN Φ - 1) from rfl] at hv hw'
    rw [show (hB σ1 65 (mN Φ - 1)).toInt = p.2 from a3, show (hB σ1 64 (mN Φ - 1)).toInt = p.1 from a2] at hv
    refine ⟨sA σ1 48 20 v, ?_, f1.seq (Mf_s (by decide) (by decide))⟩
    by_cases g : inR (p.2 - p.1)
    · rw [fl_t g] at hv
      have ew : WD (some p) = some (p.2 - p.1) := if_pos g
      have ew2 : oW (some (p.2 - p.1)) = w := ofI_eq (by rw [hw', l_sub (by rw [show (hB σ1 65 (mN Φ - 1)).toInt = p.2 from a3, show (hB σ1 64 (mN Φ - 1)).toInt = p.1 from a2]; exact g), show (hB σ1 65 (mN Φ - 1)).toInt = p.2 from a3, show (hB σ1 64 (mN Φ - 1)).toInt = p.1 from a2])
      rw [ew, ew2, hv]
      rw [hv] at es
      simp only [chk_p, lt_p, bd_p, bc_p, oc_n, oc_s, and_self, and_true, true_and, if_true, if_false, isO_sA', isO_sB', isO_rA', hlen_sA, hlen_sB, hlen_rA, hR_sA, hR_sB, hR_rA, Typ_sA', Typ_sB', Typ_rA', O48, r48_0, r48_1, r48_2, r48_3, r48_4, r48_5, r48_6, r48_8, r48_9, r48_10, r48_11, r48_12, r48_15, r48_21, r48_22, r48_23, r48_24, r48_25, r48_28, r48_30, r48_31, r48_32, r48_35, r48_37, r48_39, r48_40, r48_41, h, h1, e1, rc, beq1, if_false, eh, el, es, hA_f]
    · rw [fl_f g] at hv
      have ew : WD (some p) = none := if_neg g
      rw [ew, hv]
      rw [hv] at es
      simp only [chk_p, lt_p, bd_p, bc_p, oc_n, oc_s, and_self, and_true, true_and, if_true, if_false, isO_sA', isO_sB', isO_rA', hlen_sA, hlen_sB, hlen_rA, hR_sA, hR_sB, hR_rA, Typ_sA', Typ_sB', Typ_rA', O48, r48_0, r48_1, r48_2, r48_3, r48_4, r48_5, r48_6, r48_8, r48_9, r48_10, r48_11, r48_12, r48_15, r48_21, r48_22, r48_23, r48_24, r48_25, r48_28, r48_30, r48_31, r48_32, r48_35, r48_37, r48_39, r48_40, r48_41, h, h1, e1, rc, beq1, if_false, eh, el, es, hA_f, oW]
theorem widthNow_ok {f : Nat} {Φ : FM} (hf6 : f < 7) (hw : WF Φ) {σ : HS} (h : Typ σ) (hm : MF σ f Φ) (hv : Vals σ) (hs : SrcM σ) :
    ∃ σ', f_X6_widthNow 48 (nI f) σ = some (oW (WD (SP Φ (bL σ) (bH σ) (mN Φ - 1))), σ') ∧ Mf [62, 63, 64, 65, 66] σ σ' := by
  obtain ⟨σ1, e1, f1, b1⟩ := laysBox_ok h
  have hb := BxM_now hv hs b1
  obtain ⟨σ2, e2, f2⟩ := widthBy_ok hf6 hw (f1.typ h) (hm.mf f1 (by decide) (by decide) (by decide) (by decide) (by decide)) hb
  refine ⟨σ2, ?_, (f1.mono (by simp)).seq (f2.mono (by simp))⟩
  have h1 := f1.typ h
  unfold f_X6_widthNow
  simp only [chk_p, lt_p, bd_p, bc_p, oc_n, oc_s, and_self, and_true, true_and, if_true, if_false, isO_sA', isO_sB', isO_rA', hlen_sA, hlen_sB, hlen_rA, hR_sA, hR_sB, hR_rA, Typ_sA', Typ_sB', Typ_rA', O48, r48_0, r48_1, r48_2, r48_3, r48_4, r48_5, r48_6, r48_8, r48_9, r48_10, r48_11, r48_12, r48_15, r48_21, r48_22, r48_23, r48_24, r48_25, r48_28, r48_30, r48_31, r48_32, r48_35, r48_37, r48_39, r48_40, r48_41, h, h1, e1, e2]
end
section
/-! what the two halves of the heap have in common -/
def scj (j : Nat) : Bool := (decide (19 ≤ j) && decide (j ≤ 40)) || [62, 63, 64, 65, 66, 68, 69, 70, 73].contains j
def scr (S : List Nat) : Bool := S.all scj
theorem scr_ne {S : List Nat} (h : scr S = true) {j : Nat} (hj : (scj j || j == 48) = false) : j ∉ 48 :: S := fun z => by
  rcases List.mem_cons.mp z with z | z
  · subst z; exact absurd hj (by decide)
  · have h1 := List.all_eq_true.mp h j z
    rw [h1, Bool.true_or] at hj; cases hj
theorem scr_75 {S : List Nat} (h : scr S = true) {j : Nat} (hj : 76 ≤ j) : j ∉ 48 :: S := scr_ne h (by
  have e1 : (decide (j ≤ 40)) = false := by simp; omega
  have e2 : ([62, 63, 64, 65, 66, 68, 69, 70, 73].contains j) = false := by simp; omega
  have e3 : (j == 48) = false := by simp; omega
  unfold scj; rw [e1, e2, e3]; simp)
/-- every part but the last is part of another -/
def RCH (Φ : FM) : Prop := ∀ i, i + 1 < mN Φ → ∃ j, i < j ∧ j < mN Φ ∧ ((2 ≤ mK Φ j ∧ mU Φ j = i) ∨ (3 ≤ mK Φ j ∧ mV Φ j = i))
/-- the sources up to a part, as bits -/
def srcs (Φ : FM) : Nat → Int32
  | 0 => 0
  | i + 1 => srcs Φ i ||| (if mK Φ i = 0 then (1 : Int32) <<< (nI (mU Φ i)) else 0)
/-- the depth of a part -/
def depI (Φ : FM) : Nat → Nat → Nat
  | 0, _ => 0
  | n + 1, i => if mK Φ i ≤ 1 then 0 else if mK Φ i = 2 then 1 + depI Φ n (mU Φ i) else 1 + max (depI Φ n (mU Φ i)) (depI Φ n (mV Φ i))
/-- alike: part i of the one, part j of the other -/
def alI (Φ Ψ : FM) : Nat → Nat → Nat → Bool
  | 0, _, _ => false
  | n + 1, i, j => if mK Φ i ≠ mK Ψ j then false else if mK Φ i ≤ 1 then mU Φ i == mU Ψ j else alI Φ Ψ n (mU Φ i) (mU Ψ j) && (mK Φ i == 2 || alI Φ Ψ n (mV Φ i) (mV Ψ j))
def alF (Φ : FM) (i j : Nat) : Bool := alI Φ Φ 61 i j
def cntB (p : Nat → Bool) : Nat → Nat
  | 0 => 0
  | n + 1 => cntB p n + (if p n then 1 else 0)
def allB (p : Nat → Bool) : Nat → Bool
  | 0 => true
  | n + 1 => allB p n && p n
def maxN (w : Nat → Nat) : Nat → Nat
  | 0 => 0
  | n + 1 => max (maxN w n) (w n)
def unlN (Φ : FM) : Nat := cntB (fun i => allB (fun j => !(alF Φ i j)) i) (mN Φ)
def malN (Φ : FM) : Nat := maxN (fun i => cntB (alF Φ i) (mN Φ)) (mN Φ)
/-- the order in which parts end tells how they are made -/
def PFX (Φ : FM) : Prop := ∃ st : Nat → Nat, ∀ i, i < mN Φ → (mK Φ i ≤ 1 → st i = i) ∧ (mK Φ i = 2 → mU Φ i + 1 = i ∧ st i = st (mU Φ i)) ∧ (3 ≤ mK Φ i → mV Φ i + 1 = i ∧ mU Φ i + 1 = st (mV Φ i) ∧ st i = st (mU Φ i))
def Good (Φ : FM) : Prop := WF Φ ∧ RCH Φ ∧ PFX Φ
def XI (σ : HS) (φ : Nat) (Φ : FM) : Prop := hA σ φ 6 = srcs Φ (mN Φ) ∧ hA σ φ 7 = nI (depI Φ 61 (mN Φ - 1)) ∧ hA σ φ 8 = nI (unlN Φ) ∧ hA σ φ 9 = nI (malN Φ)
def rgI (a : Int32) (l h : Int) : Prop := l ≤ a.toInt ∧ a.toInt ≤ h
def SrcI (σ : HS) (a q : Nat) (V S C : Nat → Int32) : Prop := ∀ s, s < 6 → (hA σ a s = V s ∧ hA σ (a + 1) s = S s ∧ hA σ (a + 2) s = C s) ∧ (hA σ q (3 * s) = V s ∧ hA σ q (3 * s + 1) = S s ∧ hA σ q (3 * s + 2) = C s) ∧ rgI (V s) (-99) 99 ∧ rgI (S s) 0 20 ∧ rgI (C s) 0 99
def MFb (σ : HS) (b f : Nat) (Φ : FM) : Prop := hA σ (b + 4) f = nI (mN Φ) ∧ ∀ i, i < mN Φ → hA σ b (60 * f + i) = nI (mK Φ i) ∧ hA σ (b + 1) (60 * f + i) = nI (mU Φ i) ∧ hA σ (b + 2) (60 * f + i) = nI (mV Φ i) ∧ hA σ (b + 3) (60 * f + i) = nI (mP Φ i)
def FmI (σ : HS) (o r c b n : Nat) (FS : Nat → FM) : Prop := n ≤ 6 ∧ (∀ k, k < n → Good (FS k)) ∧ hA σ o 4 = nI n ∧ hA σ 48 c = nI n ∧ (∀ k, k < n → ∃ φ, hR σ r k = some φ ∧ XF σ φ (FS k) ∧ XI σ φ (FS k)) ∧ (∀ f, f < n → MFb σ b f (FS f)) ∧ ∀ k, k < 6 → okF σ (hR σ r k) = true
def TapI (σ : HS) (t : Nat) (B : Nat → Nat) : Prop := t ≤ 60 ∧ hA σ 17 1 = nI t ∧ hA σ 48 16 = nI t ∧ ∀ k, k < t → hA σ 18 k = nI (B k) ∧ hA σ 61 k = nI (B k) ∧ 1 ≤ B k ∧ B k ≤ 127
def PlI (σ : HS) (o a q c p : Nat) (PS PW PV : Nat → Int32) : Prop := p ≤ 8 ∧ hA σ o 8 = nI p ∧ hA σ 48 c = nI p ∧ ∀ k, k < p → (hA σ a k = PS k ∧ hA σ (a + 1) k = PW k ∧ hA σ (a + 2) k = PV k) ∧ (hA σ q (3 * k) = PS k ∧ hA σ q (3 * k + 1) = PW k ∧ hA σ q (3 * k + 2) = PV k) ∧ rgI (PS k) 0 5 ∧ (PW k = 0 ∧ rgI (PV k) (-99) 99 ∨ PW k = 1 ∧ rgI (PV k) 0 20 ∨ PW k = 2 ∧ rgI (PV k) 0 4)
def LstI (σ : HS) : Prop := ∀ l, l < 4 → ((hA σ 46 l = -11 ∧ hA σ 74 l = -1) ∨ ∃ n, n ≤ 8 ∧ hA σ 46 l = nI n ∧ hA σ 74 l = nI n) ∧ ∀ k, k < 8 → hB σ (42 + l) k = hB σ 75 (8 * l + k)
def WayI (σ : HS) : Prop := ∃ n, n ≤ 60 ∧ hA σ 0 8 = nI n ∧ hA σ 48 29 = nI n ∧ ∀ k, k < n → hA σ 67 k = hA σ 47 (n - 1 - k)
def ImgI (σ : HS) : Prop := (hA σ 0 2 = 0 ∧ hA σ 48 14 = 0) ∨ ((hA σ 0 2 = 1 ∧ hA σ 48 14 = 1) ∧ (∃ V S C, SrcI σ 10 50 V S C) ∧ (∃ n FS, FmI σ 9 13 13 56 n FS) ∧ ∃ p PS PW PV, PlI σ 9 14 72 38 p PS PW PV)
def INV (σ : HS) (V S C : Nat → Int32) (n : Nat) (FS : Nat → FM) : Prop := Typ σ ∧ SrcI σ 2 49 V S C ∧ FmI σ 1 5 7 51 n FS ∧ (∃ t B, TapI σ t B) ∧ (∃ p PS PW PV, PlI σ 1 6 71 36 p PS PW PV) ∧ LstI σ ∧ WayI σ ∧ ImgI σ
/-- what is kept of the heap: rows but those of P, the reference's own ints but those of Q, references but those of T -/
def Kq (P Q T : Nat → Bool) (σ σ' : HS) : Prop := hN σ ≤ hN σ' ∧ (∀ j, j < hN σ → hty σ' j = hty σ j ∧ hlen σ' j = hlen σ j) ∧ (∀ j, (j < 76 ∧ T j = false) ∨ (j < hN σ ∧ hty σ j = 0) → hR σ' j = hR σ j) ∧ (∀ j, j < hN σ → P j = false → hA σ' j = hA σ j ∧ hB σ' j = hB σ j) ∧ (∀ k, Q k = false → hA σ' 48 k = hA σ 48 k) ∧ (∀ j, 76 ≤ j → P j = false) ∧ ∀ j, j < 76 → T j = true → j = 5 ∨ j = 13
theorem Kq.typ {P Q T : Nat → Bool} {σ σ' : HS} (h : Kq P Q T σ σ') (ht : Typ σ) : Typ σ' := ht.cong h.1 (fun j hj => ⟨(h.2.1 j (Nat.lt_of_lt_of_le hj ht.1)).1, (h.2.1 j (Nat.lt_of_lt_of_le hj ht.1)).2, fun e5 e13 => h.2.2.1 j (Or.inl ⟨hj, by
  cases ht : T j with
  | false => rfl
  | true => rcases h.2.2.2.2.2.2 j hj ht with z | z
            · exact absurd z e5
            · exact absurd z e13⟩)⟩)
theorem Kq.A {P Q T : Nat → Bool} {σ σ' : HS} (h : Kq P Q T σ σ') {j : Nat} (hj : j < hN σ) (hs : P j = false) (k : Nat) : hA σ' j k = hA σ j k := congrFun (h.2.2.2.1 j hj hs).1 k
theorem Kq.B {P Q T : Nat → Bool} {σ σ' : HS} (h : Kq P Q T σ σ') {j : Nat} (hj : j < hN σ) (hs : P j = false) (k : Nat) : hB σ' j k = hB σ j k := congrFun (h.2.2.2.1 j hj hs).2 k
theorem scj_76 {j : Nat} (hj : 76 ≤ j) : (scj j || j == 48) = false := by
  have e1 : (decide (j ≤ 40)) = false := by simp; omega
  have e2 : ([62, 63, 64, 65, 66, 68, 69, 70, 73].contains j) = false := by simp; omega
  have e3 : (j == 48) = false := by simp; omega
  unfold scj; rw [e1, e2, e3]; simp
/-- all but scratch is kept -/
def Kp (σ σ' : HS) : Prop := Kq (fun j => scj j || j == 48) (fun k => decide (17 ≤ k) && decide (k ≤ 20)) (fun _ => false) σ σ'
theorem Kp.hN {σ σ' : HS} (h : Kp σ σ') : hN σ ≤ hN σ' := h.1
theorem Kp.typ {σ σ' : HS} (h : Kp σ σ') (ht : Typ σ) : Typ σ' := Kq.typ h ht
theorem Mf.kp {S : List Nat} {σ σ' : HS} (h : Mf S σ σ') (hs : scr S = true) : Kp σ σ' := ⟨Nat.le_of_eq h.1.1.symm, fun j _ => ⟨h.1.ty j, h.1.len j⟩, fun j _ => h.1.Rr j, fun j _ hj => h.1.2.2.2.2 j (scr_ne hs hj), fun k hk => h.2.1 k (by simp at hk; omega), fun j hj => scj_76 hj, fun j _ hj => by cases hj⟩
theorem Fr.kp {S : List Nat} {σ σ' : HS} (h : Fr S σ σ') (hs : scr S = true) : Kp σ σ' := by
  have n48 : 48 ∉ S := fun z => by
    have h1 := List.all_eq_true.mp hs 48 z
    exact absurd h1 (by decide)
  exact Mf.kp (S := S) ⟨h.mono (fun j hj => List.mem_cons_of_mem _ hj), fun k _ => h.A n48 k, fun k _ => h.B n48 k⟩ hs
theorem Kp.rf {σ : HS} : Kp σ σ := ⟨Nat.le_refl _, fun _ _ => ⟨rfl, rfl⟩, fun _ _ => rfl, fun _ _ _ => ⟨rfl, rfl⟩, fun _ _ => rfl, fun j hj => scj_76 hj, fun j _ hj => by cases hj⟩
theorem Fr.kq {S : List Nat} {σ σ' : HS} (h : Fr S σ σ') (hs : lows S = true) (hn : S.contains 48 = false) : Kq (fun j => S.contains j) (fun _ => false) (fun _ => false) σ σ' := ⟨Nat.le_of_eq h.1.symm, fun j _ => ⟨h.ty j, h.len j⟩, fun j _ => h.Rr j, fun j _ hj => h.2.2.2.2 j (fun z => by
  have := List.contains_iff_mem.mpr z
  exact absurd (this.symm.trans hj) (by decide)), fun k _ => h.A (fun z => by
  have := List.contains_iff_mem.mpr z
  rw [this] at hn; cases hn) k, fun j hj => by
  cases hc : S.contains j with
  | false => exact hc
  | true => exact absurd (List.contains_iff_mem.mp hc) (lows_ne hs hj), fun j _ hj => by cases hj⟩
theorem Kq.isO {P Q T : Nat → Bool} {σ σ' : HS} (h : Kq P Q T σ σ') {t j : Nat} (hj : isO σ t j) : isO σ' t j := ⟨Nat.lt_of_lt_of_le hj.1 h.1, (h.2.1 j hj.1).1.trans hj.2⟩
theorem Kq.ft {P Q T : Nat → Bool} {σ σ' : HS} (hk : Kq P Q T σ σ') {φ n : Nat} (h : FT σ φ n) : FT σ' φ n := by
  obtain ⟨h0, h1, ⟨a1, a2, a3⟩, ⟨b1, b2, b3⟩, ⟨c1, c2, c3⟩, ⟨d1, d2, d3⟩, ⟨e1, e2, e3⟩⟩ := h
  have er : ∀ k, hR σ' φ k = hR σ φ k := fun k => congrFun (hk.2.2.1 φ (Or.inr ⟨h1.1, h1.2⟩)) k
  exact ⟨h0, hk.isO h1, ⟨(er _).trans a1, hk.isO a2, (hk.2.1 _ a2.1).2.trans a3⟩, ⟨(er _).trans b1, hk.isO b2, (hk.2.1 _ b2.1).2.trans b3⟩, ⟨(er _).trans c1, hk.isO c2, (hk.2.1 _ c2.1).2.trans c3⟩, ⟨(er _).trans d1, hk.isO d2, (hk.2.1 _ d2.1).2.trans d3⟩, ⟨(er _).trans e1, hk.isO e2, (hk.2.1 _ e2.1).2.trans e3⟩⟩
theorem Kq.xf {P Q T : Nat → Bool} {σ σ' : HS} (hk : Kq P Q T σ σ') {φ : Nat} {Φ : FM} (h : XF σ φ Φ) : XF σ' φ Φ := by
  obtain ⟨ft, hn, hc⟩ := h
  have f0 := ft.1
  have ft' := ft
  obtain ⟨h0, h1, ⟨a1, a2, a3⟩, ⟨b1, b2, b3⟩, ⟨c1, c2, c3⟩, ⟨d1, d2, d3⟩, ⟨e1, e2, e3⟩⟩ := ft'
  refine ⟨hk.ft ft, (hk.A h1.1 (hk.2.2.2.2.2.1 _ h0) 0).trans hn, fun i hi => ?_⟩
  obtain ⟨q1, q2, q3, q4, q5⟩ := hc i hi
  exact ⟨(hk.A a2.1 (hk.2.2.2.2.2.1 _ (by omega)) i).trans q1, (hk.A b2.1 (hk.2.2.2.2.2.1 _ (by omega)) i).trans q2, (hk.A c2.1 (hk.2.2.2.2.2.1 _ (by omega)) i).trans q3, (hk.A d2.1 (hk.2.2.2.2.2.1 _ (by omega)) i).trans q4, (hk.A e2.1 (hk.2.2.2.2.2.1 _ (by omega)) i).trans q5⟩
theorem Kq.xi {P Q T : Nat → Bool} {σ σ' : HS} (hk : Kq P Q T σ σ') {φ : Nat} {Φ : FM} (hx : XF σ φ Φ) (h : XI σ φ Φ) : XI σ' φ Φ := by
  have h1 := hx.1.2.1.1
  have e := fun k => hk.A h1 (hk.2.2.2.2.2.1 _ hx.1.1) k
  exact ⟨(e _).trans h.1, (e _).trans h.2.1, (e _).trans h.2.2.1, (e _).trans h.2.2.2⟩
theorem Kq.okk {P Q T : Nat → Bool} {σ σ' : HS} (hk : Kq P Q T σ σ') {o : Option Nat} (h : okF σ o = true) : okF σ' o = true := by
  cases o with
  | none => rfl
  | some v =>
    simp only [okF, Bool.and_eq_true, decide_eq_true_eq] at h ⊢
    exact hk.isO h
theorem Kq.src {P Q T : Nat → Bool} {σ σ' : HS} (hk : Kq P Q T σ σ') (ht : Typ σ) {a q : Nat} (hq : q < 76) (ha : a + 2 < 76) (s0 : P a = false) (s1 : P (a + 1) = false) (s2 : P (a + 2) = false) (s3 : P q = false) {V S C : Nat → Int32} (h : SrcI σ a q V S C) : SrcI σ' a q V S C := fun s hs => by
  have t := ht.1
  obtain ⟨⟨a1, a2, a3⟩, ⟨b1, b2, b3⟩, r⟩ := h s hs
  have e := fun j (h1 : j < 76) h2 k => hk.A (j := j) (Nat.lt_of_lt_of_le h1 t) h2 k
  exact ⟨⟨(e _ (by omega) s0 _).trans a1, (e _ (by omega) s1 _).trans a2, (e _ (by omega) s2 _).trans a3⟩, ⟨(e _ hq s3 _).trans b1, (e _ hq s3 _).trans b2, (e _ hq s3 _).trans b3⟩, r⟩
theorem Kq.fm {P Q T : Nat → Bool} {σ σ' : HS} (hk : Kq P Q T σ σ') (ht : Typ σ) {o r c b n : Nat} (ho : o < 76) (hr : r < 76 ∧ T r = false) (hb : b + 4 < 76) (hc : Q c = false) (so4 : hA σ' o 4 = hA σ o 4) (s0 : P b = false) (s1 : P (b + 1) = false) (s2 : P (b + 2) = false) (s3 : P (b + 3) = false) (s4 : P (b + 4) = false) {FS : Nat → FM} (h : FmI σ o r c b n FS) : FmI σ' o r c b n FS := by
  have t := ht.1
  have e := fun j (h1 : j < 76) h2 k => hk.A (j := j) (Nat.lt_of_lt_of_le h1 t) h2 k
  have er : ∀ k, hR σ' r k = hR σ r k := fun k => congrFun (hk.2.2.1 r (Or.inl hr)) k
  obtain ⟨h1, h2, h3, h4, h5, h6, h7⟩ := h
  refine ⟨h1, h2, so4.trans h3, (hk.2.2.2.2.1 c hc).trans h4, fun k hk' => ?_, fun f hf => ?_, fun k hk' => ?_⟩
  · obtain ⟨φ, p1, p2, p3⟩ := h5 k hk'
    exact ⟨φ, (er k).trans p1, hk.xf p2, hk.xi p2 p3⟩
  · obtain ⟨m1, m2⟩ := h6 f hf
    refine ⟨(e _ (by omega) s4 _).trans m1, fun i hi => ?_⟩
    obtain ⟨q1, q2, q3, q4⟩ := m2 i hi
    exact ⟨(e _ (by omega) s0 _).trans q1, (e _ (by omega) s1 _).trans q2, (e _ (by omega) s2 _).trans q3, (e _ (by omega) s3 _).trans q4⟩
  · rw [er k]; exact hk.okk (h7 k hk')
theorem Kq.tap {P Q T : Nat → Bool} {σ σ' : HS} (hk : Kq P Q T σ σ') (ht : Typ σ) (p17 : P 17 = false) (p18 : P 18 = false) (p61 : P 61 = false) (q16 : Q 16 = false) {t : Nat} {B : Nat → Nat} (h : TapI σ t B) : TapI σ' t B := by
  have t76 := ht.1
  have e := fun j (h1 : j < 76) h2 k => hk.A (j := j) (Nat.lt_of_lt_of_le h1 t76) h2 k
  obtain ⟨h1, h2, h3, h4⟩ := h
  refine ⟨h1, (e _ (by decide) p17 _).trans h2, (hk.2.2.2.2.1 16 q16).trans h3, fun k hk' => ?_⟩
  obtain ⟨q1, q2, q3⟩ := h4 k hk'
  exact ⟨(e _ (by decide) p18 _).trans q1, (e _ (by decide) p61 _).trans q2, q3⟩
theorem Kq.pl {P Q T : Nat → Bool} {σ σ' : HS} (hk : Kq P Q T σ σ') (ht : Typ σ) {o a q c p : Nat} (ho : o < 76) (ha : a + 2 < 76) (hq : q < 76) (hc : Q c = false) (so8 : hA σ' o 8 = hA σ o 8) (s0 : P a = false) (s1 : P (a + 1) = false) (s2 : P (a + 2) = false) (s3 : P q = false) {PS PW PV : Nat → Int32} (h : PlI σ o a q c p PS PW PV) : PlI σ' o a q c p PS PW PV := by
  have t76 := ht.1
  have e := fun j (h1 : j < 76) h2 k => hk.A (j := j) (Nat.lt_of_lt_of_le h1 t76) h2 k
  obtain ⟨h1, h2, h3, h4⟩ := h
  refine ⟨h1, so8.trans h2, (hk.2.2.2.2.1 c hc).trans h3, fun k hk' => ?_⟩
  obtain ⟨⟨q1, q2, q3⟩, ⟨r1, r2, r3⟩, r⟩ := h4 k hk'
  exact ⟨⟨(e _ (by omega) s0 _).trans q1, (e _ (by omega) s1 _).trans q2, (e _ (by omega) s2 _).trans q3⟩, ⟨(e _ hq s3 _).trans r1, (e _ hq s3 _).trans r2, (e _ hq s3 _).trans r3⟩, r⟩
theorem Kq.lst {P Q T : Nat → Bool} {σ σ' : HS} (hk : Kq P Q T σ σ') (ht : Typ σ) (p46 : P 46 = false) (p74 : P 74 = false) (p42 : ∀ l, l < 4 → P (42 + l) = false) (p75 : P 75 = false) (h : LstI σ) : LstI σ' := fun l hl => by
  have t76 := ht.1
  obtain ⟨h1, h2⟩ := h l hl
  have e1 := hk.A (j := 46) (by omega) p46 l
  have e2 := hk.A (j := 74) (by omega) p74 l
  rw [e1, e2]
  refine ⟨h1, fun k hk' => ?_⟩
  rw [hk.B (j := 42 + l) (by omega) (p42 l hl) k, hk.B (j := 75) (by omega) p75]
  exact h2 k hk'
theorem Kq.way {P Q T : Nat → Bool} {σ σ' : HS} (hk : Kq P Q T σ σ') (ht : Typ σ) (p0 : hA σ' 0 8 = hA σ 0 8) (p47 : P 47 = false) (p67 : P 67 = false) (q29 : Q 29 = false) (h : WayI σ) : WayI σ' := by
  have t76 := ht.1
  obtain ⟨n, h1, h2, h3, h4⟩ := h
  refine ⟨n, h1, p0.trans h2, (hk.2.2.2.2.1 29 q29).trans h3, fun k hk' => ?_⟩
  rw [hk.A (j := 67) (by omega) p67, hk.A (j := 47) (by omega) p47]
  exact h4 k hk'
theorem Kq.img {P Q T : Nat → Bool} {σ σ' : HS} (hk : Kq P Q T σ σ') (ht : Typ σ) (e1 : hA σ' 0 2 = hA σ 0 2) (q14 : Q 14 = false) (q13 : Q 13 = false) (q38 : Q 38 = false) (t13 : T 13 = false) (pr : ∀ j, (9 ≤ j ∧ j ≤ 16) ∨ j = 50 ∨ (56 ≤ j ∧ j ≤ 60) ∨ j = 72 → P j = false) (h : ImgI σ) : ImgI σ' := by
  have t76 := ht.1
  have e2 := hk.2.2.2.2.1 14 q14
  rcases h with h | ⟨h1, ⟨V, S, C, h2⟩, ⟨n, FS, h3⟩, ⟨p, PS, PW, PV, h4⟩⟩
  · exact Or.inl (by rw [e1, e2]; exact h)
  · exact Or.inr ⟨by rw [e1, e2]; exact h1, ⟨V, S, C, hk.src ht (by decide) (by decide) (pr _ (by decide)) (pr _ (by decide)) (pr _ (by decide)) (pr _ (by decide)) h2⟩, ⟨n, FS, hk.fm ht (by decide) ⟨by decide, t13⟩ (by decide) q13 (hk.A (by omega) (pr 9 (by decide)) _) (pr _ (by decide)) (pr _ (by decide)) (pr _ (by decide)) (pr _ (by decide)) (pr _ (by decide)) h3⟩, ⟨p, PS, PW, PV, hk.pl ht (by decide) (by decide) (by decide) q38 (hk.A (by omega) (pr 9 (by decide)) _) (pr _ (by decide)) (pr _ (by decide)) (pr _ (by decide)) (pr _ (by decide)) h4⟩⟩
theorem INV.kp {σ σ' : HS} {V S C : Nat → Int32} {n : Nat} {FS : Nat → FM} (h : INV σ V S C n FS) (hk : Kp σ σ') : INV σ' V S C n FS := by
  obtain ⟨t, h1, h2, ⟨t0, B, h3⟩, ⟨p, PS, PW, PV, h4⟩, h5, h6, h7⟩ := h
  exact ⟨hk.typ t, Kq.src hk t (by decide) (by decide) (by decide) (by decide) (by decide) (by decide) h1, Kq.fm hk t (by decide) (by decide) (by decide) (by decide) (Kq.A hk (Nat.lt_of_lt_of_le (by decide) t.1) (by decide) 4) (by decide) (by decide) (by decide) (by decide) (by decide) h2, ⟨t0, B, Kq.tap hk t (by decide) (by decide) (by decide) (by decide) h3⟩, ⟨p, PS, PW, PV, Kq.pl hk t (by decide) (by decide) (by decide) (by decide) (Kq.A hk (Nat.lt_of_lt_of_le (by decide) t.1) (by decide) 8) (by decide) (by decide) (by decide) (by decide) h4⟩, Kq.lst hk t (by decide) (by decide) (by decide) (by decide) h5, Kq.way hk t (Kq.A hk (Nat.lt_of_lt_of_le (by decide) t.1) (by decide) 8) (by decide) (by decide) (by decide) h6, Kq.img hk t (Kq.A hk (Nat.lt_of_lt_of_le (by decide) t.1) (by decide) 2) (by decide) (by decide) (by decide) (by decide) (fun j hj => by
    have h16 : j = 9 ∨ j = 10 ∨ j = 11 ∨ j = 12 ∨ j = 13 ∨ j = 14 ∨ j = 15 ∨ j = 16 ∨ j = 50 ∨ j = 56 ∨ j = 57 ∨ j = 58 ∨ j = 59 ∨ j = 60 ∨ j = 72 := by omega
    rcases h16 with z | z | z | z | z | z | z | z | z | z | z | z | z | z | z <;> subst z <;> decide) h7⟩
end
section
/-! what many calls share -/
theorem i_lt {a b : Int32} : (a < b) = (a.toInt < b.toInt) := propext Int32.lt_iff_toInt_lt
theorem i_le {a b : Int32} : (a ≤ b) = (a.toInt ≤ b.toInt) := propext Int32.le_iff_toInt_le
theorem argC (a : Int32) (n : Nat) (hn : n < 1000) : (∃ k, k < n ∧ a = nI k) ∨ (a.toInt < 0 ∨ (n : Int) ≤ a.toInt) := by
  by_cases h : a.toInt < 0
  · exact Or.inr (Or.inl h)
  by_cases h2 : (n : Int) ≤ a.toInt
  · exact Or.inr (Or.inr h2)
  refine Or.inl ⟨a.toInt.toNat, by omega, ?_⟩
  apply Int32.toInt_inj.mp
  rw [nI_toInt (by omega)]; omega
theorem z320 : (0 : Int32).toInt = 0 := rfl
theorem nT {k : Nat} (h : k < 1000) : (nI k).toInt = k := nI_toInt (by omega)
theorem isIn_ok (a l h : Int32) (σ : HS) : f_X6_isIn a.toInt64 l.toInt64 h.toInt64 σ = some (if l.toInt ≤ a.toInt ∧ a.toInt ≤ h.toInt then 1 else 0, σ) := by
  unfold f_X6_isIn
  simp only [zc_lt, zc_gt, Int32.toInt_toInt64]
  by_cases c1 : a.toInt < l.toInt
  · rw [if_pos c1, if_neg (by omega)]
  · rw [if_neg c1]
    by_cases c2 : h.toInt < a.toInt
    · rw [if_pos c2, if_neg (by omega)]
    · rw [if_neg c2, if_pos (by omega)]
theorem isIn64_ok (a l h : Int64) (σ : HS) : f_X6_isIn a l h σ = some (if l.toInt ≤ a.toInt ∧ a.toInt ≤ h.toInt then 1 else 0, σ) := by
  unfold f_X6_isIn
  simp only [zc_lt, zc_gt]
  by_cases c1 : a.toInt < l.toInt
  · rw [if_pos c1, if_neg (by omega)]
  · rw [if_neg c1]
    by_cases c2 : h.toInt < a.toInt
    · rw [if_pos c2, if_neg (by omega)]
    · rw [if_neg c2, if_pos (by omega)]
theorem isIn_c (a : Int32) (l h : Int64) (l' h' : Int) (e1 : l.toInt = l') (e2 : h.toInt = h') (σ : HS) : f_X6_isIn a.toInt64 l h σ = some (if l' ≤ a.toInt ∧ a.toInt ≤ h' then 1 else 0, σ) := by
  rw [isIn64_ok, e1, e2, Int32.toInt_toInt64]
theorem b01 {c : Prop} [Decidable c] : bit (if c then (1 : Int32) else 0) := by
  by_cases h : c
  · rw [if_pos h]; exact Or.inr rfl
  · rw [if_neg h]; exact Or.inl rfl
theorem if0 {c : Prop} [Decidable c] : ((if c then (1 : Int32) else 0) = 0) = ¬ c := ife1
theorem isFormula_ok {σ : HS} (h : Typ σ) {n : Nat} (hn : n ≤ 6) (e : hA σ 48 7 = nI n) (a : Int32) : f_X6_isFormula 48 a σ = some (if 0 ≤ a.toInt ∧ a.toInt < n then 1 else 0, σ) := by
  have e2 : ((nI n - 1).toInt64).toInt = (n : Int) - 1 := by
    rw [Int32.toInt_toInt64, i_sub (by rw [nT (by omega)]; omega) (by rw [nT (by omega)]; omega) (by decide) (by decide), nT (by omega)]; rfl
  have e3 := isIn_c a 0 (nI n - 1).toInt64 0 ((n : Int) - 1) rfl e2 σ
  have e4 : (if (0 : Int) ≤ a.toInt ∧ a.toInt ≤ (n : Int) - 1 then (1 : Int32) else 0) = (if 0 ≤ a.toInt ∧ a.toInt < n then 1 else 0) := by
    by_cases c : 0 ≤ a.toInt ∧ a.toInt < n
    · rw [if_pos c, if_pos (by omega)]
    · rw [if_neg c, if_neg (by omega)]
  rw [e4] at e3
  unfold f_X6_isFormula
  simp only [chk_p, lt_p, bd_p, bc_p, oc_n, oc_s, and_self, and_true, true_and, if_true, if_false, isO_sA', isO_sB', isO_rA', hlen_sA, hlen_sB, hlen_rA, hR_sA, hR_sB, hR_rA, Typ_sA', Typ_sB', Typ_rA', O48, r48_0, r48_1, r48_2, r48_3, r48_4, r48_5, r48_6, r48_8, r48_9, r48_10, r48_11, r48_12, r48_15, r48_21, r48_22, r48_23, r48_24, r48_25, r48_28, r48_30, r48_31, r48_32, r48_35, r48_37, r48_39, r48_40, r48_41, h, e, e3, bitE b01]
theorem mIsSource_ok (a : Int32) (σ : HS) : f_X6_isSource a σ = some (if 0 ≤ a.toInt ∧ a.toInt < 6 then 1 else 0, σ) := by
  have e3 := isIn_c a 0 5 0 5 rfl rfl σ
  have e4 : (if (0 : Int) ≤ a.toInt ∧ a.toInt ≤ 5 then (1 : Int32) else 0) = (if 0 ≤ a.toInt ∧ a.toInt < 6 then 1 else 0) := by
    by_cases c : 0 ≤ a.toInt ∧ a.toInt < 6
    · rw [if_pos c, if_pos (by omega)]
    · rw [if_neg c, if_neg (by omega)]
  rw [e4] at e3
  unfold f_X6_isSource
  simp only [chk_p, lt_p, bd_p, bc_p, oc_n, oc_s, and_self, and_true, true_and, if_true, if_false, isO_sA', isO_sB', isO_rA', hlen_sA, hlen_sB, hlen_rA, hR_sA, hR_sB, hR_rA, Typ_sA', Typ_sB', Typ_rA', e3, bitE b01]
theorem mIsList_ok (a : Int32) (σ : HS) : f_X6_isList a σ = some (if 0 ≤ a.toInt ∧ a.toInt < 4 then 1 else 0, σ) := by
  have e3 := isIn_c a 0 3 0 3 rfl rfl σ
  have e4 : (if (0 : Int) ≤ a.toInt ∧ a.toInt ≤ 3 then (1 : Int32) else 0) = (if 0 ≤ a.toInt ∧ a.toInt < 4 then 1 else 0) := by
    by_cases c : 0 ≤ a.toInt ∧ a.toInt < 4
    · rw [if_pos c, if_pos (by omega)]
    · rw [if_neg c, if_neg (by omega)]
  rw [e4] at e3
  unfold f_X6_isList
  simp only [chk_p, lt_p, bd_p, bc_p, oc_n, oc_s, and_self, and_true, true_and, if_true, if_false, isO_sA', isO_sB', isO_rA', hlen_sA, hlen_sB, hlen_rA, hR_sA, hR_sB, hR_rA, Typ_sA', Typ_sB', Typ_rA', e3, bitE b01]
theorem z6 : (6 : Int32).toInt = 6 := rfl
theorem z4 : (4 : Int32).toInt = 4 := rfl
theorem isSource_ok (a : Int32) (σ : HS) : f_X5_isSource a σ = some (if 0 ≤ a.toInt ∧ a.toInt < 6 then 1 else 0, σ) := by
  unfold f_X5_isSource
  simp only [i_lt, i_le, z320, z6]
  by_cases c1 : a.toInt < 0
  · rw [if_pos c1, if_neg (by omega)]
  · rw [if_neg c1]
    by_cases c2 : a.toInt < 6
    · first
      | rw [if_pos c2, if_pos (by omega)]
      | rw [if_neg (by omega), if_pos (by omega)]
    · first
      | rw [if_neg c2, if_neg (by omega)]
      | rw [if_pos (by omega), if_neg (by omega)]
theorem isList_ok (a : Int32) (σ : HS) : f_X5_isList a σ = some (if 0 ≤ a.toInt ∧ a.toInt < 4 then 1 else 0, σ) := by
  unfold f_X5_isList
  simp only [i_lt, i_le, z320, z4]
  by_cases c1 : a.toInt < 0
  · rw [if_pos c1, if_neg (by omega)]
  · rw [if_neg c1]
    by_cases c2 : a.toInt < 4
    · first
      | rw [if_pos c2, if_pos (by omega)]
      | rw [if_neg (by omega), if_pos (by omega)]
    · first
      | rw [if_neg c2, if_neg (by omega)]
      | rw [if_pos (by omega), if_neg (by omega)]
theorem formulaOf_no {σ : HS} (h : Typ σ) {n : Nat} (hn : n ≤ 6) (e : hA σ 1 4 = nI n) {a : Int32} (ha : a.toInt < 0 ∨ (n : Int) ≤ a.toInt) : f_X5_formulaOf 0 a σ = some (none, σ) := by
  unfold f_X5_formulaOf
  simp only [i_lt, z320]
  by_cases c1 : a.toInt < 0
  · rw [if_pos c1]
  · have c2 : ¬ a.toInt < (nI n).toInt := by rw [nT (by omega)]; omega
    simp only [c1, c2, if_false, chk_p, lt_p, bd_p, bc_p, oc_n, oc_s, and_self, and_true, true_and, if_true, if_false, isO_sA', isO_sB', isO_rA', hlen_sA, hlen_sB, hlen_rA, hR_sA, hR_sB, hR_rA, Typ_sA', Typ_sB', Typ_rA', O0, r0_0, r0_1, r0_3, r0_4, r0_5, r0_6, r0_7, O1, r1_0, r1_1, r1_2, r1_3, r1_5, r1_6, r1_7, h, e]
theorem formulaOf_so {σ : HS} (h : Typ σ) {n : Nat} (hn : n ≤ 6) (e : hA σ 1 4 = nI n) {k : Nat} (hk : k < n) : f_X5_formulaOf 0 (nI k) σ = some (hR σ 5 k, σ) := by
  have ie := inbE (i := k) (n := 6) (by omega) (by omega)
  have ck := cl1000 (i := k) (by omega)
  unfold f_X5_formulaOf
  have c1 : ¬ (nI k < 0) := by rw [i_lt, nT (by omega), z320]; omega
  have c2 : nI k < nI n := by rw [i_lt, nT (by omega), nT (by omega)]; omega
  simp only [c1, c2, if_false, chk_p, lt_p, bd_p, bc_p, oc_n, oc_s, and_self, and_true, true_and, if_true, if_false, isO_sA', isO_sB', isO_rA', hlen_sA, hlen_sB, hlen_rA, hR_sA, hR_sB, hR_rA, Typ_sA', Typ_sB', Typ_rA', O0, r0_0, r0_1, r0_3, r0_4, r0_5, r0_6, r0_7, O1, r1_0, r1_1, r1_2, r1_3, r1_5, r1_6, r1_7, O5, l5, h, e, ie, ck]
theorem hasWidth_ok {σ : HS} (h : Typ σ) {x : Option (Int × Int)} (ht : Th σ x) : f_X4_hasWidth 24 σ = some (if (WD x).isSome then 1 else 0, σ) := by
  unfold f_X4_hasWidth
  cases x with
  | none =>
    have e : (hA σ 24 2 = 0) = False := by rw [show hA σ 24 2 = 1 from ht]; exact beq1
    simp only [chk_p, lt_p, bd_p, bc_p, oc_n, oc_s, and_self, and_true, true_and, if_true, if_false, isO_sA', isO_sB', isO_rA', hlen_sA, hlen_sB, hlen_rA, hR_sA, hR_sB, hR_rA, Typ_sA', Typ_sB', Typ_rA', O24, r24_0, r24_1, r24_5, r24_6, r24_7, r24_8, r24_9, h, e, if_false, WD]
    rfl
  | some p =>
    obtain ⟨a1, a2, a3, a4⟩ := ht
    have ed := differenceFits_ok (hB σ 24 4) (hB σ 24 3) σ
    rw [a2, a3] at ed
    by_cases g : inR (p.2 - p.1)
    · rw [if_pos g] at ed
      simp only [chk_p, lt_p, bd_p, bc_p, oc_n, oc_s, and_self, and_true, true_and, if_true, if_false, isO_sA', isO_sB', isO_rA', hlen_sA, hlen_sB, hlen_rA, hR_sA, hR_sB, hR_rA, Typ_sA', Typ_sB', Typ_rA', O24, r24_0, r24_1, r24_5, r24_6, r24_7, r24_8, r24_9, h, a1, ed, beq1, if_false, WD, if_pos g]
      rfl
    · rw [if_neg g] at ed
      simp only [chk_p, lt_p, bd_p, bc_p, oc_n, oc_s, and_self, and_true, true_and, if_true, if_false, isO_sA', isO_sB', isO_rA', hlen_sA, hlen_sB, hlen_rA, hR_sA, hR_sB, hR_rA, Typ_sA', Typ_sB', Typ_rA', O24, r24_0, r24_1, r24_5, r24_6, r24_7, r24_8, r24_9, h, a1, ed, WD, if_neg g]
      rfl
/-- what a span tells of an end asked for -/
def EV (x : Option (Int × Int)) (e : Nat) : Int64 := match x with
  | none => -9223372036854775807
  | some p => if e = 0 then Int64.ofInt p.1 else if e = 1 then Int64.ofInt p.2 else oW (WD (some p))
theorem told_ok {σ : HS} (h : Typ σ) {x : Option (Int × Int)} (ht : Th σ x) {e : Nat} (he : e < 3) : f_X4_told 24 (nI e) σ = some (EV x e, σ) := by
  have hw := hasWidth_ok h ht
  unfold f_X4_told
  cases x with
  | none =>
    have e : (hA σ 24 2 = 0) = False := by rw [show hA σ 24 2 = 1 from ht]; exact beq1
    simp only [chk_p, lt_p, bd_p, bc_p, oc_n, oc_s, and_self, and_true, true_and, if_true, if_false, isO_sA', isO_sB', isO_rA', hlen_sA, hlen_sB, hlen_rA, hR_sA, hR_sB, hR_rA, Typ_sA', Typ_sB', Typ_rA', O24, r24_0, r24_1, r24_5, r24_6, r24_7, r24_8, r24_9, h, e, if_false]
    rfl
  | some p =>
    obtain ⟨a1, a2, a3, a4⟩ := ht
    have e3 : e = 0 ∨ e = 1 ∨ e = 2 := by omega
    have ea1 : (hA σ 24 2 = 0) = True := eq_true a1
    rcases e3 with z | z | z
    · subst z
      simp only [chk_p, lt_p, bd_p, bc_p, oc_n, oc_s, and_self, and_true, true_and, if_true, if_false, isO_sA', isO_sB', isO_rA', hlen_sA, hlen_sB, hlen_rA, hR_sA, hR_sB, hR_rA, Typ_sA', Typ_sB', Typ_rA', O24, r24_0, r24_1, r24_5, r24_6, r24_7, r24_8, r24_9, h, ea1, show (nI 0 = 2) = False from eq_false (by decide), show (nI 0 = 0) = True from eq_true rfl, if_false]
      rw [show EV (some p) 0 = Int64.ofInt p.1 from rfl, ofI_eq a2]
    · subst z
      simp only [chk_p, lt_p, bd_p, bc_p, oc_n, oc_s, and_self, and_true, true_and, if_true, if_false, isO_sA', isO_sB', isO_rA', hlen_sA, hlen_sB, hlen_rA, hR_sA, hR_sB, hR_rA, Typ_sA', Typ_sB', Typ_rA', O24, r24_0, r24_1, r24_5, r24_6, r24_7, r24_8, r24_9, h, ea1, show (nI 1 = 2) = False from eq_false (by decide), show (nI 1 = 0) = False from eq_false (by decide), show (nI 1 = 1) = True from eq_true rfl, if_false]
      rw [show EV (some p) 1 = Int64.ofInt p.2 from rfl, ofI_eq a3]
    · subst z
      rw [show EV (some p) 2 = oW (WD (some p)) from rfl]
      by_cases g : inR (p.2 - p.1)
      · have ew : WD (some p) = some (p.2 - p.1) := if_pos g
        rw [ew] at hw ⊢
        simp only [chk_p, lt_p, bd_p, bc_p, oc_n, oc_s, and_self, and_true, true_and, if_true, if_false, isO_sA', isO_sB', isO_rA', hlen_sA, hlen_sB, hlen_rA, hR_sA, hR_sB, hR_rA, Typ_sA', Typ_sB', Typ_rA', O24, r24_0, r24_1, r24_5, r24_6, r24_7, r24_8, r24_9, h, ea1, show (nI 2 = 2) = True from eq_true rfl, hw, Option.isSome_some, beq1, show (nI 2 = 0) = False from eq_false (by decide), show (nI 2 = 1) = False from eq_false (by decide), if_false, oW]
        rw [ofI_eq (a := hB σ 24 4 - hB σ 24 3) (by rw [l_sub (by rw [a2, a3]; exact g), a2, a3])]
      · have ew : WD (some p) = none := if_neg g
        rw [ew] at hw ⊢
        simp only [chk_p, lt_p, bd_p, bc_p, oc_n, oc_s, and_self, and_true, true_and, if_true, if_false, isO_sA', isO_sB', isO_rA', hlen_sA, hlen_sB, hlen_rA, hR_sA, hR_sB, hR_rA, Typ_sA', Typ_sB', Typ_rA', O24, r24_0, r24_1, r24_5, r24_6, r24_7, r24_8, r24_9, h, ea1, show (nI 2 = 2) = True from eq_true rfl, hw, Option.isSome_none, Bool.false_eq_true, if_false, oW]
end
section
/-! what a call changes, by rows -/
theorem isO_sR' (σ : HS) (j k : Nat) (v : Option Nat) (t a : Nat) : isO (sR σ j k v) t a = isO σ t a := rfl
theorem hlen_sR (σ : HS) (j k : Nat) (v : Option Nat) (a : Nat) : hlen (sR σ j k v) a = hlen σ a := rfl
theorem Typ_sR5 {σ : HS} {k : Nat} {v : Option Nat} (h : Typ σ) : Typ (sR σ 5 k v) = True := eq_true (h.cong (Nat.le_refl _) (fun j _ => ⟨rfl, rfl, fun e _ => up2_ne e⟩))
theorem Typ_sR13 {σ : HS} {k : Nat} {v : Option Nat} (h : Typ σ) : Typ (sR σ 13 k v) = True := eq_true (h.cong (Nat.le_refl _) (fun j _ => ⟨rfl, rfl, fun _ e => up2_ne e⟩))
def tsok (l : List Nat) : Bool := l.all (fun j => j == 5 || j == 13)
def KL (S qs ts : List Nat) (σ σ' : HS) : Prop := Kq (fun j => S.contains j) (fun k => qs.contains k) (fun j => ts.contains j) σ σ'
theorem cont_t {S : List Nat} {j : Nat} (h : j ∈ S) : S.contains j = true := List.contains_iff_mem.mpr h
theorem cont_76 {S : List Nat} (hs : lows S = true) {j : Nat} (hj : 76 ≤ j) : S.contains j = false := by
  cases hc : S.contains j with
  | false => rfl
  | true => exact absurd (List.contains_iff_mem.mp hc) (lows_ne hs hj)
theorem tsok_e {ts : List Nat} (h : tsok ts = true) {j : Nat} (hj : ts.contains j = true) : j = 5 ∨ j = 13 := by
  have := List.all_eq_true.mp h j (List.contains_iff_mem.mp hj)
  simpa using this
theorem KL.rf {S qs ts : List Nat} {σ : HS} (hs : lows S = true) (ht : tsok ts = true) : KL S qs ts σ σ := ⟨Nat.le_refl _, fun _ _ => ⟨rfl, rfl⟩, fun _ _ => rfl, fun _ _ _ => ⟨rfl, rfl⟩, fun _ _ => rfl, fun _ hj => cont_76 hs hj, fun _ _ h => tsok_e ht h⟩
theorem KL.seq {S qs ts : List Nat} {σ σ' σ'' : HS} (h : KL S qs ts σ σ') (g : KL S qs ts σ' σ'') : KL S qs ts σ σ'' := by
  obtain ⟨a1, a2, a3, a4, a5, a6, a7⟩ := h
  obtain ⟨b1, b2, b3, b4, b5, b6, b7⟩ := g
  refine ⟨Nat.le_trans a1 b1, fun j hj => ?_, fun j hj => ?_, fun j hj hp => ?_, fun k hk => (b5 k hk).trans (a5 k hk), a6, a7⟩
  · obtain ⟨p, q⟩ := a2 j hj
    obtain ⟨r, t⟩ := b2 j (Nat.lt_of_lt_of_le hj a1)
    exact ⟨r.trans p, t.trans q⟩
  · refine (b3 j ?_).trans (a3 j hj)
    rcases hj with z | z
    · exact Or.inl z
    · exact Or.inr ⟨Nat.lt_of_lt_of_le z.1 a1, (a2 j z.1).1.trans z.2⟩
  · obtain ⟨p, q⟩ := a4 j hj hp
    obtain ⟨r, t⟩ := b4 j (Nat.lt_of_lt_of_le hj a1) hp
    exact ⟨r.trans p, t.trans q⟩
theorem KL_sA {S qs ts : List Nat} {σ : HS} {j k : Nat} {v : Int32} (hs : lows S = true) (ht : tsok ts = true) (hj : S.contains j = true) (hk : j = 48 → qs.contains k = true) : KL S qs ts σ (sA σ j k v) := ⟨Nat.le_refl _, fun _ _ => ⟨rfl, rfl⟩, fun _ _ => rfl, fun i _ hi => ⟨up2_ne (fun e => by subst e; exact absurd (hj.symm.trans hi) (by decide)), rfl⟩, fun i hi => by
  rw [hA_sA]
  by_cases e : 48 = j ∧ i = k
  · obtain ⟨e1, e2⟩ := e
    subst e2
    exact absurd ((hk e1.symm).symm.trans hi) (by decide)
  · rw [if_neg e], fun _ hj => cont_76 hs hj, fun _ _ h => tsok_e ht h⟩
theorem KL_sB {S qs ts : List Nat} {σ : HS} {j k : Nat} {v : Int64} (hs : lows S = true) (ht : tsok ts = true) (hj : S.contains j = true) : KL S qs ts σ (sB σ j k v) := ⟨Nat.le_refl _, fun _ _ => ⟨rfl, rfl⟩, fun _ _ => rfl, fun i _ hi => ⟨rfl, up2_ne (fun e => by subst e; exact absurd (hj.symm.trans hi) (by decide))⟩, fun i hi => rfl, fun _ hj => cont_76 hs hj, fun _ _ h => tsok_e ht h⟩
theorem KL_rA {S qs ts : List Nat} {σ : HS} {j : Nat} {g : Nat → Int32} (hs : lows S = true) (ht : tsok ts = true) (hj : S.contains j = true) (h48 : j ≠ 48) : KL S qs ts σ (rA σ j g) := ⟨Nat.le_refl _, fun _ _ => ⟨rfl, rfl⟩, fun _ _ => rfl, fun i _ hi => ⟨upr_ne (fun e => by subst e; exact absurd (hj.symm.trans hi) (by decide)), rfl⟩, fun i hi => by
  rw [hA_rA, if_neg (fun e => h48 e.symm)], fun _ hj => cont_76 hs hj, fun _ _ h => tsok_e ht h⟩
theorem KL_sR {S qs ts : List Nat} {σ : HS} {j k : Nat} {v : Option Nat} (hs : lows S = true) (ht : tsok ts = true) (hj : ts.contains j = true) (h0 : hty σ j ≠ 0) : KL S qs ts σ (sR σ j k v) := ⟨Nat.le_refl _, fun _ _ => ⟨rfl, rfl⟩, fun i hi => up2_ne (fun e => by
  subst e
  rcases hi with z | z
  · exact absurd (hj.symm.trans z.2) (by decide)
  · exact h0 z.2), fun i _ hi => ⟨rfl, rfl⟩, fun i hi => rfl, fun _ hj => cont_76 hs hj, fun _ _ h => tsok_e ht h⟩
theorem Fr.kl {S S' qs ts : List Nat} {σ σ' : HS} (h : Fr S' σ σ') (hs : lows S = true) (ht : tsok ts = true) (hS : ∀ j, j ∈ S' → j ∈ S) (hn : 48 ∉ S') : KL S qs ts σ σ' := ⟨Nat.le_of_eq h.1.symm, fun j _ => ⟨h.ty j, h.len j⟩, fun j _ => h.Rr j, fun j _ hj => h.2.2.2.2 j (fun z => absurd ((cont_t (hS j z)).symm.trans hj) (by decide)), fun k _ => h.A hn k, fun _ hj => cont_76 hs hj, fun _ _ h => tsok_e ht h⟩
/-- one call on both sides -/
def OpOK {α : Type} (fx fm : HS → Option (α × HS)) : Prop := ∀ σ V S C n FS, INV σ V S C n FS → ∃ r σ1 σ2, fx σ = some (r, σ1) ∧ Typ σ1 ∧ hN σ ≤ hN σ1 ∧ fm σ1 = some (r, σ2) ∧ hN σ1 ≤ hN σ2 ∧ ∃ V S C n FS, INV σ2 V S C n FS
theorem opQ {α : Type} {fx fm : HS → Option (α × HS)} {σ : HS} {V S C : Nat → Int32} {n : Nat} {FS : Nat → FM} (I : INV σ V S C n FS) (h : ∃ r σ1 σ2, fx σ = some (r, σ1) ∧ Kp σ σ1 ∧ fm σ1 = some (r, σ2) ∧ Kp σ1 σ2) : ∃ r σ1 σ2, fx σ = some (r, σ1) ∧ Typ σ1 ∧ hN σ ≤ hN σ1 ∧ fm σ1 = some (r, σ2) ∧ hN σ1 ≤ hN σ2 ∧ ∃ V S C n FS, INV σ2 V S C n FS := by
  obtain ⟨r, σ1, σ2, h1, h2, h3, h4⟩ := h
  exact ⟨r, σ1, σ2, h1, h2.typ I.1, h2.hN, h3, h4.hN, V, S, C, n, FS, (I.kp h2).kp h4⟩
/-- a call that answers so and changes nothing -/
theorem opN {α : Type} {fx fm : HS → Option (α × HS)} {σ : HS} {V S C : Nat → Int32} {n : Nat} {FS : Nat → FM} (I : INV σ V S C n FS) (r : α) (h1 : fx σ = some (r, σ)) (h2 : fm σ = some (r, σ)) : ∃ r σ1 σ2, fx σ = some (r, σ1) ∧ Typ σ1 ∧ hN σ ≤ hN σ1 ∧ fm σ1 = some (r, σ2) ∧ hN σ1 ≤ hN σ2 ∧ ∃ V S C n FS, INV σ2 V S C n FS :=
  opQ I ⟨r, σ, σ, h1, Kp.rf, h2, Kp.rf⟩
theorem nif {c : Prop} [Decidable c] (h : ¬ c) : (if c then (1 : Int32) else 0) = 0 := if_neg h
theorem yif {c : Prop} [Decidable c] (h : c) : (if c then (1 : Int32) else 0) = 1 := if_pos h
theorem inS {s : Nat} (h : s < 6) : 0 ≤ (nI s).toInt ∧ (nI s).toInt < 6 := by rw [nT (by omega)]; omega
theorem inL {s : Nat} (h : s < 4) : 0 ≤ (nI s).toInt ∧ (nI s).toInt < 4 := by rw [nT (by omega)]; omega
theorem inF {k n : Nat} (h : k < n) (hn : n ≤ 6) : 0 ≤ (nI k).toInt ∧ (nI k).toInt < n := by rw [nT (by omega)]; omega
theorem mb_ok (k : Nat) (hk : k < 3) (v : Int32) (σ : HS) : f_X5_mayBecome (nI k) v σ = some (if (if k = 0 then -99 else 0) ≤ v.toInt ∧ v.toInt ≤ (if k = 1 then 20 else 99) then 1 else 0, σ) := by
  have h3 : k = 0 ∨ k = 1 ∨ k = 2 := by omega
  have z99 : (99 : Int32).toInt = 99 := rfl
  have zm99 : (-99 : Int32).toInt = -99 := rfl
  have z20 : (20 : Int32).toInt = 20 := rfl
  unfold f_X5_mayBecome
  simp only [i_lt, z320, z99, zm99, z20]
  rcases h3 with z | z | z <;> subst z
  · simp (decide := true) only [if_true, if_false]
    by_cases c1 : v.toInt < -99
    · rw [if_pos c1, if_neg (by omega)]
    · rw [if_neg c1]
      by_cases c2 : 99 < v.toInt
      · rw [if_pos c2, if_neg (by omega)]
      · rw [if_neg c2, if_pos (by omega)]
  · simp (decide := true) only [if_true, if_false]
    by_cases c1 : v.toInt < 0
    · rw [if_pos c1, if_neg (by omega)]
    · rw [if_neg c1]
      by_cases c2 : 20 < v.toInt
      · rw [if_pos c2, if_neg (by omega)]
      · rw [if_neg c2, if_pos (by omega)]
  · simp (decide := true) only [if_true, if_false]
    by_cases c1 : v.toInt < 0
    · rw [if_pos c1, if_neg (by omega)]
    · rw [if_neg c1]
      by_cases c2 : 99 < v.toInt
      · rw [if_pos c2, if_neg (by omega)]
      · rw [if_neg c2, if_pos (by omega)]
theorem rowOf_ok {σ : HS} (h : Typ σ) {k : Nat} (hk : k < 3) : f_X2_rowOf 1 (nI k) σ = some (some (2 + k), σ) := by
  have h3 : k = 0 ∨ k = 1 ∨ k = 2 := by omega
  unfold f_X2_rowOf
  rcases h3 with z | z | z <;> subst z
  · simp (decide := true) only [chk_p, lt_p, bd_p, bc_p, oc_n, oc_s, and_self, and_true, true_and, if_true, if_false, isO_sA', isO_sB', isO_rA', hlen_sA, hlen_sB, hlen_rA, hR_sA, hR_sB, hR_rA, Typ_sA', Typ_sB', Typ_rA', O1, r1_0, r1_1, r1_2, r1_3, r1_5, r1_6, r1_7, h]
  · simp (decide := true) only [if_false, chk_p, lt_p, bd_p, bc_p, oc_n, oc_s, and_self, and_true, true_and, if_true, if_false, isO_sA', isO_sB', isO_rA', hlen_sA, hlen_sB, hlen_rA, hR_sA, hR_sB, hR_rA, Typ_sA', Typ_sB', Typ_rA', O1, r1_0, r1_1, r1_2, r1_3, r1_5, r1_6, r1_7, h]
  · simp (decide := true) only [if_false, chk_p, lt_p, bd_p, bc_p, oc_n, oc_s, and_self, and_true, true_and, if_true, if_false, isO_sA', isO_sB', isO_rA', hlen_sA, hlen_sB, hlen_rA, hR_sA, hR_sB, hR_rA, Typ_sA', Typ_sB', Typ_rA', O1, r1_0, r1_1, r1_2, r1_3, r1_5, r1_6, r1_7, h]
def up1 (V : Nat → Int32) (s : Nat) (v : Int32) (i : Nat) : Int32 := if i = s then v else V i
theorem set_inv {σ : HS} {V S C : Nat → Int32} {n : Nat} {FS : Nat → FM} (I : INV σ V S C n FS) {s k : Nat} (hs : s < 6) (hk : k < 3) {v : Int32} (hv : (if k = 0 then -99 else 0) ≤ v.toInt ∧ v.toInt ≤ (if k = 1 then 20 else 99)) :
    INV (sA (sA σ (2 + k) s v) 49 (3 * s + k) v) (if k = 0 then up1 V s v else V) (if k = 1 then up1 S s v else S) (if k = 2 then up1 C s v else C) n FS := by
  obtain ⟨t, h1, h2, ⟨t0, B, h3⟩, ⟨p, PS, PW, PV, h4⟩, h5, h6, h7⟩ := I
  have hk3 : k = 0 ∨ k = 1 ∨ k = 2 := by omega
  have q : KL [2, 3, 4, 49] [] [] σ (sA (sA σ (2 + k) s v) 49 (3 * s + k) v) := (KL_sA (by decide) (by decide) (by rcases hk3 with z | z | z <;> subst z <;> decide) (fun z => by omega)).seq (KL_sA (by decide) (by decide) (by decide) (fun z => by omega))
  refine ⟨Kq.typ q t, fun i hi => ?_, Kq.fm q t (by decide) (by decide) (by decide) (by decide) (Kq.A q (Nat.lt_of_lt_of_le (by decide) t.1) (by decide) 4) (by decide) (by decide) (by decide) (by decide) (by decide) h2, ⟨t0, B, Kq.tap q t (by decide) (by decide) (by decide) (by decide) h3⟩, ⟨p, PS, PW, PV, Kq.pl q t (by decide) (by decide) (by decide) (by decide) (Kq.A q (Nat.lt_of_lt_of_le (by decide) t.1) (by decide) 8) (by decide) (by decide) (by decide) (by decide) h4⟩, Kq.lst q t (by decide) (by decide) (by decide) (by decide) h5, Kq.way q t (Kq.A q (Nat.lt_of_lt_of_le (by decide) t.1) (by decide) 8) (by decide) (by decide) (by decide) h6, Kq.img q t (Kq.A q (Nat.lt_of_lt_of_le (by decide) t.1) (by decide) 2) (by decide) (by decide) (by decide) (by decide) (fun j hj => by
    have h16 : j = 9 ∨ j = 10 ∨ j = 11 ∨ j = 12 ∨ j = 13 ∨ j = 14 ∨ j = 15 ∨ j = 16 ∨ j = 50 ∨ j = 56 ∨ j = 57 ∨ j = 58 ∨ j = 59 ∨ j = 60 ∨ j = 72 := by omega
    rcases h16 with z | z | z | z | z | z | z | z | z | z | z | z | z | z | z <;> subst z <;> decide) h7⟩
  obtain ⟨⟨a1, a2, a3⟩, ⟨b1, b2, b3⟩, r1, r2, r3⟩ := h1 i hi
  have n1 : ∀ j, j < 3 → (3 * i + j = 3 * s + k) = (i = s ∧ j = k) := fun j hj => propext ⟨fun z => by omega, fun z => by omega⟩
  have n0 : (3 * i = 3 * s + k) = (i = s ∧ k = 0) := propext ⟨fun z => by omega, fun z => by omega⟩
  simp only [hA_sA, n1 1 (by omega), n1 2 (by omega), n0]
  rcases hk3 with z | z | z <;> subst z
  · by_cases e : i = s
    · subst e
      simp only [up1, and_self, and_true, true_and, if_true, show ¬ (2 = 49) by decide, show ¬ (2 + 1 = 49) by decide, show ¬ (2 + 2 = 49) by decide, show ¬ (1 = 0) by decide, show ¬ (2 = 0) by decide, show ¬ (2 + 1 = 2 + 0) by decide, show ¬ (2 + 2 = 2 + 0) by decide, show ¬ (0 = 1) by decide, show ¬ (0 = 2) by decide, show ¬ (49 = 2 + 0) by decide, show (2 = 2 + 0) = True from eq_true rfl, false_and, and_false, if_false, a2, a3, b2, b3]
      exact ⟨hv, r2, r3⟩
    · simp only [up1, e, and_self, and_true, true_and, if_true, show ¬ (2 = 49) by decide, show ¬ (2 + 1 = 49) by decide, show ¬ (2 + 2 = 49) by decide, show ¬ (0 = 1) by decide, show ¬ (0 = 2) by decide, show ¬ (49 = 2 + 0) by decide, false_and, and_false, if_false, a1, a2, a3, b1, b2, b3]
      exact ⟨r1, r2, r3⟩
  · by_cases e : i = s
    · subst e
      simp only [up1, and_self, and_true, true_and, if_true, show ¬ (2 = 49) by decide, show ¬ (2 + 1 = 49) by decide, show ¬ (2 + 2 = 49) by decide, show ¬ (1 = 0) by decide, show ¬ (2 = 1) by decide, show ¬ (2 = 2 + 1) by decide, show ¬ (2 + 2 = 2 + 1) by decide, show ¬ (0 = 1) by decide, show ¬ (1 = 2) by decide, show ¬ (49 = 2 + 1) by decide, false_and, and_false, if_false, a1, a3, b1, b3]
      exact ⟨r1, hv, r3⟩
    · simp only [up1, e, and_self, and_true, true_and, if_true, show ¬ (2 = 49) by decide, show ¬ (2 + 1 = 49) by decide, show ¬ (2 + 2 = 49) by decide, show ¬ (1 = 0) by decide, show ¬ (1 = 2) by decide, show ¬ (49 = 2 + 1) by decide, false_and, and_false, if_false, a1, a2, a3, b1, b2, b3]
      exact ⟨r1, r2, r3⟩
  · by_cases e : i = s
    · subst e
      simp only [up1, and_self, and_true, true_and, if_true, show ¬ (2 = 49) by decide, show ¬ (2 + 1 = 49) by decide, show ¬ (2 + 2 = 49) by decide, show ¬ (2 = 0) by decide, show ¬ (1 = 2) by decide, show ¬ (2 = 2 + 2) by decide, show ¬ (2 + 1 = 2 + 2) by decide, show ¬ (2 = 1) by decide, show ¬ (49 = 2 + 2) by decide, false_and, and_false, if_false, a1, a2, b1, b2]
      exact ⟨r1, r2, hv⟩
    · simp only [up1, e, and_self, and_true, true_and, if_true, show ¬ (2 = 49) by decide, show ¬ (2 + 1 = 49) by decide, show ¬ (2 + 2 = 49) by decide, show ¬ (2 = 0) by decide, show ¬ (2 = 1) by decide, show ¬ (49 = 2 + 2) by decide, false_and, and_false, if_false, a1, a2, a3, b1, b2, b3]
      exact ⟨r1, r2, r3⟩
end
section
/-! set, of, way, get, put -/
theorem INV.src {σ : HS} {V S C : Nat → Int32} {n : Nat} {FS : Nat → FM} (I : INV σ V S C n FS) {s : Nat} (hs : s < 6) : (hA σ 2 s = V s ∧ hA σ 3 s = S s ∧ hA σ 4 s = C s) ∧ (hA σ 49 (3 * s) = V s ∧ hA σ 49 (3 * s + 1) = S s ∧ hA σ 49 (3 * s + 2) = C s) ∧ rgI (V s) (-99) 99 ∧ rgI (S s) 0 20 ∧ rgI (C s) 0 99 := I.2.1 s hs
theorem op_set (a w v : Int32) : OpOK (f_X5_set 0 a w v) (f_X6_set 48 a w v) := by
  intro σ V S C n FS I
  have t := I.1
  rcases argC a 6 (by decide) with ⟨s, hs, rfl⟩ | ha
  · have c1 := inS hs
    have ie := inbE (i := s) (n := 6) hs (by omega)
    have cs := cl1000 (i := s) (by omega)
    obtain ⟨⟨a1, a2, a3⟩, ⟨b1, b2, b3⟩, -⟩ := I.src hs
    rcases argC w 3 (by decide) with ⟨k, hk, rfl⟩ | hw
    · have k0 : (nI k < 0) = False := by rw [i_lt, nT (by omega), z320]; exact eq_false (by omega)
      have k2 : (nI k ≤ 2) = True := by rw [i_le, nT (by omega)]; exact eq_true (by have : (2 : Int32).toInt = 2 := rfl; omega)
      have em := isIn_c (nI k) 0 2 0 2 rfl rfl σ
      rw [nT (by omega), if_pos (by omega)] at em
      have k3 : k = 0 ∨ k = 1 ∨ k = 2 := by omega
      have pe := inbE (i := 3 * s + k) (n := 18) (by omega) (by omega)
      have cp := cl1000 (i := 3 * s + k) (by omega)
      by_cases hv : (if k = 0 then -99 else 0) ≤ v.toInt ∧ v.toInt ≤ (if k = 1 then 20 else 99)
      · have iv := set_inv I hs hk hv
        have eb := mb_ok k hk v σ
        rw [if_pos hv] at eb
        rcases k3 with z | z | z <;> subst z
        · have ev := isIn_c v (-99) 99 (-99) 99 rfl rfl (sA σ 2 s v)
          rw [if_pos (by simpa using hv)] at ev
          have em' := isIn_c (nI 0) 0 2 0 2 rfl rfl (sA σ 2 s v)
          rw [nT (by omega), if_pos (by omega)] at em'
          refine ⟨hA σ 2 s, sA σ 2 s v, sA (sA σ 2 s v) 49 (3 * s + 0) v, ?_, t, Nat.le_refl _, ?_, Nat.le_refl _, _, _, _, _, _, iv⟩
          · have er := rowOf_ok t (k := 0) (by decide)
            unfold f_X5_set
            simp (decide := true) only [isSource_ok, yif c1, beq1, k0, k2, eb, er, Nat.reduceAdd, chk_p, lt_p, bd_p, bc_p, oc_n, oc_s, and_self, and_true, true_and, if_true, if_false, isO_sA', isO_sB', isO_rA', hlen_sA, hlen_sB, hlen_rA, hR_sA, hR_sB, hR_rA, Typ_sA', Typ_sB', Typ_rA', O0, r0_0, r0_1, r0_3, r0_4, r0_5, r0_6, r0_7, O1, r1_0, r1_1, r1_2, r1_3, r1_5, r1_6, r1_7, O2, l2, t, ie, cs, if_false]
          · unfold f_X6_set
            simp (decide := true) only [mIsSource_ok, yif c1, beq1, em', ev, chk_p, lt_p, bd_p, bc_p, oc_n, oc_s, and_self, and_true, true_and, if_true, if_false, isO_sA', isO_sB', isO_rA', hlen_sA, hlen_sB, hlen_rA, hR_sA, hR_sB, hR_rA, Typ_sA', Typ_sB', Typ_rA', O48, r48_0, r48_1, r48_2, r48_3, r48_4, r48_5, r48_6, r48_8, r48_9, r48_10, r48_11, r48_12, r48_15, r48_21, r48_22, r48_23, r48_24, r48_25, r48_28, r48_30, r48_31, r48_32, r48_35, r48_37, r48_39, r48_40, r48_41, O49, l49, t, nI_mul3, nI_plus, pe, cp, hA_sA, if_false, false_and]
            rw [a1, show hA σ 49 (3 * s + 0) = _ from b1]
        · have ev := isIn_c v 0 20 0 20 rfl rfl (sA σ 3 s v)
          rw [if_pos (by simpa using hv)] at ev
          have em' := isIn_c (nI 1) 0 2 0 2 rfl rfl (sA σ 3 s v)
          rw [nT (by omega), if_pos (by omega)] at em'
          refine ⟨hA σ 3 s, sA σ 3 s v, sA (sA σ 3 s v) 49 (3 * s + 1) v, ?_, t, Nat.le_refl _, ?_, Nat.le_refl _, _, _, _, _, _, iv⟩
          · have er := rowOf_ok t (k := 1) (by decide)
            unfold f_X5_set
            simp (decide := true) only [isSource_ok, yif c1, beq1, k0, k2, eb, er, Nat.reduceAdd, chk_p, lt_p, bd_p, bc_p, oc_n, oc_s, and_self, and_true, true_and, if_true, if_false, isO_sA', isO_sB', isO_rA', hlen_sA, hlen_sB, hlen_rA, hR_sA, hR_sB, hR_rA, Typ_sA', Typ_sB', Typ_rA', O0, r0_0, r0_1, r0_3, r0_4, r0_5, r0_6, r0_7, O1, r1_0, r1_1, r1_2, r1_3, r1_5, r1_6, r1_7, O3, l3, t, ie, cs, if_false]
          · unfold f_X6_set
            simp (decide := true) only [mIsSource_ok, yif c1, beq1, em', ev, chk_p, lt_p, bd_p, bc_p, oc_n, oc_s, and_self, and_true, true_and, if_true, if_false, isO_sA', isO_sB', isO_rA', hlen_sA, hlen_sB, hlen_rA, hR_sA, hR_sB, hR_rA, Typ_sA', Typ_sB', Typ_rA', O48, r48_0, r48_1, r48_2, r48_3, r48_4, r48_5, r48_6, r48_8, r48_9, r48_10, r48_11, r48_12, r48_15, r48_21, r48_22, r48_23, r48_24, r48_25, r48_28, r48_30, r48_31, r48_32, r48_35, r48_37, r48_39, r48_40, r48_41, O49, l49, t, nI_mul3, nI_plus, pe, cp, hA_sA, if_false, false_and]
            rw [a2, show hA σ 49 (3 * s + 1) = _ from b2]
        · have ev := isIn_c v 0 99 0 99 rfl rfl (sA σ 4 s v)
          rw [if_pos (by simpa using hv)] at ev
          have em' := isIn_c (nI 2) 0 2 0 2 rfl rfl (sA σ 4 s v)
          rw [nT (by omega), if_pos (by omega)] at em'
          refine ⟨hA σ 4 s, sA σ 4 s v, sA (sA σ 4 s v) 49 (3 * s + 2) v, ?_, t, Nat.le_refl _, ?_, Nat.le_refl _, _, _, _, _, _, iv⟩
          · have er := rowOf_ok t (k := 2) (by decide)
            unfold f_X5_set
            simp (decide := true) only [isSource_ok, yif c1, beq1, k0, k2, eb, er, Nat.reduceAdd, chk_p, lt_p, bd_p, bc_p, oc_n, oc_s, and_self, and_true, true_and, if_true, if_false, isO_sA', isO_sB', isO_rA', hlen_sA, hlen_sB, hlen_rA, hR_sA, hR_sB, hR_rA, Typ_sA', Typ_sB', Typ_rA', O0, r0_0, r0_1, r0_3, r0_4, r0_5, r0_6, r0_7, O1, r1_0, r1_1, r1_2, r1_3, r1_5, r1_6, r1_7, O4, l4, t, ie, cs, if_false]
          · unfold f_X6_set
            simp (decide := true) only [mIsSource_ok, yif c1, beq1, em', ev, chk_p, lt_p, bd_p, bc_p, oc_n, oc_s, and_self, and_true, true_and, if_true, if_false, isO_sA', isO_sB', isO_rA', hlen_sA, hlen_sB, hlen_rA, hR_sA, hR_sB, hR_rA, Typ_sA', Typ_sB', Typ_rA', O48, r48_0, r48_1, r48_2, r48_3, r48_4, r48_5, r48_6, r48_8, r48_9, r48_10, r48_11, r48_12, r48_15, r48_21, r48_22, r48_23, r48_24, r48_25, r48_28, r48_30, r48_31, r48_32, r48_35, r48_37, r48_39, r48_40, r48_41, O49, l49, t, nI_mul3, nI_plus, pe, cp, hA_sA, if_false, false_and]
            rw [a3, show hA σ 49 (3 * s + 2) = _ from b3]
      · have eb := mb_ok k hk v σ
        rw [if_neg hv] at eb
        refine opN I (-1001) ?_ ?_
        · unfold f_X5_set
          simp only [isSource_ok, yif c1, beq1, k0, k2, eb, if_false, chk_p, lt_p, bd_p, bc_p, oc_n, oc_s, and_self, and_true, true_and, if_true, if_false, isO_sA', isO_sB', isO_rA', hlen_sA, hlen_sB, hlen_rA, hR_sA, hR_sB, hR_rA, Typ_sA', Typ_sB', Typ_rA']
        · rcases k3 with z | z | z <;> subst z
          · have ev := isIn_c v (-99) 99 (-99) 99 rfl rfl σ
            rw [if_neg (by simpa using hv)] at ev
            unfold f_X6_set
            simp (decide := true) only [mIsSource_ok, yif c1, beq1, em, ev, chk_p, lt_p, bd_p, bc_p, oc_n, oc_s, and_self, and_true, true_and, if_true, if_false, isO_sA', isO_sB', isO_rA', hlen_sA, hlen_sB, hlen_rA, hR_sA, hR_sB, hR_rA, Typ_sA', Typ_sB', Typ_rA', if_false]
          · have ev := isIn_c v 0 20 0 20 rfl rfl σ
            rw [if_neg (by simpa using hv)] at ev
            unfold f_X6_set
            simp (decide := true) only [mIsSource_ok, yif c1, beq1, em, ev, chk_p, lt_p, bd_p, bc_p, oc_n, oc_s, and_self, and_true, true_and, if_true, if_false, isO_sA', isO_sB', isO_rA', hlen_sA, hlen_sB, hlen_rA, hR_sA, hR_sB, hR_rA, Typ_sA', Typ_sB', Typ_rA', if_false]
          · have ev := isIn_c v 0 99 0 99 rfl rfl σ
            rw [if_neg (by simpa using hv)] at ev
            unfold f_X6_set
            simp (decide := true) only [mIsSource_ok, yif c1, beq1, em, ev, chk_p, lt_p, bd_p, bc_p, oc_n, oc_s, and_self, and_true, true_and, if_true, if_false, isO_sA', isO_sB', isO_rA', hlen_sA, hlen_sB, hlen_rA, hR_sA, hR_sB, hR_rA, Typ_sA', Typ_sB', Typ_rA', if_false]
    · have em := isIn_c w 0 2 0 2 rfl rfl σ
      rw [if_neg (by omega)] at em
      refine opN I (-1000) ?_ ?_
      · unfold f_X5_set
        by_cases w0 : w < 0
        · simp only [isSource_ok, yif c1, beq1, w0, if_false, chk_p, lt_p, bd_p, bc_p, oc_n, oc_s, and_self, and_true, true_and, if_true, if_false, isO_sA', isO_sB', isO_rA', hlen_sA, hlen_sB, hlen_rA, hR_sA, hR_sB, hR_rA, Typ_sA', Typ_sB', Typ_rA']
        · have w2 : (w ≤ 2) = False := by rw [i_lt, z320] at w0; rw [i_le]; exact eq_false (by have : (2 : Int32).toInt = 2 := rfl; omega)
          simp only [isSource_ok, yif c1, beq1, w0, w2, if_false, chk_p, lt_p, bd_p, bc_p, oc_n, oc_s, and_self, and_true, true_and, if_true, if_false, isO_sA', isO_sB', isO_rA', hlen_sA, hlen_sB, hlen_rA, hR_sA, hR_sB, hR_rA, Typ_sA', Typ_sB', Typ_rA']
      · unfold f_X6_set
        simp only [mIsSource_ok, yif c1, beq1, em, if_false, chk_p, lt_p, bd_p, bc_p, oc_n, oc_s, and_self, and_true, true_and, if_true, if_false, isO_sA', isO_sB', isO_rA', hlen_sA, hlen_sB, hlen_rA, hR_sA, hR_sB, hR_rA, Typ_sA', Typ_sB', Typ_rA']
  · have c1 : ¬ (0 ≤ a.toInt ∧ a.toInt < 6) := by omega
    refine opN I (-1000) ?_ ?_
    · unfold f_X5_set
      simp only [isSource_ok, nif c1, chk_p, lt_p, bd_p, bc_p, oc_n, oc_s, and_self, and_true, true_and, if_true, if_false, isO_sA', isO_sB', isO_rA', hlen_sA, hlen_sB, hlen_rA, hR_sA, hR_sB, hR_rA, Typ_sA', Typ_sB', Typ_rA']
    · unfold f_X6_set
      simp only [mIsSource_ok, nif c1, chk_p, lt_p, bd_p, bc_p, oc_n, oc_s, and_self, and_true, true_and, if_true, if_false, isO_sA', isO_sB', isO_rA', hlen_sA, hlen_sB, hlen_rA, hR_sA, hR_sB, hR_rA, Typ_sA', Typ_sB', Typ_rA']
theorem op_of (a w : Int32) : OpOK (f_X5_of 0 a w) (f_X6_of 48 a w) := by
  intro σ V S C n FS I
  have t := I.1
  rcases argC a 6 (by decide) with ⟨s, hs, rfl⟩ | ha
  · have c1 := inS hs
    have ie := inbE (i := s) (n := 6) hs (by omega)
    have cs := cl1000 (i := s) (by omega)
    obtain ⟨⟨a1, a2, a3⟩, ⟨b1, b2, b3⟩, -⟩ := I.src hs
    have lo := lowOf_ok t hs
    have hi := highOf_ok t hs
    have mv := valueOf_ok t hs
    have ms := spanOf_ok t hs
    rcases argC w 5 (by decide) with ⟨k, hk, rfl⟩ | hw
    · have em := isIn_c (nI k) 0 4 0 4 rfl rfl σ
      rw [nT (by omega), if_pos (by omega)] at em
      have k3 : k = 0 ∨ k = 1 ∨ k = 2 ∨ k = 3 ∨ k = 4 := by omega
      rcases k3 with z | z | z | z | z <;> subst z
      · have er := rowOf_ok t (k := 0) (by decide)
        have pe := inbE (i := 3 * s + 0) (n := 18) (by omega) (by omega)
        have cp := cl1000 (i := 3 * s + 0) (by omega)
        refine opN I (hA σ 2 s) ?_ ?_
        · unfold f_X5_of
          simp (decide := true) only [isSource_ok, yif c1, beq1, er, Nat.reduceAdd, chk_p, lt_p, bd_p, bc_p, oc_n, oc_s, and_self, and_true, true_and, if_true, if_false, isO_sA', isO_sB', isO_rA', hlen_sA, hlen_sB, hlen_rA, hR_sA, hR_sB, hR_rA, Typ_sA', Typ_sB', Typ_rA', O0, r0_0, r0_1, r0_3, r0_4, r0_5, r0_6, r0_7, O1, r1_0, r1_1, r1_2, r1_3, r1_5, r1_6, r1_7, O2, l2, t, ie, cs, if_false]
        · unfold f_X6_of
          simp (decide := true) only [mIsSource_ok, yif c1, beq1, em, chk_p, lt_p, bd_p, bc_p, oc_n, oc_s, and_self, and_true, true_and, if_true, if_false, isO_sA', isO_sB', isO_rA', hlen_sA, hlen_sB, hlen_rA, hR_sA, hR_sB, hR_rA, Typ_sA', Typ_sB', Typ_rA', O48, r48_0, r48_1, r48_2, r48_3, r48_4, r48_5, r48_6, r48_8, r48_9, r48_10, r48_11, r48_12, r48_15, r48_21, r48_22, r48_23, r48_24, r48_25, r48_28, r48_30, r48_31, r48_32, r48_35, r48_37, r48_39, r48_40, r48_41, O49, l49, t, nI_mul3, nI_plus, pe, cp, if_false]
          rw [a1, show hA σ 49 (3 * s + 0) = _ from b1]
      · have er := rowOf_ok t (k := 1) (by decide)
        have pe := inbE (i := 3 * s + 1) (n := 18) (by omega) (by omega)
        have cp := cl1000 (i := 3 * s + 1) (by omega)
        refine opN I (hA σ 3 s) ?_ ?_
        · unfold f_X5_of
          simp (decide := true) only [isSource_ok, yif c1, beq1, er, Nat.reduceAdd, chk_p, lt_p, bd_p, bc_p, oc_n, oc_s, and_self, and_true, true_and, if_true, if_false, isO_sA', isO_sB', isO_rA', hlen_sA, hlen_sB, hlen_rA, hR_sA, hR_sB, hR_rA, Typ_sA', Typ_sB', Typ_rA', O0, r0_0, r0_1, r0_3, r0_4, r0_5, r0_6, r0_7, O1, r1_0, r1_1, r1_2, r1_3, r1_5, r1_6, r1_7, O3, l3, t, ie, cs, if_false]
        · unfold f_X6_of
          simp (decide := true) only [mIsSource_ok, yif c1, beq1, em, chk_p, lt_p, bd_p, bc_p, oc_n, oc_s, and_self, and_true, true_and, if_true, if_false, isO_sA', isO_sB', isO_rA', hlen_sA, hlen_sB, hlen_rA, hR_sA, hR_sB, hR_rA, Typ_sA', Typ_sB', Typ_rA', O48, r48_0, r48_1, r48_2, r48_3, r48_4, r48_5, r48_6, r48_8, r48_9, r48_10, r48_11, r48_12, r48_15, r48_21, r48_22, r48_23, r48_24, r48_25, r48_28, r48_30, r48_31, r48_32, r48_35, r48_37, r48_39, r48_40, r48_41, O49, l49, t, nI_mul3, nI_plus, pe, cp, if_false]
          rw [a2, show hA σ 49 (3 * s + 1) = _ from b2]
      · have er := rowOf_ok t (k := 2) (by decide)
        have pe := inbE (i := 3 * s + 2) (n := 18) (by omega) (by omega)
        have cp := cl1000 (i := 3 * s + 2) (by omega)
        refine opN I (hA σ 4 s) ?_ ?_
        · unfold f_X5_of
          simp (decide := true) only [isSource_ok, yif c1, beq1, er, Nat.reduceAdd, chk_p, lt_p, bd_p, bc_p, oc_n, oc_s, and_self, and_true, true_and, if_true, if_false, isO_sA', isO_sB', isO_rA', hlen_sA, hlen_sB, hlen_rA, hR_sA, hR_sB, hR_rA, Typ_sA', Typ_sB', Typ_rA', O0, r0_0, r0_1, r0_3, r0_4, r0_5, r0_6, r0_7, O1, r1_0, r1_1, r1_2, r1_3, r1_5, r1_6, r1_7, O4, l4, t, ie, cs, if_false]
        · unfold f_X6_of
          simp (decide := true) only [mIsSource_ok, yif c1, beq1, em, chk_p, lt_p, bd_p, bc_p, oc_n, oc_s, and_self, and_true, true_and, if_true, if_false, isO_sA', isO_sB', isO_rA', hlen_sA, hlen_sB, hlen_rA, hR_sA, hR_sB, hR_rA, Typ_sA', Typ_sB', Typ_rA', O48, r48_0, r48_1, r48_2, r48_3, r48_4, r48_5, r48_6, r48_8, r48_9, r48_10, r48_11, r48_12, r48_15, r48_21, r48_22, r48_23, r48_24, r48_25, r48_28, r48_30, r48_31, r48_32, r48_35, r48_37, r48_39, r48_40, r48_41, O49, l49, t, nI_mul3, nI_plus, pe, cp, if_false]
          rw [a3, show hA σ 49 (3 * s + 2) = _ from b3]
      · refine opN I (hA σ 2 s - hA σ 3 s) ?_ ?_
        · unfold f_X5_of
          simp (decide := true) only [isSource_ok, yif c1, beq1, lo, hi, chk_p, lt_p, bd_p, bc_p, oc_n, oc_s, and_self, and_true, true_and, if_true, if_false, isO_sA', isO_sB', isO_rA', hlen_sA, hlen_sB, hlen_rA, hR_sA, hR_sB, hR_rA, Typ_sA', Typ_sB', Typ_rA', O0, r0_0, r0_1, r0_3, r0_4, r0_5, r0_6, r0_7, O1, r1_0, r1_1, r1_2, r1_3, r1_5, r1_6, r1_7, t, if_false]
        · unfold f_X6_of
          simp (decide := true) only [mIsSource_ok, yif c1, beq1, em, mv, ms, chk_p, lt_p, bd_p, bc_p, oc_n, oc_s, and_self, and_true, true_and, if_true, if_false, isO_sA', isO_sB', isO_rA', hlen_sA, hlen_sB, hlen_rA, hR_sA, hR_sB, hR_rA, Typ_sA', Typ_sB', Typ_rA', O48, r48_0, r48_1, r48_2, r48_3, r48_4, r48_5, r48_6, r48_8, r48_9, r48_10, r48_11, r48_12, r48_15, r48_21, r48_22, r48_23, r48_24, r48_25, r48_28, r48_30, r48_31, r48_32, r48_35, r48_37, r48_39, r48_40, r48_41, t, if_false]
          rw [a1, a2, b1, b2]
      · refine opN I (hA σ 2 s + hA σ 3 s) ?_ ?_
        · unfold f_X5_of
          simp (decide := true) only [isSource_ok, yif c1, beq1, lo, hi, chk_p, lt_p, bd_p, bc_p, oc_n, oc_s, and_self, and_true, true_and, if_true, if_false, isO_sA', isO_sB', isO_rA', hlen_sA, hlen_sB, hlen_rA, hR_sA, hR_sB, hR_rA, Typ_sA', Typ_sB', Typ_rA', O0, r0_0, r0_1, r0_3, r0_4, r0_5, r0_6, r0_7, O1, r1_0, r1_1, r1_2, r1_3, r1_5, r1_6, r1_7, t, if_false]
        · unfold f_X6_of
          simp (decide := true) only [mIsSource_ok, yif c1, beq1, em, mv, ms, chk_p, lt_p, bd_p, bc_p, oc_n, oc_s, and_self, and_true, true_and, if_true, if_false, isO_sA', isO_sB', isO_rA', hlen_sA, hlen_sB, hlen_rA, hR_sA, hR_sB, hR_rA, Typ_sA', Typ_sB', Typ_rA', O48, r48_0, r48_1, r48_2, r48_3, r48_4, r48_5, r48_6, r48_8, r48_9, r48_10, r48_11, r48_12, r48_15, r48_21, r48_22, r48_23, r48_24, r48_25, r48_28, r48_30, r48_31, r48_32, r48_35, r48_37, r48_39, r48_40, r48_41, t, if_false]
          rw [a1, a2, b1, b2]
    · have em := isIn_c w 0 4 0 4 rfl rfl σ
      rw [if_neg (by omega)] at em
      have nk : ∀ k : Nat, k < 5 → ¬ w = nI k := fun k hk z => by rw [z, nT (by omega)] at hw; omega
      have n0 : ¬ w = 0 := nk 0 (by decide)
      have n1 : ¬ w = 1 := nk 1 (by decide)
      have n2 : ¬ w = 2 := nk 2 (by decide)
      have n3 : ¬ w = 3 := nk 3 (by decide)
      have n4 : ¬ w = 4 := nk 4 (by decide)
      refine opN I (-1000) ?_ ?_
      · unfold f_X5_of
        simp only [isSource_ok, yif c1, beq1, n0, n1, n2, n3, n4, if_false, chk_p, lt_p, bd_p, bc_p, oc_n, oc_s, and_self, and_true, true_and, if_true, if_false, isO_sA', isO_sB', isO_rA', hlen_sA, hlen_sB, hlen_rA, hR_sA, hR_sB, hR_rA, Typ_sA', Typ_sB', Typ_rA']
      · unfold f_X6_of
        simp only [mIsSource_ok, yif c1, beq1, em, if_false, chk_p, lt_p, bd_p, bc_p, oc_n, oc_s, and_self, and_true, true_and, if_true, if_false, isO_sA', isO_sB', isO_rA', hlen_sA, hlen_sB, hlen_rA, hR_sA, hR_sB, hR_rA, Typ_sA', Typ_sB', Typ_rA']
  · have c1 : ¬ (0 ≤ a.toInt ∧ a.toInt < 6) := by omega
    refine opN I (-1000) ?_ ?_
    · unfold f_X5_of
      simp only [isSource_ok, nif c1, chk_p, lt_p, bd_p, bc_p, oc_n, oc_s, and_self, and_true, true_and, if_true, if_false, isO_sA', isO_sB', isO_rA', hlen_sA, hlen_sB, hlen_rA, hR_sA, hR_sB, hR_rA, Typ_sA', Typ_sB', Typ_rA']
    · unfold f_X6_of
      simp only [mIsSource_ok, nif c1, chk_p, lt_p, bd_p, bc_p, oc_n, oc_s, and_self, and_true, true_and, if_true, if_false, isO_sA', isO_sB', isO_rA', hlen_sA, hlen_sB, hlen_rA, hR_sA, hR_sB, hR_rA, Typ_sA', Typ_sB', Typ_rA']
theorem op_way (a : Int32) : OpOK (f_X5_way 0 a) (f_X6_way 48 a) := by
  intro σ V S C n FS I
  have t := I.1
  obtain ⟨m, h1, h2, h3, h4⟩ := I.2.2.2.2.2.2.1
  by_cases am : a = -1
  · refine opN I (nI m) ?_ ?_
    · unfold f_X5_way
      simp only [am, chk_p, lt_p, bd_p, bc_p, oc_n, oc_s, and_self, and_true, true_and, if_true, if_false, isO_sA', isO_sB', isO_rA', hlen_sA, hlen_sB, hlen_rA, hR_sA, hR_sB, hR_rA, Typ_sA', Typ_sB', Typ_rA', O0, r0_0, r0_1, r0_3, r0_4, r0_5, r0_6, r0_7, t, h2]
    · unfold f_X6_way
      simp only [am, chk_p, lt_p, bd_p, bc_p, oc_n, oc_s, and_self, and_true, true_and, if_true, if_false, isO_sA', isO_sB', isO_rA', hlen_sA, hlen_sB, hlen_rA, hR_sA, hR_sB, hR_rA, Typ_sA', Typ_sB', Typ_rA', O48, r48_0, r48_1, r48_2, r48_3, r48_4, r48_5, r48_6, r48_8, r48_9, r48_10, r48_11, r48_12, r48_15, r48_21, r48_22, r48_23, r48_24, r48_25, r48_28, r48_30, r48_31, r48_32, r48_35, r48_37, r48_39, r48_40, r48_41, t, h3]
  · have e2 : ((nI m - 1).toInt64).toInt = (m : Int) - 1 := by
      rw [Int32.toInt_toInt64, i_sub (by rw [nT (by omega)]; omega) (by rw [nT (by omega)]; omega) (by decide) (by decide), nT (by omega)]; rfl
    have e3 := isIn_c a 0 (nI m - 1).toInt64 0 ((m : Int) - 1) rfl e2 σ
    rcases argC a m (by omega) with ⟨k, hk, rfl⟩ | ha
    · rw [nT (by omega), if_pos (by omega)] at e3
      have k0 : ¬ (nI k < 0) := by rw [i_lt, nT (by omega), z320]; omega
      have k2 : nI k < nI m := by rw [i_lt, nT (by omega), nT (by omega)]; omega
      have ek : nI m - 1 - nI k = nI (m - 1 - k) := by
        apply Int32.toInt_inj.mp
        have q : (nI m - 1).toInt = (m : Int) - 1 := by rw [i_sub (by rw [nT (by omega)]; omega) (by rw [nT (by omega)]; omega) (by decide) (by decide), nT (by omega)]; rfl
        rw [i_sub (by rw [q]; omega) (by rw [q]; omega) (by rw [nT (by omega)]; omega) (by rw [nT (by omega)]; omega), q, nT (by omega), nT (by omega)]; omega
      have pe := inbE (i := m - 1 - k) (n := 60) (by omega) (by omega)
      have cp := cl1000 (i := m - 1 - k) (by omega)
      have ke := inbE (i := k) (n := 60) (by omega) (by omega)
      have ck := cl1000 (i := k) (by omega)
      refine opN I (hA σ 47 (m - 1 - k)) ?_ ?_
      · unfold f_X5_way
        simp only [am, k0, k2, h2, ek, pe, cp, chk_p, lt_p, bd_p, bc_p, oc_n, oc_s, and_self, and_true, true_and, if_true, if_false, isO_sA', isO_sB', isO_rA', hlen_sA, hlen_sB, hlen_rA, hR_sA, hR_sB, hR_rA, Typ_sA', Typ_sB', Typ_rA', O0, r0_0, r0_1, r0_3, r0_4, r0_5, r0_6, r0_7, O47, l47, t, if_false]
      · unfold f_X6_way
        simp only [am, h3, e3, beq1, ke, ck, chk_p, lt_p, bd_p, bc_p, oc_n, oc_s, and_self, and_true, true_and, if_true, if_false, isO_sA', isO_sB', isO_rA', hlen_sA, hlen_sB, hlen_rA, hR_sA, hR_sB, hR_rA, Typ_sA', Typ_sB', Typ_rA', O48, r48_0, r48_1, r48_2, r48_3, r48_4, r48_5, r48_6, r48_8, r48_9, r48_10, r48_11, r48_12, r48_15, r48_21, r48_22, r48_23, r48_24, r48_25, r48_28, r48_30, r48_31, r48_32, r48_35, r48_37, r48_39, r48_40, r48_41, O67, l67, t, if_false, h4 k hk]
    · rw [if_neg (by omega)] at e3
      refine opN I (-1) ?_ ?_
      · unfold f_X5_way
        by_cases k0 : a < 0
        · simp only [am, k0, chk_p, lt_p, bd_p, bc_p, oc_n, oc_s, and_self, and_true, true_and, if_true, if_false, isO_sA', isO_sB', isO_rA', hlen_sA, hlen_sB, hlen_rA, hR_sA, hR_sB, hR_rA, Typ_sA', Typ_sB', Typ_rA', if_false]
        · have k2 : ¬ a < nI m := by rw [i_lt, z320] at k0; rw [i_lt, nT (by omega)]; omega
          simp only [am, k0, k2, h2, chk_p, lt_p, bd_p, bc_p, oc_n, oc_s, and_self, and_true, true_and, if_true, if_false, isO_sA', isO_sB', isO_rA', hlen_sA, hlen_sB, hlen_rA, hR_sA, hR_sB, hR_rA, Typ_sA', Typ_sB', Typ_rA', O0, r0_0, r0_1, r0_3, r0_4, r0_5, r0_6, r0_7, t, if_false]
      · unfold f_X6_way
        simp only [am, h3, e3, chk_p, lt_p, bd_p, bc_p, oc_n, oc_s, and_self, and_true, true_and, if_true, if_false, isO_sA', isO_sB', isO_rA', hlen_sA, hlen_sB, hlen_rA, hR_sA, hR_sB, hR_rA, Typ_sA', Typ_sB', Typ_rA', O48, r48_0, r48_1, r48_2, r48_3, r48_4, r48_5, r48_6, r48_8, r48_9, r48_10, r48_11, r48_12, r48_15, r48_21, r48_22, r48_23, r48_24, r48_25, r48_28, r48_30, r48_31, r48_32, r48_35, r48_37, r48_39, r48_40, r48_41, t, if_false]
end
section
/-! feed, drop, get, put -/
def upN (B : Nat → Nat) (m b i : Nat) : Nat := if i = m then b else B i
/-- rows that the image reads -/
theorem imgrows {P : Nat → Bool} (h : (P 9 || P 10 || P 11 || P 12 || P 13 || P 14 || P 15 || P 16 || P 50 || P 56 || P 57 || P 58 || P 59 || P 60 || P 72) = false) : ∀ j, (9 ≤ j ∧ j ≤ 16) ∨ j = 50 ∨ (56 ≤ j ∧ j ≤ 60) ∨ j = 72 → P j = false := fun j hj => by
  simp only [Bool.or_eq_false_iff] at h
  obtain ⟨⟨⟨⟨⟨⟨⟨⟨⟨⟨⟨⟨⟨⟨e1, e2⟩, e3⟩, e4⟩, e5⟩, e6⟩, e7⟩, e8⟩, e9⟩, e10⟩, e11⟩, e12⟩, e13⟩, e14⟩, e15⟩ := h
  have h16 : j = 9 ∨ j = 10 ∨ j = 11 ∨ j = 12 ∨ j = 13 ∨ j = 14 ∨ j = 15 ∨ j = 16 ∨ j = 50 ∨ j = 56 ∨ j = 57 ∨ j = 58 ∨ j = 59 ∨ j = 60 ∨ j = 72 := by omega
  rcases h16 with z | z | z | z | z | z | z | z | z | z | z | z | z | z | z <;> subst z <;> assumption
theorem lst4 {P : Nat → Bool} (h : (P 42 || P 43 || P 44 || P 45) = false) : ∀ l, l < 4 → P (42 + l) = false := fun l hl => by
  simp only [Bool.or_eq_false_iff] at h
  obtain ⟨⟨⟨e1, e2⟩, e3⟩, e4⟩ := h
  have h4 : l = 0 ∨ l = 1 ∨ l = 2 ∨ l = 3 := by omega
  rcases h4 with z | z | z | z <;> subst z <;> assumption
theorem op_feed (a : Int32) : OpOK (f_X5_feed 0 a) (f_X6_feed 48 a) := by
  intro σ V S C n FS I
  have t := I.1
  have z1 : (1 : Int32).toInt = 1 := rfl
  have z127 : (127 : Int32).toInt = 127 := rfl
  have em := isIn_c a 1 127 1 127 rfl rfl
  by_cases ha : 1 ≤ a.toInt ∧ a.toInt ≤ 127
  · obtain ⟨b, hb, hb1, hb2⟩ : ∃ b : Nat, a = nI b ∧ 1 ≤ b ∧ b ≤ 127 := by
      rcases argC a 128 (by decide) with ⟨k, hk, e⟩ | h
      · refine ⟨k, e, ?_, by omega⟩
        rw [e, nT (by omega)] at ha; omega
      · omega
    have em' := fun τ => (em τ).trans (by rw [if_pos ha])
    have c1 : ¬ a < 1 := by rw [i_lt, z1]; omega
    have c2 : a ≤ 127 := by rw [i_le, z127]; omega
    obtain ⟨-, h1, h2, ⟨m, B, hm, t1, t2, t3⟩, ⟨p, PS, PW, PV, h4⟩, h5, h6, h7⟩ := I
    by_cases e60 : m = 60
    · have l60 : ¬ (nI m < 60) := by rw [i_lt, nT (by omega)]; have : (60 : Int32).toInt = 60 := rfl; omega
      have m60 : nI m = 60 := by rw [e60]; rfl
      refine opN ⟨t, h1, h2, ⟨m, B, hm, t1, t2, t3⟩, ⟨p, PS, PW, PV, h4⟩, h5, h6, h7⟩ (-4) ?_ ?_
      · unfold f_X5_feed f_X3_append
        simp only [c1, c2, t1, l60, if_false, chk_p, lt_p, bd_p, bc_p, oc_n, oc_s, and_self, and_true, true_and, if_true, if_false, isO_sA', isO_sB', isO_rA', hlen_sA, hlen_sB, hlen_rA, hR_sA, hR_sB, hR_rA, Typ_sA', Typ_sB', Typ_rA', O0, r0_0, r0_1, r0_3, r0_4, r0_5, r0_6, r0_7, O17, r17_0, r17_3, r17_4, r17_5, r17_6, r17_7, t]
      · unfold f_X6_feed
        simp only [em', beq1, t2, m60, if_false, chk_p, lt_p, bd_p, bc_p, oc_n, oc_s, and_self, and_true, true_and, if_true, if_false, isO_sA', isO_sB', isO_rA', hlen_sA, hlen_sB, hlen_rA, hR_sA, hR_sB, hR_rA, Typ_sA', Typ_sB', Typ_rA', O48, r48_0, r48_1, r48_2, r48_3, r48_4, r48_5, r48_6, r48_8, r48_9, r48_10, r48_11, r48_12, r48_15, r48_21, r48_22, r48_23, r48_24, r48_25, r48_28, r48_30, r48_31, r48_32, r48_35, r48_37, r48_39, r48_40, r48_41, t]
    · have l60 : nI m < 60 := by rw [i_lt, nT (by omega)]; have : (60 : Int32).toInt = 60 := rfl; omega
      have m60 : ¬ nI m = 60 := fun z => e60 ((nE (a := m) (b := 60) (by omega) (by omega)).mp z)
      have ie := inbE (i := m) (n := 60) (by omega) (by omega)
      have ci := cl1000 (i := m) (by omega)
      have q : KL [17, 18, 48, 61] [16] [] σ (sA (sA (sA (sA σ 18 m a) 17 1 (nI (m + 1))) 61 m a) 48 16 (nI (m + 1))) := (((KL_sA (by decide) (by decide) (by decide) (fun z => by omega)).seq (KL_sA (by decide) (by decide) (by decide) (fun z => by omega))).seq (KL_sA (by decide) (by decide) (by decide) (fun z => by omega))).seq (KL_sA (by decide) (by decide) (by decide) (fun z => by decide))
      refine ⟨nI (m + 1), sA (sA σ 18 m a) 17 1 (nI (m + 1)), sA (sA (sA (sA σ 18 m a) 17 1 (nI (m + 1))) 61 m a) 48 16 (nI (m + 1)), ?_, t, Nat.le_refl _, ?_, Nat.le_refl _, V, S, C, n, FS, t, Kq.src q t (by decide) (by decide) (by decide) (by decide) (by decide) (by decide) h1, Kq.fm q t (by decide) (by decide) (by decide) (by decide) (Kq.A q (Nat.lt_of_lt_of_le (by decide) t.1) (by decide) 4) (by decide) (by decide) (by decide) (by decide) (by decide) h2, ⟨m + 1, upN B m b, ?_⟩, ⟨p, PS, PW, PV, Kq.pl q t (by decide) (by decide) (by decide) (by decide) (Kq.A q (Nat.lt_of_lt_of_le (by decide) t.1) (by decide) 8) (by decide) (by decide) (by decide) (by decide) h4⟩, Kq.lst q t (by decide) (by decide) (lst4 (by decide)) (by decide) h5, Kq.way q t (Kq.A q (Nat.lt_of_lt_of_le (by decide) t.1) (by decide) 8) (by decide) (by decide) (by decide) h6, Kq.img q t (Kq.A q (Nat.lt_of_lt_of_le (by decide) t.1) (by decide) 2) (by decide) (by decide) (by decide) (by decide) (imgrows (by decide)) h7⟩
      · unfold f_X5_feed f_X3_append
        simp (decide := true) only [c1, c2, t1, l60, ie, ci, hA_sA, nI_s, false_and, beq1, if_false, chk_p, lt_p, bd_p, bc_p, oc_n, oc_s, and_self, and_true, true_and, if_true, if_false, isO_sA', isO_sB', isO_rA', hlen_sA, hlen_sB, hlen_rA, hR_sA, hR_sB, hR_rA, Typ_sA', Typ_sB', Typ_rA', O0, r0_0, r0_1, r0_3, r0_4, r0_5, r0_6, r0_7, O17, r17_0, r17_3, r17_4, r17_5, r17_6, r17_7, O18, l18, t]
      · unfold f_X6_feed
        simp (decide := true) only [em', beq1, hA_sA, t2, m60, ie, ci, nI_s, false_and, if_false, chk_p, lt_p, bd_p, bc_p, oc_n, oc_s, and_self, and_true, true_and, if_true, if_false, isO_sA', isO_sB', isO_rA', hlen_sA, hlen_sB, hlen_rA, hR_sA, hR_sB, hR_rA, Typ_sA', Typ_sB', Typ_rA', O48, r48_0, r48_1, r48_2, r48_3, r48_4, r48_5, r48_6, r48_8, r48_9, r48_10, r48_11, r48_12, r48_15, r48_21, r48_22, r48_23, r48_24, r48_25, r48_28, r48_30, r48_31, r48_32, r48_35, r48_37, r48_39, r48_40, r48_41, O61, l61, t]
      · refine ⟨by omega, ?_, ?_, fun k hk => ?_⟩
        · simp (decide := true) only [hA_sA, and_self, false_and, if_true, if_false]
        · simp (decide := true) only [hA_sA, and_self, false_and, if_true, if_false]
        · by_cases e : k = m
          · subst e
            simp (decide := true) only [hA_sA, and_self, false_and, if_true, if_false, upN, hb, true_and]
            omega
          · obtain ⟨q1, q2, q3⟩ := t3 k (by omega)
            simp (decide := true) only [hA_sA, and_self, false_and, and_false, if_true, if_false, upN, e]
            exact ⟨q1, q2, q3⟩
  · have em' := fun τ => (em τ).trans (by rw [if_neg ha])
    refine opN I (-2) ?_ ?_
    · unfold f_X5_feed
      by_cases c1 : a < 1
      · simp only [c1, chk_p, lt_p, bd_p, bc_p, oc_n, oc_s, and_self, and_true, true_and, if_true, if_false, isO_sA', isO_sB', isO_rA', hlen_sA, hlen_sB, hlen_rA, hR_sA, hR_sB, hR_rA, Typ_sA', Typ_sB', Typ_rA']
      · have c2 : ¬ a ≤ 127 := by rw [i_lt, z1] at c1; rw [i_le, z127]; omega
        simp only [c1, c2, chk_p, lt_p, bd_p, bc_p, oc_n, oc_s, and_self, and_true, true_and, if_true, if_false, isO_sA', isO_sB', isO_rA', hlen_sA, hlen_sB, hlen_rA, hR_sA, hR_sB, hR_rA, Typ_sA', Typ_sB', Typ_rA', if_false]
    · unfold f_X6_feed
      simp only [em', chk_p, lt_p, bd_p, bc_p, oc_n, oc_s, and_self, and_true, true_and, if_true, if_false, isO_sA', isO_sB', isO_rA', hlen_sA, hlen_sB, hlen_rA, hR_sA, hR_sB, hR_rA, Typ_sA', Typ_sB', Typ_rA']
theorem op_drop : OpOK (f_X5_drop 0) (f_X6_drop 48) := by
  intro σ V S C n FS I
  have t := I.1
  obtain ⟨-, h1, ⟨h6, hg, e1, e2, ex, em, er⟩, ⟨m, B, ht⟩, ⟨p, PS, PW, PV, h4⟩, h5, h6', h7⟩ := I
  by_cases n0 : n = 0
  · subst n0
    refine opN ⟨t, h1, ⟨h6, hg, e1, e2, ex, em, er⟩, ⟨m, B, ht⟩, ⟨p, PS, PW, PV, h4⟩, h5, h6', h7⟩ (-3) ?_ ?_
    · unfold f_X5_drop
      simp (decide := true) only [chk_p, lt_p, bd_p, bc_p, oc_n, oc_s, and_self, and_true, true_and, if_true, if_false, isO_sA', isO_sB', isO_rA', hlen_sA, hlen_sB, hlen_rA, hR_sA, hR_sB, hR_rA, Typ_sA', Typ_sB', Typ_rA', O0, r0_0, r0_1, r0_3, r0_4, r0_5, r0_6, r0_7, O1, r1_0, r1_1, r1_2, r1_3, r1_5, r1_6, r1_7, t, e1, if_false]
    · unfold f_X6_drop
      simp (decide := true) only [chk_p, lt_p, bd_p, bc_p, oc_n, oc_s, and_self, and_true, true_and, if_true, if_false, isO_sA', isO_sB', isO_rA', hlen_sA, hlen_sB, hlen_rA, hR_sA, hR_sB, hR_rA, Typ_sA', Typ_sB', Typ_rA', O48, r48_0, r48_1, r48_2, r48_3, r48_4, r48_5, r48_6, r48_8, r48_9, r48_10, r48_11, r48_12, r48_15, r48_21, r48_22, r48_23, r48_24, r48_25, r48_28, r48_30, r48_31, r48_32, r48_35, r48_37, r48_39, r48_40, r48_41, t, e2]
  · obtain ⟨k, rfl⟩ : ∃ k, n = k + 1 := ⟨n - 1, by omega⟩
    have l0 : 0 < nI (k + 1) := by rw [i_lt, nT (by omega), z320]; omega
    have ne : ¬ nI (k + 1) = 0 := fun z => by have := (nE (a := k + 1) (b := 0) (by omega) (by omega)).mp z; omega
    have ie := inbE (i := k) (n := 6) (by omega) (by omega)
    have ci := cl1000 (i := k) (by omega)
    have q : KL [1, 48] [7] [5] σ (sA (sR (sA σ 1 4 (nI k)) 5 k none) 48 7 (nI k)) := ((KL_sA (by decide) (by decide) (by decide) (fun z => by omega)).seq (KL_sR (by decide) (by decide) (by decide) (by rw [show hty (sA σ 1 4 (nI k)) 5 = hty σ 5 from rfl, (o5 t).2]; decide))).seq (KL_sA (by decide) (by decide) (by decide) (fun _ => by decide))
    have t' : Typ (sA (sR (sA σ 1 4 (nI k)) 5 k none) 48 7 (nI k)) := Kq.typ q t
    refine ⟨nI k, sR (sA σ 1 4 (nI k)) 5 k none, sA (sR (sA σ 1 4 (nI k)) 5 k none) 48 7 (nI k), ?_, t', Nat.le_refl _, ?_, Nat.le_refl _, V, S, C, k, FS, t', Kq.src q t (by decide) (by decide) (by decide) (by decide) (by decide) (by decide) h1, ?_, ⟨m, B, Kq.tap q t (by decide) (by decide) (by decide) (by decide) ht⟩, ⟨p, PS, PW, PV, Kq.pl q t (by decide) (by decide) (by decide) (by decide) (by simp (decide := true) only [hA_sA, hA_sR, false_and, and_false, if_false]) (by decide) (by decide) (by decide) (by decide) h4⟩, Kq.lst q t (by decide) (by decide) (lst4 (by decide)) (by decide) h5, Kq.way q t (Kq.A q (Nat.lt_of_lt_of_le (by decide) t.1) (by decide) 8) (by decide) (by decide) (by decide) h6', Kq.img q t (Kq.A q (Nat.lt_of_lt_of_le (by decide) t.1) (by decide) 2) (by decide) (by decide) (by decide) (by decide) (imgrows (by decide)) h7⟩
    · unfold f_X5_drop
      simp (decide := true) only [chk_p, lt_p, bd_p, bc_p, oc_n, oc_s, and_self, and_true, true_and, if_true, if_false, isO_sA', isO_sB', isO_rA', hlen_sA, hlen_sB, hlen_rA, hR_sA, hR_sB, hR_rA, Typ_sA', Typ_sB', Typ_rA', O0, r0_0, r0_1, r0_3, r0_4, r0_5, r0_6, r0_7, O1, r1_0, r1_1, r1_2, r1_3, r1_5, r1_6, r1_7, O5, l5, t, e1, l0, ie, ci, nI_pred, hA_sA, hA_sR, hR_sR, okF, false_and, if_false, isO_sR', hlen_sR, Typ_sR5]
    · unfold f_X6_drop
      simp (decide := true) only [chk_p, lt_p, bd_p, bc_p, oc_n, oc_s, and_self, and_true, true_and, if_true, if_false, isO_sA', isO_sB', isO_rA', hlen_sA, hlen_sB, hlen_rA, hR_sA, hR_sB, hR_rA, Typ_sA', Typ_sB', Typ_rA', O48, r48_0, r48_1, r48_2, r48_3, r48_4, r48_5, r48_6, r48_8, r48_9, r48_10, r48_11, r48_12, r48_15, r48_21, r48_22, r48_23, r48_24, r48_25, r48_28, r48_30, r48_31, r48_32, r48_35, r48_37, r48_39, r48_40, r48_41, t, hA_sA, hA_sR, e2, ne, nI_pred, false_and, if_false, isO_sR']
    · refine ⟨by omega, fun i hi => hg i (by omega), ?_, ?_, fun i hi => ?_, fun f hf => ?_, fun i hi => ?_⟩
      · simp (decide := true) only [hA_sA, hA_sR, and_self, false_and, if_true, if_false]
      · simp (decide := true) only [hA_sA, and_self, if_true]
      · obtain ⟨φ, g1, g2, g3⟩ := ex i (by omega)
        refine ⟨φ, ?_, Kq.xf q g2, Kq.xi q g2 g3⟩
        rw [hR_sA, hR_sR, if_neg (by omega)]; exact g1
      · obtain ⟨m1, m2⟩ := em f (by omega)
        refine ⟨(Kq.A q (Nat.lt_of_lt_of_le (by decide) t.1) (by decide) _).trans m1, fun i hi => ?_⟩
        obtain ⟨q1, q2, q3, q4⟩ := m2 i hi
        exact ⟨(Kq.A q (Nat.lt_of_lt_of_le (by decide) t.1) (by decide) _).trans q1, (Kq.A q (Nat.lt_of_lt_of_le (by decide) t.1) (by decide) _).trans q2, (Kq.A q (Nat.lt_of_lt_of_le (by decide) t.1) (by decide) _).trans q3, (Kq.A q (Nat.lt_of_lt_of_le (by decide) t.1) (by decide) _).trans q4⟩
      · rw [hR_sA, hR_sR]
        by_cases e : 5 = 5 ∧ i = k
        · rw [if_pos e]; rfl
        · rw [if_neg e]; exact Kq.okk q (er i hi)
end
section
/-! get, put, list, plan -/
theorem nI_mul8 (s : Nat) : (8 : Int32) * nI s = nI (8 * s) := by
  show Int32.ofNat 8 * Int32.ofNat s = Int32.ofNat (8 * s)
  rw [Int32.ofNat_mul]
theorem row41 {σ : HS} (t : Typ σ) {l : Nat} (hl : l < 4) : hR σ 41 l = some (42 + l) ∧ isO σ 12 (42 + l) = True ∧ hlen σ (42 + l) = 8 := by
  have h4 : l = 0 ∨ l = 1 ∨ l = 2 ∨ l = 3 := by omega
  rcases h4 with z | z | z | z <;> subst z
  · exact ⟨r41_0 t, O42 t, l42 t⟩
  · exact ⟨r41_1 t, O43 t, l43 t⟩
  · exact ⟨r41_2 t, O44 t, l44 t⟩
  · exact ⟨r41_3 t, O45 t, l45 t⟩
theorem m11 : (-11 : Int32).toInt = -11 := rfl
theorem m1 : (-1 : Int32).toInt = -1 := rfl
theorem isInM (a : Int32) {m : Nat} (hm : m ≤ 60) (σ : HS) : f_X6_isIn a.toInt64 0 (nI m - 1).toInt64 σ = some (if 0 ≤ a.toInt ∧ a.toInt < m then 1 else 0, σ) := by
  have e2 : ((nI m - 1).toInt64).toInt = (m : Int) - 1 := by
    rw [Int32.toInt_toInt64, i_sub (by rw [nT (by omega)]; omega) (by rw [nT (by omega)]; omega) (by decide) (by decide), nT (by omega)]; rfl
  rw [isIn_c a 0 (nI m - 1).toInt64 0 ((m : Int) - 1) rfl e2 σ]
  by_cases c : 0 ≤ a.toInt ∧ a.toInt < m
  · rw [if_pos c, if_pos (by omega)]
  · rw [if_neg c, if_neg (by omega)]
theorem isInM1 (a : Int32) (σ : HS) : f_X6_isIn a.toInt64 0 ((-1 : Int32) - 1).toInt64 σ = some (0, σ) := by
  rw [isIn_c a 0 ((-1 : Int32) - 1).toInt64 0 (-2) rfl (by rw [Int32.toInt_toInt64]; decide) σ, if_neg (by omega)]
theorem op_get (a b : Int32) : OpOK (f_X5_get 0 a b) (f_X6_get 48 a b) := by
  intro σ V S C n FS I
  have t := I.1
  rcases argC a 4 (by decide) with ⟨l, hl, rfl⟩ | ha
  · have c1 := inL hl
    have le := inbE (i := l) (n := 4) hl (by omega)
    have cl := cl1000 (i := l) (by omega)
    obtain ⟨r1, r2, r3⟩ := row41 t hl
    obtain ⟨hlen, hit⟩ := I.2.2.2.2.2.1 l hl
    rcases hlen with ⟨e1, e2⟩ | ⟨m, hm, e1, e2⟩
    · refine opN I (-9223372036854775808) ?_ ?_
      · unfold f_X5_get
        by_cases b0 : b < 0
        · simp only [isList_ok, yif c1, beq1, b0, if_false, chk_p, lt_p, bd_p, bc_p, oc_n, oc_s, and_self, and_true, true_and, if_true, if_false, isO_sA', isO_sB', isO_rA', hlen_sA, hlen_sB, hlen_rA, hR_sA, hR_sB, hR_rA, Typ_sA', Typ_sB', Typ_rA']
        · have b1 : ¬ b < -11 := by rw [i_lt, z320] at b0; rw [i_lt, m11]; omega
          simp only [isList_ok, yif c1, beq1, b0, b1, e1, le, cl, if_false, chk_p, lt_p, bd_p, bc_p, oc_n, oc_s, and_self, and_true, true_and, if_true, if_false, isO_sA', isO_sB', isO_rA', hlen_sA, hlen_sB, hlen_rA, hR_sA, hR_sB, hR_rA, Typ_sA', Typ_sB', Typ_rA', O0, r0_0, r0_1, r0_3, r0_4, r0_5, r0_6, r0_7, O46, l46, t]
      · unfold f_X6_get
        simp only [mIsList_ok, yif c1, beq1, e2, isInM1, le, cl, if_false, chk_p, lt_p, bd_p, bc_p, oc_n, oc_s, and_self, and_true, true_and, if_true, if_false, isO_sA', isO_sB', isO_rA', hlen_sA, hlen_sB, hlen_rA, hR_sA, hR_sB, hR_rA, Typ_sA', Typ_sB', Typ_rA', O48, r48_0, r48_1, r48_2, r48_3, r48_4, r48_5, r48_6, r48_8, r48_9, r48_10, r48_11, r48_12, r48_15, r48_21, r48_22, r48_23, r48_24, r48_25, r48_28, r48_30, r48_31, r48_32, r48_35, r48_37, r48_39, r48_40, r48_41, O74, l74, t]
    · rcases argC b m (by omega) with ⟨i, hi, rfl⟩ | hb
      · have b0 : ¬ nI i < 0 := by rw [i_lt, nT (by omega), z320]; omega
        have b1 : nI i < nI m := by rw [i_lt, nT (by omega), nT (by omega)]; omega
        have c2 : 0 ≤ (nI i).toInt ∧ (nI i).toInt < m := by rw [nT (by omega)]; omega
        have ie := inbE (i := i) (n := 8) (by omega) (by omega)
        have ci := cl1000 (i := i) (by omega)
        have pe := inbE (i := 8 * l + i) (n := 32) (by omega) (by omega)
        have cp := cl1000 (i := 8 * l + i) (by omega)
        refine opN I (hB σ (42 + l) i) ?_ ?_
        · unfold f_X5_get
          simp only [isList_ok, yif c1, beq1, b0, b1, e1, le, cl, ie, ci, r1, r2, r3, if_false, chk_p, lt_p, bd_p, bc_p, oc_n, oc_s, and_self, and_true, true_and, if_true, if_false, isO_sA', isO_sB', isO_rA', hlen_sA, hlen_sB, hlen_rA, hR_sA, hR_sB, hR_rA, Typ_sA', Typ_sB', Typ_rA', O0, r0_0, r0_1, r0_3, r0_4, r0_5, r0_6, r0_7, O46, l46, O41, l41, t]
        · unfold f_X6_get
          simp only [mIsList_ok, yif c1, beq1, e2, isInM _ (show m ≤ 60 by omega), yif c2, le, cl, nI_mul8, nI_plus, pe, cp, if_false, chk_p, lt_p, bd_p, bc_p, oc_n, oc_s, and_self, and_true, true_and, if_true, if_false, isO_sA', isO_sB', isO_rA', hlen_sA, hlen_sB, hlen_rA, hR_sA, hR_sB, hR_rA, Typ_sA', Typ_sB', Typ_rA', O48, r48_0, r48_1, r48_2, r48_3, r48_4, r48_5, r48_6, r48_8, r48_9, r48_10, r48_11, r48_12, r48_15, r48_21, r48_22, r48_23, r48_24, r48_25, r48_28, r48_30, r48_31, r48_32, r48_35, r48_37, r48_39, r48_40, r48_41, O74, l74, O75, l75, t, hit i (by omega)]
      · have c2 : ¬ (0 ≤ b.toInt ∧ b.toInt < m) := by omega
        refine opN I (-9223372036854775808) ?_ ?_
        · unfold f_X5_get
          by_cases b0 : b < 0
          · simp only [isList_ok, yif c1, beq1, b0, if_false, chk_p, lt_p, bd_p, bc_p, oc_n, oc_s, and_self, and_true, true_and, if_true, if_false, isO_sA', isO_sB', isO_rA', hlen_sA, hlen_sB, hlen_rA, hR_sA, hR_sB, hR_rA, Typ_sA', Typ_sB', Typ_rA']
          · have b1 : ¬ b < nI m := by rw [i_lt, z320] at b0; rw [i_lt, nT (by omega)]; omega
            simp only [isList_ok, yif c1, beq1, b0, b1, e1, le, cl, if_false, chk_p, lt_p, bd_p, bc_p, oc_n, oc_s, and_self, and_true, true_and, if_true, if_false, isO_sA', isO_sB', isO_rA', hlen_sA, hlen_sB, hlen_rA, hR_sA, hR_sB, hR_rA, Typ_sA', Typ_sB', Typ_rA', O0, r0_0, r0_1, r0_3, r0_4, r0_5, r0_6, r0_7, O46, l46, t]
        · unfold f_X6_get
          simp only [mIsList_ok, yif c1, beq1, e2, isInM _ (show m ≤ 60 by omega), nif c2, le, cl, if_false, chk_p, lt_p, bd_p, bc_p, oc_n, oc_s, and_self, and_true, true_and, if_true, if_false, isO_sA', isO_sB', isO_rA', hlen_sA, hlen_sB, hlen_rA, hR_sA, hR_sB, hR_rA, Typ_sA', Typ_sB', Typ_rA', O48, r48_0, r48_1, r48_2, r48_3, r48_4, r48_5, r48_6, r48_8, r48_9, r48_10, r48_11, r48_12, r48_15, r48_21, r48_22, r48_23, r48_24, r48_25, r48_28, r48_30, r48_31, r48_32, r48_35, r48_37, r48_39, r48_40, r48_41, O74, l74, t]
  · have c1 : ¬ (0 ≤ a.toInt ∧ a.toInt < 4) := by omega
    refine opN I (-9223372036854775808) ?_ ?_
    · unfold f_X5_get
      simp only [isList_ok, nif c1, chk_p, lt_p, bd_p, bc_p, oc_n, oc_s, and_self, and_true, true_and, if_true, if_false, isO_sA', isO_sB', isO_rA', hlen_sA, hlen_sB, hlen_rA, hR_sA, hR_sB, hR_rA, Typ_sA', Typ_sB', Typ_rA']
    · unfold f_X6_get
      simp only [mIsList_ok, nif c1, chk_p, lt_p, bd_p, bc_p, oc_n, oc_s, and_self, and_true, true_and, if_true, if_false, isO_sA', isO_sB', isO_rA', hlen_sA, hlen_sB, hlen_rA, hR_sA, hR_sB, hR_rA, Typ_sA', Typ_sB', Typ_rA']
theorem nm11 {m : Nat} (h : m ≤ 60) : (nI m = -11) = False := eq_false (fun z => by have := congrArg Int32.toInt z; rw [nT (by omega), m11] at this; omega)
theorem nm1 {m : Nat} (h : m ≤ 60) : (nI m = -1) = False := eq_false (fun z => by have := congrArg Int32.toInt z; rw [nT (by omega), m1] at this; omega)
theorem op_put (a b : Int32) (v : Int64) : OpOK (f_X5_put 0 a b v) (f_X6_put 48 a b v) := by
  intro σ V S C n FS I
  have t := I.1
  rcases argC a 4 (by decide) with ⟨l, hl, rfl⟩ | ha
  · have c1 := inL hl
    have le := inbE (i := l) (n := 4) hl (by omega)
    have cl := cl1000 (i := l) (by omega)
    obtain ⟨r1, r2, r3⟩ := row41 t hl
    obtain ⟨hlen, hit⟩ := I.2.2.2.2.2.1 l hl
    rcases hlen with ⟨e1, e2⟩ | ⟨m, hm, e1, e2⟩
    · refine opN I (-11) ?_ ?_
      · unfold f_X5_put
        simp only [isList_ok, yif c1, beq1, e1, le, cl, if_false, chk_p, lt_p, bd_p, bc_p, oc_n, oc_s, and_self, and_true, true_and, if_true, if_false, isO_sA', isO_sB', isO_rA', hlen_sA, hlen_sB, hlen_rA, hR_sA, hR_sB, hR_rA, Typ_sA', Typ_sB', Typ_rA', O0, r0_0, r0_1, r0_3, r0_4, r0_5, r0_6, r0_7, O46, l46, t]
      · unfold f_X6_put
        simp only [mIsList_ok, yif c1, beq1, e2, le, cl, if_false, chk_p, lt_p, bd_p, bc_p, oc_n, oc_s, and_self, and_true, true_and, if_true, if_false, isO_sA', isO_sB', isO_rA', hlen_sA, hlen_sB, hlen_rA, hR_sA, hR_sB, hR_rA, Typ_sA', Typ_sB', Typ_rA', O48, r48_0, r48_1, r48_2, r48_3, r48_4, r48_5, r48_6, r48_8, r48_9, r48_10, r48_11, r48_12, r48_15, r48_21, r48_22, r48_23, r48_24, r48_25, r48_28, r48_30, r48_31, r48_32, r48_35, r48_37, r48_39, r48_40, r48_41, O74, l74, t]
    · rcases argC b m (by omega) with ⟨i, hi, rfl⟩ | hb
      · have b0 : ¬ nI i < 0 := by rw [i_lt, nT (by omega), z320]; omega
        have b1 : nI i < nI m := by rw [i_lt, nT (by omega), nT (by omega)]; omega
        have c2 : 0 ≤ (nI i).toInt ∧ (nI i).toInt < m := by rw [nT (by omega)]; omega
        have ie := inbE (i := i) (n := 8) (by omega) (by omega)
        have ci := cl1000 (i := i) (by omega)
        have pe := inbE (i := 8 * l + i) (n := 32) (by omega) (by omega)
        have cp := cl1000 (i := 8 * l + i) (by omega)
        obtain ⟨-, h1, h2, ⟨m', B, h3⟩, ⟨p, PS, PW, PV, h4⟩, h5, h6, h7⟩ := I
        have h4' : l = 0 ∨ l = 1 ∨ l = 2 ∨ l = 3 := by omega
        have q : KL [42, 43, 44, 45, 75] [] [] σ (sB (sB σ (42 + l) i v) 75 (8 * l + i) v) := (KL_sB (by decide) (by decide) (by rcases h4' with z | z | z | z <;> subst z <;> decide)).seq (KL_sB (by decide) (by decide) (by decide))
        refine ⟨1, sB σ (42 + l) i v, sB (sB σ (42 + l) i v) 75 (8 * l + i) v, ?_, t, Nat.le_refl _, ?_, Nat.le_refl _, V, S, C, n, FS, t, Kq.src q t (by decide) (by decide) (by decide) (by decide) (by decide) (by decide) h1, Kq.fm q t (by decide) (by decide) (by decide) (by decide) (Kq.A q (Nat.lt_of_lt_of_le (by decide) t.1) (by decide) 4) (by decide) (by decide) (by decide) (by decide) (by decide) h2, ⟨m', B, Kq.tap q t (by decide) (by decide) (by decide) (by decide) h3⟩, ⟨p, PS, PW, PV, Kq.pl q t (by decide) (by decide) (by decide) (by decide) (Kq.A q (Nat.lt_of_lt_of_le (by decide) t.1) (by decide) 8) (by decide) (by decide) (by decide) (by decide) h4⟩, fun l' hl' => ⟨(h5 l' hl').1, fun k hk => ?_⟩, Kq.way q t (Kq.A q (Nat.lt_of_lt_of_le (by decide) t.1) (by decide) 8) (by decide) (by decide) (by decide) h6, Kq.img q t (Kq.A q (Nat.lt_of_lt_of_le (by decide) t.1) (by decide) 2) (by decide) (by decide) (by decide) (by decide) (imgrows (by decide)) h7⟩
        · unfold f_X5_put
          simp only [isList_ok, yif c1, beq1, b0, b1, e1, nm11 (show m ≤ 60 by omega), le, cl, ie, ci, r1, r2, r3, if_false, chk_p, lt_p, bd_p, bc_p, oc_n, oc_s, and_self, and_true, true_and, if_true, if_false, isO_sA', isO_sB', isO_rA', hlen_sA, hlen_sB, hlen_rA, hR_sA, hR_sB, hR_rA, Typ_sA', Typ_sB', Typ_rA', O0, r0_0, r0_1, r0_3, r0_4, r0_5, r0_6, r0_7, O46, l46, O41, l41, t]
        · unfold f_X6_put
          simp only [mIsList_ok, yif c1, beq1, hA_sB, e2, nm1 (show m ≤ 60 by omega), isInM _ (show m ≤ 60 by omega), yif c2, le, cl, nI_mul8, nI_plus, pe, cp, if_false, chk_p, lt_p, bd_p, bc_p, oc_n, oc_s, and_self, and_true, true_and, if_true, if_false, isO_sA', isO_sB', isO_rA', hlen_sA, hlen_sB, hlen_rA, hR_sA, hR_sB, hR_rA, Typ_sA', Typ_sB', Typ_rA', O48, r48_0, r48_1, r48_2, r48_3, r48_4, r48_5, r48_6, r48_8, r48_9, r48_10, r48_11, r48_12, r48_15, r48_21, r48_22, r48_23, r48_24, r48_25, r48_28, r48_30, r48_31, r48_32, r48_35, r48_37, r48_39, r48_40, r48_41, O74, l74, O75, l75, t]
        · have e0 := (h5 l' hl').2 k hk
          rw [hB_sB, hB_sB, hB_sB, hB_sB, if_neg (show ¬ (42 + l' = 75 ∧ k = 8 * l + i) by omega)]
          by_cases e : l' = l ∧ k = i
          · rw [if_pos (by omega), if_pos (by omega)]
          · rw [if_neg (by omega), if_neg (by omega), if_neg (by omega)]; exact e0
      · have c2 : ¬ (0 ≤ b.toInt ∧ b.toInt < m) := by omega
        refine opN I (-13) ?_ ?_
        · unfold f_X5_put
          by_cases b0 : b < 0
          · simp only [isList_ok, yif c1, beq1, b0, e1, nm11 (show m ≤ 60 by omega), le, cl, if_false, chk_p, lt_p, bd_p, bc_p, oc_n, oc_s, and_self, and_true, true_and, if_true, if_false, isO_sA', isO_sB', isO_rA', hlen_sA, hlen_sB, hlen_rA, hR_sA, hR_sB, hR_rA, Typ_sA', Typ_sB', Typ_rA', O0, r0_0, r0_1, r0_3, r0_4, r0_5, r0_6, r0_7, O46, l46, t]
          · have b1 : ¬ b < nI m := by rw [i_lt, z320] at b0; rw [i_lt, nT (by omega)]; omega
            simp only [isList_ok, yif c1, beq1, b0, b1, e1, nm11 (show m ≤ 60 by omega), le, cl, if_false, chk_p, lt_p, bd_p, bc_p, oc_n, oc_s, and_self, and_true, true_and, if_true, if_false, isO_sA', isO_sB', isO_rA', hlen_sA, hlen_sB, hlen_rA, hR_sA, hR_sB, hR_rA, Typ_sA', Typ_sB', Typ_rA', O0, r0_0, r0_1, r0_3, r0_4, r0_5, r0_6, r0_7, O46, l46, t]
        · unfold f_X6_put
          simp only [mIsList_ok, yif c1, beq1, e2, nm1 (show m ≤ 60 by omega), isInM _ (show m ≤ 60 by omega), nif c2, le, cl, if_false, chk_p, lt_p, bd_p, bc_p, oc_n, oc_s, and_self, and_true, true_and, if_true, if_false, isO_sA', isO_sB', isO_rA', hlen_sA, hlen_sB, hlen_rA, hR_sA, hR_sB, hR_rA, Typ_sA', Typ_sB', Typ_rA', O48, r48_0, r48_1, r48_2, r48_3, r48_4, r48_5, r48_6, r48_8, r48_9, r48_10, r48_11, r48_12, r48_15, r48_21, r48_22, r48_23, r48_24, r48_25, r48_28, r48_30, r48_31, r48_32, r48_35, r48_37, r48_39, r48_40, r48_41, O74, l74, t]
  · have c1 : ¬ (0 ≤ a.toInt ∧ a.toInt < 4) := by omega
    refine opN I (-1) ?_ ?_
    · unfold f_X5_put
      simp only [isList_ok, nif c1, chk_p, lt_p, bd_p, bc_p, oc_n, oc_s, and_self, and_true, true_and, if_true, if_false, isO_sA', isO_sB', isO_rA', hlen_sA, hlen_sB, hlen_rA, hR_sA, hR_sB, hR_rA, Typ_sA', Typ_sB', Typ_rA']
    · unfold f_X6_put
      simp only [mIsList_ok, nif c1, chk_p, lt_p, bd_p, bc_p, oc_n, oc_s, and_self, and_true, true_and, if_true, if_false, isO_sA', isO_sB', isO_rA', hlen_sA, hlen_sB, hlen_rA, hR_sA, hR_sB, hR_rA, Typ_sA', Typ_sB', Typ_rA']
/-- the class's fill of longs, the reference's loop of zeros -/
theorem fillB_lp (r n : Nat) (hn : n < 1000) (v : Int64) : ∀ (d i : Nat) (σ : HS), isO σ 12 r → hlen σ r = n → i + d = n → ∀ nf, d < nf → ∃ σ', lp_J7_fill_d0a16_6 nf r v (nI i) (nI n) σ = some ((), σ') ∧ Fr [r] σ σ' ∧ (∀ a b, hA σ' a b = hA σ a b) ∧ ∀ a b, hB σ' a b = if a = r ∧ i ≤ b ∧ b < n then v else hB σ a b := by
  intro d
  induction d with
  | zero =>
    intro i σ ho hl he nf hnf
    obtain ⟨nf, rfl⟩ : ∃ k, nf = k + 1 := ⟨nf - 1, by omega⟩
    have hi : i = n := by omega
    subst hi
    refine ⟨σ, ?_, Fr.rf, fun _ _ => rfl, fun a b => by rw [if_neg (by omega)]⟩
    show lp_J7_fill_d0a16_6_b (lp_J7_fill_d0a16_6 nf) r v (nI i) (nI i) σ = _
    unfold lp_J7_fill_d0a16_6_b
    exact if_pos (Int32.le_refl _)
  | succ d ih =>
    intro i σ ho hl he nf hnf
    obtain ⟨nf, rfl⟩ : ∃ k, nf = k + 1 := ⟨nf - 1, by omega⟩
    have fr : Fr [r] σ (sB σ r i v) := Fr_sB (by simp)
    obtain ⟨σ', e1, e2, e3, e4⟩ := ih (i + 1) (sB σ r i v) ho hl (by omega) nf (by omega)
    refine ⟨σ', ?_, fr.seq e2, fun a b => e3 a b, fun a b => ?_⟩
    · show lp_J7_fill_d0a16_6_b (lp_J7_fill_d0a16_6 nf) r v (nI i) (nI n) σ = _
      unfold lp_J7_fill_d0a16_6_b
      have le := nle (a := n) (b := i) (by omega) (by omega)
      have ie := inbE (i := i) (n := n) (by omega) (by omega)
      have ci := cl1000 (i := i) (by omega)
      have ho' := eq_true ho
      simp only [le, if_false, chk_p, lt_p, bd_p, bc_p, oc_n, oc_s, and_self, and_true, true_and, if_true, if_false, isO_sA', isO_sB', isO_rA', hlen_sA, hlen_sB, hlen_rA, hR_sA, hR_sB, hR_rA, Typ_sA', Typ_sB', Typ_rA', ho', hl, ie, ci, nI_s, e1]
    · rw [e4, hB_sB]
      by_cases e : a = r ∧ b = i
      · rw [if_pos e]
        by_cases c : a = r ∧ i + 1 ≤ b ∧ b < n
        · rw [if_pos c, if_pos (by omega)]
        · rw [if_neg c, if_pos (by omega)]
      · rw [if_neg e]
        by_cases c : a = r ∧ i + 1 ≤ b ∧ b < n
        · rw [if_pos c, if_pos (by omega)]
        · rw [if_neg c, if_neg (by omega)]
theorem listM_lp {l : Nat} (hl : l < 4) (w : Int32) : ∀ (d i : Nat) (σ : HS), Typ σ → i + d = 8 → ∀ nf, d < nf → ∃ σ', lp_X6_list_34 nf 48 (nI l) w (nI i) σ = some (1, σ') ∧ Fr [75] σ σ' ∧ (∀ a b, hA σ' a b = hA σ a b) ∧ ∀ a b, hB σ' a b = if a = 75 ∧ 8 * l + i ≤ b ∧ b < 8 * l + 8 then 0 else hB σ a b := by
  intro d
  induction d with
  | zero =>
    intro i σ ht he nf hnf
    obtain ⟨nf, rfl⟩ : ∃ k, nf = k + 1 := ⟨nf - 1, by omega⟩
    have hi : i = 8 := by omega
    subst hi
    refine ⟨σ, ?_, Fr.rf, fun _ _ => rfl, fun a b => by rw [if_neg (by omega)]⟩
    show lp_X6_list_34_b (lp_X6_list_34 nf) 48 (nI l) w (nI 8) σ = _
    unfold lp_X6_list_34_b
    exact if_pos (by decide)
  | succ d ih =>
    intro i σ ht he nf hnf
    obtain ⟨nf, rfl⟩ : ∃ k, nf = k + 1 := ⟨nf - 1, by omega⟩
    have fr : Fr [75] σ (sB σ 75 (8 * l + i) 0) := Fr_sB (by simp)
    obtain ⟨σ', e1, e2, e3, e4⟩ := ih (i + 1) (sB σ 75 (8 * l + i) 0) ht (by omega) nf (by omega)
    refine ⟨σ', ?_, fr.seq e2, fun a b => e3 a b, fun a b => ?_⟩
    · show lp_X6_list_34_b (lp_X6_list_34 nf) 48 (nI l) w (nI i) σ = _
      unfold lp_X6_list_34_b
      have le : (8 : Int32) ≤ nI i ↔ False := by rw [show (8 : Int32) = nI 8 from rfl, nle (a := 8) (b := i) (by omega) (by omega)]
      have le := eq_false (fun z => le.mp z)
      have ie := inbE (i := 8 * l + i) (n := 32) (by omega) (by omega)
      have ci := cl1000 (i := 8 * l + i) (by omega)
      simp only [le, if_false, chk_p, lt_p, bd_p, bc_p, oc_n, oc_s, and_self, and_true, true_and, if_true, if_false, isO_sA', isO_sB', isO_rA', hlen_sA, hlen_sB, hlen_rA, hR_sA, hR_sB, hR_rA, Typ_sA', Typ_sB', Typ_rA', O48, r48_0, r48_1, r48_2, r48_3, r48_4, r48_5, r48_6, r48_8, r48_9, r48_10, r48_11, r48_12, r48_15, r48_21, r48_22, r48_23, r48_24, r48_25, r48_28, r48_30, r48_31, r48_32, r48_35, r48_37, r48_39, r48_40, r48_41, O75, l75, ht, nI_mul8, nI_plus, ie, ci, nI_s, e1]
    · rw [e4, hB_sB]
      by_cases e : a = 75 ∧ b = 8 * l + i
      · rw [if_pos e]
        by_cases c : a = 75 ∧ 8 * l + (i + 1) ≤ b ∧ b < 8 * l + 8
        · rw [if_pos c, if_pos (by omega)]
        · rw [if_neg c, if_pos (by omega)]
      · rw [if_neg e]
        by_cases c : a = 75 ∧ 8 * l + (i + 1) ≤ b ∧ b < 8 * l + 8
        · rw [if_pos c, if_pos (by omega)]
        · rw [if_neg c, if_neg (by omega)]
theorem z8 : (8 : Int32).toInt = 8 := rfl
theorem op_list (a b : Int32) : OpOK (f_X5_list 0 a b) (f_X6_list 48 a b) := by
  intro σ V S C n FS I
  have t := I.1
  rcases argC a 4 (by decide) with ⟨l, hl, rfl⟩ | ha
  · have c1 := inL hl
    have le := inbE (i := l) (n := 4) hl (by omega)
    have cl := cl1000 (i := l) (by omega)
    obtain ⟨r1, r2, r3⟩ := row41 t hl
    by_cases b8 : b ≤ 8
    · by_cases b0 : 0 ≤ b
      · obtain ⟨m, hm, eb⟩ : ∃ m : Nat, m ≤ 8 ∧ b = nI m := by
          rw [i_le, z8] at b8; rw [i_le, z320] at b0
          rcases argC b 9 (by decide) with ⟨k, hk, e⟩ | h
          · exact ⟨k, by omega, e⟩
          · omega
        obtain ⟨-, h1, h2, ⟨m', B, h3⟩, ⟨p, PS, PW, PV, h4⟩, h5, h6, h7⟩ := I
        have h4' : l = 0 ∨ l = 1 ∨ l = 2 ∨ l = 3 := by omega
        have ho : isO σ 12 (42 + l) := of_eq_true r2
        obtain ⟨σ1, f1, f2, f3, f4⟩ := fillB_lp (42 + l) 8 (by decide) 0 8 0 σ ho r3 (by omega) 1000 (by decide)
        have t1 := f2.typ t
        obtain ⟨σ2, g1, g2, g3, g4⟩ := listM_lp hl b 8 0 (sA (sA σ1 46 l b) 74 l b) t1 (by omega) 1000 (by decide)
        have q : KL [42, 43, 44, 45, 46, 74, 75] [] [] σ σ2 := (((f2.kl (by decide) (by decide) (fun j hj => by rw [List.mem_singleton] at hj; subst hj; rcases h4' with z | z | z | z <;> subst z <;> decide) (fun z => by rw [List.mem_singleton] at z; omega)).seq (KL_sA (by decide) (by decide) (by decide) (fun z => by omega))).seq (KL_sA (by decide) (by decide) (by decide) (fun z => by omega))).seq (g2.kl (by decide) (by decide) (fun j hj => by rw [List.mem_singleton] at hj; subst hj; decide) (by decide))
        have ef : f_J7_fill_d0a16 (42 + l) 0 σ = some ((), σ1) := by
          unfold f_J7_fill_d0a16
          simp only [chk_p, lt_p, bd_p, bc_p, oc_n, oc_s, and_self, and_true, true_and, if_true, if_false, isO_sA', isO_sB', isO_rA', hlen_sA, hlen_sB, hlen_rA, hR_sA, hR_sB, hR_rA, Typ_sA', Typ_sB', Typ_rA', r2, r3]
          exact f1
        refine ⟨1, sA σ1 46 l b, σ2, ?_, t1, Nat.le_of_eq f2.1.symm, ?_, Nat.le_of_eq g2.1.symm, V, S, C, n, FS, Kq.typ q t, Kq.src q t (by decide) (by decide) (by decide) (by decide) (by decide) (by decide) h1, Kq.fm q t (by decide) (by decide) (by decide) (by decide) (Kq.A q (Nat.lt_of_lt_of_le (by decide) t.1) (by decide) 4) (by decide) (by decide) (by decide) (by decide) (by decide) h2, ⟨m', B, Kq.tap q t (by decide) (by decide) (by decide) (by decide) h3⟩, ⟨p, PS, PW, PV, Kq.pl q t (by decide) (by decide) (by decide) (by decide) (Kq.A q (Nat.lt_of_lt_of_le (by decide) t.1) (by decide) 8) (by decide) (by decide) (by decide) (by decide) h4⟩, fun l' hl' => ?_, Kq.way q t (Kq.A q (Nat.lt_of_lt_of_le (by decide) t.1) (by decide) 8) (by decide) (by decide) (by decide) h6, Kq.img q t (Kq.A q (Nat.lt_of_lt_of_le (by decide) t.1) (by decide) 2) (by decide) (by decide) (by decide) (by decide) (imgrows (by decide)) h7⟩
        · unfold f_X5_list
          simp only [isList_ok, yif c1, beq1, b8, b0, le, cl, r1, ef, if_false, chk_p, lt_p, bd_p, bc_p, oc_n, oc_s, and_self, and_true, true_and, if_true, if_false, isO_sA', isO_sB', isO_rA', hlen_sA, hlen_sB, hlen_rA, hR_sA, hR_sB, hR_rA, Typ_sA', Typ_sB', Typ_rA', O0, r0_0, r0_1, r0_3, r0_4, r0_5, r0_6, r0_7, O46, l46, O41, l41, t, t1]
        · unfold f_X6_list
          simp only [mIsList_ok, yif c1, beq1, b8, b0, le, cl, if_false, chk_p, lt_p, bd_p, bc_p, oc_n, oc_s, and_self, and_true, true_and, if_true, if_false, isO_sA', isO_sB', isO_rA', hlen_sA, hlen_sB, hlen_rA, hR_sA, hR_sB, hR_rA, Typ_sA', Typ_sB', Typ_rA', O48, r48_0, r48_1, r48_2, r48_3, r48_4, r48_5, r48_6, r48_8, r48_9, r48_10, r48_11, r48_12, r48_15, r48_21, r48_22, r48_23, r48_24, r48_25, r48_28, r48_30, r48_31, r48_32, r48_35, r48_37, r48_39, r48_40, r48_41, O74, l74, t1]
          exact g1
        · obtain ⟨w1, w2⟩ := h5 l' hl'
          refine ⟨?_, fun k hk => ?_⟩
          · rw [g3, g3, hA_sA, hA_sA, hA_sA, hA_sA, if_neg (show ¬ (46 = 74 ∧ l' = l) by omega), if_neg (show ¬ (74 = 46 ∧ l' = l) by omega), f3, f3]
            by_cases e : l' = l
            · rw [if_pos ⟨rfl, e⟩, if_pos ⟨rfl, e⟩, eb]
              exact Or.inr ⟨m, hm, rfl, rfl⟩
            · rw [if_neg (by omega), if_neg (by omega)]; exact w1
          · rw [g4, g4, hB_sA, hB_sA, hB_sA, hB_sA, f4, f4, if_neg (show ¬ (42 + l' = 75 ∧ _) by omega), if_neg (show ¬ (75 = 42 + l ∧ _) by omega)]
            by_cases e : l' = l
            · rw [if_pos (by omega), if_pos (by omega)]
            · rw [if_neg (by omega), if_neg (by omega)]; exact w2 k hk
      · refine opN I (-14) ?_ ?_
        · unfold f_X5_list
          simp only [isList_ok, yif c1, beq1, b8, b0, if_false, chk_p, lt_p, bd_p, bc_p, oc_n, oc_s, and_self, and_true, true_and, if_true, if_false, isO_sA', isO_sB', isO_rA', hlen_sA, hlen_sB, hlen_rA, hR_sA, hR_sB, hR_rA, Typ_sA', Typ_sB', Typ_rA']
        · unfold f_X6_list
          simp only [mIsList_ok, yif c1, beq1, b8, b0, if_false, chk_p, lt_p, bd_p, bc_p, oc_n, oc_s, and_self, and_true, true_and, if_true, if_false, isO_sA', isO_sB', isO_rA', hlen_sA, hlen_sB, hlen_rA, hR_sA, hR_sB, hR_rA, Typ_sA', Typ_sB', Typ_rA']
    · refine opN I (-2) ?_ ?_
      · unfold f_X5_list
        simp only [isList_ok, yif c1, beq1, b8, if_false, chk_p, lt_p, bd_p, bc_p, oc_n, oc_s, and_self, and_true, true_and, if_true, if_false, isO_sA', isO_sB', isO_rA', hlen_sA, hlen_sB, hlen_rA, hR_sA, hR_sB, hR_rA, Typ_sA', Typ_sB', Typ_rA']
      · unfold f_X6_list
        simp only [mIsList_ok, yif c1, beq1, b8, if_false, chk_p, lt_p, bd_p, bc_p, oc_n, oc_s, and_self, and_true, true_and, if_true, if_false, isO_sA', isO_sB', isO_rA', hlen_sA, hlen_sB, hlen_rA, hR_sA, hR_sB, hR_rA, Typ_sA', Typ_sB', Typ_rA']
  · have c1 : ¬ (0 ≤ a.toInt ∧ a.toInt < 4) := by omega
    refine opN I (-1) ?_ ?_
    · unfold f_X5_list
      simp only [isList_ok, nif c1, chk_p, lt_p, bd_p, bc_p, oc_n, oc_s, and_self, and_true, true_and, if_true, if_false, isO_sA', isO_sB', isO_rA', hlen_sA, hlen_sB, hlen_rA, hR_sA, hR_sB, hR_rA, Typ_sA', Typ_sB', Typ_rA']
    · unfold f_X6_list
      simp only [mIsList_ok, nif c1, chk_p, lt_p, bd_p, bc_p, oc_n, oc_s, and_self, and_true, true_and, if_true, if_false, isO_sA', isO_sB', isO_rA', hlen_sA, hlen_sB, hlen_rA, hR_sA, hR_sB, hR_rA, Typ_sA', Typ_sB', Typ_rA']
end
section
/-! image, undo -/
def cpy (σ : HS) (a b n : Nat) : HS := rA σ b (va_cpy (hA σ a) (hA σ b) 0 0 n)
theorem hA_cpy (σ : HS) (a b n x k : Nat) : hA (cpy σ a b n) x k = if x = b then (if k < n then hA σ a k else hA σ b k) else hA σ x k := by
  unfold cpy
  rw [hA_rA]
  by_cases e : x = b
  · rw [if_pos e, if_pos e]
    unfold va_cpy
    by_cases e2 : k < n
    · rw [if_pos (by omega), if_pos e2]; congr 1; omega
    · rw [if_neg (by omega), if_neg e2]
  · rw [if_neg e, if_neg e]
theorem hB_cpy (σ : HS) (a b n x k : Nat) : hB (cpy σ a b n) x k = hB σ x k := rfl
theorem hR_cpy (σ : HS) (a b n x k : Nat) : hR (cpy σ a b n) x k = hR σ x k := rfl
theorem hlen_cpy (σ : HS) (a b n x : Nat) : hlen (cpy σ a b n) x = hlen σ x := rfl
theorem isO_cpy (σ : HS) (a b n t x : Nat) : isO (cpy σ a b n) t x = isO σ t x := rfl
theorem Typ_cpy (σ : HS) (a b n : Nat) : Typ (cpy σ a b n) = Typ σ := rfl
theorem cpy6 (σ : HS) (a b : Nat) : rA σ b (va_cpy (hA σ a) (hA σ b) (0 : Int32).toNatClampNeg (0 : Int32).toNatClampNeg (6 : Int32).toNatClampNeg) = cpy σ a b 6 := rfl
theorem cpy8 (σ : HS) (a b : Nat) : rA σ b (va_cpy (hA σ a) (hA σ b) (0 : Int32).toNatClampNeg (0 : Int32).toNatClampNeg (8 : Int32).toNatClampNeg) = cpy σ a b 8 := rfl
theorem KL_cpy {S qs ts : List Nat} {σ : HS} {a b n : Nat} (hs : lows S = true) (ht : tsok ts = true) (hj : S.contains b = true) (h48 : b ≠ 48) : KL S qs ts σ (cpy σ a b n) := KL_rA hs ht hj h48
theorem copies_ok {σ : HS} {a b la lb n : Nat} {w : Int32} (ha : isO σ 10 a) (hb : isO σ 10 b) (l1 : hlen σ a = la) (l2 : hlen σ b = lb) (hw : w = nI n) (hn : n < 1000) (h1 : n ≤ la) (h2 : n ≤ lb) : f_X6_copies a b w σ = some ((), cpy σ a b n) := by
  subst hw
  have c := cl1000 (i := n) hn
  have n0 : ¬ nI n < 0 := by rw [i_lt, nT hn, z320]; omega
  have z0 : (0 : Int32).toNatClampNeg = 0 := rfl
  have ha := eq_true ha
  have hb := eq_true hb
  unfold f_X6_copies
  simp (decide := true) only [ha, hb, l1, l2, c, n0, z0, Nat.zero_add, h1, h2, chk_p, lt_p, bd_p, bc_p, oc_n, oc_s, and_self, and_true, true_and, if_true, if_false, isO_sA', isO_sB', isO_rA', hlen_sA, hlen_sB, hlen_rA, hR_sA, hR_sB, hR_rA, Typ_sA', Typ_sB', Typ_rA', not_false_iff]
  rfl
theorem hN_cpy (σ : HS) (a b n : Nat) : hN (cpy σ a b n) = hN σ := rfl
theorem bl9_lp {E : Nat → Option Nat} : ∀ (d i : Nat) (σ : HS), Typ σ → (∀ k, k < 6 → okF σ (E k) = true ∧ hR σ 5 k = E k) → (∀ k, k < i → hR σ 13 k = E k) → i + d = 6 → ∀ nf, d < nf → ∃ σ', lp_X2_becomeLike_47 nf 9 1 (nI i) σ = some ((), σ') ∧ KL [9, 10, 11, 12, 14, 15, 16] [] [13] σ σ' ∧ hN σ' = hN σ ∧ (∀ k, k < 6 → hR σ' 13 k = E k) ∧ (∀ k, hA σ' 10 k = hA σ 10 k ∧ hA σ' 11 k = hA σ 11 k ∧ hA σ' 12 k = hA σ 12 k) ∧ hA σ' 9 4 = hA σ 1 4 ∧ hA σ' 9 8 = hA σ 1 8 ∧ ∀ k, k < 8 → hA σ' 14 k = hA σ 6 k ∧ hA σ' 15 k = hA σ 7 k ∧ hA σ' 16 k = hA σ 8 k := by
  intro d
  induction d with
  | zero =>
    intro i σ t hE hi' he nf hnf
    obtain ⟨nf, rfl⟩ : ∃ k, nf = k + 1 := ⟨nf - 1, by omega⟩
    have hi : i = 6 := by omega
    subst hi
    refine ⟨sA (cpy (cpy (cpy (sA σ 9 4 (hA σ 1 4)) 6 14 8) 7 15 8) 8 16 8) 9 8 (hA σ 1 8), ?_, ((((KL_sA (by decide) (by decide) (by decide) (by decide)).seq (KL_cpy (by decide) (by decide) (by decide) (by decide))).seq (KL_cpy (by decide) (by decide) (by decide) (by decide))).seq (KL_cpy (by decide) (by decide) (by decide) (by decide))).seq (KL_sA (by decide) (by decide) (by decide) (by decide)), rfl, fun k hk => hi' k hk, fun k => ⟨?_, ?_, ?_⟩, ?_, ?_, fun k hk => ⟨?_, ?_, ?_⟩⟩
    · show lp_X2_becomeLike_47_b (lp_X2_becomeLike_47 nf) 9 1 (nI 6) σ = _
      unfold lp_X2_becomeLike_47_b
      rw [if_pos (by decide)]
      simp (decide := true) only [chk_p, lt_p, bd_p, bc_p, oc_n, oc_s, and_self, and_true, true_and, if_true, if_false, isO_sA', isO_sB', isO_rA', hlen_sA, hlen_sB, hlen_rA, hR_sA, hR_sB, hR_rA, Typ_sA', Typ_sB', Typ_rA', O1, r1_0, r1_1, r1_2, r1_3, r1_5, r1_6, r1_7, O6, l6, O7, l7, O8, l8, O9, r9_0, r9_1, r9_2, r9_3, r9_5, r9_6, r9_7, O14, l14, O15, l15, O16, l16, t, cpy8, isO_cpy, hlen_cpy, Typ_cpy, hR_cpy, hA_cpy, hA_sA, not_false_iff, if_false, false_and, and_false]
    all_goals first | simp (decide := true) only [hA_sA, hA_cpy, hk, if_true, if_false, false_and, and_false, and_self] | simp (decide := true) only [hA_sA, hA_cpy, if_true, if_false, false_and, and_false, and_self]
  | succ d ih =>
    intro i σ t hE hi' he nf hnf
    obtain ⟨nf, rfl⟩ : ∃ k, nf = k + 1 := ⟨nf - 1, by omega⟩
    have t1 : Typ (sR σ 13 i (hR σ 5 i)) := of_eq_true (Typ_sR13 t)
    have ok : ∀ o, okF (sR σ 13 i (hR σ 5 i)) o = okF σ o := fun o => rfl
    obtain ⟨σ', e1, e2, e2', e3, e4, e5, e6, e7⟩ := ih (i + 1) (sR σ 13 i (hR σ 5 i)) t1 (fun k hk => ⟨(ok _).trans (hE k hk).1, by rw [hR_sR, if_neg (by omega)]; exact (hE k hk).2⟩) (fun k hk => by
      rw [hR_sR]
      by_cases e : k = i
      · subst e; rw [if_pos ⟨rfl, rfl⟩]; exact (hE k (by omega)).2
      · rw [if_neg (by omega)]; exact hi' k (by omega)) (by omega) nf (by omega)
    refine ⟨σ', ?_, (KL_sR (by decide) (by decide) (by decide) (by rw [(o13 t).2]; decide)).seq e2, e2', e3, e4, e5, e6, e7⟩
    show lp_X2_becomeLike_47_b (lp_X2_becomeLike_47 nf) 9 1 (nI i) σ = _
    unfold lp_X2_becomeLike_47_b
    have le : (6 : Int32) ≤ nI i ↔ False := by rw [show (6 : Int32) = nI 6 from rfl, nle (a := 6) (b := i) (by omega) (by omega)]
    have le := eq_false (fun z => le.mp z)
    have ie := inbE (i := i) (n := 6) (by omega) (by omega)
    have ci := cl1000 (i := i) (by omega)
    have og : okF σ (hR σ 5 i) = true := by rw [(hE i (by omega)).2]; exact (hE i (by omega)).1
    simp only [le, if_false, chk_p, lt_p, bd_p, bc_p, oc_n, oc_s, and_self, and_true, true_and, if_true, if_false, isO_sA', isO_sB', isO_rA', hlen_sA, hlen_sB, hlen_rA, hR_sA, hR_sB, hR_rA, Typ_sA', Typ_sB', Typ_rA', O1, r1_0, r1_1, r1_2, r1_3, r1_5, r1_6, r1_7, O9, r9_0, r9_1, r9_2, r9_3, r9_5, r9_6, r9_7, O5, l5, O13, l13, t, ie, ci, og, nI_s, e1]
theorem bl9_ok {σ : HS} (t : Typ σ) (hE : ∀ k, k < 6 → okF σ (hR σ 5 k) = true) : ∃ σ', f_X2_becomeLike 9 1 σ = some ((), σ') ∧ KL [9, 10, 11, 12, 14, 15, 16] [] [13] σ σ' ∧ hN σ' = hN σ ∧ (∀ k, k < 6 → hR σ' 13 k = hR σ 5 k) ∧ (∀ k, k < 6 → hA σ' 10 k = hA σ 2 k ∧ hA σ' 11 k = hA σ 3 k ∧ hA σ' 12 k = hA σ 4 k) ∧ hA σ' 9 4 = hA σ 1 4 ∧ hA σ' 9 8 = hA σ 1 8 ∧ ∀ k, k < 8 → hA σ' 14 k = hA σ 6 k ∧ hA σ' 15 k = hA σ 7 k ∧ hA σ' 16 k = hA σ 8 k := by
  obtain ⟨σ', e1, e2, e2', e3, e4, e5, e6, e7⟩ := bl9_lp (E := fun k => hR σ 5 k) 6 0 (cpy (cpy (cpy σ 2 10 6) 3 11 6) 4 12 6) t (fun k hk => ⟨hE k hk, rfl⟩) (fun k hk => by omega) (by omega) 1000 (by omega)
  refine ⟨σ', ?_, (((KL_cpy (by decide) (by decide) (by decide) (by decide)).seq (KL_cpy (by decide) (by decide) (by decide) (by decide))).seq (KL_cpy (by decide) (by decide) (by decide) (by decide))).seq e2, e2', e3, fun k hk => ?_, ?_, ?_, fun k hk => ?_⟩
  · unfold f_X2_becomeLike
    simp (decide := true) only [chk_p, lt_p, bd_p, bc_p, oc_n, oc_s, and_self, and_true, true_and, if_true, if_false, isO_sA', isO_sB', isO_rA', hlen_sA, hlen_sB, hlen_rA, hR_sA, hR_sB, hR_rA, Typ_sA', Typ_sB', Typ_rA', O1, r1_0, r1_1, r1_2, r1_3, r1_5, r1_6, r1_7, O2, l2, O3, l3, O4, l4, O9, r9_0, r9_1, r9_2, r9_3, r9_5, r9_6, r9_7, O10, l10, O11, l11, O12, l12, t, cpy6, isO_cpy, hlen_cpy, Typ_cpy, hR_cpy, not_false_iff]
    exact e1
  · obtain ⟨a, b, c⟩ := e4 k
    rw [a, b, c]
    simp (decide := true) only [hA_cpy, hk, if_true, if_false, and_self]
  · rw [e5]; simp (decide := true) only [hA_cpy, if_false]
  · rw [e6]; simp (decide := true) only [hA_cpy, if_false]
  · obtain ⟨a, b, c⟩ := e7 k hk
    rw [a, b, c]
    simp (decide := true) only [hA_cpy, if_false, and_self]
theorem bl1_lp {E : Nat → Option Nat} : ∀ (d i : Nat) (σ : HS), Typ σ → (∀ k, k < 6 → okF σ (E k) = true ∧ hR σ 13 k = E k) → (∀ k, k < i → hR σ 5 k = E k) → i + d = 6 → ∀ nf, d < nf → ∃ σ', lp_X2_becomeLike_47 nf 1 9 (nI i) σ = some ((), σ') ∧ KL [1, 2, 3, 4, 6, 7, 8] [] [5] σ σ' ∧ hN σ' = hN σ ∧ (∀ k, k < 6 → hR σ' 5 k = E k) ∧ (∀ k, hA σ' 2 k = hA σ 2 k ∧ hA σ' 3 k = hA σ 3 k ∧ hA σ' 4 k = hA σ 4 k) ∧ hA σ' 1 4 = hA σ 9 4 ∧ hA σ' 1 8 = hA σ 9 8 ∧ ∀ k, k < 8 → hA σ' 6 k = hA σ 14 k ∧ hA σ' 7 k = hA σ 15 k ∧ hA σ' 8 k = hA σ 16 k := by
  intro d
  induction d with
  | zero =>
    intro i σ t hE hi' he nf hnf
    obtain ⟨nf, rfl⟩ : ∃ k, nf = k + 1 := ⟨nf - 1, by omega⟩
    have hi : i = 6 := by omega
    subst hi
    refine ⟨sA (cpy (cpy (cpy (sA σ 1 4 (hA σ 9 4)) 14 6 8) 15 7 8) 16 8 8) 1 8 (hA σ 9 8), ?_, ((((KL_sA (by decide) (by decide) (by decide) (by decide)).seq (KL_cpy (by decide) (by decide) (by decide) (by decide))).seq (KL_cpy (by decide) (by decide) (by decide) (by decide))).seq (KL_cpy (by decide) (by decide) (by decide) (by decide))).seq (KL_sA (by decide) (by decide) (by decide) (by decide)), rfl, fun k hk => hi' k hk, fun k => ⟨?_, ?_, ?_⟩, ?_, ?_, fun k hk => ⟨?_, ?_, ?_⟩⟩
    · show lp_X2_becomeLike_47_b (lp_X2_becomeLike_47 nf) 1 9 (nI 6) σ = _
      unfold lp_X2_becomeLike_47_b
      rw [if_pos (by decide)]
      simp (decide := true) only [chk_p, lt_p, bd_p, bc_p, oc_n, oc_s, and_self, and_true, true_and, if_true, if_false, isO_sA', isO_sB', isO_rA', hlen_sA, hlen_sB, hlen_rA, hR_sA, hR_sB, hR_rA, Typ_sA', Typ_sB', Typ_rA', O9, r9_0, r9_1, r9_2, r9_3, r9_5, r9_6, r9_7, O14, l14, O15, l15, O16, l16, O1, r1_0, r1_1, r1_2, r1_3, r1_5, r1_6, r1_7, O6, l6, O7, l7, O8, l8, t, cpy8, isO_cpy, hlen_cpy, Typ_cpy, hR_cpy, hA_cpy, hA_sA, not_false_iff, if_false, false_and, and_false]
    all_goals first | simp (decide := true) only [hA_sA, hA_cpy, hk, if_true, if_false, false_and, and_false, and_self] | simp (decide := true) only [hA_sA, hA_cpy, if_true, if_false, false_and, and_false, and_self]
  | succ d ih =>
    intro i σ t hE hi' he nf hnf
    obtain ⟨nf, rfl⟩ : ∃ k, nf = k + 1 := ⟨nf - 1, by omega⟩
    have t1 : Typ (sR σ 5 i (hR σ 13 i)) := of_eq_true (Typ_sR5 t)
    have ok : ∀ o, okF (sR σ 5 i (hR σ 13 i)) o = okF σ o := fun o => rfl
    obtain ⟨σ', e1, e2, e2', e3, e4, e5, e6, e7⟩ := ih (i + 1) (sR σ 5 i (hR σ 13 i)) t1 (fun k hk => ⟨(ok _).trans (hE k hk).1, by rw [hR_sR, if_neg (by omega)]; exact (hE k hk).2⟩) (fun k hk => by
      rw [hR_sR]
      by_cases e : k = i
      · subst e; rw [if_pos ⟨rfl, rfl⟩]; exact (hE k (by omega)).2
      · rw [if_neg (by omega)]; exact hi' k (by omega)) (by omega) nf (by omega)
    refine ⟨σ', ?_, (KL_sR (by decide) (by decide) (by decide) (by rw [(o5 t).2]; decide)).seq e2, e2', e3, e4, e5, e6, e7⟩
    show lp_X2_becomeLike_47_b (lp_X2_becomeLike_47 nf) 1 9 (nI i) σ = _
    unfold lp_X2_becomeLike_47_b
    have le : (6 : Int32) ≤ nI i ↔ False := by rw [show (6 : Int32) = nI 6 from rfl, nle (a := 6) (b := i) (by omega) (by omega)]
    have le := eq_false (fun z => le.mp z)
    have ie := inbE (i := i) (n := 6) (by omega) (by omega)
    have ci := cl1000 (i := i) (by omega)
    have og : okF σ (hR σ 13 i) = true := by rw [(hE i (by omega)).2]; exact (hE i (by omega)).1
    simp only [le, if_false, chk_p, lt_p, bd_p, bc_p, oc_n, oc_s, and_self, and_true, true_and, if_true, if_false, isO_sA', isO_sB', isO_rA', hlen_sA, hlen_sB, hlen_rA, hR_sA, hR_sB, hR_rA, Typ_sA', Typ_sB', Typ_rA', O9, r9_0, r9_1, r9_2, r9_3, r9_5, r9_6, r9_7, O1, r1_0, r1_1, r1_2, r1_3, r1_5, r1_6, r1_7, O13, l13, O5, l5, t, ie, ci, og, nI_s, e1]
theorem bl1_ok {σ : HS} (t : Typ σ) (hE : ∀ k, k < 6 → okF σ (hR σ 13 k) = true) : ∃ σ', f_X2_becomeLike 1 9 σ = some ((), σ') ∧ KL [1, 2, 3, 4, 6, 7, 8] [] [5] σ σ' ∧ hN σ' = hN σ ∧ (∀ k, k < 6 → hR σ' 5 k = hR σ 13 k) ∧ (∀ k, k < 6 → hA σ' 2 k = hA σ 10 k ∧ hA σ' 3 k = hA σ 11 k ∧ hA σ' 4 k = hA σ 12 k) ∧ hA σ' 1 4 = hA σ 9 4 ∧ hA σ' 1 8 = hA σ 9 8 ∧ ∀ k, k < 8 → hA σ' 6 k = hA σ 14 k ∧ hA σ' 7 k = hA σ 15 k ∧ hA σ' 8 k = hA σ 16 k := by
  obtain ⟨σ', e1, e2, e2', e3, e4, e5, e6, e7⟩ := bl1_lp (E := fun k => hR σ 13 k) 6 0 (cpy (cpy (cpy σ 10 2 6) 11 3 6) 12 4 6) t (fun k hk => ⟨hE k hk, rfl⟩) (fun k hk => by omega) (by omega) 1000 (by omega)
  refine ⟨σ', ?_, (((KL_cpy (by decide) (by decide) (by decide) (by decide)).seq (KL_cpy (by decide) (by decide) (by decide) (by decide))).seq (KL_cpy (by decide) (by decide) (by decide) (by decide))).seq e2, e2', e3, fun k hk => ?_, ?_, ?_, fun k hk => ?_⟩
  · unfold f_X2_becomeLike
    simp (decide := true) only [chk_p, lt_p, bd_p, bc_p, oc_n, oc_s, and_self, and_true, true_and, if_true, if_false, isO_sA', isO_sB', isO_rA', hlen_sA, hlen_sB, hlen_rA, hR_sA, hR_sB, hR_rA, Typ_sA', Typ_sB', Typ_rA', O9, r9_0, r9_1, r9_2, r9_3, r9_5, r9_6, r9_7, O10, l10, O11, l11, O12, l12, O1, r1_0, r1_1, r1_2, r1_3, r1_5, r1_6, r1_7, O2, l2, O3, l3, O4, l4, t, cpy6, isO_cpy, hlen_cpy, Typ_cpy, hR_cpy, not_false_iff]
    exact e1
  · obtain ⟨a, b, c⟩ := e4 k
    rw [a, b, c]
    simp (decide := true) only [hA_cpy, hk, if_true, if_false, and_self]
  · rw [e5]; simp (decide := true) only [hA_cpy, if_false]
  · rw [e6]; simp (decide := true) only [hA_cpy, if_false]
  · obtain ⟨a, b, c⟩ := e7 k hk
    rw [a, b, c]
    simp (decide := true) only [hA_cpy, if_false, and_self]
theorem mimage_ok {σ : HS} (t : Typ σ) : ∃ σ', f_X6_image 48 σ = some (hA σ 48 7, σ') ∧ KL [50, 56, 57, 58, 59, 60, 72, 48] [13, 38, 14] [] σ σ' ∧ hN σ' = hN σ ∧ hA σ' 48 14 = 1 ∧ hA σ' 48 13 = hA σ 48 7 ∧ hA σ' 48 38 = hA σ 48 36 ∧ (∀ k, k < 18 → hA σ' 50 k = hA σ 49 k) ∧ (∀ k, k < 360 → hA σ' 56 k = hA σ 51 k) ∧ (∀ k, k < 360 → hA σ' 57 k = hA σ 52 k) ∧ (∀ k, k < 360 → hA σ' 58 k = hA σ 53 k) ∧ (∀ k, k < 360 → hA σ' 59 k = hA σ 54 k) ∧ (∀ k, k < 6 → hA σ' 60 k = hA σ 55 k) ∧ (∀ k, k < 24 → hA σ' 72 k = hA σ 71 k) := by
  have c0 := copies_ok (σ := σ) (a := 49) (b := 50) (n := 18) (w := 18) (o49 t) (o50 t) (l49 t) (l50 t) rfl (by decide) (by decide) (by decide)
  have c1 := copies_ok (σ := (cpy σ 49 50 18)) (a := 51) (b := 56) (n := 360) (w := 360) (o51 t) (o56 t) (l51 t) (l56 t) rfl (by decide) (by decide) (by decide)
  have c2 := copies_ok (σ := (cpy (cpy σ 49 50 18) 51 56 360)) (a := 52) (b := 57) (n := 360) (w := 360) (o52 t) (o57 t) (l52 t) (l57 t) rfl (by decide) (by decide) (by decide)
  have c3 := copies_ok (σ := (cpy (cpy (cpy σ 49 50 18) 51 56 360) 52 57 360)) (a := 53) (b := 58) (n := 360) (w := 360) (o53 t) (o58 t) (l53 t) (l58 t) rfl (by decide) (by decide) (by decide)
  have c4 := copies_ok (σ := (cpy (cpy (cpy (cpy σ 49 50 18) 51 56 360) 52 57 360) 53 58 360)) (a := 54) (b := 59) (n := 360) (w := 360) (o54 t) (o59 t) (l54 t) (l59 t) rfl (by decide) (by decide) (by decide)
  have c5 := copies_ok (σ := (cpy (cpy (cpy (cpy (cpy σ 49 50 18) 51 56 360) 52 57 360) 53 58 360) 54 59 360)) (a := 55) (b := 60) (n := 6) (w := 6) (o55 t) (o60 t) (l55 t) (l60 t) rfl (by decide) (by decide) (by decide)
  have c6 := copies_ok (σ := (cpy (cpy (cpy (cpy (cpy (cpy σ 49 50 18) 51 56 360) 52 57 360) 53 58 360) 54 59 360) 55 60 6)) (a := 71) (b := 72) (n := 24) (w := 24) (o71 t) (o72 t) (l71 t) (l72 t) rfl (by decide) (by decide) (by decide)
  refine ⟨sA (sA (sA (cpy (cpy (cpy (cpy (cpy (cpy (cpy σ 49 50 18) 51 56 360) 52 57 360) 53 58 360) 54 59 360) 55 60 6) 71 72 24) 48 13 (hA σ 48 7)) 48 38 (hA σ 48 36)) 48 14 1, ?_, ((((((((((KL_cpy (by decide) (by decide) (by decide) (by decide)).seq (KL_cpy (by decide) (by decide) (by decide) (by decide))).seq (KL_cpy (by decide) (by decide) (by decide) (by decide))).seq (KL_cpy (by decide) (by decide) (by decide) (by decide))).seq (KL_cpy (by decide) (by decide) (by decide) (by decide))).seq (KL_cpy (by decide) (by decide) (by decide) (by decide))).seq (KL_cpy (by decide) (by decide) (by decide) (by decide))).seq (KL_sA (by decide) (by decide) (by decide) (fun _ => by decide))).seq (KL_sA (by decide) (by decide) (by decide) (fun _ => by decide))).seq (KL_sA (by decide) (by decide) (by decide) (fun _ => by decide))), rfl, ?_, ?_, ?_, fun k hk => ?_, fun k hk => ?_, fun k hk => ?_, fun k hk => ?_, fun k hk => ?_, fun k hk => ?_, fun k hk => ?_⟩
  · unfold f_X6_image
    simp (decide := true) only [chk_p, lt_p, bd_p, bc_p, oc_n, oc_s, and_self, and_true, true_and, if_true, if_false, isO_sA', isO_sB', isO_rA', hlen_sA, hlen_sB, hlen_rA, hR_sA, hR_sB, hR_rA, Typ_sA', Typ_sB', Typ_rA', O48, r48_0, r48_1, r48_2, r48_3, r48_4, r48_5, r48_6, r48_8, r48_9, r48_10, r48_11, r48_12, r48_15, r48_21, r48_22, r48_23, r48_24, r48_25, r48_28, r48_30, r48_31, r48_32, r48_35, r48_37, r48_39, r48_40, r48_41, O49, l49, O51, l51, O52, l52, O53, l53, O54, l54, O55, l55, O71, l71, O50, l50, O56, l56, O57, l57, O58, l58, O59, l59, O60, l60, O72, l72, t, c0, c1, c2, c3, c4, c5, c6, isO_cpy, hlen_cpy, Typ_cpy, hR_cpy, hA_cpy, hA_sA, if_false, and_false, false_and]
  all_goals first | simp (decide := true) only [hA_sA, hA_cpy, hk, if_true, if_false, false_and, and_false, and_self] | simp (decide := true) only [hA_sA, hA_cpy, if_true, if_false, false_and, and_false, and_self]
theorem mundo_ok {σ : HS} (t : Typ σ) (hi : hA σ 48 14 = 1) : ∃ σ', f_X6_undo 48 σ = some (hA σ 48 13, σ') ∧ KL [49, 51, 52, 53, 54, 55, 71, 48] [7, 36] [] σ σ' ∧ hN σ' = hN σ ∧ hA σ' 48 7 = hA σ 48 13 ∧ hA σ' 48 36 = hA σ 48 38 ∧ (∀ k, k < 18 → hA σ' 49 k = hA σ 50 k) ∧ (∀ k, k < 360 → hA σ' 51 k = hA σ 56 k) ∧ (∀ k, k < 360 → hA σ' 52 k = hA σ 57 k) ∧ (∀ k, k < 360 → hA σ' 53 k = hA σ 58 k) ∧ (∀ k, k < 360 → hA σ' 54 k = hA σ 59 k) ∧ (∀ k, k < 6 → hA σ' 55 k = hA σ 60 k) ∧ (∀ k, k < 24 → hA σ' 71 k = hA σ 72 k) := by
  have c0 := copies_ok (σ := σ) (a := 50) (b := 49) (n := 18) (w := 18) (o50 t) (o49 t) (l50 t) (l49 t) rfl (by decide) (by decide) (by decide)
  have c1 := copies_ok (σ := (cpy σ 50 49 18)) (a := 56) (b := 51) (n := 360) (w := 360) (o56 t) (o51 t) (l56 t) (l51 t) rfl (by decide) (by decide) (by decide)
  have c2 := copies_ok (σ := (cpy (cpy σ 50 49 18) 56 51 360)) (a := 57) (b := 52) (n := 360) (w := 360) (o57 t) (o52 t) (l57 t) (l52 t) rfl (by decide) (by decide) (by decide)
  have c3 := copies_ok (σ := (cpy (cpy (cpy σ 50 49 18) 56 51 360) 57 52 360)) (a := 58) (b := 53) (n := 360) (w := 360) (o58 t) (o53 t) (l58 t) (l53 t) rfl (by decide) (by decide) (by decide)
  have c4 := copies_ok (σ := (cpy (cpy (cpy (cpy σ 50 49 18) 56 51 360) 57 52 360) 58 53 360)) (a := 59) (b := 54) (n := 360) (w := 360) (o59 t) (o54 t) (l59 t) (l54 t) rfl (by decide) (by decide) (by decide)
  have c5 := copies_ok (σ := (cpy (cpy (cpy (cpy (cpy σ 50 49 18) 56 51 360) 57 52 360) 58 53 360) 59 54 360)) (a := 60) (b := 55) (n := 6) (w := 6) (o60 t) (o55 t) (l60 t) (l55 t) rfl (by decide) (by decide) (by decide)
  have c6 := copies_ok (σ := (cpy (cpy (cpy (cpy (cpy (cpy σ 50 49 18) 56 51 360) 57 52 360) 58 53 360) 59 54 360) 60 55 6)) (a := 72) (b := 71) (n := 24) (w := 24) (o72 t) (o71 t) (l72 t) (l71 t) rfl (by decide) (by decide) (by decide)
  refine ⟨sA (sA (cpy (cpy (cpy (cpy (cpy (cpy (cpy σ 50 49 18) 56 51 360) 57 52 360) 58 53 360) 59 54 360) 60 55 6) 72 71 24) 48 7 (hA σ 48 13)) 48 36 (hA σ 48 38), ?_, (((((((((KL_cpy (by decide) (by decide) (by decide) (by decide)).seq (KL_cpy (by decide) (by decide) (by decide) (by decide))).seq (KL_cpy (by decide) (by decide) (by decide) (by decide))).seq (KL_cpy (by decide) (by decide) (by decide) (by decide))).seq (KL_cpy (by decide) (by decide) (by decide) (by decide))).seq (KL_cpy (by decide) (by decide) (by decide) (by decide))).seq (KL_cpy (by decide) (by decide) (by decide) (by decide))).seq (KL_sA (by decide) (by decide) (by decide) (fun _ => by decide))).seq (KL_sA (by decide) (by decide) (by decide) (fun _ => by decide))), rfl, ?_, ?_, fun k hk => ?_, fun k hk => ?_, fun k hk => ?_, fun k hk => ?_, fun k hk => ?_, fun k hk => ?_, fun k hk => ?_⟩
  · unfold f_X6_undo
    simp (decide := true) only [chk_p, lt_p, bd_p, bc_p, oc_n, oc_s, and_self, and_true, true_and, if_true, if_false, isO_sA', isO_sB', isO_rA', hlen_sA, hlen_sB, hlen_rA, hR_sA, hR_sB, hR_rA, Typ_sA', Typ_sB', Typ_rA', O48, r48_0, r48_1, r48_2, r48_3, r48_4, r48_5, r48_6, r48_8, r48_9, r48_10, r48_11, r48_12, r48_15, r48_21, r48_22, r48_23, r48_24, r48_25, r48_28, r48_30, r48_31, r48_32, r48_35, r48_37, r48_39, r48_40, r48_41, O50, l50, O56, l56, O57, l57, O58, l58, O59, l59, O60, l60, O72, l72, O49, l49, O51, l51, O52, l52, O53, l53, O54, l54, O55, l55, O71, l71, t, c0, c1, c2, c3, c4, c5, c6, isO_cpy, hlen_cpy, Typ_cpy, hR_cpy, hA_cpy, hA_sA, if_false, and_false, false_and, hi]
  all_goals first | simp (decide := true) only [hA_sA, hA_cpy, hk, if_true, if_false, false_and, and_false, and_self] | simp (decide := true) only [hA_sA, hA_cpy, if_true, if_false, false_and, and_false, and_self]
end
section
/-! image, undo, plan: the calls -/
theorem KL.mono {S qs ts S' qs' ts' : List Nat} {σ σ' : HS} (h : KL S qs ts σ σ') (hs : lows S' = true) (ht : tsok ts' = true) (h1 : S.all (fun j => S'.contains j) = true) (h2 : qs.all (fun j => qs'.contains j) = true) (h3 : ts.all (fun j => ts'.contains j) = true) : KL S' qs' ts' σ σ' := by
  have g : ∀ (A B : List Nat), A.all (fun j => B.contains j) = true → ∀ j, B.contains j = false → A.contains j = false := fun A B hh j hj => by
    cases hc : A.contains j with
    | false => rfl
    | true => exact absurd ((List.all_eq_true.mp hh j (List.contains_iff_mem.mp hc)).symm.trans hj) (by decide)
  obtain ⟨a1, a2, a3, a4, a5, a6, a7⟩ := h
  exact ⟨a1, a2, fun j hj => a3 j (by rcases hj with z | z
                                      · exact Or.inl ⟨z.1, g _ _ h3 j z.2⟩
                                      · exact Or.inr z), fun j hj hp => a4 j hj (g _ _ h1 j hp), fun k hk => a5 k (g _ _ h2 k hk), fun _ hj => cont_76 hs hj, fun _ _ h => tsok_e ht h⟩
theorem op_image : OpOK (f_X5_image 0) (f_X6_image 48) := by
  intro σ V S C n FS I
  have t := I.1
  obtain ⟨-, h1, h2, ⟨m, B, ht⟩, ⟨p, PS, PW, PV, h4⟩, h5, h6, h7⟩ := I
  obtain ⟨σ1, e1, q1, n1, b1, b2, b3, b4, b5⟩ := bl9_ok t h2.2.2.2.2.2.2
  have t1 : Typ σ1 := Kq.typ q1 t
  obtain ⟨σ2, g1, q2, n2, i14, i13, i38, c0, c1, c2, c3, c4, c5, c6⟩ := mimage_ok (σ := sA σ1 0 2 1) t1
  have A1 := fun {j : Nat} (hj : j < 76) h k => Kq.A q1 (j := j) (Nat.lt_of_lt_of_le hj t.1) h k
  have A2 := fun {j : Nat} (hj : j < 76) h k => Kq.A q2 (j := j) (Nat.lt_of_lt_of_le hj t1.1) h k
  have q12 : KL [0, 9, 10, 11, 12, 14, 15, 16, 48, 50, 56, 57, 58, 59, 60, 72] [13, 38, 14] [13] σ (sA σ1 0 2 1) := (q1.mono (by decide) (by decide) (by decide) (by decide) (by decide)).seq (KL_sA (by decide) (by decide) (by decide) (by decide))
  have q : KL [0, 9, 10, 11, 12, 14, 15, 16, 48, 50, 56, 57, 58, 59, 60, 72] [13, 38, 14] [13] σ σ2 := q12.seq (q2.mono (by decide) (by decide) (by decide) (by decide) (by decide))
  have o8 : hA σ2 0 8 = hA σ 0 8 := (A2 (by decide) (by decide) 8).trans (by rw [hA_sA, if_neg (by decide)]; exact A1 (by decide) (by decide) 8)
  have e48 : ∀ k, k ≠ 13 → k ≠ 38 → k ≠ 14 → hA σ2 48 k = hA σ 48 k := fun k k1 k2 k3 => q.2.2.2.2.1 k (by simp [k1, k2, k3])
  refine ⟨hA σ 1 4, sA σ1 0 2 1, σ2, ?_, t1, Nat.le_of_eq n1.symm, ?_, Nat.le_of_eq n2.symm, V, S, C, n, FS, Kq.typ q t, Kq.src q t (by decide) (by decide) (by decide) (by decide) (by decide) (by decide) h1, Kq.fm q t (by decide) (by decide) (by decide) (by decide) (Kq.A q (Nat.lt_of_lt_of_le (by decide) t.1) (by decide) 4) (by decide) (by decide) (by decide) (by decide) (by decide) h2, ⟨m, B, Kq.tap q t (by decide) (by decide) (by decide) (by decide) ht⟩, ⟨p, PS, PW, PV, Kq.pl q t (by decide) (by decide) (by decide) (by decide) (Kq.A q (Nat.lt_of_lt_of_le (by decide) t.1) (by decide) 8) (by decide) (by decide) (by decide) (by decide) h4⟩, Kq.lst q t (by decide) (by decide) (lst4 (by decide)) (by decide) h5, Kq.way q t o8 (by decide) (by decide) (by decide) h6, Or.inr ⟨⟨?_, i14⟩, ⟨V, S, C, fun s hs => ?_⟩, ⟨n, FS, ?_⟩, ⟨p, PS, PW, PV, ?_⟩⟩⟩
  · unfold f_X5_image
    simp (decide := true) only [chk_p, lt_p, bd_p, bc_p, oc_n, oc_s, and_self, and_true, true_and, if_true, if_false, isO_sA', isO_sB', isO_rA', hlen_sA, hlen_sB, hlen_rA, hR_sA, hR_sB, hR_rA, Typ_sA', Typ_sB', Typ_rA', O0, r0_0, r0_1, r0_3, r0_4, r0_5, r0_6, r0_7, O1, r1_0, r1_1, r1_2, r1_3, r1_5, r1_6, r1_7, O9, r9_0, r9_1, r9_2, r9_3, r9_5, r9_6, r9_7, t, t1, e1, hA_sA, if_false, false_and]
    rw [A1 (by decide) (by decide) 4]
  · rw [g1]
    rw [show hA (sA σ1 0 2 1) 48 7 = hA σ1 48 7 from rfl, q1.2.2.2.2.1 7 (by decide), h2.2.2.2.1, h2.2.2.1]
  · exact (A2 (by decide) (by decide) 2).trans (by rw [hA_sA, if_pos ⟨rfl, rfl⟩])
  · obtain ⟨⟨a1, a2, a3⟩, ⟨d1, d2, d3⟩, r⟩ := h1 s hs
    obtain ⟨w1, w2, w3⟩ := b2 s hs
    have ec : ∀ k, k < 18 → hA σ2 50 k = hA σ 49 k := fun k hk => (c0 k hk).trans (A1 (by decide) (by decide) k)
    have er : ∀ j, j < 76 → (j = 10 ∨ j = 11 ∨ j = 12) → hA σ2 j s = hA σ1 j s := fun j hj h3 => (A2 hj (by rcases h3 with z | z | z <;> subst z <;> decide) s).trans (by rw [hA_sA, if_neg (by omega)])
    exact ⟨⟨(er 10 (by decide) (by decide)).trans (w1.trans a1), (er 11 (by decide) (by decide)).trans (w2.trans a2), (er 12 (by decide) (by decide)).trans (w3.trans a3)⟩, ⟨(ec _ (by omega)).trans d1, (ec _ (by omega)).trans d2, (ec _ (by omega)).trans d3⟩, r⟩
  · obtain ⟨f1, f2, f3, f4, f5, f6, f7⟩ := h2
    have er : ∀ k, hR σ2 13 k = hR σ1 13 k := fun k => congrFun (q2.2.2.1 13 (Or.inl ⟨by decide, by decide⟩)) k
    refine ⟨f1, f2, ?_, ?_, fun k hk => ?_, fun f hf => ?_, fun k hk => ?_⟩
    · exact (A2 (by decide) (by decide) 4).trans (by rw [hA_sA, if_neg (by decide)]; exact b3.trans f3)
    · rw [i13, show hA (sA σ1 0 2 1) 48 7 = hA σ1 48 7 from rfl, q1.2.2.2.2.1 7 (by decide)]; exact f4
    · obtain ⟨φ, p1, p2, p3⟩ := f5 k hk
      exact ⟨φ, (er k).trans ((b1 k (by omega)).trans p1), Kq.xf q p2, Kq.xi q p2 p3⟩
    · obtain ⟨m1, m2⟩ := f6 f hf
      refine ⟨(c5 f (by omega)).trans ((A1 (by decide) (by decide) _).trans m1), fun i hi => ?_⟩
      obtain ⟨z1, z2, z3, z4⟩ := m2 i hi
      have w60 := (f2 f hf).1.2.1
      exact ⟨(c1 _ (by omega)).trans ((A1 (by decide) (by decide) _).trans z1), (c2 _ (by omega)).trans ((A1 (by decide) (by decide) _).trans z2), (c3 _ (by omega)).trans ((A1 (by decide) (by decide) _).trans z3), (c4 _ (by omega)).trans ((A1 (by decide) (by decide) _).trans z4)⟩
    · rw [er k, b1 k hk]; exact Kq.okk q (f7 k hk)
  · obtain ⟨p1, p2, p3, p4⟩ := h4
    refine ⟨p1, ?_, ?_, fun k hk => ?_⟩
    · exact (A2 (by decide) (by decide) 8).trans (by rw [hA_sA, if_neg (by decide)]; exact b4.trans p2)
    · rw [i38, show hA (sA σ1 0 2 1) 48 36 = hA σ1 48 36 from rfl, q1.2.2.2.2.1 36 (by decide)]; exact p3
    · obtain ⟨⟨a1, a2, a3⟩, ⟨d1, d2, d3⟩, r⟩ := p4 k hk
      obtain ⟨w1, w2, w3⟩ := b5 k (by omega)
      have ec : ∀ k, k < 24 → hA σ2 72 k = hA σ 71 k := fun k hk => (c6 k hk).trans (A1 (by decide) (by decide) k)
      have er : ∀ j, j < 76 → (j = 14 ∨ j = 15 ∨ j = 16) → hA σ2 j k = hA σ1 j k := fun j hj h3 => (A2 hj (by rcases h3 with z | z | z <;> subst z <;> decide) k).trans (by rw [hA_sA, if_neg (by omega)])
      exact ⟨⟨(er 14 (by decide) (by decide)).trans (w1.trans a1), (er 15 (by decide) (by decide)).trans (w2.trans a2), (er 16 (by decide) (by decide)).trans (w3.trans a3)⟩, ⟨(ec _ (by omega)).trans d1, (ec _ (by omega)).trans d2, (ec _ (by omega)).trans d3⟩, r⟩
theorem op_undo : OpOK (f_X5_undo 0) (f_X6_undo 48) := by
  intro σ V S C n FS I
  have t := I.1
  have I0 := I
  obtain ⟨-, h1, h2, ⟨m, B, ht⟩, ⟨p, PS, PW, PV, h4⟩, h5, h6, h7⟩ := I
  rcases h7 with ⟨x1, x2⟩ | ⟨⟨x1, x2⟩, ⟨V', S', C', k1⟩, ⟨n', FS', k2⟩, ⟨p', PS', PW', PV', k4⟩⟩
  · refine opN I0 (-3) ?_ ?_
    · unfold f_X5_undo
      simp only [chk_p, lt_p, bd_p, bc_p, oc_n, oc_s, and_self, and_true, true_and, if_true, if_false, isO_sA', isO_sB', isO_rA', hlen_sA, hlen_sB, hlen_rA, hR_sA, hR_sB, hR_rA, Typ_sA', Typ_sB', Typ_rA', O0, r0_0, r0_1, r0_3, r0_4, r0_5, r0_6, r0_7, t, x1]
    · unfold f_X6_undo
      simp only [chk_p, lt_p, bd_p, bc_p, oc_n, oc_s, and_self, and_true, true_and, if_true, if_false, isO_sA', isO_sB', isO_rA', hlen_sA, hlen_sB, hlen_rA, hR_sA, hR_sB, hR_rA, Typ_sA', Typ_sB', Typ_rA', O48, r48_0, r48_1, r48_2, r48_3, r48_4, r48_5, r48_6, r48_8, r48_9, r48_10, r48_11, r48_12, r48_15, r48_21, r48_22, r48_23, r48_24, r48_25, r48_28, r48_30, r48_31, r48_32, r48_35, r48_37, r48_39, r48_40, r48_41, t, x2]
  have I7 : ImgI σ := Or.inr ⟨⟨x1, x2⟩, ⟨V', S', C', k1⟩, ⟨n', FS', k2⟩, ⟨p', PS', PW', PV', k4⟩⟩
  obtain ⟨σ1, e1, q1, n1, b1, b2, b3, b4, b5⟩ := bl1_ok t k2.2.2.2.2.2.2
  have t1 : Typ σ1 := Kq.typ q1 t
  have A1 := fun {j : Nat} (hj : j < 76) h k => Kq.A q1 (j := j) (Nat.lt_of_lt_of_le hj t.1) h k
  obtain ⟨σ2, g1, q2, n2, i7, i36, c0, c1, c2, c3, c4, c5, c6⟩ := mundo_ok (σ := σ1) t1 ((q1.2.2.2.2.1 14 (by decide)).trans x2)
  have A2 := fun {j : Nat} (hj : j < 76) h k => Kq.A q2 (j := j) (Nat.lt_of_lt_of_le hj t1.1) h k
  have q : KL [1, 2, 3, 4, 6, 7, 8, 48, 49, 51, 52, 53, 54, 55, 71] [7, 36] [5] σ σ2 := (q1.mono (by decide) (by decide) (by decide) (by decide) (by decide)).seq (q2.mono (by decide) (by decide) (by decide) (by decide) (by decide))
  refine ⟨hA σ 9 4, σ1, σ2, ?_, t1, Nat.le_of_eq n1.symm, ?_, Nat.le_of_eq n2.symm, V', S', C', n', FS', Kq.typ q t, fun s hs => ?_, ?_, ⟨m, B, Kq.tap q t (by decide) (by decide) (by decide) (by decide) ht⟩, ⟨p', PS', PW', PV', ?_⟩, Kq.lst q t (by decide) (by decide) (lst4 (by decide)) (by decide) h5, Kq.way q t (Kq.A q (Nat.lt_of_lt_of_le (by decide) t.1) (by decide) 8) (by decide) (by decide) (by decide) h6, Kq.img q t (Kq.A q (Nat.lt_of_lt_of_le (by decide) t.1) (by decide) 2) (by decide) (by decide) (by decide) (by decide) (imgrows (by decide)) I7⟩
  · unfold f_X5_undo
    simp (decide := true) only [chk_p, lt_p, bd_p, bc_p, oc_n, oc_s, and_self, and_true, true_and, if_true, if_false, isO_sA', isO_sB', isO_rA', hlen_sA, hlen_sB, hlen_rA, hR_sA, hR_sB, hR_rA, Typ_sA', Typ_sB', Typ_rA', O0, r0_0, r0_1, r0_3, r0_4, r0_5, r0_6, r0_7, O1, r1_0, r1_1, r1_2, r1_3, r1_5, r1_6, r1_7, O9, r9_0, r9_1, r9_2, r9_3, r9_5, r9_6, r9_7, t, t1, x1, e1, if_false]
    rw [b3]
  · rw [g1, q1.2.2.2.2.1 13 (by decide), k2.2.2.2.1, k2.2.2.1]
  · obtain ⟨⟨a1, a2, a3⟩, ⟨d1, d2, d3⟩, r⟩ := k1 s hs
    obtain ⟨w1, w2, w3⟩ := b2 s hs
    have ec : ∀ k, k < 18 → hA σ2 49 k = hA σ 50 k := fun k hk => (c0 k hk).trans (A1 (by decide) (by decide) k)
    have er : ∀ j, j < 76 → (j = 2 ∨ j = 3 ∨ j = 4) → hA σ2 j s = hA σ1 j s := fun j hj h3 => A2 hj (by rcases h3 with z | z | z <;> subst z <;> decide) s
    exact ⟨⟨(er 2 (by decide) (by decide)).trans (w1.trans a1), (er 3 (by decide) (by decide)).trans (w2.trans a2), (er 4 (by decide) (by decide)).trans (w3.trans a3)⟩, ⟨(ec _ (by omega)).trans d1, (ec _ (by omega)).trans d2, (ec _ (by omega)).trans d3⟩, r⟩
  · obtain ⟨f1, f2, f3, f4, f5, f6, f7⟩ := k2
    have er : ∀ k, hR σ2 5 k = hR σ1 5 k := fun k => congrFun (q2.2.2.1 5 (Or.inl ⟨by decide, by decide⟩)) k
    refine ⟨f1, f2, ?_, ?_, fun k hk => ?_, fun f hf => ?_, fun k hk => ?_⟩
    · exact (A2 (by decide) (by decide) 4).trans (b3.trans f3)
    · rw [i7, q1.2.2.2.2.1 13 (by decide)]; exact f4
    · obtain ⟨φ, p1, p2, p3⟩ := f5 k hk
      exact ⟨φ, (er k).trans ((b1 k (by omega)).trans p1), Kq.xf q p2, Kq.xi q p2 p3⟩
    · obtain ⟨m1, m2⟩ := f6 f hf
      refine ⟨(c5 f (by omega)).trans ((A1 (by decide) (by decide) _).trans m1), fun i hi => ?_⟩
      obtain ⟨z1, z2, z3, z4⟩ := m2 i hi
      have w60 := (f2 f hf).1.2.1
      exact ⟨(c1 _ (by omega)).trans ((A1 (by decide) (by decide) _).trans z1), (c2 _ (by omega)).trans ((A1 (by decide) (by decide) _).trans z2), (c3 _ (by omega)).trans ((A1 (by decide) (by decide) _).trans z3), (c4 _ (by omega)).trans ((A1 (by decide) (by decide) _).trans z4)⟩
    · rw [er k, b1 k hk]; exact Kq.okk q (f7 k hk)
  · obtain ⟨p1, p2, p3, p4⟩ := k4
    refine ⟨p1, ?_, ?_, fun k hk => ?_⟩
    · exact (A2 (by decide) (by decide) 8).trans (b4.trans p2)
    · rw [i36, q1.2.2.2.2.1 38 (by decide)]; exact p3
    · obtain ⟨⟨a1, a2, a3⟩, ⟨d1, d2, d3⟩, r⟩ := p4 k hk
      obtain ⟨w1, w2, w3⟩ := b5 k (by omega)
      have ec : ∀ k, k < 24 → hA σ2 71 k = hA σ 72 k := fun k hk => (c6 k hk).trans (A1 (by decide) (by decide) k)
      have er : ∀ j, j < 76 → (j = 6 ∨ j = 7 ∨ j = 8) → hA σ2 j k = hA σ1 j k := fun j hj h3 => A2 hj (by rcases h3 with z | z | z <;> subst z <;> decide) k
      exact ⟨⟨(er 6 (by decide) (by decide)).trans (w1.trans a1), (er 7 (by decide) (by decide)).trans (w2.trans a2), (er 8 (by decide) (by decide)).trans (w3.trans a3)⟩, ⟨(ec _ (by omega)).trans d1, (ec _ (by omega)).trans d2, (ec _ (by omega)).trans d3⟩, r⟩
end
section
/-! plan -/
theorem plan_inv {σ : HS} {V S C : Nat → Int32} {n : Nat} {FS : Nat → FM} (I : INV σ V S C n FS) {p : Nat} {PS PW PV : Nat → Int32} (hp : PlI σ 1 6 71 36 p PS PW PV) (h8 : p < 8) {a w v : Int32} (ha : rgI a 0 5) (hw : w = 0 ∧ rgI v (-99) 99 ∨ w = 1 ∧ rgI v 0 20 ∨ w = 2 ∧ rgI v 0 4) :
    INV (sA (sA (sA (sA (sA (sA (sA (sA σ 6 p a) 7 p w) 8 p v) 1 8 (nI (p + 1))) 71 (3 * p) a) 71 (3 * p + 1) w) 71 (3 * p + 2) v) 48 36 (nI (p + 1))) V S C n FS := by
  obtain ⟨t, h1, h2, ⟨m, B, ht⟩, -, h5, h6, h7⟩ := I
  have q : KL [1, 6, 7, 8, 48, 71] [36] [] σ (sA (sA (sA (sA (sA (sA (sA (sA σ 6 p a) 7 p w) 8 p v) 1 8 (nI (p + 1))) 71 (3 * p) a) 71 (3 * p + 1) w) 71 (3 * p + 2) v) 48 36 (nI (p + 1))) := (((((((KL_sA (by decide) (by decide) (by decide) (fun z => by omega)).seq (KL_sA (by decide) (by decide) (by decide) (fun z => by omega))).seq (KL_sA (by decide) (by decide) (by decide) (fun z => by omega))).seq (KL_sA (by decide) (by decide) (by decide) (by decide))).seq (KL_sA (by decide) (by decide) (by decide) (fun z => by omega))).seq (KL_sA (by decide) (by decide) (by decide) (fun z => by omega))).seq (KL_sA (by decide) (by decide) (by decide) (fun z => by omega))).seq (KL_sA (by decide) (by decide) (by decide) (fun _ => by decide))
  refine ⟨Kq.typ q t, Kq.src q t (by decide) (by decide) (by decide) (by decide) (by decide) (by decide) h1, Kq.fm q t (by decide) (by decide) (by decide) (by decide) (by simp (decide := true) only [hA_sA, false_and, and_false, if_false]) (by decide) (by decide) (by decide) (by decide) (by decide) h2, ⟨m, B, Kq.tap q t (by decide) (by decide) (by decide) (by decide) ht⟩, ⟨p + 1, up1 PS p a, up1 PW p w, up1 PV p v, by omega, ?_, ?_, fun k hk => ?_⟩, Kq.lst q t (by decide) (by decide) (lst4 (by decide)) (by decide) h5, Kq.way q t (Kq.A q (Nat.lt_of_lt_of_le (by decide) t.1) (by decide) 8) (by decide) (by decide) (by decide) h6, Kq.img q t (Kq.A q (Nat.lt_of_lt_of_le (by decide) t.1) (by decide) 2) (by decide) (by decide) (by decide) (by decide) (imgrows (by decide)) h7⟩
  · simp (decide := true) only [hA_sA, false_and, and_false, if_false, and_self, if_true]
  · simp (decide := true) only [hA_sA, and_self, if_true]
  · have m0 : (3 * k = 3 * p) = (k = p) := propext ⟨fun z => by omega, fun z => by omega⟩
    have m1 : (3 * k + 1 = 3 * p + 1) = (k = p) := propext ⟨fun z => by omega, fun z => by omega⟩
    have m2 : (3 * k + 2 = 3 * p + 2) = (k = p) := propext ⟨fun z => by omega, fun z => by omega⟩
    have m3 : (3 * k = 3 * p + 1) = False := eq_false (by omega)
    have m4 : (3 * k = 3 * p + 2) = False := eq_false (by omega)
    have m5 : (3 * k + 1 = 3 * p) = False := eq_false (by omega)
    have m6 : (3 * k + 1 = 3 * p + 2) = False := eq_false (by omega)
    have m7 : (3 * k + 2 = 3 * p) = False := eq_false (by omega)
    have m8 : (3 * k + 2 = 3 * p + 1) = False := eq_false (by omega)
    by_cases e : k = p
    · subst e
      simp (decide := true) only [hA_sA, up1, m0, m1, m2, m3, m4, m5, m6, m7, m8, false_and, and_false, true_and, if_false, and_self, if_true, Nat.reduceAdd]
      exact ⟨ha, hw⟩
    · obtain ⟨⟨a1, a2, a3⟩, ⟨d1, d2, d3⟩, r⟩ := hp.2.2.2 k (by omega)
      simp (decide := true) only [hA_sA, up1, m0, m1, m2, m3, m4, m5, m6, m7, m8, e, false_and, and_false, true_and, if_false, and_self, if_true, Nat.reduceAdd]
      exact ⟨⟨a1, a2, a3⟩, ⟨d1, d2, d3⟩, r⟩
theorem plan0_inv {σ : HS} {V S C : Nat → Int32} {n : Nat} {FS : Nat → FM} (I : INV σ V S C n FS) : INV (sA (sA σ 1 8 0) 48 36 0) V S C n FS := by
  obtain ⟨t, h1, h2, ⟨m, B, ht⟩, -, h5, h6, h7⟩ := I
  have q : KL [1, 48] [36] [] σ (sA (sA σ 1 8 0) 48 36 0) := (KL_sA (by decide) (by decide) (by decide) (by decide)).seq (KL_sA (by decide) (by decide) (by decide) (fun _ => by decide))
  refine ⟨Kq.typ q t, Kq.src q t (by decide) (by decide) (by decide) (by decide) (by decide) (by decide) h1, Kq.fm q t (by decide) (by decide) (by decide) (by decide) (by simp (decide := true) only [hA_sA, false_and, and_false, if_false]) (by decide) (by decide) (by decide) (by decide) (by decide) h2, ⟨m, B, Kq.tap q t (by decide) (by decide) (by decide) (by decide) ht⟩, ⟨0, fun _ => 0, fun _ => 0, fun _ => 0, by omega, ?_, ?_, fun k hk => by omega⟩, Kq.lst q t (by decide) (by decide) (lst4 (by decide)) (by decide) h5, Kq.way q t (Kq.A q (Nat.lt_of_lt_of_le (by decide) t.1) (by decide) 8) (by decide) (by decide) (by decide) h6, Kq.img q t (Kq.A q (Nat.lt_of_lt_of_le (by decide) t.1) (by decide) 2) (by decide) (by decide) (by decide) (by decide) (imgrows (by decide)) h7⟩
  · simp (decide := true) only [hA_sA, false_and, and_false, if_false, and_self, if_true]
  · simp (decide := true) only [hA_sA, and_self, if_true]
theorem z99 : (99 : Int32).toInt = 99 := rfl
theorem z20 : (20 : Int32).toInt = 20 := rfl
abbrev plok (k : Nat) (v : Int32) : Prop := (if k = 0 then -99 else 0) ≤ v.toInt ∧ v.toInt ≤ (if k = 0 then 99 else if k = 1 then 20 else 4)
theorem plx {k : Nat} (hk : k < 3) {v : Int32} (h : plok k v) : nI k = 0 ∧ rgI v (-99) 99 ∨ nI k = 1 ∧ rgI v 0 20 ∨ nI k = 2 ∧ rgI v 0 4 := by
  have h3 : k = 0 ∨ k = 1 ∨ k = 2 := by omega
  rcases h3 with z | z | z <;> subst z
  · exact Or.inl ⟨rfl, h⟩
  · exact Or.inr (Or.inl ⟨rfl, h⟩)
  · exact Or.inr (Or.inr ⟨rfl, h⟩)
theorem xplan_ok {σ : HS} (t : Typ σ) {s : Nat} (hs : s < 6) {k : Nat} (hk : k < 3) (v : Int32) {p : Nat} (hp : p ≤ 8) (e8 : hA σ 1 8 = nI p) :
    f_X5_plan 0 (nI s) (nI k) v σ = some (if plok k v then (if p = 8 then (-4 : Int32) else nI (p + 1)) else -2, if plok k v then (if p = 8 then σ else sA (sA (sA (sA σ 6 p (nI s)) 7 p (nI k)) 8 p v) 1 8 (nI (p + 1))) else σ) := by
  have c1 := inS hs
  have ne : (nI s = -1) = False := nm1 (by omega)
  have pe : p < 8 → inb (nI p) 8 = True := fun h => inbE h (by omega)
  have cp := cl1000 (i := p) (by omega)
  have k0 : (nI k < 0) = False := by rw [i_lt, nT (by omega), z320]; exact eq_false (by omega)
  have k2 : (nI k ≤ 2) = True := by rw [i_le, nT (by omega)]; exact eq_true (by have : (2 : Int32).toInt = 2 := rfl; omega)
  have lq : (nI p < 8) = (p < 8) := by rw [i_lt, nT (by omega), z8]; exact propext ⟨fun z => by omega, fun z => by omega⟩
  have h3 : k = 0 ∨ k = 1 ∨ k = 2 := by omega
  have push : p < 8 → True := fun _ => trivial
  unfold f_X5_plan
  rcases h3 with z | z | z
  · subst z
    have eb := mb_ok 0 (by decide) v σ
    by_cases hv : plok 0 v
    · rw [if_pos (show (if 0 = 0 then -99 else 0) ≤ v.toInt ∧ v.toInt ≤ (if 0 = 1 then 20 else 99) from hv)] at eb
      rw [if_pos hv, if_pos hv]
      by_cases p8 : p = 8
      · have lp : (p < 8) = False := eq_false (by omega)
        simp (decide := true) only [isSource_ok, yif c1, ne, k0, k2, eb, beq1, e8, lq, lp, p8, if_false, chk_p, lt_p, bd_p, bc_p, oc_n, oc_s, and_self, and_true, true_and, if_true, if_false, isO_sA', isO_sB', isO_rA', hlen_sA, hlen_sB, hlen_rA, hR_sA, hR_sB, hR_rA, Typ_sA', Typ_sB', Typ_rA', O0, r0_0, r0_1, r0_3, r0_4, r0_5, r0_6, r0_7, O1, r1_0, r1_1, r1_2, r1_3, r1_5, r1_6, r1_7, t]
      · have lp : (p < 8) = True := eq_true (by omega)
        simp (decide := true) only [isSource_ok, yif c1, ne, k0, k2, eb, beq1, e8, lq, lp, p8, pe (by omega), cp, hA_sA, nI_s, if_false, false_and, and_false, chk_p, lt_p, bd_p, bc_p, oc_n, oc_s, and_self, and_true, true_and, if_true, if_false, isO_sA', isO_sB', isO_rA', hlen_sA, hlen_sB, hlen_rA, hR_sA, hR_sB, hR_rA, Typ_sA', Typ_sB', Typ_rA', O0, r0_0, r0_1, r0_3, r0_4, r0_5, r0_6, r0_7, O1, r1_0, r1_1, r1_2, r1_3, r1_5, r1_6, r1_7, O6, l6, O7, l7, O8, l8, t]
    · rw [if_neg (show ¬ ((if 0 = 0 then -99 else 0) ≤ v.toInt ∧ v.toInt ≤ (if 0 = 1 then 20 else 99)) from hv)] at eb
      rw [if_neg hv, if_neg hv]; simp (decide := true) only [isSource_ok, yif c1, ne, k0, k2, eb, beq1, if_false, chk_p, lt_p, bd_p, bc_p, oc_n, oc_s, and_self, and_true, true_and, if_true, if_false, isO_sA', isO_sB', isO_rA', hlen_sA, hlen_sB, hlen_rA, hR_sA, hR_sB, hR_rA, Typ_sA', Typ_sB', Typ_rA']
  · subst z
    have eb := mb_ok 1 (by decide) v σ
    by_cases hv : plok 1 v
    · rw [if_pos (show (if 1 = 0 then -99 else 0) ≤ v.toInt ∧ v.toInt ≤ (if 1 = 1 then 20 else 99) from hv)] at eb
      rw [if_pos hv, if_pos hv]
      by_cases p8 : p = 8
      · have lp : (p < 8) = False := eq_false (by omega)
        simp (decide := true) only [isSource_ok, yif c1, ne, k0, k2, eb, beq1, e8, lq, lp, p8, if_false, chk_p, lt_p, bd_p, bc_p, oc_n, oc_s, and_self, and_true, true_and, if_true, if_false, isO_sA', isO_sB', isO_rA', hlen_sA, hlen_sB, hlen_rA, hR_sA, hR_sB, hR_rA, Typ_sA', Typ_sB', Typ_rA', O0, r0_0, r0_1, r0_3, r0_4, r0_5, r0_6, r0_7, O1, r1_0, r1_1, r1_2, r1_3, r1_5, r1_6, r1_7, t]
      · have lp : (p < 8) = True := eq_true (by omega)
        simp (decide := true) only [isSource_ok, yif c1, ne, k0, k2, eb, beq1, e8, lq, lp, p8, pe (by omega), cp, hA_sA, nI_s, if_false, false_and, and_false, chk_p, lt_p, bd_p, bc_p, oc_n, oc_s, and_self, and_true, true_and, if_true, if_false, isO_sA', isO_sB', isO_rA', hlen_sA, hlen_sB, hlen_rA, hR_sA, hR_sB, hR_rA, Typ_sA', Typ_sB', Typ_rA', O0, r0_0, r0_1, r0_3, r0_4, r0_5, r0_6, r0_7, O1, r1_0, r1_1, r1_2, r1_3, r1_5, r1_6, r1_7, O6, l6, O7, l7, O8, l8, t]
    · rw [if_neg (show ¬ ((if 1 = 0 then -99 else 0) ≤ v.toInt ∧ v.toInt ≤ (if 1 = 1 then 20 else 99)) from hv)] at eb
      rw [if_neg hv, if_neg hv]; simp (decide := true) only [isSource_ok, yif c1, ne, k0, k2, eb, beq1, if_false, chk_p, lt_p, bd_p, bc_p, oc_n, oc_s, and_self, and_true, true_and, if_true, if_false, isO_sA', isO_sB', isO_rA', hlen_sA, hlen_sB, hlen_rA, hR_sA, hR_sB, hR_rA, Typ_sA', Typ_sB', Typ_rA']
  · subst z
    have v0 : (v < 0) = (v.toInt < 0) := by rw [i_lt, z320]
    have v4 : (4 < v) = (4 < v.toInt) := by rw [i_lt, z4]
    by_cases hv : plok 2 v
    · have hv' : 0 ≤ v.toInt ∧ v.toInt ≤ 4 := hv
      have n0 : (v.toInt < 0) = False := eq_false (by omega)
      have n4 : (4 < v.toInt) = False := eq_false (by omega)
      rw [if_pos hv, if_pos hv]
      by_cases p8 : p = 8
      · have lp : (p < 8) = False := eq_false (by omega)
        simp (decide := true) only [isSource_ok, yif c1, ne, k0, k2, v0, v4, n0, n4, beq1, e8, lq, lp, p8, if_false, chk_p, lt_p, bd_p, bc_p, oc_n, oc_s, and_self, and_true, true_and, if_true, if_false, isO_sA', isO_sB', isO_rA', hlen_sA, hlen_sB, hlen_rA, hR_sA, hR_sB, hR_rA, Typ_sA', Typ_sB', Typ_rA', O0, r0_0, r0_1, r0_3, r0_4, r0_5, r0_6, r0_7, O1, r1_0, r1_1, r1_2, r1_3, r1_5, r1_6, r1_7, t]
      · have lp : (p < 8) = True := eq_true (by omega)
        simp (decide := true) only [isSource_ok, yif c1, ne, k0, k2, v0, v4, n0, n4, beq1, e8, lq, lp, p8, pe (by omega), cp, hA_sA, nI_s, if_false, false_and, and_false, chk_p, lt_p, bd_p, bc_p, oc_n, oc_s, and_self, and_true, true_and, if_true, if_false, isO_sA', isO_sB', isO_rA', hlen_sA, hlen_sB, hlen_rA, hR_sA, hR_sB, hR_rA, Typ_sA', Typ_sB', Typ_rA', O0, r0_0, r0_1, r0_3, r0_4, r0_5, r0_6, r0_7, O1, r1_0, r1_1, r1_2, r1_3, r1_5, r1_6, r1_7, O6, l6, O7, l7, O8, l8, t]
    · have hv' : ¬ (0 ≤ v.toInt ∧ v.toInt ≤ 4) := hv
      by_cases n0 : v.toInt < 0
      · rw [if_neg hv, if_neg hv]; simp (decide := true) only [isSource_ok, yif c1, ne, k0, k2, v0, v4, n0, beq1, if_false, chk_p, lt_p, bd_p, bc_p, oc_n, oc_s, and_self, and_true, true_and, if_true, if_false, isO_sA', isO_sB', isO_rA', hlen_sA, hlen_sB, hlen_rA, hR_sA, hR_sB, hR_rA, Typ_sA', Typ_sB', Typ_rA']
      · have n4 : (4 < v.toInt) = True := eq_true (by omega)
        rw [if_neg hv, if_neg hv]; simp (decide := true) only [isSource_ok, yif c1, ne, k0, k2, v0, v4, n0, n4, beq1, if_false, chk_p, lt_p, bd_p, bc_p, oc_n, oc_s, and_self, and_true, true_and, if_true, if_false, isO_sA', isO_sB', isO_rA', hlen_sA, hlen_sB, hlen_rA, hR_sA, hR_sB, hR_rA, Typ_sA', Typ_sB', Typ_rA']
theorem mplan_ok {σ : HS} (t : Typ σ) {s : Nat} (hs : s < 6) {k : Nat} (hk : k < 3) (v : Int32) {p : Nat} (hp : p ≤ 8) (e8 : hA σ 48 36 = nI p) :
    f_X6_plan 48 (nI s) (nI k) v σ = some (if plok k v then (if p = 8 then (-4 : Int32) else nI (p + 1)) else -2, if plok k v then (if p = 8 then σ else sA (sA (sA (sA σ 71 (3 * p) (nI s)) 71 (3 * p + 1) (nI k)) 71 (3 * p + 2) v) 48 36 (nI (p + 1))) else σ) := by
  have c1 := inS hs
  have ne : (nI s = -1) = False := nm1 (by omega)
  have pe : ∀ j, j < 3 → p < 8 → inb (nI (3 * p + j)) 24 = True := fun j hj h => inbE (by omega) (by omega)
  have cp : ∀ j, j < 3 → (nI (3 * p + j)).toNatClampNeg = 3 * p + j := fun j hj => cl1000 (by omega)
  have pe0 : p < 8 → inb (nI (3 * p)) 24 = True := pe 0 (by decide)
  have cp0 : (nI (3 * p)).toNatClampNeg = 3 * p := cp 0 (by decide)
  have p2 : ∀ q : Nat, nI q + (2 : Int32) = nI (q + 2) := fun q => nI_plus q 2
  have em := isIn_c (nI k) 0 2 0 2 rfl rfl σ
  rw [nT (by omega), if_pos (by omega)] at em
  have l8 : (nI p = 8) = (p = 8) := nE (a := p) (b := 8) (by omega) (by omega)
  have h3 : k = 0 ∨ k = 1 ∨ k = 2 := by omega
  unfold f_X6_plan
  rcases h3 with z | z | z
  · subst z
    have ev := isIn_c v (-99) 99 (-99) 99 rfl rfl σ
    by_cases hv : plok 0 v
    · rw [if_pos (show (-99 : Int) ≤ v.toInt ∧ v.toInt ≤ 99 from hv)] at ev
      rw [if_pos hv, if_pos hv]
      by_cases p8 : p = 8
      · simp (decide := true) only [mIsSource_ok, yif c1, ne, em, ev, beq1, e8, l8, p8, if_false, chk_p, lt_p, bd_p, bc_p, oc_n, oc_s, and_self, and_true, true_and, if_true, if_false, isO_sA', isO_sB', isO_rA', hlen_sA, hlen_sB, hlen_rA, hR_sA, hR_sB, hR_rA, Typ_sA', Typ_sB', Typ_rA', O48, r48_0, r48_1, r48_2, r48_3, r48_4, r48_5, r48_6, r48_8, r48_9, r48_10, r48_11, r48_12, r48_15, r48_21, r48_22, r48_23, r48_24, r48_25, r48_28, r48_30, r48_31, r48_32, r48_35, r48_37, r48_39, r48_40, r48_41, t]
      · simp (decide := true) only [mIsSource_ok, yif c1, ne, em, ev, beq1, e8, l8, p8, nI_mul3, nI_s, p2, pe0 (by omega), pe 1 (by decide) (by omega), pe 2 (by decide) (by omega), cp0, cp 1 (by decide), cp 2 (by decide), hA_sA, if_false, false_and, and_false, chk_p, lt_p, bd_p, bc_p, oc_n, oc_s, and_self, and_true, true_and, if_true, if_false, isO_sA', isO_sB', isO_rA', hlen_sA, hlen_sB, hlen_rA, hR_sA, hR_sB, hR_rA, Typ_sA', Typ_sB', Typ_rA', O48, r48_0, r48_1, r48_2, r48_3, r48_4, r48_5, r48_6, r48_8, r48_9, r48_10, r48_11, r48_12, r48_15, r48_21, r48_22, r48_23, r48_24, r48_25, r48_28, r48_30, r48_31, r48_32, r48_35, r48_37, r48_39, r48_40, r48_41, O71, l71, t]
    · rw [if_neg (show ¬ ((-99 : Int) ≤ v.toInt ∧ v.toInt ≤ 99) from hv)] at ev
      rw [if_neg hv, if_neg hv]; simp (decide := true) only [mIsSource_ok, yif c1, ne, em, ev, beq1, if_false, chk_p, lt_p, bd_p, bc_p, oc_n, oc_s, and_self, and_true, true_and, if_true, if_false, isO_sA', isO_sB', isO_rA', hlen_sA, hlen_sB, hlen_rA, hR_sA, hR_sB, hR_rA, Typ_sA', Typ_sB', Typ_rA']
  · subst z
    have ev := isIn_c v 0 20 0 20 rfl rfl σ
    by_cases hv : plok 1 v
    · rw [if_pos (show (0 : Int) ≤ v.toInt ∧ v.toInt ≤ 20 from hv)] at ev
      rw [if_pos hv, if_pos hv]
      by_cases p8 : p = 8
      · simp (decide := true) only [mIsSource_ok, yif c1, ne, em, ev, beq1, e8, l8, p8, if_false, chk_p, lt_p, bd_p, bc_p, oc_n, oc_s, and_self, and_true, true_and, if_true, if_false, isO_sA', isO_sB', isO_rA', hlen_sA, hlen_sB, hlen_rA, hR_sA, hR_sB, hR_rA, Typ_sA', Typ_sB', Typ_rA', O48, r48_0, r48_1, r48_2, r48_3, r48_4, r48_5, r48_6, r48_8, r48_9, r48_10, r48_11, r48_12, r48_15, r48_21, r48_22, r48_23, r48_24, r48_25, r48_28, r48_30, r48_31, r48_32, r48_35, r48_37, r48_39, r48_40, r48_41, t]
      · simp (decide := true) only [mIsSource_ok, yif c1, ne, em, ev, beq1, e8, l8, p8, nI_mul3, nI_s, p2, pe0 (by omega), pe 1 (by decide) (by omega), pe 2 (by decide) (by omega), cp0, cp 1 (by decide), cp 2 (by decide), hA_sA, if_false, false_and, and_false, chk_p, lt_p, bd_p, bc_p, oc_n, oc_s, and_self, and_true, true_and, if_true, if_false, isO_sA', isO_sB', isO_rA', hlen_sA, hlen_sB, hlen_rA, hR_sA, hR_sB, hR_rA, Typ_sA', Typ_sB', Typ_rA', O48, r48_0, r48_1, r48_2, r48_3, r48_4, r48_5, r48_6, r48_8, r48_9, r48_10, r48_11, r48_12, r48_15, r48_21, r48_22, r48_23, r48_24, r48_25, r48_28, r48_30, r48_31, r48_32, r48_35, r48_37, r48_39, r48_40, r48_41, O71, l71, t]
    · rw [if_neg (show ¬ ((0 : Int) ≤ v.toInt ∧ v.toInt ≤ 20) from hv)] at ev
      rw [if_neg hv, if_neg hv]; simp (decide := true) only [mIsSource_ok, yif c1, ne, em, ev, beq1, if_false, chk_p, lt_p, bd_p, bc_p, oc_n, oc_s, and_self, and_true, true_and, if_true, if_false, isO_sA', isO_sB', isO_rA', hlen_sA, hlen_sB, hlen_rA, hR_sA, hR_sB, hR_rA, Typ_sA', Typ_sB', Typ_rA']
  · subst z
    have ev := isIn_c v 0 4 0 4 rfl rfl σ
    by_cases hv : plok 2 v
    · rw [if_pos (show (0 : Int) ≤ v.toInt ∧ v.toInt ≤ 4 from hv)] at ev
      rw [if_pos hv, if_pos hv]
      by_cases p8 : p = 8
      · simp (decide := true) only [mIsSource_ok, yif c1, ne, em, ev, beq1, e8, l8, p8, if_false, chk_p, lt_p, bd_p, bc_p, oc_n, oc_s, and_self, and_true, true_and, if_true, if_false, isO_sA', isO_sB', isO_rA', hlen_sA, hlen_sB, hlen_rA, hR_sA, hR_sB, hR_rA, Typ_sA', Typ_sB', Typ_rA', O48, r48_0, r48_1, r48_2, r48_3, r48_4, r48_5, r48_6, r48_8, r48_9, r48_10, r48_11, r48_12, r48_15, r48_21, r48_22, r48_23, r48_24, r48_25, r48_28, r48_30, r48_31, r48_32, r48_35, r48_37, r48_39, r48_40, r48_41, t]
      · simp (decide := true) only [mIsSource_ok, yif c1, ne, em, ev, beq1, e8, l8, p8, nI_mul3, nI_s, p2, pe0 (by omega), pe 1 (by decide) (by omega), pe 2 (by decide) (by omega), cp0, cp 1 (by decide), cp 2 (by decide), hA_sA, if_false, false_and, and_false, chk_p, lt_p, bd_p, bc_p, oc_n, oc_s, and_self, and_true, true_and, if_true, if_false, isO_sA', isO_sB', isO_rA', hlen_sA, hlen_sB, hlen_rA, hR_sA, hR_sB, hR_rA, Typ_sA', Typ_sB', Typ_rA', O48, r48_0, r48_1, r48_2, r48_3, r48_4, r48_5, r48_6, r48_8, r48_9, r48_10, r48_11, r48_12, r48_15, r48_21, r48_22, r48_23, r48_24, r48_25, r48_28, r48_30, r48_31, r48_32, r48_35, r48_37, r48_39, r48_40, r48_41, O71, l71, t]
    · rw [if_neg (show ¬ ((0 : Int) ≤ v.toInt ∧ v.toInt ≤ 4) from hv)] at ev
      rw [if_neg hv, if_neg hv]; simp (decide := true) only [mIsSource_ok, yif c1, ne, em, ev, beq1, if_false, chk_p, lt_p, bd_p, bc_p, oc_n, oc_s, and_self, and_true, true_and, if_true, if_false, isO_sA', isO_sB', isO_rA', hlen_sA, hlen_sB, hlen_rA, hR_sA, hR_sB, hR_rA, Typ_sA', Typ_sB', Typ_rA']
theorem op_plan (a w v : Int32) : OpOK (f_X5_plan 0 a w v) (f_X6_plan 48 a w v) := by
  intro σ V S C n FS I
  have t := I.1
  by_cases am : a = -1
  · refine ⟨0, sA σ 1 8 0, sA (sA σ 1 8 0) 48 36 0, ?_, t, Nat.le_refl _, ?_, Nat.le_refl _, V, S, C, n, FS, plan0_inv I⟩
    · unfold f_X5_plan
      simp only [am, chk_p, lt_p, bd_p, bc_p, oc_n, oc_s, and_self, and_true, true_and, if_true, if_false, isO_sA', isO_sB', isO_rA', hlen_sA, hlen_sB, hlen_rA, hR_sA, hR_sB, hR_rA, Typ_sA', Typ_sB', Typ_rA', O0, r0_0, r0_1, r0_3, r0_4, r0_5, r0_6, r0_7, O1, r1_0, r1_1, r1_2, r1_3, r1_5, r1_6, r1_7, t]
    · unfold f_X6_plan
      simp only [am, chk_p, lt_p, bd_p, bc_p, oc_n, oc_s, and_self, and_true, true_and, if_true, if_false, isO_sA', isO_sB', isO_rA', hlen_sA, hlen_sB, hlen_rA, hR_sA, hR_sB, hR_rA, Typ_sA', Typ_sB', Typ_rA', O48, r48_0, r48_1, r48_2, r48_3, r48_4, r48_5, r48_6, r48_8, r48_9, r48_10, r48_11, r48_12, r48_15, r48_21, r48_22, r48_23, r48_24, r48_25, r48_28, r48_30, r48_31, r48_32, r48_35, r48_37, r48_39, r48_40, r48_41, t]
  obtain ⟨p, PS, PW, PV, hp⟩ := I.2.2.2.2.1
  rcases argC a 6 (by decide) with ⟨s, hs, rfl⟩ | ha
  · have c1 := inS hs
    rcases argC w 3 (by decide) with ⟨k, hk, rfl⟩ | hw
    · have ex := xplan_ok t hs hk v hp.1 hp.2.1
      by_cases hv : plok k v
      · rw [if_pos hv, if_pos hv] at ex
        by_cases p8 : p = 8
        · rw [if_pos p8, if_pos p8] at ex
          have em := mplan_ok t hs hk v hp.1 hp.2.2.1
          rw [if_pos hv, if_pos hv, if_pos p8, if_pos p8] at em
          exact opN I _ ex em
        · rw [if_neg p8, if_neg p8] at ex
          have p8' := hp.1
          have em := mplan_ok (σ := sA (sA (sA (sA σ 6 p (nI s)) 7 p (nI k)) 8 p v) 1 8 (nI (p + 1))) t hs hk v hp.1 (by simp (decide := true) only [hA_sA, false_and, if_false]; exact hp.2.2.1)
          rw [if_pos hv, if_pos hv, if_neg p8, if_neg p8] at em
          exact ⟨_, _, _, ex, t, Nat.le_refl _, em, Nat.le_refl _, V, S, C, n, FS, plan_inv I hp (by omega) ⟨by rw [nT (by omega)]; omega, by rw [nT (by omega)]; omega⟩ (plx hk hv)⟩
      · rw [if_neg hv, if_neg hv] at ex
        have em := mplan_ok t hs hk v hp.1 hp.2.2.1
        rw [if_neg hv, if_neg hv] at em
        exact opN I _ ex em
    · have em := isIn_c w 0 2 0 2 rfl rfl σ
      rw [if_neg (by omega)] at em
      have ne : (nI s = -1) = False := nm1 (by omega)
      refine opN I (-1) ?_ ?_
      · unfold f_X5_plan
        by_cases w0 : w < 0
        · simp only [isSource_ok, yif c1, beq1, ne, w0, if_false, chk_p, lt_p, bd_p, bc_p, oc_n, oc_s, and_self, and_true, true_and, if_true, if_false, isO_sA', isO_sB', isO_rA', hlen_sA, hlen_sB, hlen_rA, hR_sA, hR_sB, hR_rA, Typ_sA', Typ_sB', Typ_rA']
        · have w2 : (w ≤ 2) = False := by rw [i_lt, z320] at w0; rw [i_le]; exact eq_false (by have : (2 : Int32).toInt = 2 := rfl; omega)
          simp only [isSource_ok, yif c1, beq1, ne, w0, w2, if_false, chk_p, lt_p, bd_p, bc_p, oc_n, oc_s, and_self, and_true, true_and, if_true, if_false, isO_sA', isO_sB', isO_rA', hlen_sA, hlen_sB, hlen_rA, hR_sA, hR_sB, hR_rA, Typ_sA', Typ_sB', Typ_rA']
      · unfold f_X6_plan
        simp only [mIsSource_ok, yif c1, beq1, ne, em, if_false, chk_p, lt_p, bd_p, bc_p, oc_n, oc_s, and_self, and_true, true_and, if_true, if_false, isO_sA', isO_sB', isO_rA', hlen_sA, hlen_sB, hlen_rA, hR_sA, hR_sB, hR_rA, Typ_sA', Typ_sB', Typ_rA']
  · have c1 : ¬ (0 ≤ a.toInt ∧ a.toInt < 6) := by omega
    refine opN I (-1) ?_ ?_
    · unfold f_X5_plan
      simp only [isSource_ok, nif c1, am, if_false, chk_p, lt_p, bd_p, bc_p, oc_n, oc_s, and_self, and_true, true_and, if_true, if_false, isO_sA', isO_sB', isO_rA', hlen_sA, hlen_sB, hlen_rA, hR_sA, hR_sB, hR_rA, Typ_sA', Typ_sB', Typ_rA']
    · unfold f_X6_plan
      simp only [mIsSource_ok, nif c1, am, if_false, chk_p, lt_p, bd_p, bc_p, oc_n, oc_s, and_self, and_true, true_and, if_true, if_false, isO_sA', isO_sB', isO_rA', hlen_sA, hlen_sB, hlen_rA, hR_sA, hR_sB, hR_rA, Typ_sA', Typ_sB', Typ_rA']
end
section
/-! the way to what is over -/
def nxt (Φ : FM) (o : Nat → Bool) (i : Nat) : Option Nat := if o (mU Φ i) = true then some (mU Φ i) else if 3 ≤ mK Φ i ∧ o (mV Φ i) = true then some (mV Φ i) else none
def wl (Φ : FM) (o : Nat → Bool) : Nat → Nat → List Nat
  | 0, _ => []
  | n + 1, i => mP Φ i :: (match nxt Φ o i with | none => [] | some j => wl Φ o n j)
def nxi (x : Option Nat) : Int32 := match x with | none => -1 | some j => nI j
theorem nxt_lt {Φ : FM} (hw : wfR Φ) {o : Nat → Bool} {i j : Nat} (hi : i < mN Φ) (k : 2 ≤ mK Φ i) (h : nxt Φ o i = some j) : j < i ∧ o j = true := by
  obtain ⟨k5, ku0, ku1, ku, kv, kv0, kp⟩ := hw i hi
  unfold nxt at h
  by_cases c1 : o (mU Φ i) = true
  · rw [if_pos c1] at h; cases h; exact ⟨ku k, c1⟩
  · rw [if_neg c1] at h
    by_cases c2 : 3 ≤ mK Φ i ∧ o (mV Φ i) = true
    · rw [if_pos c2] at h; cases h; exact ⟨kv c2.1, c2.2⟩
    · rw [if_neg c2] at h; cases h
def ovr (Φ : FM) (L H : Nat → Int) (i : Nat) : Bool := (SP Φ L H i).isNone
theorem ovr_k {Φ : FM} {L H : Nat → Int} {i : Nat} (h : ovr Φ L H i = true) : 2 ≤ mK Φ i := by
  by_cases k0 : mK Φ i = 0
  · unfold ovr at h; rw [SP_0 k0] at h; cases h
  by_cases k1 : mK Φ i = 1
  · unfold ovr at h; rw [SP_1 k1] at h; cases h
  omega
theorem rep_o {σ : HS} {t i : Nat} {x : Option (Int × Int)} (h : Rep σ t i x) : hA σ (t + 3) i = if x.isNone = true then 1 else 0 := by
  cases x with
  | none => rw [if_pos (show (none : Option (Int × Int)).isNone = true from rfl)]; exact h
  | some p => rw [if_neg (show ¬ (some p).isNone = true from fun z => by cases z)]; exact h.1
theorem firstOver_ok {σ : HS} (t : Typ σ) {φ : Nat} {Φ : FM} (hx : XF σ φ Φ) (hw : WF Φ) {L H : Nat → Int} (hr : ∀ j, j < mN Φ → Rep σ 28 j (SP Φ L H j)) {i : Nat} (hi : i < mN Φ) (k : 2 ≤ mK Φ i) : f_X4_firstOverOf 24 φ (nI i) σ = some (nxi (nxt Φ (ovr Φ L H) i), σ) := by
  obtain ⟨ft, hn, hc⟩ := hx
  obtain ⟨c1, c2, c3, c4, c5⟩ := hc i hi
  obtain ⟨w0, w60, wr⟩ := hw
  obtain ⟨k5, ku0, ku1, ku, kv, kv0, kp⟩ := wr i hi
  obtain ⟨f0, f1, ⟨a1, a2, a3⟩, -, ⟨d1, d2, d3⟩, ⟨e1, e2, e3⟩, -⟩ := ft
  have ib := inbE (i := i) hi (by omega)
  have ci := cl1000 (i := i) (by omega)
  have q1 := eq_true f1
  have q2 := eq_true a2
  have q3 := eq_true d2
  have q4 := eq_true e2
  have hu := ku k
  have nk : (mK Φ i ≤ 1) = False := eq_false (by omega)
  rw [if_neg (by omega)] at c3 c4
  have ue := inbE (i := mU Φ i) (n := 60) (by omega) (by omega)
  have cu := cl1000 (i := mU Φ i) (by omega)
  have lk : (nI (mK Φ i) ≤ 1) = False := nle (a := mK Φ i) (b := 1) (by omega) (by omega) |> fun _ => eq_false (by rw [show (1 : Int32) = nI 1 from rfl, nI_leI (by omega) (by omega)]; omega)
  have em : f_X0_isMade (nI (mK Φ i)) σ = some (1, σ) := by unfold f_X0_isMade; rw [if_neg (of_eq_false lk)]
  have ou : hA σ 31 (mU Φ i) = _ := rep_o (hr (mU Φ i) (by omega))
  unfold f_X4_firstOverOf
  simp only [chk_p, lt_p, bd_p, bc_p, oc_n, oc_s, and_self, and_true, true_and, if_true, if_false, isO_sA', isO_sB', isO_rA', hlen_sA, hlen_sB, hlen_rA, hR_sA, hR_sB, hR_rA, Typ_sA', Typ_sB', Typ_rA', O24, r24_0, r24_1, r24_5, r24_6, r24_7, r24_8, r24_9, O28, r28_0, r28_1, r28_2, O31, l31, t, q1, q2, q3, q4, a1, a3, d1, d3, e1, e3, ib, ci, c1, c3, em, beq1, if_false, ue, cu, ou]
  unfold nxt
  by_cases o1 : (SP Φ L H (mU Φ i)).isNone = true
  · rw [if_pos o1, if_neg (by decide), if_pos (show ovr Φ L H (mU Φ i) = true from o1)]; rfl
  · rw [if_neg o1, if_pos rfl, if_neg (show ¬ ovr Φ L H (mU Φ i) = true from o1)]
    by_cases k2 : mK Φ i = 2
    · rw [if_pos k2] at c4
      have o1' : ((if (SP Φ L H (mU Φ i)).isNone = true then (1 : Int32) else 0) = 0) = True := by rw [if_neg o1]; exact eq_true rfl
      simp only [c4, ue, cu, ou, o1', chk_p, lt_p, bd_p, bc_p, oc_n, oc_s, and_self, and_true, true_and, if_true, if_false, isO_sA', isO_sB', isO_rA', hlen_sA, hlen_sB, hlen_rA, hR_sA, hR_sB, hR_rA, Typ_sA', Typ_sB', Typ_rA']
      rw [if_neg (by omega)]; rfl
    · rw [if_neg k2] at c4
      have hv := kv (by omega)
      have ve := inbE (i := mV Φ i) (n := 60) (by omega) (by omega)
      have cv := cl1000 (i := mV Φ i) (by omega)
      have ov : hA σ 31 (mV Φ i) = _ := rep_o (hr (mV Φ i) (by omega))
      by_cases o2 : (SP Φ L H (mV Φ i)).isNone = true
      · rw [if_pos o2] at ov
        simp only [c4, ve, cv, ov, beq1, if_false, chk_p, lt_p, bd_p, bc_p, oc_n, oc_s, and_self, and_true, true_and, if_true, if_false, isO_sA', isO_sB', isO_rA', hlen_sA, hlen_sB, hlen_rA, hR_sA, hR_sB, hR_rA, Typ_sA', Typ_sB', Typ_rA']
        rw [if_pos ⟨by omega, o2⟩]; rfl
      · rw [if_neg o2] at ov
        simp only [c4, ve, cv, ov, chk_p, lt_p, bd_p, bc_p, oc_n, oc_s, and_self, and_true, true_and, if_true, if_false, isO_sA', isO_sB', isO_rA', hlen_sA, hlen_sB, hlen_rA, hR_sA, hR_sB, hR_rA, Typ_sA', Typ_sB', Typ_rA']
        rw [if_neg (fun z => o2 z.2)]; rfl
theorem Rep_fr {S : List Nat} {σ σ' : HS} {t i : Nat} {x : Option (Int × Int)} (h : Rep σ t i x) (hf : Fr S σ σ') (h1 : t + 1 ∉ S) (h2 : t + 2 ∉ S) (h3 : t + 3 ∉ S) : Rep σ' t i x := by
  cases x with
  | none => exact (hf.A h3 i).trans h
  | some p =>
    obtain ⟨a1, a2, a3, a4⟩ := h
    exact ⟨(hf.A h3 i).trans a1, (congrArg Int64.toInt (hf.B h1 i)).trans a2, (congrArg Int64.toInt (hf.B h2 i)).trans a3, a4⟩
theorem keepWay_lp {φ : Nat} {Φ : FM} (hw : WF Φ) {L H : Nat → Int} : ∀ (n i c : Nat) (σ : HS), i < n → i < mN Φ → ovr Φ L H i = true → c + i < 60 → Typ σ → XF σ φ Φ → (∀ j, j < mN Φ → Rep σ 28 j (SP Φ L H j)) → hA σ 0 8 = nI c → ∀ nf, n < nf →
    ∃ σ', lp_X5_keepWay_12 nf 0 φ (nI i) σ = some ((), σ') ∧ Fr [0, 47] σ σ' ∧ (∀ k, k ≠ 8 → hA σ' 0 k = hA σ 0 k) ∧ hA σ' 0 8 = nI (c + (wl Φ (ovr Φ L H) n i).length) ∧ c + (wl Φ (ovr Φ L H) n i).length ≤ 60 ∧ (∀ k, k < c → hA σ' 47 k = hA σ 47 k) ∧ ∀ k, k < (wl Φ (ovr Φ L H) n i).length → hA σ' 47 (c + k) = nI ((wl Φ (ovr Φ L H) n i).getD k 0) := by
  intro n
  induction n with
  | zero => intro i c σ h; omega
  | succ n ih =>
    intro i c σ hin him ho hci t hx hr h8 nf hnf
    obtain ⟨nf, rfl⟩ : ∃ k, nf = k + 1 := ⟨nf - 1, by omega⟩
    have k2 := ovr_k ho
    have w60 := hw.2.1
    have fr : Fr [0, 47] σ (sA (sA σ 47 c (nI (mP Φ i))) 0 8 (nI (c + 1))) := (Fr_sA (by simp)).seq (Fr_sA (by simp))
    have t1 : Typ (sA (sA σ 47 c (nI (mP Φ i))) 0 8 (nI (c + 1))) := t
    have hx1 := hx.fr fr (by decide)
    have hr1 : ∀ j, j < mN Φ → Rep (sA (sA σ 47 c (nI (mP Φ i))) 0 8 (nI (c + 1))) 28 j (SP Φ L H j) := fun j hj => Rep_fr (hr j hj) fr (by decide) (by decide) (by decide)
    have fo := firstOver_ok t1 hx1 hw hr1 him k2
    obtain ⟨ft, hn, hc⟩ := hx
    obtain ⟨c1, c2, c3, c4, c5⟩ := hc i him
    obtain ⟨f0, f1, -, ⟨b1, b2, b3⟩, -⟩ := ft
    have ib := inbE (i := i) him (by omega)
    have ci := cl1000 (i := i) (by omega)
    have ce := inbE (i := c) (n := 60) (by omega) (by omega)
    have cc := cl1000 (i := c) (by omega)
    have q1 := eq_true f1
    have q2 := eq_true b2
    have i0 : (nI i < 0) = False := by rw [i_lt, nT (by omega), z320]; exact eq_false (by omega)
    have l60 : (60 ≤ nI c) = False := by rw [show (60 : Int32) = nI 60 from rfl]; exact nle (by omega) (by omega)
    have step : lp_X5_keepWay_12 (nf + 1) 0 φ (nI i) σ = lp_X5_keepWay_12 nf 0 φ (nxi (nxt Φ (ovr Φ L H) i)) (sA (sA σ 47 c (nI (mP Φ i))) 0 8 (nI (c + 1))) := by
      show lp_X5_keepWay_12_b (lp_X5_keepWay_12 nf) 0 φ (nI i) σ = _
      unfold lp_X5_keepWay_12_b
      simp (decide := true) only [i0, l60, if_false, chk_p, lt_p, bd_p, bc_p, oc_n, oc_s, and_self, and_true, true_and, if_true, if_false, isO_sA', isO_sB', isO_rA', hlen_sA, hlen_sB, hlen_rA, hR_sA, hR_sB, hR_rA, Typ_sA', Typ_sB', Typ_rA', O0, r0_0, r0_1, r0_3, r0_4, r0_5, r0_6, r0_7, O24, r24_0, r24_1, r24_5, r24_6, r24_7, r24_8, r24_9, O47, l47, t, h8, q1, q2, b1, b3, ib, ci, ce, cc, c2, hA_sA, false_and, nI_s, fo]
    have v0 : ∀ k, k ≠ 8 → hA (sA (sA σ 47 c (nI (mP Φ i))) 0 8 (nI (c + 1))) 0 k = hA σ 0 k := fun k hk => by simp (decide := true) only [hA_sA, hk, and_false, false_and, if_false]
    have v8 : hA (sA (sA σ 47 c (nI (mP Φ i))) 0 8 (nI (c + 1))) 0 8 = nI (c + 1) := by simp (decide := true) only [hA_sA, and_self, if_true]
    have v47 : ∀ k, hA (sA (sA σ 47 c (nI (mP Φ i))) 0 8 (nI (c + 1))) 47 k = if k = c then nI (mP Φ i) else hA σ 47 k := fun k => by simp (decide := true) only [hA_sA, true_and, false_and, if_false]
    cases hx : nxt Φ (ovr Φ L H) i with
    | none =>
      have ew : wl Φ (ovr Φ L H) (n + 1) i = [mP Φ i] := by unfold wl; rw [hx]
      rw [ew]
      rw [hx] at step
      refine ⟨_, step.trans ?_, fr, v0, v8, by simp; omega, fun k hk => ?_, fun k hk => ?_⟩
      · obtain ⟨nf, rfl⟩ : ∃ k, nf = k + 1 := ⟨nf - 1, by omega⟩
        show lp_X5_keepWay_12_b (lp_X5_keepWay_12 nf) 0 φ (-1) _ = _
        unfold lp_X5_keepWay_12_b
        exact if_pos (by decide)
      · rw [v47, if_neg (by omega)]
      · have : k = 0 := by simp at hk; omega
        subst this
        rw [v47, if_pos (by omega)]; rfl
    | some j =>
      obtain ⟨hj, hoj⟩ := nxt_lt hw.2.2 him k2 hx
      rw [hx] at step
      obtain ⟨σ', g1, g2, g3, g4, g5, g6, g7⟩ := ih j (c + 1) _ (by omega) (by omega) hoj (by omega) t1 hx1 hr1 v8 nf (by omega)
      have ew : wl Φ (ovr Φ L H) (n + 1) i = mP Φ i :: wl Φ (ovr Φ L H) n j := by
        show mP Φ i :: (match nxt Φ (ovr Φ L H) i with | none => [] | some j => wl Φ (ovr Φ L H) n j) = _
        rw [hx]
      rw [ew, List.length_cons]
      refine ⟨σ', step.trans g1, fr.seq g2, fun k hk => (g3 k hk).trans (v0 k hk), by rw [g4]; congr 1; omega, by omega, fun k hk => ?_, fun k hk => ?_⟩
      · rw [g6 k (by omega), v47, if_neg (by omega)]
      · cases k with
        | zero => rw [Nat.add_zero, g6 c (by omega), v47, if_pos rfl]; rfl
        | succ k => rw [show c + (k + 1) = c + 1 + k by omega, g7 k (by omega)]; rfl
theorem keepWay_ok {φ : Nat} {Φ : FM} (hw : WF Φ) {L H : Nat → Int} {σ : HS} (t : Typ σ) (hx : XF σ φ Φ) (hr : ∀ j, j < mN Φ → Rep σ 28 j (SP Φ L H j)) (ho : SP Φ L H (mN Φ - 1) = none) :
    ∃ σ', f_X5_keepWay 0 φ σ = some ((), σ') ∧ Fr [0, 47] σ σ' ∧ (∀ k, k ≠ 8 → hA σ' 0 k = hA σ 0 k) ∧ hA σ' 0 8 = nI (wl Φ (ovr Φ L H) (mN Φ) (mN Φ - 1)).length ∧ (wl Φ (ovr Φ L H) (mN Φ) (mN Φ - 1)).length ≤ 60 ∧ ∀ k, k < (wl Φ (ovr Φ L H) (mN Φ) (mN Φ - 1)).length → hA σ' 47 k = nI ((wl Φ (ovr Φ L H) (mN Φ) (mN Φ - 1)).getD k 0) := by
  have w1 := hw.1
  have w60 := hw.2.1
  have fr : Fr [0, 47] σ (sA σ 0 8 0) := Fr_sA (by simp)
  obtain ⟨σ', g1, g2, g3, g4, g5, g6, g7⟩ := keepWay_lp hw (mN Φ) (mN Φ - 1) 0 (sA σ 0 8 0) (by omega) (by omega) (by unfold ovr; rw [ho]; rfl) (by omega) t (hx.fr fr (by decide)) (fun j hj => Rep_fr (hr j hj) fr (by decide) (by decide) (by decide)) (by rw [hA_sA, if_pos ⟨rfl, rfl⟩]; rfl) 1000 (by omega)
  refine ⟨σ', ?_, fr.seq g2, fun k hk => (g3 k hk).trans (by rw [hA_sA, if_neg (by omega)]), by rw [g4, Nat.zero_add], by omega, fun k hk => ?_⟩
  · have q1 := eq_true hx.1.2.1
    have h76 := hx.1.1
    have hn := hx.2.1
    obtain ⟨m, hm⟩ : ∃ m, mN Φ = m + 1 := ⟨mN Φ - 1, by omega⟩
    rw [hm, Nat.add_sub_cancel] at g1
    rw [hm] at hn
    unfold f_X5_keepWay
    simp only [chk_p, lt_p, bd_p, bc_p, oc_n, oc_s, and_self, and_true, true_and, if_true, if_false, isO_sA', isO_sB', isO_rA', hlen_sA, hlen_sB, hlen_rA, hR_sA, hR_sB, hR_rA, Typ_sA', Typ_sB', Typ_rA', O0, t, q1, hA_sA, show ¬ (φ = 0) by omega, false_and, if_false, hn, nI_pred]
    exact g1
  · rw [← g7 k hk, Nat.zero_add]
end
section
/-! what a call that only asks keeps, both sides -/
def LO (V S : Nat → Int32) (s : Nat) : Int := if s < 6 then (V s).toInt - (S s).toInt else 0
def HI (V S : Nat → Int32) (s : Nat) : Int := if s < 6 then (V s).toInt + (S s).toInt else 0
def upI (L : Nat → Int) (s : Nat) (x : Int) (i : Nat) : Int := if i = s then x else L i
def CS (σ : HS) (φ f : Nat) (Φ : FM) (V S C : Nat → Int32) : Prop := Typ σ ∧ XF σ φ Φ ∧ MF σ f Φ ∧ SrcI σ 2 49 V S C
abbrev RepA (σ : HS) (t : Nat) (Φ : FM) (L H : Nat → Int) : Prop := ∀ j, j < mN Φ → Rep σ t j (SP Φ L H j)
abbrev RT (Φ : FM) (L H : Nat → Int) : Option (Int × Int) := SP Φ L H (mN Φ - 1)
theorem Kp.seq {σ σ' σ'' : HS} (h : Kp σ σ') (g : Kp σ' σ'') : Kp σ σ'' := by
  obtain ⟨a1, a2, a3, a4, a5, a6, a7⟩ := h
  obtain ⟨b1, b2, b3, b4, b5, b6, b7⟩ := g
  refine ⟨Nat.le_trans a1 b1, fun j hj => ?_, fun j hj => ?_, fun j hj hp => ?_, fun k hk => (b5 k hk).trans (a5 k hk), a6, a7⟩
  · obtain ⟨p, q⟩ := a2 j hj
    obtain ⟨r, t⟩ := b2 j (Nat.lt_of_lt_of_le hj a1)
    exact ⟨r.trans p, t.trans q⟩
  · refine (b3 j ?_).trans (a3 j hj)
    rcases hj with z | z
    · exact Or.inl z
    · exact Or.inr ⟨Nat.lt_of_lt_of_le z.1 a1, (a2 j z.1).1.trans z.2⟩
  · obtain ⟨p, q⟩ := a4 j hj hp
    obtain ⟨r, t⟩ := b4 j (Nat.lt_of_lt_of_le hj a1) hp
    exact ⟨r.trans p, t.trans q⟩
theorem CS.kp {σ σ' : HS} {φ f : Nat} {Φ : FM} {V S C : Nat → Int32} (h : CS σ φ f Φ V S C) (hk : Kp σ σ') : CS σ' φ f Φ V S C := by
  obtain ⟨t, h1, h2, h3⟩ := h
  have e : ∀ j, j < 76 → (scj j || j == 48) = false → ∀ k, hA σ' j k = hA σ j k := fun j hj hs k => Kq.A hk (Nat.lt_of_lt_of_le hj t.1) hs k
  refine ⟨hk.typ t, Kq.xf hk h1, ⟨(e 55 (by decide) (by decide) _).trans h2.1, fun i hi => ?_⟩, Kq.src hk t (by decide) (by decide) (by decide) (by decide) (by decide) (by decide) h3⟩
  obtain ⟨a, b, c, d⟩ := h2.2 i hi
  exact ⟨(e 51 (by decide) (by decide) _).trans a, (e 52 (by decide) (by decide) _).trans b, (e 53 (by decide) (by decide) _).trans c, (e 54 (by decide) (by decide) _).trans d⟩
theorem CS.vals {σ : HS} {φ f : Nat} {Φ : FM} {V S C : Nat → Int32} (h : CS σ φ f Φ V S C) : Vals σ := fun s hs => by
  obtain ⟨⟨a1, a2, a3⟩, -, ⟨r1, r2⟩, ⟨r3, r4⟩, r5, r6⟩ := h.2.2.2 s hs
  rw [a1, a2, a3]; exact ⟨r1, r2, r3, r4, r5, r6⟩
theorem CS.srcM {σ : HS} {φ f : Nat} {Φ : FM} {V S C : Nat → Int32} (h : CS σ φ f Φ V S C) : SrcM σ := fun s hs => by
  obtain ⟨⟨a1, a2, a3⟩, ⟨b1, b2, b3⟩, -⟩ := h.2.2.2 s hs
  exact ⟨b1.trans a1.symm, b2.trans a2.symm, b3.trans a3.symm⟩
theorem cs_bL {σ : HS} {φ f : Nat} {Φ : FM} {V S C : Nat → Int32} (h : CS σ φ f Φ V S C) : bL σ = LO V S := by
  funext s
  unfold bL LO
  by_cases hs : s < 6
  · obtain ⟨⟨a1, a2, a3⟩, -⟩ := h.2.2.2 s hs
    rw [if_pos hs, if_pos hs, a1, a2]
  · rw [if_neg hs, if_neg hs]
theorem cs_bH {σ : HS} {φ f : Nat} {Φ : FM} {V S C : Nat → Int32} (h : CS σ φ f Φ V S C) : bH σ = HI V S := by
  funext s
  unfold bH HI
  by_cases hs : s < 6
  · obtain ⟨⟨a1, a2, a3⟩, -⟩ := h.2.2.2 s hs
    rw [if_pos hs, if_pos hs, a1, a2]
  · rw [if_neg hs, if_neg hs]
theorem c_now {σ : HS} {φ f : Nat} {Φ : FM} {V S C : Nat → Int32} (hw : WF Φ) (h : CS σ φ f Φ V S C) : ∃ σ', f_X5_carryAsItIs 0 φ σ = some ((), σ') ∧ Kp σ σ' ∧ CS σ' φ f Φ V S C ∧ RepA σ' 28 Φ (LO V S) (HI V S) ∧ Th σ' (RT Φ (LO V S) (HI V S)) ∧ Bx σ' (LO V S) (HI V S) := by
  obtain ⟨σ', e1, e2, e3, e4, e5⟩ := cai_ok hw h.1 h.2.1 h.vals
  rw [cs_bL h, cs_bH h] at e3 e4 e5
  have k : Kp σ σ' := e2.kp (by decide)
  exact ⟨σ', e1, k, h.kp k, e3, e4, e5⟩
theorem c_carry {σ : HS} {φ f : Nat} {Φ : FM} {V S C : Nat → Int32} (hw : WF Φ) (h : CS σ φ f Φ V S C) {L H : Nat → Int} (hb : Bx σ L H) : ∃ σ', f_X4_carry 24 φ σ = some ((), σ') ∧ Kp σ σ' ∧ CS σ' φ f Φ V S C ∧ RepA σ' 28 Φ L H ∧ Th σ' (RT Φ L H) ∧ Bx σ' L H ∧ Fr [24, 29, 30, 31] σ σ' := by
  obtain ⟨σ', e1, e2, e3, e4⟩ := carry_ok hw h.1 h.2.1 hb
  have k : Kp σ σ' := e2.kp (by decide)
  exact ⟨σ', e1, k, h.kp k, e3, e4, hb.fr e2 (by decide) (by decide), e2⟩
theorem m_now {σ : HS} {φ f : Nat} {Φ : FM} {V S C : Nat → Int32} (hf : f < 7) (hw : WF Φ) (h : CS σ φ f Φ V S C) : ∃ σ', f_X6_spansNow 48 (nI f) σ = some (rc (RT Φ (LO V S) (HI V S)), σ') ∧ Kp σ σ' ∧ CS σ' φ f Φ V S C ∧ RepA σ' 63 Φ (LO V S) (HI V S) ∧ BxM σ' (LO V S) (HI V S) ∧ Mf [62, 63, 64, 65, 66] σ σ' := by
  obtain ⟨σ', e1, e2, e3, e4⟩ := spansNow_ok hf hw h.1 h.2.2.1 h.vals h.srcM
  rw [cs_bL h, cs_bH h] at e1 e3 e4
  have k : Kp σ σ' := e2.kp (by decide)
  exact ⟨σ', e1, k, h.kp k, e3, e4, e2⟩
theorem m_spans {σ : HS} {φ f : Nat} {Φ : FM} {V S C : Nat → Int32} (hf : f < 7) (hw : WF Φ) (h : CS σ φ f Φ V S C) {L H : Nat → Int} (hb : BxM σ L H) : ∃ σ', f_X6_spans 48 (nI f) σ = some (rc (RT Φ L H), σ') ∧ Kp σ σ' ∧ CS σ' φ f Φ V S C ∧ RepA σ' 63 Φ L H ∧ BxM σ' L H ∧ Mf [64, 65, 66] σ σ' := by
  obtain ⟨σ', e1, e2, e3⟩ := spans_ok hf hw h.1 h.2.2.1 hb
  have k : Kp σ σ' := e2.kp (by decide)
  exact ⟨σ', e1, k, h.kp k, e3, hb.mf e2 (by decide) (by decide), e2⟩
theorem m_box {σ : HS} {φ f : Nat} {Φ : FM} {V S C : Nat → Int32} (h : CS σ φ f Φ V S C) : ∃ σ', f_X6_laysBox 48 σ = some ((), σ') ∧ Kp σ σ' ∧ CS σ' φ f Φ V S C ∧ BxM σ' (LO V S) (HI V S) ∧ Mf [62, 63] σ σ' := by
  obtain ⟨σ', e1, e2, e3⟩ := laysBox_ok h.1
  have k : Kp σ σ' := e2.kp (by decide)
  have hb := BxM_now h.vals h.srcM e3
  rw [cs_bL h, cs_bH h] at hb
  exact ⟨σ', e1, k, h.kp k, hb, e2⟩
theorem m_width {σ : HS} {φ f : Nat} {Φ : FM} {V S C : Nat → Int32} (hf : f < 7) (hw : WF Φ) (h : CS σ φ f Φ V S C) {L H : Nat → Int} (hb : BxM σ L H) : ∃ σ', f_X6_widthBy 48 (nI f) σ = some (oW (WD (RT Φ L H)), σ') ∧ Kp σ σ' ∧ CS σ' φ f Φ V S C ∧ BxM σ' L H := by
  obtain ⟨σ', e1, e2⟩ := widthBy_ok hf hw h.1 h.2.2.1 hb
  have k : Kp σ σ' := e2.kp (by decide)
  exact ⟨σ', e1, k, h.kp k, hb.mf e2 (by decide) (by decide)⟩
theorem m_widthNow {σ : HS} {φ f : Nat} {Φ : FM} {V S C : Nat → Int32} (hf : f < 7) (hw : WF Φ) (h : CS σ φ f Φ V S C) : ∃ σ', f_X6_widthNow 48 (nI f) σ = some (oW (WD (RT Φ (LO V S) (HI V S))), σ') ∧ Kp σ σ' ∧ CS σ' φ f Φ V S C := by
  obtain ⟨σ', e1, e2⟩ := widthNow_ok hf hw h.1 h.2.2.1 h.vals h.srcM
  rw [cs_bL h, cs_bH h] at e1
  have k : Kp σ σ' := e2.kp (by decide)
  exact ⟨σ', e1, k, h.kp k⟩
theorem m_lo {σ : HS} {φ f : Nat} {Φ : FM} {V S C : Nat → Int32} (hf : f < 7) (hw : WF Φ) (h : CS σ φ f Φ V S C) : f_X6_lowOf 48 (nI f) σ = some (hB σ 64 (mN Φ - 1), σ) := mLow_ok h.1 hf h.2.2.1.1 hw
theorem m_hi {σ : HS} {φ f : Nat} {Φ : FM} {V S C : Nat → Int32} (hf : f < 7) (hw : WF Φ) (h : CS σ φ f Φ V S C) : f_X6_highOf 48 (nI f) σ = some (hB σ 65 (mN Φ - 1), σ) := mHigh_ok h.1 hf h.2.2.1.1 hw
theorem upI_le {L H : Nat → Int} (h : ∀ s, L s ≤ H s) (s : Nat) {a b : Int} (hab : a ≤ b) : ∀ i, upI L s a i ≤ upI H s b i := fun i => by
  unfold upI
  by_cases e : i = s
  · rw [if_pos e, if_pos e]; exact hab
  · rw [if_neg e, if_neg e]; exact h i
theorem c_stand {σ : HS} (t : Typ σ) {L H : Nat → Int} (hb : Bx σ L H) {s : Nat} (hs : s < 6) {a b : Int32} (hab : a.toInt ≤ b.toInt) : f_X4_stand 24 (nI s) a b σ = some ((), sA (sA σ 25 s a) 26 s b) ∧ Bx (sA (sA σ 25 s a) 26 s b) (upI L s a.toInt) (upI H s b.toInt) ∧ Fr [25, 26] σ (sA (sA σ 25 s a) 26 s b) := by
  refine ⟨stand_ok t hs a b, ⟨upI_le hb.1 s hab, fun i hi => ?_⟩, (Fr_sA (by simp)).seq (Fr_sA (by simp))⟩
  obtain ⟨e1, e2⟩ := hb.2 i hi
  unfold upI
  by_cases e : i = s
  · subst e; simp (decide := true) only [hA_sA, if_true, if_false, and_self, and_true, false_and]
  · simp (decide := true) only [hA_sA, e, if_true, if_false, and_false, e1, e2, and_self]
theorem m_lays {σ : HS} (t : Typ σ) {L H : Nat → Int} (hb : BxM σ L H) {s : Nat} (hs : s < 6) {a b : Int32} (hab : a.toInt ≤ b.toInt) : f_X6_lays 48 (nI s) a b σ = some ((), sA (sA σ 62 s a) 63 s b) ∧ BxM (sA (sA σ 62 s a) 63 s b) (upI L s a.toInt) (upI H s b.toInt) ∧ Fr [62, 63] σ (sA (sA σ 62 s a) 63 s b) := by
  refine ⟨lays_ok t hs a b, ⟨upI_le hb.1 s hab, fun i hi => ?_⟩, (Fr_sA (by simp)).seq (Fr_sA (by simp))⟩
  obtain ⟨e1, e2⟩ := hb.2 i hi
  unfold upI
  by_cases e : i = s
  · subst e; simp (decide := true) only [hA_sA, if_true, if_false, and_self, and_true, false_and]
  · simp (decide := true) only [hA_sA, e, if_true, if_false, and_false, e1, e2, and_self]
theorem m_laysPoint {σ : HS} (t : Typ σ) {L H : Nat → Int} (hb : BxM σ L H) {s : Nat} (hs : s < 6) {a : Int32} : f_X6_laysPoint 48 (nI s) a σ = some ((), sA (sA σ 62 s a) 63 s a) ∧ BxM (sA (sA σ 62 s a) 63 s a) (upI L s a.toInt) (upI H s a.toInt) ∧ Fr [62, 63] σ (sA (sA σ 62 s a) 63 s a) := by
  obtain ⟨e1, e2, e3⟩ := m_lays t hb hs (a := a) (b := a) (Int.le_refl _)
  refine ⟨?_, e2, e3⟩
  unfold f_X6_laysPoint
  simp only [chk_p, lt_p, bd_p, bc_p, oc_n, oc_s, and_self, and_true, true_and, if_true, if_false, isO_sA', isO_sB', isO_rA', hlen_sA, hlen_sB, hlen_rA, hR_sA, hR_sB, hR_rA, Typ_sA', Typ_sB', Typ_rA', O48, r48_0, r48_1, r48_2, r48_3, r48_4, r48_5, r48_6, r48_8, r48_9, r48_10, r48_11, r48_12, r48_15, r48_21, r48_22, r48_23, r48_24, r48_25, r48_28, r48_30, r48_31, r48_32, r48_35, r48_37, r48_39, r48_40, r48_41, t, e1]
theorem cs_val {σ : HS} {φ f : Nat} {Φ : FM} {V S C : Nat → Int32} (h : CS σ φ f Φ V S C) {s : Nat} (hs : s < 6) : hA σ 2 s = V s ∧ hA σ 3 s = S s ∧ hA σ 4 s = C s ∧ hA σ 49 (3 * s) = V s ∧ hA σ 49 (3 * s + 1) = S s ∧ hA σ 49 (3 * s + 2) = C s ∧ (-99 ≤ (V s).toInt ∧ (V s).toInt ≤ 99) ∧ (0 ≤ (S s).toInt ∧ (S s).toInt ≤ 20) ∧ (0 ≤ (C s).toInt ∧ (C s).toInt ≤ 99) ∧ (V s - S s).toInt = LO V S s ∧ (V s + S s).toInt = HI V S s := by
  obtain ⟨⟨a1, a2, a3⟩, ⟨b1, b2, b3⟩, ⟨r1, r2⟩, ⟨r3, r4⟩, r5, r6⟩ := h.2.2.2 s hs
  refine ⟨a1, a2, a3, b1, b2, b3, ⟨r1, r2⟩, ⟨r3, r4⟩, ⟨r5, r6⟩, ?_, ?_⟩
  · unfold LO; rw [if_pos hs, i_sub (by omega) (by omega) (by omega) (by omega)]
  · unfold HI; rw [if_pos hs, i_add (by omega) (by omega) (by omega) (by omega)]
theorem c_low {σ : HS} {φ f : Nat} {Φ : FM} {V S C : Nat → Int32} (h : CS σ φ f Φ V S C) {s : Nat} (hs : s < 6) : f_X2_lowOf 1 (nI s) σ = some (V s - S s, σ) := by
  have v := cs_val h hs
  have e := lowOf_ok h.1 hs
  rw [v.1, v.2.1] at e; exact e
theorem c_high {σ : HS} {φ f : Nat} {Φ : FM} {V S C : Nat → Int32} (h : CS σ φ f Φ V S C) {s : Nat} (hs : s < 6) : f_X2_highOf 1 (nI s) σ = some (V s + S s, σ) := by
  have v := cs_val h hs
  have e := highOf_ok h.1 hs
  rw [v.1, v.2.1] at e; exact e
theorem m_val {σ : HS} {φ f : Nat} {Φ : FM} {V S C : Nat → Int32} (h : CS σ φ f Φ V S C) {s : Nat} (hs : s < 6) : f_X6_valueOf 48 (nI s) σ = some (V s, σ) := by
  have e := valueOf_ok h.1 hs
  rw [(cs_val h hs).2.2.2.1] at e; exact e
theorem m_span {σ : HS} {φ f : Nat} {Φ : FM} {V S C : Nat → Int32} (h : CS σ φ f Φ V S C) {s : Nat} (hs : s < 6) : f_X6_spanOf 48 (nI s) σ = some (S s, σ) := by
  have e := spanOf_ok h.1 hs
  rw [(cs_val h hs).2.2.2.2.1] at e; exact e
theorem LOHI {σ : HS} {φ f : Nat} {Φ : FM} {V S C : Nat → Int32} (h : CS σ φ f Φ V S C) (s : Nat) : LO V S s ≤ HI V S s := by
  by_cases hs : s < 6
  · have v := (cs_val h hs).2.2.2.2.2.2.2.1
    unfold LO HI; rw [if_pos hs, if_pos hs]; omega
  · unfold LO HI; rw [if_neg hs, if_neg hs]; exact Int.le_refl _
/-- a call's formula, or none -/
theorem start {σ : HS} {V S C : Nat → Int32} {n : Nat} {FS : Nat → FM} (I : INV σ V S C n FS) (a : Int32) :
    (∃ k φ, k < 7 ∧ a = nI k ∧ f_X5_formulaOf 0 (nI k) σ = some (some φ, σ) ∧ Good (FS k) ∧ CS σ φ k (FS k) V S C ∧ XI σ φ (FS k) ∧ ∀ σ', Typ σ' → hA σ' 48 7 = hA σ 48 7 → f_X6_isFormula 48 (nI k) σ' = some (1, σ')) ∨ (f_X5_formulaOf 0 a σ = some (none, σ) ∧ f_X6_isFormula 48 a σ = some (0, σ)) := by
  have t := I.1
  obtain ⟨hn6, hg, e1, e2, ex, em, er⟩ := I.2.2.1
  rcases argC a n (by omega) with ⟨k, hk, rfl⟩ | ha
  · obtain ⟨φ, hφ, hx, hxi⟩ := ex k hk
    have ef := formulaOf_so t hn6 e1 hk
    rw [hφ] at ef
    refine Or.inl ⟨k, φ, by omega, rfl, ef, hg k hk, ⟨t, hx, em k hk, I.2.1⟩, hxi, fun σ' t' h7 => ?_⟩
    rw [isFormula_ok t' hn6 (h7.trans e2), if_pos (inF hk hn6)]
  · refine Or.inr ⟨formulaOf_no t hn6 e1 ha, ?_⟩
    rw [isFormula_ok t hn6 e2, if_neg (by omega)]
theorem rng1 (w : Int32) : (∃ e, e < 2 ∧ w = nI e ∧ (nI e < 0) = False ∧ (nI e ≤ 1) = True ∧ ∀ σ, f_X6_isIn (nI e).toInt64 0 1 σ = some (1, σ)) ∨ ((∀ σ, f_X6_isIn w.toInt64 0 1 σ = some (0, σ)) ∧ ((w < 0) = True ∨ ((w < 0) = False ∧ (w ≤ 1) = False))) := by
  have z1 : (1 : Int32).toInt = 1 := rfl
  rcases argC w 2 (by decide) with ⟨e, he, rfl⟩ | hw
  · refine Or.inl ⟨e, he, rfl, ?_, ?_, fun σ => ?_⟩
    · rw [i_lt, nT (by omega), z320]; exact eq_false (by omega)
    · rw [i_le, nT (by omega), z1]; exact eq_true (by omega)
    · rw [isIn_c (nI e) 0 1 0 1 rfl rfl σ, nT (by omega), if_pos (by omega)]
  · refine Or.inr ⟨fun σ => by rw [isIn_c w 0 1 0 1 rfl rfl σ, if_neg (by omega)], ?_⟩
    rw [i_lt, i_le, z320, z1]
    by_cases c : w.toInt < 0
    · exact Or.inl (eq_true c)
    · exact Or.inr ⟨eq_false c, eq_false (by omega)⟩
theorem rng2 (w : Int32) : (∃ e, e < 3 ∧ w = nI e ∧ (nI e < 0) = False ∧ (nI e ≤ 2) = True ∧ ∀ σ, f_X6_isIn (nI e).toInt64 0 2 σ = some (1, σ)) ∨ ((∀ σ, f_X6_isIn w.toInt64 0 2 σ = some (0, σ)) ∧ ((w < 0) = True ∨ ((w < 0) = False ∧ (w ≤ 2) = False))) := by
  have z1 : (2 : Int32).toInt = 2 := rfl
  rcases argC w 3 (by decide) with ⟨e, he, rfl⟩ | hw
  · refine Or.inl ⟨e, he, rfl, ?_, ?_, fun σ => ?_⟩
    · rw [i_lt, nT (by omega), z320]; exact eq_false (by omega)
    · rw [i_le, nT (by omega), z1]; exact eq_true (by omega)
    · rw [isIn_c (nI e) 0 2 0 2 rfl rfl σ, nT (by omega), if_pos (by omega)]
  · refine Or.inr ⟨fun σ => by rw [isIn_c w 0 2 0 2 rfl rfl σ, if_neg (by omega)], ?_⟩
    rw [i_lt, i_le, z320, z1]
    by_cases c : w.toInt < 0
    · exact Or.inl (eq_true c)
    · exact Or.inr ⟨eq_false c, eq_false (by omega)⟩
theorem srcC (w : Int32) : (∃ s, s < 6 ∧ w = nI s ∧ (∀ σ, f_X5_isSource (nI s) σ = some (1, σ)) ∧ ∀ σ, f_X6_isSource (nI s) σ = some (1, σ)) ∨ ((∀ σ, f_X5_isSource w σ = some (0, σ)) ∧ ∀ σ, f_X6_isSource w σ = some (0, σ)) := by
  rcases argC w 6 (by decide) with ⟨s, hs, rfl⟩ | hw
  · exact Or.inl ⟨s, hs, rfl, fun σ => by rw [isSource_ok, yif (inS hs)], fun σ => by rw [mIsSource_ok, yif (inS hs)]⟩
  · exact Or.inr ⟨fun σ => by rw [isSource_ok, if_neg (by omega)], fun σ => by rw [mIsSource_ok, if_neg (by omega)]⟩
/-- what holds of a span that is not over -/
theorem SP_nar {Φ : FM} {L H L' H' : Nat → Int} (h : ∀ s, L s ≤ L' s ∧ L' s ≤ H' s ∧ H' s ≤ H s) (i : Nat) : Nar (SP Φ L H i) (SP Φ L' H' i) := SPI_nar Φ h (i + 1) i
theorem all_some {Φ : FM} (hg : Good Φ) {L H : Nat → Int} (h : RT Φ L H ≠ none) : ∀ d i, i + d + 1 = mN Φ → SP Φ L H i ≠ none := by
  obtain ⟨⟨w1, w60, wr⟩, hr, -⟩ := hg
  intro d
  induction d using Nat.strongRecOn with
  | _ d ih =>
    intro i hi
    by_cases d0 : d = 0
    · subst d0; rw [show i = mN Φ - 1 by omega]; exact h
    · obtain ⟨j, hj, hjn, hc⟩ := hr i (by omega)
      have e := ih (mN Φ - 1 - j) (by omega) j (by omega)
      rcases hc with ⟨k2, hu⟩ | ⟨k3, hv⟩
      · by_cases k2' : mK Φ j = 2
        · rw [SP_2 wr hjn k2', hu] at e
          intro z; rw [z] at e; exact e rfl
        · rw [SP_3 wr hjn (by omega), hu] at e
          intro z; rw [z] at e; exact e rfl
      · rw [SP_3 wr hjn k3, hv] at e
        intro z; rw [z] at e
        apply e
        cases SP Φ L H (mU Φ j) <;> rfl
theorem th_over {σ : HS} {x : Option (Int × Int)} (h : Th σ x) : hA σ 24 2 = if x.isNone = true then 1 else 0 := by
  cases x with
  | none => exact h
  | some p => exact h.1
theorem Kp.k7 {σ σ' : HS} (h : Kp σ σ') : hA σ' 48 7 = hA σ 48 7 := h.2.2.2.2.1 7 (by decide)
end
section
/-! span: the way in the reference; the call -/
theorem Kq.seq {P Q T : Nat → Bool} {σ σ' σ'' : HS} (h : Kq P Q T σ σ') (g : Kq P Q T σ' σ'') : Kq P Q T σ σ'' := by
  obtain ⟨a1, a2, a3, a4, a5, a6, a7⟩ := h
  obtain ⟨b1, b2, b3, b4, b5, b6, b7⟩ := g
  refine ⟨Nat.le_trans a1 b1, fun j hj => ?_, fun j hj => ?_, fun j hj hp => ?_, fun k hk => (b5 k hk).trans (a5 k hk), a6, a7⟩
  · obtain ⟨p, q⟩ := a2 j hj
    obtain ⟨r, t⟩ := b2 j (Nat.lt_of_lt_of_le hj a1)
    exact ⟨r.trans p, t.trans q⟩
  · refine (b3 j ?_).trans (a3 j hj)
    rcases hj with z | z
    · exact Or.inl z
    · exact Or.inr ⟨Nat.lt_of_lt_of_le z.1 a1, (a2 j z.1).1.trans z.2⟩
  · obtain ⟨p, q⟩ := a4 j hj hp
    obtain ⟨r, t⟩ := b4 j (Nat.lt_of_lt_of_le hj a1) hp
    exact ⟨r.trans p, t.trans q⟩
theorem Kq.mono {P Q T P' Q' : Nat → Bool} {σ σ' : HS} (h : Kq P Q T σ σ') (hp : ∀ j, P' j = false → P j = false) (hq : ∀ k, Q' k = false → Q k = false) (h76 : ∀ j, 76 ≤ j → P' j = false) : Kq P' Q' T σ σ' := ⟨h.1, h.2.1, h.2.2.1, fun j hj hs => h.2.2.2.1 j hj (hp j hs), fun k hk => h.2.2.2.2.1 k (hq k hk), h76, h.2.2.2.2.2.2⟩
def wsc (j : Nat) : Bool := (((scj j || j == 48) || j == 0) || j == 47) || j == 67
def wq (k : Nat) : Bool := (decide (17 ≤ k) && decide (k ≤ 20)) || k == 29
def Kw (σ σ' : HS) : Prop := Kq wsc wq (fun _ => false) σ σ'
theorem wsc_76 {j : Nat} (hj : 76 ≤ j) : wsc j = false := by
  have h := scj_76 hj
  have e1 : (j == 0) = false := by simp; omega
  have e2 : (j == 47) = false := by simp; omega
  have e3 : (j == 67) = false := by simp; omega
  unfold wsc; rw [h, e1, e2, e3]; rfl
theorem Kp.kw {σ σ' : HS} (h : Kp σ σ') : Kw σ σ' := Kq.mono h (fun j hj => by
  unfold wsc at hj; simp only [Bool.or_eq_false_iff] at hj ⊢; exact hj.1.1.1) (fun k hk => by
  unfold wq at hk; simp only [Bool.or_eq_false_iff] at hk; exact hk.1) (fun j hj => wsc_76 hj)
theorem Fr.kw {S : List Nat} {σ σ' : HS} (h : Fr S σ σ') (hS : S.all wsc = true) (h48 : ∀ k, wq k = false → hA σ' 48 k = hA σ 48 k) : Kw σ σ' := ⟨Nat.le_of_eq h.1.symm, fun j _ => ⟨h.ty j, h.len j⟩, fun j _ => h.Rr j, fun j _ hj => h.2.2.2.2 j (fun z => by
  have := List.all_eq_true.mp hS j z
  rw [this] at hj; cases hj), h48, fun j hj => wsc_76 hj, fun j _ hj => by cases hj⟩
theorem way_inv {σ σ' : HS} {V S C : Nat → Int32} {n : Nat} {FS : Nat → FM} (I : INV σ V S C n FS) (q : Kw σ σ') (e2 : hA σ' 0 2 = hA σ 0 2) (hw : WayI σ') : INV σ' V S C n FS := by
  obtain ⟨t, h1, h2, ⟨t0, B, h3⟩, ⟨p, PS, PW, PV, h4⟩, h5, h6, h7⟩ := I
  exact ⟨Kq.typ q t, Kq.src q t (by decide) (by decide) (by decide) (by decide) (by decide) (by decide) h1, Kq.fm q t (by decide) (by decide) (by decide) (by decide) (Kq.A q (Nat.lt_of_lt_of_le (by decide) t.1) (by decide) 4) (by decide) (by decide) (by decide) (by decide) (by decide) h2, ⟨t0, B, Kq.tap q t (by decide) (by decide) (by decide) (by decide) h3⟩, ⟨p, PS, PW, PV, Kq.pl q t (by decide) (by decide) (by decide) (by decide) (Kq.A q (Nat.lt_of_lt_of_le (by decide) t.1) (by decide) 8) (by decide) (by decide) (by decide) (by decide) h4⟩, Kq.lst q t (by decide) (by decide) (lst4 (by decide)) (by decide) h5, hw, Kq.img q t e2 (by decide) (by decide) (by decide) (by decide) (imgrows (by decide)) h7⟩
theorem nI_m (n : Nat) : nI (n + 1) + (-1 : Int32) = nI n := by
  rw [show (-1 : Int32) = -(1 : Int32) from rfl, ← Int32.sub_eq_add_neg]; exact nI_pred n
theorem nle0 {j : Nat} (h : 0 < j) (h2 : j < 1000) : (nI j ≤ 0) = False := nle (a := j) (b := 0) h h2
theorem gw_shift (K8 : Nat → Int32 → Int32 → Int32 → HS → Option (Unit × HS)) (f c i x4 : Int32) : ∀ (j : Nat) (σ : HS), Typ σ → j < 60 → ∀ nf, j < nf → ∃ σ' nf', lp_X6_goesWay_23 K8 nf 48 f c i x4 (nI j) σ = lp_X6_goesWay_23_b K8 (lp_X6_goesWay_23 K8 nf') 48 f c i x4 (nI 0) σ' ∧ Fr [67] σ σ' ∧ ∀ k, hA σ' 67 k = if 1 ≤ k ∧ k ≤ j then hA σ 67 (k - 1) else hA σ 67 k := by
  intro j
  induction j with
  | zero =>
    intro σ t _ nf hnf
    obtain ⟨nf, rfl⟩ : ∃ k, nf = k + 1 := ⟨nf - 1, by omega⟩
    exact ⟨σ, nf, rfl, Fr.rf, fun k => by rw [if_neg (by omega)]⟩
  | succ j ih =>
    intro σ t hj nf hnf
    obtain ⟨nf, rfl⟩ : ∃ k, nf = k + 1 := ⟨nf - 1, by omega⟩
    have fr : Fr [67] σ (sA σ 67 (j + 1) (hA σ 67 j)) := Fr_sA (by simp)
    obtain ⟨σ', nf', e1, e2, e3⟩ := ih (sA σ 67 (j + 1) (hA σ 67 j)) t (by omega) nf (by omega)
    refine ⟨σ', nf', ?_, fr.seq e2, fun k => ?_⟩
    · rw [← e1]
      show lp_X6_goesWay_23_b K8 (lp_X6_goesWay_23 K8 nf) 48 f c i x4 (nI (j + 1)) σ = _
      unfold lp_X6_goesWay_23_b
      have le := nle0 (j := j + 1) (by omega) (by omega)
      have je := inbE (i := j) (n := 60) (by omega) (by omega)
      have jc := cl1000 (i := j) (by omega)
      have je1 := inbE (i := j + 1) (n := 60) (by omega) (by omega)
      have jc1 := cl1000 (i := j + 1) (by omega)
      simp only [le, if_false, chk_p, lt_p, bd_p, bc_p, oc_n, oc_s, and_self, and_true, true_and, if_true, if_false, isO_sA', isO_sB', isO_rA', hlen_sA, hlen_sB, hlen_rA, hR_sA, hR_sB, hR_rA, Typ_sA', Typ_sB', Typ_rA', O48, r48_0, r48_1, r48_2, r48_3, r48_4, r48_5, r48_6, r48_8, r48_9, r48_10, r48_11, r48_12, r48_15, r48_21, r48_22, r48_23, r48_24, r48_25, r48_28, r48_30, r48_31, r48_32, r48_35, r48_37, r48_39, r48_40, r48_41, O67, l67, t, nI_pred, nI_m, je, jc, je1, jc1]
    · rw [e3]
      simp only [hA_sA, true_and]
      by_cases c1 : 1 ≤ k ∧ k ≤ j
      · rw [if_pos c1, if_neg (by omega), if_pos (by omega)]
      · rw [if_neg c1]
        by_cases c2 : k = j + 1
        · rw [if_pos c2, if_pos (by omega), c2]; rfl
        · rw [if_neg c2, if_neg (by omega)]
theorem gw_exit (K8 : Nat → Int32 → Int32 → Int32 → HS → Option (Unit × HS)) (K23 : Nat → Int32 → Int32 → Int32 → Int32 → Int32 → HS → Option (Unit × HS)) {σ : HS} (t : Typ σ) {f : Nat} {Φ : FM} (hf : f < 7) (hm : MF σ f Φ) (hw : WF Φ) {L H : Nat → Int} (hr : RepA σ 63 Φ L H) (c : Nat) {i : Nat} (hi : i < mN Φ) (k : 2 ≤ mK Φ i) (x3 : Int32) :
    lp_X6_goesWay_23_b K8 K23 48 (nI f) (nI c) x3 (nI (60 * f + i)) (nI 0) σ = K8 48 (nI f) (nI (c + 1)) (nxi (nxt Φ (ovr Φ L H) i)) (sA σ 67 0 (nI (mP Φ i))) := by
  obtain ⟨w0, w60, wr⟩ := hw
  obtain ⟨k5, ku0, ku1, ku, kv, kv0, kp⟩ := wr i hi
  obtain ⟨hn, hc⟩ := hm
  obtain ⟨c1, c2, c3, c4⟩ := hc i hi
  have pe := inbE (i := 60 * f + i) (n := 420) (by omega) (by omega)
  have cp := cl1000 (i := 60 * f + i) (by omega)
  have hu := ku k
  have ue := inbE (i := mU Φ i) (n := 60) (by omega) (by omega)
  have cu := cl1000 (i := mU Φ i) (by omega)
  have z0 : (nI 0 ≤ 0) = True := eq_true (by decide)
  have iz : inb (0 : Int32) 60 = True := inbE (i := 0) (n := 60) (by omega) (by omega)
  have cz : (0 : Int32).toNatClampNeg = 0 := rfl
  have ou : hA σ 66 (mU Φ i) = _ := rep_o (hr (mU Φ i) (by omega))
  have lk1 : (nI (mK Φ i) ≤ 1) = False := nle (a := mK Φ i) (b := 1) (by omega) (by omega)
  have lk2 : (nI (mK Φ i) ≤ 2) = (mK Φ i ≤ 2) := propext (nI_leI (a := mK Φ i) (b := 2) (by omega) (by omega))
  unfold lp_X6_goesWay_23_b
  simp (decide := true) only [chk_p, lt_p, bd_p, bc_p, oc_n, oc_s, and_self, and_true, true_and, if_true, if_false, isO_sA', isO_sB', isO_rA', hlen_sA, hlen_sB, hlen_rA, hR_sA, hR_sB, hR_rA, Typ_sA', Typ_sB', Typ_rA', O48, r48_0, r48_1, r48_2, r48_3, r48_4, r48_5, r48_6, r48_8, r48_9, r48_10, r48_11, r48_12, r48_15, r48_21, r48_22, r48_23, r48_24, r48_25, r48_28, r48_30, r48_31, r48_32, r48_35, r48_37, r48_39, r48_40, r48_41, O51, l51, O52, l52, O53, l53, O54, l54, O66, l66, O67, l67, t, z0, pe, cp, c1, c2, c3, c4, iz, cz, ue, cu, hA_sA, ou, nI_s, if_false, false_and, lk1, lk2]
  unfold nxt
  by_cases o1 : (SP Φ L H (mU Φ i)).isNone = true
  · simp (decide := true) only [o1, if_true, if_false, show ovr Φ L H (mU Φ i) = true from o1]; rfl
  · simp (decide := true) only [o1, if_true, if_false, show ¬ (ovr Φ L H (mU Φ i) = true) from o1]
    by_cases k2 : mK Φ i ≤ 2
    · simp only [k2, if_true]
      rw [if_neg (by omega)]; rfl
    · have hv := kv (by omega)
      have ve := inbE (i := mV Φ i) (n := 60) (by omega) (by omega)
      have cv := cl1000 (i := mV Φ i) (by omega)
      have ov : hA σ 66 (mV Φ i) = _ := rep_o (hr (mV Φ i) (by omega))
      simp (decide := true) only [k2, if_false, chk_p, lt_p, bd_p, bc_p, oc_n, oc_s, and_self, and_true, true_and, if_true, if_false, isO_sA', isO_sB', isO_rA', hlen_sA, hlen_sB, hlen_rA, hR_sA, hR_sB, hR_rA, Typ_sA', Typ_sB', Typ_rA', O48, r48_0, r48_1, r48_2, r48_3, r48_4, r48_5, r48_6, r48_8, r48_9, r48_10, r48_11, r48_12, r48_15, r48_21, r48_22, r48_23, r48_24, r48_25, r48_28, r48_30, r48_31, r48_32, r48_35, r48_37, r48_39, r48_40, r48_41, O66, l66, t, ve, cv, hA_sA, ov, false_and]
      by_cases o2 : (SP Φ L H (mV Φ i)).isNone = true
      · simp (decide := true) only [o2, if_true, if_false]
        rw [if_pos ⟨by omega, o2⟩]; rfl
      · simp (decide := true) only [o2, if_true, if_false]
        rw [if_neg (fun z => o2 z.2)]; rfl
theorem gw_lp {f : Nat} {Φ : FM} (hf : f < 7) (hw : WF Φ) {L H : Nat → Int} : ∀ (n i c : Nat) (σ : HS) (P : Nat → Nat), i < n → i < mN Φ → ovr Φ L H i = true → c + i < 60 → Typ σ → MF σ f Φ → RepA σ 63 Φ L H → (∀ k, k < c → hA σ 67 k = nI (P (c - 1 - k))) → ∀ nf, n < nf →
    ∃ σ', lp_X6_goesWay_8 nf 48 (nI f) (nI c) (nI i) σ = some ((), σ') ∧ Fr [48, 67] σ σ' ∧ (∀ k, k ≠ 29 → hA σ' 48 k = hA σ 48 k) ∧ hA σ' 48 29 = nI (c + (wl Φ (ovr Φ L H) n i).length) ∧ ∀ k, k < c + (wl Φ (ovr Φ L H) n i).length → hA σ' 67 k = nI (if c + (wl Φ (ovr Φ L H) n i).length - 1 - k < c then P (c + (wl Φ (ovr Φ L H) n i).length - 1 - k) else (wl Φ (ovr Φ L H) n i).getD (c + (wl Φ (ovr Φ L H) n i).length - 1 - k - c) 0) := by
  intro n
  induction n with
  | zero => intro i c σ P h; omega
  | succ n ih =>
    intro i c σ P hin him ho hci t hm hr hP nf hnf
    obtain ⟨nf, rfl⟩ : ∃ k, nf = k + 1 := ⟨nf - 1, by omega⟩
    have k2 := ovr_k ho
    have w60 := hw.2.1
    obtain ⟨σ1, nf1, s1, s2, s3⟩ := gw_shift (lp_X6_goesWay_8 nf) (nI f) (nI c) (nI i) (nI (60 * f + i)) c σ t (by omega) 1000 (by omega)
    have t1 := s2.typ t
    have m1 : MF σ1 f Φ := by
      refine ⟨(s2.A (by decide) _).trans hm.1, fun j hj => ?_⟩
      obtain ⟨a, b, c, d⟩ := hm.2 j hj
      exact ⟨(s2.A (by decide) _).trans a, (s2.A (by decide) _).trans b, (s2.A (by decide) _).trans c, (s2.A (by decide) _).trans d⟩
    have r1 : RepA σ1 63 Φ L H := fun j hj => Rep_fr (hr j hj) s2 (by decide) (by decide) (by decide)
    have ex := gw_exit (lp_X6_goesWay_8 nf) (lp_X6_goesWay_23 (lp_X6_goesWay_8 nf) nf1) t1 hf m1 hw r1 c him k2 (nI i)
    have fr : Fr [67] σ (sA σ1 67 0 (nI (mP Φ i))) := s2.seq (Fr_sA (by simp))
    have ne : (nI i = -1) = False := nm1 (by omega)
    have step : lp_X6_goesWay_8 (nf + 1) 48 (nI f) (nI c) (nI i) σ = lp_X6_goesWay_8 nf 48 (nI f) (nI (c + 1)) (nxi (nxt Φ (ovr Φ L H) i)) (sA σ1 67 0 (nI (mP Φ i))) := by
      show lp_X6_goesWay_8_b (lp_X6_goesWay_8 nf) 48 (nI f) (nI c) (nI i) σ = _
      unfold lp_X6_goesWay_8_b
      simp only [ne, if_false, at_ok, bc_p]
      exact s1.trans ex
    have v67 : ∀ k, k < c + 1 → hA (sA σ1 67 0 (nI (mP Φ i))) 67 k = nI (if c - k < c then P (c - k) else mP Φ i) := fun k hk => by
      rw [hA_sA]
      by_cases k0 : k = 0
      · rw [if_pos ⟨rfl, k0⟩, if_neg (by omega)]
      · rw [if_neg (by omega), s3, if_pos (by omega), hP (k - 1) (by omega), if_pos (by omega)]
        congr 2; omega
    cases hx : nxt Φ (ovr Φ L H) i with
    | none =>
      have ew : wl Φ (ovr Φ L H) (n + 1) i = [mP Φ i] := by unfold wl; rw [hx]
      rw [ew]
      rw [hx] at step
      refine ⟨sA (sA σ1 67 0 (nI (mP Φ i))) 48 29 (nI (c + 1)), step.trans ?_, (fr.mono (by simp)).seq (Fr_sA (by simp)), fun k hk => ?_, ?_, fun k hk => ?_⟩
      · obtain ⟨nf, rfl⟩ : ∃ k, nf = k + 1 := ⟨nf - 1, by omega⟩
        show lp_X6_goesWay_8_b (lp_X6_goesWay_8 nf) 48 (nI f) (nI (c + 1)) (-1) _ = _
        unfold lp_X6_goesWay_8_b
        simp only [chk_p, lt_p, bd_p, bc_p, oc_n, oc_s, and_self, and_true, true_and, if_true, if_false, isO_sA', isO_sB', isO_rA', hlen_sA, hlen_sB, hlen_rA, hR_sA, hR_sB, hR_rA, Typ_sA', Typ_sB', Typ_rA', O48, r48_0, r48_1, r48_2, r48_3, r48_4, r48_5, r48_6, r48_8, r48_9, r48_10, r48_11, r48_12, r48_15, r48_21, r48_22, r48_23, r48_24, r48_25, r48_28, r48_30, r48_31, r48_32, r48_35, r48_37, r48_39, r48_40, r48_41, t1]
      · rw [hA_sA, if_neg (by omega)]; exact fr.A (by decide) k
      · rw [hA_sA, if_pos ⟨rfl, rfl⟩]; rfl
      · rw [hA_sA, if_neg (by omega), v67 k hk]
        show nI (if c - k < c then P (c - k) else mP Φ i) = nI (if c + 1 - 1 - k < c then P (c + 1 - 1 - k) else [mP Φ i].getD (c + 1 - 1 - k - c) 0)
        rw [show c + 1 - 1 - k = c - k by omega]
        by_cases z : c - k < c
        · rw [if_pos z, if_pos z]
        · rw [if_neg z, if_neg z, show c - k - c = 0 by omega]; rfl
    | some j =>
      obtain ⟨hj, hoj⟩ := nxt_lt hw.2.2 him k2 hx
      rw [hx] at step
      have m2 : MF (sA σ1 67 0 (nI (mP Φ i))) f Φ := m1
      have r2 : RepA (sA σ1 67 0 (nI (mP Φ i))) 63 Φ L H := fun j hj => Rep_fr (r1 j hj) (Fr_sA (S := [67]) (by simp)) (by decide) (by decide) (by decide)
      obtain ⟨σ', g1, g2, g3, g4, g5⟩ := ih j (c + 1) (sA σ1 67 0 (nI (mP Φ i))) (fun q => if q < c then P q else mP Φ i) (by omega) (by omega) hoj (by omega) t1 m2 r2 (fun k hk => by
        rw [v67 k hk, show c + 1 - 1 - k = c - k by omega]) nf (by omega)
      have ew : wl Φ (ovr Φ L H) (n + 1) i = mP Φ i :: wl Φ (ovr Φ L H) n j := by
        show mP Φ i :: (match nxt Φ (ovr Φ L H) i with | none => [] | some j => wl Φ (ovr Φ L H) n j) = _
        rw [hx]
      rw [ew, List.length_cons]
      refine ⟨σ', step.trans g1, (fr.mono (by simp)).seq g2, fun k hk => (g3 k hk).trans (fr.A (by decide) k), by rw [g4]; congr 1; omega, fun k hk => ?_⟩
      rw [g5 k (by omega)]
      obtain ⟨m, hm'⟩ : ∃ m, m = (wl Φ (ovr Φ L H) n j).length := ⟨_, rfl⟩
      rw [← hm'] at hk ⊢
      rw [show c + 1 + m - 1 - k = c + (m + 1) - 1 - k by omega]
      obtain ⟨q, hq⟩ : ∃ q, q = c + (m + 1) - 1 - k := ⟨_, rfl⟩
      rw [← hq]
      by_cases z : q < c
      · rw [if_pos (by omega), if_pos z, if_pos z]
      · rw [if_neg z]
        by_cases z2 : q = c
        · rw [if_pos (by omega), if_neg z, z2, Nat.sub_self]; rfl
        · obtain ⟨r, hr'⟩ : ∃ r, q - c = r + 1 := ⟨q - c - 1, by omega⟩
          rw [if_neg (show ¬ q < c + 1 by omega), if_neg z, hr', show q - (c + 1) = r by omega]; rfl
theorem CS.kw {σ σ' : HS} {φ f : Nat} {Φ : FM} {V S C : Nat → Int32} (h : CS σ φ f Φ V S C) (hk : Kw σ σ') : CS σ' φ f Φ V S C := by
  obtain ⟨t, h1, h2, h3⟩ := h
  have e : ∀ j, j < 76 → wsc j = false → ∀ k, hA σ' j k = hA σ j k := fun j hj hs k => Kq.A hk (Nat.lt_of_lt_of_le hj t.1) hs k
  refine ⟨Kq.typ hk t, Kq.xf hk h1, ⟨(e 55 (by decide) (by decide) _).trans h2.1, fun i hi => ?_⟩, Kq.src hk t (by decide) (by decide) (by decide) (by decide) (by decide) (by decide) h3⟩
  obtain ⟨a, b, c, d⟩ := h2.2 i hi
  exact ⟨(e 51 (by decide) (by decide) _).trans a, (e 52 (by decide) (by decide) _).trans b, (e 53 (by decide) (by decide) _).trans c, (e 54 (by decide) (by decide) _).trans d⟩
theorem op_span (a w : Int32) : OpOK (f_X5_span 0 a w) (f_X6_span 48 a w) := by
  intro σ V S C n FS I
  have t := I.1
  rcases start I a with ⟨k, φ, hk, rfl, ef, hg, hc, -, em⟩ | ⟨ef, em⟩
  · rcases rng2 w with ⟨e, he, rfl, w0, w2, wm⟩ | ⟨wm, wc⟩
    · obtain ⟨σ1, x1, x2, x3, x4, x5, x6⟩ := c_now hg.1 hc
      have t1 := x3.1
      have xo := th_over x5
      by_cases hx : RT (FS k) (LO V S) (HI V S) = none
      · obtain ⟨σ2, y1, y2, y3, y4, y5, y6⟩ := keepWay_ok hg.1 t1 x3.2.1 x4 hx
        have t2 := y2.typ t1
        have kw2 : Kw σ1 σ2 := y2.kw (by decide) (fun k _ => y2.A (by decide) k)
        have c2 := x3.kw kw2
        have th2 : Th σ2 none := (y2.A (by decide) _).trans (by rw [hx] at x5; exact x5)
        have tl := told_ok t2 th2 he
        obtain ⟨σ3, z1, z2, z3, z4, z5, z6⟩ := m_now hk hg.1 c2
        have t3 := z3.1
        obtain ⟨σ4, g1, g2, g3, g4, g5⟩ := gw_lp hk hg.1 (mN (FS k)) (mN (FS k) - 1) 0 σ3 (fun _ => 0) (by have := hg.1.1; omega) (by have := hg.1.1; omega) (show ovr (FS k) (LO V S) (HI V S) (mN (FS k) - 1) = true by unfold ovr; rw [show SP (FS k) (LO V S) (HI V S) (mN (FS k) - 1) = none from hx]; rfl) (by have := hg.1.2.1; have := hg.1.1; omega) t3 z3.2.2.1 z4 (fun k hk => by omega) 1000 (by have := hg.1.2.1; omega)
        have kw4 : Kw σ3 σ4 := g2.kw (by decide) (fun k hk => g3 k (fun z => by subst z; exact absurd hk (by decide)))
        have kw := ((x2.kw.seq kw2).seq z2.kw).seq kw4
        have ro := rootOf_ok t3 hk z3.2.2.1.1 hg.1
        have a04 : ∀ k, hA σ4 0 k = hA σ2 0 k := fun k => (g2.A (by decide) k).trans (Kq.A z2 (Nat.lt_of_lt_of_le (by decide) t2.1) (by decide) k)
        have a47 : ∀ k, hA σ4 47 k = hA σ2 47 k := fun k => (g2.A (by decide) k).trans (Kq.A z2 (Nat.lt_of_lt_of_le (by decide) t2.1) (by decide) k)
        refine ⟨-9223372036854775807, σ2, σ4, ?_, t2, Nat.le_trans x2.1 kw2.1, ?_, Nat.le_trans z2.1 kw4.1, V, S, C, n, FS, way_inv I kw ?_ ⟨_, y5, (a04 8).trans y4, ?_, fun q hq => ?_⟩⟩
        · rw [hx] at xo
          have xo' : hA σ1 24 2 = 1 := xo
          unfold f_X5_span
          simp only [chk_p, lt_p, bd_p, bc_p, oc_n, oc_s, and_self, and_true, true_and, if_true, if_false, isO_sA', isO_sB', isO_rA', hlen_sA, hlen_sB, hlen_rA, hR_sA, hR_sB, hR_rA, Typ_sA', Typ_sB', Typ_rA', O0, r0_0, r0_1, r0_3, r0_4, r0_5, r0_6, r0_7, O24, r24_0, r24_1, r24_5, r24_6, r24_7, r24_8, r24_9, t, t1, t2, ef, w0, w2, if_false, x1, xo', beq1, y1, tl]
          rfl
        · rw [hx] at z1
          unfold f_X6_span f_X6_goesWay
          simp only [chk_p, lt_p, bd_p, bc_p, oc_n, oc_s, and_self, and_true, true_and, if_true, if_false, isO_sA', isO_sB', isO_rA', hlen_sA, hlen_sB, hlen_rA, hR_sA, hR_sB, hR_rA, Typ_sA', Typ_sB', Typ_rA', O48, r48_0, r48_1, r48_2, r48_3, r48_4, r48_5, r48_6, r48_8, r48_9, r48_10, r48_11, r48_12, r48_15, r48_21, r48_22, r48_23, r48_24, r48_25, r48_28, r48_30, r48_31, r48_32, r48_35, r48_37, r48_39, r48_40, r48_41, t2, t3, em σ2 t2 (kw2.2.2.2.2.1 7 (by decide) |>.trans x2.k7), beq1, wm, if_false, z1, rc, ro]
          rw [show lp_X6_goesWay_8 1000 48 (nI k) 0 (nI (mN (FS k) - 1)) σ3 = _ from g1]
          simp only [chk_p, lt_p, bd_p, bc_p, oc_n, oc_s, and_self, and_true, true_and, if_true, if_false, isO_sA', isO_sB', isO_rA', hlen_sA, hlen_sB, hlen_rA, hR_sA, hR_sB, hR_rA, Typ_sA', Typ_sB', Typ_rA']
        · exact (a04 2).trans ((y3 2 (by decide)).trans (Kq.A x2 (Nat.lt_of_lt_of_le (by decide) t.1) (by decide) 2))
        · rw [g4, Nat.zero_add]
        · have h5 := g5 q (by rw [Nat.zero_add]; exact hq)
          rw [h5, a47, y6 _ (by omega), if_neg (by omega)]
          congr 2; omega
      · obtain ⟨p, hp⟩ := Option.ne_none_iff_exists'.mp hx
        have tl := told_ok t1 x5 he
        obtain ⟨σ2, z1, z2, z3, z4, z5, z6⟩ := m_now hk hg.1 x3
        have t2 := z3.1
        rw [hp] at xo x5 tl z1
        have xo' : hA σ1 24 2 = 0 := x5.1
        have rt := z4 (mN (FS k) - 1) (by have := hg.1.1; omega)
        rw [show SP (FS k) (LO V S) (HI V S) (mN (FS k) - 1) = some p from hp] at rt
        obtain ⟨b1, b2, b3, b4⟩ := rt
        have x5f : f_X5_span 0 (nI k) (nI e) σ = some (EV (some p) e, σ1) := by
          unfold f_X5_span
          simp only [chk_p, lt_p, bd_p, bc_p, oc_n, oc_s, and_self, and_true, true_and, if_true, if_false, isO_sA', isO_sB', isO_rA', hlen_sA, hlen_sB, hlen_rA, hR_sA, hR_sB, hR_rA, Typ_sA', Typ_sB', Typ_rA', O0, r0_0, r0_1, r0_3, r0_4, r0_5, r0_6, r0_7, O24, r24_0, r24_1, r24_5, r24_6, r24_7, r24_8, r24_9, t, t1, ef, w0, w2, if_false, x1, xo', tl]
        have eml := em σ1 t1 x2.k7
        have h3 : e = 0 ∨ e = 1 ∨ e = 2 := by omega
        rcases h3 with z | z | z <;> subst z
        · refine opQ I ⟨_, σ1, σ2, x5f, x2, ?_, z2⟩
          unfold f_X6_span
          simp (decide := true) only [chk_p, lt_p, bd_p, bc_p, oc_n, oc_s, and_self, and_true, true_and, if_true, if_false, isO_sA', isO_sB', isO_rA', hlen_sA, hlen_sB, hlen_rA, hR_sA, hR_sB, hR_rA, Typ_sA', Typ_sB', Typ_rA', O48, r48_0, r48_1, r48_2, r48_3, r48_4, r48_5, r48_6, r48_8, r48_9, r48_10, r48_11, r48_12, r48_15, r48_21, r48_22, r48_23, r48_24, r48_25, r48_28, r48_30, r48_31, r48_32, r48_35, r48_37, r48_39, r48_40, r48_41, t1, t2, eml, beq1, wm, if_false, z1, rc, m_lo hk hg.1 z3]
          rw [show EV (some p) 0 = Int64.ofInt p.1 from rfl, ofI_eq b2]
        · refine opQ I ⟨_, σ1, σ2, x5f, x2, ?_, z2⟩
          unfold f_X6_span
          simp (decide := true) only [chk_p, lt_p, bd_p, bc_p, oc_n, oc_s, and_self, and_true, true_and, if_true, if_false, isO_sA', isO_sB', isO_rA', hlen_sA, hlen_sB, hlen_rA, hR_sA, hR_sB, hR_rA, Typ_sA', Typ_sB', Typ_rA', O48, r48_0, r48_1, r48_2, r48_3, r48_4, r48_5, r48_6, r48_8, r48_9, r48_10, r48_11, r48_12, r48_15, r48_21, r48_22, r48_23, r48_24, r48_25, r48_28, r48_30, r48_31, r48_32, r48_35, r48_37, r48_39, r48_40, r48_41, t1, t2, eml, beq1, wm, if_false, z1, rc, m_hi hk hg.1 z3]
          rw [show EV (some p) 1 = Int64.ofInt p.2 from rfl, ofI_eq b3]
        · obtain ⟨σ3, u1, u2, u3⟩ := m_widthNow hk hg.1 z3
          rw [hp] at u1
          refine opQ I ⟨_, σ1, σ3, x5f, x2, ?_, z2.seq u2⟩
          unfold f_X6_span
          simp (decide := true) only [chk_p, lt_p, bd_p, bc_p, oc_n, oc_s, and_self, and_true, true_and, if_true, if_false, isO_sA', isO_sB', isO_rA', hlen_sA, hlen_sB, hlen_rA, hR_sA, hR_sB, hR_rA, Typ_sA', Typ_sB', Typ_rA', O48, r48_0, r48_1, r48_2, r48_3, r48_4, r48_5, r48_6, r48_8, r48_9, r48_10, r48_11, r48_12, r48_15, r48_21, r48_22, r48_23, r48_24, r48_25, r48_28, r48_30, r48_31, r48_32, r48_35, r48_37, r48_39, r48_40, r48_41, t1, t2, eml, beq1, wm, if_false, z1, rc, u1]
          rfl
    · refine opN I (-9223372036854775808) ?_ ?_
      · unfold f_X5_span
        rcases wc with wc | ⟨wc, wc2⟩
        · simp only [chk_p, lt_p, bd_p, bc_p, oc_n, oc_s, and_self, and_true, true_and, if_true, if_false, isO_sA', isO_sB', isO_rA', hlen_sA, hlen_sB, hlen_rA, hR_sA, hR_sB, hR_rA, Typ_sA', Typ_sB', Typ_rA', O0, r0_0, r0_1, r0_3, r0_4, r0_5, r0_6, r0_7, t, ef, wc]
        · simp only [chk_p, lt_p, bd_p, bc_p, oc_n, oc_s, and_self, and_true, true_and, if_true, if_false, isO_sA', isO_sB', isO_rA', hlen_sA, hlen_sB, hlen_rA, hR_sA, hR_sB, hR_rA, Typ_sA', Typ_sB', Typ_rA', O0, r0_0, r0_1, r0_3, r0_4, r0_5, r0_6, r0_7, t, ef, wc, wc2, if_false]
      · unfold f_X6_span
        simp only [chk_p, lt_p, bd_p, bc_p, oc_n, oc_s, and_self, and_true, true_and, if_true, if_false, isO_sA', isO_sB', isO_rA', hlen_sA, hlen_sB, hlen_rA, hR_sA, hR_sB, hR_rA, Typ_sA', Typ_sB', Typ_rA', O48, r48_0, r48_1, r48_2, r48_3, r48_4, r48_5, r48_6, r48_8, r48_9, r48_10, r48_11, r48_12, r48_15, r48_21, r48_22, r48_23, r48_24, r48_25, r48_28, r48_30, r48_31, r48_32, r48_35, r48_37, r48_39, r48_40, r48_41, t, em σ t rfl, beq1, wm, if_false]
  · refine opN I (-9223372036854775808) ?_ ?_
    · unfold f_X5_span
      simp only [chk_p, lt_p, bd_p, bc_p, oc_n, oc_s, and_self, and_true, true_and, if_true, if_false, isO_sA', isO_sB', isO_rA', hlen_sA, hlen_sB, hlen_rA, hR_sA, hR_sB, hR_rA, Typ_sA', Typ_sB', Typ_rA', O0, r0_0, r0_1, r0_3, r0_4, r0_5, r0_6, r0_7, t, ef]
    · unfold f_X6_span
      simp only [chk_p, lt_p, bd_p, bc_p, oc_n, oc_s, and_self, and_true, true_and, if_true, if_false, isO_sA', isO_sB', isO_rA', hlen_sA, hlen_sB, hlen_rA, hR_sA, hR_sB, hR_rA, Typ_sA', Typ_sB', Typ_rA', O48, r48_0, r48_1, r48_2, r48_3, r48_4, r48_5, r48_6, r48_8, r48_9, r48_10, r48_11, r48_12, r48_15, r48_21, r48_22, r48_23, r48_24, r48_25, r48_28, r48_30, r48_31, r48_32, r48_35, r48_37, r48_39, r48_40, r48_41, t, em]
end
section
/-! count, judge -/
theorem fml {σ : HS} {V S C : Nat → Int32} {n : Nat} {FS : Nat → FM} (I : INV σ V S C n FS) {k : Nat} (hk : k < n) : ∃ φ, f_X5_formulaOf 0 (nI k) σ = some (some φ, σ) ∧ Good (FS k) ∧ CS σ φ k (FS k) V S C ∧ XI σ φ (FS k) := by
  have t := I.1
  obtain ⟨hn6, hg, e1, e2, ex, em, er⟩ := I.2.2.1
  obtain ⟨φ, hφ, hx, hxi⟩ := ex k hk
  have ef := formulaOf_so t hn6 e1 hk
  rw [hφ] at ef
  exact ⟨φ, ef, hg k hk, ⟨t, hx, em k hk, I.2.1⟩, hxi⟩
theorem SP_le {Φ : FM} {L H : Nat → Int} (h : ∀ s, L s ≤ H s) {i : Nat} {p : Int × Int} (e : SP Φ L H i = some p) : p.1 ≤ p.2 := SPI_le Φ h (a := p.1) (b := p.2) e
theorem WD_some {Φ : FM} {L H : Nat → Int} (h : ∀ s, L s ≤ H s) {w : Int} (e : WD (RT Φ L H) = some w) : ∃ p, RT Φ L H = some p ∧ w = p.2 - p.1 ∧ 0 ≤ w ∧ inR w := by
  cases hx : RT Φ L H with
  | none => rw [hx] at e; cases e
  | some p =>
    rw [hx] at e
    have := SP_le h (p := p) hx
    unfold WD at e
    dsimp only at e
    by_cases g : inR (p.2 - p.1)
    · rw [if_pos g] at e; cases e; exact ⟨p, rfl, rfl, by omega, g⟩
    · rw [if_neg g] at e; cases e
theorem ov_i : (-9223372036854775807 : Int64).toInt = -9223372036854775807 := rfl
theorem oW_no {Φ : FM} {L H : Nat → Int} (h : ∀ s, L s ≤ H s) : (lg_cmp (oW (WD (RT Φ L H))) (-9223372036854775807) = 0) = (WD (RT Φ L H) = none) := by
  rw [z_eq]
  cases hx : WD (RT Φ L H) with
  | none => exact propext ⟨fun _ => rfl, fun _ => rfl⟩
  | some w =>
    obtain ⟨p, -, -, h0, h1⟩ := WD_some h hx
    refine propext ⟨fun z => ?_, fun z => by cases z⟩
    have z' := congrArg Int64.toInt z
    rw [show oW (some w) = Int64.ofInt w from rfl, ofI h1, ov_i] at z'
    omega
/-! sources with a span -/
theorem x_sws {σ : HS} {φ f : Nat} {Φ : FM} {V S C : Nat → Int32} (t : Typ σ) (hs : SrcI σ 2 49 V S C) : ∀ d i, i + d = 6 → ∀ nf, d < nf → lp_X5_sourcesWithSpan_4 nf 0 (nI (cntB (fun s => decide (0 < (S s).toInt)) i)) (nI i) σ = some (nI (cntB (fun s => decide (0 < (S s).toInt)) 6), σ) := by
  intro d
  induction d with
  | zero =>
    intro i hi nf hnf
    obtain ⟨nf, rfl⟩ : ∃ k, nf = k + 1 := ⟨nf - 1, by omega⟩
    have : i = 6 := by omega
    subst this
    show lp_X5_sourcesWithSpan_4_b (lp_X5_sourcesWithSpan_4 nf) 0 _ (nI 6) σ = _
    unfold lp_X5_sourcesWithSpan_4_b
    exact if_pos (by decide)
  | succ d ih =>
    intro i hi nf hnf
    obtain ⟨nf, rfl⟩ : ∃ k, nf = k + 1 := ⟨nf - 1, by omega⟩
    have e := ih (i + 1) (by omega) nf (by omega)
    show lp_X5_sourcesWithSpan_4_b (lp_X5_sourcesWithSpan_4 nf) 0 _ (nI i) σ = _
    unfold lp_X5_sourcesWithSpan_4_b
    have le : (6 : Int32) ≤ nI i ↔ False := by rw [show (6 : Int32) = nI 6 from rfl, nle (a := 6) (b := i) (by omega) (by omega)]
    have le := eq_false (fun z => le.mp z)
    have ie := inbE (i := i) (n := 6) (by omega) (by omega)
    have ci := cl1000 (i := i) (by omega)
    have v := (hs i (by omega)).1.2.1
    have v' : hA σ 3 i = S i := v
    have l0 : (S i ≤ 0) = ¬ (0 < (S i).toInt) := by rw [i_le, z320]; exact propext ⟨fun z => by omega, fun z => by omega⟩
    rw [show cntB (fun s => decide (0 < (S s).toInt)) (i + 1) = cntB (fun s => decide (0 < (S s).toInt)) i + (if decide (0 < (S i).toInt) = true then 1 else 0) from rfl] at e
    by_cases c : 0 < (S i).toInt
    · rw [if_pos (decide_eq_true c)] at e
      simp only [le, if_false, chk_p, lt_p, bd_p, bc_p, oc_n, oc_s, and_self, and_true, true_and, if_true, if_false, isO_sA', isO_sB', isO_rA', hlen_sA, hlen_sB, hlen_rA, hR_sA, hR_sB, hR_rA, Typ_sA', Typ_sB', Typ_rA', O0, r0_0, r0_1, r0_3, r0_4, r0_5, r0_6, r0_7, O1, r1_0, r1_1, r1_2, r1_3, r1_5, r1_6, r1_7, O3, l3, t, ie, ci, v', l0, c, not_true, nI_s, e]
    · rw [if_neg (fun z => c (of_decide_eq_true z))] at e
      simp only [le, if_false, chk_p, lt_p, bd_p, bc_p, oc_n, oc_s, and_self, and_true, true_and, if_true, if_false, isO_sA', isO_sB', isO_rA', hlen_sA, hlen_sB, hlen_rA, hR_sA, hR_sB, hR_rA, Typ_sA', Typ_sB', Typ_rA', O0, r0_0, r0_1, r0_3, r0_4, r0_5, r0_6, r0_7, O1, r1_0, r1_1, r1_2, r1_3, r1_5, r1_6, r1_7, O3, l3, t, ie, ci, v', l0, c, not_false_iff, Int32.add_zero, nI_s, Nat.add_zero] at e ⊢
      exact e
theorem m_sws {σ : HS} {V S C : Nat → Int32} (t : Typ σ) (hs : SrcI σ 2 49 V S C) : ∀ d i, i + d = 6 → ∀ nf, d < nf → lp_X6_spannedMany_4 nf 48 (nI (cntB (fun s => decide (0 < (S s).toInt)) i)) (nI i) σ = some (nI (cntB (fun s => decide (0 < (S s).toInt)) 6), σ) := by
  intro d
  induction d with
  | zero =>
    intro i hi nf hnf
    obtain ⟨nf, rfl⟩ : ∃ k, nf = k + 1 := ⟨nf - 1, by omega⟩
    have : i = 6 := by omega
    subst this
    show lp_X6_spannedMany_4_b (lp_X6_spannedMany_4 nf) 48 _ (nI 6) σ = _
    unfold lp_X6_spannedMany_4_b
    exact if_pos (by decide)
  | succ d ih =>
    intro i hi nf hnf
    obtain ⟨nf, rfl⟩ : ∃ k, nf = k + 1 := ⟨nf - 1, by omega⟩
    have e := ih (i + 1) (by omega) nf (by omega)
    show lp_X6_spannedMany_4_b (lp_X6_spannedMany_4 nf) 48 _ (nI i) σ = _
    unfold lp_X6_spannedMany_4_b
    have le : (6 : Int32) ≤ nI i ↔ False := by rw [show (6 : Int32) = nI 6 from rfl, nle (a := 6) (b := i) (by omega) (by omega)]
    have le := eq_false (fun z => le.mp z)
    have v := spanOf_ok t (show i < 6 by omega)
    have v' : hA σ 49 (3 * i + 1) = S i := (hs i (by omega)).2.1.2.1
    rw [v'] at v
    have l0 : (S i ≤ 0) = ¬ (0 < (S i).toInt) := by rw [i_le, z320]; exact propext ⟨fun z => by omega, fun z => by omega⟩
    rw [show cntB (fun s => decide (0 < (S s).toInt)) (i + 1) = cntB (fun s => decide (0 < (S s).toInt)) i + (if decide (0 < (S i).toInt) = true then 1 else 0) from rfl] at e
    by_cases c : 0 < (S i).toInt
    · rw [if_pos (decide_eq_true c)] at e
      simp only [le, if_false, chk_p, lt_p, bd_p, bc_p, oc_n, oc_s, and_self, and_true, true_and, if_true, if_false, isO_sA', isO_sB', isO_rA', hlen_sA, hlen_sB, hlen_rA, hR_sA, hR_sB, hR_rA, Typ_sA', Typ_sB', Typ_rA', O48, r48_0, r48_1, r48_2, r48_3, r48_4, r48_5, r48_6, r48_8, r48_9, r48_10, r48_11, r48_12, r48_15, r48_21, r48_22, r48_23, r48_24, r48_25, r48_28, r48_30, r48_31, r48_32, r48_35, r48_37, r48_39, r48_40, r48_41, t, v, l0, c, not_true, nI_s, e]
    · rw [if_neg (fun z => c (of_decide_eq_true z))] at e
      simp only [le, if_false, chk_p, lt_p, bd_p, bc_p, oc_n, oc_s, and_self, and_true, true_and, if_true, if_false, isO_sA', isO_sB', isO_rA', hlen_sA, hlen_sB, hlen_rA, hR_sA, hR_sB, hR_rA, Typ_sA', Typ_sB', Typ_rA', O48, r48_0, r48_1, r48_2, r48_3, r48_4, r48_5, r48_6, r48_8, r48_9, r48_10, r48_11, r48_12, r48_15, r48_21, r48_22, r48_23, r48_24, r48_25, r48_28, r48_30, r48_31, r48_32, r48_35, r48_37, r48_39, r48_40, r48_41, t, v, l0, c, not_false_iff, Int32.add_zero, nI_s, Nat.add_zero] at e ⊢
      exact e
/-! formulas that are over -/
def ovF (V S : Nat → Int32) (FS : Nat → FM) (k : Nat) : Bool := (RT (FS k) (LO V S) (HI V S)).isNone
theorem x_fov {V S C : Nat → Int32} {n : Nat} {FS : Nat → FM} : ∀ d i (σ : HS), INV σ V S C n FS → i + d = n → ∀ nf, d < nf → ∃ σ', lp_X5_formulasOver_4 nf 0 (nI (cntB (ovF V S FS) i)) (nI i) σ = some (nI (cntB (ovF V S FS) n), σ') ∧ Kp σ σ' := by
  intro d
  induction d with
  | zero =>
    intro i σ I hi nf hnf
    obtain ⟨nf, rfl⟩ : ∃ k, nf = k + 1 := ⟨nf - 1, by omega⟩
    have : i = n := by omega
    subst this
    refine ⟨σ, ?_, Kp.rf⟩
    show lp_X5_formulasOver_4_b (lp_X5_formulasOver_4 nf) 0 _ (nI i) σ = _
    unfold lp_X5_formulasOver_4_b
    have e4 := I.2.2.1.2.2.1
    have t := I.1
    have le : (nI i ≤ nI i) = True := eq_true (Int32.le_refl _)
    simp only [chk_p, lt_p, bd_p, bc_p, oc_n, oc_s, and_self, and_true, true_and, if_true, if_false, isO_sA', isO_sB', isO_rA', hlen_sA, hlen_sB, hlen_rA, hR_sA, hR_sB, hR_rA, Typ_sA', Typ_sB', Typ_rA', O0, r0_0, r0_1, r0_3, r0_4, r0_5, r0_6, r0_7, O1, r1_0, r1_1, r1_2, r1_3, r1_5, r1_6, r1_7, t, e4, le]
  | succ d ih =>
    intro i σ I hi nf hnf
    obtain ⟨nf, rfl⟩ : ∃ k, nf = k + 1 := ⟨nf - 1, by omega⟩
    have n6 := I.2.2.1.1
    obtain ⟨φ, ef, hg, hc, -⟩ := fml I (show i < n by omega)
    obtain ⟨σ1, x1, x2, x3, x4, x5, x6⟩ := c_now hg.1 hc
    have xo := th_over x5
    obtain ⟨σ2, e, k2⟩ := ih (i + 1) σ1 (I.kp x2) (by omega) nf (by omega)
    refine ⟨σ2, ?_, x2.seq k2⟩
    show lp_X5_formulasOver_4_b (lp_X5_formulasOver_4 nf) 0 _ (nI i) σ = _
    unfold lp_X5_formulasOver_4_b
    have e4 := I.2.2.1.2.2.1
    have t := I.1
    have t1 := x3.1
    have le := nle (a := n) (b := i) (by omega) (by omega)
    rw [show cntB (ovF V S FS) (i + 1) = cntB (ovF V S FS) i + (if ovF V S FS i = true then 1 else 0) from rfl] at e
    by_cases c : ovF V S FS i = true
    · rw [if_pos c] at e
      rw [if_pos (show (RT (FS i) (LO V S) (HI V S)).isNone = true from c)] at xo
      simp only [le, if_false, chk_p, lt_p, bd_p, bc_p, oc_n, oc_s, and_self, and_true, true_and, if_true, if_false, isO_sA', isO_sB', isO_rA', hlen_sA, hlen_sB, hlen_rA, hR_sA, hR_sB, hR_rA, Typ_sA', Typ_sB', Typ_rA', O0, r0_0, r0_1, r0_3, r0_4, r0_5, r0_6, r0_7, O1, r1_0, r1_1, r1_2, r1_3, r1_5, r1_6, r1_7, O24, r24_0, r24_1, r24_5, r24_6, r24_7, r24_8, r24_9, t, t1, e4, ef, x1, xo, beq1, nI_s, e]
    · rw [if_neg c] at e
      rw [if_neg (show ¬ (RT (FS i) (LO V S) (HI V S)).isNone = true from c)] at xo
      simp only [le, if_false, chk_p, lt_p, bd_p, bc_p, oc_n, oc_s, and_self, and_true, true_and, if_true, if_false, isO_sA', isO_sB', isO_rA', hlen_sA, hlen_sB, hlen_rA, hR_sA, hR_sB, hR_rA, Typ_sA', Typ_sB', Typ_rA', O0, r0_0, r0_1, r0_3, r0_4, r0_5, r0_6, r0_7, O1, r1_0, r1_1, r1_2, r1_3, r1_5, r1_6, r1_7, O24, r24_0, r24_1, r24_5, r24_6, r24_7, r24_8, r24_9, t, t1, e4, ef, x1, xo, Int32.add_zero, nI_s, Nat.add_zero] at e ⊢
      exact e
theorem m_fov {V S C : Nat → Int32} {n : Nat} {FS : Nat → FM} : ∀ d i (σ : HS), INV σ V S C n FS → i + d = n → ∀ nf, d < nf → ∃ σ', lp_X6_overMany_4 nf 48 (nI (cntB (ovF V S FS) i)) (nI i) σ = some (nI (cntB (ovF V S FS) n), σ') ∧ Kp σ σ' := by
  intro d
  induction d with
  | zero =>
    intro i σ I hi nf hnf
    obtain ⟨nf, rfl⟩ : ∃ k, nf = k + 1 := ⟨nf - 1, by omega⟩
    have : i = n := by omega
    subst this
    refine ⟨σ, ?_, Kp.rf⟩
    show lp_X6_overMany_4_b (lp_X6_overMany_4 nf) 48 _ (nI i) σ = _
    unfold lp_X6_overMany_4_b
    have e4 := I.2.2.1.2.2.2.1
    have t := I.1
    have le : (nI i ≤ nI i) = True := eq_true (Int32.le_refl _)
    simp only [chk_p, lt_p, bd_p, bc_p, oc_n, oc_s, and_self, and_true, true_and, if_true, if_false, isO_sA', isO_sB', isO_rA', hlen_sA, hlen_sB, hlen_rA, hR_sA, hR_sB, hR_rA, Typ_sA', Typ_sB', Typ_rA', O48, r48_0, r48_1, r48_2, r48_3, r48_4, r48_5, r48_6, r48_8, r48_9, r48_10, r48_11, r48_12, r48_15, r48_21, r48_22, r48_23, r48_24, r48_25, r48_28, r48_30, r48_31, r48_32, r48_35, r48_37, r48_39, r48_40, r48_41, t, e4, le]
  | succ d ih =>
    intro i σ I hi nf hnf
    obtain ⟨nf, rfl⟩ : ∃ k, nf = k + 1 := ⟨nf - 1, by omega⟩
    have n6 := I.2.2.1.1
    obtain ⟨φ, ef, hg, hc, -⟩ := fml I (show i < n by omega)
    obtain ⟨σ1, x1, x2, x3, x4, x5, x6⟩ := m_now (show i < 7 by omega) hg.1 hc
    obtain ⟨σ2, e, k2⟩ := ih (i + 1) σ1 (I.kp x2) (by omega) nf (by omega)
    refine ⟨σ2, ?_, x2.seq k2⟩
    show lp_X6_overMany_4_b (lp_X6_overMany_4 nf) 48 _ (nI i) σ = _
    unfold lp_X6_overMany_4_b
    have e4 := I.2.2.1.2.2.2.1
    have t := I.1
    have t1 := x3.1
    have le := nle (a := n) (b := i) (by omega) (by omega)
    rw [show cntB (ovF V S FS) (i + 1) = cntB (ovF V S FS) i + (if ovF V S FS i = true then 1 else 0) from rfl] at e
    cases hx : RT (FS i) (LO V S) (HI V S) with
    | none =>
      rw [hx] at x1
      rw [if_pos (show ovF V S FS i = true by unfold ovF; rw [hx]; rfl)] at e
      simp only [le, if_false, chk_p, lt_p, bd_p, bc_p, oc_n, oc_s, and_self, and_true, true_and, if_true, if_false, isO_sA', isO_sB', isO_rA', hlen_sA, hlen_sB, hlen_rA, hR_sA, hR_sB, hR_rA, Typ_sA', Typ_sB', Typ_rA', O48, r48_0, r48_1, r48_2, r48_3, r48_4, r48_5, r48_6, r48_8, r48_9, r48_10, r48_11, r48_12, r48_15, r48_21, r48_22, r48_23, r48_24, r48_25, r48_28, r48_30, r48_31, r48_32, r48_35, r48_37, r48_39, r48_40, r48_41, t, t1, e4, x1, rc, nI_s, e]
    | some p =>
      rw [hx] at x1
      rw [if_neg (show ¬ ovF V S FS i = true by unfold ovF; rw [hx]; exact fun z => by cases z)] at e
      simp only [le, if_false, chk_p, lt_p, bd_p, bc_p, oc_n, oc_s, and_self, and_true, true_and, if_true, if_false, isO_sA', isO_sB', isO_rA', hlen_sA, hlen_sB, hlen_rA, hR_sA, hR_sB, hR_rA, Typ_sA', Typ_sB', Typ_rA', O48, r48_0, r48_1, r48_2, r48_3, r48_4, r48_5, r48_6, r48_8, r48_9, r48_10, r48_11, r48_12, r48_15, r48_21, r48_22, r48_23, r48_24, r48_25, r48_28, r48_30, r48_31, r48_32, r48_35, r48_37, r48_39, r48_40, r48_41, t, t1, e4, x1, rc, beq1, Int32.add_zero, nI_s, Nat.add_zero] at e ⊢
      exact e
theorem op_count (a : Int32) : OpOK (f_X5_count 0 a) (f_X6_count 48 a) := by
  intro σ V S C n FS I
  have t := I.1
  have e4 := I.2.2.1.2.2.1
  have e7 := I.2.2.1.2.2.2.1
  obtain ⟨m, B, ht⟩ := I.2.2.2.1
  obtain ⟨p, PS, PW, PV, hp⟩ := I.2.2.2.2.1
  by_cases c0 : a = 0
  · subst c0
    refine opN I (nI n) ?_ ?_
    · unfold f_X5_count
      simp (decide := true) only [chk_p, lt_p, bd_p, bc_p, oc_n, oc_s, and_self, and_true, true_and, if_true, if_false, isO_sA', isO_sB', isO_rA', hlen_sA, hlen_sB, hlen_rA, hR_sA, hR_sB, hR_rA, Typ_sA', Typ_sB', Typ_rA', O0, r0_0, r0_1, r0_3, r0_4, r0_5, r0_6, r0_7, O1, r1_0, r1_1, r1_2, r1_3, r1_5, r1_6, r1_7, t, e4]
    · unfold f_X6_count
      simp (decide := true) only [chk_p, lt_p, bd_p, bc_p, oc_n, oc_s, and_self, and_true, true_and, if_true, if_false, isO_sA', isO_sB', isO_rA', hlen_sA, hlen_sB, hlen_rA, hR_sA, hR_sB, hR_rA, Typ_sA', Typ_sB', Typ_rA', O48, r48_0, r48_1, r48_2, r48_3, r48_4, r48_5, r48_6, r48_8, r48_9, r48_10, r48_11, r48_12, r48_15, r48_21, r48_22, r48_23, r48_24, r48_25, r48_28, r48_30, r48_31, r48_32, r48_35, r48_37, r48_39, r48_40, r48_41, t, e7]
  by_cases c1 : a = 1
  · subst c1
    refine opN I (nI m) ?_ ?_
    · unfold f_X5_count
      simp (decide := true) only [chk_p, lt_p, bd_p, bc_p, oc_n, oc_s, and_self, and_true, true_and, if_true, if_false, isO_sA', isO_sB', isO_rA', hlen_sA, hlen_sB, hlen_rA, hR_sA, hR_sB, hR_rA, Typ_sA', Typ_sB', Typ_rA', O0, r0_0, r0_1, r0_3, r0_4, r0_5, r0_6, r0_7, O17, r17_0, r17_3, r17_4, r17_5, r17_6, r17_7, t, ht.2.1, if_false]
    · unfold f_X6_count
      simp (decide := true) only [chk_p, lt_p, bd_p, bc_p, oc_n, oc_s, and_self, and_true, true_and, if_true, if_false, isO_sA', isO_sB', isO_rA', hlen_sA, hlen_sB, hlen_rA, hR_sA, hR_sB, hR_rA, Typ_sA', Typ_sB', Typ_rA', O48, r48_0, r48_1, r48_2, r48_3, r48_4, r48_5, r48_6, r48_8, r48_9, r48_10, r48_11, r48_12, r48_15, r48_21, r48_22, r48_23, r48_24, r48_25, r48_28, r48_30, r48_31, r48_32, r48_35, r48_37, r48_39, r48_40, r48_41, t, ht.2.2.1, if_false]
  by_cases c2 : a = 2
  · subst c2
    refine opN I (nI p) ?_ ?_
    · unfold f_X5_count
      simp (decide := true) only [chk_p, lt_p, bd_p, bc_p, oc_n, oc_s, and_self, and_true, true_and, if_true, if_false, isO_sA', isO_sB', isO_rA', hlen_sA, hlen_sB, hlen_rA, hR_sA, hR_sB, hR_rA, Typ_sA', Typ_sB', Typ_rA', O0, r0_0, r0_1, r0_3, r0_4, r0_5, r0_6, r0_7, O1, r1_0, r1_1, r1_2, r1_3, r1_5, r1_6, r1_7, t, hp.2.1, if_false]
    · unfold f_X6_count
      simp (decide := true) only [chk_p, lt_p, bd_p, bc_p, oc_n, oc_s, and_self, and_true, true_and, if_true, if_false, isO_sA', isO_sB', isO_rA', hlen_sA, hlen_sB, hlen_rA, hR_sA, hR_sB, hR_rA, Typ_sA', Typ_sB', Typ_rA', O48, r48_0, r48_1, r48_2, r48_3, r48_4, r48_5, r48_6, r48_8, r48_9, r48_10, r48_11, r48_12, r48_15, r48_21, r48_22, r48_23, r48_24, r48_25, r48_28, r48_30, r48_31, r48_32, r48_35, r48_37, r48_39, r48_40, r48_41, t, hp.2.2.1, if_false]
  by_cases c3 : a = 3
  · subst c3
    obtain ⟨σ1, x1, x2⟩ := x_fov n 0 σ I (by omega) 1000 (by have := I.2.2.1.1; omega)
    obtain ⟨σ2, z1, z2⟩ := m_fov n 0 σ1 (I.kp x2) (by omega) 1000 (by have := I.2.2.1.1; omega)
    have t1 := x2.typ t
    refine opQ I ⟨nI (cntB (ovF V S FS) n), σ1, σ2, ?_, x2, ?_, z2⟩
    · unfold f_X5_count
      simp (decide := true) only [chk_p, lt_p, bd_p, bc_p, oc_n, oc_s, and_self, and_true, true_and, if_true, if_false, isO_sA', isO_sB', isO_rA', hlen_sA, hlen_sB, hlen_rA, hR_sA, hR_sB, hR_rA, Typ_sA', Typ_sB', Typ_rA', O0, r0_0, r0_1, r0_3, r0_4, r0_5, r0_6, r0_7, t, f_X5_formulasOver, if_false]
      rw [show lp_X5_formulasOver_4 1000 0 0 0 σ = _ from x1]; rfl
    · unfold f_X6_count
      simp (decide := true) only [chk_p, lt_p, bd_p, bc_p, oc_n, oc_s, and_self, and_true, true_and, if_true, if_false, isO_sA', isO_sB', isO_rA', hlen_sA, hlen_sB, hlen_rA, hR_sA, hR_sB, hR_rA, Typ_sA', Typ_sB', Typ_rA', O48, r48_0, r48_1, r48_2, r48_3, r48_4, r48_5, r48_6, r48_8, r48_9, r48_10, r48_11, r48_12, r48_15, r48_21, r48_22, r48_23, r48_24, r48_25, r48_28, r48_30, r48_31, r48_32, r48_35, r48_37, r48_39, r48_40, r48_41, t1, f_X6_overMany, if_false]
      rw [show lp_X6_overMany_4 1000 48 0 0 σ1 = _ from z1]; rfl
  by_cases c4 : a = 4
  · subst c4
    have x1 := x_sws (φ := 0) (f := 0) (Φ := FS 0) t I.2.1 6 0 (by omega) 1000 (by omega)
    have z1 := m_sws t I.2.1 6 0 (by omega) 1000 (by omega)
    refine opN I (nI (cntB (fun s => decide (0 < (S s).toInt)) 6)) ?_ ?_
    · unfold f_X5_count
      simp (decide := true) only [chk_p, lt_p, bd_p, bc_p, oc_n, oc_s, and_self, and_true, true_and, if_true, if_false, isO_sA', isO_sB', isO_rA', hlen_sA, hlen_sB, hlen_rA, hR_sA, hR_sB, hR_rA, Typ_sA', Typ_sB', Typ_rA', O0, r0_0, r0_1, r0_3, r0_4, r0_5, r0_6, r0_7, t, f_X5_sourcesWithSpan, if_false]
      rw [show lp_X5_sourcesWithSpan_4 1000 0 0 0 σ = _ from x1]; rfl
    · unfold f_X6_count
      simp (decide := true) only [chk_p, lt_p, bd_p, bc_p, oc_n, oc_s, and_self, and_true, true_and, if_true, if_false, isO_sA', isO_sB', isO_rA', hlen_sA, hlen_sB, hlen_rA, hR_sA, hR_sB, hR_rA, Typ_sA', Typ_sB', Typ_rA', O48, r48_0, r48_1, r48_2, r48_3, r48_4, r48_5, r48_6, r48_8, r48_9, r48_10, r48_11, r48_12, r48_15, r48_21, r48_22, r48_23, r48_24, r48_25, r48_28, r48_30, r48_31, r48_32, r48_35, r48_37, r48_39, r48_40, r48_41, t, f_X6_spannedMany, if_false]
      rw [show lp_X6_spannedMany_4 1000 48 0 0 σ = _ from z1]; rfl
  refine opN I (-2) ?_ ?_
  · unfold f_X5_count
    simp only [c0, c1, c2, c3, c4, if_false]
  · unfold f_X6_count
    simp only [c0, c1, c2, c3, c4, if_false]
/-! judge -/
def jR (bad : Nat → Bool) : Nat → Nat → Int32
  | 0, _ => -5
  | d + 1, i => if bad i = true then nI i else jR bad d (i + 1)
def badJ (V S : Nat → Int32) (n : Nat) (FS : Nat → FM) (row : Nat → Int64) (i : Nat) : Bool := decide (n ≤ i) || !(decide (WD (RT (FS i) (LO V S) (HI V S)) = some (row i).toInt))
theorem x_judge {V S C : Nat → Int32} {n : Nat} {FS : Nat → FM} {l m : Nat} (hl : l < 4) (hm : m ≤ 8) {row : Nat → Int64} : ∀ d i (σ : HS), INV σ V S C n FS → (∀ k, hB σ (42 + l) k = row k) → hA σ 46 l = nI m → i + d = m → ∀ nf, d < nf → ∃ σ', lp_X5_judge_25 nf 0 (nI l) (nI i) σ = some (jR (badJ V S n FS row) d i, σ') ∧ Kp σ σ' := by
  intro d
  induction d with
  | zero =>
    intro i σ I hr e46 hi nf hnf
    obtain ⟨nf, rfl⟩ : ∃ k, nf = k + 1 := ⟨nf - 1, by omega⟩
    have : i = m := by omega
    subst this
    refine ⟨σ, ?_, Kp.rf⟩
    show lp_X5_judge_25_b (lp_X5_judge_25 nf) 0 (nI l) (nI i) σ = _
    unfold lp_X5_judge_25_b
    have t := I.1
    have le := inbE (i := l) (n := 4) hl (by omega)
    have cl := cl1000 (i := l) (by omega)
    have ll : (nI i ≤ nI i) = True := eq_true (Int32.le_refl _)
    simp only [chk_p, lt_p, bd_p, bc_p, oc_n, oc_s, and_self, and_true, true_and, if_true, if_false, isO_sA', isO_sB', isO_rA', hlen_sA, hlen_sB, hlen_rA, hR_sA, hR_sB, hR_rA, Typ_sA', Typ_sB', Typ_rA', O0, r0_0, r0_1, r0_3, r0_4, r0_5, r0_6, r0_7, O46, l46, t, le, cl, e46, ll]
    rfl
  | succ d ih =>
    intro i σ I hr e46 hi nf hnf
    obtain ⟨nf, rfl⟩ : ∃ k, nf = k + 1 := ⟨nf - 1, by omega⟩
    have n6 := I.2.2.1.1
    have t := I.1
    have le := inbE (i := l) (n := 4) hl (by omega)
    have cl := cl1000 (i := l) (by omega)
    have ll := nle (a := m) (b := i) (by omega) (by omega)
    have ie := inbE (i := i) (n := 8) (by omega) (by omega)
    have ci := cl1000 (i := i) (by omega)
    show ∃ σ', lp_X5_judge_25_b (lp_X5_judge_25 nf) 0 (nI l) (nI i) σ = _ ∧ _
    unfold lp_X5_judge_25_b
    by_cases hin : n ≤ i
    · have ef := formulaOf_no t n6 I.2.2.1.2.2.1 (a := nI i) (by rw [nT (by omega)]; omega)
      refine ⟨σ, ?_, Kp.rf⟩
      unfold jR
      rw [if_pos (show badJ V S n FS row i = true by unfold badJ; rw [decide_eq_true hin]; rfl)]
      simp only [chk_p, lt_p, bd_p, bc_p, oc_n, oc_s, and_self, and_true, true_and, if_true, if_false, isO_sA', isO_sB', isO_rA', hlen_sA, hlen_sB, hlen_rA, hR_sA, hR_sB, hR_rA, Typ_sA', Typ_sB', Typ_rA', O0, r0_0, r0_1, r0_3, r0_4, r0_5, r0_6, r0_7, O46, l46, t, le, cl, e46, ll, ef, if_false]
    · obtain ⟨φ, ef, hg, hc, -⟩ := fml I (show i < n by omega)
      obtain ⟨σ1, x1, x2, x3, x4, x5, x6⟩ := c_now hg.1 hc
      have t1 := x3.1
      have hw := hasWidth_ok t1 x5
      obtain ⟨r1, r2, r3⟩ := row41 t1 hl
      have hin' : decide (n ≤ i) = false := decide_eq_false hin
      by_cases hwd : WD (RT (FS i) (LO V S) (HI V S)) = none
      · refine ⟨σ1, ?_, x2⟩
        rw [hwd] at hw
        unfold jR
        rw [if_pos (show badJ V S n FS row i = true by unfold badJ; rw [hin', hwd]; rfl)]
        simp only [chk_p, lt_p, bd_p, bc_p, oc_n, oc_s, and_self, and_true, true_and, if_true, if_false, isO_sA', isO_sB', isO_rA', hlen_sA, hlen_sB, hlen_rA, hR_sA, hR_sB, hR_rA, Typ_sA', Typ_sB', Typ_rA', O0, r0_0, r0_1, r0_3, r0_4, r0_5, r0_6, r0_7, O24, r24_0, r24_1, r24_5, r24_6, r24_7, r24_8, r24_9, O46, l46, t, t1, le, cl, e46, ll, ef, if_false, x1, hw, Option.isSome_none, Bool.false_eq_true]
      · obtain ⟨w, hw'⟩ := Option.ne_none_iff_exists'.mp hwd
        rw [hw'] at hw
        obtain ⟨p, hp, hpw, hw0, hwr⟩ := WD_some (LOHI hc) hw'
        rw [hp] at x5
        obtain ⟨a1, a2, a3, a4⟩ := x5
        have hr1 : ∀ k, hB σ1 (42 + l) k = row k := fun k => (Kq.B x2 (Nat.lt_of_lt_of_le (show 42 + l < 76 by omega) t.1) (lst4 (P := fun j => scj j || j == 48) (by decide) l hl) k).trans (hr k)
        have e46' : hA σ1 46 l = nI m := (Kq.A x2 (Nat.lt_of_lt_of_le (by decide) t.1) (by decide) l).trans e46
        have ev : (hB σ1 24 4 - hB σ1 24 3).toInt = w := by rw [l_sub (by rw [a2, a3, ← hpw]; exact hwr), a2, a3, hpw]
        have eq : (hB σ1 24 4 - hB σ1 24 3 = row i) = (w = (row i).toInt) := by rw [l_eq, ev]
        obtain ⟨σ2, e, k2⟩ := ih (i + 1) σ1 (I.kp x2) hr1 e46' (by omega) nf (by omega)
        by_cases c : w = (row i).toInt
        · refine ⟨σ2, ?_, x2.seq k2⟩
          unfold jR
          rw [if_neg (show ¬ badJ V S n FS row i = true by unfold badJ; rw [hin', hw', c]; simp)]
          simp only [chk_p, lt_p, bd_p, bc_p, oc_n, oc_s, and_self, and_true, true_and, if_true, if_false, isO_sA', isO_sB', isO_rA', hlen_sA, hlen_sB, hlen_rA, hR_sA, hR_sB, hR_rA, Typ_sA', Typ_sB', Typ_rA', O0, r0_0, r0_1, r0_3, r0_4, r0_5, r0_6, r0_7, O46, l46, t, t1, le, cl, e46, ll, ef, if_false, x1, hw, Option.isSome_some, beq1, O24, r24_0, r24_1, r24_5, r24_6, r24_7, r24_8, r24_9, r1, r2, r3, O41, l41, ie, ci, hr1, z_eq, eq, c, nI_s, e]
        · refine ⟨σ1, ?_, x2⟩
          unfold jR
          rw [if_pos (show badJ V S n FS row i = true by unfold badJ; rw [hin', hw']; simpa using c)]
          simp only [chk_p, lt_p, bd_p, bc_p, oc_n, oc_s, and_self, and_true, true_and, if_true, if_false, isO_sA', isO_sB', isO_rA', hlen_sA, hlen_sB, hlen_rA, hR_sA, hR_sB, hR_rA, Typ_sA', Typ_sB', Typ_rA', O0, r0_0, r0_1, r0_3, r0_4, r0_5, r0_6, r0_7, O46, l46, t, t1, le, cl, e46, ll, ef, if_false, x1, hw, Option.isSome_some, beq1, O24, r24_0, r24_1, r24_5, r24_6, r24_7, r24_8, r24_9, r1, r2, r3, O41, l41, ie, ci, hr1, z_eq, eq, c]
theorem m_judge {V S C : Nat → Int32} {n : Nat} {FS : Nat → FM} {l m : Nat} (hl : l < 4) (hm : m ≤ 8) {row : Nat → Int64} : ∀ d i (σ : HS), INV σ V S C n FS → (∀ k, k < 8 → hB σ 75 (8 * l + k) = row k) → hA σ 74 l = nI m → i + d = m → ∀ nf, d < nf → ∃ σ', lp_X6_judge_24 nf 48 (nI l) (nI i) σ = some (jR (badJ V S n FS row) d i, σ') ∧ Kp σ σ' := by
  intro d
  induction d with
  | zero =>
    intro i σ I hr e46 hi nf hnf
    obtain ⟨nf, rfl⟩ : ∃ k, nf = k + 1 := ⟨nf - 1, by omega⟩
    have : i = m := by omega
    subst this
    refine ⟨σ, ?_, Kp.rf⟩
    show lp_X6_judge_24_b (lp_X6_judge_24 nf) 48 (nI l) (nI i) σ = _
    unfold lp_X6_judge_24_b
    have t := I.1
    have le := inbE (i := l) (n := 4) hl (by omega)
    have cl := cl1000 (i := l) (by omega)
    have ll : (nI i ≤ nI i) = True := eq_true (Int32.le_refl _)
    simp only [chk_p, lt_p, bd_p, bc_p, oc_n, oc_s, and_self, and_true, true_and, if_true, if_false, isO_sA', isO_sB', isO_rA', hlen_sA, hlen_sB, hlen_rA, hR_sA, hR_sB, hR_rA, Typ_sA', Typ_sB', Typ_rA', O48, r48_0, r48_1, r48_2, r48_3, r48_4, r48_5, r48_6, r48_8, r48_9, r48_10, r48_11, r48_12, r48_15, r48_21, r48_22, r48_23, r48_24, r48_25, r48_28, r48_30, r48_31, r48_32, r48_35, r48_37, r48_39, r48_40, r48_41, O74, l74, t, le, cl, e46, ll]
    rfl
  | succ d ih =>
    intro i σ I hr e46 hi nf hnf
    obtain ⟨nf, rfl⟩ : ∃ k, nf = k + 1 := ⟨nf - 1, by omega⟩
    have n6 := I.2.2.1.1
    have t := I.1
    have e7 := I.2.2.1.2.2.2.1
    have le := inbE (i := l) (n := 4) hl (by omega)
    have cl := cl1000 (i := l) (by omega)
    have ll := nle (a := m) (b := i) (by omega) (by omega)
    have ie := inbE (i := 8 * l + i) (n := 32) (by omega) (by omega)
    have ci := cl1000 (i := 8 * l + i) (by omega)
    have ln : (nI i < nI n) = (i < n) := propext (nI_ltI (by omega) (by omega))
    show ∃ σ', lp_X6_judge_24_b (lp_X6_judge_24 nf) 48 (nI l) (nI i) σ = _ ∧ _
    unfold lp_X6_judge_24_b
    by_cases hin : n ≤ i
    · refine ⟨σ, ?_, Kp.rf⟩
      unfold jR
      rw [if_pos (show badJ V S n FS row i = true by unfold badJ; rw [decide_eq_true hin]; rfl)]
      have ln' : (i < n) = False := eq_false (by omega)
      simp only [chk_p, lt_p, bd_p, bc_p, oc_n, oc_s, and_self, and_true, true_and, if_true, if_false, isO_sA', isO_sB', isO_rA', hlen_sA, hlen_sB, hlen_rA, hR_sA, hR_sB, hR_rA, Typ_sA', Typ_sB', Typ_rA', O48, r48_0, r48_1, r48_2, r48_3, r48_4, r48_5, r48_6, r48_8, r48_9, r48_10, r48_11, r48_12, r48_15, r48_21, r48_22, r48_23, r48_24, r48_25, r48_28, r48_30, r48_31, r48_32, r48_35, r48_37, r48_39, r48_40, r48_41, O74, l74, t, le, cl, e46, ll, e7, ln, ln', if_false]
    · obtain ⟨φ, ef, hg, hc, -⟩ := fml I (show i < n by omega)
      obtain ⟨σ1, x1, x2, x3⟩ := m_widthNow (show i < 7 by omega) hg.1 hc
      have t1 := x3.1
      have ow := oW_no (Φ := FS i) (LOHI hc)
      have hin' : decide (n ≤ i) = false := decide_eq_false hin
      have ln' : (i < n) = True := eq_true (by omega)
      by_cases hwd : WD (RT (FS i) (LO V S) (HI V S)) = none
      · refine ⟨σ1, ?_, x2⟩
        unfold jR
        rw [if_pos (show badJ V S n FS row i = true by unfold badJ; rw [hin', hwd]; rfl)]
        rw [hwd] at x1 ow
        have ow1 : (lg_cmp (oW none) (-9223372036854775807) = 0) = True := ow.trans (eq_true rfl)
        simp only [chk_p, lt_p, bd_p, bc_p, oc_n, oc_s, and_self, and_true, true_and, if_true, if_false, isO_sA', isO_sB', isO_rA', hlen_sA, hlen_sB, hlen_rA, hR_sA, hR_sB, hR_rA, Typ_sA', Typ_sB', Typ_rA', O48, r48_0, r48_1, r48_2, r48_3, r48_4, r48_5, r48_6, r48_8, r48_9, r48_10, r48_11, r48_12, r48_15, r48_21, r48_22, r48_23, r48_24, r48_25, r48_28, r48_30, r48_31, r48_32, r48_35, r48_37, r48_39, r48_40, r48_41, O74, l74, t, t1, le, cl, e46, ll, e7, ln, ln', if_false, x1, ow1]
      · obtain ⟨w, hw'⟩ := Option.ne_none_iff_exists'.mp hwd
        obtain ⟨p, hp, hpw, hw0, hwr⟩ := WD_some (LOHI hc) hw'
        have hr1 : ∀ k, k < 8 → hB σ1 75 (8 * l + k) = row k := fun k hk => (Kq.B x2 (Nat.lt_of_lt_of_le (by decide) t.1) (by decide) _).trans (hr k hk)
        have e46' : hA σ1 74 l = nI m := (Kq.A x2 (Nat.lt_of_lt_of_le (by decide) t.1) (by decide) l).trans e46
        have eq : (oW (some w) = row i) = (w = (row i).toInt) := by rw [l_eq, show oW (some w) = Int64.ofInt w from rfl, ofI hwr]
        have ow' : (WD (RT (FS i) (LO V S) (HI V S)) = none) = False := eq_false hwd
        rw [ow'] at ow
        rw [hw'] at x1 ow
        obtain ⟨σ2, e, k2⟩ := ih (i + 1) σ1 (I.kp x2) hr1 e46' (by omega) nf (by omega)
        by_cases c : w = (row i).toInt
        · refine ⟨σ2, ?_, x2.seq k2⟩
          unfold jR
          rw [if_neg (show ¬ badJ V S n FS row i = true by unfold badJ; rw [hin', hw', c]; simp)]
          simp only [chk_p, lt_p, bd_p, bc_p, oc_n, oc_s, and_self, and_true, true_and, if_true, if_false, isO_sA', isO_sB', isO_rA', hlen_sA, hlen_sB, hlen_rA, hR_sA, hR_sB, hR_rA, Typ_sA', Typ_sB', Typ_rA', O48, r48_0, r48_1, r48_2, r48_3, r48_4, r48_5, r48_6, r48_8, r48_9, r48_10, r48_11, r48_12, r48_15, r48_21, r48_22, r48_23, r48_24, r48_25, r48_28, r48_30, r48_31, r48_32, r48_35, r48_37, r48_39, r48_40, r48_41, O74, l74, O75, l75, t, t1, le, cl, e46, ll, e7, ln, ln', if_false, x1, ow, nI_mul8, nI_plus, ie, ci, hr1 i (by omega)]
          simp only [z_eq, eq.trans (eq_true c), if_true, lt_p, nI_s, e]
        · refine ⟨σ1, ?_, x2⟩
          unfold jR
          rw [if_pos (show badJ V S n FS row i = true by unfold badJ; rw [hin', hw']; simpa using c)]
          simp only [chk_p, lt_p, bd_p, bc_p, oc_n, oc_s, and_self, and_true, true_and, if_true, if_false, isO_sA', isO_sB', isO_rA', hlen_sA, hlen_sB, hlen_rA, hR_sA, hR_sB, hR_rA, Typ_sA', Typ_sB', Typ_rA', O48, r48_0, r48_1, r48_2, r48_3, r48_4, r48_5, r48_6, r48_8, r48_9, r48_10, r48_11, r48_12, r48_15, r48_21, r48_22, r48_23, r48_24, r48_25, r48_28, r48_30, r48_31, r48_32, r48_35, r48_37, r48_39, r48_40, r48_41, O74, l74, O75, l75, t, t1, le, cl, e46, ll, e7, ln, ln', if_false, x1, ow, nI_mul8, nI_plus, ie, ci, hr1 i (by omega)]
          simp only [z_eq, eq.trans (eq_false c), if_false]
theorem op_judge (a : Int32) : OpOK (f_X5_judge 0 a) (f_X6_judge 48 a) := by
  intro σ V S C n FS I
  have t := I.1
  rcases argC a 4 (by decide) with ⟨l, hl, rfl⟩ | ha
  · have c1 := inL hl
    have le := inbE (i := l) (n := 4) hl (by omega)
    have cl := cl1000 (i := l) (by omega)
    obtain ⟨hlen, hit⟩ := I.2.2.2.2.2.1 l hl
    rcases hlen with ⟨e1, e2⟩ | ⟨m, hm, e1, e2⟩
    · refine opN I (-11) ?_ ?_
      · unfold f_X5_judge
        simp only [isList_ok, yif c1, beq1, e1, le, cl, if_false, chk_p, lt_p, bd_p, bc_p, oc_n, oc_s, and_self, and_true, true_and, if_true, if_false, isO_sA', isO_sB', isO_rA', hlen_sA, hlen_sB, hlen_rA, hR_sA, hR_sB, hR_rA, Typ_sA', Typ_sB', Typ_rA', O0, r0_0, r0_1, r0_3, r0_4, r0_5, r0_6, r0_7, O46, l46, t]
      · unfold f_X6_judge
        simp only [mIsList_ok, yif c1, beq1, e2, le, cl, if_false, chk_p, lt_p, bd_p, bc_p, oc_n, oc_s, and_self, and_true, true_and, if_true, if_false, isO_sA', isO_sB', isO_rA', hlen_sA, hlen_sB, hlen_rA, hR_sA, hR_sB, hR_rA, Typ_sA', Typ_sB', Typ_rA', O48, r48_0, r48_1, r48_2, r48_3, r48_4, r48_5, r48_6, r48_8, r48_9, r48_10, r48_11, r48_12, r48_15, r48_21, r48_22, r48_23, r48_24, r48_25, r48_28, r48_30, r48_31, r48_32, r48_35, r48_37, r48_39, r48_40, r48_41, O74, l74, t]
    · obtain ⟨σ1, x1, x2⟩ := x_judge hl hm (row := fun k => hB σ (42 + l) k) m 0 σ I (fun k => rfl) e1 (by omega) 1000 (by omega)
      have t1 := x2.typ t
      have e2' : hA σ1 74 l = nI m := (Kq.A x2 (Nat.lt_of_lt_of_le (by decide) t.1) (by decide) l).trans e2
      obtain ⟨σ2, z1, z2⟩ := m_judge hl hm (row := fun k => hB σ (42 + l) k) m 0 σ1 (I.kp x2) (fun k hk => (Kq.B x2 (Nat.lt_of_lt_of_le (by decide) t.1) (by decide) _).trans (hit k hk).symm) e2' (by omega) 1000 (by omega)
      refine opQ I ⟨jR (badJ V S n FS (fun k => hB σ (42 + l) k)) m 0, σ1, σ2, ?_, x2, ?_, z2⟩
      · unfold f_X5_judge
        simp only [isList_ok, yif c1, beq1, e1, nm11 (show m ≤ 60 by omega), le, cl, if_false, chk_p, lt_p, bd_p, bc_p, oc_n, oc_s, and_self, and_true, true_and, if_true, if_false, isO_sA', isO_sB', isO_rA', hlen_sA, hlen_sB, hlen_rA, hR_sA, hR_sB, hR_rA, Typ_sA', Typ_sB', Typ_rA', O0, r0_0, r0_1, r0_3, r0_4, r0_5, r0_6, r0_7, O46, l46, t]
        exact x1
      · unfold f_X6_judge
        simp only [mIsList_ok, yif c1, beq1, e2', nm1 (show m ≤ 60 by omega), le, cl, if_false, chk_p, lt_p, bd_p, bc_p, oc_n, oc_s, and_self, and_true, true_and, if_true, if_false, isO_sA', isO_sB', isO_rA', hlen_sA, hlen_sB, hlen_rA, hR_sA, hR_sB, hR_rA, Typ_sA', Typ_sB', Typ_rA', O48, r48_0, r48_1, r48_2, r48_3, r48_4, r48_5, r48_6, r48_8, r48_9, r48_10, r48_11, r48_12, r48_15, r48_21, r48_22, r48_23, r48_24, r48_25, r48_28, r48_30, r48_31, r48_32, r48_35, r48_37, r48_39, r48_40, r48_41, O74, l74, t1]
        exact z1
  · have c1 : ¬ (0 ≤ a.toInt ∧ a.toInt < 4) := by omega
    refine opN I (-1) ?_ ?_
    · unfold f_X5_judge
      simp only [isList_ok, nif c1, chk_p, lt_p, bd_p, bc_p, oc_n, oc_s, and_self, and_true, true_and, if_true, if_false, isO_sA', isO_sB', isO_rA', hlen_sA, hlen_sB, hlen_rA, hR_sA, hR_sB, hR_rA, Typ_sA', Typ_sB', Typ_rA']
    · unfold f_X6_judge
      simp only [mIsList_ok, nif c1, chk_p, lt_p, bd_p, bc_p, oc_n, oc_s, and_self, and_true, true_and, if_true, if_false, isO_sA', isO_sB', isO_rA', hlen_sA, hlen_sB, hlen_rA, hR_sA, hR_sB, hR_rA, Typ_sA', Typ_sB', Typ_rA']
end
section
/-! what a formula is worth; exact -/
def pt (v : Nat → Int) (s : Nat) : Int := if s < 6 then v s else 0
def bmix (i : Nat) (v L : Nat → Int) (s : Nat) : Int := if s < i then v s else L s
theorem bmix_up (i : Nat) (v L : Nat → Int) : upI (bmix i v L) i (v i) = bmix (i + 1) v L := by
  funext s
  unfold upI bmix
  by_cases e : s = i
  · subst e; rw [if_pos rfl, if_pos (by omega)]
  · rw [if_neg e]
    by_cases e2 : s < i
    · rw [if_pos e2, if_pos (by omega)]
    · rw [if_neg e2, if_neg (by omega)]
theorem bmix_0 (v L : Nat → Int) : bmix 0 v L = L := by funext s; unfold bmix; rw [if_neg (by omega)]
theorem bmix_6 {v L : Nat → Int} (h : ∀ s, 6 ≤ s → L s = 0) : bmix 6 v L = pt v := by
  funext s; unfold bmix pt
  by_cases e : s < 6
  · rw [if_pos e, if_pos e]
  · rw [if_neg e, if_neg e, h s (by omega)]
theorem LO6 (V S : Nat → Int32) : ∀ s, 6 ≤ s → LO V S s = 0 := fun s hs => by unfold LO; rw [if_neg (by omega)]
theorem HI6 (V S : Nat → Int32) : ∀ s, 6 ≤ s → HI V S s = 0 := fun s hs => by unfold HI; rw [if_neg (by omega)]
def pv (Φ : FM) (v : Nat → Int) (i : Nat) : Int := match SP Φ v v i with | none => 0 | some p => p.1
theorem SP_pt {Φ : FM} {v : Nat → Int} {i : Nat} {p : Int × Int} (e : SP Φ v v i = some p) : p.1 = p.2 := SPI_pt Φ (a := p.1) (b := p.2) e
theorem pv_all {Φ : FM} {v : Nat → Int} {i : Nat} (h : SP Φ v v i ≠ none) : SP Φ v v i = some (pv Φ v i, pv Φ v i) := by
  unfold pv
  cases hx : SP Φ v v i with
  | none => exact absurd hx h
  | some p =>
    have := SP_pt hx
    show some p = some (p.1, p.1)
    rw [show (p.1, p.1) = p from Prod.ext rfl this]
theorem pv_0 {Φ : FM} {v : Nat → Int} {i : Nat} (k : mK Φ i = 0) : pv Φ v i = v (mU Φ i) := by unfold pv; rw [SP_0 k]
theorem pv_1 {Φ : FM} {v : Nat → Int} {i : Nat} (k : mK Φ i = 1) : pv Φ v i = (mU Φ i : Int) := by unfold pv; rw [SP_1 k]
theorem pv_2 {Φ : FM} (hw : wfR Φ) {v : Nat → Int} (ha : ∀ i, i < mN Φ → SP Φ v v i ≠ none) {i : Nat} (hi : i < mN Φ) (k : mK Φ i = 2) : pv Φ v i = -pv Φ v (mU Φ i) ∧ inR (-pv Φ v (mU Φ i)) := by
  have hu := (hw i hi).2.2.2.1 (by omega)
  have e := pv_all (ha i hi)
  rw [SP_2 hw hi k, pv_all (ha _ (by omega))] at e
  obtain ⟨g1, g2, g3⟩ := rg_some (show rg (-pv Φ v (mU Φ i)) (-pv Φ v (mU Φ i)) = some (pv Φ v i, pv Φ v i) from e)
  exact ⟨congrArg Prod.fst g3, g1⟩
theorem pv_3 {Φ : FM} (hw : wfR Φ) {v : Nat → Int} (ha : ∀ i, i < mN Φ → SP Φ v v i ≠ none) {i : Nat} (hi : i < mN Φ) (k : mK Φ i = 3) : pv Φ v i = pv Φ v (mU Φ i) + pv Φ v (mV Φ i) ∧ inR (pv Φ v (mU Φ i) + pv Φ v (mV Φ i)) := by
  have hu := (hw i hi).2.2.2.1 (by omega)
  have hv := (hw i hi).2.2.2.2.1 (by omega)
  have e := pv_all (ha i hi)
  rw [SP_3 hw hi (by omega), pv_all (ha (mU Φ i) (by omega)), pv_all (ha (mV Φ i) (by omega)), k] at e
  obtain ⟨g1, g2, g3⟩ := rg_some (show rg (pv Φ v (mU Φ i) + pv Φ v (mV Φ i)) (pv Φ v (mU Φ i) + pv Φ v (mV Φ i)) = some (pv Φ v i, pv Φ v i) from e)
  exact ⟨congrArg Prod.fst g3, g1⟩
theorem pv_4 {Φ : FM} (hw : wfR Φ) {v : Nat → Int} (ha : ∀ i, i < mN Φ → SP Φ v v i ≠ none) {i : Nat} (hi : i < mN Φ) (k : mK Φ i = 4) : pv Φ v i = pv Φ v (mU Φ i) - pv Φ v (mV Φ i) ∧ inR (pv Φ v (mU Φ i) - pv Φ v (mV Φ i)) := by
  have hu := (hw i hi).2.2.2.1 (by omega)
  have hv := (hw i hi).2.2.2.2.1 (by omega)
  have e := pv_all (ha i hi)
  rw [SP_3 hw hi (by omega), pv_all (ha (mU Φ i) (by omega)), pv_all (ha (mV Φ i) (by omega)), k] at e
  obtain ⟨g1, g2, g3⟩ := rg_some (show rg (pv Φ v (mU Φ i) - pv Φ v (mV Φ i)) (pv Φ v (mU Φ i) - pv Φ v (mV Φ i)) = some (pv Φ v i, pv Φ v i) from e)
  exact ⟨congrArg Prod.fst g3, g1⟩
theorem pv_5 {Φ : FM} (hw : wfR Φ) {v : Nat → Int} (ha : ∀ i, i < mN Φ → SP Φ v v i ≠ none) {i : Nat} (hi : i < mN Φ) (k : mK Φ i = 5) : pv Φ v i = pv Φ v (mU Φ i) * pv Φ v (mV Φ i) ∧ inR (pv Φ v (mU Φ i) * pv Φ v (mV Φ i)) := by
  have hu := (hw i hi).2.2.2.1 (by omega)
  have hv := (hw i hi).2.2.2.2.1 (by omega)
  have e := pv_all (ha i hi)
  rw [SP_3 hw hi (by omega), pv_all (ha (mU Φ i) (by omega)), pv_all (ha (mV Φ i) (by omega)), k] at e
  obtain ⟨⟨g1, -⟩, g3⟩ := pr4_some (show pr4 (pv Φ v (mU Φ i)) (pv Φ v (mU Φ i)) (pv Φ v (mV Φ i)) (pv Φ v (mV Φ i)) = some (pv Φ v i, pv Φ v i) from e)
  refine ⟨(congrArg Prod.fst g3).trans ?_, g1⟩
  show mn4 _ _ _ _ = _
  unfold mn4
  omega
def AtV (σ : HS) (v : Nat → Int) : Prop := ∀ s, s < 6 → (hA σ 27 s).toInt = v s
theorem worthOfPart_ok {σ : HS} (h : Typ σ) {φ : Nat} {Φ : FM} (hx : XF σ φ Φ) (hw : WF Φ) {v : Nat → Int} (hv : AtV σ v) (ha : ∀ i, i < mN Φ → SP Φ v v i ≠ none) {i : Nat} (hi : i < mN Φ) (ih : ∀ j, j < i → (hB σ 40 j).toInt = pv Φ v j) :
    ∃ r, f_X4_worthOfPart 24 φ (nI i) σ = some (r, σ) ∧ r.toInt = pv Φ v i := by
  obtain ⟨ft, hn, hc⟩ := hx
  obtain ⟨c1, c2, c3, c4, c5⟩ := hc i hi
  obtain ⟨w0, w60, wr⟩ := hw
  obtain ⟨k5, ku0, ku1, ku, kv, kv0, kp⟩ := wr i hi
  obtain ⟨f0, f1, ⟨a1, a2, a3⟩, -, ⟨d1, d2, d3⟩, ⟨e1, e2, e3⟩, ⟨g1, g2, g3⟩⟩ := ft
  have ib := inbE (i := i) hi (by omega)
  have ci := cl1000 (i := i) (by omega)
  have q1 := eq_true f1
  have q2 := eq_true a2
  have q3 := eq_true d2
  have q4 := eq_true e2
  have q5 := eq_true g2
  unfold f_X4_worthOfPart
  simp only [chk_p, lt_p, bd_p, bc_p, oc_n, oc_s, and_self, and_true, true_and, if_true, if_false, isO_sA', isO_sB', isO_rA', hlen_sA, hlen_sB, hlen_rA, hR_sA, hR_sB, hR_rA, Typ_sA', Typ_sB', Typ_rA', O24, r24_0, r24_1, r24_5, r24_6, r24_7, r24_8, r24_9, h, q1, q2, q3, q4, q5, a1, a3, d1, d3, e1, e3, g1, g3, ib, ci, c1, c3, c4, c5]
  have h6 : mK Φ i = 0 ∨ mK Φ i = 1 ∨ mK Φ i = 2 ∨ mK Φ i = 3 ∨ mK Φ i = 4 ∨ mK Φ i = 5 := by omega
  rcases h6 with k | k | k | k | k | k
  · have hu := ku0 k
    have iu := inbE (i := mU Φ i) (n := 6) hu (by omega)
    have cu := cl1000 (i := mU Φ i) (by omega)
    simp (decide := true) only [k, if_true, chk_p, lt_p, bd_p, bc_p, oc_n, oc_s, and_self, and_true, true_and, if_true, if_false, isO_sA', isO_sB', isO_rA', hlen_sA, hlen_sB, hlen_rA, hR_sA, hR_sB, hR_rA, Typ_sA', Typ_sB', Typ_rA', O27, l27, h, iu, cu]
    exact ⟨_, rfl, by rw [Int32.toInt_toInt64, hv _ hu, pv_0 k]⟩
  · have hu := ku1 k
    simp (decide := true) only [k, if_true, if_false]
    exact ⟨_, rfl, by rw [Int32.toInt_toInt64, pv_1 k]; exact nI_big (by omega)⟩
  · have hu := ku (by omega)
    have iu := inbE (i := mU Φ i) (n := 60) (by omega) (by omega)
    have cu := cl1000 (i := mU Φ i) (by omega)
    obtain ⟨p1, p2⟩ := pv_2 wr ha hi k
    simp (decide := true) only [k, if_true, if_false, chk_p, lt_p, bd_p, bc_p, oc_n, oc_s, and_self, and_true, true_and, if_true, if_false, isO_sA', isO_sB', isO_rA', hlen_sA, hlen_sB, hlen_rA, hR_sA, hR_sB, hR_rA, Typ_sA', Typ_sB', Typ_rA', O40, l40, h, iu, cu]
    exact ⟨_, rfl, by rw [l_neg (by rw [ih _ hu]; exact p2), ih _ hu, p1]⟩
  · have hu := ku (by omega)
    have hv' := kv (by omega)
    have iu := inbE (i := mU Φ i) (n := 60) (by omega) (by omega)
    have cu := cl1000 (i := mU Φ i) (by omega)
    have iv := inbE (i := mV Φ i) (n := 60) (by omega) (by omega)
    have cv := cl1000 (i := mV Φ i) (by omega)
    obtain ⟨p1, p2⟩ := pv_3 wr ha hi k
    simp (decide := true) only [k, if_true, if_false, chk_p, lt_p, bd_p, bc_p, oc_n, oc_s, and_self, and_true, true_and, if_true, if_false, isO_sA', isO_sB', isO_rA', hlen_sA, hlen_sB, hlen_rA, hR_sA, hR_sB, hR_rA, Typ_sA', Typ_sB', Typ_rA', O40, l40, h, iu, cu, iv, cv]
    exact ⟨_, rfl, by rw [l_add (by rw [ih _ hu, ih _ hv']; exact p2), ih _ hu, ih _ hv', p1]⟩
  · have hu := ku (by omega)
    have hv' := kv (by omega)
    have iu := inbE (i := mU Φ i) (n := 60) (by omega) (by omega)
    have cu := cl1000 (i := mU Φ i) (by omega)
    have iv := inbE (i := mV Φ i) (n := 60) (by omega) (by omega)
    have cv := cl1000 (i := mV Φ i) (by omega)
    obtain ⟨p1, p2⟩ := pv_4 wr ha hi k
    simp (decide := true) only [k, if_true, if_false, chk_p, lt_p, bd_p, bc_p, oc_n, oc_s, and_self, and_true, true_and, if_true, if_false, isO_sA', isO_sB', isO_rA', hlen_sA, hlen_sB, hlen_rA, hR_sA, hR_sB, hR_rA, Typ_sA', Typ_sB', Typ_rA', O40, l40, h, iu, cu, iv, cv]
    exact ⟨_, rfl, by rw [l_sub (by rw [ih _ hu, ih _ hv']; exact p2), ih _ hu, ih _ hv', p1]⟩
  · have hu := ku (by omega)
    have hv' := kv (by omega)
    have iu := inbE (i := mU Φ i) (n := 60) (by omega) (by omega)
    have cu := cl1000 (i := mU Φ i) (by omega)
    have iv := inbE (i := mV Φ i) (n := 60) (by omega) (by omega)
    have cv := cl1000 (i := mV Φ i) (by omega)
    obtain ⟨p1, p2⟩ := pv_5 wr ha hi k
    simp (decide := true) only [k, if_true, if_false, chk_p, lt_p, bd_p, bc_p, oc_n, oc_s, and_self, and_true, true_and, if_true, if_false, isO_sA', isO_sB', isO_rA', hlen_sA, hlen_sB, hlen_rA, hR_sA, hR_sB, hR_rA, Typ_sA', Typ_sB', Typ_rA', O40, l40, h, iu, cu, iv, cv]
    exact ⟨_, rfl, by rw [l_mul (by rw [ih _ hu, ih _ hv']; exact p2), ih _ hu, ih _ hv', p1]⟩
theorem worthOf_lp {φ : Nat} {Φ : FM} (hw : WF Φ) {v : Nat → Int} (ha : ∀ i, i < mN Φ → SP Φ v v i ≠ none) : ∀ (d i : Nat) (σ : HS), Typ σ → XF σ φ Φ → AtV σ v → i + d = mN Φ → (∀ j, j < i → (hB σ 40 j).toInt = pv Φ v j) → ∀ nf, d < nf →
    ∃ r σ', lp_X4_worthOf_2 nf 24 φ (nI i) σ = some (r, σ') ∧ r.toInt = pv Φ v (mN Φ - 1) ∧ Fr [40] σ σ' := by
  intro d
  induction d with
  | zero =>
    intro i σ t hx hv hi hb nf hnf
    obtain ⟨nf, rfl⟩ : ∃ k, nf = k + 1 := ⟨nf - 1, by omega⟩
    obtain ⟨m, hm⟩ : ∃ m, mN Φ = m + 1 := ⟨mN Φ - 1, by have := hw.1; omega⟩
    have : i = m + 1 := by omega
    subst this
    have w60 := hw.2.1
    have im := inbE (i := m) (n := 60) (by omega) (by omega)
    have cm := cl1000 (i := m) (by omega)
    have q0 := eq_true hx.1.2.1
    have hn := hx.2.1
    rw [hm] at hn
    have le : (nI (m + 1) ≤ nI (m + 1)) = True := eq_true (Int32.le_refl _)
    refine ⟨hB σ 40 m, σ, ?_, by rw [hm, Nat.add_sub_cancel]; exact hb m (by omega), Fr.rf⟩
    show lp_X4_worthOf_2_b (lp_X4_worthOf_2 nf) 24 φ (nI (m + 1)) σ = _
    unfold lp_X4_worthOf_2_b
    simp only [chk_p, lt_p, bd_p, bc_p, oc_n, oc_s, and_self, and_true, true_and, if_true, if_false, isO_sA', isO_sB', isO_rA', hlen_sA, hlen_sB, hlen_rA, hR_sA, hR_sB, hR_rA, Typ_sA', Typ_sB', Typ_rA', O24, r24_0, r24_1, r24_5, r24_6, r24_7, r24_8, r24_9, O40, l40, t, q0, hn, le, nI_pred, im, cm]
  | succ d ih =>
    intro i σ t hx hv hi hb nf hnf
    obtain ⟨nf, rfl⟩ : ∃ k, nf = k + 1 := ⟨nf - 1, by omega⟩
    have w60 := hw.2.1
    obtain ⟨r, e, er⟩ := worthOfPart_ok t hx hw hv ha (i := i) (by omega) hb
    have fr : Fr [40] σ (sB σ 40 i r) := Fr_sB (by simp)
    obtain ⟨r', σ', e1, e2, e3⟩ := ih (i + 1) (sB σ 40 i r) t (hx.fr fr (by decide)) (fun s hs => hv s hs) (by omega) (fun j hj => by
      rw [hB_sB]
      by_cases z : j = i
      · rw [if_pos ⟨rfl, z⟩, z]; exact er
      · rw [if_neg (fun y => z y.2)]; exact hb j (by omega)) nf (by omega)
    refine ⟨r', σ', ?_, e2, fr.seq e3⟩
    have q0 := eq_true hx.1.2.1
    have hn := hx.2.1
    have le := nle (a := mN Φ) (b := i) (by omega) (by omega)
    have ie := inbE (i := i) (n := 60) (by omega) (by omega)
    have ci := cl1000 (i := i) (by omega)
    show lp_X4_worthOf_2_b (lp_X4_worthOf_2 nf) 24 φ (nI i) σ = _
    unfold lp_X4_worthOf_2_b
    simp only [chk_p, lt_p, bd_p, bc_p, oc_n, oc_s, and_self, and_true, true_and, if_true, if_false, isO_sA', isO_sB', isO_rA', hlen_sA, hlen_sB, hlen_rA, hR_sA, hR_sB, hR_rA, Typ_sA', Typ_sB', Typ_rA', O24, r24_0, r24_1, r24_5, r24_6, r24_7, r24_8, r24_9, O40, l40, t, q0, hn, le, if_false, e, ie, ci, nI_s, e1]
theorem c_worth {σ : HS} {φ f : Nat} {Φ : FM} {V S C : Nat → Int32} (hw : WF Φ) (h : CS σ φ f Φ V S C) {v : Nat → Int} (hv : AtV σ v) (ha : ∀ i, i < mN Φ → SP Φ v v i ≠ none) : ∃ σ', f_X4_worthOf 24 φ σ = some (Int64.ofInt (pv Φ v (mN Φ - 1)), σ') ∧ Kp σ σ' ∧ CS σ' φ f Φ V S C ∧ Fr [40] σ σ' := by
  have w60 := hw.2.1
  obtain ⟨r, σ', e1, e2, e3⟩ := worthOf_lp hw ha (mN Φ) 0 σ h.1 h.2.1 hv (by omega) (fun j hj => by omega) 1000 (by omega)
  have k : Kp σ σ' := e3.kp (by decide)
  refine ⟨σ', ?_, k, h.kp k, e3⟩
  rw [ofI_eq e2]; exact e1
theorem pt_some {Φ : FM} (hg : Good Φ) {V S : Nat → Int32} (hx : RT Φ (LO V S) (HI V S) ≠ none) {v : Nat → Int} (hv : ∀ s, s < 6 → LO V S s ≤ v s ∧ v s ≤ HI V S s) : ∀ i, i < mN Φ → SP Φ (pt v) (pt v) i ≠ none := fun i hi => by
  obtain ⟨p, hp⟩ := Option.ne_none_iff_exists'.mp (all_some hg hx (mN Φ - 1 - i) i (by omega))
  obtain ⟨a, b, e, -⟩ := SP_nar (Φ := Φ) (L := LO V S) (H := HI V S) (L' := pt v) (H' := pt v) (fun s => by
    by_cases hs : s < 6
    · obtain ⟨h1, h2⟩ := hv s hs
      unfold pt; rw [if_pos hs]; exact ⟨h1, Int.le_refl _, h2⟩
    · unfold pt; rw [if_neg hs, LO6 V S s (by omega), HI6 V S s (by omega)]; exact ⟨Int.le_refl _, Int.le_refl _, Int.le_refl _⟩) i p.1 p.2 hp
  rw [e]; exact fun z => by cases z
/-- the reference at a point -/
theorem m_pt {σ : HS} {φ f : Nat} {Φ : FM} {V S C : Nat → Int32} (hf : f < 7) (hw : WF Φ) (h : CS σ φ f Φ V S C) {v : Nat → Int} (hb : BxM σ v v) (ha : ∀ i, i < mN Φ → SP Φ v v i ≠ none) : ∃ r σ', f_X6_spans 48 (nI f) σ = some (r, σ') ∧ Kp σ σ' ∧ CS σ' φ f Φ V S C ∧ BxM σ' v v ∧ f_X6_lowOf 48 (nI f) σ' = some (Int64.ofInt (pv Φ v (mN Φ - 1)), σ') := by
  have w1 := hw.1
  obtain ⟨σ', z1, z2, z3, z4, z5, z6⟩ := m_spans hf hw h hb
  refine ⟨_, σ', z1, z2, z3, z5, ?_⟩
  have rt := z4 (mN Φ - 1) (by omega)
  rw [pv_all (ha _ (by omega))] at rt
  rw [m_lo hf hw z3, ofI_eq rt.2.1]
theorem x_exact {φ f : Nat} {Φ : FM} {V S C : Nat → Int32} (hw : WF Φ) (ha : ∀ i, i < mN Φ → SP Φ (pt (fun s => (V s).toInt)) (pt (fun s => (V s).toInt)) i ≠ none) (a : Int32) : ∀ d i (σ : HS), CS σ φ f Φ V S C → (∀ s, s < i → hA σ 27 s = V s) → i + d = 6 → ∀ nf, d < nf → ∃ σ', lp_X5_exact_35 nf 0 a φ (nI i) σ = some (Int64.ofInt (pv Φ (pt (fun s => (V s).toInt)) (mN Φ - 1)), σ') ∧ Kp σ σ' := by
  intro d
  induction d with
  | zero =>
    intro i σ h hat hi nf hnf
    obtain ⟨nf, rfl⟩ : ∃ k, nf = k + 1 := ⟨nf - 1, by omega⟩
    have : i = 6 := by omega
    subst this
    obtain ⟨σ', e1, e2, -⟩ := c_worth hw h (v := pt (fun s => (V s).toInt)) (fun s hs => by rw [hat s hs]; unfold pt; rw [if_pos hs]) ha
    refine ⟨σ', ?_, e2⟩
    have t := h.1
    show lp_X5_exact_35_b (lp_X5_exact_35 nf) 0 a φ (nI 6) σ = _
    unfold lp_X5_exact_35_b
    rw [if_pos (by decide)]
    simp only [chk_p, lt_p, bd_p, bc_p, oc_n, oc_s, and_self, and_true, true_and, if_true, if_false, isO_sA', isO_sB', isO_rA', hlen_sA, hlen_sB, hlen_rA, hR_sA, hR_sB, hR_rA, Typ_sA', Typ_sB', Typ_rA', O0, r0_0, r0_1, r0_3, r0_4, r0_5, r0_6, r0_7, O24, r24_0, r24_1, r24_5, r24_6, r24_7, r24_8, r24_9, t, e1]
  | succ d ih =>
    intro i σ h hat hi nf hnf
    obtain ⟨nf, rfl⟩ : ∃ k, nf = k + 1 := ⟨nf - 1, by omega⟩
    have t := h.1
    have fr : Fr [27] σ (sA σ 27 i (V i)) := Fr_sA (by simp)
    have k : Kp σ (sA σ 27 i (V i)) := fr.kp (by decide)
    obtain ⟨σ', e1, e2⟩ := ih (i + 1) (sA σ 27 i (V i)) (h.kp k) (fun s hs => by
      rw [hA_sA]
      by_cases z : s = i
      · rw [if_pos ⟨rfl, z⟩, z]
      · rw [if_neg (fun y => z y.2)]; exact hat s (by omega)) (by omega) nf (by omega)
    refine ⟨σ', ?_, k.seq e2⟩
    have le : (6 : Int32) ≤ nI i ↔ False := by rw [show (6 : Int32) = nI 6 from rfl, nle (a := 6) (b := i) (by omega) (by omega)]
    have le := eq_false (fun z => le.mp z)
    have ie := inbE (i := i) (n := 6) (by omega) (by omega)
    have ci := cl1000 (i := i) (by omega)
    have v := (cs_val h (show i < 6 by omega)).1
    show lp_X5_exact_35_b (lp_X5_exact_35 nf) 0 a φ (nI i) σ = _
    unfold lp_X5_exact_35_b
    simp only [chk_p, lt_p, bd_p, bc_p, oc_n, oc_s, and_self, and_true, true_and, if_true, if_false, isO_sA', isO_sB', isO_rA', hlen_sA, hlen_sB, hlen_rA, hR_sA, hR_sB, hR_rA, Typ_sA', Typ_sB', Typ_rA', O0, r0_0, r0_1, r0_3, r0_4, r0_5, r0_6, r0_7, O1, r1_0, r1_1, r1_2, r1_3, r1_5, r1_6, r1_7, O2, l2, O24, r24_0, r24_1, r24_5, r24_6, r24_7, r24_8, r24_9, O27, l27, t, le, if_false, ie, ci, v, nI_s, e1]
theorem m_exact {φ f : Nat} {Φ : FM} {V S C : Nat → Int32} (hf : f < 7) (hw : WF Φ) (ha : ∀ i, i < mN Φ → SP Φ (pt (fun s => (V s).toInt)) (pt (fun s => (V s).toInt)) i ≠ none) : ∀ d i (σ : HS), CS σ φ f Φ V S C → BxM σ (bmix i (fun s => (V s).toInt) (LO V S)) (bmix i (fun s => (V s).toInt) (HI V S)) → i + d = 6 → ∀ nf, d < nf → ∃ σ', lp_X6_exact_26 nf 48 (nI f) (nI i) σ = some (Int64.ofInt (pv Φ (pt (fun s => (V s).toInt)) (mN Φ - 1)), σ') ∧ Kp σ σ' := by
  intro d
  induction d with
  | zero =>
    intro i σ h hb hi nf hnf
    obtain ⟨nf, rfl⟩ : ∃ k, nf = k + 1 := ⟨nf - 1, by omega⟩
    have : i = 6 := by omega
    subst this
    rw [bmix_6 (LO6 V S), bmix_6 (HI6 V S)] at hb
    obtain ⟨r, σ', e1, e2, e3, e4, e5⟩ := m_pt hf hw h hb ha
    refine ⟨σ', ?_, e2⟩
    have t := h.1
    have t1 := e3.1
    show lp_X6_exact_26_b (lp_X6_exact_26 nf) 48 (nI f) (nI 6) σ = _
    unfold lp_X6_exact_26_b
    rw [if_pos (by decide)]
    simp only [chk_p, lt_p, bd_p, bc_p, oc_n, oc_s, and_self, and_true, true_and, if_true, if_false, isO_sA', isO_sB', isO_rA', hlen_sA, hlen_sB, hlen_rA, hR_sA, hR_sB, hR_rA, Typ_sA', Typ_sB', Typ_rA', O48, r48_0, r48_1, r48_2, r48_3, r48_4, r48_5, r48_6, r48_8, r48_9, r48_10, r48_11, r48_12, r48_15, r48_21, r48_22, r48_23, r48_24, r48_25, r48_28, r48_30, r48_31, r48_32, r48_35, r48_37, r48_39, r48_40, r48_41, t, t1, e1, e5]
  | succ d ih =>
    intro i σ h hb hi nf hnf
    obtain ⟨nf, rfl⟩ : ∃ k, nf = k + 1 := ⟨nf - 1, by omega⟩
    have t := h.1
    obtain ⟨l1, l2, l3⟩ := m_laysPoint t hb (show i < 6 by omega) (a := V i)
    have k := l3.kp (by decide)
    rw [bmix_up i (fun s => (V s).toInt), bmix_up i (fun s => (V s).toInt)] at l2
    obtain ⟨σ', e1, e2⟩ := ih (i + 1) _ (h.kp k) l2 (by omega) nf (by omega)
    refine ⟨σ', ?_, k.seq e2⟩
    have le : (6 : Int32) ≤ nI i ↔ False := by rw [show (6 : Int32) = nI 6 from rfl, nle (a := 6) (b := i) (by omega) (by omega)]
    have le := eq_false (fun z => le.mp z)
    show lp_X6_exact_26_b (lp_X6_exact_26 nf) 48 (nI f) (nI i) σ = _
    unfold lp_X6_exact_26_b
    simp only [chk_p, lt_p, bd_p, bc_p, oc_n, oc_s, and_self, and_true, true_and, if_true, if_false, isO_sA', isO_sB', isO_rA', hlen_sA, hlen_sB, hlen_rA, hR_sA, hR_sB, hR_rA, Typ_sA', Typ_sB', Typ_rA', O48, r48_0, r48_1, r48_2, r48_3, r48_4, r48_5, r48_6, r48_8, r48_9, r48_10, r48_11, r48_12, r48_15, r48_21, r48_22, r48_23, r48_24, r48_25, r48_28, r48_30, r48_31, r48_32, r48_35, r48_37, r48_39, r48_40, r48_41, t, le, if_false, m_val h (show i < 6 by omega), l1, nI_s, e1]
theorem op_exact (a : Int32) : OpOK (f_X5_exact 0 a) (f_X6_exact 48 a) := by
  intro σ V S C n FS I
  have t := I.1
  rcases start I a with ⟨k, φ, hk, rfl, ef, hg, hc, -, em⟩ | ⟨ef, em⟩
  · obtain ⟨σ1, x1, x2, x3, x4, x5, x6⟩ := c_now hg.1 hc
    have t1 := x3.1
    have eml := em σ1 t1 x2.k7
    have xo := th_over x5
    by_cases hx : RT (FS k) (LO V S) (HI V S) = none
    · obtain ⟨σ2, z1, z2, z3, z4, z5, z6⟩ := m_now hk hg.1 x3
      rw [hx] at xo z1
      have xo' : hA σ1 24 2 = 1 := xo
      refine opQ I ⟨-9223372036854775807, σ1, σ2, ?_, x2, ?_, z2⟩
      · unfold f_X5_exact
        simp only [chk_p, lt_p, bd_p, bc_p, oc_n, oc_s, and_self, and_true, true_and, if_true, if_false, isO_sA', isO_sB', isO_rA', hlen_sA, hlen_sB, hlen_rA, hR_sA, hR_sB, hR_rA, Typ_sA', Typ_sB', Typ_rA', O0, r0_0, r0_1, r0_3, r0_4, r0_5, r0_6, r0_7, O24, r24_0, r24_1, r24_5, r24_6, r24_7, r24_8, r24_9, t, t1, ef, x1, xo', beq1, if_false]
      · unfold f_X6_exact
        simp only [chk_p, lt_p, bd_p, bc_p, oc_n, oc_s, and_self, and_true, true_and, if_true, if_false, isO_sA', isO_sB', isO_rA', hlen_sA, hlen_sB, hlen_rA, hR_sA, hR_sB, hR_rA, Typ_sA', Typ_sB', Typ_rA', O48, r48_0, r48_1, r48_2, r48_3, r48_4, r48_5, r48_6, r48_8, r48_9, r48_10, r48_11, r48_12, r48_15, r48_21, r48_22, r48_23, r48_24, r48_25, r48_28, r48_30, r48_31, r48_32, r48_35, r48_37, r48_39, r48_40, r48_41, t1, eml, beq1, if_false, z1, rc]
    · obtain ⟨p, hp⟩ := Option.ne_none_iff_exists'.mp hx
      have ha := pt_some hg hx (v := fun s => (V s).toInt) (fun s hs => by
        have v := cs_val hc hs
        obtain ⟨-, -, -, -, -, -, -, v2, -⟩ := v
        unfold LO HI; rw [if_pos hs, if_pos hs]
        show (V s).toInt - _ ≤ (V s).toInt ∧ (V s).toInt ≤ _
        omega)
      obtain ⟨σ2, u1, u2⟩ := x_exact (f := k) (C := C) hg.1 ha (nI k) 6 0 σ1 x3 (fun s hs => by omega) (by omega) 1000 (by omega)
      have c2 := x3.kp u2
      obtain ⟨σ3, z1, z2, z3, z4, z5, z6⟩ := m_now hk hg.1 c2
      obtain ⟨σ4, y1, y2⟩ := m_exact hk hg.1 ha 6 0 σ3 z3 (by rw [bmix_0, bmix_0]; exact z5) (by omega) 1000 (by omega)
      rw [hp] at z1 x5
      have xo' : hA σ1 24 2 = 0 := x5.1
      have t2 := c2.1
      have t3 := z3.1
      refine opQ I ⟨Int64.ofInt (pv (FS k) (pt (fun s => (V s).toInt)) (mN (FS k) - 1)), σ2, σ4, ?_, x2.seq u2, ?_, z2.seq y2⟩
      · unfold f_X5_exact
        simp only [chk_p, lt_p, bd_p, bc_p, oc_n, oc_s, and_self, and_true, true_and, if_true, if_false, isO_sA', isO_sB', isO_rA', hlen_sA, hlen_sB, hlen_rA, hR_sA, hR_sB, hR_rA, Typ_sA', Typ_sB', Typ_rA', O0, r0_0, r0_1, r0_3, r0_4, r0_5, r0_6, r0_7, O24, r24_0, r24_1, r24_5, r24_6, r24_7, r24_8, r24_9, t, t1, ef, x1, xo']
        exact u1
      · unfold f_X6_exact
        simp only [chk_p, lt_p, bd_p, bc_p, oc_n, oc_s, and_self, and_true, true_and, if_true, if_false, isO_sA', isO_sB', isO_rA', hlen_sA, hlen_sB, hlen_rA, hR_sA, hR_sB, hR_rA, Typ_sA', Typ_sB', Typ_rA', O48, r48_0, r48_1, r48_2, r48_3, r48_4, r48_5, r48_6, r48_8, r48_9, r48_10, r48_11, r48_12, r48_15, r48_21, r48_22, r48_23, r48_24, r48_25, r48_28, r48_30, r48_31, r48_32, r48_35, r48_37, r48_39, r48_40, r48_41, t2, t3, em σ2 t2 (x2.seq u2).k7, beq1, if_false, z1, rc]
        exact y1
  · refine opN I (-9223372036854775808) ?_ ?_
    · unfold f_X5_exact
      simp only [chk_p, lt_p, bd_p, bc_p, oc_n, oc_s, and_self, and_true, true_and, if_true, if_false, isO_sA', isO_sB', isO_rA', hlen_sA, hlen_sB, hlen_rA, hR_sA, hR_sB, hR_rA, Typ_sA', Typ_sB', Typ_rA', O0, r0_0, r0_1, r0_3, r0_4, r0_5, r0_6, r0_7, t, ef]
    · unfold f_X6_exact
      simp only [chk_p, lt_p, bd_p, bc_p, oc_n, oc_s, and_self, and_true, true_and, if_true, if_false, isO_sA', isO_sB', isO_rA', hlen_sA, hlen_sB, hlen_rA, hR_sA, hR_sB, hR_rA, Typ_sA', Typ_sB', Typ_rA', O48, r48_0, r48_1, r48_2, r48_3, r48_4, r48_5, r48_6, r48_8, r48_9, r48_10, r48_11, r48_12, r48_15, r48_21, r48_22, r48_23, r48_24, r48_25, r48_28, r48_30, r48_31, r48_32, r48_35, r48_37, r48_39, r48_40, r48_41, t, em]
end
section
/-! split -/
theorem upI_self (L : Nat → Int) (s : Nat) {x : Int} (h : x = L s) : upI L s x = L := by
  funext i; unfold upI
  by_cases e : i = s
  · rw [if_pos e, h, e]
  · rw [if_neg e]
theorem upI_upI (L : Nat → Int) (s : Nat) (x y : Int) : upI (upI L s x) s y = upI L s y := by
  funext i; unfold upI
  by_cases e : i = s
  · rw [if_pos e, if_pos e]
  · rw [if_neg e, if_neg e, if_neg e]
/-- both halves joined -/
def spl (x y : Option (Int × Int)) : Option (Int × Int) := match x with
  | none => none
  | some p => match y with
    | none => none
    | some q => some (min p.1 q.1, max p.2 q.2)
def splR (Φ : FM) (V S : Nat → Int32) (s : Nat) (c : Int) : Option (Int × Int) := spl (RT Φ (LO V S) (upI (HI V S) s c)) (RT Φ (upI (LO V S) s c) (HI V S))
theorem half_some {Φ : FM} {V S : Nat → Int32} (hl : ∀ s, LO V S s ≤ HI V S s) {p : Int × Int} (hx : RT Φ (LO V S) (HI V S) = some p) {s : Nat} {c : Int} (h1 : LO V S s ≤ c) (h2 : c ≤ HI V S s) : (∃ q, RT Φ (LO V S) (upI (HI V S) s c) = some q ∧ q.1 ≤ q.2 ∧ p.1 ≤ q.1 ∧ q.2 ≤ p.2) ∧ ∃ q, RT Φ (upI (LO V S) s c) (HI V S) = some q ∧ q.1 ≤ q.2 ∧ p.1 ≤ q.1 ∧ q.2 ≤ p.2 := by
  constructor
  · obtain ⟨a, b, e, e1, e2, e3⟩ := SP_nar (Φ := Φ) (L := LO V S) (H := HI V S) (L' := LO V S) (H' := upI (HI V S) s c) (fun i => by
      unfold upI
      by_cases e : i = s
      · rw [if_pos e, e]; exact ⟨Int.le_refl _, h1, h2⟩
      · rw [if_neg e]; exact ⟨Int.le_refl _, hl i, Int.le_refl _⟩) (mN Φ - 1) p.1 p.2 hx
    exact ⟨(a, b), e, e2, e1, e3⟩
  · obtain ⟨a, b, e, e1, e2, e3⟩ := SP_nar (Φ := Φ) (L := LO V S) (H := HI V S) (L' := upI (LO V S) s c) (H' := HI V S) (fun i => by
      unfold upI
      by_cases e : i = s
      · rw [if_pos e, e]; exact ⟨h1, h2, Int.le_refl _⟩
      · rw [if_neg e]; exact ⟨Int.le_refl _, hl i, Int.le_refl _⟩) (mN Φ - 1) p.1 p.2 hx
    exact ⟨(a, b), e, e2, e1, e3⟩
theorem splR_some {Φ : FM} {V S : Nat → Int32} (hl : ∀ s, LO V S s ≤ HI V S s) {p : Int × Int} (hx : RT Φ (LO V S) (HI V S) = some p) {s : Nat} {c : Int} (h1 : LO V S s ≤ c) (h2 : c ≤ HI V S s) : ∃ r, splR Φ V S s c = some r ∧ p.1 ≤ r.1 ∧ r.1 ≤ r.2 ∧ r.2 ≤ p.2 := by
  obtain ⟨⟨q1, a1, a2, a3, a4⟩, q2, b1, b2, b3, b4⟩ := half_some hl hx h1 h2
  refine ⟨(min q1.1 q2.1, max q1.2 q2.2), ?_, ?_, ?_, ?_⟩
  · unfold splR; rw [a1, b1]; rfl
  · show p.1 ≤ min q1.1 q2.1; omega
  · show min q1.1 q2.1 ≤ max q1.2 q2.2; omega
  · show max q1.2 q2.2 ≤ p.2; omega
theorem c_split {σ : HS} {φ f : Nat} {Φ : FM} {V S C : Nat → Int32} (hw : WF Φ) (h : CS σ φ f Φ V S C) (hb : Bx σ (LO V S) (HI V S)) {p : Int × Int} (hx : RT Φ (LO V S) (HI V S) = some p) {s : Nat} (hs : s < 6) {c : Int32} (h1 : LO V S s ≤ c.toInt) (h2 : c.toInt ≤ HI V S s) :
    ∃ σ', f_X5_carrySplit 0 φ (nI s) c σ = some ((), σ') ∧ Kp σ σ' ∧ CS σ' φ f Φ V S C ∧ Bx σ' (LO V S) (HI V S) ∧ Th σ' (splR Φ V S s c.toInt) := by
  have v := cs_val h hs
  obtain ⟨-, -, -, -, -, -, -, -, -, vl, vh⟩ := v
  have t := h.1
  obtain ⟨⟨q1, a1, a2, a3, a4⟩, q2, b1, b2, b3, b4⟩ := half_some (LOHI h) hx h1 h2
  obtain ⟨s1, s2, s3⟩ := c_stand t hb hs (a := V s - S s) (b := c) (by rw [vl]; exact h1)
  rw [vl, upI_self (LO V S) s rfl] at s2
  have k1 := s3.kp (by decide)
  have c1 := h.kp k1
  obtain ⟨σ2, e1, e2, e3, e4, e5, e6, e7⟩ := c_carry hw c1 s2
  obtain ⟨r1, r2, r3⟩ := c_stand e3.1 e6 hs (a := c) (b := V s + S s) (by rw [vh]; exact h2)
  rw [vh, upI_upI, upI_self (HI V S) s rfl] at r2
  have k3 := r3.kp (by decide)
  have c3 := e3.kp k3
  obtain ⟨σ4, g1, g2, g3, g4, g5, g6, g7⟩ := c_carry hw c3 r2
  obtain ⟨m1, hm1⟩ : ∃ m1, m1 = (if hB σ4 24 3 < hB σ2 24 3 then hB σ4 24 3 else hB σ2 24 3) := ⟨_, rfl⟩
  obtain ⟨m2, hm2⟩ : ∃ m2, m2 = (if hB σ4 24 4 < hB σ2 24 4 then hB σ2 24 4 else hB σ4 24 4) := ⟨_, rfl⟩
  have f5 : Fr [24] σ4 (sB (sB σ4 24 3 m1) 24 4 m2) := (Fr_sB (by simp)).seq (Fr_sB (by simp))
  have k5 := f5.kp (by decide)
  have c5 := g3.kp k5
  have b5 : Bx (sB (sB σ4 24 3 m1) 24 4 m2) (upI (LO V S) s c.toInt) (HI V S) := g6.fr f5 (by decide) (by decide)
  obtain ⟨u1, u2, u3⟩ := c_stand c5.1 b5 hs (a := V s - S s) (b := V s + S s) (by rw [vl, vh]; omega)
  rw [vl, vh, upI_upI, upI_self (LO V S) s rfl, upI_self (HI V S) s rfl] at u2
  have k6 := u3.kp (by decide)
  rw [a1] at e5
  rw [b1] at g5
  obtain ⟨x1, x2, x3, x4⟩ := e5
  obtain ⟨y1, y2, y3, y4⟩ := g5
  refine ⟨_, ?_, ((((k1.seq e2).seq k3).seq g2).seq k5).seq k6, c5.kp k6, u2, ?_⟩
  · have t1 := c1.1
    have t2 := e3.1
    have t3 := c3.1
    have t4 := g3.1
    have t5 : Typ (sB σ4 24 3 m1) := t4
    have l5 := c_low c5 hs
    have h5 := c_high c5 hs
    unfold f_X5_carrySplit
    simp only [chk_p, lt_p, bd_p, bc_p, oc_n, oc_s, and_self, and_true, true_and, if_true, if_false, isO_sA', isO_sB', isO_rA', hlen_sA, hlen_sB, hlen_rA, hR_sA, hR_sB, hR_rA, Typ_sA', Typ_sB', Typ_rA', O0, r0_0, r0_1, r0_3, r0_4, r0_5, r0_6, r0_7, O1, r1_0, r1_1, r1_2, r1_3, r1_5, r1_6, r1_7, O24, r24_0, r24_1, r24_5, r24_6, r24_7, r24_8, r24_9, t, t1, t2, t3, t4, t5, c_low h hs, s1, e1, c_high e3 hs, r1, g1, ← hm1]
    simp (decide := true) only [hB_sB, if_false, ← hm2, chk_p, lt_p, bd_p, bc_p, oc_n, oc_s, and_self, and_true, true_and, if_true, if_false, isO_sA', isO_sB', isO_rA', hlen_sA, hlen_sB, hlen_rA, hR_sA, hR_sB, hR_rA, Typ_sA', Typ_sB', Typ_rA', O0, r0_0, r0_1, r0_3, r0_4, r0_5, r0_6, r0_7, O1, r1_0, r1_1, r1_2, r1_3, r1_5, r1_6, r1_7, O24, r24_0, r24_1, r24_5, r24_6, r24_7, r24_8, r24_9, t4, l5, h5, u1]
  · unfold splR
    rw [a1, b1]
    refine ⟨y1, ?_, ?_, ?_⟩
    · show m1.toInt = min q1.1 q2.1
      rw [hm1, l_min, x2, y2]
    · show m2.toInt = max q1.2 q2.2
      rw [hm2, l_max, x3, y3]
    · show min q1.1 q2.1 ≤ max q1.2 q2.2; omega
theorem m_of3 {σ : HS} {φ f : Nat} {Φ : FM} {V S C : Nat → Int32} (h : CS σ φ f Φ V S C) {s : Nat} (hs : s < 6) : f_X6_of 48 (nI s) 3 σ = some (V s - S s, σ) := by
  have em := isIn_c 3 0 4 0 4 rfl rfl σ
  rw [show (3 : Int32).toInt = 3 from rfl, if_pos (by omega)] at em
  have t := h.1
  unfold f_X6_of
  simp (decide := true) only [mIsSource_ok, yif (inS hs), beq1, em, m_val h hs, m_span h hs, chk_p, lt_p, bd_p, bc_p, oc_n, oc_s, and_self, and_true, true_and, if_true, if_false, isO_sA', isO_sB', isO_rA', hlen_sA, hlen_sB, hlen_rA, hR_sA, hR_sB, hR_rA, Typ_sA', Typ_sB', Typ_rA', O48, r48_0, r48_1, r48_2, r48_3, r48_4, r48_5, r48_6, r48_8, r48_9, r48_10, r48_11, r48_12, r48_15, r48_21, r48_22, r48_23, r48_24, r48_25, r48_28, r48_30, r48_31, r48_32, r48_35, r48_37, r48_39, r48_40, r48_41, t, if_false]
theorem m_of4 {σ : HS} {φ f : Nat} {Φ : FM} {V S C : Nat → Int32} (h : CS σ φ f Φ V S C) {s : Nat} (hs : s < 6) : f_X6_of 48 (nI s) 4 σ = some (V s + S s, σ) := by
  have em := isIn_c 4 0 4 0 4 rfl rfl σ
  rw [show (4 : Int32).toInt = 4 from rfl, if_pos (by omega)] at em
  have t := h.1
  unfold f_X6_of
  simp (decide := true) only [mIsSource_ok, yif (inS hs), beq1, em, m_val h hs, m_span h hs, chk_p, lt_p, bd_p, bc_p, oc_n, oc_s, and_self, and_true, true_and, if_true, if_false, isO_sA', isO_sB', isO_rA', hlen_sA, hlen_sB, hlen_rA, hR_sA, hR_sB, hR_rA, Typ_sA', Typ_sB', Typ_rA', O48, r48_0, r48_1, r48_2, r48_3, r48_4, r48_5, r48_6, r48_8, r48_9, r48_10, r48_11, r48_12, r48_15, r48_21, r48_22, r48_23, r48_24, r48_25, r48_28, r48_30, r48_31, r48_32, r48_35, r48_37, r48_39, r48_40, r48_41, t, if_false]
theorem Kp_l {σ : HS} {k : Nat} {v : Int64} : Kp σ (sB σ 48 k v) := ⟨Nat.le_refl _, fun _ _ => ⟨rfl, rfl⟩, fun _ _ => rfl, fun j _ hj => ⟨rfl, up2_ne (fun e => by subst e; exact absurd hj (by decide))⟩, fun k hk => rfl, fun j hj => scj_76 hj, fun j _ hj => by cases hj⟩
theorem m_split {σ : HS} {φ f : Nat} {Φ : FM} {V S C : Nat → Int32} (hf : f < 7) (hw : WF Φ) (h : CS σ φ f Φ V S C) {p : Int × Int} (hx : RT Φ (LO V S) (HI V S) = some p) {s : Nat} (hs : s < 6) {c : Int32} (h1 : LO V S s ≤ c.toInt) (h2 : c.toInt ≤ HI V S s) :
    ∃ σ' r, f_X6_splits 48 (nI f) (nI s) c σ = some ((), σ') ∧ Kp σ σ' ∧ CS σ' φ f Φ V S C ∧ splR Φ V S s c.toInt = some r ∧ (hB σ' 48 33).toInt = r.1 ∧ (hB σ' 48 34).toInt = r.2 ∧ r.1 ≤ r.2 := by
  have v := cs_val h hs
  obtain ⟨-, -, -, -, -, -, -, -, -, vl, vh⟩ := v
  have t := h.1
  have w1 := hw.1
  obtain ⟨⟨q1, a1, a2, a3, a4⟩, q2, b1, b2, b3, b4⟩ := half_some (LOHI h) hx h1 h2
  obtain ⟨σ1, x1, x2, x3, x4, x5⟩ := m_box h
  have t1 := x3.1
  have f2 : Fr [63] σ1 (sA σ1 63 s c) := Fr_sA (by simp)
  have k2 := f2.kp (by decide)
  have c2 := x3.kp k2
  have b2' : BxM (sA σ1 63 s c) (LO V S) (upI (HI V S) s c.toInt) := by
    refine ⟨fun i => ?_, fun i hi => ?_⟩
    · unfold upI
      by_cases e : i = s
      · rw [if_pos e, e]; exact h1
      · rw [if_neg e]; exact x4.1 i
    · obtain ⟨e1, e2⟩ := x4.2 i hi
      unfold upI
      by_cases e : i = s
      · subst e; simp (decide := true) only [hA_sA, if_true, if_false, and_self, and_true, false_and, e1]
      · simp (decide := true) only [hA_sA, e, if_true, if_false, and_false, false_and, e1, e2, and_self]
  obtain ⟨σ3, e1, e2, e3, e4, e5, e6⟩ := m_spans hf hw c2 b2'
  have t3 := e3.1
  have rt := e4 (mN Φ - 1) (by omega)
  rw [show SP Φ (LO V S) (upI (HI V S) s c.toInt) (mN Φ - 1) = some q1 from a1] at rt
  obtain ⟨r1, r2, r3, r4⟩ := rt
  obtain ⟨l1, hl1⟩ : ∃ l1, l1 = hB σ3 64 (mN Φ - 1) := ⟨_, rfl⟩
  obtain ⟨g1, hg1⟩ : ∃ g1, g1 = hB σ3 65 (mN Φ - 1) := ⟨_, rfl⟩
  have k4 : Kp σ3 (sB (sB σ3 48 33 l1) 48 34 g1) := Kp_l.seq Kp_l
  have c4 := e3.kp k4
  have b4' : BxM (sB (sB σ3 48 33 l1) 48 34 g1) (LO V S) (upI (HI V S) s c.toInt) := e5
  have hto : hA σ1 63 s = V s + S s := Int32.toInt_inj.mp (by rw [(x4.2 s hs).2, vh])
  obtain ⟨y1, y2, y3⟩ := m_lays c4.1 b4' hs (a := c) (b := V s + S s) (by rw [vh]; exact h2)
  rw [vh, upI_upI, upI_self (HI V S) s rfl] at y2
  have k5 := y3.kp (by decide)
  have c5 := c4.kp k5
  obtain ⟨σ6, z1, z2, z3, z4, z5, z6⟩ := m_spans hf hw c5 y2
  have t6 := z3.1
  have rt := z4 (mN Φ - 1) (by omega)
  rw [show SP Φ (upI (LO V S) s c.toInt) (HI V S) (mN Φ - 1) = some q2 from b1] at rt
  obtain ⟨o1, o2, o3, o4⟩ := rt
  have p33 : hB σ6 48 33 = l1 ∧ hB σ6 48 34 = g1 := by
    have q : ∀ k, (k = 33 ∨ k = 34) → hB σ6 48 k = hB (sA (sA (sB (sB σ3 48 33 l1) 48 34 g1) 62 s c) 63 s (V s + S s)) 48 k := fun k hk => ?_
    · rw [q 33 (Or.inl rfl), q 34 (Or.inr rfl)]
      simp (decide := true) only [hB_sA, hB_sB, if_true, if_false, and_self, and_false]
    · exact z6.2.2 k (by omega)
  obtain ⟨m1, hm1⟩ : ∃ m1, m1 = (if hB σ6 64 (mN Φ - 1) < l1 then hB σ6 64 (mN Φ - 1) else l1) := ⟨_, rfl⟩
  obtain ⟨m2, hm2⟩ : ∃ m2, m2 = (if hB σ6 65 (mN Φ - 1) < g1 then g1 else hB σ6 65 (mN Φ - 1)) := ⟨_, rfl⟩
  have k7 : Kp σ6 (sB (sB σ6 48 33 m1) 48 34 m2) := Kp_l.seq Kp_l
  have c7 := z3.kp k7
  refine ⟨sB (sB σ6 48 33 m1) 48 34 m2, (min q1.1 q2.1, max q1.2 q2.2), ?_, (((((x2.seq k2).seq e2).seq k4).seq k5).seq z2).seq k7, c7, ?_, ?_, ?_, ?_⟩
  · have ie := inbE (i := s) (n := 6) hs (by omega)
    have ci := cl1000 (i := s) (by omega)
    have lo1 := m_lo hf hw e3
    have c3' : CS (sB σ3 48 33 l1) φ f Φ V S C := e3.kp (Kp_l)
    have hi1 := m_hi hf hw c3'
    rw [show hB (sB σ3 48 33 l1) 65 (mN Φ - 1) = g1 from hg1.symm] at hi1
    rw [← hl1] at lo1
    have lo2 := m_lo hf hw z3
    have c6' : CS (sB σ6 48 33 m1) φ f Φ V S C := z3.kp (Kp_l)
    have hi2 := m_hi hf hw c6'
    have t2 := c2.1
    have t4 := c4.1
    have t5 := c5.1
    unfold f_X6_splits
    simp only [chk_p, lt_p, bd_p, bc_p, oc_n, oc_s, and_self, and_true, true_and, if_true, if_false, isO_sA', isO_sB', isO_rA', hlen_sA, hlen_sB, hlen_rA, hR_sA, hR_sB, hR_rA, Typ_sA', Typ_sB', Typ_rA', O48, r48_0, r48_1, r48_2, r48_3, r48_4, r48_5, r48_6, r48_8, r48_9, r48_10, r48_11, r48_12, r48_15, r48_21, r48_22, r48_23, r48_24, r48_25, r48_28, r48_30, r48_31, r48_32, r48_35, r48_37, r48_39, r48_40, r48_41, O63, l63, t, t1, t2, t3, x1, ie, ci, hto, e1, lo1, hi1, y1, z1, t6, p33.1, lo2, ← hm1, p33.2, if_false]
    simp (decide := true) only [hi2, hB_sB, false_and, and_false, if_false, p33.2, ← hm2, chk_p, lt_p, bd_p, bc_p, oc_n, oc_s, and_self, and_true, true_and, if_true, if_false, isO_sA', isO_sB', isO_rA', hlen_sA, hlen_sB, hlen_rA, hR_sA, hR_sB, hR_rA, Typ_sA', Typ_sB', Typ_rA', O48, r48_0, r48_1, r48_2, r48_3, r48_4, r48_5, r48_6, r48_8, r48_9, r48_10, r48_11, r48_12, r48_15, r48_21, r48_22, r48_23, r48_24, r48_25, r48_28, r48_30, r48_31, r48_32, r48_35, r48_37, r48_39, r48_40, r48_41, t6]
  · unfold splR; rw [a1, b1]; rfl
  · show (hB (sB (sB σ6 48 33 m1) 48 34 m2) 48 33).toInt = min q1.1 q2.1
    rw [hB_sB, if_neg (by decide), hB_sB, if_pos ⟨rfl, rfl⟩, hm1, l_min, hl1]
    rw [show (hB σ3 64 (mN Φ - 1)).toInt = q1.1 from r2, show (hB σ6 64 (mN Φ - 1)).toInt = q2.1 from o2]
  · show (hB (sB (sB σ6 48 33 m1) 48 34 m2) 48 34).toInt = max q1.2 q2.2
    rw [hB_sB, if_pos ⟨rfl, rfl⟩, hm2, l_max, hg1]
    rw [show (hB σ3 65 (mN Φ - 1)).toInt = q1.2 from r3, show (hB σ6 65 (mN Φ - 1)).toInt = q2.2 from o3]
  · show min q1.1 q2.1 ≤ max q1.2 q2.2; omega
end
section
/-! the call split; what a formula's spans hang on; bits of sources -/
theorem op_split (a b c w : Int32) : OpOK (f_X5_split 0 a b c w) (f_X6_split 48 a b c w) := by
  intro σ V S C n FS I
  have t := I.1
  rcases start I a with ⟨k, φ, hk, rfl, ef, hg, hc, -, em⟩ | ⟨ef, em⟩
  · rcases srcC b with ⟨s, hs, rfl, xs, ms⟩ | ⟨xs, ms⟩
    · have v := cs_val hc hs
      obtain ⟨-, -, -, -, -, -, -, -, -, vl, vh⟩ := v
      have eml := em σ t rfl
      have ic := isIn_ok c (V s - S s) (V s + S s)
      have cl : (c < V s - S s) = (c.toInt < LO V S s) := by rw [i_lt, vl]
      have ch : (c ≤ V s + S s) = (c.toInt ≤ HI V S s) := by rw [i_le, vh]
      rw [vl, vh] at ic
      rcases rng2 w with ⟨e, he, rfl, w0, w2, wm⟩ | ⟨wm, wc⟩
      · by_cases hr : LO V S s ≤ c.toInt ∧ c.toInt ≤ HI V S s
        · have cl' : (c < V s - S s) = False := by rw [cl]; exact eq_false (by omega)
          have ch' : (c ≤ V s + S s) = True := by rw [ch]; exact eq_true (by omega)
          have ic' := fun τ => (ic τ).trans (by rw [if_pos hr])
          obtain ⟨σ1, x1, x2, x3, x4, x5, x6⟩ := c_now hg.1 hc
          have t1 := x3.1
          have eml1 := em σ1 t1 x2.k7
          cases hx : RT (FS k) (LO V S) (HI V S) with
          | none =>
            obtain ⟨σ2, z1, z2, z3, z4, z5, z6⟩ := m_now hk hg.1 x3
            rw [hx] at x5 z1
            have xo' : hA σ1 24 2 = 1 := x5
            refine opQ I ⟨-9223372036854775807, σ1, σ2, ?_, x2, ?_, z2⟩
            · unfold f_X5_split
              simp only [chk_p, lt_p, bd_p, bc_p, oc_n, oc_s, and_self, and_true, true_and, if_true, if_false, isO_sA', isO_sB', isO_rA', hlen_sA, hlen_sB, hlen_rA, hR_sA, hR_sB, hR_rA, Typ_sA', Typ_sB', Typ_rA', O0, r0_0, r0_1, r0_3, r0_4, r0_5, r0_6, r0_7, O1, r1_0, r1_1, r1_2, r1_3, r1_5, r1_6, r1_7, O24, r24_0, r24_1, r24_5, r24_6, r24_7, r24_8, r24_9, t, t1, ef, xs, w0, w2, c_low hc hs, c_high hc hs, cl', ch', x1, xo', beq1, if_false]
            · unfold f_X6_split
              simp only [chk_p, lt_p, bd_p, bc_p, oc_n, oc_s, and_self, and_true, true_and, if_true, if_false, isO_sA', isO_sB', isO_rA', hlen_sA, hlen_sB, hlen_rA, hR_sA, hR_sB, hR_rA, Typ_sA', Typ_sB', Typ_rA', O48, r48_0, r48_1, r48_2, r48_3, r48_4, r48_5, r48_6, r48_8, r48_9, r48_10, r48_11, r48_12, r48_15, r48_21, r48_22, r48_23, r48_24, r48_25, r48_28, r48_30, r48_31, r48_32, r48_35, r48_37, r48_39, r48_40, r48_41, t1, eml1, ms, m_of3 x3 hs, m_of4 x3 hs, ic', wm, beq1, if_false, z1, rc]
          | some p =>
            rw [hx] at x5
            have xo' : hA σ1 24 2 = 0 := x5.1
            obtain ⟨σ2, y1, y2, y3, y4, y5⟩ := c_split hg.1 x3 x6 hx hs hr.1 hr.2
            have t2 := y3.1
            have tl := told_ok t2 y5 he
            obtain ⟨σ3, z1, z2, z3, z4, z5, z6⟩ := m_now hk hg.1 y3
            rw [hx] at z1
            have t3 := z3.1
            obtain ⟨σ4, r, u1, u2, u3, u4, u5, u6, u7⟩ := m_split hk hg.1 z3 hx hs hr.1 hr.2
            have t4 := u3.1
            have ls := m_less (σ := sA σ4 48 20 0) t4 (by rw [hA_f]; exact Or.inl rfl) (hB σ4 48 34) (hB σ4 48 33)
            rw [hA_f, sA_sA, u5, u6] at ls
            obtain ⟨fv, hfv⟩ : ∃ fv, fv = fl (inR (r.2 - r.1)) (0 : Int32) := ⟨_, rfl⟩
            rw [← hfv] at ls
            have k5 : Kp σ4 (sA σ4 48 20 fv) := Mf.kp (S := []) (Mf_s (by decide) (by decide)) (by decide)
            have t2' := em σ2 t2 (x2.seq y2).k7
            refine opQ I ⟨EV (some r) e, σ2, sA σ4 48 20 fv, ?_, x2.seq y2, ?_, (z2.seq u2).seq k5⟩
            · rw [u4] at tl
              unfold f_X5_split
              simp only [chk_p, lt_p, bd_p, bc_p, oc_n, oc_s, and_self, and_true, true_and, if_true, if_false, isO_sA', isO_sB', isO_rA', hlen_sA, hlen_sB, hlen_rA, hR_sA, hR_sB, hR_rA, Typ_sA', Typ_sB', Typ_rA', O0, r0_0, r0_1, r0_3, r0_4, r0_5, r0_6, r0_7, O1, r1_0, r1_1, r1_2, r1_3, r1_5, r1_6, r1_7, O24, r24_0, r24_1, r24_5, r24_6, r24_7, r24_8, r24_9, t, t1, t2, ef, xs, w0, w2, c_low hc hs, c_high hc hs, cl', ch', x1, xo', y1, tl, beq1, if_false]
            · unfold f_X6_split
              have h3 : e = 0 ∨ e = 1 ∨ e = 2 := by omega
              rcases h3 with z | z | z <;> subst z
              · simp (decide := true) only [chk_p, lt_p, bd_p, bc_p, oc_n, oc_s, and_self, and_true, true_and, if_true, if_false, isO_sA', isO_sB', isO_rA', hlen_sA, hlen_sB, hlen_rA, hR_sA, hR_sB, hR_rA, Typ_sA', Typ_sB', Typ_rA', O48, r48_0, r48_1, r48_2, r48_3, r48_4, r48_5, r48_6, r48_8, r48_9, r48_10, r48_11, r48_12, r48_15, r48_21, r48_22, r48_23, r48_24, r48_25, r48_28, r48_30, r48_31, r48_32, r48_35, r48_37, r48_39, r48_40, r48_41, t2, t3, t4, t2', ms, m_of3 y3 hs, m_of4 y3 hs, ic', wm, beq1, if_false, z1, rc, u1, hB_sA, ls]
                rw [show EV (some r) 0 = Int64.ofInt r.1 from rfl, ofI_eq u5]
              · simp (decide := true) only [chk_p, lt_p, bd_p, bc_p, oc_n, oc_s, and_self, and_true, true_and, if_true, if_false, isO_sA', isO_sB', isO_rA', hlen_sA, hlen_sB, hlen_rA, hR_sA, hR_sB, hR_rA, Typ_sA', Typ_sB', Typ_rA', O48, r48_0, r48_1, r48_2, r48_3, r48_4, r48_5, r48_6, r48_8, r48_9, r48_10, r48_11, r48_12, r48_15, r48_21, r48_22, r48_23, r48_24, r48_25, r48_28, r48_30, r48_31, r48_32, r48_35, r48_37, r48_39, r48_40, r48_41, t2, t3, t4, t2', ms, m_of3 y3 hs, m_of4 y3 hs, ic', wm, beq1, if_false, z1, rc, u1, hB_sA, ls]
                rw [show EV (some r) 1 = Int64.ofInt r.2 from rfl, ofI_eq u6]
              · simp (decide := true) only [chk_p, lt_p, bd_p, bc_p, oc_n, oc_s, and_self, and_true, true_and, if_true, if_false, isO_sA', isO_sB', isO_rA', hlen_sA, hlen_sB, hlen_rA, hR_sA, hR_sB, hR_rA, Typ_sA', Typ_sB', Typ_rA', O48, r48_0, r48_1, r48_2, r48_3, r48_4, r48_5, r48_6, r48_8, r48_9, r48_10, r48_11, r48_12, r48_15, r48_21, r48_22, r48_23, r48_24, r48_25, r48_28, r48_30, r48_31, r48_32, r48_35, r48_37, r48_39, r48_40, r48_41, t2, t3, t4, t2', ms, m_of3 y3 hs, m_of4 y3 hs, ic', wm, beq1, if_false, z1, rc, u1, hB_sA, ls, hA_f]
                rw [show EV (some r) 2 = oW (WD (some r)) from rfl]
                by_cases g : inR (r.2 - r.1)
                · rw [fl_t g] at hfv
                  rw [show WD (some r) = some (r.2 - r.1) from if_pos g, hfv, if_pos rfl]
                  rw [show oW (some (r.2 - r.1)) = Int64.ofInt (r.2 - r.1) from rfl, ofI_eq (a := hB σ4 48 34 - hB σ4 48 33) (by rw [l_sub (by rw [u5, u6]; exact g), u5, u6])]
                · rw [fl_f g] at hfv
                  rw [show WD (some r) = none from if_neg g, hfv, if_neg (by decide)]; rfl
        · have ic' := fun τ => (ic τ).trans (by rw [if_neg hr])
          refine opN I (-9223372036854775808) ?_ ?_
          · unfold f_X5_split
            by_cases c1 : c.toInt < LO V S s
            · have cl' : (c < V s - S s) = True := by rw [cl]; exact eq_true c1
              simp only [chk_p, lt_p, bd_p, bc_p, oc_n, oc_s, and_self, and_true, true_and, if_true, if_false, isO_sA', isO_sB', isO_rA', hlen_sA, hlen_sB, hlen_rA, hR_sA, hR_sB, hR_rA, Typ_sA', Typ_sB', Typ_rA', O0, r0_0, r0_1, r0_3, r0_4, r0_5, r0_6, r0_7, O1, r1_0, r1_1, r1_2, r1_3, r1_5, r1_6, r1_7, t, ef, xs, w0, w2, c_low hc hs, cl', beq1, if_false]
            · have cl' : (c < V s - S s) = False := by rw [cl]; exact eq_false c1
              have ch' : (c ≤ V s + S s) = False := by rw [ch]; exact eq_false (by omega)
              simp only [chk_p, lt_p, bd_p, bc_p, oc_n, oc_s, and_self, and_true, true_and, if_true, if_false, isO_sA', isO_sB', isO_rA', hlen_sA, hlen_sB, hlen_rA, hR_sA, hR_sB, hR_rA, Typ_sA', Typ_sB', Typ_rA', O0, r0_0, r0_1, r0_3, r0_4, r0_5, r0_6, r0_7, O1, r1_0, r1_1, r1_2, r1_3, r1_5, r1_6, r1_7, t, ef, xs, w0, w2, c_low hc hs, c_high hc hs, cl', ch', beq1, if_false]
          · unfold f_X6_split
            simp only [chk_p, lt_p, bd_p, bc_p, oc_n, oc_s, and_self, and_true, true_and, if_true, if_false, isO_sA', isO_sB', isO_rA', hlen_sA, hlen_sB, hlen_rA, hR_sA, hR_sB, hR_rA, Typ_sA', Typ_sB', Typ_rA', O48, r48_0, r48_1, r48_2, r48_3, r48_4, r48_5, r48_6, r48_8, r48_9, r48_10, r48_11, r48_12, r48_15, r48_21, r48_22, r48_23, r48_24, r48_25, r48_28, r48_30, r48_31, r48_32, r48_35, r48_37, r48_39, r48_40, r48_41, t, eml, ms, m_of3 hc hs, m_of4 hc hs, ic', beq1, if_false]
      · refine opN I (-9223372036854775808) ?_ ?_
        · unfold f_X5_split
          rcases wc with wc | ⟨wc, wc2⟩
          · simp only [chk_p, lt_p, bd_p, bc_p, oc_n, oc_s, and_self, and_true, true_and, if_true, if_false, isO_sA', isO_sB', isO_rA', hlen_sA, hlen_sB, hlen_rA, hR_sA, hR_sB, hR_rA, Typ_sA', Typ_sB', Typ_rA', O0, r0_0, r0_1, r0_3, r0_4, r0_5, r0_6, r0_7, t, ef, xs, wc, beq1, if_false]
          · simp only [chk_p, lt_p, bd_p, bc_p, oc_n, oc_s, and_self, and_true, true_and, if_true, if_false, isO_sA', isO_sB', isO_rA', hlen_sA, hlen_sB, hlen_rA, hR_sA, hR_sB, hR_rA, Typ_sA', Typ_sB', Typ_rA', O0, r0_0, r0_1, r0_3, r0_4, r0_5, r0_6, r0_7, t, ef, xs, wc, wc2, beq1, if_false]
        · unfold f_X6_split
          by_cases hr : LO V S s ≤ c.toInt ∧ c.toInt ≤ HI V S s
          · have ic' := fun τ => (ic τ).trans (by rw [if_pos hr])
            simp only [chk_p, lt_p, bd_p, bc_p, oc_n, oc_s, and_self, and_true, true_and, if_true, if_false, isO_sA', isO_sB', isO_rA', hlen_sA, hlen_sB, hlen_rA, hR_sA, hR_sB, hR_rA, Typ_sA', Typ_sB', Typ_rA', O48, r48_0, r48_1, r48_2, r48_3, r48_4, r48_5, r48_6, r48_8, r48_9, r48_10, r48_11, r48_12, r48_15, r48_21, r48_22, r48_23, r48_24, r48_25, r48_28, r48_30, r48_31, r48_32, r48_35, r48_37, r48_39, r48_40, r48_41, t, eml, ms, m_of3 hc hs, m_of4 hc hs, ic', wm, beq1, if_false]
          · have ic' := fun τ => (ic τ).trans (by rw [if_neg hr])
            simp only [chk_p, lt_p, bd_p, bc_p, oc_n, oc_s, and_self, and_true, true_and, if_true, if_false, isO_sA', isO_sB', isO_rA', hlen_sA, hlen_sB, hlen_rA, hR_sA, hR_sB, hR_rA, Typ_sA', Typ_sB', Typ_rA', O48, r48_0, r48_1, r48_2, r48_3, r48_4, r48_5, r48_6, r48_8, r48_9, r48_10, r48_11, r48_12, r48_15, r48_21, r48_22, r48_23, r48_24, r48_25, r48_28, r48_30, r48_31, r48_32, r48_35, r48_37, r48_39, r48_40, r48_41, t, eml, ms, m_of3 hc hs, m_of4 hc hs, ic', beq1, if_false]
    · refine opN I (-9223372036854775808) ?_ ?_
      · unfold f_X5_split
        simp only [chk_p, lt_p, bd_p, bc_p, oc_n, oc_s, and_self, and_true, true_and, if_true, if_false, isO_sA', isO_sB', isO_rA', hlen_sA, hlen_sB, hlen_rA, hR_sA, hR_sB, hR_rA, Typ_sA', Typ_sB', Typ_rA', O0, r0_0, r0_1, r0_3, r0_4, r0_5, r0_6, r0_7, t, ef, xs]
      · unfold f_X6_split
        simp only [chk_p, lt_p, bd_p, bc_p, oc_n, oc_s, and_self, and_true, true_and, if_true, if_false, isO_sA', isO_sB', isO_rA', hlen_sA, hlen_sB, hlen_rA, hR_sA, hR_sB, hR_rA, Typ_sA', Typ_sB', Typ_rA', O48, r48_0, r48_1, r48_2, r48_3, r48_4, r48_5, r48_6, r48_8, r48_9, r48_10, r48_11, r48_12, r48_15, r48_21, r48_22, r48_23, r48_24, r48_25, r48_28, r48_30, r48_31, r48_32, r48_35, r48_37, r48_39, r48_40, r48_41, t, em σ t rfl, ms, beq1, if_false]
  · refine opN I (-9223372036854775808) ?_ ?_
    · unfold f_X5_split
      simp only [chk_p, lt_p, bd_p, bc_p, oc_n, oc_s, and_self, and_true, true_and, if_true, if_false, isO_sA', isO_sB', isO_rA', hlen_sA, hlen_sB, hlen_rA, hR_sA, hR_sB, hR_rA, Typ_sA', Typ_sB', Typ_rA', O0, r0_0, r0_1, r0_3, r0_4, r0_5, r0_6, r0_7, t, ef]
    · unfold f_X6_split
      simp only [chk_p, lt_p, bd_p, bc_p, oc_n, oc_s, and_self, and_true, true_and, if_true, if_false, isO_sA', isO_sB', isO_rA', hlen_sA, hlen_sB, hlen_rA, hR_sA, hR_sB, hR_rA, Typ_sA', Typ_sB', Typ_rA', O48, r48_0, r48_1, r48_2, r48_3, r48_4, r48_5, r48_6, r48_8, r48_9, r48_10, r48_11, r48_12, r48_15, r48_21, r48_22, r48_23, r48_24, r48_25, r48_28, r48_30, r48_31, r48_32, r48_35, r48_37, r48_39, r48_40, r48_41, t, em]
theorem SP_dep {Φ : FM} (hw : wfR Φ) {L H L' H' : Nat → Int} (h : ∀ i, i < mN Φ → mK Φ i = 0 → L (mU Φ i) = L' (mU Φ i) ∧ H (mU Φ i) = H' (mU Φ i)) : ∀ i, i < mN Φ → SP Φ L H i = SP Φ L' H' i := by
  intro i
  induction i using Nat.strongRecOn with
  | _ i ih =>
    intro hi
    obtain ⟨k5, ku0, ku1, ku, kv, -⟩ := hw i hi
    by_cases k0 : mK Φ i = 0
    · obtain ⟨e1, e2⟩ := h i hi k0
      rw [SP_0 k0, SP_0 k0, e1, e2]
    by_cases k1 : mK Φ i = 1
    · rw [SP_1 k1, SP_1 k1]
    have hu := ku (by omega)
    by_cases k2 : mK Φ i = 2
    · rw [SP_2 hw hi k2, SP_2 hw hi k2, ih _ hu (by omega)]
    · have hv := kv (by omega)
      rw [SP_3 hw hi (by omega), SP_3 hw hi (by omega), ih _ hu (by omega), ih _ hv (by omega)]
def sN (Φ : FM) : Nat → Nat
  | 0 => 0
  | i + 1 => sN Φ i ||| (if mK Φ i = 0 then 2 ^ (mU Φ i) else 0)
theorem bit_or : ∀ a, a < 64 → ∀ u, u < 6 → nI a ||| ((1 : Int32) <<< (nI u)) = nI (a ||| 2 ^ u) ∧ a ||| 2 ^ u < 64 := by decide +kernel
theorem bit_at : ∀ a, a < 64 → ∀ s, s < 6 → ((nI a >>> (nI s &&& 31)) &&& 1) = (if a.testBit s = true then (1 : Int32) else 0) := by decide +kernel
theorem sN_ok {Φ : FM} (hw : wfR Φ) : ∀ n, n ≤ mN Φ → sN Φ n < 64 ∧ srcs Φ n = nI (sN Φ n) := by
  intro n
  induction n with
  | zero => intro _; exact ⟨(by decide : 0 < 64), rfl⟩
  | succ n ih =>
    intro hn
    obtain ⟨h1, h2⟩ := ih (by omega)
    show sN Φ n ||| (if mK Φ n = 0 then 2 ^ (mU Φ n) else 0) < 64 ∧ srcs Φ n ||| (if mK Φ n = 0 then (1 : Int32) <<< (nI (mU Φ n)) else 0) = nI (sN Φ n ||| (if mK Φ n = 0 then 2 ^ (mU Φ n) else 0))
    by_cases k0 : mK Φ n = 0
    · obtain ⟨b1, b2⟩ := bit_or _ h1 _ ((hw n (by omega)).2.1 k0)
      rw [if_pos k0, if_pos k0, h2]
      exact ⟨b2, b1⟩
    · rw [if_neg k0, if_neg k0, h2, Int32.or_zero, Nat.or_zero]
      exact ⟨h1, rfl⟩
theorem sN_bit {Φ : FM} : ∀ n i, i < n → mK Φ i = 0 → (sN Φ n).testBit (mU Φ i) = true := by
  intro n
  induction n with
  | zero => intro i hi; omega
  | succ n ih =>
    intro i hi k
    show (sN Φ n ||| _).testBit _ = true
    rw [Nat.testBit_or]
    by_cases e : i = n
    · rw [if_pos (by rw [← e]; exact k), ← e, Nat.testBit_two_pow_self, Bool.or_true]
    · rw [ih i (by omega) k, Bool.true_or]
end
section
/-! best -/
def iJ (x : Int) : Int32 := Int32.ofInt x
theorem iT {x : Int} (h1 : -1000000 ≤ x) (h2 : x ≤ 1000000) : (iJ x).toInt = x := by
  unfold iJ; rw [Int32.toInt_ofInt, show Int32.size = 4294967296 from rfl, Int.bmod_eq_of_le_mul_two (by omega) (by omega)]
theorem iJ_1 (x : Int) : iJ x + 1 = iJ (x + 1) := (Int32.ofInt_add x 1).symm
theorem iJ_n {n : Nat} (h : n < 1000) : iJ (n : Int) = nI n := Int32.toInt_inj.mp (by rw [iT (by omega) (by omega), nT h])
theorem iJ_eq {a : Int32} {x : Int} (h : a.toInt = x) (h1 : -1000000 ≤ x) (h2 : x ≤ 1000000) : iJ x = a := Int32.toInt_inj.mp (by rw [iT h1 h2, h])
theorem iJ_lt {x y : Int} (h1 : -1000000 ≤ x) (h2 : x ≤ 1000000) (h3 : -1000000 ≤ y) (h4 : y ≤ 1000000) : (iJ x < iJ y) = (x < y) := by rw [i_lt, iT h1 h2, iT h3 h4]
theorem iJ_i {x y : Int} (h1 : -1000000 ≤ x) (h2 : x ≤ 1000000) (h3 : -1000000 ≤ y) (h4 : y ≤ 1000000) : (iJ x = iJ y) = (x = y) := propext ⟨fun z => by have := congrArg Int32.toInt z; rw [iT h1 h2, iT h3 h4] at this; exact this, fun z => by rw [z]⟩
theorem iJ_64 {x : Int} (h1 : -1000000 ≤ x) (h2 : x ≤ 1000000) : (iJ x).toInt64 = Int64.ofInt x := (ofI_eq (by rw [Int32.toInt_toInt64, iT h1 h2])).symm
def wB (Φ : FM) (V S : Nat → Int32) (s : Nat) (c : Int) : Int := match splR Φ V S s c with | none => 0 | some r => r.2 - r.1
def stepB (Φ : FM) (V S : Nat → Int32) (s : Nat) (c : Int) (x : Int × Int × Int) : Int × Int × Int := if wB Φ V S s c < x.1 then (wB Φ V S s c, (s : Int), c) else x
def innB (Φ : FM) (V S : Nat → Int32) (s : Nat) : Nat → Int → Int × Int × Int → Int × Int × Int
  | 0, _, x => x
  | d + 1, c, x => innB Φ V S s d (c + 1) (stepB Φ V S s c x)
def outB (Φ : FM) (V S : Nat → Int32) : Nat → Nat → Int × Int × Int → Int × Int × Int
  | 0, _, x => x
  | d + 1, s, x => outB Φ V S d (s + 1) (innB Φ V S s (HI V S s - LO V S s + 1).toNat (LO V S s) x)
def resB (w0 : Int) (what : Nat) (x : Int × Int × Int) : Int64 := if x.2.1 = -1 then -1000 else if what = 0 then Int64.ofInt x.2.1 else if what = 1 then Int64.ofInt x.2.2 else Int64.ofInt (w0 - x.1)
/-- what the loops keep -/
def okB (w0 : Int) (x : Int × Int × Int) : Prop := 0 ≤ x.1 ∧ x.1 ≤ w0 ∧ -1 ≤ x.2.1 ∧ x.2.1 ≤ 5 ∧ -200 ≤ x.2.2 ∧ x.2.2 ≤ 200
theorem wB_in {Φ : FM} {V S : Nat → Int32} (hl : ∀ s, LO V S s ≤ HI V S s) {p : Int × Int} (hx : RT Φ (LO V S) (HI V S) = some p) (g : inR (p.2 - p.1)) {s : Nat} {c : Int} (h1 : LO V S s ≤ c) (h2 : c ≤ HI V S s) : 0 ≤ wB Φ V S s c ∧ wB Φ V S s c ≤ p.2 - p.1 ∧ ∃ r, splR Φ V S s c = some r ∧ wB Φ V S s c = r.2 - r.1 := by
  obtain ⟨r, e, e1, e2, e3⟩ := splR_some hl hx h1 h2
  have : wB Φ V S s c = r.2 - r.1 := by unfold wB; rw [e]
  exact ⟨by omega, by omega, r, e, this⟩
theorem okB_step {Φ : FM} {V S : Nat → Int32} (hl : ∀ s, LO V S s ≤ HI V S s) {p : Int × Int} (hx : RT Φ (LO V S) (HI V S) = some p) (g : inR (p.2 - p.1)) {s : Nat} (hs : s < 6) {c : Int} (h1 : LO V S s ≤ c) (h2 : c ≤ HI V S s) (h3 : -200 ≤ c) (h4 : c ≤ 200) {x : Int × Int × Int} (h : okB (p.2 - p.1) x) : okB (p.2 - p.1) (stepB Φ V S s c x) := by
  obtain ⟨a1, a2, -⟩ := wB_in hl hx g h1 h2
  unfold stepB
  by_cases z : wB Φ V S s c < x.1
  · rw [if_pos z]; exact ⟨a1, a2, by show (-1 : Int) ≤ (s : Int); omega, by show (s : Int) ≤ 5; omega, h3, h4⟩
  · rw [if_neg z]; exact h
theorem lohi200 {σ : HS} {φ f : Nat} {Φ : FM} {V S C : Nat → Int32} (h : CS σ φ f Φ V S C) {s : Nat} (hs : s < 6) : -119 ≤ LO V S s ∧ HI V S s ≤ 119 ∧ LO V S s ≤ HI V S s ∧ HI V S s - LO V S s ≤ 40 := by
  obtain ⟨-, -, -, -, -, -, v1, v2, -, -, -⟩ := cs_val h hs
  unfold LO HI
  rw [if_pos hs, if_pos hs]; omega
theorem x_inn {φ f : Nat} {Φ : FM} {V S C : Nat → Int32} (hw : WF Φ) {p : Int × Int} (hx : RT Φ (LO V S) (HI V S) = some p) (g : inR (p.2 - p.1)) (K : Nat → Int32 → Int32 → Nat → Int64 → Int64 → Int32 → Int32 → Int32 → HS → Option (Int64 × HS)) (a b : Int32) (W : Int64) {s : Nat} (hs : s < 6) : ∀ (d : Nat) (c : Int) (x : Int × Int × Int) (σ : HS), CS σ φ f Φ V S C → Bx σ (LO V S) (HI V S) → okB (p.2 - p.1) x → LO V S s ≤ c → c + d = HI V S s + 1 → ∀ nf, d < nf →
    ∃ σ', lp_X5_best_102 K nf 0 a b φ W (Int64.ofInt x.1) (iJ x.2.1) (iJ x.2.2) (nI s) (iJ c) σ = K 0 a b φ W (Int64.ofInt (innB Φ V S s d c x).1) (iJ (innB Φ V S s d c x).2.1) (iJ (innB Φ V S s d c x).2.2) (nI (s + 1)) σ' ∧ Kp σ σ' ∧ CS σ' φ f Φ V S C ∧ Bx σ' (LO V S) (HI V S) ∧ okB (p.2 - p.1) (innB Φ V S s d c x) := by
  intro d
  induction d with
  | zero =>
    intro c x σ h hb ho hc hd nf hnf
    obtain ⟨nf, rfl⟩ : ∃ k, nf = k + 1 := ⟨nf - 1, by omega⟩
    obtain ⟨l1, l2, l3, l4⟩ := lohi200 h hs
    have t := h.1
    obtain ⟨-, -, -, -, -, -, -, -, -, vl, vh⟩ := cs_val h hs
    refine ⟨σ, ?_, Kp.rf, h, hb, ho⟩
    show lp_X5_best_102_b K (lp_X5_best_102 K nf) 0 a b φ W _ _ _ (nI s) (iJ c) σ = _
    unfold lp_X5_best_102_b
    have lt : (V s + S s < iJ c) = True := by rw [i_lt, vh, iT (by omega) (by omega)]; exact eq_true (by omega)
    simp only [chk_p, lt_p, bd_p, bc_p, oc_n, oc_s, and_self, and_true, true_and, if_true, if_false, isO_sA', isO_sB', isO_rA', hlen_sA, hlen_sB, hlen_rA, hR_sA, hR_sB, hR_rA, Typ_sA', Typ_sB', Typ_rA', O0, r0_0, r0_1, r0_3, r0_4, r0_5, r0_6, r0_7, O1, r1_0, r1_1, r1_2, r1_3, r1_5, r1_6, r1_7, t, c_high h hs, lt, nI_s]
    rfl
  | succ d ih =>
    intro c x σ h hb ho hc hd nf hnf
    obtain ⟨nf, rfl⟩ : ∃ k, nf = k + 1 := ⟨nf - 1, by omega⟩
    obtain ⟨l1, l2, l3, l4⟩ := lohi200 h hs
    have t := h.1
    obtain ⟨-, -, -, -, -, -, -, -, -, vl, vh⟩ := cs_val h hs
    have ec : (iJ c).toInt = c := iT (by omega) (by omega)
    obtain ⟨σ1, y1, y2, y3, y4, y5⟩ := c_split hw h hb hx hs (c := iJ c) (by rw [ec]; exact hc) (by rw [ec]; omega)
    rw [ec] at y5
    have t1 := y3.1
    have ho1 := okB_step (LOHI h) hx g hs hc (show c ≤ HI V S s by omega) (by omega) (by omega) ho
    obtain ⟨σ2, e1, e2, e3, e4, e5⟩ := ih (c + 1) (stepB Φ V S s c x) σ1 y3 y4 ho1 (by omega) (by omega) nf (by omega)
    refine ⟨σ2, ?_, y2.seq e2, e3, e4, e5⟩
    obtain ⟨w1, w2, r, hr, hwr⟩ := wB_in (LOHI h) hx g hc (show c ≤ HI V S s by omega)
    rw [hr] at y5
    obtain ⟨u1, u2, u3, u4⟩ := y5
    have ew : (hB σ1 24 4 - hB σ1 24 3).toInt = wB Φ V S s c := by rw [l_sub (by rw [u2, u3]; omega), u2, u3, hwr]
    have ew' := ofI_eq ew
    have cmp : (0 ≤ lg_cmp (hB σ1 24 4 - hB σ1 24 3) (Int64.ofInt x.1)) = ¬ (wB Φ V S s c < x.1) := by
      rw [zc_ge, ew, ofI (by have := ho.1; have := ho.2.1; omega)]; exact propext ⟨fun z => by omega, fun z => by omega⟩
    show lp_X5_best_102_b K (lp_X5_best_102 K nf) 0 a b φ W _ _ _ (nI s) (iJ c) σ = _
    unfold lp_X5_best_102_b
    have lt : (V s + S s < iJ c) = False := by rw [i_lt, vh, ec]; exact eq_false (by omega)
    rw [show innB Φ V S s (d + 1) c x = innB Φ V S s d (c + 1) (stepB Φ V S s c x) from rfl, ← e1]
    by_cases z : wB Φ V S s c < x.1
    · rw [show stepB Φ V S s c x = (wB Φ V S s c, (s : Int), c) from if_pos z]
      simp only [chk_p, lt_p, bd_p, bc_p, oc_n, oc_s, and_self, and_true, true_and, if_true, if_false, isO_sA', isO_sB', isO_rA', hlen_sA, hlen_sB, hlen_rA, hR_sA, hR_sB, hR_rA, Typ_sA', Typ_sB', Typ_rA', O0, r0_0, r0_1, r0_3, r0_4, r0_5, r0_6, r0_7, O1, r1_0, r1_1, r1_2, r1_3, r1_5, r1_6, r1_7, O24, r24_0, r24_1, r24_5, r24_6, r24_7, r24_8, r24_9, t, t1, c_high h hs, lt, if_false, y1, cmp, z, not_true, iJ_1, ew', iJ_n (show s < 1000 by omega)]
    · rw [show stepB Φ V S s c x = x from if_neg z]
      simp only [chk_p, lt_p, bd_p, bc_p, oc_n, oc_s, and_self, and_true, true_and, if_true, if_false, isO_sA', isO_sB', isO_rA', hlen_sA, hlen_sB, hlen_rA, hR_sA, hR_sB, hR_rA, Typ_sA', Typ_sB', Typ_rA', O0, r0_0, r0_1, r0_3, r0_4, r0_5, r0_6, r0_7, O1, r1_0, r1_1, r1_2, r1_3, r1_5, r1_6, r1_7, O24, r24_0, r24_1, r24_5, r24_6, r24_7, r24_8, r24_9, t, t1, c_high h hs, lt, if_false, y1, cmp, z, not_false_iff, iJ_1]
theorem m_inn {φ f : Nat} {Φ : FM} {V S C : Nat → Int32} (hf : f < 7) (hw : WF Φ) {p : Int × Int} (hx : RT Φ (LO V S) (HI V S) = some p) (g : inR (p.2 - p.1)) (K : Nat → Int32 → Int32 → Int64 → Int64 → Int32 → Int32 → Int32 → HS → Option (Int64 × HS)) (b : Int32) (W : Int64) {s : Nat} (hs : s < 6) : ∀ (d : Nat) (c : Int) (x : Int × Int × Int) (σ : HS), CS σ φ f Φ V S C → okB (p.2 - p.1) x → LO V S s ≤ c → c + d = HI V S s + 1 → ∀ nf, d < nf →
    ∃ σ', lp_X6_best_70 K nf 48 (nI f) b W (Int64.ofInt x.1) (iJ x.2.1) (iJ x.2.2) (nI s) (iJ c) σ = K 48 (nI f) b W (Int64.ofInt (innB Φ V S s d c x).1) (iJ (innB Φ V S s d c x).2.1) (iJ (innB Φ V S s d c x).2.2) (nI (s + 1)) σ' ∧ Kp σ σ' ∧ CS σ' φ f Φ V S C ∧ okB (p.2 - p.1) (innB Φ V S s d c x) := by
  intro d
  induction d with
  | zero =>
    intro c x σ h ho hc hd nf hnf
    obtain ⟨nf, rfl⟩ : ∃ k, nf = k + 1 := ⟨nf - 1, by omega⟩
    obtain ⟨l1, l2, l3, l4⟩ := lohi200 h hs
    have t := h.1
    obtain ⟨-, -, -, -, -, -, -, -, -, vl, vh⟩ := cs_val h hs
    refine ⟨σ, ?_, Kp.rf, h, ho⟩
    show lp_X6_best_70_b K (lp_X6_best_70 K nf) 48 (nI f) b W _ _ _ (nI s) (iJ c) σ = _
    unfold lp_X6_best_70_b
    have lt : (V s + S s < iJ c) = True := by rw [i_lt, vh, iT (by omega) (by omega)]; exact eq_true (by omega)
    simp only [chk_p, lt_p, bd_p, bc_p, oc_n, oc_s, and_self, and_true, true_and, if_true, if_false, isO_sA', isO_sB', isO_rA', hlen_sA, hlen_sB, hlen_rA, hR_sA, hR_sB, hR_rA, Typ_sA', Typ_sB', Typ_rA', O48, r48_0, r48_1, r48_2, r48_3, r48_4, r48_5, r48_6, r48_8, r48_9, r48_10, r48_11, r48_12, r48_15, r48_21, r48_22, r48_23, r48_24, r48_25, r48_28, r48_30, r48_31, r48_32, r48_35, r48_37, r48_39, r48_40, r48_41, t, m_of4 h hs, lt, nI_s]
    rfl
  | succ d ih =>
    intro c x σ h ho hc hd nf hnf
    obtain ⟨nf, rfl⟩ : ∃ k, nf = k + 1 := ⟨nf - 1, by omega⟩
    obtain ⟨l1, l2, l3, l4⟩ := lohi200 h hs
    have t := h.1
    obtain ⟨-, -, -, -, -, -, -, -, -, vl, vh⟩ := cs_val h hs
    have ec : (iJ c).toInt = c := iT (by omega) (by omega)
    obtain ⟨σ1, r, y1, y2, y3, hr, u2, u3, u4⟩ := m_split hf hw h hx hs (c := iJ c) (by rw [ec]; exact hc) (by rw [ec]; omega)
    rw [ec] at hr
    have t1 := y3.1
    have ho1 := okB_step (LOHI h) hx g hs hc (show c ≤ HI V S s by omega) (by omega) (by omega) ho
    obtain ⟨σ2, e1, e2, e3, e5⟩ := ih (c + 1) (stepB Φ V S s c x) σ1 y3 ho1 (by omega) (by omega) nf (by omega)
    refine ⟨σ2, ?_, y2.seq e2, e3, e5⟩
    obtain ⟨w1, w2, r', hr', hwr⟩ := wB_in (LOHI h) hx g hc (show c ≤ HI V S s by omega)
    rw [hr] at hr'
    cases hr'
    have ew : (hB σ1 48 34 - hB σ1 48 33).toInt = wB Φ V S s c := by rw [l_sub (by rw [u2, u3]; omega), u2, u3, hwr]
    have ew' := ofI_eq ew
    have cmp : (0 ≤ lg_cmp (hB σ1 48 34 - hB σ1 48 33) (Int64.ofInt x.1)) = ¬ (wB Φ V S s c < x.1) := by
      rw [zc_ge, ew, ofI (by have := ho.1; have := ho.2.1; omega)]; exact propext ⟨fun z => by omega, fun z => by omega⟩
    show lp_X6_best_70_b K (lp_X6_best_70 K nf) 48 (nI f) b W _ _ _ (nI s) (iJ c) σ = _
    unfold lp_X6_best_70_b
    have lt : (V s + S s < iJ c) = False := by rw [i_lt, vh, ec]; exact eq_false (by omega)
    rw [show innB Φ V S s (d + 1) c x = innB Φ V S s d (c + 1) (stepB Φ V S s c x) from rfl, ← e1]
    by_cases z : wB Φ V S s c < x.1
    · rw [show stepB Φ V S s c x = (wB Φ V S s c, (s : Int), c) from if_pos z]
      simp only [chk_p, lt_p, bd_p, bc_p, oc_n, oc_s, and_self, and_true, true_and, if_true, if_false, isO_sA', isO_sB', isO_rA', hlen_sA, hlen_sB, hlen_rA, hR_sA, hR_sB, hR_rA, Typ_sA', Typ_sB', Typ_rA', O48, r48_0, r48_1, r48_2, r48_3, r48_4, r48_5, r48_6, r48_8, r48_9, r48_10, r48_11, r48_12, r48_15, r48_21, r48_22, r48_23, r48_24, r48_25, r48_28, r48_30, r48_31, r48_32, r48_35, r48_37, r48_39, r48_40, r48_41, t, t1, m_of4 h hs, lt, if_false, y1, cmp, z, not_true, iJ_1, ew', iJ_n (show s < 1000 by omega)]
    · rw [show stepB Φ V S s c x = x from if_neg z]
      simp only [chk_p, lt_p, bd_p, bc_p, oc_n, oc_s, and_self, and_true, true_and, if_true, if_false, isO_sA', isO_sB', isO_rA', hlen_sA, hlen_sB, hlen_rA, hR_sA, hR_sB, hR_rA, Typ_sA', Typ_sB', Typ_rA', O48, r48_0, r48_1, r48_2, r48_3, r48_4, r48_5, r48_6, r48_8, r48_9, r48_10, r48_11, r48_12, r48_15, r48_21, r48_22, r48_23, r48_24, r48_25, r48_28, r48_30, r48_31, r48_32, r48_35, r48_37, r48_39, r48_40, r48_41, t, t1, m_of4 h hs, lt, if_false, y1, cmp, z, not_false_iff, iJ_1]
theorem innB_abs {Φ : FM} (hw : WF Φ) {V S : Nat → Int32} (hl : ∀ s, LO V S s ≤ HI V S s) {p : Int × Int} (hx : RT Φ (LO V S) (HI V S) = some p) {s : Nat} (ha : ∀ i, i < mN Φ → mK Φ i = 0 → mU Φ i ≠ s) : ∀ (d : Nat) (c : Int) (x : Int × Int × Int), x.1 ≤ p.2 - p.1 → innB Φ V S s d c x = x := by
  intro d
  induction d with
  | zero => intro c x _; rfl
  | succ d ih =>
    intro c x h
    have w1 := hw.1
    have e1 : RT Φ (LO V S) (upI (HI V S) s c) = some p := by
      rw [← hx]
      exact SP_dep hw.2.2 (fun i hi k => ⟨rfl, by unfold upI; rw [if_neg (ha i hi k)]⟩) _ (by omega)
    have e2 : RT Φ (upI (LO V S) s c) (HI V S) = some p := by
      rw [← hx]
      exact SP_dep hw.2.2 (fun i hi k => ⟨by unfold upI; rw [if_neg (ha i hi k)], rfl⟩) _ (by omega)
    have ew : wB Φ V S s c = p.2 - p.1 := by
      unfold wB splR; rw [e1, e2]
      show max p.2 p.2 - min p.1 p.1 = _
      omega
    rw [show innB Φ V S s (d + 1) c x = innB Φ V S s d (c + 1) (stepB Φ V S s c x) from rfl, show stepB Φ V S s c x = x from if_neg (by omega)]
    exact ih (c + 1) x h
theorem resE {w0 : Int} {e : Nat} (he : e < 3) {x : Int × Int × Int} (h : okB w0 x) (hw : inR w0) (τ : HS) :
    (if iJ x.2.1 = (-1 : Int32) then some ((-1000 : Int64), τ) else (if nI e = 0 then some ((iJ x.2.1).toInt64, τ) else (if nI e = (1 : Int32) then some ((iJ x.2.2).toInt64, τ) else some ((Int64.ofInt w0 - Int64.ofInt x.1), τ)))) = some (resB w0 e x, τ) := by
  obtain ⟨h1, h2, h3, h4, h5, h6⟩ := h
  have em : (iJ x.2.1 = (-1 : Int32)) = (x.2.1 = -1) := iJ_i (y := -1) (by omega) (by omega) (by omega) (by omega)
  have e0 : (nI e = 0) = (e = 0) := nE (a := e) (b := 0) (by omega) (by omega)
  have e1 : (nI e = 1) = (e = 1) := nE (a := e) (b := 1) (by omega) (by omega)
  unfold resB
  simp only [em, e0, e1, iJ_64 (show -1000000 ≤ x.2.1 by omega) (by omega), iJ_64 (show -1000000 ≤ x.2.2 by omega) (by omega)]
  rw [show Int64.ofInt (w0 - x.1) = Int64.ofInt w0 - Int64.ofInt x.1 from ofI_eq (by rw [l_sub (by rw [ofI hw, ofI (by omega)]; omega), ofI hw, ofI (by omega)])]
  by_cases c1 : x.2.1 = -1
  · rw [if_pos c1, if_pos c1]
  · rw [if_neg c1, if_neg c1]
    by_cases c2 : e = 0
    · rw [if_pos c2, if_pos c2]
    · rw [if_neg c2, if_neg c2]
      by_cases c3 : e = 1
      · rw [if_pos c3, if_pos c3]
      · rw [if_neg c3, if_neg c3]
theorem hasS_ok {σ : HS} {φ : Nat} {Φ : FM} (hx : XF σ φ Φ) (hi : XI σ φ Φ) (hw : WF Φ) {s : Nat} (hs : s < 6) : f_X0_hasSource φ (nI s) σ = some (if (sN Φ (mN Φ)).testBit s = true then 1 else 0, σ) := by
  obtain ⟨b1, b2⟩ := sN_ok hw.2.2 (mN Φ) (Nat.le_refl _)
  have q0 := eq_true hx.1.2.1
  unfold f_X0_hasSource
  simp only [chk_p, lt_p, bd_p, bc_p, oc_n, oc_s, and_self, and_true, true_and, if_true, if_false, isO_sA', isO_sB', isO_rA', hlen_sA, hlen_sB, hlen_rA, hR_sA, hR_sB, hR_rA, Typ_sA', Typ_sB', Typ_rA', q0, hi.1, b2, bit_at _ b1 s hs]
  by_cases c : (sN Φ (mN Φ)).testBit s = true
  · simp (decide := true) only [c, if_true]
  · simp (decide := true) only [c, if_false]
theorem x_out {φ f : Nat} {Φ : FM} {V S C : Nat → Int32} (hw : WF Φ) {p : Int × Int} (hx : RT Φ (LO V S) (HI V S) = some p) (g : inR (p.2 - p.1)) (a : Int32) {e : Nat} (he : e < 3) : ∀ (d s : Nat) (x : Int × Int × Int) (σ : HS), CS σ φ f Φ V S C → XI σ φ Φ → Bx σ (LO V S) (HI V S) → okB (p.2 - p.1) x → s + d = 6 → ∀ nf, d < nf →
    ∃ σ', lp_X5_best_72 nf 0 a (nI e) φ (Int64.ofInt (p.2 - p.1)) (Int64.ofInt x.1) (iJ x.2.1) (iJ x.2.2) (nI s) σ = some (resB (p.2 - p.1) e (outB Φ V S d s x), σ') ∧ Kp σ σ' := by
  intro d
  induction d with
  | zero =>
    intro s x σ h hi hb ho hd nf hnf
    obtain ⟨nf, rfl⟩ : ∃ k, nf = k + 1 := ⟨nf - 1, by omega⟩
    have : s = 6 := by omega
    subst this
    refine ⟨σ, ?_, Kp.rf⟩
    show lp_X5_best_72_b (lp_X5_best_72 nf) 0 a (nI e) φ _ _ _ _ (nI 6) σ = _
    unfold lp_X5_best_72_b
    rw [if_pos (by decide)]
    exact resE he ho g σ
  | succ d ih =>
    intro s x σ h hi hb ho hd nf hnf
    obtain ⟨nf, rfl⟩ : ∃ k, nf = k + 1 := ⟨nf - 1, by omega⟩
    have hs : s < 6 := by omega
    obtain ⟨l1, l2, l3, l4⟩ := lohi200 h hs
    have t := h.1
    have q0 := eq_true h.2.1.1.2.1
    have hS := hasS_ok h.2.1 hi hw hs
    have le : (6 : Int32) ≤ nI s ↔ False := by rw [show (6 : Int32) = nI 6 from rfl, nle (a := 6) (b := s) (by omega) (by omega)]
    have le := eq_false (fun z => le.mp z)
    show ∃ σ', lp_X5_best_72_b (lp_X5_best_72 nf) 0 a (nI e) φ _ _ _ _ (nI s) σ = _ ∧ _
    unfold lp_X5_best_72_b
    by_cases c : (sN Φ (mN Φ)).testBit s = true
    · rw [if_pos c] at hS
      obtain ⟨σ1, e1, e2, e3, e4, e5⟩ := x_inn hw hx g (lp_X5_best_72 nf) a (nI e) (Int64.ofInt (p.2 - p.1)) hs (HI V S s - LO V S s + 1).toNat (LO V S s) x σ h hb ho (Int.le_refl _) (by omega) 1000 (by omega)
      obtain ⟨σ2, g1, g2⟩ := ih (s + 1) _ σ1 e3 (Kq.xi e2 h.2.1 hi) e4 e5 (by omega) nf (by omega)
      refine ⟨σ2, ?_, e2.seq g2⟩
      rw [show outB Φ V S (d + 1) s x = outB Φ V S d (s + 1) (innB Φ V S s (HI V S s - LO V S s + 1).toNat (LO V S s) x) from rfl, ← g1, ← e1]
      have vl : V s - S s = iJ (LO V S s) := (iJ_eq (cs_val h hs).2.2.2.2.2.2.2.2.2.1 (by omega) (by omega)).symm
      simp only [le, if_false, chk_p, lt_p, bd_p, bc_p, oc_n, oc_s, and_self, and_true, true_and, if_true, if_false, isO_sA', isO_sB', isO_rA', hlen_sA, hlen_sB, hlen_rA, hR_sA, hR_sB, hR_rA, Typ_sA', Typ_sB', Typ_rA', O0, r0_0, r0_1, r0_3, r0_4, r0_5, r0_6, r0_7, O1, r1_0, r1_1, r1_2, r1_3, r1_5, r1_6, r1_7, t, q0, hS, beq1, c_low h hs, vl]
    · rw [if_neg c] at hS
      have ab : ∀ i, i < mN Φ → mK Φ i = 0 → mU Φ i ≠ s := fun i hi k z => c (by rw [← z]; exact sN_bit (mN Φ) i hi k)
      obtain ⟨σ2, g1, g2⟩ := ih (s + 1) x σ h hi hb ho (by omega) nf (by omega)
      refine ⟨σ2, ?_, g2⟩
      rw [show outB Φ V S (d + 1) s x = outB Φ V S d (s + 1) (innB Φ V S s (HI V S s - LO V S s + 1).toNat (LO V S s) x) from rfl, innB_abs hw (LOHI h) hx ab _ _ x ho.2.1, ← g1]
      simp only [le, if_false, chk_p, lt_p, bd_p, bc_p, oc_n, oc_s, and_self, and_true, true_and, if_true, if_false, isO_sA', isO_sB', isO_rA', hlen_sA, hlen_sB, hlen_rA, hR_sA, hR_sB, hR_rA, Typ_sA', Typ_sB', Typ_rA', q0, hS, nI_s]
theorem m_out {φ f : Nat} {Φ : FM} {V S C : Nat → Int32} (hf : f < 7) (hw : WF Φ) {p : Int × Int} (hx : RT Φ (LO V S) (HI V S) = some p) (g : inR (p.2 - p.1)) {e : Nat} (he : e < 3) : ∀ (d s : Nat) (x : Int × Int × Int) (σ : HS), CS σ φ f Φ V S C → okB (p.2 - p.1) x → s + d = 6 → ∀ nf, d < nf →
    ∃ σ', lp_X6_best_54 nf 48 (nI f) (nI e) (Int64.ofInt (p.2 - p.1)) (Int64.ofInt x.1) (iJ x.2.1) (iJ x.2.2) (nI s) σ = some (resB (p.2 - p.1) e (outB Φ V S d s x), σ') ∧ Kp σ σ' := by
  intro d
  induction d with
  | zero =>
    intro s x σ h ho hd nf hnf
    obtain ⟨nf, rfl⟩ : ∃ k, nf = k + 1 := ⟨nf - 1, by omega⟩
    have : s = 6 := by omega
    subst this
    refine ⟨σ, ?_, Kp.rf⟩
    show lp_X6_best_54_b (lp_X6_best_54 nf) 48 (nI f) (nI e) _ _ _ _ (nI 6) σ = _
    unfold lp_X6_best_54_b
    rw [if_pos (by decide)]
    exact resE he ho g σ
  | succ d ih =>
    intro s x σ h ho hd nf hnf
    obtain ⟨nf, rfl⟩ : ∃ k, nf = k + 1 := ⟨nf - 1, by omega⟩
    have hs : s < 6 := by omega
    obtain ⟨l1, l2, l3, l4⟩ := lohi200 h hs
    have t := h.1
    have le : (6 : Int32) ≤ nI s ↔ False := by rw [show (6 : Int32) = nI 6 from rfl, nle (a := 6) (b := s) (by omega) (by omega)]
    have le := eq_false (fun z => le.mp z)
    obtain ⟨σ1, e1, e2, e3, e5⟩ := m_inn hf hw hx g (lp_X6_best_54 nf) (nI e) (Int64.ofInt (p.2 - p.1)) hs (HI V S s - LO V S s + 1).toNat (LO V S s) x σ h ho (Int.le_refl _) (by omega) 1000 (by omega)
    obtain ⟨σ2, g1, g2⟩ := ih (s + 1) _ σ1 e3 e5 (by omega) nf (by omega)
    refine ⟨σ2, ?_, e2.seq g2⟩
    rw [show outB Φ V S (d + 1) s x = outB Φ V S d (s + 1) (innB Φ V S s (HI V S s - LO V S s + 1).toNat (LO V S s) x) from rfl, ← g1, ← e1]
    show lp_X6_best_54_b (lp_X6_best_54 nf) 48 (nI f) (nI e) _ _ _ _ (nI s) σ = _
    unfold lp_X6_best_54_b
    have vl : V s - S s = iJ (LO V S s) := (iJ_eq (cs_val h hs).2.2.2.2.2.2.2.2.2.1 (by omega) (by omega)).symm
    simp only [le, if_false, chk_p, lt_p, bd_p, bc_p, oc_n, oc_s, and_self, and_true, true_and, if_true, if_false, isO_sA', isO_sB', isO_rA', hlen_sA, hlen_sB, hlen_rA, hR_sA, hR_sB, hR_rA, Typ_sA', Typ_sB', Typ_rA', O48, r48_0, r48_1, r48_2, r48_3, r48_4, r48_5, r48_6, r48_8, r48_9, r48_10, r48_11, r48_12, r48_15, r48_21, r48_22, r48_23, r48_24, r48_25, r48_28, r48_30, r48_31, r48_32, r48_35, r48_37, r48_39, r48_40, r48_41, t, m_of3 h hs, vl]
theorem op_best (a w : Int32) : OpOK (f_X5_best 0 a w) (f_X6_best 48 a w) := by
  intro σ V S C n FS I
  have t := I.1
  rcases start I a with ⟨k, φ, hk, rfl, ef, hg, hc, hxi, em⟩ | ⟨ef, em⟩
  · rcases rng2 w with ⟨e, he, rfl, w0, w2, wm⟩ | ⟨wm, wc⟩
    · obtain ⟨σ1, x1, x2, x3, x4, x5, x6⟩ := c_now hg.1 hc
      have t1 := x3.1
      have hwd := hasWidth_ok t1 x5
      by_cases hw : WD (RT (FS k) (LO V S) (HI V S)) = none
      · obtain ⟨σ2, z1, z2, z3⟩ := m_widthNow hk hg.1 x3
        have ow := oW_no (Φ := FS k) (LOHI x3)
        rw [hw] at hwd z1 ow
        have ow1 : (lg_cmp (oW none) (-9223372036854775807) = 0) = True := ow.trans (eq_true rfl)
        refine opQ I ⟨-9223372036854775807, σ1, σ2, ?_, x2, ?_, z2⟩
        · unfold f_X5_best
          simp only [chk_p, lt_p, bd_p, bc_p, oc_n, oc_s, and_self, and_true, true_and, if_true, if_false, isO_sA', isO_sB', isO_rA', hlen_sA, hlen_sB, hlen_rA, hR_sA, hR_sB, hR_rA, Typ_sA', Typ_sB', Typ_rA', O0, r0_0, r0_1, r0_3, r0_4, r0_5, r0_6, r0_7, O24, r24_0, r24_1, r24_5, r24_6, r24_7, r24_8, r24_9, t, t1, ef, w0, w2, if_false, x1, hwd, Option.isSome_none, Bool.false_eq_true]
        · unfold f_X6_best
          simp only [chk_p, lt_p, bd_p, bc_p, oc_n, oc_s, and_self, and_true, true_and, if_true, if_false, isO_sA', isO_sB', isO_rA', hlen_sA, hlen_sB, hlen_rA, hR_sA, hR_sB, hR_rA, Typ_sA', Typ_sB', Typ_rA', O48, r48_0, r48_1, r48_2, r48_3, r48_4, r48_5, r48_6, r48_8, r48_9, r48_10, r48_11, r48_12, r48_15, r48_21, r48_22, r48_23, r48_24, r48_25, r48_28, r48_30, r48_31, r48_32, r48_35, r48_37, r48_39, r48_40, r48_41, t1, em σ1 t1 x2.k7, beq1, wm, if_false, z1, ow1]
      · obtain ⟨wd, hw'⟩ := Option.ne_none_iff_exists'.mp hw
        obtain ⟨p, hp, hpw, hw0, hwr⟩ := WD_some (LOHI hc) hw'
        subst hpw
        have ok0 : okB (p.2 - p.1) (p.2 - p.1, -1, 0) := ⟨hw0, Int.le_refl _, Int.le_refl (-1), (by decide : (-1 : Int) ≤ 5), (by decide : (-200 : Int) ≤ 0), (by decide : (0 : Int) ≤ 200)⟩
        rw [hp] at x5
        obtain ⟨b1, b2, b3, b4⟩ := x5
        have ew : hB σ1 24 4 - hB σ1 24 3 = Int64.ofInt (p.2 - p.1) := (ofI_eq (by rw [l_sub (by rw [b2, b3]; exact hwr), b2, b3])).symm
        obtain ⟨σ2, y1, y2⟩ := x_out hg.1 hp hwr (nI k) he 6 0 (p.2 - p.1, -1, 0) σ1 x3 (Kq.xi x2 hc.2.1 hxi) x6 ok0 (by omega) 1000 (by omega)
        have c2 := x3.kp y2
        have t2 := c2.1
        obtain ⟨σ3, z1, z2, z3⟩ := m_widthNow hk hg.1 c2
        have t3 := z3.1
        obtain ⟨σ4, u1, u2⟩ := m_out hk hg.1 hp hwr he 6 0 (p.2 - p.1, -1, 0) σ3 z3 ok0 (by omega) 1000 (by omega)
        have ow := oW_no (Φ := FS k) (LOHI x3)
        have ow' : (WD (RT (FS k) (LO V S) (HI V S)) = none) = False := eq_false hw
        rw [ow'] at ow
        rw [hw'] at hwd z1 ow
        refine opQ I ⟨resB (p.2 - p.1) e (outB (FS k) V S 6 0 (p.2 - p.1, -1, 0)), σ2, σ4, ?_, x2.seq y2, ?_, z2.seq u2⟩
        · unfold f_X5_best
          simp only [chk_p, lt_p, bd_p, bc_p, oc_n, oc_s, and_self, and_true, true_and, if_true, if_false, isO_sA', isO_sB', isO_rA', hlen_sA, hlen_sB, hlen_rA, hR_sA, hR_sB, hR_rA, Typ_sA', Typ_sB', Typ_rA', O0, r0_0, r0_1, r0_3, r0_4, r0_5, r0_6, r0_7, O24, r24_0, r24_1, r24_5, r24_6, r24_7, r24_8, r24_9, t, t1, ef, w0, w2, if_false, x1, hwd, Option.isSome_some, beq1, ew]
          exact y1
        · unfold f_X6_best
          simp only [chk_p, lt_p, bd_p, bc_p, oc_n, oc_s, and_self, and_true, true_and, if_true, if_false, isO_sA', isO_sB', isO_rA', hlen_sA, hlen_sB, hlen_rA, hR_sA, hR_sB, hR_rA, Typ_sA', Typ_sB', Typ_rA', O48, r48_0, r48_1, r48_2, r48_3, r48_4, r48_5, r48_6, r48_8, r48_9, r48_10, r48_11, r48_12, r48_15, r48_21, r48_22, r48_23, r48_24, r48_25, r48_28, r48_30, r48_31, r48_32, r48_35, r48_37, r48_39, r48_40, r48_41, t2, t3, em σ2 t2 (x2.seq y2).k7, beq1, wm, if_false, z1, ow]
          exact u1
    · refine opN I (-9223372036854775808) ?_ ?_
      · unfold f_X5_best
        rcases wc with wc | ⟨wc, wc2⟩
        · simp only [chk_p, lt_p, bd_p, bc_p, oc_n, oc_s, and_self, and_true, true_and, if_true, if_false, isO_sA', isO_sB', isO_rA', hlen_sA, hlen_sB, hlen_rA, hR_sA, hR_sB, hR_rA, Typ_sA', Typ_sB', Typ_rA', O0, r0_0, r0_1, r0_3, r0_4, r0_5, r0_6, r0_7, t, ef, wc]
        · simp only [chk_p, lt_p, bd_p, bc_p, oc_n, oc_s, and_self, and_true, true_and, if_true, if_false, isO_sA', isO_sB', isO_rA', hlen_sA, hlen_sB, hlen_rA, hR_sA, hR_sB, hR_rA, Typ_sA', Typ_sB', Typ_rA', O0, r0_0, r0_1, r0_3, r0_4, r0_5, r0_6, r0_7, t, ef, wc, wc2, if_false]
      · unfold f_X6_best
        simp only [chk_p, lt_p, bd_p, bc_p, oc_n, oc_s, and_self, and_true, true_and, if_true, if_false, isO_sA', isO_sB', isO_rA', hlen_sA, hlen_sB, hlen_rA, hR_sA, hR_sB, hR_rA, Typ_sA', Typ_sB', Typ_rA', O48, r48_0, r48_1, r48_2, r48_3, r48_4, r48_5, r48_6, r48_8, r48_9, r48_10, r48_11, r48_12, r48_15, r48_21, r48_22, r48_23, r48_24, r48_25, r48_28, r48_30, r48_31, r48_32, r48_35, r48_37, r48_39, r48_40, r48_41, t, em σ t rfl, beq1, wm, if_false]
  · refine opN I (-9223372036854775808) ?_ ?_
    · unfold f_X5_best
      simp only [chk_p, lt_p, bd_p, bc_p, oc_n, oc_s, and_self, and_true, true_and, if_true, if_false, isO_sA', isO_sB', isO_rA', hlen_sA, hlen_sB, hlen_rA, hR_sA, hR_sB, hR_rA, Typ_sA', Typ_sB', Typ_rA', O0, r0_0, r0_1, r0_3, r0_4, r0_5, r0_6, r0_7, t, ef]
    · unfold f_X6_best
      simp only [chk_p, lt_p, bd_p, bc_p, oc_n, oc_s, and_self, and_true, true_and, if_true, if_false, isO_sA', isO_sB', isO_rA', hlen_sA, hlen_sB, hlen_rA, hR_sA, hR_sB, hR_rA, Typ_sA', Typ_sB', Typ_rA', O48, r48_0, r48_1, r48_2, r48_3, r48_4, r48_5, r48_6, r48_8, r48_9, r48_10, r48_11, r48_12, r48_15, r48_21, r48_22, r48_23, r48_24, r48_25, r48_28, r48_30, r48_31, r48_32, r48_35, r48_37, r48_39, r48_40, r48_41, t, em]
end
section
/-! widest, fits -/
theorem rt_nar {Φ : FM} {L H L' H' : Nat → Int} (h : ∀ s, L s ≤ L' s ∧ L' s ≤ H' s ∧ H' s ≤ H s) {p : Int × Int} (hx : RT Φ L H = some p) : ∃ q, RT Φ L' H' = some q ∧ q.1 ≤ q.2 ∧ p.1 ≤ q.1 ∧ q.2 ≤ p.2 := by
  obtain ⟨a, b, e, e1, e2, e3⟩ := SP_nar (Φ := Φ) h (mN Φ - 1) p.1 p.2 hx
  exact ⟨(a, b), e, e2, e1, e3⟩
def wid (x : Option (Int × Int)) : Int := match x with | none => 0 | some q => q.2 - q.1
def wW (Φ : FM) (V S : Nat → Int32) (s : Nat) : Int := wid (RT Φ (upI (LO V S) s (V s).toInt) (upI (HI V S) s (V s).toInt))
def stepW (Φ : FM) (V S : Nat → Int32) (s : Nat) (x : Int × Int) : Int × Int := if S s = 0 then x else if x.1 = -5 ∨ wW Φ V S s < x.2 then ((s : Int), wW Φ V S s) else x
def outW (Φ : FM) (V S : Nat → Int32) : Nat → Nat → Int × Int → Int × Int
  | 0, _, x => x
  | d + 1, s, x => outW Φ V S d (s + 1) (stepW Φ V S s x)
def okW (w0 : Int) (x : Int × Int) : Prop := -5 ≤ x.1 ∧ x.1 ≤ 5 ∧ 0 ≤ x.2 ∧ x.2 ≤ w0
theorem in_up {σ : HS} {φ f : Nat} {Φ : FM} {V S C : Nat → Int32} (h : CS σ φ f Φ V S C) {s : Nat} (hs : s < 6) : ∀ i, LO V S i ≤ upI (LO V S) s (V s).toInt i ∧ upI (LO V S) s (V s).toInt i ≤ upI (HI V S) s (V s).toInt i ∧ upI (HI V S) s (V s).toInt i ≤ HI V S i := fun i => by
  obtain ⟨-, -, -, -, -, -, v1, v2, -, -, -⟩ := cs_val h hs
  unfold upI
  by_cases e : i = s
  · rw [if_pos e, if_pos e, e]; unfold LO HI; rw [if_pos hs, if_pos hs]; omega
  · rw [if_neg e, if_neg e]; exact ⟨Int.le_refl _, LOHI h i, Int.le_refl _⟩
theorem c_standAs {σ : HS} {φ f : Nat} {Φ : FM} {V S C : Nat → Int32} (h : CS σ φ f Φ V S C) : ∃ σ', f_X4_standAs 24 1 σ = some ((), σ') ∧ Kp σ σ' ∧ CS σ' φ f Φ V S C ∧ Bx σ' (LO V S) (HI V S) := by
  obtain ⟨σ', e1, e2, e3⟩ := standAs_ok h.1
  have k : Kp σ σ' := e2.kp (by decide)
  have hb := Bx_now h.vals e3
  rw [cs_bL h, cs_bH h] at hb
  exact ⟨σ', e1, k, h.kp k, hb⟩
theorem okW_step {σ : HS} {φ f : Nat} {Φ : FM} {V S C : Nat → Int32} (h : CS σ φ f Φ V S C) {p : Int × Int} (hx : RT Φ (LO V S) (HI V S) = some p) {s : Nat} (hs : s < 6) {x : Int × Int} (ho : okW (p.2 - p.1) x) : okW (p.2 - p.1) (stepW Φ V S s x) := by
  obtain ⟨q, e, e1, e2, e3⟩ := rt_nar (in_up h hs) hx
  have ew : wW Φ V S s = q.2 - q.1 := by unfold wW; rw [e]; rfl
  unfold stepW
  by_cases c1 : S s = 0
  · rw [if_pos c1]; exact ho
  rw [if_neg c1]
  by_cases c2 : x.1 = -5 ∨ wW Φ V S s < x.2
  · rw [if_pos c2]
    exact ⟨by show (-5 : Int) ≤ (s : Int); omega, by show (s : Int) ≤ 5; omega, by show 0 ≤ wW Φ V S s; omega, by show wW Φ V S s ≤ _; omega⟩
  · rw [if_neg c2]; exact ho
theorem x_wid {φ f : Nat} {Φ : FM} {V S C : Nat → Int32} (hw : WF Φ) {p : Int × Int} (hx : RT Φ (LO V S) (HI V S) = some p) (g : inR (p.2 - p.1)) (a : Int32) : ∀ (d s : Nat) (x : Int × Int) (σ : HS), CS σ φ f Φ V S C → okW (p.2 - p.1) x → s + d = 6 → ∀ nf, d < nf →
    ∃ σ', lp_X5_widest_39 nf 0 a φ (iJ x.1) (Int64.ofInt x.2) (nI s) σ = some (iJ (outW Φ V S d s x).1, σ') ∧ Kp σ σ' := by
  intro d
  induction d with
  | zero =>
    intro s x σ h ho hd nf hnf
    obtain ⟨nf, rfl⟩ : ∃ k, nf = k + 1 := ⟨nf - 1, by omega⟩
    have : s = 6 := by omega
    subst this
    refine ⟨σ, ?_, Kp.rf⟩
    show lp_X5_widest_39_b (lp_X5_widest_39 nf) 0 a φ _ _ (nI 6) σ = _
    unfold lp_X5_widest_39_b
    exact if_pos (by decide)
  | succ d ih =>
    intro s x σ h ho hd nf hnf
    obtain ⟨nf, rfl⟩ : ∃ k, nf = k + 1 := ⟨nf - 1, by omega⟩
    have hs : s < 6 := by omega
    have t := h.1
    have ho1 := okW_step h hx hs ho
    obtain ⟨v1, v2, -⟩ := cs_val h hs
    have le : (6 : Int32) ≤ nI s ↔ False := by rw [show (6 : Int32) = nI 6 from rfl, nle (a := 6) (b := s) (by omega) (by omega)]
    have le := eq_false (fun z => le.mp z)
    have ie := inbE (i := s) (n := 6) hs (by omega)
    have ci := cl1000 (i := s) (by omega)
    show ∃ σ', lp_X5_widest_39_b (lp_X5_widest_39 nf) 0 a φ _ _ (nI s) σ = _ ∧ _
    unfold lp_X5_widest_39_b
    rw [show outW Φ V S (d + 1) s x = outW Φ V S d (s + 1) (stepW Φ V S s x) from rfl]
    by_cases c1 : S s = 0
    · obtain ⟨σ2, e1, e2⟩ := ih (s + 1) _ σ h ho1 (by omega) nf (by omega)
      refine ⟨σ2, ?_, e2⟩
      rw [show stepW Φ V S s x = x from if_pos c1] at e1 ⊢
      simp only [le, if_false, chk_p, lt_p, bd_p, bc_p, oc_n, oc_s, and_self, and_true, true_and, if_true, if_false, isO_sA', isO_sB', isO_rA', hlen_sA, hlen_sB, hlen_rA, hR_sA, hR_sB, hR_rA, Typ_sA', Typ_sB', Typ_rA', O0, r0_0, r0_1, r0_3, r0_4, r0_5, r0_6, r0_7, O1, r1_0, r1_1, r1_2, r1_3, r1_5, r1_6, r1_7, O3, l3, t, ie, ci, v2, c1, nI_s, e1]
    · obtain ⟨σ1, s1, s2, s3, s4⟩ := c_standAs h
      obtain ⟨v1', v2', -⟩ := cs_val s3 hs
      obtain ⟨r1, r2, r3⟩ := c_stand s3.1 s4 hs (a := V s) (b := V s) (Int.le_refl _)
      have k3 := r3.kp (by decide)
      have c3 := s3.kp k3
      obtain ⟨σ4, g1, g2, g3, g4, g5, g6, g7⟩ := c_carry hw c3 r2
      obtain ⟨q, e, q1, q2, q3⟩ := rt_nar (in_up h hs) hx
      rw [e] at g5
      obtain ⟨u1, u2, u3, u4⟩ := g5
      have hww : wW Φ V S s = q.2 - q.1 := by unfold wW; rw [e]; rfl
      have ew : (hB σ4 24 4 - hB σ4 24 3).toInt = wW Φ V S s := by rw [l_sub (by rw [u2, u3]; omega), u2, u3, hww]
      have ew' := ofI_eq ew
      obtain ⟨o1, o2, o3, o4⟩ := ho
      have cmp : (0 ≤ lg_cmp (hB σ4 24 4 - hB σ4 24 3) (Int64.ofInt x.2)) = ¬ (wW Φ V S s < x.2) := by
        rw [zc_ge, ew, ofI (by omega)]; exact propext ⟨fun z => by omega, fun z => by omega⟩
      have em : (iJ x.1 = (-5 : Int32)) = (x.1 = -5) := iJ_i (y := -5) (by omega) (by omega) (by omega) (by omega)
      obtain ⟨σ5, e1, e2⟩ := ih (s + 1) _ σ4 g3 ho1 (by omega) nf (by omega)
      refine ⟨σ5, ?_, ((s2.seq k3).seq g2).seq e2⟩
      have t1 := s3.1
      have t3 := c3.1
      have t4 := g3.1
      by_cases c2 : x.1 = -5
      · rw [show stepW Φ V S s x = ((s : Int), wW Φ V S s) by unfold stepW; rw [if_neg c1, if_pos (Or.inl c2)]] at e1 ⊢
        rw [← e1]
        have em' : (iJ x.1 = (-5 : Int32)) = True := em.trans (eq_true c2)
        simp only [le, if_false, chk_p, lt_p, bd_p, bc_p, oc_n, oc_s, and_self, and_true, true_and, if_true, if_false, isO_sA', isO_sB', isO_rA', hlen_sA, hlen_sB, hlen_rA, hR_sA, hR_sB, hR_rA, Typ_sA', Typ_sB', Typ_rA', O0, r0_0, r0_1, r0_3, r0_4, r0_5, r0_6, r0_7, O1, r1_0, r1_1, r1_2, r1_3, r1_5, r1_6, r1_7, O2, l2, O3, l3, O24, r24_0, r24_1, r24_5, r24_6, r24_7, r24_8, r24_9, t, t1, t3, t4, ie, ci, v2, v1', c1, s1, r1, g1, em', nI_s, ew', iJ_n (show s < 1000 by omega)]
      · have em' : (iJ x.1 = (-5 : Int32)) = False := em.trans (eq_false c2)
        by_cases c3 : wW Φ V S s < x.2
        · rw [show stepW Φ V S s x = ((s : Int), wW Φ V S s) by unfold stepW; rw [if_neg c1, if_pos (Or.inr c3)]] at e1 ⊢
          rw [← e1]
          simp only [le, if_false, chk_p, lt_p, bd_p, bc_p, oc_n, oc_s, and_self, and_true, true_and, if_true, if_false, isO_sA', isO_sB', isO_rA', hlen_sA, hlen_sB, hlen_rA, hR_sA, hR_sB, hR_rA, Typ_sA', Typ_sB', Typ_rA', O0, r0_0, r0_1, r0_3, r0_4, r0_5, r0_6, r0_7, O1, r1_0, r1_1, r1_2, r1_3, r1_5, r1_6, r1_7, O2, l2, O3, l3, O24, r24_0, r24_1, r24_5, r24_6, r24_7, r24_8, r24_9, t, t1, t3, t4, ie, ci, v2, v1', c1, s1, r1, g1, em', cmp, c3, not_true, nI_s, ew', iJ_n (show s < 1000 by omega)]
        · rw [show stepW Φ V S s x = x by unfold stepW; rw [if_neg c1, if_neg (by omega)]] at e1 ⊢
          rw [← e1]
          simp only [le, if_false, chk_p, lt_p, bd_p, bc_p, oc_n, oc_s, and_self, and_true, true_and, if_true, if_false, isO_sA', isO_sB', isO_rA', hlen_sA, hlen_sB, hlen_rA, hR_sA, hR_sB, hR_rA, Typ_sA', Typ_sB', Typ_rA', O0, r0_0, r0_1, r0_3, r0_4, r0_5, r0_6, r0_7, O1, r1_0, r1_1, r1_2, r1_3, r1_5, r1_6, r1_7, O2, l2, O3, l3, O24, r24_0, r24_1, r24_5, r24_6, r24_7, r24_8, r24_9, t, t1, t3, t4, ie, ci, v2, v1', c1, s1, r1, g1, em', cmp, c3, not_false_iff, nI_s]
theorem m_wid {φ f : Nat} {Φ : FM} {V S C : Nat → Int32} (hf : f < 7) (hw : WF Φ) {p : Int × Int} (hx : RT Φ (LO V S) (HI V S) = some p) (g : inR (p.2 - p.1)) : ∀ (d s : Nat) (x : Int × Int) (σ : HS), CS σ φ f Φ V S C → okW (p.2 - p.1) x → s + d = 6 → ∀ nf, d < nf →
    ∃ σ', lp_X6_widest_33 nf 48 (nI f) (iJ x.1) (Int64.ofInt x.2) (nI s) σ = some (iJ (outW Φ V S d s x).1, σ') ∧ Kp σ σ' := by
  intro d
  induction d with
  | zero =>
    intro s x σ h ho hd nf hnf
    obtain ⟨nf, rfl⟩ : ∃ k, nf = k + 1 := ⟨nf - 1, by omega⟩
    have : s = 6 := by omega
    subst this
    refine ⟨σ, ?_, Kp.rf⟩
    show lp_X6_widest_33_b (lp_X6_widest_33 nf) 48 (nI f) _ _ (nI 6) σ = _
    unfold lp_X6_widest_33_b
    exact if_pos (by decide)
  | succ d ih =>
    intro s x σ h ho hd nf hnf
    obtain ⟨nf, rfl⟩ : ∃ k, nf = k + 1 := ⟨nf - 1, by omega⟩
    have hs : s < 6 := by omega
    have t := h.1
    have ho1 := okW_step h hx hs ho
    have le : (6 : Int32) ≤ nI s ↔ False := by rw [show (6 : Int32) = nI 6 from rfl, nle (a := 6) (b := s) (by omega) (by omega)]
    have le := eq_false (fun z => le.mp z)
    show ∃ σ', lp_X6_widest_33_b (lp_X6_widest_33 nf) 48 (nI f) _ _ (nI s) σ = _ ∧ _
    unfold lp_X6_widest_33_b
    rw [show outW Φ V S (d + 1) s x = outW Φ V S d (s + 1) (stepW Φ V S s x) from rfl]
    by_cases c1 : S s = 0
    · obtain ⟨σ2, e1, e2⟩ := ih (s + 1) _ σ h ho1 (by omega) nf (by omega)
      refine ⟨σ2, ?_, e2⟩
      rw [show stepW Φ V S s x = x from if_pos c1] at e1 ⊢
      simp only [le, if_false, chk_p, lt_p, bd_p, bc_p, oc_n, oc_s, and_self, and_true, true_and, if_true, if_false, isO_sA', isO_sB', isO_rA', hlen_sA, hlen_sB, hlen_rA, hR_sA, hR_sB, hR_rA, Typ_sA', Typ_sB', Typ_rA', O48, r48_0, r48_1, r48_2, r48_3, r48_4, r48_5, r48_6, r48_8, r48_9, r48_10, r48_11, r48_12, r48_15, r48_21, r48_22, r48_23, r48_24, r48_25, r48_28, r48_30, r48_31, r48_32, r48_35, r48_37, r48_39, r48_40, r48_41, t, m_span h hs, c1, nI_s, e1]
    · obtain ⟨σ1, s1, s2, s3, s4, -⟩ := m_box h
      obtain ⟨r1, r2, r3⟩ := m_laysPoint s3.1 s4 hs (a := V s)
      have k3 := r3.kp (by decide)
      have c3 := s3.kp k3
      obtain ⟨σ4, g1, g2, g3, g4⟩ := m_width hf hw c3 r2
      obtain ⟨q, e, q1, q2, q3⟩ := rt_nar (in_up h hs) hx
      have hww : wW Φ V S s = q.2 - q.1 := by unfold wW; rw [e]; rfl
      have ew : oW (WD (RT Φ (upI (LO V S) s (V s).toInt) (upI (HI V S) s (V s).toInt))) = Int64.ofInt (wW Φ V S s) := by
        rw [e, hww]; show oW (if inR (q.2 - q.1) then some (q.2 - q.1) else none) = _
        rw [if_pos (by omega)]; rfl
      rw [ew] at g1
      obtain ⟨o1, o2, o3, o4⟩ := ho
      have cmp : (0 ≤ lg_cmp (Int64.ofInt (wW Φ V S s)) (Int64.ofInt x.2)) = ¬ (wW Φ V S s < x.2) := by
        rw [zc_ge, ofI (by omega), ofI (by omega)]; exact propext ⟨fun z => by omega, fun z => by omega⟩
      have em : (iJ x.1 = (-5 : Int32)) = (x.1 = -5) := iJ_i (y := -5) (by omega) (by omega) (by omega) (by omega)
      obtain ⟨σ5, e1, e2⟩ := ih (s + 1) _ σ4 g3 ho1 (by omega) nf (by omega)
      refine ⟨σ5, ?_, ((s2.seq k3).seq g2).seq e2⟩
      have t1 := s3.1
      have t3 := c3.1
      have t4 := g3.1
      by_cases c2 : x.1 = -5
      · rw [show stepW Φ V S s x = ((s : Int), wW Φ V S s) by unfold stepW; rw [if_neg c1, if_pos (Or.inl c2)]] at e1 ⊢
        rw [← e1]
        have em' : (iJ x.1 = (-5 : Int32)) = True := em.trans (eq_true c2)
        simp only [le, if_false, chk_p, lt_p, bd_p, bc_p, oc_n, oc_s, and_self, and_true, true_and, if_true, if_false, isO_sA', isO_sB', isO_rA', hlen_sA, hlen_sB, hlen_rA, hR_sA, hR_sB, hR_rA, Typ_sA', Typ_sB', Typ_rA', O48, r48_0, r48_1, r48_2, r48_3, r48_4, r48_5, r48_6, r48_8, r48_9, r48_10, r48_11, r48_12, r48_15, r48_21, r48_22, r48_23, r48_24, r48_25, r48_28, r48_30, r48_31, r48_32, r48_35, r48_37, r48_39, r48_40, r48_41, t, t1, t3, t4, m_span h hs, m_val s3 hs, c1, s1, r1, g1, em', nI_s, iJ_n (show s < 1000 by omega)]
      · have em' : (iJ x.1 = (-5 : Int32)) = False := em.trans (eq_false c2)
        by_cases c3 : wW Φ V S s < x.2
        · rw [show stepW Φ V S s x = ((s : Int), wW Φ V S s) by unfold stepW; rw [if_neg c1, if_pos (Or.inr c3)]] at e1 ⊢
          rw [← e1]
          simp only [le, if_false, chk_p, lt_p, bd_p, bc_p, oc_n, oc_s, and_self, and_true, true_and, if_true, if_false, isO_sA', isO_sB', isO_rA', hlen_sA, hlen_sB, hlen_rA, hR_sA, hR_sB, hR_rA, Typ_sA', Typ_sB', Typ_rA', O48, r48_0, r48_1, r48_2, r48_3, r48_4, r48_5, r48_6, r48_8, r48_9, r48_10, r48_11, r48_12, r48_15, r48_21, r48_22, r48_23, r48_24, r48_25, r48_28, r48_30, r48_31, r48_32, r48_35, r48_37, r48_39, r48_40, r48_41, t, t1, t3, t4, m_span h hs, m_val s3 hs, c1, s1, r1, g1, em', cmp, c3, not_true, nI_s, iJ_n (show s < 1000 by omega)]
        · rw [show stepW Φ V S s x = x by unfold stepW; rw [if_neg c1, if_neg (by omega)]] at e1 ⊢
          rw [← e1]
          simp only [le, if_false, chk_p, lt_p, bd_p, bc_p, oc_n, oc_s, and_self, and_true, true_and, if_true, if_false, isO_sA', isO_sB', isO_rA', hlen_sA, hlen_sB, hlen_rA, hR_sA, hR_sB, hR_rA, Typ_sA', Typ_sB', Typ_rA', O48, r48_0, r48_1, r48_2, r48_3, r48_4, r48_5, r48_6, r48_8, r48_9, r48_10, r48_11, r48_12, r48_15, r48_21, r48_22, r48_23, r48_24, r48_25, r48_28, r48_30, r48_31, r48_32, r48_35, r48_37, r48_39, r48_40, r48_41, t, t1, t3, t4, m_span h hs, m_val s3 hs, c1, s1, r1, g1, em', cmp, c3, not_false_iff, nI_s]
theorem op_widest (a : Int32) : OpOK (f_X5_widest 0 a) (f_X6_widest 48 a) := by
  intro σ V S C n FS I
  have t := I.1
  rcases start I a with ⟨k, φ, hk, rfl, ef, hg, hc, hxi, em⟩ | ⟨ef, em⟩
  · obtain ⟨σ1, x1, x2, x3, x4, x5, x6⟩ := c_now hg.1 hc
    have t1 := x3.1
    have hwd := hasWidth_ok t1 x5
    by_cases hw : WD (RT (FS k) (LO V S) (HI V S)) = none
    · obtain ⟨σ2, z1, z2, z3⟩ := m_widthNow hk hg.1 x3
      have ow := oW_no (Φ := FS k) (LOHI x3)
      rw [hw] at hwd z1 ow
      have ow1 : (lg_cmp (oW none) (-9223372036854775807) = 0) = True := ow.trans (eq_true rfl)
      refine opQ I ⟨-6, σ1, σ2, ?_, x2, ?_, z2⟩
      · unfold f_X5_widest
        simp only [chk_p, lt_p, bd_p, bc_p, oc_n, oc_s, and_self, and_true, true_and, if_true, if_false, isO_sA', isO_sB', isO_rA', hlen_sA, hlen_sB, hlen_rA, hR_sA, hR_sB, hR_rA, Typ_sA', Typ_sB', Typ_rA', O0, r0_0, r0_1, r0_3, r0_4, r0_5, r0_6, r0_7, O24, r24_0, r24_1, r24_5, r24_6, r24_7, r24_8, r24_9, t, t1, ef, if_false, x1, hwd, Option.isSome_none, Bool.false_eq_true]
      · unfold f_X6_widest
        simp only [chk_p, lt_p, bd_p, bc_p, oc_n, oc_s, and_self, and_true, true_and, if_true, if_false, isO_sA', isO_sB', isO_rA', hlen_sA, hlen_sB, hlen_rA, hR_sA, hR_sB, hR_rA, Typ_sA', Typ_sB', Typ_rA', O48, r48_0, r48_1, r48_2, r48_3, r48_4, r48_5, r48_6, r48_8, r48_9, r48_10, r48_11, r48_12, r48_15, r48_21, r48_22, r48_23, r48_24, r48_25, r48_28, r48_30, r48_31, r48_32, r48_35, r48_37, r48_39, r48_40, r48_41, t1, em σ1 t1 x2.k7, beq1, if_false, z1, ow1]
    · obtain ⟨wd, hw'⟩ := Option.ne_none_iff_exists'.mp hw
      obtain ⟨p, hp, hpw, hw0, hwr⟩ := WD_some (LOHI hc) hw'
      subst hpw
      have ok0 : okW (p.2 - p.1) (-5, 0) := ⟨Int.le_refl (-5), (by decide : (-5 : Int) ≤ 5), Int.le_refl 0, hw0⟩
      obtain ⟨σ2, y1, y2⟩ := x_wid hg.1 hp hwr (nI k) 6 0 (-5, 0) σ1 x3 ok0 (by omega) 1000 (by omega)
      have c2 := x3.kp y2
      have t2 := c2.1
      obtain ⟨σ3, z1, z2, z3⟩ := m_widthNow hk hg.1 c2
      have t3 := z3.1
      obtain ⟨σ4, u1, u2⟩ := m_wid hk hg.1 hp hwr 6 0 (-5, 0) σ3 z3 ok0 (by omega) 1000 (by omega)
      have ow := oW_no (Φ := FS k) (LOHI x3)
      have ow' : (WD (RT (FS k) (LO V S) (HI V S)) = none) = False := eq_false hw
      rw [ow'] at ow
      rw [hw'] at hwd z1 ow
      refine opQ I ⟨iJ (outW (FS k) V S 6 0 (-5, 0)).1, σ2, σ4, ?_, x2.seq y2, ?_, z2.seq u2⟩
      · unfold f_X5_widest
        simp only [chk_p, lt_p, bd_p, bc_p, oc_n, oc_s, and_self, and_true, true_and, if_true, if_false, isO_sA', isO_sB', isO_rA', hlen_sA, hlen_sB, hlen_rA, hR_sA, hR_sB, hR_rA, Typ_sA', Typ_sB', Typ_rA', O0, r0_0, r0_1, r0_3, r0_4, r0_5, r0_6, r0_7, O24, r24_0, r24_1, r24_5, r24_6, r24_7, r24_8, r24_9, t, t1, ef, if_false, x1, hwd, Option.isSome_some, beq1]
        exact y1
      · unfold f_X6_widest
        simp only [chk_p, lt_p, bd_p, bc_p, oc_n, oc_s, and_self, and_true, true_and, if_true, if_false, isO_sA', isO_sB', isO_rA', hlen_sA, hlen_sB, hlen_rA, hR_sA, hR_sB, hR_rA, Typ_sA', Typ_sB', Typ_rA', O48, r48_0, r48_1, r48_2, r48_3, r48_4, r48_5, r48_6, r48_8, r48_9, r48_10, r48_11, r48_12, r48_15, r48_21, r48_22, r48_23, r48_24, r48_25, r48_28, r48_30, r48_31, r48_32, r48_35, r48_37, r48_39, r48_40, r48_41, t2, t3, em σ2 t2 (x2.seq y2).k7, beq1, if_false, z1, ow]
        exact u1
  · refine opN I (-1) ?_ ?_
    · unfold f_X5_widest
      simp only [chk_p, lt_p, bd_p, bc_p, oc_n, oc_s, and_self, and_true, true_and, if_true, if_false, isO_sA', isO_sB', isO_rA', hlen_sA, hlen_sB, hlen_rA, hR_sA, hR_sB, hR_rA, Typ_sA', Typ_sB', Typ_rA', O0, r0_0, r0_1, r0_3, r0_4, r0_5, r0_6, r0_7, t, ef]
    · unfold f_X6_widest
      simp only [chk_p, lt_p, bd_p, bc_p, oc_n, oc_s, and_self, and_true, true_and, if_true, if_false, isO_sA', isO_sB', isO_rA', hlen_sA, hlen_sB, hlen_rA, hR_sA, hR_sB, hR_rA, Typ_sA', Typ_sB', Typ_rA', O48, r48_0, r48_1, r48_2, r48_3, r48_4, r48_5, r48_6, r48_8, r48_9, r48_10, r48_11, r48_12, r48_15, r48_21, r48_22, r48_23, r48_24, r48_25, r48_28, r48_30, r48_31, r48_32, r48_35, r48_37, r48_39, r48_40, r48_41, t, em]
end
section
/-! fits -/
def fitB (Φ : FM) (V S : Nat → Int32) (s : Nat) (told : Int) (v : Int) : Bool := match RT Φ (upI (LO V S) s (v - (S s).toInt)) (upI (HI V S) s (v + (S s).toInt)) with
  | none => false
  | some p => decide (p.1 ≤ told) && decide (told ≤ p.2)
def cntF (b : Int → Bool) : Nat → Int → Nat
  | 0, _ => 0
  | d + 1, v => (if b v = true then 1 else 0) + cntF b d (v + 1)
def lstF (b : Int → Bool) : Nat → Int → Int
  | 0, _ => -1000
  | d + 1, v => if b v = true then v else lstF b d (v + 1)
theorem cntF_le (b : Int → Bool) : ∀ d v, cntF b d v ≤ d := by
  intro d
  induction d with
  | zero => intro v; exact Nat.le_refl _
  | succ d ih =>
    intro v
    have := ih (v + 1)
    show (if b v = true then 1 else 0) + cntF b d (v + 1) ≤ d + 1
    by_cases c : b v = true
    · rw [if_pos c]; omega
    · rw [if_neg c]; omega
theorem z9 : (99 : Int32).toInt = 99 := rfl
theorem x_fit {φ f : Nat} {Φ : FM} {V S C : Nat → Int32} (hw : WF Φ) {s : Nat} (hs : s < 6) (a : Int32) (told : Int64) {e : Nat} (he : e < 2) : ∀ (d : Nat) (v : Int) (n : Nat) (l : Int) (L0 H0 : Nat → Int) (σ : HS), CS σ φ f Φ V S C → Bx σ L0 H0 → (∀ x, upI L0 s x = upI (LO V S) s x ∧ upI H0 s x = upI (HI V S) s x) → -99 ≤ v → v + d = 100 → n + d ≤ 500 → ∀ nf, d < nf →
    ∃ σ', lp_X5_fits_55 nf 0 a (nI s) told (nI e) φ (nI n) (iJ l) (iJ v) σ = some ((if e = 0 then nI (n + cntF (fitB Φ V S s told.toInt) d v) else iJ (if n = 0 then (if cntF (fitB Φ V S s told.toInt) d v = 0 then l else lstF (fitB Φ V S s told.toInt) d v) else l)), σ') ∧ Kp σ σ' := by
  intro d
  induction d with
  | zero =>
    intro v n l L0 H0 σ h hb h0 hv hd hn nf hnf
    obtain ⟨nf, rfl⟩ : ∃ k, nf = k + 1 := ⟨nf - 1, by omega⟩
    refine ⟨σ, ?_, Kp.rf⟩
    show lp_X5_fits_55_b (lp_X5_fits_55 nf) 0 a (nI s) told (nI e) φ _ _ (iJ v) σ = _
    unfold lp_X5_fits_55_b
    have lt : ((99 : Int32) < iJ v) = True := by rw [i_lt, z9, iT (by omega) (by omega)]; exact eq_true (by omega)
    have e0 : (nI e = 0) = (e = 0) := nE (a := e) (b := 0) (by omega) (by omega)
    simp only [lt, if_true, e0]
    by_cases c : e = 0
    · rw [if_pos c, if_pos c]; rfl
    · rw [if_neg c, if_neg c]
      by_cases c2 : n = 0
      · rw [if_pos c2, if_pos (show cntF (fitB Φ V S s told.toInt) 0 v = 0 from rfl)]
      · rw [if_neg c2]
  | succ d ih =>
    intro v n l L0 H0 σ h hb h0 hv hd hn nf hnf
    obtain ⟨nf, rfl⟩ : ∃ k, nf = k + 1 := ⟨nf - 1, by omega⟩
    have t := h.1
    obtain ⟨v1, v2, -, -, -, -, -, r1, -⟩ := cs_val h hs
    have ie := inbE (i := s) (n := 6) hs (by omega)
    have ci := cl1000 (i := s) (by omega)
    have ev : (iJ v).toInt = v := iT (by omega) (by omega)
    have es : (iJ v - S s).toInt = v - (S s).toInt := by rw [i_sub (by omega) (by omega) (by omega) (by omega), ev]
    have ea : (iJ v + S s).toInt = v + (S s).toInt := by rw [i_add (by omega) (by omega) (by omega) (by omega), ev]
    obtain ⟨s1, s2, s3⟩ := c_stand t hb hs (a := iJ v - S s) (b := iJ v + S s) (by omega)
    rw [es, ea, (h0 _).1, (h0 _).2] at s2
    have k1 := s3.kp (by decide)
    have c1 := h.kp k1
    obtain ⟨σ2, g1, g2, g3, g4, g5, g6, g7⟩ := c_carry hw c1 s2
    have t1 := c1.1
    have t2 := g3.1
    have h0' : ∀ x, upI (upI (LO V S) s (v - (S s).toInt)) s x = upI (LO V S) s x ∧ upI (upI (HI V S) s (v + (S s).toInt)) s x = upI (HI V S) s x := fun x => ⟨upI_upI _ _ _ _, upI_upI _ _ _ _⟩
    have lt : ((99 : Int32) < iJ v) = False := by rw [i_lt, z9, ev]; exact eq_false (by omega)
    have n0 : (nI n = 0) = (n = 0) := nE (a := n) (b := 0) (by omega) (by omega)
    have n1 : n = 0 → (nI n = 0) = True := fun c => n0.trans (eq_true c)
    have n2 : ¬ n = 0 → (nI n = 0) = False := fun c => n0.trans (eq_false c)
    have ec : cntF (fitB Φ V S s told.toInt) (d + 1) v = (if fitB Φ V S s told.toInt v = true then 1 else 0) + cntF (fitB Φ V S s told.toInt) d (v + 1) := rfl
    have el : lstF (fitB Φ V S s told.toInt) (d + 1) v = if fitB Φ V S s told.toInt v = true then v else lstF (fitB Φ V S s told.toInt) d (v + 1) := rfl
    show ∃ σ', lp_X5_fits_55_b (lp_X5_fits_55 nf) 0 a (nI s) told (nI e) φ _ _ (iJ v) σ = _ ∧ _
    unfold lp_X5_fits_55_b
    rw [ec, el]
    cases hx : RT Φ (upI (LO V S) s (v - (S s).toInt)) (upI (HI V S) s (v + (S s).toInt)) with
    | none =>
      rw [hx] at g5
      have g5' : hA σ2 24 2 = 1 := g5
      have hf : ¬ fitB Φ V S s told.toInt v = true := by unfold fitB; rw [hx]; exact fun z => by cases z
      rw [if_neg hf, if_neg hf, Nat.zero_add]
      obtain ⟨σ3, e1, e2⟩ := ih (v + 1) n l _ _ σ2 g3 g6 h0' (by omega) (by omega) (by omega) nf (by omega)
      refine ⟨σ3, ?_, (k1.seq g2).seq e2⟩
      rw [← e1]
      simp only [lt, if_false, chk_p, lt_p, bd_p, bc_p, oc_n, oc_s, and_self, and_true, true_and, if_true, if_false, isO_sA', isO_sB', isO_rA', hlen_sA, hlen_sB, hlen_rA, hR_sA, hR_sB, hR_rA, Typ_sA', Typ_sB', Typ_rA', O0, r0_0, r0_1, r0_3, r0_4, r0_5, r0_6, r0_7, O1, r1_0, r1_1, r1_2, r1_3, r1_5, r1_6, r1_7, O3, l3, O24, r24_0, r24_1, r24_5, r24_6, r24_7, r24_8, r24_9, t, t1, t2, ie, ci, v2, s1, g1, g5', beq1, iJ_1]
    | some p =>
      rw [hx] at g5
      obtain ⟨u1, u2, u3, u4⟩ := g5
      have q1 : (0 < lg_cmp (hB σ2 24 3) told) = ¬ (p.1 ≤ told.toInt) := by rw [zc_gt, u2]; exact propext ⟨fun z => by omega, fun z => by omega⟩
      have q2 : (0 < lg_cmp told (hB σ2 24 4)) = ¬ (told.toInt ≤ p.2) := by rw [zc_gt, u3]; exact propext ⟨fun z => by omega, fun z => by omega⟩
      by_cases z1 : p.1 ≤ told.toInt
      · by_cases z2 : told.toInt ≤ p.2
        · have hf : fitB Φ V S s told.toInt v = true := by unfold fitB; rw [hx]; simp [z1, z2]
          rw [if_pos hf, if_pos hf]
          by_cases c : n = 0
          · obtain ⟨σ3, e1, e2⟩ := ih (v + 1) (n + 1) v _ _ σ2 g3 g6 h0' (by omega) (by omega) (by omega) nf (by omega)
            refine ⟨σ3, ?_, (k1.seq g2).seq e2⟩
            rw [if_pos c, if_neg (show ¬ (1 + cntF (fitB Φ V S s told.toInt) d (v + 1) = 0) by omega), ← Nat.add_assoc]
            rw [if_neg (show ¬ (n + 1 = 0) by omega)] at e1
            rw [← e1]
            simp only [lt, if_false, chk_p, lt_p, bd_p, bc_p, oc_n, oc_s, and_self, and_true, true_and, if_true, if_false, isO_sA', isO_sB', isO_rA', hlen_sA, hlen_sB, hlen_rA, hR_sA, hR_sB, hR_rA, Typ_sA', Typ_sB', Typ_rA', O0, r0_0, r0_1, r0_3, r0_4, r0_5, r0_6, r0_7, O1, r1_0, r1_1, r1_2, r1_3, r1_5, r1_6, r1_7, O3, l3, O24, r24_0, r24_1, r24_5, r24_6, r24_7, r24_8, r24_9, t, t1, t2, ie, ci, v2, s1, g1, u1, q1, q2, z1, z2, not_true, n1 c, iJ_1, nI_s]
          · obtain ⟨σ3, e1, e2⟩ := ih (v + 1) (n + 1) l _ _ σ2 g3 g6 h0' (by omega) (by omega) (by omega) nf (by omega)
            refine ⟨σ3, ?_, (k1.seq g2).seq e2⟩
            rw [if_neg c, ← Nat.add_assoc]
            rw [if_neg (show ¬ (n + 1 = 0) by omega)] at e1
            rw [← e1]
            simp only [lt, if_false, chk_p, lt_p, bd_p, bc_p, oc_n, oc_s, and_self, and_true, true_and, if_true, if_false, isO_sA', isO_sB', isO_rA', hlen_sA, hlen_sB, hlen_rA, hR_sA, hR_sB, hR_rA, Typ_sA', Typ_sB', Typ_rA', O0, r0_0, r0_1, r0_3, r0_4, r0_5, r0_6, r0_7, O1, r1_0, r1_1, r1_2, r1_3, r1_5, r1_6, r1_7, O3, l3, O24, r24_0, r24_1, r24_5, r24_6, r24_7, r24_8, r24_9, t, t1, t2, ie, ci, v2, s1, g1, u1, q1, q2, z1, z2, not_true, n2 c, iJ_1, nI_s]
        · have hf : ¬ fitB Φ V S s told.toInt v = true := by unfold fitB; rw [hx]; simp [z2]
          rw [if_neg hf, if_neg hf, Nat.zero_add]
          obtain ⟨σ3, e1, e2⟩ := ih (v + 1) n l _ _ σ2 g3 g6 h0' (by omega) (by omega) (by omega) nf (by omega)
          refine ⟨σ3, ?_, (k1.seq g2).seq e2⟩
          rw [← e1]
          simp only [lt, if_false, chk_p, lt_p, bd_p, bc_p, oc_n, oc_s, and_self, and_true, true_and, if_true, if_false, isO_sA', isO_sB', isO_rA', hlen_sA, hlen_sB, hlen_rA, hR_sA, hR_sB, hR_rA, Typ_sA', Typ_sB', Typ_rA', O0, r0_0, r0_1, r0_3, r0_4, r0_5, r0_6, r0_7, O1, r1_0, r1_1, r1_2, r1_3, r1_5, r1_6, r1_7, O3, l3, O24, r24_0, r24_1, r24_5, r24_6, r24_7, r24_8, r24_9, t, t1, t2, ie, ci, v2, s1, g1, u1, q1, q2, z1, z2, not_true, not_false_iff, iJ_1]
      · have hf : ¬ fitB Φ V S s told.toInt v = true := by unfold fitB; rw [hx]; simp [z1]
        rw [if_neg hf, if_neg hf, Nat.zero_add]
        obtain ⟨σ3, e1, e2⟩ := ih (v + 1) n l _ _ σ2 g3 g6 h0' (by omega) (by omega) (by omega) nf (by omega)
        refine ⟨σ3, ?_, (k1.seq g2).seq e2⟩
        rw [← e1]
        simp only [lt, if_false, chk_p, lt_p, bd_p, bc_p, oc_n, oc_s, and_self, and_true, true_and, if_true, if_false, isO_sA', isO_sB', isO_rA', hlen_sA, hlen_sB, hlen_rA, hR_sA, hR_sB, hR_rA, Typ_sA', Typ_sB', Typ_rA', O0, r0_0, r0_1, r0_3, r0_4, r0_5, r0_6, r0_7, O1, r1_0, r1_1, r1_2, r1_3, r1_5, r1_6, r1_7, O3, l3, O24, r24_0, r24_1, r24_5, r24_6, r24_7, r24_8, r24_9, t, t1, t2, ie, ci, v2, s1, g1, u1, q1, z1, not_false_iff, iJ_1]
theorem iJ_m (x : Int) : iJ x + (-1 : Int32) = iJ (x + -1) := by
  unfold iJ; rw [Int32.ofInt_add, show Int32.ofInt (-1) = (-1 : Int32) by decide]
theorem m_fit {φ f : Nat} {Φ : FM} {V S C : Nat → Int32} (hf : f < 7) (hw : WF Φ) {s : Nat} (hs : s < 6) (told : Int64) {e : Nat} (he : e < 2) : ∀ (d k : Nat) (v : Int) (σ : HS), CS σ φ f Φ V S C → v = 99 - k → k + d = 199 → ∀ nf, d < nf →
    ∃ σ', lp_X6_fits_40 nf 48 (nI f) (nI s) told (nI e) (nI (cntF (fitB Φ V S s told.toInt) k (v + 1))) (iJ (lstF (fitB Φ V S s told.toInt) k (v + 1))) (iJ v) σ = some ((if e = 0 then nI (cntF (fitB Φ V S s told.toInt) 199 (-99)) else iJ (lstF (fitB Φ V S s told.toInt) 199 (-99))), σ') ∧ Kp σ σ' := by
  intro d
  induction d with
  | zero =>
    intro k v σ h hv hd nf hnf
    obtain ⟨nf, rfl⟩ : ∃ k, nf = k + 1 := ⟨nf - 1, by omega⟩
    refine ⟨σ, ?_, Kp.rf⟩
    have hk : k = 199 := by omega
    subst hk
    have hv' : v = -100 := by omega
    subst hv'
    show lp_X6_fits_40_b (lp_X6_fits_40 nf) 48 (nI f) (nI s) told (nI e) _ _ (iJ (-100)) σ = _
    unfold lp_X6_fits_40_b
    have e0 : (nI e = 0) = (e = 0) := nE (a := e) (b := 0) (by omega) (by omega)
    rw [if_pos (by decide)]
    simp only [e0]
    by_cases c : e = 0
    · rw [if_pos c, if_pos c]; rfl
    · rw [if_neg c, if_neg c]; rfl
  | succ d ih =>
    intro k v σ h hv hd nf hnf
    obtain ⟨nf, rfl⟩ : ∃ k, nf = k + 1 := ⟨nf - 1, by omega⟩
    have t := h.1
    obtain ⟨-, -, -, -, -, -, -, r1, -⟩ := cs_val h hs
    have ev : (iJ v).toInt = v := iT (by omega) (by omega)
    have es : (iJ v - S s).toInt = v - (S s).toInt := by rw [i_sub (by omega) (by omega) (by omega) (by omega), ev]
    have ea : (iJ v + S s).toInt = v + (S s).toInt := by rw [i_add (by omega) (by omega) (by omega) (by omega), ev]
    obtain ⟨σ1, b1, b2, b3, b4, -⟩ := m_box h
    obtain ⟨s1, s2, s3⟩ := m_lays b3.1 b4 hs (a := iJ v - S s) (b := iJ v + S s) (by omega)
    rw [es, ea] at s2
    have k1 := s3.kp (by decide)
    have c1 := b3.kp k1
    obtain ⟨σ2, g1, g2, g3, g4, g5, g6⟩ := m_spans hf hw c1 s2
    have t1 := c1.1
    have t0 := b3.1
    have t2 := g3.1
    have lt : (iJ v < (-99 : Int32)) = False := by rw [i_lt, ev, show (-99 : Int32).toInt = -99 from rfl]; exact eq_false (by omega)
    have ec : cntF (fitB Φ V S s told.toInt) (k + 1) v = (if fitB Φ V S s told.toInt v = true then 1 else 0) + cntF (fitB Φ V S s told.toInt) k (v + 1) := rfl
    have el : lstF (fitB Φ V S s told.toInt) (k + 1) v = if fitB Φ V S s told.toInt v = true then v else lstF (fitB Φ V S s told.toInt) k (v + 1) := rfl
    obtain ⟨σ3, e1, e2⟩ := ih (k + 1) (v + -1) σ2 g3 (by omega) (by omega) nf (by omega)
    rw [show v + -1 + 1 = v by omega, ec, el] at e1
    refine ⟨σ3, ?_, ((b2.seq k1).seq g2).seq e2⟩
    show lp_X6_fits_40_b (lp_X6_fits_40 nf) 48 (nI f) (nI s) told (nI e) _ _ (iJ v) σ = _
    unfold lp_X6_fits_40_b
    rw [← e1]
    have w1 := hw.1
    cases hx : RT Φ (upI (LO V S) s (v - (S s).toInt)) (upI (HI V S) s (v + (S s).toInt)) with
    | none =>
      rw [hx] at g1
      have hf' : ¬ fitB Φ V S s told.toInt v = true := by unfold fitB; rw [hx]; exact fun z => by cases z
      rw [if_neg hf', if_neg hf', Nat.zero_add]
      simp only [lt, if_false, chk_p, lt_p, bd_p, bc_p, oc_n, oc_s, and_self, and_true, true_and, if_true, if_false, isO_sA', isO_sB', isO_rA', hlen_sA, hlen_sB, hlen_rA, hR_sA, hR_sB, hR_rA, Typ_sA', Typ_sB', Typ_rA', O48, r48_0, r48_1, r48_2, r48_3, r48_4, r48_5, r48_6, r48_8, r48_9, r48_10, r48_11, r48_12, r48_15, r48_21, r48_22, r48_23, r48_24, r48_25, r48_28, r48_30, r48_31, r48_32, r48_35, r48_37, r48_39, r48_40, r48_41, t, t0, t1, t2, b1, m_span b3 hs, s1, g1, rc, iJ_m]
    | some p =>
      rw [hx] at g1
      have rt := g4 (mN Φ - 1) (by omega)
      rw [show SP Φ (upI (LO V S) s (v - (S s).toInt)) (upI (HI V S) s (v + (S s).toInt)) (mN Φ - 1) = some p from hx] at rt
      obtain ⟨u1, u2, u3, u4⟩ := rt
      have q := isIn64_ok told (hB σ2 64 (mN Φ - 1)) (hB σ2 65 (mN Φ - 1)) σ2
      rw [show (hB σ2 64 (mN Φ - 1)).toInt = p.1 from u2, show (hB σ2 65 (mN Φ - 1)).toInt = p.2 from u3] at q
      by_cases z : p.1 ≤ told.toInt ∧ told.toInt ≤ p.2
      · have hf' : fitB Φ V S s told.toInt v = true := by unfold fitB; rw [hx]; simp [z.1, z.2]
        rw [if_pos hf', if_pos hf']
        rw [if_pos z] at q
        simp only [lt, if_false, chk_p, lt_p, bd_p, bc_p, oc_n, oc_s, and_self, and_true, true_and, if_true, if_false, isO_sA', isO_sB', isO_rA', hlen_sA, hlen_sB, hlen_rA, hR_sA, hR_sB, hR_rA, Typ_sA', Typ_sB', Typ_rA', O48, r48_0, r48_1, r48_2, r48_3, r48_4, r48_5, r48_6, r48_8, r48_9, r48_10, r48_11, r48_12, r48_15, r48_21, r48_22, r48_23, r48_24, r48_25, r48_28, r48_30, r48_31, r48_32, r48_35, r48_37, r48_39, r48_40, r48_41, t, t0, t1, t2, b1, m_span b3 hs, s1, g1, rc, beq1, m_lo hf hw g3, m_hi hf hw g3, q, iJ_m, nI_s, Nat.add_comm 1]
      · have hf' : ¬ fitB Φ V S s told.toInt v = true := by
          unfold fitB; rw [hx]
          show ¬ (decide (p.1 ≤ told.toInt) && decide (told.toInt ≤ p.2)) = true
          simpa using z
        rw [if_neg hf', if_neg hf', Nat.zero_add]
        rw [if_neg z] at q
        simp only [lt, if_false, chk_p, lt_p, bd_p, bc_p, oc_n, oc_s, and_self, and_true, true_and, if_true, if_false, isO_sA', isO_sB', isO_rA', hlen_sA, hlen_sB, hlen_rA, hR_sA, hR_sB, hR_rA, Typ_sA', Typ_sB', Typ_rA', O48, r48_0, r48_1, r48_2, r48_3, r48_4, r48_5, r48_6, r48_8, r48_9, r48_10, r48_11, r48_12, r48_15, r48_21, r48_22, r48_23, r48_24, r48_25, r48_28, r48_30, r48_31, r48_32, r48_35, r48_37, r48_39, r48_40, r48_41, t, t0, t1, t2, b1, m_span b3 hs, s1, g1, rc, beq1, m_lo hf hw g3, m_hi hf hw g3, q, iJ_m]
theorem cnt_lst (b : Int → Bool) : ∀ d v, cntF b d v = 0 → lstF b d v = -1000 := by
  intro d
  induction d with
  | zero => intro v _; rfl
  | succ d ih =>
    intro v h
    have h' : (if b v = true then 1 else 0) + cntF b d (v + 1) = 0 := h
    show (if b v = true then v else lstF b d (v + 1)) = -1000
    by_cases c : b v = true
    · rw [if_pos c] at h'; omega
    · rw [if_neg c] at h' ⊢; exact ih _ (by omega)
theorem op_fits (a b : Int32) (told : Int64) (w : Int32) : OpOK (f_X5_fits 0 a b told w) (f_X6_fits 48 a b told w) := by
  intro σ V S C n FS I
  have t := I.1
  rcases start I a with ⟨k, φ, hk, rfl, ef, hg, hc, hxi, em⟩ | ⟨ef, em⟩
  · rcases srcC b with ⟨s, hs, rfl, xs, ms⟩ | ⟨xs, ms⟩
    · rcases rng1 w with ⟨e, he, rfl, w0, w2, wm⟩ | ⟨wm, wc⟩
      · obtain ⟨σ1, x1, x2, x3, x4⟩ := c_standAs hc
        obtain ⟨σ2, y1, y2⟩ := x_fit hg.1 hs (nI k) told he 199 (-99) 0 (-1000) _ _ σ1 x3 x4 (fun x => ⟨rfl, rfl⟩) (by omega) (by omega) (by omega) 1000 (by omega)
        have c2 := x3.kp y2
        have t1 := x3.1
        have t2 := c2.1
        obtain ⟨σ3, z1, z2⟩ := m_fit hk hg.1 hs told he 199 0 99 σ2 c2 (by omega) (by omega) 1000 (by omega)
        rw [Nat.zero_add, if_pos rfl] at y1
        have eqq : (if cntF (fitB (FS k) V S s told.toInt) 199 (-99) = 0 then (-1000 : Int) else lstF (fitB (FS k) V S s told.toInt) 199 (-99)) = lstF (fitB (FS k) V S s told.toInt) 199 (-99) := by
          by_cases c : cntF (fitB (FS k) V S s told.toInt) 199 (-99) = 0
          · rw [if_pos c, cnt_lst _ _ _ c]
          · rw [if_neg c]
        rw [eqq] at y1
        refine opQ I ⟨(if e = 0 then nI (cntF (fitB (FS k) V S s told.toInt) 199 (-99)) else iJ (lstF (fitB (FS k) V S s told.toInt) 199 (-99))), σ2, σ3, ?_, x2.seq y2, ?_, z2⟩
        · unfold f_X5_fits
          simp only [chk_p, lt_p, bd_p, bc_p, oc_n, oc_s, and_self, and_true, true_and, if_true, if_false, isO_sA', isO_sB', isO_rA', hlen_sA, hlen_sB, hlen_rA, hR_sA, hR_sB, hR_rA, Typ_sA', Typ_sB', Typ_rA', O0, r0_0, r0_1, r0_3, r0_4, r0_5, r0_6, r0_7, O24, r24_0, r24_1, r24_5, r24_6, r24_7, r24_8, r24_9, t, t1, ef, xs, w0, w2, beq1, if_false, x1]
          exact y1
        · unfold f_X6_fits
          simp only [chk_p, lt_p, bd_p, bc_p, oc_n, oc_s, and_self, and_true, true_and, if_true, if_false, isO_sA', isO_sB', isO_rA', hlen_sA, hlen_sB, hlen_rA, hR_sA, hR_sB, hR_rA, Typ_sA', Typ_sB', Typ_rA', O48, r48_0, r48_1, r48_2, r48_3, r48_4, r48_5, r48_6, r48_8, r48_9, r48_10, r48_11, r48_12, r48_15, r48_21, r48_22, r48_23, r48_24, r48_25, r48_28, r48_30, r48_31, r48_32, r48_35, r48_37, r48_39, r48_40, r48_41, t2, em σ2 t2 (x2.seq y2).k7, ms, wm, beq1, if_false]
          exact z1
      · refine opN I (-1) ?_ ?_
        · unfold f_X5_fits
          rcases wc with wc | ⟨wc, wc2⟩
          · simp only [chk_p, lt_p, bd_p, bc_p, oc_n, oc_s, and_self, and_true, true_and, if_true, if_false, isO_sA', isO_sB', isO_rA', hlen_sA, hlen_sB, hlen_rA, hR_sA, hR_sB, hR_rA, Typ_sA', Typ_sB', Typ_rA', O0, r0_0, r0_1, r0_3, r0_4, r0_5, r0_6, r0_7, t, ef, xs, beq1, if_false, wc]
          · simp only [chk_p, lt_p, bd_p, bc_p, oc_n, oc_s, and_self, and_true, true_and, if_true, if_false, isO_sA', isO_sB', isO_rA', hlen_sA, hlen_sB, hlen_rA, hR_sA, hR_sB, hR_rA, Typ_sA', Typ_sB', Typ_rA', O0, r0_0, r0_1, r0_3, r0_4, r0_5, r0_6, r0_7, t, ef, xs, beq1, wc, wc2, if_false]
        · unfold f_X6_fits
          simp only [chk_p, lt_p, bd_p, bc_p, oc_n, oc_s, and_self, and_true, true_and, if_true, if_false, isO_sA', isO_sB', isO_rA', hlen_sA, hlen_sB, hlen_rA, hR_sA, hR_sB, hR_rA, Typ_sA', Typ_sB', Typ_rA', O48, r48_0, r48_1, r48_2, r48_3, r48_4, r48_5, r48_6, r48_8, r48_9, r48_10, r48_11, r48_12, r48_15, r48_21, r48_22, r48_23, r48_24, r48_25, r48_28, r48_30, r48_31, r48_32, r48_35, r48_37, r48_39, r48_40, r48_41, t, em σ t rfl, ms, beq1, wm, if_false]
    · refine opN I (-1) ?_ ?_
      · unfold f_X5_fits
        simp only [chk_p, lt_p, bd_p, bc_p, oc_n, oc_s, and_self, and_true, true_and, if_true, if_false, isO_sA', isO_sB', isO_rA', hlen_sA, hlen_sB, hlen_rA, hR_sA, hR_sB, hR_rA, Typ_sA', Typ_sB', Typ_rA', O0, r0_0, r0_1, r0_3, r0_4, r0_5, r0_6, r0_7, t, ef, xs]
      · unfold f_X6_fits
        simp only [chk_p, lt_p, bd_p, bc_p, oc_n, oc_s, and_self, and_true, true_and, if_true, if_false, isO_sA', isO_sB', isO_rA', hlen_sA, hlen_sB, hlen_rA, hR_sA, hR_sB, hR_rA, Typ_sA', Typ_sB', Typ_rA', O48, r48_0, r48_1, r48_2, r48_3, r48_4, r48_5, r48_6, r48_8, r48_9, r48_10, r48_11, r48_12, r48_15, r48_21, r48_22, r48_23, r48_24, r48_25, r48_28, r48_30, r48_31, r48_32, r48_35, r48_37, r48_39, r48_40, r48_41, t, em σ t rfl, ms, beq1, if_false]
  · refine opN I (-1) ?_ ?_
    · unfold f_X5_fits
      simp only [chk_p, lt_p, bd_p, bc_p, oc_n, oc_s, and_self, and_true, true_and, if_true, if_false, isO_sA', isO_sB', isO_rA', hlen_sA, hlen_sB, hlen_rA, hR_sA, hR_sB, hR_rA, Typ_sA', Typ_sB', Typ_rA', O0, r0_0, r0_1, r0_3, r0_4, r0_5, r0_6, r0_7, t, ef]
    · unfold f_X6_fits
      simp only [chk_p, lt_p, bd_p, bc_p, oc_n, oc_s, and_self, and_true, true_and, if_true, if_false, isO_sA', isO_sB', isO_rA', hlen_sA, hlen_sB, hlen_rA, hR_sA, hR_sB, hR_rA, Typ_sA', Typ_sB', Typ_rA', O48, r48_0, r48_1, r48_2, r48_3, r48_4, r48_5, r48_6, r48_8, r48_9, r48_10, r48_11, r48_12, r48_15, r48_21, r48_22, r48_23, r48_24, r48_25, r48_28, r48_30, r48_31, r48_32, r48_35, r48_37, r48_39, r48_40, r48_41, t, em]
end
section
/-! again -/
def hS (S : Nat → Int32) (k s : Nat) : Int32 := if k.testBit s = true then S s / 2 else S s
def cs32 (C : Nat → Int32) (k : Nat) : Nat → Int32
  | 0 => 0
  | i + 1 => cs32 C k i + (if k.testBit i = true then C i else 0)
def wA (Φ : FM) (V S : Nat → Int32) (k : Nat) : Int := wid (RT Φ (LO V (hS S k)) (HI V (hS S k)))
def stepA (Φ : FM) (V S C : Nat → Int32) (lim : Int) (k : Nat) (x : Int32 × Int32) : Int32 × Int32 := if (x.1 = -5 ∨ ¬ x.2 ≤ cs32 C k 6) ∧ ¬ lim < wA Φ V S k then (nI k, cs32 C k 6) else x
def outA (Φ : FM) (V S C : Nat → Int32) (lim : Int) : Nat → Nat → Int32 × Int32 → Int32 × Int32
  | 0, _, x => x
  | d + 1, k, x => outA Φ V S C lim d (k + 1) (stepA Φ V S C lim k x)
def resA (e : Nat) (x : Int32 × Int32) : Int32 := if x.1 = -5 then x.1 else if e = 0 then x.1 else x.2
theorem hS_in {σ : HS} {φ f : Nat} {Φ : FM} {V S C : Nat → Int32} (h : CS σ φ f Φ V S C) (k : Nat) {s : Nat} (hs : s < 6) : 0 ≤ (hS S k s).toInt ∧ (hS S k s).toInt ≤ (S s).toInt := by
  obtain ⟨-, -, -, -, -, -, -, r1, -⟩ := cs_val h hs
  unfold hS
  by_cases c : k.testBit s = true
  · rw [if_pos c, Int32.toInt_div_of_ne_right _ _ (by decide), show (2 : Int32).toInt = 2 from rfl, Int.tdiv_eq_ediv_of_nonneg (by omega)]
    omega
  · rw [if_neg c]; omega
theorem hS_lo {σ : HS} {φ f : Nat} {Φ : FM} {V S C : Nat → Int32} (h : CS σ φ f Φ V S C) (k : Nat) {s : Nat} (hs : s < 6) : (V s - hS S k s).toInt = LO V (hS S k) s ∧ (V s + hS S k s).toInt = HI V (hS S k) s ∧ LO V (hS S k) s ≤ HI V (hS S k) s := by
  obtain ⟨-, -, -, -, -, -, r0, r1, -⟩ := cs_val h hs
  have := hS_in h k hs
  unfold LO HI
  rw [if_pos hs, if_pos hs, i_sub (by omega) (by omega) (by omega) (by omega), i_add (by omega) (by omega) (by omega) (by omega)]
  exact ⟨rfl, rfl, by omega⟩
theorem hS_box {σ : HS} {φ f : Nat} {Φ : FM} {V S C : Nat → Int32} (h : CS σ φ f Φ V S C) (k : Nat) : ∀ s, LO V S s ≤ LO V (hS S k) s ∧ LO V (hS S k) s ≤ HI V (hS S k) s ∧ HI V (hS S k) s ≤ HI V S s := fun s => by
  by_cases hs : s < 6
  · obtain ⟨-, -, -, -, -, -, r0, r1, -⟩ := cs_val h hs
    have := hS_in h k hs
    unfold LO HI
    rw [if_pos hs, if_pos hs, if_pos hs, if_pos hs]; omega
  · unfold LO HI
    rw [if_neg hs, if_neg hs, if_neg hs, if_neg hs]; omega
theorem bmix_same (i : Nat) (v L : Nat → Int) (e : v i = L i) : bmix (i + 1) v L = bmix i v L := by
  funext s; unfold bmix
  by_cases c : s < i
  · rw [if_pos (by omega), if_pos c]
  · rw [if_neg c]
    by_cases c2 : s = i
    · rw [if_pos (by omega), c2, e]
    · rw [if_neg (by omega)]
theorem bmix_6' {v L : Nat → Int} (h : ∀ s, 6 ≤ s → L s = v s) : bmix 6 v L = v := by
  funext s; unfold bmix
  by_cases e : s < 6
  · rw [if_pos e]
  · rw [if_neg e, h s (by omega)]
theorem x_cost {φ f : Nat} {Φ : FM} {V S C : Nat → Int32} {k : Nat} (hk : k < 64) {σ : HS} (h : CS σ φ f Φ V S C) : ∀ d i, i + d = 6 → ∀ nf, d < nf → lp_X2_costOf_4 nf 1 (nI k) (cs32 C k i) (nI i) σ = some (cs32 C k 6, σ) := by
  intro d
  induction d with
  | zero =>
    intro i hi nf hnf
    obtain ⟨nf, rfl⟩ : ∃ k, nf = k + 1 := ⟨nf - 1, by omega⟩
    have : i = 6 := by omega
    subst this
    show lp_X2_costOf_4_b (lp_X2_costOf_4 nf) 1 _ _ (nI 6) σ = _
    unfold lp_X2_costOf_4_b
    exact if_pos (by decide)
  | succ d ih =>
    intro i hi nf hnf
    obtain ⟨nf, rfl⟩ : ∃ k, nf = k + 1 := ⟨nf - 1, by omega⟩
    have e := ih (i + 1) (by omega) nf (by omega)
    have t := h.1
    have le : (6 : Int32) ≤ nI i ↔ False := by rw [show (6 : Int32) = nI 6 from rfl, nle (a := 6) (b := i) (by omega) (by omega)]
    have le := eq_false (fun z => le.mp z)
    have ie := inbE (i := i) (n := 6) (by omega) (by omega)
    have ci := cl1000 (i := i) (by omega)
    have v := (cs_val h (show i < 6 by omega)).2.2.1
    rw [show cs32 C k (i + 1) = cs32 C k i + (if k.testBit i = true then C i else 0) from rfl] at e
    show lp_X2_costOf_4_b (lp_X2_costOf_4 nf) 1 _ _ (nI i) σ = _
    unfold lp_X2_costOf_4_b
    rw [← e]
    by_cases c : k.testBit i = true
    · simp (decide := true) only [le, if_false, bit_at k hk i (show i < 6 by omega), c, if_true, chk_p, lt_p, bd_p, bc_p, oc_n, oc_s, and_self, and_true, true_and, if_true, if_false, isO_sA', isO_sB', isO_rA', hlen_sA, hlen_sB, hlen_rA, hR_sA, hR_sB, hR_rA, Typ_sA', Typ_sB', Typ_rA', O1, r1_0, r1_1, r1_2, r1_3, r1_5, r1_6, r1_7, O4, l4, t, ie, ci, v, nI_s]
    · simp (decide := true) only [le, if_false, bit_at k hk i (show i < 6 by omega), c, if_true, nI_s, lt_p]
theorem x_half {φ f : Nat} {Φ : FM} {V S C : Nat → Int32} (hw : WF Φ) {p : Int × Int} (hx : RT Φ (LO V S) (HI V S) = some p) (g : inR (p.2 - p.1)) {k : Nat} (hk : k < 64) (S0 : Nat → Int32) : ∀ d i (σ : HS), CS σ φ f Φ V S C → Bx σ (bmix i (LO V (hS S k)) (LO V S0)) (bmix i (HI V (hS S k)) (HI V S0)) → i + d = 6 → ∀ nf, d < nf → ∃ σ', lp_X5_widthWithHalf_2 nf 0 φ (nI k) (nI i) σ = some (Int64.ofInt (wA Φ V S k), σ') ∧ Kp σ σ' ∧ CS σ' φ f Φ V S C ∧ Bx σ' (LO V (hS S k)) (HI V (hS S k)) := by
  intro d
  induction d with
  | zero =>
    intro i σ h hb hi nf hnf
    obtain ⟨nf, rfl⟩ : ∃ k, nf = k + 1 := ⟨nf - 1, by omega⟩
    have : i = 6 := by omega
    subst this
    rw [bmix_6' (fun s hs => by rw [LO6 V S0 s hs, LO6 V (hS S k) s hs]), bmix_6' (fun s hs => by rw [HI6 V S0 s hs, HI6 V (hS S k) s hs])] at hb
    obtain ⟨σ2, g1, g2, g3, g4, g5, g6, g7⟩ := c_carry hw h hb
    obtain ⟨q, e, q1, q2, q3⟩ := rt_nar (hS_box h k) hx
    rw [e] at g5
    obtain ⟨u1, u2, u3, u4⟩ := g5
    have ew : wA Φ V S k = q.2 - q.1 := by unfold wA; rw [e]; rfl
    have t := h.1
    have t2 := g3.1
    refine ⟨σ2, ?_, g2, g3, g6⟩
    show lp_X5_widthWithHalf_2_b (lp_X5_widthWithHalf_2 nf) 0 φ (nI k) (nI 6) σ = _
    unfold lp_X5_widthWithHalf_2_b
    rw [if_pos (by decide)]
    simp only [chk_p, lt_p, bd_p, bc_p, oc_n, oc_s, and_self, and_true, true_and, if_true, if_false, isO_sA', isO_sB', isO_rA', hlen_sA, hlen_sB, hlen_rA, hR_sA, hR_sB, hR_rA, Typ_sA', Typ_sB', Typ_rA', O0, r0_0, r0_1, r0_3, r0_4, r0_5, r0_6, r0_7, O24, r24_0, r24_1, r24_5, r24_6, r24_7, r24_8, r24_9, t, t2, g1]
    rw [ofI_eq (a := hB σ2 24 4 - hB σ2 24 3) (by rw [l_sub (by rw [u2, u3]; omega), u2, u3, ew])]
  | succ d ih =>
    intro i σ h hb hi nf hnf
    obtain ⟨nf, rfl⟩ : ∃ k, nf = k + 1 := ⟨nf - 1, by omega⟩
    have hi6 : i < 6 := by omega
    obtain ⟨hl1, hl2, hl3⟩ := hS_lo h k hi6
    obtain ⟨s1, s2, s3⟩ := c_stand h.1 hb hi6 (a := V i - hS S k i) (b := V i + hS S k i) (by rw [hl1, hl2]; exact hl3)
    rw [hl1, hl2, bmix_up, bmix_up] at s2
    have k1 := s3.kp (by decide)
    obtain ⟨σ', e1, e2, e3, e4⟩ := ih (i + 1) _ (h.kp k1) s2 (by omega) nf (by omega)
    refine ⟨σ', ?_, k1.seq e2, e3, e4⟩
    rw [← e1]
    have t := h.1
    have le : (6 : Int32) ≤ nI i ↔ False := by rw [show (6 : Int32) = nI 6 from rfl, nle (a := 6) (b := i) (by omega) (by omega)]
    have le := eq_false (fun z => le.mp z)
    have ie := inbE (i := i) (n := 6) (by omega) (by omega)
    have ci := cl1000 (i := i) (by omega)
    obtain ⟨v1, v2, -⟩ := cs_val h hi6
    show lp_X5_widthWithHalf_2_b (lp_X5_widthWithHalf_2 nf) 0 φ (nI k) (nI i) σ = _
    unfold lp_X5_widthWithHalf_2_b
    by_cases c : k.testBit i = true
    · have eh : hS S k i = S i / 2 := if_pos c
      rw [eh] at s1 ⊢
      simp (decide := true) only [le, if_false, bit_at k hk i hi6, c, if_true, chk_p, lt_p, bd_p, bc_p, oc_n, oc_s, and_self, and_true, true_and, if_true, if_false, isO_sA', isO_sB', isO_rA', hlen_sA, hlen_sB, hlen_rA, hR_sA, hR_sB, hR_rA, Typ_sA', Typ_sB', Typ_rA', O0, r0_0, r0_1, r0_3, r0_4, r0_5, r0_6, r0_7, O1, r1_0, r1_1, r1_2, r1_3, r1_5, r1_6, r1_7, O2, l2, O3, l3, O24, r24_0, r24_1, r24_5, r24_6, r24_7, r24_8, r24_9, t, ie, ci, v1, v2, s1, nI_s]
    · have eh : hS S k i = S i := if_neg c
      rw [eh] at s1 ⊢
      simp (decide := true) only [le, if_false, bit_at k hk i hi6, c, if_true, chk_p, lt_p, bd_p, bc_p, oc_n, oc_s, and_self, and_true, true_and, if_true, if_false, isO_sA', isO_sB', isO_rA', hlen_sA, hlen_sB, hlen_rA, hR_sA, hR_sB, hR_rA, Typ_sA', Typ_sB', Typ_rA', O0, r0_0, r0_1, r0_3, r0_4, r0_5, r0_6, r0_7, O1, r1_0, r1_1, r1_2, r1_3, r1_5, r1_6, r1_7, O2, l2, O3, l3, O24, r24_0, r24_1, r24_5, r24_6, r24_7, r24_8, r24_9, t, ie, ci, v1, v2, s1, nI_s]
theorem x_again {φ f : Nat} {Φ : FM} {V S C : Nat → Int32} (hw : WF Φ) {p : Int × Int} (hx : RT Φ (LO V S) (HI V S) = some p) (g : inR (p.2 - p.1)) (a : Int32) (lim : Int64) {e : Nat} (he : e < 2) : ∀ (d k : Nat) (S0 : Nat → Int32) (x : Int32 × Int32) (σ : HS), CS σ φ f Φ V S C → Bx σ (LO V S0) (HI V S0) → k + d = 64 → ∀ nf, d < nf →
    ∃ σ', lp_X5_again_54 nf 0 a lim (nI e) φ x.1 x.2 (nI k) σ = some (resA e (outA Φ V S C lim.toInt d k x), σ') ∧ Kp σ σ' := by
  intro d
  induction d with
  | zero =>
    intro k S0 x σ h hb hd nf hnf
    obtain ⟨nf, rfl⟩ : ∃ k, nf = k + 1 := ⟨nf - 1, by omega⟩
    have : k = 64 := by omega
    subst this
    refine ⟨σ, ?_, Kp.rf⟩
    show lp_X5_again_54_b (lp_X5_again_54 nf) 0 a lim (nI e) φ _ _ (nI 64) σ = _
    unfold lp_X5_again_54_b resA
    rw [if_pos (by decide)]
    have e0 : (nI e = 0) = (e = 0) := nE (a := e) (b := 0) (by omega) (by omega)
    simp only [e0]
    show (if x.1 = -5 then _ else _) = some (if x.1 = -5 then _ else _, σ)
    by_cases c1 : x.1 = -5
    · rw [if_pos c1, if_pos c1]; rfl
    · rw [if_neg c1, if_neg c1]
      by_cases c2 : e = 0
      · rw [if_pos c2, if_pos c2]; rfl
      · rw [if_neg c2, if_neg c2]; rfl
  | succ d ih =>
    intro k S0 x σ h hb hd nf hnf
    obtain ⟨nf, rfl⟩ : ∃ k, nf = k + 1 := ⟨nf - 1, by omega⟩
    have hk : k < 64 := by omega
    have t := h.1
    have le : (64 : Int32) ≤ nI k ↔ False := by rw [show (64 : Int32) = nI 64 from rfl, nle (a := 64) (b := k) (by omega) (by omega)]
    have le := eq_false (fun z => le.mp z)
    have co : f_X2_costOf 1 (nI k) σ = some (cs32 C k 6, σ) := x_cost hk h 6 0 (by omega) 1000 (by omega)
    obtain ⟨σ1, y1, y2, y3, y4⟩ := x_half hw hx g hk S0 6 0 σ h (by rw [bmix_0, bmix_0]; exact hb) (by omega) 1000 (by omega)
    have t1 := y3.1
    have hh : f_X5_widthWithHalf 0 φ (nI k) σ = some (Int64.ofInt (wA Φ V S k), σ1) := y1
    obtain ⟨q, eq, q1, q2, q3⟩ := rt_nar (hS_box h k) hx
    have ew : wA Φ V S k = q.2 - q.1 := by unfold wA; rw [eq]; rfl
    have cmp : (0 < lg_cmp (Int64.ofInt (wA Φ V S k)) lim) = (lim.toInt < wA Φ V S k) := by rw [zc_gt, ofI (by omega)]
    rw [show outA Φ V S C lim.toInt (d + 1) k x = outA Φ V S C lim.toInt d (k + 1) (stepA Φ V S C lim.toInt k x) from rfl]
    show ∃ σ', lp_X5_again_54_b (lp_X5_again_54 nf) 0 a lim (nI e) φ _ _ (nI k) σ = _ ∧ _
    unfold lp_X5_again_54_b
    by_cases c1 : x.1 = -5
    · by_cases c2 : lim.toInt < wA Φ V S k
      · rw [show stepA Φ V S C lim.toInt k x = x from if_neg (fun z => z.2 c2)]
        obtain ⟨σ2, e1, e2⟩ := ih (k + 1) _ x σ1 y3 y4 (by omega) nf (by omega)
        refine ⟨σ2, ?_, y2.seq e2⟩
        rw [← e1]
        simp only [le, if_false, chk_p, lt_p, bd_p, bc_p, oc_n, oc_s, and_self, and_true, true_and, if_true, if_false, isO_sA', isO_sB', isO_rA', hlen_sA, hlen_sB, hlen_rA, hR_sA, hR_sB, hR_rA, Typ_sA', Typ_sB', Typ_rA', O0, r0_0, r0_1, r0_3, r0_4, r0_5, r0_6, r0_7, O1, r1_0, r1_1, r1_2, r1_3, r1_5, r1_6, r1_7, t, co, c1, hh, cmp, c2, nI_s]
      · rw [show stepA Φ V S C lim.toInt k x = (nI k, cs32 C k 6) from if_pos ⟨Or.inl c1, c2⟩]
        obtain ⟨σ2, e1, e2⟩ := ih (k + 1) _ (nI k, cs32 C k 6) σ1 y3 y4 (by omega) nf (by omega)
        refine ⟨σ2, ?_, y2.seq e2⟩
        rw [← e1]
        simp only [le, if_false, chk_p, lt_p, bd_p, bc_p, oc_n, oc_s, and_self, and_true, true_and, if_true, if_false, isO_sA', isO_sB', isO_rA', hlen_sA, hlen_sB, hlen_rA, hR_sA, hR_sB, hR_rA, Typ_sA', Typ_sB', Typ_rA', O0, r0_0, r0_1, r0_3, r0_4, r0_5, r0_6, r0_7, O1, r1_0, r1_1, r1_2, r1_3, r1_5, r1_6, r1_7, t, co, c1, hh, cmp, c2, nI_s]
    · by_cases c3 : x.2 ≤ cs32 C k 6
      · rw [show stepA Φ V S C lim.toInt k x = x from if_neg (fun z => z.1.elim c1 (fun y => y c3))]
        obtain ⟨σ2, e1, e2⟩ := ih (k + 1) S0 x σ h hb (by omega) nf (by omega)
        refine ⟨σ2, ?_, e2⟩
        rw [← e1]
        simp only [le, if_false, chk_p, lt_p, bd_p, bc_p, oc_n, oc_s, and_self, and_true, true_and, if_true, if_false, isO_sA', isO_sB', isO_rA', hlen_sA, hlen_sB, hlen_rA, hR_sA, hR_sB, hR_rA, Typ_sA', Typ_sB', Typ_rA', O0, r0_0, r0_1, r0_3, r0_4, r0_5, r0_6, r0_7, O1, r1_0, r1_1, r1_2, r1_3, r1_5, r1_6, r1_7, t, co, c1, c3, nI_s]
      · by_cases c2 : lim.toInt < wA Φ V S k
        · rw [show stepA Φ V S C lim.toInt k x = x from if_neg (fun z => z.2 c2)]
          obtain ⟨σ2, e1, e2⟩ := ih (k + 1) _ x σ1 y3 y4 (by omega) nf (by omega)
          refine ⟨σ2, ?_, y2.seq e2⟩
          rw [← e1]
          simp only [le, if_false, chk_p, lt_p, bd_p, bc_p, oc_n, oc_s, and_self, and_true, true_and, if_true, if_false, isO_sA', isO_sB', isO_rA', hlen_sA, hlen_sB, hlen_rA, hR_sA, hR_sB, hR_rA, Typ_sA', Typ_sB', Typ_rA', O0, r0_0, r0_1, r0_3, r0_4, r0_5, r0_6, r0_7, O1, r1_0, r1_1, r1_2, r1_3, r1_5, r1_6, r1_7, t, co, c1, c3, hh, cmp, c2, nI_s]
        · rw [show stepA Φ V S C lim.toInt k x = (nI k, cs32 C k 6) from if_pos ⟨Or.inr c3, c2⟩]
          obtain ⟨σ2, e1, e2⟩ := ih (k + 1) _ (nI k, cs32 C k 6) σ1 y3 y4 (by omega) nf (by omega)
          refine ⟨σ2, ?_, y2.seq e2⟩
          rw [← e1]
          simp only [le, if_false, chk_p, lt_p, bd_p, bc_p, oc_n, oc_s, and_self, and_true, true_and, if_true, if_false, isO_sA', isO_sB', isO_rA', hlen_sA, hlen_sB, hlen_rA, hR_sA, hR_sB, hR_rA, Typ_sA', Typ_sB', Typ_rA', O0, r0_0, r0_1, r0_3, r0_4, r0_5, r0_6, r0_7, O1, r1_0, r1_1, r1_2, r1_3, r1_5, r1_6, r1_7, t, co, c1, c3, hh, cmp, c2, nI_s]
theorem m_ag {φ f : Nat} {Φ : FM} {V S C : Nat → Int32} (hf : f < 7) (hw : WF Φ) {p : Int × Int} (hx : RT Φ (LO V S) (HI V S) = some p) (g : inR (p.2 - p.1)) (K : Nat → Int32 → Int64 → Int32 → Int32 → Int32 → Int32 → HS → Option (Int32 × HS)) (lim : Int64) (e : Int32) {k : Nat} (hk : k < 64) (x : Int32 × Int32) : ∀ d i (σ : HS), CS σ φ f Φ V S C → BxM σ (bmix i (LO V (hS S k)) (LO V S)) (bmix i (HI V (hS S k)) (HI V S)) → i + d = 6 → ∀ nf, d < nf → ∃ σ', lp_X6_again_63 K nf 48 (nI f) lim e x.1 x.2 (nI k) (cs32 C k i) (nI i) σ = K 48 (nI f) lim e (stepA Φ V S C lim.toInt k x).1 (stepA Φ V S C lim.toInt k x).2 (nI (k + 1)) σ' ∧ Kp σ σ' ∧ CS σ' φ f Φ V S C := by
  intro d
  induction d with
  | zero =>
    intro i σ h hb hi nf hnf
    obtain ⟨nf, rfl⟩ : ∃ k, nf = k + 1 := ⟨nf - 1, by omega⟩
    have : i = 6 := by omega
    subst this
    rw [bmix_6' (fun s hs => by rw [LO6 V S s hs, LO6 V (hS S k) s hs]), bmix_6' (fun s hs => by rw [HI6 V S s hs, HI6 V (hS S k) s hs])] at hb
    obtain ⟨σ2, g1, g2, g3, g4⟩ := m_width hf hw h hb
    obtain ⟨q, eq, q1, q2, q3⟩ := rt_nar (hS_box h k) hx
    have ew : wA Φ V S k = q.2 - q.1 := by unfold wA; rw [eq]; rfl
    have eo : oW (WD (RT Φ (LO V (hS S k)) (HI V (hS S k)))) = Int64.ofInt (wA Φ V S k) := by
      rw [eq, ew]; show oW (if inR (q.2 - q.1) then some (q.2 - q.1) else none) = _
      rw [if_pos (by omega)]; rfl
    rw [eo] at g1
    have cmp : (0 < lg_cmp (Int64.ofInt (wA Φ V S k)) lim) = (lim.toInt < wA Φ V S k) := by rw [zc_gt, ofI (by omega)]
    have t := h.1
    refine ⟨σ2, ?_, g2, g3⟩
    show lp_X6_again_63_b K (lp_X6_again_63 K nf) 48 (nI f) lim e _ _ (nI k) _ (nI 6) σ = _
    unfold lp_X6_again_63_b
    rw [if_pos (by decide)]
    by_cases c2 : lim.toInt < wA Φ V S k
    · rw [show stepA Φ V S C lim.toInt k x = x from if_neg (fun z => z.2 c2)]
      simp only [chk_p, lt_p, bd_p, bc_p, oc_n, oc_s, and_self, and_true, true_and, if_true, if_false, isO_sA', isO_sB', isO_rA', hlen_sA, hlen_sB, hlen_rA, hR_sA, hR_sB, hR_rA, Typ_sA', Typ_sB', Typ_rA', O48, r48_0, r48_1, r48_2, r48_3, r48_4, r48_5, r48_6, r48_8, r48_9, r48_10, r48_11, r48_12, r48_15, r48_21, r48_22, r48_23, r48_24, r48_25, r48_28, r48_30, r48_31, r48_32, r48_35, r48_37, r48_39, r48_40, r48_41, t, g1, cmp, c2, nI_s]
    · by_cases c1 : x.1 = -5
      · rw [show stepA Φ V S C lim.toInt k x = (nI k, cs32 C k 6) from if_pos ⟨Or.inl c1, c2⟩]
        simp only [chk_p, lt_p, bd_p, bc_p, oc_n, oc_s, and_self, and_true, true_and, if_true, if_false, isO_sA', isO_sB', isO_rA', hlen_sA, hlen_sB, hlen_rA, hR_sA, hR_sB, hR_rA, Typ_sA', Typ_sB', Typ_rA', O48, r48_0, r48_1, r48_2, r48_3, r48_4, r48_5, r48_6, r48_8, r48_9, r48_10, r48_11, r48_12, r48_15, r48_21, r48_22, r48_23, r48_24, r48_25, r48_28, r48_30, r48_31, r48_32, r48_35, r48_37, r48_39, r48_40, r48_41, t, g1, cmp, c2, c1, if_false, nI_s]
      · by_cases c3 : x.2 ≤ cs32 C k 6
        · rw [show stepA Φ V S C lim.toInt k x = x from if_neg (fun z => z.1.elim c1 (fun y => y c3))]
          simp only [chk_p, lt_p, bd_p, bc_p, oc_n, oc_s, and_self, and_true, true_and, if_true, if_false, isO_sA', isO_sB', isO_rA', hlen_sA, hlen_sB, hlen_rA, hR_sA, hR_sB, hR_rA, Typ_sA', Typ_sB', Typ_rA', O48, r48_0, r48_1, r48_2, r48_3, r48_4, r48_5, r48_6, r48_8, r48_9, r48_10, r48_11, r48_12, r48_15, r48_21, r48_22, r48_23, r48_24, r48_25, r48_28, r48_30, r48_31, r48_32, r48_35, r48_37, r48_39, r48_40, r48_41, t, g1, cmp, c2, c1, c3, if_false, nI_s]
        · rw [show stepA Φ V S C lim.toInt k x = (nI k, cs32 C k 6) from if_pos ⟨Or.inr c3, c2⟩]
          simp only [chk_p, lt_p, bd_p, bc_p, oc_n, oc_s, and_self, and_true, true_and, if_true, if_false, isO_sA', isO_sB', isO_rA', hlen_sA, hlen_sB, hlen_rA, hR_sA, hR_sB, hR_rA, Typ_sA', Typ_sB', Typ_rA', O48, r48_0, r48_1, r48_2, r48_3, r48_4, r48_5, r48_6, r48_8, r48_9, r48_10, r48_11, r48_12, r48_15, r48_21, r48_22, r48_23, r48_24, r48_25, r48_28, r48_30, r48_31, r48_32, r48_35, r48_37, r48_39, r48_40, r48_41, t, g1, cmp, c2, c1, c3, if_false, nI_s]
  | succ d ih =>
    intro i σ h hb hi nf hnf
    obtain ⟨nf, rfl⟩ : ∃ k, nf = k + 1 := ⟨nf - 1, by omega⟩
    have hi6 : i < 6 := by omega
    have t := h.1
    have le : (6 : Int32) ≤ nI i ↔ False := by rw [show (6 : Int32) = nI 6 from rfl, nle (a := 6) (b := i) (by omega) (by omega)]
    have le := eq_false (fun z => le.mp z)
    obtain ⟨l1, l2, l3⟩ := hS_lo h k hi6
    have ec : cs32 C k (i + 1) = cs32 C k i + (if k.testBit i = true then C i else 0) := rfl
    show ∃ σ', lp_X6_again_63_b K (lp_X6_again_63 K nf) 48 (nI f) lim e _ _ (nI k) _ (nI i) σ = _ ∧ _
    unfold lp_X6_again_63_b
    by_cases c : k.testBit i = true
    · have eh : hS S k i = S i / 2 := if_pos c
      obtain ⟨s1, s2, s3⟩ := m_lays t hb hi6 (a := V i - hS S k i) (b := V i + hS S k i) (by rw [l1, l2]; exact l3)
      rw [l1, l2, bmix_up, bmix_up] at s2
      have k1 := s3.kp (by decide)
      obtain ⟨σ', e1, e2, e3⟩ := ih (i + 1) _ (h.kp k1) s2 (by omega) nf (by omega)
      rw [ec, if_pos c] at e1
      refine ⟨σ', ?_, k1.seq e2, e3⟩
      rw [← e1]
      rw [eh] at s1 ⊢
      have pe := inbE (i := 3 * i + 2) (n := 18) (by omega) (by omega)
      have cp := cl1000 (i := 3 * i + 2) (by omega)
      have v2 := (cs_val h hi6).2.2.2.2.2.1
      have p2 : ∀ q : Nat, nI q + (2 : Int32) = nI (q + 2) := fun q => nI_plus q 2
      simp (decide := true) only [le, if_false, bit_at k hk i hi6, c, if_true, chk_p, lt_p, bd_p, bc_p, oc_n, oc_s, and_self, and_true, true_and, if_true, if_false, isO_sA', isO_sB', isO_rA', hlen_sA, hlen_sB, hlen_rA, hR_sA, hR_sB, hR_rA, Typ_sA', Typ_sB', Typ_rA', O48, r48_0, r48_1, r48_2, r48_3, r48_4, r48_5, r48_6, r48_8, r48_9, r48_10, r48_11, r48_12, r48_15, r48_21, r48_22, r48_23, r48_24, r48_25, r48_28, r48_30, r48_31, r48_32, r48_35, r48_37, r48_39, r48_40, r48_41, O49, l49, t, nI_mul3, p2, pe, cp, v2, m_val h hi6, m_span h hi6, s1, nI_s]
    · have eh : hS S k i = S i := if_neg c
      obtain ⟨-, -, -, -, -, -, -, -, -, vl, vh⟩ := cs_val h hi6
      rw [← bmix_same i (LO V (hS S k)) (LO V S) (by rw [← l1, eh, vl]), ← bmix_same i (HI V (hS S k)) (HI V S) (by rw [← l2, eh, vh])] at hb
      obtain ⟨σ', e1, e2, e3⟩ := ih (i + 1) σ h hb (by omega) nf (by omega)
      rw [ec, if_neg c, Int32.add_zero] at e1
      refine ⟨σ', ?_, e2, e3⟩
      rw [← e1]
      simp (decide := true) only [le, if_false, bit_at k hk i hi6, c, if_true, nI_s, lt_p]
theorem m_again {φ f : Nat} {Φ : FM} {V S C : Nat → Int32} (hf : f < 7) (hw : WF Φ) {p : Int × Int} (hx : RT Φ (LO V S) (HI V S) = some p) (g : inR (p.2 - p.1)) (lim : Int64) {e : Nat} (he : e < 2) : ∀ (d k : Nat) (x : Int32 × Int32) (σ : HS), CS σ φ f Φ V S C → k + d = 64 → ∀ nf, d < nf →
    ∃ σ', lp_X6_again_46 nf 48 (nI f) lim (nI e) x.1 x.2 (nI k) σ = some (resA e (outA Φ V S C lim.toInt d k x), σ') ∧ Kp σ σ' := by
  intro d
  induction d with
  | zero =>
    intro k x σ h hd nf hnf
    obtain ⟨nf, rfl⟩ : ∃ k, nf = k + 1 := ⟨nf - 1, by omega⟩
    have : k = 64 := by omega
    subst this
    refine ⟨σ, ?_, Kp.rf⟩
    show lp_X6_again_46_b (lp_X6_again_46 nf) 48 (nI f) lim (nI e) _ _ (nI 64) σ = _
    unfold lp_X6_again_46_b resA
    rw [if_pos (by decide)]
    have e0 : (nI e = 0) = (e = 0) := nE (a := e) (b := 0) (by omega) (by omega)
    simp only [e0]
    show (if x.1 = -5 then _ else _) = some (if x.1 = -5 then _ else _, σ)
    by_cases c1 : x.1 = -5
    · rw [if_pos c1, if_pos c1]; rfl
    · rw [if_neg c1, if_neg c1]
      by_cases c2 : e = 0
      · rw [if_pos c2, if_pos c2]; rfl
      · rw [if_neg c2, if_neg c2]; rfl
  | succ d ih =>
    intro k x σ h hd nf hnf
    obtain ⟨nf, rfl⟩ : ∃ k, nf = k + 1 := ⟨nf - 1, by omega⟩
    have hk : k < 64 := by omega
    have t := h.1
    have le : (64 : Int32) ≤ nI k ↔ False := by rw [show (64 : Int32) = nI 64 from rfl, nle (a := 64) (b := k) (by omega) (by omega)]
    have le := eq_false (fun z => le.mp z)
    obtain ⟨σ1, b1, b2, b3, b4, -⟩ := m_box h
    obtain ⟨σ2, y1, y2, y3⟩ := m_ag hf hw hx g (lp_X6_again_46 nf) lim (nI e) hk x 6 0 σ1 b3 (by rw [bmix_0, bmix_0]; exact b4) (by omega) 1000 (by omega)
    obtain ⟨σ3, e1, e2⟩ := ih (k + 1) (stepA Φ V S C lim.toInt k x) σ2 y3 (by omega) nf (by omega)
    refine ⟨σ3, ?_, (b2.seq y2).seq e2⟩
    rw [show outA Φ V S C lim.toInt (d + 1) k x = outA Φ V S C lim.toInt d (k + 1) (stepA Φ V S C lim.toInt k x) from rfl, ← e1, ← y1]
    show lp_X6_again_46_b (lp_X6_again_46 nf) 48 (nI f) lim (nI e) _ _ (nI k) σ = _
    unfold lp_X6_again_46_b
    simp only [le, if_false, chk_p, lt_p, bd_p, bc_p, oc_n, oc_s, and_self, and_true, true_and, if_true, if_false, isO_sA', isO_sB', isO_rA', hlen_sA, hlen_sB, hlen_rA, hR_sA, hR_sB, hR_rA, Typ_sA', Typ_sB', Typ_rA', O48, r48_0, r48_1, r48_2, r48_3, r48_4, r48_5, r48_6, r48_8, r48_9, r48_10, r48_11, r48_12, r48_15, r48_21, r48_22, r48_23, r48_24, r48_25, r48_28, r48_30, r48_31, r48_32, r48_35, r48_37, r48_39, r48_40, r48_41, t, b1]
    rfl
theorem op_again (a : Int32) (lim : Int64) (w : Int32) : OpOK (f_X5_again 0 a lim w) (f_X6_again 48 a lim w) := by
  intro σ V S C n FS I
  have t := I.1
  rcases start I a with ⟨k, φ, hk, rfl, ef, hg, hc, hxi, em⟩ | ⟨ef, em⟩
  · rcases rng1 w with ⟨e, he, rfl, w0, w2, wm⟩ | ⟨wm, wc⟩
    · obtain ⟨σ1, x1, x2, x3, x4, x5, x6⟩ := c_now hg.1 hc
      have t1 := x3.1
      have hwd := hasWidth_ok t1 x5
      by_cases hw : WD (RT (FS k) (LO V S) (HI V S)) = none
      · obtain ⟨σ2, z1, z2, z3⟩ := m_widthNow hk hg.1 x3
        have ow := oW_no (Φ := FS k) (LOHI x3)
        rw [hw] at hwd z1 ow
        have ow1 : (lg_cmp (oW none) (-9223372036854775807) = 0) = True := ow.trans (eq_true rfl)
        refine opQ I ⟨-6, σ1, σ2, ?_, x2, ?_, z2⟩
        · unfold f_X5_again
          simp only [chk_p, lt_p, bd_p, bc_p, oc_n, oc_s, and_self, and_true, true_and, if_true, if_false, isO_sA', isO_sB', isO_rA', hlen_sA, hlen_sB, hlen_rA, hR_sA, hR_sB, hR_rA, Typ_sA', Typ_sB', Typ_rA', O0, r0_0, r0_1, r0_3, r0_4, r0_5, r0_6, r0_7, O24, r24_0, r24_1, r24_5, r24_6, r24_7, r24_8, r24_9, t, t1, ef, w0, w2, if_false, x1, hwd, Option.isSome_none, Bool.false_eq_true]
        · unfold f_X6_again
          rw [chk_p (o48 t1), em σ1 t1 x2.k7, bc_p, if_neg (by decide), wm, bc_p, if_neg (by decide), chk_p (o48 t1), z1, bc_p, if_pos (of_eq_true ow1)]
      · obtain ⟨wd, hw'⟩ := Option.ne_none_iff_exists'.mp hw
        obtain ⟨p, hp, hpw, hw0, hwr⟩ := WD_some (LOHI hc) hw'
        subst hpw
        have xg : ∀ b c : Int32, ∃ σ', lp_X5_again_54 1000 0 (nI k) lim (nI e) φ b c (nI 0) σ1 = some (resA e (outA (FS k) V S C lim.toInt 64 0 (b, c)), σ') ∧ Kp σ1 σ' := fun b c => x_again hg.1 hp hwr (nI k) lim he 64 0 S (b, c) σ1 x3 x6 (by omega) 1000 (by omega)
        obtain ⟨σ2, y1, y2⟩ := xg (-5) 0
        have c2 := x3.kp y2
        have t2 := c2.1
        obtain ⟨σ3, z1, z2, z3⟩ := m_widthNow hk hg.1 c2
        have t3 := z3.1
        have mg : ∀ b c : Int32, ∃ σ', lp_X6_again_46 1000 48 (nI k) lim (nI e) b c (nI 0) σ3 = some (resA e (outA (FS k) V S C lim.toInt 64 0 (b, c)), σ') ∧ Kp σ3 σ' := fun b c => m_again hk hg.1 hp hwr lim he 64 0 (b, c) σ3 z3 (by omega) 1000 (by omega)
        obtain ⟨σ4, u1, u2⟩ := mg (-5) 0
        have ow := oW_no (Φ := FS k) (LOHI x3)
        have ow' : (WD (RT (FS k) (LO V S) (HI V S)) = none) = False := eq_false hw
        rw [ow'] at ow
        rw [hw'] at hwd z1 ow
        generalize outA (FS k) V S C lim.toInt 64 0 (-5, 0) = y at y1 u1
        refine opQ I ⟨resA e y, σ2, σ4, ?_, x2.seq y2, ?_, z2.seq u2⟩
        · unfold f_X5_again
          simp only [chk_p, lt_p, bd_p, bc_p, oc_n, oc_s, and_self, and_true, true_and, if_true, if_false, isO_sA', isO_sB', isO_rA', hlen_sA, hlen_sB, hlen_rA, hR_sA, hR_sB, hR_rA, Typ_sA', Typ_sB', Typ_rA', O0, r0_0, r0_1, r0_3, r0_4, r0_5, r0_6, r0_7, O24, r24_0, r24_1, r24_5, r24_6, r24_7, r24_8, r24_9, t, t1, ef, w0, w2, if_false, x1, hwd, Option.isSome_some, beq1]
          exact y1
        · unfold f_X6_again
          rw [chk_p (o48 t2), em σ2 t2 (x2.seq y2).k7, bc_p, if_neg (by decide), wm, bc_p, if_neg (by decide), chk_p (o48 t2), z1, bc_p, if_neg (of_eq_false ow), lt_p, lt_p, lt_p]
          exact u1
    · refine opN I (-1) ?_ ?_
      · unfold f_X5_again
        rcases wc with wc | ⟨wc, wc2⟩
        · simp only [chk_p, lt_p, bd_p, bc_p, oc_n, oc_s, and_self, and_true, true_and, if_true, if_false, isO_sA', isO_sB', isO_rA', hlen_sA, hlen_sB, hlen_rA, hR_sA, hR_sB, hR_rA, Typ_sA', Typ_sB', Typ_rA', O0, r0_0, r0_1, r0_3, r0_4, r0_5, r0_6, r0_7, t, ef, wc]
        · simp only [chk_p, lt_p, bd_p, bc_p, oc_n, oc_s, and_self, and_true, true_and, if_true, if_false, isO_sA', isO_sB', isO_rA', hlen_sA, hlen_sB, hlen_rA, hR_sA, hR_sB, hR_rA, Typ_sA', Typ_sB', Typ_rA', O0, r0_0, r0_1, r0_3, r0_4, r0_5, r0_6, r0_7, t, ef, wc, wc2, if_false]
      · unfold f_X6_again
        rw [chk_p (o48 t), em σ t rfl, bc_p, if_neg (by decide), wm, bc_p, if_pos rfl]
  · refine opN I (-1) ?_ ?_
    · unfold f_X5_again
      simp only [chk_p, lt_p, bd_p, bc_p, oc_n, oc_s, and_self, and_true, true_and, if_true, if_false, isO_sA', isO_sB', isO_rA', hlen_sA, hlen_sB, hlen_rA, hR_sA, hR_sB, hR_rA, Typ_sA', Typ_sB', Typ_rA', O0, r0_0, r0_1, r0_3, r0_4, r0_5, r0_6, r0_7, t, ef]
    · unfold f_X6_again
      rw [chk_p (o48 t), em, bc_p, if_pos rfl]
end
section
/-! corner -/
theorem bit_sub : ∀ c, c < 64 → ∀ a, a < 64 → (nI c &&& (nI a ^^^ (-1 : Int32)) = 0) = (c &&& a = c) := by
  have h : ∀ c, c < 64 → ∀ a, a < 64 → decide (nI c &&& (nI a ^^^ (-1 : Int32)) = 0) = decide (c &&& a = c) := by decide +kernel
  intro c hc a ha
  have := h c hc a ha
  exact propext (decide_eq_decide.mp this)
def crn (V S : Nat → Int32) (k s : Nat) : Int := if k.testBit s = true then HI V S s else LO V S s
def w64 (Φ : FM) (V S : Nat → Int32) (k : Nat) : Int64 := Int64.ofInt (pv Φ (pt (crn V S k)) (mN Φ - 1))
def mM (e : Nat) (w : Nat → Int64) : Nat → Int64
  | 0 => w 0
  | k + 1 => if e = 0 then (if w (k + 1) < mM e w k then w (k + 1) else mM e w k) else (if w (k + 1) < mM e w k then mM e w k else w (k + 1))
theorem mM_le (w : Nat → Int64) : ∀ k j, j ≤ k → (mM 0 w k).toInt ≤ (w j).toInt := by
  intro k
  induction k with
  | zero => intro j hj; rw [show j = 0 by omega]; exact Int.le_refl _
  | succ k ih =>
    intro j hj
    rw [show mM 0 w (k + 1) = (if w (k + 1) < mM 0 w k then w (k + 1) else mM 0 w k) from rfl, l_min]
    by_cases e : j = k + 1
    · subst e; omega
    · have := ih j (by omega); omega
theorem mM_ge (e : Nat) (he : e ≠ 0) (w : Nat → Int64) : ∀ k j, j ≤ k → (w j).toInt ≤ (mM e w k).toInt := by
  intro k
  induction k with
  | zero => intro j hj; rw [show j = 0 by omega]; exact Int.le_refl _
  | succ k ih =>
    intro j hj
    rw [show mM e w (k + 1) = (if w (k + 1) < mM e w k then mM e w k else w (k + 1)) from if_neg he, l_max]
    by_cases z : j = k + 1
    · subst z; omega
    · have := ih j (by omega); omega
theorem mM_skip (e : Nat) (w : Nat → Int64) {k j : Nat} (hj : j ≤ k) (h : w (k + 1) = w j) : mM e w (k + 1) = mM e w k := by
  by_cases he : e = 0
  · subst he
    have := mM_le w k j hj
    show (if w (k + 1) < mM 0 w k then w (k + 1) else mM 0 w k) = _
    rw [h, if_neg (by rw [l_lt]; omega)]
  · have := mM_ge e he w k j hj
    rw [show mM e w (k + 1) = (if w (k + 1) < mM e w k then mM e w k else w (k + 1)) from if_neg he, h]
    by_cases z : w j < mM e w k
    · rw [if_pos z]
    · rw [if_neg z]
      rw [l_lt] at z
      exact Int64.toInt_inj.mp (by omega)
theorem crn_in {V S : Nat → Int32} (hl : ∀ s, LO V S s ≤ HI V S s) (k : Nat) : ∀ s, s < 6 → LO V S s ≤ crn V S k s ∧ crn V S k s ≤ HI V S s := fun s _ => by
  have := hl s
  unfold crn
  by_cases c : k.testBit s = true
  · rw [if_pos c]; omega
  · rw [if_neg c]; omega
theorem w64_sub {Φ : FM} (hw : WF Φ) (V S : Nat → Int32) (k : Nat) : w64 Φ V S (k &&& sN Φ (mN Φ)) = w64 Φ V S k := by
  have w1 := hw.1
  unfold w64 pv
  rw [SP_dep hw.2.2 (L := pt (crn V S (k &&& sN Φ (mN Φ)))) (H := pt (crn V S (k &&& sN Φ (mN Φ)))) (L' := pt (crn V S k)) (H' := pt (crn V S k)) (fun i hi k0 => by
    have e : pt (crn V S (k &&& sN Φ (mN Φ))) (mU Φ i) = pt (crn V S k) (mU Φ i) := by
      unfold pt crn
      rw [Nat.testBit_and, sN_bit (mN Φ) i hi k0, Bool.and_true]
    exact ⟨e, e⟩) (mN Φ - 1) (by omega)]
theorem x_wac {φ f : Nat} {Φ : FM} {V S C : Nat → Int32} (hw : WF Φ) {k : Nat} (hk : k < 64) (ha : ∀ i, i < mN Φ → SP Φ (pt (crn V S k)) (pt (crn V S k)) i ≠ none) : ∀ d i (σ : HS), CS σ φ f Φ V S C → (∀ s, s < i → (hA σ 27 s).toInt = crn V S k s) → i + d = 6 → ∀ nf, d < nf → ∃ σ', lp_X5_worthAtCorner_2 nf 0 φ (nI k) (nI i) σ = some (w64 Φ V S k, σ') ∧ Kp σ σ' ∧ CS σ' φ f Φ V S C := by
  intro d
  induction d with
  | zero =>
    intro i σ h hat hi nf hnf
    obtain ⟨nf, rfl⟩ : ∃ k, nf = k + 1 := ⟨nf - 1, by omega⟩
    have : i = 6 := by omega
    subst this
    obtain ⟨σ', e1, e2, e3, -⟩ := c_worth hw h (v := pt (crn V S k)) (fun s hs => by rw [hat s hs]; unfold pt; rw [if_pos hs]) ha
    refine ⟨σ', ?_, e2, e3⟩
    have t := h.1
    show lp_X5_worthAtCorner_2_b (lp_X5_worthAtCorner_2 nf) 0 φ (nI k) (nI 6) σ = _
    unfold lp_X5_worthAtCorner_2_b
    rw [if_pos (by decide)]
    simp only [chk_p, lt_p, bd_p, bc_p, oc_n, oc_s, and_self, and_true, true_and, if_true, if_false, isO_sA', isO_sB', isO_rA', hlen_sA, hlen_sB, hlen_rA, hR_sA, hR_sB, hR_rA, Typ_sA', Typ_sB', Typ_rA', O0, r0_0, r0_1, r0_3, r0_4, r0_5, r0_6, r0_7, O24, r24_0, r24_1, r24_5, r24_6, r24_7, r24_8, r24_9, t, e1]
    rfl
  | succ d ih =>
    intro i σ h hat hi nf hnf
    obtain ⟨nf, rfl⟩ : ∃ k, nf = k + 1 := ⟨nf - 1, by omega⟩
    have hi6 : i < 6 := by omega
    have t := h.1
    obtain ⟨-, -, -, -, -, -, -, -, -, vl, vh⟩ := cs_val h hi6
    have go : ∀ x : Int32, x.toInt = crn V S k i → ∃ σ', lp_X5_worthAtCorner_2 nf 0 φ (nI k) (nI (i + 1)) (sA σ 27 i x) = some (w64 Φ V S k, σ') ∧ Kp σ σ' ∧ CS σ' φ f Φ V S C := fun x hx => by
      have fr : Fr [27] σ (sA σ 27 i x) := Fr_sA (by simp)
      have k : Kp σ (sA σ 27 i x) := fr.kp (by decide)
      obtain ⟨σ', e1, e2, e3⟩ := ih (i + 1) (sA σ 27 i x) (h.kp k) (fun s hs => by
        rw [hA_sA]
        by_cases z : s = i
        · rw [if_pos ⟨rfl, z⟩, z]; exact hx
        · rw [if_neg (fun y => z y.2)]; exact hat s (by omega)) (by omega) nf (by omega)
      exact ⟨σ', e1, k.seq e2, e3⟩
    have le : (6 : Int32) ≤ nI i ↔ False := by rw [show (6 : Int32) = nI 6 from rfl, nle (a := 6) (b := i) (by omega) (by omega)]
    have le := eq_false (fun z => le.mp z)
    have ie := inbE (i := i) (n := 6) (by omega) (by omega)
    have ci := cl1000 (i := i) (by omega)
    show ∃ σ', lp_X5_worthAtCorner_2_b (lp_X5_worthAtCorner_2 nf) 0 φ (nI k) (nI i) σ = _ ∧ _
    unfold lp_X5_worthAtCorner_2_b
    by_cases c : k.testBit i = true
    · obtain ⟨σ', e1, e2, e3⟩ := go (V i + S i) (by unfold crn; rw [if_pos c, vh])
      refine ⟨σ', ?_, e2, e3⟩
      rw [← e1]
      simp (decide := true) only [le, if_false, bit_at k hk i hi6, c, if_true, chk_p, lt_p, bd_p, bc_p, oc_n, oc_s, and_self, and_true, true_and, if_true, if_false, isO_sA', isO_sB', isO_rA', hlen_sA, hlen_sB, hlen_rA, hR_sA, hR_sB, hR_rA, Typ_sA', Typ_sB', Typ_rA', O0, r0_0, r0_1, r0_3, r0_4, r0_5, r0_6, r0_7, O1, r1_0, r1_1, r1_2, r1_3, r1_5, r1_6, r1_7, O24, r24_0, r24_1, r24_5, r24_6, r24_7, r24_8, r24_9, O27, l27, t, c_high h hi6, ie, ci, nI_s]
    · obtain ⟨σ', e1, e2, e3⟩ := go (V i - S i) (by unfold crn; rw [if_neg c, vl])
      refine ⟨σ', ?_, e2, e3⟩
      rw [← e1]
      simp (decide := true) only [le, if_false, bit_at k hk i hi6, c, if_true, chk_p, lt_p, bd_p, bc_p, oc_n, oc_s, and_self, and_true, true_and, if_true, if_false, isO_sA', isO_sB', isO_rA', hlen_sA, hlen_sB, hlen_rA, hR_sA, hR_sB, hR_rA, Typ_sA', Typ_sB', Typ_rA', O0, r0_0, r0_1, r0_3, r0_4, r0_5, r0_6, r0_7, O1, r1_0, r1_1, r1_2, r1_3, r1_5, r1_6, r1_7, O24, r24_0, r24_1, r24_5, r24_6, r24_7, r24_8, r24_9, O27, l27, t, c_low h hi6, ie, ci, nI_s]
theorem x_corner {φ f : Nat} {Φ : FM} {V S C : Nat → Int32} (hg : Good Φ) {p : Int × Int} (hx : RT Φ (LO V S) (HI V S) = some p) (a : Int32) {e : Nat} (he : e < 2) : ∀ d k (σ : HS), CS σ φ f Φ V S C → XI σ φ Φ → k + 1 + d = 64 → ∀ nf, d < nf → ∃ σ', lp_X5_corner_53 nf 0 a (nI e) φ (mM e (w64 Φ V S) k) (nI (k + 1)) σ = some (mM e (w64 Φ V S) 63, σ') ∧ Kp σ σ' := by
  intro d
  induction d with
  | zero =>
    intro k σ h hxi hd nf hnf
    obtain ⟨nf, rfl⟩ : ∃ k, nf = k + 1 := ⟨nf - 1, by omega⟩
    have : k = 63 := by omega
    subst this
    refine ⟨σ, ?_, Kp.rf⟩
    show lp_X5_corner_53_b (lp_X5_corner_53 nf) 0 a (nI e) φ _ (nI 64) σ = _
    unfold lp_X5_corner_53_b
    exact if_pos (by decide)
  | succ d ih =>
    intro k σ h hxi hd nf hnf
    obtain ⟨nf, rfl⟩ : ∃ k, nf = k + 1 := ⟨nf - 1, by omega⟩
    have hk : k + 1 < 64 := by omega
    have t := h.1
    obtain ⟨b1, b2⟩ := sN_ok hg.1.2.2 (mN Φ) (Nat.le_refl _)
    have q0 := eq_true h.2.1.1.2.1
    have le : (64 : Int32) ≤ nI (k + 1) ↔ False := by rw [show (64 : Int32) = nI 64 from rfl, nle (a := 64) (b := k + 1) (by omega) (by omega)]
    have le := eq_false (fun z => le.mp z)
    have bs := bit_sub (k + 1) hk _ b1
    have e0 : (nI e = 0) = (e = 0) := nE (a := e) (b := 0) (by omega) (by omega)
    show ∃ σ', lp_X5_corner_53_b (lp_X5_corner_53 nf) 0 a (nI e) φ _ (nI (k + 1)) σ = _ ∧ _
    unfold lp_X5_corner_53_b
    by_cases c : (k + 1) &&& sN Φ (mN Φ) = k + 1
    · obtain ⟨σ1, y1, y2, y3⟩ := x_wac hg.1 hk (pt_some hg (by rw [hx]; exact fun z => by cases z) (crn_in (LOHI h) (k + 1))) 6 0 σ h (fun s hs => by omega) (by omega) 1000 (by omega)
      have y1' : f_X5_worthAtCorner 0 φ (nI (k + 1)) σ = some (w64 Φ V S (k + 1), σ1) := y1
      obtain ⟨σ2, e1, e2⟩ := ih (k + 1) σ1 y3 (Kq.xi y2 h.2.1 hxi) (by omega) nf (by omega)
      refine ⟨σ2, ?_, y2.seq e2⟩
      rw [← e1]
      rw [show mM e (w64 Φ V S) (k + 1) = if e = 0 then (if w64 Φ V S (k + 1) < mM e (w64 Φ V S) k then w64 Φ V S (k + 1) else mM e (w64 Φ V S) k) else (if w64 Φ V S (k + 1) < mM e (w64 Φ V S) k then mM e (w64 Φ V S) k else w64 Φ V S (k + 1)) from rfl]
      by_cases c0 : e = 0
      · simp only [le, if_false, chk_p, lt_p, bd_p, bc_p, oc_n, oc_s, and_self, and_true, true_and, if_true, if_false, isO_sA', isO_sB', isO_rA', hlen_sA, hlen_sB, hlen_rA, hR_sA, hR_sB, hR_rA, Typ_sA', Typ_sB', Typ_rA', O0, r0_0, r0_1, r0_3, r0_4, r0_5, r0_6, r0_7, t, q0, hxi.1, b2, bs, c, y1', e0.trans (eq_true c0), eq_true c0, nI_s]
      · simp only [le, if_false, chk_p, lt_p, bd_p, bc_p, oc_n, oc_s, and_self, and_true, true_and, if_true, if_false, isO_sA', isO_sB', isO_rA', hlen_sA, hlen_sB, hlen_rA, hR_sA, hR_sB, hR_rA, Typ_sA', Typ_sB', Typ_rA', O0, r0_0, r0_1, r0_3, r0_4, r0_5, r0_6, r0_7, t, q0, hxi.1, b2, bs, c, y1', e0.trans (eq_false c0), eq_false c0, nI_s]
    · have lt : (k + 1) &&& sN Φ (mN Φ) ≤ k := by have := Nat.and_le_left (n := k + 1) (m := sN Φ (mN Φ)); omega
      obtain ⟨σ2, e1, e2⟩ := ih (k + 1) σ h hxi (by omega) nf (by omega)
      refine ⟨σ2, ?_, e2⟩
      rw [mM_skip e (w64 Φ V S) lt (w64_sub hg.1 V S (k + 1)).symm] at e1
      rw [← e1]
      simp only [le, if_false, chk_p, lt_p, bd_p, bc_p, oc_n, oc_s, and_self, and_true, true_and, if_true, if_false, isO_sA', isO_sB', isO_rA', hlen_sA, hlen_sB, hlen_rA, hR_sA, hR_sB, hR_rA, Typ_sA', Typ_sB', Typ_rA', q0, hxi.1, b2, bs, c, nI_s]
theorem m_crn {φ f : Nat} {Φ : FM} {V S C : Nat → Int32} (hf : f < 7) (hw : WF Φ) (K : Nat → Int32 → Int32 → Int64 → Int32 → HS → Option (Int64 × HS)) {e : Nat} (he : e < 2) (u : Int64) {k : Nat} (hk : k < 64) (ha : ∀ i, i < mN Φ → SP Φ (pt (crn V S k)) (pt (crn V S k)) i ≠ none) {L0 H0 : Nat → Int} (z0 : ∀ s, 6 ≤ s → L0 s = 0) (z1 : ∀ s, 6 ≤ s → H0 s = 0) : ∀ d i (σ : HS), CS σ φ f Φ V S C → BxM σ (bmix i (crn V S k) L0) (bmix i (crn V S k) H0) → i + d = 6 → ∀ nf, d < nf → ∃ σ', lp_X6_corner_49 K nf 48 (nI f) (nI e) u (nI k) (nI i) σ = K 48 (nI f) (nI e) (if k = 0 then w64 Φ V S k else if e = 0 then (if w64 Φ V S k < u then w64 Φ V S k else u) else (if w64 Φ V S k < u then u else w64 Φ V S k)) (nI (k + 1)) σ' ∧ Kp σ σ' ∧ CS σ' φ f Φ V S C ∧ BxM σ' (pt (crn V S k)) (pt (crn V S k)) := by
  intro d
  induction d with
  | zero =>
    intro i σ h hb hi nf hnf
    obtain ⟨nf, rfl⟩ : ∃ k, nf = k + 1 := ⟨nf - 1, by omega⟩
    have : i = 6 := by omega
    subst this
    rw [bmix_6 z0, bmix_6 z1] at hb
    obtain ⟨r, σ', e1, e2, e3, e4, e5⟩ := m_pt hf hw h hb ha
    refine ⟨σ', ?_, e2, e3, e4⟩
    have t := h.1
    have t1 := e3.1
    have e0 : (nI e = 0) = (e = 0) := nE (a := e) (b := 0) (by omega) (by omega)
    have k0 : (nI k = 0) = (k = 0) := nE (a := k) (b := 0) (by omega) (by omega)
    rw [show Int64.ofInt (pv Φ (pt (crn V S k)) (mN Φ - 1)) = w64 Φ V S k from rfl] at e5
    show lp_X6_corner_49_b K (lp_X6_corner_49 K nf) 48 (nI f) (nI e) u (nI k) (nI 6) σ = _
    unfold lp_X6_corner_49_b
    rw [if_pos (by decide)]
    simp only [chk_p, lt_p, bd_p, bc_p, oc_n, oc_s, and_self, and_true, true_and, if_true, if_false, isO_sA', isO_sB', isO_rA', hlen_sA, hlen_sB, hlen_rA, hR_sA, hR_sB, hR_rA, Typ_sA', Typ_sB', Typ_rA', O48, r48_0, r48_1, r48_2, r48_3, r48_4, r48_5, r48_6, r48_8, r48_9, r48_10, r48_11, r48_12, r48_15, r48_21, r48_22, r48_23, r48_24, r48_25, r48_28, r48_30, r48_31, r48_32, r48_35, r48_37, r48_39, r48_40, r48_41, t, t1, e1, e5, e0, k0, nI_s]
    by_cases c0 : k = 0
    · rw [if_pos c0, if_pos c0]
    · rw [if_neg c0, if_neg c0]
      by_cases c1 : e = 0
      · rw [if_pos c1, if_pos c1]
      · rw [if_neg c1, if_neg c1]
  | succ d ih =>
    intro i σ h hb hi nf hnf
    obtain ⟨nf, rfl⟩ : ∃ k, nf = k + 1 := ⟨nf - 1, by omega⟩
    have hi6 : i < 6 := by omega
    have t := h.1
    obtain ⟨-, -, -, -, -, -, -, -, -, vl, vh⟩ := cs_val h hi6
    have go : ∀ x : Int32, x.toInt = crn V S k i → ∃ σ', f_X6_laysPoint 48 (nI i) x σ = some ((), sA (sA σ 62 i x) 63 i x) ∧ lp_X6_corner_49 K nf 48 (nI f) (nI e) u (nI k) (nI (i + 1)) (sA (sA σ 62 i x) 63 i x) = K 48 (nI f) (nI e) (if k = 0 then w64 Φ V S k else if e = 0 then (if w64 Φ V S k < u then w64 Φ V S k else u) else (if w64 Φ V S k < u then u else w64 Φ V S k)) (nI (k + 1)) σ' ∧ Kp σ σ' ∧ CS σ' φ f Φ V S C ∧ BxM σ' (pt (crn V S k)) (pt (crn V S k)) := fun x hx => by
      obtain ⟨l1, l2, l3⟩ := m_laysPoint t hb hi6 (a := x)
      rw [hx, bmix_up, bmix_up] at l2
      have k1 := l3.kp (by decide)
      obtain ⟨σ', e1, e2, e3, e4⟩ := ih (i + 1) _ (h.kp k1) l2 (by omega) nf (by omega)
      exact ⟨σ', l1, e1, k1.seq e2, e3, e4⟩
    have le : (6 : Int32) ≤ nI i ↔ False := by rw [show (6 : Int32) = nI 6 from rfl, nle (a := 6) (b := i) (by omega) (by omega)]
    have le := eq_false (fun z => le.mp z)
    show ∃ σ', lp_X6_corner_49_b K (lp_X6_corner_49 K nf) 48 (nI f) (nI e) u (nI k) (nI i) σ = _ ∧ _
    unfold lp_X6_corner_49_b
    by_cases c : k.testBit i = true
    · obtain ⟨σ', l1, e1, e2, e3⟩ := go (V i + S i) (by unfold crn; rw [if_pos c, vh])
      refine ⟨σ', ?_, e2, e3⟩
      rw [← e1]
      simp (decide := true) only [le, if_false, bit_at k hk i hi6, c, if_true, chk_p, lt_p, bd_p, bc_p, oc_n, oc_s, and_self, and_true, true_and, if_true, if_false, isO_sA', isO_sB', isO_rA', hlen_sA, hlen_sB, hlen_rA, hR_sA, hR_sB, hR_rA, Typ_sA', Typ_sB', Typ_rA', O48, r48_0, r48_1, r48_2, r48_3, r48_4, r48_5, r48_6, r48_8, r48_9, r48_10, r48_11, r48_12, r48_15, r48_21, r48_22, r48_23, r48_24, r48_25, r48_28, r48_30, r48_31, r48_32, r48_35, r48_37, r48_39, r48_40, r48_41, t, m_val h hi6, m_span h hi6, l1, nI_s]
    · obtain ⟨σ', l1, e1, e2, e3⟩ := go (V i - S i) (by unfold crn; rw [if_neg c, vl])
      refine ⟨σ', ?_, e2, e3⟩
      rw [← e1]
      simp (decide := true) only [le, if_false, bit_at k hk i hi6, c, if_true, chk_p, lt_p, bd_p, bc_p, oc_n, oc_s, and_self, and_true, true_and, if_true, if_false, isO_sA', isO_sB', isO_rA', hlen_sA, hlen_sB, hlen_rA, hR_sA, hR_sB, hR_rA, Typ_sA', Typ_sB', Typ_rA', O48, r48_0, r48_1, r48_2, r48_3, r48_4, r48_5, r48_6, r48_8, r48_9, r48_10, r48_11, r48_12, r48_15, r48_21, r48_22, r48_23, r48_24, r48_25, r48_28, r48_30, r48_31, r48_32, r48_35, r48_37, r48_39, r48_40, r48_41, t, m_val h hi6, m_span h hi6, l1, nI_s]
def mM' (e : Nat) (w : Nat → Int64) (k : Nat) : Int64 := match k with | 0 => 0 | k + 1 => mM e w k
theorem m_corner {φ f : Nat} {Φ : FM} {V S C : Nat → Int32} (hf : f < 7) (hg : Good Φ) {p : Int × Int} (hx : RT Φ (LO V S) (HI V S) = some p) {e : Nat} (he : e < 2) : ∀ d k (L0 H0 : Nat → Int) (σ : HS), CS σ φ f Φ V S C → BxM σ L0 H0 → (∀ s, 6 ≤ s → L0 s = 0) → (∀ s, 6 ≤ s → H0 s = 0) → k + d = 64 → ∀ nf, d < nf → ∃ σ', lp_X6_corner_39 nf 48 (nI f) (nI e) (mM' e (w64 Φ V S) k) (nI k) σ = some (mM e (w64 Φ V S) 63, σ') ∧ Kp σ σ' := by
  intro d
  induction d with
  | zero =>
    intro k L0 H0 σ h hb z0 z1 hd nf hnf
    obtain ⟨nf, rfl⟩ : ∃ k, nf = k + 1 := ⟨nf - 1, by omega⟩
    have : k = 64 := by omega
    subst this
    refine ⟨σ, ?_, Kp.rf⟩
    show lp_X6_corner_39_b (lp_X6_corner_39 nf) 48 (nI f) (nI e) _ (nI 64) σ = _
    unfold lp_X6_corner_39_b
    exact if_pos (by decide)
  | succ d ih =>
    intro k L0 H0 σ h hb z0 z1 hd nf hnf
    obtain ⟨nf, rfl⟩ : ∃ k, nf = k + 1 := ⟨nf - 1, by omega⟩
    have hk : k < 64 := by omega
    have le : (64 : Int32) ≤ nI k ↔ False := by rw [show (64 : Int32) = nI 64 from rfl, nle (a := 64) (b := k) (by omega) (by omega)]
    have le := eq_false (fun z => le.mp z)
    obtain ⟨σ1, y1, y2, y3, y4⟩ := m_crn hf hg.1 (lp_X6_corner_39 nf) he (mM' e (w64 Φ V S) k) hk (pt_some hg (by rw [hx]; exact fun z => by cases z) (crn_in (LOHI h) k)) z0 z1 6 0 σ h (by rw [bmix_0, bmix_0]; exact hb) (by omega) 1000 (by omega)
    obtain ⟨σ2, e1, e2⟩ := ih (k + 1) _ _ σ1 y3 y4 (fun s hs => by unfold pt; rw [if_neg (by omega)]) (fun s hs => by unfold pt; rw [if_neg (by omega)]) (by omega) nf (by omega)
    refine ⟨σ2, ?_, y2.seq e2⟩
    have em : mM' e (w64 Φ V S) (k + 1) = (if k = 0 then w64 Φ V S k else if e = 0 then (if w64 Φ V S k < mM' e (w64 Φ V S) k then w64 Φ V S k else mM' e (w64 Φ V S) k) else (if w64 Φ V S k < mM' e (w64 Φ V S) k then mM' e (w64 Φ V S) k else w64 Φ V S k)) := by
      cases k with
      | zero => rw [if_pos rfl]; rfl
      | succ k => rw [if_neg (by omega)]; rfl
    rw [em] at e1
    rw [← e1, ← y1]
    show lp_X6_corner_39_b (lp_X6_corner_39 nf) 48 (nI f) (nI e) _ (nI k) σ = _
    unfold lp_X6_corner_39_b
    rw [if_neg (of_eq_false le), lt_p]
    rfl
theorem op_corner (a w : Int32) : OpOK (f_X5_corner 0 a w) (f_X6_corner 48 a w) := by
  intro σ V S C n FS I
  have t := I.1
  rcases start I a with ⟨k, φ, hk, rfl, ef, hg, hc, hxi, em⟩ | ⟨ef, em⟩
  · rcases rng1 w with ⟨e, he, rfl, w0, w2, wm⟩ | ⟨wm, wc⟩
    · obtain ⟨σ1, x1, x2, x3, x4, x5, x6⟩ := c_now hg.1 hc
      have t1 := x3.1
      cases hx : RT (FS k) (LO V S) (HI V S) with
      | none =>
        obtain ⟨σ2, z1, z2, z3, z4, z5, z6⟩ := m_now hk hg.1 x3
        rw [hx] at x5 z1
        have xo' : hA σ1 24 2 = 1 := x5
        refine opQ I ⟨-9223372036854775807, σ1, σ2, ?_, x2, ?_, z2⟩
        · unfold f_X5_corner
          simp only [chk_p, lt_p, bd_p, bc_p, oc_n, oc_s, and_self, and_true, true_and, if_true, if_false, isO_sA', isO_sB', isO_rA', hlen_sA, hlen_sB, hlen_rA, hR_sA, hR_sB, hR_rA, Typ_sA', Typ_sB', Typ_rA', O0, r0_0, r0_1, r0_3, r0_4, r0_5, r0_6, r0_7, O24, r24_0, r24_1, r24_5, r24_6, r24_7, r24_8, r24_9, t, t1, ef, w0, w2, if_false, x1, xo', beq1]
        · unfold f_X6_corner
          rw [chk_p (o48 t1), em σ1 t1 x2.k7, bc_p, if_neg (by decide), wm, bc_p, if_neg (by decide), chk_p (o48 t1), z1, bc_p]
          exact if_pos rfl
      | some p =>
        rw [hx] at x5
        have xo' : hA σ1 24 2 = 0 := x5.1
        obtain ⟨σ2, y1, y2, y3⟩ := x_wac hg.1 (show 0 < 64 by decide) (pt_some hg (by rw [hx]; exact fun z => by cases z) (crn_in (LOHI hc) 0)) 6 0 σ1 x3 (fun s hs => by omega) (by omega) 1000 (by omega)
        have y1' : f_X5_worthAtCorner 0 φ 0 σ1 = some (w64 (FS k) V S 0, σ2) := y1
        obtain ⟨σ3, u1, u2⟩ := x_corner hg hx (nI k) he 63 0 σ2 y3 (Kq.xi y2 x3.2.1 (Kq.xi x2 hc.2.1 hxi)) (by omega) 1000 (by omega)
        have c3 := y3.kp u2
        have t3 := c3.1
        obtain ⟨σ4, z1, z2, z3, z4, z5, z6⟩ := m_now hk hg.1 c3
        rw [hx] at z1
        have t4 := z3.1
        obtain ⟨σ5, v1, v2⟩ := m_corner hk hg hx he 64 0 _ _ σ4 z3 z5 (LO6 V S) (HI6 V S) (by omega) 1000 (by omega)
        refine opQ I ⟨mM e (w64 (FS k) V S) 63, σ3, σ5, ?_, (x2.seq y2).seq u2, ?_, z2.seq v2⟩
        · unfold f_X5_corner
          rw [chk_p (o0 t), ef, bc_p, oc_s, if_neg (of_eq_false w0), if_pos (of_eq_true w2), chk_p (o0 t), x1, bc_p, chk_p (o0 t1), r0_4 t1, bd_p, chk_p (o24 t1), lt_p, if_pos xo', y1', bc_p, lt_p]
          exact u1
        · unfold f_X6_corner
          rw [chk_p (o48 t3), em σ3 t3 ((x2.seq y2).seq u2).k7, bc_p, if_neg (by decide), wm, bc_p, if_neg (by decide), chk_p (o48 t3), z1, bc_p, if_neg (show ¬ rc (some p) = 0 from (by decide : ¬ (1 : Int32) = 0)), lt_p, lt_p]
          exact v1
    · refine opN I (-9223372036854775808) ?_ ?_
      · unfold f_X5_corner
        rcases wc with wc | ⟨wc, wc2⟩
        · simp only [chk_p, lt_p, bd_p, bc_p, oc_n, oc_s, and_self, and_true, true_and, if_true, if_false, isO_sA', isO_sB', isO_rA', hlen_sA, hlen_sB, hlen_rA, hR_sA, hR_sB, hR_rA, Typ_sA', Typ_sB', Typ_rA', O0, r0_0, r0_1, r0_3, r0_4, r0_5, r0_6, r0_7, t, ef, wc]
        · simp only [chk_p, lt_p, bd_p, bc_p, oc_n, oc_s, and_self, and_true, true_and, if_true, if_false, isO_sA', isO_sB', isO_rA', hlen_sA, hlen_sB, hlen_rA, hR_sA, hR_sB, hR_rA, Typ_sA', Typ_sB', Typ_rA', O0, r0_0, r0_1, r0_3, r0_4, r0_5, r0_6, r0_7, t, ef, wc, wc2, if_false]
      · unfold f_X6_corner
        rw [chk_p (o48 t), em σ t rfl, bc_p, if_neg (by decide), wm, bc_p, if_pos rfl]
  · refine opN I (-9223372036854775808) ?_ ?_
    · unfold f_X5_corner
      simp only [chk_p, lt_p, bd_p, bc_p, oc_n, oc_s, and_self, and_true, true_and, if_true, if_false, isO_sA', isO_sB', isO_rA', hlen_sA, hlen_sB, hlen_rA, hR_sA, hR_sB, hR_rA, Typ_sA', Typ_sB', Typ_rA', O0, r0_0, r0_1, r0_3, r0_4, r0_5, r0_6, r0_7, t, ef]
    · unfold f_X6_corner
      rw [chk_p (o48 t), em, bc_p, if_pos rfl]
end

theorem dX0_hasSource_0 : decode cX0_hasSource 0 = .ok (.aload_n 0, 1) := by decide +kernel
theorem dX0_hasSource_1 : decode cX0_hasSource 1 = .ok (.getfield 49, 3) := by decide +kernel
theorem dX0_hasSource_4 : decode cX0_hasSource 4 = .ok (.iload_n 1, 1) := by decide +kernel
theorem dX0_hasSource_5 : decode cX0_hasSource 5 = .ok (.ishr, 1) := by decide +kernel
theorem dX0_hasSource_6 : decode cX0_hasSource 6 = .ok (.iconst 1, 1) := by decide +kernel
theorem dX0_hasSource_7 : decode cX0_hasSource 7 = .ok (.iand, 1) := by decide +kernel
theorem dX0_hasSource_8 : decode cX0_hasSource 8 = .ok (.iconst 1, 1) := by decide +kernel
theorem dX0_hasSource_9 : decode cX0_hasSource 9 = .ok (.if_icmp .ne 7, 3) := by decide +kernel
theorem dX0_hasSource_12 : decode cX0_hasSource 12 = .ok (.iconst 1, 1) := by decide +kernel
theorem dX0_hasSource_13 : decode cX0_hasSource 13 = .ok (.goto 4, 3) := by decide +kernel
theorem dX0_hasSource_16 : decode cX0_hasSource 16 = .ok (.iconst 0, 1) := by decide +kernel
theorem dX0_hasSource_17 : decode cX0_hasSource 17 = .ok (.ireturn, 1) := by decide +kernel
theorem dX0_isMade_0 : decode cX0_isMade 0 = .ok (.iload_n 0, 1) := by decide +kernel
theorem dX0_isMade_1 : decode cX0_isMade 1 = .ok (.iconst 1, 1) := by decide +kernel
theorem dX0_isMade_2 : decode cX0_isMade 2 = .ok (.if_icmp .le 7, 3) := by decide +kernel
theorem dX0_isMade_5 : decode cX0_isMade 5 = .ok (.iconst 1, 1) := by decide +kernel
theorem dX0_isMade_6 : decode cX0_isMade 6 = .ok (.goto 4, 3) := by decide +kernel
theorem dX0_isMade_9 : decode cX0_isMade 9 = .ok (.iconst 0, 1) := by decide +kernel
theorem dX0_isMade_10 : decode cX0_isMade 10 = .ok (.ireturn, 1) := by decide +kernel
theorem dX0_isLike_0 : decode cX0_isLike 0 = .ok (.aload_n 0, 1) := by decide +kernel
theorem dX0_isLike_1 : decode cX0_isLike 1 = .ok (.getfield 15, 3) := by decide +kernel
theorem dX0_isLike_4 : decode cX0_isLike 4 = .ok (.aload_n 1, 1) := by decide +kernel
theorem dX0_isLike_5 : decode cX0_isLike 5 = .ok (.getfield 15, 3) := by decide +kernel
theorem dX0_isLike_8 : decode cX0_isLike 8 = .ok (.if_icmp .eq 5, 3) := by decide +kernel
theorem dX0_isLike_11 : decode cX0_isLike 11 = .ok (.iconst 0, 1) := by decide +kernel
theorem dX0_isLike_12 : decode cX0_isLike 12 = .ok (.ireturn, 1) := by decide +kernel
theorem dX0_isLike_13 : decode cX0_isLike 13 = .ok (.iconst 0, 1) := by decide +kernel
theorem dX0_isLike_14 : decode cX0_isLike 14 = .ok (.istore_n 2, 1) := by decide +kernel
theorem dX0_isLike_15 : decode cX0_isLike 15 = .ok (.iload_n 2, 1) := by decide +kernel
theorem dX0_isLike_16 : decode cX0_isLike 16 = .ok (.aload_n 0, 1) := by decide +kernel
theorem dX0_isLike_17 : decode cX0_isLike 17 = .ok (.getfield 15, 3) := by decide +kernel
theorem dX0_isLike_20 : decode cX0_isLike 20 = .ok (.if_icmp .ge 41, 3) := by decide +kernel
theorem dX0_isLike_23 : decode cX0_isLike 23 = .ok (.aload_n 0, 1) := by decide +kernel
theorem dX0_isLike_24 : decode cX0_isLike 24 = .ok (.getfield 28, 3) := by decide +kernel
theorem dX0_isLike_27 : decode cX0_isLike 27 = .ok (.iload_n 2, 1) := by decide +kernel
theorem dX0_isLike_28 : decode cX0_isLike 28 = .ok (.iaload, 1) := by decide +kernel
theorem dX0_isLike_29 : decode cX0_isLike 29 = .ok (.aload_n 1, 1) := by decide +kernel
theorem dX0_isLike_30 : decode cX0_isLike 30 = .ok (.getfield 28, 3) := by decide +kernel
theorem dX0_isLike_33 : decode cX0_isLike 33 = .ok (.iload_n 2, 1) := by decide +kernel
theorem dX0_isLike_34 : decode cX0_isLike 34 = .ok (.iaload, 1) := by decide +kernel
theorem dX0_isLike_35 : decode cX0_isLike 35 = .ok (.if_icmp .ne 18, 3) := by decide +kernel
theorem dX0_isLike_38 : decode cX0_isLike 38 = .ok (.aload_n 0, 1) := by decide +kernel
theorem dX0_isLike_39 : decode cX0_isLike 39 = .ok (.getfield 44, 3) := by decide +kernel
theorem dX0_isLike_42 : decode cX0_isLike 42 = .ok (.iload_n 2, 1) := by decide +kernel
theorem dX0_isLike_43 : decode cX0_isLike 43 = .ok (.iaload, 1) := by decide +kernel
theorem dX0_isLike_44 : decode cX0_isLike 44 = .ok (.aload_n 1, 1) := by decide +kernel
theorem dX0_isLike_45 : decode cX0_isLike 45 = .ok (.getfield 44, 3) := by decide +kernel
theorem dX0_isLike_48 : decode cX0_isLike 48 = .ok (.iload_n 2, 1) := by decide +kernel
theorem dX0_isLike_49 : decode cX0_isLike 49 = .ok (.iaload, 1) := by decide +kernel
theorem dX0_isLike_50 : decode cX0_isLike 50 = .ok (.if_icmp .eq 5, 3) := by decide +kernel
theorem dX0_isLike_53 : decode cX0_isLike 53 = .ok (.iconst 0, 1) := by decide +kernel
theorem dX0_isLike_54 : decode cX0_isLike 54 = .ok (.ireturn, 1) := by decide +kernel
theorem dX0_isLike_55 : decode cX0_isLike 55 = .ok (.iinc 2 1, 3) := by decide +kernel
theorem dX0_isLike_58 : decode cX0_isLike 58 = .ok (.goto (-43), 3) := by decide +kernel
theorem dX0_isLike_61 : decode cX0_isLike 61 = .ok (.iconst 1, 1) := by decide +kernel
theorem dX0_isLike_62 : decode cX0_isLike 62 = .ok (.ireturn, 1) := by decide +kernel
theorem dX0_sourcesIn_0 : decode cX0_sourcesIn 0 = .ok (.iconst 0, 1) := by decide +kernel
theorem dX0_sourcesIn_1 : decode cX0_sourcesIn 1 = .ok (.istore_n 1, 1) := by decide +kernel
theorem dX0_sourcesIn_2 : decode cX0_sourcesIn 2 = .ok (.iconst 0, 1) := by decide +kernel
theorem dX0_sourcesIn_3 : decode cX0_sourcesIn 3 = .ok (.istore_n 2, 1) := by decide +kernel
theorem dX0_sourcesIn_4 : decode cX0_sourcesIn 4 = .ok (.iload_n 2, 1) := by decide +kernel
theorem dX0_sourcesIn_5 : decode cX0_sourcesIn 5 = .ok (.aload_n 0, 1) := by decide +kernel
theorem dX0_sourcesIn_6 : decode cX0_sourcesIn 6 = .ok (.getfield 9, 3) := by decide +kernel
theorem dX0_sourcesIn_9 : decode cX0_sourcesIn 9 = .ok (.if_icmp .ge 29, 3) := by decide +kernel
theorem dX0_sourcesIn_12 : decode cX0_sourcesIn 12 = .ok (.aload_n 0, 1) := by decide +kernel
theorem dX0_sourcesIn_13 : decode cX0_sourcesIn 13 = .ok (.getfield 18, 3) := by decide +kernel
theorem dX0_sourcesIn_16 : decode cX0_sourcesIn 16 = .ok (.iload_n 2, 1) := by decide +kernel
theorem dX0_sourcesIn_17 : decode cX0_sourcesIn 17 = .ok (.iaload, 1) := by decide +kernel
theorem dX0_sourcesIn_18 : decode cX0_sourcesIn 18 = .ok (.ifCond .ne 14, 3) := by decide +kernel
theorem dX0_sourcesIn_21 : decode cX0_sourcesIn 21 = .ok (.iload_n 1, 1) := by decide +kernel
theorem dX0_sourcesIn_22 : decode cX0_sourcesIn 22 = .ok (.iconst 1, 1) := by decide +kernel
theorem dX0_sourcesIn_23 : decode cX0_sourcesIn 23 = .ok (.aload_n 0, 1) := by decide +kernel
theorem dX0_sourcesIn_24 : decode cX0_sourcesIn 24 = .ok (.getfield 41, 3) := by decide +kernel
theorem dX0_sourcesIn_27 : decode cX0_sourcesIn 27 = .ok (.iload_n 2, 1) := by decide +kernel
theorem dX0_sourcesIn_28 : decode cX0_sourcesIn 28 = .ok (.iaload, 1) := by decide +kernel
theorem dX0_sourcesIn_29 : decode cX0_sourcesIn 29 = .ok (.ishl, 1) := by decide +kernel
theorem dX0_sourcesIn_30 : decode cX0_sourcesIn 30 = .ok (.ior, 1) := by decide +kernel
theorem dX0_sourcesIn_31 : decode cX0_sourcesIn 31 = .ok (.istore_n 1, 1) := by decide +kernel
theorem dX0_sourcesIn_32 : decode cX0_sourcesIn 32 = .ok (.iinc 2 1, 3) := by decide +kernel
theorem dX0_sourcesIn_35 : decode cX0_sourcesIn 35 = .ok (.goto (-31), 3) := by decide +kernel
theorem dX0_sourcesIn_38 : decode cX0_sourcesIn 38 = .ok (.iload_n 1, 1) := by decide +kernel
theorem dX0_sourcesIn_39 : decode cX0_sourcesIn 39 = .ok (.ireturn, 1) := by decide +kernel
theorem dX0_areAlike_0 : decode cX0_areAlike 0 = .ok (.aload_n 0, 1) := by decide +kernel
theorem dX0_areAlike_1 : decode cX0_areAlike 1 = .ok (.getfield 18, 3) := by decide +kernel
theorem dX0_areAlike_4 : decode cX0_areAlike 4 = .ok (.iload_n 2, 1) := by decide +kernel
theorem dX0_areAlike_5 : decode cX0_areAlike 5 = .ok (.iaload, 1) := by decide +kernel
theorem dX0_areAlike_6 : decode cX0_areAlike 6 = .ok (.aload_n 0, 1) := by decide +kernel
theorem dX0_areAlike_7 : decode cX0_areAlike 7 = .ok (.getfield 18, 3) := by decide +kernel
theorem dX0_areAlike_10 : decode cX0_areAlike 10 = .ok (.iload_n 3, 1) := by decide +kernel
theorem dX0_areAlike_11 : decode cX0_areAlike 11 = .ok (.iaload, 1) := by decide +kernel
theorem dX0_areAlike_12 : decode cX0_areAlike 12 = .ok (.if_icmp .ne 18, 3) := by decide +kernel
theorem dX0_areAlike_15 : decode cX0_areAlike 15 = .ok (.aload_n 0, 1) := by decide +kernel
theorem dX0_areAlike_16 : decode cX0_areAlike 16 = .ok (.getfield 41, 3) := by decide +kernel
theorem dX0_areAlike_19 : decode cX0_areAlike 19 = .ok (.iload_n 2, 1) := by decide +kernel
theorem dX0_areAlike_20 : decode cX0_areAlike 20 = .ok (.iaload, 1) := by decide +kernel
theorem dX0_areAlike_21 : decode cX0_areAlike 21 = .ok (.aload_n 0, 1) := by decide +kernel
theorem dX0_areAlike_22 : decode cX0_areAlike 22 = .ok (.getfield 41, 3) := by decide +kernel
theorem dX0_areAlike_25 : decode cX0_areAlike 25 = .ok (.iload_n 3, 1) := by decide +kernel
theorem dX0_areAlike_26 : decode cX0_areAlike 26 = .ok (.iaload, 1) := by decide +kernel
theorem dX0_areAlike_27 : decode cX0_areAlike 27 = .ok (.if_icmp .eq 5, 3) := by decide +kernel
theorem dX0_areAlike_30 : decode cX0_areAlike 30 = .ok (.iconst 0, 1) := by decide +kernel
theorem dX0_areAlike_31 : decode cX0_areAlike 31 = .ok (.ireturn, 1) := by decide +kernel
theorem dX0_areAlike_32 : decode cX0_areAlike 32 = .ok (.aload_n 0, 1) := by decide +kernel
theorem dX0_areAlike_33 : decode cX0_areAlike 33 = .ok (.getfield 18, 3) := by decide +kernel
theorem dX0_areAlike_36 : decode cX0_areAlike 36 = .ok (.iload_n 2, 1) := by decide +kernel
theorem dX0_areAlike_37 : decode cX0_areAlike 37 = .ok (.iaload, 1) := by decide +kernel
theorem dX0_areAlike_38 : decode cX0_areAlike 38 = .ok (.invokestatic 75, 3) := by decide +kernel
theorem dX0_areAlike_41 : decode cX0_areAlike 41 = .ok (.ifCond .eq 41, 3) := by decide +kernel
theorem dX0_areAlike_44 : decode cX0_areAlike 44 = .ok (.aload_n 1, 1) := by decide +kernel
theorem dX0_areAlike_45 : decode cX0_areAlike 45 = .ok (.aload_n 0, 1) := by decide +kernel
theorem dX0_areAlike_46 : decode cX0_areAlike 46 = .ok (.getfield 33, 3) := by decide +kernel
theorem dX0_areAlike_49 : decode cX0_areAlike 49 = .ok (.iload_n 2, 1) := by decide +kernel
theorem dX0_areAlike_50 : decode cX0_areAlike 50 = .ok (.iaload, 1) := by decide +kernel
theorem dX0_areAlike_51 : decode cX0_areAlike 51 = .ok (.iaload, 1) := by decide +kernel
theorem dX0_areAlike_52 : decode cX0_areAlike 52 = .ok (.aload_n 1, 1) := by decide +kernel
theorem dX0_areAlike_53 : decode cX0_areAlike 53 = .ok (.aload_n 0, 1) := by decide +kernel
theorem dX0_areAlike_54 : decode cX0_areAlike 54 = .ok (.getfield 33, 3) := by decide +kernel
theorem dX0_areAlike_57 : decode cX0_areAlike 57 = .ok (.iload_n 3, 1) := by decide +kernel
theorem dX0_areAlike_58 : decode cX0_areAlike 58 = .ok (.iaload, 1) := by decide +kernel
theorem dX0_areAlike_59 : decode cX0_areAlike 59 = .ok (.iaload, 1) := by decide +kernel
theorem dX0_areAlike_60 : decode cX0_areAlike 60 = .ok (.if_icmp .ne 26, 3) := by decide +kernel
theorem dX0_areAlike_63 : decode cX0_areAlike 63 = .ok (.aload_n 1, 1) := by decide +kernel
theorem dX0_areAlike_64 : decode cX0_areAlike 64 = .ok (.aload_n 0, 1) := by decide +kernel
theorem dX0_areAlike_65 : decode cX0_areAlike 65 = .ok (.getfield 37, 3) := by decide +kernel
theorem dX0_areAlike_68 : decode cX0_areAlike 68 = .ok (.iload_n 2, 1) := by decide +kernel
theorem dX0_areAlike_69 : decode cX0_areAlike 69 = .ok (.iaload, 1) := by decide +kernel
theorem dX0_areAlike_70 : decode cX0_areAlike 70 = .ok (.iaload, 1) := by decide +kernel
theorem dX0_areAlike_71 : decode cX0_areAlike 71 = .ok (.aload_n 1, 1) := by decide +kernel
theorem dX0_areAlike_72 : decode cX0_areAlike 72 = .ok (.aload_n 0, 1) := by decide +kernel
theorem dX0_areAlike_73 : decode cX0_areAlike 73 = .ok (.getfield 37, 3) := by decide +kernel
theorem dX0_areAlike_76 : decode cX0_areAlike 76 = .ok (.iload_n 3, 1) := by decide +kernel
theorem dX0_areAlike_77 : decode cX0_areAlike 77 = .ok (.iaload, 1) := by decide +kernel
theorem dX0_areAlike_78 : decode cX0_areAlike 78 = .ok (.iaload, 1) := by decide +kernel
theorem dX0_areAlike_79 : decode cX0_areAlike 79 = .ok (.if_icmp .ne 7, 3) := by decide +kernel
theorem dX0_areAlike_82 : decode cX0_areAlike 82 = .ok (.iconst 1, 1) := by decide +kernel
theorem dX0_areAlike_83 : decode cX0_areAlike 83 = .ok (.goto 4, 3) := by decide +kernel
theorem dX0_areAlike_86 : decode cX0_areAlike 86 = .ok (.iconst 0, 1) := by decide +kernel
theorem dX0_areAlike_87 : decode cX0_areAlike 87 = .ok (.ireturn, 1) := by decide +kernel
theorem dX0_unlikeIn_0 : decode cX0_unlikeIn 0 = .ok (.iconst 0, 1) := by decide +kernel
theorem dX0_unlikeIn_1 : decode cX0_unlikeIn 1 = .ok (.istore_n 1, 1) := by decide +kernel
theorem dX0_unlikeIn_2 : decode cX0_unlikeIn 2 = .ok (.iconst 0, 1) := by decide +kernel
theorem dX0_unlikeIn_3 : decode cX0_unlikeIn 3 = .ok (.istore_n 2, 1) := by decide +kernel
theorem dX0_unlikeIn_4 : decode cX0_unlikeIn 4 = .ok (.iload_n 2, 1) := by decide +kernel
theorem dX0_unlikeIn_5 : decode cX0_unlikeIn 5 = .ok (.aload_n 0, 1) := by decide +kernel
theorem dX0_unlikeIn_6 : decode cX0_unlikeIn 6 = .ok (.arraylength, 1) := by decide +kernel
theorem dX0_unlikeIn_7 : decode cX0_unlikeIn 7 = .ok (.if_icmp .ge 24, 3) := by decide +kernel
theorem dX0_unlikeIn_10 : decode cX0_unlikeIn 10 = .ok (.iload_n 1, 1) := by decide +kernel
theorem dX0_unlikeIn_11 : decode cX0_unlikeIn 11 = .ok (.aload_n 0, 1) := by decide +kernel
theorem dX0_unlikeIn_12 : decode cX0_unlikeIn 12 = .ok (.iload_n 2, 1) := by decide +kernel
theorem dX0_unlikeIn_13 : decode cX0_unlikeIn 13 = .ok (.iaload, 1) := by decide +kernel
theorem dX0_unlikeIn_14 : decode cX0_unlikeIn 14 = .ok (.iload_n 2, 1) := by decide +kernel
theorem dX0_unlikeIn_15 : decode cX0_unlikeIn 15 = .ok (.if_icmp .ne 7, 3) := by decide +kernel
theorem dX0_unlikeIn_18 : decode cX0_unlikeIn 18 = .ok (.iconst 1, 1) := by decide +kernel
theorem dX0_unlikeIn_19 : decode cX0_unlikeIn 19 = .ok (.goto 4, 3) := by decide +kernel
theorem dX0_unlikeIn_22 : decode cX0_unlikeIn 22 = .ok (.iconst 0, 1) := by decide +kernel
theorem dX0_unlikeIn_23 : decode cX0_unlikeIn 23 = .ok (.iadd, 1) := by decide +kernel
theorem dX0_unlikeIn_24 : decode cX0_unlikeIn 24 = .ok (.istore_n 1, 1) := by decide +kernel
theorem dX0_unlikeIn_25 : decode cX0_unlikeIn 25 = .ok (.iinc 2 1, 3) := by decide +kernel
theorem dX0_unlikeIn_28 : decode cX0_unlikeIn 28 = .ok (.goto (-24), 3) := by decide +kernel
theorem dX0_unlikeIn_31 : decode cX0_unlikeIn 31 = .ok (.iload_n 1, 1) := by decide +kernel
theorem dX0_unlikeIn_32 : decode cX0_unlikeIn 32 = .ok (.ireturn, 1) := by decide +kernel
theorem dX1_fromTo_0 : decode cX1_fromTo 0 = .ok (.aload_n 0, 1) := by decide +kernel
theorem dX1_fromTo_1 : decode cX1_fromTo 1 = .ok (.getfield 7, 3) := by decide +kernel
theorem dX1_fromTo_4 : decode cX1_fromTo 4 = .ok (.iload_n 1, 1) := by decide +kernel
theorem dX1_fromTo_5 : decode cX1_fromTo 5 = .ok (.lload_n 2, 1) := by decide +kernel
theorem dX1_fromTo_6 : decode cX1_fromTo 6 = .ok (.lastore, 1) := by decide +kernel
theorem dX1_fromTo_7 : decode cX1_fromTo 7 = .ok (.aload_n 0, 1) := by decide +kernel
theorem dX1_fromTo_8 : decode cX1_fromTo 8 = .ok (.getfield 13, 3) := by decide +kernel
theorem dX1_fromTo_11 : decode cX1_fromTo 11 = .ok (.iload_n 1, 1) := by decide +kernel
theorem dX1_fromTo_12 : decode cX1_fromTo 12 = .ok (.lload 4, 2) := by decide +kernel
theorem dX1_fromTo_14 : decode cX1_fromTo 14 = .ok (.lastore, 1) := by decide +kernel
theorem dX1_fromTo_15 : decode cX1_fromTo 15 = .ok (.aload_n 0, 1) := by decide +kernel
theorem dX1_fromTo_16 : decode cX1_fromTo 16 = .ok (.getfield 16, 3) := by decide +kernel
theorem dX1_fromTo_19 : decode cX1_fromTo 19 = .ok (.iload_n 1, 1) := by decide +kernel
theorem dX1_fromTo_20 : decode cX1_fromTo 20 = .ok (.iconst 0, 1) := by decide +kernel
theorem dX1_fromTo_21 : decode cX1_fromTo 21 = .ok (.bastore, 1) := by decide +kernel
theorem dX1_fromTo_22 : decode cX1_fromTo 22 = .ok (.return_, 1) := by decide +kernel
theorem dX1_less_0 : decode cX1_less 0 = .ok (.aload_n 0, 1) := by decide +kernel
theorem dX1_less_1 : decode cX1_less 1 = .ok (.getfield 16, 3) := by decide +kernel
theorem dX1_less_4 : decode cX1_less 4 = .ok (.iload_n 1, 1) := by decide +kernel
theorem dX1_less_5 : decode cX1_less 5 = .ok (.aload_n 2, 1) := by decide +kernel
theorem dX1_less_6 : decode cX1_less 6 = .ok (.getfield 16, 3) := by decide +kernel
theorem dX1_less_9 : decode cX1_less 9 = .ok (.iload_n 3, 1) := by decide +kernel
theorem dX1_less_10 : decode cX1_less 10 = .ok (.baload, 1) := by decide +kernel
theorem dX1_less_11 : decode cX1_less 11 = .ok (.ifCond .ne 16, 3) := by decide +kernel
theorem dX1_less_14 : decode cX1_less 14 = .ok (.aload_n 2, 1) := by decide +kernel
theorem dX1_less_15 : decode cX1_less 15 = .ok (.getfield 7, 3) := by decide +kernel
theorem dX1_less_18 : decode cX1_less 18 = .ok (.iload_n 3, 1) := by decide +kernel
theorem dX1_less_19 : decode cX1_less 19 = .ok (.laload, 1) := by decide +kernel
theorem dX1_less_20 : decode cX1_less 20 = .ok (.ldc2_w 22, 3) := by decide +kernel
theorem dX1_less_23 : decode cX1_less 23 = .ok (.lcmp, 1) := by decide +kernel
theorem dX1_less_24 : decode cX1_less 24 = .ok (.ifCond .ne 7, 3) := by decide +kernel
theorem dX1_less_27 : decode cX1_less 27 = .ok (.iconst 1, 1) := by decide +kernel
theorem dX1_less_28 : decode cX1_less 28 = .ok (.goto 4, 3) := by decide +kernel
theorem dX1_less_31 : decode cX1_less 31 = .ok (.iconst 0, 1) := by decide +kernel
theorem dX1_less_32 : decode cX1_less 32 = .ok (.bastore, 1) := by decide +kernel
theorem dX1_less_33 : decode cX1_less 33 = .ok (.aload_n 2, 1) := by decide +kernel
theorem dX1_less_34 : decode cX1_less 34 = .ok (.getfield 13, 3) := by decide +kernel
theorem dX1_less_37 : decode cX1_less 37 = .ok (.iload_n 3, 1) := by decide +kernel
theorem dX1_less_38 : decode cX1_less 38 = .ok (.laload, 1) := by decide +kernel
theorem dX1_less_39 : decode cX1_less 39 = .ok (.lneg, 1) := by decide +kernel
theorem dX1_less_40 : decode cX1_less 40 = .ok (.lstore 4, 2) := by decide +kernel
theorem dX1_less_42 : decode cX1_less 42 = .ok (.aload_n 0, 1) := by decide +kernel
theorem dX1_less_43 : decode cX1_less 43 = .ok (.getfield 13, 3) := by decide +kernel
theorem dX1_less_46 : decode cX1_less 46 = .ok (.iload_n 1, 1) := by decide +kernel
theorem dX1_less_47 : decode cX1_less 47 = .ok (.aload_n 2, 1) := by decide +kernel
theorem dX1_less_48 : decode cX1_less 48 = .ok (.getfield 7, 3) := by decide +kernel
theorem dX1_less_51 : decode cX1_less 51 = .ok (.iload_n 3, 1) := by decide +kernel
theorem dX1_less_52 : decode cX1_less 52 = .ok (.laload, 1) := by decide +kernel
theorem dX1_less_53 : decode cX1_less 53 = .ok (.lneg, 1) := by decide +kernel
theorem dX1_less_54 : decode cX1_less 54 = .ok (.lastore, 1) := by decide +kernel
theorem dX1_less_55 : decode cX1_less 55 = .ok (.aload_n 0, 1) := by decide +kernel
theorem dX1_less_56 : decode cX1_less 56 = .ok (.getfield 7, 3) := by decide +kernel
theorem dX1_less_59 : decode cX1_less 59 = .ok (.iload_n 1, 1) := by decide +kernel
theorem dX1_less_60 : decode cX1_less 60 = .ok (.lload 4, 2) := by decide +kernel
theorem dX1_less_62 : decode cX1_less 62 = .ok (.lastore, 1) := by decide +kernel
theorem dX1_less_63 : decode cX1_less 63 = .ok (.return_, 1) := by decide +kernel
theorem dX1_sum_0 : decode cX1_sum 0 = .ok (.aload_n 0, 1) := by decide +kernel
theorem dX1_sum_1 : decode cX1_sum 1 = .ok (.getfield 16, 3) := by decide +kernel
theorem dX1_sum_4 : decode cX1_sum 4 = .ok (.iload_n 1, 1) := by decide +kernel
theorem dX1_sum_5 : decode cX1_sum 5 = .ok (.aload_n 2, 1) := by decide +kernel
theorem dX1_sum_6 : decode cX1_sum 6 = .ok (.getfield 16, 3) := by decide +kernel
theorem dX1_sum_9 : decode cX1_sum 9 = .ok (.iload_n 3, 1) := by decide +kernel
theorem dX1_sum_10 : decode cX1_sum 10 = .ok (.baload, 1) := by decide +kernel
theorem dX1_sum_11 : decode cX1_sum 11 = .ok (.ifCond .ne 54, 3) := by decide +kernel
theorem dX1_sum_14 : decode cX1_sum 14 = .ok (.aload 4, 2) := by decide +kernel
theorem dX1_sum_16 : decode cX1_sum 16 = .ok (.getfield 16, 3) := by decide +kernel
theorem dX1_sum_19 : decode cX1_sum 19 = .ok (.iload 5, 2) := by decide +kernel
theorem dX1_sum_21 : decode cX1_sum 21 = .ok (.baload, 1) := by decide +kernel
theorem dX1_sum_22 : decode cX1_sum 22 = .ok (.ifCond .ne 43, 3) := by decide +kernel
theorem dX1_sum_25 : decode cX1_sum 25 = .ok (.aload_n 2, 1) := by decide +kernel
theorem dX1_sum_26 : decode cX1_sum 26 = .ok (.getfield 7, 3) := by decide +kernel
theorem dX1_sum_29 : decode cX1_sum 29 = .ok (.iload_n 3, 1) := by decide +kernel
theorem dX1_sum_30 : decode cX1_sum 30 = .ok (.laload, 1) := by decide +kernel
theorem dX1_sum_31 : decode cX1_sum 31 = .ok (.aload 4, 2) := by decide +kernel
theorem dX1_sum_33 : decode cX1_sum 33 = .ok (.getfield 7, 3) := by decide +kernel
theorem dX1_sum_36 : decode cX1_sum 36 = .ok (.iload 5, 2) := by decide +kernel
theorem dX1_sum_38 : decode cX1_sum 38 = .ok (.laload, 1) := by decide +kernel
theorem dX1_sum_39 : decode cX1_sum 39 = .ok (.invokestatic 24, 3) := by decide +kernel
theorem dX1_sum_42 : decode cX1_sum 42 = .ok (.ifCond .eq 23, 3) := by decide +kernel
theorem dX1_sum_45 : decode cX1_sum 45 = .ok (.aload_n 2, 1) := by decide +kernel
theorem dX1_sum_46 : decode cX1_sum 46 = .ok (.getfield 13, 3) := by decide +kernel
theorem dX1_sum_49 : decode cX1_sum 49 = .ok (.iload_n 3, 1) := by decide +kernel
theorem dX1_sum_50 : decode cX1_sum 50 = .ok (.laload, 1) := by decide +kernel
theorem dX1_sum_51 : decode cX1_sum 51 = .ok (.aload 4, 2) := by decide +kernel
theorem dX1_sum_53 : decode cX1_sum 53 = .ok (.getfield 13, 3) := by decide +kernel
theorem dX1_sum_56 : decode cX1_sum 56 = .ok (.iload 5, 2) := by decide +kernel
theorem dX1_sum_58 : decode cX1_sum 58 = .ok (.laload, 1) := by decide +kernel
theorem dX1_sum_59 : decode cX1_sum 59 = .ok (.invokestatic 24, 3) := by decide +kernel
theorem dX1_sum_62 : decode cX1_sum 62 = .ok (.ifCond .ne 7, 3) := by decide +kernel
theorem dX1_sum_65 : decode cX1_sum 65 = .ok (.iconst 1, 1) := by decide +kernel
theorem dX1_sum_66 : decode cX1_sum 66 = .ok (.goto 4, 3) := by decide +kernel
theorem dX1_sum_69 : decode cX1_sum 69 = .ok (.iconst 0, 1) := by decide +kernel
theorem dX1_sum_70 : decode cX1_sum 70 = .ok (.bastore, 1) := by decide +kernel
theorem dX1_sum_71 : decode cX1_sum 71 = .ok (.aload_n 0, 1) := by decide +kernel
theorem dX1_sum_72 : decode cX1_sum 72 = .ok (.getfield 7, 3) := by decide +kernel
theorem dX1_sum_75 : decode cX1_sum 75 = .ok (.iload_n 1, 1) := by decide +kernel
theorem dX1_sum_76 : decode cX1_sum 76 = .ok (.aload_n 2, 1) := by decide +kernel
theorem dX1_sum_77 : decode cX1_sum 77 = .ok (.getfield 7, 3) := by decide +kernel
theorem dX1_sum_80 : decode cX1_sum 80 = .ok (.iload_n 3, 1) := by decide +kernel
theorem dX1_sum_81 : decode cX1_sum 81 = .ok (.laload, 1) := by decide +kernel
theorem dX1_sum_82 : decode cX1_sum 82 = .ok (.aload 4, 2) := by decide +kernel
theorem dX1_sum_84 : decode cX1_sum 84 = .ok (.getfield 7, 3) := by decide +kernel
theorem dX1_sum_87 : decode cX1_sum 87 = .ok (.iload 5, 2) := by decide +kernel
theorem dX1_sum_89 : decode cX1_sum 89 = .ok (.laload, 1) := by decide +kernel
theorem dX1_sum_90 : decode cX1_sum 90 = .ok (.ladd, 1) := by decide +kernel
theorem dX1_sum_91 : decode cX1_sum 91 = .ok (.lastore, 1) := by decide +kernel
theorem dX1_sum_92 : decode cX1_sum 92 = .ok (.aload_n 0, 1) := by decide +kernel
theorem dX1_sum_93 : decode cX1_sum 93 = .ok (.getfield 13, 3) := by decide +kernel
theorem dX1_sum_96 : decode cX1_sum 96 = .ok (.iload_n 1, 1) := by decide +kernel
theorem dX1_sum_97 : decode cX1_sum 97 = .ok (.aload_n 2, 1) := by decide +kernel
theorem dX1_sum_98 : decode cX1_sum 98 = .ok (.getfield 13, 3) := by decide +kernel
theorem dX1_sum_101 : decode cX1_sum 101 = .ok (.iload_n 3, 1) := by decide +kernel
theorem dX1_sum_102 : decode cX1_sum 102 = .ok (.laload, 1) := by decide +kernel
theorem dX1_sum_103 : decode cX1_sum 103 = .ok (.aload 4, 2) := by decide +kernel
theorem dX1_sum_105 : decode cX1_sum 105 = .ok (.getfield 13, 3) := by decide +kernel
theorem dX1_sum_108 : decode cX1_sum 108 = .ok (.iload 5, 2) := by decide +kernel
theorem dX1_sum_110 : decode cX1_sum 110 = .ok (.laload, 1) := by decide +kernel
theorem dX1_sum_111 : decode cX1_sum 111 = .ok (.ladd, 1) := by decide +kernel
theorem dX1_sum_112 : decode cX1_sum 112 = .ok (.lastore, 1) := by decide +kernel
theorem dX1_sum_113 : decode cX1_sum 113 = .ok (.return_, 1) := by decide +kernel
theorem dX1_difference_0 : decode cX1_difference 0 = .ok (.aload_n 0, 1) := by decide +kernel
theorem dX1_difference_1 : decode cX1_difference 1 = .ok (.getfield 16, 3) := by decide +kernel
theorem dX1_difference_4 : decode cX1_difference 4 = .ok (.iload_n 1, 1) := by decide +kernel
theorem dX1_difference_5 : decode cX1_difference 5 = .ok (.aload_n 2, 1) := by decide +kernel
theorem dX1_difference_6 : decode cX1_difference 6 = .ok (.getfield 16, 3) := by decide +kernel
theorem dX1_difference_9 : decode cX1_difference 9 = .ok (.iload_n 3, 1) := by decide +kernel
theorem dX1_difference_10 : decode cX1_difference 10 = .ok (.baload, 1) := by decide +kernel
theorem dX1_difference_11 : decode cX1_difference 11 = .ok (.ifCond .ne 54, 3) := by decide +kernel
theorem dX1_difference_14 : decode cX1_difference 14 = .ok (.aload 4, 2) := by decide +kernel
theorem dX1_difference_16 : decode cX1_difference 16 = .ok (.getfield 16, 3) := by decide +kernel
theorem dX1_difference_19 : decode cX1_difference 19 = .ok (.iload 5, 2) := by decide +kernel
theorem dX1_difference_21 : decode cX1_difference 21 = .ok (.baload, 1) := by decide +kernel
theorem dX1_difference_22 : decode cX1_difference 22 = .ok (.ifCond .ne 43, 3) := by decide +kernel
theorem dX1_difference_25 : decode cX1_difference 25 = .ok (.aload_n 2, 1) := by decide +kernel
theorem dX1_difference_26 : decode cX1_difference 26 = .ok (.getfield 7, 3) := by decide +kernel
theorem dX1_difference_29 : decode cX1_difference 29 = .ok (.iload_n 3, 1) := by decide +kernel
theorem dX1_difference_30 : decode cX1_difference 30 = .ok (.laload, 1) := by decide +kernel
theorem dX1_difference_31 : decode cX1_difference 31 = .ok (.aload 4, 2) := by decide +kernel
theorem dX1_difference_33 : decode cX1_difference 33 = .ok (.getfield 13, 3) := by decide +kernel
theorem dX1_difference_36 : decode cX1_difference 36 = .ok (.iload 5, 2) := by decide +kernel
theorem dX1_difference_38 : decode cX1_difference 38 = .ok (.laload, 1) := by decide +kernel
theorem dX1_difference_39 : decode cX1_difference 39 = .ok (.invokestatic 28, 3) := by decide +kernel
theorem dX1_difference_42 : decode cX1_difference 42 = .ok (.ifCond .eq 23, 3) := by decide +kernel
theorem dX1_difference_45 : decode cX1_difference 45 = .ok (.aload_n 2, 1) := by decide +kernel
theorem dX1_difference_46 : decode cX1_difference 46 = .ok (.getfield 13, 3) := by decide +kernel
theorem dX1_difference_49 : decode cX1_difference 49 = .ok (.iload_n 3, 1) := by decide +kernel
theorem dX1_difference_50 : decode cX1_difference 50 = .ok (.laload, 1) := by decide +kernel
theorem dX1_difference_51 : decode cX1_difference 51 = .ok (.aload 4, 2) := by decide +kernel
theorem dX1_difference_53 : decode cX1_difference 53 = .ok (.getfield 7, 3) := by decide +kernel
theorem dX1_difference_56 : decode cX1_difference 56 = .ok (.iload 5, 2) := by decide +kernel
theorem dX1_difference_58 : decode cX1_difference 58 = .ok (.laload, 1) := by decide +kernel
theorem dX1_difference_59 : decode cX1_difference 59 = .ok (.invokestatic 28, 3) := by decide +kernel
theorem dX1_difference_62 : decode cX1_difference 62 = .ok (.ifCond .ne 7, 3) := by decide +kernel
theorem dX1_difference_65 : decode cX1_difference 65 = .ok (.iconst 1, 1) := by decide +kernel
theorem dX1_difference_66 : decode cX1_difference 66 = .ok (.goto 4, 3) := by decide +kernel
theorem dX1_difference_69 : decode cX1_difference 69 = .ok (.iconst 0, 1) := by decide +kernel
theorem dX1_difference_70 : decode cX1_difference 70 = .ok (.bastore, 1) := by decide +kernel
theorem dX1_difference_71 : decode cX1_difference 71 = .ok (.aload_n 0, 1) := by decide +kernel
theorem dX1_difference_72 : decode cX1_difference 72 = .ok (.getfield 7, 3) := by decide +kernel
theorem dX1_difference_75 : decode cX1_difference 75 = .ok (.iload_n 1, 1) := by decide +kernel
theorem dX1_difference_76 : decode cX1_difference 76 = .ok (.aload_n 2, 1) := by decide +kernel
theorem dX1_difference_77 : decode cX1_difference 77 = .ok (.getfield 7, 3) := by decide +kernel
theorem dX1_difference_80 : decode cX1_difference 80 = .ok (.iload_n 3, 1) := by decide +kernel
theorem dX1_difference_81 : decode cX1_difference 81 = .ok (.laload, 1) := by decide +kernel
theorem dX1_difference_82 : decode cX1_difference 82 = .ok (.aload 4, 2) := by decide +kernel
theorem dX1_difference_84 : decode cX1_difference 84 = .ok (.getfield 13, 3) := by decide +kernel
theorem dX1_difference_87 : decode cX1_difference 87 = .ok (.iload 5, 2) := by decide +kernel
theorem dX1_difference_89 : decode cX1_difference 89 = .ok (.laload, 1) := by decide +kernel
theorem dX1_difference_90 : decode cX1_difference 90 = .ok (.lsub, 1) := by decide +kernel
theorem dX1_difference_91 : decode cX1_difference 91 = .ok (.lastore, 1) := by decide +kernel
theorem dX1_difference_92 : decode cX1_difference 92 = .ok (.aload_n 0, 1) := by decide +kernel
theorem dX1_difference_93 : decode cX1_difference 93 = .ok (.getfield 13, 3) := by decide +kernel
theorem dX1_difference_96 : decode cX1_difference 96 = .ok (.iload_n 1, 1) := by decide +kernel
theorem dX1_difference_97 : decode cX1_difference 97 = .ok (.aload_n 2, 1) := by decide +kernel
theorem dX1_difference_98 : decode cX1_difference 98 = .ok (.getfield 13, 3) := by decide +kernel
theorem dX1_difference_101 : decode cX1_difference 101 = .ok (.iload_n 3, 1) := by decide +kernel
theorem dX1_difference_102 : decode cX1_difference 102 = .ok (.laload, 1) := by decide +kernel
theorem dX1_difference_103 : decode cX1_difference 103 = .ok (.aload 4, 2) := by decide +kernel
theorem dX1_difference_105 : decode cX1_difference 105 = .ok (.getfield 7, 3) := by decide +kernel
theorem dX1_difference_108 : decode cX1_difference 108 = .ok (.iload 5, 2) := by decide +kernel
theorem dX1_difference_110 : decode cX1_difference 110 = .ok (.laload, 1) := by decide +kernel
theorem dX1_difference_111 : decode cX1_difference 111 = .ok (.lsub, 1) := by decide +kernel
theorem dX1_difference_112 : decode cX1_difference 112 = .ok (.lastore, 1) := by decide +kernel
theorem dX1_difference_113 : decode cX1_difference 113 = .ok (.return_, 1) := by decide +kernel
theorem dX1_product_0 : decode cX1_product 0 = .ok (.aload_n 2, 1) := by decide +kernel
theorem dX1_product_1 : decode cX1_product 1 = .ok (.getfield 7, 3) := by decide +kernel
theorem dX1_product_4 : decode cX1_product 4 = .ok (.iload_n 3, 1) := by decide +kernel
theorem dX1_product_5 : decode cX1_product 5 = .ok (.laload, 1) := by decide +kernel
theorem dX1_product_6 : decode cX1_product 6 = .ok (.lstore 6, 2) := by decide +kernel
theorem dX1_product_8 : decode cX1_product 8 = .ok (.aload_n 2, 1) := by decide +kernel
theorem dX1_product_9 : decode cX1_product 9 = .ok (.getfield 13, 3) := by decide +kernel
theorem dX1_product_12 : decode cX1_product 12 = .ok (.iload_n 3, 1) := by decide +kernel
theorem dX1_product_13 : decode cX1_product 13 = .ok (.laload, 1) := by decide +kernel
theorem dX1_product_14 : decode cX1_product 14 = .ok (.lstore 8, 2) := by decide +kernel
theorem dX1_product_16 : decode cX1_product 16 = .ok (.aload 4, 2) := by decide +kernel
theorem dX1_product_18 : decode cX1_product 18 = .ok (.getfield 7, 3) := by decide +kernel
theorem dX1_product_21 : decode cX1_product 21 = .ok (.iload 5, 2) := by decide +kernel
theorem dX1_product_23 : decode cX1_product 23 = .ok (.laload, 1) := by decide +kernel
theorem dX1_product_24 : decode cX1_product 24 = .ok (.lstore 10, 2) := by decide +kernel
theorem dX1_product_26 : decode cX1_product 26 = .ok (.aload 4, 2) := by decide +kernel
theorem dX1_product_28 : decode cX1_product 28 = .ok (.getfield 13, 3) := by decide +kernel
theorem dX1_product_31 : decode cX1_product 31 = .ok (.iload 5, 2) := by decide +kernel
theorem dX1_product_33 : decode cX1_product 33 = .ok (.laload, 1) := by decide +kernel
theorem dX1_product_34 : decode cX1_product 34 = .ok (.lstore 12, 2) := by decide +kernel
theorem dX1_product_36 : decode cX1_product 36 = .ok (.aload_n 0, 1) := by decide +kernel
theorem dX1_product_37 : decode cX1_product 37 = .ok (.getfield 16, 3) := by decide +kernel
theorem dX1_product_40 : decode cX1_product 40 = .ok (.iload_n 1, 1) := by decide +kernel
theorem dX1_product_41 : decode cX1_product 41 = .ok (.aload_n 2, 1) := by decide +kernel
theorem dX1_product_42 : decode cX1_product 42 = .ok (.getfield 16, 3) := by decide +kernel
theorem dX1_product_45 : decode cX1_product 45 = .ok (.iload_n 3, 1) := by decide +kernel
theorem dX1_product_46 : decode cX1_product 46 = .ok (.baload, 1) := by decide +kernel
theorem dX1_product_47 : decode cX1_product 47 = .ok (.ifCond .ne 54, 3) := by decide +kernel
theorem dX1_product_50 : decode cX1_product 50 = .ok (.aload 4, 2) := by decide +kernel
theorem dX1_product_52 : decode cX1_product 52 = .ok (.getfield 16, 3) := by decide +kernel
theorem dX1_product_55 : decode cX1_product 55 = .ok (.iload 5, 2) := by decide +kernel
theorem dX1_product_57 : decode cX1_product 57 = .ok (.baload, 1) := by decide +kernel
theorem dX1_product_58 : decode cX1_product 58 = .ok (.ifCond .ne 43, 3) := by decide +kernel
theorem dX1_product_61 : decode cX1_product 61 = .ok (.lload 6, 2) := by decide +kernel
theorem dX1_product_63 : decode cX1_product 63 = .ok (.lload 10, 2) := by decide +kernel
theorem dX1_product_65 : decode cX1_product 65 = .ok (.invokestatic 31, 3) := by decide +kernel
theorem dX1_product_68 : decode cX1_product 68 = .ok (.ifCond .eq 33, 3) := by decide +kernel
theorem dX1_product_71 : decode cX1_product 71 = .ok (.lload 6, 2) := by decide +kernel
theorem dX1_product_73 : decode cX1_product 73 = .ok (.lload 12, 2) := by decide +kernel
theorem dX1_product_75 : decode cX1_product 75 = .ok (.invokestatic 31, 3) := by decide +kernel
theorem dX1_product_78 : decode cX1_product 78 = .ok (.ifCond .eq 23, 3) := by decide +kernel
theorem dX1_product_81 : decode cX1_product 81 = .ok (.lload 8, 2) := by decide +kernel
theorem dX1_product_83 : decode cX1_product 83 = .ok (.lload 10, 2) := by decide +kernel
theorem dX1_product_85 : decode cX1_product 85 = .ok (.invokestatic 31, 3) := by decide +kernel
theorem dX1_product_88 : decode cX1_product 88 = .ok (.ifCond .eq 13, 3) := by decide +kernel
theorem dX1_product_91 : decode cX1_product 91 = .ok (.lload 8, 2) := by decide +kernel
theorem dX1_product_93 : decode cX1_product 93 = .ok (.lload 12, 2) := by decide +kernel
theorem dX1_product_95 : decode cX1_product 95 = .ok (.invokestatic 31, 3) := by decide +kernel
theorem dX1_product_98 : decode cX1_product 98 = .ok (.ifCond .ne 7, 3) := by decide +kernel
theorem dX1_product_101 : decode cX1_product 101 = .ok (.iconst 1, 1) := by decide +kernel
theorem dX1_product_102 : decode cX1_product 102 = .ok (.goto 4, 3) := by decide +kernel
theorem dX1_product_105 : decode cX1_product 105 = .ok (.iconst 0, 1) := by decide +kernel
theorem dX1_product_106 : decode cX1_product 106 = .ok (.bastore, 1) := by decide +kernel
theorem dX1_product_107 : decode cX1_product 107 = .ok (.aload_n 0, 1) := by decide +kernel
theorem dX1_product_108 : decode cX1_product 108 = .ok (.getfield 7, 3) := by decide +kernel
theorem dX1_product_111 : decode cX1_product 111 = .ok (.iload_n 1, 1) := by decide +kernel
theorem dX1_product_112 : decode cX1_product 112 = .ok (.lload 6, 2) := by decide +kernel
theorem dX1_product_114 : decode cX1_product 114 = .ok (.lload 10, 2) := by decide +kernel
theorem dX1_product_116 : decode cX1_product 116 = .ok (.lmul, 1) := by decide +kernel
theorem dX1_product_117 : decode cX1_product 117 = .ok (.lload 6, 2) := by decide +kernel
theorem dX1_product_119 : decode cX1_product 119 = .ok (.lload 12, 2) := by decide +kernel
theorem dX1_product_121 : decode cX1_product 121 = .ok (.lmul, 1) := by decide +kernel
theorem dX1_product_122 : decode cX1_product 122 = .ok (.invokestatic 34, 3) := by decide +kernel
theorem dX1_product_125 : decode cX1_product 125 = .ok (.lload 8, 2) := by decide +kernel
theorem dX1_product_127 : decode cX1_product 127 = .ok (.lload 10, 2) := by decide +kernel
theorem dX1_product_129 : decode cX1_product 129 = .ok (.lmul, 1) := by decide +kernel
theorem dX1_product_130 : decode cX1_product 130 = .ok (.lload 8, 2) := by decide +kernel
theorem dX1_product_132 : decode cX1_product 132 = .ok (.lload 12, 2) := by decide +kernel
theorem dX1_product_134 : decode cX1_product 134 = .ok (.lmul, 1) := by decide +kernel
theorem dX1_product_135 : decode cX1_product 135 = .ok (.invokestatic 34, 3) := by decide +kernel
theorem dX1_product_138 : decode cX1_product 138 = .ok (.invokestatic 34, 3) := by decide +kernel
theorem dX1_product_141 : decode cX1_product 141 = .ok (.lastore, 1) := by decide +kernel
theorem dX1_product_142 : decode cX1_product 142 = .ok (.aload_n 0, 1) := by decide +kernel
theorem dX1_product_143 : decode cX1_product 143 = .ok (.getfield 13, 3) := by decide +kernel
theorem dX1_product_146 : decode cX1_product 146 = .ok (.iload_n 1, 1) := by decide +kernel
theorem dX1_product_147 : decode cX1_product 147 = .ok (.lload 6, 2) := by decide +kernel
theorem dX1_product_149 : decode cX1_product 149 = .ok (.lload 10, 2) := by decide +kernel
theorem dX1_product_151 : decode cX1_product 151 = .ok (.lmul, 1) := by decide +kernel
theorem dX1_product_152 : decode cX1_product 152 = .ok (.lload 6, 2) := by decide +kernel
theorem dX1_product_154 : decode cX1_product 154 = .ok (.lload 12, 2) := by decide +kernel
theorem dX1_product_156 : decode cX1_product 156 = .ok (.lmul, 1) := by decide +kernel
theorem dX1_product_157 : decode cX1_product 157 = .ok (.invokestatic 40, 3) := by decide +kernel
theorem dX1_product_160 : decode cX1_product 160 = .ok (.lload 8, 2) := by decide +kernel
theorem dX1_product_162 : decode cX1_product 162 = .ok (.lload 10, 2) := by decide +kernel
theorem dX1_product_164 : decode cX1_product 164 = .ok (.lmul, 1) := by decide +kernel
theorem dX1_product_165 : decode cX1_product 165 = .ok (.lload 8, 2) := by decide +kernel
theorem dX1_product_167 : decode cX1_product 167 = .ok (.lload 12, 2) := by decide +kernel
theorem dX1_product_169 : decode cX1_product 169 = .ok (.lmul, 1) := by decide +kernel
theorem dX1_product_170 : decode cX1_product 170 = .ok (.invokestatic 40, 3) := by decide +kernel
theorem dX1_product_173 : decode cX1_product 173 = .ok (.invokestatic 40, 3) := by decide +kernel
theorem dX1_product_176 : decode cX1_product 176 = .ok (.lastore, 1) := by decide +kernel
theorem dX1_product_177 : decode cX1_product 177 = .ok (.return_, 1) := by decide +kernel
theorem dX1_sumFits_0 : decode cX1_sumFits 0 = .ok (.lload_n 2, 1) := by decide +kernel
theorem dX1_sumFits_1 : decode cX1_sumFits 1 = .ok (.lconst 0, 1) := by decide +kernel
theorem dX1_sumFits_2 : decode cX1_sumFits 2 = .ok (.lcmp, 1) := by decide +kernel
theorem dX1_sumFits_3 : decode cX1_sumFits 3 = .ok (.ifCond .lt 21, 3) := by decide +kernel
theorem dX1_sumFits_6 : decode cX1_sumFits 6 = .ok (.lload_n 0, 1) := by decide +kernel
theorem dX1_sumFits_7 : decode cX1_sumFits 7 = .ok (.ldc2_w 43, 3) := by decide +kernel
theorem dX1_sumFits_10 : decode cX1_sumFits 10 = .ok (.lload_n 2, 1) := by decide +kernel
theorem dX1_sumFits_11 : decode cX1_sumFits 11 = .ok (.lsub, 1) := by decide +kernel
theorem dX1_sumFits_12 : decode cX1_sumFits 12 = .ok (.lcmp, 1) := by decide +kernel
theorem dX1_sumFits_13 : decode cX1_sumFits 13 = .ok (.ifCond .gt 7, 3) := by decide +kernel
theorem dX1_sumFits_16 : decode cX1_sumFits 16 = .ok (.iconst 1, 1) := by decide +kernel
theorem dX1_sumFits_17 : decode cX1_sumFits 17 = .ok (.goto 22, 3) := by decide +kernel
theorem dX1_sumFits_20 : decode cX1_sumFits 20 = .ok (.iconst 0, 1) := by decide +kernel
theorem dX1_sumFits_21 : decode cX1_sumFits 21 = .ok (.goto 18, 3) := by decide +kernel
theorem dX1_sumFits_24 : decode cX1_sumFits 24 = .ok (.lload_n 0, 1) := by decide +kernel
theorem dX1_sumFits_25 : decode cX1_sumFits 25 = .ok (.ldc2_w 22, 3) := by decide +kernel
theorem dX1_sumFits_28 : decode cX1_sumFits 28 = .ok (.lload_n 2, 1) := by decide +kernel
theorem dX1_sumFits_29 : decode cX1_sumFits 29 = .ok (.lsub, 1) := by decide +kernel
theorem dX1_sumFits_30 : decode cX1_sumFits 30 = .ok (.lcmp, 1) := by decide +kernel
theorem dX1_sumFits_31 : decode cX1_sumFits 31 = .ok (.ifCond .lt 7, 3) := by decide +kernel
theorem dX1_sumFits_34 : decode cX1_sumFits 34 = .ok (.iconst 1, 1) := by decide +kernel
theorem dX1_sumFits_35 : decode cX1_sumFits 35 = .ok (.goto 4, 3) := by decide +kernel
theorem dX1_sumFits_38 : decode cX1_sumFits 38 = .ok (.iconst 0, 1) := by decide +kernel
theorem dX1_sumFits_39 : decode cX1_sumFits 39 = .ok (.ireturn, 1) := by decide +kernel
theorem dX1_differenceFits_0 : decode cX1_differenceFits 0 = .ok (.lload_n 2, 1) := by decide +kernel
theorem dX1_differenceFits_1 : decode cX1_differenceFits 1 = .ok (.lconst 0, 1) := by decide +kernel
theorem dX1_differenceFits_2 : decode cX1_differenceFits 2 = .ok (.lcmp, 1) := by decide +kernel
theorem dX1_differenceFits_3 : decode cX1_differenceFits 3 = .ok (.ifCond .lt 21, 3) := by decide +kernel
theorem dX1_differenceFits_6 : decode cX1_differenceFits 6 = .ok (.lload_n 0, 1) := by decide +kernel
theorem dX1_differenceFits_7 : decode cX1_differenceFits 7 = .ok (.ldc2_w 22, 3) := by decide +kernel
theorem dX1_differenceFits_10 : decode cX1_differenceFits 10 = .ok (.lload_n 2, 1) := by decide +kernel
theorem dX1_differenceFits_11 : decode cX1_differenceFits 11 = .ok (.ladd, 1) := by decide +kernel
theorem dX1_differenceFits_12 : decode cX1_differenceFits 12 = .ok (.lcmp, 1) := by decide +kernel
theorem dX1_differenceFits_13 : decode cX1_differenceFits 13 = .ok (.ifCond .lt 7, 3) := by decide +kernel
theorem dX1_differenceFits_16 : decode cX1_differenceFits 16 = .ok (.iconst 1, 1) := by decide +kernel
theorem dX1_differenceFits_17 : decode cX1_differenceFits 17 = .ok (.goto 22, 3) := by decide +kernel
theorem dX1_differenceFits_20 : decode cX1_differenceFits 20 = .ok (.iconst 0, 1) := by decide +kernel
theorem dX1_differenceFits_21 : decode cX1_differenceFits 21 = .ok (.goto 18, 3) := by decide +kernel
theorem dX1_differenceFits_24 : decode cX1_differenceFits 24 = .ok (.lload_n 0, 1) := by decide +kernel
theorem dX1_differenceFits_25 : decode cX1_differenceFits 25 = .ok (.ldc2_w 43, 3) := by decide +kernel
theorem dX1_differenceFits_28 : decode cX1_differenceFits 28 = .ok (.lload_n 2, 1) := by decide +kernel
theorem dX1_differenceFits_29 : decode cX1_differenceFits 29 = .ok (.ladd, 1) := by decide +kernel
theorem dX1_differenceFits_30 : decode cX1_differenceFits 30 = .ok (.lcmp, 1) := by decide +kernel
theorem dX1_differenceFits_31 : decode cX1_differenceFits 31 = .ok (.ifCond .gt 7, 3) := by decide +kernel
theorem dX1_differenceFits_34 : decode cX1_differenceFits 34 = .ok (.iconst 1, 1) := by decide +kernel
theorem dX1_differenceFits_35 : decode cX1_differenceFits 35 = .ok (.goto 4, 3) := by decide +kernel
theorem dX1_differenceFits_38 : decode cX1_differenceFits 38 = .ok (.iconst 0, 1) := by decide +kernel
theorem dX1_differenceFits_39 : decode cX1_differenceFits 39 = .ok (.ireturn, 1) := by decide +kernel
theorem dX1_productFits_0 : decode cX1_productFits 0 = .ok (.lload_n 0, 1) := by decide +kernel
theorem dX1_productFits_1 : decode cX1_productFits 1 = .ok (.lload_n 0, 1) := by decide +kernel
theorem dX1_productFits_2 : decode cX1_productFits 2 = .ok (.l2i, 1) := by decide +kernel
theorem dX1_productFits_3 : decode cX1_productFits 3 = .ok (.i2l, 1) := by decide +kernel
theorem dX1_productFits_4 : decode cX1_productFits 4 = .ok (.lcmp, 1) := by decide +kernel
theorem dX1_productFits_5 : decode cX1_productFits 5 = .ok (.ifCond .ne 15, 3) := by decide +kernel
theorem dX1_productFits_8 : decode cX1_productFits 8 = .ok (.lload_n 2, 1) := by decide +kernel
theorem dX1_productFits_9 : decode cX1_productFits 9 = .ok (.lload_n 2, 1) := by decide +kernel
theorem dX1_productFits_10 : decode cX1_productFits 10 = .ok (.l2i, 1) := by decide +kernel
theorem dX1_productFits_11 : decode cX1_productFits 11 = .ok (.i2l, 1) := by decide +kernel
theorem dX1_productFits_12 : decode cX1_productFits 12 = .ok (.lcmp, 1) := by decide +kernel
theorem dX1_productFits_13 : decode cX1_productFits 13 = .ok (.ifCond .ne 7, 3) := by decide +kernel
theorem dX1_productFits_16 : decode cX1_productFits 16 = .ok (.iconst 1, 1) := by decide +kernel
theorem dX1_productFits_17 : decode cX1_productFits 17 = .ok (.goto 4, 3) := by decide +kernel
theorem dX1_productFits_20 : decode cX1_productFits 20 = .ok (.iconst 0, 1) := by decide +kernel
theorem dX1_productFits_21 : decode cX1_productFits 21 = .ok (.istore 4, 2) := by decide +kernel
theorem dX1_productFits_23 : decode cX1_productFits 23 = .ok (.iload 4, 2) := by decide +kernel
theorem dX1_productFits_25 : decode cX1_productFits 25 = .ok (.ifCond .ne 9, 3) := by decide +kernel
theorem dX1_productFits_28 : decode cX1_productFits 28 = .ok (.lload_n 0, 1) := by decide +kernel
theorem dX1_productFits_29 : decode cX1_productFits 29 = .ok (.lconst 0, 1) := by decide +kernel
theorem dX1_productFits_30 : decode cX1_productFits 30 = .ok (.lcmp, 1) := by decide +kernel
theorem dX1_productFits_31 : decode cX1_productFits 31 = .ok (.ifCond .ne 5, 3) := by decide +kernel
theorem dX1_productFits_34 : decode cX1_productFits 34 = .ok (.iconst 1, 1) := by decide +kernel
theorem dX1_productFits_35 : decode cX1_productFits 35 = .ok (.ireturn, 1) := by decide +kernel
theorem dX1_productFits_36 : decode cX1_productFits 36 = .ok (.lload_n 0, 1) := by decide +kernel
theorem dX1_productFits_37 : decode cX1_productFits 37 = .ok (.ldc2_w 45, 3) := by decide +kernel
theorem dX1_productFits_40 : decode cX1_productFits 40 = .ok (.lcmp, 1) := by decide +kernel
theorem dX1_productFits_41 : decode cX1_productFits 41 = .ok (.ifCond .ne 19, 3) := by decide +kernel
theorem dX1_productFits_44 : decode cX1_productFits 44 = .ok (.lload_n 2, 1) := by decide +kernel
theorem dX1_productFits_45 : decode cX1_productFits 45 = .ok (.ldc2_w 22, 3) := by decide +kernel
theorem dX1_productFits_48 : decode cX1_productFits 48 = .ok (.lcmp, 1) := by decide +kernel
theorem dX1_productFits_49 : decode cX1_productFits 49 = .ok (.ifCond .eq 7, 3) := by decide +kernel
theorem dX1_productFits_52 : decode cX1_productFits 52 = .ok (.iconst 1, 1) := by decide +kernel
theorem dX1_productFits_53 : decode cX1_productFits 53 = .ok (.goto 22, 3) := by decide +kernel
theorem dX1_productFits_56 : decode cX1_productFits 56 = .ok (.iconst 0, 1) := by decide +kernel
theorem dX1_productFits_57 : decode cX1_productFits 57 = .ok (.goto 18, 3) := by decide +kernel
theorem dX1_productFits_60 : decode cX1_productFits 60 = .ok (.lload_n 0, 1) := by decide +kernel
theorem dX1_productFits_61 : decode cX1_productFits 61 = .ok (.lload_n 2, 1) := by decide +kernel
theorem dX1_productFits_62 : decode cX1_productFits 62 = .ok (.lmul, 1) := by decide +kernel
theorem dX1_productFits_63 : decode cX1_productFits 63 = .ok (.lload_n 0, 1) := by decide +kernel
theorem dX1_productFits_64 : decode cX1_productFits 64 = .ok (.ldiv, 1) := by decide +kernel
theorem dX1_productFits_65 : decode cX1_productFits 65 = .ok (.lload_n 2, 1) := by decide +kernel
theorem dX1_productFits_66 : decode cX1_productFits 66 = .ok (.lcmp, 1) := by decide +kernel
theorem dX1_productFits_67 : decode cX1_productFits 67 = .ok (.ifCond .ne 7, 3) := by decide +kernel
theorem dX1_productFits_70 : decode cX1_productFits 70 = .ok (.iconst 1, 1) := by decide +kernel
theorem dX1_productFits_71 : decode cX1_productFits 71 = .ok (.goto 4, 3) := by decide +kernel
theorem dX1_productFits_74 : decode cX1_productFits 74 = .ok (.iconst 0, 1) := by decide +kernel
theorem dX1_productFits_75 : decode cX1_productFits 75 = .ok (.ireturn, 1) := by decide +kernel
theorem dX2_rowOf_0 : decode cX2_rowOf 0 = .ok (.iload_n 1, 1) := by decide +kernel
theorem dX2_rowOf_1 : decode cX2_rowOf 1 = .ok (.ifCond .ne 10, 3) := by decide +kernel
theorem dX2_rowOf_4 : decode cX2_rowOf 4 = .ok (.aload_n 0, 1) := by decide +kernel
theorem dX2_rowOf_5 : decode cX2_rowOf 5 = .ok (.getfield 9, 3) := by decide +kernel
theorem dX2_rowOf_8 : decode cX2_rowOf 8 = .ok (.goto 19, 3) := by decide +kernel
theorem dX2_rowOf_11 : decode cX2_rowOf 11 = .ok (.iload_n 1, 1) := by decide +kernel
theorem dX2_rowOf_12 : decode cX2_rowOf 12 = .ok (.iconst 1, 1) := by decide +kernel
theorem dX2_rowOf_13 : decode cX2_rowOf 13 = .ok (.if_icmp .ne 10, 3) := by decide +kernel
theorem dX2_rowOf_16 : decode cX2_rowOf 16 = .ok (.aload_n 0, 1) := by decide +kernel
theorem dX2_rowOf_17 : decode cX2_rowOf 17 = .ok (.getfield 15, 3) := by decide +kernel
theorem dX2_rowOf_20 : decode cX2_rowOf 20 = .ok (.goto 7, 3) := by decide +kernel
theorem dX2_rowOf_23 : decode cX2_rowOf 23 = .ok (.aload_n 0, 1) := by decide +kernel
theorem dX2_rowOf_24 : decode cX2_rowOf 24 = .ok (.getfield 18, 3) := by decide +kernel
theorem dX2_rowOf_27 : decode cX2_rowOf 27 = .ok (.areturn, 1) := by decide +kernel
theorem dX2_lowOf_0 : decode cX2_lowOf 0 = .ok (.aload_n 0, 1) := by decide +kernel
theorem dX2_lowOf_1 : decode cX2_lowOf 1 = .ok (.getfield 9, 3) := by decide +kernel
theorem dX2_lowOf_4 : decode cX2_lowOf 4 = .ok (.iload_n 1, 1) := by decide +kernel
theorem dX2_lowOf_5 : decode cX2_lowOf 5 = .ok (.iaload, 1) := by decide +kernel
theorem dX2_lowOf_6 : decode cX2_lowOf 6 = .ok (.aload_n 0, 1) := by decide +kernel
theorem dX2_lowOf_7 : decode cX2_lowOf 7 = .ok (.getfield 15, 3) := by decide +kernel
theorem dX2_lowOf_10 : decode cX2_lowOf 10 = .ok (.iload_n 1, 1) := by decide +kernel
theorem dX2_lowOf_11 : decode cX2_lowOf 11 = .ok (.iaload, 1) := by decide +kernel
theorem dX2_lowOf_12 : decode cX2_lowOf 12 = .ok (.isub, 1) := by decide +kernel
theorem dX2_lowOf_13 : decode cX2_lowOf 13 = .ok (.ireturn, 1) := by decide +kernel
theorem dX2_highOf_0 : decode cX2_highOf 0 = .ok (.aload_n 0, 1) := by decide +kernel
theorem dX2_highOf_1 : decode cX2_highOf 1 = .ok (.getfield 9, 3) := by decide +kernel
theorem dX2_highOf_4 : decode cX2_highOf 4 = .ok (.iload_n 1, 1) := by decide +kernel
theorem dX2_highOf_5 : decode cX2_highOf 5 = .ok (.iaload, 1) := by decide +kernel
theorem dX2_highOf_6 : decode cX2_highOf 6 = .ok (.aload_n 0, 1) := by decide +kernel
theorem dX2_highOf_7 : decode cX2_highOf 7 = .ok (.getfield 15, 3) := by decide +kernel
theorem dX2_highOf_10 : decode cX2_highOf 10 = .ok (.iload_n 1, 1) := by decide +kernel
theorem dX2_highOf_11 : decode cX2_highOf 11 = .ok (.iaload, 1) := by decide +kernel
theorem dX2_highOf_12 : decode cX2_highOf 12 = .ok (.iadd, 1) := by decide +kernel
theorem dX2_highOf_13 : decode cX2_highOf 13 = .ok (.ireturn, 1) := by decide +kernel
theorem dX2_costOf_0 : decode cX2_costOf 0 = .ok (.iconst 0, 1) := by decide +kernel
theorem dX2_costOf_1 : decode cX2_costOf 1 = .ok (.istore_n 2, 1) := by decide +kernel
theorem dX2_costOf_2 : decode cX2_costOf 2 = .ok (.iconst 0, 1) := by decide +kernel
theorem dX2_costOf_3 : decode cX2_costOf 3 = .ok (.istore_n 3, 1) := by decide +kernel
theorem dX2_costOf_4 : decode cX2_costOf 4 = .ok (.iload_n 3, 1) := by decide +kernel
theorem dX2_costOf_5 : decode cX2_costOf 5 = .ok (.bipush 6, 2) := by decide +kernel
theorem dX2_costOf_7 : decode cX2_costOf 7 = .ok (.if_icmp .ge 31, 3) := by decide +kernel
theorem dX2_costOf_10 : decode cX2_costOf 10 = .ok (.iload_n 2, 1) := by decide +kernel
theorem dX2_costOf_11 : decode cX2_costOf 11 = .ok (.iload_n 1, 1) := by decide +kernel
theorem dX2_costOf_12 : decode cX2_costOf 12 = .ok (.iload_n 3, 1) := by decide +kernel
theorem dX2_costOf_13 : decode cX2_costOf 13 = .ok (.ishr, 1) := by decide +kernel
theorem dX2_costOf_14 : decode cX2_costOf 14 = .ok (.iconst 1, 1) := by decide +kernel
theorem dX2_costOf_15 : decode cX2_costOf 15 = .ok (.iand, 1) := by decide +kernel
theorem dX2_costOf_16 : decode cX2_costOf 16 = .ok (.iconst 1, 1) := by decide +kernel
theorem dX2_costOf_17 : decode cX2_costOf 17 = .ok (.if_icmp .ne 12, 3) := by decide +kernel
theorem dX2_costOf_20 : decode cX2_costOf 20 = .ok (.aload_n 0, 1) := by decide +kernel
theorem dX2_costOf_21 : decode cX2_costOf 21 = .ok (.getfield 18, 3) := by decide +kernel
theorem dX2_costOf_24 : decode cX2_costOf 24 = .ok (.iload_n 3, 1) := by decide +kernel
theorem dX2_costOf_25 : decode cX2_costOf 25 = .ok (.iaload, 1) := by decide +kernel
theorem dX2_costOf_26 : decode cX2_costOf 26 = .ok (.goto 4, 3) := by decide +kernel
theorem dX2_costOf_29 : decode cX2_costOf 29 = .ok (.iconst 0, 1) := by decide +kernel
theorem dX2_costOf_30 : decode cX2_costOf 30 = .ok (.iadd, 1) := by decide +kernel
theorem dX2_costOf_31 : decode cX2_costOf 31 = .ok (.istore_n 2, 1) := by decide +kernel
theorem dX2_costOf_32 : decode cX2_costOf 32 = .ok (.iinc 3 1, 3) := by decide +kernel
theorem dX2_costOf_35 : decode cX2_costOf 35 = .ok (.goto (-31), 3) := by decide +kernel
theorem dX2_costOf_38 : decode cX2_costOf 38 = .ok (.iload_n 2, 1) := by decide +kernel
theorem dX2_costOf_39 : decode cX2_costOf 39 = .ok (.ireturn, 1) := by decide +kernel
theorem dX2_spanBehind_0 : decode cX2_spanBehind 0 = .ok (.aload_n 0, 1) := by decide +kernel
theorem dX2_spanBehind_1 : decode cX2_spanBehind 1 = .ok (.getfield 34, 3) := by decide +kernel
theorem dX2_spanBehind_4 : decode cX2_spanBehind 4 = .ok (.iload_n 1, 1) := by decide +kernel
theorem dX2_spanBehind_5 : decode cX2_spanBehind 5 = .ok (.iaload, 1) := by decide +kernel
theorem dX2_spanBehind_6 : decode cX2_spanBehind 6 = .ok (.lookupswitch 42 #[(1, 26), (2, 33)], 26) := by decide +kernel
theorem dX2_spanBehind_32 : decode cX2_spanBehind 32 = .ok (.aload_n 0, 1) := by decide +kernel
theorem dX2_spanBehind_33 : decode cX2_spanBehind 33 = .ok (.getfield 37, 3) := by decide +kernel
theorem dX2_spanBehind_36 : decode cX2_spanBehind 36 = .ok (.iload_n 1, 1) := by decide +kernel
theorem dX2_spanBehind_37 : decode cX2_spanBehind 37 = .ok (.iaload, 1) := by decide +kernel
theorem dX2_spanBehind_38 : decode cX2_spanBehind 38 = .ok (.ireturn, 1) := by decide +kernel
theorem dX2_spanBehind_39 : decode cX2_spanBehind 39 = .ok (.iload_n 2, 1) := by decide +kernel
theorem dX2_spanBehind_40 : decode cX2_spanBehind 40 = .ok (.aload_n 0, 1) := by decide +kernel
theorem dX2_spanBehind_41 : decode cX2_spanBehind 41 = .ok (.getfield 37, 3) := by decide +kernel
theorem dX2_spanBehind_44 : decode cX2_spanBehind 44 = .ok (.iload_n 1, 1) := by decide +kernel
theorem dX2_spanBehind_45 : decode cX2_spanBehind 45 = .ok (.iaload, 1) := by decide +kernel
theorem dX2_spanBehind_46 : decode cX2_spanBehind 46 = .ok (.ishr, 1) := by decide +kernel
theorem dX2_spanBehind_47 : decode cX2_spanBehind 47 = .ok (.ireturn, 1) := by decide +kernel
theorem dX2_spanBehind_48 : decode cX2_spanBehind 48 = .ok (.iload_n 2, 1) := by decide +kernel
theorem dX2_spanBehind_49 : decode cX2_spanBehind 49 = .ok (.ireturn, 1) := by decide +kernel
theorem dX2_becomeLike_0 : decode cX2_becomeLike 0 = .ok (.aload_n 1, 1) := by decide +kernel
theorem dX2_becomeLike_1 : decode cX2_becomeLike 1 = .ok (.getfield 9, 3) := by decide +kernel
theorem dX2_becomeLike_4 : decode cX2_becomeLike 4 = .ok (.iconst 0, 1) := by decide +kernel
theorem dX2_becomeLike_5 : decode cX2_becomeLike 5 = .ok (.aload_n 0, 1) := by decide +kernel
theorem dX2_becomeLike_6 : decode cX2_becomeLike 6 = .ok (.getfield 9, 3) := by decide +kernel
theorem dX2_becomeLike_9 : decode cX2_becomeLike 9 = .ok (.iconst 0, 1) := by decide +kernel
theorem dX2_becomeLike_10 : decode cX2_becomeLike 10 = .ok (.bipush 6, 2) := by decide +kernel
theorem dX2_becomeLike_12 : decode cX2_becomeLike 12 = .ok (.invokestatic 49, 3) := by decide +kernel
theorem dX2_becomeLike_15 : decode cX2_becomeLike 15 = .ok (.aload_n 1, 1) := by decide +kernel
theorem dX2_becomeLike_16 : decode cX2_becomeLike 16 = .ok (.getfield 15, 3) := by decide +kernel
theorem dX2_becomeLike_19 : decode cX2_becomeLike 19 = .ok (.iconst 0, 1) := by decide +kernel
theorem dX2_becomeLike_20 : decode cX2_becomeLike 20 = .ok (.aload_n 0, 1) := by decide +kernel
theorem dX2_becomeLike_21 : decode cX2_becomeLike 21 = .ok (.getfield 15, 3) := by decide +kernel
theorem dX2_becomeLike_24 : decode cX2_becomeLike 24 = .ok (.iconst 0, 1) := by decide +kernel
theorem dX2_becomeLike_25 : decode cX2_becomeLike 25 = .ok (.bipush 6, 2) := by decide +kernel
theorem dX2_becomeLike_27 : decode cX2_becomeLike 27 = .ok (.invokestatic 49, 3) := by decide +kernel
theorem dX2_becomeLike_30 : decode cX2_becomeLike 30 = .ok (.aload_n 1, 1) := by decide +kernel
theorem dX2_becomeLike_31 : decode cX2_becomeLike 31 = .ok (.getfield 18, 3) := by decide +kernel
theorem dX2_becomeLike_34 : decode cX2_becomeLike 34 = .ok (.iconst 0, 1) := by decide +kernel
theorem dX2_becomeLike_35 : decode cX2_becomeLike 35 = .ok (.aload_n 0, 1) := by decide +kernel
theorem dX2_becomeLike_36 : decode cX2_becomeLike 36 = .ok (.getfield 18, 3) := by decide +kernel
theorem dX2_becomeLike_39 : decode cX2_becomeLike 39 = .ok (.iconst 0, 1) := by decide +kernel
theorem dX2_becomeLike_40 : decode cX2_becomeLike 40 = .ok (.bipush 6, 2) := by decide +kernel
theorem dX2_becomeLike_42 : decode cX2_becomeLike 42 = .ok (.invokestatic 49, 3) := by decide +kernel
theorem dX2_becomeLike_45 : decode cX2_becomeLike 45 = .ok (.iconst 0, 1) := by decide +kernel
theorem dX2_becomeLike_46 : decode cX2_becomeLike 46 = .ok (.istore_n 2, 1) := by decide +kernel
theorem dX2_becomeLike_47 : decode cX2_becomeLike 47 = .ok (.iload_n 2, 1) := by decide +kernel
theorem dX2_becomeLike_48 : decode cX2_becomeLike 48 = .ok (.bipush 6, 2) := by decide +kernel
theorem dX2_becomeLike_50 : decode cX2_becomeLike 50 = .ok (.if_icmp .ge 21, 3) := by decide +kernel
theorem dX2_becomeLike_53 : decode cX2_becomeLike 53 = .ok (.aload_n 0, 1) := by decide +kernel
theorem dX2_becomeLike_54 : decode cX2_becomeLike 54 = .ok (.getfield 23, 3) := by decide +kernel
theorem dX2_becomeLike_57 : decode cX2_becomeLike 57 = .ok (.iload_n 2, 1) := by decide +kernel
theorem dX2_becomeLike_58 : decode cX2_becomeLike 58 = .ok (.aload_n 1, 1) := by decide +kernel
theorem dX2_becomeLike_59 : decode cX2_becomeLike 59 = .ok (.getfield 23, 3) := by decide +kernel
theorem dX2_becomeLike_62 : decode cX2_becomeLike 62 = .ok (.iload_n 2, 1) := by decide +kernel
theorem dX2_becomeLike_63 : decode cX2_becomeLike 63 = .ok (.aaload, 1) := by decide +kernel
theorem dX2_becomeLike_64 : decode cX2_becomeLike 64 = .ok (.aastore, 1) := by decide +kernel
theorem dX2_becomeLike_65 : decode cX2_becomeLike 65 = .ok (.iinc 2 1, 3) := by decide +kernel
theorem dX2_becomeLike_68 : decode cX2_becomeLike 68 = .ok (.goto (-21), 3) := by decide +kernel
theorem dX2_becomeLike_71 : decode cX2_becomeLike 71 = .ok (.aload_n 0, 1) := by decide +kernel
theorem dX2_becomeLike_72 : decode cX2_becomeLike 72 = .ok (.aload_n 1, 1) := by decide +kernel
theorem dX2_becomeLike_73 : decode cX2_becomeLike 73 = .ok (.getfield 27, 3) := by decide +kernel
theorem dX2_becomeLike_76 : decode cX2_becomeLike 76 = .ok (.putfield 27, 3) := by decide +kernel
theorem dX2_becomeLike_79 : decode cX2_becomeLike 79 = .ok (.aload_n 1, 1) := by decide +kernel
theorem dX2_becomeLike_80 : decode cX2_becomeLike 80 = .ok (.getfield 31, 3) := by decide +kernel
theorem dX2_becomeLike_83 : decode cX2_becomeLike 83 = .ok (.iconst 0, 1) := by decide +kernel
theorem dX2_becomeLike_84 : decode cX2_becomeLike 84 = .ok (.aload_n 0, 1) := by decide +kernel
theorem dX2_becomeLike_85 : decode cX2_becomeLike 85 = .ok (.getfield 31, 3) := by decide +kernel
theorem dX2_becomeLike_88 : decode cX2_becomeLike 88 = .ok (.iconst 0, 1) := by decide +kernel
theorem dX2_becomeLike_89 : decode cX2_becomeLike 89 = .ok (.bipush 8, 2) := by decide +kernel
theorem dX2_becomeLike_91 : decode cX2_becomeLike 91 = .ok (.invokestatic 49, 3) := by decide +kernel
theorem dX2_becomeLike_94 : decode cX2_becomeLike 94 = .ok (.aload_n 1, 1) := by decide +kernel
theorem dX2_becomeLike_95 : decode cX2_becomeLike 95 = .ok (.getfield 34, 3) := by decide +kernel
theorem dX2_becomeLike_98 : decode cX2_becomeLike 98 = .ok (.iconst 0, 1) := by decide +kernel
theorem dX2_becomeLike_99 : decode cX2_becomeLike 99 = .ok (.aload_n 0, 1) := by decide +kernel
theorem dX2_becomeLike_100 : decode cX2_becomeLike 100 = .ok (.getfield 34, 3) := by decide +kernel
theorem dX2_becomeLike_103 : decode cX2_becomeLike 103 = .ok (.iconst 0, 1) := by decide +kernel
theorem dX2_becomeLike_104 : decode cX2_becomeLike 104 = .ok (.bipush 8, 2) := by decide +kernel
theorem dX2_becomeLike_106 : decode cX2_becomeLike 106 = .ok (.invokestatic 49, 3) := by decide +kernel
theorem dX2_becomeLike_109 : decode cX2_becomeLike 109 = .ok (.aload_n 1, 1) := by decide +kernel
theorem dX2_becomeLike_110 : decode cX2_becomeLike 110 = .ok (.getfield 37, 3) := by decide +kernel
theorem dX2_becomeLike_113 : decode cX2_becomeLike 113 = .ok (.iconst 0, 1) := by decide +kernel
theorem dX2_becomeLike_114 : decode cX2_becomeLike 114 = .ok (.aload_n 0, 1) := by decide +kernel
theorem dX2_becomeLike_115 : decode cX2_becomeLike 115 = .ok (.getfield 37, 3) := by decide +kernel
theorem dX2_becomeLike_118 : decode cX2_becomeLike 118 = .ok (.iconst 0, 1) := by decide +kernel
theorem dX2_becomeLike_119 : decode cX2_becomeLike 119 = .ok (.bipush 8, 2) := by decide +kernel
theorem dX2_becomeLike_121 : decode cX2_becomeLike 121 = .ok (.invokestatic 49, 3) := by decide +kernel
theorem dX2_becomeLike_124 : decode cX2_becomeLike 124 = .ok (.aload_n 0, 1) := by decide +kernel
theorem dX2_becomeLike_125 : decode cX2_becomeLike 125 = .ok (.aload_n 1, 1) := by decide +kernel
theorem dX2_becomeLike_126 : decode cX2_becomeLike 126 = .ok (.getfield 40, 3) := by decide +kernel
theorem dX2_becomeLike_129 : decode cX2_becomeLike 129 = .ok (.putfield 40, 3) := by decide +kernel
theorem dX2_becomeLike_132 : decode cX2_becomeLike 132 = .ok (.return_, 1) := by decide +kernel
theorem dX3_append_0 : decode cX3_append 0 = .ok (.aload_n 0, 1) := by decide +kernel
theorem dX3_append_1 : decode cX3_append 1 = .ok (.getfield 15, 3) := by decide +kernel
theorem dX3_append_4 : decode cX3_append 4 = .ok (.bipush 60, 2) := by decide +kernel
theorem dX3_append_6 : decode cX3_append 6 = .ok (.if_icmp .lt 5, 3) := by decide +kernel
theorem dX3_append_9 : decode cX3_append 9 = .ok (.iconst 0, 1) := by decide +kernel
theorem dX3_append_10 : decode cX3_append 10 = .ok (.ireturn, 1) := by decide +kernel
theorem dX3_append_11 : decode cX3_append 11 = .ok (.aload_n 0, 1) := by decide +kernel
theorem dX3_append_12 : decode cX3_append 12 = .ok (.getfield 9, 3) := by decide +kernel
theorem dX3_append_15 : decode cX3_append 15 = .ok (.aload_n 0, 1) := by decide +kernel
theorem dX3_append_16 : decode cX3_append 16 = .ok (.getfield 15, 3) := by decide +kernel
theorem dX3_append_19 : decode cX3_append 19 = .ok (.iload_n 1, 1) := by decide +kernel
theorem dX3_append_20 : decode cX3_append 20 = .ok (.iastore, 1) := by decide +kernel
theorem dX3_append_21 : decode cX3_append 21 = .ok (.aload_n 0, 1) := by decide +kernel
theorem dX3_append_22 : decode cX3_append 22 = .ok (.dup, 1) := by decide +kernel
theorem dX3_append_23 : decode cX3_append 23 = .ok (.getfield 15, 3) := by decide +kernel
theorem dX3_append_26 : decode cX3_append 26 = .ok (.iconst 1, 1) := by decide +kernel
theorem dX3_append_27 : decode cX3_append 27 = .ok (.iadd, 1) := by decide +kernel
theorem dX3_append_28 : decode cX3_append 28 = .ok (.putfield 15, 3) := by decide +kernel
theorem dX3_append_31 : decode cX3_append 31 = .ok (.iconst 1, 1) := by decide +kernel
theorem dX3_append_32 : decode cX3_append 32 = .ok (.ireturn, 1) := by decide +kernel
theorem dX3_here_0 : decode cX3_here 0 = .ok (.aload_n 0, 1) := by decide +kernel
theorem dX3_here_1 : decode cX3_here 1 = .ok (.getfield 19, 3) := by decide +kernel
theorem dX3_here_4 : decode cX3_here 4 = .ok (.ifCond .lt 26, 3) := by decide +kernel
theorem dX3_here_7 : decode cX3_here 7 = .ok (.aload_n 0, 1) := by decide +kernel
theorem dX3_here_8 : decode cX3_here 8 = .ok (.getfield 19, 3) := by decide +kernel
theorem dX3_here_11 : decode cX3_here 11 = .ok (.aload_n 0, 1) := by decide +kernel
theorem dX3_here_12 : decode cX3_here 12 = .ok (.getfield 15, 3) := by decide +kernel
theorem dX3_here_15 : decode cX3_here 15 = .ok (.if_icmp .ge 15, 3) := by decide +kernel
theorem dX3_here_18 : decode cX3_here 18 = .ok (.aload_n 0, 1) := by decide +kernel
theorem dX3_here_19 : decode cX3_here 19 = .ok (.getfield 9, 3) := by decide +kernel
theorem dX3_here_22 : decode cX3_here 22 = .ok (.aload_n 0, 1) := by decide +kernel
theorem dX3_here_23 : decode cX3_here 23 = .ok (.getfield 19, 3) := by decide +kernel
theorem dX3_here_26 : decode cX3_here 26 = .ok (.iaload, 1) := by decide +kernel
theorem dX3_here_27 : decode cX3_here 27 = .ok (.goto 4, 3) := by decide +kernel
theorem dX3_here_30 : decode cX3_here 30 = .ok (.iconst 0, 1) := by decide +kernel
theorem dX3_here_31 : decode cX3_here 31 = .ok (.ireturn, 1) := by decide +kernel
theorem dX3_readSum_0 : decode cX3_readSum 0 = .ok (.aload_n 0, 1) := by decide +kernel
theorem dX3_readSum_1 : decode cX3_readSum 1 = .ok (.iload_n 1, 1) := by decide +kernel
theorem dX3_readSum_2 : decode cX3_readSum 2 = .ok (.invokevirtual 49, 3) := by decide +kernel
theorem dX3_readSum_5 : decode cX3_readSum 5 = .ok (.istore_n 2, 1) := by decide +kernel
theorem dX3_readSum_6 : decode cX3_readSum 6 = .ok (.iconst 0, 1) := by decide +kernel
theorem dX3_readSum_7 : decode cX3_readSum 7 = .ok (.istore_n 3, 1) := by decide +kernel
theorem dX3_readSum_8 : decode cX3_readSum 8 = .ok (.iload_n 3, 1) := by decide +kernel
theorem dX3_readSum_9 : decode cX3_readSum 9 = .ok (.bipush 60, 2) := by decide +kernel
theorem dX3_readSum_11 : decode cX3_readSum 11 = .ok (.if_icmp .ge 81, 3) := by decide +kernel
theorem dX3_readSum_14 : decode cX3_readSum 14 = .ok (.aload_n 0, 1) := by decide +kernel
theorem dX3_readSum_15 : decode cX3_readSum 15 = .ok (.invokevirtual 52, 3) := by decide +kernel
theorem dX3_readSum_18 : decode cX3_readSum 18 = .ok (.istore 4, 2) := by decide +kernel
theorem dX3_readSum_20 : decode cX3_readSum 20 = .ok (.iload_n 2, 1) := by decide +kernel
theorem dX3_readSum_21 : decode cX3_readSum 21 = .ok (.iconst (-1), 1) := by decide +kernel
theorem dX3_readSum_22 : decode cX3_readSum 22 = .ok (.if_icmp .eq 17, 3) := by decide +kernel
theorem dX3_readSum_25 : decode cX3_readSum 25 = .ok (.iload 4, 2) := by decide +kernel
theorem dX3_readSum_27 : decode cX3_readSum 27 = .ok (.bipush 43, 2) := by decide +kernel
theorem dX3_readSum_29 : decode cX3_readSum 29 = .ok (.if_icmp .eq 12, 3) := by decide +kernel
theorem dX3_readSum_32 : decode cX3_readSum 32 = .ok (.iload 4, 2) := by decide +kernel
theorem dX3_readSum_34 : decode cX3_readSum 34 = .ok (.bipush 45, 2) := by decide +kernel
theorem dX3_readSum_36 : decode cX3_readSum 36 = .ok (.if_icmp .eq 5, 3) := by decide +kernel
theorem dX3_readSum_39 : decode cX3_readSum 39 = .ok (.iload_n 2, 1) := by decide +kernel
theorem dX3_readSum_40 : decode cX3_readSum 40 = .ok (.ireturn, 1) := by decide +kernel
theorem dX3_readSum_41 : decode cX3_readSum 41 = .ok (.aload_n 0, 1) := by decide +kernel
theorem dX3_readSum_42 : decode cX3_readSum 42 = .ok (.getfield 19, 3) := by decide +kernel
theorem dX3_readSum_45 : decode cX3_readSum 45 = .ok (.istore 5, 2) := by decide +kernel
theorem dX3_readSum_47 : decode cX3_readSum 47 = .ok (.aload_n 0, 1) := by decide +kernel
theorem dX3_readSum_48 : decode cX3_readSum 48 = .ok (.dup, 1) := by decide +kernel
theorem dX3_readSum_49 : decode cX3_readSum 49 = .ok (.getfield 19, 3) := by decide +kernel
theorem dX3_readSum_52 : decode cX3_readSum 52 = .ok (.iconst 1, 1) := by decide +kernel
theorem dX3_readSum_53 : decode cX3_readSum 53 = .ok (.iadd, 1) := by decide +kernel
theorem dX3_readSum_54 : decode cX3_readSum 54 = .ok (.putfield 19, 3) := by decide +kernel
theorem dX3_readSum_57 : decode cX3_readSum 57 = .ok (.aload_n 0, 1) := by decide +kernel
theorem dX3_readSum_58 : decode cX3_readSum 58 = .ok (.iload_n 1, 1) := by decide +kernel
theorem dX3_readSum_59 : decode cX3_readSum 59 = .ok (.invokevirtual 49, 3) := by decide +kernel
theorem dX3_readSum_62 : decode cX3_readSum 62 = .ok (.istore 6, 2) := by decide +kernel
theorem dX3_readSum_64 : decode cX3_readSum 64 = .ok (.aload_n 0, 1) := by decide +kernel
theorem dX3_readSum_65 : decode cX3_readSum 65 = .ok (.iload 4, 2) := by decide +kernel
theorem dX3_readSum_67 : decode cX3_readSum 67 = .ok (.bipush 43, 2) := by decide +kernel
theorem dX3_readSum_69 : decode cX3_readSum 69 = .ok (.if_icmp .ne 7, 3) := by decide +kernel
theorem dX3_readSum_72 : decode cX3_readSum 72 = .ok (.iconst 3, 1) := by decide +kernel
theorem dX3_readSum_73 : decode cX3_readSum 73 = .ok (.goto 4, 3) := by decide +kernel
theorem dX3_readSum_76 : decode cX3_readSum 76 = .ok (.iconst 4, 1) := by decide +kernel
theorem dX3_readSum_77 : decode cX3_readSum 77 = .ok (.iload 5, 2) := by decide +kernel
theorem dX3_readSum_79 : decode cX3_readSum 79 = .ok (.iload_n 2, 1) := by decide +kernel
theorem dX3_readSum_80 : decode cX3_readSum 80 = .ok (.iload 6, 2) := by decide +kernel
theorem dX3_readSum_82 : decode cX3_readSum 82 = .ok (.invokevirtual 56, 3) := by decide +kernel
theorem dX3_readSum_85 : decode cX3_readSum 85 = .ok (.istore_n 2, 1) := by decide +kernel
theorem dX3_readSum_86 : decode cX3_readSum 86 = .ok (.iinc 3 1, 3) := by decide +kernel
theorem dX3_readSum_89 : decode cX3_readSum 89 = .ok (.goto (-81), 3) := by decide +kernel
theorem dX3_readSum_92 : decode cX3_readSum 92 = .ok (.iload_n 2, 1) := by decide +kernel
theorem dX3_readSum_93 : decode cX3_readSum 93 = .ok (.ireturn, 1) := by decide +kernel
theorem dX3_readProduct_0 : decode cX3_readProduct 0 = .ok (.aload_n 0, 1) := by decide +kernel
theorem dX3_readProduct_1 : decode cX3_readProduct 1 = .ok (.iload_n 1, 1) := by decide +kernel
theorem dX3_readProduct_2 : decode cX3_readProduct 2 = .ok (.invokevirtual 60, 3) := by decide +kernel
theorem dX3_readProduct_5 : decode cX3_readProduct 5 = .ok (.istore_n 2, 1) := by decide +kernel
theorem dX3_readProduct_6 : decode cX3_readProduct 6 = .ok (.iconst 0, 1) := by decide +kernel
theorem dX3_readProduct_7 : decode cX3_readProduct 7 = .ok (.istore_n 3, 1) := by decide +kernel
theorem dX3_readProduct_8 : decode cX3_readProduct 8 = .ok (.iload_n 3, 1) := by decide +kernel
theorem dX3_readProduct_9 : decode cX3_readProduct 9 = .ok (.bipush 60, 2) := by decide +kernel
theorem dX3_readProduct_11 : decode cX3_readProduct 11 = .ok (.if_icmp .ge 59, 3) := by decide +kernel
theorem dX3_readProduct_14 : decode cX3_readProduct 14 = .ok (.iload_n 2, 1) := by decide +kernel
theorem dX3_readProduct_15 : decode cX3_readProduct 15 = .ok (.iconst (-1), 1) := by decide +kernel
theorem dX3_readProduct_16 : decode cX3_readProduct 16 = .ok (.if_icmp .eq 12, 3) := by decide +kernel
theorem dX3_readProduct_19 : decode cX3_readProduct 19 = .ok (.aload_n 0, 1) := by decide +kernel
theorem dX3_readProduct_20 : decode cX3_readProduct 20 = .ok (.invokevirtual 52, 3) := by decide +kernel
theorem dX3_readProduct_23 : decode cX3_readProduct 23 = .ok (.bipush 42, 2) := by decide +kernel
theorem dX3_readProduct_25 : decode cX3_readProduct 25 = .ok (.if_icmp .eq 5, 3) := by decide +kernel
theorem dX3_readProduct_28 : decode cX3_readProduct 28 = .ok (.iload_n 2, 1) := by decide +kernel
theorem dX3_readProduct_29 : decode cX3_readProduct 29 = .ok (.ireturn, 1) := by decide +kernel
theorem dX3_readProduct_30 : decode cX3_readProduct 30 = .ok (.aload_n 0, 1) := by decide +kernel
theorem dX3_readProduct_31 : decode cX3_readProduct 31 = .ok (.getfield 19, 3) := by decide +kernel
theorem dX3_readProduct_34 : decode cX3_readProduct 34 = .ok (.istore 4, 2) := by decide +kernel
theorem dX3_readProduct_36 : decode cX3_readProduct 36 = .ok (.aload_n 0, 1) := by decide +kernel
theorem dX3_readProduct_37 : decode cX3_readProduct 37 = .ok (.dup, 1) := by decide +kernel
theorem dX3_readProduct_38 : decode cX3_readProduct 38 = .ok (.getfield 19, 3) := by decide +kernel
theorem dX3_readProduct_41 : decode cX3_readProduct 41 = .ok (.iconst 1, 1) := by decide +kernel
theorem dX3_readProduct_42 : decode cX3_readProduct 42 = .ok (.iadd, 1) := by decide +kernel
theorem dX3_readProduct_43 : decode cX3_readProduct 43 = .ok (.putfield 19, 3) := by decide +kernel
theorem dX3_readProduct_46 : decode cX3_readProduct 46 = .ok (.aload_n 0, 1) := by decide +kernel
theorem dX3_readProduct_47 : decode cX3_readProduct 47 = .ok (.iload_n 1, 1) := by decide +kernel
theorem dX3_readProduct_48 : decode cX3_readProduct 48 = .ok (.invokevirtual 60, 3) := by decide +kernel
theorem dX3_readProduct_51 : decode cX3_readProduct 51 = .ok (.istore 5, 2) := by decide +kernel
theorem dX3_readProduct_53 : decode cX3_readProduct 53 = .ok (.aload_n 0, 1) := by decide +kernel
theorem dX3_readProduct_54 : decode cX3_readProduct 54 = .ok (.iconst 5, 1) := by decide +kernel
theorem dX3_readProduct_55 : decode cX3_readProduct 55 = .ok (.iload 4, 2) := by decide +kernel
theorem dX3_readProduct_57 : decode cX3_readProduct 57 = .ok (.iload_n 2, 1) := by decide +kernel
theorem dX3_readProduct_58 : decode cX3_readProduct 58 = .ok (.iload 5, 2) := by decide +kernel
theorem dX3_readProduct_60 : decode cX3_readProduct 60 = .ok (.invokevirtual 56, 3) := by decide +kernel
theorem dX3_readProduct_63 : decode cX3_readProduct 63 = .ok (.istore_n 2, 1) := by decide +kernel
theorem dX3_readProduct_64 : decode cX3_readProduct 64 = .ok (.iinc 3 1, 3) := by decide +kernel
theorem dX3_readProduct_67 : decode cX3_readProduct 67 = .ok (.goto (-59), 3) := by decide +kernel
theorem dX3_readProduct_70 : decode cX3_readProduct 70 = .ok (.iload_n 2, 1) := by decide +kernel
theorem dX3_readProduct_71 : decode cX3_readProduct 71 = .ok (.ireturn, 1) := by decide +kernel
theorem dX3_readFactor_0 : decode cX3_readFactor 0 = .ok (.aload_n 0, 1) := by decide +kernel
theorem dX3_readFactor_1 : decode cX3_readFactor 1 = .ok (.invokevirtual 52, 3) := by decide +kernel
theorem dX3_readFactor_4 : decode cX3_readFactor 4 = .ok (.istore_n 2, 1) := by decide +kernel
theorem dX3_readFactor_5 : decode cX3_readFactor 5 = .ok (.iload_n 2, 1) := by decide +kernel
theorem dX3_readFactor_6 : decode cX3_readFactor 6 = .ok (.bipush 97, 2) := by decide +kernel
theorem dX3_readFactor_8 : decode cX3_readFactor 8 = .ok (.if_icmp .lt 35, 3) := by decide +kernel
theorem dX3_readFactor_11 : decode cX3_readFactor 11 = .ok (.iload_n 2, 1) := by decide +kernel
theorem dX3_readFactor_12 : decode cX3_readFactor 12 = .ok (.bipush 102, 2) := by decide +kernel
theorem dX3_readFactor_14 : decode cX3_readFactor 14 = .ok (.if_icmp .gt 29, 3) := by decide +kernel
theorem dX3_readFactor_17 : decode cX3_readFactor 17 = .ok (.aload_n 0, 1) := by decide +kernel
theorem dX3_readFactor_18 : decode cX3_readFactor 18 = .ok (.dup, 1) := by decide +kernel
theorem dX3_readFactor_19 : decode cX3_readFactor 19 = .ok (.getfield 19, 3) := by decide +kernel
theorem dX3_readFactor_22 : decode cX3_readFactor 22 = .ok (.iconst 1, 1) := by decide +kernel
theorem dX3_readFactor_23 : decode cX3_readFactor 23 = .ok (.iadd, 1) := by decide +kernel
theorem dX3_readFactor_24 : decode cX3_readFactor 24 = .ok (.putfield 19, 3) := by decide +kernel
theorem dX3_readFactor_27 : decode cX3_readFactor 27 = .ok (.aload_n 0, 1) := by decide +kernel
theorem dX3_readFactor_28 : decode cX3_readFactor 28 = .ok (.iconst 0, 1) := by decide +kernel
theorem dX3_readFactor_29 : decode cX3_readFactor 29 = .ok (.aload_n 0, 1) := by decide +kernel
theorem dX3_readFactor_30 : decode cX3_readFactor 30 = .ok (.getfield 19, 3) := by decide +kernel
theorem dX3_readFactor_33 : decode cX3_readFactor 33 = .ok (.iconst 1, 1) := by decide +kernel
theorem dX3_readFactor_34 : decode cX3_readFactor 34 = .ok (.isub, 1) := by decide +kernel
theorem dX3_readFactor_35 : decode cX3_readFactor 35 = .ok (.iload_n 2, 1) := by decide +kernel
theorem dX3_readFactor_36 : decode cX3_readFactor 36 = .ok (.bipush 97, 2) := by decide +kernel
theorem dX3_readFactor_38 : decode cX3_readFactor 38 = .ok (.isub, 1) := by decide +kernel
theorem dX3_readFactor_39 : decode cX3_readFactor 39 = .ok (.invokevirtual 63, 3) := by decide +kernel
theorem dX3_readFactor_42 : decode cX3_readFactor 42 = .ok (.ireturn, 1) := by decide +kernel
theorem dX3_readFactor_43 : decode cX3_readFactor 43 = .ok (.iload_n 2, 1) := by decide +kernel
theorem dX3_readFactor_44 : decode cX3_readFactor 44 = .ok (.invokestatic 67, 3) := by decide +kernel
theorem dX3_readFactor_47 : decode cX3_readFactor 47 = .ok (.ifCond .eq 8, 3) := by decide +kernel
theorem dX3_readFactor_50 : decode cX3_readFactor 50 = .ok (.aload_n 0, 1) := by decide +kernel
theorem dX3_readFactor_51 : decode cX3_readFactor 51 = .ok (.invokevirtual 71, 3) := by decide +kernel
theorem dX3_readFactor_54 : decode cX3_readFactor 54 = .ok (.ireturn, 1) := by decide +kernel
theorem dX3_readFactor_55 : decode cX3_readFactor 55 = .ok (.iload_n 1, 1) := by decide +kernel
theorem dX3_readFactor_56 : decode cX3_readFactor 56 = .ok (.bipush 6, 2) := by decide +kernel
theorem dX3_readFactor_58 : decode cX3_readFactor 58 = .ok (.if_icmp .ge 15, 3) := by decide +kernel
theorem dX3_readFactor_61 : decode cX3_readFactor 61 = .ok (.iload_n 2, 1) := by decide +kernel
theorem dX3_readFactor_62 : decode cX3_readFactor 62 = .ok (.bipush 45, 2) := by decide +kernel
theorem dX3_readFactor_64 : decode cX3_readFactor 64 = .ok (.if_icmp .eq 11, 3) := by decide +kernel
theorem dX3_readFactor_67 : decode cX3_readFactor 67 = .ok (.iload_n 2, 1) := by decide +kernel
theorem dX3_readFactor_68 : decode cX3_readFactor 68 = .ok (.bipush 40, 2) := by decide +kernel
theorem dX3_readFactor_70 : decode cX3_readFactor 70 = .ok (.if_icmp .eq 5, 3) := by decide +kernel
theorem dX3_readFactor_73 : decode cX3_readFactor 73 = .ok (.iconst (-1), 1) := by decide +kernel
theorem dX3_readFactor_74 : decode cX3_readFactor 74 = .ok (.ireturn, 1) := by decide +kernel
theorem dX3_readFactor_75 : decode cX3_readFactor 75 = .ok (.aload_n 0, 1) := by decide +kernel
theorem dX3_readFactor_76 : decode cX3_readFactor 76 = .ok (.getfield 19, 3) := by decide +kernel
theorem dX3_readFactor_79 : decode cX3_readFactor 79 = .ok (.istore_n 3, 1) := by decide +kernel
theorem dX3_readFactor_80 : decode cX3_readFactor 80 = .ok (.aload_n 0, 1) := by decide +kernel
theorem dX3_readFactor_81 : decode cX3_readFactor 81 = .ok (.dup, 1) := by decide +kernel
theorem dX3_readFactor_82 : decode cX3_readFactor 82 = .ok (.getfield 19, 3) := by decide +kernel
theorem dX3_readFactor_85 : decode cX3_readFactor 85 = .ok (.iconst 1, 1) := by decide +kernel
theorem dX3_readFactor_86 : decode cX3_readFactor 86 = .ok (.iadd, 1) := by decide +kernel
theorem dX3_readFactor_87 : decode cX3_readFactor 87 = .ok (.putfield 19, 3) := by decide +kernel
theorem dX3_readFactor_90 : decode cX3_readFactor 90 = .ok (.iload_n 2, 1) := by decide +kernel
theorem dX3_readFactor_91 : decode cX3_readFactor 91 = .ok (.bipush 45, 2) := by decide +kernel
theorem dX3_readFactor_93 : decode cX3_readFactor 93 = .ok (.if_icmp .ne 23, 3) := by decide +kernel
theorem dX3_readFactor_96 : decode cX3_readFactor 96 = .ok (.aload_n 0, 1) := by decide +kernel
theorem dX3_readFactor_97 : decode cX3_readFactor 97 = .ok (.iload_n 1, 1) := by decide +kernel
theorem dX3_readFactor_98 : decode cX3_readFactor 98 = .ok (.iconst 1, 1) := by decide +kernel
theorem dX3_readFactor_99 : decode cX3_readFactor 99 = .ok (.iadd, 1) := by decide +kernel
theorem dX3_readFactor_100 : decode cX3_readFactor 100 = .ok (.invokevirtual 60, 3) := by decide +kernel
theorem dX3_readFactor_103 : decode cX3_readFactor 103 = .ok (.istore 4, 2) := by decide +kernel
theorem dX3_readFactor_105 : decode cX3_readFactor 105 = .ok (.aload_n 0, 1) := by decide +kernel
theorem dX3_readFactor_106 : decode cX3_readFactor 106 = .ok (.iconst 2, 1) := by decide +kernel
theorem dX3_readFactor_107 : decode cX3_readFactor 107 = .ok (.iload_n 3, 1) := by decide +kernel
theorem dX3_readFactor_108 : decode cX3_readFactor 108 = .ok (.iload 4, 2) := by decide +kernel
theorem dX3_readFactor_110 : decode cX3_readFactor 110 = .ok (.iload 4, 2) := by decide +kernel
theorem dX3_readFactor_112 : decode cX3_readFactor 112 = .ok (.invokevirtual 56, 3) := by decide +kernel
theorem dX3_readFactor_115 : decode cX3_readFactor 115 = .ok (.ireturn, 1) := by decide +kernel
theorem dX3_readFactor_116 : decode cX3_readFactor 116 = .ok (.aload_n 0, 1) := by decide +kernel
theorem dX3_readFactor_117 : decode cX3_readFactor 117 = .ok (.iload_n 1, 1) := by decide +kernel
theorem dX3_readFactor_118 : decode cX3_readFactor 118 = .ok (.iconst 1, 1) := by decide +kernel
theorem dX3_readFactor_119 : decode cX3_readFactor 119 = .ok (.iadd, 1) := by decide +kernel
theorem dX3_readFactor_120 : decode cX3_readFactor 120 = .ok (.invokevirtual 40, 3) := by decide +kernel
theorem dX3_readFactor_123 : decode cX3_readFactor 123 = .ok (.istore 4, 2) := by decide +kernel
theorem dX3_readFactor_125 : decode cX3_readFactor 125 = .ok (.iload 4, 2) := by decide +kernel
theorem dX3_readFactor_127 : decode cX3_readFactor 127 = .ok (.iconst (-1), 1) := by decide +kernel
theorem dX3_readFactor_128 : decode cX3_readFactor 128 = .ok (.if_icmp .eq 12, 3) := by decide +kernel
theorem dX3_readFactor_131 : decode cX3_readFactor 131 = .ok (.aload_n 0, 1) := by decide +kernel
theorem dX3_readFactor_132 : decode cX3_readFactor 132 = .ok (.invokevirtual 52, 3) := by decide +kernel
theorem dX3_readFactor_135 : decode cX3_readFactor 135 = .ok (.bipush 41, 2) := by decide +kernel
theorem dX3_readFactor_137 : decode cX3_readFactor 137 = .ok (.if_icmp .eq 5, 3) := by decide +kernel
theorem dX3_readFactor_140 : decode cX3_readFactor 140 = .ok (.iconst (-1), 1) := by decide +kernel
theorem dX3_readFactor_141 : decode cX3_readFactor 141 = .ok (.ireturn, 1) := by decide +kernel
theorem dX3_readFactor_142 : decode cX3_readFactor 142 = .ok (.aload_n 0, 1) := by decide +kernel
theorem dX3_readFactor_143 : decode cX3_readFactor 143 = .ok (.dup, 1) := by decide +kernel
theorem dX3_readFactor_144 : decode cX3_readFactor 144 = .ok (.getfield 19, 3) := by decide +kernel
theorem dX3_readFactor_147 : decode cX3_readFactor 147 = .ok (.iconst 1, 1) := by decide +kernel
theorem dX3_readFactor_148 : decode cX3_readFactor 148 = .ok (.iadd, 1) := by decide +kernel
theorem dX3_readFactor_149 : decode cX3_readFactor 149 = .ok (.putfield 19, 3) := by decide +kernel
theorem dX3_readFactor_152 : decode cX3_readFactor 152 = .ok (.iload 4, 2) := by decide +kernel
theorem dX3_readFactor_154 : decode cX3_readFactor 154 = .ok (.ireturn, 1) := by decide +kernel
theorem dX3_readNumber_0 : decode cX3_readNumber 0 = .ok (.aload_n 0, 1) := by decide +kernel
theorem dX3_readNumber_1 : decode cX3_readNumber 1 = .ok (.getfield 19, 3) := by decide +kernel
theorem dX3_readNumber_4 : decode cX3_readNumber 4 = .ok (.istore_n 1, 1) := by decide +kernel
theorem dX3_readNumber_5 : decode cX3_readNumber 5 = .ok (.iconst 0, 1) := by decide +kernel
theorem dX3_readNumber_6 : decode cX3_readNumber 6 = .ok (.istore_n 2, 1) := by decide +kernel
theorem dX3_readNumber_7 : decode cX3_readNumber 7 = .ok (.iconst 0, 1) := by decide +kernel
theorem dX3_readNumber_8 : decode cX3_readNumber 8 = .ok (.istore_n 3, 1) := by decide +kernel
theorem dX3_readNumber_9 : decode cX3_readNumber 9 = .ok (.iload_n 3, 1) := by decide +kernel
theorem dX3_readNumber_10 : decode cX3_readNumber 10 = .ok (.iconst 4, 1) := by decide +kernel
theorem dX3_readNumber_11 : decode cX3_readNumber 11 = .ok (.if_icmp .ge 42, 3) := by decide +kernel
theorem dX3_readNumber_14 : decode cX3_readNumber 14 = .ok (.aload_n 0, 1) := by decide +kernel
theorem dX3_readNumber_15 : decode cX3_readNumber 15 = .ok (.invokevirtual 52, 3) := by decide +kernel
theorem dX3_readNumber_18 : decode cX3_readNumber 18 = .ok (.invokestatic 67, 3) := by decide +kernel
theorem dX3_readNumber_21 : decode cX3_readNumber 21 = .ok (.ifCond .eq 32, 3) := by decide +kernel
theorem dX3_readNumber_24 : decode cX3_readNumber 24 = .ok (.iload_n 2, 1) := by decide +kernel
theorem dX3_readNumber_25 : decode cX3_readNumber 25 = .ok (.bipush 10, 2) := by decide +kernel
theorem dX3_readNumber_27 : decode cX3_readNumber 27 = .ok (.imul, 1) := by decide +kernel
theorem dX3_readNumber_28 : decode cX3_readNumber 28 = .ok (.aload_n 0, 1) := by decide +kernel
theorem dX3_readNumber_29 : decode cX3_readNumber 29 = .ok (.invokevirtual 52, 3) := by decide +kernel
theorem dX3_readNumber_32 : decode cX3_readNumber 32 = .ok (.iadd, 1) := by decide +kernel
theorem dX3_readNumber_33 : decode cX3_readNumber 33 = .ok (.bipush 48, 2) := by decide +kernel
theorem dX3_readNumber_35 : decode cX3_readNumber 35 = .ok (.isub, 1) := by decide +kernel
theorem dX3_readNumber_36 : decode cX3_readNumber 36 = .ok (.istore_n 2, 1) := by decide +kernel
theorem dX3_readNumber_37 : decode cX3_readNumber 37 = .ok (.aload_n 0, 1) := by decide +kernel
theorem dX3_readNumber_38 : decode cX3_readNumber 38 = .ok (.dup, 1) := by decide +kernel
theorem dX3_readNumber_39 : decode cX3_readNumber 39 = .ok (.getfield 19, 3) := by decide +kernel
theorem dX3_readNumber_42 : decode cX3_readNumber 42 = .ok (.iconst 1, 1) := by decide +kernel
theorem dX3_readNumber_43 : decode cX3_readNumber 43 = .ok (.iadd, 1) := by decide +kernel
theorem dX3_readNumber_44 : decode cX3_readNumber 44 = .ok (.putfield 19, 3) := by decide +kernel
theorem dX3_readNumber_47 : decode cX3_readNumber 47 = .ok (.iinc 3 1, 3) := by decide +kernel
theorem dX3_readNumber_50 : decode cX3_readNumber 50 = .ok (.goto (-41), 3) := by decide +kernel
theorem dX3_readNumber_53 : decode cX3_readNumber 53 = .ok (.aload_n 0, 1) := by decide +kernel
theorem dX3_readNumber_54 : decode cX3_readNumber 54 = .ok (.iconst 1, 1) := by decide +kernel
theorem dX3_readNumber_55 : decode cX3_readNumber 55 = .ok (.iload_n 1, 1) := by decide +kernel
theorem dX3_readNumber_56 : decode cX3_readNumber 56 = .ok (.iload_n 2, 1) := by decide +kernel
theorem dX3_readNumber_57 : decode cX3_readNumber 57 = .ok (.invokevirtual 63, 3) := by decide +kernel
theorem dX3_readNumber_60 : decode cX3_readNumber 60 = .ok (.ireturn, 1) := by decide +kernel
theorem dX3_isFigure_0 : decode cX3_isFigure 0 = .ok (.iload_n 0, 1) := by decide +kernel
theorem dX3_isFigure_1 : decode cX3_isFigure 1 = .ok (.bipush 48, 2) := by decide +kernel
theorem dX3_isFigure_3 : decode cX3_isFigure 3 = .ok (.if_icmp .lt 13, 3) := by decide +kernel
theorem dX3_isFigure_6 : decode cX3_isFigure 6 = .ok (.iload_n 0, 1) := by decide +kernel
theorem dX3_isFigure_7 : decode cX3_isFigure 7 = .ok (.bipush 57, 2) := by decide +kernel
theorem dX3_isFigure_9 : decode cX3_isFigure 9 = .ok (.if_icmp .gt 7, 3) := by decide +kernel
theorem dX3_isFigure_12 : decode cX3_isFigure 12 = .ok (.iconst 1, 1) := by decide +kernel
theorem dX3_isFigure_13 : decode cX3_isFigure 13 = .ok (.goto 4, 3) := by decide +kernel
theorem dX3_isFigure_16 : decode cX3_isFigure 16 = .ok (.iconst 0, 1) := by decide +kernel
theorem dX3_isFigure_17 : decode cX3_isFigure 17 = .ok (.ireturn, 1) := by decide +kernel
theorem dX3_join_0 : decode cX3_join 0 = .ok (.iload_n 3, 1) := by decide +kernel
theorem dX3_join_1 : decode cX3_join 1 = .ok (.iconst (-1), 1) := by decide +kernel
theorem dX3_join_2 : decode cX3_join 2 = .ok (.if_icmp .eq 9, 3) := by decide +kernel
theorem dX3_join_5 : decode cX3_join 5 = .ok (.iload 4, 2) := by decide +kernel
theorem dX3_join_7 : decode cX3_join 7 = .ok (.iconst (-1), 1) := by decide +kernel
theorem dX3_join_8 : decode cX3_join 8 = .ok (.if_icmp .ne 5, 3) := by decide +kernel
theorem dX3_join_11 : decode cX3_join 11 = .ok (.iconst (-1), 1) := by decide +kernel
theorem dX3_join_12 : decode cX3_join 12 = .ok (.ireturn, 1) := by decide +kernel
theorem dX3_join_13 : decode cX3_join 13 = .ok (.aload_n 0, 1) := by decide +kernel
theorem dX3_join_14 : decode cX3_join 14 = .ok (.iload_n 1, 1) := by decide +kernel
theorem dX3_join_15 : decode cX3_join 15 = .ok (.iload_n 2, 1) := by decide +kernel
theorem dX3_join_16 : decode cX3_join 16 = .ok (.iconst 0, 1) := by decide +kernel
theorem dX3_join_17 : decode cX3_join 17 = .ok (.invokevirtual 63, 3) := by decide +kernel
theorem dX3_join_20 : decode cX3_join 20 = .ok (.istore 5, 2) := by decide +kernel
theorem dX3_join_22 : decode cX3_join 22 = .ok (.iload 5, 2) := by decide +kernel
theorem dX3_join_24 : decode cX3_join 24 = .ok (.iconst (-1), 1) := by decide +kernel
theorem dX3_join_25 : decode cX3_join 25 = .ok (.if_icmp .eq 20, 3) := by decide +kernel
theorem dX3_join_28 : decode cX3_join 28 = .ok (.aload_n 0, 1) := by decide +kernel
theorem dX3_join_29 : decode cX3_join 29 = .ok (.getfield 28, 3) := by decide +kernel
theorem dX3_join_32 : decode cX3_join 32 = .ok (.iload 5, 2) := by decide +kernel
theorem dX3_join_34 : decode cX3_join 34 = .ok (.iload_n 3, 1) := by decide +kernel
theorem dX3_join_35 : decode cX3_join 35 = .ok (.iastore, 1) := by decide +kernel
theorem dX3_join_36 : decode cX3_join 36 = .ok (.aload_n 0, 1) := by decide +kernel
theorem dX3_join_37 : decode cX3_join 37 = .ok (.getfield 31, 3) := by decide +kernel
theorem dX3_join_40 : decode cX3_join 40 = .ok (.iload 5, 2) := by decide +kernel
theorem dX3_join_42 : decode cX3_join 42 = .ok (.iload 4, 2) := by decide +kernel
theorem dX3_join_44 : decode cX3_join 44 = .ok (.iastore, 1) := by decide +kernel
theorem dX3_join_45 : decode cX3_join 45 = .ok (.iload 5, 2) := by decide +kernel
theorem dX3_join_47 : decode cX3_join 47 = .ok (.ireturn, 1) := by decide +kernel
theorem dX3_add_0 : decode cX3_add 0 = .ok (.aload_n 0, 1) := by decide +kernel
theorem dX3_add_1 : decode cX3_add 1 = .ok (.getfield 37, 3) := by decide +kernel
theorem dX3_add_4 : decode cX3_add 4 = .ok (.bipush 60, 2) := by decide +kernel
theorem dX3_add_6 : decode cX3_add 6 = .ok (.if_icmp .lt 5, 3) := by decide +kernel
theorem dX3_add_9 : decode cX3_add 9 = .ok (.iconst (-1), 1) := by decide +kernel
theorem dX3_add_10 : decode cX3_add 10 = .ok (.ireturn, 1) := by decide +kernel
theorem dX3_add_11 : decode cX3_add 11 = .ok (.aload_n 0, 1) := by decide +kernel
theorem dX3_add_12 : decode cX3_add 12 = .ok (.getfield 37, 3) := by decide +kernel
theorem dX3_add_15 : decode cX3_add 15 = .ok (.istore 4, 2) := by decide +kernel
theorem dX3_add_17 : decode cX3_add 17 = .ok (.aload_n 0, 1) := by decide +kernel
theorem dX3_add_18 : decode cX3_add 18 = .ok (.dup, 1) := by decide +kernel
theorem dX3_add_19 : decode cX3_add 19 = .ok (.getfield 37, 3) := by decide +kernel
theorem dX3_add_22 : decode cX3_add 22 = .ok (.iconst 1, 1) := by decide +kernel
theorem dX3_add_23 : decode cX3_add 23 = .ok (.iadd, 1) := by decide +kernel
theorem dX3_add_24 : decode cX3_add 24 = .ok (.putfield 37, 3) := by decide +kernel
theorem dX3_add_27 : decode cX3_add 27 = .ok (.aload_n 0, 1) := by decide +kernel
theorem dX3_add_28 : decode cX3_add 28 = .ok (.getfield 22, 3) := by decide +kernel
theorem dX3_add_31 : decode cX3_add 31 = .ok (.iload 4, 2) := by decide +kernel
theorem dX3_add_33 : decode cX3_add 33 = .ok (.iload_n 1, 1) := by decide +kernel
theorem dX3_add_34 : decode cX3_add 34 = .ok (.iastore, 1) := by decide +kernel
theorem dX3_add_35 : decode cX3_add 35 = .ok (.aload_n 0, 1) := by decide +kernel
theorem dX3_add_36 : decode cX3_add 36 = .ok (.getfield 25, 3) := by decide +kernel
theorem dX3_add_39 : decode cX3_add 39 = .ok (.iload 4, 2) := by decide +kernel
theorem dX3_add_41 : decode cX3_add 41 = .ok (.iload_n 2, 1) := by decide +kernel
theorem dX3_add_42 : decode cX3_add 42 = .ok (.iastore, 1) := by decide +kernel
theorem dX3_add_43 : decode cX3_add 43 = .ok (.aload_n 0, 1) := by decide +kernel
theorem dX3_add_44 : decode cX3_add 44 = .ok (.getfield 34, 3) := by decide +kernel
theorem dX3_add_47 : decode cX3_add 47 = .ok (.iload 4, 2) := by decide +kernel
theorem dX3_add_49 : decode cX3_add 49 = .ok (.iload_n 3, 1) := by decide +kernel
theorem dX3_add_50 : decode cX3_add 50 = .ok (.iastore, 1) := by decide +kernel
theorem dX3_add_51 : decode cX3_add 51 = .ok (.aload_n 0, 1) := by decide +kernel
theorem dX3_add_52 : decode cX3_add 52 = .ok (.getfield 28, 3) := by decide +kernel
theorem dX3_add_55 : decode cX3_add 55 = .ok (.iload 4, 2) := by decide +kernel
theorem dX3_add_57 : decode cX3_add 57 = .ok (.iload 4, 2) := by decide +kernel
theorem dX3_add_59 : decode cX3_add 59 = .ok (.iastore, 1) := by decide +kernel
theorem dX3_add_60 : decode cX3_add 60 = .ok (.aload_n 0, 1) := by decide +kernel
theorem dX3_add_61 : decode cX3_add 61 = .ok (.getfield 31, 3) := by decide +kernel
theorem dX3_add_64 : decode cX3_add 64 = .ok (.iload 4, 2) := by decide +kernel
theorem dX3_add_66 : decode cX3_add 66 = .ok (.iload 4, 2) := by decide +kernel
theorem dX3_add_68 : decode cX3_add 68 = .ok (.iastore, 1) := by decide +kernel
theorem dX3_add_69 : decode cX3_add 69 = .ok (.iload 4, 2) := by decide +kernel
theorem dX3_add_71 : decode cX3_add 71 = .ok (.ireturn, 1) := by decide +kernel
theorem dX4_standAs_0 : decode cX4_standAs 0 = .ok (.iconst 0, 1) := by decide +kernel
theorem dX4_standAs_1 : decode cX4_standAs 1 = .ok (.istore_n 2, 1) := by decide +kernel
theorem dX4_standAs_2 : decode cX4_standAs 2 = .ok (.iload_n 2, 1) := by decide +kernel
theorem dX4_standAs_3 : decode cX4_standAs 3 = .ok (.bipush 6, 2) := by decide +kernel
theorem dX4_standAs_5 : decode cX4_standAs 5 = .ok (.if_icmp .ge 24, 3) := by decide +kernel
theorem dX4_standAs_8 : decode cX4_standAs 8 = .ok (.aload_n 0, 1) := by decide +kernel
theorem dX4_standAs_9 : decode cX4_standAs 9 = .ok (.iload_n 2, 1) := by decide +kernel
theorem dX4_standAs_10 : decode cX4_standAs 10 = .ok (.aload_n 1, 1) := by decide +kernel
theorem dX4_standAs_11 : decode cX4_standAs 11 = .ok (.iload_n 2, 1) := by decide +kernel
theorem dX4_standAs_12 : decode cX4_standAs 12 = .ok (.invokevirtual 51, 3) := by decide +kernel
theorem dX4_standAs_15 : decode cX4_standAs 15 = .ok (.aload_n 1, 1) := by decide +kernel
theorem dX4_standAs_16 : decode cX4_standAs 16 = .ok (.iload_n 2, 1) := by decide +kernel
theorem dX4_standAs_17 : decode cX4_standAs 17 = .ok (.invokevirtual 57, 3) := by decide +kernel
theorem dX4_standAs_20 : decode cX4_standAs 20 = .ok (.invokevirtual 60, 3) := by decide +kernel
theorem dX4_standAs_23 : decode cX4_standAs 23 = .ok (.iinc 2 1, 3) := by decide +kernel
theorem dX4_standAs_26 : decode cX4_standAs 26 = .ok (.goto (-24), 3) := by decide +kernel
theorem dX4_standAs_29 : decode cX4_standAs 29 = .ok (.return_, 1) := by decide +kernel
theorem dX4_stand_0 : decode cX4_stand 0 = .ok (.aload_n 0, 1) := by decide +kernel
theorem dX4_stand_1 : decode cX4_stand 1 = .ok (.getfield 9, 3) := by decide +kernel
theorem dX4_stand_4 : decode cX4_stand 4 = .ok (.iload_n 1, 1) := by decide +kernel
theorem dX4_stand_5 : decode cX4_stand 5 = .ok (.iload_n 2, 1) := by decide +kernel
theorem dX4_stand_6 : decode cX4_stand 6 = .ok (.iastore, 1) := by decide +kernel
theorem dX4_stand_7 : decode cX4_stand 7 = .ok (.aload_n 0, 1) := by decide +kernel
theorem dX4_stand_8 : decode cX4_stand 8 = .ok (.getfield 15, 3) := by decide +kernel
theorem dX4_stand_11 : decode cX4_stand 11 = .ok (.iload_n 1, 1) := by decide +kernel
theorem dX4_stand_12 : decode cX4_stand 12 = .ok (.iload_n 3, 1) := by decide +kernel
theorem dX4_stand_13 : decode cX4_stand 13 = .ok (.iastore, 1) := by decide +kernel
theorem dX4_stand_14 : decode cX4_stand 14 = .ok (.return_, 1) := by decide +kernel
theorem dX4_carry_0 : decode cX4_carry 0 = .ok (.iconst 0, 1) := by decide +kernel
theorem dX4_carry_1 : decode cX4_carry 1 = .ok (.istore_n 2, 1) := by decide +kernel
theorem dX4_carry_2 : decode cX4_carry 2 = .ok (.iload_n 2, 1) := by decide +kernel
theorem dX4_carry_3 : decode cX4_carry 3 = .ok (.aload_n 1, 1) := by decide +kernel
theorem dX4_carry_4 : decode cX4_carry 4 = .ok (.getfield 64, 3) := by decide +kernel
theorem dX4_carry_7 : decode cX4_carry 7 = .ok (.if_icmp .ge 15, 3) := by decide +kernel
theorem dX4_carry_10 : decode cX4_carry 10 = .ok (.aload_n 0, 1) := by decide +kernel
theorem dX4_carry_11 : decode cX4_carry 11 = .ok (.aload_n 1, 1) := by decide +kernel
theorem dX4_carry_12 : decode cX4_carry 12 = .ok (.iload_n 2, 1) := by decide +kernel
theorem dX4_carry_13 : decode cX4_carry 13 = .ok (.invokevirtual 70, 3) := by decide +kernel
theorem dX4_carry_16 : decode cX4_carry 16 = .ok (.iinc 2 1, 3) := by decide +kernel
theorem dX4_carry_19 : decode cX4_carry 19 = .ok (.goto (-17), 3) := by decide +kernel
theorem dX4_carry_22 : decode cX4_carry 22 = .ok (.aload_n 1, 1) := by decide +kernel
theorem dX4_carry_23 : decode cX4_carry 23 = .ok (.getfield 64, 3) := by decide +kernel
theorem dX4_carry_26 : decode cX4_carry 26 = .ok (.iconst 1, 1) := by decide +kernel
theorem dX4_carry_27 : decode cX4_carry 27 = .ok (.isub, 1) := by decide +kernel
theorem dX4_carry_28 : decode cX4_carry 28 = .ok (.istore_n 2, 1) := by decide +kernel
theorem dX4_carry_29 : decode cX4_carry 29 = .ok (.aload_n 0, 1) := by decide +kernel
theorem dX4_carry_30 : decode cX4_carry 30 = .ok (.aload_n 0, 1) := by decide +kernel
theorem dX4_carry_31 : decode cX4_carry 31 = .ok (.getfield 37, 3) := by decide +kernel
theorem dX4_carry_34 : decode cX4_carry 34 = .ok (.getfield 74, 3) := by decide +kernel
theorem dX4_carry_37 : decode cX4_carry 37 = .ok (.iload_n 2, 1) := by decide +kernel
theorem dX4_carry_38 : decode cX4_carry 38 = .ok (.baload, 1) := by decide +kernel
theorem dX4_carry_39 : decode cX4_carry 39 = .ok (.putfield 18, 3) := by decide +kernel
theorem dX4_carry_42 : decode cX4_carry 42 = .ok (.aload_n 0, 1) := by decide +kernel
theorem dX4_carry_43 : decode cX4_carry 43 = .ok (.aload_n 0, 1) := by decide +kernel
theorem dX4_carry_44 : decode cX4_carry 44 = .ok (.getfield 37, 3) := by decide +kernel
theorem dX4_carry_47 : decode cX4_carry 47 = .ok (.getfield 77, 3) := by decide +kernel
theorem dX4_carry_50 : decode cX4_carry 50 = .ok (.iload_n 2, 1) := by decide +kernel
theorem dX4_carry_51 : decode cX4_carry 51 = .ok (.laload, 1) := by decide +kernel
theorem dX4_carry_52 : decode cX4_carry 52 = .ok (.putfield 22, 3) := by decide +kernel
theorem dX4_carry_55 : decode cX4_carry 55 = .ok (.aload_n 0, 1) := by decide +kernel
theorem dX4_carry_56 : decode cX4_carry 56 = .ok (.aload_n 0, 1) := by decide +kernel
theorem dX4_carry_57 : decode cX4_carry 57 = .ok (.getfield 37, 3) := by decide +kernel
theorem dX4_carry_60 : decode cX4_carry 60 = .ok (.getfield 79, 3) := by decide +kernel
theorem dX4_carry_63 : decode cX4_carry 63 = .ok (.iload_n 2, 1) := by decide +kernel
theorem dX4_carry_64 : decode cX4_carry 64 = .ok (.laload, 1) := by decide +kernel
theorem dX4_carry_65 : decode cX4_carry 65 = .ok (.putfield 26, 3) := by decide +kernel
theorem dX4_carry_68 : decode cX4_carry 68 = .ok (.return_, 1) := by decide +kernel
theorem dX4_carryPart_0 : decode cX4_carryPart 0 = .ok (.aload_n 1, 1) := by decide +kernel
theorem dX4_carryPart_1 : decode cX4_carryPart 1 = .ok (.getfield 81, 3) := by decide +kernel
theorem dX4_carryPart_4 : decode cX4_carryPart 4 = .ok (.iload_n 2, 1) := by decide +kernel
theorem dX4_carryPart_5 : decode cX4_carryPart 5 = .ok (.iaload, 1) := by decide +kernel
theorem dX4_carryPart_6 : decode cX4_carryPart 6 = .ok (.istore_n 3, 1) := by decide +kernel
theorem dX4_carryPart_7 : decode cX4_carryPart 7 = .ok (.aload_n 1, 1) := by decide +kernel
theorem dX4_carryPart_8 : decode cX4_carryPart 8 = .ok (.getfield 84, 3) := by decide +kernel
theorem dX4_carryPart_11 : decode cX4_carryPart 11 = .ok (.iload_n 2, 1) := by decide +kernel
theorem dX4_carryPart_12 : decode cX4_carryPart 12 = .ok (.iaload, 1) := by decide +kernel
theorem dX4_carryPart_13 : decode cX4_carryPart 13 = .ok (.istore 4, 2) := by decide +kernel
theorem dX4_carryPart_15 : decode cX4_carryPart 15 = .ok (.aload_n 1, 1) := by decide +kernel
theorem dX4_carryPart_16 : decode cX4_carryPart 16 = .ok (.getfield 87, 3) := by decide +kernel
theorem dX4_carryPart_19 : decode cX4_carryPart 19 = .ok (.iload_n 2, 1) := by decide +kernel
theorem dX4_carryPart_20 : decode cX4_carryPart 20 = .ok (.iaload, 1) := by decide +kernel
theorem dX4_carryPart_21 : decode cX4_carryPart 21 = .ok (.istore 5, 2) := by decide +kernel
theorem dX4_carryPart_23 : decode cX4_carryPart 23 = .ok (.aload_n 1, 1) := by decide +kernel
theorem dX4_carryPart_24 : decode cX4_carryPart 24 = .ok (.getfield 90, 3) := by decide +kernel
theorem dX4_carryPart_27 : decode cX4_carryPart 27 = .ok (.iload_n 2, 1) := by decide +kernel
theorem dX4_carryPart_28 : decode cX4_carryPart 28 = .ok (.iaload, 1) := by decide +kernel
theorem dX4_carryPart_29 : decode cX4_carryPart 29 = .ok (.tableswitch 139 0 4 #[35, 62, 79, 95, 117], 35) := by decide +kernel
theorem dX4_carryPart_64 : decode cX4_carryPart 64 = .ok (.aload_n 0, 1) := by decide +kernel
theorem dX4_carryPart_65 : decode cX4_carryPart 65 = .ok (.getfield 37, 3) := by decide +kernel
theorem dX4_carryPart_68 : decode cX4_carryPart 68 = .ok (.iload_n 2, 1) := by decide +kernel
theorem dX4_carryPart_69 : decode cX4_carryPart 69 = .ok (.aload_n 0, 1) := by decide +kernel
theorem dX4_carryPart_70 : decode cX4_carryPart 70 = .ok (.getfield 9, 3) := by decide +kernel
theorem dX4_carryPart_73 : decode cX4_carryPart 73 = .ok (.iload 5, 2) := by decide +kernel
theorem dX4_carryPart_75 : decode cX4_carryPart 75 = .ok (.iaload, 1) := by decide +kernel
theorem dX4_carryPart_76 : decode cX4_carryPart 76 = .ok (.i2l, 1) := by decide +kernel
theorem dX4_carryPart_77 : decode cX4_carryPart 77 = .ok (.aload_n 0, 1) := by decide +kernel
theorem dX4_carryPart_78 : decode cX4_carryPart 78 = .ok (.getfield 15, 3) := by decide +kernel
theorem dX4_carryPart_81 : decode cX4_carryPart 81 = .ok (.iload 5, 2) := by decide +kernel
theorem dX4_carryPart_83 : decode cX4_carryPart 83 = .ok (.iaload, 1) := by decide +kernel
theorem dX4_carryPart_84 : decode cX4_carryPart 84 = .ok (.i2l, 1) := by decide +kernel
theorem dX4_carryPart_85 : decode cX4_carryPart 85 = .ok (.invokevirtual 93, 3) := by decide +kernel
theorem dX4_carryPart_88 : decode cX4_carryPart 88 = .ok (.goto 99, 3) := by decide +kernel
theorem dX4_carryPart_91 : decode cX4_carryPart 91 = .ok (.aload_n 0, 1) := by decide +kernel
theorem dX4_carryPart_92 : decode cX4_carryPart 92 = .ok (.getfield 37, 3) := by decide +kernel
theorem dX4_carryPart_95 : decode cX4_carryPart 95 = .ok (.iload_n 2, 1) := by decide +kernel
theorem dX4_carryPart_96 : decode cX4_carryPart 96 = .ok (.iload 5, 2) := by decide +kernel
theorem dX4_carryPart_98 : decode cX4_carryPart 98 = .ok (.i2l, 1) := by decide +kernel
theorem dX4_carryPart_99 : decode cX4_carryPart 99 = .ok (.iload 5, 2) := by decide +kernel
theorem dX4_carryPart_101 : decode cX4_carryPart 101 = .ok (.i2l, 1) := by decide +kernel
theorem dX4_carryPart_102 : decode cX4_carryPart 102 = .ok (.invokevirtual 93, 3) := by decide +kernel
theorem dX4_carryPart_105 : decode cX4_carryPart 105 = .ok (.goto 82, 3) := by decide +kernel
theorem dX4_carryPart_108 : decode cX4_carryPart 108 = .ok (.aload_n 0, 1) := by decide +kernel
theorem dX4_carryPart_109 : decode cX4_carryPart 109 = .ok (.getfield 37, 3) := by decide +kernel
theorem dX4_carryPart_112 : decode cX4_carryPart 112 = .ok (.iload_n 2, 1) := by decide +kernel
theorem dX4_carryPart_113 : decode cX4_carryPart 113 = .ok (.aload_n 0, 1) := by decide +kernel
theorem dX4_carryPart_114 : decode cX4_carryPart 114 = .ok (.getfield 37, 3) := by decide +kernel
theorem dX4_carryPart_117 : decode cX4_carryPart 117 = .ok (.iload_n 3, 1) := by decide +kernel
theorem dX4_carryPart_118 : decode cX4_carryPart 118 = .ok (.invokevirtual 97, 3) := by decide +kernel
theorem dX4_carryPart_121 : decode cX4_carryPart 121 = .ok (.goto 66, 3) := by decide +kernel
theorem dX4_carryPart_124 : decode cX4_carryPart 124 = .ok (.aload_n 0, 1) := by decide +kernel
theorem dX4_carryPart_125 : decode cX4_carryPart 125 = .ok (.getfield 37, 3) := by decide +kernel
theorem dX4_carryPart_128 : decode cX4_carryPart 128 = .ok (.iload_n 2, 1) := by decide +kernel
theorem dX4_carryPart_129 : decode cX4_carryPart 129 = .ok (.aload_n 0, 1) := by decide +kernel
theorem dX4_carryPart_130 : decode cX4_carryPart 130 = .ok (.getfield 37, 3) := by decide +kernel
theorem dX4_carryPart_133 : decode cX4_carryPart 133 = .ok (.iload_n 3, 1) := by decide +kernel
theorem dX4_carryPart_134 : decode cX4_carryPart 134 = .ok (.aload_n 0, 1) := by decide +kernel
theorem dX4_carryPart_135 : decode cX4_carryPart 135 = .ok (.getfield 37, 3) := by decide +kernel
theorem dX4_carryPart_138 : decode cX4_carryPart 138 = .ok (.iload 4, 2) := by decide +kernel
theorem dX4_carryPart_140 : decode cX4_carryPart 140 = .ok (.invokevirtual 101, 3) := by decide +kernel
theorem dX4_carryPart_143 : decode cX4_carryPart 143 = .ok (.goto 44, 3) := by decide +kernel
theorem dX4_carryPart_146 : decode cX4_carryPart 146 = .ok (.aload_n 0, 1) := by decide +kernel
theorem dX4_carryPart_147 : decode cX4_carryPart 147 = .ok (.getfield 37, 3) := by decide +kernel
theorem dX4_carryPart_150 : decode cX4_carryPart 150 = .ok (.iload_n 2, 1) := by decide +kernel
theorem dX4_carryPart_151 : decode cX4_carryPart 151 = .ok (.aload_n 0, 1) := by decide +kernel
theorem dX4_carryPart_152 : decode cX4_carryPart 152 = .ok (.getfield 37, 3) := by decide +kernel
theorem dX4_carryPart_155 : decode cX4_carryPart 155 = .ok (.iload_n 3, 1) := by decide +kernel
theorem dX4_carryPart_156 : decode cX4_carryPart 156 = .ok (.aload_n 0, 1) := by decide +kernel
theorem dX4_carryPart_157 : decode cX4_carryPart 157 = .ok (.getfield 37, 3) := by decide +kernel
theorem dX4_carryPart_160 : decode cX4_carryPart 160 = .ok (.iload 4, 2) := by decide +kernel
theorem dX4_carryPart_162 : decode cX4_carryPart 162 = .ok (.invokevirtual 105, 3) := by decide +kernel
theorem dX4_carryPart_165 : decode cX4_carryPart 165 = .ok (.goto 22, 3) := by decide +kernel
theorem dX4_carryPart_168 : decode cX4_carryPart 168 = .ok (.aload_n 0, 1) := by decide +kernel
theorem dX4_carryPart_169 : decode cX4_carryPart 169 = .ok (.getfield 37, 3) := by decide +kernel
theorem dX4_carryPart_172 : decode cX4_carryPart 172 = .ok (.iload_n 2, 1) := by decide +kernel
theorem dX4_carryPart_173 : decode cX4_carryPart 173 = .ok (.aload_n 0, 1) := by decide +kernel
theorem dX4_carryPart_174 : decode cX4_carryPart 174 = .ok (.getfield 37, 3) := by decide +kernel
theorem dX4_carryPart_177 : decode cX4_carryPart 177 = .ok (.iload_n 3, 1) := by decide +kernel
theorem dX4_carryPart_178 : decode cX4_carryPart 178 = .ok (.aload_n 0, 1) := by decide +kernel
theorem dX4_carryPart_179 : decode cX4_carryPart 179 = .ok (.getfield 37, 3) := by decide +kernel
theorem dX4_carryPart_182 : decode cX4_carryPart 182 = .ok (.iload 4, 2) := by decide +kernel
theorem dX4_carryPart_184 : decode cX4_carryPart 184 = .ok (.invokevirtual 108, 3) := by decide +kernel
theorem dX4_carryPart_187 : decode cX4_carryPart 187 = .ok (.return_, 1) := by decide +kernel
theorem dX4_hasWidth_0 : decode cX4_hasWidth 0 = .ok (.aload_n 0, 1) := by decide +kernel
theorem dX4_hasWidth_1 : decode cX4_hasWidth 1 = .ok (.getfield 18, 3) := by decide +kernel
theorem dX4_hasWidth_4 : decode cX4_hasWidth 4 = .ok (.ifCond .ne 21, 3) := by decide +kernel
theorem dX4_hasWidth_7 : decode cX4_hasWidth 7 = .ok (.aload_n 0, 1) := by decide +kernel
theorem dX4_hasWidth_8 : decode cX4_hasWidth 8 = .ok (.getfield 26, 3) := by decide +kernel
theorem dX4_hasWidth_11 : decode cX4_hasWidth 11 = .ok (.aload_n 0, 1) := by decide +kernel
theorem dX4_hasWidth_12 : decode cX4_hasWidth 12 = .ok (.getfield 22, 3) := by decide +kernel
theorem dX4_hasWidth_15 : decode cX4_hasWidth 15 = .ok (.invokestatic 111, 3) := by decide +kernel
theorem dX4_hasWidth_18 : decode cX4_hasWidth 18 = .ok (.ifCond .eq 7, 3) := by decide +kernel
theorem dX4_hasWidth_21 : decode cX4_hasWidth 21 = .ok (.iconst 1, 1) := by decide +kernel
theorem dX4_hasWidth_22 : decode cX4_hasWidth 22 = .ok (.goto 4, 3) := by decide +kernel
theorem dX4_hasWidth_25 : decode cX4_hasWidth 25 = .ok (.iconst 0, 1) := by decide +kernel
theorem dX4_hasWidth_26 : decode cX4_hasWidth 26 = .ok (.ireturn, 1) := by decide +kernel
theorem dX4_told_0 : decode cX4_told 0 = .ok (.aload_n 0, 1) := by decide +kernel
theorem dX4_told_1 : decode cX4_told 1 = .ok (.getfield 18, 3) := by decide +kernel
theorem dX4_told_4 : decode cX4_told 4 = .ok (.ifCond .ne 15, 3) := by decide +kernel
theorem dX4_told_7 : decode cX4_told 7 = .ok (.iload_n 1, 1) := by decide +kernel
theorem dX4_told_8 : decode cX4_told 8 = .ok (.iconst 2, 1) := by decide +kernel
theorem dX4_told_9 : decode cX4_told 9 = .ok (.if_icmp .ne 14, 3) := by decide +kernel
theorem dX4_told_12 : decode cX4_told 12 = .ok (.aload_n 0, 1) := by decide +kernel
theorem dX4_told_13 : decode cX4_told 13 = .ok (.invokevirtual 115, 3) := by decide +kernel
theorem dX4_told_16 : decode cX4_told 16 = .ok (.ifCond .ne 7, 3) := by decide +kernel
theorem dX4_told_19 : decode cX4_told 19 = .ok (.ldc2_w 119, 3) := by decide +kernel
theorem dX4_told_22 : decode cX4_told 22 = .ok (.lreturn, 1) := by decide +kernel
theorem dX4_told_23 : decode cX4_told 23 = .ok (.iload_n 1, 1) := by decide +kernel
theorem dX4_told_24 : decode cX4_told 24 = .ok (.ifCond .ne 10, 3) := by decide +kernel
theorem dX4_told_27 : decode cX4_told 27 = .ok (.aload_n 0, 1) := by decide +kernel
theorem dX4_told_28 : decode cX4_told 28 = .ok (.getfield 22, 3) := by decide +kernel
theorem dX4_told_31 : decode cX4_told 31 = .ok (.goto 24, 3) := by decide +kernel
theorem dX4_told_34 : decode cX4_told 34 = .ok (.iload_n 1, 1) := by decide +kernel
theorem dX4_told_35 : decode cX4_told 35 = .ok (.iconst 1, 1) := by decide +kernel
theorem dX4_told_36 : decode cX4_told 36 = .ok (.if_icmp .ne 10, 3) := by decide +kernel
theorem dX4_told_39 : decode cX4_told 39 = .ok (.aload_n 0, 1) := by decide +kernel
theorem dX4_told_40 : decode cX4_told 40 = .ok (.getfield 26, 3) := by decide +kernel
theorem dX4_told_43 : decode cX4_told 43 = .ok (.goto 12, 3) := by decide +kernel
theorem dX4_told_46 : decode cX4_told 46 = .ok (.aload_n 0, 1) := by decide +kernel
theorem dX4_told_47 : decode cX4_told 47 = .ok (.getfield 26, 3) := by decide +kernel
theorem dX4_told_50 : decode cX4_told 50 = .ok (.aload_n 0, 1) := by decide +kernel
theorem dX4_told_51 : decode cX4_told 51 = .ok (.getfield 22, 3) := by decide +kernel
theorem dX4_told_54 : decode cX4_told 54 = .ok (.lsub, 1) := by decide +kernel
theorem dX4_told_55 : decode cX4_told 55 = .ok (.lreturn, 1) := by decide +kernel
theorem dX4_firstOverOf_0 : decode cX4_firstOverOf 0 = .ok (.aload_n 1, 1) := by decide +kernel
theorem dX4_firstOverOf_1 : decode cX4_firstOverOf 1 = .ok (.getfield 90, 3) := by decide +kernel
theorem dX4_firstOverOf_4 : decode cX4_firstOverOf 4 = .ok (.iload_n 2, 1) := by decide +kernel
theorem dX4_firstOverOf_5 : decode cX4_firstOverOf 5 = .ok (.iaload, 1) := by decide +kernel
theorem dX4_firstOverOf_6 : decode cX4_firstOverOf 6 = .ok (.invokestatic 121, 3) := by decide +kernel
theorem dX4_firstOverOf_9 : decode cX4_firstOverOf 9 = .ok (.ifCond .ne 5, 3) := by decide +kernel
theorem dX4_firstOverOf_12 : decode cX4_firstOverOf 12 = .ok (.iconst (-1), 1) := by decide +kernel
theorem dX4_firstOverOf_13 : decode cX4_firstOverOf 13 = .ok (.ireturn, 1) := by decide +kernel
theorem dX4_firstOverOf_14 : decode cX4_firstOverOf 14 = .ok (.aload_n 0, 1) := by decide +kernel
theorem dX4_firstOverOf_15 : decode cX4_firstOverOf 15 = .ok (.getfield 37, 3) := by decide +kernel
theorem dX4_firstOverOf_18 : decode cX4_firstOverOf 18 = .ok (.getfield 74, 3) := by decide +kernel
theorem dX4_firstOverOf_21 : decode cX4_firstOverOf 21 = .ok (.aload_n 1, 1) := by decide +kernel
theorem dX4_firstOverOf_22 : decode cX4_firstOverOf 22 = .ok (.getfield 81, 3) := by decide +kernel
theorem dX4_firstOverOf_25 : decode cX4_firstOverOf 25 = .ok (.iload_n 2, 1) := by decide +kernel
theorem dX4_firstOverOf_26 : decode cX4_firstOverOf 26 = .ok (.iaload, 1) := by decide +kernel
theorem dX4_firstOverOf_27 : decode cX4_firstOverOf 27 = .ok (.baload, 1) := by decide +kernel
theorem dX4_firstOverOf_28 : decode cX4_firstOverOf 28 = .ok (.ifCond .eq 10, 3) := by decide +kernel
theorem dX4_firstOverOf_31 : decode cX4_firstOverOf 31 = .ok (.aload_n 1, 1) := by decide +kernel
theorem dX4_firstOverOf_32 : decode cX4_firstOverOf 32 = .ok (.getfield 81, 3) := by decide +kernel
theorem dX4_firstOverOf_35 : decode cX4_firstOverOf 35 = .ok (.iload_n 2, 1) := by decide +kernel
theorem dX4_firstOverOf_36 : decode cX4_firstOverOf 36 = .ok (.iaload, 1) := by decide +kernel
theorem dX4_firstOverOf_37 : decode cX4_firstOverOf 37 = .ok (.ireturn, 1) := by decide +kernel
theorem dX4_firstOverOf_38 : decode cX4_firstOverOf 38 = .ok (.aload_n 0, 1) := by decide +kernel
theorem dX4_firstOverOf_39 : decode cX4_firstOverOf 39 = .ok (.getfield 37, 3) := by decide +kernel
theorem dX4_firstOverOf_42 : decode cX4_firstOverOf 42 = .ok (.getfield 74, 3) := by decide +kernel
theorem dX4_firstOverOf_45 : decode cX4_firstOverOf 45 = .ok (.aload_n 1, 1) := by decide +kernel
theorem dX4_firstOverOf_46 : decode cX4_firstOverOf 46 = .ok (.getfield 84, 3) := by decide +kernel
theorem dX4_firstOverOf_49 : decode cX4_firstOverOf 49 = .ok (.iload_n 2, 1) := by decide +kernel
theorem dX4_firstOverOf_50 : decode cX4_firstOverOf 50 = .ok (.iaload, 1) := by decide +kernel
theorem dX4_firstOverOf_51 : decode cX4_firstOverOf 51 = .ok (.baload, 1) := by decide +kernel
theorem dX4_firstOverOf_52 : decode cX4_firstOverOf 52 = .ok (.ifCond .eq 12, 3) := by decide +kernel
theorem dX4_firstOverOf_55 : decode cX4_firstOverOf 55 = .ok (.aload_n 1, 1) := by decide +kernel
theorem dX4_firstOverOf_56 : decode cX4_firstOverOf 56 = .ok (.getfield 84, 3) := by decide +kernel
theorem dX4_firstOverOf_59 : decode cX4_firstOverOf 59 = .ok (.iload_n 2, 1) := by decide +kernel
theorem dX4_firstOverOf_60 : decode cX4_firstOverOf 60 = .ok (.iaload, 1) := by decide +kernel
theorem dX4_firstOverOf_61 : decode cX4_firstOverOf 61 = .ok (.goto 4, 3) := by decide +kernel
theorem dX4_firstOverOf_64 : decode cX4_firstOverOf 64 = .ok (.iconst (-1), 1) := by decide +kernel
theorem dX4_firstOverOf_65 : decode cX4_firstOverOf 65 = .ok (.ireturn, 1) := by decide +kernel
theorem dX4_changeBy_0 : decode cX4_changeBy 0 = .ok (.iconst 0, 1) := by decide +kernel
theorem dX4_changeBy_1 : decode cX4_changeBy 1 = .ok (.istore_n 3, 1) := by decide +kernel
theorem dX4_changeBy_2 : decode cX4_changeBy 2 = .ok (.iload_n 3, 1) := by decide +kernel
theorem dX4_changeBy_3 : decode cX4_changeBy 3 = .ok (.aload_n 1, 1) := by decide +kernel
theorem dX4_changeBy_4 : decode cX4_changeBy 4 = .ok (.getfield 64, 3) := by decide +kernel
theorem dX4_changeBy_7 : decode cX4_changeBy 7 = .ok (.if_icmp .ge 16, 3) := by decide +kernel
theorem dX4_changeBy_10 : decode cX4_changeBy 10 = .ok (.aload_n 0, 1) := by decide +kernel
theorem dX4_changeBy_11 : decode cX4_changeBy 11 = .ok (.aload_n 1, 1) := by decide +kernel
theorem dX4_changeBy_12 : decode cX4_changeBy 12 = .ok (.iload_n 3, 1) := by decide +kernel
theorem dX4_changeBy_13 : decode cX4_changeBy 13 = .ok (.iload_n 2, 1) := by decide +kernel
theorem dX4_changeBy_14 : decode cX4_changeBy 14 = .ok (.invokevirtual 125, 3) := by decide +kernel
theorem dX4_changeBy_17 : decode cX4_changeBy 17 = .ok (.iinc 3 1, 3) := by decide +kernel
theorem dX4_changeBy_20 : decode cX4_changeBy 20 = .ok (.goto (-18), 3) := by decide +kernel
theorem dX4_changeBy_23 : decode cX4_changeBy 23 = .ok (.aload_n 1, 1) := by decide +kernel
theorem dX4_changeBy_24 : decode cX4_changeBy 24 = .ok (.getfield 64, 3) := by decide +kernel
theorem dX4_changeBy_27 : decode cX4_changeBy 27 = .ok (.iconst 1, 1) := by decide +kernel
theorem dX4_changeBy_28 : decode cX4_changeBy 28 = .ok (.isub, 1) := by decide +kernel
theorem dX4_changeBy_29 : decode cX4_changeBy 29 = .ok (.istore_n 3, 1) := by decide +kernel
theorem dX4_changeBy_30 : decode cX4_changeBy 30 = .ok (.aload_n 0, 1) := by decide +kernel
theorem dX4_changeBy_31 : decode cX4_changeBy 31 = .ok (.getfield 41, 3) := by decide +kernel
theorem dX4_changeBy_34 : decode cX4_changeBy 34 = .ok (.getfield 74, 3) := by decide +kernel
theorem dX4_changeBy_37 : decode cX4_changeBy 37 = .ok (.iload_n 3, 1) := by decide +kernel
theorem dX4_changeBy_38 : decode cX4_changeBy 38 = .ok (.baload, 1) := by decide +kernel
theorem dX4_changeBy_39 : decode cX4_changeBy 39 = .ok (.ifCond .eq 5, 3) := by decide +kernel
theorem dX4_changeBy_42 : decode cX4_changeBy 42 = .ok (.iconst 3, 1) := by decide +kernel
theorem dX4_changeBy_43 : decode cX4_changeBy 43 = .ok (.ireturn, 1) := by decide +kernel
theorem dX4_changeBy_44 : decode cX4_changeBy 44 = .ok (.aload_n 0, 1) := by decide +kernel
theorem dX4_changeBy_45 : decode cX4_changeBy 45 = .ok (.getfield 41, 3) := by decide +kernel
theorem dX4_changeBy_48 : decode cX4_changeBy 48 = .ok (.getfield 77, 3) := by decide +kernel
theorem dX4_changeBy_51 : decode cX4_changeBy 51 = .ok (.iload_n 3, 1) := by decide +kernel
theorem dX4_changeBy_52 : decode cX4_changeBy 52 = .ok (.laload, 1) := by decide +kernel
theorem dX4_changeBy_53 : decode cX4_changeBy 53 = .ok (.lconst 0, 1) := by decide +kernel
theorem dX4_changeBy_54 : decode cX4_changeBy 54 = .ok (.lcmp, 1) := by decide +kernel
theorem dX4_changeBy_55 : decode cX4_changeBy 55 = .ok (.ifCond .ne 19, 3) := by decide +kernel
theorem dX4_changeBy_58 : decode cX4_changeBy 58 = .ok (.aload_n 0, 1) := by decide +kernel
theorem dX4_changeBy_59 : decode cX4_changeBy 59 = .ok (.getfield 41, 3) := by decide +kernel
theorem dX4_changeBy_62 : decode cX4_changeBy 62 = .ok (.getfield 79, 3) := by decide +kernel
theorem dX4_changeBy_65 : decode cX4_changeBy 65 = .ok (.iload_n 3, 1) := by decide +kernel
theorem dX4_changeBy_66 : decode cX4_changeBy 66 = .ok (.laload, 1) := by decide +kernel
theorem dX4_changeBy_67 : decode cX4_changeBy 67 = .ok (.lconst 0, 1) := by decide +kernel
theorem dX4_changeBy_68 : decode cX4_changeBy 68 = .ok (.lcmp, 1) := by decide +kernel
theorem dX4_changeBy_69 : decode cX4_changeBy 69 = .ok (.ifCond .ne 5, 3) := by decide +kernel
theorem dX4_changeBy_72 : decode cX4_changeBy 72 = .ok (.iconst 0, 1) := by decide +kernel
theorem dX4_changeBy_73 : decode cX4_changeBy 73 = .ok (.ireturn, 1) := by decide +kernel
theorem dX4_changeBy_74 : decode cX4_changeBy 74 = .ok (.aload_n 0, 1) := by decide +kernel
theorem dX4_changeBy_75 : decode cX4_changeBy 75 = .ok (.getfield 41, 3) := by decide +kernel
theorem dX4_changeBy_78 : decode cX4_changeBy 78 = .ok (.getfield 77, 3) := by decide +kernel
theorem dX4_changeBy_81 : decode cX4_changeBy 81 = .ok (.iload_n 3, 1) := by decide +kernel
theorem dX4_changeBy_82 : decode cX4_changeBy 82 = .ok (.laload, 1) := by decide +kernel
theorem dX4_changeBy_83 : decode cX4_changeBy 83 = .ok (.lconst 0, 1) := by decide +kernel
theorem dX4_changeBy_84 : decode cX4_changeBy 84 = .ok (.lcmp, 1) := by decide +kernel
theorem dX4_changeBy_85 : decode cX4_changeBy 85 = .ok (.ifCond .lt 5, 3) := by decide +kernel
theorem dX4_changeBy_88 : decode cX4_changeBy 88 = .ok (.iconst 1, 1) := by decide +kernel
theorem dX4_changeBy_89 : decode cX4_changeBy 89 = .ok (.ireturn, 1) := by decide +kernel
theorem dX4_changeBy_90 : decode cX4_changeBy 90 = .ok (.aload_n 0, 1) := by decide +kernel
theorem dX4_changeBy_91 : decode cX4_changeBy 91 = .ok (.getfield 41, 3) := by decide +kernel
theorem dX4_changeBy_94 : decode cX4_changeBy 94 = .ok (.getfield 79, 3) := by decide +kernel
theorem dX4_changeBy_97 : decode cX4_changeBy 97 = .ok (.iload_n 3, 1) := by decide +kernel
theorem dX4_changeBy_98 : decode cX4_changeBy 98 = .ok (.laload, 1) := by decide +kernel
theorem dX4_changeBy_99 : decode cX4_changeBy 99 = .ok (.lconst 0, 1) := by decide +kernel
theorem dX4_changeBy_100 : decode cX4_changeBy 100 = .ok (.lcmp, 1) := by decide +kernel
theorem dX4_changeBy_101 : decode cX4_changeBy 101 = .ok (.ifCond .gt 7, 3) := by decide +kernel
theorem dX4_changeBy_104 : decode cX4_changeBy 104 = .ok (.iconst 2, 1) := by decide +kernel
theorem dX4_changeBy_105 : decode cX4_changeBy 105 = .ok (.goto 4, 3) := by decide +kernel
theorem dX4_changeBy_108 : decode cX4_changeBy 108 = .ok (.iconst 3, 1) := by decide +kernel
theorem dX4_changeBy_109 : decode cX4_changeBy 109 = .ok (.ireturn, 1) := by decide +kernel
theorem dX4_changePart_0 : decode cX4_changePart 0 = .ok (.aload_n 1, 1) := by decide +kernel
theorem dX4_changePart_1 : decode cX4_changePart 1 = .ok (.getfield 81, 3) := by decide +kernel
theorem dX4_changePart_4 : decode cX4_changePart 4 = .ok (.iload_n 2, 1) := by decide +kernel
theorem dX4_changePart_5 : decode cX4_changePart 5 = .ok (.iaload, 1) := by decide +kernel
theorem dX4_changePart_6 : decode cX4_changePart 6 = .ok (.istore 4, 2) := by decide +kernel
theorem dX4_changePart_8 : decode cX4_changePart 8 = .ok (.aload_n 1, 1) := by decide +kernel
theorem dX4_changePart_9 : decode cX4_changePart 9 = .ok (.getfield 84, 3) := by decide +kernel
theorem dX4_changePart_12 : decode cX4_changePart 12 = .ok (.iload_n 2, 1) := by decide +kernel
theorem dX4_changePart_13 : decode cX4_changePart 13 = .ok (.iaload, 1) := by decide +kernel
theorem dX4_changePart_14 : decode cX4_changePart 14 = .ok (.istore 5, 2) := by decide +kernel
theorem dX4_changePart_16 : decode cX4_changePart 16 = .ok (.aload_n 1, 1) := by decide +kernel
theorem dX4_changePart_17 : decode cX4_changePart 17 = .ok (.getfield 90, 3) := by decide +kernel
theorem dX4_changePart_20 : decode cX4_changePart 20 = .ok (.iload_n 2, 1) := by decide +kernel
theorem dX4_changePart_21 : decode cX4_changePart 21 = .ok (.iaload, 1) := by decide +kernel
theorem dX4_changePart_22 : decode cX4_changePart 22 = .ok (.tableswitch 144 0 4 #[34, 68, 81, 98, 121], 34) := by decide +kernel
theorem dX4_changePart_56 : decode cX4_changePart 56 = .ok (.aload_n 1, 1) := by decide +kernel
theorem dX4_changePart_57 : decode cX4_changePart 57 = .ok (.getfield 87, 3) := by decide +kernel
theorem dX4_changePart_60 : decode cX4_changePart 60 = .ok (.iload_n 2, 1) := by decide +kernel
theorem dX4_changePart_61 : decode cX4_changePart 61 = .ok (.iaload, 1) := by decide +kernel
theorem dX4_changePart_62 : decode cX4_changePart 62 = .ok (.iload_n 3, 1) := by decide +kernel
theorem dX4_changePart_63 : decode cX4_changePart 63 = .ok (.if_icmp .ne 7, 3) := by decide +kernel
theorem dX4_changePart_66 : decode cX4_changePart 66 = .ok (.iconst 1, 1) := by decide +kernel
theorem dX4_changePart_67 : decode cX4_changePart 67 = .ok (.goto 4, 3) := by decide +kernel
theorem dX4_changePart_70 : decode cX4_changePart 70 = .ok (.iconst 0, 1) := by decide +kernel
theorem dX4_changePart_71 : decode cX4_changePart 71 = .ok (.istore 6, 2) := by decide +kernel
theorem dX4_changePart_73 : decode cX4_changePart 73 = .ok (.aload_n 0, 1) := by decide +kernel
theorem dX4_changePart_74 : decode cX4_changePart 74 = .ok (.getfield 41, 3) := by decide +kernel
theorem dX4_changePart_77 : decode cX4_changePart 77 = .ok (.iload_n 2, 1) := by decide +kernel
theorem dX4_changePart_78 : decode cX4_changePart 78 = .ok (.iload 6, 2) := by decide +kernel
theorem dX4_changePart_80 : decode cX4_changePart 80 = .ok (.i2l, 1) := by decide +kernel
theorem dX4_changePart_81 : decode cX4_changePart 81 = .ok (.iload 6, 2) := by decide +kernel
theorem dX4_changePart_83 : decode cX4_changePart 83 = .ok (.i2l, 1) := by decide +kernel
theorem dX4_changePart_84 : decode cX4_changePart 84 = .ok (.invokevirtual 93, 3) := by decide +kernel
theorem dX4_changePart_87 : decode cX4_changePart 87 = .ok (.goto 137, 3) := by decide +kernel
theorem dX4_changePart_90 : decode cX4_changePart 90 = .ok (.aload_n 0, 1) := by decide +kernel
theorem dX4_changePart_91 : decode cX4_changePart 91 = .ok (.getfield 41, 3) := by decide +kernel
theorem dX4_changePart_94 : decode cX4_changePart 94 = .ok (.iload_n 2, 1) := by decide +kernel
theorem dX4_changePart_95 : decode cX4_changePart 95 = .ok (.lconst 0, 1) := by decide +kernel
theorem dX4_changePart_96 : decode cX4_changePart 96 = .ok (.lconst 0, 1) := by decide +kernel
theorem dX4_changePart_97 : decode cX4_changePart 97 = .ok (.invokevirtual 93, 3) := by decide +kernel
theorem dX4_changePart_100 : decode cX4_changePart 100 = .ok (.goto 124, 3) := by decide +kernel
theorem dX4_changePart_103 : decode cX4_changePart 103 = .ok (.aload_n 0, 1) := by decide +kernel
theorem dX4_changePart_104 : decode cX4_changePart 104 = .ok (.getfield 41, 3) := by decide +kernel
theorem dX4_changePart_107 : decode cX4_changePart 107 = .ok (.iload_n 2, 1) := by decide +kernel
theorem dX4_changePart_108 : decode cX4_changePart 108 = .ok (.aload_n 0, 1) := by decide +kernel
theorem dX4_changePart_109 : decode cX4_changePart 109 = .ok (.getfield 41, 3) := by decide +kernel
theorem dX4_changePart_112 : decode cX4_changePart 112 = .ok (.iload 4, 2) := by decide +kernel
theorem dX4_changePart_114 : decode cX4_changePart 114 = .ok (.invokevirtual 97, 3) := by decide +kernel
theorem dX4_changePart_117 : decode cX4_changePart 117 = .ok (.goto 107, 3) := by decide +kernel
theorem dX4_changePart_120 : decode cX4_changePart 120 = .ok (.aload_n 0, 1) := by decide +kernel
theorem dX4_changePart_121 : decode cX4_changePart 121 = .ok (.getfield 41, 3) := by decide +kernel
theorem dX4_changePart_124 : decode cX4_changePart 124 = .ok (.iload_n 2, 1) := by decide +kernel
theorem dX4_changePart_125 : decode cX4_changePart 125 = .ok (.aload_n 0, 1) := by decide +kernel
theorem dX4_changePart_126 : decode cX4_changePart 126 = .ok (.getfield 41, 3) := by decide +kernel
theorem dX4_changePart_129 : decode cX4_changePart 129 = .ok (.iload 4, 2) := by decide +kernel
theorem dX4_changePart_131 : decode cX4_changePart 131 = .ok (.aload_n 0, 1) := by decide +kernel
theorem dX4_changePart_132 : decode cX4_changePart 132 = .ok (.getfield 41, 3) := by decide +kernel
theorem dX4_changePart_135 : decode cX4_changePart 135 = .ok (.iload 5, 2) := by decide +kernel
theorem dX4_changePart_137 : decode cX4_changePart 137 = .ok (.invokevirtual 101, 3) := by decide +kernel
theorem dX4_changePart_140 : decode cX4_changePart 140 = .ok (.goto 84, 3) := by decide +kernel
theorem dX4_changePart_143 : decode cX4_changePart 143 = .ok (.aload_n 0, 1) := by decide +kernel
theorem dX4_changePart_144 : decode cX4_changePart 144 = .ok (.getfield 41, 3) := by decide +kernel
theorem dX4_changePart_147 : decode cX4_changePart 147 = .ok (.iload_n 2, 1) := by decide +kernel
theorem dX4_changePart_148 : decode cX4_changePart 148 = .ok (.aload_n 0, 1) := by decide +kernel
theorem dX4_changePart_149 : decode cX4_changePart 149 = .ok (.getfield 41, 3) := by decide +kernel
theorem dX4_changePart_152 : decode cX4_changePart 152 = .ok (.iload 4, 2) := by decide +kernel
theorem dX4_changePart_154 : decode cX4_changePart 154 = .ok (.aload_n 0, 1) := by decide +kernel
theorem dX4_changePart_155 : decode cX4_changePart 155 = .ok (.getfield 41, 3) := by decide +kernel
theorem dX4_changePart_158 : decode cX4_changePart 158 = .ok (.iload 5, 2) := by decide +kernel
theorem dX4_changePart_160 : decode cX4_changePart 160 = .ok (.invokevirtual 105, 3) := by decide +kernel
theorem dX4_changePart_163 : decode cX4_changePart 163 = .ok (.goto 61, 3) := by decide +kernel
theorem dX4_changePart_166 : decode cX4_changePart 166 = .ok (.aload_n 0, 1) := by decide +kernel
theorem dX4_changePart_167 : decode cX4_changePart 167 = .ok (.getfield 44, 3) := by decide +kernel
theorem dX4_changePart_170 : decode cX4_changePart 170 = .ok (.iconst 0, 1) := by decide +kernel
theorem dX4_changePart_171 : decode cX4_changePart 171 = .ok (.aload_n 0, 1) := by decide +kernel
theorem dX4_changePart_172 : decode cX4_changePart 172 = .ok (.getfield 41, 3) := by decide +kernel
theorem dX4_changePart_175 : decode cX4_changePart 175 = .ok (.iload 4, 2) := by decide +kernel
theorem dX4_changePart_177 : decode cX4_changePart 177 = .ok (.aload_n 0, 1) := by decide +kernel
theorem dX4_changePart_178 : decode cX4_changePart 178 = .ok (.getfield 37, 3) := by decide +kernel
theorem dX4_changePart_181 : decode cX4_changePart 181 = .ok (.iload 5, 2) := by decide +kernel
theorem dX4_changePart_183 : decode cX4_changePart 183 = .ok (.invokevirtual 108, 3) := by decide +kernel
theorem dX4_changePart_186 : decode cX4_changePart 186 = .ok (.aload_n 0, 1) := by decide +kernel
theorem dX4_changePart_187 : decode cX4_changePart 187 = .ok (.getfield 44, 3) := by decide +kernel
theorem dX4_changePart_190 : decode cX4_changePart 190 = .ok (.iconst 1, 1) := by decide +kernel
theorem dX4_changePart_191 : decode cX4_changePart 191 = .ok (.aload_n 0, 1) := by decide +kernel
theorem dX4_changePart_192 : decode cX4_changePart 192 = .ok (.getfield 37, 3) := by decide +kernel
theorem dX4_changePart_195 : decode cX4_changePart 195 = .ok (.iload 4, 2) := by decide +kernel
theorem dX4_changePart_197 : decode cX4_changePart 197 = .ok (.aload_n 0, 1) := by decide +kernel
theorem dX4_changePart_198 : decode cX4_changePart 198 = .ok (.getfield 41, 3) := by decide +kernel
theorem dX4_changePart_201 : decode cX4_changePart 201 = .ok (.iload 5, 2) := by decide +kernel
theorem dX4_changePart_203 : decode cX4_changePart 203 = .ok (.invokevirtual 108, 3) := by decide +kernel
theorem dX4_changePart_206 : decode cX4_changePart 206 = .ok (.aload_n 0, 1) := by decide +kernel
theorem dX4_changePart_207 : decode cX4_changePart 207 = .ok (.getfield 41, 3) := by decide +kernel
theorem dX4_changePart_210 : decode cX4_changePart 210 = .ok (.iload_n 2, 1) := by decide +kernel
theorem dX4_changePart_211 : decode cX4_changePart 211 = .ok (.aload_n 0, 1) := by decide +kernel
theorem dX4_changePart_212 : decode cX4_changePart 212 = .ok (.getfield 44, 3) := by decide +kernel
theorem dX4_changePart_215 : decode cX4_changePart 215 = .ok (.iconst 0, 1) := by decide +kernel
theorem dX4_changePart_216 : decode cX4_changePart 216 = .ok (.aload_n 0, 1) := by decide +kernel
theorem dX4_changePart_217 : decode cX4_changePart 217 = .ok (.getfield 44, 3) := by decide +kernel
theorem dX4_changePart_220 : decode cX4_changePart 220 = .ok (.iconst 1, 1) := by decide +kernel
theorem dX4_changePart_221 : decode cX4_changePart 221 = .ok (.invokevirtual 101, 3) := by decide +kernel
theorem dX4_changePart_224 : decode cX4_changePart 224 = .ok (.return_, 1) := by decide +kernel
theorem dX4_worthOf_0 : decode cX4_worthOf 0 = .ok (.iconst 0, 1) := by decide +kernel
theorem dX4_worthOf_1 : decode cX4_worthOf 1 = .ok (.istore_n 2, 1) := by decide +kernel
theorem dX4_worthOf_2 : decode cX4_worthOf 2 = .ok (.iload_n 2, 1) := by decide +kernel
theorem dX4_worthOf_3 : decode cX4_worthOf 3 = .ok (.aload_n 1, 1) := by decide +kernel
theorem dX4_worthOf_4 : decode cX4_worthOf 4 = .ok (.getfield 64, 3) := by decide +kernel
theorem dX4_worthOf_7 : decode cX4_worthOf 7 = .ok (.if_icmp .ge 21, 3) := by decide +kernel
theorem dX4_worthOf_10 : decode cX4_worthOf 10 = .ok (.aload_n 0, 1) := by decide +kernel
theorem dX4_worthOf_11 : decode cX4_worthOf 11 = .ok (.getfield 47, 3) := by decide +kernel
theorem dX4_worthOf_14 : decode cX4_worthOf 14 = .ok (.iload_n 2, 1) := by decide +kernel
theorem dX4_worthOf_15 : decode cX4_worthOf 15 = .ok (.aload_n 0, 1) := by decide +kernel
theorem dX4_worthOf_16 : decode cX4_worthOf 16 = .ok (.aload_n 1, 1) := by decide +kernel
theorem dX4_worthOf_17 : decode cX4_worthOf 17 = .ok (.iload_n 2, 1) := by decide +kernel
theorem dX4_worthOf_18 : decode cX4_worthOf 18 = .ok (.invokevirtual 129, 3) := by decide +kernel
theorem dX4_worthOf_21 : decode cX4_worthOf 21 = .ok (.lastore, 1) := by decide +kernel
theorem dX4_worthOf_22 : decode cX4_worthOf 22 = .ok (.iinc 2 1, 3) := by decide +kernel
theorem dX4_worthOf_25 : decode cX4_worthOf 25 = .ok (.goto (-23), 3) := by decide +kernel
theorem dX4_worthOf_28 : decode cX4_worthOf 28 = .ok (.aload_n 0, 1) := by decide +kernel
theorem dX4_worthOf_29 : decode cX4_worthOf 29 = .ok (.getfield 47, 3) := by decide +kernel
theorem dX4_worthOf_32 : decode cX4_worthOf 32 = .ok (.aload_n 1, 1) := by decide +kernel
theorem dX4_worthOf_33 : decode cX4_worthOf 33 = .ok (.getfield 64, 3) := by decide +kernel
theorem dX4_worthOf_36 : decode cX4_worthOf 36 = .ok (.iconst 1, 1) := by decide +kernel
theorem dX4_worthOf_37 : decode cX4_worthOf 37 = .ok (.isub, 1) := by decide +kernel
theorem dX4_worthOf_38 : decode cX4_worthOf 38 = .ok (.laload, 1) := by decide +kernel
theorem dX4_worthOf_39 : decode cX4_worthOf 39 = .ok (.lreturn, 1) := by decide +kernel
theorem dX4_worthOfPart_0 : decode cX4_worthOfPart 0 = .ok (.aload_n 1, 1) := by decide +kernel
theorem dX4_worthOfPart_1 : decode cX4_worthOfPart 1 = .ok (.getfield 81, 3) := by decide +kernel
theorem dX4_worthOfPart_4 : decode cX4_worthOfPart 4 = .ok (.iload_n 2, 1) := by decide +kernel
theorem dX4_worthOfPart_5 : decode cX4_worthOfPart 5 = .ok (.iaload, 1) := by decide +kernel
theorem dX4_worthOfPart_6 : decode cX4_worthOfPart 6 = .ok (.istore_n 3, 1) := by decide +kernel
theorem dX4_worthOfPart_7 : decode cX4_worthOfPart 7 = .ok (.aload_n 1, 1) := by decide +kernel
theorem dX4_worthOfPart_8 : decode cX4_worthOfPart 8 = .ok (.getfield 84, 3) := by decide +kernel
theorem dX4_worthOfPart_11 : decode cX4_worthOfPart 11 = .ok (.iload_n 2, 1) := by decide +kernel
theorem dX4_worthOfPart_12 : decode cX4_worthOfPart 12 = .ok (.iaload, 1) := by decide +kernel
theorem dX4_worthOfPart_13 : decode cX4_worthOfPart 13 = .ok (.istore 4, 2) := by decide +kernel
theorem dX4_worthOfPart_15 : decode cX4_worthOfPart 15 = .ok (.aload_n 1, 1) := by decide +kernel
theorem dX4_worthOfPart_16 : decode cX4_worthOfPart 16 = .ok (.getfield 90, 3) := by decide +kernel
theorem dX4_worthOfPart_19 : decode cX4_worthOfPart 19 = .ok (.iload_n 2, 1) := by decide +kernel
theorem dX4_worthOfPart_20 : decode cX4_worthOfPart 20 = .ok (.iaload, 1) := by decide +kernel
theorem dX4_worthOfPart_21 : decode cX4_worthOfPart 21 = .ok (.tableswitch 94 0 4 #[35, 48, 56, 64, 79], 35) := by decide +kernel
theorem dX4_worthOfPart_56 : decode cX4_worthOfPart 56 = .ok (.aload_n 0, 1) := by decide +kernel
theorem dX4_worthOfPart_57 : decode cX4_worthOfPart 57 = .ok (.getfield 29, 3) := by decide +kernel
theorem dX4_worthOfPart_60 : decode cX4_worthOfPart 60 = .ok (.aload_n 1, 1) := by decide +kernel
theorem dX4_worthOfPart_61 : decode cX4_worthOfPart 61 = .ok (.getfield 87, 3) := by decide +kernel
theorem dX4_worthOfPart_64 : decode cX4_worthOfPart 64 = .ok (.iload_n 2, 1) := by decide +kernel
theorem dX4_worthOfPart_65 : decode cX4_worthOfPart 65 = .ok (.iaload, 1) := by decide +kernel
theorem dX4_worthOfPart_66 : decode cX4_worthOfPart 66 = .ok (.iaload, 1) := by decide +kernel
theorem dX4_worthOfPart_67 : decode cX4_worthOfPart 67 = .ok (.i2l, 1) := by decide +kernel
theorem dX4_worthOfPart_68 : decode cX4_worthOfPart 68 = .ok (.lreturn, 1) := by decide +kernel
theorem dX4_worthOfPart_69 : decode cX4_worthOfPart 69 = .ok (.aload_n 1, 1) := by decide +kernel
theorem dX4_worthOfPart_70 : decode cX4_worthOfPart 70 = .ok (.getfield 87, 3) := by decide +kernel
theorem dX4_worthOfPart_73 : decode cX4_worthOfPart 73 = .ok (.iload_n 2, 1) := by decide +kernel
theorem dX4_worthOfPart_74 : decode cX4_worthOfPart 74 = .ok (.iaload, 1) := by decide +kernel
theorem dX4_worthOfPart_75 : decode cX4_worthOfPart 75 = .ok (.i2l, 1) := by decide +kernel
theorem dX4_worthOfPart_76 : decode cX4_worthOfPart 76 = .ok (.lreturn, 1) := by decide +kernel
theorem dX4_worthOfPart_77 : decode cX4_worthOfPart 77 = .ok (.aload_n 0, 1) := by decide +kernel
theorem dX4_worthOfPart_78 : decode cX4_worthOfPart 78 = .ok (.getfield 47, 3) := by decide +kernel
theorem dX4_worthOfPart_81 : decode cX4_worthOfPart 81 = .ok (.iload_n 3, 1) := by decide +kernel
theorem dX4_worthOfPart_82 : decode cX4_worthOfPart 82 = .ok (.laload, 1) := by decide +kernel
theorem dX4_worthOfPart_83 : decode cX4_worthOfPart 83 = .ok (.lneg, 1) := by decide +kernel
theorem dX4_worthOfPart_84 : decode cX4_worthOfPart 84 = .ok (.lreturn, 1) := by decide +kernel
theorem dX4_worthOfPart_85 : decode cX4_worthOfPart 85 = .ok (.aload_n 0, 1) := by decide +kernel
theorem dX4_worthOfPart_86 : decode cX4_worthOfPart 86 = .ok (.getfield 47, 3) := by decide +kernel
theorem dX4_worthOfPart_89 : decode cX4_worthOfPart 89 = .ok (.iload_n 3, 1) := by decide +kernel
theorem dX4_worthOfPart_90 : decode cX4_worthOfPart 90 = .ok (.laload, 1) := by decide +kernel
theorem dX4_worthOfPart_91 : decode cX4_worthOfPart 91 = .ok (.aload_n 0, 1) := by decide +kernel
theorem dX4_worthOfPart_92 : decode cX4_worthOfPart 92 = .ok (.getfield 47, 3) := by decide +kernel
theorem dX4_worthOfPart_95 : decode cX4_worthOfPart 95 = .ok (.iload 4, 2) := by decide +kernel
theorem dX4_worthOfPart_97 : decode cX4_worthOfPart 97 = .ok (.laload, 1) := by decide +kernel
theorem dX4_worthOfPart_98 : decode cX4_worthOfPart 98 = .ok (.ladd, 1) := by decide +kernel
theorem dX4_worthOfPart_99 : decode cX4_worthOfPart 99 = .ok (.lreturn, 1) := by decide +kernel
theorem dX4_worthOfPart_100 : decode cX4_worthOfPart 100 = .ok (.aload_n 0, 1) := by decide +kernel
theorem dX4_worthOfPart_101 : decode cX4_worthOfPart 101 = .ok (.getfield 47, 3) := by decide +kernel
theorem dX4_worthOfPart_104 : decode cX4_worthOfPart 104 = .ok (.iload_n 3, 1) := by decide +kernel
theorem dX4_worthOfPart_105 : decode cX4_worthOfPart 105 = .ok (.laload, 1) := by decide +kernel
theorem dX4_worthOfPart_106 : decode cX4_worthOfPart 106 = .ok (.aload_n 0, 1) := by decide +kernel
theorem dX4_worthOfPart_107 : decode cX4_worthOfPart 107 = .ok (.getfield 47, 3) := by decide +kernel
theorem dX4_worthOfPart_110 : decode cX4_worthOfPart 110 = .ok (.iload 4, 2) := by decide +kernel
theorem dX4_worthOfPart_112 : decode cX4_worthOfPart 112 = .ok (.laload, 1) := by decide +kernel
theorem dX4_worthOfPart_113 : decode cX4_worthOfPart 113 = .ok (.lsub, 1) := by decide +kernel
theorem dX4_worthOfPart_114 : decode cX4_worthOfPart 114 = .ok (.lreturn, 1) := by decide +kernel
theorem dX4_worthOfPart_115 : decode cX4_worthOfPart 115 = .ok (.aload_n 0, 1) := by decide +kernel
theorem dX4_worthOfPart_116 : decode cX4_worthOfPart 116 = .ok (.getfield 47, 3) := by decide +kernel
theorem dX4_worthOfPart_119 : decode cX4_worthOfPart 119 = .ok (.iload_n 3, 1) := by decide +kernel
theorem dX4_worthOfPart_120 : decode cX4_worthOfPart 120 = .ok (.laload, 1) := by decide +kernel
theorem dX4_worthOfPart_121 : decode cX4_worthOfPart 121 = .ok (.aload_n 0, 1) := by decide +kernel
theorem dX4_worthOfPart_122 : decode cX4_worthOfPart 122 = .ok (.getfield 47, 3) := by decide +kernel
theorem dX4_worthOfPart_125 : decode cX4_worthOfPart 125 = .ok (.iload 4, 2) := by decide +kernel
theorem dX4_worthOfPart_127 : decode cX4_worthOfPart 127 = .ok (.laload, 1) := by decide +kernel
theorem dX4_worthOfPart_128 : decode cX4_worthOfPart 128 = .ok (.lmul, 1) := by decide +kernel
theorem dX4_worthOfPart_129 : decode cX4_worthOfPart 129 = .ok (.lreturn, 1) := by decide +kernel
theorem dX4_drawBy_0 : decode cX4_drawBy 0 = .ok (.iload_n 1, 1) := by decide +kernel
theorem dX4_drawBy_1 : decode cX4_drawBy 1 = .ok (.istore_n 3, 1) := by decide +kernel
theorem dX4_drawBy_2 : decode cX4_drawBy 2 = .ok (.iconst 0, 1) := by decide +kernel
theorem dX4_drawBy_3 : decode cX4_drawBy 3 = .ok (.istore 4, 2) := by decide +kernel
theorem dX4_drawBy_5 : decode cX4_drawBy 5 = .ok (.iload 4, 2) := by decide +kernel
theorem dX4_drawBy_7 : decode cX4_drawBy 7 = .ok (.bipush 6, 2) := by decide +kernel
theorem dX4_drawBy_9 : decode cX4_drawBy 9 = .ok (.if_icmp .ge 55, 3) := by decide +kernel
theorem dX4_drawBy_12 : decode cX4_drawBy 12 = .ok (.iload_n 3, 1) := by decide +kernel
theorem dX4_drawBy_13 : decode cX4_drawBy 13 = .ok (.ldc 133, 2) := by decide +kernel
theorem dX4_drawBy_15 : decode cX4_drawBy 15 = .ok (.imul, 1) := by decide +kernel
theorem dX4_drawBy_16 : decode cX4_drawBy 16 = .ok (.sipush 12345, 3) := by decide +kernel
theorem dX4_drawBy_19 : decode cX4_drawBy 19 = .ok (.iadd, 1) := by decide +kernel
theorem dX4_drawBy_20 : decode cX4_drawBy 20 = .ok (.istore_n 3, 1) := by decide +kernel
theorem dX4_drawBy_21 : decode cX4_drawBy 21 = .ok (.iconst 2, 1) := by decide +kernel
theorem dX4_drawBy_22 : decode cX4_drawBy 22 = .ok (.aload_n 2, 1) := by decide +kernel
theorem dX4_drawBy_23 : decode cX4_drawBy 23 = .ok (.getfield 134, 3) := by decide +kernel
theorem dX4_drawBy_26 : decode cX4_drawBy 26 = .ok (.iload 4, 2) := by decide +kernel
theorem dX4_drawBy_28 : decode cX4_drawBy 28 = .ok (.iaload, 1) := by decide +kernel
theorem dX4_drawBy_29 : decode cX4_drawBy 29 = .ok (.imul, 1) := by decide +kernel
theorem dX4_drawBy_30 : decode cX4_drawBy 30 = .ok (.iconst 1, 1) := by decide +kernel
theorem dX4_drawBy_31 : decode cX4_drawBy 31 = .ok (.iadd, 1) := by decide +kernel
theorem dX4_drawBy_32 : decode cX4_drawBy 32 = .ok (.istore 5, 2) := by decide +kernel
theorem dX4_drawBy_34 : decode cX4_drawBy 34 = .ok (.aload_n 0, 1) := by decide +kernel
theorem dX4_drawBy_35 : decode cX4_drawBy 35 = .ok (.getfield 29, 3) := by decide +kernel
theorem dX4_drawBy_38 : decode cX4_drawBy 38 = .ok (.iload 4, 2) := by decide +kernel
theorem dX4_drawBy_40 : decode cX4_drawBy 40 = .ok (.aload_n 2, 1) := by decide +kernel
theorem dX4_drawBy_41 : decode cX4_drawBy 41 = .ok (.iload 4, 2) := by decide +kernel
theorem dX4_drawBy_43 : decode cX4_drawBy 43 = .ok (.invokevirtual 51, 3) := by decide +kernel
theorem dX4_drawBy_46 : decode cX4_drawBy 46 = .ok (.iload_n 3, 1) := by decide +kernel
theorem dX4_drawBy_47 : decode cX4_drawBy 47 = .ok (.ldc 139, 2) := by decide +kernel
theorem dX4_drawBy_49 : decode cX4_drawBy 49 = .ok (.iand, 1) := by decide +kernel
theorem dX4_drawBy_50 : decode cX4_drawBy 50 = .ok (.ldc 140, 2) := by decide +kernel
theorem dX4_drawBy_52 : decode cX4_drawBy 52 = .ok (.idiv, 1) := by decide +kernel
theorem dX4_drawBy_53 : decode cX4_drawBy 53 = .ok (.iload 5, 2) := by decide +kernel
theorem dX4_drawBy_55 : decode cX4_drawBy 55 = .ok (.irem, 1) := by decide +kernel
theorem dX4_drawBy_56 : decode cX4_drawBy 56 = .ok (.iadd, 1) := by decide +kernel
theorem dX4_drawBy_57 : decode cX4_drawBy 57 = .ok (.iastore, 1) := by decide +kernel
theorem dX4_drawBy_58 : decode cX4_drawBy 58 = .ok (.iinc 4 1, 3) := by decide +kernel
theorem dX4_drawBy_61 : decode cX4_drawBy 61 = .ok (.goto (-56), 3) := by decide +kernel
theorem dX4_drawBy_64 : decode cX4_drawBy 64 = .ok (.return_, 1) := by decide +kernel
theorem dX5_set_0 : decode cX5_set 0 = .ok (.iload_n 1, 1) := by decide +kernel
theorem dX5_set_1 : decode cX5_set 1 = .ok (.invokestatic 61, 3) := by decide +kernel
theorem dX5_set_4 : decode cX5_set 4 = .ok (.ifCond .eq 12, 3) := by decide +kernel
theorem dX5_set_7 : decode cX5_set 7 = .ok (.iload_n 2, 1) := by decide +kernel
theorem dX5_set_8 : decode cX5_set 8 = .ok (.ifCond .lt 8, 3) := by decide +kernel
theorem dX5_set_11 : decode cX5_set 11 = .ok (.iload_n 2, 1) := by decide +kernel
theorem dX5_set_12 : decode cX5_set 12 = .ok (.iconst 2, 1) := by decide +kernel
theorem dX5_set_13 : decode cX5_set 13 = .ok (.if_icmp .le 7, 3) := by decide +kernel
theorem dX5_set_16 : decode cX5_set 16 = .ok (.sipush (-1000), 3) := by decide +kernel
theorem dX5_set_19 : decode cX5_set 19 = .ok (.ireturn, 1) := by decide +kernel
theorem dX5_set_20 : decode cX5_set 20 = .ok (.iload_n 2, 1) := by decide +kernel
theorem dX5_set_21 : decode cX5_set 21 = .ok (.iload_n 3, 1) := by decide +kernel
theorem dX5_set_22 : decode cX5_set 22 = .ok (.invokestatic 65, 3) := by decide +kernel
theorem dX5_set_25 : decode cX5_set 25 = .ok (.ifCond .ne 7, 3) := by decide +kernel
theorem dX5_set_28 : decode cX5_set 28 = .ok (.sipush (-1001), 3) := by decide +kernel
theorem dX5_set_31 : decode cX5_set 31 = .ok (.ireturn, 1) := by decide +kernel
theorem dX5_set_32 : decode cX5_set 32 = .ok (.aload_n 0, 1) := by decide +kernel
theorem dX5_set_33 : decode cX5_set 33 = .ok (.getfield 14, 3) := by decide +kernel
theorem dX5_set_36 : decode cX5_set 36 = .ok (.iload_n 2, 1) := by decide +kernel
theorem dX5_set_37 : decode cX5_set 37 = .ok (.invokevirtual 69, 3) := by decide +kernel
theorem dX5_set_40 : decode cX5_set 40 = .ok (.astore 4, 2) := by decide +kernel
theorem dX5_set_42 : decode cX5_set 42 = .ok (.aload 4, 2) := by decide +kernel
theorem dX5_set_44 : decode cX5_set 44 = .ok (.iload_n 1, 1) := by decide +kernel
theorem dX5_set_45 : decode cX5_set 45 = .ok (.iaload, 1) := by decide +kernel
theorem dX5_set_46 : decode cX5_set 46 = .ok (.istore 5, 2) := by decide +kernel
theorem dX5_set_48 : decode cX5_set 48 = .ok (.aload 4, 2) := by decide +kernel
theorem dX5_set_50 : decode cX5_set 50 = .ok (.iload_n 1, 1) := by decide +kernel
theorem dX5_set_51 : decode cX5_set 51 = .ok (.iload_n 3, 1) := by decide +kernel
theorem dX5_set_52 : decode cX5_set 52 = .ok (.iastore, 1) := by decide +kernel
theorem dX5_set_53 : decode cX5_set 53 = .ok (.iload 5, 2) := by decide +kernel
theorem dX5_set_55 : decode cX5_set 55 = .ok (.ireturn, 1) := by decide +kernel
theorem dX5_of_0 : decode cX5_of 0 = .ok (.iload_n 1, 1) := by decide +kernel
theorem dX5_of_1 : decode cX5_of 1 = .ok (.invokestatic 61, 3) := by decide +kernel
theorem dX5_of_4 : decode cX5_of 4 = .ok (.ifCond .ne 7, 3) := by decide +kernel
theorem dX5_of_7 : decode cX5_of 7 = .ok (.sipush (-1000), 3) := by decide +kernel
theorem dX5_of_10 : decode cX5_of 10 = .ok (.ireturn, 1) := by decide +kernel
theorem dX5_of_11 : decode cX5_of 11 = .ok (.iload_n 2, 1) := by decide +kernel
theorem dX5_of_12 : decode cX5_of 12 = .ok (.tableswitch 65 0 4 #[36, 36, 36, 47, 56], 36) := by decide +kernel
theorem dX5_of_48 : decode cX5_of 48 = .ok (.aload_n 0, 1) := by decide +kernel
theorem dX5_of_49 : decode cX5_of 49 = .ok (.getfield 14, 3) := by decide +kernel
theorem dX5_of_52 : decode cX5_of 52 = .ok (.iload_n 2, 1) := by decide +kernel
theorem dX5_of_53 : decode cX5_of 53 = .ok (.invokevirtual 69, 3) := by decide +kernel
theorem dX5_of_56 : decode cX5_of 56 = .ok (.iload_n 1, 1) := by decide +kernel
theorem dX5_of_57 : decode cX5_of 57 = .ok (.iaload, 1) := by decide +kernel
theorem dX5_of_58 : decode cX5_of 58 = .ok (.ireturn, 1) := by decide +kernel
theorem dX5_of_59 : decode cX5_of 59 = .ok (.aload_n 0, 1) := by decide +kernel
theorem dX5_of_60 : decode cX5_of 60 = .ok (.getfield 14, 3) := by decide +kernel
theorem dX5_of_63 : decode cX5_of 63 = .ok (.iload_n 1, 1) := by decide +kernel
theorem dX5_of_64 : decode cX5_of 64 = .ok (.invokevirtual 73, 3) := by decide +kernel
theorem dX5_of_67 : decode cX5_of 67 = .ok (.ireturn, 1) := by decide +kernel
theorem dX5_of_68 : decode cX5_of 68 = .ok (.aload_n 0, 1) := by decide +kernel
theorem dX5_of_69 : decode cX5_of 69 = .ok (.getfield 14, 3) := by decide +kernel
theorem dX5_of_72 : decode cX5_of 72 = .ok (.iload_n 1, 1) := by decide +kernel
theorem dX5_of_73 : decode cX5_of 73 = .ok (.invokevirtual 77, 3) := by decide +kernel
theorem dX5_of_76 : decode cX5_of 76 = .ok (.ireturn, 1) := by decide +kernel
theorem dX5_of_77 : decode cX5_of 77 = .ok (.sipush (-1000), 3) := by decide +kernel
theorem dX5_of_80 : decode cX5_of 80 = .ok (.ireturn, 1) := by decide +kernel
theorem dX5_feed_0 : decode cX5_feed 0 = .ok (.iload_n 1, 1) := by decide +kernel
theorem dX5_feed_1 : decode cX5_feed 1 = .ok (.iconst 1, 1) := by decide +kernel
theorem dX5_feed_2 : decode cX5_feed 2 = .ok (.if_icmp .lt 9, 3) := by decide +kernel
theorem dX5_feed_5 : decode cX5_feed 5 = .ok (.iload_n 1, 1) := by decide +kernel
theorem dX5_feed_6 : decode cX5_feed 6 = .ok (.bipush 127, 2) := by decide +kernel
theorem dX5_feed_8 : decode cX5_feed 8 = .ok (.if_icmp .le 6, 3) := by decide +kernel
theorem dX5_feed_11 : decode cX5_feed 11 = .ok (.bipush (-2), 2) := by decide +kernel
theorem dX5_feed_13 : decode cX5_feed 13 = .ok (.ireturn, 1) := by decide +kernel
theorem dX5_feed_14 : decode cX5_feed 14 = .ok (.aload_n 0, 1) := by decide +kernel
theorem dX5_feed_15 : decode cX5_feed 15 = .ok (.getfield 28, 3) := by decide +kernel
theorem dX5_feed_18 : decode cX5_feed 18 = .ok (.iload_n 1, 1) := by decide +kernel
theorem dX5_feed_19 : decode cX5_feed 19 = .ok (.invokevirtual 80, 3) := by decide +kernel
theorem dX5_feed_22 : decode cX5_feed 22 = .ok (.ifCond .eq 13, 3) := by decide +kernel
theorem dX5_feed_25 : decode cX5_feed 25 = .ok (.aload_n 0, 1) := by decide +kernel
theorem dX5_feed_26 : decode cX5_feed 26 = .ok (.getfield 28, 3) := by decide +kernel
theorem dX5_feed_29 : decode cX5_feed 29 = .ok (.getfield 83, 3) := by decide +kernel
theorem dX5_feed_32 : decode cX5_feed 32 = .ok (.goto 5, 3) := by decide +kernel
theorem dX5_feed_35 : decode cX5_feed 35 = .ok (.bipush (-4), 2) := by decide +kernel
theorem dX5_feed_37 : decode cX5_feed 37 = .ok (.ireturn, 1) := by decide +kernel
theorem dX5_drop_0 : decode cX5_drop 0 = .ok (.aload_n 0, 1) := by decide +kernel
theorem dX5_drop_1 : decode cX5_drop 1 = .ok (.getfield 14, 3) := by decide +kernel
theorem dX5_drop_4 : decode cX5_drop 4 = .ok (.getfield 93, 3) := by decide +kernel
theorem dX5_drop_7 : decode cX5_drop 7 = .ok (.ifCond .gt 6, 3) := by decide +kernel
theorem dX5_drop_10 : decode cX5_drop 10 = .ok (.bipush (-3), 2) := by decide +kernel
theorem dX5_drop_12 : decode cX5_drop 12 = .ok (.ireturn, 1) := by decide +kernel
theorem dX5_drop_13 : decode cX5_drop 13 = .ok (.aload_n 0, 1) := by decide +kernel
theorem dX5_drop_14 : decode cX5_drop 14 = .ok (.getfield 14, 3) := by decide +kernel
theorem dX5_drop_17 : decode cX5_drop 17 = .ok (.dup, 1) := by decide +kernel
theorem dX5_drop_18 : decode cX5_drop 18 = .ok (.getfield 93, 3) := by decide +kernel
theorem dX5_drop_21 : decode cX5_drop 21 = .ok (.iconst 1, 1) := by decide +kernel
theorem dX5_drop_22 : decode cX5_drop 22 = .ok (.isub, 1) := by decide +kernel
theorem dX5_drop_23 : decode cX5_drop 23 = .ok (.putfield 93, 3) := by decide +kernel
theorem dX5_drop_26 : decode cX5_drop 26 = .ok (.aload_n 0, 1) := by decide +kernel
theorem dX5_drop_27 : decode cX5_drop 27 = .ok (.getfield 14, 3) := by decide +kernel
theorem dX5_drop_30 : decode cX5_drop 30 = .ok (.getfield 96, 3) := by decide +kernel
theorem dX5_drop_33 : decode cX5_drop 33 = .ok (.aload_n 0, 1) := by decide +kernel
theorem dX5_drop_34 : decode cX5_drop 34 = .ok (.getfield 14, 3) := by decide +kernel
theorem dX5_drop_37 : decode cX5_drop 37 = .ok (.getfield 93, 3) := by decide +kernel
theorem dX5_drop_40 : decode cX5_drop 40 = .ok (.aconst_null, 1) := by decide +kernel
theorem dX5_drop_41 : decode cX5_drop 41 = .ok (.aastore, 1) := by decide +kernel
theorem dX5_drop_42 : decode cX5_drop 42 = .ok (.aload_n 0, 1) := by decide +kernel
theorem dX5_drop_43 : decode cX5_drop 43 = .ok (.getfield 14, 3) := by decide +kernel
theorem dX5_drop_46 : decode cX5_drop 46 = .ok (.getfield 93, 3) := by decide +kernel
theorem dX5_drop_49 : decode cX5_drop 49 = .ok (.ireturn, 1) := by decide +kernel
theorem dX5_parts_0 : decode cX5_parts 0 = .ok (.aload_n 0, 1) := by decide +kernel
theorem dX5_parts_1 : decode cX5_parts 1 = .ok (.iload_n 1, 1) := by decide +kernel
theorem dX5_parts_2 : decode cX5_parts 2 = .ok (.invokevirtual 100, 3) := by decide +kernel
theorem dX5_parts_5 : decode cX5_parts 5 = .ok (.astore_n 3, 1) := by decide +kernel
theorem dX5_parts_6 : decode cX5_parts 6 = .ok (.aload_n 3, 1) := by decide +kernel
theorem dX5_parts_7 : decode cX5_parts 7 = .ok (.ifnonnull 5, 3) := by decide +kernel
theorem dX5_parts_10 : decode cX5_parts 10 = .ok (.iconst (-1), 1) := by decide +kernel
theorem dX5_parts_11 : decode cX5_parts 11 = .ok (.ireturn, 1) := by decide +kernel
theorem dX5_parts_12 : decode cX5_parts 12 = .ok (.iload_n 2, 1) := by decide +kernel
theorem dX5_parts_13 : decode cX5_parts 13 = .ok (.tableswitch 60 0 4 #[35, 40, 45, 50, 55], 35) := by decide +kernel
theorem dX5_parts_48 : decode cX5_parts 48 = .ok (.aload_n 3, 1) := by decide +kernel
theorem dX5_parts_49 : decode cX5_parts 49 = .ok (.getfield 104, 3) := by decide +kernel
theorem dX5_parts_52 : decode cX5_parts 52 = .ok (.ireturn, 1) := by decide +kernel
theorem dX5_parts_53 : decode cX5_parts 53 = .ok (.aload_n 3, 1) := by decide +kernel
theorem dX5_parts_54 : decode cX5_parts 54 = .ok (.getfield 109, 3) := by decide +kernel
theorem dX5_parts_57 : decode cX5_parts 57 = .ok (.ireturn, 1) := by decide +kernel
theorem dX5_parts_58 : decode cX5_parts 58 = .ok (.aload_n 3, 1) := by decide +kernel
theorem dX5_parts_59 : decode cX5_parts 59 = .ok (.getfield 112, 3) := by decide +kernel
theorem dX5_parts_62 : decode cX5_parts 62 = .ok (.ireturn, 1) := by decide +kernel
theorem dX5_parts_63 : decode cX5_parts 63 = .ok (.aload_n 3, 1) := by decide +kernel
theorem dX5_parts_64 : decode cX5_parts 64 = .ok (.getfield 115, 3) := by decide +kernel
theorem dX5_parts_67 : decode cX5_parts 67 = .ok (.ireturn, 1) := by decide +kernel
theorem dX5_parts_68 : decode cX5_parts 68 = .ok (.aload_n 3, 1) := by decide +kernel
theorem dX5_parts_69 : decode cX5_parts 69 = .ok (.getfield 118, 3) := by decide +kernel
theorem dX5_parts_72 : decode cX5_parts 72 = .ok (.ireturn, 1) := by decide +kernel
theorem dX5_parts_73 : decode cX5_parts 73 = .ok (.iconst (-1), 1) := by decide +kernel
theorem dX5_parts_74 : decode cX5_parts 74 = .ok (.ireturn, 1) := by decide +kernel
theorem dX5_alike_0 : decode cX5_alike 0 = .ok (.aload_n 0, 1) := by decide +kernel
theorem dX5_alike_1 : decode cX5_alike 1 = .ok (.iload_n 1, 1) := by decide +kernel
theorem dX5_alike_2 : decode cX5_alike 2 = .ok (.invokevirtual 100, 3) := by decide +kernel
theorem dX5_alike_5 : decode cX5_alike 5 = .ok (.astore_n 3, 1) := by decide +kernel
theorem dX5_alike_6 : decode cX5_alike 6 = .ok (.aload_n 0, 1) := by decide +kernel
theorem dX5_alike_7 : decode cX5_alike 7 = .ok (.iload_n 2, 1) := by decide +kernel
theorem dX5_alike_8 : decode cX5_alike 8 = .ok (.invokevirtual 100, 3) := by decide +kernel
theorem dX5_alike_11 : decode cX5_alike 11 = .ok (.astore 4, 2) := by decide +kernel
theorem dX5_alike_13 : decode cX5_alike 13 = .ok (.aload_n 3, 1) := by decide +kernel
theorem dX5_alike_14 : decode cX5_alike 14 = .ok (.ifnull 8, 3) := by decide +kernel
theorem dX5_alike_17 : decode cX5_alike 17 = .ok (.aload 4, 2) := by decide +kernel
theorem dX5_alike_19 : decode cX5_alike 19 = .ok (.ifnonnull 5, 3) := by decide +kernel
theorem dX5_alike_22 : decode cX5_alike 22 = .ok (.iconst (-1), 1) := by decide +kernel
theorem dX5_alike_23 : decode cX5_alike 23 = .ok (.ireturn, 1) := by decide +kernel
theorem dX5_alike_24 : decode cX5_alike 24 = .ok (.aload_n 3, 1) := by decide +kernel
theorem dX5_alike_25 : decode cX5_alike 25 = .ok (.aload 4, 2) := by decide +kernel
theorem dX5_alike_27 : decode cX5_alike 27 = .ok (.invokevirtual 121, 3) := by decide +kernel
theorem dX5_alike_30 : decode cX5_alike 30 = .ok (.ifCond .eq 7, 3) := by decide +kernel
theorem dX5_alike_33 : decode cX5_alike 33 = .ok (.iconst 1, 1) := by decide +kernel
theorem dX5_alike_34 : decode cX5_alike 34 = .ok (.goto 4, 3) := by decide +kernel
theorem dX5_alike_37 : decode cX5_alike 37 = .ok (.iconst 0, 1) := by decide +kernel
theorem dX5_alike_38 : decode cX5_alike 38 = .ok (.ireturn, 1) := by decide +kernel
theorem dX5_span_0 : decode cX5_span 0 = .ok (.aload_n 0, 1) := by decide +kernel
theorem dX5_span_1 : decode cX5_span 1 = .ok (.iload_n 1, 1) := by decide +kernel
theorem dX5_span_2 : decode cX5_span 2 = .ok (.invokevirtual 100, 3) := by decide +kernel
theorem dX5_span_5 : decode cX5_span 5 = .ok (.astore_n 3, 1) := by decide +kernel
theorem dX5_span_6 : decode cX5_span 6 = .ok (.aload_n 3, 1) := by decide +kernel
theorem dX5_span_7 : decode cX5_span 7 = .ok (.ifnull 12, 3) := by decide +kernel
theorem dX5_span_10 : decode cX5_span 10 = .ok (.iload_n 2, 1) := by decide +kernel
theorem dX5_span_11 : decode cX5_span 11 = .ok (.ifCond .lt 8, 3) := by decide +kernel
theorem dX5_span_14 : decode cX5_span 14 = .ok (.iload_n 2, 1) := by decide +kernel
theorem dX5_span_15 : decode cX5_span 15 = .ok (.iconst 2, 1) := by decide +kernel
theorem dX5_span_16 : decode cX5_span 16 = .ok (.if_icmp .le 7, 3) := by decide +kernel
theorem dX5_span_19 : decode cX5_span 19 = .ok (.ldc2_w 125, 3) := by decide +kernel
theorem dX5_span_22 : decode cX5_span 22 = .ok (.lreturn, 1) := by decide +kernel
theorem dX5_span_23 : decode cX5_span 23 = .ok (.aload_n 0, 1) := by decide +kernel
theorem dX5_span_24 : decode cX5_span 24 = .ok (.aload_n 3, 1) := by decide +kernel
theorem dX5_span_25 : decode cX5_span 25 = .ok (.invokevirtual 127, 3) := by decide +kernel
theorem dX5_span_28 : decode cX5_span 28 = .ok (.aload_n 0, 1) := by decide +kernel
theorem dX5_span_29 : decode cX5_span 29 = .ok (.getfield 35, 3) := by decide +kernel
theorem dX5_span_32 : decode cX5_span 32 = .ok (.getfield 131, 3) := by decide +kernel
theorem dX5_span_35 : decode cX5_span 35 = .ok (.ifCond .eq 8, 3) := by decide +kernel
theorem dX5_span_38 : decode cX5_span 38 = .ok (.aload_n 0, 1) := by decide +kernel
theorem dX5_span_39 : decode cX5_span 39 = .ok (.aload_n 3, 1) := by decide +kernel
theorem dX5_span_40 : decode cX5_span 40 = .ok (.invokevirtual 134, 3) := by decide +kernel
theorem dX5_span_43 : decode cX5_span 43 = .ok (.aload_n 0, 1) := by decide +kernel
theorem dX5_span_44 : decode cX5_span 44 = .ok (.getfield 35, 3) := by decide +kernel
theorem dX5_span_47 : decode cX5_span 47 = .ok (.iload_n 2, 1) := by decide +kernel
theorem dX5_span_48 : decode cX5_span 48 = .ok (.invokevirtual 137, 3) := by decide +kernel
theorem dX5_span_51 : decode cX5_span 51 = .ok (.lreturn, 1) := by decide +kernel
theorem dX5_way_0 : decode cX5_way 0 = .ok (.iload_n 1, 1) := by decide +kernel
theorem dX5_way_1 : decode cX5_way 1 = .ok (.iconst (-1), 1) := by decide +kernel
theorem dX5_way_2 : decode cX5_way 2 = .ok (.if_icmp .ne 8, 3) := by decide +kernel
theorem dX5_way_5 : decode cX5_way 5 = .ok (.aload_n 0, 1) := by decide +kernel
theorem dX5_way_6 : decode cX5_way 6 = .ok (.getfield 51, 3) := by decide +kernel
theorem dX5_way_9 : decode cX5_way 9 = .ok (.ireturn, 1) := by decide +kernel
theorem dX5_way_10 : decode cX5_way 10 = .ok (.iload_n 1, 1) := by decide +kernel
theorem dX5_way_11 : decode cX5_way 11 = .ok (.ifCond .lt 11, 3) := by decide +kernel
theorem dX5_way_14 : decode cX5_way 14 = .ok (.iload_n 1, 1) := by decide +kernel
theorem dX5_way_15 : decode cX5_way 15 = .ok (.aload_n 0, 1) := by decide +kernel
theorem dX5_way_16 : decode cX5_way 16 = .ok (.getfield 51, 3) := by decide +kernel
theorem dX5_way_19 : decode cX5_way 19 = .ok (.if_icmp .lt 5, 3) := by decide +kernel
theorem dX5_way_22 : decode cX5_way 22 = .ok (.iconst (-1), 1) := by decide +kernel
theorem dX5_way_23 : decode cX5_way 23 = .ok (.ireturn, 1) := by decide +kernel
theorem dX5_way_24 : decode cX5_way 24 = .ok (.aload_n 0, 1) := by decide +kernel
theorem dX5_way_25 : decode cX5_way 25 = .ok (.getfield 48, 3) := by decide +kernel
theorem dX5_way_28 : decode cX5_way 28 = .ok (.aload_n 0, 1) := by decide +kernel
theorem dX5_way_29 : decode cX5_way 29 = .ok (.getfield 51, 3) := by decide +kernel
theorem dX5_way_32 : decode cX5_way 32 = .ok (.iconst 1, 1) := by decide +kernel
theorem dX5_way_33 : decode cX5_way 33 = .ok (.isub, 1) := by decide +kernel
theorem dX5_way_34 : decode cX5_way 34 = .ok (.iload_n 1, 1) := by decide +kernel
theorem dX5_way_35 : decode cX5_way 35 = .ok (.isub, 1) := by decide +kernel
theorem dX5_way_36 : decode cX5_way 36 = .ok (.iaload, 1) := by decide +kernel
theorem dX5_way_37 : decode cX5_way 37 = .ok (.ireturn, 1) := by decide +kernel
theorem dX5_exact_0 : decode cX5_exact 0 = .ok (.aload_n 0, 1) := by decide +kernel
theorem dX5_exact_1 : decode cX5_exact 1 = .ok (.iload_n 1, 1) := by decide +kernel
theorem dX5_exact_2 : decode cX5_exact 2 = .ok (.invokevirtual 100, 3) := by decide +kernel
theorem dX5_exact_5 : decode cX5_exact 5 = .ok (.astore_n 2, 1) := by decide +kernel
theorem dX5_exact_6 : decode cX5_exact 6 = .ok (.aload_n 2, 1) := by decide +kernel
theorem dX5_exact_7 : decode cX5_exact 7 = .ok (.ifnonnull 7, 3) := by decide +kernel
theorem dX5_exact_10 : decode cX5_exact 10 = .ok (.ldc2_w 125, 3) := by decide +kernel
theorem dX5_exact_13 : decode cX5_exact 13 = .ok (.lreturn, 1) := by decide +kernel
theorem dX5_exact_14 : decode cX5_exact 14 = .ok (.aload_n 0, 1) := by decide +kernel
theorem dX5_exact_15 : decode cX5_exact 15 = .ok (.aload_n 2, 1) := by decide +kernel
theorem dX5_exact_16 : decode cX5_exact 16 = .ok (.invokevirtual 127, 3) := by decide +kernel
theorem dX5_exact_19 : decode cX5_exact 19 = .ok (.aload_n 0, 1) := by decide +kernel
theorem dX5_exact_20 : decode cX5_exact 20 = .ok (.getfield 35, 3) := by decide +kernel
theorem dX5_exact_23 : decode cX5_exact 23 = .ok (.getfield 131, 3) := by decide +kernel
theorem dX5_exact_26 : decode cX5_exact 26 = .ok (.ifCond .eq 7, 3) := by decide +kernel
theorem dX5_exact_29 : decode cX5_exact 29 = .ok (.ldc2_w 141, 3) := by decide +kernel
theorem dX5_exact_32 : decode cX5_exact 32 = .ok (.lreturn, 1) := by decide +kernel
theorem dX5_exact_33 : decode cX5_exact 33 = .ok (.iconst 0, 1) := by decide +kernel
theorem dX5_exact_34 : decode cX5_exact 34 = .ok (.istore_n 3, 1) := by decide +kernel
theorem dX5_exact_35 : decode cX5_exact 35 = .ok (.iload_n 3, 1) := by decide +kernel
theorem dX5_exact_36 : decode cX5_exact 36 = .ok (.bipush 6, 2) := by decide +kernel
theorem dX5_exact_38 : decode cX5_exact 38 = .ok (.if_icmp .ge 27, 3) := by decide +kernel
theorem dX5_exact_41 : decode cX5_exact 41 = .ok (.aload_n 0, 1) := by decide +kernel
theorem dX5_exact_42 : decode cX5_exact 42 = .ok (.getfield 35, 3) := by decide +kernel
theorem dX5_exact_45 : decode cX5_exact 45 = .ok (.getfield 143, 3) := by decide +kernel
theorem dX5_exact_48 : decode cX5_exact 48 = .ok (.iload_n 3, 1) := by decide +kernel
theorem dX5_exact_49 : decode cX5_exact 49 = .ok (.aload_n 0, 1) := by decide +kernel
theorem dX5_exact_50 : decode cX5_exact 50 = .ok (.getfield 14, 3) := by decide +kernel
theorem dX5_exact_53 : decode cX5_exact 53 = .ok (.getfield 145, 3) := by decide +kernel
theorem dX5_exact_56 : decode cX5_exact 56 = .ok (.iload_n 3, 1) := by decide +kernel
theorem dX5_exact_57 : decode cX5_exact 57 = .ok (.iaload, 1) := by decide +kernel
theorem dX5_exact_58 : decode cX5_exact 58 = .ok (.iastore, 1) := by decide +kernel
theorem dX5_exact_59 : decode cX5_exact 59 = .ok (.iinc 3 1, 3) := by decide +kernel
theorem dX5_exact_62 : decode cX5_exact 62 = .ok (.goto (-27), 3) := by decide +kernel
theorem dX5_exact_65 : decode cX5_exact 65 = .ok (.aload_n 0, 1) := by decide +kernel
theorem dX5_exact_66 : decode cX5_exact 66 = .ok (.getfield 35, 3) := by decide +kernel
theorem dX5_exact_69 : decode cX5_exact 69 = .ok (.aload_n 2, 1) := by decide +kernel
theorem dX5_exact_70 : decode cX5_exact 70 = .ok (.invokevirtual 148, 3) := by decide +kernel
theorem dX5_exact_73 : decode cX5_exact 73 = .ok (.lreturn, 1) := by decide +kernel
theorem dX5_corner_0 : decode cX5_corner 0 = .ok (.aload_n 0, 1) := by decide +kernel
theorem dX5_corner_1 : decode cX5_corner 1 = .ok (.iload_n 1, 1) := by decide +kernel
theorem dX5_corner_2 : decode cX5_corner 2 = .ok (.invokevirtual 100, 3) := by decide +kernel
theorem dX5_corner_5 : decode cX5_corner 5 = .ok (.astore_n 3, 1) := by decide +kernel
theorem dX5_corner_6 : decode cX5_corner 6 = .ok (.aload_n 3, 1) := by decide +kernel
theorem dX5_corner_7 : decode cX5_corner 7 = .ok (.ifnull 12, 3) := by decide +kernel
theorem dX5_corner_10 : decode cX5_corner 10 = .ok (.iload_n 2, 1) := by decide +kernel
theorem dX5_corner_11 : decode cX5_corner 11 = .ok (.ifCond .lt 8, 3) := by decide +kernel
theorem dX5_corner_14 : decode cX5_corner 14 = .ok (.iload_n 2, 1) := by decide +kernel
theorem dX5_corner_15 : decode cX5_corner 15 = .ok (.iconst 1, 1) := by decide +kernel
theorem dX5_corner_16 : decode cX5_corner 16 = .ok (.if_icmp .le 7, 3) := by decide +kernel
theorem dX5_corner_19 : decode cX5_corner 19 = .ok (.ldc2_w 125, 3) := by decide +kernel
theorem dX5_corner_22 : decode cX5_corner 22 = .ok (.lreturn, 1) := by decide +kernel
theorem dX5_corner_23 : decode cX5_corner 23 = .ok (.aload_n 0, 1) := by decide +kernel
theorem dX5_corner_24 : decode cX5_corner 24 = .ok (.aload_n 3, 1) := by decide +kernel
theorem dX5_corner_25 : decode cX5_corner 25 = .ok (.invokevirtual 127, 3) := by decide +kernel
theorem dX5_corner_28 : decode cX5_corner 28 = .ok (.aload_n 0, 1) := by decide +kernel
theorem dX5_corner_29 : decode cX5_corner 29 = .ok (.getfield 35, 3) := by decide +kernel
theorem dX5_corner_32 : decode cX5_corner 32 = .ok (.getfield 131, 3) := by decide +kernel
theorem dX5_corner_35 : decode cX5_corner 35 = .ok (.ifCond .eq 7, 3) := by decide +kernel
theorem dX5_corner_38 : decode cX5_corner 38 = .ok (.ldc2_w 141, 3) := by decide +kernel
theorem dX5_corner_41 : decode cX5_corner 41 = .ok (.lreturn, 1) := by decide +kernel
theorem dX5_corner_42 : decode cX5_corner 42 = .ok (.aload_n 0, 1) := by decide +kernel
theorem dX5_corner_43 : decode cX5_corner 43 = .ok (.aload_n 3, 1) := by decide +kernel
theorem dX5_corner_44 : decode cX5_corner 44 = .ok (.iconst 0, 1) := by decide +kernel
theorem dX5_corner_45 : decode cX5_corner 45 = .ok (.invokevirtual 152, 3) := by decide +kernel
theorem dX5_corner_48 : decode cX5_corner 48 = .ok (.lstore 4, 2) := by decide +kernel
theorem dX5_corner_50 : decode cX5_corner 50 = .ok (.iconst 1, 1) := by decide +kernel
theorem dX5_corner_51 : decode cX5_corner 51 = .ok (.istore 6, 2) := by decide +kernel
theorem dX5_corner_53 : decode cX5_corner 53 = .ok (.iload 6, 2) := by decide +kernel
theorem dX5_corner_55 : decode cX5_corner 55 = .ok (.bipush 64, 2) := by decide +kernel
theorem dX5_corner_57 : decode cX5_corner 57 = .ok (.if_icmp .ge 53, 3) := by decide +kernel
theorem dX5_corner_60 : decode cX5_corner 60 = .ok (.iload 6, 2) := by decide +kernel
theorem dX5_corner_62 : decode cX5_corner 62 = .ok (.aload_n 3, 1) := by decide +kernel
theorem dX5_corner_63 : decode cX5_corner 63 = .ok (.getfield 115, 3) := by decide +kernel
theorem dX5_corner_66 : decode cX5_corner 66 = .ok (.iconst (-1), 1) := by decide +kernel
theorem dX5_corner_67 : decode cX5_corner 67 = .ok (.ixor, 1) := by decide +kernel
theorem dX5_corner_68 : decode cX5_corner 68 = .ok (.iand, 1) := by decide +kernel
theorem dX5_corner_69 : decode cX5_corner 69 = .ok (.ifCond .ne 35, 3) := by decide +kernel
theorem dX5_corner_72 : decode cX5_corner 72 = .ok (.aload_n 0, 1) := by decide +kernel
theorem dX5_corner_73 : decode cX5_corner 73 = .ok (.aload_n 3, 1) := by decide +kernel
theorem dX5_corner_74 : decode cX5_corner 74 = .ok (.iload 6, 2) := by decide +kernel
theorem dX5_corner_76 : decode cX5_corner 76 = .ok (.invokevirtual 152, 3) := by decide +kernel
theorem dX5_corner_79 : decode cX5_corner 79 = .ok (.lstore 7, 2) := by decide +kernel
theorem dX5_corner_81 : decode cX5_corner 81 = .ok (.iload_n 2, 1) := by decide +kernel
theorem dX5_corner_82 : decode cX5_corner 82 = .ok (.ifCond .ne 13, 3) := by decide +kernel
theorem dX5_corner_85 : decode cX5_corner 85 = .ok (.lload 4, 2) := by decide +kernel
theorem dX5_corner_87 : decode cX5_corner 87 = .ok (.lload 7, 2) := by decide +kernel
theorem dX5_corner_89 : decode cX5_corner 89 = .ok (.invokestatic 156, 3) := by decide +kernel
theorem dX5_corner_92 : decode cX5_corner 92 = .ok (.goto 10, 3) := by decide +kernel
theorem dX5_corner_95 : decode cX5_corner 95 = .ok (.lload 4, 2) := by decide +kernel
theorem dX5_corner_97 : decode cX5_corner 97 = .ok (.lload 7, 2) := by decide +kernel
theorem dX5_corner_99 : decode cX5_corner 99 = .ok (.invokestatic 162, 3) := by decide +kernel
theorem dX5_corner_102 : decode cX5_corner 102 = .ok (.lstore 4, 2) := by decide +kernel
theorem dX5_corner_104 : decode cX5_corner 104 = .ok (.iinc 6 1, 3) := by decide +kernel
theorem dX5_corner_107 : decode cX5_corner 107 = .ok (.goto (-54), 3) := by decide +kernel
theorem dX5_corner_110 : decode cX5_corner 110 = .ok (.lload 4, 2) := by decide +kernel
theorem dX5_corner_112 : decode cX5_corner 112 = .ok (.lreturn, 1) := by decide +kernel
theorem dX5_rises_0 : decode cX5_rises 0 = .ok (.aload_n 0, 1) := by decide +kernel
theorem dX5_rises_1 : decode cX5_rises 1 = .ok (.iload_n 1, 1) := by decide +kernel
theorem dX5_rises_2 : decode cX5_rises 2 = .ok (.invokevirtual 100, 3) := by decide +kernel
theorem dX5_rises_5 : decode cX5_rises 5 = .ok (.astore_n 3, 1) := by decide +kernel
theorem dX5_rises_6 : decode cX5_rises 6 = .ok (.aload_n 3, 1) := by decide +kernel
theorem dX5_rises_7 : decode cX5_rises 7 = .ok (.ifnull 10, 3) := by decide +kernel
theorem dX5_rises_10 : decode cX5_rises 10 = .ok (.iload_n 2, 1) := by decide +kernel
theorem dX5_rises_11 : decode cX5_rises 11 = .ok (.invokestatic 61, 3) := by decide +kernel
theorem dX5_rises_14 : decode cX5_rises 14 = .ok (.ifCond .ne 5, 3) := by decide +kernel
theorem dX5_rises_17 : decode cX5_rises 17 = .ok (.iconst (-1), 1) := by decide +kernel
theorem dX5_rises_18 : decode cX5_rises 18 = .ok (.ireturn, 1) := by decide +kernel
theorem dX5_rises_19 : decode cX5_rises 19 = .ok (.aload_n 0, 1) := by decide +kernel
theorem dX5_rises_20 : decode cX5_rises 20 = .ok (.aload_n 3, 1) := by decide +kernel
theorem dX5_rises_21 : decode cX5_rises 21 = .ok (.invokevirtual 127, 3) := by decide +kernel
theorem dX5_rises_24 : decode cX5_rises 24 = .ok (.aload_n 0, 1) := by decide +kernel
theorem dX5_rises_25 : decode cX5_rises 25 = .ok (.getfield 35, 3) := by decide +kernel
theorem dX5_rises_28 : decode cX5_rises 28 = .ok (.getfield 131, 3) := by decide +kernel
theorem dX5_rises_31 : decode cX5_rises 31 = .ok (.ifCond .eq 8, 3) := by decide +kernel
theorem dX5_rises_34 : decode cX5_rises 34 = .ok (.bipush (-6), 2) := by decide +kernel
theorem dX5_rises_36 : decode cX5_rises 36 = .ok (.goto 12, 3) := by decide +kernel
theorem dX5_rises_39 : decode cX5_rises 39 = .ok (.aload_n 0, 1) := by decide +kernel
theorem dX5_rises_40 : decode cX5_rises 40 = .ok (.getfield 35, 3) := by decide +kernel
theorem dX5_rises_43 : decode cX5_rises 43 = .ok (.aload_n 3, 1) := by decide +kernel
theorem dX5_rises_44 : decode cX5_rises 44 = .ok (.iload_n 2, 1) := by decide +kernel
theorem dX5_rises_45 : decode cX5_rises 45 = .ok (.invokevirtual 165, 3) := by decide +kernel
theorem dX5_rises_48 : decode cX5_rises 48 = .ok (.ireturn, 1) := by decide +kernel
theorem dX5_tight_0 : decode cX5_tight 0 = .ok (.aload_n 0, 1) := by decide +kernel
theorem dX5_tight_1 : decode cX5_tight 1 = .ok (.iload_n 1, 1) := by decide +kernel
theorem dX5_tight_2 : decode cX5_tight 2 = .ok (.invokevirtual 100, 3) := by decide +kernel
theorem dX5_tight_5 : decode cX5_tight 5 = .ok (.astore_n 3, 1) := by decide +kernel
theorem dX5_tight_6 : decode cX5_tight 6 = .ok (.aload_n 3, 1) := by decide +kernel
theorem dX5_tight_7 : decode cX5_tight 7 = .ok (.ifnull 12, 3) := by decide +kernel
theorem dX5_tight_10 : decode cX5_tight 10 = .ok (.iload_n 2, 1) := by decide +kernel
theorem dX5_tight_11 : decode cX5_tight 11 = .ok (.ifCond .lt 8, 3) := by decide +kernel
theorem dX5_tight_14 : decode cX5_tight 14 = .ok (.iload_n 2, 1) := by decide +kernel
theorem dX5_tight_15 : decode cX5_tight 15 = .ok (.iconst 1, 1) := by decide +kernel
theorem dX5_tight_16 : decode cX5_tight 16 = .ok (.if_icmp .le 7, 3) := by decide +kernel
theorem dX5_tight_19 : decode cX5_tight 19 = .ok (.ldc2_w 125, 3) := by decide +kernel
theorem dX5_tight_22 : decode cX5_tight 22 = .ok (.lreturn, 1) := by decide +kernel
theorem dX5_tight_23 : decode cX5_tight 23 = .ok (.aload_n 0, 1) := by decide +kernel
theorem dX5_tight_24 : decode cX5_tight 24 = .ok (.aload_n 3, 1) := by decide +kernel
theorem dX5_tight_25 : decode cX5_tight 25 = .ok (.invokevirtual 127, 3) := by decide +kernel
theorem dX5_tight_28 : decode cX5_tight 28 = .ok (.aload_n 0, 1) := by decide +kernel
theorem dX5_tight_29 : decode cX5_tight 29 = .ok (.getfield 35, 3) := by decide +kernel
theorem dX5_tight_32 : decode cX5_tight 32 = .ok (.getfield 131, 3) := by decide +kernel
theorem dX5_tight_35 : decode cX5_tight 35 = .ok (.ifCond .eq 7, 3) := by decide +kernel
theorem dX5_tight_38 : decode cX5_tight 38 = .ok (.ldc2_w 141, 3) := by decide +kernel
theorem dX5_tight_41 : decode cX5_tight 41 = .ok (.lreturn, 1) := by decide +kernel
theorem dX5_tight_42 : decode cX5_tight 42 = .ok (.iload_n 2, 1) := by decide +kernel
theorem dX5_tight_43 : decode cX5_tight 43 = .ok (.ifCond .ne 7, 3) := by decide +kernel
theorem dX5_tight_46 : decode cX5_tight 46 = .ok (.iconst 1, 1) := by decide +kernel
theorem dX5_tight_47 : decode cX5_tight 47 = .ok (.goto 4, 3) := by decide +kernel
theorem dX5_tight_50 : decode cX5_tight 50 = .ok (.iconst 2, 1) := by decide +kernel
theorem dX5_tight_51 : decode cX5_tight 51 = .ok (.istore 4, 2) := by decide +kernel
theorem dX5_tight_53 : decode cX5_tight 53 = .ok (.iload_n 2, 1) := by decide +kernel
theorem dX5_tight_54 : decode cX5_tight 54 = .ok (.ifCond .ne 7, 3) := by decide +kernel
theorem dX5_tight_57 : decode cX5_tight 57 = .ok (.iconst 2, 1) := by decide +kernel
theorem dX5_tight_58 : decode cX5_tight 58 = .ok (.goto 4, 3) := by decide +kernel
theorem dX5_tight_61 : decode cX5_tight 61 = .ok (.iconst 1, 1) := by decide +kernel
theorem dX5_tight_62 : decode cX5_tight 62 = .ok (.istore 5, 2) := by decide +kernel
theorem dX5_tight_64 : decode cX5_tight 64 = .ok (.iconst 0, 1) := by decide +kernel
theorem dX5_tight_65 : decode cX5_tight 65 = .ok (.istore 6, 2) := by decide +kernel
theorem dX5_tight_67 : decode cX5_tight 67 = .ok (.iload 6, 2) := by decide +kernel
theorem dX5_tight_69 : decode cX5_tight 69 = .ok (.bipush 6, 2) := by decide +kernel
theorem dX5_tight_71 : decode cX5_tight 71 = .ok (.if_icmp .ge 92, 3) := by decide +kernel
theorem dX5_tight_74 : decode cX5_tight 74 = .ok (.aload_n 0, 1) := by decide +kernel
theorem dX5_tight_75 : decode cX5_tight 75 = .ok (.getfield 35, 3) := by decide +kernel
theorem dX5_tight_78 : decode cX5_tight 78 = .ok (.aload_n 3, 1) := by decide +kernel
theorem dX5_tight_79 : decode cX5_tight 79 = .ok (.iload 6, 2) := by decide +kernel
theorem dX5_tight_81 : decode cX5_tight 81 = .ok (.invokevirtual 165, 3) := by decide +kernel
theorem dX5_tight_84 : decode cX5_tight 84 = .ok (.istore 7, 2) := by decide +kernel
theorem dX5_tight_86 : decode cX5_tight 86 = .ok (.iload 7, 2) := by decide +kernel
theorem dX5_tight_88 : decode cX5_tight 88 = .ok (.iload 4, 2) := by decide +kernel
theorem dX5_tight_90 : decode cX5_tight 90 = .ok (.if_icmp .ne 33, 3) := by decide +kernel
theorem dX5_tight_93 : decode cX5_tight 93 = .ok (.aload_n 0, 1) := by decide +kernel
theorem dX5_tight_94 : decode cX5_tight 94 = .ok (.getfield 35, 3) := by decide +kernel
theorem dX5_tight_97 : decode cX5_tight 97 = .ok (.iload 6, 2) := by decide +kernel
theorem dX5_tight_99 : decode cX5_tight 99 = .ok (.aload_n 0, 1) := by decide +kernel
theorem dX5_tight_100 : decode cX5_tight 100 = .ok (.getfield 14, 3) := by decide +kernel
theorem dX5_tight_103 : decode cX5_tight 103 = .ok (.iload 6, 2) := by decide +kernel
theorem dX5_tight_105 : decode cX5_tight 105 = .ok (.invokevirtual 73, 3) := by decide +kernel
theorem dX5_tight_108 : decode cX5_tight 108 = .ok (.aload_n 0, 1) := by decide +kernel
theorem dX5_tight_109 : decode cX5_tight 109 = .ok (.getfield 14, 3) := by decide +kernel
theorem dX5_tight_112 : decode cX5_tight 112 = .ok (.iload 6, 2) := by decide +kernel
theorem dX5_tight_114 : decode cX5_tight 114 = .ok (.invokevirtual 73, 3) := by decide +kernel
theorem dX5_tight_117 : decode cX5_tight 117 = .ok (.invokevirtual 169, 3) := by decide +kernel
theorem dX5_tight_120 : decode cX5_tight 120 = .ok (.goto 37, 3) := by decide +kernel
theorem dX5_tight_123 : decode cX5_tight 123 = .ok (.iload 7, 2) := by decide +kernel
theorem dX5_tight_125 : decode cX5_tight 125 = .ok (.iload 5, 2) := by decide +kernel
theorem dX5_tight_127 : decode cX5_tight 127 = .ok (.if_icmp .ne 30, 3) := by decide +kernel
theorem dX5_tight_130 : decode cX5_tight 130 = .ok (.aload_n 0, 1) := by decide +kernel
theorem dX5_tight_131 : decode cX5_tight 131 = .ok (.getfield 35, 3) := by decide +kernel
theorem dX5_tight_134 : decode cX5_tight 134 = .ok (.iload 6, 2) := by decide +kernel
theorem dX5_tight_136 : decode cX5_tight 136 = .ok (.aload_n 0, 1) := by decide +kernel
theorem dX5_tight_137 : decode cX5_tight 137 = .ok (.getfield 14, 3) := by decide +kernel
theorem dX5_tight_140 : decode cX5_tight 140 = .ok (.iload 6, 2) := by decide +kernel
theorem dX5_tight_142 : decode cX5_tight 142 = .ok (.invokevirtual 77, 3) := by decide +kernel
theorem dX5_tight_145 : decode cX5_tight 145 = .ok (.aload_n 0, 1) := by decide +kernel
theorem dX5_tight_146 : decode cX5_tight 146 = .ok (.getfield 14, 3) := by decide +kernel
theorem dX5_tight_149 : decode cX5_tight 149 = .ok (.iload 6, 2) := by decide +kernel
theorem dX5_tight_151 : decode cX5_tight 151 = .ok (.invokevirtual 77, 3) := by decide +kernel
theorem dX5_tight_154 : decode cX5_tight 154 = .ok (.invokevirtual 169, 3) := by decide +kernel
theorem dX5_tight_157 : decode cX5_tight 157 = .ok (.iinc 6 1, 3) := by decide +kernel
theorem dX5_tight_160 : decode cX5_tight 160 = .ok (.goto (-93), 3) := by decide +kernel
theorem dX5_tight_163 : decode cX5_tight 163 = .ok (.aload_n 0, 1) := by decide +kernel
theorem dX5_tight_164 : decode cX5_tight 164 = .ok (.getfield 35, 3) := by decide +kernel
theorem dX5_tight_167 : decode cX5_tight 167 = .ok (.aload_n 3, 1) := by decide +kernel
theorem dX5_tight_168 : decode cX5_tight 168 = .ok (.invokevirtual 173, 3) := by decide +kernel
theorem dX5_tight_171 : decode cX5_tight 171 = .ok (.aload_n 0, 1) := by decide +kernel
theorem dX5_tight_172 : decode cX5_tight 172 = .ok (.getfield 35, 3) := by decide +kernel
theorem dX5_tight_175 : decode cX5_tight 175 = .ok (.iload_n 2, 1) := by decide +kernel
theorem dX5_tight_176 : decode cX5_tight 176 = .ok (.invokevirtual 137, 3) := by decide +kernel
theorem dX5_tight_179 : decode cX5_tight 179 = .ok (.lreturn, 1) := by decide +kernel
theorem dX5_split_0 : decode cX5_split 0 = .ok (.aload_n 0, 1) := by decide +kernel
theorem dX5_split_1 : decode cX5_split 1 = .ok (.iload_n 1, 1) := by decide +kernel
theorem dX5_split_2 : decode cX5_split 2 = .ok (.invokevirtual 100, 3) := by decide +kernel
theorem dX5_split_5 : decode cX5_split 5 = .ok (.astore 5, 2) := by decide +kernel
theorem dX5_split_7 : decode cX5_split 7 = .ok (.aload 5, 2) := by decide +kernel
theorem dX5_split_9 : decode cX5_split 9 = .ok (.ifnull 21, 3) := by decide +kernel
theorem dX5_split_12 : decode cX5_split 12 = .ok (.iload_n 2, 1) := by decide +kernel
theorem dX5_split_13 : decode cX5_split 13 = .ok (.invokestatic 61, 3) := by decide +kernel
theorem dX5_split_16 : decode cX5_split 16 = .ok (.ifCond .eq 14, 3) := by decide +kernel
theorem dX5_split_19 : decode cX5_split 19 = .ok (.iload 4, 2) := by decide +kernel
theorem dX5_split_21 : decode cX5_split 21 = .ok (.ifCond .lt 9, 3) := by decide +kernel
theorem dX5_split_24 : decode cX5_split 24 = .ok (.iload 4, 2) := by decide +kernel
theorem dX5_split_26 : decode cX5_split 26 = .ok (.iconst 2, 1) := by decide +kernel
theorem dX5_split_27 : decode cX5_split 27 = .ok (.if_icmp .le 7, 3) := by decide +kernel
theorem dX5_split_30 : decode cX5_split 30 = .ok (.ldc2_w 125, 3) := by decide +kernel
theorem dX5_split_33 : decode cX5_split 33 = .ok (.lreturn, 1) := by decide +kernel
theorem dX5_split_34 : decode cX5_split 34 = .ok (.iload_n 3, 1) := by decide +kernel
theorem dX5_split_35 : decode cX5_split 35 = .ok (.aload_n 0, 1) := by decide +kernel
theorem dX5_split_36 : decode cX5_split 36 = .ok (.getfield 14, 3) := by decide +kernel
theorem dX5_split_39 : decode cX5_split 39 = .ok (.iload_n 2, 1) := by decide +kernel
theorem dX5_split_40 : decode cX5_split 40 = .ok (.invokevirtual 73, 3) := by decide +kernel
theorem dX5_split_43 : decode cX5_split 43 = .ok (.if_icmp .lt 15, 3) := by decide +kernel
theorem dX5_split_46 : decode cX5_split 46 = .ok (.iload_n 3, 1) := by decide +kernel
theorem dX5_split_47 : decode cX5_split 47 = .ok (.aload_n 0, 1) := by decide +kernel
theorem dX5_split_48 : decode cX5_split 48 = .ok (.getfield 14, 3) := by decide +kernel
theorem dX5_split_51 : decode cX5_split 51 = .ok (.iload_n 2, 1) := by decide +kernel
theorem dX5_split_52 : decode cX5_split 52 = .ok (.invokevirtual 77, 3) := by decide +kernel
theorem dX5_split_55 : decode cX5_split 55 = .ok (.if_icmp .le 7, 3) := by decide +kernel
theorem dX5_split_58 : decode cX5_split 58 = .ok (.ldc2_w 125, 3) := by decide +kernel
theorem dX5_split_61 : decode cX5_split 61 = .ok (.lreturn, 1) := by decide +kernel
theorem dX5_split_62 : decode cX5_split 62 = .ok (.aload_n 0, 1) := by decide +kernel
theorem dX5_split_63 : decode cX5_split 63 = .ok (.aload 5, 2) := by decide +kernel
theorem dX5_split_65 : decode cX5_split 65 = .ok (.invokevirtual 127, 3) := by decide +kernel
theorem dX5_split_68 : decode cX5_split 68 = .ok (.aload_n 0, 1) := by decide +kernel
theorem dX5_split_69 : decode cX5_split 69 = .ok (.getfield 35, 3) := by decide +kernel
theorem dX5_split_72 : decode cX5_split 72 = .ok (.getfield 131, 3) := by decide +kernel
theorem dX5_split_75 : decode cX5_split 75 = .ok (.ifCond .eq 7, 3) := by decide +kernel
theorem dX5_split_78 : decode cX5_split 78 = .ok (.ldc2_w 141, 3) := by decide +kernel
theorem dX5_split_81 : decode cX5_split 81 = .ok (.lreturn, 1) := by decide +kernel
theorem dX5_split_82 : decode cX5_split 82 = .ok (.aload_n 0, 1) := by decide +kernel
theorem dX5_split_83 : decode cX5_split 83 = .ok (.aload 5, 2) := by decide +kernel
theorem dX5_split_85 : decode cX5_split 85 = .ok (.iload_n 2, 1) := by decide +kernel
theorem dX5_split_86 : decode cX5_split 86 = .ok (.iload_n 3, 1) := by decide +kernel
theorem dX5_split_87 : decode cX5_split 87 = .ok (.invokevirtual 176, 3) := by decide +kernel
theorem dX5_split_90 : decode cX5_split 90 = .ok (.aload_n 0, 1) := by decide +kernel
theorem dX5_split_91 : decode cX5_split 91 = .ok (.getfield 35, 3) := by decide +kernel
theorem dX5_split_94 : decode cX5_split 94 = .ok (.iload 4, 2) := by decide +kernel
theorem dX5_split_96 : decode cX5_split 96 = .ok (.invokevirtual 137, 3) := by decide +kernel
theorem dX5_split_99 : decode cX5_split 99 = .ok (.lreturn, 1) := by decide +kernel
theorem dX5_best_0 : decode cX5_best 0 = .ok (.aload_n 0, 1) := by decide +kernel
theorem dX5_best_1 : decode cX5_best 1 = .ok (.iload_n 1, 1) := by decide +kernel
theorem dX5_best_2 : decode cX5_best 2 = .ok (.invokevirtual 100, 3) := by decide +kernel
theorem dX5_best_5 : decode cX5_best 5 = .ok (.astore_n 3, 1) := by decide +kernel
theorem dX5_best_6 : decode cX5_best 6 = .ok (.aload_n 3, 1) := by decide +kernel
theorem dX5_best_7 : decode cX5_best 7 = .ok (.ifnull 12, 3) := by decide +kernel
theorem dX5_best_10 : decode cX5_best 10 = .ok (.iload_n 2, 1) := by decide +kernel
theorem dX5_best_11 : decode cX5_best 11 = .ok (.ifCond .lt 8, 3) := by decide +kernel
theorem dX5_best_14 : decode cX5_best 14 = .ok (.iload_n 2, 1) := by decide +kernel
theorem dX5_best_15 : decode cX5_best 15 = .ok (.iconst 2, 1) := by decide +kernel
theorem dX5_best_16 : decode cX5_best 16 = .ok (.if_icmp .le 7, 3) := by decide +kernel
theorem dX5_best_19 : decode cX5_best 19 = .ok (.ldc2_w 125, 3) := by decide +kernel
theorem dX5_best_22 : decode cX5_best 22 = .ok (.lreturn, 1) := by decide +kernel
theorem dX5_best_23 : decode cX5_best 23 = .ok (.aload_n 0, 1) := by decide +kernel
theorem dX5_best_24 : decode cX5_best 24 = .ok (.aload_n 3, 1) := by decide +kernel
theorem dX5_best_25 : decode cX5_best 25 = .ok (.invokevirtual 127, 3) := by decide +kernel
theorem dX5_best_28 : decode cX5_best 28 = .ok (.aload_n 0, 1) := by decide +kernel
theorem dX5_best_29 : decode cX5_best 29 = .ok (.getfield 35, 3) := by decide +kernel
theorem dX5_best_32 : decode cX5_best 32 = .ok (.invokevirtual 180, 3) := by decide +kernel
theorem dX5_best_35 : decode cX5_best 35 = .ok (.ifCond .ne 7, 3) := by decide +kernel
theorem dX5_best_38 : decode cX5_best 38 = .ok (.ldc2_w 141, 3) := by decide +kernel
theorem dX5_best_41 : decode cX5_best 41 = .ok (.lreturn, 1) := by decide +kernel
theorem dX5_best_42 : decode cX5_best 42 = .ok (.aload_n 0, 1) := by decide +kernel
theorem dX5_best_43 : decode cX5_best 43 = .ok (.getfield 35, 3) := by decide +kernel
theorem dX5_best_46 : decode cX5_best 46 = .ok (.getfield 184, 3) := by decide +kernel
theorem dX5_best_49 : decode cX5_best 49 = .ok (.aload_n 0, 1) := by decide +kernel
theorem dX5_best_50 : decode cX5_best 50 = .ok (.getfield 35, 3) := by decide +kernel
theorem dX5_best_53 : decode cX5_best 53 = .ok (.getfield 188, 3) := by decide +kernel
theorem dX5_best_56 : decode cX5_best 56 = .ok (.lsub, 1) := by decide +kernel
theorem dX5_best_57 : decode cX5_best 57 = .ok (.lstore 4, 2) := by decide +kernel
theorem dX5_best_59 : decode cX5_best 59 = .ok (.lload 4, 2) := by decide +kernel
theorem dX5_best_61 : decode cX5_best 61 = .ok (.lstore 6, 2) := by decide +kernel
theorem dX5_best_63 : decode cX5_best 63 = .ok (.iconst (-1), 1) := by decide +kernel
theorem dX5_best_64 : decode cX5_best 64 = .ok (.istore 8, 2) := by decide +kernel
theorem dX5_best_66 : decode cX5_best 66 = .ok (.iconst 0, 1) := by decide +kernel
theorem dX5_best_67 : decode cX5_best 67 = .ok (.istore 9, 2) := by decide +kernel
theorem dX5_best_69 : decode cX5_best 69 = .ok (.iconst 0, 1) := by decide +kernel
theorem dX5_best_70 : decode cX5_best 70 = .ok (.istore 10, 2) := by decide +kernel
theorem dX5_best_72 : decode cX5_best 72 = .ok (.iload 10, 2) := by decide +kernel
theorem dX5_best_74 : decode cX5_best 74 = .ok (.bipush 6, 2) := by decide +kernel
theorem dX5_best_76 : decode cX5_best 76 = .ok (.if_icmp .ge 98, 3) := by decide +kernel
theorem dX5_best_79 : decode cX5_best 79 = .ok (.aload_n 3, 1) := by decide +kernel
theorem dX5_best_80 : decode cX5_best 80 = .ok (.iload 10, 2) := by decide +kernel
theorem dX5_best_82 : decode cX5_best 82 = .ok (.invokevirtual 191, 3) := by decide +kernel
theorem dX5_best_85 : decode cX5_best 85 = .ok (.ifCond .ne 6, 3) := by decide +kernel
theorem dX5_best_88 : decode cX5_best 88 = .ok (.goto 80, 3) := by decide +kernel
theorem dX5_best_91 : decode cX5_best 91 = .ok (.aload_n 0, 1) := by decide +kernel
theorem dX5_best_92 : decode cX5_best 92 = .ok (.getfield 14, 3) := by decide +kernel
theorem dX5_best_95 : decode cX5_best 95 = .ok (.iload 10, 2) := by decide +kernel
theorem dX5_best_97 : decode cX5_best 97 = .ok (.invokevirtual 73, 3) := by decide +kernel
theorem dX5_best_100 : decode cX5_best 100 = .ok (.istore 11, 2) := by decide +kernel
theorem dX5_best_102 : decode cX5_best 102 = .ok (.iload 11, 2) := by decide +kernel
theorem dX5_best_104 : decode cX5_best 104 = .ok (.aload_n 0, 1) := by decide +kernel
theorem dX5_best_105 : decode cX5_best 105 = .ok (.getfield 14, 3) := by decide +kernel
theorem dX5_best_108 : decode cX5_best 108 = .ok (.iload 10, 2) := by decide +kernel
theorem dX5_best_110 : decode cX5_best 110 = .ok (.invokevirtual 77, 3) := by decide +kernel
theorem dX5_best_113 : decode cX5_best 113 = .ok (.if_icmp .gt 55, 3) := by decide +kernel
theorem dX5_best_116 : decode cX5_best 116 = .ok (.aload_n 0, 1) := by decide +kernel
theorem dX5_best_117 : decode cX5_best 117 = .ok (.aload_n 3, 1) := by decide +kernel
theorem dX5_best_118 : decode cX5_best 118 = .ok (.iload 10, 2) := by decide +kernel
theorem dX5_best_120 : decode cX5_best 120 = .ok (.iload 11, 2) := by decide +kernel
theorem dX5_best_122 : decode cX5_best 122 = .ok (.invokevirtual 176, 3) := by decide +kernel
theorem dX5_best_125 : decode cX5_best 125 = .ok (.aload_n 0, 1) := by decide +kernel
theorem dX5_best_126 : decode cX5_best 126 = .ok (.getfield 35, 3) := by decide +kernel
theorem dX5_best_129 : decode cX5_best 129 = .ok (.getfield 184, 3) := by decide +kernel
theorem dX5_best_132 : decode cX5_best 132 = .ok (.aload_n 0, 1) := by decide +kernel
theorem dX5_best_133 : decode cX5_best 133 = .ok (.getfield 35, 3) := by decide +kernel
theorem dX5_best_136 : decode cX5_best 136 = .ok (.getfield 188, 3) := by decide +kernel
theorem dX5_best_139 : decode cX5_best 139 = .ok (.lsub, 1) := by decide +kernel
theorem dX5_best_140 : decode cX5_best 140 = .ok (.lstore 12, 2) := by decide +kernel
theorem dX5_best_142 : decode cX5_best 142 = .ok (.lload 12, 2) := by decide +kernel
theorem dX5_best_144 : decode cX5_best 144 = .ok (.lload 6, 2) := by decide +kernel
theorem dX5_best_146 : decode cX5_best 146 = .ok (.lcmp, 1) := by decide +kernel
theorem dX5_best_147 : decode cX5_best 147 = .ok (.ifCond .ge 15, 3) := by decide +kernel
theorem dX5_best_150 : decode cX5_best 150 = .ok (.lload 12, 2) := by decide +kernel
theorem dX5_best_152 : decode cX5_best 152 = .ok (.lstore 6, 2) := by decide +kernel
theorem dX5_best_154 : decode cX5_best 154 = .ok (.iload 10, 2) := by decide +kernel
theorem dX5_best_156 : decode cX5_best 156 = .ok (.istore 8, 2) := by decide +kernel
theorem dX5_best_158 : decode cX5_best 158 = .ok (.iload 11, 2) := by decide +kernel
theorem dX5_best_160 : decode cX5_best 160 = .ok (.istore 9, 2) := by decide +kernel
theorem dX5_best_162 : decode cX5_best 162 = .ok (.iinc 11 1, 3) := by decide +kernel
theorem dX5_best_165 : decode cX5_best 165 = .ok (.goto (-63), 3) := by decide +kernel
theorem dX5_best_168 : decode cX5_best 168 = .ok (.iinc 10 1, 3) := by decide +kernel
theorem dX5_best_171 : decode cX5_best 171 = .ok (.goto (-99), 3) := by decide +kernel
theorem dX5_best_174 : decode cX5_best 174 = .ok (.iload 8, 2) := by decide +kernel
theorem dX5_best_176 : decode cX5_best 176 = .ok (.iconst (-1), 1) := by decide +kernel
theorem dX5_best_177 : decode cX5_best 177 = .ok (.if_icmp .ne 7, 3) := by decide +kernel
theorem dX5_best_180 : decode cX5_best 180 = .ok (.ldc2_w 194, 3) := by decide +kernel
theorem dX5_best_183 : decode cX5_best 183 = .ok (.lreturn, 1) := by decide +kernel
theorem dX5_best_184 : decode cX5_best 184 = .ok (.iload_n 2, 1) := by decide +kernel
theorem dX5_best_185 : decode cX5_best 185 = .ok (.ifCond .ne 9, 3) := by decide +kernel
theorem dX5_best_188 : decode cX5_best 188 = .ok (.iload 8, 2) := by decide +kernel
theorem dX5_best_190 : decode cX5_best 190 = .ok (.i2l, 1) := by decide +kernel
theorem dX5_best_191 : decode cX5_best 191 = .ok (.goto 19, 3) := by decide +kernel
theorem dX5_best_194 : decode cX5_best 194 = .ok (.iload_n 2, 1) := by decide +kernel
theorem dX5_best_195 : decode cX5_best 195 = .ok (.iconst 1, 1) := by decide +kernel
theorem dX5_best_196 : decode cX5_best 196 = .ok (.if_icmp .ne 9, 3) := by decide +kernel
theorem dX5_best_199 : decode cX5_best 199 = .ok (.iload 9, 2) := by decide +kernel
theorem dX5_best_201 : decode cX5_best 201 = .ok (.i2l, 1) := by decide +kernel
theorem dX5_best_202 : decode cX5_best 202 = .ok (.goto 8, 3) := by decide +kernel
theorem dX5_best_205 : decode cX5_best 205 = .ok (.lload 4, 2) := by decide +kernel
theorem dX5_best_207 : decode cX5_best 207 = .ok (.lload 6, 2) := by decide +kernel
theorem dX5_best_209 : decode cX5_best 209 = .ok (.lsub, 1) := by decide +kernel
theorem dX5_best_210 : decode cX5_best 210 = .ok (.lreturn, 1) := by decide +kernel
theorem dX5_widest_0 : decode cX5_widest 0 = .ok (.aload_n 0, 1) := by decide +kernel
theorem dX5_widest_1 : decode cX5_widest 1 = .ok (.iload_n 1, 1) := by decide +kernel
theorem dX5_widest_2 : decode cX5_widest 2 = .ok (.invokevirtual 100, 3) := by decide +kernel
theorem dX5_widest_5 : decode cX5_widest 5 = .ok (.astore_n 2, 1) := by decide +kernel
theorem dX5_widest_6 : decode cX5_widest 6 = .ok (.aload_n 2, 1) := by decide +kernel
theorem dX5_widest_7 : decode cX5_widest 7 = .ok (.ifnonnull 5, 3) := by decide +kernel
theorem dX5_widest_10 : decode cX5_widest 10 = .ok (.iconst (-1), 1) := by decide +kernel
theorem dX5_widest_11 : decode cX5_widest 11 = .ok (.ireturn, 1) := by decide +kernel
theorem dX5_widest_12 : decode cX5_widest 12 = .ok (.aload_n 0, 1) := by decide +kernel
theorem dX5_widest_13 : decode cX5_widest 13 = .ok (.aload_n 2, 1) := by decide +kernel
theorem dX5_widest_14 : decode cX5_widest 14 = .ok (.invokevirtual 127, 3) := by decide +kernel
theorem dX5_widest_17 : decode cX5_widest 17 = .ok (.aload_n 0, 1) := by decide +kernel
theorem dX5_widest_18 : decode cX5_widest 18 = .ok (.getfield 35, 3) := by decide +kernel
theorem dX5_widest_21 : decode cX5_widest 21 = .ok (.invokevirtual 180, 3) := by decide +kernel
theorem dX5_widest_24 : decode cX5_widest 24 = .ok (.ifCond .ne 6, 3) := by decide +kernel
theorem dX5_widest_27 : decode cX5_widest 27 = .ok (.bipush (-6), 2) := by decide +kernel
theorem dX5_widest_29 : decode cX5_widest 29 = .ok (.ireturn, 1) := by decide +kernel
theorem dX5_widest_30 : decode cX5_widest 30 = .ok (.bipush (-5), 2) := by decide +kernel
theorem dX5_widest_32 : decode cX5_widest 32 = .ok (.istore_n 3, 1) := by decide +kernel
theorem dX5_widest_33 : decode cX5_widest 33 = .ok (.lconst 0, 1) := by decide +kernel
theorem dX5_widest_34 : decode cX5_widest 34 = .ok (.lstore 4, 2) := by decide +kernel
theorem dX5_widest_36 : decode cX5_widest 36 = .ok (.iconst 0, 1) := by decide +kernel
theorem dX5_widest_37 : decode cX5_widest 37 = .ok (.istore 6, 2) := by decide +kernel
theorem dX5_widest_39 : decode cX5_widest 39 = .ok (.iload 6, 2) := by decide +kernel
theorem dX5_widest_41 : decode cX5_widest 41 = .ok (.bipush 6, 2) := by decide +kernel
theorem dX5_widest_43 : decode cX5_widest 43 = .ok (.if_icmp .ge 111, 3) := by decide +kernel
theorem dX5_widest_46 : decode cX5_widest 46 = .ok (.aload_n 0, 1) := by decide +kernel
theorem dX5_widest_47 : decode cX5_widest 47 = .ok (.getfield 14, 3) := by decide +kernel
theorem dX5_widest_50 : decode cX5_widest 50 = .ok (.getfield 196, 3) := by decide +kernel
theorem dX5_widest_53 : decode cX5_widest 53 = .ok (.iload 6, 2) := by decide +kernel
theorem dX5_widest_55 : decode cX5_widest 55 = .ok (.iaload, 1) := by decide +kernel
theorem dX5_widest_56 : decode cX5_widest 56 = .ok (.ifCond .ne 6, 3) := by decide +kernel
theorem dX5_widest_59 : decode cX5_widest 59 = .ok (.goto 89, 3) := by decide +kernel
theorem dX5_widest_62 : decode cX5_widest 62 = .ok (.aload_n 0, 1) := by decide +kernel
theorem dX5_widest_63 : decode cX5_widest 63 = .ok (.getfield 35, 3) := by decide +kernel
theorem dX5_widest_66 : decode cX5_widest 66 = .ok (.aload_n 0, 1) := by decide +kernel
theorem dX5_widest_67 : decode cX5_widest 67 = .ok (.getfield 14, 3) := by decide +kernel
theorem dX5_widest_70 : decode cX5_widest 70 = .ok (.invokevirtual 199, 3) := by decide +kernel
theorem dX5_widest_73 : decode cX5_widest 73 = .ok (.aload_n 0, 1) := by decide +kernel
theorem dX5_widest_74 : decode cX5_widest 74 = .ok (.getfield 35, 3) := by decide +kernel
theorem dX5_widest_77 : decode cX5_widest 77 = .ok (.iload 6, 2) := by decide +kernel
theorem dX5_widest_79 : decode cX5_widest 79 = .ok (.aload_n 0, 1) := by decide +kernel
theorem dX5_widest_80 : decode cX5_widest 80 = .ok (.getfield 14, 3) := by decide +kernel
theorem dX5_widest_83 : decode cX5_widest 83 = .ok (.getfield 145, 3) := by decide +kernel
theorem dX5_widest_86 : decode cX5_widest 86 = .ok (.iload 6, 2) := by decide +kernel
theorem dX5_widest_88 : decode cX5_widest 88 = .ok (.iaload, 1) := by decide +kernel
theorem dX5_widest_89 : decode cX5_widest 89 = .ok (.aload_n 0, 1) := by decide +kernel
theorem dX5_widest_90 : decode cX5_widest 90 = .ok (.getfield 14, 3) := by decide +kernel
theorem dX5_widest_93 : decode cX5_widest 93 = .ok (.getfield 145, 3) := by decide +kernel
theorem dX5_widest_96 : decode cX5_widest 96 = .ok (.iload 6, 2) := by decide +kernel
theorem dX5_widest_98 : decode cX5_widest 98 = .ok (.iaload, 1) := by decide +kernel
theorem dX5_widest_99 : decode cX5_widest 99 = .ok (.invokevirtual 169, 3) := by decide +kernel
theorem dX5_widest_102 : decode cX5_widest 102 = .ok (.aload_n 0, 1) := by decide +kernel
theorem dX5_widest_103 : decode cX5_widest 103 = .ok (.getfield 35, 3) := by decide +kernel
theorem dX5_widest_106 : decode cX5_widest 106 = .ok (.aload_n 2, 1) := by decide +kernel
theorem dX5_widest_107 : decode cX5_widest 107 = .ok (.invokevirtual 173, 3) := by decide +kernel
theorem dX5_widest_110 : decode cX5_widest 110 = .ok (.aload_n 0, 1) := by decide +kernel
theorem dX5_widest_111 : decode cX5_widest 111 = .ok (.getfield 35, 3) := by decide +kernel
theorem dX5_widest_114 : decode cX5_widest 114 = .ok (.getfield 184, 3) := by decide +kernel
theorem dX5_widest_117 : decode cX5_widest 117 = .ok (.aload_n 0, 1) := by decide +kernel
theorem dX5_widest_118 : decode cX5_widest 118 = .ok (.getfield 35, 3) := by decide +kernel
theorem dX5_widest_121 : decode cX5_widest 121 = .ok (.getfield 188, 3) := by decide +kernel
theorem dX5_widest_124 : decode cX5_widest 124 = .ok (.lsub, 1) := by decide +kernel
theorem dX5_widest_125 : decode cX5_widest 125 = .ok (.lstore 7, 2) := by decide +kernel
theorem dX5_widest_127 : decode cX5_widest 127 = .ok (.iload_n 3, 1) := by decide +kernel
theorem dX5_widest_128 : decode cX5_widest 128 = .ok (.bipush (-5), 2) := by decide +kernel
theorem dX5_widest_130 : decode cX5_widest 130 = .ok (.if_icmp .eq 11, 3) := by decide +kernel
theorem dX5_widest_133 : decode cX5_widest 133 = .ok (.lload 7, 2) := by decide +kernel
theorem dX5_widest_135 : decode cX5_widest 135 = .ok (.lload 4, 2) := by decide +kernel
theorem dX5_widest_137 : decode cX5_widest 137 = .ok (.lcmp, 1) := by decide +kernel
theorem dX5_widest_138 : decode cX5_widest 138 = .ok (.ifCond .ge 10, 3) := by decide +kernel
theorem dX5_widest_141 : decode cX5_widest 141 = .ok (.lload 7, 2) := by decide +kernel
theorem dX5_widest_143 : decode cX5_widest 143 = .ok (.lstore 4, 2) := by decide +kernel
theorem dX5_widest_145 : decode cX5_widest 145 = .ok (.iload 6, 2) := by decide +kernel
theorem dX5_widest_147 : decode cX5_widest 147 = .ok (.istore_n 3, 1) := by decide +kernel
theorem dX5_widest_148 : decode cX5_widest 148 = .ok (.iinc 6 1, 3) := by decide +kernel
theorem dX5_widest_151 : decode cX5_widest 151 = .ok (.goto (-112), 3) := by decide +kernel
theorem dX5_widest_154 : decode cX5_widest 154 = .ok (.iload_n 3, 1) := by decide +kernel
theorem dX5_widest_155 : decode cX5_widest 155 = .ok (.ireturn, 1) := by decide +kernel
theorem dX5_again_0 : decode cX5_again 0 = .ok (.aload_n 0, 1) := by decide +kernel
theorem dX5_again_1 : decode cX5_again 1 = .ok (.iload_n 1, 1) := by decide +kernel
theorem dX5_again_2 : decode cX5_again 2 = .ok (.invokevirtual 100, 3) := by decide +kernel
theorem dX5_again_5 : decode cX5_again 5 = .ok (.astore 5, 2) := by decide +kernel
theorem dX5_again_7 : decode cX5_again 7 = .ok (.aload 5, 2) := by decide +kernel
theorem dX5_again_9 : decode cX5_again 9 = .ok (.ifnull 14, 3) := by decide +kernel
theorem dX5_again_12 : decode cX5_again 12 = .ok (.iload 4, 2) := by decide +kernel
theorem dX5_again_14 : decode cX5_again 14 = .ok (.ifCond .lt 9, 3) := by decide +kernel
theorem dX5_again_17 : decode cX5_again 17 = .ok (.iload 4, 2) := by decide +kernel
theorem dX5_again_19 : decode cX5_again 19 = .ok (.iconst 1, 1) := by decide +kernel
theorem dX5_again_20 : decode cX5_again 20 = .ok (.if_icmp .le 5, 3) := by decide +kernel
theorem dX5_again_23 : decode cX5_again 23 = .ok (.iconst (-1), 1) := by decide +kernel
theorem dX5_again_24 : decode cX5_again 24 = .ok (.ireturn, 1) := by decide +kernel
theorem dX5_again_25 : decode cX5_again 25 = .ok (.aload_n 0, 1) := by decide +kernel
theorem dX5_again_26 : decode cX5_again 26 = .ok (.aload 5, 2) := by decide +kernel
theorem dX5_again_28 : decode cX5_again 28 = .ok (.invokevirtual 127, 3) := by decide +kernel
theorem dX5_again_31 : decode cX5_again 31 = .ok (.aload_n 0, 1) := by decide +kernel
theorem dX5_again_32 : decode cX5_again 32 = .ok (.getfield 35, 3) := by decide +kernel
theorem dX5_again_35 : decode cX5_again 35 = .ok (.invokevirtual 180, 3) := by decide +kernel
theorem dX5_again_38 : decode cX5_again 38 = .ok (.ifCond .ne 6, 3) := by decide +kernel
theorem dX5_again_41 : decode cX5_again 41 = .ok (.bipush (-6), 2) := by decide +kernel
theorem dX5_again_43 : decode cX5_again 43 = .ok (.ireturn, 1) := by decide +kernel
theorem dX5_again_44 : decode cX5_again 44 = .ok (.bipush (-5), 2) := by decide +kernel
theorem dX5_again_46 : decode cX5_again 46 = .ok (.istore 6, 2) := by decide +kernel
theorem dX5_again_48 : decode cX5_again 48 = .ok (.iconst 0, 1) := by decide +kernel
theorem dX5_again_49 : decode cX5_again 49 = .ok (.istore 7, 2) := by decide +kernel
theorem dX5_again_51 : decode cX5_again 51 = .ok (.iconst 0, 1) := by decide +kernel
theorem dX5_again_52 : decode cX5_again 52 = .ok (.istore 8, 2) := by decide +kernel
theorem dX5_again_54 : decode cX5_again 54 = .ok (.iload 8, 2) := by decide +kernel
theorem dX5_again_56 : decode cX5_again 56 = .ok (.bipush 64, 2) := by decide +kernel
theorem dX5_again_58 : decode cX5_again 58 = .ok (.if_icmp .ge 55, 3) := by decide +kernel
theorem dX5_again_61 : decode cX5_again 61 = .ok (.aload_n 0, 1) := by decide +kernel
theorem dX5_again_62 : decode cX5_again 62 = .ok (.getfield 14, 3) := by decide +kernel
theorem dX5_again_65 : decode cX5_again 65 = .ok (.iload 8, 2) := by decide +kernel
theorem dX5_again_67 : decode cX5_again 67 = .ok (.invokevirtual 203, 3) := by decide +kernel
theorem dX5_again_70 : decode cX5_again 70 = .ok (.istore 9, 2) := by decide +kernel
theorem dX5_again_72 : decode cX5_again 72 = .ok (.iload 6, 2) := by decide +kernel
theorem dX5_again_74 : decode cX5_again 74 = .ok (.bipush (-5), 2) := by decide +kernel
theorem dX5_again_76 : decode cX5_again 76 = .ok (.if_icmp .eq 10, 3) := by decide +kernel
theorem dX5_again_79 : decode cX5_again 79 = .ok (.iload 9, 2) := by decide +kernel
theorem dX5_again_81 : decode cX5_again 81 = .ok (.iload 7, 2) := by decide +kernel
theorem dX5_again_83 : decode cX5_again 83 = .ok (.if_icmp .ge 24, 3) := by decide +kernel
theorem dX5_again_86 : decode cX5_again 86 = .ok (.aload_n 0, 1) := by decide +kernel
theorem dX5_again_87 : decode cX5_again 87 = .ok (.aload 5, 2) := by decide +kernel
theorem dX5_again_89 : decode cX5_again 89 = .ok (.iload 8, 2) := by decide +kernel
theorem dX5_again_91 : decode cX5_again 91 = .ok (.invokevirtual 206, 3) := by decide +kernel
theorem dX5_again_94 : decode cX5_again 94 = .ok (.lload_n 2, 1) := by decide +kernel
theorem dX5_again_95 : decode cX5_again 95 = .ok (.lcmp, 1) := by decide +kernel
theorem dX5_again_96 : decode cX5_again 96 = .ok (.ifCond .gt 11, 3) := by decide +kernel
theorem dX5_again_99 : decode cX5_again 99 = .ok (.iload 8, 2) := by decide +kernel
theorem dX5_again_101 : decode cX5_again 101 = .ok (.istore 6, 2) := by decide +kernel
theorem dX5_again_103 : decode cX5_again 103 = .ok (.iload 9, 2) := by decide +kernel
theorem dX5_again_105 : decode cX5_again 105 = .ok (.istore 7, 2) := by decide +kernel
theorem dX5_again_107 : decode cX5_again 107 = .ok (.iinc 8 1, 3) := by decide +kernel
theorem dX5_again_110 : decode cX5_again 110 = .ok (.goto (-56), 3) := by decide +kernel
theorem dX5_again_113 : decode cX5_again 113 = .ok (.iload 6, 2) := by decide +kernel
theorem dX5_again_115 : decode cX5_again 115 = .ok (.bipush (-5), 2) := by decide +kernel
theorem dX5_again_117 : decode cX5_again 117 = .ok (.if_icmp .eq 8, 3) := by decide +kernel
theorem dX5_again_120 : decode cX5_again 120 = .ok (.iload 4, 2) := by decide +kernel
theorem dX5_again_122 : decode cX5_again 122 = .ok (.ifCond .ne 8, 3) := by decide +kernel
theorem dX5_again_125 : decode cX5_again 125 = .ok (.iload 6, 2) := by decide +kernel
theorem dX5_again_127 : decode cX5_again 127 = .ok (.goto 5, 3) := by decide +kernel
theorem dX5_again_130 : decode cX5_again 130 = .ok (.iload 7, 2) := by decide +kernel
theorem dX5_again_132 : decode cX5_again 132 = .ok (.ireturn, 1) := by decide +kernel
theorem dX5_fits_0 : decode cX5_fits 0 = .ok (.aload_n 0, 1) := by decide +kernel
theorem dX5_fits_1 : decode cX5_fits 1 = .ok (.iload_n 1, 1) := by decide +kernel
theorem dX5_fits_2 : decode cX5_fits 2 = .ok (.invokevirtual 100, 3) := by decide +kernel
theorem dX5_fits_5 : decode cX5_fits 5 = .ok (.astore 6, 2) := by decide +kernel
theorem dX5_fits_7 : decode cX5_fits 7 = .ok (.aload 6, 2) := by decide +kernel
theorem dX5_fits_9 : decode cX5_fits 9 = .ok (.ifnull 21, 3) := by decide +kernel
theorem dX5_fits_12 : decode cX5_fits 12 = .ok (.iload_n 2, 1) := by decide +kernel
theorem dX5_fits_13 : decode cX5_fits 13 = .ok (.invokestatic 61, 3) := by decide +kernel
theorem dX5_fits_16 : decode cX5_fits 16 = .ok (.ifCond .eq 14, 3) := by decide +kernel
theorem dX5_fits_19 : decode cX5_fits 19 = .ok (.iload 5, 2) := by decide +kernel
theorem dX5_fits_21 : decode cX5_fits 21 = .ok (.ifCond .lt 9, 3) := by decide +kernel
theorem dX5_fits_24 : decode cX5_fits 24 = .ok (.iload 5, 2) := by decide +kernel
theorem dX5_fits_26 : decode cX5_fits 26 = .ok (.iconst 1, 1) := by decide +kernel
theorem dX5_fits_27 : decode cX5_fits 27 = .ok (.if_icmp .le 5, 3) := by decide +kernel
theorem dX5_fits_30 : decode cX5_fits 30 = .ok (.iconst (-1), 1) := by decide +kernel
theorem dX5_fits_31 : decode cX5_fits 31 = .ok (.ireturn, 1) := by decide +kernel
theorem dX5_fits_32 : decode cX5_fits 32 = .ok (.iconst 0, 1) := by decide +kernel
theorem dX5_fits_33 : decode cX5_fits 33 = .ok (.istore 7, 2) := by decide +kernel
theorem dX5_fits_35 : decode cX5_fits 35 = .ok (.sipush (-1000), 3) := by decide +kernel
theorem dX5_fits_38 : decode cX5_fits 38 = .ok (.istore 8, 2) := by decide +kernel
theorem dX5_fits_40 : decode cX5_fits 40 = .ok (.aload_n 0, 1) := by decide +kernel
theorem dX5_fits_41 : decode cX5_fits 41 = .ok (.getfield 35, 3) := by decide +kernel
theorem dX5_fits_44 : decode cX5_fits 44 = .ok (.aload_n 0, 1) := by decide +kernel
theorem dX5_fits_45 : decode cX5_fits 45 = .ok (.getfield 14, 3) := by decide +kernel
theorem dX5_fits_48 : decode cX5_fits 48 = .ok (.invokevirtual 199, 3) := by decide +kernel
theorem dX5_fits_51 : decode cX5_fits 51 = .ok (.bipush (-99), 2) := by decide +kernel
theorem dX5_fits_53 : decode cX5_fits 53 = .ok (.istore 9, 2) := by decide +kernel
theorem dX5_fits_55 : decode cX5_fits 55 = .ok (.iload 9, 2) := by decide +kernel
theorem dX5_fits_57 : decode cX5_fits 57 = .ok (.bipush 99, 2) := by decide +kernel
theorem dX5_fits_59 : decode cX5_fits 59 = .ok (.if_icmp .gt 96, 3) := by decide +kernel
theorem dX5_fits_62 : decode cX5_fits 62 = .ok (.aload_n 0, 1) := by decide +kernel
theorem dX5_fits_63 : decode cX5_fits 63 = .ok (.getfield 35, 3) := by decide +kernel
theorem dX5_fits_66 : decode cX5_fits 66 = .ok (.iload_n 2, 1) := by decide +kernel
theorem dX5_fits_67 : decode cX5_fits 67 = .ok (.iload 9, 2) := by decide +kernel
theorem dX5_fits_69 : decode cX5_fits 69 = .ok (.aload_n 0, 1) := by decide +kernel
theorem dX5_fits_70 : decode cX5_fits 70 = .ok (.getfield 14, 3) := by decide +kernel
theorem dX5_fits_73 : decode cX5_fits 73 = .ok (.getfield 196, 3) := by decide +kernel
theorem dX5_fits_76 : decode cX5_fits 76 = .ok (.iload_n 2, 1) := by decide +kernel
theorem dX5_fits_77 : decode cX5_fits 77 = .ok (.iaload, 1) := by decide +kernel
theorem dX5_fits_78 : decode cX5_fits 78 = .ok (.isub, 1) := by decide +kernel
theorem dX5_fits_79 : decode cX5_fits 79 = .ok (.iload 9, 2) := by decide +kernel
theorem dX5_fits_81 : decode cX5_fits 81 = .ok (.aload_n 0, 1) := by decide +kernel
theorem dX5_fits_82 : decode cX5_fits 82 = .ok (.getfield 14, 3) := by decide +kernel
theorem dX5_fits_85 : decode cX5_fits 85 = .ok (.getfield 196, 3) := by decide +kernel
theorem dX5_fits_88 : decode cX5_fits 88 = .ok (.iload_n 2, 1) := by decide +kernel
theorem dX5_fits_89 : decode cX5_fits 89 = .ok (.iaload, 1) := by decide +kernel
theorem dX5_fits_90 : decode cX5_fits 90 = .ok (.iadd, 1) := by decide +kernel
theorem dX5_fits_91 : decode cX5_fits 91 = .ok (.invokevirtual 169, 3) := by decide +kernel
theorem dX5_fits_94 : decode cX5_fits 94 = .ok (.aload_n 0, 1) := by decide +kernel
theorem dX5_fits_95 : decode cX5_fits 95 = .ok (.getfield 35, 3) := by decide +kernel
theorem dX5_fits_98 : decode cX5_fits 98 = .ok (.aload 6, 2) := by decide +kernel
theorem dX5_fits_100 : decode cX5_fits 100 = .ok (.invokevirtual 173, 3) := by decide +kernel
theorem dX5_fits_103 : decode cX5_fits 103 = .ok (.aload_n 0, 1) := by decide +kernel
theorem dX5_fits_104 : decode cX5_fits 104 = .ok (.getfield 35, 3) := by decide +kernel
theorem dX5_fits_107 : decode cX5_fits 107 = .ok (.getfield 131, 3) := by decide +kernel
theorem dX5_fits_110 : decode cX5_fits 110 = .ok (.ifCond .ne 39, 3) := by decide +kernel
theorem dX5_fits_113 : decode cX5_fits 113 = .ok (.aload_n 0, 1) := by decide +kernel
theorem dX5_fits_114 : decode cX5_fits 114 = .ok (.getfield 35, 3) := by decide +kernel
theorem dX5_fits_117 : decode cX5_fits 117 = .ok (.getfield 188, 3) := by decide +kernel
theorem dX5_fits_120 : decode cX5_fits 120 = .ok (.lload_n 3, 1) := by decide +kernel
theorem dX5_fits_121 : decode cX5_fits 121 = .ok (.lcmp, 1) := by decide +kernel
theorem dX5_fits_122 : decode cX5_fits 122 = .ok (.ifCond .gt 27, 3) := by decide +kernel
theorem dX5_fits_125 : decode cX5_fits 125 = .ok (.lload_n 3, 1) := by decide +kernel
theorem dX5_fits_126 : decode cX5_fits 126 = .ok (.aload_n 0, 1) := by decide +kernel
theorem dX5_fits_127 : decode cX5_fits 127 = .ok (.getfield 35, 3) := by decide +kernel
theorem dX5_fits_130 : decode cX5_fits 130 = .ok (.getfield 184, 3) := by decide +kernel
theorem dX5_fits_133 : decode cX5_fits 133 = .ok (.lcmp, 1) := by decide +kernel
theorem dX5_fits_134 : decode cX5_fits 134 = .ok (.ifCond .gt 15, 3) := by decide +kernel
theorem dX5_fits_137 : decode cX5_fits 137 = .ok (.iload 7, 2) := by decide +kernel
theorem dX5_fits_139 : decode cX5_fits 139 = .ok (.ifCond .ne 7, 3) := by decide +kernel
theorem dX5_fits_142 : decode cX5_fits 142 = .ok (.iload 9, 2) := by decide +kernel
theorem dX5_fits_144 : decode cX5_fits 144 = .ok (.istore 8, 2) := by decide +kernel
theorem dX5_fits_146 : decode cX5_fits 146 = .ok (.iinc 7 1, 3) := by decide +kernel
theorem dX5_fits_149 : decode cX5_fits 149 = .ok (.iinc 9 1, 3) := by decide +kernel
theorem dX5_fits_152 : decode cX5_fits 152 = .ok (.goto (-97), 3) := by decide +kernel
theorem dX5_fits_155 : decode cX5_fits 155 = .ok (.iload 5, 2) := by decide +kernel
theorem dX5_fits_157 : decode cX5_fits 157 = .ok (.ifCond .ne 8, 3) := by decide +kernel
theorem dX5_fits_160 : decode cX5_fits 160 = .ok (.iload 7, 2) := by decide +kernel
theorem dX5_fits_162 : decode cX5_fits 162 = .ok (.goto 5, 3) := by decide +kernel
theorem dX5_fits_165 : decode cX5_fits 165 = .ok (.iload 8, 2) := by decide +kernel
theorem dX5_fits_167 : decode cX5_fits 167 = .ok (.ireturn, 1) := by decide +kernel
theorem dX5_odds_0 : decode cX5_odds 0 = .ok (.aload_n 0, 1) := by decide +kernel
theorem dX5_odds_1 : decode cX5_odds 1 = .ok (.iload_n 1, 1) := by decide +kernel
theorem dX5_odds_2 : decode cX5_odds 2 = .ok (.invokevirtual 100, 3) := by decide +kernel
theorem dX5_odds_5 : decode cX5_odds 5 = .ok (.astore 9, 2) := by decide +kernel
theorem dX5_odds_7 : decode cX5_odds 7 = .ok (.aload 9, 2) := by decide +kernel
theorem dX5_odds_9 : decode cX5_odds 9 = .ok (.ifnull 25, 3) := by decide +kernel
theorem dX5_odds_12 : decode cX5_odds 12 = .ok (.iload_n 3, 1) := by decide +kernel
theorem dX5_odds_13 : decode cX5_odds 13 = .ok (.iconst 1, 1) := by decide +kernel
theorem dX5_odds_14 : decode cX5_odds 14 = .ok (.if_icmp .lt 20, 3) := by decide +kernel
theorem dX5_odds_17 : decode cX5_odds 17 = .ok (.iload_n 3, 1) := by decide +kernel
theorem dX5_odds_18 : decode cX5_odds 18 = .ok (.bipush 30, 2) := by decide +kernel
theorem dX5_odds_20 : decode cX5_odds 20 = .ok (.if_icmp .gt 14, 3) := by decide +kernel
theorem dX5_odds_23 : decode cX5_odds 23 = .ok (.iload 8, 2) := by decide +kernel
theorem dX5_odds_25 : decode cX5_odds 25 = .ok (.ifCond .lt 9, 3) := by decide +kernel
theorem dX5_odds_28 : decode cX5_odds 28 = .ok (.iload 8, 2) := by decide +kernel
theorem dX5_odds_30 : decode cX5_odds 30 = .ok (.iconst 1, 1) := by decide +kernel
theorem dX5_odds_31 : decode cX5_odds 31 = .ok (.if_icmp .le 7, 3) := by decide +kernel
theorem dX5_odds_34 : decode cX5_odds 34 = .ok (.ldc2_w 125, 3) := by decide +kernel
theorem dX5_odds_37 : decode cX5_odds 37 = .ok (.lreturn, 1) := by decide +kernel
theorem dX5_odds_38 : decode cX5_odds 38 = .ok (.aload_n 0, 1) := by decide +kernel
theorem dX5_odds_39 : decode cX5_odds 39 = .ok (.aload 9, 2) := by decide +kernel
theorem dX5_odds_41 : decode cX5_odds 41 = .ok (.invokevirtual 127, 3) := by decide +kernel
theorem dX5_odds_44 : decode cX5_odds 44 = .ok (.aload_n 0, 1) := by decide +kernel
theorem dX5_odds_45 : decode cX5_odds 45 = .ok (.getfield 35, 3) := by decide +kernel
theorem dX5_odds_48 : decode cX5_odds 48 = .ok (.getfield 131, 3) := by decide +kernel
theorem dX5_odds_51 : decode cX5_odds 51 = .ok (.ifCond .eq 7, 3) := by decide +kernel
theorem dX5_odds_54 : decode cX5_odds 54 = .ok (.ldc2_w 141, 3) := by decide +kernel
theorem dX5_odds_57 : decode cX5_odds 57 = .ok (.lreturn, 1) := by decide +kernel
theorem dX5_odds_58 : decode cX5_odds 58 = .ok (.iconst 0, 1) := by decide +kernel
theorem dX5_odds_59 : decode cX5_odds 59 = .ok (.istore 10, 2) := by decide +kernel
theorem dX5_odds_61 : decode cX5_odds 61 = .ok (.iconst 0, 1) := by decide +kernel
theorem dX5_odds_62 : decode cX5_odds 62 = .ok (.istore 11, 2) := by decide +kernel
theorem dX5_odds_64 : decode cX5_odds 64 = .ok (.iload 11, 2) := by decide +kernel
theorem dX5_odds_66 : decode cX5_odds 66 = .ok (.iload_n 3, 1) := by decide +kernel
theorem dX5_odds_67 : decode cX5_odds 67 = .ok (.if_icmp .ge 54, 3) := by decide +kernel
theorem dX5_odds_70 : decode cX5_odds 70 = .ok (.aload_n 0, 1) := by decide +kernel
theorem dX5_odds_71 : decode cX5_odds 71 = .ok (.getfield 35, 3) := by decide +kernel
theorem dX5_odds_74 : decode cX5_odds 74 = .ok (.iload_n 2, 1) := by decide +kernel
theorem dX5_odds_75 : decode cX5_odds 75 = .ok (.iload 11, 2) := by decide +kernel
theorem dX5_odds_77 : decode cX5_odds 77 = .ok (.iadd, 1) := by decide +kernel
theorem dX5_odds_78 : decode cX5_odds 78 = .ok (.aload_n 0, 1) := by decide +kernel
theorem dX5_odds_79 : decode cX5_odds 79 = .ok (.getfield 14, 3) := by decide +kernel
theorem dX5_odds_82 : decode cX5_odds 82 = .ok (.invokevirtual 209, 3) := by decide +kernel
theorem dX5_odds_85 : decode cX5_odds 85 = .ok (.aload_n 0, 1) := by decide +kernel
theorem dX5_odds_86 : decode cX5_odds 86 = .ok (.getfield 35, 3) := by decide +kernel
theorem dX5_odds_89 : decode cX5_odds 89 = .ok (.aload 9, 2) := by decide +kernel
theorem dX5_odds_91 : decode cX5_odds 91 = .ok (.invokevirtual 148, 3) := by decide +kernel
theorem dX5_odds_94 : decode cX5_odds 94 = .ok (.lstore 12, 2) := by decide +kernel
theorem dX5_odds_96 : decode cX5_odds 96 = .ok (.lload 4, 2) := by decide +kernel
theorem dX5_odds_98 : decode cX5_odds 98 = .ok (.lload 12, 2) := by decide +kernel
theorem dX5_odds_100 : decode cX5_odds 100 = .ok (.lcmp, 1) := by decide +kernel
theorem dX5_odds_101 : decode cX5_odds 101 = .ok (.ifCond .gt 14, 3) := by decide +kernel
theorem dX5_odds_104 : decode cX5_odds 104 = .ok (.lload 12, 2) := by decide +kernel
theorem dX5_odds_106 : decode cX5_odds 106 = .ok (.lload 6, 2) := by decide +kernel
theorem dX5_odds_108 : decode cX5_odds 108 = .ok (.lcmp, 1) := by decide +kernel
theorem dX5_odds_109 : decode cX5_odds 109 = .ok (.ifCond .gt 6, 3) := by decide +kernel
theorem dX5_odds_112 : decode cX5_odds 112 = .ok (.iinc 10 1, 3) := by decide +kernel
theorem dX5_odds_115 : decode cX5_odds 115 = .ok (.iinc 11 1, 3) := by decide +kernel
theorem dX5_odds_118 : decode cX5_odds 118 = .ok (.goto (-54), 3) := by decide +kernel
theorem dX5_odds_121 : decode cX5_odds 121 = .ok (.iload 10, 2) := by decide +kernel
theorem dX5_odds_123 : decode cX5_odds 123 = .ok (.iload_n 3, 1) := by decide +kernel
theorem dX5_odds_124 : decode cX5_odds 124 = .ok (.invokestatic 213, 3) := by decide +kernel
theorem dX5_odds_127 : decode cX5_odds 127 = .ok (.istore 11, 2) := by decide +kernel
theorem dX5_odds_129 : decode cX5_odds 129 = .ok (.iload 8, 2) := by decide +kernel
theorem dX5_odds_131 : decode cX5_odds 131 = .ok (.ifCond .ne 12, 3) := by decide +kernel
theorem dX5_odds_134 : decode cX5_odds 134 = .ok (.iload 10, 2) := by decide +kernel
theorem dX5_odds_136 : decode cX5_odds 136 = .ok (.iload 11, 2) := by decide +kernel
theorem dX5_odds_138 : decode cX5_odds 138 = .ok (.idiv, 1) := by decide +kernel
theorem dX5_odds_139 : decode cX5_odds 139 = .ok (.i2l, 1) := by decide +kernel
theorem dX5_odds_140 : decode cX5_odds 140 = .ok (.goto 8, 3) := by decide +kernel
theorem dX5_odds_143 : decode cX5_odds 143 = .ok (.iload_n 3, 1) := by decide +kernel
theorem dX5_odds_144 : decode cX5_odds 144 = .ok (.iload 11, 2) := by decide +kernel
theorem dX5_odds_146 : decode cX5_odds 146 = .ok (.idiv, 1) := by decide +kernel
theorem dX5_odds_147 : decode cX5_odds 147 = .ok (.i2l, 1) := by decide +kernel
theorem dX5_odds_148 : decode cX5_odds 148 = .ok (.lreturn, 1) := by decide +kernel
theorem dX5_plan_0 : decode cX5_plan 0 = .ok (.iload_n 1, 1) := by decide +kernel
theorem dX5_plan_1 : decode cX5_plan 1 = .ok (.iconst (-1), 1) := by decide +kernel
theorem dX5_plan_2 : decode cX5_plan 2 = .ok (.if_icmp .ne 13, 3) := by decide +kernel
theorem dX5_plan_5 : decode cX5_plan 5 = .ok (.aload_n 0, 1) := by decide +kernel
theorem dX5_plan_6 : decode cX5_plan 6 = .ok (.getfield 14, 3) := by decide +kernel
theorem dX5_plan_9 : decode cX5_plan 9 = .ok (.iconst 0, 1) := by decide +kernel
theorem dX5_plan_10 : decode cX5_plan 10 = .ok (.putfield 217, 3) := by decide +kernel
theorem dX5_plan_13 : decode cX5_plan 13 = .ok (.iconst 0, 1) := by decide +kernel
theorem dX5_plan_14 : decode cX5_plan 14 = .ok (.ireturn, 1) := by decide +kernel
theorem dX5_plan_15 : decode cX5_plan 15 = .ok (.iload_n 1, 1) := by decide +kernel
theorem dX5_plan_16 : decode cX5_plan 16 = .ok (.invokestatic 61, 3) := by decide +kernel
theorem dX5_plan_19 : decode cX5_plan 19 = .ok (.ifCond .eq 12, 3) := by decide +kernel
theorem dX5_plan_22 : decode cX5_plan 22 = .ok (.iload_n 2, 1) := by decide +kernel
theorem dX5_plan_23 : decode cX5_plan 23 = .ok (.ifCond .lt 8, 3) := by decide +kernel
theorem dX5_plan_26 : decode cX5_plan 26 = .ok (.iload_n 2, 1) := by decide +kernel
theorem dX5_plan_27 : decode cX5_plan 27 = .ok (.iconst 2, 1) := by decide +kernel
theorem dX5_plan_28 : decode cX5_plan 28 = .ok (.if_icmp .le 5, 3) := by decide +kernel
theorem dX5_plan_31 : decode cX5_plan 31 = .ok (.iconst (-1), 1) := by decide +kernel
theorem dX5_plan_32 : decode cX5_plan 32 = .ok (.ireturn, 1) := by decide +kernel
theorem dX5_plan_33 : decode cX5_plan 33 = .ok (.iload_n 2, 1) := by decide +kernel
theorem dX5_plan_34 : decode cX5_plan 34 = .ok (.iconst 2, 1) := by decide +kernel
theorem dX5_plan_35 : decode cX5_plan 35 = .ok (.if_icmp .ne 20, 3) := by decide +kernel
theorem dX5_plan_38 : decode cX5_plan 38 = .ok (.iload_n 3, 1) := by decide +kernel
theorem dX5_plan_39 : decode cX5_plan 39 = .ok (.ifCond .lt 12, 3) := by decide +kernel
theorem dX5_plan_42 : decode cX5_plan 42 = .ok (.iload_n 3, 1) := by decide +kernel
theorem dX5_plan_43 : decode cX5_plan 43 = .ok (.iconst 4, 1) := by decide +kernel
theorem dX5_plan_44 : decode cX5_plan 44 = .ok (.if_icmp .gt 7, 3) := by decide +kernel
theorem dX5_plan_47 : decode cX5_plan 47 = .ok (.iconst 1, 1) := by decide +kernel
theorem dX5_plan_48 : decode cX5_plan 48 = .ok (.goto 12, 3) := by decide +kernel
theorem dX5_plan_51 : decode cX5_plan 51 = .ok (.iconst 0, 1) := by decide +kernel
theorem dX5_plan_52 : decode cX5_plan 52 = .ok (.goto 8, 3) := by decide +kernel
theorem dX5_plan_55 : decode cX5_plan 55 = .ok (.iload_n 2, 1) := by decide +kernel
theorem dX5_plan_56 : decode cX5_plan 56 = .ok (.iload_n 3, 1) := by decide +kernel
theorem dX5_plan_57 : decode cX5_plan 57 = .ok (.invokestatic 65, 3) := by decide +kernel
theorem dX5_plan_60 : decode cX5_plan 60 = .ok (.istore 4, 2) := by decide +kernel
theorem dX5_plan_62 : decode cX5_plan 62 = .ok (.iload 4, 2) := by decide +kernel
theorem dX5_plan_64 : decode cX5_plan 64 = .ok (.ifCond .ne 6, 3) := by decide +kernel
theorem dX5_plan_67 : decode cX5_plan 67 = .ok (.bipush (-2), 2) := by decide +kernel
theorem dX5_plan_69 : decode cX5_plan 69 = .ok (.ireturn, 1) := by decide +kernel
theorem dX5_plan_70 : decode cX5_plan 70 = .ok (.aload_n 0, 1) := by decide +kernel
theorem dX5_plan_71 : decode cX5_plan 71 = .ok (.getfield 14, 3) := by decide +kernel
theorem dX5_plan_74 : decode cX5_plan 74 = .ok (.getfield 217, 3) := by decide +kernel
theorem dX5_plan_77 : decode cX5_plan 77 = .ok (.bipush 8, 2) := by decide +kernel
theorem dX5_plan_79 : decode cX5_plan 79 = .ok (.if_icmp .lt 6, 3) := by decide +kernel
theorem dX5_plan_82 : decode cX5_plan 82 = .ok (.bipush (-4), 2) := by decide +kernel
theorem dX5_plan_84 : decode cX5_plan 84 = .ok (.ireturn, 1) := by decide +kernel
theorem dX5_plan_85 : decode cX5_plan 85 = .ok (.aload_n 0, 1) := by decide +kernel
theorem dX5_plan_86 : decode cX5_plan 86 = .ok (.getfield 14, 3) := by decide +kernel
theorem dX5_plan_89 : decode cX5_plan 89 = .ok (.getfield 220, 3) := by decide +kernel
theorem dX5_plan_92 : decode cX5_plan 92 = .ok (.aload_n 0, 1) := by decide +kernel
theorem dX5_plan_93 : decode cX5_plan 93 = .ok (.getfield 14, 3) := by decide +kernel
theorem dX5_plan_96 : decode cX5_plan 96 = .ok (.getfield 217, 3) := by decide +kernel
theorem dX5_plan_99 : decode cX5_plan 99 = .ok (.iload_n 1, 1) := by decide +kernel
theorem dX5_plan_100 : decode cX5_plan 100 = .ok (.iastore, 1) := by decide +kernel
theorem dX5_plan_101 : decode cX5_plan 101 = .ok (.aload_n 0, 1) := by decide +kernel
theorem dX5_plan_102 : decode cX5_plan 102 = .ok (.getfield 14, 3) := by decide +kernel
theorem dX5_plan_105 : decode cX5_plan 105 = .ok (.getfield 223, 3) := by decide +kernel
theorem dX5_plan_108 : decode cX5_plan 108 = .ok (.aload_n 0, 1) := by decide +kernel
theorem dX5_plan_109 : decode cX5_plan 109 = .ok (.getfield 14, 3) := by decide +kernel
theorem dX5_plan_112 : decode cX5_plan 112 = .ok (.getfield 217, 3) := by decide +kernel
theorem dX5_plan_115 : decode cX5_plan 115 = .ok (.iload_n 2, 1) := by decide +kernel
theorem dX5_plan_116 : decode cX5_plan 116 = .ok (.iastore, 1) := by decide +kernel
theorem dX5_plan_117 : decode cX5_plan 117 = .ok (.aload_n 0, 1) := by decide +kernel
theorem dX5_plan_118 : decode cX5_plan 118 = .ok (.getfield 14, 3) := by decide +kernel
theorem dX5_plan_121 : decode cX5_plan 121 = .ok (.getfield 226, 3) := by decide +kernel
theorem dX5_plan_124 : decode cX5_plan 124 = .ok (.aload_n 0, 1) := by decide +kernel
theorem dX5_plan_125 : decode cX5_plan 125 = .ok (.getfield 14, 3) := by decide +kernel
theorem dX5_plan_128 : decode cX5_plan 128 = .ok (.getfield 217, 3) := by decide +kernel
theorem dX5_plan_131 : decode cX5_plan 131 = .ok (.iload_n 3, 1) := by decide +kernel
theorem dX5_plan_132 : decode cX5_plan 132 = .ok (.iastore, 1) := by decide +kernel
theorem dX5_plan_133 : decode cX5_plan 133 = .ok (.aload_n 0, 1) := by decide +kernel
theorem dX5_plan_134 : decode cX5_plan 134 = .ok (.getfield 14, 3) := by decide +kernel
theorem dX5_plan_137 : decode cX5_plan 137 = .ok (.dup, 1) := by decide +kernel
theorem dX5_plan_138 : decode cX5_plan 138 = .ok (.getfield 217, 3) := by decide +kernel
theorem dX5_plan_141 : decode cX5_plan 141 = .ok (.iconst 1, 1) := by decide +kernel
theorem dX5_plan_142 : decode cX5_plan 142 = .ok (.iadd, 1) := by decide +kernel
theorem dX5_plan_143 : decode cX5_plan 143 = .ok (.putfield 217, 3) := by decide +kernel
theorem dX5_plan_146 : decode cX5_plan 146 = .ok (.aload_n 0, 1) := by decide +kernel
theorem dX5_plan_147 : decode cX5_plan 147 = .ok (.getfield 14, 3) := by decide +kernel
theorem dX5_plan_150 : decode cX5_plan 150 = .ok (.getfield 217, 3) := by decide +kernel
theorem dX5_plan_153 : decode cX5_plan 153 = .ok (.ireturn, 1) := by decide +kernel
theorem dX5_ends_0 : decode cX5_ends 0 = .ok (.aload_n 0, 1) := by decide +kernel
theorem dX5_ends_1 : decode cX5_ends 1 = .ok (.iload_n 1, 1) := by decide +kernel
theorem dX5_ends_2 : decode cX5_ends 2 = .ok (.invokevirtual 100, 3) := by decide +kernel
theorem dX5_ends_5 : decode cX5_ends 5 = .ok (.astore_n 2, 1) := by decide +kernel
theorem dX5_ends_6 : decode cX5_ends 6 = .ok (.aload_n 2, 1) := by decide +kernel
theorem dX5_ends_7 : decode cX5_ends 7 = .ok (.ifnonnull 7, 3) := by decide +kernel
theorem dX5_ends_10 : decode cX5_ends 10 = .ok (.ldc2_w 125, 3) := by decide +kernel
theorem dX5_ends_13 : decode cX5_ends 13 = .ok (.lreturn, 1) := by decide +kernel
theorem dX5_ends_14 : decode cX5_ends 14 = .ok (.iconst 0, 1) := by decide +kernel
theorem dX5_ends_15 : decode cX5_ends 15 = .ok (.istore_n 3, 1) := by decide +kernel
theorem dX5_ends_16 : decode cX5_ends 16 = .ok (.iload_n 3, 1) := by decide +kernel
theorem dX5_ends_17 : decode cX5_ends 17 = .ok (.bipush 6, 2) := by decide +kernel
theorem dX5_ends_19 : decode cX5_ends 19 = .ok (.if_icmp .ge 127, 3) := by decide +kernel
theorem dX5_ends_22 : decode cX5_ends 22 = .ok (.aload_n 0, 1) := by decide +kernel
theorem dX5_ends_23 : decode cX5_ends 23 = .ok (.getfield 14, 3) := by decide +kernel
theorem dX5_ends_26 : decode cX5_ends 26 = .ok (.getfield 145, 3) := by decide +kernel
theorem dX5_ends_29 : decode cX5_ends 29 = .ok (.iload_n 3, 1) := by decide +kernel
theorem dX5_ends_30 : decode cX5_ends 30 = .ok (.iaload, 1) := by decide +kernel
theorem dX5_ends_31 : decode cX5_ends 31 = .ok (.istore 4, 2) := by decide +kernel
theorem dX5_ends_33 : decode cX5_ends 33 = .ok (.aload_n 0, 1) := by decide +kernel
theorem dX5_ends_34 : decode cX5_ends 34 = .ok (.getfield 14, 3) := by decide +kernel
theorem dX5_ends_37 : decode cX5_ends 37 = .ok (.getfield 196, 3) := by decide +kernel
theorem dX5_ends_40 : decode cX5_ends 40 = .ok (.iload_n 3, 1) := by decide +kernel
theorem dX5_ends_41 : decode cX5_ends 41 = .ok (.iaload, 1) := by decide +kernel
theorem dX5_ends_42 : decode cX5_ends 42 = .ok (.istore 5, 2) := by decide +kernel
theorem dX5_ends_44 : decode cX5_ends 44 = .ok (.iconst 0, 1) := by decide +kernel
theorem dX5_ends_45 : decode cX5_ends 45 = .ok (.istore 6, 2) := by decide +kernel
theorem dX5_ends_47 : decode cX5_ends 47 = .ok (.iload 6, 2) := by decide +kernel
theorem dX5_ends_49 : decode cX5_ends 49 = .ok (.aload_n 0, 1) := by decide +kernel
theorem dX5_ends_50 : decode cX5_ends 50 = .ok (.getfield 14, 3) := by decide +kernel
theorem dX5_ends_53 : decode cX5_ends 53 = .ok (.getfield 217, 3) := by decide +kernel
theorem dX5_ends_56 : decode cX5_ends 56 = .ok (.if_icmp .ge 66, 3) := by decide +kernel
theorem dX5_ends_59 : decode cX5_ends 59 = .ok (.aload_n 0, 1) := by decide +kernel
theorem dX5_ends_60 : decode cX5_ends 60 = .ok (.getfield 14, 3) := by decide +kernel
theorem dX5_ends_63 : decode cX5_ends 63 = .ok (.getfield 220, 3) := by decide +kernel
theorem dX5_ends_66 : decode cX5_ends 66 = .ok (.iload 6, 2) := by decide +kernel
theorem dX5_ends_68 : decode cX5_ends 68 = .ok (.iaload, 1) := by decide +kernel
theorem dX5_ends_69 : decode cX5_ends 69 = .ok (.iload_n 3, 1) := by decide +kernel
theorem dX5_ends_70 : decode cX5_ends 70 = .ok (.if_icmp .ne 46, 3) := by decide +kernel
theorem dX5_ends_73 : decode cX5_ends 73 = .ok (.aload_n 0, 1) := by decide +kernel
theorem dX5_ends_74 : decode cX5_ends 74 = .ok (.getfield 14, 3) := by decide +kernel
theorem dX5_ends_77 : decode cX5_ends 77 = .ok (.getfield 223, 3) := by decide +kernel
theorem dX5_ends_80 : decode cX5_ends 80 = .ok (.iload 6, 2) := by decide +kernel
theorem dX5_ends_82 : decode cX5_ends 82 = .ok (.iaload, 1) := by decide +kernel
theorem dX5_ends_83 : decode cX5_ends 83 = .ok (.ifCond .ne 16, 3) := by decide +kernel
theorem dX5_ends_86 : decode cX5_ends 86 = .ok (.aload_n 0, 1) := by decide +kernel
theorem dX5_ends_87 : decode cX5_ends 87 = .ok (.getfield 14, 3) := by decide +kernel
theorem dX5_ends_90 : decode cX5_ends 90 = .ok (.getfield 226, 3) := by decide +kernel
theorem dX5_ends_93 : decode cX5_ends 93 = .ok (.iload 6, 2) := by decide +kernel
theorem dX5_ends_95 : decode cX5_ends 95 = .ok (.iaload, 1) := by decide +kernel
theorem dX5_ends_96 : decode cX5_ends 96 = .ok (.goto 5, 3) := by decide +kernel
theorem dX5_ends_99 : decode cX5_ends 99 = .ok (.iload 4, 2) := by decide +kernel
theorem dX5_ends_101 : decode cX5_ends 101 = .ok (.istore 4, 2) := by decide +kernel
theorem dX5_ends_103 : decode cX5_ends 103 = .ok (.aload_n 0, 1) := by decide +kernel
theorem dX5_ends_104 : decode cX5_ends 104 = .ok (.getfield 14, 3) := by decide +kernel
theorem dX5_ends_107 : decode cX5_ends 107 = .ok (.iload 6, 2) := by decide +kernel
theorem dX5_ends_109 : decode cX5_ends 109 = .ok (.iload 5, 2) := by decide +kernel
theorem dX5_ends_111 : decode cX5_ends 111 = .ok (.invokevirtual 229, 3) := by decide +kernel
theorem dX5_ends_114 : decode cX5_ends 114 = .ok (.istore 5, 2) := by decide +kernel
theorem dX5_ends_116 : decode cX5_ends 116 = .ok (.iinc 6 1, 3) := by decide +kernel
theorem dX5_ends_119 : decode cX5_ends 119 = .ok (.goto (-72), 3) := by decide +kernel
theorem dX5_ends_122 : decode cX5_ends 122 = .ok (.aload_n 0, 1) := by decide +kernel
theorem dX5_ends_123 : decode cX5_ends 123 = .ok (.getfield 35, 3) := by decide +kernel
theorem dX5_ends_126 : decode cX5_ends 126 = .ok (.iload_n 3, 1) := by decide +kernel
theorem dX5_ends_127 : decode cX5_ends 127 = .ok (.iload 4, 2) := by decide +kernel
theorem dX5_ends_129 : decode cX5_ends 129 = .ok (.iload 5, 2) := by decide +kernel
theorem dX5_ends_131 : decode cX5_ends 131 = .ok (.isub, 1) := by decide +kernel
theorem dX5_ends_132 : decode cX5_ends 132 = .ok (.iload 4, 2) := by decide +kernel
theorem dX5_ends_134 : decode cX5_ends 134 = .ok (.iload 5, 2) := by decide +kernel
theorem dX5_ends_136 : decode cX5_ends 136 = .ok (.iadd, 1) := by decide +kernel
theorem dX5_ends_137 : decode cX5_ends 137 = .ok (.invokevirtual 169, 3) := by decide +kernel
theorem dX5_ends_140 : decode cX5_ends 140 = .ok (.iinc 3 1, 3) := by decide +kernel
theorem dX5_ends_143 : decode cX5_ends 143 = .ok (.goto (-127), 3) := by decide +kernel
theorem dX5_ends_146 : decode cX5_ends 146 = .ok (.aload_n 0, 1) := by decide +kernel
theorem dX5_ends_147 : decode cX5_ends 147 = .ok (.getfield 35, 3) := by decide +kernel
theorem dX5_ends_150 : decode cX5_ends 150 = .ok (.aload_n 2, 1) := by decide +kernel
theorem dX5_ends_151 : decode cX5_ends 151 = .ok (.invokevirtual 173, 3) := by decide +kernel
theorem dX5_ends_154 : decode cX5_ends 154 = .ok (.aload_n 0, 1) := by decide +kernel
theorem dX5_ends_155 : decode cX5_ends 155 = .ok (.getfield 35, 3) := by decide +kernel
theorem dX5_ends_158 : decode cX5_ends 158 = .ok (.iconst 2, 1) := by decide +kernel
theorem dX5_ends_159 : decode cX5_ends 159 = .ok (.invokevirtual 137, 3) := by decide +kernel
theorem dX5_ends_162 : decode cX5_ends 162 = .ok (.lreturn, 1) := by decide +kernel
theorem dX5_judge_0 : decode cX5_judge 0 = .ok (.iload_n 1, 1) := by decide +kernel
theorem dX5_judge_1 : decode cX5_judge 1 = .ok (.invokestatic 232, 3) := by decide +kernel
theorem dX5_judge_4 : decode cX5_judge 4 = .ok (.ifCond .ne 5, 3) := by decide +kernel
theorem dX5_judge_7 : decode cX5_judge 7 = .ok (.iconst (-1), 1) := by decide +kernel
theorem dX5_judge_8 : decode cX5_judge 8 = .ok (.ireturn, 1) := by decide +kernel
theorem dX5_judge_9 : decode cX5_judge 9 = .ok (.aload_n 0, 1) := by decide +kernel
theorem dX5_judge_10 : decode cX5_judge 10 = .ok (.getfield 44, 3) := by decide +kernel
theorem dX5_judge_13 : decode cX5_judge 13 = .ok (.iload_n 1, 1) := by decide +kernel
theorem dX5_judge_14 : decode cX5_judge 14 = .ok (.iaload, 1) := by decide +kernel
theorem dX5_judge_15 : decode cX5_judge 15 = .ok (.bipush (-11), 2) := by decide +kernel
theorem dX5_judge_17 : decode cX5_judge 17 = .ok (.if_icmp .ne 6, 3) := by decide +kernel
theorem dX5_judge_20 : decode cX5_judge 20 = .ok (.bipush (-11), 2) := by decide +kernel
theorem dX5_judge_22 : decode cX5_judge 22 = .ok (.ireturn, 1) := by decide +kernel
theorem dX5_judge_23 : decode cX5_judge 23 = .ok (.iconst 0, 1) := by decide +kernel
theorem dX5_judge_24 : decode cX5_judge 24 = .ok (.istore_n 2, 1) := by decide +kernel
theorem dX5_judge_25 : decode cX5_judge 25 = .ok (.iload_n 2, 1) := by decide +kernel
theorem dX5_judge_26 : decode cX5_judge 26 = .ok (.aload_n 0, 1) := by decide +kernel
theorem dX5_judge_27 : decode cX5_judge 27 = .ok (.getfield 44, 3) := by decide +kernel
theorem dX5_judge_30 : decode cX5_judge 30 = .ok (.iload_n 1, 1) := by decide +kernel
theorem dX5_judge_31 : decode cX5_judge 31 = .ok (.iaload, 1) := by decide +kernel
theorem dX5_judge_32 : decode cX5_judge 32 = .ok (.if_icmp .ge 65, 3) := by decide +kernel
theorem dX5_judge_35 : decode cX5_judge 35 = .ok (.aload_n 0, 1) := by decide +kernel
theorem dX5_judge_36 : decode cX5_judge 36 = .ok (.iload_n 2, 1) := by decide +kernel
theorem dX5_judge_37 : decode cX5_judge 37 = .ok (.invokevirtual 100, 3) := by decide +kernel
theorem dX5_judge_40 : decode cX5_judge 40 = .ok (.astore_n 3, 1) := by decide +kernel
theorem dX5_judge_41 : decode cX5_judge 41 = .ok (.aload_n 3, 1) := by decide +kernel
theorem dX5_judge_42 : decode cX5_judge 42 = .ok (.ifnonnull 5, 3) := by decide +kernel
theorem dX5_judge_45 : decode cX5_judge 45 = .ok (.iload_n 2, 1) := by decide +kernel
theorem dX5_judge_46 : decode cX5_judge 46 = .ok (.ireturn, 1) := by decide +kernel
theorem dX5_judge_47 : decode cX5_judge 47 = .ok (.aload_n 0, 1) := by decide +kernel
theorem dX5_judge_48 : decode cX5_judge 48 = .ok (.aload_n 3, 1) := by decide +kernel
theorem dX5_judge_49 : decode cX5_judge 49 = .ok (.invokevirtual 127, 3) := by decide +kernel
theorem dX5_judge_52 : decode cX5_judge 52 = .ok (.aload_n 0, 1) := by decide +kernel
theorem dX5_judge_53 : decode cX5_judge 53 = .ok (.getfield 35, 3) := by decide +kernel
theorem dX5_judge_56 : decode cX5_judge 56 = .ok (.invokevirtual 180, 3) := by decide +kernel
theorem dX5_judge_59 : decode cX5_judge 59 = .ok (.ifCond .eq 30, 3) := by decide +kernel
theorem dX5_judge_62 : decode cX5_judge 62 = .ok (.aload_n 0, 1) := by decide +kernel
theorem dX5_judge_63 : decode cX5_judge 63 = .ok (.getfield 35, 3) := by decide +kernel
theorem dX5_judge_66 : decode cX5_judge 66 = .ok (.getfield 184, 3) := by decide +kernel
theorem dX5_judge_69 : decode cX5_judge 69 = .ok (.aload_n 0, 1) := by decide +kernel
theorem dX5_judge_70 : decode cX5_judge 70 = .ok (.getfield 35, 3) := by decide +kernel
theorem dX5_judge_73 : decode cX5_judge 73 = .ok (.getfield 188, 3) := by decide +kernel
theorem dX5_judge_76 : decode cX5_judge 76 = .ok (.lsub, 1) := by decide +kernel
theorem dX5_judge_77 : decode cX5_judge 77 = .ok (.aload_n 0, 1) := by decide +kernel
theorem dX5_judge_78 : decode cX5_judge 78 = .ok (.getfield 41, 3) := by decide +kernel
theorem dX5_judge_81 : decode cX5_judge 81 = .ok (.iload_n 1, 1) := by decide +kernel
theorem dX5_judge_82 : decode cX5_judge 82 = .ok (.aaload, 1) := by decide +kernel
theorem dX5_judge_83 : decode cX5_judge 83 = .ok (.iload_n 2, 1) := by decide +kernel
theorem dX5_judge_84 : decode cX5_judge 84 = .ok (.laload, 1) := by decide +kernel
theorem dX5_judge_85 : decode cX5_judge 85 = .ok (.lcmp, 1) := by decide +kernel
theorem dX5_judge_86 : decode cX5_judge 86 = .ok (.ifCond .eq 5, 3) := by decide +kernel
theorem dX5_judge_89 : decode cX5_judge 89 = .ok (.iload_n 2, 1) := by decide +kernel
theorem dX5_judge_90 : decode cX5_judge 90 = .ok (.ireturn, 1) := by decide +kernel
theorem dX5_judge_91 : decode cX5_judge 91 = .ok (.iinc 2 1, 3) := by decide +kernel
theorem dX5_judge_94 : decode cX5_judge 94 = .ok (.goto (-69), 3) := by decide +kernel
theorem dX5_judge_97 : decode cX5_judge 97 = .ok (.bipush (-5), 2) := by decide +kernel
theorem dX5_judge_99 : decode cX5_judge 99 = .ok (.ireturn, 1) := by decide +kernel
theorem dX5_list_0 : decode cX5_list 0 = .ok (.iload_n 1, 1) := by decide +kernel
theorem dX5_list_1 : decode cX5_list 1 = .ok (.invokestatic 232, 3) := by decide +kernel
theorem dX5_list_4 : decode cX5_list 4 = .ok (.ifCond .ne 5, 3) := by decide +kernel
theorem dX5_list_7 : decode cX5_list 7 = .ok (.iconst (-1), 1) := by decide +kernel
theorem dX5_list_8 : decode cX5_list 8 = .ok (.ireturn, 1) := by decide +kernel
theorem dX5_list_9 : decode cX5_list 9 = .ok (.iload_n 2, 1) := by decide +kernel
theorem dX5_list_10 : decode cX5_list 10 = .ok (.bipush 8, 2) := by decide +kernel
theorem dX5_list_12 : decode cX5_list 12 = .ok (.if_icmp .le 6, 3) := by decide +kernel
theorem dX5_list_15 : decode cX5_list 15 = .ok (.bipush (-2), 2) := by decide +kernel
theorem dX5_list_17 : decode cX5_list 17 = .ok (.ireturn, 1) := by decide +kernel
theorem dX5_list_18 : decode cX5_list 18 = .ok (.iload_n 2, 1) := by decide +kernel
theorem dX5_list_19 : decode cX5_list 19 = .ok (.ifCond .ge 6, 3) := by decide +kernel
theorem dX5_list_22 : decode cX5_list 22 = .ok (.bipush (-14), 2) := by decide +kernel
theorem dX5_list_24 : decode cX5_list 24 = .ok (.ireturn, 1) := by decide +kernel
theorem dX5_list_25 : decode cX5_list 25 = .ok (.aload_n 0, 1) := by decide +kernel
theorem dX5_list_26 : decode cX5_list 26 = .ok (.getfield 41, 3) := by decide +kernel
theorem dX5_list_29 : decode cX5_list 29 = .ok (.iload_n 1, 1) := by decide +kernel
theorem dX5_list_30 : decode cX5_list 30 = .ok (.aaload, 1) := by decide +kernel
theorem dX5_list_31 : decode cX5_list 31 = .ok (.lconst 0, 1) := by decide +kernel
theorem dX5_list_32 : decode cX5_list 32 = .ok (.invokestatic 235, 3) := by decide +kernel
theorem dX5_list_35 : decode cX5_list 35 = .ok (.aload_n 0, 1) := by decide +kernel
theorem dX5_list_36 : decode cX5_list 36 = .ok (.getfield 44, 3) := by decide +kernel
theorem dX5_list_39 : decode cX5_list 39 = .ok (.iload_n 1, 1) := by decide +kernel
theorem dX5_list_40 : decode cX5_list 40 = .ok (.iload_n 2, 1) := by decide +kernel
theorem dX5_list_41 : decode cX5_list 41 = .ok (.iastore, 1) := by decide +kernel
theorem dX5_list_42 : decode cX5_list 42 = .ok (.iconst 1, 1) := by decide +kernel
theorem dX5_list_43 : decode cX5_list 43 = .ok (.ireturn, 1) := by decide +kernel
theorem dX5_put_0 : decode cX5_put 0 = .ok (.iload_n 1, 1) := by decide +kernel
theorem dX5_put_1 : decode cX5_put 1 = .ok (.invokestatic 232, 3) := by decide +kernel
theorem dX5_put_4 : decode cX5_put 4 = .ok (.ifCond .ne 5, 3) := by decide +kernel
theorem dX5_put_7 : decode cX5_put 7 = .ok (.iconst (-1), 1) := by decide +kernel
theorem dX5_put_8 : decode cX5_put 8 = .ok (.ireturn, 1) := by decide +kernel
theorem dX5_put_9 : decode cX5_put 9 = .ok (.aload_n 0, 1) := by decide +kernel
theorem dX5_put_10 : decode cX5_put 10 = .ok (.getfield 44, 3) := by decide +kernel
theorem dX5_put_13 : decode cX5_put 13 = .ok (.iload_n 1, 1) := by decide +kernel
theorem dX5_put_14 : decode cX5_put 14 = .ok (.iaload, 1) := by decide +kernel
theorem dX5_put_15 : decode cX5_put 15 = .ok (.bipush (-11), 2) := by decide +kernel
theorem dX5_put_17 : decode cX5_put 17 = .ok (.if_icmp .ne 6, 3) := by decide +kernel
theorem dX5_put_20 : decode cX5_put 20 = .ok (.bipush (-11), 2) := by decide +kernel
theorem dX5_put_22 : decode cX5_put 22 = .ok (.ireturn, 1) := by decide +kernel
theorem dX5_put_23 : decode cX5_put 23 = .ok (.iload_n 2, 1) := by decide +kernel
theorem dX5_put_24 : decode cX5_put 24 = .ok (.ifCond .lt 13, 3) := by decide +kernel
theorem dX5_put_27 : decode cX5_put 27 = .ok (.iload_n 2, 1) := by decide +kernel
theorem dX5_put_28 : decode cX5_put 28 = .ok (.aload_n 0, 1) := by decide +kernel
theorem dX5_put_29 : decode cX5_put 29 = .ok (.getfield 44, 3) := by decide +kernel
theorem dX5_put_32 : decode cX5_put 32 = .ok (.iload_n 1, 1) := by decide +kernel
theorem dX5_put_33 : decode cX5_put 33 = .ok (.iaload, 1) := by decide +kernel
theorem dX5_put_34 : decode cX5_put 34 = .ok (.if_icmp .lt 6, 3) := by decide +kernel
theorem dX5_put_37 : decode cX5_put 37 = .ok (.bipush (-13), 2) := by decide +kernel
theorem dX5_put_39 : decode cX5_put 39 = .ok (.ireturn, 1) := by decide +kernel
theorem dX5_put_40 : decode cX5_put 40 = .ok (.aload_n 0, 1) := by decide +kernel
theorem dX5_put_41 : decode cX5_put 41 = .ok (.getfield 41, 3) := by decide +kernel
theorem dX5_put_44 : decode cX5_put 44 = .ok (.iload_n 1, 1) := by decide +kernel
theorem dX5_put_45 : decode cX5_put 45 = .ok (.aaload, 1) := by decide +kernel
theorem dX5_put_46 : decode cX5_put 46 = .ok (.iload_n 2, 1) := by decide +kernel
theorem dX5_put_47 : decode cX5_put 47 = .ok (.lload_n 3, 1) := by decide +kernel
theorem dX5_put_48 : decode cX5_put 48 = .ok (.lastore, 1) := by decide +kernel
theorem dX5_put_49 : decode cX5_put 49 = .ok (.iconst 1, 1) := by decide +kernel
theorem dX5_put_50 : decode cX5_put 50 = .ok (.ireturn, 1) := by decide +kernel
theorem dX5_get_0 : decode cX5_get 0 = .ok (.iload_n 1, 1) := by decide +kernel
theorem dX5_get_1 : decode cX5_get 1 = .ok (.invokestatic 232, 3) := by decide +kernel
theorem dX5_get_4 : decode cX5_get 4 = .ok (.ifCond .eq 17, 3) := by decide +kernel
theorem dX5_get_7 : decode cX5_get 7 = .ok (.iload_n 2, 1) := by decide +kernel
theorem dX5_get_8 : decode cX5_get 8 = .ok (.ifCond .lt 13, 3) := by decide +kernel
theorem dX5_get_11 : decode cX5_get 11 = .ok (.iload_n 2, 1) := by decide +kernel
theorem dX5_get_12 : decode cX5_get 12 = .ok (.aload_n 0, 1) := by decide +kernel
theorem dX5_get_13 : decode cX5_get 13 = .ok (.getfield 44, 3) := by decide +kernel
theorem dX5_get_16 : decode cX5_get 16 = .ok (.iload_n 1, 1) := by decide +kernel
theorem dX5_get_17 : decode cX5_get 17 = .ok (.iaload, 1) := by decide +kernel
theorem dX5_get_18 : decode cX5_get 18 = .ok (.if_icmp .lt 7, 3) := by decide +kernel
theorem dX5_get_21 : decode cX5_get 21 = .ok (.ldc2_w 125, 3) := by decide +kernel
theorem dX5_get_24 : decode cX5_get 24 = .ok (.lreturn, 1) := by decide +kernel
theorem dX5_get_25 : decode cX5_get 25 = .ok (.aload_n 0, 1) := by decide +kernel
theorem dX5_get_26 : decode cX5_get 26 = .ok (.getfield 41, 3) := by decide +kernel
theorem dX5_get_29 : decode cX5_get 29 = .ok (.iload_n 1, 1) := by decide +kernel
theorem dX5_get_30 : decode cX5_get 30 = .ok (.aaload, 1) := by decide +kernel
theorem dX5_get_31 : decode cX5_get 31 = .ok (.iload_n 2, 1) := by decide +kernel
theorem dX5_get_32 : decode cX5_get 32 = .ok (.laload, 1) := by decide +kernel
theorem dX5_get_33 : decode cX5_get 33 = .ok (.lreturn, 1) := by decide +kernel
theorem dX5_image_0 : decode cX5_image 0 = .ok (.aload_n 0, 1) := by decide +kernel
theorem dX5_image_1 : decode cX5_image 1 = .ok (.getfield 18, 3) := by decide +kernel
theorem dX5_image_4 : decode cX5_image 4 = .ok (.aload_n 0, 1) := by decide +kernel
theorem dX5_image_5 : decode cX5_image 5 = .ok (.getfield 14, 3) := by decide +kernel
theorem dX5_image_8 : decode cX5_image 8 = .ok (.invokevirtual 238, 3) := by decide +kernel
theorem dX5_image_11 : decode cX5_image 11 = .ok (.aload_n 0, 1) := by decide +kernel
theorem dX5_image_12 : decode cX5_image 12 = .ok (.iconst 1, 1) := by decide +kernel
theorem dX5_image_13 : decode cX5_image 13 = .ok (.putfield 21, 3) := by decide +kernel
theorem dX5_image_16 : decode cX5_image 16 = .ok (.aload_n 0, 1) := by decide +kernel
theorem dX5_image_17 : decode cX5_image 17 = .ok (.getfield 14, 3) := by decide +kernel
theorem dX5_image_20 : decode cX5_image 20 = .ok (.getfield 93, 3) := by decide +kernel
theorem dX5_image_23 : decode cX5_image 23 = .ok (.ireturn, 1) := by decide +kernel
theorem dX5_undo_0 : decode cX5_undo 0 = .ok (.aload_n 0, 1) := by decide +kernel
theorem dX5_undo_1 : decode cX5_undo 1 = .ok (.getfield 21, 3) := by decide +kernel
theorem dX5_undo_4 : decode cX5_undo 4 = .ok (.ifCond .ne 6, 3) := by decide +kernel
theorem dX5_undo_7 : decode cX5_undo 7 = .ok (.bipush (-3), 2) := by decide +kernel
theorem dX5_undo_9 : decode cX5_undo 9 = .ok (.ireturn, 1) := by decide +kernel
theorem dX5_undo_10 : decode cX5_undo 10 = .ok (.aload_n 0, 1) := by decide +kernel
theorem dX5_undo_11 : decode cX5_undo 11 = .ok (.getfield 14, 3) := by decide +kernel
theorem dX5_undo_14 : decode cX5_undo 14 = .ok (.aload_n 0, 1) := by decide +kernel
theorem dX5_undo_15 : decode cX5_undo 15 = .ok (.getfield 18, 3) := by decide +kernel
theorem dX5_undo_18 : decode cX5_undo 18 = .ok (.invokevirtual 238, 3) := by decide +kernel
theorem dX5_undo_21 : decode cX5_undo 21 = .ok (.aload_n 0, 1) := by decide +kernel
theorem dX5_undo_22 : decode cX5_undo 22 = .ok (.getfield 14, 3) := by decide +kernel
theorem dX5_undo_25 : decode cX5_undo 25 = .ok (.getfield 93, 3) := by decide +kernel
theorem dX5_undo_28 : decode cX5_undo 28 = .ok (.ireturn, 1) := by decide +kernel
theorem dX5_count_0 : decode cX5_count 0 = .ok (.iload_n 1, 1) := by decide +kernel
theorem dX5_count_1 : decode cX5_count 1 = .ok (.tableswitch 69 0 4 #[35, 43, 51, 59, 64], 35) := by decide +kernel
theorem dX5_count_36 : decode cX5_count 36 = .ok (.aload_n 0, 1) := by decide +kernel
theorem dX5_count_37 : decode cX5_count 37 = .ok (.getfield 14, 3) := by decide +kernel
theorem dX5_count_40 : decode cX5_count 40 = .ok (.getfield 93, 3) := by decide +kernel
theorem dX5_count_43 : decode cX5_count 43 = .ok (.ireturn, 1) := by decide +kernel
theorem dX5_count_44 : decode cX5_count 44 = .ok (.aload_n 0, 1) := by decide +kernel
theorem dX5_count_45 : decode cX5_count 45 = .ok (.getfield 28, 3) := by decide +kernel
theorem dX5_count_48 : decode cX5_count 48 = .ok (.getfield 83, 3) := by decide +kernel
theorem dX5_count_51 : decode cX5_count 51 = .ok (.ireturn, 1) := by decide +kernel
theorem dX5_count_52 : decode cX5_count 52 = .ok (.aload_n 0, 1) := by decide +kernel
theorem dX5_count_53 : decode cX5_count 53 = .ok (.getfield 14, 3) := by decide +kernel
theorem dX5_count_56 : decode cX5_count 56 = .ok (.getfield 217, 3) := by decide +kernel
theorem dX5_count_59 : decode cX5_count 59 = .ok (.ireturn, 1) := by decide +kernel
theorem dX5_count_60 : decode cX5_count 60 = .ok (.aload_n 0, 1) := by decide +kernel
theorem dX5_count_61 : decode cX5_count 61 = .ok (.invokevirtual 241, 3) := by decide +kernel
theorem dX5_count_64 : decode cX5_count 64 = .ok (.ireturn, 1) := by decide +kernel
theorem dX5_count_65 : decode cX5_count 65 = .ok (.aload_n 0, 1) := by decide +kernel
theorem dX5_count_66 : decode cX5_count 66 = .ok (.invokevirtual 245, 3) := by decide +kernel
theorem dX5_count_69 : decode cX5_count 69 = .ok (.ireturn, 1) := by decide +kernel
theorem dX5_count_70 : decode cX5_count 70 = .ok (.bipush (-2), 2) := by decide +kernel
theorem dX5_count_72 : decode cX5_count 72 = .ok (.ireturn, 1) := by decide +kernel
theorem dX5_isSource_0 : decode cX5_isSource 0 = .ok (.iload_n 0, 1) := by decide +kernel
theorem dX5_isSource_1 : decode cX5_isSource 1 = .ok (.ifCond .lt 13, 3) := by decide +kernel
theorem dX5_isSource_4 : decode cX5_isSource 4 = .ok (.iload_n 0, 1) := by decide +kernel
theorem dX5_isSource_5 : decode cX5_isSource 5 = .ok (.bipush 6, 2) := by decide +kernel
theorem dX5_isSource_7 : decode cX5_isSource 7 = .ok (.if_icmp .ge 7, 3) := by decide +kernel
theorem dX5_isSource_10 : decode cX5_isSource 10 = .ok (.iconst 1, 1) := by decide +kernel
theorem dX5_isSource_11 : decode cX5_isSource 11 = .ok (.goto 4, 3) := by decide +kernel
theorem dX5_isSource_14 : decode cX5_isSource 14 = .ok (.iconst 0, 1) := by decide +kernel
theorem dX5_isSource_15 : decode cX5_isSource 15 = .ok (.ireturn, 1) := by decide +kernel
theorem dX5_isList_0 : decode cX5_isList 0 = .ok (.iload_n 0, 1) := by decide +kernel
theorem dX5_isList_1 : decode cX5_isList 1 = .ok (.ifCond .lt 12, 3) := by decide +kernel
theorem dX5_isList_4 : decode cX5_isList 4 = .ok (.iload_n 0, 1) := by decide +kernel
theorem dX5_isList_5 : decode cX5_isList 5 = .ok (.iconst 4, 1) := by decide +kernel
theorem dX5_isList_6 : decode cX5_isList 6 = .ok (.if_icmp .ge 7, 3) := by decide +kernel
theorem dX5_isList_9 : decode cX5_isList 9 = .ok (.iconst 1, 1) := by decide +kernel
theorem dX5_isList_10 : decode cX5_isList 10 = .ok (.goto 4, 3) := by decide +kernel
theorem dX5_isList_13 : decode cX5_isList 13 = .ok (.iconst 0, 1) := by decide +kernel
theorem dX5_isList_14 : decode cX5_isList 14 = .ok (.ireturn, 1) := by decide +kernel
theorem dX5_mayBecome_0 : decode cX5_mayBecome 0 = .ok (.iload_n 0, 1) := by decide +kernel
theorem dX5_mayBecome_1 : decode cX5_mayBecome 1 = .ok (.lookupswitch 61 #[(0, 27), (1, 45)], 27) := by decide +kernel
theorem dX5_mayBecome_28 : decode cX5_mayBecome 28 = .ok (.iload_n 1, 1) := by decide +kernel
theorem dX5_mayBecome_29 : decode cX5_mayBecome 29 = .ok (.bipush (-99), 2) := by decide +kernel
theorem dX5_mayBecome_31 : decode cX5_mayBecome 31 = .ok (.if_icmp .lt 13, 3) := by decide +kernel
theorem dX5_mayBecome_34 : decode cX5_mayBecome 34 = .ok (.iload_n 1, 1) := by decide +kernel
theorem dX5_mayBecome_35 : decode cX5_mayBecome 35 = .ok (.bipush 99, 2) := by decide +kernel
theorem dX5_mayBecome_37 : decode cX5_mayBecome 37 = .ok (.if_icmp .gt 7, 3) := by decide +kernel
theorem dX5_mayBecome_40 : decode cX5_mayBecome 40 = .ok (.iconst 1, 1) := by decide +kernel
theorem dX5_mayBecome_41 : decode cX5_mayBecome 41 = .ok (.goto 4, 3) := by decide +kernel
theorem dX5_mayBecome_44 : decode cX5_mayBecome 44 = .ok (.iconst 0, 1) := by decide +kernel
theorem dX5_mayBecome_45 : decode cX5_mayBecome 45 = .ok (.ireturn, 1) := by decide +kernel
theorem dX5_mayBecome_46 : decode cX5_mayBecome 46 = .ok (.iload_n 1, 1) := by decide +kernel
theorem dX5_mayBecome_47 : decode cX5_mayBecome 47 = .ok (.ifCond .lt 13, 3) := by decide +kernel
theorem dX5_mayBecome_50 : decode cX5_mayBecome 50 = .ok (.iload_n 1, 1) := by decide +kernel
theorem dX5_mayBecome_51 : decode cX5_mayBecome 51 = .ok (.bipush 20, 2) := by decide +kernel
theorem dX5_mayBecome_53 : decode cX5_mayBecome 53 = .ok (.if_icmp .gt 7, 3) := by decide +kernel
theorem dX5_mayBecome_56 : decode cX5_mayBecome 56 = .ok (.iconst 1, 1) := by decide +kernel
theorem dX5_mayBecome_57 : decode cX5_mayBecome 57 = .ok (.goto 4, 3) := by decide +kernel
theorem dX5_mayBecome_60 : decode cX5_mayBecome 60 = .ok (.iconst 0, 1) := by decide +kernel
theorem dX5_mayBecome_61 : decode cX5_mayBecome 61 = .ok (.ireturn, 1) := by decide +kernel
theorem dX5_mayBecome_62 : decode cX5_mayBecome 62 = .ok (.iload_n 1, 1) := by decide +kernel
theorem dX5_mayBecome_63 : decode cX5_mayBecome 63 = .ok (.ifCond .lt 13, 3) := by decide +kernel
theorem dX5_mayBecome_66 : decode cX5_mayBecome 66 = .ok (.iload_n 1, 1) := by decide +kernel
theorem dX5_mayBecome_67 : decode cX5_mayBecome 67 = .ok (.bipush 99, 2) := by decide +kernel
theorem dX5_mayBecome_69 : decode cX5_mayBecome 69 = .ok (.if_icmp .gt 7, 3) := by decide +kernel
theorem dX5_mayBecome_72 : decode cX5_mayBecome 72 = .ok (.iconst 1, 1) := by decide +kernel
theorem dX5_mayBecome_73 : decode cX5_mayBecome 73 = .ok (.goto 4, 3) := by decide +kernel
theorem dX5_mayBecome_76 : decode cX5_mayBecome 76 = .ok (.iconst 0, 1) := by decide +kernel
theorem dX5_mayBecome_77 : decode cX5_mayBecome 77 = .ok (.ireturn, 1) := by decide +kernel
theorem dX5_formulaOf_0 : decode cX5_formulaOf 0 = .ok (.iload_n 1, 1) := by decide +kernel
theorem dX5_formulaOf_1 : decode cX5_formulaOf 1 = .ok (.ifCond .lt 14, 3) := by decide +kernel
theorem dX5_formulaOf_4 : decode cX5_formulaOf 4 = .ok (.iload_n 1, 1) := by decide +kernel
theorem dX5_formulaOf_5 : decode cX5_formulaOf 5 = .ok (.aload_n 0, 1) := by decide +kernel
theorem dX5_formulaOf_6 : decode cX5_formulaOf 6 = .ok (.getfield 14, 3) := by decide +kernel
theorem dX5_formulaOf_9 : decode cX5_formulaOf 9 = .ok (.getfield 93, 3) := by decide +kernel
theorem dX5_formulaOf_12 : decode cX5_formulaOf 12 = .ok (.if_icmp .lt 7, 3) := by decide +kernel
theorem dX5_formulaOf_15 : decode cX5_formulaOf 15 = .ok (.aconst_null, 1) := by decide +kernel
theorem dX5_formulaOf_16 : decode cX5_formulaOf 16 = .ok (.goto 12, 3) := by decide +kernel
theorem dX5_formulaOf_19 : decode cX5_formulaOf 19 = .ok (.aload_n 0, 1) := by decide +kernel
theorem dX5_formulaOf_20 : decode cX5_formulaOf 20 = .ok (.getfield 14, 3) := by decide +kernel
theorem dX5_formulaOf_23 : decode cX5_formulaOf 23 = .ok (.getfield 96, 3) := by decide +kernel
theorem dX5_formulaOf_26 : decode cX5_formulaOf 26 = .ok (.iload_n 1, 1) := by decide +kernel
theorem dX5_formulaOf_27 : decode cX5_formulaOf 27 = .ok (.aaload, 1) := by decide +kernel
theorem dX5_formulaOf_28 : decode cX5_formulaOf 28 = .ok (.areturn, 1) := by decide +kernel
theorem dX5_carryAsItIs_0 : decode cX5_carryAsItIs 0 = .ok (.aload_n 0, 1) := by decide +kernel
theorem dX5_carryAsItIs_1 : decode cX5_carryAsItIs 1 = .ok (.getfield 35, 3) := by decide +kernel
theorem dX5_carryAsItIs_4 : decode cX5_carryAsItIs 4 = .ok (.aload_n 0, 1) := by decide +kernel
theorem dX5_carryAsItIs_5 : decode cX5_carryAsItIs 5 = .ok (.getfield 14, 3) := by decide +kernel
theorem dX5_carryAsItIs_8 : decode cX5_carryAsItIs 8 = .ok (.invokevirtual 199, 3) := by decide +kernel
theorem dX5_carryAsItIs_11 : decode cX5_carryAsItIs 11 = .ok (.aload_n 0, 1) := by decide +kernel
theorem dX5_carryAsItIs_12 : decode cX5_carryAsItIs 12 = .ok (.getfield 35, 3) := by decide +kernel
theorem dX5_carryAsItIs_15 : decode cX5_carryAsItIs 15 = .ok (.aload_n 1, 1) := by decide +kernel
theorem dX5_carryAsItIs_16 : decode cX5_carryAsItIs 16 = .ok (.invokevirtual 173, 3) := by decide +kernel
theorem dX5_carryAsItIs_19 : decode cX5_carryAsItIs 19 = .ok (.return_, 1) := by decide +kernel
theorem dX5_keepWay_0 : decode cX5_keepWay 0 = .ok (.aload_n 0, 1) := by decide +kernel
theorem dX5_keepWay_1 : decode cX5_keepWay 1 = .ok (.iconst 0, 1) := by decide +kernel
theorem dX5_keepWay_2 : decode cX5_keepWay 2 = .ok (.putfield 51, 3) := by decide +kernel
theorem dX5_keepWay_5 : decode cX5_keepWay 5 = .ok (.aload_n 1, 1) := by decide +kernel
theorem dX5_keepWay_6 : decode cX5_keepWay 6 = .ok (.getfield 104, 3) := by decide +kernel
theorem dX5_keepWay_9 : decode cX5_keepWay 9 = .ok (.iconst 1, 1) := by decide +kernel
theorem dX5_keepWay_10 : decode cX5_keepWay 10 = .ok (.isub, 1) := by decide +kernel
theorem dX5_keepWay_11 : decode cX5_keepWay 11 = .ok (.istore_n 2, 1) := by decide +kernel
theorem dX5_keepWay_12 : decode cX5_keepWay 12 = .ok (.iload_n 2, 1) := by decide +kernel
theorem dX5_keepWay_13 : decode cX5_keepWay 13 = .ok (.ifCond .lt 50, 3) := by decide +kernel
theorem dX5_keepWay_16 : decode cX5_keepWay 16 = .ok (.aload_n 0, 1) := by decide +kernel
theorem dX5_keepWay_17 : decode cX5_keepWay 17 = .ok (.getfield 51, 3) := by decide +kernel
theorem dX5_keepWay_20 : decode cX5_keepWay 20 = .ok (.bipush 60, 2) := by decide +kernel
theorem dX5_keepWay_22 : decode cX5_keepWay 22 = .ok (.if_icmp .ge 41, 3) := by decide +kernel
theorem dX5_keepWay_25 : decode cX5_keepWay 25 = .ok (.aload_n 0, 1) := by decide +kernel
theorem dX5_keepWay_26 : decode cX5_keepWay 26 = .ok (.getfield 48, 3) := by decide +kernel
theorem dX5_keepWay_29 : decode cX5_keepWay 29 = .ok (.aload_n 0, 1) := by decide +kernel
theorem dX5_keepWay_30 : decode cX5_keepWay 30 = .ok (.getfield 51, 3) := by decide +kernel
theorem dX5_keepWay_33 : decode cX5_keepWay 33 = .ok (.aload_n 1, 1) := by decide +kernel
theorem dX5_keepWay_34 : decode cX5_keepWay 34 = .ok (.getfield 248, 3) := by decide +kernel
theorem dX5_keepWay_37 : decode cX5_keepWay 37 = .ok (.iload_n 2, 1) := by decide +kernel
theorem dX5_keepWay_38 : decode cX5_keepWay 38 = .ok (.iaload, 1) := by decide +kernel
theorem dX5_keepWay_39 : decode cX5_keepWay 39 = .ok (.iastore, 1) := by decide +kernel
theorem dX5_keepWay_40 : decode cX5_keepWay 40 = .ok (.aload_n 0, 1) := by decide +kernel
theorem dX5_keepWay_41 : decode cX5_keepWay 41 = .ok (.dup, 1) := by decide +kernel
theorem dX5_keepWay_42 : decode cX5_keepWay 42 = .ok (.getfield 51, 3) := by decide +kernel
theorem dX5_keepWay_45 : decode cX5_keepWay 45 = .ok (.iconst 1, 1) := by decide +kernel
theorem dX5_keepWay_46 : decode cX5_keepWay 46 = .ok (.iadd, 1) := by decide +kernel
theorem dX5_keepWay_47 : decode cX5_keepWay 47 = .ok (.putfield 51, 3) := by decide +kernel
theorem dX5_keepWay_50 : decode cX5_keepWay 50 = .ok (.aload_n 0, 1) := by decide +kernel
theorem dX5_keepWay_51 : decode cX5_keepWay 51 = .ok (.getfield 35, 3) := by decide +kernel
theorem dX5_keepWay_54 : decode cX5_keepWay 54 = .ok (.aload_n 1, 1) := by decide +kernel
theorem dX5_keepWay_55 : decode cX5_keepWay 55 = .ok (.iload_n 2, 1) := by decide +kernel
theorem dX5_keepWay_56 : decode cX5_keepWay 56 = .ok (.invokevirtual 251, 3) := by decide +kernel
theorem dX5_keepWay_59 : decode cX5_keepWay 59 = .ok (.istore_n 2, 1) := by decide +kernel
theorem dX5_keepWay_60 : decode cX5_keepWay 60 = .ok (.goto (-48), 3) := by decide +kernel
theorem dX5_keepWay_63 : decode cX5_keepWay 63 = .ok (.return_, 1) := by decide +kernel
theorem dX5_worthAtCorner_0 : decode cX5_worthAtCorner 0 = .ok (.iconst 0, 1) := by decide +kernel
theorem dX5_worthAtCorner_1 : decode cX5_worthAtCorner 1 = .ok (.istore_n 3, 1) := by decide +kernel
theorem dX5_worthAtCorner_2 : decode cX5_worthAtCorner 2 = .ok (.iload_n 3, 1) := by decide +kernel
theorem dX5_worthAtCorner_3 : decode cX5_worthAtCorner 3 = .ok (.bipush 6, 2) := by decide +kernel
theorem dX5_worthAtCorner_5 : decode cX5_worthAtCorner 5 = .ok (.if_icmp .ge 58, 3) := by decide +kernel
theorem dX5_worthAtCorner_8 : decode cX5_worthAtCorner 8 = .ok (.iload_n 2, 1) := by decide +kernel
theorem dX5_worthAtCorner_9 : decode cX5_worthAtCorner 9 = .ok (.iload_n 3, 1) := by decide +kernel
theorem dX5_worthAtCorner_10 : decode cX5_worthAtCorner 10 = .ok (.ishr, 1) := by decide +kernel
theorem dX5_worthAtCorner_11 : decode cX5_worthAtCorner 11 = .ok (.iconst 1, 1) := by decide +kernel
theorem dX5_worthAtCorner_12 : decode cX5_worthAtCorner 12 = .ok (.iand, 1) := by decide +kernel
theorem dX5_worthAtCorner_13 : decode cX5_worthAtCorner 13 = .ok (.iconst 1, 1) := by decide +kernel
theorem dX5_worthAtCorner_14 : decode cX5_worthAtCorner 14 = .ok (.if_icmp .ne 7, 3) := by decide +kernel
theorem dX5_worthAtCorner_17 : decode cX5_worthAtCorner 17 = .ok (.iconst 1, 1) := by decide +kernel
theorem dX5_worthAtCorner_18 : decode cX5_worthAtCorner 18 = .ok (.goto 4, 3) := by decide +kernel
theorem dX5_worthAtCorner_21 : decode cX5_worthAtCorner 21 = .ok (.iconst 0, 1) := by decide +kernel
theorem dX5_worthAtCorner_22 : decode cX5_worthAtCorner 22 = .ok (.istore 4, 2) := by decide +kernel
theorem dX5_worthAtCorner_24 : decode cX5_worthAtCorner 24 = .ok (.aload_n 0, 1) := by decide +kernel
theorem dX5_worthAtCorner_25 : decode cX5_worthAtCorner 25 = .ok (.getfield 35, 3) := by decide +kernel
theorem dX5_worthAtCorner_28 : decode cX5_worthAtCorner 28 = .ok (.getfield 143, 3) := by decide +kernel
theorem dX5_worthAtCorner_31 : decode cX5_worthAtCorner 31 = .ok (.iload_n 3, 1) := by decide +kernel
theorem dX5_worthAtCorner_32 : decode cX5_worthAtCorner 32 = .ok (.iload 4, 2) := by decide +kernel
theorem dX5_worthAtCorner_34 : decode cX5_worthAtCorner 34 = .ok (.ifCond .eq 14, 3) := by decide +kernel
theorem dX5_worthAtCorner_37 : decode cX5_worthAtCorner 37 = .ok (.aload_n 0, 1) := by decide +kernel
theorem dX5_worthAtCorner_38 : decode cX5_worthAtCorner 38 = .ok (.getfield 14, 3) := by decide +kernel
theorem dX5_worthAtCorner_41 : decode cX5_worthAtCorner 41 = .ok (.iload_n 3, 1) := by decide +kernel
theorem dX5_worthAtCorner_42 : decode cX5_worthAtCorner 42 = .ok (.invokevirtual 77, 3) := by decide +kernel
theorem dX5_worthAtCorner_45 : decode cX5_worthAtCorner 45 = .ok (.goto 11, 3) := by decide +kernel
theorem dX5_worthAtCorner_48 : decode cX5_worthAtCorner 48 = .ok (.aload_n 0, 1) := by decide +kernel
theorem dX5_worthAtCorner_49 : decode cX5_worthAtCorner 49 = .ok (.getfield 14, 3) := by decide +kernel
theorem dX5_worthAtCorner_52 : decode cX5_worthAtCorner 52 = .ok (.iload_n 3, 1) := by decide +kernel
theorem dX5_worthAtCorner_53 : decode cX5_worthAtCorner 53 = .ok (.invokevirtual 73, 3) := by decide +kernel
theorem dX5_worthAtCorner_56 : decode cX5_worthAtCorner 56 = .ok (.iastore, 1) := by decide +kernel
theorem dX5_worthAtCorner_57 : decode cX5_worthAtCorner 57 = .ok (.iinc 3 1, 3) := by decide +kernel
theorem dX5_worthAtCorner_60 : decode cX5_worthAtCorner 60 = .ok (.goto (-58), 3) := by decide +kernel
theorem dX5_worthAtCorner_63 : decode cX5_worthAtCorner 63 = .ok (.aload_n 0, 1) := by decide +kernel
theorem dX5_worthAtCorner_64 : decode cX5_worthAtCorner 64 = .ok (.getfield 35, 3) := by decide +kernel
theorem dX5_worthAtCorner_67 : decode cX5_worthAtCorner 67 = .ok (.aload_n 1, 1) := by decide +kernel
theorem dX5_worthAtCorner_68 : decode cX5_worthAtCorner 68 = .ok (.invokevirtual 148, 3) := by decide +kernel
theorem dX5_worthAtCorner_71 : decode cX5_worthAtCorner 71 = .ok (.lreturn, 1) := by decide +kernel
theorem dX5_carrySplit_0 : decode cX5_carrySplit 0 = .ok (.aload_n 0, 1) := by decide +kernel
theorem dX5_carrySplit_1 : decode cX5_carrySplit 1 = .ok (.getfield 35, 3) := by decide +kernel
theorem dX5_carrySplit_4 : decode cX5_carrySplit 4 = .ok (.iload_n 2, 1) := by decide +kernel
theorem dX5_carrySplit_5 : decode cX5_carrySplit 5 = .ok (.aload_n 0, 1) := by decide +kernel
theorem dX5_carrySplit_6 : decode cX5_carrySplit 6 = .ok (.getfield 14, 3) := by decide +kernel
theorem dX5_carrySplit_9 : decode cX5_carrySplit 9 = .ok (.iload_n 2, 1) := by decide +kernel
theorem dX5_carrySplit_10 : decode cX5_carrySplit 10 = .ok (.invokevirtual 73, 3) := by decide +kernel
theorem dX5_carrySplit_13 : decode cX5_carrySplit 13 = .ok (.iload_n 3, 1) := by decide +kernel
theorem dX5_carrySplit_14 : decode cX5_carrySplit 14 = .ok (.invokevirtual 169, 3) := by decide +kernel
theorem dX5_carrySplit_17 : decode cX5_carrySplit 17 = .ok (.aload_n 0, 1) := by decide +kernel
theorem dX5_carrySplit_18 : decode cX5_carrySplit 18 = .ok (.getfield 35, 3) := by decide +kernel
theorem dX5_carrySplit_21 : decode cX5_carrySplit 21 = .ok (.aload_n 1, 1) := by decide +kernel
theorem dX5_carrySplit_22 : decode cX5_carrySplit 22 = .ok (.invokevirtual 173, 3) := by decide +kernel
theorem dX5_carrySplit_25 : decode cX5_carrySplit 25 = .ok (.aload_n 0, 1) := by decide +kernel
theorem dX5_carrySplit_26 : decode cX5_carrySplit 26 = .ok (.getfield 35, 3) := by decide +kernel
theorem dX5_carrySplit_29 : decode cX5_carrySplit 29 = .ok (.getfield 188, 3) := by decide +kernel
theorem dX5_carrySplit_32 : decode cX5_carrySplit 32 = .ok (.lstore 4, 2) := by decide +kernel
theorem dX5_carrySplit_34 : decode cX5_carrySplit 34 = .ok (.aload_n 0, 1) := by decide +kernel
theorem dX5_carrySplit_35 : decode cX5_carrySplit 35 = .ok (.getfield 35, 3) := by decide +kernel
theorem dX5_carrySplit_38 : decode cX5_carrySplit 38 = .ok (.getfield 184, 3) := by decide +kernel
theorem dX5_carrySplit_41 : decode cX5_carrySplit 41 = .ok (.lstore 6, 2) := by decide +kernel
theorem dX5_carrySplit_43 : decode cX5_carrySplit 43 = .ok (.aload_n 0, 1) := by decide +kernel
theorem dX5_carrySplit_44 : decode cX5_carrySplit 44 = .ok (.getfield 35, 3) := by decide +kernel
theorem dX5_carrySplit_47 : decode cX5_carrySplit 47 = .ok (.iload_n 2, 1) := by decide +kernel
theorem dX5_carrySplit_48 : decode cX5_carrySplit 48 = .ok (.iload_n 3, 1) := by decide +kernel
theorem dX5_carrySplit_49 : decode cX5_carrySplit 49 = .ok (.aload_n 0, 1) := by decide +kernel
theorem dX5_carrySplit_50 : decode cX5_carrySplit 50 = .ok (.getfield 14, 3) := by decide +kernel
theorem dX5_carrySplit_53 : decode cX5_carrySplit 53 = .ok (.iload_n 2, 1) := by decide +kernel
theorem dX5_carrySplit_54 : decode cX5_carrySplit 54 = .ok (.invokevirtual 77, 3) := by decide +kernel
theorem dX5_carrySplit_57 : decode cX5_carrySplit 57 = .ok (.invokevirtual 169, 3) := by decide +kernel
theorem dX5_carrySplit_60 : decode cX5_carrySplit 60 = .ok (.aload_n 0, 1) := by decide +kernel
theorem dX5_carrySplit_61 : decode cX5_carrySplit 61 = .ok (.getfield 35, 3) := by decide +kernel
theorem dX5_carrySplit_64 : decode cX5_carrySplit 64 = .ok (.aload_n 1, 1) := by decide +kernel
theorem dX5_carrySplit_65 : decode cX5_carrySplit 65 = .ok (.invokevirtual 173, 3) := by decide +kernel
theorem dX5_carrySplit_68 : decode cX5_carrySplit 68 = .ok (.aload_n 0, 1) := by decide +kernel
theorem dX5_carrySplit_69 : decode cX5_carrySplit 69 = .ok (.getfield 35, 3) := by decide +kernel
theorem dX5_carrySplit_72 : decode cX5_carrySplit 72 = .ok (.lload 4, 2) := by decide +kernel
theorem dX5_carrySplit_74 : decode cX5_carrySplit 74 = .ok (.aload_n 0, 1) := by decide +kernel
theorem dX5_carrySplit_75 : decode cX5_carrySplit 75 = .ok (.getfield 35, 3) := by decide +kernel
theorem dX5_carrySplit_78 : decode cX5_carrySplit 78 = .ok (.getfield 188, 3) := by decide +kernel
theorem dX5_carrySplit_81 : decode cX5_carrySplit 81 = .ok (.invokestatic 156, 3) := by decide +kernel
theorem dX5_carrySplit_84 : decode cX5_carrySplit 84 = .ok (.putfield 188, 3) := by decide +kernel
theorem dX5_carrySplit_87 : decode cX5_carrySplit 87 = .ok (.aload_n 0, 1) := by decide +kernel
theorem dX5_carrySplit_88 : decode cX5_carrySplit 88 = .ok (.getfield 35, 3) := by decide +kernel
theorem dX5_carrySplit_91 : decode cX5_carrySplit 91 = .ok (.lload 6, 2) := by decide +kernel
theorem dX5_carrySplit_93 : decode cX5_carrySplit 93 = .ok (.aload_n 0, 1) := by decide +kernel
theorem dX5_carrySplit_94 : decode cX5_carrySplit 94 = .ok (.getfield 35, 3) := by decide +kernel
theorem dX5_carrySplit_97 : decode cX5_carrySplit 97 = .ok (.getfield 184, 3) := by decide +kernel
theorem dX5_carrySplit_100 : decode cX5_carrySplit 100 = .ok (.invokestatic 162, 3) := by decide +kernel
theorem dX5_carrySplit_103 : decode cX5_carrySplit 103 = .ok (.putfield 184, 3) := by decide +kernel
theorem dX5_carrySplit_106 : decode cX5_carrySplit 106 = .ok (.aload_n 0, 1) := by decide +kernel
theorem dX5_carrySplit_107 : decode cX5_carrySplit 107 = .ok (.getfield 35, 3) := by decide +kernel
theorem dX5_carrySplit_110 : decode cX5_carrySplit 110 = .ok (.iload_n 2, 1) := by decide +kernel
theorem dX5_carrySplit_111 : decode cX5_carrySplit 111 = .ok (.aload_n 0, 1) := by decide +kernel
theorem dX5_carrySplit_112 : decode cX5_carrySplit 112 = .ok (.getfield 14, 3) := by decide +kernel
theorem dX5_carrySplit_115 : decode cX5_carrySplit 115 = .ok (.iload_n 2, 1) := by decide +kernel
theorem dX5_carrySplit_116 : decode cX5_carrySplit 116 = .ok (.invokevirtual 73, 3) := by decide +kernel
theorem dX5_carrySplit_119 : decode cX5_carrySplit 119 = .ok (.aload_n 0, 1) := by decide +kernel
theorem dX5_carrySplit_120 : decode cX5_carrySplit 120 = .ok (.getfield 14, 3) := by decide +kernel
theorem dX5_carrySplit_123 : decode cX5_carrySplit 123 = .ok (.iload_n 2, 1) := by decide +kernel
theorem dX5_carrySplit_124 : decode cX5_carrySplit 124 = .ok (.invokevirtual 77, 3) := by decide +kernel
theorem dX5_carrySplit_127 : decode cX5_carrySplit 127 = .ok (.invokevirtual 169, 3) := by decide +kernel
theorem dX5_carrySplit_130 : decode cX5_carrySplit 130 = .ok (.return_, 1) := by decide +kernel
theorem dX5_widthWithHalf_0 : decode cX5_widthWithHalf 0 = .ok (.iconst 0, 1) := by decide +kernel
theorem dX5_widthWithHalf_1 : decode cX5_widthWithHalf 1 = .ok (.istore_n 3, 1) := by decide +kernel
theorem dX5_widthWithHalf_2 : decode cX5_widthWithHalf 2 = .ok (.iload_n 3, 1) := by decide +kernel
theorem dX5_widthWithHalf_3 : decode cX5_widthWithHalf 3 = .ok (.bipush 6, 2) := by decide +kernel
theorem dX5_widthWithHalf_5 : decode cX5_widthWithHalf 5 = .ok (.if_icmp .ge 87, 3) := by decide +kernel
theorem dX5_widthWithHalf_8 : decode cX5_widthWithHalf 8 = .ok (.iload_n 2, 1) := by decide +kernel
theorem dX5_widthWithHalf_9 : decode cX5_widthWithHalf 9 = .ok (.iload_n 3, 1) := by decide +kernel
theorem dX5_widthWithHalf_10 : decode cX5_widthWithHalf 10 = .ok (.ishr, 1) := by decide +kernel
theorem dX5_widthWithHalf_11 : decode cX5_widthWithHalf 11 = .ok (.iconst 1, 1) := by decide +kernel
theorem dX5_widthWithHalf_12 : decode cX5_widthWithHalf 12 = .ok (.iand, 1) := by decide +kernel
theorem dX5_widthWithHalf_13 : decode cX5_widthWithHalf 13 = .ok (.iconst 1, 1) := by decide +kernel
theorem dX5_widthWithHalf_14 : decode cX5_widthWithHalf 14 = .ok (.if_icmp .ne 7, 3) := by decide +kernel
theorem dX5_widthWithHalf_17 : decode cX5_widthWithHalf 17 = .ok (.iconst 1, 1) := by decide +kernel
theorem dX5_widthWithHalf_18 : decode cX5_widthWithHalf 18 = .ok (.goto 4, 3) := by decide +kernel
theorem dX5_widthWithHalf_21 : decode cX5_widthWithHalf 21 = .ok (.iconst 0, 1) := by decide +kernel
theorem dX5_widthWithHalf_22 : decode cX5_widthWithHalf 22 = .ok (.istore 4, 2) := by decide +kernel
theorem dX5_widthWithHalf_24 : decode cX5_widthWithHalf 24 = .ok (.iload 4, 2) := by decide +kernel
theorem dX5_widthWithHalf_26 : decode cX5_widthWithHalf 26 = .ok (.ifCond .eq 17, 3) := by decide +kernel
theorem dX5_widthWithHalf_29 : decode cX5_widthWithHalf 29 = .ok (.aload_n 0, 1) := by decide +kernel
theorem dX5_widthWithHalf_30 : decode cX5_widthWithHalf 30 = .ok (.getfield 14, 3) := by decide +kernel
theorem dX5_widthWithHalf_33 : decode cX5_widthWithHalf 33 = .ok (.getfield 196, 3) := by decide +kernel
theorem dX5_widthWithHalf_36 : decode cX5_widthWithHalf 36 = .ok (.iload_n 3, 1) := by decide +kernel
theorem dX5_widthWithHalf_37 : decode cX5_widthWithHalf 37 = .ok (.iaload, 1) := by decide +kernel
theorem dX5_widthWithHalf_38 : decode cX5_widthWithHalf 38 = .ok (.iconst 2, 1) := by decide +kernel
theorem dX5_widthWithHalf_39 : decode cX5_widthWithHalf 39 = .ok (.idiv, 1) := by decide +kernel
theorem dX5_widthWithHalf_40 : decode cX5_widthWithHalf 40 = .ok (.goto 12, 3) := by decide +kernel
theorem dX5_widthWithHalf_43 : decode cX5_widthWithHalf 43 = .ok (.aload_n 0, 1) := by decide +kernel
theorem dX5_widthWithHalf_44 : decode cX5_widthWithHalf 44 = .ok (.getfield 14, 3) := by decide +kernel
theorem dX5_widthWithHalf_47 : decode cX5_widthWithHalf 47 = .ok (.getfield 196, 3) := by decide +kernel
theorem dX5_widthWithHalf_50 : decode cX5_widthWithHalf 50 = .ok (.iload_n 3, 1) := by decide +kernel
theorem dX5_widthWithHalf_51 : decode cX5_widthWithHalf 51 = .ok (.iaload, 1) := by decide +kernel
theorem dX5_widthWithHalf_52 : decode cX5_widthWithHalf 52 = .ok (.istore 5, 2) := by decide +kernel
theorem dX5_widthWithHalf_54 : decode cX5_widthWithHalf 54 = .ok (.aload_n 0, 1) := by decide +kernel
theorem dX5_widthWithHalf_55 : decode cX5_widthWithHalf 55 = .ok (.getfield 35, 3) := by decide +kernel
theorem dX5_widthWithHalf_58 : decode cX5_widthWithHalf 58 = .ok (.iload_n 3, 1) := by decide +kernel
theorem dX5_widthWithHalf_59 : decode cX5_widthWithHalf 59 = .ok (.aload_n 0, 1) := by decide +kernel
theorem dX5_widthWithHalf_60 : decode cX5_widthWithHalf 60 = .ok (.getfield 14, 3) := by decide +kernel
theorem dX5_widthWithHalf_63 : decode cX5_widthWithHalf 63 = .ok (.getfield 145, 3) := by decide +kernel
theorem dX5_widthWithHalf_66 : decode cX5_widthWithHalf 66 = .ok (.iload_n 3, 1) := by decide +kernel
theorem dX5_widthWithHalf_67 : decode cX5_widthWithHalf 67 = .ok (.iaload, 1) := by decide +kernel
theorem dX5_widthWithHalf_68 : decode cX5_widthWithHalf 68 = .ok (.iload 5, 2) := by decide +kernel
theorem dX5_widthWithHalf_70 : decode cX5_widthWithHalf 70 = .ok (.isub, 1) := by decide +kernel
theorem dX5_widthWithHalf_71 : decode cX5_widthWithHalf 71 = .ok (.aload_n 0, 1) := by decide +kernel
theorem dX5_widthWithHalf_72 : decode cX5_widthWithHalf 72 = .ok (.getfield 14, 3) := by decide +kernel
theorem dX5_widthWithHalf_75 : decode cX5_widthWithHalf 75 = .ok (.getfield 145, 3) := by decide +kernel
theorem dX5_widthWithHalf_78 : decode cX5_widthWithHalf 78 = .ok (.iload_n 3, 1) := by decide +kernel
theorem dX5_widthWithHalf_79 : decode cX5_widthWithHalf 79 = .ok (.iaload, 1) := by decide +kernel
theorem dX5_widthWithHalf_80 : decode cX5_widthWithHalf 80 = .ok (.iload 5, 2) := by decide +kernel
theorem dX5_widthWithHalf_82 : decode cX5_widthWithHalf 82 = .ok (.iadd, 1) := by decide +kernel
theorem dX5_widthWithHalf_83 : decode cX5_widthWithHalf 83 = .ok (.invokevirtual 169, 3) := by decide +kernel
theorem dX5_widthWithHalf_86 : decode cX5_widthWithHalf 86 = .ok (.iinc 3 1, 3) := by decide +kernel
theorem dX5_widthWithHalf_89 : decode cX5_widthWithHalf 89 = .ok (.goto (-87), 3) := by decide +kernel
theorem dX5_widthWithHalf_92 : decode cX5_widthWithHalf 92 = .ok (.aload_n 0, 1) := by decide +kernel
theorem dX5_widthWithHalf_93 : decode cX5_widthWithHalf 93 = .ok (.getfield 35, 3) := by decide +kernel
theorem dX5_widthWithHalf_96 : decode cX5_widthWithHalf 96 = .ok (.aload_n 1, 1) := by decide +kernel
theorem dX5_widthWithHalf_97 : decode cX5_widthWithHalf 97 = .ok (.invokevirtual 173, 3) := by decide +kernel
theorem dX5_widthWithHalf_100 : decode cX5_widthWithHalf 100 = .ok (.aload_n 0, 1) := by decide +kernel
theorem dX5_widthWithHalf_101 : decode cX5_widthWithHalf 101 = .ok (.getfield 35, 3) := by decide +kernel
theorem dX5_widthWithHalf_104 : decode cX5_widthWithHalf 104 = .ok (.getfield 184, 3) := by decide +kernel
theorem dX5_widthWithHalf_107 : decode cX5_widthWithHalf 107 = .ok (.aload_n 0, 1) := by decide +kernel
theorem dX5_widthWithHalf_108 : decode cX5_widthWithHalf 108 = .ok (.getfield 35, 3) := by decide +kernel
theorem dX5_widthWithHalf_111 : decode cX5_widthWithHalf 111 = .ok (.getfield 188, 3) := by decide +kernel
theorem dX5_widthWithHalf_114 : decode cX5_widthWithHalf 114 = .ok (.lsub, 1) := by decide +kernel
theorem dX5_widthWithHalf_115 : decode cX5_widthWithHalf 115 = .ok (.lreturn, 1) := by decide +kernel
theorem dX5_greatestCommon_0 : decode cX5_greatestCommon 0 = .ok (.iload_n 1, 1) := by decide +kernel
theorem dX5_greatestCommon_1 : decode cX5_greatestCommon 1 = .ok (.istore_n 2, 1) := by decide +kernel
theorem dX5_greatestCommon_2 : decode cX5_greatestCommon 2 = .ok (.iload_n 2, 1) := by decide +kernel
theorem dX5_greatestCommon_3 : decode cX5_greatestCommon 3 = .ok (.iconst 1, 1) := by decide +kernel
theorem dX5_greatestCommon_4 : decode cX5_greatestCommon 4 = .ok (.if_icmp .le 23, 3) := by decide +kernel
theorem dX5_greatestCommon_7 : decode cX5_greatestCommon 7 = .ok (.iload_n 0, 1) := by decide +kernel
theorem dX5_greatestCommon_8 : decode cX5_greatestCommon 8 = .ok (.iload_n 2, 1) := by decide +kernel
theorem dX5_greatestCommon_9 : decode cX5_greatestCommon 9 = .ok (.irem, 1) := by decide +kernel
theorem dX5_greatestCommon_10 : decode cX5_greatestCommon 10 = .ok (.ifCond .ne 11, 3) := by decide +kernel
theorem dX5_greatestCommon_13 : decode cX5_greatestCommon 13 = .ok (.iload_n 1, 1) := by decide +kernel
theorem dX5_greatestCommon_14 : decode cX5_greatestCommon 14 = .ok (.iload_n 2, 1) := by decide +kernel
theorem dX5_greatestCommon_15 : decode cX5_greatestCommon 15 = .ok (.irem, 1) := by decide +kernel
theorem dX5_greatestCommon_16 : decode cX5_greatestCommon 16 = .ok (.ifCond .ne 5, 3) := by decide +kernel
theorem dX5_greatestCommon_19 : decode cX5_greatestCommon 19 = .ok (.iload_n 2, 1) := by decide +kernel
theorem dX5_greatestCommon_20 : decode cX5_greatestCommon 20 = .ok (.ireturn, 1) := by decide +kernel
theorem dX5_greatestCommon_21 : decode cX5_greatestCommon 21 = .ok (.iinc 2 (-1), 3) := by decide +kernel
theorem dX5_greatestCommon_24 : decode cX5_greatestCommon 24 = .ok (.goto (-22), 3) := by decide +kernel
theorem dX5_greatestCommon_27 : decode cX5_greatestCommon 27 = .ok (.iconst 1, 1) := by decide +kernel
theorem dX5_greatestCommon_28 : decode cX5_greatestCommon 28 = .ok (.ireturn, 1) := by decide +kernel
theorem dX5_formulasOver_0 : decode cX5_formulasOver 0 = .ok (.iconst 0, 1) := by decide +kernel
theorem dX5_formulasOver_1 : decode cX5_formulasOver 1 = .ok (.istore_n 1, 1) := by decide +kernel
theorem dX5_formulasOver_2 : decode cX5_formulasOver 2 = .ok (.iconst 0, 1) := by decide +kernel
theorem dX5_formulasOver_3 : decode cX5_formulasOver 3 = .ok (.istore_n 2, 1) := by decide +kernel
theorem dX5_formulasOver_4 : decode cX5_formulasOver 4 = .ok (.iload_n 2, 1) := by decide +kernel
theorem dX5_formulasOver_5 : decode cX5_formulasOver 5 = .ok (.aload_n 0, 1) := by decide +kernel
theorem dX5_formulasOver_6 : decode cX5_formulasOver 6 = .ok (.getfield 14, 3) := by decide +kernel
theorem dX5_formulasOver_9 : decode cX5_formulasOver 9 = .ok (.getfield 93, 3) := by decide +kernel
theorem dX5_formulasOver_12 : decode cX5_formulasOver 12 = .ok (.if_icmp .ge 42, 3) := by decide +kernel
theorem dX5_formulasOver_15 : decode cX5_formulasOver 15 = .ok (.aload_n 0, 1) := by decide +kernel
theorem dX5_formulasOver_16 : decode cX5_formulasOver 16 = .ok (.iload_n 2, 1) := by decide +kernel
theorem dX5_formulasOver_17 : decode cX5_formulasOver 17 = .ok (.invokevirtual 100, 3) := by decide +kernel
theorem dX5_formulasOver_20 : decode cX5_formulasOver 20 = .ok (.astore_n 3, 1) := by decide +kernel
theorem dX5_formulasOver_21 : decode cX5_formulasOver 21 = .ok (.aload_n 3, 1) := by decide +kernel
theorem dX5_formulasOver_22 : decode cX5_formulasOver 22 = .ok (.ifnull 26, 3) := by decide +kernel
theorem dX5_formulasOver_25 : decode cX5_formulasOver 25 = .ok (.aload_n 0, 1) := by decide +kernel
theorem dX5_formulasOver_26 : decode cX5_formulasOver 26 = .ok (.aload_n 3, 1) := by decide +kernel
theorem dX5_formulasOver_27 : decode cX5_formulasOver 27 = .ok (.invokevirtual 127, 3) := by decide +kernel
theorem dX5_formulasOver_30 : decode cX5_formulasOver 30 = .ok (.iload_n 1, 1) := by decide +kernel
theorem dX5_formulasOver_31 : decode cX5_formulasOver 31 = .ok (.aload_n 0, 1) := by decide +kernel
theorem dX5_formulasOver_32 : decode cX5_formulasOver 32 = .ok (.getfield 35, 3) := by decide +kernel
theorem dX5_formulasOver_35 : decode cX5_formulasOver 35 = .ok (.getfield 131, 3) := by decide +kernel
theorem dX5_formulasOver_38 : decode cX5_formulasOver 38 = .ok (.ifCond .eq 7, 3) := by decide +kernel
theorem dX5_formulasOver_41 : decode cX5_formulasOver 41 = .ok (.iconst 1, 1) := by decide +kernel
theorem dX5_formulasOver_42 : decode cX5_formulasOver 42 = .ok (.goto 4, 3) := by decide +kernel
theorem dX5_formulasOver_45 : decode cX5_formulasOver 45 = .ok (.iconst 0, 1) := by decide +kernel
theorem dX5_formulasOver_46 : decode cX5_formulasOver 46 = .ok (.iadd, 1) := by decide +kernel
theorem dX5_formulasOver_47 : decode cX5_formulasOver 47 = .ok (.istore_n 1, 1) := by decide +kernel
theorem dX5_formulasOver_48 : decode cX5_formulasOver 48 = .ok (.iinc 2 1, 3) := by decide +kernel
theorem dX5_formulasOver_51 : decode cX5_formulasOver 51 = .ok (.goto (-47), 3) := by decide +kernel
theorem dX5_formulasOver_54 : decode cX5_formulasOver 54 = .ok (.iload_n 1, 1) := by decide +kernel
theorem dX5_formulasOver_55 : decode cX5_formulasOver 55 = .ok (.ireturn, 1) := by decide +kernel
theorem dX5_sourcesWithSpan_0 : decode cX5_sourcesWithSpan 0 = .ok (.iconst 0, 1) := by decide +kernel
theorem dX5_sourcesWithSpan_1 : decode cX5_sourcesWithSpan 1 = .ok (.istore_n 1, 1) := by decide +kernel
theorem dX5_sourcesWithSpan_2 : decode cX5_sourcesWithSpan 2 = .ok (.iconst 0, 1) := by decide +kernel
theorem dX5_sourcesWithSpan_3 : decode cX5_sourcesWithSpan 3 = .ok (.istore_n 2, 1) := by decide +kernel
theorem dX5_sourcesWithSpan_4 : decode cX5_sourcesWithSpan 4 = .ok (.iload_n 2, 1) := by decide +kernel
theorem dX5_sourcesWithSpan_5 : decode cX5_sourcesWithSpan 5 = .ok (.bipush 6, 2) := by decide +kernel
theorem dX5_sourcesWithSpan_7 : decode cX5_sourcesWithSpan 7 = .ok (.if_icmp .ge 29, 3) := by decide +kernel
theorem dX5_sourcesWithSpan_10 : decode cX5_sourcesWithSpan 10 = .ok (.iload_n 1, 1) := by decide +kernel
theorem dX5_sourcesWithSpan_11 : decode cX5_sourcesWithSpan 11 = .ok (.aload_n 0, 1) := by decide +kernel
theorem dX5_sourcesWithSpan_12 : decode cX5_sourcesWithSpan 12 = .ok (.getfield 14, 3) := by decide +kernel
theorem dX5_sourcesWithSpan_15 : decode cX5_sourcesWithSpan 15 = .ok (.getfield 196, 3) := by decide +kernel
theorem dX5_sourcesWithSpan_18 : decode cX5_sourcesWithSpan 18 = .ok (.iload_n 2, 1) := by decide +kernel
theorem dX5_sourcesWithSpan_19 : decode cX5_sourcesWithSpan 19 = .ok (.iaload, 1) := by decide +kernel
theorem dX5_sourcesWithSpan_20 : decode cX5_sourcesWithSpan 20 = .ok (.ifCond .le 7, 3) := by decide +kernel
theorem dX5_sourcesWithSpan_23 : decode cX5_sourcesWithSpan 23 = .ok (.iconst 1, 1) := by decide +kernel
theorem dX5_sourcesWithSpan_24 : decode cX5_sourcesWithSpan 24 = .ok (.goto 4, 3) := by decide +kernel
theorem dX5_sourcesWithSpan_27 : decode cX5_sourcesWithSpan 27 = .ok (.iconst 0, 1) := by decide +kernel
theorem dX5_sourcesWithSpan_28 : decode cX5_sourcesWithSpan 28 = .ok (.iadd, 1) := by decide +kernel
theorem dX5_sourcesWithSpan_29 : decode cX5_sourcesWithSpan 29 = .ok (.istore_n 1, 1) := by decide +kernel
theorem dX5_sourcesWithSpan_30 : decode cX5_sourcesWithSpan 30 = .ok (.iinc 2 1, 3) := by decide +kernel
theorem dX5_sourcesWithSpan_33 : decode cX5_sourcesWithSpan 33 = .ok (.goto (-29), 3) := by decide +kernel
theorem dX5_sourcesWithSpan_36 : decode cX5_sourcesWithSpan 36 = .ok (.iload_n 1, 1) := by decide +kernel
theorem dX5_sourcesWithSpan_37 : decode cX5_sourcesWithSpan 37 = .ok (.ireturn, 1) := by decide +kernel
theorem dX6_isIn_0 : decode cX6_isIn 0 = .ok (.lload_n 0, 1) := by decide +kernel
theorem dX6_isIn_1 : decode cX6_isIn 1 = .ok (.lload_n 2, 1) := by decide +kernel
theorem dX6_isIn_2 : decode cX6_isIn 2 = .ok (.lcmp, 1) := by decide +kernel
theorem dX6_isIn_3 : decode cX6_isIn 3 = .ok (.ifCond .lt 14, 3) := by decide +kernel
theorem dX6_isIn_6 : decode cX6_isIn 6 = .ok (.lload_n 0, 1) := by decide +kernel
theorem dX6_isIn_7 : decode cX6_isIn 7 = .ok (.lload 4, 2) := by decide +kernel
theorem dX6_isIn_9 : decode cX6_isIn 9 = .ok (.lcmp, 1) := by decide +kernel
theorem dX6_isIn_10 : decode cX6_isIn 10 = .ok (.ifCond .gt 7, 3) := by decide +kernel
theorem dX6_isIn_13 : decode cX6_isIn 13 = .ok (.iconst 1, 1) := by decide +kernel
theorem dX6_isIn_14 : decode cX6_isIn 14 = .ok (.goto 4, 3) := by decide +kernel
theorem dX6_isIn_17 : decode cX6_isIn 17 = .ok (.iconst 0, 1) := by decide +kernel
theorem dX6_isIn_18 : decode cX6_isIn 18 = .ok (.ireturn, 1) := by decide +kernel
theorem dX6_isSource_0 : decode cX6_isSource 0 = .ok (.iload_n 0, 1) := by decide +kernel
theorem dX6_isSource_1 : decode cX6_isSource 1 = .ok (.i2l, 1) := by decide +kernel
theorem dX6_isSource_2 : decode cX6_isSource 2 = .ok (.lconst 0, 1) := by decide +kernel
theorem dX6_isSource_3 : decode cX6_isSource 3 = .ok (.ldc2_w 95, 3) := by decide +kernel
theorem dX6_isSource_6 : decode cX6_isSource 6 = .ok (.invokestatic 97, 3) := by decide +kernel
theorem dX6_isSource_9 : decode cX6_isSource 9 = .ok (.ireturn, 1) := by decide +kernel
theorem dX6_valueOf_0 : decode cX6_valueOf 0 = .ok (.aload_n 0, 1) := by decide +kernel
theorem dX6_valueOf_1 : decode cX6_valueOf 1 = .ok (.getfield 11, 3) := by decide +kernel
theorem dX6_valueOf_4 : decode cX6_valueOf 4 = .ok (.iconst 3, 1) := by decide +kernel
theorem dX6_valueOf_5 : decode cX6_valueOf 5 = .ok (.iload_n 1, 1) := by decide +kernel
theorem dX6_valueOf_6 : decode cX6_valueOf 6 = .ok (.imul, 1) := by decide +kernel
theorem dX6_valueOf_7 : decode cX6_valueOf 7 = .ok (.iaload, 1) := by decide +kernel
theorem dX6_valueOf_8 : decode cX6_valueOf 8 = .ok (.ireturn, 1) := by decide +kernel
theorem dX6_spanOf_0 : decode cX6_spanOf 0 = .ok (.aload_n 0, 1) := by decide +kernel
theorem dX6_spanOf_1 : decode cX6_spanOf 1 = .ok (.getfield 11, 3) := by decide +kernel
theorem dX6_spanOf_4 : decode cX6_spanOf 4 = .ok (.iconst 3, 1) := by decide +kernel
theorem dX6_spanOf_5 : decode cX6_spanOf 5 = .ok (.iload_n 1, 1) := by decide +kernel
theorem dX6_spanOf_6 : decode cX6_spanOf 6 = .ok (.imul, 1) := by decide +kernel
theorem dX6_spanOf_7 : decode cX6_spanOf 7 = .ok (.iconst 1, 1) := by decide +kernel
theorem dX6_spanOf_8 : decode cX6_spanOf 8 = .ok (.iadd, 1) := by decide +kernel
theorem dX6_spanOf_9 : decode cX6_spanOf 9 = .ok (.iaload, 1) := by decide +kernel
theorem dX6_spanOf_10 : decode cX6_spanOf 10 = .ok (.ireturn, 1) := by decide +kernel
theorem dX6_set_0 : decode cX6_set 0 = .ok (.iload_n 1, 1) := by decide +kernel
theorem dX6_set_1 : decode cX6_set 1 = .ok (.invokestatic 101, 3) := by decide +kernel
theorem dX6_set_4 : decode cX6_set 4 = .ok (.ifCond .eq 15, 3) := by decide +kernel
theorem dX6_set_7 : decode cX6_set 7 = .ok (.iload_n 2, 1) := by decide +kernel
theorem dX6_set_8 : decode cX6_set 8 = .ok (.i2l, 1) := by decide +kernel
theorem dX6_set_9 : decode cX6_set 9 = .ok (.lconst 0, 1) := by decide +kernel
theorem dX6_set_10 : decode cX6_set 10 = .ok (.ldc2_w 105, 3) := by decide +kernel
theorem dX6_set_13 : decode cX6_set 13 = .ok (.invokestatic 97, 3) := by decide +kernel
theorem dX6_set_16 : decode cX6_set 16 = .ok (.ifCond .ne 7, 3) := by decide +kernel
theorem dX6_set_19 : decode cX6_set 19 = .ok (.sipush (-1000), 3) := by decide +kernel
theorem dX6_set_22 : decode cX6_set 22 = .ok (.ireturn, 1) := by decide +kernel
theorem dX6_set_23 : decode cX6_set 23 = .ok (.iload_n 2, 1) := by decide +kernel
theorem dX6_set_24 : decode cX6_set 24 = .ok (.ifCond .ne 20, 3) := by decide +kernel
theorem dX6_set_27 : decode cX6_set 27 = .ok (.iload_n 3, 1) := by decide +kernel
theorem dX6_set_28 : decode cX6_set 28 = .ok (.i2l, 1) := by decide +kernel
theorem dX6_set_29 : decode cX6_set 29 = .ok (.ldc2_w 107, 3) := by decide +kernel
theorem dX6_set_32 : decode cX6_set 32 = .ok (.ldc2_w 109, 3) := by decide +kernel
theorem dX6_set_35 : decode cX6_set 35 = .ok (.invokestatic 97, 3) := by decide +kernel
theorem dX6_set_38 : decode cX6_set 38 = .ok (.ifCond .eq 38, 3) := by decide +kernel
theorem dX6_set_41 : decode cX6_set 41 = .ok (.goto 39, 3) := by decide +kernel
theorem dX6_set_44 : decode cX6_set 44 = .ok (.iload_n 2, 1) := by decide +kernel
theorem dX6_set_45 : decode cX6_set 45 = .ok (.iconst 1, 1) := by decide +kernel
theorem dX6_set_46 : decode cX6_set 46 = .ok (.if_icmp .ne 18, 3) := by decide +kernel
theorem dX6_set_49 : decode cX6_set 49 = .ok (.iload_n 3, 1) := by decide +kernel
theorem dX6_set_50 : decode cX6_set 50 = .ok (.i2l, 1) := by decide +kernel
theorem dX6_set_51 : decode cX6_set 51 = .ok (.lconst 0, 1) := by decide +kernel
theorem dX6_set_52 : decode cX6_set 52 = .ok (.ldc2_w 111, 3) := by decide +kernel
theorem dX6_set_55 : decode cX6_set 55 = .ok (.invokestatic 97, 3) := by decide +kernel
theorem dX6_set_58 : decode cX6_set 58 = .ok (.ifCond .eq 18, 3) := by decide +kernel
theorem dX6_set_61 : decode cX6_set 61 = .ok (.goto 19, 3) := by decide +kernel
theorem dX6_set_64 : decode cX6_set 64 = .ok (.iload_n 3, 1) := by decide +kernel
theorem dX6_set_65 : decode cX6_set 65 = .ok (.i2l, 1) := by decide +kernel
theorem dX6_set_66 : decode cX6_set 66 = .ok (.lconst 0, 1) := by decide +kernel
theorem dX6_set_67 : decode cX6_set 67 = .ok (.ldc2_w 109, 3) := by decide +kernel
theorem dX6_set_70 : decode cX6_set 70 = .ok (.invokestatic 97, 3) := by decide +kernel
theorem dX6_set_73 : decode cX6_set 73 = .ok (.ifCond .ne 7, 3) := by decide +kernel
theorem dX6_set_76 : decode cX6_set 76 = .ok (.sipush (-1001), 3) := by decide +kernel
theorem dX6_set_79 : decode cX6_set 79 = .ok (.ireturn, 1) := by decide +kernel
theorem dX6_set_80 : decode cX6_set 80 = .ok (.aload_n 0, 1) := by decide +kernel
theorem dX6_set_81 : decode cX6_set 81 = .ok (.getfield 11, 3) := by decide +kernel
theorem dX6_set_84 : decode cX6_set 84 = .ok (.iconst 3, 1) := by decide +kernel
theorem dX6_set_85 : decode cX6_set 85 = .ok (.iload_n 1, 1) := by decide +kernel
theorem dX6_set_86 : decode cX6_set 86 = .ok (.imul, 1) := by decide +kernel
theorem dX6_set_87 : decode cX6_set 87 = .ok (.iload_n 2, 1) := by decide +kernel
theorem dX6_set_88 : decode cX6_set 88 = .ok (.iadd, 1) := by decide +kernel
theorem dX6_set_89 : decode cX6_set 89 = .ok (.iaload, 1) := by decide +kernel
theorem dX6_set_90 : decode cX6_set 90 = .ok (.istore 4, 2) := by decide +kernel
theorem dX6_set_92 : decode cX6_set 92 = .ok (.aload_n 0, 1) := by decide +kernel
theorem dX6_set_93 : decode cX6_set 93 = .ok (.getfield 11, 3) := by decide +kernel
theorem dX6_set_96 : decode cX6_set 96 = .ok (.iconst 3, 1) := by decide +kernel
theorem dX6_set_97 : decode cX6_set 97 = .ok (.iload_n 1, 1) := by decide +kernel
theorem dX6_set_98 : decode cX6_set 98 = .ok (.imul, 1) := by decide +kernel
theorem dX6_set_99 : decode cX6_set 99 = .ok (.iload_n 2, 1) := by decide +kernel
theorem dX6_set_100 : decode cX6_set 100 = .ok (.iadd, 1) := by decide +kernel
theorem dX6_set_101 : decode cX6_set 101 = .ok (.iload_n 3, 1) := by decide +kernel
theorem dX6_set_102 : decode cX6_set 102 = .ok (.iastore, 1) := by decide +kernel
theorem dX6_set_103 : decode cX6_set 103 = .ok (.iload 4, 2) := by decide +kernel
theorem dX6_set_105 : decode cX6_set 105 = .ok (.ireturn, 1) := by decide +kernel
theorem dX6_of_0 : decode cX6_of 0 = .ok (.iload_n 1, 1) := by decide +kernel
theorem dX6_of_1 : decode cX6_of 1 = .ok (.invokestatic 101, 3) := by decide +kernel
theorem dX6_of_4 : decode cX6_of 4 = .ok (.ifCond .eq 15, 3) := by decide +kernel
theorem dX6_of_7 : decode cX6_of 7 = .ok (.iload_n 2, 1) := by decide +kernel
theorem dX6_of_8 : decode cX6_of 8 = .ok (.i2l, 1) := by decide +kernel
theorem dX6_of_9 : decode cX6_of 9 = .ok (.lconst 0, 1) := by decide +kernel
theorem dX6_of_10 : decode cX6_of 10 = .ok (.ldc2_w 113, 3) := by decide +kernel
theorem dX6_of_13 : decode cX6_of 13 = .ok (.invokestatic 97, 3) := by decide +kernel
theorem dX6_of_16 : decode cX6_of 16 = .ok (.ifCond .ne 7, 3) := by decide +kernel
theorem dX6_of_19 : decode cX6_of 19 = .ok (.sipush (-1000), 3) := by decide +kernel
theorem dX6_of_22 : decode cX6_of 22 = .ok (.ireturn, 1) := by decide +kernel
theorem dX6_of_23 : decode cX6_of 23 = .ok (.iload_n 2, 1) := by decide +kernel
theorem dX6_of_24 : decode cX6_of 24 = .ok (.iconst 3, 1) := by decide +kernel
theorem dX6_of_25 : decode cX6_of 25 = .ok (.if_icmp .ge 16, 3) := by decide +kernel
theorem dX6_of_28 : decode cX6_of 28 = .ok (.aload_n 0, 1) := by decide +kernel
theorem dX6_of_29 : decode cX6_of 29 = .ok (.getfield 11, 3) := by decide +kernel
theorem dX6_of_32 : decode cX6_of 32 = .ok (.iconst 3, 1) := by decide +kernel
theorem dX6_of_33 : decode cX6_of 33 = .ok (.iload_n 1, 1) := by decide +kernel
theorem dX6_of_34 : decode cX6_of 34 = .ok (.imul, 1) := by decide +kernel
theorem dX6_of_35 : decode cX6_of 35 = .ok (.iload_n 2, 1) := by decide +kernel
theorem dX6_of_36 : decode cX6_of 36 = .ok (.iadd, 1) := by decide +kernel
theorem dX6_of_37 : decode cX6_of 37 = .ok (.iaload, 1) := by decide +kernel
theorem dX6_of_38 : decode cX6_of 38 = .ok (.goto 33, 3) := by decide +kernel
theorem dX6_of_41 : decode cX6_of 41 = .ok (.iload_n 2, 1) := by decide +kernel
theorem dX6_of_42 : decode cX6_of 42 = .ok (.iconst 3, 1) := by decide +kernel
theorem dX6_of_43 : decode cX6_of 43 = .ok (.if_icmp .ne 17, 3) := by decide +kernel
theorem dX6_of_46 : decode cX6_of 46 = .ok (.aload_n 0, 1) := by decide +kernel
theorem dX6_of_47 : decode cX6_of 47 = .ok (.iload_n 1, 1) := by decide +kernel
theorem dX6_of_48 : decode cX6_of 48 = .ok (.invokevirtual 115, 3) := by decide +kernel
theorem dX6_of_51 : decode cX6_of 51 = .ok (.aload_n 0, 1) := by decide +kernel
theorem dX6_of_52 : decode cX6_of 52 = .ok (.iload_n 1, 1) := by decide +kernel
theorem dX6_of_53 : decode cX6_of 53 = .ok (.invokevirtual 119, 3) := by decide +kernel
theorem dX6_of_56 : decode cX6_of 56 = .ok (.isub, 1) := by decide +kernel
theorem dX6_of_57 : decode cX6_of 57 = .ok (.goto 14, 3) := by decide +kernel
theorem dX6_of_60 : decode cX6_of 60 = .ok (.aload_n 0, 1) := by decide +kernel
theorem dX6_of_61 : decode cX6_of 61 = .ok (.iload_n 1, 1) := by decide +kernel
theorem dX6_of_62 : decode cX6_of 62 = .ok (.invokevirtual 115, 3) := by decide +kernel
theorem dX6_of_65 : decode cX6_of 65 = .ok (.aload_n 0, 1) := by decide +kernel
theorem dX6_of_66 : decode cX6_of 66 = .ok (.iload_n 1, 1) := by decide +kernel
theorem dX6_of_67 : decode cX6_of 67 = .ok (.invokevirtual 119, 3) := by decide +kernel
theorem dX6_of_70 : decode cX6_of 70 = .ok (.iadd, 1) := by decide +kernel
theorem dX6_of_71 : decode cX6_of 71 = .ok (.ireturn, 1) := by decide +kernel
theorem dX6_isFormula_0 : decode cX6_isFormula 0 = .ok (.iload_n 1, 1) := by decide +kernel
theorem dX6_isFormula_1 : decode cX6_isFormula 1 = .ok (.i2l, 1) := by decide +kernel
theorem dX6_isFormula_2 : decode cX6_isFormula 2 = .ok (.lconst 0, 1) := by decide +kernel
theorem dX6_isFormula_3 : decode cX6_isFormula 3 = .ok (.aload_n 0, 1) := by decide +kernel
theorem dX6_isFormula_4 : decode cX6_isFormula 4 = .ok (.getfield 122, 3) := by decide +kernel
theorem dX6_isFormula_7 : decode cX6_isFormula 7 = .ok (.iconst 1, 1) := by decide +kernel
theorem dX6_isFormula_8 : decode cX6_isFormula 8 = .ok (.isub, 1) := by decide +kernel
theorem dX6_isFormula_9 : decode cX6_isFormula 9 = .ok (.i2l, 1) := by decide +kernel
theorem dX6_isFormula_10 : decode cX6_isFormula 10 = .ok (.invokestatic 97, 3) := by decide +kernel
theorem dX6_isFormula_13 : decode cX6_isFormula 13 = .ok (.ireturn, 1) := by decide +kernel
theorem dX6_at_0 : decode cX6_at 0 = .ok (.bipush 60, 2) := by decide +kernel
theorem dX6_at_2 : decode cX6_at 2 = .ok (.iload_n 0, 1) := by decide +kernel
theorem dX6_at_3 : decode cX6_at 3 = .ok (.imul, 1) := by decide +kernel
theorem dX6_at_4 : decode cX6_at 4 = .ok (.iload_n 1, 1) := by decide +kernel
theorem dX6_at_5 : decode cX6_at 5 = .ok (.iadd, 1) := by decide +kernel
theorem dX6_at_6 : decode cX6_at 6 = .ok (.ireturn, 1) := by decide +kernel
theorem dX6_rootOf_0 : decode cX6_rootOf 0 = .ok (.aload_n 0, 1) := by decide +kernel
theorem dX6_rootOf_1 : decode cX6_rootOf 1 = .ok (.getfield 30, 3) := by decide +kernel
theorem dX6_rootOf_4 : decode cX6_rootOf 4 = .ok (.iload_n 1, 1) := by decide +kernel
theorem dX6_rootOf_5 : decode cX6_rootOf 5 = .ok (.iaload, 1) := by decide +kernel
theorem dX6_rootOf_6 : decode cX6_rootOf 6 = .ok (.iconst 1, 1) := by decide +kernel
theorem dX6_rootOf_7 : decode cX6_rootOf 7 = .ok (.isub, 1) := by decide +kernel
theorem dX6_rootOf_8 : decode cX6_rootOf 8 = .ok (.ireturn, 1) := by decide +kernel
theorem dX6_feed_0 : decode cX6_feed 0 = .ok (.iload_n 1, 1) := by decide +kernel
theorem dX6_feed_1 : decode cX6_feed 1 = .ok (.i2l, 1) := by decide +kernel
theorem dX6_feed_2 : decode cX6_feed 2 = .ok (.lconst 1, 1) := by decide +kernel
theorem dX6_feed_3 : decode cX6_feed 3 = .ok (.ldc2_w 126, 3) := by decide +kernel
theorem dX6_feed_6 : decode cX6_feed 6 = .ok (.invokestatic 97, 3) := by decide +kernel
theorem dX6_feed_9 : decode cX6_feed 9 = .ok (.ifCond .ne 6, 3) := by decide +kernel
theorem dX6_feed_12 : decode cX6_feed 12 = .ok (.bipush (-2), 2) := by decide +kernel
theorem dX6_feed_14 : decode cX6_feed 14 = .ok (.ireturn, 1) := by decide +kernel
theorem dX6_feed_15 : decode cX6_feed 15 = .ok (.aload_n 0, 1) := by decide +kernel
theorem dX6_feed_16 : decode cX6_feed 16 = .ok (.getfield 128, 3) := by decide +kernel
theorem dX6_feed_19 : decode cX6_feed 19 = .ok (.bipush 60, 2) := by decide +kernel
theorem dX6_feed_21 : decode cX6_feed 21 = .ok (.if_icmp .ne 6, 3) := by decide +kernel
theorem dX6_feed_24 : decode cX6_feed 24 = .ok (.bipush (-4), 2) := by decide +kernel
theorem dX6_feed_26 : decode cX6_feed 26 = .ok (.ireturn, 1) := by decide +kernel
theorem dX6_feed_27 : decode cX6_feed 27 = .ok (.aload_n 0, 1) := by decide +kernel
theorem dX6_feed_28 : decode cX6_feed 28 = .ok (.getfield 48, 3) := by decide +kernel
theorem dX6_feed_31 : decode cX6_feed 31 = .ok (.aload_n 0, 1) := by decide +kernel
theorem dX6_feed_32 : decode cX6_feed 32 = .ok (.getfield 128, 3) := by decide +kernel
theorem dX6_feed_35 : decode cX6_feed 35 = .ok (.iload_n 1, 1) := by decide +kernel
theorem dX6_feed_36 : decode cX6_feed 36 = .ok (.iastore, 1) := by decide +kernel
theorem dX6_feed_37 : decode cX6_feed 37 = .ok (.aload_n 0, 1) := by decide +kernel
theorem dX6_feed_38 : decode cX6_feed 38 = .ok (.dup, 1) := by decide +kernel
theorem dX6_feed_39 : decode cX6_feed 39 = .ok (.getfield 128, 3) := by decide +kernel
theorem dX6_feed_42 : decode cX6_feed 42 = .ok (.iconst 1, 1) := by decide +kernel
theorem dX6_feed_43 : decode cX6_feed 43 = .ok (.iadd, 1) := by decide +kernel
theorem dX6_feed_44 : decode cX6_feed 44 = .ok (.putfield 128, 3) := by decide +kernel
theorem dX6_feed_47 : decode cX6_feed 47 = .ok (.aload_n 0, 1) := by decide +kernel
theorem dX6_feed_48 : decode cX6_feed 48 = .ok (.getfield 128, 3) := by decide +kernel
theorem dX6_feed_51 : decode cX6_feed 51 = .ok (.ireturn, 1) := by decide +kernel
theorem dX6_next_0 : decode cX6_next 0 = .ok (.aload_n 0, 1) := by decide +kernel
theorem dX6_next_1 : decode cX6_next 1 = .ok (.getfield 131, 3) := by decide +kernel
theorem dX6_next_4 : decode cX6_next 4 = .ok (.aload_n 0, 1) := by decide +kernel
theorem dX6_next_5 : decode cX6_next 5 = .ok (.getfield 128, 3) := by decide +kernel
theorem dX6_next_8 : decode cX6_next 8 = .ok (.if_icmp .ge 15, 3) := by decide +kernel
theorem dX6_next_11 : decode cX6_next 11 = .ok (.aload_n 0, 1) := by decide +kernel
theorem dX6_next_12 : decode cX6_next 12 = .ok (.getfield 48, 3) := by decide +kernel
theorem dX6_next_15 : decode cX6_next 15 = .ok (.aload_n 0, 1) := by decide +kernel
theorem dX6_next_16 : decode cX6_next 16 = .ok (.getfield 131, 3) := by decide +kernel
theorem dX6_next_19 : decode cX6_next 19 = .ok (.iaload, 1) := by decide +kernel
theorem dX6_next_20 : decode cX6_next 20 = .ok (.goto 4, 3) := by decide +kernel
theorem dX6_next_23 : decode cX6_next 23 = .ok (.iconst 0, 1) := by decide +kernel
theorem dX6_next_24 : decode cX6_next 24 = .ok (.ireturn, 1) := by decide +kernel
theorem dX6_comes_0 : decode cX6_comes 0 = .ok (.aload_n 0, 1) := by decide +kernel
theorem dX6_comes_1 : decode cX6_comes 1 = .ok (.getfield 30, 3) := by decide +kernel
theorem dX6_comes_4 : decode cX6_comes 4 = .ok (.aload_n 0, 1) := by decide +kernel
theorem dX6_comes_5 : decode cX6_comes 5 = .ok (.getfield 122, 3) := by decide +kernel
theorem dX6_comes_8 : decode cX6_comes 8 = .ok (.iaload, 1) := by decide +kernel
theorem dX6_comes_9 : decode cX6_comes 9 = .ok (.istore 5, 2) := by decide +kernel
theorem dX6_comes_11 : decode cX6_comes 11 = .ok (.aload_n 0, 1) := by decide +kernel
theorem dX6_comes_12 : decode cX6_comes 12 = .ok (.getfield 18, 3) := by decide +kernel
theorem dX6_comes_15 : decode cX6_comes 15 = .ok (.aload_n 0, 1) := by decide +kernel
theorem dX6_comes_16 : decode cX6_comes 16 = .ok (.getfield 122, 3) := by decide +kernel
theorem dX6_comes_19 : decode cX6_comes 19 = .ok (.iload 5, 2) := by decide +kernel
theorem dX6_comes_21 : decode cX6_comes 21 = .ok (.invokestatic 134, 3) := by decide +kernel
theorem dX6_comes_24 : decode cX6_comes 24 = .ok (.iload_n 1, 1) := by decide +kernel
theorem dX6_comes_25 : decode cX6_comes 25 = .ok (.iastore, 1) := by decide +kernel
theorem dX6_comes_26 : decode cX6_comes 26 = .ok (.aload_n 0, 1) := by decide +kernel
theorem dX6_comes_27 : decode cX6_comes 27 = .ok (.getfield 21, 3) := by decide +kernel
theorem dX6_comes_30 : decode cX6_comes 30 = .ok (.aload_n 0, 1) := by decide +kernel
theorem dX6_comes_31 : decode cX6_comes 31 = .ok (.getfield 122, 3) := by decide +kernel
theorem dX6_comes_34 : decode cX6_comes 34 = .ok (.iload 5, 2) := by decide +kernel
theorem dX6_comes_36 : decode cX6_comes 36 = .ok (.invokestatic 134, 3) := by decide +kernel
theorem dX6_comes_39 : decode cX6_comes 39 = .ok (.iload_n 2, 1) := by decide +kernel
theorem dX6_comes_40 : decode cX6_comes 40 = .ok (.iastore, 1) := by decide +kernel
theorem dX6_comes_41 : decode cX6_comes 41 = .ok (.aload_n 0, 1) := by decide +kernel
theorem dX6_comes_42 : decode cX6_comes 42 = .ok (.getfield 24, 3) := by decide +kernel
theorem dX6_comes_45 : decode cX6_comes 45 = .ok (.aload_n 0, 1) := by decide +kernel
theorem dX6_comes_46 : decode cX6_comes 46 = .ok (.getfield 122, 3) := by decide +kernel
theorem dX6_comes_49 : decode cX6_comes 49 = .ok (.iload 5, 2) := by decide +kernel
theorem dX6_comes_51 : decode cX6_comes 51 = .ok (.invokestatic 134, 3) := by decide +kernel
theorem dX6_comes_54 : decode cX6_comes 54 = .ok (.iload_n 3, 1) := by decide +kernel
theorem dX6_comes_55 : decode cX6_comes 55 = .ok (.iastore, 1) := by decide +kernel
theorem dX6_comes_56 : decode cX6_comes 56 = .ok (.aload_n 0, 1) := by decide +kernel
theorem dX6_comes_57 : decode cX6_comes 57 = .ok (.getfield 27, 3) := by decide +kernel
theorem dX6_comes_60 : decode cX6_comes 60 = .ok (.aload_n 0, 1) := by decide +kernel
theorem dX6_comes_61 : decode cX6_comes 61 = .ok (.getfield 122, 3) := by decide +kernel
theorem dX6_comes_64 : decode cX6_comes 64 = .ok (.iload 5, 2) := by decide +kernel
theorem dX6_comes_66 : decode cX6_comes 66 = .ok (.invokestatic 134, 3) := by decide +kernel
theorem dX6_comes_69 : decode cX6_comes 69 = .ok (.iload 4, 2) := by decide +kernel
theorem dX6_comes_71 : decode cX6_comes 71 = .ok (.iastore, 1) := by decide +kernel
theorem dX6_comes_72 : decode cX6_comes 72 = .ok (.aload_n 0, 1) := by decide +kernel
theorem dX6_comes_73 : decode cX6_comes 73 = .ok (.getfield 30, 3) := by decide +kernel
theorem dX6_comes_76 : decode cX6_comes 76 = .ok (.aload_n 0, 1) := by decide +kernel
theorem dX6_comes_77 : decode cX6_comes 77 = .ok (.getfield 122, 3) := by decide +kernel
theorem dX6_comes_80 : decode cX6_comes 80 = .ok (.dup2, 1) := by decide +kernel
theorem dX6_comes_81 : decode cX6_comes 81 = .ok (.iaload, 1) := by decide +kernel
theorem dX6_comes_82 : decode cX6_comes 82 = .ok (.iconst 1, 1) := by decide +kernel
theorem dX6_comes_83 : decode cX6_comes 83 = .ok (.iadd, 1) := by decide +kernel
theorem dX6_comes_84 : decode cX6_comes 84 = .ok (.iastore, 1) := by decide +kernel
theorem dX6_comes_85 : decode cX6_comes 85 = .ok (.iload 5, 2) := by decide +kernel
theorem dX6_comes_87 : decode cX6_comes 87 = .ok (.ireturn, 1) := by decide +kernel
theorem dX6_wrong_0 : decode cX6_wrong 0 = .ok (.aload_n 0, 1) := by decide +kernel
theorem dX6_wrong_1 : decode cX6_wrong 1 = .ok (.iconst 0, 1) := by decide +kernel
theorem dX6_wrong_2 : decode cX6_wrong 2 = .ok (.putfield 138, 3) := by decide +kernel
theorem dX6_wrong_5 : decode cX6_wrong 5 = .ok (.iconst 0, 1) := by decide +kernel
theorem dX6_wrong_6 : decode cX6_wrong 6 = .ok (.ireturn, 1) := by decide +kernel
theorem dX6_opened_0 : decode cX6_opened 0 = .ok (.aload_n 0, 1) := by decide +kernel
theorem dX6_opened_1 : decode cX6_opened 1 = .ok (.getfield 131, 3) := by decide +kernel
theorem dX6_opened_4 : decode cX6_opened 4 = .ok (.istore_n 1, 1) := by decide +kernel
theorem dX6_opened_5 : decode cX6_opened 5 = .ok (.aload_n 0, 1) := by decide +kernel
theorem dX6_opened_6 : decode cX6_opened 6 = .ok (.invokevirtual 142, 3) := by decide +kernel
theorem dX6_opened_9 : decode cX6_opened 9 = .ok (.bipush 45, 2) := by decide +kernel
theorem dX6_opened_11 : decode cX6_opened 11 = .ok (.if_icmp .ne 7, 3) := by decide +kernel
theorem dX6_opened_14 : decode cX6_opened 14 = .ok (.iconst 1, 1) := by decide +kernel
theorem dX6_opened_15 : decode cX6_opened 15 = .ok (.goto 4, 3) := by decide +kernel
theorem dX6_opened_18 : decode cX6_opened 18 = .ok (.iconst 0, 1) := by decide +kernel
theorem dX6_opened_19 : decode cX6_opened 19 = .ok (.istore_n 2, 1) := by decide +kernel
theorem dX6_opened_20 : decode cX6_opened 20 = .ok (.aload_n 0, 1) := by decide +kernel
theorem dX6_opened_21 : decode cX6_opened 21 = .ok (.getfield 146, 3) := by decide +kernel
theorem dX6_opened_24 : decode cX6_opened 24 = .ok (.bipush 6, 2) := by decide +kernel
theorem dX6_opened_26 : decode cX6_opened 26 = .ok (.if_icmp .ne 8, 3) := by decide +kernel
theorem dX6_opened_29 : decode cX6_opened 29 = .ok (.aload_n 0, 1) := by decide +kernel
theorem dX6_opened_30 : decode cX6_opened 30 = .ok (.invokevirtual 149, 3) := by decide +kernel
theorem dX6_opened_33 : decode cX6_opened 33 = .ok (.ireturn, 1) := by decide +kernel
theorem dX6_opened_34 : decode cX6_opened 34 = .ok (.aload_n 0, 1) := by decide +kernel
theorem dX6_opened_35 : decode cX6_opened 35 = .ok (.dup, 1) := by decide +kernel
theorem dX6_opened_36 : decode cX6_opened 36 = .ok (.getfield 146, 3) := by decide +kernel
theorem dX6_opened_39 : decode cX6_opened 39 = .ok (.iconst 1, 1) := by decide +kernel
theorem dX6_opened_40 : decode cX6_opened 40 = .ok (.iadd, 1) := by decide +kernel
theorem dX6_opened_41 : decode cX6_opened 41 = .ok (.putfield 146, 3) := by decide +kernel
theorem dX6_opened_44 : decode cX6_opened 44 = .ok (.aload_n 0, 1) := by decide +kernel
theorem dX6_opened_45 : decode cX6_opened 45 = .ok (.dup, 1) := by decide +kernel
theorem dX6_opened_46 : decode cX6_opened 46 = .ok (.getfield 131, 3) := by decide +kernel
theorem dX6_opened_49 : decode cX6_opened 49 = .ok (.iconst 1, 1) := by decide +kernel
theorem dX6_opened_50 : decode cX6_opened 50 = .ok (.iadd, 1) := by decide +kernel
theorem dX6_opened_51 : decode cX6_opened 51 = .ok (.putfield 131, 3) := by decide +kernel
theorem dX6_opened_54 : decode cX6_opened 54 = .ok (.iload_n 2, 1) := by decide +kernel
theorem dX6_opened_55 : decode cX6_opened 55 = .ok (.ifCond .eq 10, 3) := by decide +kernel
theorem dX6_opened_58 : decode cX6_opened 58 = .ok (.aload_n 0, 1) := by decide +kernel

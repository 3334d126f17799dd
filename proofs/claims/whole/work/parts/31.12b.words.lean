theorem cl_X2_21 : Cond.classLink "SpanKeeper$State" 21 "SpanKeeper$Formula" ∈ lw_g := gw 78 (by decide +kernel) rfl
theorem cl_X5_39 : Cond.classLink "SpanKeeper" 39 "[[J" ∈ lw_g := gw 225 (by decide +kernel) rfl
theorem fd_X0_29 : FD "SpanKeeper$Formula" 29 3 4 2 := ⟨RX3, TX3, 9, rfl, by decide, rfl, by decide, in_X3, gw 134 (by decide +kernel) rfl, rfl⟩
theorem fd_X5_90 : FD "SpanKeeper" 90 3 2 0 := ⟨RX3, TX3, 9, rfl, by decide, rfl, by decide, in_X3, gw 131 (by decide +kernel) rfl, rfl⟩
theorem fp_X0_15 : FP "SpanKeeper$Formula" 15 0 0 0 .int true := ⟨RX0, TX0, 10, tyX0, rfl, by decide, rfl, by decide, in_X0, gw 375 (by decide +kernel) rfl, rfl, tyX0_ok, nmX0, rfl, by decide +kernel, by decide⟩
theorem fp_X0_28 : FP "SpanKeeper$Formula" 28 0 1 2 (.array .int) true := ⟨RX0, TX0, 10, tyX0, rfl, by decide, rfl, by decide, in_X0, gw 378 (by decide +kernel) rfl, rfl, tyX0_ok, nmX0, rfl, by decide +kernel, by decide⟩
theorem fp_X0_32 : FP "SpanKeeper$Formula" 32 0 2 2 (.array .int) true := ⟨RX0, TX0, 10, tyX0, rfl, by decide, rfl, by decide, in_X0, gw 380 (by decide +kernel) rfl, rfl, tyX0_ok, nmX0, rfl, by decide +kernel, by decide⟩
theorem fp_X0_36 : FP "SpanKeeper$Formula" 36 0 3 2 (.array .int) true := ⟨RX0, TX0, 10, tyX0, rfl, by decide, rfl, by decide, in_X0, gw 382 (by decide +kernel) rfl, rfl, tyX0_ok, nmX0, rfl, by decide +kernel, by decide⟩
theorem fp_X0_40 : FP "SpanKeeper$Formula" 40 0 4 2 (.array .int) true := ⟨RX0, TX0, 10, tyX0, rfl, by decide, rfl, by decide, in_X0, gw 384 (by decide +kernel) rfl, rfl, tyX0_ok, nmX0, rfl, by decide +kernel, by decide⟩
theorem fp_X0_44 : FP "SpanKeeper$Formula" 44 0 5 2 (.array .int) true := ⟨RX0, TX0, 10, tyX0, rfl, by decide, rfl, by decide, in_X0, gw 386 (by decide +kernel) rfl, rfl, tyX0_ok, nmX0, rfl, by decide +kernel, by decide⟩
theorem fp_X0_49 : FP "SpanKeeper$Formula" 49 0 6 0 .int true := ⟨RX0, TX0, 10, tyX0, rfl, by decide, rfl, by decide, in_X0, gw 388 (by decide +kernel) rfl, rfl, tyX0_ok, nmX0, rfl, by decide +kernel, by decide⟩
theorem fp_X0_55 : FP "SpanKeeper$Formula" 55 0 7 0 .int true := ⟨RX0, TX0, 10, tyX0, rfl, by decide, rfl, by decide, in_X0, gw 390 (by decide +kernel) rfl, rfl, tyX0_ok, nmX0, rfl, by decide +kernel, by decide⟩
theorem fp_X0_66 : FP "SpanKeeper$Formula" 66 0 8 0 .int true := ⟨RX0, TX0, 10, tyX0, rfl, by decide, rfl, by decide, in_X0, gw 392 (by decide +kernel) rfl, rfl, tyX0_ok, nmX0, rfl, by decide +kernel, by decide⟩
theorem fp_X0_72 : FP "SpanKeeper$Formula" 72 0 9 0 .int true := ⟨RX0, TX0, 10, tyX0, rfl, by decide, rfl, by decide, in_X0, gw 394 (by decide +kernel) rfl, rfl, tyX0_ok, nmX0, rfl, by decide +kernel, by decide⟩
theorem fp_X1_13 : FP "SpanKeeper$SpanRow" 13 1 1 2 (.array .long) true := ⟨RX1, TX1, 3, tyX1, rfl, by decide, rfl, by decide, in_X1, gw 177 (by decide +kernel) rfl, rfl, tyX1_ok, nmX1, rfl, by decide +kernel, by decide⟩
theorem fp_X1_16 : FP "SpanKeeper$SpanRow" 16 1 2 2 (.array .boolean) true := ⟨RX1, TX1, 3, tyX1, rfl, by decide, rfl, by decide, in_X1, gw 179 (by decide +kernel) rfl, rfl, tyX1_ok, nmX1, rfl, by decide +kernel, by decide⟩
theorem fp_X1_7 : FP "SpanKeeper$SpanRow" 7 1 0 2 (.array .long) true := ⟨RX1, TX1, 3, tyX1, rfl, by decide, rfl, by decide, in_X1, gw 175 (by decide +kernel) rfl, rfl, tyX1_ok, nmX1, rfl, by decide +kernel, by decide⟩
theorem fp_X2_15 : FP "SpanKeeper$State" 15 2 1 2 (.array .int) true := ⟨RX2, TX2, 9, tyX2, rfl, by decide, rfl, by decide, in_X2, gw 85 (by decide +kernel) rfl, rfl, tyX2_ok, nmX2, rfl, by decide +kernel, by decide⟩
theorem fp_X2_18 : FP "SpanKeeper$State" 18 2 2 2 (.array .int) true := ⟨RX2, TX2, 9, tyX2, rfl, by decide, rfl, by decide, in_X2, gw 88 (by decide +kernel) rfl, rfl, tyX2_ok, nmX2, rfl, by decide +kernel, by decide⟩
theorem fp_X2_23 : FP "SpanKeeper$State" 23 2 3 2 (.array (.object "SpanKeeper$Formula")) true := ⟨RX2, TX2, 9, tyX2, rfl, by decide, rfl, by decide, in_X2, gw 89 (by decide +kernel) rfl, rfl, tyX2_ok, nmX2, rfl, by decide +kernel, by decide⟩
theorem fp_X2_31 : FP "SpanKeeper$State" 31 2 5 2 (.array .int) true := ⟨RX2, TX2, 9, tyX2, rfl, by decide, rfl, by decide, in_X2, gw 93 (by decide +kernel) rfl, rfl, tyX2_ok, nmX2, rfl, by decide +kernel, by decide⟩
theorem fp_X2_34 : FP "SpanKeeper$State" 34 2 6 2 (.array .int) true := ⟨RX2, TX2, 9, tyX2, rfl, by decide, rfl, by decide, in_X2, gw 95 (by decide +kernel) rfl, rfl, tyX2_ok, nmX2, rfl, by decide +kernel, by decide⟩
theorem fp_X2_37 : FP "SpanKeeper$State" 37 2 7 2 (.array .int) true := ⟨RX2, TX2, 9, tyX2, rfl, by decide, rfl, by decide, in_X2, gw 97 (by decide +kernel) rfl, rfl, tyX2_ok, nmX2, rfl, by decide +kernel, by decide⟩
theorem fp_X2_9 : FP "SpanKeeper$State" 9 2 0 2 (.array .int) true := ⟨RX2, TX2, 9, tyX2, rfl, by decide, rfl, by decide, in_X2, gw 83 (by decide +kernel) rfl, rfl, tyX2_ok, nmX2, rfl, by decide +kernel, by decide⟩
theorem fp_X3_22 : FP "SpanKeeper$Tape" 22 3 3 2 (.array .int) true := ⟨RX3, TX3, 9, tyX3, rfl, by decide, rfl, by decide, in_X3, gw 133 (by decide +kernel) rfl, rfl, tyX3_ok, nmX3, rfl, by decide +kernel, by decide⟩
theorem fp_X3_25 : FP "SpanKeeper$Tape" 25 3 4 2 (.array .int) true := ⟨RX3, TX3, 9, tyX3, rfl, by decide, rfl, by decide, in_X3, gw 135 (by decide +kernel) rfl, rfl, tyX3_ok, nmX3, rfl, by decide +kernel, by decide⟩
theorem fp_X3_28 : FP "SpanKeeper$Tape" 28 3 5 2 (.array .int) true := ⟨RX3, TX3, 9, tyX3, rfl, by decide, rfl, by decide, in_X3, gw 136 (by decide +kernel) rfl, rfl, tyX3_ok, nmX3, rfl, by decide +kernel, by decide⟩
theorem fp_X3_31 : FP "SpanKeeper$Tape" 31 3 6 2 (.array .int) true := ⟨RX3, TX3, 9, tyX3, rfl, by decide, rfl, by decide, in_X3, gw 138 (by decide +kernel) rfl, rfl, tyX3_ok, nmX3, rfl, by decide +kernel, by decide⟩
theorem fp_X3_34 : FP "SpanKeeper$Tape" 34 3 7 2 (.array .int) true := ⟨RX3, TX3, 9, tyX3, rfl, by decide, rfl, by decide, in_X3, gw 140 (by decide +kernel) rfl, rfl, tyX3_ok, nmX3, rfl, by decide +kernel, by decide⟩
theorem fp_X3_9 : FP "SpanKeeper$Tape" 9 3 0 2 (.array .int) true := ⟨RX3, TX3, 9, tyX3, rfl, by decide, rfl, by decide, in_X3, gw 127 (by decide +kernel) rfl, rfl, tyX3_ok, nmX3, rfl, by decide +kernel, by decide⟩
theorem fp_X4_15 : FP "SpanKeeper$Thought" 15 4 1 2 (.array .int) true := ⟨RX4, TX4, 10, tyX4, rfl, by decide, rfl, by decide, in_X4, gw 191 (by decide +kernel) rfl, rfl, tyX4_ok, nmX4, rfl, by decide +kernel, by decide⟩
theorem fp_X4_29 : FP "SpanKeeper$Thought" 29 4 5 2 (.array .int) true := ⟨RX4, TX4, 10, tyX4, rfl, by decide, rfl, by decide, in_X4, gw 198 (by decide +kernel) rfl, rfl, tyX4_ok, nmX4, rfl, by decide +kernel, by decide⟩
theorem fp_X4_37 : FP "SpanKeeper$Thought" 37 4 6 2 (.object "SpanKeeper$SpanRow") true := ⟨RX4, TX4, 10, tyX4, rfl, by decide, rfl, by decide, in_X4, gw 200 (by decide +kernel) rfl, rfl, tyX4_ok, nmX4, rfl, by decide +kernel, by decide⟩
theorem fp_X4_41 : FP "SpanKeeper$Thought" 41 4 7 2 (.object "SpanKeeper$SpanRow") true := ⟨RX4, TX4, 10, tyX4, rfl, by decide, rfl, by decide, in_X4, gw 201 (by decide +kernel) rfl, rfl, tyX4_ok, nmX4, rfl, by decide +kernel, by decide⟩
theorem fp_X4_44 : FP "SpanKeeper$Thought" 44 4 8 2 (.object "SpanKeeper$SpanRow") true := ⟨RX4, TX4, 10, tyX4, rfl, by decide, rfl, by decide, in_X4, gw 202 (by decide +kernel) rfl, rfl, tyX4_ok, nmX4, rfl, by decide +kernel, by decide⟩
theorem fp_X4_47 : FP "SpanKeeper$Thought" 47 4 9 2 (.array .long) true := ⟨RX4, TX4, 10, tyX4, rfl, by decide, rfl, by decide, in_X4, gw 203 (by decide +kernel) rfl, rfl, tyX4_ok, nmX4, rfl, by decide +kernel, by decide⟩
theorem fp_X4_9 : FP "SpanKeeper$Thought" 9 4 0 2 (.array .int) true := ⟨RX4, TX4, 10, tyX4, rfl, by decide, rfl, by decide, in_X4, gw 190 (by decide +kernel) rfl, rfl, tyX4_ok, nmX4, rfl, by decide +kernel, by decide⟩
theorem fp_X5_14 : FP "SpanKeeper" 14 5 0 2 (.object "SpanKeeper$State") true := ⟨RX5, TX5, 9, tyX5, rfl, by decide, rfl, by decide, in_X5, gw 228 (by decide +kernel) rfl, rfl, tyX5_ok, nmX5, rfl, by decide +kernel, by decide⟩
theorem fp_X5_18 : FP "SpanKeeper" 18 5 1 2 (.object "SpanKeeper$State") true := ⟨RX5, TX5, 9, tyX5, rfl, by decide, rfl, by decide, in_X5, gw 229 (by decide +kernel) rfl, rfl, tyX5_ok, nmX5, rfl, by decide +kernel, by decide⟩
theorem fp_X5_28 : FP "SpanKeeper" 28 5 3 2 (.object "SpanKeeper$Tape") true := ⟨RX5, TX5, 9, tyX5, rfl, by decide, rfl, by decide, in_X5, gw 231 (by decide +kernel) rfl, rfl, tyX5_ok, nmX5, rfl, by decide +kernel, by decide⟩
theorem fp_X5_35 : FP "SpanKeeper" 35 5 4 2 (.object "SpanKeeper$Thought") true := ⟨RX5, TX5, 9, tyX5, rfl, by decide, rfl, by decide, in_X5, gw 232 (by decide +kernel) rfl, rfl, tyX5_ok, nmX5, rfl, by decide +kernel, by decide⟩
theorem fp_X5_41 : FP "SpanKeeper" 41 5 5 2 (.array (.array .long)) true := ⟨RX5, TX5, 9, tyX5, rfl, by decide, rfl, by decide, in_X5, gw 233 (by decide +kernel) rfl, rfl, tyX5_ok, nmX5, rfl, by decide +kernel, by decide⟩
theorem fp_X5_44 : FP "SpanKeeper" 44 5 6 2 (.array .int) true := ⟨RX5, TX5, 9, tyX5, rfl, by decide, rfl, by decide, in_X5, gw 234 (by decide +kernel) rfl, rfl, tyX5_ok, nmX5, rfl, by decide +kernel, by decide⟩
theorem fp_X5_48 : FP "SpanKeeper" 48 5 7 2 (.array .int) true := ⟨RX5, TX5, 9, tyX5, rfl, by decide, rfl, by decide, in_X5, gw 235 (by decide +kernel) rfl, rfl, tyX5_ok, nmX5, rfl, by decide +kernel, by decide⟩
theorem fp_X5_83 : FP "SpanKeeper" 83 3 1 0 .int false := ⟨RX3, TX3, 9, tyX3, rfl, by decide, rfl, by decide, in_X3, gw 129 (by decide +kernel) rfl, rfl, tyX3_ok, nmX3, rfl, by decide +kernel, by decide⟩
theorem fp_X6_11 : FP "SpanKeeperModel" 11 6 0 2 (.array .int) true := ⟨RX6, TX6, 42, tyX6, rfl, by decide, rfl, by decide, in_X6, gw 682 (by decide +kernel) rfl, rfl, tyX6_ok, nmX6, rfl, by decide +kernel, by decide⟩
theorem fp_X6_15 : FP "SpanKeeperModel" 15 6 1 2 (.array .int) true := ⟨RX6, TX6, 42, tyX6, rfl, by decide, rfl, by decide, in_X6, gw 683 (by decide +kernel) rfl, rfl, tyX6_ok, nmX6, rfl, by decide +kernel, by decide⟩
theorem fp_X6_18 : FP "SpanKeeperModel" 18 6 2 2 (.array .int) true := ⟨RX6, TX6, 42, tyX6, rfl, by decide, rfl, by decide, in_X6, gw 684 (by decide +kernel) rfl, rfl, tyX6_ok, nmX6, rfl, by decide +kernel, by decide⟩
theorem fp_X6_21 : FP "SpanKeeperModel" 21 6 3 2 (.array .int) true := ⟨RX6, TX6, 42, tyX6, rfl, by decide, rfl, by decide, in_X6, gw 685 (by decide +kernel) rfl, rfl, tyX6_ok, nmX6, rfl, by decide +kernel, by decide⟩
theorem fp_X6_24 : FP "SpanKeeperModel" 24 6 4 2 (.array .int) true := ⟨RX6, TX6, 42, tyX6, rfl, by decide, rfl, by decide, in_X6, gw 686 (by decide +kernel) rfl, rfl, tyX6_ok, nmX6, rfl, by decide +kernel, by decide⟩
theorem fp_X6_27 : FP "SpanKeeperModel" 27 6 5 2 (.array .int) true := ⟨RX6, TX6, 42, tyX6, rfl, by decide, rfl, by decide, in_X6, gw 687 (by decide +kernel) rfl, rfl, tyX6_ok, nmX6, rfl, by decide +kernel, by decide⟩
theorem fp_X6_30 : FP "SpanKeeperModel" 30 6 6 2 (.array .int) true := ⟨RX6, TX6, 42, tyX6, rfl, by decide, rfl, by decide, in_X6, gw 688 (by decide +kernel) rfl, rfl, tyX6_ok, nmX6, rfl, by decide +kernel, by decide⟩
theorem fp_X6_33 : FP "SpanKeeperModel" 33 6 8 2 (.array .int) true := ⟨RX6, TX6, 42, tyX6, rfl, by decide, rfl, by decide, in_X6, gw 690 (by decide +kernel) rfl, rfl, tyX6_ok, nmX6, rfl, by decide +kernel, by decide⟩
theorem fp_X6_36 : FP "SpanKeeperModel" 36 6 9 2 (.array .int) true := ⟨RX6, TX6, 42, tyX6, rfl, by decide, rfl, by decide, in_X6, gw 691 (by decide +kernel) rfl, rfl, tyX6_ok, nmX6, rfl, by decide +kernel, by decide⟩
theorem fp_X6_39 : FP "SpanKeeperModel" 39 6 10 2 (.array .int) true := ⟨RX6, TX6, 42, tyX6, rfl, by decide, rfl, by decide, in_X6, gw 692 (by decide +kernel) rfl, rfl, tyX6_ok, nmX6, rfl, by decide +kernel, by decide⟩
theorem fp_X6_42 : FP "SpanKeeperModel" 42 6 11 2 (.array .int) true := ⟨RX6, TX6, 42, tyX6, rfl, by decide, rfl, by decide, in_X6, gw 693 (by decide +kernel) rfl, rfl, tyX6_ok, nmX6, rfl, by decide +kernel, by decide⟩
theorem fp_X6_45 : FP "SpanKeeperModel" 45 6 12 2 (.array .int) true := ⟨RX6, TX6, 42, tyX6, rfl, by decide, rfl, by decide, in_X6, gw 694 (by decide +kernel) rfl, rfl, tyX6_ok, nmX6, rfl, by decide +kernel, by decide⟩
theorem fp_X6_48 : FP "SpanKeeperModel" 48 6 15 2 (.array .int) true := ⟨RX6, TX6, 42, tyX6, rfl, by decide, rfl, by decide, in_X6, gw 697 (by decide +kernel) rfl, rfl, tyX6_ok, nmX6, rfl, by decide +kernel, by decide⟩
theorem fp_X6_51 : FP "SpanKeeperModel" 51 6 21 2 (.array .int) true := ⟨RX6, TX6, 42, tyX6, rfl, by decide, rfl, by decide, in_X6, gw 703 (by decide +kernel) rfl, rfl, tyX6_ok, nmX6, rfl, by decide +kernel, by decide⟩
theorem fp_X6_54 : FP "SpanKeeperModel" 54 6 22 2 (.array .int) true := ⟨RX6, TX6, 42, tyX6, rfl, by decide, rfl, by decide, in_X6, gw 704 (by decide +kernel) rfl, rfl, tyX6_ok, nmX6, rfl, by decide +kernel, by decide⟩
theorem fp_X6_57 : FP "SpanKeeperModel" 57 6 23 2 (.array .long) true := ⟨RX6, TX6, 42, tyX6, rfl, by decide, rfl, by decide, in_X6, gw 705 (by decide +kernel) rfl, rfl, tyX6_ok, nmX6, rfl, by decide +kernel, by decide⟩
theorem fp_X6_61 : FP "SpanKeeperModel" 61 6 24 2 (.array .long) true := ⟨RX6, TX6, 42, tyX6, rfl, by decide, rfl, by decide, in_X6, gw 706 (by decide +kernel) rfl, rfl, tyX6_ok, nmX6, rfl, by decide +kernel, by decide⟩
theorem fp_X6_64 : FP "SpanKeeperModel" 64 6 25 2 (.array .boolean) true := ⟨RX6, TX6, 42, tyX6, rfl, by decide, rfl, by decide, in_X6, gw 707 (by decide +kernel) rfl, rfl, tyX6_ok, nmX6, rfl, by decide +kernel, by decide⟩
theorem fp_X6_68 : FP "SpanKeeperModel" 68 6 28 2 (.array .int) true := ⟨RX6, TX6, 42, tyX6, rfl, by decide, rfl, by decide, in_X6, gw 710 (by decide +kernel) rfl, rfl, tyX6_ok, nmX6, rfl, by decide +kernel, by decide⟩
theorem fp_X6_71 : FP "SpanKeeperModel" 71 6 30 2 (.array .long) true := ⟨RX6, TX6, 42, tyX6, rfl, by decide, rfl, by decide, in_X6, gw 712 (by decide +kernel) rfl, rfl, tyX6_ok, nmX6, rfl, by decide +kernel, by decide⟩
theorem fp_X6_74 : FP "SpanKeeperModel" 74 6 31 2 (.array .long) true := ⟨RX6, TX6, 42, tyX6, rfl, by decide, rfl, by decide, in_X6, gw 713 (by decide +kernel) rfl, rfl, tyX6_ok, nmX6, rfl, by decide +kernel, by decide⟩
theorem fp_X6_77 : FP "SpanKeeperModel" 77 6 32 2 (.array .int) true := ⟨RX6, TX6, 42, tyX6, rfl, by decide, rfl, by decide, in_X6, gw 714 (by decide +kernel) rfl, rfl, tyX6_ok, nmX6, rfl, by decide +kernel, by decide⟩
theorem fp_X6_80 : FP "SpanKeeperModel" 80 6 35 2 (.array .int) true := ⟨RX6, TX6, 42, tyX6, rfl, by decide, rfl, by decide, in_X6, gw 717 (by decide +kernel) rfl, rfl, tyX6_ok, nmX6, rfl, by decide +kernel, by decide⟩
theorem fp_X6_83 : FP "SpanKeeperModel" 83 6 37 2 (.array .int) true := ⟨RX6, TX6, 42, tyX6, rfl, by decide, rfl, by decide, in_X6, gw 719 (by decide +kernel) rfl, rfl, tyX6_ok, nmX6, rfl, by decide +kernel, by decide⟩
theorem fp_X6_86 : FP "SpanKeeperModel" 86 6 39 2 (.array .int) true := ⟨RX6, TX6, 42, tyX6, rfl, by decide, rfl, by decide, in_X6, gw 721 (by decide +kernel) rfl, rfl, tyX6_ok, nmX6, rfl, by decide +kernel, by decide⟩
theorem fp_X6_89 : FP "SpanKeeperModel" 89 6 40 2 (.array .int) true := ⟨RX6, TX6, 42, tyX6, rfl, by decide, rfl, by decide, in_X6, gw 722 (by decide +kernel) rfl, rfl, tyX6_ok, nmX6, rfl, by decide +kernel, by decide⟩
theorem fp_X6_92 : FP "SpanKeeperModel" 92 6 41 2 (.array .long) true := ⟨RX6, TX6, 42, tyX6, rfl, by decide, rfl, by decide, in_X6, gw 723 (by decide +kernel) rfl, rfl, tyX6_ok, nmX6, rfl, by decide +kernel, by decide⟩
set_option maxRecDepth 100000 in
theorem mk_J7_copyOf_59c91 : MK yJ7_copyOf_59c91 cJ7_copyOf_59c91 3 (some (.array .int)) 2 := ⟨gw 337 rfl rfl, gw 56 (by decide +kernel) rfl, by decide +kernel, by decide +kernel, by decide +kernel⟩
set_option maxRecDepth 100000 in
theorem mk_J7_fill_53178 : MK yJ7_fill_53178 cJ7_fill_53178 4 none 2 := ⟨gw 82 rfl rfl, gw 56 (by decide +kernel) rfl, by decide +kernel, by decide +kernel, by decide +kernel⟩
set_option maxRecDepth 100000 in
theorem mk_X0_areAlike : MK yX0_areAlike cX0_areAlike 4 (some .boolean) 4 := ⟨gw 368 rfl rfl, gw 61 (by decide +kernel) rfl, by decide +kernel, by decide +kernel, by decide +kernel⟩
set_option maxRecDepth 100000 in
theorem mk_X0_depthOf : MK yX0_depthOf cX0_depthOf 4 (some .int) 1 := ⟨gw 356 rfl rfl, gw 61 (by decide +kernel) rfl, by decide +kernel, by decide +kernel, by decide +kernel⟩
set_option maxRecDepth 100000 in
theorem mk_X0_init : MK yX0_init cX0_init 3 none 1 := ⟨gw 333 rfl rfl, gw 61 (by decide +kernel) rfl, by decide +kernel, by decide +kernel, by decide +kernel⟩
set_option maxRecDepth 100000 in
theorem mk_X0_likenessIn : MK yX0_likenessIn cX0_likenessIn 4 (some (.array .int)) 1 := ⟨gw 365 rfl rfl, gw 61 (by decide +kernel) rfl, by decide +kernel, by decide +kernel, by decide +kernel⟩
set_option maxRecDepth 100000 in
theorem mk_X0_mostAlikeIn : MK yX0_mostAlikeIn cX0_mostAlikeIn 7 (some .int) 1 := ⟨gw 374 rfl rfl, gw 61 (by decide +kernel) rfl, by decide +kernel, by decide +kernel, by decide +kernel⟩
set_option maxRecDepth 100000 in
theorem mk_X0_sourcesIn : MK yX0_sourcesIn cX0_sourcesIn 3 (some .int) 1 := ⟨gw 353 rfl rfl, gw 61 (by decide +kernel) rfl, by decide +kernel, by decide +kernel, by decide +kernel⟩
set_option maxRecDepth 100000 in
theorem mk_X0_unlikeIn : MK yX0_unlikeIn cX0_unlikeIn 3 (some .int) 1 := ⟨gw 371 rfl rfl, gw 61 (by decide +kernel) rfl, by decide +kernel, by decide +kernel, by decide +kernel⟩
set_option maxRecDepth 100000 in
theorem mk_X1_init : MK yX1_init cX1_init 2 none 1 := ⟨gw 173 rfl rfl, gw 59 (by decide +kernel) rfl, by decide +kernel, by decide +kernel, by decide +kernel⟩
set_option maxRecDepth 100000 in
theorem mk_X2_init : MK yX2_init cX2_init 1 none 0 := ⟨gw 76 rfl rfl, gw 55 (by decide +kernel) rfl, by decide +kernel, by decide +kernel, by decide +kernel⟩
set_option maxRecDepth 100000 in
theorem mk_X3_init : MK yX3_init cX3_init 1 none 0 := ⟨gw 125 rfl rfl, gw 57 (by decide +kernel) rfl, by decide +kernel, by decide +kernel, by decide +kernel⟩
set_option maxRecDepth 100000 in
theorem mk_X3_readFormula : MK yX3_readFormula cX3_readFormula 2 (some (.object "SpanKeeper$Formula")) 0 := ⟨gw 297 rfl rfl, gw 57 (by decide +kernel) rfl, by decide +kernel, by decide +kernel, by decide +kernel⟩
set_option maxRecDepth 100000 in
theorem mk_X4_init : MK yX4_init cX4_init 1 none 0 := ⟨gw 167 rfl rfl, gw 58 (by decide +kernel) rfl, by decide +kernel, by decide +kernel, by decide +kernel⟩
theorem ml_J7_150 : Cond.methodLink "java/util/Arrays" 150 ⟨"java/lang/System", "arraycopy", "(Ljava/lang/Object;ILjava/lang/Object;II)V"⟩ ∈ lw_g := gw 348 (by decide +kernel) rfl
theorem ml_J7_304 : Cond.methodLink "java/util/Arrays" 304 ⟨"java/lang/Math", "min", "(II)I"⟩ ∈ lw_g := gw 345 (by decide +kernel) rfl
theorem ml_X0_22 : Cond.methodLink "SpanKeeper$Formula" 22 ⟨"java/util/Arrays", "copyOf", "([II)[I"⟩ ∈ lw_g := gw 335 (by decide +kernel) rfl
theorem ml_X0_3 : Cond.methodLink "SpanKeeper$Formula" 3 ⟨"java/lang/Object", "<init>", "()V"⟩ ∈ lw_g := gw 334 (by decide +kernel) rfl
theorem ml_X0_45 : Cond.methodLink "SpanKeeper$Formula" 45 ⟨"SpanKeeper$Formula", "sourcesIn", "(LSpanKeeper$Tape;)I"⟩ ∈ lw_g := gw 351 (by decide +kernel) rfl
theorem ml_X0_52 : Cond.methodLink "SpanKeeper$Formula" 52 ⟨"SpanKeeper$Formula", "depthOf", "(LSpanKeeper$Tape;)I"⟩ ∈ lw_g := gw 354 (by decide +kernel) rfl
theorem ml_X0_58 : Cond.methodLink "SpanKeeper$Formula" 58 ⟨"SpanKeeper$Formula", "likenessIn", "(LSpanKeeper$Tape;)[I"⟩ ∈ lw_g := gw 363 (by decide +kernel) rfl
theorem ml_X0_62 : Cond.methodLink "SpanKeeper$Formula" 62 ⟨"SpanKeeper$Formula", "unlikeIn", "([I)I"⟩ ∈ lw_g := gw 369 (by decide +kernel) rfl
theorem ml_X0_69 : Cond.methodLink "SpanKeeper$Formula" 69 ⟨"SpanKeeper$Formula", "mostAlikeIn", "([I)I"⟩ ∈ lw_g := gw 372 (by decide +kernel) rfl
theorem ml_X0_79 : Cond.methodLink "SpanKeeper$Formula" 79 ⟨"java/lang/Math", "max", "(II)I"⟩ ∈ lw_g := gw 360 (by decide +kernel) rfl
theorem ml_X0_85 : Cond.methodLink "SpanKeeper$Formula" 85 ⟨"SpanKeeper$Formula", "areAlike", "(LSpanKeeper$Tape;[III)Z"⟩ ∈ lw_g := gw 366 (by decide +kernel) rfl
theorem ml_X1_1 : Cond.methodLink "SpanKeeper$SpanRow" 1 ⟨"java/lang/Object", "<init>", "()V"⟩ ∈ lw_g := gw 174 (by decide +kernel) rfl
theorem ml_X2_3 : Cond.methodLink "SpanKeeper$State" 3 ⟨"java/lang/Object", "<init>", "()V"⟩ ∈ lw_g := gw 77 (by decide +kernel) rfl
theorem ml_X2_43 : Cond.methodLink "SpanKeeper$State" 43 ⟨"java/util/Arrays", "fill", "([II)V"⟩ ∈ lw_g := gw 80 (by decide +kernel) rfl
theorem ml_X3_3 : Cond.methodLink "SpanKeeper$Tape" 3 ⟨"java/lang/Object", "<init>", "()V"⟩ ∈ lw_g := gw 126 (by decide +kernel) rfl
theorem ml_X3_46 : Cond.methodLink "SpanKeeper$Tape" 46 ⟨"SpanKeeper$Formula", "<init>", "(LSpanKeeper$Tape;)V"⟩ ∈ lw_g := gw 331 (by decide +kernel) rfl
theorem ml_X4_3 : Cond.methodLink "SpanKeeper$Thought" 3 ⟨"java/lang/Object", "<init>", "()V"⟩ ∈ lw_g := gw 168 (by decide +kernel) rfl
theorem ml_X4_34 : Cond.methodLink "SpanKeeper$Thought" 34 ⟨"SpanKeeper$SpanRow", "<init>", "(I)V"⟩ ∈ lw_g := gw 171 (by decide +kernel) rfl
theorem ml_X5_13 : Cond.methodLink "SpanKeeper" 13 ⟨"SpanKeeper$State", "<init>", "()V"⟩ ∈ lw_g := gw 74 (by decide +kernel) rfl
theorem ml_X5_5 : Cond.methodLink "SpanKeeper" 5 ⟨"java/lang/Object", "<init>", "()V"⟩ ∈ lw_g := gw 69 (by decide +kernel) rfl
theorem ml_X5_55 : Cond.methodLink "SpanKeeper" 55 ⟨"java/util/Arrays", "fill", "([II)V"⟩ ∈ lw_g := gw 227 (by decide +kernel) rfl
theorem ml_X5_86 : Cond.methodLink "SpanKeeper" 86 ⟨"SpanKeeper$Tape", "readFormula", "()LSpanKeeper$Formula;"⟩ ∈ lw_g := gw 294 (by decide +kernel) rfl
theorem ml_X6_3 : Cond.methodLink "SpanKeeperModel" 3 ⟨"java/lang/Object", "<init>", "()V"⟩ ∈ lw_g := gw 681 (by decide +kernel) rfl
theorem mn_X5_27 : Cond.methodLinkNest "SpanKeeper" 27 ⟨"SpanKeeper$Tape", "<init>", "()V"⟩ "SpanKeeper" ∈ lw_bad := by decide +kernel
theorem mn_X5_34 : Cond.methodLinkNest "SpanKeeper" 34 ⟨"SpanKeeper$Thought", "<init>", "()V"⟩ "SpanKeeper" ∈ lw_bad := by decide +kernel
theorem ms_J7_copyOf_59c91 : Cond.static yJ7_copyOf_59c91 ∈ lw_g := gw 336 (by decide +kernel) rfl
theorem ms_J7_fill_53178 : Cond.static yJ7_fill_53178 ∈ lw_g := gw 81 (by decide +kernel) rfl
theorem ms_X0_areAlike : Cond.static yX0_areAlike ∈ lw_g := gw 367 (by decide +kernel) rfl
theorem ms_X0_depthOf : Cond.static yX0_depthOf ∈ lw_g := gw 355 (by decide +kernel) rfl
theorem ms_X0_likenessIn : Cond.static yX0_likenessIn ∈ lw_g := gw 364 (by decide +kernel) rfl
theorem ms_X0_mostAlikeIn : Cond.static yX0_mostAlikeIn ∈ lw_g := gw 373 (by decide +kernel) rfl
theorem ms_X0_sourcesIn : Cond.static yX0_sourcesIn ∈ lw_g := gw 352 (by decide +kernel) rfl
theorem ms_X0_unlikeIn : Cond.static yX0_unlikeIn ∈ lw_g := gw 370 (by decide +kernel) rfl
theorem mv_X0_init : yX0_init.name = "<init>" ∧ Cond.instanceMethod yX0_init ∈ lw_g := ⟨rfl, gw 332 (by decide +kernel) rfl⟩
theorem mv_X1_init : yX1_init.name = "<init>" ∧ Cond.instanceMethod yX1_init ∈ lw_g := ⟨rfl, gw 172 (by decide +kernel) rfl⟩
theorem mv_X2_init : yX2_init.name = "<init>" ∧ Cond.instanceMethod yX2_init ∈ lw_g := ⟨rfl, gw 75 (by decide +kernel) rfl⟩
theorem mv_X3_init : yX3_init.name = "<init>" ∧ Cond.instanceMethod yX3_init ∈ lw_g := ⟨rfl, gw 124 (by decide +kernel) rfl⟩
theorem mv_X3_readFormula : MV yX3_readFormula := ⟨gw 295 (by decide +kernel) rfl, gw 296 (by decide +kernel) rfl⟩
theorem mv_X4_init : yX4_init.name = "<init>" ∧ Cond.instanceMethod yX4_init ∈ lw_g := ⟨rfl, gw 166 (by decide +kernel) rfl⟩
theorem nf_X3_44 : NF "SpanKeeper$Tape" 44 0 10 := ⟨RX0, TX0, tyX0, rfl, by decide, in_X0, tyX0_ok, gw 329 (by decide +kernel) rfl, gw 330 (by decide +kernel) rfl, gw 61 (by decide +kernel) rfl, fun j hj => by (repeat (first | omega | (cases j with | zero => rfl | succ j => ?_)))⟩
theorem nf_X4_32 : NF "SpanKeeper$Thought" 32 1 3 := ⟨RX1, TX1, tyX1, rfl, by decide, in_X1, tyX1_ok, gw 169 (by decide +kernel) rfl, gw 170 (by decide +kernel) rfl, gw 59 (by decide +kernel) rfl, fun j hj => by (repeat (first | omega | (cases j with | zero => rfl | succ j => ?_)))⟩
theorem nf_X5_11 : NF "SpanKeeper" 11 2 9 := ⟨RX2, TX2, tyX2, rfl, by decide, in_X2, tyX2_ok, gw 72 (by decide +kernel) rfl, gw 73 (by decide +kernel) rfl, gw 55 (by decide +kernel) rfl, fun j hj => by (repeat (first | omega | (cases j with | zero => rfl | succ j => ?_)))⟩
theorem nf_X5_25 : NF "SpanKeeper" 25 3 9 := ⟨RX3, TX3, tyX3, rfl, by decide, in_X3, tyX3_ok, gw 121 (by decide +kernel) rfl, gw 122 (by decide +kernel) rfl, gw 57 (by decide +kernel) rfl, fun j hj => by (repeat (first | omega | (cases j with | zero => rfl | succ j => ?_)))⟩
theorem nf_X5_32 : NF "SpanKeeper" 32 4 10 := ⟨RX4, TX4, tyX4, rfl, by decide, in_X4, tyX4_ok, gw 163 (by decide +kernel) rfl, gw 164 (by decide +kernel) rfl, gw 58 (by decide +kernel) rfl, fun j hj => by (repeat (first | omega | (cases j with | zero => rfl | succ j => ?_)))⟩
theorem dX0_init_0 : decode cX0_init 0 = .ok (.aload_n 0, 1) := by decide +kernel
theorem dX0_init_1 : decode cX0_init 1 = .ok (.invokespecial 3, 3) := by decide +kernel
theorem dX0_init_4 : decode cX0_init 4 = .ok (.aload_n 0, 1) := by decide +kernel
theorem dX0_init_5 : decode cX0_init 5 = .ok (.aload_n 1, 1) := by decide +kernel
theorem dX0_init_6 : decode cX0_init 6 = .ok (.getfield 9, 3) := by decide +kernel
theorem dX0_init_9 : decode cX0_init 9 = .ok (.putfield 15, 3) := by decide +kernel
theorem dX0_init_12 : decode cX0_init 12 = .ok (.aload_n 0, 1) := by decide +kernel
theorem dX0_init_13 : decode cX0_init 13 = .ok (.aload_n 1, 1) := by decide +kernel
theorem dX0_init_14 : decode cX0_init 14 = .ok (.getfield 18, 3) := by decide +kernel
theorem dX0_init_17 : decode cX0_init 17 = .ok (.aload_n 0, 1) := by decide +kernel
theorem dX0_init_18 : decode cX0_init 18 = .ok (.getfield 15, 3) := by decide +kernel
theorem dX0_init_21 : decode cX0_init 21 = .ok (.invokestatic 22, 3) := by decide +kernel
theorem dX0_init_24 : decode cX0_init 24 = .ok (.putfield 28, 3) := by decide +kernel
theorem dX0_init_27 : decode cX0_init 27 = .ok (.aload_n 0, 1) := by decide +kernel
theorem dX0_init_28 : decode cX0_init 28 = .ok (.aload_n 1, 1) := by decide +kernel
theorem dX0_init_29 : decode cX0_init 29 = .ok (.getfield 29, 3) := by decide +kernel
theorem dX0_init_32 : decode cX0_init 32 = .ok (.aload_n 0, 1) := by decide +kernel
theorem dX0_init_33 : decode cX0_init 33 = .ok (.getfield 15, 3) := by decide +kernel
theorem dX0_init_36 : decode cX0_init 36 = .ok (.invokestatic 22, 3) := by decide +kernel
theorem dX0_init_39 : decode cX0_init 39 = .ok (.putfield 32, 3) := by decide +kernel
theorem dX0_init_42 : decode cX0_init 42 = .ok (.aload_n 0, 1) := by decide +kernel
theorem dX0_init_43 : decode cX0_init 43 = .ok (.aload_n 1, 1) := by decide +kernel
theorem dX0_init_44 : decode cX0_init 44 = .ok (.getfield 33, 3) := by decide +kernel
theorem dX0_init_47 : decode cX0_init 47 = .ok (.aload_n 0, 1) := by decide +kernel
theorem dX0_init_48 : decode cX0_init 48 = .ok (.getfield 15, 3) := by decide +kernel
theorem dX0_init_51 : decode cX0_init 51 = .ok (.invokestatic 22, 3) := by decide +kernel
theorem dX0_init_54 : decode cX0_init 54 = .ok (.putfield 36, 3) := by decide +kernel
theorem dX0_init_57 : decode cX0_init 57 = .ok (.aload_n 0, 1) := by decide +kernel
theorem dX0_init_58 : decode cX0_init 58 = .ok (.aload_n 1, 1) := by decide +kernel
theorem dX0_init_59 : decode cX0_init 59 = .ok (.getfield 37, 3) := by decide +kernel
theorem dX0_init_62 : decode cX0_init 62 = .ok (.aload_n 0, 1) := by decide +kernel
theorem dX0_init_63 : decode cX0_init 63 = .ok (.getfield 15, 3) := by decide +kernel
theorem dX0_init_66 : decode cX0_init 66 = .ok (.invokestatic 22, 3) := by decide +kernel
theorem dX0_init_69 : decode cX0_init 69 = .ok (.putfield 40, 3) := by decide +kernel
theorem dX0_init_72 : decode cX0_init 72 = .ok (.aload_n 0, 1) := by decide +kernel
theorem dX0_init_73 : decode cX0_init 73 = .ok (.aload_n 1, 1) := by decide +kernel
theorem dX0_init_74 : decode cX0_init 74 = .ok (.getfield 41, 3) := by decide +kernel
theorem dX0_init_77 : decode cX0_init 77 = .ok (.aload_n 0, 1) := by decide +kernel
theorem dX0_init_78 : decode cX0_init 78 = .ok (.getfield 15, 3) := by decide +kernel
theorem dX0_init_81 : decode cX0_init 81 = .ok (.invokestatic 22, 3) := by decide +kernel
theorem dX0_init_84 : decode cX0_init 84 = .ok (.putfield 44, 3) := by decide +kernel
theorem dX0_init_87 : decode cX0_init 87 = .ok (.aload_n 0, 1) := by decide +kernel
theorem dX0_init_88 : decode cX0_init 88 = .ok (.aload_n 1, 1) := by decide +kernel
theorem dX0_init_89 : decode cX0_init 89 = .ok (.invokestatic 45, 3) := by decide +kernel
theorem dX0_init_92 : decode cX0_init 92 = .ok (.putfield 49, 3) := by decide +kernel
theorem dX0_init_95 : decode cX0_init 95 = .ok (.aload_n 0, 1) := by decide +kernel
theorem dX0_init_96 : decode cX0_init 96 = .ok (.aload_n 1, 1) := by decide +kernel
theorem dX0_init_97 : decode cX0_init 97 = .ok (.invokestatic 52, 3) := by decide +kernel
theorem dX0_init_100 : decode cX0_init 100 = .ok (.putfield 55, 3) := by decide +kernel
theorem dX0_init_103 : decode cX0_init 103 = .ok (.aload_n 1, 1) := by decide +kernel
theorem dX0_init_104 : decode cX0_init 104 = .ok (.invokestatic 58, 3) := by decide +kernel
theorem dX0_init_107 : decode cX0_init 107 = .ok (.astore_n 2, 1) := by decide +kernel
theorem dX0_init_108 : decode cX0_init 108 = .ok (.aload_n 0, 1) := by decide +kernel
theorem dX0_init_109 : decode cX0_init 109 = .ok (.aload_n 2, 1) := by decide +kernel
theorem dX0_init_110 : decode cX0_init 110 = .ok (.invokestatic 62, 3) := by decide +kernel
theorem dX0_init_113 : decode cX0_init 113 = .ok (.putfield 66, 3) := by decide +kernel
theorem dX0_init_116 : decode cX0_init 116 = .ok (.aload_n 0, 1) := by decide +kernel
theorem dX0_init_117 : decode cX0_init 117 = .ok (.aload_n 2, 1) := by decide +kernel
theorem dX0_init_118 : decode cX0_init 118 = .ok (.invokestatic 69, 3) := by decide +kernel
theorem dX0_init_121 : decode cX0_init 121 = .ok (.putfield 72, 3) := by decide +kernel
theorem dX0_init_124 : decode cX0_init 124 = .ok (.return_, 1) := by decide +kernel
theorem dX0_depthOf_0 : decode cX0_depthOf 0 = .ok (.aload_n 0, 1) := by decide +kernel
theorem dX0_depthOf_1 : decode cX0_depthOf 1 = .ok (.getfield 9, 3) := by decide +kernel
theorem dX0_depthOf_4 : decode cX0_depthOf 4 = .ok (.newarray .int, 2) := by decide +kernel
theorem dX0_depthOf_6 : decode cX0_depthOf 6 = .ok (.astore_n 1, 1) := by decide +kernel
theorem dX0_depthOf_7 : decode cX0_depthOf 7 = .ok (.iconst 0, 1) := by decide +kernel
theorem dX0_depthOf_8 : decode cX0_depthOf 8 = .ok (.istore_n 2, 1) := by decide +kernel
theorem dX0_depthOf_9 : decode cX0_depthOf 9 = .ok (.iconst 0, 1) := by decide +kernel
theorem dX0_depthOf_10 : decode cX0_depthOf 10 = .ok (.istore_n 3, 1) := by decide +kernel
theorem dX0_depthOf_11 : decode cX0_depthOf 11 = .ok (.iload_n 3, 1) := by decide +kernel
theorem dX0_depthOf_12 : decode cX0_depthOf 12 = .ok (.aload_n 0, 1) := by decide +kernel
theorem dX0_depthOf_13 : decode cX0_depthOf 13 = .ok (.getfield 9, 3) := by decide +kernel
theorem dX0_depthOf_16 : decode cX0_depthOf 16 = .ok (.if_icmp .ge 53, 3) := by decide +kernel
theorem dX0_depthOf_19 : decode cX0_depthOf 19 = .ok (.aload_n 0, 1) := by decide +kernel
theorem dX0_depthOf_20 : decode cX0_depthOf 20 = .ok (.getfield 18, 3) := by decide +kernel
theorem dX0_depthOf_23 : decode cX0_depthOf 23 = .ok (.iload_n 3, 1) := by decide +kernel
theorem dX0_depthOf_24 : decode cX0_depthOf 24 = .ok (.iaload, 1) := by decide +kernel
theorem dX0_depthOf_25 : decode cX0_depthOf 25 = .ok (.invokestatic 75, 3) := by decide +kernel
theorem dX0_depthOf_28 : decode cX0_depthOf 28 = .ok (.ifCond .eq 27, 3) := by decide +kernel
theorem dX0_depthOf_31 : decode cX0_depthOf 31 = .ok (.aload_n 1, 1) := by decide +kernel
theorem dX0_depthOf_32 : decode cX0_depthOf 32 = .ok (.iload_n 3, 1) := by decide +kernel
theorem dX0_depthOf_33 : decode cX0_depthOf 33 = .ok (.iconst 1, 1) := by decide +kernel
theorem dX0_depthOf_34 : decode cX0_depthOf 34 = .ok (.aload_n 1, 1) := by decide +kernel
theorem dX0_depthOf_35 : decode cX0_depthOf 35 = .ok (.aload_n 0, 1) := by decide +kernel
theorem dX0_depthOf_36 : decode cX0_depthOf 36 = .ok (.getfield 33, 3) := by decide +kernel
theorem dX0_depthOf_39 : decode cX0_depthOf 39 = .ok (.iload_n 3, 1) := by decide +kernel
theorem dX0_depthOf_40 : decode cX0_depthOf 40 = .ok (.iaload, 1) := by decide +kernel
theorem dX0_depthOf_41 : decode cX0_depthOf 41 = .ok (.iaload, 1) := by decide +kernel
theorem dX0_depthOf_42 : decode cX0_depthOf 42 = .ok (.aload_n 1, 1) := by decide +kernel
theorem dX0_depthOf_43 : decode cX0_depthOf 43 = .ok (.aload_n 0, 1) := by decide +kernel
theorem dX0_depthOf_44 : decode cX0_depthOf 44 = .ok (.getfield 37, 3) := by decide +kernel
theorem dX0_depthOf_47 : decode cX0_depthOf 47 = .ok (.iload_n 3, 1) := by decide +kernel
theorem dX0_depthOf_48 : decode cX0_depthOf 48 = .ok (.iaload, 1) := by decide +kernel
theorem dX0_depthOf_49 : decode cX0_depthOf 49 = .ok (.iaload, 1) := by decide +kernel
theorem dX0_depthOf_50 : decode cX0_depthOf 50 = .ok (.invokestatic 79, 3) := by decide +kernel
theorem dX0_depthOf_53 : decode cX0_depthOf 53 = .ok (.iadd, 1) := by decide +kernel
theorem dX0_depthOf_54 : decode cX0_depthOf 54 = .ok (.iastore, 1) := by decide +kernel
theorem dX0_depthOf_55 : decode cX0_depthOf 55 = .ok (.iload_n 2, 1) := by decide +kernel
theorem dX0_depthOf_56 : decode cX0_depthOf 56 = .ok (.aload_n 1, 1) := by decide +kernel
theorem dX0_depthOf_57 : decode cX0_depthOf 57 = .ok (.iload_n 3, 1) := by decide +kernel
theorem dX0_depthOf_58 : decode cX0_depthOf 58 = .ok (.iaload, 1) := by decide +kernel
theorem dX0_depthOf_59 : decode cX0_depthOf 59 = .ok (.invokestatic 79, 3) := by decide +kernel
theorem dX0_depthOf_62 : decode cX0_depthOf 62 = .ok (.istore_n 2, 1) := by decide +kernel
theorem dX0_depthOf_63 : decode cX0_depthOf 63 = .ok (.iinc 3 1, 3) := by decide +kernel
theorem dX0_depthOf_66 : decode cX0_depthOf 66 = .ok (.goto (-55), 3) := by decide +kernel
theorem dX0_depthOf_69 : decode cX0_depthOf 69 = .ok (.iload_n 2, 1) := by decide +kernel
theorem dX0_depthOf_70 : decode cX0_depthOf 70 = .ok (.ireturn, 1) := by decide +kernel
theorem dX0_likenessIn_0 : decode cX0_likenessIn 0 = .ok (.aload_n 0, 1) := by decide +kernel
theorem dX0_likenessIn_1 : decode cX0_likenessIn 1 = .ok (.getfield 9, 3) := by decide +kernel
theorem dX0_likenessIn_4 : decode cX0_likenessIn 4 = .ok (.newarray .int, 2) := by decide +kernel
theorem dX0_likenessIn_6 : decode cX0_likenessIn 6 = .ok (.astore_n 1, 1) := by decide +kernel
theorem dX0_likenessIn_7 : decode cX0_likenessIn 7 = .ok (.iconst 0, 1) := by decide +kernel
theorem dX0_likenessIn_8 : decode cX0_likenessIn 8 = .ok (.istore_n 2, 1) := by decide +kernel
theorem dX0_likenessIn_9 : decode cX0_likenessIn 9 = .ok (.iload_n 2, 1) := by decide +kernel
theorem dX0_likenessIn_10 : decode cX0_likenessIn 10 = .ok (.aload_n 0, 1) := by decide +kernel
theorem dX0_likenessIn_11 : decode cX0_likenessIn 11 = .ok (.getfield 9, 3) := by decide +kernel
theorem dX0_likenessIn_14 : decode cX0_likenessIn 14 = .ok (.if_icmp .ge 36, 3) := by decide +kernel
theorem dX0_likenessIn_17 : decode cX0_likenessIn 17 = .ok (.iconst 0, 1) := by decide +kernel
theorem dX0_likenessIn_18 : decode cX0_likenessIn 18 = .ok (.istore_n 3, 1) := by decide +kernel
theorem dX0_likenessIn_19 : decode cX0_likenessIn 19 = .ok (.iload_n 3, 1) := by decide +kernel
theorem dX0_likenessIn_20 : decode cX0_likenessIn 20 = .ok (.iload_n 2, 1) := by decide +kernel
theorem dX0_likenessIn_21 : decode cX0_likenessIn 21 = .ok (.if_icmp .ge 19, 3) := by decide +kernel
theorem dX0_likenessIn_24 : decode cX0_likenessIn 24 = .ok (.aload_n 0, 1) := by decide +kernel
theorem dX0_likenessIn_25 : decode cX0_likenessIn 25 = .ok (.aload_n 1, 1) := by decide +kernel
theorem dX0_likenessIn_26 : decode cX0_likenessIn 26 = .ok (.iload_n 3, 1) := by decide +kernel
theorem dX0_likenessIn_27 : decode cX0_likenessIn 27 = .ok (.iload_n 2, 1) := by decide +kernel
theorem dX0_likenessIn_28 : decode cX0_likenessIn 28 = .ok (.invokestatic 85, 3) := by decide +kernel
theorem dX0_likenessIn_31 : decode cX0_likenessIn 31 = .ok (.ifCond .ne 9, 3) := by decide +kernel
theorem dX0_likenessIn_34 : decode cX0_likenessIn 34 = .ok (.iinc 3 1, 3) := by decide +kernel
theorem dX0_likenessIn_37 : decode cX0_likenessIn 37 = .ok (.goto (-18), 3) := by decide +kernel
theorem dX0_likenessIn_40 : decode cX0_likenessIn 40 = .ok (.aload_n 1, 1) := by decide +kernel
theorem dX0_likenessIn_41 : decode cX0_likenessIn 41 = .ok (.iload_n 2, 1) := by decide +kernel
theorem dX0_likenessIn_42 : decode cX0_likenessIn 42 = .ok (.iload_n 3, 1) := by decide +kernel
theorem dX0_likenessIn_43 : decode cX0_likenessIn 43 = .ok (.iastore, 1) := by decide +kernel
theorem dX0_likenessIn_44 : decode cX0_likenessIn 44 = .ok (.iinc 2 1, 3) := by decide +kernel
theorem dX0_likenessIn_47 : decode cX0_likenessIn 47 = .ok (.goto (-38), 3) := by decide +kernel
theorem dX0_likenessIn_50 : decode cX0_likenessIn 50 = .ok (.aload_n 1, 1) := by decide +kernel
theorem dX0_likenessIn_51 : decode cX0_likenessIn 51 = .ok (.areturn, 1) := by decide +kernel
theorem dX0_mostAlikeIn_0 : decode cX0_mostAlikeIn 0 = .ok (.aload_n 0, 1) := by decide +kernel
theorem dX0_mostAlikeIn_1 : decode cX0_mostAlikeIn 1 = .ok (.arraylength, 1) := by decide +kernel
theorem dX0_mostAlikeIn_2 : decode cX0_mostAlikeIn 2 = .ok (.newarray .int, 2) := by decide +kernel
theorem dX0_mostAlikeIn_4 : decode cX0_mostAlikeIn 4 = .ok (.astore_n 1, 1) := by decide +kernel
theorem dX0_mostAlikeIn_5 : decode cX0_mostAlikeIn 5 = .ok (.iconst 0, 1) := by decide +kernel
theorem dX0_mostAlikeIn_6 : decode cX0_mostAlikeIn 6 = .ok (.istore_n 2, 1) := by decide +kernel
theorem dX0_mostAlikeIn_7 : decode cX0_mostAlikeIn 7 = .ok (.aload_n 0, 1) := by decide +kernel
theorem dX0_mostAlikeIn_8 : decode cX0_mostAlikeIn 8 = .ok (.astore_n 3, 1) := by decide +kernel
theorem dX0_mostAlikeIn_9 : decode cX0_mostAlikeIn 9 = .ok (.aload_n 3, 1) := by decide +kernel
theorem dX0_mostAlikeIn_10 : decode cX0_mostAlikeIn 10 = .ok (.arraylength, 1) := by decide +kernel
theorem dX0_mostAlikeIn_11 : decode cX0_mostAlikeIn 11 = .ok (.istore 4, 2) := by decide +kernel
theorem dX0_mostAlikeIn_13 : decode cX0_mostAlikeIn 13 = .ok (.iconst 0, 1) := by decide +kernel
theorem dX0_mostAlikeIn_14 : decode cX0_mostAlikeIn 14 = .ok (.istore 5, 2) := by decide +kernel
theorem dX0_mostAlikeIn_16 : decode cX0_mostAlikeIn 16 = .ok (.iload 5, 2) := by decide +kernel
theorem dX0_mostAlikeIn_18 : decode cX0_mostAlikeIn 18 = .ok (.iload 4, 2) := by decide +kernel
theorem dX0_mostAlikeIn_20 : decode cX0_mostAlikeIn 20 = .ok (.if_icmp .ge 32, 3) := by decide +kernel
theorem dX0_mostAlikeIn_23 : decode cX0_mostAlikeIn 23 = .ok (.aload_n 3, 1) := by decide +kernel
theorem dX0_mostAlikeIn_24 : decode cX0_mostAlikeIn 24 = .ok (.iload 5, 2) := by decide +kernel
theorem dX0_mostAlikeIn_26 : decode cX0_mostAlikeIn 26 = .ok (.iaload, 1) := by decide +kernel
theorem dX0_mostAlikeIn_27 : decode cX0_mostAlikeIn 27 = .ok (.istore 6, 2) := by decide +kernel
theorem dX0_mostAlikeIn_29 : decode cX0_mostAlikeIn 29 = .ok (.aload_n 1, 1) := by decide +kernel
theorem dX0_mostAlikeIn_30 : decode cX0_mostAlikeIn 30 = .ok (.iload 6, 2) := by decide +kernel
theorem dX0_mostAlikeIn_32 : decode cX0_mostAlikeIn 32 = .ok (.dup2, 1) := by decide +kernel
theorem dX0_mostAlikeIn_33 : decode cX0_mostAlikeIn 33 = .ok (.iaload, 1) := by decide +kernel
theorem dX0_mostAlikeIn_34 : decode cX0_mostAlikeIn 34 = .ok (.iconst 1, 1) := by decide +kernel
theorem dX0_mostAlikeIn_35 : decode cX0_mostAlikeIn 35 = .ok (.iadd, 1) := by decide +kernel
theorem dX0_mostAlikeIn_36 : decode cX0_mostAlikeIn 36 = .ok (.iastore, 1) := by decide +kernel
theorem dX0_mostAlikeIn_37 : decode cX0_mostAlikeIn 37 = .ok (.iload_n 2, 1) := by decide +kernel
theorem dX0_mostAlikeIn_38 : decode cX0_mostAlikeIn 38 = .ok (.aload_n 1, 1) := by decide +kernel
theorem dX0_mostAlikeIn_39 : decode cX0_mostAlikeIn 39 = .ok (.iload 6, 2) := by decide +kernel
theorem dX0_mostAlikeIn_41 : decode cX0_mostAlikeIn 41 = .ok (.iaload, 1) := by decide +kernel
theorem dX0_mostAlikeIn_42 : decode cX0_mostAlikeIn 42 = .ok (.invokestatic 79, 3) := by decide +kernel
theorem dX0_mostAlikeIn_45 : decode cX0_mostAlikeIn 45 = .ok (.istore_n 2, 1) := by decide +kernel
theorem dX0_mostAlikeIn_46 : decode cX0_mostAlikeIn 46 = .ok (.iinc 5 1, 3) := by decide +kernel
theorem dX0_mostAlikeIn_49 : decode cX0_mostAlikeIn 49 = .ok (.goto (-33), 3) := by decide +kernel
theorem dX0_mostAlikeIn_52 : decode cX0_mostAlikeIn 52 = .ok (.iload_n 2, 1) := by decide +kernel
theorem dX0_mostAlikeIn_53 : decode cX0_mostAlikeIn 53 = .ok (.ireturn, 1) := by decide +kernel
theorem dX1_init_0 : decode cX1_init 0 = .ok (.aload_n 0, 1) := by decide +kernel
theorem dX1_init_1 : decode cX1_init 1 = .ok (.invokespecial 1, 3) := by decide +kernel
theorem dX1_init_4 : decode cX1_init 4 = .ok (.aload_n 0, 1) := by decide +kernel
theorem dX1_init_5 : decode cX1_init 5 = .ok (.iload_n 1, 1) := by decide +kernel
theorem dX1_init_6 : decode cX1_init 6 = .ok (.newarray .long, 2) := by decide +kernel
theorem dX1_init_8 : decode cX1_init 8 = .ok (.putfield 7, 3) := by decide +kernel
theorem dX1_init_11 : decode cX1_init 11 = .ok (.aload_n 0, 1) := by decide +kernel
theorem dX1_init_12 : decode cX1_init 12 = .ok (.iload_n 1, 1) := by decide +kernel
theorem dX1_init_13 : decode cX1_init 13 = .ok (.newarray .long, 2) := by decide +kernel
theorem dX1_init_15 : decode cX1_init 15 = .ok (.putfield 13, 3) := by decide +kernel
theorem dX1_init_18 : decode cX1_init 18 = .ok (.aload_n 0, 1) := by decide +kernel
theorem dX1_init_19 : decode cX1_init 19 = .ok (.iload_n 1, 1) := by decide +kernel
theorem dX1_init_20 : decode cX1_init 20 = .ok (.newarray .boolean, 2) := by decide +kernel
theorem dX1_init_22 : decode cX1_init 22 = .ok (.putfield 16, 3) := by decide +kernel
theorem dX1_init_25 : decode cX1_init 25 = .ok (.return_, 1) := by decide +kernel
theorem dX2_init_0 : decode cX2_init 0 = .ok (.aload_n 0, 1) := by decide +kernel
theorem dX2_init_1 : decode cX2_init 1 = .ok (.invokespecial 3, 3) := by decide +kernel
theorem dX2_init_4 : decode cX2_init 4 = .ok (.aload_n 0, 1) := by decide +kernel
theorem dX2_init_5 : decode cX2_init 5 = .ok (.bipush 6, 2) := by decide +kernel
theorem dX2_init_7 : decode cX2_init 7 = .ok (.newarray .int, 2) := by decide +kernel
theorem dX2_init_9 : decode cX2_init 9 = .ok (.putfield 9, 3) := by decide +kernel
theorem dX2_init_12 : decode cX2_init 12 = .ok (.aload_n 0, 1) := by decide +kernel
theorem dX2_init_13 : decode cX2_init 13 = .ok (.bipush 6, 2) := by decide +kernel
theorem dX2_init_15 : decode cX2_init 15 = .ok (.newarray .int, 2) := by decide +kernel
theorem dX2_init_17 : decode cX2_init 17 = .ok (.putfield 15, 3) := by decide +kernel
theorem dX2_init_20 : decode cX2_init 20 = .ok (.aload_n 0, 1) := by decide +kernel
theorem dX2_init_21 : decode cX2_init 21 = .ok (.bipush 6, 2) := by decide +kernel
theorem dX2_init_23 : decode cX2_init 23 = .ok (.newarray .int, 2) := by decide +kernel
theorem dX2_init_25 : decode cX2_init 25 = .ok (.putfield 18, 3) := by decide +kernel
theorem dX2_init_28 : decode cX2_init 28 = .ok (.aload_n 0, 1) := by decide +kernel
theorem dX2_init_29 : decode cX2_init 29 = .ok (.bipush 6, 2) := by decide +kernel
theorem dX2_init_31 : decode cX2_init 31 = .ok (.anewarray 21, 3) := by decide +kernel
theorem dX2_init_34 : decode cX2_init 34 = .ok (.putfield 23, 3) := by decide +kernel
theorem dX2_init_37 : decode cX2_init 37 = .ok (.aload_n 0, 1) := by decide +kernel
theorem dX2_init_38 : decode cX2_init 38 = .ok (.iconst 0, 1) := by decide +kernel
theorem dX2_init_39 : decode cX2_init 39 = .ok (.putfield 27, 3) := by decide +kernel
theorem dX2_init_42 : decode cX2_init 42 = .ok (.aload_n 0, 1) := by decide +kernel
theorem dX2_init_43 : decode cX2_init 43 = .ok (.bipush 8, 2) := by decide +kernel
theorem dX2_init_45 : decode cX2_init 45 = .ok (.newarray .int, 2) := by decide +kernel
theorem dX2_init_47 : decode cX2_init 47 = .ok (.putfield 31, 3) := by decide +kernel
theorem dX2_init_50 : decode cX2_init 50 = .ok (.aload_n 0, 1) := by decide +kernel
theorem dX2_init_51 : decode cX2_init 51 = .ok (.bipush 8, 2) := by decide +kernel
theorem dX2_init_53 : decode cX2_init 53 = .ok (.newarray .int, 2) := by decide +kernel
theorem dX2_init_55 : decode cX2_init 55 = .ok (.putfield 34, 3) := by decide +kernel
theorem dX2_init_58 : decode cX2_init 58 = .ok (.aload_n 0, 1) := by decide +kernel
theorem dX2_init_59 : decode cX2_init 59 = .ok (.bipush 8, 2) := by decide +kernel
theorem dX2_init_61 : decode cX2_init 61 = .ok (.newarray .int, 2) := by decide +kernel
theorem dX2_init_63 : decode cX2_init 63 = .ok (.putfield 37, 3) := by decide +kernel
theorem dX2_init_66 : decode cX2_init 66 = .ok (.aload_n 0, 1) := by decide +kernel
theorem dX2_init_67 : decode cX2_init 67 = .ok (.iconst 0, 1) := by decide +kernel
theorem dX2_init_68 : decode cX2_init 68 = .ok (.putfield 40, 3) := by decide +kernel
theorem dX2_init_71 : decode cX2_init 71 = .ok (.aload_n 0, 1) := by decide +kernel
theorem dX2_init_72 : decode cX2_init 72 = .ok (.getfield 18, 3) := by decide +kernel
theorem dX2_init_75 : decode cX2_init 75 = .ok (.iconst 1, 1) := by decide +kernel
theorem dX2_init_76 : decode cX2_init 76 = .ok (.invokestatic 43, 3) := by decide +kernel
theorem dX2_init_79 : decode cX2_init 79 = .ok (.return_, 1) := by decide +kernel
theorem dX3_init_0 : decode cX3_init 0 = .ok (.aload_n 0, 1) := by decide +kernel
theorem dX3_init_1 : decode cX3_init 1 = .ok (.invokespecial 3, 3) := by decide +kernel
theorem dX3_init_4 : decode cX3_init 4 = .ok (.aload_n 0, 1) := by decide +kernel
theorem dX3_init_5 : decode cX3_init 5 = .ok (.bipush 60, 2) := by decide +kernel
theorem dX3_init_7 : decode cX3_init 7 = .ok (.newarray .int, 2) := by decide +kernel
theorem dX3_init_9 : decode cX3_init 9 = .ok (.putfield 9, 3) := by decide +kernel
theorem dX3_init_12 : decode cX3_init 12 = .ok (.aload_n 0, 1) := by decide +kernel
theorem dX3_init_13 : decode cX3_init 13 = .ok (.iconst 0, 1) := by decide +kernel
theorem dX3_init_14 : decode cX3_init 14 = .ok (.putfield 15, 3) := by decide +kernel
theorem dX3_init_17 : decode cX3_init 17 = .ok (.aload_n 0, 1) := by decide +kernel
theorem dX3_init_18 : decode cX3_init 18 = .ok (.iconst 0, 1) := by decide +kernel
theorem dX3_init_19 : decode cX3_init 19 = .ok (.putfield 19, 3) := by decide +kernel
theorem dX3_init_22 : decode cX3_init 22 = .ok (.aload_n 0, 1) := by decide +kernel
theorem dX3_init_23 : decode cX3_init 23 = .ok (.bipush 60, 2) := by decide +kernel
theorem dX3_init_25 : decode cX3_init 25 = .ok (.newarray .int, 2) := by decide +kernel
theorem dX3_init_27 : decode cX3_init 27 = .ok (.putfield 22, 3) := by decide +kernel
theorem dX3_init_30 : decode cX3_init 30 = .ok (.aload_n 0, 1) := by decide +kernel
theorem dX3_init_31 : decode cX3_init 31 = .ok (.bipush 60, 2) := by decide +kernel
theorem dX3_init_33 : decode cX3_init 33 = .ok (.newarray .int, 2) := by decide +kernel
theorem dX3_init_35 : decode cX3_init 35 = .ok (.putfield 25, 3) := by decide +kernel
theorem dX3_init_38 : decode cX3_init 38 = .ok (.aload_n 0, 1) := by decide +kernel
theorem dX3_init_39 : decode cX3_init 39 = .ok (.bipush 60, 2) := by decide +kernel
theorem dX3_init_41 : decode cX3_init 41 = .ok (.newarray .int, 2) := by decide +kernel
theorem dX3_init_43 : decode cX3_init 43 = .ok (.putfield 28, 3) := by decide +kernel
theorem dX3_init_46 : decode cX3_init 46 = .ok (.aload_n 0, 1) := by decide +kernel
theorem dX3_init_47 : decode cX3_init 47 = .ok (.bipush 60, 2) := by decide +kernel
theorem dX3_init_49 : decode cX3_init 49 = .ok (.newarray .int, 2) := by decide +kernel
theorem dX3_init_51 : decode cX3_init 51 = .ok (.putfield 31, 3) := by decide +kernel
theorem dX3_init_54 : decode cX3_init 54 = .ok (.aload_n 0, 1) := by decide +kernel
theorem dX3_init_55 : decode cX3_init 55 = .ok (.bipush 60, 2) := by decide +kernel
theorem dX3_init_57 : decode cX3_init 57 = .ok (.newarray .int, 2) := by decide +kernel
theorem dX3_init_59 : decode cX3_init 59 = .ok (.putfield 34, 3) := by decide +kernel
theorem dX3_init_62 : decode cX3_init 62 = .ok (.aload_n 0, 1) := by decide +kernel
theorem dX3_init_63 : decode cX3_init 63 = .ok (.iconst 0, 1) := by decide +kernel
theorem dX3_init_64 : decode cX3_init 64 = .ok (.putfield 37, 3) := by decide +kernel
theorem dX3_init_67 : decode cX3_init 67 = .ok (.return_, 1) := by decide +kernel
theorem dX3_readFormula_0 : decode cX3_readFormula 0 = .ok (.aload_n 0, 1) := by decide +kernel
theorem dX3_readFormula_1 : decode cX3_readFormula 1 = .ok (.iconst 0, 1) := by decide +kernel
theorem dX3_readFormula_2 : decode cX3_readFormula 2 = .ok (.putfield 19, 3) := by decide +kernel
theorem dX3_readFormula_5 : decode cX3_readFormula 5 = .ok (.aload_n 0, 1) := by decide +kernel
theorem dX3_readFormula_6 : decode cX3_readFormula 6 = .ok (.iconst 0, 1) := by decide +kernel
theorem dX3_readFormula_7 : decode cX3_readFormula 7 = .ok (.putfield 37, 3) := by decide +kernel
theorem dX3_readFormula_10 : decode cX3_readFormula 10 = .ok (.aload_n 0, 1) := by decide +kernel
theorem dX3_readFormula_11 : decode cX3_readFormula 11 = .ok (.iconst 0, 1) := by decide +kernel
theorem dX3_readFormula_12 : decode cX3_readFormula 12 = .ok (.invokevirtual 40, 3) := by decide +kernel
theorem dX3_readFormula_15 : decode cX3_readFormula 15 = .ok (.istore_n 1, 1) := by decide +kernel
theorem dX3_readFormula_16 : decode cX3_readFormula 16 = .ok (.iload_n 1, 1) := by decide +kernel
theorem dX3_readFormula_17 : decode cX3_readFormula 17 = .ok (.iconst (-1), 1) := by decide +kernel
theorem dX3_readFormula_18 : decode cX3_readFormula 18 = .ok (.if_icmp .eq 14, 3) := by decide +kernel
theorem dX3_readFormula_21 : decode cX3_readFormula 21 = .ok (.aload_n 0, 1) := by decide +kernel
theorem dX3_readFormula_22 : decode cX3_readFormula 22 = .ok (.getfield 19, 3) := by decide +kernel
theorem dX3_readFormula_25 : decode cX3_readFormula 25 = .ok (.aload_n 0, 1) := by decide +kernel
theorem dX3_readFormula_26 : decode cX3_readFormula 26 = .ok (.getfield 15, 3) := by decide +kernel
theorem dX3_readFormula_29 : decode cX3_readFormula 29 = .ok (.if_icmp .ge 7, 3) := by decide +kernel
theorem dX3_readFormula_32 : decode cX3_readFormula 32 = .ok (.aconst_null, 1) := by decide +kernel
theorem dX3_readFormula_33 : decode cX3_readFormula 33 = .ok (.goto 11, 3) := by decide +kernel
theorem dX3_readFormula_36 : decode cX3_readFormula 36 = .ok (.new 44, 3) := by decide +kernel
theorem dX3_readFormula_39 : decode cX3_readFormula 39 = .ok (.dup, 1) := by decide +kernel
theorem dX3_readFormula_40 : decode cX3_readFormula 40 = .ok (.aload_n 0, 1) := by decide +kernel
theorem dX3_readFormula_41 : decode cX3_readFormula 41 = .ok (.invokespecial 46, 3) := by decide +kernel
theorem dX3_readFormula_44 : decode cX3_readFormula 44 = .ok (.areturn, 1) := by decide +kernel
theorem dX4_init_0 : decode cX4_init 0 = .ok (.aload_n 0, 1) := by decide +kernel
theorem dX4_init_1 : decode cX4_init 1 = .ok (.invokespecial 3, 3) := by decide +kernel
theorem dX4_init_4 : decode cX4_init 4 = .ok (.aload_n 0, 1) := by decide +kernel
theorem dX4_init_5 : decode cX4_init 5 = .ok (.bipush 6, 2) := by decide +kernel
theorem dX4_init_7 : decode cX4_init 7 = .ok (.newarray .int, 2) := by decide +kernel
theorem dX4_init_9 : decode cX4_init 9 = .ok (.putfield 9, 3) := by decide +kernel
theorem dX4_init_12 : decode cX4_init 12 = .ok (.aload_n 0, 1) := by decide +kernel
theorem dX4_init_13 : decode cX4_init 13 = .ok (.bipush 6, 2) := by decide +kernel
theorem dX4_init_15 : decode cX4_init 15 = .ok (.newarray .int, 2) := by decide +kernel
theorem dX4_init_17 : decode cX4_init 17 = .ok (.putfield 15, 3) := by decide +kernel
theorem dX4_init_20 : decode cX4_init 20 = .ok (.aload_n 0, 1) := by decide +kernel
theorem dX4_init_21 : decode cX4_init 21 = .ok (.iconst 0, 1) := by decide +kernel
theorem dX4_init_22 : decode cX4_init 22 = .ok (.putfield 18, 3) := by decide +kernel
theorem dX4_init_25 : decode cX4_init 25 = .ok (.aload_n 0, 1) := by decide +kernel
theorem dX4_init_26 : decode cX4_init 26 = .ok (.lconst 0, 1) := by decide +kernel
theorem dX4_init_27 : decode cX4_init 27 = .ok (.putfield 22, 3) := by decide +kernel
theorem dX4_init_30 : decode cX4_init 30 = .ok (.aload_n 0, 1) := by decide +kernel
theorem dX4_init_31 : decode cX4_init 31 = .ok (.lconst 0, 1) := by decide +kernel
theorem dX4_init_32 : decode cX4_init 32 = .ok (.putfield 26, 3) := by decide +kernel
theorem dX4_init_35 : decode cX4_init 35 = .ok (.aload_n 0, 1) := by decide +kernel
theorem dX4_init_36 : decode cX4_init 36 = .ok (.bipush 6, 2) := by decide +kernel
theorem dX4_init_38 : decode cX4_init 38 = .ok (.newarray .int, 2) := by decide +kernel
theorem dX4_init_40 : decode cX4_init 40 = .ok (.putfield 29, 3) := by decide +kernel
theorem dX4_init_43 : decode cX4_init 43 = .ok (.aload_n 0, 1) := by decide +kernel
theorem dX4_init_44 : decode cX4_init 44 = .ok (.new 32, 3) := by decide +kernel
theorem dX4_init_47 : decode cX4_init 47 = .ok (.dup, 1) := by decide +kernel
theorem dX4_init_48 : decode cX4_init 48 = .ok (.bipush 60, 2) := by decide +kernel
theorem dX4_init_50 : decode cX4_init 50 = .ok (.invokespecial 34, 3) := by decide +kernel
theorem dX4_init_53 : decode cX4_init 53 = .ok (.putfield 37, 3) := by decide +kernel
theorem dX4_init_56 : decode cX4_init 56 = .ok (.aload_n 0, 1) := by decide +kernel
theorem dX4_init_57 : decode cX4_init 57 = .ok (.new 32, 3) := by decide +kernel
theorem dX4_init_60 : decode cX4_init 60 = .ok (.dup, 1) := by decide +kernel
theorem dX4_init_61 : decode cX4_init 61 = .ok (.bipush 60, 2) := by decide +kernel
theorem dX4_init_63 : decode cX4_init 63 = .ok (.invokespecial 34, 3) := by decide +kernel
theorem dX4_init_66 : decode cX4_init 66 = .ok (.putfield 41, 3) := by decide +kernel
theorem dX4_init_69 : decode cX4_init 69 = .ok (.aload_n 0, 1) := by decide +kernel
theorem dX4_init_70 : decode cX4_init 70 = .ok (.new 32, 3) := by decide +kernel
theorem dX4_init_73 : decode cX4_init 73 = .ok (.dup, 1) := by decide +kernel
theorem dX4_init_74 : decode cX4_init 74 = .ok (.iconst 2, 1) := by decide +kernel
theorem dX4_init_75 : decode cX4_init 75 = .ok (.invokespecial 34, 3) := by decide +kernel
theorem dX4_init_78 : decode cX4_init 78 = .ok (.putfield 44, 3) := by decide +kernel
theorem dX4_init_81 : decode cX4_init 81 = .ok (.aload_n 0, 1) := by decide +kernel
theorem dX4_init_82 : decode cX4_init 82 = .ok (.bipush 60, 2) := by decide +kernel
theorem dX4_init_84 : decode cX4_init 84 = .ok (.newarray .long, 2) := by decide +kernel
theorem dX4_init_86 : decode cX4_init 86 = .ok (.putfield 47, 3) := by decide +kernel
theorem dX4_init_89 : decode cX4_init 89 = .ok (.return_, 1) := by decide +kernel
theorem dX5_init_0 : decode cX5_init 0 = .ok (.aload_n 0, 1) := by decide +kernel
theorem dX5_init_1 : decode cX5_init 1 = .ok (.invokespecial 5, 3) := by decide +kernel
theorem dX5_init_4 : decode cX5_init 4 = .ok (.aload_n 0, 1) := by decide +kernel
theorem dX5_init_5 : decode cX5_init 5 = .ok (.new 11, 3) := by decide +kernel
theorem dX5_init_8 : decode cX5_init 8 = .ok (.dup, 1) := by decide +kernel
theorem dX5_init_9 : decode cX5_init 9 = .ok (.invokespecial 13, 3) := by decide +kernel
theorem dX5_init_12 : decode cX5_init 12 = .ok (.putfield 14, 3) := by decide +kernel
theorem dX5_init_15 : decode cX5_init 15 = .ok (.aload_n 0, 1) := by decide +kernel
theorem dX5_init_16 : decode cX5_init 16 = .ok (.new 11, 3) := by decide +kernel
theorem dX5_init_19 : decode cX5_init 19 = .ok (.dup, 1) := by decide +kernel
theorem dX5_init_20 : decode cX5_init 20 = .ok (.invokespecial 13, 3) := by decide +kernel
theorem dX5_init_23 : decode cX5_init 23 = .ok (.putfield 18, 3) := by decide +kernel
theorem dX5_init_26 : decode cX5_init 26 = .ok (.aload_n 0, 1) := by decide +kernel
theorem dX5_init_27 : decode cX5_init 27 = .ok (.iconst 0, 1) := by decide +kernel
theorem dX5_init_28 : decode cX5_init 28 = .ok (.putfield 21, 3) := by decide +kernel
theorem dX5_init_31 : decode cX5_init 31 = .ok (.aload_n 0, 1) := by decide +kernel
theorem dX5_init_32 : decode cX5_init 32 = .ok (.new 25, 3) := by decide +kernel
theorem dX5_init_35 : decode cX5_init 35 = .ok (.dup, 1) := by decide +kernel
theorem dX5_init_36 : decode cX5_init 36 = .ok (.invokespecial 27, 3) := by decide +kernel
theorem dX5_init_39 : decode cX5_init 39 = .ok (.putfield 28, 3) := by decide +kernel
theorem dX5_init_42 : decode cX5_init 42 = .ok (.aload_n 0, 1) := by decide +kernel
theorem dX5_init_43 : decode cX5_init 43 = .ok (.new 32, 3) := by decide +kernel
theorem dX5_init_46 : decode cX5_init 46 = .ok (.dup, 1) := by decide +kernel
theorem dX5_init_47 : decode cX5_init 47 = .ok (.invokespecial 34, 3) := by decide +kernel
theorem dX5_init_50 : decode cX5_init 50 = .ok (.putfield 35, 3) := by decide +kernel
theorem dX5_init_53 : decode cX5_init 53 = .ok (.aload_n 0, 1) := by decide +kernel
theorem dX5_init_54 : decode cX5_init 54 = .ok (.iconst 4, 1) := by decide +kernel
theorem dX5_init_55 : decode cX5_init 55 = .ok (.bipush 8, 2) := by decide +kernel
theorem dX5_init_57 : decode cX5_init 57 = .ok (.multianewarray 39 2, 4) := by decide +kernel
theorem dX5_init_61 : decode cX5_init 61 = .ok (.putfield 41, 3) := by decide +kernel
theorem dX5_init_64 : decode cX5_init 64 = .ok (.aload_n 0, 1) := by decide +kernel
theorem dX5_init_65 : decode cX5_init 65 = .ok (.iconst 4, 1) := by decide +kernel
theorem dX5_init_66 : decode cX5_init 66 = .ok (.newarray .int, 2) := by decide +kernel
theorem dX5_init_68 : decode cX5_init 68 = .ok (.putfield 44, 3) := by decide +kernel
theorem dX5_init_71 : decode cX5_init 71 = .ok (.aload_n 0, 1) := by decide +kernel
theorem dX5_init_72 : decode cX5_init 72 = .ok (.bipush 60, 2) := by decide +kernel
theorem dX5_init_74 : decode cX5_init 74 = .ok (.newarray .int, 2) := by decide +kernel
theorem dX5_init_76 : decode cX5_init 76 = .ok (.putfield 48, 3) := by decide +kernel
theorem dX5_init_79 : decode cX5_init 79 = .ok (.aload_n 0, 1) := by decide +kernel
theorem dX5_init_80 : decode cX5_init 80 = .ok (.iconst 0, 1) := by decide +kernel
theorem dX5_init_81 : decode cX5_init 81 = .ok (.putfield 51, 3) := by decide +kernel
theorem dX5_init_84 : decode cX5_init 84 = .ok (.aload_n 0, 1) := by decide +kernel
theorem dX5_init_85 : decode cX5_init 85 = .ok (.getfield 44, 3) := by decide +kernel
theorem dX5_init_88 : decode cX5_init 88 = .ok (.bipush (-11), 2) := by decide +kernel
theorem dX5_init_90 : decode cX5_init 90 = .ok (.invokestatic 55, 3) := by decide +kernel
theorem dX5_init_93 : decode cX5_init 93 = .ok (.return_, 1) := by decide +kernel
theorem dX5_formula_0 : decode cX5_formula 0 = .ok (.aload_n 0, 1) := by decide +kernel
theorem dX5_formula_1 : decode cX5_formula 1 = .ok (.getfield 28, 3) := by decide +kernel
theorem dX5_formula_4 : decode cX5_formula 4 = .ok (.invokevirtual 86, 3) := by decide +kernel
theorem dX5_formula_7 : decode cX5_formula 7 = .ok (.astore_n 1, 1) := by decide +kernel
theorem dX5_formula_8 : decode cX5_formula 8 = .ok (.aload_n 0, 1) := by decide +kernel
theorem dX5_formula_9 : decode cX5_formula 9 = .ok (.getfield 28, 3) := by decide +kernel
theorem dX5_formula_12 : decode cX5_formula 12 = .ok (.iconst 0, 1) := by decide +kernel
theorem dX5_formula_13 : decode cX5_formula 13 = .ok (.putfield 83, 3) := by decide +kernel
theorem dX5_formula_16 : decode cX5_formula 16 = .ok (.aload_n 1, 1) := by decide +kernel
theorem dX5_formula_17 : decode cX5_formula 17 = .ok (.ifnonnull 14, 3) := by decide +kernel
theorem dX5_formula_20 : decode cX5_formula 20 = .ok (.bipush (-100), 2) := by decide +kernel
theorem dX5_formula_22 : decode cX5_formula 22 = .ok (.aload_n 0, 1) := by decide +kernel
theorem dX5_formula_23 : decode cX5_formula 23 = .ok (.getfield 28, 3) := by decide +kernel
theorem dX5_formula_26 : decode cX5_formula 26 = .ok (.getfield 90, 3) := by decide +kernel
theorem dX5_formula_29 : decode cX5_formula 29 = .ok (.isub, 1) := by decide +kernel
theorem dX5_formula_30 : decode cX5_formula 30 = .ok (.ireturn, 1) := by decide +kernel
theorem dX5_formula_31 : decode cX5_formula 31 = .ok (.aload_n 0, 1) := by decide +kernel
theorem dX5_formula_32 : decode cX5_formula 32 = .ok (.getfield 14, 3) := by decide +kernel
theorem dX5_formula_35 : decode cX5_formula 35 = .ok (.getfield 93, 3) := by decide +kernel
theorem dX5_formula_38 : decode cX5_formula 38 = .ok (.bipush 6, 2) := by decide +kernel
theorem dX5_formula_40 : decode cX5_formula 40 = .ok (.if_icmp .lt 6, 3) := by decide +kernel
theorem dX5_formula_43 : decode cX5_formula 43 = .ok (.bipush (-4), 2) := by decide +kernel
theorem dX5_formula_45 : decode cX5_formula 45 = .ok (.ireturn, 1) := by decide +kernel
theorem dX5_formula_46 : decode cX5_formula 46 = .ok (.aload_n 0, 1) := by decide +kernel
theorem dX5_formula_47 : decode cX5_formula 47 = .ok (.getfield 14, 3) := by decide +kernel
theorem dX5_formula_50 : decode cX5_formula 50 = .ok (.getfield 93, 3) := by decide +kernel
theorem dX5_formula_53 : decode cX5_formula 53 = .ok (.istore_n 2, 1) := by decide +kernel
theorem dX5_formula_54 : decode cX5_formula 54 = .ok (.aload_n 0, 1) := by decide +kernel
theorem dX5_formula_55 : decode cX5_formula 55 = .ok (.getfield 14, 3) := by decide +kernel
theorem dX5_formula_58 : decode cX5_formula 58 = .ok (.getfield 96, 3) := by decide +kernel
theorem dX5_formula_61 : decode cX5_formula 61 = .ok (.iload_n 2, 1) := by decide +kernel
theorem dX5_formula_62 : decode cX5_formula 62 = .ok (.aload_n 1, 1) := by decide +kernel
theorem dX5_formula_63 : decode cX5_formula 63 = .ok (.aastore, 1) := by decide +kernel
theorem dX5_formula_64 : decode cX5_formula 64 = .ok (.aload_n 0, 1) := by decide +kernel
theorem dX5_formula_65 : decode cX5_formula 65 = .ok (.getfield 14, 3) := by decide +kernel
theorem dX5_formula_68 : decode cX5_formula 68 = .ok (.dup, 1) := by decide +kernel
theorem dX5_formula_69 : decode cX5_formula 69 = .ok (.getfield 93, 3) := by decide +kernel
theorem dX5_formula_72 : decode cX5_formula 72 = .ok (.iconst 1, 1) := by decide +kernel
theorem dX5_formula_73 : decode cX5_formula 73 = .ok (.iadd, 1) := by decide +kernel
theorem dX5_formula_74 : decode cX5_formula 74 = .ok (.putfield 93, 3) := by decide +kernel
theorem dX5_formula_77 : decode cX5_formula 77 = .ok (.iload_n 2, 1) := by decide +kernel
theorem dX5_formula_78 : decode cX5_formula 78 = .ok (.ireturn, 1) := by decide +kernel
theorem dX6_init_0 : decode cX6_init 0 = .ok (.aload_n 0, 1) := by decide +kernel
theorem dX6_init_1 : decode cX6_init 1 = .ok (.invokespecial 3, 3) := by decide +kernel
theorem dX6_init_4 : decode cX6_init 4 = .ok (.aload_n 0, 1) := by decide +kernel
theorem dX6_init_5 : decode cX6_init 5 = .ok (.bipush 18, 2) := by decide +kernel
theorem dX6_init_7 : decode cX6_init 7 = .ok (.newarray .int, 2) := by decide +kernel
theorem dX6_init_9 : decode cX6_init 9 = .ok (.putfield 11, 3) := by decide +kernel
theorem dX6_init_12 : decode cX6_init 12 = .ok (.aload_n 0, 1) := by decide +kernel
theorem dX6_init_13 : decode cX6_init 13 = .ok (.bipush 18, 2) := by decide +kernel
theorem dX6_init_15 : decode cX6_init 15 = .ok (.newarray .int, 2) := by decide +kernel
theorem dX6_init_17 : decode cX6_init 17 = .ok (.putfield 15, 3) := by decide +kernel
theorem dX6_init_20 : decode cX6_init 20 = .ok (.aload_n 0, 1) := by decide +kernel
theorem dX6_init_21 : decode cX6_init 21 = .ok (.sipush 420, 3) := by decide +kernel
theorem dX6_init_24 : decode cX6_init 24 = .ok (.newarray .int, 2) := by decide +kernel
theorem dX6_init_26 : decode cX6_init 26 = .ok (.putfield 18, 3) := by decide +kernel
theorem dX6_init_29 : decode cX6_init 29 = .ok (.aload_n 0, 1) := by decide +kernel
theorem dX6_init_30 : decode cX6_init 30 = .ok (.sipush 420, 3) := by decide +kernel
theorem dX6_init_33 : decode cX6_init 33 = .ok (.newarray .int, 2) := by decide +kernel
theorem dX6_init_35 : decode cX6_init 35 = .ok (.putfield 21, 3) := by decide +kernel
theorem dX6_init_38 : decode cX6_init 38 = .ok (.aload_n 0, 1) := by decide +kernel
theorem dX6_init_39 : decode cX6_init 39 = .ok (.sipush 420, 3) := by decide +kernel
theorem dX6_init_42 : decode cX6_init 42 = .ok (.newarray .int, 2) := by decide +kernel
theorem dX6_init_44 : decode cX6_init 44 = .ok (.putfield 24, 3) := by decide +kernel
theorem dX6_init_47 : decode cX6_init 47 = .ok (.aload_n 0, 1) := by decide +kernel
theorem dX6_init_48 : decode cX6_init 48 = .ok (.sipush 420, 3) := by decide +kernel
theorem dX6_init_51 : decode cX6_init 51 = .ok (.newarray .int, 2) := by decide +kernel
theorem dX6_init_53 : decode cX6_init 53 = .ok (.putfield 27, 3) := by decide +kernel
theorem dX6_init_56 : decode cX6_init 56 = .ok (.aload_n 0, 1) := by decide +kernel
theorem dX6_init_57 : decode cX6_init 57 = .ok (.bipush 7, 2) := by decide +kernel
theorem dX6_init_59 : decode cX6_init 59 = .ok (.newarray .int, 2) := by decide +kernel
theorem dX6_init_61 : decode cX6_init 61 = .ok (.putfield 30, 3) := by decide +kernel
theorem dX6_init_64 : decode cX6_init 64 = .ok (.aload_n 0, 1) := by decide +kernel
theorem dX6_init_65 : decode cX6_init 65 = .ok (.sipush 360, 3) := by decide +kernel
theorem dX6_init_68 : decode cX6_init 68 = .ok (.newarray .int, 2) := by decide +kernel
theorem dX6_init_70 : decode cX6_init 70 = .ok (.putfield 33, 3) := by decide +kernel
theorem dX6_init_73 : decode cX6_init 73 = .ok (.aload_n 0, 1) := by decide +kernel
theorem dX6_init_74 : decode cX6_init 74 = .ok (.sipush 360, 3) := by decide +kernel
theorem dX6_init_77 : decode cX6_init 77 = .ok (.newarray .int, 2) := by decide +kernel
theorem dX6_init_79 : decode cX6_init 79 = .ok (.putfield 36, 3) := by decide +kernel
theorem dX6_init_82 : decode cX6_init 82 = .ok (.aload_n 0, 1) := by decide +kernel
theorem dX6_init_83 : decode cX6_init 83 = .ok (.sipush 360, 3) := by decide +kernel
theorem dX6_init_86 : decode cX6_init 86 = .ok (.newarray .int, 2) := by decide +kernel
theorem dX6_init_88 : decode cX6_init 88 = .ok (.putfield 39, 3) := by decide +kernel
theorem dX6_init_91 : decode cX6_init 91 = .ok (.aload_n 0, 1) := by decide +kernel
theorem dX6_init_92 : decode cX6_init 92 = .ok (.sipush 360, 3) := by decide +kernel
theorem dX6_init_95 : decode cX6_init 95 = .ok (.newarray .int, 2) := by decide +kernel
theorem dX6_init_97 : decode cX6_init 97 = .ok (.putfield 42, 3) := by decide +kernel
theorem dX6_init_100 : decode cX6_init 100 = .ok (.aload_n 0, 1) := by decide +kernel
theorem dX6_init_101 : decode cX6_init 101 = .ok (.bipush 6, 2) := by decide +kernel
theorem dX6_init_103 : decode cX6_init 103 = .ok (.newarray .int, 2) := by decide +kernel
theorem dX6_init_105 : decode cX6_init 105 = .ok (.putfield 45, 3) := by decide +kernel
theorem dX6_init_108 : decode cX6_init 108 = .ok (.aload_n 0, 1) := by decide +kernel
theorem dX6_init_109 : decode cX6_init 109 = .ok (.bipush 60, 2) := by decide +kernel
theorem dX6_init_111 : decode cX6_init 111 = .ok (.newarray .int, 2) := by decide +kernel
theorem dX6_init_113 : decode cX6_init 113 = .ok (.putfield 48, 3) := by decide +kernel
theorem dX6_init_116 : decode cX6_init 116 = .ok (.aload_n 0, 1) := by decide +kernel
theorem dX6_init_117 : decode cX6_init 117 = .ok (.bipush 6, 2) := by decide +kernel
theorem dX6_init_119 : decode cX6_init 119 = .ok (.newarray .int, 2) := by decide +kernel
theorem dX6_init_121 : decode cX6_init 121 = .ok (.putfield 51, 3) := by decide +kernel
theorem dX6_init_124 : decode cX6_init 124 = .ok (.aload_n 0, 1) := by decide +kernel
theorem dX6_init_125 : decode cX6_init 125 = .ok (.bipush 6, 2) := by decide +kernel
theorem dX6_init_127 : decode cX6_init 127 = .ok (.newarray .int, 2) := by decide +kernel
theorem dX6_init_129 : decode cX6_init 129 = .ok (.putfield 54, 3) := by decide +kernel
theorem dX6_init_132 : decode cX6_init 132 = .ok (.aload_n 0, 1) := by decide +kernel
theorem dX6_init_133 : decode cX6_init 133 = .ok (.bipush 60, 2) := by decide +kernel
theorem dX6_init_135 : decode cX6_init 135 = .ok (.newarray .long, 2) := by decide +kernel
theorem dX6_init_137 : decode cX6_init 137 = .ok (.putfield 57, 3) := by decide +kernel
theorem dX6_init_140 : decode cX6_init 140 = .ok (.aload_n 0, 1) := by decide +kernel
theorem dX6_init_141 : decode cX6_init 141 = .ok (.bipush 60, 2) := by decide +kernel
theorem dX6_init_143 : decode cX6_init 143 = .ok (.newarray .long, 2) := by decide +kernel
theorem dX6_init_145 : decode cX6_init 145 = .ok (.putfield 61, 3) := by decide +kernel
theorem dX6_init_148 : decode cX6_init 148 = .ok (.aload_n 0, 1) := by decide +kernel
theorem dX6_init_149 : decode cX6_init 149 = .ok (.bipush 60, 2) := by decide +kernel
theorem dX6_init_151 : decode cX6_init 151 = .ok (.newarray .boolean, 2) := by decide +kernel
theorem dX6_init_153 : decode cX6_init 153 = .ok (.putfield 64, 3) := by decide +kernel
theorem dX6_init_156 : decode cX6_init 156 = .ok (.aload_n 0, 1) := by decide +kernel
theorem dX6_init_157 : decode cX6_init 157 = .ok (.bipush 60, 2) := by decide +kernel
theorem dX6_init_159 : decode cX6_init 159 = .ok (.newarray .int, 2) := by decide +kernel
theorem dX6_init_161 : decode cX6_init 161 = .ok (.putfield 68, 3) := by decide +kernel
theorem dX6_init_164 : decode cX6_init 164 = .ok (.aload_n 0, 1) := by decide +kernel
theorem dX6_init_165 : decode cX6_init 165 = .ok (.bipush 60, 2) := by decide +kernel
theorem dX6_init_167 : decode cX6_init 167 = .ok (.newarray .long, 2) := by decide +kernel
theorem dX6_init_169 : decode cX6_init 169 = .ok (.putfield 71, 3) := by decide +kernel
theorem dX6_init_172 : decode cX6_init 172 = .ok (.aload_n 0, 1) := by decide +kernel
theorem dX6_init_173 : decode cX6_init 173 = .ok (.bipush 60, 2) := by decide +kernel
theorem dX6_init_175 : decode cX6_init 175 = .ok (.newarray .long, 2) := by decide +kernel
theorem dX6_init_177 : decode cX6_init 177 = .ok (.putfield 74, 3) := by decide +kernel
theorem dX6_init_180 : decode cX6_init 180 = .ok (.aload_n 0, 1) := by decide +kernel
theorem dX6_init_181 : decode cX6_init 181 = .ok (.bipush 6, 2) := by decide +kernel
theorem dX6_init_183 : decode cX6_init 183 = .ok (.newarray .int, 2) := by decide +kernel
theorem dX6_init_185 : decode cX6_init 185 = .ok (.putfield 77, 3) := by decide +kernel
theorem dX6_init_188 : decode cX6_init 188 = .ok (.aload_n 0, 1) := by decide +kernel
theorem dX6_init_189 : decode cX6_init 189 = .ok (.bipush 24, 2) := by decide +kernel
theorem dX6_init_191 : decode cX6_init 191 = .ok (.newarray .int, 2) := by decide +kernel
theorem dX6_init_193 : decode cX6_init 193 = .ok (.putfield 80, 3) := by decide +kernel
theorem dX6_init_196 : decode cX6_init 196 = .ok (.aload_n 0, 1) := by decide +kernel
theorem dX6_init_197 : decode cX6_init 197 = .ok (.bipush 24, 2) := by decide +kernel
theorem dX6_init_199 : decode cX6_init 199 = .ok (.newarray .int, 2) := by decide +kernel
theorem dX6_init_201 : decode cX6_init 201 = .ok (.putfield 83, 3) := by decide +kernel
theorem dX6_init_204 : decode cX6_init 204 = .ok (.aload_n 0, 1) := by decide +kernel
theorem dX6_init_205 : decode cX6_init 205 = .ok (.bipush 18, 2) := by decide +kernel
theorem dX6_init_207 : decode cX6_init 207 = .ok (.newarray .int, 2) := by decide +kernel
theorem dX6_init_209 : decode cX6_init 209 = .ok (.putfield 86, 3) := by decide +kernel
theorem dX6_init_212 : decode cX6_init 212 = .ok (.aload_n 0, 1) := by decide +kernel
theorem dX6_init_213 : decode cX6_init 213 = .ok (.iconst 4, 1) := by decide +kernel
theorem dX6_init_214 : decode cX6_init 214 = .ok (.newarray .int, 2) := by decide +kernel
theorem dX6_init_216 : decode cX6_init 216 = .ok (.dup, 1) := by decide +kernel
theorem dX6_init_217 : decode cX6_init 217 = .ok (.iconst 0, 1) := by decide +kernel
theorem dX6_init_218 : decode cX6_init 218 = .ok (.iconst (-1), 1) := by decide +kernel
theorem dX6_init_219 : decode cX6_init 219 = .ok (.iastore, 1) := by decide +kernel
theorem dX6_init_220 : decode cX6_init 220 = .ok (.dup, 1) := by decide +kernel
theorem dX6_init_221 : decode cX6_init 221 = .ok (.iconst 1, 1) := by decide +kernel
theorem dX6_init_222 : decode cX6_init 222 = .ok (.iconst (-1), 1) := by decide +kernel
theorem dX6_init_223 : decode cX6_init 223 = .ok (.iastore, 1) := by decide +kernel
theorem dX6_init_224 : decode cX6_init 224 = .ok (.dup, 1) := by decide +kernel
theorem dX6_init_225 : decode cX6_init 225 = .ok (.iconst 2, 1) := by decide +kernel
theorem dX6_init_226 : decode cX6_init 226 = .ok (.iconst (-1), 1) := by decide +kernel
theorem dX6_init_227 : decode cX6_init 227 = .ok (.iastore, 1) := by decide +kernel
theorem dX6_init_228 : decode cX6_init 228 = .ok (.dup, 1) := by decide +kernel
theorem dX6_init_229 : decode cX6_init 229 = .ok (.iconst 3, 1) := by decide +kernel
theorem dX6_init_230 : decode cX6_init 230 = .ok (.iconst (-1), 1) := by decide +kernel
theorem dX6_init_231 : decode cX6_init 231 = .ok (.iastore, 1) := by decide +kernel
theorem dX6_init_232 : decode cX6_init 232 = .ok (.putfield 89, 3) := by decide +kernel
theorem dX6_init_235 : decode cX6_init 235 = .ok (.aload_n 0, 1) := by decide +kernel
theorem dX6_init_236 : decode cX6_init 236 = .ok (.bipush 32, 2) := by decide +kernel
theorem dX6_init_238 : decode cX6_init 238 = .ok (.newarray .long, 2) := by decide +kernel
theorem dX6_init_240 : decode cX6_init 240 = .ok (.putfield 92, 3) := by decide +kernel
theorem dX6_init_243 : decode cX6_init 243 = .ok (.iconst 0, 1) := by decide +kernel
theorem dX6_init_244 : decode cX6_init 244 = .ok (.istore_n 1, 1) := by decide +kernel
theorem dX6_init_245 : decode cX6_init 245 = .ok (.iload_n 1, 1) := by decide +kernel
theorem dX6_init_246 : decode cX6_init 246 = .ok (.bipush 6, 2) := by decide +kernel
theorem dX6_init_248 : decode cX6_init 248 = .ok (.if_icmp .ge 20, 3) := by decide +kernel
theorem dX6_init_251 : decode cX6_init 251 = .ok (.aload_n 0, 1) := by decide +kernel
theorem dX6_init_252 : decode cX6_init 252 = .ok (.getfield 11, 3) := by decide +kernel
theorem dX6_init_255 : decode cX6_init 255 = .ok (.iconst 3, 1) := by decide +kernel
theorem dX6_init_256 : decode cX6_init 256 = .ok (.iload_n 1, 1) := by decide +kernel
theorem dX6_init_257 : decode cX6_init 257 = .ok (.imul, 1) := by decide +kernel
theorem dX6_init_258 : decode cX6_init 258 = .ok (.iconst 2, 1) := by decide +kernel
theorem dX6_init_259 : decode cX6_init 259 = .ok (.iadd, 1) := by decide +kernel
theorem dX6_init_260 : decode cX6_init 260 = .ok (.iconst 1, 1) := by decide +kernel
theorem dX6_init_261 : decode cX6_init 261 = .ok (.iastore, 1) := by decide +kernel
theorem dX6_init_262 : decode cX6_init 262 = .ok (.iinc 1 1, 3) := by decide +kernel
theorem dX6_init_265 : decode cX6_init 265 = .ok (.goto (-20), 3) := by decide +kernel
theorem dX6_init_268 : decode cX6_init 268 = .ok (.return_, 1) := by decide +kernel
theorem dJ7_copyOf_59c91_0 : decode cJ7_copyOf_59c91 0 = .ok (.iload_n 1, 1) := by decide +kernel
theorem dJ7_copyOf_59c91_1 : decode cJ7_copyOf_59c91 1 = .ok (.aload_n 0, 1) := by decide +kernel
theorem dJ7_copyOf_59c91_2 : decode cJ7_copyOf_59c91 2 = .ok (.arraylength, 1) := by decide +kernel
theorem dJ7_copyOf_59c91_3 : decode cJ7_copyOf_59c91 3 = .ok (.if_icmp .ne 11, 3) := by decide +kernel
theorem dJ7_copyOf_59c91_6 : decode cJ7_copyOf_59c91 6 = .ok (.aload_n 0, 1) := by decide +kernel
theorem dJ7_copyOf_59c91_7 : decode cJ7_copyOf_59c91 7 = .ok (.invokevirtual 316, 3) := by decide +kernel
theorem dJ7_copyOf_59c91_10 : decode cJ7_copyOf_59c91 10 = .ok (.checkcast 317, 3) := by decide +kernel
theorem dJ7_copyOf_59c91_13 : decode cJ7_copyOf_59c91 13 = .ok (.areturn, 1) := by decide +kernel
theorem dJ7_copyOf_59c91_14 : decode cJ7_copyOf_59c91 14 = .ok (.iload_n 1, 1) := by decide +kernel
theorem dJ7_copyOf_59c91_15 : decode cJ7_copyOf_59c91 15 = .ok (.newarray .int, 2) := by decide +kernel
theorem dJ7_copyOf_59c91_17 : decode cJ7_copyOf_59c91 17 = .ok (.astore_n 2, 1) := by decide +kernel
theorem dJ7_copyOf_59c91_18 : decode cJ7_copyOf_59c91 18 = .ok (.aload_n 0, 1) := by decide +kernel
theorem dJ7_copyOf_59c91_19 : decode cJ7_copyOf_59c91 19 = .ok (.iconst 0, 1) := by decide +kernel
theorem dJ7_copyOf_59c91_20 : decode cJ7_copyOf_59c91 20 = .ok (.aload_n 2, 1) := by decide +kernel
theorem dJ7_copyOf_59c91_21 : decode cJ7_copyOf_59c91 21 = .ok (.iconst 0, 1) := by decide +kernel
theorem dJ7_copyOf_59c91_22 : decode cJ7_copyOf_59c91 22 = .ok (.aload_n 0, 1) := by decide +kernel
theorem dJ7_copyOf_59c91_23 : decode cJ7_copyOf_59c91 23 = .ok (.arraylength, 1) := by decide +kernel
theorem dJ7_copyOf_59c91_24 : decode cJ7_copyOf_59c91 24 = .ok (.iload_n 1, 1) := by decide +kernel
theorem dJ7_copyOf_59c91_25 : decode cJ7_copyOf_59c91 25 = .ok (.invokestatic 304, 3) := by decide +kernel
theorem dJ7_copyOf_59c91_28 : decode cJ7_copyOf_59c91 28 = .ok (.invokestatic 150, 3) := by decide +kernel
theorem dJ7_copyOf_59c91_31 : decode cJ7_copyOf_59c91 31 = .ok (.aload_n 2, 1) := by decide +kernel
theorem dJ7_copyOf_59c91_32 : decode cJ7_copyOf_59c91 32 = .ok (.areturn, 1) := by decide +kernel

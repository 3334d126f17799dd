theorem in_X0 : ∀ w ∈ u_ws RX0 TX0 10, w ∈ lw_g := fun w hw => List.mem_filter.mpr ⟨(by decide +kernel : ∀ w ∈ u_ws RX0 TX0 10, w ∈ lw_tbl) w hw, (by decide +kernel : ∀ w ∈ u_ws RX0 TX0 10, goodWord w = true) w hw⟩
theorem in_X1 : ∀ w ∈ u_ws RX1 TX1 3, w ∈ lw_g := fun w hw => List.mem_filter.mpr ⟨(by decide +kernel : ∀ w ∈ u_ws RX1 TX1 3, w ∈ lw_tbl) w hw, (by decide +kernel : ∀ w ∈ u_ws RX1 TX1 3, goodWord w = true) w hw⟩
theorem in_X2 : ∀ w ∈ u_ws RX2 TX2 9, w ∈ lw_g := fun w hw => List.mem_filter.mpr ⟨(by decide +kernel : ∀ w ∈ u_ws RX2 TX2 9, w ∈ lw_tbl) w hw, (by decide +kernel : ∀ w ∈ u_ws RX2 TX2 9, goodWord w = true) w hw⟩
theorem in_X3 : ∀ w ∈ u_ws RX3 TX3 9, w ∈ lw_g := fun w hw => List.mem_filter.mpr ⟨(by decide +kernel : ∀ w ∈ u_ws RX3 TX3 9, w ∈ lw_tbl) w hw, (by decide +kernel : ∀ w ∈ u_ws RX3 TX3 9, goodWord w = true) w hw⟩
theorem in_X4 : ∀ w ∈ u_ws RX4 TX4 10, w ∈ lw_g := fun w hw => List.mem_filter.mpr ⟨(by decide +kernel : ∀ w ∈ u_ws RX4 TX4 10, w ∈ lw_tbl) w hw, (by decide +kernel : ∀ w ∈ u_ws RX4 TX4 10, goodWord w = true) w hw⟩
theorem in_X5 : ∀ w ∈ u_ws RX5 TX5 9, w ∈ lw_g := fun w hw => List.mem_filter.mpr ⟨(by decide +kernel : ∀ w ∈ u_ws RX5 TX5 9, w ∈ lw_tbl) w hw, (by decide +kernel : ∀ w ∈ u_ws RX5 TX5 9, goodWord w = true) w hw⟩
theorem in_X6 : ∀ w ∈ u_ws RX6 TX6 42, w ∈ lw_g := fun w hw => List.mem_filter.mpr ⟨(by decide +kernel : ∀ w ∈ u_ws RX6 TX6 42, w ∈ lw_tbl) w hw, (by decide +kernel : ∀ w ∈ u_ws RX6 TX6 42, goodWord w = true) w hw⟩
theorem fd_X0_15 : FD "SpanKeeper$Formula" 15 0 0 0 := ⟨RX0, TX0, 10, rfl, by decide, rfl, by decide, in_X0, gw 375 (by decide +kernel) rfl, rfl⟩
theorem fd_X0_18 : FD "SpanKeeper$Formula" 18 3 3 2 := ⟨RX3, TX3, 9, rfl, by decide, rfl, by decide, in_X3, gw 132 (by decide +kernel) rfl, rfl⟩
theorem fd_X0_28 : FD "SpanKeeper$Formula" 28 0 1 2 := ⟨RX0, TX0, 10, rfl, by decide, rfl, by decide, in_X0, gw 378 (by decide +kernel) rfl, rfl⟩
theorem fd_X0_33 : FD "SpanKeeper$Formula" 33 3 5 2 := ⟨RX3, TX3, 9, rfl, by decide, rfl, by decide, in_X3, gw 137 (by decide +kernel) rfl, rfl⟩
theorem fd_X0_37 : FD "SpanKeeper$Formula" 37 3 6 2 := ⟨RX3, TX3, 9, rfl, by decide, rfl, by decide, in_X3, gw 139 (by decide +kernel) rfl, rfl⟩
theorem fd_X0_41 : FD "SpanKeeper$Formula" 41 3 7 2 := ⟨RX3, TX3, 9, rfl, by decide, rfl, by decide, in_X3, gw 141 (by decide +kernel) rfl, rfl⟩
theorem fd_X0_44 : FD "SpanKeeper$Formula" 44 0 5 2 := ⟨RX0, TX0, 10, rfl, by decide, rfl, by decide, in_X0, gw 386 (by decide +kernel) rfl, rfl⟩
theorem fd_X0_49 : FD "SpanKeeper$Formula" 49 0 6 0 := ⟨RX0, TX0, 10, rfl, by decide, rfl, by decide, in_X0, gw 388 (by decide +kernel) rfl, rfl⟩
theorem fd_X0_9 : FD "SpanKeeper$Formula" 9 3 8 0 := ⟨RX3, TX3, 9, rfl, by decide, rfl, by decide, in_X3, gw 142 (by decide +kernel) rfl, rfl⟩
theorem fd_X1_13 : FD "SpanKeeper$SpanRow" 13 1 1 2 := ⟨RX1, TX1, 3, rfl, by decide, rfl, by decide, in_X1, gw 177 (by decide +kernel) rfl, rfl⟩
theorem fd_X1_16 : FD "SpanKeeper$SpanRow" 16 1 2 2 := ⟨RX1, TX1, 3, rfl, by decide, rfl, by decide, in_X1, gw 179 (by decide +kernel) rfl, rfl⟩
theorem fd_X1_7 : FD "SpanKeeper$SpanRow" 7 1 0 2 := ⟨RX1, TX1, 3, rfl, by decide, rfl, by decide, in_X1, gw 175 (by decide +kernel) rfl, rfl⟩
theorem fd_X2_15 : FD "SpanKeeper$State" 15 2 1 2 := ⟨RX2, TX2, 9, rfl, by decide, rfl, by decide, in_X2, gw 85 (by decide +kernel) rfl, rfl⟩
theorem fd_X2_18 : FD "SpanKeeper$State" 18 2 2 2 := ⟨RX2, TX2, 9, rfl, by decide, rfl, by decide, in_X2, gw 88 (by decide +kernel) rfl, rfl⟩
theorem fd_X2_23 : FD "SpanKeeper$State" 23 2 3 2 := ⟨RX2, TX2, 9, rfl, by decide, rfl, by decide, in_X2, gw 89 (by decide +kernel) rfl, rfl⟩
theorem fd_X2_27 : FD "SpanKeeper$State" 27 2 4 0 := ⟨RX2, TX2, 9, rfl, by decide, rfl, by decide, in_X2, gw 91 (by decide +kernel) rfl, rfl⟩
theorem fd_X2_31 : FD "SpanKeeper$State" 31 2 5 2 := ⟨RX2, TX2, 9, rfl, by decide, rfl, by decide, in_X2, gw 93 (by decide +kernel) rfl, rfl⟩
theorem fd_X2_34 : FD "SpanKeeper$State" 34 2 6 2 := ⟨RX2, TX2, 9, rfl, by decide, rfl, by decide, in_X2, gw 95 (by decide +kernel) rfl, rfl⟩
theorem fd_X2_37 : FD "SpanKeeper$State" 37 2 7 2 := ⟨RX2, TX2, 9, rfl, by decide, rfl, by decide, in_X2, gw 97 (by decide +kernel) rfl, rfl⟩
theorem fd_X2_40 : FD "SpanKeeper$State" 40 2 8 0 := ⟨RX2, TX2, 9, rfl, by decide, rfl, by decide, in_X2, gw 99 (by decide +kernel) rfl, rfl⟩
theorem fd_X2_9 : FD "SpanKeeper$State" 9 2 0 2 := ⟨RX2, TX2, 9, rfl, by decide, rfl, by decide, in_X2, gw 83 (by decide +kernel) rfl, rfl⟩
theorem fd_X3_15 : FD "SpanKeeper$Tape" 15 3 1 0 := ⟨RX3, TX3, 9, rfl, by decide, rfl, by decide, in_X3, gw 128 (by decide +kernel) rfl, rfl⟩
theorem fd_X3_19 : FD "SpanKeeper$Tape" 19 3 2 0 := ⟨RX3, TX3, 9, rfl, by decide, rfl, by decide, in_X3, gw 130 (by decide +kernel) rfl, rfl⟩
theorem fd_X3_22 : FD "SpanKeeper$Tape" 22 3 3 2 := ⟨RX3, TX3, 9, rfl, by decide, rfl, by decide, in_X3, gw 133 (by decide +kernel) rfl, rfl⟩
theorem fd_X3_25 : FD "SpanKeeper$Tape" 25 3 4 2 := ⟨RX3, TX3, 9, rfl, by decide, rfl, by decide, in_X3, gw 135 (by decide +kernel) rfl, rfl⟩
theorem fd_X3_28 : FD "SpanKeeper$Tape" 28 3 5 2 := ⟨RX3, TX3, 9, rfl, by decide, rfl, by decide, in_X3, gw 136 (by decide +kernel) rfl, rfl⟩
theorem fd_X3_31 : FD "SpanKeeper$Tape" 31 3 6 2 := ⟨RX3, TX3, 9, rfl, by decide, rfl, by decide, in_X3, gw 138 (by decide +kernel) rfl, rfl⟩
theorem fd_X3_34 : FD "SpanKeeper$Tape" 34 3 7 2 := ⟨RX3, TX3, 9, rfl, by decide, rfl, by decide, in_X3, gw 140 (by decide +kernel) rfl, rfl⟩
theorem fd_X3_37 : FD "SpanKeeper$Tape" 37 3 8 0 := ⟨RX3, TX3, 9, rfl, by decide, rfl, by decide, in_X3, gw 143 (by decide +kernel) rfl, rfl⟩
theorem fd_X3_9 : FD "SpanKeeper$Tape" 9 3 0 2 := ⟨RX3, TX3, 9, rfl, by decide, rfl, by decide, in_X3, gw 127 (by decide +kernel) rfl, rfl⟩
theorem fd_X4_134 : FD "SpanKeeper$Thought" 134 2 1 2 := ⟨RX2, TX2, 9, rfl, by decide, rfl, by decide, in_X2, gw 86 (by decide +kernel) rfl, rfl⟩
theorem fd_X4_15 : FD "SpanKeeper$Thought" 15 4 1 2 := ⟨RX4, TX4, 10, rfl, by decide, rfl, by decide, in_X4, gw 191 (by decide +kernel) rfl, rfl⟩
theorem fd_X4_18 : FD "SpanKeeper$Thought" 18 4 2 0 := ⟨RX4, TX4, 10, rfl, by decide, rfl, by decide, in_X4, gw 192 (by decide +kernel) rfl, rfl⟩
theorem fd_X4_22 : FD "SpanKeeper$Thought" 22 4 3 1 := ⟨RX4, TX4, 10, rfl, by decide, rfl, by decide, in_X4, gw 194 (by decide +kernel) rfl, rfl⟩
theorem fd_X4_26 : FD "SpanKeeper$Thought" 26 4 4 1 := ⟨RX4, TX4, 10, rfl, by decide, rfl, by decide, in_X4, gw 196 (by decide +kernel) rfl, rfl⟩
theorem fd_X4_29 : FD "SpanKeeper$Thought" 29 4 5 2 := ⟨RX4, TX4, 10, rfl, by decide, rfl, by decide, in_X4, gw 198 (by decide +kernel) rfl, rfl⟩
theorem fd_X4_37 : FD "SpanKeeper$Thought" 37 4 6 2 := ⟨RX4, TX4, 10, rfl, by decide, rfl, by decide, in_X4, gw 200 (by decide +kernel) rfl, rfl⟩
theorem fd_X4_41 : FD "SpanKeeper$Thought" 41 4 7 2 := ⟨RX4, TX4, 10, rfl, by decide, rfl, by decide, in_X4, gw 201 (by decide +kernel) rfl, rfl⟩
theorem fd_X4_44 : FD "SpanKeeper$Thought" 44 4 8 2 := ⟨RX4, TX4, 10, rfl, by decide, rfl, by decide, in_X4, gw 202 (by decide +kernel) rfl, rfl⟩
theorem fd_X4_47 : FD "SpanKeeper$Thought" 47 4 9 2 := ⟨RX4, TX4, 10, rfl, by decide, rfl, by decide, in_X4, gw 203 (by decide +kernel) rfl, rfl⟩
theorem fd_X4_64 : FD "SpanKeeper$Thought" 64 0 0 0 := ⟨RX0, TX0, 10, rfl, by decide, rfl, by decide, in_X0, gw 376 (by decide +kernel) rfl, rfl⟩
theorem fd_X4_74 : FD "SpanKeeper$Thought" 74 1 2 2 := ⟨RX1, TX1, 3, rfl, by decide, rfl, by decide, in_X1, gw 180 (by decide +kernel) rfl, rfl⟩
theorem fd_X4_77 : FD "SpanKeeper$Thought" 77 1 0 2 := ⟨RX1, TX1, 3, rfl, by decide, rfl, by decide, in_X1, gw 176 (by decide +kernel) rfl, rfl⟩
theorem fd_X4_79 : FD "SpanKeeper$Thought" 79 1 1 2 := ⟨RX1, TX1, 3, rfl, by decide, rfl, by decide, in_X1, gw 178 (by decide +kernel) rfl, rfl⟩
theorem fd_X4_81 : FD "SpanKeeper$Thought" 81 0 3 2 := ⟨RX0, TX0, 10, rfl, by decide, rfl, by decide, in_X0, gw 383 (by decide +kernel) rfl, rfl⟩
theorem fd_X4_84 : FD "SpanKeeper$Thought" 84 0 4 2 := ⟨RX0, TX0, 10, rfl, by decide, rfl, by decide, in_X0, gw 385 (by decide +kernel) rfl, rfl⟩
theorem fd_X4_87 : FD "SpanKeeper$Thought" 87 0 5 2 := ⟨RX0, TX0, 10, rfl, by decide, rfl, by decide, in_X0, gw 387 (by decide +kernel) rfl, rfl⟩
theorem fd_X4_9 : FD "SpanKeeper$Thought" 9 4 0 2 := ⟨RX4, TX4, 10, rfl, by decide, rfl, by decide, in_X4, gw 190 (by decide +kernel) rfl, rfl⟩
theorem fd_X4_90 : FD "SpanKeeper$Thought" 90 0 1 2 := ⟨RX0, TX0, 10, rfl, by decide, rfl, by decide, in_X0, gw 379 (by decide +kernel) rfl, rfl⟩
theorem fd_X5_104 : FD "SpanKeeper" 104 0 0 0 := ⟨RX0, TX0, 10, rfl, by decide, rfl, by decide, in_X0, gw 377 (by decide +kernel) rfl, rfl⟩
theorem fd_X5_109 : FD "SpanKeeper" 109 0 8 0 := ⟨RX0, TX0, 10, rfl, by decide, rfl, by decide, in_X0, gw 393 (by decide +kernel) rfl, rfl⟩
theorem fd_X5_112 : FD "SpanKeeper" 112 0 9 0 := ⟨RX0, TX0, 10, rfl, by decide, rfl, by decide, in_X0, gw 395 (by decide +kernel) rfl, rfl⟩
theorem fd_X5_115 : FD "SpanKeeper" 115 0 6 0 := ⟨RX0, TX0, 10, rfl, by decide, rfl, by decide, in_X0, gw 389 (by decide +kernel) rfl, rfl⟩
theorem fd_X5_118 : FD "SpanKeeper" 118 0 7 0 := ⟨RX0, TX0, 10, rfl, by decide, rfl, by decide, in_X0, gw 391 (by decide +kernel) rfl, rfl⟩
theorem fd_X5_131 : FD "SpanKeeper" 131 4 2 0 := ⟨RX4, TX4, 10, rfl, by decide, rfl, by decide, in_X4, gw 193 (by decide +kernel) rfl, rfl⟩
theorem fd_X5_14 : FD "SpanKeeper" 14 5 0 2 := ⟨RX5, TX5, 9, rfl, by decide, rfl, by decide, in_X5, gw 228 (by decide +kernel) rfl, rfl⟩
theorem fd_X5_143 : FD "SpanKeeper" 143 4 5 2 := ⟨RX4, TX4, 10, rfl, by decide, rfl, by decide, in_X4, gw 199 (by decide +kernel) rfl, rfl⟩
theorem fd_X5_145 : FD "SpanKeeper" 145 2 0 2 := ⟨RX2, TX2, 9, rfl, by decide, rfl, by decide, in_X2, gw 84 (by decide +kernel) rfl, rfl⟩
theorem fd_X5_18 : FD "SpanKeeper" 18 5 1 2 := ⟨RX5, TX5, 9, rfl, by decide, rfl, by decide, in_X5, gw 229 (by decide +kernel) rfl, rfl⟩
theorem fd_X5_184 : FD "SpanKeeper" 184 4 4 1 := ⟨RX4, TX4, 10, rfl, by decide, rfl, by decide, in_X4, gw 197 (by decide +kernel) rfl, rfl⟩
theorem fd_X5_188 : FD "SpanKeeper" 188 4 3 1 := ⟨RX4, TX4, 10, rfl, by decide, rfl, by decide, in_X4, gw 195 (by decide +kernel) rfl, rfl⟩
theorem fd_X5_196 : FD "SpanKeeper" 196 2 1 2 := ⟨RX2, TX2, 9, rfl, by decide, rfl, by decide, in_X2, gw 87 (by decide +kernel) rfl, rfl⟩
theorem fd_X5_21 : FD "SpanKeeper" 21 5 2 0 := ⟨RX5, TX5, 9, rfl, by decide, rfl, by decide, in_X5, gw 230 (by decide +kernel) rfl, rfl⟩
theorem fd_X5_217 : FD "SpanKeeper" 217 2 8 0 := ⟨RX2, TX2, 9, rfl, by decide, rfl, by decide, in_X2, gw 100 (by decide +kernel) rfl, rfl⟩
theorem fd_X5_220 : FD "SpanKeeper" 220 2 5 2 := ⟨RX2, TX2, 9, rfl, by decide, rfl, by decide, in_X2, gw 94 (by decide +kernel) rfl, rfl⟩
theorem fd_X5_223 : FD "SpanKeeper" 223 2 6 2 := ⟨RX2, TX2, 9, rfl, by decide, rfl, by decide, in_X2, gw 96 (by decide +kernel) rfl, rfl⟩
theorem fd_X5_226 : FD "SpanKeeper" 226 2 7 2 := ⟨RX2, TX2, 9, rfl, by decide, rfl, by decide, in_X2, gw 98 (by decide +kernel) rfl, rfl⟩
theorem fd_X5_248 : FD "SpanKeeper" 248 0 2 2 := ⟨RX0, TX0, 10, rfl, by decide, rfl, by decide, in_X0, gw 381 (by decide +kernel) rfl, rfl⟩
theorem fd_X5_28 : FD "SpanKeeper" 28 5 3 2 := ⟨RX5, TX5, 9, rfl, by decide, rfl, by decide, in_X5, gw 231 (by decide +kernel) rfl, rfl⟩
theorem fd_X5_35 : FD "SpanKeeper" 35 5 4 2 := ⟨RX5, TX5, 9, rfl, by decide, rfl, by decide, in_X5, gw 232 (by decide +kernel) rfl, rfl⟩
theorem fd_X5_41 : FD "SpanKeeper" 41 5 5 2 := ⟨RX5, TX5, 9, rfl, by decide, rfl, by decide, in_X5, gw 233 (by decide +kernel) rfl, rfl⟩
theorem fd_X5_44 : FD "SpanKeeper" 44 5 6 2 := ⟨RX5, TX5, 9, rfl, by decide, rfl, by decide, in_X5, gw 234 (by decide +kernel) rfl, rfl⟩
theorem fd_X5_48 : FD "SpanKeeper" 48 5 7 2 := ⟨RX5, TX5, 9, rfl, by decide, rfl, by decide, in_X5, gw 235 (by decide +kernel) rfl, rfl⟩
theorem fd_X5_51 : FD "SpanKeeper" 51 5 8 0 := ⟨RX5, TX5, 9, rfl, by decide, rfl, by decide, in_X5, gw 236 (by decide +kernel) rfl, rfl⟩
theorem fd_X5_83 : FD "SpanKeeper" 83 3 1 0 := ⟨RX3, TX3, 9, rfl, by decide, rfl, by decide, in_X3, gw 129 (by decide +kernel) rfl, rfl⟩
theorem fd_X5_93 : FD "SpanKeeper" 93 2 4 0 := ⟨RX2, TX2, 9, rfl, by decide, rfl, by decide, in_X2, gw 92 (by decide +kernel) rfl, rfl⟩
theorem fd_X5_96 : FD "SpanKeeper" 96 2 3 2 := ⟨RX2, TX2, 9, rfl, by decide, rfl, by decide, in_X2, gw 90 (by decide +kernel) rfl, rfl⟩
theorem fd_X6_11 : FD "SpanKeeperModel" 11 6 0 2 := ⟨RX6, TX6, 42, rfl, by decide, rfl, by decide, in_X6, gw 682 (by decide +kernel) rfl, rfl⟩
theorem fd_X6_122 : FD "SpanKeeperModel" 122 6 7 0 := ⟨RX6, TX6, 42, rfl, by decide, rfl, by decide, in_X6, gw 689 (by decide +kernel) rfl, rfl⟩
theorem fd_X6_128 : FD "SpanKeeperModel" 128 6 16 0 := ⟨RX6, TX6, 42, rfl, by decide, rfl, by decide, in_X6, gw 698 (by decide +kernel) rfl, rfl⟩
theorem fd_X6_131 : FD "SpanKeeperModel" 131 6 17 0 := ⟨RX6, TX6, 42, rfl, by decide, rfl, by decide, in_X6, gw 699 (by decide +kernel) rfl, rfl⟩
theorem fd_X6_138 : FD "SpanKeeperModel" 138 6 19 0 := ⟨RX6, TX6, 42, rfl, by decide, rfl, by decide, in_X6, gw 701 (by decide +kernel) rfl, rfl⟩
theorem fd_X6_146 : FD "SpanKeeperModel" 146 6 18 0 := ⟨RX6, TX6, 42, rfl, by decide, rfl, by decide, in_X6, gw 700 (by decide +kernel) rfl, rfl⟩
theorem fd_X6_15 : FD "SpanKeeperModel" 15 6 1 2 := ⟨RX6, TX6, 42, rfl, by decide, rfl, by decide, in_X6, gw 683 (by decide +kernel) rfl, rfl⟩
theorem fd_X6_18 : FD "SpanKeeperModel" 18 6 2 2 := ⟨RX6, TX6, 42, rfl, by decide, rfl, by decide, in_X6, gw 684 (by decide +kernel) rfl, rfl⟩
theorem fd_X6_193 : FD "SpanKeeperModel" 193 6 20 0 := ⟨RX6, TX6, 42, rfl, by decide, rfl, by decide, in_X6, gw 702 (by decide +kernel) rfl, rfl⟩
theorem fd_X6_21 : FD "SpanKeeperModel" 21 6 3 2 := ⟨RX6, TX6, 42, rfl, by decide, rfl, by decide, in_X6, gw 685 (by decide +kernel) rfl, rfl⟩
theorem fd_X6_211 : FD "SpanKeeperModel" 211 6 26 1 := ⟨RX6, TX6, 42, rfl, by decide, rfl, by decide, in_X6, gw 708 (by decide +kernel) rfl, rfl⟩
theorem fd_X6_217 : FD "SpanKeeperModel" 217 6 27 1 := ⟨RX6, TX6, 42, rfl, by decide, rfl, by decide, in_X6, gw 709 (by decide +kernel) rfl, rfl⟩
theorem fd_X6_24 : FD "SpanKeeperModel" 24 6 4 2 := ⟨RX6, TX6, 42, rfl, by decide, rfl, by decide, in_X6, gw 686 (by decide +kernel) rfl, rfl⟩
theorem fd_X6_251 : FD "SpanKeeperModel" 251 6 29 0 := ⟨RX6, TX6, 42, rfl, by decide, rfl, by decide, in_X6, gw 711 (by decide +kernel) rfl, rfl⟩
theorem fd_X6_27 : FD "SpanKeeperModel" 27 6 5 2 := ⟨RX6, TX6, 42, rfl, by decide, rfl, by decide, in_X6, gw 687 (by decide +kernel) rfl, rfl⟩
theorem fd_X6_274 : FD "SpanKeeperModel" 274 6 33 1 := ⟨RX6, TX6, 42, rfl, by decide, rfl, by decide, in_X6, gw 715 (by decide +kernel) rfl, rfl⟩
theorem fd_X6_277 : FD "SpanKeeperModel" 277 6 34 1 := ⟨RX6, TX6, 42, rfl, by decide, rfl, by decide, in_X6, gw 716 (by decide +kernel) rfl, rfl⟩
theorem fd_X6_297 : FD "SpanKeeperModel" 297 6 36 0 := ⟨RX6, TX6, 42, rfl, by decide, rfl, by decide, in_X6, gw 718 (by decide +kernel) rfl, rfl⟩
theorem fd_X6_30 : FD "SpanKeeperModel" 30 6 6 2 := ⟨RX6, TX6, 42, rfl, by decide, rfl, by decide, in_X6, gw 688 (by decide +kernel) rfl, rfl⟩
theorem fd_X6_315 : FD "SpanKeeperModel" 315 6 13 0 := ⟨RX6, TX6, 42, rfl, by decide, rfl, by decide, in_X6, gw 695 (by decide +kernel) rfl, rfl⟩
theorem fd_X6_318 : FD "SpanKeeperModel" 318 6 38 0 := ⟨RX6, TX6, 42, rfl, by decide, rfl, by decide, in_X6, gw 720 (by decide +kernel) rfl, rfl⟩
theorem fd_X6_321 : FD "SpanKeeperModel" 321 6 14 0 := ⟨RX6, TX6, 42, rfl, by decide, rfl, by decide, in_X6, gw 696 (by decide +kernel) rfl, rfl⟩
theorem fd_X6_33 : FD "SpanKeeperModel" 33 6 8 2 := ⟨RX6, TX6, 42, rfl, by decide, rfl, by decide, in_X6, gw 690 (by decide +kernel) rfl, rfl⟩
theorem fd_X6_36 : FD "SpanKeeperModel" 36 6 9 2 := ⟨RX6, TX6, 42, rfl, by decide, rfl, by decide, in_X6, gw 691 (by decide +kernel) rfl, rfl⟩
theorem fd_X6_39 : FD "SpanKeeperModel" 39 6 10 2 := ⟨RX6, TX6, 42, rfl, by decide, rfl, by decide, in_X6, gw 692 (by decide +kernel) rfl, rfl⟩
theorem fd_X6_42 : FD "SpanKeeperModel" 42 6 11 2 := ⟨RX6, TX6, 42, rfl, by decide, rfl, by decide, in_X6, gw 693 (by decide +kernel) rfl, rfl⟩
theorem fd_X6_45 : FD "SpanKeeperModel" 45 6 12 2 := ⟨RX6, TX6, 42, rfl, by decide, rfl, by decide, in_X6, gw 694 (by decide +kernel) rfl, rfl⟩
theorem fd_X6_48 : FD "SpanKeeperModel" 48 6 15 2 := ⟨RX6, TX6, 42, rfl, by decide, rfl, by decide, in_X6, gw 697 (by decide +kernel) rfl, rfl⟩
theorem fd_X6_51 : FD "SpanKeeperModel" 51 6 21 2 := ⟨RX6, TX6, 42, rfl, by decide, rfl, by decide, in_X6, gw 703 (by decide +kernel) rfl, rfl⟩
theorem fd_X6_54 : FD "SpanKeeperModel" 54 6 22 2 := ⟨RX6, TX6, 42, rfl, by decide, rfl, by decide, in_X6, gw 704 (by decide +kernel) rfl, rfl⟩
theorem fd_X6_57 : FD "SpanKeeperModel" 57 6 23 2 := ⟨RX6, TX6, 42, rfl, by decide, rfl, by decide, in_X6, gw 705 (by decide +kernel) rfl, rfl⟩
theorem fd_X6_61 : FD "SpanKeeperModel" 61 6 24 2 := ⟨RX6, TX6, 42, rfl, by decide, rfl, by decide, in_X6, gw 706 (by decide +kernel) rfl, rfl⟩
theorem fd_X6_64 : FD "SpanKeeperModel" 64 6 25 2 := ⟨RX6, TX6, 42, rfl, by decide, rfl, by decide, in_X6, gw 707 (by decide +kernel) rfl, rfl⟩
theorem fd_X6_68 : FD "SpanKeeperModel" 68 6 28 2 := ⟨RX6, TX6, 42, rfl, by decide, rfl, by decide, in_X6, gw 710 (by decide +kernel) rfl, rfl⟩
theorem fd_X6_71 : FD "SpanKeeperModel" 71 6 30 2 := ⟨RX6, TX6, 42, rfl, by decide, rfl, by decide, in_X6, gw 712 (by decide +kernel) rfl, rfl⟩
theorem fd_X6_74 : FD "SpanKeeperModel" 74 6 31 2 := ⟨RX6, TX6, 42, rfl, by decide, rfl, by decide, in_X6, gw 713 (by decide +kernel) rfl, rfl⟩
theorem fd_X6_77 : FD "SpanKeeperModel" 77 6 32 2 := ⟨RX6, TX6, 42, rfl, by decide, rfl, by decide, in_X6, gw 714 (by decide +kernel) rfl, rfl⟩
theorem fd_X6_80 : FD "SpanKeeperModel" 80 6 35 2 := ⟨RX6, TX6, 42, rfl, by decide, rfl, by decide, in_X6, gw 717 (by decide +kernel) rfl, rfl⟩
theorem fd_X6_83 : FD "SpanKeeperModel" 83 6 37 2 := ⟨RX6, TX6, 42, rfl, by decide, rfl, by decide, in_X6, gw 719 (by decide +kernel) rfl, rfl⟩
theorem fd_X6_86 : FD "SpanKeeperModel" 86 6 39 2 := ⟨RX6, TX6, 42, rfl, by decide, rfl, by decide, in_X6, gw 721 (by decide +kernel) rfl, rfl⟩
theorem fd_X6_89 : FD "SpanKeeperModel" 89 6 40 2 := ⟨RX6, TX6, 42, rfl, by decide, rfl, by decide, in_X6, gw 722 (by decide +kernel) rfl, rfl⟩
theorem fd_X6_92 : FD "SpanKeeperModel" 92 6 41 2 := ⟨RX6, TX6, 42, rfl, by decide, rfl, by decide, in_X6, gw 723 (by decide +kernel) rfl, rfl⟩
theorem fp_X2_27 : FP "SpanKeeper$State" 27 2 4 0 .int false := ⟨RX2, TX2, 9, tyX2, rfl, by decide, rfl, by decide, in_X2, gw 91 (by decide +kernel) rfl, rfl, tyX2_ok, nmX2, rfl, by decide +kernel, by decide⟩
theorem fp_X2_40 : FP "SpanKeeper$State" 40 2 8 0 .int false := ⟨RX2, TX2, 9, tyX2, rfl, by decide, rfl, by decide, in_X2, gw 99 (by decide +kernel) rfl, rfl, tyX2_ok, nmX2, rfl, by decide +kernel, by decide⟩
theorem fp_X3_15 : FP "SpanKeeper$Tape" 15 3 1 0 .int false := ⟨RX3, TX3, 9, tyX3, rfl, by decide, rfl, by decide, in_X3, gw 128 (by decide +kernel) rfl, rfl, tyX3_ok, nmX3, rfl, by decide +kernel, by decide⟩
theorem fp_X3_19 : FP "SpanKeeper$Tape" 19 3 2 0 .int false := ⟨RX3, TX3, 9, tyX3, rfl, by decide, rfl, by decide, in_X3, gw 130 (by decide +kernel) rfl, rfl, tyX3_ok, nmX3, rfl, by decide +kernel, by decide⟩
theorem fp_X3_37 : FP "SpanKeeper$Tape" 37 3 8 0 .int false := ⟨RX3, TX3, 9, tyX3, rfl, by decide, rfl, by decide, in_X3, gw 143 (by decide +kernel) rfl, rfl, tyX3_ok, nmX3, rfl, by decide +kernel, by decide⟩
theorem fp_X4_18 : FP "SpanKeeper$Thought" 18 4 2 0 .boolean false := ⟨RX4, TX4, 10, tyX4, rfl, by decide, rfl, by decide, in_X4, gw 192 (by decide +kernel) rfl, rfl, tyX4_ok, nmX4, rfl, by decide +kernel, by decide⟩
theorem fp_X4_22 : FP "SpanKeeper$Thought" 22 4 3 1 .long false := ⟨RX4, TX4, 10, tyX4, rfl, by decide, rfl, by decide, in_X4, gw 194 (by decide +kernel) rfl, rfl, tyX4_ok, nmX4, rfl, by decide +kernel, by decide⟩
theorem fp_X4_26 : FP "SpanKeeper$Thought" 26 4 4 1 .long false := ⟨RX4, TX4, 10, tyX4, rfl, by decide, rfl, by decide, in_X4, gw 196 (by decide +kernel) rfl, rfl, tyX4_ok, nmX4, rfl, by decide +kernel, by decide⟩
theorem fp_X5_184 : FP "SpanKeeper" 184 4 4 1 .long false := ⟨RX4, TX4, 10, tyX4, rfl, by decide, rfl, by decide, in_X4, gw 197 (by decide +kernel) rfl, rfl, tyX4_ok, nmX4, rfl, by decide +kernel, by decide⟩
theorem fp_X5_188 : FP "SpanKeeper" 188 4 3 1 .long false := ⟨RX4, TX4, 10, tyX4, rfl, by decide, rfl, by decide, in_X4, gw 195 (by decide +kernel) rfl, rfl, tyX4_ok, nmX4, rfl, by decide +kernel, by decide⟩
theorem fp_X5_21 : FP "SpanKeeper" 21 5 2 0 .boolean false := ⟨RX5, TX5, 9, tyX5, rfl, by decide, rfl, by decide, in_X5, gw 230 (by decide +kernel) rfl, rfl, tyX5_ok, nmX5, rfl, by decide +kernel, by decide⟩
theorem fp_X5_217 : FP "SpanKeeper" 217 2 8 0 .int false := ⟨RX2, TX2, 9, tyX2, rfl, by decide, rfl, by decide, in_X2, gw 100 (by decide +kernel) rfl, rfl, tyX2_ok, nmX2, rfl, by decide +kernel, by decide⟩
theorem fp_X5_51 : FP "SpanKeeper" 51 5 8 0 .int false := ⟨RX5, TX5, 9, tyX5, rfl, by decide, rfl, by decide, in_X5, gw 236 (by decide +kernel) rfl, rfl, tyX5_ok, nmX5, rfl, by decide +kernel, by decide⟩
theorem fp_X5_93 : FP "SpanKeeper" 93 2 4 0 .int false := ⟨RX2, TX2, 9, tyX2, rfl, by decide, rfl, by decide, in_X2, gw 92 (by decide +kernel) rfl, rfl, tyX2_ok, nmX2, rfl, by decide +kernel, by decide⟩
theorem fp_X6_122 : FP "SpanKeeperModel" 122 6 7 0 .int false := ⟨RX6, TX6, 42, tyX6, rfl, by decide, rfl, by decide, in_X6, gw 689 (by decide +kernel) rfl, rfl, tyX6_ok, nmX6, rfl, by decide +kernel, by decide⟩
theorem fp_X6_128 : FP "SpanKeeperModel" 128 6 16 0 .int false := ⟨RX6, TX6, 42, tyX6, rfl, by decide, rfl, by decide, in_X6, gw 698 (by decide +kernel) rfl, rfl, tyX6_ok, nmX6, rfl, by decide +kernel, by decide⟩
theorem fp_X6_131 : FP "SpanKeeperModel" 131 6 17 0 .int false := ⟨RX6, TX6, 42, tyX6, rfl, by decide, rfl, by decide, in_X6, gw 699 (by decide +kernel) rfl, rfl, tyX6_ok, nmX6, rfl, by decide +kernel, by decide⟩
theorem fp_X6_138 : FP "SpanKeeperModel" 138 6 19 0 .boolean false := ⟨RX6, TX6, 42, tyX6, rfl, by decide, rfl, by decide, in_X6, gw 701 (by decide +kernel) rfl, rfl, tyX6_ok, nmX6, rfl, by decide +kernel, by decide⟩
theorem fp_X6_146 : FP "SpanKeeperModel" 146 6 18 0 .int false := ⟨RX6, TX6, 42, tyX6, rfl, by decide, rfl, by decide, in_X6, gw 700 (by decide +kernel) rfl, rfl, tyX6_ok, nmX6, rfl, by decide +kernel, by decide⟩
theorem fp_X6_193 : FP "SpanKeeperModel" 193 6 20 0 .boolean false := ⟨RX6, TX6, 42, tyX6, rfl, by decide, rfl, by decide, in_X6, gw 702 (by decide +kernel) rfl, rfl, tyX6_ok, nmX6, rfl, by decide +kernel, by decide⟩
theorem fp_X6_211 : FP "SpanKeeperModel" 211 6 26 1 .long false := ⟨RX6, TX6, 42, tyX6, rfl, by decide, rfl, by decide, in_X6, gw 708 (by decide +kernel) rfl, rfl, tyX6_ok, nmX6, rfl, by decide +kernel, by decide⟩
theorem fp_X6_217 : FP "SpanKeeperModel" 217 6 27 1 .long false := ⟨RX6, TX6, 42, tyX6, rfl, by decide, rfl, by decide, in_X6, gw 709 (by decide +kernel) rfl, rfl, tyX6_ok, nmX6, rfl, by decide +kernel, by decide⟩
theorem fp_X6_251 : FP "SpanKeeperModel" 251 6 29 0 .int false := ⟨RX6, TX6, 42, tyX6, rfl, by decide, rfl, by decide, in_X6, gw 711 (by decide +kernel) rfl, rfl, tyX6_ok, nmX6, rfl, by decide +kernel, by decide⟩
theorem fp_X6_274 : FP "SpanKeeperModel" 274 6 33 1 .long false := ⟨RX6, TX6, 42, tyX6, rfl, by decide, rfl, by decide, in_X6, gw 715 (by decide +kernel) rfl, rfl, tyX6_ok, nmX6, rfl, by decide +kernel, by decide⟩
theorem fp_X6_277 : FP "SpanKeeperModel" 277 6 34 1 .long false := ⟨RX6, TX6, 42, tyX6, rfl, by decide, rfl, by decide, in_X6, gw 716 (by decide +kernel) rfl, rfl, tyX6_ok, nmX6, rfl, by decide +kernel, by decide⟩
theorem fp_X6_297 : FP "SpanKeeperModel" 297 6 36 0 .int false := ⟨RX6, TX6, 42, tyX6, rfl, by decide, rfl, by decide, in_X6, gw 718 (by decide +kernel) rfl, rfl, tyX6_ok, nmX6, rfl, by decide +kernel, by decide⟩
theorem fp_X6_315 : FP "SpanKeeperModel" 315 6 13 0 .int false := ⟨RX6, TX6, 42, tyX6, rfl, by decide, rfl, by decide, in_X6, gw 695 (by decide +kernel) rfl, rfl, tyX6_ok, nmX6, rfl, by decide +kernel, by decide⟩
theorem fp_X6_318 : FP "SpanKeeperModel" 318 6 38 0 .int false := ⟨RX6, TX6, 42, tyX6, rfl, by decide, rfl, by decide, in_X6, gw 720 (by decide +kernel) rfl, rfl, tyX6_ok, nmX6, rfl, by decide +kernel, by decide⟩
theorem fp_X6_321 : FP "SpanKeeperModel" 321 6 14 0 .boolean false := ⟨RX6, TX6, 42, tyX6, rfl, by decide, rfl, by decide, in_X6, gw 696 (by decide +kernel) rfl, rfl, tyX6_ok, nmX6, rfl, by decide +kernel, by decide⟩
theorem k_X1_22 : Cond.constantLong "SpanKeeper$SpanRow" 22 (-9223372036854775808 : Int64) ∈ lw_g := gw 472 (by decide +kernel) rfl
theorem k_X1_43 : Cond.constantLong "SpanKeeper$SpanRow" 43 (9223372036854775807 : Int64) ∈ lw_g := gw 480 (by decide +kernel) rfl
theorem k_X1_45 : Cond.constantLong "SpanKeeper$SpanRow" 45 (-1 : Int64) ∈ lw_g := gw 495 (by decide +kernel) rfl
theorem k_X4_119 : Cond.constantLong "SpanKeeper$Thought" 119 (-9223372036854775807 : Int64) ∈ lw_g := gw 520 (by decide +kernel) rfl
theorem k_X4_133 : Cond.constant "SpanKeeper$Thought" 133 (1103515245 : Int32) ∈ lw_g := gw 611 (by decide +kernel) rfl
theorem k_X4_139 : Cond.constant "SpanKeeper$Thought" 139 (2147483647 : Int32) ∈ lw_g := gw 612 (by decide +kernel) rfl
theorem k_X4_140 : Cond.constant "SpanKeeper$Thought" 140 (65536 : Int32) ∈ lw_g := gw 613 (by decide +kernel) rfl
theorem k_X5_125 : Cond.constantLong "SpanKeeper" 125 (-9223372036854775808 : Int64) ∈ lw_g := gw 441 (by decide +kernel) rfl
theorem k_X5_141 : Cond.constantLong "SpanKeeper" 141 (-9223372036854775807 : Int64) ∈ lw_g := gw 529 (by decide +kernel) rfl
theorem k_X5_194 : Cond.constantLong "SpanKeeper" 194 (-1000 : Int64) ∈ lw_g := gw 582 (by decide +kernel) rfl
theorem k_X6_105 : Cond.constantLong "SpanKeeperModel" 105 (2 : Int64) ∈ lw_g := gw 820 (by decide +kernel) rfl
theorem k_X6_107 : Cond.constantLong "SpanKeeperModel" 107 (-99 : Int64) ∈ lw_g := gw 821 (by decide +kernel) rfl
theorem k_X6_109 : Cond.constantLong "SpanKeeperModel" 109 (99 : Int64) ∈ lw_g := gw 822 (by decide +kernel) rfl
theorem k_X6_111 : Cond.constantLong "SpanKeeperModel" 111 (20 : Int64) ∈ lw_g := gw 823 (by decide +kernel) rfl
theorem k_X6_113 : Cond.constantLong "SpanKeeperModel" 113 (4 : Int64) ∈ lw_g := gw 828 (by decide +kernel) rfl
theorem k_X6_126 : Cond.constantLong "SpanKeeperModel" 126 (127 : Int64) ∈ lw_g := gw 841 (by decide +kernel) rfl
theorem k_X6_196 : Cond.constantLong "SpanKeeperModel" 196 (-1 : Int64) ∈ lw_g := gw 955 (by decide +kernel) rfl
theorem k_X6_198 : Cond.constantLong "SpanKeeperModel" 198 (-9223372036854775808 : Int64) ∈ lw_g := gw 918 (by decide +kernel) rfl
theorem k_X6_239 : Cond.constantLong "SpanKeeperModel" 239 (-9223372036854775807 : Int64) ∈ lw_g := gw 962 (by decide +kernel) rfl
theorem k_X6_286 : Cond.constantLong "SpanKeeperModel" 286 (-1000 : Int64) ∈ lw_g := gw 1024 (by decide +kernel) rfl
theorem k_X6_288 : Cond.constantLong "SpanKeeperModel" 288 (30 : Int64) ∈ lw_g := gw 1041 (by decide +kernel) rfl
theorem k_X6_290 : Cond.constant "SpanKeeperModel" 290 (1103515245 : Int32) ∈ lw_g := gw 1042 (by decide +kernel) rfl
theorem k_X6_291 : Cond.constant "SpanKeeperModel" 291 (2147483647 : Int32) ∈ lw_g := gw 1043 (by decide +kernel) rfl
theorem k_X6_292 : Cond.constant "SpanKeeperModel" 292 (65536 : Int32) ∈ lw_g := gw 1044 (by decide +kernel) rfl
theorem k_X6_306 : Cond.constantLong "SpanKeeperModel" 306 (3 : Int64) ∈ lw_g := gw 1064 (by decide +kernel) rfl
theorem k_X6_95 : Cond.constantLong "SpanKeeperModel" 95 (5 : Int64) ∈ lw_g := gw 816 (by decide +kernel) rfl
set_option maxRecDepth 100000 in
theorem mk_J7_fill_d0a16 : MK yJ7_fill_d0a16 cJ7_fill_d0a16 5 none 2 := ⟨gw 642 rfl rfl, gw 56 (by decide +kernel) rfl, by decide +kernel, by decide +kernel, by decide +kernel⟩
set_option maxRecDepth 100000 in
theorem mk_X0_hasSource : MK yX0_hasSource cX0_hasSource 2 (some .boolean) 1 := ⟨gw 581 rfl rfl, gw 61 (by decide +kernel) rfl, by decide +kernel, by decide +kernel, by decide +kernel⟩
set_option maxRecDepth 100000 in
theorem mk_X0_isLike : MK yX0_isLike cX0_isLike 3 (some .boolean) 1 := ⟨gw 436 rfl rfl, gw 61 (by decide +kernel) rfl, by decide +kernel, by decide +kernel, by decide +kernel⟩
set_option maxRecDepth 100000 in
theorem mk_X0_isMade : MK yX0_isMade cX0_isMade 1 (some .boolean) 1 := ⟨gw 359 rfl rfl, gw 61 (by decide +kernel) rfl, by decide +kernel, by decide +kernel, by decide +kernel⟩
set_option maxRecDepth 100000 in
theorem mk_X1_difference : MK yX1_difference cX1_difference 6 none 5 := ⟨gw 484 rfl rfl, gw 59 (by decide +kernel) rfl, by decide +kernel, by decide +kernel, by decide +kernel⟩
set_option maxRecDepth 100000 in
theorem mk_X1_differenceFits : MK yX1_differenceFits cX1_differenceFits 4 (some .boolean) 2 := ⟨gw 487 rfl rfl, gw 59 (by decide +kernel) rfl, by decide +kernel, by decide +kernel, by decide +kernel⟩
set_option maxRecDepth 100000 in
theorem mk_X1_fromTo : MK yX1_fromTo cX1_fromTo 6 none 3 := ⟨gw 467 rfl rfl, gw 59 (by decide +kernel) rfl, by decide +kernel, by decide +kernel, by decide +kernel⟩
set_option maxRecDepth 100000 in
theorem mk_X1_less : MK yX1_less cX1_less 6 none 3 := ⟨gw 471 rfl rfl, gw 59 (by decide +kernel) rfl, by decide +kernel, by decide +kernel, by decide +kernel⟩
set_option maxRecDepth 100000 in
theorem mk_X1_product : MK yX1_product cX1_product 14 none 5 := ⟨gw 491 rfl rfl, gw 59 (by decide +kernel) rfl, by decide +kernel, by decide +kernel, by decide +kernel⟩
set_option maxRecDepth 100000 in
theorem mk_X1_productFits : MK yX1_productFits cX1_productFits 5 (some .boolean) 2 := ⟨gw 494 rfl rfl, gw 59 (by decide +kernel) rfl, by decide +kernel, by decide +kernel, by decide +kernel⟩
set_option maxRecDepth 100000 in
theorem mk_X1_sum : MK yX1_sum cX1_sum 6 none 5 := ⟨gw 476 rfl rfl, gw 59 (by decide +kernel) rfl, by decide +kernel, by decide +kernel, by decide +kernel⟩
set_option maxRecDepth 100000 in
theorem mk_X1_sumFits : MK yX1_sumFits cX1_sumFits 4 (some .boolean) 2 := ⟨gw 479 rfl rfl, gw 59 (by decide +kernel) rfl, by decide +kernel, by decide +kernel, by decide +kernel⟩
set_option maxRecDepth 100000 in
theorem mk_X2_becomeLike : MK yX2_becomeLike cX2_becomeLike 3 none 1 := ⟨gw 658 rfl rfl, gw 55 (by decide +kernel) rfl, by decide +kernel, by decide +kernel, by decide +kernel⟩
set_option maxRecDepth 100000 in
theorem mk_X2_costOf : MK yX2_costOf cX2_costOf 4 (some .int) 1 := ⟨gw 594 rfl rfl, gw 55 (by decide +kernel) rfl, by decide +kernel, by decide +kernel, by decide +kernel⟩
set_option maxRecDepth 100000 in
theorem mk_X2_highOf : MK yX2_highOf cX2_highOf 2 (some .int) 1 := ⟨gw 281 rfl rfl, gw 55 (by decide +kernel) rfl, by decide +kernel, by decide +kernel, by decide +kernel⟩
set_option maxRecDepth 100000 in
theorem mk_X2_lowOf : MK yX2_lowOf cX2_lowOf 2 (some .int) 1 := ⟨gw 277 rfl rfl, gw 55 (by decide +kernel) rfl, by decide +kernel, by decide +kernel, by decide +kernel⟩
set_option maxRecDepth 100000 in
theorem mk_X2_rowOf : MK yX2_rowOf cX2_rowOf 2 (some (.array .int)) 1 := ⟨gw 269 rfl rfl, gw 55 (by decide +kernel) rfl, by decide +kernel, by decide +kernel, by decide +kernel⟩
set_option maxRecDepth 100000 in
theorem mk_X2_spanBehind : MK yX2_spanBehind cX2_spanBehind 3 (some .int) 2 := ⟨gw 628 rfl rfl, gw 55 (by decide +kernel) rfl, by decide +kernel, by decide +kernel, by decide +kernel⟩
set_option maxRecDepth 100000 in
theorem mk_X3_add : MK yX3_add cX3_add 5 (some .int) 3 := ⟨gw 317 rfl rfl, gw 57 (by decide +kernel) rfl, by decide +kernel, by decide +kernel, by decide +kernel⟩
set_option maxRecDepth 100000 in
theorem mk_X3_append : MK yX3_append cX3_append 2 (some .boolean) 1 := ⟨gw 289 rfl rfl, gw 57 (by decide +kernel) rfl, by decide +kernel, by decide +kernel, by decide +kernel⟩
set_option maxRecDepth 100000 in
theorem mk_X3_here : MK yX3_here cX3_here 1 (some .int) 0 := ⟨gw 313 rfl rfl, gw 57 (by decide +kernel) rfl, by decide +kernel, by decide +kernel, by decide +kernel⟩
set_option maxRecDepth 100000 in
theorem mk_X3_isFigure : MK yX3_isFigure cX3_isFigure 1 (some .boolean) 1 := ⟨gw 320 rfl rfl, gw 57 (by decide +kernel) rfl, by decide +kernel, by decide +kernel, by decide +kernel⟩
set_option maxRecDepth 100000 in
theorem mk_X3_join : MK yX3_join cX3_join 6 (some .int) 4 := ⟨gw 328 rfl rfl, gw 57 (by decide +kernel) rfl, by decide +kernel, by decide +kernel, by decide +kernel⟩
set_option maxRecDepth 100000 in
theorem mk_X3_readFactor : MK yX3_readFactor cX3_readFactor 5 (some .int) 1 := ⟨gw 309 rfl rfl, gw 57 (by decide +kernel) rfl, by decide +kernel, by decide +kernel, by decide +kernel⟩
set_option maxRecDepth 100000 in
theorem mk_X3_readNumber : MK yX3_readNumber cX3_readNumber 4 (some .int) 0 := ⟨gw 324 rfl rfl, gw 57 (by decide +kernel) rfl, by decide +kernel, by decide +kernel, by decide +kernel⟩
set_option maxRecDepth 100000 in
theorem mk_X3_readProduct : MK yX3_readProduct cX3_readProduct 6 (some .int) 1 := ⟨gw 305 rfl rfl, gw 57 (by decide +kernel) rfl, by decide +kernel, by decide +kernel, by decide +kernel⟩
set_option maxRecDepth 100000 in
theorem mk_X3_readSum : MK yX3_readSum cX3_readSum 7 (some .int) 1 := ⟨gw 301 rfl rfl, gw 57 (by decide +kernel) rfl, by decide +kernel, by decide +kernel, by decide +kernel⟩
set_option maxRecDepth 100000 in
theorem mk_X4_carry : MK yX4_carry cX4_carry 3 none 1 := ⟨gw 459 rfl rfl, gw 58 (by decide +kernel) rfl, by decide +kernel, by decide +kernel, by decide +kernel⟩
set_option maxRecDepth 100000 in
theorem mk_X4_carryPart : MK yX4_carryPart cX4_carryPart 6 none 2 := ⟨gw 463 rfl rfl, gw 58 (by decide +kernel) rfl, by decide +kernel, by decide +kernel, by decide +kernel⟩
set_option maxRecDepth 100000 in
theorem mk_X4_changeBy : MK yX4_changeBy cX4_changeBy 4 (some .int) 2 := ⟨gw 555 rfl rfl, gw 58 (by decide +kernel) rfl, by decide +kernel, by decide +kernel, by decide +kernel⟩
set_option maxRecDepth 100000 in
theorem mk_X4_changePart : MK yX4_changePart cX4_changePart 7 none 3 := ⟨gw 559 rfl rfl, gw 58 (by decide +kernel) rfl, by decide +kernel, by decide +kernel, by decide +kernel⟩
set_option maxRecDepth 100000 in
theorem mk_X4_drawBy : MK yX4_drawBy cX4_drawBy 6 none 2 := ⟨gw 610 rfl rfl, gw 58 (by decide +kernel) rfl, by decide +kernel, by decide +kernel, by decide +kernel⟩
set_option maxRecDepth 100000 in
theorem mk_X4_firstOverOf : MK yX4_firstOverOf cX4_firstOverOf 3 (some .int) 2 := ⟨gw 509 rfl rfl, gw 58 (by decide +kernel) rfl, by decide +kernel, by decide +kernel, by decide +kernel⟩
set_option maxRecDepth 100000 in
theorem mk_X4_hasWidth : MK yX4_hasWidth cX4_hasWidth 1 (some .boolean) 0 := ⟨gw 518 rfl rfl, gw 58 (by decide +kernel) rfl, by decide +kernel, by decide +kernel, by decide +kernel⟩
set_option maxRecDepth 100000 in
theorem mk_X4_stand : MK yX4_stand cX4_stand 4 none 3 := ⟨gw 455 rfl rfl, gw 58 (by decide +kernel) rfl, by decide +kernel, by decide +kernel, by decide +kernel⟩
set_option maxRecDepth 100000 in
theorem mk_X4_standAs : MK yX4_standAs cX4_standAs 3 none 1 := ⟨gw 449 rfl rfl, gw 58 (by decide +kernel) rfl, by decide +kernel, by decide +kernel, by decide +kernel⟩
set_option maxRecDepth 100000 in
theorem mk_X4_told : MK yX4_told cX4_told 2 (some .long) 1 := ⟨gw 514 rfl rfl, gw 58 (by decide +kernel) rfl, by decide +kernel, by decide +kernel, by decide +kernel⟩
set_option maxRecDepth 100000 in
theorem mk_X4_worthOf : MK yX4_worthOf cX4_worthOf 3 (some .long) 1 := ⟨gw 533 rfl rfl, gw 58 (by decide +kernel) rfl, by decide +kernel, by decide +kernel, by decide +kernel⟩
set_option maxRecDepth 100000 in
theorem mk_X4_worthOfPart : MK yX4_worthOfPart cX4_worthOfPart 5 (some .long) 2 := ⟨gw 537 rfl rfl, gw 58 (by decide +kernel) rfl, by decide +kernel, by decide +kernel, by decide +kernel⟩
set_option maxRecDepth 100000 in
theorem mk_X5_carryAsItIs : MK yX5_carryAsItIs cX5_carryAsItIs 2 none 1 := ⟨gw 445 rfl rfl, gw 54 (by decide +kernel) rfl, by decide +kernel, by decide +kernel, by decide +kernel⟩
set_option maxRecDepth 100000 in
theorem mk_X5_carrySplit : MK yX5_carrySplit cX5_carrySplit 8 none 3 := ⟨gw 572 rfl rfl, gw 54 (by decide +kernel) rfl, by decide +kernel, by decide +kernel, by decide +kernel⟩
set_option maxRecDepth 100000 in
theorem mk_X5_formulaOf : MK yX5_formulaOf cX5_formulaOf 2 (some (.object "SpanKeeper$Formula")) 1 := ⟨gw 428 rfl rfl, gw 54 (by decide +kernel) rfl, by decide +kernel, by decide +kernel, by decide +kernel⟩
set_option maxRecDepth 100000 in
theorem mk_X5_formulasOver : MK yX5_formulasOver cX5_formulasOver 4 (some .int) 0 := ⟨gw 671 rfl rfl, gw 54 (by decide +kernel) rfl, by decide +kernel, by decide +kernel, by decide +kernel⟩
set_option maxRecDepth 100000 in
theorem mk_X5_greatestCommon : MK yX5_greatestCommon cX5_greatestCommon 3 (some .int) 2 := ⟨gw 616 rfl rfl, gw 54 (by decide +kernel) rfl, by decide +kernel, by decide +kernel, by decide +kernel⟩
set_option maxRecDepth 100000 in
theorem mk_X5_isList : MK yX5_isList cX5_isList 1 (some .boolean) 1 := ⟨gw 635 rfl rfl, gw 54 (by decide +kernel) rfl, by decide +kernel, by decide +kernel, by decide +kernel⟩
set_option maxRecDepth 100000 in
theorem mk_X5_isSource : MK yX5_isSource cX5_isSource 1 (some .boolean) 1 := ⟨gw 262 rfl rfl, gw 54 (by decide +kernel) rfl, by decide +kernel, by decide +kernel, by decide +kernel⟩
set_option maxRecDepth 100000 in
theorem mk_X5_keepWay : MK yX5_keepWay cX5_keepWay 3 none 1 := ⟨gw 505 rfl rfl, gw 54 (by decide +kernel) rfl, by decide +kernel, by decide +kernel, by decide +kernel⟩
set_option maxRecDepth 100000 in
theorem mk_X5_mayBecome : MK yX5_mayBecome cX5_mayBecome 2 (some .boolean) 2 := ⟨gw 265 rfl rfl, gw 54 (by decide +kernel) rfl, by decide +kernel, by decide +kernel, by decide +kernel⟩
set_option maxRecDepth 100000 in
theorem mk_X5_sourcesWithSpan : MK yX5_sourcesWithSpan cX5_sourcesWithSpan 3 (some .int) 0 := ⟨gw 675 rfl rfl, gw 54 (by decide +kernel) rfl, by decide +kernel, by decide +kernel, by decide +kernel⟩
set_option maxRecDepth 100000 in
theorem mk_X5_widthWithHalf : MK yX5_widthWithHalf cX5_widthWithHalf 6 (some .long) 2 := ⟨gw 598 rfl rfl, gw 54 (by decide +kernel) rfl, by decide +kernel, by decide +kernel, by decide +kernel⟩
set_option maxRecDepth 100000 in
theorem mk_X5_worthAtCorner : MK yX5_worthAtCorner cX5_worthAtCorner 5 (some .long) 2 := ⟨gw 545 rfl rfl, gw 54 (by decide +kernel) rfl, by decide +kernel, by decide +kernel, by decide +kernel⟩
set_option maxRecDepth 100000 in
theorem mk_X6_areAlike : MK yX6_areAlike cX6_areAlike 7 (some .boolean) 4 := ⟨gw 896 rfl rfl, gw 60 (by decide +kernel) rfl, by decide +kernel, by decide +kernel, by decide +kernel⟩
set_option maxRecDepth 100000 in
theorem mk_X6_at : MK yX6_at cX6_at 2 (some .int) 2 := ⟨gw 876 rfl rfl, gw 60 (by decide +kernel) rfl, by decide +kernel, by decide +kernel, by decide +kernel⟩
set_option maxRecDepth 100000 in
theorem mk_X6_changeOf : MK yX6_changeOf cX6_changeOf 9 (some .int) 2 := ⟨gw 1002 rfl rfl, gw 60 (by decide +kernel) rfl, by decide +kernel, by decide +kernel, by decide +kernel⟩
set_option maxRecDepth 100000 in
theorem mk_X6_changes : MK yX6_changes cX6_changes 9 none 4 := ⟨gw 1006 rfl rfl, gw 60 (by decide +kernel) rfl, by decide +kernel, by decide +kernel, by decide +kernel⟩
set_option maxRecDepth 100000 in
theorem mk_X6_comes : MK yX6_comes cX6_comes 6 (some .int) 4 := ⟨gw 873 rfl rfl, gw 60 (by decide +kernel) rfl, by decide +kernel, by decide +kernel, by decide +kernel⟩
set_option maxRecDepth 100000 in
theorem mk_X6_copies : MK yX6_copies cX6_copies 3 none 3 := ⟨gw 1083 rfl rfl, gw 60 (by decide +kernel) rfl, by decide +kernel, by decide +kernel, by decide +kernel⟩
set_option maxRecDepth 100000 in
theorem mk_X6_depthOf : MK yX6_depthOf cX6_depthOf 5 (some .int) 2 := ⟨gw 909 rfl rfl, gw 60 (by decide +kernel) rfl, by decide +kernel, by decide +kernel, by decide +kernel⟩
set_option maxRecDepth 100000 in
theorem mk_X6_factor : MK yX6_factor cX6_factor 4 (some .int) 0 := ⟨gw 857 rfl rfl, gw 60 (by decide +kernel) rfl, by decide +kernel, by decide +kernel, by decide +kernel⟩
set_option maxRecDepth 100000 in
theorem mk_X6_goesWay : MK yX6_goesWay cX6_goesWay 6 none 1 := ⟨gw 961 rfl rfl, gw 60 (by decide +kernel) rfl, by decide +kernel, by decide +kernel, by decide +kernel⟩
set_option maxRecDepth 100000 in
theorem mk_X6_highOf : MK yX6_highOf cX6_highOf 2 (some .long) 1 := ⟨gw 970 rfl rfl, gw 60 (by decide +kernel) rfl, by decide +kernel, by decide +kernel, by decide +kernel⟩
set_option maxRecDepth 100000 in
theorem mk_X6_isFormula : MK yX6_isFormula cX6_isFormula 2 (some .boolean) 1 := ⟨gw 888 rfl rfl, gw 60 (by decide +kernel) rfl, by decide +kernel, by decide +kernel, by decide +kernel⟩
set_option maxRecDepth 100000 in
theorem mk_X6_isIn : MK yX6_isIn cX6_isIn 6 (some .boolean) 3 := ⟨gw 819 rfl rfl, gw 60 (by decide +kernel) rfl, by decide +kernel, by decide +kernel, by decide +kernel⟩
set_option maxRecDepth 100000 in
theorem mk_X6_isList : MK yX6_isList cX6_isList 1 (some .boolean) 1 := ⟨gw 1063 rfl rfl, gw 60 (by decide +kernel) rfl, by decide +kernel, by decide +kernel, by decide +kernel⟩
set_option maxRecDepth 100000 in
theorem mk_X6_isSource : MK yX6_isSource cX6_isSource 1 (some .boolean) 1 := ⟨gw 815 rfl rfl, gw 60 (by decide +kernel) rfl, by decide +kernel, by decide +kernel, by decide +kernel⟩
set_option maxRecDepth 100000 in
theorem mk_X6_joins : MK yX6_joins cX6_joins 5 none 4 := ⟨gw 938 rfl rfl, gw 60 (by decide +kernel) rfl, by decide +kernel, by decide +kernel, by decide +kernel⟩
set_option maxRecDepth 100000 in
theorem mk_X6_lays : MK yX6_lays cX6_lays 4 none 3 := ⟨gw 930 rfl rfl, gw 60 (by decide +kernel) rfl, by decide +kernel, by decide +kernel, by decide +kernel⟩
set_option maxRecDepth 100000 in
theorem mk_X6_laysBox : MK yX6_laysBox cX6_laysBox 2 none 0 := ⟨gw 926 rfl rfl, gw 60 (by decide +kernel) rfl, by decide +kernel, by decide +kernel, by decide +kernel⟩
set_option maxRecDepth 100000 in
theorem mk_X6_laysPoint : MK yX6_laysPoint cX6_laysPoint 3 none 2 := ⟨gw 990 rfl rfl, gw 60 (by decide +kernel) rfl, by decide +kernel, by decide +kernel, by decide +kernel⟩
set_option maxRecDepth 100000 in
theorem mk_X6_less : MK yX6_less cX6_less 7 (some .long) 2 := ⟨gw 942 rfl rfl, gw 60 (by decide +kernel) rfl, by decide +kernel, by decide +kernel, by decide +kernel⟩
set_option maxRecDepth 100000 in
theorem mk_X6_lettersOf : MK yX6_lettersOf cX6_lettersOf 4 (some .int) 1 := ⟨gw 901 rfl rfl, gw 60 (by decide +kernel) rfl, by decide +kernel, by decide +kernel, by decide +kernel⟩
set_option maxRecDepth 100000 in
theorem mk_X6_likeOf : MK yX6_likeOf cX6_likeOf 10 (some .int) 2 := ⟨gw 892 rfl rfl, gw 60 (by decide +kernel) rfl, by decide +kernel, by decide +kernel, by decide +kernel⟩
set_option maxRecDepth 100000 in
theorem mk_X6_lowOf : MK yX6_lowOf cX6_lowOf 2 (some .long) 1 := ⟨gw 966 rfl rfl, gw 60 (by decide +kernel) rfl, by decide +kernel, by decide +kernel, by decide +kernel⟩
set_option maxRecDepth 100000 in
theorem mk_X6_lowest : MK yX6_lowest cX6_lowest 11 (some .long) 3 := ⟨gw 1047 rfl rfl, gw 60 (by decide +kernel) rfl, by decide +kernel, by decide +kernel, by decide +kernel⟩
set_option maxRecDepth 100000 in
theorem mk_X6_next : MK yX6_next cX6_next 1 (some .int) 0 := ⟨gw 861 rfl rfl, gw 60 (by decide +kernel) rfl, by decide +kernel, by decide +kernel, by decide +kernel⟩
set_option maxRecDepth 100000 in
theorem mk_X6_of : MK yX6_of cX6_of 3 (some .int) 2 := ⟨gw 827 rfl rfl, gw 60 (by decide +kernel) rfl, by decide +kernel, by decide +kernel, by decide +kernel⟩
set_option maxRecDepth 100000 in
theorem mk_X6_opened : MK yX6_opened cX6_opened 4 (some .int) 0 := ⟨gw 865 rfl rfl, gw 60 (by decide +kernel) rfl, by decide +kernel, by decide +kernel, by decide +kernel⟩
set_option maxRecDepth 100000 in
theorem mk_X6_overMany : MK yX6_overMany cX6_overMany 3 (some .int) 0 := ⟨gw 1095 rfl rfl, gw 60 (by decide +kernel) rfl, by decide +kernel, by decide +kernel, by decide +kernel⟩
set_option maxRecDepth 100000 in
theorem mk_X6_product : MK yX6_product cX6_product 7 (some .long) 2 := ⟨gw 954 rfl rfl, gw 60 (by decide +kernel) rfl, by decide +kernel, by decide +kernel, by decide +kernel⟩
set_option maxRecDepth 100000 in
theorem mk_X6_products : MK yX6_products cX6_products 4 (some .int) 0 := ⟨gw 853 rfl rfl, gw 60 (by decide +kernel) rfl, by decide +kernel, by decide +kernel, by decide +kernel⟩
set_option maxRecDepth 100000 in
theorem mk_X6_products_ : MK yX6_products_ cX6_products_ 17 none 4 := ⟨gw 950 rfl rfl, gw 60 (by decide +kernel) rfl, by decide +kernel, by decide +kernel, by decide +kernel⟩
set_option maxRecDepth 100000 in
theorem mk_X6_rootOf : MK yX6_rootOf cX6_rootOf 2 (some .int) 1 := ⟨gw 905 rfl rfl, gw 60 (by decide +kernel) rfl, by decide +kernel, by decide +kernel, by decide +kernel⟩
set_option maxRecDepth 100000 in
theorem mk_X6_spanOf : MK yX6_spanOf cX6_spanOf 2 (some .int) 1 := ⟨gw 836 rfl rfl, gw 60 (by decide +kernel) rfl, by decide +kernel, by decide +kernel, by decide +kernel⟩
set_option maxRecDepth 100000 in
theorem mk_X6_spannedMany : MK yX6_spannedMany cX6_spannedMany 3 (some .int) 0 := ⟨gw 1099 rfl rfl, gw 60 (by decide +kernel) rfl, by decide +kernel, by decide +kernel, by decide +kernel⟩
set_option maxRecDepth 100000 in
theorem mk_X6_spans : MK yX6_spans cX6_spans 4 (some .boolean) 1 := ⟨gw 934 rfl rfl, gw 60 (by decide +kernel) rfl, by decide +kernel, by decide +kernel, by decide +kernel⟩
set_option maxRecDepth 100000 in
theorem mk_X6_spansNow : MK yX6_spansNow cX6_spansNow 2 (some .boolean) 1 := ⟨gw 922 rfl rfl, gw 60 (by decide +kernel) rfl, by decide +kernel, by decide +kernel, by decide +kernel⟩
set_option maxRecDepth 100000 in
theorem mk_X6_splits : MK yX6_splits cX6_splits 6 none 3 := ⟨gw 1019 rfl rfl, gw 60 (by decide +kernel) rfl, by decide +kernel, by decide +kernel, by decide +kernel⟩
set_option maxRecDepth 100000 in
theorem mk_X6_sum : MK yX6_sum cX6_sum 7 (some .long) 2 := ⟨gw 946 rfl rfl, gw 60 (by decide +kernel) rfl, by decide +kernel, by decide +kernel, by decide +kernel⟩
set_option maxRecDepth 100000 in
theorem mk_X6_sums : MK yX6_sums cX6_sums 5 (some .int) 0 := ⟨gw 849 rfl rfl, gw 60 (by decide +kernel) rfl, by decide +kernel, by decide +kernel, by decide +kernel⟩
set_option maxRecDepth 100000 in
theorem mk_X6_valueOf : MK yX6_valueOf cX6_valueOf 2 (some .int) 1 := ⟨gw 832 rfl rfl, gw 60 (by decide +kernel) rfl, by decide +kernel, by decide +kernel, by decide +kernel⟩
set_option maxRecDepth 100000 in
theorem mk_X6_widthBy : MK yX6_widthBy cX6_widthBy 4 (some .long) 1 := ⟨gw 978 rfl rfl, gw 60 (by decide +kernel) rfl, by decide +kernel, by decide +kernel, by decide +kernel⟩
set_option maxRecDepth 100000 in
theorem mk_X6_widthNow : MK yX6_widthNow cX6_widthNow 2 (some .long) 1 := ⟨gw 974 rfl rfl, gw 60 (by decide +kernel) rfl, by decide +kernel, by decide +kernel, by decide +kernel⟩
set_option maxRecDepth 100000 in
theorem mk_X6_wrong : MK yX6_wrong cX6_wrong 1 (some .int) 0 := ⟨gw 869 rfl rfl, gw 60 (by decide +kernel) rfl, by decide +kernel, by decide +kernel, by decide +kernel⟩
theorem ml_X0_75 : Cond.methodLink "SpanKeeper$Formula" 75 ⟨"SpanKeeper$Formula", "isMade", "(I)Z"⟩ ∈ lw_g := gw 357 (by decide +kernel) rfl
theorem ml_X1_24 : Cond.methodLink "SpanKeeper$SpanRow" 24 ⟨"SpanKeeper$SpanRow", "sumFits", "(JJ)Z"⟩ ∈ lw_g := gw 477 (by decide +kernel) rfl
theorem ml_X1_28 : Cond.methodLink "SpanKeeper$SpanRow" 28 ⟨"SpanKeeper$SpanRow", "differenceFits", "(JJ)Z"⟩ ∈ lw_g := gw 485 (by decide +kernel) rfl
theorem ml_X1_31 : Cond.methodLink "SpanKeeper$SpanRow" 31 ⟨"SpanKeeper$SpanRow", "productFits", "(JJ)Z"⟩ ∈ lw_g := gw 492 (by decide +kernel) rfl
theorem ml_X1_34 : Cond.methodLink "SpanKeeper$SpanRow" 34 ⟨"java/lang/Math", "min", "(JJ)J"⟩ ∈ lw_g := gw 496 (by decide +kernel) rfl
theorem ml_X1_40 : Cond.methodLink "SpanKeeper$SpanRow" 40 ⟨"java/lang/Math", "max", "(JJ)J"⟩ ∈ lw_g := gw 499 (by decide +kernel) rfl
theorem ml_X2_49 : Cond.methodLink "SpanKeeper$State" 49 ⟨"java/lang/System", "arraycopy", "(Ljava/lang/Object;ILjava/lang/Object;II)V"⟩ ∈ lw_g := gw 659 (by decide +kernel) rfl
theorem ml_X3_40 : Cond.methodLink "SpanKeeper$Tape" 40 ⟨"SpanKeeper$Tape", "readSum", "(I)I"⟩ ∈ lw_g := gw 298 (by decide +kernel) rfl
theorem ml_X3_49 : Cond.methodLink "SpanKeeper$Tape" 49 ⟨"SpanKeeper$Tape", "readProduct", "(I)I"⟩ ∈ lw_g := gw 302 (by decide +kernel) rfl
theorem ml_X3_52 : Cond.methodLink "SpanKeeper$Tape" 52 ⟨"SpanKeeper$Tape", "here", "()I"⟩ ∈ lw_g := gw 310 (by decide +kernel) rfl
theorem ml_X3_56 : Cond.methodLink "SpanKeeper$Tape" 56 ⟨"SpanKeeper$Tape", "join", "(IIII)I"⟩ ∈ lw_g := gw 325 (by decide +kernel) rfl
theorem ml_X3_60 : Cond.methodLink "SpanKeeper$Tape" 60 ⟨"SpanKeeper$Tape", "readFactor", "(I)I"⟩ ∈ lw_g := gw 306 (by decide +kernel) rfl
theorem ml_X3_63 : Cond.methodLink "SpanKeeper$Tape" 63 ⟨"SpanKeeper$Tape", "add", "(III)I"⟩ ∈ lw_g := gw 314 (by decide +kernel) rfl
theorem ml_X3_67 : Cond.methodLink "SpanKeeper$Tape" 67 ⟨"SpanKeeper$Tape", "isFigure", "(I)Z"⟩ ∈ lw_g := gw 318 (by decide +kernel) rfl
theorem ml_X3_71 : Cond.methodLink "SpanKeeper$Tape" 71 ⟨"SpanKeeper$Tape", "readNumber", "()I"⟩ ∈ lw_g := gw 321 (by decide +kernel) rfl
theorem ml_X4_101 : Cond.methodLink "SpanKeeper$Thought" 101 ⟨"SpanKeeper$SpanRow", "sum", "(ILSpanKeeper$SpanRow;ILSpanKeeper$SpanRow;I)V"⟩ ∈ lw_g := gw 473 (by decide +kernel) rfl
theorem ml_X4_105 : Cond.methodLink "SpanKeeper$Thought" 105 ⟨"SpanKeeper$SpanRow", "difference", "(ILSpanKeeper$SpanRow;ILSpanKeeper$SpanRow;I)V"⟩ ∈ lw_g := gw 481 (by decide +kernel) rfl
theorem ml_X4_108 : Cond.methodLink "SpanKeeper$Thought" 108 ⟨"SpanKeeper$SpanRow", "product", "(ILSpanKeeper$SpanRow;ILSpanKeeper$SpanRow;I)V"⟩ ∈ lw_g := gw 488 (by decide +kernel) rfl
theorem ml_X4_111 : Cond.methodLink "SpanKeeper$Thought" 111 ⟨"SpanKeeper$SpanRow", "differenceFits", "(JJ)Z"⟩ ∈ lw_g := gw 519 (by decide +kernel) rfl
theorem ml_X4_115 : Cond.methodLink "SpanKeeper$Thought" 115 ⟨"SpanKeeper$Thought", "hasWidth", "()Z"⟩ ∈ lw_g := gw 515 (by decide +kernel) rfl
theorem ml_X4_121 : Cond.methodLink "SpanKeeper$Thought" 121 ⟨"SpanKeeper$Formula", "isMade", "(I)Z"⟩ ∈ lw_g := gw 510 (by decide +kernel) rfl
theorem ml_X4_125 : Cond.methodLink "SpanKeeper$Thought" 125 ⟨"SpanKeeper$Thought", "changePart", "(LSpanKeeper$Formula;II)V"⟩ ∈ lw_g := gw 556 (by decide +kernel) rfl
theorem ml_X4_129 : Cond.methodLink "SpanKeeper$Thought" 129 ⟨"SpanKeeper$Thought", "worthOfPart", "(LSpanKeeper$Formula;I)J"⟩ ∈ lw_g := gw 534 (by decide +kernel) rfl
theorem ml_X4_51 : Cond.methodLink "SpanKeeper$Thought" 51 ⟨"SpanKeeper$State", "lowOf", "(I)I"⟩ ∈ lw_g := gw 450 (by decide +kernel) rfl
theorem ml_X4_57 : Cond.methodLink "SpanKeeper$Thought" 57 ⟨"SpanKeeper$State", "highOf", "(I)I"⟩ ∈ lw_g := gw 451 (by decide +kernel) rfl
theorem ml_X4_60 : Cond.methodLink "SpanKeeper$Thought" 60 ⟨"SpanKeeper$Thought", "stand", "(III)V"⟩ ∈ lw_g := gw 452 (by decide +kernel) rfl
theorem ml_X4_70 : Cond.methodLink "SpanKeeper$Thought" 70 ⟨"SpanKeeper$Thought", "carryPart", "(LSpanKeeper$Formula;I)V"⟩ ∈ lw_g := gw 460 (by decide +kernel) rfl
theorem ml_X4_93 : Cond.methodLink "SpanKeeper$Thought" 93 ⟨"SpanKeeper$SpanRow", "fromTo", "(IJJ)V"⟩ ∈ lw_g := gw 464 (by decide +kernel) rfl
theorem ml_X4_97 : Cond.methodLink "SpanKeeper$Thought" 97 ⟨"SpanKeeper$SpanRow", "less", "(ILSpanKeeper$SpanRow;I)V"⟩ ∈ lw_g := gw 468 (by decide +kernel) rfl
theorem ml_X5_100 : Cond.methodLink "SpanKeeper" 100 ⟨"SpanKeeper", "formulaOf", "(I)LSpanKeeper$Formula;"⟩ ∈ lw_g := gw 425 (by decide +kernel) rfl
theorem ml_X5_121 : Cond.methodLink "SpanKeeper" 121 ⟨"SpanKeeper$Formula", "isLike", "(LSpanKeeper$Formula;)Z"⟩ ∈ lw_g := gw 433 (by decide +kernel) rfl
theorem ml_X5_127 : Cond.methodLink "SpanKeeper" 127 ⟨"SpanKeeper", "carryAsItIs", "(LSpanKeeper$Formula;)V"⟩ ∈ lw_g := gw 442 (by decide +kernel) rfl
theorem ml_X5_134 : Cond.methodLink "SpanKeeper" 134 ⟨"SpanKeeper", "keepWay", "(LSpanKeeper$Formula;)V"⟩ ∈ lw_g := gw 502 (by decide +kernel) rfl
theorem ml_X5_137 : Cond.methodLink "SpanKeeper" 137 ⟨"SpanKeeper$Thought", "told", "(I)J"⟩ ∈ lw_g := gw 511 (by decide +kernel) rfl
theorem ml_X5_148 : Cond.methodLink "SpanKeeper" 148 ⟨"SpanKeeper$Thought", "worthOf", "(LSpanKeeper$Formula;)J"⟩ ∈ lw_g := gw 530 (by decide +kernel) rfl
theorem ml_X5_152 : Cond.methodLink "SpanKeeper" 152 ⟨"SpanKeeper", "worthAtCorner", "(LSpanKeeper$Formula;I)J"⟩ ∈ lw_g := gw 542 (by decide +kernel) rfl
theorem ml_X5_156 : Cond.methodLink "SpanKeeper" 156 ⟨"java/lang/Math", "min", "(JJ)J"⟩ ∈ lw_g := gw 546 (by decide +kernel) rfl
theorem ml_X5_162 : Cond.methodLink "SpanKeeper" 162 ⟨"java/lang/Math", "max", "(JJ)J"⟩ ∈ lw_g := gw 547 (by decide +kernel) rfl
theorem ml_X5_165 : Cond.methodLink "SpanKeeper" 165 ⟨"SpanKeeper$Thought", "changeBy", "(LSpanKeeper$Formula;I)I"⟩ ∈ lw_g := gw 552 (by decide +kernel) rfl
theorem ml_X5_169 : Cond.methodLink "SpanKeeper" 169 ⟨"SpanKeeper$Thought", "stand", "(III)V"⟩ ∈ lw_g := gw 564 (by decide +kernel) rfl
theorem ml_X5_173 : Cond.methodLink "SpanKeeper" 173 ⟨"SpanKeeper$Thought", "carry", "(LSpanKeeper$Formula;)V"⟩ ∈ lw_g := gw 456 (by decide +kernel) rfl
theorem ml_X5_176 : Cond.methodLink "SpanKeeper" 176 ⟨"SpanKeeper", "carrySplit", "(LSpanKeeper$Formula;II)V"⟩ ∈ lw_g := gw 569 (by decide +kernel) rfl
theorem ml_X5_180 : Cond.methodLink "SpanKeeper" 180 ⟨"SpanKeeper$Thought", "hasWidth", "()Z"⟩ ∈ lw_g := gw 577 (by decide +kernel) rfl
theorem ml_X5_191 : Cond.methodLink "SpanKeeper" 191 ⟨"SpanKeeper$Formula", "hasSource", "(I)Z"⟩ ∈ lw_g := gw 578 (by decide +kernel) rfl
theorem ml_X5_199 : Cond.methodLink "SpanKeeper" 199 ⟨"SpanKeeper$Thought", "standAs", "(LSpanKeeper$State;)V"⟩ ∈ lw_g := gw 446 (by decide +kernel) rfl
theorem ml_X5_203 : Cond.methodLink "SpanKeeper" 203 ⟨"SpanKeeper$State", "costOf", "(I)I"⟩ ∈ lw_g := gw 591 (by decide +kernel) rfl
theorem ml_X5_206 : Cond.methodLink "SpanKeeper" 206 ⟨"SpanKeeper", "widthWithHalf", "(LSpanKeeper$Formula;I)J"⟩ ∈ lw_g := gw 595 (by decide +kernel) rfl
theorem ml_X5_209 : Cond.methodLink "SpanKeeper" 209 ⟨"SpanKeeper$Thought", "drawBy", "(ILSpanKeeper$State;)V"⟩ ∈ lw_g := gw 607 (by decide +kernel) rfl
theorem ml_X5_213 : Cond.methodLink "SpanKeeper" 213 ⟨"SpanKeeper", "greatestCommon", "(II)I"⟩ ∈ lw_g := gw 614 (by decide +kernel) rfl
theorem ml_X5_229 : Cond.methodLink "SpanKeeper" 229 ⟨"SpanKeeper$State", "spanBehind", "(II)I"⟩ ∈ lw_g := gw 625 (by decide +kernel) rfl
theorem ml_X5_232 : Cond.methodLink "SpanKeeper" 232 ⟨"SpanKeeper", "isList", "(I)Z"⟩ ∈ lw_g := gw 633 (by decide +kernel) rfl
theorem ml_X5_235 : Cond.methodLink "SpanKeeper" 235 ⟨"java/util/Arrays", "fill", "([JJ)V"⟩ ∈ lw_g := gw 640 (by decide +kernel) rfl
theorem ml_X5_238 : Cond.methodLink "SpanKeeper" 238 ⟨"SpanKeeper$State", "becomeLike", "(LSpanKeeper$State;)V"⟩ ∈ lw_g := gw 655 (by decide +kernel) rfl
theorem ml_X5_241 : Cond.methodLink "SpanKeeper" 241 ⟨"SpanKeeper", "formulasOver", "()I"⟩ ∈ lw_g := gw 668 (by decide +kernel) rfl
theorem ml_X5_245 : Cond.methodLink "SpanKeeper" 245 ⟨"SpanKeeper", "sourcesWithSpan", "()I"⟩ ∈ lw_g := gw 672 (by decide +kernel) rfl
theorem ml_X5_251 : Cond.methodLink "SpanKeeper" 251 ⟨"SpanKeeper$Thought", "firstOverOf", "(LSpanKeeper$Formula;I)I"⟩ ∈ lw_g := gw 506 (by decide +kernel) rfl
theorem ml_X5_61 : Cond.methodLink "SpanKeeper" 61 ⟨"SpanKeeper", "isSource", "(I)Z"⟩ ∈ lw_g := gw 260 (by decide +kernel) rfl
theorem ml_X5_65 : Cond.methodLink "SpanKeeper" 65 ⟨"SpanKeeper", "mayBecome", "(II)Z"⟩ ∈ lw_g := gw 263 (by decide +kernel) rfl
theorem ml_X5_69 : Cond.methodLink "SpanKeeper" 69 ⟨"SpanKeeper$State", "rowOf", "(I)[I"⟩ ∈ lw_g := gw 266 (by decide +kernel) rfl
theorem ml_X5_73 : Cond.methodLink "SpanKeeper" 73 ⟨"SpanKeeper$State", "lowOf", "(I)I"⟩ ∈ lw_g := gw 274 (by decide +kernel) rfl
theorem ml_X5_77 : Cond.methodLink "SpanKeeper" 77 ⟨"SpanKeeper$State", "highOf", "(I)I"⟩ ∈ lw_g := gw 278 (by decide +kernel) rfl
theorem ml_X5_80 : Cond.methodLink "SpanKeeper" 80 ⟨"SpanKeeper$Tape", "append", "(I)Z"⟩ ∈ lw_g := gw 286 (by decide +kernel) rfl
theorem ml_X6_101 : Cond.methodLink "SpanKeeperModel" 101 ⟨"SpanKeeperModel", "isSource", "(I)Z"⟩ ∈ lw_g := gw 813 (by decide +kernel) rfl
theorem ml_X6_115 : Cond.methodLink "SpanKeeperModel" 115 ⟨"SpanKeeperModel", "valueOf", "(I)I"⟩ ∈ lw_g := gw 829 (by decide +kernel) rfl
theorem ml_X6_119 : Cond.methodLink "SpanKeeperModel" 119 ⟨"SpanKeeperModel", "spanOf", "(I)I"⟩ ∈ lw_g := gw 833 (by decide +kernel) rfl
theorem ml_X6_134 : Cond.methodLink "SpanKeeperModel" 134 ⟨"SpanKeeperModel", "at", "(II)I"⟩ ∈ lw_g := gw 874 (by decide +kernel) rfl
theorem ml_X6_142 : Cond.methodLink "SpanKeeperModel" 142 ⟨"SpanKeeperModel", "next", "()I"⟩ ∈ lw_g := gw 858 (by decide +kernel) rfl
theorem ml_X6_149 : Cond.methodLink "SpanKeeperModel" 149 ⟨"SpanKeeperModel", "wrong", "()I"⟩ ∈ lw_g := gw 866 (by decide +kernel) rfl
theorem ml_X6_152 : Cond.methodLink "SpanKeeperModel" 152 ⟨"SpanKeeperModel", "factor", "()I"⟩ ∈ lw_g := gw 854 (by decide +kernel) rfl
theorem ml_X6_155 : Cond.methodLink "SpanKeeperModel" 155 ⟨"SpanKeeperModel", "sums", "()I"⟩ ∈ lw_g := gw 846 (by decide +kernel) rfl
theorem ml_X6_158 : Cond.methodLink "SpanKeeperModel" 158 ⟨"SpanKeeperModel", "comes", "(IIII)I"⟩ ∈ lw_g := gw 870 (by decide +kernel) rfl
theorem ml_X6_162 : Cond.methodLink "SpanKeeperModel" 162 ⟨"SpanKeeperModel", "opened", "()I"⟩ ∈ lw_g := gw 862 (by decide +kernel) rfl
theorem ml_X6_165 : Cond.methodLink "SpanKeeperModel" 165 ⟨"SpanKeeperModel", "products", "()I"⟩ ∈ lw_g := gw 850 (by decide +kernel) rfl
theorem ml_X6_168 : Cond.methodLink "SpanKeeperModel" 168 ⟨"SpanKeeperModel", "areAlike", "(IIII)Z"⟩ ∈ lw_g := gw 893 (by decide +kernel) rfl
theorem ml_X6_172 : Cond.methodLink "SpanKeeperModel" 172 ⟨"SpanKeeperModel", "depthOf", "(II)I"⟩ ∈ lw_g := gw 906 (by decide +kernel) rfl
theorem ml_X6_175 : Cond.methodLink "SpanKeeperModel" 175 ⟨"java/lang/Math", "max", "(II)I"⟩ ∈ lw_g := gw 897 (by decide +kernel) rfl
theorem ml_X6_180 : Cond.methodLink "SpanKeeperModel" 180 ⟨"SpanKeeperModel", "isFormula", "(I)Z"⟩ ∈ lw_g := gw 885 (by decide +kernel) rfl
theorem ml_X6_183 : Cond.methodLink "SpanKeeperModel" 183 ⟨"SpanKeeperModel", "likeOf", "(IZ)I"⟩ ∈ lw_g := gw 889 (by decide +kernel) rfl
theorem ml_X6_187 : Cond.methodLink "SpanKeeperModel" 187 ⟨"SpanKeeperModel", "lettersOf", "(I)I"⟩ ∈ lw_g := gw 898 (by decide +kernel) rfl
theorem ml_X6_190 : Cond.methodLink "SpanKeeperModel" 190 ⟨"SpanKeeperModel", "rootOf", "(I)I"⟩ ∈ lw_g := gw 902 (by decide +kernel) rfl
theorem ml_X6_200 : Cond.methodLink "SpanKeeperModel" 200 ⟨"SpanKeeperModel", "lays", "(III)V"⟩ ∈ lw_g := gw 927 (by decide +kernel) rfl
theorem ml_X6_204 : Cond.methodLink "SpanKeeperModel" 204 ⟨"SpanKeeperModel", "product", "(JJ)J"⟩ ∈ lw_g := gw 951 (by decide +kernel) rfl
theorem ml_X6_208 : Cond.methodLink "SpanKeeperModel" 208 ⟨"java/lang/Math", "min", "(JJ)J"⟩ ∈ lw_g := gw 956 (by decide +kernel) rfl
theorem ml_X6_215 : Cond.methodLink "SpanKeeperModel" 215 ⟨"java/lang/Math", "max", "(JJ)J"⟩ ∈ lw_g := gw 957 (by decide +kernel) rfl
theorem ml_X6_220 : Cond.methodLink "SpanKeeperModel" 220 ⟨"SpanKeeperModel", "less", "(JJ)J"⟩ ∈ lw_g := gw 939 (by decide +kernel) rfl
theorem ml_X6_223 : Cond.methodLink "SpanKeeperModel" 223 ⟨"SpanKeeperModel", "sum", "(JJ)J"⟩ ∈ lw_g := gw 943 (by decide +kernel) rfl
theorem ml_X6_226 : Cond.methodLink "SpanKeeperModel" 226 ⟨"SpanKeeperModel", "products", "(JJJJ)V"⟩ ∈ lw_g := gw 947 (by decide +kernel) rfl
theorem ml_X6_229 : Cond.methodLink "SpanKeeperModel" 229 ⟨"SpanKeeperModel", "joins", "(IIII)V"⟩ ∈ lw_g := gw 935 (by decide +kernel) rfl
theorem ml_X6_233 : Cond.methodLink "SpanKeeperModel" 233 ⟨"SpanKeeperModel", "laysBox", "()V"⟩ ∈ lw_g := gw 923 (by decide +kernel) rfl
theorem ml_X6_236 : Cond.methodLink "SpanKeeperModel" 236 ⟨"SpanKeeperModel", "spans", "(I)Z"⟩ ∈ lw_g := gw 931 (by decide +kernel) rfl
theorem ml_X6_241 : Cond.methodLink "SpanKeeperModel" 241 ⟨"SpanKeeperModel", "highOf", "(I)J"⟩ ∈ lw_g := gw 967 (by decide +kernel) rfl
theorem ml_X6_245 : Cond.methodLink "SpanKeeperModel" 245 ⟨"SpanKeeperModel", "lowOf", "(I)J"⟩ ∈ lw_g := gw 963 (by decide +kernel) rfl
theorem ml_X6_248 : Cond.methodLink "SpanKeeperModel" 248 ⟨"SpanKeeperModel", "widthBy", "(I)J"⟩ ∈ lw_g := gw 975 (by decide +kernel) rfl
theorem ml_X6_254 : Cond.methodLink "SpanKeeperModel" 254 ⟨"SpanKeeperModel", "spansNow", "(I)Z"⟩ ∈ lw_g := gw 919 (by decide +kernel) rfl
theorem ml_X6_257 : Cond.methodLink "SpanKeeperModel" 257 ⟨"SpanKeeperModel", "goesWay", "(I)V"⟩ ∈ lw_g := gw 958 (by decide +kernel) rfl
theorem ml_X6_261 : Cond.methodLink "SpanKeeperModel" 261 ⟨"SpanKeeperModel", "widthNow", "(I)J"⟩ ∈ lw_g := gw 971 (by decide +kernel) rfl
theorem ml_X6_264 : Cond.methodLink "SpanKeeperModel" 264 ⟨"SpanKeeperModel", "laysPoint", "(II)V"⟩ ∈ lw_g := gw 987 (by decide +kernel) rfl
theorem ml_X6_268 : Cond.methodLink "SpanKeeperModel" 268 ⟨"SpanKeeperModel", "changes", "(IIII)V"⟩ ∈ lw_g := gw 1003 (by decide +kernel) rfl
theorem ml_X6_271 : Cond.methodLink "SpanKeeperModel" 271 ⟨"SpanKeeperModel", "changeOf", "(II)I"⟩ ∈ lw_g := gw 999 (by decide +kernel) rfl
theorem ml_X6_280 : Cond.methodLink "SpanKeeperModel" 280 ⟨"SpanKeeperModel", "of", "(II)I"⟩ ∈ lw_g := gw 1015 (by decide +kernel) rfl
theorem ml_X6_283 : Cond.methodLink "SpanKeeperModel" 283 ⟨"SpanKeeperModel", "splits", "(III)V"⟩ ∈ lw_g := gw 1016 (by decide +kernel) rfl
theorem ml_X6_293 : Cond.methodLink "SpanKeeperModel" 293 ⟨"SpanKeeperModel", "lowest", "(JJI)J"⟩ ∈ lw_g := gw 1045 (by decide +kernel) rfl
theorem ml_X6_300 : Cond.methodLink "SpanKeeperModel" 300 ⟨"java/lang/System", "arraycopy", "(Ljava/lang/Object;ILjava/lang/Object;II)V"⟩ ∈ lw_g := gw 1056 (by decide +kernel) rfl
theorem ml_X6_308 : Cond.methodLink "SpanKeeperModel" 308 ⟨"SpanKeeperModel", "isList", "(I)Z"⟩ ∈ lw_g := gw 1061 (by decide +kernel) rfl
theorem ml_X6_311 : Cond.methodLink "SpanKeeperModel" 311 ⟨"SpanKeeperModel", "copies", "([I[II)V"⟩ ∈ lw_g := gw 1081 (by decide +kernel) rfl
theorem ml_X6_324 : Cond.methodLink "SpanKeeperModel" 324 ⟨"SpanKeeperModel", "overMany", "()I"⟩ ∈ lw_g := gw 1092 (by decide +kernel) rfl
theorem ml_X6_327 : Cond.methodLink "SpanKeeperModel" 327 ⟨"SpanKeeperModel", "spannedMany", "()I"⟩ ∈ lw_g := gw 1096 (by decide +kernel) rfl
theorem ml_X6_97 : Cond.methodLink "SpanKeeperModel" 97 ⟨"SpanKeeperModel", "isIn", "(JJJ)Z"⟩ ∈ lw_g := gw 817 (by decide +kernel) rfl
theorem ms_J7_fill_d0a16 : Cond.static yJ7_fill_d0a16 ∈ lw_g := gw 641 (by decide +kernel) rfl
theorem ms_X0_isMade : Cond.static yX0_isMade ∈ lw_g := gw 358 (by decide +kernel) rfl
theorem ms_X1_differenceFits : Cond.static yX1_differenceFits ∈ lw_g := gw 486 (by decide +kernel) rfl
theorem ms_X1_productFits : Cond.static yX1_productFits ∈ lw_g := gw 493 (by decide +kernel) rfl
theorem ms_X1_sumFits : Cond.static yX1_sumFits ∈ lw_g := gw 478 (by decide +kernel) rfl
theorem ms_X3_isFigure : Cond.static yX3_isFigure ∈ lw_g := gw 319 (by decide +kernel) rfl
theorem ms_X5_greatestCommon : Cond.static yX5_greatestCommon ∈ lw_g := gw 615 (by decide +kernel) rfl
theorem ms_X5_isList : Cond.static yX5_isList ∈ lw_g := gw 634 (by decide +kernel) rfl
theorem ms_X5_isSource : Cond.static yX5_isSource ∈ lw_g := gw 261 (by decide +kernel) rfl
theorem ms_X5_mayBecome : Cond.static yX5_mayBecome ∈ lw_g := gw 264 (by decide +kernel) rfl
theorem ms_X6_at : Cond.static yX6_at ∈ lw_g := gw 875 (by decide +kernel) rfl
theorem ms_X6_copies : Cond.static yX6_copies ∈ lw_g := gw 1082 (by decide +kernel) rfl
theorem ms_X6_isIn : Cond.static yX6_isIn ∈ lw_g := gw 818 (by decide +kernel) rfl
theorem ms_X6_isList : Cond.static yX6_isList ∈ lw_g := gw 1062 (by decide +kernel) rfl
theorem ms_X6_isSource : Cond.static yX6_isSource ∈ lw_g := gw 814 (by decide +kernel) rfl
theorem ms_X6_lowest : Cond.static yX6_lowest ∈ lw_g := gw 1046 (by decide +kernel) rfl
theorem mv_X0_hasSource : MV yX0_hasSource := ⟨gw 579 (by decide +kernel) rfl, gw 580 (by decide +kernel) rfl⟩
theorem mv_X0_isLike : MV yX0_isLike := ⟨gw 434 (by decide +kernel) rfl, gw 435 (by decide +kernel) rfl⟩
theorem mv_X1_difference : MV yX1_difference := ⟨gw 482 (by decide +kernel) rfl, gw 483 (by decide +kernel) rfl⟩
theorem mv_X1_fromTo : MV yX1_fromTo := ⟨gw 465 (by decide +kernel) rfl, gw 466 (by decide +kernel) rfl⟩
theorem mv_X1_less : MV yX1_less := ⟨gw 469 (by decide +kernel) rfl, gw 470 (by decide +kernel) rfl⟩
theorem mv_X1_product : MV yX1_product := ⟨gw 489 (by decide +kernel) rfl, gw 490 (by decide +kernel) rfl⟩
theorem mv_X1_sum : MV yX1_sum := ⟨gw 474 (by decide +kernel) rfl, gw 475 (by decide +kernel) rfl⟩
theorem mv_X2_becomeLike : MV yX2_becomeLike := ⟨gw 656 (by decide +kernel) rfl, gw 657 (by decide +kernel) rfl⟩
theorem mv_X2_costOf : MV yX2_costOf := ⟨gw 592 (by decide +kernel) rfl, gw 593 (by decide +kernel) rfl⟩
theorem mv_X2_highOf : MV yX2_highOf := ⟨gw 279 (by decide +kernel) rfl, gw 280 (by decide +kernel) rfl⟩
theorem mv_X2_lowOf : MV yX2_lowOf := ⟨gw 275 (by decide +kernel) rfl, gw 276 (by decide +kernel) rfl⟩
theorem mv_X2_rowOf : MV yX2_rowOf := ⟨gw 267 (by decide +kernel) rfl, gw 268 (by decide +kernel) rfl⟩
theorem mv_X2_spanBehind : MV yX2_spanBehind := ⟨gw 626 (by decide +kernel) rfl, gw 627 (by decide +kernel) rfl⟩
theorem mv_X3_add : MV yX3_add := ⟨gw 316 (by decide +kernel) rfl, gw 4 (by decide +kernel) rfl⟩
theorem mv_X3_append : MV yX3_append := ⟨gw 287 (by decide +kernel) rfl, gw 288 (by decide +kernel) rfl⟩
theorem mv_X3_here : MV yX3_here := ⟨gw 312 (by decide +kernel) rfl, gw 3 (by decide +kernel) rfl⟩
theorem mv_X3_join : MV yX3_join := ⟨gw 327 (by decide +kernel) rfl, gw 6 (by decide +kernel) rfl⟩
theorem mv_X3_readFactor : MV yX3_readFactor := ⟨gw 308 (by decide +kernel) rfl, gw 2 (by decide +kernel) rfl⟩
theorem mv_X3_readNumber : MV yX3_readNumber := ⟨gw 323 (by decide +kernel) rfl, gw 5 (by decide +kernel) rfl⟩
theorem mv_X3_readProduct : MV yX3_readProduct := ⟨gw 304 (by decide +kernel) rfl, gw 1 (by decide +kernel) rfl⟩
theorem mv_X3_readSum : MV yX3_readSum := ⟨gw 300 (by decide +kernel) rfl, gw 0 (by decide +kernel) rfl⟩
theorem mv_X4_carry : MV yX4_carry := ⟨gw 457 (by decide +kernel) rfl, gw 458 (by decide +kernel) rfl⟩
theorem mv_X4_carryPart : MV yX4_carryPart := ⟨gw 462 (by decide +kernel) rfl, gw 9 (by decide +kernel) rfl⟩
theorem mv_X4_changeBy : MV yX4_changeBy := ⟨gw 553 (by decide +kernel) rfl, gw 554 (by decide +kernel) rfl⟩
theorem mv_X4_changePart : MV yX4_changePart := ⟨gw 558 (by decide +kernel) rfl, gw 13 (by decide +kernel) rfl⟩
theorem mv_X4_drawBy : MV yX4_drawBy := ⟨gw 608 (by decide +kernel) rfl, gw 609 (by decide +kernel) rfl⟩
theorem mv_X4_firstOverOf : MV yX4_firstOverOf := ⟨gw 507 (by decide +kernel) rfl, gw 508 (by decide +kernel) rfl⟩
theorem mv_X4_hasWidth : MV yX4_hasWidth := ⟨gw 516 (by decide +kernel) rfl, gw 517 (by decide +kernel) rfl⟩
theorem mv_X4_stand : MV yX4_stand := ⟨gw 453 (by decide +kernel) rfl, gw 454 (by decide +kernel) rfl⟩
theorem mv_X4_standAs : MV yX4_standAs := ⟨gw 447 (by decide +kernel) rfl, gw 448 (by decide +kernel) rfl⟩
theorem mv_X4_told : MV yX4_told := ⟨gw 512 (by decide +kernel) rfl, gw 513 (by decide +kernel) rfl⟩
theorem mv_X4_worthOf : MV yX4_worthOf := ⟨gw 531 (by decide +kernel) rfl, gw 532 (by decide +kernel) rfl⟩
theorem mv_X4_worthOfPart : MV yX4_worthOfPart := ⟨gw 536 (by decide +kernel) rfl, gw 11 (by decide +kernel) rfl⟩
theorem mv_X5_carryAsItIs : MV yX5_carryAsItIs := ⟨gw 444 (by decide +kernel) rfl, gw 8 (by decide +kernel) rfl⟩
theorem mv_X5_carrySplit : MV yX5_carrySplit := ⟨gw 571 (by decide +kernel) rfl, gw 14 (by decide +kernel) rfl⟩
theorem mv_X5_formulaOf : MV yX5_formulaOf := ⟨gw 427 (by decide +kernel) rfl, gw 7 (by decide +kernel) rfl⟩
theorem mv_X5_formulasOver : MV yX5_formulasOver := ⟨gw 670 (by decide +kernel) rfl, gw 16 (by decide +kernel) rfl⟩
theorem mv_X5_keepWay : MV yX5_keepWay := ⟨gw 504 (by decide +kernel) rfl, gw 10 (by decide +kernel) rfl⟩
theorem mv_X5_sourcesWithSpan : MV yX5_sourcesWithSpan := ⟨gw 674 (by decide +kernel) rfl, gw 17 (by decide +kernel) rfl⟩
theorem mv_X5_widthWithHalf : MV yX5_widthWithHalf := ⟨gw 597 (by decide +kernel) rfl, gw 15 (by decide +kernel) rfl⟩
theorem mv_X5_worthAtCorner : MV yX5_worthAtCorner := ⟨gw 544 (by decide +kernel) rfl, gw 12 (by decide +kernel) rfl⟩
theorem mv_X6_areAlike : MV yX6_areAlike := ⟨gw 895 (by decide +kernel) rfl, gw 29 (by decide +kernel) rfl⟩
theorem mv_X6_changeOf : MV yX6_changeOf := ⟨gw 1001 (by decide +kernel) rfl, gw 48 (by decide +kernel) rfl⟩
theorem mv_X6_changes : MV yX6_changes := ⟨gw 1005 (by decide +kernel) rfl, gw 49 (by decide +kernel) rfl⟩
theorem mv_X6_comes : MV yX6_comes := ⟨gw 872 (by decide +kernel) rfl, gw 26 (by decide +kernel) rfl⟩
theorem mv_X6_depthOf : MV yX6_depthOf := ⟨gw 908 (by decide +kernel) rfl, gw 32 (by decide +kernel) rfl⟩
theorem mv_X6_factor : MV yX6_factor := ⟨gw 856 (by decide +kernel) rfl, gw 22 (by decide +kernel) rfl⟩
theorem mv_X6_goesWay : MV yX6_goesWay := ⟨gw 960 (by decide +kernel) rfl, gw 42 (by decide +kernel) rfl⟩
theorem mv_X6_highOf : MV yX6_highOf := ⟨gw 969 (by decide +kernel) rfl, gw 44 (by decide +kernel) rfl⟩
theorem mv_X6_isFormula : MV yX6_isFormula := ⟨gw 887 (by decide +kernel) rfl, gw 27 (by decide +kernel) rfl⟩
theorem mv_X6_joins : MV yX6_joins := ⟨gw 937 (by decide +kernel) rfl, gw 37 (by decide +kernel) rfl⟩
theorem mv_X6_lays : MV yX6_lays := ⟨gw 929 (by decide +kernel) rfl, gw 35 (by decide +kernel) rfl⟩
theorem mv_X6_laysBox : MV yX6_laysBox := ⟨gw 925 (by decide +kernel) rfl, gw 34 (by decide +kernel) rfl⟩
theorem mv_X6_laysPoint : MV yX6_laysPoint := ⟨gw 989 (by decide +kernel) rfl, gw 47 (by decide +kernel) rfl⟩
theorem mv_X6_less : MV yX6_less := ⟨gw 941 (by decide +kernel) rfl, gw 38 (by decide +kernel) rfl⟩
theorem mv_X6_lettersOf : MV yX6_lettersOf := ⟨gw 900 (by decide +kernel) rfl, gw 30 (by decide +kernel) rfl⟩
theorem mv_X6_likeOf : MV yX6_likeOf := ⟨gw 891 (by decide +kernel) rfl, gw 28 (by decide +kernel) rfl⟩
theorem mv_X6_lowOf : MV yX6_lowOf := ⟨gw 965 (by decide +kernel) rfl, gw 43 (by decide +kernel) rfl⟩
theorem mv_X6_next : MV yX6_next := ⟨gw 860 (by decide +kernel) rfl, gw 23 (by decide +kernel) rfl⟩
theorem mv_X6_of : MV yX6_of := ⟨gw 825 (by decide +kernel) rfl, gw 826 (by decide +kernel) rfl⟩
theorem mv_X6_opened : MV yX6_opened := ⟨gw 864 (by decide +kernel) rfl, gw 24 (by decide +kernel) rfl⟩
theorem mv_X6_overMany : MV yX6_overMany := ⟨gw 1094 (by decide +kernel) rfl, gw 51 (by decide +kernel) rfl⟩
theorem mv_X6_product : MV yX6_product := ⟨gw 953 (by decide +kernel) rfl, gw 41 (by decide +kernel) rfl⟩
theorem mv_X6_products : MV yX6_products := ⟨gw 852 (by decide +kernel) rfl, gw 21 (by decide +kernel) rfl⟩
theorem mv_X6_products_ : MV yX6_products_ := ⟨gw 949 (by decide +kernel) rfl, gw 40 (by decide +kernel) rfl⟩
theorem mv_X6_rootOf : MV yX6_rootOf := ⟨gw 904 (by decide +kernel) rfl, gw 31 (by decide +kernel) rfl⟩
theorem mv_X6_spanOf : MV yX6_spanOf := ⟨gw 835 (by decide +kernel) rfl, gw 19 (by decide +kernel) rfl⟩
theorem mv_X6_spannedMany : MV yX6_spannedMany := ⟨gw 1098 (by decide +kernel) rfl, gw 52 (by decide +kernel) rfl⟩
theorem mv_X6_spans : MV yX6_spans := ⟨gw 933 (by decide +kernel) rfl, gw 36 (by decide +kernel) rfl⟩
theorem mv_X6_spansNow : MV yX6_spansNow := ⟨gw 921 (by decide +kernel) rfl, gw 33 (by decide +kernel) rfl⟩
theorem mv_X6_splits : MV yX6_splits := ⟨gw 1018 (by decide +kernel) rfl, gw 50 (by decide +kernel) rfl⟩
theorem mv_X6_sum : MV yX6_sum := ⟨gw 945 (by decide +kernel) rfl, gw 39 (by decide +kernel) rfl⟩
theorem mv_X6_sums : MV yX6_sums := ⟨gw 848 (by decide +kernel) rfl, gw 20 (by decide +kernel) rfl⟩
theorem mv_X6_valueOf : MV yX6_valueOf := ⟨gw 831 (by decide +kernel) rfl, gw 18 (by decide +kernel) rfl⟩
theorem mv_X6_widthBy : MV yX6_widthBy := ⟨gw 977 (by decide +kernel) rfl, gw 46 (by decide +kernel) rfl⟩
theorem mv_X6_widthNow : MV yX6_widthNow := ⟨gw 973 (by decide +kernel) rfl, gw 45 (by decide +kernel) rfl⟩
theorem mv_X6_wrong : MV yX6_wrong := ⟨gw 868 (by decide +kernel) rfl, gw 25 (by decide +kernel) rfl⟩

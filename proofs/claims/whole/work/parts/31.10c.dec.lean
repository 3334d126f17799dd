theorem dX6_opened_59 : decode cX6_opened 59 = .ok (.invokevirtual 152, 3) := by decide +kernel
theorem dX6_opened_62 : decode cX6_opened 62 = .ok (.goto 7, 3) := by decide +kernel
theorem dX6_opened_65 : decode cX6_opened 65 = .ok (.aload_n 0, 1) := by decide +kernel
theorem dX6_opened_66 : decode cX6_opened 66 = .ok (.invokevirtual 155, 3) := by decide +kernel
theorem dX6_opened_69 : decode cX6_opened 69 = .ok (.istore_n 3, 1) := by decide +kernel
theorem dX6_opened_70 : decode cX6_opened 70 = .ok (.aload_n 0, 1) := by decide +kernel
theorem dX6_opened_71 : decode cX6_opened 71 = .ok (.getfield 138, 3) := by decide +kernel
theorem dX6_opened_74 : decode cX6_opened 74 = .ok (.ifCond .ne 5, 3) := by decide +kernel
theorem dX6_opened_77 : decode cX6_opened 77 = .ok (.iload_n 3, 1) := by decide +kernel
theorem dX6_opened_78 : decode cX6_opened 78 = .ok (.ireturn, 1) := by decide +kernel
theorem dX6_opened_79 : decode cX6_opened 79 = .ok (.aload_n 0, 1) := by decide +kernel
theorem dX6_opened_80 : decode cX6_opened 80 = .ok (.dup, 1) := by decide +kernel
theorem dX6_opened_81 : decode cX6_opened 81 = .ok (.getfield 146, 3) := by decide +kernel
theorem dX6_opened_84 : decode cX6_opened 84 = .ok (.iconst 1, 1) := by decide +kernel
theorem dX6_opened_85 : decode cX6_opened 85 = .ok (.isub, 1) := by decide +kernel
theorem dX6_opened_86 : decode cX6_opened 86 = .ok (.putfield 146, 3) := by decide +kernel
theorem dX6_opened_89 : decode cX6_opened 89 = .ok (.iload_n 2, 1) := by decide +kernel
theorem dX6_opened_90 : decode cX6_opened 90 = .ok (.ifCond .eq 12, 3) := by decide +kernel
theorem dX6_opened_93 : decode cX6_opened 93 = .ok (.aload_n 0, 1) := by decide +kernel
theorem dX6_opened_94 : decode cX6_opened 94 = .ok (.iconst 2, 1) := by decide +kernel
theorem dX6_opened_95 : decode cX6_opened 95 = .ok (.iload_n 3, 1) := by decide +kernel
theorem dX6_opened_96 : decode cX6_opened 96 = .ok (.iconst 0, 1) := by decide +kernel
theorem dX6_opened_97 : decode cX6_opened 97 = .ok (.iload_n 1, 1) := by decide +kernel
theorem dX6_opened_98 : decode cX6_opened 98 = .ok (.invokevirtual 158, 3) := by decide +kernel
theorem dX6_opened_101 : decode cX6_opened 101 = .ok (.ireturn, 1) := by decide +kernel
theorem dX6_opened_102 : decode cX6_opened 102 = .ok (.aload_n 0, 1) := by decide +kernel
theorem dX6_opened_103 : decode cX6_opened 103 = .ok (.invokevirtual 142, 3) := by decide +kernel
theorem dX6_opened_106 : decode cX6_opened 106 = .ok (.bipush 41, 2) := by decide +kernel
theorem dX6_opened_108 : decode cX6_opened 108 = .ok (.if_icmp .eq 8, 3) := by decide +kernel
theorem dX6_opened_111 : decode cX6_opened 111 = .ok (.aload_n 0, 1) := by decide +kernel
theorem dX6_opened_112 : decode cX6_opened 112 = .ok (.invokevirtual 149, 3) := by decide +kernel
theorem dX6_opened_115 : decode cX6_opened 115 = .ok (.ireturn, 1) := by decide +kernel
theorem dX6_opened_116 : decode cX6_opened 116 = .ok (.aload_n 0, 1) := by decide +kernel
theorem dX6_opened_117 : decode cX6_opened 117 = .ok (.dup, 1) := by decide +kernel
theorem dX6_opened_118 : decode cX6_opened 118 = .ok (.getfield 131, 3) := by decide +kernel
theorem dX6_opened_121 : decode cX6_opened 121 = .ok (.iconst 1, 1) := by decide +kernel
theorem dX6_opened_122 : decode cX6_opened 122 = .ok (.iadd, 1) := by decide +kernel
theorem dX6_opened_123 : decode cX6_opened 123 = .ok (.putfield 131, 3) := by decide +kernel
theorem dX6_opened_126 : decode cX6_opened 126 = .ok (.iload_n 3, 1) := by decide +kernel
theorem dX6_opened_127 : decode cX6_opened 127 = .ok (.ireturn, 1) := by decide +kernel
theorem dX6_factor_0 : decode cX6_factor 0 = .ok (.aload_n 0, 1) := by decide +kernel
theorem dX6_factor_1 : decode cX6_factor 1 = .ok (.invokevirtual 142, 3) := by decide +kernel
theorem dX6_factor_4 : decode cX6_factor 4 = .ok (.istore_n 1, 1) := by decide +kernel
theorem dX6_factor_5 : decode cX6_factor 5 = .ok (.iload_n 1, 1) := by decide +kernel
theorem dX6_factor_6 : decode cX6_factor 6 = .ok (.bipush 40, 2) := by decide +kernel
theorem dX6_factor_8 : decode cX6_factor 8 = .ok (.if_icmp .eq 9, 3) := by decide +kernel
theorem dX6_factor_11 : decode cX6_factor 11 = .ok (.iload_n 1, 1) := by decide +kernel
theorem dX6_factor_12 : decode cX6_factor 12 = .ok (.bipush 45, 2) := by decide +kernel
theorem dX6_factor_14 : decode cX6_factor 14 = .ok (.if_icmp .ne 8, 3) := by decide +kernel
theorem dX6_factor_17 : decode cX6_factor 17 = .ok (.aload_n 0, 1) := by decide +kernel
theorem dX6_factor_18 : decode cX6_factor 18 = .ok (.invokevirtual 162, 3) := by decide +kernel
theorem dX6_factor_21 : decode cX6_factor 21 = .ok (.ireturn, 1) := by decide +kernel
theorem dX6_factor_22 : decode cX6_factor 22 = .ok (.iload_n 1, 1) := by decide +kernel
theorem dX6_factor_23 : decode cX6_factor 23 = .ok (.bipush 97, 2) := by decide +kernel
theorem dX6_factor_25 : decode cX6_factor 25 = .ok (.if_icmp .lt 36, 3) := by decide +kernel
theorem dX6_factor_28 : decode cX6_factor 28 = .ok (.iload_n 1, 1) := by decide +kernel
theorem dX6_factor_29 : decode cX6_factor 29 = .ok (.bipush 102, 2) := by decide +kernel
theorem dX6_factor_31 : decode cX6_factor 31 = .ok (.if_icmp .gt 30, 3) := by decide +kernel
theorem dX6_factor_34 : decode cX6_factor 34 = .ok (.aload_n 0, 1) := by decide +kernel
theorem dX6_factor_35 : decode cX6_factor 35 = .ok (.dup, 1) := by decide +kernel
theorem dX6_factor_36 : decode cX6_factor 36 = .ok (.getfield 131, 3) := by decide +kernel
theorem dX6_factor_39 : decode cX6_factor 39 = .ok (.iconst 1, 1) := by decide +kernel
theorem dX6_factor_40 : decode cX6_factor 40 = .ok (.iadd, 1) := by decide +kernel
theorem dX6_factor_41 : decode cX6_factor 41 = .ok (.putfield 131, 3) := by decide +kernel
theorem dX6_factor_44 : decode cX6_factor 44 = .ok (.aload_n 0, 1) := by decide +kernel
theorem dX6_factor_45 : decode cX6_factor 45 = .ok (.iconst 0, 1) := by decide +kernel
theorem dX6_factor_46 : decode cX6_factor 46 = .ok (.iload_n 1, 1) := by decide +kernel
theorem dX6_factor_47 : decode cX6_factor 47 = .ok (.bipush 97, 2) := by decide +kernel
theorem dX6_factor_49 : decode cX6_factor 49 = .ok (.isub, 1) := by decide +kernel
theorem dX6_factor_50 : decode cX6_factor 50 = .ok (.iconst 0, 1) := by decide +kernel
theorem dX6_factor_51 : decode cX6_factor 51 = .ok (.aload_n 0, 1) := by decide +kernel
theorem dX6_factor_52 : decode cX6_factor 52 = .ok (.getfield 131, 3) := by decide +kernel
theorem dX6_factor_55 : decode cX6_factor 55 = .ok (.iconst 1, 1) := by decide +kernel
theorem dX6_factor_56 : decode cX6_factor 56 = .ok (.isub, 1) := by decide +kernel
theorem dX6_factor_57 : decode cX6_factor 57 = .ok (.invokevirtual 158, 3) := by decide +kernel
theorem dX6_factor_60 : decode cX6_factor 60 = .ok (.ireturn, 1) := by decide +kernel
theorem dX6_factor_61 : decode cX6_factor 61 = .ok (.iload_n 1, 1) := by decide +kernel
theorem dX6_factor_62 : decode cX6_factor 62 = .ok (.bipush 48, 2) := by decide +kernel
theorem dX6_factor_64 : decode cX6_factor 64 = .ok (.if_icmp .lt 9, 3) := by decide +kernel
theorem dX6_factor_67 : decode cX6_factor 67 = .ok (.iload_n 1, 1) := by decide +kernel
theorem dX6_factor_68 : decode cX6_factor 68 = .ok (.bipush 57, 2) := by decide +kernel
theorem dX6_factor_70 : decode cX6_factor 70 = .ok (.if_icmp .le 8, 3) := by decide +kernel
theorem dX6_factor_73 : decode cX6_factor 73 = .ok (.aload_n 0, 1) := by decide +kernel
theorem dX6_factor_74 : decode cX6_factor 74 = .ok (.invokevirtual 149, 3) := by decide +kernel
theorem dX6_factor_77 : decode cX6_factor 77 = .ok (.ireturn, 1) := by decide +kernel
theorem dX6_factor_78 : decode cX6_factor 78 = .ok (.aload_n 0, 1) := by decide +kernel
theorem dX6_factor_79 : decode cX6_factor 79 = .ok (.getfield 131, 3) := by decide +kernel
theorem dX6_factor_82 : decode cX6_factor 82 = .ok (.istore_n 2, 1) := by decide +kernel
theorem dX6_factor_83 : decode cX6_factor 83 = .ok (.iconst 0, 1) := by decide +kernel
theorem dX6_factor_84 : decode cX6_factor 84 = .ok (.istore_n 3, 1) := by decide +kernel
theorem dX6_factor_85 : decode cX6_factor 85 = .ok (.aload_n 0, 1) := by decide +kernel
theorem dX6_factor_86 : decode cX6_factor 86 = .ok (.getfield 131, 3) := by decide +kernel
theorem dX6_factor_89 : decode cX6_factor 89 = .ok (.iload_n 2, 1) := by decide +kernel
theorem dX6_factor_90 : decode cX6_factor 90 = .ok (.isub, 1) := by decide +kernel
theorem dX6_factor_91 : decode cX6_factor 91 = .ok (.iconst 4, 1) := by decide +kernel
theorem dX6_factor_92 : decode cX6_factor 92 = .ok (.if_icmp .ge 47, 3) := by decide +kernel
theorem dX6_factor_95 : decode cX6_factor 95 = .ok (.aload_n 0, 1) := by decide +kernel
theorem dX6_factor_96 : decode cX6_factor 96 = .ok (.invokevirtual 142, 3) := by decide +kernel
theorem dX6_factor_99 : decode cX6_factor 99 = .ok (.bipush 48, 2) := by decide +kernel
theorem dX6_factor_101 : decode cX6_factor 101 = .ok (.if_icmp .lt 38, 3) := by decide +kernel
theorem dX6_factor_104 : decode cX6_factor 104 = .ok (.aload_n 0, 1) := by decide +kernel
theorem dX6_factor_105 : decode cX6_factor 105 = .ok (.invokevirtual 142, 3) := by decide +kernel
theorem dX6_factor_108 : decode cX6_factor 108 = .ok (.bipush 57, 2) := by decide +kernel
theorem dX6_factor_110 : decode cX6_factor 110 = .ok (.if_icmp .gt 29, 3) := by decide +kernel
theorem dX6_factor_113 : decode cX6_factor 113 = .ok (.bipush 10, 2) := by decide +kernel
theorem dX6_factor_115 : decode cX6_factor 115 = .ok (.iload_n 3, 1) := by decide +kernel
theorem dX6_factor_116 : decode cX6_factor 116 = .ok (.imul, 1) := by decide +kernel
theorem dX6_factor_117 : decode cX6_factor 117 = .ok (.aload_n 0, 1) := by decide +kernel
theorem dX6_factor_118 : decode cX6_factor 118 = .ok (.invokevirtual 142, 3) := by decide +kernel
theorem dX6_factor_121 : decode cX6_factor 121 = .ok (.iadd, 1) := by decide +kernel
theorem dX6_factor_122 : decode cX6_factor 122 = .ok (.bipush 48, 2) := by decide +kernel
theorem dX6_factor_124 : decode cX6_factor 124 = .ok (.isub, 1) := by decide +kernel
theorem dX6_factor_125 : decode cX6_factor 125 = .ok (.istore_n 3, 1) := by decide +kernel
theorem dX6_factor_126 : decode cX6_factor 126 = .ok (.aload_n 0, 1) := by decide +kernel
theorem dX6_factor_127 : decode cX6_factor 127 = .ok (.dup, 1) := by decide +kernel
theorem dX6_factor_128 : decode cX6_factor 128 = .ok (.getfield 131, 3) := by decide +kernel
theorem dX6_factor_131 : decode cX6_factor 131 = .ok (.iconst 1, 1) := by decide +kernel
theorem dX6_factor_132 : decode cX6_factor 132 = .ok (.iadd, 1) := by decide +kernel
theorem dX6_factor_133 : decode cX6_factor 133 = .ok (.putfield 131, 3) := by decide +kernel
theorem dX6_factor_136 : decode cX6_factor 136 = .ok (.goto (-51), 3) := by decide +kernel
theorem dX6_factor_139 : decode cX6_factor 139 = .ok (.aload_n 0, 1) := by decide +kernel
theorem dX6_factor_140 : decode cX6_factor 140 = .ok (.iconst 1, 1) := by decide +kernel
theorem dX6_factor_141 : decode cX6_factor 141 = .ok (.iload_n 3, 1) := by decide +kernel
theorem dX6_factor_142 : decode cX6_factor 142 = .ok (.iconst 0, 1) := by decide +kernel
theorem dX6_factor_143 : decode cX6_factor 143 = .ok (.iload_n 2, 1) := by decide +kernel
theorem dX6_factor_144 : decode cX6_factor 144 = .ok (.invokevirtual 158, 3) := by decide +kernel
theorem dX6_factor_147 : decode cX6_factor 147 = .ok (.ireturn, 1) := by decide +kernel
theorem dX6_products_0 : decode cX6_products 0 = .ok (.aload_n 0, 1) := by decide +kernel
theorem dX6_products_1 : decode cX6_products 1 = .ok (.invokevirtual 152, 3) := by decide +kernel
theorem dX6_products_4 : decode cX6_products 4 = .ok (.istore_n 1, 1) := by decide +kernel
theorem dX6_products_5 : decode cX6_products 5 = .ok (.aload_n 0, 1) := by decide +kernel
theorem dX6_products_6 : decode cX6_products 6 = .ok (.getfield 138, 3) := by decide +kernel
theorem dX6_products_9 : decode cX6_products 9 = .ok (.ifCond .eq 51, 3) := by decide +kernel
theorem dX6_products_12 : decode cX6_products 12 = .ok (.aload_n 0, 1) := by decide +kernel
theorem dX6_products_13 : decode cX6_products 13 = .ok (.invokevirtual 142, 3) := by decide +kernel
theorem dX6_products_16 : decode cX6_products 16 = .ok (.bipush 42, 2) := by decide +kernel
theorem dX6_products_18 : decode cX6_products 18 = .ok (.if_icmp .ne 42, 3) := by decide +kernel
theorem dX6_products_21 : decode cX6_products 21 = .ok (.aload_n 0, 1) := by decide +kernel
theorem dX6_products_22 : decode cX6_products 22 = .ok (.getfield 131, 3) := by decide +kernel
theorem dX6_products_25 : decode cX6_products 25 = .ok (.istore_n 2, 1) := by decide +kernel
theorem dX6_products_26 : decode cX6_products 26 = .ok (.aload_n 0, 1) := by decide +kernel
theorem dX6_products_27 : decode cX6_products 27 = .ok (.dup, 1) := by decide +kernel
theorem dX6_products_28 : decode cX6_products 28 = .ok (.getfield 131, 3) := by decide +kernel
theorem dX6_products_31 : decode cX6_products 31 = .ok (.iconst 1, 1) := by decide +kernel
theorem dX6_products_32 : decode cX6_products 32 = .ok (.iadd, 1) := by decide +kernel
theorem dX6_products_33 : decode cX6_products 33 = .ok (.putfield 131, 3) := by decide +kernel
theorem dX6_products_36 : decode cX6_products 36 = .ok (.aload_n 0, 1) := by decide +kernel
theorem dX6_products_37 : decode cX6_products 37 = .ok (.invokevirtual 152, 3) := by decide +kernel
theorem dX6_products_40 : decode cX6_products 40 = .ok (.istore_n 3, 1) := by decide +kernel
theorem dX6_products_41 : decode cX6_products 41 = .ok (.aload_n 0, 1) := by decide +kernel
theorem dX6_products_42 : decode cX6_products 42 = .ok (.getfield 138, 3) := by decide +kernel
theorem dX6_products_45 : decode cX6_products 45 = .ok (.ifCond .eq 12, 3) := by decide +kernel
theorem dX6_products_48 : decode cX6_products 48 = .ok (.aload_n 0, 1) := by decide +kernel
theorem dX6_products_49 : decode cX6_products 49 = .ok (.iconst 5, 1) := by decide +kernel
theorem dX6_products_50 : decode cX6_products 50 = .ok (.iload_n 1, 1) := by decide +kernel
theorem dX6_products_51 : decode cX6_products 51 = .ok (.iload_n 3, 1) := by decide +kernel
theorem dX6_products_52 : decode cX6_products 52 = .ok (.iload_n 2, 1) := by decide +kernel
theorem dX6_products_53 : decode cX6_products 53 = .ok (.invokevirtual 158, 3) := by decide +kernel
theorem dX6_products_56 : decode cX6_products 56 = .ok (.istore_n 1, 1) := by decide +kernel
theorem dX6_products_57 : decode cX6_products 57 = .ok (.goto (-52), 3) := by decide +kernel
theorem dX6_products_60 : decode cX6_products 60 = .ok (.iload_n 1, 1) := by decide +kernel
theorem dX6_products_61 : decode cX6_products 61 = .ok (.ireturn, 1) := by decide +kernel
theorem dX6_sums_0 : decode cX6_sums 0 = .ok (.aload_n 0, 1) := by decide +kernel
theorem dX6_sums_1 : decode cX6_sums 1 = .ok (.invokevirtual 165, 3) := by decide +kernel
theorem dX6_sums_4 : decode cX6_sums 4 = .ok (.istore_n 1, 1) := by decide +kernel
theorem dX6_sums_5 : decode cX6_sums 5 = .ok (.aload_n 0, 1) := by decide +kernel
theorem dX6_sums_6 : decode cX6_sums 6 = .ok (.getfield 138, 3) := by decide +kernel
theorem dX6_sums_9 : decode cX6_sums 9 = .ok (.ifCond .eq 77, 3) := by decide +kernel
theorem dX6_sums_12 : decode cX6_sums 12 = .ok (.aload_n 0, 1) := by decide +kernel
theorem dX6_sums_13 : decode cX6_sums 13 = .ok (.invokevirtual 142, 3) := by decide +kernel
theorem dX6_sums_16 : decode cX6_sums 16 = .ok (.bipush 43, 2) := by decide +kernel
theorem dX6_sums_18 : decode cX6_sums 18 = .ok (.if_icmp .eq 12, 3) := by decide +kernel
theorem dX6_sums_21 : decode cX6_sums 21 = .ok (.aload_n 0, 1) := by decide +kernel
theorem dX6_sums_22 : decode cX6_sums 22 = .ok (.invokevirtual 142, 3) := by decide +kernel
theorem dX6_sums_25 : decode cX6_sums 25 = .ok (.bipush 45, 2) := by decide +kernel
theorem dX6_sums_27 : decode cX6_sums 27 = .ok (.if_icmp .ne 59, 3) := by decide +kernel
theorem dX6_sums_30 : decode cX6_sums 30 = .ok (.aload_n 0, 1) := by decide +kernel
theorem dX6_sums_31 : decode cX6_sums 31 = .ok (.getfield 131, 3) := by decide +kernel
theorem dX6_sums_34 : decode cX6_sums 34 = .ok (.istore_n 2, 1) := by decide +kernel
theorem dX6_sums_35 : decode cX6_sums 35 = .ok (.aload_n 0, 1) := by decide +kernel
theorem dX6_sums_36 : decode cX6_sums 36 = .ok (.invokevirtual 142, 3) := by decide +kernel
theorem dX6_sums_39 : decode cX6_sums 39 = .ok (.bipush 43, 2) := by decide +kernel
theorem dX6_sums_41 : decode cX6_sums 41 = .ok (.if_icmp .ne 7, 3) := by decide +kernel
theorem dX6_sums_44 : decode cX6_sums 44 = .ok (.iconst 3, 1) := by decide +kernel
theorem dX6_sums_45 : decode cX6_sums 45 = .ok (.goto 4, 3) := by decide +kernel
theorem dX6_sums_48 : decode cX6_sums 48 = .ok (.iconst 4, 1) := by decide +kernel
theorem dX6_sums_49 : decode cX6_sums 49 = .ok (.istore_n 3, 1) := by decide +kernel
theorem dX6_sums_50 : decode cX6_sums 50 = .ok (.aload_n 0, 1) := by decide +kernel
theorem dX6_sums_51 : decode cX6_sums 51 = .ok (.dup, 1) := by decide +kernel
theorem dX6_sums_52 : decode cX6_sums 52 = .ok (.getfield 131, 3) := by decide +kernel
theorem dX6_sums_55 : decode cX6_sums 55 = .ok (.iconst 1, 1) := by decide +kernel
theorem dX6_sums_56 : decode cX6_sums 56 = .ok (.iadd, 1) := by decide +kernel
theorem dX6_sums_57 : decode cX6_sums 57 = .ok (.putfield 131, 3) := by decide +kernel
theorem dX6_sums_60 : decode cX6_sums 60 = .ok (.aload_n 0, 1) := by decide +kernel
theorem dX6_sums_61 : decode cX6_sums 61 = .ok (.invokevirtual 165, 3) := by decide +kernel
theorem dX6_sums_64 : decode cX6_sums 64 = .ok (.istore 4, 2) := by decide +kernel
theorem dX6_sums_66 : decode cX6_sums 66 = .ok (.aload_n 0, 1) := by decide +kernel
theorem dX6_sums_67 : decode cX6_sums 67 = .ok (.getfield 138, 3) := by decide +kernel
theorem dX6_sums_70 : decode cX6_sums 70 = .ok (.ifCond .eq 13, 3) := by decide +kernel
theorem dX6_sums_73 : decode cX6_sums 73 = .ok (.aload_n 0, 1) := by decide +kernel
theorem dX6_sums_74 : decode cX6_sums 74 = .ok (.iload_n 3, 1) := by decide +kernel
theorem dX6_sums_75 : decode cX6_sums 75 = .ok (.iload_n 1, 1) := by decide +kernel
theorem dX6_sums_76 : decode cX6_sums 76 = .ok (.iload 4, 2) := by decide +kernel
theorem dX6_sums_78 : decode cX6_sums 78 = .ok (.iload_n 2, 1) := by decide +kernel
theorem dX6_sums_79 : decode cX6_sums 79 = .ok (.invokevirtual 158, 3) := by decide +kernel
theorem dX6_sums_82 : decode cX6_sums 82 = .ok (.istore_n 1, 1) := by decide +kernel
theorem dX6_sums_83 : decode cX6_sums 83 = .ok (.goto (-78), 3) := by decide +kernel
theorem dX6_sums_86 : decode cX6_sums 86 = .ok (.iload_n 1, 1) := by decide +kernel
theorem dX6_sums_87 : decode cX6_sums 87 = .ok (.ireturn, 1) := by decide +kernel
theorem dX6_formula_0 : decode cX6_formula 0 = .ok (.aload_n 0, 1) := by decide +kernel
theorem dX6_formula_1 : decode cX6_formula 1 = .ok (.iconst 0, 1) := by decide +kernel
theorem dX6_formula_2 : decode cX6_formula 2 = .ok (.putfield 131, 3) := by decide +kernel
theorem dX6_formula_5 : decode cX6_formula 5 = .ok (.aload_n 0, 1) := by decide +kernel
theorem dX6_formula_6 : decode cX6_formula 6 = .ok (.iconst 0, 1) := by decide +kernel
theorem dX6_formula_7 : decode cX6_formula 7 = .ok (.putfield 146, 3) := by decide +kernel
theorem dX6_formula_10 : decode cX6_formula 10 = .ok (.aload_n 0, 1) := by decide +kernel
theorem dX6_formula_11 : decode cX6_formula 11 = .ok (.iconst 1, 1) := by decide +kernel
theorem dX6_formula_12 : decode cX6_formula 12 = .ok (.putfield 138, 3) := by decide +kernel
theorem dX6_formula_15 : decode cX6_formula 15 = .ok (.aload_n 0, 1) := by decide +kernel
theorem dX6_formula_16 : decode cX6_formula 16 = .ok (.getfield 30, 3) := by decide +kernel
theorem dX6_formula_19 : decode cX6_formula 19 = .ok (.aload_n 0, 1) := by decide +kernel
theorem dX6_formula_20 : decode cX6_formula 20 = .ok (.getfield 122, 3) := by decide +kernel
theorem dX6_formula_23 : decode cX6_formula 23 = .ok (.iconst 0, 1) := by decide +kernel
theorem dX6_formula_24 : decode cX6_formula 24 = .ok (.iastore, 1) := by decide +kernel
theorem dX6_formula_25 : decode cX6_formula 25 = .ok (.aload_n 0, 1) := by decide +kernel
theorem dX6_formula_26 : decode cX6_formula 26 = .ok (.invokevirtual 155, 3) := by decide +kernel
theorem dX6_formula_29 : decode cX6_formula 29 = .ok (.istore_n 1, 1) := by decide +kernel
theorem dX6_formula_30 : decode cX6_formula 30 = .ok (.aload_n 0, 1) := by decide +kernel
theorem dX6_formula_31 : decode cX6_formula 31 = .ok (.getfield 138, 3) := by decide +kernel
theorem dX6_formula_34 : decode cX6_formula 34 = .ok (.ifCond .eq 18, 3) := by decide +kernel
theorem dX6_formula_37 : decode cX6_formula 37 = .ok (.aload_n 0, 1) := by decide +kernel
theorem dX6_formula_38 : decode cX6_formula 38 = .ok (.getfield 131, 3) := by decide +kernel
theorem dX6_formula_41 : decode cX6_formula 41 = .ok (.aload_n 0, 1) := by decide +kernel
theorem dX6_formula_42 : decode cX6_formula 42 = .ok (.getfield 128, 3) := by decide +kernel
theorem dX6_formula_45 : decode cX6_formula 45 = .ok (.if_icmp .ne 7, 3) := by decide +kernel
theorem dX6_formula_48 : decode cX6_formula 48 = .ok (.iconst 1, 1) := by decide +kernel
theorem dX6_formula_49 : decode cX6_formula 49 = .ok (.goto 4, 3) := by decide +kernel
theorem dX6_formula_52 : decode cX6_formula 52 = .ok (.iconst 0, 1) := by decide +kernel
theorem dX6_formula_53 : decode cX6_formula 53 = .ok (.istore_n 2, 1) := by decide +kernel
theorem dX6_formula_54 : decode cX6_formula 54 = .ok (.aload_n 0, 1) := by decide +kernel
theorem dX6_formula_55 : decode cX6_formula 55 = .ok (.iconst 0, 1) := by decide +kernel
theorem dX6_formula_56 : decode cX6_formula 56 = .ok (.putfield 128, 3) := by decide +kernel
theorem dX6_formula_59 : decode cX6_formula 59 = .ok (.iload_n 2, 1) := by decide +kernel
theorem dX6_formula_60 : decode cX6_formula 60 = .ok (.ifCond .ne 11, 3) := by decide +kernel
theorem dX6_formula_63 : decode cX6_formula 63 = .ok (.bipush (-100), 2) := by decide +kernel
theorem dX6_formula_65 : decode cX6_formula 65 = .ok (.aload_n 0, 1) := by decide +kernel
theorem dX6_formula_66 : decode cX6_formula 66 = .ok (.getfield 131, 3) := by decide +kernel
theorem dX6_formula_69 : decode cX6_formula 69 = .ok (.isub, 1) := by decide +kernel
theorem dX6_formula_70 : decode cX6_formula 70 = .ok (.ireturn, 1) := by decide +kernel
theorem dX6_formula_71 : decode cX6_formula 71 = .ok (.aload_n 0, 1) := by decide +kernel
theorem dX6_formula_72 : decode cX6_formula 72 = .ok (.getfield 122, 3) := by decide +kernel
theorem dX6_formula_75 : decode cX6_formula 75 = .ok (.bipush 6, 2) := by decide +kernel
theorem dX6_formula_77 : decode cX6_formula 77 = .ok (.if_icmp .ne 6, 3) := by decide +kernel
theorem dX6_formula_80 : decode cX6_formula 80 = .ok (.bipush (-4), 2) := by decide +kernel
theorem dX6_formula_82 : decode cX6_formula 82 = .ok (.ireturn, 1) := by decide +kernel
theorem dX6_formula_83 : decode cX6_formula 83 = .ok (.aload_n 0, 1) := by decide +kernel
theorem dX6_formula_84 : decode cX6_formula 84 = .ok (.dup, 1) := by decide +kernel
theorem dX6_formula_85 : decode cX6_formula 85 = .ok (.getfield 122, 3) := by decide +kernel
theorem dX6_formula_88 : decode cX6_formula 88 = .ok (.iconst 1, 1) := by decide +kernel
theorem dX6_formula_89 : decode cX6_formula 89 = .ok (.iadd, 1) := by decide +kernel
theorem dX6_formula_90 : decode cX6_formula 90 = .ok (.putfield 122, 3) := by decide +kernel
theorem dX6_formula_93 : decode cX6_formula 93 = .ok (.aload_n 0, 1) := by decide +kernel
theorem dX6_formula_94 : decode cX6_formula 94 = .ok (.getfield 122, 3) := by decide +kernel
theorem dX6_formula_97 : decode cX6_formula 97 = .ok (.iconst 1, 1) := by decide +kernel
theorem dX6_formula_98 : decode cX6_formula 98 = .ok (.isub, 1) := by decide +kernel
theorem dX6_formula_99 : decode cX6_formula 99 = .ok (.ireturn, 1) := by decide +kernel
theorem dX6_drop_0 : decode cX6_drop 0 = .ok (.aload_n 0, 1) := by decide +kernel
theorem dX6_drop_1 : decode cX6_drop 1 = .ok (.getfield 122, 3) := by decide +kernel
theorem dX6_drop_4 : decode cX6_drop 4 = .ok (.ifCond .ne 6, 3) := by decide +kernel
theorem dX6_drop_7 : decode cX6_drop 7 = .ok (.bipush (-3), 2) := by decide +kernel
theorem dX6_drop_9 : decode cX6_drop 9 = .ok (.ireturn, 1) := by decide +kernel
theorem dX6_drop_10 : decode cX6_drop 10 = .ok (.aload_n 0, 1) := by decide +kernel
theorem dX6_drop_11 : decode cX6_drop 11 = .ok (.dup, 1) := by decide +kernel
theorem dX6_drop_12 : decode cX6_drop 12 = .ok (.getfield 122, 3) := by decide +kernel
theorem dX6_drop_15 : decode cX6_drop 15 = .ok (.iconst 1, 1) := by decide +kernel
theorem dX6_drop_16 : decode cX6_drop 16 = .ok (.isub, 1) := by decide +kernel
theorem dX6_drop_17 : decode cX6_drop 17 = .ok (.putfield 122, 3) := by decide +kernel
theorem dX6_drop_20 : decode cX6_drop 20 = .ok (.aload_n 0, 1) := by decide +kernel
theorem dX6_drop_21 : decode cX6_drop 21 = .ok (.getfield 122, 3) := by decide +kernel
theorem dX6_drop_24 : decode cX6_drop 24 = .ok (.ireturn, 1) := by decide +kernel
theorem dX6_areAlike_0 : decode cX6_areAlike 0 = .ok (.iload_n 1, 1) := by decide +kernel
theorem dX6_areAlike_1 : decode cX6_areAlike 1 = .ok (.iload_n 2, 1) := by decide +kernel
theorem dX6_areAlike_2 : decode cX6_areAlike 2 = .ok (.invokestatic 134, 3) := by decide +kernel
theorem dX6_areAlike_5 : decode cX6_areAlike 5 = .ok (.istore 5, 2) := by decide +kernel
theorem dX6_areAlike_7 : decode cX6_areAlike 7 = .ok (.iload_n 3, 1) := by decide +kernel
theorem dX6_areAlike_8 : decode cX6_areAlike 8 = .ok (.iload 4, 2) := by decide +kernel
theorem dX6_areAlike_10 : decode cX6_areAlike 10 = .ok (.invokestatic 134, 3) := by decide +kernel
theorem dX6_areAlike_13 : decode cX6_areAlike 13 = .ok (.istore 6, 2) := by decide +kernel
theorem dX6_areAlike_15 : decode cX6_areAlike 15 = .ok (.aload_n 0, 1) := by decide +kernel
theorem dX6_areAlike_16 : decode cX6_areAlike 16 = .ok (.getfield 18, 3) := by decide +kernel
theorem dX6_areAlike_19 : decode cX6_areAlike 19 = .ok (.iload 5, 2) := by decide +kernel
theorem dX6_areAlike_21 : decode cX6_areAlike 21 = .ok (.iaload, 1) := by decide +kernel
theorem dX6_areAlike_22 : decode cX6_areAlike 22 = .ok (.aload_n 0, 1) := by decide +kernel
theorem dX6_areAlike_23 : decode cX6_areAlike 23 = .ok (.getfield 18, 3) := by decide +kernel
theorem dX6_areAlike_26 : decode cX6_areAlike 26 = .ok (.iload 6, 2) := by decide +kernel
theorem dX6_areAlike_28 : decode cX6_areAlike 28 = .ok (.iaload, 1) := by decide +kernel
theorem dX6_areAlike_29 : decode cX6_areAlike 29 = .ok (.if_icmp .eq 5, 3) := by decide +kernel
theorem dX6_areAlike_32 : decode cX6_areAlike 32 = .ok (.iconst 0, 1) := by decide +kernel
theorem dX6_areAlike_33 : decode cX6_areAlike 33 = .ok (.ireturn, 1) := by decide +kernel
theorem dX6_areAlike_34 : decode cX6_areAlike 34 = .ok (.aload_n 0, 1) := by decide +kernel
theorem dX6_areAlike_35 : decode cX6_areAlike 35 = .ok (.getfield 18, 3) := by decide +kernel
theorem dX6_areAlike_38 : decode cX6_areAlike 38 = .ok (.iload 5, 2) := by decide +kernel
theorem dX6_areAlike_40 : decode cX6_areAlike 40 = .ok (.iaload, 1) := by decide +kernel
theorem dX6_areAlike_41 : decode cX6_areAlike 41 = .ok (.iconst 1, 1) := by decide +kernel
theorem dX6_areAlike_42 : decode cX6_areAlike 42 = .ok (.if_icmp .gt 26, 3) := by decide +kernel
theorem dX6_areAlike_45 : decode cX6_areAlike 45 = .ok (.aload_n 0, 1) := by decide +kernel
theorem dX6_areAlike_46 : decode cX6_areAlike 46 = .ok (.getfield 21, 3) := by decide +kernel
theorem dX6_areAlike_49 : decode cX6_areAlike 49 = .ok (.iload 5, 2) := by decide +kernel
theorem dX6_areAlike_51 : decode cX6_areAlike 51 = .ok (.iaload, 1) := by decide +kernel
theorem dX6_areAlike_52 : decode cX6_areAlike 52 = .ok (.aload_n 0, 1) := by decide +kernel
theorem dX6_areAlike_53 : decode cX6_areAlike 53 = .ok (.getfield 21, 3) := by decide +kernel
theorem dX6_areAlike_56 : decode cX6_areAlike 56 = .ok (.iload 6, 2) := by decide +kernel
theorem dX6_areAlike_58 : decode cX6_areAlike 58 = .ok (.iaload, 1) := by decide +kernel
theorem dX6_areAlike_59 : decode cX6_areAlike 59 = .ok (.if_icmp .ne 7, 3) := by decide +kernel
theorem dX6_areAlike_62 : decode cX6_areAlike 62 = .ok (.iconst 1, 1) := by decide +kernel
theorem dX6_areAlike_63 : decode cX6_areAlike 63 = .ok (.goto 4, 3) := by decide +kernel
theorem dX6_areAlike_66 : decode cX6_areAlike 66 = .ok (.iconst 0, 1) := by decide +kernel
theorem dX6_areAlike_67 : decode cX6_areAlike 67 = .ok (.ireturn, 1) := by decide +kernel
theorem dX6_areAlike_68 : decode cX6_areAlike 68 = .ok (.aload_n 0, 1) := by decide +kernel
theorem dX6_areAlike_69 : decode cX6_areAlike 69 = .ok (.iload_n 1, 1) := by decide +kernel
theorem dX6_areAlike_70 : decode cX6_areAlike 70 = .ok (.aload_n 0, 1) := by decide +kernel
theorem dX6_areAlike_71 : decode cX6_areAlike 71 = .ok (.getfield 21, 3) := by decide +kernel
theorem dX6_areAlike_74 : decode cX6_areAlike 74 = .ok (.iload 5, 2) := by decide +kernel
theorem dX6_areAlike_76 : decode cX6_areAlike 76 = .ok (.iaload, 1) := by decide +kernel
theorem dX6_areAlike_77 : decode cX6_areAlike 77 = .ok (.iload_n 3, 1) := by decide +kernel
theorem dX6_areAlike_78 : decode cX6_areAlike 78 = .ok (.aload_n 0, 1) := by decide +kernel
theorem dX6_areAlike_79 : decode cX6_areAlike 79 = .ok (.getfield 21, 3) := by decide +kernel
theorem dX6_areAlike_82 : decode cX6_areAlike 82 = .ok (.iload 6, 2) := by decide +kernel
theorem dX6_areAlike_84 : decode cX6_areAlike 84 = .ok (.iaload, 1) := by decide +kernel
theorem dX6_areAlike_85 : decode cX6_areAlike 85 = .ok (.invokevirtual 168, 3) := by decide +kernel
theorem dX6_areAlike_88 : decode cX6_areAlike 88 = .ok (.ifCond .eq 41, 3) := by decide +kernel
theorem dX6_areAlike_91 : decode cX6_areAlike 91 = .ok (.aload_n 0, 1) := by decide +kernel
theorem dX6_areAlike_92 : decode cX6_areAlike 92 = .ok (.getfield 18, 3) := by decide +kernel
theorem dX6_areAlike_95 : decode cX6_areAlike 95 = .ok (.iload 5, 2) := by decide +kernel
theorem dX6_areAlike_97 : decode cX6_areAlike 97 = .ok (.iaload, 1) := by decide +kernel
theorem dX6_areAlike_98 : decode cX6_areAlike 98 = .ok (.iconst 2, 1) := by decide +kernel
theorem dX6_areAlike_99 : decode cX6_areAlike 99 = .ok (.if_icmp .eq 26, 3) := by decide +kernel
theorem dX6_areAlike_102 : decode cX6_areAlike 102 = .ok (.aload_n 0, 1) := by decide +kernel
theorem dX6_areAlike_103 : decode cX6_areAlike 103 = .ok (.iload_n 1, 1) := by decide +kernel
theorem dX6_areAlike_104 : decode cX6_areAlike 104 = .ok (.aload_n 0, 1) := by decide +kernel
theorem dX6_areAlike_105 : decode cX6_areAlike 105 = .ok (.getfield 24, 3) := by decide +kernel
theorem dX6_areAlike_108 : decode cX6_areAlike 108 = .ok (.iload 5, 2) := by decide +kernel
theorem dX6_areAlike_110 : decode cX6_areAlike 110 = .ok (.iaload, 1) := by decide +kernel
theorem dX6_areAlike_111 : decode cX6_areAlike 111 = .ok (.iload_n 3, 1) := by decide +kernel
theorem dX6_areAlike_112 : decode cX6_areAlike 112 = .ok (.aload_n 0, 1) := by decide +kernel
theorem dX6_areAlike_113 : decode cX6_areAlike 113 = .ok (.getfield 24, 3) := by decide +kernel
theorem dX6_areAlike_116 : decode cX6_areAlike 116 = .ok (.iload 6, 2) := by decide +kernel
theorem dX6_areAlike_118 : decode cX6_areAlike 118 = .ok (.iaload, 1) := by decide +kernel
theorem dX6_areAlike_119 : decode cX6_areAlike 119 = .ok (.invokevirtual 168, 3) := by decide +kernel
theorem dX6_areAlike_122 : decode cX6_areAlike 122 = .ok (.ifCond .eq 7, 3) := by decide +kernel
theorem dX6_areAlike_125 : decode cX6_areAlike 125 = .ok (.iconst 1, 1) := by decide +kernel
theorem dX6_areAlike_126 : decode cX6_areAlike 126 = .ok (.goto 4, 3) := by decide +kernel
theorem dX6_areAlike_129 : decode cX6_areAlike 129 = .ok (.iconst 0, 1) := by decide +kernel
theorem dX6_areAlike_130 : decode cX6_areAlike 130 = .ok (.ireturn, 1) := by decide +kernel
theorem dX6_depthOf_0 : decode cX6_depthOf 0 = .ok (.iload_n 1, 1) := by decide +kernel
theorem dX6_depthOf_1 : decode cX6_depthOf 1 = .ok (.iload_n 2, 1) := by decide +kernel
theorem dX6_depthOf_2 : decode cX6_depthOf 2 = .ok (.invokestatic 134, 3) := by decide +kernel
theorem dX6_depthOf_5 : decode cX6_depthOf 5 = .ok (.istore_n 3, 1) := by decide +kernel
theorem dX6_depthOf_6 : decode cX6_depthOf 6 = .ok (.aload_n 0, 1) := by decide +kernel
theorem dX6_depthOf_7 : decode cX6_depthOf 7 = .ok (.getfield 18, 3) := by decide +kernel
theorem dX6_depthOf_10 : decode cX6_depthOf 10 = .ok (.iload_n 3, 1) := by decide +kernel
theorem dX6_depthOf_11 : decode cX6_depthOf 11 = .ok (.iaload, 1) := by decide +kernel
theorem dX6_depthOf_12 : decode cX6_depthOf 12 = .ok (.iconst 1, 1) := by decide +kernel
theorem dX6_depthOf_13 : decode cX6_depthOf 13 = .ok (.if_icmp .gt 5, 3) := by decide +kernel
theorem dX6_depthOf_16 : decode cX6_depthOf 16 = .ok (.iconst 0, 1) := by decide +kernel
theorem dX6_depthOf_17 : decode cX6_depthOf 17 = .ok (.ireturn, 1) := by decide +kernel
theorem dX6_depthOf_18 : decode cX6_depthOf 18 = .ok (.aload_n 0, 1) := by decide +kernel
theorem dX6_depthOf_19 : decode cX6_depthOf 19 = .ok (.iload_n 1, 1) := by decide +kernel
theorem dX6_depthOf_20 : decode cX6_depthOf 20 = .ok (.aload_n 0, 1) := by decide +kernel
theorem dX6_depthOf_21 : decode cX6_depthOf 21 = .ok (.getfield 21, 3) := by decide +kernel
theorem dX6_depthOf_24 : decode cX6_depthOf 24 = .ok (.iload_n 3, 1) := by decide +kernel
theorem dX6_depthOf_25 : decode cX6_depthOf 25 = .ok (.iaload, 1) := by decide +kernel
theorem dX6_depthOf_26 : decode cX6_depthOf 26 = .ok (.invokevirtual 172, 3) := by decide +kernel
theorem dX6_depthOf_29 : decode cX6_depthOf 29 = .ok (.istore 4, 2) := by decide +kernel
theorem dX6_depthOf_31 : decode cX6_depthOf 31 = .ok (.iconst 1, 1) := by decide +kernel
theorem dX6_depthOf_32 : decode cX6_depthOf 32 = .ok (.aload_n 0, 1) := by decide +kernel
theorem dX6_depthOf_33 : decode cX6_depthOf 33 = .ok (.getfield 18, 3) := by decide +kernel
theorem dX6_depthOf_36 : decode cX6_depthOf 36 = .ok (.iload_n 3, 1) := by decide +kernel
theorem dX6_depthOf_37 : decode cX6_depthOf 37 = .ok (.iaload, 1) := by decide +kernel
theorem dX6_depthOf_38 : decode cX6_depthOf 38 = .ok (.iconst 2, 1) := by decide +kernel
theorem dX6_depthOf_39 : decode cX6_depthOf 39 = .ok (.if_icmp .ne 8, 3) := by decide +kernel
theorem dX6_depthOf_42 : decode cX6_depthOf 42 = .ok (.iload 4, 2) := by decide +kernel
theorem dX6_depthOf_44 : decode cX6_depthOf 44 = .ok (.goto 19, 3) := by decide +kernel
theorem dX6_depthOf_47 : decode cX6_depthOf 47 = .ok (.iload 4, 2) := by decide +kernel
theorem dX6_depthOf_49 : decode cX6_depthOf 49 = .ok (.aload_n 0, 1) := by decide +kernel
theorem dX6_depthOf_50 : decode cX6_depthOf 50 = .ok (.iload_n 1, 1) := by decide +kernel
theorem dX6_depthOf_51 : decode cX6_depthOf 51 = .ok (.aload_n 0, 1) := by decide +kernel
theorem dX6_depthOf_52 : decode cX6_depthOf 52 = .ok (.getfield 24, 3) := by decide +kernel
theorem dX6_depthOf_55 : decode cX6_depthOf 55 = .ok (.iload_n 3, 1) := by decide +kernel
theorem dX6_depthOf_56 : decode cX6_depthOf 56 = .ok (.iaload, 1) := by decide +kernel
theorem dX6_depthOf_57 : decode cX6_depthOf 57 = .ok (.invokevirtual 172, 3) := by decide +kernel
theorem dX6_depthOf_60 : decode cX6_depthOf 60 = .ok (.invokestatic 175, 3) := by decide +kernel
theorem dX6_depthOf_63 : decode cX6_depthOf 63 = .ok (.iadd, 1) := by decide +kernel
theorem dX6_depthOf_64 : decode cX6_depthOf 64 = .ok (.ireturn, 1) := by decide +kernel
theorem dX6_likeOf_0 : decode cX6_likeOf 0 = .ok (.iconst 0, 1) := by decide +kernel
theorem dX6_likeOf_1 : decode cX6_likeOf 1 = .ok (.istore_n 3, 1) := by decide +kernel
theorem dX6_likeOf_2 : decode cX6_likeOf 2 = .ok (.iconst 0, 1) := by decide +kernel
theorem dX6_likeOf_3 : decode cX6_likeOf 3 = .ok (.istore 4, 2) := by decide +kernel
theorem dX6_likeOf_5 : decode cX6_likeOf 5 = .ok (.iconst 0, 1) := by decide +kernel
theorem dX6_likeOf_6 : decode cX6_likeOf 6 = .ok (.istore 5, 2) := by decide +kernel
theorem dX6_likeOf_8 : decode cX6_likeOf 8 = .ok (.iload 5, 2) := by decide +kernel
theorem dX6_likeOf_10 : decode cX6_likeOf 10 = .ok (.aload_n 0, 1) := by decide +kernel
theorem dX6_likeOf_11 : decode cX6_likeOf 11 = .ok (.getfield 30, 3) := by decide +kernel
theorem dX6_likeOf_14 : decode cX6_likeOf 14 = .ok (.iload_n 1, 1) := by decide +kernel
theorem dX6_likeOf_15 : decode cX6_likeOf 15 = .ok (.iaload, 1) := by decide +kernel
theorem dX6_likeOf_16 : decode cX6_likeOf 16 = .ok (.if_icmp .ge 108, 3) := by decide +kernel
theorem dX6_likeOf_19 : decode cX6_likeOf 19 = .ok (.iconst 0, 1) := by decide +kernel
theorem dX6_likeOf_20 : decode cX6_likeOf 20 = .ok (.istore 6, 2) := by decide +kernel
theorem dX6_likeOf_22 : decode cX6_likeOf 22 = .ok (.iconst 1, 1) := by decide +kernel
theorem dX6_likeOf_23 : decode cX6_likeOf 23 = .ok (.istore 7, 2) := by decide +kernel
theorem dX6_likeOf_25 : decode cX6_likeOf 25 = .ok (.iconst 0, 1) := by decide +kernel
theorem dX6_likeOf_26 : decode cX6_likeOf 26 = .ok (.istore 8, 2) := by decide +kernel
theorem dX6_likeOf_28 : decode cX6_likeOf 28 = .ok (.iload 8, 2) := by decide +kernel
theorem dX6_likeOf_30 : decode cX6_likeOf 30 = .ok (.aload_n 0, 1) := by decide +kernel
theorem dX6_likeOf_31 : decode cX6_likeOf 31 = .ok (.getfield 30, 3) := by decide +kernel
theorem dX6_likeOf_34 : decode cX6_likeOf 34 = .ok (.iload_n 1, 1) := by decide +kernel
theorem dX6_likeOf_35 : decode cX6_likeOf 35 = .ok (.iaload, 1) := by decide +kernel
theorem dX6_likeOf_36 : decode cX6_likeOf 36 = .ok (.if_icmp .ge 60, 3) := by decide +kernel
theorem dX6_likeOf_39 : decode cX6_likeOf 39 = .ok (.aload_n 0, 1) := by decide +kernel
theorem dX6_likeOf_40 : decode cX6_likeOf 40 = .ok (.iload_n 1, 1) := by decide +kernel
theorem dX6_likeOf_41 : decode cX6_likeOf 41 = .ok (.iload 5, 2) := by decide +kernel
theorem dX6_likeOf_43 : decode cX6_likeOf 43 = .ok (.iload_n 1, 1) := by decide +kernel
theorem dX6_likeOf_44 : decode cX6_likeOf 44 = .ok (.iload 8, 2) := by decide +kernel
theorem dX6_likeOf_46 : decode cX6_likeOf 46 = .ok (.invokevirtual 168, 3) := by decide +kernel
theorem dX6_likeOf_49 : decode cX6_likeOf 49 = .ok (.istore 9, 2) := by decide +kernel
theorem dX6_likeOf_51 : decode cX6_likeOf 51 = .ok (.iload 6, 2) := by decide +kernel
theorem dX6_likeOf_53 : decode cX6_likeOf 53 = .ok (.iload 9, 2) := by decide +kernel
theorem dX6_likeOf_55 : decode cX6_likeOf 55 = .ok (.ifCond .eq 7, 3) := by decide +kernel
theorem dX6_likeOf_58 : decode cX6_likeOf 58 = .ok (.iconst 1, 1) := by decide +kernel
theorem dX6_likeOf_59 : decode cX6_likeOf 59 = .ok (.goto 4, 3) := by decide +kernel
theorem dX6_likeOf_62 : decode cX6_likeOf 62 = .ok (.iconst 0, 1) := by decide +kernel
theorem dX6_likeOf_63 : decode cX6_likeOf 63 = .ok (.iadd, 1) := by decide +kernel
theorem dX6_likeOf_64 : decode cX6_likeOf 64 = .ok (.istore 6, 2) := by decide +kernel
theorem dX6_likeOf_66 : decode cX6_likeOf 66 = .ok (.iload 7, 2) := by decide +kernel
theorem dX6_likeOf_68 : decode cX6_likeOf 68 = .ok (.ifCond .eq 19, 3) := by decide +kernel
theorem dX6_likeOf_71 : decode cX6_likeOf 71 = .ok (.iload 9, 2) := by decide +kernel
theorem dX6_likeOf_73 : decode cX6_likeOf 73 = .ok (.ifCond .eq 10, 3) := by decide +kernel
theorem dX6_likeOf_76 : decode cX6_likeOf 76 = .ok (.iload 8, 2) := by decide +kernel
theorem dX6_likeOf_78 : decode cX6_likeOf 78 = .ok (.iload 5, 2) := by decide +kernel
theorem dX6_likeOf_80 : decode cX6_likeOf 80 = .ok (.if_icmp .lt 7, 3) := by decide +kernel
theorem dX6_likeOf_83 : decode cX6_likeOf 83 = .ok (.iconst 1, 1) := by decide +kernel
theorem dX6_likeOf_84 : decode cX6_likeOf 84 = .ok (.goto 4, 3) := by decide +kernel
theorem dX6_likeOf_87 : decode cX6_likeOf 87 = .ok (.iconst 0, 1) := by decide +kernel
theorem dX6_likeOf_88 : decode cX6_likeOf 88 = .ok (.istore 7, 2) := by decide +kernel
theorem dX6_likeOf_90 : decode cX6_likeOf 90 = .ok (.iinc 8 1, 3) := by decide +kernel
theorem dX6_likeOf_93 : decode cX6_likeOf 93 = .ok (.goto (-65), 3) := by decide +kernel
theorem dX6_likeOf_96 : decode cX6_likeOf 96 = .ok (.iload_n 3, 1) := by decide +kernel
theorem dX6_likeOf_97 : decode cX6_likeOf 97 = .ok (.iload 7, 2) := by decide +kernel
theorem dX6_likeOf_99 : decode cX6_likeOf 99 = .ok (.ifCond .eq 7, 3) := by decide +kernel
theorem dX6_likeOf_102 : decode cX6_likeOf 102 = .ok (.iconst 1, 1) := by decide +kernel
theorem dX6_likeOf_103 : decode cX6_likeOf 103 = .ok (.goto 4, 3) := by decide +kernel
theorem dX6_likeOf_106 : decode cX6_likeOf 106 = .ok (.iconst 0, 1) := by decide +kernel
theorem dX6_likeOf_107 : decode cX6_likeOf 107 = .ok (.iadd, 1) := by decide +kernel
theorem dX6_likeOf_108 : decode cX6_likeOf 108 = .ok (.istore_n 3, 1) := by decide +kernel
theorem dX6_likeOf_109 : decode cX6_likeOf 109 = .ok (.iload 4, 2) := by decide +kernel
theorem dX6_likeOf_111 : decode cX6_likeOf 111 = .ok (.iload 6, 2) := by decide +kernel
theorem dX6_likeOf_113 : decode cX6_likeOf 113 = .ok (.invokestatic 175, 3) := by decide +kernel
theorem dX6_likeOf_116 : decode cX6_likeOf 116 = .ok (.istore 4, 2) := by decide +kernel
theorem dX6_likeOf_118 : decode cX6_likeOf 118 = .ok (.iinc 5 1, 3) := by decide +kernel
theorem dX6_likeOf_121 : decode cX6_likeOf 121 = .ok (.goto (-113), 3) := by decide +kernel
theorem dX6_likeOf_124 : decode cX6_likeOf 124 = .ok (.iload_n 2, 1) := by decide +kernel
theorem dX6_likeOf_125 : decode cX6_likeOf 125 = .ok (.ifCond .eq 8, 3) := by decide +kernel
theorem dX6_likeOf_128 : decode cX6_likeOf 128 = .ok (.iload 4, 2) := by decide +kernel
theorem dX6_likeOf_130 : decode cX6_likeOf 130 = .ok (.goto 4, 3) := by decide +kernel
theorem dX6_likeOf_133 : decode cX6_likeOf 133 = .ok (.iload_n 3, 1) := by decide +kernel
theorem dX6_likeOf_134 : decode cX6_likeOf 134 = .ok (.ireturn, 1) := by decide +kernel
theorem dX6_lettersOf_0 : decode cX6_lettersOf 0 = .ok (.iconst 0, 1) := by decide +kernel
theorem dX6_lettersOf_1 : decode cX6_lettersOf 1 = .ok (.istore_n 2, 1) := by decide +kernel
theorem dX6_lettersOf_2 : decode cX6_lettersOf 2 = .ok (.iconst 0, 1) := by decide +kernel
theorem dX6_lettersOf_3 : decode cX6_lettersOf 3 = .ok (.istore_n 3, 1) := by decide +kernel
theorem dX6_lettersOf_4 : decode cX6_lettersOf 4 = .ok (.iload_n 3, 1) := by decide +kernel
theorem dX6_lettersOf_5 : decode cX6_lettersOf 5 = .ok (.aload_n 0, 1) := by decide +kernel
theorem dX6_lettersOf_6 : decode cX6_lettersOf 6 = .ok (.getfield 30, 3) := by decide +kernel
theorem dX6_lettersOf_9 : decode cX6_lettersOf 9 = .ok (.iload_n 1, 1) := by decide +kernel
theorem dX6_lettersOf_10 : decode cX6_lettersOf 10 = .ok (.iaload, 1) := by decide +kernel
theorem dX6_lettersOf_11 : decode cX6_lettersOf 11 = .ok (.if_icmp .ge 41, 3) := by decide +kernel
theorem dX6_lettersOf_14 : decode cX6_lettersOf 14 = .ok (.iload_n 2, 1) := by decide +kernel
theorem dX6_lettersOf_15 : decode cX6_lettersOf 15 = .ok (.aload_n 0, 1) := by decide +kernel
theorem dX6_lettersOf_16 : decode cX6_lettersOf 16 = .ok (.getfield 18, 3) := by decide +kernel
theorem dX6_lettersOf_19 : decode cX6_lettersOf 19 = .ok (.iload_n 1, 1) := by decide +kernel
theorem dX6_lettersOf_20 : decode cX6_lettersOf 20 = .ok (.iload_n 3, 1) := by decide +kernel
theorem dX6_lettersOf_21 : decode cX6_lettersOf 21 = .ok (.invokestatic 134, 3) := by decide +kernel
theorem dX6_lettersOf_24 : decode cX6_lettersOf 24 = .ok (.iaload, 1) := by decide +kernel
theorem dX6_lettersOf_25 : decode cX6_lettersOf 25 = .ok (.ifCond .ne 18, 3) := by decide +kernel
theorem dX6_lettersOf_28 : decode cX6_lettersOf 28 = .ok (.iconst 1, 1) := by decide +kernel
theorem dX6_lettersOf_29 : decode cX6_lettersOf 29 = .ok (.aload_n 0, 1) := by decide +kernel
theorem dX6_lettersOf_30 : decode cX6_lettersOf 30 = .ok (.getfield 21, 3) := by decide +kernel
theorem dX6_lettersOf_33 : decode cX6_lettersOf 33 = .ok (.iload_n 1, 1) := by decide +kernel
theorem dX6_lettersOf_34 : decode cX6_lettersOf 34 = .ok (.iload_n 3, 1) := by decide +kernel
theorem dX6_lettersOf_35 : decode cX6_lettersOf 35 = .ok (.invokestatic 134, 3) := by decide +kernel
theorem dX6_lettersOf_38 : decode cX6_lettersOf 38 = .ok (.iaload, 1) := by decide +kernel
theorem dX6_lettersOf_39 : decode cX6_lettersOf 39 = .ok (.ishl, 1) := by decide +kernel
theorem dX6_lettersOf_40 : decode cX6_lettersOf 40 = .ok (.goto 4, 3) := by decide +kernel
theorem dX6_lettersOf_43 : decode cX6_lettersOf 43 = .ok (.iconst 0, 1) := by decide +kernel
theorem dX6_lettersOf_44 : decode cX6_lettersOf 44 = .ok (.ior, 1) := by decide +kernel
theorem dX6_lettersOf_45 : decode cX6_lettersOf 45 = .ok (.istore_n 2, 1) := by decide +kernel
theorem dX6_lettersOf_46 : decode cX6_lettersOf 46 = .ok (.iinc 3 1, 3) := by decide +kernel
theorem dX6_lettersOf_49 : decode cX6_lettersOf 49 = .ok (.goto (-45), 3) := by decide +kernel
theorem dX6_lettersOf_52 : decode cX6_lettersOf 52 = .ok (.iload_n 2, 1) := by decide +kernel
theorem dX6_lettersOf_53 : decode cX6_lettersOf 53 = .ok (.ireturn, 1) := by decide +kernel
theorem dX6_parts_0 : decode cX6_parts 0 = .ok (.aload_n 0, 1) := by decide +kernel
theorem dX6_parts_1 : decode cX6_parts 1 = .ok (.iload_n 1, 1) := by decide +kernel
theorem dX6_parts_2 : decode cX6_parts 2 = .ok (.invokevirtual 180, 3) := by decide +kernel
theorem dX6_parts_5 : decode cX6_parts 5 = .ok (.ifCond .ne 5, 3) := by decide +kernel
theorem dX6_parts_8 : decode cX6_parts 8 = .ok (.iconst (-1), 1) := by decide +kernel
theorem dX6_parts_9 : decode cX6_parts 9 = .ok (.ireturn, 1) := by decide +kernel
theorem dX6_parts_10 : decode cX6_parts 10 = .ok (.iload_n 2, 1) := by decide +kernel
theorem dX6_parts_11 : decode cX6_parts 11 = .ok (.tableswitch 73 0 4 #[33, 40, 40, 56, 62], 33) := by decide +kernel
theorem dX6_parts_44 : decode cX6_parts 44 = .ok (.aload_n 0, 1) := by decide +kernel
theorem dX6_parts_45 : decode cX6_parts 45 = .ok (.getfield 30, 3) := by decide +kernel
theorem dX6_parts_48 : decode cX6_parts 48 = .ok (.iload_n 1, 1) := by decide +kernel
theorem dX6_parts_49 : decode cX6_parts 49 = .ok (.iaload, 1) := by decide +kernel
theorem dX6_parts_50 : decode cX6_parts 50 = .ok (.ireturn, 1) := by decide +kernel
theorem dX6_parts_51 : decode cX6_parts 51 = .ok (.aload_n 0, 1) := by decide +kernel
theorem dX6_parts_52 : decode cX6_parts 52 = .ok (.iload_n 1, 1) := by decide +kernel
theorem dX6_parts_53 : decode cX6_parts 53 = .ok (.iload_n 2, 1) := by decide +kernel
theorem dX6_parts_54 : decode cX6_parts 54 = .ok (.iconst 2, 1) := by decide +kernel
theorem dX6_parts_55 : decode cX6_parts 55 = .ok (.if_icmp .ne 7, 3) := by decide +kernel
theorem dX6_parts_58 : decode cX6_parts 58 = .ok (.iconst 1, 1) := by decide +kernel
theorem dX6_parts_59 : decode cX6_parts 59 = .ok (.goto 4, 3) := by decide +kernel
theorem dX6_parts_62 : decode cX6_parts 62 = .ok (.iconst 0, 1) := by decide +kernel
theorem dX6_parts_63 : decode cX6_parts 63 = .ok (.invokevirtual 183, 3) := by decide +kernel
theorem dX6_parts_66 : decode cX6_parts 66 = .ok (.ireturn, 1) := by decide +kernel
theorem dX6_parts_67 : decode cX6_parts 67 = .ok (.aload_n 0, 1) := by decide +kernel
theorem dX6_parts_68 : decode cX6_parts 68 = .ok (.iload_n 1, 1) := by decide +kernel
theorem dX6_parts_69 : decode cX6_parts 69 = .ok (.invokevirtual 187, 3) := by decide +kernel
theorem dX6_parts_72 : decode cX6_parts 72 = .ok (.ireturn, 1) := by decide +kernel
theorem dX6_parts_73 : decode cX6_parts 73 = .ok (.aload_n 0, 1) := by decide +kernel
theorem dX6_parts_74 : decode cX6_parts 74 = .ok (.iload_n 1, 1) := by decide +kernel
theorem dX6_parts_75 : decode cX6_parts 75 = .ok (.aload_n 0, 1) := by decide +kernel
theorem dX6_parts_76 : decode cX6_parts 76 = .ok (.iload_n 1, 1) := by decide +kernel
theorem dX6_parts_77 : decode cX6_parts 77 = .ok (.invokevirtual 190, 3) := by decide +kernel
theorem dX6_parts_80 : decode cX6_parts 80 = .ok (.invokevirtual 172, 3) := by decide +kernel
theorem dX6_parts_83 : decode cX6_parts 83 = .ok (.ireturn, 1) := by decide +kernel
theorem dX6_parts_84 : decode cX6_parts 84 = .ok (.iconst (-1), 1) := by decide +kernel
theorem dX6_parts_85 : decode cX6_parts 85 = .ok (.ireturn, 1) := by decide +kernel
theorem dX6_alike_0 : decode cX6_alike 0 = .ok (.aload_n 0, 1) := by decide +kernel
theorem dX6_alike_1 : decode cX6_alike 1 = .ok (.iload_n 1, 1) := by decide +kernel
theorem dX6_alike_2 : decode cX6_alike 2 = .ok (.invokevirtual 180, 3) := by decide +kernel
theorem dX6_alike_5 : decode cX6_alike 5 = .ok (.ifCond .eq 11, 3) := by decide +kernel
theorem dX6_alike_8 : decode cX6_alike 8 = .ok (.aload_n 0, 1) := by decide +kernel
theorem dX6_alike_9 : decode cX6_alike 9 = .ok (.iload_n 2, 1) := by decide +kernel
theorem dX6_alike_10 : decode cX6_alike 10 = .ok (.invokevirtual 180, 3) := by decide +kernel
theorem dX6_alike_13 : decode cX6_alike 13 = .ok (.ifCond .ne 5, 3) := by decide +kernel
theorem dX6_alike_16 : decode cX6_alike 16 = .ok (.iconst (-1), 1) := by decide +kernel
theorem dX6_alike_17 : decode cX6_alike 17 = .ok (.ireturn, 1) := by decide +kernel
theorem dX6_alike_18 : decode cX6_alike 18 = .ok (.aload_n 0, 1) := by decide +kernel
theorem dX6_alike_19 : decode cX6_alike 19 = .ok (.iload_n 1, 1) := by decide +kernel
theorem dX6_alike_20 : decode cX6_alike 20 = .ok (.aload_n 0, 1) := by decide +kernel
theorem dX6_alike_21 : decode cX6_alike 21 = .ok (.iload_n 1, 1) := by decide +kernel
theorem dX6_alike_22 : decode cX6_alike 22 = .ok (.invokevirtual 190, 3) := by decide +kernel
theorem dX6_alike_25 : decode cX6_alike 25 = .ok (.iload_n 2, 1) := by decide +kernel
theorem dX6_alike_26 : decode cX6_alike 26 = .ok (.aload_n 0, 1) := by decide +kernel
theorem dX6_alike_27 : decode cX6_alike 27 = .ok (.iload_n 2, 1) := by decide +kernel
theorem dX6_alike_28 : decode cX6_alike 28 = .ok (.invokevirtual 190, 3) := by decide +kernel
theorem dX6_alike_31 : decode cX6_alike 31 = .ok (.invokevirtual 168, 3) := by decide +kernel
theorem dX6_alike_34 : decode cX6_alike 34 = .ok (.ifCond .eq 7, 3) := by decide +kernel
theorem dX6_alike_37 : decode cX6_alike 37 = .ok (.iconst 1, 1) := by decide +kernel
theorem dX6_alike_38 : decode cX6_alike 38 = .ok (.goto 4, 3) := by decide +kernel
theorem dX6_alike_41 : decode cX6_alike 41 = .ok (.iconst 0, 1) := by decide +kernel
theorem dX6_alike_42 : decode cX6_alike 42 = .ok (.ireturn, 1) := by decide +kernel
theorem dX6_sum_0 : decode cX6_sum 0 = .ok (.lload_n 1, 1) := by decide +kernel
theorem dX6_sum_1 : decode cX6_sum 1 = .ok (.lload_n 3, 1) := by decide +kernel
theorem dX6_sum_2 : decode cX6_sum 2 = .ok (.ladd, 1) := by decide +kernel
theorem dX6_sum_3 : decode cX6_sum 3 = .ok (.lstore 5, 2) := by decide +kernel
theorem dX6_sum_5 : decode cX6_sum 5 = .ok (.aload_n 0, 1) := by decide +kernel
theorem dX6_sum_6 : decode cX6_sum 6 = .ok (.dup, 1) := by decide +kernel
theorem dX6_sum_7 : decode cX6_sum 7 = .ok (.getfield 193, 3) := by decide +kernel
theorem dX6_sum_10 : decode cX6_sum 10 = .ok (.lload_n 1, 1) := by decide +kernel
theorem dX6_sum_11 : decode cX6_sum 11 = .ok (.lconst 0, 1) := by decide +kernel
theorem dX6_sum_12 : decode cX6_sum 12 = .ok (.lcmp, 1) := by decide +kernel
theorem dX6_sum_13 : decode cX6_sum 13 = .ok (.ifCond .lt 16, 3) := by decide +kernel
theorem dX6_sum_16 : decode cX6_sum 16 = .ok (.lload_n 3, 1) := by decide +kernel
theorem dX6_sum_17 : decode cX6_sum 17 = .ok (.lconst 0, 1) := by decide +kernel
theorem dX6_sum_18 : decode cX6_sum 18 = .ok (.lcmp, 1) := by decide +kernel
theorem dX6_sum_19 : decode cX6_sum 19 = .ok (.ifCond .lt 10, 3) := by decide +kernel
theorem dX6_sum_22 : decode cX6_sum 22 = .ok (.lload 5, 2) := by decide +kernel
theorem dX6_sum_24 : decode cX6_sum 24 = .ok (.lconst 0, 1) := by decide +kernel
theorem dX6_sum_25 : decode cX6_sum 25 = .ok (.lcmp, 1) := by decide +kernel
theorem dX6_sum_26 : decode cX6_sum 26 = .ok (.ifCond .lt 22, 3) := by decide +kernel
theorem dX6_sum_29 : decode cX6_sum 29 = .ok (.lload_n 1, 1) := by decide +kernel
theorem dX6_sum_30 : decode cX6_sum 30 = .ok (.lconst 0, 1) := by decide +kernel
theorem dX6_sum_31 : decode cX6_sum 31 = .ok (.lcmp, 1) := by decide +kernel
theorem dX6_sum_32 : decode cX6_sum 32 = .ok (.ifCond .ge 20, 3) := by decide +kernel
theorem dX6_sum_35 : decode cX6_sum 35 = .ok (.lload_n 3, 1) := by decide +kernel
theorem dX6_sum_36 : decode cX6_sum 36 = .ok (.lconst 0, 1) := by decide +kernel
theorem dX6_sum_37 : decode cX6_sum 37 = .ok (.lcmp, 1) := by decide +kernel
theorem dX6_sum_38 : decode cX6_sum 38 = .ok (.ifCond .ge 14, 3) := by decide +kernel
theorem dX6_sum_41 : decode cX6_sum 41 = .ok (.lload 5, 2) := by decide +kernel
theorem dX6_sum_43 : decode cX6_sum 43 = .ok (.lconst 0, 1) := by decide +kernel
theorem dX6_sum_44 : decode cX6_sum 44 = .ok (.lcmp, 1) := by decide +kernel
theorem dX6_sum_45 : decode cX6_sum 45 = .ok (.ifCond .lt 7, 3) := by decide +kernel
theorem dX6_sum_48 : decode cX6_sum 48 = .ok (.iconst 1, 1) := by decide +kernel
theorem dX6_sum_49 : decode cX6_sum 49 = .ok (.goto 4, 3) := by decide +kernel
theorem dX6_sum_52 : decode cX6_sum 52 = .ok (.iconst 0, 1) := by decide +kernel
theorem dX6_sum_53 : decode cX6_sum 53 = .ok (.ior, 1) := by decide +kernel
theorem dX6_sum_54 : decode cX6_sum 54 = .ok (.putfield 193, 3) := by decide +kernel
theorem dX6_sum_57 : decode cX6_sum 57 = .ok (.lload 5, 2) := by decide +kernel
theorem dX6_sum_59 : decode cX6_sum 59 = .ok (.lreturn, 1) := by decide +kernel
theorem dX6_less_0 : decode cX6_less 0 = .ok (.lload_n 1, 1) := by decide +kernel
theorem dX6_less_1 : decode cX6_less 1 = .ok (.lload_n 3, 1) := by decide +kernel
theorem dX6_less_2 : decode cX6_less 2 = .ok (.lsub, 1) := by decide +kernel
theorem dX6_less_3 : decode cX6_less 3 = .ok (.lstore 5, 2) := by decide +kernel
theorem dX6_less_5 : decode cX6_less 5 = .ok (.aload_n 0, 1) := by decide +kernel
theorem dX6_less_6 : decode cX6_less 6 = .ok (.dup, 1) := by decide +kernel
theorem dX6_less_7 : decode cX6_less 7 = .ok (.getfield 193, 3) := by decide +kernel
theorem dX6_less_10 : decode cX6_less 10 = .ok (.lload_n 1, 1) := by decide +kernel
theorem dX6_less_11 : decode cX6_less 11 = .ok (.lconst 0, 1) := by decide +kernel
theorem dX6_less_12 : decode cX6_less 12 = .ok (.lcmp, 1) := by decide +kernel
theorem dX6_less_13 : decode cX6_less 13 = .ok (.ifCond .lt 16, 3) := by decide +kernel
theorem dX6_less_16 : decode cX6_less 16 = .ok (.lload_n 3, 1) := by decide +kernel
theorem dX6_less_17 : decode cX6_less 17 = .ok (.lconst 0, 1) := by decide +kernel
theorem dX6_less_18 : decode cX6_less 18 = .ok (.lcmp, 1) := by decide +kernel
theorem dX6_less_19 : decode cX6_less 19 = .ok (.ifCond .ge 10, 3) := by decide +kernel
theorem dX6_less_22 : decode cX6_less 22 = .ok (.lload 5, 2) := by decide +kernel
theorem dX6_less_24 : decode cX6_less 24 = .ok (.lconst 0, 1) := by decide +kernel
theorem dX6_less_25 : decode cX6_less 25 = .ok (.lcmp, 1) := by decide +kernel
theorem dX6_less_26 : decode cX6_less 26 = .ok (.ifCond .lt 22, 3) := by decide +kernel
theorem dX6_less_29 : decode cX6_less 29 = .ok (.lload_n 1, 1) := by decide +kernel
theorem dX6_less_30 : decode cX6_less 30 = .ok (.lconst 0, 1) := by decide +kernel
theorem dX6_less_31 : decode cX6_less 31 = .ok (.lcmp, 1) := by decide +kernel
theorem dX6_less_32 : decode cX6_less 32 = .ok (.ifCond .ge 20, 3) := by decide +kernel
theorem dX6_less_35 : decode cX6_less 35 = .ok (.lload_n 3, 1) := by decide +kernel
theorem dX6_less_36 : decode cX6_less 36 = .ok (.lconst 0, 1) := by decide +kernel
theorem dX6_less_37 : decode cX6_less 37 = .ok (.lcmp, 1) := by decide +kernel
theorem dX6_less_38 : decode cX6_less 38 = .ok (.ifCond .lt 14, 3) := by decide +kernel
theorem dX6_less_41 : decode cX6_less 41 = .ok (.lload 5, 2) := by decide +kernel
theorem dX6_less_43 : decode cX6_less 43 = .ok (.lconst 0, 1) := by decide +kernel
theorem dX6_less_44 : decode cX6_less 44 = .ok (.lcmp, 1) := by decide +kernel
theorem dX6_less_45 : decode cX6_less 45 = .ok (.ifCond .lt 7, 3) := by decide +kernel
theorem dX6_less_48 : decode cX6_less 48 = .ok (.iconst 1, 1) := by decide +kernel
theorem dX6_less_49 : decode cX6_less 49 = .ok (.goto 4, 3) := by decide +kernel
theorem dX6_less_52 : decode cX6_less 52 = .ok (.iconst 0, 1) := by decide +kernel
theorem dX6_less_53 : decode cX6_less 53 = .ok (.ior, 1) := by decide +kernel
theorem dX6_less_54 : decode cX6_less 54 = .ok (.putfield 193, 3) := by decide +kernel
theorem dX6_less_57 : decode cX6_less 57 = .ok (.lload 5, 2) := by decide +kernel
theorem dX6_less_59 : decode cX6_less 59 = .ok (.lreturn, 1) := by decide +kernel
theorem dX6_product_0 : decode cX6_product 0 = .ok (.lload_n 1, 1) := by decide +kernel
theorem dX6_product_1 : decode cX6_product 1 = .ok (.lload_n 3, 1) := by decide +kernel
theorem dX6_product_2 : decode cX6_product 2 = .ok (.lmul, 1) := by decide +kernel
theorem dX6_product_3 : decode cX6_product 3 = .ok (.lstore 5, 2) := by decide +kernel
theorem dX6_product_5 : decode cX6_product 5 = .ok (.aload_n 0, 1) := by decide +kernel
theorem dX6_product_6 : decode cX6_product 6 = .ok (.dup, 1) := by decide +kernel
theorem dX6_product_7 : decode cX6_product 7 = .ok (.getfield 193, 3) := by decide +kernel
theorem dX6_product_10 : decode cX6_product 10 = .ok (.lload_n 1, 1) := by decide +kernel
theorem dX6_product_11 : decode cX6_product 11 = .ok (.lconst 0, 1) := by decide +kernel
theorem dX6_product_12 : decode cX6_product 12 = .ok (.lcmp, 1) := by decide +kernel
theorem dX6_product_13 : decode cX6_product 13 = .ok (.ifCond .eq 32, 3) := by decide +kernel
theorem dX6_product_16 : decode cX6_product 16 = .ok (.lload 5, 2) := by decide +kernel
theorem dX6_product_18 : decode cX6_product 18 = .ok (.lload_n 1, 1) := by decide +kernel
theorem dX6_product_19 : decode cX6_product 19 = .ok (.ldiv, 1) := by decide +kernel
theorem dX6_product_20 : decode cX6_product 20 = .ok (.lload_n 3, 1) := by decide +kernel
theorem dX6_product_21 : decode cX6_product 21 = .ok (.lcmp, 1) := by decide +kernel
theorem dX6_product_22 : decode cX6_product 22 = .ok (.ifCond .ne 19, 3) := by decide +kernel
theorem dX6_product_25 : decode cX6_product 25 = .ok (.lload_n 1, 1) := by decide +kernel
theorem dX6_product_26 : decode cX6_product 26 = .ok (.ldc2_w 196, 3) := by decide +kernel
theorem dX6_product_29 : decode cX6_product 29 = .ok (.lcmp, 1) := by decide +kernel
theorem dX6_product_30 : decode cX6_product 30 = .ok (.ifCond .ne 15, 3) := by decide +kernel
theorem dX6_product_33 : decode cX6_product 33 = .ok (.lload_n 3, 1) := by decide +kernel
theorem dX6_product_34 : decode cX6_product 34 = .ok (.ldc2_w 198, 3) := by decide +kernel
theorem dX6_product_37 : decode cX6_product 37 = .ok (.lcmp, 1) := by decide +kernel
theorem dX6_product_38 : decode cX6_product 38 = .ok (.ifCond .ne 7, 3) := by decide +kernel
theorem dX6_product_41 : decode cX6_product 41 = .ok (.iconst 1, 1) := by decide +kernel
theorem dX6_product_42 : decode cX6_product 42 = .ok (.goto 4, 3) := by decide +kernel
theorem dX6_product_45 : decode cX6_product 45 = .ok (.iconst 0, 1) := by decide +kernel
theorem dX6_product_46 : decode cX6_product 46 = .ok (.ior, 1) := by decide +kernel
theorem dX6_product_47 : decode cX6_product 47 = .ok (.putfield 193, 3) := by decide +kernel
theorem dX6_product_50 : decode cX6_product 50 = .ok (.lload 5, 2) := by decide +kernel
theorem dX6_product_52 : decode cX6_product 52 = .ok (.lreturn, 1) := by decide +kernel
theorem dX6_lays_0 : decode cX6_lays 0 = .ok (.aload_n 0, 1) := by decide +kernel
theorem dX6_lays_1 : decode cX6_lays 1 = .ok (.getfield 51, 3) := by decide +kernel
theorem dX6_lays_4 : decode cX6_lays 4 = .ok (.iload_n 1, 1) := by decide +kernel
theorem dX6_lays_5 : decode cX6_lays 5 = .ok (.iload_n 2, 1) := by decide +kernel
theorem dX6_lays_6 : decode cX6_lays 6 = .ok (.iastore, 1) := by decide +kernel
theorem dX6_lays_7 : decode cX6_lays 7 = .ok (.aload_n 0, 1) := by decide +kernel
theorem dX6_lays_8 : decode cX6_lays 8 = .ok (.getfield 54, 3) := by decide +kernel
theorem dX6_lays_11 : decode cX6_lays 11 = .ok (.iload_n 1, 1) := by decide +kernel
theorem dX6_lays_12 : decode cX6_lays 12 = .ok (.iload_n 3, 1) := by decide +kernel
theorem dX6_lays_13 : decode cX6_lays 13 = .ok (.iastore, 1) := by decide +kernel
theorem dX6_lays_14 : decode cX6_lays 14 = .ok (.return_, 1) := by decide +kernel
theorem dX6_laysBox_0 : decode cX6_laysBox 0 = .ok (.iconst 0, 1) := by decide +kernel
theorem dX6_laysBox_1 : decode cX6_laysBox 1 = .ok (.istore_n 1, 1) := by decide +kernel
theorem dX6_laysBox_2 : decode cX6_laysBox 2 = .ok (.iload_n 1, 1) := by decide +kernel
theorem dX6_laysBox_3 : decode cX6_laysBox 3 = .ok (.bipush 6, 2) := by decide +kernel
theorem dX6_laysBox_5 : decode cX6_laysBox 5 = .ok (.if_icmp .ge 36, 3) := by decide +kernel
theorem dX6_laysBox_8 : decode cX6_laysBox 8 = .ok (.aload_n 0, 1) := by decide +kernel
theorem dX6_laysBox_9 : decode cX6_laysBox 9 = .ok (.iload_n 1, 1) := by decide +kernel
theorem dX6_laysBox_10 : decode cX6_laysBox 10 = .ok (.aload_n 0, 1) := by decide +kernel
theorem dX6_laysBox_11 : decode cX6_laysBox 11 = .ok (.iload_n 1, 1) := by decide +kernel
theorem dX6_laysBox_12 : decode cX6_laysBox 12 = .ok (.invokevirtual 115, 3) := by decide +kernel
theorem dX6_laysBox_15 : decode cX6_laysBox 15 = .ok (.aload_n 0, 1) := by decide +kernel
theorem dX6_laysBox_16 : decode cX6_laysBox 16 = .ok (.iload_n 1, 1) := by decide +kernel
theorem dX6_laysBox_17 : decode cX6_laysBox 17 = .ok (.invokevirtual 119, 3) := by decide +kernel
theorem dX6_laysBox_20 : decode cX6_laysBox 20 = .ok (.isub, 1) := by decide +kernel
theorem dX6_laysBox_21 : decode cX6_laysBox 21 = .ok (.aload_n 0, 1) := by decide +kernel
theorem dX6_laysBox_22 : decode cX6_laysBox 22 = .ok (.iload_n 1, 1) := by decide +kernel
theorem dX6_laysBox_23 : decode cX6_laysBox 23 = .ok (.invokevirtual 115, 3) := by decide +kernel
theorem dX6_laysBox_26 : decode cX6_laysBox 26 = .ok (.aload_n 0, 1) := by decide +kernel
theorem dX6_laysBox_27 : decode cX6_laysBox 27 = .ok (.iload_n 1, 1) := by decide +kernel
theorem dX6_laysBox_28 : decode cX6_laysBox 28 = .ok (.invokevirtual 119, 3) := by decide +kernel
theorem dX6_laysBox_31 : decode cX6_laysBox 31 = .ok (.iadd, 1) := by decide +kernel
theorem dX6_laysBox_32 : decode cX6_laysBox 32 = .ok (.invokevirtual 200, 3) := by decide +kernel
theorem dX6_laysBox_35 : decode cX6_laysBox 35 = .ok (.iinc 1 1, 3) := by decide +kernel
theorem dX6_laysBox_38 : decode cX6_laysBox 38 = .ok (.goto (-36), 3) := by decide +kernel
theorem dX6_laysBox_41 : decode cX6_laysBox 41 = .ok (.return_, 1) := by decide +kernel
theorem dX6_products__0 : decode cX6_products_ 0 = .ok (.aload_n 0, 1) := by decide +kernel
theorem dX6_products__1 : decode cX6_products_ 1 = .ok (.lload_n 1, 1) := by decide +kernel
theorem dX6_products__2 : decode cX6_products_ 2 = .ok (.lload 5, 2) := by decide +kernel
theorem dX6_products__4 : decode cX6_products_ 4 = .ok (.invokevirtual 204, 3) := by decide +kernel
theorem dX6_products__7 : decode cX6_products_ 7 = .ok (.lstore 9, 2) := by decide +kernel
theorem dX6_products__9 : decode cX6_products_ 9 = .ok (.aload_n 0, 1) := by decide +kernel
theorem dX6_products__10 : decode cX6_products_ 10 = .ok (.lload_n 1, 1) := by decide +kernel
theorem dX6_products__11 : decode cX6_products_ 11 = .ok (.lload 7, 2) := by decide +kernel
theorem dX6_products__13 : decode cX6_products_ 13 = .ok (.invokevirtual 204, 3) := by decide +kernel
theorem dX6_products__16 : decode cX6_products_ 16 = .ok (.lstore 11, 2) := by decide +kernel
theorem dX6_products__18 : decode cX6_products_ 18 = .ok (.aload_n 0, 1) := by decide +kernel
theorem dX6_products__19 : decode cX6_products_ 19 = .ok (.lload_n 3, 1) := by decide +kernel
theorem dX6_products__20 : decode cX6_products_ 20 = .ok (.lload 5, 2) := by decide +kernel
theorem dX6_products__22 : decode cX6_products_ 22 = .ok (.invokevirtual 204, 3) := by decide +kernel
theorem dX6_products__25 : decode cX6_products_ 25 = .ok (.lstore 13, 2) := by decide +kernel
theorem dX6_products__27 : decode cX6_products_ 27 = .ok (.aload_n 0, 1) := by decide +kernel
theorem dX6_products__28 : decode cX6_products_ 28 = .ok (.lload_n 3, 1) := by decide +kernel
theorem dX6_products__29 : decode cX6_products_ 29 = .ok (.lload 7, 2) := by decide +kernel
theorem dX6_products__31 : decode cX6_products_ 31 = .ok (.invokevirtual 204, 3) := by decide +kernel
theorem dX6_products__34 : decode cX6_products_ 34 = .ok (.lstore 15, 2) := by decide +kernel
theorem dX6_products__36 : decode cX6_products_ 36 = .ok (.aload_n 0, 1) := by decide +kernel
theorem dX6_products__37 : decode cX6_products_ 37 = .ok (.lload 9, 2) := by decide +kernel
theorem dX6_products__39 : decode cX6_products_ 39 = .ok (.lload 11, 2) := by decide +kernel
theorem dX6_products__41 : decode cX6_products_ 41 = .ok (.invokestatic 208, 3) := by decide +kernel
theorem dX6_products__44 : decode cX6_products_ 44 = .ok (.lload 13, 2) := by decide +kernel
theorem dX6_products__46 : decode cX6_products_ 46 = .ok (.lload 15, 2) := by decide +kernel
theorem dX6_products__48 : decode cX6_products_ 48 = .ok (.invokestatic 208, 3) := by decide +kernel
theorem dX6_products__51 : decode cX6_products_ 51 = .ok (.invokestatic 208, 3) := by decide +kernel
theorem dX6_products__54 : decode cX6_products_ 54 = .ok (.putfield 211, 3) := by decide +kernel
theorem dX6_products__57 : decode cX6_products_ 57 = .ok (.aload_n 0, 1) := by decide +kernel
theorem dX6_products__58 : decode cX6_products_ 58 = .ok (.lload 9, 2) := by decide +kernel
theorem dX6_products__60 : decode cX6_products_ 60 = .ok (.lload 11, 2) := by decide +kernel
theorem dX6_products__62 : decode cX6_products_ 62 = .ok (.invokestatic 215, 3) := by decide +kernel
theorem dX6_products__65 : decode cX6_products_ 65 = .ok (.lload 13, 2) := by decide +kernel
theorem dX6_products__67 : decode cX6_products_ 67 = .ok (.lload 15, 2) := by decide +kernel
theorem dX6_products__69 : decode cX6_products_ 69 = .ok (.invokestatic 215, 3) := by decide +kernel
theorem dX6_products__72 : decode cX6_products_ 72 = .ok (.invokestatic 215, 3) := by decide +kernel
theorem dX6_products__75 : decode cX6_products_ 75 = .ok (.putfield 217, 3) := by decide +kernel
theorem dX6_products__78 : decode cX6_products_ 78 = .ok (.return_, 1) := by decide +kernel
theorem dX6_joins_0 : decode cX6_joins 0 = .ok (.iload_n 1, 1) := by decide +kernel
theorem dX6_joins_1 : decode cX6_joins 1 = .ok (.tableswitch 156 2 4 #[27, 62, 109], 27) := by decide +kernel
theorem dX6_joins_28 : decode cX6_joins 28 = .ok (.aload_n 0, 1) := by decide +kernel
theorem dX6_joins_29 : decode cX6_joins 29 = .ok (.getfield 57, 3) := by decide +kernel
theorem dX6_joins_32 : decode cX6_joins 32 = .ok (.iload_n 2, 1) := by decide +kernel
theorem dX6_joins_33 : decode cX6_joins 33 = .ok (.aload_n 0, 1) := by decide +kernel
theorem dX6_joins_34 : decode cX6_joins 34 = .ok (.lconst 0, 1) := by decide +kernel
theorem dX6_joins_35 : decode cX6_joins 35 = .ok (.aload_n 0, 1) := by decide +kernel
theorem dX6_joins_36 : decode cX6_joins 36 = .ok (.getfield 61, 3) := by decide +kernel
theorem dX6_joins_39 : decode cX6_joins 39 = .ok (.iload_n 3, 1) := by decide +kernel
theorem dX6_joins_40 : decode cX6_joins 40 = .ok (.laload, 1) := by decide +kernel
theorem dX6_joins_41 : decode cX6_joins 41 = .ok (.invokevirtual 220, 3) := by decide +kernel
theorem dX6_joins_44 : decode cX6_joins 44 = .ok (.lastore, 1) := by decide +kernel
theorem dX6_joins_45 : decode cX6_joins 45 = .ok (.aload_n 0, 1) := by decide +kernel
theorem dX6_joins_46 : decode cX6_joins 46 = .ok (.getfield 61, 3) := by decide +kernel
theorem dX6_joins_49 : decode cX6_joins 49 = .ok (.iload_n 2, 1) := by decide +kernel
theorem dX6_joins_50 : decode cX6_joins 50 = .ok (.aload_n 0, 1) := by decide +kernel
theorem dX6_joins_51 : decode cX6_joins 51 = .ok (.lconst 0, 1) := by decide +kernel
theorem dX6_joins_52 : decode cX6_joins 52 = .ok (.aload_n 0, 1) := by decide +kernel
theorem dX6_joins_53 : decode cX6_joins 53 = .ok (.getfield 57, 3) := by decide +kernel
theorem dX6_joins_56 : decode cX6_joins 56 = .ok (.iload_n 3, 1) := by decide +kernel
theorem dX6_joins_57 : decode cX6_joins 57 = .ok (.laload, 1) := by decide +kernel
theorem dX6_joins_58 : decode cX6_joins 58 = .ok (.invokevirtual 220, 3) := by decide +kernel
theorem dX6_joins_61 : decode cX6_joins 61 = .ok (.lastore, 1) := by decide +kernel
theorem dX6_joins_62 : decode cX6_joins 62 = .ok (.return_, 1) := by decide +kernel
theorem dX6_joins_63 : decode cX6_joins 63 = .ok (.aload_n 0, 1) := by decide +kernel
theorem dX6_joins_64 : decode cX6_joins 64 = .ok (.getfield 57, 3) := by decide +kernel
theorem dX6_joins_67 : decode cX6_joins 67 = .ok (.iload_n 2, 1) := by decide +kernel
theorem dX6_joins_68 : decode cX6_joins 68 = .ok (.aload_n 0, 1) := by decide +kernel
theorem dX6_joins_69 : decode cX6_joins 69 = .ok (.aload_n 0, 1) := by decide +kernel
theorem dX6_joins_70 : decode cX6_joins 70 = .ok (.getfield 57, 3) := by decide +kernel
theorem dX6_joins_73 : decode cX6_joins 73 = .ok (.iload_n 3, 1) := by decide +kernel
theorem dX6_joins_74 : decode cX6_joins 74 = .ok (.laload, 1) := by decide +kernel
theorem dX6_joins_75 : decode cX6_joins 75 = .ok (.aload_n 0, 1) := by decide +kernel
theorem dX6_joins_76 : decode cX6_joins 76 = .ok (.getfield 57, 3) := by decide +kernel
theorem dX6_joins_79 : decode cX6_joins 79 = .ok (.iload 4, 2) := by decide +kernel
theorem dX6_joins_81 : decode cX6_joins 81 = .ok (.laload, 1) := by decide +kernel
theorem dX6_joins_82 : decode cX6_joins 82 = .ok (.invokevirtual 223, 3) := by decide +kernel
theorem dX6_joins_85 : decode cX6_joins 85 = .ok (.lastore, 1) := by decide +kernel
theorem dX6_joins_86 : decode cX6_joins 86 = .ok (.aload_n 0, 1) := by decide +kernel
theorem dX6_joins_87 : decode cX6_joins 87 = .ok (.getfield 61, 3) := by decide +kernel
theorem dX6_joins_90 : decode cX6_joins 90 = .ok (.iload_n 2, 1) := by decide +kernel
theorem dX6_joins_91 : decode cX6_joins 91 = .ok (.aload_n 0, 1) := by decide +kernel
theorem dX6_joins_92 : decode cX6_joins 92 = .ok (.aload_n 0, 1) := by decide +kernel
theorem dX6_joins_93 : decode cX6_joins 93 = .ok (.getfield 61, 3) := by decide +kernel
theorem dX6_joins_96 : decode cX6_joins 96 = .ok (.iload_n 3, 1) := by decide +kernel
theorem dX6_joins_97 : decode cX6_joins 97 = .ok (.laload, 1) := by decide +kernel
theorem dX6_joins_98 : decode cX6_joins 98 = .ok (.aload_n 0, 1) := by decide +kernel
theorem dX6_joins_99 : decode cX6_joins 99 = .ok (.getfield 61, 3) := by decide +kernel
theorem dX6_joins_102 : decode cX6_joins 102 = .ok (.iload 4, 2) := by decide +kernel
theorem dX6_joins_104 : decode cX6_joins 104 = .ok (.laload, 1) := by decide +kernel
theorem dX6_joins_105 : decode cX6_joins 105 = .ok (.invokevirtual 223, 3) := by decide +kernel
theorem dX6_joins_108 : decode cX6_joins 108 = .ok (.lastore, 1) := by decide +kernel
theorem dX6_joins_109 : decode cX6_joins 109 = .ok (.return_, 1) := by decide +kernel
theorem dX6_joins_110 : decode cX6_joins 110 = .ok (.aload_n 0, 1) := by decide +kernel
theorem dX6_joins_111 : decode cX6_joins 111 = .ok (.getfield 57, 3) := by decide +kernel
theorem dX6_joins_114 : decode cX6_joins 114 = .ok (.iload_n 2, 1) := by decide +kernel
theorem dX6_joins_115 : decode cX6_joins 115 = .ok (.aload_n 0, 1) := by decide +kernel
theorem dX6_joins_116 : decode cX6_joins 116 = .ok (.aload_n 0, 1) := by decide +kernel
theorem dX6_joins_117 : decode cX6_joins 117 = .ok (.getfield 57, 3) := by decide +kernel
theorem dX6_joins_120 : decode cX6_joins 120 = .ok (.iload_n 3, 1) := by decide +kernel
theorem dX6_joins_121 : decode cX6_joins 121 = .ok (.laload, 1) := by decide +kernel
theorem dX6_joins_122 : decode cX6_joins 122 = .ok (.aload_n 0, 1) := by decide +kernel
theorem dX6_joins_123 : decode cX6_joins 123 = .ok (.getfield 61, 3) := by decide +kernel
theorem dX6_joins_126 : decode cX6_joins 126 = .ok (.iload 4, 2) := by decide +kernel
theorem dX6_joins_128 : decode cX6_joins 128 = .ok (.laload, 1) := by decide +kernel
theorem dX6_joins_129 : decode cX6_joins 129 = .ok (.invokevirtual 220, 3) := by decide +kernel
theorem dX6_joins_132 : decode cX6_joins 132 = .ok (.lastore, 1) := by decide +kernel
theorem dX6_joins_133 : decode cX6_joins 133 = .ok (.aload_n 0, 1) := by decide +kernel
theorem dX6_joins_134 : decode cX6_joins 134 = .ok (.getfield 61, 3) := by decide +kernel
theorem dX6_joins_137 : decode cX6_joins 137 = .ok (.iload_n 2, 1) := by decide +kernel
theorem dX6_joins_138 : decode cX6_joins 138 = .ok (.aload_n 0, 1) := by decide +kernel
theorem dX6_joins_139 : decode cX6_joins 139 = .ok (.aload_n 0, 1) := by decide +kernel
theorem dX6_joins_140 : decode cX6_joins 140 = .ok (.getfield 61, 3) := by decide +kernel
theorem dX6_joins_143 : decode cX6_joins 143 = .ok (.iload_n 3, 1) := by decide +kernel
theorem dX6_joins_144 : decode cX6_joins 144 = .ok (.laload, 1) := by decide +kernel
theorem dX6_joins_145 : decode cX6_joins 145 = .ok (.aload_n 0, 1) := by decide +kernel
theorem dX6_joins_146 : decode cX6_joins 146 = .ok (.getfield 57, 3) := by decide +kernel
theorem dX6_joins_149 : decode cX6_joins 149 = .ok (.iload 4, 2) := by decide +kernel
theorem dX6_joins_151 : decode cX6_joins 151 = .ok (.laload, 1) := by decide +kernel
theorem dX6_joins_152 : decode cX6_joins 152 = .ok (.invokevirtual 220, 3) := by decide +kernel
theorem dX6_joins_155 : decode cX6_joins 155 = .ok (.lastore, 1) := by decide +kernel
theorem dX6_joins_156 : decode cX6_joins 156 = .ok (.return_, 1) := by decide +kernel
theorem dX6_joins_157 : decode cX6_joins 157 = .ok (.aload_n 0, 1) := by decide +kernel
theorem dX6_joins_158 : decode cX6_joins 158 = .ok (.aload_n 0, 1) := by decide +kernel
theorem dX6_joins_159 : decode cX6_joins 159 = .ok (.getfield 57, 3) := by decide +kernel
theorem dX6_joins_162 : decode cX6_joins 162 = .ok (.iload_n 3, 1) := by decide +kernel
theorem dX6_joins_163 : decode cX6_joins 163 = .ok (.laload, 1) := by decide +kernel
theorem dX6_joins_164 : decode cX6_joins 164 = .ok (.aload_n 0, 1) := by decide +kernel
theorem dX6_joins_165 : decode cX6_joins 165 = .ok (.getfield 61, 3) := by decide +kernel
theorem dX6_joins_168 : decode cX6_joins 168 = .ok (.iload_n 3, 1) := by decide +kernel
theorem dX6_joins_169 : decode cX6_joins 169 = .ok (.laload, 1) := by decide +kernel
theorem dX6_joins_170 : decode cX6_joins 170 = .ok (.aload_n 0, 1) := by decide +kernel
theorem dX6_joins_171 : decode cX6_joins 171 = .ok (.getfield 57, 3) := by decide +kernel
theorem dX6_joins_174 : decode cX6_joins 174 = .ok (.iload 4, 2) := by decide +kernel
theorem dX6_joins_176 : decode cX6_joins 176 = .ok (.laload, 1) := by decide +kernel
theorem dX6_joins_177 : decode cX6_joins 177 = .ok (.aload_n 0, 1) := by decide +kernel
theorem dX6_joins_178 : decode cX6_joins 178 = .ok (.getfield 61, 3) := by decide +kernel
theorem dX6_joins_181 : decode cX6_joins 181 = .ok (.iload 4, 2) := by decide +kernel
theorem dX6_joins_183 : decode cX6_joins 183 = .ok (.laload, 1) := by decide +kernel
theorem dX6_joins_184 : decode cX6_joins 184 = .ok (.invokevirtual 226, 3) := by decide +kernel
theorem dX6_joins_187 : decode cX6_joins 187 = .ok (.aload_n 0, 1) := by decide +kernel
theorem dX6_joins_188 : decode cX6_joins 188 = .ok (.getfield 57, 3) := by decide +kernel
theorem dX6_joins_191 : decode cX6_joins 191 = .ok (.iload_n 2, 1) := by decide +kernel
theorem dX6_joins_192 : decode cX6_joins 192 = .ok (.aload_n 0, 1) := by decide +kernel
theorem dX6_joins_193 : decode cX6_joins 193 = .ok (.getfield 211, 3) := by decide +kernel
theorem dX6_joins_196 : decode cX6_joins 196 = .ok (.lastore, 1) := by decide +kernel
theorem dX6_joins_197 : decode cX6_joins 197 = .ok (.aload_n 0, 1) := by decide +kernel
theorem dX6_joins_198 : decode cX6_joins 198 = .ok (.getfield 61, 3) := by decide +kernel
theorem dX6_joins_201 : decode cX6_joins 201 = .ok (.iload_n 2, 1) := by decide +kernel
theorem dX6_joins_202 : decode cX6_joins 202 = .ok (.aload_n 0, 1) := by decide +kernel
theorem dX6_joins_203 : decode cX6_joins 203 = .ok (.getfield 217, 3) := by decide +kernel
theorem dX6_joins_206 : decode cX6_joins 206 = .ok (.lastore, 1) := by decide +kernel
theorem dX6_joins_207 : decode cX6_joins 207 = .ok (.return_, 1) := by decide +kernel
theorem dX6_spans_0 : decode cX6_spans 0 = .ok (.iconst 0, 1) := by decide +kernel
theorem dX6_spans_1 : decode cX6_spans 1 = .ok (.istore_n 2, 1) := by decide +kernel
theorem dX6_spans_2 : decode cX6_spans 2 = .ok (.iload_n 2, 1) := by decide +kernel
theorem dX6_spans_3 : decode cX6_spans 3 = .ok (.aload_n 0, 1) := by decide +kernel
theorem dX6_spans_4 : decode cX6_spans 4 = .ok (.getfield 30, 3) := by decide +kernel
theorem dX6_spans_7 : decode cX6_spans 7 = .ok (.iload_n 1, 1) := by decide +kernel
theorem dX6_spans_8 : decode cX6_spans 8 = .ok (.iaload, 1) := by decide +kernel
theorem dX6_spans_9 : decode cX6_spans 9 = .ok (.if_icmp .ge 192, 3) := by decide +kernel
theorem dX6_spans_12 : decode cX6_spans 12 = .ok (.iload_n 1, 1) := by decide +kernel
theorem dX6_spans_13 : decode cX6_spans 13 = .ok (.iload_n 2, 1) := by decide +kernel
theorem dX6_spans_14 : decode cX6_spans 14 = .ok (.invokestatic 134, 3) := by decide +kernel
theorem dX6_spans_17 : decode cX6_spans 17 = .ok (.istore_n 3, 1) := by decide +kernel
theorem dX6_spans_18 : decode cX6_spans 18 = .ok (.aload_n 0, 1) := by decide +kernel
theorem dX6_spans_19 : decode cX6_spans 19 = .ok (.iconst 0, 1) := by decide +kernel
theorem dX6_spans_20 : decode cX6_spans 20 = .ok (.putfield 193, 3) := by decide +kernel
theorem dX6_spans_23 : decode cX6_spans 23 = .ok (.aload_n 0, 1) := by decide +kernel
theorem dX6_spans_24 : decode cX6_spans 24 = .ok (.getfield 18, 3) := by decide +kernel
theorem dX6_spans_27 : decode cX6_spans 27 = .ok (.iload_n 3, 1) := by decide +kernel
theorem dX6_spans_28 : decode cX6_spans 28 = .ok (.iaload, 1) := by decide +kernel
theorem dX6_spans_29 : decode cX6_spans 29 = .ok (.ifCond .ne 42, 3) := by decide +kernel
theorem dX6_spans_32 : decode cX6_spans 32 = .ok (.aload_n 0, 1) := by decide +kernel
theorem dX6_spans_33 : decode cX6_spans 33 = .ok (.getfield 57, 3) := by decide +kernel
theorem dX6_spans_36 : decode cX6_spans 36 = .ok (.iload_n 2, 1) := by decide +kernel
theorem dX6_spans_37 : decode cX6_spans 37 = .ok (.aload_n 0, 1) := by decide +kernel
theorem dX6_spans_38 : decode cX6_spans 38 = .ok (.getfield 51, 3) := by decide +kernel
theorem dX6_spans_41 : decode cX6_spans 41 = .ok (.aload_n 0, 1) := by decide +kernel
theorem dX6_spans_42 : decode cX6_spans 42 = .ok (.getfield 21, 3) := by decide +kernel
theorem dX6_spans_45 : decode cX6_spans 45 = .ok (.iload_n 3, 1) := by decide +kernel
theorem dX6_spans_46 : decode cX6_spans 46 = .ok (.iaload, 1) := by decide +kernel
theorem dX6_spans_47 : decode cX6_spans 47 = .ok (.iaload, 1) := by decide +kernel
theorem dX6_spans_48 : decode cX6_spans 48 = .ok (.i2l, 1) := by decide +kernel
theorem dX6_spans_49 : decode cX6_spans 49 = .ok (.lastore, 1) := by decide +kernel
theorem dX6_spans_50 : decode cX6_spans 50 = .ok (.aload_n 0, 1) := by decide +kernel
theorem dX6_spans_51 : decode cX6_spans 51 = .ok (.getfield 61, 3) := by decide +kernel
theorem dX6_spans_54 : decode cX6_spans 54 = .ok (.iload_n 2, 1) := by decide +kernel
theorem dX6_spans_55 : decode cX6_spans 55 = .ok (.aload_n 0, 1) := by decide +kernel
theorem dX6_spans_56 : decode cX6_spans 56 = .ok (.getfield 54, 3) := by decide +kernel
theorem dX6_spans_59 : decode cX6_spans 59 = .ok (.aload_n 0, 1) := by decide +kernel
theorem dX6_spans_60 : decode cX6_spans 60 = .ok (.getfield 21, 3) := by decide +kernel
theorem dX6_spans_63 : decode cX6_spans 63 = .ok (.iload_n 3, 1) := by decide +kernel
theorem dX6_spans_64 : decode cX6_spans 64 = .ok (.iaload, 1) := by decide +kernel
theorem dX6_spans_65 : decode cX6_spans 65 = .ok (.iaload, 1) := by decide +kernel
theorem dX6_spans_66 : decode cX6_spans 66 = .ok (.i2l, 1) := by decide +kernel
theorem dX6_spans_67 : decode cX6_spans 67 = .ok (.lastore, 1) := by decide +kernel
theorem dX6_spans_68 : decode cX6_spans 68 = .ok (.goto 117, 3) := by decide +kernel
theorem dX6_spans_71 : decode cX6_spans 71 = .ok (.aload_n 0, 1) := by decide +kernel
theorem dX6_spans_72 : decode cX6_spans 72 = .ok (.getfield 18, 3) := by decide +kernel
theorem dX6_spans_75 : decode cX6_spans 75 = .ok (.iload_n 3, 1) := by decide +kernel
theorem dX6_spans_76 : decode cX6_spans 76 = .ok (.iaload, 1) := by decide +kernel
theorem dX6_spans_77 : decode cX6_spans 77 = .ok (.iconst 1, 1) := by decide +kernel
theorem dX6_spans_78 : decode cX6_spans 78 = .ok (.if_icmp .ne 32, 3) := by decide +kernel
theorem dX6_spans_81 : decode cX6_spans 81 = .ok (.aload_n 0, 1) := by decide +kernel
theorem dX6_spans_82 : decode cX6_spans 82 = .ok (.getfield 57, 3) := by decide +kernel
theorem dX6_spans_85 : decode cX6_spans 85 = .ok (.iload_n 2, 1) := by decide +kernel
theorem dX6_spans_86 : decode cX6_spans 86 = .ok (.aload_n 0, 1) := by decide +kernel
theorem dX6_spans_87 : decode cX6_spans 87 = .ok (.getfield 21, 3) := by decide +kernel
theorem dX6_spans_90 : decode cX6_spans 90 = .ok (.iload_n 3, 1) := by decide +kernel
theorem dX6_spans_91 : decode cX6_spans 91 = .ok (.iaload, 1) := by decide +kernel
theorem dX6_spans_92 : decode cX6_spans 92 = .ok (.i2l, 1) := by decide +kernel
theorem dX6_spans_93 : decode cX6_spans 93 = .ok (.lastore, 1) := by decide +kernel
theorem dX6_spans_94 : decode cX6_spans 94 = .ok (.aload_n 0, 1) := by decide +kernel
theorem dX6_spans_95 : decode cX6_spans 95 = .ok (.getfield 61, 3) := by decide +kernel
theorem dX6_spans_98 : decode cX6_spans 98 = .ok (.iload_n 2, 1) := by decide +kernel
theorem dX6_spans_99 : decode cX6_spans 99 = .ok (.aload_n 0, 1) := by decide +kernel
theorem dX6_spans_100 : decode cX6_spans 100 = .ok (.getfield 21, 3) := by decide +kernel
theorem dX6_spans_103 : decode cX6_spans 103 = .ok (.iload_n 3, 1) := by decide +kernel
theorem dX6_spans_104 : decode cX6_spans 104 = .ok (.iaload, 1) := by decide +kernel
theorem dX6_spans_105 : decode cX6_spans 105 = .ok (.i2l, 1) := by decide +kernel
theorem dX6_spans_106 : decode cX6_spans 106 = .ok (.lastore, 1) := by decide +kernel
theorem dX6_spans_107 : decode cX6_spans 107 = .ok (.goto 78, 3) := by decide +kernel
theorem dX6_spans_110 : decode cX6_spans 110 = .ok (.aload_n 0, 1) := by decide +kernel
theorem dX6_spans_111 : decode cX6_spans 111 = .ok (.aload_n 0, 1) := by decide +kernel
theorem dX6_spans_112 : decode cX6_spans 112 = .ok (.getfield 18, 3) := by decide +kernel
theorem dX6_spans_115 : decode cX6_spans 115 = .ok (.iload_n 3, 1) := by decide +kernel
theorem dX6_spans_116 : decode cX6_spans 116 = .ok (.iaload, 1) := by decide +kernel
theorem dX6_spans_117 : decode cX6_spans 117 = .ok (.iload_n 2, 1) := by decide +kernel
theorem dX6_spans_118 : decode cX6_spans 118 = .ok (.aload_n 0, 1) := by decide +kernel
theorem dX6_spans_119 : decode cX6_spans 119 = .ok (.getfield 21, 3) := by decide +kernel
theorem dX6_spans_122 : decode cX6_spans 122 = .ok (.iload_n 3, 1) := by decide +kernel
theorem dX6_spans_123 : decode cX6_spans 123 = .ok (.iaload, 1) := by decide +kernel
theorem dX6_spans_124 : decode cX6_spans 124 = .ok (.aload_n 0, 1) := by decide +kernel
theorem dX6_spans_125 : decode cX6_spans 125 = .ok (.getfield 24, 3) := by decide +kernel
theorem dX6_spans_128 : decode cX6_spans 128 = .ok (.iload_n 3, 1) := by decide +kernel
theorem dX6_spans_129 : decode cX6_spans 129 = .ok (.iaload, 1) := by decide +kernel
theorem dX6_spans_130 : decode cX6_spans 130 = .ok (.invokevirtual 229, 3) := by decide +kernel
theorem dX6_spans_133 : decode cX6_spans 133 = .ok (.aload_n 0, 1) := by decide +kernel
theorem dX6_spans_134 : decode cX6_spans 134 = .ok (.dup, 1) := by decide +kernel
theorem dX6_spans_135 : decode cX6_spans 135 = .ok (.getfield 193, 3) := by decide +kernel
theorem dX6_spans_138 : decode cX6_spans 138 = .ok (.aload_n 0, 1) := by decide +kernel
theorem dX6_spans_139 : decode cX6_spans 139 = .ok (.getfield 64, 3) := by decide +kernel
theorem dX6_spans_142 : decode cX6_spans 142 = .ok (.aload_n 0, 1) := by decide +kernel
theorem dX6_spans_143 : decode cX6_spans 143 = .ok (.getfield 21, 3) := by decide +kernel
theorem dX6_spans_146 : decode cX6_spans 146 = .ok (.iload_n 3, 1) := by decide +kernel
theorem dX6_spans_147 : decode cX6_spans 147 = .ok (.iaload, 1) := by decide +kernel
theorem dX6_spans_148 : decode cX6_spans 148 = .ok (.baload, 1) := by decide +kernel
theorem dX6_spans_149 : decode cX6_spans 149 = .ok (.ifCond .ne 27, 3) := by decide +kernel
theorem dX6_spans_152 : decode cX6_spans 152 = .ok (.aload_n 0, 1) := by decide +kernel
theorem dX6_spans_153 : decode cX6_spans 153 = .ok (.getfield 18, 3) := by decide +kernel
theorem dX6_spans_156 : decode cX6_spans 156 = .ok (.iload_n 3, 1) := by decide +kernel
theorem dX6_spans_157 : decode cX6_spans 157 = .ok (.iaload, 1) := by decide +kernel
theorem dX6_spans_158 : decode cX6_spans 158 = .ok (.iconst 2, 1) := by decide +kernel
theorem dX6_spans_159 : decode cX6_spans 159 = .ok (.if_icmp .eq 21, 3) := by decide +kernel
theorem dX6_spans_162 : decode cX6_spans 162 = .ok (.aload_n 0, 1) := by decide +kernel
theorem dX6_spans_163 : decode cX6_spans 163 = .ok (.getfield 64, 3) := by decide +kernel
theorem dX6_spans_166 : decode cX6_spans 166 = .ok (.aload_n 0, 1) := by decide +kernel
theorem dX6_spans_167 : decode cX6_spans 167 = .ok (.getfield 24, 3) := by decide +kernel
theorem dX6_spans_170 : decode cX6_spans 170 = .ok (.iload_n 3, 1) := by decide +kernel
theorem dX6_spans_171 : decode cX6_spans 171 = .ok (.iaload, 1) := by decide +kernel
theorem dX6_spans_172 : decode cX6_spans 172 = .ok (.baload, 1) := by decide +kernel
theorem dX6_spans_173 : decode cX6_spans 173 = .ok (.ifCond .eq 7, 3) := by decide +kernel
theorem dX6_spans_176 : decode cX6_spans 176 = .ok (.iconst 1, 1) := by decide +kernel
theorem dX6_spans_177 : decode cX6_spans 177 = .ok (.goto 4, 3) := by decide +kernel
theorem dX6_spans_180 : decode cX6_spans 180 = .ok (.iconst 0, 1) := by decide +kernel
theorem dX6_spans_181 : decode cX6_spans 181 = .ok (.ior, 1) := by decide +kernel
theorem dX6_spans_182 : decode cX6_spans 182 = .ok (.putfield 193, 3) := by decide +kernel
theorem dX6_spans_185 : decode cX6_spans 185 = .ok (.aload_n 0, 1) := by decide +kernel
theorem dX6_spans_186 : decode cX6_spans 186 = .ok (.getfield 64, 3) := by decide +kernel
theorem dX6_spans_189 : decode cX6_spans 189 = .ok (.iload_n 2, 1) := by decide +kernel
theorem dX6_spans_190 : decode cX6_spans 190 = .ok (.aload_n 0, 1) := by decide +kernel
theorem dX6_spans_191 : decode cX6_spans 191 = .ok (.getfield 193, 3) := by decide +kernel
theorem dX6_spans_194 : decode cX6_spans 194 = .ok (.bastore, 1) := by decide +kernel
theorem dX6_spans_195 : decode cX6_spans 195 = .ok (.iinc 2 1, 3) := by decide +kernel
theorem dX6_spans_198 : decode cX6_spans 198 = .ok (.goto (-196), 3) := by decide +kernel
theorem dX6_spans_201 : decode cX6_spans 201 = .ok (.aload_n 0, 1) := by decide +kernel
theorem dX6_spans_202 : decode cX6_spans 202 = .ok (.getfield 64, 3) := by decide +kernel
theorem dX6_spans_205 : decode cX6_spans 205 = .ok (.aload_n 0, 1) := by decide +kernel
theorem dX6_spans_206 : decode cX6_spans 206 = .ok (.iload_n 1, 1) := by decide +kernel
theorem dX6_spans_207 : decode cX6_spans 207 = .ok (.invokevirtual 190, 3) := by decide +kernel
theorem dX6_spans_210 : decode cX6_spans 210 = .ok (.baload, 1) := by decide +kernel
theorem dX6_spans_211 : decode cX6_spans 211 = .ok (.ifCond .ne 7, 3) := by decide +kernel
theorem dX6_spans_214 : decode cX6_spans 214 = .ok (.iconst 1, 1) := by decide +kernel
theorem dX6_spans_215 : decode cX6_spans 215 = .ok (.goto 4, 3) := by decide +kernel
theorem dX6_spans_218 : decode cX6_spans 218 = .ok (.iconst 0, 1) := by decide +kernel
theorem dX6_spans_219 : decode cX6_spans 219 = .ok (.ireturn, 1) := by decide +kernel
theorem dX6_spansNow_0 : decode cX6_spansNow 0 = .ok (.aload_n 0, 1) := by decide +kernel
theorem dX6_spansNow_1 : decode cX6_spansNow 1 = .ok (.invokevirtual 233, 3) := by decide +kernel
theorem dX6_spansNow_4 : decode cX6_spansNow 4 = .ok (.aload_n 0, 1) := by decide +kernel
theorem dX6_spansNow_5 : decode cX6_spansNow 5 = .ok (.iload_n 1, 1) := by decide +kernel
theorem dX6_spansNow_6 : decode cX6_spansNow 6 = .ok (.invokevirtual 236, 3) := by decide +kernel
theorem dX6_spansNow_9 : decode cX6_spansNow 9 = .ok (.ireturn, 1) := by decide +kernel
theorem dX6_lowOf_0 : decode cX6_lowOf 0 = .ok (.aload_n 0, 1) := by decide +kernel
theorem dX6_lowOf_1 : decode cX6_lowOf 1 = .ok (.getfield 57, 3) := by decide +kernel
theorem dX6_lowOf_4 : decode cX6_lowOf 4 = .ok (.aload_n 0, 1) := by decide +kernel
theorem dX6_lowOf_5 : decode cX6_lowOf 5 = .ok (.iload_n 1, 1) := by decide +kernel
theorem dX6_lowOf_6 : decode cX6_lowOf 6 = .ok (.invokevirtual 190, 3) := by decide +kernel
theorem dX6_lowOf_9 : decode cX6_lowOf 9 = .ok (.laload, 1) := by decide +kernel
theorem dX6_lowOf_10 : decode cX6_lowOf 10 = .ok (.lreturn, 1) := by decide +kernel
theorem dX6_highOf_0 : decode cX6_highOf 0 = .ok (.aload_n 0, 1) := by decide +kernel
theorem dX6_highOf_1 : decode cX6_highOf 1 = .ok (.getfield 61, 3) := by decide +kernel
theorem dX6_highOf_4 : decode cX6_highOf 4 = .ok (.aload_n 0, 1) := by decide +kernel
theorem dX6_highOf_5 : decode cX6_highOf 5 = .ok (.iload_n 1, 1) := by decide +kernel
theorem dX6_highOf_6 : decode cX6_highOf 6 = .ok (.invokevirtual 190, 3) := by decide +kernel
theorem dX6_highOf_9 : decode cX6_highOf 9 = .ok (.laload, 1) := by decide +kernel
theorem dX6_highOf_10 : decode cX6_highOf 10 = .ok (.lreturn, 1) := by decide +kernel
theorem dX6_widthBy_0 : decode cX6_widthBy 0 = .ok (.aload_n 0, 1) := by decide +kernel
theorem dX6_widthBy_1 : decode cX6_widthBy 1 = .ok (.iload_n 1, 1) := by decide +kernel
theorem dX6_widthBy_2 : decode cX6_widthBy 2 = .ok (.invokevirtual 236, 3) := by decide +kernel
theorem dX6_widthBy_5 : decode cX6_widthBy 5 = .ok (.ifCond .ne 7, 3) := by decide +kernel
theorem dX6_widthBy_8 : decode cX6_widthBy 8 = .ok (.ldc2_w 239, 3) := by decide +kernel
theorem dX6_widthBy_11 : decode cX6_widthBy 11 = .ok (.lreturn, 1) := by decide +kernel
theorem dX6_widthBy_12 : decode cX6_widthBy 12 = .ok (.aload_n 0, 1) := by decide +kernel
theorem dX6_widthBy_13 : decode cX6_widthBy 13 = .ok (.iconst 0, 1) := by decide +kernel
theorem dX6_widthBy_14 : decode cX6_widthBy 14 = .ok (.putfield 193, 3) := by decide +kernel
theorem dX6_widthBy_17 : decode cX6_widthBy 17 = .ok (.aload_n 0, 1) := by decide +kernel
theorem dX6_widthBy_18 : decode cX6_widthBy 18 = .ok (.aload_n 0, 1) := by decide +kernel
theorem dX6_widthBy_19 : decode cX6_widthBy 19 = .ok (.iload_n 1, 1) := by decide +kernel
theorem dX6_widthBy_20 : decode cX6_widthBy 20 = .ok (.invokevirtual 241, 3) := by decide +kernel
theorem dX6_widthBy_23 : decode cX6_widthBy 23 = .ok (.aload_n 0, 1) := by decide +kernel
theorem dX6_widthBy_24 : decode cX6_widthBy 24 = .ok (.iload_n 1, 1) := by decide +kernel
theorem dX6_widthBy_25 : decode cX6_widthBy 25 = .ok (.invokevirtual 245, 3) := by decide +kernel
theorem dX6_widthBy_28 : decode cX6_widthBy 28 = .ok (.invokevirtual 220, 3) := by decide +kernel
theorem dX6_widthBy_31 : decode cX6_widthBy 31 = .ok (.lstore_n 2, 1) := by decide +kernel
theorem dX6_widthBy_32 : decode cX6_widthBy 32 = .ok (.aload_n 0, 1) := by decide +kernel
theorem dX6_widthBy_33 : decode cX6_widthBy 33 = .ok (.getfield 193, 3) := by decide +kernel
theorem dX6_widthBy_36 : decode cX6_widthBy 36 = .ok (.ifCond .eq 9, 3) := by decide +kernel
theorem dX6_widthBy_39 : decode cX6_widthBy 39 = .ok (.ldc2_w 239, 3) := by decide +kernel
theorem dX6_widthBy_42 : decode cX6_widthBy 42 = .ok (.goto 4, 3) := by decide +kernel
theorem dX6_widthBy_45 : decode cX6_widthBy 45 = .ok (.lload_n 2, 1) := by decide +kernel
theorem dX6_widthBy_46 : decode cX6_widthBy 46 = .ok (.lreturn, 1) := by decide +kernel
theorem dX6_widthNow_0 : decode cX6_widthNow 0 = .ok (.aload_n 0, 1) := by decide +kernel
theorem dX6_widthNow_1 : decode cX6_widthNow 1 = .ok (.invokevirtual 233, 3) := by decide +kernel
theorem dX6_widthNow_4 : decode cX6_widthNow 4 = .ok (.aload_n 0, 1) := by decide +kernel
theorem dX6_widthNow_5 : decode cX6_widthNow 5 = .ok (.iload_n 1, 1) := by decide +kernel
theorem dX6_widthNow_6 : decode cX6_widthNow 6 = .ok (.invokevirtual 248, 3) := by decide +kernel
theorem dX6_widthNow_9 : decode cX6_widthNow 9 = .ok (.lreturn, 1) := by decide +kernel
theorem dX6_goesWay_0 : decode cX6_goesWay 0 = .ok (.iconst 0, 1) := by decide +kernel
theorem dX6_goesWay_1 : decode cX6_goesWay 1 = .ok (.istore_n 2, 1) := by decide +kernel
theorem dX6_goesWay_2 : decode cX6_goesWay 2 = .ok (.aload_n 0, 1) := by decide +kernel
theorem dX6_goesWay_3 : decode cX6_goesWay 3 = .ok (.iload_n 1, 1) := by decide +kernel
theorem dX6_goesWay_4 : decode cX6_goesWay 4 = .ok (.invokevirtual 190, 3) := by decide +kernel
theorem dX6_goesWay_7 : decode cX6_goesWay 7 = .ok (.istore_n 3, 1) := by decide +kernel
theorem dX6_goesWay_8 : decode cX6_goesWay 8 = .ok (.iload_n 3, 1) := by decide +kernel
theorem dX6_goesWay_9 : decode cX6_goesWay 9 = .ok (.iconst (-1), 1) := by decide +kernel
theorem dX6_goesWay_10 : decode cX6_goesWay 10 = .ok (.if_icmp .eq 133, 3) := by decide +kernel
theorem dX6_goesWay_13 : decode cX6_goesWay 13 = .ok (.iload_n 1, 1) := by decide +kernel
theorem dX6_goesWay_14 : decode cX6_goesWay 14 = .ok (.iload_n 3, 1) := by decide +kernel
theorem dX6_goesWay_15 : decode cX6_goesWay 15 = .ok (.invokestatic 134, 3) := by decide +kernel
theorem dX6_goesWay_18 : decode cX6_goesWay 18 = .ok (.istore 4, 2) := by decide +kernel
theorem dX6_goesWay_20 : decode cX6_goesWay 20 = .ok (.iload_n 2, 1) := by decide +kernel
theorem dX6_goesWay_21 : decode cX6_goesWay 21 = .ok (.istore 5, 2) := by decide +kernel
theorem dX6_goesWay_23 : decode cX6_goesWay 23 = .ok (.iload 5, 2) := by decide +kernel
theorem dX6_goesWay_25 : decode cX6_goesWay 25 = .ok (.ifCond .le 25, 3) := by decide +kernel
theorem dX6_goesWay_28 : decode cX6_goesWay 28 = .ok (.aload_n 0, 1) := by decide +kernel
theorem dX6_goesWay_29 : decode cX6_goesWay 29 = .ok (.getfield 68, 3) := by decide +kernel
theorem dX6_goesWay_32 : decode cX6_goesWay 32 = .ok (.iload 5, 2) := by decide +kernel
theorem dX6_goesWay_34 : decode cX6_goesWay 34 = .ok (.aload_n 0, 1) := by decide +kernel
theorem dX6_goesWay_35 : decode cX6_goesWay 35 = .ok (.getfield 68, 3) := by decide +kernel
theorem dX6_goesWay_38 : decode cX6_goesWay 38 = .ok (.iload 5, 2) := by decide +kernel
theorem dX6_goesWay_40 : decode cX6_goesWay 40 = .ok (.iconst 1, 1) := by decide +kernel
theorem dX6_goesWay_41 : decode cX6_goesWay 41 = .ok (.isub, 1) := by decide +kernel
theorem dX6_goesWay_42 : decode cX6_goesWay 42 = .ok (.iaload, 1) := by decide +kernel
theorem dX6_goesWay_43 : decode cX6_goesWay 43 = .ok (.iastore, 1) := by decide +kernel
theorem dX6_goesWay_44 : decode cX6_goesWay 44 = .ok (.iinc 5 (-1), 3) := by decide +kernel
theorem dX6_goesWay_47 : decode cX6_goesWay 47 = .ok (.goto (-24), 3) := by decide +kernel
theorem dX6_goesWay_50 : decode cX6_goesWay 50 = .ok (.aload_n 0, 1) := by decide +kernel
theorem dX6_goesWay_51 : decode cX6_goesWay 51 = .ok (.getfield 68, 3) := by decide +kernel
theorem dX6_goesWay_54 : decode cX6_goesWay 54 = .ok (.iconst 0, 1) := by decide +kernel
theorem dX6_goesWay_55 : decode cX6_goesWay 55 = .ok (.aload_n 0, 1) := by decide +kernel
theorem dX6_goesWay_56 : decode cX6_goesWay 56 = .ok (.getfield 27, 3) := by decide +kernel
theorem dX6_goesWay_59 : decode cX6_goesWay 59 = .ok (.iload 4, 2) := by decide +kernel
theorem dX6_goesWay_61 : decode cX6_goesWay 61 = .ok (.iaload, 1) := by decide +kernel
theorem dX6_goesWay_62 : decode cX6_goesWay 62 = .ok (.iastore, 1) := by decide +kernel
theorem dX6_goesWay_63 : decode cX6_goesWay 63 = .ok (.iinc 2 1, 3) := by decide +kernel
theorem dX6_goesWay_66 : decode cX6_goesWay 66 = .ok (.aload_n 0, 1) := by decide +kernel
theorem dX6_goesWay_67 : decode cX6_goesWay 67 = .ok (.getfield 64, 3) := by decide +kernel
theorem dX6_goesWay_70 : decode cX6_goesWay 70 = .ok (.aload_n 0, 1) := by decide +kernel
theorem dX6_goesWay_71 : decode cX6_goesWay 71 = .ok (.getfield 21, 3) := by decide +kernel
theorem dX6_goesWay_74 : decode cX6_goesWay 74 = .ok (.iload 4, 2) := by decide +kernel
theorem dX6_goesWay_76 : decode cX6_goesWay 76 = .ok (.iaload, 1) := by decide +kernel
theorem dX6_goesWay_77 : decode cX6_goesWay 77 = .ok (.baload, 1) := by decide +kernel
theorem dX6_goesWay_78 : decode cX6_goesWay 78 = .ok (.ifCond .eq 24, 3) := by decide +kernel
theorem dX6_goesWay_81 : decode cX6_goesWay 81 = .ok (.aload_n 0, 1) := by decide +kernel
theorem dX6_goesWay_82 : decode cX6_goesWay 82 = .ok (.getfield 18, 3) := by decide +kernel
theorem dX6_goesWay_85 : decode cX6_goesWay 85 = .ok (.iload 4, 2) := by decide +kernel
theorem dX6_goesWay_87 : decode cX6_goesWay 87 = .ok (.iaload, 1) := by decide +kernel
theorem dX6_goesWay_88 : decode cX6_goesWay 88 = .ok (.iconst 1, 1) := by decide +kernel
theorem dX6_goesWay_89 : decode cX6_goesWay 89 = .ok (.if_icmp .le 13, 3) := by decide +kernel
theorem dX6_goesWay_92 : decode cX6_goesWay 92 = .ok (.aload_n 0, 1) := by decide +kernel
theorem dX6_goesWay_93 : decode cX6_goesWay 93 = .ok (.getfield 21, 3) := by decide +kernel
theorem dX6_goesWay_96 : decode cX6_goesWay 96 = .ok (.iload 4, 2) := by decide +kernel
theorem dX6_goesWay_98 : decode cX6_goesWay 98 = .ok (.iaload, 1) := by decide +kernel
theorem dX6_goesWay_99 : decode cX6_goesWay 99 = .ok (.goto 40, 3) := by decide +kernel
theorem dX6_goesWay_102 : decode cX6_goesWay 102 = .ok (.aload_n 0, 1) := by decide +kernel
theorem dX6_goesWay_103 : decode cX6_goesWay 103 = .ok (.getfield 18, 3) := by decide +kernel
theorem dX6_goesWay_106 : decode cX6_goesWay 106 = .ok (.iload 4, 2) := by decide +kernel
theorem dX6_goesWay_108 : decode cX6_goesWay 108 = .ok (.iaload, 1) := by decide +kernel
theorem dX6_goesWay_109 : decode cX6_goesWay 109 = .ok (.iconst 2, 1) := by decide +kernel
theorem dX6_goesWay_110 : decode cX6_goesWay 110 = .ok (.if_icmp .le 28, 3) := by decide +kernel
theorem dX6_goesWay_113 : decode cX6_goesWay 113 = .ok (.aload_n 0, 1) := by decide +kernel
theorem dX6_goesWay_114 : decode cX6_goesWay 114 = .ok (.getfield 64, 3) := by decide +kernel
theorem dX6_goesWay_117 : decode cX6_goesWay 117 = .ok (.aload_n 0, 1) := by decide +kernel
theorem dX6_goesWay_118 : decode cX6_goesWay 118 = .ok (.getfield 24, 3) := by decide +kernel
theorem dX6_goesWay_121 : decode cX6_goesWay 121 = .ok (.iload 4, 2) := by decide +kernel
theorem dX6_goesWay_123 : decode cX6_goesWay 123 = .ok (.iaload, 1) := by decide +kernel
theorem dX6_goesWay_124 : decode cX6_goesWay 124 = .ok (.baload, 1) := by decide +kernel
theorem dX6_goesWay_125 : decode cX6_goesWay 125 = .ok (.ifCond .eq 13, 3) := by decide +kernel
theorem dX6_goesWay_128 : decode cX6_goesWay 128 = .ok (.aload_n 0, 1) := by decide +kernel
theorem dX6_goesWay_129 : decode cX6_goesWay 129 = .ok (.getfield 24, 3) := by decide +kernel
theorem dX6_goesWay_132 : decode cX6_goesWay 132 = .ok (.iload 4, 2) := by decide +kernel
theorem dX6_goesWay_134 : decode cX6_goesWay 134 = .ok (.iaload, 1) := by decide +kernel
theorem dX6_goesWay_135 : decode cX6_goesWay 135 = .ok (.goto 4, 3) := by decide +kernel
theorem dX6_goesWay_138 : decode cX6_goesWay 138 = .ok (.iconst (-1), 1) := by decide +kernel
theorem dX6_goesWay_139 : decode cX6_goesWay 139 = .ok (.istore_n 3, 1) := by decide +kernel
theorem dX6_goesWay_140 : decode cX6_goesWay 140 = .ok (.goto (-132), 3) := by decide +kernel
theorem dX6_goesWay_143 : decode cX6_goesWay 143 = .ok (.aload_n 0, 1) := by decide +kernel
theorem dX6_goesWay_144 : decode cX6_goesWay 144 = .ok (.iload_n 2, 1) := by decide +kernel
theorem dX6_goesWay_145 : decode cX6_goesWay 145 = .ok (.putfield 251, 3) := by decide +kernel
theorem dX6_goesWay_148 : decode cX6_goesWay 148 = .ok (.return_, 1) := by decide +kernel
theorem dX6_span_0 : decode cX6_span 0 = .ok (.aload_n 0, 1) := by decide +kernel
theorem dX6_span_1 : decode cX6_span 1 = .ok (.iload_n 1, 1) := by decide +kernel
theorem dX6_span_2 : decode cX6_span 2 = .ok (.invokevirtual 180, 3) := by decide +kernel
theorem dX6_span_5 : decode cX6_span 5 = .ok (.ifCond .eq 15, 3) := by decide +kernel
theorem dX6_span_8 : decode cX6_span 8 = .ok (.iload_n 2, 1) := by decide +kernel
theorem dX6_span_9 : decode cX6_span 9 = .ok (.i2l, 1) := by decide +kernel
theorem dX6_span_10 : decode cX6_span 10 = .ok (.lconst 0, 1) := by decide +kernel
theorem dX6_span_11 : decode cX6_span 11 = .ok (.ldc2_w 105, 3) := by decide +kernel
theorem dX6_span_14 : decode cX6_span 14 = .ok (.invokestatic 97, 3) := by decide +kernel
theorem dX6_span_17 : decode cX6_span 17 = .ok (.ifCond .ne 7, 3) := by decide +kernel
theorem dX6_span_20 : decode cX6_span 20 = .ok (.ldc2_w 198, 3) := by decide +kernel
theorem dX6_span_23 : decode cX6_span 23 = .ok (.lreturn, 1) := by decide +kernel
theorem dX6_span_24 : decode cX6_span 24 = .ok (.aload_n 0, 1) := by decide +kernel
theorem dX6_span_25 : decode cX6_span 25 = .ok (.iload_n 1, 1) := by decide +kernel
theorem dX6_span_26 : decode cX6_span 26 = .ok (.invokevirtual 254, 3) := by decide +kernel
theorem dX6_span_29 : decode cX6_span 29 = .ok (.ifCond .ne 12, 3) := by decide +kernel
theorem dX6_span_32 : decode cX6_span 32 = .ok (.aload_n 0, 1) := by decide +kernel
theorem dX6_span_33 : decode cX6_span 33 = .ok (.iload_n 1, 1) := by decide +kernel
theorem dX6_span_34 : decode cX6_span 34 = .ok (.invokevirtual 257, 3) := by decide +kernel
theorem dX6_span_37 : decode cX6_span 37 = .ok (.ldc2_w 239, 3) := by decide +kernel
theorem dX6_span_40 : decode cX6_span 40 = .ok (.lreturn, 1) := by decide +kernel
theorem dX6_span_41 : decode cX6_span 41 = .ok (.iload_n 2, 1) := by decide +kernel
theorem dX6_span_42 : decode cX6_span 42 = .ok (.ifCond .ne 11, 3) := by decide +kernel
theorem dX6_span_45 : decode cX6_span 45 = .ok (.aload_n 0, 1) := by decide +kernel
theorem dX6_span_46 : decode cX6_span 46 = .ok (.iload_n 1, 1) := by decide +kernel
theorem dX6_span_47 : decode cX6_span 47 = .ok (.invokevirtual 245, 3) := by decide +kernel
theorem dX6_span_50 : decode cX6_span 50 = .ok (.goto 21, 3) := by decide +kernel
theorem dX6_span_53 : decode cX6_span 53 = .ok (.iload_n 2, 1) := by decide +kernel
theorem dX6_span_54 : decode cX6_span 54 = .ok (.iconst 1, 1) := by decide +kernel
theorem dX6_span_55 : decode cX6_span 55 = .ok (.if_icmp .ne 11, 3) := by decide +kernel
theorem dX6_span_58 : decode cX6_span 58 = .ok (.aload_n 0, 1) := by decide +kernel
theorem dX6_span_59 : decode cX6_span 59 = .ok (.iload_n 1, 1) := by decide +kernel
theorem dX6_span_60 : decode cX6_span 60 = .ok (.invokevirtual 241, 3) := by decide +kernel
theorem dX6_span_63 : decode cX6_span 63 = .ok (.goto 8, 3) := by decide +kernel
theorem dX6_span_66 : decode cX6_span 66 = .ok (.aload_n 0, 1) := by decide +kernel
theorem dX6_span_67 : decode cX6_span 67 = .ok (.iload_n 1, 1) := by decide +kernel
theorem dX6_span_68 : decode cX6_span 68 = .ok (.invokevirtual 261, 3) := by decide +kernel
theorem dX6_span_71 : decode cX6_span 71 = .ok (.lreturn, 1) := by decide +kernel
theorem dX6_way_0 : decode cX6_way 0 = .ok (.iload_n 1, 1) := by decide +kernel
theorem dX6_way_1 : decode cX6_way 1 = .ok (.iconst (-1), 1) := by decide +kernel
theorem dX6_way_2 : decode cX6_way 2 = .ok (.if_icmp .ne 10, 3) := by decide +kernel
theorem dX6_way_5 : decode cX6_way 5 = .ok (.aload_n 0, 1) := by decide +kernel
theorem dX6_way_6 : decode cX6_way 6 = .ok (.getfield 251, 3) := by decide +kernel
theorem dX6_way_9 : decode cX6_way 9 = .ok (.goto 29, 3) := by decide +kernel
theorem dX6_way_12 : decode cX6_way 12 = .ok (.iload_n 1, 1) := by decide +kernel
theorem dX6_way_13 : decode cX6_way 13 = .ok (.i2l, 1) := by decide +kernel
theorem dX6_way_14 : decode cX6_way 14 = .ok (.lconst 0, 1) := by decide +kernel
theorem dX6_way_15 : decode cX6_way 15 = .ok (.aload_n 0, 1) := by decide +kernel
theorem dX6_way_16 : decode cX6_way 16 = .ok (.getfield 251, 3) := by decide +kernel
theorem dX6_way_19 : decode cX6_way 19 = .ok (.iconst 1, 1) := by decide +kernel
theorem dX6_way_20 : decode cX6_way 20 = .ok (.isub, 1) := by decide +kernel
theorem dX6_way_21 : decode cX6_way 21 = .ok (.i2l, 1) := by decide +kernel
theorem dX6_way_22 : decode cX6_way 22 = .ok (.invokestatic 97, 3) := by decide +kernel
theorem dX6_way_25 : decode cX6_way 25 = .ok (.ifCond .eq 12, 3) := by decide +kernel
theorem dX6_way_28 : decode cX6_way 28 = .ok (.aload_n 0, 1) := by decide +kernel
theorem dX6_way_29 : decode cX6_way 29 = .ok (.getfield 68, 3) := by decide +kernel
theorem dX6_way_32 : decode cX6_way 32 = .ok (.iload_n 1, 1) := by decide +kernel
theorem dX6_way_33 : decode cX6_way 33 = .ok (.iaload, 1) := by decide +kernel
theorem dX6_way_34 : decode cX6_way 34 = .ok (.goto 4, 3) := by decide +kernel
theorem dX6_way_37 : decode cX6_way 37 = .ok (.iconst (-1), 1) := by decide +kernel
theorem dX6_way_38 : decode cX6_way 38 = .ok (.ireturn, 1) := by decide +kernel
theorem dX6_laysPoint_0 : decode cX6_laysPoint 0 = .ok (.aload_n 0, 1) := by decide +kernel
theorem dX6_laysPoint_1 : decode cX6_laysPoint 1 = .ok (.iload_n 1, 1) := by decide +kernel
theorem dX6_laysPoint_2 : decode cX6_laysPoint 2 = .ok (.iload_n 2, 1) := by decide +kernel
theorem dX6_laysPoint_3 : decode cX6_laysPoint 3 = .ok (.iload_n 2, 1) := by decide +kernel
theorem dX6_laysPoint_4 : decode cX6_laysPoint 4 = .ok (.invokevirtual 200, 3) := by decide +kernel
theorem dX6_laysPoint_7 : decode cX6_laysPoint 7 = .ok (.return_, 1) := by decide +kernel
theorem dX6_exact_0 : decode cX6_exact 0 = .ok (.aload_n 0, 1) := by decide +kernel
theorem dX6_exact_1 : decode cX6_exact 1 = .ok (.iload_n 1, 1) := by decide +kernel
theorem dX6_exact_2 : decode cX6_exact 2 = .ok (.invokevirtual 180, 3) := by decide +kernel
theorem dX6_exact_5 : decode cX6_exact 5 = .ok (.ifCond .ne 7, 3) := by decide +kernel
theorem dX6_exact_8 : decode cX6_exact 8 = .ok (.ldc2_w 198, 3) := by decide +kernel
theorem dX6_exact_11 : decode cX6_exact 11 = .ok (.lreturn, 1) := by decide +kernel
theorem dX6_exact_12 : decode cX6_exact 12 = .ok (.aload_n 0, 1) := by decide +kernel
theorem dX6_exact_13 : decode cX6_exact 13 = .ok (.iload_n 1, 1) := by decide +kernel
theorem dX6_exact_14 : decode cX6_exact 14 = .ok (.invokevirtual 254, 3) := by decide +kernel
theorem dX6_exact_17 : decode cX6_exact 17 = .ok (.ifCond .ne 7, 3) := by decide +kernel
theorem dX6_exact_20 : decode cX6_exact 20 = .ok (.ldc2_w 239, 3) := by decide +kernel
theorem dX6_exact_23 : decode cX6_exact 23 = .ok (.lreturn, 1) := by decide +kernel
theorem dX6_exact_24 : decode cX6_exact 24 = .ok (.iconst 0, 1) := by decide +kernel
theorem dX6_exact_25 : decode cX6_exact 25 = .ok (.istore_n 2, 1) := by decide +kernel
theorem dX6_exact_26 : decode cX6_exact 26 = .ok (.iload_n 2, 1) := by decide +kernel
theorem dX6_exact_27 : decode cX6_exact 27 = .ok (.bipush 6, 2) := by decide +kernel
theorem dX6_exact_29 : decode cX6_exact 29 = .ok (.if_icmp .ge 19, 3) := by decide +kernel
theorem dX6_exact_32 : decode cX6_exact 32 = .ok (.aload_n 0, 1) := by decide +kernel
theorem dX6_exact_33 : decode cX6_exact 33 = .ok (.iload_n 2, 1) := by decide +kernel
theorem dX6_exact_34 : decode cX6_exact 34 = .ok (.aload_n 0, 1) := by decide +kernel
theorem dX6_exact_35 : decode cX6_exact 35 = .ok (.iload_n 2, 1) := by decide +kernel
theorem dX6_exact_36 : decode cX6_exact 36 = .ok (.invokevirtual 115, 3) := by decide +kernel
theorem dX6_exact_39 : decode cX6_exact 39 = .ok (.invokevirtual 264, 3) := by decide +kernel
theorem dX6_exact_42 : decode cX6_exact 42 = .ok (.iinc 2 1, 3) := by decide +kernel
theorem dX6_exact_45 : decode cX6_exact 45 = .ok (.goto (-19), 3) := by decide +kernel
theorem dX6_exact_48 : decode cX6_exact 48 = .ok (.aload_n 0, 1) := by decide +kernel
theorem dX6_exact_49 : decode cX6_exact 49 = .ok (.iload_n 1, 1) := by decide +kernel
theorem dX6_exact_50 : decode cX6_exact 50 = .ok (.invokevirtual 236, 3) := by decide +kernel
theorem dX6_exact_53 : decode cX6_exact 53 = .ok (.istore_n 2, 1) := by decide +kernel
theorem dX6_exact_54 : decode cX6_exact 54 = .ok (.aload_n 0, 1) := by decide +kernel
theorem dX6_exact_55 : decode cX6_exact 55 = .ok (.iload_n 1, 1) := by decide +kernel
theorem dX6_exact_56 : decode cX6_exact 56 = .ok (.invokevirtual 245, 3) := by decide +kernel
theorem dX6_exact_59 : decode cX6_exact 59 = .ok (.lreturn, 1) := by decide +kernel
theorem dX6_corner_0 : decode cX6_corner 0 = .ok (.aload_n 0, 1) := by decide +kernel
theorem dX6_corner_1 : decode cX6_corner 1 = .ok (.iload_n 1, 1) := by decide +kernel
theorem dX6_corner_2 : decode cX6_corner 2 = .ok (.invokevirtual 180, 3) := by decide +kernel
theorem dX6_corner_5 : decode cX6_corner 5 = .ok (.ifCond .eq 13, 3) := by decide +kernel
theorem dX6_corner_8 : decode cX6_corner 8 = .ok (.iload_n 2, 1) := by decide +kernel
theorem dX6_corner_9 : decode cX6_corner 9 = .ok (.i2l, 1) := by decide +kernel
theorem dX6_corner_10 : decode cX6_corner 10 = .ok (.lconst 0, 1) := by decide +kernel
theorem dX6_corner_11 : decode cX6_corner 11 = .ok (.lconst 1, 1) := by decide +kernel
theorem dX6_corner_12 : decode cX6_corner 12 = .ok (.invokestatic 97, 3) := by decide +kernel
theorem dX6_corner_15 : decode cX6_corner 15 = .ok (.ifCond .ne 7, 3) := by decide +kernel
theorem dX6_corner_18 : decode cX6_corner 18 = .ok (.ldc2_w 198, 3) := by decide +kernel
theorem dX6_corner_21 : decode cX6_corner 21 = .ok (.lreturn, 1) := by decide +kernel
theorem dX6_corner_22 : decode cX6_corner 22 = .ok (.aload_n 0, 1) := by decide +kernel
theorem dX6_corner_23 : decode cX6_corner 23 = .ok (.iload_n 1, 1) := by decide +kernel
theorem dX6_corner_24 : decode cX6_corner 24 = .ok (.invokevirtual 254, 3) := by decide +kernel
theorem dX6_corner_27 : decode cX6_corner 27 = .ok (.ifCond .ne 7, 3) := by decide +kernel
theorem dX6_corner_30 : decode cX6_corner 30 = .ok (.ldc2_w 239, 3) := by decide +kernel
theorem dX6_corner_33 : decode cX6_corner 33 = .ok (.lreturn, 1) := by decide +kernel
theorem dX6_corner_34 : decode cX6_corner 34 = .ok (.lconst 0, 1) := by decide +kernel
theorem dX6_corner_35 : decode cX6_corner 35 = .ok (.lstore_n 3, 1) := by decide +kernel
theorem dX6_corner_36 : decode cX6_corner 36 = .ok (.iconst 0, 1) := by decide +kernel
theorem dX6_corner_37 : decode cX6_corner 37 = .ok (.istore 5, 2) := by decide +kernel
theorem dX6_corner_39 : decode cX6_corner 39 = .ok (.iload 5, 2) := by decide +kernel
theorem dX6_corner_41 : decode cX6_corner 41 = .ok (.bipush 64, 2) := by decide +kernel
theorem dX6_corner_43 : decode cX6_corner 43 = .ok (.if_icmp .ge 114, 3) := by decide +kernel
theorem dX6_corner_46 : decode cX6_corner 46 = .ok (.iconst 0, 1) := by decide +kernel
theorem dX6_corner_47 : decode cX6_corner 47 = .ok (.istore 6, 2) := by decide +kernel
theorem dX6_corner_49 : decode cX6_corner 49 = .ok (.iload 6, 2) := by decide +kernel
theorem dX6_corner_51 : decode cX6_corner 51 = .ok (.bipush 6, 2) := by decide +kernel
theorem dX6_corner_53 : decode cX6_corner 53 = .ok (.if_icmp .ge 54, 3) := by decide +kernel
theorem dX6_corner_56 : decode cX6_corner 56 = .ok (.aload_n 0, 1) := by decide +kernel
theorem dX6_corner_57 : decode cX6_corner 57 = .ok (.iload 6, 2) := by decide +kernel
theorem dX6_corner_59 : decode cX6_corner 59 = .ok (.iload 5, 2) := by decide +kernel
theorem dX6_corner_61 : decode cX6_corner 61 = .ok (.iload 6, 2) := by decide +kernel
theorem dX6_corner_63 : decode cX6_corner 63 = .ok (.ishr, 1) := by decide +kernel
theorem dX6_corner_64 : decode cX6_corner 64 = .ok (.iconst 1, 1) := by decide +kernel
theorem dX6_corner_65 : decode cX6_corner 65 = .ok (.iand, 1) := by decide +kernel
theorem dX6_corner_66 : decode cX6_corner 66 = .ok (.ifCond .ne 19, 3) := by decide +kernel
theorem dX6_corner_69 : decode cX6_corner 69 = .ok (.aload_n 0, 1) := by decide +kernel
theorem dX6_corner_70 : decode cX6_corner 70 = .ok (.iload 6, 2) := by decide +kernel
theorem dX6_corner_72 : decode cX6_corner 72 = .ok (.invokevirtual 115, 3) := by decide +kernel
theorem dX6_corner_75 : decode cX6_corner 75 = .ok (.aload_n 0, 1) := by decide +kernel
theorem dX6_corner_76 : decode cX6_corner 76 = .ok (.iload 6, 2) := by decide +kernel
theorem dX6_corner_78 : decode cX6_corner 78 = .ok (.invokevirtual 119, 3) := by decide +kernel
theorem dX6_corner_81 : decode cX6_corner 81 = .ok (.isub, 1) := by decide +kernel
theorem dX6_corner_82 : decode cX6_corner 82 = .ok (.goto 16, 3) := by decide +kernel
theorem dX6_corner_85 : decode cX6_corner 85 = .ok (.aload_n 0, 1) := by decide +kernel
theorem dX6_corner_86 : decode cX6_corner 86 = .ok (.iload 6, 2) := by decide +kernel
theorem dX6_corner_88 : decode cX6_corner 88 = .ok (.invokevirtual 115, 3) := by decide +kernel
theorem dX6_corner_91 : decode cX6_corner 91 = .ok (.aload_n 0, 1) := by decide +kernel
theorem dX6_corner_92 : decode cX6_corner 92 = .ok (.iload 6, 2) := by decide +kernel
theorem dX6_corner_94 : decode cX6_corner 94 = .ok (.invokevirtual 119, 3) := by decide +kernel
theorem dX6_corner_97 : decode cX6_corner 97 = .ok (.iadd, 1) := by decide +kernel
theorem dX6_corner_98 : decode cX6_corner 98 = .ok (.invokevirtual 264, 3) := by decide +kernel
theorem dX6_corner_101 : decode cX6_corner 101 = .ok (.iinc 6 1, 3) := by decide +kernel
theorem dX6_corner_104 : decode cX6_corner 104 = .ok (.goto (-55), 3) := by decide +kernel
theorem dX6_corner_107 : decode cX6_corner 107 = .ok (.aload_n 0, 1) := by decide +kernel
theorem dX6_corner_108 : decode cX6_corner 108 = .ok (.iload_n 1, 1) := by decide +kernel
theorem dX6_corner_109 : decode cX6_corner 109 = .ok (.invokevirtual 236, 3) := by decide +kernel
theorem dX6_corner_112 : decode cX6_corner 112 = .ok (.istore 6, 2) := by decide +kernel
theorem dX6_corner_114 : decode cX6_corner 114 = .ok (.aload_n 0, 1) := by decide +kernel
theorem dX6_corner_115 : decode cX6_corner 115 = .ok (.iload_n 1, 1) := by decide +kernel
theorem dX6_corner_116 : decode cX6_corner 116 = .ok (.invokevirtual 245, 3) := by decide +kernel
theorem dX6_corner_119 : decode cX6_corner 119 = .ok (.lstore 7, 2) := by decide +kernel
theorem dX6_corner_121 : decode cX6_corner 121 = .ok (.iload 5, 2) := by decide +kernel
theorem dX6_corner_123 : decode cX6_corner 123 = .ok (.ifCond .ne 8, 3) := by decide +kernel
theorem dX6_corner_126 : decode cX6_corner 126 = .ok (.lload 7, 2) := by decide +kernel
theorem dX6_corner_128 : decode cX6_corner 128 = .ok (.goto 22, 3) := by decide +kernel
theorem dX6_corner_131 : decode cX6_corner 131 = .ok (.iload_n 2, 1) := by decide +kernel
theorem dX6_corner_132 : decode cX6_corner 132 = .ok (.ifCond .ne 12, 3) := by decide +kernel
theorem dX6_corner_135 : decode cX6_corner 135 = .ok (.lload_n 3, 1) := by decide +kernel
theorem dX6_corner_136 : decode cX6_corner 136 = .ok (.lload 7, 2) := by decide +kernel
theorem dX6_corner_138 : decode cX6_corner 138 = .ok (.invokestatic 208, 3) := by decide +kernel
theorem dX6_corner_141 : decode cX6_corner 141 = .ok (.goto 9, 3) := by decide +kernel
theorem dX6_corner_144 : decode cX6_corner 144 = .ok (.lload_n 3, 1) := by decide +kernel
theorem dX6_corner_145 : decode cX6_corner 145 = .ok (.lload 7, 2) := by decide +kernel
theorem dX6_corner_147 : decode cX6_corner 147 = .ok (.invokestatic 215, 3) := by decide +kernel
theorem dX6_corner_150 : decode cX6_corner 150 = .ok (.lstore_n 3, 1) := by decide +kernel
theorem dX6_corner_151 : decode cX6_corner 151 = .ok (.iinc 5 1, 3) := by decide +kernel
theorem dX6_corner_154 : decode cX6_corner 154 = .ok (.goto (-115), 3) := by decide +kernel
theorem dX6_corner_157 : decode cX6_corner 157 = .ok (.lload_n 3, 1) := by decide +kernel
theorem dX6_corner_158 : decode cX6_corner 158 = .ok (.lreturn, 1) := by decide +kernel
theorem dX6_changes_0 : decode cX6_changes 0 = .ok (.iload_n 1, 1) := by decide +kernel
theorem dX6_changes_1 : decode cX6_changes 1 = .ok (.tableswitch 156 2 4 #[27, 62, 109], 27) := by decide +kernel
theorem dX6_changes_28 : decode cX6_changes 28 = .ok (.aload_n 0, 1) := by decide +kernel
theorem dX6_changes_29 : decode cX6_changes 29 = .ok (.getfield 71, 3) := by decide +kernel
theorem dX6_changes_32 : decode cX6_changes 32 = .ok (.iload_n 2, 1) := by decide +kernel
theorem dX6_changes_33 : decode cX6_changes 33 = .ok (.aload_n 0, 1) := by decide +kernel
theorem dX6_changes_34 : decode cX6_changes 34 = .ok (.lconst 0, 1) := by decide +kernel
theorem dX6_changes_35 : decode cX6_changes 35 = .ok (.aload_n 0, 1) := by decide +kernel
theorem dX6_changes_36 : decode cX6_changes 36 = .ok (.getfield 74, 3) := by decide +kernel
theorem dX6_changes_39 : decode cX6_changes 39 = .ok (.iload_n 3, 1) := by decide +kernel
theorem dX6_changes_40 : decode cX6_changes 40 = .ok (.laload, 1) := by decide +kernel
theorem dX6_changes_41 : decode cX6_changes 41 = .ok (.invokevirtual 220, 3) := by decide +kernel
theorem dX6_changes_44 : decode cX6_changes 44 = .ok (.lastore, 1) := by decide +kernel
theorem dX6_changes_45 : decode cX6_changes 45 = .ok (.aload_n 0, 1) := by decide +kernel
theorem dX6_changes_46 : decode cX6_changes 46 = .ok (.getfield 74, 3) := by decide +kernel
theorem dX6_changes_49 : decode cX6_changes 49 = .ok (.iload_n 2, 1) := by decide +kernel
theorem dX6_changes_50 : decode cX6_changes 50 = .ok (.aload_n 0, 1) := by decide +kernel
theorem dX6_changes_51 : decode cX6_changes 51 = .ok (.lconst 0, 1) := by decide +kernel
theorem dX6_changes_52 : decode cX6_changes 52 = .ok (.aload_n 0, 1) := by decide +kernel
theorem dX6_changes_53 : decode cX6_changes 53 = .ok (.getfield 71, 3) := by decide +kernel
theorem dX6_changes_56 : decode cX6_changes 56 = .ok (.iload_n 3, 1) := by decide +kernel
theorem dX6_changes_57 : decode cX6_changes 57 = .ok (.laload, 1) := by decide +kernel
theorem dX6_changes_58 : decode cX6_changes 58 = .ok (.invokevirtual 220, 3) := by decide +kernel
theorem dX6_changes_61 : decode cX6_changes 61 = .ok (.lastore, 1) := by decide +kernel
theorem dX6_changes_62 : decode cX6_changes 62 = .ok (.return_, 1) := by decide +kernel
theorem dX6_changes_63 : decode cX6_changes 63 = .ok (.aload_n 0, 1) := by decide +kernel
theorem dX6_changes_64 : decode cX6_changes 64 = .ok (.getfield 71, 3) := by decide +kernel
theorem dX6_changes_67 : decode cX6_changes 67 = .ok (.iload_n 2, 1) := by decide +kernel
theorem dX6_changes_68 : decode cX6_changes 68 = .ok (.aload_n 0, 1) := by decide +kernel
theorem dX6_changes_69 : decode cX6_changes 69 = .ok (.aload_n 0, 1) := by decide +kernel
theorem dX6_changes_70 : decode cX6_changes 70 = .ok (.getfield 71, 3) := by decide +kernel
theorem dX6_changes_73 : decode cX6_changes 73 = .ok (.iload_n 3, 1) := by decide +kernel
theorem dX6_changes_74 : decode cX6_changes 74 = .ok (.laload, 1) := by decide +kernel
theorem dX6_changes_75 : decode cX6_changes 75 = .ok (.aload_n 0, 1) := by decide +kernel
theorem dX6_changes_76 : decode cX6_changes 76 = .ok (.getfield 71, 3) := by decide +kernel
theorem dX6_changes_79 : decode cX6_changes 79 = .ok (.iload 4, 2) := by decide +kernel
theorem dX6_changes_81 : decode cX6_changes 81 = .ok (.laload, 1) := by decide +kernel
theorem dX6_changes_82 : decode cX6_changes 82 = .ok (.invokevirtual 223, 3) := by decide +kernel
theorem dX6_changes_85 : decode cX6_changes 85 = .ok (.lastore, 1) := by decide +kernel
theorem dX6_changes_86 : decode cX6_changes 86 = .ok (.aload_n 0, 1) := by decide +kernel
theorem dX6_changes_87 : decode cX6_changes 87 = .ok (.getfield 74, 3) := by decide +kernel
theorem dX6_changes_90 : decode cX6_changes 90 = .ok (.iload_n 2, 1) := by decide +kernel
theorem dX6_changes_91 : decode cX6_changes 91 = .ok (.aload_n 0, 1) := by decide +kernel
theorem dX6_changes_92 : decode cX6_changes 92 = .ok (.aload_n 0, 1) := by decide +kernel
theorem dX6_changes_93 : decode cX6_changes 93 = .ok (.getfield 74, 3) := by decide +kernel
theorem dX6_changes_96 : decode cX6_changes 96 = .ok (.iload_n 3, 1) := by decide +kernel
theorem dX6_changes_97 : decode cX6_changes 97 = .ok (.laload, 1) := by decide +kernel
theorem dX6_changes_98 : decode cX6_changes 98 = .ok (.aload_n 0, 1) := by decide +kernel
theorem dX6_changes_99 : decode cX6_changes 99 = .ok (.getfield 74, 3) := by decide +kernel
theorem dX6_changes_102 : decode cX6_changes 102 = .ok (.iload 4, 2) := by decide +kernel
theorem dX6_changes_104 : decode cX6_changes 104 = .ok (.laload, 1) := by decide +kernel
theorem dX6_changes_105 : decode cX6_changes 105 = .ok (.invokevirtual 223, 3) := by decide +kernel
theorem dX6_changes_108 : decode cX6_changes 108 = .ok (.lastore, 1) := by decide +kernel
theorem dX6_changes_109 : decode cX6_changes 109 = .ok (.return_, 1) := by decide +kernel
theorem dX6_changes_110 : decode cX6_changes 110 = .ok (.aload_n 0, 1) := by decide +kernel
theorem dX6_changes_111 : decode cX6_changes 111 = .ok (.getfield 71, 3) := by decide +kernel
theorem dX6_changes_114 : decode cX6_changes 114 = .ok (.iload_n 2, 1) := by decide +kernel
theorem dX6_changes_115 : decode cX6_changes 115 = .ok (.aload_n 0, 1) := by decide +kernel
theorem dX6_changes_116 : decode cX6_changes 116 = .ok (.aload_n 0, 1) := by decide +kernel
theorem dX6_changes_117 : decode cX6_changes 117 = .ok (.getfield 71, 3) := by decide +kernel
theorem dX6_changes_120 : decode cX6_changes 120 = .ok (.iload_n 3, 1) := by decide +kernel
theorem dX6_changes_121 : decode cX6_changes 121 = .ok (.laload, 1) := by decide +kernel
theorem dX6_changes_122 : decode cX6_changes 122 = .ok (.aload_n 0, 1) := by decide +kernel
theorem dX6_changes_123 : decode cX6_changes 123 = .ok (.getfield 74, 3) := by decide +kernel
theorem dX6_changes_126 : decode cX6_changes 126 = .ok (.iload 4, 2) := by decide +kernel
theorem dX6_changes_128 : decode cX6_changes 128 = .ok (.laload, 1) := by decide +kernel
theorem dX6_changes_129 : decode cX6_changes 129 = .ok (.invokevirtual 220, 3) := by decide +kernel
theorem dX6_changes_132 : decode cX6_changes 132 = .ok (.lastore, 1) := by decide +kernel
theorem dX6_changes_133 : decode cX6_changes 133 = .ok (.aload_n 0, 1) := by decide +kernel
theorem dX6_changes_134 : decode cX6_changes 134 = .ok (.getfield 74, 3) := by decide +kernel
theorem dX6_changes_137 : decode cX6_changes 137 = .ok (.iload_n 2, 1) := by decide +kernel
theorem dX6_changes_138 : decode cX6_changes 138 = .ok (.aload_n 0, 1) := by decide +kernel
theorem dX6_changes_139 : decode cX6_changes 139 = .ok (.aload_n 0, 1) := by decide +kernel
theorem dX6_changes_140 : decode cX6_changes 140 = .ok (.getfield 74, 3) := by decide +kernel
theorem dX6_changes_143 : decode cX6_changes 143 = .ok (.iload_n 3, 1) := by decide +kernel
theorem dX6_changes_144 : decode cX6_changes 144 = .ok (.laload, 1) := by decide +kernel
theorem dX6_changes_145 : decode cX6_changes 145 = .ok (.aload_n 0, 1) := by decide +kernel
theorem dX6_changes_146 : decode cX6_changes 146 = .ok (.getfield 71, 3) := by decide +kernel
theorem dX6_changes_149 : decode cX6_changes 149 = .ok (.iload 4, 2) := by decide +kernel
theorem dX6_changes_151 : decode cX6_changes 151 = .ok (.laload, 1) := by decide +kernel
theorem dX6_changes_152 : decode cX6_changes 152 = .ok (.invokevirtual 220, 3) := by decide +kernel
theorem dX6_changes_155 : decode cX6_changes 155 = .ok (.lastore, 1) := by decide +kernel
theorem dX6_changes_156 : decode cX6_changes 156 = .ok (.return_, 1) := by decide +kernel
theorem dX6_changes_157 : decode cX6_changes 157 = .ok (.aload_n 0, 1) := by decide +kernel
theorem dX6_changes_158 : decode cX6_changes 158 = .ok (.aload_n 0, 1) := by decide +kernel
theorem dX6_changes_159 : decode cX6_changes 159 = .ok (.getfield 71, 3) := by decide +kernel
theorem dX6_changes_162 : decode cX6_changes 162 = .ok (.iload_n 3, 1) := by decide +kernel
theorem dX6_changes_163 : decode cX6_changes 163 = .ok (.laload, 1) := by decide +kernel
theorem dX6_changes_164 : decode cX6_changes 164 = .ok (.aload_n 0, 1) := by decide +kernel
theorem dX6_changes_165 : decode cX6_changes 165 = .ok (.getfield 74, 3) := by decide +kernel
theorem dX6_changes_168 : decode cX6_changes 168 = .ok (.iload_n 3, 1) := by decide +kernel
theorem dX6_changes_169 : decode cX6_changes 169 = .ok (.laload, 1) := by decide +kernel
theorem dX6_changes_170 : decode cX6_changes 170 = .ok (.aload_n 0, 1) := by decide +kernel
theorem dX6_changes_171 : decode cX6_changes 171 = .ok (.getfield 57, 3) := by decide +kernel
theorem dX6_changes_174 : decode cX6_changes 174 = .ok (.iload 4, 2) := by decide +kernel
theorem dX6_changes_176 : decode cX6_changes 176 = .ok (.laload, 1) := by decide +kernel
theorem dX6_changes_177 : decode cX6_changes 177 = .ok (.aload_n 0, 1) := by decide +kernel
theorem dX6_changes_178 : decode cX6_changes 178 = .ok (.getfield 61, 3) := by decide +kernel
theorem dX6_changes_181 : decode cX6_changes 181 = .ok (.iload 4, 2) := by decide +kernel
theorem dX6_changes_183 : decode cX6_changes 183 = .ok (.laload, 1) := by decide +kernel
theorem dX6_changes_184 : decode cX6_changes 184 = .ok (.invokevirtual 226, 3) := by decide +kernel
theorem dX6_changes_187 : decode cX6_changes 187 = .ok (.aload_n 0, 1) := by decide +kernel
theorem dX6_changes_188 : decode cX6_changes 188 = .ok (.getfield 211, 3) := by decide +kernel
theorem dX6_changes_191 : decode cX6_changes 191 = .ok (.lstore 5, 2) := by decide +kernel
theorem dX6_changes_193 : decode cX6_changes 193 = .ok (.aload_n 0, 1) := by decide +kernel
theorem dX6_changes_194 : decode cX6_changes 194 = .ok (.getfield 217, 3) := by decide +kernel
theorem dX6_changes_197 : decode cX6_changes 197 = .ok (.lstore 7, 2) := by decide +kernel
theorem dX6_changes_199 : decode cX6_changes 199 = .ok (.aload_n 0, 1) := by decide +kernel
theorem dX6_changes_200 : decode cX6_changes 200 = .ok (.aload_n 0, 1) := by decide +kernel
theorem dX6_changes_201 : decode cX6_changes 201 = .ok (.getfield 57, 3) := by decide +kernel
theorem dX6_changes_204 : decode cX6_changes 204 = .ok (.iload_n 3, 1) := by decide +kernel
theorem dX6_changes_205 : decode cX6_changes 205 = .ok (.laload, 1) := by decide +kernel
theorem dX6_changes_206 : decode cX6_changes 206 = .ok (.aload_n 0, 1) := by decide +kernel
theorem dX6_changes_207 : decode cX6_changes 207 = .ok (.getfield 61, 3) := by decide +kernel
theorem dX6_changes_210 : decode cX6_changes 210 = .ok (.iload_n 3, 1) := by decide +kernel
theorem dX6_changes_211 : decode cX6_changes 211 = .ok (.laload, 1) := by decide +kernel
theorem dX6_changes_212 : decode cX6_changes 212 = .ok (.aload_n 0, 1) := by decide +kernel
theorem dX6_changes_213 : decode cX6_changes 213 = .ok (.getfield 71, 3) := by decide +kernel
theorem dX6_changes_216 : decode cX6_changes 216 = .ok (.iload 4, 2) := by decide +kernel
theorem dX6_changes_218 : decode cX6_changes 218 = .ok (.laload, 1) := by decide +kernel
theorem dX6_changes_219 : decode cX6_changes 219 = .ok (.aload_n 0, 1) := by decide +kernel
theorem dX6_changes_220 : decode cX6_changes 220 = .ok (.getfield 74, 3) := by decide +kernel
theorem dX6_changes_223 : decode cX6_changes 223 = .ok (.iload 4, 2) := by decide +kernel
theorem dX6_changes_225 : decode cX6_changes 225 = .ok (.laload, 1) := by decide +kernel
theorem dX6_changes_226 : decode cX6_changes 226 = .ok (.invokevirtual 226, 3) := by decide +kernel
theorem dX6_changes_229 : decode cX6_changes 229 = .ok (.aload_n 0, 1) := by decide +kernel
theorem dX6_changes_230 : decode cX6_changes 230 = .ok (.getfield 71, 3) := by decide +kernel
theorem dX6_changes_233 : decode cX6_changes 233 = .ok (.iload_n 2, 1) := by decide +kernel
theorem dX6_changes_234 : decode cX6_changes 234 = .ok (.aload_n 0, 1) := by decide +kernel
theorem dX6_changes_235 : decode cX6_changes 235 = .ok (.lload 5, 2) := by decide +kernel
theorem dX6_changes_237 : decode cX6_changes 237 = .ok (.aload_n 0, 1) := by decide +kernel
theorem dX6_changes_238 : decode cX6_changes 238 = .ok (.getfield 211, 3) := by decide +kernel
theorem dX6_changes_241 : decode cX6_changes 241 = .ok (.invokevirtual 223, 3) := by decide +kernel
theorem dX6_changes_244 : decode cX6_changes 244 = .ok (.lastore, 1) := by decide +kernel
theorem dX6_changes_245 : decode cX6_changes 245 = .ok (.aload_n 0, 1) := by decide +kernel
theorem dX6_changes_246 : decode cX6_changes 246 = .ok (.getfield 74, 3) := by decide +kernel
theorem dX6_changes_249 : decode cX6_changes 249 = .ok (.iload_n 2, 1) := by decide +kernel
theorem dX6_changes_250 : decode cX6_changes 250 = .ok (.aload_n 0, 1) := by decide +kernel
theorem dX6_changes_251 : decode cX6_changes 251 = .ok (.lload 7, 2) := by decide +kernel
theorem dX6_changes_253 : decode cX6_changes 253 = .ok (.aload_n 0, 1) := by decide +kernel
theorem dX6_changes_254 : decode cX6_changes 254 = .ok (.getfield 217, 3) := by decide +kernel
theorem dX6_changes_257 : decode cX6_changes 257 = .ok (.invokevirtual 223, 3) := by decide +kernel
theorem dX6_changes_260 : decode cX6_changes 260 = .ok (.lastore, 1) := by decide +kernel
theorem dX6_changes_261 : decode cX6_changes 261 = .ok (.return_, 1) := by decide +kernel
theorem dX6_changeOf_0 : decode cX6_changeOf 0 = .ok (.aload_n 0, 1) := by decide +kernel
theorem dX6_changeOf_1 : decode cX6_changeOf 1 = .ok (.iload_n 1, 1) := by decide +kernel
theorem dX6_changeOf_2 : decode cX6_changeOf 2 = .ok (.invokevirtual 254, 3) := by decide +kernel
theorem dX6_changeOf_5 : decode cX6_changeOf 5 = .ok (.istore_n 3, 1) := by decide +kernel
theorem dX6_changeOf_6 : decode cX6_changeOf 6 = .ok (.iconst 0, 1) := by decide +kernel
theorem dX6_changeOf_7 : decode cX6_changeOf 7 = .ok (.istore 4, 2) := by decide +kernel
theorem dX6_changeOf_9 : decode cX6_changeOf 9 = .ok (.iconst 0, 1) := by decide +kernel
theorem dX6_changeOf_10 : decode cX6_changeOf 10 = .ok (.istore 5, 2) := by decide +kernel
theorem dX6_changeOf_12 : decode cX6_changeOf 12 = .ok (.iload 5, 2) := by decide +kernel
theorem dX6_changeOf_14 : decode cX6_changeOf 14 = .ok (.aload_n 0, 1) := by decide +kernel
theorem dX6_changeOf_15 : decode cX6_changeOf 15 = .ok (.getfield 30, 3) := by decide +kernel
theorem dX6_changeOf_18 : decode cX6_changeOf 18 = .ok (.iload_n 1, 1) := by decide +kernel
theorem dX6_changeOf_19 : decode cX6_changeOf 19 = .ok (.iaload, 1) := by decide +kernel
theorem dX6_changeOf_20 : decode cX6_changeOf 20 = .ok (.if_icmp .ge 118, 3) := by decide +kernel
theorem dX6_changeOf_23 : decode cX6_changeOf 23 = .ok (.iload_n 1, 1) := by decide +kernel
theorem dX6_changeOf_24 : decode cX6_changeOf 24 = .ok (.iload 5, 2) := by decide +kernel
theorem dX6_changeOf_26 : decode cX6_changeOf 26 = .ok (.invokestatic 134, 3) := by decide +kernel
theorem dX6_changeOf_29 : decode cX6_changeOf 29 = .ok (.istore 6, 2) := by decide +kernel
theorem dX6_changeOf_31 : decode cX6_changeOf 31 = .ok (.aload_n 0, 1) := by decide +kernel
theorem dX6_changeOf_32 : decode cX6_changeOf 32 = .ok (.iconst 0, 1) := by decide +kernel
theorem dX6_changeOf_33 : decode cX6_changeOf 33 = .ok (.putfield 193, 3) := by decide +kernel
theorem dX6_changeOf_36 : decode cX6_changeOf 36 = .ok (.aload_n 0, 1) := by decide +kernel
theorem dX6_changeOf_37 : decode cX6_changeOf 37 = .ok (.getfield 18, 3) := by decide +kernel
theorem dX6_changeOf_40 : decode cX6_changeOf 40 = .ok (.iload 6, 2) := by decide +kernel
theorem dX6_changeOf_42 : decode cX6_changeOf 42 = .ok (.iaload, 1) := by decide +kernel
theorem dX6_changeOf_43 : decode cX6_changeOf 43 = .ok (.iconst 1, 1) := by decide +kernel
theorem dX6_changeOf_44 : decode cX6_changeOf 44 = .ok (.if_icmp .gt 52, 3) := by decide +kernel
theorem dX6_changeOf_47 : decode cX6_changeOf 47 = .ok (.aload_n 0, 1) := by decide +kernel
theorem dX6_changeOf_48 : decode cX6_changeOf 48 = .ok (.getfield 18, 3) := by decide +kernel
theorem dX6_changeOf_51 : decode cX6_changeOf 51 = .ok (.iload 6, 2) := by decide +kernel
theorem dX6_changeOf_53 : decode cX6_changeOf 53 = .ok (.iaload, 1) := by decide +kernel
theorem dX6_changeOf_54 : decode cX6_changeOf 54 = .ok (.ifCond .ne 18, 3) := by decide +kernel
theorem dX6_changeOf_57 : decode cX6_changeOf 57 = .ok (.aload_n 0, 1) := by decide +kernel
theorem dX6_changeOf_58 : decode cX6_changeOf 58 = .ok (.getfield 21, 3) := by decide +kernel
theorem dX6_changeOf_61 : decode cX6_changeOf 61 = .ok (.iload 6, 2) := by decide +kernel
theorem dX6_changeOf_63 : decode cX6_changeOf 63 = .ok (.iaload, 1) := by decide +kernel
theorem dX6_changeOf_64 : decode cX6_changeOf 64 = .ok (.iload_n 2, 1) := by decide +kernel
theorem dX6_changeOf_65 : decode cX6_changeOf 65 = .ok (.if_icmp .ne 7, 3) := by decide +kernel
theorem dX6_changeOf_68 : decode cX6_changeOf 68 = .ok (.lconst 1, 1) := by decide +kernel
theorem dX6_changeOf_69 : decode cX6_changeOf 69 = .ok (.goto 4, 3) := by decide +kernel
theorem dX6_changeOf_72 : decode cX6_changeOf 72 = .ok (.lconst 0, 1) := by decide +kernel
theorem dX6_changeOf_73 : decode cX6_changeOf 73 = .ok (.lstore 7, 2) := by decide +kernel
theorem dX6_changeOf_75 : decode cX6_changeOf 75 = .ok (.aload_n 0, 1) := by decide +kernel
theorem dX6_changeOf_76 : decode cX6_changeOf 76 = .ok (.getfield 71, 3) := by decide +kernel
theorem dX6_changeOf_79 : decode cX6_changeOf 79 = .ok (.iload 5, 2) := by decide +kernel
theorem dX6_changeOf_81 : decode cX6_changeOf 81 = .ok (.lload 7, 2) := by decide +kernel
theorem dX6_changeOf_83 : decode cX6_changeOf 83 = .ok (.lastore, 1) := by decide +kernel
theorem dX6_changeOf_84 : decode cX6_changeOf 84 = .ok (.aload_n 0, 1) := by decide +kernel
theorem dX6_changeOf_85 : decode cX6_changeOf 85 = .ok (.getfield 74, 3) := by decide +kernel
theorem dX6_changeOf_88 : decode cX6_changeOf 88 = .ok (.iload 5, 2) := by decide +kernel
theorem dX6_changeOf_90 : decode cX6_changeOf 90 = .ok (.lload 7, 2) := by decide +kernel
theorem dX6_changeOf_92 : decode cX6_changeOf 92 = .ok (.lastore, 1) := by decide +kernel
theorem dX6_changeOf_93 : decode cX6_changeOf 93 = .ok (.goto 30, 3) := by decide +kernel
theorem dX6_changeOf_96 : decode cX6_changeOf 96 = .ok (.aload_n 0, 1) := by decide +kernel
theorem dX6_changeOf_97 : decode cX6_changeOf 97 = .ok (.aload_n 0, 1) := by decide +kernel
theorem dX6_changeOf_98 : decode cX6_changeOf 98 = .ok (.getfield 18, 3) := by decide +kernel
theorem dX6_changeOf_101 : decode cX6_changeOf 101 = .ok (.iload 6, 2) := by decide +kernel
theorem dX6_changeOf_103 : decode cX6_changeOf 103 = .ok (.iaload, 1) := by decide +kernel
theorem dX6_changeOf_104 : decode cX6_changeOf 104 = .ok (.iload 5, 2) := by decide +kernel
theorem dX6_changeOf_106 : decode cX6_changeOf 106 = .ok (.aload_n 0, 1) := by decide +kernel
theorem dX6_changeOf_107 : decode cX6_changeOf 107 = .ok (.getfield 21, 3) := by decide +kernel
theorem dX6_changeOf_110 : decode cX6_changeOf 110 = .ok (.iload 6, 2) := by decide +kernel
theorem dX6_changeOf_112 : decode cX6_changeOf 112 = .ok (.iaload, 1) := by decide +kernel
theorem dX6_changeOf_113 : decode cX6_changeOf 113 = .ok (.aload_n 0, 1) := by decide +kernel
theorem dX6_changeOf_114 : decode cX6_changeOf 114 = .ok (.getfield 24, 3) := by decide +kernel
theorem dX6_changeOf_117 : decode cX6_changeOf 117 = .ok (.iload 6, 2) := by decide +kernel
theorem dX6_changeOf_119 : decode cX6_changeOf 119 = .ok (.iaload, 1) := by decide +kernel
theorem dX6_changeOf_120 : decode cX6_changeOf 120 = .ok (.invokevirtual 268, 3) := by decide +kernel
theorem dX6_changeOf_123 : decode cX6_changeOf 123 = .ok (.iload 4, 2) := by decide +kernel
theorem dX6_changeOf_125 : decode cX6_changeOf 125 = .ok (.aload_n 0, 1) := by decide +kernel
theorem dX6_changeOf_126 : decode cX6_changeOf 126 = .ok (.getfield 193, 3) := by decide +kernel
theorem dX6_changeOf_129 : decode cX6_changeOf 129 = .ok (.ior, 1) := by decide +kernel
theorem dX6_changeOf_130 : decode cX6_changeOf 130 = .ok (.istore 4, 2) := by decide +kernel
theorem dX6_changeOf_132 : decode cX6_changeOf 132 = .ok (.iinc 5 1, 3) := by decide +kernel
theorem dX6_changeOf_135 : decode cX6_changeOf 135 = .ok (.goto (-123), 3) := by decide +kernel
theorem dX6_changeOf_138 : decode cX6_changeOf 138 = .ok (.aload_n 0, 1) := by decide +kernel
theorem dX6_changeOf_139 : decode cX6_changeOf 139 = .ok (.getfield 71, 3) := by decide +kernel
theorem dX6_changeOf_142 : decode cX6_changeOf 142 = .ok (.aload_n 0, 1) := by decide +kernel
theorem dX6_changeOf_143 : decode cX6_changeOf 143 = .ok (.iload_n 1, 1) := by decide +kernel
theorem dX6_changeOf_144 : decode cX6_changeOf 144 = .ok (.invokevirtual 190, 3) := by decide +kernel
theorem dX6_changeOf_147 : decode cX6_changeOf 147 = .ok (.laload, 1) := by decide +kernel
theorem dX6_changeOf_148 : decode cX6_changeOf 148 = .ok (.lstore 5, 2) := by decide +kernel
theorem dX6_changeOf_150 : decode cX6_changeOf 150 = .ok (.aload_n 0, 1) := by decide +kernel
theorem dX6_changeOf_151 : decode cX6_changeOf 151 = .ok (.getfield 74, 3) := by decide +kernel
theorem dX6_changeOf_154 : decode cX6_changeOf 154 = .ok (.aload_n 0, 1) := by decide +kernel
theorem dX6_changeOf_155 : decode cX6_changeOf 155 = .ok (.iload_n 1, 1) := by decide +kernel
theorem dX6_changeOf_156 : decode cX6_changeOf 156 = .ok (.invokevirtual 190, 3) := by decide +kernel
theorem dX6_changeOf_159 : decode cX6_changeOf 159 = .ok (.laload, 1) := by decide +kernel
theorem dX6_changeOf_160 : decode cX6_changeOf 160 = .ok (.lstore 7, 2) := by decide +kernel
theorem dX6_changeOf_162 : decode cX6_changeOf 162 = .ok (.iload 4, 2) := by decide +kernel
theorem dX6_changeOf_164 : decode cX6_changeOf 164 = .ok (.ifCond .eq 5, 3) := by decide +kernel
theorem dX6_changeOf_167 : decode cX6_changeOf 167 = .ok (.iconst 3, 1) := by decide +kernel
theorem dX6_changeOf_168 : decode cX6_changeOf 168 = .ok (.ireturn, 1) := by decide +kernel
theorem dX6_changeOf_169 : decode cX6_changeOf 169 = .ok (.lload 5, 2) := by decide +kernel
theorem dX6_changeOf_171 : decode cX6_changeOf 171 = .ok (.lconst 0, 1) := by decide +kernel
theorem dX6_changeOf_172 : decode cX6_changeOf 172 = .ok (.lcmp, 1) := by decide +kernel
theorem dX6_changeOf_173 : decode cX6_changeOf 173 = .ok (.ifCond .ne 14, 3) := by decide +kernel
theorem dX6_changeOf_176 : decode cX6_changeOf 176 = .ok (.lload 7, 2) := by decide +kernel
theorem dX6_changeOf_178 : decode cX6_changeOf 178 = .ok (.lconst 0, 1) := by decide +kernel
theorem dX6_changeOf_179 : decode cX6_changeOf 179 = .ok (.lcmp, 1) := by decide +kernel
theorem dX6_changeOf_180 : decode cX6_changeOf 180 = .ok (.ifCond .ne 7, 3) := by decide +kernel
theorem dX6_changeOf_183 : decode cX6_changeOf 183 = .ok (.iconst 0, 1) := by decide +kernel
theorem dX6_changeOf_184 : decode cX6_changeOf 184 = .ok (.goto 26, 3) := by decide +kernel
theorem dX6_changeOf_187 : decode cX6_changeOf 187 = .ok (.lload 5, 2) := by decide +kernel
theorem dX6_changeOf_189 : decode cX6_changeOf 189 = .ok (.lconst 0, 1) := by decide +kernel
theorem dX6_changeOf_190 : decode cX6_changeOf 190 = .ok (.lcmp, 1) := by decide +kernel
theorem dX6_changeOf_191 : decode cX6_changeOf 191 = .ok (.ifCond .lt 7, 3) := by decide +kernel
theorem dX6_changeOf_194 : decode cX6_changeOf 194 = .ok (.iconst 1, 1) := by decide +kernel
theorem dX6_changeOf_195 : decode cX6_changeOf 195 = .ok (.goto 15, 3) := by decide +kernel
theorem dX6_changeOf_198 : decode cX6_changeOf 198 = .ok (.lload 7, 2) := by decide +kernel
theorem dX6_changeOf_200 : decode cX6_changeOf 200 = .ok (.lconst 0, 1) := by decide +kernel
theorem dX6_changeOf_201 : decode cX6_changeOf 201 = .ok (.lcmp, 1) := by decide +kernel
theorem dX6_changeOf_202 : decode cX6_changeOf 202 = .ok (.ifCond .gt 7, 3) := by decide +kernel
theorem dX6_changeOf_205 : decode cX6_changeOf 205 = .ok (.iconst 2, 1) := by decide +kernel
theorem dX6_changeOf_206 : decode cX6_changeOf 206 = .ok (.goto 4, 3) := by decide +kernel
theorem dX6_changeOf_209 : decode cX6_changeOf 209 = .ok (.iconst 3, 1) := by decide +kernel
theorem dX6_changeOf_210 : decode cX6_changeOf 210 = .ok (.ireturn, 1) := by decide +kernel
theorem dX6_rises_0 : decode cX6_rises 0 = .ok (.aload_n 0, 1) := by decide +kernel
theorem dX6_rises_1 : decode cX6_rises 1 = .ok (.iload_n 1, 1) := by decide +kernel
theorem dX6_rises_2 : decode cX6_rises 2 = .ok (.invokevirtual 180, 3) := by decide +kernel
theorem dX6_rises_5 : decode cX6_rises 5 = .ok (.ifCond .eq 10, 3) := by decide +kernel
theorem dX6_rises_8 : decode cX6_rises 8 = .ok (.iload_n 2, 1) := by decide +kernel
theorem dX6_rises_9 : decode cX6_rises 9 = .ok (.invokestatic 101, 3) := by decide +kernel
theorem dX6_rises_12 : decode cX6_rises 12 = .ok (.ifCond .ne 5, 3) := by decide +kernel
theorem dX6_rises_15 : decode cX6_rises 15 = .ok (.iconst (-1), 1) := by decide +kernel
theorem dX6_rises_16 : decode cX6_rises 16 = .ok (.ireturn, 1) := by decide +kernel
theorem dX6_rises_17 : decode cX6_rises 17 = .ok (.aload_n 0, 1) := by decide +kernel
theorem dX6_rises_18 : decode cX6_rises 18 = .ok (.iload_n 1, 1) := by decide +kernel
theorem dX6_rises_19 : decode cX6_rises 19 = .ok (.invokevirtual 254, 3) := by decide +kernel
theorem dX6_rises_22 : decode cX6_rises 22 = .ok (.ifCond .eq 12, 3) := by decide +kernel
theorem dX6_rises_25 : decode cX6_rises 25 = .ok (.aload_n 0, 1) := by decide +kernel
theorem dX6_rises_26 : decode cX6_rises 26 = .ok (.iload_n 1, 1) := by decide +kernel
theorem dX6_rises_27 : decode cX6_rises 27 = .ok (.iload_n 2, 1) := by decide +kernel
theorem dX6_rises_28 : decode cX6_rises 28 = .ok (.invokevirtual 271, 3) := by decide +kernel
theorem dX6_rises_31 : decode cX6_rises 31 = .ok (.goto 5, 3) := by decide +kernel
theorem dX6_rises_34 : decode cX6_rises 34 = .ok (.bipush (-6), 2) := by decide +kernel
theorem dX6_rises_36 : decode cX6_rises 36 = .ok (.ireturn, 1) := by decide +kernel
theorem dX6_tight_0 : decode cX6_tight 0 = .ok (.aload_n 0, 1) := by decide +kernel
theorem dX6_tight_1 : decode cX6_tight 1 = .ok (.iload_n 1, 1) := by decide +kernel
theorem dX6_tight_2 : decode cX6_tight 2 = .ok (.invokevirtual 180, 3) := by decide +kernel
theorem dX6_tight_5 : decode cX6_tight 5 = .ok (.ifCond .eq 13, 3) := by decide +kernel
theorem dX6_tight_8 : decode cX6_tight 8 = .ok (.iload_n 2, 1) := by decide +kernel
theorem dX6_tight_9 : decode cX6_tight 9 = .ok (.i2l, 1) := by decide +kernel
theorem dX6_tight_10 : decode cX6_tight 10 = .ok (.lconst 0, 1) := by decide +kernel
theorem dX6_tight_11 : decode cX6_tight 11 = .ok (.lconst 1, 1) := by decide +kernel
theorem dX6_tight_12 : decode cX6_tight 12 = .ok (.invokestatic 97, 3) := by decide +kernel
theorem dX6_tight_15 : decode cX6_tight 15 = .ok (.ifCond .ne 7, 3) := by decide +kernel
theorem dX6_tight_18 : decode cX6_tight 18 = .ok (.ldc2_w 198, 3) := by decide +kernel
theorem dX6_tight_21 : decode cX6_tight 21 = .ok (.lreturn, 1) := by decide +kernel
theorem dX6_tight_22 : decode cX6_tight 22 = .ok (.aload_n 0, 1) := by decide +kernel
theorem dX6_tight_23 : decode cX6_tight 23 = .ok (.iload_n 1, 1) := by decide +kernel
theorem dX6_tight_24 : decode cX6_tight 24 = .ok (.invokevirtual 254, 3) := by decide +kernel
theorem dX6_tight_27 : decode cX6_tight 27 = .ok (.ifCond .ne 7, 3) := by decide +kernel
theorem dX6_tight_30 : decode cX6_tight 30 = .ok (.ldc2_w 239, 3) := by decide +kernel
theorem dX6_tight_33 : decode cX6_tight 33 = .ok (.lreturn, 1) := by decide +kernel
theorem dX6_tight_34 : decode cX6_tight 34 = .ok (.iconst 0, 1) := by decide +kernel
theorem dX6_tight_35 : decode cX6_tight 35 = .ok (.istore_n 3, 1) := by decide +kernel
theorem dX6_tight_36 : decode cX6_tight 36 = .ok (.iload_n 3, 1) := by decide +kernel
theorem dX6_tight_37 : decode cX6_tight 37 = .ok (.bipush 6, 2) := by decide +kernel
theorem dX6_tight_39 : decode cX6_tight 39 = .ok (.if_icmp .ge 21, 3) := by decide +kernel
theorem dX6_tight_42 : decode cX6_tight 42 = .ok (.aload_n 0, 1) := by decide +kernel
theorem dX6_tight_43 : decode cX6_tight 43 = .ok (.getfield 77, 3) := by decide +kernel
theorem dX6_tight_46 : decode cX6_tight 46 = .ok (.iload_n 3, 1) := by decide +kernel
theorem dX6_tight_47 : decode cX6_tight 47 = .ok (.aload_n 0, 1) := by decide +kernel
theorem dX6_tight_48 : decode cX6_tight 48 = .ok (.iload_n 1, 1) := by decide +kernel
theorem dX6_tight_49 : decode cX6_tight 49 = .ok (.iload_n 3, 1) := by decide +kernel
theorem dX6_tight_50 : decode cX6_tight 50 = .ok (.invokevirtual 271, 3) := by decide +kernel
theorem dX6_tight_53 : decode cX6_tight 53 = .ok (.iastore, 1) := by decide +kernel
theorem dX6_tight_54 : decode cX6_tight 54 = .ok (.iinc 3 1, 3) := by decide +kernel
theorem dX6_tight_57 : decode cX6_tight 57 = .ok (.goto (-21), 3) := by decide +kernel
theorem dX6_tight_60 : decode cX6_tight 60 = .ok (.aload_n 0, 1) := by decide +kernel
theorem dX6_tight_61 : decode cX6_tight 61 = .ok (.invokevirtual 233, 3) := by decide +kernel
theorem dX6_tight_64 : decode cX6_tight 64 = .ok (.iconst 0, 1) := by decide +kernel
theorem dX6_tight_65 : decode cX6_tight 65 = .ok (.istore_n 3, 1) := by decide +kernel
theorem dX6_tight_66 : decode cX6_tight 66 = .ok (.iload_n 3, 1) := by decide +kernel
theorem dX6_tight_67 : decode cX6_tight 67 = .ok (.bipush 6, 2) := by decide +kernel
theorem dX6_tight_69 : decode cX6_tight 69 = .ok (.if_icmp .ge 76, 3) := by decide +kernel
theorem dX6_tight_72 : decode cX6_tight 72 = .ok (.aload_n 0, 1) := by decide +kernel
theorem dX6_tight_73 : decode cX6_tight 73 = .ok (.getfield 77, 3) := by decide +kernel
theorem dX6_tight_76 : decode cX6_tight 76 = .ok (.iload_n 3, 1) := by decide +kernel
theorem dX6_tight_77 : decode cX6_tight 77 = .ok (.iaload, 1) := by decide +kernel
theorem dX6_tight_78 : decode cX6_tight 78 = .ok (.iconst 1, 1) := by decide +kernel
theorem dX6_tight_79 : decode cX6_tight 79 = .ok (.if_icmp .eq 13, 3) := by decide +kernel
theorem dX6_tight_82 : decode cX6_tight 82 = .ok (.aload_n 0, 1) := by decide +kernel
theorem dX6_tight_83 : decode cX6_tight 83 = .ok (.getfield 77, 3) := by decide +kernel
theorem dX6_tight_86 : decode cX6_tight 86 = .ok (.iload_n 3, 1) := by decide +kernel
theorem dX6_tight_87 : decode cX6_tight 87 = .ok (.iaload, 1) := by decide +kernel
theorem dX6_tight_88 : decode cX6_tight 88 = .ok (.iconst 2, 1) := by decide +kernel
theorem dX6_tight_89 : decode cX6_tight 89 = .ok (.if_icmp .ne 50, 3) := by decide +kernel
theorem dX6_tight_92 : decode cX6_tight 92 = .ok (.aload_n 0, 1) := by decide +kernel
theorem dX6_tight_93 : decode cX6_tight 93 = .ok (.iload_n 3, 1) := by decide +kernel
theorem dX6_tight_94 : decode cX6_tight 94 = .ok (.aload_n 0, 1) := by decide +kernel
theorem dX6_tight_95 : decode cX6_tight 95 = .ok (.getfield 77, 3) := by decide +kernel
theorem dX6_tight_98 : decode cX6_tight 98 = .ok (.iload_n 3, 1) := by decide +kernel
theorem dX6_tight_99 : decode cX6_tight 99 = .ok (.iaload, 1) := by decide +kernel
theorem dX6_tight_100 : decode cX6_tight 100 = .ok (.iconst 1, 1) := by decide +kernel
theorem dX6_tight_101 : decode cX6_tight 101 = .ok (.if_icmp .ne 7, 3) := by decide +kernel
theorem dX6_tight_104 : decode cX6_tight 104 = .ok (.iconst 1, 1) := by decide +kernel
theorem dX6_tight_105 : decode cX6_tight 105 = .ok (.goto 4, 3) := by decide +kernel
theorem dX6_tight_108 : decode cX6_tight 108 = .ok (.iconst 0, 1) := by decide +kernel
theorem dX6_tight_109 : decode cX6_tight 109 = .ok (.iload_n 2, 1) := by decide +kernel
theorem dX6_tight_110 : decode cX6_tight 110 = .ok (.ifCond .ne 7, 3) := by decide +kernel
theorem dX6_tight_113 : decode cX6_tight 113 = .ok (.iconst 1, 1) := by decide +kernel
theorem dX6_tight_114 : decode cX6_tight 114 = .ok (.goto 4, 3) := by decide +kernel
theorem dX6_tight_117 : decode cX6_tight 117 = .ok (.iconst 0, 1) := by decide +kernel
theorem dX6_tight_118 : decode cX6_tight 118 = .ok (.if_icmp .ne 12, 3) := by decide +kernel
theorem dX6_tight_121 : decode cX6_tight 121 = .ok (.aload_n 0, 1) := by decide +kernel
theorem dX6_tight_122 : decode cX6_tight 122 = .ok (.getfield 51, 3) := by decide +kernel
theorem dX6_tight_125 : decode cX6_tight 125 = .ok (.iload_n 3, 1) := by decide +kernel
theorem dX6_tight_126 : decode cX6_tight 126 = .ok (.iaload, 1) := by decide +kernel
theorem dX6_tight_127 : decode cX6_tight 127 = .ok (.goto 9, 3) := by decide +kernel
theorem dX6_tight_130 : decode cX6_tight 130 = .ok (.aload_n 0, 1) := by decide +kernel
theorem dX6_tight_131 : decode cX6_tight 131 = .ok (.getfield 54, 3) := by decide +kernel
theorem dX6_tight_134 : decode cX6_tight 134 = .ok (.iload_n 3, 1) := by decide +kernel
theorem dX6_tight_135 : decode cX6_tight 135 = .ok (.iaload, 1) := by decide +kernel
theorem dX6_tight_136 : decode cX6_tight 136 = .ok (.invokevirtual 264, 3) := by decide +kernel
theorem dX6_tight_139 : decode cX6_tight 139 = .ok (.iinc 3 1, 3) := by decide +kernel
theorem dX6_tight_142 : decode cX6_tight 142 = .ok (.goto (-76), 3) := by decide +kernel
theorem dX6_tight_145 : decode cX6_tight 145 = .ok (.aload_n 0, 1) := by decide +kernel
theorem dX6_tight_146 : decode cX6_tight 146 = .ok (.iload_n 1, 1) := by decide +kernel
theorem dX6_tight_147 : decode cX6_tight 147 = .ok (.invokevirtual 236, 3) := by decide +kernel
theorem dX6_tight_150 : decode cX6_tight 150 = .ok (.istore_n 3, 1) := by decide +kernel
theorem dX6_tight_151 : decode cX6_tight 151 = .ok (.iload_n 2, 1) := by decide +kernel
theorem dX6_tight_152 : decode cX6_tight 152 = .ok (.ifCond .ne 11, 3) := by decide +kernel
theorem dX6_tight_155 : decode cX6_tight 155 = .ok (.aload_n 0, 1) := by decide +kernel
theorem dX6_tight_156 : decode cX6_tight 156 = .ok (.iload_n 1, 1) := by decide +kernel
theorem dX6_tight_157 : decode cX6_tight 157 = .ok (.invokevirtual 245, 3) := by decide +kernel
theorem dX6_tight_160 : decode cX6_tight 160 = .ok (.goto 8, 3) := by decide +kernel
theorem dX6_tight_163 : decode cX6_tight 163 = .ok (.aload_n 0, 1) := by decide +kernel
theorem dX6_tight_164 : decode cX6_tight 164 = .ok (.iload_n 1, 1) := by decide +kernel
theorem dX6_tight_165 : decode cX6_tight 165 = .ok (.invokevirtual 241, 3) := by decide +kernel
theorem dX6_tight_168 : decode cX6_tight 168 = .ok (.lreturn, 1) := by decide +kernel
theorem dX6_splits_0 : decode cX6_splits 0 = .ok (.aload_n 0, 1) := by decide +kernel
theorem dX6_splits_1 : decode cX6_splits 1 = .ok (.invokevirtual 233, 3) := by decide +kernel
theorem dX6_splits_4 : decode cX6_splits 4 = .ok (.aload_n 0, 1) := by decide +kernel
theorem dX6_splits_5 : decode cX6_splits 5 = .ok (.getfield 54, 3) := by decide +kernel
theorem dX6_splits_8 : decode cX6_splits 8 = .ok (.iload_n 2, 1) := by decide +kernel
theorem dX6_splits_9 : decode cX6_splits 9 = .ok (.iaload, 1) := by decide +kernel
theorem dX6_splits_10 : decode cX6_splits 10 = .ok (.istore 4, 2) := by decide +kernel
theorem dX6_splits_12 : decode cX6_splits 12 = .ok (.aload_n 0, 1) := by decide +kernel
theorem dX6_splits_13 : decode cX6_splits 13 = .ok (.getfield 54, 3) := by decide +kernel
theorem dX6_splits_16 : decode cX6_splits 16 = .ok (.iload_n 2, 1) := by decide +kernel
theorem dX6_splits_17 : decode cX6_splits 17 = .ok (.iload_n 3, 1) := by decide +kernel
theorem dX6_splits_18 : decode cX6_splits 18 = .ok (.iastore, 1) := by decide +kernel
theorem dX6_splits_19 : decode cX6_splits 19 = .ok (.aload_n 0, 1) := by decide +kernel
theorem dX6_splits_20 : decode cX6_splits 20 = .ok (.iload_n 1, 1) := by decide +kernel
theorem dX6_splits_21 : decode cX6_splits 21 = .ok (.invokevirtual 236, 3) := by decide +kernel
theorem dX6_splits_24 : decode cX6_splits 24 = .ok (.istore 5, 2) := by decide +kernel
theorem dX6_splits_26 : decode cX6_splits 26 = .ok (.aload_n 0, 1) := by decide +kernel
theorem dX6_splits_27 : decode cX6_splits 27 = .ok (.aload_n 0, 1) := by decide +kernel
theorem dX6_splits_28 : decode cX6_splits 28 = .ok (.iload_n 1, 1) := by decide +kernel
theorem dX6_splits_29 : decode cX6_splits 29 = .ok (.invokevirtual 245, 3) := by decide +kernel
theorem dX6_splits_32 : decode cX6_splits 32 = .ok (.putfield 274, 3) := by decide +kernel
theorem dX6_splits_35 : decode cX6_splits 35 = .ok (.aload_n 0, 1) := by decide +kernel
theorem dX6_splits_36 : decode cX6_splits 36 = .ok (.aload_n 0, 1) := by decide +kernel
theorem dX6_splits_37 : decode cX6_splits 37 = .ok (.iload_n 1, 1) := by decide +kernel
theorem dX6_splits_38 : decode cX6_splits 38 = .ok (.invokevirtual 241, 3) := by decide +kernel
theorem dX6_splits_41 : decode cX6_splits 41 = .ok (.putfield 277, 3) := by decide +kernel
theorem dX6_splits_44 : decode cX6_splits 44 = .ok (.aload_n 0, 1) := by decide +kernel
theorem dX6_splits_45 : decode cX6_splits 45 = .ok (.iload_n 2, 1) := by decide +kernel
theorem dX6_splits_46 : decode cX6_splits 46 = .ok (.iload_n 3, 1) := by decide +kernel
theorem dX6_splits_47 : decode cX6_splits 47 = .ok (.iload 4, 2) := by decide +kernel
theorem dX6_splits_49 : decode cX6_splits 49 = .ok (.invokevirtual 200, 3) := by decide +kernel
theorem dX6_splits_52 : decode cX6_splits 52 = .ok (.aload_n 0, 1) := by decide +kernel
theorem dX6_splits_53 : decode cX6_splits 53 = .ok (.iload_n 1, 1) := by decide +kernel
theorem dX6_splits_54 : decode cX6_splits 54 = .ok (.invokevirtual 236, 3) := by decide +kernel
theorem dX6_splits_57 : decode cX6_splits 57 = .ok (.istore 5, 2) := by decide +kernel
theorem dX6_splits_59 : decode cX6_splits 59 = .ok (.aload_n 0, 1) := by decide +kernel
theorem dX6_splits_60 : decode cX6_splits 60 = .ok (.aload_n 0, 1) := by decide +kernel
theorem dX6_splits_61 : decode cX6_splits 61 = .ok (.getfield 274, 3) := by decide +kernel
theorem dX6_splits_64 : decode cX6_splits 64 = .ok (.aload_n 0, 1) := by decide +kernel
theorem dX6_splits_65 : decode cX6_splits 65 = .ok (.iload_n 1, 1) := by decide +kernel
theorem dX6_splits_66 : decode cX6_splits 66 = .ok (.invokevirtual 245, 3) := by decide +kernel
theorem dX6_splits_69 : decode cX6_splits 69 = .ok (.invokestatic 208, 3) := by decide +kernel
theorem dX6_splits_72 : decode cX6_splits 72 = .ok (.putfield 274, 3) := by decide +kernel
theorem dX6_splits_75 : decode cX6_splits 75 = .ok (.aload_n 0, 1) := by decide +kernel
theorem dX6_splits_76 : decode cX6_splits 76 = .ok (.aload_n 0, 1) := by decide +kernel
theorem dX6_splits_77 : decode cX6_splits 77 = .ok (.getfield 277, 3) := by decide +kernel
theorem dX6_splits_80 : decode cX6_splits 80 = .ok (.aload_n 0, 1) := by decide +kernel
theorem dX6_splits_81 : decode cX6_splits 81 = .ok (.iload_n 1, 1) := by decide +kernel
theorem dX6_splits_82 : decode cX6_splits 82 = .ok (.invokevirtual 241, 3) := by decide +kernel
theorem dX6_splits_85 : decode cX6_splits 85 = .ok (.invokestatic 215, 3) := by decide +kernel
theorem dX6_splits_88 : decode cX6_splits 88 = .ok (.putfield 277, 3) := by decide +kernel
theorem dX6_splits_91 : decode cX6_splits 91 = .ok (.return_, 1) := by decide +kernel
theorem dX6_split_0 : decode cX6_split 0 = .ok (.aload_n 0, 1) := by decide +kernel
theorem dX6_split_1 : decode cX6_split 1 = .ok (.iload_n 1, 1) := by decide +kernel
theorem dX6_split_2 : decode cX6_split 2 = .ok (.invokevirtual 180, 3) := by decide +kernel
theorem dX6_split_5 : decode cX6_split 5 = .ok (.ifCond .eq 45, 3) := by decide +kernel
theorem dX6_split_8 : decode cX6_split 8 = .ok (.iload_n 2, 1) := by decide +kernel
theorem dX6_split_9 : decode cX6_split 9 = .ok (.invokestatic 101, 3) := by decide +kernel
theorem dX6_split_12 : decode cX6_split 12 = .ok (.ifCond .eq 38, 3) := by decide +kernel
theorem dX6_split_15 : decode cX6_split 15 = .ok (.iload_n 3, 1) := by decide +kernel
theorem dX6_split_16 : decode cX6_split 16 = .ok (.i2l, 1) := by decide +kernel
theorem dX6_split_17 : decode cX6_split 17 = .ok (.aload_n 0, 1) := by decide +kernel
theorem dX6_split_18 : decode cX6_split 18 = .ok (.iload_n 2, 1) := by decide +kernel
theorem dX6_split_19 : decode cX6_split 19 = .ok (.iconst 3, 1) := by decide +kernel
theorem dX6_split_20 : decode cX6_split 20 = .ok (.invokevirtual 280, 3) := by decide +kernel
theorem dX6_split_23 : decode cX6_split 23 = .ok (.i2l, 1) := by decide +kernel
theorem dX6_split_24 : decode cX6_split 24 = .ok (.aload_n 0, 1) := by decide +kernel
theorem dX6_split_25 : decode cX6_split 25 = .ok (.iload_n 2, 1) := by decide +kernel
theorem dX6_split_26 : decode cX6_split 26 = .ok (.iconst 4, 1) := by decide +kernel
theorem dX6_split_27 : decode cX6_split 27 = .ok (.invokevirtual 280, 3) := by decide +kernel
theorem dX6_split_30 : decode cX6_split 30 = .ok (.i2l, 1) := by decide +kernel
theorem dX6_split_31 : decode cX6_split 31 = .ok (.invokestatic 97, 3) := by decide +kernel
theorem dX6_split_34 : decode cX6_split 34 = .ok (.ifCond .eq 16, 3) := by decide +kernel
theorem dX6_split_37 : decode cX6_split 37 = .ok (.iload 4, 2) := by decide +kernel
theorem dX6_split_39 : decode cX6_split 39 = .ok (.i2l, 1) := by decide +kernel
theorem dX6_split_40 : decode cX6_split 40 = .ok (.lconst 0, 1) := by decide +kernel
theorem dX6_split_41 : decode cX6_split 41 = .ok (.ldc2_w 105, 3) := by decide +kernel
theorem dX6_split_44 : decode cX6_split 44 = .ok (.invokestatic 97, 3) := by decide +kernel
theorem dX6_split_47 : decode cX6_split 47 = .ok (.ifCond .ne 7, 3) := by decide +kernel
theorem dX6_split_50 : decode cX6_split 50 = .ok (.ldc2_w 198, 3) := by decide +kernel
theorem dX6_split_53 : decode cX6_split 53 = .ok (.lreturn, 1) := by decide +kernel
theorem dX6_split_54 : decode cX6_split 54 = .ok (.aload_n 0, 1) := by decide +kernel
theorem dX6_split_55 : decode cX6_split 55 = .ok (.iload_n 1, 1) := by decide +kernel
theorem dX6_split_56 : decode cX6_split 56 = .ok (.invokevirtual 254, 3) := by decide +kernel
theorem dX6_split_59 : decode cX6_split 59 = .ok (.ifCond .ne 7, 3) := by decide +kernel
theorem dX6_split_62 : decode cX6_split 62 = .ok (.ldc2_w 239, 3) := by decide +kernel
theorem dX6_split_65 : decode cX6_split 65 = .ok (.lreturn, 1) := by decide +kernel
theorem dX6_split_66 : decode cX6_split 66 = .ok (.aload_n 0, 1) := by decide +kernel
theorem dX6_split_67 : decode cX6_split 67 = .ok (.iload_n 1, 1) := by decide +kernel
theorem dX6_split_68 : decode cX6_split 68 = .ok (.iload_n 2, 1) := by decide +kernel
theorem dX6_split_69 : decode cX6_split 69 = .ok (.iload_n 3, 1) := by decide +kernel
theorem dX6_split_70 : decode cX6_split 70 = .ok (.invokevirtual 283, 3) := by decide +kernel
theorem dX6_split_73 : decode cX6_split 73 = .ok (.aload_n 0, 1) := by decide +kernel
theorem dX6_split_74 : decode cX6_split 74 = .ok (.iconst 0, 1) := by decide +kernel
theorem dX6_split_75 : decode cX6_split 75 = .ok (.putfield 193, 3) := by decide +kernel
theorem dX6_split_78 : decode cX6_split 78 = .ok (.aload_n 0, 1) := by decide +kernel
theorem dX6_split_79 : decode cX6_split 79 = .ok (.aload_n 0, 1) := by decide +kernel
theorem dX6_split_80 : decode cX6_split 80 = .ok (.getfield 277, 3) := by decide +kernel
theorem dX6_split_83 : decode cX6_split 83 = .ok (.aload_n 0, 1) := by decide +kernel
theorem dX6_split_84 : decode cX6_split 84 = .ok (.getfield 274, 3) := by decide +kernel
theorem dX6_split_87 : decode cX6_split 87 = .ok (.invokevirtual 220, 3) := by decide +kernel
theorem dX6_split_90 : decode cX6_split 90 = .ok (.lstore 5, 2) := by decide +kernel
theorem dX6_split_92 : decode cX6_split 92 = .ok (.iload 4, 2) := by decide +kernel
theorem dX6_split_94 : decode cX6_split 94 = .ok (.ifCond .ne 10, 3) := by decide +kernel
theorem dX6_split_97 : decode cX6_split 97 = .ok (.aload_n 0, 1) := by decide +kernel
theorem dX6_split_98 : decode cX6_split 98 = .ok (.getfield 274, 3) := by decide +kernel
theorem dX6_split_101 : decode cX6_split 101 = .ok (.goto 31, 3) := by decide +kernel
theorem dX6_split_104 : decode cX6_split 104 = .ok (.iload 4, 2) := by decide +kernel
theorem dX6_split_106 : decode cX6_split 106 = .ok (.iconst 1, 1) := by decide +kernel
theorem dX6_split_107 : decode cX6_split 107 = .ok (.if_icmp .ne 10, 3) := by decide +kernel
theorem dX6_split_110 : decode cX6_split 110 = .ok (.aload_n 0, 1) := by decide +kernel
theorem dX6_split_111 : decode cX6_split 111 = .ok (.getfield 277, 3) := by decide +kernel
theorem dX6_split_114 : decode cX6_split 114 = .ok (.goto 18, 3) := by decide +kernel
theorem dX6_split_117 : decode cX6_split 117 = .ok (.aload_n 0, 1) := by decide +kernel
theorem dX6_split_118 : decode cX6_split 118 = .ok (.getfield 193, 3) := by decide +kernel
theorem dX6_split_121 : decode cX6_split 121 = .ok (.ifCond .eq 9, 3) := by decide +kernel
theorem dX6_split_124 : decode cX6_split 124 = .ok (.ldc2_w 239, 3) := by decide +kernel
theorem dX6_split_127 : decode cX6_split 127 = .ok (.goto 5, 3) := by decide +kernel
theorem dX6_split_130 : decode cX6_split 130 = .ok (.lload 5, 2) := by decide +kernel
theorem dX6_split_132 : decode cX6_split 132 = .ok (.lreturn, 1) := by decide +kernel
theorem dX6_best_0 : decode cX6_best 0 = .ok (.aload_n 0, 1) := by decide +kernel
theorem dX6_best_1 : decode cX6_best 1 = .ok (.iload_n 1, 1) := by decide +kernel
theorem dX6_best_2 : decode cX6_best 2 = .ok (.invokevirtual 180, 3) := by decide +kernel
theorem dX6_best_5 : decode cX6_best 5 = .ok (.ifCond .eq 15, 3) := by decide +kernel
theorem dX6_best_8 : decode cX6_best 8 = .ok (.iload_n 2, 1) := by decide +kernel
theorem dX6_best_9 : decode cX6_best 9 = .ok (.i2l, 1) := by decide +kernel
theorem dX6_best_10 : decode cX6_best 10 = .ok (.lconst 0, 1) := by decide +kernel
theorem dX6_best_11 : decode cX6_best 11 = .ok (.ldc2_w 105, 3) := by decide +kernel
theorem dX6_best_14 : decode cX6_best 14 = .ok (.invokestatic 97, 3) := by decide +kernel
theorem dX6_best_17 : decode cX6_best 17 = .ok (.ifCond .ne 7, 3) := by decide +kernel
theorem dX6_best_20 : decode cX6_best 20 = .ok (.ldc2_w 198, 3) := by decide +kernel
theorem dX6_best_23 : decode cX6_best 23 = .ok (.lreturn, 1) := by decide +kernel
theorem dX6_best_24 : decode cX6_best 24 = .ok (.aload_n 0, 1) := by decide +kernel
theorem dX6_best_25 : decode cX6_best 25 = .ok (.iload_n 1, 1) := by decide +kernel
theorem dX6_best_26 : decode cX6_best 26 = .ok (.invokevirtual 261, 3) := by decide +kernel
theorem dX6_best_29 : decode cX6_best 29 = .ok (.lstore_n 3, 1) := by decide +kernel
theorem dX6_best_30 : decode cX6_best 30 = .ok (.lload_n 3, 1) := by decide +kernel
theorem dX6_best_31 : decode cX6_best 31 = .ok (.ldc2_w 239, 3) := by decide +kernel
theorem dX6_best_34 : decode cX6_best 34 = .ok (.lcmp, 1) := by decide +kernel
theorem dX6_best_35 : decode cX6_best 35 = .ok (.ifCond .ne 7, 3) := by decide +kernel
theorem dX6_best_38 : decode cX6_best 38 = .ok (.ldc2_w 239, 3) := by decide +kernel
theorem dX6_best_41 : decode cX6_best 41 = .ok (.lreturn, 1) := by decide +kernel
theorem dX6_best_42 : decode cX6_best 42 = .ok (.lload_n 3, 1) := by decide +kernel
theorem dX6_best_43 : decode cX6_best 43 = .ok (.lstore 5, 2) := by decide +kernel
theorem dX6_best_45 : decode cX6_best 45 = .ok (.iconst (-1), 1) := by decide +kernel
theorem dX6_best_46 : decode cX6_best 46 = .ok (.istore 7, 2) := by decide +kernel
theorem dX6_best_48 : decode cX6_best 48 = .ok (.iconst 0, 1) := by decide +kernel
theorem dX6_best_49 : decode cX6_best 49 = .ok (.istore 8, 2) := by decide +kernel
theorem dX6_best_51 : decode cX6_best 51 = .ok (.iconst 0, 1) := by decide +kernel
theorem dX6_best_52 : decode cX6_best 52 = .ok (.istore 9, 2) := by decide +kernel
theorem dX6_best_54 : decode cX6_best 54 = .ok (.iload 9, 2) := by decide +kernel
theorem dX6_best_56 : decode cX6_best 56 = .ok (.bipush 6, 2) := by decide +kernel
theorem dX6_best_58 : decode cX6_best 58 = .ok (.if_icmp .ge 79, 3) := by decide +kernel
theorem dX6_best_61 : decode cX6_best 61 = .ok (.aload_n 0, 1) := by decide +kernel
theorem dX6_best_62 : decode cX6_best 62 = .ok (.iload 9, 2) := by decide +kernel
theorem dX6_best_64 : decode cX6_best 64 = .ok (.iconst 3, 1) := by decide +kernel
theorem dX6_best_65 : decode cX6_best 65 = .ok (.invokevirtual 280, 3) := by decide +kernel
theorem dX6_best_68 : decode cX6_best 68 = .ok (.istore 10, 2) := by decide +kernel
theorem dX6_best_70 : decode cX6_best 70 = .ok (.iload 10, 2) := by decide +kernel
theorem dX6_best_72 : decode cX6_best 72 = .ok (.aload_n 0, 1) := by decide +kernel
theorem dX6_best_73 : decode cX6_best 73 = .ok (.iload 9, 2) := by decide +kernel
theorem dX6_best_75 : decode cX6_best 75 = .ok (.iconst 4, 1) := by decide +kernel
theorem dX6_best_76 : decode cX6_best 76 = .ok (.invokevirtual 280, 3) := by decide +kernel
theorem dX6_best_79 : decode cX6_best 79 = .ok (.if_icmp .gt 52, 3) := by decide +kernel
theorem dX6_best_82 : decode cX6_best 82 = .ok (.aload_n 0, 1) := by decide +kernel
theorem dX6_best_83 : decode cX6_best 83 = .ok (.iload_n 1, 1) := by decide +kernel
theorem dX6_best_84 : decode cX6_best 84 = .ok (.iload 9, 2) := by decide +kernel
theorem dX6_best_86 : decode cX6_best 86 = .ok (.iload 10, 2) := by decide +kernel
theorem dX6_best_88 : decode cX6_best 88 = .ok (.invokevirtual 283, 3) := by decide +kernel
theorem dX6_best_91 : decode cX6_best 91 = .ok (.aload_n 0, 1) := by decide +kernel
theorem dX6_best_92 : decode cX6_best 92 = .ok (.getfield 277, 3) := by decide +kernel
theorem dX6_best_95 : decode cX6_best 95 = .ok (.aload_n 0, 1) := by decide +kernel
theorem dX6_best_96 : decode cX6_best 96 = .ok (.getfield 274, 3) := by decide +kernel
theorem dX6_best_99 : decode cX6_best 99 = .ok (.lsub, 1) := by decide +kernel
theorem dX6_best_100 : decode cX6_best 100 = .ok (.lload 5, 2) := by decide +kernel
theorem dX6_best_102 : decode cX6_best 102 = .ok (.lcmp, 1) := by decide +kernel
theorem dX6_best_103 : decode cX6_best 103 = .ok (.ifCond .ge 22, 3) := by decide +kernel
theorem dX6_best_106 : decode cX6_best 106 = .ok (.aload_n 0, 1) := by decide +kernel
theorem dX6_best_107 : decode cX6_best 107 = .ok (.getfield 277, 3) := by decide +kernel
theorem dX6_best_110 : decode cX6_best 110 = .ok (.aload_n 0, 1) := by decide +kernel
theorem dX6_best_111 : decode cX6_best 111 = .ok (.getfield 274, 3) := by decide +kernel
theorem dX6_best_114 : decode cX6_best 114 = .ok (.lsub, 1) := by decide +kernel
theorem dX6_best_115 : decode cX6_best 115 = .ok (.lstore 5, 2) := by decide +kernel
theorem dX6_best_117 : decode cX6_best 117 = .ok (.iload 9, 2) := by decide +kernel
theorem dX6_best_119 : decode cX6_best 119 = .ok (.istore 7, 2) := by decide +kernel
theorem dX6_best_121 : decode cX6_best 121 = .ok (.iload 10, 2) := by decide +kernel
theorem dX6_best_123 : decode cX6_best 123 = .ok (.istore 8, 2) := by decide +kernel
theorem dX6_best_125 : decode cX6_best 125 = .ok (.iinc 10 1, 3) := by decide +kernel
theorem dX6_best_128 : decode cX6_best 128 = .ok (.goto (-58), 3) := by decide +kernel
theorem dX6_best_131 : decode cX6_best 131 = .ok (.iinc 9 1, 3) := by decide +kernel
theorem dX6_best_134 : decode cX6_best 134 = .ok (.goto (-80), 3) := by decide +kernel
theorem dX6_best_137 : decode cX6_best 137 = .ok (.iload 7, 2) := by decide +kernel
theorem dX6_best_139 : decode cX6_best 139 = .ok (.iconst (-1), 1) := by decide +kernel
theorem dX6_best_140 : decode cX6_best 140 = .ok (.if_icmp .ne 7, 3) := by decide +kernel
theorem dX6_best_143 : decode cX6_best 143 = .ok (.ldc2_w 286, 3) := by decide +kernel
theorem dX6_best_146 : decode cX6_best 146 = .ok (.lreturn, 1) := by decide +kernel
theorem dX6_best_147 : decode cX6_best 147 = .ok (.iload_n 2, 1) := by decide +kernel
theorem dX6_best_148 : decode cX6_best 148 = .ok (.ifCond .ne 9, 3) := by decide +kernel
theorem dX6_best_151 : decode cX6_best 151 = .ok (.iload 7, 2) := by decide +kernel
theorem dX6_best_153 : decode cX6_best 153 = .ok (.i2l, 1) := by decide +kernel
theorem dX6_best_154 : decode cX6_best 154 = .ok (.goto 18, 3) := by decide +kernel
theorem dX6_best_157 : decode cX6_best 157 = .ok (.iload_n 2, 1) := by decide +kernel
theorem dX6_best_158 : decode cX6_best 158 = .ok (.iconst 1, 1) := by decide +kernel
theorem dX6_best_159 : decode cX6_best 159 = .ok (.if_icmp .ne 9, 3) := by decide +kernel
theorem dX6_best_162 : decode cX6_best 162 = .ok (.iload 8, 2) := by decide +kernel
theorem dX6_best_164 : decode cX6_best 164 = .ok (.i2l, 1) := by decide +kernel
theorem dX6_best_165 : decode cX6_best 165 = .ok (.goto 7, 3) := by decide +kernel
theorem dX6_best_168 : decode cX6_best 168 = .ok (.lload_n 3, 1) := by decide +kernel
theorem dX6_best_169 : decode cX6_best 169 = .ok (.lload 5, 2) := by decide +kernel
theorem dX6_best_171 : decode cX6_best 171 = .ok (.lsub, 1) := by decide +kernel
theorem dX6_best_172 : decode cX6_best 172 = .ok (.lreturn, 1) := by decide +kernel
theorem dX6_widest_0 : decode cX6_widest 0 = .ok (.aload_n 0, 1) := by decide +kernel
theorem dX6_widest_1 : decode cX6_widest 1 = .ok (.iload_n 1, 1) := by decide +kernel
theorem dX6_widest_2 : decode cX6_widest 2 = .ok (.invokevirtual 180, 3) := by decide +kernel
theorem dX6_widest_5 : decode cX6_widest 5 = .ok (.ifCond .ne 5, 3) := by decide +kernel
theorem dX6_widest_8 : decode cX6_widest 8 = .ok (.iconst (-1), 1) := by decide +kernel
theorem dX6_widest_9 : decode cX6_widest 9 = .ok (.ireturn, 1) := by decide +kernel
theorem dX6_widest_10 : decode cX6_widest 10 = .ok (.aload_n 0, 1) := by decide +kernel
theorem dX6_widest_11 : decode cX6_widest 11 = .ok (.iload_n 1, 1) := by decide +kernel
theorem dX6_widest_12 : decode cX6_widest 12 = .ok (.invokevirtual 261, 3) := by decide +kernel
theorem dX6_widest_15 : decode cX6_widest 15 = .ok (.ldc2_w 239, 3) := by decide +kernel
theorem dX6_widest_18 : decode cX6_widest 18 = .ok (.lcmp, 1) := by decide +kernel
theorem dX6_widest_19 : decode cX6_widest 19 = .ok (.ifCond .ne 6, 3) := by decide +kernel
theorem dX6_widest_22 : decode cX6_widest 22 = .ok (.bipush (-6), 2) := by decide +kernel
theorem dX6_widest_24 : decode cX6_widest 24 = .ok (.ireturn, 1) := by decide +kernel
theorem dX6_widest_25 : decode cX6_widest 25 = .ok (.bipush (-5), 2) := by decide +kernel
theorem dX6_widest_27 : decode cX6_widest 27 = .ok (.istore_n 2, 1) := by decide +kernel
theorem dX6_widest_28 : decode cX6_widest 28 = .ok (.lconst 0, 1) := by decide +kernel
theorem dX6_widest_29 : decode cX6_widest 29 = .ok (.lstore_n 3, 1) := by decide +kernel
theorem dX6_widest_30 : decode cX6_widest 30 = .ok (.iconst 0, 1) := by decide +kernel
theorem dX6_widest_31 : decode cX6_widest 31 = .ok (.istore 5, 2) := by decide +kernel
theorem dX6_widest_33 : decode cX6_widest 33 = .ok (.iload 5, 2) := by decide +kernel
theorem dX6_widest_35 : decode cX6_widest 35 = .ok (.bipush 6, 2) := by decide +kernel
theorem dX6_widest_37 : decode cX6_widest 37 = .ok (.if_icmp .ge 63, 3) := by decide +kernel
theorem dX6_widest_40 : decode cX6_widest 40 = .ok (.aload_n 0, 1) := by decide +kernel
theorem dX6_widest_41 : decode cX6_widest 41 = .ok (.iload 5, 2) := by decide +kernel
theorem dX6_widest_43 : decode cX6_widest 43 = .ok (.invokevirtual 119, 3) := by decide +kernel
theorem dX6_widest_46 : decode cX6_widest 46 = .ok (.ifCond .ne 6, 3) := by decide +kernel
theorem dX6_widest_49 : decode cX6_widest 49 = .ok (.goto 45, 3) := by decide +kernel
theorem dX6_widest_52 : decode cX6_widest 52 = .ok (.aload_n 0, 1) := by decide +kernel
theorem dX6_widest_53 : decode cX6_widest 53 = .ok (.invokevirtual 233, 3) := by decide +kernel
theorem dX6_widest_56 : decode cX6_widest 56 = .ok (.aload_n 0, 1) := by decide +kernel
theorem dX6_widest_57 : decode cX6_widest 57 = .ok (.iload 5, 2) := by decide +kernel
theorem dX6_widest_59 : decode cX6_widest 59 = .ok (.aload_n 0, 1) := by decide +kernel
theorem dX6_widest_60 : decode cX6_widest 60 = .ok (.iload 5, 2) := by decide +kernel
theorem dX6_widest_62 : decode cX6_widest 62 = .ok (.invokevirtual 115, 3) := by decide +kernel
theorem dX6_widest_65 : decode cX6_widest 65 = .ok (.invokevirtual 264, 3) := by decide +kernel
theorem dX6_widest_68 : decode cX6_widest 68 = .ok (.aload_n 0, 1) := by decide +kernel
theorem dX6_widest_69 : decode cX6_widest 69 = .ok (.iload_n 1, 1) := by decide +kernel
theorem dX6_widest_70 : decode cX6_widest 70 = .ok (.invokevirtual 248, 3) := by decide +kernel
theorem dX6_widest_73 : decode cX6_widest 73 = .ok (.lstore 6, 2) := by decide +kernel
theorem dX6_widest_75 : decode cX6_widest 75 = .ok (.iload_n 2, 1) := by decide +kernel
theorem dX6_widest_76 : decode cX6_widest 76 = .ok (.bipush (-5), 2) := by decide +kernel
theorem dX6_widest_78 : decode cX6_widest 78 = .ok (.if_icmp .eq 10, 3) := by decide +kernel
theorem dX6_widest_81 : decode cX6_widest 81 = .ok (.lload 6, 2) := by decide +kernel
theorem dX6_widest_83 : decode cX6_widest 83 = .ok (.lload_n 3, 1) := by decide +kernel
theorem dX6_widest_84 : decode cX6_widest 84 = .ok (.lcmp, 1) := by decide +kernel
theorem dX6_widest_85 : decode cX6_widest 85 = .ok (.ifCond .ge 9, 3) := by decide +kernel
theorem dX6_widest_88 : decode cX6_widest 88 = .ok (.iload 5, 2) := by decide +kernel
theorem dX6_widest_90 : decode cX6_widest 90 = .ok (.istore_n 2, 1) := by decide +kernel
theorem dX6_widest_91 : decode cX6_widest 91 = .ok (.lload 6, 2) := by decide +kernel
theorem dX6_widest_93 : decode cX6_widest 93 = .ok (.lstore_n 3, 1) := by decide +kernel
theorem dX6_widest_94 : decode cX6_widest 94 = .ok (.iinc 5 1, 3) := by decide +kernel
theorem dX6_widest_97 : decode cX6_widest 97 = .ok (.goto (-64), 3) := by decide +kernel
theorem dX6_widest_100 : decode cX6_widest 100 = .ok (.iload_n 2, 1) := by decide +kernel
theorem dX6_widest_101 : decode cX6_widest 101 = .ok (.ireturn, 1) := by decide +kernel
theorem dX6_again_0 : decode cX6_again 0 = .ok (.aload_n 0, 1) := by decide +kernel
theorem dX6_again_1 : decode cX6_again 1 = .ok (.iload_n 1, 1) := by decide +kernel
theorem dX6_again_2 : decode cX6_again 2 = .ok (.invokevirtual 180, 3) := by decide +kernel
theorem dX6_again_5 : decode cX6_again 5 = .ok (.ifCond .eq 14, 3) := by decide +kernel
theorem dX6_again_8 : decode cX6_again 8 = .ok (.iload 4, 2) := by decide +kernel
theorem dX6_again_10 : decode cX6_again 10 = .ok (.i2l, 1) := by decide +kernel
theorem dX6_again_11 : decode cX6_again 11 = .ok (.lconst 0, 1) := by decide +kernel
theorem dX6_again_12 : decode cX6_again 12 = .ok (.lconst 1, 1) := by decide +kernel
theorem dX6_again_13 : decode cX6_again 13 = .ok (.invokestatic 97, 3) := by decide +kernel
theorem dX6_again_16 : decode cX6_again 16 = .ok (.ifCond .ne 5, 3) := by decide +kernel
theorem dX6_again_19 : decode cX6_again 19 = .ok (.iconst (-1), 1) := by decide +kernel
theorem dX6_again_20 : decode cX6_again 20 = .ok (.ireturn, 1) := by decide +kernel
theorem dX6_again_21 : decode cX6_again 21 = .ok (.aload_n 0, 1) := by decide +kernel
theorem dX6_again_22 : decode cX6_again 22 = .ok (.iload_n 1, 1) := by decide +kernel
theorem dX6_again_23 : decode cX6_again 23 = .ok (.invokevirtual 261, 3) := by decide +kernel
theorem dX6_again_26 : decode cX6_again 26 = .ok (.ldc2_w 239, 3) := by decide +kernel
theorem dX6_again_29 : decode cX6_again 29 = .ok (.lcmp, 1) := by decide +kernel
theorem dX6_again_30 : decode cX6_again 30 = .ok (.ifCond .ne 6, 3) := by decide +kernel
theorem dX6_again_33 : decode cX6_again 33 = .ok (.bipush (-6), 2) := by decide +kernel
theorem dX6_again_35 : decode cX6_again 35 = .ok (.ireturn, 1) := by decide +kernel
theorem dX6_again_36 : decode cX6_again 36 = .ok (.bipush (-5), 2) := by decide +kernel
theorem dX6_again_38 : decode cX6_again 38 = .ok (.istore 5, 2) := by decide +kernel
theorem dX6_again_40 : decode cX6_again 40 = .ok (.iconst 0, 1) := by decide +kernel
theorem dX6_again_41 : decode cX6_again 41 = .ok (.istore 6, 2) := by decide +kernel
theorem dX6_again_43 : decode cX6_again 43 = .ok (.iconst 0, 1) := by decide +kernel
theorem dX6_again_44 : decode cX6_again 44 = .ok (.istore 7, 2) := by decide +kernel
theorem dX6_again_46 : decode cX6_again 46 = .ok (.iload 7, 2) := by decide +kernel
theorem dX6_again_48 : decode cX6_again 48 = .ok (.bipush 64, 2) := by decide +kernel
theorem dX6_again_50 : decode cX6_again 50 = .ok (.if_icmp .ge 127, 3) := by decide +kernel
theorem dX6_again_53 : decode cX6_again 53 = .ok (.iconst 0, 1) := by decide +kernel
theorem dX6_again_54 : decode cX6_again 54 = .ok (.istore 8, 2) := by decide +kernel
theorem dX6_again_56 : decode cX6_again 56 = .ok (.aload_n 0, 1) := by decide +kernel
theorem dX6_again_57 : decode cX6_again 57 = .ok (.invokevirtual 233, 3) := by decide +kernel
theorem dX6_again_60 : decode cX6_again 60 = .ok (.iconst 0, 1) := by decide +kernel
theorem dX6_again_61 : decode cX6_again 61 = .ok (.istore 9, 2) := by decide +kernel
theorem dX6_again_63 : decode cX6_again 63 = .ok (.iload 9, 2) := by decide +kernel
theorem dX6_again_65 : decode cX6_again 65 = .ok (.bipush 6, 2) := by decide +kernel
theorem dX6_again_67 : decode cX6_again 67 = .ok (.if_icmp .ge 72, 3) := by decide +kernel
theorem dX6_again_70 : decode cX6_again 70 = .ok (.iload 7, 2) := by decide +kernel
theorem dX6_again_72 : decode cX6_again 72 = .ok (.iload 9, 2) := by decide +kernel
theorem dX6_again_74 : decode cX6_again 74 = .ok (.ishr, 1) := by decide +kernel
theorem dX6_again_75 : decode cX6_again 75 = .ok (.iconst 1, 1) := by decide +kernel
theorem dX6_again_76 : decode cX6_again 76 = .ok (.iand, 1) := by decide +kernel
theorem dX6_again_77 : decode cX6_again 77 = .ok (.iconst 1, 1) := by decide +kernel
theorem dX6_again_78 : decode cX6_again 78 = .ok (.if_icmp .ne 55, 3) := by decide +kernel
theorem dX6_again_81 : decode cX6_again 81 = .ok (.iload 8, 2) := by decide +kernel
theorem dX6_again_83 : decode cX6_again 83 = .ok (.aload_n 0, 1) := by decide +kernel
theorem dX6_again_84 : decode cX6_again 84 = .ok (.getfield 11, 3) := by decide +kernel
theorem dX6_again_87 : decode cX6_again 87 = .ok (.iconst 3, 1) := by decide +kernel
theorem dX6_again_88 : decode cX6_again 88 = .ok (.iload 9, 2) := by decide +kernel
theorem dX6_again_90 : decode cX6_again 90 = .ok (.imul, 1) := by decide +kernel
theorem dX6_again_91 : decode cX6_again 91 = .ok (.iconst 2, 1) := by decide +kernel
theorem dX6_again_92 : decode cX6_again 92 = .ok (.iadd, 1) := by decide +kernel
theorem dX6_again_93 : decode cX6_again 93 = .ok (.iaload, 1) := by decide +kernel
theorem dX6_again_94 : decode cX6_again 94 = .ok (.iadd, 1) := by decide +kernel
theorem dX6_again_95 : decode cX6_again 95 = .ok (.istore 8, 2) := by decide +kernel
theorem dX6_again_97 : decode cX6_again 97 = .ok (.aload_n 0, 1) := by decide +kernel
theorem dX6_again_98 : decode cX6_again 98 = .ok (.iload 9, 2) := by decide +kernel
theorem dX6_again_100 : decode cX6_again 100 = .ok (.aload_n 0, 1) := by decide +kernel
theorem dX6_again_101 : decode cX6_again 101 = .ok (.iload 9, 2) := by decide +kernel
theorem dX6_again_103 : decode cX6_again 103 = .ok (.invokevirtual 115, 3) := by decide +kernel
theorem dX6_again_106 : decode cX6_again 106 = .ok (.aload_n 0, 1) := by decide +kernel
theorem dX6_again_107 : decode cX6_again 107 = .ok (.iload 9, 2) := by decide +kernel
theorem dX6_again_109 : decode cX6_again 109 = .ok (.invokevirtual 119, 3) := by decide +kernel
theorem dX6_again_112 : decode cX6_again 112 = .ok (.iconst 2, 1) := by decide +kernel
theorem dX6_again_113 : decode cX6_again 113 = .ok (.idiv, 1) := by decide +kernel
theorem dX6_again_114 : decode cX6_again 114 = .ok (.isub, 1) := by decide +kernel
theorem dX6_again_115 : decode cX6_again 115 = .ok (.aload_n 0, 1) := by decide +kernel
theorem dX6_again_116 : decode cX6_again 116 = .ok (.iload 9, 2) := by decide +kernel
theorem dX6_again_118 : decode cX6_again 118 = .ok (.invokevirtual 115, 3) := by decide +kernel
theorem dX6_again_121 : decode cX6_again 121 = .ok (.aload_n 0, 1) := by decide +kernel
theorem dX6_again_122 : decode cX6_again 122 = .ok (.iload 9, 2) := by decide +kernel
theorem dX6_again_124 : decode cX6_again 124 = .ok (.invokevirtual 119, 3) := by decide +kernel
theorem dX6_again_127 : decode cX6_again 127 = .ok (.iconst 2, 1) := by decide +kernel
theorem dX6_again_128 : decode cX6_again 128 = .ok (.idiv, 1) := by decide +kernel
theorem dX6_again_129 : decode cX6_again 129 = .ok (.iadd, 1) := by decide +kernel
theorem dX6_again_130 : decode cX6_again 130 = .ok (.invokevirtual 200, 3) := by decide +kernel
theorem dX6_again_133 : decode cX6_again 133 = .ok (.iinc 9 1, 3) := by decide +kernel
theorem dX6_again_136 : decode cX6_again 136 = .ok (.goto (-73), 3) := by decide +kernel
theorem dX6_again_139 : decode cX6_again 139 = .ok (.aload_n 0, 1) := by decide +kernel
theorem dX6_again_140 : decode cX6_again 140 = .ok (.iload_n 1, 1) := by decide +kernel
theorem dX6_again_141 : decode cX6_again 141 = .ok (.invokevirtual 248, 3) := by decide +kernel
theorem dX6_again_144 : decode cX6_again 144 = .ok (.lload_n 2, 1) := by decide +kernel
theorem dX6_again_145 : decode cX6_again 145 = .ok (.lcmp, 1) := by decide +kernel
theorem dX6_again_146 : decode cX6_again 146 = .ok (.ifCond .gt 25, 3) := by decide +kernel
theorem dX6_again_149 : decode cX6_again 149 = .ok (.iload 5, 2) := by decide +kernel
theorem dX6_again_151 : decode cX6_again 151 = .ok (.bipush (-5), 2) := by decide +kernel
theorem dX6_again_153 : decode cX6_again 153 = .ok (.if_icmp .eq 10, 3) := by decide +kernel
theorem dX6_again_156 : decode cX6_again 156 = .ok (.iload 8, 2) := by decide +kernel
theorem dX6_again_158 : decode cX6_again 158 = .ok (.iload 6, 2) := by decide +kernel
theorem dX6_again_160 : decode cX6_again 160 = .ok (.if_icmp .ge 11, 3) := by decide +kernel
theorem dX6_again_163 : decode cX6_again 163 = .ok (.iload 7, 2) := by decide +kernel
theorem dX6_again_165 : decode cX6_again 165 = .ok (.istore 5, 2) := by decide +kernel
theorem dX6_again_167 : decode cX6_again 167 = .ok (.iload 8, 2) := by decide +kernel
theorem dX6_again_169 : decode cX6_again 169 = .ok (.istore 6, 2) := by decide +kernel
theorem dX6_again_171 : decode cX6_again 171 = .ok (.iinc 7 1, 3) := by decide +kernel
theorem dX6_again_174 : decode cX6_again 174 = .ok (.goto (-128), 3) := by decide +kernel
theorem dX6_again_177 : decode cX6_again 177 = .ok (.iload 5, 2) := by decide +kernel
theorem dX6_again_179 : decode cX6_again 179 = .ok (.bipush (-5), 2) := by decide +kernel
theorem dX6_again_181 : decode cX6_again 181 = .ok (.if_icmp .eq 8, 3) := by decide +kernel
theorem dX6_again_184 : decode cX6_again 184 = .ok (.iload 4, 2) := by decide +kernel
theorem dX6_again_186 : decode cX6_again 186 = .ok (.ifCond .ne 8, 3) := by decide +kernel
theorem dX6_again_189 : decode cX6_again 189 = .ok (.iload 5, 2) := by decide +kernel
theorem dX6_again_191 : decode cX6_again 191 = .ok (.goto 5, 3) := by decide +kernel
theorem dX6_again_194 : decode cX6_again 194 = .ok (.iload 6, 2) := by decide +kernel
theorem dX6_again_196 : decode cX6_again 196 = .ok (.ireturn, 1) := by decide +kernel
theorem dX6_fits_0 : decode cX6_fits 0 = .ok (.aload_n 0, 1) := by decide +kernel
theorem dX6_fits_1 : decode cX6_fits 1 = .ok (.iload_n 1, 1) := by decide +kernel
theorem dX6_fits_2 : decode cX6_fits 2 = .ok (.invokevirtual 180, 3) := by decide +kernel
theorem dX6_fits_5 : decode cX6_fits 5 = .ok (.ifCond .eq 21, 3) := by decide +kernel
theorem dX6_fits_8 : decode cX6_fits 8 = .ok (.iload_n 2, 1) := by decide +kernel
theorem dX6_fits_9 : decode cX6_fits 9 = .ok (.invokestatic 101, 3) := by decide +kernel
theorem dX6_fits_12 : decode cX6_fits 12 = .ok (.ifCond .eq 14, 3) := by decide +kernel
theorem dX6_fits_15 : decode cX6_fits 15 = .ok (.iload 5, 2) := by decide +kernel
theorem dX6_fits_17 : decode cX6_fits 17 = .ok (.i2l, 1) := by decide +kernel
theorem dX6_fits_18 : decode cX6_fits 18 = .ok (.lconst 0, 1) := by decide +kernel
theorem dX6_fits_19 : decode cX6_fits 19 = .ok (.lconst 1, 1) := by decide +kernel
theorem dX6_fits_20 : decode cX6_fits 20 = .ok (.invokestatic 97, 3) := by decide +kernel
theorem dX6_fits_23 : decode cX6_fits 23 = .ok (.ifCond .ne 5, 3) := by decide +kernel
theorem dX6_fits_26 : decode cX6_fits 26 = .ok (.iconst (-1), 1) := by decide +kernel
theorem dX6_fits_27 : decode cX6_fits 27 = .ok (.ireturn, 1) := by decide +kernel
theorem dX6_fits_28 : decode cX6_fits 28 = .ok (.iconst 0, 1) := by decide +kernel
theorem dX6_fits_29 : decode cX6_fits 29 = .ok (.istore 6, 2) := by decide +kernel
theorem dX6_fits_31 : decode cX6_fits 31 = .ok (.sipush (-1000), 3) := by decide +kernel
theorem dX6_fits_34 : decode cX6_fits 34 = .ok (.istore 7, 2) := by decide +kernel
theorem dX6_fits_36 : decode cX6_fits 36 = .ok (.bipush 99, 2) := by decide +kernel
theorem dX6_fits_38 : decode cX6_fits 38 = .ok (.istore 8, 2) := by decide +kernel
theorem dX6_fits_40 : decode cX6_fits 40 = .ok (.iload 8, 2) := by decide +kernel
theorem dX6_fits_42 : decode cX6_fits 42 = .ok (.bipush (-99), 2) := by decide +kernel
theorem dX6_fits_44 : decode cX6_fits 44 = .ok (.if_icmp .lt 66, 3) := by decide +kernel
theorem dX6_fits_47 : decode cX6_fits 47 = .ok (.aload_n 0, 1) := by decide +kernel
theorem dX6_fits_48 : decode cX6_fits 48 = .ok (.invokevirtual 233, 3) := by decide +kernel
theorem dX6_fits_51 : decode cX6_fits 51 = .ok (.aload_n 0, 1) := by decide +kernel
theorem dX6_fits_52 : decode cX6_fits 52 = .ok (.iload_n 2, 1) := by decide +kernel
theorem dX6_fits_53 : decode cX6_fits 53 = .ok (.iload 8, 2) := by decide +kernel
theorem dX6_fits_55 : decode cX6_fits 55 = .ok (.aload_n 0, 1) := by decide +kernel
theorem dX6_fits_56 : decode cX6_fits 56 = .ok (.iload_n 2, 1) := by decide +kernel
theorem dX6_fits_57 : decode cX6_fits 57 = .ok (.invokevirtual 119, 3) := by decide +kernel
theorem dX6_fits_60 : decode cX6_fits 60 = .ok (.isub, 1) := by decide +kernel
theorem dX6_fits_61 : decode cX6_fits 61 = .ok (.iload 8, 2) := by decide +kernel
theorem dX6_fits_63 : decode cX6_fits 63 = .ok (.aload_n 0, 1) := by decide +kernel
theorem dX6_fits_64 : decode cX6_fits 64 = .ok (.iload_n 2, 1) := by decide +kernel
theorem dX6_fits_65 : decode cX6_fits 65 = .ok (.invokevirtual 119, 3) := by decide +kernel
theorem dX6_fits_68 : decode cX6_fits 68 = .ok (.iadd, 1) := by decide +kernel
theorem dX6_fits_69 : decode cX6_fits 69 = .ok (.invokevirtual 200, 3) := by decide +kernel
theorem dX6_fits_72 : decode cX6_fits 72 = .ok (.aload_n 0, 1) := by decide +kernel
theorem dX6_fits_73 : decode cX6_fits 73 = .ok (.iload_n 1, 1) := by decide +kernel
theorem dX6_fits_74 : decode cX6_fits 74 = .ok (.invokevirtual 236, 3) := by decide +kernel
theorem dX6_fits_77 : decode cX6_fits 77 = .ok (.ifCond .eq 27, 3) := by decide +kernel
theorem dX6_fits_80 : decode cX6_fits 80 = .ok (.lload_n 3, 1) := by decide +kernel
theorem dX6_fits_81 : decode cX6_fits 81 = .ok (.aload_n 0, 1) := by decide +kernel
theorem dX6_fits_82 : decode cX6_fits 82 = .ok (.iload_n 1, 1) := by decide +kernel
theorem dX6_fits_83 : decode cX6_fits 83 = .ok (.invokevirtual 245, 3) := by decide +kernel
theorem dX6_fits_86 : decode cX6_fits 86 = .ok (.aload_n 0, 1) := by decide +kernel
theorem dX6_fits_87 : decode cX6_fits 87 = .ok (.iload_n 1, 1) := by decide +kernel
theorem dX6_fits_88 : decode cX6_fits 88 = .ok (.invokevirtual 241, 3) := by decide +kernel
theorem dX6_fits_91 : decode cX6_fits 91 = .ok (.invokestatic 97, 3) := by decide +kernel
theorem dX6_fits_94 : decode cX6_fits 94 = .ok (.ifCond .eq 10, 3) := by decide +kernel
theorem dX6_fits_97 : decode cX6_fits 97 = .ok (.iinc 6 1, 3) := by decide +kernel
theorem dX6_fits_100 : decode cX6_fits 100 = .ok (.iload 8, 2) := by decide +kernel
theorem dX6_fits_102 : decode cX6_fits 102 = .ok (.istore 7, 2) := by decide +kernel
theorem dX6_fits_104 : decode cX6_fits 104 = .ok (.iinc 8 (-1), 3) := by decide +kernel
theorem dX6_fits_107 : decode cX6_fits 107 = .ok (.goto (-67), 3) := by decide +kernel
theorem dX6_fits_110 : decode cX6_fits 110 = .ok (.iload 5, 2) := by decide +kernel
theorem dX6_fits_112 : decode cX6_fits 112 = .ok (.ifCond .ne 8, 3) := by decide +kernel
theorem dX6_fits_115 : decode cX6_fits 115 = .ok (.iload 6, 2) := by decide +kernel
theorem dX6_fits_117 : decode cX6_fits 117 = .ok (.goto 5, 3) := by decide +kernel
theorem dX6_fits_120 : decode cX6_fits 120 = .ok (.iload 7, 2) := by decide +kernel
theorem dX6_fits_122 : decode cX6_fits 122 = .ok (.ireturn, 1) := by decide +kernel
theorem dX6_lowest_0 : decode cX6_lowest 0 = .ok (.lload_n 0, 1) := by decide +kernel
theorem dX6_lowest_1 : decode cX6_lowest 1 = .ok (.lstore 5, 2) := by decide +kernel
theorem dX6_lowest_3 : decode cX6_lowest 3 = .ok (.lload_n 2, 1) := by decide +kernel
theorem dX6_lowest_4 : decode cX6_lowest 4 = .ok (.lstore 7, 2) := by decide +kernel
theorem dX6_lowest_6 : decode cX6_lowest 6 = .ok (.lload 7, 2) := by decide +kernel
theorem dX6_lowest_8 : decode cX6_lowest 8 = .ok (.lconst 0, 1) := by decide +kernel
theorem dX6_lowest_9 : decode cX6_lowest 9 = .ok (.lcmp, 1) := by decide +kernel
theorem dX6_lowest_10 : decode cX6_lowest 10 = .ok (.ifCond .eq 21, 3) := by decide +kernel
theorem dX6_lowest_13 : decode cX6_lowest 13 = .ok (.lload 5, 2) := by decide +kernel
theorem dX6_lowest_15 : decode cX6_lowest 15 = .ok (.lload 7, 2) := by decide +kernel
theorem dX6_lowest_17 : decode cX6_lowest 17 = .ok (.lrem, 1) := by decide +kernel
theorem dX6_lowest_18 : decode cX6_lowest 18 = .ok (.lstore 9, 2) := by decide +kernel
theorem dX6_lowest_20 : decode cX6_lowest 20 = .ok (.lload 7, 2) := by decide +kernel
theorem dX6_lowest_22 : decode cX6_lowest 22 = .ok (.lstore 5, 2) := by decide +kernel
theorem dX6_lowest_24 : decode cX6_lowest 24 = .ok (.lload 9, 2) := by decide +kernel
theorem dX6_lowest_26 : decode cX6_lowest 26 = .ok (.lstore 7, 2) := by decide +kernel
theorem dX6_lowest_28 : decode cX6_lowest 28 = .ok (.goto (-22), 3) := by decide +kernel
theorem dX6_lowest_31 : decode cX6_lowest 31 = .ok (.iload 4, 2) := by decide +kernel
theorem dX6_lowest_33 : decode cX6_lowest 33 = .ok (.ifCond .ne 7, 3) := by decide +kernel
theorem dX6_lowest_36 : decode cX6_lowest 36 = .ok (.lload_n 0, 1) := by decide +kernel
theorem dX6_lowest_37 : decode cX6_lowest 37 = .ok (.goto 4, 3) := by decide +kernel
theorem dX6_lowest_40 : decode cX6_lowest 40 = .ok (.lload_n 2, 1) := by decide +kernel
theorem dX6_lowest_41 : decode cX6_lowest 41 = .ok (.lload 5, 2) := by decide +kernel
theorem dX6_lowest_43 : decode cX6_lowest 43 = .ok (.ldiv, 1) := by decide +kernel
theorem dX6_lowest_44 : decode cX6_lowest 44 = .ok (.lreturn, 1) := by decide +kernel
theorem dX6_odds_0 : decode cX6_odds 0 = .ok (.aload_n 0, 1) := by decide +kernel
theorem dX6_odds_1 : decode cX6_odds 1 = .ok (.iload_n 1, 1) := by decide +kernel
theorem dX6_odds_2 : decode cX6_odds 2 = .ok (.invokevirtual 180, 3) := by decide +kernel
theorem dX6_odds_5 : decode cX6_odds 5 = .ok (.ifCond .eq 26, 3) := by decide +kernel
theorem dX6_odds_8 : decode cX6_odds 8 = .ok (.iload_n 3, 1) := by decide +kernel
theorem dX6_odds_9 : decode cX6_odds 9 = .ok (.i2l, 1) := by decide +kernel
theorem dX6_odds_10 : decode cX6_odds 10 = .ok (.lconst 1, 1) := by decide +kernel
theorem dX6_odds_11 : decode cX6_odds 11 = .ok (.ldc2_w 288, 3) := by decide +kernel
theorem dX6_odds_14 : decode cX6_odds 14 = .ok (.invokestatic 97, 3) := by decide +kernel
theorem dX6_odds_17 : decode cX6_odds 17 = .ok (.ifCond .eq 14, 3) := by decide +kernel
theorem dX6_odds_20 : decode cX6_odds 20 = .ok (.iload 8, 2) := by decide +kernel
theorem dX6_odds_22 : decode cX6_odds 22 = .ok (.i2l, 1) := by decide +kernel
theorem dX6_odds_23 : decode cX6_odds 23 = .ok (.lconst 0, 1) := by decide +kernel
theorem dX6_odds_24 : decode cX6_odds 24 = .ok (.lconst 1, 1) := by decide +kernel
theorem dX6_odds_25 : decode cX6_odds 25 = .ok (.invokestatic 97, 3) := by decide +kernel
theorem dX6_odds_28 : decode cX6_odds 28 = .ok (.ifCond .ne 7, 3) := by decide +kernel
theorem dX6_odds_31 : decode cX6_odds 31 = .ok (.ldc2_w 198, 3) := by decide +kernel
theorem dX6_odds_34 : decode cX6_odds 34 = .ok (.lreturn, 1) := by decide +kernel
theorem dX6_odds_35 : decode cX6_odds 35 = .ok (.aload_n 0, 1) := by decide +kernel
theorem dX6_odds_36 : decode cX6_odds 36 = .ok (.iload_n 1, 1) := by decide +kernel
theorem dX6_odds_37 : decode cX6_odds 37 = .ok (.invokevirtual 254, 3) := by decide +kernel
theorem dX6_odds_40 : decode cX6_odds 40 = .ok (.ifCond .ne 7, 3) := by decide +kernel
theorem dX6_odds_43 : decode cX6_odds 43 = .ok (.ldc2_w 239, 3) := by decide +kernel
theorem dX6_odds_46 : decode cX6_odds 46 = .ok (.lreturn, 1) := by decide +kernel
theorem dX6_odds_47 : decode cX6_odds 47 = .ok (.iconst 0, 1) := by decide +kernel
theorem dX6_odds_48 : decode cX6_odds 48 = .ok (.istore 9, 2) := by decide +kernel
theorem dX6_odds_50 : decode cX6_odds 50 = .ok (.iconst 0, 1) := by decide +kernel
theorem dX6_odds_51 : decode cX6_odds 51 = .ok (.istore 10, 2) := by decide +kernel
theorem dX6_odds_53 : decode cX6_odds 53 = .ok (.iload 10, 2) := by decide +kernel
theorem dX6_odds_55 : decode cX6_odds 55 = .ok (.iload_n 3, 1) := by decide +kernel
theorem dX6_odds_56 : decode cX6_odds 56 = .ok (.if_icmp .ge 116, 3) := by decide +kernel
theorem dX6_odds_59 : decode cX6_odds 59 = .ok (.iload_n 2, 1) := by decide +kernel
theorem dX6_odds_60 : decode cX6_odds 60 = .ok (.iload 10, 2) := by decide +kernel
theorem dX6_odds_62 : decode cX6_odds 62 = .ok (.iadd, 1) := by decide +kernel
theorem dX6_odds_63 : decode cX6_odds 63 = .ok (.istore 11, 2) := by decide +kernel
theorem dX6_odds_65 : decode cX6_odds 65 = .ok (.iconst 0, 1) := by decide +kernel
theorem dX6_odds_66 : decode cX6_odds 66 = .ok (.istore 12, 2) := by decide +kernel
theorem dX6_odds_68 : decode cX6_odds 68 = .ok (.iload 12, 2) := by decide +kernel
theorem dX6_odds_70 : decode cX6_odds 70 = .ok (.bipush 6, 2) := by decide +kernel
theorem dX6_odds_72 : decode cX6_odds 72 = .ok (.if_icmp .ge 62, 3) := by decide +kernel
theorem dX6_odds_75 : decode cX6_odds 75 = .ok (.iload 11, 2) := by decide +kernel
theorem dX6_odds_77 : decode cX6_odds 77 = .ok (.ldc_w 290, 3) := by decide +kernel
theorem dX6_odds_80 : decode cX6_odds 80 = .ok (.imul, 1) := by decide +kernel
theorem dX6_odds_81 : decode cX6_odds 81 = .ok (.sipush 12345, 3) := by decide +kernel
theorem dX6_odds_84 : decode cX6_odds 84 = .ok (.iadd, 1) := by decide +kernel
theorem dX6_odds_85 : decode cX6_odds 85 = .ok (.istore 11, 2) := by decide +kernel
theorem dX6_odds_87 : decode cX6_odds 87 = .ok (.aload_n 0, 1) := by decide +kernel
theorem dX6_odds_88 : decode cX6_odds 88 = .ok (.iload 12, 2) := by decide +kernel
theorem dX6_odds_90 : decode cX6_odds 90 = .ok (.aload_n 0, 1) := by decide +kernel
theorem dX6_odds_91 : decode cX6_odds 91 = .ok (.iload 12, 2) := by decide +kernel
theorem dX6_odds_93 : decode cX6_odds 93 = .ok (.invokevirtual 115, 3) := by decide +kernel
theorem dX6_odds_96 : decode cX6_odds 96 = .ok (.aload_n 0, 1) := by decide +kernel
theorem dX6_odds_97 : decode cX6_odds 97 = .ok (.iload 12, 2) := by decide +kernel
theorem dX6_odds_99 : decode cX6_odds 99 = .ok (.invokevirtual 119, 3) := by decide +kernel
theorem dX6_odds_102 : decode cX6_odds 102 = .ok (.isub, 1) := by decide +kernel
theorem dX6_odds_103 : decode cX6_odds 103 = .ok (.iload 11, 2) := by decide +kernel
theorem dX6_odds_105 : decode cX6_odds 105 = .ok (.ldc_w 291, 3) := by decide +kernel
theorem dX6_odds_108 : decode cX6_odds 108 = .ok (.iand, 1) := by decide +kernel
theorem dX6_odds_109 : decode cX6_odds 109 = .ok (.ldc_w 292, 3) := by decide +kernel
theorem dX6_odds_112 : decode cX6_odds 112 = .ok (.idiv, 1) := by decide +kernel
theorem dX6_odds_113 : decode cX6_odds 113 = .ok (.iconst 2, 1) := by decide +kernel
theorem dX6_odds_114 : decode cX6_odds 114 = .ok (.aload_n 0, 1) := by decide +kernel
theorem dX6_odds_115 : decode cX6_odds 115 = .ok (.iload 12, 2) := by decide +kernel
theorem dX6_odds_117 : decode cX6_odds 117 = .ok (.invokevirtual 119, 3) := by decide +kernel
theorem dX6_odds_120 : decode cX6_odds 120 = .ok (.imul, 1) := by decide +kernel
theorem dX6_odds_121 : decode cX6_odds 121 = .ok (.iconst 1, 1) := by decide +kernel
theorem dX6_odds_122 : decode cX6_odds 122 = .ok (.iadd, 1) := by decide +kernel
theorem dX6_odds_123 : decode cX6_odds 123 = .ok (.irem, 1) := by decide +kernel
theorem dX6_odds_124 : decode cX6_odds 124 = .ok (.iadd, 1) := by decide +kernel
theorem dX6_odds_125 : decode cX6_odds 125 = .ok (.invokevirtual 264, 3) := by decide +kernel
theorem dX6_odds_128 : decode cX6_odds 128 = .ok (.iinc 12 1, 3) := by decide +kernel
theorem dX6_odds_131 : decode cX6_odds 131 = .ok (.goto (-63), 3) := by decide +kernel
theorem dX6_odds_134 : decode cX6_odds 134 = .ok (.aload_n 0, 1) := by decide +kernel
theorem dX6_odds_135 : decode cX6_odds 135 = .ok (.iload_n 1, 1) := by decide +kernel
theorem dX6_odds_136 : decode cX6_odds 136 = .ok (.invokevirtual 236, 3) := by decide +kernel
theorem dX6_odds_139 : decode cX6_odds 139 = .ok (.istore 12, 2) := by decide +kernel
theorem dX6_odds_141 : decode cX6_odds 141 = .ok (.iload 9, 2) := by decide +kernel
theorem dX6_odds_143 : decode cX6_odds 143 = .ok (.aload_n 0, 1) := by decide +kernel
theorem dX6_odds_144 : decode cX6_odds 144 = .ok (.iload_n 1, 1) := by decide +kernel
theorem dX6_odds_145 : decode cX6_odds 145 = .ok (.invokevirtual 245, 3) := by decide +kernel
theorem dX6_odds_148 : decode cX6_odds 148 = .ok (.lload 4, 2) := by decide +kernel
theorem dX6_odds_150 : decode cX6_odds 150 = .ok (.lload 6, 2) := by decide +kernel
theorem dX6_odds_152 : decode cX6_odds 152 = .ok (.invokestatic 97, 3) := by decide +kernel
theorem dX6_odds_155 : decode cX6_odds 155 = .ok (.ifCond .eq 7, 3) := by decide +kernel
theorem dX6_odds_158 : decode cX6_odds 158 = .ok (.iconst 1, 1) := by decide +kernel
theorem dX6_odds_159 : decode cX6_odds 159 = .ok (.goto 4, 3) := by decide +kernel
theorem dX6_odds_162 : decode cX6_odds 162 = .ok (.iconst 0, 1) := by decide +kernel
theorem dX6_odds_163 : decode cX6_odds 163 = .ok (.iadd, 1) := by decide +kernel
theorem dX6_odds_164 : decode cX6_odds 164 = .ok (.istore 9, 2) := by decide +kernel
theorem dX6_odds_166 : decode cX6_odds 166 = .ok (.iinc 10 1, 3) := by decide +kernel
theorem dX6_odds_169 : decode cX6_odds 169 = .ok (.goto (-116), 3) := by decide +kernel
theorem dX6_odds_172 : decode cX6_odds 172 = .ok (.iload 9, 2) := by decide +kernel
theorem dX6_odds_174 : decode cX6_odds 174 = .ok (.i2l, 1) := by decide +kernel
theorem dX6_odds_175 : decode cX6_odds 175 = .ok (.iload_n 3, 1) := by decide +kernel
theorem dX6_odds_176 : decode cX6_odds 176 = .ok (.i2l, 1) := by decide +kernel
theorem dX6_odds_177 : decode cX6_odds 177 = .ok (.iload 8, 2) := by decide +kernel
theorem dX6_odds_179 : decode cX6_odds 179 = .ok (.invokestatic 293, 3) := by decide +kernel
theorem dX6_odds_182 : decode cX6_odds 182 = .ok (.lreturn, 1) := by decide +kernel
theorem dX6_plan_0 : decode cX6_plan 0 = .ok (.iload_n 1, 1) := by decide +kernel
theorem dX6_plan_1 : decode cX6_plan 1 = .ok (.iconst (-1), 1) := by decide +kernel
theorem dX6_plan_2 : decode cX6_plan 2 = .ok (.if_icmp .ne 10, 3) := by decide +kernel
theorem dX6_plan_5 : decode cX6_plan 5 = .ok (.aload_n 0, 1) := by decide +kernel
theorem dX6_plan_6 : decode cX6_plan 6 = .ok (.iconst 0, 1) := by decide +kernel
theorem dX6_plan_7 : decode cX6_plan 7 = .ok (.putfield 297, 3) := by decide +kernel
theorem dX6_plan_10 : decode cX6_plan 10 = .ok (.iconst 0, 1) := by decide +kernel
theorem dX6_plan_11 : decode cX6_plan 11 = .ok (.ireturn, 1) := by decide +kernel
theorem dX6_plan_12 : decode cX6_plan 12 = .ok (.iload_n 1, 1) := by decide +kernel
theorem dX6_plan_13 : decode cX6_plan 13 = .ok (.invokestatic 101, 3) := by decide +kernel
theorem dX6_plan_16 : decode cX6_plan 16 = .ok (.ifCond .eq 15, 3) := by decide +kernel
theorem dX6_plan_19 : decode cX6_plan 19 = .ok (.iload_n 2, 1) := by decide +kernel
theorem dX6_plan_20 : decode cX6_plan 20 = .ok (.i2l, 1) := by decide +kernel
theorem dX6_plan_21 : decode cX6_plan 21 = .ok (.lconst 0, 1) := by decide +kernel
theorem dX6_plan_22 : decode cX6_plan 22 = .ok (.ldc2_w 105, 3) := by decide +kernel
theorem dX6_plan_25 : decode cX6_plan 25 = .ok (.invokestatic 97, 3) := by decide +kernel
theorem dX6_plan_28 : decode cX6_plan 28 = .ok (.ifCond .ne 5, 3) := by decide +kernel
theorem dX6_plan_31 : decode cX6_plan 31 = .ok (.iconst (-1), 1) := by decide +kernel
theorem dX6_plan_32 : decode cX6_plan 32 = .ok (.ireturn, 1) := by decide +kernel
theorem dX6_plan_33 : decode cX6_plan 33 = .ok (.iload_n 2, 1) := by decide +kernel
theorem dX6_plan_34 : decode cX6_plan 34 = .ok (.ifCond .ne 20, 3) := by decide +kernel
theorem dX6_plan_37 : decode cX6_plan 37 = .ok (.iload_n 3, 1) := by decide +kernel
theorem dX6_plan_38 : decode cX6_plan 38 = .ok (.i2l, 1) := by decide +kernel
theorem dX6_plan_39 : decode cX6_plan 39 = .ok (.ldc2_w 107, 3) := by decide +kernel
theorem dX6_plan_42 : decode cX6_plan 42 = .ok (.ldc2_w 109, 3) := by decide +kernel
theorem dX6_plan_45 : decode cX6_plan 45 = .ok (.invokestatic 97, 3) := by decide +kernel
theorem dX6_plan_48 : decode cX6_plan 48 = .ok (.ifCond .eq 38, 3) := by decide +kernel
theorem dX6_plan_51 : decode cX6_plan 51 = .ok (.goto 38, 3) := by decide +kernel
theorem dX6_plan_54 : decode cX6_plan 54 = .ok (.iload_n 2, 1) := by decide +kernel
theorem dX6_plan_55 : decode cX6_plan 55 = .ok (.iconst 1, 1) := by decide +kernel
theorem dX6_plan_56 : decode cX6_plan 56 = .ok (.if_icmp .ne 18, 3) := by decide +kernel
theorem dX6_plan_59 : decode cX6_plan 59 = .ok (.iload_n 3, 1) := by decide +kernel
theorem dX6_plan_60 : decode cX6_plan 60 = .ok (.i2l, 1) := by decide +kernel
theorem dX6_plan_61 : decode cX6_plan 61 = .ok (.lconst 0, 1) := by decide +kernel
theorem dX6_plan_62 : decode cX6_plan 62 = .ok (.ldc2_w 111, 3) := by decide +kernel
theorem dX6_plan_65 : decode cX6_plan 65 = .ok (.invokestatic 97, 3) := by decide +kernel
theorem dX6_plan_68 : decode cX6_plan 68 = .ok (.ifCond .eq 18, 3) := by decide +kernel
theorem dX6_plan_71 : decode cX6_plan 71 = .ok (.goto 18, 3) := by decide +kernel
theorem dX6_plan_74 : decode cX6_plan 74 = .ok (.iload_n 3, 1) := by decide +kernel
theorem dX6_plan_75 : decode cX6_plan 75 = .ok (.i2l, 1) := by decide +kernel
theorem dX6_plan_76 : decode cX6_plan 76 = .ok (.lconst 0, 1) := by decide +kernel
theorem dX6_plan_77 : decode cX6_plan 77 = .ok (.ldc2_w 113, 3) := by decide +kernel
theorem dX6_plan_80 : decode cX6_plan 80 = .ok (.invokestatic 97, 3) := by decide +kernel
theorem dX6_plan_83 : decode cX6_plan 83 = .ok (.ifCond .ne 6, 3) := by decide +kernel
theorem dX6_plan_86 : decode cX6_plan 86 = .ok (.bipush (-2), 2) := by decide +kernel
theorem dX6_plan_88 : decode cX6_plan 88 = .ok (.ireturn, 1) := by decide +kernel
theorem dX6_plan_89 : decode cX6_plan 89 = .ok (.aload_n 0, 1) := by decide +kernel
theorem dX6_plan_90 : decode cX6_plan 90 = .ok (.getfield 297, 3) := by decide +kernel
theorem dX6_plan_93 : decode cX6_plan 93 = .ok (.bipush 8, 2) := by decide +kernel
theorem dX6_plan_95 : decode cX6_plan 95 = .ok (.if_icmp .ne 6, 3) := by decide +kernel
theorem dX6_plan_98 : decode cX6_plan 98 = .ok (.bipush (-4), 2) := by decide +kernel
theorem dX6_plan_100 : decode cX6_plan 100 = .ok (.ireturn, 1) := by decide +kernel
theorem dX6_plan_101 : decode cX6_plan 101 = .ok (.aload_n 0, 1) := by decide +kernel
theorem dX6_plan_102 : decode cX6_plan 102 = .ok (.getfield 80, 3) := by decide +kernel
theorem dX6_plan_105 : decode cX6_plan 105 = .ok (.iconst 3, 1) := by decide +kernel
theorem dX6_plan_106 : decode cX6_plan 106 = .ok (.aload_n 0, 1) := by decide +kernel
theorem dX6_plan_107 : decode cX6_plan 107 = .ok (.getfield 297, 3) := by decide +kernel
theorem dX6_plan_110 : decode cX6_plan 110 = .ok (.imul, 1) := by decide +kernel
theorem dX6_plan_111 : decode cX6_plan 111 = .ok (.iload_n 1, 1) := by decide +kernel
theorem dX6_plan_112 : decode cX6_plan 112 = .ok (.iastore, 1) := by decide +kernel
theorem dX6_plan_113 : decode cX6_plan 113 = .ok (.aload_n 0, 1) := by decide +kernel
theorem dX6_plan_114 : decode cX6_plan 114 = .ok (.getfield 80, 3) := by decide +kernel
theorem dX6_plan_117 : decode cX6_plan 117 = .ok (.iconst 3, 1) := by decide +kernel
theorem dX6_plan_118 : decode cX6_plan 118 = .ok (.aload_n 0, 1) := by decide +kernel
theorem dX6_plan_119 : decode cX6_plan 119 = .ok (.getfield 297, 3) := by decide +kernel
theorem dX6_plan_122 : decode cX6_plan 122 = .ok (.imul, 1) := by decide +kernel
theorem dX6_plan_123 : decode cX6_plan 123 = .ok (.iconst 1, 1) := by decide +kernel
theorem dX6_plan_124 : decode cX6_plan 124 = .ok (.iadd, 1) := by decide +kernel
theorem dX6_plan_125 : decode cX6_plan 125 = .ok (.iload_n 2, 1) := by decide +kernel
theorem dX6_plan_126 : decode cX6_plan 126 = .ok (.iastore, 1) := by decide +kernel
theorem dX6_plan_127 : decode cX6_plan 127 = .ok (.aload_n 0, 1) := by decide +kernel
theorem dX6_plan_128 : decode cX6_plan 128 = .ok (.getfield 80, 3) := by decide +kernel
theorem dX6_plan_131 : decode cX6_plan 131 = .ok (.iconst 3, 1) := by decide +kernel
theorem dX6_plan_132 : decode cX6_plan 132 = .ok (.aload_n 0, 1) := by decide +kernel
theorem dX6_plan_133 : decode cX6_plan 133 = .ok (.getfield 297, 3) := by decide +kernel
theorem dX6_plan_136 : decode cX6_plan 136 = .ok (.imul, 1) := by decide +kernel
theorem dX6_plan_137 : decode cX6_plan 137 = .ok (.iconst 2, 1) := by decide +kernel
theorem dX6_plan_138 : decode cX6_plan 138 = .ok (.iadd, 1) := by decide +kernel
theorem dX6_plan_139 : decode cX6_plan 139 = .ok (.iload_n 3, 1) := by decide +kernel
theorem dX6_plan_140 : decode cX6_plan 140 = .ok (.iastore, 1) := by decide +kernel
theorem dX6_plan_141 : decode cX6_plan 141 = .ok (.aload_n 0, 1) := by decide +kernel
theorem dX6_plan_142 : decode cX6_plan 142 = .ok (.dup, 1) := by decide +kernel
theorem dX6_plan_143 : decode cX6_plan 143 = .ok (.getfield 297, 3) := by decide +kernel
theorem dX6_plan_146 : decode cX6_plan 146 = .ok (.iconst 1, 1) := by decide +kernel
theorem dX6_plan_147 : decode cX6_plan 147 = .ok (.iadd, 1) := by decide +kernel
theorem dX6_plan_148 : decode cX6_plan 148 = .ok (.putfield 297, 3) := by decide +kernel
theorem dX6_plan_151 : decode cX6_plan 151 = .ok (.aload_n 0, 1) := by decide +kernel
theorem dX6_plan_152 : decode cX6_plan 152 = .ok (.getfield 297, 3) := by decide +kernel
theorem dX6_plan_155 : decode cX6_plan 155 = .ok (.ireturn, 1) := by decide +kernel
theorem dX6_ends_0 : decode cX6_ends 0 = .ok (.aload_n 0, 1) := by decide +kernel
theorem dX6_ends_1 : decode cX6_ends 1 = .ok (.iload_n 1, 1) := by decide +kernel
theorem dX6_ends_2 : decode cX6_ends 2 = .ok (.invokevirtual 180, 3) := by decide +kernel
theorem dX6_ends_5 : decode cX6_ends 5 = .ok (.ifCond .ne 7, 3) := by decide +kernel
theorem dX6_ends_8 : decode cX6_ends 8 = .ok (.ldc2_w 198, 3) := by decide +kernel
theorem dX6_ends_11 : decode cX6_ends 11 = .ok (.lreturn, 1) := by decide +kernel
theorem dX6_ends_12 : decode cX6_ends 12 = .ok (.aload_n 0, 1) := by decide +kernel
theorem dX6_ends_13 : decode cX6_ends 13 = .ok (.getfield 11, 3) := by decide +kernel
theorem dX6_ends_16 : decode cX6_ends 16 = .ok (.iconst 0, 1) := by decide +kernel
theorem dX6_ends_17 : decode cX6_ends 17 = .ok (.aload_n 0, 1) := by decide +kernel
theorem dX6_ends_18 : decode cX6_ends 18 = .ok (.getfield 86, 3) := by decide +kernel
theorem dX6_ends_21 : decode cX6_ends 21 = .ok (.iconst 0, 1) := by decide +kernel
theorem dX6_ends_22 : decode cX6_ends 22 = .ok (.bipush 18, 2) := by decide +kernel
theorem dX6_ends_24 : decode cX6_ends 24 = .ok (.invokestatic 300, 3) := by decide +kernel
theorem dX6_ends_27 : decode cX6_ends 27 = .ok (.iconst 0, 1) := by decide +kernel
theorem dX6_ends_28 : decode cX6_ends 28 = .ok (.istore_n 2, 1) := by decide +kernel
theorem dX6_ends_29 : decode cX6_ends 29 = .ok (.iload_n 2, 1) := by decide +kernel
theorem dX6_ends_30 : decode cX6_ends 30 = .ok (.aload_n 0, 1) := by decide +kernel
theorem dX6_ends_31 : decode cX6_ends 31 = .ok (.getfield 297, 3) := by decide +kernel
theorem dX6_ends_34 : decode cX6_ends 34 = .ok (.if_icmp .ge 81, 3) := by decide +kernel
theorem dX6_ends_37 : decode cX6_ends 37 = .ok (.iconst 3, 1) := by decide +kernel
theorem dX6_ends_38 : decode cX6_ends 38 = .ok (.aload_n 0, 1) := by decide +kernel
theorem dX6_ends_39 : decode cX6_ends 39 = .ok (.getfield 80, 3) := by decide +kernel
theorem dX6_ends_42 : decode cX6_ends 42 = .ok (.iconst 3, 1) := by decide +kernel
theorem dX6_ends_43 : decode cX6_ends 43 = .ok (.iload_n 2, 1) := by decide +kernel
theorem dX6_ends_44 : decode cX6_ends 44 = .ok (.imul, 1) := by decide +kernel
theorem dX6_ends_45 : decode cX6_ends 45 = .ok (.iaload, 1) := by decide +kernel
theorem dX6_ends_46 : decode cX6_ends 46 = .ok (.imul, 1) := by decide +kernel
theorem dX6_ends_47 : decode cX6_ends 47 = .ok (.istore_n 3, 1) := by decide +kernel
theorem dX6_ends_48 : decode cX6_ends 48 = .ok (.aload_n 0, 1) := by decide +kernel
theorem dX6_ends_49 : decode cX6_ends 49 = .ok (.getfield 80, 3) := by decide +kernel
theorem dX6_ends_52 : decode cX6_ends 52 = .ok (.iconst 3, 1) := by decide +kernel
theorem dX6_ends_53 : decode cX6_ends 53 = .ok (.iload_n 2, 1) := by decide +kernel
theorem dX6_ends_54 : decode cX6_ends 54 = .ok (.imul, 1) := by decide +kernel
theorem dX6_ends_55 : decode cX6_ends 55 = .ok (.iconst 2, 1) := by decide +kernel
theorem dX6_ends_56 : decode cX6_ends 56 = .ok (.iadd, 1) := by decide +kernel
theorem dX6_ends_57 : decode cX6_ends 57 = .ok (.iaload, 1) := by decide +kernel
theorem dX6_ends_58 : decode cX6_ends 58 = .ok (.istore 4, 2) := by decide +kernel
theorem dX6_ends_60 : decode cX6_ends 60 = .ok (.aload_n 0, 1) := by decide +kernel
theorem dX6_ends_61 : decode cX6_ends 61 = .ok (.getfield 80, 3) := by decide +kernel
theorem dX6_ends_64 : decode cX6_ends 64 = .ok (.iconst 3, 1) := by decide +kernel
theorem dX6_ends_65 : decode cX6_ends 65 = .ok (.iload_n 2, 1) := by decide +kernel
theorem dX6_ends_66 : decode cX6_ends 66 = .ok (.imul, 1) := by decide +kernel
theorem dX6_ends_67 : decode cX6_ends 67 = .ok (.iconst 1, 1) := by decide +kernel
theorem dX6_ends_68 : decode cX6_ends 68 = .ok (.iadd, 1) := by decide +kernel
theorem dX6_ends_69 : decode cX6_ends 69 = .ok (.iaload, 1) := by decide +kernel
theorem dX6_ends_70 : decode cX6_ends 70 = .ok (.iconst 2, 1) := by decide +kernel
theorem dX6_ends_71 : decode cX6_ends 71 = .ok (.if_icmp .ge 25, 3) := by decide +kernel
theorem dX6_ends_74 : decode cX6_ends 74 = .ok (.aload_n 0, 1) := by decide +kernel
theorem dX6_ends_75 : decode cX6_ends 75 = .ok (.getfield 11, 3) := by decide +kernel
theorem dX6_ends_78 : decode cX6_ends 78 = .ok (.iload_n 3, 1) := by decide +kernel
theorem dX6_ends_79 : decode cX6_ends 79 = .ok (.aload_n 0, 1) := by decide +kernel
theorem dX6_ends_80 : decode cX6_ends 80 = .ok (.getfield 80, 3) := by decide +kernel
theorem dX6_ends_83 : decode cX6_ends 83 = .ok (.iconst 3, 1) := by decide +kernel
theorem dX6_ends_84 : decode cX6_ends 84 = .ok (.iload_n 2, 1) := by decide +kernel
theorem dX6_ends_85 : decode cX6_ends 85 = .ok (.imul, 1) := by decide +kernel
theorem dX6_ends_86 : decode cX6_ends 86 = .ok (.iconst 1, 1) := by decide +kernel
theorem dX6_ends_87 : decode cX6_ends 87 = .ok (.iadd, 1) := by decide +kernel
theorem dX6_ends_88 : decode cX6_ends 88 = .ok (.iaload, 1) := by decide +kernel
theorem dX6_ends_89 : decode cX6_ends 89 = .ok (.iadd, 1) := by decide +kernel
theorem dX6_ends_90 : decode cX6_ends 90 = .ok (.iload 4, 2) := by decide +kernel
theorem dX6_ends_92 : decode cX6_ends 92 = .ok (.iastore, 1) := by decide +kernel
theorem dX6_ends_93 : decode cX6_ends 93 = .ok (.goto 16, 3) := by decide +kernel
theorem dX6_ends_96 : decode cX6_ends 96 = .ok (.aload_n 0, 1) := by decide +kernel
theorem dX6_ends_97 : decode cX6_ends 97 = .ok (.getfield 11, 3) := by decide +kernel
theorem dX6_ends_100 : decode cX6_ends 100 = .ok (.iload_n 3, 1) := by decide +kernel
theorem dX6_ends_101 : decode cX6_ends 101 = .ok (.iconst 1, 1) := by decide +kernel
theorem dX6_ends_102 : decode cX6_ends 102 = .ok (.iadd, 1) := by decide +kernel
theorem dX6_ends_103 : decode cX6_ends 103 = .ok (.dup2, 1) := by decide +kernel
theorem dX6_ends_104 : decode cX6_ends 104 = .ok (.iaload, 1) := by decide +kernel
theorem dX6_ends_105 : decode cX6_ends 105 = .ok (.iload 4, 2) := by decide +kernel
theorem dX6_ends_107 : decode cX6_ends 107 = .ok (.ishr, 1) := by decide +kernel
theorem dX6_ends_108 : decode cX6_ends 108 = .ok (.iastore, 1) := by decide +kernel
theorem dX6_ends_109 : decode cX6_ends 109 = .ok (.iinc 2 1, 3) := by decide +kernel
theorem dX6_ends_112 : decode cX6_ends 112 = .ok (.goto (-83), 3) := by decide +kernel
theorem dX6_ends_115 : decode cX6_ends 115 = .ok (.aload_n 0, 1) := by decide +kernel
theorem dX6_ends_116 : decode cX6_ends 116 = .ok (.iload_n 1, 1) := by decide +kernel
theorem dX6_ends_117 : decode cX6_ends 117 = .ok (.invokevirtual 261, 3) := by decide +kernel
theorem dX6_ends_120 : decode cX6_ends 120 = .ok (.lstore_n 2, 1) := by decide +kernel
theorem dX6_ends_121 : decode cX6_ends 121 = .ok (.aload_n 0, 1) := by decide +kernel
theorem dX6_ends_122 : decode cX6_ends 122 = .ok (.getfield 86, 3) := by decide +kernel
theorem dX6_ends_125 : decode cX6_ends 125 = .ok (.iconst 0, 1) := by decide +kernel
theorem dX6_ends_126 : decode cX6_ends 126 = .ok (.aload_n 0, 1) := by decide +kernel
theorem dX6_ends_127 : decode cX6_ends 127 = .ok (.getfield 11, 3) := by decide +kernel
theorem dX6_ends_130 : decode cX6_ends 130 = .ok (.iconst 0, 1) := by decide +kernel
theorem dX6_ends_131 : decode cX6_ends 131 = .ok (.bipush 18, 2) := by decide +kernel
theorem dX6_ends_133 : decode cX6_ends 133 = .ok (.invokestatic 300, 3) := by decide +kernel
theorem dX6_ends_136 : decode cX6_ends 136 = .ok (.lload_n 2, 1) := by decide +kernel
theorem dX6_ends_137 : decode cX6_ends 137 = .ok (.lreturn, 1) := by decide +kernel
theorem dX6_isList_0 : decode cX6_isList 0 = .ok (.iload_n 0, 1) := by decide +kernel
theorem dX6_isList_1 : decode cX6_isList 1 = .ok (.i2l, 1) := by decide +kernel
theorem dX6_isList_2 : decode cX6_isList 2 = .ok (.lconst 0, 1) := by decide +kernel
theorem dX6_isList_3 : decode cX6_isList 3 = .ok (.ldc2_w 306, 3) := by decide +kernel
theorem dX6_isList_6 : decode cX6_isList 6 = .ok (.invokestatic 97, 3) := by decide +kernel
theorem dX6_isList_9 : decode cX6_isList 9 = .ok (.ireturn, 1) := by decide +kernel
theorem dX6_judge_0 : decode cX6_judge 0 = .ok (.iload_n 1, 1) := by decide +kernel
theorem dX6_judge_1 : decode cX6_judge 1 = .ok (.invokestatic 308, 3) := by decide +kernel
theorem dX6_judge_4 : decode cX6_judge 4 = .ok (.ifCond .ne 5, 3) := by decide +kernel
theorem dX6_judge_7 : decode cX6_judge 7 = .ok (.iconst (-1), 1) := by decide +kernel
theorem dX6_judge_8 : decode cX6_judge 8 = .ok (.ireturn, 1) := by decide +kernel
theorem dX6_judge_9 : decode cX6_judge 9 = .ok (.aload_n 0, 1) := by decide +kernel
theorem dX6_judge_10 : decode cX6_judge 10 = .ok (.getfield 89, 3) := by decide +kernel
theorem dX6_judge_13 : decode cX6_judge 13 = .ok (.iload_n 1, 1) := by decide +kernel
theorem dX6_judge_14 : decode cX6_judge 14 = .ok (.iaload, 1) := by decide +kernel
theorem dX6_judge_15 : decode cX6_judge 15 = .ok (.iconst (-1), 1) := by decide +kernel
theorem dX6_judge_16 : decode cX6_judge 16 = .ok (.if_icmp .ne 6, 3) := by decide +kernel
theorem dX6_judge_19 : decode cX6_judge 19 = .ok (.bipush (-11), 2) := by decide +kernel
theorem dX6_judge_21 : decode cX6_judge 21 = .ok (.ireturn, 1) := by decide +kernel
theorem dX6_judge_22 : decode cX6_judge 22 = .ok (.iconst 0, 1) := by decide +kernel
theorem dX6_judge_23 : decode cX6_judge 23 = .ok (.istore_n 2, 1) := by decide +kernel
theorem dX6_judge_24 : decode cX6_judge 24 = .ok (.iload_n 2, 1) := by decide +kernel
theorem dX6_judge_25 : decode cX6_judge 25 = .ok (.aload_n 0, 1) := by decide +kernel
theorem dX6_judge_26 : decode cX6_judge 26 = .ok (.getfield 89, 3) := by decide +kernel
theorem dX6_judge_29 : decode cX6_judge 29 = .ok (.iload_n 1, 1) := by decide +kernel
theorem dX6_judge_30 : decode cX6_judge 30 = .ok (.iaload, 1) := by decide +kernel
theorem dX6_judge_31 : decode cX6_judge 31 = .ok (.if_icmp .ge 51, 3) := by decide +kernel
theorem dX6_judge_34 : decode cX6_judge 34 = .ok (.iload_n 2, 1) := by decide +kernel
theorem dX6_judge_35 : decode cX6_judge 35 = .ok (.aload_n 0, 1) := by decide +kernel
theorem dX6_judge_36 : decode cX6_judge 36 = .ok (.getfield 122, 3) := by decide +kernel
theorem dX6_judge_39 : decode cX6_judge 39 = .ok (.if_icmp .lt 5, 3) := by decide +kernel
theorem dX6_judge_42 : decode cX6_judge 42 = .ok (.iload_n 2, 1) := by decide +kernel
theorem dX6_judge_43 : decode cX6_judge 43 = .ok (.ireturn, 1) := by decide +kernel
theorem dX6_judge_44 : decode cX6_judge 44 = .ok (.aload_n 0, 1) := by decide +kernel
theorem dX6_judge_45 : decode cX6_judge 45 = .ok (.iload_n 2, 1) := by decide +kernel
theorem dX6_judge_46 : decode cX6_judge 46 = .ok (.invokevirtual 261, 3) := by decide +kernel
theorem dX6_judge_49 : decode cX6_judge 49 = .ok (.lstore_n 3, 1) := by decide +kernel
theorem dX6_judge_50 : decode cX6_judge 50 = .ok (.lload_n 3, 1) := by decide +kernel
theorem dX6_judge_51 : decode cX6_judge 51 = .ok (.ldc2_w 239, 3) := by decide +kernel
theorem dX6_judge_54 : decode cX6_judge 54 = .ok (.lcmp, 1) := by decide +kernel
theorem dX6_judge_55 : decode cX6_judge 55 = .ok (.ifCond .eq 19, 3) := by decide +kernel
theorem dX6_judge_58 : decode cX6_judge 58 = .ok (.lload_n 3, 1) := by decide +kernel
theorem dX6_judge_59 : decode cX6_judge 59 = .ok (.aload_n 0, 1) := by decide +kernel
theorem dX6_judge_60 : decode cX6_judge 60 = .ok (.getfield 92, 3) := by decide +kernel
theorem dX6_judge_63 : decode cX6_judge 63 = .ok (.bipush 8, 2) := by decide +kernel
theorem dX6_judge_65 : decode cX6_judge 65 = .ok (.iload_n 1, 1) := by decide +kernel
theorem dX6_judge_66 : decode cX6_judge 66 = .ok (.imul, 1) := by decide +kernel
theorem dX6_judge_67 : decode cX6_judge 67 = .ok (.iload_n 2, 1) := by decide +kernel
theorem dX6_judge_68 : decode cX6_judge 68 = .ok (.iadd, 1) := by decide +kernel
theorem dX6_judge_69 : decode cX6_judge 69 = .ok (.laload, 1) := by decide +kernel
theorem dX6_judge_70 : decode cX6_judge 70 = .ok (.lcmp, 1) := by decide +kernel
theorem dX6_judge_71 : decode cX6_judge 71 = .ok (.ifCond .eq 5, 3) := by decide +kernel
theorem dX6_judge_74 : decode cX6_judge 74 = .ok (.iload_n 2, 1) := by decide +kernel
theorem dX6_judge_75 : decode cX6_judge 75 = .ok (.ireturn, 1) := by decide +kernel
theorem dX6_judge_76 : decode cX6_judge 76 = .ok (.iinc 2 1, 3) := by decide +kernel
theorem dX6_judge_79 : decode cX6_judge 79 = .ok (.goto (-55), 3) := by decide +kernel
theorem dX6_judge_82 : decode cX6_judge 82 = .ok (.bipush (-5), 2) := by decide +kernel
theorem dX6_judge_84 : decode cX6_judge 84 = .ok (.ireturn, 1) := by decide +kernel
theorem dX6_list_0 : decode cX6_list 0 = .ok (.iload_n 1, 1) := by decide +kernel
theorem dX6_list_1 : decode cX6_list 1 = .ok (.invokestatic 308, 3) := by decide +kernel
theorem dX6_list_4 : decode cX6_list 4 = .ok (.ifCond .ne 5, 3) := by decide +kernel
theorem dX6_list_7 : decode cX6_list 7 = .ok (.iconst (-1), 1) := by decide +kernel
theorem dX6_list_8 : decode cX6_list 8 = .ok (.ireturn, 1) := by decide +kernel
theorem dX6_list_9 : decode cX6_list 9 = .ok (.iload_n 2, 1) := by decide +kernel
theorem dX6_list_10 : decode cX6_list 10 = .ok (.bipush 8, 2) := by decide +kernel
theorem dX6_list_12 : decode cX6_list 12 = .ok (.if_icmp .le 6, 3) := by decide +kernel
theorem dX6_list_15 : decode cX6_list 15 = .ok (.bipush (-2), 2) := by decide +kernel
theorem dX6_list_17 : decode cX6_list 17 = .ok (.ireturn, 1) := by decide +kernel
theorem dX6_list_18 : decode cX6_list 18 = .ok (.iload_n 2, 1) := by decide +kernel
theorem dX6_list_19 : decode cX6_list 19 = .ok (.ifCond .ge 6, 3) := by decide +kernel
theorem dX6_list_22 : decode cX6_list 22 = .ok (.bipush (-14), 2) := by decide +kernel
theorem dX6_list_24 : decode cX6_list 24 = .ok (.ireturn, 1) := by decide +kernel
theorem dX6_list_25 : decode cX6_list 25 = .ok (.aload_n 0, 1) := by decide +kernel
theorem dX6_list_26 : decode cX6_list 26 = .ok (.getfield 89, 3) := by decide +kernel
theorem dX6_list_29 : decode cX6_list 29 = .ok (.iload_n 1, 1) := by decide +kernel
theorem dX6_list_30 : decode cX6_list 30 = .ok (.iload_n 2, 1) := by decide +kernel
theorem dX6_list_31 : decode cX6_list 31 = .ok (.iastore, 1) := by decide +kernel
theorem dX6_list_32 : decode cX6_list 32 = .ok (.iconst 0, 1) := by decide +kernel
theorem dX6_list_33 : decode cX6_list 33 = .ok (.istore_n 3, 1) := by decide +kernel
theorem dX6_list_34 : decode cX6_list 34 = .ok (.iload_n 3, 1) := by decide +kernel
theorem dX6_list_35 : decode cX6_list 35 = .ok (.bipush 8, 2) := by decide +kernel
theorem dX6_list_37 : decode cX6_list 37 = .ok (.if_icmp .ge 21, 3) := by decide +kernel
theorem dX6_list_40 : decode cX6_list 40 = .ok (.aload_n 0, 1) := by decide +kernel
theorem dX6_list_41 : decode cX6_list 41 = .ok (.getfield 92, 3) := by decide +kernel
theorem dX6_list_44 : decode cX6_list 44 = .ok (.bipush 8, 2) := by decide +kernel
theorem dX6_list_46 : decode cX6_list 46 = .ok (.iload_n 1, 1) := by decide +kernel
theorem dX6_list_47 : decode cX6_list 47 = .ok (.imul, 1) := by decide +kernel
theorem dX6_list_48 : decode cX6_list 48 = .ok (.iload_n 3, 1) := by decide +kernel
theorem dX6_list_49 : decode cX6_list 49 = .ok (.iadd, 1) := by decide +kernel
theorem dX6_list_50 : decode cX6_list 50 = .ok (.lconst 0, 1) := by decide +kernel
theorem dX6_list_51 : decode cX6_list 51 = .ok (.lastore, 1) := by decide +kernel
theorem dX6_list_52 : decode cX6_list 52 = .ok (.iinc 3 1, 3) := by decide +kernel
theorem dX6_list_55 : decode cX6_list 55 = .ok (.goto (-21), 3) := by decide +kernel
theorem dX6_list_58 : decode cX6_list 58 = .ok (.iconst 1, 1) := by decide +kernel
theorem dX6_list_59 : decode cX6_list 59 = .ok (.ireturn, 1) := by decide +kernel
theorem dX6_put_0 : decode cX6_put 0 = .ok (.iload_n 1, 1) := by decide +kernel
theorem dX6_put_1 : decode cX6_put 1 = .ok (.invokestatic 308, 3) := by decide +kernel
theorem dX6_put_4 : decode cX6_put 4 = .ok (.ifCond .ne 5, 3) := by decide +kernel
theorem dX6_put_7 : decode cX6_put 7 = .ok (.iconst (-1), 1) := by decide +kernel
theorem dX6_put_8 : decode cX6_put 8 = .ok (.ireturn, 1) := by decide +kernel
theorem dX6_put_9 : decode cX6_put 9 = .ok (.aload_n 0, 1) := by decide +kernel
theorem dX6_put_10 : decode cX6_put 10 = .ok (.getfield 89, 3) := by decide +kernel
theorem dX6_put_13 : decode cX6_put 13 = .ok (.iload_n 1, 1) := by decide +kernel
theorem dX6_put_14 : decode cX6_put 14 = .ok (.iaload, 1) := by decide +kernel
theorem dX6_put_15 : decode cX6_put 15 = .ok (.iconst (-1), 1) := by decide +kernel
theorem dX6_put_16 : decode cX6_put 16 = .ok (.if_icmp .ne 6, 3) := by decide +kernel
theorem dX6_put_19 : decode cX6_put 19 = .ok (.bipush (-11), 2) := by decide +kernel
theorem dX6_put_21 : decode cX6_put 21 = .ok (.ireturn, 1) := by decide +kernel
theorem dX6_put_22 : decode cX6_put 22 = .ok (.iload_n 2, 1) := by decide +kernel
theorem dX6_put_23 : decode cX6_put 23 = .ok (.i2l, 1) := by decide +kernel
theorem dX6_put_24 : decode cX6_put 24 = .ok (.lconst 0, 1) := by decide +kernel
theorem dX6_put_25 : decode cX6_put 25 = .ok (.aload_n 0, 1) := by decide +kernel
theorem dX6_put_26 : decode cX6_put 26 = .ok (.getfield 89, 3) := by decide +kernel
theorem dX6_put_29 : decode cX6_put 29 = .ok (.iload_n 1, 1) := by decide +kernel
theorem dX6_put_30 : decode cX6_put 30 = .ok (.iaload, 1) := by decide +kernel
theorem dX6_put_31 : decode cX6_put 31 = .ok (.iconst 1, 1) := by decide +kernel
theorem dX6_put_32 : decode cX6_put 32 = .ok (.isub, 1) := by decide +kernel
theorem dX6_put_33 : decode cX6_put 33 = .ok (.i2l, 1) := by decide +kernel
theorem dX6_put_34 : decode cX6_put 34 = .ok (.invokestatic 97, 3) := by decide +kernel
theorem dX6_put_37 : decode cX6_put 37 = .ok (.ifCond .ne 6, 3) := by decide +kernel
theorem dX6_put_40 : decode cX6_put 40 = .ok (.bipush (-13), 2) := by decide +kernel
theorem dX6_put_42 : decode cX6_put 42 = .ok (.ireturn, 1) := by decide +kernel
theorem dX6_put_43 : decode cX6_put 43 = .ok (.aload_n 0, 1) := by decide +kernel
theorem dX6_put_44 : decode cX6_put 44 = .ok (.getfield 92, 3) := by decide +kernel
theorem dX6_put_47 : decode cX6_put 47 = .ok (.bipush 8, 2) := by decide +kernel
theorem dX6_put_49 : decode cX6_put 49 = .ok (.iload_n 1, 1) := by decide +kernel
theorem dX6_put_50 : decode cX6_put 50 = .ok (.imul, 1) := by decide +kernel
theorem dX6_put_51 : decode cX6_put 51 = .ok (.iload_n 2, 1) := by decide +kernel
theorem dX6_put_52 : decode cX6_put 52 = .ok (.iadd, 1) := by decide +kernel
theorem dX6_put_53 : decode cX6_put 53 = .ok (.lload_n 3, 1) := by decide +kernel
theorem dX6_put_54 : decode cX6_put 54 = .ok (.lastore, 1) := by decide +kernel
theorem dX6_put_55 : decode cX6_put 55 = .ok (.iconst 1, 1) := by decide +kernel
theorem dX6_put_56 : decode cX6_put 56 = .ok (.ireturn, 1) := by decide +kernel
theorem dX6_get_0 : decode cX6_get 0 = .ok (.iload_n 1, 1) := by decide +kernel
theorem dX6_get_1 : decode cX6_get 1 = .ok (.invokestatic 308, 3) := by decide +kernel
theorem dX6_get_4 : decode cX6_get 4 = .ok (.ifCond .eq 35, 3) := by decide +kernel
theorem dX6_get_7 : decode cX6_get 7 = .ok (.iload_n 2, 1) := by decide +kernel
theorem dX6_get_8 : decode cX6_get 8 = .ok (.i2l, 1) := by decide +kernel
theorem dX6_get_9 : decode cX6_get 9 = .ok (.lconst 0, 1) := by decide +kernel
theorem dX6_get_10 : decode cX6_get 10 = .ok (.aload_n 0, 1) := by decide +kernel
theorem dX6_get_11 : decode cX6_get 11 = .ok (.getfield 89, 3) := by decide +kernel
theorem dX6_get_14 : decode cX6_get 14 = .ok (.iload_n 1, 1) := by decide +kernel
theorem dX6_get_15 : decode cX6_get 15 = .ok (.iaload, 1) := by decide +kernel
theorem dX6_get_16 : decode cX6_get 16 = .ok (.iconst 1, 1) := by decide +kernel
theorem dX6_get_17 : decode cX6_get 17 = .ok (.isub, 1) := by decide +kernel
theorem dX6_get_18 : decode cX6_get 18 = .ok (.i2l, 1) := by decide +kernel
theorem dX6_get_19 : decode cX6_get 19 = .ok (.invokestatic 97, 3) := by decide +kernel
theorem dX6_get_22 : decode cX6_get 22 = .ok (.ifCond .eq 17, 3) := by decide +kernel
theorem dX6_get_25 : decode cX6_get 25 = .ok (.aload_n 0, 1) := by decide +kernel
theorem dX6_get_26 : decode cX6_get 26 = .ok (.getfield 92, 3) := by decide +kernel
theorem dX6_get_29 : decode cX6_get 29 = .ok (.bipush 8, 2) := by decide +kernel
theorem dX6_get_31 : decode cX6_get 31 = .ok (.iload_n 1, 1) := by decide +kernel
theorem dX6_get_32 : decode cX6_get 32 = .ok (.imul, 1) := by decide +kernel
theorem dX6_get_33 : decode cX6_get 33 = .ok (.iload_n 2, 1) := by decide +kernel
theorem dX6_get_34 : decode cX6_get 34 = .ok (.iadd, 1) := by decide +kernel
theorem dX6_get_35 : decode cX6_get 35 = .ok (.laload, 1) := by decide +kernel
theorem dX6_get_36 : decode cX6_get 36 = .ok (.goto 6, 3) := by decide +kernel
theorem dX6_get_39 : decode cX6_get 39 = .ok (.ldc2_w 198, 3) := by decide +kernel
theorem dX6_get_42 : decode cX6_get 42 = .ok (.lreturn, 1) := by decide +kernel
theorem dX6_copies_0 : decode cX6_copies 0 = .ok (.aload_n 0, 1) := by decide +kernel
theorem dX6_copies_1 : decode cX6_copies 1 = .ok (.iconst 0, 1) := by decide +kernel
theorem dX6_copies_2 : decode cX6_copies 2 = .ok (.aload_n 1, 1) := by decide +kernel
theorem dX6_copies_3 : decode cX6_copies 3 = .ok (.iconst 0, 1) := by decide +kernel
theorem dX6_copies_4 : decode cX6_copies 4 = .ok (.iload_n 2, 1) := by decide +kernel
theorem dX6_copies_5 : decode cX6_copies 5 = .ok (.invokestatic 300, 3) := by decide +kernel
theorem dX6_copies_8 : decode cX6_copies 8 = .ok (.return_, 1) := by decide +kernel
theorem dX6_image_0 : decode cX6_image 0 = .ok (.aload_n 0, 1) := by decide +kernel
theorem dX6_image_1 : decode cX6_image 1 = .ok (.getfield 11, 3) := by decide +kernel
theorem dX6_image_4 : decode cX6_image 4 = .ok (.aload_n 0, 1) := by decide +kernel
theorem dX6_image_5 : decode cX6_image 5 = .ok (.getfield 15, 3) := by decide +kernel
theorem dX6_image_8 : decode cX6_image 8 = .ok (.bipush 18, 2) := by decide +kernel
theorem dX6_image_10 : decode cX6_image 10 = .ok (.invokestatic 311, 3) := by decide +kernel
theorem dX6_image_13 : decode cX6_image 13 = .ok (.aload_n 0, 1) := by decide +kernel
theorem dX6_image_14 : decode cX6_image 14 = .ok (.getfield 18, 3) := by decide +kernel
theorem dX6_image_17 : decode cX6_image 17 = .ok (.aload_n 0, 1) := by decide +kernel
theorem dX6_image_18 : decode cX6_image 18 = .ok (.getfield 33, 3) := by decide +kernel
theorem dX6_image_21 : decode cX6_image 21 = .ok (.sipush 360, 3) := by decide +kernel
theorem dX6_image_24 : decode cX6_image 24 = .ok (.invokestatic 311, 3) := by decide +kernel
theorem dX6_image_27 : decode cX6_image 27 = .ok (.aload_n 0, 1) := by decide +kernel
theorem dX6_image_28 : decode cX6_image 28 = .ok (.getfield 21, 3) := by decide +kernel
theorem dX6_image_31 : decode cX6_image 31 = .ok (.aload_n 0, 1) := by decide +kernel
theorem dX6_image_32 : decode cX6_image 32 = .ok (.getfield 36, 3) := by decide +kernel
theorem dX6_image_35 : decode cX6_image 35 = .ok (.sipush 360, 3) := by decide +kernel
theorem dX6_image_38 : decode cX6_image 38 = .ok (.invokestatic 311, 3) := by decide +kernel
theorem dX6_image_41 : decode cX6_image 41 = .ok (.aload_n 0, 1) := by decide +kernel
theorem dX6_image_42 : decode cX6_image 42 = .ok (.getfield 24, 3) := by decide +kernel
theorem dX6_image_45 : decode cX6_image 45 = .ok (.aload_n 0, 1) := by decide +kernel
theorem dX6_image_46 : decode cX6_image 46 = .ok (.getfield 39, 3) := by decide +kernel
theorem dX6_image_49 : decode cX6_image 49 = .ok (.sipush 360, 3) := by decide +kernel
theorem dX6_image_52 : decode cX6_image 52 = .ok (.invokestatic 311, 3) := by decide +kernel
theorem dX6_image_55 : decode cX6_image 55 = .ok (.aload_n 0, 1) := by decide +kernel
theorem dX6_image_56 : decode cX6_image 56 = .ok (.getfield 27, 3) := by decide +kernel
theorem dX6_image_59 : decode cX6_image 59 = .ok (.aload_n 0, 1) := by decide +kernel
theorem dX6_image_60 : decode cX6_image 60 = .ok (.getfield 42, 3) := by decide +kernel
theorem dX6_image_63 : decode cX6_image 63 = .ok (.sipush 360, 3) := by decide +kernel
theorem dX6_image_66 : decode cX6_image 66 = .ok (.invokestatic 311, 3) := by decide +kernel
theorem dX6_image_69 : decode cX6_image 69 = .ok (.aload_n 0, 1) := by decide +kernel
theorem dX6_image_70 : decode cX6_image 70 = .ok (.getfield 30, 3) := by decide +kernel
theorem dX6_image_73 : decode cX6_image 73 = .ok (.aload_n 0, 1) := by decide +kernel
theorem dX6_image_74 : decode cX6_image 74 = .ok (.getfield 45, 3) := by decide +kernel
theorem dX6_image_77 : decode cX6_image 77 = .ok (.bipush 6, 2) := by decide +kernel
theorem dX6_image_79 : decode cX6_image 79 = .ok (.invokestatic 311, 3) := by decide +kernel
theorem dX6_image_82 : decode cX6_image 82 = .ok (.aload_n 0, 1) := by decide +kernel
theorem dX6_image_83 : decode cX6_image 83 = .ok (.getfield 80, 3) := by decide +kernel
theorem dX6_image_86 : decode cX6_image 86 = .ok (.aload_n 0, 1) := by decide +kernel
theorem dX6_image_87 : decode cX6_image 87 = .ok (.getfield 83, 3) := by decide +kernel
theorem dX6_image_90 : decode cX6_image 90 = .ok (.bipush 24, 2) := by decide +kernel
theorem dX6_image_92 : decode cX6_image 92 = .ok (.invokestatic 311, 3) := by decide +kernel
theorem dX6_image_95 : decode cX6_image 95 = .ok (.aload_n 0, 1) := by decide +kernel
theorem dX6_image_96 : decode cX6_image 96 = .ok (.aload_n 0, 1) := by decide +kernel
theorem dX6_image_97 : decode cX6_image 97 = .ok (.getfield 122, 3) := by decide +kernel
theorem dX6_image_100 : decode cX6_image 100 = .ok (.putfield 315, 3) := by decide +kernel
theorem dX6_image_103 : decode cX6_image 103 = .ok (.aload_n 0, 1) := by decide +kernel
theorem dX6_image_104 : decode cX6_image 104 = .ok (.aload_n 0, 1) := by decide +kernel
theorem dX6_image_105 : decode cX6_image 105 = .ok (.getfield 297, 3) := by decide +kernel
theorem dX6_image_108 : decode cX6_image 108 = .ok (.putfield 318, 3) := by decide +kernel
theorem dX6_image_111 : decode cX6_image 111 = .ok (.aload_n 0, 1) := by decide +kernel
theorem dX6_image_112 : decode cX6_image 112 = .ok (.iconst 1, 1) := by decide +kernel
theorem dX6_image_113 : decode cX6_image 113 = .ok (.putfield 321, 3) := by decide +kernel
theorem dX6_image_116 : decode cX6_image 116 = .ok (.aload_n 0, 1) := by decide +kernel
theorem dX6_image_117 : decode cX6_image 117 = .ok (.getfield 122, 3) := by decide +kernel
theorem dX6_image_120 : decode cX6_image 120 = .ok (.ireturn, 1) := by decide +kernel
theorem dX6_undo_0 : decode cX6_undo 0 = .ok (.aload_n 0, 1) := by decide +kernel
theorem dX6_undo_1 : decode cX6_undo 1 = .ok (.getfield 321, 3) := by decide +kernel
theorem dX6_undo_4 : decode cX6_undo 4 = .ok (.ifCond .ne 6, 3) := by decide +kernel
theorem dX6_undo_7 : decode cX6_undo 7 = .ok (.bipush (-3), 2) := by decide +kernel
theorem dX6_undo_9 : decode cX6_undo 9 = .ok (.ireturn, 1) := by decide +kernel
theorem dX6_undo_10 : decode cX6_undo 10 = .ok (.aload_n 0, 1) := by decide +kernel
theorem dX6_undo_11 : decode cX6_undo 11 = .ok (.getfield 15, 3) := by decide +kernel
theorem dX6_undo_14 : decode cX6_undo 14 = .ok (.aload_n 0, 1) := by decide +kernel
theorem dX6_undo_15 : decode cX6_undo 15 = .ok (.getfield 11, 3) := by decide +kernel
theorem dX6_undo_18 : decode cX6_undo 18 = .ok (.bipush 18, 2) := by decide +kernel
theorem dX6_undo_20 : decode cX6_undo 20 = .ok (.invokestatic 311, 3) := by decide +kernel
theorem dX6_undo_23 : decode cX6_undo 23 = .ok (.aload_n 0, 1) := by decide +kernel
theorem dX6_undo_24 : decode cX6_undo 24 = .ok (.getfield 33, 3) := by decide +kernel
theorem dX6_undo_27 : decode cX6_undo 27 = .ok (.aload_n 0, 1) := by decide +kernel
theorem dX6_undo_28 : decode cX6_undo 28 = .ok (.getfield 18, 3) := by decide +kernel
theorem dX6_undo_31 : decode cX6_undo 31 = .ok (.sipush 360, 3) := by decide +kernel
theorem dX6_undo_34 : decode cX6_undo 34 = .ok (.invokestatic 311, 3) := by decide +kernel
theorem dX6_undo_37 : decode cX6_undo 37 = .ok (.aload_n 0, 1) := by decide +kernel
theorem dX6_undo_38 : decode cX6_undo 38 = .ok (.getfield 36, 3) := by decide +kernel
theorem dX6_undo_41 : decode cX6_undo 41 = .ok (.aload_n 0, 1) := by decide +kernel
theorem dX6_undo_42 : decode cX6_undo 42 = .ok (.getfield 21, 3) := by decide +kernel
theorem dX6_undo_45 : decode cX6_undo 45 = .ok (.sipush 360, 3) := by decide +kernel
theorem dX6_undo_48 : decode cX6_undo 48 = .ok (.invokestatic 311, 3) := by decide +kernel
theorem dX6_undo_51 : decode cX6_undo 51 = .ok (.aload_n 0, 1) := by decide +kernel
theorem dX6_undo_52 : decode cX6_undo 52 = .ok (.getfield 39, 3) := by decide +kernel
theorem dX6_undo_55 : decode cX6_undo 55 = .ok (.aload_n 0, 1) := by decide +kernel
theorem dX6_undo_56 : decode cX6_undo 56 = .ok (.getfield 24, 3) := by decide +kernel
theorem dX6_undo_59 : decode cX6_undo 59 = .ok (.sipush 360, 3) := by decide +kernel
theorem dX6_undo_62 : decode cX6_undo 62 = .ok (.invokestatic 311, 3) := by decide +kernel
theorem dX6_undo_65 : decode cX6_undo 65 = .ok (.aload_n 0, 1) := by decide +kernel
theorem dX6_undo_66 : decode cX6_undo 66 = .ok (.getfield 42, 3) := by decide +kernel
theorem dX6_undo_69 : decode cX6_undo 69 = .ok (.aload_n 0, 1) := by decide +kernel
theorem dX6_undo_70 : decode cX6_undo 70 = .ok (.getfield 27, 3) := by decide +kernel
theorem dX6_undo_73 : decode cX6_undo 73 = .ok (.sipush 360, 3) := by decide +kernel
theorem dX6_undo_76 : decode cX6_undo 76 = .ok (.invokestatic 311, 3) := by decide +kernel
theorem dX6_undo_79 : decode cX6_undo 79 = .ok (.aload_n 0, 1) := by decide +kernel
theorem dX6_undo_80 : decode cX6_undo 80 = .ok (.getfield 45, 3) := by decide +kernel
theorem dX6_undo_83 : decode cX6_undo 83 = .ok (.aload_n 0, 1) := by decide +kernel
theorem dX6_undo_84 : decode cX6_undo 84 = .ok (.getfield 30, 3) := by decide +kernel
theorem dX6_undo_87 : decode cX6_undo 87 = .ok (.bipush 6, 2) := by decide +kernel
theorem dX6_undo_89 : decode cX6_undo 89 = .ok (.invokestatic 311, 3) := by decide +kernel
theorem dX6_undo_92 : decode cX6_undo 92 = .ok (.aload_n 0, 1) := by decide +kernel
theorem dX6_undo_93 : decode cX6_undo 93 = .ok (.getfield 83, 3) := by decide +kernel
theorem dX6_undo_96 : decode cX6_undo 96 = .ok (.aload_n 0, 1) := by decide +kernel
theorem dX6_undo_97 : decode cX6_undo 97 = .ok (.getfield 80, 3) := by decide +kernel
theorem dX6_undo_100 : decode cX6_undo 100 = .ok (.bipush 24, 2) := by decide +kernel
theorem dX6_undo_102 : decode cX6_undo 102 = .ok (.invokestatic 311, 3) := by decide +kernel
theorem dX6_undo_105 : decode cX6_undo 105 = .ok (.aload_n 0, 1) := by decide +kernel
theorem dX6_undo_106 : decode cX6_undo 106 = .ok (.aload_n 0, 1) := by decide +kernel
theorem dX6_undo_107 : decode cX6_undo 107 = .ok (.getfield 315, 3) := by decide +kernel
theorem dX6_undo_110 : decode cX6_undo 110 = .ok (.putfield 122, 3) := by decide +kernel
theorem dX6_undo_113 : decode cX6_undo 113 = .ok (.aload_n 0, 1) := by decide +kernel
theorem dX6_undo_114 : decode cX6_undo 114 = .ok (.aload_n 0, 1) := by decide +kernel
theorem dX6_undo_115 : decode cX6_undo 115 = .ok (.getfield 318, 3) := by decide +kernel
theorem dX6_undo_118 : decode cX6_undo 118 = .ok (.putfield 297, 3) := by decide +kernel
theorem dX6_undo_121 : decode cX6_undo 121 = .ok (.aload_n 0, 1) := by decide +kernel
theorem dX6_undo_122 : decode cX6_undo 122 = .ok (.getfield 122, 3) := by decide +kernel
theorem dX6_undo_125 : decode cX6_undo 125 = .ok (.ireturn, 1) := by decide +kernel
theorem dX6_overMany_0 : decode cX6_overMany 0 = .ok (.iconst 0, 1) := by decide +kernel
theorem dX6_overMany_1 : decode cX6_overMany 1 = .ok (.istore_n 1, 1) := by decide +kernel
theorem dX6_overMany_2 : decode cX6_overMany 2 = .ok (.iconst 0, 1) := by decide +kernel
theorem dX6_overMany_3 : decode cX6_overMany 3 = .ok (.istore_n 2, 1) := by decide +kernel
theorem dX6_overMany_4 : decode cX6_overMany 4 = .ok (.iload_n 2, 1) := by decide +kernel
theorem dX6_overMany_5 : decode cX6_overMany 5 = .ok (.aload_n 0, 1) := by decide +kernel
theorem dX6_overMany_6 : decode cX6_overMany 6 = .ok (.getfield 122, 3) := by decide +kernel
theorem dX6_overMany_9 : decode cX6_overMany 9 = .ok (.if_icmp .ge 25, 3) := by decide +kernel
theorem dX6_overMany_12 : decode cX6_overMany 12 = .ok (.iload_n 1, 1) := by decide +kernel
theorem dX6_overMany_13 : decode cX6_overMany 13 = .ok (.aload_n 0, 1) := by decide +kernel
theorem dX6_overMany_14 : decode cX6_overMany 14 = .ok (.iload_n 2, 1) := by decide +kernel
theorem dX6_overMany_15 : decode cX6_overMany 15 = .ok (.invokevirtual 254, 3) := by decide +kernel
theorem dX6_overMany_18 : decode cX6_overMany 18 = .ok (.ifCond .eq 7, 3) := by decide +kernel
theorem dX6_overMany_21 : decode cX6_overMany 21 = .ok (.iconst 0, 1) := by decide +kernel
theorem dX6_overMany_22 : decode cX6_overMany 22 = .ok (.goto 4, 3) := by decide +kernel
theorem dX6_overMany_25 : decode cX6_overMany 25 = .ok (.iconst 1, 1) := by decide +kernel
theorem dX6_overMany_26 : decode cX6_overMany 26 = .ok (.iadd, 1) := by decide +kernel
theorem dX6_overMany_27 : decode cX6_overMany 27 = .ok (.istore_n 1, 1) := by decide +kernel
theorem dX6_overMany_28 : decode cX6_overMany 28 = .ok (.iinc 2 1, 3) := by decide +kernel
theorem dX6_overMany_31 : decode cX6_overMany 31 = .ok (.goto (-27), 3) := by decide +kernel
theorem dX6_overMany_34 : decode cX6_overMany 34 = .ok (.iload_n 1, 1) := by decide +kernel
theorem dX6_overMany_35 : decode cX6_overMany 35 = .ok (.ireturn, 1) := by decide +kernel
theorem dX6_spannedMany_0 : decode cX6_spannedMany 0 = .ok (.iconst 0, 1) := by decide +kernel
theorem dX6_spannedMany_1 : decode cX6_spannedMany 1 = .ok (.istore_n 1, 1) := by decide +kernel
theorem dX6_spannedMany_2 : decode cX6_spannedMany 2 = .ok (.iconst 0, 1) := by decide +kernel
theorem dX6_spannedMany_3 : decode cX6_spannedMany 3 = .ok (.istore_n 2, 1) := by decide +kernel
theorem dX6_spannedMany_4 : decode cX6_spannedMany 4 = .ok (.iload_n 2, 1) := by decide +kernel
theorem dX6_spannedMany_5 : decode cX6_spannedMany 5 = .ok (.bipush 6, 2) := by decide +kernel
theorem dX6_spannedMany_7 : decode cX6_spannedMany 7 = .ok (.if_icmp .ge 25, 3) := by decide +kernel
theorem dX6_spannedMany_10 : decode cX6_spannedMany 10 = .ok (.iload_n 1, 1) := by decide +kernel
theorem dX6_spannedMany_11 : decode cX6_spannedMany 11 = .ok (.aload_n 0, 1) := by decide +kernel
theorem dX6_spannedMany_12 : decode cX6_spannedMany 12 = .ok (.iload_n 2, 1) := by decide +kernel
theorem dX6_spannedMany_13 : decode cX6_spannedMany 13 = .ok (.invokevirtual 119, 3) := by decide +kernel
theorem dX6_spannedMany_16 : decode cX6_spannedMany 16 = .ok (.ifCond .le 7, 3) := by decide +kernel
theorem dX6_spannedMany_19 : decode cX6_spannedMany 19 = .ok (.iconst 1, 1) := by decide +kernel
theorem dX6_spannedMany_20 : decode cX6_spannedMany 20 = .ok (.goto 4, 3) := by decide +kernel
theorem dX6_spannedMany_23 : decode cX6_spannedMany 23 = .ok (.iconst 0, 1) := by decide +kernel
theorem dX6_spannedMany_24 : decode cX6_spannedMany 24 = .ok (.iadd, 1) := by decide +kernel
theorem dX6_spannedMany_25 : decode cX6_spannedMany 25 = .ok (.istore_n 1, 1) := by decide +kernel
theorem dX6_spannedMany_26 : decode cX6_spannedMany 26 = .ok (.iinc 2 1, 3) := by decide +kernel
theorem dX6_spannedMany_29 : decode cX6_spannedMany 29 = .ok (.goto (-25), 3) := by decide +kernel
theorem dX6_spannedMany_32 : decode cX6_spannedMany 32 = .ok (.iload_n 1, 1) := by decide +kernel
theorem dX6_spannedMany_33 : decode cX6_spannedMany 33 = .ok (.ireturn, 1) := by decide +kernel
theorem dX6_count_0 : decode cX6_count 0 = .ok (.iload_n 1, 1) := by decide +kernel
theorem dX6_count_1 : decode cX6_count 1 = .ok (.tableswitch 60 0 4 #[35, 40, 45, 50, 55], 35) := by decide +kernel
theorem dX6_count_36 : decode cX6_count 36 = .ok (.aload_n 0, 1) := by decide +kernel
theorem dX6_count_37 : decode cX6_count 37 = .ok (.getfield 122, 3) := by decide +kernel
theorem dX6_count_40 : decode cX6_count 40 = .ok (.ireturn, 1) := by decide +kernel
theorem dX6_count_41 : decode cX6_count 41 = .ok (.aload_n 0, 1) := by decide +kernel
theorem dX6_count_42 : decode cX6_count 42 = .ok (.getfield 128, 3) := by decide +kernel
theorem dX6_count_45 : decode cX6_count 45 = .ok (.ireturn, 1) := by decide +kernel
theorem dX6_count_46 : decode cX6_count 46 = .ok (.aload_n 0, 1) := by decide +kernel
theorem dX6_count_47 : decode cX6_count 47 = .ok (.getfield 297, 3) := by decide +kernel
theorem dX6_count_50 : decode cX6_count 50 = .ok (.ireturn, 1) := by decide +kernel
theorem dX6_count_51 : decode cX6_count 51 = .ok (.aload_n 0, 1) := by decide +kernel
theorem dX6_count_52 : decode cX6_count 52 = .ok (.invokevirtual 324, 3) := by decide +kernel
theorem dX6_count_55 : decode cX6_count 55 = .ok (.ireturn, 1) := by decide +kernel
theorem dX6_count_56 : decode cX6_count 56 = .ok (.aload_n 0, 1) := by decide +kernel
theorem dX6_count_57 : decode cX6_count 57 = .ok (.invokevirtual 327, 3) := by decide +kernel
theorem dX6_count_60 : decode cX6_count 60 = .ok (.ireturn, 1) := by decide +kernel
theorem dX6_count_61 : decode cX6_count 61 = .ok (.bipush (-2), 2) := by decide +kernel
theorem dX6_count_63 : decode cX6_count 63 = .ok (.ireturn, 1) := by decide +kernel
theorem dJ7_fill_d0a16_0 : decode cJ7_fill_d0a16 0 = .ok (.iconst 0, 1) := by decide +kernel
theorem dJ7_fill_d0a16_1 : decode cJ7_fill_d0a16 1 = .ok (.istore_n 3, 1) := by decide +kernel
theorem dJ7_fill_d0a16_2 : decode cJ7_fill_d0a16 2 = .ok (.aload_n 0, 1) := by decide +kernel
theorem dJ7_fill_d0a16_3 : decode cJ7_fill_d0a16 3 = .ok (.arraylength, 1) := by decide +kernel
theorem dJ7_fill_d0a16_4 : decode cJ7_fill_d0a16 4 = .ok (.istore 4, 2) := by decide +kernel
theorem dJ7_fill_d0a16_6 : decode cJ7_fill_d0a16 6 = .ok (.iload_n 3, 1) := by decide +kernel
theorem dJ7_fill_d0a16_7 : decode cJ7_fill_d0a16 7 = .ok (.iload 4, 2) := by decide +kernel
theorem dJ7_fill_d0a16_9 : decode cJ7_fill_d0a16 9 = .ok (.if_icmp .ge 13, 3) := by decide +kernel
theorem dJ7_fill_d0a16_12 : decode cJ7_fill_d0a16 12 = .ok (.aload_n 0, 1) := by decide +kernel
theorem dJ7_fill_d0a16_13 : decode cJ7_fill_d0a16 13 = .ok (.iload_n 3, 1) := by decide +kernel
theorem dJ7_fill_d0a16_14 : decode cJ7_fill_d0a16 14 = .ok (.lload_n 1, 1) := by decide +kernel
theorem dJ7_fill_d0a16_15 : decode cJ7_fill_d0a16 15 = .ok (.lastore, 1) := by decide +kernel
theorem dJ7_fill_d0a16_16 : decode cJ7_fill_d0a16 16 = .ok (.iinc 3 1, 3) := by decide +kernel
theorem dJ7_fill_d0a16_19 : decode cJ7_fill_d0a16 19 = .ok (.goto (-13), 3) := by decide +kernel
theorem dJ7_fill_d0a16_22 : decode cJ7_fill_d0a16 22 = .ok (.return_, 1) := by decide +kernel
theorem dJ7_fill_53178_0 : decode cJ7_fill_53178 0 = .ok (.iconst 0, 1) := by decide +kernel
theorem dJ7_fill_53178_1 : decode cJ7_fill_53178 1 = .ok (.istore_n 2, 1) := by decide +kernel
theorem dJ7_fill_53178_2 : decode cJ7_fill_53178 2 = .ok (.aload_n 0, 1) := by decide +kernel
theorem dJ7_fill_53178_3 : decode cJ7_fill_53178 3 = .ok (.arraylength, 1) := by decide +kernel
theorem dJ7_fill_53178_4 : decode cJ7_fill_53178 4 = .ok (.istore_n 3, 1) := by decide +kernel
theorem dJ7_fill_53178_5 : decode cJ7_fill_53178 5 = .ok (.iload_n 2, 1) := by decide +kernel
theorem dJ7_fill_53178_6 : decode cJ7_fill_53178 6 = .ok (.iload_n 3, 1) := by decide +kernel
theorem dJ7_fill_53178_7 : decode cJ7_fill_53178 7 = .ok (.if_icmp .ge 13, 3) := by decide +kernel
theorem dJ7_fill_53178_10 : decode cJ7_fill_53178 10 = .ok (.aload_n 0, 1) := by decide +kernel
theorem dJ7_fill_53178_11 : decode cJ7_fill_53178 11 = .ok (.iload_n 2, 1) := by decide +kernel
theorem dJ7_fill_53178_12 : decode cJ7_fill_53178 12 = .ok (.iload_n 1, 1) := by decide +kernel
theorem dJ7_fill_53178_13 : decode cJ7_fill_53178 13 = .ok (.iastore, 1) := by decide +kernel
theorem dJ7_fill_53178_14 : decode cJ7_fill_53178 14 = .ok (.iinc 2 1, 3) := by decide +kernel
theorem dJ7_fill_53178_17 : decode cJ7_fill_53178 17 = .ok (.goto (-12), 3) := by decide +kernel
theorem dJ7_fill_53178_20 : decode cJ7_fill_53178 20 = .ok (.return_, 1) := by decide +kernel

theorem dL_cell_0 : decode cL_cell 0 = .ok (.aload_n 0, 1) := by decide +kernel
theorem dL_cell_1 : decode cL_cell 1 = .ok (.arraylength, 1) := by decide +kernel
theorem dL_cell_2 : decode cL_cell 2 = .ok (.ifCond .ne 12, 3) := by decide +kernel
theorem dL_cell_5 : decode cL_cell 5 = .ok (.iload_n 1, 1) := by decide +kernel
theorem dL_cell_6 : decode cL_cell 6 = .ok (.bipush 37, 2) := by decide +kernel
theorem dL_cell_8 : decode cL_cell 8 = .ok (.imul, 1) := by decide +kernel
theorem dL_cell_9 : decode cL_cell 9 = .ok (.iconst 5, 1) := by decide +kernel
theorem dL_cell_10 : decode cL_cell 10 = .ok (.iadd, 1) := by decide +kernel
theorem dL_cell_11 : decode cL_cell 11 = .ok (.goto 17, 3) := by decide +kernel
theorem dL_cell_14 : decode cL_cell 14 = .ok (.aload_n 0, 1) := by decide +kernel
theorem dL_cell_15 : decode cL_cell 15 = .ok (.iload_n 1, 1) := by decide +kernel
theorem dL_cell_16 : decode cL_cell 16 = .ok (.aload_n 0, 1) := by decide +kernel
theorem dL_cell_17 : decode cL_cell 17 = .ok (.arraylength, 1) := by decide +kernel
theorem dL_cell_18 : decode cL_cell 18 = .ok (.irem, 1) := by decide +kernel
theorem dL_cell_19 : decode cL_cell 19 = .ok (.iaload, 1) := by decide +kernel
theorem dL_cell_20 : decode cL_cell 20 = .ok (.iload_n 1, 1) := by decide +kernel
theorem dL_cell_21 : decode cL_cell 21 = .ok (.bipush 7, 2) := by decide +kernel
theorem dL_cell_23 : decode cL_cell 23 = .ok (.irem, 1) := by decide +kernel
theorem dL_cell_24 : decode cL_cell 24 = .ok (.ishr, 1) := by decide +kernel
theorem dL_cell_25 : decode cL_cell 25 = .ok (.ldc 7, 2) := by decide +kernel
theorem dL_cell_27 : decode cL_cell 27 = .ok (.iand, 1) := by decide +kernel
theorem dL_cell_28 : decode cL_cell 28 = .ok (.iload_n 2, 1) := by decide +kernel
theorem dL_cell_29 : decode cL_cell 29 = .ok (.irem, 1) := by decide +kernel
theorem dL_cell_30 : decode cL_cell 30 = .ok (.ireturn, 1) := by decide +kernel
theorem dL_up_0 : decode cL_up 0 = .ok (.iload_n 0, 1) := by decide +kernel
theorem dL_up_1 : decode cL_up 1 = .ok (.iload_n 1, 1) := by decide +kernel
theorem dL_up_2 : decode cL_up 2 = .ok (.idiv, 1) := by decide +kernel
theorem dL_up_3 : decode cL_up 3 = .ok (.iload_n 0, 1) := by decide +kernel
theorem dL_up_4 : decode cL_up 4 = .ok (.iload_n 1, 1) := by decide +kernel
theorem dL_up_5 : decode cL_up 5 = .ok (.irem, 1) := by decide +kernel
theorem dL_up_6 : decode cL_up 6 = .ok (.ifCond .le 7, 3) := by decide +kernel
theorem dL_up_9 : decode cL_up 9 = .ok (.iconst 1, 1) := by decide +kernel
theorem dL_up_10 : decode cL_up 10 = .ok (.goto 4, 3) := by decide +kernel
theorem dL_up_13 : decode cL_up 13 = .ok (.iconst 0, 1) := by decide +kernel
theorem dL_up_14 : decode cL_up 14 = .ok (.iadd, 1) := by decide +kernel
theorem dL_up_15 : decode cL_up 15 = .ok (.ireturn, 1) := by decide +kernel
theorem dL_quality_0 : decode cL_quality 0 = .ok (.aload_n 0, 1) := by decide +kernel
theorem dL_quality_1 : decode cL_quality 1 = .ok (.bipush 10, 2) := by decide +kernel
theorem dL_quality_3 : decode cL_quality 3 = .ok (.invokevirtual 8, 3) := by decide +kernel
theorem dL_quality_6 : decode cL_quality 6 = .ok (.aload_n 0, 1) := by decide +kernel
theorem dL_quality_7 : decode cL_quality 7 = .ok (.bipush 22, 2) := by decide +kernel
theorem dL_quality_9 : decode cL_quality 9 = .ok (.iload_n 1, 1) := by decide +kernel
theorem dL_quality_10 : decode cL_quality 10 = .ok (.iadd, 1) := by decide +kernel
theorem dL_quality_11 : decode cL_quality 11 = .ok (.invokevirtual 8, 3) := by decide +kernel
theorem dL_quality_14 : decode cL_quality 14 = .ok (.if_icmp .le 21, 3) := by decide +kernel
theorem dL_quality_17 : decode cL_quality 17 = .ok (.aload_n 0, 1) := by decide +kernel
theorem dL_quality_18 : decode cL_quality 18 = .ok (.bipush 10, 2) := by decide +kernel
theorem dL_quality_20 : decode cL_quality 20 = .ok (.invokevirtual 8, 3) := by decide +kernel
theorem dL_quality_23 : decode cL_quality 23 = .ok (.aload_n 0, 1) := by decide +kernel
theorem dL_quality_24 : decode cL_quality 24 = .ok (.bipush 22, 2) := by decide +kernel
theorem dL_quality_26 : decode cL_quality 26 = .ok (.iload_n 1, 1) := by decide +kernel
theorem dL_quality_27 : decode cL_quality 27 = .ok (.iadd, 1) := by decide +kernel
theorem dL_quality_28 : decode cL_quality 28 = .ok (.invokevirtual 8, 3) := by decide +kernel
theorem dL_quality_31 : decode cL_quality 31 = .ok (.isub, 1) := by decide +kernel
theorem dL_quality_32 : decode cL_quality 32 = .ok (.goto 18, 3) := by decide +kernel
theorem dL_quality_35 : decode cL_quality 35 = .ok (.aload_n 0, 1) := by decide +kernel
theorem dL_quality_36 : decode cL_quality 36 = .ok (.bipush 22, 2) := by decide +kernel
theorem dL_quality_38 : decode cL_quality 38 = .ok (.iload_n 1, 1) := by decide +kernel
theorem dL_quality_39 : decode cL_quality 39 = .ok (.iadd, 1) := by decide +kernel
theorem dL_quality_40 : decode cL_quality 40 = .ok (.invokevirtual 8, 3) := by decide +kernel
theorem dL_quality_43 : decode cL_quality 43 = .ok (.aload_n 0, 1) := by decide +kernel
theorem dL_quality_44 : decode cL_quality 44 = .ok (.bipush 10, 2) := by decide +kernel
theorem dL_quality_46 : decode cL_quality 46 = .ok (.invokevirtual 8, 3) := by decide +kernel
theorem dL_quality_49 : decode cL_quality 49 = .ok (.isub, 1) := by decide +kernel
theorem dL_quality_50 : decode cL_quality 50 = .ok (.istore_n 2, 1) := by decide +kernel
theorem dL_quality_51 : decode cL_quality 51 = .ok (.iload_n 2, 1) := by decide +kernel
theorem dL_quality_52 : decode cL_quality 52 = .ok (.bipush 30, 2) := by decide +kernel
theorem dL_quality_54 : decode cL_quality 54 = .ok (.if_icmp .le 8, 3) := by decide +kernel
theorem dL_quality_57 : decode cL_quality 57 = .ok (.bipush 40, 2) := by decide +kernel
theorem dL_quality_59 : decode cL_quality 59 = .ok (.goto 9, 3) := by decide +kernel
theorem dL_quality_62 : decode cL_quality 62 = .ok (.bipush 100, 2) := by decide +kernel
theorem dL_quality_64 : decode cL_quality 64 = .ok (.iconst 2, 1) := by decide +kernel
theorem dL_quality_65 : decode cL_quality 65 = .ok (.iload_n 2, 1) := by decide +kernel
theorem dL_quality_66 : decode cL_quality 66 = .ok (.imul, 1) := by decide +kernel
theorem dL_quality_67 : decode cL_quality 67 = .ok (.isub, 1) := by decide +kernel
theorem dL_quality_68 : decode cL_quality 68 = .ok (.ireturn, 1) := by decide +kernel
theorem dL_strength_0 : decode cL_strength 0 = .ok (.aload_n 0, 1) := by decide +kernel
theorem dL_strength_1 : decode cL_strength 1 = .ok (.iload_n 1, 1) := by decide +kernel
theorem dL_strength_2 : decode cL_strength 2 = .ok (.iconst 1, 1) := by decide +kernel
theorem dL_strength_3 : decode cL_strength 3 = .ok (.invokevirtual 14, 3) := by decide +kernel
theorem dL_strength_6 : decode cL_strength 6 = .ok (.aload_n 0, 1) := by decide +kernel
theorem dL_strength_7 : decode cL_strength 7 = .ok (.iload_n 1, 1) := by decide +kernel
theorem dL_strength_8 : decode cL_strength 8 = .ok (.iconst 2, 1) := by decide +kernel
theorem dL_strength_9 : decode cL_strength 9 = .ok (.invokevirtual 14, 3) := by decide +kernel
theorem dL_strength_12 : decode cL_strength 12 = .ok (.imul, 1) := by decide +kernel
theorem dL_strength_13 : decode cL_strength 13 = .ok (.aload_n 0, 1) := by decide +kernel
theorem dL_strength_14 : decode cL_strength 14 = .ok (.bipush 19, 2) := by decide +kernel
theorem dL_strength_16 : decode cL_strength 16 = .ok (.aload_n 0, 1) := by decide +kernel
theorem dL_strength_17 : decode cL_strength 17 = .ok (.iload_n 1, 1) := by decide +kernel
theorem dL_strength_18 : decode cL_strength 18 = .ok (.iconst 0, 1) := by decide +kernel
theorem dL_strength_19 : decode cL_strength 19 = .ok (.invokevirtual 14, 3) := by decide +kernel
theorem dL_strength_22 : decode cL_strength 22 = .ok (.iadd, 1) := by decide +kernel
theorem dL_strength_23 : decode cL_strength 23 = .ok (.invokevirtual 8, 3) := by decide +kernel
theorem dL_strength_26 : decode cL_strength 26 = .ok (.imul, 1) := by decide +kernel
theorem dL_strength_27 : decode cL_strength 27 = .ok (.aload_n 0, 1) := by decide +kernel
theorem dL_strength_28 : decode cL_strength 28 = .ok (.iload_n 1, 1) := by decide +kernel
theorem dL_strength_29 : decode cL_strength 29 = .ok (.iconst 5, 1) := by decide +kernel
theorem dL_strength_30 : decode cL_strength 30 = .ok (.invokevirtual 14, 3) := by decide +kernel
theorem dL_strength_33 : decode cL_strength 33 = .ok (.imul, 1) := by decide +kernel
theorem dL_strength_34 : decode cL_strength 34 = .ok (.bipush 100, 2) := by decide +kernel
theorem dL_strength_36 : decode cL_strength 36 = .ok (.idiv, 1) := by decide +kernel
theorem dL_strength_37 : decode cL_strength 37 = .ok (.istore_n 2, 1) := by decide +kernel
theorem dL_strength_38 : decode cL_strength 38 = .ok (.aload_n 0, 1) := by decide +kernel
theorem dL_strength_39 : decode cL_strength 39 = .ok (.iload_n 1, 1) := by decide +kernel
theorem dL_strength_40 : decode cL_strength 40 = .ok (.bipush 6, 2) := by decide +kernel
theorem dL_strength_42 : decode cL_strength 42 = .ok (.invokevirtual 14, 3) := by decide +kernel
theorem dL_strength_45 : decode cL_strength 45 = .ok (.ifCond .le 20, 3) := by decide +kernel
theorem dL_strength_48 : decode cL_strength 48 = .ok (.iload_n 2, 1) := by decide +kernel
theorem dL_strength_49 : decode cL_strength 49 = .ok (.bipush 100, 2) := by decide +kernel
theorem dL_strength_51 : decode cL_strength 51 = .ok (.aload_n 0, 1) := by decide +kernel
theorem dL_strength_52 : decode cL_strength 52 = .ok (.bipush 12, 2) := by decide +kernel
theorem dL_strength_54 : decode cL_strength 54 = .ok (.invokevirtual 8, 3) := by decide +kernel
theorem dL_strength_57 : decode cL_strength 57 = .ok (.isub, 1) := by decide +kernel
theorem dL_strength_58 : decode cL_strength 58 = .ok (.imul, 1) := by decide +kernel
theorem dL_strength_59 : decode cL_strength 59 = .ok (.bipush 100, 2) := by decide +kernel
theorem dL_strength_61 : decode cL_strength 61 = .ok (.idiv, 1) := by decide +kernel
theorem dL_strength_62 : decode cL_strength 62 = .ok (.goto 4, 3) := by decide +kernel
theorem dL_strength_65 : decode cL_strength 65 = .ok (.iload_n 2, 1) := by decide +kernel
theorem dL_strength_66 : decode cL_strength 66 = .ok (.ireturn, 1) := by decide +kernel
theorem dL_lay_0 : decode cL_lay 0 = .ok (.iconst 0, 1) := by decide +kernel
theorem dL_lay_1 : decode cL_lay 1 = .ok (.istore_n 3, 1) := by decide +kernel
theorem dL_lay_2 : decode cL_lay 2 = .ok (.iload_n 3, 1) := by decide +kernel
theorem dL_lay_3 : decode cL_lay 3 = .ok (.bipush 8, 2) := by decide +kernel
theorem dL_lay_5 : decode cL_lay 5 = .ok (.if_icmp .ge 18, 3) := by decide +kernel
theorem dL_lay_8 : decode cL_lay 8 = .ok (.aload_n 2, 1) := by decide +kernel
theorem dL_lay_9 : decode cL_lay 9 = .ok (.iload_n 3, 1) := by decide +kernel
theorem dL_lay_10 : decode cL_lay 10 = .ok (.aload_n 0, 1) := by decide +kernel
theorem dL_lay_11 : decode cL_lay 11 = .ok (.iload_n 1, 1) := by decide +kernel
theorem dL_lay_12 : decode cL_lay 12 = .ok (.iload_n 3, 1) := by decide +kernel
theorem dL_lay_13 : decode cL_lay 13 = .ok (.invokevirtual 14, 3) := by decide +kernel
theorem dL_lay_16 : decode cL_lay 16 = .ok (.iastore, 1) := by decide +kernel
theorem dL_lay_17 : decode cL_lay 17 = .ok (.iinc 3 1, 3) := by decide +kernel
theorem dL_lay_20 : decode cL_lay 20 = .ok (.goto (-18), 3) := by decide +kernel
theorem dL_lay_23 : decode cL_lay 23 = .ok (.return_, 1) := by decide +kernel
theorem dL_isLike_0 : decode cL_isLike 0 = .ok (.iconst 0, 1) := by decide +kernel
theorem dL_isLike_1 : decode cL_isLike 1 = .ok (.istore_n 3, 1) := by decide +kernel
theorem dL_isLike_2 : decode cL_isLike 2 = .ok (.iload_n 3, 1) := by decide +kernel
theorem dL_isLike_3 : decode cL_isLike 3 = .ok (.bipush 8, 2) := by decide +kernel
theorem dL_isLike_5 : decode cL_isLike 5 = .ok (.if_icmp .ge 23, 3) := by decide +kernel
theorem dL_isLike_8 : decode cL_isLike 8 = .ok (.aload_n 0, 1) := by decide +kernel
theorem dL_isLike_9 : decode cL_isLike 9 = .ok (.iload_n 1, 1) := by decide +kernel
theorem dL_isLike_10 : decode cL_isLike 10 = .ok (.iload_n 3, 1) := by decide +kernel
theorem dL_isLike_11 : decode cL_isLike 11 = .ok (.invokevirtual 14, 3) := by decide +kernel
theorem dL_isLike_14 : decode cL_isLike 14 = .ok (.aload_n 2, 1) := by decide +kernel
theorem dL_isLike_15 : decode cL_isLike 15 = .ok (.iload_n 3, 1) := by decide +kernel
theorem dL_isLike_16 : decode cL_isLike 16 = .ok (.iaload, 1) := by decide +kernel
theorem dL_isLike_17 : decode cL_isLike 17 = .ok (.if_icmp .eq 5, 3) := by decide +kernel
theorem dL_isLike_20 : decode cL_isLike 20 = .ok (.iconst 0, 1) := by decide +kernel
theorem dL_isLike_21 : decode cL_isLike 21 = .ok (.ireturn, 1) := by decide +kernel
theorem dL_isLike_22 : decode cL_isLike 22 = .ok (.iinc 3 1, 3) := by decide +kernel
theorem dL_isLike_25 : decode cL_isLike 25 = .ok (.goto (-23), 3) := by decide +kernel
theorem dL_isLike_28 : decode cL_isLike 28 = .ok (.iconst 1, 1) := by decide +kernel
theorem dL_isLike_29 : decode cL_isLike 29 = .ok (.ireturn, 1) := by decide +kernel
theorem dL_agree_0 : decode cL_agree 0 = .ok (.iconst 0, 1) := by decide +kernel
theorem dL_agree_1 : decode cL_agree 1 = .ok (.istore_n 1, 1) := by decide +kernel
theorem dL_agree_2 : decode cL_agree 2 = .ok (.iload_n 1, 1) := by decide +kernel
theorem dL_agree_3 : decode cL_agree 3 = .ok (.iconst 3, 1) := by decide +kernel
theorem dL_agree_4 : decode cL_agree 4 = .ok (.if_icmp .ge 145, 3) := by decide +kernel
theorem dL_agree_7 : decode cL_agree 7 = .ok (.iconst 0, 1) := by decide +kernel
theorem dL_agree_8 : decode cL_agree 8 = .ok (.istore_n 2, 1) := by decide +kernel
theorem dL_agree_9 : decode cL_agree 9 = .ok (.iconst 0, 1) := by decide +kernel
theorem dL_agree_10 : decode cL_agree 10 = .ok (.istore_n 3, 1) := by decide +kernel
theorem dL_agree_11 : decode cL_agree 11 = .ok (.iconst 1, 1) := by decide +kernel
theorem dL_agree_12 : decode cL_agree 12 = .ok (.istore 4, 2) := by decide +kernel
theorem dL_agree_14 : decode cL_agree 14 = .ok (.iload 4, 2) := by decide +kernel
theorem dL_agree_16 : decode cL_agree 16 = .ok (.bipush 6, 2) := by decide +kernel
theorem dL_agree_18 : decode cL_agree 18 = .ok (.if_icmp .ge 19, 3) := by decide +kernel
theorem dL_agree_21 : decode cL_agree 21 = .ok (.iload_n 2, 1) := by decide +kernel
theorem dL_agree_22 : decode cL_agree 22 = .ok (.aload_n 0, 1) := by decide +kernel
theorem dL_agree_23 : decode cL_agree 23 = .ok (.iload_n 1, 1) := by decide +kernel
theorem dL_agree_24 : decode cL_agree 24 = .ok (.iload 4, 2) := by decide +kernel
theorem dL_agree_26 : decode cL_agree 26 = .ok (.invokevirtual 18, 3) := by decide +kernel
theorem dL_agree_29 : decode cL_agree 29 = .ok (.iadd, 1) := by decide +kernel
theorem dL_agree_30 : decode cL_agree 30 = .ok (.istore_n 2, 1) := by decide +kernel
theorem dL_agree_31 : decode cL_agree 31 = .ok (.iinc 4 1, 3) := by decide +kernel
theorem dL_agree_34 : decode cL_agree 34 = .ok (.goto (-20), 3) := by decide +kernel
theorem dL_agree_37 : decode cL_agree 37 = .ok (.iconst 0, 1) := by decide +kernel
theorem dL_agree_38 : decode cL_agree 38 = .ok (.istore 4, 2) := by decide +kernel
theorem dL_agree_40 : decode cL_agree 40 = .ok (.iload 4, 2) := by decide +kernel
theorem dL_agree_42 : decode cL_agree 42 = .ok (.aload_n 0, 1) := by decide +kernel
theorem dL_agree_43 : decode cL_agree 43 = .ok (.iconst 1, 1) := by decide +kernel
theorem dL_agree_44 : decode cL_agree 44 = .ok (.invokevirtual 8, 3) := by decide +kernel
theorem dL_agree_47 : decode cL_agree 47 = .ok (.if_icmp .ge 74, 3) := by decide +kernel
theorem dL_agree_50 : decode cL_agree 50 = .ok (.iload_n 3, 1) := by decide +kernel
theorem dL_agree_51 : decode cL_agree 51 = .ok (.aload_n 0, 1) := by decide +kernel
theorem dL_agree_52 : decode cL_agree 52 = .ok (.iload 4, 2) := by decide +kernel
theorem dL_agree_54 : decode cL_agree 54 = .ok (.iconst 0, 1) := by decide +kernel
theorem dL_agree_55 : decode cL_agree 55 = .ok (.invokevirtual 14, 3) := by decide +kernel
theorem dL_agree_58 : decode cL_agree 58 = .ok (.iload_n 1, 1) := by decide +kernel
theorem dL_agree_59 : decode cL_agree 59 = .ok (.if_icmp .ne 13, 3) := by decide +kernel
theorem dL_agree_62 : decode cL_agree 62 = .ok (.aload_n 0, 1) := by decide +kernel
theorem dL_agree_63 : decode cL_agree 63 = .ok (.iload 4, 2) := by decide +kernel
theorem dL_agree_65 : decode cL_agree 65 = .ok (.iconst 4, 1) := by decide +kernel
theorem dL_agree_66 : decode cL_agree 66 = .ok (.invokevirtual 14, 3) := by decide +kernel
theorem dL_agree_69 : decode cL_agree 69 = .ok (.goto 4, 3) := by decide +kernel
theorem dL_agree_72 : decode cL_agree 72 = .ok (.iconst 0, 1) := by decide +kernel
theorem dL_agree_73 : decode cL_agree 73 = .ok (.iadd, 1) := by decide +kernel
theorem dL_agree_74 : decode cL_agree 74 = .ok (.istore_n 3, 1) := by decide +kernel
theorem dL_agree_75 : decode cL_agree 75 = .ok (.aload_n 0, 1) := by decide +kernel
theorem dL_agree_76 : decode cL_agree 76 = .ok (.iload 4, 2) := by decide +kernel
theorem dL_agree_78 : decode cL_agree 78 = .ok (.iconst 3, 1) := by decide +kernel
theorem dL_agree_79 : decode cL_agree 79 = .ok (.invokevirtual 14, 3) := by decide +kernel
theorem dL_agree_82 : decode cL_agree 82 = .ok (.iconst 1, 1) := by decide +kernel
theorem dL_agree_83 : decode cL_agree 83 = .ok (.if_icmp .lt 30, 3) := by decide +kernel
theorem dL_agree_86 : decode cL_agree 86 = .ok (.aload_n 0, 1) := by decide +kernel
theorem dL_agree_87 : decode cL_agree 87 = .ok (.iload 4, 2) := by decide +kernel
theorem dL_agree_89 : decode cL_agree 89 = .ok (.bipush 7, 2) := by decide +kernel
theorem dL_agree_91 : decode cL_agree 91 = .ok (.invokevirtual 14, 3) := by decide +kernel
theorem dL_agree_94 : decode cL_agree 94 = .ok (.aload_n 0, 1) := by decide +kernel
theorem dL_agree_95 : decode cL_agree 95 = .ok (.iload 4, 2) := by decide +kernel
theorem dL_agree_97 : decode cL_agree 97 = .ok (.invokestatic 21, 3) := by decide +kernel
theorem dL_agree_100 : decode cL_agree 100 = .ok (.if_icmp .ne 13, 3) := by decide +kernel
theorem dL_agree_103 : decode cL_agree 103 = .ok (.aload_n 0, 1) := by decide +kernel
theorem dL_agree_104 : decode cL_agree 104 = .ok (.iload 4, 2) := by decide +kernel
theorem dL_agree_106 : decode cL_agree 106 = .ok (.iconst 4, 1) := by decide +kernel
theorem dL_agree_107 : decode cL_agree 107 = .ok (.invokevirtual 14, 3) := by decide +kernel
theorem dL_agree_110 : decode cL_agree 110 = .ok (.ifCond .ge 5, 3) := by decide +kernel
theorem dL_agree_113 : decode cL_agree 113 = .ok (.iconst 0, 1) := by decide +kernel
theorem dL_agree_114 : decode cL_agree 114 = .ok (.ireturn, 1) := by decide +kernel
theorem dL_agree_115 : decode cL_agree 115 = .ok (.iinc 4 1, 3) := by decide +kernel
theorem dL_agree_118 : decode cL_agree 118 = .ok (.goto (-78), 3) := by decide +kernel
theorem dL_agree_121 : decode cL_agree 121 = .ok (.iload_n 2, 1) := by decide +kernel
theorem dL_agree_122 : decode cL_agree 122 = .ok (.aload_n 0, 1) := by decide +kernel
theorem dL_agree_123 : decode cL_agree 123 = .ok (.iload_n 1, 1) := by decide +kernel
theorem dL_agree_124 : decode cL_agree 124 = .ok (.iconst 0, 1) := by decide +kernel
theorem dL_agree_125 : decode cL_agree 125 = .ok (.invokevirtual 18, 3) := by decide +kernel
theorem dL_agree_128 : decode cL_agree 128 = .ok (.if_icmp .ne 13, 3) := by decide +kernel
theorem dL_agree_131 : decode cL_agree 131 = .ok (.iload_n 3, 1) := by decide +kernel
theorem dL_agree_132 : decode cL_agree 132 = .ok (.aload_n 0, 1) := by decide +kernel
theorem dL_agree_133 : decode cL_agree 133 = .ok (.iload_n 1, 1) := by decide +kernel
theorem dL_agree_134 : decode cL_agree 134 = .ok (.iconst 2, 1) := by decide +kernel
theorem dL_agree_135 : decode cL_agree 135 = .ok (.invokevirtual 18, 3) := by decide +kernel
theorem dL_agree_138 : decode cL_agree 138 = .ok (.if_icmp .eq 5, 3) := by decide +kernel
theorem dL_agree_141 : decode cL_agree 141 = .ok (.iconst 0, 1) := by decide +kernel
theorem dL_agree_142 : decode cL_agree 142 = .ok (.ireturn, 1) := by decide +kernel
theorem dL_agree_143 : decode cL_agree 143 = .ok (.iinc 1 1, 3) := by decide +kernel
theorem dL_agree_146 : decode cL_agree 146 = .ok (.goto (-144), 3) := by decide +kernel
theorem dL_agree_149 : decode cL_agree 149 = .ok (.iconst 1, 1) := by decide +kernel
theorem dL_agree_150 : decode cL_agree 150 = .ok (.ireturn, 1) := by decide +kernel
theorem dL_isLaid_0 : decode cL_isLaid 0 = .ok (.iload 4, 2) := by decide +kernel
theorem dL_isLaid_2 : decode cL_isLaid 2 = .ok (.bipush 100, 2) := by decide +kernel
theorem dL_isLaid_4 : decode cL_isLaid 4 = .ok (.aload_n 0, 1) := by decide +kernel
theorem dL_isLaid_5 : decode cL_isLaid 5 = .ok (.bipush 11, 2) := by decide +kernel
theorem dL_isLaid_7 : decode cL_isLaid 7 = .ok (.invokevirtual 8, 3) := by decide +kernel
theorem dL_isLaid_10 : decode cL_isLaid 10 = .ok (.iadd, 1) := by decide +kernel
theorem dL_isLaid_11 : decode cL_isLaid 11 = .ok (.imul, 1) := by decide +kernel
theorem dL_isLaid_12 : decode cL_isLaid 12 = .ok (.bipush 100, 2) := by decide +kernel
theorem dL_isLaid_14 : decode cL_isLaid 14 = .ok (.invokestatic 27, 3) := by decide +kernel
theorem dL_isLaid_17 : decode cL_isLaid 17 = .ok (.istore 5, 2) := by decide +kernel
theorem dL_isLaid_19 : decode cL_isLaid 19 = .ok (.iload 5, 2) := by decide +kernel
theorem dL_isLaid_21 : decode cL_isLaid 21 = .ok (.bipush 100, 2) := by decide +kernel
theorem dL_isLaid_23 : decode cL_isLaid 23 = .ok (.aload_n 0, 1) := by decide +kernel
theorem dL_isLaid_24 : decode cL_isLaid 24 = .ok (.bipush 10, 2) := by decide +kernel
theorem dL_isLaid_26 : decode cL_isLaid 26 = .ok (.invokevirtual 8, 3) := by decide +kernel
theorem dL_isLaid_29 : decode cL_isLaid 29 = .ok (.iadd, 1) := by decide +kernel
theorem dL_isLaid_30 : decode cL_isLaid 30 = .ok (.imul, 1) := by decide +kernel
theorem dL_isLaid_31 : decode cL_isLaid 31 = .ok (.bipush 100, 2) := by decide +kernel
theorem dL_isLaid_33 : decode cL_isLaid 33 = .ok (.invokestatic 27, 3) := by decide +kernel
theorem dL_isLaid_36 : decode cL_isLaid 36 = .ok (.istore 6, 2) := by decide +kernel
theorem dL_isLaid_38 : decode cL_isLaid 38 = .ok (.iload_n 2, 1) := by decide +kernel
theorem dL_isLaid_39 : decode cL_isLaid 39 = .ok (.iload_n 3, 1) := by decide +kernel
theorem dL_isLaid_40 : decode cL_isLaid 40 = .ok (.imul, 1) := by decide +kernel
theorem dL_isLaid_41 : decode cL_isLaid 41 = .ok (.iload 6, 2) := by decide +kernel
theorem dL_isLaid_43 : decode cL_isLaid 43 = .ok (.imul, 1) := by decide +kernel
theorem dL_isLaid_44 : decode cL_isLaid 44 = .ok (.istore 7, 2) := by decide +kernel
theorem dL_isLaid_46 : decode cL_isLaid 46 = .ok (.iload_n 2, 1) := by decide +kernel
theorem dL_isLaid_47 : decode cL_isLaid 47 = .ok (.iload 5, 2) := by decide +kernel
theorem dL_isLaid_49 : decode cL_isLaid 49 = .ok (.imul, 1) := by decide +kernel
theorem dL_isLaid_50 : decode cL_isLaid 50 = .ok (.aload_n 0, 1) := by decide +kernel
theorem dL_isLaid_51 : decode cL_isLaid 51 = .ok (.bipush 17, 2) := by decide +kernel
theorem dL_isLaid_53 : decode cL_isLaid 53 = .ok (.invokevirtual 8, 3) := by decide +kernel
theorem dL_isLaid_56 : decode cL_isLaid 56 = .ok (.invokestatic 27, 3) := by decide +kernel
theorem dL_isLaid_59 : decode cL_isLaid 59 = .ok (.istore 8, 2) := by decide +kernel
theorem dL_isLaid_61 : decode cL_isLaid 61 = .ok (.aload_n 0, 1) := by decide +kernel
theorem dL_isLaid_62 : decode cL_isLaid 62 = .ok (.iconst 3, 1) := by decide +kernel
theorem dL_isLaid_63 : decode cL_isLaid 63 = .ok (.invokevirtual 8, 3) := by decide +kernel
theorem dL_isLaid_66 : decode cL_isLaid 66 = .ok (.istore 9, 2) := by decide +kernel
theorem dL_isLaid_68 : decode cL_isLaid 68 = .ok (.aload_n 0, 1) := by decide +kernel
theorem dL_isLaid_69 : decode cL_isLaid 69 = .ok (.iconst 1, 1) := by decide +kernel
theorem dL_isLaid_70 : decode cL_isLaid 70 = .ok (.invokevirtual 8, 3) := by decide +kernel
theorem dL_isLaid_73 : decode cL_isLaid 73 = .ok (.istore 10, 2) := by decide +kernel
theorem dL_isLaid_75 : decode cL_isLaid 75 = .ok (.aload_n 0, 1) := by decide +kernel
theorem dL_isLaid_76 : decode cL_isLaid 76 = .ok (.iload_n 1, 1) := by decide +kernel
theorem dL_isLaid_77 : decode cL_isLaid 77 = .ok (.iconst 1, 1) := by decide +kernel
theorem dL_isLaid_78 : decode cL_isLaid 78 = .ok (.invokevirtual 18, 3) := by decide +kernel
theorem dL_isLaid_81 : decode cL_isLaid 81 = .ok (.istore 11, 2) := by decide +kernel
theorem dL_isLaid_83 : decode cL_isLaid 83 = .ok (.aload_n 0, 1) := by decide +kernel
theorem dL_isLaid_84 : decode cL_isLaid 84 = .ok (.iload_n 1, 1) := by decide +kernel
theorem dL_isLaid_85 : decode cL_isLaid 85 = .ok (.iload_n 2, 1) := by decide +kernel
theorem dL_isLaid_86 : decode cL_isLaid 86 = .ok (.iload_n 3, 1) := by decide +kernel
theorem dL_isLaid_87 : decode cL_isLaid 87 = .ok (.iload 4, 2) := by decide +kernel
theorem dL_isLaid_89 : decode cL_isLaid 89 = .ok (.iconst 0, 1) := by decide +kernel
theorem dL_isLaid_90 : decode cL_isLaid 90 = .ok (.invokevirtual 30, 3) := by decide +kernel
theorem dL_isLaid_93 : decode cL_isLaid 93 = .ok (.iload 5, 2) := by decide +kernel
theorem dL_isLaid_95 : decode cL_isLaid 95 = .ok (.if_icmp .ne 66, 3) := by decide +kernel
theorem dL_isLaid_98 : decode cL_isLaid 98 = .ok (.aload_n 0, 1) := by decide +kernel
theorem dL_isLaid_99 : decode cL_isLaid 99 = .ok (.iload_n 1, 1) := by decide +kernel
theorem dL_isLaid_100 : decode cL_isLaid 100 = .ok (.iload_n 2, 1) := by decide +kernel
theorem dL_isLaid_101 : decode cL_isLaid 101 = .ok (.iload_n 3, 1) := by decide +kernel
theorem dL_isLaid_102 : decode cL_isLaid 102 = .ok (.iload 4, 2) := by decide +kernel
theorem dL_isLaid_104 : decode cL_isLaid 104 = .ok (.iconst 1, 1) := by decide +kernel
theorem dL_isLaid_105 : decode cL_isLaid 105 = .ok (.invokevirtual 30, 3) := by decide +kernel
theorem dL_isLaid_108 : decode cL_isLaid 108 = .ok (.iload 6, 2) := by decide +kernel
theorem dL_isLaid_110 : decode cL_isLaid 110 = .ok (.if_icmp .ne 51, 3) := by decide +kernel
theorem dL_isLaid_113 : decode cL_isLaid 113 = .ok (.aload_n 0, 1) := by decide +kernel
theorem dL_isLaid_114 : decode cL_isLaid 114 = .ok (.iload_n 1, 1) := by decide +kernel
theorem dL_isLaid_115 : decode cL_isLaid 115 = .ok (.iload_n 2, 1) := by decide +kernel
theorem dL_isLaid_116 : decode cL_isLaid 116 = .ok (.iload_n 3, 1) := by decide +kernel
theorem dL_isLaid_117 : decode cL_isLaid 117 = .ok (.iload 4, 2) := by decide +kernel
theorem dL_isLaid_119 : decode cL_isLaid 119 = .ok (.iconst 2, 1) := by decide +kernel
theorem dL_isLaid_120 : decode cL_isLaid 120 = .ok (.invokevirtual 30, 3) := by decide +kernel
theorem dL_isLaid_123 : decode cL_isLaid 123 = .ok (.iload 7, 2) := by decide +kernel
theorem dL_isLaid_125 : decode cL_isLaid 125 = .ok (.if_icmp .ne 36, 3) := by decide +kernel
theorem dL_isLaid_128 : decode cL_isLaid 128 = .ok (.aload_n 0, 1) := by decide +kernel
theorem dL_isLaid_129 : decode cL_isLaid 129 = .ok (.iload_n 1, 1) := by decide +kernel
theorem dL_isLaid_130 : decode cL_isLaid 130 = .ok (.iload_n 2, 1) := by decide +kernel
theorem dL_isLaid_131 : decode cL_isLaid 131 = .ok (.iload_n 3, 1) := by decide +kernel
theorem dL_isLaid_132 : decode cL_isLaid 132 = .ok (.iload 4, 2) := by decide +kernel
theorem dL_isLaid_134 : decode cL_isLaid 134 = .ok (.iconst 3, 1) := by decide +kernel
theorem dL_isLaid_135 : decode cL_isLaid 135 = .ok (.invokevirtual 30, 3) := by decide +kernel
theorem dL_isLaid_138 : decode cL_isLaid 138 = .ok (.iload 8, 2) := by decide +kernel
theorem dL_isLaid_140 : decode cL_isLaid 140 = .ok (.if_icmp .ne 21, 3) := by decide +kernel
theorem dL_isLaid_143 : decode cL_isLaid 143 = .ok (.aload_n 0, 1) := by decide +kernel
theorem dL_isLaid_144 : decode cL_isLaid 144 = .ok (.iload_n 1, 1) := by decide +kernel
theorem dL_isLaid_145 : decode cL_isLaid 145 = .ok (.iload_n 2, 1) := by decide +kernel
theorem dL_isLaid_146 : decode cL_isLaid 146 = .ok (.iload_n 3, 1) := by decide +kernel
theorem dL_isLaid_147 : decode cL_isLaid 147 = .ok (.iload 4, 2) := by decide +kernel
theorem dL_isLaid_149 : decode cL_isLaid 149 = .ok (.iconst 4, 1) := by decide +kernel
theorem dL_isLaid_150 : decode cL_isLaid 150 = .ok (.invokevirtual 30, 3) := by decide +kernel
theorem dL_isLaid_153 : decode cL_isLaid 153 = .ok (.aload_n 0, 1) := by decide +kernel
theorem dL_isLaid_154 : decode cL_isLaid 154 = .ok (.iload_n 1, 1) := by decide +kernel
theorem dL_isLaid_155 : decode cL_isLaid 155 = .ok (.invokestatic 34, 3) := by decide +kernel
theorem dL_isLaid_158 : decode cL_isLaid 158 = .ok (.if_icmp .eq 5, 3) := by decide +kernel
theorem dL_isLaid_161 : decode cL_isLaid 161 = .ok (.iconst 0, 1) := by decide +kernel
theorem dL_isLaid_162 : decode cL_isLaid 162 = .ok (.ireturn, 1) := by decide +kernel
theorem dL_isLaid_163 : decode cL_isLaid 163 = .ok (.iload_n 2, 1) := by decide +kernel
theorem dL_isLaid_164 : decode cL_isLaid 164 = .ok (.iload_n 3, 1) := by decide +kernel
theorem dL_isLaid_165 : decode cL_isLaid 165 = .ok (.imul, 1) := by decide +kernel
theorem dL_isLaid_166 : decode cL_isLaid 166 = .ok (.aload_n 0, 1) := by decide +kernel
theorem dL_isLaid_167 : decode cL_isLaid 167 = .ok (.bipush 19, 2) := by decide +kernel
theorem dL_isLaid_169 : decode cL_isLaid 169 = .ok (.iload_n 1, 1) := by decide +kernel
theorem dL_isLaid_170 : decode cL_isLaid 170 = .ok (.iadd, 1) := by decide +kernel
theorem dL_isLaid_171 : decode cL_isLaid 171 = .ok (.invokevirtual 8, 3) := by decide +kernel
theorem dL_isLaid_174 : decode cL_isLaid 174 = .ok (.imul, 1) := by decide +kernel
theorem dL_isLaid_175 : decode cL_isLaid 175 = .ok (.aload_n 0, 1) := by decide +kernel
theorem dL_isLaid_176 : decode cL_isLaid 176 = .ok (.iload_n 1, 1) := by decide +kernel
theorem dL_isLaid_177 : decode cL_isLaid 177 = .ok (.invokestatic 34, 3) := by decide +kernel
theorem dL_isLaid_180 : decode cL_isLaid 180 = .ok (.imul, 1) := by decide +kernel
theorem dL_isLaid_181 : decode cL_isLaid 181 = .ok (.bipush 100, 2) := by decide +kernel
theorem dL_isLaid_183 : decode cL_isLaid 183 = .ok (.idiv, 1) := by decide +kernel
theorem dL_isLaid_184 : decode cL_isLaid 184 = .ok (.istore 12, 2) := by decide +kernel
theorem dL_isLaid_186 : decode cL_isLaid 186 = .ok (.aload_n 0, 1) := by decide +kernel
theorem dL_isLaid_187 : decode cL_isLaid 187 = .ok (.iload_n 1, 1) := by decide +kernel
theorem dL_isLaid_188 : decode cL_isLaid 188 = .ok (.iload_n 2, 1) := by decide +kernel
theorem dL_isLaid_189 : decode cL_isLaid 189 = .ok (.iload_n 3, 1) := by decide +kernel
theorem dL_isLaid_190 : decode cL_isLaid 190 = .ok (.iload 4, 2) := by decide +kernel
theorem dL_isLaid_192 : decode cL_isLaid 192 = .ok (.iconst 5, 1) := by decide +kernel
theorem dL_isLaid_193 : decode cL_isLaid 193 = .ok (.invokevirtual 30, 3) := by decide +kernel
theorem dL_isLaid_196 : decode cL_isLaid 196 = .ok (.iload 12, 2) := by decide +kernel
theorem dL_isLaid_198 : decode cL_isLaid 198 = .ok (.if_icmp .ne 20, 3) := by decide +kernel
theorem dL_isLaid_201 : decode cL_isLaid 201 = .ok (.iload 12, 2) := by decide +kernel
theorem dL_isLaid_203 : decode cL_isLaid 203 = .ok (.ifCond .le 17, 3) := by decide +kernel
theorem dL_isLaid_206 : decode cL_isLaid 206 = .ok (.aload_n 0, 1) := by decide +kernel
theorem dL_isLaid_207 : decode cL_isLaid 207 = .ok (.iload_n 1, 1) := by decide +kernel
theorem dL_isLaid_208 : decode cL_isLaid 208 = .ok (.iload_n 2, 1) := by decide +kernel
theorem dL_isLaid_209 : decode cL_isLaid 209 = .ok (.iload 12, 2) := by decide +kernel
theorem dL_isLaid_211 : decode cL_isLaid 211 = .ok (.invokevirtual 37, 3) := by decide +kernel
theorem dL_isLaid_214 : decode cL_isLaid 214 = .ok (.iload_n 3, 1) := by decide +kernel
theorem dL_isLaid_215 : decode cL_isLaid 215 = .ok (.if_icmp .le 5, 3) := by decide +kernel
theorem dL_isLaid_218 : decode cL_isLaid 218 = .ok (.iconst 0, 1) := by decide +kernel
theorem dL_isLaid_219 : decode cL_isLaid 219 = .ok (.ireturn, 1) := by decide +kernel
theorem dL_isLaid_220 : decode cL_isLaid 220 = .ok (.iload 5, 2) := by decide +kernel
theorem dL_isLaid_222 : decode cL_isLaid 222 = .ok (.aload_n 0, 1) := by decide +kernel
theorem dL_isLaid_223 : decode cL_isLaid 223 = .ok (.bipush 9, 2) := by decide +kernel
theorem dL_isLaid_225 : decode cL_isLaid 225 = .ok (.invokevirtual 8, 3) := by decide +kernel
theorem dL_isLaid_228 : decode cL_isLaid 228 = .ok (.if_icmp .gt 21, 3) := by decide +kernel
theorem dL_isLaid_231 : decode cL_isLaid 231 = .ok (.iload 7, 2) := by decide +kernel
theorem dL_isLaid_233 : decode cL_isLaid 233 = .ok (.iload 11, 2) := by decide +kernel
theorem dL_isLaid_235 : decode cL_isLaid 235 = .ok (.if_icmp .gt 14, 3) := by decide +kernel
theorem dL_isLaid_238 : decode cL_isLaid 238 = .ok (.iload 8, 2) := by decide +kernel
theorem dL_isLaid_240 : decode cL_isLaid 240 = .ok (.iload 9, 2) := by decide +kernel
theorem dL_isLaid_242 : decode cL_isLaid 242 = .ok (.if_icmp .gt 7, 3) := by decide +kernel
theorem dL_isLaid_245 : decode cL_isLaid 245 = .ok (.iconst 1, 1) := by decide +kernel
theorem dL_isLaid_246 : decode cL_isLaid 246 = .ok (.goto 4, 3) := by decide +kernel
theorem dL_isLaid_249 : decode cL_isLaid 249 = .ok (.iconst 0, 1) := by decide +kernel
theorem dL_isLaid_250 : decode cL_isLaid 250 = .ok (.istore 13, 2) := by decide +kernel
theorem dL_isLaid_252 : decode cL_isLaid 252 = .ok (.aload_n 0, 1) := by decide +kernel
theorem dL_isLaid_253 : decode cL_isLaid 253 = .ok (.iload_n 1, 1) := by decide +kernel
theorem dL_isLaid_254 : decode cL_isLaid 254 = .ok (.iload_n 2, 1) := by decide +kernel
theorem dL_isLaid_255 : decode cL_isLaid 255 = .ok (.iload_n 3, 1) := by decide +kernel
theorem dL_isLaid_256 : decode cL_isLaid 256 = .ok (.invokevirtual 41, 3) := by decide +kernel
theorem dL_isLaid_259 : decode cL_isLaid 259 = .ok (.istore 14, 2) := by decide +kernel
theorem dL_isLaid_261 : decode cL_isLaid 261 = .ok (.iload 13, 2) := by decide +kernel
theorem dL_isLaid_263 : decode cL_isLaid 263 = .ok (.ifCond .eq 13, 3) := by decide +kernel
theorem dL_isLaid_266 : decode cL_isLaid 266 = .ok (.iload 14, 2) := by decide +kernel
theorem dL_isLaid_268 : decode cL_isLaid 268 = .ok (.iload 4, 2) := by decide +kernel
theorem dL_isLaid_270 : decode cL_isLaid 270 = .ok (.if_icmp .ge 15, 3) := by decide +kernel
theorem dL_isLaid_273 : decode cL_isLaid 273 = .ok (.goto 10, 3) := by decide +kernel
theorem dL_isLaid_276 : decode cL_isLaid 276 = .ok (.iload 14, 2) := by decide +kernel
theorem dL_isLaid_278 : decode cL_isLaid 278 = .ok (.iload 4, 2) := by decide +kernel
theorem dL_isLaid_280 : decode cL_isLaid 280 = .ok (.if_icmp .lt 5, 3) := by decide +kernel
theorem dL_isLaid_283 : decode cL_isLaid 283 = .ok (.iconst 0, 1) := by decide +kernel
theorem dL_isLaid_284 : decode cL_isLaid 284 = .ok (.ireturn, 1) := by decide +kernel
theorem dL_isLaid_285 : decode cL_isLaid 285 = .ok (.aload_n 0, 1) := by decide +kernel
theorem dL_isLaid_286 : decode cL_isLaid 286 = .ok (.iload_n 1, 1) := by decide +kernel
theorem dL_isLaid_287 : decode cL_isLaid 287 = .ok (.iload_n 2, 1) := by decide +kernel
theorem dL_isLaid_288 : decode cL_isLaid 288 = .ok (.iload_n 3, 1) := by decide +kernel
theorem dL_isLaid_289 : decode cL_isLaid 289 = .ok (.iload 4, 2) := by decide +kernel
theorem dL_isLaid_291 : decode cL_isLaid 291 = .ok (.invokevirtual 44, 3) := by decide +kernel
theorem dL_isLaid_294 : decode cL_isLaid 294 = .ok (.istore 15, 2) := by decide +kernel
theorem dL_isLaid_296 : decode cL_isLaid 296 = .ok (.iload 15, 2) := by decide +kernel
theorem dL_isLaid_298 : decode cL_isLaid 298 = .ok (.iload 10, 2) := by decide +kernel
theorem dL_isLaid_300 : decode cL_isLaid 300 = .ok (.bipush 24, 2) := by decide +kernel
theorem dL_isLaid_302 : decode cL_isLaid 302 = .ok (.if_icmp .ne 8, 3) := by decide +kernel
theorem dL_isLaid_305 : decode cL_isLaid 305 = .ok (.bipush (-4), 2) := by decide +kernel
theorem dL_isLaid_307 : decode cL_isLaid 307 = .ok (.goto 15, 3) := by decide +kernel
theorem dL_isLaid_310 : decode cL_isLaid 310 = .ok (.iload 13, 2) := by decide +kernel
theorem dL_isLaid_312 : decode cL_isLaid 312 = .ok (.ifCond .eq 8, 3) := by decide +kernel
theorem dL_isLaid_315 : decode cL_isLaid 315 = .ok (.iload 10, 2) := by decide +kernel
theorem dL_isLaid_317 : decode cL_isLaid 317 = .ok (.goto 5, 3) := by decide +kernel
theorem dL_isLaid_320 : decode cL_isLaid 320 = .ok (.bipush (-5), 2) := by decide +kernel
theorem dL_isLaid_322 : decode cL_isLaid 322 = .ok (.if_icmp .ne 8, 3) := by decide +kernel
theorem dL_isLaid_325 : decode cL_isLaid 325 = .ok (.iload 15, 2) := by decide +kernel
theorem dL_isLaid_327 : decode cL_isLaid 327 = .ok (.ifCond .ge 74, 3) := by decide +kernel
theorem dL_isLaid_330 : decode cL_isLaid 330 = .ok (.iload 15, 2) := by decide +kernel
theorem dL_isLaid_332 : decode cL_isLaid 332 = .ok (.ifCond .ge 67, 3) := by decide +kernel
theorem dL_isLaid_335 : decode cL_isLaid 335 = .ok (.aload_n 0, 1) := by decide +kernel
theorem dL_isLaid_336 : decode cL_isLaid 336 = .ok (.iconst 1, 1) := by decide +kernel
theorem dL_isLaid_337 : decode cL_isLaid 337 = .ok (.invokevirtual 8, 3) := by decide +kernel
theorem dL_isLaid_340 : decode cL_isLaid 340 = .ok (.iload 10, 2) := by decide +kernel
theorem dL_isLaid_342 : decode cL_isLaid 342 = .ok (.if_icmp .ne 57, 3) := by decide +kernel
theorem dL_isLaid_345 : decode cL_isLaid 345 = .ok (.aload_n 0, 1) := by decide +kernel
theorem dL_isLaid_346 : decode cL_isLaid 346 = .ok (.iload_n 1, 1) := by decide +kernel
theorem dL_isLaid_347 : decode cL_isLaid 347 = .ok (.iconst 1, 1) := by decide +kernel
theorem dL_isLaid_348 : decode cL_isLaid 348 = .ok (.invokevirtual 18, 3) := by decide +kernel
theorem dL_isLaid_351 : decode cL_isLaid 351 = .ok (.iload 11, 2) := by decide +kernel
theorem dL_isLaid_353 : decode cL_isLaid 353 = .ok (.if_icmp .ne 46, 3) := by decide +kernel
theorem dL_isLaid_356 : decode cL_isLaid 356 = .ok (.aload_n 0, 1) := by decide +kernel
theorem dL_isLaid_357 : decode cL_isLaid 357 = .ok (.iconst 3, 1) := by decide +kernel
theorem dL_isLaid_358 : decode cL_isLaid 358 = .ok (.invokevirtual 8, 3) := by decide +kernel
theorem dL_isLaid_361 : decode cL_isLaid 361 = .ok (.iload 9, 2) := by decide +kernel
theorem dL_isLaid_363 : decode cL_isLaid 363 = .ok (.if_icmp .ne 36, 3) := by decide +kernel
theorem dL_isLaid_366 : decode cL_isLaid 366 = .ok (.iload 15, 2) := by decide +kernel
theorem dL_isLaid_368 : decode cL_isLaid 368 = .ok (.iload 10, 2) := by decide +kernel
theorem dL_isLaid_370 : decode cL_isLaid 370 = .ok (.bipush 24, 2) := by decide +kernel
theorem dL_isLaid_372 : decode cL_isLaid 372 = .ok (.if_icmp .ne 8, 3) := by decide +kernel
theorem dL_isLaid_375 : decode cL_isLaid 375 = .ok (.bipush (-4), 2) := by decide +kernel
theorem dL_isLaid_377 : decode cL_isLaid 377 = .ok (.goto 15, 3) := by decide +kernel
theorem dL_isLaid_380 : decode cL_isLaid 380 = .ok (.iload 13, 2) := by decide +kernel
theorem dL_isLaid_382 : decode cL_isLaid 382 = .ok (.ifCond .eq 8, 3) := by decide +kernel
theorem dL_isLaid_385 : decode cL_isLaid 385 = .ok (.iload 10, 2) := by decide +kernel
theorem dL_isLaid_387 : decode cL_isLaid 387 = .ok (.goto 5, 3) := by decide +kernel
theorem dL_isLaid_390 : decode cL_isLaid 390 = .ok (.bipush (-5), 2) := by decide +kernel
theorem dL_isLaid_392 : decode cL_isLaid 392 = .ok (.if_icmp .ne 7, 3) := by decide +kernel
theorem dL_isLaid_395 : decode cL_isLaid 395 = .ok (.iconst 1, 1) := by decide +kernel
theorem dL_isLaid_396 : decode cL_isLaid 396 = .ok (.goto 4, 3) := by decide +kernel
theorem dL_isLaid_399 : decode cL_isLaid 399 = .ok (.iconst 0, 1) := by decide +kernel
theorem dL_isLaid_400 : decode cL_isLaid 400 = .ok (.ireturn, 1) := by decide +kernel
theorem dL_isLaid_401 : decode cL_isLaid 401 = .ok (.aload_n 0, 1) := by decide +kernel
theorem dL_isLaid_402 : decode cL_isLaid 402 = .ok (.iload 10, 2) := by decide +kernel
theorem dL_isLaid_404 : decode cL_isLaid 404 = .ok (.iconst 0, 1) := by decide +kernel
theorem dL_isLaid_405 : decode cL_isLaid 405 = .ok (.invokevirtual 14, 3) := by decide +kernel
theorem dL_isLaid_408 : decode cL_isLaid 408 = .ok (.iload_n 1, 1) := by decide +kernel
theorem dL_isLaid_409 : decode cL_isLaid 409 = .ok (.if_icmp .ne 106, 3) := by decide +kernel
theorem dL_isLaid_412 : decode cL_isLaid 412 = .ok (.aload_n 0, 1) := by decide +kernel
theorem dL_isLaid_413 : decode cL_isLaid 413 = .ok (.iload 10, 2) := by decide +kernel
theorem dL_isLaid_415 : decode cL_isLaid 415 = .ok (.iconst 1, 1) := by decide +kernel
theorem dL_isLaid_416 : decode cL_isLaid 416 = .ok (.invokevirtual 14, 3) := by decide +kernel
theorem dL_isLaid_419 : decode cL_isLaid 419 = .ok (.iload_n 2, 1) := by decide +kernel
theorem dL_isLaid_420 : decode cL_isLaid 420 = .ok (.if_icmp .ne 95, 3) := by decide +kernel
theorem dL_isLaid_423 : decode cL_isLaid 423 = .ok (.aload_n 0, 1) := by decide +kernel
theorem dL_isLaid_424 : decode cL_isLaid 424 = .ok (.iload 10, 2) := by decide +kernel
theorem dL_isLaid_426 : decode cL_isLaid 426 = .ok (.iconst 2, 1) := by decide +kernel
theorem dL_isLaid_427 : decode cL_isLaid 427 = .ok (.invokevirtual 14, 3) := by decide +kernel
theorem dL_isLaid_430 : decode cL_isLaid 430 = .ok (.iload_n 3, 1) := by decide +kernel
theorem dL_isLaid_431 : decode cL_isLaid 431 = .ok (.if_icmp .ne 84, 3) := by decide +kernel
theorem dL_isLaid_434 : decode cL_isLaid 434 = .ok (.aload_n 0, 1) := by decide +kernel
theorem dL_isLaid_435 : decode cL_isLaid 435 = .ok (.iload 10, 2) := by decide +kernel
theorem dL_isLaid_437 : decode cL_isLaid 437 = .ok (.iconst 3, 1) := by decide +kernel
theorem dL_isLaid_438 : decode cL_isLaid 438 = .ok (.invokevirtual 14, 3) := by decide +kernel
theorem dL_isLaid_441 : decode cL_isLaid 441 = .ok (.iload 4, 2) := by decide +kernel
theorem dL_isLaid_443 : decode cL_isLaid 443 = .ok (.if_icmp .ne 72, 3) := by decide +kernel
theorem dL_isLaid_446 : decode cL_isLaid 446 = .ok (.aload_n 0, 1) := by decide +kernel
theorem dL_isLaid_447 : decode cL_isLaid 447 = .ok (.iload 10, 2) := by decide +kernel
theorem dL_isLaid_449 : decode cL_isLaid 449 = .ok (.iconst 4, 1) := by decide +kernel
theorem dL_isLaid_450 : decode cL_isLaid 450 = .ok (.invokevirtual 14, 3) := by decide +kernel
theorem dL_isLaid_453 : decode cL_isLaid 453 = .ok (.iload 7, 2) := by decide +kernel
theorem dL_isLaid_455 : decode cL_isLaid 455 = .ok (.if_icmp .ne 60, 3) := by decide +kernel
theorem dL_isLaid_458 : decode cL_isLaid 458 = .ok (.aload_n 0, 1) := by decide +kernel
theorem dL_isLaid_459 : decode cL_isLaid 459 = .ok (.iload 10, 2) := by decide +kernel
theorem dL_isLaid_461 : decode cL_isLaid 461 = .ok (.iconst 5, 1) := by decide +kernel
theorem dL_isLaid_462 : decode cL_isLaid 462 = .ok (.invokevirtual 14, 3) := by decide +kernel
theorem dL_isLaid_465 : decode cL_isLaid 465 = .ok (.aload_n 0, 1) := by decide +kernel
theorem dL_isLaid_466 : decode cL_isLaid 466 = .ok (.iload_n 1, 1) := by decide +kernel
theorem dL_isLaid_467 : decode cL_isLaid 467 = .ok (.invokestatic 34, 3) := by decide +kernel
theorem dL_isLaid_470 : decode cL_isLaid 470 = .ok (.if_icmp .ne 45, 3) := by decide +kernel
theorem dL_isLaid_473 : decode cL_isLaid 473 = .ok (.aload_n 0, 1) := by decide +kernel
theorem dL_isLaid_474 : decode cL_isLaid 474 = .ok (.iload 10, 2) := by decide +kernel
theorem dL_isLaid_476 : decode cL_isLaid 476 = .ok (.bipush 6, 2) := by decide +kernel
theorem dL_isLaid_478 : decode cL_isLaid 478 = .ok (.invokevirtual 14, 3) := by decide +kernel
theorem dL_isLaid_481 : decode cL_isLaid 481 = .ok (.ifCond .ne 34, 3) := by decide +kernel
theorem dL_isLaid_484 : decode cL_isLaid 484 = .ok (.aload_n 0, 1) := by decide +kernel
theorem dL_isLaid_485 : decode cL_isLaid 485 = .ok (.iload_n 1, 1) := by decide +kernel
theorem dL_isLaid_486 : decode cL_isLaid 486 = .ok (.iconst 1, 1) := by decide +kernel
theorem dL_isLaid_487 : decode cL_isLaid 487 = .ok (.invokevirtual 18, 3) := by decide +kernel
theorem dL_isLaid_490 : decode cL_isLaid 490 = .ok (.iload 11, 2) := by decide +kernel
theorem dL_isLaid_492 : decode cL_isLaid 492 = .ok (.iload 7, 2) := by decide +kernel
theorem dL_isLaid_494 : decode cL_isLaid 494 = .ok (.isub, 1) := by decide +kernel
theorem dL_isLaid_495 : decode cL_isLaid 495 = .ok (.if_icmp .ne 20, 3) := by decide +kernel
theorem dL_isLaid_498 : decode cL_isLaid 498 = .ok (.aload_n 0, 1) := by decide +kernel
theorem dL_isLaid_499 : decode cL_isLaid 499 = .ok (.iconst 3, 1) := by decide +kernel
theorem dL_isLaid_500 : decode cL_isLaid 500 = .ok (.invokevirtual 8, 3) := by decide +kernel
theorem dL_isLaid_503 : decode cL_isLaid 503 = .ok (.iload 9, 2) := by decide +kernel
theorem dL_isLaid_505 : decode cL_isLaid 505 = .ok (.iload 8, 2) := by decide +kernel
theorem dL_isLaid_507 : decode cL_isLaid 507 = .ok (.isub, 1) := by decide +kernel
theorem dL_isLaid_508 : decode cL_isLaid 508 = .ok (.if_icmp .ne 7, 3) := by decide +kernel
theorem dL_isLaid_511 : decode cL_isLaid 511 = .ok (.iconst 1, 1) := by decide +kernel
theorem dL_isLaid_512 : decode cL_isLaid 512 = .ok (.goto 4, 3) := by decide +kernel
theorem dL_isLaid_515 : decode cL_isLaid 515 = .ok (.iconst 0, 1) := by decide +kernel
theorem dL_isLaid_516 : decode cL_isLaid 516 = .ok (.ireturn, 1) := by decide +kernel
theorem dL_isJoined_0 : decode cL_isJoined 0 = .ok (.aload_n 0, 1) := by decide +kernel
theorem dL_isJoined_1 : decode cL_isJoined 1 = .ok (.iconst 1, 1) := by decide +kernel
theorem dL_isJoined_2 : decode cL_isJoined 2 = .ok (.invokevirtual 8, 3) := by decide +kernel
theorem dL_isJoined_5 : decode cL_isJoined 5 = .ok (.istore_n 3, 1) := by decide +kernel
theorem dL_isJoined_6 : decode cL_isJoined 6 = .ok (.iload_n 1, 1) := by decide +kernel
theorem dL_isJoined_7 : decode cL_isJoined 7 = .ok (.iload_n 3, 1) := by decide +kernel
theorem dL_isJoined_8 : decode cL_isJoined 8 = .ok (.if_icmp .ge 13, 3) := by decide +kernel
theorem dL_isJoined_11 : decode cL_isJoined 11 = .ok (.iload_n 2, 1) := by decide +kernel
theorem dL_isJoined_12 : decode cL_isJoined 12 = .ok (.iload_n 3, 1) := by decide +kernel
theorem dL_isJoined_13 : decode cL_isJoined 13 = .ok (.if_icmp .ge 8, 3) := by decide +kernel
theorem dL_isJoined_16 : decode cL_isJoined 16 = .ok (.iload_n 1, 1) := by decide +kernel
theorem dL_isJoined_17 : decode cL_isJoined 17 = .ok (.iload_n 2, 1) := by decide +kernel
theorem dL_isJoined_18 : decode cL_isJoined 18 = .ok (.if_icmp .ne 19, 3) := by decide +kernel
theorem dL_isJoined_21 : decode cL_isJoined 21 = .ok (.aload_n 0, 1) := by decide +kernel
theorem dL_isJoined_22 : decode cL_isJoined 22 = .ok (.iload_n 1, 1) := by decide +kernel
theorem dL_isJoined_23 : decode cL_isJoined 23 = .ok (.iload_n 2, 1) := by decide +kernel
theorem dL_isJoined_24 : decode cL_isJoined 24 = .ok (.invokevirtual 48, 3) := by decide +kernel
theorem dL_isJoined_27 : decode cL_isJoined 27 = .ok (.iconst (-1), 1) := by decide +kernel
theorem dL_isJoined_28 : decode cL_isJoined 28 = .ok (.if_icmp .ne 7, 3) := by decide +kernel
theorem dL_isJoined_31 : decode cL_isJoined 31 = .ok (.iconst 1, 1) := by decide +kernel
theorem dL_isJoined_32 : decode cL_isJoined 32 = .ok (.goto 4, 3) := by decide +kernel
theorem dL_isJoined_35 : decode cL_isJoined 35 = .ok (.iconst 0, 1) := by decide +kernel
theorem dL_isJoined_36 : decode cL_isJoined 36 = .ok (.ireturn, 1) := by decide +kernel
theorem dL_isJoined_37 : decode cL_isJoined 37 = .ok (.bipush 8, 2) := by decide +kernel
theorem dL_isJoined_39 : decode cL_isJoined 39 = .ok (.newarray .int, 2) := by decide +kernel
theorem dL_isJoined_41 : decode cL_isJoined 41 = .ok (.astore 4, 2) := by decide +kernel
theorem dL_isJoined_43 : decode cL_isJoined 43 = .ok (.bipush 8, 2) := by decide +kernel
theorem dL_isJoined_45 : decode cL_isJoined 45 = .ok (.newarray .int, 2) := by decide +kernel
theorem dL_isJoined_47 : decode cL_isJoined 47 = .ok (.astore 5, 2) := by decide +kernel
theorem dL_isJoined_49 : decode cL_isJoined 49 = .ok (.aload_n 0, 1) := by decide +kernel
theorem dL_isJoined_50 : decode cL_isJoined 50 = .ok (.iload_n 1, 1) := by decide +kernel
theorem dL_isJoined_51 : decode cL_isJoined 51 = .ok (.aload 4, 2) := by decide +kernel
theorem dL_isJoined_53 : decode cL_isJoined 53 = .ok (.invokestatic 51, 3) := by decide +kernel
theorem dL_isJoined_56 : decode cL_isJoined 56 = .ok (.aload_n 0, 1) := by decide +kernel
theorem dL_isJoined_57 : decode cL_isJoined 57 = .ok (.iload_n 2, 1) := by decide +kernel
theorem dL_isJoined_58 : decode cL_isJoined 58 = .ok (.aload 5, 2) := by decide +kernel
theorem dL_isJoined_60 : decode cL_isJoined 60 = .ok (.invokestatic 51, 3) := by decide +kernel
theorem dL_isJoined_63 : decode cL_isJoined 63 = .ok (.aload 4, 2) := by decide +kernel
theorem dL_isJoined_65 : decode cL_isJoined 65 = .ok (.iconst 0, 1) := by decide +kernel
theorem dL_isJoined_66 : decode cL_isJoined 66 = .ok (.iaload, 1) := by decide +kernel
theorem dL_isJoined_67 : decode cL_isJoined 67 = .ok (.aload 5, 2) := by decide +kernel
theorem dL_isJoined_69 : decode cL_isJoined 69 = .ok (.iconst 0, 1) := by decide +kernel
theorem dL_isJoined_70 : decode cL_isJoined 70 = .ok (.iaload, 1) := by decide +kernel
theorem dL_isJoined_71 : decode cL_isJoined 71 = .ok (.if_icmp .ne 55, 3) := by decide +kernel
theorem dL_isJoined_74 : decode cL_isJoined 74 = .ok (.aload 4, 2) := by decide +kernel
theorem dL_isJoined_76 : decode cL_isJoined 76 = .ok (.iconst 1, 1) := by decide +kernel
theorem dL_isJoined_77 : decode cL_isJoined 77 = .ok (.iaload, 1) := by decide +kernel
theorem dL_isJoined_78 : decode cL_isJoined 78 = .ok (.aload 5, 2) := by decide +kernel
theorem dL_isJoined_80 : decode cL_isJoined 80 = .ok (.iconst 1, 1) := by decide +kernel
theorem dL_isJoined_81 : decode cL_isJoined 81 = .ok (.iaload, 1) := by decide +kernel
theorem dL_isJoined_82 : decode cL_isJoined 82 = .ok (.if_icmp .ne 44, 3) := by decide +kernel
theorem dL_isJoined_85 : decode cL_isJoined 85 = .ok (.aload 4, 2) := by decide +kernel
theorem dL_isJoined_87 : decode cL_isJoined 87 = .ok (.iconst 2, 1) := by decide +kernel
theorem dL_isJoined_88 : decode cL_isJoined 88 = .ok (.iaload, 1) := by decide +kernel
theorem dL_isJoined_89 : decode cL_isJoined 89 = .ok (.aload 5, 2) := by decide +kernel
theorem dL_isJoined_91 : decode cL_isJoined 91 = .ok (.iconst 2, 1) := by decide +kernel
theorem dL_isJoined_92 : decode cL_isJoined 92 = .ok (.iaload, 1) := by decide +kernel
theorem dL_isJoined_93 : decode cL_isJoined 93 = .ok (.if_icmp .ne 33, 3) := by decide +kernel
theorem dL_isJoined_96 : decode cL_isJoined 96 = .ok (.aload 4, 2) := by decide +kernel
theorem dL_isJoined_98 : decode cL_isJoined 98 = .ok (.iconst 3, 1) := by decide +kernel
theorem dL_isJoined_99 : decode cL_isJoined 99 = .ok (.iaload, 1) := by decide +kernel
theorem dL_isJoined_100 : decode cL_isJoined 100 = .ok (.aload_n 0, 1) := by decide +kernel
theorem dL_isJoined_101 : decode cL_isJoined 101 = .ok (.bipush 13, 2) := by decide +kernel
theorem dL_isJoined_103 : decode cL_isJoined 103 = .ok (.invokevirtual 8, 3) := by decide +kernel
theorem dL_isJoined_106 : decode cL_isJoined 106 = .ok (.if_icmp .le 20, 3) := by decide +kernel
theorem dL_isJoined_109 : decode cL_isJoined 109 = .ok (.aload 5, 2) := by decide +kernel
theorem dL_isJoined_111 : decode cL_isJoined 111 = .ok (.iconst 3, 1) := by decide +kernel
theorem dL_isJoined_112 : decode cL_isJoined 112 = .ok (.iaload, 1) := by decide +kernel
theorem dL_isJoined_113 : decode cL_isJoined 113 = .ok (.aload_n 0, 1) := by decide +kernel
theorem dL_isJoined_114 : decode cL_isJoined 114 = .ok (.bipush 13, 2) := by decide +kernel
theorem dL_isJoined_116 : decode cL_isJoined 116 = .ok (.invokevirtual 8, 3) := by decide +kernel
theorem dL_isJoined_119 : decode cL_isJoined 119 = .ok (.if_icmp .le 7, 3) := by decide +kernel
theorem dL_isJoined_122 : decode cL_isJoined 122 = .ok (.iconst 1, 1) := by decide +kernel
theorem dL_isJoined_123 : decode cL_isJoined 123 = .ok (.goto 4, 3) := by decide +kernel
theorem dL_isJoined_126 : decode cL_isJoined 126 = .ok (.iconst 0, 1) := by decide +kernel
theorem dL_isJoined_127 : decode cL_isJoined 127 = .ok (.istore 6, 2) := by decide +kernel
theorem dL_isJoined_129 : decode cL_isJoined 129 = .ok (.iload_n 1, 1) := by decide +kernel
theorem dL_isJoined_130 : decode cL_isJoined 130 = .ok (.iload_n 2, 1) := by decide +kernel
theorem dL_isJoined_131 : decode cL_isJoined 131 = .ok (.if_icmp .ge 7, 3) := by decide +kernel
theorem dL_isJoined_134 : decode cL_isJoined 134 = .ok (.iload_n 1, 1) := by decide +kernel
theorem dL_isJoined_135 : decode cL_isJoined 135 = .ok (.goto 4, 3) := by decide +kernel
theorem dL_isJoined_138 : decode cL_isJoined 138 = .ok (.iload_n 2, 1) := by decide +kernel
theorem dL_isJoined_139 : decode cL_isJoined 139 = .ok (.istore 7, 2) := by decide +kernel
theorem dL_isJoined_141 : decode cL_isJoined 141 = .ok (.aload_n 0, 1) := by decide +kernel
theorem dL_isJoined_142 : decode cL_isJoined 142 = .ok (.iload_n 1, 1) := by decide +kernel
theorem dL_isJoined_143 : decode cL_isJoined 143 = .ok (.iload_n 2, 1) := by decide +kernel
theorem dL_isJoined_144 : decode cL_isJoined 144 = .ok (.invokevirtual 48, 3) := by decide +kernel
theorem dL_isJoined_147 : decode cL_isJoined 147 = .ok (.istore 8, 2) := by decide +kernel
theorem dL_isJoined_149 : decode cL_isJoined 149 = .ok (.iload 6, 2) := by decide +kernel
theorem dL_isJoined_151 : decode cL_isJoined 151 = .ok (.ifCond .ne 45, 3) := by decide +kernel
theorem dL_isJoined_154 : decode cL_isJoined 154 = .ok (.iload 8, 2) := by decide +kernel
theorem dL_isJoined_156 : decode cL_isJoined 156 = .ok (.bipush (-5), 2) := by decide +kernel
theorem dL_isJoined_158 : decode cL_isJoined 158 = .ok (.if_icmp .ne 36, 3) := by decide +kernel
theorem dL_isJoined_161 : decode cL_isJoined 161 = .ok (.aload_n 0, 1) := by decide +kernel
theorem dL_isJoined_162 : decode cL_isJoined 162 = .ok (.iconst 1, 1) := by decide +kernel
theorem dL_isJoined_163 : decode cL_isJoined 163 = .ok (.invokevirtual 8, 3) := by decide +kernel
theorem dL_isJoined_166 : decode cL_isJoined 166 = .ok (.iload_n 3, 1) := by decide +kernel
theorem dL_isJoined_167 : decode cL_isJoined 167 = .ok (.if_icmp .ne 27, 3) := by decide +kernel
theorem dL_isJoined_170 : decode cL_isJoined 170 = .ok (.aload_n 0, 1) := by decide +kernel
theorem dL_isJoined_171 : decode cL_isJoined 171 = .ok (.iload_n 1, 1) := by decide +kernel
theorem dL_isJoined_172 : decode cL_isJoined 172 = .ok (.aload 4, 2) := by decide +kernel
theorem dL_isJoined_174 : decode cL_isJoined 174 = .ok (.invokestatic 54, 3) := by decide +kernel
theorem dL_isJoined_177 : decode cL_isJoined 177 = .ok (.ifCond .eq 17, 3) := by decide +kernel
theorem dL_isJoined_180 : decode cL_isJoined 180 = .ok (.aload_n 0, 1) := by decide +kernel
theorem dL_isJoined_181 : decode cL_isJoined 181 = .ok (.iload_n 2, 1) := by decide +kernel
theorem dL_isJoined_182 : decode cL_isJoined 182 = .ok (.aload 5, 2) := by decide +kernel
theorem dL_isJoined_184 : decode cL_isJoined 184 = .ok (.invokestatic 54, 3) := by decide +kernel
theorem dL_isJoined_187 : decode cL_isJoined 187 = .ok (.ifCond .eq 7, 3) := by decide +kernel
theorem dL_isJoined_190 : decode cL_isJoined 190 = .ok (.iconst 1, 1) := by decide +kernel
theorem dL_isJoined_191 : decode cL_isJoined 191 = .ok (.goto 4, 3) := by decide +kernel
theorem dL_isJoined_194 : decode cL_isJoined 194 = .ok (.iconst 0, 1) := by decide +kernel
theorem dL_isJoined_195 : decode cL_isJoined 195 = .ok (.ireturn, 1) := by decide +kernel
theorem dL_isJoined_196 : decode cL_isJoined 196 = .ok (.iload 8, 2) := by decide +kernel
theorem dL_isJoined_198 : decode cL_isJoined 198 = .ok (.iload 7, 2) := by decide +kernel
theorem dL_isJoined_200 : decode cL_isJoined 200 = .ok (.if_icmp .ne 119, 3) := by decide +kernel
theorem dL_isJoined_203 : decode cL_isJoined 203 = .ok (.aload_n 0, 1) := by decide +kernel
theorem dL_isJoined_204 : decode cL_isJoined 204 = .ok (.iconst 1, 1) := by decide +kernel
theorem dL_isJoined_205 : decode cL_isJoined 205 = .ok (.invokevirtual 8, 3) := by decide +kernel
theorem dL_isJoined_208 : decode cL_isJoined 208 = .ok (.iload_n 3, 1) := by decide +kernel
theorem dL_isJoined_209 : decode cL_isJoined 209 = .ok (.iconst 1, 1) := by decide +kernel
theorem dL_isJoined_210 : decode cL_isJoined 210 = .ok (.isub, 1) := by decide +kernel
theorem dL_isJoined_211 : decode cL_isJoined 211 = .ok (.if_icmp .ne 108, 3) := by decide +kernel
theorem dL_isJoined_214 : decode cL_isJoined 214 = .ok (.aload_n 0, 1) := by decide +kernel
theorem dL_isJoined_215 : decode cL_isJoined 215 = .ok (.iload 7, 2) := by decide +kernel
theorem dL_isJoined_217 : decode cL_isJoined 217 = .ok (.iconst 3, 1) := by decide +kernel
theorem dL_isJoined_218 : decode cL_isJoined 218 = .ok (.invokevirtual 14, 3) := by decide +kernel
theorem dL_isJoined_221 : decode cL_isJoined 221 = .ok (.aload 4, 2) := by decide +kernel
theorem dL_isJoined_223 : decode cL_isJoined 223 = .ok (.iconst 3, 1) := by decide +kernel
theorem dL_isJoined_224 : decode cL_isJoined 224 = .ok (.iaload, 1) := by decide +kernel
theorem dL_isJoined_225 : decode cL_isJoined 225 = .ok (.aload 5, 2) := by decide +kernel
theorem dL_isJoined_227 : decode cL_isJoined 227 = .ok (.iconst 3, 1) := by decide +kernel
theorem dL_isJoined_228 : decode cL_isJoined 228 = .ok (.iaload, 1) := by decide +kernel
theorem dL_isJoined_229 : decode cL_isJoined 229 = .ok (.iadd, 1) := by decide +kernel
theorem dL_isJoined_230 : decode cL_isJoined 230 = .ok (.aload_n 0, 1) := by decide +kernel
theorem dL_isJoined_231 : decode cL_isJoined 231 = .ok (.bipush 13, 2) := by decide +kernel
theorem dL_isJoined_233 : decode cL_isJoined 233 = .ok (.invokevirtual 8, 3) := by decide +kernel
theorem dL_isJoined_236 : decode cL_isJoined 236 = .ok (.isub, 1) := by decide +kernel
theorem dL_isJoined_237 : decode cL_isJoined 237 = .ok (.if_icmp .ne 82, 3) := by decide +kernel
theorem dL_isJoined_240 : decode cL_isJoined 240 = .ok (.aload_n 0, 1) := by decide +kernel
theorem dL_isJoined_241 : decode cL_isJoined 241 = .ok (.iload 7, 2) := by decide +kernel
theorem dL_isJoined_243 : decode cL_isJoined 243 = .ok (.iconst 4, 1) := by decide +kernel
theorem dL_isJoined_244 : decode cL_isJoined 244 = .ok (.invokevirtual 14, 3) := by decide +kernel
theorem dL_isJoined_247 : decode cL_isJoined 247 = .ok (.aload 4, 2) := by decide +kernel
theorem dL_isJoined_249 : decode cL_isJoined 249 = .ok (.iconst 4, 1) := by decide +kernel
theorem dL_isJoined_250 : decode cL_isJoined 250 = .ok (.iaload, 1) := by decide +kernel
theorem dL_isJoined_251 : decode cL_isJoined 251 = .ok (.aload 5, 2) := by decide +kernel
theorem dL_isJoined_253 : decode cL_isJoined 253 = .ok (.iconst 4, 1) := by decide +kernel
theorem dL_isJoined_254 : decode cL_isJoined 254 = .ok (.iaload, 1) := by decide +kernel
theorem dL_isJoined_255 : decode cL_isJoined 255 = .ok (.iadd, 1) := by decide +kernel
theorem dL_isJoined_256 : decode cL_isJoined 256 = .ok (.if_icmp .ne 63, 3) := by decide +kernel
theorem dL_isJoined_259 : decode cL_isJoined 259 = .ok (.aload_n 0, 1) := by decide +kernel
theorem dL_isJoined_260 : decode cL_isJoined 260 = .ok (.iload 7, 2) := by decide +kernel
theorem dL_isJoined_262 : decode cL_isJoined 262 = .ok (.iconst 5, 1) := by decide +kernel
theorem dL_isJoined_263 : decode cL_isJoined 263 = .ok (.invokevirtual 14, 3) := by decide +kernel
theorem dL_isJoined_266 : decode cL_isJoined 266 = .ok (.aload 4, 2) := by decide +kernel
theorem dL_isJoined_268 : decode cL_isJoined 268 = .ok (.iconst 5, 1) := by decide +kernel
theorem dL_isJoined_269 : decode cL_isJoined 269 = .ok (.iaload, 1) := by decide +kernel
theorem dL_isJoined_270 : decode cL_isJoined 270 = .ok (.aload 5, 2) := by decide +kernel
theorem dL_isJoined_272 : decode cL_isJoined 272 = .ok (.iconst 5, 1) := by decide +kernel
theorem dL_isJoined_273 : decode cL_isJoined 273 = .ok (.iaload, 1) := by decide +kernel
theorem dL_isJoined_274 : decode cL_isJoined 274 = .ok (.if_icmp .ge 10, 3) := by decide +kernel
theorem dL_isJoined_277 : decode cL_isJoined 277 = .ok (.aload 4, 2) := by decide +kernel
theorem dL_isJoined_279 : decode cL_isJoined 279 = .ok (.iconst 5, 1) := by decide +kernel
theorem dL_isJoined_280 : decode cL_isJoined 280 = .ok (.iaload, 1) := by decide +kernel
theorem dL_isJoined_281 : decode cL_isJoined 281 = .ok (.goto 7, 3) := by decide +kernel
theorem dL_isJoined_284 : decode cL_isJoined 284 = .ok (.aload 5, 2) := by decide +kernel
theorem dL_isJoined_286 : decode cL_isJoined 286 = .ok (.iconst 5, 1) := by decide +kernel
theorem dL_isJoined_287 : decode cL_isJoined 287 = .ok (.iaload, 1) := by decide +kernel
theorem dL_isJoined_288 : decode cL_isJoined 288 = .ok (.if_icmp .ne 31, 3) := by decide +kernel
theorem dL_isJoined_291 : decode cL_isJoined 291 = .ok (.aload_n 0, 1) := by decide +kernel
theorem dL_isJoined_292 : decode cL_isJoined 292 = .ok (.iload 7, 2) := by decide +kernel
theorem dL_isJoined_294 : decode cL_isJoined 294 = .ok (.bipush 6, 2) := by decide +kernel
theorem dL_isJoined_296 : decode cL_isJoined 296 = .ok (.invokevirtual 14, 3) := by decide +kernel
theorem dL_isJoined_299 : decode cL_isJoined 299 = .ok (.aload 4, 2) := by decide +kernel
theorem dL_isJoined_301 : decode cL_isJoined 301 = .ok (.bipush 6, 2) := by decide +kernel
theorem dL_isJoined_303 : decode cL_isJoined 303 = .ok (.iaload, 1) := by decide +kernel
theorem dL_isJoined_304 : decode cL_isJoined 304 = .ok (.aload 5, 2) := by decide +kernel
theorem dL_isJoined_306 : decode cL_isJoined 306 = .ok (.bipush 6, 2) := by decide +kernel
theorem dL_isJoined_308 : decode cL_isJoined 308 = .ok (.iaload, 1) := by decide +kernel
theorem dL_isJoined_309 : decode cL_isJoined 309 = .ok (.iadd, 1) := by decide +kernel
theorem dL_isJoined_310 : decode cL_isJoined 310 = .ok (.iconst 1, 1) := by decide +kernel
theorem dL_isJoined_311 : decode cL_isJoined 311 = .ok (.iadd, 1) := by decide +kernel
theorem dL_isJoined_312 : decode cL_isJoined 312 = .ok (.if_icmp .ne 7, 3) := by decide +kernel
theorem dL_isJoined_315 : decode cL_isJoined 315 = .ok (.iconst 1, 1) := by decide +kernel
theorem dL_isJoined_316 : decode cL_isJoined 316 = .ok (.goto 4, 3) := by decide +kernel
theorem dL_isJoined_319 : decode cL_isJoined 319 = .ok (.iconst 0, 1) := by decide +kernel
theorem dL_isJoined_320 : decode cL_isJoined 320 = .ok (.ireturn, 1) := by decide +kernel
theorem dL_isCut_0 : decode cL_isCut 0 = .ok (.aload_n 2, 1) := by decide +kernel
theorem dL_isCut_1 : decode cL_isCut 1 = .ok (.iconst 4, 1) := by decide +kernel
theorem dL_isCut_2 : decode cL_isCut 2 = .ok (.iaload, 1) := by decide +kernel
theorem dL_isCut_3 : decode cL_isCut 3 = .ok (.i2l, 1) := by decide +kernel
theorem dL_isCut_4 : decode cL_isCut 4 = .ok (.iload 4, 2) := by decide +kernel
theorem dL_isCut_6 : decode cL_isCut 6 = .ok (.i2l, 1) := by decide +kernel
theorem dL_isCut_7 : decode cL_isCut 7 = .ok (.lmul, 1) := by decide +kernel
theorem dL_isCut_8 : decode cL_isCut 8 = .ok (.aload_n 2, 1) := by decide +kernel
theorem dL_isCut_9 : decode cL_isCut 9 = .ok (.iconst 3, 1) := by decide +kernel
theorem dL_isCut_10 : decode cL_isCut 10 = .ok (.iaload, 1) := by decide +kernel
theorem dL_isCut_11 : decode cL_isCut 11 = .ok (.i2l, 1) := by decide +kernel
theorem dL_isCut_12 : decode cL_isCut 12 = .ok (.ldiv, 1) := by decide +kernel
theorem dL_isCut_13 : decode cL_isCut 13 = .ok (.l2i, 1) := by decide +kernel
theorem dL_isCut_14 : decode cL_isCut 14 = .ok (.istore 6, 2) := by decide +kernel
theorem dL_isCut_16 : decode cL_isCut 16 = .ok (.aload_n 2, 1) := by decide +kernel
theorem dL_isCut_17 : decode cL_isCut 17 = .ok (.iconst 3, 1) := by decide +kernel
theorem dL_isCut_18 : decode cL_isCut 18 = .ok (.iaload, 1) := by decide +kernel
theorem dL_isCut_19 : decode cL_isCut 19 = .ok (.iload 4, 2) := by decide +kernel
theorem dL_isCut_21 : decode cL_isCut 21 = .ok (.isub, 1) := by decide +kernel
theorem dL_isCut_22 : decode cL_isCut 22 = .ok (.istore 7, 2) := by decide +kernel
theorem dL_isCut_24 : decode cL_isCut 24 = .ok (.iload 7, 2) := by decide +kernel
theorem dL_isCut_26 : decode cL_isCut 26 = .ok (.ifCond .le 82, 3) := by decide +kernel
theorem dL_isCut_29 : decode cL_isCut 29 = .ok (.iload 7, 2) := by decide +kernel
theorem dL_isCut_31 : decode cL_isCut 31 = .ok (.aload_n 0, 1) := by decide +kernel
theorem dL_isCut_32 : decode cL_isCut 32 = .ok (.bipush 15, 2) := by decide +kernel
theorem dL_isCut_34 : decode cL_isCut 34 = .ok (.invokevirtual 8, 3) := by decide +kernel
theorem dL_isCut_37 : decode cL_isCut 37 = .ok (.if_icmp .lt 71, 3) := by decide +kernel
theorem dL_isCut_40 : decode cL_isCut 40 = .ok (.aload_n 0, 1) := by decide +kernel
theorem dL_isCut_41 : decode cL_isCut 41 = .ok (.iconst 1, 1) := by decide +kernel
theorem dL_isCut_42 : decode cL_isCut 42 = .ok (.invokevirtual 8, 3) := by decide +kernel
theorem dL_isCut_45 : decode cL_isCut 45 = .ok (.iload 5, 2) := by decide +kernel
theorem dL_isCut_47 : decode cL_isCut 47 = .ok (.if_icmp .ne 59, 3) := by decide +kernel
theorem dL_isCut_50 : decode cL_isCut 50 = .ok (.aload_n 0, 1) := by decide +kernel
theorem dL_isCut_51 : decode cL_isCut 51 = .ok (.iload_n 1, 1) := by decide +kernel
theorem dL_isCut_52 : decode cL_isCut 52 = .ok (.iconst 3, 1) := by decide +kernel
theorem dL_isCut_53 : decode cL_isCut 53 = .ok (.invokevirtual 14, 3) := by decide +kernel
theorem dL_isCut_56 : decode cL_isCut 56 = .ok (.iload 7, 2) := by decide +kernel
theorem dL_isCut_58 : decode cL_isCut 58 = .ok (.if_icmp .ne 48, 3) := by decide +kernel
theorem dL_isCut_61 : decode cL_isCut 61 = .ok (.aload_n 0, 1) := by decide +kernel
theorem dL_isCut_62 : decode cL_isCut 62 = .ok (.iload_n 1, 1) := by decide +kernel
theorem dL_isCut_63 : decode cL_isCut 63 = .ok (.iconst 4, 1) := by decide +kernel
theorem dL_isCut_64 : decode cL_isCut 64 = .ok (.invokevirtual 14, 3) := by decide +kernel
theorem dL_isCut_67 : decode cL_isCut 67 = .ok (.aload_n 2, 1) := by decide +kernel
theorem dL_isCut_68 : decode cL_isCut 68 = .ok (.iconst 4, 1) := by decide +kernel
theorem dL_isCut_69 : decode cL_isCut 69 = .ok (.iaload, 1) := by decide +kernel
theorem dL_isCut_70 : decode cL_isCut 70 = .ok (.iload 6, 2) := by decide +kernel
theorem dL_isCut_72 : decode cL_isCut 72 = .ok (.isub, 1) := by decide +kernel
theorem dL_isCut_73 : decode cL_isCut 73 = .ok (.if_icmp .ne 33, 3) := by decide +kernel
theorem dL_isCut_76 : decode cL_isCut 76 = .ok (.aload_n 0, 1) := by decide +kernel
theorem dL_isCut_77 : decode cL_isCut 77 = .ok (.iload_n 1, 1) := by decide +kernel
theorem dL_isCut_78 : decode cL_isCut 78 = .ok (.iconst 5, 1) := by decide +kernel
theorem dL_isCut_79 : decode cL_isCut 79 = .ok (.invokevirtual 14, 3) := by decide +kernel
theorem dL_isCut_82 : decode cL_isCut 82 = .ok (.aload_n 2, 1) := by decide +kernel
theorem dL_isCut_83 : decode cL_isCut 83 = .ok (.iconst 5, 1) := by decide +kernel
theorem dL_isCut_84 : decode cL_isCut 84 = .ok (.iaload, 1) := by decide +kernel
theorem dL_isCut_85 : decode cL_isCut 85 = .ok (.if_icmp .ne 21, 3) := by decide +kernel
theorem dL_isCut_88 : decode cL_isCut 88 = .ok (.aload_n 0, 1) := by decide +kernel
theorem dL_isCut_89 : decode cL_isCut 89 = .ok (.iload_n 1, 1) := by decide +kernel
theorem dL_isCut_90 : decode cL_isCut 90 = .ok (.bipush 6, 2) := by decide +kernel
theorem dL_isCut_92 : decode cL_isCut 92 = .ok (.invokevirtual 14, 3) := by decide +kernel
theorem dL_isCut_95 : decode cL_isCut 95 = .ok (.aload_n 2, 1) := by decide +kernel
theorem dL_isCut_96 : decode cL_isCut 96 = .ok (.bipush 6, 2) := by decide +kernel
theorem dL_isCut_98 : decode cL_isCut 98 = .ok (.iaload, 1) := by decide +kernel
theorem dL_isCut_99 : decode cL_isCut 99 = .ok (.if_icmp .ne 7, 3) := by decide +kernel
theorem dL_isCut_102 : decode cL_isCut 102 = .ok (.iconst 1, 1) := by decide +kernel
theorem dL_isCut_103 : decode cL_isCut 103 = .ok (.goto 4, 3) := by decide +kernel
theorem dL_isCut_106 : decode cL_isCut 106 = .ok (.iconst 0, 1) := by decide +kernel
theorem dL_isCut_107 : decode cL_isCut 107 = .ok (.ireturn, 1) := by decide +kernel
theorem dL_isCut_108 : decode cL_isCut 108 = .ok (.aload_n 0, 1) := by decide +kernel
theorem dL_isCut_109 : decode cL_isCut 109 = .ok (.iconst 1, 1) := by decide +kernel
theorem dL_isCut_110 : decode cL_isCut 110 = .ok (.invokevirtual 8, 3) := by decide +kernel
theorem dL_isCut_113 : decode cL_isCut 113 = .ok (.iload 5, 2) := by decide +kernel
theorem dL_isCut_115 : decode cL_isCut 115 = .ok (.iconst 1, 1) := by decide +kernel
theorem dL_isCut_116 : decode cL_isCut 116 = .ok (.isub, 1) := by decide +kernel
theorem dL_isCut_117 : decode cL_isCut 117 = .ok (.if_icmp .ne 24, 3) := by decide +kernel
theorem dL_isCut_120 : decode cL_isCut 120 = .ok (.iload_n 1, 1) := by decide +kernel
theorem dL_isCut_121 : decode cL_isCut 121 = .ok (.iload 5, 2) := by decide +kernel
theorem dL_isCut_123 : decode cL_isCut 123 = .ok (.iconst 1, 1) := by decide +kernel
theorem dL_isCut_124 : decode cL_isCut 124 = .ok (.isub, 1) := by decide +kernel
theorem dL_isCut_125 : decode cL_isCut 125 = .ok (.if_icmp .eq 12, 3) := by decide +kernel
theorem dL_isCut_128 : decode cL_isCut 128 = .ok (.aload_n 0, 1) := by decide +kernel
theorem dL_isCut_129 : decode cL_isCut 129 = .ok (.iload_n 1, 1) := by decide +kernel
theorem dL_isCut_130 : decode cL_isCut 130 = .ok (.aload_n 3, 1) := by decide +kernel
theorem dL_isCut_131 : decode cL_isCut 131 = .ok (.invokestatic 54, 3) := by decide +kernel
theorem dL_isCut_134 : decode cL_isCut 134 = .ok (.ifCond .eq 7, 3) := by decide +kernel
theorem dL_isCut_137 : decode cL_isCut 137 = .ok (.iconst 1, 1) := by decide +kernel
theorem dL_isCut_138 : decode cL_isCut 138 = .ok (.goto 4, 3) := by decide +kernel
theorem dL_isCut_141 : decode cL_isCut 141 = .ok (.iconst 0, 1) := by decide +kernel
theorem dL_isCut_142 : decode cL_isCut 142 = .ok (.ireturn, 1) := by decide +kernel
theorem dL_isTested_0 : decode cL_isTested 0 = .ok (.aload_n 0, 1) := by decide +kernel
theorem dL_isTested_1 : decode cL_isTested 1 = .ok (.iconst 1, 1) := by decide +kernel
theorem dL_isTested_2 : decode cL_isTested 2 = .ok (.invokevirtual 8, 3) := by decide +kernel
theorem dL_isTested_5 : decode cL_isTested 5 = .ok (.istore_n 2, 1) := by decide +kernel
theorem dL_isTested_6 : decode cL_isTested 6 = .ok (.iload_n 1, 1) := by decide +kernel
theorem dL_isTested_7 : decode cL_isTested 7 = .ok (.iload_n 2, 1) := by decide +kernel
theorem dL_isTested_8 : decode cL_isTested 8 = .ok (.if_icmp .lt 18, 3) := by decide +kernel
theorem dL_isTested_11 : decode cL_isTested 11 = .ok (.aload_n 0, 1) := by decide +kernel
theorem dL_isTested_12 : decode cL_isTested 12 = .ok (.iload_n 1, 1) := by decide +kernel
theorem dL_isTested_13 : decode cL_isTested 13 = .ok (.invokevirtual 58, 3) := by decide +kernel
theorem dL_isTested_16 : decode cL_isTested 16 = .ok (.iconst (-1), 1) := by decide +kernel
theorem dL_isTested_17 : decode cL_isTested 17 = .ok (.if_icmp .ne 7, 3) := by decide +kernel
theorem dL_isTested_20 : decode cL_isTested 20 = .ok (.iconst 1, 1) := by decide +kernel
theorem dL_isTested_21 : decode cL_isTested 21 = .ok (.goto 4, 3) := by decide +kernel
theorem dL_isTested_24 : decode cL_isTested 24 = .ok (.iconst 0, 1) := by decide +kernel
theorem dL_isTested_25 : decode cL_isTested 25 = .ok (.ireturn, 1) := by decide +kernel
theorem dL_isTested_26 : decode cL_isTested 26 = .ok (.bipush 8, 2) := by decide +kernel
theorem dL_isTested_28 : decode cL_isTested 28 = .ok (.newarray .int, 2) := by decide +kernel
theorem dL_isTested_30 : decode cL_isTested 30 = .ok (.astore_n 3, 1) := by decide +kernel
theorem dL_isTested_31 : decode cL_isTested 31 = .ok (.bipush 8, 2) := by decide +kernel
theorem dL_isTested_33 : decode cL_isTested 33 = .ok (.newarray .int, 2) := by decide +kernel
theorem dL_isTested_35 : decode cL_isTested 35 = .ok (.astore 4, 2) := by decide +kernel
theorem dL_isTested_37 : decode cL_isTested 37 = .ok (.aload_n 0, 1) := by decide +kernel
theorem dL_isTested_38 : decode cL_isTested 38 = .ok (.iload_n 1, 1) := by decide +kernel
theorem dL_isTested_39 : decode cL_isTested 39 = .ok (.aload_n 3, 1) := by decide +kernel
theorem dL_isTested_40 : decode cL_isTested 40 = .ok (.invokestatic 51, 3) := by decide +kernel
theorem dL_isTested_43 : decode cL_isTested 43 = .ok (.iload_n 1, 1) := by decide +kernel
theorem dL_isTested_44 : decode cL_isTested 44 = .ok (.iconst 1, 1) := by decide +kernel
theorem dL_isTested_45 : decode cL_isTested 45 = .ok (.iadd, 1) := by decide +kernel
theorem dL_isTested_46 : decode cL_isTested 46 = .ok (.iload_n 2, 1) := by decide +kernel
theorem dL_isTested_47 : decode cL_isTested 47 = .ok (.if_icmp .ge 12, 3) := by decide +kernel
theorem dL_isTested_50 : decode cL_isTested 50 = .ok (.aload_n 0, 1) := by decide +kernel
theorem dL_isTested_51 : decode cL_isTested 51 = .ok (.iload_n 1, 1) := by decide +kernel
theorem dL_isTested_52 : decode cL_isTested 52 = .ok (.iconst 1, 1) := by decide +kernel
theorem dL_isTested_53 : decode cL_isTested 53 = .ok (.iadd, 1) := by decide +kernel
theorem dL_isTested_54 : decode cL_isTested 54 = .ok (.aload 4, 2) := by decide +kernel
theorem dL_isTested_56 : decode cL_isTested 56 = .ok (.invokestatic 51, 3) := by decide +kernel
theorem dL_isTested_59 : decode cL_isTested 59 = .ok (.aload_n 0, 1) := by decide +kernel
theorem dL_isTested_60 : decode cL_isTested 60 = .ok (.aload_n 3, 1) := by decide +kernel
theorem dL_isTested_61 : decode cL_isTested 61 = .ok (.iconst 0, 1) := by decide +kernel
theorem dL_isTested_62 : decode cL_isTested 62 = .ok (.iaload, 1) := by decide +kernel
theorem dL_isTested_63 : decode cL_isTested 63 = .ok (.iconst 4, 1) := by decide +kernel
theorem dL_isTested_64 : decode cL_isTested 64 = .ok (.invokevirtual 18, 3) := by decide +kernel
theorem dL_isTested_67 : decode cL_isTested 67 = .ok (.istore 5, 2) := by decide +kernel
theorem dL_isTested_69 : decode cL_isTested 69 = .ok (.aload_n 0, 1) := by decide +kernel
theorem dL_isTested_70 : decode cL_isTested 70 = .ok (.aload_n 3, 1) := by decide +kernel
theorem dL_isTested_71 : decode cL_isTested 71 = .ok (.iconst 0, 1) := by decide +kernel
theorem dL_isTested_72 : decode cL_isTested 72 = .ok (.iaload, 1) := by decide +kernel
theorem dL_isTested_73 : decode cL_isTested 73 = .ok (.iconst 5, 1) := by decide +kernel
theorem dL_isTested_74 : decode cL_isTested 74 = .ok (.invokevirtual 18, 3) := by decide +kernel
theorem dL_isTested_77 : decode cL_isTested 77 = .ok (.istore 6, 2) := by decide +kernel
theorem dL_isTested_79 : decode cL_isTested 79 = .ok (.aload_n 0, 1) := by decide +kernel
theorem dL_isTested_80 : decode cL_isTested 80 = .ok (.bipush 14, 2) := by decide +kernel
theorem dL_isTested_82 : decode cL_isTested 82 = .ok (.invokevirtual 8, 3) := by decide +kernel
theorem dL_isTested_85 : decode cL_isTested 85 = .ok (.istore 7, 2) := by decide +kernel
theorem dL_isTested_87 : decode cL_isTested 87 = .ok (.aload_n 3, 1) := by decide +kernel
theorem dL_isTested_88 : decode cL_isTested 88 = .ok (.iconst 3, 1) := by decide +kernel
theorem dL_isTested_89 : decode cL_isTested 89 = .ok (.iaload, 1) := by decide +kernel
theorem dL_isTested_90 : decode cL_isTested 90 = .ok (.iload 7, 2) := by decide +kernel
theorem dL_isTested_92 : decode cL_isTested 92 = .ok (.if_icmp .ge 28, 3) := by decide +kernel
theorem dL_isTested_95 : decode cL_isTested 95 = .ok (.aload_n 0, 1) := by decide +kernel
theorem dL_isTested_96 : decode cL_isTested 96 = .ok (.iload_n 1, 1) := by decide +kernel
theorem dL_isTested_97 : decode cL_isTested 97 = .ok (.invokevirtual 58, 3) := by decide +kernel
theorem dL_isTested_100 : decode cL_isTested 100 = .ok (.bipush (-5), 2) := by decide +kernel
theorem dL_isTested_102 : decode cL_isTested 102 = .ok (.if_icmp .ne 16, 3) := by decide +kernel
theorem dL_isTested_105 : decode cL_isTested 105 = .ok (.aload_n 0, 1) := by decide +kernel
theorem dL_isTested_106 : decode cL_isTested 106 = .ok (.iload_n 1, 1) := by decide +kernel
theorem dL_isTested_107 : decode cL_isTested 107 = .ok (.aload_n 3, 1) := by decide +kernel
theorem dL_isTested_108 : decode cL_isTested 108 = .ok (.invokestatic 54, 3) := by decide +kernel
theorem dL_isTested_111 : decode cL_isTested 111 = .ok (.ifCond .eq 7, 3) := by decide +kernel
theorem dL_isTested_114 : decode cL_isTested 114 = .ok (.iconst 1, 1) := by decide +kernel
theorem dL_isTested_115 : decode cL_isTested 115 = .ok (.goto 4, 3) := by decide +kernel
theorem dL_isTested_118 : decode cL_isTested 118 = .ok (.iconst 0, 1) := by decide +kernel
theorem dL_isTested_119 : decode cL_isTested 119 = .ok (.ireturn, 1) := by decide +kernel
theorem dL_isTested_120 : decode cL_isTested 120 = .ok (.aload_n 3, 1) := by decide +kernel
theorem dL_isTested_121 : decode cL_isTested 121 = .ok (.iconst 4, 1) := by decide +kernel
theorem dL_isTested_122 : decode cL_isTested 122 = .ok (.iaload, 1) := by decide +kernel
theorem dL_isTested_123 : decode cL_isTested 123 = .ok (.i2l, 1) := by decide +kernel
theorem dL_isTested_124 : decode cL_isTested 124 = .ok (.iload 7, 2) := by decide +kernel
theorem dL_isTested_126 : decode cL_isTested 126 = .ok (.i2l, 1) := by decide +kernel
theorem dL_isTested_127 : decode cL_isTested 127 = .ok (.lmul, 1) := by decide +kernel
theorem dL_isTested_128 : decode cL_isTested 128 = .ok (.aload_n 3, 1) := by decide +kernel
theorem dL_isTested_129 : decode cL_isTested 129 = .ok (.iconst 3, 1) := by decide +kernel
theorem dL_isTested_130 : decode cL_isTested 130 = .ok (.iaload, 1) := by decide +kernel
theorem dL_isTested_131 : decode cL_isTested 131 = .ok (.i2l, 1) := by decide +kernel
theorem dL_isTested_132 : decode cL_isTested 132 = .ok (.ldiv, 1) := by decide +kernel
theorem dL_isTested_133 : decode cL_isTested 133 = .ok (.l2i, 1) := by decide +kernel
theorem dL_isTested_134 : decode cL_isTested 134 = .ok (.istore 8, 2) := by decide +kernel
theorem dL_isTested_136 : decode cL_isTested 136 = .ok (.aload_n 3, 1) := by decide +kernel
theorem dL_isTested_137 : decode cL_isTested 137 = .ok (.iconst 3, 1) := by decide +kernel
theorem dL_isTested_138 : decode cL_isTested 138 = .ok (.iaload, 1) := by decide +kernel
theorem dL_isTested_139 : decode cL_isTested 139 = .ok (.iload 7, 2) := by decide +kernel
theorem dL_isTested_141 : decode cL_isTested 141 = .ok (.isub, 1) := by decide +kernel
theorem dL_isTested_142 : decode cL_isTested 142 = .ok (.istore 9, 2) := by decide +kernel
theorem dL_isTested_144 : decode cL_isTested 144 = .ok (.iload 9, 2) := by decide +kernel
theorem dL_isTested_146 : decode cL_isTested 146 = .ok (.ifCond .le 18, 3) := by decide +kernel
theorem dL_isTested_149 : decode cL_isTested 149 = .ok (.iload 9, 2) := by decide +kernel
theorem dL_isTested_151 : decode cL_isTested 151 = .ok (.aload_n 0, 1) := by decide +kernel
theorem dL_isTested_152 : decode cL_isTested 152 = .ok (.bipush 15, 2) := by decide +kernel
theorem dL_isTested_154 : decode cL_isTested 154 = .ok (.invokevirtual 8, 3) := by decide +kernel
theorem dL_isTested_157 : decode cL_isTested 157 = .ok (.if_icmp .ge 7, 3) := by decide +kernel
theorem dL_isTested_160 : decode cL_isTested 160 = .ok (.iconst 1, 1) := by decide +kernel
theorem dL_isTested_161 : decode cL_isTested 161 = .ok (.goto 4, 3) := by decide +kernel
theorem dL_isTested_164 : decode cL_isTested 164 = .ok (.iconst 0, 1) := by decide +kernel
theorem dL_isTested_165 : decode cL_isTested 165 = .ok (.istore 10, 2) := by decide +kernel
theorem dL_isTested_167 : decode cL_isTested 167 = .ok (.aload_n 0, 1) := by decide +kernel
theorem dL_isTested_168 : decode cL_isTested 168 = .ok (.iload_n 1, 1) := by decide +kernel
theorem dL_isTested_169 : decode cL_isTested 169 = .ok (.invokevirtual 58, 3) := by decide +kernel
theorem dL_isTested_172 : decode cL_isTested 172 = .ok (.aload_n 3, 1) := by decide +kernel
theorem dL_isTested_173 : decode cL_isTested 173 = .ok (.bipush 7, 2) := by decide +kernel
theorem dL_isTested_175 : decode cL_isTested 175 = .ok (.iaload, 1) := by decide +kernel
theorem dL_isTested_176 : decode cL_isTested 176 = .ok (.if_icmp .ne 66, 3) := by decide +kernel
theorem dL_isTested_179 : decode cL_isTested 179 = .ok (.aload_n 0, 1) := by decide +kernel
theorem dL_isTested_180 : decode cL_isTested 180 = .ok (.iload_n 1, 1) := by decide +kernel
theorem dL_isTested_181 : decode cL_isTested 181 = .ok (.aload_n 3, 1) := by decide +kernel
theorem dL_isTested_182 : decode cL_isTested 182 = .ok (.aload 4, 2) := by decide +kernel
theorem dL_isTested_184 : decode cL_isTested 184 = .ok (.iload 7, 2) := by decide +kernel
theorem dL_isTested_186 : decode cL_isTested 186 = .ok (.iload_n 2, 1) := by decide +kernel
theorem dL_isTested_187 : decode cL_isTested 187 = .ok (.invokestatic 61, 3) := by decide +kernel
theorem dL_isTested_190 : decode cL_isTested 190 = .ok (.ifCond .eq 52, 3) := by decide +kernel
theorem dL_isTested_193 : decode cL_isTested 193 = .ok (.aload_n 0, 1) := by decide +kernel
theorem dL_isTested_194 : decode cL_isTested 194 = .ok (.aload_n 3, 1) := by decide +kernel
theorem dL_isTested_195 : decode cL_isTested 195 = .ok (.iconst 0, 1) := by decide +kernel
theorem dL_isTested_196 : decode cL_isTested 196 = .ok (.iaload, 1) := by decide +kernel
theorem dL_isTested_197 : decode cL_isTested 197 = .ok (.iconst 4, 1) := by decide +kernel
theorem dL_isTested_198 : decode cL_isTested 198 = .ok (.invokevirtual 18, 3) := by decide +kernel
theorem dL_isTested_201 : decode cL_isTested 201 = .ok (.iload 5, 2) := by decide +kernel
theorem dL_isTested_203 : decode cL_isTested 203 = .ok (.iload 8, 2) := by decide +kernel
theorem dL_isTested_205 : decode cL_isTested 205 = .ok (.iadd, 1) := by decide +kernel
theorem dL_isTested_206 : decode cL_isTested 206 = .ok (.if_icmp .ne 36, 3) := by decide +kernel
theorem dL_isTested_209 : decode cL_isTested 209 = .ok (.aload_n 0, 1) := by decide +kernel
theorem dL_isTested_210 : decode cL_isTested 210 = .ok (.aload_n 3, 1) := by decide +kernel
theorem dL_isTested_211 : decode cL_isTested 211 = .ok (.iconst 0, 1) := by decide +kernel
theorem dL_isTested_212 : decode cL_isTested 212 = .ok (.iaload, 1) := by decide +kernel
theorem dL_isTested_213 : decode cL_isTested 213 = .ok (.iconst 5, 1) := by decide +kernel
theorem dL_isTested_214 : decode cL_isTested 214 = .ok (.invokevirtual 18, 3) := by decide +kernel
theorem dL_isTested_217 : decode cL_isTested 217 = .ok (.iload 6, 2) := by decide +kernel
theorem dL_isTested_219 : decode cL_isTested 219 = .ok (.iload 10, 2) := by decide +kernel
theorem dL_isTested_221 : decode cL_isTested 221 = .ok (.ifCond .eq 12, 3) := by decide +kernel
theorem dL_isTested_224 : decode cL_isTested 224 = .ok (.aload_n 3, 1) := by decide +kernel
theorem dL_isTested_225 : decode cL_isTested 225 = .ok (.iconst 4, 1) := by decide +kernel
theorem dL_isTested_226 : decode cL_isTested 226 = .ok (.iaload, 1) := by decide +kernel
theorem dL_isTested_227 : decode cL_isTested 227 = .ok (.iload 8, 2) := by decide +kernel
theorem dL_isTested_229 : decode cL_isTested 229 = .ok (.isub, 1) := by decide +kernel
theorem dL_isTested_230 : decode cL_isTested 230 = .ok (.goto 4, 3) := by decide +kernel
theorem dL_isTested_233 : decode cL_isTested 233 = .ok (.iconst 0, 1) := by decide +kernel
theorem dL_isTested_234 : decode cL_isTested 234 = .ok (.iadd, 1) := by decide +kernel
theorem dL_isTested_235 : decode cL_isTested 235 = .ok (.if_icmp .ne 7, 3) := by decide +kernel
theorem dL_isTested_238 : decode cL_isTested 238 = .ok (.iconst 1, 1) := by decide +kernel
theorem dL_isTested_239 : decode cL_isTested 239 = .ok (.goto 4, 3) := by decide +kernel
theorem dL_isTested_242 : decode cL_isTested 242 = .ok (.iconst 0, 1) := by decide +kernel
theorem dL_isTested_243 : decode cL_isTested 243 = .ok (.ireturn, 1) := by decide +kernel
theorem dL_suits_0 : decode cL_suits 0 = .ok (.aload_n 0, 1) := by decide +kernel
theorem dL_suits_1 : decode cL_suits 1 = .ok (.iload_n 1, 1) := by decide +kernel
theorem dL_suits_2 : decode cL_suits 2 = .ok (.iconst 0, 1) := by decide +kernel
theorem dL_suits_3 : decode cL_suits 3 = .ok (.invokevirtual 14, 3) := by decide +kernel
theorem dL_suits_6 : decode cL_suits 6 = .ok (.aload_n 0, 1) := by decide +kernel
theorem dL_suits_7 : decode cL_suits 7 = .ok (.iload_n 2, 1) := by decide +kernel
theorem dL_suits_8 : decode cL_suits 8 = .ok (.iconst 0, 1) := by decide +kernel
theorem dL_suits_9 : decode cL_suits 9 = .ok (.invokevirtual 65, 3) := by decide +kernel
theorem dL_suits_12 : decode cL_suits 12 = .ok (.if_icmp .ne 58, 3) := by decide +kernel
theorem dL_suits_15 : decode cL_suits 15 = .ok (.aload_n 0, 1) := by decide +kernel
theorem dL_suits_16 : decode cL_suits 16 = .ok (.iload_n 1, 1) := by decide +kernel
theorem dL_suits_17 : decode cL_suits 17 = .ok (.bipush 7, 2) := by decide +kernel
theorem dL_suits_19 : decode cL_suits 19 = .ok (.invokevirtual 14, 3) := by decide +kernel
theorem dL_suits_22 : decode cL_suits 22 = .ok (.aload_n 0, 1) := by decide +kernel
theorem dL_suits_23 : decode cL_suits 23 = .ok (.iload_n 2, 1) := by decide +kernel
theorem dL_suits_24 : decode cL_suits 24 = .ok (.iconst 1, 1) := by decide +kernel
theorem dL_suits_25 : decode cL_suits 25 = .ok (.invokevirtual 65, 3) := by decide +kernel
theorem dL_suits_28 : decode cL_suits 28 = .ok (.if_icmp .lt 42, 3) := by decide +kernel
theorem dL_suits_31 : decode cL_suits 31 = .ok (.aload_n 0, 1) := by decide +kernel
theorem dL_suits_32 : decode cL_suits 32 = .ok (.iload_n 1, 1) := by decide +kernel
theorem dL_suits_33 : decode cL_suits 33 = .ok (.iconst 3, 1) := by decide +kernel
theorem dL_suits_34 : decode cL_suits 34 = .ok (.invokevirtual 14, 3) := by decide +kernel
theorem dL_suits_37 : decode cL_suits 37 = .ok (.aload_n 0, 1) := by decide +kernel
theorem dL_suits_38 : decode cL_suits 38 = .ok (.iload_n 2, 1) := by decide +kernel
theorem dL_suits_39 : decode cL_suits 39 = .ok (.iconst 2, 1) := by decide +kernel
theorem dL_suits_40 : decode cL_suits 40 = .ok (.invokevirtual 65, 3) := by decide +kernel
theorem dL_suits_43 : decode cL_suits 43 = .ok (.if_icmp .lt 27, 3) := by decide +kernel
theorem dL_suits_46 : decode cL_suits 46 = .ok (.aload_n 0, 1) := by decide +kernel
theorem dL_suits_47 : decode cL_suits 47 = .ok (.iload_n 1, 1) := by decide +kernel
theorem dL_suits_48 : decode cL_suits 48 = .ok (.bipush 6, 2) := by decide +kernel
theorem dL_suits_50 : decode cL_suits 50 = .ok (.invokevirtual 14, 3) := by decide +kernel
theorem dL_suits_53 : decode cL_suits 53 = .ok (.ifCond .eq 13, 3) := by decide +kernel
theorem dL_suits_56 : decode cL_suits 56 = .ok (.aload_n 0, 1) := by decide +kernel
theorem dL_suits_57 : decode cL_suits 57 = .ok (.iload_n 2, 1) := by decide +kernel
theorem dL_suits_58 : decode cL_suits 58 = .ok (.iconst 4, 1) := by decide +kernel
theorem dL_suits_59 : decode cL_suits 59 = .ok (.invokevirtual 65, 3) := by decide +kernel
theorem dL_suits_62 : decode cL_suits 62 = .ok (.iconst 1, 1) := by decide +kernel
theorem dL_suits_63 : decode cL_suits 63 = .ok (.if_icmp .ne 7, 3) := by decide +kernel
theorem dL_suits_66 : decode cL_suits 66 = .ok (.iconst 1, 1) := by decide +kernel
theorem dL_suits_67 : decode cL_suits 67 = .ok (.goto 4, 3) := by decide +kernel
theorem dL_suits_70 : decode cL_suits 70 = .ok (.iconst 0, 1) := by decide +kernel
theorem dL_suits_71 : decode cL_suits 71 = .ok (.ireturn, 1) := by decide +kernel
theorem dL_isOrdered_0 : decode cL_isOrdered 0 = .ok (.aload_n 0, 1) := by decide +kernel
theorem dL_isOrdered_1 : decode cL_isOrdered 1 = .ok (.iconst 2, 1) := by decide +kernel
theorem dL_isOrdered_2 : decode cL_isOrdered 2 = .ok (.invokevirtual 8, 3) := by decide +kernel
theorem dL_isOrdered_5 : decode cL_isOrdered 5 = .ok (.istore 6, 2) := by decide +kernel
theorem dL_isOrdered_7 : decode cL_isOrdered 7 = .ok (.aload_n 0, 1) := by decide +kernel
theorem dL_isOrdered_8 : decode cL_isOrdered 8 = .ok (.iload_n 1, 1) := by decide +kernel
theorem dL_isOrdered_9 : decode cL_isOrdered 9 = .ok (.iload_n 2, 1) := by decide +kernel
theorem dL_isOrdered_10 : decode cL_isOrdered 10 = .ok (.iload_n 3, 1) := by decide +kernel
theorem dL_isOrdered_11 : decode cL_isOrdered 11 = .ok (.iload 4, 2) := by decide +kernel
theorem dL_isOrdered_13 : decode cL_isOrdered 13 = .ok (.iload 5, 2) := by decide +kernel
theorem dL_isOrdered_15 : decode cL_isOrdered 15 = .ok (.sipush 700, 3) := by decide +kernel
theorem dL_isOrdered_18 : decode cL_isOrdered 18 = .ok (.invokevirtual 68, 3) := by decide +kernel
theorem dL_isOrdered_21 : decode cL_isOrdered 21 = .ok (.istore 7, 2) := by decide +kernel
theorem dL_isOrdered_23 : decode cL_isOrdered 23 = .ok (.iload 6, 2) := by decide +kernel
theorem dL_isOrdered_25 : decode cL_isOrdered 25 = .ok (.bipush 16, 2) := by decide +kernel
theorem dL_isOrdered_27 : decode cL_isOrdered 27 = .ok (.if_icmp .ne 26, 3) := by decide +kernel
theorem dL_isOrdered_30 : decode cL_isOrdered 30 = .ok (.iload 7, 2) := by decide +kernel
theorem dL_isOrdered_32 : decode cL_isOrdered 32 = .ok (.bipush (-4), 2) := by decide +kernel
theorem dL_isOrdered_34 : decode cL_isOrdered 34 = .ok (.if_icmp .ne 17, 3) := by decide +kernel
theorem dL_isOrdered_37 : decode cL_isOrdered 37 = .ok (.aload_n 0, 1) := by decide +kernel
theorem dL_isOrdered_38 : decode cL_isOrdered 38 = .ok (.iconst 2, 1) := by decide +kernel
theorem dL_isOrdered_39 : decode cL_isOrdered 39 = .ok (.invokevirtual 8, 3) := by decide +kernel
theorem dL_isOrdered_42 : decode cL_isOrdered 42 = .ok (.bipush 16, 2) := by decide +kernel
theorem dL_isOrdered_44 : decode cL_isOrdered 44 = .ok (.if_icmp .ne 7, 3) := by decide +kernel
theorem dL_isOrdered_47 : decode cL_isOrdered 47 = .ok (.iconst 1, 1) := by decide +kernel
theorem dL_isOrdered_48 : decode cL_isOrdered 48 = .ok (.goto 4, 3) := by decide +kernel
theorem dL_isOrdered_51 : decode cL_isOrdered 51 = .ok (.iconst 0, 1) := by decide +kernel
theorem dL_isOrdered_52 : decode cL_isOrdered 52 = .ok (.ireturn, 1) := by decide +kernel
theorem dL_isOrdered_53 : decode cL_isOrdered 53 = .ok (.iload 7, 2) := by decide +kernel
theorem dL_isOrdered_55 : decode cL_isOrdered 55 = .ok (.iload 6, 2) := by decide +kernel
theorem dL_isOrdered_57 : decode cL_isOrdered 57 = .ok (.if_icmp .ne 100, 3) := by decide +kernel
theorem dL_isOrdered_60 : decode cL_isOrdered 60 = .ok (.aload_n 0, 1) := by decide +kernel
theorem dL_isOrdered_61 : decode cL_isOrdered 61 = .ok (.iload 6, 2) := by decide +kernel
theorem dL_isOrdered_63 : decode cL_isOrdered 63 = .ok (.iconst 0, 1) := by decide +kernel
theorem dL_isOrdered_64 : decode cL_isOrdered 64 = .ok (.invokevirtual 65, 3) := by decide +kernel
theorem dL_isOrdered_67 : decode cL_isOrdered 67 = .ok (.iload_n 1, 1) := by decide +kernel
theorem dL_isOrdered_68 : decode cL_isOrdered 68 = .ok (.if_icmp .ne 89, 3) := by decide +kernel
theorem dL_isOrdered_71 : decode cL_isOrdered 71 = .ok (.aload_n 0, 1) := by decide +kernel
theorem dL_isOrdered_72 : decode cL_isOrdered 72 = .ok (.iload 6, 2) := by decide +kernel
theorem dL_isOrdered_74 : decode cL_isOrdered 74 = .ok (.iconst 1, 1) := by decide +kernel
theorem dL_isOrdered_75 : decode cL_isOrdered 75 = .ok (.invokevirtual 65, 3) := by decide +kernel
theorem dL_isOrdered_78 : decode cL_isOrdered 78 = .ok (.iload_n 2, 1) := by decide +kernel
theorem dL_isOrdered_79 : decode cL_isOrdered 79 = .ok (.if_icmp .ne 78, 3) := by decide +kernel
theorem dL_isOrdered_82 : decode cL_isOrdered 82 = .ok (.aload_n 0, 1) := by decide +kernel
theorem dL_isOrdered_83 : decode cL_isOrdered 83 = .ok (.iload 6, 2) := by decide +kernel
theorem dL_isOrdered_85 : decode cL_isOrdered 85 = .ok (.iconst 2, 1) := by decide +kernel
theorem dL_isOrdered_86 : decode cL_isOrdered 86 = .ok (.invokevirtual 65, 3) := by decide +kernel
theorem dL_isOrdered_89 : decode cL_isOrdered 89 = .ok (.iload_n 3, 1) := by decide +kernel
theorem dL_isOrdered_90 : decode cL_isOrdered 90 = .ok (.if_icmp .ne 67, 3) := by decide +kernel
theorem dL_isOrdered_93 : decode cL_isOrdered 93 = .ok (.aload_n 0, 1) := by decide +kernel
theorem dL_isOrdered_94 : decode cL_isOrdered 94 = .ok (.iload 6, 2) := by decide +kernel
theorem dL_isOrdered_96 : decode cL_isOrdered 96 = .ok (.iconst 3, 1) := by decide +kernel
theorem dL_isOrdered_97 : decode cL_isOrdered 97 = .ok (.invokevirtual 65, 3) := by decide +kernel
theorem dL_isOrdered_100 : decode cL_isOrdered 100 = .ok (.iload 4, 2) := by decide +kernel
theorem dL_isOrdered_102 : decode cL_isOrdered 102 = .ok (.if_icmp .ne 55, 3) := by decide +kernel
theorem dL_isOrdered_105 : decode cL_isOrdered 105 = .ok (.aload_n 0, 1) := by decide +kernel
theorem dL_isOrdered_106 : decode cL_isOrdered 106 = .ok (.iload 6, 2) := by decide +kernel
theorem dL_isOrdered_108 : decode cL_isOrdered 108 = .ok (.iconst 4, 1) := by decide +kernel
theorem dL_isOrdered_109 : decode cL_isOrdered 109 = .ok (.invokevirtual 65, 3) := by decide +kernel
theorem dL_isOrdered_112 : decode cL_isOrdered 112 = .ok (.iload 5, 2) := by decide +kernel
theorem dL_isOrdered_114 : decode cL_isOrdered 114 = .ok (.iconst 2, 1) := by decide +kernel
theorem dL_isOrdered_115 : decode cL_isOrdered 115 = .ok (.irem, 1) := by decide +kernel
theorem dL_isOrdered_116 : decode cL_isOrdered 116 = .ok (.if_icmp .ne 41, 3) := by decide +kernel
theorem dL_isOrdered_119 : decode cL_isOrdered 119 = .ok (.aload_n 0, 1) := by decide +kernel
theorem dL_isOrdered_120 : decode cL_isOrdered 120 = .ok (.iload 6, 2) := by decide +kernel
theorem dL_isOrdered_122 : decode cL_isOrdered 122 = .ok (.iconst 5, 1) := by decide +kernel
theorem dL_isOrdered_123 : decode cL_isOrdered 123 = .ok (.invokevirtual 65, 3) := by decide +kernel
theorem dL_isOrdered_126 : decode cL_isOrdered 126 = .ok (.aload_n 0, 1) := by decide +kernel
theorem dL_isOrdered_127 : decode cL_isOrdered 127 = .ok (.iconst 0, 1) := by decide +kernel
theorem dL_isOrdered_128 : decode cL_isOrdered 128 = .ok (.invokevirtual 8, 3) := by decide +kernel
theorem dL_isOrdered_131 : decode cL_isOrdered 131 = .ok (.iload 5, 2) := by decide +kernel
theorem dL_isOrdered_133 : decode cL_isOrdered 133 = .ok (.iconst 2, 1) := by decide +kernel
theorem dL_isOrdered_134 : decode cL_isOrdered 134 = .ok (.idiv, 1) := by decide +kernel
theorem dL_isOrdered_135 : decode cL_isOrdered 135 = .ok (.iadd, 1) := by decide +kernel
theorem dL_isOrdered_136 : decode cL_isOrdered 136 = .ok (.if_icmp .ne 21, 3) := by decide +kernel
theorem dL_isOrdered_139 : decode cL_isOrdered 139 = .ok (.aload_n 0, 1) := by decide +kernel
theorem dL_isOrdered_140 : decode cL_isOrdered 140 = .ok (.iload 6, 2) := by decide +kernel
theorem dL_isOrdered_142 : decode cL_isOrdered 142 = .ok (.bipush 6, 2) := by decide +kernel
theorem dL_isOrdered_144 : decode cL_isOrdered 144 = .ok (.invokevirtual 65, 3) := by decide +kernel
theorem dL_isOrdered_147 : decode cL_isOrdered 147 = .ok (.sipush 700, 3) := by decide +kernel
theorem dL_isOrdered_150 : decode cL_isOrdered 150 = .ok (.if_icmp .ne 7, 3) := by decide +kernel
theorem dL_isOrdered_153 : decode cL_isOrdered 153 = .ok (.iconst 1, 1) := by decide +kernel
theorem dL_isOrdered_154 : decode cL_isOrdered 154 = .ok (.goto 4, 3) := by decide +kernel
theorem dL_isOrdered_157 : decode cL_isOrdered 157 = .ok (.iconst 0, 1) := by decide +kernel
theorem dL_isOrdered_158 : decode cL_isOrdered 158 = .ok (.ireturn, 1) := by decide +kernel
theorem dL_isFilled_0 : decode cL_isFilled 0 = .ok (.aload_n 0, 1) := by decide +kernel
theorem dL_isFilled_1 : decode cL_isFilled 1 = .ok (.iconst 2, 1) := by decide +kernel
theorem dL_isFilled_2 : decode cL_isFilled 2 = .ok (.invokevirtual 8, 3) := by decide +kernel
theorem dL_isFilled_5 : decode cL_isFilled 5 = .ok (.istore_n 2, 1) := by decide +kernel
theorem dL_isFilled_6 : decode cL_isFilled 6 = .ok (.iload_n 1, 1) := by decide +kernel
theorem dL_isFilled_7 : decode cL_isFilled 7 = .ok (.iload_n 2, 1) := by decide +kernel
theorem dL_isFilled_8 : decode cL_isFilled 8 = .ok (.if_icmp .lt 18, 3) := by decide +kernel
theorem dL_isFilled_11 : decode cL_isFilled 11 = .ok (.aload_n 0, 1) := by decide +kernel
theorem dL_isFilled_12 : decode cL_isFilled 12 = .ok (.iload_n 1, 1) := by decide +kernel
theorem dL_isFilled_13 : decode cL_isFilled 13 = .ok (.invokevirtual 72, 3) := by decide +kernel
theorem dL_isFilled_16 : decode cL_isFilled 16 = .ok (.iconst (-1), 1) := by decide +kernel
theorem dL_isFilled_17 : decode cL_isFilled 17 = .ok (.if_icmp .ne 7, 3) := by decide +kernel
theorem dL_isFilled_20 : decode cL_isFilled 20 = .ok (.iconst 1, 1) := by decide +kernel
theorem dL_isFilled_21 : decode cL_isFilled 21 = .ok (.goto 4, 3) := by decide +kernel
theorem dL_isFilled_24 : decode cL_isFilled 24 = .ok (.iconst 0, 1) := by decide +kernel
theorem dL_isFilled_25 : decode cL_isFilled 25 = .ok (.ireturn, 1) := by decide +kernel
theorem dL_isFilled_26 : decode cL_isFilled 26 = .ok (.aload_n 0, 1) := by decide +kernel
theorem dL_isFilled_27 : decode cL_isFilled 27 = .ok (.iconst 1, 1) := by decide +kernel
theorem dL_isFilled_28 : decode cL_isFilled 28 = .ok (.invokevirtual 8, 3) := by decide +kernel
theorem dL_isFilled_31 : decode cL_isFilled 31 = .ok (.istore_n 3, 1) := by decide +kernel
theorem dL_isFilled_32 : decode cL_isFilled 32 = .ok (.bipush 24, 2) := by decide +kernel
theorem dL_isFilled_34 : decode cL_isFilled 34 = .ok (.newarray .int, 2) := by decide +kernel
theorem dL_isFilled_36 : decode cL_isFilled 36 = .ok (.astore 4, 2) := by decide +kernel
theorem dL_isFilled_38 : decode cL_isFilled 38 = .ok (.bipush 24, 2) := by decide +kernel
theorem dL_isFilled_40 : decode cL_isFilled 40 = .ok (.newarray .int, 2) := by decide +kernel
theorem dL_isFilled_42 : decode cL_isFilled 42 = .ok (.astore 5, 2) := by decide +kernel
theorem dL_isFilled_44 : decode cL_isFilled 44 = .ok (.aload_n 0, 1) := by decide +kernel
theorem dL_isFilled_45 : decode cL_isFilled 45 = .ok (.iload_n 1, 1) := by decide +kernel
theorem dL_isFilled_46 : decode cL_isFilled 46 = .ok (.iconst 0, 1) := by decide +kernel
theorem dL_isFilled_47 : decode cL_isFilled 47 = .ok (.invokevirtual 65, 3) := by decide +kernel
theorem dL_isFilled_50 : decode cL_isFilled 50 = .ok (.istore 6, 2) := by decide +kernel
theorem dL_isFilled_52 : decode cL_isFilled 52 = .ok (.aload_n 0, 1) := by decide +kernel
theorem dL_isFilled_53 : decode cL_isFilled 53 = .ok (.iload_n 1, 1) := by decide +kernel
theorem dL_isFilled_54 : decode cL_isFilled 54 = .ok (.iconst 2, 1) := by decide +kernel
theorem dL_isFilled_55 : decode cL_isFilled 55 = .ok (.invokevirtual 65, 3) := by decide +kernel
theorem dL_isFilled_58 : decode cL_isFilled 58 = .ok (.istore 7, 2) := by decide +kernel
theorem dL_isFilled_60 : decode cL_isFilled 60 = .ok (.aload_n 0, 1) := by decide +kernel
theorem dL_isFilled_61 : decode cL_isFilled 61 = .ok (.iload_n 1, 1) := by decide +kernel
theorem dL_isFilled_62 : decode cL_isFilled 62 = .ok (.iconst 3, 1) := by decide +kernel
theorem dL_isFilled_63 : decode cL_isFilled 63 = .ok (.invokevirtual 65, 3) := by decide +kernel
theorem dL_isFilled_66 : decode cL_isFilled 66 = .ok (.istore 8, 2) := by decide +kernel
theorem dL_isFilled_68 : decode cL_isFilled 68 = .ok (.aload_n 0, 1) := by decide +kernel
theorem dL_isFilled_69 : decode cL_isFilled 69 = .ok (.iload_n 1, 1) := by decide +kernel
theorem dL_isFilled_70 : decode cL_isFilled 70 = .ok (.bipush 6, 2) := by decide +kernel
theorem dL_isFilled_72 : decode cL_isFilled 72 = .ok (.invokevirtual 65, 3) := by decide +kernel
theorem dL_isFilled_75 : decode cL_isFilled 75 = .ok (.istore 9, 2) := by decide +kernel
theorem dL_isFilled_77 : decode cL_isFilled 77 = .ok (.iconst 0, 1) := by decide +kernel
theorem dL_isFilled_78 : decode cL_isFilled 78 = .ok (.istore 10, 2) := by decide +kernel
theorem dL_isFilled_80 : decode cL_isFilled 80 = .ok (.iconst 0, 1) := by decide +kernel
theorem dL_isFilled_81 : decode cL_isFilled 81 = .ok (.istore 11, 2) := by decide +kernel
theorem dL_isFilled_83 : decode cL_isFilled 83 = .ok (.iload 11, 2) := by decide +kernel
theorem dL_isFilled_85 : decode cL_isFilled 85 = .ok (.iload_n 3, 1) := by decide +kernel
theorem dL_isFilled_86 : decode cL_isFilled 86 = .ok (.if_icmp .ge 51, 3) := by decide +kernel
theorem dL_isFilled_89 : decode cL_isFilled 89 = .ok (.aload 4, 2) := by decide +kernel
theorem dL_isFilled_91 : decode cL_isFilled 91 = .ok (.iload 11, 2) := by decide +kernel
theorem dL_isFilled_93 : decode cL_isFilled 93 = .ok (.aload_n 0, 1) := by decide +kernel
theorem dL_isFilled_94 : decode cL_isFilled 94 = .ok (.iload 11, 2) := by decide +kernel
theorem dL_isFilled_96 : decode cL_isFilled 96 = .ok (.iconst 3, 1) := by decide +kernel
theorem dL_isFilled_97 : decode cL_isFilled 97 = .ok (.invokevirtual 14, 3) := by decide +kernel
theorem dL_isFilled_100 : decode cL_isFilled 100 = .ok (.iastore, 1) := by decide +kernel
theorem dL_isFilled_101 : decode cL_isFilled 101 = .ok (.aload 5, 2) := by decide +kernel
theorem dL_isFilled_103 : decode cL_isFilled 103 = .ok (.iload 11, 2) := by decide +kernel
theorem dL_isFilled_105 : decode cL_isFilled 105 = .ok (.aload_n 0, 1) := by decide +kernel
theorem dL_isFilled_106 : decode cL_isFilled 106 = .ok (.iload 11, 2) := by decide +kernel
theorem dL_isFilled_108 : decode cL_isFilled 108 = .ok (.iload_n 1, 1) := by decide +kernel
theorem dL_isFilled_109 : decode cL_isFilled 109 = .ok (.invokestatic 75, 3) := by decide +kernel
theorem dL_isFilled_112 : decode cL_isFilled 112 = .ok (.ifCond .eq 7, 3) := by decide +kernel
theorem dL_isFilled_115 : decode cL_isFilled 115 = .ok (.iconst 1, 1) := by decide +kernel
theorem dL_isFilled_116 : decode cL_isFilled 116 = .ok (.goto 4, 3) := by decide +kernel
theorem dL_isFilled_119 : decode cL_isFilled 119 = .ok (.iconst 0, 1) := by decide +kernel
theorem dL_isFilled_120 : decode cL_isFilled 120 = .ok (.iastore, 1) := by decide +kernel
theorem dL_isFilled_121 : decode cL_isFilled 121 = .ok (.iload 10, 2) := by decide +kernel
theorem dL_isFilled_123 : decode cL_isFilled 123 = .ok (.aload 5, 2) := by decide +kernel
theorem dL_isFilled_125 : decode cL_isFilled 125 = .ok (.iload 11, 2) := by decide +kernel
theorem dL_isFilled_127 : decode cL_isFilled 127 = .ok (.iaload, 1) := by decide +kernel
theorem dL_isFilled_128 : decode cL_isFilled 128 = .ok (.iadd, 1) := by decide +kernel
theorem dL_isFilled_129 : decode cL_isFilled 129 = .ok (.istore 10, 2) := by decide +kernel
theorem dL_isFilled_131 : decode cL_isFilled 131 = .ok (.iinc 11 1, 3) := by decide +kernel
theorem dL_isFilled_134 : decode cL_isFilled 134 = .ok (.goto (-51), 3) := by decide +kernel
theorem dL_isFilled_137 : decode cL_isFilled 137 = .ok (.iconst 0, 1) := by decide +kernel
theorem dL_isFilled_138 : decode cL_isFilled 138 = .ok (.istore 11, 2) := by decide +kernel
theorem dL_isFilled_140 : decode cL_isFilled 140 = .ok (.iconst 0, 1) := by decide +kernel
theorem dL_isFilled_141 : decode cL_isFilled 141 = .ok (.istore 12, 2) := by decide +kernel
theorem dL_isFilled_143 : decode cL_isFilled 143 = .ok (.iconst 0, 1) := by decide +kernel
theorem dL_isFilled_144 : decode cL_isFilled 144 = .ok (.istore 13, 2) := by decide +kernel
theorem dL_isFilled_146 : decode cL_isFilled 146 = .ok (.iload 13, 2) := by decide +kernel
theorem dL_isFilled_148 : decode cL_isFilled 148 = .ok (.ifCond .lt 133, 3) := by decide +kernel
theorem dL_isFilled_151 : decode cL_isFilled 151 = .ok (.iload 11, 2) := by decide +kernel
theorem dL_isFilled_153 : decode cL_isFilled 153 = .ok (.iload 8, 2) := by decide +kernel
theorem dL_isFilled_155 : decode cL_isFilled 155 = .ok (.if_icmp .ge 126, 3) := by decide +kernel
theorem dL_isFilled_158 : decode cL_isFilled 158 = .ok (.iconst (-1), 1) := by decide +kernel
theorem dL_isFilled_159 : decode cL_isFilled 159 = .ok (.istore 13, 2) := by decide +kernel
theorem dL_isFilled_161 : decode cL_isFilled 161 = .ok (.iload_n 3, 1) := by decide +kernel
theorem dL_isFilled_162 : decode cL_isFilled 162 = .ok (.iconst 1, 1) := by decide +kernel
theorem dL_isFilled_163 : decode cL_isFilled 163 = .ok (.isub, 1) := by decide +kernel
theorem dL_isFilled_164 : decode cL_isFilled 164 = .ok (.istore 14, 2) := by decide +kernel
theorem dL_isFilled_166 : decode cL_isFilled 166 = .ok (.iload 14, 2) := by decide +kernel
theorem dL_isFilled_168 : decode cL_isFilled 168 = .ok (.ifCond .lt 55, 3) := by decide +kernel
theorem dL_isFilled_171 : decode cL_isFilled 171 = .ok (.aload 5, 2) := by decide +kernel
theorem dL_isFilled_173 : decode cL_isFilled 173 = .ok (.iload 14, 2) := by decide +kernel
theorem dL_isFilled_175 : decode cL_isFilled 175 = .ok (.iaload, 1) := by decide +kernel
theorem dL_isFilled_176 : decode cL_isFilled 176 = .ok (.iconst 1, 1) := by decide +kernel
theorem dL_isFilled_177 : decode cL_isFilled 177 = .ok (.if_icmp .ne 36, 3) := by decide +kernel
theorem dL_isFilled_180 : decode cL_isFilled 180 = .ok (.aload 4, 2) := by decide +kernel
theorem dL_isFilled_182 : decode cL_isFilled 182 = .ok (.iload 14, 2) := by decide +kernel
theorem dL_isFilled_184 : decode cL_isFilled 184 = .ok (.iaload, 1) := by decide +kernel
theorem dL_isFilled_185 : decode cL_isFilled 185 = .ok (.iload 7, 2) := by decide +kernel
theorem dL_isFilled_187 : decode cL_isFilled 187 = .ok (.if_icmp .lt 26, 3) := by decide +kernel
theorem dL_isFilled_190 : decode cL_isFilled 190 = .ok (.iload 13, 2) := by decide +kernel
theorem dL_isFilled_192 : decode cL_isFilled 192 = .ok (.ifCond .lt 16, 3) := by decide +kernel
theorem dL_isFilled_195 : decode cL_isFilled 195 = .ok (.aload 4, 2) := by decide +kernel
theorem dL_isFilled_197 : decode cL_isFilled 197 = .ok (.iload 14, 2) := by decide +kernel
theorem dL_isFilled_199 : decode cL_isFilled 199 = .ok (.iaload, 1) := by decide +kernel
theorem dL_isFilled_200 : decode cL_isFilled 200 = .ok (.aload 4, 2) := by decide +kernel
theorem dL_isFilled_202 : decode cL_isFilled 202 = .ok (.iload 13, 2) := by decide +kernel
theorem dL_isFilled_204 : decode cL_isFilled 204 = .ok (.iaload, 1) := by decide +kernel
theorem dL_isFilled_205 : decode cL_isFilled 205 = .ok (.if_icmp .gt 8, 3) := by decide +kernel
theorem dL_isFilled_208 : decode cL_isFilled 208 = .ok (.iload 14, 2) := by decide +kernel
theorem dL_isFilled_210 : decode cL_isFilled 210 = .ok (.goto 5, 3) := by decide +kernel
theorem dL_isFilled_213 : decode cL_isFilled 213 = .ok (.iload 13, 2) := by decide +kernel
theorem dL_isFilled_215 : decode cL_isFilled 215 = .ok (.istore 13, 2) := by decide +kernel
theorem dL_isFilled_217 : decode cL_isFilled 217 = .ok (.iinc 14 (-1), 3) := by decide +kernel
theorem dL_isFilled_220 : decode cL_isFilled 220 = .ok (.goto (-54), 3) := by decide +kernel
theorem dL_isFilled_223 : decode cL_isFilled 223 = .ok (.iload 13, 2) := by decide +kernel
theorem dL_isFilled_225 : decode cL_isFilled 225 = .ok (.ifCond .lt (-79), 3) := by decide +kernel
theorem dL_isFilled_228 : decode cL_isFilled 228 = .ok (.aload 4, 2) := by decide +kernel
theorem dL_isFilled_230 : decode cL_isFilled 230 = .ok (.iload 13, 2) := by decide +kernel
theorem dL_isFilled_232 : decode cL_isFilled 232 = .ok (.dup2, 1) := by decide +kernel
theorem dL_isFilled_233 : decode cL_isFilled 233 = .ok (.iaload, 1) := by decide +kernel
theorem dL_isFilled_234 : decode cL_isFilled 234 = .ok (.iload 7, 2) := by decide +kernel
theorem dL_isFilled_236 : decode cL_isFilled 236 = .ok (.isub, 1) := by decide +kernel
theorem dL_isFilled_237 : decode cL_isFilled 237 = .ok (.iastore, 1) := by decide +kernel
theorem dL_isFilled_238 : decode cL_isFilled 238 = .ok (.iinc 11 1, 3) := by decide +kernel
theorem dL_isFilled_241 : decode cL_isFilled 241 = .ok (.aload 4, 2) := by decide +kernel
theorem dL_isFilled_243 : decode cL_isFilled 243 = .ok (.iload 13, 2) := by decide +kernel
theorem dL_isFilled_245 : decode cL_isFilled 245 = .ok (.iaload, 1) := by decide +kernel
theorem dL_isFilled_246 : decode cL_isFilled 246 = .ok (.ifCond .eq 17, 3) := by decide +kernel
theorem dL_isFilled_249 : decode cL_isFilled 249 = .ok (.aload 4, 2) := by decide +kernel
theorem dL_isFilled_251 : decode cL_isFilled 251 = .ok (.iload 13, 2) := by decide +kernel
theorem dL_isFilled_253 : decode cL_isFilled 253 = .ok (.iaload, 1) := by decide +kernel
theorem dL_isFilled_254 : decode cL_isFilled 254 = .ok (.aload_n 0, 1) := by decide +kernel
theorem dL_isFilled_255 : decode cL_isFilled 255 = .ok (.bipush 15, 2) := by decide +kernel
theorem dL_isFilled_257 : decode cL_isFilled 257 = .ok (.invokevirtual 8, 3) := by decide +kernel
theorem dL_isFilled_260 : decode cL_isFilled 260 = .ok (.if_icmp .ge (-114), 3) := by decide +kernel
theorem dL_isFilled_263 : decode cL_isFilled 263 = .ok (.aload 5, 2) := by decide +kernel
theorem dL_isFilled_265 : decode cL_isFilled 265 = .ok (.iload 13, 2) := by decide +kernel
theorem dL_isFilled_267 : decode cL_isFilled 267 = .ok (.iconst 0, 1) := by decide +kernel
theorem dL_isFilled_268 : decode cL_isFilled 268 = .ok (.iastore, 1) := by decide +kernel
theorem dL_isFilled_269 : decode cL_isFilled 269 = .ok (.aload 4, 2) := by decide +kernel
theorem dL_isFilled_271 : decode cL_isFilled 271 = .ok (.iload 13, 2) := by decide +kernel
theorem dL_isFilled_273 : decode cL_isFilled 273 = .ok (.iconst 0, 1) := by decide +kernel
theorem dL_isFilled_274 : decode cL_isFilled 274 = .ok (.iastore, 1) := by decide +kernel
theorem dL_isFilled_275 : decode cL_isFilled 275 = .ok (.iinc 12 1, 3) := by decide +kernel
theorem dL_isFilled_278 : decode cL_isFilled 278 = .ok (.goto (-132), 3) := by decide +kernel
theorem dL_isFilled_281 : decode cL_isFilled 281 = .ok (.aload_n 0, 1) := by decide +kernel
theorem dL_isFilled_282 : decode cL_isFilled 282 = .ok (.iload 6, 2) := by decide +kernel
theorem dL_isFilled_284 : decode cL_isFilled 284 = .ok (.iconst 3, 1) := by decide +kernel
theorem dL_isFilled_285 : decode cL_isFilled 285 = .ok (.invokevirtual 18, 3) := by decide +kernel
theorem dL_isFilled_288 : decode cL_isFilled 288 = .ok (.istore 14, 2) := by decide +kernel
theorem dL_isFilled_290 : decode cL_isFilled 290 = .ok (.aload_n 0, 1) := by decide +kernel
theorem dL_isFilled_291 : decode cL_isFilled 291 = .ok (.iload 6, 2) := by decide +kernel
theorem dL_isFilled_293 : decode cL_isFilled 293 = .ok (.iconst 5, 1) := by decide +kernel
theorem dL_isFilled_294 : decode cL_isFilled 294 = .ok (.invokevirtual 18, 3) := by decide +kernel
theorem dL_isFilled_297 : decode cL_isFilled 297 = .ok (.istore 15, 2) := by decide +kernel
theorem dL_isFilled_299 : decode cL_isFilled 299 = .ok (.aload_n 0, 1) := by decide +kernel
theorem dL_isFilled_300 : decode cL_isFilled 300 = .ok (.iconst 5, 1) := by decide +kernel
theorem dL_isFilled_301 : decode cL_isFilled 301 = .ok (.invokevirtual 8, 3) := by decide +kernel
theorem dL_isFilled_304 : decode cL_isFilled 304 = .ok (.istore 16, 2) := by decide +kernel
theorem dL_isFilled_306 : decode cL_isFilled 306 = .ok (.aload_n 0, 1) := by decide +kernel
theorem dL_isFilled_307 : decode cL_isFilled 307 = .ok (.iconst 4, 1) := by decide +kernel
theorem dL_isFilled_308 : decode cL_isFilled 308 = .ok (.invokevirtual 8, 3) := by decide +kernel
theorem dL_isFilled_311 : decode cL_isFilled 311 = .ok (.istore 17, 2) := by decide +kernel
theorem dL_isFilled_313 : decode cL_isFilled 313 = .ok (.aload_n 0, 1) := by decide +kernel
theorem dL_isFilled_314 : decode cL_isFilled 314 = .ok (.iload_n 1, 1) := by decide +kernel
theorem dL_isFilled_315 : decode cL_isFilled 315 = .ok (.iconst 0, 1) := by decide +kernel
theorem dL_isFilled_316 : decode cL_isFilled 316 = .ok (.invokevirtual 79, 3) := by decide +kernel
theorem dL_isFilled_319 : decode cL_isFilled 319 = .ok (.istore 18, 2) := by decide +kernel
theorem dL_isFilled_321 : decode cL_isFilled 321 = .ok (.aload_n 0, 1) := by decide +kernel
theorem dL_isFilled_322 : decode cL_isFilled 322 = .ok (.iload_n 1, 1) := by decide +kernel
theorem dL_isFilled_323 : decode cL_isFilled 323 = .ok (.iconst 1, 1) := by decide +kernel
theorem dL_isFilled_324 : decode cL_isFilled 324 = .ok (.invokevirtual 79, 3) := by decide +kernel
theorem dL_isFilled_327 : decode cL_isFilled 327 = .ok (.istore 19, 2) := by decide +kernel
theorem dL_isFilled_329 : decode cL_isFilled 329 = .ok (.aload_n 0, 1) := by decide +kernel
theorem dL_isFilled_330 : decode cL_isFilled 330 = .ok (.iload_n 1, 1) := by decide +kernel
theorem dL_isFilled_331 : decode cL_isFilled 331 = .ok (.bipush 7, 2) := by decide +kernel
theorem dL_isFilled_333 : decode cL_isFilled 333 = .ok (.invokevirtual 65, 3) := by decide +kernel
theorem dL_isFilled_336 : decode cL_isFilled 336 = .ok (.iload 10, 2) := by decide +kernel
theorem dL_isFilled_338 : decode cL_isFilled 338 = .ok (.if_icmp .ne 23, 3) := by decide +kernel
theorem dL_isFilled_341 : decode cL_isFilled 341 = .ok (.iload 18, 2) := by decide +kernel
theorem dL_isFilled_343 : decode cL_isFilled 343 = .ok (.iload 11, 2) := by decide +kernel
theorem dL_isFilled_345 : decode cL_isFilled 345 = .ok (.if_icmp .ne 16, 3) := by decide +kernel
theorem dL_isFilled_348 : decode cL_isFilled 348 = .ok (.aload_n 0, 1) := by decide +kernel
theorem dL_isFilled_349 : decode cL_isFilled 349 = .ok (.iload_n 1, 1) := by decide +kernel
theorem dL_isFilled_350 : decode cL_isFilled 350 = .ok (.iconst 2, 1) := by decide +kernel
theorem dL_isFilled_351 : decode cL_isFilled 351 = .ok (.invokevirtual 79, 3) := by decide +kernel
theorem dL_isFilled_354 : decode cL_isFilled 354 = .ok (.iload_n 3, 1) := by decide +kernel
theorem dL_isFilled_355 : decode cL_isFilled 355 = .ok (.iload 12, 2) := by decide +kernel
theorem dL_isFilled_357 : decode cL_isFilled 357 = .ok (.isub, 1) := by decide +kernel
theorem dL_isFilled_358 : decode cL_isFilled 358 = .ok (.if_icmp .eq 5, 3) := by decide +kernel
theorem dL_isFilled_361 : decode cL_isFilled 361 = .ok (.iconst 0, 1) := by decide +kernel
theorem dL_isFilled_362 : decode cL_isFilled 362 = .ok (.ireturn, 1) := by decide +kernel
theorem dL_isFilled_363 : decode cL_isFilled 363 = .ok (.aload_n 0, 1) := by decide +kernel
theorem dL_isFilled_364 : decode cL_isFilled 364 = .ok (.iload_n 1, 1) := by decide +kernel
theorem dL_isFilled_365 : decode cL_isFilled 365 = .ok (.invokevirtual 72, 3) := by decide +kernel
theorem dL_isFilled_368 : decode cL_isFilled 368 = .ok (.istore 20, 2) := by decide +kernel
theorem dL_isFilled_370 : decode cL_isFilled 370 = .ok (.iload 20, 2) := by decide +kernel
theorem dL_isFilled_372 : decode cL_isFilled 372 = .ok (.iload 11, 2) := by decide +kernel
theorem dL_isFilled_374 : decode cL_isFilled 374 = .ok (.ifCond .ne 8, 3) := by decide +kernel
theorem dL_isFilled_377 : decode cL_isFilled 377 = .ok (.bipush (-5), 2) := by decide +kernel
theorem dL_isFilled_379 : decode cL_isFilled 379 = .ok (.goto 5, 3) := by decide +kernel
theorem dL_isFilled_382 : decode cL_isFilled 382 = .ok (.iload 11, 2) := by decide +kernel
theorem dL_isFilled_384 : decode cL_isFilled 384 = .ok (.if_icmp .ne 71, 3) := by decide +kernel
theorem dL_isFilled_387 : decode cL_isFilled 387 = .ok (.aload_n 0, 1) := by decide +kernel
theorem dL_isFilled_388 : decode cL_isFilled 388 = .ok (.iconst 1, 1) := by decide +kernel
theorem dL_isFilled_389 : decode cL_isFilled 389 = .ok (.invokevirtual 8, 3) := by decide +kernel
theorem dL_isFilled_392 : decode cL_isFilled 392 = .ok (.iload_n 3, 1) := by decide +kernel
theorem dL_isFilled_393 : decode cL_isFilled 393 = .ok (.iload 12, 2) := by decide +kernel
theorem dL_isFilled_395 : decode cL_isFilled 395 = .ok (.isub, 1) := by decide +kernel
theorem dL_isFilled_396 : decode cL_isFilled 396 = .ok (.if_icmp .ne 59, 3) := by decide +kernel
theorem dL_isFilled_399 : decode cL_isFilled 399 = .ok (.aload_n 0, 1) := by decide +kernel
theorem dL_isFilled_400 : decode cL_isFilled 400 = .ok (.iconst 4, 1) := by decide +kernel
theorem dL_isFilled_401 : decode cL_isFilled 401 = .ok (.invokevirtual 8, 3) := by decide +kernel
theorem dL_isFilled_404 : decode cL_isFilled 404 = .ok (.iload 17, 2) := by decide +kernel
theorem dL_isFilled_406 : decode cL_isFilled 406 = .ok (.iload 11, 2) := by decide +kernel
theorem dL_isFilled_408 : decode cL_isFilled 408 = .ok (.iadd, 1) := by decide +kernel
theorem dL_isFilled_409 : decode cL_isFilled 409 = .ok (.if_icmp .ne 46, 3) := by decide +kernel
theorem dL_isFilled_412 : decode cL_isFilled 412 = .ok (.aload_n 0, 1) := by decide +kernel
theorem dL_isFilled_413 : decode cL_isFilled 413 = .ok (.iconst 5, 1) := by decide +kernel
theorem dL_isFilled_414 : decode cL_isFilled 414 = .ok (.invokevirtual 8, 3) := by decide +kernel
theorem dL_isFilled_417 : decode cL_isFilled 417 = .ok (.iload 16, 2) := by decide +kernel
theorem dL_isFilled_419 : decode cL_isFilled 419 = .ok (.iload 9, 2) := by decide +kernel
theorem dL_isFilled_421 : decode cL_isFilled 421 = .ok (.iload 11, 2) := by decide +kernel
theorem dL_isFilled_423 : decode cL_isFilled 423 = .ok (.imul, 1) := by decide +kernel
theorem dL_isFilled_424 : decode cL_isFilled 424 = .ok (.iadd, 1) := by decide +kernel
theorem dL_isFilled_425 : decode cL_isFilled 425 = .ok (.if_icmp .ne 30, 3) := by decide +kernel
theorem dL_isFilled_428 : decode cL_isFilled 428 = .ok (.aload_n 0, 1) := by decide +kernel
theorem dL_isFilled_429 : decode cL_isFilled 429 = .ok (.iload 6, 2) := by decide +kernel
theorem dL_isFilled_431 : decode cL_isFilled 431 = .ok (.iconst 5, 1) := by decide +kernel
theorem dL_isFilled_432 : decode cL_isFilled 432 = .ok (.invokevirtual 18, 3) := by decide +kernel
theorem dL_isFilled_435 : decode cL_isFilled 435 = .ok (.iload 15, 2) := by decide +kernel
theorem dL_isFilled_437 : decode cL_isFilled 437 = .ok (.iload 19, 2) := by decide +kernel
theorem dL_isFilled_439 : decode cL_isFilled 439 = .ok (.iadd, 1) := by decide +kernel
theorem dL_isFilled_440 : decode cL_isFilled 440 = .ok (.if_icmp .ne 15, 3) := by decide +kernel
theorem dL_isFilled_443 : decode cL_isFilled 443 = .ok (.aload_n 0, 1) := by decide +kernel
theorem dL_isFilled_444 : decode cL_isFilled 444 = .ok (.iload 6, 2) := by decide +kernel
theorem dL_isFilled_446 : decode cL_isFilled 446 = .ok (.iconst 3, 1) := by decide +kernel
theorem dL_isFilled_447 : decode cL_isFilled 447 = .ok (.invokevirtual 18, 3) := by decide +kernel
theorem dL_isFilled_450 : decode cL_isFilled 450 = .ok (.iload 14, 2) := by decide +kernel
theorem dL_isFilled_452 : decode cL_isFilled 452 = .ok (.if_icmp .ge 5, 3) := by decide +kernel
theorem dL_isFilled_455 : decode cL_isFilled 455 = .ok (.iconst 0, 1) := by decide +kernel
theorem dL_isFilled_456 : decode cL_isFilled 456 = .ok (.ireturn, 1) := by decide +kernel
theorem dL_isFilled_457 : decode cL_isFilled 457 = .ok (.iconst 0, 1) := by decide +kernel
theorem dL_isFilled_458 : decode cL_isFilled 458 = .ok (.istore 21, 2) := by decide +kernel
theorem dL_isFilled_460 : decode cL_isFilled 460 = .ok (.iconst 0, 1) := by decide +kernel
theorem dL_isFilled_461 : decode cL_isFilled 461 = .ok (.istore 22, 2) := by decide +kernel
theorem dL_isFilled_463 : decode cL_isFilled 463 = .ok (.iload 22, 2) := by decide +kernel
theorem dL_isFilled_465 : decode cL_isFilled 465 = .ok (.iload_n 3, 1) := by decide +kernel
theorem dL_isFilled_466 : decode cL_isFilled 466 = .ok (.if_icmp .ge 37, 3) := by decide +kernel
theorem dL_isFilled_469 : decode cL_isFilled 469 = .ok (.aload 4, 2) := by decide +kernel
theorem dL_isFilled_471 : decode cL_isFilled 471 = .ok (.iload 22, 2) := by decide +kernel
theorem dL_isFilled_473 : decode cL_isFilled 473 = .ok (.iaload, 1) := by decide +kernel
theorem dL_isFilled_474 : decode cL_isFilled 474 = .ok (.ifCond .le 23, 3) := by decide +kernel
theorem dL_isFilled_477 : decode cL_isFilled 477 = .ok (.aload_n 0, 1) := by decide +kernel
theorem dL_isFilled_478 : decode cL_isFilled 478 = .ok (.iload 21, 2) := by decide +kernel
theorem dL_isFilled_480 : decode cL_isFilled 480 = .ok (.iconst 3, 1) := by decide +kernel
theorem dL_isFilled_481 : decode cL_isFilled 481 = .ok (.invokevirtual 14, 3) := by decide +kernel
theorem dL_isFilled_484 : decode cL_isFilled 484 = .ok (.aload 4, 2) := by decide +kernel
theorem dL_isFilled_486 : decode cL_isFilled 486 = .ok (.iload 22, 2) := by decide +kernel
theorem dL_isFilled_488 : decode cL_isFilled 488 = .ok (.iaload, 1) := by decide +kernel
theorem dL_isFilled_489 : decode cL_isFilled 489 = .ok (.if_icmp .eq 5, 3) := by decide +kernel
theorem dL_isFilled_492 : decode cL_isFilled 492 = .ok (.iconst 0, 1) := by decide +kernel
theorem dL_isFilled_493 : decode cL_isFilled 493 = .ok (.ireturn, 1) := by decide +kernel
theorem dL_isFilled_494 : decode cL_isFilled 494 = .ok (.iinc 21 1, 3) := by decide +kernel
theorem dL_isFilled_497 : decode cL_isFilled 497 = .ok (.iinc 22 1, 3) := by decide +kernel
theorem dL_isFilled_500 : decode cL_isFilled 500 = .ok (.goto (-37), 3) := by decide +kernel
theorem dL_isFilled_503 : decode cL_isFilled 503 = .ok (.iload 11, 2) := by decide +kernel
theorem dL_isFilled_505 : decode cL_isFilled 505 = .ok (.iload 8, 2) := by decide +kernel
theorem dL_isFilled_507 : decode cL_isFilled 507 = .ok (.if_icmp .ne 22, 3) := by decide +kernel
theorem dL_isFilled_510 : decode cL_isFilled 510 = .ok (.aload_n 0, 1) := by decide +kernel
theorem dL_isFilled_511 : decode cL_isFilled 511 = .ok (.iconst 2, 1) := by decide +kernel
theorem dL_isFilled_512 : decode cL_isFilled 512 = .ok (.invokevirtual 8, 3) := by decide +kernel
theorem dL_isFilled_515 : decode cL_isFilled 515 = .ok (.iload_n 2, 1) := by decide +kernel
theorem dL_isFilled_516 : decode cL_isFilled 516 = .ok (.iconst 1, 1) := by decide +kernel
theorem dL_isFilled_517 : decode cL_isFilled 517 = .ok (.isub, 1) := by decide +kernel
theorem dL_isFilled_518 : decode cL_isFilled 518 = .ok (.if_icmp .ne 7, 3) := by decide +kernel
theorem dL_isFilled_521 : decode cL_isFilled 521 = .ok (.iconst 1, 1) := by decide +kernel
theorem dL_isFilled_522 : decode cL_isFilled 522 = .ok (.goto 35, 3) := by decide +kernel
theorem dL_isFilled_525 : decode cL_isFilled 525 = .ok (.iconst 0, 1) := by decide +kernel
theorem dL_isFilled_526 : decode cL_isFilled 526 = .ok (.goto 31, 3) := by decide +kernel
theorem dL_isFilled_529 : decode cL_isFilled 529 = .ok (.aload_n 0, 1) := by decide +kernel
theorem dL_isFilled_530 : decode cL_isFilled 530 = .ok (.iconst 2, 1) := by decide +kernel
theorem dL_isFilled_531 : decode cL_isFilled 531 = .ok (.invokevirtual 8, 3) := by decide +kernel
theorem dL_isFilled_534 : decode cL_isFilled 534 = .ok (.iload_n 2, 1) := by decide +kernel
theorem dL_isFilled_535 : decode cL_isFilled 535 = .ok (.if_icmp .ne 21, 3) := by decide +kernel
theorem dL_isFilled_538 : decode cL_isFilled 538 = .ok (.aload_n 0, 1) := by decide +kernel
theorem dL_isFilled_539 : decode cL_isFilled 539 = .ok (.iload_n 1, 1) := by decide +kernel
theorem dL_isFilled_540 : decode cL_isFilled 540 = .ok (.iconst 3, 1) := by decide +kernel
theorem dL_isFilled_541 : decode cL_isFilled 541 = .ok (.invokevirtual 65, 3) := by decide +kernel
theorem dL_isFilled_544 : decode cL_isFilled 544 = .ok (.iload 8, 2) := by decide +kernel
theorem dL_isFilled_546 : decode cL_isFilled 546 = .ok (.iload 11, 2) := by decide +kernel
theorem dL_isFilled_548 : decode cL_isFilled 548 = .ok (.isub, 1) := by decide +kernel
theorem dL_isFilled_549 : decode cL_isFilled 549 = .ok (.if_icmp .ne 7, 3) := by decide +kernel
theorem dL_isFilled_552 : decode cL_isFilled 552 = .ok (.iconst 1, 1) := by decide +kernel
theorem dL_isFilled_553 : decode cL_isFilled 553 = .ok (.goto 4, 3) := by decide +kernel
theorem dL_isFilled_556 : decode cL_isFilled 556 = .ok (.iconst 0, 1) := by decide +kernel
theorem dL_isFilled_557 : decode cL_isFilled 557 = .ok (.ireturn, 1) := by decide +kernel
theorem dL_isDropped_0 : decode cL_isDropped 0 = .ok (.aload_n 0, 1) := by decide +kernel
theorem dL_isDropped_1 : decode cL_isDropped 1 = .ok (.iconst 2, 1) := by decide +kernel
theorem dL_isDropped_2 : decode cL_isDropped 2 = .ok (.invokevirtual 8, 3) := by decide +kernel
theorem dL_isDropped_5 : decode cL_isDropped 5 = .ok (.istore_n 2, 1) := by decide +kernel
theorem dL_isDropped_6 : decode cL_isDropped 6 = .ok (.iload_n 1, 1) := by decide +kernel
theorem dL_isDropped_7 : decode cL_isDropped 7 = .ok (.iload_n 2, 1) := by decide +kernel
theorem dL_isDropped_8 : decode cL_isDropped 8 = .ok (.if_icmp .lt 18, 3) := by decide +kernel
theorem dL_isDropped_11 : decode cL_isDropped 11 = .ok (.aload_n 0, 1) := by decide +kernel
theorem dL_isDropped_12 : decode cL_isDropped 12 = .ok (.iload_n 1, 1) := by decide +kernel
theorem dL_isDropped_13 : decode cL_isDropped 13 = .ok (.invokevirtual 82, 3) := by decide +kernel
theorem dL_isDropped_16 : decode cL_isDropped 16 = .ok (.iconst (-1), 1) := by decide +kernel
theorem dL_isDropped_17 : decode cL_isDropped 17 = .ok (.if_icmp .ne 7, 3) := by decide +kernel
theorem dL_isDropped_20 : decode cL_isDropped 20 = .ok (.iconst 1, 1) := by decide +kernel
theorem dL_isDropped_21 : decode cL_isDropped 21 = .ok (.goto 4, 3) := by decide +kernel
theorem dL_isDropped_24 : decode cL_isDropped 24 = .ok (.iconst 0, 1) := by decide +kernel
theorem dL_isDropped_25 : decode cL_isDropped 25 = .ok (.ireturn, 1) := by decide +kernel
theorem dL_isDropped_26 : decode cL_isDropped 26 = .ok (.aload_n 0, 1) := by decide +kernel
theorem dL_isDropped_27 : decode cL_isDropped 27 = .ok (.iload_n 1, 1) := by decide +kernel
theorem dL_isDropped_28 : decode cL_isDropped 28 = .ok (.iconst 3, 1) := by decide +kernel
theorem dL_isDropped_29 : decode cL_isDropped 29 = .ok (.invokevirtual 65, 3) := by decide +kernel
theorem dL_isDropped_32 : decode cL_isDropped 32 = .ok (.aload_n 0, 1) := by decide +kernel
theorem dL_isDropped_33 : decode cL_isDropped 33 = .ok (.bipush 18, 2) := by decide +kernel
theorem dL_isDropped_35 : decode cL_isDropped 35 = .ok (.invokevirtual 8, 3) := by decide +kernel
theorem dL_isDropped_38 : decode cL_isDropped 38 = .ok (.imul, 1) := by decide +kernel
theorem dL_isDropped_39 : decode cL_isDropped 39 = .ok (.istore_n 3, 1) := by decide +kernel
theorem dL_isDropped_40 : decode cL_isDropped 40 = .ok (.aload_n 0, 1) := by decide +kernel
theorem dL_isDropped_41 : decode cL_isDropped 41 = .ok (.bipush 6, 2) := by decide +kernel
theorem dL_isDropped_43 : decode cL_isDropped 43 = .ok (.invokevirtual 8, 3) := by decide +kernel
theorem dL_isDropped_46 : decode cL_isDropped 46 = .ok (.istore 4, 2) := by decide +kernel
theorem dL_isDropped_48 : decode cL_isDropped 48 = .ok (.aload_n 0, 1) := by decide +kernel
theorem dL_isDropped_49 : decode cL_isDropped 49 = .ok (.iload_n 1, 1) := by decide +kernel
theorem dL_isDropped_50 : decode cL_isDropped 50 = .ok (.invokevirtual 82, 3) := by decide +kernel
theorem dL_isDropped_53 : decode cL_isDropped 53 = .ok (.iload_n 3, 1) := by decide +kernel
theorem dL_isDropped_54 : decode cL_isDropped 54 = .ok (.if_icmp .ne 31, 3) := by decide +kernel
theorem dL_isDropped_57 : decode cL_isDropped 57 = .ok (.aload_n 0, 1) := by decide +kernel
theorem dL_isDropped_58 : decode cL_isDropped 58 = .ok (.bipush 6, 2) := by decide +kernel
theorem dL_isDropped_60 : decode cL_isDropped 60 = .ok (.invokevirtual 8, 3) := by decide +kernel
theorem dL_isDropped_63 : decode cL_isDropped 63 = .ok (.iload 4, 2) := by decide +kernel
theorem dL_isDropped_65 : decode cL_isDropped 65 = .ok (.iload_n 3, 1) := by decide +kernel
theorem dL_isDropped_66 : decode cL_isDropped 66 = .ok (.iadd, 1) := by decide +kernel
theorem dL_isDropped_67 : decode cL_isDropped 67 = .ok (.if_icmp .ne 18, 3) := by decide +kernel
theorem dL_isDropped_70 : decode cL_isDropped 70 = .ok (.aload_n 0, 1) := by decide +kernel
theorem dL_isDropped_71 : decode cL_isDropped 71 = .ok (.iconst 2, 1) := by decide +kernel
theorem dL_isDropped_72 : decode cL_isDropped 72 = .ok (.invokevirtual 8, 3) := by decide +kernel
theorem dL_isDropped_75 : decode cL_isDropped 75 = .ok (.iload_n 2, 1) := by decide +kernel
theorem dL_isDropped_76 : decode cL_isDropped 76 = .ok (.iconst 1, 1) := by decide +kernel
theorem dL_isDropped_77 : decode cL_isDropped 77 = .ok (.isub, 1) := by decide +kernel
theorem dL_isDropped_78 : decode cL_isDropped 78 = .ok (.if_icmp .ne 7, 3) := by decide +kernel
theorem dL_isDropped_81 : decode cL_isDropped 81 = .ok (.iconst 1, 1) := by decide +kernel
theorem dL_isDropped_82 : decode cL_isDropped 82 = .ok (.goto 4, 3) := by decide +kernel
theorem dL_isDropped_85 : decode cL_isDropped 85 = .ok (.iconst 0, 1) := by decide +kernel
theorem dL_isDropped_86 : decode cL_isDropped 86 = .ok (.ireturn, 1) := by decide +kernel
theorem dL_isPassed_0 : decode cL_isPassed 0 = .ok (.aload_n 0, 1) := by decide +kernel
theorem dL_isPassed_1 : decode cL_isPassed 1 = .ok (.iconst 0, 1) := by decide +kernel
theorem dL_isPassed_2 : decode cL_isPassed 2 = .ok (.invokevirtual 8, 3) := by decide +kernel
theorem dL_isPassed_5 : decode cL_isPassed 5 = .ok (.istore_n 2, 1) := by decide +kernel
theorem dL_isPassed_6 : decode cL_isPassed 6 = .ok (.aload_n 0, 1) := by decide +kernel
theorem dL_isPassed_7 : decode cL_isPassed 7 = .ok (.bipush 6, 2) := by decide +kernel
theorem dL_isPassed_9 : decode cL_isPassed 9 = .ok (.invokevirtual 8, 3) := by decide +kernel
theorem dL_isPassed_12 : decode cL_isPassed 12 = .ok (.istore_n 3, 1) := by decide +kernel
theorem dL_isPassed_13 : decode cL_isPassed 13 = .ok (.iconst 0, 1) := by decide +kernel
theorem dL_isPassed_14 : decode cL_isPassed 14 = .ok (.istore 4, 2) := by decide +kernel
theorem dL_isPassed_16 : decode cL_isPassed 16 = .ok (.iconst 0, 1) := by decide +kernel
theorem dL_isPassed_17 : decode cL_isPassed 17 = .ok (.istore 5, 2) := by decide +kernel
theorem dL_isPassed_19 : decode cL_isPassed 19 = .ok (.iload 5, 2) := by decide +kernel
theorem dL_isPassed_21 : decode cL_isPassed 21 = .ok (.iload_n 1, 1) := by decide +kernel
theorem dL_isPassed_22 : decode cL_isPassed 22 = .ok (.if_icmp .ge 65, 3) := by decide +kernel
theorem dL_isPassed_25 : decode cL_isPassed 25 = .ok (.iconst 0, 1) := by decide +kernel
theorem dL_isPassed_26 : decode cL_isPassed 26 = .ok (.istore 6, 2) := by decide +kernel
theorem dL_isPassed_28 : decode cL_isPassed 28 = .ok (.iload 6, 2) := by decide +kernel
theorem dL_isPassed_30 : decode cL_isPassed 30 = .ok (.aload_n 0, 1) := by decide +kernel
theorem dL_isPassed_31 : decode cL_isPassed 31 = .ok (.iconst 2, 1) := by decide +kernel
theorem dL_isPassed_32 : decode cL_isPassed 32 = .ok (.invokevirtual 8, 3) := by decide +kernel
theorem dL_isPassed_35 : decode cL_isPassed 35 = .ok (.if_icmp .ge 46, 3) := by decide +kernel
theorem dL_isPassed_38 : decode cL_isPassed 38 = .ok (.iload 4, 2) := by decide +kernel
theorem dL_isPassed_40 : decode cL_isPassed 40 = .ok (.aload_n 0, 1) := by decide +kernel
theorem dL_isPassed_41 : decode cL_isPassed 41 = .ok (.iload 6, 2) := by decide +kernel
theorem dL_isPassed_43 : decode cL_isPassed 43 = .ok (.iconst 5, 1) := by decide +kernel
theorem dL_isPassed_44 : decode cL_isPassed 44 = .ok (.invokevirtual 65, 3) := by decide +kernel
theorem dL_isPassed_47 : decode cL_isPassed 47 = .ok (.iload_n 2, 1) := by decide +kernel
theorem dL_isPassed_48 : decode cL_isPassed 48 = .ok (.iload 5, 2) := by decide +kernel
theorem dL_isPassed_50 : decode cL_isPassed 50 = .ok (.iadd, 1) := by decide +kernel
theorem dL_isPassed_51 : decode cL_isPassed 51 = .ok (.if_icmp .le 7, 3) := by decide +kernel
theorem dL_isPassed_54 : decode cL_isPassed 54 = .ok (.iconst 0, 1) := by decide +kernel
theorem dL_isPassed_55 : decode cL_isPassed 55 = .ok (.goto 17, 3) := by decide +kernel
theorem dL_isPassed_58 : decode cL_isPassed 58 = .ok (.aload_n 0, 1) := by decide +kernel
theorem dL_isPassed_59 : decode cL_isPassed 59 = .ok (.iload 6, 2) := by decide +kernel
theorem dL_isPassed_61 : decode cL_isPassed 61 = .ok (.iconst 3, 1) := by decide +kernel
theorem dL_isPassed_62 : decode cL_isPassed 62 = .ok (.invokevirtual 65, 3) := by decide +kernel
theorem dL_isPassed_65 : decode cL_isPassed 65 = .ok (.aload_n 0, 1) := by decide +kernel
theorem dL_isPassed_66 : decode cL_isPassed 66 = .ok (.bipush 18, 2) := by decide +kernel
theorem dL_isPassed_68 : decode cL_isPassed 68 = .ok (.invokevirtual 8, 3) := by decide +kernel
theorem dL_isPassed_71 : decode cL_isPassed 71 = .ok (.imul, 1) := by decide +kernel
theorem dL_isPassed_72 : decode cL_isPassed 72 = .ok (.iadd, 1) := by decide +kernel
theorem dL_isPassed_73 : decode cL_isPassed 73 = .ok (.istore 4, 2) := by decide +kernel
theorem dL_isPassed_75 : decode cL_isPassed 75 = .ok (.iinc 6 1, 3) := by decide +kernel
theorem dL_isPassed_78 : decode cL_isPassed 78 = .ok (.goto (-50), 3) := by decide +kernel
theorem dL_isPassed_81 : decode cL_isPassed 81 = .ok (.iinc 5 1, 3) := by decide +kernel
theorem dL_isPassed_84 : decode cL_isPassed 84 = .ok (.goto (-65), 3) := by decide +kernel
theorem dL_isPassed_87 : decode cL_isPassed 87 = .ok (.aload_n 0, 1) := by decide +kernel
theorem dL_isPassed_88 : decode cL_isPassed 88 = .ok (.iload_n 1, 1) := by decide +kernel
theorem dL_isPassed_89 : decode cL_isPassed 89 = .ok (.invokevirtual 85, 3) := by decide +kernel
theorem dL_isPassed_92 : decode cL_isPassed 92 = .ok (.iload 4, 2) := by decide +kernel
theorem dL_isPassed_94 : decode cL_isPassed 94 = .ok (.if_icmp .ne 45, 3) := by decide +kernel
theorem dL_isPassed_97 : decode cL_isPassed 97 = .ok (.aload_n 0, 1) := by decide +kernel
theorem dL_isPassed_98 : decode cL_isPassed 98 = .ok (.iload_n 1, 1) := by decide +kernel
theorem dL_isPassed_99 : decode cL_isPassed 99 = .ok (.invokevirtual 88, 3) := by decide +kernel
theorem dL_isPassed_102 : decode cL_isPassed 102 = .ok (.iload_n 2, 1) := by decide +kernel
theorem dL_isPassed_103 : decode cL_isPassed 103 = .ok (.iload_n 1, 1) := by decide +kernel
theorem dL_isPassed_104 : decode cL_isPassed 104 = .ok (.iadd, 1) := by decide +kernel
theorem dL_isPassed_105 : decode cL_isPassed 105 = .ok (.if_icmp .ne 34, 3) := by decide +kernel
theorem dL_isPassed_108 : decode cL_isPassed 108 = .ok (.aload_n 0, 1) := by decide +kernel
theorem dL_isPassed_109 : decode cL_isPassed 109 = .ok (.bipush 6, 2) := by decide +kernel
theorem dL_isPassed_111 : decode cL_isPassed 111 = .ok (.invokevirtual 8, 3) := by decide +kernel
theorem dL_isPassed_114 : decode cL_isPassed 114 = .ok (.iload_n 3, 1) := by decide +kernel
theorem dL_isPassed_115 : decode cL_isPassed 115 = .ok (.iload 4, 2) := by decide +kernel
theorem dL_isPassed_117 : decode cL_isPassed 117 = .ok (.iadd, 1) := by decide +kernel
theorem dL_isPassed_118 : decode cL_isPassed 118 = .ok (.if_icmp .ne 21, 3) := by decide +kernel
theorem dL_isPassed_121 : decode cL_isPassed 121 = .ok (.aload_n 0, 1) := by decide +kernel
theorem dL_isPassed_122 : decode cL_isPassed 122 = .ok (.iconst 3, 1) := by decide +kernel
theorem dL_isPassed_123 : decode cL_isPassed 123 = .ok (.invokevirtual 8, 3) := by decide +kernel
theorem dL_isPassed_126 : decode cL_isPassed 126 = .ok (.aload_n 0, 1) := by decide +kernel
theorem dL_isPassed_127 : decode cL_isPassed 127 = .ok (.bipush 16, 2) := by decide +kernel
theorem dL_isPassed_129 : decode cL_isPassed 129 = .ok (.invokevirtual 8, 3) := by decide +kernel
theorem dL_isPassed_132 : decode cL_isPassed 132 = .ok (.if_icmp .ne 7, 3) := by decide +kernel
theorem dL_isPassed_135 : decode cL_isPassed 135 = .ok (.iconst 1, 1) := by decide +kernel
theorem dL_isPassed_136 : decode cL_isPassed 136 = .ok (.goto 4, 3) := by decide +kernel
theorem dL_isPassed_139 : decode cL_isPassed 139 = .ok (.iconst 0, 1) := by decide +kernel
theorem dL_isPassed_140 : decode cL_isPassed 140 = .ok (.ireturn, 1) := by decide +kernel
theorem dL_isSpun_0 : decode cL_isSpun 0 = .ok (.aload_n 0, 1) := by decide +kernel
theorem dL_isSpun_1 : decode cL_isSpun 1 = .ok (.iload_n 1, 1) := by decide +kernel
theorem dL_isSpun_2 : decode cL_isSpun 2 = .ok (.iconst 1, 1) := by decide +kernel
theorem dL_isSpun_3 : decode cL_isSpun 3 = .ok (.invokevirtual 18, 3) := by decide +kernel
theorem dL_isSpun_6 : decode cL_isSpun 6 = .ok (.istore_n 3, 1) := by decide +kernel
theorem dL_isSpun_7 : decode cL_isSpun 7 = .ok (.aload_n 0, 1) := by decide +kernel
theorem dL_isSpun_8 : decode cL_isSpun 8 = .ok (.iload_n 1, 1) := by decide +kernel
theorem dL_isSpun_9 : decode cL_isSpun 9 = .ok (.iconst 0, 1) := by decide +kernel
theorem dL_isSpun_10 : decode cL_isSpun 10 = .ok (.invokevirtual 18, 3) := by decide +kernel
theorem dL_isSpun_13 : decode cL_isSpun 13 = .ok (.istore 4, 2) := by decide +kernel
theorem dL_isSpun_15 : decode cL_isSpun 15 = .ok (.aload_n 0, 1) := by decide +kernel
theorem dL_isSpun_16 : decode cL_isSpun 16 = .ok (.iload_n 1, 1) := by decide +kernel
theorem dL_isSpun_17 : decode cL_isSpun 17 = .ok (.iload_n 2, 1) := by decide +kernel
theorem dL_isSpun_18 : decode cL_isSpun 18 = .ok (.invokevirtual 91, 3) := by decide +kernel
theorem dL_isSpun_21 : decode cL_isSpun 21 = .ok (.istore 5, 2) := by decide +kernel
theorem dL_isSpun_23 : decode cL_isSpun 23 = .ok (.iload_n 3, 1) := by decide +kernel
theorem dL_isSpun_24 : decode cL_isSpun 24 = .ok (.iload_n 2, 1) := by decide +kernel
theorem dL_isSpun_25 : decode cL_isSpun 25 = .ok (.iadd, 1) := by decide +kernel
theorem dL_isSpun_26 : decode cL_isSpun 26 = .ok (.ldc 94, 2) := by decide +kernel
theorem dL_isSpun_28 : decode cL_isSpun 28 = .ok (.if_icmp .le 28, 3) := by decide +kernel
theorem dL_isSpun_31 : decode cL_isSpun 31 = .ok (.iload 5, 2) := by decide +kernel
theorem dL_isSpun_33 : decode cL_isSpun 33 = .ok (.bipush (-5), 2) := by decide +kernel
theorem dL_isSpun_35 : decode cL_isSpun 35 = .ok (.if_icmp .ne 17, 3) := by decide +kernel
theorem dL_isSpun_38 : decode cL_isSpun 38 = .ok (.aload_n 0, 1) := by decide +kernel
theorem dL_isSpun_39 : decode cL_isSpun 39 = .ok (.iload_n 1, 1) := by decide +kernel
theorem dL_isSpun_40 : decode cL_isSpun 40 = .ok (.iconst 1, 1) := by decide +kernel
theorem dL_isSpun_41 : decode cL_isSpun 41 = .ok (.invokevirtual 18, 3) := by decide +kernel
theorem dL_isSpun_44 : decode cL_isSpun 44 = .ok (.iload_n 3, 1) := by decide +kernel
theorem dL_isSpun_45 : decode cL_isSpun 45 = .ok (.if_icmp .ne 7, 3) := by decide +kernel
theorem dL_isSpun_48 : decode cL_isSpun 48 = .ok (.iconst 1, 1) := by decide +kernel
theorem dL_isSpun_49 : decode cL_isSpun 49 = .ok (.goto 44, 3) := by decide +kernel
theorem dL_isSpun_52 : decode cL_isSpun 52 = .ok (.iconst 0, 1) := by decide +kernel
theorem dL_isSpun_53 : decode cL_isSpun 53 = .ok (.goto 40, 3) := by decide +kernel
theorem dL_isSpun_56 : decode cL_isSpun 56 = .ok (.iload 5, 2) := by decide +kernel
theorem dL_isSpun_58 : decode cL_isSpun 58 = .ok (.iload_n 3, 1) := by decide +kernel
theorem dL_isSpun_59 : decode cL_isSpun 59 = .ok (.iload_n 2, 1) := by decide +kernel
theorem dL_isSpun_60 : decode cL_isSpun 60 = .ok (.iadd, 1) := by decide +kernel
theorem dL_isSpun_61 : decode cL_isSpun 61 = .ok (.if_icmp .ne 31, 3) := by decide +kernel
theorem dL_isSpun_64 : decode cL_isSpun 64 = .ok (.aload_n 0, 1) := by decide +kernel
theorem dL_isSpun_65 : decode cL_isSpun 65 = .ok (.iload_n 1, 1) := by decide +kernel
theorem dL_isSpun_66 : decode cL_isSpun 66 = .ok (.iconst 1, 1) := by decide +kernel
theorem dL_isSpun_67 : decode cL_isSpun 67 = .ok (.invokevirtual 18, 3) := by decide +kernel
theorem dL_isSpun_70 : decode cL_isSpun 70 = .ok (.iload 5, 2) := by decide +kernel
theorem dL_isSpun_72 : decode cL_isSpun 72 = .ok (.if_icmp .ne 20, 3) := by decide +kernel
theorem dL_isSpun_75 : decode cL_isSpun 75 = .ok (.aload_n 0, 1) := by decide +kernel
theorem dL_isSpun_76 : decode cL_isSpun 76 = .ok (.iload_n 1, 1) := by decide +kernel
theorem dL_isSpun_77 : decode cL_isSpun 77 = .ok (.iconst 0, 1) := by decide +kernel
theorem dL_isSpun_78 : decode cL_isSpun 78 = .ok (.invokevirtual 18, 3) := by decide +kernel
theorem dL_isSpun_81 : decode cL_isSpun 81 = .ok (.iload 4, 2) := by decide +kernel
theorem dL_isSpun_83 : decode cL_isSpun 83 = .ok (.iload_n 2, 1) := by decide +kernel
theorem dL_isSpun_84 : decode cL_isSpun 84 = .ok (.iadd, 1) := by decide +kernel
theorem dL_isSpun_85 : decode cL_isSpun 85 = .ok (.if_icmp .ne 7, 3) := by decide +kernel
theorem dL_isSpun_88 : decode cL_isSpun 88 = .ok (.iconst 1, 1) := by decide +kernel
theorem dL_isSpun_89 : decode cL_isSpun 89 = .ok (.goto 4, 3) := by decide +kernel
theorem dL_isSpun_92 : decode cL_isSpun 92 = .ok (.iconst 0, 1) := by decide +kernel
theorem dL_isSpun_93 : decode cL_isSpun 93 = .ok (.ireturn, 1) := by decide +kernel
theorem dL_isAct_0 : decode cL_isAct 0 = .ok (.aload_n 1, 1) := by decide +kernel
theorem dL_isAct_1 : decode cL_isAct 1 = .ok (.iload_n 2, 1) := by decide +kernel
theorem dL_isAct_2 : decode cL_isAct 2 = .ok (.iconst 1, 1) := by decide +kernel
theorem dL_isAct_3 : decode cL_isAct 3 = .ok (.iadd, 1) := by decide +kernel
theorem dL_isAct_4 : decode cL_isAct 4 = .ok (.iconst 4, 1) := by decide +kernel
theorem dL_isAct_5 : decode cL_isAct 5 = .ok (.invokestatic 95, 3) := by decide +kernel
theorem dL_isAct_8 : decode cL_isAct 8 = .ok (.iconst 3, 1) := by decide +kernel
theorem dL_isAct_9 : decode cL_isAct 9 = .ok (.if_icmp .ne 7, 3) := by decide +kernel
theorem dL_isAct_12 : decode cL_isAct 12 = .ok (.iconst 0, 1) := by decide +kernel
theorem dL_isAct_13 : decode cL_isAct 13 = .ok (.goto 11, 3) := by decide +kernel
theorem dL_isAct_16 : decode cL_isAct 16 = .ok (.aload_n 1, 1) := by decide +kernel
theorem dL_isAct_17 : decode cL_isAct 17 = .ok (.iload_n 2, 1) := by decide +kernel
theorem dL_isAct_18 : decode cL_isAct 18 = .ok (.iconst 1, 1) := by decide +kernel
theorem dL_isAct_19 : decode cL_isAct 19 = .ok (.iadd, 1) := by decide +kernel
theorem dL_isAct_20 : decode cL_isAct 20 = .ok (.iconst 3, 1) := by decide +kernel
theorem dL_isAct_21 : decode cL_isAct 21 = .ok (.invokestatic 95, 3) := by decide +kernel
theorem dL_isAct_24 : decode cL_isAct 24 = .ok (.istore_n 3, 1) := by decide +kernel
theorem dL_isAct_25 : decode cL_isAct 25 = .ok (.aload_n 1, 1) := by decide +kernel
theorem dL_isAct_26 : decode cL_isAct 26 = .ok (.iload_n 2, 1) := by decide +kernel
theorem dL_isAct_27 : decode cL_isAct 27 = .ok (.bipush 14, 2) := by decide +kernel
theorem dL_isAct_29 : decode cL_isAct 29 = .ok (.invokestatic 95, 3) := by decide +kernel
theorem dL_isAct_32 : decode cL_isAct 32 = .ok (.tableswitch 365 0 12 #[68, 68, 68, 122, 155, 174, 174, 223, 223, 223, 242, 261, 278], 68) := by decide +kernel
theorem dL_isAct_100 : decode cL_isAct 100 = .ok (.aload_n 0, 1) := by decide +kernel
theorem dL_isAct_101 : decode cL_isAct 101 = .ok (.iload_n 3, 1) := by decide +kernel
theorem dL_isAct_102 : decode cL_isAct 102 = .ok (.iconst 3, 1) := by decide +kernel
theorem dL_isAct_103 : decode cL_isAct 103 = .ok (.aload_n 1, 1) := by decide +kernel
theorem dL_isAct_104 : decode cL_isAct 104 = .ok (.iload_n 2, 1) := by decide +kernel
theorem dL_isAct_105 : decode cL_isAct 105 = .ok (.iconst 2, 1) := by decide +kernel
theorem dL_isAct_106 : decode cL_isAct 106 = .ok (.iadd, 1) := by decide +kernel
theorem dL_isAct_107 : decode cL_isAct 107 = .ok (.iconst 2, 1) := by decide +kernel
theorem dL_isAct_108 : decode cL_isAct 108 = .ok (.invokestatic 95, 3) := by decide +kernel
theorem dL_isAct_111 : decode cL_isAct 111 = .ok (.iadd, 1) := by decide +kernel
theorem dL_isAct_112 : decode cL_isAct 112 = .ok (.iconst 1, 1) := by decide +kernel
theorem dL_isAct_113 : decode cL_isAct 113 = .ok (.aload_n 1, 1) := by decide +kernel
theorem dL_isAct_114 : decode cL_isAct 114 = .ok (.iload_n 2, 1) := by decide +kernel
theorem dL_isAct_115 : decode cL_isAct 115 = .ok (.iconst 3, 1) := by decide +kernel
theorem dL_isAct_116 : decode cL_isAct 116 = .ok (.iadd, 1) := by decide +kernel
theorem dL_isAct_117 : decode cL_isAct 117 = .ok (.iconst 4, 1) := by decide +kernel
theorem dL_isAct_118 : decode cL_isAct 118 = .ok (.invokestatic 95, 3) := by decide +kernel
theorem dL_isAct_121 : decode cL_isAct 121 = .ok (.iadd, 1) := by decide +kernel
theorem dL_isAct_122 : decode cL_isAct 122 = .ok (.iconst 1, 1) := by decide +kernel
theorem dL_isAct_123 : decode cL_isAct 123 = .ok (.aload_n 1, 1) := by decide +kernel
theorem dL_isAct_124 : decode cL_isAct 124 = .ok (.iload_n 2, 1) := by decide +kernel
theorem dL_isAct_125 : decode cL_isAct 125 = .ok (.iconst 4, 1) := by decide +kernel
theorem dL_isAct_126 : decode cL_isAct 126 = .ok (.iadd, 1) := by decide +kernel
theorem dL_isAct_127 : decode cL_isAct 127 = .ok (.aload_n 1, 1) := by decide +kernel
theorem dL_isAct_128 : decode cL_isAct 128 = .ok (.iload_n 2, 1) := by decide +kernel
theorem dL_isAct_129 : decode cL_isAct 129 = .ok (.iconst 5, 1) := by decide +kernel
theorem dL_isAct_130 : decode cL_isAct 130 = .ok (.iadd, 1) := by decide +kernel
theorem dL_isAct_131 : decode cL_isAct 131 = .ok (.iconst 5, 1) := by decide +kernel
theorem dL_isAct_132 : decode cL_isAct 132 = .ok (.invokestatic 95, 3) := by decide +kernel
theorem dL_isAct_135 : decode cL_isAct 135 = .ok (.ifCond .ne 9, 3) := by decide +kernel
theorem dL_isAct_138 : decode cL_isAct 138 = .ok (.sipush 2000, 3) := by decide +kernel
theorem dL_isAct_141 : decode cL_isAct 141 = .ok (.goto 5, 3) := by decide +kernel
theorem dL_isAct_144 : decode cL_isAct 144 = .ok (.bipush 120, 2) := by decide +kernel
theorem dL_isAct_146 : decode cL_isAct 146 = .ok (.invokestatic 95, 3) := by decide +kernel
theorem dL_isAct_149 : decode cL_isAct 149 = .ok (.iadd, 1) := by decide +kernel
theorem dL_isAct_150 : decode cL_isAct 150 = .ok (.invokestatic 99, 3) := by decide +kernel
theorem dL_isAct_153 : decode cL_isAct 153 = .ok (.ireturn, 1) := by decide +kernel
theorem dL_isAct_154 : decode cL_isAct 154 = .ok (.aload_n 0, 1) := by decide +kernel
theorem dL_isAct_155 : decode cL_isAct 155 = .ok (.aload_n 1, 1) := by decide +kernel
theorem dL_isAct_156 : decode cL_isAct 156 = .ok (.iload_n 2, 1) := by decide +kernel
theorem dL_isAct_157 : decode cL_isAct 157 = .ok (.iconst 1, 1) := by decide +kernel
theorem dL_isAct_158 : decode cL_isAct 158 = .ok (.iadd, 1) := by decide +kernel
theorem dL_isAct_159 : decode cL_isAct 159 = .ok (.aload_n 0, 1) := by decide +kernel
theorem dL_isAct_160 : decode cL_isAct 160 = .ok (.iconst 1, 1) := by decide +kernel
theorem dL_isAct_161 : decode cL_isAct 161 = .ok (.invokevirtual 8, 3) := by decide +kernel
theorem dL_isAct_164 : decode cL_isAct 164 = .ok (.iconst 1, 1) := by decide +kernel
theorem dL_isAct_165 : decode cL_isAct 165 = .ok (.iadd, 1) := by decide +kernel
theorem dL_isAct_166 : decode cL_isAct 166 = .ok (.invokestatic 95, 3) := by decide +kernel
theorem dL_isAct_169 : decode cL_isAct 169 = .ok (.aload_n 1, 1) := by decide +kernel
theorem dL_isAct_170 : decode cL_isAct 170 = .ok (.iload_n 2, 1) := by decide +kernel
theorem dL_isAct_171 : decode cL_isAct 171 = .ok (.iconst 2, 1) := by decide +kernel
theorem dL_isAct_172 : decode cL_isAct 172 = .ok (.iadd, 1) := by decide +kernel
theorem dL_isAct_173 : decode cL_isAct 173 = .ok (.aload_n 0, 1) := by decide +kernel
theorem dL_isAct_174 : decode cL_isAct 174 = .ok (.iconst 1, 1) := by decide +kernel
theorem dL_isAct_175 : decode cL_isAct 175 = .ok (.invokevirtual 8, 3) := by decide +kernel
theorem dL_isAct_178 : decode cL_isAct 178 = .ok (.iconst 1, 1) := by decide +kernel
theorem dL_isAct_179 : decode cL_isAct 179 = .ok (.iadd, 1) := by decide +kernel
theorem dL_isAct_180 : decode cL_isAct 180 = .ok (.invokestatic 95, 3) := by decide +kernel
theorem dL_isAct_183 : decode cL_isAct 183 = .ok (.invokestatic 103, 3) := by decide +kernel
theorem dL_isAct_186 : decode cL_isAct 186 = .ok (.ireturn, 1) := by decide +kernel
theorem dL_isAct_187 : decode cL_isAct 187 = .ok (.aload_n 0, 1) := by decide +kernel
theorem dL_isAct_188 : decode cL_isAct 188 = .ok (.aload_n 1, 1) := by decide +kernel
theorem dL_isAct_189 : decode cL_isAct 189 = .ok (.iload_n 2, 1) := by decide +kernel
theorem dL_isAct_190 : decode cL_isAct 190 = .ok (.iconst 1, 1) := by decide +kernel
theorem dL_isAct_191 : decode cL_isAct 191 = .ok (.iadd, 1) := by decide +kernel
theorem dL_isAct_192 : decode cL_isAct 192 = .ok (.aload_n 0, 1) := by decide +kernel
theorem dL_isAct_193 : decode cL_isAct 193 = .ok (.iconst 1, 1) := by decide +kernel
theorem dL_isAct_194 : decode cL_isAct 194 = .ok (.invokevirtual 8, 3) := by decide +kernel
theorem dL_isAct_197 : decode cL_isAct 197 = .ok (.iconst 1, 1) := by decide +kernel
theorem dL_isAct_198 : decode cL_isAct 198 = .ok (.iadd, 1) := by decide +kernel
theorem dL_isAct_199 : decode cL_isAct 199 = .ok (.invokestatic 95, 3) := by decide +kernel
theorem dL_isAct_202 : decode cL_isAct 202 = .ok (.invokestatic 106, 3) := by decide +kernel
theorem dL_isAct_205 : decode cL_isAct 205 = .ok (.ireturn, 1) := by decide +kernel
theorem dL_isAct_206 : decode cL_isAct 206 = .ok (.aload_n 0, 1) := by decide +kernel
theorem dL_isAct_207 : decode cL_isAct 207 = .ok (.iload_n 3, 1) := by decide +kernel
theorem dL_isAct_208 : decode cL_isAct 208 = .ok (.iconst 1, 1) := by decide +kernel
theorem dL_isAct_209 : decode cL_isAct 209 = .ok (.aload_n 1, 1) := by decide +kernel
theorem dL_isAct_210 : decode cL_isAct 210 = .ok (.iload_n 2, 1) := by decide +kernel
theorem dL_isAct_211 : decode cL_isAct 211 = .ok (.iconst 2, 1) := by decide +kernel
theorem dL_isAct_212 : decode cL_isAct 212 = .ok (.iadd, 1) := by decide +kernel
theorem dL_isAct_213 : decode cL_isAct 213 = .ok (.sipush 600, 3) := by decide +kernel
theorem dL_isAct_216 : decode cL_isAct 216 = .ok (.invokestatic 95, 3) := by decide +kernel
theorem dL_isAct_219 : decode cL_isAct 219 = .ok (.iadd, 1) := by decide +kernel
theorem dL_isAct_220 : decode cL_isAct 220 = .ok (.iconst 1, 1) := by decide +kernel
theorem dL_isAct_221 : decode cL_isAct 221 = .ok (.aload_n 1, 1) := by decide +kernel
theorem dL_isAct_222 : decode cL_isAct 222 = .ok (.iload_n 2, 1) := by decide +kernel
theorem dL_isAct_223 : decode cL_isAct 223 = .ok (.iconst 3, 1) := by decide +kernel
theorem dL_isAct_224 : decode cL_isAct 224 = .ok (.iadd, 1) := by decide +kernel
theorem dL_isAct_225 : decode cL_isAct 225 = .ok (.bipush 60, 2) := by decide +kernel
theorem dL_isAct_227 : decode cL_isAct 227 = .ok (.invokestatic 95, 3) := by decide +kernel
theorem dL_isAct_230 : decode cL_isAct 230 = .ok (.iadd, 1) := by decide +kernel
theorem dL_isAct_231 : decode cL_isAct 231 = .ok (.iconst 1, 1) := by decide +kernel
theorem dL_isAct_232 : decode cL_isAct 232 = .ok (.aload_n 1, 1) := by decide +kernel
theorem dL_isAct_233 : decode cL_isAct 233 = .ok (.iload_n 2, 1) := by decide +kernel
theorem dL_isAct_234 : decode cL_isAct 234 = .ok (.iconst 4, 1) := by decide +kernel
theorem dL_isAct_235 : decode cL_isAct 235 = .ok (.iadd, 1) := by decide +kernel
theorem dL_isAct_236 : decode cL_isAct 236 = .ok (.bipush 6, 2) := by decide +kernel
theorem dL_isAct_238 : decode cL_isAct 238 = .ok (.invokestatic 95, 3) := by decide +kernel
theorem dL_isAct_241 : decode cL_isAct 241 = .ok (.iadd, 1) := by decide +kernel
theorem dL_isAct_242 : decode cL_isAct 242 = .ok (.aload_n 1, 1) := by decide +kernel
theorem dL_isAct_243 : decode cL_isAct 243 = .ok (.iload_n 2, 1) := by decide +kernel
theorem dL_isAct_244 : decode cL_isAct 244 = .ok (.iconst 5, 1) := by decide +kernel
theorem dL_isAct_245 : decode cL_isAct 245 = .ok (.iadd, 1) := by decide +kernel
theorem dL_isAct_246 : decode cL_isAct 246 = .ok (.bipush 12, 2) := by decide +kernel
theorem dL_isAct_248 : decode cL_isAct 248 = .ok (.invokestatic 95, 3) := by decide +kernel
theorem dL_isAct_251 : decode cL_isAct 251 = .ok (.invokestatic 110, 3) := by decide +kernel
theorem dL_isAct_254 : decode cL_isAct 254 = .ok (.ireturn, 1) := by decide +kernel
theorem dL_isAct_255 : decode cL_isAct 255 = .ok (.aload_n 0, 1) := by decide +kernel
theorem dL_isAct_256 : decode cL_isAct 256 = .ok (.aload_n 1, 1) := by decide +kernel
theorem dL_isAct_257 : decode cL_isAct 257 = .ok (.iload_n 2, 1) := by decide +kernel
theorem dL_isAct_258 : decode cL_isAct 258 = .ok (.iconst 1, 1) := by decide +kernel
theorem dL_isAct_259 : decode cL_isAct 259 = .ok (.iadd, 1) := by decide +kernel
theorem dL_isAct_260 : decode cL_isAct 260 = .ok (.aload_n 0, 1) := by decide +kernel
theorem dL_isAct_261 : decode cL_isAct 261 = .ok (.iconst 2, 1) := by decide +kernel
theorem dL_isAct_262 : decode cL_isAct 262 = .ok (.invokevirtual 8, 3) := by decide +kernel
theorem dL_isAct_265 : decode cL_isAct 265 = .ok (.iconst 1, 1) := by decide +kernel
theorem dL_isAct_266 : decode cL_isAct 266 = .ok (.iadd, 1) := by decide +kernel
theorem dL_isAct_267 : decode cL_isAct 267 = .ok (.invokestatic 95, 3) := by decide +kernel
theorem dL_isAct_270 : decode cL_isAct 270 = .ok (.invokestatic 114, 3) := by decide +kernel
theorem dL_isAct_273 : decode cL_isAct 273 = .ok (.ireturn, 1) := by decide +kernel
theorem dL_isAct_274 : decode cL_isAct 274 = .ok (.aload_n 0, 1) := by decide +kernel
theorem dL_isAct_275 : decode cL_isAct 275 = .ok (.aload_n 1, 1) := by decide +kernel
theorem dL_isAct_276 : decode cL_isAct 276 = .ok (.iload_n 2, 1) := by decide +kernel
theorem dL_isAct_277 : decode cL_isAct 277 = .ok (.iconst 1, 1) := by decide +kernel
theorem dL_isAct_278 : decode cL_isAct 278 = .ok (.iadd, 1) := by decide +kernel
theorem dL_isAct_279 : decode cL_isAct 279 = .ok (.aload_n 0, 1) := by decide +kernel
theorem dL_isAct_280 : decode cL_isAct 280 = .ok (.iconst 2, 1) := by decide +kernel
theorem dL_isAct_281 : decode cL_isAct 281 = .ok (.invokevirtual 8, 3) := by decide +kernel
theorem dL_isAct_284 : decode cL_isAct 284 = .ok (.iconst 1, 1) := by decide +kernel
theorem dL_isAct_285 : decode cL_isAct 285 = .ok (.iadd, 1) := by decide +kernel
theorem dL_isAct_286 : decode cL_isAct 286 = .ok (.invokestatic 95, 3) := by decide +kernel
theorem dL_isAct_289 : decode cL_isAct 289 = .ok (.invokestatic 117, 3) := by decide +kernel
theorem dL_isAct_292 : decode cL_isAct 292 = .ok (.ireturn, 1) := by decide +kernel
theorem dL_isAct_293 : decode cL_isAct 293 = .ok (.aload_n 0, 1) := by decide +kernel
theorem dL_isAct_294 : decode cL_isAct 294 = .ok (.iload_n 3, 1) := by decide +kernel
theorem dL_isAct_295 : decode cL_isAct 295 = .ok (.iconst 1, 1) := by decide +kernel
theorem dL_isAct_296 : decode cL_isAct 296 = .ok (.aload_n 1, 1) := by decide +kernel
theorem dL_isAct_297 : decode cL_isAct 297 = .ok (.iload_n 2, 1) := by decide +kernel
theorem dL_isAct_298 : decode cL_isAct 298 = .ok (.iconst 2, 1) := by decide +kernel
theorem dL_isAct_299 : decode cL_isAct 299 = .ok (.iadd, 1) := by decide +kernel
theorem dL_isAct_300 : decode cL_isAct 300 = .ok (.ldc 120, 2) := by decide +kernel
theorem dL_isAct_302 : decode cL_isAct 302 = .ok (.invokestatic 95, 3) := by decide +kernel
theorem dL_isAct_305 : decode cL_isAct 305 = .ok (.iadd, 1) := by decide +kernel
theorem dL_isAct_306 : decode cL_isAct 306 = .ok (.invokestatic 121, 3) := by decide +kernel
theorem dL_isAct_309 : decode cL_isAct 309 = .ok (.ireturn, 1) := by decide +kernel
theorem dL_isAct_310 : decode cL_isAct 310 = .ok (.aload_n 1, 1) := by decide +kernel
theorem dL_isAct_311 : decode cL_isAct 311 = .ok (.iload_n 2, 1) := by decide +kernel
theorem dL_isAct_312 : decode cL_isAct 312 = .ok (.iconst 1, 1) := by decide +kernel
theorem dL_isAct_313 : decode cL_isAct 313 = .ok (.iadd, 1) := by decide +kernel
theorem dL_isAct_314 : decode cL_isAct 314 = .ok (.bipush 10, 2) := by decide +kernel
theorem dL_isAct_316 : decode cL_isAct 316 = .ok (.invokestatic 95, 3) := by decide +kernel
theorem dL_isAct_319 : decode cL_isAct 319 = .ok (.istore 4, 2) := by decide +kernel
theorem dL_isAct_321 : decode cL_isAct 321 = .ok (.aload_n 0, 1) := by decide +kernel
theorem dL_isAct_322 : decode cL_isAct 322 = .ok (.iload 4, 2) := by decide +kernel
theorem dL_isAct_324 : decode cL_isAct 324 = .ok (.bipush 30, 2) := by decide +kernel
theorem dL_isAct_326 : decode cL_isAct 326 = .ok (.invokevirtual 124, 3) := by decide +kernel
theorem dL_isAct_329 : decode cL_isAct 329 = .ok (.ifCond .lt 7, 3) := by decide +kernel
theorem dL_isAct_332 : decode cL_isAct 332 = .ok (.iconst 1, 1) := by decide +kernel
theorem dL_isAct_333 : decode cL_isAct 333 = .ok (.goto 4, 3) := by decide +kernel
theorem dL_isAct_336 : decode cL_isAct 336 = .ok (.iconst 0, 1) := by decide +kernel
theorem dL_isAct_337 : decode cL_isAct 337 = .ok (.iload 4, 2) := by decide +kernel
theorem dL_isAct_339 : decode cL_isAct 339 = .ok (.ifCond .eq 14, 3) := by decide +kernel
theorem dL_isAct_342 : decode cL_isAct 342 = .ok (.iload 4, 2) := by decide +kernel
theorem dL_isAct_344 : decode cL_isAct 344 = .ok (.bipush 7, 2) := by decide +kernel
theorem dL_isAct_346 : decode cL_isAct 346 = .ok (.if_icmp .eq 7, 3) := by decide +kernel
theorem dL_isAct_349 : decode cL_isAct 349 = .ok (.iconst 1, 1) := by decide +kernel
theorem dL_isAct_350 : decode cL_isAct 350 = .ok (.goto 4, 3) := by decide +kernel
theorem dL_isAct_353 : decode cL_isAct 353 = .ok (.iconst 0, 1) := by decide +kernel
theorem dL_isAct_354 : decode cL_isAct 354 = .ok (.if_icmp .ne 41, 3) := by decide +kernel
theorem dL_isAct_357 : decode cL_isAct 357 = .ok (.aload_n 0, 1) := by decide +kernel
theorem dL_isAct_358 : decode cL_isAct 358 = .ok (.iload_n 3, 1) := by decide +kernel
theorem dL_isAct_359 : decode cL_isAct 359 = .ok (.iconst 1, 1) := by decide +kernel
theorem dL_isAct_360 : decode cL_isAct 360 = .ok (.aload_n 1, 1) := by decide +kernel
theorem dL_isAct_361 : decode cL_isAct 361 = .ok (.iload_n 2, 1) := by decide +kernel
theorem dL_isAct_362 : decode cL_isAct 362 = .ok (.iconst 2, 1) := by decide +kernel
theorem dL_isAct_363 : decode cL_isAct 363 = .ok (.iadd, 1) := by decide +kernel
theorem dL_isAct_364 : decode cL_isAct 364 = .ok (.sipush 200, 3) := by decide +kernel
theorem dL_isAct_367 : decode cL_isAct 367 = .ok (.invokestatic 95, 3) := by decide +kernel
theorem dL_isAct_370 : decode cL_isAct 370 = .ok (.iadd, 1) := by decide +kernel
theorem dL_isAct_371 : decode cL_isAct 371 = .ok (.bipush 10, 2) := by decide +kernel
theorem dL_isAct_373 : decode cL_isAct 373 = .ok (.aload_n 1, 1) := by decide +kernel
theorem dL_isAct_374 : decode cL_isAct 374 = .ok (.iload_n 2, 1) := by decide +kernel
theorem dL_isAct_375 : decode cL_isAct 375 = .ok (.iconst 3, 1) := by decide +kernel
theorem dL_isAct_376 : decode cL_isAct 376 = .ok (.iadd, 1) := by decide +kernel
theorem dL_isAct_377 : decode cL_isAct 377 = .ok (.bipush 51, 2) := by decide +kernel
theorem dL_isAct_379 : decode cL_isAct 379 = .ok (.invokestatic 95, 3) := by decide +kernel
theorem dL_isAct_382 : decode cL_isAct 382 = .ok (.iadd, 1) := by decide +kernel
theorem dL_isAct_383 : decode cL_isAct 383 = .ok (.invokevirtual 127, 3) := by decide +kernel
theorem dL_isAct_386 : decode cL_isAct 386 = .ok (.bipush 110, 2) := by decide +kernel
theorem dL_isAct_388 : decode cL_isAct 388 = .ok (.if_icmp .lt 7, 3) := by decide +kernel
theorem dL_isAct_391 : decode cL_isAct 391 = .ok (.iconst 1, 1) := by decide +kernel
theorem dL_isAct_392 : decode cL_isAct 392 = .ok (.goto 4, 3) := by decide +kernel
theorem dL_isAct_395 : decode cL_isAct 395 = .ok (.iconst 0, 1) := by decide +kernel
theorem dL_isAct_396 : decode cL_isAct 396 = .ok (.ireturn, 1) := by decide +kernel
theorem dL_isAct_397 : decode cL_isAct 397 = .ok (.aload_n 0, 1) := by decide +kernel
theorem dL_isAct_398 : decode cL_isAct 398 = .ok (.iconst 1, 1) := by decide +kernel
theorem dL_isAct_399 : decode cL_isAct 399 = .ok (.aload_n 1, 1) := by decide +kernel
theorem dL_isAct_400 : decode cL_isAct 400 = .ok (.iload_n 2, 1) := by decide +kernel
theorem dL_isAct_401 : decode cL_isAct 401 = .ok (.iconst 1, 1) := by decide +kernel
theorem dL_isAct_402 : decode cL_isAct 402 = .ok (.iadd, 1) := by decide +kernel
theorem dL_isAct_403 : decode cL_isAct 403 = .ok (.iconst 4, 1) := by decide +kernel
theorem dL_isAct_404 : decode cL_isAct 404 = .ok (.invokestatic 95, 3) := by decide +kernel
theorem dL_isAct_407 : decode cL_isAct 407 = .ok (.iadd, 1) := by decide +kernel
theorem dL_isAct_408 : decode cL_isAct 408 = .ok (.invokestatic 130, 3) := by decide +kernel
theorem dL_isAct_411 : decode cL_isAct 411 = .ok (.ireturn, 1) := by decide +kernel
theorem dL_law_0 : decode cL_law 0 = .ok (.new 9, 3) := by decide +kernel
theorem dL_law_3 : decode cL_law 3 = .ok (.dup, 1) := by decide +kernel
theorem dL_law_4 : decode cL_law 4 = .ok (.invokespecial 133, 3) := by decide +kernel
theorem dL_law_7 : decode cL_law 7 = .ok (.astore_n 1, 1) := by decide +kernel
theorem dL_law_8 : decode cL_law 8 = .ok (.aload_n 1, 1) := by decide +kernel
theorem dL_law_9 : decode cL_law 9 = .ok (.iconst 1, 1) := by decide +kernel
theorem dL_law_10 : decode cL_law 10 = .ok (.bipush 10, 2) := by decide +kernel
theorem dL_law_12 : decode cL_law 12 = .ok (.aload_n 0, 1) := by decide +kernel
theorem dL_law_13 : decode cL_law 13 = .ok (.iconst 0, 1) := by decide +kernel
theorem dL_law_14 : decode cL_law 14 = .ok (.bipush 51, 2) := by decide +kernel
theorem dL_law_16 : decode cL_law 16 = .ok (.invokestatic 95, 3) := by decide +kernel
theorem dL_law_19 : decode cL_law 19 = .ok (.iadd, 1) := by decide +kernel
theorem dL_law_20 : decode cL_law 20 = .ok (.invokevirtual 124, 3) := by decide +kernel
theorem dL_law_23 : decode cL_law 23 = .ok (.pop, 1) := by decide +kernel
theorem dL_law_24 : decode cL_law 24 = .ok (.aload_n 1, 1) := by decide +kernel
theorem dL_law_25 : decode cL_law 25 = .ok (.iconst 2, 1) := by decide +kernel
theorem dL_law_26 : decode cL_law 26 = .ok (.aload_n 0, 1) := by decide +kernel
theorem dL_law_27 : decode cL_law 27 = .ok (.iconst 1, 1) := by decide +kernel
theorem dL_law_28 : decode cL_law 28 = .ok (.bipush 41, 2) := by decide +kernel
theorem dL_law_30 : decode cL_law 30 = .ok (.invokestatic 95, 3) := by decide +kernel
theorem dL_law_33 : decode cL_law 33 = .ok (.invokevirtual 124, 3) := by decide +kernel
theorem dL_law_36 : decode cL_law 36 = .ok (.pop, 1) := by decide +kernel
theorem dL_law_37 : decode cL_law 37 = .ok (.aload_n 1, 1) := by decide +kernel
theorem dL_law_38 : decode cL_law 38 = .ok (.iconst 3, 1) := by decide +kernel
theorem dL_law_39 : decode cL_law 39 = .ok (.aload_n 0, 1) := by decide +kernel
theorem dL_law_40 : decode cL_law 40 = .ok (.iconst 2, 1) := by decide +kernel
theorem dL_law_41 : decode cL_law 41 = .ok (.bipush 61, 2) := by decide +kernel
theorem dL_law_43 : decode cL_law 43 = .ok (.invokestatic 95, 3) := by decide +kernel
theorem dL_law_46 : decode cL_law 46 = .ok (.invokevirtual 124, 3) := by decide +kernel
theorem dL_law_49 : decode cL_law 49 = .ok (.pop, 1) := by decide +kernel
theorem dL_law_50 : decode cL_law 50 = .ok (.aload_n 1, 1) := by decide +kernel
theorem dL_law_51 : decode cL_law 51 = .ok (.iconst 4, 1) := by decide +kernel
theorem dL_law_52 : decode cL_law 52 = .ok (.iconst 1, 1) := by decide +kernel
theorem dL_law_53 : decode cL_law 53 = .ok (.aload_n 0, 1) := by decide +kernel
theorem dL_law_54 : decode cL_law 54 = .ok (.iconst 3, 1) := by decide +kernel
theorem dL_law_55 : decode cL_law 55 = .ok (.bipush 30, 2) := by decide +kernel
theorem dL_law_57 : decode cL_law 57 = .ok (.invokestatic 95, 3) := by decide +kernel
theorem dL_law_60 : decode cL_law 60 = .ok (.iadd, 1) := by decide +kernel
theorem dL_law_61 : decode cL_law 61 = .ok (.invokevirtual 124, 3) := by decide +kernel
theorem dL_law_64 : decode cL_law 64 = .ok (.pop, 1) := by decide +kernel
theorem dL_law_65 : decode cL_law 65 = .ok (.aload_n 1, 1) := by decide +kernel
theorem dL_law_66 : decode cL_law 66 = .ok (.iconst 5, 1) := by decide +kernel
theorem dL_law_67 : decode cL_law 67 = .ok (.iconst 1, 1) := by decide +kernel
theorem dL_law_68 : decode cL_law 68 = .ok (.aload_n 0, 1) := by decide +kernel
theorem dL_law_69 : decode cL_law 69 = .ok (.iconst 4, 1) := by decide +kernel
theorem dL_law_70 : decode cL_law 70 = .ok (.bipush 30, 2) := by decide +kernel
theorem dL_law_72 : decode cL_law 72 = .ok (.invokestatic 95, 3) := by decide +kernel
theorem dL_law_75 : decode cL_law 75 = .ok (.iadd, 1) := by decide +kernel
theorem dL_law_76 : decode cL_law 76 = .ok (.invokevirtual 124, 3) := by decide +kernel
theorem dL_law_79 : decode cL_law 79 = .ok (.pop, 1) := by decide +kernel
theorem dL_law_80 : decode cL_law 80 = .ok (.aload_n 1, 1) := by decide +kernel
theorem dL_law_81 : decode cL_law 81 = .ok (.bipush 6, 2) := by decide +kernel
theorem dL_law_83 : decode cL_law 83 = .ok (.iconst 1, 1) := by decide +kernel
theorem dL_law_84 : decode cL_law 84 = .ok (.aload_n 0, 1) := by decide +kernel
theorem dL_law_85 : decode cL_law 85 = .ok (.iconst 5, 1) := by decide +kernel
theorem dL_law_86 : decode cL_law 86 = .ok (.bipush 40, 2) := by decide +kernel
theorem dL_law_88 : decode cL_law 88 = .ok (.invokestatic 95, 3) := by decide +kernel
theorem dL_law_91 : decode cL_law 91 = .ok (.iadd, 1) := by decide +kernel
theorem dL_law_92 : decode cL_law 92 = .ok (.invokevirtual 124, 3) := by decide +kernel
theorem dL_law_95 : decode cL_law 95 = .ok (.pop, 1) := by decide +kernel
theorem dL_law_96 : decode cL_law 96 = .ok (.aload_n 1, 1) := by decide +kernel
theorem dL_law_97 : decode cL_law 97 = .ok (.bipush 8, 2) := by decide +kernel
theorem dL_law_99 : decode cL_law 99 = .ok (.bipush 100, 2) := by decide +kernel
theorem dL_law_101 : decode cL_law 101 = .ok (.aload_n 0, 1) := by decide +kernel
theorem dL_law_102 : decode cL_law 102 = .ok (.bipush 6, 2) := by decide +kernel
theorem dL_law_104 : decode cL_law 104 = .ok (.sipush 401, 3) := by decide +kernel
theorem dL_law_107 : decode cL_law 107 = .ok (.invokestatic 95, 3) := by decide +kernel
theorem dL_law_110 : decode cL_law 110 = .ok (.iadd, 1) := by decide +kernel
theorem dL_law_111 : decode cL_law 111 = .ok (.invokevirtual 124, 3) := by decide +kernel
theorem dL_law_114 : decode cL_law 114 = .ok (.pop, 1) := by decide +kernel
theorem dL_law_115 : decode cL_law 115 = .ok (.iconst 0, 1) := by decide +kernel
theorem dL_law_116 : decode cL_law 116 = .ok (.istore_n 2, 1) := by decide +kernel
theorem dL_law_117 : decode cL_law 117 = .ok (.iload_n 2, 1) := by decide +kernel
theorem dL_law_118 : decode cL_law 118 = .ok (.iconst 3, 1) := by decide +kernel
theorem dL_law_119 : decode cL_law 119 = .ok (.if_icmp .ge 32, 3) := by decide +kernel
theorem dL_law_122 : decode cL_law 122 = .ok (.aload_n 1, 1) := by decide +kernel
theorem dL_law_123 : decode cL_law 123 = .ok (.iload_n 2, 1) := by decide +kernel
theorem dL_law_124 : decode cL_law 124 = .ok (.ldc 134, 2) := by decide +kernel
theorem dL_law_126 : decode cL_law 126 = .ok (.aload_n 0, 1) := by decide +kernel
theorem dL_law_127 : decode cL_law 127 = .ok (.bipush 7, 2) := by decide +kernel
theorem dL_law_129 : decode cL_law 129 = .ok (.iload_n 2, 1) := by decide +kernel
theorem dL_law_130 : decode cL_law 130 = .ok (.iadd, 1) := by decide +kernel
theorem dL_law_131 : decode cL_law 131 = .ok (.ldc 135, 2) := by decide +kernel
theorem dL_law_133 : decode cL_law 133 = .ok (.invokestatic 95, 3) := by decide +kernel
theorem dL_law_136 : decode cL_law 136 = .ok (.iadd, 1) := by decide +kernel
theorem dL_law_137 : decode cL_law 137 = .ok (.invokestatic 121, 3) := by decide +kernel
theorem dL_law_140 : decode cL_law 140 = .ok (.ifCond .ne 5, 3) := by decide +kernel
theorem dL_law_143 : decode cL_law 143 = .ok (.iconst 0, 1) := by decide +kernel
theorem dL_law_144 : decode cL_law 144 = .ok (.ireturn, 1) := by decide +kernel
theorem dL_law_145 : decode cL_law 145 = .ok (.iinc 2 1, 3) := by decide +kernel
theorem dL_law_148 : decode cL_law 148 = .ok (.goto (-31), 3) := by decide +kernel
theorem dL_law_151 : decode cL_law 151 = .ok (.iconst 0, 1) := by decide +kernel
theorem dL_law_152 : decode cL_law 152 = .ok (.istore_n 2, 1) := by decide +kernel
theorem dL_law_153 : decode cL_law 153 = .ok (.iload_n 2, 1) := by decide +kernel
theorem dL_law_154 : decode cL_law 154 = .ok (.bipush 60, 2) := by decide +kernel
theorem dL_law_156 : decode cL_law 156 = .ok (.if_icmp .ge 33, 3) := by decide +kernel
theorem dL_law_159 : decode cL_law 159 = .ok (.aload_n 1, 1) := by decide +kernel
theorem dL_law_160 : decode cL_law 160 = .ok (.aload_n 0, 1) := by decide +kernel
theorem dL_law_161 : decode cL_law 161 = .ok (.bipush 10, 2) := by decide +kernel
theorem dL_law_163 : decode cL_law 163 = .ok (.bipush 6, 2) := by decide +kernel
theorem dL_law_165 : decode cL_law 165 = .ok (.iload_n 2, 1) := by decide +kernel
theorem dL_law_166 : decode cL_law 166 = .ok (.imul, 1) := by decide +kernel
theorem dL_law_167 : decode cL_law 167 = .ok (.iadd, 1) := by decide +kernel
theorem dL_law_168 : decode cL_law 168 = .ok (.invokestatic 136, 3) := by decide +kernel
theorem dL_law_171 : decode cL_law 171 = .ok (.ifCond .eq 10, 3) := by decide +kernel
theorem dL_law_174 : decode cL_law 174 = .ok (.aload_n 1, 1) := by decide +kernel
theorem dL_law_175 : decode cL_law 175 = .ok (.invokestatic 140, 3) := by decide +kernel
theorem dL_law_178 : decode cL_law 178 = .ok (.ifCond .ne 5, 3) := by decide +kernel
theorem dL_law_181 : decode cL_law 181 = .ok (.iconst 0, 1) := by decide +kernel
theorem dL_law_182 : decode cL_law 182 = .ok (.ireturn, 1) := by decide +kernel
theorem dL_law_183 : decode cL_law 183 = .ok (.iinc 2 1, 3) := by decide +kernel
theorem dL_law_186 : decode cL_law 186 = .ok (.goto (-33), 3) := by decide +kernel
theorem dL_law_189 : decode cL_law 189 = .ok (.iconst 1, 1) := by decide +kernel
theorem dL_law_190 : decode cL_law 190 = .ok (.ireturn, 1) := by decide +kernel

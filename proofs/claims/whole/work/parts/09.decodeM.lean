theorem dM_init_0 : decode bM_init 0 = .ok (.aload_n 0, 1) := by decide +kernel
theorem dM_init_1 : decode bM_init 1 = .ok (.invokespecial 1, 3) := by decide +kernel
theorem dM_init_4 : decode bM_init 4 = .ok (.aload_n 0, 1) := by decide +kernel
theorem dM_init_5 : decode bM_init 5 = .ok (.bipush 8, 2) := by decide +kernel
theorem dM_init_7 : decode bM_init 7 = .ok (.newarray .int, 2) := by decide +kernel
theorem dM_init_9 : decode bM_init 9 = .ok (.putfield 7, 3) := by decide +kernel
theorem dM_init_12 : decode bM_init 12 = .ok (.aload_n 0, 1) := by decide +kernel
theorem dM_init_13 : decode bM_init 13 = .ok (.bipush 8, 2) := by decide +kernel
theorem dM_init_15 : decode bM_init 15 = .ok (.newarray .int, 2) := by decide +kernel
theorem dM_init_17 : decode bM_init 17 = .ok (.putfield 13, 3) := by decide +kernel
theorem dM_init_20 : decode bM_init 20 = .ok (.aload_n 0, 1) := by decide +kernel
theorem dM_init_21 : decode bM_init 21 = .ok (.iconst 4, 1) := by decide +kernel
theorem dM_init_22 : decode bM_init 22 = .ok (.newarray .int, 2) := by decide +kernel
theorem dM_init_24 : decode bM_init 24 = .ok (.dup, 1) := by decide +kernel
theorem dM_init_25 : decode bM_init 25 = .ok (.iconst 0, 1) := by decide +kernel
theorem dM_init_26 : decode bM_init 26 = .ok (.iconst 1, 1) := by decide +kernel
theorem dM_init_27 : decode bM_init 27 = .ok (.iastore, 1) := by decide +kernel
theorem dM_init_28 : decode bM_init 28 = .ok (.dup, 1) := by decide +kernel
theorem dM_init_29 : decode bM_init 29 = .ok (.iconst 1, 1) := by decide +kernel
theorem dM_init_30 : decode bM_init 30 = .ok (.iconst 1, 1) := by decide +kernel
theorem dM_init_31 : decode bM_init 31 = .ok (.iastore, 1) := by decide +kernel
theorem dM_init_32 : decode bM_init 32 = .ok (.dup, 1) := by decide +kernel
theorem dM_init_33 : decode bM_init 33 = .ok (.iconst 2, 1) := by decide +kernel
theorem dM_init_34 : decode bM_init 34 = .ok (.iconst 1, 1) := by decide +kernel
theorem dM_init_35 : decode bM_init 35 = .ok (.iastore, 1) := by decide +kernel
theorem dM_init_36 : decode bM_init 36 = .ok (.dup, 1) := by decide +kernel
theorem dM_init_37 : decode bM_init 37 = .ok (.iconst 3, 1) := by decide +kernel
theorem dM_init_38 : decode bM_init 38 = .ok (.iconst 1, 1) := by decide +kernel
theorem dM_init_39 : decode bM_init 39 = .ok (.iastore, 1) := by decide +kernel
theorem dM_init_40 : decode bM_init 40 = .ok (.putfield 16, 3) := by decide +kernel
theorem dM_init_43 : decode bM_init 43 = .ok (.aload_n 0, 1) := by decide +kernel
theorem dM_init_44 : decode bM_init 44 = .ok (.iconst 4, 1) := by decide +kernel
theorem dM_init_45 : decode bM_init 45 = .ok (.newarray .int, 2) := by decide +kernel
theorem dM_init_47 : decode bM_init 47 = .ok (.dup, 1) := by decide +kernel
theorem dM_init_48 : decode bM_init 48 = .ok (.iconst 0, 1) := by decide +kernel
theorem dM_init_49 : decode bM_init 49 = .ok (.iconst 1, 1) := by decide +kernel
theorem dM_init_50 : decode bM_init 50 = .ok (.iastore, 1) := by decide +kernel
theorem dM_init_51 : decode bM_init 51 = .ok (.dup, 1) := by decide +kernel
theorem dM_init_52 : decode bM_init 52 = .ok (.iconst 1, 1) := by decide +kernel
theorem dM_init_53 : decode bM_init 53 = .ok (.iconst 1, 1) := by decide +kernel
theorem dM_init_54 : decode bM_init 54 = .ok (.iastore, 1) := by decide +kernel
theorem dM_init_55 : decode bM_init 55 = .ok (.dup, 1) := by decide +kernel
theorem dM_init_56 : decode bM_init 56 = .ok (.iconst 2, 1) := by decide +kernel
theorem dM_init_57 : decode bM_init 57 = .ok (.iconst 1, 1) := by decide +kernel
theorem dM_init_58 : decode bM_init 58 = .ok (.iastore, 1) := by decide +kernel
theorem dM_init_59 : decode bM_init 59 = .ok (.dup, 1) := by decide +kernel
theorem dM_init_60 : decode bM_init 60 = .ok (.iconst 3, 1) := by decide +kernel
theorem dM_init_61 : decode bM_init 61 = .ok (.iconst 1, 1) := by decide +kernel
theorem dM_init_62 : decode bM_init 62 = .ok (.iastore, 1) := by decide +kernel
theorem dM_init_63 : decode bM_init 63 = .ok (.putfield 19, 3) := by decide +kernel
theorem dM_init_66 : decode bM_init 66 = .ok (.aload_n 0, 1) := by decide +kernel
theorem dM_init_67 : decode bM_init 67 = .ok (.iconst 4, 1) := by decide +kernel
theorem dM_init_68 : decode bM_init 68 = .ok (.newarray .boolean, 2) := by decide +kernel
theorem dM_init_70 : decode bM_init 70 = .ok (.putfield 22, 3) := by decide +kernel
theorem dM_init_73 : decode bM_init 73 = .ok (.aload_n 0, 1) := by decide +kernel
theorem dM_init_74 : decode bM_init 74 = .ok (.iconst 1, 1) := by decide +kernel
theorem dM_init_75 : decode bM_init 75 = .ok (.putfield 26, 3) := by decide +kernel
theorem dM_init_78 : decode bM_init 78 = .ok (.aload_n 0, 1) := by decide +kernel
theorem dM_init_79 : decode bM_init 79 = .ok (.bipush 8, 2) := by decide +kernel
theorem dM_init_81 : decode bM_init 81 = .ok (.newarray .int, 2) := by decide +kernel
theorem dM_init_83 : decode bM_init 83 = .ok (.putfield 30, 3) := by decide +kernel
theorem dM_init_86 : decode bM_init 86 = .ok (.aload_n 0, 1) := by decide +kernel
theorem dM_init_87 : decode bM_init 87 = .ok (.bipush 8, 2) := by decide +kernel
theorem dM_init_89 : decode bM_init 89 = .ok (.newarray .int, 2) := by decide +kernel
theorem dM_init_91 : decode bM_init 91 = .ok (.putfield 33, 3) := by decide +kernel
theorem dM_init_94 : decode bM_init 94 = .ok (.aload_n 0, 1) := by decide +kernel
theorem dM_init_95 : decode bM_init 95 = .ok (.bipush 32, 2) := by decide +kernel
theorem dM_init_97 : decode bM_init 97 = .ok (.newarray .int, 2) := by decide +kernel
theorem dM_init_99 : decode bM_init 99 = .ok (.putfield 36, 3) := by decide +kernel
theorem dM_init_102 : decode bM_init 102 = .ok (.aload_n 0, 1) := by decide +kernel
theorem dM_init_103 : decode bM_init 103 = .ok (.iconst 4, 1) := by decide +kernel
theorem dM_init_104 : decode bM_init 104 = .ok (.newarray .int, 2) := by decide +kernel
theorem dM_init_106 : decode bM_init 106 = .ok (.putfield 39, 3) := by decide +kernel
theorem dM_init_109 : decode bM_init 109 = .ok (.aload_n 0, 1) := by decide +kernel
theorem dM_init_110 : decode bM_init 110 = .ok (.iconst 4, 1) := by decide +kernel
theorem dM_init_111 : decode bM_init 111 = .ok (.newarray .int, 2) := by decide +kernel
theorem dM_init_113 : decode bM_init 113 = .ok (.putfield 42, 3) := by decide +kernel
theorem dM_init_116 : decode bM_init 116 = .ok (.aload_n 0, 1) := by decide +kernel
theorem dM_init_117 : decode bM_init 117 = .ok (.iload_n 1, 1) := by decide +kernel
theorem dM_init_118 : decode bM_init 118 = .ok (.iconst 1, 1) := by decide +kernel
theorem dM_init_119 : decode bM_init 119 = .ok (.if_icmp .ge 7, 3) := by decide +kernel
theorem dM_init_122 : decode bM_init 122 = .ok (.iconst 1, 1) := by decide +kernel
theorem dM_init_123 : decode bM_init 123 = .ok (.goto 13, 3) := by decide +kernel
theorem dM_init_126 : decode bM_init 126 = .ok (.iload_n 1, 1) := by decide +kernel
theorem dM_init_127 : decode bM_init 127 = .ok (.iconst 4, 1) := by decide +kernel
theorem dM_init_128 : decode bM_init 128 = .ok (.if_icmp .le 7, 3) := by decide +kernel
theorem dM_init_131 : decode bM_init 131 = .ok (.iconst 4, 1) := by decide +kernel
theorem dM_init_132 : decode bM_init 132 = .ok (.goto 4, 3) := by decide +kernel
theorem dM_init_135 : decode bM_init 135 = .ok (.iload_n 1, 1) := by decide +kernel
theorem dM_init_136 : decode bM_init 136 = .ok (.putfield 45, 3) := by decide +kernel
theorem dM_init_139 : decode bM_init 139 = .ok (.aload_n 0, 1) := by decide +kernel
theorem dM_init_140 : decode bM_init 140 = .ok (.iload_n 2, 1) := by decide +kernel
theorem dM_init_141 : decode bM_init 141 = .ok (.ifCond .ge 7, 3) := by decide +kernel
theorem dM_init_144 : decode bM_init 144 = .ok (.iconst 0, 1) := by decide +kernel
theorem dM_init_145 : decode bM_init 145 = .ok (.goto 13, 3) := by decide +kernel
theorem dM_init_148 : decode bM_init 148 = .ok (.iload_n 2, 1) := by decide +kernel
theorem dM_init_149 : decode bM_init 149 = .ok (.iconst 3, 1) := by decide +kernel
theorem dM_init_150 : decode bM_init 150 = .ok (.if_icmp .le 7, 3) := by decide +kernel
theorem dM_init_153 : decode bM_init 153 = .ok (.iconst 3, 1) := by decide +kernel
theorem dM_init_154 : decode bM_init 154 = .ok (.goto 4, 3) := by decide +kernel
theorem dM_init_157 : decode bM_init 157 = .ok (.iload_n 2, 1) := by decide +kernel
theorem dM_init_158 : decode bM_init 158 = .ok (.putfield 48, 3) := by decide +kernel
theorem dM_init_161 : decode bM_init 161 = .ok (.return_, 1) := by decide +kernel
theorem dM_thrown_0 : decode bM_thrown 0 = .ok (.aload_n 0, 1) := by decide +kernel
theorem dM_thrown_1 : decode bM_thrown 1 = .ok (.getfield 51, 3) := by decide +kernel
theorem dM_thrown_4 : decode bM_thrown 4 = .ok (.ireturn, 1) := by decide +kernel
theorem dM_refuse_0 : decode bM_refuse 0 = .ok (.aload_n 0, 1) := by decide +kernel
theorem dM_refuse_1 : decode bM_refuse 1 = .ok (.iload_n 1, 1) := by decide +kernel
theorem dM_refuse_2 : decode bM_refuse 2 = .ok (.putfield 51, 3) := by decide +kernel
theorem dM_refuse_5 : decode bM_refuse 5 = .ok (.iconst 0, 1) := by decide +kernel
theorem dM_refuse_6 : decode bM_refuse 6 = .ok (.ireturn, 1) := by decide +kernel
theorem dM_in_0 : decode bM_in 0 = .ok (.iload_n 0, 1) := by decide +kernel
theorem dM_in_1 : decode bM_in 1 = .ok (.iload_n 1, 1) := by decide +kernel
theorem dM_in_2 : decode bM_in 2 = .ok (.if_icmp .lt 12, 3) := by decide +kernel
theorem dM_in_5 : decode bM_in 5 = .ok (.iload_n 0, 1) := by decide +kernel
theorem dM_in_6 : decode bM_in 6 = .ok (.iload_n 2, 1) := by decide +kernel
theorem dM_in_7 : decode bM_in 7 = .ok (.if_icmp .gt 7, 3) := by decide +kernel
theorem dM_in_10 : decode bM_in 10 = .ok (.iconst 1, 1) := by decide +kernel
theorem dM_in_11 : decode bM_in 11 = .ok (.goto 4, 3) := by decide +kernel
theorem dM_in_14 : decode bM_in 14 = .ok (.iconst 0, 1) := by decide +kernel
theorem dM_in_15 : decode bM_in 15 = .ok (.ireturn, 1) := by decide +kernel
theorem dM_isCrane_0 : decode bM_isCrane 0 = .ok (.iload_n 1, 1) := by decide +kernel
theorem dM_isCrane_1 : decode bM_isCrane 1 = .ok (.ifCond .lt 15, 3) := by decide +kernel
theorem dM_isCrane_4 : decode bM_isCrane 4 = .ok (.iload_n 1, 1) := by decide +kernel
theorem dM_isCrane_5 : decode bM_isCrane 5 = .ok (.aload_n 0, 1) := by decide +kernel
theorem dM_isCrane_6 : decode bM_isCrane 6 = .ok (.getfield 45, 3) := by decide +kernel
theorem dM_isCrane_9 : decode bM_isCrane 9 = .ok (.if_icmp .ge 7, 3) := by decide +kernel
theorem dM_isCrane_12 : decode bM_isCrane 12 = .ok (.iconst 1, 1) := by decide +kernel
theorem dM_isCrane_13 : decode bM_isCrane 13 = .ok (.goto 4, 3) := by decide +kernel
theorem dM_isCrane_16 : decode bM_isCrane 16 = .ok (.iconst 0, 1) := by decide +kernel
theorem dM_isCrane_17 : decode bM_isCrane 17 = .ok (.ireturn, 1) := by decide +kernel
theorem dM_bay_0 : decode bM_bay 0 = .ok (.iload_n 1, 1) := by decide +kernel
theorem dM_bay_1 : decode bM_bay 1 = .ok (.iconst 0, 1) := by decide +kernel
theorem dM_bay_2 : decode bM_bay 2 = .ok (.bipush 50, 2) := by decide +kernel
theorem dM_bay_4 : decode bM_bay 4 = .ok (.invokestatic 54, 3) := by decide +kernel
theorem dM_bay_7 : decode bM_bay 7 = .ok (.ifCond .eq 14, 3) := by decide +kernel
theorem dM_bay_10 : decode bM_bay 10 = .ok (.iload_n 2, 1) := by decide +kernel
theorem dM_bay_11 : decode bM_bay 11 = .ok (.iconst 0, 1) := by decide +kernel
theorem dM_bay_12 : decode bM_bay 12 = .ok (.sipush 200, 3) := by decide +kernel
theorem dM_bay_15 : decode bM_bay 15 = .ok (.invokestatic 54, 3) := by decide +kernel
theorem dM_bay_18 : decode bM_bay 18 = .ok (.ifCond .ne 9, 3) := by decide +kernel
theorem dM_bay_21 : decode bM_bay 21 = .ok (.aload_n 0, 1) := by decide +kernel
theorem dM_bay_22 : decode bM_bay 22 = .ok (.iconst 1, 1) := by decide +kernel
theorem dM_bay_23 : decode bM_bay 23 = .ok (.invokevirtual 58, 3) := by decide +kernel
theorem dM_bay_26 : decode bM_bay 26 = .ok (.ireturn, 1) := by decide +kernel
theorem dM_bay_27 : decode bM_bay 27 = .ok (.aload_n 0, 1) := by decide +kernel
theorem dM_bay_28 : decode bM_bay 28 = .ok (.getfield 62, 3) := by decide +kernel
theorem dM_bay_31 : decode bM_bay 31 = .ok (.bipush 8, 2) := by decide +kernel
theorem dM_bay_33 : decode bM_bay 33 = .ok (.if_icmp .ne 9, 3) := by decide +kernel
theorem dM_bay_36 : decode bM_bay 36 = .ok (.aload_n 0, 1) := by decide +kernel
theorem dM_bay_37 : decode bM_bay 37 = .ok (.iconst 2, 1) := by decide +kernel
theorem dM_bay_38 : decode bM_bay 38 = .ok (.invokevirtual 58, 3) := by decide +kernel
theorem dM_bay_41 : decode bM_bay 41 = .ok (.ireturn, 1) := by decide +kernel
theorem dM_bay_42 : decode bM_bay 42 = .ok (.aload_n 0, 1) := by decide +kernel
theorem dM_bay_43 : decode bM_bay 43 = .ok (.iconst 0, 1) := by decide +kernel
theorem dM_bay_44 : decode bM_bay 44 = .ok (.putfield 51, 3) := by decide +kernel
theorem dM_bay_47 : decode bM_bay 47 = .ok (.aload_n 0, 1) := by decide +kernel
theorem dM_bay_48 : decode bM_bay 48 = .ok (.getfield 7, 3) := by decide +kernel
theorem dM_bay_51 : decode bM_bay 51 = .ok (.aload_n 0, 1) := by decide +kernel
theorem dM_bay_52 : decode bM_bay 52 = .ok (.getfield 62, 3) := by decide +kernel
theorem dM_bay_55 : decode bM_bay 55 = .ok (.iload_n 1, 1) := by decide +kernel
theorem dM_bay_56 : decode bM_bay 56 = .ok (.iastore, 1) := by decide +kernel
theorem dM_bay_57 : decode bM_bay 57 = .ok (.aload_n 0, 1) := by decide +kernel
theorem dM_bay_58 : decode bM_bay 58 = .ok (.getfield 13, 3) := by decide +kernel
theorem dM_bay_61 : decode bM_bay 61 = .ok (.aload_n 0, 1) := by decide +kernel
theorem dM_bay_62 : decode bM_bay 62 = .ok (.getfield 62, 3) := by decide +kernel
theorem dM_bay_65 : decode bM_bay 65 = .ok (.iload_n 2, 1) := by decide +kernel
theorem dM_bay_66 : decode bM_bay 66 = .ok (.iastore, 1) := by decide +kernel
theorem dM_bay_67 : decode bM_bay 67 = .ok (.aload_n 0, 1) := by decide +kernel
theorem dM_bay_68 : decode bM_bay 68 = .ok (.dup, 1) := by decide +kernel
theorem dM_bay_69 : decode bM_bay 69 = .ok (.getfield 62, 3) := by decide +kernel
theorem dM_bay_72 : decode bM_bay 72 = .ok (.iconst 1, 1) := by decide +kernel
theorem dM_bay_73 : decode bM_bay 73 = .ok (.iadd, 1) := by decide +kernel
theorem dM_bay_74 : decode bM_bay 74 = .ok (.putfield 62, 3) := by decide +kernel
theorem dM_bay_77 : decode bM_bay 77 = .ok (.aload_n 0, 1) := by decide +kernel
theorem dM_bay_78 : decode bM_bay 78 = .ok (.iconst 0, 1) := by decide +kernel
theorem dM_bay_79 : decode bM_bay 79 = .ok (.putfield 65, 3) := by decide +kernel
theorem dM_bay_82 : decode bM_bay 82 = .ok (.aload_n 0, 1) := by decide +kernel
theorem dM_bay_83 : decode bM_bay 83 = .ok (.getfield 62, 3) := by decide +kernel
theorem dM_bay_86 : decode bM_bay 86 = .ok (.iconst 1, 1) := by decide +kernel
theorem dM_bay_87 : decode bM_bay 87 = .ok (.isub, 1) := by decide +kernel
theorem dM_bay_88 : decode bM_bay 88 = .ok (.ireturn, 1) := by decide +kernel
theorem dM_rate_0 : decode bM_rate 0 = .ok (.aload_n 0, 1) := by decide +kernel
theorem dM_rate_1 : decode bM_rate 1 = .ok (.iload_n 2, 1) := by decide +kernel
theorem dM_rate_2 : decode bM_rate 2 = .ok (.ifCond .ne 7, 3) := by decide +kernel
theorem dM_rate_5 : decode bM_rate 5 = .ok (.iconst 1, 1) := by decide +kernel
theorem dM_rate_6 : decode bM_rate 6 = .ok (.goto 36, 3) := by decide +kernel
theorem dM_rate_9 : decode bM_rate 9 = .ok (.aload_n 0, 1) := by decide +kernel
theorem dM_rate_10 : decode bM_rate 10 = .ok (.iload_n 1, 1) := by decide +kernel
theorem dM_rate_11 : decode bM_rate 11 = .ok (.invokevirtual 69, 3) := by decide +kernel
theorem dM_rate_14 : decode bM_rate 14 = .ok (.ifCond .eq 23, 3) := by decide +kernel
theorem dM_rate_17 : decode bM_rate 17 = .ok (.iload_n 2, 1) := by decide +kernel
theorem dM_rate_18 : decode bM_rate 18 = .ok (.iconst 1, 1) := by decide +kernel
theorem dM_rate_19 : decode bM_rate 19 = .ok (.bipush 100, 2) := by decide +kernel
theorem dM_rate_21 : decode bM_rate 21 = .ok (.invokestatic 54, 3) := by decide +kernel
theorem dM_rate_24 : decode bM_rate 24 = .ok (.ifCond .eq 13, 3) := by decide +kernel
theorem dM_rate_27 : decode bM_rate 27 = .ok (.iload_n 3, 1) := by decide +kernel
theorem dM_rate_28 : decode bM_rate 28 = .ok (.iconst 1, 1) := by decide +kernel
theorem dM_rate_29 : decode bM_rate 29 = .ok (.bipush 100, 2) := by decide +kernel
theorem dM_rate_31 : decode bM_rate 31 = .ok (.invokestatic 54, 3) := by decide +kernel
theorem dM_rate_34 : decode bM_rate 34 = .ok (.ifCond .ne 7, 3) := by decide +kernel
theorem dM_rate_37 : decode bM_rate 37 = .ok (.iconst 2, 1) := by decide +kernel
theorem dM_rate_38 : decode bM_rate 38 = .ok (.goto 4, 3) := by decide +kernel
theorem dM_rate_41 : decode bM_rate 41 = .ok (.iconst 0, 1) := by decide +kernel
theorem dM_rate_42 : decode bM_rate 42 = .ok (.putfield 51, 3) := by decide +kernel
theorem dM_rate_45 : decode bM_rate 45 = .ok (.aload_n 0, 1) := by decide +kernel
theorem dM_rate_46 : decode bM_rate 46 = .ok (.getfield 51, 3) := by decide +kernel
theorem dM_rate_49 : decode bM_rate 49 = .ok (.ifCond .le 5, 3) := by decide +kernel
theorem dM_rate_52 : decode bM_rate 52 = .ok (.iconst 0, 1) := by decide +kernel
theorem dM_rate_53 : decode bM_rate 53 = .ok (.ireturn, 1) := by decide +kernel
theorem dM_rate_54 : decode bM_rate 54 = .ok (.aload_n 0, 1) := by decide +kernel
theorem dM_rate_55 : decode bM_rate 55 = .ok (.getfield 16, 3) := by decide +kernel
theorem dM_rate_58 : decode bM_rate 58 = .ok (.iload_n 1, 1) := by decide +kernel
theorem dM_rate_59 : decode bM_rate 59 = .ok (.iload_n 2, 1) := by decide +kernel
theorem dM_rate_60 : decode bM_rate 60 = .ok (.iastore, 1) := by decide +kernel
theorem dM_rate_61 : decode bM_rate 61 = .ok (.aload_n 0, 1) := by decide +kernel
theorem dM_rate_62 : decode bM_rate 62 = .ok (.getfield 19, 3) := by decide +kernel
theorem dM_rate_65 : decode bM_rate 65 = .ok (.iload_n 1, 1) := by decide +kernel
theorem dM_rate_66 : decode bM_rate 66 = .ok (.iload_n 3, 1) := by decide +kernel
theorem dM_rate_67 : decode bM_rate 67 = .ok (.iastore, 1) := by decide +kernel
theorem dM_rate_68 : decode bM_rate 68 = .ok (.aload_n 0, 1) := by decide +kernel
theorem dM_rate_69 : decode bM_rate 69 = .ok (.iconst 0, 1) := by decide +kernel
theorem dM_rate_70 : decode bM_rate 70 = .ok (.putfield 65, 3) := by decide +kernel
theorem dM_rate_73 : decode bM_rate 73 = .ok (.iconst 1, 1) := by decide +kernel
theorem dM_rate_74 : decode bM_rate 74 = .ok (.ireturn, 1) := by decide +kernel
theorem dM_step_0 : decode bM_step 0 = .ok (.aload_n 0, 1) := by decide +kernel
theorem dM_step_1 : decode bM_step 1 = .ok (.iconst 0, 1) := by decide +kernel
theorem dM_step_2 : decode bM_step 2 = .ok (.putfield 51, 3) := by decide +kernel
theorem dM_step_5 : decode bM_step 5 = .ok (.iload_n 1, 1) := by decide +kernel
theorem dM_step_6 : decode bM_step 6 = .ok (.iconst 0, 1) := by decide +kernel
theorem dM_step_7 : decode bM_step 7 = .ok (.bipush 20, 2) := by decide +kernel
theorem dM_step_9 : decode bM_step 9 = .ok (.invokestatic 54, 3) := by decide +kernel
theorem dM_step_12 : decode bM_step 12 = .ok (.ifCond .ne 5, 3) := by decide +kernel
theorem dM_step_15 : decode bM_step 15 = .ok (.iconst 0, 1) := by decide +kernel
theorem dM_step_16 : decode bM_step 16 = .ok (.ireturn, 1) := by decide +kernel
theorem dM_step_17 : decode bM_step 17 = .ok (.aload_n 0, 1) := by decide +kernel
theorem dM_step_18 : decode bM_step 18 = .ok (.iload_n 1, 1) := by decide +kernel
theorem dM_step_19 : decode bM_step 19 = .ok (.putfield 26, 3) := by decide +kernel
theorem dM_step_22 : decode bM_step 22 = .ok (.aload_n 0, 1) := by decide +kernel
theorem dM_step_23 : decode bM_step 23 = .ok (.iconst 0, 1) := by decide +kernel
theorem dM_step_24 : decode bM_step 24 = .ok (.putfield 65, 3) := by decide +kernel
theorem dM_step_27 : decode bM_step 27 = .ok (.iconst 1, 1) := by decide +kernel
theorem dM_step_28 : decode bM_step 28 = .ok (.ireturn, 1) := by decide +kernel
theorem dM_all_0 : decode bM_all 0 = .ok (.aload_n 0, 1) := by decide +kernel
theorem dM_all_1 : decode bM_all 1 = .ok (.getfield 7, 3) := by decide +kernel
theorem dM_all_4 : decode bM_all 4 = .ok (.iload_n 1, 1) := by decide +kernel
theorem dM_all_5 : decode bM_all 5 = .ok (.iaload, 1) := by decide +kernel
theorem dM_all_6 : decode bM_all 6 = .ok (.aload_n 0, 1) := by decide +kernel
theorem dM_all_7 : decode bM_all 7 = .ok (.getfield 13, 3) := by decide +kernel
theorem dM_all_10 : decode bM_all 10 = .ok (.iload_n 1, 1) := by decide +kernel
theorem dM_all_11 : decode bM_all 11 = .ok (.iaload, 1) := by decide +kernel
theorem dM_all_12 : decode bM_all 12 = .ok (.iadd, 1) := by decide +kernel
theorem dM_all_13 : decode bM_all 13 = .ok (.ireturn, 1) := by decide +kernel
theorem dM_takes_0 : decode bM_takes 0 = .ok (.aload_n 0, 1) := by decide +kernel
theorem dM_takes_1 : decode bM_takes 1 = .ok (.iload_n 2, 1) := by decide +kernel
theorem dM_takes_2 : decode bM_takes 2 = .ok (.invokevirtual 73, 3) := by decide +kernel
theorem dM_takes_5 : decode bM_takes 5 = .ok (.aload_n 0, 1) := by decide +kernel
theorem dM_takes_6 : decode bM_takes 6 = .ok (.getfield 19, 3) := by decide +kernel
theorem dM_takes_9 : decode bM_takes 9 = .ok (.iload_n 1, 1) := by decide +kernel
theorem dM_takes_10 : decode bM_takes 10 = .ok (.iaload, 1) := by decide +kernel
theorem dM_takes_11 : decode bM_takes 11 = .ok (.imul, 1) := by decide +kernel
theorem dM_takes_12 : decode bM_takes 12 = .ok (.istore_n 3, 1) := by decide +kernel
theorem dM_takes_13 : decode bM_takes 13 = .ok (.iload_n 3, 1) := by decide +kernel
theorem dM_takes_14 : decode bM_takes 14 = .ok (.aload_n 0, 1) := by decide +kernel
theorem dM_takes_15 : decode bM_takes 15 = .ok (.getfield 16, 3) := by decide +kernel
theorem dM_takes_18 : decode bM_takes 18 = .ok (.iload_n 1, 1) := by decide +kernel
theorem dM_takes_19 : decode bM_takes 19 = .ok (.iaload, 1) := by decide +kernel
theorem dM_takes_20 : decode bM_takes 20 = .ok (.idiv, 1) := by decide +kernel
theorem dM_takes_21 : decode bM_takes 21 = .ok (.iload_n 3, 1) := by decide +kernel
theorem dM_takes_22 : decode bM_takes 22 = .ok (.aload_n 0, 1) := by decide +kernel
theorem dM_takes_23 : decode bM_takes 23 = .ok (.getfield 16, 3) := by decide +kernel
theorem dM_takes_26 : decode bM_takes 26 = .ok (.iload_n 1, 1) := by decide +kernel
theorem dM_takes_27 : decode bM_takes 27 = .ok (.iaload, 1) := by decide +kernel
theorem dM_takes_28 : decode bM_takes 28 = .ok (.irem, 1) := by decide +kernel
theorem dM_takes_29 : decode bM_takes 29 = .ok (.ifCond .le 7, 3) := by decide +kernel
theorem dM_takes_32 : decode bM_takes 32 = .ok (.iconst 1, 1) := by decide +kernel
theorem dM_takes_33 : decode bM_takes 33 = .ok (.goto 4, 3) := by decide +kernel
theorem dM_takes_36 : decode bM_takes 36 = .ok (.iconst 0, 1) := by decide +kernel
theorem dM_takes_37 : decode bM_takes 37 = .ok (.iadd, 1) := by decide +kernel
theorem dM_takes_38 : decode bM_takes 38 = .ok (.ireturn, 1) := by decide +kernel
theorem dM_spans_0 : decode bM_spans 0 = .ok (.iconst (-1), 1) := by decide +kernel
theorem dM_spans_1 : decode bM_spans 1 = .ok (.istore_n 1, 1) := by decide +kernel
theorem dM_spans_2 : decode bM_spans 2 = .ok (.iconst 1, 1) := by decide +kernel
theorem dM_spans_3 : decode bM_spans 3 = .ok (.istore_n 2, 1) := by decide +kernel
theorem dM_spans_4 : decode bM_spans 4 = .ok (.iconst 0, 1) := by decide +kernel
theorem dM_spans_5 : decode bM_spans 5 = .ok (.istore_n 3, 1) := by decide +kernel
theorem dM_spans_6 : decode bM_spans 6 = .ok (.iload_n 3, 1) := by decide +kernel
theorem dM_spans_7 : decode bM_spans 7 = .ok (.aload_n 0, 1) := by decide +kernel
theorem dM_spans_8 : decode bM_spans 8 = .ok (.getfield 45, 3) := by decide +kernel
theorem dM_spans_11 : decode bM_spans 11 = .ok (.if_icmp .ge 160, 3) := by decide +kernel
theorem dM_spans_14 : decode bM_spans 14 = .ok (.aload_n 0, 1) := by decide +kernel
theorem dM_spans_15 : decode bM_spans 15 = .ok (.getfield 39, 3) := by decide +kernel
theorem dM_spans_18 : decode bM_spans 18 = .ok (.iload_n 3, 1) := by decide +kernel
theorem dM_spans_19 : decode bM_spans 19 = .ok (.iconst (-1), 1) := by decide +kernel
theorem dM_spans_20 : decode bM_spans 20 = .ok (.iastore, 1) := by decide +kernel
theorem dM_spans_21 : decode bM_spans 21 = .ok (.iconst 0, 1) := by decide +kernel
theorem dM_spans_22 : decode bM_spans 22 = .ok (.istore 4, 2) := by decide +kernel
theorem dM_spans_24 : decode bM_spans 24 = .ok (.iload 4, 2) := by decide +kernel
theorem dM_spans_26 : decode bM_spans 26 = .ok (.aload_n 0, 1) := by decide +kernel
theorem dM_spans_27 : decode bM_spans 27 = .ok (.getfield 62, 3) := by decide +kernel
theorem dM_spans_30 : decode bM_spans 30 = .ok (.if_icmp .ge 54, 3) := by decide +kernel
theorem dM_spans_33 : decode bM_spans 33 = .ok (.aload_n 0, 1) := by decide +kernel
theorem dM_spans_34 : decode bM_spans 34 = .ok (.getfield 30, 3) := by decide +kernel
theorem dM_spans_37 : decode bM_spans 37 = .ok (.iload 4, 2) := by decide +kernel
theorem dM_spans_39 : decode bM_spans 39 = .ok (.iaload, 1) := by decide +kernel
theorem dM_spans_40 : decode bM_spans 40 = .ok (.iload_n 3, 1) := by decide +kernel
theorem dM_spans_41 : decode bM_spans 41 = .ok (.if_icmp .ne 37, 3) := by decide +kernel
theorem dM_spans_44 : decode bM_spans 44 = .ok (.aload_n 0, 1) := by decide +kernel
theorem dM_spans_45 : decode bM_spans 45 = .ok (.getfield 39, 3) := by decide +kernel
theorem dM_spans_48 : decode bM_spans 48 = .ok (.iload_n 3, 1) := by decide +kernel
theorem dM_spans_49 : decode bM_spans 49 = .ok (.aload_n 0, 1) := by decide +kernel
theorem dM_spans_50 : decode bM_spans 50 = .ok (.getfield 39, 3) := by decide +kernel
theorem dM_spans_53 : decode bM_spans 53 = .ok (.iload_n 3, 1) := by decide +kernel
theorem dM_spans_54 : decode bM_spans 54 = .ok (.iaload, 1) := by decide +kernel
theorem dM_spans_55 : decode bM_spans 55 = .ok (.ifCond .ge 8, 3) := by decide +kernel
theorem dM_spans_58 : decode bM_spans 58 = .ok (.iload 4, 2) := by decide +kernel
theorem dM_spans_60 : decode bM_spans 60 = .ok (.goto 9, 3) := by decide +kernel
theorem dM_spans_63 : decode bM_spans 63 = .ok (.aload_n 0, 1) := by decide +kernel
theorem dM_spans_64 : decode bM_spans 64 = .ok (.getfield 39, 3) := by decide +kernel
theorem dM_spans_67 : decode bM_spans 67 = .ok (.iload_n 3, 1) := by decide +kernel
theorem dM_spans_68 : decode bM_spans 68 = .ok (.iaload, 1) := by decide +kernel
theorem dM_spans_69 : decode bM_spans 69 = .ok (.iastore, 1) := by decide +kernel
theorem dM_spans_70 : decode bM_spans 70 = .ok (.aload_n 0, 1) := by decide +kernel
theorem dM_spans_71 : decode bM_spans 71 = .ok (.getfield 42, 3) := by decide +kernel
theorem dM_spans_74 : decode bM_spans 74 = .ok (.iload_n 3, 1) := by decide +kernel
theorem dM_spans_75 : decode bM_spans 75 = .ok (.iload 4, 2) := by decide +kernel
theorem dM_spans_77 : decode bM_spans 77 = .ok (.iastore, 1) := by decide +kernel
theorem dM_spans_78 : decode bM_spans 78 = .ok (.iinc 4 1, 3) := by decide +kernel
theorem dM_spans_81 : decode bM_spans 81 = .ok (.goto (-57), 3) := by decide +kernel
theorem dM_spans_84 : decode bM_spans 84 = .ok (.aload_n 0, 1) := by decide +kernel
theorem dM_spans_85 : decode bM_spans 85 = .ok (.getfield 39, 3) := by decide +kernel
theorem dM_spans_88 : decode bM_spans 88 = .ok (.iload_n 3, 1) := by decide +kernel
theorem dM_spans_89 : decode bM_spans 89 = .ok (.iaload, 1) := by decide +kernel
theorem dM_spans_90 : decode bM_spans 90 = .ok (.ifCond .lt 75, 3) := by decide +kernel
theorem dM_spans_93 : decode bM_spans 93 = .ok (.iload_n 2, 1) := by decide +kernel
theorem dM_spans_94 : decode bM_spans 94 = .ok (.ifCond .eq 67, 3) := by decide +kernel
theorem dM_spans_97 : decode bM_spans 97 = .ok (.iload_n 1, 1) := by decide +kernel
theorem dM_spans_98 : decode bM_spans 98 = .ok (.ifCond .lt 59, 3) := by decide +kernel
theorem dM_spans_101 : decode bM_spans 101 = .ok (.aload_n 0, 1) := by decide +kernel
theorem dM_spans_102 : decode bM_spans 102 = .ok (.getfield 39, 3) := by decide +kernel
theorem dM_spans_105 : decode bM_spans 105 = .ok (.iload_n 3, 1) := by decide +kernel
theorem dM_spans_106 : decode bM_spans 106 = .ok (.iaload, 1) := by decide +kernel
theorem dM_spans_107 : decode bM_spans 107 = .ok (.aload_n 0, 1) := by decide +kernel
theorem dM_spans_108 : decode bM_spans 108 = .ok (.getfield 39, 3) := by decide +kernel
theorem dM_spans_111 : decode bM_spans 111 = .ok (.iload_n 1, 1) := by decide +kernel
theorem dM_spans_112 : decode bM_spans 112 = .ok (.ifCond .lt 7, 3) := by decide +kernel
theorem dM_spans_115 : decode bM_spans 115 = .ok (.iload_n 1, 1) := by decide +kernel
theorem dM_spans_116 : decode bM_spans 116 = .ok (.goto 4, 3) := by decide +kernel
theorem dM_spans_119 : decode bM_spans 119 = .ok (.iconst 0, 1) := by decide +kernel
theorem dM_spans_120 : decode bM_spans 120 = .ok (.iaload, 1) := by decide +kernel
theorem dM_spans_121 : decode bM_spans 121 = .ok (.isub, 1) := by decide +kernel
theorem dM_spans_122 : decode bM_spans 122 = .ok (.aload_n 0, 1) := by decide +kernel
theorem dM_spans_123 : decode bM_spans 123 = .ok (.getfield 48, 3) := by decide +kernel
theorem dM_spans_126 : decode bM_spans 126 = .ok (.if_icmp .le 35, 3) := by decide +kernel
theorem dM_spans_129 : decode bM_spans 129 = .ok (.aload_n 0, 1) := by decide +kernel
theorem dM_spans_130 : decode bM_spans 130 = .ok (.getfield 42, 3) := by decide +kernel
theorem dM_spans_133 : decode bM_spans 133 = .ok (.iload_n 3, 1) := by decide +kernel
theorem dM_spans_134 : decode bM_spans 134 = .ok (.iaload, 1) := by decide +kernel
theorem dM_spans_135 : decode bM_spans 135 = .ok (.aload_n 0, 1) := by decide +kernel
theorem dM_spans_136 : decode bM_spans 136 = .ok (.getfield 42, 3) := by decide +kernel
theorem dM_spans_139 : decode bM_spans 139 = .ok (.iload_n 1, 1) := by decide +kernel
theorem dM_spans_140 : decode bM_spans 140 = .ok (.ifCond .lt 7, 3) := by decide +kernel
theorem dM_spans_143 : decode bM_spans 143 = .ok (.iload_n 1, 1) := by decide +kernel
theorem dM_spans_144 : decode bM_spans 144 = .ok (.goto 4, 3) := by decide +kernel
theorem dM_spans_147 : decode bM_spans 147 = .ok (.iconst 0, 1) := by decide +kernel
theorem dM_spans_148 : decode bM_spans 148 = .ok (.iaload, 1) := by decide +kernel
theorem dM_spans_149 : decode bM_spans 149 = .ok (.isub, 1) := by decide +kernel
theorem dM_spans_150 : decode bM_spans 150 = .ok (.aload_n 0, 1) := by decide +kernel
theorem dM_spans_151 : decode bM_spans 151 = .ok (.getfield 48, 3) := by decide +kernel
theorem dM_spans_154 : decode bM_spans 154 = .ok (.if_icmp .le 7, 3) := by decide +kernel
theorem dM_spans_157 : decode bM_spans 157 = .ok (.iconst 1, 1) := by decide +kernel
theorem dM_spans_158 : decode bM_spans 158 = .ok (.goto 4, 3) := by decide +kernel
theorem dM_spans_161 : decode bM_spans 161 = .ok (.iconst 0, 1) := by decide +kernel
theorem dM_spans_162 : decode bM_spans 162 = .ok (.istore_n 2, 1) := by decide +kernel
theorem dM_spans_163 : decode bM_spans 163 = .ok (.iload_n 3, 1) := by decide +kernel
theorem dM_spans_164 : decode bM_spans 164 = .ok (.istore_n 1, 1) := by decide +kernel
theorem dM_spans_165 : decode bM_spans 165 = .ok (.iinc 3 1, 3) := by decide +kernel
theorem dM_spans_168 : decode bM_spans 168 = .ok (.goto (-162), 3) := by decide +kernel
theorem dM_spans_171 : decode bM_spans 171 = .ok (.iload_n 2, 1) := by decide +kernel
theorem dM_spans_172 : decode bM_spans 172 = .ok (.ireturn, 1) := by decide +kernel
theorem dM_times_0 : decode bM_times 0 = .ok (.iconst 0, 1) := by decide +kernel
theorem dM_times_1 : decode bM_times 1 = .ok (.istore_n 1, 1) := by decide +kernel
theorem dM_times_2 : decode bM_times 2 = .ok (.iconst (-1), 1) := by decide +kernel
theorem dM_times_3 : decode bM_times 3 = .ok (.istore_n 2, 1) := by decide +kernel
theorem dM_times_4 : decode bM_times 4 = .ok (.aload_n 0, 1) := by decide +kernel
theorem dM_times_5 : decode bM_times 5 = .ok (.getfield 45, 3) := by decide +kernel
theorem dM_times_8 : decode bM_times 8 = .ok (.iconst 1, 1) := by decide +kernel
theorem dM_times_9 : decode bM_times 9 = .ok (.isub, 1) := by decide +kernel
theorem dM_times_10 : decode bM_times 10 = .ok (.istore_n 3, 1) := by decide +kernel
theorem dM_times_11 : decode bM_times 11 = .ok (.iload_n 3, 1) := by decide +kernel
theorem dM_times_12 : decode bM_times 12 = .ok (.ifCond .lt 177, 3) := by decide +kernel
theorem dM_times_15 : decode bM_times 15 = .ok (.aload_n 0, 1) := by decide +kernel
theorem dM_times_16 : decode bM_times 16 = .ok (.getfield 39, 3) := by decide +kernel
theorem dM_times_19 : decode bM_times 19 = .ok (.iload_n 3, 1) := by decide +kernel
theorem dM_times_20 : decode bM_times 20 = .ok (.iaload, 1) := by decide +kernel
theorem dM_times_21 : decode bM_times 21 = .ok (.ifCond .ge 6, 3) := by decide +kernel
theorem dM_times_24 : decode bM_times 24 = .ok (.goto 159, 3) := by decide +kernel
theorem dM_times_27 : decode bM_times 27 = .ok (.iconst 0, 1) := by decide +kernel
theorem dM_times_28 : decode bM_times 28 = .ok (.istore 4, 2) := by decide +kernel
theorem dM_times_30 : decode bM_times 30 = .ok (.iconst 0, 1) := by decide +kernel
theorem dM_times_31 : decode bM_times 31 = .ok (.istore 5, 2) := by decide +kernel
theorem dM_times_33 : decode bM_times 33 = .ok (.iload 5, 2) := by decide +kernel
theorem dM_times_35 : decode bM_times 35 = .ok (.aload_n 0, 1) := by decide +kernel
theorem dM_times_36 : decode bM_times 36 = .ok (.getfield 42, 3) := by decide +kernel
theorem dM_times_39 : decode bM_times 39 = .ok (.iload_n 3, 1) := by decide +kernel
theorem dM_times_40 : decode bM_times 40 = .ok (.iaload, 1) := by decide +kernel
theorem dM_times_41 : decode bM_times 41 = .ok (.if_icmp .gt 140, 3) := by decide +kernel
theorem dM_times_44 : decode bM_times 44 = .ok (.iload 5, 2) := by decide +kernel
theorem dM_times_46 : decode bM_times 46 = .ok (.aload_n 0, 1) := by decide +kernel
theorem dM_times_47 : decode bM_times 47 = .ok (.getfield 39, 3) := by decide +kernel
theorem dM_times_50 : decode bM_times 50 = .ok (.iload_n 3, 1) := by decide +kernel
theorem dM_times_51 : decode bM_times 51 = .ok (.iaload, 1) := by decide +kernel
theorem dM_times_52 : decode bM_times 52 = .ok (.if_icmp .gt 19, 3) := by decide +kernel
theorem dM_times_55 : decode bM_times 55 = .ok (.aload_n 0, 1) := by decide +kernel
theorem dM_times_56 : decode bM_times 56 = .ok (.getfield 36, 3) := by decide +kernel
theorem dM_times_59 : decode bM_times 59 = .ok (.bipush 8, 2) := by decide +kernel
theorem dM_times_61 : decode bM_times 61 = .ok (.iload_n 3, 1) := by decide +kernel
theorem dM_times_62 : decode bM_times 62 = .ok (.imul, 1) := by decide +kernel
theorem dM_times_63 : decode bM_times 63 = .ok (.iload 5, 2) := by decide +kernel
theorem dM_times_65 : decode bM_times 65 = .ok (.iadd, 1) := by decide +kernel
theorem dM_times_66 : decode bM_times 66 = .ok (.iconst 0, 1) := by decide +kernel
theorem dM_times_67 : decode bM_times 67 = .ok (.iastore, 1) := by decide +kernel
theorem dM_times_68 : decode bM_times 68 = .ok (.goto 71, 3) := by decide +kernel
theorem dM_times_71 : decode bM_times 71 = .ok (.iload_n 2, 1) := by decide +kernel
theorem dM_times_72 : decode bM_times 72 = .ok (.ifCond .ge 7, 3) := by decide +kernel
theorem dM_times_75 : decode bM_times 75 = .ok (.iconst 0, 1) := by decide +kernel
theorem dM_times_76 : decode bM_times 76 = .ok (.goto 22, 3) := by decide +kernel
theorem dM_times_79 : decode bM_times 79 = .ok (.aload_n 0, 1) := by decide +kernel
theorem dM_times_80 : decode bM_times 80 = .ok (.getfield 36, 3) := by decide +kernel
theorem dM_times_83 : decode bM_times 83 = .ok (.bipush 8, 2) := by decide +kernel
theorem dM_times_85 : decode bM_times 85 = .ok (.iload_n 2, 1) := by decide +kernel
theorem dM_times_86 : decode bM_times 86 = .ok (.imul, 1) := by decide +kernel
theorem dM_times_87 : decode bM_times 87 = .ok (.iload 5, 2) := by decide +kernel
theorem dM_times_89 : decode bM_times 89 = .ok (.iadd, 1) := by decide +kernel
theorem dM_times_90 : decode bM_times 90 = .ok (.iconst 1, 1) := by decide +kernel
theorem dM_times_91 : decode bM_times 91 = .ok (.iadd, 1) := by decide +kernel
theorem dM_times_92 : decode bM_times 92 = .ok (.aload_n 0, 1) := by decide +kernel
theorem dM_times_93 : decode bM_times 93 = .ok (.getfield 48, 3) := by decide +kernel
theorem dM_times_96 : decode bM_times 96 = .ok (.iadd, 1) := by decide +kernel
theorem dM_times_97 : decode bM_times 97 = .ok (.iaload, 1) := by decide +kernel
theorem dM_times_98 : decode bM_times 98 = .ok (.istore 6, 2) := by decide +kernel
theorem dM_times_100 : decode bM_times 100 = .ok (.iload 6, 2) := by decide +kernel
theorem dM_times_102 : decode bM_times 102 = .ok (.iload 4, 2) := by decide +kernel
theorem dM_times_104 : decode bM_times 104 = .ok (.if_icmp .le 8, 3) := by decide +kernel
theorem dM_times_107 : decode bM_times 107 = .ok (.iload 6, 2) := by decide +kernel
theorem dM_times_109 : decode bM_times 109 = .ok (.goto 5, 3) := by decide +kernel
theorem dM_times_112 : decode bM_times 112 = .ok (.iload 4, 2) := by decide +kernel
theorem dM_times_114 : decode bM_times 114 = .ok (.istore 4, 2) := by decide +kernel
theorem dM_times_116 : decode bM_times 116 = .ok (.iload 4, 2) := by decide +kernel
theorem dM_times_118 : decode bM_times 118 = .ok (.aload_n 0, 1) := by decide +kernel
theorem dM_times_119 : decode bM_times 119 = .ok (.getfield 26, 3) := by decide +kernel
theorem dM_times_122 : decode bM_times 122 = .ok (.iadd, 1) := by decide +kernel
theorem dM_times_123 : decode bM_times 123 = .ok (.istore 4, 2) := by decide +kernel
theorem dM_times_125 : decode bM_times 125 = .ok (.aload_n 0, 1) := by decide +kernel
theorem dM_times_126 : decode bM_times 126 = .ok (.getfield 36, 3) := by decide +kernel
theorem dM_times_129 : decode bM_times 129 = .ok (.bipush 8, 2) := by decide +kernel
theorem dM_times_131 : decode bM_times 131 = .ok (.iload_n 3, 1) := by decide +kernel
theorem dM_times_132 : decode bM_times 132 = .ok (.imul, 1) := by decide +kernel
theorem dM_times_133 : decode bM_times 133 = .ok (.iload 5, 2) := by decide +kernel
theorem dM_times_135 : decode bM_times 135 = .ok (.iadd, 1) := by decide +kernel
theorem dM_times_136 : decode bM_times 136 = .ok (.iload 4, 2) := by decide +kernel
theorem dM_times_138 : decode bM_times 138 = .ok (.iastore, 1) := by decide +kernel
theorem dM_times_139 : decode bM_times 139 = .ok (.aload_n 0, 1) := by decide +kernel
theorem dM_times_140 : decode bM_times 140 = .ok (.getfield 30, 3) := by decide +kernel
theorem dM_times_143 : decode bM_times 143 = .ok (.iload 5, 2) := by decide +kernel
theorem dM_times_145 : decode bM_times 145 = .ok (.iaload, 1) := by decide +kernel
theorem dM_times_146 : decode bM_times 146 = .ok (.iload_n 3, 1) := by decide +kernel
theorem dM_times_147 : decode bM_times 147 = .ok (.if_icmp .ne 28, 3) := by decide +kernel
theorem dM_times_150 : decode bM_times 150 = .ok (.iload 4, 2) := by decide +kernel
theorem dM_times_152 : decode bM_times 152 = .ok (.aload_n 0, 1) := by decide +kernel
theorem dM_times_153 : decode bM_times 153 = .ok (.iload_n 3, 1) := by decide +kernel
theorem dM_times_154 : decode bM_times 154 = .ok (.iload 5, 2) := by decide +kernel
theorem dM_times_156 : decode bM_times 156 = .ok (.invokevirtual 76, 3) := by decide +kernel
theorem dM_times_159 : decode bM_times 159 = .ok (.iadd, 1) := by decide +kernel
theorem dM_times_160 : decode bM_times 160 = .ok (.istore 4, 2) := by decide +kernel
theorem dM_times_162 : decode bM_times 162 = .ok (.iload 4, 2) := by decide +kernel
theorem dM_times_164 : decode bM_times 164 = .ok (.iload_n 1, 1) := by decide +kernel
theorem dM_times_165 : decode bM_times 165 = .ok (.if_icmp .le 8, 3) := by decide +kernel
theorem dM_times_168 : decode bM_times 168 = .ok (.iload 4, 2) := by decide +kernel
theorem dM_times_170 : decode bM_times 170 = .ok (.goto 4, 3) := by decide +kernel
theorem dM_times_173 : decode bM_times 173 = .ok (.iload_n 1, 1) := by decide +kernel
theorem dM_times_174 : decode bM_times 174 = .ok (.istore_n 1, 1) := by decide +kernel
theorem dM_times_175 : decode bM_times 175 = .ok (.iinc 5 1, 3) := by decide +kernel
theorem dM_times_178 : decode bM_times 178 = .ok (.goto (-145), 3) := by decide +kernel
theorem dM_times_181 : decode bM_times 181 = .ok (.iload_n 3, 1) := by decide +kernel
theorem dM_times_182 : decode bM_times 182 = .ok (.istore_n 2, 1) := by decide +kernel
theorem dM_times_183 : decode bM_times 183 = .ok (.iinc 3 (-1), 3) := by decide +kernel
theorem dM_times_186 : decode bM_times 186 = .ok (.goto (-175), 3) := by decide +kernel
theorem dM_times_189 : decode bM_times 189 = .ok (.iload_n 1, 1) := by decide +kernel
theorem dM_times_190 : decode bM_times 190 = .ok (.ireturn, 1) := by decide +kernel
theorem dM_steps_0 : decode bM_steps 0 = .ok (.iconst 0, 1) := by decide +kernel
theorem dM_steps_1 : decode bM_steps 1 = .ok (.istore_n 1, 1) := by decide +kernel
theorem dM_steps_2 : decode bM_steps 2 = .ok (.iconst 0, 1) := by decide +kernel
theorem dM_steps_3 : decode bM_steps 3 = .ok (.istore_n 2, 1) := by decide +kernel
theorem dM_steps_4 : decode bM_steps 4 = .ok (.iload_n 2, 1) := by decide +kernel
theorem dM_steps_5 : decode bM_steps 5 = .ok (.aload_n 0, 1) := by decide +kernel
theorem dM_steps_6 : decode bM_steps 6 = .ok (.getfield 45, 3) := by decide +kernel
theorem dM_steps_9 : decode bM_steps 9 = .ok (.if_icmp .ge 38, 3) := by decide +kernel
theorem dM_steps_12 : decode bM_steps 12 = .ok (.iload_n 1, 1) := by decide +kernel
theorem dM_steps_13 : decode bM_steps 13 = .ok (.aload_n 0, 1) := by decide +kernel
theorem dM_steps_14 : decode bM_steps 14 = .ok (.getfield 39, 3) := by decide +kernel
theorem dM_steps_17 : decode bM_steps 17 = .ok (.iload_n 2, 1) := by decide +kernel
theorem dM_steps_18 : decode bM_steps 18 = .ok (.iaload, 1) := by decide +kernel
theorem dM_steps_19 : decode bM_steps 19 = .ok (.ifCond .ge 7, 3) := by decide +kernel
theorem dM_steps_22 : decode bM_steps 22 = .ok (.iconst 0, 1) := by decide +kernel
theorem dM_steps_23 : decode bM_steps 23 = .ok (.goto 16, 3) := by decide +kernel
theorem dM_steps_26 : decode bM_steps 26 = .ok (.aload_n 0, 1) := by decide +kernel
theorem dM_steps_27 : decode bM_steps 27 = .ok (.getfield 42, 3) := by decide +kernel
theorem dM_steps_30 : decode bM_steps 30 = .ok (.iload_n 2, 1) := by decide +kernel
theorem dM_steps_31 : decode bM_steps 31 = .ok (.iaload, 1) := by decide +kernel
theorem dM_steps_32 : decode bM_steps 32 = .ok (.aload_n 0, 1) := by decide +kernel
theorem dM_steps_33 : decode bM_steps 33 = .ok (.getfield 39, 3) := by decide +kernel
theorem dM_steps_36 : decode bM_steps 36 = .ok (.iload_n 2, 1) := by decide +kernel
theorem dM_steps_37 : decode bM_steps 37 = .ok (.iaload, 1) := by decide +kernel
theorem dM_steps_38 : decode bM_steps 38 = .ok (.isub, 1) := by decide +kernel
theorem dM_steps_39 : decode bM_steps 39 = .ok (.iadd, 1) := by decide +kernel
theorem dM_steps_40 : decode bM_steps 40 = .ok (.istore_n 1, 1) := by decide +kernel
theorem dM_steps_41 : decode bM_steps 41 = .ok (.iinc 2 1, 3) := by decide +kernel
theorem dM_steps_44 : decode bM_steps 44 = .ok (.goto (-40), 3) := by decide +kernel
theorem dM_steps_47 : decode bM_steps 47 = .ok (.iload_n 1, 1) := by decide +kernel
theorem dM_steps_48 : decode bM_steps 48 = .ok (.ireturn, 1) := by decide +kernel
theorem dM_goesOn_0 : decode bM_goesOn 0 = .ok (.aload_n 0, 1) := by decide +kernel
theorem dM_goesOn_1 : decode bM_goesOn 1 = .ok (.getfield 62, 3) := by decide +kernel
theorem dM_goesOn_4 : decode bM_goesOn 4 = .ok (.iconst 1, 1) := by decide +kernel
theorem dM_goesOn_5 : decode bM_goesOn 5 = .ok (.isub, 1) := by decide +kernel
theorem dM_goesOn_6 : decode bM_goesOn 6 = .ok (.istore_n 1, 1) := by decide +kernel
theorem dM_goesOn_7 : decode bM_goesOn 7 = .ok (.iload_n 1, 1) := by decide +kernel
theorem dM_goesOn_8 : decode bM_goesOn 8 = .ok (.ifCond .lt 33, 3) := by decide +kernel
theorem dM_goesOn_11 : decode bM_goesOn 11 = .ok (.aload_n 0, 1) := by decide +kernel
theorem dM_goesOn_12 : decode bM_goesOn 12 = .ok (.getfield 30, 3) := by decide +kernel
theorem dM_goesOn_15 : decode bM_goesOn 15 = .ok (.iload_n 1, 1) := by decide +kernel
theorem dM_goesOn_16 : decode bM_goesOn 16 = .ok (.iaload, 1) := by decide +kernel
theorem dM_goesOn_17 : decode bM_goesOn 17 = .ok (.ifCond .lt 18, 3) := by decide +kernel
theorem dM_goesOn_20 : decode bM_goesOn 20 = .ok (.aload_n 0, 1) := by decide +kernel
theorem dM_goesOn_21 : decode bM_goesOn 21 = .ok (.getfield 30, 3) := by decide +kernel
theorem dM_goesOn_24 : decode bM_goesOn 24 = .ok (.iload_n 1, 1) := by decide +kernel
theorem dM_goesOn_25 : decode bM_goesOn 25 = .ok (.iaload, 1) := by decide +kernel
theorem dM_goesOn_26 : decode bM_goesOn 26 = .ok (.aload_n 0, 1) := by decide +kernel
theorem dM_goesOn_27 : decode bM_goesOn 27 = .ok (.getfield 45, 3) := by decide +kernel
theorem dM_goesOn_30 : decode bM_goesOn 30 = .ok (.iconst 1, 1) := by decide +kernel
theorem dM_goesOn_31 : decode bM_goesOn 31 = .ok (.isub, 1) := by decide +kernel
theorem dM_goesOn_32 : decode bM_goesOn 32 = .ok (.if_icmp .ne 9, 3) := by decide +kernel
theorem dM_goesOn_35 : decode bM_goesOn 35 = .ok (.iinc 1 (-1), 3) := by decide +kernel
theorem dM_goesOn_38 : decode bM_goesOn 38 = .ok (.goto (-31), 3) := by decide +kernel
theorem dM_goesOn_41 : decode bM_goesOn 41 = .ok (.iload_n 1, 1) := by decide +kernel
theorem dM_goesOn_42 : decode bM_goesOn 42 = .ok (.ifCond .ge 5, 3) := by decide +kernel
theorem dM_goesOn_45 : decode bM_goesOn 45 = .ok (.iconst 0, 1) := by decide +kernel
theorem dM_goesOn_46 : decode bM_goesOn 46 = .ok (.ireturn, 1) := by decide +kernel
theorem dM_goesOn_47 : decode bM_goesOn 47 = .ok (.aload_n 0, 1) := by decide +kernel
theorem dM_goesOn_48 : decode bM_goesOn 48 = .ok (.getfield 30, 3) := by decide +kernel
theorem dM_goesOn_51 : decode bM_goesOn 51 = .ok (.iload_n 1, 1) := by decide +kernel
theorem dM_goesOn_52 : decode bM_goesOn 52 = .ok (.iaload, 1) := by decide +kernel
theorem dM_goesOn_53 : decode bM_goesOn 53 = .ok (.iconst 1, 1) := by decide +kernel
theorem dM_goesOn_54 : decode bM_goesOn 54 = .ok (.iadd, 1) := by decide +kernel
theorem dM_goesOn_55 : decode bM_goesOn 55 = .ok (.istore_n 2, 1) := by decide +kernel
theorem dM_goesOn_56 : decode bM_goesOn 56 = .ok (.iload_n 1, 1) := by decide +kernel
theorem dM_goesOn_57 : decode bM_goesOn 57 = .ok (.aload_n 0, 1) := by decide +kernel
theorem dM_goesOn_58 : decode bM_goesOn 58 = .ok (.getfield 62, 3) := by decide +kernel
theorem dM_goesOn_61 : decode bM_goesOn 61 = .ok (.if_icmp .ge 29, 3) := by decide +kernel
theorem dM_goesOn_64 : decode bM_goesOn 64 = .ok (.aload_n 0, 1) := by decide +kernel
theorem dM_goesOn_65 : decode bM_goesOn 65 = .ok (.getfield 30, 3) := by decide +kernel
theorem dM_goesOn_68 : decode bM_goesOn 68 = .ok (.iload_n 1, 1) := by decide +kernel
theorem dM_goesOn_69 : decode bM_goesOn 69 = .ok (.aload_n 0, 1) := by decide +kernel
theorem dM_goesOn_70 : decode bM_goesOn 70 = .ok (.getfield 30, 3) := by decide +kernel
theorem dM_goesOn_73 : decode bM_goesOn 73 = .ok (.iload_n 1, 1) := by decide +kernel
theorem dM_goesOn_74 : decode bM_goesOn 74 = .ok (.iaload, 1) := by decide +kernel
theorem dM_goesOn_75 : decode bM_goesOn 75 = .ok (.ifCond .ge 7, 3) := by decide +kernel
theorem dM_goesOn_78 : decode bM_goesOn 78 = .ok (.iconst (-1), 1) := by decide +kernel
theorem dM_goesOn_79 : decode bM_goesOn 79 = .ok (.goto 4, 3) := by decide +kernel
theorem dM_goesOn_82 : decode bM_goesOn 82 = .ok (.iload_n 2, 1) := by decide +kernel
theorem dM_goesOn_83 : decode bM_goesOn 83 = .ok (.iastore, 1) := by decide +kernel
theorem dM_goesOn_84 : decode bM_goesOn 84 = .ok (.iinc 1 1, 3) := by decide +kernel
theorem dM_goesOn_87 : decode bM_goesOn 87 = .ok (.goto (-31), 3) := by decide +kernel
theorem dM_goesOn_90 : decode bM_goesOn 90 = .ok (.iconst 1, 1) := by decide +kernel
theorem dM_goesOn_91 : decode bM_goesOn 91 = .ok (.ireturn, 1) := by decide +kernel
theorem dM_isAllowed_0 : decode bM_isAllowed 0 = .ok (.iconst 1, 1) := by decide +kernel
theorem dM_isAllowed_1 : decode bM_isAllowed 1 = .ok (.istore_n 1, 1) := by decide +kernel
theorem dM_isAllowed_2 : decode bM_isAllowed 2 = .ok (.iconst 0, 1) := by decide +kernel
theorem dM_isAllowed_3 : decode bM_isAllowed 3 = .ok (.istore_n 2, 1) := by decide +kernel
theorem dM_isAllowed_4 : decode bM_isAllowed 4 = .ok (.iload_n 2, 1) := by decide +kernel
theorem dM_isAllowed_5 : decode bM_isAllowed 5 = .ok (.aload_n 0, 1) := by decide +kernel
theorem dM_isAllowed_6 : decode bM_isAllowed 6 = .ok (.getfield 62, 3) := by decide +kernel
theorem dM_isAllowed_9 : decode bM_isAllowed 9 = .ok (.if_icmp .ge 55, 3) := by decide +kernel
theorem dM_isAllowed_12 : decode bM_isAllowed 12 = .ok (.iload_n 1, 1) := by decide +kernel
theorem dM_isAllowed_13 : decode bM_isAllowed 13 = .ok (.ifCond .eq 43, 3) := by decide +kernel
theorem dM_isAllowed_16 : decode bM_isAllowed 16 = .ok (.aload_n 0, 1) := by decide +kernel
theorem dM_isAllowed_17 : decode bM_isAllowed 17 = .ok (.getfield 30, 3) := by decide +kernel
theorem dM_isAllowed_20 : decode bM_isAllowed 20 = .ok (.iload_n 2, 1) := by decide +kernel
theorem dM_isAllowed_21 : decode bM_isAllowed 21 = .ok (.iaload, 1) := by decide +kernel
theorem dM_isAllowed_22 : decode bM_isAllowed 22 = .ok (.ifCond .lt 30, 3) := by decide +kernel
theorem dM_isAllowed_25 : decode bM_isAllowed 25 = .ok (.aload_n 0, 1) := by decide +kernel
theorem dM_isAllowed_26 : decode bM_isAllowed 26 = .ok (.getfield 22, 3) := by decide +kernel
theorem dM_isAllowed_29 : decode bM_isAllowed 29 = .ok (.aload_n 0, 1) := by decide +kernel
theorem dM_isAllowed_30 : decode bM_isAllowed 30 = .ok (.getfield 30, 3) := by decide +kernel
theorem dM_isAllowed_33 : decode bM_isAllowed 33 = .ok (.iload_n 2, 1) := by decide +kernel
theorem dM_isAllowed_34 : decode bM_isAllowed 34 = .ok (.iaload, 1) := by decide +kernel
theorem dM_isAllowed_35 : decode bM_isAllowed 35 = .ok (.ifCond .ge 7, 3) := by decide +kernel
theorem dM_isAllowed_38 : decode bM_isAllowed 38 = .ok (.iconst 0, 1) := by decide +kernel
theorem dM_isAllowed_39 : decode bM_isAllowed 39 = .ok (.goto 9, 3) := by decide +kernel
theorem dM_isAllowed_42 : decode bM_isAllowed 42 = .ok (.aload_n 0, 1) := by decide +kernel
theorem dM_isAllowed_43 : decode bM_isAllowed 43 = .ok (.getfield 30, 3) := by decide +kernel
theorem dM_isAllowed_46 : decode bM_isAllowed 46 = .ok (.iload_n 2, 1) := by decide +kernel
theorem dM_isAllowed_47 : decode bM_isAllowed 47 = .ok (.iaload, 1) := by decide +kernel
theorem dM_isAllowed_48 : decode bM_isAllowed 48 = .ok (.baload, 1) := by decide +kernel
theorem dM_isAllowed_49 : decode bM_isAllowed 49 = .ok (.ifCond .ne 7, 3) := by decide +kernel
theorem dM_isAllowed_52 : decode bM_isAllowed 52 = .ok (.iconst 1, 1) := by decide +kernel
theorem dM_isAllowed_53 : decode bM_isAllowed 53 = .ok (.goto 4, 3) := by decide +kernel
theorem dM_isAllowed_56 : decode bM_isAllowed 56 = .ok (.iconst 0, 1) := by decide +kernel
theorem dM_isAllowed_57 : decode bM_isAllowed 57 = .ok (.istore_n 1, 1) := by decide +kernel
theorem dM_isAllowed_58 : decode bM_isAllowed 58 = .ok (.iinc 2 1, 3) := by decide +kernel
theorem dM_isAllowed_61 : decode bM_isAllowed 61 = .ok (.goto (-57), 3) := by decide +kernel
theorem dM_isAllowed_64 : decode bM_isAllowed 64 = .ok (.iload_n 1, 1) := by decide +kernel
theorem dM_isAllowed_65 : decode bM_isAllowed 65 = .ok (.ifCond .eq 14, 3) := by decide +kernel
theorem dM_isAllowed_68 : decode bM_isAllowed 68 = .ok (.aload_n 0, 1) := by decide +kernel
theorem dM_isAllowed_69 : decode bM_isAllowed 69 = .ok (.invokevirtual 80, 3) := by decide +kernel
theorem dM_isAllowed_72 : decode bM_isAllowed 72 = .ok (.ifCond .eq 7, 3) := by decide +kernel
theorem dM_isAllowed_75 : decode bM_isAllowed 75 = .ok (.iconst 1, 1) := by decide +kernel
theorem dM_isAllowed_76 : decode bM_isAllowed 76 = .ok (.goto 4, 3) := by decide +kernel
theorem dM_isAllowed_79 : decode bM_isAllowed 79 = .ok (.iconst 0, 1) := by decide +kernel
theorem dM_isAllowed_80 : decode bM_isAllowed 80 = .ok (.ireturn, 1) := by decide +kernel
theorem dM_search_0 : decode bM_search 0 = .ok (.iconst 0, 1) := by decide +kernel
theorem dM_search_1 : decode bM_search 1 = .ok (.istore_n 1, 1) := by decide +kernel
theorem dM_search_2 : decode bM_search 2 = .ok (.iload_n 1, 1) := by decide +kernel
theorem dM_search_3 : decode bM_search 3 = .ok (.aload_n 0, 1) := by decide +kernel
theorem dM_search_4 : decode bM_search 4 = .ok (.getfield 62, 3) := by decide +kernel
theorem dM_search_7 : decode bM_search 7 = .ok (.if_icmp .ge 28, 3) := by decide +kernel
theorem dM_search_10 : decode bM_search 10 = .ok (.aload_n 0, 1) := by decide +kernel
theorem dM_search_11 : decode bM_search 11 = .ok (.getfield 30, 3) := by decide +kernel
theorem dM_search_14 : decode bM_search 14 = .ok (.iload_n 1, 1) := by decide +kernel
theorem dM_search_15 : decode bM_search 15 = .ok (.aload_n 0, 1) := by decide +kernel
theorem dM_search_16 : decode bM_search 16 = .ok (.iload_n 1, 1) := by decide +kernel
theorem dM_search_17 : decode bM_search 17 = .ok (.invokevirtual 73, 3) := by decide +kernel
theorem dM_search_20 : decode bM_search 20 = .ok (.ifCond .le 7, 3) := by decide +kernel
theorem dM_search_23 : decode bM_search 23 = .ok (.iconst 0, 1) := by decide +kernel
theorem dM_search_24 : decode bM_search 24 = .ok (.goto 4, 3) := by decide +kernel
theorem dM_search_27 : decode bM_search 27 = .ok (.iconst (-1), 1) := by decide +kernel
theorem dM_search_28 : decode bM_search 28 = .ok (.iastore, 1) := by decide +kernel
theorem dM_search_29 : decode bM_search 29 = .ok (.iinc 1 1, 3) := by decide +kernel
theorem dM_search_32 : decode bM_search 32 = .ok (.goto (-30), 3) := by decide +kernel
theorem dM_search_35 : decode bM_search 35 = .ok (.ldc 84, 2) := by decide +kernel
theorem dM_search_37 : decode bM_search 37 = .ok (.istore_n 1, 1) := by decide +kernel
theorem dM_search_38 : decode bM_search 38 = .ok (.ldc 84, 2) := by decide +kernel
theorem dM_search_40 : decode bM_search 40 = .ok (.istore_n 2, 1) := by decide +kernel
theorem dM_search_41 : decode bM_search 41 = .ok (.iconst 1, 1) := by decide +kernel
theorem dM_search_42 : decode bM_search 42 = .ok (.istore_n 3, 1) := by decide +kernel
theorem dM_search_43 : decode bM_search 43 = .ok (.iload_n 3, 1) := by decide +kernel
theorem dM_search_44 : decode bM_search 44 = .ok (.ifCond .eq 103, 3) := by decide +kernel
theorem dM_search_47 : decode bM_search 47 = .ok (.aload_n 0, 1) := by decide +kernel
theorem dM_search_48 : decode bM_search 48 = .ok (.invokevirtual 85, 3) := by decide +kernel
theorem dM_search_51 : decode bM_search 51 = .ok (.ifCond .eq 10, 3) := by decide +kernel
theorem dM_search_54 : decode bM_search 54 = .ok (.aload_n 0, 1) := by decide +kernel
theorem dM_search_55 : decode bM_search 55 = .ok (.invokevirtual 88, 3) := by decide +kernel
theorem dM_search_58 : decode bM_search 58 = .ok (.goto 5, 3) := by decide +kernel
theorem dM_search_61 : decode bM_search 61 = .ok (.ldc 84, 2) := by decide +kernel
theorem dM_search_63 : decode bM_search 63 = .ok (.istore 4, 2) := by decide +kernel
theorem dM_search_65 : decode bM_search 65 = .ok (.iload 4, 2) := by decide +kernel
theorem dM_search_67 : decode bM_search 67 = .ok (.ldc 84, 2) := by decide +kernel
theorem dM_search_69 : decode bM_search 69 = .ok (.if_icmp .ge 10, 3) := by decide +kernel
theorem dM_search_72 : decode bM_search 72 = .ok (.aload_n 0, 1) := by decide +kernel
theorem dM_search_73 : decode bM_search 73 = .ok (.invokevirtual 92, 3) := by decide +kernel
theorem dM_search_76 : decode bM_search 76 = .ok (.goto 5, 3) := by decide +kernel
theorem dM_search_79 : decode bM_search 79 = .ok (.ldc 84, 2) := by decide +kernel
theorem dM_search_81 : decode bM_search 81 = .ok (.istore 5, 2) := by decide +kernel
theorem dM_search_83 : decode bM_search 83 = .ok (.iload 4, 2) := by decide +kernel
theorem dM_search_85 : decode bM_search 85 = .ok (.iload_n 1, 1) := by decide +kernel
theorem dM_search_86 : decode bM_search 86 = .ok (.if_icmp .lt 15, 3) := by decide +kernel
theorem dM_search_89 : decode bM_search 89 = .ok (.iload 4, 2) := by decide +kernel
theorem dM_search_91 : decode bM_search 91 = .ok (.iload_n 1, 1) := by decide +kernel
theorem dM_search_92 : decode bM_search 92 = .ok (.if_icmp .ne 47, 3) := by decide +kernel
theorem dM_search_95 : decode bM_search 95 = .ok (.iload 5, 2) := by decide +kernel
theorem dM_search_97 : decode bM_search 97 = .ok (.iload_n 2, 1) := by decide +kernel
theorem dM_search_98 : decode bM_search 98 = .ok (.if_icmp .ge 41, 3) := by decide +kernel
theorem dM_search_101 : decode bM_search 101 = .ok (.iload 4, 2) := by decide +kernel
theorem dM_search_103 : decode bM_search 103 = .ok (.istore_n 1, 1) := by decide +kernel
theorem dM_search_104 : decode bM_search 104 = .ok (.iload 5, 2) := by decide +kernel
theorem dM_search_106 : decode bM_search 106 = .ok (.istore_n 2, 1) := by decide +kernel
theorem dM_search_107 : decode bM_search 107 = .ok (.iconst 0, 1) := by decide +kernel
theorem dM_search_108 : decode bM_search 108 = .ok (.istore 6, 2) := by decide +kernel
theorem dM_search_110 : decode bM_search 110 = .ok (.iload 6, 2) := by decide +kernel
theorem dM_search_112 : decode bM_search 112 = .ok (.aload_n 0, 1) := by decide +kernel
theorem dM_search_113 : decode bM_search 113 = .ok (.getfield 62, 3) := by decide +kernel
theorem dM_search_116 : decode bM_search 116 = .ok (.if_icmp .ge 23, 3) := by decide +kernel
theorem dM_search_119 : decode bM_search 119 = .ok (.aload_n 0, 1) := by decide +kernel
theorem dM_search_120 : decode bM_search 120 = .ok (.getfield 33, 3) := by decide +kernel
theorem dM_search_123 : decode bM_search 123 = .ok (.iload 6, 2) := by decide +kernel
theorem dM_search_125 : decode bM_search 125 = .ok (.aload_n 0, 1) := by decide +kernel
theorem dM_search_126 : decode bM_search 126 = .ok (.getfield 30, 3) := by decide +kernel
theorem dM_search_129 : decode bM_search 129 = .ok (.iload 6, 2) := by decide +kernel
theorem dM_search_131 : decode bM_search 131 = .ok (.iaload, 1) := by decide +kernel
theorem dM_search_132 : decode bM_search 132 = .ok (.iastore, 1) := by decide +kernel
theorem dM_search_133 : decode bM_search 133 = .ok (.iinc 6 1, 3) := by decide +kernel
theorem dM_search_136 : decode bM_search 136 = .ok (.goto (-26), 3) := by decide +kernel
theorem dM_search_139 : decode bM_search 139 = .ok (.aload_n 0, 1) := by decide +kernel
theorem dM_search_140 : decode bM_search 140 = .ok (.invokevirtual 95, 3) := by decide +kernel
theorem dM_search_143 : decode bM_search 143 = .ok (.istore_n 3, 1) := by decide +kernel
theorem dM_search_144 : decode bM_search 144 = .ok (.goto (-101), 3) := by decide +kernel
theorem dM_search_147 : decode bM_search 147 = .ok (.aload_n 0, 1) := by decide +kernel
theorem dM_search_148 : decode bM_search 148 = .ok (.iload_n 1, 1) := by decide +kernel
theorem dM_search_149 : decode bM_search 149 = .ok (.ldc 84, 2) := by decide +kernel
theorem dM_search_151 : decode bM_search 151 = .ok (.if_icmp .ge 14, 3) := by decide +kernel
theorem dM_search_154 : decode bM_search 154 = .ok (.aload_n 0, 1) := by decide +kernel
theorem dM_search_155 : decode bM_search 155 = .ok (.invokevirtual 98, 3) := by decide +kernel
theorem dM_search_158 : decode bM_search 158 = .ok (.ifCond .le 7, 3) := by decide +kernel
theorem dM_search_161 : decode bM_search 161 = .ok (.iconst 1, 1) := by decide +kernel
theorem dM_search_162 : decode bM_search 162 = .ok (.goto 4, 3) := by decide +kernel
theorem dM_search_165 : decode bM_search 165 = .ok (.iconst 0, 1) := by decide +kernel
theorem dM_search_166 : decode bM_search 166 = .ok (.putfield 65, 3) := by decide +kernel
theorem dM_search_169 : decode bM_search 169 = .ok (.aload_n 0, 1) := by decide +kernel
theorem dM_search_170 : decode bM_search 170 = .ok (.getfield 65, 3) := by decide +kernel
theorem dM_search_173 : decode bM_search 173 = .ok (.ifCond .eq 7, 3) := by decide +kernel
theorem dM_search_176 : decode bM_search 176 = .ok (.iload_n 1, 1) := by decide +kernel
theorem dM_search_177 : decode bM_search 177 = .ok (.goto 4, 3) := by decide +kernel
theorem dM_search_180 : decode bM_search 180 = .ok (.iconst (-1), 1) := by decide +kernel
theorem dM_search_181 : decode bM_search 181 = .ok (.ireturn, 1) := by decide +kernel
theorem dM_plan_0 : decode bM_plan 0 = .ok (.aload_n 0, 1) := by decide +kernel
theorem dM_plan_1 : decode bM_plan 1 = .ok (.iconst 0, 1) := by decide +kernel
theorem dM_plan_2 : decode bM_plan 2 = .ok (.putfield 51, 3) := by decide +kernel
theorem dM_plan_5 : decode bM_plan 5 = .ok (.aload_n 0, 1) := by decide +kernel
theorem dM_plan_6 : decode bM_plan 6 = .ok (.invokevirtual 101, 3) := by decide +kernel
theorem dM_plan_9 : decode bM_plan 9 = .ok (.ireturn, 1) := by decide +kernel
theorem dM_lays_0 : decode bM_lays 0 = .ok (.iconst 0, 1) := by decide +kernel
theorem dM_lays_1 : decode bM_lays 1 = .ok (.istore_n 1, 1) := by decide +kernel
theorem dM_lays_2 : decode bM_lays 2 = .ok (.iload_n 1, 1) := by decide +kernel
theorem dM_lays_3 : decode bM_lays 3 = .ok (.aload_n 0, 1) := by decide +kernel
theorem dM_lays_4 : decode bM_lays 4 = .ok (.getfield 62, 3) := by decide +kernel
theorem dM_lays_7 : decode bM_lays 7 = .ok (.if_icmp .ge 21, 3) := by decide +kernel
theorem dM_lays_10 : decode bM_lays 10 = .ok (.aload_n 0, 1) := by decide +kernel
theorem dM_lays_11 : decode bM_lays 11 = .ok (.getfield 30, 3) := by decide +kernel
theorem dM_lays_14 : decode bM_lays 14 = .ok (.iload_n 1, 1) := by decide +kernel
theorem dM_lays_15 : decode bM_lays 15 = .ok (.aload_n 0, 1) := by decide +kernel
theorem dM_lays_16 : decode bM_lays 16 = .ok (.getfield 33, 3) := by decide +kernel
theorem dM_lays_19 : decode bM_lays 19 = .ok (.iload_n 1, 1) := by decide +kernel
theorem dM_lays_20 : decode bM_lays 20 = .ok (.iaload, 1) := by decide +kernel
theorem dM_lays_21 : decode bM_lays 21 = .ok (.iastore, 1) := by decide +kernel
theorem dM_lays_22 : decode bM_lays 22 = .ok (.iinc 1 1, 3) := by decide +kernel
theorem dM_lays_25 : decode bM_lays 25 = .ok (.goto (-23), 3) := by decide +kernel
theorem dM_lays_28 : decode bM_lays 28 = .ok (.aload_n 0, 1) := by decide +kernel
theorem dM_lays_29 : decode bM_lays 29 = .ok (.invokevirtual 80, 3) := by decide +kernel
theorem dM_lays_32 : decode bM_lays 32 = .ok (.istore_n 1, 1) := by decide +kernel
theorem dM_lays_33 : decode bM_lays 33 = .ok (.iload_n 1, 1) := by decide +kernel
theorem dM_lays_34 : decode bM_lays 34 = .ok (.ifCond .eq 10, 3) := by decide +kernel
theorem dM_lays_37 : decode bM_lays 37 = .ok (.aload_n 0, 1) := by decide +kernel
theorem dM_lays_38 : decode bM_lays 38 = .ok (.invokevirtual 88, 3) := by decide +kernel
theorem dM_lays_41 : decode bM_lays 41 = .ok (.goto 5, 3) := by decide +kernel
theorem dM_lays_44 : decode bM_lays 44 = .ok (.ldc 84, 2) := by decide +kernel
theorem dM_lays_46 : decode bM_lays 46 = .ok (.ireturn, 1) := by decide +kernel
theorem dM_works_0 : decode bM_works 0 = .ok (.aload_n 0, 1) := by decide +kernel
theorem dM_works_1 : decode bM_works 1 = .ok (.aload_n 0, 1) := by decide +kernel
theorem dM_works_2 : decode bM_works 2 = .ok (.iload_n 1, 1) := by decide +kernel
theorem dM_works_3 : decode bM_works 3 = .ok (.invokevirtual 69, 3) := by decide +kernel
theorem dM_works_6 : decode bM_works 6 = .ok (.ifCond .ne 7, 3) := by decide +kernel
theorem dM_works_9 : decode bM_works 9 = .ok (.iconst 1, 1) := by decide +kernel
theorem dM_works_10 : decode bM_works 10 = .ok (.goto 15, 3) := by decide +kernel
theorem dM_works_13 : decode bM_works 13 = .ok (.aload_n 0, 1) := by decide +kernel
theorem dM_works_14 : decode bM_works 14 = .ok (.getfield 65, 3) := by decide +kernel
theorem dM_works_17 : decode bM_works 17 = .ok (.ifCond .ne 7, 3) := by decide +kernel
theorem dM_works_20 : decode bM_works 20 = .ok (.iconst 2, 1) := by decide +kernel
theorem dM_works_21 : decode bM_works 21 = .ok (.goto 4, 3) := by decide +kernel
theorem dM_works_24 : decode bM_works 24 = .ok (.iconst 0, 1) := by decide +kernel
theorem dM_works_25 : decode bM_works 25 = .ok (.putfield 51, 3) := by decide +kernel
theorem dM_works_28 : decode bM_works 28 = .ok (.aload_n 0, 1) := by decide +kernel
theorem dM_works_29 : decode bM_works 29 = .ok (.getfield 51, 3) := by decide +kernel
theorem dM_works_32 : decode bM_works 32 = .ok (.ifCond .le 5, 3) := by decide +kernel
theorem dM_works_35 : decode bM_works 35 = .ok (.iconst 0, 1) := by decide +kernel
theorem dM_works_36 : decode bM_works 36 = .ok (.ireturn, 1) := by decide +kernel
theorem dM_works_37 : decode bM_works 37 = .ok (.aload_n 0, 1) := by decide +kernel
theorem dM_works_38 : decode bM_works 38 = .ok (.invokevirtual 104, 3) := by decide +kernel
theorem dM_works_41 : decode bM_works 41 = .ok (.istore_n 3, 1) := by decide +kernel
theorem dM_works_42 : decode bM_works 42 = .ok (.iconst 0, 1) := by decide +kernel
theorem dM_works_43 : decode bM_works 43 = .ok (.istore 4, 2) := by decide +kernel
theorem dM_works_45 : decode bM_works 45 = .ok (.iload 4, 2) := by decide +kernel
theorem dM_works_47 : decode bM_works 47 = .ok (.aload_n 0, 1) := by decide +kernel
theorem dM_works_48 : decode bM_works 48 = .ok (.getfield 62, 3) := by decide +kernel
theorem dM_works_51 : decode bM_works 51 = .ok (.if_icmp .ge 69, 3) := by decide +kernel
theorem dM_works_54 : decode bM_works 54 = .ok (.iload_n 3, 1) := by decide +kernel
theorem dM_works_55 : decode bM_works 55 = .ok (.ldc 84, 2) := by decide +kernel
theorem dM_works_57 : decode bM_works 57 = .ok (.if_icmp .ge 63, 3) := by decide +kernel
theorem dM_works_60 : decode bM_works 60 = .ok (.aload_n 0, 1) := by decide +kernel
theorem dM_works_61 : decode bM_works 61 = .ok (.getfield 30, 3) := by decide +kernel
theorem dM_works_64 : decode bM_works 64 = .ok (.iload 4, 2) := by decide +kernel
theorem dM_works_66 : decode bM_works 66 = .ok (.iaload, 1) := by decide +kernel
theorem dM_works_67 : decode bM_works 67 = .ok (.iload_n 1, 1) := by decide +kernel
theorem dM_works_68 : decode bM_works 68 = .ok (.if_icmp .ne 46, 3) := by decide +kernel
theorem dM_works_71 : decode bM_works 71 = .ok (.iload_n 2, 1) := by decide +kernel
theorem dM_works_72 : decode bM_works 72 = .ok (.aload_n 0, 1) := by decide +kernel
theorem dM_works_73 : decode bM_works 73 = .ok (.getfield 36, 3) := by decide +kernel
theorem dM_works_76 : decode bM_works 76 = .ok (.bipush 8, 2) := by decide +kernel
theorem dM_works_78 : decode bM_works 78 = .ok (.iload_n 1, 1) := by decide +kernel
theorem dM_works_79 : decode bM_works 79 = .ok (.imul, 1) := by decide +kernel
theorem dM_works_80 : decode bM_works 80 = .ok (.iload 4, 2) := by decide +kernel
theorem dM_works_82 : decode bM_works 82 = .ok (.iadd, 1) := by decide +kernel
theorem dM_works_83 : decode bM_works 83 = .ok (.iaload, 1) := by decide +kernel
theorem dM_works_84 : decode bM_works 84 = .ok (.if_icmp .lt 30, 3) := by decide +kernel
theorem dM_works_87 : decode bM_works 87 = .ok (.iload_n 2, 1) := by decide +kernel
theorem dM_works_88 : decode bM_works 88 = .ok (.aload_n 0, 1) := by decide +kernel
theorem dM_works_89 : decode bM_works 89 = .ok (.getfield 36, 3) := by decide +kernel
theorem dM_works_92 : decode bM_works 92 = .ok (.bipush 8, 2) := by decide +kernel
theorem dM_works_94 : decode bM_works 94 = .ok (.iload_n 1, 1) := by decide +kernel
theorem dM_works_95 : decode bM_works 95 = .ok (.imul, 1) := by decide +kernel
theorem dM_works_96 : decode bM_works 96 = .ok (.iload 4, 2) := by decide +kernel
theorem dM_works_98 : decode bM_works 98 = .ok (.iadd, 1) := by decide +kernel
theorem dM_works_99 : decode bM_works 99 = .ok (.iaload, 1) := by decide +kernel
theorem dM_works_100 : decode bM_works 100 = .ok (.isub, 1) := by decide +kernel
theorem dM_works_101 : decode bM_works 101 = .ok (.aload_n 0, 1) := by decide +kernel
theorem dM_works_102 : decode bM_works 102 = .ok (.iload_n 1, 1) := by decide +kernel
theorem dM_works_103 : decode bM_works 103 = .ok (.iload 4, 2) := by decide +kernel
theorem dM_works_105 : decode bM_works 105 = .ok (.invokevirtual 76, 3) := by decide +kernel
theorem dM_works_108 : decode bM_works 108 = .ok (.if_icmp .ge 6, 3) := by decide +kernel
theorem dM_works_111 : decode bM_works 111 = .ok (.iload 4, 2) := by decide +kernel
theorem dM_works_113 : decode bM_works 113 = .ok (.ireturn, 1) := by decide +kernel
theorem dM_works_114 : decode bM_works 114 = .ok (.iinc 4 1, 3) := by decide +kernel
theorem dM_works_117 : decode bM_works 117 = .ok (.goto (-72), 3) := by decide +kernel
theorem dM_works_120 : decode bM_works 120 = .ok (.iconst (-1), 1) := by decide +kernel
theorem dM_works_121 : decode bM_works 121 = .ok (.ireturn, 1) := by decide +kernel
theorem dM_where_0 : decode bM_where 0 = .ok (.aload_n 0, 1) := by decide +kernel
theorem dM_where_1 : decode bM_where 1 = .ok (.aload_n 0, 1) := by decide +kernel
theorem dM_where_2 : decode bM_where 2 = .ok (.iload_n 1, 1) := by decide +kernel
theorem dM_where_3 : decode bM_where 3 = .ok (.invokevirtual 69, 3) := by decide +kernel
theorem dM_where_6 : decode bM_where 6 = .ok (.ifCond .eq 7, 3) := by decide +kernel
theorem dM_where_9 : decode bM_where 9 = .ok (.iload_n 2, 1) := by decide +kernel
theorem dM_where_10 : decode bM_where 10 = .ok (.ifCond .ge 7, 3) := by decide +kernel
theorem dM_where_13 : decode bM_where 13 = .ok (.iconst 1, 1) := by decide +kernel
theorem dM_where_14 : decode bM_where 14 = .ok (.goto 15, 3) := by decide +kernel
theorem dM_where_17 : decode bM_where 17 = .ok (.aload_n 0, 1) := by decide +kernel
theorem dM_where_18 : decode bM_where 18 = .ok (.getfield 65, 3) := by decide +kernel
theorem dM_where_21 : decode bM_where 21 = .ok (.ifCond .ne 7, 3) := by decide +kernel
theorem dM_where_24 : decode bM_where 24 = .ok (.iconst 2, 1) := by decide +kernel
theorem dM_where_25 : decode bM_where 25 = .ok (.goto 4, 3) := by decide +kernel
theorem dM_where_28 : decode bM_where 28 = .ok (.iconst 0, 1) := by decide +kernel
theorem dM_where_29 : decode bM_where 29 = .ok (.putfield 51, 3) := by decide +kernel
theorem dM_where_32 : decode bM_where 32 = .ok (.aload_n 0, 1) := by decide +kernel
theorem dM_where_33 : decode bM_where 33 = .ok (.getfield 51, 3) := by decide +kernel
theorem dM_where_36 : decode bM_where 36 = .ok (.ifCond .le 5, 3) := by decide +kernel
theorem dM_where_39 : decode bM_where 39 = .ok (.iconst 0, 1) := by decide +kernel
theorem dM_where_40 : decode bM_where 40 = .ok (.ireturn, 1) := by decide +kernel
theorem dM_where_41 : decode bM_where 41 = .ok (.aload_n 0, 1) := by decide +kernel
theorem dM_where_42 : decode bM_where 42 = .ok (.invokevirtual 104, 3) := by decide +kernel
theorem dM_where_45 : decode bM_where 45 = .ok (.istore_n 3, 1) := by decide +kernel
theorem dM_where_46 : decode bM_where 46 = .ok (.iload_n 3, 1) := by decide +kernel
theorem dM_where_47 : decode bM_where 47 = .ok (.ldc 84, 2) := by decide +kernel
theorem dM_where_49 : decode bM_where 49 = .ok (.if_icmp .ge 12, 3) := by decide +kernel
theorem dM_where_52 : decode bM_where 52 = .ok (.aload_n 0, 1) := by decide +kernel
theorem dM_where_53 : decode bM_where 53 = .ok (.getfield 39, 3) := by decide +kernel
theorem dM_where_56 : decode bM_where 56 = .ok (.iload_n 1, 1) := by decide +kernel
theorem dM_where_57 : decode bM_where 57 = .ok (.iaload, 1) := by decide +kernel
theorem dM_where_58 : decode bM_where 58 = .ok (.goto 4, 3) := by decide +kernel
theorem dM_where_61 : decode bM_where 61 = .ok (.iconst (-1), 1) := by decide +kernel
theorem dM_where_62 : decode bM_where 62 = .ok (.istore 4, 2) := by decide +kernel
theorem dM_where_64 : decode bM_where 64 = .ok (.iconst 0, 1) := by decide +kernel
theorem dM_where_65 : decode bM_where 65 = .ok (.istore 5, 2) := by decide +kernel
theorem dM_where_67 : decode bM_where 67 = .ok (.iload 5, 2) := by decide +kernel
theorem dM_where_69 : decode bM_where 69 = .ok (.aload_n 0, 1) := by decide +kernel
theorem dM_where_70 : decode bM_where 70 = .ok (.getfield 62, 3) := by decide +kernel
theorem dM_where_73 : decode bM_where 73 = .ok (.if_icmp .ge 61, 3) := by decide +kernel
theorem dM_where_76 : decode bM_where 76 = .ok (.iload 4, 2) := by decide +kernel
theorem dM_where_78 : decode bM_where 78 = .ok (.ifCond .lt 56, 3) := by decide +kernel
theorem dM_where_81 : decode bM_where 81 = .ok (.iload 5, 2) := by decide +kernel
theorem dM_where_83 : decode bM_where 83 = .ok (.aload_n 0, 1) := by decide +kernel
theorem dM_where_84 : decode bM_where 84 = .ok (.getfield 39, 3) := by decide +kernel
theorem dM_where_87 : decode bM_where 87 = .ok (.iload_n 1, 1) := by decide +kernel
theorem dM_where_88 : decode bM_where 88 = .ok (.iaload, 1) := by decide +kernel
theorem dM_where_89 : decode bM_where 89 = .ok (.if_icmp .le 35, 3) := by decide +kernel
theorem dM_where_92 : decode bM_where 92 = .ok (.iload 5, 2) := by decide +kernel
theorem dM_where_94 : decode bM_where 94 = .ok (.aload_n 0, 1) := by decide +kernel
theorem dM_where_95 : decode bM_where 95 = .ok (.getfield 42, 3) := by decide +kernel
theorem dM_where_98 : decode bM_where 98 = .ok (.iload_n 1, 1) := by decide +kernel
theorem dM_where_99 : decode bM_where 99 = .ok (.iaload, 1) := by decide +kernel
theorem dM_where_100 : decode bM_where 100 = .ok (.if_icmp .gt 24, 3) := by decide +kernel
theorem dM_where_103 : decode bM_where 103 = .ok (.aload_n 0, 1) := by decide +kernel
theorem dM_where_104 : decode bM_where 104 = .ok (.getfield 36, 3) := by decide +kernel
theorem dM_where_107 : decode bM_where 107 = .ok (.bipush 8, 2) := by decide +kernel
theorem dM_where_109 : decode bM_where 109 = .ok (.iload_n 1, 1) := by decide +kernel
theorem dM_where_110 : decode bM_where 110 = .ok (.imul, 1) := by decide +kernel
theorem dM_where_111 : decode bM_where 111 = .ok (.iload 5, 2) := by decide +kernel
theorem dM_where_113 : decode bM_where 113 = .ok (.iadd, 1) := by decide +kernel
theorem dM_where_114 : decode bM_where 114 = .ok (.iaload, 1) := by decide +kernel
theorem dM_where_115 : decode bM_where 115 = .ok (.iload_n 2, 1) := by decide +kernel
theorem dM_where_116 : decode bM_where 116 = .ok (.if_icmp .gt 8, 3) := by decide +kernel
theorem dM_where_119 : decode bM_where 119 = .ok (.iload 5, 2) := by decide +kernel
theorem dM_where_121 : decode bM_where 121 = .ok (.goto 5, 3) := by decide +kernel
theorem dM_where_124 : decode bM_where 124 = .ok (.iload 4, 2) := by decide +kernel
theorem dM_where_126 : decode bM_where 126 = .ok (.istore 4, 2) := by decide +kernel
theorem dM_where_128 : decode bM_where 128 = .ok (.iinc 5 1, 3) := by decide +kernel
theorem dM_where_131 : decode bM_where 131 = .ok (.goto (-64), 3) := by decide +kernel
theorem dM_where_134 : decode bM_where 134 = .ok (.iload 4, 2) := by decide +kernel
theorem dM_where_136 : decode bM_where 136 = .ok (.ireturn, 1) := by decide +kernel
theorem dM_fails_0 : decode bM_fails 0 = .ok (.aload_n 0, 1) := by decide +kernel
theorem dM_fails_1 : decode bM_fails 1 = .ok (.aload_n 0, 1) := by decide +kernel
theorem dM_fails_2 : decode bM_fails 2 = .ok (.iload_n 1, 1) := by decide +kernel
theorem dM_fails_3 : decode bM_fails 3 = .ok (.invokevirtual 69, 3) := by decide +kernel
theorem dM_fails_6 : decode bM_fails 6 = .ok (.ifCond .ne 7, 3) := by decide +kernel
theorem dM_fails_9 : decode bM_fails 9 = .ok (.iconst 1, 1) := by decide +kernel
theorem dM_fails_10 : decode bM_fails 10 = .ok (.goto 32, 3) := by decide +kernel
theorem dM_fails_13 : decode bM_fails 13 = .ok (.iload_n 2, 1) := by decide +kernel
theorem dM_fails_14 : decode bM_fails 14 = .ok (.ifCond .lt 12, 3) := by decide +kernel
theorem dM_fails_17 : decode bM_fails 17 = .ok (.aload_n 0, 1) := by decide +kernel
theorem dM_fails_18 : decode bM_fails 18 = .ok (.getfield 22, 3) := by decide +kernel
theorem dM_fails_21 : decode bM_fails 21 = .ok (.iload_n 1, 1) := by decide +kernel
theorem dM_fails_22 : decode bM_fails 22 = .ok (.baload, 1) := by decide +kernel
theorem dM_fails_23 : decode bM_fails 23 = .ok (.ifCond .eq 7, 3) := by decide +kernel
theorem dM_fails_26 : decode bM_fails 26 = .ok (.iconst 2, 1) := by decide +kernel
theorem dM_fails_27 : decode bM_fails 27 = .ok (.goto 15, 3) := by decide +kernel
theorem dM_fails_30 : decode bM_fails 30 = .ok (.aload_n 0, 1) := by decide +kernel
theorem dM_fails_31 : decode bM_fails 31 = .ok (.getfield 65, 3) := by decide +kernel
theorem dM_fails_34 : decode bM_fails 34 = .ok (.ifCond .ne 7, 3) := by decide +kernel
theorem dM_fails_37 : decode bM_fails 37 = .ok (.iconst 3, 1) := by decide +kernel
theorem dM_fails_38 : decode bM_fails 38 = .ok (.goto 4, 3) := by decide +kernel
theorem dM_fails_41 : decode bM_fails 41 = .ok (.iconst 0, 1) := by decide +kernel
theorem dM_fails_42 : decode bM_fails 42 = .ok (.putfield 51, 3) := by decide +kernel
theorem dM_fails_45 : decode bM_fails 45 = .ok (.aload_n 0, 1) := by decide +kernel
theorem dM_fails_46 : decode bM_fails 46 = .ok (.getfield 51, 3) := by decide +kernel
theorem dM_fails_49 : decode bM_fails 49 = .ok (.ifCond .le 5, 3) := by decide +kernel
theorem dM_fails_52 : decode bM_fails 52 = .ok (.iconst 0, 1) := by decide +kernel
theorem dM_fails_53 : decode bM_fails 53 = .ok (.ireturn, 1) := by decide +kernel
theorem dM_fails_54 : decode bM_fails 54 = .ok (.aload_n 0, 1) := by decide +kernel
theorem dM_fails_55 : decode bM_fails 55 = .ok (.invokevirtual 104, 3) := by decide +kernel
theorem dM_fails_58 : decode bM_fails 58 = .ok (.istore_n 3, 1) := by decide +kernel
theorem dM_fails_59 : decode bM_fails 59 = .ok (.iconst 0, 1) := by decide +kernel
theorem dM_fails_60 : decode bM_fails 60 = .ok (.istore 4, 2) := by decide +kernel
theorem dM_fails_62 : decode bM_fails 62 = .ok (.iload 4, 2) := by decide +kernel
theorem dM_fails_64 : decode bM_fails 64 = .ok (.aload_n 0, 1) := by decide +kernel
theorem dM_fails_65 : decode bM_fails 65 = .ok (.getfield 62, 3) := by decide +kernel
theorem dM_fails_68 : decode bM_fails 68 = .ok (.if_icmp .ge 185, 3) := by decide +kernel
theorem dM_fails_71 : decode bM_fails 71 = .ok (.iload_n 3, 1) := by decide +kernel
theorem dM_fails_72 : decode bM_fails 72 = .ok (.ldc 84, 2) := by decide +kernel
theorem dM_fails_74 : decode bM_fails 74 = .ok (.if_icmp .ge 179, 3) := by decide +kernel
theorem dM_fails_77 : decode bM_fails 77 = .ok (.aload_n 0, 1) := by decide +kernel
theorem dM_fails_78 : decode bM_fails 78 = .ok (.getfield 30, 3) := by decide +kernel
theorem dM_fails_81 : decode bM_fails 81 = .ok (.iload 4, 2) := by decide +kernel
theorem dM_fails_83 : decode bM_fails 83 = .ok (.iaload, 1) := by decide +kernel
theorem dM_fails_84 : decode bM_fails 84 = .ok (.istore 5, 2) := by decide +kernel
theorem dM_fails_86 : decode bM_fails 86 = .ok (.iload 5, 2) := by decide +kernel
theorem dM_fails_88 : decode bM_fails 88 = .ok (.ifCond .ge 7, 3) := by decide +kernel
theorem dM_fails_91 : decode bM_fails 91 = .ok (.iconst 0, 1) := by decide +kernel
theorem dM_fails_92 : decode bM_fails 92 = .ok (.goto 27, 3) := by decide +kernel
theorem dM_fails_95 : decode bM_fails 95 = .ok (.iload_n 2, 1) := by decide +kernel
theorem dM_fails_96 : decode bM_fails 96 = .ok (.aload_n 0, 1) := by decide +kernel
theorem dM_fails_97 : decode bM_fails 97 = .ok (.getfield 36, 3) := by decide +kernel
theorem dM_fails_100 : decode bM_fails 100 = .ok (.bipush 8, 2) := by decide +kernel
theorem dM_fails_102 : decode bM_fails 102 = .ok (.iload 5, 2) := by decide +kernel
theorem dM_fails_104 : decode bM_fails 104 = .ok (.ifCond .ge 7, 3) := by decide +kernel
theorem dM_fails_107 : decode bM_fails 107 = .ok (.iconst 0, 1) := by decide +kernel
theorem dM_fails_108 : decode bM_fails 108 = .ok (.goto 5, 3) := by decide +kernel
theorem dM_fails_111 : decode bM_fails 111 = .ok (.iload 5, 2) := by decide +kernel
theorem dM_fails_113 : decode bM_fails 113 = .ok (.imul, 1) := by decide +kernel
theorem dM_fails_114 : decode bM_fails 114 = .ok (.iload 4, 2) := by decide +kernel
theorem dM_fails_116 : decode bM_fails 116 = .ok (.iadd, 1) := by decide +kernel
theorem dM_fails_117 : decode bM_fails 117 = .ok (.iaload, 1) := by decide +kernel
theorem dM_fails_118 : decode bM_fails 118 = .ok (.isub, 1) := by decide +kernel
theorem dM_fails_119 : decode bM_fails 119 = .ok (.istore 6, 2) := by decide +kernel
theorem dM_fails_121 : decode bM_fails 121 = .ok (.iload 5, 2) := by decide +kernel
theorem dM_fails_123 : decode bM_fails 123 = .ok (.ifCond .lt 124, 3) := by decide +kernel
theorem dM_fails_126 : decode bM_fails 126 = .ok (.iload 6, 2) := by decide +kernel
theorem dM_fails_128 : decode bM_fails 128 = .ok (.ifCond .le 119, 3) := by decide +kernel
theorem dM_fails_131 : decode bM_fails 131 = .ok (.iload 6, 2) := by decide +kernel
theorem dM_fails_133 : decode bM_fails 133 = .ok (.i2l, 1) := by decide +kernel
theorem dM_fails_134 : decode bM_fails 134 = .ok (.aload_n 0, 1) := by decide +kernel
theorem dM_fails_135 : decode bM_fails 135 = .ok (.getfield 16, 3) := by decide +kernel
theorem dM_fails_138 : decode bM_fails 138 = .ok (.iload 5, 2) := by decide +kernel
theorem dM_fails_140 : decode bM_fails 140 = .ok (.iaload, 1) := by decide +kernel
theorem dM_fails_141 : decode bM_fails 141 = .ok (.i2l, 1) := by decide +kernel
theorem dM_fails_142 : decode bM_fails 142 = .ok (.lmul, 1) := by decide +kernel
theorem dM_fails_143 : decode bM_fails 143 = .ok (.aload_n 0, 1) := by decide +kernel
theorem dM_fails_144 : decode bM_fails 144 = .ok (.getfield 19, 3) := by decide +kernel
theorem dM_fails_147 : decode bM_fails 147 = .ok (.iload 5, 2) := by decide +kernel
theorem dM_fails_149 : decode bM_fails 149 = .ok (.iaload, 1) := by decide +kernel
theorem dM_fails_150 : decode bM_fails 150 = .ok (.i2l, 1) := by decide +kernel
theorem dM_fails_151 : decode bM_fails 151 = .ok (.ldiv, 1) := by decide +kernel
theorem dM_fails_152 : decode bM_fails 152 = .ok (.lstore 7, 2) := by decide +kernel
theorem dM_fails_154 : decode bM_fails 154 = .ok (.iload 6, 2) := by decide +kernel
theorem dM_fails_156 : decode bM_fails 156 = .ok (.aload_n 0, 1) := by decide +kernel
theorem dM_fails_157 : decode bM_fails 157 = .ok (.iload 5, 2) := by decide +kernel
theorem dM_fails_159 : decode bM_fails 159 = .ok (.iload 4, 2) := by decide +kernel
theorem dM_fails_161 : decode bM_fails 161 = .ok (.invokevirtual 76, 3) := by decide +kernel
theorem dM_fails_164 : decode bM_fails 164 = .ok (.if_icmp .ge 16, 3) := by decide +kernel
theorem dM_fails_167 : decode bM_fails 167 = .ok (.lload 7, 2) := by decide +kernel
theorem dM_fails_169 : decode bM_fails 169 = .ok (.aload_n 0, 1) := by decide +kernel
theorem dM_fails_170 : decode bM_fails 170 = .ok (.iload 4, 2) := by decide +kernel
theorem dM_fails_172 : decode bM_fails 172 = .ok (.invokevirtual 73, 3) := by decide +kernel
theorem dM_fails_175 : decode bM_fails 175 = .ok (.i2l, 1) := by decide +kernel
theorem dM_fails_176 : decode bM_fails 176 = .ok (.lcmp, 1) := by decide +kernel
theorem dM_fails_177 : decode bM_fails 177 = .ok (.ifCond .le 12, 3) := by decide +kernel
theorem dM_fails_180 : decode bM_fails 180 = .ok (.aload_n 0, 1) := by decide +kernel
theorem dM_fails_181 : decode bM_fails 181 = .ok (.iload 4, 2) := by decide +kernel
theorem dM_fails_183 : decode bM_fails 183 = .ok (.invokevirtual 73, 3) := by decide +kernel
theorem dM_fails_186 : decode bM_fails 186 = .ok (.goto 6, 3) := by decide +kernel
theorem dM_fails_189 : decode bM_fails 189 = .ok (.lload 7, 2) := by decide +kernel
theorem dM_fails_191 : decode bM_fails 191 = .ok (.l2i, 1) := by decide +kernel
theorem dM_fails_192 : decode bM_fails 192 = .ok (.istore 9, 2) := by decide +kernel
theorem dM_fails_194 : decode bM_fails 194 = .ok (.iload 9, 2) := by decide +kernel
theorem dM_fails_196 : decode bM_fails 196 = .ok (.aload_n 0, 1) := by decide +kernel
theorem dM_fails_197 : decode bM_fails 197 = .ok (.getfield 7, 3) := by decide +kernel
theorem dM_fails_200 : decode bM_fails 200 = .ok (.iload 4, 2) := by decide +kernel
theorem dM_fails_202 : decode bM_fails 202 = .ok (.iaload, 1) := by decide +kernel
theorem dM_fails_203 : decode bM_fails 203 = .ok (.if_icmp .ge 8, 3) := by decide +kernel
theorem dM_fails_206 : decode bM_fails 206 = .ok (.iload 9, 2) := by decide +kernel
theorem dM_fails_208 : decode bM_fails 208 = .ok (.goto 10, 3) := by decide +kernel
theorem dM_fails_211 : decode bM_fails 211 = .ok (.aload_n 0, 1) := by decide +kernel
theorem dM_fails_212 : decode bM_fails 212 = .ok (.getfield 7, 3) := by decide +kernel
theorem dM_fails_215 : decode bM_fails 215 = .ok (.iload 4, 2) := by decide +kernel
theorem dM_fails_217 : decode bM_fails 217 = .ok (.iaload, 1) := by decide +kernel
theorem dM_fails_218 : decode bM_fails 218 = .ok (.istore 10, 2) := by decide +kernel
theorem dM_fails_220 : decode bM_fails 220 = .ok (.aload_n 0, 1) := by decide +kernel
theorem dM_fails_221 : decode bM_fails 221 = .ok (.getfield 7, 3) := by decide +kernel
theorem dM_fails_224 : decode bM_fails 224 = .ok (.iload 4, 2) := by decide +kernel
theorem dM_fails_226 : decode bM_fails 226 = .ok (.dup2, 1) := by decide +kernel
theorem dM_fails_227 : decode bM_fails 227 = .ok (.iaload, 1) := by decide +kernel
theorem dM_fails_228 : decode bM_fails 228 = .ok (.iload 10, 2) := by decide +kernel
theorem dM_fails_230 : decode bM_fails 230 = .ok (.isub, 1) := by decide +kernel
theorem dM_fails_231 : decode bM_fails 231 = .ok (.iastore, 1) := by decide +kernel
theorem dM_fails_232 : decode bM_fails 232 = .ok (.aload_n 0, 1) := by decide +kernel
theorem dM_fails_233 : decode bM_fails 233 = .ok (.getfield 13, 3) := by decide +kernel
theorem dM_fails_236 : decode bM_fails 236 = .ok (.iload 4, 2) := by decide +kernel
theorem dM_fails_238 : decode bM_fails 238 = .ok (.dup2, 1) := by decide +kernel
theorem dM_fails_239 : decode bM_fails 239 = .ok (.iaload, 1) := by decide +kernel
theorem dM_fails_240 : decode bM_fails 240 = .ok (.iload 9, 2) := by decide +kernel
theorem dM_fails_242 : decode bM_fails 242 = .ok (.iload 10, 2) := by decide +kernel
theorem dM_fails_244 : decode bM_fails 244 = .ok (.isub, 1) := by decide +kernel
theorem dM_fails_245 : decode bM_fails 245 = .ok (.isub, 1) := by decide +kernel
theorem dM_fails_246 : decode bM_fails 246 = .ok (.iastore, 1) := by decide +kernel
theorem dM_fails_247 : decode bM_fails 247 = .ok (.iinc 4 1, 3) := by decide +kernel
theorem dM_fails_250 : decode bM_fails 250 = .ok (.goto (-188), 3) := by decide +kernel
theorem dM_fails_253 : decode bM_fails 253 = .ok (.aload_n 0, 1) := by decide +kernel
theorem dM_fails_254 : decode bM_fails 254 = .ok (.getfield 22, 3) := by decide +kernel
theorem dM_fails_257 : decode bM_fails 257 = .ok (.iload_n 1, 1) := by decide +kernel
theorem dM_fails_258 : decode bM_fails 258 = .ok (.iconst 1, 1) := by decide +kernel
theorem dM_fails_259 : decode bM_fails 259 = .ok (.bastore, 1) := by decide +kernel
theorem dM_fails_260 : decode bM_fails 260 = .ok (.aload_n 0, 1) := by decide +kernel
theorem dM_fails_261 : decode bM_fails 261 = .ok (.invokevirtual 101, 3) := by decide +kernel
theorem dM_fails_264 : decode bM_fails 264 = .ok (.ireturn, 1) := by decide +kernel
theorem dM_working_0 : decode bM_working 0 = .ok (.iconst 0, 1) := by decide +kernel
theorem dM_working_1 : decode bM_working 1 = .ok (.istore_n 1, 1) := by decide +kernel
theorem dM_working_2 : decode bM_working 2 = .ok (.iconst 0, 1) := by decide +kernel
theorem dM_working_3 : decode bM_working 3 = .ok (.istore_n 2, 1) := by decide +kernel
theorem dM_working_4 : decode bM_working 4 = .ok (.iload_n 2, 1) := by decide +kernel
theorem dM_working_5 : decode bM_working 5 = .ok (.aload_n 0, 1) := by decide +kernel
theorem dM_working_6 : decode bM_working 6 = .ok (.getfield 45, 3) := by decide +kernel
theorem dM_working_9 : decode bM_working 9 = .ok (.if_icmp .ge 26, 3) := by decide +kernel
theorem dM_working_12 : decode bM_working 12 = .ok (.iload_n 1, 1) := by decide +kernel
theorem dM_working_13 : decode bM_working 13 = .ok (.aload_n 0, 1) := by decide +kernel
theorem dM_working_14 : decode bM_working 14 = .ok (.getfield 22, 3) := by decide +kernel
theorem dM_working_17 : decode bM_working 17 = .ok (.iload_n 2, 1) := by decide +kernel
theorem dM_working_18 : decode bM_working 18 = .ok (.baload, 1) := by decide +kernel
theorem dM_working_19 : decode bM_working 19 = .ok (.ifCond .eq 7, 3) := by decide +kernel
theorem dM_working_22 : decode bM_working 22 = .ok (.iconst 0, 1) := by decide +kernel
theorem dM_working_23 : decode bM_working 23 = .ok (.goto 4, 3) := by decide +kernel
theorem dM_working_26 : decode bM_working 26 = .ok (.iconst 1, 1) := by decide +kernel
theorem dM_working_27 : decode bM_working 27 = .ok (.iadd, 1) := by decide +kernel
theorem dM_working_28 : decode bM_working 28 = .ok (.istore_n 1, 1) := by decide +kernel
theorem dM_working_29 : decode bM_working 29 = .ok (.iinc 2 1, 3) := by decide +kernel
theorem dM_working_32 : decode bM_working 32 = .ok (.goto (-28), 3) := by decide +kernel
theorem dM_working_35 : decode bM_working 35 = .ok (.iload_n 1, 1) := by decide +kernel
theorem dM_working_36 : decode bM_working 36 = .ok (.ireturn, 1) := by decide +kernel
theorem dM_bound_0 : decode bM_bound 0 = .ok (.aload_n 0, 1) := by decide +kernel
theorem dM_bound_1 : decode bM_bound 1 = .ok (.iconst 0, 1) := by decide +kernel
theorem dM_bound_2 : decode bM_bound 2 = .ok (.putfield 51, 3) := by decide +kernel
theorem dM_bound_5 : decode bM_bound 5 = .ok (.aload_n 0, 1) := by decide +kernel
theorem dM_bound_6 : decode bM_bound 6 = .ok (.invokevirtual 98, 3) := by decide +kernel
theorem dM_bound_9 : decode bM_bound 9 = .ok (.ifCond .ne 5, 3) := by decide +kernel
theorem dM_bound_12 : decode bM_bound 12 = .ok (.iconst (-1), 1) := by decide +kernel
theorem dM_bound_13 : decode bM_bound 13 = .ok (.ireturn, 1) := by decide +kernel
theorem dM_bound_14 : decode bM_bound 14 = .ok (.iconst 0, 1) := by decide +kernel
theorem dM_bound_15 : decode bM_bound 15 = .ok (.istore_n 1, 1) := by decide +kernel
theorem dM_bound_16 : decode bM_bound 16 = .ok (.lconst 0, 1) := by decide +kernel
theorem dM_bound_17 : decode bM_bound 17 = .ok (.lstore_n 2, 1) := by decide +kernel
theorem dM_bound_18 : decode bM_bound 18 = .ok (.iconst 0, 1) := by decide +kernel
theorem dM_bound_19 : decode bM_bound 19 = .ok (.istore 4, 2) := by decide +kernel
theorem dM_bound_21 : decode bM_bound 21 = .ok (.iload 4, 2) := by decide +kernel
theorem dM_bound_23 : decode bM_bound 23 = .ok (.aload_n 0, 1) := by decide +kernel
theorem dM_bound_24 : decode bM_bound 24 = .ok (.getfield 62, 3) := by decide +kernel
theorem dM_bound_27 : decode bM_bound 27 = .ok (.if_icmp .ge 92, 3) := by decide +kernel
theorem dM_bound_30 : decode bM_bound 30 = .ok (.ldc 84, 2) := by decide +kernel
theorem dM_bound_32 : decode bM_bound 32 = .ok (.istore 5, 2) := by decide +kernel
theorem dM_bound_34 : decode bM_bound 34 = .ok (.iconst 0, 1) := by decide +kernel
theorem dM_bound_35 : decode bM_bound 35 = .ok (.istore 6, 2) := by decide +kernel
theorem dM_bound_37 : decode bM_bound 37 = .ok (.iload 6, 2) := by decide +kernel
theorem dM_bound_39 : decode bM_bound 39 = .ok (.aload_n 0, 1) := by decide +kernel
theorem dM_bound_40 : decode bM_bound 40 = .ok (.getfield 45, 3) := by decide +kernel
theorem dM_bound_43 : decode bM_bound 43 = .ok (.if_icmp .ge 47, 3) := by decide +kernel
theorem dM_bound_46 : decode bM_bound 46 = .ok (.aload_n 0, 1) := by decide +kernel
theorem dM_bound_47 : decode bM_bound 47 = .ok (.getfield 22, 3) := by decide +kernel
theorem dM_bound_50 : decode bM_bound 50 = .ok (.iload 6, 2) := by decide +kernel
theorem dM_bound_52 : decode bM_bound 52 = .ok (.baload, 1) := by decide +kernel
theorem dM_bound_53 : decode bM_bound 53 = .ok (.ifCond .ne 27, 3) := by decide +kernel
theorem dM_bound_56 : decode bM_bound 56 = .ok (.aload_n 0, 1) := by decide +kernel
theorem dM_bound_57 : decode bM_bound 57 = .ok (.iload 6, 2) := by decide +kernel
theorem dM_bound_59 : decode bM_bound 59 = .ok (.iload 4, 2) := by decide +kernel
theorem dM_bound_61 : decode bM_bound 61 = .ok (.invokevirtual 76, 3) := by decide +kernel
theorem dM_bound_64 : decode bM_bound 64 = .ok (.iload 5, 2) := by decide +kernel
theorem dM_bound_66 : decode bM_bound 66 = .ok (.if_icmp .ge 14, 3) := by decide +kernel
theorem dM_bound_69 : decode bM_bound 69 = .ok (.aload_n 0, 1) := by decide +kernel
theorem dM_bound_70 : decode bM_bound 70 = .ok (.iload 6, 2) := by decide +kernel
theorem dM_bound_72 : decode bM_bound 72 = .ok (.iload 4, 2) := by decide +kernel
theorem dM_bound_74 : decode bM_bound 74 = .ok (.invokevirtual 76, 3) := by decide +kernel
theorem dM_bound_77 : decode bM_bound 77 = .ok (.goto 5, 3) := by decide +kernel
theorem dM_bound_80 : decode bM_bound 80 = .ok (.iload 5, 2) := by decide +kernel
theorem dM_bound_82 : decode bM_bound 82 = .ok (.istore 5, 2) := by decide +kernel
theorem dM_bound_84 : decode bM_bound 84 = .ok (.iinc 6 1, 3) := by decide +kernel
theorem dM_bound_87 : decode bM_bound 87 = .ok (.goto (-50), 3) := by decide +kernel
theorem dM_bound_90 : decode bM_bound 90 = .ok (.iload 5, 2) := by decide +kernel
theorem dM_bound_92 : decode bM_bound 92 = .ok (.iload_n 1, 1) := by decide +kernel
theorem dM_bound_93 : decode bM_bound 93 = .ok (.if_icmp .le 8, 3) := by decide +kernel
theorem dM_bound_96 : decode bM_bound 96 = .ok (.iload 5, 2) := by decide +kernel
theorem dM_bound_98 : decode bM_bound 98 = .ok (.goto 4, 3) := by decide +kernel
theorem dM_bound_101 : decode bM_bound 101 = .ok (.iload_n 1, 1) := by decide +kernel
theorem dM_bound_102 : decode bM_bound 102 = .ok (.istore_n 1, 1) := by decide +kernel
theorem dM_bound_103 : decode bM_bound 103 = .ok (.lload_n 2, 1) := by decide +kernel
theorem dM_bound_104 : decode bM_bound 104 = .ok (.aload_n 0, 1) := by decide +kernel
theorem dM_bound_105 : decode bM_bound 105 = .ok (.iload 4, 2) := by decide +kernel
theorem dM_bound_107 : decode bM_bound 107 = .ok (.invokevirtual 73, 3) := by decide +kernel
theorem dM_bound_110 : decode bM_bound 110 = .ok (.i2l, 1) := by decide +kernel
theorem dM_bound_111 : decode bM_bound 111 = .ok (.ladd, 1) := by decide +kernel
theorem dM_bound_112 : decode bM_bound 112 = .ok (.lstore_n 2, 1) := by decide +kernel
theorem dM_bound_113 : decode bM_bound 113 = .ok (.iinc 4 1, 3) := by decide +kernel
theorem dM_bound_116 : decode bM_bound 116 = .ok (.goto (-95), 3) := by decide +kernel
theorem dM_bound_119 : decode bM_bound 119 = .ok (.lconst 1, 1) := by decide +kernel
theorem dM_bound_120 : decode bM_bound 120 = .ok (.lstore 4, 2) := by decide +kernel
theorem dM_bound_122 : decode bM_bound 122 = .ok (.iconst 0, 1) := by decide +kernel
theorem dM_bound_123 : decode bM_bound 123 = .ok (.istore 6, 2) := by decide +kernel
theorem dM_bound_125 : decode bM_bound 125 = .ok (.iload 6, 2) := by decide +kernel
theorem dM_bound_127 : decode bM_bound 127 = .ok (.aload_n 0, 1) := by decide +kernel
theorem dM_bound_128 : decode bM_bound 128 = .ok (.getfield 45, 3) := by decide +kernel
theorem dM_bound_131 : decode bM_bound 131 = .ok (.if_icmp .ge 36, 3) := by decide +kernel
theorem dM_bound_134 : decode bM_bound 134 = .ok (.lload 4, 2) := by decide +kernel
theorem dM_bound_136 : decode bM_bound 136 = .ok (.aload_n 0, 1) := by decide +kernel
theorem dM_bound_137 : decode bM_bound 137 = .ok (.getfield 22, 3) := by decide +kernel
theorem dM_bound_140 : decode bM_bound 140 = .ok (.iload 6, 2) := by decide +kernel
theorem dM_bound_142 : decode bM_bound 142 = .ok (.baload, 1) := by decide +kernel
theorem dM_bound_143 : decode bM_bound 143 = .ok (.ifCond .eq 7, 3) := by decide +kernel
theorem dM_bound_146 : decode bM_bound 146 = .ok (.lconst 1, 1) := by decide +kernel
theorem dM_bound_147 : decode bM_bound 147 = .ok (.goto 11, 3) := by decide +kernel
theorem dM_bound_150 : decode bM_bound 150 = .ok (.aload_n 0, 1) := by decide +kernel
theorem dM_bound_151 : decode bM_bound 151 = .ok (.getfield 19, 3) := by decide +kernel
theorem dM_bound_154 : decode bM_bound 154 = .ok (.iload 6, 2) := by decide +kernel
theorem dM_bound_156 : decode bM_bound 156 = .ok (.iaload, 1) := by decide +kernel
theorem dM_bound_157 : decode bM_bound 157 = .ok (.i2l, 1) := by decide +kernel
theorem dM_bound_158 : decode bM_bound 158 = .ok (.lmul, 1) := by decide +kernel
theorem dM_bound_159 : decode bM_bound 159 = .ok (.lstore 4, 2) := by decide +kernel
theorem dM_bound_161 : decode bM_bound 161 = .ok (.iinc 6 1, 3) := by decide +kernel
theorem dM_bound_164 : decode bM_bound 164 = .ok (.goto (-39), 3) := by decide +kernel
theorem dM_bound_167 : decode bM_bound 167 = .ok (.lconst 0, 1) := by decide +kernel
theorem dM_bound_168 : decode bM_bound 168 = .ok (.lstore 6, 2) := by decide +kernel
theorem dM_bound_170 : decode bM_bound 170 = .ok (.iconst 0, 1) := by decide +kernel
theorem dM_bound_171 : decode bM_bound 171 = .ok (.istore 8, 2) := by decide +kernel
theorem dM_bound_173 : decode bM_bound 173 = .ok (.iload 8, 2) := by decide +kernel
theorem dM_bound_175 : decode bM_bound 175 = .ok (.aload_n 0, 1) := by decide +kernel
theorem dM_bound_176 : decode bM_bound 176 = .ok (.getfield 45, 3) := by decide +kernel
theorem dM_bound_179 : decode bM_bound 179 = .ok (.if_icmp .ge 48, 3) := by decide +kernel
theorem dM_bound_182 : decode bM_bound 182 = .ok (.lload 6, 2) := by decide +kernel
theorem dM_bound_184 : decode bM_bound 184 = .ok (.aload_n 0, 1) := by decide +kernel
theorem dM_bound_185 : decode bM_bound 185 = .ok (.getfield 22, 3) := by decide +kernel
theorem dM_bound_188 : decode bM_bound 188 = .ok (.iload 8, 2) := by decide +kernel
theorem dM_bound_190 : decode bM_bound 190 = .ok (.baload, 1) := by decide +kernel
theorem dM_bound_191 : decode bM_bound 191 = .ok (.ifCond .eq 7, 3) := by decide +kernel
theorem dM_bound_194 : decode bM_bound 194 = .ok (.lconst 0, 1) := by decide +kernel
theorem dM_bound_195 : decode bM_bound 195 = .ok (.goto 23, 3) := by decide +kernel
theorem dM_bound_198 : decode bM_bound 198 = .ok (.lload 4, 2) := by decide +kernel
theorem dM_bound_200 : decode bM_bound 200 = .ok (.aload_n 0, 1) := by decide +kernel
theorem dM_bound_201 : decode bM_bound 201 = .ok (.getfield 19, 3) := by decide +kernel
theorem dM_bound_204 : decode bM_bound 204 = .ok (.iload 8, 2) := by decide +kernel
theorem dM_bound_206 : decode bM_bound 206 = .ok (.iaload, 1) := by decide +kernel
theorem dM_bound_207 : decode bM_bound 207 = .ok (.i2l, 1) := by decide +kernel
theorem dM_bound_208 : decode bM_bound 208 = .ok (.ldiv, 1) := by decide +kernel
theorem dM_bound_209 : decode bM_bound 209 = .ok (.aload_n 0, 1) := by decide +kernel
theorem dM_bound_210 : decode bM_bound 210 = .ok (.getfield 16, 3) := by decide +kernel
theorem dM_bound_213 : decode bM_bound 213 = .ok (.iload 8, 2) := by decide +kernel
theorem dM_bound_215 : decode bM_bound 215 = .ok (.iaload, 1) := by decide +kernel
theorem dM_bound_216 : decode bM_bound 216 = .ok (.i2l, 1) := by decide +kernel
theorem dM_bound_217 : decode bM_bound 217 = .ok (.lmul, 1) := by decide +kernel
theorem dM_bound_218 : decode bM_bound 218 = .ok (.ladd, 1) := by decide +kernel
theorem dM_bound_219 : decode bM_bound 219 = .ok (.lstore 6, 2) := by decide +kernel
theorem dM_bound_221 : decode bM_bound 221 = .ok (.iinc 8 1, 3) := by decide +kernel
theorem dM_bound_224 : decode bM_bound 224 = .ok (.goto (-51), 3) := by decide +kernel
theorem dM_bound_227 : decode bM_bound 227 = .ok (.lload_n 2, 1) := by decide +kernel
theorem dM_bound_228 : decode bM_bound 228 = .ok (.lload 4, 2) := by decide +kernel
theorem dM_bound_230 : decode bM_bound 230 = .ok (.lmul, 1) := by decide +kernel
theorem dM_bound_231 : decode bM_bound 231 = .ok (.lload 6, 2) := by decide +kernel
theorem dM_bound_233 : decode bM_bound 233 = .ok (.ladd, 1) := by decide +kernel
theorem dM_bound_234 : decode bM_bound 234 = .ok (.lconst 1, 1) := by decide +kernel
theorem dM_bound_235 : decode bM_bound 235 = .ok (.lsub, 1) := by decide +kernel
theorem dM_bound_236 : decode bM_bound 236 = .ok (.lload 6, 2) := by decide +kernel
theorem dM_bound_238 : decode bM_bound 238 = .ok (.ldiv, 1) := by decide +kernel
theorem dM_bound_239 : decode bM_bound 239 = .ok (.l2i, 1) := by decide +kernel
theorem dM_bound_240 : decode bM_bound 240 = .ok (.istore 8, 2) := by decide +kernel
theorem dM_bound_242 : decode bM_bound 242 = .ok (.iload 8, 2) := by decide +kernel
theorem dM_bound_244 : decode bM_bound 244 = .ok (.iload_n 1, 1) := by decide +kernel
theorem dM_bound_245 : decode bM_bound 245 = .ok (.if_icmp .le 8, 3) := by decide +kernel
theorem dM_bound_248 : decode bM_bound 248 = .ok (.iload 8, 2) := by decide +kernel
theorem dM_bound_250 : decode bM_bound 250 = .ok (.goto 4, 3) := by decide +kernel
theorem dM_bound_253 : decode bM_bound 253 = .ok (.iload_n 1, 1) := by decide +kernel
theorem dM_bound_254 : decode bM_bound 254 = .ok (.ireturn, 1) := by decide +kernel
theorem dM_row_0 : decode bM_row 0 = .ok (.aload_n 0, 1) := by decide +kernel
theorem dM_row_1 : decode bM_row 1 = .ok (.getfield 65, 3) := by decide +kernel
theorem dM_row_4 : decode bM_row 4 = .ok (.ifCond .ne 9, 3) := by decide +kernel
theorem dM_row_7 : decode bM_row 7 = .ok (.aload_n 0, 1) := by decide +kernel
theorem dM_row_8 : decode bM_row 8 = .ok (.iconst 1, 1) := by decide +kernel
theorem dM_row_9 : decode bM_row 9 = .ok (.invokevirtual 58, 3) := by decide +kernel
theorem dM_row_12 : decode bM_row 12 = .ok (.ireturn, 1) := by decide +kernel
theorem dM_row_13 : decode bM_row 13 = .ok (.aload_n 0, 1) := by decide +kernel
theorem dM_row_14 : decode bM_row 14 = .ok (.invokevirtual 104, 3) := by decide +kernel
theorem dM_row_17 : decode bM_row 17 = .ok (.istore_n 3, 1) := by decide +kernel
theorem dM_row_18 : decode bM_row 18 = .ok (.iconst 0, 1) := by decide +kernel
theorem dM_row_19 : decode bM_row 19 = .ok (.istore 4, 2) := by decide +kernel
theorem dM_row_21 : decode bM_row 21 = .ok (.iconst (-1), 1) := by decide +kernel
theorem dM_row_22 : decode bM_row 22 = .ok (.istore 5, 2) := by decide +kernel
theorem dM_row_24 : decode bM_row 24 = .ok (.iconst 0, 1) := by decide +kernel
theorem dM_row_25 : decode bM_row 25 = .ok (.istore 6, 2) := by decide +kernel
theorem dM_row_27 : decode bM_row 27 = .ok (.iload 6, 2) := by decide +kernel
theorem dM_row_29 : decode bM_row 29 = .ok (.aload_n 0, 1) := by decide +kernel
theorem dM_row_30 : decode bM_row 30 = .ok (.getfield 62, 3) := by decide +kernel
theorem dM_row_33 : decode bM_row 33 = .ok (.if_icmp .ge 29, 3) := by decide +kernel
theorem dM_row_36 : decode bM_row 36 = .ok (.iload 4, 2) := by decide +kernel
theorem dM_row_38 : decode bM_row 38 = .ok (.aload_n 0, 1) := by decide +kernel
theorem dM_row_39 : decode bM_row 39 = .ok (.getfield 30, 3) := by decide +kernel
theorem dM_row_42 : decode bM_row 42 = .ok (.iload 6, 2) := by decide +kernel
theorem dM_row_44 : decode bM_row 44 = .ok (.iaload, 1) := by decide +kernel
theorem dM_row_45 : decode bM_row 45 = .ok (.ifCond .lt 7, 3) := by decide +kernel
theorem dM_row_48 : decode bM_row 48 = .ok (.iconst 1, 1) := by decide +kernel
theorem dM_row_49 : decode bM_row 49 = .ok (.goto 4, 3) := by decide +kernel
theorem dM_row_52 : decode bM_row 52 = .ok (.iconst 0, 1) := by decide +kernel
theorem dM_row_53 : decode bM_row 53 = .ok (.iadd, 1) := by decide +kernel
theorem dM_row_54 : decode bM_row 54 = .ok (.istore 4, 2) := by decide +kernel
theorem dM_row_56 : decode bM_row 56 = .ok (.iinc 6 1, 3) := by decide +kernel
theorem dM_row_59 : decode bM_row 59 = .ok (.goto (-32), 3) := by decide +kernel
theorem dM_row_62 : decode bM_row 62 = .ok (.iload_n 1, 1) := by decide +kernel
theorem dM_row_63 : decode bM_row 63 = .ok (.ifCond .lt 24, 3) := by decide +kernel
theorem dM_row_66 : decode bM_row 66 = .ok (.iload_n 1, 1) := by decide +kernel
theorem dM_row_67 : decode bM_row 67 = .ok (.iload 4, 2) := by decide +kernel
theorem dM_row_69 : decode bM_row 69 = .ok (.if_icmp .ge 18, 3) := by decide +kernel
theorem dM_row_72 : decode bM_row 72 = .ok (.iload_n 2, 1) := by decide +kernel
theorem dM_row_73 : decode bM_row 73 = .ok (.iconst 0, 1) := by decide +kernel
theorem dM_row_74 : decode bM_row 74 = .ok (.iconst 3, 1) := by decide +kernel
theorem dM_row_75 : decode bM_row 75 = .ok (.invokestatic 54, 3) := by decide +kernel
theorem dM_row_78 : decode bM_row 78 = .ok (.ifCond .eq 9, 3) := by decide +kernel
theorem dM_row_81 : decode bM_row 81 = .ok (.iload_n 3, 1) := by decide +kernel
theorem dM_row_82 : decode bM_row 82 = .ok (.ldc 84, 2) := by decide +kernel
theorem dM_row_84 : decode bM_row 84 = .ok (.if_icmp .ne 9, 3) := by decide +kernel
theorem dM_row_87 : decode bM_row 87 = .ok (.aload_n 0, 1) := by decide +kernel
theorem dM_row_88 : decode bM_row 88 = .ok (.iconst 2, 1) := by decide +kernel
theorem dM_row_89 : decode bM_row 89 = .ok (.invokevirtual 58, 3) := by decide +kernel
theorem dM_row_92 : decode bM_row 92 = .ok (.ireturn, 1) := by decide +kernel
theorem dM_row_93 : decode bM_row 93 = .ok (.aload_n 0, 1) := by decide +kernel
theorem dM_row_94 : decode bM_row 94 = .ok (.iconst 0, 1) := by decide +kernel
theorem dM_row_95 : decode bM_row 95 = .ok (.putfield 51, 3) := by decide +kernel
theorem dM_row_98 : decode bM_row 98 = .ok (.iconst 0, 1) := by decide +kernel
theorem dM_row_99 : decode bM_row 99 = .ok (.istore 6, 2) := by decide +kernel
theorem dM_row_101 : decode bM_row 101 = .ok (.iload 6, 2) := by decide +kernel
theorem dM_row_103 : decode bM_row 103 = .ok (.aload_n 0, 1) := by decide +kernel
theorem dM_row_104 : decode bM_row 104 = .ok (.getfield 62, 3) := by decide +kernel
theorem dM_row_107 : decode bM_row 107 = .ok (.if_icmp .ge 38, 3) := by decide +kernel
theorem dM_row_110 : decode bM_row 110 = .ok (.aload_n 0, 1) := by decide +kernel
theorem dM_row_111 : decode bM_row 111 = .ok (.getfield 30, 3) := by decide +kernel
theorem dM_row_114 : decode bM_row 114 = .ok (.iload 6, 2) := by decide +kernel
theorem dM_row_116 : decode bM_row 116 = .ok (.iaload, 1) := by decide +kernel
theorem dM_row_117 : decode bM_row 117 = .ok (.ifCond .lt 18, 3) := by decide +kernel
theorem dM_row_120 : decode bM_row 120 = .ok (.aload_n 0, 1) := by decide +kernel
theorem dM_row_121 : decode bM_row 121 = .ok (.iload 6, 2) := by decide +kernel
theorem dM_row_123 : decode bM_row 123 = .ok (.invokevirtual 107, 3) := by decide +kernel
theorem dM_row_126 : decode bM_row 126 = .ok (.iload_n 1, 1) := by decide +kernel
theorem dM_row_127 : decode bM_row 127 = .ok (.if_icmp .ne 8, 3) := by decide +kernel
theorem dM_row_130 : decode bM_row 130 = .ok (.iload 6, 2) := by decide +kernel
theorem dM_row_132 : decode bM_row 132 = .ok (.goto 5, 3) := by decide +kernel
theorem dM_row_135 : decode bM_row 135 = .ok (.iload 5, 2) := by decide +kernel
theorem dM_row_137 : decode bM_row 137 = .ok (.istore 5, 2) := by decide +kernel
theorem dM_row_139 : decode bM_row 139 = .ok (.iinc 6 1, 3) := by decide +kernel
theorem dM_row_142 : decode bM_row 142 = .ok (.goto (-41), 3) := by decide +kernel
theorem dM_row_145 : decode bM_row 145 = .ok (.aload_n 0, 1) := by decide +kernel
theorem dM_row_146 : decode bM_row 146 = .ok (.getfield 30, 3) := by decide +kernel
theorem dM_row_149 : decode bM_row 149 = .ok (.iload 5, 2) := by decide +kernel
theorem dM_row_151 : decode bM_row 151 = .ok (.iaload, 1) := by decide +kernel
theorem dM_row_152 : decode bM_row 152 = .ok (.istore 6, 2) := by decide +kernel
theorem dM_row_154 : decode bM_row 154 = .ok (.aload_n 0, 1) := by decide +kernel
theorem dM_row_155 : decode bM_row 155 = .ok (.getfield 36, 3) := by decide +kernel
theorem dM_row_158 : decode bM_row 158 = .ok (.bipush 8, 2) := by decide +kernel
theorem dM_row_160 : decode bM_row 160 = .ok (.iload 6, 2) := by decide +kernel
theorem dM_row_162 : decode bM_row 162 = .ok (.imul, 1) := by decide +kernel
theorem dM_row_163 : decode bM_row 163 = .ok (.iload 5, 2) := by decide +kernel
theorem dM_row_165 : decode bM_row 165 = .ok (.iadd, 1) := by decide +kernel
theorem dM_row_166 : decode bM_row 166 = .ok (.iaload, 1) := by decide +kernel
theorem dM_row_167 : decode bM_row 167 = .ok (.istore 7, 2) := by decide +kernel
theorem dM_row_169 : decode bM_row 169 = .ok (.iload_n 2, 1) := by decide +kernel
theorem dM_row_170 : decode bM_row 170 = .ok (.ifCond .ne 8, 3) := by decide +kernel
theorem dM_row_173 : decode bM_row 173 = .ok (.iload 7, 2) := by decide +kernel
theorem dM_row_175 : decode bM_row 175 = .ok (.goto 34, 3) := by decide +kernel
theorem dM_row_178 : decode bM_row 178 = .ok (.iload_n 2, 1) := by decide +kernel
theorem dM_row_179 : decode bM_row 179 = .ok (.iconst 1, 1) := by decide +kernel
theorem dM_row_180 : decode bM_row 180 = .ok (.if_icmp .ne 8, 3) := by decide +kernel
theorem dM_row_183 : decode bM_row 183 = .ok (.iload 6, 2) := by decide +kernel
theorem dM_row_185 : decode bM_row 185 = .ok (.goto 24, 3) := by decide +kernel
theorem dM_row_188 : decode bM_row 188 = .ok (.iload_n 2, 1) := by decide +kernel
theorem dM_row_189 : decode bM_row 189 = .ok (.iconst 2, 1) := by decide +kernel
theorem dM_row_190 : decode bM_row 190 = .ok (.if_icmp .ne 8, 3) := by decide +kernel
theorem dM_row_193 : decode bM_row 193 = .ok (.iload 5, 2) := by decide +kernel
theorem dM_row_195 : decode bM_row 195 = .ok (.goto 14, 3) := by decide +kernel
theorem dM_row_198 : decode bM_row 198 = .ok (.iload 7, 2) := by decide +kernel
theorem dM_row_200 : decode bM_row 200 = .ok (.aload_n 0, 1) := by decide +kernel
theorem dM_row_201 : decode bM_row 201 = .ok (.iload 6, 2) := by decide +kernel
theorem dM_row_203 : decode bM_row 203 = .ok (.iload 5, 2) := by decide +kernel
theorem dM_row_205 : decode bM_row 205 = .ok (.invokevirtual 76, 3) := by decide +kernel
theorem dM_row_208 : decode bM_row 208 = .ok (.iadd, 1) := by decide +kernel
theorem dM_row_209 : decode bM_row 209 = .ok (.ireturn, 1) := by decide +kernel
theorem dM_ahead_0 : decode bM_ahead 0 = .ok (.iconst 0, 1) := by decide +kernel
theorem dM_ahead_1 : decode bM_ahead 1 = .ok (.istore_n 2, 1) := by decide +kernel
theorem dM_ahead_2 : decode bM_ahead 2 = .ok (.aload_n 0, 1) := by decide +kernel
theorem dM_ahead_3 : decode bM_ahead 3 = .ok (.getfield 36, 3) := by decide +kernel
theorem dM_ahead_6 : decode bM_ahead 6 = .ok (.bipush 8, 2) := by decide +kernel
theorem dM_ahead_8 : decode bM_ahead 8 = .ok (.aload_n 0, 1) := by decide +kernel
theorem dM_ahead_9 : decode bM_ahead 9 = .ok (.getfield 30, 3) := by decide +kernel
theorem dM_ahead_12 : decode bM_ahead 12 = .ok (.iload_n 1, 1) := by decide +kernel
theorem dM_ahead_13 : decode bM_ahead 13 = .ok (.iaload, 1) := by decide +kernel
theorem dM_ahead_14 : decode bM_ahead 14 = .ok (.imul, 1) := by decide +kernel
theorem dM_ahead_15 : decode bM_ahead 15 = .ok (.iload_n 1, 1) := by decide +kernel
theorem dM_ahead_16 : decode bM_ahead 16 = .ok (.iadd, 1) := by decide +kernel
theorem dM_ahead_17 : decode bM_ahead 17 = .ok (.iaload, 1) := by decide +kernel
theorem dM_ahead_18 : decode bM_ahead 18 = .ok (.istore_n 3, 1) := by decide +kernel
theorem dM_ahead_19 : decode bM_ahead 19 = .ok (.iconst 0, 1) := by decide +kernel
theorem dM_ahead_20 : decode bM_ahead 20 = .ok (.istore 4, 2) := by decide +kernel
theorem dM_ahead_22 : decode bM_ahead 22 = .ok (.iload 4, 2) := by decide +kernel
theorem dM_ahead_24 : decode bM_ahead 24 = .ok (.aload_n 0, 1) := by decide +kernel
theorem dM_ahead_25 : decode bM_ahead 25 = .ok (.getfield 62, 3) := by decide +kernel
theorem dM_ahead_28 : decode bM_ahead 28 = .ok (.if_icmp .ge 94, 3) := by decide +kernel
theorem dM_ahead_31 : decode bM_ahead 31 = .ok (.aload_n 0, 1) := by decide +kernel
theorem dM_ahead_32 : decode bM_ahead 32 = .ok (.getfield 30, 3) := by decide +kernel
theorem dM_ahead_35 : decode bM_ahead 35 = .ok (.iload 4, 2) := by decide +kernel
theorem dM_ahead_37 : decode bM_ahead 37 = .ok (.iaload, 1) := by decide +kernel
theorem dM_ahead_38 : decode bM_ahead 38 = .ok (.ifCond .ge 8, 3) := by decide +kernel
theorem dM_ahead_41 : decode bM_ahead 41 = .ok (.ldc 84, 2) := by decide +kernel
theorem dM_ahead_43 : decode bM_ahead 43 = .ok (.goto 35, 3) := by decide +kernel
theorem dM_ahead_46 : decode bM_ahead 46 = .ok (.aload_n 0, 1) := by decide +kernel
theorem dM_ahead_47 : decode bM_ahead 47 = .ok (.getfield 36, 3) := by decide +kernel
theorem dM_ahead_50 : decode bM_ahead 50 = .ok (.bipush 8, 2) := by decide +kernel
theorem dM_ahead_52 : decode bM_ahead 52 = .ok (.aload_n 0, 1) := by decide +kernel
theorem dM_ahead_53 : decode bM_ahead 53 = .ok (.getfield 30, 3) := by decide +kernel
theorem dM_ahead_56 : decode bM_ahead 56 = .ok (.iload 4, 2) := by decide +kernel
theorem dM_ahead_58 : decode bM_ahead 58 = .ok (.iaload, 1) := by decide +kernel
theorem dM_ahead_59 : decode bM_ahead 59 = .ok (.ifCond .ge 7, 3) := by decide +kernel
theorem dM_ahead_62 : decode bM_ahead 62 = .ok (.iconst 0, 1) := by decide +kernel
theorem dM_ahead_63 : decode bM_ahead 63 = .ok (.goto 10, 3) := by decide +kernel
theorem dM_ahead_66 : decode bM_ahead 66 = .ok (.aload_n 0, 1) := by decide +kernel
theorem dM_ahead_67 : decode bM_ahead 67 = .ok (.getfield 30, 3) := by decide +kernel
theorem dM_ahead_70 : decode bM_ahead 70 = .ok (.iload 4, 2) := by decide +kernel
theorem dM_ahead_72 : decode bM_ahead 72 = .ok (.iaload, 1) := by decide +kernel
theorem dM_ahead_73 : decode bM_ahead 73 = .ok (.imul, 1) := by decide +kernel
theorem dM_ahead_74 : decode bM_ahead 74 = .ok (.iload 4, 2) := by decide +kernel
theorem dM_ahead_76 : decode bM_ahead 76 = .ok (.iadd, 1) := by decide +kernel
theorem dM_ahead_77 : decode bM_ahead 77 = .ok (.iaload, 1) := by decide +kernel
theorem dM_ahead_78 : decode bM_ahead 78 = .ok (.istore 5, 2) := by decide +kernel
theorem dM_ahead_80 : decode bM_ahead 80 = .ok (.iload_n 2, 1) := by decide +kernel
theorem dM_ahead_81 : decode bM_ahead 81 = .ok (.iload 5, 2) := by decide +kernel
theorem dM_ahead_83 : decode bM_ahead 83 = .ok (.iload_n 3, 1) := by decide +kernel
theorem dM_ahead_84 : decode bM_ahead 84 = .ok (.if_icmp .lt 25, 3) := by decide +kernel
theorem dM_ahead_87 : decode bM_ahead 87 = .ok (.iload 5, 2) := by decide +kernel
theorem dM_ahead_89 : decode bM_ahead 89 = .ok (.iload_n 3, 1) := by decide +kernel
theorem dM_ahead_90 : decode bM_ahead 90 = .ok (.if_icmp .ne 23, 3) := by decide +kernel
theorem dM_ahead_93 : decode bM_ahead 93 = .ok (.aload_n 0, 1) := by decide +kernel
theorem dM_ahead_94 : decode bM_ahead 94 = .ok (.getfield 30, 3) := by decide +kernel
theorem dM_ahead_97 : decode bM_ahead 97 = .ok (.iload 4, 2) := by decide +kernel
theorem dM_ahead_99 : decode bM_ahead 99 = .ok (.iaload, 1) := by decide +kernel
theorem dM_ahead_100 : decode bM_ahead 100 = .ok (.aload_n 0, 1) := by decide +kernel
theorem dM_ahead_101 : decode bM_ahead 101 = .ok (.getfield 30, 3) := by decide +kernel
theorem dM_ahead_104 : decode bM_ahead 104 = .ok (.iload_n 1, 1) := by decide +kernel
theorem dM_ahead_105 : decode bM_ahead 105 = .ok (.iaload, 1) := by decide +kernel
theorem dM_ahead_106 : decode bM_ahead 106 = .ok (.if_icmp .ge 7, 3) := by decide +kernel
theorem dM_ahead_109 : decode bM_ahead 109 = .ok (.iconst 1, 1) := by decide +kernel
theorem dM_ahead_110 : decode bM_ahead 110 = .ok (.goto 4, 3) := by decide +kernel
theorem dM_ahead_113 : decode bM_ahead 113 = .ok (.iconst 0, 1) := by decide +kernel
theorem dM_ahead_114 : decode bM_ahead 114 = .ok (.iadd, 1) := by decide +kernel
theorem dM_ahead_115 : decode bM_ahead 115 = .ok (.istore_n 2, 1) := by decide +kernel
theorem dM_ahead_116 : decode bM_ahead 116 = .ok (.iinc 4 1, 3) := by decide +kernel
theorem dM_ahead_119 : decode bM_ahead 119 = .ok (.goto (-97), 3) := by decide +kernel
theorem dM_ahead_122 : decode bM_ahead 122 = .ok (.iload_n 2, 1) := by decide +kernel
theorem dM_ahead_123 : decode bM_ahead 123 = .ok (.ireturn, 1) := by decide +kernel
theorem dM_look_0 : decode bM_look 0 = .ok (.iload_n 1, 1) := by decide +kernel
theorem dM_look_1 : decode bM_look 1 = .ok (.ifCond .lt 20, 3) := by decide +kernel
theorem dM_look_4 : decode bM_look 4 = .ok (.iload_n 1, 1) := by decide +kernel
theorem dM_look_5 : decode bM_look 5 = .ok (.aload_n 0, 1) := by decide +kernel
theorem dM_look_6 : decode bM_look 6 = .ok (.getfield 62, 3) := by decide +kernel
theorem dM_look_9 : decode bM_look 9 = .ok (.if_icmp .ge 12, 3) := by decide +kernel
theorem dM_look_12 : decode bM_look 12 = .ok (.iload_n 2, 1) := by decide +kernel
theorem dM_look_13 : decode bM_look 13 = .ok (.iconst 0, 1) := by decide +kernel
theorem dM_look_14 : decode bM_look 14 = .ok (.iconst 2, 1) := by decide +kernel
theorem dM_look_15 : decode bM_look 15 = .ok (.invokestatic 54, 3) := by decide +kernel
theorem dM_look_18 : decode bM_look 18 = .ok (.ifCond .ne 9, 3) := by decide +kernel
theorem dM_look_21 : decode bM_look 21 = .ok (.aload_n 0, 1) := by decide +kernel
theorem dM_look_22 : decode bM_look 22 = .ok (.iconst 1, 1) := by decide +kernel
theorem dM_look_23 : decode bM_look 23 = .ok (.invokevirtual 58, 3) := by decide +kernel
theorem dM_look_26 : decode bM_look 26 = .ok (.ireturn, 1) := by decide +kernel
theorem dM_look_27 : decode bM_look 27 = .ok (.aload_n 0, 1) := by decide +kernel
theorem dM_look_28 : decode bM_look 28 = .ok (.iconst 0, 1) := by decide +kernel
theorem dM_look_29 : decode bM_look 29 = .ok (.putfield 51, 3) := by decide +kernel
theorem dM_look_32 : decode bM_look 32 = .ok (.iload_n 2, 1) := by decide +kernel
theorem dM_look_33 : decode bM_look 33 = .ok (.ifCond .ne 12, 3) := by decide +kernel
theorem dM_look_36 : decode bM_look 36 = .ok (.aload_n 0, 1) := by decide +kernel
theorem dM_look_37 : decode bM_look 37 = .ok (.getfield 7, 3) := by decide +kernel
theorem dM_look_40 : decode bM_look 40 = .ok (.iload_n 1, 1) := by decide +kernel
theorem dM_look_41 : decode bM_look 41 = .ok (.iaload, 1) := by decide +kernel
theorem dM_look_42 : decode bM_look 42 = .ok (.goto 34, 3) := by decide +kernel
theorem dM_look_45 : decode bM_look 45 = .ok (.iload_n 2, 1) := by decide +kernel
theorem dM_look_46 : decode bM_look 46 = .ok (.iconst 1, 1) := by decide +kernel
theorem dM_look_47 : decode bM_look 47 = .ok (.if_icmp .ne 12, 3) := by decide +kernel
theorem dM_look_50 : decode bM_look 50 = .ok (.aload_n 0, 1) := by decide +kernel
theorem dM_look_51 : decode bM_look 51 = .ok (.getfield 13, 3) := by decide +kernel
theorem dM_look_54 : decode bM_look 54 = .ok (.iload_n 1, 1) := by decide +kernel
theorem dM_look_55 : decode bM_look 55 = .ok (.iaload, 1) := by decide +kernel
theorem dM_look_56 : decode bM_look 56 = .ok (.goto 20, 3) := by decide +kernel
theorem dM_look_59 : decode bM_look 59 = .ok (.aload_n 0, 1) := by decide +kernel
theorem dM_look_60 : decode bM_look 60 = .ok (.getfield 65, 3) := by decide +kernel
theorem dM_look_63 : decode bM_look 63 = .ok (.ifCond .eq 12, 3) := by decide +kernel
theorem dM_look_66 : decode bM_look 66 = .ok (.aload_n 0, 1) := by decide +kernel
theorem dM_look_67 : decode bM_look 67 = .ok (.getfield 33, 3) := by decide +kernel
theorem dM_look_70 : decode bM_look 70 = .ok (.iload_n 1, 1) := by decide +kernel
theorem dM_look_71 : decode bM_look 71 = .ok (.iaload, 1) := by decide +kernel
theorem dM_look_72 : decode bM_look 72 = .ok (.goto 4, 3) := by decide +kernel
theorem dM_look_75 : decode bM_look 75 = .ok (.iconst (-1), 1) := by decide +kernel
theorem dM_look_76 : decode bM_look 76 = .ok (.ireturn, 1) := by decide +kernel
theorem dM_count_0 : decode bM_count 0 = .ok (.aload_n 0, 1) := by decide +kernel
theorem dM_count_1 : decode bM_count 1 = .ok (.iconst 0, 1) := by decide +kernel
theorem dM_count_2 : decode bM_count 2 = .ok (.putfield 51, 3) := by decide +kernel
theorem dM_count_5 : decode bM_count 5 = .ok (.iconst 0, 1) := by decide +kernel
theorem dM_count_6 : decode bM_count 6 = .ok (.istore_n 2, 1) := by decide +kernel
theorem dM_count_7 : decode bM_count 7 = .ok (.iconst 0, 1) := by decide +kernel
theorem dM_count_8 : decode bM_count 8 = .ok (.istore_n 3, 1) := by decide +kernel
theorem dM_count_9 : decode bM_count 9 = .ok (.iconst 0, 1) := by decide +kernel
theorem dM_count_10 : decode bM_count 10 = .ok (.istore 4, 2) := by decide +kernel
theorem dM_count_12 : decode bM_count 12 = .ok (.iload 4, 2) := by decide +kernel
theorem dM_count_14 : decode bM_count 14 = .ok (.aload_n 0, 1) := by decide +kernel
theorem dM_count_15 : decode bM_count 15 = .ok (.getfield 62, 3) := by decide +kernel
theorem dM_count_18 : decode bM_count 18 = .ok (.if_icmp .ge 43, 3) := by decide +kernel
theorem dM_count_21 : decode bM_count 21 = .ok (.iload_n 2, 1) := by decide +kernel
theorem dM_count_22 : decode bM_count 22 = .ok (.aload_n 0, 1) := by decide +kernel
theorem dM_count_23 : decode bM_count 23 = .ok (.iload 4, 2) := by decide +kernel
theorem dM_count_25 : decode bM_count 25 = .ok (.invokevirtual 73, 3) := by decide +kernel
theorem dM_count_28 : decode bM_count 28 = .ok (.iadd, 1) := by decide +kernel
theorem dM_count_29 : decode bM_count 29 = .ok (.istore_n 2, 1) := by decide +kernel
theorem dM_count_30 : decode bM_count 30 = .ok (.iload_n 3, 1) := by decide +kernel
theorem dM_count_31 : decode bM_count 31 = .ok (.aload_n 0, 1) := by decide +kernel
theorem dM_count_32 : decode bM_count 32 = .ok (.getfield 65, 3) := by decide +kernel
theorem dM_count_35 : decode bM_count 35 = .ok (.ifCond .eq 17, 3) := by decide +kernel
theorem dM_count_38 : decode bM_count 38 = .ok (.aload_n 0, 1) := by decide +kernel
theorem dM_count_39 : decode bM_count 39 = .ok (.getfield 33, 3) := by decide +kernel
theorem dM_count_42 : decode bM_count 42 = .ok (.iload 4, 2) := by decide +kernel
theorem dM_count_44 : decode bM_count 44 = .ok (.iaload, 1) := by decide +kernel
theorem dM_count_45 : decode bM_count 45 = .ok (.ifCond .lt 7, 3) := by decide +kernel
theorem dM_count_48 : decode bM_count 48 = .ok (.iconst 1, 1) := by decide +kernel
theorem dM_count_49 : decode bM_count 49 = .ok (.goto 4, 3) := by decide +kernel
theorem dM_count_52 : decode bM_count 52 = .ok (.iconst 0, 1) := by decide +kernel
theorem dM_count_53 : decode bM_count 53 = .ok (.iadd, 1) := by decide +kernel
theorem dM_count_54 : decode bM_count 54 = .ok (.istore_n 3, 1) := by decide +kernel
theorem dM_count_55 : decode bM_count 55 = .ok (.iinc 4 1, 3) := by decide +kernel
theorem dM_count_58 : decode bM_count 58 = .ok (.goto (-46), 3) := by decide +kernel
theorem dM_count_61 : decode bM_count 61 = .ok (.iload_n 1, 1) := by decide +kernel
theorem dM_count_62 : decode bM_count 62 = .ok (.tableswitch 105 0 5 #[38, 43, 48, 61, 90, 103], 38) := by decide +kernel
theorem dM_count_100 : decode bM_count 100 = .ok (.aload_n 0, 1) := by decide +kernel
theorem dM_count_101 : decode bM_count 101 = .ok (.getfield 62, 3) := by decide +kernel
theorem dM_count_104 : decode bM_count 104 = .ok (.ireturn, 1) := by decide +kernel
theorem dM_count_105 : decode bM_count 105 = .ok (.aload_n 0, 1) := by decide +kernel
theorem dM_count_106 : decode bM_count 106 = .ok (.invokevirtual 98, 3) := by decide +kernel
theorem dM_count_109 : decode bM_count 109 = .ok (.ireturn, 1) := by decide +kernel
theorem dM_count_110 : decode bM_count 110 = .ok (.aload_n 0, 1) := by decide +kernel
theorem dM_count_111 : decode bM_count 111 = .ok (.getfield 65, 3) := by decide +kernel
theorem dM_count_114 : decode bM_count 114 = .ok (.ifCond .eq 7, 3) := by decide +kernel
theorem dM_count_117 : decode bM_count 117 = .ok (.iconst 1, 1) := by decide +kernel
theorem dM_count_118 : decode bM_count 118 = .ok (.goto 4, 3) := by decide +kernel
theorem dM_count_121 : decode bM_count 121 = .ok (.iconst 0, 1) := by decide +kernel
theorem dM_count_122 : decode bM_count 122 = .ok (.ireturn, 1) := by decide +kernel
theorem dM_count_123 : decode bM_count 123 = .ok (.aload_n 0, 1) := by decide +kernel
theorem dM_count_124 : decode bM_count 124 = .ok (.getfield 65, 3) := by decide +kernel
theorem dM_count_127 : decode bM_count 127 = .ok (.ifCond .ne 7, 3) := by decide +kernel
theorem dM_count_130 : decode bM_count 130 = .ok (.iconst (-1), 1) := by decide +kernel
theorem dM_count_131 : decode bM_count 131 = .ok (.goto 20, 3) := by decide +kernel
theorem dM_count_134 : decode bM_count 134 = .ok (.aload_n 0, 1) := by decide +kernel
theorem dM_count_135 : decode bM_count 135 = .ok (.invokevirtual 104, 3) := by decide +kernel
theorem dM_count_138 : decode bM_count 138 = .ok (.ldc 84, 2) := by decide +kernel
theorem dM_count_140 : decode bM_count 140 = .ok (.if_icmp .ge 10, 3) := by decide +kernel
theorem dM_count_143 : decode bM_count 143 = .ok (.aload_n 0, 1) := by decide +kernel
theorem dM_count_144 : decode bM_count 144 = .ok (.invokevirtual 92, 3) := by decide +kernel
theorem dM_count_147 : decode bM_count 147 = .ok (.goto 4, 3) := by decide +kernel
theorem dM_count_150 : decode bM_count 150 = .ok (.iconst 0, 1) := by decide +kernel
theorem dM_count_151 : decode bM_count 151 = .ok (.ireturn, 1) := by decide +kernel
theorem dM_count_152 : decode bM_count 152 = .ok (.aload_n 0, 1) := by decide +kernel
theorem dM_count_153 : decode bM_count 153 = .ok (.getfield 65, 3) := by decide +kernel
theorem dM_count_156 : decode bM_count 156 = .ok (.ifCond .eq 7, 3) := by decide +kernel
theorem dM_count_159 : decode bM_count 159 = .ok (.iload_n 3, 1) := by decide +kernel
theorem dM_count_160 : decode bM_count 160 = .ok (.goto 4, 3) := by decide +kernel
theorem dM_count_163 : decode bM_count 163 = .ok (.iconst (-1), 1) := by decide +kernel
theorem dM_count_164 : decode bM_count 164 = .ok (.ireturn, 1) := by decide +kernel
theorem dM_count_165 : decode bM_count 165 = .ok (.iload_n 2, 1) := by decide +kernel
theorem dM_count_166 : decode bM_count 166 = .ok (.ireturn, 1) := by decide +kernel
theorem dM_count_167 : decode bM_count 167 = .ok (.iconst (-1), 1) := by decide +kernel
theorem dM_count_168 : decode bM_count 168 = .ok (.ireturn, 1) := by decide +kernel
